theorem q_ok {S : St} {q : Int32} (hD : 0 ≤ (sD S).toInt ∧ (sD S).toInt ≤ 3000) (h : ¬ q < 0) (h2 : q ≤ nI (ix (sD S) / 90)) : isIx q (ix (sD S) / 90 + 1) = true := by
  have h3 : ix (sD S) = (sD S).toInt.toNat := (Int32.toNat_toInt (sD S)).symm
  have h0 : (0 : Int32).toInt = 0 := by decide
  rw [i_lt, h0] at h
  rw [i_le, nI_toInt (by omega)] at h2
  rw [isIx_iff]; omega
theorem q_no {S : St} {q : Int32} (hD : 0 ≤ (sD S).toInt ∧ (sD S).toInt ≤ 3000) (h : q < 0 ∨ ¬ q ≤ nI (ix (sD S) / 90)) : isIx q (ix (sD S) / 90 + 1) = false := by
  have h3 : ix (sD S) = (sD S).toInt.toNat := (Int32.toNat_toInt (sD S)).symm
  have h0 : (0 : Int32).toInt = 0 := by decide
  rw [isIx_no]
  rcases h with h | h
  · rw [i_lt, h0] at h; omega
  · rw [i_le, nI_toInt (by omega)] at h; omega
theorem rdI_m1 {S : St} {t v q : Nat} (hI : Inv S t) (hq : q < ix (sD S) / 90 + 1) : rdI (rday S v q) = -1 ↔ rday S v q = none := by
  have hD := hI.bD
  have h3 : ix (sD S) = (sD S).toInt.toNat := (Int32.toNat_toInt (sD S)).symm
  cases h : rday S v q with
  | none => exact ⟨fun _ => rfl, fun _ => rfl⟩
  | some d =>
    refine ⟨fun e => ?_, fun e => by cases e⟩
    unfold rday at h
    cases g : fday (sT S 2 v) (90 * q) (qlen (ix (sD S)) q) with
    | none => rw [g] at h; cases h
    | some k =>
      rw [g] at h
      simp only [Option.map_some, Option.some.injEq] at h
      have g1 := (fst1_some g).1
      have g2 := (q_len hq).2
      have g3 : (nI d).toInt = (d : Int) := nI_toInt (by omega)
      have g4 : (-1 : Int32).toInt = -1 := by decide
      have g5 : nI d = -1 := e
      rw [g5, g4] at g3
      omega
theorem ct_X5_due {G : Gt} {l : Launch} (hst : l.stackTraces = false) {M : Mm} {m : Nat} {S : St} {t : Nat} (hM : MAt M m S t) (hI : Inv S t) (hlt : t < 512) (v q : Int32) : Ct G l yX5_due cX5_due 3 (some .int) 8 M [rv m, .int v, .int q] 0 0 (Op M m t (oDue S v q)) (noX) := by
  obtain ⟨a0, nP, nR, nS, a1, bR, bS, bt⟩ := id hM
  have bPs := a1.bPs; have bK := a1.bK; have bV := a1.bV; have bPl := a1.bP; have bN := a1.bN
  have hdv := div90 hI.bD
  have hbD := hI.bD
  refine Ct_intro (own := RX5) (nm := "due") (by decide +kernel) rfl rfl hst (fun w hw => by simp only [List.mem_cons, List.not_mem_nil, or_false] at hw; rcases hw with rfl | rfl | rfl <;> first | rfl | exact rv_cat _) (Nat.le_of_ble_eq_true rfl) (fun γ hC => ?_)
  show J G γ M 0 [some (rv m), some (.int v), some (.int q)] [] 0 0
  refine J_aload_n hC dX5_due_0 rfl rfl ?_
  refine J_iload_n hC dX5_due_1 rfl rfl ?_
  refine J_callV (k1 := 0) (n1 := 0) (kd := 6) [.int v] [.int v, rv m] hC lv_X5_147 (ct_X5_isVehicle hst hM v) a0.t (by decide) ⟨_, mE_6 a0.t⟩ rfl rfl rfl (by simp only [List.map_cons, List.map_nil, rv_cat, Value.category, List.sum_cons, List.sum_nil]; decide) (by decide) rfl rfl (by decide) (by decide) dX5_due_2 (fun E M9 h => h.elim) (fun v9 M9 hq9 => ?_)
  obtain ⟨rfl, e9⟩ := hq9
  rw [e9]; clear e9
  refine J_if_ne hC dX5_due_5 (tgt := 14) (by decide) (fun c5 => ?_) (fun c5 => ?_)
  · have hv : (isIx v (sN S 1)) = true := bz_ne0 c5
    have xv := (isIx_ix hv).2
    refine J_iload_n hC dX5_due_14 rfl rfl ?_
    refine J_if_lt hC dX5_due_15 (tgt := 29) (by decide) (fun c15 => ?_) (fun c15 => ?_)
    · refine J_aload_n hC dX5_due_29 rfl rfl ?_
      refine J_iconst hC dX5_due_30 (v := 2) (by decide) ?_
      refine J_callV (k1 := 0) (n1 := 0) (kd := 6) [.int 2] [.int 2, rv m] hC lv_X5_116 (ct_X5_fails hst (M := M) a0 2) a0.t (by decide) ⟨_, mE_6 a0.t⟩ rfl rfl rfl (by simp only [List.map_cons, List.map_nil, rv_cat, Value.category, List.sum_cons, List.sum_nil]; decide) (by decide) rfl rfl (by decide) (by decide) dX5_due_31 (fun E M9 h => h.elim) (fun v9 M9 hq9 => ?_)
      obtain ⟨rfl, rfl⟩ := hq9
      refine J_iret hC (by decide) (by decide) dX5_due_34 ?_
      refine op_no hM hlt (k := 2) ?_ rfl
      unfold oDue
      rw [if_neg (by rw [hv]; simp), if_pos (q_no hbD (by first | exact Or.inl c15 | exact Or.inr c26))]
    · refine J_iload_n hC dX5_due_18 rfl rfl ?_
      refine J_aload_n hC dX5_due_19 rfl rfl ?_
      refine J_get6 hC lf_X5_97 (j := 5) a0.t (v := .int (sD S)) (congrArg (fun z => some (Value.int z)) a1.s5) dX5_due_20 ?_
      refine J_bipush hC dX5_due_23 (v := 90) (by decide) ?_
      refine J_idiv hC dX5_due_25 (by decide) ?_
      refine J_icmp_le hC dX5_due_26 (tgt := 35) (by decide) (fun c26 => ?_) (fun c26 => ?_)
      · rw [hdv] at c26
        have hq := q_ok hbD c15 c26
        refine J_aload_n hC dX5_due_35 rfl rfl ?_
        refine J_iconst hC dX5_due_36 (v := 0) (by decide) ?_
        refine J_put6_0 hC lf_X5_80 a0.t dX5_due_37 ?_
        refine J_aload_n hC dX5_due_40 rfl rfl ?_
        refine J_iload_n hC dX5_due_41 rfl rfl ?_
        refine J_iload_n hC dX5_due_42 rfl rfl ?_
        refine J_callV (k1 := 0) (n1 := 0) (kd := 6) [.int v, .int q] [.int q, .int v, rv m] hC lv_X5_217 (ct_X5_first hst (MAt.thr hM 0) hI v q hv hq) a0.t (by decide) ⟨_, mE_6 a0.t⟩ rfl rfl rfl (by simp only [List.map_cons, List.map_nil, rv_cat, Value.category, List.sum_cons, List.sum_nil]; decide) (by decide) rfl rfl (by decide) (by decide) dX5_due_43 (fun E M9 h => h.elim) (fun v9 M9 hq9 => ?_)
        obtain ⟨rfl, e9⟩ := hq9
        rw [e9]; clear e9
        refine J_iconst hC dX5_due_46 (v := -1) (by decide) ?_
        refine J_icmp_ne hC dX5_due_47 (tgt := 54) (by decide) (fun c47 => ?_) (fun c47 => ?_)
        · have q47 : ¬ rdI (rday S (ix v) (ix q)) = -1 := c47
          refine J_aload_n hC dX5_due_54 rfl rfl ?_
          refine J_get6 hC lf_X5_13 (j := 11) a0.t (v := rv (mR M m 11)) rfl dX5_due_55 ?_
          refine J_iload_n hC dX5_due_58 rfl rfl ?_
          refine J_iald hC a0.a11 (j := (ix v)) (isIx_ix hv).1 (Nat.lt_of_lt_of_eq (by omega) a0.l11.symm) dX5_due_59 ?_
          rw [show mI (pI M m 0 0) (mR M m 11) (ix v) = sV S (ix v) 1 from ((up2_b _ _ _ _ (a0.ne (by decide) (by decide)).symm : mI (pI M m 0 0) (mR M m 11) (ix v) = mI M (mR M m 11) (ix v)).trans (a1.kind _ xv))]
          refine J_callS (k1 := 0) (n1 := 0) [.int (sV S (ix v) 1)] [.int (sV S (ix v) 1)] hC ls_X5_220 (ct_X5_tax hst _) rfl rfl (by simp only [List.map_cons, List.map_nil, rv_cat, Value.category, List.sum_cons, List.sum_nil]; decide) (by decide) rfl rfl (by decide) (by decide) dX5_due_60 (fun E M9 h => h.elim) (fun v9 M9 hq9 => ?_)
          obtain ⟨rfl, e9⟩ := hq9
          rw [e9]; clear e9
          refine J_iret hC (by decide) (by decide) dX5_due_63 ?_
          refine op_ok hM hlt ?_
          unfold oDue
          rw [if_neg (by rw [hv]; simp), if_neg (by rw [hq]; simp), if_neg (fun e => q47 ((rdI_m1 hI (isIx_ix hq).2).mpr e))]
        · have q47 : rdI (rday S (ix v) (ix q)) = -1 := (nn c47)
          refine J_iconst hC dX5_due_50 (v := 0) (by decide) ?_
          refine J_goto hC dX5_due_51 (tgt := 63) (by decide) ?_
          refine J_iret hC (by decide) (by decide) dX5_due_63 ?_
          refine op_ok hM hlt ?_
          unfold oDue
          rw [if_neg (by rw [hv]; simp), if_neg (by rw [hq]; simp), if_pos ((rdI_m1 hI (isIx_ix hq).2).mp q47)]
      · rw [hdv] at c26
        refine J_aload_n hC dX5_due_29 rfl rfl ?_
        refine J_iconst hC dX5_due_30 (v := 2) (by decide) ?_
        refine J_callV (k1 := 0) (n1 := 0) (kd := 6) [.int 2] [.int 2, rv m] hC lv_X5_116 (ct_X5_fails hst (M := M) a0 2) a0.t (by decide) ⟨_, mE_6 a0.t⟩ rfl rfl rfl (by simp only [List.map_cons, List.map_nil, rv_cat, Value.category, List.sum_cons, List.sum_nil]; decide) (by decide) rfl rfl (by decide) (by decide) dX5_due_31 (fun E M9 h => h.elim) (fun v9 M9 hq9 => ?_)
        obtain ⟨rfl, rfl⟩ := hq9
        refine J_iret hC (by decide) (by decide) dX5_due_34 ?_
        refine op_no hM hlt (k := 2) ?_ rfl
        unfold oDue
        rw [if_neg (by rw [hv]; simp), if_pos (q_no hbD (by first | exact Or.inl c15 | exact Or.inr c26))]
  · have nv : (isIx v (sN S 1)) = false := bz_eq0 (nn c5)
    refine J_aload_n hC dX5_due_8 rfl rfl ?_
    refine J_iconst hC dX5_due_9 (v := 1) (by decide) ?_
    refine J_callV (k1 := 0) (n1 := 0) (kd := 6) [.int 1] [.int 1, rv m] hC lv_X5_116 (ct_X5_fails hst (M := M) a0 1) a0.t (by decide) ⟨_, mE_6 a0.t⟩ rfl rfl rfl (by simp only [List.map_cons, List.map_nil, rv_cat, Value.category, List.sum_cons, List.sum_nil]; decide) (by decide) rfl rfl (by decide) (by decide) dX5_due_10 (fun E M9 h => h.elim) (fun v9 M9 hq9 => ?_)
    obtain ⟨rfl, rfl⟩ := hq9
    refine J_iret hC (by decide) (by decide) dX5_due_13 ?_
    refine op_no hM hlt (k := 1) ?_ rfl
    simp [oDue, nv]
theorem most_s (f : Nat → Int32) (n : Nat) : most f (n + 1) = if (most f n).2 < f n then (nI n, f n) else most f n := rfl
theorem ct_X5_mostOwing {G : Gt} {l : Launch} (hst : l.stackTraces = false) {M : Mm} {m : Nat} {S : St} {t : Nat} (hM : MAt M m S t) (hI : Inv S t) (hlt : t < 512)  : Ct G l yX5_mostOwing cX5_mostOwing 5 (some .int) 8 M [rv m] 0 0 (Op M m t (oMost S)) (noX) := by
  obtain ⟨a0, nP, nR, nS, a1, bR, bS, bt⟩ := id hM
  have bPs := a1.bPs; have bK := a1.bK; have bV := a1.bV; have bPl := a1.bP; have bN := a1.bN
  refine Ct_intro (own := RX5) (nm := "mostOwing") (by decide +kernel) rfl rfl hst (fun w hw => by simp only [List.mem_cons, List.not_mem_nil, or_false] at hw; rcases hw with rfl <;> first | rfl | exact rv_cat _) (Nat.le_of_ble_eq_true rfl) (fun γ hC => ?_)
  show J G γ M 0 [some (rv m)] [] 0 0
  refine J_iconst hC dX5_mostOwing_0 (v := -1) (by decide) ?_
  refine J_istore_n hC dX5_mostOwing_1 rfl (by decide) (ls1 := [some (rv m), some (.int (-1))]) rfl ?_
  refine J_iconst hC dX5_mostOwing_2 (v := 0) (by decide) ?_
  refine J_istore_n hC dX5_mostOwing_3 rfl (by decide) (ls1 := [some (rv m), some (.int (-1)), some (.int 0)]) rfl ?_
  refine J_iconst hC dX5_mostOwing_4 (v := 0) (by decide) ?_
  refine J_istore_n hC dX5_mostOwing_5 rfl (by decide) (ls1 := [some (rv m), some (.int (-1)), some (.int 0), some (.int 0)]) rfl ?_
  have L6 : ∀ (n9 : Nat) (j : Nat) (best mst : Int32), sN S 0 - j < n9 → (j ≤ sN S 0) → (most (owe S) j = (best, mst)) → J G γ M 6 [some (rv m), some (.int best), some (.int mst), some (.int (nI j))] [] 0 0 := by
    intro n9
    induction n9 with
    | zero => intro j best mst h9; exact absurd h9 (Nat.not_lt_zero _)
    | succ n9 ih =>
      intro j best mst h9 hj hi
      refine J_iload_n hC dX5_mostOwing_6 rfl rfl ?_
      refine J_aload_n hC dX5_mostOwing_7 rfl rfl ?_
      refine J_get6 hC lf_X5_84 (j := 1) a0.t (v := .int (nI (sN S 0))) (congrArg (fun z => some (Value.int z)) a1.s1) dX5_mostOwing_8 ?_
      refine J_icmp_ge hC dX5_mostOwing_11 (tgt := 38) (by decide) (fun c11 => ?_) (fun c11 => ?_)
      · have hge := le_nI (by omega) (by omega) c11
        have hjj : j = sN S 0 := by omega
        rw [hjj] at hi
        refine J_aload_n hC dX5_mostOwing_38 rfl rfl ?_
        refine J_iload_n hC dX5_mostOwing_39 rfl rfl ?_
        refine J_iconst hC dX5_mostOwing_40 (v := -1) (by decide) ?_
        refine J_icmp_ne hC dX5_mostOwing_41 (tgt := 48) (by decide) (fun c41 => ?_) (fun c41 => ?_)
        · have q41 : ¬ best = -1 := c41
          refine J_iconst hC dX5_mostOwing_48 (v := 0) (by decide) ?_
          refine J_put6_0 hC lf_X5_80 a0.t dX5_mostOwing_49 ?_
          refine J_iload_n hC dX5_mostOwing_52 rfl rfl ?_
          refine J_iconst hC dX5_mostOwing_53 (v := -1) (by decide) ?_
          refine J_icmp_ne hC dX5_mostOwing_54 (tgt := 61) (by decide) (fun c54 => ?_) (fun c54 => ?_)
          · refine J_iload_n hC dX5_mostOwing_61 rfl rfl ?_
            refine J_iret hC (by decide) (by decide) dX5_mostOwing_62 ?_
            refine op_ok hM hlt ?_
            unfold oMost
            rw [hi]
            exact if_neg q41
          · exact absurd q41 c54
        · have q41 : best = -1 := (nn c41)
          refine J_iconst hC dX5_mostOwing_44 (v := 1) (by decide) ?_
          refine J_goto hC dX5_mostOwing_45 (tgt := 49) (by decide) ?_
          refine J_put6_0 hC lf_X5_80 a0.t dX5_mostOwing_49 ?_
          refine J_iload_n hC dX5_mostOwing_52 rfl rfl ?_
          refine J_iconst hC dX5_mostOwing_53 (v := -1) (by decide) ?_
          refine J_icmp_ne hC dX5_mostOwing_54 (tgt := 61) (by decide) (fun c54 => ?_) (fun c54 => ?_)
          · exact absurd q41 c54
          · refine J_iconst hC dX5_mostOwing_57 (v := 0) (by decide) ?_
            refine J_goto hC dX5_mostOwing_58 (tgt := 62) (by decide) ?_
            refine J_iret hC (by decide) (by decide) dX5_mostOwing_62 ?_
            refine op_no hM hlt (k := 1) ?_ rfl
            unfold oMost
            rw [hi]
            exact if_pos q41
      · have hlt2 := ge_nI (by omega) (by omega) c11
        refine J_aload_n hC dX5_mostOwing_14 rfl rfl ?_
        refine J_iload_n hC dX5_mostOwing_15 rfl rfl ?_
        refine J_callV (k1 := 0) (n1 := 0) (kd := 6) [.int (nI j)] [.int (nI j), rv m] hC lv_X5_223 (ct_X5_debt hst hM hI (nI j) (isIx_of hlt2 (by omega))) a0.t (by decide) ⟨_, mE_6 a0.t⟩ rfl rfl rfl (by simp only [List.map_cons, List.map_nil, rv_cat, Value.category, List.sum_cons, List.sum_nil]; decide) (by decide) rfl rfl (by decide) (by decide) dX5_mostOwing_16 (fun E M9 h => h.elim) (fun v9 M9 hq9 => ?_)
        obtain ⟨rfl, e9⟩ := hq9
        rw [e9]; clear e9
        rw [ix_nI (n := j) (by omega)]
        refine J_istore hC dX5_mostOwing_19 (by decide) (ls1 := [some (rv m), some (.int best), some (.int mst), some (.int (nI j)), some (.int (owe S j))]) rfl ?_
        refine J_iload hC dX5_mostOwing_21 rfl ?_
        refine J_iload_n hC dX5_mostOwing_23 rfl rfl ?_
        refine J_icmp_le hC dX5_mostOwing_24 (tgt := 32) (by decide) (fun c24 => ?_) (fun c24 => ?_)
        · refine J_iinc hC dX5_mostOwing_32 (by decide) rfl (v := nI (j + 1)) (nI_1 _) (ls1 := [some (rv m), some (.int best), some (.int mst), some (.int (nI (j + 1))), some (.int (owe S j))]) rfl ?_
          refine J_goto hC dX5_mostOwing_35 (tgt := 6) (by decide) ?_
          refine J_sub hC (ls1 := [some (rv m), some (.int best), some (.int mst), some (.int (nI (j + 1)))]) ⟨rfl, rfl, rfl, rfl, trivial⟩ ?_
          exact ih (j + 1) _ _ (by omega) (by omega) (by rw [most_s, hi]; first | (rw [if_neg (i_nlt2 c24)]) | (rw [if_pos (i_nle2 c24)]))
        · refine J_iload hC dX5_mostOwing_27 rfl ?_
          refine J_istore_n hC dX5_mostOwing_29 rfl (by decide) (ls1 := [some (rv m), some (.int best), some (.int (owe S j)), some (.int (nI j)), some (.int (owe S j))]) rfl ?_
          refine J_iload_n hC dX5_mostOwing_30 rfl rfl ?_
          refine J_istore_n hC dX5_mostOwing_31 rfl (by decide) (ls1 := [some (rv m), some (.int (nI j)), some (.int (owe S j)), some (.int (nI j)), some (.int (owe S j))]) rfl ?_
          refine J_iinc hC dX5_mostOwing_32 (by decide) rfl (v := nI (j + 1)) (nI_1 _) (ls1 := [some (rv m), some (.int (nI j)), some (.int (owe S j)), some (.int (nI (j + 1))), some (.int (owe S j))]) rfl ?_
          refine J_goto hC dX5_mostOwing_35 (tgt := 6) (by decide) ?_
          refine J_sub hC (ls1 := [some (rv m), some (.int (nI j)), some (.int (owe S j)), some (.int (nI (j + 1)))]) ⟨rfl, rfl, rfl, rfl, trivial⟩ ?_
          exact ih (j + 1) _ _ (by omega) (by omega) (by rw [most_s, hi]; first | (rw [if_neg (i_nlt2 c24)]) | (rw [if_pos (i_nle2 c24)]))
  exact L6 (sN S 0 + 1) 0 _ _ (by omega) (Nat.zero_le _) (by rfl)
theorem share_n : ∀ a, a < 16 → ∀ b, b < 16 → b ≠ 0 → vf_n32 (FP.fdiv (FP.i2f (nI a)) (FP.i2f (nI b))) := by
  unfold vf_n32
  decide +kernel
theorem mean_n : ∀ a, a < 76 → ∀ b, b < 16 → b ≠ 0 → vf_n64 (FP.ddiv (FP.i2d (nI a)) (FP.i2d (nI b))) := by
  unfold vf_n64
  decide +kernel
def OpF (M : Mm) (m t : Nat) (S : St) (R : Res) (r9 : Option Value) (M9 : Mm) : Prop := (∃ x, r9 = some (.float x)) ∧ (R.1 = 0 → r9 = some R.2.1) ∧ MAt M9 m S (t + 1) ∧ Fr pM M M9 ∧ mI M9 m 0 = nI R.1
def OpD (M : Mm) (m t : Nat) (S : St) (R : Res) (r9 : Option Value) (M9 : Mm) : Prop := (∃ x, r9 = some (.double x)) ∧ (R.1 = 0 → r9 = some R.2.1) ∧ MAt M9 m S (t + 1) ∧ Fr pM M M9 ∧ mI M9 m 0 = nI R.1
theorem cu_pass {S : St} {t nP : Nat} (hI : Inv S t) (h : 2 * nP = 2 * sN S 1 + cnt (fun i => decide (sO S i 5 = 117)) (sN S 3)) : nP = passN S (sN S 1) := by
  have := hI.cu
  omega
theorem ct_X5_roadShare {G : Gt} {l : Launch} (hst : l.stackTraces = false) {M : Mm} {m : Nat} {S : St} {t : Nat} (hM : MAt M m S t) (hI : Inv S t) (hlt : t < 512) : Ct G l yX5_roadShare cX5_roadShare 3 (some .float) 6 M [rv m] 0 0 (OpF M m t S (oRoadShare S)) (noX) := by
  obtain ⟨a0, nP, nR, nS, a1, bR, bS, bt⟩ := id hM
  have bPs := a1.bPs; have bK := a1.bK; have bV := a1.bV; have bPl := a1.bP; have bN := a1.bN
  refine Ct_intro (own := RX5) (nm := "roadShare") (by decide +kernel) rfl rfl hst (fun w hw => by simp only [List.mem_cons, List.not_mem_nil, or_false] at hw; rcases hw with rfl <;> first | rfl | exact rv_cat _) (Nat.le_of_ble_eq_true rfl) (fun γ hC => ?_)
  show J G γ M 0 [some (rv m)] [] 0 0
  refine J_iconst hC dX5_roadShare_0 (v := 0) (by decide) ?_
  refine J_istore_n hC dX5_roadShare_1 rfl (by decide) (ls1 := [some (rv m), some (.int 0)]) rfl ?_
  refine J_iconst hC dX5_roadShare_2 (v := 0) (by decide) ?_
  refine J_istore_n hC dX5_roadShare_3 rfl (by decide) (ls1 := [some (rv m), some (.int 0), some (.int 0)]) rfl ?_
  have L4 : ∀ (n9 : Nat) (j : Nat) (acc : Int32), sN S 1 - j < n9 → (j ≤ sN S 1) → (acc = nI (cnt (fun v => decide (lastV (sT S 2 v) = 1)) j)) → J G γ M 4 [some (rv m), some (.int acc), some (.int (nI j))] [] 0 0 := by
    intro n9
    induction n9 with
    | zero => intro j acc h9; exact absurd h9 (Nat.not_lt_zero _)
    | succ n9 ih =>
      intro j acc h9 hj hi
      refine J_iload_n hC dX5_roadShare_4 rfl rfl ?_
      refine J_aload_n hC dX5_roadShare_5 rfl rfl ?_
      refine J_get6 hC lf_X5_91 (j := 2) a0.t (v := .int (nI (sN S 1))) (congrArg (fun z => some (Value.int z)) a1.s2) dX5_roadShare_6 ?_
      refine J_icmp_ge hC dX5_roadShare_9 (tgt := 38) (by decide) (fun c9 => ?_) (fun c9 => ?_)
      · have hge := le_nI (by omega) (by omega) c9
        have hjj : j = sN S 1 := by omega
        rw [hjj] at hi
        refine J_aload_n hC dX5_roadShare_38 rfl rfl ?_
        refine J_aload_n hC dX5_roadShare_39 rfl rfl ?_
        refine J_get6 hC lf_X5_91 (j := 2) a0.t (v := .int (nI (sN S 1))) (congrArg (fun z => some (Value.int z)) a1.s2) dX5_roadShare_40 ?_
        refine J_if_ne hC dX5_roadShare_43 (tgt := 50) (by decide) (fun c43 => ?_) (fun c43 => ?_)
        · have z43 : ¬ (sN S 1) = 0 := fun e => c43 (show nI (sN S 1) = nI 0 from congrArg nI e)
          refine J_iconst hC dX5_roadShare_50 (v := 0) (by decide) ?_
          refine J_put6_0 hC lf_X5_80 a0.t dX5_roadShare_51 ?_
          refine J_aload_n hC dX5_roadShare_54 rfl rfl ?_
          refine J_get6 hC lf_X5_91 (j := 2) a0.t (v := .int (nI (sN S 1))) (congrArg (fun z => some (Value.int z)) ((up2_k _ _ _ (by decide) : mI (pI M m 0 0) m 2 = mI M m 2).trans a1.s2)) dX5_roadShare_55 ?_
          refine J_if_ne hC dX5_roadShare_58 (tgt := 65) (by decide) (fun c58 => ?_) (fun c58 => ?_)
          · refine J_iload_n hC dX5_roadShare_65 rfl rfl ?_
            refine J_i2f hC dX5_roadShare_66 ?_
            refine J_aload_n hC dX5_roadShare_67 rfl rfl ?_
            refine J_get6 hC lf_X5_91 (j := 2) a0.t (v := .int (nI (sN S 1))) (congrArg (fun z => some (Value.int z)) ((up2_k _ _ _ (by decide) : mI (pI M m 0 0) m 2 = mI M m 2).trans a1.s2)) dX5_roadShare_68 ?_
            refine J_i2f hC dX5_roadShare_71 ?_
            refine J_fdiv hC dX5_roadShare_72 (by rw [hi]; exact share_n _ (Nat.lt_of_le_of_lt (cnt_le _ _) (by omega)) _ (by omega) z43) ?_
            refine J_fret hC (by decide) (by decide) dX5_roadShare_73 ?_
            have hR : oRoadShare S = (0, .float (FP.fdiv (FP.i2f (nI (roadN S))) (FP.i2f (nI (sN S 1)))), S) := by unfold oRoadShare; rw [if_neg z43]
            exact ⟨⟨_, rfl⟩, (fun _ => by rw [hR]; rw [hi]; rfl), (hM.thr _).up hlt, Fr.pI a0.fm, by rw [hR]; exact up2_same _ _ _ _⟩
          · exact absurd ((nI_eq (by omega) (by omega)).mp (show nI (sN S 1) = nI 0 from (nn c58))) z43
        · have z43 : (sN S 1) = 0 := (nI_eq (by omega) (by omega)).mp (show nI (sN S 1) = nI 0 from (nn c43))
          refine J_iconst hC dX5_roadShare_46 (v := 1) (by decide) ?_
          refine J_goto hC dX5_roadShare_47 (tgt := 51) (by decide) ?_
          refine J_put6_0 hC lf_X5_80 a0.t dX5_roadShare_51 ?_
          refine J_aload_n hC dX5_roadShare_54 rfl rfl ?_
          refine J_get6 hC lf_X5_91 (j := 2) a0.t (v := .int (nI (sN S 1))) (congrArg (fun z => some (Value.int z)) ((up2_k _ _ _ (by decide) : mI (pI M m 0 1) m 2 = mI M m 2).trans a1.s2)) dX5_roadShare_55 ?_
          refine J_if_ne hC dX5_roadShare_58 (tgt := 65) (by decide) (fun c58 => ?_) (fun c58 => ?_)
          · exact absurd (show nI (sN S 1) = 0 by rw [z43]; rfl) c58
          · refine J_fconst0 hC dX5_roadShare_61 ?_
            refine J_goto hC dX5_roadShare_62 (tgt := 73) (by decide) ?_
            refine J_fret hC (by decide) (by decide) dX5_roadShare_73 ?_
            have hR : oRoadShare S = no 1 S := by unfold oRoadShare; rw [if_pos z43]
            exact ⟨⟨_, rfl⟩, (fun q => by rw [hR] at q; cases q), (hM.thr _).up hlt, Fr.pI a0.fm, by rw [hR]; exact up2_same _ _ _ _⟩
      · have hlt2 := ge_nI (by omega) (by omega) c9
        refine J_iload_n hC dX5_roadShare_12 rfl rfl ?_
        refine J_aload_n hC dX5_roadShare_13 rfl rfl ?_
        refine J_iload_n hC dX5_roadShare_14 rfl rfl ?_
        refine J_aload_n hC dX5_roadShare_15 rfl rfl ?_
        refine J_get6 hC lf_X5_97 (j := 5) a0.t (v := .int (sD S)) (congrArg (fun z => some (Value.int z)) a1.s5) dX5_roadShare_16 ?_
        refine J_callV (k1 := 0) (n1 := 0) (kd := 6) [.int (nI j), .int (sD S)] [.int (sD S), .int (nI j), rv m, .int acc] hC lv_X5_150 (ct_X5_road hst hM (nI j) (sD S) (isIx_of hlt2 (by omega))) a0.t (by decide) ⟨_, mE_6 a0.t⟩ rfl rfl rfl (by simp only [List.map_cons, List.map_nil, rv_cat, Value.category, List.sum_cons, List.sum_nil]; decide) (by decide) rfl rfl (by decide) (by decide) dX5_roadShare_19 (fun E M9 h => h.elim) (fun v9 M9 hq9 => ?_)
        obtain ⟨rfl, e9⟩ := hq9
        rw [e9]; clear e9
        rw [ix_nI (n := j) (by omega), hI.lk hlt2 (by decide)]
        refine J_if_eq hC dX5_roadShare_22 (tgt := 29) (by decide) (fun c22 => ?_) (fun c22 => ?_)
        · have b22 : (decide (lastV (sT S 2 j) = 1)) = false := bz_eq0 c22
          refine J_iconst hC dX5_roadShare_29 (v := 0) (by decide) ?_
          refine J_iadd hC dX5_roadShare_30 ?_
          refine J_istore_n hC dX5_roadShare_31 rfl (by decide) (ls1 := [some (rv m), some (.int (acc + 0)), some (.int (nI j))]) rfl ?_
          refine J_iinc hC dX5_roadShare_32 (by decide) rfl (v := nI (j + 1)) (nI_1 _) (ls1 := [some (rv m), some (.int (acc + 0)), some (.int (nI (j + 1)))]) rfl ?_
          refine J_goto hC dX5_roadShare_35 (tgt := 4) (by decide) ?_
          exact ih (j + 1) _ (by omega) (by omega) (by rw [cnt_s, hi]; first | (rw [if_pos b22]; exact nI_1 _) | (rw [if_neg (by rw [b22]; decide)]; exact nI_a0 _))
        · have b22 : (decide (lastV (sT S 2 j) = 1)) = true := bz_ne0 c22
          refine J_iconst hC dX5_roadShare_25 (v := 1) (by decide) ?_
          refine J_goto hC dX5_roadShare_26 (tgt := 30) (by decide) ?_
          refine J_iadd hC dX5_roadShare_30 ?_
          refine J_istore_n hC dX5_roadShare_31 rfl (by decide) (ls1 := [some (rv m), some (.int (acc + 1)), some (.int (nI j))]) rfl ?_
          refine J_iinc hC dX5_roadShare_32 (by decide) rfl (v := nI (j + 1)) (nI_1 _) (ls1 := [some (rv m), some (.int (acc + 1)), some (.int (nI (j + 1)))]) rfl ?_
          refine J_goto hC dX5_roadShare_35 (tgt := 4) (by decide) ?_
          exact ih (j + 1) _ (by omega) (by omega) (by rw [cnt_s, hi]; first | (rw [if_pos b22]; exact nI_1 _) | (rw [if_neg (by rw [b22]; decide)]; exact nI_a0 _))
  exact L4 (sN S 1 + 1) 0 _ (by omega) (Nat.zero_le _) (by rfl)
theorem ct_X5_meanTransfers {G : Gt} {l : Launch} (hst : l.stackTraces = false) {M : Mm} {m : Nat} {S : St} {t : Nat} (hM : MAt M m S t) (hI : Inv S t) (hlt : t < 512) : Ct G l yX5_meanTransfers cX5_meanTransfers 1 (some .double) 4 M [rv m] 0 0 (OpD M m t S (oMean S)) (noX) := by
  obtain ⟨a0, nP, nR, nS, a1, bR, bS, bt⟩ := id hM
  have bPs := a1.bPs; have bK := a1.bK; have bV := a1.bV; have bPl := a1.bP; have bN := a1.bN
  refine Ct_intro (own := RX5) (nm := "meanTransfers") (by decide +kernel) rfl rfl hst (fun w hw => by simp only [List.mem_cons, List.not_mem_nil, or_false] at hw; rcases hw with rfl <;> first | rfl | exact rv_cat _) (Nat.le_of_ble_eq_true rfl) (fun γ hC => ?_)
  show J G γ M 0 [some (rv m)] [] 0 0
  refine J_aload_n hC dX5_meanTransfers_0 rfl rfl ?_
  refine J_aload_n hC dX5_meanTransfers_1 rfl rfl ?_
  refine J_get6 hC lf_X5_91 (j := 2) a0.t (v := .int (nI (sN S 1))) (congrArg (fun z => some (Value.int z)) a1.s2) dX5_meanTransfers_2 ?_
  refine J_if_ne hC dX5_meanTransfers_5 (tgt := 12) (by decide) (fun c5 => ?_) (fun c5 => ?_)
  · have z5 : ¬ (sN S 1) = 0 := fun e => c5 (show nI (sN S 1) = nI 0 from congrArg nI e)
    refine J_iconst hC dX5_meanTransfers_12 (v := 0) (by decide) ?_
    refine J_put6_0 hC lf_X5_80 a0.t dX5_meanTransfers_13 ?_
    refine J_aload_n hC dX5_meanTransfers_16 rfl rfl ?_
    refine J_get6 hC lf_X5_91 (j := 2) a0.t (v := .int (nI (sN S 1))) (congrArg (fun z => some (Value.int z)) ((up2_k _ _ _ (by decide) : mI (pI M m 0 0) m 2 = mI M m 2).trans a1.s2)) dX5_meanTransfers_17 ?_
    refine J_if_ne hC dX5_meanTransfers_20 (tgt := 27) (by decide) (fun c20 => ?_) (fun c20 => ?_)
    · refine J_aload_n hC dX5_meanTransfers_27 rfl rfl ?_
      refine J_get6 hC lf_X5_110 (j := 6) a0.t (v := .int (nI nP)) (congrArg (fun z => some (Value.int z)) ((up2_k _ _ _ (by decide) : mI (pI M m 0 0) m 6 = mI M m 6).trans a1.s6)) dX5_meanTransfers_28 ?_
      refine J_i2d hC dX5_meanTransfers_31 ?_
      refine J_aload_n hC dX5_meanTransfers_32 rfl rfl ?_
      refine J_get6 hC lf_X5_91 (j := 2) a0.t (v := .int (nI (sN S 1))) (congrArg (fun z => some (Value.int z)) ((up2_k _ _ _ (by decide) : mI (pI M m 0 0) m 2 = mI M m 2).trans a1.s2)) dX5_meanTransfers_33 ?_
      refine J_i2d hC dX5_meanTransfers_36 ?_
      refine J_ddiv hC dX5_meanTransfers_37 (mean_n _ (by omega) _ (by omega) z5) ?_
      refine J_dret hC (by decide) (by decide) dX5_meanTransfers_38 ?_
      have hR : oMean S = (0, .double (FP.ddiv (FP.i2d (nI (passN S (sN S 1)))) (FP.i2d (nI (sN S 1)))), S) := by unfold oMean; rw [if_neg z5]
      exact ⟨⟨_, rfl⟩, (fun _ => by rw [hR]; rw [cu_pass hI a1.cu]), (hM.thr _).up hlt, Fr.pI a0.fm, by rw [hR]; exact up2_same _ _ _ _⟩
    · exact absurd ((nI_eq (by omega) (by omega)).mp (show nI (sN S 1) = nI 0 from (nn c20))) z5
  · have z5 : (sN S 1) = 0 := (nI_eq (by omega) (by omega)).mp (show nI (sN S 1) = nI 0 from (nn c5))
    refine J_iconst hC dX5_meanTransfers_8 (v := 1) (by decide) ?_
    refine J_goto hC dX5_meanTransfers_9 (tgt := 13) (by decide) ?_
    refine J_put6_0 hC lf_X5_80 a0.t dX5_meanTransfers_13 ?_
    refine J_aload_n hC dX5_meanTransfers_16 rfl rfl ?_
    refine J_get6 hC lf_X5_91 (j := 2) a0.t (v := .int (nI (sN S 1))) (congrArg (fun z => some (Value.int z)) ((up2_k _ _ _ (by decide) : mI (pI M m 0 1) m 2 = mI M m 2).trans a1.s2)) dX5_meanTransfers_17 ?_
    refine J_if_ne hC dX5_meanTransfers_20 (tgt := 27) (by decide) (fun c20 => ?_) (fun c20 => ?_)
    · exact absurd (show nI (sN S 1) = 0 by rw [z5]; rfl) c20
    · refine J_dconst0 hC dX5_meanTransfers_23 ?_
      refine J_goto hC dX5_meanTransfers_24 (tgt := 38) (by decide) ?_
      refine J_dret hC (by decide) (by decide) dX5_meanTransfers_38 ?_
      have hR : oMean S = no 1 S := by unfold oMean; rw [if_pos z5]
      exact ⟨⟨_, rfl⟩, (fun q => by rw [hR] at q; cases q), (hM.thr _).up hlt, Fr.pI a0.fm, by rw [hR]; exact up2_same _ _ _ _⟩
