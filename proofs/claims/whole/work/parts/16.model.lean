theorem ct_X5_first {G : Gt} {l : Launch} (hst : l.stackTraces = false) {M : Mm} {m : Nat} {S : St} {t : Nat} (hM : MAt M m S t) (hI : Inv S t) (v q : Int32) (hv : isIx v (sN S 1) = true) (hq : isIx q (ix (sD S) / 90 + 1) = true) : Ct G l yX5_first cX5_first 7 (some .int) 1 M [rv m, .int v, .int q] 0 0 (PQ M (.int (rdI (rday S (ix v) (ix q))))) (noX) := by
  obtain ⟨a0, nP, nR, nS, a1, bR, bS, bt⟩ := id hM
  have bPs := a1.bPs; have bK := a1.bK; have bV := a1.bV; have bPl := a1.bP; have bN := a1.bN
  have hvx := (isIx_ix hv).2
  have hT : sq (ma M m 24) (ma M m 25) (ma M m 26) v nR = sT S 2 (ix v) := by (have h9 := a1.q2 _ hvx; rw [← isIx_nI hv] at h9; exact h9)
  have hs2 := hI.s2 _ hvx
  obtain ⟨hq2a, hq2⟩ := isIx_ix hq
  obtain ⟨hqn, hqD⟩ := q_len hq2
  obtain ⟨hfr0, hto0⟩ := q_to hq hI.bD rfl
  have hD3 : ix (sD S) = (sD S).toInt.toNat := (Int32.toNat_toInt (sD S)).symm
  have hbD := hI.bD
  refine Ct_intro (own := RX5) (nm := "first") (by decide +kernel) rfl rfl hst (fun w hw => by simp only [List.mem_cons, List.not_mem_nil, or_false] at hw; rcases hw with rfl | rfl | rfl <;> first | rfl | exact rv_cat _) (Nat.le_of_ble_eq_true rfl) (fun γ hC => ?_)
  show J G γ M 0 [some (rv m), some (.int v), some (.int q)] [] 0 0
  refine J_bipush hC dX5_first_0 (v := 90) (by decide) ?_
  refine J_iload_n hC dX5_first_2 rfl rfl ?_
  refine J_imul hC dX5_first_3 ?_
  obtain ⟨fr, efr⟩ : ∃ z, z = 90 * q := ⟨_, rfl⟩
  rw [← efr]
  refine J_istore_n hC dX5_first_4 rfl (by decide) (ls1 := [some (rv m), some (.int v), some (.int q), some (.int fr)]) rfl ?_
  have hfr : fr = nI (90 * ix q) := by rw [efr, hfr0]
  have K31 : ∀ (to : Int32), (to = nI (90 * ix q + qlen (ix (sD S)) (ix q) - 1)) → J G γ M 31 [some (rv m), some (.int v), some (.int q), some (.int fr)] [.int to] 0 0 := by
    intro to hto
    refine J_istore hC dX5_first_31 (by decide) (ls1 := [some (rv m), some (.int v), some (.int q), some (.int fr), some (.int to)]) rfl ?_
    refine J_iconst hC dX5_first_33 (v := 0) (by decide) ?_
    refine J_istore hC dX5_first_34 (by decide) (ls1 := [some (rv m), some (.int v), some (.int q), some (.int fr), some (.int to), some (.int 0)]) rfl ?_
    refine J_iconst hC dX5_first_36 (v := 0) (by decide) ?_
    refine J_istore hC dX5_first_37 (by decide) (ls1 := [some (rv m), some (.int v), some (.int q), some (.int fr), some (.int to), some (.int 0), some (.int 0)]) rfl ?_
    have L39 : ∀ (n9 : Nat) (j : Nat) (acc : Int32), nR - j < n9 → (j ≤ nR) → (acc = bz (decide (look (sq (ma M m 24) (ma M m 25) (ma M m 26) v j) fr = 1))) → (∀ e ∈ sq (ma M m 24) (ma M m 25) (ma M m 26) v j, e.1 ≤ fr ∨ e.2 ≠ 1) → J G γ M 39 [some (rv m), some (.int v), some (.int q), some (.int fr), some (.int to), some (.int acc), some (.int (nI j))] [] 0 0 := by
      intro n9
      induction n9 with
      | zero => intro j acc h9; exact absurd h9 (Nat.not_lt_zero _)
      | succ n9 ih =>
        intro j acc h9 hj hi hA
        refine J_iload hC dX5_first_39 rfl ?_
        refine J_aload_n hC dX5_first_41 rfl rfl ?_
        refine J_get6 hC lf_X5_100 (j := 7) a0.t (v := .int (nI nR)) (congrArg (fun z => some (Value.int z)) a1.s7) dX5_first_42 ?_
        refine J_icmp_ge hC dX5_first_45 (tgt := 130) (by decide) (fun c45 => ?_) (fun c45 => ?_)
        · have hge := le_nI (by omega) (by omega) c45
          have hjj : j = nR := by omega
          subst hjj
          refine J_iload hC dX5_first_130 rfl ?_
          refine J_if_eq hC dX5_first_132 (tgt := 139) (by decide) (fun c132 => ?_) (fun c132 => ?_)
          · refine J_iconst hC dX5_first_139 (v := -1) (by decide) ?_
            refine J_iret hC (by decide) (by decide) dX5_first_140 ?_
            have h8 : look (sq (ma M m 24) (ma M m 25) (ma M m 26) v j) (nI (90 * ix q)) ≠ 1 := by (rw [← hfr]; rw [hi] at c132; exact of_decide_eq_false (bz_eq0 c132))
            refine ⟨?_, rfl⟩
            rw [rday_none (fday_miss (lj := sT S 2 (ix v)) (r := []) (by omega) (by simp) (fun e he => absurd he (by simp)) (by rw [← hfr, ← hT]; exact hA) (by rw [← hT]; exact h8))]
          · refine J_iload_n hC dX5_first_135 rfl rfl ?_
            refine J_goto hC dX5_first_136 (tgt := 140) (by decide) ?_
            refine J_iret hC (by decide) (by decide) dX5_first_140 ?_
            have h8 : look (sq (ma M m 24) (ma M m 25) (ma M m 26) v j) (nI (90 * ix q)) = 1 := by (rw [← hfr]; rw [hi] at c132; exact of_decide_eq_true (bz_ne0 c132))
            refine ⟨?_, rfl⟩
            rw [rday_some (fday_hit0 (lj := sT S 2 (ix v)) (r := []) (by simp) (fun e he => absurd he (by simp)) (by rw [← hT]; exact h8) hqn), hfr]
            rfl
        · have hlt := ge_nI (by omega) (by omega) c45
          refine J_aload_n hC dX5_first_48 rfl rfl ?_
          refine J_get6 hC lf_X5_53 (j := 24) a0.t (v := rv (mR M m 24)) rfl dX5_first_49 ?_
          refine J_iload hC dX5_first_52 rfl ?_
          refine J_iald hC a0.a24 (j := j) (nI_toInt (by omega)) (by rw [a0.l24]; omega) dX5_first_54 ?_
          refine J_iload_n hC dX5_first_55 rfl rfl ?_
          refine J_icmp_eq hC dX5_first_56 (tgt := 62) (by decide) (fun c56 => ?_) (fun c56 => ?_)
          · refine J_aload_n hC dX5_first_62 rfl rfl ?_
            refine J_get6 hC lf_X5_56 (j := 25) a0.t (v := rv (mR M m 25)) rfl dX5_first_63 ?_
            refine J_iload hC dX5_first_66 rfl ?_
            refine J_iald hC a0.a25 (j := j) (nI_toInt (by omega)) (by rw [a0.l25]; omega) dX5_first_68 ?_
            refine J_iload_n hC dX5_first_69 rfl rfl ?_
            refine J_icmp_gt hC dX5_first_70 (tgt := 85) (by decide) (fun c70 => ?_) (fun c70 => ?_)
            · refine J_iload hC dX5_first_85 rfl ?_
              refine J_if_eq hC dX5_first_87 (tgt := 92) (by decide) (fun c87 => ?_) (fun c87 => ?_)
              · refine J_aload_n hC dX5_first_92 rfl rfl ?_
                refine J_get6 hC lf_X5_56 (j := 25) a0.t (v := rv (mR M m 25)) rfl dX5_first_93 ?_
                refine J_iload hC dX5_first_96 rfl ?_
                refine J_iald hC a0.a25 (j := j) (nI_toInt (by omega)) (by rw [a0.l25]; omega) dX5_first_98 ?_
                refine J_iload hC dX5_first_99 rfl ?_
                refine J_icmp_le hC dX5_first_101 (tgt := 106) (by decide) (fun c101 => ?_) (fun c101 => ?_)
                · refine J_aload_n hC dX5_first_106 rfl rfl ?_
                  refine J_get6 hC lf_X5_59 (j := 26) a0.t (v := rv (mR M m 26)) rfl dX5_first_107 ?_
                  refine J_iload hC dX5_first_110 rfl ?_
                  refine J_zald hC a0.a26 (j := j) (nI_toInt (by omega)) (by rw [a0.l26]; omega) dX5_first_112 ?_
                  refine J_if_eq hC dX5_first_113 (tgt := 124) (by decide) (fun c113 => ?_) (fun c113 => ?_)
                  · refine J_iinc hC dX5_first_124 (by decide) rfl (v := nI (j + 1)) (nI_1 _) (ls1 := [some (rv m), some (.int v), some (.int q), some (.int fr), some (.int to), some (.int acc), some (.int (nI (j + 1)))]) rfl ?_
                    refine J_goto hC dX5_first_127 (tgt := 39) (by decide) ?_
                    exact ih (j + 1) _ (by omega) (by omega) (by first | (rw [sq_n c56]; exact hi) | (rw [sq_y c56, look_snoc, if_pos (i_nlt c70)]; exact rb01 (a1.rb j hlt)) | (rw [sq_y c56, look_snoc, if_neg (i_nle c70)]; exact hi)) (by first | (rw [sq_n c56]; exact hA) | (rw [sq_y c56]; exact hA_snoc hA (Or.inl (i_nlt c70))) | (rw [sq_y c56]; refine hA_snoc hA (Or.inr ?_); intro e; rw [show mI M (mR M m 26) j = 1 from e] at c113; exact absurd c113 (by decide)))
                  · refine J_aload_n hC dX5_first_116 rfl rfl ?_
                    refine J_get6 hC lf_X5_56 (j := 25) a0.t (v := rv (mR M m 25)) rfl dX5_first_117 ?_
                    refine J_iload hC dX5_first_120 rfl ?_
                    refine J_iald hC a0.a25 (j := j) (nI_toInt (by omega)) (by rw [a0.l25]; omega) dX5_first_122 ?_
                    refine J_iret hC (by decide) (by decide) dX5_first_123 ?_
                    obtain ⟨r, hr⟩ := sq_split1 (D := ma M m 25) (X := ma M m 26) hlt c56
                    rw [hT] at hr
                    have hpw := pw_split (by rw [← hr]; exact hs2)
                    have h8 : look (sq (ma M m 24) (ma M m 25) (ma M m 26) v j) (nI (90 * ix q)) ≠ 1 := by (rw [← hfr]; rw [hi] at c87; exact of_decide_eq_false (bz_eq0 c87))
                    have hx : ma M m 26 j = 1 := by
                      rcases a1.rb j hlt with h | h
                      · exact absurd h c113
                      · exact h
                    have hd : (0 : Int32) ≤ ma M m 25 j := ((hI.ts _ hvx 2 (by decide)).1 (ma M m 25 j, ma M m 26 j) (by rw [hr]; simp)).1
                    obtain ⟨hd1, hd2⟩ := day_nI (D := 0) hd
                    have hc7 : 90 * ix q < ix (ma M m 25 j) := by
                      have h5 := c70
                      rw [hfr, i_lt, nI_toInt (by omega)] at h5
                      have h4 : (mI M (mR M m 25) j).toInt = (ix (ma M m 25 j) : Int) := hd2
                      omega
                    have hc8 : ix (ma M m 25 j) < 90 * ix q + qlen (ix (sD S)) (ix q) := by
                      have h5 := c101
                      rw [hto, i_le, nI_toInt (by omega)] at h5
                      have h4 : (mI M (mR M m 25) j).toInt = (ix (ma M m 25 j) : Int) := hd2
                      omega
                    have hpw2 := hpw
                    rw [hx, hd1] at hr
                    rw [hd1] at hpw2
                    refine ⟨?_, rfl⟩
                    rw [rday_some (fday_hit (by omega) hr hpw2 (by rw [← hfr]; exact hA) h8 hc7 hc8), show 90 * ix q + (ix (ma M m 25 j) - 90 * ix q) = ix (ma M m 25 j) by omega, ← hd1]
                · refine J_iconst hC dX5_first_104 (v := -1) (by decide) ?_
                  refine J_iret hC (by decide) (by decide) dX5_first_105 ?_
                  obtain ⟨r, hr⟩ := sq_split1 (D := ma M m 25) (X := ma M m 26) hlt c56
                  rw [hT] at hr
                  have hpw := pw_split (by rw [← hr]; exact hs2)
                  have h8 : look (sq (ma M m 24) (ma M m 25) (ma M m 26) v j) (nI (90 * ix q)) ≠ 1 := by (rw [← hfr]; rw [hi] at c87; exact of_decide_eq_false (bz_eq0 c87))
                  refine ⟨?_, rfl⟩
                  rw [rday_none (fday_miss (by omega) hr (fun e he k hk => by
                    have h6 : nI (90 * ix q + k) ≤ to := by rw [hto]; exact nI_le (by omega) (by omega)
                    rcases List.mem_cons.mp he with rfl | he
                    · exact i_nle (i_le_lt h6 (i_nle' c101))
                    · exact i_nle (i_le_lt h6 (i_lt_trans (i_nle' c101) (hpw e he)))) (by rw [← hfr]; exact hA) h8)]
              · refine J_iload_n hC dX5_first_90 rfl rfl ?_
                refine J_iret hC (by decide) (by decide) dX5_first_91 ?_
                obtain ⟨r, hr⟩ := sq_split1 (D := ma M m 25) (X := ma M m 26) hlt c56
                rw [hT] at hr
                have hpw := pw_split (by rw [← hr]; exact hs2)
                have h8 : look (sq (ma M m 24) (ma M m 25) (ma M m 26) v j) (nI (90 * ix q)) = 1 := by (rw [← hfr]; rw [hi] at c87; exact of_decide_eq_true (bz_ne0 c87))
                refine ⟨?_, rfl⟩
                rw [rday_some (fday_hit0 hr (fun e he => by
                  rw [← hfr]
                  rcases List.mem_cons.mp he with rfl | he
                  · exact i_nle c70
                  · exact i_nle (i_lt_trans c70 (hpw e he))) h8 hqn), hfr]
                rfl
            · refine J_aload_n hC dX5_first_73 rfl rfl ?_
              refine J_get6 hC lf_X5_59 (j := 26) a0.t (v := rv (mR M m 26)) rfl dX5_first_74 ?_
              refine J_iload hC dX5_first_77 rfl ?_
              refine J_zald hC a0.a26 (j := j) (nI_toInt (by omega)) (by rw [a0.l26]; omega) dX5_first_79 ?_
              refine J_istore hC dX5_first_80 (by decide) (ls1 := [some (rv m), some (.int v), some (.int q), some (.int fr), some (.int to), some (.int (mI M (mR M m 26) j)), some (.int (nI j))]) rfl ?_
              refine J_goto hC dX5_first_82 (tgt := 124) (by decide) ?_
              refine J_iinc hC dX5_first_124 (by decide) rfl (v := nI (j + 1)) (nI_1 _) (ls1 := [some (rv m), some (.int v), some (.int q), some (.int fr), some (.int to), some (.int (mI M (mR M m 26) j)), some (.int (nI (j + 1)))]) rfl ?_
              refine J_goto hC dX5_first_127 (tgt := 39) (by decide) ?_
              exact ih (j + 1) _ (by omega) (by omega) (by first | (rw [sq_n c56]; exact hi) | (rw [sq_y c56, look_snoc, if_pos (i_nlt c70)]; exact rb01 (a1.rb j hlt)) | (rw [sq_y c56, look_snoc, if_neg (i_nle c70)]; exact hi)) (by first | (rw [sq_n c56]; exact hA) | (rw [sq_y c56]; exact hA_snoc hA (Or.inl (i_nlt c70))) | (rw [sq_y c56]; refine hA_snoc hA (Or.inr ?_); intro e; rw [show mI M (mR M m 26) j = 1 from e] at c113; exact absurd c113 (by decide)))
          · refine J_goto hC dX5_first_59 (tgt := 124) (by decide) ?_
            refine J_iinc hC dX5_first_124 (by decide) rfl (v := nI (j + 1)) (nI_1 _) (ls1 := [some (rv m), some (.int v), some (.int q), some (.int fr), some (.int to), some (.int acc), some (.int (nI (j + 1)))]) rfl ?_
            refine J_goto hC dX5_first_127 (tgt := 39) (by decide) ?_
            exact ih (j + 1) _ (by omega) (by omega) (by first | (rw [sq_n c56]; exact hi) | (rw [sq_y c56, look_snoc, if_pos (i_nlt c70)]; exact rb01 (a1.rb j hlt)) | (rw [sq_y c56, look_snoc, if_neg (i_nle c70)]; exact hi)) (by first | (rw [sq_n c56]; exact hA) | (rw [sq_y c56]; exact hA_snoc hA (Or.inl (i_nlt c70))) | (rw [sq_y c56]; refine hA_snoc hA (Or.inr ?_); intro e; rw [show mI M (mR M m 26) j = 1 from e] at c113; exact absurd c113 (by decide)))
    exact L39 (nR + 1) 0 _ (by omega) (Nat.zero_le _) (by rfl) (fun e he => absurd he (by simp [sq_0]))
  refine J_iload_n hC dX5_first_5 rfl rfl ?_
  refine J_bipush hC dX5_first_6 (v := 90) (by decide) ?_
  refine J_iadd hC dX5_first_8 ?_
  refine J_iconst hC dX5_first_9 (v := 1) (by decide) ?_
  refine J_isub hC dX5_first_10 ?_
  refine J_aload_n hC dX5_first_11 rfl rfl ?_
  refine J_get6 hC lf_X5_97 (j := 5) a0.t (v := .int (sD S)) (congrArg (fun z => some (Value.int z)) a1.s5) dX5_first_12 ?_
  refine J_icmp_ge hC dX5_first_15 (tgt := 27) (by decide) (fun c15 => ?_) (fun c15 => ?_)
  · refine J_aload_n hC dX5_first_27 rfl rfl ?_
    refine J_get6 hC lf_X5_97 (j := 5) a0.t (v := .int (sD S)) (congrArg (fun z => some (Value.int z)) a1.s5) dX5_first_28 ?_
    exact K31 _ (by rw [← hto0, ← efr]; first | (rw [if_neg (i_nlt2 c15)]) | (rw [if_pos (i_nle2 c15)]))
  · refine J_iload_n hC dX5_first_18 rfl rfl ?_
    refine J_bipush hC dX5_first_19 (v := 90) (by decide) ?_
    refine J_iadd hC dX5_first_21 ?_
    refine J_iconst hC dX5_first_22 (v := 1) (by decide) ?_
    refine J_isub hC dX5_first_23 ?_
    refine J_goto hC dX5_first_24 (tgt := 31) (by decide) ?_
    exact K31 _ (by rw [← hto0, ← efr]; first | (rw [if_neg (i_nlt2 c15)]) | (rw [if_pos (i_nle2 c15)]))
