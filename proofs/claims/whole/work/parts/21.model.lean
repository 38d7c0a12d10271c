theorem nI_p1s1 (n : Nat) : nI n + 1 - 1 = nI n := by rw [Int32.add_sub_cancel]
theorem cnt_set {f g : Nat → Bool} {i : Nat} (hf : f i = false) (hg : g i = true) (h : ∀ j, j ≠ i → g j = f j) : ∀ n, cnt g n = cnt f n + (if i < n then 1 else 0)
  | 0 => by simp [cnt]
  | n + 1 => by
    rw [cnt_s, cnt_s, cnt_set hf hg h n]
    by_cases e : n = i
    · subst e; simp [hf, hg]
    · rw [h n e]
      by_cases e2 : i < n
      · rw [if_pos e2, if_pos (show i < n + 1 by omega)]; omega
      · rw [if_neg e2, if_neg (show ¬ i < n + 1 by omega)]; omega
theorem cnt_congr {f g : Nat → Bool} : ∀ {n : Nat}, (∀ j, j < n → g j = f j) → cnt g n = cnt f n
  | 0, _ => rfl
  | n + 1, h => by rw [cnt_s, cnt_s, cnt_congr (fun j hj => h j (by omega)), h n (by omega)]
theorem ct_X5_passesOn {G : Gt} {l : Launch} (hst : l.stackTraces = false) {M : Mm} {m : Nat} (a0 : MA0 M m) {n : Nat} (h6 : mI M m 6 = nI n) (hn : n < 80) (v day who : Int32) : Ct G l yX5_passesOn cX5_passesOn 4 none 1 M [rv m, .int v, .int day, .int who] 0 0 (fun r9 M9 => r9 = none ∧ M9 = pI (pI (pI (pI M (mR M m 15) n v) (mR M m 16) n day) (mR M m 17) n who) m 6 (nI (n + 1))) (noX) := by
  refine Ct_intro (own := RX5) (nm := "passesOn") (by decide +kernel) rfl rfl hst (fun w hw => by simp only [List.mem_cons, List.not_mem_nil, or_false] at hw; rcases hw with rfl | rfl | rfl | rfl <;> first | rfl | exact rv_cat _) (Nat.le_of_ble_eq_true rfl) (fun γ hC => ?_)
  show J G γ M 0 [some (rv m), some (.int v), some (.int day), some (.int who)] [] 0 0
  refine J_aload_n hC dX5_passesOn_0 rfl rfl ?_
  refine J_get6 hC lf_X5_26 (j := 15) a0.t (v := rv (mR M m 15)) rfl dX5_passesOn_1 ?_
  refine J_aload_n hC dX5_passesOn_4 rfl rfl ?_
  refine J_get6 hC lf_X5_110 (j := 6) a0.t (v := .int (nI n)) (congrArg (fun z => some (Value.int z)) h6) dX5_passesOn_5 ?_
  refine J_iload_n hC dX5_passesOn_8 rfl rfl ?_
  refine J_iast hC a0.a15 (j := n) (nI_toInt (by omega)) (by rw [a0.l15]; omega) dX5_passesOn_9 ?_
  refine J_aload_n hC dX5_passesOn_10 rfl rfl ?_
  refine J_get6 hC lf_X5_29 (j := 16) a0.t (v := rv (mR M m 16)) rfl dX5_passesOn_11 ?_
  refine J_aload_n hC dX5_passesOn_14 rfl rfl ?_
  refine J_get6 hC lf_X5_110 (j := 6) a0.t (v := .int (nI n)) (congrArg (fun z => some (Value.int z)) ((up2_b _ _ _ _ (a0.ne (by decide) (by decide)) : mI (pI M (mR M m 15) n v) m 6 = mI M m 6).trans h6)) dX5_passesOn_15 ?_
  refine J_iload_n hC dX5_passesOn_18 rfl rfl ?_
  refine J_iast hC a0.a16 (j := n) (nI_toInt (by omega)) (Nat.lt_of_lt_of_eq (by omega) a0.l16.symm) dX5_passesOn_19 ?_
  refine J_aload_n hC dX5_passesOn_20 rfl rfl ?_
  refine J_get6 hC lf_X5_32 (j := 17) a0.t (v := rv (mR M m 17)) rfl dX5_passesOn_21 ?_
  refine J_aload_n hC dX5_passesOn_24 rfl rfl ?_
  refine J_get6 hC lf_X5_110 (j := 6) a0.t (v := .int (nI n)) (congrArg (fun z => some (Value.int z)) ((up2_b _ _ _ _ (a0.ne (by decide) (by decide)) : mI (pI (pI M (mR M m 15) n v) (mR M m 16) n day) m 6 = mI (pI M (mR M m 15) n v) m 6).trans ((up2_b _ _ _ _ (a0.ne (by decide) (by decide)) : mI (pI M (mR M m 15) n v) m 6 = mI M m 6).trans h6))) dX5_passesOn_25 ?_
  refine J_iload_n hC dX5_passesOn_28 rfl rfl ?_
  refine J_iast hC a0.a17 (j := n) (nI_toInt (by omega)) (Nat.lt_of_lt_of_eq (by omega) a0.l17.symm) dX5_passesOn_29 ?_
  refine J_aload_n hC dX5_passesOn_30 rfl rfl ?_
  refine J_dup hC dX5_passesOn_31 (rv_cat _) ?_
  refine J_get6 hC lf_X5_110 (j := 6) a0.t (v := .int (nI n)) (congrArg (fun z => some (Value.int z)) ((up2_b _ _ _ _ (a0.ne (by decide) (by decide)) : mI (pI (pI (pI M (mR M m 15) n v) (mR M m 16) n day) (mR M m 17) n who) m 6 = mI (pI (pI M (mR M m 15) n v) (mR M m 16) n day) m 6).trans ((up2_b _ _ _ _ (a0.ne (by decide) (by decide)) : mI (pI (pI M (mR M m 15) n v) (mR M m 16) n day) m 6 = mI (pI M (mR M m 15) n v) m 6).trans ((up2_b _ _ _ _ (a0.ne (by decide) (by decide)) : mI (pI M (mR M m 15) n v) m 6 = mI M m 6).trans h6)))) dX5_passesOn_32 ?_
  refine J_iconst hC dX5_passesOn_35 (v := 1) (by decide) ?_
  refine J_iadd hC dX5_passesOn_36 ?_
  refine J_put6_6 hC lf_X5_110 a0.t dX5_passesOn_37 ?_
  refine J_vret hC (by decide) (by decide) dX5_passesOn_40 ?_
  exact ⟨rfl, by rw [nI_1]⟩
theorem MA1v.issue {sc : Nat → Int32} {c9 : Int64} {ar : Nat → Nat → Int32} {S : St} {w nP nR nS : Nat} (h : MA1v sc c9 ar (uT S 1 w (setT (sT S 1 w) (sD S) (nI (sN S 2)))) nP nR nS) (hP : sN S 2 < 40) : MA1v (va_up sc 4 (nI (sN S 2) + 1)) c9 ar (issueQ S w) nP nR nS := by
  have e0 : sN (issueQ S w) 2 = sN S 2 + 1 := (show va_up (sN S) 2 (sN S 2 + 1) 2 = _ from va_up_self _ _ _)
  have q2 : ∀ p, p ≠ sN S 2 → sQ (issueQ S w) p = sQ S p := fun p hp => by
    show up2 (up2 (up2 (sQ S) (sN S 2) 2 (-1)) (sN S 2) 3 (-1)) (sN S 2) 2 (-1) p = _
    rw [up2_row _ _ _ hp, up2_row _ _ _ hp, up2_row _ _ _ hp]
  have q3 : sQ (issueQ S w) (sN S 2) 2 = -1 := up2_same _ _ _ _
  have t1 : sT (issueQ S w) 1 = sT (uT S 1 w (setT (sT S 1 w) (sD S) (nI (sN S 2)))) 1 := by funext u; rfl
  exact ⟨h.s1, h.s2, h.s3, (va_up_self _ _ _).trans (by rw [e0]; exact nI_1 _), h.s5, h.s6, h.s7, h.s8, h.s9, h.paid, h.kind, h.scr, h.adm, h.lien, h.lien0, h.scr0, h.q0, (by rw [t1]; exact h.q1), h.q2, h.r0, h.r1, h.r2, h.rb, h.n1, h.n2, h.n3, h.n4, h.n5, h.n6, (fun p hp => by
    rw [e0] at hp
    by_cases e : p = sN S 2
    · subst e; rw [q3]; exact h.p2 _ (Nat.le_refl _) hP
    · rw [q2 p e]; exact h.p0 p (show p < sN S 2 by omega)), (fun p hp hq => by
    rw [e0] at hp
    by_cases e : p = sN S 2
    · subst e; exact absurd q3 hq
    · rw [q2 p e] at hq ⊢; exact h.p1 p (show p < sN S 2 by omega) hq), (fun p hp hq => h.p2 p (show sN S 2 ≤ p by rw [e0] at hp; omega) hq), h.sc, h.ad, h.cu, h.bK, h.bV, (by rw [e0]; omega), h.bN, h.bD⟩
theorem ct_X5_issues {G : Gt} {l : Launch} (hst : l.stackTraces = false) {M : Mm} {m : Nat} {S : St} {r s : Nat} (hM : MAw M m S r s) (v : Int32) (hv : isIx v (sN S 1) = true) (hle : ∀ e ∈ sT S 1 (ix v), e.1 ≤ sD S) (hp : (sT S 1 (ix v)).Pairwise (fun a b => a.1 ≤ b.1)) (hb : s < 1100) (hP : sN S 2 < 40) : Ct G l yX5_issues cX5_issues 2 (some .int) 2 M [rv m, .int v] 0 0 (fun r9 M9 => r9 = some (.int (nI (sN S 2))) ∧ Mu M m (issueQ S (ix v)) r (s + 1) M9) (noX) := by
  obtain ⟨a0, nP, nR, nS, a1, bR, bS⟩ := id hM
  refine Ct_intro (own := RX5) (nm := "issues") (by decide +kernel) rfl rfl hst (fun w hw => by simp only [List.mem_cons, List.not_mem_nil, or_false] at hw; rcases hw with rfl | rfl <;> first | rfl | exact rv_cat _) (Nat.le_of_ble_eq_true rfl) (fun γ hC => ?_)
  show J G γ M 0 [some (rv m), some (.int v)] [] 0 0
  refine J_aload_n hC dX5_issues_0 rfl rfl ?_
  refine J_iload_n hC dX5_issues_1 rfl rfl ?_
  refine J_aload_n hC dX5_issues_2 rfl rfl ?_
  refine J_get6 hC lf_X5_94 (j := 4) a0.t (v := .int (nI (sN S 2))) (congrArg (fun z => some (Value.int z)) a1.s4) dX5_issues_3 ?_
  refine J_callV (k1 := 0) (n1 := 0) (kd := 6) [.int v, .int (nI (sN S 2))] [.int (nI (sN S 2)), .int v, rv m] hC lv_X5_120 (ct_X5_setsPlate hst hM v (nI (sN S 2)) hv hle hp hb) a0.t (by decide) ⟨_, mE_6 a0.t⟩ rfl rfl rfl (by simp only [List.map_cons, List.map_nil, rv_cat, Value.category, List.sum_cons, List.sum_nil]; decide) (by decide) rfl rfl (by decide) (by decide) dX5_issues_6 (fun E M9 h => h.elim) (fun v9 M9 hq9 => ?_)
  obtain ⟨rfl, hub⟩ := hq9
  obtain ⟨⟨b0, nPb, nRb, nSb, b1, bRb, bSb⟩, hFb, htb⟩ := id hub
  refine J_aload_n hC dX5_issues_9 rfl rfl ?_
  refine J_dup hC dX5_issues_10 (rv_cat _) ?_
  refine J_get6 hC lf_X5_94 (j := 4) b0.t (v := .int (nI (sN S 2))) (congrArg (fun z => some (Value.int z)) b1.s4) dX5_issues_11 ?_
  refine J_iconst hC dX5_issues_14 (v := 1) (by decide) ?_
  refine J_iadd hC dX5_issues_15 ?_
  refine J_put6_4 hC lf_X5_94 b0.t dX5_issues_16 ?_
  refine J_aload_n hC dX5_issues_19 rfl rfl ?_
  refine J_get6 hC lf_X5_94 (j := 4) b0.t (v := .int (((nI (sN S 2)) + 1))) (congrArg (fun z => some (Value.int z)) (up2_same _ _ _ _ : mI (pI M9 m 4 ((nI (sN S 2)) + 1)) m 4 = ((nI (sN S 2)) + 1))) dX5_issues_20 ?_
  refine J_iconst hC dX5_issues_23 (v := 1) (by decide) ?_
  refine J_isub hC dX5_issues_24 ?_
  refine J_iret hC (by decide) (by decide) dX5_issues_25 ?_
  rw [nI_p1s1]
  exact ⟨rfl, ⟨b0, _, _, _, MA1.of_v (Vw.sc (M := M9) b0 (Vw.rf M9 m) 4 ((nI (sN S 2)) + 1)) (MA1v.issue b1.v hP), by omega, by omega⟩, Fr.trans hFb (Fr.trans (Fr.rf pM M9) (Fr.pI (b0.fm))), (((up2_k _ _ _ (by decide)).trans rfl)).trans htb⟩
