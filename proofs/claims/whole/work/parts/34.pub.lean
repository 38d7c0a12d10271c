theorem oReg_int (S : St) (who kind : Int32) : ∃ i, (oRegister S who kind).2.1 = .int i := by
  unfold oRegister
  repeat' split
  all_goals exact ⟨_, rfl⟩
theorem oBri_int (S : St) (who kind : Int32) : ∃ i, (oBringIn S who kind).2.1 = .int i := by
  unfold oBringIn
  repeat' split
  all_goals exact ⟨_, rfl⟩
theorem ct_X5_register {G : Gt} {l : Launch} (hst : l.stackTraces = false) {M : Mm} {m : Nat} {S : St} {t : Nat} (hM : MAt M m S t) (hI : Inv S t) (hlt : t < 512) (who kind : Int32) : Ct G l yX5_register cX5_register 3 (some .int) 5 M [rv m, .int who, .int kind] 0 0 (Op M m t (oRegister S who kind)) (noX) := by
  obtain ⟨a0, nP, nR, nS, a1, bR, bS, bt⟩ := id hM
  have bPs := a1.bPs; have bK := a1.bK; have bV := a1.bV; have bPl := a1.bP; have bN := a1.bN
  refine Ct_intro (own := RX5) (nm := "register") (by decide +kernel) rfl rfl hst (fun w hw => by simp only [List.mem_cons, List.not_mem_nil, or_false] at hw; rcases hw with rfl | rfl | rfl <;> first | rfl | exact rv_cat _) (Nat.le_of_ble_eq_true rfl) (fun γ hC => ?_)
  show J G γ M 0 [some (rv m), some (.int who), some (.int kind)] [] 0 0
  refine J_aload_n hC dX5_register_0 rfl rfl ?_
  refine J_iload_n hC dX5_register_1 rfl rfl ?_
  refine J_iload_n hC dX5_register_2 rfl rfl ?_
  refine J_iconst hC dX5_register_3 (v := 1) (by decide) ?_
  refine J_callV (k1 := 0) (n1 := 0) (kd := 6) [.int who, .int kind, .int 1] [.int 1, .int kind, .int who, rv m] hC lv_X5_143 (ct_X5_adds hst hM hI hlt who kind 1 (Or.inr rfl)) a0.t (by decide) ⟨_, mE_6 a0.t⟩ rfl rfl rfl (by simp only [List.map_cons, List.map_nil, rv_cat, Value.category, List.sum_cons, List.sum_nil]; decide) (by decide) rfl rfl (by decide) (by decide) dX5_register_4 (fun E M9 h => h.elim) (fun v9 M9 hq9 => ?_)
  obtain ⟨i9, hi9⟩ := oReg_int S who kind
  rw [if_pos rfl] at hq9
  obtain ⟨e9, hb9⟩ := hq9
  rw [e9, hi9]
  clear e9
  refine J_iret hC (by decide) (by decide) dX5_register_7 ?_
  exact ⟨by rw [hi9], hb9⟩
theorem ct_X5_bringIn {G : Gt} {l : Launch} (hst : l.stackTraces = false) {M : Mm} {m : Nat} {S : St} {t : Nat} (hM : MAt M m S t) (hI : Inv S t) (hlt : t < 512) (who kind : Int32) : Ct G l yX5_bringIn cX5_bringIn 3 (some .int) 5 M [rv m, .int who, .int kind] 0 0 (Op M m t (oBringIn S who kind)) (noX) := by
  obtain ⟨a0, nP, nR, nS, a1, bR, bS, bt⟩ := id hM
  have bPs := a1.bPs; have bK := a1.bK; have bV := a1.bV; have bPl := a1.bP; have bN := a1.bN
  refine Ct_intro (own := RX5) (nm := "bringIn") (by decide +kernel) rfl rfl hst (fun w hw => by simp only [List.mem_cons, List.not_mem_nil, or_false] at hw; rcases hw with rfl | rfl | rfl <;> first | rfl | exact rv_cat _) (Nat.le_of_ble_eq_true rfl) (fun γ hC => ?_)
  show J G γ M 0 [some (rv m), some (.int who), some (.int kind)] [] 0 0
  refine J_aload_n hC dX5_bringIn_0 rfl rfl ?_
  refine J_iload_n hC dX5_bringIn_1 rfl rfl ?_
  refine J_iload_n hC dX5_bringIn_2 rfl rfl ?_
  refine J_iconst hC dX5_bringIn_3 (v := 0) (by decide) ?_
  refine J_callV (k1 := 0) (n1 := 0) (kd := 6) [.int who, .int kind, .int 0] [.int 0, .int kind, .int who, rv m] hC lv_X5_143 (ct_X5_adds hst hM hI hlt who kind 0 (Or.inl rfl)) a0.t (by decide) ⟨_, mE_6 a0.t⟩ rfl rfl rfl (by simp only [List.map_cons, List.map_nil, rv_cat, Value.category, List.sum_cons, List.sum_nil]; decide) (by decide) rfl rfl (by decide) (by decide) dX5_bringIn_4 (fun E M9 h => h.elim) (fun v9 M9 hq9 => ?_)
  obtain ⟨i9, hi9⟩ := oBri_int S who kind
  rw [if_neg (by decide)] at hq9
  obtain ⟨e9, hb9⟩ := hq9
  rw [e9, hi9]
  clear e9
  refine J_iret hC (by decide) (by decide) dX5_bringIn_7 ?_
  exact ⟨by rw [hi9], hb9⟩
theorem MA1v.adm1 {sc : Nat → Int32} {c9 : Int64} {ar : Nat → Nat → Int32} {S : St} {nP nR nS : Nat} {v : Nat} (h : MA1v sc c9 ar S nP nR nS)  : MA1v (va_up sc 0 0) c9 (up2 ar 14 v 1) (uV S v 6 1) nP nR nS := by
  have v1 : (va_up sc 0 0) 1 = sc 1 := rfl
  have v2 : (va_up sc 0 0) 2 = sc 2 := rfl
  have v3 : (va_up sc 0 0) 3 = sc 3 := rfl
  have v4 : (va_up sc 0 0) 4 = sc 4 := rfl
  have v5 : (va_up sc 0 0) 5 = sc 5 := rfl
  have v6 : (va_up sc 0 0) 6 = sc 6 := rfl
  have v7 : (va_up sc 0 0) 7 = sc 7 := rfl
  have v8 : (va_up sc 0 0) 8 = sc 8 := rfl
  have e10 : (up2 ar 14 v 1) 10 = ar 10 := rfl
  have e11 : (up2 ar 14 v 1) 11 = ar 11 := rfl
  have e12 : (up2 ar 14 v 1) 12 = ar 12 := rfl
  have e13 : (up2 ar 14 v 1) 13 = ar 13 := rfl
  have e14 : (up2 ar 14 v 1) 14 = va_up (ar 14) v 1 := by rw [up2_va]
  have e15 : (up2 ar 14 v 1) 15 = ar 15 := rfl
  have e16 : (up2 ar 14 v 1) 16 = ar 16 := rfl
  have e17 : (up2 ar 14 v 1) 17 = ar 17 := rfl
  have e18 : (up2 ar 14 v 1) 18 = ar 18 := rfl
  have e19 : (up2 ar 14 v 1) 19 = ar 19 := rfl
  have e20 : (up2 ar 14 v 1) 20 = ar 20 := rfl
  have e21 : (up2 ar 14 v 1) 21 = ar 21 := rfl
  have e22 : (up2 ar 14 v 1) 22 = ar 22 := rfl
  have e23 : (up2 ar 14 v 1) 23 = ar 23 := rfl
  have e24 : (up2 ar 14 v 1) 24 = ar 24 := rfl
  have e25 : (up2 ar 14 v 1) 25 = ar 25 := rfl
  have e26 : (up2 ar 14 v 1) 26 = ar 26 := rfl
  have e27 : (up2 ar 14 v 1) 27 = ar 27 := rfl
  have e28 : (up2 ar 14 v 1) 28 = ar 28 := rfl
  have e29 : (up2 ar 14 v 1) 29 = ar 29 := rfl
  have e30 : (up2 ar 14 v 1) 30 = ar 30 := rfl
  have e31 : (up2 ar 14 v 1) 31 = ar 31 := rfl
  have e32 : (up2 ar 14 v 1) 32 = ar 32 := rfl
  have hsN : sN (uV S v 6 1) = sN S := (by simp only [sN_uV])
  have hsD : sD (uV S v 6 1) = sD S := (by simp only [sD_uV])
  have hsC : sC (uV S v 6 1) = sC S := (by simp only [sC_uV])
  have hsP : sP (uV S v 6 1) = sP S := (by simp only [sP_uV])
  have hsV : sV (uV S v 6 1) = up2 (sV S) v 6 1 := (by simp only [sV_uV])
  have hsL : sL (uV S v 6 1) = sL S := (by simp only [sL_uV])
  have hsT : sT (uV S v 6 1) = sT S := (by simp only [sT_uV])
  have hsQ : sQ (uV S v 6 1) = sQ S := (by simp only [sQ_uV])
  have hsO : sO (uV S v 6 1) = sO S := (by simp only [sO_uV])
  generalize va_up sc 0 0 = C at *
  generalize up2 ar 14 v 1 = A at *
  generalize uV S v 6 1 = S9 at *
  unfold MA1v
  rw [v1, v2, v3, v4, v5, v6, v7, v8, e10, e11, e12, e13, e14, e15, e16, e17, e18, e19, e20, e21, e22, e23, e24, e25, e26, e27, e28, e29, e30, e31, e32, hsN, hsD, hsC, hsP, hsV, hsL, hsT, hsQ, hsO]
  exact ⟨h.s1, h.s2, h.s3, h.s4, h.s5, h.s6, h.s7, h.s8, h.s9, h.paid, (by
    intro u hu
    rw [up2_k' (j := 1) _ (by decide)]; exact h.kind u hu), (by
    intro u hu
    rw [up2_k' (j := 7) _ (by decide)]; exact h.scr u hu), (by
    intro u hu
    by_cases e : u = v
    · subst e; rw [va_up_self, up2_same]
    · rw [va_up_ne _ _ e, up2_b _ _ _ _ e]; exact h.adm u hu), h.lien, h.lien0, h.scr0, h.q0, h.q1, h.q2, h.r0, h.r1, h.r2, h.rb, h.n1, h.n2, h.n3, h.n4, h.n5, h.n6, h.p0, h.p1, h.p2, (by
    intro u hu
    rw [up2_k' (j := 7) _ (by decide)]; exact h.sc u hu), (by
    intro u hu
    by_cases e : u = v
    · subst e; rw [up2_same]; exact Or.inr rfl
    · rw [up2_b _ _ _ _ e]; exact h.ad u hu), h.cu, h.bK, h.bV, h.bP, h.bN, h.bD⟩
theorem MA1v.scr1 {sc : Nat → Int32} {c9 : Int64} {ar : Nat → Nat → Int32} {S : St} {nP nR nS : Nat} {v : Nat} (h : MA1v sc c9 ar S nP nR nS) (hv : v < sN S 1) : MA1v (va_up sc 0 0) c9 (up2 ar 13 v 1) (uV S v 7 1) nP nR nS := by
  have v1 : (va_up sc 0 0) 1 = sc 1 := rfl
  have v2 : (va_up sc 0 0) 2 = sc 2 := rfl
  have v3 : (va_up sc 0 0) 3 = sc 3 := rfl
  have v4 : (va_up sc 0 0) 4 = sc 4 := rfl
  have v5 : (va_up sc 0 0) 5 = sc 5 := rfl
  have v6 : (va_up sc 0 0) 6 = sc 6 := rfl
  have v7 : (va_up sc 0 0) 7 = sc 7 := rfl
  have v8 : (va_up sc 0 0) 8 = sc 8 := rfl
  have e10 : (up2 ar 13 v 1) 10 = ar 10 := rfl
  have e11 : (up2 ar 13 v 1) 11 = ar 11 := rfl
  have e12 : (up2 ar 13 v 1) 12 = ar 12 := rfl
  have e13 : (up2 ar 13 v 1) 13 = va_up (ar 13) v 1 := by rw [up2_va]
  have e14 : (up2 ar 13 v 1) 14 = ar 14 := rfl
  have e15 : (up2 ar 13 v 1) 15 = ar 15 := rfl
  have e16 : (up2 ar 13 v 1) 16 = ar 16 := rfl
  have e17 : (up2 ar 13 v 1) 17 = ar 17 := rfl
  have e18 : (up2 ar 13 v 1) 18 = ar 18 := rfl
  have e19 : (up2 ar 13 v 1) 19 = ar 19 := rfl
  have e20 : (up2 ar 13 v 1) 20 = ar 20 := rfl
  have e21 : (up2 ar 13 v 1) 21 = ar 21 := rfl
  have e22 : (up2 ar 13 v 1) 22 = ar 22 := rfl
  have e23 : (up2 ar 13 v 1) 23 = ar 23 := rfl
  have e24 : (up2 ar 13 v 1) 24 = ar 24 := rfl
  have e25 : (up2 ar 13 v 1) 25 = ar 25 := rfl
  have e26 : (up2 ar 13 v 1) 26 = ar 26 := rfl
  have e27 : (up2 ar 13 v 1) 27 = ar 27 := rfl
  have e28 : (up2 ar 13 v 1) 28 = ar 28 := rfl
  have e29 : (up2 ar 13 v 1) 29 = ar 29 := rfl
  have e30 : (up2 ar 13 v 1) 30 = ar 30 := rfl
  have e31 : (up2 ar 13 v 1) 31 = ar 31 := rfl
  have e32 : (up2 ar 13 v 1) 32 = ar 32 := rfl
  have hsN : sN (uV S v 7 1) = sN S := (by simp only [sN_uV])
  have hsD : sD (uV S v 7 1) = sD S := (by simp only [sD_uV])
  have hsC : sC (uV S v 7 1) = sC S := (by simp only [sC_uV])
  have hsP : sP (uV S v 7 1) = sP S := (by simp only [sP_uV])
  have hsV : sV (uV S v 7 1) = up2 (sV S) v 7 1 := (by simp only [sV_uV])
  have hsL : sL (uV S v 7 1) = sL S := (by simp only [sL_uV])
  have hsT : sT (uV S v 7 1) = sT S := (by simp only [sT_uV])
  have hsQ : sQ (uV S v 7 1) = sQ S := (by simp only [sQ_uV])
  have hsO : sO (uV S v 7 1) = sO S := (by simp only [sO_uV])
  generalize va_up sc 0 0 = C at *
  generalize up2 ar 13 v 1 = A at *
  generalize uV S v 7 1 = S9 at *
  unfold MA1v
  rw [v1, v2, v3, v4, v5, v6, v7, v8, e10, e11, e12, e13, e14, e15, e16, e17, e18, e19, e20, e21, e22, e23, e24, e25, e26, e27, e28, e29, e30, e31, e32, hsN, hsD, hsC, hsP, hsV, hsL, hsT, hsQ, hsO]
  exact ⟨h.s1, h.s2, h.s3, h.s4, h.s5, h.s6, h.s7, h.s8, h.s9, h.paid, (by
    intro u hu
    rw [up2_k' (j := 1) _ (by decide)]; exact h.kind u hu), (by
    intro u hu
    by_cases e : u = v
    · subst e; rw [va_up_self, up2_same]
    · rw [va_up_ne _ _ e, up2_b _ _ _ _ e]; exact h.scr u hu), (by
    intro u hu
    rw [up2_k' (j := 6) _ (by decide)]; exact h.adm u hu), h.lien, h.lien0, (fun u hu hu2 => by rw [va_up_ne _ _ (by omega)]; exact h.scr0 u hu hu2), h.q0, h.q1, h.q2, h.r0, h.r1, h.r2, h.rb, h.n1, h.n2, h.n3, h.n4, h.n5, h.n6, h.p0, h.p1, h.p2, (by
    intro u hu
    by_cases e : u = v
    · subst e; rw [up2_same]; exact Or.inr rfl
    · rw [up2_b _ _ _ _ e]; exact h.sc u hu), (by
    intro u hu
    rw [up2_k' (j := 6) _ (by decide)]; exact h.ad u hu), h.cu, h.bK, h.bV, h.bP, h.bN, h.bD⟩
theorem MA1v.keepq {sc : Nat → Int32} {c9 : Int64} {ar : Nat → Nat → Int32} {S : St} {nP nR nS : Nat} {p : Nat} {k d : Int32} (h : MA1v sc c9 ar S nP nR nS) (hp : p < sN S 2) (hk : k ≠ -1) : MA1v (va_up sc 0 0) c9 (up2 (up2 (up2 ar 32 p 1) 30 p k) 31 p d) (uQ (uQ S p 2 k) p 3 d) nP nR nS := by
  have v1 : (va_up sc 0 0) 1 = sc 1 := rfl
  have v2 : (va_up sc 0 0) 2 = sc 2 := rfl
  have v3 : (va_up sc 0 0) 3 = sc 3 := rfl
  have v4 : (va_up sc 0 0) 4 = sc 4 := rfl
  have v5 : (va_up sc 0 0) 5 = sc 5 := rfl
  have v6 : (va_up sc 0 0) 6 = sc 6 := rfl
  have v7 : (va_up sc 0 0) 7 = sc 7 := rfl
  have v8 : (va_up sc 0 0) 8 = sc 8 := rfl
  have e10 : (up2 (up2 (up2 ar 32 p 1) 30 p k) 31 p d) 10 = ar 10 := rfl
  have e11 : (up2 (up2 (up2 ar 32 p 1) 30 p k) 31 p d) 11 = ar 11 := rfl
  have e12 : (up2 (up2 (up2 ar 32 p 1) 30 p k) 31 p d) 12 = ar 12 := rfl
  have e13 : (up2 (up2 (up2 ar 32 p 1) 30 p k) 31 p d) 13 = ar 13 := rfl
  have e14 : (up2 (up2 (up2 ar 32 p 1) 30 p k) 31 p d) 14 = ar 14 := rfl
  have e15 : (up2 (up2 (up2 ar 32 p 1) 30 p k) 31 p d) 15 = ar 15 := rfl
  have e16 : (up2 (up2 (up2 ar 32 p 1) 30 p k) 31 p d) 16 = ar 16 := rfl
  have e17 : (up2 (up2 (up2 ar 32 p 1) 30 p k) 31 p d) 17 = ar 17 := rfl
  have e18 : (up2 (up2 (up2 ar 32 p 1) 30 p k) 31 p d) 18 = ar 18 := rfl
  have e19 : (up2 (up2 (up2 ar 32 p 1) 30 p k) 31 p d) 19 = ar 19 := rfl
  have e20 : (up2 (up2 (up2 ar 32 p 1) 30 p k) 31 p d) 20 = ar 20 := rfl
  have e21 : (up2 (up2 (up2 ar 32 p 1) 30 p k) 31 p d) 21 = ar 21 := rfl
  have e22 : (up2 (up2 (up2 ar 32 p 1) 30 p k) 31 p d) 22 = ar 22 := rfl
  have e23 : (up2 (up2 (up2 ar 32 p 1) 30 p k) 31 p d) 23 = ar 23 := rfl
  have e24 : (up2 (up2 (up2 ar 32 p 1) 30 p k) 31 p d) 24 = ar 24 := rfl
  have e25 : (up2 (up2 (up2 ar 32 p 1) 30 p k) 31 p d) 25 = ar 25 := rfl
  have e26 : (up2 (up2 (up2 ar 32 p 1) 30 p k) 31 p d) 26 = ar 26 := rfl
  have e27 : (up2 (up2 (up2 ar 32 p 1) 30 p k) 31 p d) 27 = ar 27 := rfl
  have e28 : (up2 (up2 (up2 ar 32 p 1) 30 p k) 31 p d) 28 = ar 28 := rfl
  have e29 : (up2 (up2 (up2 ar 32 p 1) 30 p k) 31 p d) 29 = ar 29 := rfl
  have e30 : (up2 (up2 (up2 ar 32 p 1) 30 p k) 31 p d) 30 = va_up (ar 30) p k := by rw [up2_row _ _ _ (show (30 : Nat) ≠ 31 by decide), up2_va, up2_row _ _ _ (show (30 : Nat) ≠ 32 by decide)]
  have e31 : (up2 (up2 (up2 ar 32 p 1) 30 p k) 31 p d) 31 = va_up (ar 31) p d := by rw [up2_va, up2_row _ _ _ (show (31 : Nat) ≠ 30 by decide), up2_row _ _ _ (show (31 : Nat) ≠ 32 by decide)]
  have e32 : (up2 (up2 (up2 ar 32 p 1) 30 p k) 31 p d) 32 = va_up (ar 32) p 1 := by rw [up2_row _ _ _ (show (32 : Nat) ≠ 31 by decide), up2_row _ _ _ (show (32 : Nat) ≠ 30 by decide), up2_va]
  have hsN : sN (uQ (uQ S p 2 k) p 3 d) = sN S := (by simp only [sN_uQ])
  have hsD : sD (uQ (uQ S p 2 k) p 3 d) = sD S := (by simp only [sD_uQ])
  have hsC : sC (uQ (uQ S p 2 k) p 3 d) = sC S := (by simp only [sC_uQ])
  have hsP : sP (uQ (uQ S p 2 k) p 3 d) = sP S := (by simp only [sP_uQ])
  have hsV : sV (uQ (uQ S p 2 k) p 3 d) = sV S := (by simp only [sV_uQ])
  have hsL : sL (uQ (uQ S p 2 k) p 3 d) = sL S := (by simp only [sL_uQ])
  have hsT : sT (uQ (uQ S p 2 k) p 3 d) = sT S := (by simp only [sT_uQ])
  have hsQ : sQ (uQ (uQ S p 2 k) p 3 d) = up2 (up2 (sQ S) p 2 k) p 3 d := (by simp only [sQ_uQ])
  have hsO : sO (uQ (uQ S p 2 k) p 3 d) = sO S := (by simp only [sO_uQ])
  generalize va_up sc 0 0 = C at *
  generalize up2 (up2 (up2 ar 32 p 1) 30 p k) 31 p d = A at *
  generalize uQ (uQ S p 2 k) p 3 d = S9 at *
  unfold MA1v
  rw [v1, v2, v3, v4, v5, v6, v7, v8, e10, e11, e12, e13, e14, e15, e16, e17, e18, e19, e20, e21, e22, e23, e24, e25, e26, e27, e28, e29, e30, e31, e32, hsN, hsD, hsC, hsP, hsV, hsL, hsT, hsQ, hsO]
  exact ⟨h.s1, h.s2, h.s3, h.s4, h.s5, h.s6, h.s7, h.s8, h.s9, h.paid, h.kind, h.scr, h.adm, h.lien, h.lien0, h.scr0, h.q0, h.q1, h.q2, h.r0, h.r1, h.r2, h.rb, h.n1, h.n2, h.n3, h.n4, h.n5, h.n6, (by
    intro u hu
    rw [up2_k' (j := 2) _ (by decide)]
    by_cases e : u = p
    · subst e; rw [va_up_self, up2_same, decide_eq_true hk]; rfl
    · rw [va_up_ne _ _ e, up2_b _ _ _ _ e]; exact h.p0 u hu), (by
    intro u hu
    rw [up2_k' (j := 2) _ (by decide)]
    by_cases e : u = p
    · subst e; rw [va_up_self, va_up_self, up2_same, up2_same]; exact fun _ => ⟨rfl, rfl⟩
    · rw [va_up_ne _ _ e, va_up_ne _ _ e, up2_b _ _ _ _ e, up2_b _ _ _ _ e, up2_b _ _ _ _ e]; exact h.p1 u hu), (fun u hu hu2 => by rw [va_up_ne _ _ (by omega)]; exact h.p2 u hu hu2), h.sc, h.ad, h.cu, h.bK, h.bV, h.bP, h.bN, h.bD⟩
theorem MA1v.offq {sc : Nat → Int32} {c9 : Int64} {ar : Nat → Nat → Int32} {S : St} {nP nR nS : Nat} {p : Nat} (h : MA1v sc c9 ar S nP nR nS) (hp : p < sN S 2) : MA1v (va_up sc 0 0) c9 (up2 ar 32 p 0) (uQ S p 2 (-1)) nP nR nS := by
  have v1 : (va_up sc 0 0) 1 = sc 1 := rfl
  have v2 : (va_up sc 0 0) 2 = sc 2 := rfl
  have v3 : (va_up sc 0 0) 3 = sc 3 := rfl
  have v4 : (va_up sc 0 0) 4 = sc 4 := rfl
  have v5 : (va_up sc 0 0) 5 = sc 5 := rfl
  have v6 : (va_up sc 0 0) 6 = sc 6 := rfl
  have v7 : (va_up sc 0 0) 7 = sc 7 := rfl
  have v8 : (va_up sc 0 0) 8 = sc 8 := rfl
  have e10 : (up2 ar 32 p 0) 10 = ar 10 := rfl
  have e11 : (up2 ar 32 p 0) 11 = ar 11 := rfl
  have e12 : (up2 ar 32 p 0) 12 = ar 12 := rfl
  have e13 : (up2 ar 32 p 0) 13 = ar 13 := rfl
  have e14 : (up2 ar 32 p 0) 14 = ar 14 := rfl
  have e15 : (up2 ar 32 p 0) 15 = ar 15 := rfl
  have e16 : (up2 ar 32 p 0) 16 = ar 16 := rfl
  have e17 : (up2 ar 32 p 0) 17 = ar 17 := rfl
  have e18 : (up2 ar 32 p 0) 18 = ar 18 := rfl
  have e19 : (up2 ar 32 p 0) 19 = ar 19 := rfl
  have e20 : (up2 ar 32 p 0) 20 = ar 20 := rfl
  have e21 : (up2 ar 32 p 0) 21 = ar 21 := rfl
  have e22 : (up2 ar 32 p 0) 22 = ar 22 := rfl
  have e23 : (up2 ar 32 p 0) 23 = ar 23 := rfl
  have e24 : (up2 ar 32 p 0) 24 = ar 24 := rfl
  have e25 : (up2 ar 32 p 0) 25 = ar 25 := rfl
  have e26 : (up2 ar 32 p 0) 26 = ar 26 := rfl
  have e27 : (up2 ar 32 p 0) 27 = ar 27 := rfl
  have e28 : (up2 ar 32 p 0) 28 = ar 28 := rfl
  have e29 : (up2 ar 32 p 0) 29 = ar 29 := rfl
  have e30 : (up2 ar 32 p 0) 30 = ar 30 := rfl
  have e31 : (up2 ar 32 p 0) 31 = ar 31 := rfl
  have e32 : (up2 ar 32 p 0) 32 = va_up (ar 32) p 0 := by rw [up2_va]
  have hsN : sN (uQ S p 2 (-1)) = sN S := (by simp only [sN_uQ])
  have hsD : sD (uQ S p 2 (-1)) = sD S := (by simp only [sD_uQ])
  have hsC : sC (uQ S p 2 (-1)) = sC S := (by simp only [sC_uQ])
  have hsP : sP (uQ S p 2 (-1)) = sP S := (by simp only [sP_uQ])
  have hsV : sV (uQ S p 2 (-1)) = sV S := (by simp only [sV_uQ])
  have hsL : sL (uQ S p 2 (-1)) = sL S := (by simp only [sL_uQ])
  have hsT : sT (uQ S p 2 (-1)) = sT S := (by simp only [sT_uQ])
  have hsQ : sQ (uQ S p 2 (-1)) = up2 (sQ S) p 2 (-1) := (by simp only [sQ_uQ])
  have hsO : sO (uQ S p 2 (-1)) = sO S := (by simp only [sO_uQ])
  generalize va_up sc 0 0 = C at *
  generalize up2 ar 32 p 0 = A at *
  generalize uQ S p 2 (-1) = S9 at *
  unfold MA1v
  rw [v1, v2, v3, v4, v5, v6, v7, v8, e10, e11, e12, e13, e14, e15, e16, e17, e18, e19, e20, e21, e22, e23, e24, e25, e26, e27, e28, e29, e30, e31, e32, hsN, hsD, hsC, hsP, hsV, hsL, hsT, hsQ, hsO]
  exact ⟨h.s1, h.s2, h.s3, h.s4, h.s5, h.s6, h.s7, h.s8, h.s9, h.paid, h.kind, h.scr, h.adm, h.lien, h.lien0, h.scr0, h.q0, h.q1, h.q2, h.r0, h.r1, h.r2, h.rb, h.n1, h.n2, h.n3, h.n4, h.n5, h.n6, (by
    intro u hu
    by_cases e : u = p
    · subst e; rw [va_up_self, up2_same]; rfl
    · rw [va_up_ne _ _ e, up2_b _ _ _ _ e]; exact h.p0 u hu), (by
    intro u hu
    by_cases e : u = p
    · subst e; rw [up2_same]; exact fun q => absurd rfl q
    · rw [up2_b _ _ _ _ e, up2_b _ _ _ _ e]; exact h.p1 u hu), (fun u hu hu2 => by rw [va_up_ne _ _ (by omega)]; exact h.p2 u hu hu2), h.sc, h.ad, h.cu, h.bK, h.bV, h.bP, h.bN, h.bD⟩
theorem MA1v.t3 {sc : Nat → Int32} {c9 : Int64} {ar : Nat → Nat → Int32} {S : St} {nP nR nS : Nat} {p : Nat} {x : Tl} (h : MA1v sc c9 ar S nP nR nS)  : MA1v (va_up sc 0 0) c9 (ar) (uT S 3 p x) nP nR nS := by
  have v1 : (va_up sc 0 0) 1 = sc 1 := rfl
  have v2 : (va_up sc 0 0) 2 = sc 2 := rfl
  have v3 : (va_up sc 0 0) 3 = sc 3 := rfl
  have v4 : (va_up sc 0 0) 4 = sc 4 := rfl
  have v5 : (va_up sc 0 0) 5 = sc 5 := rfl
  have v6 : (va_up sc 0 0) 6 = sc 6 := rfl
  have v7 : (va_up sc 0 0) 7 = sc 7 := rfl
  have v8 : (va_up sc 0 0) 8 = sc 8 := rfl
  have e10 : (ar) 10 = ar 10 := rfl
  have e11 : (ar) 11 = ar 11 := rfl
  have e12 : (ar) 12 = ar 12 := rfl
  have e13 : (ar) 13 = ar 13 := rfl
  have e14 : (ar) 14 = ar 14 := rfl
  have e15 : (ar) 15 = ar 15 := rfl
  have e16 : (ar) 16 = ar 16 := rfl
  have e17 : (ar) 17 = ar 17 := rfl
  have e18 : (ar) 18 = ar 18 := rfl
  have e19 : (ar) 19 = ar 19 := rfl
  have e20 : (ar) 20 = ar 20 := rfl
  have e21 : (ar) 21 = ar 21 := rfl
  have e22 : (ar) 22 = ar 22 := rfl
  have e23 : (ar) 23 = ar 23 := rfl
  have e24 : (ar) 24 = ar 24 := rfl
  have e25 : (ar) 25 = ar 25 := rfl
  have e26 : (ar) 26 = ar 26 := rfl
  have e27 : (ar) 27 = ar 27 := rfl
  have e28 : (ar) 28 = ar 28 := rfl
  have e29 : (ar) 29 = ar 29 := rfl
  have e30 : (ar) 30 = ar 30 := rfl
  have e31 : (ar) 31 = ar 31 := rfl
  have e32 : (ar) 32 = ar 32 := rfl
  have hsN : sN (uT S 3 p x) = sN S := (by simp only [sN_uT])
  have hsD : sD (uT S 3 p x) = sD S := (by simp only [sD_uT])
  have hsC : sC (uT S 3 p x) = sC S := (by simp only [sC_uT])
  have hsP : sP (uT S 3 p x) = sP S := (by simp only [sP_uT])
  have hsV : sV (uT S 3 p x) = sV S := (by simp only [sV_uT])
  have hsL : sL (uT S 3 p x) = sL S := (by simp only [sL_uT])
  have hsT : sT (uT S 3 p x) = up2 (sT S) 3 p x := (by simp only [sT_uT])
  have hsQ : sQ (uT S 3 p x) = sQ S := (by simp only [sQ_uT])
  have hsO : sO (uT S 3 p x) = sO S := (by simp only [sO_uT])
  generalize va_up sc 0 0 = C at *
  generalize uT S 3 p x = S9 at *
  unfold MA1v
  rw [v1, v2, v3, v4, v5, v6, v7, v8, e10, e11, e12, e13, e14, e15, e16, e17, e18, e19, e20, e21, e22, e23, e24, e25, e26, e27, e28, e29, e30, e31, e32, hsN, hsD, hsC, hsP, hsV, hsL, hsT, hsQ, hsO]
  exact ⟨h.s1, h.s2, h.s3, h.s4, h.s5, h.s6, h.s7, h.s8, h.s9, h.paid, h.kind, h.scr, h.adm, h.lien, h.lien0, h.scr0, (by rw [up2_row _ _ _ (by decide)]; exact h.q0), (by rw [up2_row _ _ _ (by decide)]; exact h.q1), (by rw [up2_row _ _ _ (by decide)]; exact h.q2), h.r0, h.r1, h.r2, h.rb, h.n1, h.n2, h.n3, h.n4, h.n5, h.n6, h.p0, h.p1, h.p2, h.sc, h.ad, h.cu, h.bK, h.bV, h.bP, h.bN, h.bD⟩
theorem op_mw {M M2 M9 : Mm} {m : Nat} {S1 : St} {t r s : Nat} {R : Res} {v : Value} (hR : R = (0, v, S1)) (hF2 : Fr pM M M2) (hT2 : mI M2 m 0 = 0) (h : Mu M2 m S1 r s M9) (hr : r ≤ t + 1) (hs : s ≤ 2 * (t + 1)) (ht : t < 512) : Op M m t R (some v) M9 := by
  subst hR
  exact ⟨rfl, h.1.t hr hs (by omega), hF2.trans h.2.1, h.2.2.trans hT2⟩
theorem onRoad_eq (S : St) (v : Nat) : issueQ (uT (uV S v 6 1) 2 v (setT (sT (uV S v 6 1) 2 v) (sD (uV S v 6 1)) 1)) v = onRoad S v := by
  refine St_ext ?_ ?_ ?_ ?_ ?_ ?_ ?_ ?_ ?_
  all_goals
    unfold onRoad issueQ mountQ
    simp only [sN_uN, sN_uD, sN_uC, sN_uP, sN_uV, sN_uL, sN_uT, sN_uQ, sN_uO, sD_uN, sD_uD, sD_uC, sD_uP, sD_uV, sD_uL, sD_uT, sD_uQ, sD_uO, sC_uN, sC_uD, sC_uC, sC_uP, sC_uV, sC_uL, sC_uT, sC_uQ, sC_uO, sP_uN, sP_uD, sP_uC, sP_uP, sP_uV, sP_uL, sP_uT, sP_uQ, sP_uO, sV_uN, sV_uD, sV_uC, sV_uP, sV_uV, sV_uL, sV_uT, sV_uQ, sV_uO, sL_uN, sL_uD, sL_uC, sL_uP, sL_uV, sL_uL, sL_uT, sL_uQ, sL_uO, sT_uN, sT_uD, sT_uC, sT_uP, sT_uV, sT_uL, sT_uT, sT_uQ, sT_uO, sQ_uN, sQ_uD, sQ_uC, sQ_uP, sQ_uV, sQ_uL, sQ_uT, sQ_uQ, sQ_uO, sO_uN, sO_uD, sO_uC, sO_uP, sO_uV, sO_uL, sO_uT, sO_uQ, sO_uO]
  funext r u
  unfold up2
  grind
