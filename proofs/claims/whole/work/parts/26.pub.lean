/-! the reference's public calls -/
def Op (M : Mm) (m t : Nat) (R : Res) (r9 : Option Value) (M9 : Mm) : Prop := r9 = some R.2.1 ∧ MAt M9 m R.2.2 (t + 1) ∧ Fr pM M M9 ∧ mI M9 m 0 = nI R.1
theorem MAt.up {M : Mm} {m : Nat} {S : St} {t : Nat} (h : MAt M m S t) (ht : t < 512) : MAt M m S (t + 1) := by
  obtain ⟨a, b, c, d, e, f, g, i⟩ := h
  exact ⟨a, b, c, d, e, by omega, by omega, by omega⟩
theorem pI_pI (M : Mm) (m k : Nat) (a b : Int32) : pI (pI M m k a) m k b = pI M m k b := by
  have h : up2 (up2 (mI M) m k a) m k b = up2 (mI M) m k b := by funext x y; simp only [up2]; split <;> (try split) <;> rfl
  show (mT M, mL M, up2 (up2 (mI M) m k a) m k b, mR M, mJ M, mD M) = _
  rw [h]; rfl
theorem op_no {M : Mm} {m : Nat} {S : St} {t k : Nat} {R : Res} {c : Int32} (hM : MAt M m S t) (ht : t < 512) (hR : R = no k S) (hc : c = nI k) : Op M m t R (some (.int 0)) (pI M m 0 c) := by
  subst hR; subst hc
  exact ⟨rfl, (hM.thr _).up ht, Fr.pI hM.1.fm, up2_same _ _ _ _⟩
theorem op_ok {M : Mm} {m : Nat} {S : St} {t : Nat} {R : Res} {v : Value} (hM : MAt M m S t) (ht : t < 512) (hR : R = (0, v, S)) : Op M m t R (some v) (pI M m 0 0) := by
  subst hR
  exact ⟨rfl, (hM.thr _).up ht, Fr.pI hM.1.fm, up2_same _ _ _ _⟩
theorem op_at {M M9 : Mm} {m : Nat} {S1 : St} {t : Nat} {R : Res} {v : Value} (hR : R = (0, v, S1)) (h1 : MAt M9 m S1 (t + 1)) (h2 : Fr pM M M9) (h3 : mI M9 m 0 = 0) : Op M m t R (some v) M9 := by
  subst hR
  exact ⟨rfl, h1, h2, h3⟩
theorem MA1v.kp {sc : Nat → Int32} {c9 : Int64} {ar : Nat → Nat → Int32} {S : St} {nP nR nS : Nat}  (h : MA1v sc c9 ar S nP nR nS) (hn : sN S 0 < 12) : MA1v (va_up (va_up sc 0 0) 1 (nI (sN S 0 + 1))) c9 (ar) (uN S 0 (sN S 0 + 1)) nP nR nS := by
  have v1 : (va_up (va_up sc 0 0) 1 (nI (sN S 0 + 1))) 1 = nI (sN S 0 + 1) := rfl
  have v2 : (va_up (va_up sc 0 0) 1 (nI (sN S 0 + 1))) 2 = sc 2 := rfl
  have v3 : (va_up (va_up sc 0 0) 1 (nI (sN S 0 + 1))) 3 = sc 3 := rfl
  have v4 : (va_up (va_up sc 0 0) 1 (nI (sN S 0 + 1))) 4 = sc 4 := rfl
  have v5 : (va_up (va_up sc 0 0) 1 (nI (sN S 0 + 1))) 5 = sc 5 := rfl
  have v6 : (va_up (va_up sc 0 0) 1 (nI (sN S 0 + 1))) 6 = sc 6 := rfl
  have v7 : (va_up (va_up sc 0 0) 1 (nI (sN S 0 + 1))) 7 = sc 7 := rfl
  have v8 : (va_up (va_up sc 0 0) 1 (nI (sN S 0 + 1))) 8 = sc 8 := rfl
  have e10 : (ar) 10 = ar 10 := rfl
  have e11 : (ar) 11 = ar 11 := rfl
  have e12 : (ar) 12 = ar 12 := rfl
  have e13 : (ar) 13 = ar 13 := rfl
  have e14 : (ar) 14 = ar 14 := rfl
  have e15 : (ar) 15 = ar 15 := rfl
  have e16 : (ar) 16 = ar 16 := rfl
  have e17 : (ar) 17 = ar 17 := rfl
  have e18 : (ar) 18 = ar 18 := rfl
  have e19 : (ar) 19 = ar 19 := rfl
  have e20 : (ar) 20 = ar 20 := rfl
  have e21 : (ar) 21 = ar 21 := rfl
  have e22 : (ar) 22 = ar 22 := rfl
  have e23 : (ar) 23 = ar 23 := rfl
  have e24 : (ar) 24 = ar 24 := rfl
  have e25 : (ar) 25 = ar 25 := rfl
  have e26 : (ar) 26 = ar 26 := rfl
  have e27 : (ar) 27 = ar 27 := rfl
  have e28 : (ar) 28 = ar 28 := rfl
  have e29 : (ar) 29 = ar 29 := rfl
  have e30 : (ar) 30 = ar 30 := rfl
  have e31 : (ar) 31 = ar 31 := rfl
  have e32 : (ar) 32 = ar 32 := rfl
  have hsN : sN (uN S 0 (sN S 0 + 1)) = va_up (sN S) 0 (sN S 0 + 1) := rfl
  have hsD : sD (uN S 0 (sN S 0 + 1)) = sD S := rfl
  have hsC : sC (uN S 0 (sN S 0 + 1)) = sC S := rfl
  have hsP : sP (uN S 0 (sN S 0 + 1)) = sP S := rfl
  have hsV : sV (uN S 0 (sN S 0 + 1)) = sV S := rfl
  have hsL : sL (uN S 0 (sN S 0 + 1)) = sL S := rfl
  have hsT : sT (uN S 0 (sN S 0 + 1)) = sT S := rfl
  have hsQ : sQ (uN S 0 (sN S 0 + 1)) = sQ S := rfl
  have hsO : sO (uN S 0 (sN S 0 + 1)) = sO S := rfl
  generalize va_up (va_up sc 0 0) 1 (nI (sN S 0 + 1)) = C at *
  generalize uN S 0 (sN S 0 + 1) = S9 at *
  unfold MA1v
  rw [v1, v2, v3, v4, v5, v6, v7, v8, e10, e11, e12, e13, e14, e15, e16, e17, e18, e19, e20, e21, e22, e23, e24, e25, e26, e27, e28, e29, e30, e31, e32, hsN, hsD, hsC, hsP, hsV, hsL, hsT, hsQ, hsO]
  exact ⟨rfl, h.s2, h.s3, h.s4, h.s5, h.s6, h.s7, h.s8, h.s9, h.paid, h.kind, h.scr, h.adm, h.lien, h.lien0, h.scr0, h.q0, h.q1, h.q2, h.r0, h.r1, h.r2, h.rb, h.n1, h.n2, h.n3, h.n4, h.n5, h.n6, h.p0, h.p1, h.p2, h.sc, h.ad, h.cu, hn, h.bV, h.bP, h.bN, h.bD⟩
theorem MA1v.dy {sc : Nat → Int32} {c9 : Int64} {ar : Nat → Nat → Int32} {S : St} {nP nR nS : Nat} {d : Int32} (h : MA1v sc c9 ar S nP nR nS) (hd : 0 ≤ (sD S + d).toInt ∧ (sD S + d).toInt ≤ 3000) : MA1v (va_up (va_up sc 0 0) 5 (sD S + d)) c9 (ar) (uD S (sD S + d)) nP nR nS := by
  have v1 : (va_up (va_up sc 0 0) 5 (sD S + d)) 1 = sc 1 := rfl
  have v2 : (va_up (va_up sc 0 0) 5 (sD S + d)) 2 = sc 2 := rfl
  have v3 : (va_up (va_up sc 0 0) 5 (sD S + d)) 3 = sc 3 := rfl
  have v4 : (va_up (va_up sc 0 0) 5 (sD S + d)) 4 = sc 4 := rfl
  have v5 : (va_up (va_up sc 0 0) 5 (sD S + d)) 5 = sD S + d := rfl
  have v6 : (va_up (va_up sc 0 0) 5 (sD S + d)) 6 = sc 6 := rfl
  have v7 : (va_up (va_up sc 0 0) 5 (sD S + d)) 7 = sc 7 := rfl
  have v8 : (va_up (va_up sc 0 0) 5 (sD S + d)) 8 = sc 8 := rfl
  have e10 : (ar) 10 = ar 10 := rfl
  have e11 : (ar) 11 = ar 11 := rfl
  have e12 : (ar) 12 = ar 12 := rfl
  have e13 : (ar) 13 = ar 13 := rfl
  have e14 : (ar) 14 = ar 14 := rfl
  have e15 : (ar) 15 = ar 15 := rfl
  have e16 : (ar) 16 = ar 16 := rfl
  have e17 : (ar) 17 = ar 17 := rfl
  have e18 : (ar) 18 = ar 18 := rfl
  have e19 : (ar) 19 = ar 19 := rfl
  have e20 : (ar) 20 = ar 20 := rfl
  have e21 : (ar) 21 = ar 21 := rfl
  have e22 : (ar) 22 = ar 22 := rfl
  have e23 : (ar) 23 = ar 23 := rfl
  have e24 : (ar) 24 = ar 24 := rfl
  have e25 : (ar) 25 = ar 25 := rfl
  have e26 : (ar) 26 = ar 26 := rfl
  have e27 : (ar) 27 = ar 27 := rfl
  have e28 : (ar) 28 = ar 28 := rfl
  have e29 : (ar) 29 = ar 29 := rfl
  have e30 : (ar) 30 = ar 30 := rfl
  have e31 : (ar) 31 = ar 31 := rfl
  have e32 : (ar) 32 = ar 32 := rfl
  have hsN : sN (uD S (sD S + d)) = sN S := rfl
  have hsD : sD (uD S (sD S + d)) = sD S + d := rfl
  have hsC : sC (uD S (sD S + d)) = sC S := rfl
  have hsP : sP (uD S (sD S + d)) = sP S := rfl
  have hsV : sV (uD S (sD S + d)) = sV S := rfl
  have hsL : sL (uD S (sD S + d)) = sL S := rfl
  have hsT : sT (uD S (sD S + d)) = sT S := rfl
  have hsQ : sQ (uD S (sD S + d)) = sQ S := rfl
  have hsO : sO (uD S (sD S + d)) = sO S := rfl
  generalize va_up (va_up sc 0 0) 5 (sD S + d) = C at *
  generalize uD S (sD S + d) = S9 at *
  unfold MA1v
  rw [v1, v2, v3, v4, v5, v6, v7, v8, e10, e11, e12, e13, e14, e15, e16, e17, e18, e19, e20, e21, e22, e23, e24, e25, e26, e27, e28, e29, e30, e31, e32, hsN, hsD, hsC, hsP, hsV, hsL, hsT, hsQ, hsO]
  exact ⟨h.s1, h.s2, h.s3, h.s4, rfl, h.s6, h.s7, h.s8, h.s9, h.paid, h.kind, h.scr, h.adm, h.lien, h.lien0, h.scr0, h.q0, h.q1, h.q2, h.r0, h.r1, h.r2, h.rb, h.n1, h.n2, h.n3, h.n4, h.n5, h.n6, h.p0, h.p1, h.p2, h.sc, h.ad, h.cu, h.bK, h.bV, h.bP, h.bN, hd⟩
theorem ct_X5_addKeeper {G : Gt} {l : Launch} (hst : l.stackTraces = false) {M : Mm} {m : Nat} {S : St} {t : Nat} (hM : MAt M m S t) (hI : Inv S t) (hlt : t < 512)  : Ct G l yX5_addKeeper cX5_addKeeper 1 (some .int) 3 M [rv m] 0 0 (Op M m t (oAddKeeper S)) (noX) := by
  obtain ⟨a0, nP, nR, nS, a1, bR, bS, bt⟩ := id hM
  have bPs := a1.bPs; have bK := a1.bK; have bV := a1.bV; have bPl := a1.bP; have bN := a1.bN
  refine Ct_intro (own := RX5) (nm := "addKeeper") (by decide +kernel) rfl rfl hst (fun w hw => by simp only [List.mem_cons, List.not_mem_nil, or_false] at hw; rcases hw with rfl <;> first | rfl | exact rv_cat _) (Nat.le_of_ble_eq_true rfl) (fun γ hC => ?_)
  show J G γ M 0 [some (rv m)] [] 0 0
  refine J_aload_n hC dX5_addKeeper_0 rfl rfl ?_
  refine J_get6 hC lf_X5_84 (j := 1) a0.t (v := .int (nI (sN S 0))) (congrArg (fun z => some (Value.int z)) a1.s1) dX5_addKeeper_1 ?_
  refine J_bipush hC dX5_addKeeper_4 (v := 12) (by decide) ?_
  refine J_icmp_ne hC dX5_addKeeper_6 (tgt := 15) (by decide) (fun c6 => ?_) (fun c6 => ?_)
  · have q6 : ¬ (sN S 0) = 12 := fun e => c6 (show nI (sN S 0) = nI 12 from congrArg nI e)
    refine J_aload_n hC dX5_addKeeper_15 rfl rfl ?_
    refine J_iconst hC dX5_addKeeper_16 (v := 0) (by decide) ?_
    refine J_put6_0 hC lf_X5_80 a0.t dX5_addKeeper_17 ?_
    refine J_aload_n hC dX5_addKeeper_20 rfl rfl ?_
    refine J_dup hC dX5_addKeeper_21 (rv_cat _) ?_
    refine J_get6 hC lf_X5_84 (j := 1) a0.t (v := .int (nI (sN S 0))) (congrArg (fun z => some (Value.int z)) ((up2_k _ _ _ (by decide) : mI (pI M m 0 0) m 1 = mI M m 1).trans a1.s1)) dX5_addKeeper_22 ?_
    refine J_iconst hC dX5_addKeeper_25 (v := 1) (by decide) ?_
    refine J_iadd hC dX5_addKeeper_26 ?_
    refine J_put6_1 hC lf_X5_84 a0.t dX5_addKeeper_27 ?_
    refine J_aload_n hC dX5_addKeeper_30 rfl rfl ?_
    refine J_get6 hC lf_X5_84 (j := 1) a0.t (v := .int (((nI (sN S 0)) + 1))) (congrArg (fun z => some (Value.int z)) (up2_same _ _ _ _ : mI (pI (pI M m 0 0) m 1 ((nI (sN S 0)) + 1)) m 1 = ((nI (sN S 0)) + 1))) dX5_addKeeper_31 ?_
    refine J_iconst hC dX5_addKeeper_34 (v := 1) (by decide) ?_
    refine J_isub hC dX5_addKeeper_35 ?_
    refine J_iret hC (by decide) (by decide) dX5_addKeeper_36 ?_
    rw [nI_p1s1, nI_1]
    refine op_at (S1 := uN S 0 (sN S 0 + 1)) ?_ ⟨a0, _, _, _, MA1.of_v (Vw.sc (M := (pI M m 0 0)) a0 (Vw.sc (M := M) a0 (Vw.rf M m) 0 0) 1 (nI (sN S 0 + 1))) (MA1v.kp a1.v (by omega)), by omega, by omega, by omega⟩ (Fr.trans (Fr.trans (Fr.rf pM M) (Fr.pI (a0.fm))) (Fr.pI (a0.fm))) ((up2_k _ _ _ (by decide)).trans (up2_same _ _ _ _))
    simp [oAddKeeper, q6]
  · have q6 : (sN S 0) = 12 := (nI_eq (by omega) (by omega)).mp (show nI (sN S 0) = nI 12 from (nn c6))
    refine J_aload_n hC dX5_addKeeper_9 rfl rfl ?_
    refine J_iconst hC dX5_addKeeper_10 (v := 1) (by decide) ?_
    refine J_callV (k1 := 0) (n1 := 0) (kd := 6) [.int 1] [.int 1, rv m] hC lv_X5_116 (ct_X5_fails hst (M := M) a0 1) a0.t (by decide) ⟨_, mE_6 a0.t⟩ rfl rfl rfl (by simp only [List.map_cons, List.map_nil, rv_cat, Value.category, List.sum_cons, List.sum_nil]; decide) (by decide) rfl rfl (by decide) (by decide) dX5_addKeeper_11 (fun E M9 h => h.elim) (fun v9 M9 hq9 => ?_)
    obtain ⟨rfl, rfl⟩ := hq9
    refine J_iret hC (by decide) (by decide) dX5_addKeeper_14 ?_
    refine op_no hM hlt (k := 1) ?_ rfl
    simp [oAddKeeper, q6]
theorem ct_X5_day {G : Gt} {l : Launch} (hst : l.stackTraces = false) {M : Mm} {m : Nat} {S : St} {t : Nat} (hM : MAt M m S t) (hI : Inv S t) (hlt : t < 512)  : Ct G l yX5_day cX5_day 1 (some .int) 3 M [rv m] 0 0 (Op M m t (oDay S)) (noX) := by
  obtain ⟨a0, nP, nR, nS, a1, bR, bS, bt⟩ := id hM
  have bPs := a1.bPs; have bK := a1.bK; have bV := a1.bV; have bPl := a1.bP; have bN := a1.bN
  refine Ct_intro (own := RX5) (nm := "day") (by decide +kernel) rfl rfl hst (fun w hw => by simp only [List.mem_cons, List.not_mem_nil, or_false] at hw; rcases hw with rfl <;> first | rfl | exact rv_cat _) (Nat.le_of_ble_eq_true rfl) (fun γ hC => ?_)
  show J G γ M 0 [some (rv m)] [] 0 0
  refine J_aload_n hC dX5_day_0 rfl rfl ?_
  refine J_iconst hC dX5_day_1 (v := 0) (by decide) ?_
  refine J_put6_0 hC lf_X5_80 a0.t dX5_day_2 ?_
  refine J_aload_n hC dX5_day_5 rfl rfl ?_
  refine J_get6 hC lf_X5_97 (j := 5) a0.t (v := .int (sD S)) (congrArg (fun z => some (Value.int z)) ((up2_k _ _ _ (by decide) : mI (pI M m 0 0) m 5 = mI M m 5).trans a1.s5)) dX5_day_6 ?_
  refine J_iret hC (by decide) (by decide) dX5_day_9 ?_
  refine op_ok hM hlt ?_
  simp [oDay, bz]
theorem ct_X5_vehicles {G : Gt} {l : Launch} (hst : l.stackTraces = false) {M : Mm} {m : Nat} {S : St} {t : Nat} (hM : MAt M m S t) (hI : Inv S t) (hlt : t < 512)  : Ct G l yX5_vehicles cX5_vehicles 1 (some .int) 3 M [rv m] 0 0 (Op M m t (oVehicles S)) (noX) := by
  obtain ⟨a0, nP, nR, nS, a1, bR, bS, bt⟩ := id hM
  have bPs := a1.bPs; have bK := a1.bK; have bV := a1.bV; have bPl := a1.bP; have bN := a1.bN
  refine Ct_intro (own := RX5) (nm := "vehicles") (by decide +kernel) rfl rfl hst (fun w hw => by simp only [List.mem_cons, List.not_mem_nil, or_false] at hw; rcases hw with rfl <;> first | rfl | exact rv_cat _) (Nat.le_of_ble_eq_true rfl) (fun γ hC => ?_)
  show J G γ M 0 [some (rv m)] [] 0 0
  refine J_aload_n hC dX5_vehicles_0 rfl rfl ?_
  refine J_iconst hC dX5_vehicles_1 (v := 0) (by decide) ?_
  refine J_put6_0 hC lf_X5_80 a0.t dX5_vehicles_2 ?_
  refine J_aload_n hC dX5_vehicles_5 rfl rfl ?_
  refine J_get6 hC lf_X5_91 (j := 2) a0.t (v := .int (nI (sN S 1))) (congrArg (fun z => some (Value.int z)) ((up2_k _ _ _ (by decide) : mI (pI M m 0 0) m 2 = mI M m 2).trans a1.s2)) dX5_vehicles_6 ?_
  refine J_iret hC (by decide) (by decide) dX5_vehicles_9 ?_
  refine op_ok hM hlt ?_
  simp [oVehicles, bz]
