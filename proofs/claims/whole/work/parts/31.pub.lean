theorem passN_T {A B : St} (h : sT A = sT B) : ∀ n, passN A n = passN B n
  | 0 => rfl
  | n + 1 => by unfold passN; rw [passN_T h n, h]
theorem Inv.same {A B : St} {t : Nat} (h : Inv B t) (hN : sN A = sN B) (hD : sD A = sD B) (hV : sV A = sV B) (hL : sL A = sL B) (hT : sT A = sT B) (hQ : sQ A = sQ B) (hO : sO A = sO B) : Inv A t := by
  unfold Inv at *
  rw [hN, hD, hV, hL, hT, hQ, hO, passN_T hT]
  exact h
theorem op_mu {M M9 : Mm} {m : Nat} {S S1 : St} {t r s : Nat} {R : Res} {v : Value} (hM : MAt M m S t) (hR : R = (0, v, S1)) (h : Mu (pI M m 0 0) m S1 r s M9) (hr : r ≤ t + 1) (hs : s ≤ 2 * (t + 1)) (ht : t < 512) : Op M m t R (some v) M9 := by
  subst hR
  exact ⟨rfl, h.1.t hr hs (by omega), (Fr.pI hM.1.fm).trans h.2.1, h.2.2.trans (up2_same _ _ _ _)⟩
theorem Inv.r {S : St} {t v r : Nat} (h : Inv S t) (hv : v < sN S 1) (hr : r < 3) : (∀ e ∈ sT S r v, e.1 ≤ sD S) ∧ (sT S r v).Pairwise (fun a b => a.1 ≤ b.1) := ⟨fun e he => ((h.ts v hv r hr).1 e he).2, (h.ts v hv r hr).2⟩
theorem up2_k' {α : Type} {f : Nat → Nat → α} {a k b j : Nat} (v : α) (h : j ≠ k) : up2 f a k v b j = f b j := by unfold up2; simp [h]
theorem MA1v.wd {sc : Nat → Int32} {c9 : Int64} {ar : Nat → Nat → Int32} {S : St} {nP nR nS : Nat} {n : Nat} (h : MA1v sc c9 ar S nP nR nS) (h5 : sO S n 5 = 111) : MA1v (va_up sc 0 0) c9 (up2 ar 22 n 119) (uO S n 5 119) nP nR nS := by
  have v1 : (va_up sc 0 0) 1 = sc 1 := rfl
  have v2 : (va_up sc 0 0) 2 = sc 2 := rfl
  have v3 : (va_up sc 0 0) 3 = sc 3 := rfl
  have v4 : (va_up sc 0 0) 4 = sc 4 := rfl
  have v5 : (va_up sc 0 0) 5 = sc 5 := rfl
  have v6 : (va_up sc 0 0) 6 = sc 6 := rfl
  have v7 : (va_up sc 0 0) 7 = sc 7 := rfl
  have v8 : (va_up sc 0 0) 8 = sc 8 := rfl
  have e10 : (up2 ar 22 n 119) 10 = ar 10 := rfl
  have e11 : (up2 ar 22 n 119) 11 = ar 11 := rfl
  have e12 : (up2 ar 22 n 119) 12 = ar 12 := rfl
  have e13 : (up2 ar 22 n 119) 13 = ar 13 := rfl
  have e14 : (up2 ar 22 n 119) 14 = ar 14 := rfl
  have e15 : (up2 ar 22 n 119) 15 = ar 15 := rfl
  have e16 : (up2 ar 22 n 119) 16 = ar 16 := rfl
  have e17 : (up2 ar 22 n 119) 17 = ar 17 := rfl
  have e18 : (up2 ar 22 n 119) 18 = ar 18 := rfl
  have e19 : (up2 ar 22 n 119) 19 = ar 19 := rfl
  have e20 : (up2 ar 22 n 119) 20 = ar 20 := rfl
  have e21 : (up2 ar 22 n 119) 21 = ar 21 := rfl
  have e22 : (up2 ar 22 n 119) 22 = va_up (ar 22) n 119 := by rw [up2_va]
  have e23 : (up2 ar 22 n 119) 23 = ar 23 := rfl
  have e24 : (up2 ar 22 n 119) 24 = ar 24 := rfl
  have e25 : (up2 ar 22 n 119) 25 = ar 25 := rfl
  have e26 : (up2 ar 22 n 119) 26 = ar 26 := rfl
  have e27 : (up2 ar 22 n 119) 27 = ar 27 := rfl
  have e28 : (up2 ar 22 n 119) 28 = ar 28 := rfl
  have e29 : (up2 ar 22 n 119) 29 = ar 29 := rfl
  have e30 : (up2 ar 22 n 119) 30 = ar 30 := rfl
  have e31 : (up2 ar 22 n 119) 31 = ar 31 := rfl
  have e32 : (up2 ar 22 n 119) 32 = ar 32 := rfl
  have hsN : sN (uO S n 5 119) = sN S := (by simp only [sN_uO])
  have hsD : sD (uO S n 5 119) = sD S := (by simp only [sD_uO])
  have hsC : sC (uO S n 5 119) = sC S := (by simp only [sC_uO])
  have hsP : sP (uO S n 5 119) = sP S := (by simp only [sP_uO])
  have hsV : sV (uO S n 5 119) = sV S := (by simp only [sV_uO])
  have hsL : sL (uO S n 5 119) = sL S := (by simp only [sL_uO])
  have hsT : sT (uO S n 5 119) = sT S := (by simp only [sT_uO])
  have hsQ : sQ (uO S n 5 119) = sQ S := (by simp only [sQ_uO])
  have hsO : sO (uO S n 5 119) = up2 (sO S) n 5 119 := (by simp only [sO_uO])
  generalize va_up sc 0 0 = C at *
  generalize up2 ar 22 n 119 = A at *
  generalize uO S n 5 119 = S9 at *
  unfold MA1v
  rw [v1, v2, v3, v4, v5, v6, v7, v8, e10, e11, e12, e13, e14, e15, e16, e17, e18, e19, e20, e21, e22, e23, e24, e25, e26, e27, e28, e29, e30, e31, e32, hsN, hsD, hsC, hsP, hsV, hsL, hsT, hsQ, hsO]
  exact ⟨h.s1, h.s2, h.s3, h.s4, h.s5, h.s6, h.s7, h.s8, h.s9, h.paid, h.kind, h.scr, h.adm, h.lien, h.lien0, h.scr0, h.q0, h.q1, h.q2, h.r0, h.r1, h.r2, h.rb, (fun i hi => by rw [up2_k' (j := 1) _ (by decide)]; exact h.n1 i hi), (fun i hi => by rw [up2_k' (j := 2) _ (by decide)]; exact h.n2 i hi), (fun i hi => by rw [up2_k' (j := 3) _ (by decide)]; exact h.n3 i hi), (fun i hi => by rw [up2_k' (j := 4) _ (by decide)]; exact h.n4 i hi), (by
    intro i hi
    by_cases e : i = n
    · subst e; rw [va_up_self, up2_same]
    · rw [va_up_ne _ _ e, up2_b _ _ _ _ e]; exact h.n5 i hi), (by
    intro i hi
    rw [up2_k' (j := 6) _ (by decide)]
    by_cases e : i = n
    · subst e; rw [up2_same]; intro q; exact absurd q (by decide)
    · rw [up2_b _ _ _ _ e]; exact h.n6 i hi), h.p0, h.p1, h.p2, h.sc, h.ad, (by
    rw [cnt_congr (f := fun i => decide (sO S i 5 = 117)) (fun j hj => ?_)]
    · exact h.cu
    · by_cases e : j = n
      · subst e; simp only [up2_same, h5]; decide
      · simp only [up2_b _ _ _ _ e]), h.bK, h.bV, h.bP, h.bN, h.bD⟩
theorem MA1v.ln {sc : Nat → Int32} {c9 : Int64} {ar : Nat → Nat → Int32} {S : St} {nP nR nS : Nat} {v k : Nat} {x : Int32} (h : MA1v sc c9 ar S nP nR nS) (hv : v < sN S 1) (hk : k < 6) : MA1v (va_up sc 0 0) c9 (up2 ar 12 (6 * v + k) x) (uL S v k x) nP nR nS := by
  have v1 : (va_up sc 0 0) 1 = sc 1 := rfl
  have v2 : (va_up sc 0 0) 2 = sc 2 := rfl
  have v3 : (va_up sc 0 0) 3 = sc 3 := rfl
  have v4 : (va_up sc 0 0) 4 = sc 4 := rfl
  have v5 : (va_up sc 0 0) 5 = sc 5 := rfl
  have v6 : (va_up sc 0 0) 6 = sc 6 := rfl
  have v7 : (va_up sc 0 0) 7 = sc 7 := rfl
  have v8 : (va_up sc 0 0) 8 = sc 8 := rfl
  have e10 : (up2 ar 12 (6 * v + k) x) 10 = ar 10 := rfl
  have e11 : (up2 ar 12 (6 * v + k) x) 11 = ar 11 := rfl
  have e12 : (up2 ar 12 (6 * v + k) x) 12 = va_up (ar 12) (6 * v + k) x := by rw [up2_va]
  have e13 : (up2 ar 12 (6 * v + k) x) 13 = ar 13 := rfl
  have e14 : (up2 ar 12 (6 * v + k) x) 14 = ar 14 := rfl
  have e15 : (up2 ar 12 (6 * v + k) x) 15 = ar 15 := rfl
  have e16 : (up2 ar 12 (6 * v + k) x) 16 = ar 16 := rfl
  have e17 : (up2 ar 12 (6 * v + k) x) 17 = ar 17 := rfl
  have e18 : (up2 ar 12 (6 * v + k) x) 18 = ar 18 := rfl
  have e19 : (up2 ar 12 (6 * v + k) x) 19 = ar 19 := rfl
  have e20 : (up2 ar 12 (6 * v + k) x) 20 = ar 20 := rfl
  have e21 : (up2 ar 12 (6 * v + k) x) 21 = ar 21 := rfl
  have e22 : (up2 ar 12 (6 * v + k) x) 22 = ar 22 := rfl
  have e23 : (up2 ar 12 (6 * v + k) x) 23 = ar 23 := rfl
  have e24 : (up2 ar 12 (6 * v + k) x) 24 = ar 24 := rfl
  have e25 : (up2 ar 12 (6 * v + k) x) 25 = ar 25 := rfl
  have e26 : (up2 ar 12 (6 * v + k) x) 26 = ar 26 := rfl
  have e27 : (up2 ar 12 (6 * v + k) x) 27 = ar 27 := rfl
  have e28 : (up2 ar 12 (6 * v + k) x) 28 = ar 28 := rfl
  have e29 : (up2 ar 12 (6 * v + k) x) 29 = ar 29 := rfl
  have e30 : (up2 ar 12 (6 * v + k) x) 30 = ar 30 := rfl
  have e31 : (up2 ar 12 (6 * v + k) x) 31 = ar 31 := rfl
  have e32 : (up2 ar 12 (6 * v + k) x) 32 = ar 32 := rfl
  have hsN : sN (uL S v k x) = sN S := (by simp only [sN_uL])
  have hsD : sD (uL S v k x) = sD S := (by simp only [sD_uL])
  have hsC : sC (uL S v k x) = sC S := (by simp only [sC_uL])
  have hsP : sP (uL S v k x) = sP S := (by simp only [sP_uL])
  have hsV : sV (uL S v k x) = sV S := (by simp only [sV_uL])
  have hsL : sL (uL S v k x) = up2 (sL S) v k x := (by simp only [sL_uL])
  have hsT : sT (uL S v k x) = sT S := (by simp only [sT_uL])
  have hsQ : sQ (uL S v k x) = sQ S := (by simp only [sQ_uL])
  have hsO : sO (uL S v k x) = sO S := (by simp only [sO_uL])
  generalize va_up sc 0 0 = C at *
  generalize up2 ar 12 (6 * v + k) x = A at *
  generalize uL S v k x = S9 at *
  unfold MA1v
  rw [v1, v2, v3, v4, v5, v6, v7, v8, e10, e11, e12, e13, e14, e15, e16, e17, e18, e19, e20, e21, e22, e23, e24, e25, e26, e27, e28, e29, e30, e31, e32, hsN, hsD, hsC, hsP, hsV, hsL, hsT, hsQ, hsO]
  exact ⟨h.s1, h.s2, h.s3, h.s4, h.s5, h.s6, h.s7, h.s8, h.s9, h.paid, h.kind, h.scr, h.adm, (by
    intro u hu j hj
    by_cases e : 6 * u + j = 6 * v + k
    · have e1 : u = v := by omega
      have e2 : j = k := by omega
      subst e1; subst e2; rw [va_up_self, up2_same]
    · rw [va_up_ne _ _ e, h.lien u hu j hj]
      unfold up2
      by_cases e1 : u = v
      · rw [if_pos e1, if_neg (by omega)]
      · rw [if_neg e1]), (fun i hi hi2 => by rw [va_up_ne _ _ (by omega)]; exact h.lien0 i hi hi2), h.scr0, h.q0, h.q1, h.q2, h.r0, h.r1, h.r2, h.rb, h.n1, h.n2, h.n3, h.n4, h.n5, h.n6, h.p0, h.p1, h.p2, h.sc, h.ad, h.cu, h.bK, h.bV, h.bP, h.bN, h.bD⟩
theorem MA1v.py {sc : Nat → Int32} {c9 : Int64} {ar : Nat → Nat → Int32} {S : St} {nP nR nS : Nat} {k : Nat} {x : Int32} {y : Int64} (h : MA1v sc c9 ar S nP nR nS)  : MA1v (va_up sc 0 0) y (up2 ar 10 k x) (uC (uP S k x) y) nP nR nS := by
  have v1 : (va_up sc 0 0) 1 = sc 1 := rfl
  have v2 : (va_up sc 0 0) 2 = sc 2 := rfl
  have v3 : (va_up sc 0 0) 3 = sc 3 := rfl
  have v4 : (va_up sc 0 0) 4 = sc 4 := rfl
  have v5 : (va_up sc 0 0) 5 = sc 5 := rfl
  have v6 : (va_up sc 0 0) 6 = sc 6 := rfl
  have v7 : (va_up sc 0 0) 7 = sc 7 := rfl
  have v8 : (va_up sc 0 0) 8 = sc 8 := rfl
  have e10 : (up2 ar 10 k x) 10 = va_up (ar 10) k x := by rw [up2_va]
  have e11 : (up2 ar 10 k x) 11 = ar 11 := rfl
  have e12 : (up2 ar 10 k x) 12 = ar 12 := rfl
  have e13 : (up2 ar 10 k x) 13 = ar 13 := rfl
  have e14 : (up2 ar 10 k x) 14 = ar 14 := rfl
  have e15 : (up2 ar 10 k x) 15 = ar 15 := rfl
  have e16 : (up2 ar 10 k x) 16 = ar 16 := rfl
  have e17 : (up2 ar 10 k x) 17 = ar 17 := rfl
  have e18 : (up2 ar 10 k x) 18 = ar 18 := rfl
  have e19 : (up2 ar 10 k x) 19 = ar 19 := rfl
  have e20 : (up2 ar 10 k x) 20 = ar 20 := rfl
  have e21 : (up2 ar 10 k x) 21 = ar 21 := rfl
  have e22 : (up2 ar 10 k x) 22 = ar 22 := rfl
  have e23 : (up2 ar 10 k x) 23 = ar 23 := rfl
  have e24 : (up2 ar 10 k x) 24 = ar 24 := rfl
  have e25 : (up2 ar 10 k x) 25 = ar 25 := rfl
  have e26 : (up2 ar 10 k x) 26 = ar 26 := rfl
  have e27 : (up2 ar 10 k x) 27 = ar 27 := rfl
  have e28 : (up2 ar 10 k x) 28 = ar 28 := rfl
  have e29 : (up2 ar 10 k x) 29 = ar 29 := rfl
  have e30 : (up2 ar 10 k x) 30 = ar 30 := rfl
  have e31 : (up2 ar 10 k x) 31 = ar 31 := rfl
  have e32 : (up2 ar 10 k x) 32 = ar 32 := rfl
  have hsN : sN (uC (uP S k x) y) = sN S := (by simp only [sN_uC, sN_uP])
  have hsD : sD (uC (uP S k x) y) = sD S := (by simp only [sD_uC, sD_uP])
  have hsC : sC (uC (uP S k x) y) = y := (by simp only [sC_uC, sC_uP])
  have hsP : sP (uC (uP S k x) y) = va_up (sP S) k x := (by simp only [sP_uC, sP_uP])
  have hsV : sV (uC (uP S k x) y) = sV S := (by simp only [sV_uC, sV_uP])
  have hsL : sL (uC (uP S k x) y) = sL S := (by simp only [sL_uC, sL_uP])
  have hsT : sT (uC (uP S k x) y) = sT S := (by simp only [sT_uC, sT_uP])
  have hsQ : sQ (uC (uP S k x) y) = sQ S := (by simp only [sQ_uC, sQ_uP])
  have hsO : sO (uC (uP S k x) y) = sO S := (by simp only [sO_uC, sO_uP])
  generalize va_up sc 0 0 = C at *
  generalize up2 ar 10 k x = A at *
  generalize uC (uP S k x) y = S9 at *
  unfold MA1v
  rw [v1, v2, v3, v4, v5, v6, v7, v8, e10, e11, e12, e13, e14, e15, e16, e17, e18, e19, e20, e21, e22, e23, e24, e25, e26, e27, e28, e29, e30, e31, e32, hsN, hsD, hsC, hsP, hsV, hsL, hsT, hsQ, hsO]
  exact ⟨h.s1, h.s2, h.s3, h.s4, h.s5, h.s6, h.s7, h.s8, rfl, (by
    intro i hi
    by_cases e : i = k
    · subst e; rw [va_up_self, va_up_self]
    · rw [va_up_ne _ _ e, va_up_ne _ _ e]; exact h.paid i hi), h.kind, h.scr, h.adm, h.lien, h.lien0, h.scr0, h.q0, h.q1, h.q2, h.r0, h.r1, h.r2, h.rb, h.n1, h.n2, h.n3, h.n4, h.n5, h.n6, h.p0, h.p1, h.p2, h.sc, h.ad, h.cu, h.bK, h.bV, h.bP, h.bN, h.bD⟩
theorem ct_X5_withdraw {G : Gt} {l : Launch} (hst : l.stackTraces = false) {M : Mm} {m : Nat} {S : St} {t : Nat} (hM : MAt M m S t) (hI : Inv S t) (hlt : t < 512) (v : Int32) : Ct G l yX5_withdraw cX5_withdraw 2 (some .int) 4 M [rv m, .int v] 0 0 (Op M m t (oWithdraw S v)) (noX) := by
  obtain ⟨a0, nP, nR, nS, a1, bR, bS, bt⟩ := id hM
  have bPs := a1.bPs; have bK := a1.bK; have bV := a1.bV; have bPl := a1.bP; have bN := a1.bN
  refine Ct_intro (own := RX5) (nm := "withdraw") (by decide +kernel) rfl rfl hst (fun w hw => by simp only [List.mem_cons, List.not_mem_nil, or_false] at hw; rcases hw with rfl | rfl <;> first | rfl | exact rv_cat _) (Nat.le_of_ble_eq_true rfl) (fun γ hC => ?_)
  show J G γ M 0 [some (rv m), some (.int v)] [] 0 0
  refine J_aload_n hC dX5_withdraw_0 rfl rfl ?_
  refine J_iload_n hC dX5_withdraw_1 rfl rfl ?_
  refine J_callV (k1 := 0) (n1 := 0) (kd := 6) [.int v] [.int v, rv m] hC lv_X5_183 (ct_X5_isNotice hst hM v) a0.t (by decide) ⟨_, mE_6 a0.t⟩ rfl rfl rfl (by simp only [List.map_cons, List.map_nil, rv_cat, Value.category, List.sum_cons, List.sum_nil]; decide) (by decide) rfl rfl (by decide) (by decide) dX5_withdraw_2 (fun E M9 h => h.elim) (fun v9 M9 hq9 => ?_)
  rcases hq9 with ⟨hv, rfl, rfl⟩ | ⟨nv, rfl, rfl⟩
  · have xv := (isIx_ix hv).2
    refine J_if_ne hC dX5_withdraw_5 (tgt := 10) (by decide) (fun c5 => ?_) (fun c5 => ?_)
    · refine J_aload_n hC dX5_withdraw_10 rfl rfl ?_
      refine J_get6 hC lf_X5_47 (j := 22) a0.t (v := rv (mR M m 22)) rfl dX5_withdraw_11 ?_
      refine J_iload_n hC dX5_withdraw_14 rfl rfl ?_
      refine J_iald hC a0.a22 (j := (ix v)) (isIx_ix hv).1 (Nat.lt_of_lt_of_eq (by omega) a0.l22.symm) dX5_withdraw_15 ?_
      rw [show mI (pI M m 0 0) (mR M m 22) (ix v) = sO S (ix v) 5 from ((up2_b _ _ _ _ (a0.ne (by decide) (by decide)).symm : mI (pI M m 0 0) (mR M m 22) (ix v) = mI M (mR M m 22) (ix v)).trans (a1.n5 _ xv))]
      refine J_bipush hC dX5_withdraw_16 (v := 111) (by decide) ?_
      refine J_icmp_eq hC dX5_withdraw_18 (tgt := 27) (by decide) (fun c18 => ?_) (fun c18 => ?_)
      · have q18 : sO S (ix v) 5 = 111 := c18
        refine J_aload_n hC dX5_withdraw_27 rfl rfl ?_
        refine J_get6 hC lf_X5_47 (j := 22) a0.t (v := rv (mR M m 22)) rfl dX5_withdraw_28 ?_
        refine J_iload_n hC dX5_withdraw_31 rfl rfl ?_
        refine J_bipush hC dX5_withdraw_32 (v := 119) (by decide) ?_
        refine J_iast hC a0.a22 (j := (ix v)) (isIx_ix hv).1 (Nat.lt_of_lt_of_eq (by omega) a0.l22.symm) dX5_withdraw_34 ?_
        obtain ⟨M2, eM2⟩ : ∃ z, z = (pI (pI M m 0 0) (mR M m 22) (ix v) 119) := ⟨_, rfl⟩
        rw [← eM2]
        have hM2 : MAt M2 m (uO S (ix v) 5 119) t := by rw [eM2]; exact ⟨a0, _, _, _, MA1.of_v (Vw.arr (M := (pI M m 0 0)) a0 (Vw.sc (M := M) a0 (Vw.rf M m) 0 0) 22 (by decide) (by decide) (ix v) 119) (MA1v.wd a1.v q18), bR, bS, bt⟩
        have b0 := hM2.1
        refine J_aload_n hC dX5_withdraw_35 rfl rfl ?_
        refine J_iconst hC dX5_withdraw_36 (v := -1) (by decide) ?_
        refine J_callV (k1 := 0) (n1 := 0) (kd := 6) [.int (-1)] [.int (-1), rv m] hC lv_X5_186 (ct_X5_open hst hM2 (-1)) b0.t (by decide) ⟨_, mE_6 b0.t⟩ rfl rfl rfl (by simp only [List.map_cons, List.map_nil, rv_cat, Value.category, List.sum_cons, List.sum_nil]; decide) (by decide) rfl rfl (by decide) (by decide) dX5_withdraw_37 (fun E M9 h => h.elim) (fun v9 M9 hq9 => ?_)
        obtain ⟨rfl, e9⟩ := hq9
        rw [e9]; clear e9
        refine J_iret hC (by decide) (by decide) dX5_withdraw_40 ?_
        refine op_at (S1 := uO S (ix v) 5 119) ?_ (hM2.up hlt) (by rw [eM2]; exact (Fr.trans (Fr.trans (Fr.rf pM M) (Fr.pI (a0.fm))) (Fr.pI (a0.fa (by decide) (by decide))))) (by rw [eM2]; exact ((up2_b _ _ _ _ (a0.ne (by decide) (by decide))).trans (up2_same _ _ _ _)))
        unfold oWithdraw
        rw [if_neg (by rw [hv]; simp), if_neg (by simp [q18]), cnt_congr (f := fun i => decide (sO (uO S (ix v) 5 119) i 5 = 111) && (decide ((-1 : Int32) = -1) || decide (sO (uO S (ix v) 5 119) i 2 = -1))) (fun j hj => by simp), sN_uO]
      · have q18 : ¬ sO S (ix v) 5 = 111 := c18
        refine J_aload_n hC dX5_withdraw_21 rfl rfl ?_
        refine J_iconst hC dX5_withdraw_22 (v := 2) (by decide) ?_
        refine J_callV (k1 := 0) (n1 := 0) (kd := 6) [.int 2] [.int 2, rv m] hC lv_X5_116 (ct_X5_fails hst (M := (pI M m 0 0)) a0 2) a0.t (by decide) ⟨_, mE_6 a0.t⟩ rfl rfl rfl (by simp only [List.map_cons, List.map_nil, rv_cat, Value.category, List.sum_cons, List.sum_nil]; decide) (by decide) rfl rfl (by decide) (by decide) dX5_withdraw_23 (fun E M9 h => h.elim) (fun v9 M9 hq9 => ?_)
        obtain ⟨rfl, rfl⟩ := hq9
        refine J_iret hC (by decide) (by decide) dX5_withdraw_26 ?_
        rw [pI_pI]
        refine op_no hM hlt (k := 2) ?_ rfl
        simp [oWithdraw, hv, q18]
    · exact absurd c5 (by decide)
  · refine J_if_ne hC dX5_withdraw_5 (tgt := 10) (by decide) (fun c5 => ?_) (fun c5 => ?_)
    · exact absurd c5 (by decide)
    · refine J_iconst hC dX5_withdraw_8 (v := 0) (by decide) ?_
      refine J_iret hC (by decide) (by decide) dX5_withdraw_9 ?_
      refine op_no hM hlt (k := 1) ?_ rfl
      simp [oWithdraw, nv]
theorem rng_no {a b x : Int32} (h : decide (a ≤ x ∧ x ≤ b) = false) : x < a ∨ b < x := by
  have h1 := of_decide_eq_false h
  by_cases g : a ≤ x
  · exact Or.inr (i_nle' (fun q => h1 ⟨g, q⟩))
  · exact Or.inl (i_nle' g)
theorem rng_yes {p : Bool} {a b x : Int32} (h0 : p = true) (h : decide (a ≤ x ∧ x ≤ b) = true) : ¬ (p = false ∨ x < a ∨ b < x) := by
  have h1 := of_decide_eq_true h
  rintro (q | q | q)
  · rw [h0] at q; cases q
  · exact i_nle q h1.1
  · exact i_nle q h1.2
theorem rng_yes2 {a b x : Int32} (h : decide (a ≤ x ∧ x ≤ b) = true) : ¬ (x < a ∨ b < x) := by
  have h1 := of_decide_eq_true h
  rintro (q | q)
  · exact i_nle q h1.1
  · exact i_nle q h1.2
theorem ct_X5_addLien {G : Gt} {l : Launch} (hst : l.stackTraces = false) {M : Mm} {m : Nat} {S : St} {t : Nat} (hM : MAt M m S t) (hI : Inv S t) (hlt : t < 512) (v c a : Int32) : Ct G l yX5_addLien cX5_addLien 4 (some .int) 4 M [rv m, .int v, .int c, .int a] 0 0 (Op M m t (oAddLien S v c a)) (noX) := by
  obtain ⟨a0, nP, nR, nS, a1, bR, bS, bt⟩ := id hM
  have bPs := a1.bPs; have bK := a1.bK; have bV := a1.bV; have bPl := a1.bP; have bN := a1.bN
  refine Ct_intro (own := RX5) (nm := "addLien") (by decide +kernel) rfl rfl hst (fun w hw => by simp only [List.mem_cons, List.not_mem_nil, or_false] at hw; rcases hw with rfl | rfl | rfl | rfl <;> first | rfl | exact rv_cat _) (Nat.le_of_ble_eq_true rfl) (fun γ hC => ?_)
  show J G γ M 0 [some (rv m), some (.int v), some (.int c), some (.int a)] [] 0 0
  refine J_aload_n hC dX5_addLien_0 rfl rfl ?_
  refine J_iload_n hC dX5_addLien_1 rfl rfl ?_
  refine J_callV (k1 := 0) (n1 := 0) (kd := 6) [.int v] [.int v, rv m] hC lv_X5_147 (ct_X5_isVehicle hst hM v) a0.t (by decide) ⟨_, mE_6 a0.t⟩ rfl rfl rfl (by simp only [List.map_cons, List.map_nil, rv_cat, Value.category, List.sum_cons, List.sum_nil]; decide) (by decide) rfl rfl (by decide) (by decide) dX5_addLien_2 (fun E M9 h => h.elim) (fun v9 M9 hq9 => ?_)
  obtain ⟨rfl, e9⟩ := hq9
  rw [e9]; clear e9
  refine J_if_ne hC dX5_addLien_5 (tgt := 14) (by decide) (fun c5 => ?_) (fun c5 => ?_)
  · have hv : (isIx v (sN S 1)) = true := bz_ne0 c5
    have xv := (isIx_ix hv).2
    refine J_iload_n hC dX5_addLien_14 rfl rfl ?_
    refine J_bipush hC dX5_addLien_15 (v := 97) (by decide) ?_
    refine J_bipush hC dX5_addLien_17 (v := 102) (by decide) ?_
    refine J_callS (k1 := 0) (n1 := 0) [.int c, .int 97, .int 102] [.int 102, .int 97, .int c] hC ls_X5_87 (ct_X5_in hst c 97 102) rfl rfl (by simp only [List.map_cons, List.map_nil, rv_cat, Value.category, List.sum_cons, List.sum_nil]; decide) (by decide) rfl rfl (by decide) (by decide) dX5_addLien_19 (fun E M9 h => h.elim) (fun v9 M9 hq9 => ?_)
    obtain ⟨rfl, e9⟩ := hq9
    rw [e9]; clear e9
    rw [show (if 97 ≤ c ∧ c ≤ 102 then (1 : Int32) else 0) = bz (lendOk c) from by simp [bz, lendOk]]
    refine J_if_eq hC dX5_addLien_22 (tgt := 36) (by decide) (fun c22 => ?_) (fun c22 => ?_)
    · have b22 : (lendOk c) = false := bz_eq0 c22
      refine J_aload_n hC dX5_addLien_36 rfl rfl ?_
      refine J_iconst hC dX5_addLien_37 (v := 2) (by decide) ?_
      refine J_callV (k1 := 0) (n1 := 0) (kd := 6) [.int 2] [.int 2, rv m] hC lv_X5_116 (ct_X5_fails hst (M := M) a0 2) a0.t (by decide) ⟨_, mE_6 a0.t⟩ rfl rfl rfl (by simp only [List.map_cons, List.map_nil, rv_cat, Value.category, List.sum_cons, List.sum_nil]; decide) (by decide) rfl rfl (by decide) (by decide) dX5_addLien_38 (fun E M9 h => h.elim) (fun v9 M9 hq9 => ?_)
      obtain ⟨rfl, rfl⟩ := hq9
      refine J_iret hC (by decide) (by decide) dX5_addLien_41 ?_
      refine op_no hM hlt (k := 2) ?_ rfl
      unfold oAddLien
      rw [if_neg (by rw [hv]; simp), if_pos (by first | exact Or.inl b22 | exact Or.inr (rng_no b33))]
    · have b22 : (lendOk c) = true := bz_ne0 c22
      refine J_iload_n hC dX5_addLien_25 rfl rfl ?_
      refine J_iconst hC dX5_addLien_26 (v := 1) (by decide) ?_
      refine J_sipush hC dX5_addLien_27 (v := 9999) (by decide) ?_
      refine J_callS (k1 := 0) (n1 := 0) [.int a, .int 1, .int 9999] [.int 9999, .int 1, .int a] hC ls_X5_87 (ct_X5_in hst a 1 9999) rfl rfl (by simp only [List.map_cons, List.map_nil, rv_cat, Value.category, List.sum_cons, List.sum_nil]; decide) (by decide) rfl rfl (by decide) (by decide) dX5_addLien_30 (fun E M9 h => h.elim) (fun v9 M9 hq9 => ?_)
      obtain ⟨rfl, e9⟩ := hq9
      rw [e9]; clear e9
      rw [in_bz]
      refine J_if_ne hC dX5_addLien_33 (tgt := 42) (by decide) (fun c33 => ?_) (fun c33 => ?_)
      · have b33 : (decide (1 ≤ a ∧ a ≤ 9999)) = true := bz_ne0 c33
        obtain ⟨hpi, hpe⟩ := place_ix hv bV b22
        have hl6 := (lend_ix b22).2
        refine J_aload_n hC dX5_addLien_42 rfl rfl ?_
        refine J_get6 hC lf_X5_19 (j := 13) a0.t (v := rv (mR M m 13)) rfl dX5_addLien_43 ?_
        refine J_iload_n hC dX5_addLien_46 rfl rfl ?_
        refine J_zald hC a0.a13 (j := (ix v)) (isIx_ix hv).1 (by rw [a0.l13]; omega) dX5_addLien_47 ?_
        rw [show mI M (mR M m 13) (ix v) = sV S (ix v) 7 from (a1.scr _ xv)]
        refine J_if_eq hC dX5_addLien_48 (tgt := 57) (by decide) (fun c48 => ?_) (fun c48 => ?_)
        · have s48 : ¬ sV S (ix v) 7 = 1 := fun e => by rw [c48] at e; exact absurd e (by decide)
          refine J_aload_n hC dX5_addLien_57 rfl rfl ?_
          refine J_iconst hC dX5_addLien_58 (v := 0) (by decide) ?_
          refine J_put6_0 hC lf_X5_80 a0.t dX5_addLien_59 ?_
          refine J_aload_n hC dX5_addLien_62 rfl rfl ?_
          refine J_get6 hC lf_X5_16 (j := 12) a0.t (v := rv (mR M m 12)) rfl dX5_addLien_63 ?_
          refine J_bipush hC dX5_addLien_66 (v := 6) (by decide) ?_
          refine J_iload_n hC dX5_addLien_68 rfl rfl ?_
          refine J_imul hC dX5_addLien_69 ?_
          refine J_iload_n hC dX5_addLien_70 rfl rfl ?_
          refine J_iadd hC dX5_addLien_71 ?_
          refine J_bipush hC dX5_addLien_72 (v := 97) (by decide) ?_
          refine J_isub hC dX5_addLien_74 ?_
          refine J_dup2 hC dX5_addLien_75 rfl (rv_cat _) ?_
          refine J_iald hC a0.a12 (j := (6 * ix v + ix (c - 97))) hpi (Nat.lt_of_lt_of_eq (by omega) a0.l12.symm) dX5_addLien_76 ?_
          rw [show mI (pI M m 0 0) (mR M m 12) (6 * ix v + ix (c - 97)) = sL S (ix v) (ix (c - 97)) from ((up2_b _ _ _ _ (a0.ne (by decide) (by decide)).symm : mI (pI M m 0 0) (mR M m 12) (6 * ix v + ix (c - 97)) = mI M (mR M m 12) (6 * ix v + ix (c - 97))).trans (a1.lien _ xv _ hl6))]
          refine J_iload_n hC dX5_addLien_77 rfl rfl ?_
          refine J_iadd hC dX5_addLien_78 ?_
          refine J_iast hC a0.a12 (j := (6 * ix v + ix (c - 97))) hpi (Nat.lt_of_lt_of_eq (by omega) a0.l12.symm) dX5_addLien_79 ?_
          refine J_aload_n hC dX5_addLien_80 rfl rfl ?_
          refine J_get6 hC lf_X5_16 (j := 12) a0.t (v := rv (mR M m 12)) rfl dX5_addLien_81 ?_
          refine J_bipush hC dX5_addLien_84 (v := 6) (by decide) ?_
          refine J_iload_n hC dX5_addLien_86 rfl rfl ?_
          refine J_imul hC dX5_addLien_87 ?_
          refine J_iload_n hC dX5_addLien_88 rfl rfl ?_
          refine J_iadd hC dX5_addLien_89 ?_
          refine J_bipush hC dX5_addLien_90 (v := 97) (by decide) ?_
          refine J_isub hC dX5_addLien_92 ?_
          refine J_iald hC a0.a12 (j := (6 * ix v + ix (c - 97))) hpi (Nat.lt_of_lt_of_eq (by omega) a0.l12.symm) dX5_addLien_93 ?_
          rw [show mI (pI (pI M m 0 0) (mR M m 12) (6 * ix v + ix (c - 97)) ((sL S (ix v) (ix (c - 97))) + a)) (mR M m 12) (6 * ix v + ix (c - 97)) = ((sL S (ix v) (ix (c - 97))) + a) from (up2_same _ _ _ _ : mI (pI (pI M m 0 0) (mR M m 12) (6 * ix v + ix (c - 97)) ((sL S (ix v) (ix (c - 97))) + a)) (mR M m 12) (6 * ix v + ix (c - 97)) = ((sL S (ix v) (ix (c - 97))) + a))]
          refine J_iret hC (by decide) (by decide) dX5_addLien_94 ?_
          refine op_at (S1 := uL S (ix v) (ix (c - 97)) (sL S (ix v) (ix (c - 97)) + a)) ?_ ⟨a0, _, _, _, MA1.of_v (Vw.arr (M := (pI M m 0 0)) a0 (Vw.sc (M := M) a0 (Vw.rf M m) 0 0) 12 (by decide) (by decide) (6 * ix v + ix (c - 97)) (sL S (ix v) (ix (c - 97)) + a)) (MA1v.ln a1.v xv hl6), by omega, by omega, by omega⟩ (Fr.trans (Fr.trans (Fr.rf pM M) (Fr.pI (a0.fm))) (Fr.pI (a0.fa (by decide) (by decide)))) ((up2_b _ _ _ _ (a0.ne (by decide) (by decide))).trans (up2_same _ _ _ _))
          unfold oAddLien
          rw [if_neg (by rw [hv]; simp), if_neg (rng_yes b22 b33), if_neg s48]
        · have s48 : sV S (ix v) 7 = 1 := (a1.sc _ xv).resolve_left c48
          refine J_aload_n hC dX5_addLien_51 rfl rfl ?_
          refine J_iconst hC dX5_addLien_52 (v := 3) (by decide) ?_
          refine J_callV (k1 := 0) (n1 := 0) (kd := 6) [.int 3] [.int 3, rv m] hC lv_X5_116 (ct_X5_fails hst (M := M) a0 3) a0.t (by decide) ⟨_, mE_6 a0.t⟩ rfl rfl rfl (by simp only [List.map_cons, List.map_nil, rv_cat, Value.category, List.sum_cons, List.sum_nil]; decide) (by decide) rfl rfl (by decide) (by decide) dX5_addLien_53 (fun E M9 h => h.elim) (fun v9 M9 hq9 => ?_)
          obtain ⟨rfl, rfl⟩ := hq9
          refine J_iret hC (by decide) (by decide) dX5_addLien_56 ?_
          refine op_no hM hlt (k := 3) ?_ rfl
          unfold oAddLien
          rw [if_neg (by rw [hv]; simp), if_neg (rng_yes b22 b33), if_pos s48]
      · have b33 : (decide (1 ≤ a ∧ a ≤ 9999)) = false := bz_eq0 (nn c33)
        refine J_aload_n hC dX5_addLien_36 rfl rfl ?_
        refine J_iconst hC dX5_addLien_37 (v := 2) (by decide) ?_
        refine J_callV (k1 := 0) (n1 := 0) (kd := 6) [.int 2] [.int 2, rv m] hC lv_X5_116 (ct_X5_fails hst (M := M) a0 2) a0.t (by decide) ⟨_, mE_6 a0.t⟩ rfl rfl rfl (by simp only [List.map_cons, List.map_nil, rv_cat, Value.category, List.sum_cons, List.sum_nil]; decide) (by decide) rfl rfl (by decide) (by decide) dX5_addLien_38 (fun E M9 h => h.elim) (fun v9 M9 hq9 => ?_)
        obtain ⟨rfl, rfl⟩ := hq9
        refine J_iret hC (by decide) (by decide) dX5_addLien_41 ?_
        refine op_no hM hlt (k := 2) ?_ rfl
        unfold oAddLien
        rw [if_neg (by rw [hv]; simp), if_pos (by first | exact Or.inl b22 | exact Or.inr (rng_no b33))]
  · have nv : (isIx v (sN S 1)) = false := bz_eq0 (nn c5)
    refine J_aload_n hC dX5_addLien_8 rfl rfl ?_
    refine J_iconst hC dX5_addLien_9 (v := 1) (by decide) ?_
    refine J_callV (k1 := 0) (n1 := 0) (kd := 6) [.int 1] [.int 1, rv m] hC lv_X5_116 (ct_X5_fails hst (M := M) a0 1) a0.t (by decide) ⟨_, mE_6 a0.t⟩ rfl rfl rfl (by simp only [List.map_cons, List.map_nil, rv_cat, Value.category, List.sum_cons, List.sum_nil]; decide) (by decide) rfl rfl (by decide) (by decide) dX5_addLien_10 (fun E M9 h => h.elim) (fun v9 M9 hq9 => ?_)
    obtain ⟨rfl, rfl⟩ := hq9
    refine J_iret hC (by decide) (by decide) dX5_addLien_13 ?_
    refine op_no hM hlt (k := 1) ?_ rfl
    simp [oAddLien, nv]
theorem ct_X5_pay {G : Gt} {l : Launch} (hst : l.stackTraces = false) {M : Mm} {m : Nat} {S : St} {t : Nat} (hM : MAt M m S t) (hI : Inv S t) (hlt : t < 512) (who a : Int32) : Ct G l yX5_pay cX5_pay 3 (some .int) 7 M [rv m, .int who, .int a] 0 0 (Op M m t (oPay S who a)) (noX) := by
  obtain ⟨a0, nP, nR, nS, a1, bR, bS, bt⟩ := id hM
  have bPs := a1.bPs; have bK := a1.bK; have bV := a1.bV; have bPl := a1.bP; have bN := a1.bN
  refine Ct_intro (own := RX5) (nm := "pay") (by decide +kernel) rfl rfl hst (fun w hw => by simp only [List.mem_cons, List.not_mem_nil, or_false] at hw; rcases hw with rfl | rfl | rfl <;> first | rfl | exact rv_cat _) (Nat.le_of_ble_eq_true rfl) (fun γ hC => ?_)
  show J G γ M 0 [some (rv m), some (.int who), some (.int a)] [] 0 0
  refine J_aload_n hC dX5_pay_0 rfl rfl ?_
  refine J_iload_n hC dX5_pay_1 rfl rfl ?_
  refine J_callV (k1 := 0) (n1 := 0) (kd := 6) [.int who] [.int who, rv m] hC lv_X5_124 (ct_X5_isKeeper hst hM who) a0.t (by decide) ⟨_, mE_6 a0.t⟩ rfl rfl rfl (by simp only [List.map_cons, List.map_nil, rv_cat, Value.category, List.sum_cons, List.sum_nil]; decide) (by decide) rfl rfl (by decide) (by decide) dX5_pay_2 (fun E M9 h => h.elim) (fun v9 M9 hq9 => ?_)
  obtain ⟨rfl, e9⟩ := hq9
  rw [e9]; clear e9
  refine J_if_ne hC dX5_pay_5 (tgt := 14) (by decide) (fun c5 => ?_) (fun c5 => ?_)
  · have hwho : (isIx who (sN S 0)) = true := bz_ne0 c5
    have xwho := (isIx_ix hwho).2
    refine J_iload_n hC dX5_pay_14 rfl rfl ?_
    refine J_iconst hC dX5_pay_15 (v := 1) (by decide) ?_
    refine J_sipush hC dX5_pay_16 (v := 9999) (by decide) ?_
    refine J_callS (k1 := 0) (n1 := 0) [.int a, .int 1, .int 9999] [.int 9999, .int 1, .int a] hC ls_X5_87 (ct_X5_in hst a 1 9999) rfl rfl (by simp only [List.map_cons, List.map_nil, rv_cat, Value.category, List.sum_cons, List.sum_nil]; decide) (by decide) rfl rfl (by decide) (by decide) dX5_pay_19 (fun E M9 h => h.elim) (fun v9 M9 hq9 => ?_)
    obtain ⟨rfl, e9⟩ := hq9
    rw [e9]; clear e9
    rw [in_bz]
    refine J_if_ne hC dX5_pay_22 (tgt := 31) (by decide) (fun c22 => ?_) (fun c22 => ?_)
    · have b22 : (decide (1 ≤ a ∧ a ≤ 9999)) = true := bz_ne0 c22
      refine J_aload_n hC dX5_pay_31 rfl rfl ?_
      refine J_iconst hC dX5_pay_32 (v := 0) (by decide) ?_
      refine J_put6_0 hC lf_X5_80 a0.t dX5_pay_33 ?_
      refine J_aload_n hC dX5_pay_36 rfl rfl ?_
      refine J_get6 hC lf_X5_7 (j := 10) a0.t (v := rv (mR M m 10)) rfl dX5_pay_37 ?_
      refine J_iload_n hC dX5_pay_40 rfl rfl ?_
      refine J_dup2 hC dX5_pay_41 rfl (rv_cat _) ?_
      refine J_iald hC a0.a10 (j := (ix who)) (isIx_ix hwho).1 (Nat.lt_of_lt_of_eq (by omega) a0.l10.symm) dX5_pay_42 ?_
      rw [show mI (pI M m 0 0) (mR M m 10) (ix who) = sP S (ix who) from ((up2_b _ _ _ _ (a0.ne (by decide) (by decide)).symm : mI (pI M m 0 0) (mR M m 10) (ix who) = mI M (mR M m 10) (ix who)).trans (a1.paid _ (by omega)))]
      refine J_iload_n hC dX5_pay_43 rfl rfl ?_
      refine J_iadd hC dX5_pay_44 ?_
      refine J_iast hC a0.a10 (j := (ix who)) (isIx_ix hwho).1 (Nat.lt_of_lt_of_eq (by omega) a0.l10.symm) dX5_pay_45 ?_
      refine J_aload_n hC dX5_pay_46 rfl rfl ?_
      refine J_dup hC dX5_pay_47 (rv_cat _) ?_
      refine J_get6 hC lf_X5_229 (j := 9) a0.t (v := .long (sC S)) (congrArg (fun z => some (Value.long z)) a1.s9) dX5_pay_48 ?_
      refine J_iload_n hC dX5_pay_51 rfl rfl ?_
      refine J_i2l hC dX5_pay_52 ?_
      refine J_ladd hC dX5_pay_53 ?_
      refine J_put6_9 hC lf_X5_229 a0.t dX5_pay_54 ?_
      obtain ⟨M2, eM2⟩ : ∃ z, z = (pJ (pI (pI M m 0 0) (mR M m 10) (ix who) ((sP S (ix who)) + a)) m 9 ((sC S) + a.toInt64)) := ⟨_, rfl⟩
      rw [← eM2]
      have hM2 : MAt M2 m (uC (uP S (ix who) (sP S (ix who) + a)) (sC S + a.toInt64)) t := by rw [eM2]; exact ⟨a0, _, _, _, MA1.of_v ((Vw.arr (M := (pI M m 0 0)) a0 (Vw.sc (M := M) a0 (Vw.rf M m) 0 0) 10 (by decide) (by decide) (ix who) (sP S (ix who) + a)).lg (sC S + a.toInt64)) (MA1v.py a1.v), bR, bS, bt⟩
      have b0 := hM2.1
      have hI2 : Inv (uC (uP S (ix who) (sP S (ix who) + a)) (sC S + a.toInt64)) t := Inv.same hI (by simp only [sN_uC, sN_uP]) (by simp only [sD_uC, sD_uP]) (by simp only [sV_uC, sV_uP]) (by simp only [sL_uC, sL_uP]) (by simp only [sT_uC, sT_uP]) (by simp only [sQ_uC, sQ_uP]) (by simp only [sO_uC, sO_uP])
      refine J_aload_n hC dX5_pay_57 rfl rfl ?_
      refine J_iload_n hC dX5_pay_58 rfl rfl ?_
      refine J_callV (k1 := 0) (n1 := 0) (kd := 6) [.int who] [.int who, rv m] hC lv_X5_223 (ct_X5_debt hst hM2 hI2 who (by simp only [sN_uC, sN_uP]; exact hwho)) b0.t (by decide) ⟨_, mE_6 b0.t⟩ rfl rfl rfl (by simp only [List.map_cons, List.map_nil, rv_cat, Value.category, List.sum_cons, List.sum_nil]; decide) (by decide) rfl rfl (by decide) (by decide) dX5_pay_59 (fun E M9 h => h.elim) (fun v9 M9 hq9 => ?_)
      obtain ⟨rfl, e9⟩ := hq9
      rw [e9]; clear e9
      refine J_iret hC (by decide) (by decide) dX5_pay_62 ?_
      refine op_at (S1 := uC (uP S (ix who) (sP S (ix who) + a)) (sC S + a.toInt64)) ?_ (hM2.up hlt) (by rw [eM2]; exact (Fr.trans (Fr.trans (Fr.trans (Fr.rf pM M) (Fr.pI (a0.fm))) (Fr.pI (a0.fa (by decide) (by decide)))) (Fr.pJ (a0.fm)))) (by rw [eM2]; exact ((up2_b _ _ _ _ (a0.ne (by decide) (by decide))).trans (up2_same _ _ _ _)))
      unfold oPay
      rw [if_neg (by rw [hwho]; simp), if_neg (rng_yes2 b22)]
    · have b22 : (decide (1 ≤ a ∧ a ≤ 9999)) = false := bz_eq0 (nn c22)
      refine J_aload_n hC dX5_pay_25 rfl rfl ?_
      refine J_iconst hC dX5_pay_26 (v := 2) (by decide) ?_
      refine J_callV (k1 := 0) (n1 := 0) (kd := 6) [.int 2] [.int 2, rv m] hC lv_X5_116 (ct_X5_fails hst (M := M) a0 2) a0.t (by decide) ⟨_, mE_6 a0.t⟩ rfl rfl rfl (by simp only [List.map_cons, List.map_nil, rv_cat, Value.category, List.sum_cons, List.sum_nil]; decide) (by decide) rfl rfl (by decide) (by decide) dX5_pay_27 (fun E M9 h => h.elim) (fun v9 M9 hq9 => ?_)
      obtain ⟨rfl, rfl⟩ := hq9
      refine J_iret hC (by decide) (by decide) dX5_pay_30 ?_
      refine op_no hM hlt (k := 2) ?_ rfl
      unfold oPay
      rw [if_neg (by rw [hwho]; simp), if_pos (rng_no b22)]
  · have nwho : (isIx who (sN S 0)) = false := bz_eq0 (nn c5)
    refine J_aload_n hC dX5_pay_8 rfl rfl ?_
    refine J_iconst hC dX5_pay_9 (v := 1) (by decide) ?_
    refine J_callV (k1 := 0) (n1 := 0) (kd := 6) [.int 1] [.int 1, rv m] hC lv_X5_116 (ct_X5_fails hst (M := M) a0 1) a0.t (by decide) ⟨_, mE_6 a0.t⟩ rfl rfl rfl (by simp only [List.map_cons, List.map_nil, rv_cat, Value.category, List.sum_cons, List.sum_nil]; decide) (by decide) rfl rfl (by decide) (by decide) dX5_pay_10 (fun E M9 h => h.elim) (fun v9 M9 hq9 => ?_)
    obtain ⟨rfl, rfl⟩ := hq9
    refine J_iret hC (by decide) (by decide) dX5_pay_13 ?_
    refine op_no hM hlt (k := 1) ?_ rfl
    simp [oPay, nwho]
theorem ct_X5_sell {G : Gt} {l : Launch} (hst : l.stackTraces = false) {M : Mm} {m : Nat} {S : St} {t : Nat} (hM : MAt M m S t) (hI : Inv S t) (hlt : t < 512) (a v b d : Int32) : Ct G l yX5_sell cX5_sell 5 (some .int) 8 M [rv m, .int a, .int v, .int b, .int d] 0 0 (Op M m t (oSell S a v b d)) (noX) := by
  obtain ⟨a0, nP, nR, nS, a1, bR, bS, bt⟩ := id hM
  have bPs := a1.bPs; have bK := a1.bK; have bV := a1.bV; have bPl := a1.bP; have bN := a1.bN
  refine Ct_intro (own := RX5) (nm := "sell") (by decide +kernel) rfl rfl hst (fun w hw => by simp only [List.mem_cons, List.not_mem_nil, or_false] at hw; rcases hw with rfl | rfl | rfl | rfl | rfl <;> first | rfl | exact rv_cat _) (Nat.le_of_ble_eq_true rfl) (fun γ hC => ?_)
  show J G γ M 0 [some (rv m), some (.int a), some (.int v), some (.int b), some (.int d)] [] 0 0
  refine J_aload_n hC dX5_sell_0 rfl rfl ?_
  refine J_iload_n hC dX5_sell_1 rfl rfl ?_
  refine J_callV (k1 := 0) (n1 := 0) (kd := 6) [.int a] [.int a, rv m] hC lv_X5_124 (ct_X5_isKeeper hst hM a) a0.t (by decide) ⟨_, mE_6 a0.t⟩ rfl rfl rfl (by simp only [List.map_cons, List.map_nil, rv_cat, Value.category, List.sum_cons, List.sum_nil]; decide) (by decide) rfl rfl (by decide) (by decide) dX5_sell_2 (fun E M9 h => h.elim) (fun v9 M9 hq9 => ?_)
  obtain ⟨rfl, e9⟩ := hq9
  rw [e9]; clear e9
  refine J_if_eq hC dX5_sell_5 (tgt := 24) (by decide) (fun c5 => ?_) (fun c5 => ?_)
  · have na : (isIx a (sN S 0)) = false := bz_eq0 c5
    refine J_aload_n hC dX5_sell_24 rfl rfl ?_
    refine J_iconst hC dX5_sell_25 (v := 1) (by decide) ?_
    refine J_callV (k1 := 0) (n1 := 0) (kd := 6) [.int 1] [.int 1, rv m] hC lv_X5_116 (ct_X5_fails hst (M := M) a0 1) a0.t (by decide) ⟨_, mE_6 a0.t⟩ rfl rfl rfl (by simp only [List.map_cons, List.map_nil, rv_cat, Value.category, List.sum_cons, List.sum_nil]; decide) (by decide) rfl rfl (by decide) (by decide) dX5_sell_26 (fun E M9 h => h.elim) (fun v9 M9 hq9 => ?_)
    obtain ⟨rfl, rfl⟩ := hq9
    refine J_iret hC (by decide) (by decide) dX5_sell_29 ?_
    refine op_no hM hlt (k := 1) ?_ rfl
    simp [oSell, na]
  · have ha : (isIx a (sN S 0)) = true := bz_ne0 c5
    have xa := (isIx_ix ha).2
    refine J_aload_n hC dX5_sell_8 rfl rfl ?_
    refine J_iload_n hC dX5_sell_9 rfl rfl ?_
    refine J_callV (k1 := 0) (n1 := 0) (kd := 6) [.int b] [.int b, rv m] hC lv_X5_124 (ct_X5_isKeeper hst hM b) a0.t (by decide) ⟨_, mE_6 a0.t⟩ rfl rfl rfl (by simp only [List.map_cons, List.map_nil, rv_cat, Value.category, List.sum_cons, List.sum_nil]; decide) (by decide) rfl rfl (by decide) (by decide) dX5_sell_10 (fun E M9 h => h.elim) (fun v9 M9 hq9 => ?_)
    obtain ⟨rfl, e9⟩ := hq9
    rw [e9]; clear e9
    refine J_if_eq hC dX5_sell_13 (tgt := 24) (by decide) (fun c13 => ?_) (fun c13 => ?_)
    · have nb : (isIx b (sN S 0)) = false := bz_eq0 c13
      refine J_aload_n hC dX5_sell_24 rfl rfl ?_
      refine J_iconst hC dX5_sell_25 (v := 1) (by decide) ?_
      refine J_callV (k1 := 0) (n1 := 0) (kd := 6) [.int 1] [.int 1, rv m] hC lv_X5_116 (ct_X5_fails hst (M := M) a0 1) a0.t (by decide) ⟨_, mE_6 a0.t⟩ rfl rfl rfl (by simp only [List.map_cons, List.map_nil, rv_cat, Value.category, List.sum_cons, List.sum_nil]; decide) (by decide) rfl rfl (by decide) (by decide) dX5_sell_26 (fun E M9 h => h.elim) (fun v9 M9 hq9 => ?_)
      obtain ⟨rfl, rfl⟩ := hq9
      refine J_iret hC (by decide) (by decide) dX5_sell_29 ?_
      refine op_no hM hlt (k := 1) ?_ rfl
      simp [oSell, ha, nb]
    · have hb : (isIx b (sN S 0)) = true := bz_ne0 c13
      have xb := (isIx_ix hb).2
      refine J_aload_n hC dX5_sell_16 rfl rfl ?_
      refine J_iload_n hC dX5_sell_17 rfl rfl ?_
      refine J_callV (k1 := 0) (n1 := 0) (kd := 6) [.int v] [.int v, rv m] hC lv_X5_147 (ct_X5_isVehicle hst hM v) a0.t (by decide) ⟨_, mE_6 a0.t⟩ rfl rfl rfl (by simp only [List.map_cons, List.map_nil, rv_cat, Value.category, List.sum_cons, List.sum_nil]; decide) (by decide) rfl rfl (by decide) (by decide) dX5_sell_18 (fun E M9 h => h.elim) (fun v9 M9 hq9 => ?_)
      obtain ⟨rfl, e9⟩ := hq9
      rw [e9]; clear e9
      refine J_if_ne hC dX5_sell_21 (tgt := 30) (by decide) (fun c21 => ?_) (fun c21 => ?_)
      · have hv : (isIx v (sN S 1)) = true := bz_ne0 c21
        have xv := (isIx_ix hv).2
        refine J_aload_n hC dX5_sell_30 rfl rfl ?_
        refine J_iload hC dX5_sell_31 rfl ?_
        refine J_callV (k1 := 0) (n1 := 0) (kd := 6) [.int d] [.int d, rv m] hC lv_X5_154 (ct_X5_isDay hst hM d) a0.t (by decide) ⟨_, mE_6 a0.t⟩ rfl rfl rfl (by simp only [List.map_cons, List.map_nil, rv_cat, Value.category, List.sum_cons, List.sum_nil]; decide) (by decide) rfl rfl (by decide) (by decide) dX5_sell_33 (fun E M9 h => h.elim) (fun v9 M9 hq9 => ?_)
        obtain ⟨rfl, e9⟩ := hq9
        rw [e9]; clear e9
        refine J_if_ne hC dX5_sell_36 (tgt := 45) (by decide) (fun c36 => ?_) (fun c36 => ?_)
        · have hdd : (isDay S d) = true := bz_ne0 c36
          refine J_iload_n hC dX5_sell_45 rfl rfl ?_
          refine J_iload_n hC dX5_sell_46 rfl rfl ?_
          refine J_icmp_ne hC dX5_sell_47 (tgt := 56) (by decide) (fun c47 => ?_) (fun c47 => ?_)
          · have q47 : ¬ a = b := c47
            refine J_aload_n hC dX5_sell_56 rfl rfl ?_
            refine J_get6 hC lf_X5_166 (j := 3) a0.t (v := .int (nI (sN S 3))) (congrArg (fun z => some (Value.int z)) a1.s3) dX5_sell_57 ?_
            refine J_bipush hC dX5_sell_60 (v := 120) (by decide) ?_
            refine J_icmp_ne hC dX5_sell_62 (tgt := 73) (by decide) (fun c62 => ?_) (fun c62 => ?_)
            · have q62 : ¬ (sN S 3) = 120 := fun e => c62 (show nI (sN S 3) = nI 120 from congrArg nI e)
              refine J_aload_n hC dX5_sell_73 rfl rfl ?_
              refine J_iload_n hC dX5_sell_74 rfl rfl ?_
              refine J_iload_n hC dX5_sell_75 rfl rfl ?_
              refine J_iload_n hC dX5_sell_76 rfl rfl ?_
              refine J_iload hC dX5_sell_77 rfl ?_
              refine J_callV (k1 := 0) (n1 := 0) (kd := 6) [.int a, .int v, .int b, .int d] [.int d, .int b, .int v, .int a, rv m] hC lv_X5_179 (ct_X5_enters hst hM hI a v b d (Or.inr ha) hv hb hdd (by omega)) a0.t (by decide) ⟨_, mE_6 a0.t⟩ rfl rfl rfl (by simp only [List.map_cons, List.map_nil, rv_cat, Value.category, List.sum_cons, List.sum_nil]; decide) (by decide) rfl rfl (by decide) (by decide) dX5_sell_79 (fun E M9 h => h.elim) (fun v9 M9 hq9 => ?_)
              obtain ⟨rfl, hM2, hF2, hT2⟩ := hq9
              refine J_iret hC (by decide) (by decide) dX5_sell_82 ?_
              refine op_at (S1 := enterQ S a (ix v) b d) ?_ (hM2.up hlt) hF2 hT2
              simp [oSell, ha, hb, hv, hdd, q47, q62]
            · have q62 : (sN S 3) = 120 := (nI_eq (by omega) (by omega)).mp (show nI (sN S 3) = nI 120 from (nn c62))
              refine J_aload_n hC dX5_sell_65 rfl rfl ?_
              refine J_iconst hC dX5_sell_66 (v := 4) (by decide) ?_
              refine J_callV (k1 := 0) (n1 := 0) (kd := 6) [.int 4] [.int 4, rv m] hC lv_X5_116 (ct_X5_fails hst (M := M) a0 4) a0.t (by decide) ⟨_, mE_6 a0.t⟩ rfl rfl rfl (by simp only [List.map_cons, List.map_nil, rv_cat, Value.category, List.sum_cons, List.sum_nil]; decide) (by decide) rfl rfl (by decide) (by decide) dX5_sell_67 (fun E M9 h => h.elim) (fun v9 M9 hq9 => ?_)
              obtain ⟨rfl, rfl⟩ := hq9
              refine J_goto hC dX5_sell_70 (tgt := 82) (by decide) ?_
              refine J_iret hC (by decide) (by decide) dX5_sell_82 ?_
              refine op_no hM hlt (k := 4) ?_ rfl
              simp [oSell, ha, hb, hv, hdd, q47, q62]
          · have q47 : a = b := (nn c47)
            refine J_aload_n hC dX5_sell_50 rfl rfl ?_
            refine J_iconst hC dX5_sell_51 (v := 3) (by decide) ?_
            refine J_callV (k1 := 0) (n1 := 0) (kd := 6) [.int 3] [.int 3, rv m] hC lv_X5_116 (ct_X5_fails hst (M := M) a0 3) a0.t (by decide) ⟨_, mE_6 a0.t⟩ rfl rfl rfl (by simp only [List.map_cons, List.map_nil, rv_cat, Value.category, List.sum_cons, List.sum_nil]; decide) (by decide) rfl rfl (by decide) (by decide) dX5_sell_52 (fun E M9 h => h.elim) (fun v9 M9 hq9 => ?_)
            obtain ⟨rfl, rfl⟩ := hq9
            refine J_iret hC (by decide) (by decide) dX5_sell_55 ?_
            refine op_no hM hlt (k := 3) ?_ rfl
            simp [oSell, ha, hb, hv, hdd, q47]
        · have ndd : (isDay S d) = false := bz_eq0 (nn c36)
          refine J_aload_n hC dX5_sell_39 rfl rfl ?_
          refine J_iconst hC dX5_sell_40 (v := 2) (by decide) ?_
          refine J_callV (k1 := 0) (n1 := 0) (kd := 6) [.int 2] [.int 2, rv m] hC lv_X5_116 (ct_X5_fails hst (M := M) a0 2) a0.t (by decide) ⟨_, mE_6 a0.t⟩ rfl rfl rfl (by simp only [List.map_cons, List.map_nil, rv_cat, Value.category, List.sum_cons, List.sum_nil]; decide) (by decide) rfl rfl (by decide) (by decide) dX5_sell_41 (fun E M9 h => h.elim) (fun v9 M9 hq9 => ?_)
          obtain ⟨rfl, rfl⟩ := hq9
          refine J_iret hC (by decide) (by decide) dX5_sell_44 ?_
          refine op_no hM hlt (k := 2) ?_ rfl
          simp [oSell, ha, hb, hv, ndd]
      · have nv : (isIx v (sN S 1)) = false := bz_eq0 (nn c21)
        refine J_aload_n hC dX5_sell_24 rfl rfl ?_
        refine J_iconst hC dX5_sell_25 (v := 1) (by decide) ?_
        refine J_callV (k1 := 0) (n1 := 0) (kd := 6) [.int 1] [.int 1, rv m] hC lv_X5_116 (ct_X5_fails hst (M := M) a0 1) a0.t (by decide) ⟨_, mE_6 a0.t⟩ rfl rfl rfl (by simp only [List.map_cons, List.map_nil, rv_cat, Value.category, List.sum_cons, List.sum_nil]; decide) (by decide) rfl rfl (by decide) (by decide) dX5_sell_26 (fun E M9 h => h.elim) (fun v9 M9 hq9 => ?_)
        obtain ⟨rfl, rfl⟩ := hq9
        refine J_iret hC (by decide) (by decide) dX5_sell_29 ?_
        refine op_no hM hlt (k := 1) ?_ rfl
        simp [oSell, ha, hb, nv]
theorem ct_X5_buy {G : Gt} {l : Launch} (hst : l.stackTraces = false) {M : Mm} {m : Nat} {S : St} {t : Nat} (hM : MAt M m S t) (hI : Inv S t) (hlt : t < 512) (b v d : Int32) : Ct G l yX5_buy cX5_buy 4 (some .int) 8 M [rv m, .int b, .int v, .int d] 0 0 (Op M m t (oBuy S b v d)) (noX) := by
  obtain ⟨a0, nP, nR, nS, a1, bR, bS, bt⟩ := id hM
  have bPs := a1.bPs; have bK := a1.bK; have bV := a1.bV; have bPl := a1.bP; have bN := a1.bN
  refine Ct_intro (own := RX5) (nm := "buy") (by decide +kernel) rfl rfl hst (fun w hw => by simp only [List.mem_cons, List.not_mem_nil, or_false] at hw; rcases hw with rfl | rfl | rfl | rfl <;> first | rfl | exact rv_cat _) (Nat.le_of_ble_eq_true rfl) (fun γ hC => ?_)
  show J G γ M 0 [some (rv m), some (.int b), some (.int v), some (.int d)] [] 0 0
  refine J_aload_n hC dX5_buy_0 rfl rfl ?_
  refine J_iload_n hC dX5_buy_1 rfl rfl ?_
  refine J_callV (k1 := 0) (n1 := 0) (kd := 6) [.int b] [.int b, rv m] hC lv_X5_124 (ct_X5_isKeeper hst hM b) a0.t (by decide) ⟨_, mE_6 a0.t⟩ rfl rfl rfl (by simp only [List.map_cons, List.map_nil, rv_cat, Value.category, List.sum_cons, List.sum_nil]; decide) (by decide) rfl rfl (by decide) (by decide) dX5_buy_2 (fun E M9 h => h.elim) (fun v9 M9 hq9 => ?_)
  obtain ⟨rfl, e9⟩ := hq9
  rw [e9]; clear e9
  refine J_if_eq hC dX5_buy_5 (tgt := 16) (by decide) (fun c5 => ?_) (fun c5 => ?_)
  · have nb : (isIx b (sN S 0)) = false := bz_eq0 c5
    refine J_aload_n hC dX5_buy_16 rfl rfl ?_
    refine J_iconst hC dX5_buy_17 (v := 1) (by decide) ?_
    refine J_callV (k1 := 0) (n1 := 0) (kd := 6) [.int 1] [.int 1, rv m] hC lv_X5_116 (ct_X5_fails hst (M := M) a0 1) a0.t (by decide) ⟨_, mE_6 a0.t⟩ rfl rfl rfl (by simp only [List.map_cons, List.map_nil, rv_cat, Value.category, List.sum_cons, List.sum_nil]; decide) (by decide) rfl rfl (by decide) (by decide) dX5_buy_18 (fun E M9 h => h.elim) (fun v9 M9 hq9 => ?_)
    obtain ⟨rfl, rfl⟩ := hq9
    refine J_iret hC (by decide) (by decide) dX5_buy_21 ?_
    refine op_no hM hlt (k := 1) ?_ rfl
    simp [oBuy, nb]
  · have hb : (isIx b (sN S 0)) = true := bz_ne0 c5
    have xb := (isIx_ix hb).2
    refine J_aload_n hC dX5_buy_8 rfl rfl ?_
    refine J_iload_n hC dX5_buy_9 rfl rfl ?_
    refine J_callV (k1 := 0) (n1 := 0) (kd := 6) [.int v] [.int v, rv m] hC lv_X5_147 (ct_X5_isVehicle hst hM v) a0.t (by decide) ⟨_, mE_6 a0.t⟩ rfl rfl rfl (by simp only [List.map_cons, List.map_nil, rv_cat, Value.category, List.sum_cons, List.sum_nil]; decide) (by decide) rfl rfl (by decide) (by decide) dX5_buy_10 (fun E M9 h => h.elim) (fun v9 M9 hq9 => ?_)
    obtain ⟨rfl, e9⟩ := hq9
    rw [e9]; clear e9
    refine J_if_ne hC dX5_buy_13 (tgt := 22) (by decide) (fun c13 => ?_) (fun c13 => ?_)
    · have hv : (isIx v (sN S 1)) = true := bz_ne0 c13
      have xv := (isIx_ix hv).2
      refine J_aload_n hC dX5_buy_22 rfl rfl ?_
      refine J_iload_n hC dX5_buy_23 rfl rfl ?_
      refine J_callV (k1 := 0) (n1 := 0) (kd := 6) [.int d] [.int d, rv m] hC lv_X5_154 (ct_X5_isDay hst hM d) a0.t (by decide) ⟨_, mE_6 a0.t⟩ rfl rfl rfl (by simp only [List.map_cons, List.map_nil, rv_cat, Value.category, List.sum_cons, List.sum_nil]; decide) (by decide) rfl rfl (by decide) (by decide) dX5_buy_24 (fun E M9 h => h.elim) (fun v9 M9 hq9 => ?_)
      obtain ⟨rfl, e9⟩ := hq9
      rw [e9]; clear e9
      refine J_if_ne hC dX5_buy_27 (tgt := 36) (by decide) (fun c27 => ?_) (fun c27 => ?_)
      · have hdd : (isDay S d) = true := bz_ne0 c27
        refine J_aload_n hC dX5_buy_36 rfl rfl ?_
        refine J_get6 hC lf_X5_166 (j := 3) a0.t (v := .int (nI (sN S 3))) (congrArg (fun z => some (Value.int z)) a1.s3) dX5_buy_37 ?_
        refine J_bipush hC dX5_buy_40 (v := 120) (by decide) ?_
        refine J_icmp_ne hC dX5_buy_42 (tgt := 53) (by decide) (fun c42 => ?_) (fun c42 => ?_)
        · have q42 : ¬ (sN S 3) = 120 := fun e => c42 (show nI (sN S 3) = nI 120 from congrArg nI e)
          refine J_aload_n hC dX5_buy_53 rfl rfl ?_
          refine J_iconst hC dX5_buy_54 (v := -1) (by decide) ?_
          refine J_iload_n hC dX5_buy_55 rfl rfl ?_
          refine J_iload_n hC dX5_buy_56 rfl rfl ?_
          refine J_iload_n hC dX5_buy_57 rfl rfl ?_
          refine J_callV (k1 := 0) (n1 := 0) (kd := 6) [.int (-1), .int v, .int b, .int d] [.int d, .int b, .int v, .int (-1), rv m] hC lv_X5_179 (ct_X5_enters hst hM hI (-1) v b d (Or.inl rfl) hv hb hdd (by omega)) a0.t (by decide) ⟨_, mE_6 a0.t⟩ rfl rfl rfl (by simp only [List.map_cons, List.map_nil, rv_cat, Value.category, List.sum_cons, List.sum_nil]; decide) (by decide) rfl rfl (by decide) (by decide) dX5_buy_58 (fun E M9 h => h.elim) (fun v9 M9 hq9 => ?_)
          obtain ⟨rfl, hM2, hF2, hT2⟩ := hq9
          refine J_iret hC (by decide) (by decide) dX5_buy_61 ?_
          refine op_at (S1 := enterQ S (-1) (ix v) b d) ?_ (hM2.up hlt) hF2 hT2
          simp [oBuy, hb, hv, hdd, q42]
        · have q42 : (sN S 3) = 120 := (nI_eq (by omega) (by omega)).mp (show nI (sN S 3) = nI 120 from (nn c42))
          refine J_aload_n hC dX5_buy_45 rfl rfl ?_
          refine J_iconst hC dX5_buy_46 (v := 3) (by decide) ?_
          refine J_callV (k1 := 0) (n1 := 0) (kd := 6) [.int 3] [.int 3, rv m] hC lv_X5_116 (ct_X5_fails hst (M := M) a0 3) a0.t (by decide) ⟨_, mE_6 a0.t⟩ rfl rfl rfl (by simp only [List.map_cons, List.map_nil, rv_cat, Value.category, List.sum_cons, List.sum_nil]; decide) (by decide) rfl rfl (by decide) (by decide) dX5_buy_47 (fun E M9 h => h.elim) (fun v9 M9 hq9 => ?_)
          obtain ⟨rfl, rfl⟩ := hq9
          refine J_goto hC dX5_buy_50 (tgt := 61) (by decide) ?_
          refine J_iret hC (by decide) (by decide) dX5_buy_61 ?_
          refine op_no hM hlt (k := 3) ?_ rfl
          simp [oBuy, hb, hv, hdd, q42]
      · have ndd : (isDay S d) = false := bz_eq0 (nn c27)
        refine J_aload_n hC dX5_buy_30 rfl rfl ?_
        refine J_iconst hC dX5_buy_31 (v := 2) (by decide) ?_
        refine J_callV (k1 := 0) (n1 := 0) (kd := 6) [.int 2] [.int 2, rv m] hC lv_X5_116 (ct_X5_fails hst (M := M) a0 2) a0.t (by decide) ⟨_, mE_6 a0.t⟩ rfl rfl rfl (by simp only [List.map_cons, List.map_nil, rv_cat, Value.category, List.sum_cons, List.sum_nil]; decide) (by decide) rfl rfl (by decide) (by decide) dX5_buy_32 (fun E M9 h => h.elim) (fun v9 M9 hq9 => ?_)
        obtain ⟨rfl, rfl⟩ := hq9
        refine J_iret hC (by decide) (by decide) dX5_buy_35 ?_
        refine op_no hM hlt (k := 2) ?_ rfl
        simp [oBuy, hb, hv, ndd]
    · have nv : (isIx v (sN S 1)) = false := bz_eq0 (nn c13)
      refine J_aload_n hC dX5_buy_16 rfl rfl ?_
      refine J_iconst hC dX5_buy_17 (v := 1) (by decide) ?_
      refine J_callV (k1 := 0) (n1 := 0) (kd := 6) [.int 1] [.int 1, rv m] hC lv_X5_116 (ct_X5_fails hst (M := M) a0 1) a0.t (by decide) ⟨_, mE_6 a0.t⟩ rfl rfl rfl (by simp only [List.map_cons, List.map_nil, rv_cat, Value.category, List.sum_cons, List.sum_nil]; decide) (by decide) rfl rfl (by decide) (by decide) dX5_buy_18 (fun E M9 h => h.elim) (fun v9 M9 hq9 => ?_)
      obtain ⟨rfl, rfl⟩ := hq9
      refine J_iret hC (by decide) (by decide) dX5_buy_21 ?_
      refine op_no hM hlt (k := 1) ?_ rfl
      simp [oBuy, hb, nv]
