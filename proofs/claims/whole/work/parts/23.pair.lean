theorem MA1v.use {sc : Nat → Int32} {c9 : Int64} {ar : Nat → Nat → Int32} {S : St} {v s b nP nR nS : Nat} (h : MA1v sc c9 ar S nP nR nS) (hv : v < sN S 1) (hs : s < sN S 3) (hb : b < sN S 3) (hsb : s ≠ b) (f1 : sO S s 5 = 111) (f2 : sO S b 5 = 111) : MA1v (va_up sc 6 (nI (nP + 1))) c9 (up2 (up2 (up2 (up2 (up2 (up2 (up2 ar 22 s 117) 22 b 117) 23 s (nI b)) 23 b (nI s)) 15 nP (nI v)) 16 nP (sO S s 4)) 17 nP (sO S s 3)) (useQ S v s b) (nP + 1) nR nS := by
  have bV := h.bV
  have hO := useQ_O S v s b
  have o : ∀ n k, k ≠ 5 → k ≠ 6 → sO (useQ S v s b) n k = sO S n k := fun n k h5 h6 => by rw [useQ_O]; simp [h5, h6]
  have c1 := cnt_use (v := v) hs hb hsb f1 f2
  have hT0 := fun u => useQ_T0 S (v := v) (s := s) (b := b) u
  have hT1 := useQ_T S (v := v) (s := s) (b := b) (r := 1) (by decide)
  have hT2 := useQ_T S (v := v) (s := s) (b := b) (r := 2) (by decide)
  have v1 : (va_up sc 6 (nI (nP + 1))) 1 = sc 1 := rfl
  have v2 : (va_up sc 6 (nI (nP + 1))) 2 = sc 2 := rfl
  have v3 : (va_up sc 6 (nI (nP + 1))) 3 = sc 3 := rfl
  have v4 : (va_up sc 6 (nI (nP + 1))) 4 = sc 4 := rfl
  have v5 : (va_up sc 6 (nI (nP + 1))) 5 = sc 5 := rfl
  have v6 : (va_up sc 6 (nI (nP + 1))) 6 = nI (nP + 1) := rfl
  have v7 : (va_up sc 6 (nI (nP + 1))) 7 = sc 7 := rfl
  have v8 : (va_up sc 6 (nI (nP + 1))) 8 = sc 8 := rfl
  have e10 : (up2 (up2 (up2 (up2 (up2 (up2 (up2 ar 22 s 117) 22 b 117) 23 s (nI b)) 23 b (nI s)) 15 nP (nI v)) 16 nP (sO S s 4)) 17 nP (sO S s 3)) 10 = ar 10 := rfl
  have e11 : (up2 (up2 (up2 (up2 (up2 (up2 (up2 ar 22 s 117) 22 b 117) 23 s (nI b)) 23 b (nI s)) 15 nP (nI v)) 16 nP (sO S s 4)) 17 nP (sO S s 3)) 11 = ar 11 := rfl
  have e12 : (up2 (up2 (up2 (up2 (up2 (up2 (up2 ar 22 s 117) 22 b 117) 23 s (nI b)) 23 b (nI s)) 15 nP (nI v)) 16 nP (sO S s 4)) 17 nP (sO S s 3)) 12 = ar 12 := rfl
  have e13 : (up2 (up2 (up2 (up2 (up2 (up2 (up2 ar 22 s 117) 22 b 117) 23 s (nI b)) 23 b (nI s)) 15 nP (nI v)) 16 nP (sO S s 4)) 17 nP (sO S s 3)) 13 = ar 13 := rfl
  have e14 : (up2 (up2 (up2 (up2 (up2 (up2 (up2 ar 22 s 117) 22 b 117) 23 s (nI b)) 23 b (nI s)) 15 nP (nI v)) 16 nP (sO S s 4)) 17 nP (sO S s 3)) 14 = ar 14 := rfl
  have e15 : (up2 (up2 (up2 (up2 (up2 (up2 (up2 ar 22 s 117) 22 b 117) 23 s (nI b)) 23 b (nI s)) 15 nP (nI v)) 16 nP (sO S s 4)) 17 nP (sO S s 3)) 15 = va_up (ar 15) nP (nI v) := by rw [up2_row _ _ _ (show (15 : Nat) ≠ 17 by decide), up2_row _ _ _ (show (15 : Nat) ≠ 16 by decide), up2_va, up2_row _ _ _ (show (15 : Nat) ≠ 23 by decide), up2_row _ _ _ (show (15 : Nat) ≠ 23 by decide), up2_row _ _ _ (show (15 : Nat) ≠ 22 by decide), up2_row _ _ _ (show (15 : Nat) ≠ 22 by decide)]
  have e16 : (up2 (up2 (up2 (up2 (up2 (up2 (up2 ar 22 s 117) 22 b 117) 23 s (nI b)) 23 b (nI s)) 15 nP (nI v)) 16 nP (sO S s 4)) 17 nP (sO S s 3)) 16 = va_up (ar 16) nP (sO S s 4) := by rw [up2_row _ _ _ (show (16 : Nat) ≠ 17 by decide), up2_va, up2_row _ _ _ (show (16 : Nat) ≠ 15 by decide), up2_row _ _ _ (show (16 : Nat) ≠ 23 by decide), up2_row _ _ _ (show (16 : Nat) ≠ 23 by decide), up2_row _ _ _ (show (16 : Nat) ≠ 22 by decide), up2_row _ _ _ (show (16 : Nat) ≠ 22 by decide)]
  have e17 : (up2 (up2 (up2 (up2 (up2 (up2 (up2 ar 22 s 117) 22 b 117) 23 s (nI b)) 23 b (nI s)) 15 nP (nI v)) 16 nP (sO S s 4)) 17 nP (sO S s 3)) 17 = va_up (ar 17) nP (sO S s 3) := by rw [up2_va, up2_row _ _ _ (show (17 : Nat) ≠ 16 by decide), up2_row _ _ _ (show (17 : Nat) ≠ 15 by decide), up2_row _ _ _ (show (17 : Nat) ≠ 23 by decide), up2_row _ _ _ (show (17 : Nat) ≠ 23 by decide), up2_row _ _ _ (show (17 : Nat) ≠ 22 by decide), up2_row _ _ _ (show (17 : Nat) ≠ 22 by decide)]
  have e18 : (up2 (up2 (up2 (up2 (up2 (up2 (up2 ar 22 s 117) 22 b 117) 23 s (nI b)) 23 b (nI s)) 15 nP (nI v)) 16 nP (sO S s 4)) 17 nP (sO S s 3)) 18 = ar 18 := rfl
  have e19 : (up2 (up2 (up2 (up2 (up2 (up2 (up2 ar 22 s 117) 22 b 117) 23 s (nI b)) 23 b (nI s)) 15 nP (nI v)) 16 nP (sO S s 4)) 17 nP (sO S s 3)) 19 = ar 19 := rfl
  have e20 : (up2 (up2 (up2 (up2 (up2 (up2 (up2 ar 22 s 117) 22 b 117) 23 s (nI b)) 23 b (nI s)) 15 nP (nI v)) 16 nP (sO S s 4)) 17 nP (sO S s 3)) 20 = ar 20 := rfl
  have e21 : (up2 (up2 (up2 (up2 (up2 (up2 (up2 ar 22 s 117) 22 b 117) 23 s (nI b)) 23 b (nI s)) 15 nP (nI v)) 16 nP (sO S s 4)) 17 nP (sO S s 3)) 21 = ar 21 := rfl
  have e22 : (up2 (up2 (up2 (up2 (up2 (up2 (up2 ar 22 s 117) 22 b 117) 23 s (nI b)) 23 b (nI s)) 15 nP (nI v)) 16 nP (sO S s 4)) 17 nP (sO S s 3)) 22 = va_up (va_up (ar 22) s 117) b 117 := by rw [up2_row _ _ _ (show (22 : Nat) ≠ 17 by decide), up2_row _ _ _ (show (22 : Nat) ≠ 16 by decide), up2_row _ _ _ (show (22 : Nat) ≠ 15 by decide), up2_row _ _ _ (show (22 : Nat) ≠ 23 by decide), up2_row _ _ _ (show (22 : Nat) ≠ 23 by decide), up2_va, up2_va]
  have e23 : (up2 (up2 (up2 (up2 (up2 (up2 (up2 ar 22 s 117) 22 b 117) 23 s (nI b)) 23 b (nI s)) 15 nP (nI v)) 16 nP (sO S s 4)) 17 nP (sO S s 3)) 23 = va_up (va_up (ar 23) s (nI b)) b (nI s) := by rw [up2_row _ _ _ (show (23 : Nat) ≠ 17 by decide), up2_row _ _ _ (show (23 : Nat) ≠ 16 by decide), up2_row _ _ _ (show (23 : Nat) ≠ 15 by decide), up2_va, up2_va, up2_row _ _ _ (show (23 : Nat) ≠ 22 by decide), up2_row _ _ _ (show (23 : Nat) ≠ 22 by decide)]
  have e24 : (up2 (up2 (up2 (up2 (up2 (up2 (up2 ar 22 s 117) 22 b 117) 23 s (nI b)) 23 b (nI s)) 15 nP (nI v)) 16 nP (sO S s 4)) 17 nP (sO S s 3)) 24 = ar 24 := rfl
  have e25 : (up2 (up2 (up2 (up2 (up2 (up2 (up2 ar 22 s 117) 22 b 117) 23 s (nI b)) 23 b (nI s)) 15 nP (nI v)) 16 nP (sO S s 4)) 17 nP (sO S s 3)) 25 = ar 25 := rfl
  have e26 : (up2 (up2 (up2 (up2 (up2 (up2 (up2 ar 22 s 117) 22 b 117) 23 s (nI b)) 23 b (nI s)) 15 nP (nI v)) 16 nP (sO S s 4)) 17 nP (sO S s 3)) 26 = ar 26 := rfl
  have e27 : (up2 (up2 (up2 (up2 (up2 (up2 (up2 ar 22 s 117) 22 b 117) 23 s (nI b)) 23 b (nI s)) 15 nP (nI v)) 16 nP (sO S s 4)) 17 nP (sO S s 3)) 27 = ar 27 := rfl
  have e28 : (up2 (up2 (up2 (up2 (up2 (up2 (up2 ar 22 s 117) 22 b 117) 23 s (nI b)) 23 b (nI s)) 15 nP (nI v)) 16 nP (sO S s 4)) 17 nP (sO S s 3)) 28 = ar 28 := rfl
  have e29 : (up2 (up2 (up2 (up2 (up2 (up2 (up2 ar 22 s 117) 22 b 117) 23 s (nI b)) 23 b (nI s)) 15 nP (nI v)) 16 nP (sO S s 4)) 17 nP (sO S s 3)) 29 = ar 29 := rfl
  have e30 : (up2 (up2 (up2 (up2 (up2 (up2 (up2 ar 22 s 117) 22 b 117) 23 s (nI b)) 23 b (nI s)) 15 nP (nI v)) 16 nP (sO S s 4)) 17 nP (sO S s 3)) 30 = ar 30 := rfl
  have e31 : (up2 (up2 (up2 (up2 (up2 (up2 (up2 ar 22 s 117) 22 b 117) 23 s (nI b)) 23 b (nI s)) 15 nP (nI v)) 16 nP (sO S s 4)) 17 nP (sO S s 3)) 31 = ar 31 := rfl
  have e32 : (up2 (up2 (up2 (up2 (up2 (up2 (up2 ar 22 s 117) 22 b 117) 23 s (nI b)) 23 b (nI s)) 15 nP (nI v)) 16 nP (sO S s 4)) 17 nP (sO S s 3)) 32 = ar 32 := rfl
  have hsN : sN (useQ S v s b) = sN S := rfl
  have hsD : sD (useQ S v s b) = sD S := rfl
  have hsC : sC (useQ S v s b) = sC S := rfl
  have hsP : sP (useQ S v s b) = sP S := rfl
  have hsV : sV (useQ S v s b) = sV S := rfl
  have hsL : sL (useQ S v s b) = sL S := rfl
  have hsQ : sQ (useQ S v s b) = sQ S := rfl
  generalize va_up sc 6 (nI (nP + 1)) = C at *
  generalize up2 (up2 (up2 (up2 (up2 (up2 (up2 ar 22 s 117) 22 b 117) 23 s (nI b)) 23 b (nI s)) 15 nP (nI v)) 16 nP (sO S s 4)) 17 nP (sO S s 3) = A at *
  generalize useQ S v s b = S9 at *
  unfold MA1v
  rw [v1, v2, v3, v4, v5, v6, v7, v8, e10, e11, e12, e13, e14, e15, e16, e17, e18, e19, e20, e21, e22, e23, e24, e25, e26, e27, e28, e29, e30, e31, e32, hsN, hsD, hsC, hsP, hsV, hsL, hsQ]
  exact ⟨h.s1, h.s2, h.s3, h.s4, h.s5, rfl, h.s7, h.s8, h.s9, h.paid, h.kind, h.scr, h.adm, h.lien, h.lien0, h.scr0, (by
    intro u hu
    rw [hT0]
    by_cases e : u = v
    · subst e
      rw [if_pos rfl, sq_y (va_up_self _ _ _), va_up_self, va_up_self, sq_congr (V := ar 15) (D := ar 16) (X := ar 17) (fun j hj => ⟨va_up_ne _ _ (by omega), fun _ => ⟨va_up_ne _ _ (by omega), va_up_ne _ _ (by omega)⟩⟩), h.q0 _ hu]
    · rw [if_neg e, sq_n (by rw [va_up_self]; exact fun q => e (nI_inj (by omega) (by omega) q.symm)), sq_congr (V := ar 15) (D := ar 16) (X := ar 17) (fun j hj => ⟨va_up_ne _ _ (by omega), fun _ => ⟨va_up_ne _ _ (by omega), va_up_ne _ _ (by omega)⟩⟩), h.q0 _ hu]), (by rw [hT1]; exact h.q1), (by rw [hT2]; exact h.q2), (by
    intro j hj
    by_cases e : j = nP
    · subst e; rw [va_up_self]; exact isIx_of hv (by omega)
    · rw [va_up_ne _ _ e]; exact h.r0 j (by omega)), h.r1, h.r2, h.rb, (fun n hn => by rw [o n 1 (by decide) (by decide)]; exact h.n1 n hn), (fun n hn => by rw [o n 2 (by decide) (by decide)]; exact h.n2 n hn), (fun n hn => by rw [o n 3 (by decide) (by decide)]; exact h.n3 n hn), (fun n hn => by rw [o n 4 (by decide) (by decide)]; exact h.n4 n hn), (by
    intro n hn
    rw [hO]
    by_cases e : n = b
    · subst e; rw [va_up_self]; simp
    · rw [va_up_ne _ _ e]
      by_cases e2 : n = s
      · subst e2; rw [va_up_self]; simp [hsb]
      · rw [va_up_ne _ _ e2]; simp [e, e2]; exact h.n5 n hn), (by
    intro n hn
    rw [hO, hO]
    by_cases e : n = b
    · subst e; rw [va_up_self]; simp
    · rw [va_up_ne _ _ e]
      by_cases e2 : n = s
      · subst e2; rw [va_up_self]; simp [hsb]
      · rw [va_up_ne _ _ e2]; simp [e, e2]; exact h.n6 n hn), h.p0, h.p1, h.p2, h.sc, h.ad, (by
    have c2 := h.cu
    omega), h.bK, h.bV, h.bP, h.bN, h.bD⟩
theorem ct_X5_usesPair {G : Gt} {l : Launch} (hst : l.stackTraces = false) {M : Mm} {m : Nat} {S : St} {t : Nat} (hM : MAt M m S t) (hI : Inv S t) (v : Int32) (hv : isIx v (sN S 1) = true) : Ct G l yX5_usesPair cX5_usesPair 4 (some .boolean) 4 M [rv m, .int v] 0 0 (fun r9 M9 => (stepQ S (ix v) = none ∧ r9 = some (.int 0) ∧ M9 = M) ∨ (∃ S1, stepQ S (ix v) = some S1 ∧ r9 = some (.int 1) ∧ MAt M9 m S1 t ∧ Fr pM M M9 ∧ mI M9 m 0 = mI M m 0)) (noX) := by
  obtain ⟨a0, nP, nR, nS, a1, bR, bS, bt⟩ := id hM
  have bPs := a1.bPs; have bK := a1.bK; have bV := a1.bV; have bPl := a1.bP; have bN := a1.bN
  have hvn := isIx_nI hv
  have hvx := (isIx_ix hv).2
  refine Ct_intro (own := RX5) (nm := "usesPair") (by decide +kernel) rfl rfl hst (fun w hw => by simp only [List.mem_cons, List.not_mem_nil, or_false] at hw; rcases hw with rfl | rfl <;> first | rfl | exact rv_cat _) (Nat.le_of_ble_eq_true rfl) (fun γ hC => ?_)
  show J G γ M 0 [some (rv m), some (.int v)] [] 0 0
  refine J_iconst hC dX5_usesPair_0 (v := 0) (by decide) ?_
  refine J_istore_n hC dX5_usesPair_1 rfl (by decide) (ls1 := [some (rv m), some (.int v), some (.int 0)]) rfl ?_
  have L2 : ∀ (n8 : Nat) (s : Nat), sN S 3 - s < n8 → (s ≤ sN S 3) → (∀ k, k < s → sO S k 2 = nI (ix v) → ∀ b, b < sN S 3 → fitR S k b = false) → J G γ M 2 [some (rv m), some (.int v), some (.int (nI s))] [] 0 0 := by
    intro n8
    induction n8 with
    | zero => intro s h8; exact absurd h8 (Nat.not_lt_zero _)
    | succ n8 ihO =>
      intro s h8 hj hA
      refine J_iload_n hC dX5_usesPair_2 rfl rfl ?_
      refine J_aload_n hC dX5_usesPair_3 rfl rfl ?_
      refine J_get6 hC lf_X5_166 (j := 3) a0.t (v := .int (nI (sN S 3))) (congrArg (fun z => some (Value.int z)) a1.s3) dX5_usesPair_4 ?_
      refine J_icmp_ge hC dX5_usesPair_7 (tgt := 106) (by decide) (fun c7 => ?_) (fun c7 => ?_)
      · have hge := le_nI (by omega) (by omega) c7
        refine J_iconst hC dX5_usesPair_106 (v := 0) (by decide) ?_
        refine J_zret hC (by decide) (by decide) (by decide) dX5_usesPair_107 ?_
        exact Or.inl ⟨step_no (by omega) (fun k hk hk2 => hA k (by omega) hk2), rfl, rfl⟩
      · have hls := ge_nI (by omega) (by omega) c7
        refine J_aload_n hC dX5_usesPair_10 rfl rfl ?_
        refine J_get6 hC lf_X5_41 (j := 20) a0.t (v := rv (mR M m 20)) rfl dX5_usesPair_11 ?_
        refine J_iload_n hC dX5_usesPair_14 rfl rfl ?_
        refine J_iald hC a0.a20 (j := s) (nI_toInt (by omega)) (by rw [a0.l20]; omega) dX5_usesPair_15 ?_
        rw [(show mI M (mR M m 20) s = sO S s 2 from a1.n2 _ hls)]
        refine J_iload_n hC dX5_usesPair_16 rfl rfl ?_
        refine J_icmp_eq hC dX5_usesPair_17 (tgt := 23) (by decide) (fun c17 => ?_) (fun c17 => ?_)
        · have c17' := c17
          refine J_iconst hC dX5_usesPair_23 (v := 0) (by decide) ?_
          refine J_istore_n hC dX5_usesPair_24 rfl (by decide) (ls1 := [some (rv m), some (.int v), some (.int (nI s)), some (.int 0)]) rfl ?_
          have L25 : ∀ (n9 : Nat) (b : Nat), sN S 3 - b < n9 → (b ≤ sN S 3) → (∀ k, k < b → fitR S s k = false) → J G γ M 25 [some (rv m), some (.int v), some (.int (nI s)), some (.int (nI b))] [] 0 0 := by
            intro n9
            induction n9 with
            | zero => intro b h9; exact absurd h9 (Nat.not_lt_zero _)
            | succ n9 ih =>
              intro b h9 hj2 hB
              refine J_iload_n hC dX5_usesPair_25 rfl rfl ?_
              refine J_aload_n hC dX5_usesPair_26 rfl rfl ?_
              refine J_get6 hC lf_X5_166 (j := 3) a0.t (v := .int (nI (sN S 3))) (congrArg (fun z => some (Value.int z)) a1.s3) dX5_usesPair_27 ?_
              refine J_icmp_ge hC dX5_usesPair_30 (tgt := 100) (by decide) (fun c30 => ?_) (fun c30 => ?_)
              · have hge := le_nI (by omega) (by omega) c30
                refine J_iinc hC dX5_usesPair_100 (by decide) rfl (v := nI (s + 1)) (nI_1 _) (ls1 := [some (rv m), some (.int v), some (.int (nI (s + 1))), some (.int (nI b))]) rfl ?_
                refine J_goto hC dX5_usesPair_103 (tgt := 2) (by decide) ?_
                refine J_sub hC (ls1 := [some (rv m), some (.int v), some (.int (nI (s + 1)))]) ⟨rfl, rfl, rfl, trivial⟩ ?_
                exact ihO (s + 1) (by omega) (by omega) (fun k hk hk2 => by
                  by_cases e : k = s
                  · subst e
                    first | exact absurd (hk2.trans hvn.symm) c17 | (intro b hb; exact hB b (by omega))
                  · exact hA k (by omega) hk2)
              · have hlb := ge_nI (by omega) (by omega) c30
                refine J_aload_n hC dX5_usesPair_33 rfl rfl ?_
                refine J_iload_n hC dX5_usesPair_34 rfl rfl ?_
                refine J_iload_n hC dX5_usesPair_35 rfl rfl ?_
                refine J_callV (k1 := 0) (n1 := 0) (kd := 6) [.int (nI s), .int (nI b)] [.int (nI b), .int (nI s), rv m] hC lv_X5_169 (ct_X5_fit hst hM hI (nI s) (nI b) (isIx_of hls (by omega)) (isIx_of hlb (by omega))) a0.t (by decide) ⟨_, mE_6 a0.t⟩ rfl rfl rfl (by simp only [List.map_cons, List.map_nil, rv_cat, Value.category, List.sum_cons, List.sum_nil]; decide) (by decide) rfl rfl (by decide) (by decide) dX5_usesPair_36 (fun E M9 h => h.elim) (fun v9 M9 hq9 => ?_)
                obtain ⟨rfl, e9⟩ := hq9
                rw [e9]; clear e9
                rw [ix_nI (n := s) (by omega), ix_nI (n := b) (by omega)]
                refine J_if_ne hC dX5_usesPair_39 (tgt := 45) (by decide) (fun c39 => ?_) (fun c39 => ?_)
                · refine J_aload_n hC dX5_usesPair_45 rfl rfl ?_
                  refine J_get6 hC lf_X5_47 (j := 22) a0.t (v := rv (mR M m 22)) rfl dX5_usesPair_46 ?_
                  refine J_iload_n hC dX5_usesPair_49 rfl rfl ?_
                  refine J_bipush hC dX5_usesPair_50 (v := 117) (by decide) ?_
                  refine J_iast hC a0.a22 (j := s) (nI_toInt (by omega)) (by rw [a0.l22]; omega) dX5_usesPair_52 ?_
                  refine J_aload_n hC dX5_usesPair_53 rfl rfl ?_
                  refine J_get6 hC lf_X5_47 (j := 22) a0.t (v := rv (mR M m 22)) rfl dX5_usesPair_54 ?_
                  refine J_iload_n hC dX5_usesPair_57 rfl rfl ?_
                  refine J_bipush hC dX5_usesPair_58 (v := 117) (by decide) ?_
                  refine J_iast hC a0.a22 (j := b) (nI_toInt (by omega)) (Nat.lt_of_lt_of_eq (by omega) a0.l22.symm) dX5_usesPair_60 ?_
                  refine J_aload_n hC dX5_usesPair_61 rfl rfl ?_
                  refine J_get6 hC lf_X5_50 (j := 23) a0.t (v := rv (mR M m 23)) rfl dX5_usesPair_62 ?_
                  refine J_iload_n hC dX5_usesPair_65 rfl rfl ?_
                  refine J_iload_n hC dX5_usesPair_66 rfl rfl ?_
                  refine J_iast hC a0.a23 (j := s) (nI_toInt (by omega)) (Nat.lt_of_lt_of_eq (by omega) a0.l23.symm) dX5_usesPair_67 ?_
                  refine J_aload_n hC dX5_usesPair_68 rfl rfl ?_
                  refine J_get6 hC lf_X5_50 (j := 23) a0.t (v := rv (mR M m 23)) rfl dX5_usesPair_69 ?_
                  refine J_iload_n hC dX5_usesPair_72 rfl rfl ?_
                  refine J_iload_n hC dX5_usesPair_73 rfl rfl ?_
                  refine J_iast hC a0.a23 (j := b) (nI_toInt (by omega)) (Nat.lt_of_lt_of_eq (by omega) a0.l23.symm) dX5_usesPair_74 ?_
                  refine J_aload_n hC dX5_usesPair_75 rfl rfl ?_
                  refine J_iload_n hC dX5_usesPair_76 rfl rfl ?_
                  refine J_aload_n hC dX5_usesPair_77 rfl rfl ?_
                  refine J_get6 hC lf_X5_44 (j := 21) a0.t (v := rv (mR M m 21)) rfl dX5_usesPair_78 ?_
                  refine J_iload_n hC dX5_usesPair_81 rfl rfl ?_
                  refine J_iald hC a0.a21 (j := s) (nI_toInt (by omega)) (Nat.lt_of_lt_of_eq (by omega) a0.l21.symm) dX5_usesPair_82 ?_
                  rw [show mI (pI (pI (pI (pI M (mR M m 22) s 117) (mR M m 22) b 117) (mR M m 23) s (nI b)) (mR M m 23) b (nI s)) (mR M m 21) s = sO S s 4 from ((up2_b _ _ _ _ (a0.ap (by decide) (by decide) (by decide) (by decide) (by decide)) : mI (pI (pI (pI (pI M (mR M m 22) s 117) (mR M m 22) b 117) (mR M m 23) s (nI b)) (mR M m 23) b (nI s)) (mR M m 21) s = mI (pI (pI (pI M (mR M m 22) s 117) (mR M m 22) b 117) (mR M m 23) s (nI b)) (mR M m 21) s).trans ((up2_b _ _ _ _ (a0.ap (by decide) (by decide) (by decide) (by decide) (by decide)) : mI (pI (pI (pI M (mR M m 22) s 117) (mR M m 22) b 117) (mR M m 23) s (nI b)) (mR M m 21) s = mI (pI (pI M (mR M m 22) s 117) (mR M m 22) b 117) (mR M m 21) s).trans ((up2_b _ _ _ _ (a0.ap (by decide) (by decide) (by decide) (by decide) (by decide)) : mI (pI (pI M (mR M m 22) s 117) (mR M m 22) b 117) (mR M m 21) s = mI (pI M (mR M m 22) s 117) (mR M m 21) s).trans ((up2_b _ _ _ _ (a0.ap (by decide) (by decide) (by decide) (by decide) (by decide)) : mI (pI M (mR M m 22) s 117) (mR M m 21) s = mI M (mR M m 21) s).trans (show mI M (mR M m 21) s = sO S s 4 from a1.n4 _ hls)))))]
                  refine J_aload_n hC dX5_usesPair_83 rfl rfl ?_
                  refine J_get6 hC lf_X5_38 (j := 19) a0.t (v := rv (mR M m 19)) rfl dX5_usesPair_84 ?_
                  refine J_iload_n hC dX5_usesPair_87 rfl rfl ?_
                  refine J_iald hC a0.a19 (j := s) (nI_toInt (by omega)) (Nat.lt_of_lt_of_eq (by omega) a0.l19.symm) dX5_usesPair_88 ?_
                  rw [show mI (pI (pI (pI (pI M (mR M m 22) s 117) (mR M m 22) b 117) (mR M m 23) s (nI b)) (mR M m 23) b (nI s)) (mR M m 19) s = sO S s 3 from ((up2_b _ _ _ _ (a0.ap (by decide) (by decide) (by decide) (by decide) (by decide)) : mI (pI (pI (pI (pI M (mR M m 22) s 117) (mR M m 22) b 117) (mR M m 23) s (nI b)) (mR M m 23) b (nI s)) (mR M m 19) s = mI (pI (pI (pI M (mR M m 22) s 117) (mR M m 22) b 117) (mR M m 23) s (nI b)) (mR M m 19) s).trans ((up2_b _ _ _ _ (a0.ap (by decide) (by decide) (by decide) (by decide) (by decide)) : mI (pI (pI (pI M (mR M m 22) s 117) (mR M m 22) b 117) (mR M m 23) s (nI b)) (mR M m 19) s = mI (pI (pI M (mR M m 22) s 117) (mR M m 22) b 117) (mR M m 19) s).trans ((up2_b _ _ _ _ (a0.ap (by decide) (by decide) (by decide) (by decide) (by decide)) : mI (pI (pI M (mR M m 22) s 117) (mR M m 22) b 117) (mR M m 19) s = mI (pI M (mR M m 22) s 117) (mR M m 19) s).trans ((up2_b _ _ _ _ (a0.ap (by decide) (by decide) (by decide) (by decide) (by decide)) : mI (pI M (mR M m 22) s 117) (mR M m 19) s = mI M (mR M m 19) s).trans (show mI M (mR M m 19) s = sO S s 3 from a1.n3 _ hls)))))]
                  refine J_callV (k1 := 0) (n1 := 0) (kd := 6) [.int v, .int (sO S s 4), .int (sO S s 3)] [.int (sO S s 3), .int (sO S s 4), .int v, rv m] hC lv_X5_132 (ct_X5_passesOn hst (M := (pI (pI (pI (pI M (mR M m 22) s 117) (mR M m 22) b 117) (mR M m 23) s (nI b)) (mR M m 23) b (nI s))) a0 (n := nP) ((up2_b _ _ _ _ (a0.ne (by decide) (by decide)) : mI (pI (pI (pI (pI M (mR M m 22) s 117) (mR M m 22) b 117) (mR M m 23) s (nI b)) (mR M m 23) b (nI s)) m 6 = mI (pI (pI (pI M (mR M m 22) s 117) (mR M m 22) b 117) (mR M m 23) s (nI b)) m 6).trans ((up2_b _ _ _ _ (a0.ne (by decide) (by decide)) : mI (pI (pI (pI M (mR M m 22) s 117) (mR M m 22) b 117) (mR M m 23) s (nI b)) m 6 = mI (pI (pI M (mR M m 22) s 117) (mR M m 22) b 117) m 6).trans ((up2_b _ _ _ _ (a0.ne (by decide) (by decide)) : mI (pI (pI M (mR M m 22) s 117) (mR M m 22) b 117) m 6 = mI (pI M (mR M m 22) s 117) m 6).trans ((up2_b _ _ _ _ (a0.ne (by decide) (by decide)) : mI (pI M (mR M m 22) s 117) m 6 = mI M m 6).trans a1.s6)))) (by omega) v (sO S s 4) (sO S s 3)) a0.t (by decide) ⟨_, mE_6 a0.t⟩ rfl rfl rfl (by simp only [List.map_cons, List.map_nil, rv_cat, Value.category, List.sum_cons, List.sum_nil]; decide) (by decide) rfl rfl (by decide) (by decide) dX5_usesPair_89 (fun E M9 h => h.elim) (fun v9 M9 hq9 => ?_)
                  obtain ⟨rfl, rfl⟩ := hq9
                  refine J_iconst hC dX5_usesPair_92 (v := 1) (by decide) ?_
                  refine J_zret hC (by decide) (by decide) (by decide) dX5_usesPair_93 ?_
                  have hfr : fitR S s b = true := bz_ne0 c39
                  obtain ⟨q1, q2, q3⟩ : fitS S (ix v) s = true ∧ fitB S s b = true ∧ blk S (ix v) = false := by
                    rw [fitR_eq (v := ix v) (by omega) (by rw [← hvn]; exact c17')] at hfr
                    simp only [Bool.and_eq_true, Bool.not_eq_true'] at hfr
                    exact ⟨hfr.1.1, hfr.1.2, hfr.2⟩
                  refine Or.inr ⟨_, step_yes (by omega) hA hls (by rw [← hvn]; exact c17') hB hlb (bz_ne0 c39), rfl, ⟨a0, _, _, _, MA1.of_v (Vw.sc (M := (pI (pI (pI (pI (pI (pI (pI M (mR M m 22) s 117) (mR M m 22) b 117) (mR M m 23) s (nI b)) (mR M m 23) b (nI s)) (mR M m 15) nP v) (mR M m 16) nP (sO S s 4)) (mR M m 17) nP (sO S s 3))) a0 (Vw.arr (M := (pI (pI (pI (pI (pI (pI M (mR M m 22) s 117) (mR M m 22) b 117) (mR M m 23) s (nI b)) (mR M m 23) b (nI s)) (mR M m 15) nP v) (mR M m 16) nP (sO S s 4))) a0 (Vw.arr (M := (pI (pI (pI (pI (pI M (mR M m 22) s 117) (mR M m 22) b 117) (mR M m 23) s (nI b)) (mR M m 23) b (nI s)) (mR M m 15) nP v)) a0 (Vw.arr (M := (pI (pI (pI (pI M (mR M m 22) s 117) (mR M m 22) b 117) (mR M m 23) s (nI b)) (mR M m 23) b (nI s))) a0 (Vw.arr (M := (pI (pI (pI M (mR M m 22) s 117) (mR M m 22) b 117) (mR M m 23) s (nI b))) a0 (Vw.arr (M := (pI (pI M (mR M m 22) s 117) (mR M m 22) b 117)) a0 (Vw.arr (M := (pI M (mR M m 22) s 117)) a0 (Vw.arr (M := M) a0 (Vw.rf M m) 22 (by decide) (by decide) s 117) 22 (by decide) (by decide) b 117) 23 (by decide) (by decide) s (nI b)) 23 (by decide) (by decide) b (nI s)) 15 (by decide) (by decide) nP v) 16 (by decide) (by decide) nP (sO S s 4)) 17 (by decide) (by decide) nP (sO S s 3)) 6 (nI (nP + 1))) (by
                    have h9 := MA1v.use (v := ix v) a1.v hvx hls hlb (fit_ne hI hvx q1 q2) (fitS_of q1).1 (fitB_of q2).2.1
                    rw [← hvn] at h9
                    exact h9), bR, bS, bt⟩, (Fr.trans (Fr.trans (Fr.trans (Fr.trans (Fr.trans (Fr.trans (Fr.trans (Fr.trans (Fr.rf pM M) (Fr.pI (a0.fa (by decide) (by decide)))) (Fr.pI (a0.fa (by decide) (by decide)))) (Fr.pI (a0.fa (by decide) (by decide)))) (Fr.pI (a0.fa (by decide) (by decide)))) (Fr.pI (a0.fa (by decide) (by decide)))) (Fr.pI (a0.fa (by decide) (by decide)))) (Fr.pI (a0.fa (by decide) (by decide)))) (Fr.pI (a0.fm))), ((up2_k _ _ _ (by decide)).trans ((up2_b _ _ _ _ (a0.ne (by decide) (by decide))).trans ((up2_b _ _ _ _ (a0.ne (by decide) (by decide))).trans ((up2_b _ _ _ _ (a0.ne (by decide) (by decide))).trans ((up2_b _ _ _ _ (a0.ne (by decide) (by decide))).trans ((up2_b _ _ _ _ (a0.ne (by decide) (by decide))).trans ((up2_b _ _ _ _ (a0.ne (by decide) (by decide))).trans ((up2_b _ _ _ _ (a0.ne (by decide) (by decide))).trans rfl))))))))⟩
                · refine J_goto hC dX5_usesPair_42 (tgt := 94) (by decide) ?_
                  refine J_iinc hC dX5_usesPair_94 (by decide) rfl (v := nI (b + 1)) (nI_1 _) (ls1 := [some (rv m), some (.int v), some (.int (nI s)), some (.int (nI (b + 1)))]) rfl ?_
                  refine J_goto hC dX5_usesPair_97 (tgt := 25) (by decide) ?_
                  exact ih (b + 1) (by omega) (by omega) (fun k hk => by
                    by_cases e : k = b
                    · subst e; exact bz_eq0 (nn c39)
                    · exact hB k (by omega))
          exact L25 (sN S 3 + 1) 0 (by omega) (Nat.zero_le _) (fun k hk => absurd hk (Nat.not_lt_zero _))
        · 
          refine J_goto hC dX5_usesPair_20 (tgt := 100) (by decide) ?_
          refine J_iinc hC dX5_usesPair_100 (by decide) rfl (v := nI (s + 1)) (nI_1 _) (ls1 := [some (rv m), some (.int v), some (.int (nI (s + 1)))]) rfl ?_
          refine J_goto hC dX5_usesPair_103 (tgt := 2) (by decide) ?_
          exact ihO (s + 1) (by omega) (by omega) (fun k hk hk2 => by
            by_cases e : k = s
            · subst e
              first | exact absurd (hk2.trans hvn.symm) c17 | (intro b hb; exact hB b (by omega))
            · exact hA k (by omega) hk2)
  exact L2 (sN S 3 + 1) 0 (by omega) (Nat.zero_le _) (fun k hk => absurd hk (Nat.not_lt_zero _))
theorem ct_X5_crosses {G : Gt} {l : Launch} (hst : l.stackTraces = false) {M : Mm} {m : Nat} {S : St} {t : Nat} (hM : MAt M m S t) (hI : Inv S t) (v : Int32) (hv : isIx v (sN S 1) = true) : Ct G l yX5_crosses cX5_crosses 3 none 5 M [rv m, .int v] 0 0 (fun r9 M9 => r9 = none ∧ MAt M9 m (settleQ 120 S (ix v)) t ∧ Fr pM M M9 ∧ mI M9 m 0 = mI M m 0) (noX) := by
  obtain ⟨a0, nP, nR, nS, a1, bR, bS, bt⟩ := id hM
  have bPs := a1.bPs; have bK := a1.bK; have bV := a1.bV; have bPl := a1.bP; have bN := a1.bN
  refine Ct_intro (own := RX5) (nm := "crosses") (by decide +kernel) rfl rfl hst (fun w hw => by simp only [List.mem_cons, List.not_mem_nil, or_false] at hw; rcases hw with rfl | rfl <;> first | rfl | exact rv_cat _) (Nat.le_of_ble_eq_true rfl) (fun γ hC => ?_)
  show J G γ M 0 [some (rv m), some (.int v)] [] 0 0
  refine J_iconst hC dX5_crosses_0 (v := 1) (by decide) ?_
  refine J_istore_n hC dX5_crosses_1 rfl (by decide) (ls1 := [some (rv m), some (.int v), some (.int 1)]) rfl ?_
  have L2 : ∀ (n9 : Nat) (k e : Nat) (M1 : Mm) (S1 : St) (z : Int32), k + e < n9 → (MAt M1 m S1 t) → (Inv S1 t) → (Fr pM M M1) → (mI M1 m 0 = mI M m 0) → (cnt (fun i => decide (sO S1 i 5 = 111)) (sN S1 3) ≤ k ∧ sN S1 = sN S) → (settleQ 120 S (ix v) = settleQ k S1 (ix v)) → (z = nI e) → (e ≤ 1) → (z = 0 → stepQ S1 (ix v) = none) → J G γ M1 2 [some (rv m), some (.int v), some (.int z)] [] 0 0 := by
    intro n9
    induction n9 with
    | zero => intro k e M1 S1 z h9; exact absurd h9 (Nat.not_lt_zero _)
    | succ n9 ih =>
      intro k e M1 S1 z h9 hM1 hI1 hF1 hT1 hkk he hz he1 hzz
      obtain ⟨hk, hNS⟩ := hkk
      have b0 := hM1.1
      have hv1 : ix v < sN S1 1 := by rw [hNS]; exact (isIx_ix hv).2
      refine J_iload_n hC dX5_crosses_2 rfl rfl ?_
      refine J_if_eq hC dX5_crosses_3 (tgt := 15) (by decide) (fun c3 => ?_) (fun c3 => ?_)
      · refine J_vret hC (by decide) (by decide) dX5_crosses_15 ?_
        rw [he, settle_none (hzz c3)]
        exact ⟨rfl, hM1, hF1, hT1⟩
      · have he0 : e = 1 := by
          rcases Nat.lt_or_ge e 1 with h | h
          · exact absurd (show z = 0 by rw [hz, show e = 0 by omega]; rfl) c3
          · omega
        refine J_aload_n hC dX5_crosses_6 rfl rfl ?_
        refine J_iload_n hC dX5_crosses_7 rfl rfl ?_
        refine J_callV (k1 := 0) (n1 := 0) (kd := 6) [.int v] [.int v, rv m] hC lv_X5_172 (ct_X5_usesPair hst hM1 hI1 v (by rw [hNS]; exact hv)) b0.t (by decide) ⟨_, mE_6 b0.t⟩ rfl rfl rfl (by simp only [List.map_cons, List.map_nil, rv_cat, Value.category, List.sum_cons, List.sum_nil]; decide) (by decide) rfl rfl (by decide) (by decide) dX5_crosses_8 (fun E M9 h => h.elim) (fun v9 M9 hq9 => ?_)
        rcases hq9 with ⟨h1, rfl, e9⟩ | ⟨S2, h1, rfl, hM2, hF2, hT2⟩
        · rw [e9]; clear e9
          refine J_istore_n hC dX5_crosses_11 rfl (by decide) (ls1 := [some (rv m), some (.int v), some (.int 0)]) rfl ?_
          refine J_goto hC dX5_crosses_12 (tgt := 2) (by decide) ?_
          exact ih k 0 M1 S1 0 (by omega) hM1 hI1 hF1 hT1 ⟨hk, hNS⟩ he rfl (by decide) (fun _ => h1)
        · refine J_istore_n hC dX5_crosses_11 rfl (by decide) (ls1 := [some (rv m), some (.int v), some (.int 1)]) rfl ?_
          refine J_goto hC dX5_crosses_12 (tgt := 2) (by decide) ?_
          obtain ⟨hI2, hN2, hc2⟩ := Inv.step hI1 hv1 h1
          obtain ⟨k2, rfl⟩ : ∃ k2, k = k2 + 1 := ⟨k - 1, by omega⟩
          exact ih k2 1 M9 S2 1 (by omega) hM2 hI2 (hF1.trans hF2) (hT2.trans hT1) ⟨by rw [hN2]; omega, hN2.trans hNS⟩ (he.trans (settle_some h1 _)) rfl (by decide) (fun q => absurd q (by decide))
  exact L2 122 120 1 M S 1 (by omega) hM hI (Fr.rf _ _) rfl ⟨Nat.le_trans (cnt_le _ _) hI.bN, rfl⟩ rfl rfl (by decide) (fun q => absurd q (by decide))
