theorem up2_va (f : Nat → Nat → Int32) (b k : Nat) (v : Int32) : up2 f b k v b = va_up (f b) k v := by funext j; simp [up2, va_up]
theorem up2_vT (f : Nat → Nat → Tl) (b k : Nat) (v : Tl) : up2 f b k v b = va_up (f b) k v := by funext j; simp [up2, va_up]
/-- what a change of the reference makes of its memory -/
def Mu (M : Mm) (m : Nat) (S : St) (r s : Nat) (M1 : Mm) : Prop := MAw M1 m S r s ∧ Fr pM M M1 ∧ mI M1 m 0 = mI M m 0
theorem Mu.trans {M M1 M2 : Mm} {m : Nat} {S S2 : St} {r s r2 s2 : Nat} (h : Mu M m S r s M1) (h2 : Mu M1 m S2 r2 s2 M2) : Mu M m S2 r2 s2 M2 := ⟨h2.1, h.2.1.trans h2.2.1, h2.2.2.trans h.2.2⟩
theorem MA1v.road {sc : Nat → Int32} {c9 : Int64} {ar : Nat → Nat → Int32} {S : St} {nP nR nS : Nat} (h : MA1v sc c9 ar S nP nR nS) {v x : Int32} {a n1 : Nat} (hv : isIx v (sN S 1) = true) (hA : atRow (ar 24) (ar 25) v (sD S) nR a nR) (hn : n1 = if a = nR then nR + 1 else nR) (hle : ∀ e ∈ sT S 2 (ix v), e.1 ≤ sD S) (hp : (sT S 2 (ix v)).Pairwise (fun a b => a.1 ≤ b.1)) (hx : x = 0 ∨ x = 1) : MA1v (va_up sc 7 (nI n1)) c9 (up2 (up2 (up2 ar 24 a v) 25 a (sD S)) 26 a x) (uT S 2 (ix v) (setT (sT S 2 (ix v)) (sD S) x)) nP n1 nS := by
  have hvn := isIx_nI hv
  have hvx := (isIx_ix hv).2
  have h0 : sq (ar 24) (ar 25) (ar 26) v nR = sT S 2 (ix v) := by (have h9 := h.q2 _ hvx; rw [← hvn] at h9; exact h9)
  obtain ⟨g1, g2, g3, g4, g5⟩ := atRow_set (X := ar 26) (x := x) hA hn (by rw [h0]; exact hle) (by rw [h0]; exact hp)
  have e1 : (up2 (up2 (up2 ar 24 a v) 25 a (sD S)) 26 a x) 24 = va_up (ar 24) a v := by rw [up2_row _ _ _ (by decide), up2_row _ _ _ (by decide), up2_va]
  have e2 : (up2 (up2 (up2 ar 24 a v) 25 a (sD S)) 26 a x) 25 = va_up (ar 25) a (sD S) := by rw [up2_row _ _ _ (by decide), up2_va, up2_row _ _ _ (by decide)]
  have e3 : (up2 (up2 (up2 ar 24 a v) 25 a (sD S)) 26 a x) 26 = va_up (ar 26) a x := by rw [up2_va, up2_row _ _ _ (by decide), up2_row _ _ _ (by decide)]
  have hq : ∀ u, u < sN S 1 → sq ((up2 (up2 (up2 ar 24 a v) 25 a (sD S)) 26 a x) 24) ((up2 (up2 (up2 ar 24 a v) 25 a (sD S)) 26 a x) 25) ((up2 (up2 (up2 ar 24 a v) 25 a (sD S)) 26 a x) 26) (nI u) n1 = up2 (sT S) 2 (ix v) (setT (sT S 2 (ix v)) (sD S) x) 2 u := by
    intro u hu
    rw [e1, e2, e3, up2_vT]
    have bV := h.bV
    by_cases e : u = ix v
    · subst e; rw [va_up_self, ← hvn, g1, h0]
    · rw [va_up_ne _ _ e, g2 _ (fun q => e (by rw [q, ix_nI (by omega)])), h.q2 _ hu]
  have hr : ∀ j, j < n1 → isIx ((up2 (up2 (up2 ar 24 a v) 25 a (sD S)) 26 a x) 24 j) (sN S 1) = true := by
    intro j hj
    rw [e1]
    rcases g4 j hj with e | ⟨e, f⟩
    · rw [e]; exact hv
    · rw [f]; exact h.r2 j e
  have hb : ∀ j, j < n1 → (up2 (up2 (up2 ar 24 a v) 25 a (sD S)) 26 a x) 26 j = 0 ∨ (up2 (up2 (up2 ar 24 a v) 25 a (sD S)) 26 a x) 26 j = 1 := by
    intro j hj
    rw [e3]
    rcases g5 j hj with e | ⟨e, f⟩
    · rw [e]; exact hx
    · rw [f]; exact h.rb j e
  exact ⟨h.s1, h.s2, h.s3, h.s4, h.s5, h.s6, va_up_self _ _ _, h.s8, h.s9, h.paid, h.kind, h.scr, h.adm, h.lien, h.lien0, h.scr0, h.q0, h.q1, hq, h.r0, h.r1, hr, hb, h.n1, h.n2, h.n3, h.n4, h.n5, h.n6, h.p0, h.p1, h.p2, h.sc, h.ad, h.cu, h.bK, h.bV, h.bP, h.bN, h.bD⟩
theorem MA1v.sign {sc : Nat → Int32} {c9 : Int64} {ar : Nat → Nat → Int32} {S : St} {nP nR nS : Nat} (h : MA1v sc c9 ar S nP nR nS) {v x : Int32} {a n1 : Nat} (hv : isIx v (sN S 1) = true) (hA : atRow (ar 27) (ar 28) v (sD S) nS a nS) (hn : n1 = if a = nS then nS + 1 else nS) (hle : ∀ e ∈ sT S 1 (ix v), e.1 ≤ sD S) (hp : (sT S 1 (ix v)).Pairwise (fun a b => a.1 ≤ b.1)) : MA1v (va_up sc 8 (nI n1)) c9 (up2 (up2 (up2 ar 27 a v) 28 a (sD S)) 29 a x) (uT S 1 (ix v) (setT (sT S 1 (ix v)) (sD S) x)) nP nR n1 := by
  have hvn := isIx_nI hv
  have hvx := (isIx_ix hv).2
  have h0 : sq (ar 27) (ar 28) (ar 29) v nS = sT S 1 (ix v) := by (have h9 := h.q1 _ hvx; rw [← hvn] at h9; exact h9)
  obtain ⟨g1, g2, g3, g4, g5⟩ := atRow_set (X := ar 29) (x := x) hA hn (by rw [h0]; exact hle) (by rw [h0]; exact hp)
  have e1 : (up2 (up2 (up2 ar 27 a v) 28 a (sD S)) 29 a x) 27 = va_up (ar 27) a v := by rw [up2_row _ _ _ (by decide), up2_row _ _ _ (by decide), up2_va]
  have e2 : (up2 (up2 (up2 ar 27 a v) 28 a (sD S)) 29 a x) 28 = va_up (ar 28) a (sD S) := by rw [up2_row _ _ _ (by decide), up2_va, up2_row _ _ _ (by decide)]
  have e3 : (up2 (up2 (up2 ar 27 a v) 28 a (sD S)) 29 a x) 29 = va_up (ar 29) a x := by rw [up2_va, up2_row _ _ _ (by decide), up2_row _ _ _ (by decide)]
  have hq : ∀ u, u < sN S 1 → sq ((up2 (up2 (up2 ar 27 a v) 28 a (sD S)) 29 a x) 27) ((up2 (up2 (up2 ar 27 a v) 28 a (sD S)) 29 a x) 28) ((up2 (up2 (up2 ar 27 a v) 28 a (sD S)) 29 a x) 29) (nI u) n1 = up2 (sT S) 1 (ix v) (setT (sT S 1 (ix v)) (sD S) x) 1 u := by
    intro u hu
    rw [e1, e2, e3, up2_vT]
    have bV := h.bV
    by_cases e : u = ix v
    · subst e; rw [va_up_self, ← hvn, g1, h0]
    · rw [va_up_ne _ _ e, g2 _ (fun q => e (by rw [q, ix_nI (by omega)])), h.q1 _ hu]
  have hr : ∀ j, j < n1 → isIx ((up2 (up2 (up2 ar 27 a v) 28 a (sD S)) 29 a x) 27 j) (sN S 1) = true := by
    intro j hj
    rw [e1]
    rcases g4 j hj with e | ⟨e, f⟩
    · rw [e]; exact hv
    · rw [f]; exact h.r1 j e
  exact ⟨h.s1, h.s2, h.s3, h.s4, h.s5, h.s6, h.s7, va_up_self _ _ _, h.s9, h.paid, h.kind, h.scr, h.adm, h.lien, h.lien0, h.scr0, h.q0, hq, h.q2, h.r0, hr, h.r2, h.rb, h.n1, h.n2, h.n3, h.n4, h.n5, h.n6, h.p0, h.p1, h.p2, h.sc, h.ad, h.cu, h.bK, h.bV, h.bP, h.bN, h.bD⟩
theorem ct_X5_setsRoad {G : Gt} {l : Launch} (hst : l.stackTraces = false) {M : Mm} {m : Nat} {S : St} {r s : Nat} (hM : MAw M m S r s) (v x : Int32) (hv : isIx v (sN S 1) = true) (hle : ∀ e ∈ sT S 2 (ix v), e.1 ≤ sD S) (hp : (sT S 2 (ix v)).Pairwise (fun a b => a.1 ≤ b.1)) (hb : r < 520) (hx : x = 0 ∨ x = 1) : Ct G l yX5_setsRoad cX5_setsRoad 5 none 1 M [rv m, .int v, .int x] 0 0 (fun r9 M9 => r9 = none ∧ Mu M m (uT S 2 (ix v) (setT (sT S 2 (ix v)) (sD S) x)) (r + 1) s M9) (noX) := by
  obtain ⟨a0, nP, nR, nS, a1, bR, bS⟩ := id hM
  have bPs := a1.bPs; have bK := a1.bK; have bV := a1.bV; have bPl := a1.bP; have bN := a1.bN
  refine Ct_intro (own := RX5) (nm := "setsRoad") (by decide +kernel) rfl rfl hst (fun w hw => by simp only [List.mem_cons, List.not_mem_nil, or_false] at hw; rcases hw with rfl | rfl | rfl <;> first | rfl | exact rv_cat _) (Nat.le_of_ble_eq_true rfl) (fun γ hC => ?_)
  show J G γ M 0 [some (rv m), some (.int v), some (.int x)] [] 0 0
  refine J_aload_n hC dX5_setsRoad_0 rfl rfl ?_
  refine J_get6 hC lf_X5_100 (j := 7) a0.t (v := .int (nI nR)) (congrArg (fun z => some (Value.int z)) a1.s7) dX5_setsRoad_1 ?_
  refine J_istore_n hC dX5_setsRoad_4 rfl (by decide) (ls1 := [some (rv m), some (.int v), some (.int x), some (.int (nI nR))]) rfl ?_
  refine J_iconst hC dX5_setsRoad_5 (v := 0) (by decide) ?_
  refine J_istore hC dX5_setsRoad_6 (by decide) (ls1 := [some (rv m), some (.int v), some (.int x), some (.int (nI nR)), some (.int 0)]) rfl ?_
  have L8 : ∀ (n9 : Nat) (j a : Nat), nR - j < n9 → (j ≤ nR) → (atRow (ma M m 24) (ma M m 25) v (sD S) nR a j) → J G γ M 8 [some (rv m), some (.int v), some (.int x), some (.int (nI a)), some (.int (nI j))] [] 0 0 := by
    intro n9
    induction n9 with
    | zero => intro j a h9; exact absurd h9 (Nat.not_lt_zero _)
    | succ n9 ih =>
      intro j a h9 hj hA
      refine J_iload hC dX5_setsRoad_8 rfl ?_
      refine J_aload_n hC dX5_setsRoad_10 rfl rfl ?_
      refine J_get6 hC lf_X5_100 (j := 7) a0.t (v := .int (nI nR)) (congrArg (fun z => some (Value.int z)) a1.s7) dX5_setsRoad_11 ?_
      refine J_icmp_ge hC dX5_setsRoad_14 (tgt := 51) (by decide) (fun c14 => ?_) (fun c14 => ?_)
      · have hge := le_nI (by omega) (by omega) c14
        have hjj : j = nR := by omega
        rw [hjj] at hA
        have hal := atRow_le hA (Nat.le_refl _)
        refine J_aload_n hC dX5_setsRoad_51 rfl rfl ?_
        refine J_get6 hC lf_X5_53 (j := 24) a0.t (v := rv (mR M m 24)) rfl dX5_setsRoad_52 ?_
        refine J_iload_n hC dX5_setsRoad_55 rfl rfl ?_
        refine J_iload_n hC dX5_setsRoad_56 rfl rfl ?_
        refine J_iast hC a0.a24 (j := a) (nI_toInt (by omega)) (by rw [a0.l24]; omega) dX5_setsRoad_57 ?_
        refine J_aload_n hC dX5_setsRoad_58 rfl rfl ?_
        refine J_get6 hC lf_X5_56 (j := 25) a0.t (v := rv (mR M m 25)) rfl dX5_setsRoad_59 ?_
        refine J_iload_n hC dX5_setsRoad_62 rfl rfl ?_
        refine J_aload_n hC dX5_setsRoad_63 rfl rfl ?_
        refine J_get6 hC lf_X5_97 (j := 5) a0.t (v := .int (sD S)) (congrArg (fun z => some (Value.int z)) ((up2_b _ _ _ _ (a0.ne (by decide) (by decide)) : mI (pI M (mR M m 24) a v) m 5 = mI M m 5).trans a1.s5)) dX5_setsRoad_64 ?_
        refine J_iast hC a0.a25 (j := a) (nI_toInt (by omega)) (Nat.lt_of_lt_of_eq (by omega) a0.l25.symm) dX5_setsRoad_67 ?_
        refine J_aload_n hC dX5_setsRoad_68 rfl rfl ?_
        refine J_get6 hC lf_X5_59 (j := 26) a0.t (v := rv (mR M m 26)) rfl dX5_setsRoad_69 ?_
        refine J_iload_n hC dX5_setsRoad_72 rfl rfl ?_
        refine J_iload_n hC dX5_setsRoad_73 rfl rfl ?_
        refine J_zast hC a0.a26 (j := a) (nI_toInt (by omega)) (Nat.lt_of_lt_of_eq (by omega) a0.l26.symm) hx dX5_setsRoad_74 ?_
        refine J_aload_n hC dX5_setsRoad_75 rfl rfl ?_
        refine J_dup hC dX5_setsRoad_76 (rv_cat _) ?_
        refine J_get6 hC lf_X5_100 (j := 7) a0.t (v := .int (nI nR)) (congrArg (fun z => some (Value.int z)) ((up2_b _ _ _ _ (a0.ne (by decide) (by decide)) : mI (pI (pI (pI M (mR M m 24) a v) (mR M m 25) a (sD S)) (mR M m 26) a x) m 7 = mI (pI (pI M (mR M m 24) a v) (mR M m 25) a (sD S)) m 7).trans ((up2_b _ _ _ _ (a0.ne (by decide) (by decide)) : mI (pI (pI M (mR M m 24) a v) (mR M m 25) a (sD S)) m 7 = mI (pI M (mR M m 24) a v) m 7).trans ((up2_b _ _ _ _ (a0.ne (by decide) (by decide)) : mI (pI M (mR M m 24) a v) m 7 = mI M m 7).trans a1.s7)))) dX5_setsRoad_77 ?_
        refine J_iload_n hC dX5_setsRoad_80 rfl rfl ?_
        refine J_aload_n hC dX5_setsRoad_81 rfl rfl ?_
        refine J_get6 hC lf_X5_100 (j := 7) a0.t (v := .int (nI nR)) (congrArg (fun z => some (Value.int z)) ((up2_b _ _ _ _ (a0.ne (by decide) (by decide)) : mI (pI (pI (pI M (mR M m 24) a v) (mR M m 25) a (sD S)) (mR M m 26) a x) m 7 = mI (pI (pI M (mR M m 24) a v) (mR M m 25) a (sD S)) m 7).trans ((up2_b _ _ _ _ (a0.ne (by decide) (by decide)) : mI (pI (pI M (mR M m 24) a v) (mR M m 25) a (sD S)) m 7 = mI (pI M (mR M m 24) a v) m 7).trans ((up2_b _ _ _ _ (a0.ne (by decide) (by decide)) : mI (pI M (mR M m 24) a v) m 7 = mI M m 7).trans a1.s7)))) dX5_setsRoad_82 ?_
        refine J_icmp_ne hC dX5_setsRoad_85 (tgt := 92) (by decide) (fun c85 => ?_) (fun c85 => ?_)
        · refine J_iconst hC dX5_setsRoad_92 (v := 0) (by decide) ?_
          refine J_iadd hC dX5_setsRoad_93 ?_
          refine J_put6_7 hC lf_X5_100 a0.t dX5_setsRoad_94 ?_
          refine J_vret hC (by decide) (by decide) dX5_setsRoad_97 ?_
          obtain ⟨n1, hn1, hv1⟩ : ∃ n1, (n1 = if a = nR then nR + 1 else nR) ∧ ((nI nR) + 0) = nI n1 := ⟨_, rfl, by first | (rw [if_pos (nI_inj (by omega) (by omega) (nn c85)), nI_1]) | (rw [if_neg (fun e => c85 (by rw [e])), nI_a0])⟩
          have hn2 : n1 ≤ nR + 1 := by (split at hn1 <;> omega)
          rw [hv1]
          exact ⟨rfl, ⟨a0, _, _, _, MA1.of_v (Vw.sc (M := (pI (pI (pI M (mR M m 24) a v) (mR M m 25) a (sD S)) (mR M m 26) a x)) a0 (Vw.arr (M := (pI (pI M (mR M m 24) a v) (mR M m 25) a (sD S))) a0 (Vw.arr (M := (pI M (mR M m 24) a v)) a0 (Vw.arr (M := M) a0 (Vw.rf M m) 24 (by decide) (by decide) a v) 25 (by decide) (by decide) a (sD S)) 26 (by decide) (by decide) a x) 7 (nI n1)) (MA1v.road a1.v hv hA hn1 hle hp hx), by omega, by omega⟩, (Fr.trans (Fr.trans (Fr.trans (Fr.trans (Fr.rf pM M) (Fr.pI (a0.fa (by decide) (by decide)))) (Fr.pI (a0.fa (by decide) (by decide)))) (Fr.pI (a0.fa (by decide) (by decide)))) (Fr.pI (a0.fm))), ((up2_k _ _ _ (by decide)).trans ((up2_b _ _ _ _ (a0.ne (by decide) (by decide))).trans ((up2_b _ _ _ _ (a0.ne (by decide) (by decide))).trans ((up2_b _ _ _ _ (a0.ne (by decide) (by decide))).trans rfl))))⟩
        · refine J_iconst hC dX5_setsRoad_88 (v := 1) (by decide) ?_
          refine J_goto hC dX5_setsRoad_89 (tgt := 93) (by decide) ?_
          refine J_iadd hC dX5_setsRoad_93 ?_
          refine J_put6_7 hC lf_X5_100 a0.t dX5_setsRoad_94 ?_
          refine J_vret hC (by decide) (by decide) dX5_setsRoad_97 ?_
          obtain ⟨n1, hn1, hv1⟩ : ∃ n1, (n1 = if a = nR then nR + 1 else nR) ∧ ((nI nR) + 1) = nI n1 := ⟨_, rfl, by first | (rw [if_pos (nI_inj (by omega) (by omega) (nn c85)), nI_1]) | (rw [if_neg (fun e => c85 (by rw [e])), nI_a0])⟩
          have hn2 : n1 ≤ nR + 1 := by (split at hn1 <;> omega)
          rw [hv1]
          exact ⟨rfl, ⟨a0, _, _, _, MA1.of_v (Vw.sc (M := (pI (pI (pI M (mR M m 24) a v) (mR M m 25) a (sD S)) (mR M m 26) a x)) a0 (Vw.arr (M := (pI (pI M (mR M m 24) a v) (mR M m 25) a (sD S))) a0 (Vw.arr (M := (pI M (mR M m 24) a v)) a0 (Vw.arr (M := M) a0 (Vw.rf M m) 24 (by decide) (by decide) a v) 25 (by decide) (by decide) a (sD S)) 26 (by decide) (by decide) a x) 7 (nI n1)) (MA1v.road a1.v hv hA hn1 hle hp hx), by omega, by omega⟩, (Fr.trans (Fr.trans (Fr.trans (Fr.trans (Fr.rf pM M) (Fr.pI (a0.fa (by decide) (by decide)))) (Fr.pI (a0.fa (by decide) (by decide)))) (Fr.pI (a0.fa (by decide) (by decide)))) (Fr.pI (a0.fm))), ((up2_k _ _ _ (by decide)).trans ((up2_b _ _ _ _ (a0.ne (by decide) (by decide))).trans ((up2_b _ _ _ _ (a0.ne (by decide) (by decide))).trans ((up2_b _ _ _ _ (a0.ne (by decide) (by decide))).trans rfl))))⟩
      · have hlt := ge_nI (by omega) (by omega) c14
        refine J_aload_n hC dX5_setsRoad_17 rfl rfl ?_
        refine J_get6 hC lf_X5_53 (j := 24) a0.t (v := rv (mR M m 24)) rfl dX5_setsRoad_18 ?_
        refine J_iload hC dX5_setsRoad_21 rfl ?_
        refine J_iald hC a0.a24 (j := j) (nI_toInt (by omega)) (by rw [a0.l24]; omega) dX5_setsRoad_23 ?_
        refine J_iload_n hC dX5_setsRoad_24 rfl rfl ?_
        refine J_icmp_ne hC dX5_setsRoad_25 (tgt := 45) (by decide) (fun c25 => ?_) (fun c25 => ?_)
        · refine J_iinc hC dX5_setsRoad_45 (by decide) rfl (v := nI (j + 1)) (nI_1 _) (ls1 := [some (rv m), some (.int v), some (.int x), some (.int (nI a)), some (.int (nI (j + 1)))]) rfl ?_
          refine J_goto hC dX5_setsRoad_48 (tgt := 8) (by decide) ?_
          exact ih (j + 1) a (by omega) (by omega) (by first | (exact atRow_y (nn c25) (nn c39)) | (exact atRow_n hA (fun h => c25 h.1)) | (exact atRow_n hA (fun h => c39 h.2)))
        · refine J_aload_n hC dX5_setsRoad_28 rfl rfl ?_
          refine J_get6 hC lf_X5_56 (j := 25) a0.t (v := rv (mR M m 25)) rfl dX5_setsRoad_29 ?_
          refine J_iload hC dX5_setsRoad_32 rfl ?_
          refine J_iald hC a0.a25 (j := j) (nI_toInt (by omega)) (by rw [a0.l25]; omega) dX5_setsRoad_34 ?_
          refine J_aload_n hC dX5_setsRoad_35 rfl rfl ?_
          refine J_get6 hC lf_X5_97 (j := 5) a0.t (v := .int (sD S)) (congrArg (fun z => some (Value.int z)) a1.s5) dX5_setsRoad_36 ?_
          refine J_icmp_ne hC dX5_setsRoad_39 (tgt := 45) (by decide) (fun c39 => ?_) (fun c39 => ?_)
          · refine J_iinc hC dX5_setsRoad_45 (by decide) rfl (v := nI (j + 1)) (nI_1 _) (ls1 := [some (rv m), some (.int v), some (.int x), some (.int (nI a)), some (.int (nI (j + 1)))]) rfl ?_
            refine J_goto hC dX5_setsRoad_48 (tgt := 8) (by decide) ?_
            exact ih (j + 1) a (by omega) (by omega) (by first | (exact atRow_y (nn c25) (nn c39)) | (exact atRow_n hA (fun h => c25 h.1)) | (exact atRow_n hA (fun h => c39 h.2)))
          · refine J_iload hC dX5_setsRoad_42 rfl ?_
            refine J_istore_n hC dX5_setsRoad_44 rfl (by decide) (ls1 := [some (rv m), some (.int v), some (.int x), some (.int (nI j)), some (.int (nI j))]) rfl ?_
            refine J_iinc hC dX5_setsRoad_45 (by decide) rfl (v := nI (j + 1)) (nI_1 _) (ls1 := [some (rv m), some (.int v), some (.int x), some (.int (nI j)), some (.int (nI (j + 1)))]) rfl ?_
            refine J_goto hC dX5_setsRoad_48 (tgt := 8) (by decide) ?_
            exact ih (j + 1) j (by omega) (by omega) (by first | (exact atRow_y (nn c25) (nn c39)) | (exact atRow_n hA (fun h => c25 h.1)) | (exact atRow_n hA (fun h => c39 h.2)))
  exact L8 (nR + 1) 0 _ (by omega) (Nat.zero_le _) (atRow_0 _ _ _ _ _)
theorem ct_X5_setsPlate {G : Gt} {l : Launch} (hst : l.stackTraces = false) {M : Mm} {m : Nat} {S : St} {r s : Nat} (hM : MAw M m S r s) (v x : Int32) (hv : isIx v (sN S 1) = true) (hle : ∀ e ∈ sT S 1 (ix v), e.1 ≤ sD S) (hp : (sT S 1 (ix v)).Pairwise (fun a b => a.1 ≤ b.1)) (hb : s < 1100) : Ct G l yX5_setsPlate cX5_setsPlate 5 none 1 M [rv m, .int v, .int x] 0 0 (fun r9 M9 => r9 = none ∧ Mu M m (uT S 1 (ix v) (setT (sT S 1 (ix v)) (sD S) x)) r (s + 1) M9) (noX) := by
  obtain ⟨a0, nP, nR, nS, a1, bR, bS⟩ := id hM
  have bPs := a1.bPs; have bK := a1.bK; have bV := a1.bV; have bPl := a1.bP; have bN := a1.bN
  refine Ct_intro (own := RX5) (nm := "setsPlate") (by decide +kernel) rfl rfl hst (fun w hw => by simp only [List.mem_cons, List.not_mem_nil, or_false] at hw; rcases hw with rfl | rfl | rfl <;> first | rfl | exact rv_cat _) (Nat.le_of_ble_eq_true rfl) (fun γ hC => ?_)
  show J G γ M 0 [some (rv m), some (.int v), some (.int x)] [] 0 0
  refine J_aload_n hC dX5_setsPlate_0 rfl rfl ?_
  refine J_get6 hC lf_X5_103 (j := 8) a0.t (v := .int (nI nS)) (congrArg (fun z => some (Value.int z)) a1.s8) dX5_setsPlate_1 ?_
  refine J_istore_n hC dX5_setsPlate_4 rfl (by decide) (ls1 := [some (rv m), some (.int v), some (.int x), some (.int (nI nS))]) rfl ?_
  refine J_iconst hC dX5_setsPlate_5 (v := 0) (by decide) ?_
  refine J_istore hC dX5_setsPlate_6 (by decide) (ls1 := [some (rv m), some (.int v), some (.int x), some (.int (nI nS)), some (.int 0)]) rfl ?_
  have L8 : ∀ (n9 : Nat) (j a : Nat), nS - j < n9 → (j ≤ nS) → (atRow (ma M m 27) (ma M m 28) v (sD S) nS a j) → J G γ M 8 [some (rv m), some (.int v), some (.int x), some (.int (nI a)), some (.int (nI j))] [] 0 0 := by
    intro n9
    induction n9 with
    | zero => intro j a h9; exact absurd h9 (Nat.not_lt_zero _)
    | succ n9 ih =>
      intro j a h9 hj hA
      refine J_iload hC dX5_setsPlate_8 rfl ?_
      refine J_aload_n hC dX5_setsPlate_10 rfl rfl ?_
      refine J_get6 hC lf_X5_103 (j := 8) a0.t (v := .int (nI nS)) (congrArg (fun z => some (Value.int z)) a1.s8) dX5_setsPlate_11 ?_
      refine J_icmp_ge hC dX5_setsPlate_14 (tgt := 51) (by decide) (fun c14 => ?_) (fun c14 => ?_)
      · have hge := le_nI (by omega) (by omega) c14
        have hjj : j = nS := by omega
        rw [hjj] at hA
        have hal := atRow_le hA (Nat.le_refl _)
        refine J_aload_n hC dX5_setsPlate_51 rfl rfl ?_
        refine J_get6 hC lf_X5_62 (j := 27) a0.t (v := rv (mR M m 27)) rfl dX5_setsPlate_52 ?_
        refine J_iload_n hC dX5_setsPlate_55 rfl rfl ?_
        refine J_iload_n hC dX5_setsPlate_56 rfl rfl ?_
        refine J_iast hC a0.a27 (j := a) (nI_toInt (by omega)) (by rw [a0.l27]; omega) dX5_setsPlate_57 ?_
        refine J_aload_n hC dX5_setsPlate_58 rfl rfl ?_
        refine J_get6 hC lf_X5_65 (j := 28) a0.t (v := rv (mR M m 28)) rfl dX5_setsPlate_59 ?_
        refine J_iload_n hC dX5_setsPlate_62 rfl rfl ?_
        refine J_aload_n hC dX5_setsPlate_63 rfl rfl ?_
        refine J_get6 hC lf_X5_97 (j := 5) a0.t (v := .int (sD S)) (congrArg (fun z => some (Value.int z)) ((up2_b _ _ _ _ (a0.ne (by decide) (by decide)) : mI (pI M (mR M m 27) a v) m 5 = mI M m 5).trans a1.s5)) dX5_setsPlate_64 ?_
        refine J_iast hC a0.a28 (j := a) (nI_toInt (by omega)) (Nat.lt_of_lt_of_eq (by omega) a0.l28.symm) dX5_setsPlate_67 ?_
        refine J_aload_n hC dX5_setsPlate_68 rfl rfl ?_
        refine J_get6 hC lf_X5_68 (j := 29) a0.t (v := rv (mR M m 29)) rfl dX5_setsPlate_69 ?_
        refine J_iload_n hC dX5_setsPlate_72 rfl rfl ?_
        refine J_iload_n hC dX5_setsPlate_73 rfl rfl ?_
        refine J_iast hC a0.a29 (j := a) (nI_toInt (by omega)) (Nat.lt_of_lt_of_eq (by omega) a0.l29.symm) dX5_setsPlate_74 ?_
        refine J_aload_n hC dX5_setsPlate_75 rfl rfl ?_
        refine J_dup hC dX5_setsPlate_76 (rv_cat _) ?_
        refine J_get6 hC lf_X5_103 (j := 8) a0.t (v := .int (nI nS)) (congrArg (fun z => some (Value.int z)) ((up2_b _ _ _ _ (a0.ne (by decide) (by decide)) : mI (pI (pI (pI M (mR M m 27) a v) (mR M m 28) a (sD S)) (mR M m 29) a x) m 8 = mI (pI (pI M (mR M m 27) a v) (mR M m 28) a (sD S)) m 8).trans ((up2_b _ _ _ _ (a0.ne (by decide) (by decide)) : mI (pI (pI M (mR M m 27) a v) (mR M m 28) a (sD S)) m 8 = mI (pI M (mR M m 27) a v) m 8).trans ((up2_b _ _ _ _ (a0.ne (by decide) (by decide)) : mI (pI M (mR M m 27) a v) m 8 = mI M m 8).trans a1.s8)))) dX5_setsPlate_77 ?_
        refine J_iload_n hC dX5_setsPlate_80 rfl rfl ?_
        refine J_aload_n hC dX5_setsPlate_81 rfl rfl ?_
        refine J_get6 hC lf_X5_103 (j := 8) a0.t (v := .int (nI nS)) (congrArg (fun z => some (Value.int z)) ((up2_b _ _ _ _ (a0.ne (by decide) (by decide)) : mI (pI (pI (pI M (mR M m 27) a v) (mR M m 28) a (sD S)) (mR M m 29) a x) m 8 = mI (pI (pI M (mR M m 27) a v) (mR M m 28) a (sD S)) m 8).trans ((up2_b _ _ _ _ (a0.ne (by decide) (by decide)) : mI (pI (pI M (mR M m 27) a v) (mR M m 28) a (sD S)) m 8 = mI (pI M (mR M m 27) a v) m 8).trans ((up2_b _ _ _ _ (a0.ne (by decide) (by decide)) : mI (pI M (mR M m 27) a v) m 8 = mI M m 8).trans a1.s8)))) dX5_setsPlate_82 ?_
        refine J_icmp_ne hC dX5_setsPlate_85 (tgt := 92) (by decide) (fun c85 => ?_) (fun c85 => ?_)
        · refine J_iconst hC dX5_setsPlate_92 (v := 0) (by decide) ?_
          refine J_iadd hC dX5_setsPlate_93 ?_
          refine J_put6_8 hC lf_X5_103 a0.t dX5_setsPlate_94 ?_
          refine J_vret hC (by decide) (by decide) dX5_setsPlate_97 ?_
          obtain ⟨n1, hn1, hv1⟩ : ∃ n1, (n1 = if a = nS then nS + 1 else nS) ∧ ((nI nS) + 0) = nI n1 := ⟨_, rfl, by first | (rw [if_pos (nI_inj (by omega) (by omega) (nn c85)), nI_1]) | (rw [if_neg (fun e => c85 (by rw [e])), nI_a0])⟩
          have hn2 : n1 ≤ nS + 1 := by (split at hn1 <;> omega)
          rw [hv1]
          exact ⟨rfl, ⟨a0, _, _, _, MA1.of_v (Vw.sc (M := (pI (pI (pI M (mR M m 27) a v) (mR M m 28) a (sD S)) (mR M m 29) a x)) a0 (Vw.arr (M := (pI (pI M (mR M m 27) a v) (mR M m 28) a (sD S))) a0 (Vw.arr (M := (pI M (mR M m 27) a v)) a0 (Vw.arr (M := M) a0 (Vw.rf M m) 27 (by decide) (by decide) a v) 28 (by decide) (by decide) a (sD S)) 29 (by decide) (by decide) a x) 8 (nI n1)) (MA1v.sign a1.v hv hA hn1 hle hp), by omega, by omega⟩, (Fr.trans (Fr.trans (Fr.trans (Fr.trans (Fr.rf pM M) (Fr.pI (a0.fa (by decide) (by decide)))) (Fr.pI (a0.fa (by decide) (by decide)))) (Fr.pI (a0.fa (by decide) (by decide)))) (Fr.pI (a0.fm))), ((up2_k _ _ _ (by decide)).trans ((up2_b _ _ _ _ (a0.ne (by decide) (by decide))).trans ((up2_b _ _ _ _ (a0.ne (by decide) (by decide))).trans ((up2_b _ _ _ _ (a0.ne (by decide) (by decide))).trans rfl))))⟩
        · refine J_iconst hC dX5_setsPlate_88 (v := 1) (by decide) ?_
          refine J_goto hC dX5_setsPlate_89 (tgt := 93) (by decide) ?_
          refine J_iadd hC dX5_setsPlate_93 ?_
          refine J_put6_8 hC lf_X5_103 a0.t dX5_setsPlate_94 ?_
          refine J_vret hC (by decide) (by decide) dX5_setsPlate_97 ?_
          obtain ⟨n1, hn1, hv1⟩ : ∃ n1, (n1 = if a = nS then nS + 1 else nS) ∧ ((nI nS) + 1) = nI n1 := ⟨_, rfl, by first | (rw [if_pos (nI_inj (by omega) (by omega) (nn c85)), nI_1]) | (rw [if_neg (fun e => c85 (by rw [e])), nI_a0])⟩
          have hn2 : n1 ≤ nS + 1 := by (split at hn1 <;> omega)
          rw [hv1]
          exact ⟨rfl, ⟨a0, _, _, _, MA1.of_v (Vw.sc (M := (pI (pI (pI M (mR M m 27) a v) (mR M m 28) a (sD S)) (mR M m 29) a x)) a0 (Vw.arr (M := (pI (pI M (mR M m 27) a v) (mR M m 28) a (sD S))) a0 (Vw.arr (M := (pI M (mR M m 27) a v)) a0 (Vw.arr (M := M) a0 (Vw.rf M m) 27 (by decide) (by decide) a v) 28 (by decide) (by decide) a (sD S)) 29 (by decide) (by decide) a x) 8 (nI n1)) (MA1v.sign a1.v hv hA hn1 hle hp), by omega, by omega⟩, (Fr.trans (Fr.trans (Fr.trans (Fr.trans (Fr.rf pM M) (Fr.pI (a0.fa (by decide) (by decide)))) (Fr.pI (a0.fa (by decide) (by decide)))) (Fr.pI (a0.fa (by decide) (by decide)))) (Fr.pI (a0.fm))), ((up2_k _ _ _ (by decide)).trans ((up2_b _ _ _ _ (a0.ne (by decide) (by decide))).trans ((up2_b _ _ _ _ (a0.ne (by decide) (by decide))).trans ((up2_b _ _ _ _ (a0.ne (by decide) (by decide))).trans rfl))))⟩
      · have hlt := ge_nI (by omega) (by omega) c14
        refine J_aload_n hC dX5_setsPlate_17 rfl rfl ?_
        refine J_get6 hC lf_X5_62 (j := 27) a0.t (v := rv (mR M m 27)) rfl dX5_setsPlate_18 ?_
        refine J_iload hC dX5_setsPlate_21 rfl ?_
        refine J_iald hC a0.a27 (j := j) (nI_toInt (by omega)) (by rw [a0.l27]; omega) dX5_setsPlate_23 ?_
        refine J_iload_n hC dX5_setsPlate_24 rfl rfl ?_
        refine J_icmp_ne hC dX5_setsPlate_25 (tgt := 45) (by decide) (fun c25 => ?_) (fun c25 => ?_)
        · refine J_iinc hC dX5_setsPlate_45 (by decide) rfl (v := nI (j + 1)) (nI_1 _) (ls1 := [some (rv m), some (.int v), some (.int x), some (.int (nI a)), some (.int (nI (j + 1)))]) rfl ?_
          refine J_goto hC dX5_setsPlate_48 (tgt := 8) (by decide) ?_
          exact ih (j + 1) a (by omega) (by omega) (by first | (exact atRow_y (nn c25) (nn c39)) | (exact atRow_n hA (fun h => c25 h.1)) | (exact atRow_n hA (fun h => c39 h.2)))
        · refine J_aload_n hC dX5_setsPlate_28 rfl rfl ?_
          refine J_get6 hC lf_X5_65 (j := 28) a0.t (v := rv (mR M m 28)) rfl dX5_setsPlate_29 ?_
          refine J_iload hC dX5_setsPlate_32 rfl ?_
          refine J_iald hC a0.a28 (j := j) (nI_toInt (by omega)) (by rw [a0.l28]; omega) dX5_setsPlate_34 ?_
          refine J_aload_n hC dX5_setsPlate_35 rfl rfl ?_
          refine J_get6 hC lf_X5_97 (j := 5) a0.t (v := .int (sD S)) (congrArg (fun z => some (Value.int z)) a1.s5) dX5_setsPlate_36 ?_
          refine J_icmp_ne hC dX5_setsPlate_39 (tgt := 45) (by decide) (fun c39 => ?_) (fun c39 => ?_)
          · refine J_iinc hC dX5_setsPlate_45 (by decide) rfl (v := nI (j + 1)) (nI_1 _) (ls1 := [some (rv m), some (.int v), some (.int x), some (.int (nI a)), some (.int (nI (j + 1)))]) rfl ?_
            refine J_goto hC dX5_setsPlate_48 (tgt := 8) (by decide) ?_
            exact ih (j + 1) a (by omega) (by omega) (by first | (exact atRow_y (nn c25) (nn c39)) | (exact atRow_n hA (fun h => c25 h.1)) | (exact atRow_n hA (fun h => c39 h.2)))
          · refine J_iload hC dX5_setsPlate_42 rfl ?_
            refine J_istore_n hC dX5_setsPlate_44 rfl (by decide) (ls1 := [some (rv m), some (.int v), some (.int x), some (.int (nI j)), some (.int (nI j))]) rfl ?_
            refine J_iinc hC dX5_setsPlate_45 (by decide) rfl (v := nI (j + 1)) (nI_1 _) (ls1 := [some (rv m), some (.int v), some (.int x), some (.int (nI j)), some (.int (nI (j + 1)))]) rfl ?_
            refine J_goto hC dX5_setsPlate_48 (tgt := 8) (by decide) ?_
            exact ih (j + 1) j (by omega) (by omega) (by first | (exact atRow_y (nn c25) (nn c39)) | (exact atRow_n hA (fun h => c25 h.1)) | (exact atRow_n hA (fun h => c39 h.2)))
  exact L8 (nS + 1) 0 _ (by omega) (Nat.zero_le _) (atRow_0 _ _ _ _ _)
