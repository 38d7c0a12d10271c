/-! a notice entered -/
def noteQ (S : St) (who : Int32) (v : Nat) (to day : Int32) : St := uN (uO (uO (uO (uO (uO (uO S (sN S 3) 1 who) (sN S 3) 2 (nI v)) (sN S 3) 3 to) (sN S 3) 4 day) (sN S 3) 5 111) (sN S 3) 6 (-1)) 3 (sN S 3 + 1)
theorem enterQ_eq (S : St) (who : Int32) (v : Nat) (to day : Int32) : enterQ S who v to day = settleQ 120 (noteQ S who v to day) v := rfl
theorem noteQ_O (S : St) (who : Int32) (v : Nat) (to day : Int32) (n k : Nat) : sO (noteQ S who v to day) n k = if n = sN S 3 then (if k = 1 then who else if k = 2 then nI v else if k = 3 then to else if k = 4 then day else if k = 5 then 111 else if k = 6 then -1 else sO S n k) else sO S n k := by
  unfold noteQ
  simp only [sO_uN, sO_uO, up2]
  grind
theorem cnt_note (S : St) (who : Int32) (v : Nat) (to day : Int32) : cnt (fun i => decide (sO (noteQ S who v to day) i 5 = 117)) (sN S 3 + 1) = cnt (fun i => decide (sO S i 5 = 117)) (sN S 3) := by
  rw [cnt_s, noteQ_O]
  simp only [if_true]
  rw [cnt_congr (f := fun i => decide (sO S i 5 = 117)) (fun j hj => by rw [noteQ_O, if_neg (by omega)])]
  simp
theorem Inv.note {S : St} {t v : Nat} {who to day : Int32} (h : Inv S t) (hn : sN S 3 < 120) (hw : who = -1 ∨ isIx who (sN S 0) = true) (hv : v < sN S 1) (hto : isIx to (sN S 0) = true) (hd : isDay S day = true) : Inv (noteQ S who v to day) t := by
  have hd2 : 0 ≤ day ∧ day ≤ sD S := of_decide_eq_true hd
  have bV := h.bV
  have hO := noteQ_O S who v to day
  have c1 := cnt_note S who v to day
  have hN : sN (noteQ S who v to day) = va_up (sN S) 3 (sN S 3 + 1) := rfl
  have hD : sD (noteQ S who v to day) = sD S := (by unfold noteQ; simp only [sD_uN, sD_uD, sD_uC, sD_uP, sD_uV, sD_uL, sD_uT, sD_uQ, sD_uO])
  have hV : sV (noteQ S who v to day) = sV S := (by unfold noteQ; simp only [sV_uN, sV_uD, sV_uC, sV_uP, sV_uV, sV_uL, sV_uT, sV_uQ, sV_uO])
  have hL : sL (noteQ S who v to day) = sL S := (by unfold noteQ; simp only [sL_uN, sL_uD, sL_uC, sL_uP, sL_uV, sL_uL, sL_uT, sL_uQ, sL_uO])
  have hQ : sQ (noteQ S who v to day) = sQ S := (by unfold noteQ; simp only [sQ_uN, sQ_uD, sQ_uC, sQ_uP, sQ_uV, sQ_uL, sQ_uT, sQ_uQ, sQ_uO])
  have hT : sT (noteQ S who v to day) = sT S := (by unfold noteQ; simp only [sT_uN, sT_uD, sT_uC, sT_uP, sT_uV, sT_uL, sT_uT, sT_uQ, sT_uO])
  have hp : ∀ n, passN (noteQ S who v to day) n = passN S n := by
    intro n
    induction n with
    | zero => rfl
    | succ n ih => unfold passN; rw [ih, hT]
  generalize noteQ S who v to day = S1 at *
  have n0 : sN S1 0 = sN S 0 := by rw [hN]; rfl
  have n1 : sN S1 1 = sN S 1 := by rw [hN]; rfl
  have n2 : sN S1 2 = sN S 2 := by rw [hN]; rfl
  have n3 : sN S1 3 = sN S 3 + 1 := by rw [hN]; rfl
  unfold Inv
  rw [n0, n1, n2, n3, hD, hV, hL, hQ, hT, hp, c1]
  exact ⟨h.bK, h.bV, h.bP, hn, h.bD, h.bt, h.tn, h.ts, h.s2, h.t0, h.t1, h.t2, h.tl, h.kd, h.sc, h.ad, h.li, h.p3, h.pv, h.pl, h.ex, h.kq, (fun n hn => by
    rw [hO]
    by_cases e : n = sN S 3
    · rw [if_pos e]; exact hw
    · rw [if_neg e]; exact h.n1 n (by omega)), (fun n hn => by
    rw [hO]
    by_cases e : n = sN S 3
    · rw [if_pos e]; exact isIx_of hv (by omega)
    · rw [if_neg e]; exact h.n2 n (by omega)), (fun n hn => by
    rw [hO]
    by_cases e : n = sN S 3
    · rw [if_pos e]; exact hto
    · rw [if_neg e]; exact h.n3 n (by omega)), (fun n hn => by
    rw [hO]
    by_cases e : n = sN S 3
    · rw [if_pos e]; exact hd2
    · rw [if_neg e]; exact h.n4 n (by omega)), (fun n hn => by
    rw [hO]
    by_cases e : n = sN S 3
    · rw [if_pos e]; exact Or.inl rfl
    · rw [if_neg e]; exact h.n5 n (by omega)), h.cu⟩
theorem MA1v.note {sc : Nat → Int32} {c9 : Int64} {ar : Nat → Nat → Int32} {S : St} {who to day : Int32} {v nP nR nS : Nat} (h : MA1v sc c9 ar S nP nR nS) (hn : sN S 3 < 120) : MA1v (va_up (va_up sc 0 0) 3 (nI (sN S 3 + 1))) c9 (up2 (up2 (up2 (up2 (up2 ar 18 (sN S 3) who) 19 (sN S 3) to) 20 (sN S 3) (nI v)) 21 (sN S 3) day) 22 (sN S 3) 111) (noteQ S who v to day) nP nR nS := by
  have hO := noteQ_O S who v to day
  have c1 := cnt_note S who v to day
  have v1 : (va_up (va_up sc 0 0) 3 (nI (sN S 3 + 1))) 1 = sc 1 := rfl
  have v2 : (va_up (va_up sc 0 0) 3 (nI (sN S 3 + 1))) 2 = sc 2 := rfl
  have v3 : (va_up (va_up sc 0 0) 3 (nI (sN S 3 + 1))) 3 = nI (sN S 3 + 1) := rfl
  have v4 : (va_up (va_up sc 0 0) 3 (nI (sN S 3 + 1))) 4 = sc 4 := rfl
  have v5 : (va_up (va_up sc 0 0) 3 (nI (sN S 3 + 1))) 5 = sc 5 := rfl
  have v6 : (va_up (va_up sc 0 0) 3 (nI (sN S 3 + 1))) 6 = sc 6 := rfl
  have v7 : (va_up (va_up sc 0 0) 3 (nI (sN S 3 + 1))) 7 = sc 7 := rfl
  have v8 : (va_up (va_up sc 0 0) 3 (nI (sN S 3 + 1))) 8 = sc 8 := rfl
  have e10 : (up2 (up2 (up2 (up2 (up2 ar 18 (sN S 3) who) 19 (sN S 3) to) 20 (sN S 3) (nI v)) 21 (sN S 3) day) 22 (sN S 3) 111) 10 = ar 10 := rfl
  have e11 : (up2 (up2 (up2 (up2 (up2 ar 18 (sN S 3) who) 19 (sN S 3) to) 20 (sN S 3) (nI v)) 21 (sN S 3) day) 22 (sN S 3) 111) 11 = ar 11 := rfl
  have e12 : (up2 (up2 (up2 (up2 (up2 ar 18 (sN S 3) who) 19 (sN S 3) to) 20 (sN S 3) (nI v)) 21 (sN S 3) day) 22 (sN S 3) 111) 12 = ar 12 := rfl
  have e13 : (up2 (up2 (up2 (up2 (up2 ar 18 (sN S 3) who) 19 (sN S 3) to) 20 (sN S 3) (nI v)) 21 (sN S 3) day) 22 (sN S 3) 111) 13 = ar 13 := rfl
  have e14 : (up2 (up2 (up2 (up2 (up2 ar 18 (sN S 3) who) 19 (sN S 3) to) 20 (sN S 3) (nI v)) 21 (sN S 3) day) 22 (sN S 3) 111) 14 = ar 14 := rfl
  have e15 : (up2 (up2 (up2 (up2 (up2 ar 18 (sN S 3) who) 19 (sN S 3) to) 20 (sN S 3) (nI v)) 21 (sN S 3) day) 22 (sN S 3) 111) 15 = ar 15 := rfl
  have e16 : (up2 (up2 (up2 (up2 (up2 ar 18 (sN S 3) who) 19 (sN S 3) to) 20 (sN S 3) (nI v)) 21 (sN S 3) day) 22 (sN S 3) 111) 16 = ar 16 := rfl
  have e17 : (up2 (up2 (up2 (up2 (up2 ar 18 (sN S 3) who) 19 (sN S 3) to) 20 (sN S 3) (nI v)) 21 (sN S 3) day) 22 (sN S 3) 111) 17 = ar 17 := rfl
  have e18 : (up2 (up2 (up2 (up2 (up2 ar 18 (sN S 3) who) 19 (sN S 3) to) 20 (sN S 3) (nI v)) 21 (sN S 3) day) 22 (sN S 3) 111) 18 = va_up (ar 18) (sN S 3) who := by rw [up2_row _ _ _ (show (18 : Nat) ≠ 22 by decide), up2_row _ _ _ (show (18 : Nat) ≠ 21 by decide), up2_row _ _ _ (show (18 : Nat) ≠ 20 by decide), up2_row _ _ _ (show (18 : Nat) ≠ 19 by decide), up2_va]
  have e19 : (up2 (up2 (up2 (up2 (up2 ar 18 (sN S 3) who) 19 (sN S 3) to) 20 (sN S 3) (nI v)) 21 (sN S 3) day) 22 (sN S 3) 111) 19 = va_up (ar 19) (sN S 3) to := by rw [up2_row _ _ _ (show (19 : Nat) ≠ 22 by decide), up2_row _ _ _ (show (19 : Nat) ≠ 21 by decide), up2_row _ _ _ (show (19 : Nat) ≠ 20 by decide), up2_va, up2_row _ _ _ (show (19 : Nat) ≠ 18 by decide)]
  have e20 : (up2 (up2 (up2 (up2 (up2 ar 18 (sN S 3) who) 19 (sN S 3) to) 20 (sN S 3) (nI v)) 21 (sN S 3) day) 22 (sN S 3) 111) 20 = va_up (ar 20) (sN S 3) (nI v) := by rw [up2_row _ _ _ (show (20 : Nat) ≠ 22 by decide), up2_row _ _ _ (show (20 : Nat) ≠ 21 by decide), up2_va, up2_row _ _ _ (show (20 : Nat) ≠ 19 by decide), up2_row _ _ _ (show (20 : Nat) ≠ 18 by decide)]
  have e21 : (up2 (up2 (up2 (up2 (up2 ar 18 (sN S 3) who) 19 (sN S 3) to) 20 (sN S 3) (nI v)) 21 (sN S 3) day) 22 (sN S 3) 111) 21 = va_up (ar 21) (sN S 3) day := by rw [up2_row _ _ _ (show (21 : Nat) ≠ 22 by decide), up2_va, up2_row _ _ _ (show (21 : Nat) ≠ 20 by decide), up2_row _ _ _ (show (21 : Nat) ≠ 19 by decide), up2_row _ _ _ (show (21 : Nat) ≠ 18 by decide)]
  have e22 : (up2 (up2 (up2 (up2 (up2 ar 18 (sN S 3) who) 19 (sN S 3) to) 20 (sN S 3) (nI v)) 21 (sN S 3) day) 22 (sN S 3) 111) 22 = va_up (ar 22) (sN S 3) 111 := by rw [up2_va, up2_row _ _ _ (show (22 : Nat) ≠ 21 by decide), up2_row _ _ _ (show (22 : Nat) ≠ 20 by decide), up2_row _ _ _ (show (22 : Nat) ≠ 19 by decide), up2_row _ _ _ (show (22 : Nat) ≠ 18 by decide)]
  have e23 : (up2 (up2 (up2 (up2 (up2 ar 18 (sN S 3) who) 19 (sN S 3) to) 20 (sN S 3) (nI v)) 21 (sN S 3) day) 22 (sN S 3) 111) 23 = ar 23 := rfl
  have e24 : (up2 (up2 (up2 (up2 (up2 ar 18 (sN S 3) who) 19 (sN S 3) to) 20 (sN S 3) (nI v)) 21 (sN S 3) day) 22 (sN S 3) 111) 24 = ar 24 := rfl
  have e25 : (up2 (up2 (up2 (up2 (up2 ar 18 (sN S 3) who) 19 (sN S 3) to) 20 (sN S 3) (nI v)) 21 (sN S 3) day) 22 (sN S 3) 111) 25 = ar 25 := rfl
  have e26 : (up2 (up2 (up2 (up2 (up2 ar 18 (sN S 3) who) 19 (sN S 3) to) 20 (sN S 3) (nI v)) 21 (sN S 3) day) 22 (sN S 3) 111) 26 = ar 26 := rfl
  have e27 : (up2 (up2 (up2 (up2 (up2 ar 18 (sN S 3) who) 19 (sN S 3) to) 20 (sN S 3) (nI v)) 21 (sN S 3) day) 22 (sN S 3) 111) 27 = ar 27 := rfl
  have e28 : (up2 (up2 (up2 (up2 (up2 ar 18 (sN S 3) who) 19 (sN S 3) to) 20 (sN S 3) (nI v)) 21 (sN S 3) day) 22 (sN S 3) 111) 28 = ar 28 := rfl
  have e29 : (up2 (up2 (up2 (up2 (up2 ar 18 (sN S 3) who) 19 (sN S 3) to) 20 (sN S 3) (nI v)) 21 (sN S 3) day) 22 (sN S 3) 111) 29 = ar 29 := rfl
  have e30 : (up2 (up2 (up2 (up2 (up2 ar 18 (sN S 3) who) 19 (sN S 3) to) 20 (sN S 3) (nI v)) 21 (sN S 3) day) 22 (sN S 3) 111) 30 = ar 30 := rfl
  have e31 : (up2 (up2 (up2 (up2 (up2 ar 18 (sN S 3) who) 19 (sN S 3) to) 20 (sN S 3) (nI v)) 21 (sN S 3) day) 22 (sN S 3) 111) 31 = ar 31 := rfl
  have e32 : (up2 (up2 (up2 (up2 (up2 ar 18 (sN S 3) who) 19 (sN S 3) to) 20 (sN S 3) (nI v)) 21 (sN S 3) day) 22 (sN S 3) 111) 32 = ar 32 := rfl
  have hsN : sN (noteQ S who v to day) = va_up (sN S) 3 (sN S 3 + 1) := rfl
  have hsD : sD (noteQ S who v to day) = sD S := (by unfold noteQ; simp only [sD_uN, sD_uD, sD_uC, sD_uP, sD_uV, sD_uL, sD_uT, sD_uQ, sD_uO])
  have hsC : sC (noteQ S who v to day) = sC S := (by unfold noteQ; simp only [sC_uN, sC_uD, sC_uC, sC_uP, sC_uV, sC_uL, sC_uT, sC_uQ, sC_uO])
  have hsP : sP (noteQ S who v to day) = sP S := (by unfold noteQ; simp only [sP_uN, sP_uD, sP_uC, sP_uP, sP_uV, sP_uL, sP_uT, sP_uQ, sP_uO])
  have hsV : sV (noteQ S who v to day) = sV S := (by unfold noteQ; simp only [sV_uN, sV_uD, sV_uC, sV_uP, sV_uV, sV_uL, sV_uT, sV_uQ, sV_uO])
  have hsL : sL (noteQ S who v to day) = sL S := (by unfold noteQ; simp only [sL_uN, sL_uD, sL_uC, sL_uP, sL_uV, sL_uL, sL_uT, sL_uQ, sL_uO])
  have hsT : sT (noteQ S who v to day) = sT S := (by unfold noteQ; simp only [sT_uN, sT_uD, sT_uC, sT_uP, sT_uV, sT_uL, sT_uT, sT_uQ, sT_uO])
  have hsQ : sQ (noteQ S who v to day) = sQ S := (by unfold noteQ; simp only [sQ_uN, sQ_uD, sQ_uC, sQ_uP, sQ_uV, sQ_uL, sQ_uT, sQ_uQ, sQ_uO])
  generalize va_up (va_up sc 0 0) 3 (nI (sN S 3 + 1)) = C at *
  generalize up2 (up2 (up2 (up2 (up2 ar 18 (sN S 3) who) 19 (sN S 3) to) 20 (sN S 3) (nI v)) 21 (sN S 3) day) 22 (sN S 3) 111 = A at *
  generalize noteQ S who v to day = S9 at *
  unfold MA1v
  rw [v1, v2, v3, v4, v5, v6, v7, v8, e10, e11, e12, e13, e14, e15, e16, e17, e18, e19, e20, e21, e22, e23, e24, e25, e26, e27, e28, e29, e30, e31, e32, hsN, hsD, hsC, hsP, hsV, hsL, hsT, hsQ]
  exact ⟨h.s1, h.s2, rfl, h.s4, h.s5, h.s6, h.s7, h.s8, h.s9, h.paid, h.kind, h.scr, h.adm, h.lien, h.lien0, h.scr0, h.q0, h.q1, h.q2, h.r0, h.r1, h.r2, h.rb, (fun n hn => by
    rw [hO]
    by_cases e : n = sN S 3
    · subst e; rw [va_up_self]; simp
    · rw [va_up_ne _ _ e, if_neg e]; exact h.n1 n (by rw [show va_up (sN S) 3 (sN S 3 + 1) 3 = sN S 3 + 1 from rfl] at hn; omega)), (fun n hn => by
    rw [hO]
    by_cases e : n = sN S 3
    · subst e; rw [va_up_self]; simp
    · rw [va_up_ne _ _ e, if_neg e]; exact h.n2 n (by rw [show va_up (sN S) 3 (sN S 3 + 1) 3 = sN S 3 + 1 from rfl] at hn; omega)), (fun n hn => by
    rw [hO]
    by_cases e : n = sN S 3
    · subst e; rw [va_up_self]; simp
    · rw [va_up_ne _ _ e, if_neg e]; exact h.n3 n (by rw [show va_up (sN S) 3 (sN S 3 + 1) 3 = sN S 3 + 1 from rfl] at hn; omega)), (fun n hn => by
    rw [hO]
    by_cases e : n = sN S 3
    · subst e; rw [va_up_self]; simp
    · rw [va_up_ne _ _ e, if_neg e]; exact h.n4 n (by rw [show va_up (sN S) 3 (sN S 3 + 1) 3 = sN S 3 + 1 from rfl] at hn; omega)), (fun n hn => by
    rw [hO]
    by_cases e : n = sN S 3
    · subst e; rw [va_up_self]; simp
    · rw [va_up_ne _ _ e, if_neg e]; exact h.n5 n (by rw [show va_up (sN S) 3 (sN S 3 + 1) 3 = sN S 3 + 1 from rfl] at hn; omega)), (fun n hn => by
    rw [hO, hO]
    by_cases e : n = sN S 3
    · subst e; simp
    · rw [if_neg e, if_neg e]; exact h.n6 n (by rw [show va_up (sN S) 3 (sN S 3 + 1) 3 = sN S 3 + 1 from rfl] at hn; omega)), h.p0, h.p1, h.p2, h.sc, h.ad, (by
    show 2 * nP = 2 * sN S 1 + cnt (fun i => decide (sO S9 i 5 = 117)) (sN S 3 + 1)
    rw [c1]; exact h.cu), h.bK, h.bV, h.bP, hn, h.bD⟩
theorem ct_X5_enters {G : Gt} {l : Launch} (hst : l.stackTraces = false) {M : Mm} {m : Nat} {S : St} {t : Nat} (hM : MAt M m S t) (hI : Inv S t) (who v to day : Int32) (hw : who = -1 ∨ isIx who (sN S 0) = true) (hv : isIx v (sN S 1) = true) (hto : isIx to (sN S 0) = true) (hd : isDay S day = true) (hn : sN S 3 < 120) : Ct G l yX5_enters cX5_enters 6 (some .int) 6 M [rv m, .int who, .int v, .int to, .int day] 0 0 (fun r9 M9 => r9 = some (.int (nI (sN S 3))) ∧ MAt M9 m (enterQ S who (ix v) to day) t ∧ Fr pM M M9 ∧ mI M9 m 0 = 0) (noX) := by
  obtain ⟨a0, nP, nR, nS, a1, bR, bS, bt⟩ := id hM
  have bPs := a1.bPs; have bK := a1.bK; have bV := a1.bV; have bPl := a1.bP; have bN := a1.bN
  refine Ct_intro (own := RX5) (nm := "enters") (by decide +kernel) rfl rfl hst (fun w hw => by simp only [List.mem_cons, List.not_mem_nil, or_false] at hw; rcases hw with rfl | rfl | rfl | rfl | rfl <;> first | rfl | exact rv_cat _) (Nat.le_of_ble_eq_true rfl) (fun γ hC => ?_)
  show J G γ M 0 [some (rv m), some (.int who), some (.int v), some (.int to), some (.int day)] [] 0 0
  refine J_aload_n hC dX5_enters_0 rfl rfl ?_
  refine J_iconst hC dX5_enters_1 (v := 0) (by decide) ?_
  refine J_put6_0 hC lf_X5_80 a0.t dX5_enters_2 ?_
  refine J_aload_n hC dX5_enters_5 rfl rfl ?_
  refine J_get6 hC lf_X5_35 (j := 18) a0.t (v := rv (mR M m 18)) rfl dX5_enters_6 ?_
  refine J_aload_n hC dX5_enters_9 rfl rfl ?_
  refine J_get6 hC lf_X5_166 (j := 3) a0.t (v := .int (nI (sN S 3))) (congrArg (fun z => some (Value.int z)) ((up2_k _ _ _ (by decide) : mI (pI M m 0 0) m 3 = mI M m 3).trans a1.s3)) dX5_enters_10 ?_
  refine J_iload_n hC dX5_enters_13 rfl rfl ?_
  refine J_iast hC a0.a18 (j := (sN S 3)) (nI_toInt (by omega)) (Nat.lt_of_lt_of_eq (by omega) a0.l18.symm) dX5_enters_14 ?_
  refine J_aload_n hC dX5_enters_15 rfl rfl ?_
  refine J_get6 hC lf_X5_38 (j := 19) a0.t (v := rv (mR M m 19)) rfl dX5_enters_16 ?_
  refine J_aload_n hC dX5_enters_19 rfl rfl ?_
  refine J_get6 hC lf_X5_166 (j := 3) a0.t (v := .int (nI (sN S 3))) (congrArg (fun z => some (Value.int z)) ((up2_b _ _ _ _ (a0.ne (by decide) (by decide)) : mI (pI (pI M m 0 0) (mR M m 18) (sN S 3) who) m 3 = mI (pI M m 0 0) m 3).trans ((up2_k _ _ _ (by decide) : mI (pI M m 0 0) m 3 = mI M m 3).trans a1.s3))) dX5_enters_20 ?_
  refine J_iload_n hC dX5_enters_23 rfl rfl ?_
  refine J_iast hC a0.a19 (j := (sN S 3)) (nI_toInt (by omega)) (Nat.lt_of_lt_of_eq (by omega) a0.l19.symm) dX5_enters_24 ?_
  refine J_aload_n hC dX5_enters_25 rfl rfl ?_
  refine J_get6 hC lf_X5_41 (j := 20) a0.t (v := rv (mR M m 20)) rfl dX5_enters_26 ?_
  refine J_aload_n hC dX5_enters_29 rfl rfl ?_
  refine J_get6 hC lf_X5_166 (j := 3) a0.t (v := .int (nI (sN S 3))) (congrArg (fun z => some (Value.int z)) ((up2_b _ _ _ _ (a0.ne (by decide) (by decide)) : mI (pI (pI (pI M m 0 0) (mR M m 18) (sN S 3) who) (mR M m 19) (sN S 3) to) m 3 = mI (pI (pI M m 0 0) (mR M m 18) (sN S 3) who) m 3).trans ((up2_b _ _ _ _ (a0.ne (by decide) (by decide)) : mI (pI (pI M m 0 0) (mR M m 18) (sN S 3) who) m 3 = mI (pI M m 0 0) m 3).trans ((up2_k _ _ _ (by decide) : mI (pI M m 0 0) m 3 = mI M m 3).trans a1.s3)))) dX5_enters_30 ?_
  refine J_iload_n hC dX5_enters_33 rfl rfl ?_
  refine J_iast hC a0.a20 (j := (sN S 3)) (nI_toInt (by omega)) (Nat.lt_of_lt_of_eq (by omega) a0.l20.symm) dX5_enters_34 ?_
  refine J_aload_n hC dX5_enters_35 rfl rfl ?_
  refine J_get6 hC lf_X5_44 (j := 21) a0.t (v := rv (mR M m 21)) rfl dX5_enters_36 ?_
  refine J_aload_n hC dX5_enters_39 rfl rfl ?_
  refine J_get6 hC lf_X5_166 (j := 3) a0.t (v := .int (nI (sN S 3))) (congrArg (fun z => some (Value.int z)) ((up2_b _ _ _ _ (a0.ne (by decide) (by decide)) : mI (pI (pI (pI (pI M m 0 0) (mR M m 18) (sN S 3) who) (mR M m 19) (sN S 3) to) (mR M m 20) (sN S 3) v) m 3 = mI (pI (pI (pI M m 0 0) (mR M m 18) (sN S 3) who) (mR M m 19) (sN S 3) to) m 3).trans ((up2_b _ _ _ _ (a0.ne (by decide) (by decide)) : mI (pI (pI (pI M m 0 0) (mR M m 18) (sN S 3) who) (mR M m 19) (sN S 3) to) m 3 = mI (pI (pI M m 0 0) (mR M m 18) (sN S 3) who) m 3).trans ((up2_b _ _ _ _ (a0.ne (by decide) (by decide)) : mI (pI (pI M m 0 0) (mR M m 18) (sN S 3) who) m 3 = mI (pI M m 0 0) m 3).trans ((up2_k _ _ _ (by decide) : mI (pI M m 0 0) m 3 = mI M m 3).trans a1.s3))))) dX5_enters_40 ?_
  refine J_iload hC dX5_enters_43 rfl ?_
  refine J_iast hC a0.a21 (j := (sN S 3)) (nI_toInt (by omega)) (Nat.lt_of_lt_of_eq (by omega) a0.l21.symm) dX5_enters_45 ?_
  refine J_aload_n hC dX5_enters_46 rfl rfl ?_
  refine J_get6 hC lf_X5_47 (j := 22) a0.t (v := rv (mR M m 22)) rfl dX5_enters_47 ?_
  refine J_aload_n hC dX5_enters_50 rfl rfl ?_
  refine J_get6 hC lf_X5_166 (j := 3) a0.t (v := .int (nI (sN S 3))) (congrArg (fun z => some (Value.int z)) ((up2_b _ _ _ _ (a0.ne (by decide) (by decide)) : mI (pI (pI (pI (pI (pI M m 0 0) (mR M m 18) (sN S 3) who) (mR M m 19) (sN S 3) to) (mR M m 20) (sN S 3) v) (mR M m 21) (sN S 3) day) m 3 = mI (pI (pI (pI (pI M m 0 0) (mR M m 18) (sN S 3) who) (mR M m 19) (sN S 3) to) (mR M m 20) (sN S 3) v) m 3).trans ((up2_b _ _ _ _ (a0.ne (by decide) (by decide)) : mI (pI (pI (pI (pI M m 0 0) (mR M m 18) (sN S 3) who) (mR M m 19) (sN S 3) to) (mR M m 20) (sN S 3) v) m 3 = mI (pI (pI (pI M m 0 0) (mR M m 18) (sN S 3) who) (mR M m 19) (sN S 3) to) m 3).trans ((up2_b _ _ _ _ (a0.ne (by decide) (by decide)) : mI (pI (pI (pI M m 0 0) (mR M m 18) (sN S 3) who) (mR M m 19) (sN S 3) to) m 3 = mI (pI (pI M m 0 0) (mR M m 18) (sN S 3) who) m 3).trans ((up2_b _ _ _ _ (a0.ne (by decide) (by decide)) : mI (pI (pI M m 0 0) (mR M m 18) (sN S 3) who) m 3 = mI (pI M m 0 0) m 3).trans ((up2_k _ _ _ (by decide) : mI (pI M m 0 0) m 3 = mI M m 3).trans a1.s3)))))) dX5_enters_51 ?_
  refine J_bipush hC dX5_enters_54 (v := 111) (by decide) ?_
  refine J_iast hC a0.a22 (j := (sN S 3)) (nI_toInt (by omega)) (Nat.lt_of_lt_of_eq (by omega) a0.l22.symm) dX5_enters_56 ?_
  refine J_aload_n hC dX5_enters_57 rfl rfl ?_
  refine J_dup hC dX5_enters_58 (rv_cat _) ?_
  refine J_get6 hC lf_X5_166 (j := 3) a0.t (v := .int (nI (sN S 3))) (congrArg (fun z => some (Value.int z)) ((up2_b _ _ _ _ (a0.ne (by decide) (by decide)) : mI (pI (pI (pI (pI (pI (pI M m 0 0) (mR M m 18) (sN S 3) who) (mR M m 19) (sN S 3) to) (mR M m 20) (sN S 3) v) (mR M m 21) (sN S 3) day) (mR M m 22) (sN S 3) 111) m 3 = mI (pI (pI (pI (pI (pI M m 0 0) (mR M m 18) (sN S 3) who) (mR M m 19) (sN S 3) to) (mR M m 20) (sN S 3) v) (mR M m 21) (sN S 3) day) m 3).trans ((up2_b _ _ _ _ (a0.ne (by decide) (by decide)) : mI (pI (pI (pI (pI (pI M m 0 0) (mR M m 18) (sN S 3) who) (mR M m 19) (sN S 3) to) (mR M m 20) (sN S 3) v) (mR M m 21) (sN S 3) day) m 3 = mI (pI (pI (pI (pI M m 0 0) (mR M m 18) (sN S 3) who) (mR M m 19) (sN S 3) to) (mR M m 20) (sN S 3) v) m 3).trans ((up2_b _ _ _ _ (a0.ne (by decide) (by decide)) : mI (pI (pI (pI (pI M m 0 0) (mR M m 18) (sN S 3) who) (mR M m 19) (sN S 3) to) (mR M m 20) (sN S 3) v) m 3 = mI (pI (pI (pI M m 0 0) (mR M m 18) (sN S 3) who) (mR M m 19) (sN S 3) to) m 3).trans ((up2_b _ _ _ _ (a0.ne (by decide) (by decide)) : mI (pI (pI (pI M m 0 0) (mR M m 18) (sN S 3) who) (mR M m 19) (sN S 3) to) m 3 = mI (pI (pI M m 0 0) (mR M m 18) (sN S 3) who) m 3).trans ((up2_b _ _ _ _ (a0.ne (by decide) (by decide)) : mI (pI (pI M m 0 0) (mR M m 18) (sN S 3) who) m 3 = mI (pI M m 0 0) m 3).trans ((up2_k _ _ _ (by decide) : mI (pI M m 0 0) m 3 = mI M m 3).trans a1.s3))))))) dX5_enters_59 ?_
  refine J_iconst hC dX5_enters_62 (v := 1) (by decide) ?_
  refine J_iadd hC dX5_enters_63 ?_
  refine J_put6_3 hC lf_X5_166 a0.t dX5_enters_64 ?_
  obtain ⟨M2, eM2⟩ : ∃ z, z = (pI (pI (pI (pI (pI (pI (pI M m 0 0) (mR M m 18) (sN S 3) who) (mR M m 19) (sN S 3) to) (mR M m 20) (sN S 3) v) (mR M m 21) (sN S 3) day) (mR M m 22) (sN S 3) 111) m 3 ((nI (sN S 3)) + 1)) := ⟨_, rfl⟩
  rw [← eM2]
  rw [nI_1] at eM2
  have hvn := isIx_nI hv
  have hI2 := Inv.note hI hn hw (isIx_ix hv).2 hto hd
  have hM2 : MAt M2 m (noteQ S who (ix v) to day) t := by
    rw [eM2]
    refine ⟨a0, _, _, _, MA1.of_v (Vw.sc (M := (pI (pI (pI (pI (pI (pI M m 0 0) (mR M m 18) (sN S 3) who) (mR M m 19) (sN S 3) to) (mR M m 20) (sN S 3) v) (mR M m 21) (sN S 3) day) (mR M m 22) (sN S 3) 111)) a0 (Vw.arr (M := (pI (pI (pI (pI (pI M m 0 0) (mR M m 18) (sN S 3) who) (mR M m 19) (sN S 3) to) (mR M m 20) (sN S 3) v) (mR M m 21) (sN S 3) day)) a0 (Vw.arr (M := (pI (pI (pI (pI M m 0 0) (mR M m 18) (sN S 3) who) (mR M m 19) (sN S 3) to) (mR M m 20) (sN S 3) v)) a0 (Vw.arr (M := (pI (pI (pI M m 0 0) (mR M m 18) (sN S 3) who) (mR M m 19) (sN S 3) to)) a0 (Vw.arr (M := (pI (pI M m 0 0) (mR M m 18) (sN S 3) who)) a0 (Vw.arr (M := (pI M m 0 0)) a0 (Vw.sc (M := M) a0 (Vw.rf M m) 0 0) 18 (by decide) (by decide) (sN S 3) who) 19 (by decide) (by decide) (sN S 3) to) 20 (by decide) (by decide) (sN S 3) v) 21 (by decide) (by decide) (sN S 3) day) 22 (by decide) (by decide) (sN S 3) 111) 3 (nI (sN S 3 + 1))) (by
      have h9 := MA1v.note (who := who) (to := to) (day := day) (v := ix v) a1.v hn
      rw [← hvn] at h9
      exact h9), bR, bS, bt⟩
  have hF2 : Fr pM M M2 := by rw [eM2]; exact (Fr.trans (Fr.trans (Fr.trans (Fr.trans (Fr.trans (Fr.trans (Fr.trans (Fr.rf pM M) (Fr.pI (a0.fm))) (Fr.pI (a0.fa (by decide) (by decide)))) (Fr.pI (a0.fa (by decide) (by decide)))) (Fr.pI (a0.fa (by decide) (by decide)))) (Fr.pI (a0.fa (by decide) (by decide)))) (Fr.pI (a0.fa (by decide) (by decide)))) (Fr.pI (a0.fm)))
  have hT2 : mI M2 m 0 = 0 := by rw [eM2]; exact ((up2_k _ _ _ (by decide)).trans ((up2_b _ _ _ _ (a0.ne (by decide) (by decide))).trans ((up2_b _ _ _ _ (a0.ne (by decide) (by decide))).trans ((up2_b _ _ _ _ (a0.ne (by decide) (by decide))).trans ((up2_b _ _ _ _ (a0.ne (by decide) (by decide))).trans ((up2_b _ _ _ _ (a0.ne (by decide) (by decide))).trans (up2_same _ _ _ _)))))))
  have h23 : mI M2 m 3 = nI (sN S 3 + 1) := by rw [eM2]; exact up2_same _ _ _ _
  have b0 := hM2.1
  refine J_aload_n hC dX5_enters_67 rfl rfl ?_
  refine J_get6 hC lf_X5_166 (j := 3) b0.t (v := .int (nI (sN S 3 + 1))) (congrArg (fun z => some (Value.int z)) h23) dX5_enters_68 ?_
  refine J_iconst hC dX5_enters_71 (v := 1) (by decide) ?_
  refine J_isub hC dX5_enters_72 ?_
  refine J_istore hC dX5_enters_73 (by decide) (ls1 := [some (rv m), some (.int who), some (.int v), some (.int to), some (.int day), some (.int ((nI (sN S 3 + 1)) - 1))]) rfl ?_
  refine J_aload_n hC dX5_enters_75 rfl rfl ?_
  refine J_iload_n hC dX5_enters_76 rfl rfl ?_
  refine J_callV (k1 := 0) (n1 := 0) (kd := 6) [.int v] [.int v, rv m] hC lv_X5_175 (ct_X5_crosses hst hM2 hI2 v hv) b0.t (by decide) ⟨_, mE_6 b0.t⟩ rfl rfl rfl (by simp only [List.map_cons, List.map_nil, rv_cat, Value.category, List.sum_cons, List.sum_nil]; decide) (by decide) rfl rfl (by decide) (by decide) dX5_enters_77 (fun E M9 h => h.elim) (fun v9 M9 hq9 => ?_)
  obtain ⟨rfl, hM3, hF3, hT3⟩ := hq9
  refine J_iload hC dX5_enters_80 rfl ?_
  refine J_iret hC (by decide) (by decide) dX5_enters_82 ?_
  rw [← nI_1, nI_p1s1]
  exact ⟨rfl, hM3, hF2.trans hF3, hT3.trans hT2⟩
