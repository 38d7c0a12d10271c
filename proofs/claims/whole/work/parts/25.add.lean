/-! a vehicle added -/
def addW (S : St) (who kind b : Int32) : St := uV (addV S who kind) (sN S 1) 6 b
theorem addW_V (S : St) (who kind b : Int32) (u k : Nat) : sV (addW S who kind b) u k = if u = sN S 1 then (if k = 1 then kind else if k = 6 then b else if k = 7 then 0 else sV S u k) else sV S u k := by
  unfold addW addV
  simp only [sV_uN, sV_uD, sV_uC, sV_uP, sV_uV, sV_uL, sV_uT, sV_uQ, sV_uO, up2]
  grind
theorem addW_L (S : St) (who kind b : Int32) (u k : Nat) : sL (addW S who kind b) u k = if u = sN S 1 then (if k < 6 then 0 else sL S u k) else sL S u k := by
  unfold addW addV
  simp only [sL_uN, sL_uD, sL_uC, sL_uP, sL_uV, sL_uL, sL_uT, sL_uQ, sL_uO, up2]
  grind
theorem addW_T (S : St) (who kind b : Int32) (r u : Nat) : sT (addW S who kind b) r u = if u = sN S 1 then (if r = 0 then [(sD S, who)] else if r = 1 ∨ r = 2 then [] else sT S r u) else sT S r u := by
  unfold addW addV
  simp only [sT_uN, sT_uD, sT_uC, sT_uP, sT_uV, sT_uL, sT_uT, sT_uQ, sT_uO, sD_uN, sD_uD, sD_uC, sD_uP, sD_uV, sD_uL, sD_uT, sD_uQ, sD_uO, up2]
  grind
theorem St_ext {A B : St} (h1 : sN A = sN B) (h2 : sD A = sD B) (h3 : sC A = sC B) (h4 : sP A = sP B) (h5 : sV A = sV B) (h6 : sL A = sL B) (h7 : sT A = sT B) (h8 : sQ A = sQ B) (h9 : sO A = sO B) : A = B := by
  obtain ⟨a1, a2, a3, a4, a5, a6, a7, a8, a9⟩ := A
  obtain ⟨b1, b2, b3, b4, b5, b6, b7, b8, b9⟩ := B
  simp only [sN, sD, sC, sP, sV, sL, sT, sQ, sO] at *
  subst h1; subst h2; subst h3; subst h4; subst h5; subst h6; subst h7; subst h8; subst h9
  rfl
theorem addW_0 (S : St) (who kind : Int32) : addW S who kind 0 = addV S who kind := by
  have h : sV (addW S who kind 0) = sV (addV S who kind) := by
    funext u k
    rw [addW_V]
    unfold addV
    simp only [sV_uN, sV_uD, sV_uC, sV_uP, sV_uV, sV_uL, sV_uT, sV_uQ, sV_uO, up2]
    grind
  exact St_ext (by unfold addW; simp only [sN_uV]) (by unfold addW; simp only [sD_uV]) (by unfold addW; simp only [sC_uV]) (by unfold addW; simp only [sP_uV]) h (by unfold addW; simp only [sL_uV]) (by unfold addW; simp only [sT_uV]) (by unfold addW; simp only [sQ_uV]) (by unfold addW; simp only [sO_uV])
theorem addW_1 (S : St) (who kind : Int32) (v : Nat) (hv : v = sN S 1) : uT (issueQ (addW S who kind 1) v) 2 v (setT (sT (issueQ (addW S who kind 1) v) 2 v) (sD S) 1) = onRoad (addV S who kind) v := by
  subst hv
  refine St_ext ?_ ?_ ?_ ?_ ?_ ?_ ?_ ?_ ?_ <;>
  · unfold onRoad issueQ mountQ addW
    generalize hA : addV S who kind = A
    have hD : sD A = sD S := by rw [← hA]; unfold addV; simp only [sD_uN, sD_uD, sD_uC, sD_uP, sD_uV, sD_uL, sD_uT, sD_uQ, sD_uO]
    simp only [sN_uN, sN_uD, sN_uC, sN_uP, sN_uV, sN_uL, sN_uT, sN_uQ, sN_uO, sD_uN, sD_uD, sD_uC, sD_uP, sD_uV, sD_uL, sD_uT, sD_uQ, sD_uO, sC_uN, sC_uD, sC_uC, sC_uP, sC_uV, sC_uL, sC_uT, sC_uQ, sC_uO, sP_uN, sP_uD, sP_uC, sP_uP, sP_uV, sP_uL, sP_uT, sP_uQ, sP_uO, sV_uN, sV_uD, sV_uC, sV_uP, sV_uV, sV_uL, sV_uT, sV_uQ, sV_uO, sL_uN, sL_uD, sL_uC, sL_uP, sL_uV, sL_uL, sL_uT, sL_uQ, sL_uO, sT_uN, sT_uD, sT_uC, sT_uP, sT_uV, sT_uL, sT_uT, sT_uQ, sT_uO, sQ_uN, sQ_uD, sQ_uC, sQ_uP, sQ_uV, sQ_uL, sQ_uT, sQ_uQ, sQ_uO, sO_uN, sO_uD, sO_uC, sO_uP, sO_uV, sO_uL, sO_uT, sO_uQ, sO_uO, hD]
theorem sq_none {V D X : Nat → Int32} {v : Int32} : ∀ {n : Nat}, (∀ j, j < n → ¬ V j = v) → sq V D X v n = []
  | 0, _ => rfl
  | n + 1, h => by rw [sq_n (h n (by omega)), sq_none (fun j hj => h j (by omega))]
theorem isIx_ne {V : Nat → Int32} {n N : Nat} (hn : n < 2 ^ 31) (h : ∀ j, j < N → isIx (V j) n = true) : ∀ j, j < N → ¬ V j = nI n := fun j hj e => by
  have h1 := (isIx_ix (h j hj)).1
  have h2 := (isIx_ix (h j hj)).2
  have h3 : (V j).toInt = (n : Int) := by rw [e, nI_toInt hn]
  omega
theorem isIx_mono {x : Int32} {n N : Nat} (h : isIx x n = true) (hn : n ≤ N) : isIx x N = true := by rw [isIx_iff] at h ⊢; omega
theorem MA1v.addw {sc : Nat → Int32} {c9 : Int64} {ar : Nat → Nat → Int32} {S : St} {who kind b : Int32} {nP nR nS : Nat} (h : MA1v sc c9 ar S nP nR nS) (hn : sN S 1 < 15) (hb : b = 0 ∨ b = 1) : MA1v (va_up (va_up (va_up sc 0 0) 6 (nI (nP + 1))) 2 (nI (sN S 1 + 1))) c9 (up2 (up2 (up2 (up2 (up2 ar 11 (sN S 1) kind) 14 (sN S 1) b) 15 nP (nI (sN S 1))) 16 nP (sD S)) 17 nP who) (addW S who kind b) (nP + 1) nR nS := by
  have bV := h.bV
  have hV := addW_V S who kind b
  have hL := addW_L S who kind b
  have hT := addW_T S who kind b
  have v1 : (va_up (va_up (va_up sc 0 0) 6 (nI (nP + 1))) 2 (nI (sN S 1 + 1))) 1 = sc 1 := rfl
  have v2 : (va_up (va_up (va_up sc 0 0) 6 (nI (nP + 1))) 2 (nI (sN S 1 + 1))) 2 = nI (sN S 1 + 1) := rfl
  have v3 : (va_up (va_up (va_up sc 0 0) 6 (nI (nP + 1))) 2 (nI (sN S 1 + 1))) 3 = sc 3 := rfl
  have v4 : (va_up (va_up (va_up sc 0 0) 6 (nI (nP + 1))) 2 (nI (sN S 1 + 1))) 4 = sc 4 := rfl
  have v5 : (va_up (va_up (va_up sc 0 0) 6 (nI (nP + 1))) 2 (nI (sN S 1 + 1))) 5 = sc 5 := rfl
  have v6 : (va_up (va_up (va_up sc 0 0) 6 (nI (nP + 1))) 2 (nI (sN S 1 + 1))) 6 = nI (nP + 1) := rfl
  have v7 : (va_up (va_up (va_up sc 0 0) 6 (nI (nP + 1))) 2 (nI (sN S 1 + 1))) 7 = sc 7 := rfl
  have v8 : (va_up (va_up (va_up sc 0 0) 6 (nI (nP + 1))) 2 (nI (sN S 1 + 1))) 8 = sc 8 := rfl
  have e10 : (up2 (up2 (up2 (up2 (up2 ar 11 (sN S 1) kind) 14 (sN S 1) b) 15 nP (nI (sN S 1))) 16 nP (sD S)) 17 nP who) 10 = ar 10 := rfl
  have e11 : (up2 (up2 (up2 (up2 (up2 ar 11 (sN S 1) kind) 14 (sN S 1) b) 15 nP (nI (sN S 1))) 16 nP (sD S)) 17 nP who) 11 = va_up (ar 11) (sN S 1) kind := by rw [up2_row _ _ _ (show (11 : Nat) ≠ 17 by decide), up2_row _ _ _ (show (11 : Nat) ≠ 16 by decide), up2_row _ _ _ (show (11 : Nat) ≠ 15 by decide), up2_row _ _ _ (show (11 : Nat) ≠ 14 by decide), up2_va]
  have e12 : (up2 (up2 (up2 (up2 (up2 ar 11 (sN S 1) kind) 14 (sN S 1) b) 15 nP (nI (sN S 1))) 16 nP (sD S)) 17 nP who) 12 = ar 12 := rfl
  have e13 : (up2 (up2 (up2 (up2 (up2 ar 11 (sN S 1) kind) 14 (sN S 1) b) 15 nP (nI (sN S 1))) 16 nP (sD S)) 17 nP who) 13 = ar 13 := rfl
  have e14 : (up2 (up2 (up2 (up2 (up2 ar 11 (sN S 1) kind) 14 (sN S 1) b) 15 nP (nI (sN S 1))) 16 nP (sD S)) 17 nP who) 14 = va_up (ar 14) (sN S 1) b := by rw [up2_row _ _ _ (show (14 : Nat) ≠ 17 by decide), up2_row _ _ _ (show (14 : Nat) ≠ 16 by decide), up2_row _ _ _ (show (14 : Nat) ≠ 15 by decide), up2_va, up2_row _ _ _ (show (14 : Nat) ≠ 11 by decide)]
  have e15 : (up2 (up2 (up2 (up2 (up2 ar 11 (sN S 1) kind) 14 (sN S 1) b) 15 nP (nI (sN S 1))) 16 nP (sD S)) 17 nP who) 15 = va_up (ar 15) nP (nI (sN S 1)) := by rw [up2_row _ _ _ (show (15 : Nat) ≠ 17 by decide), up2_row _ _ _ (show (15 : Nat) ≠ 16 by decide), up2_va, up2_row _ _ _ (show (15 : Nat) ≠ 14 by decide), up2_row _ _ _ (show (15 : Nat) ≠ 11 by decide)]
  have e16 : (up2 (up2 (up2 (up2 (up2 ar 11 (sN S 1) kind) 14 (sN S 1) b) 15 nP (nI (sN S 1))) 16 nP (sD S)) 17 nP who) 16 = va_up (ar 16) nP (sD S) := by rw [up2_row _ _ _ (show (16 : Nat) ≠ 17 by decide), up2_va, up2_row _ _ _ (show (16 : Nat) ≠ 15 by decide), up2_row _ _ _ (show (16 : Nat) ≠ 14 by decide), up2_row _ _ _ (show (16 : Nat) ≠ 11 by decide)]
  have e17 : (up2 (up2 (up2 (up2 (up2 ar 11 (sN S 1) kind) 14 (sN S 1) b) 15 nP (nI (sN S 1))) 16 nP (sD S)) 17 nP who) 17 = va_up (ar 17) nP who := by rw [up2_va, up2_row _ _ _ (show (17 : Nat) ≠ 16 by decide), up2_row _ _ _ (show (17 : Nat) ≠ 15 by decide), up2_row _ _ _ (show (17 : Nat) ≠ 14 by decide), up2_row _ _ _ (show (17 : Nat) ≠ 11 by decide)]
  have e18 : (up2 (up2 (up2 (up2 (up2 ar 11 (sN S 1) kind) 14 (sN S 1) b) 15 nP (nI (sN S 1))) 16 nP (sD S)) 17 nP who) 18 = ar 18 := rfl
  have e19 : (up2 (up2 (up2 (up2 (up2 ar 11 (sN S 1) kind) 14 (sN S 1) b) 15 nP (nI (sN S 1))) 16 nP (sD S)) 17 nP who) 19 = ar 19 := rfl
  have e20 : (up2 (up2 (up2 (up2 (up2 ar 11 (sN S 1) kind) 14 (sN S 1) b) 15 nP (nI (sN S 1))) 16 nP (sD S)) 17 nP who) 20 = ar 20 := rfl
  have e21 : (up2 (up2 (up2 (up2 (up2 ar 11 (sN S 1) kind) 14 (sN S 1) b) 15 nP (nI (sN S 1))) 16 nP (sD S)) 17 nP who) 21 = ar 21 := rfl
  have e22 : (up2 (up2 (up2 (up2 (up2 ar 11 (sN S 1) kind) 14 (sN S 1) b) 15 nP (nI (sN S 1))) 16 nP (sD S)) 17 nP who) 22 = ar 22 := rfl
  have e23 : (up2 (up2 (up2 (up2 (up2 ar 11 (sN S 1) kind) 14 (sN S 1) b) 15 nP (nI (sN S 1))) 16 nP (sD S)) 17 nP who) 23 = ar 23 := rfl
  have e24 : (up2 (up2 (up2 (up2 (up2 ar 11 (sN S 1) kind) 14 (sN S 1) b) 15 nP (nI (sN S 1))) 16 nP (sD S)) 17 nP who) 24 = ar 24 := rfl
  have e25 : (up2 (up2 (up2 (up2 (up2 ar 11 (sN S 1) kind) 14 (sN S 1) b) 15 nP (nI (sN S 1))) 16 nP (sD S)) 17 nP who) 25 = ar 25 := rfl
  have e26 : (up2 (up2 (up2 (up2 (up2 ar 11 (sN S 1) kind) 14 (sN S 1) b) 15 nP (nI (sN S 1))) 16 nP (sD S)) 17 nP who) 26 = ar 26 := rfl
  have e27 : (up2 (up2 (up2 (up2 (up2 ar 11 (sN S 1) kind) 14 (sN S 1) b) 15 nP (nI (sN S 1))) 16 nP (sD S)) 17 nP who) 27 = ar 27 := rfl
  have e28 : (up2 (up2 (up2 (up2 (up2 ar 11 (sN S 1) kind) 14 (sN S 1) b) 15 nP (nI (sN S 1))) 16 nP (sD S)) 17 nP who) 28 = ar 28 := rfl
  have e29 : (up2 (up2 (up2 (up2 (up2 ar 11 (sN S 1) kind) 14 (sN S 1) b) 15 nP (nI (sN S 1))) 16 nP (sD S)) 17 nP who) 29 = ar 29 := rfl
  have e30 : (up2 (up2 (up2 (up2 (up2 ar 11 (sN S 1) kind) 14 (sN S 1) b) 15 nP (nI (sN S 1))) 16 nP (sD S)) 17 nP who) 30 = ar 30 := rfl
  have e31 : (up2 (up2 (up2 (up2 (up2 ar 11 (sN S 1) kind) 14 (sN S 1) b) 15 nP (nI (sN S 1))) 16 nP (sD S)) 17 nP who) 31 = ar 31 := rfl
  have e32 : (up2 (up2 (up2 (up2 (up2 ar 11 (sN S 1) kind) 14 (sN S 1) b) 15 nP (nI (sN S 1))) 16 nP (sD S)) 17 nP who) 32 = ar 32 := rfl
  have hsN : sN (addW S who kind b) = va_up (sN S) 1 (sN S 1 + 1) := (by unfold addW addV; simp only [sN_uN, sN_uD, sN_uC, sN_uP, sN_uV, sN_uL, sN_uT, sN_uQ, sN_uO])
  have hsD : sD (addW S who kind b) = sD S := (by unfold addW addV; simp only [sD_uN, sD_uD, sD_uC, sD_uP, sD_uV, sD_uL, sD_uT, sD_uQ, sD_uO])
  have hsC : sC (addW S who kind b) = sC S := (by unfold addW addV; simp only [sC_uN, sC_uD, sC_uC, sC_uP, sC_uV, sC_uL, sC_uT, sC_uQ, sC_uO])
  have hsP : sP (addW S who kind b) = sP S := (by unfold addW addV; simp only [sP_uN, sP_uD, sP_uC, sP_uP, sP_uV, sP_uL, sP_uT, sP_uQ, sP_uO])
  have hsQ : sQ (addW S who kind b) = sQ S := (by unfold addW addV; simp only [sQ_uN, sQ_uD, sQ_uC, sQ_uP, sQ_uV, sQ_uL, sQ_uT, sQ_uQ, sQ_uO])
  have hsO : sO (addW S who kind b) = sO S := (by unfold addW addV; simp only [sO_uN, sO_uD, sO_uC, sO_uP, sO_uV, sO_uL, sO_uT, sO_uQ, sO_uO])
  generalize va_up (va_up (va_up sc 0 0) 6 (nI (nP + 1))) 2 (nI (sN S 1 + 1)) = C at *
  generalize up2 (up2 (up2 (up2 (up2 ar 11 (sN S 1) kind) 14 (sN S 1) b) 15 nP (nI (sN S 1))) 16 nP (sD S)) 17 nP who = A at *
  generalize addW S who kind b = S9 at *
  unfold MA1v
  rw [v1, v2, v3, v4, v5, v6, v7, v8, e10, e11, e12, e13, e14, e15, e16, e17, e18, e19, e20, e21, e22, e23, e24, e25, e26, e27, e28, e29, e30, e31, e32, hsN, hsD, hsC, hsP, hsQ, hsO]
  exact ⟨h.s1, rfl, h.s3, h.s4, h.s5, rfl, h.s7, h.s8, h.s9, h.paid, (by
    intro u hu
    rw [hV]
    by_cases e : u = sN S 1
    · subst e; rw [va_up_self]; simp
    · rw [va_up_ne _ _ e, if_neg e]; exact h.kind u (by rw [(show va_up (sN S) 1 (sN S 1 + 1) 1 = sN S 1 + 1 from rfl)] at hu; omega)), (by
    intro u hu
    rw [hV]
    by_cases e : u = sN S 1
    · subst e; rw [if_pos rfl]; exact h.scr0 _ (Nat.le_refl _) hn
    · rw [if_neg e]; exact h.scr u (by rw [(show va_up (sN S) 1 (sN S 1 + 1) 1 = sN S 1 + 1 from rfl)] at hu; omega)), (by
    intro u hu
    rw [hV]
    by_cases e : u = sN S 1
    · subst e; rw [va_up_self]; simp
    · rw [va_up_ne _ _ e, if_neg e]; exact h.adm u (by rw [(show va_up (sN S) 1 (sN S 1 + 1) 1 = sN S 1 + 1 from rfl)] at hu; omega)), (by
    intro u hu j hj
    rw [hL]
    by_cases e : u = sN S 1
    · subst e; rw [if_pos rfl, if_pos hj]; exact h.lien0 _ (by omega) (by omega)
    · rw [if_neg e]; exact h.lien u (by rw [(show va_up (sN S) 1 (sN S 1 + 1) 1 = sN S 1 + 1 from rfl)] at hu; omega) j hj), (fun i hi => h.lien0 i (by rw [(show va_up (sN S) 1 (sN S 1 + 1) 1 = sN S 1 + 1 from rfl)] at hi; omega)), (fun i hi => h.scr0 i (by rw [(show va_up (sN S) 1 (sN S 1 + 1) 1 = sN S 1 + 1 from rfl)] at hi; omega)), (by
    intro u hu
    rw [(show va_up (sN S) 1 (sN S 1 + 1) 1 = sN S 1 + 1 from rfl)] at hu
    rw [hT]
    by_cases e : u = sN S 1
    · subst e
      rw [if_pos rfl, sq_y (va_up_self _ _ _), va_up_self, va_up_self, sq_congr (V := ar 15) (D := ar 16) (X := ar 17) (fun j hj => ⟨va_up_ne _ _ (by omega), fun _ => ⟨va_up_ne _ _ (by omega), va_up_ne _ _ (by omega)⟩⟩), sq_none (isIx_ne (by omega) h.r0)]
      rfl
    · rw [if_neg e, sq_n (by rw [va_up_self]; exact fun q => e (nI_inj (by omega) (by omega) q.symm)), sq_congr (V := ar 15) (D := ar 16) (X := ar 17) (fun j hj => ⟨va_up_ne _ _ (by omega), fun _ => ⟨va_up_ne _ _ (by omega), va_up_ne _ _ (by omega)⟩⟩), h.q0 u (by omega)]), (by
    intro u hu
    rw [(show va_up (sN S) 1 (sN S 1 + 1) 1 = sN S 1 + 1 from rfl)] at hu
    rw [hT]
    by_cases e : u = sN S 1
    · subst e
      rw [if_pos rfl]
      exact sq_none (isIx_ne (by omega) h.r1)
    · rw [if_neg e]; exact h.q1 u (by omega)), (by
    intro u hu
    rw [(show va_up (sN S) 1 (sN S 1 + 1) 1 = sN S 1 + 1 from rfl)] at hu
    rw [hT]
    by_cases e : u = sN S 1
    · subst e
      rw [if_pos rfl]
      exact sq_none (isIx_ne (by omega) h.r2)
    · rw [if_neg e]; exact h.q2 u (by omega)), (by
    intro j hj
    rw [(show va_up (sN S) 1 (sN S 1 + 1) 1 = sN S 1 + 1 from rfl)]
    by_cases e : j = nP
    · subst e; rw [va_up_self]; exact isIx_of (by omega) (by omega)
    · rw [va_up_ne _ _ e]; exact isIx_mono (h.r0 j (by omega)) (by omega)), (fun j hj => by rw [(show va_up (sN S) 1 (sN S 1 + 1) 1 = sN S 1 + 1 from rfl)]; exact isIx_mono (h.r1 j hj) (by omega)), (fun j hj => by rw [(show va_up (sN S) 1 (sN S 1 + 1) 1 = sN S 1 + 1 from rfl)]; exact isIx_mono (h.r2 j hj) (by omega)), h.rb, h.n1, h.n2, h.n3, h.n4, h.n5, h.n6, h.p0, h.p1, h.p2, (by
    intro u hu
    rw [hV]
    by_cases e : u = sN S 1
    · rw [if_pos e]; exact Or.inl rfl
    · rw [if_neg e]; exact h.sc u (by rw [(show va_up (sN S) 1 (sN S 1 + 1) 1 = sN S 1 + 1 from rfl)] at hu; omega)), (by
    intro u hu
    rw [hV]
    by_cases e : u = sN S 1
    · rw [if_pos e]; exact hb
    · rw [if_neg e]; exact h.ad u (by rw [(show va_up (sN S) 1 (sN S 1 + 1) 1 = sN S 1 + 1 from rfl)] at hu; omega)), (by
    have c2 := h.cu
    rw [(show va_up (sN S) 1 (sN S 1 + 1) 1 = sN S 1 + 1 from rfl)]
    show 2 * (nP + 1) = 2 * (sN S 1 + 1) + cnt (fun i => decide (sO S i 5 = 117)) (sN S 3)
    omega), h.bK, (by rw [(show va_up (sN S) 1 (sN S 1 + 1) 1 = sN S 1 + 1 from rfl)]; omega), h.bP, h.bN, h.bD⟩
def plc (S : St) (v c : Int32) : Int32 := if lendOk c = true ∧ sL S (ix v) (ix (c - 97)) ≠ 0 then nI (6 * ix v + ix (c - 97)) else -1
theorem lend_ix {c : Int32} (h : lendOk c = true) : c.toInt = 97 + (ix (c - 97) : Int) ∧ ix (c - 97) < 6 := by
  have h1 : 97 ≤ c ∧ c ≤ 102 := of_decide_eq_true h
  rw [i_le, i_le] at h1
  have e1 : (97 : Int32).toInt = 97 := by decide
  have e2 : (102 : Int32).toInt = 102 := by decide
  have h2 := i_sub (a := c) (b := 97) (by omega) (by omega)
  have h3 : ix (c - 97) = (c - 97).toInt.toNat := (Int32.toNat_toInt (c - 97)).symm
  omega
theorem place_ix {v c : Int32} {n : Nat} (hv : isIx v n = true) (hn : n ≤ 15) (h : lendOk c = true) : (6 * v + c - 97).toInt = ((6 * ix v + ix (c - 97) : Nat) : Int) ∧ 6 * v + c - 97 = nI (6 * ix v + ix (c - 97)) := by
  obtain ⟨h1, h2⟩ := isIx_ix hv
  obtain ⟨g1, g2⟩ := lend_ix h
  have e6 : (6 : Int32).toInt = 6 := by decide
  have e97 : (97 : Int32).toInt = 97 := by decide
  have k1 : (6 * v).toInt = 6 * v.toInt := by rw [i_mul (by rw [e6]; omega) (by rw [e6]; omega), e6]
  have k2 : (6 * v + c).toInt = 6 * v.toInt + c.toInt := by rw [i_add (by omega) (by omega), k1]
  have k3 : (6 * v + c - 97).toInt = 6 * v.toInt + c.toInt - 97 := by rw [i_sub (by omega) (by omega), k2, e97]
  have k4 : (6 * v + c - 97).toInt = ((6 * ix v + ix (c - 97) : Nat) : Int) := by omega
  exact ⟨k4, i_ext (by rw [k4, nI_toInt (by omega)])⟩
theorem ct_X5_place {G : Gt} {l : Launch} (hst : l.stackTraces = false) {M : Mm} {m : Nat} {S : St} {t : Nat} (hM : MAt M m S t) (hI : Inv S t) (v c : Int32) (hv : isIx v (sN S 1) = true) : Ct G l yX5_place cX5_place 4 (some .int) 2 M [rv m, .int v, .int c] 0 0 (PQ M (.int (plc S v c))) (noX) := by
  obtain ⟨a0, nP, nR, nS, a1, bR, bS, bt⟩ := id hM
  have bPs := a1.bPs; have bK := a1.bK; have bV := a1.bV; have bPl := a1.bP; have bN := a1.bN
  refine Ct_intro (own := RX5) (nm := "place") (by decide +kernel) rfl rfl hst (fun w hw => by simp only [List.mem_cons, List.not_mem_nil, or_false] at hw; rcases hw with rfl | rfl | rfl <;> first | rfl | exact rv_cat _) (Nat.le_of_ble_eq_true rfl) (fun γ hC => ?_)
  show J G γ M 0 [some (rv m), some (.int v), some (.int c)] [] 0 0
  refine J_iload_n hC dX5_place_0 rfl rfl ?_
  refine J_bipush hC dX5_place_1 (v := 97) (by decide) ?_
  refine J_bipush hC dX5_place_3 (v := 102) (by decide) ?_
  refine J_callS (k1 := 0) (n1 := 0) [.int c, .int 97, .int 102] [.int 102, .int 97, .int c] hC ls_X5_87 (ct_X5_in hst c 97 102) rfl rfl (by simp only [List.map_cons, List.map_nil, rv_cat, Value.category, List.sum_cons, List.sum_nil]; decide) (by decide) rfl rfl (by decide) (by decide) dX5_place_5 (fun E M9 h => h.elim) (fun v9 M9 hq9 => ?_)
  obtain ⟨rfl, e9⟩ := hq9
  rw [e9]; clear e9
  rw [show (if 97 ≤ c ∧ c ≤ 102 then (1 : Int32) else 0) = bz (lendOk c) from by simp [bz, lendOk]]
  refine J_if_ne hC dX5_place_8 (tgt := 13) (by decide) (fun c8 => ?_) (fun c8 => ?_)
  · have hlo := bz_ne0 c8
    obtain ⟨hpi, hpe⟩ := place_ix hv bV hlo
    obtain ⟨hl1, hl2⟩ := lend_ix hlo
    have hvx := (isIx_ix hv).2
    obtain ⟨hp1, hp2⟩ := hI.li _ hvx _ hl2
    have hlv : mI M (mR M m 12) (6 * ix v + ix (c - 97)) = sL S (ix v) (ix (c - 97)) := a1.lien _ hvx _ hl2
    refine J_bipush hC dX5_place_13 (v := 6) (by decide) ?_
    refine J_iload_n hC dX5_place_15 rfl rfl ?_
    refine J_imul hC dX5_place_16 ?_
    refine J_iload_n hC dX5_place_17 rfl rfl ?_
    refine J_iadd hC dX5_place_18 ?_
    refine J_bipush hC dX5_place_19 (v := 97) (by decide) ?_
    refine J_isub hC dX5_place_21 ?_
    refine J_istore_n hC dX5_place_22 rfl (by decide) (ls1 := [some (rv m), some (.int v), some (.int c), some (.int (((6 * v) + c) - 97))]) rfl ?_
    refine J_aload_n hC dX5_place_23 rfl rfl ?_
    refine J_get6 hC lf_X5_16 (j := 12) a0.t (v := rv (mR M m 12)) rfl dX5_place_24 ?_
    refine J_iload_n hC dX5_place_27 rfl rfl ?_
    refine J_iald hC a0.a12 (j := (6 * ix v + ix (c - 97))) hpi (by rw [a0.l12]; omega) dX5_place_28 ?_
    rw [hlv]
    refine J_if_le hC dX5_place_29 (tgt := 36) (by decide) (fun c29 => ?_) (fun c29 => ?_)
    · refine J_iconst hC dX5_place_36 (v := -1) (by decide) ?_
      refine J_iret hC (by decide) (by decide) dX5_place_37 ?_
      refine ⟨?_, rfl⟩
      unfold plc
      have z0 : (0 : Int32).toInt = 0 := by decide
      rw [if_neg (fun q => q.2 (i_ext (by rw [i_le] at c29; omega)))]
    · refine J_iload_n hC dX5_place_32 rfl rfl ?_
      refine J_goto hC dX5_place_33 (tgt := 37) (by decide) ?_
      refine J_iret hC (by decide) (by decide) dX5_place_37 ?_
      refine ⟨?_, rfl⟩
      unfold plc
      rw [if_pos ⟨hlo, fun q => c29 (by rw [q]; exact Int32.le_refl _)⟩, hpe]
  · 
    refine J_iconst hC dX5_place_11 (v := -1) (by decide) ?_
    refine J_iret hC (by decide) (by decide) dX5_place_12 ?_
    refine ⟨?_, rfl⟩
    unfold plc
    rw [if_neg (fun q => by rw [bz_eq0 (nn c8)] at q; exact absurd q.1 (by decide))]
