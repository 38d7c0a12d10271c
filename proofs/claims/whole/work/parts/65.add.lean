/-! things entered -/
abbrev adM (M : Mm) (x k f n a : Nat) : Mm := pI (pR M (mR M x k) n a) x f (nI (n + 1))
theorem CAt.adv {M : Mm} {x a : Nat} {S S1 : St} (h : CAt M x S) (hlt : sN S 1 < 15) (ha : VeA M a (sN S 1) S1) (eN : sN S1 = va_up (sN S) 1 (sN S 1 + 1)) (eD : sD S1 = sD S) (eC : sC S1 = sC S) (eP : sP S1 = sP S) (eV : ∀ i, i < sN S 1 → sV S1 i = sV S i) (eL : ∀ i, i < sN S 1 → sL S1 i = sL S i) (e0 : ∀ i, i < sN S 1 → sT S1 0 i = sT S 0 i) (e1 : ∀ i, i < sN S 1 → sT S1 1 i = sT S 1 i) (e2 : ∀ i, i < sN S 1 → sT S1 2 i = sT S 2 i) (eQ : ∀ i, i < sN S 2 → sQ S1 i = sQ S i) (e3 : ∀ i, i < sN S 2 → sT S1 3 i = sT S 3 i) (eO : ∀ i, i < sN S 3 → sO S1 i = sO S i) : CAt (adM M x 0 7 (sN S 1) a) x S1 ∧ Sw M (adM M x 0 7 (sN S 1) a) x S ∧ vA (adM M x 0 7 (sN S 1) a) x (sN S 1) = a ∧ Fr pC M (adM M x 0 7 (sN S 1) a) := by
  obtain ⟨t, ⟨t0, l0⟩, ⟨t1, l1⟩, ⟨t2, l2⟩, ⟨t3, l3⟩, ⟨t4, l4⟩, ⟨t5, l5⟩⟩ := id h.a0
  have F : Fr (fun t => t = (5, 0) ∨ t = (9, 0)) M (adM M x 0 7 (sN S 1) a) := ((Fr.pR t0).mono (fun t h => Or.inr h)).trans ((Fr.pI (M := pR M (mR M x 0) (sN S 1) a) t).mono (fun t h => Or.inl h))
  have nF : ∀ {k i : Nat}, k ≠ 5 → k ≠ 9 → ¬ (((k, i) : Nat × Nat) = (5, 0) ∨ ((k, i) : Nat × Nat) = (9, 0)) := fun h1 h2 h3 => h3.elim (fun e => h1 (congrArg Prod.fst e)) (fun e => h2 (congrArg Prod.fst e))
  have hx : mR (adM M x 0 7 (sN S 1) a) x = mR M x := up2_row _ _ _ (tg_ne t t0 (by decide))
  have gn : vA (adM M x 0 7 (sN S 1) a) x (sN S 1) = a := by
    show mR _ (mR _ x 0) _ = _
    rw [hx]; exact up2_same _ _ _ _
  have gv : ∀ i, i ≠ sN S 1 → vA (adM M x 0 7 (sN S 1) a) x i = vA M x i := fun i hi => by
    show mR _ (mR _ x 0) _ = _
    rw [hx]; exact up2_k _ _ _ hi
  have gp : ∀ i, pA (adM M x 0 7 (sN S 1) a) x i = pA M x i := fun i => by
    show mR _ (mR _ x 1) _ = _
    rw [hx]; exact congrFun (up2_row (mR M) (sN S 1) a (tg_ne t1 t0 (by decide))) i
  have go : ∀ i, nA (adM M x 0 7 (sN S 1) a) x i = nA M x i := fun i => by
    show mR _ (mR _ x 2) _ = _
    rw [hx]; exact congrFun (up2_row (mR M) (sN S 1) a (tg_ne t2 t0 (by decide))) i
  have hpd := h.pdf F (nF (by decide) (by decide))
  have c3 := F.at t3 (by decide) (nF (by decide) (by decide))
  have c4 := F.at t4 (by decide) (nF (by decide) (by decide))
  have c5 := F.at t5 (by decide) (nF (by decide) (by decide))
  refine ⟨⟨?_, ⟨(by rw [eN, va_up_ne _ _ (by decide)]; exact (up2_k _ _ _ (by decide)).trans h.c6), (by rw [eN, va_up_self]; exact up2_same _ _ _ _), (by rw [eN, va_up_ne _ _ (by decide)]; exact (up2_k _ _ _ (by decide)).trans h.c8), (by rw [eN, va_up_ne _ _ (by decide)]; exact (up2_k _ _ _ (by decide)).trans h.c9), (by rw [eD]; exact (up2_k _ _ _ (by decide)).trans h.c10), (by rw [eC]; exact h.c11)⟩, ?_, ⟨fun i hi => by
    rw [eN, va_up_self] at hi
    by_cases e : i = sN S 1
    · subst e; rw [gn]; exact ha.fr F (nF (by decide) (by decide)) (nF (by decide) (by decide)) (fun c h1 h2 => ⟨nF (by decide) (by decide), nF (by decide) (by decide), nF (by decide) (by decide)⟩)
    · have hi2 : i < sN S 1 := by omega
      rw [gv i e]; exact ((h.v.1 i hi2).fr F (nF (by decide) (by decide)) (nF (by decide) (by decide)) (fun c h1 h2 => ⟨nF (by decide) (by decide), nF (by decide) (by decide), nF (by decide) (by decide)⟩)).st (eV _ hi2) (eL _ hi2) (e0 _ hi2) (e1 _ hi2) (e2 _ hi2), fun i h1 h2 => by
    rw [eN, va_up_self] at h1
    rw [gv i (by omega)]; exact h.v.2 i (by omega) h2⟩, ⟨fun i hi => by
    rw [eN, va_up_ne _ _ (by decide)] at hi
    rw [gp]; exact ((h.p.1 i hi).fr F (nF (by decide) (by decide)) (nF (by decide) (by decide)) (nF (by decide) (by decide)) (nF (by decide) (by decide))).st (eQ _ hi) (e3 _ hi), fun i h1 h2 => by
    rw [eN, va_up_ne _ _ (by decide)] at h1
    rw [gp]; exact h.p.2 i h1 h2⟩, ⟨fun i hi => by
    rw [eN, va_up_ne _ _ (by decide)] at hi
    rw [go]; exact ((h.o.1 i hi).fr F (nF (by decide) (by decide))).st (eO _ hi), fun i h1 h2 => by
    rw [eN, va_up_ne _ _ (by decide)] at h1
    rw [go]; exact h.o.2 i h1 h2⟩, (by rw [eN, va_up_ne _ _ (by decide)]; exact h.b.1), (by rw [eN, va_up_self]; omega), (by rw [eN, va_up_ne _ _ (by decide)]; exact h.b.2.2.1), (by rw [eN, va_up_ne _ _ (by decide)]; exact h.b.2.2.2)⟩, ⟨fun i hi => gv i (by omega), fun i _ => gp i, fun i _ => go i⟩, gn, F.mono (fun t ht => by rcases ht with ht | ht <;> rw [ht] <;> decide)⟩
  · unfold CA0
    rw [hx]
    exact ⟨t, ⟨t0, l0⟩, ⟨t1, l1⟩, ⟨t2, l2⟩, ⟨t3, l3⟩, ⟨t4, l4⟩, ⟨t5, l5⟩⟩
  · rw [hx, eP]; exact hpd
theorem CAt.adp {M : Mm} {x a : Nat} {S S1 : St} (h : CAt M x S) (hlt : sN S 2 < 40) (ha : PlA M a (sN S 2) S1) (eN : sN S1 = va_up (sN S) 2 (sN S 2 + 1)) (eD : sD S1 = sD S) (eC : sC S1 = sC S) (eP : sP S1 = sP S) (eV : ∀ i, i < sN S 1 → sV S1 i = sV S i) (eL : ∀ i, i < sN S 1 → sL S1 i = sL S i) (e0 : ∀ i, i < sN S 1 → sT S1 0 i = sT S 0 i) (e1 : ∀ i, i < sN S 1 → sT S1 1 i = sT S 1 i) (e2 : ∀ i, i < sN S 1 → sT S1 2 i = sT S 2 i) (eQ : ∀ i, i < sN S 2 → sQ S1 i = sQ S i) (e3 : ∀ i, i < sN S 2 → sT S1 3 i = sT S 3 i) (eO : ∀ i, i < sN S 3 → sO S1 i = sO S i) : CAt (adM M x 1 8 (sN S 2) a) x S1 ∧ Sw M (adM M x 1 8 (sN S 2) a) x S ∧ pA (adM M x 1 8 (sN S 2) a) x (sN S 2) = a ∧ Fr pC M (adM M x 1 8 (sN S 2) a) := by
  obtain ⟨t, ⟨t0, l0⟩, ⟨t1, l1⟩, ⟨t2, l2⟩, ⟨t3, l3⟩, ⟨t4, l4⟩, ⟨t5, l5⟩⟩ := id h.a0
  have F : Fr (fun t => t = (5, 0) ∨ t = (10, 0)) M (adM M x 1 8 (sN S 2) a) := ((Fr.pR t1).mono (fun t h => Or.inr h)).trans ((Fr.pI (M := pR M (mR M x 1) (sN S 2) a) t).mono (fun t h => Or.inl h))
  have nF : ∀ {k i : Nat}, k ≠ 5 → k ≠ 10 → ¬ (((k, i) : Nat × Nat) = (5, 0) ∨ ((k, i) : Nat × Nat) = (10, 0)) := fun h1 h2 h3 => h3.elim (fun e => h1 (congrArg Prod.fst e)) (fun e => h2 (congrArg Prod.fst e))
  have hx : mR (adM M x 1 8 (sN S 2) a) x = mR M x := up2_row _ _ _ (tg_ne t t1 (by decide))
  have gn : pA (adM M x 1 8 (sN S 2) a) x (sN S 2) = a := by
    show mR _ (mR _ x 1) _ = _
    rw [hx]; exact up2_same _ _ _ _
  have gp : ∀ i, i ≠ sN S 2 → pA (adM M x 1 8 (sN S 2) a) x i = pA M x i := fun i hi => by
    show mR _ (mR _ x 1) _ = _
    rw [hx]; exact up2_k _ _ _ hi
  have gv : ∀ i, vA (adM M x 1 8 (sN S 2) a) x i = vA M x i := fun i => by
    show mR _ (mR _ x 0) _ = _
    rw [hx]; exact congrFun (up2_row (mR M) (sN S 2) a (tg_ne t0 t1 (by decide))) i
  have go : ∀ i, nA (adM M x 1 8 (sN S 2) a) x i = nA M x i := fun i => by
    show mR _ (mR _ x 2) _ = _
    rw [hx]; exact congrFun (up2_row (mR M) (sN S 2) a (tg_ne t2 t1 (by decide))) i
  have hpd := h.pdf F (nF (by decide) (by decide))
  have c3 := F.at t3 (by decide) (nF (by decide) (by decide))
  have c4 := F.at t4 (by decide) (nF (by decide) (by decide))
  have c5 := F.at t5 (by decide) (nF (by decide) (by decide))
  refine ⟨⟨?_, ⟨(by rw [eN, va_up_ne _ _ (by decide)]; exact (up2_k _ _ _ (by decide)).trans h.c6), (by rw [eN, va_up_ne _ _ (by decide)]; exact (up2_k _ _ _ (by decide)).trans h.c7), (by rw [eN, va_up_self]; exact up2_same _ _ _ _), (by rw [eN, va_up_ne _ _ (by decide)]; exact (up2_k _ _ _ (by decide)).trans h.c9), (by rw [eD]; exact (up2_k _ _ _ (by decide)).trans h.c10), (by rw [eC]; exact h.c11)⟩, ?_, ⟨fun i hi => by
    rw [eN, va_up_ne _ _ (by decide)] at hi
    rw [gv]; exact ((h.v.1 i hi).fr F (nF (by decide) (by decide)) (nF (by decide) (by decide)) (fun c h1 h2 => ⟨nF (by decide) (by decide), nF (by decide) (by decide), nF (by decide) (by decide)⟩)).st (eV _ hi) (eL _ hi) (e0 _ hi) (e1 _ hi) (e2 _ hi), fun i h1 h2 => by
    rw [eN, va_up_ne _ _ (by decide)] at h1
    rw [gv]; exact h.v.2 i h1 h2⟩, ⟨fun i hi => by
    rw [eN, va_up_self] at hi
    by_cases e : i = sN S 2
    · subst e; rw [gn]; exact ha.fr F (nF (by decide) (by decide)) (nF (by decide) (by decide)) (nF (by decide) (by decide)) (nF (by decide) (by decide))
    · have hi2 : i < sN S 2 := by omega
      rw [gp i e]; exact ((h.p.1 i hi2).fr F (nF (by decide) (by decide)) (nF (by decide) (by decide)) (nF (by decide) (by decide)) (nF (by decide) (by decide))).st (eQ _ hi2) (e3 _ hi2), fun i h1 h2 => by
    rw [eN, va_up_self] at h1
    rw [gp i (by omega)]; exact h.p.2 i (by omega) h2⟩, ⟨fun i hi => by
    rw [eN, va_up_ne _ _ (by decide)] at hi
    rw [go]; exact ((h.o.1 i hi).fr F (nF (by decide) (by decide))).st (eO _ hi), fun i h1 h2 => by
    rw [eN, va_up_ne _ _ (by decide)] at h1
    rw [go]; exact h.o.2 i h1 h2⟩, (by rw [eN, va_up_ne _ _ (by decide)]; exact h.b.1), (by rw [eN, va_up_ne _ _ (by decide)]; exact h.b.2.1), (by rw [eN, va_up_self]; omega), (by rw [eN, va_up_ne _ _ (by decide)]; exact h.b.2.2.2)⟩, ⟨fun i _ => gv i, fun i hi => gp i (by omega), fun i _ => go i⟩, gn, F.mono (fun t ht => by rcases ht with ht | ht <;> rw [ht] <;> decide)⟩
  · unfold CA0
    rw [hx]
    exact ⟨t, ⟨t0, l0⟩, ⟨t1, l1⟩, ⟨t2, l2⟩, ⟨t3, l3⟩, ⟨t4, l4⟩, ⟨t5, l5⟩⟩
  · rw [hx, eP]; exact hpd
theorem CAt.ado {M : Mm} {x a : Nat} {S S1 : St} (h : CAt M x S) (hlt : sN S 3 < 120) (ha : NtA M a (sN S 3) S1) (eN : sN S1 = va_up (sN S) 3 (sN S 3 + 1)) (eD : sD S1 = sD S) (eC : sC S1 = sC S) (eP : sP S1 = sP S) (eV : ∀ i, i < sN S 1 → sV S1 i = sV S i) (eL : ∀ i, i < sN S 1 → sL S1 i = sL S i) (e0 : ∀ i, i < sN S 1 → sT S1 0 i = sT S 0 i) (e1 : ∀ i, i < sN S 1 → sT S1 1 i = sT S 1 i) (e2 : ∀ i, i < sN S 1 → sT S1 2 i = sT S 2 i) (eQ : ∀ i, i < sN S 2 → sQ S1 i = sQ S i) (e3 : ∀ i, i < sN S 2 → sT S1 3 i = sT S 3 i) (eO : ∀ i, i < sN S 3 → sO S1 i = sO S i) : CAt (adM M x 2 9 (sN S 3) a) x S1 ∧ Sw M (adM M x 2 9 (sN S 3) a) x S ∧ nA (adM M x 2 9 (sN S 3) a) x (sN S 3) = a ∧ Fr pC M (adM M x 2 9 (sN S 3) a) := by
  obtain ⟨t, ⟨t0, l0⟩, ⟨t1, l1⟩, ⟨t2, l2⟩, ⟨t3, l3⟩, ⟨t4, l4⟩, ⟨t5, l5⟩⟩ := id h.a0
  have F : Fr (fun t => t = (5, 0) ∨ t = (11, 0)) M (adM M x 2 9 (sN S 3) a) := ((Fr.pR t2).mono (fun t h => Or.inr h)).trans ((Fr.pI (M := pR M (mR M x 2) (sN S 3) a) t).mono (fun t h => Or.inl h))
  have nF : ∀ {k i : Nat}, k ≠ 5 → k ≠ 11 → ¬ (((k, i) : Nat × Nat) = (5, 0) ∨ ((k, i) : Nat × Nat) = (11, 0)) := fun h1 h2 h3 => h3.elim (fun e => h1 (congrArg Prod.fst e)) (fun e => h2 (congrArg Prod.fst e))
  have hx : mR (adM M x 2 9 (sN S 3) a) x = mR M x := up2_row _ _ _ (tg_ne t t2 (by decide))
  have gn : nA (adM M x 2 9 (sN S 3) a) x (sN S 3) = a := by
    show mR _ (mR _ x 2) _ = _
    rw [hx]; exact up2_same _ _ _ _
  have go : ∀ i, i ≠ sN S 3 → nA (adM M x 2 9 (sN S 3) a) x i = nA M x i := fun i hi => by
    show mR _ (mR _ x 2) _ = _
    rw [hx]; exact up2_k _ _ _ hi
  have gv : ∀ i, vA (adM M x 2 9 (sN S 3) a) x i = vA M x i := fun i => by
    show mR _ (mR _ x 0) _ = _
    rw [hx]; exact congrFun (up2_row (mR M) (sN S 3) a (tg_ne t0 t2 (by decide))) i
  have gp : ∀ i, pA (adM M x 2 9 (sN S 3) a) x i = pA M x i := fun i => by
    show mR _ (mR _ x 1) _ = _
    rw [hx]; exact congrFun (up2_row (mR M) (sN S 3) a (tg_ne t1 t2 (by decide))) i
  have hpd := h.pdf F (nF (by decide) (by decide))
  have c3 := F.at t3 (by decide) (nF (by decide) (by decide))
  have c4 := F.at t4 (by decide) (nF (by decide) (by decide))
  have c5 := F.at t5 (by decide) (nF (by decide) (by decide))
  refine ⟨⟨?_, ⟨(by rw [eN, va_up_ne _ _ (by decide)]; exact (up2_k _ _ _ (by decide)).trans h.c6), (by rw [eN, va_up_ne _ _ (by decide)]; exact (up2_k _ _ _ (by decide)).trans h.c7), (by rw [eN, va_up_ne _ _ (by decide)]; exact (up2_k _ _ _ (by decide)).trans h.c8), (by rw [eN, va_up_self]; exact up2_same _ _ _ _), (by rw [eD]; exact (up2_k _ _ _ (by decide)).trans h.c10), (by rw [eC]; exact h.c11)⟩, ?_, ⟨fun i hi => by
    rw [eN, va_up_ne _ _ (by decide)] at hi
    rw [gv]; exact ((h.v.1 i hi).fr F (nF (by decide) (by decide)) (nF (by decide) (by decide)) (fun c h1 h2 => ⟨nF (by decide) (by decide), nF (by decide) (by decide), nF (by decide) (by decide)⟩)).st (eV _ hi) (eL _ hi) (e0 _ hi) (e1 _ hi) (e2 _ hi), fun i h1 h2 => by
    rw [eN, va_up_ne _ _ (by decide)] at h1
    rw [gv]; exact h.v.2 i h1 h2⟩, ⟨fun i hi => by
    rw [eN, va_up_ne _ _ (by decide)] at hi
    rw [gp]; exact ((h.p.1 i hi).fr F (nF (by decide) (by decide)) (nF (by decide) (by decide)) (nF (by decide) (by decide)) (nF (by decide) (by decide))).st (eQ _ hi) (e3 _ hi), fun i h1 h2 => by
    rw [eN, va_up_ne _ _ (by decide)] at h1
    rw [gp]; exact h.p.2 i h1 h2⟩, ⟨fun i hi => by
    rw [eN, va_up_self] at hi
    by_cases e : i = sN S 3
    · subst e; rw [gn]; exact ha.fr F (nF (by decide) (by decide))
    · have hi2 : i < sN S 3 := by omega
      rw [go i e]; exact ((h.o.1 i hi2).fr F (nF (by decide) (by decide))).st (eO _ hi2), fun i h1 h2 => by
    rw [eN, va_up_self] at h1
    rw [go i (by omega)]; exact h.o.2 i (by omega) h2⟩, (by rw [eN, va_up_ne _ _ (by decide)]; exact h.b.1), (by rw [eN, va_up_ne _ _ (by decide)]; exact h.b.2.1), (by rw [eN, va_up_ne _ _ (by decide)]; exact h.b.2.2.1), (by rw [eN, va_up_self]; omega)⟩, ⟨fun i _ => gv i, fun i _ => gp i, fun i hi => go i (by omega)⟩, gn, F.mono (fun t ht => by rcases ht with ht | ht <;> rw [ht] <;> decide)⟩
  · unfold CA0
    rw [hx]
    exact ⟨t, ⟨t0, l0⟩, ⟨t1, l1⟩, ⟨t2, l2⟩, ⟨t3, l3⟩, ⟨t4, l4⟩, ⟨t5, l5⟩⟩
  · rw [hx, eP]; exact hpd
/-- a plate issued, on no vehicle yet -/
def newP (S : St) : St := uN (uT (uQ (uQ S (sN S 2) 2 (-1)) (sN S 2) 3 (-1)) 3 (sN S 2) []) 2 (sN S 2 + 1)
theorem newP_lt (S : St) : sN S 2 < sN (newP S) 2 := by
  show sN S 2 < va_up (sN S) 2 (sN S 2 + 1) 2
  rw [va_up_self]; omega
theorem newP_N (S : St) : sN (newP S) = va_up (sN S) 2 (sN S 2 + 1) := rfl
theorem addV_N (S : St) (w k : Int32) : sN (addV S w k) = va_up (sN S) 1 (sN S 1 + 1) := by unfold addV; simp only [sN_uN, sN_uD, sN_uC, sN_uP, sN_uV, sN_uL, sN_uT, sN_uQ, sN_uO]
theorem addV_D (S : St) (w k : Int32) : sD (addV S w k) = sD S := by unfold addV; simp only [sD_uN, sD_uD, sD_uC, sD_uP, sD_uV, sD_uL, sD_uT, sD_uQ, sD_uO]
theorem addV_C (S : St) (w k : Int32) : sC (addV S w k) = sC S := by unfold addV; simp only [sC_uN, sC_uD, sC_uC, sC_uP, sC_uV, sC_uL, sC_uT, sC_uQ, sC_uO]
theorem addV_P (S : St) (w k : Int32) : sP (addV S w k) = sP S := by unfold addV; simp only [sP_uN, sP_uD, sP_uC, sP_uP, sP_uV, sP_uL, sP_uT, sP_uQ, sP_uO]
theorem addV_V (S : St) (w k : Int32) : sV (addV S w k) = up2 (up2 (up2 (sV S) (sN S 1) 1 k) (sN S 1) 6 0) (sN S 1) 7 0 := by unfold addV; simp only [sV_uN, sV_uD, sV_uC, sV_uP, sV_uV, sV_uL, sV_uT, sV_uQ, sV_uO]
theorem addV_L (S : St) (w k : Int32) : sL (addV S w k) = up2 (up2 (up2 (up2 (up2 (up2 (sL S) (sN S 1) 0 0) (sN S 1) 1 0) (sN S 1) 2 0) (sN S 1) 3 0) (sN S 1) 4 0) (sN S 1) 5 0 := by unfold addV; simp only [sL_uN, sL_uD, sL_uC, sL_uP, sL_uV, sL_uL, sL_uT, sL_uQ, sL_uO]
theorem addV_T (S : St) (w k : Int32) : sT (addV S w k) = up2 (up2 (up2 (sT S) 0 (sN S 1) [(sD S, w)]) 1 (sN S 1) []) 2 (sN S 1) [] := by unfold addV; simp only [sT_uN, sT_uD, sT_uC, sT_uP, sT_uV, sT_uL, sT_uT, sT_uQ, sT_uO]
theorem addV_Q (S : St) (w k : Int32) : sQ (addV S w k) = sQ S := by unfold addV; simp only [sQ_uN, sQ_uD, sQ_uC, sQ_uP, sQ_uV, sQ_uL, sQ_uT, sQ_uQ, sQ_uO]
theorem addV_O (S : St) (w k : Int32) : sO (addV S w k) = sO S := by unfold addV; simp only [sO_uN, sO_uD, sO_uC, sO_uP, sO_uV, sO_uL, sO_uT, sO_uQ, sO_uO]
theorem addV_lt (S : St) (w k : Int32) : sN S 1 < sN (addV S w k) 1 := by
  rw [addV_N, va_up_self]; omega
/-- the plate's picture at its making -/
theorem CAt.mkp {M M1 : Mm} {x a : Nat} {S : St} (h : CAt M x S) (hlt : sN S 2 < 40) (hF : Fr (fun t => t = (2, sN S 2) ∨ tlP (4 * sN S 2 + 3) t) M M1) (t : mT M1 a = (2, sN S 2)) (v0 : mI M1 a 0 = nI (sN S 2)) (v2 : mI M1 a 2 = -1) (v3 : mI M1 a 3 = -1) (hT : TlA M1 (mR M1 a 1) (4 * sN S 2 + 3) []) : CAt M1 x S ∧ Sm M M1 x ∧ PlA M1 a (sN S 2) (newP S) := by
  obtain ⟨bK, bV, bP, bN⟩ := h.b
  have n1 : ∀ {k i : Nat}, k ≠ 2 → k ≠ 3 → k ≠ 7 → ¬ (((k, i) : Nat × Nat) = (2, sN S 2) ∨ tlP (4 * sN S 2 + 3) (k, i)) := fun h1 h2 h3 q => q.elim (fun e => h1 (congrArg Prod.fst e)) (nTl_1 h2 h3)
  have n7 : ∀ {i : Nat}, i < 100 → ¬ (((7, i) : Nat × Nat) = (2, sN S 2) ∨ tlP (4 * sN S 2 + 3) (7, i)) := fun h1 q => q.elim (fun e => absurd (congrArg Prod.fst e) (show (7 : Nat) ≠ 2 by decide)) (nTl_7 h1)
  have nt : ∀ {c : Nat}, c ≠ 4 * sN S 2 + 3 → ¬ (((3, c) : Nat × Nat) = (2, sN S 2) ∨ tlP (4 * sN S 2 + 3) (3, c)) ∧ ¬ (((7, 100 + 2 * c) : Nat × Nat) = (2, sN S 2) ∨ tlP (4 * sN S 2 + 3) (7, 100 + 2 * c)) ∧ ¬ (((7, 101 + 2 * c) : Nat × Nat) = (2, sN S 2) ∨ tlP (4 * sN S 2 + 3) (7, 101 + 2 * c)) := fun hc => ⟨fun q => q.elim (fun e => absurd (congrArg Prod.fst e) (show (3 : Nat) ≠ 2 by decide)) (nTl_t hc).1, fun q => q.elim (fun e => absurd (congrArg Prod.fst e) (show (7 : Nat) ≠ 2 by decide)) (nTl_t hc).2.1, fun q => q.elim (fun e => absurd (congrArg Prod.fst e) (show (7 : Nat) ≠ 2 by decide)) (nTl_t hc).2.2⟩
  obtain ⟨hn, hx⟩ := CAn.fr h hF (n1 (by decide) (by decide) (by decide))
  have k1 := h.mk (S1 := S) hF hx (n1 (by decide) (by decide) (by decide)) (n1 (by decide) (by decide) (by decide)) (n1 (by decide) (by decide) (by decide)) (fun a ha => by rcases ha with ha | ha | ha <;> exact (hF.at ha (show (7 : Nat) ≠ 0 by decide) (n7 (by decide))).2.1) hn (h.pdf hF (n7 (by decide))) rfl rfl rfl bK
    (fun i hi hv => hv.fr hF (n1 (by decide) (by decide) (by decide)) (n7 (by omega)) (fun c h1 h2 => nt (by omega)))
    (fun i hi hv => hv.fr hF (fun q => q.elim (fun e => by have := congrArg Prod.snd e; simp only at this; omega) (nTl_1 (by decide) (by decide))) (nt (by omega)).1 (nt (by omega)).2.1 (nt (by omega)).2.2)
    (fun i hi hv => hv.fr hF (n1 (by decide) (by decide) (by decide)))
  refine ⟨k1.1, k1.2, t, v0, ?_, ?_, ?_⟩
  · show mI M1 a 2 = up2 (up2 (sQ S) (sN S 2) 2 (-1)) (sN S 2) 3 (-1) (sN S 2) 2
    rw [up2_k _ _ _ (by decide), up2_same, v2]
  · show mI M1 a 3 = up2 (up2 (sQ S) (sN S 2) 2 (-1)) (sN S 2) 3 (-1) (sN S 2) 3
    rw [up2_same, v3]
  · show TlA M1 (mR M1 a 1) (4 * sN S 2 + 3) (up2 (sT S) 3 (sN S 2) [] 3 (sN S 2))
    rw [up2_same]; exact hT
theorem CAt.newP {M : Mm} {x a : Nat} {S : St} (h : CAt M x S) (hlt : sN S 2 < 40) (ha : PlA M a (sN S 2) (newP S)) : CAt (adM M x 1 8 (sN S 2) a) x (newP S) ∧ Sw M (adM M x 1 8 (sN S 2) a) x S ∧ pA (adM M x 1 8 (sN S 2) a) x (sN S 2) = a ∧ Fr pC M (adM M x 1 8 (sN S 2) a) := by
  refine h.adp hlt ha rfl rfl rfl rfl (fun i hi => rfl) (fun i hi => rfl) ?_ ?_ ?_ ?_ ?_ (fun i hi => rfl)
  · intro i hi; exact congrFun (up2_row (sT S) (sN S 2) [] (show (0 : Nat) ≠ 3 by decide)) i
  · intro i hi; exact congrFun (up2_row (sT S) (sN S 2) [] (show (1 : Nat) ≠ 3 by decide)) i
  · intro i hi; exact congrFun (up2_row (sT S) (sN S 2) [] (show (2 : Nat) ≠ 3 by decide)) i
  · intro i hi
    show up2 (up2 (sQ S) (sN S 2) 2 (-1)) (sN S 2) 3 (-1) i = _
    rw [up2_row _ _ _ (by omega), up2_row _ _ _ (by omega)]
  · intro i hi
    show up2 (sT S) 3 (sN S 2) [] 3 i = _
    exact up2_b' _ _ _ _ (by omega)
theorem nVe {i k j : Nat} (h4 : k ≠ 4) (h7 : k ≠ 7) (h3 : k ≠ 3) : ¬ (((k, j) : Nat × Nat) = (4, i) ∨ ((k, j) : Nat × Nat) = (7, 10 + i) ∨ tlP (4 * i) (k, j) ∨ tlP (4 * i + 1) (k, j) ∨ tlP (4 * i + 2) (k, j)) := fun q => by
  rcases q with q | q | q | q | q
  · exact h4 (congrArg Prod.fst q)
  · exact h7 (congrArg Prod.fst q)
  · exact nTl_1 h3 h7 q
  · exact nTl_1 h3 h7 q
  · exact nTl_1 h3 h7 q
theorem nVe7 {i j : Nat} (h : j ≠ 10 + i) (h2 : j < 100) : ¬ (((7, j) : Nat × Nat) = (4, i) ∨ ((7, j) : Nat × Nat) = (7, 10 + i) ∨ tlP (4 * i) (7, j) ∨ tlP (4 * i + 1) (7, j) ∨ tlP (4 * i + 2) (7, j)) := fun q => by
  rcases q with q | q | q | q | q
  · exact absurd (congrArg Prod.fst q) (show (7 : Nat) ≠ 4 by decide)
  · exact h (congrArg Prod.snd q)
  · exact nTl_7 h2 q
  · exact nTl_7 h2 q
  · exact nTl_7 h2 q
theorem nVet {i c : Nat} (hi : i < 15) (h0 : c ≠ 4 * i) (h1 : c ≠ 4 * i + 1) (h2 : c ≠ 4 * i + 2) : ¬ (((3, c) : Nat × Nat) = (4, i) ∨ ((3, c) : Nat × Nat) = (7, 10 + i) ∨ tlP (4 * i) (3, c) ∨ tlP (4 * i + 1) (3, c) ∨ tlP (4 * i + 2) (3, c)) ∧ ¬ (((7, 100 + 2 * c) : Nat × Nat) = (4, i) ∨ ((7, 100 + 2 * c) : Nat × Nat) = (7, 10 + i) ∨ tlP (4 * i) (7, 100 + 2 * c) ∨ tlP (4 * i + 1) (7, 100 + 2 * c) ∨ tlP (4 * i + 2) (7, 100 + 2 * c)) ∧ ¬ (((7, 101 + 2 * c) : Nat × Nat) = (4, i) ∨ ((7, 101 + 2 * c) : Nat × Nat) = (7, 10 + i) ∨ tlP (4 * i) (7, 101 + 2 * c) ∨ tlP (4 * i + 1) (7, 101 + 2 * c) ∨ tlP (4 * i + 2) (7, 101 + 2 * c)) := by
  refine ⟨fun q => ?_, fun q => ?_, fun q => ?_⟩ <;> rcases q with q | q | q | q | q
  · exact absurd (congrArg Prod.fst q) (show (3 : Nat) ≠ 4 by decide)
  · exact absurd (congrArg Prod.fst q) (show (3 : Nat) ≠ 7 by decide)
  · exact (nTl_t h0).1 q
  · exact (nTl_t h1).1 q
  · exact (nTl_t h2).1 q
  · exact absurd (congrArg Prod.fst q) (show (7 : Nat) ≠ 4 by decide)
  · have := congrArg Prod.snd q; simp only at this; omega
  · exact (nTl_t h0).2.1 q
  · exact (nTl_t h1).2.1 q
  · exact (nTl_t h2).2.1 q
  · exact absurd (congrArg Prod.fst q) (show (7 : Nat) ≠ 4 by decide)
  · have := congrArg Prod.snd q; simp only at this; omega
  · exact (nTl_t h0).2.2 q
  · exact (nTl_t h1).2.2 q
  · exact (nTl_t h2).2.2 q
/-- the tags of a vehicle -/
abbrev vhP (i : Nat) (t : Nat × Nat) : Prop := t = (4, i) ∨ t = (7, 10 + i) ∨ tlP (4 * i) t ∨ tlP (4 * i + 1) t ∨ tlP (4 * i + 2) t
theorem CAt.mkv {M M1 : Mm} {x : Nat} {S : St} (h : CAt M x S) (hlt : sN S 1 < 15) (hF : Fr (vhP (sN S 1)) M M1) : CAt M1 x S ∧ Sm M M1 x := by
  obtain ⟨bK, bV, bP, bN⟩ := h.b
  obtain ⟨hn, hx⟩ := CAn.fr h hF (nVe (by decide) (by decide) (by decide))
  exact h.mk (S1 := S) hF hx (nVe (by decide) (by decide) (by decide)) (nVe (by decide) (by decide) (by decide)) (nVe (by decide) (by decide) (by decide)) (fun a ha => by rcases ha with ha | ha | ha <;> exact (hF.at ha (show (7 : Nat) ≠ 0 by decide) (nVe7 (by omega) (by decide))).2.1) hn (h.pdf hF (nVe7 (by omega) (by decide))) rfl rfl rfl bK
    (fun i hi hv => hv.fr hF (fun q => by
      rcases q with q | q | q | q | q
      · have := congrArg Prod.snd q; simp only at this; omega
      · exact absurd (congrArg Prod.fst q) (show (4 : Nat) ≠ 7 by decide)
      · exact nTl_1 (by decide) (by decide) q
      · exact nTl_1 (by decide) (by decide) q
      · exact nTl_1 (by decide) (by decide) q) (nVe7 (by omega) (by omega)) (fun c h1 h2 => nVet hlt (by omega) (by omega) (by omega)))
    (fun i hi hv => hv.fr hF (nVe (by decide) (by decide) (by decide)) (nVet hlt (by omega) (by omega) (by omega)).1 (nVet hlt (by omega) (by omega) (by omega)).2.1 (nVet hlt (by omega) (by omega) (by omega)).2.2)
    (fun i hi hv => hv.fr hF (nVe (by decide) (by decide) (by decide)))
theorem VeA.made {M : Mm} {a : Nat} {S : St} {w kd : Int32} (t : mT M a = (4, sN S 1)) (v0 : mI M a 0 = nI (sN S 1)) (v1 : mI M a 1 = kd) (v6 : mI M a 6 = 0) (v7 : mI M a 7 = 0) (t5 : mT M (mR M a 5) = (7, 10 + sN S 1)) (l5 : mL M (mR M a 5) = 6) (h5 : ∀ j, mI M (mR M a 5) j = 0) (T0 : TlA M (mR M a 2) (4 * sN S 1) [(sD S, w)]) (T1 : TlA M (mR M a 3) (4 * sN S 1 + 1) []) (T2 : TlA M (mR M a 4) (4 * sN S 1 + 2) []) : VeA M a (sN S 1) (addV S w kd) := by
  refine ⟨t, v0, ?_, ?_, ?_, ⟨t5, l5⟩, fun j hj => ?_, ?_, ?_, ?_⟩
  · rw [addV_V, up2_k _ _ _ (by decide), up2_k _ _ _ (by decide), up2_same, v1]
  · rw [addV_V, up2_k _ _ _ (by decide), up2_same, v6]
  · rw [addV_V, up2_same, v7]
  · rw [h5, addV_L]
    unfold up2
    simp only [if_pos]
    split
    · rfl
    · split
      · rfl
      · split
        · rfl
        · split
          · rfl
          · split
            · rfl
            · split
              · rfl
              · omega
  · rw [addV_T, up2_row _ _ _ (by decide), up2_row _ _ _ (by decide), up2_same]; exact T0
  · rw [addV_T, up2_row _ _ _ (by decide), up2_same]; exact T1
  · rw [addV_T, up2_same]; exact T2
theorem CAt.newV {M : Mm} {x a : Nat} {S : St} {w kd : Int32} (h : CAt M x S) (hlt : sN S 1 < 15) (ha : VeA M a (sN S 1) (addV S w kd)) : CAt (adM M x 0 7 (sN S 1) a) x (addV S w kd) ∧ Sw M (adM M x 0 7 (sN S 1) a) x S ∧ vA (adM M x 0 7 (sN S 1) a) x (sN S 1) = a ∧ Fr pC M (adM M x 0 7 (sN S 1) a) := by
  refine h.adv hlt ha (addV_N _ _ _) (addV_D _ _ _) (addV_C _ _ _) (addV_P _ _ _) ?_ ?_ ?_ ?_ ?_ ?_ ?_ ?_
  · intro i hi; rw [addV_V, up2_row _ _ _ (by omega), up2_row _ _ _ (by omega), up2_row _ _ _ (by omega)]
  · intro i hi; rw [addV_L, up2_row _ _ _ (by omega), up2_row _ _ _ (by omega), up2_row _ _ _ (by omega), up2_row _ _ _ (by omega), up2_row _ _ _ (by omega), up2_row _ _ _ (by omega)]
  · intro i hi; rw [addV_T, up2_b' _ _ _ _ (by omega), up2_b' _ _ _ _ (by omega), up2_b' _ _ _ _ (by omega)]
  · intro i hi; rw [addV_T, up2_b' _ _ _ _ (by omega), up2_b' _ _ _ _ (by omega), up2_b' _ _ _ _ (by omega)]
  · intro i hi; rw [addV_T, up2_b' _ _ _ _ (by omega), up2_b' _ _ _ _ (by omega), up2_b' _ _ _ _ (by omega)]
  · intro i hi; rw [addV_Q]
  · intro i hi; rw [addV_T, up2_row _ _ _ (by decide), up2_row _ _ _ (by decide), up2_row _ _ _ (by decide)]
  · intro i hi; rw [addV_O]
/-- a notice that has come -/
def noteS (S : St) (who : Int32) (v : Nat) (to day : Int32) : St := uN (uO (uO (uO (uO (uO (uO S (sN S 3) 1 who) (sN S 3) 2 (nI v)) (sN S 3) 3 to) (sN S 3) 4 day) (sN S 3) 5 111) (sN S 3) 6 (-1)) 3 (sN S 3 + 1)
theorem CAt.mko {M M1 : Mm} {x a v : Nat} {S : St} {who to day : Int32} (h : CAt M x S) (hlt : sN S 3 < 120) (hF : Fr (fun t => t = (1, sN S 3)) M M1) (t : mT M1 a = (1, sN S 3)) (v0 : mI M1 a 0 = nI (sN S 3)) (v1 : mI M1 a 1 = who) (v2 : mI M1 a 2 = nI v) (v3 : mI M1 a 3 = to) (v4 : mI M1 a 4 = day) (v5 : mI M1 a 5 = 111) (v6 : mI M1 a 6 = -1) : CAt M1 x S ∧ Sm M M1 x ∧ NtA M1 a (sN S 3) (noteS S who v to day) := by
  obtain ⟨bK, bV, bP, bN⟩ := h.b
  have hF2 := hF
  obtain ⟨hn, hx⟩ := CAn.fr h hF (nP_1 (by decide))
  have k1 := h.mk (S1 := S) hF hx (nP_1 (by decide)) (nP_1 (by decide)) (nP_1 (by decide)) (fun a ha => by rcases ha with ha | ha | ha <;> exact (hF.at ha (show (7 : Nat) ≠ 0 by decide) (nP_1 (by decide))).2.1) hn (h.pdf hF (nP_1 (by decide))) rfl rfl rfl bK
    (fun i hi hv => hv.fr hF (nP_1 (by decide)) (nP_1 (by decide)) (fun c h1 h2 => ⟨nP_1 (by decide), nP_1 (by decide), nP_1 (by decide)⟩))
    (fun i hi hv => hv.fr hF (nP_1 (by decide)) (nP_1 (by decide)) (nP_1 (by decide)) (nP_1 (by decide)))
    (fun i hi hv => hv.fr hF (nP_2 (by omega)))
  refine ⟨k1.1, k1.2, t, v0, fun k g1 g2 => ?_⟩
  show mI M1 a k = up2 (up2 (up2 (up2 (up2 (up2 (sO S) (sN S 3) 1 who) (sN S 3) 2 (nI v)) (sN S 3) 3 to) (sN S 3) 4 day) (sN S 3) 5 111) (sN S 3) 6 (-1) (sN S 3) k
  unfold up2
  simp only [if_pos]
  match k, g1, g2 with
  | 1, _, _ => simpa using v1
  | 2, _, _ => simpa using v2
  | 3, _, _ => simpa using v3
  | 4, _, _ => simpa using v4
  | 5, _, _ => simpa using v5
  | 6, _, _ => simpa using v6
theorem CAt.newO {M : Mm} {x a v : Nat} {S : St} {who to day : Int32} (h : CAt M x S) (hlt : sN S 3 < 120) (ha : NtA M a (sN S 3) (noteS S who v to day)) : CAt (adM M x 2 9 (sN S 3) a) x (noteS S who v to day) ∧ Sw M (adM M x 2 9 (sN S 3) a) x S ∧ nA (adM M x 2 9 (sN S 3) a) x (sN S 3) = a ∧ Fr pC M (adM M x 2 9 (sN S 3) a) := by
  refine h.ado hlt ha rfl rfl rfl rfl (fun i hi => rfl) (fun i hi => rfl) (fun i hi => rfl) (fun i hi => rfl) (fun i hi => rfl) (fun i hi => rfl) (fun i hi => rfl) ?_
  intro i hi
  show up2 (up2 (up2 (up2 (up2 (up2 (sO S) (sN S 3) 1 who) (sN S 3) 2 (nI v)) (sN S 3) 3 to) (sN S 3) 4 day) (sN S 3) 5 111) (sN S 3) 6 (-1) i = _
  rw [up2_row _ _ _ (by omega), up2_row _ _ _ (by omega), up2_row _ _ _ (by omega), up2_row _ _ _ (by omega), up2_row _ _ _ (by omega), up2_row _ _ _ (by omega)]
