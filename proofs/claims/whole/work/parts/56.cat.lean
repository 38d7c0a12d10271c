/-! the class's picture -/
theorem Fr.at {P : Nat × Nat → Prop} {M M1 : Mm} (h : Fr P M M1) {a : Nat} {t : Nat × Nat} (ha : mT M a = t) (h0 : t.1 ≠ 0) (hn : ¬ P t) : mT M1 a = mT M a ∧ mL M1 a = mL M a ∧ mI M1 a = mI M a ∧ mR M1 a = mR M a ∧ mJ M1 a = mJ M a ∧ mD M1 a = mD M a := (h a (by rw [ha]; exact h0)).2 (by rw [ha]; exact hn)
theorem TlA.fr {P : Nat × Nat → Prop} {M M1 : Mm} {a c : Nat} {l : Tl} (h : TlA M a c l) (hF : Fr P M M1) (n0 : ¬ P (3, c)) (n1 : ¬ P (7, 100 + 2 * c)) (n2 : ¬ P (7, 101 + 2 * c)) : TlA M1 a c l ∧ mR M1 a = mR M a := by
  obtain ⟨t0, t1, t2, s2, cap, hc0, hc1, hl, h4, hcap, hb, hj⟩ := h
  obtain ⟨a1, a2, a3, a4, -, -⟩ := hF.at t0 (show (3 : Nat) ≠ 0 by decide) n0
  obtain ⟨b1, b2, b3, b4, -, -⟩ := hF.at t1 (show (7 : Nat) ≠ 0 by decide) n1
  obtain ⟨d1, d2, d3, d4, -, -⟩ := hF.at t2 (show (7 : Nat) ≠ 0 by decide) n2
  refine ⟨?_, a4⟩
  unfold TlA
  rw [a1, a3, a4, b1, b2, b3, d1, d2, d3]
  exact ⟨t0, t1, t2, s2, cap, hc0, hc1, hl, h4, hcap, hb, hj⟩
abbrev vA (M : Mm) (x i : Nat) : Nat := mR M (mR M x 0) i
abbrev pA (M : Mm) (x p : Nat) : Nat := mR M (mR M x 1) p
abbrev nA (M : Mm) (x n : Nat) : Nat := mR M (mR M x 2) n
def CA0 (M : Mm) (x : Nat) : Prop := mT M x = (5, 0) ∧ (mT M (mR M x 0) = (9, 0) ∧ mL M (mR M x 0) = 15) ∧ (mT M (mR M x 1) = (10, 0) ∧ mL M (mR M x 1) = 40) ∧ (mT M (mR M x 2) = (11, 0) ∧ mL M (mR M x 2) = 120) ∧ (mT M (mR M x 3) = (7, 1) ∧ mL M (mR M x 3) = 12) ∧ (mT M (mR M x 4) = (7, 2) ∧ mL M (mR M x 4) = 12) ∧ (mT M (mR M x 5) = (7, 3) ∧ mL M (mR M x 5) = 12)
def VeA (M : Mm) (a i : Nat) (S : St) : Prop := mT M a = (4, i) ∧ mI M a 0 = nI i ∧ mI M a 1 = sV S i 1 ∧ mI M a 6 = sV S i 6 ∧ mI M a 7 = sV S i 7 ∧ (mT M (mR M a 5) = (7, 10 + i) ∧ mL M (mR M a 5) = 6) ∧ (∀ j, j < 6 → mI M (mR M a 5) j = sL S i j) ∧ TlA M (mR M a 2) (4 * i) (sT S 0 i) ∧ TlA M (mR M a 3) (4 * i + 1) (sT S 1 i) ∧ TlA M (mR M a 4) (4 * i + 2) (sT S 2 i)
def PlA (M : Mm) (a p : Nat) (S : St) : Prop := mT M a = (2, p) ∧ mI M a 0 = nI p ∧ mI M a 2 = sQ S p 2 ∧ mI M a 3 = sQ S p 3 ∧ TlA M (mR M a 1) (4 * p + 3) (sT S 3 p)
def NtA (M : Mm) (a n : Nat) (S : St) : Prop := mT M a = (1, n) ∧ mI M a 0 = nI n ∧ ∀ k, 1 ≤ k → k ≤ 6 → mI M a k = sO S n k
def CAn (M : Mm) (x : Nat) (S : St) : Prop := mI M x 6 = nI (sN S 0) ∧ mI M x 7 = nI (sN S 1) ∧ mI M x 8 = nI (sN S 2) ∧ mI M x 9 = nI (sN S 3) ∧ mI M x 10 = sD S ∧ mJ M x 11 = sC S
def CAb (S : St) : Prop := sN S 0 ≤ 12 ∧ sN S 1 ≤ 15 ∧ sN S 2 ≤ 40 ∧ sN S 3 ≤ 120
def CAv (M : Mm) (x : Nat) (S : St) : Prop := (∀ i, i < sN S 1 → VeA M (vA M x i) i S) ∧ ∀ i, sN S 1 ≤ i → i < 15 → vA M x i = 0
def CAp (M : Mm) (x : Nat) (S : St) : Prop := (∀ i, i < sN S 2 → PlA M (pA M x i) i S) ∧ ∀ i, sN S 2 ≤ i → i < 40 → pA M x i = 0
def CAo (M : Mm) (x : Nat) (S : St) : Prop := (∀ i, i < sN S 3 → NtA M (nA M x i) i S) ∧ ∀ i, sN S 3 ≤ i → i < 120 → nA M x i = 0
def CAt (M : Mm) (x : Nat) (S : St) : Prop := CA0 M x ∧ CAn M x S ∧ (∀ k, k < 12 → mI M (mR M x 3) k = sP S k) ∧ CAv M x S ∧ CAp M x S ∧ CAo M x S ∧ CAb S
/-- where the things lie has not changed -/
def Sm (M M1 : Mm) (x : Nat) : Prop := mR M1 x = mR M x ∧ mR M1 (mR M x 0) = mR M (mR M x 0) ∧ mR M1 (mR M x 1) = mR M (mR M x 1) ∧ mR M1 (mR M x 2) = mR M (mR M x 2)
theorem Sm.rf (M : Mm) (x : Nat) : Sm M M x := ⟨rfl, rfl, rfl, rfl⟩
theorem Sm.trans {M M1 M2 : Mm} {x : Nat} (h : Sm M M1 x) (h1 : Sm M1 M2 x) : Sm M M2 x := by
  obtain ⟨a0, a1, a2, a3⟩ := h
  obtain ⟨b0, b1, b2, b3⟩ := h1
  rw [a0] at b1 b2 b3
  exact ⟨b0.trans a0, b1.trans a1, b2.trans a2, b3.trans a3⟩
theorem Sm.v {M M1 : Mm} {x : Nat} (h : Sm M M1 x) (i : Nat) : vA M1 x i = vA M x i := by
  show mR M1 (mR M1 x 0) i = _
  rw [h.1, h.2.1]
theorem Sm.p {M M1 : Mm} {x : Nat} (h : Sm M M1 x) (i : Nat) : pA M1 x i = pA M x i := by
  show mR M1 (mR M1 x 1) i = _
  rw [h.1, h.2.2.1]
theorem Sm.n {M M1 : Mm} {x : Nat} (h : Sm M M1 x) (i : Nat) : nA M1 x i = nA M x i := by
  show mR M1 (mR M1 x 2) i = _
  rw [h.1, h.2.2.2]
abbrev xT (t : Nat × Nat) : Prop := t.1 = 5 ∨ t.1 = 9 ∨ t.1 = 10 ∨ t.1 = 11
theorem VeA.fr {P : Nat × Nat → Prop} {M M1 : Mm} {a i : Nat} {S : St} (h : VeA M a i S) (hF : Fr P M M1) (n0 : ¬ P (4, i)) (n1 : ¬ P (7, 10 + i)) (nt : ∀ c, 4 * i ≤ c → c ≤ 4 * i + 2 → ¬ P (3, c) ∧ ¬ P (7, 100 + 2 * c) ∧ ¬ P (7, 101 + 2 * c)) : VeA M1 a i S := by
  obtain ⟨t0, v0, v1, v6, v7, ⟨t5, l5⟩, hj, T0, T1, T2⟩ := h
  obtain ⟨a1, a2, a3, a4, -, -⟩ := hF.at t0 (show (4 : Nat) ≠ 0 by decide) n0
  obtain ⟨b1, b2, b3, b4, -, -⟩ := hF.at t5 (show (7 : Nat) ≠ 0 by decide) n1
  obtain ⟨p0, p1, p2⟩ := nt (4 * i) (by omega) (by omega)
  obtain ⟨q0, q1, q2⟩ := nt (4 * i + 1) (by omega) (by omega)
  obtain ⟨r0, r1, r2⟩ := nt (4 * i + 2) (by omega) (by omega)
  unfold VeA
  rw [a1, a3, a4, b1, b2, b3]
  exact ⟨t0, v0, v1, v6, v7, ⟨t5, l5⟩, hj, (T0.fr hF p0 p1 p2).1, (T1.fr hF q0 q1 q2).1, (T2.fr hF r0 r1 r2).1⟩
theorem VeA.st {M : Mm} {a i : Nat} {S S1 : St} (h : VeA M a i S) (eV : sV S1 i = sV S i) (eL : sL S1 i = sL S i) (e0 : sT S1 0 i = sT S 0 i) (e1 : sT S1 1 i = sT S 1 i) (e2 : sT S1 2 i = sT S 2 i) : VeA M a i S1 := by
  unfold VeA
  rw [eV, eL, e0, e1, e2]
  exact h
theorem PlA.fr {P : Nat × Nat → Prop} {M M1 : Mm} {a p : Nat} {S : St} (h : PlA M a p S) (hF : Fr P M M1) (n0 : ¬ P (2, p)) (n1 : ¬ P (3, 4 * p + 3)) (n2 : ¬ P (7, 100 + 2 * (4 * p + 3))) (n3 : ¬ P (7, 101 + 2 * (4 * p + 3))) : PlA M1 a p S := by
  obtain ⟨t0, v0, v2, v3, T0⟩ := h
  obtain ⟨a1, a2, a3, a4, -, -⟩ := hF.at t0 (show (2 : Nat) ≠ 0 by decide) n0
  unfold PlA
  rw [a1, a3, a4]
  exact ⟨t0, v0, v2, v3, (T0.fr hF n1 n2 n3).1⟩
theorem PlA.st {M : Mm} {a p : Nat} {S S1 : St} (h : PlA M a p S) (eQ : sQ S1 p = sQ S p) (e3 : sT S1 3 p = sT S 3 p) : PlA M a p S1 := by
  unfold PlA
  rw [eQ, e3]
  exact h
theorem NtA.fr {P : Nat × Nat → Prop} {M M1 : Mm} {a n : Nat} {S : St} (h : NtA M a n S) (hF : Fr P M M1) (n0 : ¬ P (1, n)) : NtA M1 a n S := by
  obtain ⟨t0, v0, hk⟩ := h
  obtain ⟨a1, a2, a3, a4, -, -⟩ := hF.at t0 (show (1 : Nat) ≠ 0 by decide) n0
  unfold NtA
  rw [a1, a3]
  exact ⟨t0, v0, hk⟩
theorem NtA.st {M : Mm} {a n : Nat} {S S1 : St} (h : NtA M a n S) (eO : sO S1 n = sO S n) : NtA M a n S1 := by
  unfold NtA
  rw [eO]
  exact h
theorem CAt.a0 {M : Mm} {x : Nat} {S : St} (h : CAt M x S) : CA0 M x := h.1
theorem CAt.n {M : Mm} {x : Nat} {S : St} (h : CAt M x S) : CAn M x S := h.2.1
theorem CAt.pd {M : Mm} {x : Nat} {S : St} (h : CAt M x S) : ∀ k, k < 12 → mI M (mR M x 3) k = sP S k := h.2.2.1
theorem CAt.v {M : Mm} {x : Nat} {S : St} (h : CAt M x S) : CAv M x S := h.2.2.2.1
theorem CAt.p {M : Mm} {x : Nat} {S : St} (h : CAt M x S) : CAp M x S := h.2.2.2.2.1
theorem CAt.o {M : Mm} {x : Nat} {S : St} (h : CAt M x S) : CAo M x S := h.2.2.2.2.2.1
theorem CAt.b {M : Mm} {x : Nat} {S : St} (h : CAt M x S) : CAb S := h.2.2.2.2.2.2
theorem CA0.fr {P : Nat × Nat → Prop} {M M1 : Mm} {x : Nat} (h : CA0 M x) (hF : Fr P M M1) (hx : mR M1 x = mR M x) (n9 : ¬ P (9, 0)) (n10 : ¬ P (10, 0)) (n11 : ¬ P (11, 0)) (h3 : mL M1 (mR M x 3) = mL M (mR M x 3)) (h4 : mL M1 (mR M x 4) = mL M (mR M x 4)) (h5 : mL M1 (mR M x 5) = mL M (mR M x 5)) : CA0 M1 x ∧ Sm M M1 x := by
  obtain ⟨t, ⟨t0, l0⟩, ⟨t1, l1⟩, ⟨t2, l2⟩, ⟨t3, l3⟩, ⟨t4, l4⟩, ⟨t5, l5⟩⟩ := h
  obtain ⟨a1, a2, a3, a4, -, -⟩ := hF.at t0 (by decide) n9
  obtain ⟨b1, b2, b3, b4, -, -⟩ := hF.at t1 (by decide) n10
  obtain ⟨c1, c2, c3, c4, -, -⟩ := hF.at t2 (by decide) n11
  have ht := (hF x (by rw [t]; decide)).1
  have e3 := (hF (mR M x 3) (by rw [t3]; decide)).1
  have e4 := (hF (mR M x 4) (by rw [t4]; decide)).1
  have e5 := (hF (mR M x 5) (by rw [t5]; decide)).1
  refine ⟨?_, hx, a4, b4, c4⟩
  unfold CA0
  rw [hx, ht, a1, a2, b1, b2, c1, c2, e3, e4, e5, h3, h4, h5]
  exact ⟨t, ⟨t0, l0⟩, ⟨t1, l1⟩, ⟨t2, l2⟩, ⟨t3, l3⟩, ⟨t4, l4⟩, ⟨t5, l5⟩⟩
/-- the whole picture behind a change, out of its parts -/
theorem CAt.mk {P : Nat × Nat → Prop} {M M1 : Mm} {x : Nat} {S S1 : St} (h : CAt M x S) (hF : Fr P M M1) (hx : mR M1 x = mR M x) (n9 : ¬ P (9, 0)) (n10 : ¬ P (10, 0)) (n11 : ¬ P (11, 0)) (hL : ∀ a, mT M a = (7, 1) ∨ mT M a = (7, 2) ∨ mT M a = (7, 3) → mL M1 a = mL M a)
    (hn : CAn M1 x S1) (hp : ∀ k, k < 12 → mI M1 (mR M x 3) k = sP S1 k) (e1 : sN S1 1 = sN S 1) (e2 : sN S1 2 = sN S 2) (e3 : sN S1 3 = sN S 3) (hb : sN S1 0 ≤ 12)
    (hv : ∀ i, i < sN S 1 → VeA M (vA M x i) i S → VeA M1 (vA M x i) i S1) (hq : ∀ i, i < sN S 2 → PlA M (pA M x i) i S → PlA M1 (pA M x i) i S1) (ho : ∀ i, i < sN S 3 → NtA M (nA M x i) i S → NtA M1 (nA M x i) i S1) : CAt M1 x S1 ∧ Sm M M1 x := by
  obtain ⟨t, ⟨t0, l0⟩, ⟨t1, l1⟩, ⟨t2, l2⟩, ⟨t3, l3⟩, ⟨t4, l4⟩, ⟨t5, l5⟩⟩ := id h.a0
  obtain ⟨g0, gs⟩ := h.a0.fr hF hx n9 n10 n11 (hL _ (Or.inl t3)) (hL _ (Or.inr (Or.inl t4))) (hL _ (Or.inr (Or.inr t5)))
  refine ⟨⟨g0, hn, ?_, ⟨fun i hi => ?_, fun i h1 h2 => ?_⟩, ⟨fun i hi => ?_, fun i h1 h2 => ?_⟩, ⟨fun i hi => ?_, fun i h1 h2 => ?_⟩, hb, ?_, ?_, ?_⟩, gs⟩
  · rw [hx]; exact hp
  · rw [gs.v]; rw [e1] at hi; exact hv i hi (h.v.1 i hi)
  · rw [gs.v]; rw [e1] at h1; exact h.v.2 i h1 h2
  · rw [gs.p]; rw [e2] at hi; exact hq i hi (h.p.1 i hi)
  · rw [gs.p]; rw [e2] at h1; exact h.p.2 i h1 h2
  · rw [gs.n]; rw [e3] at hi; exact ho i hi (h.o.1 i hi)
  · rw [gs.n]; rw [e3] at h1; exact h.o.2 i h1 h2
  · rw [e1]; exact h.b.2.1
  · rw [e2]; exact h.b.2.2.1
  · rw [e3]; exact h.b.2.2.2
theorem CAn.fr {P : Nat × Nat → Prop} {M M1 : Mm} {x : Nat} {S : St} (h : CAt M x S) (hF : Fr P M M1) (n5 : ¬ P (5, 0)) : CAn M1 x S ∧ mR M1 x = mR M x := by
  obtain ⟨a1, a2, a3, a4, a5, a6⟩ := hF.at h.a0.1 (by decide) n5
  refine ⟨?_, a4⟩
  unfold CAn
  rw [a3, a5]
  exact h.n
theorem CAt.pdf {P : Nat × Nat → Prop} {M M1 : Mm} {x : Nat} {S : St} (h : CAt M x S) (hF : Fr P M M1) (n7 : ¬ P (7, 1)) : ∀ k, k < 12 → mI M1 (mR M x 3) k = sP S k := by
  obtain ⟨a1, a2, a3, a4, a5, a6⟩ := hF.at h.a0.2.2.2.2.1.1 (by decide) n7
  rw [a3]
  exact h.pd
/-- nothing of the class's own has changed, but for the rows of what is owed -/
abbrev cT (t : Nat × Nat) : Prop := t.1 ≠ 6 ∧ t.2 < 1000 ∧ t ≠ (7, 2) ∧ t ≠ (7, 3)
theorem cT_1 {k i : Nat} (hk : k ≠ 6) (hk7 : k ≠ 7) (hi : i < 1000) : cT (k, i) := ⟨hk, hi, fun e => hk7 (congrArg Prod.fst e), fun e => hk7 (congrArg Prod.fst e)⟩
theorem cT_7 {i : Nat} (h : i = 1 ∨ 3 < i) (hi : i < 1000) : cT (7, i) := ⟨(show (7 : Nat) ≠ 6 by decide), hi, fun e => by have := congrArg Prod.snd e; simp only at this; omega, fun e => by have := congrArg Prod.snd e; simp only at this; omega⟩
theorem CAt.fr {P : Nat × Nat → Prop} {M M1 : Mm} {x : Nat} {S : St} (h : CAt M x S) (hF : Fr P M M1) (hP : ∀ t : Nat × Nat, cT t → ¬ P t) (hL : ∀ a, mT M a = (7, 1) ∨ mT M a = (7, 2) ∨ mT M a = (7, 3) → mL M1 a = mL M a) : CAt M1 x S ∧ Sm M M1 x := by
  have hb := h.b
  obtain ⟨b0, b1, b2, b3⟩ := hb
  obtain ⟨hn, hx⟩ := CAn.fr h hF (hP _ (cT_1 (by decide) (by decide) (by decide)))
  have pt : ∀ c, c < 200 → ¬ P (3, c) ∧ ¬ P (7, 100 + 2 * c) ∧ ¬ P (7, 101 + 2 * c) := fun c hc => ⟨hP _ (cT_1 (by decide) (by decide) (by omega)), hP _ (cT_7 (by omega) (by omega)), hP _ (cT_7 (by omega) (by omega))⟩
  exact h.mk hF hx (hP _ (cT_1 (by decide) (by decide) (by decide))) (hP _ (cT_1 (by decide) (by decide) (by decide))) (hP _ (cT_1 (by decide) (by decide) (by decide))) hL hn (h.pdf hF (hP _ (cT_7 (by omega) (by omega)))) rfl rfl rfl b0 (fun i hi hv => hv.fr hF (hP _ (cT_1 (by decide) (by decide) (by omega))) (hP _ (cT_7 (by omega) (by omega))) (fun c hc1 hc2 => pt c (by omega)))
    (fun i hi hv => hv.fr hF (hP _ (cT_1 (by decide) (by decide) (by omega))) (pt _ (by omega)).1 (pt _ (by omega)).2.1 (pt _ (by omega)).2.2) (fun i hi hv => hv.fr hF (hP _ (cT_1 (by decide) (by decide) (by omega))))
theorem CAt.pM {M M1 : Mm} {x : Nat} {S : St} (h : CAt M x S) (hF : Fr pM M M1) : CAt M1 x S ∧ Sm M M1 x := h.fr hF (fun t ht hp => by
  obtain ⟨h1, h2, -⟩ := ht
  rcases hp with hp | hp <;> omega) (fun a ha => ((hF a (by rcases ha with ha | ha | ha <;> rw [ha] <;> decide)).2 (by rcases ha with ha | ha | ha <;> rw [ha] <;> decide)).2.1)
