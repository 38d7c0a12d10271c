/-! which plate is on which vehicle, behind each change -/
theorem up_if {α : Type} (f : Nat → α) (k : Nat) (x : α) (j : Nat) : va_up f k x j = if j = k then x else f j := by
  by_cases h : j = k
  · subst h; rw [va_up_self, if_pos rfl]
  · rw [va_up_ne _ _ h, if_neg h]
theorem lv_if {f : Nat → Tl} {k : Nat} {D x : Int32} (j : Nat) : lastV (va_up f k (setT (f k) D x) j) = if j = k then x else lastV (f j) := by
  rw [up_if]
  by_cases h : j = k
  · rw [if_pos h, if_pos h, lastV_setT']
  · rw [if_neg h, if_neg h]
theorem rel_on {CV CP : Nat → Int32} {nV nP v : Nat} (bV : nV ≤ 15) (bP : nP ≤ 40) (hl : ∀ u, u < nV → ∀ p, p < nP → (CV u = nI p ↔ CP p = nI u)) (hr : ∀ u, u < nV → ¬ CV u = nI nP) (hv : v < nV) (h0 : CV v = -1) : ∀ u, u < nV → ∀ p, p < nP + 1 → ((if u = v then nI nP else CV u) = nI p ↔ (if p = nP then nI v else CP p) = nI u) := by
  intro u hu p hp
  by_cases e : u = v <;> by_cases e2 : p = nP
  · rw [if_pos e, if_pos e2, e, e2]; exact ⟨fun _ => rfl, fun _ => rfl⟩
  · rw [if_pos e, if_neg e2, e]
    refine ⟨fun h => absurd (nI_inj (by omega) (by omega) h).symm e2, fun h => ?_⟩
    rw [← hl v hv p (by omega), h0] at h
    exact absurd h (m1_nI (by omega))
  · rw [if_neg e, if_pos e2, e2]
    exact ⟨fun h => absurd h (hr u hu), fun h => absurd (nI_inj (by omega) (by omega) h).symm e⟩
  · rw [if_neg e, if_neg e2]; exact hl u hu p (by omega)
theorem rel_off {CV CP : Nat → Int32} {nV nP v q : Nat} (bV : nV ≤ 15) (bP : nP ≤ 40) (hl : ∀ u, u < nV → ∀ p, p < nP → (CV u = nI p ↔ CP p = nI u)) (hv : v < nV) (hq : q < nP) (h1 : CV v = nI q) (h3 : CP q = nI v) : ∀ u, u < nV → ∀ p, p < nP → ((if u = v then (-1 : Int32) else CV u) = nI p ↔ (if p = q then (-1 : Int32) else CP p) = nI u) := by
  intro u hu p hp
  by_cases e : u = v <;> by_cases e2 : p = q
  · rw [if_pos e, if_pos e2]; exact ⟨fun h => absurd h (m1_nI (by omega)), fun h => absurd h (m1_nI (by omega))⟩
  · rw [if_pos e, if_neg e2, e]
    refine ⟨fun h => absurd h (m1_nI (by omega)), fun h => ?_⟩
    rw [← hl v hv p hp, h1] at h
    exact absurd (nI_inj (by omega) (by omega) h).symm e2
  · rw [if_neg e, if_pos e2, e2, hl u hu q hq, h3]
    exact ⟨fun h => absurd (nI_inj (by omega) (by omega) h).symm e, fun h => absurd h (m1_nI (by omega))⟩
  · rw [if_neg e, if_neg e2]; exact hl u hu p hp
theorem rel_none {CV CP : Nat → Int32} {nV nP v : Nat} (bV : nV ≤ 15) (bP : nP ≤ 40) (hl : ∀ u, u < nV → ∀ p, p < nP → (CV u = nI p ↔ CP p = nI u)) (hv : v < nV) (h1 : CV v = -1) : ∀ u, u < nV → ∀ p, p < nP → ((if u = v then (-1 : Int32) else CV u) = nI p ↔ CP p = nI u) := by
  intro u hu p hp
  by_cases e : u = v
  · rw [if_pos e, e, ← hl v hv p hp, h1]
  · rw [if_neg e]; exact hl u hu p hp
theorem rel_new {CV CP : Nat → Int32} {nV nP v q : Nat} (bV : nV ≤ 15) (bP : nP ≤ 40) (hl : ∀ u, u < nV → ∀ p, p < nP → (CV u = nI p ↔ CP p = nI u)) (hr : ∀ u, u < nV → ¬ CV u = nI nP) (hv : v < nV) (hq : q < nP) (h1 : CV v = nI q) (h3 : CP q = nI v) : ∀ u, u < nV → ∀ p, p < nP + 1 → ((if u = v then nI nP else CV u) = nI p ↔ (if p = nP then nI v else if p = q then (-1 : Int32) else CP p) = nI u) := by
  intro u hu p hp
  by_cases e : u = v <;> by_cases e2 : p = nP
  · rw [if_pos e, if_pos e2, e, e2]; exact ⟨fun _ => rfl, fun _ => rfl⟩
  · rw [if_pos e, if_neg e2, e]
    refine ⟨fun h => absurd (nI_inj (by omega) (by omega) h).symm e2, fun h => ?_⟩
    by_cases e3 : p = q
    · rw [if_pos e3] at h; exact absurd h (m1_nI (by omega))
    · rw [if_neg e3, ← hl v hv p (by omega), h1] at h
      exact absurd (nI_inj (by omega) (by omega) h).symm e3
  · rw [if_neg e, if_pos e2, e2]
    exact ⟨fun h => absurd h (hr u hu), fun h => absurd (nI_inj (by omega) (by omega) h).symm e⟩
  · rw [if_neg e, if_neg e2]
    by_cases e3 : p = q
    · rw [if_pos e3, e3, hl u hu q hq, h3]
      exact ⟨fun h => absurd (nI_inj (by omega) (by omega) h).symm e, fun h => absurd h (m1_nI (by omega))⟩
    · rw [if_neg e3]; exact hl u hu p (by omega)
theorem rel_put {CV CP : Nat → Int32} {nV nP v q r : Nat} (bV : nV ≤ 15) (bP : nP ≤ 40) (hl : ∀ u, u < nV → ∀ p, p < nP → (CV u = nI p ↔ CP p = nI u)) (hv : v < nV) (hq : q < nP) (hr : r < nP) (h1 : CV v = nI q) (h3 : CP q = nI v) (h4 : CP r = -1) : ∀ u, u < nV → ∀ p, p < nP → ((if u = v then nI r else CV u) = nI p ↔ (if p = r then nI v else if p = q then (-1 : Int32) else CP p) = nI u) := by
  have hrq : r ≠ q := fun e => by rw [e, h3] at h4; exact absurd h4.symm (m1_nI (by omega))
  intro u hu p hp
  by_cases e : u = v <;> by_cases e2 : p = r
  · rw [if_pos e, if_pos e2, e, e2]; exact ⟨fun _ => rfl, fun _ => rfl⟩
  · rw [if_pos e, if_neg e2, e]
    refine ⟨fun h => absurd (nI_inj (by omega) (by omega) h).symm e2, fun h => ?_⟩
    by_cases e3 : p = q
    · rw [if_pos e3] at h; exact absurd h (m1_nI (by omega))
    · rw [if_neg e3, ← hl v hv p (by omega), h1] at h
      exact absurd (nI_inj (by omega) (by omega) h).symm e3
  · rw [if_neg e, if_pos e2, e2, hl u hu r hr, h4]
    exact ⟨fun h => absurd h (m1_nI (by omega)), fun h => absurd (nI_inj (by omega) (by omega) h).symm e⟩
  · rw [if_neg e, if_neg e2]
    by_cases e3 : p = q
    · rw [if_pos e3, e3, hl u hu q hq, h3]
      exact ⟨fun h => absurd (nI_inj (by omega) (by omega) h).symm e, fun h => absurd h (m1_nI (by omega))⟩
    · rw [if_neg e3]; exact hl u hu p (by omega)
theorem rel_swap {CV CP : Nat → Int32} {nV nP v w p9 q9 : Nat} (bV : nV ≤ 15) (bP : nP ≤ 40) (hl : ∀ u, u < nV → ∀ p, p < nP → (CV u = nI p ↔ CP p = nI u)) (hv : v < nV) (hw : w < nV) (hvw : v ≠ w) (hp : p9 < nP) (hq : q9 < nP) (h1 : CV v = nI p9) (h2 : CV w = nI q9) (h3 : CP p9 = nI v) (h4 : CP q9 = nI w) : ∀ u, u < nV → ∀ p, p < nP → ((if u = w then nI p9 else if u = v then nI q9 else CV u) = nI p ↔ (if p = p9 then nI w else if p = q9 then nI v else CP p) = nI u) := by
  have hpq : p9 ≠ q9 := fun e => by rw [e, h4] at h3; exact hvw (nI_inj (by omega) (by omega) h3).symm
  intro u hu p hp
  by_cases e : u = w
  · rw [if_pos e, e]
    by_cases e2 : p = p9
    · rw [if_pos e2, e2]; exact ⟨fun _ => rfl, fun _ => rfl⟩
    · rw [if_neg e2]
      refine ⟨fun h => absurd (nI_inj (by omega) (by omega) h).symm e2, fun h => ?_⟩
      by_cases e3 : p = q9
      · rw [if_pos e3] at h; exact absurd (nI_inj (by omega) (by omega) h) hvw
      · rw [if_neg e3, ← hl w hw p hp, h2] at h
        exact absurd (nI_inj (by omega) (by omega) h).symm e3
  · rw [if_neg e]
    by_cases e1 : u = v
    · rw [if_pos e1, e1]
      by_cases e2 : p = p9
      · rw [if_pos e2, e2]
        exact ⟨fun h => absurd (nI_inj (by omega) (by omega) h).symm hpq, fun h => absurd (nI_inj (by omega) (by omega) h).symm hvw⟩
      · rw [if_neg e2]
        by_cases e3 : p = q9
        · rw [if_pos e3, e3]; exact ⟨fun _ => rfl, fun _ => rfl⟩
        · rw [if_neg e3]
          refine ⟨fun h => absurd (nI_inj (by omega) (by omega) h).symm e3, fun h => ?_⟩
          rw [← hl v hv p hp, h1] at h
          exact absurd (nI_inj (by omega) (by omega) h).symm e2
    · rw [if_neg e1]
      by_cases e2 : p = p9
      · rw [if_pos e2, e2, hl u hu p9 (by omega), h3]
        exact ⟨fun h => absurd (nI_inj (by omega) (by omega) h).symm e1, fun h => absurd (nI_inj (by omega) (by omega) h).symm e⟩
      · rw [if_neg e2]
        by_cases e3 : p = q9
        · rw [if_pos e3, e3, hl u hu q9 hq, h4]
          exact ⟨fun h => absurd (nI_inj (by omega) (by omega) h).symm e, fun h => absurd (nI_inj (by omega) (by omega) h).symm e1⟩
        · rw [if_neg e3]; exact hl u hu p hp
/-! the states' parts -/
theorem mountQ_T3 (S : St) (p v : Nat) : sT (mountQ S p v) 3 = va_up (sT S 3) p (setT (sT S 3 p) (sD S) (nI v)) := by
  unfold mountQ
  simp only [sT_uT, sT_uQ]
  rw [up2_row _ _ _ (by decide), up2_vT]
theorem newP_T (S : St) : sT (newP S) = up2 (sT S) 3 (sN S 2) [] := by unfold newP; simp only [sT_uN, sT_uD, sT_uC, sT_uP, sT_uV, sT_uL, sT_uT, sT_uQ, sT_uO]
theorem newP_Q (S : St) : sQ (newP S) = up2 (up2 (sQ S) (sN S 2) 2 (-1)) (sN S 2) 3 (-1) := by unfold newP; simp only [sQ_uN, sQ_uD, sQ_uC, sQ_uP, sQ_uV, sQ_uL, sQ_uT, sQ_uQ, sQ_uO]
theorem newP_V (S : St) : sV (newP S) = sV S := by unfold newP; simp only [sV_uN, sV_uD, sV_uC, sV_uP, sV_uV, sV_uL, sV_uT, sV_uQ, sV_uO]
theorem newP_L (S : St) : sL (newP S) = sL S := by unfold newP; simp only [sL_uN, sL_uD, sL_uC, sL_uP, sL_uV, sL_uL, sL_uT, sL_uQ, sL_uO]
theorem newP_O (S : St) : sO (newP S) = sO S := by unfold newP; simp only [sO_uN, sO_uD, sO_uC, sO_uP, sO_uV, sO_uL, sO_uT, sO_uQ, sO_uO]
theorem Inv.lvb {S : St} {t u : Nat} (hI : Inv S t) (hu : u < sN S 1) : ¬ lastV (sT S 1 u) = nI (sN S 2) := fun h => by
  have bP := hI.bP
  have hne : ¬ lastV (sT S 1 u) = -1 := fun e => by rw [e] at h; exact absurd h (m1_nI (by omega))
  have h2 := (isIx_ix (hI.mounted hu hne).1).2
  rw [h, ix_nI (by omega)] at h2
  omega
theorem Inv.ad1 {S : St} {t v : Nat} (hI : Inv S t) : ∀ u, u < sN S 1 → (up2 (sV S) v 6 1 u 1 = sV S u 1) ∧ (up2 (sV S) v 6 1 u 6 = 0 ∨ up2 (sV S) v 6 1 u 6 = 1) ∧ (up2 (sV S) v 6 1 u 7 = 0 ∨ up2 (sV S) v 6 1 u 7 = 1) := fun u hu => by
  by_cases e : u = v
  · subst e
    rw [up2_k _ _ _ (by decide), up2_same, up2_k _ _ _ (by decide)]
    exact ⟨rfl, Or.inr rfl, hI.sc u hu⟩
  · rw [up2_row _ _ _ e]
    exact ⟨rfl, hI.ad u hu, hI.sc u hu⟩
theorem Inv.sc1 {S : St} {t v : Nat} (hI : Inv S t) : ∀ u, u < sN S 1 → (up2 (sV S) v 7 1 u 1 = sV S u 1) ∧ (up2 (sV S) v 7 1 u 6 = 0 ∨ up2 (sV S) v 7 1 u 6 = 1) ∧ (up2 (sV S) v 7 1 u 7 = 0 ∨ up2 (sV S) v 7 1 u 7 = 1) := fun u hu => by
  by_cases e : u = v
  · subst e
    rw [up2_k _ _ _ (by decide), up2_k _ _ _ (by decide), up2_same]
    exact ⟨rfl, hI.ad u hu, Or.inr rfl⟩
  · rw [up2_row _ _ _ e]
    exact ⟨rfl, hI.ad u hu, hI.sc u hu⟩
theorem cg_up {P : Int32 → Prop} {D x : Int32} {f : Nat → Tl} {k : Nat} (hx : P x) (j : Nat) : Cg P D (f j) (va_up f k (setT (f k) D x) j) := by
  rw [up_if]
  by_cases e : j = k
  · rw [if_pos e, e]; exact Cg.st hx
  · rw [if_neg e]; exact Cg.rf
theorem Inv.setRoad {S : St} {t v : Nat} {b : Int32} (hI : Inv S t) (ht : t < 512) (hb : b = 0 ∨ b = 1) : Inv (uT S 2 v (setT (sT S 2 v) (sD S) b)) (t + 1) := by
  have e0 : up2 (sT S) 2 v (setT (sT S 2 v) (sD S) b) 0 = sT S 0 := up2_row _ _ _ (by decide)
  have e1 : up2 (sT S) 2 v (setT (sT S 2 v) (sD S) b) 1 = sT S 1 := up2_row _ _ _ (by decide)
  have e2 : up2 (sT S) 2 v (setT (sT S 2 v) (sD S) b) 2 = va_up (sT S 2) v (setT (sT S 2 v) (sD S) b) := up2_vT _ _ _ _
  have e3 : up2 (sT S) 2 v (setT (sT S 2 v) (sD S) b) 3 = sT S 3 := up2_row _ _ _ (by decide)
  refine hI.chg ht rfl rfl (Nat.le_refl _) hI.bP rfl rfl e0 rfl rfl (fun u hu => ⟨rfl, hI.ad u hu, hI.sc u hu⟩) (fun u hu => by rw [sT_uT, e1]; exact Cg.rf) (fun u hu => by rw [sT_uT, e2]; exact cg_up hb u) (fun p hp => by rw [sT_uT, e3]; exact Cg.rf) (fun p hp h => absurd hp (Nat.not_lt.mpr h)) (fun u hu p hp => by rw [sT_uT, e1, e3]; exact hI.lx hu hp) (fun p hp h => by rw [sT_uT, e3]; exact hI.kq p hp h)
theorem Inv.onR {S : St} {t v : Nat} (hI : Inv S t) (ht : t < 512) (hv : v < sN S 1) (h0 : lastV (sT S 1 v) = -1) (hr : sN S 2 < 40) : Inv (onRoad S v) (t + 1) := by
  have bV := hI.bV
  have eN := onRoad_N S v
  have hD : sD (onRoad S v) = sD S := by rw [onRoad_mq]; simp only [sD_uT, sD_uV, mountQ_D, newP_D]
  have hL : sL (onRoad S v) = sL S := by rw [onRoad_mq]; simp only [sL_uT, sL_uV, mountQ_L, newP_L]
  have hO : sO (onRoad S v) = sO S := by rw [onRoad_mq]; simp only [sO_uT, sO_uV, mountQ_O, newP_O]
  have hV : sV (onRoad S v) = up2 (sV S) v 6 1 := by rw [onRoad_mq]; simp only [sV_uT, sV_uV, mountQ_V, newP_V]
  have hQ : sQ (onRoad S v) = up2 (up2 (up2 (sQ S) (sN S 2) 2 (-1)) (sN S 2) 3 (-1)) (sN S 2) 2 (-1) := by rw [onRoad_mq]; simp only [sQ_uT, sQ_uV, mountQ_Q, newP_Q]
  have hT0 : sT (onRoad S v) 0 = sT S 0 := by rw [onRoad_mq]; simp only [sT_uT, sT_uV]; rw [up2_row _ _ _ (by decide), mountQ_T0, newP_T, up2_row _ _ _ (by decide)]
  have hT1 : sT (onRoad S v) 1 = va_up (sT S 1) v (setT (sT S 1 v) (sD S) (nI (sN S 2))) := by rw [onRoad_mq]; simp only [sT_uT, sT_uV]; rw [up2_row _ _ _ (by decide), mountQ_T1, newP_T, up2_row _ _ _ (by decide), newP_D]
  have hT2 : sT (onRoad S v) 2 = va_up (sT S 2) v (setT (sT S 2 v) (sD S) 1) := by rw [onRoad_mq]; simp only [sT_uT, sT_uV, sD_uV]; rw [up2_vT, mountQ_T2, newP_T, up2_row _ _ _ (by decide), mountQ_D, newP_D]
  have hT3 : sT (onRoad S v) 3 = va_up (va_up (sT S 3) (sN S 2) []) (sN S 2) (setT (va_up (sT S 3) (sN S 2) [] (sN S 2)) (sD S) (nI v)) := by rw [onRoad_mq]; simp only [sT_uT, sT_uV]; rw [up2_row _ _ _ (by decide), mountQ_T3, newP_T, up2_vT, newP_D]
  generalize onRoad S v = S' at *
  have n2 : sN S' 2 = sN S 2 + 1 := by rw [eN, va_up_self]
  have n1 : sN S' 1 = sN S 1 := by rw [eN, va_up_ne _ _ (by decide)]
  have h3 : ∀ p, sT S' 3 p = if p = sN S 2 then setT [] (sD S) (nI v) else sT S 3 p := fun p => by
    rw [hT3, va_up_self, up_if, up_if]
    by_cases e : p = sN S 2
    · rw [if_pos e, if_pos e]
    · rw [if_neg e, if_neg e, if_neg e]
  have hlx := rel_on hI.bV hI.bP (fun u hu p hp => hI.lx hu hp) (fun u hu => hI.lvb hu) hv h0
  refine hI.chg ht (by rw [eN, va_up_ne _ _ (by decide)]) n1 (by omega) (by omega) (by rw [eN, va_up_ne _ _ (by decide)]) hD hT0 hL hO (by rw [hV]; exact hI.ad1) (fun u hu => by rw [hT1]; exact cg_up (Or.inr (isIx_of (by omega) (by omega))) u) (fun u hu => by rw [hT2]; exact cg_up (Or.inr rfl) u) (fun p hp => by rw [h3, if_neg (by omega)]; exact Cg.rf) (fun p hp hp2 => by rw [h3, if_pos (by omega)]; exact Cg.st (Or.inr (isIx_of hv (by omega)))) (fun u hu p hp => ?_) (fun p hp h => ?_)
  · have g := hlx u hu p (by omega)
    rw [hT1, lv_if, h3]
    by_cases e : p = sN S 2
    · rw [if_pos e] at g ⊢; rw [lastV_setT']; exact g
    · rw [if_neg e] at g ⊢; exact g
  · rw [hQ] at h ⊢
    by_cases e : p = sN S 2
    · subst e; rw [up2_same] at h; exact absurd rfl h
    · rw [up2_row _ _ _ e, up2_row _ _ _ e, up2_row _ _ _ e] at h
      rw [up2_row _ _ _ e, up2_row _ _ _ e, up2_row _ _ _ e, h3, if_neg e]; exact hI.kq p (by omega) h
