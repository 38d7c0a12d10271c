/-! the invariant behind each change -/
theorem scrapV_0 {S : St} {v : Nat} (h : lastV (sT S 1 v) = -1) : scrapV S v = uT (uT (uV S v 7 1) 2 v (setT (sT (uV S v 7 1) 2 v) (sD (uV S v 7 1)) 0)) 1 v (setT (sT (uT (uV S v 7 1) 2 v (setT (sT (uV S v 7 1) 2 v) (sD (uV S v 7 1)) 0)) 1 v) (sD S) (-1)) := by
  have e : sT (uT (uV S v 7 1) 2 v (setT (sT (uV S v 7 1) 2 v) (sD (uV S v 7 1)) 0)) 1 = sT S 1 := by simp only [sT_uT, sT_uV]; exact up2_row _ _ _ (by decide)
  unfold scrapV
  simp only [sD_uV] at e ⊢
  rw [e, if_pos h, e]
theorem scrapV_1 {S : St} {v : Nat} (h : ¬ lastV (sT S 1 v) = -1) : scrapV S v = uT (voidQ (uT (uV S v 7 1) 2 v (setT (sT (uV S v 7 1) 2 v) (sD S) 0)) (ix (lastV (sT S 1 v)))) 1 v (setT (sT (voidQ (uT (uV S v 7 1) 2 v (setT (sT (uV S v 7 1) 2 v) (sD S) 0)) (ix (lastV (sT S 1 v)))) 1 v) (sD S) (-1)) := by
  have e : sT (uT (uV S v 7 1) 2 v (setT (sT (uV S v 7 1) 2 v) (sD S) 0)) 1 = sT S 1 := by simp only [sT_uT, sT_uV]; exact up2_row _ _ _ (by decide)
  unfold scrapV
  simp only [sD_uV] at e ⊢
  rw [e, if_neg h]
theorem voidQ_T3 (S : St) (p : Nat) : sT (voidQ S p) 3 = va_up (sT S 3) p (setT (sT S 3 p) (sD S) (-1)) := by unfold voidQ; simp only [sT_uT, sT_uQ]; exact up2_vT _ _ _ _
theorem nI_ixm {S : St} {t v : Nat} (hI : Inv S t) (hv : v < sN S 1) (h : ¬ lastV (sT S 1 v) = -1) : lastV (sT S 1 v) = nI (ix (lastV (sT S 1 v))) := isIx_nI (hI.mounted hv h).1
theorem Inv.scr {S : St} {t v : Nat} (hI : Inv S t) (ht : t < 512) (hv : v < sN S 1) : Inv (scrapV S v) (t + 1) ∧ (sV (scrapV S v) = up2 (sV S) v 7 1 ∧ sT (scrapV S v) 1 = va_up (sT S 1) v (setT (sT S 1 v) (sD S) (-1)) ∧ sN (scrapV S v) = sN S) := by
  have bV := hI.bV
  have bP := hI.bP
  by_cases h : lastV (sT S 1 v) = -1
  · have hV : sV (scrapV S v) = up2 (sV S) v 7 1 := by rw [scrapV_0 h]; simp only [sV_uT, sV_uV]
    have hT0 : sT (scrapV S v) 0 = sT S 0 := by rw [scrapV_0 h]; simp only [sT_uT, sT_uV]; rw [up2_row _ _ _ (by decide), up2_row _ _ _ (by decide)]
    have hT1 : sT (scrapV S v) 1 = va_up (sT S 1) v (setT (sT S 1 v) (sD S) (-1)) := by rw [scrapV_0 h]; simp only [sT_uT, sT_uV]; rw [up2_vT, up2_row _ _ _ (by decide)]
    have hT2 : sT (scrapV S v) 2 = va_up (sT S 2) v (setT (sT S 2 v) (sD S) 0) := by rw [scrapV_0 h]; simp only [sT_uT, sT_uV, sD_uV]; rw [up2_row _ _ _ (by decide), up2_vT]
    have hT3 : sT (scrapV S v) 3 = sT S 3 := by rw [scrapV_0 h]; simp only [sT_uT, sT_uV]; rw [up2_row _ _ _ (by decide), up2_row _ _ _ (by decide)]
    have hQ : sQ (scrapV S v) = sQ S := by rw [scrapV_0 h]; simp only [sQ_uT, sQ_uV]
    have hD : sD (scrapV S v) = sD S := by rw [scrapV_0 h]; simp only [sD_uT, sD_uV]
    have hL : sL (scrapV S v) = sL S := by rw [scrapV_0 h]; simp only [sL_uT, sL_uV]
    have hO : sO (scrapV S v) = sO S := by rw [scrapV_0 h]; simp only [sO_uT, sO_uV]
    have hN := scrap_N S v
    refine ⟨?_, hV, hT1, hN⟩
    generalize scrapV S v = S' at *
    refine hI.chg ht (by rw [hN]) (by rw [hN]) (by rw [hN]; exact Nat.le_refl _) (by rw [hN]; exact bP) (by rw [hN]) hD hT0 hL hO (by rw [hV]; exact hI.sc1) (fun u hu => by rw [hT1]; exact cg_up (Or.inl rfl) u) (fun u hu => by rw [hT2]; exact cg_up (Or.inl rfl) u) (fun p hp => by rw [hT3]; exact Cg.rf) (fun p hp hp2 => by rw [hN] at hp; omega) (fun u hu p hp => ?_) (fun p hp hq => ?_)
    · rw [hT1, lv_if, hT3]; rw [hN] at hp
      exact rel_none bV bP (fun u hu p hp => hI.lx hu hp) hv h u hu p hp
    · rw [hQ] at hq ⊢; rw [hT3]; rw [hN] at hp; exact hI.kq p hp hq
  · obtain ⟨hm1, hm2, hm3⟩ := hI.mounted hv h
    have hqi := nI_ixm hI hv h
    have hql := (isIx_ix hm1).2
    have e1 := scrapV_1 h
    obtain ⟨q, hq0⟩ : ∃ q, q = ix (lastV (sT S 1 v)) := ⟨_, rfl⟩
    rw [← hq0] at hm2 hm3 hqi hql e1
    have hV : sV (scrapV S v) = up2 (sV S) v 7 1 := by rw [e1]; simp only [sV_uT, voidQ_V, sV_uV]
    have hT0 : sT (scrapV S v) 0 = sT S 0 := by rw [e1, sT_uT, up2_row _ _ _ (by decide), voidQ_T _ _ (by decide), sT_uT, up2_row _ _ _ (by decide), sT_uV]
    have hT1 : sT (scrapV S v) 1 = va_up (sT S 1) v (setT (sT S 1 v) (sD S) (-1)) := by rw [e1, sT_uT, up2_vT, voidQ_T _ _ (by decide), sT_uT, up2_row _ _ _ (by decide), sT_uV]
    have hT2 : sT (scrapV S v) 2 = va_up (sT S 2) v (setT (sT S 2 v) (sD S) 0) := by rw [e1, sT_uT, up2_row _ _ _ (by decide), voidQ_T _ _ (by decide), sT_uT, up2_vT, sT_uV]
    have hT3 : sT (scrapV S v) 3 = va_up (sT S 3) q (setT (sT S 3 q) (sD S) (-1)) := by rw [e1, sT_uT, up2_row _ _ _ (by decide), voidQ_T3, sT_uT, up2_row _ _ _ (by decide), sT_uV, sD_uT, sD_uV]
    have hQ : sQ (scrapV S v) = up2 (sQ S) q 2 (-1) := by rw [e1]; simp only [sQ_uT, voidQ_Q, sQ_uV]
    have hD : sD (scrapV S v) = sD S := by rw [e1]; simp only [sD_uT, voidQ_D, sD_uV]
    have hL : sL (scrapV S v) = sL S := by rw [e1]; simp only [sL_uT, voidQ_L, sL_uV]
    have hO : sO (scrapV S v) = sO S := by rw [e1]; simp only [sO_uT, voidQ_O, sO_uV]
    have hN := scrap_N S v
    refine ⟨?_, hV, hT1, hN⟩
    generalize scrapV S v = S' at *
    refine hI.chg ht (by rw [hN]) (by rw [hN]) (by rw [hN]; exact Nat.le_refl _) (by rw [hN]; exact bP) (by rw [hN]) hD hT0 hL hO (by rw [hV]; exact hI.sc1) (fun u hu => by rw [hT1]; exact cg_up (Or.inl rfl) u) (fun u hu => by rw [hT2]; exact cg_up (Or.inl rfl) u) (fun p hp => by rw [hT3]; exact cg_up (Or.inl rfl) p) (fun p hp hp2 => by rw [hN] at hp; omega) (fun u hu p hp => ?_) (fun p hp hq => ?_)
    · rw [hT1, lv_if, hT3, lv_if]; rw [hN] at hp
      exact rel_off bV bP (fun u hu p hp => hI.lx hu hp) hv hql hqi hm2 u hu p hp
    · rw [hN] at hp
      rw [hQ] at hq ⊢
      by_cases e : p = q
      · subst e; rw [up2_same] at hq; exact absurd rfl hq
      · rw [up2_row _ _ _ e] at hq ⊢
        rw [hT3, lv_if, if_neg e]; exact hI.kq p hp hq
theorem Inv.kpr {S : St} {t v : Nat} (hI : Inv S t) (hv : v < sN S 1) : isIx (lastV (sT S 0 v)) (sN S 0) = true := by
  obtain ⟨e, he, h1⟩ := lastV_mem (hI.tn v hv)
  rw [h1]; exact hI.t0 v hv e he
theorem Inv.kpt {S : St} {t v : Nat} (hI : Inv S t) (ht : t < 512) (hv : v < sN S 1) (h : ¬ lastV (sT S 1 v) = -1) (hr : sN S 2 < 40) : Inv (keepQ S v) (t + 1) ∧ (sV (keepQ S v) = sV S ∧ sT (keepQ S v) 1 = va_up (sT S 1) v (setT (sT S 1 v) (sD S) (nI (sN S 2))) ∧ sN (keepQ S v) = va_up (sN S) 2 (sN S 2 + 1)) := by
  have bV := hI.bV
  have bP := hI.bP
  obtain ⟨hm1, hm2, hm3⟩ := hI.mounted hv h
  have hqi := nI_ixm hI hv h
  have hql := (isIx_ix hm1).2
  have hkp := hI.kpr hv
  have e1 : keepQ S v = mountQ (newP (uT (uQ (uQ S (ix (lastV (sT S 1 v))) 2 (lastV (sT S 0 v))) (ix (lastV (sT S 1 v))) 3 (sD S)) 3 (ix (lastV (sT S 1 v))) (setT (sT S 3 (ix (lastV (sT S 1 v)))) (sD S) (-1)))) (sN S 2) v := rfl
  obtain ⟨q, hq0⟩ : ∃ q, q = ix (lastV (sT S 1 v)) := ⟨_, rfl⟩
  rw [← hq0] at hm2 hm3 hqi hql e1
  have hN : sN (keepQ S v) = va_up (sN S) 2 (sN S 2 + 1) := by rw [e1, mountQ_N, newP_N]; simp only [sN_uT, sN_uQ]
  have hV : sV (keepQ S v) = sV S := by rw [e1, mountQ_V, newP_V]; simp only [sV_uT, sV_uQ]
  have hD : sD (keepQ S v) = sD S := by rw [e1, mountQ_D, newP_D]; simp only [sD_uT, sD_uQ]
  have hL : sL (keepQ S v) = sL S := by rw [e1, mountQ_L, newP_L]; simp only [sL_uT, sL_uQ]
  have hO : sO (keepQ S v) = sO S := by rw [e1, mountQ_O, newP_O]; simp only [sO_uT, sO_uQ]
  have hT0 : sT (keepQ S v) 0 = sT S 0 := by rw [e1, mountQ_T0, newP_T, up2_row _ _ _ (by decide), sT_uT, up2_row _ _ _ (by decide)]; simp only [sT_uQ]
  have hT1 : sT (keepQ S v) 1 = va_up (sT S 1) v (setT (sT S 1 v) (sD S) (nI (sN S 2))) := by rw [e1, mountQ_T1, newP_T, up2_row _ _ _ (by decide), sT_uT, up2_row _ _ _ (by decide), newP_D]; simp only [sT_uQ, sD_uT, sD_uQ]
  have hT2 : sT (keepQ S v) 2 = sT S 2 := by rw [e1, mountQ_T2, newP_T, up2_row _ _ _ (by decide), sT_uT, up2_row _ _ _ (by decide)]; simp only [sT_uQ]
  have hT3 : ∀ p, sT (keepQ S v) 3 p = if p = sN S 2 then setT [] (sD S) (nI v) else if p = q then setT (sT S 3 q) (sD S) (-1) else sT S 3 p := fun p => by
    rw [e1, mountQ_T3, newP_T, newP_D]
    simp only [sT_uT, sT_uQ, sD_uT, sD_uQ, sN_uT, sN_uQ, up2_vT, up_if, if_true]
    by_cases e : p = sN S 2
    · rw [if_pos e, if_pos e]
    · rw [if_neg e, if_neg e, if_neg e]
  have hQ : sQ (keepQ S v) = up2 (up2 (up2 (up2 (up2 (sQ S) q 2 (lastV (sT S 0 v))) q 3 (sD S)) (sN S 2) 2 (-1)) (sN S 2) 3 (-1)) (sN S 2) 2 (-1) := by rw [e1, mountQ_Q, newP_Q]; simp only [sQ_uT, sQ_uQ, sN_uT, sN_uQ]
  refine ⟨?_, hV, hT1, hN⟩
  generalize keepQ S v = S' at *
  have n2 : sN S' 2 = sN S 2 + 1 := by rw [hN, va_up_self]
  have n1 : sN S' 1 = sN S 1 := by rw [hN, va_up_ne _ _ (by decide)]
  have hqn : q ≠ sN S 2 := by omega
  refine hI.chg ht (by rw [hN, va_up_ne _ _ (by decide)]) n1 (by omega) (by omega) (by rw [hN, va_up_ne _ _ (by decide)]) hD hT0 hL hO (fun u hu => by rw [hV]; exact ⟨rfl, hI.ad u hu, hI.sc u hu⟩) (fun u hu => by rw [hT1]; exact cg_up (Or.inr (isIx_of (by omega) (by omega))) u) (fun u hu => by rw [hT2]; exact Cg.rf) (fun p hp => ?_) (fun p hp hp2 => by rw [hT3, if_pos (by omega)]; exact Cg.st (Or.inr (isIx_of hv (by omega)))) (fun u hu p hp => ?_) (fun p hp hq => ?_)
  · rw [hT3, if_neg (by omega)]
    by_cases e : p = q
    · rw [if_pos e, e]; exact Cg.st (Or.inl rfl)
    · rw [if_neg e]; exact Cg.rf
  · have g := rel_new bV bP (fun u hu p hp => hI.lx hu hp) (fun u hu => hI.lvb hu) hv hql hqi hm2 u hu p (by omega)
    rw [hT1, lv_if, hT3]
    by_cases e : p = sN S 2
    · rw [if_pos e] at g ⊢; rw [lastV_setT']; exact g
    · rw [if_neg e] at g ⊢
      by_cases e2 : p = q
      · rw [if_pos e2] at g ⊢; rw [lastV_setT']; exact g
      · rw [if_neg e2] at g ⊢; exact g
  · rw [hQ] at hq ⊢
    by_cases e : p = sN S 2
    · subst e; rw [up2_same] at hq; exact absurd rfl hq
    · rw [hT3, if_neg e]
      rw [up2_row _ _ _ e, up2_row _ _ _ e, up2_row _ _ _ e] at hq ⊢
      by_cases e2 : p = q
      · subst e2
        rw [if_pos rfl, lastV_setT', up2_k _ _ _ (by decide), up2_same, up2_same]
        exact ⟨rfl, hkp, hI.bD.1, Int.le_refl _⟩
      · rw [up2_row _ _ _ e2, up2_row _ _ _ e2] at hq ⊢
        rw [if_neg e2]; exact hI.kq p (by omega) hq
theorem Inv.put {S : St} {t v r : Nat} (hI : Inv S t) (ht : t < 512) (hv : v < sN S 1) (h : ¬ lastV (sT S 1 v) = -1) (hr : r < sN S 2) (hk : sQ S r 2 ≠ -1) : Inv (mountQ (voidQ S (ix (lastV (sT S 1 v)))) r v) (t + 1) ∧ (sV (mountQ (voidQ S (ix (lastV (sT S 1 v)))) r v) = sV S ∧ sT (mountQ (voidQ S (ix (lastV (sT S 1 v)))) r v) 1 = va_up (sT S 1) v (setT (sT S 1 v) (sD S) (nI r)) ∧ sN (mountQ (voidQ S (ix (lastV (sT S 1 v)))) r v) = sN S) := by
  have bV := hI.bV
  have bP := hI.bP
  obtain ⟨hm1, hm2, hm3⟩ := hI.mounted hv h
  have hqi := nI_ixm hI hv h
  have hql := (isIx_ix hm1).2
  have h4 := (hI.kq r hr hk).1
  obtain ⟨q, hq0⟩ : ∃ q, q = ix (lastV (sT S 1 v)) := ⟨_, rfl⟩
  rw [← hq0] at hm2 hm3 hqi hql ⊢
  have hrq : r ≠ q := fun e => by rw [e, hm2] at h4; exact absurd h4.symm (m1_nI (by omega))
  have hN : sN (mountQ (voidQ S q) r v) = sN S := by rw [mountQ_N, voidQ_N]
  have hV : sV (mountQ (voidQ S q) r v) = sV S := by rw [mountQ_V, voidQ_V]
  have hD : sD (mountQ (voidQ S q) r v) = sD S := by rw [mountQ_D, voidQ_D]
  have hL : sL (mountQ (voidQ S q) r v) = sL S := by rw [mountQ_L, voidQ_L]
  have hO : sO (mountQ (voidQ S q) r v) = sO S := by rw [mountQ_O, voidQ_O]
  have hT0 : sT (mountQ (voidQ S q) r v) 0 = sT S 0 := by rw [mountQ_T0, voidQ_T _ _ (by decide)]
  have hT1 : sT (mountQ (voidQ S q) r v) 1 = va_up (sT S 1) v (setT (sT S 1 v) (sD S) (nI r)) := by rw [mountQ_T1, voidQ_T _ _ (by decide), voidQ_D]
  have hT2 : sT (mountQ (voidQ S q) r v) 2 = sT S 2 := by rw [mountQ_T2, voidQ_T _ _ (by decide)]
  have hT3 : ∀ p, sT (mountQ (voidQ S q) r v) 3 p = if p = r then setT (sT S 3 r) (sD S) (nI v) else if p = q then setT (sT S 3 q) (sD S) (-1) else sT S 3 p := fun p => by
    rw [mountQ_T3, voidQ_T3, voidQ_D]
    simp only [up_if, if_neg hrq]
  have hQ : sQ (mountQ (voidQ S q) r v) = up2 (up2 (sQ S) q 2 (-1)) r 2 (-1) := by rw [mountQ_Q, voidQ_Q]
  refine ⟨?_, hV, hT1, hN⟩
  generalize mountQ (voidQ S q) r v = S' at *
  refine hI.chg ht (by rw [hN]) (by rw [hN]) (by rw [hN]; exact Nat.le_refl _) (by rw [hN]; exact bP) (by rw [hN]) hD hT0 hL hO (fun u hu => by rw [hV]; exact ⟨rfl, hI.ad u hu, hI.sc u hu⟩) (fun u hu => by rw [hT1]; exact cg_up (Or.inr (isIx_of (by rw [hN]; omega) (by omega))) u) (fun u hu => by rw [hT2]; exact Cg.rf) (fun p hp => ?_) (fun p hp hp2 => by rw [hN] at hp; omega) (fun u hu p hp => ?_) (fun p hp hq => ?_)
  · rw [hT3]
    by_cases e : p = r
    · rw [if_pos e, e]; exact Cg.st (Or.inr (isIx_of hv (by omega)))
    · rw [if_neg e]
      by_cases e2 : p = q
      · rw [if_pos e2, e2]; exact Cg.st (Or.inl rfl)
      · rw [if_neg e2]; exact Cg.rf
  · rw [hN] at hp
    have g := rel_put bV bP (fun u hu p hp => hI.lx hu hp) hv hql hr hqi hm2 h4 u hu p hp
    rw [hT1, lv_if, hT3]
    by_cases e : p = r
    · rw [if_pos e] at g ⊢; rw [lastV_setT']; exact g
    · rw [if_neg e] at g ⊢
      by_cases e2 : p = q
      · rw [if_pos e2] at g ⊢; rw [lastV_setT']; exact g
      · rw [if_neg e2] at g ⊢; exact g
  · rw [hN] at hp
    rw [hQ] at hq ⊢
    by_cases e : p = r
    · subst e; rw [up2_same] at hq; exact absurd rfl hq
    · rw [up2_row _ _ _ e] at hq ⊢
      by_cases e2 : p = q
      · subst e2; rw [up2_same] at hq; exact absurd rfl hq
      · rw [up2_row _ _ _ e2] at hq ⊢
        rw [hT3, if_neg e, if_neg e2]; exact hI.kq p hp hq
theorem Inv.swp {S : St} {t v w : Nat} (hI : Inv S t) (ht : t < 512) (hv : v < sN S 1) (hw : w < sN S 1) (hvw : v ≠ w) (h : ¬ lastV (sT S 1 v) = -1) (h9 : ¬ lastV (sT S 1 w) = -1) : Inv (mountQ (mountQ S (ix (lastV (sT S 1 w))) v) (ix (lastV (sT S 1 v))) w) (t + 1) ∧ (sV (mountQ (mountQ S (ix (lastV (sT S 1 w))) v) (ix (lastV (sT S 1 v))) w) = sV S ∧ (∀ u, u ≠ v → u ≠ w → sT (mountQ (mountQ S (ix (lastV (sT S 1 w))) v) (ix (lastV (sT S 1 v))) w) 1 u = sT S 1 u) ∧ sN (mountQ (mountQ S (ix (lastV (sT S 1 w))) v) (ix (lastV (sT S 1 v))) w) = sN S) := by
  have bV := hI.bV
  have bP := hI.bP
  obtain ⟨hm1, hm2, hm3⟩ := hI.mounted hv h
  have hpi := nI_ixm hI hv h
  have hpl := (isIx_ix hm1).2
  obtain ⟨hn1, hn2, hn3⟩ := hI.mounted hw h9
  have hqi := nI_ixm hI hw h9
  have hql := (isIx_ix hn1).2
  obtain ⟨p9, hp0⟩ : ∃ q, q = ix (lastV (sT S 1 v)) := ⟨_, rfl⟩
  obtain ⟨q9, hq0⟩ : ∃ q, q = ix (lastV (sT S 1 w)) := ⟨_, rfl⟩
  rw [← hp0] at hm2 hm3 hpi hpl ⊢
  rw [← hq0] at hn2 hn3 hqi hql ⊢
  have hpq : p9 ≠ q9 := fun e => by rw [e, hn2] at hm2; exact hvw (nI_inj (by omega) (by omega) hm2).symm
  have hN : sN (mountQ (mountQ S q9 v) p9 w) = sN S := by rw [mountQ_N, mountQ_N]
  have hV : sV (mountQ (mountQ S q9 v) p9 w) = sV S := by rw [mountQ_V, mountQ_V]
  have hD : sD (mountQ (mountQ S q9 v) p9 w) = sD S := by rw [mountQ_D, mountQ_D]
  have hL : sL (mountQ (mountQ S q9 v) p9 w) = sL S := by rw [mountQ_L, mountQ_L]
  have hO : sO (mountQ (mountQ S q9 v) p9 w) = sO S := by rw [mountQ_O, mountQ_O]
  have hT0 : sT (mountQ (mountQ S q9 v) p9 w) 0 = sT S 0 := by rw [mountQ_T0, mountQ_T0]
  have hT1 : ∀ u, sT (mountQ (mountQ S q9 v) p9 w) 1 u = if u = w then setT (sT S 1 w) (sD S) (nI p9) else if u = v then setT (sT S 1 v) (sD S) (nI q9) else sT S 1 u := fun u => by
    rw [mountQ_T1, mountQ_T1, mountQ_D]
    simp only [up_if, if_neg (Ne.symm hvw)]
  have hT2 : sT (mountQ (mountQ S q9 v) p9 w) 2 = sT S 2 := by rw [mountQ_T2, mountQ_T2]
  have hT3 : ∀ p, sT (mountQ (mountQ S q9 v) p9 w) 3 p = if p = p9 then setT (sT S 3 p9) (sD S) (nI w) else if p = q9 then setT (sT S 3 q9) (sD S) (nI v) else sT S 3 p := fun p => by
    rw [mountQ_T3, mountQ_T3, mountQ_D]
    simp only [up_if, if_neg hpq]
  have hQ : sQ (mountQ (mountQ S q9 v) p9 w) = up2 (up2 (sQ S) q9 2 (-1)) p9 2 (-1) := by rw [mountQ_Q, mountQ_Q]
  refine ⟨?_, hV, fun u g1 g2 => by rw [hT1, if_neg g2, if_neg g1], hN⟩
  generalize mountQ (mountQ S q9 v) p9 w = S' at *
  refine hI.chg ht (by rw [hN]) (by rw [hN]) (by rw [hN]; exact Nat.le_refl _) (by rw [hN]; exact bP) (by rw [hN]) hD hT0 hL hO (fun u hu => by rw [hV]; exact ⟨rfl, hI.ad u hu, hI.sc u hu⟩) (fun u hu => ?_) (fun u hu => by rw [hT2]; exact Cg.rf) (fun p hp => ?_) (fun p hp hp2 => by rw [hN] at hp; omega) (fun u hu p hp => ?_) (fun p hp hq => ?_)
  · rw [hT1]
    by_cases e : u = w
    · rw [if_pos e, e]; exact Cg.st (Or.inr (isIx_of (by rw [hN]; omega) (by omega)))
    · rw [if_neg e]
      by_cases e2 : u = v
      · rw [if_pos e2, e2]; exact Cg.st (Or.inr (isIx_of (by rw [hN]; omega) (by omega)))
      · rw [if_neg e2]; exact Cg.rf
  · rw [hT3]
    by_cases e : p = p9
    · rw [if_pos e, e]; exact Cg.st (Or.inr (isIx_of hw (by omega)))
    · rw [if_neg e]
      by_cases e2 : p = q9
      · rw [if_pos e2, e2]; exact Cg.st (Or.inr (isIx_of hv (by omega)))
      · rw [if_neg e2]; exact Cg.rf
  · rw [hN] at hp
    have g := rel_swap bV bP (fun u hu p hp => hI.lx hu hp) hv hw hvw hpl hql hpi hqi hm2 hn2 u hu p hp
    have ea : lastV (sT S' 1 u) = if u = w then nI p9 else if u = v then nI q9 else lastV (sT S 1 u) := by
      rw [hT1]
      by_cases e : u = w
      · rw [if_pos e, if_pos e, lastV_setT']
      · rw [if_neg e, if_neg e]
        by_cases e2 : u = v
        · rw [if_pos e2, if_pos e2, lastV_setT']
        · rw [if_neg e2, if_neg e2]
    have eb : lastV (sT S' 3 p) = if p = p9 then nI w else if p = q9 then nI v else lastV (sT S 3 p) := by
      rw [hT3]
      by_cases e : p = p9
      · rw [if_pos e, if_pos e, lastV_setT']
      · rw [if_neg e, if_neg e]
        by_cases e2 : p = q9
        · rw [if_pos e2, if_pos e2, lastV_setT']
        · rw [if_neg e2, if_neg e2]
    rw [ea, eb]; exact g
  · rw [hN] at hp
    rw [hQ] at hq ⊢
    by_cases e : p = p9
    · subst e; rw [up2_same] at hq; exact absurd rfl hq
    · rw [up2_row _ _ _ e] at hq ⊢
      by_cases e2 : p = q9
      · subst e2; rw [up2_same] at hq; exact absurd rfl hq
      · rw [up2_row _ _ _ e2] at hq ⊢
        rw [hT3, if_neg e, if_neg e2]; exact hI.kq p hp hq
