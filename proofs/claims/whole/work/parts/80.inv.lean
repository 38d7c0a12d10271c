/-! the invariant behind the other changes, and behind each call -/
theorem isIx_up {x : Int32} {n m : Nat} (h : isIx x n = true) (hm : n ≤ m) : isIx x m = true := by
  obtain ⟨h1, h2⟩ := isIx_ix h
  rw [isIx_iff]; omega
theorem cnt_cg80 {f g : Nat → Bool} : ∀ {n : Nat}, (∀ k, k < n → f k = g k) → cnt f n = cnt g n
  | 0, _ => rfl
  | n + 1, h => by rw [cnt_s, cnt_s, cnt_cg80 (fun k hk => h k (by omega)), h n (by omega)]
theorem Inv.aK {S : St} {t : Nat} (h : Inv S t) (hn : sN S 0 < 12) : Inv (uN S 0 (sN S 0 + 1)) t := by
  have e0 : sN (uN S 0 (sN S 0 + 1)) 0 = sN S 0 + 1 := by rw [sN_uN, va_up_self]
  have e1 : sN (uN S 0 (sN S 0 + 1)) 1 = sN S 1 := by rw [sN_uN, va_up_ne _ _ (by decide)]
  have e2 : sN (uN S 0 (sN S 0 + 1)) 2 = sN S 2 := by rw [sN_uN, va_up_ne _ _ (by decide)]
  have e3 : sN (uN S 0 (sN S 0 + 1)) 3 = sN S 3 := by rw [sN_uN, va_up_ne _ _ (by decide)]
  have hp : ∀ n, passN (uN S 0 (sN S 0 + 1)) n = passN S n := fun n => passN_T (by simp only [sT_uN]) n
  unfold Inv
  rw [e0, e1, e2, e3, hp]
  exact ⟨hn, h.bV, h.bP, h.bN, h.bD, h.bt, h.tn, h.ts, h.s2, fun v hv e he => isIx_up (h.t0 v hv e he) (Nat.le_succ _), h.t1, h.t2, h.tl, h.kd, h.sc, h.ad, h.li, h.p3, h.pv, h.pl, h.ex, fun p hp hq => ⟨(h.kq p hp hq).1, isIx_up (h.kq p hp hq).2.1 (Nat.le_succ _), (h.kq p hp hq).2.2⟩, fun n hn => (h.n1 n hn).imp_right (fun g => isIx_up g (Nat.le_succ _)), h.n2, fun n hn => isIx_up (h.n3 n hn) (Nat.le_succ _), h.n4, h.n5, h.cu⟩
theorem srt_up {l : Tl} {D d : Int32} (h : srt l D) (hd : D ≤ d) : srt l d := ⟨fun e he => ⟨(h.1 e he).1, i_le_trans (h.1 e he).2 hd⟩, h.2⟩
theorem Inv.ps {S : St} {t : Nat} {d : Int32} (h : Inv S t) (hd : sD S ≤ d) (h3 : d.toInt ≤ 3000) : Inv (uD S d) t := by
  have hp : ∀ n, passN (uD S d) n = passN S n := fun n => passN_T (sT_uD S d) n
  have hD := h.bD
  have hd2 := hd
  rw [i_le] at hd2
  unfold Inv
  rw [hp]
  exact ⟨h.bK, h.bV, h.bP, h.bN, ⟨by show 0 ≤ d.toInt; omega, h3⟩, h.bt, h.tn, fun v hv r hr => srt_up (h.ts v hv r hr) hd, h.s2, h.t0, h.t1, h.t2, h.tl, h.kd, h.sc, h.ad, h.li, fun p hp => srt_up (h.p3 p hp) hd, h.pv, h.pl, h.ex, fun p hp hq => ⟨(h.kq p hp hq).1, (h.kq p hp hq).2.1, (h.kq p hp hq).2.2.1, Int.le_trans (h.kq p hp hq).2.2.2 hd2⟩, h.n1, h.n2, h.n3, fun n hn => ⟨(h.n4 n hn).1, i_le_trans (h.n4 n hn).2 hd⟩, h.n5, h.cu⟩
theorem Inv.wd {S : St} {t n : Nat} (h : Inv S t) (h5 : sO S n 5 = 111) : Inv (uO S n 5 119) t := by
  have hp : ∀ m, passN (uO S n 5 119) m = passN S m := fun m => passN_T (sT_uO S n 5 119) m
  have hk : ∀ m k, k ≠ 5 → sO (uO S n 5 119) m k = sO S m k := fun m k hk => by
    show up2 (sO S) n 5 119 m k = _
    unfold up2
    by_cases e : m = n
    · rw [if_pos e, if_neg hk, e]
    · rw [if_neg e]
  have h5' : ∀ m, sO (uO S n 5 119) m 5 = if m = n then 119 else sO S m 5 := fun m => by
    show up2 (sO S) n 5 119 m 5 = _
    unfold up2
    by_cases e : m = n
    · rw [if_pos e, if_pos rfl, if_pos e]
    · rw [if_neg e, if_neg e]
  have hc : cnt (fun i => decide (sO (uO S n 5 119) i 5 = 117)) (sN S 3) = cnt (fun i => decide (sO S i 5 = 117)) (sN S 3) := cnt_cg80 (fun k _ => by
    rw [h5']
    by_cases e : k = n
    · rw [if_pos e, e, h5]; decide
    · rw [if_neg e])
  have hN : sN (uO S n 5 119) = sN S := rfl
  unfold Inv
  rw [hp, hN, hc]
  exact ⟨h.bK, h.bV, h.bP, h.bN, h.bD, h.bt, h.tn, h.ts, h.s2, h.t0, h.t1, h.t2, h.tl, h.kd, h.sc, h.ad, h.li, h.p3, h.pv, h.pl, h.ex, h.kq, fun m hm => by rw [hk m 1 (by decide)]; exact h.n1 m hm, fun m hm => by rw [hk m 2 (by decide)]; exact h.n2 m hm, fun m hm => by rw [hk m 3 (by decide)]; exact h.n3 m hm, fun m hm => by rw [hk m 4 (by decide)]; exact h.n4 m hm, fun m hm => by
    rw [h5']
    by_cases e : m = n
    · rw [if_pos e]; exact Or.inr (Or.inr rfl)
    · rw [if_neg e]; exact h.n5 m hm, h.cu⟩
theorem zero_le9 (t : Nat) : (0 : Int32).toInt ≤ 9999 * (t : Int) := by
  have : (0 : Int32).toInt = 0 := by decide
  omega
theorem Inv.adV {S : St} {t : Nat} {w k : Int32} (h : Inv S t) (hn : sN S 1 < 15) (hw : isIx w (sN S 0) = true) (hk : kindOk k = true) : Inv (addV S w k) t := by
  have bV := h.bV
  have bP := h.bP
  have hN := addV_N S w k
  have hD := addV_D S w k
  have hV := addV_V S w k
  have hL := addV_L S w k
  have hT := addV_T S w k
  have hQ := addV_Q S w k
  have hO := addV_O S w k
  have hD0 : (0 : Int32) ≤ sD S := by rw [i_le]; exact h.bD.1
  generalize addV S w k = S' at *
  have n0 : sN S' 0 = sN S 0 := by rw [hN, va_up_ne _ _ (by decide)]
  have n1 : sN S' 1 = sN S 1 + 1 := by rw [hN, va_up_self]
  have n2 : sN S' 2 = sN S 2 := by rw [hN, va_up_ne _ _ (by decide)]
  have n3 : sN S' 3 = sN S 3 := by rw [hN, va_up_ne _ _ (by decide)]
  have tO : ∀ r v, v ≠ sN S 1 → sT S' r v = sT S r v := fun r v hv => by rw [hT, up2_b' _ _ _ _ hv, up2_b' _ _ _ _ hv, up2_b' _ _ _ _ hv]
  have t0 : sT S' 0 (sN S 1) = [(sD S, w)] := by rw [hT, up2_row _ _ _ (by decide), up2_row _ _ _ (by decide), up2_same]
  have t1 : sT S' 1 (sN S 1) = [] := by rw [hT, up2_row _ _ _ (by decide), up2_same]
  have t2 : sT S' 2 (sN S 1) = [] := by rw [hT, up2_same]
  have t3 : sT S' 3 = sT S 3 := by rw [hT, up2_row _ _ _ (by decide), up2_row _ _ _ (by decide), up2_row _ _ _ (by decide)]
  have vO : ∀ v, v ≠ sN S 1 → sV S' v = sV S v := fun v hv => by rw [hV, up2_row _ _ _ hv, up2_row _ _ _ hv, up2_row _ _ _ hv]
  have v1 : sV S' (sN S 1) 1 = k := by rw [hV, up2_k _ _ _ (by decide), up2_k _ _ _ (by decide), up2_same]
  have v6 : sV S' (sN S 1) 6 = 0 := by rw [hV, up2_k _ _ _ (by decide), up2_same]
  have v7 : sV S' (sN S 1) 7 = 0 := by rw [hV, up2_same]
  have lO : ∀ v, v ≠ sN S 1 → sL S' v = sL S v := fun v hv => by rw [hL, up2_row _ _ _ hv, up2_row _ _ _ hv, up2_row _ _ _ hv, up2_row _ _ _ hv, up2_row _ _ _ hv, up2_row _ _ _ hv]
  have l0 : ∀ j, j < 6 → sL S' (sN S 1) j = 0 := fun j hj => by
    rw [hL]
    unfold up2
    simp only [if_true]
    split
    · rfl
    · split
      · rfl
      · split
        · rfl
        · split
          · rfl
          · split
            · rfl
            · split
              · rfl
              · omega
  have hp0 : ∀ n, n ≤ sN S 1 → passN S' n = passN S n := by
    intro n
    induction n with
    | zero => intro _; rfl
    | succ n ih => intro hn; unfold passN; rw [ih (by omega), tO 0 n (by omega)]
  have hp : passN S' (sN S 1 + 1) = passN S (sN S 1) + 1 := by
    show passN S' (sN S 1) + (sT S' 0 (sN S 1)).length = _
    rw [hp0 _ (Nat.le_refl _), t0]; rfl
  have nv : ∀ {P : Nat → Prop}, (∀ v, v < sN S 1 → v ≠ sN S 1 → P v) → P (sN S 1) → ∀ v, v < sN S 1 + 1 → P v := fun h1 h2 v hv => by
    by_cases e : v = sN S 1
    · rw [e]; exact h2
    · exact h1 v (by omega) e
  unfold Inv
  rw [n0, n1, n2, n3, hD, hQ, hO, hp]
  refine ⟨h.bK, hn, h.bP, h.bN, h.bD, h.bt, nv (fun v hv e => by rw [tO 0 v e]; exact h.tn v hv) (by rw [t0]; simp), nv (fun v hv e r hr => by rw [tO r v e]; exact h.ts v hv r hr) ?_, nv (fun v hv e => by rw [tO 2 v e]; exact h.s2 v hv) (by rw [t2]; exact List.Pairwise.nil), nv (fun v hv e => by rw [tO 0 v e]; exact h.t0 v hv) (by rw [t0]; intro e he; rw [List.mem_singleton.mp he]; exact hw), nv (fun v hv e => by rw [tO 1 v e]; exact h.t1 v hv) (by rw [t1]; intro e he; exact absurd he List.not_mem_nil), nv (fun v hv e => by rw [tO 2 v e]; exact h.t2 v hv) (by rw [t2]; intro e he; exact absurd he List.not_mem_nil), nv (fun v hv e => by rw [tO 1 v e, tO 2 v e]; exact h.tl v hv) (by rw [t1, t2]; exact ⟨Nat.zero_le _, Nat.zero_le _⟩), nv (fun v hv e => by rw [vO v e]; exact h.kd v hv) (by rw [v1]; exact hk), nv (fun v hv e => by rw [vO v e]; exact h.sc v hv) (by rw [v7]; exact Or.inl rfl), nv (fun v hv e => by rw [vO v e]; exact h.ad v hv) (by rw [v6]; exact Or.inl rfl), nv (fun v hv e => by rw [lO v e]; exact h.li v hv) (fun j hj => by rw [l0 j hj]; exact ⟨by decide, zero_le9 t⟩), by rw [t3]; exact h.p3, by rw [t3]; exact fun p hp e he => (h.pv p hp e he).imp_right (fun g => isIx_up g (Nat.le_succ _)), by rw [t3]; exact h.pl, nv (fun v hv e => by rw [tO 1 v e, t3]; exact h.ex v hv) ?_, by rw [t3]; exact h.kq, h.n1, fun n hn => isIx_up (h.n2 n hn) (Nat.le_succ _), h.n3, h.n4, h.n5, by have := h.cu; omega⟩
  · intro r hr
    match r, hr with
    | 0, _ => rw [t0]; exact ⟨fun e he => by rw [List.mem_singleton.mp he]; exact ⟨hD0, by rw [i_le]; exact Int.le_refl _⟩, List.pairwise_singleton _ _⟩
    | 1, _ => rw [t1]; exact ⟨fun e he => absurd he List.not_mem_nil, List.Pairwise.nil⟩
    | 2, _ => rw [t2]; exact ⟨fun e he => absurd he List.not_mem_nil, List.Pairwise.nil⟩
  · intro p hp d
    rw [t1, t3]
    refine ⟨fun q => absurd (show (-1 : Int32) = nI p from q) (m1_nI (by omega)), fun q => ?_⟩
    rcases look_mem (d := d) (sT S 3 p) with q1 | ⟨e, he, q1⟩
    · rw [q1] at q; exact absurd q (m1_nI (by omega))
    · rw [q1] at q
      rcases h.pv p hp e he with q2 | q2
      · rw [q2] at q; exact absurd q (m1_nI (by omega))
      · rw [q] at q2
        have := (isIx_ix q2).2
        rw [ix_nI (by omega)] at this
        omega
theorem NP.same {A B : St} (h : NP B) (hN : sN A 1 = sN B 1) (hV : ∀ v, v < sN B 1 → sV A v 6 = sV B v 6) (hT : ∀ v, v < sN B 1 → sT A 1 v = sT B 1 v) : NP A := fun v hv => by
  rw [hN] at hv
  rw [hV v hv, hT v hv]; exact h v hv
theorem Iv.mono {S : St} {t : Nat} (h : Iv S t) (ht : t < 512) : Iv S (t + 1) := ⟨h.1.mono ht, h.2⟩
theorem settleQ_V : ∀ (n : Nat) (S : St) (v : Nat), sV (settleQ n S v) = sV S ∧ sT (settleQ n S v) 1 = sT S 1
  | 0, S, v => ⟨rfl, rfl⟩
  | n + 1, S, v => by
    cases h : stepQ S v with
    | none => rw [settle_0 h]; exact ⟨rfl, rfl⟩
    | some S1 =>
      rw [settle_s h]
      obtain ⟨h1, h2⟩ := settleQ_V n S1 v
      have h3 : sV S1 = sV S ∧ sT S1 1 = sT S 1 := by
        unfold stepQ at h
        split at h
        · cases h
        · split at h
          · cases h
          · split at h
            · cases h
            · cases h
              exact ⟨by unfold useQ; simp only [sV_uT, sV_uO], useQ_T _ (by decide)⟩
      exact ⟨h1.trans h3.1, h2.trans h3.2⟩
theorem Iv.settle {S : St} {t v : Nat} (h : Iv S t) (hv : v < sN S 1) (k : Nat) : Iv (settleQ k S v) t := by
  obtain ⟨h1, h2⟩ := h.1.settle k hv
  obtain ⟨h3, h4⟩ := settleQ_V k S v
  exact ⟨h1, h.2.same (by rw [h2]) (fun u _ => by rw [h3]) (fun u _ => by rw [h4])⟩
theorem NP.onR {S : St} {v : Nat} (h : NP S) (hV : sV (onRoad S v) = up2 (sV S) v 6 1) (hT : ∀ u, u ≠ v → sT (onRoad S v) 1 u = sT S 1 u) (hN : sN (onRoad S v) 1 = sN S 1) : NP (onRoad S v) := fun u hu => by
  rw [hN] at hu
  by_cases e : u = v
  · refine Or.inl ?_
    rw [hV, e, up2_same]
  · rw [hV, up2_row _ _ _ e, hT u e]; exact h u hu
theorem onRoad_V (S : St) (v : Nat) : sV (onRoad S v) = up2 (sV S) v 6 1 := by rw [onRoad_mq]; simp only [sV_uT, sV_uV, mountQ_V, newP_V]
theorem onRoad_T1 (S : St) (v : Nat) : sT (onRoad S v) 1 = va_up (sT S 1) v (setT (sT S 1 v) (sD S) (nI (sN S 2))) := by rw [onRoad_mq]; simp only [sT_uT, sT_uV]; rw [up2_row _ _ _ (by decide), mountQ_T1, newP_T, up2_row _ _ _ (by decide), newP_D]
theorem Iv.onR {S : St} {t v : Nat} (h : Iv S t) (ht : t < 512) (hv : v < sN S 1) (h6 : ¬ sV S v 6 = 1) (hr : sN S 2 < 40) : Iv (onRoad S v) (t + 1) :=
  ⟨h.1.onR ht hv ((h.2 v hv).resolve_left h6) hr, h.2.onR (onRoad_V S v) (fun u hu => by rw [onRoad_T1, va_up_ne _ _ hu]) (by rw [onRoad_N, va_up_ne _ _ (by decide)])⟩
theorem Iv.adV {S : St} {t : Nat} {w k : Int32} (h : Iv S t) (hn : sN S 1 < 15) (hw : isIx w (sN S 0) = true) (hk : kindOk k = true) : Iv (addV S w k) t := ⟨h.1.adV hn hw hk, fun v hv => by
  rw [addV_N, va_up_self] at hv
  by_cases e : v = sN S 1
  · refine Or.inr ?_
    rw [e, addV_T, up2_row _ _ _ (by decide), up2_same]; rfl
  · rw [addV_V, up2_row _ _ _ e, up2_row _ _ _ e, up2_row _ _ _ e, addV_T, up2_b' _ _ _ _ e, up2_b' _ _ _ _ e, up2_b' _ _ _ _ e]; exact h.2 v (by omega)⟩
theorem addV_6 (S : St) (w k : Int32) : ¬ sV (addV S w k) (sN S 1) 6 = 1 := by
  rw [addV_V, up2_k _ _ _ (by decide), up2_same]; decide
/-! each call -/
theorem iv_addKeeper {S : St} {t : Nat} (h : Iv S t) (ht : t < 512) : Iv (oAddKeeper S).2.2 (t + 1) := by
  unfold oAddKeeper
  split
  · exact h.mono ht
  · rename_i g
    have := h.1.bK
    exact Iv.mono (S := uN S 0 (sN S 0 + 1)) ⟨h.1.aK (by omega), h.2⟩ ht
theorem iv_pass {S : St} {t : Nat} (h : Iv S t) (ht : t < 512) (d : Int32) : Iv (oPass S d).2.2 (t + 1) := by
  unfold oPass
  split
  · exact h.mono ht
  · rename_i g
    have h1 : (1 : Int32).toInt = 1 := by decide
    have h9 : (99 : Int32).toInt = 99 := by decide
    have h3 : (3000 : Int32).toInt = 3000 := by decide
    have hD := h.1.bD
    have g1 : 1 ≤ d.toInt := by
      have := i_nlt (fun q => g (Or.inl q))
      rw [i_le, h1] at this; omega
    have g2 : d.toInt ≤ 99 := by
      have := i_nlt (fun q => g (Or.inr (Or.inl q)))
      rw [i_le, h9] at this; omega
    have g3 := i_nlt (fun q => g (Or.inr (Or.inr q)))
    rw [i_le, h3] at g3
    have e := i_add (a := sD S) (b := d) (by omega) (by omega)
    exact Iv.mono (S := uD S (sD S + d)) ⟨h.1.ps (by rw [i_le, e]; omega) (by omega), h.2⟩ ht
theorem iv_register {S : St} {t : Nat} (h : Iv S t) (ht : t < 512) (w k : Int32) : Iv (oRegister S w k).2.2 (t + 1) := by
  unfold oRegister
  split
  · exact h.mono ht
  · split
    · exact h.mono ht
    · split
      · exact h.mono ht
      · rename_i g1 g2 g3
        have bV := h.1.bV
        have bP := h.1.bP
        have g4 := fun q => g3 (Or.inl q)
        have g5 := fun q => g3 (Or.inr q)
        exact (h.adV (by omega) (by simpa using g1) (by simpa using g2)).onR ht (addV_lt _ _ _) (addV_6 _ _ _) (by rw [addV_N, va_up_ne _ _ (by decide)]; omega)
theorem iv_bringIn {S : St} {t : Nat} (h : Iv S t) (ht : t < 512) (w k : Int32) : Iv (oBringIn S w k).2.2 (t + 1) := by
  unfold oBringIn
  split
  · exact h.mono ht
  · split
    · exact h.mono ht
    · split
      · exact h.mono ht
      · rename_i g1 g2 g3
        have bV := h.1.bV
        exact (h.adV (by omega) (by simpa using g1) (by simpa using g2)).mono ht
theorem iv_admit {S : St} {t : Nat} (h : Iv S t) (ht : t < 512) (v : Int32) : Iv (oAdmit S v).2.2 (t + 1) := by
  unfold oAdmit
  split
  · exact h.mono ht
  · split
    · exact h.mono ht
    · split
      · exact h.mono ht
      · rename_i g1 g2 g3
        have bP := h.1.bP
        have g4 := fun q => g3 (Or.inr q)
        exact h.onR ht (isIx_ix (by simpa using g1)).2 g2 (by omega)
theorem iv_setOnRoad {S : St} {t : Nat} (h : Iv S t) (ht : t < 512) (v b : Int32) (hb : b = 0 ∨ b = 1) : Iv (oSetOnRoad S v b).2.2 (t + 1) := by
  unfold oSetOnRoad
  split
  · exact h.mono ht
  · split
    · exact h.mono ht
    · exact ⟨h.1.setRoad ht hb, h.2.same rfl (fun _ _ => rfl) (fun u _ => by rw [sT_uT, up2_row _ _ _ (by decide)])⟩
theorem iv_scrap {S : St} {t : Nat} (h : Iv S t) (ht : t < 512) (v : Int32) : Iv (oScrap S v).2.2 (t + 1) := by
  unfold oScrap
  split
  · exact h.mono ht
  · split
    · exact h.mono ht
    · rename_i g1 g2
      have hv := (isIx_ix (n := sN S 1) (x := v) (by simpa using g1)).2
      obtain ⟨k1, k2, k3, k4⟩ := h.1.scr ht hv
      refine ⟨k1, fun u hu => ?_⟩
      rw [show sN (scrapV S (ix v)) 1 = sN S 1 by rw [k4]] at hu
      show sV (scrapV S (ix v)) u 6 = 1 ∨ lastV (sT (scrapV S (ix v)) 1 u) = -1
      rw [k2, k3, lv_if]
      by_cases e : u = ix v
      · rw [if_pos e]; exact Or.inr rfl
      · rw [if_neg e, up2_row _ _ _ e]; exact h.2 u hu
theorem iv_sell {S : St} {t : Nat} (h : Iv S t) (ht : t < 512) (a v b d : Int32) : Iv (oSell S a v b d).2.2 (t + 1) := by
  unfold oSell
  split
  · exact h.mono ht
  · split
    · exact h.mono ht
    · split
      · exact h.mono ht
      · split
        · exact h.mono ht
        · rename_i g1 g2 g3 g4
          have bN := h.1.bN
          have q1 : isIx a (sN S 0) = true := by simpa using fun q => g1 (Or.inl q)
          have q2 : isIx b (sN S 0) = true := by simpa using fun q => g1 (Or.inr (Or.inl q))
          have q3 : isIx v (sN S 1) = true := by simpa using fun q => g1 (Or.inr (Or.inr q))
          have hv := (isIx_ix q3).2
          have hI : Iv (noteQ S a (ix v) b d) t := ⟨h.1.note (by omega) (Or.inr q1) hv q2 (by simpa using g2), h.2⟩
          exact (hI.settle (v := ix v) hv 120).mono ht
theorem iv_buy {S : St} {t : Nat} (h : Iv S t) (ht : t < 512) (b v d : Int32) : Iv (oBuy S b v d).2.2 (t + 1) := by
  unfold oBuy
  split
  · exact h.mono ht
  · split
    · exact h.mono ht
    · split
      · exact h.mono ht
      · rename_i g1 g2 g4
        have bN := h.1.bN
        have q2 : isIx b (sN S 0) = true := by simpa using fun q => g1 (Or.inl q)
        have q3 : isIx v (sN S 1) = true := by simpa using fun q => g1 (Or.inr q)
        have hv := (isIx_ix q3).2
        have hI : Iv (noteQ S (-1) (ix v) b d) t := ⟨h.1.note (by omega) (Or.inl rfl) hv q2 (by simpa using g2), h.2⟩
        exact (hI.settle (v := ix v) hv 120).mono ht
theorem iv_withdraw {S : St} {t : Nat} (h : Iv S t) (ht : t < 512) (n : Int32) : Iv (oWithdraw S n).2.2 (t + 1) := by
  unfold oWithdraw
  split
  · exact h.mono ht
  · split
    · exact h.mono ht
    · rename_i g1 g2
      exact Iv.mono (S := uO S (ix n) 5 119) ⟨h.1.wd (by simpa using g2), h.2⟩ ht
theorem iv_addLien {S : St} {t : Nat} (h : Iv S t) (ht : t < 512) (v c a : Int32) : Iv (oAddLien S v c a).2.2 (t + 1) := by
  unfold oAddLien
  split
  · exact h.mono ht
  · split
    · exact h.mono ht
    · split
      · exact h.mono ht
      · rename_i g1 g2 g3
        have hv := (isIx_ix (n := sN S 1) (x := v) (by simpa using g1)).2
        have hc : lendOk c = true := by simpa using fun q => g2 (Or.inl q)
        have h1 : (1 : Int32).toInt = 1 := by decide
        have h9 : (9999 : Int32).toInt = 9999 := by decide
        have q1 := i_nlt (fun q => g2 (Or.inr (Or.inl q)))
        have q2 := i_nlt (fun q => g2 (Or.inr (Or.inr q)))
        rw [i_le, h1] at q1
        rw [i_le, h9] at q2
        have hk : ix (c - 97) < 6 := by
          have g := of_decide_eq_true hc
          rw [i_le, i_le] at g
          have e97 : (97 : Int32).toInt = 97 := by decide
          have e102 : (102 : Int32).toInt = 102 := by decide
          have e := i_sub (a := c) (b := 97) (by omega) (by omega)
          have : ix (c - 97) = (c - 97).toInt.toNat := Int32.toNat_toInt (c - 97) |>.symm
          omega
        have hl := h.1.li _ hv _ hk
        have hb := h.1.bt
        have e := i_add (a := sL S (ix v) (ix (c - 97))) (b := a) (by omega) (by omega)
        exact ⟨(h.1.mono ht).ln (by omega), h.2⟩
theorem iv_payLien {S : St} {t : Nat} (h : Iv S t) (ht : t < 512) (v c a : Int32) : Iv (oPayLien S v c a).2.2 (t + 1) := by
  unfold oPayLien
  split
  · exact h.mono ht
  · split
    · exact h.mono ht
    · split
      · exact h.mono ht
      · rename_i g1 g2 g3
        have hv := (isIx_ix (n := sN S 1) (x := v) (by simpa using g1)).2
        have hc : lendOk c = true := by simpa using fun q => g2 (Or.inl q)
        have q1 := fun q => g3 (Or.inl q)
        have q2 := fun q => g3 (Or.inr q)
        have hk : ix (c - 97) < 6 := by
          have g := of_decide_eq_true hc
          rw [i_le, i_le] at g
          have e97 : (97 : Int32).toInt = 97 := by decide
          have e102 : (102 : Int32).toInt = 102 := by decide
          have e := i_sub (a := c) (b := 97) (by omega) (by omega)
          have : ix (c - 97) = (c - 97).toInt.toNat := Int32.toNat_toInt (c - 97) |>.symm
          omega
        have hI : Iv (uL S (ix v) (ix (c - 97)) (sL S (ix v) (ix (c - 97)) - a)) t := ⟨h.1.ln (lien_sub h.1 hv hk q1 (i_nlt q2)), h.2⟩
        dsimp only
        split
        · exact (hI.settle (v := ix v) hv 120).mono ht
        · exact hI.mono ht
theorem iv_keepPlate {S : St} {t : Nat} (h : Iv S t) (ht : t < 512) (v : Int32) : Iv (oKeepPlate S v).2.2 (t + 1) := by
  unfold oKeepPlate
  split
  · exact h.mono ht
  · split
    · exact h.mono ht
    · split
      · exact h.mono ht
      · rename_i g1 g2 g3
        have hv := (isIx_ix (n := sN S 1) (x := v) (by simpa using g1)).2
        have bP := h.1.bP
        have g4 := fun q => g3 (Or.inr q)
        obtain ⟨k1, k2, k3, k4⟩ := h.1.kpt ht hv g2 (by omega)
        refine ⟨k1, fun u hu => ?_⟩
        rw [show sN (keepQ S (ix v)) 1 = sN S 1 by rw [k4, va_up_ne _ _ (by decide)]] at hu
        show sV (keepQ S (ix v)) u 6 = 1 ∨ lastV (sT (keepQ S (ix v)) 1 u) = -1
        rw [k2, k3, lv_if]
        by_cases e : u = ix v
        · rw [if_pos e, e]; exact Or.inl ((h.2 _ hv).resolve_right g2)
        · rw [if_neg e]; exact h.2 u hu
theorem iv_putOn {S : St} {t : Nat} (h : Iv S t) (ht : t < 512) (p v : Int32) : Iv (oPutOn S p v).2.2 (t + 1) := by
  unfold oPutOn
  split
  · exact h.mono ht
  · split
    · exact h.mono ht
    · split
      · exact h.mono ht
      · split
        · exact h.mono ht
        · rename_i g1 g2 g3 g4
          have hp := (isIx_ix (n := sN S 2) (x := p) (by simpa using g1)).2
          have hv := (isIx_ix (n := sN S 1) (x := v) (by simpa using g2)).2
          have q1 : keptQ S (ix p) = true := by simpa using fun q => g3 (Or.inl q)
          have q2 : ¬ lastV (sT S 1 (ix v)) = -1 := fun q => g4 (Or.inr q)
          have q3 : sQ S (ix p) 2 ≠ -1 := by
            unfold keptQ at q1
            rw [Bool.and_eq_true] at q1
            exact of_decide_eq_true q1.1
          obtain ⟨k1, k2, k3, k4⟩ := h.1.put ht hv q2 hp q3
          refine ⟨k1, fun u hu => ?_⟩
          dsimp only at hu ⊢
          rw [k4] at hu
          rw [k2, k3, lv_if]
          by_cases e : u = ix v
          · rw [if_pos e, e]; exact Or.inl ((h.2 _ hv).resolve_right q2)
          · rw [if_neg e]; exact h.2 u hu
theorem iv_swap {S : St} {t : Nat} (h : Iv S t) (ht : t < 512) (v w : Int32) : Iv (oSwap S v w).2.2 (t + 1) := by
  unfold oSwap
  split
  · exact h.mono ht
  · split
    · exact h.mono ht
    · split
      · exact h.mono ht
      · rename_i g1 g2 g3
        have gv : isIx v (sN S 1) = true := by simpa using fun q => g1 (Or.inl q)
        have gw : isIx w (sN S 1) = true := by simpa using fun q => g1 (Or.inr q)
        have hv := (isIx_ix gv).2
        have hw := (isIx_ix gw).2
        have hvw : ix v ≠ ix w := fun e => g2 (Or.inl (by rw [isIx_nI gv, isIx_nI gw, e]))
        have q1 : ¬ lastV (sT S 1 (ix v)) = -1 := fun q => g3 (Or.inr (Or.inr (Or.inl q)))
        have q2 : ¬ lastV (sT S 1 (ix w)) = -1 := fun q => g3 (Or.inr (Or.inr (Or.inr q)))
        obtain ⟨k1, k2, k3, k4⟩ := h.1.swp ht hv hw hvw q1 q2
        refine ⟨k1, fun u hu => ?_⟩
        dsimp only at hu ⊢
        rw [k4] at hu
        rw [k2]
        by_cases e : u = ix v
        · rw [e]; exact Or.inl ((h.2 _ hv).resolve_right q1)
        · by_cases e2 : u = ix w
          · rw [e2]; exact Or.inl ((h.2 _ hw).resolve_right q2)
          · rw [k3 u e e2]; exact h.2 u hu
theorem iv_pay {S : St} {t : Nat} (h : Iv S t) (ht : t < 512) (k a : Int32) : Iv (oPay S k a).2.2 (t + 1) := by
  unfold oPay
  split
  · exact h.mono ht
  · split
    · exact h.mono ht
    · exact Iv.mono (S := uC (uP S (ix k) (sP S (ix k) + a)) (sC S + a.toInt64)) ⟨h.1.same rfl rfl rfl rfl rfl rfl rfl, h.2⟩ ht
theorem Inv.S0 : Inv S0 0 := ⟨by decide, by decide, by decide, by decide, by decide, by decide, fun v hv => absurd hv (Nat.not_lt_zero _), fun v hv => absurd hv (Nat.not_lt_zero _), fun v hv => absurd hv (Nat.not_lt_zero _), fun v hv => absurd hv (Nat.not_lt_zero _), fun v hv => absurd hv (Nat.not_lt_zero _), fun v hv => absurd hv (Nat.not_lt_zero _), fun v hv => absurd hv (Nat.not_lt_zero _), fun v hv => absurd hv (Nat.not_lt_zero _), fun v hv => absurd hv (Nat.not_lt_zero _), fun v hv => absurd hv (Nat.not_lt_zero _), fun v hv => absurd hv (Nat.not_lt_zero _), fun v hv => absurd hv (Nat.not_lt_zero _), fun v hv => absurd hv (Nat.not_lt_zero _), fun v hv => absurd hv (Nat.not_lt_zero _), fun v hv => absurd hv (Nat.not_lt_zero _), fun v hv => absurd hv (Nat.not_lt_zero _), fun v hv => absurd hv (Nat.not_lt_zero _), fun v hv => absurd hv (Nat.not_lt_zero _), fun v hv => absurd hv (Nat.not_lt_zero _), fun v hv => absurd hv (Nat.not_lt_zero _), fun v hv => absurd hv (Nat.not_lt_zero _), rfl⟩
