/-! taxes of the class, by quarters -/
/-- a row of what is owed: 4 by quarters, 5 by days -/
def rwT (k : Nat) : Nat × Nat := (7, k - 2)
theorem CAt.rt {M : Mm} {x : Nat} {S : St} (h : CAt M x S) {k : Nat} (hk : k = 4 ∨ k = 5) : mT M (mR M x k) = rwT k ∧ mL M (mR M x k) = 12 := by
  rcases hk with e | e <;> subst e
  · exact h.a0.2.2.2.2.2.1
  · exact h.a0.2.2.2.2.2.2
theorem CAt.rt7 {M : Mm} {x : Nat} {S : St} (h : CAt M x S) {k : Nat} (hk : k = 4 ∨ k = 5) : (mT M (mR M x k)).1 = 7 := by rw [(h.rt hk).1]; rfl
theorem rwT_c {k : Nat} (hk : k = 4 ∨ k = 5) (t : Nat × Nat) (h : cT t) : ¬ t = rwT k := fun e => by
  rcases hk with e2 | e2 <;> subst e2
  · exact h.2.2.1 e
  · exact h.2.2.2 e
theorem CAt.rw {M : Mm} {x : Nat} {S : St} (h : CAt M x S) {k : Nat} (hk : k = 4 ∨ k = 5) (j : Nat) (v : Int32) : CAt (pI M (mR M x k) j v) x S ∧ Sm M (pI M (mR M x k) j v) x ∧ Fr (fun t => t = rwT k) M (pI M (mR M x k) j v) := by
  have hF : Fr (fun t => t = rwT k) M (pI M (mR M x k) j v) := Fr.pI (h.rt hk).1
  have h2 := h.fr hF (rwT_c hk) (fun a _ => rfl)
  exact ⟨h2.1, h2.2, hF⟩
theorem rwT_pC {k : Nat} (hk : k = 4 ∨ k = 5) {M M1 : Mm} (h : Fr (fun t => t = rwT k) M M1) : Fr pC M M1 := h.mono (fun t ht => by
  rw [ht]
  rcases hk with e | e <;> subst e <;> exact Or.inr (by decide))
/-- the row of what is owed, filled -/
def SuC (M : Mm) (x : Nat) (S : St) (k : Nat) (r9 : Option Value) (M9 : Mm) : Prop := r9 = none ∧ CAt M9 x S ∧ Sm M M9 x ∧ Fr (fun t => t = rwT k) M M9 ∧ ∀ i, i < 12 → mI M9 (mR M x k) i = owe S i
theorem ent_in {M : Mm} {a i : Nat} (h : i < 12) : (if isIx (nI i) 12 = true then mI M a (ix (nI i)) else 0) = mI M a i := by
  rw [if_pos (isIx_of h (by omega)), ix_nI (by omega)]
theorem ent_ix {M : Mm} {a : Nat} {i : Int32} (h : isIx i 12 = true) : (if isIx i 12 = true then mI M a (ix i) else 0) = mI M a (ix i) := if_pos h
theorem ct_X4_beginWithPaid {G : Gt} {l : Launch} (hst : l.stackTraces = false) {M : Mm} {x : Nat} {S : St} (hM : CAt M x S) {kr : Nat} (hk : kr = 4 ∨ kr = 5) : Ct G l yX4_beginWithPaid cX4_beginWithPaid 3 none 2 M [rv x, rv (mR M x kr)] 0 0 (fun r9 M9 => r9 = none ∧ CAt M9 x S ∧ Sm M M9 x ∧ Fr (fun t => t = rwT kr) M M9 ∧ ∀ i, i < 12 → mI M9 (mR M x kr) i = -sP S i) (noX) := by
  obtain ⟨bK, bV, bP, bN⟩ := hM.b
  refine Ct_intro (own := RX4) (nm := "beginWithPaid") (by decide +kernel) rfl rfl hst (fun w hw => by simp only [List.mem_cons, List.not_mem_nil, or_false] at hw; rcases hw with rfl | rfl <;> first | rfl | exact rv_cat _) (Nat.le_of_ble_eq_true rfl) (fun γ hC => ?_)
  show J G γ M 0 [some (rv x), some (rv (mR M x kr))] [] 0 0
  refine J_iconst hC dX4_beginWithPaid_0 (v := 0) (by decide) ?_
  refine J_istore_n hC dX4_beginWithPaid_1 rfl (by decide) (ls1 := [some (rv x), some (rv (mR M x kr)), some (.int 0)]) rfl ?_
  have L2 : ∀ (n9 : Nat) (j : Nat) (Mj : Mm), 12 - j < n9 → (CAt Mj x S) → (Sm M Mj x) → (Fr (fun t => t = rwT kr) M Mj) → (j ≤ 12) → (∀ i, i < j → mI Mj (mR M x kr) i = -sP S i) → J G γ Mj 2 [some (rv x), some (rv (mR M x kr)), some (.int (nI j))] [] 0 0 := by
    intro n9
    induction n9 with
    | zero => intro j Mj h9; exact absurd h9 (Nat.not_lt_zero _)
    | succ n9 ih =>
      intro j Mj h9 hMj hsj hFj hjN hrj
      refine J_iload_n hC dX4_beginWithPaid_2 rfl rfl ?_
      refine J_aload_n hC dX4_beginWithPaid_3 rfl rfl ?_
      refine J_alen7 hC (show (mT Mj (mR M x kr)).1 = 7 by rw [← hsj.1]; exact hMj.rt7 hk) dX4_beginWithPaid_4 ?_
      rw [(show mL Mj (mR M x kr) = 12 by rw [← hsj.1]; exact (hMj.rt hk).2)]
      refine J_icmp_ge hC dX4_beginWithPaid_5 (tgt := 26) (by decide) (fun c5 => ?_) (fun c5 => ?_)
      · have hj9 : j = 12 := by have := le_nI (n := 12) (by omega) (by omega) c5; omega
        subst hj9
        refine J_vret hC (by decide) (by decide) dX4_beginWithPaid_26 ?_
        exact ⟨rfl, hMj, hsj, hFj, hrj⟩
      · have hlt := ge_nI (n := 12) (by omega) (by omega) c5
        refine J_aload_n hC dX4_beginWithPaid_8 rfl rfl ?_
        refine J_iload_n hC dX4_beginWithPaid_9 rfl rfl ?_
        refine J_aload_n hC dX4_beginWithPaid_10 rfl rfl ?_
        refine J_get5 hC lf_X4_27 (j := 3) hMj.tx (v := rv (mR Mj x 3)) rfl dX4_beginWithPaid_11 ?_
        refine J_iload_n hC dX4_beginWithPaid_14 rfl rfl ?_
        have e3 : mR Mj x 3 = mR M x 3 := by rw [hsj.1]
        refine J_callS (k1 := 0) (n1 := 0) [rv (mR Mj x 3), .int (nI j)] [.int (nI j), rv (mR Mj x 3), .int (nI j), rv (mR M x kr)] hC ls_X4_295 (ct_X4_entry hst hMj.tk3 hMj.lk3 (by decide) (nI j)) rfl rfl (by simp only [List.map_cons, List.map_nil, rv_cat, List.sum_cons, List.sum_nil]; (try simp only [Value.category]); (try omega)) (by decide) rfl rfl (by decide) (by decide) dX4_beginWithPaid_15 (fun E M9 h => h.elim) (fun v9 M9 hq9 => ?_)
        obtain ⟨rfl, e9⟩ := hq9
        rw [e9]; clear e9
        rw [ent_in hlt, hMj.pd j hlt]
        refine J_ineg hC dX4_beginWithPaid_18 ?_
        have er : mR Mj x kr = mR M x kr := by rw [hsj.1]
        refine J_iast hC (by rw [← er]; exact hMj.rt7 hk) (j := j) (nI_toInt (by omega)) (by rw [← er, (hMj.rt hk).2]; exact hlt) dX4_beginWithPaid_19 ?_
        obtain ⟨g1, g2, g3⟩ := hMj.rw hk j (-sP S j)
        rw [er] at g1 g2 g3
        refine J_iinc hC dX4_beginWithPaid_20 (by decide) rfl (v := nI (j + 1)) (nI_1 _) (ls1 := [some (rv x), some (rv (mR M x kr)), some (.int (nI (j + 1)))]) rfl ?_
        refine J_goto hC dX4_beginWithPaid_23 (tgt := 2) (by decide) ?_
        exact ih (j + 1) _ (by omega) g1 (hsj.trans g2) (hFj.trans g3) (by omega) (fun i hi => by
          by_cases e9 : i = j
          · subst e9; exact up2_same _ _ _ _
          · exact (up2_k _ _ _ e9).trans (hrj i (by omega)))
  exact L2 13 0 M (by omega) hM (Sm.rf _ _) (Fr.rf _ _) (by decide) (fun i hi => absurd hi (Nat.not_lt_zero _))
theorem quarters {D : Int32} (h : 0 ≤ D.toInt ∧ D.toInt ≤ 3000) : D / 90 + 1 = nI (ix D / 90 + 1) := by rw [div90 h]; exact nI_1 _
def vsum (S : St) (k v : Nat) : Int32 := sum32 (fun q => taxQ S (nI k) v q) (ix (sD S) / 90 + 1)
theorem owe_eq (S : St) (k : Nat) : owe S k = -sP S k + sum32 (fun v => vsum S k v) (sN S 1) := rfl
theorem vs_ge {S : St} {k j : Nat} {a b : Int32} (h : ¬ j < sN S 1) (ha : a = b + sum32 (fun v => vsum S k v) (min j (sN S 1))) : a = b + sum32 (fun v => vsum S k v) (min (j + 1) (sN S 1)) := by rw [min_ge h]; exact ha
theorem vs_yes {S : St} {k j : Nat} {a b : Int32} (h : j < sN S 1) (ha : a = b + sum32 (fun v => vsum S k v) (min j (sN S 1)) + vsum S k j) : a = b + sum32 (fun v => vsum S k v) (min (j + 1) (sN S 1)) := by
  rw [Nat.min_eq_left (by omega : j + 1 ≤ sN S 1), sum32_s, ← i_add_assoc, ha, Nat.min_eq_left (by omega : j ≤ sN S 1)]
theorem add_at {M M9 : Mm} {a : Nat} {i v : Int32} (h : M9 = if isIx i 12 = true then pI M a (ix i) (mI M a (ix i) + v) else M) {k : Nat} (hk : k < 12) : mI M9 a k = mI M a k + (if i = nI k then v else 0) := by
  by_cases g : isIx i 12 = true
  · rw [if_pos g] at h
    rw [h]
    by_cases e : k = ix i
    · subst e
      rw [if_pos (isIx_nI g)]; exact up2_same _ _ _ _
    · rw [if_neg (fun q => e (by rw [q, ix_nI (by omega)])), i32_a0]; exact up2_k _ _ _ e
  · rw [if_neg g] at h
    rw [h, if_neg (fun q => g (by rw [q]; exact isIx_of hk (by omega))), i32_a0]
theorem CAt.rwadd {M M9 : Mm} {x : Nat} {S : St} (h : CAt M x S) {k : Nat} (hk : k = 4 ∨ k = 5) {i v : Int32} (e : M9 = if isIx i 12 = true then pI M (mR M x k) (ix i) (mI M (mR M x k) (ix i) + v) else M) : CAt M9 x S ∧ Sm M M9 x ∧ Fr (fun t => t = rwT k) M M9 := by
  by_cases g : isIx i 12 = true
  · rw [if_pos g] at e; rw [e]; exact h.rw hk _ _
  · rw [if_neg g] at e; rw [e]; exact ⟨h, Sm.rf _ _, Fr.rf _ _⟩
theorem tax_d {S : St} {v q k : Nat} (hr : ¬ rdI (rday S v q) = -1) : taxQ S (nI k) v q = if look (sT S 0 v) (rdI (rday S v q)) = nI k then taxOf (sV S v 1) else 0 := by
  by_cases g : look (sT S 0 v) (rdI (rday S v q)) = nI k
  · rw [if_pos g, tax_1 hr g]
  · rw [if_neg g, tax_0b hr g]
theorem ct_X4_sumByQuarters {G : Gt} {l : Launch} (hst : l.stackTraces = false) {M : Mm} {x : Nat} {S : St} {t : Nat} (hM : CAt M x S) (hI : Inv S t) : Ct G l yX4_sumByQuarters cX4_sumByQuarters 8 none 5 M [rv x] 0 0 (SuC M x S 4) (noX) := by
  obtain ⟨bK, bV, bP, bN⟩ := hM.b
  have hDx := ixD hI.bD
  refine Ct_intro (own := RX4) (nm := "sumByQuarters") (by decide +kernel) rfl rfl hst (fun w hw => by simp only [List.mem_cons, List.not_mem_nil, or_false] at hw; rcases hw with rfl <;> first | rfl | exact rv_cat _) (Nat.le_of_ble_eq_true rfl) (fun γ hC => ?_)
  show J G γ M 0 [some (rv x)] [] 0 0
  refine J_aload_n hC dX4_sumByQuarters_0 rfl rfl ?_
  refine J_aload_n hC dX4_sumByQuarters_1 rfl rfl ?_
  refine J_get5 hC lf_X4_31 (j := 4) hM.tx (v := rv (mR M x 4)) rfl dX4_sumByQuarters_2 ?_
  refine J_callV (k1 := 0) (n1 := 0) (kd := 5) [rv (mR M x 4)] [rv (mR M x 4), rv x] hC lv_X4_412 (ct_X4_beginWithPaid hst hM (kr := 4) (Or.inl rfl)) hM.tx (by decide) ⟨_, mE_5 hM.tx⟩ rfl rfl rfl (by simp only [List.map_cons, List.map_nil, rv_cat, Value.category, List.sum_cons, List.sum_nil]; decide) (by decide) rfl rfl (by decide) (by decide) dX4_sumByQuarters_5 (fun E M9 h => h.elim) (fun v9 Mb hq9 => ?_)
  obtain ⟨rfl, hMb, hsb, hFb, hrb⟩ := hq9
  obtain ⟨r, er0⟩ : ∃ z, z = mR M x 4 := ⟨_, rfl⟩
  rw [← er0] at hrb
  refine J_aload_n hC dX4_sumByQuarters_8 rfl rfl ?_
  refine J_get5 hC lf_X4_48 (j := 10) hMb.tx (v := .int (sD S)) (congrArg (fun z => some (Value.int z)) hMb.c10) dX4_sumByQuarters_9 ?_
  refine J_bipush hC dX4_sumByQuarters_12 (v := 90) (by decide) ?_
  refine J_idiv hC dX4_sumByQuarters_14 (by decide) ?_
  refine J_iconst hC dX4_sumByQuarters_15 (v := 1) (by decide) ?_
  refine J_iadd hC dX4_sumByQuarters_16 ?_
  rw [quarters hI.bD]
  refine J_istore_n hC dX4_sumByQuarters_17 rfl (by decide) (ls1 := [some (rv x), some (.int (nI (ix (sD S) / 90 + 1)))]) rfl ?_
  refine J_aload_n hC dX4_sumByQuarters_18 rfl rfl ?_
  refine J_get5 hC lf_X4_11 (j := 0) hMb.tx (v := rv (mR Mb x 0)) rfl dX4_sumByQuarters_19 ?_
  refine J_astore_n hC dX4_sumByQuarters_22 rfl (by decide) (ls1 := [some (rv x), some (.int (nI (ix (sD S) / 90 + 1))), some (rv (mR Mb x 0))]) rfl ?_
  refine J_aload_n hC dX4_sumByQuarters_23 rfl rfl ?_
  refine J_alen9 hC hMb.tk0 dX4_sumByQuarters_24 ?_
  rw [hMb.lk0]
  refine J_istore_n hC dX4_sumByQuarters_25 rfl (by decide) (ls1 := [some (rv x), some (.int (nI (ix (sD S) / 90 + 1))), some (rv (mR Mb x 0)), some (.int (nI 15))]) rfl ?_
  refine J_iconst hC dX4_sumByQuarters_26 (v := 0) (by decide) ?_
  refine J_istore hC dX4_sumByQuarters_27 (by decide) (ls1 := [some (rv x), some (.int (nI (ix (sD S) / 90 + 1))), some (rv (mR Mb x 0)), some (.int (nI 15)), some (.int 0)]) rfl ?_
  have L29 : ∀ (n9 : Nat) (j : Nat) (Mj : Mm), 15 - j < n9 → (CAt Mj x S) → (Sm M Mj x) → (Fr (fun t => t = rwT 4) M Mj) → (j ≤ 15) → (∀ i, i < 12 → mI Mj r i = -sP S i + sum32 (fun v => vsum S i v) (min j (sN S 1))) → J G γ Mj 29 [some (rv x), some (.int (nI (ix (sD S) / 90 + 1))), some (rv (mR Mb x 0)), some (.int (nI 15)), some (.int (nI j))] [] 0 0 := by
    intro n9
    induction n9 with
    | zero => intro j Mj h9; exact absurd h9 (Nat.not_lt_zero _)
    | succ n9 ih =>
      intro j Mj h9 hMj hsj hFj hjN hrj
      refine J_iload hC dX4_sumByQuarters_29 rfl ?_
      refine J_iload_n hC dX4_sumByQuarters_31 rfl rfl ?_
      refine J_icmp_ge hC dX4_sumByQuarters_32 (tgt := 108) (by decide) (fun c32 => ?_) (fun c32 => ?_)
      · have hj9 : j = 15 := by have := le_nI (n := 15) (by omega) (by omega) c32; omega
        subst hj9
        refine J_vret hC (by decide) (by decide) dX4_sumByQuarters_108 ?_
        exact ⟨rfl, hMj, hsj, hFj, fun i hi => by rw [← er0, hrj i hi, Nat.min_eq_right (by omega), owe_eq]⟩
      · have hlt := ge_nI (n := 15) (by omega) (by omega) c32
        have e0j : mR Mj (mR Mj x 0) j = mR Mj (mR Mb x 0) j := by rw [hsj.1, ← hsb.1]
        refine J_aload_n hC dX4_sumByQuarters_35 rfl rfl ?_
        refine J_iload hC dX4_sumByQuarters_36 rfl ?_
        refine J_aald9 hC (show (mT Mj (mR Mb x 0)).1 = 9 by rw [hsb.1, ← hsj.1]; exact hMj.tk0) (j := j) (nI_toInt (by omega)) (by rw [hsb.1, ← hsj.1, hMj.lk0]; omega) dX4_sumByQuarters_38 ?_
        obtain ⟨e, ee⟩ : ∃ z, z = mR Mj (mR Mb x 0) j := ⟨_, rfl⟩
        rw [← ee]
        refine J_astore hC dX4_sumByQuarters_39 (by decide) (ls1 := [some (rv x), some (.int (nI (ix (sD S) / 90 + 1))), some (rv (mR Mb x 0)), some (.int (nI 15)), some (.int (nI j)), some (rv e)]) rfl ?_
        refine J_iconst hC dX4_sumByQuarters_41 (v := 0) (by decide) ?_
        refine J_istore hC dX4_sumByQuarters_42 (by decide) (ls1 := [some (rv x), some (.int (nI (ix (sD S) / 90 + 1))), some (rv (mR Mb x 0)), some (.int (nI 15)), some (.int (nI j)), some (rv e), some (.int 0)]) rfl ?_
        by_cases hge : j < sN S 1
        · have hlt2 : j < sN S 1 := hge
          have we0 : VeA Mj e j S := by rw [ee, ← e0j, show mR Mj (mR Mj x 0) j = vA Mj x j from rfl]; exact hMj.v.1 j hlt2
          have L44 : ∀ (n8 q : Nat) (Mq : Mm), (ix (sD S) / 90 + 1) - q < n8 → (CAt Mq x S) → (Sm M Mq x) → (Fr (fun t => t = rwT 4) M Mq) → (q ≤ ix (sD S) / 90 + 1) → (∀ i, i < 12 → mI Mq r i = -sP S i + sum32 (fun v => vsum S i v) (min j (sN S 1)) + sum32 (fun q => taxQ S (nI i) j q) q) → J G γ Mq 44 [some (rv x), some (.int (nI (ix (sD S) / 90 + 1))), some (rv (mR Mb x 0)), some (.int (nI 15)), some (.int (nI j)), some (rv e), some (.int (nI q))] [] 0 0 := by
            intro n8
            induction n8 with
            | zero => intro q Mq h8; exact absurd h8 (Nat.not_lt_zero _)
            | succ n8 ih8 =>
              intro q Mq h8 hMq hsq hFq hqN hrq
              have we : VeA Mq e j S := by
                have e9 : e = vA Mq x j := by rw [hsq.v j, ← hsj.v j, ee, ← e0j]
                rw [e9]; exact hMq.v.1 j hlt2
              refine J_t0 (fun htq => ?_)
              have hen : ¬ e = 0 := nz htq we.tg
              refine J_aload hC dX4_sumByQuarters_44 rfl ?_
              refine J_ifnull hC dX4_sumByQuarters_46 (tgt := 102) (by decide) (fun c46 => ?_) (fun c46 => ?_)
              · exact absurd c46 hen
              · refine J_iload hC dX4_sumByQuarters_49 rfl ?_
                refine J_iload_n hC dX4_sumByQuarters_51 rfl rfl ?_
                refine J_icmp_ge hC dX4_sumByQuarters_52 (tgt := 102) (by decide) (fun c52 => ?_) (fun c52 => ?_)
                · have hq9 : q = ix (sD S) / 90 + 1 := by have := le_nI (by omega) (by omega) c52; omega
                  refine J_sub hC (ls1 := [some (rv x), some (.int (nI (ix (sD S) / 90 + 1))), some (rv (mR Mb x 0)), some (.int (nI 15)), some (.int (nI j))]) ⟨rfl, rfl, rfl, rfl, rfl, trivial⟩ ?_
                  refine J_iinc hC dX4_sumByQuarters_102 (by decide) rfl (v := nI (j + 1)) (nI_1 _) (ls1 := [some (rv x), some (.int (nI (ix (sD S) / 90 + 1))), some (rv (mR Mb x 0)), some (.int (nI 15)), some (.int (nI (j + 1)))]) rfl ?_
                  refine J_goto hC dX4_sumByQuarters_105 (tgt := 29) (by decide) ?_
                  exact ih (j + 1) Mq (by omega) hMq hsq hFq (by omega) (fun i hi => vs_yes hlt2 (by rw [hrq i hi, hq9]; rfl))
                · have hql := ge_nI (by omega) (by omega) c52
                  have hqi : isIx (nI q) (ix (sD S) / 90 + 1) = true := isIx_of hql (by omega)
                  refine J_aload_n hC dX4_sumByQuarters_55 rfl rfl ?_
                  refine J_aload hC dX4_sumByQuarters_56 rfl ?_
                  refine J_iload hC dX4_sumByQuarters_58 rfl ?_
                  refine J_callV (k1 := 0) (n1 := 0) (kd := 5) [rv e, .int (nI q)] [.int (nI q), rv e, rv x] hC lv_X4_285 (ct_X4_firstRoadDay hst hMq hI hlt2 we (nI q) hqi) hMq.tx (by decide) ⟨_, mE_5 hMq.tx⟩ rfl rfl rfl (by simp only [List.map_cons, List.map_nil, rv_cat, Value.category, List.sum_cons, List.sum_nil]; decide) (by decide) rfl rfl (by decide) (by decide) dX4_sumByQuarters_60 (fun E M9 h => h.elim) (fun v9 M9 hq9 => ?_)
                  obtain ⟨rfl, e9⟩ := hq9
                  rw [e9]; clear e9
                  rw [ix_nI (by omega)]
                  refine J_istore hC dX4_sumByQuarters_63 (by decide) (ls1 := [some (rv x), some (.int (nI (ix (sD S) / 90 + 1))), some (rv (mR Mb x 0)), some (.int (nI 15)), some (.int (nI j)), some (rv e), some (.int (nI q)), some (.int (rdI (rday S j q)))]) rfl ?_
                  refine J_iload hC dX4_sumByQuarters_65 rfl ?_
                  refine J_iconst hC dX4_sumByQuarters_67 (v := -1) (by decide) ?_
                  have KB : ∀ (Mr : Mm), CAt Mr x S → Sm M Mr x → Fr (fun t => t = rwT 4) M Mr → (∀ i, i < 12 → mI Mr r i = mI Mq r i + taxQ S (nI i) j q) → J G γ Mr 96 [some (rv x), some (.int (nI (ix (sD S) / 90 + 1))), some (rv (mR Mb x 0)), some (.int (nI 15)), some (.int (nI j)), some (rv e), some (.int (nI q))] [] 0 0 := by
                    intro Mr hMr hsr hFr hrr
                    refine J_iinc hC dX4_sumByQuarters_96 (by decide) rfl (v := nI (q + 1)) (nI_1 _) (ls1 := [some (rv x), some (.int (nI (ix (sD S) / 90 + 1))), some (rv (mR Mb x 0)), some (.int (nI 15)), some (.int (nI j)), some (rv e), some (.int (nI (q + 1)))]) rfl ?_
                    refine J_goto hC dX4_sumByQuarters_99 (tgt := 44) (by decide) ?_
                    exact ih8 (q + 1) Mr (by omega) hMr hsr hFr (by omega) (fun i hi => by rw [hrr i hi, hrq i hi, sum32_s, i_add_assoc])
                  refine J_icmp_eq hC dX4_sumByQuarters_68 (tgt := 96) (by decide) (fun c68 => ?_) (fun c68 => ?_)
                  · refine J_sub hC (ls1 := [some (rv x), some (.int (nI (ix (sD S) / 90 + 1))), some (rv (mR Mb x 0)), some (.int (nI 15)), some (.int (nI j)), some (rv e), some (.int (nI q))]) ⟨rfl, rfl, rfl, rfl, rfl, rfl, rfl, trivial⟩ ?_
                    exact KB Mq hMq hsq hFq (fun i hi => by rw [tax_0a (by have := (q_len hql).2; omega) c68, i32_a0])
                  · have er : mR Mq x 4 = r := by rw [hsq.1, er0]
                    refine J_aload_n hC dX4_sumByQuarters_71 rfl rfl ?_
                    refine J_get5 hC lf_X4_31 (j := 4) hMq.tx (v := rv r) (congrArg (fun z => some (rv z)) er) dX4_sumByQuarters_72 ?_
                    refine J_aload hC dX4_sumByQuarters_75 rfl ?_
                    refine J_get4 hC lf_X4_182 (j := 2) we.tg (v := rv (mR Mq e 2)) rfl dX4_sumByQuarters_77 ?_
                    refine J_iload hC dX4_sumByQuarters_80 rfl ?_
                    refine J_callV (k1 := 0) (n1 := 0) (kd := 3) [.int (rdI (rday S j q))] [.int (rdI (rday S j q)), rv (mR Mq e 2), rv r] hC lv_X4_128 (ct_X2_at hst we.T2 (rdI (rday S j q)) (hI.ts _ hlt2 0 (by decide)).2) we.k2 (by decide) ⟨_, mE_3 we.k2⟩ rfl rfl rfl (by simp only [List.map_cons, List.map_nil, rv_cat, List.sum_cons, List.sum_nil]; decide) (by decide) rfl rfl (by decide) (by decide) dX4_sumByQuarters_82 (fun E M9 h => h.elim) (fun v9 M9 hq9 => ?_)
                    obtain ⟨rfl, e9⟩ := hq9
                    rw [e9]; clear e9
                    refine J_aload hC dX4_sumByQuarters_85 rfl ?_
                    refine J_get4 hC lf_X4_145 (j := 1) we.tg (v := .int (sV S j 1)) (congrArg (fun z => some (Value.int z)) we.v1) dX4_sumByQuarters_87 ?_
                    refine J_callS (k1 := 0) (n1 := 0) [.int (sV S j 1)] [.int (sV S j 1), .int (look (sT S 0 j) (rdI (rday S j q))), rv r] hC ls_X4_289 (ct_X4_taxFor hst (sV S j 1)) rfl rfl (by simp only [List.map_cons, List.map_nil, rv_cat, List.sum_cons, List.sum_nil]; (try simp only [Value.category]); (try omega)) (by decide) rfl rfl (by decide) (by decide) dX4_sumByQuarters_90 (fun E M9 h => h.elim) (fun v9 M9 hq9 => ?_)
                    obtain ⟨rfl, e9⟩ := hq9
                    rw [e9]; clear e9
                    refine J_callS (k1 := 0) (n1 := 0) [rv r, .int (look (sT S 0 j) (rdI (rday S j q))), .int (taxOf (sV S j 1))] [.int (taxOf (sV S j 1)), .int (look (sT S 0 j) (rdI (rday S j q))), rv r] hC ls_X4_211 (ct_X4_addTo (N := 12) hst (by rw [← er]; exact hMq.tk4) (by rw [← er]; exact hMq.lk4) (by decide) (look (sT S 0 j) (rdI (rday S j q))) (taxOf (sV S j 1))) rfl rfl (by decide) (by decide) rfl rfl (by decide) (by decide) dX4_sumByQuarters_93 (fun E M9 h => h.elim) (fun v9 M9 hq9 => ?_)
                    obtain ⟨rfl, e9⟩ := hq9
                    obtain ⟨g1, g2, g3⟩ := hMq.rwadd (M9 := M9) (i := look (sT S 0 j) (rdI (rday S j q))) (v := taxOf (sV S j 1)) (Or.inl rfl) (by rw [er]; exact e9)
                    refine J_sub hC (ls1 := [some (rv x), some (.int (nI (ix (sD S) / 90 + 1))), some (rv (mR Mb x 0)), some (.int (nI 15)), some (.int (nI j)), some (rv e), some (.int (nI q))]) ⟨rfl, rfl, rfl, rfl, rfl, rfl, rfl, trivial⟩ ?_
                    exact KB M9 g1 (hsq.trans g2) (hFq.trans g3) (fun i hi => by rw [add_at e9 hi, tax_d c68])
          exact L44 (ix (sD S) / 90 + 2) 0 Mj (by omega) hMj hsj hFj (Nat.zero_le _) (fun i hi => by rw [hrj i hi]; exact (i32_a0 _).symm)
        · refine J_t0 (fun htj => ?_)
          have hez : e = 0 := by rw [ee, ← e0j]; exact hMj.v.2 j (Nat.le_of_not_lt hge) hlt
          refine J_aload hC dX4_sumByQuarters_44 rfl ?_
          refine J_ifnull hC dX4_sumByQuarters_46 (tgt := 102) (by decide) (fun c46 => ?_) (fun c46 => ?_)
          · refine J_sub hC (ls1 := [some (rv x), some (.int (nI (ix (sD S) / 90 + 1))), some (rv (mR Mb x 0)), some (.int (nI 15)), some (.int (nI j))]) ⟨rfl, rfl, rfl, rfl, rfl, trivial⟩ ?_
            refine J_iinc hC dX4_sumByQuarters_102 (by decide) rfl (v := nI (j + 1)) (nI_1 _) (ls1 := [some (rv x), some (.int (nI (ix (sD S) / 90 + 1))), some (rv (mR Mb x 0)), some (.int (nI 15)), some (.int (nI (j + 1)))]) rfl ?_
            refine J_goto hC dX4_sumByQuarters_105 (tgt := 29) (by decide) ?_
            exact ih (j + 1) Mj (by omega) hMj hsj hFj (by omega) (fun i hi => vs_ge hge (hrj i hi))
          · exact absurd hez c46
  exact L29 16 0 Mb (by omega) hMb hsb hFb (by decide) (fun i hi => by rw [Nat.zero_min]; show _ = _ + 0; rw [i32_a0]; exact hrb i hi)
