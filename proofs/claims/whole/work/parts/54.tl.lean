theorem TlA.c {M : Mm} {a c : Nat} {l : Tl} (h : TlA M a c l) : ∃ cap, TlC M a c l cap := by
  obtain ⟨t0, t1, t2, s2, cap, hc0, hc1, hl, h4, hcap, hb, hj⟩ := h
  exact ⟨cap, t0, t1, t2, s2, hc0, hc1, hl, h4, hcap, hb, hj⟩
theorem TlC.a {M : Mm} {a c : Nat} {l : Tl} {cap : Nat} (h : TlC M a c l cap) : TlA M a c l := by
  obtain ⟨t0, t1, t2, s2, hc0, hc1, hl, h4, hcap, hb, hj⟩ := h
  exact ⟨t0, t1, t2, s2, cap, hc0, hc1, hl, h4, hcap, hb, hj⟩
theorem tg_ne {M : Mm} {a b : Nat} {s t : Nat × Nat} (h : mT M a = s) (h2 : mT M b = t) (hst : s ≠ t) : a ≠ b := fun e => by
  rw [e, h2] at h
  exact hst h.symm
theorem TlC.ap {M : Mm} {a c : Nat} {l : Tl} {cap : Nat} (h : TlC M a c l cap) : a ≠ mR M a 0 ∧ a ≠ mR M a 1 ∧ mR M a 0 ≠ mR M a 1 := by
  obtain ⟨t0, t1, t2, -⟩ := h
  exact ⟨tg_ne t0 t1 (by simp), tg_ne t0 t2 (by simp), tg_ne t1 t2 (by simp)⟩
theorem TlC.app {M : Mm} {a c : Nat} {l : Tl} {cap : Nat} (h : TlC M a c l cap) (hlt : l.length < cap) (hb9 : l.length ≤ 1099) (d v : Int32) : TlA (pI (pI (pI M (mR M a 0) l.length d) (mR M a 1) l.length v) a 2 (nI (l.length + 1))) a c (l ++ [(d, v)]) ∧ Fr (tlP c) M (pI (pI (pI M (mR M a 0) l.length d) (mR M a 1) l.length v) a 2 (nI (l.length + 1))) := by
  obtain ⟨n0, n1, n2⟩ := h.ap
  obtain ⟨t0, t1, t2, s2, hc0, hc1, hl, h4, hcap, hb, hj⟩ := h
  refine ⟨⟨t0, t1, t2, ?_, cap, hc0, hc1, ?_, h4, ?_, ?_, fun j hjl => ?_⟩, (Fr.pI (Or.inr (Or.inl t1))).trans ((Fr.pI (M := pI M (mR M a 0) l.length d) (Or.inr (Or.inr t2))).trans (Fr.pI (M := pI (pI M (mR M a 0) l.length d) (mR M a 1) l.length v) (Or.inl t0)))⟩
  · rw [List.length_append]; exact up2_same _ _ _ _
  · rw [List.length_append]; exact hlt
  · rw [List.length_append]; show cap ≤ 2 * (l.length + 1) + 4; omega
  · rw [List.length_append]; show l.length + 1 ≤ 1100; omega
  · rw [List.length_append] at hjl
    have hjl : j < l.length + 1 := hjl
    have e0 : mI (pI (pI (pI M (mR M a 0) l.length d) (mR M a 1) l.length v) a 2 (nI (l.length + 1))) (mR M a 0) j = if j = l.length then d else mI M (mR M a 0) j := by
      refine (up2_b _ _ _ _ n0.symm).trans ((up2_b _ _ _ _ n2).trans ?_)
      by_cases e : j = l.length
      · subst e; rw [if_pos rfl]; exact up2_same _ _ _ _
      · rw [if_neg e]; exact up2_k _ _ _ e
    have e1 : mI (pI (pI (pI M (mR M a 0) l.length d) (mR M a 1) l.length v) a 2 (nI (l.length + 1))) (mR M a 1) j = if j = l.length then v else mI M (mR M a 1) j := by
      refine (up2_b _ _ _ _ n1.symm).trans ?_
      by_cases e : j = l.length
      · subst e; rw [if_pos rfl]; exact up2_same _ _ _ _
      · rw [if_neg e]; exact (up2_k _ _ _ e).trans (up2_b _ _ _ _ n2.symm)
    show mI _ (mR M a 0) j = _ ∧ mI _ (mR M a 1) j = _
    rw [e0, e1]
    by_cases e : j = l.length
    · subst e; simp
    · rw [if_neg e, if_neg e]
      have h2 : (l ++ [(d, v)]).getD j (0, 0) = l.getD j (0, 0) := by
        simp only [List.getD_eq_getElem?_getD]
        rw [List.getElem?_append_left (by omega)]
      rw [h2]
      exact hj j (by omega)
theorem TlA.chg {M : Mm} {a c : Nat} {l : Tl} {d x : Int32} (h : TlA M a c (l ++ [(d, x)])) (v : Int32) : TlA (pI M (mR M a 1) l.length v) a c (l ++ [(d, v)]) ∧ Fr (tlP c) M (pI M (mR M a 1) l.length v) := by
  obtain ⟨cap, h⟩ := h.c
  obtain ⟨n0, n1, n2⟩ := h.ap
  obtain ⟨t0, t1, t2, s2, hc0, hc1, hl, h4, hcap, hb, hj⟩ := h
  have el : (l ++ [(d, x)]).length = (l ++ [(d, v)]).length := by simp
  rw [el] at s2 hl hcap hb hj
  refine ⟨⟨t0, t1, t2, (up2_b _ _ _ _ n1).trans s2, cap, hc0, hc1, hl, h4, hcap, hb, fun j hjl => ?_⟩, Fr.pI (Or.inr (Or.inr t2))⟩
  have hq := hj j hjl
  have e0 : mI (pI M (mR M a 1) l.length v) (mR M a 0) j = mI M (mR M a 0) j := up2_b _ _ _ _ n2
  have e1 : mI (pI M (mR M a 1) l.length v) (mR M a 1) j = if j = l.length then v else mI M (mR M a 1) j := by
    by_cases e : j = l.length
    · subst e; rw [if_pos rfl]; exact up2_same _ _ _ _
    · rw [if_neg e]; exact up2_k _ _ _ e
  show mI _ (mR M a 0) j = _ ∧ mI _ (mR M a 1) j = _
  rw [e0, e1]
  by_cases e : j = l.length
  · subst e
    rw [hq.1]; simp
  · rw [if_neg e, hq.1, hq.2]
    have hjl2 : j < l.length := by
      rw [List.length_append] at hjl
      have hjl : j < l.length + 1 := hjl
      omega
    simp only [List.getD_eq_getElem?_getD]
    rw [List.getElem?_append_left hjl2, List.getElem?_append_left hjl2]
    exact ⟨rfl, rfl⟩
theorem setT_len (l : Tl) (d x : Int32) : (setT l d x).length ≤ l.length + 1 ∧ l.length ≤ (setT l d x).length := by
  unfold setT
  split
  · rename_i h
    rcases List.eq_nil_or_concat l with rfl | ⟨l1, e, rfl⟩
    · simp at h
    · simp
  · simp
theorem setT_snoc (l : Tl) (d x v : Int32) : setT (l ++ [(d, x)]) d v = l ++ [(d, v)] := by unfold setT; simp
theorem setT_nw {l : Tl} {d v : Int32} (h : lastD l ≠ d ∨ l = []) : setT l d v = l ++ [(d, v)] := by
  unfold setT
  rw [if_neg]
  rcases h with h | h
  · intro e
    refine h ?_
    unfold lastD
    rw [e]; rfl
  · rw [h]; simp
theorem lastD_some {l : Tl} {d : Int32} (h : lastD l = d) (hn : l ≠ []) : ∃ l1 x, l = l1 ++ [(d, x)] := by
  rcases List.eq_nil_or_concat l with rfl | ⟨l1, e, rfl⟩
  · exact absurd rfl hn
  · obtain ⟨x, y⟩ := e
    rw [List.concat_eq_append] at h ⊢
    rw [lastD_snoc] at h
    subst h
    exact ⟨l1, y, rfl⟩
theorem TlA.made {M : Mm} {a c q q1 : Nat} (ht : mT M a = (3, c)) (hs : mI M a 2 = 0) (hq : (mT M q).1 = 0) (hq1 : (mT (pR (nwM M q (7, 100 + 2 * c) 4) a 0 q) q1).1 = 0) : TlA (pR (nwM (pR (nwM M q (7, 100 + 2 * c) 4) a 0 q) q1 (7, 101 + 2 * c) 4) a 1 q1) a c [] ∧ Fr (tlP c) M (pR (nwM (pR (nwM M q (7, 100 + 2 * c) 4) a 0 q) q1 (7, 101 + 2 * c) 4) a 1 q1) := by
  have n0 : a ≠ q := fun e => by rw [e] at ht; rw [ht] at hq; cases hq
  have hx : mT (pR (nwM M q (7, 100 + 2 * c) 4) a 0 q) a = (3, c) := (va_up_ne _ _ n0).trans ht
  have n1 : a ≠ q1 := fun e => by rw [← e, hx] at hq1; cases hq1
  have hxq : mT (pR (nwM M q (7, 100 + 2 * c) 4) a 0 q) q = (7, 100 + 2 * c) := va_up_self _ _ _
  have n2 : q ≠ q1 := fun e => by rw [← e, hxq] at hq1; cases hq1
  have F0 : Fr (tlP c) M (pR (nwM M q (7, 100 + 2 * c) 4) a 0 q) := (Fr.nw hq).trans (Fr.pR (M := nwM M q (7, 100 + 2 * c) 4) (Or.inl hx))
  have e0 : mR (pR (nwM M q (7, 100 + 2 * c) 4) a 0 q) a 0 = q := up2_same _ _ _ _
  have eL : mL (pR (nwM M q (7, 100 + 2 * c) 4) a 0 q) q = 4 := va_up_self _ _ _
  have eS : mI (pR (nwM M q (7, 100 + 2 * c) 4) a 0 q) a 2 = 0 := by
    show (if a = q then 0 else mI M a 2) = 0
    rw [if_neg n0, hs]
  generalize pR (nwM M q (7, 100 + 2 * c) 4) a 0 q = X at *
  have hz : mT (pR (nwM X q1 (7, 101 + 2 * c) 4) a 1 q1) a = (3, c) := (va_up_ne _ _ n1).trans hx
  have f0 : mR (pR (nwM X q1 (7, 101 + 2 * c) 4) a 1 q1) a 0 = q := by
    refine (up2_k _ _ _ (by decide)).trans ?_
    show (if a = q1 then 0 else mR X a 0) = q
    rw [if_neg n1, e0]
  have f1 : mR (pR (nwM X q1 (7, 101 + 2 * c) 4) a 1 q1) a 1 = q1 := up2_same _ _ _ _
  refine ⟨⟨hz, ?_, ?_, ?_, 4, ?_, ?_, by decide, by decide, by decide, by decide, fun j hj => absurd hj (Nat.not_lt_zero _)⟩, F0.trans ((Fr.nw hq1).trans (Fr.pR (M := nwM X q1 (7, 101 + 2 * c) 4) (Or.inl hz)))⟩
  · rw [f0]; exact (va_up_ne _ _ n2).trans hxq
  · rw [f1]; exact va_up_self _ _ _
  · show (if a = q1 then 0 else mI X a 2) = nI 0
    rw [if_neg n1, eS]; rfl
  · rw [f0]; exact (va_up_ne _ _ n2).trans eL
  · rw [f1]; exact va_up_self _ _ _
theorem nI_ltx {a b : Nat} (h : nI a < nI b) (hab : a ≤ 1100 ∧ b ≤ 2204) : a < b := by
  rw [i_lt, nI_toInt (by omega), nI_toInt (by omega)] at h
  omega
theorem ge_nIx {a b : Nat} (h : ¬ nI a < nI b) (hab : a ≤ 1100 ∧ b ≤ 2204) : b ≤ a := by
  rw [i_lt, nI_toInt (by omega), nI_toInt (by omega)] at h
  omega
theorem ct_X2_append {G : Gt} {l : Launch} (hst : l.stackTraces = false) {M : Mm} {a c : Nat} {l9 : Tl} (hT : TlA M a c l9) (hb9 : l9.length ≤ 1099) (d v : Int32) : Ct G l yX2_append cX2_append 3 none 4 M [rv a, .int d, .int v] 2 (4 * l9.length) (fun r9 M9 => r9 = none ∧ TlA M9 a c (l9 ++ [(d, v)]) ∧ Fr (tlP c) M M9) (noX) := by
  obtain ⟨cap, hT0⟩ := hT.c
  obtain ⟨t0, t1, t2, s2, hc0, hc1, hl, h4, hcap, hb, hj⟩ := id hT0
  have g0 : (mT M a).1 = 3 := by rw [t0]
  have g1 : (mT M (mR M a 0)).1 = 7 := by rw [t1]
  have g2 : (mT M (mR M a 1)).1 = 7 := by rw [t2]
  refine Ct_intro (own := RX2) (nm := "append") (by decide +kernel) rfl rfl hst (fun w hw => by simp only [List.mem_cons, List.not_mem_nil, or_false] at hw; rcases hw with rfl | rfl | rfl <;> first | rfl | exact rv_cat _) (Nat.le_of_ble_eq_true rfl) (fun γ hC => ?_)
  show J G γ M 0 [some (rv a), some (.int d), some (.int v)] [] 0 0
  refine J_aload_n hC dX2_append_0 rfl rfl ?_
  refine J_get3 hC lf_X2_18 (j := 2) g0 (v := .int (nI l9.length)) (congrArg (fun z => some (Value.int z)) s2) dX2_append_1 ?_
  refine J_aload_n hC dX2_append_4 rfl rfl ?_
  refine J_get3 hC lf_X2_11 (j := 0) g0 (v := rv (mR M a 0)) rfl dX2_append_5 ?_
  refine J_alen7 hC g1 dX2_append_8 ?_
  rw [hc0]
  have K16 : ∀ (M2 : Mm) (cap2 : Nat), (TlC M2 a c l9 cap2) → (l9.length < cap2) → (Fr (tlP c) M M2) → J G γ M2 16 [some (rv a), some (.int d), some (.int v)] [] 2 (4 * l9.length) := by
    intro M2 cap2 hT2 hlt hF2
    obtain ⟨n0, n1, n2⟩ := hT2.ap
    obtain ⟨t0, t1, t2, s2, hc0, hc1, hl, h4, hcap, hb, hj⟩ := id hT2
    have g0 : (mT M2 a).1 = 3 := by rw [t0]
    have g1 : (mT M2 (mR M2 a 0)).1 = 7 := by rw [t1]
    have g2 : (mT M2 (mR M2 a 1)).1 = 7 := by rw [t2]
    have sx1 : mI (pI M2 (mR M2 a 0) l9.length d) a 2 = nI l9.length := (up2_b _ _ _ _ n0).trans s2
    have sx2 : mI (pI (pI M2 (mR M2 a 0) l9.length d) (mR M2 a 1) l9.length v) a 2 = nI l9.length := (up2_b _ _ _ _ n1).trans sx1
    refine J_aload_n hC dX2_append_16 rfl rfl ?_
    refine J_get3 hC lf_X2_18 (j := 2) g0 (v := .int (nI l9.length)) (congrArg (fun z => some (Value.int z)) s2) dX2_append_17 ?_
    refine J_aload_n hC dX2_append_20 rfl rfl ?_
    refine J_get3 hC lf_X2_11 (j := 0) g0 (v := rv (mR M2 a 0)) rfl dX2_append_21 ?_
    refine J_alen7 hC g1 dX2_append_24 ?_
    rw [hc0]
    refine J_icmp_ge hC dX2_append_25 (tgt := 70) (by decide) (fun c25 => ?_) (fun c25 => ?_)
    · exact absurd (le_nI (by omega) (by omega) c25) (by omega)
    · refine J_aload_n hC dX2_append_28 rfl rfl ?_
      refine J_get3 hC lf_X2_18 (j := 2) g0 (v := .int (nI l9.length)) (congrArg (fun z => some (Value.int z)) s2) dX2_append_29 ?_
      refine J_aload_n hC dX2_append_32 rfl rfl ?_
      refine J_get3 hC lf_X2_15 (j := 1) g0 (v := rv (mR M2 a 1)) rfl dX2_append_33 ?_
      refine J_alen7 hC g2 dX2_append_36 ?_
      rw [hc1]
      refine J_icmp_ge hC dX2_append_37 (tgt := 70) (by decide) (fun c37 => ?_) (fun c37 => ?_)
      · exact absurd (le_nI (by omega) (by omega) c37) (by omega)
      · refine J_aload_n hC dX2_append_40 rfl rfl ?_
        refine J_get3 hC lf_X2_11 (j := 0) g0 (v := rv (mR M2 a 0)) rfl dX2_append_41 ?_
        refine J_aload_n hC dX2_append_44 rfl rfl ?_
        refine J_get3 hC lf_X2_18 (j := 2) g0 (v := .int (nI l9.length)) (congrArg (fun z => some (Value.int z)) s2) dX2_append_45 ?_
        refine J_iload_n hC dX2_append_48 rfl rfl ?_
        refine J_iast hC g1 (j := l9.length) (nI_toInt (by omega)) (by rw [hc0]; omega) dX2_append_49 ?_
        refine J_aload_n hC dX2_append_50 rfl rfl ?_
        refine J_get3 hC lf_X2_15 (j := 1) g0 (v := rv (mR M2 a 1)) rfl dX2_append_51 ?_
        refine J_aload_n hC dX2_append_54 rfl rfl ?_
        refine J_get3 hC lf_X2_18 (j := 2) g0 (v := .int (nI l9.length)) (congrArg (fun z => some (Value.int z)) sx1) dX2_append_55 ?_
        refine J_iload_n hC dX2_append_58 rfl rfl ?_
        refine J_iast hC g2 (j := l9.length) (nI_toInt (by omega)) (Nat.lt_of_lt_of_eq (by omega) hc1.symm) dX2_append_59 ?_
        refine J_aload_n hC dX2_append_60 rfl rfl ?_
        refine J_dup hC dX2_append_61 (rv_cat _) ?_
        refine J_get3 hC lf_X2_18 (j := 2) g0 (v := .int (nI l9.length)) (congrArg (fun z => some (Value.int z)) sx2) dX2_append_62 ?_
        refine J_iconst hC dX2_append_65 (v := 1) (by decide) ?_
        refine J_iadd hC dX2_append_66 ?_
        rw [nI_1]
        refine J_put3_2 hC lf_X2_18 g0 dX2_append_67 ?_
        refine J_vret hC (by decide) (Nat.le_refl _) dX2_append_70 ?_
        exact ⟨rfl, (hT2.app hlt hb9 d v).1, hF2.trans (hT2.app hlt hb9 d v).2⟩
  refine J_icmp_lt hC dX2_append_9 (tgt := 16) (by decide) (fun c9 => ?_) (fun c9 => ?_)
  · exact J_wide hC (Nat.zero_le _) (Nat.zero_le _) (K16 _ _ hT0 (nI_ltx c9 (by omega)) (Fr.rf _ _))
  · have hge := ge_nIx c9 (by omega)
    have hcc : cap = l9.length := by omega
    subst hcc
    refine J_aload_n hC dX2_append_12 rfl rfl ?_
    refine J_callV (k1 := 2) (n1 := 4 * l9.length) (kd := 3) [] [rv a] hC lv_X2_22 (ct_X2_widen hst hT0) g0 (by decide) ⟨_, mE_3 g0⟩ rfl rfl rfl (by simp only [List.map_cons, List.map_nil, rv_cat, Value.category, List.sum_cons, List.sum_nil]; decide) (by decide) rfl (Nat.zero_add _) (by decide) (Nat.le_refl _) dX2_append_13 (fun E M9 h => h.elim) (fun v9 M9 hq9 => ?_)
    obtain ⟨rfl, hT9, hF9⟩ := hq9
    exact K16 _ _ hT9 (by omega) hF9
theorem tl_nil {l : Tl} (h : nI l.length - 1 < 0) (hb : l.length ≤ 1100) : l = [] := by
  rcases Nat.eq_zero_or_pos l.length with e | e
  · exact List.eq_nil_of_length_eq_zero e
  · obtain ⟨k, hk⟩ : ∃ k, l.length = k + 1 := ⟨l.length - 1, by omega⟩
    rw [hk, ← nI_1, nI_p1s1, i_lt, nI_toInt (by omega)] at h
    have h0 : (0 : Int32).toInt = 0 := by decide
    omega
theorem tl_pos {l : Tl} (h : ¬ nI l.length - 1 < 0) (hb : l.length ≤ 1100) : ∃ k, l.length = k + 1 := by
  rcases Nat.eq_zero_or_pos l.length with e | e
  · rw [e] at h
    exact absurd (by decide) h
  · exact ⟨l.length - 1, by omega⟩
theorem ct_X2_set {G : Gt} {l : Launch} (hst : l.stackTraces = false) {M : Mm} {a c : Nat} {l9 : Tl} (hT : TlA M a c l9) (hb9 : l9.length ≤ 1099) (d v : Int32) : Ct G l yX2_set cX2_set 4 none 5 M [rv a, .int d, .int v] 2 (4 * l9.length) (fun r9 M9 => r9 = none ∧ TlA M9 a c (setT l9 d v) ∧ Fr (tlP c) M M9) (noX) := by
  obtain ⟨t0, t1, t2, s2, cap, hc0, hc1, hl, h4, hcap, hb, hj⟩ := id hT
  have g0 : (mT M a).1 = 3 := by rw [t0]
  have g1 : (mT M (mR M a 0)).1 = 7 := by rw [t1]
  have g2 : (mT M (mR M a 1)).1 = 7 := by rw [t2]
  have hlv := (dv_last hb).2
  refine Ct_intro (own := RX2) (nm := "set") (by decide +kernel) rfl rfl hst (fun w hw => by simp only [List.mem_cons, List.not_mem_nil, or_false] at hw; rcases hw with rfl | rfl | rfl <;> first | rfl | exact rv_cat _) (Nat.le_of_ble_eq_true rfl) (fun γ hC => ?_)
  show J G γ M 0 [some (rv a), some (.int d), some (.int v)] [] 0 0
  refine J_aload_n hC dX2_set_0 rfl rfl ?_
  refine J_get3 hC lf_X2_18 (j := 2) g0 (v := .int (nI l9.length)) (congrArg (fun z => some (Value.int z)) s2) dX2_set_1 ?_
  refine J_iconst hC dX2_set_4 (v := 1) (by decide) ?_
  refine J_isub hC dX2_set_5 ?_
  refine J_istore_n hC dX2_set_6 rfl (by decide) (ls1 := [some (rv a), some (.int d), some (.int v), some (.int ((nI l9.length) - 1))]) rfl ?_
  refine J_iload_n hC dX2_set_7 rfl rfl ?_
  have K39 : ∀ (hs : setT l9 d v = l9 ++ [(d, v)]), J G γ M 39 [some (rv a), some (.int d), some (.int v)] [] 0 0 := by
    intro hs
    refine J_aload_n hC dX2_set_39 rfl rfl ?_
    refine J_iload_n hC dX2_set_40 rfl rfl ?_
    refine J_iload_n hC dX2_set_41 rfl rfl ?_
    refine J_callV (k1 := 2) (n1 := 4 * l9.length) (kd := 3) [.int d, .int v] [.int v, .int d, rv a] hC lv_X2_29 (ct_X2_append hst hT hb9 d v) g0 (by decide) ⟨_, mE_3 g0⟩ rfl rfl rfl (by simp only [List.map_cons, List.map_nil, rv_cat, Value.category, List.sum_cons, List.sum_nil]; decide) (by decide) rfl (Nat.zero_add _) (by decide) (Nat.le_refl _) dX2_set_42 (fun E M9 h => h.elim) (fun v9 M9 hq9 => ?_)
    obtain ⟨rfl, hT9, hF9⟩ := hq9
    refine J_vret hC (by omega) (by omega) dX2_set_45 ?_
    refine ⟨rfl, ?_, hF9⟩
    rw [hs]; exact hT9
  refine J_if_lt hC dX2_set_8 (tgt := 39) (by decide) (fun c8 => ?_) (fun c8 => ?_)
  · refine J_sub hC (ls1 := [some (rv a), some (.int d), some (.int v)]) ⟨rfl, rfl, rfl, trivial⟩ ?_
    exact K39 (setT_nw (by first | exact Or.inr (tl_nil c8 hb) | exact Or.inl c26))
  · obtain ⟨n9, hn9⟩ := tl_pos c8 hb
    have hii : isIx (nI l9.length - 1) l9.length = true := by rw [hn9, ← nI_1, nI_p1s1]; exact isIx_of (by omega) (by omega)
    refine J_iload_n hC dX2_set_11 rfl rfl ?_
    refine J_aload_n hC dX2_set_12 rfl rfl ?_
    refine J_get3 hC lf_X2_15 (j := 1) g0 (v := rv (mR M a 1)) rfl dX2_set_13 ?_
    refine J_alen7 hC g2 dX2_set_16 ?_
    rw [hc1]
    refine J_icmp_ge hC dX2_set_17 (tgt := 39) (by decide) (fun c17 => ?_) (fun c17 => ?_)
    · exact absurd (le_of_ix c17 hii hl hb hcap) id
    · refine J_aload_n hC dX2_set_20 rfl rfl ?_
      refine J_iload_n hC dX2_set_21 rfl rfl ?_
      refine J_callV (k1 := 0) (n1 := 0) (kd := 3) [.int ((nI l9.length) - 1)] [.int ((nI l9.length) - 1), rv a] hC lv_X2_25 (ct_X2_dayAt hst hT _) g0 (by decide) ⟨_, mE_3 g0⟩ rfl rfl rfl (by simp only [List.map_cons, List.map_nil, rv_cat, Value.category, List.sum_cons, List.sum_nil]; decide) (by decide) rfl rfl (by omega) (by omega) dX2_set_22 (fun E M9 h => h.elim) (fun v9 M9 hq9 => ?_)
      obtain ⟨rfl, e9⟩ := hq9
      rw [e9]; clear e9
      rw [hlv]
      refine J_iload_n hC dX2_set_25 rfl rfl ?_
      refine J_icmp_ne hC dX2_set_26 (tgt := 39) (by decide) (fun c26 => ?_) (fun c26 => ?_)
      · refine J_sub hC (ls1 := [some (rv a), some (.int d), some (.int v)]) ⟨rfl, rfl, rfl, trivial⟩ ?_
        exact K39 (setT_nw (by first | exact Or.inr (tl_nil c8 hb) | exact Or.inl c26))
      · obtain ⟨l1, x1, e1⟩ := lastD_some (nn c26) (by intro e; rw [e] at hn9; cases hn9)
        subst e1
        have hl1 : (l1 ++ [(d, x1)]).length = l1.length + 1 := by simp
        have hll : (nI (l1 ++ [(d, x1)]).length - 1).toInt = ((l1.length : Nat) : Int) := by rw [hl1, ← nI_1, nI_p1s1, nI_toInt (by omega)]
        refine J_aload_n hC dX2_set_29 rfl rfl ?_
        refine J_get3 hC lf_X2_15 (j := 1) g0 (v := rv (mR M a 1)) rfl dX2_set_30 ?_
        refine J_iload_n hC dX2_set_33 rfl rfl ?_
        refine J_iload_n hC dX2_set_34 rfl rfl ?_
        refine J_iast hC g2 (j := l1.length) hll (Nat.lt_of_lt_of_eq (by omega) hc1.symm) dX2_set_35 ?_
        refine J_goto hC dX2_set_36 (tgt := 45) (by decide) ?_
        refine J_vret hC (by omega) (by omega) dX2_set_45 ?_
        rw [setT_snoc]
        exact ⟨rfl, hT.chg v⟩
theorem ct_X2_init {G : Gt} {l : Launch} (hst : l.stackTraces = false) {M : Mm} {a c : Nat} (ha : a ≠ 0) (ht : mT M a = (3, c)) (hs : mI M a 2 = 0) : Ct G l yX2_init cX2_init 1 none 2 M [rv a] 2 8 (fun r9 M9 => r9 = none ∧ TlA M9 a c ([]) ∧ Fr (tlP c) M M9) (noX) := by
  have g0 : (mT M a).1 = 3 := by rw [ht]
  refine Ct_intro (own := RX2) (nm := "<init>") (by decide +kernel) rfl rfl hst (fun w hw => by simp only [List.mem_cons, List.not_mem_nil, or_false] at hw; rcases hw with rfl <;> first | rfl | exact rv_cat _) (Nat.le_of_ble_eq_true rfl) (fun γ hC => ?_)
  show J G γ M 0 [some (rv a)] [] 0 0
  refine J_aload_n hC dX2_init_0 rfl rfl ?_
  refine J_objInit hC lo_X2_3 lo_inst lo_code ha (by decide) (by decide) dX2_init_1 ?_
  refine J_aload_n hC dX2_init_4 rfl rfl ?_
  refine J_iconst hC dX2_init_5 (v := 4) (by decide) ?_
  refine J_newI (100 + 2 * c) (N := 4) hC ac_int (by decide) (by decide) rfl rfl (by decide) (by decide) dX2_init_6 (k1 := 1) (n1 := 4) (fun q hq zq => ?_)
  have n0 : a ≠ q := fun e => by rw [e] at ht; rw [ht] at hq; cases hq
  have g1 : (mT (nwM M q (7, (100 + 2 * c)) 4) a).1 = 3 := (congrArg Prod.fst (va_up_ne _ _ n0)).trans g0
  refine J_put3_0 hC lf_X2_11 (M := (nwM M q (7, (100 + 2 * c)) 4)) g1 dX2_init_8 ?_
  refine J_aload_n hC dX2_init_11 rfl rfl ?_
  refine J_iconst hC dX2_init_12 (v := 4) (by decide) ?_
  refine J_newI (101 + 2 * c) (N := 4) hC ac_int (by decide) (by decide) rfl rfl (by decide) (by decide) dX2_init_13 (k1 := 2) (n1 := 8) (fun q1 hq1 zq1 => ?_)
  have n1 : a ≠ q1 := fun e => by rw [← e] at hq1; exact absurd (g1.symm.trans hq1) (by decide)
  refine J_put3_1 hC lf_X2_15 (M := (nwM (pR (nwM M q (7, (100 + 2 * c)) 4) a 0 q) q1 (7, (101 + 2 * c)) 4)) ((congrArg Prod.fst (va_up_ne _ _ n1)).trans g1) dX2_init_15 ?_
  refine J_vret hC (by decide) (by decide) dX2_init_18 ?_
  exact ⟨rfl, TlA.made ht hs hq hq1⟩
