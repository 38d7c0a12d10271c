/-! things made -/
/-- where the things lie that there were -/
def Sw (M M1 : Mm) (x : Nat) (S : St) : Prop := (∀ i, i < sN S 1 → vA M1 x i = vA M x i) ∧ (∀ i, i < sN S 2 → pA M1 x i = pA M x i) ∧ ∀ i, i < sN S 3 → nA M1 x i = nA M x i
theorem Sw.v {M M1 : Mm} {x : Nat} {S : St} (h : Sw M M1 x S) {i : Nat} (hi : i < sN S 1) : vA M1 x i = vA M x i := h.1 i hi
theorem Sw.p {M M1 : Mm} {x : Nat} {S : St} (h : Sw M M1 x S) {i : Nat} (hi : i < sN S 2) : pA M1 x i = pA M x i := h.2.1 i hi
theorem Sw.n {M M1 : Mm} {x : Nat} {S : St} (h : Sw M M1 x S) {i : Nat} (hi : i < sN S 3) : nA M1 x i = nA M x i := h.2.2 i hi
theorem Sm.w {M M1 : Mm} {x : Nat} (h : Sm M M1 x) (S : St) : Sw M M1 x S := ⟨fun i _ => h.v i, fun i _ => h.p i, fun i _ => h.n i⟩
theorem Sw.trans {M M1 M2 : Mm} {x : Nat} {S S1 : St} (h : Sw M M1 x S) (h1 : Sw M1 M2 x S1) (c1 : sN S 1 ≤ sN S1 1) (c2 : sN S 2 ≤ sN S1 2) (c3 : sN S 3 ≤ sN S1 3) : Sw M M2 x S := ⟨fun i hi => (h1.v (Nat.lt_of_lt_of_le hi c1)).trans (h.v hi), fun i hi => (h1.p (Nat.lt_of_lt_of_le hi c2)).trans (h.p hi), fun i hi => (h1.n (Nat.lt_of_lt_of_le hi c3)).trans (h.n hi)⟩
def MtW (M : Mm) (x : Nat) (S S1 : St) (v : Mm → Option Value) (r9 : Option Value) (M9 : Mm) : Prop := r9 = v M9 ∧ CAt M9 x S1 ∧ Sw M M9 x S ∧ Fr pC M M9
theorem sameAt.of {M M1 : Mm} {a : Nat} (hT : mT M1 a = mT M a) (hL : mL M1 a = mL M a) (hI : mI M1 a = mI M a) (hR : mR M1 a = mR M a) (hJ : mJ M1 a = mJ M a) (hD : mD M1 a = mD M a) : sameAt M M1 a := ⟨hT, hL, hI, hR, hJ, hD⟩
theorem nw_T (M : Mm) (q : Nat) (t : Nat × Nat) (n : Nat) : mT (nwM M q t n) q = t := va_up_self _ _ _
theorem nw_I (M : Mm) (q : Nat) (t : Nat × Nat) (n j : Nat) : mI (nwM M q t n) q j = 0 := if_pos rfl
theorem nw_L (M : Mm) (q : Nat) (t : Nat × Nat) (n : Nat) : mL (nwM M q t n) q = n := va_up_self _ _ _
/-- a fresh timeline put into the field k of a -/
theorem TlS {M M4 : Mm} {a q k c : Nat} {ta : Nat × Nat} (hta : mT M a = ta) (h0 : ta.1 ≠ 0) (h3 : ta.1 ≠ 3) (h7 : ta.1 ≠ 7) (hq : (mT M q).1 = 0) (hT : TlA M4 q c []) (hF : Fr (tlP c) (nwM M q (3, c) 0) M4) : mT M4 a = ta ∧ mT (pR M4 a k q) a = ta ∧ mI (pR M4 a k q) a = mI M a ∧ (∀ j, j ≠ k → mR (pR M4 a k q) a j = mR M a j) ∧ mR (pR M4 a k q) a k = q ∧ TlA (pR M4 a k q) q c [] ∧ Fr (fun t => t = ta ∨ tlP c t) M (pR M4 a k q) := by
  have hne : a ≠ q := fun e => by rw [e] at hta; rw [← hta] at h0; exact h0 hq
  have ht1 : mT (nwM M q (3, c) 0) a = ta := (va_up_ne _ _ hne).trans hta
  have hnt : ¬ tlP c ta := fun h => by
    rcases h with h | h | h
    · exact h3 (by rw [h])
    · exact h7 (by rw [h])
    · exact h7 (by rw [h])
  obtain ⟨e1, e2, e3, e4, -, -⟩ := hF.at ht1 h0 hnt
  have ht4 : mT M4 a = ta := e1.trans ht1
  have hI : mI M4 a = mI M a := e3.trans (by funext j; exact if_neg hne)
  have hR : mR M4 a = mR M a := e4.trans (by funext j; exact if_neg hne)
  have hF4 : Fr (fun t => t = ta) M4 (pR M4 a k q) := Fr.pR ht4
  refine ⟨ht4, ht4, hI, fun j hj => (up2_k _ _ _ hj).trans (by rw [hR]), up2_same _ _ _ _, (hT.fr hF4 (fun e => h3 (by rw [← e])) (fun e => h7 (by rw [← e])) (fun e => h7 (by rw [← e]))).1, ?_⟩
  exact (Fr.nw hq).trans ((hF.mono (fun t h => Or.inr h)).trans (hF4.mono (fun t h => Or.inl h)))
theorem ct_X1_init {G : Gt} {l : Launch} (hst : l.stackTraces = false) {M : Mm} {a p : Nat} (ha : a ≠ 0) (ht : mT M a = (2, p)) : Ct G l yX1_init cX1_init 2 none 3 M [rv a, .int (nI p)] 3 11 (fun r9 M9 => r9 = none ∧ mT M9 a = (2, p) ∧ mI M9 a 0 = nI p ∧ mI M9 a 2 = -1 ∧ mI M9 a 3 = -1 ∧ TlA M9 (mR M9 a 1) (4 * p + 3) [] ∧ Fr (fun t => t = (2, p) ∨ tlP (4 * p + 3) t) M M9) (noX) := by
  refine Ct_intro (own := RX1) (nm := "<init>") (by decide +kernel) rfl rfl hst (fun w hw => by simp only [List.mem_cons, List.not_mem_nil, or_false] at hw; rcases hw with rfl | rfl <;> first | rfl | exact rv_cat _) (Nat.le_of_ble_eq_true rfl) (fun γ hC => ?_)
  show J G γ M 0 [some (rv a), some (.int (nI p))] [] 0 0
  refine J_aload_n hC dX1_init_0 rfl rfl ?_
  refine J_objInit hC lo_X1_3 lo_inst lo_code ha (by decide) (by decide) dX1_init_1 ?_
  refine J_aload_n hC dX1_init_4 rfl rfl ?_
  refine J_iload_n hC dX1_init_5 rfl rfl ?_
  refine J_put2_0 hC lf_X1_9 (congrArg Prod.fst ht) rfl rfl dX1_init_6 ?_
  obtain ⟨N0, eN0⟩ : ∃ z, z = (pI M a 0 (nI p)) := ⟨_, rfl⟩
  rw [← eN0]
  have g0 : (mT N0 a).1 = 2 := by rw [eN0]; exact congrArg Prod.fst ht
  refine J_aload_n hC dX1_init_9 rfl rfl ?_
  refine J_new3 (4 * p + 3) hC lc_X1_15 in_X2 it_X2 rfl rfl (by decide) (by decide) dX1_init_10 (k1 := 1) (n1 := 3) (fun q1 hq1 zq1 => ?_)
  refine J_dup hC dX1_init_13 (rv_cat _) ?_
  refine J_callI (k1 := 3) (n1 := 11) [] [rv q1, rv q1, rv a] hC li_X1_17 (ct_X2_init hst zq1 (nw_T _ _ _ _) (nw_I _ _ _ _ _)) zq1 rfl rfl (by simp only [List.map_cons, List.map_nil, rv_cat, List.sum_cons, List.sum_nil]; decide) (by decide) rfl rfl (by decide) (by decide) dX1_init_14 (fun v9 M9 hq9 => ?_)
  obtain ⟨rfl, hT9, hF9⟩ := hq9
  obtain ⟨y0, y1⟩ := TlS (k := 1) (show mT N0 a = (2, p) by rw [eN0]; exact ht) (by simp) (by simp) (by simp) hq1 hT9 hF9
  refine J_put2_1 hC lf_X1_18 (by rw [y0]) rfl rfl dX1_init_17 ?_
  obtain ⟨N1, eN1⟩ : ∃ z, z = pR M9 a 1 q1 := ⟨_, rfl⟩
  rw [← eN1] at y1 ⊢
  clear eN1 hT9 hF9 y0
  obtain ⟨t1, i1, r1, f1, T1, F1⟩ := y1
  refine J_aload_n hC dX1_init_20 rfl rfl ?_
  refine J_iconst hC dX1_init_21 (v := -1) (by decide) ?_
  refine J_put2_2 hC lf_X1_22 (congrArg Prod.fst t1) dX1_init_22 ?_
  refine J_aload_n hC dX1_init_25 rfl rfl ?_
  refine J_iconst hC dX1_init_26 (v := -1) (by decide) ?_
  refine J_put2_3 hC lf_X1_25 (congrArg Prod.fst t1) dX1_init_27 ?_
  refine J_vret hC (by decide) (by decide) dX1_init_30 ?_
  have F7 : Fr (fun t => t = (2, p)) N1 (pI (pI N1 a 2 (-1)) a 3 (-1)) := (Fr.pI t1).trans (Fr.pI (M := pI N1 a 2 (-1)) t1)
  have e0 : mI N1 a 0 = nI p := by rw [i1, eN0]; exact up2_same _ _ _ _
  refine ⟨rfl, t1, (up2_k _ _ _ (by decide)).trans ((up2_k _ _ _ (by decide)).trans e0), (up2_k _ _ _ (by decide)).trans (up2_same _ _ _ _), up2_same _ _ _ _, ?_, ?_⟩
  · have hr : mR (pI (pI N1 a 2 (-1)) a 3 (-1)) a 1 = q1 := f1
    rw [hr]
    exact (T1.fr F7 (nP_1 (by decide)) (nP_1 (by decide)) (nP_1 (by decide))).1
  · have F0 : Fr (fun t => t = (2, p)) M N0 := by rw [eN0]; exact Fr.pI ht
    exact (F0.mono (fun t h => Or.inl h)).trans (F1.trans (F7.mono (fun t h => Or.inl h)))
theorem kind_fit {c : Int32} (h : kindOk c = true) : fits .char (.int c) = true := by
  have h1 := of_decide_eq_true h
  rcases h1 with h1 | h1 | h1 | h1 <;> rw [h1] <;> decide
theorem ct_X3_init {G : Gt} {l : Launch} (hst : l.stackTraces = false) {M : Mm} {a i : Nat} (ha : a ≠ 0) (ht : mT M a = (4, i)) (h6 : mI M a 6 = 0) (h7 : mI M a 7 = 0) (kd : Int32) (hkd : kindOk kd = true) : Ct G l yX3_init cX3_init 3 none 3 M [rv a, .int (nI i), .int kd] 10 39 (fun r9 M9 => r9 = none ∧ mT M9 a = (4, i) ∧ mI M9 a 0 = nI i ∧ mI M9 a 1 = kd ∧ mI M9 a 6 = 0 ∧ mI M9 a 7 = 0 ∧ (mT M9 (mR M9 a 5) = (7, 10 + i) ∧ mL M9 (mR M9 a 5) = 6 ∧ ∀ j, mI M9 (mR M9 a 5) j = 0) ∧ TlA M9 (mR M9 a 2) (4 * i) [] ∧ TlA M9 (mR M9 a 3) (4 * i + 1) [] ∧ TlA M9 (mR M9 a 4) (4 * i + 2) [] ∧ Fr (fun t => t = (4, i) ∨ t = (7, 10 + i) ∨ tlP (4 * i) t ∨ tlP (4 * i + 1) t ∨ tlP (4 * i + 2) t) M M9) (noX) := by
  refine Ct_intro (own := RX3) (nm := "<init>") (by decide +kernel) rfl rfl hst (fun w hw => by simp only [List.mem_cons, List.not_mem_nil, or_false] at hw; rcases hw with rfl | rfl | rfl <;> first | rfl | exact rv_cat _) (Nat.le_of_ble_eq_true rfl) (fun γ hC => ?_)
  show J G γ M 0 [some (rv a), some (.int (nI i)), some (.int kd)] [] 0 0
  refine J_aload_n hC dX3_init_0 rfl rfl ?_
  refine J_objInit hC lo_X3_3 lo_inst lo_code ha (by decide) (by decide) dX3_init_1 ?_
  refine J_aload_n hC dX3_init_4 rfl rfl ?_
  refine J_iload_n hC dX3_init_5 rfl rfl ?_
  refine J_put4_0 hC lf_X3_9 (congrArg Prod.fst ht) rfl rfl dX3_init_6 ?_
  refine J_aload_n hC dX3_init_9 rfl rfl ?_
  refine J_iload_n hC dX3_init_10 rfl rfl ?_
  refine J_put4_1 hC lf_X3_15 (congrArg Prod.fst ht) (kind_nar hkd) (kind_fit hkd) rfl rfl dX3_init_11 ?_
  obtain ⟨N0, eN0⟩ : ∃ z, z = (pI (pI M a 0 (nI i)) a 1 kd) := ⟨_, rfl⟩
  rw [← eN0]
  have g0 : mT N0 a = (4, i) := by rw [eN0]; exact ht
  refine J_aload_n hC dX3_init_14 rfl rfl ?_
  refine J_new3 (4 * i) hC lc_X3_19 in_X2 it_X2 rfl rfl (by decide) (by decide) dX3_init_15 (k1 := 1) (n1 := 3) (fun q2 hq2 zq2 => ?_)
  refine J_dup hC dX3_init_18 (rv_cat _) ?_
  refine J_callI (k1 := 3) (n1 := 11) [] [rv q2, rv q2, rv a] hC li_X3_21 (ct_X2_init hst zq2 (nw_T _ _ _ _) (nw_I _ _ _ _ _)) zq2 rfl rfl (by simp only [List.map_cons, List.map_nil, rv_cat, List.sum_cons, List.sum_nil]; decide) (by decide) rfl rfl (by decide) (by decide) dX3_init_19 (fun v9 M9 hq9 => ?_)
  obtain ⟨rfl, hT9, hF9⟩ := hq9
  obtain ⟨y0, y2⟩ := TlS (k := 2) g0 (by simp) (by simp) (by simp) hq2 hT9 hF9
  refine J_put4_2 hC lf_X3_22 (by rw [y0]) rfl rfl dX3_init_22 ?_
  obtain ⟨N2, eN2⟩ : ∃ z, z = pR M9 a 2 q2 := ⟨_, rfl⟩
  rw [← eN2] at y2 ⊢
  clear eN2 hT9 hF9 y0
  obtain ⟨t2, i2, r2, f2, T2, F2⟩ := y2
  refine J_aload_n hC dX3_init_25 rfl rfl ?_
  refine J_new3 (4 * i + 1) hC lc_X3_19 in_X2 it_X2 rfl rfl (by decide) (by decide) dX3_init_26 (k1 := 4) (n1 := 14) (fun q3 hq3 zq3 => ?_)
  refine J_dup hC dX3_init_29 (rv_cat _) ?_
  refine J_callI (k1 := 6) (n1 := 22) [] [rv q3, rv q3, rv a] hC li_X3_21 (ct_X2_init hst zq3 (nw_T _ _ _ _) (nw_I _ _ _ _ _)) zq3 rfl rfl (by simp only [List.map_cons, List.map_nil, rv_cat, List.sum_cons, List.sum_nil]; decide) (by decide) rfl rfl (by decide) (by decide) dX3_init_30 (fun v9 M9 hq9 => ?_)
  obtain ⟨rfl, hT9, hF9⟩ := hq9
  obtain ⟨y0, y3⟩ := TlS (k := 3) t2 (by simp) (by simp) (by simp) hq3 hT9 hF9
  refine J_put4_3 hC lf_X3_26 (by rw [y0]) rfl rfl dX3_init_33 ?_
  obtain ⟨N3, eN3⟩ : ∃ z, z = pR M9 a 3 q3 := ⟨_, rfl⟩
  rw [← eN3] at y3 ⊢
  clear eN3 hT9 hF9 y0
  obtain ⟨t3, i3, r3, f3, T3, F3⟩ := y3
  refine J_aload_n hC dX3_init_36 rfl rfl ?_
  refine J_new3 (4 * i + 2) hC lc_X3_19 in_X2 it_X2 rfl rfl (by decide) (by decide) dX3_init_37 (k1 := 7) (n1 := 25) (fun q4 hq4 zq4 => ?_)
  refine J_dup hC dX3_init_40 (rv_cat _) ?_
  refine J_callI (k1 := 9) (n1 := 33) [] [rv q4, rv q4, rv a] hC li_X3_21 (ct_X2_init hst zq4 (nw_T _ _ _ _) (nw_I _ _ _ _ _)) zq4 rfl rfl (by simp only [List.map_cons, List.map_nil, rv_cat, List.sum_cons, List.sum_nil]; decide) (by decide) rfl rfl (by decide) (by decide) dX3_init_41 (fun v9 M9 hq9 => ?_)
  obtain ⟨rfl, hT9, hF9⟩ := hq9
  obtain ⟨y0, y4⟩ := TlS (k := 4) t3 (by simp) (by simp) (by simp) hq4 hT9 hF9
  refine J_put4_4 hC lf_X3_29 (by rw [y0]) rfl rfl dX3_init_44 ?_
  obtain ⟨N4, eN4⟩ : ∃ z, z = pR M9 a 4 q4 := ⟨_, rfl⟩
  rw [← eN4] at y4 ⊢
  clear eN4 hT9 hF9 y0
  obtain ⟨t4, i4, r4, f4, T4, F4⟩ := y4
  refine J_aload_n hC dX3_init_47 rfl rfl ?_
  refine J_bipush hC dX3_init_48 (v := 6) (by decide) ?_
  refine J_newI (10 + i) (N := 6) hC ac_int (by decide) (by decide) rfl rfl (by decide) (by decide) dX3_init_50 (k1 := 10) (n1 := 39) (fun ql hql zql => ?_)
  have hne : a ≠ ql := fun e => by rw [← e, t4] at hql; cases hql
  refine J_put4_5 hC lf_X3_32 (M := (nwM N4 ql (7, (10 + i)) 6)) (show (va_up (mT N4) ql _ a).1 = 4 by rw [va_up_ne _ _ hne, t4]) rfl rfl dX3_init_52 ?_
  refine J_vret hC (by decide) (by decide) dX3_init_55 ?_
  have g5 : mT (nwM N4 ql (7, 10 + i) 6) a = (4, i) := (va_up_ne _ _ hne).trans t4
  have F5 : Fr (fun t => t = (4, i)) N4 (pR (nwM N4 ql (7, 10 + i) 6) a 5 ql) := (Fr.nw hql).trans (Fr.pR g5)
  have eI : mI (pR (nwM N4 ql (7, 10 + i) 6) a 5 ql) a = mI N0 a := by
    have : mI (pR (nwM N4 ql (7, 10 + i) 6) a 5 ql) a = mI N4 a := by funext j; exact if_neg hne
    rw [this, i4, i3, i2]
  have eR : ∀ j, j ≠ 5 → mR (pR (nwM N4 ql (7, 10 + i) 6) a 5 ql) a j = mR N4 a j := fun j hj => (up2_k _ _ _ hj).trans (if_neg hne)
  have eq5 : mR (pR (nwM N4 ql (7, 10 + i) 6) a 5 ql) a 5 = ql := up2_same _ _ _ _
  have e2 : mR N4 a 2 = q2 := by rw [r4 _ (by decide), r3 _ (by decide), f2]
  have e3 : mR N4 a 3 = q3 := by rw [r4 _ (by decide), f3]
  have tq : ∀ (q c c2 : Nat) (Ma Mb : Mm), TlA Ma q c [] → Fr (fun t => t = ((4, i) : Nat × Nat) ∨ tlP c2 t) Ma Mb → c ≠ c2 → TlA Mb q c [] := fun q c c2 Ma Mb hT hF hc => (hT.fr hF (fun h => by
    rcases h with h | h
    · exact absurd (congrArg Prod.fst h) (show (3 : Nat) ≠ 4 by decide)
    · exact (nTl_t hc).1 h) (fun h => by
    rcases h with h | h
    · exact absurd (congrArg Prod.fst h) (show (7 : Nat) ≠ 4 by decide)
    · exact (nTl_t hc).2.1 h) (fun h => by
    rcases h with h | h
    · exact absurd (congrArg Prod.fst h) (show (7 : Nat) ≠ 4 by decide)
    · exact (nTl_t hc).2.2 h)).1
  have T2' := tq _ _ _ _ _ (tq _ _ _ _ _ T2 F3 (by omega)) F4 (by omega)
  have T3' := tq _ _ _ _ _ T3 F4 (by omega)
  refine ⟨rfl, g5, ?_, ?_, ?_, ?_, ?_, ?_, ?_, ?_, ?_⟩
  · rw [eI, eN0]; exact (up2_k _ _ _ (by decide)).trans (up2_same _ _ _ _)
  · rw [eI, eN0]; exact up2_same _ _ _ _
  · rw [eI, eN0]; exact (up2_k _ _ _ (by decide)).trans ((up2_k _ _ _ (by decide)).trans h6)
  · rw [eI, eN0]; exact (up2_k _ _ _ (by decide)).trans ((up2_k _ _ _ (by decide)).trans h7)
  · rw [eq5]; exact ⟨nw_T N4 ql (7, 10 + i) 6, nw_L N4 ql (7, 10 + i) 6, fun j => nw_I N4 ql (7, 10 + i) 6 j⟩
  · rw [eR _ (by decide), e2]; exact (T2'.fr F5 (nP_1 (by decide)) (nP_1 (by decide)) (nP_1 (by decide))).1
  · rw [eR _ (by decide), e3]; exact (T3'.fr F5 (nP_1 (by decide)) (nP_1 (by decide)) (nP_1 (by decide))).1
  · rw [eR _ (by decide), f4]; exact (T4.fr F5 (nP_1 (by decide)) (nP_1 (by decide)) (nP_1 (by decide))).1
  · have F0 : Fr (fun t => t = (4, i)) M N0 := by rw [eN0]; exact (Fr.pI ht).trans (Fr.pI (M := pI M a 0 (nI i)) ht)
    refine (F0.mono (fun t h => Or.inl h)).trans ((F2.mono (fun t h => ?_)).trans ((F3.mono (fun t h => ?_)).trans ((F4.mono (fun t h => ?_)).trans (F5.mono (fun t h => Or.inl h)))))
    · exact h.elim Or.inl (fun h => Or.inr (Or.inr (Or.inl h)))
    · exact h.elim Or.inl (fun h => Or.inr (Or.inr (Or.inr (Or.inl h))))
    · exact h.elim Or.inl (fun h => Or.inr (Or.inr (Or.inr (Or.inr h))))
theorem ct_X0_init {G : Gt} {l : Launch} (hst : l.stackTraces = false) {M : Mm} {a n9 : Nat} (ha : a ≠ 0) (ht : mT M a = (1, n9)) (s v b d : Int32) : Ct G l yX0_init cX0_init 6 none 2 M [rv a, .int (nI n9), .int s, .int v, .int b, .int d] 0 0 (fun r9 M9 => r9 = none ∧ mT M9 a = (1, n9) ∧ mI M9 a 0 = nI n9 ∧ mI M9 a 1 = s ∧ mI M9 a 2 = v ∧ mI M9 a 3 = b ∧ mI M9 a 4 = d ∧ mI M9 a 5 = 111 ∧ mI M9 a 6 = -1 ∧ Fr (fun t => t = (1, n9)) M M9) (noX) := by
  refine Ct_intro (own := RX0) (nm := "<init>") (by decide +kernel) rfl rfl hst (fun w hw => by simp only [List.mem_cons, List.not_mem_nil, or_false] at hw; rcases hw with rfl | rfl | rfl | rfl | rfl | rfl <;> first | rfl | exact rv_cat _) (Nat.le_of_ble_eq_true rfl) (fun γ hC => ?_)
  show J G γ M 0 [some (rv a), some (.int (nI n9)), some (.int s), some (.int v), some (.int b), some (.int d)] [] 0 0
  refine J_aload_n hC dX0_init_0 rfl rfl ?_
  refine J_objInit hC lo_X0_3 lo_inst lo_code ha (by decide) (by decide) dX0_init_1 ?_
  refine J_aload_n hC dX0_init_4 rfl rfl ?_
  refine J_iload_n hC dX0_init_5 rfl rfl ?_
  refine J_put1_0 hC lf_X0_9 (show (mT M a).1 = 1 by rw [ht]) rfl rfl dX0_init_6 ?_
  refine J_aload_n hC dX0_init_9 rfl rfl ?_
  refine J_iload_n hC dX0_init_10 rfl rfl ?_
  refine J_put1_1 hC lf_X0_15 (show (mT M a).1 = 1 by rw [ht]) rfl rfl dX0_init_11 ?_
  refine J_aload_n hC dX0_init_14 rfl rfl ?_
  refine J_iload_n hC dX0_init_15 rfl rfl ?_
  refine J_put1_2 hC lf_X0_18 (show (mT M a).1 = 1 by rw [ht]) rfl rfl dX0_init_16 ?_
  refine J_aload_n hC dX0_init_19 rfl rfl ?_
  refine J_iload hC dX0_init_20 rfl ?_
  refine J_put1_3 hC lf_X0_21 (show (mT M a).1 = 1 by rw [ht]) rfl rfl dX0_init_22 ?_
  refine J_aload_n hC dX0_init_25 rfl rfl ?_
  refine J_iload hC dX0_init_26 rfl ?_
  refine J_put1_4 hC lf_X0_24 (show (mT M a).1 = 1 by rw [ht]) rfl rfl dX0_init_28 ?_
  refine J_aload_n hC dX0_init_31 rfl rfl ?_
  refine J_bipush hC dX0_init_32 (v := 111) (by decide) ?_
  refine J_put1_5 hC lf_X0_27 (show (mT M a).1 = 1 by rw [ht]) (by decide) (by decide) dX0_init_34 ?_
  refine J_aload_n hC dX0_init_37 rfl rfl ?_
  refine J_iconst hC dX0_init_38 (v := -1) (by decide) ?_
  refine J_put1_6 hC lf_X0_31 (show (mT M a).1 = 1 by rw [ht]) dX0_init_39 ?_
  refine J_vret hC (by decide) (by decide) dX0_init_42 ?_
  refine ⟨rfl, ht, ?_, ?_, ?_, ?_, ?_, ?_, ?_, ?_⟩
  · exact (up2_k _ _ _ (by decide)).trans ((up2_k _ _ _ (by decide)).trans ((up2_k _ _ _ (by decide)).trans ((up2_k _ _ _ (by decide)).trans ((up2_k _ _ _ (by decide)).trans ((up2_k _ _ _ (by decide)).trans (up2_same _ _ _ _))))))
  · exact (up2_k _ _ _ (by decide)).trans ((up2_k _ _ _ (by decide)).trans ((up2_k _ _ _ (by decide)).trans ((up2_k _ _ _ (by decide)).trans ((up2_k _ _ _ (by decide)).trans (up2_same _ _ _ _)))))
  · exact (up2_k _ _ _ (by decide)).trans ((up2_k _ _ _ (by decide)).trans ((up2_k _ _ _ (by decide)).trans ((up2_k _ _ _ (by decide)).trans (up2_same _ _ _ _))))
  · exact (up2_k _ _ _ (by decide)).trans ((up2_k _ _ _ (by decide)).trans ((up2_k _ _ _ (by decide)).trans (up2_same _ _ _ _)))
  · exact (up2_k _ _ _ (by decide)).trans ((up2_k _ _ _ (by decide)).trans (up2_same _ _ _ _))
  · exact (up2_k _ _ _ (by decide)).trans (up2_same _ _ _ _)
  · exact up2_same _ _ _ _
  · exact (Fr.pI ht).trans ((Fr.pI (M := pI M a 0 _) ht).trans ((Fr.pI (M := pI (pI M a 0 _) a 1 _) ht).trans ((Fr.pI (M := pI (pI (pI M a 0 _) a 1 _) a 2 _) ht).trans ((Fr.pI (M := pI (pI (pI (pI M a 0 _) a 1 _) a 2 _) a 3 _) ht).trans ((Fr.pI (M := pI (pI (pI (pI (pI M a 0 _) a 1 _) a 2 _) a 3 _) a 4 _) ht).trans (Fr.pI (M := pI (pI (pI (pI (pI (pI M a 0 _) a 1 _) a 2 _) a 3 _) a 4 _) a 5 _) ht))))))
