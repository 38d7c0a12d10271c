/-! changes -/
def MtC (M : Mm) (x : Nat) (S1 : St) (v : Option Value) (r9 : Option Value) (M9 : Mm) : Prop := r9 = v ∧ CAt M9 x S1 ∧ Sm M M9 x ∧ Fr pC M M9
theorem okm {M M9 : Mm} {x : Nat} {S1 : St} {R : Res} {v : Value} (hM : CAt M9 x S1) (hF : Fr pC M M9) (h : R = (0, v, S1)) : OkC M x R (some v) M9 := by subst h; exact ⟨rfl, rfl, hM, hF⟩
theorem OkC.eq {M M9 : Mm} {x : Nat} {R : Res} {v w : Value} (h : v = w) (k : OkC M x R (some w) M9) : OkC M x R (some v) M9 := by subst h; exact k
theorem sub1 (n : Nat) : nI (n + 1) - 1 = nI n := by rw [← nI_1, nI_p1s1]
theorem ct_X4_addKeeper {G : Gt} {l : Launch} (hst : l.stackTraces = false) {M : Mm} {x : Nat} {S : St} {t : Nat} (hM : CAt M x S) (hI : Inv S t) (hlt : t < 512)  : Ct G l yX4_addKeeper cX4_addKeeper 1 (some .int) 7 M [rv x] 40 9000 (OkC M x (oAddKeeper S)) (ExC M x S (oAddKeeper S) [eIS]) := by
  obtain ⟨bK, bV, bP, bN⟩ := hM.b
  refine Ct_intro (own := RX4) (nm := "addKeeper") (by decide +kernel) rfl rfl hst (fun w hw => by simp only [List.mem_cons, List.not_mem_nil, or_false] at hw; rcases hw with rfl <;> first | rfl | exact rv_cat _) (Nat.le_of_ble_eq_true rfl) (fun γ hC => ?_)
  show J G γ M 0 [some (rv x)] [] 0 0
  refine J_aload_n hC dX4_addKeeper_0 rfl rfl ?_
  refine J_get5 hC lf_X4_37 (j := 6) hM.tx (v := .int (nI (sN S 0))) (congrArg (fun z => some (Value.int z)) hM.c6) dX4_addKeeper_1 ?_
  refine J_bipush hC dX4_addKeeper_4 (v := 12) (by decide) ?_
  refine J_icmp_lt hC dX4_addKeeper_6 (tgt := 19) (by decide) (fun c6 => ?_) (fun c6 => ?_)
  · have hk9 : ¬ sN S 0 = 12 := by have := lt_nI (b := 12) (by omega) (by omega) c6; omega
    refine J_aload_n hC dX4_addKeeper_19 rfl rfl ?_
    refine J_dup hC dX4_addKeeper_20 (rv_cat _) ?_
    refine J_get5 hC lf_X4_37 (j := 6) hM.tx (v := .int (nI (sN S 0))) (congrArg (fun z => some (Value.int z)) hM.c6) dX4_addKeeper_21 ?_
    refine J_iconst hC dX4_addKeeper_24 (v := 1) (by decide) ?_
    refine J_iadd hC dX4_addKeeper_25 ?_
    rw [nI_1]
    refine J_put5_6 hC lf_X4_37 hM.tx dX4_addKeeper_26 ?_
    obtain ⟨M2, eM2⟩ : ∃ z, z = (pI M x 6 (nI (sN S 0 + 1))) := ⟨_, rfl⟩
    rw [← eM2]
    obtain ⟨hM2, hs2, hF2⟩ : CAt M2 x (uN S 0 (sN S 0 + 1)) ∧ Sm M M2 x ∧ Fr pC M M2 := by rw [eM2]; exact hM.kp (by omega)
    refine J_aload_n hC dX4_addKeeper_29 rfl rfl ?_
    refine J_get5 hC lf_X4_37 (j := 6) hM2.tx (v := .int (nI (sN S 0 + 1))) (congrArg (fun z => some (Value.int z)) (hM2.c6.trans (by rw [sN_uN, va_up_self]))) dX4_addKeeper_30 ?_
    refine J_iconst hC dX4_addKeeper_33 (v := 1) (by decide) ?_
    refine J_isub hC dX4_addKeeper_34 ?_
    rw [(sub1 _)]
    refine J_iret hC (by decide) (by decide) dX4_addKeeper_35 ?_
    refine okm hM2 hF2 ?_
    simp [oAddKeeper, hk9]
  · have hk9 : sN S 0 = 12 := by have := nlt_nI (b := 12) (by omega) (by omega) c6; omega
    refine J_throw hC lt_41 (by decide +kernel : (RX4, 43, "there are 12 keepers") ∈ strT) (by decide) (by decide) (by decide) (by decide) dX4_addKeeper_9 dX4_addKeeper_12 dX4_addKeeper_13 dX4_addKeeper_15 dX4_addKeeper_18 ?_
    exact exc hM (k := 0) rfl (by simp [oAddKeeper, hk9])
theorem ct_X4_pass {G : Gt} {l : Launch} (hst : l.stackTraces = false) {M : Mm} {x : Nat} {S : St} {t : Nat} (hM : CAt M x S) (hI : Inv S t) (hlt : t < 512) (d : Int32) : Ct G l yX4_pass cX4_pass 2 (some .int) 7 M [rv x, .int d] 40 9000 (OkC M x (oPass S d)) (ExC M x S (oPass S d) [eIA]) := by
  obtain ⟨bK, bV, bP, bN⟩ := hM.b
  refine Ct_intro (own := RX4) (nm := "pass") (by decide +kernel) rfl rfl hst (fun w hw => by simp only [List.mem_cons, List.not_mem_nil, or_false] at hw; rcases hw with rfl | rfl <;> first | rfl | exact rv_cat _) (Nat.le_of_ble_eq_true rfl) (fun γ hC => ?_)
  show J G γ M 0 [some (rv x), some (.int d)] [] 0 0
  refine J_iload_n hC dX4_pass_0 rfl rfl ?_
  refine J_iconst hC dX4_pass_1 (v := 1) (by decide) ?_
  refine J_icmp_lt hC dX4_pass_2 (tgt := 23) (by decide) (fun c2 => ?_) (fun c2 => ?_)
  · refine J_throw hC lt_51 (by decide +kernel : (RX4, 53, "no such number of days can pass") ∈ strT) (by decide) (by decide) (by decide) (by decide) dX4_pass_23 dX4_pass_26 dX4_pass_27 dX4_pass_29 dX4_pass_32 ?_
    exact exc hM (k := 0) rfl (by unfold oPass; rw [if_pos (by first | exact Or.inl c2 | exact Or.inr (Or.inl c8) | exact Or.inr (Or.inr (i_nle2 c20)))])
  · refine J_iload_n hC dX4_pass_5 rfl rfl ?_
    refine J_bipush hC dX4_pass_6 (v := 99) (by decide) ?_
    refine J_icmp_gt hC dX4_pass_8 (tgt := 23) (by decide) (fun c8 => ?_) (fun c8 => ?_)
    · refine J_throw hC lt_51 (by decide +kernel : (RX4, 53, "no such number of days can pass") ∈ strT) (by decide) (by decide) (by decide) (by decide) dX4_pass_23 dX4_pass_26 dX4_pass_27 dX4_pass_29 dX4_pass_32 ?_
      exact exc hM (k := 0) rfl (by unfold oPass; rw [if_pos (by first | exact Or.inl c2 | exact Or.inr (Or.inl c8) | exact Or.inr (Or.inr (i_nle2 c20)))])
    · refine J_aload_n hC dX4_pass_11 rfl rfl ?_
      refine J_get5 hC lf_X4_48 (j := 10) hM.tx (v := .int (sD S)) (congrArg (fun z => some (Value.int z)) hM.c10) dX4_pass_12 ?_
      refine J_iload_n hC dX4_pass_15 rfl rfl ?_
      refine J_iadd hC dX4_pass_16 ?_
      refine J_sipush hC dX4_pass_17 (v := 3000) (by decide) ?_
      refine J_icmp_le hC dX4_pass_20 (tgt := 33) (by decide) (fun c20 => ?_) (fun c20 => ?_)
      · have hk9 : ¬ (d < 1 ∨ 99 < d ∨ 3000 < sD S + d) := fun h => by rcases h with h | h | h; exact c2 h; exact c8 h; exact i_nle h c20
        refine J_aload_n hC dX4_pass_33 rfl rfl ?_
        refine J_dup hC dX4_pass_34 (rv_cat _) ?_
        refine J_get5 hC lf_X4_48 (j := 10) hM.tx (v := .int (sD S)) (congrArg (fun z => some (Value.int z)) hM.c10) dX4_pass_35 ?_
        refine J_iload_n hC dX4_pass_38 rfl rfl ?_
        refine J_iadd hC dX4_pass_39 ?_
        refine J_put5_10 hC lf_X4_48 hM.tx dX4_pass_40 ?_
        obtain ⟨M2, eM2⟩ : ∃ z, z = (pI M x 10 ((sD S) + d)) := ⟨_, rfl⟩
        rw [← eM2]
        obtain ⟨hM2, hs2, hF2⟩ : CAt M2 x (uD S (sD S + d)) ∧ Sm M M2 x ∧ Fr pC M M2 := by rw [eM2]; exact hM.dy _
        refine J_aload_n hC dX4_pass_43 rfl rfl ?_
        refine J_get5 hC lf_X4_48 (j := 10) hM2.tx (v := .int (sD S + d)) (congrArg (fun z => some (Value.int z)) hM2.c10) dX4_pass_44 ?_
        refine J_iret hC (by decide) (by decide) dX4_pass_47 ?_
        refine okm hM2 hF2 ?_
        unfold oPass; rw [if_neg hk9]
      · refine J_throw hC lt_51 (by decide +kernel : (RX4, 53, "no such number of days can pass") ∈ strT) (by decide) (by decide) (by decide) (by decide) dX4_pass_23 dX4_pass_26 dX4_pass_27 dX4_pass_29 dX4_pass_32 ?_
        exact exc hM (k := 0) rfl (by unfold oPass; rw [if_pos (by first | exact Or.inl c2 | exact Or.inr (Or.inl c8) | exact Or.inr (Or.inr (i_nle2 c20)))])
theorem ct_X4_withdraw {G : Gt} {l : Launch} (hst : l.stackTraces = false) {M : Mm} {x : Nat} {S : St} {t : Nat} (hM : CAt M x S) (hI : Inv S t) (hlt : t < 512) (v : Int32) : Ct G l yX4_withdraw cX4_withdraw 3 (some .int) 7 M [rv x, .int v] 40 9000 (OkC M x (oWithdraw S v)) (ExC M x S (oWithdraw S v) [eNS, eIS]) := by
  obtain ⟨bK, bV, bP, bN⟩ := hM.b
  refine Ct_intro (own := RX4) (nm := "withdraw") (by decide +kernel) rfl rfl hst (fun w hw => by simp only [List.mem_cons, List.not_mem_nil, or_false] at hw; rcases hw with rfl | rfl <;> first | rfl | exact rv_cat _) (Nat.le_of_ble_eq_true rfl) (fun γ hC => ?_)
  show J G γ M 0 [some (rv x), some (.int v)] [] 0 0
  refine J_aload_n hC dX4_withdraw_0 rfl rfl ?_
  refine J_iload_n hC dX4_withdraw_1 rfl rfl ?_
  refine J_callV (k1 := 1) (n1 := 6) (kd := 5) [.int v] [.int v, rv x] hC lv_X4_161 (ct_X4_noticeAt hst hM v) hM.tx (by decide) ⟨_, mE_5 hM.tx⟩ rfl rfl rfl (by simp only [List.map_cons, List.map_nil, rv_cat, Value.category, List.sum_cons, List.sum_nil]; decide) (by decide) rfl rfl (by decide) (by decide) dX4_withdraw_2 (fun E M9 hx => by
        obtain ⟨rfl, rfl, nv⟩ := hx
        exact exc hM (k := 0) rfl (by simp [oWithdraw, nv])) (fun v9 M9 hq9 => ?_)
  obtain ⟨rfl, e9, hv⟩ := hq9
  rw [e9]; clear e9
  have xv := (isIx_ix hv).2
  obtain ⟨av, eav⟩ : ∃ z, z = mR M (mR M x 2) (ix v) := ⟨_, rfl⟩
  have wv : NtA M av (ix v) S := by rw [eav]; exact hM.o.1 _ xv
  show J G γ M _ _ (rv (mR M (mR M x 2) (ix v)) :: _) _ _
  rw [← eav]
  refine J_astore_n hC dX4_withdraw_5 rfl (by decide) (ls1 := [some (rv x), some (.int v), some (rv av)]) rfl ?_
  refine J_aload_n hC dX4_withdraw_6 rfl rfl ?_
  refine J_get1 hC lf_X4_165 (j := 5) wv.tg (v := .int (sO S (ix v) 5)) (congrArg (fun z => some (Value.int z)) wv.v5) dX4_withdraw_7 ?_
  refine J_bipush hC dX4_withdraw_10 (v := 111) (by decide) ?_
  refine J_icmp_eq hC dX4_withdraw_12 (tgt := 25) (by decide) (fun c12 => ?_) (fun c12 => ?_)
  · have q12 : sO S (ix v) 5 = 111 := c12
    refine J_aload_n hC dX4_withdraw_25 rfl rfl ?_
    refine J_bipush hC dX4_withdraw_26 (v := 119) (by decide) ?_
    refine J_put1_5 hC lf_X4_165 wv.tg (by decide) (by decide) dX4_withdraw_28 ?_
    obtain ⟨M2, eM2⟩ : ∃ z, z = (pI M av 5 119) := ⟨_, rfl⟩
    rw [← eM2]
    obtain ⟨hM2, hs2, hF2⟩ : CAt M2 x (uO S (ix v) 5 119) ∧ Sm M M2 x ∧ Fr pC M M2 := by rw [eM2]; rw [eav]; exact hM.oc xv (by decide) 119
    have eav2 : av = nA M2 x (ix v) := eav.trans (hs2.n _).symm
    have wav2 : NtA M2 av (ix v) (uO S (ix v) 5 119) := by rw [eav2]; exact hM2.o.1 _ xv
    refine J_aload_n hC dX4_withdraw_31 rfl rfl ?_
    refine J_callV (k1 := 1) (n1 := 6) (kd := 5) [] [rv x] hC lv_X4_170 (ct_X4_countOpen hst hM2) hM2.tx (by decide) ⟨_, mE_5 hM2.tx⟩ rfl rfl rfl (by simp only [List.map_cons, List.map_nil, rv_cat, Value.category, List.sum_cons, List.sum_nil]; decide) (by decide) rfl rfl (by decide) (by decide) dX4_withdraw_32 (fun E M9 h => h.elim) (fun v9 M9 hq9 => ?_)
    obtain ⟨rfl, e9⟩ := hq9
    rw [e9]; clear e9
    refine J_iret hC (by decide) (by decide) dX4_withdraw_35 ?_
    refine okm hM2 hF2 ?_
    simp [oWithdraw, hv, q12, sN_uO]
  · have q12 : ¬ sO S (ix v) 5 = 111 := c12
    refine J_throw hC lt_41 (by decide +kernel : (RX4, 168, "the notice is not open") ∈ strT) (by decide) (by decide) (by decide) (by decide) dX4_withdraw_15 dX4_withdraw_18 dX4_withdraw_19 dX4_withdraw_21 dX4_withdraw_24 ?_
    exact exc hM (k := 1) rfl (by simp [oWithdraw, q12, hv])
theorem ct_X4_addLien {G : Gt} {l : Launch} (hst : l.stackTraces = false) {M : Mm} {x : Nat} {S : St} {t : Nat} (hM : CAt M x S) (hI : Inv S t) (hlt : t < 512) (v c a : Int32) (hc : 0 ≤ c.toInt ∧ c.toInt < 65536) : Ct G l yX4_addLien cX4_addLien 5 (some .int) 7 M [rv x, .int v, .int c, .int a] 40 9000 (OkC M x (oAddLien S v c a)) (ExC M x S (oAddLien S v c a) [eIO, eIA, eIS]) := by
  obtain ⟨bK, bV, bP, bN⟩ := hM.b
  refine Ct_intro (own := RX4) (nm := "addLien") (by decide +kernel) rfl rfl hst (fun w hw => by simp only [List.mem_cons, List.not_mem_nil, or_false] at hw; rcases hw with rfl | rfl | rfl | rfl <;> first | rfl | exact rv_cat _) (Nat.le_of_ble_eq_true rfl) (fun γ hC => ?_)
  show J G γ M 0 [some (rv x), some (.int v), some (.int c), some (.int a)] [] 0 0
  refine J_aload_n hC dX4_addLien_0 rfl rfl ?_
  refine J_iload_n hC dX4_addLien_1 rfl rfl ?_
  refine J_callV (k1 := 1) (n1 := 6) (kd := 5) [.int v] [.int v, rv x] hC lv_X4_81 (ct_X4_vehicleAt hst hM v) hM.tx (by decide) ⟨_, mE_5 hM.tx⟩ rfl rfl rfl (by simp only [List.map_cons, List.map_nil, rv_cat, Value.category, List.sum_cons, List.sum_nil]; decide) (by decide) rfl rfl (by decide) (by decide) dX4_addLien_2 (fun E M9 hx => by
        obtain ⟨rfl, rfl, nv⟩ := hx
        exact exc hM (k := 0) rfl (by simp [oAddLien, nv])) (fun v9 M9 hq9 => ?_)
  obtain ⟨rfl, e9, hv⟩ := hq9
  rw [e9]; clear e9
  have xv := (isIx_ix hv).2
  obtain ⟨av, eav⟩ : ∃ z, z = mR M (mR M x 0) (ix v) := ⟨_, rfl⟩
  have wv : VeA M av (ix v) S := by rw [eav]; exact hM.v.1 _ xv
  show J G γ M _ _ (rv (mR M (mR M x 0) (ix v)) :: _) _ _
  rw [← eav]
  refine J_astore hC dX4_addLien_5 (by decide) (ls1 := [some (rv x), some (.int v), some (.int c), some (.int a), some (rv av)]) rfl ?_
  refine J_iload_n hC dX4_addLien_7 rfl rfl ?_
  refine J_callS (k1 := 1) (n1 := 6) [.int c] [.int c] hC ls_X4_202 (ct_X4_isLender hst c) rfl rfl (by simp only [List.map_cons, List.map_nil, rv_cat, Value.category, List.sum_cons, List.sum_nil]; decide) (by decide) rfl rfl (by decide) (by decide) dX4_addLien_8 (fun E M9 h => h.elim) (fun v9 M9 hq9 => ?_)
  obtain ⟨rfl, e9⟩ := hq9
  rw [e9]; clear e9
  refine J_if_eq hC dX4_addLien_11 (tgt := 26) (by decide) (fun c11 => ?_) (fun c11 => ?_)
  · have b11 : (lendOk c) = false := bz_eq0 c11
    refine J_throw hC lt_51 (by decide +kernel : (RX4, 206, "there is no such lender or amount") ∈ strT) (by decide) (by decide) (by decide) (by decide) dX4_addLien_26 dX4_addLien_29 dX4_addLien_30 dX4_addLien_32 dX4_addLien_35 ?_
    exact exc hM (k := 1) rfl (by unfold oAddLien; rw [if_neg (by rw [hv]; simp), if_pos (by first | exact Or.inl b11 | exact Or.inr (Or.inl c16) | exact Or.inr (Or.inr (i_nle2 c23)))])
  · have b11 : (lendOk c) = true := bz_ne0 c11
    refine J_iload_n hC dX4_addLien_14 rfl rfl ?_
    refine J_iconst hC dX4_addLien_15 (v := 1) (by decide) ?_
    refine J_icmp_lt hC dX4_addLien_16 (tgt := 26) (by decide) (fun c16 => ?_) (fun c16 => ?_)
    · refine J_throw hC lt_51 (by decide +kernel : (RX4, 206, "there is no such lender or amount") ∈ strT) (by decide) (by decide) (by decide) (by decide) dX4_addLien_26 dX4_addLien_29 dX4_addLien_30 dX4_addLien_32 dX4_addLien_35 ?_
      exact exc hM (k := 1) rfl (by unfold oAddLien; rw [if_neg (by rw [hv]; simp), if_pos (by first | exact Or.inl b11 | exact Or.inr (Or.inl c16) | exact Or.inr (Or.inr (i_nle2 c23)))])
    · refine J_iload_n hC dX4_addLien_19 rfl rfl ?_
      refine J_sipush hC dX4_addLien_20 (v := 9999) (by decide) ?_
      refine J_icmp_le hC dX4_addLien_23 (tgt := 36) (by decide) (fun c23 => ?_) (fun c23 => ?_)
      · have hk9 : ¬ (lendOk c = false ∨ a < 1 ∨ 9999 < a) := fun h => by rcases h with h | h | h; (rw [b11] at h; cases h); exact c16 h; exact i_nle h c23
        refine J_aload hC dX4_addLien_36 rfl ?_
        refine J_get4 hC lf_X4_94 (j := 7) wv.tg (v := .int (sV S (ix v) 7)) (congrArg (fun z => some (Value.int z)) wv.v7) dX4_addLien_38 ?_
        refine J_if_eq hC dX4_addLien_41 (tgt := 54) (by decide) (fun c41 => ?_) (fun c41 => ?_)
        · have s41 : ¬ sV S (ix v) 7 = 1 := fun e => by rw [c41] at e; exact absurd e (by decide)
          refine J_aload hC dX4_addLien_54 rfl ?_
          refine J_get4 hC lf_X4_208 (j := 5) wv.tg (v := rv (mR M av 5)) rfl dX4_addLien_56 ?_
          refine J_iload_n hC dX4_addLien_59 rfl rfl ?_
          refine J_bipush hC dX4_addLien_60 (v := 97) (by decide) ?_
          refine J_isub hC dX4_addLien_62 ?_
          refine J_iload_n hC dX4_addLien_63 rfl rfl ?_
          refine J_callS (k1 := 1) (n1 := 6) [rv (mR M av 5), .int (c - 97), .int a] [.int a, .int (c - 97), rv (mR M av 5)] hC ls_X4_211 (ct_X4_addTo hst wv.k5 wv.l5 (by decide) (c - 97) a) rfl rfl (by simp only [List.map_cons, List.map_nil, rv_cat, Value.category, List.sum_cons, List.sum_nil]; decide) (by decide) rfl rfl (by decide) (by decide) dX4_addLien_64 (fun E M9 h => h.elim) (fun v9 M2 hq9 => ?_)
          obtain ⟨rfl, eM2⟩ := hq9
          have hcx : isIx (c - 97) 6 = true := by rw [lend_cx hc]; exact b11
          rw [if_pos hcx, wv.ln _ (isIx_ix hcx).2] at eM2
          obtain ⟨hM2, hs2, hF2⟩ : CAt M2 x (uL S (ix v) (ix (c - 97)) (sL S (ix v) (ix (c - 97)) + a)) ∧ Sm M M2 x ∧ Fr pC M M2 := by rw [eM2, eav]; exact hM.ln xv (isIx_ix hcx).2 _
          have eav2 : av = vA M2 x (ix v) := eav.trans (hs2.v _).symm
          have wav2 : VeA M2 av (ix v) (uL S (ix v) (ix (c - 97)) (sL S (ix v) (ix (c - 97)) + a)) := by rw [eav2]; exact hM2.v.1 _ xv
          refine J_aload hC dX4_addLien_67 rfl ?_
          refine J_iload_n hC dX4_addLien_69 rfl rfl ?_
          refine J_callV (k1 := 1) (n1 := 6) (kd := 4) [.int c] [.int c, rv av] hC lv_X4_215 (ct_X3_lienLeft hst wav2 c hc) wav2.tg (by decide) ⟨_, mE_4 wav2.tg⟩ rfl rfl rfl (by simp only [List.map_cons, List.map_nil, rv_cat, Value.category, List.sum_cons, List.sum_nil]; decide) (by decide) rfl rfl (by decide) (by decide) dX4_addLien_70 (fun E M9 h => h.elim) (fun v9 M9 hq9 => ?_)
          obtain ⟨rfl, e9⟩ := hq9
          rw [e9]; clear e9
          rw [lienQ_y b11]
          show J G γ _ _ _ (.int (up2 (sL S) (ix v) (ix (c - 97)) _ (ix v) (ix (c - 97))) :: _) _ _
          rw [up2_same]
          refine J_iret hC (by decide) (by decide) dX4_addLien_73 ?_
          refine okm hM2 hF2 ?_
          unfold oAddLien; rw [if_neg (by rw [hv]; simp), if_neg hk9, if_neg s41]
        · have s41 : sV S (ix v) 7 = 1 := (hI.sc _ xv).resolve_left c41
          refine J_throw hC lt_41 (by decide +kernel : (RX4, 97, "the vehicle is scrapped") ∈ strT) (by decide) (by decide) (by decide) (by decide) dX4_addLien_44 dX4_addLien_47 dX4_addLien_48 dX4_addLien_50 dX4_addLien_53 ?_
          exact exc hM (k := 2) rfl (by unfold oAddLien; rw [if_neg (by rw [hv]; simp), if_neg hk9, if_pos s41])
      · refine J_throw hC lt_51 (by decide +kernel : (RX4, 206, "there is no such lender or amount") ∈ strT) (by decide) (by decide) (by decide) (by decide) dX4_addLien_26 dX4_addLien_29 dX4_addLien_30 dX4_addLien_32 dX4_addLien_35 ?_
        exact exc hM (k := 1) rfl (by unfold oAddLien; rw [if_neg (by rw [hv]; simp), if_pos (by first | exact Or.inl b11 | exact Or.inr (Or.inl c16) | exact Or.inr (Or.inr (i_nle2 c23)))])
theorem ct_X4_setOnRoad {G : Gt} {l : Launch} (hst : l.stackTraces = false) {M : Mm} {x : Nat} {S : St} {t : Nat} (hM : CAt M x S) (hI : Inv S t) (hlt : t < 512) (v b : Int32) (hb : b = 0 ∨ b = 1) : Ct G l yX4_setOnRoad cX4_setOnRoad 5 (some .boolean) 7 M [rv x, .int v, .int b] 40 9000 (OkC M x (oSetOnRoad S v b)) (ExC M x S (oSetOnRoad S v b) [eIO, eUO]) := by
  obtain ⟨bK, bV, bP, bN⟩ := hM.b
  refine Ct_intro (own := RX4) (nm := "setOnRoad") (by decide +kernel) rfl rfl hst (fun w hw => by simp only [List.mem_cons, List.not_mem_nil, or_false] at hw; rcases hw with rfl | rfl | rfl <;> first | rfl | exact rv_cat _) (Nat.le_of_ble_eq_true rfl) (fun γ hC => ?_)
  show J G γ M 0 [some (rv x), some (.int v), some (.int b)] [] 0 0
  refine J_aload_n hC dX4_setOnRoad_0 rfl rfl ?_
  refine J_iload_n hC dX4_setOnRoad_1 rfl rfl ?_
  refine J_callV (k1 := 1) (n1 := 6) (kd := 5) [.int v] [.int v, rv x] hC lv_X4_81 (ct_X4_vehicleAt hst hM v) hM.tx (by decide) ⟨_, mE_5 hM.tx⟩ rfl rfl rfl (by simp only [List.map_cons, List.map_nil, rv_cat, Value.category, List.sum_cons, List.sum_nil]; decide) (by decide) rfl rfl (by decide) (by decide) dX4_setOnRoad_2 (fun E M9 hx => by
        obtain ⟨rfl, rfl, nv⟩ := hx
        exact exc hM (k := 0) rfl (by simp [oSetOnRoad, nv])) (fun v9 M9 hq9 => ?_)
  obtain ⟨rfl, e9, hv⟩ := hq9
  rw [e9]; clear e9
  have xv := (isIx_ix hv).2
  obtain ⟨av, eav⟩ : ∃ z, z = mR M (mR M x 0) (ix v) := ⟨_, rfl⟩
  have wv : VeA M av (ix v) S := by rw [eav]; exact hM.v.1 _ xv
  show J G γ M _ _ (rv (mR M (mR M x 0) (ix v)) :: _) _ _
  rw [← eav]
  refine J_astore_n hC dX4_setOnRoad_5 rfl (by decide) (ls1 := [some (rv x), some (.int v), some (.int b), some (rv av)]) rfl ?_
  refine J_aload_n hC dX4_setOnRoad_6 rfl rfl ?_
  refine J_get4 hC lf_X4_94 (j := 7) wv.tg (v := .int (sV S (ix v) 7)) (congrArg (fun z => some (Value.int z)) wv.v7) dX4_setOnRoad_7 ?_
  refine J_if_ne hC dX4_setOnRoad_10 (tgt := 20) (by decide) (fun c10 => ?_) (fun c10 => ?_)
  · have s10 : sV S (ix v) 7 = 1 := (hI.sc _ xv).resolve_left c10
    refine J_throw hC lt_89 (by decide +kernel : (RX4, 113, "the vehicle is scrapped or has no plate") ∈ strT) (by decide) (by decide) (by decide) (by decide) dX4_setOnRoad_20 dX4_setOnRoad_23 dX4_setOnRoad_24 dX4_setOnRoad_26 dX4_setOnRoad_29 ?_
    exact exc hM (k := 1) rfl (by simp [oSetOnRoad, s10, hv])
  · have s10 : ¬ sV S (ix v) 7 = 1 := fun e => by rw [(nn c10)] at e; exact absurd e (by decide)
    refine J_aload_n hC dX4_setOnRoad_13 rfl rfl ?_
    refine J_callV (k1 := 1) (n1 := 6) (kd := 4) [] [rv av] hC lv_X4_109 (ct_X3_hasPlate hst wv) wv.tg (by decide) ⟨_, mE_4 wv.tg⟩ rfl rfl rfl (by simp only [List.map_cons, List.map_nil, rv_cat, Value.category, List.sum_cons, List.sum_nil]; decide) (by decide) rfl rfl (by decide) (by decide) dX4_setOnRoad_14 (fun E M9 h => h.elim) (fun v9 M9 hq9 => ?_)
    obtain ⟨rfl, e9⟩ := hq9
    rw [e9]; clear e9
    refine J_if_ne hC dX4_setOnRoad_17 (tgt := 30) (by decide) (fun c17 => ?_) (fun c17 => ?_)
    · have b17 : (lastV (sT S 1 (ix v)) ≠ -1) := of_decide_eq_true (bz_ne0 c17)
      refine J_aload_n hC dX4_setOnRoad_30 rfl rfl ?_
      refine J_callV (k1 := 1) (n1 := 6) (kd := 4) [] [rv av] hC lv_X4_115 (ct_X3_isOnRoadNow hst wv) wv.tg (by decide) ⟨_, mE_4 wv.tg⟩ rfl rfl rfl (by simp only [List.map_cons, List.map_nil, rv_cat, Value.category, List.sum_cons, List.sum_nil]; decide) (by decide) rfl rfl (by decide) (by decide) dX4_setOnRoad_31 (fun E M9 h => h.elim) (fun v9 M9 hq9 => ?_)
      obtain ⟨rfl, e9⟩ := hq9
      rw [e9]; clear e9
      refine J_istore hC dX4_setOnRoad_34 (by decide) (ls1 := [some (rv x), some (.int v), some (.int b), some (rv av), some (.int (bz (decide (lastV (sT S 2 (ix v)) = 1))))]) rfl ?_
      have hlv := (hI.tl _ xv).2
      refine J_aload_n hC dX4_setOnRoad_36 rfl rfl ?_
      refine J_get4 hC lf_X4_118 (j := 4) wv.tg (v := rv (mR M av 4)) rfl dX4_setOnRoad_37 ?_
      refine J_aload_n hC dX4_setOnRoad_40 rfl rfl ?_
      refine J_get5 hC lf_X4_48 (j := 10) hM.tx (v := .int (sD S)) (congrArg (fun z => some (Value.int z)) hM.c10) dX4_setOnRoad_41 ?_
      refine J_iload_n hC dX4_setOnRoad_44 rfl rfl ?_
      refine J_if_eq hC dX4_setOnRoad_45 (tgt := 52) (by decide) (fun c45 => ?_) (fun c45 => ?_)
      · have q45 : b = 0 := c45
        have hb0 : b = 0 := c45
        refine J_iconst hC dX4_setOnRoad_52 (v := 0) (by decide) ?_
        refine J_callV (k1 := 3) (n1 := 6 + (4 * (sT S 2 (ix v)).length)) (kd := 3) [.int (sD S), .int 0] [.int 0, .int (sD S), rv (mR M av 4)] hC lv_X4_121 (ct_X2_set hst wv.T4 (by have := (hI.tl _ xv).2; omega) (sD S) 0) wv.k4 (by decide) ⟨_, mE_3 wv.k4⟩ rfl rfl rfl (by simp only [List.map_cons, List.map_nil, rv_cat, Value.category, List.sum_cons, List.sum_nil]; decide) (by decide) rfl rfl (by decide) (by omega) dX4_setOnRoad_53 (fun E M9 h => h.elim) (fun v9 M9 hq9 => ?_)
        obtain ⟨rfl, hT9, hF9⟩ := hq9
        rw [eav] at hT9
        obtain ⟨M2, eM2⟩ : ∃ z, z = M9 := ⟨_, rfl⟩
        rw [← eM2] at hT9 hF9 ⊢
        obtain ⟨hM2, hs2, hF2⟩ : CAt M2 x (uT S 2 (ix v) (setT (sT S 2 (ix v)) (sD S) 0)) ∧ Sm M M2 x ∧ Fr pC M M2 := hM.tv xv (r := 2) (by decide) hF9 hT9
        have eav2 : av = vA M2 x (ix v) := eav.trans (hs2.v _).symm
        have wav2 : VeA M2 av (ix v) (uT S 2 (ix v) (setT (sT S 2 (ix v)) (sD S) 0)) := by rw [eav2]; exact hM2.v.1 _ xv
        refine J_iload hC dX4_setOnRoad_56 rfl ?_
        refine J_zret hC (by decide) (by omega) (bz_nar _) dX4_setOnRoad_58 ?_
        refine okm hM2 ((Fr.rf _ _).trans hF2) ?_
        simp [oSetOnRoad, hv, s10, b17, q45, hb0]
      · have q45 : ¬ b = 0 := c45
        have hb1 : b = 1 := hb.resolve_left c45
        refine J_iconst hC dX4_setOnRoad_48 (v := 1) (by decide) ?_
        refine J_goto hC dX4_setOnRoad_49 (tgt := 53) (by decide) ?_
        refine J_callV (k1 := 3) (n1 := 6 + (4 * (sT S 2 (ix v)).length)) (kd := 3) [.int (sD S), .int 1] [.int 1, .int (sD S), rv (mR M av 4)] hC lv_X4_121 (ct_X2_set hst wv.T4 (by have := (hI.tl _ xv).2; omega) (sD S) 1) wv.k4 (by decide) ⟨_, mE_3 wv.k4⟩ rfl rfl rfl (by simp only [List.map_cons, List.map_nil, rv_cat, Value.category, List.sum_cons, List.sum_nil]; decide) (by decide) rfl rfl (by decide) (by omega) dX4_setOnRoad_53 (fun E M9 h => h.elim) (fun v9 M9 hq9 => ?_)
        obtain ⟨rfl, hT9, hF9⟩ := hq9
        rw [eav] at hT9
        obtain ⟨M3, eM3⟩ : ∃ z, z = M9 := ⟨_, rfl⟩
        rw [← eM3] at hT9 hF9 ⊢
        obtain ⟨hM3, hs3, hF3⟩ : CAt M3 x (uT S 2 (ix v) (setT (sT S 2 (ix v)) (sD S) 1)) ∧ Sm M M3 x ∧ Fr pC M M3 := hM.tv xv (r := 2) (by decide) hF9 hT9
        have eav3 : av = vA M3 x (ix v) := eav.trans (hs3.v _).symm
        have wav3 : VeA M3 av (ix v) (uT S 2 (ix v) (setT (sT S 2 (ix v)) (sD S) 1)) := by rw [eav3]; exact hM3.v.1 _ xv
        refine J_iload hC dX4_setOnRoad_56 rfl ?_
        refine J_zret hC (by decide) (by omega) (bz_nar _) dX4_setOnRoad_58 ?_
        refine okm hM3 ((Fr.rf _ _).trans hF3) ?_
        simp [oSetOnRoad, hv, s10, b17, q45, hb1]
    · have b17 : ¬ (lastV (sT S 1 (ix v)) ≠ -1) := of_decide_eq_false (bz_eq0 (nn c17))
      refine J_throw hC lt_89 (by decide +kernel : (RX4, 113, "the vehicle is scrapped or has no plate") ∈ strT) (by decide) (by decide) (by decide) (by decide) dX4_setOnRoad_20 dX4_setOnRoad_23 dX4_setOnRoad_24 dX4_setOnRoad_26 dX4_setOnRoad_29 ?_
      exact exc hM (k := 1) rfl (by simp [oSetOnRoad, s10, b17, hv])
