/-! what is owed: the calls -/
theorem exm {M M2 : Mm} {x : Nat} {S : St} {R : Res} {es : List String} {E : String} {k : Nat} (hM : CAt M2 x S) (hF : Fr pC M M2) (he : es[k]? = some E) (h : R = no (k + 1) S) : ExC M x S R es E M2 := ⟨k, he, h, hM, hF⟩
theorem ct_X4_owes {G : Gt} {l : Launch} (hst : l.stackTraces = false) {M : Mm} {x : Nat} {S : St} {t : Nat} (hM : CAt M x S) (hI : Inv S t) (v : Int32) : Ct G l yX4_owes cX4_owes 2 (some .int) 8 M [rv x, .int v] 40 9000 (OkC M x (oOwes S v)) (ExC M x S (oOwes S v) [eIO]) := by
  obtain ⟨bK, bV, bP, bN⟩ := hM.b
  refine Ct_intro (own := RX4) (nm := "owes") (by decide +kernel) rfl rfl hst (fun w hw => by simp only [List.mem_cons, List.not_mem_nil, or_false] at hw; rcases hw with rfl | rfl <;> first | rfl | exact rv_cat _) (Nat.le_of_ble_eq_true rfl) (fun γ hC => ?_)
  show J G γ M 0 [some (rv x), some (.int v)] [] 0 0
  refine J_aload_n hC dX4_owes_0 rfl rfl ?_
  refine J_iload_n hC dX4_owes_1 rfl rfl ?_
  refine J_callV (k1 := 1) (n1 := 6) (kd := 5) [.int v] [.int v, rv x] hC lv_X4_56 (ct_X4_requireKeeper hst hM v) hM.tx (by decide) ⟨_, mE_5 hM.tx⟩ rfl rfl rfl (by simp only [List.map_cons, List.map_nil, rv_cat, Value.category, List.sum_cons, List.sum_nil]; decide) (by decide) rfl rfl (by decide) (by decide) dX4_owes_2 (fun E M9 hx => by
        obtain ⟨rfl, rfl, nv⟩ := hx
        exact exc hM (k := 0) rfl (by simp [oOwes, nv])) (fun v9 M9 hq9 => ?_)
  obtain ⟨rfl, e9, hv⟩ := hq9
  rw [e9]; clear e9
  have xv := (isIx_ix hv).2
  refine J_aload_n hC dX4_owes_5 rfl rfl ?_
  refine J_callV (k1 := 1) (n1 := 6) (kd := 5) [] [rv x] hC lv_X4_292 (ct_X4_sumByQuarters hst hM hI) hM.tx (by decide) ⟨_, mE_5 hM.tx⟩ rfl rfl rfl (by simp only [List.map_cons, List.map_nil, rv_cat, Value.category, List.sum_cons, List.sum_nil]; decide) (by decide) rfl rfl (by decide) (by decide) dX4_owes_6 (fun E M9 h => h.elim) (fun v9 M2 hq9 => ?_)
  obtain ⟨rfl, hM2, hs2, hF2, hr2⟩ := hq9
  refine J_aload_n hC dX4_owes_9 rfl rfl ?_
  refine J_get5 hC lf_X4_31 (j := 4) hM2.tx (v := rv (mR M2 x 4)) rfl dX4_owes_10 ?_
  refine J_iload_n hC dX4_owes_13 rfl rfl ?_
  refine J_callS (k1 := 1) (n1 := 6) [rv (mR M2 x 4), .int v] [.int v, rv (mR M2 x 4)] hC ls_X4_295 (ct_X4_entry hst hM2.tk4 hM2.lk4 (by decide) v) rfl rfl (by simp only [List.map_cons, List.map_nil, rv_cat, Value.category, List.sum_cons, List.sum_nil]; decide) (by decide) rfl rfl (by decide) (by decide) dX4_owes_14 (fun E M9 h => h.elim) (fun v9 M9 hq9 => ?_)
  obtain ⟨rfl, e9⟩ := hq9
  rw [e9]; clear e9
  have hv12 : isIx v 12 = true := ix_lt hv (by omega)
  rw [ent_ix hv12, hs2.1, hr2 _ (isIx_ix hv12).2]
  refine J_iret hC (by decide) (by decide) dX4_owes_17 ?_
  refine okm hM2 (rwT_pC (Or.inl rfl) hF2) ?_
  simp [oOwes, hv]
theorem ct_X4_owesByDays {G : Gt} {l : Launch} (hst : l.stackTraces = false) {M : Mm} {x : Nat} {S : St} {t : Nat} (hM : CAt M x S) (hI : Inv S t) (v : Int32) : Ct G l yX4_owesByDays cX4_owesByDays 2 (some .int) 8 M [rv x, .int v] 40 9000 (OkC M x (oOwes S v)) (ExC M x S (oOwes S v) [eIO]) := by
  obtain ⟨bK, bV, bP, bN⟩ := hM.b
  refine Ct_intro (own := RX4) (nm := "owesByDays") (by decide +kernel) rfl rfl hst (fun w hw => by simp only [List.mem_cons, List.not_mem_nil, or_false] at hw; rcases hw with rfl | rfl <;> first | rfl | exact rv_cat _) (Nat.le_of_ble_eq_true rfl) (fun γ hC => ?_)
  show J G γ M 0 [some (rv x), some (.int v)] [] 0 0
  refine J_aload_n hC dX4_owesByDays_0 rfl rfl ?_
  refine J_iload_n hC dX4_owesByDays_1 rfl rfl ?_
  refine J_callV (k1 := 1) (n1 := 6) (kd := 5) [.int v] [.int v, rv x] hC lv_X4_56 (ct_X4_requireKeeper hst hM v) hM.tx (by decide) ⟨_, mE_5 hM.tx⟩ rfl rfl rfl (by simp only [List.map_cons, List.map_nil, rv_cat, Value.category, List.sum_cons, List.sum_nil]; decide) (by decide) rfl rfl (by decide) (by decide) dX4_owesByDays_2 (fun E M9 hx => by
        obtain ⟨rfl, rfl, nv⟩ := hx
        exact exc hM (k := 0) rfl (by simp [oOwes, nv])) (fun v9 M9 hq9 => ?_)
  obtain ⟨rfl, e9, hv⟩ := hq9
  rw [e9]; clear e9
  have xv := (isIx_ix hv).2
  refine J_aload_n hC dX4_owesByDays_5 rfl rfl ?_
  refine J_callV (k1 := 1) (n1 := 6) (kd := 5) [] [rv x] hC lv_X4_299 (ct_X4_sumByDays hst hM hI) hM.tx (by decide) ⟨_, mE_5 hM.tx⟩ rfl rfl rfl (by simp only [List.map_cons, List.map_nil, rv_cat, Value.category, List.sum_cons, List.sum_nil]; decide) (by decide) rfl rfl (by decide) (by decide) dX4_owesByDays_6 (fun E M9 h => h.elim) (fun v9 M2 hq9 => ?_)
  obtain ⟨rfl, hM2, hs2, hF2, hr2⟩ := hq9
  refine J_aload_n hC dX4_owesByDays_9 rfl rfl ?_
  refine J_get5 hC lf_X4_34 (j := 5) hM2.tx (v := rv (mR M2 x 5)) rfl dX4_owesByDays_10 ?_
  refine J_iload_n hC dX4_owesByDays_13 rfl rfl ?_
  refine J_callS (k1 := 1) (n1 := 6) [rv (mR M2 x 5), .int v] [.int v, rv (mR M2 x 5)] hC ls_X4_295 (ct_X4_entry hst hM2.tk5 hM2.lk5 (by decide) v) rfl rfl (by simp only [List.map_cons, List.map_nil, rv_cat, Value.category, List.sum_cons, List.sum_nil]; decide) (by decide) rfl rfl (by decide) (by decide) dX4_owesByDays_14 (fun E M9 h => h.elim) (fun v9 M9 hq9 => ?_)
  obtain ⟨rfl, e9⟩ := hq9
  rw [e9]; clear e9
  have hv12 : isIx v 12 = true := ix_lt hv (by omega)
  rw [ent_ix hv12, hs2.1, hr2 _ (isIx_ix hv12).2]
  refine J_iret hC (by decide) (by decide) dX4_owesByDays_17 ?_
  refine okm hM2 (rwT_pC (Or.inr rfl) hF2) ?_
  simp [oOwes, hv]
theorem ct_X4_pay {G : Gt} {l : Launch} (hst : l.stackTraces = false) {M : Mm} {x : Nat} {S : St} {t : Nat} (hM : CAt M x S) (hI : Inv S t) (v a : Int32) : Ct G l yX4_pay cX4_pay 3 (some .int) 8 M [rv x, .int v, .int a] 40 9000 (OkC M x (oPay S v a)) (ExC M x S (oPay S v a) [eIO, eIA]) := by
  obtain ⟨bK, bV, bP, bN⟩ := hM.b
  refine Ct_intro (own := RX4) (nm := "pay") (by decide +kernel) rfl rfl hst (fun w hw => by simp only [List.mem_cons, List.not_mem_nil, or_false] at hw; rcases hw with rfl | rfl | rfl <;> first | rfl | exact rv_cat _) (Nat.le_of_ble_eq_true rfl) (fun γ hC => ?_)
  show J G γ M 0 [some (rv x), some (.int v), some (.int a)] [] 0 0
  refine J_aload_n hC dX4_pay_0 rfl rfl ?_
  refine J_iload_n hC dX4_pay_1 rfl rfl ?_
  refine J_callV (k1 := 1) (n1 := 6) (kd := 5) [.int v] [.int v, rv x] hC lv_X4_56 (ct_X4_requireKeeper hst hM v) hM.tx (by decide) ⟨_, mE_5 hM.tx⟩ rfl rfl rfl (by simp only [List.map_cons, List.map_nil, rv_cat, Value.category, List.sum_cons, List.sum_nil]; decide) (by decide) rfl rfl (by decide) (by decide) dX4_pay_2 (fun E M9 hx => by
        obtain ⟨rfl, rfl, nv⟩ := hx
        exact exc hM (k := 0) rfl (by simp [oPay, nv])) (fun v9 M9 hq9 => ?_)
  obtain ⟨rfl, e9, hv⟩ := hq9
  rw [e9]; clear e9
  have xv := (isIx_ix hv).2
  refine J_iload_n hC dX4_pay_5 rfl rfl ?_
  refine J_iconst hC dX4_pay_6 (v := 1) (by decide) ?_
  refine J_icmp_lt hC dX4_pay_7 (tgt := 17) (by decide) (fun c7 => ?_) (fun c7 => ?_)
  · refine J_throw hC lt_51 (by decide +kernel : (RX4, 223, "the amount is out of range") ∈ strT) (by decide) (by decide) (by decide) (by decide) dX4_pay_17 dX4_pay_20 dX4_pay_21 dX4_pay_23 dX4_pay_26 ?_
    exact exc hM (k := 1) rfl (by unfold oPay; rw [if_neg (by rw [hv]; simp), if_pos (by first | exact Or.inl c7 | exact Or.inr (i_nle2 c14))])
  · refine J_iload_n hC dX4_pay_10 rfl rfl ?_
    refine J_sipush hC dX4_pay_11 (v := 9999) (by decide) ?_
    refine J_icmp_le hC dX4_pay_14 (tgt := 27) (by decide) (fun c14 => ?_) (fun c14 => ?_)
    · have hk9 : ¬ (a < 1 ∨ 9999 < a) := fun h => by rcases h with h | h; exact c7 h; exact i_nle h c14
      refine J_aload_n hC dX4_pay_27 rfl rfl ?_
      refine J_get5 hC lf_X4_27 (j := 3) hM.tx (v := rv (mR M x 3)) rfl dX4_pay_28 ?_
      refine J_iload_n hC dX4_pay_31 rfl rfl ?_
      refine J_iload_n hC dX4_pay_32 rfl rfl ?_
      refine J_callS (k1 := 1) (n1 := 6) [rv (mR M x 3), .int v, .int a] [.int a, .int v, rv (mR M x 3)] hC ls_X4_211 (ct_X4_addTo hst hM.tk3 hM.lk3 (by decide) v a) rfl rfl (by simp only [List.map_cons, List.map_nil, rv_cat, Value.category, List.sum_cons, List.sum_nil]; decide) (by decide) rfl rfl (by decide) (by decide) dX4_pay_33 (fun E M9 h => h.elim) (fun v9 M2 hq9 => ?_)
      obtain ⟨rfl, eM2⟩ := hq9
      have hv12 : isIx v 12 = true := ix_lt hv (by omega)
      rw [if_pos hv12, hM.pd _ (isIx_ix hv12).2] at eM2
      obtain ⟨hM2, hs2, hF2⟩ : CAt M2 x (uP S (ix v) (sP S (ix v) + a)) ∧ Sm M M2 x ∧ Fr pC M M2 := by rw [eM2]; exact hM.pay (isIx_ix hv12).2 _
      refine J_aload_n hC dX4_pay_36 rfl rfl ?_
      refine J_dup hC dX4_pay_37 (rv_cat _) ?_
      refine J_get5 hC lf_X4_302 (j := 11) hM2.tx (v := .long (sC S)) (congrArg (fun z => some (Value.long z)) (hM2.c11)) dX4_pay_38 ?_
      refine J_iload_n hC dX4_pay_41 rfl rfl ?_
      refine J_i2l hC dX4_pay_42 ?_
      refine J_ladd hC dX4_pay_43 ?_
      refine J_put5_11 hC lf_X4_302 hM2.tx dX4_pay_44 ?_
      obtain ⟨M3, eM3⟩ : ∃ z, z = (pJ M2 x 11 ((sC S) + a.toInt64)) := ⟨_, rfl⟩
      rw [← eM3]
      obtain ⟨hM3, hs3, hF3⟩ : CAt M3 x (uC (uP S (ix v) (sP S (ix v) + a)) (sC S + a.toInt64)) ∧ Sm M2 M3 x ∧ Fr pC M2 M3 := by rw [eM3]; exact hM2.cl _
      have hI3 : Inv (uC (uP S (ix v) (sP S (ix v) + a)) (sC S + a.toInt64)) t := hI.same rfl rfl rfl rfl rfl rfl rfl
      refine J_aload_n hC dX4_pay_47 rfl rfl ?_
      refine J_callV (k1 := 1) (n1 := 6) (kd := 5) [] [rv x] hC lv_X4_292 (ct_X4_sumByQuarters hst hM3 hI3) hM3.tx (by decide) ⟨_, mE_5 hM3.tx⟩ rfl rfl rfl (by simp only [List.map_cons, List.map_nil, rv_cat, Value.category, List.sum_cons, List.sum_nil]; decide) (by decide) rfl rfl (by decide) (by decide) dX4_pay_48 (fun E M9 h => h.elim) (fun v9 M4 hq9 => ?_)
      obtain ⟨rfl, hM4, hs4, hF4, hr4⟩ := hq9
      refine J_aload_n hC dX4_pay_51 rfl rfl ?_
      refine J_get5 hC lf_X4_31 (j := 4) hM4.tx (v := rv (mR M4 x 4)) rfl dX4_pay_52 ?_
      refine J_iload_n hC dX4_pay_55 rfl rfl ?_
      refine J_callS (k1 := 1) (n1 := 6) [rv (mR M4 x 4), .int v] [.int v, rv (mR M4 x 4)] hC ls_X4_295 (ct_X4_entry hst hM4.tk4 hM4.lk4 (by decide) v) rfl rfl (by simp only [List.map_cons, List.map_nil, rv_cat, Value.category, List.sum_cons, List.sum_nil]; decide) (by decide) rfl rfl (by decide) (by decide) dX4_pay_56 (fun E M9 h => h.elim) (fun v9 M9 hq9 => ?_)
      obtain ⟨rfl, e9⟩ := hq9
      rw [e9]; clear e9
      rw [ent_ix hv12, hs4.1, hr4 _ (isIx_ix hv12).2]
      refine J_iret hC (by decide) (by decide) dX4_pay_59 ?_
      refine okm hM4 (hF2.trans (hF3.trans (rwT_pC (Or.inl rfl) hF4))) ?_
      unfold oPay; rw [if_neg (by rw [hv]; simp), if_neg hk9]
    · refine J_throw hC lt_51 (by decide +kernel : (RX4, 223, "the amount is out of range") ∈ strT) (by decide) (by decide) (by decide) (by decide) dX4_pay_17 dX4_pay_20 dX4_pay_21 dX4_pay_23 dX4_pay_26 ?_
      exact exc hM (k := 1) rfl (by unfold oPay; rw [if_neg (by rw [hv]; simp), if_pos (by first | exact Or.inl c7 | exact Or.inr (i_nle2 c14))])
theorem ct_X4_mostOwing {G : Gt} {l : Launch} (hst : l.stackTraces = false) {M : Mm} {x : Nat} {S : St} {t : Nat} (hM : CAt M x S) (hI : Inv S t)  : Ct G l yX4_mostOwing cX4_mostOwing 4 (some .int) 8 M [rv x] 40 9000 (OkC M x (oMost S)) (ExC M x S (oMost S) [eNS]) := by
  obtain ⟨bK, bV, bP, bN⟩ := hM.b
  refine Ct_intro (own := RX4) (nm := "mostOwing") (by decide +kernel) rfl rfl hst (fun w hw => by simp only [List.mem_cons, List.not_mem_nil, or_false] at hw; rcases hw with rfl <;> first | rfl | exact rv_cat _) (Nat.le_of_ble_eq_true rfl) (fun γ hC => ?_)
  show J G γ M 0 [some (rv x)] [] 0 0
  refine J_aload_n hC dX4_mostOwing_0 rfl rfl ?_
  refine J_callV (k1 := 0) (n1 := 0) (kd := 5) [] [rv x] hC lv_X4_292 (ct_X4_sumByQuarters hst hM hI) hM.tx (by decide) ⟨_, mE_5 hM.tx⟩ rfl rfl rfl (by simp only [List.map_cons, List.map_nil, rv_cat, Value.category, List.sum_cons, List.sum_nil]; decide) (by decide) rfl rfl (by decide) (by decide) dX4_mostOwing_1 (fun E M9 h => h.elim) (fun v9 M2 hq9 => ?_)
  obtain ⟨rfl, hM2, hs2, hF2, hr2⟩ := hq9
  refine J_iconst hC dX4_mostOwing_4 (v := -1) (by decide) ?_
  refine J_istore_n hC dX4_mostOwing_5 rfl (by decide) (ls1 := [some (rv x), some (.int (-1))]) rfl ?_
  refine J_iconst hC dX4_mostOwing_6 (v := 0) (by decide) ?_
  refine J_istore_n hC dX4_mostOwing_7 rfl (by decide) (ls1 := [some (rv x), some (.int (-1)), some (.int 0)]) rfl ?_
  refine J_iconst hC dX4_mostOwing_8 (v := 0) (by decide) ?_
  refine J_istore_n hC dX4_mostOwing_9 rfl (by decide) (ls1 := [some (rv x), some (.int (-1)), some (.int 0), some (.int 0)]) rfl ?_
  have L10 : ∀ (n9 : Nat) (j : Nat) (mo am : Int32), sN S 0 - j < n9 → (j ≤ sN S 0) → ((mo, am) = most (owe S) j) → J G γ M2 10 [some (rv x), some (.int mo), some (.int am), some (.int (nI j))] [] 0 0 := by
    intro n9
    induction n9 with
    | zero => intro j mo am h9; exact absurd h9 (Nat.not_lt_zero _)
    | succ n9 ih =>
      intro j mo am h9 hjN hi
      refine J_iload_n hC dX4_mostOwing_10 rfl rfl ?_
      refine J_aload_n hC dX4_mostOwing_11 rfl rfl ?_
      refine J_get5 hC lf_X4_37 (j := 6) hM2.tx (v := .int (nI (sN S 0))) (congrArg (fun z => some (Value.int z)) hM2.c6) dX4_mostOwing_12 ?_
      refine J_icmp_ge hC dX4_mostOwing_15 (tgt := 47) (by decide) (fun c15 => ?_) (fun c15 => ?_)
      · have hj9 : j = sN S 0 := by have := le_nI (by omega) (by omega) c15; omega
        subst hj9
        refine J_iload_n hC dX4_mostOwing_47 rfl rfl ?_
        refine J_callS (k1 := 1) (n1 := 6) [.int mo] [.int mo] hC ls_X4_185 (ct_X4_found hst mo) rfl rfl (by simp only [List.map_cons, List.map_nil, rv_cat, Value.category, List.sum_cons, List.sum_nil]; decide) (by decide) rfl rfl (by decide) (by decide) dX4_mostOwing_48 (fun E M9 hx => by
              obtain ⟨rfl, rfl, hnf⟩ := hx
              exact exm hM2 (rwT_pC (Or.inl rfl) hF2) (k := 0) rfl (by unfold oMost; rw [← hi]; rw [if_pos hnf])) (fun v9 M9 hq9 => ?_)
        obtain ⟨rfl, e9, hfd⟩ := hq9
        rw [e9]; clear e9
        refine J_iret hC (by decide) (by decide) dX4_mostOwing_51 ?_
        refine okm hM2 (rwT_pC (Or.inl rfl) hF2) ?_
        unfold oMost; rw [← hi, if_neg hfd]
      · have hlt := ge_nI (by omega) (by omega) c15
        refine J_aload_n hC dX4_mostOwing_18 rfl rfl ?_
        refine J_get5 hC lf_X4_31 (j := 4) hM2.tx (v := rv (mR M2 x 4)) rfl dX4_mostOwing_19 ?_
        refine J_iload_n hC dX4_mostOwing_22 rfl rfl ?_
        refine J_callS (k1 := 0) (n1 := 0) [rv (mR M2 x 4), .int (nI j)] [.int (nI j), rv (mR M2 x 4)] hC ls_X4_295 (ct_X4_entry hst hM2.tk4 hM2.lk4 (by decide) (nI j)) rfl rfl (by simp only [List.map_cons, List.map_nil, rv_cat, Value.category, List.sum_cons, List.sum_nil]; decide) (by decide) rfl rfl (by decide) (by decide) dX4_mostOwing_23 (fun E M9 h => h.elim) (fun v9 M9 hq9 => ?_)
        obtain ⟨rfl, e9⟩ := hq9
        rw [e9]; clear e9
        rw [ent_in (by omega), hs2.1, hr2 _ (by omega)]
        refine J_iload_n hC dX4_mostOwing_26 rfl rfl ?_
        refine J_icmp_le hC dX4_mostOwing_27 (tgt := 41) (by decide) (fun c27 => ?_) (fun c27 => ?_)
        · refine J_iinc hC dX4_mostOwing_41 (by decide) rfl (v := nI (j + 1)) (nI_1 _) (ls1 := [some (rv x), some (.int mo), some (.int am), some (.int (nI (j + 1)))]) rfl ?_
          refine J_goto hC dX4_mostOwing_44 (tgt := 10) (by decide) ?_
          exact ih (j + 1) _ _ (by omega) (by omega) (by rw [most_s, ← hi, if_neg (i_nlt2 c27)])
        · refine J_iload_n hC dX4_mostOwing_30 rfl rfl ?_
          refine J_istore_n hC dX4_mostOwing_31 rfl (by decide) (ls1 := [some (rv x), some (.int (nI j)), some (.int am), some (.int (nI j))]) rfl ?_
          refine J_aload_n hC dX4_mostOwing_32 rfl rfl ?_
          refine J_get5 hC lf_X4_31 (j := 4) hM2.tx (v := rv (mR M2 x 4)) rfl dX4_mostOwing_33 ?_
          refine J_iload_n hC dX4_mostOwing_36 rfl rfl ?_
          refine J_callS (k1 := 0) (n1 := 0) [rv (mR M2 x 4), .int (nI j)] [.int (nI j), rv (mR M2 x 4)] hC ls_X4_295 (ct_X4_entry hst hM2.tk4 hM2.lk4 (by decide) (nI j)) rfl rfl (by simp only [List.map_cons, List.map_nil, rv_cat, Value.category, List.sum_cons, List.sum_nil]; decide) (by decide) rfl rfl (by decide) (by decide) dX4_mostOwing_37 (fun E M9 h => h.elim) (fun v9 M9 hq9 => ?_)
          obtain ⟨rfl, e9⟩ := hq9
          rw [e9]; clear e9
          rw [ent_in (by omega), hs2.1, hr2 _ (by omega)]
          refine J_istore_n hC dX4_mostOwing_40 rfl (by decide) (ls1 := [some (rv x), some (.int (nI j)), some (.int (owe S j)), some (.int (nI j))]) rfl ?_
          refine J_iinc hC dX4_mostOwing_41 (by decide) rfl (v := nI (j + 1)) (nI_1 _) (ls1 := [some (rv x), some (.int (nI j)), some (.int (owe S j)), some (.int (nI (j + 1)))]) rfl ?_
          refine J_goto hC dX4_mostOwing_44 (tgt := 10) (by decide) ?_
          exact ih (j + 1) _ _ (by omega) (by omega) (by rw [most_s, ← hi, if_pos (i_nle2 c27)])
  exact L10 (sN S 0 + 1) 0 (-1) 0 (by omega) (Nat.zero_le _) rfl
theorem ct_X4_areTaxesSound {G : Gt} {l : Launch} (hst : l.stackTraces = false) {M : Mm} {x : Nat} {S : St} {t : Nat} (hM : CAt M x S) (hI : Inv S t) : Ct G l yX4_areTaxesSound cX4_areTaxesSound 2 (some .boolean) 6 M [rv x] 0 0 (OkC M x (0, .int 1, S)) (noX) := by
  obtain ⟨bK, bV, bP, bN⟩ := hM.b
  refine Ct_intro (own := RX4) (nm := "areTaxesSound") (by decide +kernel) rfl rfl hst (fun w hw => by simp only [List.mem_cons, List.not_mem_nil, or_false] at hw; rcases hw with rfl <;> first | rfl | exact rv_cat _) (Nat.le_of_ble_eq_true rfl) (fun γ hC => ?_)
  show J G γ M 0 [some (rv x)] [] 0 0
  refine J_aload_n hC dX4_areTaxesSound_0 rfl rfl ?_
  refine J_callV (k1 := 0) (n1 := 0) (kd := 5) [] [rv x] hC lv_X4_292 (ct_X4_sumByQuarters hst hM hI) hM.tx (by decide) ⟨_, mE_5 hM.tx⟩ rfl rfl rfl (by simp only [List.map_cons, List.map_nil, rv_cat, Value.category, List.sum_cons, List.sum_nil]; decide) (by decide) rfl rfl (by decide) (by decide) dX4_areTaxesSound_1 (fun E M9 h => h.elim) (fun v9 M2 hq9 => ?_)
  obtain ⟨rfl, hM2, hs2, hF2, hr2⟩ := hq9
  refine J_aload_n hC dX4_areTaxesSound_4 rfl rfl ?_
  refine J_callV (k1 := 0) (n1 := 0) (kd := 5) [] [rv x] hC lv_X4_299 (ct_X4_sumByDays hst hM2 hI) hM2.tx (by decide) ⟨_, mE_5 hM2.tx⟩ rfl rfl rfl (by simp only [List.map_cons, List.map_nil, rv_cat, Value.category, List.sum_cons, List.sum_nil]; decide) (by decide) rfl rfl (by decide) (by decide) dX4_areTaxesSound_5 (fun E M9 h => h.elim) (fun v9 M3 hq9 => ?_)
  obtain ⟨rfl, hM3, hs3, hF3, hr3⟩ := hq9
  have hr4 : ∀ i, i < 12 → mI M3 (mR M2 x 4) i = owe S i := fun i hi => by
    have h9 := hF3.at hM2.a0.2.2.2.2.2.1.1 (by decide) (show ¬ ((7, 2) : Nat × Nat) = rwT 5 by decide)
    rw [h9.2.2.1, hs2.1]; exact hr2 i hi
  refine J_iconst hC dX4_areTaxesSound_8 (v := 0) (by decide) ?_
  refine J_istore_n hC dX4_areTaxesSound_9 rfl (by decide) (ls1 := [some (rv x), some (.int 0)]) rfl ?_
  have L10 : ∀ (n9 : Nat) (j : Nat), sN S 0 - j < n9 → (j ≤ sN S 0) → J G γ M3 10 [some (rv x), some (.int (nI j))] [] 0 0 := by
    intro n9
    induction n9 with
    | zero => intro j h9; exact absurd h9 (Nat.not_lt_zero _)
    | succ n9 ih =>
      intro j h9 hjN
      refine J_iload_n hC dX4_areTaxesSound_10 rfl rfl ?_
      refine J_aload_n hC dX4_areTaxesSound_11 rfl rfl ?_
      refine J_get5 hC lf_X4_37 (j := 6) hM3.tx (v := .int (nI (sN S 0))) (congrArg (fun z => some (Value.int z)) hM3.c6) dX4_areTaxesSound_12 ?_
      refine J_icmp_ge hC dX4_areTaxesSound_15 (tgt := 45) (by decide) (fun c15 => ?_) (fun c15 => ?_)
      · have hj9 : j = sN S 0 := by have := le_nI (by omega) (by omega) c15; omega
        subst hj9
        refine J_iconst hC dX4_areTaxesSound_45 (v := 1) (by decide) ?_
        refine J_zret hC (by decide) (by decide) (by decide) dX4_areTaxesSound_46 ?_
        exact okm hM3 ((rwT_pC (Or.inl rfl) hF2).trans (rwT_pC (Or.inr rfl) hF3)) rfl
      · have hlt := ge_nI (by omega) (by omega) c15
        refine J_aload_n hC dX4_areTaxesSound_18 rfl rfl ?_
        refine J_get5 hC lf_X4_31 (j := 4) hM3.tx (v := rv (mR M3 x 4)) rfl dX4_areTaxesSound_19 ?_
        refine J_iload_n hC dX4_areTaxesSound_22 rfl rfl ?_
        refine J_callS (k1 := 0) (n1 := 0) [rv (mR M3 x 4), .int (nI j)] [.int (nI j), rv (mR M3 x 4)] hC ls_X4_295 (ct_X4_entry hst hM3.tk4 hM3.lk4 (by decide) (nI j)) rfl rfl (by simp only [List.map_cons, List.map_nil, rv_cat, Value.category, List.sum_cons, List.sum_nil]; decide) (by decide) rfl rfl (by decide) (by decide) dX4_areTaxesSound_23 (fun E M9 h => h.elim) (fun v9 M9 hq9 => ?_)
        obtain ⟨rfl, e9⟩ := hq9
        rw [e9]; clear e9
        rw [ent_in (by omega), hs3.1, hr4 _ (by omega)]
        refine J_aload_n hC dX4_areTaxesSound_26 rfl rfl ?_
        refine J_get5 hC lf_X4_34 (j := 5) hM3.tx (v := rv (mR M3 x 5)) rfl dX4_areTaxesSound_27 ?_
        refine J_iload_n hC dX4_areTaxesSound_30 rfl rfl ?_
        refine J_callS (k1 := 0) (n1 := 0) [rv (mR M3 x 5), .int (nI j)] [.int (nI j), rv (mR M3 x 5), .int (owe S j)] hC ls_X4_295 (ct_X4_entry hst hM3.tk5 hM3.lk5 (by decide) (nI j)) rfl rfl (by simp only [List.map_cons, List.map_nil, rv_cat, Value.category, List.sum_cons, List.sum_nil]; decide) (by decide) rfl rfl (by decide) (by decide) dX4_areTaxesSound_31 (fun E M9 h => h.elim) (fun v9 M9 hq9 => ?_)
        obtain ⟨rfl, e9⟩ := hq9
        rw [e9]; clear e9
        rw [ent_in (by omega), hs3.1, hr3 _ (by omega)]
        refine J_icmp_eq hC dX4_areTaxesSound_34 (tgt := 39) (by decide) (fun c34 => ?_) (fun c34 => ?_)
        · have q34 : owe S j = owe S j := c34
          refine J_iinc hC dX4_areTaxesSound_39 (by decide) rfl (v := nI (j + 1)) (nI_1 _) (ls1 := [some (rv x), some (.int (nI (j + 1)))]) rfl ?_
          refine J_goto hC dX4_areTaxesSound_42 (tgt := 10) (by decide) ?_
          exact ih (j + 1) (by omega) (by omega)
        · have q34 : ¬ owe S j = owe S j := c34
          exact absurd rfl c34
  exact L10 (sN S 0 + 1) 0 (by omega) (Nat.zero_le _)
theorem cnt_0 {f : Nat → Bool} : ∀ {n : Nat}, (∀ k, k < n → f k = false) → cnt f n = 0
  | 0, _ => rfl
  | n + 1, h => by rw [cnt_s, cnt_0 (fun k hk => h k (by omega)), h n (by omega)]; rfl
theorem cnt_1 {f : Nat → Bool} : ∀ {n : Nat}, (∀ a b, a < n → b < n → f a = true → f b = true → a = b) → cnt f n ≤ 1
  | 0, _ => Nat.zero_le _
  | n + 1, h => by
    rw [cnt_s]
    by_cases g : f n = true
    · have h0 : cnt f n = 0 := cnt_0 (fun k hk => by
        cases hf : f k with
        | false => rfl
        | true => exact absurd (h k n (by omega) (by omega) hf g) (by omega))
      rw [h0, if_pos g]; exact Nat.le_refl _
    · rw [if_neg g]
      have := cnt_1 (f := f) (n := n) (fun a b ha hb => h a b (by omega) (by omega))
      omega
theorem Inv.cv1 {S : St} {t p : Nat} (hI : Inv S t) (hp : p < sN S 2) : cnt (fun i => decide (lastV (sT S 1 i) = nI p)) (sN S 1) ≤ 1 := by
  have hV := hI.bV
  refine cnt_1 (fun a b ha hb h1 h2 => ?_)
  have h1 := of_decide_eq_true h1
  have h2 := of_decide_eq_true h2
  rw [← hI.lk ha (by decide)] at h1
  rw [← hI.lk hb (by decide)] at h2
  have g1 := (hI.ex a ha p hp (sD S)).mp h1
  have g2 := (hI.ex b hb p hp (sD S)).mp h2
  exact nI_inj (by omega) (by omega) (g1.symm.trans g2)
theorem ct_X4_arePlatesSound {G : Gt} {l : Launch} (hst : l.stackTraces = false) {M : Mm} {x : Nat} {S : St} {t : Nat} (hM : CAt M x S) (hI : Inv S t) : Ct G l yX4_arePlatesSound cX4_arePlatesSound 5 (some .boolean) 5 M [rv x] 0 0 (PQ M (.int 1)) (noX) := by
  obtain ⟨bK, bV, bP, bN⟩ := hM.b
  refine Ct_intro (own := RX4) (nm := "arePlatesSound") (by decide +kernel) rfl rfl hst (fun w hw => by simp only [List.mem_cons, List.not_mem_nil, or_false] at hw; rcases hw with rfl <;> first | rfl | exact rv_cat _) (Nat.le_of_ble_eq_true rfl) (fun γ hC => ?_)
  show J G γ M 0 [some (rv x)] [] 0 0
  refine J_t0 (fun ht0 => ?_)
  refine J_aload_n hC dX4_arePlatesSound_0 rfl rfl ?_
  refine J_get5 hC lf_X4_17 (j := 1) hM.tx (v := rv (mR M x 1)) rfl dX4_arePlatesSound_1 ?_
  refine J_astore_n hC dX4_arePlatesSound_4 rfl (by decide) (ls1 := [some (rv x), some (rv (mR M x 1))]) rfl ?_
  refine J_aload_n hC dX4_arePlatesSound_5 rfl rfl ?_
  refine J_alen10 hC hM.tk1 dX4_arePlatesSound_6 ?_
  rw [hM.lk1]
  refine J_istore_n hC dX4_arePlatesSound_7 rfl (by decide) (ls1 := [some (rv x), some (rv (mR M x 1)), some (.int (nI 40))]) rfl ?_
  refine J_iconst hC dX4_arePlatesSound_8 (v := 0) (by decide) ?_
  refine J_istore_n hC dX4_arePlatesSound_9 rfl (by decide) (ls1 := [some (rv x), some (rv (mR M x 1)), some (.int (nI 40)), some (.int 0)]) rfl ?_
  have L10 : ∀ (n9 : Nat) (j : Nat), 40 - j < n9 → (j ≤ 40) → J G γ M 10 [some (rv x), some (rv (mR M x 1)), some (.int (nI 40)), some (.int (nI j))] [] 0 0 := by
    intro n9
    induction n9 with
    | zero => intro j h9; exact absurd h9 (Nat.not_lt_zero _)
    | succ n9 ih =>
      intro j h9 hjN
      refine J_iload_n hC dX4_arePlatesSound_10 rfl rfl ?_
      refine J_iload_n hC dX4_arePlatesSound_11 rfl rfl ?_
      refine J_icmp_ge hC dX4_arePlatesSound_12 (tgt := 74) (by decide) (fun c12 => ?_) (fun c12 => ?_)
      · have hj9 : j = 40 := by have := le_nI (n := 40) (by omega) (by omega) c12; omega
        subst hj9
        refine J_iconst hC dX4_arePlatesSound_74 (v := 1) (by decide) ?_
        refine J_zret hC (by decide) (by decide) (by decide) dX4_arePlatesSound_75 ?_
        exact ⟨rfl, rfl⟩
      · have hlt := ge_nI (n := 40) (by omega) (by omega) c12
        refine J_aload_n hC dX4_arePlatesSound_15 rfl rfl ?_
        refine J_iload_n hC dX4_arePlatesSound_16 rfl rfl ?_
        refine J_aald10 hC hM.tk1 (j := j) (nI_toInt (by omega)) (by rw [hM.lk1]; omega) dX4_arePlatesSound_17 ?_
        obtain ⟨e, ee⟩ : ∃ z, z = mR M (mR M x 1) j := ⟨_, rfl⟩
        rw [← ee]
        refine J_astore hC dX4_arePlatesSound_18 (by decide) (ls1 := [some (rv x), some (rv (mR M x 1)), some (.int (nI 40)), some (.int (nI j)), some (rv e)]) rfl ?_
        refine J_aload hC dX4_arePlatesSound_20 rfl ?_
        refine J_ifnull hC dX4_arePlatesSound_22 (tgt := 68) (by decide) (fun c22 => ?_) (fun c22 => ?_)
        · have hge : ¬ j < sN S 2 := hM.pj0 ht0 (ee.symm.trans (by first | exact c22 | exact nn c22))
          refine J_iinc hC dX4_arePlatesSound_68 (by decide) rfl (v := nI (j + 1)) (nI_1 _) (ls1 := [some (rv x), some (rv (mR M x 1)), some (.int (nI 40)), some (.int (nI (j + 1))), some (rv e)]) rfl ?_
          refine J_goto hC dX4_arePlatesSound_71 (tgt := 10) (by decide) ?_
          refine J_sub hC (ls1 := [some (rv x), some (rv (mR M x 1)), some (.int (nI 40)), some (.int (nI (j + 1)))]) ⟨rfl, rfl, rfl, rfl, trivial⟩ ?_
          exact ih (j + 1) (by omega) (by omega)
        · have hlt2 : j < sN S 2 := hM.pj1 hlt (fun h => c22 (ee.trans h))
          have we : PlA M e j S := by rw [ee]; exact hM.p.1 j hlt2
          refine J_aload_n hC dX4_arePlatesSound_25 rfl rfl ?_
          refine J_aload hC dX4_arePlatesSound_26 rfl ?_
          refine J_get2 hC lf_X4_247 (j := 0) we.tg (v := .int (nI j)) (congrArg (fun z => some (Value.int z)) we.v0) dX4_arePlatesSound_28 ?_
          refine J_callV (k1 := 0) (n1 := 0) (kd := 5) [.int (nI j)] [.int (nI j), rv x] hC lv_X4_362 (ct_X4_countVehiclesWith hst hM (nI j)) hM.tx (by decide) ⟨_, mE_5 hM.tx⟩ rfl rfl rfl (by simp only [List.map_cons, List.map_nil, rv_cat, Value.category, List.sum_cons, List.sum_nil]; decide) (by decide) rfl rfl (by decide) (by decide) dX4_arePlatesSound_31 (fun E M9 h => h.elim) (fun v9 M9 hq9 => ?_)
          obtain ⟨rfl, e9⟩ := hq9
          rw [e9]; clear e9
          refine J_iconst hC dX4_arePlatesSound_34 (v := 1) (by decide) ?_
          refine J_icmp_gt hC dX4_arePlatesSound_35 (tgt := 66) (by decide) (fun c35 => ?_) (fun c35 => ?_)
          · exact absurd (lt_nI (a := 1) (by omega) (by have := cnt_le (fun i => decide (lastV (sT S 1 i) = nI j)) (sN S 1); omega) c35) (Nat.not_lt.mpr (hI.cv1 hlt2))
          · refine J_aload_n hC dX4_arePlatesSound_38 rfl rfl ?_
            refine J_aload hC dX4_arePlatesSound_39 rfl ?_
            refine J_get2 hC lf_X4_247 (j := 0) we.tg (v := .int (nI j)) (congrArg (fun z => some (Value.int z)) we.v0) dX4_arePlatesSound_41 ?_
            refine J_aload_n hC dX4_arePlatesSound_44 rfl rfl ?_
            refine J_get5 hC lf_X4_48 (j := 10) hM.tx (v := .int (sD S)) (congrArg (fun z => some (Value.int z)) hM.c10) dX4_arePlatesSound_45 ?_
            refine J_callV (k1 := 0) (n1 := 0) (kd := 5) [.int (nI j), .int (sD S)] [.int (sD S), .int (nI j), rv x] hC lv_X4_279 (ct_X4_placeByVehicles hst hM hI (nI j) (sD S)) hM.tx (by decide) ⟨_, mE_5 hM.tx⟩ rfl rfl rfl (by simp only [List.map_cons, List.map_nil, rv_cat, Value.category, List.sum_cons, List.sum_nil]; decide) (by decide) rfl rfl (by decide) (by decide) dX4_arePlatesSound_48 (fun E M9 h => h.elim) (fun v9 M9 hq9 => ?_)
            obtain ⟨rfl, e9⟩ := hq9
            rw [e9]; clear e9
            rw [findV3 hI (isIx_of hlt2 (by omega)), ix_nI (by omega)]
            refine J_aload hC dX4_arePlatesSound_51 rfl ?_
            refine J_get2 hC lf_X4_265 (j := 1) we.tg (v := rv (mR M e 1)) rfl dX4_arePlatesSound_53 ?_
            refine J_aload_n hC dX4_arePlatesSound_56 rfl rfl ?_
            refine J_get5 hC lf_X4_48 (j := 10) hM.tx (v := .int (sD S)) (congrArg (fun z => some (Value.int z)) hM.c10) dX4_arePlatesSound_57 ?_
            refine J_callV (k1 := 0) (n1 := 0) (kd := 3) [.int (sD S)] [.int (sD S), rv (mR M e 1), .int (look (sT S 3 j) (sD S))] hC lv_X4_128 (ct_X2_at hst we.T1 (sD S) (hI.p3 _ hlt2).2) we.k1 (by decide) ⟨_, mE_3 we.k1⟩ rfl rfl rfl (by simp only [List.map_cons, List.map_nil, rv_cat, Value.category, List.sum_cons, List.sum_nil]; decide) (by decide) rfl rfl (by decide) (by decide) dX4_arePlatesSound_60 (fun E M9 h => h.elim) (fun v9 M9 hq9 => ?_)
            obtain ⟨rfl, e9⟩ := hq9
            rw [e9]; clear e9
            refine J_icmp_eq hC dX4_arePlatesSound_63 (tgt := 68) (by decide) (fun c63 => ?_) (fun c63 => ?_)
            · have q63 : look (sT S 3 j) (sD S) = look (sT S 3 (j)) (sD S) := c63
              refine J_iinc hC dX4_arePlatesSound_68 (by decide) rfl (v := nI (j + 1)) (nI_1 _) (ls1 := [some (rv x), some (rv (mR M x 1)), some (.int (nI 40)), some (.int (nI (j + 1))), some (rv e)]) rfl ?_
              refine J_goto hC dX4_arePlatesSound_71 (tgt := 10) (by decide) ?_
              refine J_sub hC (ls1 := [some (rv x), some (rv (mR M x 1)), some (.int (nI 40)), some (.int (nI (j + 1)))]) ⟨rfl, rfl, rfl, rfl, trivial⟩ ?_
              exact ih (j + 1) (by omega) (by omega)
            · have q63 : ¬ look (sT S 3 j) (sD S) = look (sT S 3 (j)) (sD S) := c63
              exact absurd rfl c63
  exact L10 41 0 (by omega) (Nat.zero_le _)
theorem ct_X4_isSound {G : Gt} {l : Launch} (hst : l.stackTraces = false) {M : Mm} {x : Nat} {S : St} {t : Nat} (hM : CAt M x S) (hI : Inv S t) : Ct G l yX4_isSound cX4_isSound 1 (some .boolean) 7 M [rv x] 0 0 (OkC M x (oSound S)) (noX) := by
  refine Ct_intro (own := RX4) (nm := "isSound") (by decide +kernel) rfl rfl hst (fun w hw => by simp only [List.mem_cons, List.not_mem_nil, or_false] at hw; rcases hw with rfl <;> first | rfl | exact rv_cat _) (Nat.le_of_ble_eq_true rfl) (fun γ hC => ?_)
  show J G γ M 0 [some (rv x)] [] 0 0
  refine J_aload_n hC dX4_isSound_0 rfl rfl ?_
  refine J_callV (k1 := 0) (n1 := 0) (kd := 5) [] [rv x] hC lv_X4_309 (ct_X4_arePlatesSound hst hM hI) hM.tx (by decide) ⟨_, mE_5 hM.tx⟩ rfl rfl rfl (by simp only [List.map_cons, List.map_nil, rv_cat, Value.category, List.sum_cons, List.sum_nil]; decide) (by decide) rfl rfl (by decide) (by decide) dX4_isSound_1 (fun E M9 h => h.elim) (fun v9 M9 hq9 => ?_)
  obtain ⟨rfl, e9⟩ := hq9
  rw [e9]; clear e9
  refine J_if_eq hC dX4_isSound_4 (tgt := 18) (by decide) (fun c4 => ?_) (fun c4 => ?_)
  · exact absurd c4 (by decide)
  · refine J_aload_n hC dX4_isSound_7 rfl rfl ?_
    refine J_callV (k1 := 0) (n1 := 0) (kd := 5) [] [rv x] hC lv_X4_312 (ct_X4_areTaxesSound hst hM hI) hM.tx (by decide) ⟨_, mE_5 hM.tx⟩ rfl rfl rfl (by simp only [List.map_cons, List.map_nil, rv_cat, Value.category, List.sum_cons, List.sum_nil]; decide) (by decide) rfl rfl (by decide) (by decide) dX4_isSound_8 (fun E M9 h => h.elim) (fun v9 M2 hq9 => ?_)
    obtain ⟨h0, e9, hM2, hF2⟩ := hq9
    have e9 : v9 = some (.int 1) := e9
    subst e9
    refine J_if_eq hC dX4_isSound_11 (tgt := 18) (by decide) (fun c11 => ?_) (fun c11 => ?_)
    · exact absurd c11 (by decide)
    · refine J_iconst hC dX4_isSound_14 (v := 1) (by decide) ?_
      refine J_goto hC dX4_isSound_15 (tgt := 19) (by decide) ?_
      refine J_zret hC (by decide) (by decide) (by decide) dX4_isSound_19 ?_
      exact ⟨rfl, rfl, hM2, hF2⟩
