theorem plc_eq {S : St} {v c : Int32} {n : Nat} (hv : isIx v n = true) (hn : n ≤ 15) (h : plc S v c = -1) : lendOk c = false ∨ sL S (ix v) (ix (c - 97)) = 0 := by
  unfold plc at h
  by_cases g : lendOk c = true ∧ sL S (ix v) (ix (c - 97)) ≠ 0
  · rw [if_pos g] at h
    have h1 := (isIx_ix hv).2
    have h2 := (lend_ix g.1).2
    have h3 := nI_toInt (n := 6 * ix v + ix (c - 97)) (by omega)
    rw [h] at h3
    have h4 : (-1 : Int32).toInt = -1 := by decide
    omega
  · cases e : lendOk c with
    | false => exact Or.inl rfl
    | true => exact Or.inr (Classical.not_not.mp (fun q => g ⟨e, q⟩))
theorem plc_ne {S : St} {v c : Int32} {n : Nat} (hv : isIx v n = true) (hn : n ≤ 15) (h : ¬ plc S v c = -1) : lendOk c = true ∧ sL S (ix v) (ix (c - 97)) ≠ 0 ∧ (plc S v c).toInt = ((6 * ix v + ix (c - 97) : Nat) : Int) ∧ ix (c - 97) < 6 := by
  unfold plc at h ⊢
  by_cases g : lendOk c = true ∧ sL S (ix v) (ix (c - 97)) ≠ 0
  · rw [if_pos g]
    have h1 := (isIx_ix hv).2
    have h2 := (lend_ix g.1).2
    exact ⟨g.1, g.2, nI_toInt (by omega), h2⟩
  · rw [if_neg g] at h; exact absurd rfl h
theorem ct_X5_lienOf {G : Gt} {l : Launch} (hst : l.stackTraces = false) {M : Mm} {m : Nat} {S : St} {t : Nat} (hM : MAt M m S t) (hI : Inv S t) (hlt : t < 512) (v c : Int32) : Ct G l yX5_lienOf cX5_lienOf 4 (some .int) 4 M [rv m, .int v, .int c] 0 0 (Op M m t (oLienOf S v c)) (noX) := by
  obtain ⟨a0, nP, nR, nS, a1, bR, bS, bt⟩ := id hM
  have bPs := a1.bPs; have bK := a1.bK; have bV := a1.bV; have bPl := a1.bP; have bN := a1.bN
  refine Ct_intro (own := RX5) (nm := "lienOf") (by decide +kernel) rfl rfl hst (fun w hw => by simp only [List.mem_cons, List.not_mem_nil, or_false] at hw; rcases hw with rfl | rfl | rfl <;> first | rfl | exact rv_cat _) (Nat.le_of_ble_eq_true rfl) (fun γ hC => ?_)
  show J G γ M 0 [some (rv m), some (.int v), some (.int c)] [] 0 0
  refine J_aload_n hC dX5_lienOf_0 rfl rfl ?_
  refine J_iload_n hC dX5_lienOf_1 rfl rfl ?_
  refine J_callV (k1 := 0) (n1 := 0) (kd := 6) [.int v] [.int v, rv m] hC lv_X5_147 (ct_X5_isVehicle hst hM v) a0.t (by decide) ⟨_, mE_6 a0.t⟩ rfl rfl rfl (by simp only [List.map_cons, List.map_nil, rv_cat, Value.category, List.sum_cons, List.sum_nil]; decide) (by decide) rfl rfl (by decide) (by decide) dX5_lienOf_2 (fun E M9 h => h.elim) (fun v9 M9 hq9 => ?_)
  obtain ⟨rfl, e9⟩ := hq9
  rw [e9]; clear e9
  refine J_if_ne hC dX5_lienOf_5 (tgt := 14) (by decide) (fun c5 => ?_) (fun c5 => ?_)
  · have hv : (isIx v (sN S 1)) = true := bz_ne0 c5
    have xv := (isIx_ix hv).2
    refine J_aload_n hC dX5_lienOf_14 rfl rfl ?_
    refine J_iload_n hC dX5_lienOf_15 rfl rfl ?_
    refine J_iload_n hC dX5_lienOf_16 rfl rfl ?_
    refine J_callV (k1 := 0) (n1 := 0) (kd := 6) [.int v, .int c] [.int c, .int v, rv m] hC lv_X5_198 (ct_X5_place hst hM hI v c hv) a0.t (by decide) ⟨_, mE_6 a0.t⟩ rfl rfl rfl (by simp only [List.map_cons, List.map_nil, rv_cat, Value.category, List.sum_cons, List.sum_nil]; decide) (by decide) rfl rfl (by decide) (by decide) dX5_lienOf_17 (fun E M9 h => h.elim) (fun v9 M9 hq9 => ?_)
    obtain ⟨rfl, e9⟩ := hq9
    rw [e9]; clear e9
    refine J_istore_n hC dX5_lienOf_20 rfl (by decide) (ls1 := [some (rv m), some (.int v), some (.int c), some (.int (plc S v c))]) rfl ?_
    refine J_aload_n hC dX5_lienOf_21 rfl rfl ?_
    refine J_iload_n hC dX5_lienOf_22 rfl rfl ?_
    refine J_iconst hC dX5_lienOf_23 (v := -1) (by decide) ?_
    refine J_icmp_ne hC dX5_lienOf_24 (tgt := 31) (by decide) (fun c24 => ?_) (fun c24 => ?_)
    · have q24 : ¬ plc S v c = -1 := c24
      obtain ⟨hlo, hl0, hpi, hl6⟩ := plc_ne hv bV q24
      refine J_iconst hC dX5_lienOf_31 (v := 0) (by decide) ?_
      refine J_put6_0 hC lf_X5_80 a0.t dX5_lienOf_32 ?_
      refine J_iload_n hC dX5_lienOf_35 rfl rfl ?_
      refine J_iconst hC dX5_lienOf_36 (v := -1) (by decide) ?_
      refine J_icmp_ne hC dX5_lienOf_37 (tgt := 44) (by decide) (fun c37 => ?_) (fun c37 => ?_)
      · refine J_aload_n hC dX5_lienOf_44 rfl rfl ?_
        refine J_get6 hC lf_X5_16 (j := 12) a0.t (v := rv (mR M m 12)) rfl dX5_lienOf_45 ?_
        refine J_iload_n hC dX5_lienOf_48 rfl rfl ?_
        refine J_iald hC a0.a12 (j := (6 * ix v + ix (c - 97))) hpi (Nat.lt_of_lt_of_eq (by omega) a0.l12.symm) dX5_lienOf_49 ?_
        rw [show mI (pI M m 0 0) (mR M m 12) (6 * ix v + ix (c - 97)) = sL S (ix v) (ix (c - 97)) from ((up2_b _ _ _ _ (a0.ne (by decide) (by decide)).symm : mI (pI M m 0 0) (mR M m 12) (6 * ix v + ix (c - 97)) = mI M (mR M m 12) (6 * ix v + ix (c - 97))).trans (a1.lien _ xv _ hl6))]
        refine J_iret hC (by decide) (by decide) dX5_lienOf_50 ?_
        refine op_ok hM hlt ?_
        unfold oLienOf
        rw [if_neg (by rw [hv]; simp), if_neg (by rw [hlo]; rintro (q | q); exact absurd q (by decide); exact hl0 q)]
      · exact absurd q24 c37
    · have q24 : plc S v c = -1 := (nn c24)
      have hpl := plc_eq hv bV q24
      refine J_iconst hC dX5_lienOf_27 (v := 2) (by decide) ?_
      refine J_goto hC dX5_lienOf_28 (tgt := 32) (by decide) ?_
      refine J_put6_0 hC lf_X5_80 a0.t dX5_lienOf_32 ?_
      refine J_iload_n hC dX5_lienOf_35 rfl rfl ?_
      refine J_iconst hC dX5_lienOf_36 (v := -1) (by decide) ?_
      refine J_icmp_ne hC dX5_lienOf_37 (tgt := 44) (by decide) (fun c37 => ?_) (fun c37 => ?_)
      · exact absurd q24 c37
      · refine J_iconst hC dX5_lienOf_40 (v := 0) (by decide) ?_
        refine J_goto hC dX5_lienOf_41 (tgt := 50) (by decide) ?_
        refine J_iret hC (by decide) (by decide) dX5_lienOf_50 ?_
        refine op_no hM hlt (k := 2) ?_ rfl
        unfold oLienOf
        rw [if_neg (by rw [hv]; simp), if_pos hpl]
  · have nv : (isIx v (sN S 1)) = false := bz_eq0 (nn c5)
    refine J_aload_n hC dX5_lienOf_8 rfl rfl ?_
    refine J_iconst hC dX5_lienOf_9 (v := 1) (by decide) ?_
    refine J_callV (k1 := 0) (n1 := 0) (kd := 6) [.int 1] [.int 1, rv m] hC lv_X5_116 (ct_X5_fails hst (M := M) a0 1) a0.t (by decide) ⟨_, mE_6 a0.t⟩ rfl rfl rfl (by simp only [List.map_cons, List.map_nil, rv_cat, Value.category, List.sum_cons, List.sum_nil]; decide) (by decide) rfl rfl (by decide) (by decide) dX5_lienOf_10 (fun E M9 h => h.elim) (fun v9 M9 hq9 => ?_)
    obtain ⟨rfl, rfl⟩ := hq9
    refine J_iret hC (by decide) (by decide) dX5_lienOf_13 ?_
    refine op_no hM hlt (k := 1) ?_ rfl
    simp [oLienOf, nv]
theorem st_i {k : Int32} (h : k = 111 ∨ k = 117 ∨ k = 119) : (k.toUInt32 % 65536).toInt32 = k := by rcases h with rfl | rfl | rfl <;> decide
theorem st_c {k : Int32} (h : k = 111 ∨ k = 117 ∨ k = 119) : narrow .char (.int k) = .int k := by rcases h with rfl | rfl | rfl <;> decide
theorem ct_X5_stateOf {G : Gt} {l : Launch} (hst : l.stackTraces = false) {M : Mm} {m : Nat} {S : St} {t : Nat} (hM : MAt M m S t) (hI : Inv S t) (hlt : t < 512) (v : Int32) : Ct G l yX5_stateOf cX5_stateOf 2 (some .char) 4 M [rv m, .int v] 0 0 (Op M m t (oStateOf S v)) (noX) := by
  obtain ⟨a0, nP, nR, nS, a1, bR, bS, bt⟩ := id hM
  have bPs := a1.bPs; have bK := a1.bK; have bV := a1.bV; have bPl := a1.bP; have bN := a1.bN
  refine Ct_intro (own := RX5) (nm := "stateOf") (by decide +kernel) rfl rfl hst (fun w hw => by simp only [List.mem_cons, List.not_mem_nil, or_false] at hw; rcases hw with rfl | rfl <;> first | rfl | exact rv_cat _) (Nat.le_of_ble_eq_true rfl) (fun γ hC => ?_)
  show J G γ M 0 [some (rv m), some (.int v)] [] 0 0
  refine J_aload_n hC dX5_stateOf_0 rfl rfl ?_
  refine J_iload_n hC dX5_stateOf_1 rfl rfl ?_
  refine J_callV (k1 := 0) (n1 := 0) (kd := 6) [.int v] [.int v, rv m] hC lv_X5_183 (ct_X5_isNotice hst hM v) a0.t (by decide) ⟨_, mE_6 a0.t⟩ rfl rfl rfl (by simp only [List.map_cons, List.map_nil, rv_cat, Value.category, List.sum_cons, List.sum_nil]; decide) (by decide) rfl rfl (by decide) (by decide) dX5_stateOf_2 (fun E M9 h => h.elim) (fun v9 M9 hq9 => ?_)
  rcases hq9 with ⟨hv, rfl, rfl⟩ | ⟨nv, rfl, rfl⟩
  · have xv := (isIx_ix hv).2
    refine J_if_eq hC dX5_stateOf_5 (tgt := 17) (by decide) (fun c5 => ?_) (fun c5 => ?_)
    · exact absurd c5 (by decide)
    · refine J_aload_n hC dX5_stateOf_8 rfl rfl ?_
      refine J_get6 hC lf_X5_47 (j := 22) a0.t (v := rv (mR M m 22)) rfl dX5_stateOf_9 ?_
      refine J_iload_n hC dX5_stateOf_12 rfl rfl ?_
      refine J_iald hC a0.a22 (j := (ix v)) (isIx_ix hv).1 (Nat.lt_of_lt_of_eq (by omega) a0.l22.symm) dX5_stateOf_13 ?_
      rw [show mI (pI M m 0 0) (mR M m 22) (ix v) = sO S (ix v) 5 from ((up2_b _ _ _ _ (a0.ne (by decide) (by decide)).symm : mI (pI M m 0 0) (mR M m 22) (ix v) = mI M (mR M m 22) (ix v)).trans (a1.n5 _ xv))]
      refine J_goto hC dX5_stateOf_14 (tgt := 18) (by decide) ?_
      refine J_i2c hC dX5_stateOf_18 (v := sO S (ix v) 5) (st_i (hI.n5 _ xv)) ?_
      refine J_zret hC (by decide) (by decide) (by first | exact st_c (hI.n5 _ xv) | decide) dX5_stateOf_19 ?_
      refine op_ok hM hlt ?_
      simp [oStateOf, bz, hv]
  · refine J_if_eq hC dX5_stateOf_5 (tgt := 17) (by decide) (fun c5 => ?_) (fun c5 => ?_)
    · refine J_iconst hC dX5_stateOf_17 (v := 0) (by decide) ?_
      refine J_i2c hC dX5_stateOf_18 (v := 0) (by decide) ?_
      refine J_zret hC (by decide) (by decide) (by first | exact st_c (hI.n5 _ xv) | decide) dX5_stateOf_19 ?_
      refine op_no hM hlt (k := 1) ?_ rfl
      simp [oStateOf, nv]
    · exact absurd c5 (by decide)
theorem ct_X5_partnerOf {G : Gt} {l : Launch} (hst : l.stackTraces = false) {M : Mm} {m : Nat} {S : St} {t : Nat} (hM : MAt M m S t) (hI : Inv S t) (hlt : t < 512) (v : Int32) : Ct G l yX5_partnerOf cX5_partnerOf 2 (some .int) 4 M [rv m, .int v] 0 0 (Op M m t (oPartnerOf S v)) (noX) := by
  obtain ⟨a0, nP, nR, nS, a1, bR, bS, bt⟩ := id hM
  have bPs := a1.bPs; have bK := a1.bK; have bV := a1.bV; have bPl := a1.bP; have bN := a1.bN
  refine Ct_intro (own := RX5) (nm := "partnerOf") (by decide +kernel) rfl rfl hst (fun w hw => by simp only [List.mem_cons, List.not_mem_nil, or_false] at hw; rcases hw with rfl | rfl <;> first | rfl | exact rv_cat _) (Nat.le_of_ble_eq_true rfl) (fun γ hC => ?_)
  show J G γ M 0 [some (rv m), some (.int v)] [] 0 0
  refine J_aload_n hC dX5_partnerOf_0 rfl rfl ?_
  refine J_iload_n hC dX5_partnerOf_1 rfl rfl ?_
  refine J_callV (k1 := 0) (n1 := 0) (kd := 6) [.int v] [.int v, rv m] hC lv_X5_183 (ct_X5_isNotice hst hM v) a0.t (by decide) ⟨_, mE_6 a0.t⟩ rfl rfl rfl (by simp only [List.map_cons, List.map_nil, rv_cat, Value.category, List.sum_cons, List.sum_nil]; decide) (by decide) rfl rfl (by decide) (by decide) dX5_partnerOf_2 (fun E M9 h => h.elim) (fun v9 M9 hq9 => ?_)
  rcases hq9 with ⟨hv, rfl, rfl⟩ | ⟨nv, rfl, rfl⟩
  · have xv := (isIx_ix hv).2
    refine J_if_ne hC dX5_partnerOf_5 (tgt := 10) (by decide) (fun c5 => ?_) (fun c5 => ?_)
    · refine J_aload_n hC dX5_partnerOf_10 rfl rfl ?_
      refine J_get6 hC lf_X5_47 (j := 22) a0.t (v := rv (mR M m 22)) rfl dX5_partnerOf_11 ?_
      refine J_iload_n hC dX5_partnerOf_14 rfl rfl ?_
      refine J_iald hC a0.a22 (j := (ix v)) (isIx_ix hv).1 (Nat.lt_of_lt_of_eq (by omega) a0.l22.symm) dX5_partnerOf_15 ?_
      rw [show mI (pI M m 0 0) (mR M m 22) (ix v) = sO S (ix v) 5 from ((up2_b _ _ _ _ (a0.ne (by decide) (by decide)).symm : mI (pI M m 0 0) (mR M m 22) (ix v) = mI M (mR M m 22) (ix v)).trans (a1.n5 _ xv))]
      refine J_bipush hC dX5_partnerOf_16 (v := 117) (by decide) ?_
      refine J_icmp_ne hC dX5_partnerOf_18 (tgt := 30) (by decide) (fun c18 => ?_) (fun c18 => ?_)
      · have q18 : ¬ sO S (ix v) 5 = 117 := c18
        refine J_aload_n hC dX5_partnerOf_30 rfl rfl ?_
        refine J_iconst hC dX5_partnerOf_31 (v := 2) (by decide) ?_
        refine J_callV (k1 := 0) (n1 := 0) (kd := 6) [.int 2] [.int 2, rv m] hC lv_X5_116 (ct_X5_fails hst (M := (pI M m 0 0)) a0 2) a0.t (by decide) ⟨_, mE_6 a0.t⟩ rfl rfl rfl (by simp only [List.map_cons, List.map_nil, rv_cat, Value.category, List.sum_cons, List.sum_nil]; decide) (by decide) rfl rfl (by decide) (by decide) dX5_partnerOf_32 (fun E M9 h => h.elim) (fun v9 M9 hq9 => ?_)
        obtain ⟨rfl, rfl⟩ := hq9
        refine J_iret hC (by decide) (by decide) dX5_partnerOf_35 ?_
        rw [pI_pI]
        refine op_no hM hlt (k := 2) ?_ rfl
        simp [oPartnerOf, hv, q18]
      · have q18 : sO S (ix v) 5 = 117 := (nn c18)
        refine J_aload_n hC dX5_partnerOf_21 rfl rfl ?_
        refine J_get6 hC lf_X5_50 (j := 23) a0.t (v := rv (mR M m 23)) rfl dX5_partnerOf_22 ?_
        refine J_iload_n hC dX5_partnerOf_25 rfl rfl ?_
        refine J_iald hC a0.a23 (j := (ix v)) (isIx_ix hv).1 (Nat.lt_of_lt_of_eq (by omega) a0.l23.symm) dX5_partnerOf_26 ?_
        rw [show mI (pI M m 0 0) (mR M m 23) (ix v) = sO S (ix v) 6 from ((up2_b _ _ _ _ (a0.ne (by decide) (by decide)).symm : mI (pI M m 0 0) (mR M m 23) (ix v) = mI M (mR M m 23) (ix v)).trans (a1.n6 _ xv q18))]
        refine J_goto hC dX5_partnerOf_27 (tgt := 35) (by decide) ?_
        refine J_iret hC (by decide) (by decide) dX5_partnerOf_35 ?_
        refine op_ok hM hlt ?_
        simp [oPartnerOf, bz, hv, q18]
    · exact absurd c5 (by decide)
  · refine J_if_ne hC dX5_partnerOf_5 (tgt := 10) (by decide) (fun c5 => ?_) (fun c5 => ?_)
    · exact absurd c5 (by decide)
    · refine J_iconst hC dX5_partnerOf_8 (v := 0) (by decide) ?_
      refine J_iret hC (by decide) (by decide) dX5_partnerOf_9 ?_
      refine op_no hM hlt (k := 1) ?_ rfl
      simp [oPartnerOf, nv]
theorem look_memA {d : Int32} : ∀ (l : Tl) (a : Int32), l.foldl (fun a e => if e.1 ≤ d then e.2 else a) a = a ∨ ∃ e ∈ l, l.foldl (fun a e => if e.1 ≤ d then e.2 else a) a = e.2
  | [], a => Or.inl rfl
  | e :: l, a => by
    rw [List.foldl_cons]
    rcases look_memA l (if e.1 ≤ d then e.2 else a) with h | ⟨z, h1, h2⟩
    · rw [h]
      by_cases q : e.1 ≤ d
      · rw [if_pos q]; exact Or.inr ⟨e, by simp, rfl⟩
      · rw [if_neg q]; exact Or.inl rfl
    · exact Or.inr ⟨z, by simp [h1], h2⟩
theorem look_mem {d : Int32} (l : Tl) : look l d = -1 ∨ ∃ e ∈ l, look l d = e.2 := look_memA l (-1)
theorem findV3 {S : St} {t : Nat} (hI : Inv S t) {p d : Int32} (hp : isIx p (sN S 2) = true) : findV S p d = look (sT S 3 (ix p)) d := by
  have hpx := (isIx_ix hp).2
  have hpn := isIx_nI hp
  have bV := hI.bV
  unfold findV
  cases h : fst1 (fun v => decide (look (sT S 1 v) d = p)) (sN S 1) with
  | some v =>
    obtain ⟨h1, h2, -⟩ := fst1_some h
    have h3 : look (sT S 1 v) d = p := of_decide_eq_true h2
    rw [hpn] at h3
    exact ((hI.ex v h1 _ hpx d).mp h3).symm
  | none =>
    rcases look_mem (d := d) (sT S 3 (ix p)) with h1 | ⟨e, he, h1⟩
    · exact h1.symm
    · rcases hI.pv _ hpx e he with h2 | h2
      · rw [h1, h2]
      · exfalso
        have h3 := (isIx_ix h2).2
        have h4 := (hI.ex _ h3 _ hpx d).mpr (by rw [h1]; exact isIx_nI h2)
        have h5 := fst1_no h _ h3
        rw [h4, ← hpn] at h5
        simp at h5
theorem kept_ne {S : St} {p : Nat} (h : keptQ S p = true) : sQ S p 2 ≠ -1 := by
  unfold keptQ at h; simp only [Bool.and_eq_true, decide_eq_true_eq] at h; exact h.1
theorem ct_X5_vehicleWith {G : Gt} {l : Launch} (hst : l.stackTraces = false) {M : Mm} {m : Nat} {S : St} {t : Nat} (hM : MAt M m S t) (hI : Inv S t) (hlt : t < 512) (p d : Int32) : Ct G l yX5_vehicleWith cX5_vehicleWith 4 (some .int) 4 M [rv m, .int p, .int d] 0 0 (Op M m t (oVehicleWith S p d)) (noX) := by
  obtain ⟨a0, nP, nR, nS, a1, bR, bS, bt⟩ := id hM
  have bPs := a1.bPs; have bK := a1.bK; have bV := a1.bV; have bPl := a1.bP; have bN := a1.bN
  refine Ct_intro (own := RX5) (nm := "vehicleWith") (by decide +kernel) rfl rfl hst (fun w hw => by simp only [List.mem_cons, List.not_mem_nil, or_false] at hw; rcases hw with rfl | rfl | rfl <;> first | rfl | exact rv_cat _) (Nat.le_of_ble_eq_true rfl) (fun γ hC => ?_)
  show J G γ M 0 [some (rv m), some (.int p), some (.int d)] [] 0 0
  refine J_aload_n hC dX5_vehicleWith_0 rfl rfl ?_
  refine J_iload_n hC dX5_vehicleWith_1 rfl rfl ?_
  refine J_callV (k1 := 0) (n1 := 0) (kd := 6) [.int p] [.int p, rv m] hC lv_X5_202 (ct_X5_isPlate hst hM p) a0.t (by decide) ⟨_, mE_6 a0.t⟩ rfl rfl rfl (by simp only [List.map_cons, List.map_nil, rv_cat, Value.category, List.sum_cons, List.sum_nil]; decide) (by decide) rfl rfl (by decide) (by decide) dX5_vehicleWith_2 (fun E M9 h => h.elim) (fun v9 M9 hq9 => ?_)
  obtain ⟨rfl, e9⟩ := hq9
  rw [e9]; clear e9
  refine J_if_ne hC dX5_vehicleWith_5 (tgt := 14) (by decide) (fun c5 => ?_) (fun c5 => ?_)
  · have hp : (isIx p (sN S 2)) = true := bz_ne0 c5
    have xp := (isIx_ix hp).2
    refine J_aload_n hC dX5_vehicleWith_14 rfl rfl ?_
    refine J_iload_n hC dX5_vehicleWith_15 rfl rfl ?_
    refine J_callV (k1 := 0) (n1 := 0) (kd := 6) [.int d] [.int d, rv m] hC lv_X5_154 (ct_X5_isDay hst hM d) a0.t (by decide) ⟨_, mE_6 a0.t⟩ rfl rfl rfl (by simp only [List.map_cons, List.map_nil, rv_cat, Value.category, List.sum_cons, List.sum_nil]; decide) (by decide) rfl rfl (by decide) (by decide) dX5_vehicleWith_16 (fun E M9 h => h.elim) (fun v9 M9 hq9 => ?_)
    obtain ⟨rfl, e9⟩ := hq9
    rw [e9]; clear e9
    refine J_if_ne hC dX5_vehicleWith_19 (tgt := 28) (by decide) (fun c19 => ?_) (fun c19 => ?_)
    · have hdd : (isDay S d) = true := bz_ne0 c19
      refine J_aload_n hC dX5_vehicleWith_28 rfl rfl ?_
      refine J_iload_n hC dX5_vehicleWith_29 rfl rfl ?_
      refine J_iload_n hC dX5_vehicleWith_30 rfl rfl ?_
      refine J_callV (k1 := 0) (n1 := 0) (kd := 6) [.int p, .int d] [.int d, .int p, rv m] hC lv_X5_211 (ct_X5_vehicle hst hM p d) a0.t (by decide) ⟨_, mE_6 a0.t⟩ rfl rfl rfl (by simp only [List.map_cons, List.map_nil, rv_cat, Value.category, List.sum_cons, List.sum_nil]; decide) (by decide) rfl rfl (by decide) (by decide) dX5_vehicleWith_31 (fun E M9 h => h.elim) (fun v9 M9 hq9 => ?_)
      obtain ⟨rfl, e9⟩ := hq9
      rw [e9]; clear e9
      rw [findV3 hI hp]
      refine J_istore_n hC dX5_vehicleWith_34 rfl (by decide) (ls1 := [some (rv m), some (.int p), some (.int d), some (.int (look (sT S 3 (ix p)) d))]) rfl ?_
      refine J_aload_n hC dX5_vehicleWith_35 rfl rfl ?_
      refine J_iload_n hC dX5_vehicleWith_36 rfl rfl ?_
      refine J_iconst hC dX5_vehicleWith_37 (v := -1) (by decide) ?_
      refine J_icmp_ne hC dX5_vehicleWith_38 (tgt := 45) (by decide) (fun c38 => ?_) (fun c38 => ?_)
      · have q38 : ¬ look (sT S 3 (ix p)) d = -1 := c38
        refine J_iconst hC dX5_vehicleWith_45 (v := 0) (by decide) ?_
        refine J_put6_0 hC lf_X5_80 a0.t dX5_vehicleWith_46 ?_
        refine J_iload_n hC dX5_vehicleWith_49 rfl rfl ?_
        refine J_iconst hC dX5_vehicleWith_50 (v := -1) (by decide) ?_
        refine J_icmp_ne hC dX5_vehicleWith_51 (tgt := 58) (by decide) (fun c51 => ?_) (fun c51 => ?_)
        · refine J_iload_n hC dX5_vehicleWith_58 rfl rfl ?_
          refine J_iret hC (by decide) (by decide) dX5_vehicleWith_59 ?_
          refine op_ok hM hlt ?_
          simp [oVehicleWith, bz, hp, hdd, q38]
        · exact absurd q38 c51
      · have q38 : look (sT S 3 (ix p)) d = -1 := (nn c38)
        refine J_iconst hC dX5_vehicleWith_41 (v := 3) (by decide) ?_
        refine J_goto hC dX5_vehicleWith_42 (tgt := 46) (by decide) ?_
        refine J_put6_0 hC lf_X5_80 a0.t dX5_vehicleWith_46 ?_
        refine J_iload_n hC dX5_vehicleWith_49 rfl rfl ?_
        refine J_iconst hC dX5_vehicleWith_50 (v := -1) (by decide) ?_
        refine J_icmp_ne hC dX5_vehicleWith_51 (tgt := 58) (by decide) (fun c51 => ?_) (fun c51 => ?_)
        · exact absurd q38 c51
        · refine J_iconst hC dX5_vehicleWith_54 (v := 0) (by decide) ?_
          refine J_goto hC dX5_vehicleWith_55 (tgt := 59) (by decide) ?_
          refine J_iret hC (by decide) (by decide) dX5_vehicleWith_59 ?_
          refine op_no hM hlt (k := 3) ?_ rfl
          simp [oVehicleWith, hp, hdd, q38]
    · have ndd : (isDay S d) = false := bz_eq0 (nn c19)
      refine J_aload_n hC dX5_vehicleWith_22 rfl rfl ?_
      refine J_iconst hC dX5_vehicleWith_23 (v := 2) (by decide) ?_
      refine J_callV (k1 := 0) (n1 := 0) (kd := 6) [.int 2] [.int 2, rv m] hC lv_X5_116 (ct_X5_fails hst (M := M) a0 2) a0.t (by decide) ⟨_, mE_6 a0.t⟩ rfl rfl rfl (by simp only [List.map_cons, List.map_nil, rv_cat, Value.category, List.sum_cons, List.sum_nil]; decide) (by decide) rfl rfl (by decide) (by decide) dX5_vehicleWith_24 (fun E M9 h => h.elim) (fun v9 M9 hq9 => ?_)
      obtain ⟨rfl, rfl⟩ := hq9
      refine J_iret hC (by decide) (by decide) dX5_vehicleWith_27 ?_
      refine op_no hM hlt (k := 2) ?_ rfl
      simp [oVehicleWith, hp, ndd]
  · have np : (isIx p (sN S 2)) = false := bz_eq0 (nn c5)
    refine J_aload_n hC dX5_vehicleWith_8 rfl rfl ?_
    refine J_iconst hC dX5_vehicleWith_9 (v := 1) (by decide) ?_
    refine J_callV (k1 := 0) (n1 := 0) (kd := 6) [.int 1] [.int 1, rv m] hC lv_X5_116 (ct_X5_fails hst (M := M) a0 1) a0.t (by decide) ⟨_, mE_6 a0.t⟩ rfl rfl rfl (by simp only [List.map_cons, List.map_nil, rv_cat, Value.category, List.sum_cons, List.sum_nil]; decide) (by decide) rfl rfl (by decide) (by decide) dX5_vehicleWith_10 (fun E M9 h => h.elim) (fun v9 M9 hq9 => ?_)
    obtain ⟨rfl, rfl⟩ := hq9
    refine J_iret hC (by decide) (by decide) dX5_vehicleWith_13 ?_
    refine op_no hM hlt (k := 1) ?_ rfl
    simp [oVehicleWith, np]
theorem oVW_int (S : St) (v d : Int32) : ∃ i, (oVehicleWith S v d).2.1 = .int i := by
  unfold oVehicleWith
  repeat' split
  all_goals exact ⟨_, rfl⟩
theorem ct_X5_vehicleByVehicles {G : Gt} {l : Launch} (hst : l.stackTraces = false) {M : Mm} {m : Nat} {S : St} {t : Nat} (hM : MAt M m S t) (hI : Inv S t) (hlt : t < 512) (p d : Int32) : Ct G l yX5_vehicleByVehicles cX5_vehicleByVehicles 3 (some .int) 5 M [rv m, .int p, .int d] 0 0 (Op M m t (oVehicleWith S p d)) (noX) := by
  obtain ⟨a0, nP, nR, nS, a1, bR, bS, bt⟩ := id hM
  have bPs := a1.bPs; have bK := a1.bK; have bV := a1.bV; have bPl := a1.bP; have bN := a1.bN
  refine Ct_intro (own := RX5) (nm := "vehicleByVehicles") (by decide +kernel) rfl rfl hst (fun w hw => by simp only [List.mem_cons, List.not_mem_nil, or_false] at hw; rcases hw with rfl | rfl | rfl <;> first | rfl | exact rv_cat _) (Nat.le_of_ble_eq_true rfl) (fun γ hC => ?_)
  show J G γ M 0 [some (rv m), some (.int p), some (.int d)] [] 0 0
  refine J_aload_n hC dX5_vehicleByVehicles_0 rfl rfl ?_
  refine J_iload_n hC dX5_vehicleByVehicles_1 rfl rfl ?_
  refine J_iload_n hC dX5_vehicleByVehicles_2 rfl rfl ?_
  refine J_callV (k1 := 0) (n1 := 0) (kd := 6) [.int p, .int d] [.int d, .int p, rv m] hC lv_X5_214 (ct_X5_vehicleWith hst hM hI hlt p d) a0.t (by decide) ⟨_, mE_6 a0.t⟩ rfl rfl rfl (by simp only [List.map_cons, List.map_nil, rv_cat, Value.category, List.sum_cons, List.sum_nil]; decide) (by decide) rfl rfl (by decide) (by decide) dX5_vehicleByVehicles_3 (fun E M9 h => h.elim) (fun v9 M9 hq9 => ?_)
  obtain ⟨i9, hi9⟩ := oVW_int S p d
  obtain ⟨e9, hb9⟩ := hq9
  rw [e9, hi9]
  clear e9
  refine J_iret hC (by decide) (by decide) dX5_vehicleByVehicles_6 ?_
  exact ⟨by rw [hi9], hb9⟩
theorem ct_X5_plateState {G : Gt} {l : Launch} (hst : l.stackTraces = false) {M : Mm} {m : Nat} {S : St} {t : Nat} (hM : MAt M m S t) (hI : Inv S t) (hlt : t < 512) (p : Int32) : Ct G l yX5_plateState cX5_plateState 2 (some .char) 4 M [rv m, .int p] 0 0 (Op M m t (oPlateState S p)) (noX) := by
  obtain ⟨a0, nP, nR, nS, a1, bR, bS, bt⟩ := id hM
  have bPs := a1.bPs; have bK := a1.bK; have bV := a1.bV; have bPl := a1.bP; have bN := a1.bN
  refine Ct_intro (own := RX5) (nm := "plateState") (by decide +kernel) rfl rfl hst (fun w hw => by simp only [List.mem_cons, List.not_mem_nil, or_false] at hw; rcases hw with rfl | rfl <;> first | rfl | exact rv_cat _) (Nat.le_of_ble_eq_true rfl) (fun γ hC => ?_)
  show J G γ M 0 [some (rv m), some (.int p)] [] 0 0
  refine J_aload_n hC dX5_plateState_0 rfl rfl ?_
  refine J_iload_n hC dX5_plateState_1 rfl rfl ?_
  refine J_callV (k1 := 0) (n1 := 0) (kd := 6) [.int p] [.int p, rv m] hC lv_X5_208 (ct_X5_isIssued hst hM p) a0.t (by decide) ⟨_, mE_6 a0.t⟩ rfl rfl rfl (by simp only [List.map_cons, List.map_nil, rv_cat, Value.category, List.sum_cons, List.sum_nil]; decide) (by decide) rfl rfl (by decide) (by decide) dX5_plateState_2 (fun E M9 h => h.elim) (fun v9 M9 hq9 => ?_)
  rcases hq9 with ⟨hp, rfl, rfl⟩ | ⟨np, rfl, rfl⟩
  · have xp := (isIx_ix hp).2
    refine J_if_ne hC dX5_plateState_5 (tgt := 10) (by decide) (fun c5 => ?_) (fun c5 => ?_)
    · refine J_aload_n hC dX5_plateState_10 rfl rfl ?_
      refine J_iload_n hC dX5_plateState_11 rfl rfl ?_
      refine J_aload_n hC dX5_plateState_12 rfl rfl ?_
      refine J_get6 hC lf_X5_97 (j := 5) a0.t (v := .int (sD S)) (congrArg (fun z => some (Value.int z)) ((up2_k _ _ _ (by decide) : mI (pI M m 0 0) m 5 = mI M m 5).trans a1.s5)) dX5_plateState_13 ?_
      refine J_callV (k1 := 0) (n1 := 0) (kd := 6) [.int p, .int (sD S)] [.int (sD S), .int p, rv m] hC lv_X5_211 (ct_X5_vehicle hst (MAt.thr hM 0) p (sD S)) a0.t (by decide) ⟨_, mE_6 a0.t⟩ rfl rfl rfl (by simp only [List.map_cons, List.map_nil, rv_cat, Value.category, List.sum_cons, List.sum_nil]; decide) (by decide) rfl rfl (by decide) (by decide) dX5_plateState_16 (fun E M9 h => h.elim) (fun v9 M9 hq9 => ?_)
      obtain ⟨rfl, e9⟩ := hq9
      rw [e9]; clear e9
      rw [findV3 hI hp]
      rw [hI.lk3 xp]
      refine J_iconst hC dX5_plateState_19 (v := -1) (by decide) ?_
      refine J_icmp_eq hC dX5_plateState_20 (tgt := 28) (by decide) (fun c20 => ?_) (fun c20 => ?_)
      · have q20 : lastV (sT S 3 (ix p)) = -1 := c20
        refine J_aload_n hC dX5_plateState_28 rfl rfl ?_
        refine J_iload_n hC dX5_plateState_29 rfl rfl ?_
        refine J_callV (k1 := 0) (n1 := 0) (kd := 6) [.int p] [.int p, rv m] hC lv_X5_205 (ct_X5_kept hst (MAt.thr hM 0) p hp) a0.t (by decide) ⟨_, mE_6 a0.t⟩ rfl rfl rfl (by simp only [List.map_cons, List.map_nil, rv_cat, Value.category, List.sum_cons, List.sum_nil]; decide) (by decide) rfl rfl (by decide) (by decide) dX5_plateState_30 (fun E M9 h => h.elim) (fun v9 M9 hq9 => ?_)
        obtain ⟨rfl, e9⟩ := hq9
        rw [e9]; clear e9
        refine J_if_eq hC dX5_plateState_33 (tgt := 41) (by decide) (fun c33 => ?_) (fun c33 => ?_)
        · have b33 : (keptQ S (ix p)) = false := bz_eq0 c33
          refine J_bipush hC dX5_plateState_41 (v := 120) (by decide) ?_
          refine J_zret hC (by decide) (by decide) (by decide) dX5_plateState_43 ?_
          refine op_ok hM hlt ?_
          simp [oPlateState, bz, hp, q20, b33]
        · have b33 : (keptQ S (ix p)) = true := bz_ne0 c33
          refine J_bipush hC dX5_plateState_36 (v := 107) (by decide) ?_
          refine J_goto hC dX5_plateState_38 (tgt := 43) (by decide) ?_
          refine J_zret hC (by decide) (by decide) (by decide) dX5_plateState_43 ?_
          refine op_ok hM hlt ?_
          simp [oPlateState, bz, hp, q20, b33]
      · have q20 : ¬ lastV (sT S 3 (ix p)) = -1 := c20
        refine J_bipush hC dX5_plateState_23 (v := 118) (by decide) ?_
        refine J_goto hC dX5_plateState_25 (tgt := 43) (by decide) ?_
        refine J_zret hC (by decide) (by decide) (by decide) dX5_plateState_43 ?_
        refine op_ok hM hlt ?_
        simp [oPlateState, bz, hp, q20]
    · exact absurd c5 (by decide)
  · refine J_if_ne hC dX5_plateState_5 (tgt := 10) (by decide) (fun c5 => ?_) (fun c5 => ?_)
    · exact absurd c5 (by decide)
    · refine J_iconst hC dX5_plateState_8 (v := 0) (by decide) ?_
      refine J_zret hC (by decide) (by decide) (by decide) dX5_plateState_9 ?_
      refine op_no hM hlt (k := 1) ?_ rfl
      simp [oPlateState, np]
theorem ct_X5_daysKept {G : Gt} {l : Launch} (hst : l.stackTraces = false) {M : Mm} {m : Nat} {S : St} {t : Nat} (hM : MAt M m S t) (hI : Inv S t) (hlt : t < 512) (p : Int32) : Ct G l yX5_daysKept cX5_daysKept 2 (some .int) 4 M [rv m, .int p] 0 0 (Op M m t (oDaysKept S p)) (noX) := by
  obtain ⟨a0, nP, nR, nS, a1, bR, bS, bt⟩ := id hM
  have bPs := a1.bPs; have bK := a1.bK; have bV := a1.bV; have bPl := a1.bP; have bN := a1.bN
  refine Ct_intro (own := RX5) (nm := "daysKept") (by decide +kernel) rfl rfl hst (fun w hw => by simp only [List.mem_cons, List.not_mem_nil, or_false] at hw; rcases hw with rfl | rfl <;> first | rfl | exact rv_cat _) (Nat.le_of_ble_eq_true rfl) (fun γ hC => ?_)
  show J G γ M 0 [some (rv m), some (.int p)] [] 0 0
  refine J_aload_n hC dX5_daysKept_0 rfl rfl ?_
  refine J_iload_n hC dX5_daysKept_1 rfl rfl ?_
  refine J_callV (k1 := 0) (n1 := 0) (kd := 6) [.int p] [.int p, rv m] hC lv_X5_208 (ct_X5_isIssued hst hM p) a0.t (by decide) ⟨_, mE_6 a0.t⟩ rfl rfl rfl (by simp only [List.map_cons, List.map_nil, rv_cat, Value.category, List.sum_cons, List.sum_nil]; decide) (by decide) rfl rfl (by decide) (by decide) dX5_daysKept_2 (fun E M9 h => h.elim) (fun v9 M9 hq9 => ?_)
  rcases hq9 with ⟨hp, rfl, rfl⟩ | ⟨np, rfl, rfl⟩
  · have xp := (isIx_ix hp).2
    refine J_if_ne hC dX5_daysKept_5 (tgt := 10) (by decide) (fun c5 => ?_) (fun c5 => ?_)
    · refine J_aload_n hC dX5_daysKept_10 rfl rfl ?_
      refine J_iload_n hC dX5_daysKept_11 rfl rfl ?_
      refine J_callV (k1 := 0) (n1 := 0) (kd := 6) [.int p] [.int p, rv m] hC lv_X5_205 (ct_X5_kept hst (MAt.thr hM 0) p hp) a0.t (by decide) ⟨_, mE_6 a0.t⟩ rfl rfl rfl (by simp only [List.map_cons, List.map_nil, rv_cat, Value.category, List.sum_cons, List.sum_nil]; decide) (by decide) rfl rfl (by decide) (by decide) dX5_daysKept_12 (fun E M9 h => h.elim) (fun v9 M9 hq9 => ?_)
      obtain ⟨rfl, e9⟩ := hq9
      rw [e9]; clear e9
      refine J_if_eq hC dX5_daysKept_15 (tgt := 36) (by decide) (fun c15 => ?_) (fun c15 => ?_)
      · have b15 : (keptQ S (ix p)) = false := bz_eq0 c15
        refine J_aload_n hC dX5_daysKept_36 rfl rfl ?_
        refine J_iconst hC dX5_daysKept_37 (v := 2) (by decide) ?_
        refine J_callV (k1 := 0) (n1 := 0) (kd := 6) [.int 2] [.int 2, rv m] hC lv_X5_116 (ct_X5_fails hst (M := (pI M m 0 0)) a0 2) a0.t (by decide) ⟨_, mE_6 a0.t⟩ rfl rfl rfl (by simp only [List.map_cons, List.map_nil, rv_cat, Value.category, List.sum_cons, List.sum_nil]; decide) (by decide) rfl rfl (by decide) (by decide) dX5_daysKept_38 (fun E M9 h => h.elim) (fun v9 M9 hq9 => ?_)
        obtain ⟨rfl, rfl⟩ := hq9
        refine J_iret hC (by decide) (by decide) dX5_daysKept_41 ?_
        rw [pI_pI]
        refine op_no hM hlt (k := 2) ?_ rfl
        simp [oDaysKept, hp, b15]
      · have b15 : (keptQ S (ix p)) = true := bz_ne0 c15
        refine J_aload_n hC dX5_daysKept_18 rfl rfl ?_
        refine J_get6 hC lf_X5_74 (j := 31) a0.t (v := rv (mR M m 31)) rfl dX5_daysKept_19 ?_
        refine J_iload_n hC dX5_daysKept_22 rfl rfl ?_
        refine J_iald hC a0.a31 (j := (ix p)) (isIx_ix hp).1 (Nat.lt_of_lt_of_eq (by omega) a0.l31.symm) dX5_daysKept_23 ?_
        rw [show mI (pI M m 0 0) (mR M m 31) (ix p) = sQ S (ix p) 3 from ((up2_b _ _ _ _ (a0.ne (by decide) (by decide)).symm : mI (pI M m 0 0) (mR M m 31) (ix p) = mI M (mR M m 31) (ix p)).trans ((a1.p1 _ xp (kept_ne b15)).2))]
        refine J_sipush hC dX5_daysKept_24 (v := 361) (by decide) ?_
        refine J_iadd hC dX5_daysKept_27 ?_
        refine J_aload_n hC dX5_daysKept_28 rfl rfl ?_
        refine J_get6 hC lf_X5_97 (j := 5) a0.t (v := .int (sD S)) (congrArg (fun z => some (Value.int z)) ((up2_k _ _ _ (by decide) : mI (pI M m 0 0) m 5 = mI M m 5).trans a1.s5)) dX5_daysKept_29 ?_
        refine J_isub hC dX5_daysKept_32 ?_
        refine J_goto hC dX5_daysKept_33 (tgt := 41) (by decide) ?_
        refine J_iret hC (by decide) (by decide) dX5_daysKept_41 ?_
        refine op_ok hM hlt ?_
        simp [oDaysKept, bz, hp, b15]
    · exact absurd c5 (by decide)
  · refine J_if_ne hC dX5_daysKept_5 (tgt := 10) (by decide) (fun c5 => ?_) (fun c5 => ?_)
    · exact absurd c5 (by decide)
    · refine J_iconst hC dX5_daysKept_8 (v := 0) (by decide) ?_
      refine J_iret hC (by decide) (by decide) dX5_daysKept_9 ?_
      refine op_no hM hlt (k := 1) ?_ rfl
      simp [oDaysKept, np]
