/-! what a public call of the class answers and makes -/
def OkC (M : Mm) (x : Nat) (R : Res) (r9 : Option Value) (M9 : Mm) : Prop := R.1 = 0 ∧ r9 = some R.2.1 ∧ CAt M9 x R.2.2 ∧ Fr pC M M9
def ExC (M : Mm) (x : Nat) (S : St) (R : Res) (es : List String) (E : String) (M9 : Mm) : Prop := ∃ k, es[k]? = some E ∧ R = no (k + 1) S ∧ CAt M9 x S ∧ Fr pC M M9
theorem okc {M : Mm} {x : Nat} {S : St} {R : Res} {v : Value} (hM : CAt M x S) (h : R = (0, v, S)) : OkC M x R (some v) M := by subst h; exact ⟨rfl, rfl, hM, Fr.rf _ _⟩
theorem exc {M : Mm} {x : Nat} {S : St} {R : Res} {es : List String} {E : String} {k : Nat} (hM : CAt M x S) (he : es[k]? = some E) (h : R = no (k + 1) S) : ExC M x S R es E M := ⟨k, he, h, hM, Fr.rf _ _⟩
theorem kind_nar {c : Int32} (h : kindOk c = true) : narrow .char (.int c) = .int c := by
  have h1 := of_decide_eq_true h
  rcases h1 with h1 | h1 | h1 | h1 <;> rw [h1] <;> decide
theorem state_nar {c : Int32} (h : c = 111 ∨ c = 117 ∨ c = 119) : narrow .char (.int c) = .int c := by
  rcases h with h1 | h1 | h1 <;> rw [h1] <;> decide
theorem lien_0 {S : St} {i : Nat} {c : Int32} (h : lienQ S i c = 0) : lendOk c = false ∨ sL S i (ix (c - 97)) = 0 := by
  unfold lienQ at h
  by_cases g : lendOk c = true
  · rw [if_pos g] at h; exact Or.inr h
  · exact Or.inl (by simpa using g)
theorem lien_1 {S : St} {i : Nat} {c : Int32} (h : lienQ S i c ≠ 0) : lendOk c = true ∧ sL S i (ix (c - 97)) ≠ 0 := by
  unfold lienQ at h
  by_cases g : lendOk c = true
  · rw [if_pos g] at h; exact ⟨g, h⟩
  · rw [if_neg g] at h; exact absurd rfl h
theorem lienQ_y {S : St} {i : Nat} {c : Int32} (h : lendOk c = true) : lienQ S i c = sL S i (ix (c - 97)) := by unfold lienQ; rw [if_pos h]
theorem dayI_y {l : Tl} {k : Int32} (h : isIx k l.length = true) : dayI l k = (l.getD (ix k) (0, 0)).1 := by unfold dayI; rw [if_pos h]
theorem ct_X4_day {G : Gt} {l : Launch} (hst : l.stackTraces = false) {M : Mm} {x : Nat} {S : St} {t : Nat} (hM : CAt M x S) (hI : Inv S t)  : Ct G l yX4_day cX4_day 1 (some .int) 1 M [rv x] 8 48 (OkC M x (oDay S)) (ExC M x S (oDay S) []) := by
  obtain ⟨bK, bV, bP, bN⟩ := hM.b
  refine Ct_intro (own := RX4) (nm := "day") (by decide +kernel) rfl rfl hst (fun w hw => by simp only [List.mem_cons, List.not_mem_nil, or_false] at hw; rcases hw with rfl <;> first | rfl | exact rv_cat _) (Nat.le_of_ble_eq_true rfl) (fun γ hC => ?_)
  show J G γ M 0 [some (rv x)] [] 0 0
  refine J_aload_n hC dX4_day_0 rfl rfl ?_
  refine J_get5 hC lf_X4_48 (j := 10) hM.tx (v := .int (sD S)) (congrArg (fun z => some (Value.int z)) hM.c10) dX4_day_1 ?_
  refine J_iret hC (by decide) (by decide) dX4_day_4 ?_
  refine okc hM ?_
  simp [oDay, bz]
theorem ct_X4_vehicles {G : Gt} {l : Launch} (hst : l.stackTraces = false) {M : Mm} {x : Nat} {S : St} {t : Nat} (hM : CAt M x S) (hI : Inv S t)  : Ct G l yX4_vehicles cX4_vehicles 1 (some .int) 1 M [rv x] 8 48 (OkC M x (oVehicles S)) (ExC M x S (oVehicles S) []) := by
  obtain ⟨bK, bV, bP, bN⟩ := hM.b
  refine Ct_intro (own := RX4) (nm := "vehicles") (by decide +kernel) rfl rfl hst (fun w hw => by simp only [List.mem_cons, List.not_mem_nil, or_false] at hw; rcases hw with rfl <;> first | rfl | exact rv_cat _) (Nat.le_of_ble_eq_true rfl) (fun γ hC => ?_)
  show J G γ M 0 [some (rv x)] [] 0 0
  refine J_aload_n hC dX4_vehicles_0 rfl rfl ?_
  refine J_get5 hC lf_X4_149 (j := 7) hM.tx (v := .int (nI (sN S 1))) (congrArg (fun z => some (Value.int z)) hM.c7) dX4_vehicles_1 ?_
  refine J_iret hC (by decide) (by decide) dX4_vehicles_4 ?_
  refine okc hM ?_
  simp [oVehicles, bz]
theorem ct_X4_plates {G : Gt} {l : Launch} (hst : l.stackTraces = false) {M : Mm} {x : Nat} {S : St} {t : Nat} (hM : CAt M x S) (hI : Inv S t)  : Ct G l yX4_plates cX4_plates 1 (some .int) 1 M [rv x] 8 48 (OkC M x (oPlates S)) (ExC M x S (oPlates S) []) := by
  obtain ⟨bK, bV, bP, bN⟩ := hM.b
  refine Ct_intro (own := RX4) (nm := "plates") (by decide +kernel) rfl rfl hst (fun w hw => by simp only [List.mem_cons, List.not_mem_nil, or_false] at hw; rcases hw with rfl <;> first | rfl | exact rv_cat _) (Nat.le_of_ble_eq_true rfl) (fun γ hC => ?_)
  show J G γ M 0 [some (rv x)] [] 0 0
  refine J_aload_n hC dX4_plates_0 rfl rfl ?_
  refine J_get5 hC lf_X4_273 (j := 8) hM.tx (v := .int (nI (sN S 2))) (congrArg (fun z => some (Value.int z)) hM.c8) dX4_plates_1 ?_
  refine J_iret hC (by decide) (by decide) dX4_plates_4 ?_
  refine okc hM ?_
  simp [oPlates, bz]
theorem ct_X4_collected {G : Gt} {l : Launch} (hst : l.stackTraces = false) {M : Mm} {x : Nat} {S : St} {t : Nat} (hM : CAt M x S) (hI : Inv S t)  : Ct G l yX4_collected cX4_collected 1 (some .long) 1 M [rv x] 8 48 (OkC M x (oCollected S)) (ExC M x S (oCollected S) []) := by
  obtain ⟨bK, bV, bP, bN⟩ := hM.b
  refine Ct_intro (own := RX4) (nm := "collected") (by decide +kernel) rfl rfl hst (fun w hw => by simp only [List.mem_cons, List.not_mem_nil, or_false] at hw; rcases hw with rfl <;> first | rfl | exact rv_cat _) (Nat.le_of_ble_eq_true rfl) (fun γ hC => ?_)
  show J G γ M 0 [some (rv x)] [] 0 0
  refine J_aload_n hC dX4_collected_0 rfl rfl ?_
  refine J_get5 hC lf_X4_302 (j := 11) hM.tx (v := .long (sC S)) (congrArg (fun z => some (Value.long z)) hM.c11) dX4_collected_1 ?_
  refine J_lret hC (by decide) (by decide) dX4_collected_4 ?_
  refine okc hM ?_
  simp [oCollected, bz]
theorem ct_X4_isOnRoad {G : Gt} {l : Launch} (hst : l.stackTraces = false) {M : Mm} {x : Nat} {S : St} {t : Nat} (hM : CAt M x S) (hI : Inv S t) (v d : Int32) : Ct G l yX4_isOnRoad cX4_isOnRoad 4 (some .boolean) 7 M [rv x, .int v, .int d] 8 48 (OkC M x (oIsOnRoad S v d)) (ExC M x S (oIsOnRoad S v d) [eIO, eIA]) := by
  obtain ⟨bK, bV, bP, bN⟩ := hM.b
  refine Ct_intro (own := RX4) (nm := "isOnRoad") (by decide +kernel) rfl rfl hst (fun w hw => by simp only [List.mem_cons, List.not_mem_nil, or_false] at hw; rcases hw with rfl | rfl | rfl <;> first | rfl | exact rv_cat _) (Nat.le_of_ble_eq_true rfl) (fun γ hC => ?_)
  show J G γ M 0 [some (rv x), some (.int v), some (.int d)] [] 0 0
  refine J_aload_n hC dX4_isOnRoad_0 rfl rfl ?_
  refine J_iload_n hC dX4_isOnRoad_1 rfl rfl ?_
  refine J_callV (k1 := 1) (n1 := 6) (kd := 5) [.int v] [.int v, rv x] hC lv_X4_81 (ct_X4_vehicleAt hst hM v) hM.tx (by decide) ⟨_, mE_5 hM.tx⟩ rfl rfl rfl (by simp only [List.map_cons, List.map_nil, rv_cat, Value.category, List.sum_cons, List.sum_nil]; decide) (by decide) rfl rfl (by decide) (by decide) dX4_isOnRoad_2 (fun E M9 hx => by
        obtain ⟨rfl, rfl, nv⟩ := hx
        exact exc hM (k := 0) rfl (by simp [oIsOnRoad, nv])) (fun v9 M9 hq9 => ?_)
  obtain ⟨rfl, e9, hv⟩ := hq9
  rw [e9]; clear e9
  have xv := (isIx_ix hv).2
  obtain ⟨av, eav⟩ : ∃ z, z = mR M (mR M x 0) (ix v) := ⟨_, rfl⟩
  have wv : VeA M av (ix v) S := by rw [eav]; exact hM.v.1 _ xv
  show J G γ M _ _ (rv (mR M (mR M x 0) (ix v)) :: _) _ _
  rw [← eav]
  refine J_astore_n hC dX4_isOnRoad_5 rfl (by decide) (ls1 := [some (rv x), some (.int v), some (.int d), some (rv av)]) rfl ?_
  refine J_aload_n hC dX4_isOnRoad_6 rfl rfl ?_
  refine J_iload_n hC dX4_isOnRoad_7 rfl rfl ?_
  refine J_callV (k1 := 2) (n1 := 12) (kd := 5) [.int d] [.int d, rv x] hC lv_X4_125 (ct_X4_requireDay hst hM d) hM.tx (by decide) ⟨_, mE_5 hM.tx⟩ rfl rfl rfl (by simp only [List.map_cons, List.map_nil, rv_cat, Value.category, List.sum_cons, List.sum_nil]; decide) (by decide) rfl rfl (by decide) (by decide) dX4_isOnRoad_8 (fun E M9 hx => by
        obtain ⟨rfl, rfl, ndd⟩ := hx
        exact exc hM (k := 1) rfl (by simp [oIsOnRoad, hv, ndd])) (fun v9 M9 hq9 => ?_)
  obtain ⟨rfl, e9, hdd⟩ := hq9
  rw [e9]; clear e9
  refine J_aload_n hC dX4_isOnRoad_11 rfl rfl ?_
  refine J_get4 hC lf_X4_118 (j := 4) wv.tg (v := rv (mR M av 4)) rfl dX4_isOnRoad_12 ?_
  refine J_iload_n hC dX4_isOnRoad_15 rfl rfl ?_
  refine J_callV (k1 := 2) (n1 := 12) (kd := 3) [.int d] [.int d, rv (mR M av 4)] hC lv_X4_128 (ct_X2_at hst wv.T4 d (hI.ts _ xv 2 (by decide)).2) wv.k4 (by decide) ⟨_, mE_3 wv.k4⟩ rfl rfl rfl (by simp only [List.map_cons, List.map_nil, rv_cat, Value.category, List.sum_cons, List.sum_nil]; decide) (by decide) rfl rfl (by decide) (by decide) dX4_isOnRoad_16 (fun E M9 h => h.elim) (fun v9 M9 hq9 => ?_)
  obtain ⟨rfl, e9⟩ := hq9
  rw [e9]; clear e9
  refine J_iconst hC dX4_isOnRoad_19 (v := 1) (by decide) ?_
  refine J_icmp_ne hC dX4_isOnRoad_20 (tgt := 27) (by decide) (fun c20 => ?_) (fun c20 => ?_)
  · have q20 : ¬ look (sT S 2 (ix v)) d = 1 := c20
    refine J_iconst hC dX4_isOnRoad_27 (v := 0) (by decide) ?_
    refine J_zret hC (by decide) (by decide) (by decide) dX4_isOnRoad_28 ?_
    refine okc hM ?_
    simp [oIsOnRoad, q20, hv, hdd, bz]
  · have q20 : look (sT S 2 (ix v)) d = 1 := (nn c20)
    refine J_iconst hC dX4_isOnRoad_23 (v := 1) (by decide) ?_
    refine J_goto hC dX4_isOnRoad_24 (tgt := 28) (by decide) ?_
    refine J_zret hC (by decide) (by decide) (by decide) dX4_isOnRoad_28 ?_
    refine okc hM ?_
    simp [oIsOnRoad, q20, hv, hdd, bz]
theorem ct_X4_kindOf {G : Gt} {l : Launch} (hst : l.stackTraces = false) {M : Mm} {x : Nat} {S : St} {t : Nat} (hM : CAt M x S) (hI : Inv S t) (v : Int32) : Ct G l yX4_kindOf cX4_kindOf 2 (some .char) 7 M [rv x, .int v] 8 48 (OkC M x (oKindOf S v)) (ExC M x S (oKindOf S v) [eIO]) := by
  obtain ⟨bK, bV, bP, bN⟩ := hM.b
  refine Ct_intro (own := RX4) (nm := "kindOf") (by decide +kernel) rfl rfl hst (fun w hw => by simp only [List.mem_cons, List.not_mem_nil, or_false] at hw; rcases hw with rfl | rfl <;> first | rfl | exact rv_cat _) (Nat.le_of_ble_eq_true rfl) (fun γ hC => ?_)
  show J G γ M 0 [some (rv x), some (.int v)] [] 0 0
  refine J_aload_n hC dX4_kindOf_0 rfl rfl ?_
  refine J_iload_n hC dX4_kindOf_1 rfl rfl ?_
  refine J_callV (k1 := 1) (n1 := 6) (kd := 5) [.int v] [.int v, rv x] hC lv_X4_81 (ct_X4_vehicleAt hst hM v) hM.tx (by decide) ⟨_, mE_5 hM.tx⟩ rfl rfl rfl (by simp only [List.map_cons, List.map_nil, rv_cat, Value.category, List.sum_cons, List.sum_nil]; decide) (by decide) rfl rfl (by decide) (by decide) dX4_kindOf_2 (fun E M9 hx => by
        obtain ⟨rfl, rfl, nv⟩ := hx
        exact exc hM (k := 0) rfl (by simp [oKindOf, nv])) (fun v9 M9 hq9 => ?_)
  obtain ⟨rfl, e9, hv⟩ := hq9
  rw [e9]; clear e9
  have xv := (isIx_ix hv).2
  obtain ⟨av, eav⟩ : ∃ z, z = mR M (mR M x 0) (ix v) := ⟨_, rfl⟩
  have wv : VeA M av (ix v) S := by rw [eav]; exact hM.v.1 _ xv
  show J G γ M _ _ (rv (mR M (mR M x 0) (ix v)) :: _) _ _
  rw [← eav]
  refine J_get4 hC lf_X4_145 (j := 1) wv.tg (v := .int (sV S (ix v) 1)) (congrArg (fun z => some (Value.int z)) wv.v1) dX4_kindOf_5 ?_
  refine J_zret hC (by decide) (by decide) (kind_nar (hI.kd _ xv)) dX4_kindOf_8 ?_
  refine okc hM ?_
  simp [oKindOf, hv, bz]
theorem ct_X4_stateOf {G : Gt} {l : Launch} (hst : l.stackTraces = false) {M : Mm} {x : Nat} {S : St} {t : Nat} (hM : CAt M x S) (hI : Inv S t) (v : Int32) : Ct G l yX4_stateOf cX4_stateOf 2 (some .char) 7 M [rv x, .int v] 8 48 (OkC M x (oStateOf S v)) (ExC M x S (oStateOf S v) [eNS]) := by
  obtain ⟨bK, bV, bP, bN⟩ := hM.b
  refine Ct_intro (own := RX4) (nm := "stateOf") (by decide +kernel) rfl rfl hst (fun w hw => by simp only [List.mem_cons, List.not_mem_nil, or_false] at hw; rcases hw with rfl | rfl <;> first | rfl | exact rv_cat _) (Nat.le_of_ble_eq_true rfl) (fun γ hC => ?_)
  show J G γ M 0 [some (rv x), some (.int v)] [] 0 0
  refine J_aload_n hC dX4_stateOf_0 rfl rfl ?_
  refine J_iload_n hC dX4_stateOf_1 rfl rfl ?_
  refine J_callV (k1 := 1) (n1 := 6) (kd := 5) [.int v] [.int v, rv x] hC lv_X4_161 (ct_X4_noticeAt hst hM v) hM.tx (by decide) ⟨_, mE_5 hM.tx⟩ rfl rfl rfl (by simp only [List.map_cons, List.map_nil, rv_cat, Value.category, List.sum_cons, List.sum_nil]; decide) (by decide) rfl rfl (by decide) (by decide) dX4_stateOf_2 (fun E M9 hx => by
        obtain ⟨rfl, rfl, nv⟩ := hx
        exact exc hM (k := 0) rfl (by simp [oStateOf, nv])) (fun v9 M9 hq9 => ?_)
  obtain ⟨rfl, e9, hv⟩ := hq9
  rw [e9]; clear e9
  have xv := (isIx_ix hv).2
  obtain ⟨av, eav⟩ : ∃ z, z = mR M (mR M x 2) (ix v) := ⟨_, rfl⟩
  have wv : NtA M av (ix v) S := by rw [eav]; exact hM.o.1 _ xv
  show J G γ M _ _ (rv (mR M (mR M x 2) (ix v)) :: _) _ _
  rw [← eav]
  refine J_get1 hC lf_X4_165 (j := 5) wv.tg (v := .int (sO S (ix v) 5)) (congrArg (fun z => some (Value.int z)) wv.v5) dX4_stateOf_5 ?_
  refine J_zret hC (by decide) (by decide) (state_nar (hI.n5 _ xv)) dX4_stateOf_8 ?_
  refine okc hM ?_
  simp [oStateOf, hv, bz]
theorem ct_X4_partnerOf {G : Gt} {l : Launch} (hst : l.stackTraces = false) {M : Mm} {x : Nat} {S : St} {t : Nat} (hM : CAt M x S) (hI : Inv S t) (v : Int32) : Ct G l yX4_partnerOf cX4_partnerOf 3 (some .int) 7 M [rv x, .int v] 8 48 (OkC M x (oPartnerOf S v)) (ExC M x S (oPartnerOf S v) [eNS, eIS]) := by
  obtain ⟨bK, bV, bP, bN⟩ := hM.b
  refine Ct_intro (own := RX4) (nm := "partnerOf") (by decide +kernel) rfl rfl hst (fun w hw => by simp only [List.mem_cons, List.not_mem_nil, or_false] at hw; rcases hw with rfl | rfl <;> first | rfl | exact rv_cat _) (Nat.le_of_ble_eq_true rfl) (fun γ hC => ?_)
  show J G γ M 0 [some (rv x), some (.int v)] [] 0 0
  refine J_aload_n hC dX4_partnerOf_0 rfl rfl ?_
  refine J_iload_n hC dX4_partnerOf_1 rfl rfl ?_
  refine J_callV (k1 := 1) (n1 := 6) (kd := 5) [.int v] [.int v, rv x] hC lv_X4_161 (ct_X4_noticeAt hst hM v) hM.tx (by decide) ⟨_, mE_5 hM.tx⟩ rfl rfl rfl (by simp only [List.map_cons, List.map_nil, rv_cat, Value.category, List.sum_cons, List.sum_nil]; decide) (by decide) rfl rfl (by decide) (by decide) dX4_partnerOf_2 (fun E M9 hx => by
        obtain ⟨rfl, rfl, nv⟩ := hx
        exact exc hM (k := 0) rfl (by simp [oPartnerOf, nv])) (fun v9 M9 hq9 => ?_)
  obtain ⟨rfl, e9, hv⟩ := hq9
  rw [e9]; clear e9
  have xv := (isIx_ix hv).2
  obtain ⟨av, eav⟩ : ∃ z, z = mR M (mR M x 2) (ix v) := ⟨_, rfl⟩
  have wv : NtA M av (ix v) S := by rw [eav]; exact hM.o.1 _ xv
  show J G γ M _ _ (rv (mR M (mR M x 2) (ix v)) :: _) _ _
  rw [← eav]
  refine J_astore_n hC dX4_partnerOf_5 rfl (by decide) (ls1 := [some (rv x), some (.int v), some (rv av)]) rfl ?_
  refine J_aload_n hC dX4_partnerOf_6 rfl rfl ?_
  refine J_get1 hC lf_X4_165 (j := 5) wv.tg (v := .int (sO S (ix v) 5)) (congrArg (fun z => some (Value.int z)) wv.v5) dX4_partnerOf_7 ?_
  refine J_bipush hC dX4_partnerOf_10 (v := 117) (by decide) ?_
  refine J_icmp_eq hC dX4_partnerOf_12 (tgt := 25) (by decide) (fun c12 => ?_) (fun c12 => ?_)
  · have q12 : sO S (ix v) 5 = 117 := c12
    refine J_aload_n hC dX4_partnerOf_25 rfl rfl ?_
    refine J_get1 hC lf_X4_175 (j := 6) wv.tg (v := .int (sO S (ix v) 6)) (congrArg (fun z => some (Value.int z)) wv.v6) dX4_partnerOf_26 ?_
    refine J_iret hC (by decide) (by decide) dX4_partnerOf_29 ?_
    refine okc hM ?_
    simp [oPartnerOf, q12, hv, bz]
  · have q12 : ¬ sO S (ix v) 5 = 117 := c12
    refine J_throw hC lt_41 (by decide +kernel : (RX4, 173, "the notice was not used") ∈ strT) (by decide) (by decide) (by decide) (by decide) dX4_partnerOf_15 dX4_partnerOf_18 dX4_partnerOf_19 dX4_partnerOf_21 dX4_partnerOf_24 ?_
    exact exc hM (k := 1) rfl (by simp [oPartnerOf, q12, hv])
theorem ct_X4_keeperOn {G : Gt} {l : Launch} (hst : l.stackTraces = false) {M : Mm} {x : Nat} {S : St} {t : Nat} (hM : CAt M x S) (hI : Inv S t) (v d : Int32) : Ct G l yX4_keeperOn cX4_keeperOn 4 (some .int) 7 M [rv x, .int v, .int d] 8 48 (OkC M x (oLookT 0 S v d)) (ExC M x S (oLookT 0 S v d) [eIO, eIA, eNS]) := by
  obtain ⟨bK, bV, bP, bN⟩ := hM.b
  refine Ct_intro (own := RX4) (nm := "keeperOn") (by decide +kernel) rfl rfl hst (fun w hw => by simp only [List.mem_cons, List.not_mem_nil, or_false] at hw; rcases hw with rfl | rfl | rfl <;> first | rfl | exact rv_cat _) (Nat.le_of_ble_eq_true rfl) (fun γ hC => ?_)
  show J G γ M 0 [some (rv x), some (.int v), some (.int d)] [] 0 0
  refine J_aload_n hC dX4_keeperOn_0 rfl rfl ?_
  refine J_iload_n hC dX4_keeperOn_1 rfl rfl ?_
  refine J_callV (k1 := 1) (n1 := 6) (kd := 5) [.int v] [.int v, rv x] hC lv_X4_81 (ct_X4_vehicleAt hst hM v) hM.tx (by decide) ⟨_, mE_5 hM.tx⟩ rfl rfl rfl (by simp only [List.map_cons, List.map_nil, rv_cat, Value.category, List.sum_cons, List.sum_nil]; decide) (by decide) rfl rfl (by decide) (by decide) dX4_keeperOn_2 (fun E M9 hx => by
        obtain ⟨rfl, rfl, nv⟩ := hx
        exact exc hM (k := 0) rfl (by simp [oLookT, nv])) (fun v9 M9 hq9 => ?_)
  obtain ⟨rfl, e9, hv⟩ := hq9
  rw [e9]; clear e9
  have xv := (isIx_ix hv).2
  obtain ⟨av, eav⟩ : ∃ z, z = mR M (mR M x 0) (ix v) := ⟨_, rfl⟩
  have wv : VeA M av (ix v) S := by rw [eav]; exact hM.v.1 _ xv
  show J G γ M _ _ (rv (mR M (mR M x 0) (ix v)) :: _) _ _
  rw [← eav]
  refine J_astore_n hC dX4_keeperOn_5 rfl (by decide) (ls1 := [some (rv x), some (.int v), some (.int d), some (rv av)]) rfl ?_
  refine J_aload_n hC dX4_keeperOn_6 rfl rfl ?_
  refine J_iload_n hC dX4_keeperOn_7 rfl rfl ?_
  refine J_callV (k1 := 2) (n1 := 12) (kd := 5) [.int d] [.int d, rv x] hC lv_X4_125 (ct_X4_requireDay hst hM d) hM.tx (by decide) ⟨_, mE_5 hM.tx⟩ rfl rfl rfl (by simp only [List.map_cons, List.map_nil, rv_cat, Value.category, List.sum_cons, List.sum_nil]; decide) (by decide) rfl rfl (by decide) (by decide) dX4_keeperOn_8 (fun E M9 hx => by
        obtain ⟨rfl, rfl, ndd⟩ := hx
        exact exc hM (k := 1) rfl (by simp [oLookT, hv, ndd])) (fun v9 M9 hq9 => ?_)
  obtain ⟨rfl, e9, hdd⟩ := hq9
  rw [e9]; clear e9
  refine J_aload_n hC dX4_keeperOn_11 rfl rfl ?_
  refine J_get4 hC lf_X4_182 (j := 2) wv.tg (v := rv (mR M av 2)) rfl dX4_keeperOn_12 ?_
  refine J_iload_n hC dX4_keeperOn_15 rfl rfl ?_
  refine J_callV (k1 := 2) (n1 := 12) (kd := 3) [.int d] [.int d, rv (mR M av 2)] hC lv_X4_128 (ct_X2_at hst wv.T2 d (hI.ts _ xv 0 (by decide)).2) wv.k2 (by decide) ⟨_, mE_3 wv.k2⟩ rfl rfl rfl (by simp only [List.map_cons, List.map_nil, rv_cat, Value.category, List.sum_cons, List.sum_nil]; decide) (by decide) rfl rfl (by decide) (by decide) dX4_keeperOn_16 (fun E M9 h => h.elim) (fun v9 M9 hq9 => ?_)
  obtain ⟨rfl, e9⟩ := hq9
  rw [e9]; clear e9
  refine J_callS (k1 := 3) (n1 := 18) [.int (look (sT S 0 (ix v)) d)] [.int (look (sT S 0 (ix v)) d)] hC ls_X4_185 (ct_X4_found hst (look (sT S 0 (ix v)) d)) rfl rfl (by simp only [List.map_cons, List.map_nil, rv_cat, Value.category, List.sum_cons, List.sum_nil]; decide) (by decide) rfl rfl (by decide) (by decide) dX4_keeperOn_19 (fun E M9 hx => by
        obtain ⟨rfl, rfl, hnf⟩ := hx
        exact exc hM (k := 2) rfl (by simp [oLookT, hv, hdd, hnf])) (fun v9 M9 hq9 => ?_)
  obtain ⟨rfl, e9, hfd⟩ := hq9
  rw [e9]; clear e9
  refine J_iret hC (by decide) (by decide) dX4_keeperOn_22 ?_
  refine okc hM ?_
  simp [oLookT, hv, hdd, hfd, bz]
theorem ct_X4_keeperByGoing {G : Gt} {l : Launch} (hst : l.stackTraces = false) {M : Mm} {x : Nat} {S : St} {t : Nat} (hM : CAt M x S) (hI : Inv S t) (v d : Int32) : Ct G l yX4_keeperByGoing cX4_keeperByGoing 4 (some .int) 7 M [rv x, .int v, .int d] 8 48 (OkC M x (oLookT 0 S v d)) (ExC M x S (oLookT 0 S v d) [eIO, eIA, eNS]) := by
  obtain ⟨bK, bV, bP, bN⟩ := hM.b
  refine Ct_intro (own := RX4) (nm := "keeperByGoing") (by decide +kernel) rfl rfl hst (fun w hw => by simp only [List.mem_cons, List.not_mem_nil, or_false] at hw; rcases hw with rfl | rfl | rfl <;> first | rfl | exact rv_cat _) (Nat.le_of_ble_eq_true rfl) (fun γ hC => ?_)
  show J G γ M 0 [some (rv x), some (.int v), some (.int d)] [] 0 0
  refine J_aload_n hC dX4_keeperByGoing_0 rfl rfl ?_
  refine J_iload_n hC dX4_keeperByGoing_1 rfl rfl ?_
  refine J_callV (k1 := 1) (n1 := 6) (kd := 5) [.int v] [.int v, rv x] hC lv_X4_81 (ct_X4_vehicleAt hst hM v) hM.tx (by decide) ⟨_, mE_5 hM.tx⟩ rfl rfl rfl (by simp only [List.map_cons, List.map_nil, rv_cat, Value.category, List.sum_cons, List.sum_nil]; decide) (by decide) rfl rfl (by decide) (by decide) dX4_keeperByGoing_2 (fun E M9 hx => by
        obtain ⟨rfl, rfl, nv⟩ := hx
        exact exc hM (k := 0) rfl (by simp [oLookT, nv])) (fun v9 M9 hq9 => ?_)
  obtain ⟨rfl, e9, hv⟩ := hq9
  rw [e9]; clear e9
  have xv := (isIx_ix hv).2
  obtain ⟨av, eav⟩ : ∃ z, z = mR M (mR M x 0) (ix v) := ⟨_, rfl⟩
  have wv : VeA M av (ix v) S := by rw [eav]; exact hM.v.1 _ xv
  show J G γ M _ _ (rv (mR M (mR M x 0) (ix v)) :: _) _ _
  rw [← eav]
  refine J_astore_n hC dX4_keeperByGoing_5 rfl (by decide) (ls1 := [some (rv x), some (.int v), some (.int d), some (rv av)]) rfl ?_
  refine J_aload_n hC dX4_keeperByGoing_6 rfl rfl ?_
  refine J_iload_n hC dX4_keeperByGoing_7 rfl rfl ?_
  refine J_callV (k1 := 2) (n1 := 12) (kd := 5) [.int d] [.int d, rv x] hC lv_X4_125 (ct_X4_requireDay hst hM d) hM.tx (by decide) ⟨_, mE_5 hM.tx⟩ rfl rfl rfl (by simp only [List.map_cons, List.map_nil, rv_cat, Value.category, List.sum_cons, List.sum_nil]; decide) (by decide) rfl rfl (by decide) (by decide) dX4_keeperByGoing_8 (fun E M9 hx => by
        obtain ⟨rfl, rfl, ndd⟩ := hx
        exact exc hM (k := 1) rfl (by simp [oLookT, hv, ndd])) (fun v9 M9 hq9 => ?_)
  obtain ⟨rfl, e9, hdd⟩ := hq9
  rw [e9]; clear e9
  refine J_aload_n hC dX4_keeperByGoing_11 rfl rfl ?_
  refine J_get4 hC lf_X4_182 (j := 2) wv.tg (v := rv (mR M av 2)) rfl dX4_keeperByGoing_12 ?_
  refine J_iload_n hC dX4_keeperByGoing_15 rfl rfl ?_
  refine J_callV (k1 := 2) (n1 := 12) (kd := 3) [.int d] [.int d, rv (mR M av 2)] hC lv_X4_188 (ct_X2_atByGoing hst wv.T2 d (hI.ts _ xv 0 (by decide)).2) wv.k2 (by decide) ⟨_, mE_3 wv.k2⟩ rfl rfl rfl (by simp only [List.map_cons, List.map_nil, rv_cat, Value.category, List.sum_cons, List.sum_nil]; decide) (by decide) rfl rfl (by decide) (by decide) dX4_keeperByGoing_16 (fun E M9 h => h.elim) (fun v9 M9 hq9 => ?_)
  obtain ⟨rfl, e9⟩ := hq9
  rw [e9]; clear e9
  refine J_callS (k1 := 3) (n1 := 18) [.int (look (sT S 0 (ix v)) d)] [.int (look (sT S 0 (ix v)) d)] hC ls_X4_185 (ct_X4_found hst (look (sT S 0 (ix v)) d)) rfl rfl (by simp only [List.map_cons, List.map_nil, rv_cat, Value.category, List.sum_cons, List.sum_nil]; decide) (by decide) rfl rfl (by decide) (by decide) dX4_keeperByGoing_19 (fun E M9 hx => by
        obtain ⟨rfl, rfl, hnf⟩ := hx
        exact exc hM (k := 2) rfl (by simp [oLookT, hv, hdd, hnf])) (fun v9 M9 hq9 => ?_)
  obtain ⟨rfl, e9, hfd⟩ := hq9
  rw [e9]; clear e9
  refine J_iret hC (by decide) (by decide) dX4_keeperByGoing_22 ?_
  refine okc hM ?_
  simp [oLookT, hv, hdd, hfd, bz]
theorem ct_X4_plateOn {G : Gt} {l : Launch} (hst : l.stackTraces = false) {M : Mm} {x : Nat} {S : St} {t : Nat} (hM : CAt M x S) (hI : Inv S t) (v d : Int32) : Ct G l yX4_plateOn cX4_plateOn 4 (some .int) 7 M [rv x, .int v, .int d] 8 48 (OkC M x (oLookT 1 S v d)) (ExC M x S (oLookT 1 S v d) [eIO, eIA, eNS]) := by
  obtain ⟨bK, bV, bP, bN⟩ := hM.b
  refine Ct_intro (own := RX4) (nm := "plateOn") (by decide +kernel) rfl rfl hst (fun w hw => by simp only [List.mem_cons, List.not_mem_nil, or_false] at hw; rcases hw with rfl | rfl | rfl <;> first | rfl | exact rv_cat _) (Nat.le_of_ble_eq_true rfl) (fun γ hC => ?_)
  show J G γ M 0 [some (rv x), some (.int v), some (.int d)] [] 0 0
  refine J_aload_n hC dX4_plateOn_0 rfl rfl ?_
  refine J_iload_n hC dX4_plateOn_1 rfl rfl ?_
  refine J_callV (k1 := 1) (n1 := 6) (kd := 5) [.int v] [.int v, rv x] hC lv_X4_81 (ct_X4_vehicleAt hst hM v) hM.tx (by decide) ⟨_, mE_5 hM.tx⟩ rfl rfl rfl (by simp only [List.map_cons, List.map_nil, rv_cat, Value.category, List.sum_cons, List.sum_nil]; decide) (by decide) rfl rfl (by decide) (by decide) dX4_plateOn_2 (fun E M9 hx => by
        obtain ⟨rfl, rfl, nv⟩ := hx
        exact exc hM (k := 0) rfl (by simp [oLookT, nv])) (fun v9 M9 hq9 => ?_)
  obtain ⟨rfl, e9, hv⟩ := hq9
  rw [e9]; clear e9
  have xv := (isIx_ix hv).2
  obtain ⟨av, eav⟩ : ∃ z, z = mR M (mR M x 0) (ix v) := ⟨_, rfl⟩
  have wv : VeA M av (ix v) S := by rw [eav]; exact hM.v.1 _ xv
  show J G γ M _ _ (rv (mR M (mR M x 0) (ix v)) :: _) _ _
  rw [← eav]
  refine J_astore_n hC dX4_plateOn_5 rfl (by decide) (ls1 := [some (rv x), some (.int v), some (.int d), some (rv av)]) rfl ?_
  refine J_aload_n hC dX4_plateOn_6 rfl rfl ?_
  refine J_iload_n hC dX4_plateOn_7 rfl rfl ?_
  refine J_callV (k1 := 2) (n1 := 12) (kd := 5) [.int d] [.int d, rv x] hC lv_X4_125 (ct_X4_requireDay hst hM d) hM.tx (by decide) ⟨_, mE_5 hM.tx⟩ rfl rfl rfl (by simp only [List.map_cons, List.map_nil, rv_cat, Value.category, List.sum_cons, List.sum_nil]; decide) (by decide) rfl rfl (by decide) (by decide) dX4_plateOn_8 (fun E M9 hx => by
        obtain ⟨rfl, rfl, ndd⟩ := hx
        exact exc hM (k := 1) rfl (by simp [oLookT, hv, ndd])) (fun v9 M9 hq9 => ?_)
  obtain ⟨rfl, e9, hdd⟩ := hq9
  rw [e9]; clear e9
  refine J_aload_n hC dX4_plateOn_11 rfl rfl ?_
  refine J_get4 hC lf_X4_99 (j := 3) wv.tg (v := rv (mR M av 3)) rfl dX4_plateOn_12 ?_
  refine J_iload_n hC dX4_plateOn_15 rfl rfl ?_
  refine J_callV (k1 := 2) (n1 := 12) (kd := 3) [.int d] [.int d, rv (mR M av 3)] hC lv_X4_128 (ct_X2_at hst wv.T3 d (hI.ts _ xv 1 (by decide)).2) wv.k3 (by decide) ⟨_, mE_3 wv.k3⟩ rfl rfl rfl (by simp only [List.map_cons, List.map_nil, rv_cat, Value.category, List.sum_cons, List.sum_nil]; decide) (by decide) rfl rfl (by decide) (by decide) dX4_plateOn_16 (fun E M9 h => h.elim) (fun v9 M9 hq9 => ?_)
  obtain ⟨rfl, e9⟩ := hq9
  rw [e9]; clear e9
  refine J_callS (k1 := 3) (n1 := 18) [.int (look (sT S 1 (ix v)) d)] [.int (look (sT S 1 (ix v)) d)] hC ls_X4_185 (ct_X4_found hst (look (sT S 1 (ix v)) d)) rfl rfl (by simp only [List.map_cons, List.map_nil, rv_cat, Value.category, List.sum_cons, List.sum_nil]; decide) (by decide) rfl rfl (by decide) (by decide) dX4_plateOn_19 (fun E M9 hx => by
        obtain ⟨rfl, rfl, hnf⟩ := hx
        exact exc hM (k := 2) rfl (by simp [oLookT, hv, hdd, hnf])) (fun v9 M9 hq9 => ?_)
  obtain ⟨rfl, e9, hfd⟩ := hq9
  rw [e9]; clear e9
  refine J_iret hC (by decide) (by decide) dX4_plateOn_22 ?_
  refine okc hM ?_
  simp [oLookT, hv, hdd, hfd, bz]
theorem ct_X4_vehicleWith {G : Gt} {l : Launch} (hst : l.stackTraces = false) {M : Mm} {x : Nat} {S : St} {t : Nat} (hM : CAt M x S) (hI : Inv S t) (v d : Int32) : Ct G l yX4_vehicleWith cX4_vehicleWith 4 (some .int) 7 M [rv x, .int v, .int d] 8 48 (OkC M x (oVehicleWith S v d)) (ExC M x S (oVehicleWith S v d) [eNS, eIA, eIS]) := by
  obtain ⟨bK, bV, bP, bN⟩ := hM.b
  refine Ct_intro (own := RX4) (nm := "vehicleWith") (by decide +kernel) rfl rfl hst (fun w hw => by simp only [List.mem_cons, List.not_mem_nil, or_false] at hw; rcases hw with rfl | rfl | rfl <;> first | rfl | exact rv_cat _) (Nat.le_of_ble_eq_true rfl) (fun γ hC => ?_)
  show J G γ M 0 [some (rv x), some (.int v), some (.int d)] [] 0 0
  refine J_aload_n hC dX4_vehicleWith_0 rfl rfl ?_
  refine J_iload_n hC dX4_vehicleWith_1 rfl rfl ?_
  refine J_callV (k1 := 1) (n1 := 6) (kd := 5) [.int v] [.int v, rv x] hC lv_X4_248 (ct_X4_plateAt hst hM v) hM.tx (by decide) ⟨_, mE_5 hM.tx⟩ rfl rfl rfl (by simp only [List.map_cons, List.map_nil, rv_cat, Value.category, List.sum_cons, List.sum_nil]; decide) (by decide) rfl rfl (by decide) (by decide) dX4_vehicleWith_2 (fun E M9 hx => by
        obtain ⟨rfl, rfl, nv⟩ := hx
        exact exc hM (k := 0) rfl (by simp [oVehicleWith, nv])) (fun v9 M9 hq9 => ?_)
  obtain ⟨rfl, e9, hv⟩ := hq9
  rw [e9]; clear e9
  have xv := (isIx_ix hv).2
  obtain ⟨av, eav⟩ : ∃ z, z = mR M (mR M x 1) (ix v) := ⟨_, rfl⟩
  have wv : PlA M av (ix v) S := by rw [eav]; exact hM.p.1 _ xv
  show J G γ M _ _ (rv (mR M (mR M x 1) (ix v)) :: _) _ _
  rw [← eav]
  refine J_astore_n hC dX4_vehicleWith_5 rfl (by decide) (ls1 := [some (rv x), some (.int v), some (.int d), some (rv av)]) rfl ?_
  refine J_aload_n hC dX4_vehicleWith_6 rfl rfl ?_
  refine J_iload_n hC dX4_vehicleWith_7 rfl rfl ?_
  refine J_callV (k1 := 2) (n1 := 12) (kd := 5) [.int d] [.int d, rv x] hC lv_X4_125 (ct_X4_requireDay hst hM d) hM.tx (by decide) ⟨_, mE_5 hM.tx⟩ rfl rfl rfl (by simp only [List.map_cons, List.map_nil, rv_cat, Value.category, List.sum_cons, List.sum_nil]; decide) (by decide) rfl rfl (by decide) (by decide) dX4_vehicleWith_8 (fun E M9 hx => by
        obtain ⟨rfl, rfl, ndd⟩ := hx
        exact exc hM (k := 1) rfl (by simp [oVehicleWith, hv, ndd])) (fun v9 M9 hq9 => ?_)
  obtain ⟨rfl, e9, hdd⟩ := hq9
  rw [e9]; clear e9
  refine J_aload_n hC dX4_vehicleWith_11 rfl rfl ?_
  refine J_get2 hC lf_X4_265 (j := 1) wv.tg (v := rv (mR M av 1)) rfl dX4_vehicleWith_12 ?_
  refine J_iload_n hC dX4_vehicleWith_15 rfl rfl ?_
  refine J_callV (k1 := 2) (n1 := 12) (kd := 3) [.int d] [.int d, rv (mR M av 1)] hC lv_X4_128 (ct_X2_at hst wv.T1 d (hI.p3 _ xv).2) wv.k1 (by decide) ⟨_, mE_3 wv.k1⟩ rfl rfl rfl (by simp only [List.map_cons, List.map_nil, rv_cat, Value.category, List.sum_cons, List.sum_nil]; decide) (by decide) rfl rfl (by decide) (by decide) dX4_vehicleWith_16 (fun E M9 h => h.elim) (fun v9 M9 hq9 => ?_)
  obtain ⟨rfl, e9⟩ := hq9
  rw [e9]; clear e9
  refine J_callS (k1 := 3) (n1 := 18) [.int (look (sT S 3 (ix v)) d)] [.int (look (sT S 3 (ix v)) d)] hC ls_X4_276 (ct_X4_placeFound hst (look (sT S 3 (ix v)) d)) rfl rfl (by simp only [List.map_cons, List.map_nil, rv_cat, Value.category, List.sum_cons, List.sum_nil]; decide) (by decide) rfl rfl (by decide) (by decide) dX4_vehicleWith_19 (fun E M9 hx => by
        obtain ⟨rfl, rfl, hnf⟩ := hx
        exact exc hM (k := 2) rfl (by simp [oVehicleWith, hv, hdd, hnf])) (fun v9 M9 hq9 => ?_)
  obtain ⟨rfl, e9, hfd⟩ := hq9
  rw [e9]; clear e9
  refine J_iret hC (by decide) (by decide) dX4_vehicleWith_22 ?_
  refine okc hM ?_
  simp [oVehicleWith, hv, hdd, hfd, bz]
theorem ct_X4_isBlocked {G : Gt} {l : Launch} (hst : l.stackTraces = false) {M : Mm} {x : Nat} {S : St} {t : Nat} (hM : CAt M x S) (hI : Inv S t) (v : Int32) : Ct G l yX4_isBlocked cX4_isBlocked 2 (some .boolean) 7 M [rv x, .int v] 8 48 (OkC M x (oIsBlocked S v)) (ExC M x S (oIsBlocked S v) [eIO]) := by
  obtain ⟨bK, bV, bP, bN⟩ := hM.b
  refine Ct_intro (own := RX4) (nm := "isBlocked") (by decide +kernel) rfl rfl hst (fun w hw => by simp only [List.mem_cons, List.not_mem_nil, or_false] at hw; rcases hw with rfl | rfl <;> first | rfl | exact rv_cat _) (Nat.le_of_ble_eq_true rfl) (fun γ hC => ?_)
  show J G γ M 0 [some (rv x), some (.int v)] [] 0 0
  refine J_aload_n hC dX4_isBlocked_0 rfl rfl ?_
  refine J_iload_n hC dX4_isBlocked_1 rfl rfl ?_
  refine J_callV (k1 := 1) (n1 := 6) (kd := 5) [.int v] [.int v, rv x] hC lv_X4_81 (ct_X4_vehicleAt hst hM v) hM.tx (by decide) ⟨_, mE_5 hM.tx⟩ rfl rfl rfl (by simp only [List.map_cons, List.map_nil, rv_cat, Value.category, List.sum_cons, List.sum_nil]; decide) (by decide) rfl rfl (by decide) (by decide) dX4_isBlocked_2 (fun E M9 hx => by
        obtain ⟨rfl, rfl, nv⟩ := hx
        exact exc hM (k := 0) rfl (by simp [oIsBlocked, nv])) (fun v9 M9 hq9 => ?_)
  obtain ⟨rfl, e9, hv⟩ := hq9
  rw [e9]; clear e9
  have xv := (isIx_ix hv).2
  obtain ⟨av, eav⟩ : ∃ z, z = mR M (mR M x 0) (ix v) := ⟨_, rfl⟩
  have wv : VeA M av (ix v) S := by rw [eav]; exact hM.v.1 _ xv
  show J G γ M _ _ (rv (mR M (mR M x 0) (ix v)) :: _) _ _
  rw [← eav]
  refine J_callV (k1 := 1) (n1 := 6) (kd := 4) [] [rv av] hC lv_X4_228 (ct_X3_isBlockedNow hst wv (hI.sc _ xv)) wv.tg (by decide) ⟨_, mE_4 wv.tg⟩ rfl rfl rfl (by simp only [List.map_cons, List.map_nil, rv_cat, Value.category, List.sum_cons, List.sum_nil]; decide) (by decide) rfl rfl (by decide) (by decide) dX4_isBlocked_5 (fun E M9 h => h.elim) (fun v9 M9 hq9 => ?_)
  obtain ⟨rfl, e9⟩ := hq9
  rw [e9]; clear e9
  refine J_zret hC (by decide) (by decide) (bz_nar _) dX4_isBlocked_8 ?_
  refine okc hM ?_
  simp [oIsBlocked, hv, bz]
theorem ct_X4_plateState {G : Gt} {l : Launch} (hst : l.stackTraces = false) {M : Mm} {x : Nat} {S : St} {t : Nat} (hM : CAt M x S) (hI : Inv S t) (v : Int32) : Ct G l yX4_plateState cX4_plateState 3 (some .char) 7 M [rv x, .int v] 8 48 (OkC M x (oPlateState S v)) (ExC M x S (oPlateState S v) [eNS]) := by
  obtain ⟨bK, bV, bP, bN⟩ := hM.b
  refine Ct_intro (own := RX4) (nm := "plateState") (by decide +kernel) rfl rfl hst (fun w hw => by simp only [List.mem_cons, List.not_mem_nil, or_false] at hw; rcases hw with rfl | rfl <;> first | rfl | exact rv_cat _) (Nat.le_of_ble_eq_true rfl) (fun γ hC => ?_)
  show J G γ M 0 [some (rv x), some (.int v)] [] 0 0
  refine J_aload_n hC dX4_plateState_0 rfl rfl ?_
  refine J_iload_n hC dX4_plateState_1 rfl rfl ?_
  refine J_callV (k1 := 1) (n1 := 6) (kd := 5) [.int v] [.int v, rv x] hC lv_X4_248 (ct_X4_plateAt hst hM v) hM.tx (by decide) ⟨_, mE_5 hM.tx⟩ rfl rfl rfl (by simp only [List.map_cons, List.map_nil, rv_cat, Value.category, List.sum_cons, List.sum_nil]; decide) (by decide) rfl rfl (by decide) (by decide) dX4_plateState_2 (fun E M9 hx => by
        obtain ⟨rfl, rfl, nv⟩ := hx
        exact exc hM (k := 0) rfl (by simp [oPlateState, nv])) (fun v9 M9 hq9 => ?_)
  obtain ⟨rfl, e9, hv⟩ := hq9
  rw [e9]; clear e9
  have xv := (isIx_ix hv).2
  obtain ⟨av, eav⟩ : ∃ z, z = mR M (mR M x 1) (ix v) := ⟨_, rfl⟩
  have wv : PlA M av (ix v) S := by rw [eav]; exact hM.p.1 _ xv
  show J G γ M _ _ (rv (mR M (mR M x 1) (ix v)) :: _) _ _
  rw [← eav]
  refine J_astore_n hC dX4_plateState_5 rfl (by decide) (ls1 := [some (rv x), some (.int v), some (rv av)]) rfl ?_
  refine J_aload_n hC dX4_plateState_6 rfl rfl ?_
  refine J_get2 hC lf_X4_265 (j := 1) wv.tg (v := rv (mR M av 1)) rfl dX4_plateState_7 ?_
  refine J_callV (k1 := 1) (n1 := 6) (kd := 3) [] [rv (mR M av 1)] hC lv_X4_103 (ct_X2_lastValue hst wv.T1) wv.k1 (by decide) ⟨_, mE_3 wv.k1⟩ rfl rfl rfl (by simp only [List.map_cons, List.map_nil, rv_cat, Value.category, List.sum_cons, List.sum_nil]; decide) (by decide) rfl rfl (by decide) (by decide) dX4_plateState_10 (fun E M9 h => h.elim) (fun v9 M9 hq9 => ?_)
  obtain ⟨rfl, e9⟩ := hq9
  rw [e9]; clear e9
  refine J_iconst hC dX4_plateState_13 (v := -1) (by decide) ?_
  refine J_icmp_eq hC dX4_plateState_14 (tgt := 20) (by decide) (fun c14 => ?_) (fun c14 => ?_)
  · have q14 : lastV (sT S 3 (ix v)) = -1 := c14
    refine J_aload_n hC dX4_plateState_20 rfl rfl ?_
    refine J_aload_n hC dX4_plateState_21 rfl rfl ?_
    refine J_get5 hC lf_X4_48 (j := 10) hM.tx (v := .int (sD S)) (congrArg (fun z => some (Value.int z)) hM.c10) dX4_plateState_22 ?_
    refine J_callV (k1 := 1) (n1 := 6) (kd := 2) [.int (sD S)] [.int (sD S), rv av] hC lv_X4_252 (ct_X1_isKept hst wv (sD S)) wv.tg (by decide) ⟨_, mE_2 wv.tg⟩ rfl rfl rfl (by simp only [List.map_cons, List.map_nil, rv_cat, Value.category, List.sum_cons, List.sum_nil]; decide) (by decide) rfl rfl (by decide) (by decide) dX4_plateState_25 (fun E M9 h => h.elim) (fun v9 M9 hq9 => ?_)
    obtain ⟨rfl, e9⟩ := hq9
    rw [e9]; clear e9
    show J G γ _ _ _ (.int (bz (keptQ S (ix v))) :: _) _ _
    refine J_if_eq hC dX4_plateState_28 (tgt := 36) (by decide) (fun c28 => ?_) (fun c28 => ?_)
    · have b28 : (keptQ S (ix v)) = false := bz_eq0 c28
      refine J_bipush hC dX4_plateState_36 (v := 120) (by decide) ?_
      refine J_zret hC (by decide) (by decide) (by decide) dX4_plateState_38 ?_
      refine okc hM ?_
      simp [oPlateState, q14, b28, hv, bz]
    · have b28 : (keptQ S (ix v)) = true := bz_ne0 c28
      refine J_bipush hC dX4_plateState_31 (v := 107) (by decide) ?_
      refine J_goto hC dX4_plateState_33 (tgt := 38) (by decide) ?_
      refine J_zret hC (by decide) (by decide) (by decide) dX4_plateState_38 ?_
      refine okc hM ?_
      simp [oPlateState, q14, b28, hv, bz]
  · have q14 : ¬ lastV (sT S 3 (ix v)) = -1 := c14
    refine J_bipush hC dX4_plateState_17 (v := 118) (by decide) ?_
    refine J_zret hC (by decide) (by decide) (by decide) dX4_plateState_19 ?_
    refine okc hM ?_
    simp [oPlateState, q14, hv, bz]
theorem ct_X4_lienOf {G : Gt} {l : Launch} (hst : l.stackTraces = false) {M : Mm} {x : Nat} {S : St} {t : Nat} (hM : CAt M x S) (hI : Inv S t) (v c : Int32) (hc : 0 ≤ c.toInt ∧ c.toInt < 65536) : Ct G l yX4_lienOf cX4_lienOf 3 (some .int) 7 M [rv x, .int v, .int c] 8 48 (OkC M x (oLienOf S v c)) (ExC M x S (oLienOf S v c) [eIO, eNS]) := by
  obtain ⟨bK, bV, bP, bN⟩ := hM.b
  refine Ct_intro (own := RX4) (nm := "lienOf") (by decide +kernel) rfl rfl hst (fun w hw => by simp only [List.mem_cons, List.not_mem_nil, or_false] at hw; rcases hw with rfl | rfl | rfl <;> first | rfl | exact rv_cat _) (Nat.le_of_ble_eq_true rfl) (fun γ hC => ?_)
  show J G γ M 0 [some (rv x), some (.int v), some (.int c)] [] 0 0
  refine J_aload_n hC dX4_lienOf_0 rfl rfl ?_
  refine J_iload_n hC dX4_lienOf_1 rfl rfl ?_
  refine J_callV (k1 := 1) (n1 := 6) (kd := 5) [.int v] [.int v, rv x] hC lv_X4_81 (ct_X4_vehicleAt hst hM v) hM.tx (by decide) ⟨_, mE_5 hM.tx⟩ rfl rfl rfl (by simp only [List.map_cons, List.map_nil, rv_cat, Value.category, List.sum_cons, List.sum_nil]; decide) (by decide) rfl rfl (by decide) (by decide) dX4_lienOf_2 (fun E M9 hx => by
        obtain ⟨rfl, rfl, nv⟩ := hx
        exact exc hM (k := 0) rfl (by simp [oLienOf, nv])) (fun v9 M9 hq9 => ?_)
  obtain ⟨rfl, e9, hv⟩ := hq9
  rw [e9]; clear e9
  have xv := (isIx_ix hv).2
  obtain ⟨av, eav⟩ : ∃ z, z = mR M (mR M x 0) (ix v) := ⟨_, rfl⟩
  have wv : VeA M av (ix v) S := by rw [eav]; exact hM.v.1 _ xv
  show J G γ M _ _ (rv (mR M (mR M x 0) (ix v)) :: _) _ _
  rw [← eav]
  refine J_iload_n hC dX4_lienOf_5 rfl rfl ?_
  refine J_callS (k1 := 2) (n1 := 12) [rv av, .int c] [.int c, rv av] hC ls_X4_219 (ct_X4_requireLien hst wv c hc) rfl rfl (by simp only [List.map_cons, List.map_nil, rv_cat, Value.category, List.sum_cons, List.sum_nil]; decide) (by decide) rfl rfl (by decide) (by decide) dX4_lienOf_6 (fun E M9 hx => by
        obtain ⟨rfl, rfl, hnl⟩ := hx
        exact exc hM (k := 1) rfl (by simp [oLienOf, hv, lien_0 hnl])) (fun v9 M9 hq9 => ?_)
  obtain ⟨rfl, e9, hln⟩ := hq9
  rw [e9]; clear e9
  refine J_iret hC (by decide) (by decide) dX4_lienOf_9 ?_
  refine okc hM ?_
  simp [oLienOf, hv, lien_1 hln, bz, lienQ_y (lien_1 hln).1]
