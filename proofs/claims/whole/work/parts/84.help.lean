/-! the law's helpers -/
def zl (i : Int32) : Int64 := if i = 0 then 0 else 1
theorem mJ_pJ (M : Mm) (a k : Nat) (v : Int64) : mJ (pJ M a k v) a k = v := up2_same _ _ _ _
theorem mD_pD (M : Mm) (a k : Nat) (v : UInt64) : mD (pD M a k v) a k = v := up2_same _ _ _ _
theorem HQ.no {M M9 : Mm} {x o od k : Nat} {S : St} {R : Res} {P : Mm → Prop} {v : Int32} (hR : R = no (k + 1) S) (hc : CAt M9 x S) (hf : Fr pC M M9) (hO : Ot M o od) (hv : nI (k + 1) = v) : HQ M x o od R P (some (.int v)) M9 := by
  subst hR; subst hv
  exact ⟨rfl, hc, hf.mono pC_pX, hO.fr hf (by decide) (by decide), fun h => absurd h (Nat.succ_ne_zero k)⟩
theorem HQ.okJ {M M9 : Mm} {x o od : Nat} {R : Res} {P : Mm → Prop} {v : Int64} (h0 : R.1 = 0) (hc : CAt M9 x R.2.2) (hf : Fr pC M M9) (hO : Ot M9 o od) (hP : P (pJ M9 o 0 v)) : HQ M x o od R P (some (.int 0)) (pJ M9 o 0 v) :=
  ⟨by rw [h0]; rfl, hc.out (Fr.pJ (by rw [hO.1]; exact Or.inl rfl)), (hf.mono pC_pX).trans (Fr.pJ (by rw [hO.1]; exact Or.inr (Or.inr (Or.inl rfl)))), hO, fun _ => hP⟩
theorem HQ.okD {M M9 : Mm} {x o od : Nat} {R : Res} {P : Mm → Prop} {v : UInt64} (h0 : R.1 = 0) (hc : CAt M9 x R.2.2) (hf : Fr pC M M9) (hO : Ot M9 o od) (hP : P (pD M9 od 0 v)) : HQ M x o od R P (some (.int 0)) (pD M9 od 0 v) :=
  ⟨by rw [h0]; rfl, hc.out (Fr.pD (by rw [hO.2.2.1]; exact Or.inr rfl)), (hf.mono pC_pX).trans (Fr.pD (by rw [hO.2.2.1]; exact Or.inr (Or.inr (Or.inr rfl)))), hO, fun _ => hP⟩
theorem share_d : ∀ a, a < 16 → ∀ b, b < 16 → b ≠ 0 → vf_n64 (FP.f2d (FP.fdiv (FP.i2f (nI a)) (FP.i2f (nI b)))) := by
  unfold vf_n64
  decide +kernel
theorem roadN_le16 (S : St) (h : sN S 1 ≤ 15) : roadN S < 16 := by
  have := cnt_le (fun v => decide (lastV (sT S 2 v) = 1)) (sN S 1)
  unfold roadN
  omega
theorem vF_oRoadShare (S : St) {t : Nat} (hI : Inv S t) (h0 : (oRoadShare S).1 = 0) : ∃ i, (oRoadShare S).2.1 = .float i ∧ vf_n64 (FP.f2d i) := by
  unfold oRoadShare at h0 ⊢
  split at h0
  · exact absurd h0 (Nat.succ_ne_zero 0)
  · rename_i h
    rw [if_neg h]
    have := hI.bV
    exact ⟨_, rfl, share_d _ (roadN_le16 S hI.bV) _ (by omega) h⟩
theorem vD_oMean (S : St) {t : Nat} (hI : Inv S t) (h0 : (oMean S).1 = 0) : ∃ i, (oMean S).2.1 = .double i := by
  unfold oMean at h0 ⊢
  split at h0
  · exact absurd h0 (Nat.succ_ne_zero 0)
  · rename_i h
    rw [if_neg h]
    exact ⟨_, rfl⟩
theorem vi_oAddKeeper (S : St) : ∃ i, (oAddKeeper S).2.1 = .int i := by
  unfold oAddKeeper
  repeat' split
  all_goals exact ⟨_, rfl⟩
theorem vi_oPass (S : St) (d : Int32) : ∃ i, (oPass S d).2.1 = .int i := by
  unfold oPass
  repeat' split
  all_goals exact ⟨_, rfl⟩
theorem vi_oRegister (S : St) (v c : Int32) : ∃ i, (oRegister S v c).2.1 = .int i := by
  unfold oRegister
  repeat' split
  all_goals exact ⟨_, rfl⟩
theorem vi_oBringIn (S : St) (v c : Int32) : ∃ i, (oBringIn S v c).2.1 = .int i := by
  unfold oBringIn
  repeat' split
  all_goals exact ⟨_, rfl⟩
theorem vi_oAdmit (S : St) (v : Int32) : ∃ i, (oAdmit S v).2.1 = .int i := by
  unfold oAdmit
  repeat' split
  all_goals exact ⟨_, rfl⟩
theorem vi_oSetOnRoad (S : St) (v b : Int32) : ∃ i, (oSetOnRoad S v b).2.1 = .int i := by
  unfold oSetOnRoad
  repeat' split
  all_goals exact ⟨_, rfl⟩
theorem vi_oIsOnRoad (S : St) (v d : Int32) : ∃ i, (oIsOnRoad S v d).2.1 = .int i := by
  unfold oIsOnRoad
  repeat' split
  all_goals exact ⟨_, rfl⟩
theorem vi_oScrap (S : St) (v : Int32) : ∃ i, (oScrap S v).2.1 = .int i := by
  unfold oScrap
  repeat' split
  all_goals exact ⟨_, rfl⟩
theorem vi_oKindOf (S : St) (v : Int32) : ∃ i, (oKindOf S v).2.1 = .int i := by
  unfold oKindOf
  repeat' split
  all_goals exact ⟨_, rfl⟩
theorem vi_oSell (S : St) (v w b d : Int32) : ∃ i, (oSell S v w b d).2.1 = .int i := by
  unfold oSell
  repeat' split
  all_goals exact ⟨_, rfl⟩
theorem vi_oBuy (S : St) (b w d : Int32) : ∃ i, (oBuy S b w d).2.1 = .int i := by
  unfold oBuy
  repeat' split
  all_goals exact ⟨_, rfl⟩
theorem vi_oWithdraw (S : St) (v : Int32) : ∃ i, (oWithdraw S v).2.1 = .int i := by
  unfold oWithdraw
  repeat' split
  all_goals exact ⟨_, rfl⟩
theorem vi_oStateOf (S : St) (v : Int32) : ∃ i, (oStateOf S v).2.1 = .int i := by
  unfold oStateOf
  repeat' split
  all_goals exact ⟨_, rfl⟩
theorem vi_oPartnerOf (S : St) (v : Int32) : ∃ i, (oPartnerOf S v).2.1 = .int i := by
  unfold oPartnerOf
  repeat' split
  all_goals exact ⟨_, rfl⟩
theorem vi_oOpen (S : St) (v : Int32) : ∃ i, (oOpen S v).2.1 = .int i := by
  unfold oOpen
  repeat' split
  all_goals exact ⟨_, rfl⟩
theorem vi_oLookT (r : Nat) (S : St) (v d : Int32) : ∃ i, (oLookT r S v d).2.1 = .int i := by
  unfold oLookT
  repeat' split
  all_goals exact ⟨_, rfl⟩
theorem vi_oTransfers (S : St) (v : Int32) : ∃ i, (oTransfers S v).2.1 = .int i := by
  unfold oTransfers
  repeat' split
  all_goals exact ⟨_, rfl⟩
theorem vi_oTransferDay (S : St) (v k : Int32) : ∃ i, (oTransferDay S v k).2.1 = .int i := by
  unfold oTransferDay
  repeat' split
  all_goals exact ⟨_, rfl⟩
theorem vi_oKeptBy (S : St) (v : Int32) : ∃ i, (oKeptBy S v).2.1 = .int i := by
  unfold oKeptBy
  repeat' split
  all_goals exact ⟨_, rfl⟩
theorem vi_oAddLien (S : St) (v c a : Int32) : ∃ i, (oAddLien S v c a).2.1 = .int i := by
  unfold oAddLien
  repeat' split
  all_goals exact ⟨_, rfl⟩
theorem vi_oPayLien (S : St) (v c a : Int32) : ∃ i, (oPayLien S v c a).2.1 = .int i := by
  unfold oPayLien
  repeat' split
  all_goals exact ⟨_, rfl⟩
theorem vi_oLienOf (S : St) (v c : Int32) : ∃ i, (oLienOf S v c).2.1 = .int i := by
  unfold oLienOf
  repeat' split
  all_goals exact ⟨_, rfl⟩
theorem vi_oIsBlocked (S : St) (v : Int32) : ∃ i, (oIsBlocked S v).2.1 = .int i := by
  unfold oIsBlocked
  repeat' split
  all_goals exact ⟨_, rfl⟩
theorem vi_oKeepPlate (S : St) (v : Int32) : ∃ i, (oKeepPlate S v).2.1 = .int i := by
  unfold oKeepPlate
  repeat' split
  all_goals exact ⟨_, rfl⟩
theorem vi_oPutOn (S : St) (v w : Int32) : ∃ i, (oPutOn S v w).2.1 = .int i := by
  unfold oPutOn
  repeat' split
  all_goals exact ⟨_, rfl⟩
theorem vi_oSwap (S : St) (v w : Int32) : ∃ i, (oSwap S v w).2.1 = .int i := by
  unfold oSwap
  repeat' split
  all_goals exact ⟨_, rfl⟩
theorem vi_oPlateState (S : St) (v : Int32) : ∃ i, (oPlateState S v).2.1 = .int i := by
  unfold oPlateState
  repeat' split
  all_goals exact ⟨_, rfl⟩
theorem vi_oDaysKept (S : St) (v : Int32) : ∃ i, (oDaysKept S v).2.1 = .int i := by
  unfold oDaysKept
  repeat' split
  all_goals exact ⟨_, rfl⟩
theorem vi_oVehicleWith (S : St) (v d : Int32) : ∃ i, (oVehicleWith S v d).2.1 = .int i := by
  unfold oVehicleWith
  repeat' split
  all_goals exact ⟨_, rfl⟩
theorem vi_oDue (S : St) (v q : Int32) : ∃ i, (oDue S v q).2.1 = .int i := by
  unfold oDue
  repeat' split
  all_goals exact ⟨_, rfl⟩
theorem vi_oOwes (S : St) (v : Int32) : ∃ i, (oOwes S v).2.1 = .int i := by
  unfold oOwes
  repeat' split
  all_goals exact ⟨_, rfl⟩
theorem vi_oPay (S : St) (v a : Int32) : ∃ i, (oPay S v a).2.1 = .int i := by
  unfold oPay
  repeat' split
  all_goals exact ⟨_, rfl⟩
theorem vi_oMost (S : St) : ∃ i, (oMost S).2.1 = .int i := by
  unfold oMost
  repeat' split
  all_goals exact ⟨_, rfl⟩
theorem hl_addKeeper {G : Gt} {l : Launch} (hst : l.stackTraces = false) {M : Mm} {x o od : Nat} {S : St} {t : Nat} (hM : CAt M x S) (hI : Inv S t) (hO : Ot M o od) (hlt : t < 512)  : Ch G l yL_addKeeper cL_addKeeper 3 hh_addKeeper 8 M [rv x, rv o] 40 9000 (HQ M x o od (oAddKeeper S) (fun M9 => ∃ i, (oAddKeeper S).2.1 = .int i ∧ mJ M9 o 0 = i.toInt64)) := by
  have hv := vi_oAddKeeper S
  have hc := ct_X4_addKeeper hst (G := G) (l := l) hM hI hlt
  refine Ch_intro (by decide +kernel) rfl hst (fun w hw => by simp only [List.mem_cons, List.not_mem_nil, or_false] at hw; rcases hw with rfl | rfl <;> first | rfl | exact rv_cat _) (Nat.le_of_ble_eq_true rfl) (fun γ hC hH => ?_)
  show JE G γ ET M 0 [some (rv x), some (rv o)] [] 0 0
  refine Z_aload_n hC dL_addKeeper_0 rfl rfl ?_
  refine Z_iconst hC dL_addKeeper_1 (v := 0) (by decide) ?_
  refine Z_aload_n hC dL_addKeeper_2 rfl rfl ?_
  refine Z_callVH (k1 := 40) (n1 := 9000) (kd := 5) (es := [eIS]) (Qi := fun i M1 => (oAddKeeper S) = no (i + 1) S ∧ CAt M1 x S ∧ Fr pC M M1) [] [rv x, .int 0, rv o] hC hH lv_L_7 hc hM.tx (by decide) ⟨_, mE_5 hM.tx⟩ rfl rfl rfl (by simp only [List.map_cons, List.map_nil, rv_cat, List.sum_cons, List.sum_nil]; (try simp only [Value.category]); (try omega)) (by decide) rfl rfl (by decide) (by decide) dL_addKeeper_3 hk_addKeeper (fun E M1 h => h) (fun v9 M9 hq9 => ?_) (fun i9 M9 q9 a9 hq hi => ?_)
  · obtain ⟨h0, h1, h2, h3⟩ := hq9
    obtain ⟨i, hi⟩ := hv
    rw [h1, hi]
    have hO9 := hO.fr h3 (by decide) (by decide)
    have tO := congrArg Prod.fst hO9.1
    refine Z_i2l hC dL_addKeeper_6 ?_
    refine Z_last hC tO (j := 0) (by decide) (by rw [hO9.2.1]; decide) dL_addKeeper_7 ?_
    refine Z_goto hC dL_addKeeper_8 (tgt := 14) (by decide) ?_
    refine Z_iconst hC dL_addKeeper_14 (v := 0) (by decide) ?_
    exact Z_iret hC (by decide) (by decide) dL_addKeeper_15 (HQ.okJ h0 h2 h3 hO9 ⟨i, hi, by rw [mJ_pJ]⟩)
  · obtain ⟨hR, hc1, hf⟩ := hq
    match i9, hi with
    | 0, hi =>
      cases hi
      refine Z_astoreR_n hC dL_addKeeper_11 rfl (by decide) (ls1 := [some (rv x), some (rv o), some (.ref a9)]) rfl ?_
      refine Z_iconst hC dL_addKeeper_12 (v := 1) (by decide) ?_
      exact Z_iret hC (by decide) (by decide) dL_addKeeper_13 (HQ.no hR hc1 hf hO (by decide))
    | z + 1, hi => simp at hi
theorem hl_pass {G : Gt} {l : Launch} (hst : l.stackTraces = false) {M : Mm} {x o od : Nat} {S : St} {t : Nat} (hM : CAt M x S) (hI : Inv S t) (hO : Ot M o od) (hlt : t < 512) (d : Int32)  : Ch G l yL_pass cL_pass 4 hh_pass 8 M [rv x, .int d, rv o] 40 9000 (HQ M x o od (oPass S d) (fun M9 => ∃ i, (oPass S d).2.1 = .int i ∧ mJ M9 o 0 = i.toInt64)) := by
  have hv := vi_oPass S d
  have hc := ct_X4_pass hst (G := G) (l := l) hM hI hlt d
  refine Ch_intro (by decide +kernel) rfl hst (fun w hw => by simp only [List.mem_cons, List.not_mem_nil, or_false] at hw; rcases hw with rfl | rfl | rfl <;> first | rfl | exact rv_cat _) (Nat.le_of_ble_eq_true rfl) (fun γ hC hH => ?_)
  show JE G γ ET M 0 [some (rv x), some (.int d), some (rv o)] [] 0 0
  refine Z_aload_n hC dL_pass_0 rfl rfl ?_
  refine Z_iconst hC dL_pass_1 (v := 0) (by decide) ?_
  refine Z_aload_n hC dL_pass_2 rfl rfl ?_
  refine Z_iload_n hC dL_pass_3 rfl rfl ?_
  refine Z_callVH (k1 := 40) (n1 := 9000) (kd := 5) (es := [eIA]) (Qi := fun i M1 => (oPass S d) = no (i + 1) S ∧ CAt M1 x S ∧ Fr pC M M1) [.int d] [.int d, rv x, .int 0, rv o] hC hH lv_L_15 hc hM.tx (by decide) ⟨_, mE_5 hM.tx⟩ rfl rfl rfl (by simp only [List.map_cons, List.map_nil, rv_cat, List.sum_cons, List.sum_nil]; (try simp only [Value.category]); (try omega)) (by decide) rfl rfl (by decide) (by decide) dL_pass_4 hk_pass (fun E M1 h => h) (fun v9 M9 hq9 => ?_) (fun i9 M9 q9 a9 hq hi => ?_)
  · obtain ⟨h0, h1, h2, h3⟩ := hq9
    obtain ⟨i, hi⟩ := hv
    rw [h1, hi]
    have hO9 := hO.fr h3 (by decide) (by decide)
    have tO := congrArg Prod.fst hO9.1
    refine Z_i2l hC dL_pass_7 ?_
    refine Z_last hC tO (j := 0) (by decide) (by rw [hO9.2.1]; decide) dL_pass_8 ?_
    refine Z_goto hC dL_pass_9 (tgt := 15) (by decide) ?_
    refine Z_iconst hC dL_pass_15 (v := 0) (by decide) ?_
    exact Z_iret hC (by decide) (by decide) dL_pass_16 (HQ.okJ h0 h2 h3 hO9 ⟨i, hi, by rw [mJ_pJ]⟩)
  · obtain ⟨hR, hc1, hf⟩ := hq
    match i9, hi with
    | 0, hi =>
      cases hi
      refine Z_astoreR_n hC dL_pass_12 rfl (by decide) (ls1 := [some (rv x), some (.int d), some (rv o), some (.ref a9)]) rfl ?_
      refine Z_iconst hC dL_pass_13 (v := 1) (by decide) ?_
      exact Z_iret hC (by decide) (by decide) dL_pass_14 (HQ.no hR hc1 hf hO (by decide))
    | z + 1, hi => simp at hi
theorem hl_register {G : Gt} {l : Launch} (hst : l.stackTraces = false) {M : Mm} {x o od : Nat} {S : St} {t : Nat} (hM : CAt M x S) (hI : Inv S t) (hO : Ot M o od) (hlt : t < 512) (v c : Int32)  : Ch G l yL_register cL_register 5 hh_register 9 M [rv x, .int v, .int c, rv o] 40 9000 (HQ M x o od (oRegister S v c) (fun M9 => ∃ i, (oRegister S v c).2.1 = .int i ∧ mJ M9 o 0 = i.toInt64)) := by
  have hv := vi_oRegister S v c
  have hc := ct_X4_register hst (G := G) (l := l) hM hI hlt v c
  refine Ch_intro (by decide +kernel) rfl hst (fun w hw => by simp only [List.mem_cons, List.not_mem_nil, or_false] at hw; rcases hw with rfl | rfl | rfl | rfl <;> first | rfl | exact rv_cat _) (Nat.le_of_ble_eq_true rfl) (fun γ hC hH => ?_)
  show JE G γ ET M 0 [some (rv x), some (.int v), some (.int c), some (rv o)] [] 0 0
  refine Z_aload_n hC dL_register_0 rfl rfl ?_
  refine Z_iconst hC dL_register_1 (v := 0) (by decide) ?_
  refine Z_aload_n hC dL_register_2 rfl rfl ?_
  refine Z_iload_n hC dL_register_3 rfl rfl ?_
  refine Z_iload_n hC dL_register_4 rfl rfl ?_
  refine Z_callVH (k1 := 40) (n1 := 9000) (kd := 5) (es := [eIO, eIA, eIS]) (Qi := fun i M1 => (oRegister S v c) = no (i + 1) S ∧ CAt M1 x S ∧ Fr pC M M1) [.int v, .int c] [.int c, .int v, rv x, .int 0, rv o] hC hH lv_L_21 hc hM.tx (by decide) ⟨_, mE_5 hM.tx⟩ rfl rfl rfl (by simp only [List.map_cons, List.map_nil, rv_cat, List.sum_cons, List.sum_nil]; (try simp only [Value.category]); (try omega)) (by decide) rfl rfl (by decide) (by decide) dL_register_5 hk_register (fun E M1 h => h) (fun v9 M9 hq9 => ?_) (fun i9 M9 q9 a9 hq hi => ?_)
  · obtain ⟨h0, h1, h2, h3⟩ := hq9
    obtain ⟨i, hi⟩ := hv
    rw [h1, hi]
    have hO9 := hO.fr h3 (by decide) (by decide)
    have tO := congrArg Prod.fst hO9.1
    refine Z_i2l hC dL_register_8 ?_
    refine Z_last hC tO (j := 0) (by decide) (by rw [hO9.2.1]; decide) dL_register_9 ?_
    refine Z_goto hC dL_register_10 (tgt := 25) (by decide) ?_
    refine Z_iconst hC dL_register_25 (v := 0) (by decide) ?_
    exact Z_iret hC (by decide) (by decide) dL_register_26 (HQ.okJ h0 h2 h3 hO9 ⟨i, hi, by rw [mJ_pJ]⟩)
  · obtain ⟨hR, hc1, hf⟩ := hq
    match i9, hi with
    | 0, hi =>
      cases hi
      refine Z_astoreR hC dL_register_13 (by decide) (ls1 := [some (rv x), some (.int v), some (.int c), some (rv o), some (.ref a9)]) rfl ?_
      refine Z_iconst hC dL_register_15 (v := 1) (by decide) ?_
      exact Z_iret hC (by decide) (by decide) dL_register_16 (HQ.no hR hc1 hf hO (by decide))
    | 1, hi =>
      cases hi
      refine Z_astoreR hC dL_register_17 (by decide) (ls1 := [some (rv x), some (.int v), some (.int c), some (rv o), some (.ref a9)]) rfl ?_
      refine Z_iconst hC dL_register_19 (v := 2) (by decide) ?_
      exact Z_iret hC (by decide) (by decide) dL_register_20 (HQ.no hR hc1 hf hO (by decide))
    | 2, hi =>
      cases hi
      refine Z_astoreR hC dL_register_21 (by decide) (ls1 := [some (rv x), some (.int v), some (.int c), some (rv o), some (.ref a9)]) rfl ?_
      refine Z_iconst hC dL_register_23 (v := 3) (by decide) ?_
      exact Z_iret hC (by decide) (by decide) dL_register_24 (HQ.no hR hc1 hf hO (by decide))
    | z + 3, hi => simp at hi
theorem hl_bringIn {G : Gt} {l : Launch} (hst : l.stackTraces = false) {M : Mm} {x o od : Nat} {S : St} {t : Nat} (hM : CAt M x S) (hI : Inv S t) (hO : Ot M o od) (hlt : t < 512) (v c : Int32)  : Ch G l yL_bringIn cL_bringIn 5 hh_bringIn 9 M [rv x, .int v, .int c, rv o] 40 9000 (HQ M x o od (oBringIn S v c) (fun M9 => ∃ i, (oBringIn S v c).2.1 = .int i ∧ mJ M9 o 0 = i.toInt64)) := by
  have hv := vi_oBringIn S v c
  have hc := ct_X4_bringIn hst (G := G) (l := l) hM hI hlt v c
  refine Ch_intro (by decide +kernel) rfl hst (fun w hw => by simp only [List.mem_cons, List.not_mem_nil, or_false] at hw; rcases hw with rfl | rfl | rfl | rfl <;> first | rfl | exact rv_cat _) (Nat.le_of_ble_eq_true rfl) (fun γ hC hH => ?_)
  show JE G γ ET M 0 [some (rv x), some (.int v), some (.int c), some (rv o)] [] 0 0
  refine Z_aload_n hC dL_bringIn_0 rfl rfl ?_
  refine Z_iconst hC dL_bringIn_1 (v := 0) (by decide) ?_
  refine Z_aload_n hC dL_bringIn_2 rfl rfl ?_
  refine Z_iload_n hC dL_bringIn_3 rfl rfl ?_
  refine Z_iload_n hC dL_bringIn_4 rfl rfl ?_
  refine Z_callVH (k1 := 40) (n1 := 9000) (kd := 5) (es := [eIO, eIA, eIS]) (Qi := fun i M1 => (oBringIn S v c) = no (i + 1) S ∧ CAt M1 x S ∧ Fr pC M M1) [.int v, .int c] [.int c, .int v, rv x, .int 0, rv o] hC hH lv_L_27 hc hM.tx (by decide) ⟨_, mE_5 hM.tx⟩ rfl rfl rfl (by simp only [List.map_cons, List.map_nil, rv_cat, List.sum_cons, List.sum_nil]; (try simp only [Value.category]); (try omega)) (by decide) rfl rfl (by decide) (by decide) dL_bringIn_5 hk_bringIn (fun E M1 h => h) (fun v9 M9 hq9 => ?_) (fun i9 M9 q9 a9 hq hi => ?_)
  · obtain ⟨h0, h1, h2, h3⟩ := hq9
    obtain ⟨i, hi⟩ := hv
    rw [h1, hi]
    have hO9 := hO.fr h3 (by decide) (by decide)
    have tO := congrArg Prod.fst hO9.1
    refine Z_i2l hC dL_bringIn_8 ?_
    refine Z_last hC tO (j := 0) (by decide) (by rw [hO9.2.1]; decide) dL_bringIn_9 ?_
    refine Z_goto hC dL_bringIn_10 (tgt := 25) (by decide) ?_
    refine Z_iconst hC dL_bringIn_25 (v := 0) (by decide) ?_
    exact Z_iret hC (by decide) (by decide) dL_bringIn_26 (HQ.okJ h0 h2 h3 hO9 ⟨i, hi, by rw [mJ_pJ]⟩)
  · obtain ⟨hR, hc1, hf⟩ := hq
    match i9, hi with
    | 0, hi =>
      cases hi
      refine Z_astoreR hC dL_bringIn_13 (by decide) (ls1 := [some (rv x), some (.int v), some (.int c), some (rv o), some (.ref a9)]) rfl ?_
      refine Z_iconst hC dL_bringIn_15 (v := 1) (by decide) ?_
      exact Z_iret hC (by decide) (by decide) dL_bringIn_16 (HQ.no hR hc1 hf hO (by decide))
    | 1, hi =>
      cases hi
      refine Z_astoreR hC dL_bringIn_17 (by decide) (ls1 := [some (rv x), some (.int v), some (.int c), some (rv o), some (.ref a9)]) rfl ?_
      refine Z_iconst hC dL_bringIn_19 (v := 2) (by decide) ?_
      exact Z_iret hC (by decide) (by decide) dL_bringIn_20 (HQ.no hR hc1 hf hO (by decide))
    | 2, hi =>
      cases hi
      refine Z_astoreR hC dL_bringIn_21 (by decide) (ls1 := [some (rv x), some (.int v), some (.int c), some (rv o), some (.ref a9)]) rfl ?_
      refine Z_iconst hC dL_bringIn_23 (v := 3) (by decide) ?_
      exact Z_iret hC (by decide) (by decide) dL_bringIn_24 (HQ.no hR hc1 hf hO (by decide))
    | z + 3, hi => simp at hi
theorem hl_admit {G : Gt} {l : Launch} (hst : l.stackTraces = false) {M : Mm} {x o od : Nat} {S : St} {t : Nat} (hM : CAt M x S) (hI : Inv S t) (hO : Ot M o od) (hlt : t < 512) (v : Int32)  : Ch G l yL_admit cL_admit 4 hh_admit 9 M [rv x, .int v, rv o] 40 9000 (HQ M x o od (oAdmit S v) (fun M9 => ∃ i, (oAdmit S v).2.1 = .int i ∧ mJ M9 o 0 = i.toInt64)) := by
  have hv := vi_oAdmit S v
  have hc := ct_X4_admit hst (G := G) (l := l) hM hI hlt v
  refine Ch_intro (by decide +kernel) rfl hst (fun w hw => by simp only [List.mem_cons, List.not_mem_nil, or_false] at hw; rcases hw with rfl | rfl | rfl <;> first | rfl | exact rv_cat _) (Nat.le_of_ble_eq_true rfl) (fun γ hC hH => ?_)
  show JE G γ ET M 0 [some (rv x), some (.int v), some (rv o)] [] 0 0
  refine Z_aload_n hC dL_admit_0 rfl rfl ?_
  refine Z_iconst hC dL_admit_1 (v := 0) (by decide) ?_
  refine Z_aload_n hC dL_admit_2 rfl rfl ?_
  refine Z_iload_n hC dL_admit_3 rfl rfl ?_
  refine Z_callVH (k1 := 40) (n1 := 9000) (kd := 5) (es := [eIO, eUO, eIS]) (Qi := fun i M1 => (oAdmit S v) = no (i + 1) S ∧ CAt M1 x S ∧ Fr pC M M1) [.int v] [.int v, rv x, .int 0, rv o] hC hH lv_L_30 hc hM.tx (by decide) ⟨_, mE_5 hM.tx⟩ rfl rfl rfl (by simp only [List.map_cons, List.map_nil, rv_cat, List.sum_cons, List.sum_nil]; (try simp only [Value.category]); (try omega)) (by decide) rfl rfl (by decide) (by decide) dL_admit_4 hk_admit (fun E M1 h => h) (fun v9 M9 hq9 => ?_) (fun i9 M9 q9 a9 hq hi => ?_)
  · obtain ⟨h0, h1, h2, h3⟩ := hq9
    obtain ⟨i, hi⟩ := hv
    rw [h1, hi]
    have hO9 := hO.fr h3 (by decide) (by decide)
    have tO := congrArg Prod.fst hO9.1
    refine Z_i2l hC dL_admit_7 ?_
    refine Z_last hC tO (j := 0) (by decide) (by rw [hO9.2.1]; decide) dL_admit_8 ?_
    refine Z_goto hC dL_admit_9 (tgt := 21) (by decide) ?_
    refine Z_iconst hC dL_admit_21 (v := 0) (by decide) ?_
    exact Z_iret hC (by decide) (by decide) dL_admit_22 (HQ.okJ h0 h2 h3 hO9 ⟨i, hi, by rw [mJ_pJ]⟩)
  · obtain ⟨hR, hc1, hf⟩ := hq
    match i9, hi with
    | 0, hi =>
      cases hi
      refine Z_astoreR_n hC dL_admit_12 rfl (by decide) (ls1 := [some (rv x), some (.int v), some (rv o), some (.ref a9)]) rfl ?_
      refine Z_iconst hC dL_admit_13 (v := 1) (by decide) ?_
      exact Z_iret hC (by decide) (by decide) dL_admit_14 (HQ.no hR hc1 hf hO (by decide))
    | 1, hi =>
      cases hi
      refine Z_astoreR_n hC dL_admit_15 rfl (by decide) (ls1 := [some (rv x), some (.int v), some (rv o), some (.ref a9)]) rfl ?_
      refine Z_iconst hC dL_admit_16 (v := 2) (by decide) ?_
      exact Z_iret hC (by decide) (by decide) dL_admit_17 (HQ.no hR hc1 hf hO (by decide))
    | 2, hi =>
      cases hi
      refine Z_astoreR_n hC dL_admit_18 rfl (by decide) (ls1 := [some (rv x), some (.int v), some (rv o), some (.ref a9)]) rfl ?_
      refine Z_iconst hC dL_admit_19 (v := 3) (by decide) ?_
      exact Z_iret hC (by decide) (by decide) dL_admit_20 (HQ.no hR hc1 hf hO (by decide))
    | z + 3, hi => simp at hi
theorem hl_setOnRoad {G : Gt} {l : Launch} (hst : l.stackTraces = false) {M : Mm} {x o od : Nat} {S : St} {t : Nat} (hM : CAt M x S) (hI : Inv S t) (hO : Ot M o od) (hlt : t < 512) (v b : Int32) (hb : b = 0 ∨ b = 1) : Ch G l yL_setOnRoad cL_setOnRoad 5 hh_setOnRoad 8 M [rv x, .int v, .int b, rv o] 40 9000 (HQ M x o od (oSetOnRoad S v b) (fun M9 => ∃ i, (oSetOnRoad S v b).2.1 = .int i ∧ mJ M9 o 0 = zl i)) := by
  have hv := vi_oSetOnRoad S v b
  have hc := ct_X4_setOnRoad hst (G := G) (l := l) hM hI hlt v b hb
  refine Ch_intro (by decide +kernel) rfl hst (fun w hw => by simp only [List.mem_cons, List.not_mem_nil, or_false] at hw; rcases hw with rfl | rfl | rfl | rfl <;> first | rfl | exact rv_cat _) (Nat.le_of_ble_eq_true rfl) (fun γ hC hH => ?_)
  show JE G γ ET M 0 [some (rv x), some (.int v), some (.int b), some (rv o)] [] 0 0
  refine Z_aload_n hC dL_setOnRoad_0 rfl rfl ?_
  refine Z_iconst hC dL_setOnRoad_1 (v := 0) (by decide) ?_
  refine Z_aload_n hC dL_setOnRoad_2 rfl rfl ?_
  refine Z_iload_n hC dL_setOnRoad_3 rfl rfl ?_
  refine Z_iload_n hC dL_setOnRoad_4 rfl rfl ?_
  refine Z_callVH (k1 := 40) (n1 := 9000) (kd := 5) (es := [eIO, eUO]) (Qi := fun i M1 => (oSetOnRoad S v b) = no (i + 1) S ∧ CAt M1 x S ∧ Fr pC M M1) [.int v, .int b] [.int b, .int v, rv x, .int 0, rv o] hC hH lv_L_35 hc hM.tx (by decide) ⟨_, mE_5 hM.tx⟩ rfl rfl rfl (by simp only [List.map_cons, List.map_nil, rv_cat, List.sum_cons, List.sum_nil]; (try simp only [Value.category]); (try omega)) (by decide) rfl rfl (by decide) (by decide) dL_setOnRoad_5 hk_setOnRoad (fun E M1 h => h) (fun v9 M9 hq9 => ?_) (fun i9 M9 q9 a9 hq hi => ?_)
  · obtain ⟨h0, h1, h2, h3⟩ := hq9
    obtain ⟨i, hi⟩ := hv
    rw [h1, hi]
    have hO9 := hO.fr h3 (by decide) (by decide)
    have tO := congrArg Prod.fst hO9.1
    refine Z_if_eq hC dL_setOnRoad_8 (tgt := 15) (by decide) (fun c => ?_) (fun c => ?_)
    · refine Z_lconst hC dL_setOnRoad_15 (v := 0) (by decide) ?_
      refine Z_last hC tO (j := 0) (by decide) (by rw [hO9.2.1]; decide) dL_setOnRoad_16 ?_
      refine Z_goto hC dL_setOnRoad_17 (tgt := 28) (by decide) ?_
      refine Z_iconst hC dL_setOnRoad_28 (v := 0) (by decide) ?_
      exact Z_iret hC (by decide) (by decide) dL_setOnRoad_29 (HQ.okJ h0 h2 h3 hO9 ⟨i, hi, by rw [mJ_pJ]; unfold zl; rw [if_pos c]⟩)
    · refine Z_lconst hC dL_setOnRoad_11 (v := 1) (by decide) ?_
      refine Z_goto hC dL_setOnRoad_12 (tgt := 16) (by decide) ?_
      refine Z_last hC tO (j := 0) (by decide) (by rw [hO9.2.1]; decide) dL_setOnRoad_16 ?_
      refine Z_goto hC dL_setOnRoad_17 (tgt := 28) (by decide) ?_
      refine Z_iconst hC dL_setOnRoad_28 (v := 0) (by decide) ?_
      exact Z_iret hC (by decide) (by decide) dL_setOnRoad_29 (HQ.okJ h0 h2 h3 hO9 ⟨i, hi, by rw [mJ_pJ]; unfold zl; rw [if_neg c]⟩)
  · obtain ⟨hR, hc1, hf⟩ := hq
    match i9, hi with
    | 0, hi =>
      cases hi
      refine Z_astoreR hC dL_setOnRoad_20 (by decide) (ls1 := [some (rv x), some (.int v), some (.int b), some (rv o), some (.ref a9)]) rfl ?_
      refine Z_iconst hC dL_setOnRoad_22 (v := 1) (by decide) ?_
      exact Z_iret hC (by decide) (by decide) dL_setOnRoad_23 (HQ.no hR hc1 hf hO (by decide))
    | 1, hi =>
      cases hi
      refine Z_astoreR hC dL_setOnRoad_24 (by decide) (ls1 := [some (rv x), some (.int v), some (.int b), some (rv o), some (.ref a9)]) rfl ?_
      refine Z_iconst hC dL_setOnRoad_26 (v := 2) (by decide) ?_
      exact Z_iret hC (by decide) (by decide) dL_setOnRoad_27 (HQ.no hR hc1 hf hO (by decide))
    | z + 2, hi => simp at hi
theorem hl_isOnRoad {G : Gt} {l : Launch} (hst : l.stackTraces = false) {M : Mm} {x o od : Nat} {S : St} {t : Nat} (hM : CAt M x S) (hI : Inv S t) (hO : Ot M o od) (v d : Int32)  : Ch G l yL_isOnRoad cL_isOnRoad 5 hh_isOnRoad 8 M [rv x, .int v, .int d, rv o] 8 48 (HQ M x o od (oIsOnRoad S v d) (fun M9 => ∃ i, (oIsOnRoad S v d).2.1 = .int i ∧ mJ M9 o 0 = zl i)) := by
  have hv := vi_oIsOnRoad S v d
  have hc := ct_X4_isOnRoad hst (G := G) (l := l) hM hI v d
  refine Ch_intro (by decide +kernel) rfl hst (fun w hw => by simp only [List.mem_cons, List.not_mem_nil, or_false] at hw; rcases hw with rfl | rfl | rfl | rfl <;> first | rfl | exact rv_cat _) (Nat.le_of_ble_eq_true rfl) (fun γ hC hH => ?_)
  show JE G γ ET M 0 [some (rv x), some (.int v), some (.int d), some (rv o)] [] 0 0
  refine Z_aload_n hC dL_isOnRoad_0 rfl rfl ?_
  refine Z_iconst hC dL_isOnRoad_1 (v := 0) (by decide) ?_
  refine Z_aload_n hC dL_isOnRoad_2 rfl rfl ?_
  refine Z_iload_n hC dL_isOnRoad_3 rfl rfl ?_
  refine Z_iload_n hC dL_isOnRoad_4 rfl rfl ?_
  refine Z_callVH (k1 := 8) (n1 := 48) (kd := 5) (es := [eIO, eIA]) (Qi := fun i M1 => (oIsOnRoad S v d) = no (i + 1) S ∧ CAt M1 x S ∧ Fr pC M M1) [.int v, .int d] [.int d, .int v, rv x, .int 0, rv o] hC hH lv_L_39 hc hM.tx (by decide) ⟨_, mE_5 hM.tx⟩ rfl rfl rfl (by simp only [List.map_cons, List.map_nil, rv_cat, List.sum_cons, List.sum_nil]; (try simp only [Value.category]); (try omega)) (by decide) rfl rfl (by decide) (by decide) dL_isOnRoad_5 hk_isOnRoad (fun E M1 h => h) (fun v9 M9 hq9 => ?_) (fun i9 M9 q9 a9 hq hi => ?_)
  · obtain ⟨h0, h1, h2, h3⟩ := hq9
    obtain ⟨i, hi⟩ := hv
    rw [h1, hi]
    have hO9 := hO.fr h3 (by decide) (by decide)
    have tO := congrArg Prod.fst hO9.1
    refine Z_if_eq hC dL_isOnRoad_8 (tgt := 15) (by decide) (fun c => ?_) (fun c => ?_)
    · refine Z_lconst hC dL_isOnRoad_15 (v := 0) (by decide) ?_
      refine Z_last hC tO (j := 0) (by decide) (by rw [hO9.2.1]; decide) dL_isOnRoad_16 ?_
      refine Z_goto hC dL_isOnRoad_17 (tgt := 28) (by decide) ?_
      refine Z_iconst hC dL_isOnRoad_28 (v := 0) (by decide) ?_
      exact Z_iret hC (by decide) (by decide) dL_isOnRoad_29 (HQ.okJ h0 h2 h3 hO9 ⟨i, hi, by rw [mJ_pJ]; unfold zl; rw [if_pos c]⟩)
    · refine Z_lconst hC dL_isOnRoad_11 (v := 1) (by decide) ?_
      refine Z_goto hC dL_isOnRoad_12 (tgt := 16) (by decide) ?_
      refine Z_last hC tO (j := 0) (by decide) (by rw [hO9.2.1]; decide) dL_isOnRoad_16 ?_
      refine Z_goto hC dL_isOnRoad_17 (tgt := 28) (by decide) ?_
      refine Z_iconst hC dL_isOnRoad_28 (v := 0) (by decide) ?_
      exact Z_iret hC (by decide) (by decide) dL_isOnRoad_29 (HQ.okJ h0 h2 h3 hO9 ⟨i, hi, by rw [mJ_pJ]; unfold zl; rw [if_neg c]⟩)
  · obtain ⟨hR, hc1, hf⟩ := hq
    match i9, hi with
    | 0, hi =>
      cases hi
      refine Z_astoreR hC dL_isOnRoad_20 (by decide) (ls1 := [some (rv x), some (.int v), some (.int d), some (rv o), some (.ref a9)]) rfl ?_
      refine Z_iconst hC dL_isOnRoad_22 (v := 1) (by decide) ?_
      exact Z_iret hC (by decide) (by decide) dL_isOnRoad_23 (HQ.no hR hc1 hf hO (by decide))
    | 1, hi =>
      cases hi
      refine Z_astoreR hC dL_isOnRoad_24 (by decide) (ls1 := [some (rv x), some (.int v), some (.int d), some (rv o), some (.ref a9)]) rfl ?_
      refine Z_iconst hC dL_isOnRoad_26 (v := 2) (by decide) ?_
      exact Z_iret hC (by decide) (by decide) dL_isOnRoad_27 (HQ.no hR hc1 hf hO (by decide))
    | z + 2, hi => simp at hi
theorem hl_scrap {G : Gt} {l : Launch} (hst : l.stackTraces = false) {M : Mm} {x o od : Nat} {S : St} {t : Nat} (hM : CAt M x S) (hI : Inv S t) (hO : Ot M o od) (hlt : t < 512) (v : Int32)  : Ch G l yL_scrap cL_scrap 4 hh_scrap 9 M [rv x, .int v, rv o] 40 9000 (HQ M x o od (oScrap S v) (fun M9 => ∃ i, (oScrap S v).2.1 = .int i ∧ mJ M9 o 0 = i.toInt64)) := by
  have hv := vi_oScrap S v
  have hc := ct_X4_scrap hst (G := G) (l := l) hM hI hlt v
  refine Ch_intro (by decide +kernel) rfl hst (fun w hw => by simp only [List.mem_cons, List.not_mem_nil, or_false] at hw; rcases hw with rfl | rfl | rfl <;> first | rfl | exact rv_cat _) (Nat.le_of_ble_eq_true rfl) (fun γ hC hH => ?_)
  show JE G γ ET M 0 [some (rv x), some (.int v), some (rv o)] [] 0 0
  refine Z_aload_n hC dL_scrap_0 rfl rfl ?_
  refine Z_iconst hC dL_scrap_1 (v := 0) (by decide) ?_
  refine Z_aload_n hC dL_scrap_2 rfl rfl ?_
  refine Z_iload_n hC dL_scrap_3 rfl rfl ?_
  refine Z_callVH (k1 := 40) (n1 := 9000) (kd := 5) (es := [eIO, eIS]) (Qi := fun i M1 => (oScrap S v) = no (i + 1) S ∧ CAt M1 x S ∧ Fr pC M M1) [.int v] [.int v, rv x, .int 0, rv o] hC hH lv_L_43 hc hM.tx (by decide) ⟨_, mE_5 hM.tx⟩ rfl rfl rfl (by simp only [List.map_cons, List.map_nil, rv_cat, List.sum_cons, List.sum_nil]; (try simp only [Value.category]); (try omega)) (by decide) rfl rfl (by decide) (by decide) dL_scrap_4 hk_scrap (fun E M1 h => h) (fun v9 M9 hq9 => ?_) (fun i9 M9 q9 a9 hq hi => ?_)
  · obtain ⟨h0, h1, h2, h3⟩ := hq9
    obtain ⟨i, hi⟩ := hv
    rw [h1, hi]
    have hO9 := hO.fr h3 (by decide) (by decide)
    have tO := congrArg Prod.fst hO9.1
    refine Z_i2l hC dL_scrap_7 ?_
    refine Z_last hC tO (j := 0) (by decide) (by rw [hO9.2.1]; decide) dL_scrap_8 ?_
    refine Z_goto hC dL_scrap_9 (tgt := 18) (by decide) ?_
    refine Z_iconst hC dL_scrap_18 (v := 0) (by decide) ?_
    exact Z_iret hC (by decide) (by decide) dL_scrap_19 (HQ.okJ h0 h2 h3 hO9 ⟨i, hi, by rw [mJ_pJ]⟩)
  · obtain ⟨hR, hc1, hf⟩ := hq
    match i9, hi with
    | 0, hi =>
      cases hi
      refine Z_astoreR_n hC dL_scrap_12 rfl (by decide) (ls1 := [some (rv x), some (.int v), some (rv o), some (.ref a9)]) rfl ?_
      refine Z_iconst hC dL_scrap_13 (v := 1) (by decide) ?_
      exact Z_iret hC (by decide) (by decide) dL_scrap_14 (HQ.no hR hc1 hf hO (by decide))
    | 1, hi =>
      cases hi
      refine Z_astoreR_n hC dL_scrap_15 rfl (by decide) (ls1 := [some (rv x), some (.int v), some (rv o), some (.ref a9)]) rfl ?_
      refine Z_iconst hC dL_scrap_16 (v := 2) (by decide) ?_
      exact Z_iret hC (by decide) (by decide) dL_scrap_17 (HQ.no hR hc1 hf hO (by decide))
    | z + 2, hi => simp at hi
theorem hl_kindOf {G : Gt} {l : Launch} (hst : l.stackTraces = false) {M : Mm} {x o od : Nat} {S : St} {t : Nat} (hM : CAt M x S) (hI : Inv S t) (hO : Ot M o od) (v : Int32)  : Ch G l yL_kindOf cL_kindOf 4 hh_kindOf 8 M [rv x, .int v, rv o] 8 48 (HQ M x o od (oKindOf S v) (fun M9 => ∃ i, (oKindOf S v).2.1 = .int i ∧ mJ M9 o 0 = i.toInt64)) := by
  have hv := vi_oKindOf S v
  have hc := ct_X4_kindOf hst (G := G) (l := l) hM hI v
  refine Ch_intro (by decide +kernel) rfl hst (fun w hw => by simp only [List.mem_cons, List.not_mem_nil, or_false] at hw; rcases hw with rfl | rfl | rfl <;> first | rfl | exact rv_cat _) (Nat.le_of_ble_eq_true rfl) (fun γ hC hH => ?_)
  show JE G γ ET M 0 [some (rv x), some (.int v), some (rv o)] [] 0 0
  refine Z_aload_n hC dL_kindOf_0 rfl rfl ?_
  refine Z_iconst hC dL_kindOf_1 (v := 0) (by decide) ?_
  refine Z_aload_n hC dL_kindOf_2 rfl rfl ?_
  refine Z_iload_n hC dL_kindOf_3 rfl rfl ?_
  refine Z_callVH (k1 := 8) (n1 := 48) (kd := 5) (es := [eIO]) (Qi := fun i M1 => (oKindOf S v) = no (i + 1) S ∧ CAt M1 x S ∧ Fr pC M M1) [.int v] [.int v, rv x, .int 0, rv o] hC hH lv_L_46 hc hM.tx (by decide) ⟨_, mE_5 hM.tx⟩ rfl rfl rfl (by simp only [List.map_cons, List.map_nil, rv_cat, List.sum_cons, List.sum_nil]; (try simp only [Value.category]); (try omega)) (by decide) rfl rfl (by decide) (by decide) dL_kindOf_4 hk_kindOf (fun E M1 h => h) (fun v9 M9 hq9 => ?_) (fun i9 M9 q9 a9 hq hi => ?_)
  · obtain ⟨h0, h1, h2, h3⟩ := hq9
    obtain ⟨i, hi⟩ := hv
    rw [h1, hi]
    have hO9 := hO.fr h3 (by decide) (by decide)
    have tO := congrArg Prod.fst hO9.1
    refine Z_i2l hC dL_kindOf_7 ?_
    refine Z_last hC tO (j := 0) (by decide) (by rw [hO9.2.1]; decide) dL_kindOf_8 ?_
    refine Z_goto hC dL_kindOf_9 (tgt := 15) (by decide) ?_
    refine Z_iconst hC dL_kindOf_15 (v := 0) (by decide) ?_
    exact Z_iret hC (by decide) (by decide) dL_kindOf_16 (HQ.okJ h0 h2 h3 hO9 ⟨i, hi, by rw [mJ_pJ]⟩)
  · obtain ⟨hR, hc1, hf⟩ := hq
    match i9, hi with
    | 0, hi =>
      cases hi
      refine Z_astoreR_n hC dL_kindOf_12 rfl (by decide) (ls1 := [some (rv x), some (.int v), some (rv o), some (.ref a9)]) rfl ?_
      refine Z_iconst hC dL_kindOf_13 (v := 1) (by decide) ?_
      exact Z_iret hC (by decide) (by decide) dL_kindOf_14 (HQ.no hR hc1 hf hO (by decide))
    | z + 1, hi => simp at hi
theorem hl_sell {G : Gt} {l : Launch} (hst : l.stackTraces = false) {M : Mm} {x o od : Nat} {S : St} {t : Nat} (hM : CAt M x S) (hI : Inv S t) (hO : Ot M o od) (hlt : t < 512) (v w b d : Int32)  : Ch G l yL_sell cL_sell 7 hh_sell 10 M [rv x, .int v, .int w, .int b, .int d, rv o] 300 12000 (HQ M x o od (oSell S v w b d) (fun M9 => ∃ i, (oSell S v w b d).2.1 = .int i ∧ mJ M9 o 0 = i.toInt64)) := by
  have hv := vi_oSell S v w b d
  have hc := ct_X4_sell hst (G := G) (l := l) hM hI hlt v w b d
  refine Ch_intro (by decide +kernel) rfl hst (fun w hw => by simp only [List.mem_cons, List.not_mem_nil, or_false] at hw; rcases hw with rfl | rfl | rfl | rfl | rfl | rfl <;> first | rfl | exact rv_cat _) (Nat.le_of_ble_eq_true rfl) (fun γ hC hH => ?_)
  show JE G γ ET M 0 [some (rv x), some (.int v), some (.int w), some (.int b), some (.int d), some (rv o)] [] 0 0
  refine Z_aload hC dL_sell_0 rfl ?_
  refine Z_iconst hC dL_sell_2 (v := 0) (by decide) ?_
  refine Z_aload_n hC dL_sell_3 rfl rfl ?_
  refine Z_iload_n hC dL_sell_4 rfl rfl ?_
  refine Z_iload_n hC dL_sell_5 rfl rfl ?_
  refine Z_iload_n hC dL_sell_6 rfl rfl ?_
  refine Z_iload hC dL_sell_7 rfl ?_
  refine Z_callVH (k1 := 300) (n1 := 12000) (kd := 5) (es := [eIO, eIA, eUO, eIS]) (Qi := fun i M1 => (oSell S v w b d) = no (i + 1) S ∧ CAt M1 x S ∧ Fr pC M M1) [.int v, .int w, .int b, .int d] [.int d, .int b, .int w, .int v, rv x, .int 0, rv o] hC hH lv_L_50 hc hM.tx (by decide) ⟨_, mE_5 hM.tx⟩ rfl rfl rfl (by simp only [List.map_cons, List.map_nil, rv_cat, List.sum_cons, List.sum_nil]; (try simp only [Value.category]); (try omega)) (by decide) rfl rfl (by decide) (by decide) dL_sell_9 hk_sell (fun E M1 h => h) (fun v9 M9 hq9 => ?_) (fun i9 M9 q9 a9 hq hi => ?_)
  · obtain ⟨h0, h1, h2, h3⟩ := hq9
    obtain ⟨i, hi⟩ := hv
    rw [h1, hi]
    have hO9 := hO.fr h3 (by decide) (by decide)
    have tO := congrArg Prod.fst hO9.1
    refine Z_i2l hC dL_sell_12 ?_
    refine Z_last hC tO (j := 0) (by decide) (by rw [hO9.2.1]; decide) dL_sell_13 ?_
    refine Z_goto hC dL_sell_14 (tgt := 33) (by decide) ?_
    refine Z_iconst hC dL_sell_33 (v := 0) (by decide) ?_
    exact Z_iret hC (by decide) (by decide) dL_sell_34 (HQ.okJ h0 h2 h3 hO9 ⟨i, hi, by rw [mJ_pJ]⟩)
  · obtain ⟨hR, hc1, hf⟩ := hq
    match i9, hi with
    | 0, hi =>
      cases hi
      refine Z_astoreR hC dL_sell_17 (by decide) (ls1 := [some (rv x), some (.int v), some (.int w), some (.int b), some (.int d), some (rv o), some (.ref a9)]) rfl ?_
      refine Z_iconst hC dL_sell_19 (v := 1) (by decide) ?_
      exact Z_iret hC (by decide) (by decide) dL_sell_20 (HQ.no hR hc1 hf hO (by decide))
    | 1, hi =>
      cases hi
      refine Z_astoreR hC dL_sell_21 (by decide) (ls1 := [some (rv x), some (.int v), some (.int w), some (.int b), some (.int d), some (rv o), some (.ref a9)]) rfl ?_
      refine Z_iconst hC dL_sell_23 (v := 2) (by decide) ?_
      exact Z_iret hC (by decide) (by decide) dL_sell_24 (HQ.no hR hc1 hf hO (by decide))
    | 2, hi =>
      cases hi
      refine Z_astoreR hC dL_sell_25 (by decide) (ls1 := [some (rv x), some (.int v), some (.int w), some (.int b), some (.int d), some (rv o), some (.ref a9)]) rfl ?_
      refine Z_iconst hC dL_sell_27 (v := 3) (by decide) ?_
      exact Z_iret hC (by decide) (by decide) dL_sell_28 (HQ.no hR hc1 hf hO (by decide))
    | 3, hi =>
      cases hi
      refine Z_astoreR hC dL_sell_29 (by decide) (ls1 := [some (rv x), some (.int v), some (.int w), some (.int b), some (.int d), some (rv o), some (.ref a9)]) rfl ?_
      refine Z_iconst hC dL_sell_31 (v := 4) (by decide) ?_
      exact Z_iret hC (by decide) (by decide) dL_sell_32 (HQ.no hR hc1 hf hO (by decide))
    | z + 4, hi => simp at hi
theorem hl_buy {G : Gt} {l : Launch} (hst : l.stackTraces = false) {M : Mm} {x o od : Nat} {S : St} {t : Nat} (hM : CAt M x S) (hI : Inv S t) (hO : Ot M o od) (hlt : t < 512) (b w d : Int32)  : Ch G l yL_buy cL_buy 6 hh_buy 10 M [rv x, .int b, .int w, .int d, rv o] 300 12000 (HQ M x o od (oBuy S b w d) (fun M9 => ∃ i, (oBuy S b w d).2.1 = .int i ∧ mJ M9 o 0 = i.toInt64)) := by
  have hv := vi_oBuy S b w d
  have hc := ct_X4_buy hst (G := G) (l := l) hM hI hlt b w d
  refine Ch_intro (by decide +kernel) rfl hst (fun w hw => by simp only [List.mem_cons, List.not_mem_nil, or_false] at hw; rcases hw with rfl | rfl | rfl | rfl | rfl <;> first | rfl | exact rv_cat _) (Nat.le_of_ble_eq_true rfl) (fun γ hC hH => ?_)
  show JE G γ ET M 0 [some (rv x), some (.int b), some (.int w), some (.int d), some (rv o)] [] 0 0
  refine Z_aload hC dL_buy_0 rfl ?_
  refine Z_iconst hC dL_buy_2 (v := 0) (by decide) ?_
  refine Z_aload_n hC dL_buy_3 rfl rfl ?_
  refine Z_iload_n hC dL_buy_4 rfl rfl ?_
  refine Z_iload_n hC dL_buy_5 rfl rfl ?_
  refine Z_iload_n hC dL_buy_6 rfl rfl ?_
  refine Z_callVH (k1 := 300) (n1 := 12000) (kd := 5) (es := [eIO, eIA, eIS]) (Qi := fun i M1 => (oBuy S b w d) = no (i + 1) S ∧ CAt M1 x S ∧ Fr pC M M1) [.int b, .int w, .int d] [.int d, .int w, .int b, rv x, .int 0, rv o] hC hH lv_L_54 hc hM.tx (by decide) ⟨_, mE_5 hM.tx⟩ rfl rfl rfl (by simp only [List.map_cons, List.map_nil, rv_cat, List.sum_cons, List.sum_nil]; (try simp only [Value.category]); (try omega)) (by decide) rfl rfl (by decide) (by decide) dL_buy_7 hk_buy (fun E M1 h => h) (fun v9 M9 hq9 => ?_) (fun i9 M9 q9 a9 hq hi => ?_)
  · obtain ⟨h0, h1, h2, h3⟩ := hq9
    obtain ⟨i, hi⟩ := hv
    rw [h1, hi]
    have hO9 := hO.fr h3 (by decide) (by decide)
    have tO := congrArg Prod.fst hO9.1
    refine Z_i2l hC dL_buy_10 ?_
    refine Z_last hC tO (j := 0) (by decide) (by rw [hO9.2.1]; decide) dL_buy_11 ?_
    refine Z_goto hC dL_buy_12 (tgt := 27) (by decide) ?_
    refine Z_iconst hC dL_buy_27 (v := 0) (by decide) ?_
    exact Z_iret hC (by decide) (by decide) dL_buy_28 (HQ.okJ h0 h2 h3 hO9 ⟨i, hi, by rw [mJ_pJ]⟩)
  · obtain ⟨hR, hc1, hf⟩ := hq
    match i9, hi with
    | 0, hi =>
      cases hi
      refine Z_astoreR hC dL_buy_15 (by decide) (ls1 := [some (rv x), some (.int b), some (.int w), some (.int d), some (rv o), some (.ref a9)]) rfl ?_
      refine Z_iconst hC dL_buy_17 (v := 1) (by decide) ?_
      exact Z_iret hC (by decide) (by decide) dL_buy_18 (HQ.no hR hc1 hf hO (by decide))
    | 1, hi =>
      cases hi
      refine Z_astoreR hC dL_buy_19 (by decide) (ls1 := [some (rv x), some (.int b), some (.int w), some (.int d), some (rv o), some (.ref a9)]) rfl ?_
      refine Z_iconst hC dL_buy_21 (v := 2) (by decide) ?_
      exact Z_iret hC (by decide) (by decide) dL_buy_22 (HQ.no hR hc1 hf hO (by decide))
    | 2, hi =>
      cases hi
      refine Z_astoreR hC dL_buy_23 (by decide) (ls1 := [some (rv x), some (.int b), some (.int w), some (.int d), some (rv o), some (.ref a9)]) rfl ?_
      refine Z_iconst hC dL_buy_25 (v := 3) (by decide) ?_
      exact Z_iret hC (by decide) (by decide) dL_buy_26 (HQ.no hR hc1 hf hO (by decide))
    | z + 3, hi => simp at hi
theorem hl_withdraw {G : Gt} {l : Launch} (hst : l.stackTraces = false) {M : Mm} {x o od : Nat} {S : St} {t : Nat} (hM : CAt M x S) (hI : Inv S t) (hO : Ot M o od) (hlt : t < 512) (v : Int32)  : Ch G l yL_withdraw cL_withdraw 4 hh_withdraw 8 M [rv x, .int v, rv o] 40 9000 (HQ M x o od (oWithdraw S v) (fun M9 => ∃ i, (oWithdraw S v).2.1 = .int i ∧ mJ M9 o 0 = i.toInt64)) := by
  have hv := vi_oWithdraw S v
  have hc := ct_X4_withdraw hst (G := G) (l := l) hM hI hlt v
  refine Ch_intro (by decide +kernel) rfl hst (fun w hw => by simp only [List.mem_cons, List.not_mem_nil, or_false] at hw; rcases hw with rfl | rfl | rfl <;> first | rfl | exact rv_cat _) (Nat.le_of_ble_eq_true rfl) (fun γ hC hH => ?_)
  show JE G γ ET M 0 [some (rv x), some (.int v), some (rv o)] [] 0 0
  refine Z_aload_n hC dL_withdraw_0 rfl rfl ?_
  refine Z_iconst hC dL_withdraw_1 (v := 0) (by decide) ?_
  refine Z_aload_n hC dL_withdraw_2 rfl rfl ?_
  refine Z_iload_n hC dL_withdraw_3 rfl rfl ?_
  refine Z_callVH (k1 := 40) (n1 := 9000) (kd := 5) (es := [eNS, eIS]) (Qi := fun i M1 => (oWithdraw S v) = no (i + 1) S ∧ CAt M1 x S ∧ Fr pC M M1) [.int v] [.int v, rv x, .int 0, rv o] hC hH lv_L_58 hc hM.tx (by decide) ⟨_, mE_5 hM.tx⟩ rfl rfl rfl (by simp only [List.map_cons, List.map_nil, rv_cat, List.sum_cons, List.sum_nil]; (try simp only [Value.category]); (try omega)) (by decide) rfl rfl (by decide) (by decide) dL_withdraw_4 hk_withdraw (fun E M1 h => h) (fun v9 M9 hq9 => ?_) (fun i9 M9 q9 a9 hq hi => ?_)
  · obtain ⟨h0, h1, h2, h3⟩ := hq9
    obtain ⟨i, hi⟩ := hv
    rw [h1, hi]
    have hO9 := hO.fr h3 (by decide) (by decide)
    have tO := congrArg Prod.fst hO9.1
    refine Z_i2l hC dL_withdraw_7 ?_
    refine Z_last hC tO (j := 0) (by decide) (by rw [hO9.2.1]; decide) dL_withdraw_8 ?_
    refine Z_goto hC dL_withdraw_9 (tgt := 18) (by decide) ?_
    refine Z_iconst hC dL_withdraw_18 (v := 0) (by decide) ?_
    exact Z_iret hC (by decide) (by decide) dL_withdraw_19 (HQ.okJ h0 h2 h3 hO9 ⟨i, hi, by rw [mJ_pJ]⟩)
  · obtain ⟨hR, hc1, hf⟩ := hq
    match i9, hi with
    | 0, hi =>
      cases hi
      refine Z_astoreR_n hC dL_withdraw_12 rfl (by decide) (ls1 := [some (rv x), some (.int v), some (rv o), some (.ref a9)]) rfl ?_
      refine Z_iconst hC dL_withdraw_13 (v := 1) (by decide) ?_
      exact Z_iret hC (by decide) (by decide) dL_withdraw_14 (HQ.no hR hc1 hf hO (by decide))
    | 1, hi =>
      cases hi
      refine Z_astoreR_n hC dL_withdraw_15 rfl (by decide) (ls1 := [some (rv x), some (.int v), some (rv o), some (.ref a9)]) rfl ?_
      refine Z_iconst hC dL_withdraw_16 (v := 2) (by decide) ?_
      exact Z_iret hC (by decide) (by decide) dL_withdraw_17 (HQ.no hR hc1 hf hO (by decide))
    | z + 2, hi => simp at hi
theorem hl_stateOf {G : Gt} {l : Launch} (hst : l.stackTraces = false) {M : Mm} {x o od : Nat} {S : St} {t : Nat} (hM : CAt M x S) (hI : Inv S t) (hO : Ot M o od) (v : Int32)  : Ch G l yL_stateOf cL_stateOf 4 hh_stateOf 8 M [rv x, .int v, rv o] 8 48 (HQ M x o od (oStateOf S v) (fun M9 => ∃ i, (oStateOf S v).2.1 = .int i ∧ mJ M9 o 0 = i.toInt64)) := by
  have hv := vi_oStateOf S v
  have hc := ct_X4_stateOf hst (G := G) (l := l) hM hI v
  refine Ch_intro (by decide +kernel) rfl hst (fun w hw => by simp only [List.mem_cons, List.not_mem_nil, or_false] at hw; rcases hw with rfl | rfl | rfl <;> first | rfl | exact rv_cat _) (Nat.le_of_ble_eq_true rfl) (fun γ hC hH => ?_)
  show JE G γ ET M 0 [some (rv x), some (.int v), some (rv o)] [] 0 0
  refine Z_aload_n hC dL_stateOf_0 rfl rfl ?_
  refine Z_iconst hC dL_stateOf_1 (v := 0) (by decide) ?_
  refine Z_aload_n hC dL_stateOf_2 rfl rfl ?_
  refine Z_iload_n hC dL_stateOf_3 rfl rfl ?_
  refine Z_callVH (k1 := 8) (n1 := 48) (kd := 5) (es := [eNS]) (Qi := fun i M1 => (oStateOf S v) = no (i + 1) S ∧ CAt M1 x S ∧ Fr pC M M1) [.int v] [.int v, rv x, .int 0, rv o] hC hH lv_L_63 hc hM.tx (by decide) ⟨_, mE_5 hM.tx⟩ rfl rfl rfl (by simp only [List.map_cons, List.map_nil, rv_cat, List.sum_cons, List.sum_nil]; (try simp only [Value.category]); (try omega)) (by decide) rfl rfl (by decide) (by decide) dL_stateOf_4 hk_stateOf (fun E M1 h => h) (fun v9 M9 hq9 => ?_) (fun i9 M9 q9 a9 hq hi => ?_)
  · obtain ⟨h0, h1, h2, h3⟩ := hq9
    obtain ⟨i, hi⟩ := hv
    rw [h1, hi]
    have hO9 := hO.fr h3 (by decide) (by decide)
    have tO := congrArg Prod.fst hO9.1
    refine Z_i2l hC dL_stateOf_7 ?_
    refine Z_last hC tO (j := 0) (by decide) (by rw [hO9.2.1]; decide) dL_stateOf_8 ?_
    refine Z_goto hC dL_stateOf_9 (tgt := 15) (by decide) ?_
    refine Z_iconst hC dL_stateOf_15 (v := 0) (by decide) ?_
    exact Z_iret hC (by decide) (by decide) dL_stateOf_16 (HQ.okJ h0 h2 h3 hO9 ⟨i, hi, by rw [mJ_pJ]⟩)
  · obtain ⟨hR, hc1, hf⟩ := hq
    match i9, hi with
    | 0, hi =>
      cases hi
      refine Z_astoreR_n hC dL_stateOf_12 rfl (by decide) (ls1 := [some (rv x), some (.int v), some (rv o), some (.ref a9)]) rfl ?_
      refine Z_iconst hC dL_stateOf_13 (v := 1) (by decide) ?_
      exact Z_iret hC (by decide) (by decide) dL_stateOf_14 (HQ.no hR hc1 hf hO (by decide))
    | z + 1, hi => simp at hi
theorem hl_partnerOf {G : Gt} {l : Launch} (hst : l.stackTraces = false) {M : Mm} {x o od : Nat} {S : St} {t : Nat} (hM : CAt M x S) (hI : Inv S t) (hO : Ot M o od) (v : Int32)  : Ch G l yL_partnerOf cL_partnerOf 4 hh_partnerOf 8 M [rv x, .int v, rv o] 8 48 (HQ M x o od (oPartnerOf S v) (fun M9 => ∃ i, (oPartnerOf S v).2.1 = .int i ∧ mJ M9 o 0 = i.toInt64)) := by
  have hv := vi_oPartnerOf S v
  have hc := ct_X4_partnerOf hst (G := G) (l := l) hM hI v
  refine Ch_intro (by decide +kernel) rfl hst (fun w hw => by simp only [List.mem_cons, List.not_mem_nil, or_false] at hw; rcases hw with rfl | rfl | rfl <;> first | rfl | exact rv_cat _) (Nat.le_of_ble_eq_true rfl) (fun γ hC hH => ?_)
  show JE G γ ET M 0 [some (rv x), some (.int v), some (rv o)] [] 0 0
  refine Z_aload_n hC dL_partnerOf_0 rfl rfl ?_
  refine Z_iconst hC dL_partnerOf_1 (v := 0) (by decide) ?_
  refine Z_aload_n hC dL_partnerOf_2 rfl rfl ?_
  refine Z_iload_n hC dL_partnerOf_3 rfl rfl ?_
  refine Z_callVH (k1 := 8) (n1 := 48) (kd := 5) (es := [eNS, eIS]) (Qi := fun i M1 => (oPartnerOf S v) = no (i + 1) S ∧ CAt M1 x S ∧ Fr pC M M1) [.int v] [.int v, rv x, .int 0, rv o] hC hH lv_L_66 hc hM.tx (by decide) ⟨_, mE_5 hM.tx⟩ rfl rfl rfl (by simp only [List.map_cons, List.map_nil, rv_cat, List.sum_cons, List.sum_nil]; (try simp only [Value.category]); (try omega)) (by decide) rfl rfl (by decide) (by decide) dL_partnerOf_4 hk_partnerOf (fun E M1 h => h) (fun v9 M9 hq9 => ?_) (fun i9 M9 q9 a9 hq hi => ?_)
  · obtain ⟨h0, h1, h2, h3⟩ := hq9
    obtain ⟨i, hi⟩ := hv
    rw [h1, hi]
    have hO9 := hO.fr h3 (by decide) (by decide)
    have tO := congrArg Prod.fst hO9.1
    refine Z_i2l hC dL_partnerOf_7 ?_
    refine Z_last hC tO (j := 0) (by decide) (by rw [hO9.2.1]; decide) dL_partnerOf_8 ?_
    refine Z_goto hC dL_partnerOf_9 (tgt := 18) (by decide) ?_
    refine Z_iconst hC dL_partnerOf_18 (v := 0) (by decide) ?_
    exact Z_iret hC (by decide) (by decide) dL_partnerOf_19 (HQ.okJ h0 h2 h3 hO9 ⟨i, hi, by rw [mJ_pJ]⟩)
  · obtain ⟨hR, hc1, hf⟩ := hq
    match i9, hi with
    | 0, hi =>
      cases hi
      refine Z_astoreR_n hC dL_partnerOf_12 rfl (by decide) (ls1 := [some (rv x), some (.int v), some (rv o), some (.ref a9)]) rfl ?_
      refine Z_iconst hC dL_partnerOf_13 (v := 1) (by decide) ?_
      exact Z_iret hC (by decide) (by decide) dL_partnerOf_14 (HQ.no hR hc1 hf hO (by decide))
    | 1, hi =>
      cases hi
      refine Z_astoreR_n hC dL_partnerOf_15 rfl (by decide) (ls1 := [some (rv x), some (.int v), some (rv o), some (.ref a9)]) rfl ?_
      refine Z_iconst hC dL_partnerOf_16 (v := 2) (by decide) ?_
      exact Z_iret hC (by decide) (by decide) dL_partnerOf_17 (HQ.no hR hc1 hf hO (by decide))
    | z + 2, hi => simp at hi
theorem hl_openNotices {G : Gt} {l : Launch} (hst : l.stackTraces = false) {M : Mm} {x o od : Nat} {S : St} {t : Nat} (hM : CAt M x S) (hI : Inv S t) (hO : Ot M o od) (v : Int32)  : Ch G l yL_openNotices cL_openNotices 4 hh_openNotices 8 M [rv x, .int v, rv o] 8 48 (HQ M x o od (oOpen S v) (fun M9 => ∃ i, (oOpen S v).2.1 = .int i ∧ mJ M9 o 0 = i.toInt64)) := by
  have hv := vi_oOpen S v
  have hc := ct_X4_openNotices hst (G := G) (l := l) hM hI v
  refine Ch_intro (by decide +kernel) rfl hst (fun w hw => by simp only [List.mem_cons, List.not_mem_nil, or_false] at hw; rcases hw with rfl | rfl | rfl <;> first | rfl | exact rv_cat _) (Nat.le_of_ble_eq_true rfl) (fun γ hC hH => ?_)
  show JE G γ ET M 0 [some (rv x), some (.int v), some (rv o)] [] 0 0
  refine Z_aload_n hC dL_openNotices_0 rfl rfl ?_
  refine Z_iconst hC dL_openNotices_1 (v := 0) (by decide) ?_
  refine Z_aload_n hC dL_openNotices_2 rfl rfl ?_
  refine Z_iload_n hC dL_openNotices_3 rfl rfl ?_
  refine Z_callVH (k1 := 8) (n1 := 48) (kd := 5) (es := [eIO]) (Qi := fun i M1 => (oOpen S v) = no (i + 1) S ∧ CAt M1 x S ∧ Fr pC M M1) [.int v] [.int v, rv x, .int 0, rv o] hC hH lv_L_69 hc hM.tx (by decide) ⟨_, mE_5 hM.tx⟩ rfl rfl rfl (by simp only [List.map_cons, List.map_nil, rv_cat, List.sum_cons, List.sum_nil]; (try simp only [Value.category]); (try omega)) (by decide) rfl rfl (by decide) (by decide) dL_openNotices_4 hk_openNotices (fun E M1 h => h) (fun v9 M9 hq9 => ?_) (fun i9 M9 q9 a9 hq hi => ?_)
  · obtain ⟨h0, h1, h2, h3⟩ := hq9
    obtain ⟨i, hi⟩ := hv
    rw [h1, hi]
    have hO9 := hO.fr h3 (by decide) (by decide)
    have tO := congrArg Prod.fst hO9.1
    refine Z_i2l hC dL_openNotices_7 ?_
    refine Z_last hC tO (j := 0) (by decide) (by rw [hO9.2.1]; decide) dL_openNotices_8 ?_
    refine Z_goto hC dL_openNotices_9 (tgt := 15) (by decide) ?_
    refine Z_iconst hC dL_openNotices_15 (v := 0) (by decide) ?_
    exact Z_iret hC (by decide) (by decide) dL_openNotices_16 (HQ.okJ h0 h2 h3 hO9 ⟨i, hi, by rw [mJ_pJ]⟩)
  · obtain ⟨hR, hc1, hf⟩ := hq
    match i9, hi with
    | 0, hi =>
      cases hi
      refine Z_astoreR_n hC dL_openNotices_12 rfl (by decide) (ls1 := [some (rv x), some (.int v), some (rv o), some (.ref a9)]) rfl ?_
      refine Z_iconst hC dL_openNotices_13 (v := 1) (by decide) ?_
      exact Z_iret hC (by decide) (by decide) dL_openNotices_14 (HQ.no hR hc1 hf hO (by decide))
    | z + 1, hi => simp at hi
theorem hl_keeperOn {G : Gt} {l : Launch} (hst : l.stackTraces = false) {M : Mm} {x o od : Nat} {S : St} {t : Nat} (hM : CAt M x S) (hI : Inv S t) (hO : Ot M o od) (v d : Int32)  : Ch G l yL_keeperOn cL_keeperOn 5 hh_keeperOn 8 M [rv x, .int v, .int d, rv o] 8 48 (HQ M x o od (oLookT 0 S v d) (fun M9 => ∃ i, (oLookT 0 S v d).2.1 = .int i ∧ mJ M9 o 0 = i.toInt64)) := by
  have hv := vi_oLookT 0 S v d
  have hc := ct_X4_keeperOn hst (G := G) (l := l) hM hI v d
  refine Ch_intro (by decide +kernel) rfl hst (fun w hw => by simp only [List.mem_cons, List.not_mem_nil, or_false] at hw; rcases hw with rfl | rfl | rfl | rfl <;> first | rfl | exact rv_cat _) (Nat.le_of_ble_eq_true rfl) (fun γ hC hH => ?_)
  show JE G γ ET M 0 [some (rv x), some (.int v), some (.int d), some (rv o)] [] 0 0
  refine Z_aload_n hC dL_keeperOn_0 rfl rfl ?_
  refine Z_iconst hC dL_keeperOn_1 (v := 0) (by decide) ?_
  refine Z_aload_n hC dL_keeperOn_2 rfl rfl ?_
  refine Z_iload_n hC dL_keeperOn_3 rfl rfl ?_
  refine Z_iload_n hC dL_keeperOn_4 rfl rfl ?_
  refine Z_callVH (k1 := 8) (n1 := 48) (kd := 5) (es := [eIO, eIA, eNS]) (Qi := fun i M1 => (oLookT 0 S v d) = no (i + 1) S ∧ CAt M1 x S ∧ Fr pC M M1) [.int v, .int d] [.int d, .int v, rv x, .int 0, rv o] hC hH lv_L_72 hc hM.tx (by decide) ⟨_, mE_5 hM.tx⟩ rfl rfl rfl (by simp only [List.map_cons, List.map_nil, rv_cat, List.sum_cons, List.sum_nil]; (try simp only [Value.category]); (try omega)) (by decide) rfl rfl (by decide) (by decide) dL_keeperOn_5 hk_keeperOn (fun E M1 h => h) (fun v9 M9 hq9 => ?_) (fun i9 M9 q9 a9 hq hi => ?_)
  · obtain ⟨h0, h1, h2, h3⟩ := hq9
    obtain ⟨i, hi⟩ := hv
    rw [h1, hi]
    have hO9 := hO.fr h3 (by decide) (by decide)
    have tO := congrArg Prod.fst hO9.1
    refine Z_i2l hC dL_keeperOn_8 ?_
    refine Z_last hC tO (j := 0) (by decide) (by rw [hO9.2.1]; decide) dL_keeperOn_9 ?_
    refine Z_goto hC dL_keeperOn_10 (tgt := 25) (by decide) ?_
    refine Z_iconst hC dL_keeperOn_25 (v := 0) (by decide) ?_
    exact Z_iret hC (by decide) (by decide) dL_keeperOn_26 (HQ.okJ h0 h2 h3 hO9 ⟨i, hi, by rw [mJ_pJ]⟩)
  · obtain ⟨hR, hc1, hf⟩ := hq
    match i9, hi with
    | 0, hi =>
      cases hi
      refine Z_astoreR hC dL_keeperOn_13 (by decide) (ls1 := [some (rv x), some (.int v), some (.int d), some (rv o), some (.ref a9)]) rfl ?_
      refine Z_iconst hC dL_keeperOn_15 (v := 1) (by decide) ?_
      exact Z_iret hC (by decide) (by decide) dL_keeperOn_16 (HQ.no hR hc1 hf hO (by decide))
    | 1, hi =>
      cases hi
      refine Z_astoreR hC dL_keeperOn_17 (by decide) (ls1 := [some (rv x), some (.int v), some (.int d), some (rv o), some (.ref a9)]) rfl ?_
      refine Z_iconst hC dL_keeperOn_19 (v := 2) (by decide) ?_
      exact Z_iret hC (by decide) (by decide) dL_keeperOn_20 (HQ.no hR hc1 hf hO (by decide))
    | 2, hi =>
      cases hi
      refine Z_astoreR hC dL_keeperOn_21 (by decide) (ls1 := [some (rv x), some (.int v), some (.int d), some (rv o), some (.ref a9)]) rfl ?_
      refine Z_iconst hC dL_keeperOn_23 (v := 3) (by decide) ?_
      exact Z_iret hC (by decide) (by decide) dL_keeperOn_24 (HQ.no hR hc1 hf hO (by decide))
    | z + 3, hi => simp at hi
theorem hl_keeperByGoing {G : Gt} {l : Launch} (hst : l.stackTraces = false) {M : Mm} {x o od : Nat} {S : St} {t : Nat} (hM : CAt M x S) (hI : Inv S t) (hO : Ot M o od) (v d : Int32)  : Ch G l yL_keeperByGoing cL_keeperByGoing 5 hh_keeperByGoing 8 M [rv x, .int v, .int d, rv o] 8 48 (HQ M x o od (oLookT 0 S v d) (fun M9 => ∃ i, (oLookT 0 S v d).2.1 = .int i ∧ mJ M9 o 0 = i.toInt64)) := by
  have hv := vi_oLookT 0 S v d
  have hc := ct_X4_keeperByGoing hst (G := G) (l := l) hM hI v d
  refine Ch_intro (by decide +kernel) rfl hst (fun w hw => by simp only [List.mem_cons, List.not_mem_nil, or_false] at hw; rcases hw with rfl | rfl | rfl | rfl <;> first | rfl | exact rv_cat _) (Nat.le_of_ble_eq_true rfl) (fun γ hC hH => ?_)
  show JE G γ ET M 0 [some (rv x), some (.int v), some (.int d), some (rv o)] [] 0 0
  refine Z_aload_n hC dL_keeperByGoing_0 rfl rfl ?_
  refine Z_iconst hC dL_keeperByGoing_1 (v := 0) (by decide) ?_
  refine Z_aload_n hC dL_keeperByGoing_2 rfl rfl ?_
  refine Z_iload_n hC dL_keeperByGoing_3 rfl rfl ?_
  refine Z_iload_n hC dL_keeperByGoing_4 rfl rfl ?_
  refine Z_callVH (k1 := 8) (n1 := 48) (kd := 5) (es := [eIO, eIA, eNS]) (Qi := fun i M1 => (oLookT 0 S v d) = no (i + 1) S ∧ CAt M1 x S ∧ Fr pC M M1) [.int v, .int d] [.int d, .int v, rv x, .int 0, rv o] hC hH lv_L_76 hc hM.tx (by decide) ⟨_, mE_5 hM.tx⟩ rfl rfl rfl (by simp only [List.map_cons, List.map_nil, rv_cat, List.sum_cons, List.sum_nil]; (try simp only [Value.category]); (try omega)) (by decide) rfl rfl (by decide) (by decide) dL_keeperByGoing_5 hk_keeperByGoing (fun E M1 h => h) (fun v9 M9 hq9 => ?_) (fun i9 M9 q9 a9 hq hi => ?_)
  · obtain ⟨h0, h1, h2, h3⟩ := hq9
    obtain ⟨i, hi⟩ := hv
    rw [h1, hi]
    have hO9 := hO.fr h3 (by decide) (by decide)
    have tO := congrArg Prod.fst hO9.1
    refine Z_i2l hC dL_keeperByGoing_8 ?_
    refine Z_last hC tO (j := 0) (by decide) (by rw [hO9.2.1]; decide) dL_keeperByGoing_9 ?_
    refine Z_goto hC dL_keeperByGoing_10 (tgt := 25) (by decide) ?_
    refine Z_iconst hC dL_keeperByGoing_25 (v := 0) (by decide) ?_
    exact Z_iret hC (by decide) (by decide) dL_keeperByGoing_26 (HQ.okJ h0 h2 h3 hO9 ⟨i, hi, by rw [mJ_pJ]⟩)
  · obtain ⟨hR, hc1, hf⟩ := hq
    match i9, hi with
    | 0, hi =>
      cases hi
      refine Z_astoreR hC dL_keeperByGoing_13 (by decide) (ls1 := [some (rv x), some (.int v), some (.int d), some (rv o), some (.ref a9)]) rfl ?_
      refine Z_iconst hC dL_keeperByGoing_15 (v := 1) (by decide) ?_
      exact Z_iret hC (by decide) (by decide) dL_keeperByGoing_16 (HQ.no hR hc1 hf hO (by decide))
    | 1, hi =>
      cases hi
      refine Z_astoreR hC dL_keeperByGoing_17 (by decide) (ls1 := [some (rv x), some (.int v), some (.int d), some (rv o), some (.ref a9)]) rfl ?_
      refine Z_iconst hC dL_keeperByGoing_19 (v := 2) (by decide) ?_
      exact Z_iret hC (by decide) (by decide) dL_keeperByGoing_20 (HQ.no hR hc1 hf hO (by decide))
    | 2, hi =>
      cases hi
      refine Z_astoreR hC dL_keeperByGoing_21 (by decide) (ls1 := [some (rv x), some (.int v), some (.int d), some (rv o), some (.ref a9)]) rfl ?_
      refine Z_iconst hC dL_keeperByGoing_23 (v := 3) (by decide) ?_
      exact Z_iret hC (by decide) (by decide) dL_keeperByGoing_24 (HQ.no hR hc1 hf hO (by decide))
    | z + 3, hi => simp at hi
theorem hl_transfers {G : Gt} {l : Launch} (hst : l.stackTraces = false) {M : Mm} {x o od : Nat} {S : St} {t : Nat} (hM : CAt M x S) (hI : Inv S t) (hO : Ot M o od) (v : Int32)  : Ch G l yL_transfers cL_transfers 4 hh_transfers 8 M [rv x, .int v, rv o] 8 48 (HQ M x o od (oTransfers S v) (fun M9 => ∃ i, (oTransfers S v).2.1 = .int i ∧ mJ M9 o 0 = i.toInt64)) := by
  have hv := vi_oTransfers S v
  have hc := ct_X4_transfers hst (G := G) (l := l) hM hI v
  refine Ch_intro (by decide +kernel) rfl hst (fun w hw => by simp only [List.mem_cons, List.not_mem_nil, or_false] at hw; rcases hw with rfl | rfl | rfl <;> first | rfl | exact rv_cat _) (Nat.le_of_ble_eq_true rfl) (fun γ hC hH => ?_)
  show JE G γ ET M 0 [some (rv x), some (.int v), some (rv o)] [] 0 0
  refine Z_aload_n hC dL_transfers_0 rfl rfl ?_
  refine Z_iconst hC dL_transfers_1 (v := 0) (by decide) ?_
  refine Z_aload_n hC dL_transfers_2 rfl rfl ?_
  refine Z_iload_n hC dL_transfers_3 rfl rfl ?_
  refine Z_callVH (k1 := 8) (n1 := 48) (kd := 5) (es := [eIO]) (Qi := fun i M1 => (oTransfers S v) = no (i + 1) S ∧ CAt M1 x S ∧ Fr pC M M1) [.int v] [.int v, rv x, .int 0, rv o] hC hH lv_L_79 hc hM.tx (by decide) ⟨_, mE_5 hM.tx⟩ rfl rfl rfl (by simp only [List.map_cons, List.map_nil, rv_cat, List.sum_cons, List.sum_nil]; (try simp only [Value.category]); (try omega)) (by decide) rfl rfl (by decide) (by decide) dL_transfers_4 hk_transfers (fun E M1 h => h) (fun v9 M9 hq9 => ?_) (fun i9 M9 q9 a9 hq hi => ?_)
  · obtain ⟨h0, h1, h2, h3⟩ := hq9
    obtain ⟨i, hi⟩ := hv
    rw [h1, hi]
    have hO9 := hO.fr h3 (by decide) (by decide)
    have tO := congrArg Prod.fst hO9.1
    refine Z_i2l hC dL_transfers_7 ?_
    refine Z_last hC tO (j := 0) (by decide) (by rw [hO9.2.1]; decide) dL_transfers_8 ?_
    refine Z_goto hC dL_transfers_9 (tgt := 15) (by decide) ?_
    refine Z_iconst hC dL_transfers_15 (v := 0) (by decide) ?_
    exact Z_iret hC (by decide) (by decide) dL_transfers_16 (HQ.okJ h0 h2 h3 hO9 ⟨i, hi, by rw [mJ_pJ]⟩)
  · obtain ⟨hR, hc1, hf⟩ := hq
    match i9, hi with
    | 0, hi =>
      cases hi
      refine Z_astoreR_n hC dL_transfers_12 rfl (by decide) (ls1 := [some (rv x), some (.int v), some (rv o), some (.ref a9)]) rfl ?_
      refine Z_iconst hC dL_transfers_13 (v := 1) (by decide) ?_
      exact Z_iret hC (by decide) (by decide) dL_transfers_14 (HQ.no hR hc1 hf hO (by decide))
    | z + 1, hi => simp at hi
theorem hl_transferDay {G : Gt} {l : Launch} (hst : l.stackTraces = false) {M : Mm} {x o od : Nat} {S : St} {t : Nat} (hM : CAt M x S) (hI : Inv S t) (hO : Ot M o od) (v k : Int32)  : Ch G l yL_transferDay cL_transferDay 5 hh_transferDay 8 M [rv x, .int v, .int k, rv o] 8 48 (HQ M x o od (oTransferDay S v k) (fun M9 => ∃ i, (oTransferDay S v k).2.1 = .int i ∧ mJ M9 o 0 = i.toInt64)) := by
  have hv := vi_oTransferDay S v k
  have hc := ct_X4_transferDay hst (G := G) (l := l) hM hI v k
  refine Ch_intro (by decide +kernel) rfl hst (fun w hw => by simp only [List.mem_cons, List.not_mem_nil, or_false] at hw; rcases hw with rfl | rfl | rfl | rfl <;> first | rfl | exact rv_cat _) (Nat.le_of_ble_eq_true rfl) (fun γ hC hH => ?_)
  show JE G γ ET M 0 [some (rv x), some (.int v), some (.int k), some (rv o)] [] 0 0
  refine Z_aload_n hC dL_transferDay_0 rfl rfl ?_
  refine Z_iconst hC dL_transferDay_1 (v := 0) (by decide) ?_
  refine Z_aload_n hC dL_transferDay_2 rfl rfl ?_
  refine Z_iload_n hC dL_transferDay_3 rfl rfl ?_
  refine Z_iload_n hC dL_transferDay_4 rfl rfl ?_
  refine Z_callVH (k1 := 8) (n1 := 48) (kd := 5) (es := [eIO]) (Qi := fun i M1 => (oTransferDay S v k) = no (i + 1) S ∧ CAt M1 x S ∧ Fr pC M M1) [.int v, .int k] [.int k, .int v, rv x, .int 0, rv o] hC hH lv_L_82 hc hM.tx (by decide) ⟨_, mE_5 hM.tx⟩ rfl rfl rfl (by simp only [List.map_cons, List.map_nil, rv_cat, List.sum_cons, List.sum_nil]; (try simp only [Value.category]); (try omega)) (by decide) rfl rfl (by decide) (by decide) dL_transferDay_5 hk_transferDay (fun E M1 h => h) (fun v9 M9 hq9 => ?_) (fun i9 M9 q9 a9 hq hi => ?_)
  · obtain ⟨h0, h1, h2, h3⟩ := hq9
    obtain ⟨i, hi⟩ := hv
    rw [h1, hi]
    have hO9 := hO.fr h3 (by decide) (by decide)
    have tO := congrArg Prod.fst hO9.1
    refine Z_i2l hC dL_transferDay_8 ?_
    refine Z_last hC tO (j := 0) (by decide) (by rw [hO9.2.1]; decide) dL_transferDay_9 ?_
    refine Z_goto hC dL_transferDay_10 (tgt := 17) (by decide) ?_
    refine Z_iconst hC dL_transferDay_17 (v := 0) (by decide) ?_
    exact Z_iret hC (by decide) (by decide) dL_transferDay_18 (HQ.okJ h0 h2 h3 hO9 ⟨i, hi, by rw [mJ_pJ]⟩)
  · obtain ⟨hR, hc1, hf⟩ := hq
    match i9, hi with
    | 0, hi =>
      cases hi
      refine Z_astoreR hC dL_transferDay_13 (by decide) (ls1 := [some (rv x), some (.int v), some (.int k), some (rv o), some (.ref a9)]) rfl ?_
      refine Z_iconst hC dL_transferDay_15 (v := 1) (by decide) ?_
      exact Z_iret hC (by decide) (by decide) dL_transferDay_16 (HQ.no hR hc1 hf hO (by decide))
    | z + 1, hi => simp at hi
theorem hl_keptBy {G : Gt} {l : Launch} (hst : l.stackTraces = false) {M : Mm} {x o od : Nat} {S : St} {t : Nat} (hM : CAt M x S) (hI : Inv S t) (hO : Ot M o od) (v : Int32)  : Ch G l yL_keptBy cL_keptBy 4 hh_keptBy 8 M [rv x, .int v, rv o] 8 48 (HQ M x o od (oKeptBy S v) (fun M9 => ∃ i, (oKeptBy S v).2.1 = .int i ∧ mJ M9 o 0 = i.toInt64)) := by
  have hv := vi_oKeptBy S v
  have hc := ct_X4_keptBy hst (G := G) (l := l) hM hI v
  refine Ch_intro (by decide +kernel) rfl hst (fun w hw => by simp only [List.mem_cons, List.not_mem_nil, or_false] at hw; rcases hw with rfl | rfl | rfl <;> first | rfl | exact rv_cat _) (Nat.le_of_ble_eq_true rfl) (fun γ hC hH => ?_)
  show JE G γ ET M 0 [some (rv x), some (.int v), some (rv o)] [] 0 0
  refine Z_aload_n hC dL_keptBy_0 rfl rfl ?_
  refine Z_iconst hC dL_keptBy_1 (v := 0) (by decide) ?_
  refine Z_aload_n hC dL_keptBy_2 rfl rfl ?_
  refine Z_iload_n hC dL_keptBy_3 rfl rfl ?_
  refine Z_callVH (k1 := 8) (n1 := 48) (kd := 5) (es := [eIO]) (Qi := fun i M1 => (oKeptBy S v) = no (i + 1) S ∧ CAt M1 x S ∧ Fr pC M M1) [.int v] [.int v, rv x, .int 0, rv o] hC hH lv_L_85 hc hM.tx (by decide) ⟨_, mE_5 hM.tx⟩ rfl rfl rfl (by simp only [List.map_cons, List.map_nil, rv_cat, List.sum_cons, List.sum_nil]; (try simp only [Value.category]); (try omega)) (by decide) rfl rfl (by decide) (by decide) dL_keptBy_4 hk_keptBy (fun E M1 h => h) (fun v9 M9 hq9 => ?_) (fun i9 M9 q9 a9 hq hi => ?_)
  · obtain ⟨h0, h1, h2, h3⟩ := hq9
    obtain ⟨i, hi⟩ := hv
    rw [h1, hi]
    have hO9 := hO.fr h3 (by decide) (by decide)
    have tO := congrArg Prod.fst hO9.1
    refine Z_i2l hC dL_keptBy_7 ?_
    refine Z_last hC tO (j := 0) (by decide) (by rw [hO9.2.1]; decide) dL_keptBy_8 ?_
    refine Z_goto hC dL_keptBy_9 (tgt := 15) (by decide) ?_
    refine Z_iconst hC dL_keptBy_15 (v := 0) (by decide) ?_
    exact Z_iret hC (by decide) (by decide) dL_keptBy_16 (HQ.okJ h0 h2 h3 hO9 ⟨i, hi, by rw [mJ_pJ]⟩)
  · obtain ⟨hR, hc1, hf⟩ := hq
    match i9, hi with
    | 0, hi =>
      cases hi
      refine Z_astoreR_n hC dL_keptBy_12 rfl (by decide) (ls1 := [some (rv x), some (.int v), some (rv o), some (.ref a9)]) rfl ?_
      refine Z_iconst hC dL_keptBy_13 (v := 1) (by decide) ?_
      exact Z_iret hC (by decide) (by decide) dL_keptBy_14 (HQ.no hR hc1 hf hO (by decide))
    | z + 1, hi => simp at hi
theorem hl_addLien {G : Gt} {l : Launch} (hst : l.stackTraces = false) {M : Mm} {x o od : Nat} {S : St} {t : Nat} (hM : CAt M x S) (hI : Inv S t) (hO : Ot M o od) (hlt : t < 512) (v c a : Int32) (hc : 0 ≤ c.toInt ∧ c.toInt < 65536) : Ch G l yL_addLien cL_addLien 6 hh_addLien 8 M [rv x, .int v, .int c, .int a, rv o] 40 9000 (HQ M x o od (oAddLien S v c a) (fun M9 => ∃ i, (oAddLien S v c a).2.1 = .int i ∧ mJ M9 o 0 = i.toInt64)) := by
  have hv := vi_oAddLien S v c a
  have hc := ct_X4_addLien hst (G := G) (l := l) hM hI hlt v c a hc
  refine Ch_intro (by decide +kernel) rfl hst (fun w hw => by simp only [List.mem_cons, List.not_mem_nil, or_false] at hw; rcases hw with rfl | rfl | rfl | rfl | rfl <;> first | rfl | exact rv_cat _) (Nat.le_of_ble_eq_true rfl) (fun γ hC hH => ?_)
  show JE G γ ET M 0 [some (rv x), some (.int v), some (.int c), some (.int a), some (rv o)] [] 0 0
  refine Z_aload hC dL_addLien_0 rfl ?_
  refine Z_iconst hC dL_addLien_2 (v := 0) (by decide) ?_
  refine Z_aload_n hC dL_addLien_3 rfl rfl ?_
  refine Z_iload_n hC dL_addLien_4 rfl rfl ?_
  refine Z_iload_n hC dL_addLien_5 rfl rfl ?_
  refine Z_iload_n hC dL_addLien_6 rfl rfl ?_
  refine Z_callVH (k1 := 40) (n1 := 9000) (kd := 5) (es := [eIO, eIA, eIS]) (Qi := fun i M1 => (oAddLien S v c a) = no (i + 1) S ∧ CAt M1 x S ∧ Fr pC M M1) [.int v, .int c, .int a] [.int a, .int c, .int v, rv x, .int 0, rv o] hC hH lv_L_88 hc hM.tx (by decide) ⟨_, mE_5 hM.tx⟩ rfl rfl rfl (by simp only [List.map_cons, List.map_nil, rv_cat, List.sum_cons, List.sum_nil]; (try simp only [Value.category]); (try omega)) (by decide) rfl rfl (by decide) (by decide) dL_addLien_7 hk_addLien (fun E M1 h => h) (fun v9 M9 hq9 => ?_) (fun i9 M9 q9 a9 hq hi => ?_)
  · obtain ⟨h0, h1, h2, h3⟩ := hq9
    obtain ⟨i, hi⟩ := hv
    rw [h1, hi]
    have hO9 := hO.fr h3 (by decide) (by decide)
    have tO := congrArg Prod.fst hO9.1
    refine Z_i2l hC dL_addLien_10 ?_
    refine Z_last hC tO (j := 0) (by decide) (by rw [hO9.2.1]; decide) dL_addLien_11 ?_
    refine Z_goto hC dL_addLien_12 (tgt := 27) (by decide) ?_
    refine Z_iconst hC dL_addLien_27 (v := 0) (by decide) ?_
    exact Z_iret hC (by decide) (by decide) dL_addLien_28 (HQ.okJ h0 h2 h3 hO9 ⟨i, hi, by rw [mJ_pJ]⟩)
  · obtain ⟨hR, hc1, hf⟩ := hq
    match i9, hi with
    | 0, hi =>
      cases hi
      refine Z_astoreR hC dL_addLien_15 (by decide) (ls1 := [some (rv x), some (.int v), some (.int c), some (.int a), some (rv o), some (.ref a9)]) rfl ?_
      refine Z_iconst hC dL_addLien_17 (v := 1) (by decide) ?_
      exact Z_iret hC (by decide) (by decide) dL_addLien_18 (HQ.no hR hc1 hf hO (by decide))
    | 1, hi =>
      cases hi
      refine Z_astoreR hC dL_addLien_19 (by decide) (ls1 := [some (rv x), some (.int v), some (.int c), some (.int a), some (rv o), some (.ref a9)]) rfl ?_
      refine Z_iconst hC dL_addLien_21 (v := 2) (by decide) ?_
      exact Z_iret hC (by decide) (by decide) dL_addLien_22 (HQ.no hR hc1 hf hO (by decide))
    | 2, hi =>
      cases hi
      refine Z_astoreR hC dL_addLien_23 (by decide) (ls1 := [some (rv x), some (.int v), some (.int c), some (.int a), some (rv o), some (.ref a9)]) rfl ?_
      refine Z_iconst hC dL_addLien_25 (v := 3) (by decide) ?_
      exact Z_iret hC (by decide) (by decide) dL_addLien_26 (HQ.no hR hc1 hf hO (by decide))
    | z + 3, hi => simp at hi
theorem hl_payLien {G : Gt} {l : Launch} (hst : l.stackTraces = false) {M : Mm} {x o od : Nat} {S : St} {t : Nat} (hM : CAt M x S) (hI : Inv S t) (hO : Ot M o od) (hlt : t < 512) (v c a : Int32) (hc : 0 ≤ c.toInt ∧ c.toInt < 65536) : Ch G l yL_payLien cL_payLien 6 hh_payLien 10 M [rv x, .int v, .int c, .int a, rv o] 300 12000 (HQ M x o od (oPayLien S v c a) (fun M9 => ∃ i, (oPayLien S v c a).2.1 = .int i ∧ mJ M9 o 0 = i.toInt64)) := by
  have hv := vi_oPayLien S v c a
  have hc := ct_X4_payLien hst (G := G) (l := l) hM hI hlt v c a hc
  refine Ch_intro (by decide +kernel) rfl hst (fun w hw => by simp only [List.mem_cons, List.not_mem_nil, or_false] at hw; rcases hw with rfl | rfl | rfl | rfl | rfl <;> first | rfl | exact rv_cat _) (Nat.le_of_ble_eq_true rfl) (fun γ hC hH => ?_)
  show JE G γ ET M 0 [some (rv x), some (.int v), some (.int c), some (.int a), some (rv o)] [] 0 0
  refine Z_aload hC dL_payLien_0 rfl ?_
  refine Z_iconst hC dL_payLien_2 (v := 0) (by decide) ?_
  refine Z_aload_n hC dL_payLien_3 rfl rfl ?_
  refine Z_iload_n hC dL_payLien_4 rfl rfl ?_
  refine Z_iload_n hC dL_payLien_5 rfl rfl ?_
  refine Z_iload_n hC dL_payLien_6 rfl rfl ?_
  refine Z_callVH (k1 := 300) (n1 := 12000) (kd := 5) (es := [eIO, eNS, eIA]) (Qi := fun i M1 => (oPayLien S v c a) = no (i + 1) S ∧ CAt M1 x S ∧ Fr pC M M1) [.int v, .int c, .int a] [.int a, .int c, .int v, rv x, .int 0, rv o] hC hH lv_L_92 hc hM.tx (by decide) ⟨_, mE_5 hM.tx⟩ rfl rfl rfl (by simp only [List.map_cons, List.map_nil, rv_cat, List.sum_cons, List.sum_nil]; (try simp only [Value.category]); (try omega)) (by decide) rfl rfl (by decide) (by decide) dL_payLien_7 hk_payLien (fun E M1 h => h) (fun v9 M9 hq9 => ?_) (fun i9 M9 q9 a9 hq hi => ?_)
  · obtain ⟨h0, h1, h2, h3⟩ := hq9
    obtain ⟨i, hi⟩ := hv
    rw [h1, hi]
    have hO9 := hO.fr h3 (by decide) (by decide)
    have tO := congrArg Prod.fst hO9.1
    refine Z_i2l hC dL_payLien_10 ?_
    refine Z_last hC tO (j := 0) (by decide) (by rw [hO9.2.1]; decide) dL_payLien_11 ?_
    refine Z_goto hC dL_payLien_12 (tgt := 27) (by decide) ?_
    refine Z_iconst hC dL_payLien_27 (v := 0) (by decide) ?_
    exact Z_iret hC (by decide) (by decide) dL_payLien_28 (HQ.okJ h0 h2 h3 hO9 ⟨i, hi, by rw [mJ_pJ]⟩)
  · obtain ⟨hR, hc1, hf⟩ := hq
    match i9, hi with
    | 0, hi =>
      cases hi
      refine Z_astoreR hC dL_payLien_15 (by decide) (ls1 := [some (rv x), some (.int v), some (.int c), some (.int a), some (rv o), some (.ref a9)]) rfl ?_
      refine Z_iconst hC dL_payLien_17 (v := 1) (by decide) ?_
      exact Z_iret hC (by decide) (by decide) dL_payLien_18 (HQ.no hR hc1 hf hO (by decide))
    | 1, hi =>
      cases hi
      refine Z_astoreR hC dL_payLien_19 (by decide) (ls1 := [some (rv x), some (.int v), some (.int c), some (.int a), some (rv o), some (.ref a9)]) rfl ?_
      refine Z_iconst hC dL_payLien_21 (v := 2) (by decide) ?_
      exact Z_iret hC (by decide) (by decide) dL_payLien_22 (HQ.no hR hc1 hf hO (by decide))
    | 2, hi =>
      cases hi
      refine Z_astoreR hC dL_payLien_23 (by decide) (ls1 := [some (rv x), some (.int v), some (.int c), some (.int a), some (rv o), some (.ref a9)]) rfl ?_
      refine Z_iconst hC dL_payLien_25 (v := 3) (by decide) ?_
      exact Z_iret hC (by decide) (by decide) dL_payLien_26 (HQ.no hR hc1 hf hO (by decide))
    | z + 3, hi => simp at hi
theorem hl_lienOf {G : Gt} {l : Launch} (hst : l.stackTraces = false) {M : Mm} {x o od : Nat} {S : St} {t : Nat} (hM : CAt M x S) (hI : Inv S t) (hO : Ot M o od) (v c : Int32) (hc : 0 ≤ c.toInt ∧ c.toInt < 65536) : Ch G l yL_lienOf cL_lienOf 5 hh_lienOf 8 M [rv x, .int v, .int c, rv o] 8 48 (HQ M x o od (oLienOf S v c) (fun M9 => ∃ i, (oLienOf S v c).2.1 = .int i ∧ mJ M9 o 0 = i.toInt64)) := by
  have hv := vi_oLienOf S v c
  have hc := ct_X4_lienOf hst (G := G) (l := l) hM hI v c hc
  refine Ch_intro (by decide +kernel) rfl hst (fun w hw => by simp only [List.mem_cons, List.not_mem_nil, or_false] at hw; rcases hw with rfl | rfl | rfl | rfl <;> first | rfl | exact rv_cat _) (Nat.le_of_ble_eq_true rfl) (fun γ hC hH => ?_)
  show JE G γ ET M 0 [some (rv x), some (.int v), some (.int c), some (rv o)] [] 0 0
  refine Z_aload_n hC dL_lienOf_0 rfl rfl ?_
  refine Z_iconst hC dL_lienOf_1 (v := 0) (by decide) ?_
  refine Z_aload_n hC dL_lienOf_2 rfl rfl ?_
  refine Z_iload_n hC dL_lienOf_3 rfl rfl ?_
  refine Z_iload_n hC dL_lienOf_4 rfl rfl ?_
  refine Z_callVH (k1 := 8) (n1 := 48) (kd := 5) (es := [eIO, eNS]) (Qi := fun i M1 => (oLienOf S v c) = no (i + 1) S ∧ CAt M1 x S ∧ Fr pC M M1) [.int v, .int c] [.int c, .int v, rv x, .int 0, rv o] hC hH lv_L_95 hc hM.tx (by decide) ⟨_, mE_5 hM.tx⟩ rfl rfl rfl (by simp only [List.map_cons, List.map_nil, rv_cat, List.sum_cons, List.sum_nil]; (try simp only [Value.category]); (try omega)) (by decide) rfl rfl (by decide) (by decide) dL_lienOf_5 hk_lienOf (fun E M1 h => h) (fun v9 M9 hq9 => ?_) (fun i9 M9 q9 a9 hq hi => ?_)
  · obtain ⟨h0, h1, h2, h3⟩ := hq9
    obtain ⟨i, hi⟩ := hv
    rw [h1, hi]
    have hO9 := hO.fr h3 (by decide) (by decide)
    have tO := congrArg Prod.fst hO9.1
    refine Z_i2l hC dL_lienOf_8 ?_
    refine Z_last hC tO (j := 0) (by decide) (by rw [hO9.2.1]; decide) dL_lienOf_9 ?_
    refine Z_goto hC dL_lienOf_10 (tgt := 21) (by decide) ?_
    refine Z_iconst hC dL_lienOf_21 (v := 0) (by decide) ?_
    exact Z_iret hC (by decide) (by decide) dL_lienOf_22 (HQ.okJ h0 h2 h3 hO9 ⟨i, hi, by rw [mJ_pJ]⟩)
  · obtain ⟨hR, hc1, hf⟩ := hq
    match i9, hi with
    | 0, hi =>
      cases hi
      refine Z_astoreR hC dL_lienOf_13 (by decide) (ls1 := [some (rv x), some (.int v), some (.int c), some (rv o), some (.ref a9)]) rfl ?_
      refine Z_iconst hC dL_lienOf_15 (v := 1) (by decide) ?_
      exact Z_iret hC (by decide) (by decide) dL_lienOf_16 (HQ.no hR hc1 hf hO (by decide))
    | 1, hi =>
      cases hi
      refine Z_astoreR hC dL_lienOf_17 (by decide) (ls1 := [some (rv x), some (.int v), some (.int c), some (rv o), some (.ref a9)]) rfl ?_
      refine Z_iconst hC dL_lienOf_19 (v := 2) (by decide) ?_
      exact Z_iret hC (by decide) (by decide) dL_lienOf_20 (HQ.no hR hc1 hf hO (by decide))
    | z + 2, hi => simp at hi
theorem hl_isBlocked {G : Gt} {l : Launch} (hst : l.stackTraces = false) {M : Mm} {x o od : Nat} {S : St} {t : Nat} (hM : CAt M x S) (hI : Inv S t) (hO : Ot M o od) (v : Int32)  : Ch G l yL_isBlocked cL_isBlocked 4 hh_isBlocked 8 M [rv x, .int v, rv o] 8 48 (HQ M x o od (oIsBlocked S v) (fun M9 => ∃ i, (oIsBlocked S v).2.1 = .int i ∧ mJ M9 o 0 = zl i)) := by
  have hv := vi_oIsBlocked S v
  have hc := ct_X4_isBlocked hst (G := G) (l := l) hM hI v
  refine Ch_intro (by decide +kernel) rfl hst (fun w hw => by simp only [List.mem_cons, List.not_mem_nil, or_false] at hw; rcases hw with rfl | rfl | rfl <;> first | rfl | exact rv_cat _) (Nat.le_of_ble_eq_true rfl) (fun γ hC hH => ?_)
  show JE G γ ET M 0 [some (rv x), some (.int v), some (rv o)] [] 0 0
  refine Z_aload_n hC dL_isBlocked_0 rfl rfl ?_
  refine Z_iconst hC dL_isBlocked_1 (v := 0) (by decide) ?_
  refine Z_aload_n hC dL_isBlocked_2 rfl rfl ?_
  refine Z_iload_n hC dL_isBlocked_3 rfl rfl ?_
  refine Z_callVH (k1 := 8) (n1 := 48) (kd := 5) (es := [eIO]) (Qi := fun i M1 => (oIsBlocked S v) = no (i + 1) S ∧ CAt M1 x S ∧ Fr pC M M1) [.int v] [.int v, rv x, .int 0, rv o] hC hH lv_L_98 hc hM.tx (by decide) ⟨_, mE_5 hM.tx⟩ rfl rfl rfl (by simp only [List.map_cons, List.map_nil, rv_cat, List.sum_cons, List.sum_nil]; (try simp only [Value.category]); (try omega)) (by decide) rfl rfl (by decide) (by decide) dL_isBlocked_4 hk_isBlocked (fun E M1 h => h) (fun v9 M9 hq9 => ?_) (fun i9 M9 q9 a9 hq hi => ?_)
  · obtain ⟨h0, h1, h2, h3⟩ := hq9
    obtain ⟨i, hi⟩ := hv
    rw [h1, hi]
    have hO9 := hO.fr h3 (by decide) (by decide)
    have tO := congrArg Prod.fst hO9.1
    refine Z_if_eq hC dL_isBlocked_7 (tgt := 14) (by decide) (fun c => ?_) (fun c => ?_)
    · refine Z_lconst hC dL_isBlocked_14 (v := 0) (by decide) ?_
      refine Z_last hC tO (j := 0) (by decide) (by rw [hO9.2.1]; decide) dL_isBlocked_15 ?_
      refine Z_goto hC dL_isBlocked_16 (tgt := 22) (by decide) ?_
      refine Z_iconst hC dL_isBlocked_22 (v := 0) (by decide) ?_
      exact Z_iret hC (by decide) (by decide) dL_isBlocked_23 (HQ.okJ h0 h2 h3 hO9 ⟨i, hi, by rw [mJ_pJ]; unfold zl; rw [if_pos c]⟩)
    · refine Z_lconst hC dL_isBlocked_10 (v := 1) (by decide) ?_
      refine Z_goto hC dL_isBlocked_11 (tgt := 15) (by decide) ?_
      refine Z_last hC tO (j := 0) (by decide) (by rw [hO9.2.1]; decide) dL_isBlocked_15 ?_
      refine Z_goto hC dL_isBlocked_16 (tgt := 22) (by decide) ?_
      refine Z_iconst hC dL_isBlocked_22 (v := 0) (by decide) ?_
      exact Z_iret hC (by decide) (by decide) dL_isBlocked_23 (HQ.okJ h0 h2 h3 hO9 ⟨i, hi, by rw [mJ_pJ]; unfold zl; rw [if_neg c]⟩)
  · obtain ⟨hR, hc1, hf⟩ := hq
    match i9, hi with
    | 0, hi =>
      cases hi
      refine Z_astoreR_n hC dL_isBlocked_19 rfl (by decide) (ls1 := [some (rv x), some (.int v), some (rv o), some (.ref a9)]) rfl ?_
      refine Z_iconst hC dL_isBlocked_20 (v := 1) (by decide) ?_
      exact Z_iret hC (by decide) (by decide) dL_isBlocked_21 (HQ.no hR hc1 hf hO (by decide))
    | z + 1, hi => simp at hi
theorem hl_keepPlate {G : Gt} {l : Launch} (hst : l.stackTraces = false) {M : Mm} {x o od : Nat} {S : St} {t : Nat} (hM : CAt M x S) (hI : Inv S t) (hO : Ot M o od) (hlt : t < 512) (v : Int32)  : Ch G l yL_keepPlate cL_keepPlate 4 hh_keepPlate 9 M [rv x, .int v, rv o] 40 9000 (HQ M x o od (oKeepPlate S v) (fun M9 => ∃ i, (oKeepPlate S v).2.1 = .int i ∧ mJ M9 o 0 = i.toInt64)) := by
  have hv := vi_oKeepPlate S v
  have hc := ct_X4_keepPlate hst (G := G) (l := l) hM hI hlt v
  refine Ch_intro (by decide +kernel) rfl hst (fun w hw => by simp only [List.mem_cons, List.not_mem_nil, or_false] at hw; rcases hw with rfl | rfl | rfl <;> first | rfl | exact rv_cat _) (Nat.le_of_ble_eq_true rfl) (fun γ hC hH => ?_)
  show JE G γ ET M 0 [some (rv x), some (.int v), some (rv o)] [] 0 0
  refine Z_aload_n hC dL_keepPlate_0 rfl rfl ?_
  refine Z_iconst hC dL_keepPlate_1 (v := 0) (by decide) ?_
  refine Z_aload_n hC dL_keepPlate_2 rfl rfl ?_
  refine Z_iload_n hC dL_keepPlate_3 rfl rfl ?_
  refine Z_callVH (k1 := 40) (n1 := 9000) (kd := 5) (es := [eIO, eNS, eIS]) (Qi := fun i M1 => (oKeepPlate S v) = no (i + 1) S ∧ CAt M1 x S ∧ Fr pC M M1) [.int v] [.int v, rv x, .int 0, rv o] hC hH lv_L_102 hc hM.tx (by decide) ⟨_, mE_5 hM.tx⟩ rfl rfl rfl (by simp only [List.map_cons, List.map_nil, rv_cat, List.sum_cons, List.sum_nil]; (try simp only [Value.category]); (try omega)) (by decide) rfl rfl (by decide) (by decide) dL_keepPlate_4 hk_keepPlate (fun E M1 h => h) (fun v9 M9 hq9 => ?_) (fun i9 M9 q9 a9 hq hi => ?_)
  · obtain ⟨h0, h1, h2, h3⟩ := hq9
    obtain ⟨i, hi⟩ := hv
    rw [h1, hi]
    have hO9 := hO.fr h3 (by decide) (by decide)
    have tO := congrArg Prod.fst hO9.1
    refine Z_i2l hC dL_keepPlate_7 ?_
    refine Z_last hC tO (j := 0) (by decide) (by rw [hO9.2.1]; decide) dL_keepPlate_8 ?_
    refine Z_goto hC dL_keepPlate_9 (tgt := 21) (by decide) ?_
    refine Z_iconst hC dL_keepPlate_21 (v := 0) (by decide) ?_
    exact Z_iret hC (by decide) (by decide) dL_keepPlate_22 (HQ.okJ h0 h2 h3 hO9 ⟨i, hi, by rw [mJ_pJ]⟩)
  · obtain ⟨hR, hc1, hf⟩ := hq
    match i9, hi with
    | 0, hi =>
      cases hi
      refine Z_astoreR_n hC dL_keepPlate_12 rfl (by decide) (ls1 := [some (rv x), some (.int v), some (rv o), some (.ref a9)]) rfl ?_
      refine Z_iconst hC dL_keepPlate_13 (v := 1) (by decide) ?_
      exact Z_iret hC (by decide) (by decide) dL_keepPlate_14 (HQ.no hR hc1 hf hO (by decide))
    | 1, hi =>
      cases hi
      refine Z_astoreR_n hC dL_keepPlate_15 rfl (by decide) (ls1 := [some (rv x), some (.int v), some (rv o), some (.ref a9)]) rfl ?_
      refine Z_iconst hC dL_keepPlate_16 (v := 2) (by decide) ?_
      exact Z_iret hC (by decide) (by decide) dL_keepPlate_17 (HQ.no hR hc1 hf hO (by decide))
    | 2, hi =>
      cases hi
      refine Z_astoreR_n hC dL_keepPlate_18 rfl (by decide) (ls1 := [some (rv x), some (.int v), some (rv o), some (.ref a9)]) rfl ?_
      refine Z_iconst hC dL_keepPlate_19 (v := 3) (by decide) ?_
      exact Z_iret hC (by decide) (by decide) dL_keepPlate_20 (HQ.no hR hc1 hf hO (by decide))
    | z + 3, hi => simp at hi
theorem hl_putOn {G : Gt} {l : Launch} (hst : l.stackTraces = false) {M : Mm} {x o od : Nat} {S : St} {t : Nat} (hM : CAt M x S) (hI : Inv S t) (hO : Ot M o od) (hlt : t < 512) (v w : Int32)  : Ch G l yL_putOn cL_putOn 5 hh_putOn 9 M [rv x, .int v, .int w, rv o] 40 9000 (HQ M x o od (oPutOn S v w) (fun M9 => ∃ i, (oPutOn S v w).2.1 = .int i ∧ mJ M9 o 0 = i.toInt64)) := by
  have hv := vi_oPutOn S v w
  have hc := ct_X4_putOn hst (G := G) (l := l) hM hI hlt v w
  refine Ch_intro (by decide +kernel) rfl hst (fun w hw => by simp only [List.mem_cons, List.not_mem_nil, or_false] at hw; rcases hw with rfl | rfl | rfl | rfl <;> first | rfl | exact rv_cat _) (Nat.le_of_ble_eq_true rfl) (fun γ hC hH => ?_)
  show JE G γ ET M 0 [some (rv x), some (.int v), some (.int w), some (rv o)] [] 0 0
  refine Z_aload_n hC dL_putOn_0 rfl rfl ?_
  refine Z_iconst hC dL_putOn_1 (v := 0) (by decide) ?_
  refine Z_aload_n hC dL_putOn_2 rfl rfl ?_
  refine Z_iload_n hC dL_putOn_3 rfl rfl ?_
  refine Z_iload_n hC dL_putOn_4 rfl rfl ?_
  refine Z_callVH (k1 := 40) (n1 := 9000) (kd := 5) (es := [eNS, eIO, eUO, eIS]) (Qi := fun i M1 => (oPutOn S v w) = no (i + 1) S ∧ CAt M1 x S ∧ Fr pC M M1) [.int v, .int w] [.int w, .int v, rv x, .int 0, rv o] hC hH lv_L_105 hc hM.tx (by decide) ⟨_, mE_5 hM.tx⟩ rfl rfl rfl (by simp only [List.map_cons, List.map_nil, rv_cat, List.sum_cons, List.sum_nil]; (try simp only [Value.category]); (try omega)) (by decide) rfl rfl (by decide) (by decide) dL_putOn_5 hk_putOn (fun E M1 h => h) (fun v9 M9 hq9 => ?_) (fun i9 M9 q9 a9 hq hi => ?_)
  · obtain ⟨h0, h1, h2, h3⟩ := hq9
    obtain ⟨i, hi⟩ := hv
    rw [h1, hi]
    have hO9 := hO.fr h3 (by decide) (by decide)
    have tO := congrArg Prod.fst hO9.1
    refine Z_i2l hC dL_putOn_8 ?_
    refine Z_last hC tO (j := 0) (by decide) (by rw [hO9.2.1]; decide) dL_putOn_9 ?_
    refine Z_goto hC dL_putOn_10 (tgt := 29) (by decide) ?_
    refine Z_iconst hC dL_putOn_29 (v := 0) (by decide) ?_
    exact Z_iret hC (by decide) (by decide) dL_putOn_30 (HQ.okJ h0 h2 h3 hO9 ⟨i, hi, by rw [mJ_pJ]⟩)
  · obtain ⟨hR, hc1, hf⟩ := hq
    match i9, hi with
    | 0, hi =>
      cases hi
      refine Z_astoreR hC dL_putOn_13 (by decide) (ls1 := [some (rv x), some (.int v), some (.int w), some (rv o), some (.ref a9)]) rfl ?_
      refine Z_iconst hC dL_putOn_15 (v := 1) (by decide) ?_
      exact Z_iret hC (by decide) (by decide) dL_putOn_16 (HQ.no hR hc1 hf hO (by decide))
    | 1, hi =>
      cases hi
      refine Z_astoreR hC dL_putOn_17 (by decide) (ls1 := [some (rv x), some (.int v), some (.int w), some (rv o), some (.ref a9)]) rfl ?_
      refine Z_iconst hC dL_putOn_19 (v := 2) (by decide) ?_
      exact Z_iret hC (by decide) (by decide) dL_putOn_20 (HQ.no hR hc1 hf hO (by decide))
    | 2, hi =>
      cases hi
      refine Z_astoreR hC dL_putOn_21 (by decide) (ls1 := [some (rv x), some (.int v), some (.int w), some (rv o), some (.ref a9)]) rfl ?_
      refine Z_iconst hC dL_putOn_23 (v := 3) (by decide) ?_
      exact Z_iret hC (by decide) (by decide) dL_putOn_24 (HQ.no hR hc1 hf hO (by decide))
    | 3, hi =>
      cases hi
      refine Z_astoreR hC dL_putOn_25 (by decide) (ls1 := [some (rv x), some (.int v), some (.int w), some (rv o), some (.ref a9)]) rfl ?_
      refine Z_iconst hC dL_putOn_27 (v := 4) (by decide) ?_
      exact Z_iret hC (by decide) (by decide) dL_putOn_28 (HQ.no hR hc1 hf hO (by decide))
    | z + 4, hi => simp at hi
theorem hl_swapPlates {G : Gt} {l : Launch} (hst : l.stackTraces = false) {M : Mm} {x o od : Nat} {S : St} {t : Nat} (hM : CAt M x S) (hI : Inv S t) (hO : Ot M o od) (hlt : t < 512) (v w : Int32)  : Ch G l yL_swapPlates cL_swapPlates 5 hh_swapPlates 9 M [rv x, .int v, .int w, rv o] 40 9000 (HQ M x o od (oSwap S v w) (fun M9 => ∃ i, (oSwap S v w).2.1 = .int i ∧ mJ M9 o 0 = i.toInt64)) := by
  have hv := vi_oSwap S v w
  have hc := ct_X4_swapPlates hst (G := G) (l := l) hM hI hlt v w
  refine Ch_intro (by decide +kernel) rfl hst (fun w hw => by simp only [List.mem_cons, List.not_mem_nil, or_false] at hw; rcases hw with rfl | rfl | rfl | rfl <;> first | rfl | exact rv_cat _) (Nat.le_of_ble_eq_true rfl) (fun γ hC hH => ?_)
  show JE G γ ET M 0 [some (rv x), some (.int v), some (.int w), some (rv o)] [] 0 0
  refine Z_aload_n hC dL_swapPlates_0 rfl rfl ?_
  refine Z_iconst hC dL_swapPlates_1 (v := 0) (by decide) ?_
  refine Z_aload_n hC dL_swapPlates_2 rfl rfl ?_
  refine Z_iload_n hC dL_swapPlates_3 rfl rfl ?_
  refine Z_iload_n hC dL_swapPlates_4 rfl rfl ?_
  refine Z_callVH (k1 := 40) (n1 := 9000) (kd := 5) (es := [eIO, eUO, eIS]) (Qi := fun i M1 => (oSwap S v w) = no (i + 1) S ∧ CAt M1 x S ∧ Fr pC M M1) [.int v, .int w] [.int w, .int v, rv x, .int 0, rv o] hC hH lv_L_108 hc hM.tx (by decide) ⟨_, mE_5 hM.tx⟩ rfl rfl rfl (by simp only [List.map_cons, List.map_nil, rv_cat, List.sum_cons, List.sum_nil]; (try simp only [Value.category]); (try omega)) (by decide) rfl rfl (by decide) (by decide) dL_swapPlates_5 hk_swapPlates (fun E M1 h => h) (fun v9 M9 hq9 => ?_) (fun i9 M9 q9 a9 hq hi => ?_)
  · obtain ⟨h0, h1, h2, h3⟩ := hq9
    obtain ⟨i, hi⟩ := hv
    rw [h1, hi]
    have hO9 := hO.fr h3 (by decide) (by decide)
    have tO := congrArg Prod.fst hO9.1
    refine Z_i2l hC dL_swapPlates_8 ?_
    refine Z_last hC tO (j := 0) (by decide) (by rw [hO9.2.1]; decide) dL_swapPlates_9 ?_
    refine Z_goto hC dL_swapPlates_10 (tgt := 25) (by decide) ?_
    refine Z_iconst hC dL_swapPlates_25 (v := 0) (by decide) ?_
    exact Z_iret hC (by decide) (by decide) dL_swapPlates_26 (HQ.okJ h0 h2 h3 hO9 ⟨i, hi, by rw [mJ_pJ]⟩)
  · obtain ⟨hR, hc1, hf⟩ := hq
    match i9, hi with
    | 0, hi =>
      cases hi
      refine Z_astoreR hC dL_swapPlates_13 (by decide) (ls1 := [some (rv x), some (.int v), some (.int w), some (rv o), some (.ref a9)]) rfl ?_
      refine Z_iconst hC dL_swapPlates_15 (v := 1) (by decide) ?_
      exact Z_iret hC (by decide) (by decide) dL_swapPlates_16 (HQ.no hR hc1 hf hO (by decide))
    | 1, hi =>
      cases hi
      refine Z_astoreR hC dL_swapPlates_17 (by decide) (ls1 := [some (rv x), some (.int v), some (.int w), some (rv o), some (.ref a9)]) rfl ?_
      refine Z_iconst hC dL_swapPlates_19 (v := 2) (by decide) ?_
      exact Z_iret hC (by decide) (by decide) dL_swapPlates_20 (HQ.no hR hc1 hf hO (by decide))
    | 2, hi =>
      cases hi
      refine Z_astoreR hC dL_swapPlates_21 (by decide) (ls1 := [some (rv x), some (.int v), some (.int w), some (rv o), some (.ref a9)]) rfl ?_
      refine Z_iconst hC dL_swapPlates_23 (v := 3) (by decide) ?_
      exact Z_iret hC (by decide) (by decide) dL_swapPlates_24 (HQ.no hR hc1 hf hO (by decide))
    | z + 3, hi => simp at hi
theorem hl_plateState {G : Gt} {l : Launch} (hst : l.stackTraces = false) {M : Mm} {x o od : Nat} {S : St} {t : Nat} (hM : CAt M x S) (hI : Inv S t) (hO : Ot M o od) (v : Int32)  : Ch G l yL_plateState cL_plateState 4 hh_plateState 8 M [rv x, .int v, rv o] 8 48 (HQ M x o od (oPlateState S v) (fun M9 => ∃ i, (oPlateState S v).2.1 = .int i ∧ mJ M9 o 0 = i.toInt64)) := by
  have hv := vi_oPlateState S v
  have hc := ct_X4_plateState hst (G := G) (l := l) hM hI v
  refine Ch_intro (by decide +kernel) rfl hst (fun w hw => by simp only [List.mem_cons, List.not_mem_nil, or_false] at hw; rcases hw with rfl | rfl | rfl <;> first | rfl | exact rv_cat _) (Nat.le_of_ble_eq_true rfl) (fun γ hC hH => ?_)
  show JE G γ ET M 0 [some (rv x), some (.int v), some (rv o)] [] 0 0
  refine Z_aload_n hC dL_plateState_0 rfl rfl ?_
  refine Z_iconst hC dL_plateState_1 (v := 0) (by decide) ?_
  refine Z_aload_n hC dL_plateState_2 rfl rfl ?_
  refine Z_iload_n hC dL_plateState_3 rfl rfl ?_
  refine Z_callVH (k1 := 8) (n1 := 48) (kd := 5) (es := [eNS]) (Qi := fun i M1 => (oPlateState S v) = no (i + 1) S ∧ CAt M1 x S ∧ Fr pC M M1) [.int v] [.int v, rv x, .int 0, rv o] hC hH lv_L_111 hc hM.tx (by decide) ⟨_, mE_5 hM.tx⟩ rfl rfl rfl (by simp only [List.map_cons, List.map_nil, rv_cat, List.sum_cons, List.sum_nil]; (try simp only [Value.category]); (try omega)) (by decide) rfl rfl (by decide) (by decide) dL_plateState_4 hk_plateState (fun E M1 h => h) (fun v9 M9 hq9 => ?_) (fun i9 M9 q9 a9 hq hi => ?_)
  · obtain ⟨h0, h1, h2, h3⟩ := hq9
    obtain ⟨i, hi⟩ := hv
    rw [h1, hi]
    have hO9 := hO.fr h3 (by decide) (by decide)
    have tO := congrArg Prod.fst hO9.1
    refine Z_i2l hC dL_plateState_7 ?_
    refine Z_last hC tO (j := 0) (by decide) (by rw [hO9.2.1]; decide) dL_plateState_8 ?_
    refine Z_goto hC dL_plateState_9 (tgt := 15) (by decide) ?_
    refine Z_iconst hC dL_plateState_15 (v := 0) (by decide) ?_
    exact Z_iret hC (by decide) (by decide) dL_plateState_16 (HQ.okJ h0 h2 h3 hO9 ⟨i, hi, by rw [mJ_pJ]⟩)
  · obtain ⟨hR, hc1, hf⟩ := hq
    match i9, hi with
    | 0, hi =>
      cases hi
      refine Z_astoreR_n hC dL_plateState_12 rfl (by decide) (ls1 := [some (rv x), some (.int v), some (rv o), some (.ref a9)]) rfl ?_
      refine Z_iconst hC dL_plateState_13 (v := 1) (by decide) ?_
      exact Z_iret hC (by decide) (by decide) dL_plateState_14 (HQ.no hR hc1 hf hO (by decide))
    | z + 1, hi => simp at hi
theorem hl_daysKept {G : Gt} {l : Launch} (hst : l.stackTraces = false) {M : Mm} {x o od : Nat} {S : St} {t : Nat} (hM : CAt M x S) (hI : Inv S t) (hO : Ot M o od) (v : Int32)  : Ch G l yL_daysKept cL_daysKept 4 hh_daysKept 8 M [rv x, .int v, rv o] 8 48 (HQ M x o od (oDaysKept S v) (fun M9 => ∃ i, (oDaysKept S v).2.1 = .int i ∧ mJ M9 o 0 = i.toInt64)) := by
  have hv := vi_oDaysKept S v
  have hc := ct_X4_daysKept hst (G := G) (l := l) hM hI v
  refine Ch_intro (by decide +kernel) rfl hst (fun w hw => by simp only [List.mem_cons, List.not_mem_nil, or_false] at hw; rcases hw with rfl | rfl | rfl <;> first | rfl | exact rv_cat _) (Nat.le_of_ble_eq_true rfl) (fun γ hC hH => ?_)
  show JE G γ ET M 0 [some (rv x), some (.int v), some (rv o)] [] 0 0
  refine Z_aload_n hC dL_daysKept_0 rfl rfl ?_
  refine Z_iconst hC dL_daysKept_1 (v := 0) (by decide) ?_
  refine Z_aload_n hC dL_daysKept_2 rfl rfl ?_
  refine Z_iload_n hC dL_daysKept_3 rfl rfl ?_
  refine Z_callVH (k1 := 8) (n1 := 48) (kd := 5) (es := [eNS, eIS]) (Qi := fun i M1 => (oDaysKept S v) = no (i + 1) S ∧ CAt M1 x S ∧ Fr pC M M1) [.int v] [.int v, rv x, .int 0, rv o] hC hH lv_L_114 hc hM.tx (by decide) ⟨_, mE_5 hM.tx⟩ rfl rfl rfl (by simp only [List.map_cons, List.map_nil, rv_cat, List.sum_cons, List.sum_nil]; (try simp only [Value.category]); (try omega)) (by decide) rfl rfl (by decide) (by decide) dL_daysKept_4 hk_daysKept (fun E M1 h => h) (fun v9 M9 hq9 => ?_) (fun i9 M9 q9 a9 hq hi => ?_)
  · obtain ⟨h0, h1, h2, h3⟩ := hq9
    obtain ⟨i, hi⟩ := hv
    rw [h1, hi]
    have hO9 := hO.fr h3 (by decide) (by decide)
    have tO := congrArg Prod.fst hO9.1
    refine Z_i2l hC dL_daysKept_7 ?_
    refine Z_last hC tO (j := 0) (by decide) (by rw [hO9.2.1]; decide) dL_daysKept_8 ?_
    refine Z_goto hC dL_daysKept_9 (tgt := 18) (by decide) ?_
    refine Z_iconst hC dL_daysKept_18 (v := 0) (by decide) ?_
    exact Z_iret hC (by decide) (by decide) dL_daysKept_19 (HQ.okJ h0 h2 h3 hO9 ⟨i, hi, by rw [mJ_pJ]⟩)
  · obtain ⟨hR, hc1, hf⟩ := hq
    match i9, hi with
    | 0, hi =>
      cases hi
      refine Z_astoreR_n hC dL_daysKept_12 rfl (by decide) (ls1 := [some (rv x), some (.int v), some (rv o), some (.ref a9)]) rfl ?_
      refine Z_iconst hC dL_daysKept_13 (v := 1) (by decide) ?_
      exact Z_iret hC (by decide) (by decide) dL_daysKept_14 (HQ.no hR hc1 hf hO (by decide))
    | 1, hi =>
      cases hi
      refine Z_astoreR_n hC dL_daysKept_15 rfl (by decide) (ls1 := [some (rv x), some (.int v), some (rv o), some (.ref a9)]) rfl ?_
      refine Z_iconst hC dL_daysKept_16 (v := 2) (by decide) ?_
      exact Z_iret hC (by decide) (by decide) dL_daysKept_17 (HQ.no hR hc1 hf hO (by decide))
    | z + 2, hi => simp at hi
theorem hl_plateOn {G : Gt} {l : Launch} (hst : l.stackTraces = false) {M : Mm} {x o od : Nat} {S : St} {t : Nat} (hM : CAt M x S) (hI : Inv S t) (hO : Ot M o od) (v d : Int32)  : Ch G l yL_plateOn cL_plateOn 5 hh_plateOn 8 M [rv x, .int v, .int d, rv o] 8 48 (HQ M x o od (oLookT 1 S v d) (fun M9 => ∃ i, (oLookT 1 S v d).2.1 = .int i ∧ mJ M9 o 0 = i.toInt64)) := by
  have hv := vi_oLookT 1 S v d
  have hc := ct_X4_plateOn hst (G := G) (l := l) hM hI v d
  refine Ch_intro (by decide +kernel) rfl hst (fun w hw => by simp only [List.mem_cons, List.not_mem_nil, or_false] at hw; rcases hw with rfl | rfl | rfl | rfl <;> first | rfl | exact rv_cat _) (Nat.le_of_ble_eq_true rfl) (fun γ hC hH => ?_)
  show JE G γ ET M 0 [some (rv x), some (.int v), some (.int d), some (rv o)] [] 0 0
  refine Z_aload_n hC dL_plateOn_0 rfl rfl ?_
  refine Z_iconst hC dL_plateOn_1 (v := 0) (by decide) ?_
  refine Z_aload_n hC dL_plateOn_2 rfl rfl ?_
  refine Z_iload_n hC dL_plateOn_3 rfl rfl ?_
  refine Z_iload_n hC dL_plateOn_4 rfl rfl ?_
  refine Z_callVH (k1 := 8) (n1 := 48) (kd := 5) (es := [eIO, eIA, eNS]) (Qi := fun i M1 => (oLookT 1 S v d) = no (i + 1) S ∧ CAt M1 x S ∧ Fr pC M M1) [.int v, .int d] [.int d, .int v, rv x, .int 0, rv o] hC hH lv_L_117 hc hM.tx (by decide) ⟨_, mE_5 hM.tx⟩ rfl rfl rfl (by simp only [List.map_cons, List.map_nil, rv_cat, List.sum_cons, List.sum_nil]; (try simp only [Value.category]); (try omega)) (by decide) rfl rfl (by decide) (by decide) dL_plateOn_5 hk_plateOn (fun E M1 h => h) (fun v9 M9 hq9 => ?_) (fun i9 M9 q9 a9 hq hi => ?_)
  · obtain ⟨h0, h1, h2, h3⟩ := hq9
    obtain ⟨i, hi⟩ := hv
    rw [h1, hi]
    have hO9 := hO.fr h3 (by decide) (by decide)
    have tO := congrArg Prod.fst hO9.1
    refine Z_i2l hC dL_plateOn_8 ?_
    refine Z_last hC tO (j := 0) (by decide) (by rw [hO9.2.1]; decide) dL_plateOn_9 ?_
    refine Z_goto hC dL_plateOn_10 (tgt := 25) (by decide) ?_
    refine Z_iconst hC dL_plateOn_25 (v := 0) (by decide) ?_
    exact Z_iret hC (by decide) (by decide) dL_plateOn_26 (HQ.okJ h0 h2 h3 hO9 ⟨i, hi, by rw [mJ_pJ]⟩)
  · obtain ⟨hR, hc1, hf⟩ := hq
    match i9, hi with
    | 0, hi =>
      cases hi
      refine Z_astoreR hC dL_plateOn_13 (by decide) (ls1 := [some (rv x), some (.int v), some (.int d), some (rv o), some (.ref a9)]) rfl ?_
      refine Z_iconst hC dL_plateOn_15 (v := 1) (by decide) ?_
      exact Z_iret hC (by decide) (by decide) dL_plateOn_16 (HQ.no hR hc1 hf hO (by decide))
    | 1, hi =>
      cases hi
      refine Z_astoreR hC dL_plateOn_17 (by decide) (ls1 := [some (rv x), some (.int v), some (.int d), some (rv o), some (.ref a9)]) rfl ?_
      refine Z_iconst hC dL_plateOn_19 (v := 2) (by decide) ?_
      exact Z_iret hC (by decide) (by decide) dL_plateOn_20 (HQ.no hR hc1 hf hO (by decide))
    | 2, hi =>
      cases hi
      refine Z_astoreR hC dL_plateOn_21 (by decide) (ls1 := [some (rv x), some (.int v), some (.int d), some (rv o), some (.ref a9)]) rfl ?_
      refine Z_iconst hC dL_plateOn_23 (v := 3) (by decide) ?_
      exact Z_iret hC (by decide) (by decide) dL_plateOn_24 (HQ.no hR hc1 hf hO (by decide))
    | z + 3, hi => simp at hi
theorem hl_vehicleWith {G : Gt} {l : Launch} (hst : l.stackTraces = false) {M : Mm} {x o od : Nat} {S : St} {t : Nat} (hM : CAt M x S) (hI : Inv S t) (hO : Ot M o od) (v d : Int32)  : Ch G l yL_vehicleWith cL_vehicleWith 5 hh_vehicleWith 8 M [rv x, .int v, .int d, rv o] 8 48 (HQ M x o od (oVehicleWith S v d) (fun M9 => ∃ i, (oVehicleWith S v d).2.1 = .int i ∧ mJ M9 o 0 = i.toInt64)) := by
  have hv := vi_oVehicleWith S v d
  have hc := ct_X4_vehicleWith hst (G := G) (l := l) hM hI v d
  refine Ch_intro (by decide +kernel) rfl hst (fun w hw => by simp only [List.mem_cons, List.not_mem_nil, or_false] at hw; rcases hw with rfl | rfl | rfl | rfl <;> first | rfl | exact rv_cat _) (Nat.le_of_ble_eq_true rfl) (fun γ hC hH => ?_)
  show JE G γ ET M 0 [some (rv x), some (.int v), some (.int d), some (rv o)] [] 0 0
  refine Z_aload_n hC dL_vehicleWith_0 rfl rfl ?_
  refine Z_iconst hC dL_vehicleWith_1 (v := 0) (by decide) ?_
  refine Z_aload_n hC dL_vehicleWith_2 rfl rfl ?_
  refine Z_iload_n hC dL_vehicleWith_3 rfl rfl ?_
  refine Z_iload_n hC dL_vehicleWith_4 rfl rfl ?_
  refine Z_callVH (k1 := 8) (n1 := 48) (kd := 5) (es := [eNS, eIA, eIS]) (Qi := fun i M1 => (oVehicleWith S v d) = no (i + 1) S ∧ CAt M1 x S ∧ Fr pC M M1) [.int v, .int d] [.int d, .int v, rv x, .int 0, rv o] hC hH lv_L_120 hc hM.tx (by decide) ⟨_, mE_5 hM.tx⟩ rfl rfl rfl (by simp only [List.map_cons, List.map_nil, rv_cat, List.sum_cons, List.sum_nil]; (try simp only [Value.category]); (try omega)) (by decide) rfl rfl (by decide) (by decide) dL_vehicleWith_5 hk_vehicleWith (fun E M1 h => h) (fun v9 M9 hq9 => ?_) (fun i9 M9 q9 a9 hq hi => ?_)
  · obtain ⟨h0, h1, h2, h3⟩ := hq9
    obtain ⟨i, hi⟩ := hv
    rw [h1, hi]
    have hO9 := hO.fr h3 (by decide) (by decide)
    have tO := congrArg Prod.fst hO9.1
    refine Z_i2l hC dL_vehicleWith_8 ?_
    refine Z_last hC tO (j := 0) (by decide) (by rw [hO9.2.1]; decide) dL_vehicleWith_9 ?_
    refine Z_goto hC dL_vehicleWith_10 (tgt := 25) (by decide) ?_
    refine Z_iconst hC dL_vehicleWith_25 (v := 0) (by decide) ?_
    exact Z_iret hC (by decide) (by decide) dL_vehicleWith_26 (HQ.okJ h0 h2 h3 hO9 ⟨i, hi, by rw [mJ_pJ]⟩)
  · obtain ⟨hR, hc1, hf⟩ := hq
    match i9, hi with
    | 0, hi =>
      cases hi
      refine Z_astoreR hC dL_vehicleWith_13 (by decide) (ls1 := [some (rv x), some (.int v), some (.int d), some (rv o), some (.ref a9)]) rfl ?_
      refine Z_iconst hC dL_vehicleWith_15 (v := 1) (by decide) ?_
      exact Z_iret hC (by decide) (by decide) dL_vehicleWith_16 (HQ.no hR hc1 hf hO (by decide))
    | 1, hi =>
      cases hi
      refine Z_astoreR hC dL_vehicleWith_17 (by decide) (ls1 := [some (rv x), some (.int v), some (.int d), some (rv o), some (.ref a9)]) rfl ?_
      refine Z_iconst hC dL_vehicleWith_19 (v := 2) (by decide) ?_
      exact Z_iret hC (by decide) (by decide) dL_vehicleWith_20 (HQ.no hR hc1 hf hO (by decide))
    | 2, hi =>
      cases hi
      refine Z_astoreR hC dL_vehicleWith_21 (by decide) (ls1 := [some (rv x), some (.int v), some (.int d), some (rv o), some (.ref a9)]) rfl ?_
      refine Z_iconst hC dL_vehicleWith_23 (v := 3) (by decide) ?_
      exact Z_iret hC (by decide) (by decide) dL_vehicleWith_24 (HQ.no hR hc1 hf hO (by decide))
    | z + 3, hi => simp at hi
theorem hl_vehicleByVehicles {G : Gt} {l : Launch} (hst : l.stackTraces = false) {M : Mm} {x o od : Nat} {S : St} {t : Nat} (hM : CAt M x S) (hI : Inv S t) (hO : Ot M o od) (v d : Int32)  : Ch G l yL_vehicleByVehicles cL_vehicleByVehicles 5 hh_vehicleByVehicles 8 M [rv x, .int v, .int d, rv o] 8 48 (HQ M x o od (oVehicleWith S v d) (fun M9 => ∃ i, (oVehicleWith S v d).2.1 = .int i ∧ mJ M9 o 0 = i.toInt64)) := by
  have hv := vi_oVehicleWith S v d
  have hc := ct_X4_vehicleByVehicles hst (G := G) (l := l) hM hI v d
  refine Ch_intro (by decide +kernel) rfl hst (fun w hw => by simp only [List.mem_cons, List.not_mem_nil, or_false] at hw; rcases hw with rfl | rfl | rfl | rfl <;> first | rfl | exact rv_cat _) (Nat.le_of_ble_eq_true rfl) (fun γ hC hH => ?_)
  show JE G γ ET M 0 [some (rv x), some (.int v), some (.int d), some (rv o)] [] 0 0
  refine Z_aload_n hC dL_vehicleByVehicles_0 rfl rfl ?_
  refine Z_iconst hC dL_vehicleByVehicles_1 (v := 0) (by decide) ?_
  refine Z_aload_n hC dL_vehicleByVehicles_2 rfl rfl ?_
  refine Z_iload_n hC dL_vehicleByVehicles_3 rfl rfl ?_
  refine Z_iload_n hC dL_vehicleByVehicles_4 rfl rfl ?_
  refine Z_callVH (k1 := 8) (n1 := 48) (kd := 5) (es := [eNS, eIA, eIS]) (Qi := fun i M1 => (oVehicleWith S v d) = no (i + 1) S ∧ CAt M1 x S ∧ Fr pC M M1) [.int v, .int d] [.int d, .int v, rv x, .int 0, rv o] hC hH lv_L_123 hc hM.tx (by decide) ⟨_, mE_5 hM.tx⟩ rfl rfl rfl (by simp only [List.map_cons, List.map_nil, rv_cat, List.sum_cons, List.sum_nil]; (try simp only [Value.category]); (try omega)) (by decide) rfl rfl (by decide) (by decide) dL_vehicleByVehicles_5 hk_vehicleByVehicles (fun E M1 h => h) (fun v9 M9 hq9 => ?_) (fun i9 M9 q9 a9 hq hi => ?_)
  · obtain ⟨h0, h1, h2, h3⟩ := hq9
    obtain ⟨i, hi⟩ := hv
    rw [h1, hi]
    have hO9 := hO.fr h3 (by decide) (by decide)
    have tO := congrArg Prod.fst hO9.1
    refine Z_i2l hC dL_vehicleByVehicles_8 ?_
    refine Z_last hC tO (j := 0) (by decide) (by rw [hO9.2.1]; decide) dL_vehicleByVehicles_9 ?_
    refine Z_goto hC dL_vehicleByVehicles_10 (tgt := 25) (by decide) ?_
    refine Z_iconst hC dL_vehicleByVehicles_25 (v := 0) (by decide) ?_
    exact Z_iret hC (by decide) (by decide) dL_vehicleByVehicles_26 (HQ.okJ h0 h2 h3 hO9 ⟨i, hi, by rw [mJ_pJ]⟩)
  · obtain ⟨hR, hc1, hf⟩ := hq
    match i9, hi with
    | 0, hi =>
      cases hi
      refine Z_astoreR hC dL_vehicleByVehicles_13 (by decide) (ls1 := [some (rv x), some (.int v), some (.int d), some (rv o), some (.ref a9)]) rfl ?_
      refine Z_iconst hC dL_vehicleByVehicles_15 (v := 1) (by decide) ?_
      exact Z_iret hC (by decide) (by decide) dL_vehicleByVehicles_16 (HQ.no hR hc1 hf hO (by decide))
    | 1, hi =>
      cases hi
      refine Z_astoreR hC dL_vehicleByVehicles_17 (by decide) (ls1 := [some (rv x), some (.int v), some (.int d), some (rv o), some (.ref a9)]) rfl ?_
      refine Z_iconst hC dL_vehicleByVehicles_19 (v := 2) (by decide) ?_
      exact Z_iret hC (by decide) (by decide) dL_vehicleByVehicles_20 (HQ.no hR hc1 hf hO (by decide))
    | 2, hi =>
      cases hi
      refine Z_astoreR hC dL_vehicleByVehicles_21 (by decide) (ls1 := [some (rv x), some (.int v), some (.int d), some (rv o), some (.ref a9)]) rfl ?_
      refine Z_iconst hC dL_vehicleByVehicles_23 (v := 3) (by decide) ?_
      exact Z_iret hC (by decide) (by decide) dL_vehicleByVehicles_24 (HQ.no hR hc1 hf hO (by decide))
    | z + 3, hi => simp at hi
theorem hl_due {G : Gt} {l : Launch} (hst : l.stackTraces = false) {M : Mm} {x o od : Nat} {S : St} {t : Nat} (hM : CAt M x S) (hI : Inv S t) (hO : Ot M o od) (v q : Int32)  : Ch G l yL_due cL_due 5 hh_due 8 M [rv x, .int v, .int q, rv o] 8 48 (HQ M x o od (oDue S v q) (fun M9 => ∃ i, (oDue S v q).2.1 = .int i ∧ mJ M9 o 0 = i.toInt64)) := by
  have hv := vi_oDue S v q
  have hc := ct_X4_due hst (G := G) (l := l) hM hI v q
  refine Ch_intro (by decide +kernel) rfl hst (fun w hw => by simp only [List.mem_cons, List.not_mem_nil, or_false] at hw; rcases hw with rfl | rfl | rfl | rfl <;> first | rfl | exact rv_cat _) (Nat.le_of_ble_eq_true rfl) (fun γ hC hH => ?_)
  show JE G γ ET M 0 [some (rv x), some (.int v), some (.int q), some (rv o)] [] 0 0
  refine Z_aload_n hC dL_due_0 rfl rfl ?_
  refine Z_iconst hC dL_due_1 (v := 0) (by decide) ?_
  refine Z_aload_n hC dL_due_2 rfl rfl ?_
  refine Z_iload_n hC dL_due_3 rfl rfl ?_
  refine Z_iload_n hC dL_due_4 rfl rfl ?_
  refine Z_callVH (k1 := 8) (n1 := 48) (kd := 5) (es := [eIO, eIA]) (Qi := fun i M1 => (oDue S v q) = no (i + 1) S ∧ CAt M1 x S ∧ Fr pC M M1) [.int v, .int q] [.int q, .int v, rv x, .int 0, rv o] hC hH lv_L_126 hc hM.tx (by decide) ⟨_, mE_5 hM.tx⟩ rfl rfl rfl (by simp only [List.map_cons, List.map_nil, rv_cat, List.sum_cons, List.sum_nil]; (try simp only [Value.category]); (try omega)) (by decide) rfl rfl (by decide) (by decide) dL_due_5 hk_due (fun E M1 h => h) (fun v9 M9 hq9 => ?_) (fun i9 M9 q9 a9 hq hi => ?_)
  · obtain ⟨h0, h1, h2, h3⟩ := hq9
    obtain ⟨i, hi⟩ := hv
    rw [h1, hi]
    have hO9 := hO.fr h3 (by decide) (by decide)
    have tO := congrArg Prod.fst hO9.1
    refine Z_i2l hC dL_due_8 ?_
    refine Z_last hC tO (j := 0) (by decide) (by rw [hO9.2.1]; decide) dL_due_9 ?_
    refine Z_goto hC dL_due_10 (tgt := 21) (by decide) ?_
    refine Z_iconst hC dL_due_21 (v := 0) (by decide) ?_
    exact Z_iret hC (by decide) (by decide) dL_due_22 (HQ.okJ h0 h2 h3 hO9 ⟨i, hi, by rw [mJ_pJ]⟩)
  · obtain ⟨hR, hc1, hf⟩ := hq
    match i9, hi with
    | 0, hi =>
      cases hi
      refine Z_astoreR hC dL_due_13 (by decide) (ls1 := [some (rv x), some (.int v), some (.int q), some (rv o), some (.ref a9)]) rfl ?_
      refine Z_iconst hC dL_due_15 (v := 1) (by decide) ?_
      exact Z_iret hC (by decide) (by decide) dL_due_16 (HQ.no hR hc1 hf hO (by decide))
    | 1, hi =>
      cases hi
      refine Z_astoreR hC dL_due_17 (by decide) (ls1 := [some (rv x), some (.int v), some (.int q), some (rv o), some (.ref a9)]) rfl ?_
      refine Z_iconst hC dL_due_19 (v := 2) (by decide) ?_
      exact Z_iret hC (by decide) (by decide) dL_due_20 (HQ.no hR hc1 hf hO (by decide))
    | z + 2, hi => simp at hi
theorem hl_owes {G : Gt} {l : Launch} (hst : l.stackTraces = false) {M : Mm} {x o od : Nat} {S : St} {t : Nat} (hM : CAt M x S) (hI : Inv S t) (hO : Ot M o od) (v : Int32)  : Ch G l yL_owes cL_owes 4 hh_owes 9 M [rv x, .int v, rv o] 40 9000 (HQ M x o od (oOwes S v) (fun M9 => ∃ i, (oOwes S v).2.1 = .int i ∧ mJ M9 o 0 = i.toInt64)) := by
  have hv := vi_oOwes S v
  have hc := ct_X4_owes hst (G := G) (l := l) hM hI v
  refine Ch_intro (by decide +kernel) rfl hst (fun w hw => by simp only [List.mem_cons, List.not_mem_nil, or_false] at hw; rcases hw with rfl | rfl | rfl <;> first | rfl | exact rv_cat _) (Nat.le_of_ble_eq_true rfl) (fun γ hC hH => ?_)
  show JE G γ ET M 0 [some (rv x), some (.int v), some (rv o)] [] 0 0
  refine Z_aload_n hC dL_owes_0 rfl rfl ?_
  refine Z_iconst hC dL_owes_1 (v := 0) (by decide) ?_
  refine Z_aload_n hC dL_owes_2 rfl rfl ?_
  refine Z_iload_n hC dL_owes_3 rfl rfl ?_
  refine Z_callVH (k1 := 40) (n1 := 9000) (kd := 5) (es := [eIO]) (Qi := fun i M1 => (oOwes S v) = no (i + 1) S ∧ CAt M1 x S ∧ Fr pC M M1) [.int v] [.int v, rv x, .int 0, rv o] hC hH lv_L_129 hc hM.tx (by decide) ⟨_, mE_5 hM.tx⟩ rfl rfl rfl (by simp only [List.map_cons, List.map_nil, rv_cat, List.sum_cons, List.sum_nil]; (try simp only [Value.category]); (try omega)) (by decide) rfl rfl (by decide) (by decide) dL_owes_4 hk_owes (fun E M1 h => h) (fun v9 M9 hq9 => ?_) (fun i9 M9 q9 a9 hq hi => ?_)
  · obtain ⟨h0, h1, h2, h3⟩ := hq9
    obtain ⟨i, hi⟩ := hv
    rw [h1, hi]
    have hO9 := hO.fr h3 (by decide) (by decide)
    have tO := congrArg Prod.fst hO9.1
    refine Z_i2l hC dL_owes_7 ?_
    refine Z_last hC tO (j := 0) (by decide) (by rw [hO9.2.1]; decide) dL_owes_8 ?_
    refine Z_goto hC dL_owes_9 (tgt := 15) (by decide) ?_
    refine Z_iconst hC dL_owes_15 (v := 0) (by decide) ?_
    exact Z_iret hC (by decide) (by decide) dL_owes_16 (HQ.okJ h0 h2 h3 hO9 ⟨i, hi, by rw [mJ_pJ]⟩)
  · obtain ⟨hR, hc1, hf⟩ := hq
    match i9, hi with
    | 0, hi =>
      cases hi
      refine Z_astoreR_n hC dL_owes_12 rfl (by decide) (ls1 := [some (rv x), some (.int v), some (rv o), some (.ref a9)]) rfl ?_
      refine Z_iconst hC dL_owes_13 (v := 1) (by decide) ?_
      exact Z_iret hC (by decide) (by decide) dL_owes_14 (HQ.no hR hc1 hf hO (by decide))
    | z + 1, hi => simp at hi
theorem hl_owesByDays {G : Gt} {l : Launch} (hst : l.stackTraces = false) {M : Mm} {x o od : Nat} {S : St} {t : Nat} (hM : CAt M x S) (hI : Inv S t) (hO : Ot M o od) (v : Int32)  : Ch G l yL_owesByDays cL_owesByDays 4 hh_owesByDays 9 M [rv x, .int v, rv o] 40 9000 (HQ M x o od (oOwes S v) (fun M9 => ∃ i, (oOwes S v).2.1 = .int i ∧ mJ M9 o 0 = i.toInt64)) := by
  have hv := vi_oOwes S v
  have hc := ct_X4_owesByDays hst (G := G) (l := l) hM hI v
  refine Ch_intro (by decide +kernel) rfl hst (fun w hw => by simp only [List.mem_cons, List.not_mem_nil, or_false] at hw; rcases hw with rfl | rfl | rfl <;> first | rfl | exact rv_cat _) (Nat.le_of_ble_eq_true rfl) (fun γ hC hH => ?_)
  show JE G γ ET M 0 [some (rv x), some (.int v), some (rv o)] [] 0 0
  refine Z_aload_n hC dL_owesByDays_0 rfl rfl ?_
  refine Z_iconst hC dL_owesByDays_1 (v := 0) (by decide) ?_
  refine Z_aload_n hC dL_owesByDays_2 rfl rfl ?_
  refine Z_iload_n hC dL_owesByDays_3 rfl rfl ?_
  refine Z_callVH (k1 := 40) (n1 := 9000) (kd := 5) (es := [eIO]) (Qi := fun i M1 => (oOwes S v) = no (i + 1) S ∧ CAt M1 x S ∧ Fr pC M M1) [.int v] [.int v, rv x, .int 0, rv o] hC hH lv_L_132 hc hM.tx (by decide) ⟨_, mE_5 hM.tx⟩ rfl rfl rfl (by simp only [List.map_cons, List.map_nil, rv_cat, List.sum_cons, List.sum_nil]; (try simp only [Value.category]); (try omega)) (by decide) rfl rfl (by decide) (by decide) dL_owesByDays_4 hk_owesByDays (fun E M1 h => h) (fun v9 M9 hq9 => ?_) (fun i9 M9 q9 a9 hq hi => ?_)
  · obtain ⟨h0, h1, h2, h3⟩ := hq9
    obtain ⟨i, hi⟩ := hv
    rw [h1, hi]
    have hO9 := hO.fr h3 (by decide) (by decide)
    have tO := congrArg Prod.fst hO9.1
    refine Z_i2l hC dL_owesByDays_7 ?_
    refine Z_last hC tO (j := 0) (by decide) (by rw [hO9.2.1]; decide) dL_owesByDays_8 ?_
    refine Z_goto hC dL_owesByDays_9 (tgt := 15) (by decide) ?_
    refine Z_iconst hC dL_owesByDays_15 (v := 0) (by decide) ?_
    exact Z_iret hC (by decide) (by decide) dL_owesByDays_16 (HQ.okJ h0 h2 h3 hO9 ⟨i, hi, by rw [mJ_pJ]⟩)
  · obtain ⟨hR, hc1, hf⟩ := hq
    match i9, hi with
    | 0, hi =>
      cases hi
      refine Z_astoreR_n hC dL_owesByDays_12 rfl (by decide) (ls1 := [some (rv x), some (.int v), some (rv o), some (.ref a9)]) rfl ?_
      refine Z_iconst hC dL_owesByDays_13 (v := 1) (by decide) ?_
      exact Z_iret hC (by decide) (by decide) dL_owesByDays_14 (HQ.no hR hc1 hf hO (by decide))
    | z + 1, hi => simp at hi
theorem hl_pay {G : Gt} {l : Launch} (hst : l.stackTraces = false) {M : Mm} {x o od : Nat} {S : St} {t : Nat} (hM : CAt M x S) (hI : Inv S t) (hO : Ot M o od) (v a : Int32)  : Ch G l yL_pay cL_pay 5 hh_pay 9 M [rv x, .int v, .int a, rv o] 40 9000 (HQ M x o od (oPay S v a) (fun M9 => ∃ i, (oPay S v a).2.1 = .int i ∧ mJ M9 o 0 = i.toInt64)) := by
  have hv := vi_oPay S v a
  have hc := ct_X4_pay hst (G := G) (l := l) hM hI v a
  refine Ch_intro (by decide +kernel) rfl hst (fun w hw => by simp only [List.mem_cons, List.not_mem_nil, or_false] at hw; rcases hw with rfl | rfl | rfl | rfl <;> first | rfl | exact rv_cat _) (Nat.le_of_ble_eq_true rfl) (fun γ hC hH => ?_)
  show JE G γ ET M 0 [some (rv x), some (.int v), some (.int a), some (rv o)] [] 0 0
  refine Z_aload_n hC dL_pay_0 rfl rfl ?_
  refine Z_iconst hC dL_pay_1 (v := 0) (by decide) ?_
  refine Z_aload_n hC dL_pay_2 rfl rfl ?_
  refine Z_iload_n hC dL_pay_3 rfl rfl ?_
  refine Z_iload_n hC dL_pay_4 rfl rfl ?_
  refine Z_callVH (k1 := 40) (n1 := 9000) (kd := 5) (es := [eIO, eIA]) (Qi := fun i M1 => (oPay S v a) = no (i + 1) S ∧ CAt M1 x S ∧ Fr pC M M1) [.int v, .int a] [.int a, .int v, rv x, .int 0, rv o] hC hH lv_L_135 hc hM.tx (by decide) ⟨_, mE_5 hM.tx⟩ rfl rfl rfl (by simp only [List.map_cons, List.map_nil, rv_cat, List.sum_cons, List.sum_nil]; (try simp only [Value.category]); (try omega)) (by decide) rfl rfl (by decide) (by decide) dL_pay_5 hk_pay (fun E M1 h => h) (fun v9 M9 hq9 => ?_) (fun i9 M9 q9 a9 hq hi => ?_)
  · obtain ⟨h0, h1, h2, h3⟩ := hq9
    obtain ⟨i, hi⟩ := hv
    rw [h1, hi]
    have hO9 := hO.fr h3 (by decide) (by decide)
    have tO := congrArg Prod.fst hO9.1
    refine Z_i2l hC dL_pay_8 ?_
    refine Z_last hC tO (j := 0) (by decide) (by rw [hO9.2.1]; decide) dL_pay_9 ?_
    refine Z_goto hC dL_pay_10 (tgt := 21) (by decide) ?_
    refine Z_iconst hC dL_pay_21 (v := 0) (by decide) ?_
    exact Z_iret hC (by decide) (by decide) dL_pay_22 (HQ.okJ h0 h2 h3 hO9 ⟨i, hi, by rw [mJ_pJ]⟩)
  · obtain ⟨hR, hc1, hf⟩ := hq
    match i9, hi with
    | 0, hi =>
      cases hi
      refine Z_astoreR hC dL_pay_13 (by decide) (ls1 := [some (rv x), some (.int v), some (.int a), some (rv o), some (.ref a9)]) rfl ?_
      refine Z_iconst hC dL_pay_15 (v := 1) (by decide) ?_
      exact Z_iret hC (by decide) (by decide) dL_pay_16 (HQ.no hR hc1 hf hO (by decide))
    | 1, hi =>
      cases hi
      refine Z_astoreR hC dL_pay_17 (by decide) (ls1 := [some (rv x), some (.int v), some (.int a), some (rv o), some (.ref a9)]) rfl ?_
      refine Z_iconst hC dL_pay_19 (v := 2) (by decide) ?_
      exact Z_iret hC (by decide) (by decide) dL_pay_20 (HQ.no hR hc1 hf hO (by decide))
    | z + 2, hi => simp at hi
theorem hl_mostOwing {G : Gt} {l : Launch} (hst : l.stackTraces = false) {M : Mm} {x o od : Nat} {S : St} {t : Nat} (hM : CAt M x S) (hI : Inv S t) (hO : Ot M o od)  : Ch G l yL_mostOwing cL_mostOwing 3 hh_mostOwing 9 M [rv x, rv o] 40 9000 (HQ M x o od (oMost S) (fun M9 => ∃ i, (oMost S).2.1 = .int i ∧ mJ M9 o 0 = i.toInt64)) := by
  have hv := vi_oMost S
  have hc := ct_X4_mostOwing hst (G := G) (l := l) hM hI
  refine Ch_intro (by decide +kernel) rfl hst (fun w hw => by simp only [List.mem_cons, List.not_mem_nil, or_false] at hw; rcases hw with rfl | rfl <;> first | rfl | exact rv_cat _) (Nat.le_of_ble_eq_true rfl) (fun γ hC hH => ?_)
  show JE G γ ET M 0 [some (rv x), some (rv o)] [] 0 0
  refine Z_aload_n hC dL_mostOwing_0 rfl rfl ?_
  refine Z_iconst hC dL_mostOwing_1 (v := 0) (by decide) ?_
  refine Z_aload_n hC dL_mostOwing_2 rfl rfl ?_
  refine Z_callVH (k1 := 40) (n1 := 9000) (kd := 5) (es := [eNS]) (Qi := fun i M1 => (oMost S) = no (i + 1) S ∧ CAt M1 x S ∧ Fr pC M M1) [] [rv x, .int 0, rv o] hC hH lv_L_138 hc hM.tx (by decide) ⟨_, mE_5 hM.tx⟩ rfl rfl rfl (by simp only [List.map_cons, List.map_nil, rv_cat, List.sum_cons, List.sum_nil]; (try simp only [Value.category]); (try omega)) (by decide) rfl rfl (by decide) (by decide) dL_mostOwing_3 hk_mostOwing (fun E M1 h => h) (fun v9 M9 hq9 => ?_) (fun i9 M9 q9 a9 hq hi => ?_)
  · obtain ⟨h0, h1, h2, h3⟩ := hq9
    obtain ⟨i, hi⟩ := hv
    rw [h1, hi]
    have hO9 := hO.fr h3 (by decide) (by decide)
    have tO := congrArg Prod.fst hO9.1
    refine Z_i2l hC dL_mostOwing_6 ?_
    refine Z_last hC tO (j := 0) (by decide) (by rw [hO9.2.1]; decide) dL_mostOwing_7 ?_
    refine Z_goto hC dL_mostOwing_8 (tgt := 14) (by decide) ?_
    refine Z_iconst hC dL_mostOwing_14 (v := 0) (by decide) ?_
    exact Z_iret hC (by decide) (by decide) dL_mostOwing_15 (HQ.okJ h0 h2 h3 hO9 ⟨i, hi, by rw [mJ_pJ]⟩)
  · obtain ⟨hR, hc1, hf⟩ := hq
    match i9, hi with
    | 0, hi =>
      cases hi
      refine Z_astoreR_n hC dL_mostOwing_11 rfl (by decide) (ls1 := [some (rv x), some (rv o), some (.ref a9)]) rfl ?_
      refine Z_iconst hC dL_mostOwing_12 (v := 1) (by decide) ?_
      exact Z_iret hC (by decide) (by decide) dL_mostOwing_13 (HQ.no hR hc1 hf hO (by decide))
    | z + 1, hi => simp at hi
theorem hl_roadShare {G : Gt} {l : Launch} (hst : l.stackTraces = false) {M : Mm} {x o od : Nat} {S : St} {t : Nat} (hM : CAt M x S) (hI : Inv S t) (hO : Ot M o od)  : Ch G l yL_roadShare cL_roadShare 3 hh_roadShare 8 M [rv x, rv od] 8 48 (HQ M x o od (oRoadShare S) (fun M9 => ∃ i, (oRoadShare S).2.1 = .float i ∧ mD M9 od 0 = FP.f2d i)) := by
  have hv := vF_oRoadShare S hI
  have hc := ct_X4_roadShare hst (G := G) (l := l) hM hI
  refine Ch_intro (by decide +kernel) rfl hst (fun w hw => by simp only [List.mem_cons, List.not_mem_nil, or_false] at hw; rcases hw with rfl | rfl <;> first | rfl | exact rv_cat _) (Nat.le_of_ble_eq_true rfl) (fun γ hC hH => ?_)
  show JE G γ ET M 0 [some (rv x), some (rv od)] [] 0 0
  refine Z_aload_n hC dL_roadShare_0 rfl rfl ?_
  refine Z_iconst hC dL_roadShare_1 (v := 0) (by decide) ?_
  refine Z_aload_n hC dL_roadShare_2 rfl rfl ?_
  refine Z_callVH (k1 := 8) (n1 := 48) (kd := 5) (es := [eAE]) (Qi := fun i M1 => (oRoadShare S) = no (i + 1) S ∧ CAt M1 x S ∧ Fr pC M M1) [] [rv x, .int 0, rv od] hC hH lv_L_141 hc hM.tx (by decide) ⟨_, mE_5 hM.tx⟩ rfl rfl rfl (by simp only [List.map_cons, List.map_nil, rv_cat, List.sum_cons, List.sum_nil]; (try simp only [Value.category]); (try omega)) (by decide) rfl rfl (by decide) (by decide) dL_roadShare_3 hk_roadShare (fun E M1 h => h) (fun v9 M9 hq9 => ?_) (fun i9 M9 q9 a9 hq hi => ?_)
  · obtain ⟨h0, h1, h2, h3⟩ := hq9
    obtain ⟨i, hi, hn⟩ := hv h0
    rw [h1, hi]
    have hO9 := hO.fr h3 (by decide) (by decide)
    have tO := congrArg Prod.fst hO9.2.2.1
    refine Z_f2d hC dL_roadShare_6 hn ?_
    refine Z_dast hC tO (j := 0) (by decide) (by rw [hO9.2.2.2]; decide) dL_roadShare_7 ?_
    refine Z_goto hC dL_roadShare_8 (tgt := 14) (by decide) ?_
    refine Z_iconst hC dL_roadShare_14 (v := 0) (by decide) ?_
    exact Z_iret hC (by decide) (by decide) dL_roadShare_15 (HQ.okD h0 h2 h3 hO9 ⟨i, hi, by rw [mD_pD]⟩)
  · obtain ⟨hR, hc1, hf⟩ := hq
    match i9, hi with
    | 0, hi =>
      cases hi
      refine Z_astoreR_n hC dL_roadShare_11 rfl (by decide) (ls1 := [some (rv x), some (rv od), some (.ref a9)]) rfl ?_
      refine Z_iconst hC dL_roadShare_12 (v := 1) (by decide) ?_
      exact Z_iret hC (by decide) (by decide) dL_roadShare_13 (HQ.no hR hc1 hf hO (by decide))
    | z + 1, hi => simp at hi
theorem hl_meanTransfers {G : Gt} {l : Launch} (hst : l.stackTraces = false) {M : Mm} {x o od : Nat} {S : St} {t : Nat} (hM : CAt M x S) (hI : Inv S t) (hO : Ot M o od)  : Ch G l yL_meanTransfers cL_meanTransfers 3 hh_meanTransfers 8 M [rv x, rv od] 8 48 (HQ M x o od (oMean S) (fun M9 => ∃ i, (oMean S).2.1 = .double i ∧ mD M9 od 0 = i)) := by
  have hv := vD_oMean S hI
  have hc := ct_X4_meanTransfers hst (G := G) (l := l) hM hI
  refine Ch_intro (by decide +kernel) rfl hst (fun w hw => by simp only [List.mem_cons, List.not_mem_nil, or_false] at hw; rcases hw with rfl | rfl <;> first | rfl | exact rv_cat _) (Nat.le_of_ble_eq_true rfl) (fun γ hC hH => ?_)
  show JE G γ ET M 0 [some (rv x), some (rv od)] [] 0 0
  refine Z_aload_n hC dL_meanTransfers_0 rfl rfl ?_
  refine Z_iconst hC dL_meanTransfers_1 (v := 0) (by decide) ?_
  refine Z_aload_n hC dL_meanTransfers_2 rfl rfl ?_
  refine Z_callVH (k1 := 8) (n1 := 48) (kd := 5) (es := [eAE]) (Qi := fun i M1 => (oMean S) = no (i + 1) S ∧ CAt M1 x S ∧ Fr pC M M1) [] [rv x, .int 0, rv od] hC hH lv_L_147 hc hM.tx (by decide) ⟨_, mE_5 hM.tx⟩ rfl rfl rfl (by simp only [List.map_cons, List.map_nil, rv_cat, List.sum_cons, List.sum_nil]; (try simp only [Value.category]); (try omega)) (by decide) rfl rfl (by decide) (by decide) dL_meanTransfers_3 hk_meanTransfers (fun E M1 h => h) (fun v9 M9 hq9 => ?_) (fun i9 M9 q9 a9 hq hi => ?_)
  · obtain ⟨h0, h1, h2, h3⟩ := hq9
    obtain ⟨i, hi⟩ := hv h0
    rw [h1, hi]
    have hO9 := hO.fr h3 (by decide) (by decide)
    have tO := congrArg Prod.fst hO9.2.2.1
    refine Z_dast hC tO (j := 0) (by decide) (by rw [hO9.2.2.2]; decide) dL_meanTransfers_6 ?_
    refine Z_goto hC dL_meanTransfers_7 (tgt := 13) (by decide) ?_
    refine Z_iconst hC dL_meanTransfers_13 (v := 0) (by decide) ?_
    exact Z_iret hC (by decide) (by decide) dL_meanTransfers_14 (HQ.okD h0 h2 h3 hO9 ⟨i, hi, by rw [mD_pD]⟩)
  · obtain ⟨hR, hc1, hf⟩ := hq
    match i9, hi with
    | 0, hi =>
      cases hi
      refine Z_astoreR_n hC dL_meanTransfers_10 rfl (by decide) (ls1 := [some (rv x), some (rv od), some (.ref a9)]) rfl ?_
      refine Z_iconst hC dL_meanTransfers_11 (v := 1) (by decide) ?_
      exact Z_iret hC (by decide) (by decide) dL_meanTransfers_12 (HQ.no hR hc1 hf hO (by decide))
    | z + 1, hi => simp at hi
