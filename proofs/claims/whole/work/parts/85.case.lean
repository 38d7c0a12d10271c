/-! the law's cases -/
def lawQ (r : Option Value) (_ : Mm) : Prop := r = some (.int 1)
/-- what holds behind t calls -/
def LwI (M : Mm) (x m o od : Nat) (S : St) (t : Nat) : Prop := CAt M x S ∧ MAt M m S t ∧ Iv S t ∧ Ot M o od
def lsL (b x m o od t : Nat) : List (Option Value) := [some (.ref b), some (rv x), some (rv m), some (rv o), some (rv od), some (.int (nI (5 * t)))]
theorem lcmp_self (v : Int64) : lg_cmp v v = 0 := (lg_cmp_eq v v).mpr rfl
theorem vp_s {t L j : Nat} {b : Int32} (hL : 5 * t + 4 < L) (hj : j < 5) (hb : b = nI j) (hL2 : L ≤ 2560) : vp_in (nI (5 * t) + b) L := by
  subst hb
  rw [show nI (5 * t) + nI j = nI (5 * t + j) from nI_add _ _]
  exact vp_in_nI (by omega) (by omega)
theorem i2c_rng {a c : Int32} (h : (a.toUInt32 % 65536).toInt32 = c) : 0 ≤ c.toInt ∧ c.toInt < 65536 := by
  subst h
  rw [lg_i2c_nf, lg_i2c_toInt]
  omega
theorem nI_0of {k : Nat} (hk : k < 9) (h : nI k = 0) : k = 0 := by
  have h1 : (nI k).toInt = (k : Int) := nI_toInt (by omega)
  rw [h] at h1
  have : (0 : Int32).toInt = 0 := by decide
  omega
theorem share_c : ∀ a, a < 16 → ∀ b, b < 16 → b ≠ 0 → Op.cmpValue (FP.dcmp (FP.f2d (FP.fdiv (FP.i2f (nI a)) (FP.i2f (nI b)))) (FP.f2d (FP.fdiv (FP.i2f (nI a)) (FP.i2f (nI b))))) .l = 0 := by
  decide +kernel
theorem mean_c : ∀ a, a < 76 → ∀ b, b < 16 → b ≠ 0 → Op.cmpValue (FP.dcmp (FP.ddiv (FP.i2d (nI a)) (FP.i2d (nI b))) (FP.ddiv (FP.i2d (nI a)) (FP.i2d (nI b)))) .l = 0 := by
  decide +kernel
theorem vG_oRoadShare (S : St) {t : Nat} (hI : Inv S t) (h0 : (oRoadShare S).1 = 0) : ∃ i, (oRoadShare S).2.1 = .float i ∧ vf_n64 (FP.f2d i) ∧ Op.cmpValue (FP.dcmp (FP.f2d i) (FP.f2d i)) .l = 0 := by
  unfold oRoadShare at h0 ⊢
  split at h0
  · exact absurd h0 (Nat.succ_ne_zero 0)
  · rename_i h
    rw [if_neg h]
    have := hI.bV
    exact ⟨_, rfl, share_d _ (roadN_le16 S hI.bV) _ (by omega) h, share_c _ (roadN_le16 S hI.bV) _ (by omega) h⟩
theorem vG_oMean (S : St) {t : Nat} (hI : Inv S t) (h0 : (oMean S).1 = 0) : ∃ i, (oMean S).2.1 = .double i ∧ Op.cmpValue (FP.dcmp i i) .l = 0 := by
  unfold oMean at h0 ⊢
  split at h0
  · exact absurd h0 (Nat.succ_ne_zero 0)
  · rename_i h
    rw [if_neg h]
    have h1 := hI.bV
    have h2 := hI.cu
    have h3 := cnt_le (fun i => decide (sO S i 5 = 117)) (sN S 3)
    have h4 := hI.bN
    exact ⟨_, rfl, mean_c _ (by omega) _ (by omega) h⟩
theorem vk_oAddKeeper (S : St) : (oAddKeeper S).1 < 9 := by
  unfold oAddKeeper
  repeat' split
  all_goals exact Nat.le_of_ble_eq_true rfl
theorem vk_oPass (S : St) (d : Int32) : (oPass S d).1 < 9 := by
  unfold oPass
  repeat' split
  all_goals exact Nat.le_of_ble_eq_true rfl
theorem vk_oRegister (S : St) (v c : Int32) : (oRegister S v c).1 < 9 := by
  unfold oRegister
  repeat' split
  all_goals exact Nat.le_of_ble_eq_true rfl
theorem vk_oBringIn (S : St) (v c : Int32) : (oBringIn S v c).1 < 9 := by
  unfold oBringIn
  repeat' split
  all_goals exact Nat.le_of_ble_eq_true rfl
theorem vk_oAdmit (S : St) (v : Int32) : (oAdmit S v).1 < 9 := by
  unfold oAdmit
  repeat' split
  all_goals exact Nat.le_of_ble_eq_true rfl
theorem vk_oSetOnRoad (S : St) (v b : Int32) : (oSetOnRoad S v b).1 < 9 := by
  unfold oSetOnRoad
  repeat' split
  all_goals exact Nat.le_of_ble_eq_true rfl
theorem vk_oIsOnRoad (S : St) (v d : Int32) : (oIsOnRoad S v d).1 < 9 := by
  unfold oIsOnRoad
  repeat' split
  all_goals exact Nat.le_of_ble_eq_true rfl
theorem vs_oIsOnRoad (S : St) (v d : Int32) : (oIsOnRoad S v d).2.2 = S := by
  unfold oIsOnRoad
  repeat' split
  all_goals rfl
theorem vk_oScrap (S : St) (v : Int32) : (oScrap S v).1 < 9 := by
  unfold oScrap
  repeat' split
  all_goals exact Nat.le_of_ble_eq_true rfl
theorem vk_oKindOf (S : St) (v : Int32) : (oKindOf S v).1 < 9 := by
  unfold oKindOf
  repeat' split
  all_goals exact Nat.le_of_ble_eq_true rfl
theorem vs_oKindOf (S : St) (v : Int32) : (oKindOf S v).2.2 = S := by
  unfold oKindOf
  repeat' split
  all_goals rfl
theorem vk_oSell (S : St) (v w b d : Int32) : (oSell S v w b d).1 < 9 := by
  unfold oSell
  repeat' split
  all_goals exact Nat.le_of_ble_eq_true rfl
theorem vk_oBuy (S : St) (b w d : Int32) : (oBuy S b w d).1 < 9 := by
  unfold oBuy
  repeat' split
  all_goals exact Nat.le_of_ble_eq_true rfl
theorem vk_oWithdraw (S : St) (v : Int32) : (oWithdraw S v).1 < 9 := by
  unfold oWithdraw
  repeat' split
  all_goals exact Nat.le_of_ble_eq_true rfl
theorem vk_oStateOf (S : St) (v : Int32) : (oStateOf S v).1 < 9 := by
  unfold oStateOf
  repeat' split
  all_goals exact Nat.le_of_ble_eq_true rfl
theorem vs_oStateOf (S : St) (v : Int32) : (oStateOf S v).2.2 = S := by
  unfold oStateOf
  repeat' split
  all_goals rfl
theorem vk_oPartnerOf (S : St) (v : Int32) : (oPartnerOf S v).1 < 9 := by
  unfold oPartnerOf
  repeat' split
  all_goals exact Nat.le_of_ble_eq_true rfl
theorem vs_oPartnerOf (S : St) (v : Int32) : (oPartnerOf S v).2.2 = S := by
  unfold oPartnerOf
  repeat' split
  all_goals rfl
theorem vk_oOpen (S : St) (v : Int32) : (oOpen S v).1 < 9 := by
  unfold oOpen
  repeat' split
  all_goals exact Nat.le_of_ble_eq_true rfl
theorem vs_oOpen (S : St) (v : Int32) : (oOpen S v).2.2 = S := by
  unfold oOpen
  repeat' split
  all_goals rfl
theorem vk_oLookT (r : Nat) (S : St) (v d : Int32) : (oLookT r S v d).1 < 9 := by
  unfold oLookT
  repeat' split
  all_goals exact Nat.le_of_ble_eq_true rfl
theorem vs_oLookT (r : Nat) (S : St) (v d : Int32) : (oLookT r S v d).2.2 = S := by
  unfold oLookT
  repeat' split
  all_goals rfl
theorem vk_oTransfers (S : St) (v : Int32) : (oTransfers S v).1 < 9 := by
  unfold oTransfers
  repeat' split
  all_goals exact Nat.le_of_ble_eq_true rfl
theorem vs_oTransfers (S : St) (v : Int32) : (oTransfers S v).2.2 = S := by
  unfold oTransfers
  repeat' split
  all_goals rfl
theorem vk_oTransferDay (S : St) (v k : Int32) : (oTransferDay S v k).1 < 9 := by
  unfold oTransferDay
  repeat' split
  all_goals exact Nat.le_of_ble_eq_true rfl
theorem vs_oTransferDay (S : St) (v k : Int32) : (oTransferDay S v k).2.2 = S := by
  unfold oTransferDay
  repeat' split
  all_goals rfl
theorem vk_oKeptBy (S : St) (v : Int32) : (oKeptBy S v).1 < 9 := by
  unfold oKeptBy
  repeat' split
  all_goals exact Nat.le_of_ble_eq_true rfl
theorem vs_oKeptBy (S : St) (v : Int32) : (oKeptBy S v).2.2 = S := by
  unfold oKeptBy
  repeat' split
  all_goals rfl
theorem vk_oAddLien (S : St) (v c a : Int32) : (oAddLien S v c a).1 < 9 := by
  unfold oAddLien
  repeat' split
  all_goals exact Nat.le_of_ble_eq_true rfl
theorem vk_oPayLien (S : St) (v c a : Int32) : (oPayLien S v c a).1 < 9 := by
  unfold oPayLien
  repeat' split
  all_goals exact Nat.le_of_ble_eq_true rfl
theorem vk_oLienOf (S : St) (v c : Int32) : (oLienOf S v c).1 < 9 := by
  unfold oLienOf
  repeat' split
  all_goals exact Nat.le_of_ble_eq_true rfl
theorem vs_oLienOf (S : St) (v c : Int32) : (oLienOf S v c).2.2 = S := by
  unfold oLienOf
  repeat' split
  all_goals rfl
theorem vk_oIsBlocked (S : St) (v : Int32) : (oIsBlocked S v).1 < 9 := by
  unfold oIsBlocked
  repeat' split
  all_goals exact Nat.le_of_ble_eq_true rfl
theorem vs_oIsBlocked (S : St) (v : Int32) : (oIsBlocked S v).2.2 = S := by
  unfold oIsBlocked
  repeat' split
  all_goals rfl
theorem vk_oKeepPlate (S : St) (v : Int32) : (oKeepPlate S v).1 < 9 := by
  unfold oKeepPlate
  repeat' split
  all_goals exact Nat.le_of_ble_eq_true rfl
theorem vk_oPutOn (S : St) (v w : Int32) : (oPutOn S v w).1 < 9 := by
  unfold oPutOn
  repeat' split
  all_goals exact Nat.le_of_ble_eq_true rfl
theorem vk_oSwap (S : St) (v w : Int32) : (oSwap S v w).1 < 9 := by
  unfold oSwap
  repeat' split
  all_goals exact Nat.le_of_ble_eq_true rfl
theorem vk_oPlateState (S : St) (v : Int32) : (oPlateState S v).1 < 9 := by
  unfold oPlateState
  repeat' split
  all_goals exact Nat.le_of_ble_eq_true rfl
theorem vs_oPlateState (S : St) (v : Int32) : (oPlateState S v).2.2 = S := by
  unfold oPlateState
  repeat' split
  all_goals rfl
theorem vk_oDaysKept (S : St) (v : Int32) : (oDaysKept S v).1 < 9 := by
  unfold oDaysKept
  repeat' split
  all_goals exact Nat.le_of_ble_eq_true rfl
theorem vs_oDaysKept (S : St) (v : Int32) : (oDaysKept S v).2.2 = S := by
  unfold oDaysKept
  repeat' split
  all_goals rfl
theorem vk_oVehicleWith (S : St) (v d : Int32) : (oVehicleWith S v d).1 < 9 := by
  unfold oVehicleWith
  repeat' split
  all_goals exact Nat.le_of_ble_eq_true rfl
theorem vs_oVehicleWith (S : St) (v d : Int32) : (oVehicleWith S v d).2.2 = S := by
  unfold oVehicleWith
  repeat' split
  all_goals rfl
theorem vk_oDue (S : St) (v q : Int32) : (oDue S v q).1 < 9 := by
  unfold oDue
  repeat' split
  all_goals exact Nat.le_of_ble_eq_true rfl
theorem vs_oDue (S : St) (v q : Int32) : (oDue S v q).2.2 = S := by
  unfold oDue
  repeat' split
  all_goals rfl
theorem vk_oOwes (S : St) (v : Int32) : (oOwes S v).1 < 9 := by
  unfold oOwes
  repeat' split
  all_goals exact Nat.le_of_ble_eq_true rfl
theorem vs_oOwes (S : St) (v : Int32) : (oOwes S v).2.2 = S := by
  unfold oOwes
  repeat' split
  all_goals rfl
theorem vk_oPay (S : St) (v a : Int32) : (oPay S v a).1 < 9 := by
  unfold oPay
  repeat' split
  all_goals exact Nat.le_of_ble_eq_true rfl
theorem vk_oMost (S : St) : (oMost S).1 < 9 := by
  unfold oMost
  repeat' split
  all_goals exact Nat.le_of_ble_eq_true rfl
theorem vs_oMost (S : St) : (oMost S).2.2 = S := by
  unfold oMost
  repeat' split
  all_goals rfl
theorem vk_oRoadShare (S : St) : (oRoadShare S).1 < 9 := by
  unfold oRoadShare
  repeat' split
  all_goals exact Nat.le_of_ble_eq_true rfl
theorem vs_oRoadShare (S : St) : (oRoadShare S).2.2 = S := by
  unfold oRoadShare
  repeat' split
  all_goals rfl
theorem vk_oMean (S : St) : (oMean S).1 < 9 := by
  unfold oMean
  repeat' split
  all_goals exact Nat.le_of_ble_eq_true rfl
theorem vs_oMean (S : St) : (oMean S).2.2 = S := by
  unfold oMean
  repeat' split
  all_goals rfl
theorem vk_oDay (S : St) : (oDay S).1 < 9 := by
  unfold oDay
  repeat' split
  all_goals exact Nat.le_of_ble_eq_true rfl
theorem vs_oDay (S : St) : (oDay S).2.2 = S := by
  unfold oDay
  repeat' split
  all_goals rfl
theorem vk_oVehicles (S : St) : (oVehicles S).1 < 9 := by
  unfold oVehicles
  repeat' split
  all_goals exact Nat.le_of_ble_eq_true rfl
theorem vs_oVehicles (S : St) : (oVehicles S).2.2 = S := by
  unfold oVehicles
  repeat' split
  all_goals rfl
theorem vk_oPlates (S : St) : (oPlates S).1 < 9 := by
  unfold oPlates
  repeat' split
  all_goals exact Nat.le_of_ble_eq_true rfl
theorem vs_oPlates (S : St) : (oPlates S).2.2 = S := by
  unfold oPlates
  repeat' split
  all_goals rfl
theorem vk_oCollected (S : St) : (oCollected S).1 < 9 := by
  unfold oCollected
  repeat' split
  all_goals exact Nat.le_of_ble_eq_true rfl
theorem vs_oCollected (S : St) : (oCollected S).2.2 = S := by
  unfold oCollected
  repeat' split
  all_goals rfl
theorem vk_oSound (S : St) : (oSound S).1 < 9 := by
  unfold oSound
  repeat' split
  all_goals exact Nat.le_of_ble_eq_true rfl
theorem vs_oSound (S : St) : (oSound S).2.2 = S := by
  unfold oSound
  repeat' split
  all_goals rfl
