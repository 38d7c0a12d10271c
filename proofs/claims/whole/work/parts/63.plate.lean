/-! plates put on and off -/
/-- no timeline is longer than n -/
def TB (S : St) (n : Nat) : Prop := (∀ v, v < sN S 1 → (sT S 1 v).length ≤ n ∧ (sT S 2 v).length ≤ n) ∧ ∀ p, p < sN S 2 → (sT S 3 p).length ≤ n
theorem TB.p {S : St} {n p : Nat} (h : TB S n) (hp : p < sN S 2) : (sT S 3 p).length ≤ n := h.2 p hp
theorem TB.v1 {S : St} {n p : Nat} (h : TB S n) (hp : p < sN S 1) : (sT S 1 p).length ≤ n := (h.1 p hp).1
theorem TB.v2 {S : St} {n p : Nat} (h : TB S n) (hp : p < sN S 1) : (sT S 2 p).length ≤ n := (h.1 p hp).2
theorem TB.mono {S : St} {n m : Nat} (h : TB S n) (hm : n ≤ m) : TB S m := ⟨fun v hv => ⟨Nat.le_trans (h.v1 hv) hm, Nat.le_trans (h.v2 hv) hm⟩, fun p hp => Nat.le_trans (h.p hp) hm⟩
theorem TB.st {S : St} {n : Nat} (h : TB S n) (r i : Nat) (d x : Int32) : TB (uT S r i (setT (sT S r i) d x)) (n + 1) := by
  have k : ∀ q j, (sT S q j).length ≤ n → (sT (uT S r i (setT (sT S r i) d x)) q j).length ≤ n + 1 := fun q j hq => by
    rw [sT_uT]
    unfold up2
    by_cases e : q = r
    · subst e
      rw [if_pos rfl]
      by_cases e2 : j = i
      · subst e2; rw [if_pos rfl]; exact Nat.le_trans (setT_len _ _ _).1 (Nat.succ_le_succ hq)
      · rw [if_neg e2]; omega
    · rw [if_neg e]; omega
  exact ⟨fun v hv => ⟨k 1 v (h.v1 hv), k 2 v (h.v2 hv)⟩, fun p hp => k 3 p (h.p hp)⟩
theorem TB.q {S : St} {n : Nat} (h : TB S n) (p k : Nat) (x : Int32) : TB (uQ S p k x) n := h
theorem TB.w {S : St} {n : Nat} (h : TB S n) (p k : Nat) (x : Int32) : TB (uV S p k x) n := h
theorem TB.mount {S : St} {n : Nat} (h : TB S n) (p v : Nat) : TB (mountQ S p v) (n + 2) := by
  have h1 := (h.q p 2 (-1)).st 3 p (sD S) (nI v)
  exact h1.st 1 v (sD S) (nI p)
theorem Inv.TB {S : St} {t : Nat} (h : Inv S t) : TB S t := ⟨fun v hv => h.tl v hv, fun p hp => h.pl p hp⟩
theorem ct_X1_makeVoid {G : Gt} {l : Launch} (hst : l.stackTraces = false) {M : Mm} {x : Nat} {S : St} (hM : CAt M x S) {a p : Nat} (ea : a = pA M x p) (hp : p < sN S 2) (h3 : (sT S 3 p).length ≤ 516) (d : Int32) : Ct G l yX1_makeVoid cX1_makeVoid 2 none 6 M [rv a, .int d] 2 2080 (MtC M x (uT (uQ S p 2 (-1)) 3 p (setT (sT S 3 p) d (-1))) (none)) (noX) := by
  obtain ⟨bK, bV, bP, bN⟩ := hM.b
  have wa : PlA M a p S := by rw [ea]; exact hM.p.1 _ hp
  refine Ct_intro (own := RX1) (nm := "makeVoid") (by decide +kernel) rfl rfl hst (fun w hw => by simp only [List.mem_cons, List.not_mem_nil, or_false] at hw; rcases hw with rfl | rfl <;> first | rfl | exact rv_cat _) (Nat.le_of_ble_eq_true rfl) (fun γ hC => ?_)
  show J G γ M 0 [some (rv a), some (.int d)] [] 0 0
  refine J_aload_n hC dX1_makeVoid_0 rfl rfl ?_
  refine J_iconst hC dX1_makeVoid_1 (v := -1) (by decide) ?_
  refine J_put2_2 hC lf_X1_22 wa.tg dX1_makeVoid_2 ?_
  obtain ⟨M2, eM2⟩ : ∃ z, z = (pI M a 2 (-1)) := ⟨_, rfl⟩
  rw [← eM2]
  obtain ⟨hM2, hs2, hF2⟩ : CAt M2 x (uQ S p 2 (-1)) ∧ Sm M M2 x ∧ Fr pC M M2 := by rw [eM2]; rw [ea]; exact hM.pc hp (Or.inl rfl) (-1)
  have ea2 : a = pA M2 x p := ea.trans (hs2.p _).symm
  have wa2 : PlA M2 a p (uQ S p 2 (-1)) := by rw [ea2]; exact hM2.p.1 _ hp
  refine J_aload_n hC dX1_makeVoid_5 rfl rfl ?_
  refine J_get2 hC lf_X1_18 (j := 1) wa2.tg (v := rv (mR M2 a 1)) rfl dX1_makeVoid_6 ?_
  refine J_iload_n hC dX1_makeVoid_9 rfl rfl ?_
  refine J_iconst hC dX1_makeVoid_10 (v := -1) (by decide) ?_
  refine J_callV (k1 := 2) (n1 := 0 + (4 * (sT S 3 p).length)) (kd := 3) [.int d, .int (-1)] [.int (-1), .int d, rv (mR M2 a 1)] hC lv_X1_28 (ct_X2_set hst wa2.T1 (Nat.le_trans h3 (by decide)) d (-1)) wa2.k1 (by decide) ⟨_, mE_3 wa2.k1⟩ rfl rfl rfl (by simp only [List.map_cons, List.map_nil, rv_cat, Value.category, List.sum_cons, List.sum_nil]; decide) (by decide) rfl rfl (by decide) (by omega) dX1_makeVoid_11 (fun E M9 h => h.elim) (fun v9 M9 hq9 => ?_)
  obtain ⟨rfl, hT9, hF9⟩ := hq9
  rw [ea2] at hT9
  obtain ⟨M3, eM3⟩ : ∃ z, z = M9 := ⟨_, rfl⟩
  rw [← eM3] at hT9 hF9 ⊢
  obtain ⟨hM3, hs3, hF3⟩ : CAt M3 x (uT (uQ S p 2 (-1)) 3 p (setT (sT (uQ S p 2 (-1)) 3 p) d (-1))) ∧ Sm M2 M3 x ∧ Fr pC M2 M3 := hM2.tp hp hF9 hT9
  have ea3 : a = pA M3 x p := ea2.trans (hs3.p _).symm
  have wa3 : PlA M3 a p (uT (uQ S p 2 (-1)) 3 p (setT (sT (uQ S p 2 (-1)) 3 p) d (-1))) := by rw [ea3]; exact hM3.p.1 _ hp
  refine J_vret hC (by decide) (by omega) dX1_makeVoid_14 ?_
  exact ⟨rfl, hM3, (((Sm.rf _ _).trans hs2).trans hs3), (((Fr.rf _ _).trans hF2).trans hF3)⟩
theorem ct_X1_keepFor {G : Gt} {l : Launch} (hst : l.stackTraces = false) {M : Mm} {x : Nat} {S : St} (hM : CAt M x S) {a p : Nat} (ea : a = pA M x p) (hp : p < sN S 2) (h3 : (sT S 3 p).length ≤ 516) (k d : Int32) : Ct G l yX1_keepFor cX1_keepFor 3 none 6 M [rv a, .int k, .int d] 2 2080 (MtC M x (uT (uQ (uQ S p 2 k) p 3 d) 3 p (setT (sT S 3 p) d (-1))) (none)) (noX) := by
  obtain ⟨bK, bV, bP, bN⟩ := hM.b
  have wa : PlA M a p S := by rw [ea]; exact hM.p.1 _ hp
  refine Ct_intro (own := RX1) (nm := "keepFor") (by decide +kernel) rfl rfl hst (fun w hw => by simp only [List.mem_cons, List.not_mem_nil, or_false] at hw; rcases hw with rfl | rfl | rfl <;> first | rfl | exact rv_cat _) (Nat.le_of_ble_eq_true rfl) (fun γ hC => ?_)
  show J G γ M 0 [some (rv a), some (.int k), some (.int d)] [] 0 0
  refine J_aload_n hC dX1_keepFor_0 rfl rfl ?_
  refine J_iload_n hC dX1_keepFor_1 rfl rfl ?_
  refine J_put2_2 hC lf_X1_22 wa.tg dX1_keepFor_2 ?_
  obtain ⟨M2, eM2⟩ : ∃ z, z = (pI M a 2 k) := ⟨_, rfl⟩
  rw [← eM2]
  obtain ⟨hM2, hs2, hF2⟩ : CAt M2 x (uQ S p 2 k) ∧ Sm M M2 x ∧ Fr pC M M2 := by rw [eM2]; rw [ea]; exact hM.pc hp (Or.inl rfl) k
  have ea2 : a = pA M2 x p := ea.trans (hs2.p _).symm
  have wa2 : PlA M2 a p (uQ S p 2 k) := by rw [ea2]; exact hM2.p.1 _ hp
  refine J_aload_n hC dX1_keepFor_5 rfl rfl ?_
  refine J_iload_n hC dX1_keepFor_6 rfl rfl ?_
  refine J_put2_3 hC lf_X1_25 wa2.tg dX1_keepFor_7 ?_
  obtain ⟨M3, eM3⟩ : ∃ z, z = (pI M2 a 3 d) := ⟨_, rfl⟩
  rw [← eM3]
  obtain ⟨hM3, hs3, hF3⟩ : CAt M3 x (uQ (uQ S p 2 k) p 3 d) ∧ Sm M2 M3 x ∧ Fr pC M2 M3 := by rw [eM3]; rw [ea2]; exact hM2.pc hp (Or.inr rfl) d
  have ea3 : a = pA M3 x p := ea2.trans (hs3.p _).symm
  have wa3 : PlA M3 a p (uQ (uQ S p 2 k) p 3 d) := by rw [ea3]; exact hM3.p.1 _ hp
  refine J_aload_n hC dX1_keepFor_10 rfl rfl ?_
  refine J_get2 hC lf_X1_18 (j := 1) wa3.tg (v := rv (mR M3 a 1)) rfl dX1_keepFor_11 ?_
  refine J_iload_n hC dX1_keepFor_14 rfl rfl ?_
  refine J_iconst hC dX1_keepFor_15 (v := -1) (by decide) ?_
  refine J_callV (k1 := 2) (n1 := 0 + (4 * (sT S 3 p).length)) (kd := 3) [.int d, .int (-1)] [.int (-1), .int d, rv (mR M3 a 1)] hC lv_X1_28 (ct_X2_set hst wa3.T1 (Nat.le_trans h3 (by decide)) d (-1)) wa3.k1 (by decide) ⟨_, mE_3 wa3.k1⟩ rfl rfl rfl (by simp only [List.map_cons, List.map_nil, rv_cat, Value.category, List.sum_cons, List.sum_nil]; decide) (by decide) rfl rfl (by decide) (by omega) dX1_keepFor_16 (fun E M9 h => h.elim) (fun v9 M9 hq9 => ?_)
  obtain ⟨rfl, hT9, hF9⟩ := hq9
  rw [ea3] at hT9
  obtain ⟨M4, eM4⟩ : ∃ z, z = M9 := ⟨_, rfl⟩
  rw [← eM4] at hT9 hF9 ⊢
  obtain ⟨hM4, hs4, hF4⟩ : CAt M4 x (uT (uQ (uQ S p 2 k) p 3 d) 3 p (setT (sT (uQ (uQ S p 2 k) p 3 d) 3 p) d (-1))) ∧ Sm M3 M4 x ∧ Fr pC M3 M4 := hM3.tp hp hF9 hT9
  have ea4 : a = pA M4 x p := ea3.trans (hs4.p _).symm
  have wa4 : PlA M4 a p (uT (uQ (uQ S p 2 k) p 3 d) 3 p (setT (sT (uQ (uQ S p 2 k) p 3 d) 3 p) d (-1))) := by rw [ea4]; exact hM4.p.1 _ hp
  refine J_vret hC (by decide) (by omega) dX1_keepFor_19 ?_
  exact ⟨rfl, hM4, ((((Sm.rf _ _).trans hs2).trans hs3).trans hs4), ((((Fr.rf _ _).trans hF2).trans hF3).trans hF4)⟩
theorem ct_X4_mount {G : Gt} {l : Launch} (hst : l.stackTraces = false) {M : Mm} {x : Nat} {S : St} (hM : CAt M x S) {a b p i : Nat} (ea : a = pA M x p) (eb : b = vA M x i) (hp : p < sN S 2) (hi : i < sN S 1) (hB : TB S 516) : Ct G l yX4_mount cX4_mount 3 none 6 M [rv x, rv a, rv b] 4 4160 (MtC M x (mountQ S p i) (none)) (noX) := by
  obtain ⟨bK, bV, bP, bN⟩ := hM.b
  have wa : PlA M a p S := by rw [ea]; exact hM.p.1 _ hp
  have wb : VeA M b i S := by rw [eb]; exact hM.v.1 _ hi
  have h3 := hB.p hp
  have h1 := hB.v1 hi
  refine Ct_intro (own := RX4) (nm := "mount") (by decide +kernel) rfl rfl hst (fun w hw => by simp only [List.mem_cons, List.not_mem_nil, or_false] at hw; rcases hw with rfl | rfl | rfl <;> first | rfl | exact rv_cat _) (Nat.le_of_ble_eq_true rfl) (fun γ hC => ?_)
  show J G γ M 0 [some (rv x), some (rv a), some (rv b)] [] 0 0
  refine J_aload_n hC dX4_mount_0 rfl rfl ?_
  refine J_iconst hC dX4_mount_1 (v := -1) (by decide) ?_
  refine J_put2_2 hC lf_X4_255 wa.tg dX4_mount_2 ?_
  obtain ⟨M2, eM2⟩ : ∃ z, z = (pI M a 2 (-1)) := ⟨_, rfl⟩
  rw [← eM2]
  obtain ⟨hM2, hs2, hF2⟩ : CAt M2 x (uQ S p 2 (-1)) ∧ Sm M M2 x ∧ Fr pC M M2 := by rw [eM2]; rw [ea]; exact hM.pc hp (Or.inl rfl) (-1)
  have ea2 : a = pA M2 x p := ea.trans (hs2.p _).symm
  have wa2 : PlA M2 a p (uQ S p 2 (-1)) := by rw [ea2]; exact hM2.p.1 _ hp
  have eb2 : b = vA M2 x i := eb.trans (hs2.v _).symm
  have wb2 : VeA M2 b i (uQ S p 2 (-1)) := by rw [eb2]; exact hM2.v.1 _ hi
  refine J_aload_n hC dX4_mount_5 rfl rfl ?_
  refine J_get2 hC lf_X4_265 (j := 1) wa2.tg (v := rv (mR M2 a 1)) rfl dX4_mount_6 ?_
  refine J_aload_n hC dX4_mount_9 rfl rfl ?_
  refine J_get5 hC lf_X4_48 (j := 10) hM2.tx (v := .int (sD (uQ S p 2 (-1)))) (congrArg (fun z => some (Value.int z)) hM2.c10) dX4_mount_10 ?_
  refine J_aload_n hC dX4_mount_13 rfl rfl ?_
  refine J_get4 hC lf_X4_78 (j := 0) wb2.tg (v := .int (nI i)) (congrArg (fun z => some (Value.int z)) wb2.v0) dX4_mount_14 ?_
  refine J_callV (k1 := 2) (n1 := 0 + (4 * (sT S 3 p).length)) (kd := 3) [.int (sD (uQ S p 2 (-1))), .int (nI i)] [.int (nI i), .int (sD (uQ S p 2 (-1))), rv (mR M2 a 1)] hC lv_X4_121 (ct_X2_set hst wa2.T1 (Nat.le_trans h3 (by decide)) (sD (uQ S p 2 (-1))) (nI i)) wa2.k1 (by decide) ⟨_, mE_3 wa2.k1⟩ rfl rfl rfl (by simp only [List.map_cons, List.map_nil, rv_cat, Value.category, List.sum_cons, List.sum_nil]; decide) (by decide) rfl rfl (by decide) (by omega) dX4_mount_17 (fun E M9 h => h.elim) (fun v9 M9 hq9 => ?_)
  obtain ⟨rfl, hT9, hF9⟩ := hq9
  rw [ea2] at hT9
  obtain ⟨M3, eM3⟩ : ∃ z, z = M9 := ⟨_, rfl⟩
  rw [← eM3] at hT9 hF9 ⊢
  obtain ⟨hM3, hs3, hF3⟩ : CAt M3 x (uT (uQ S p 2 (-1)) 3 p (setT (sT (uQ S p 2 (-1)) 3 p) (sD (uQ S p 2 (-1))) (nI i))) ∧ Sm M2 M3 x ∧ Fr pC M2 M3 := hM2.tp hp hF9 hT9
  have ea3 : a = pA M3 x p := ea2.trans (hs3.p _).symm
  have wa3 : PlA M3 a p (uT (uQ S p 2 (-1)) 3 p (setT (sT (uQ S p 2 (-1)) 3 p) (sD (uQ S p 2 (-1))) (nI i))) := by rw [ea3]; exact hM3.p.1 _ hp
  have eb3 : b = vA M3 x i := eb2.trans (hs3.v _).symm
  have wb3 : VeA M3 b i (uT (uQ S p 2 (-1)) 3 p (setT (sT (uQ S p 2 (-1)) 3 p) (sD (uQ S p 2 (-1))) (nI i))) := by rw [eb3]; exact hM3.v.1 _ hi
  refine J_aload_n hC dX4_mount_20 rfl rfl ?_
  refine J_get4 hC lf_X4_99 (j := 3) wb3.tg (v := rv (mR M3 b 3)) rfl dX4_mount_21 ?_
  refine J_aload_n hC dX4_mount_24 rfl rfl ?_
  refine J_get5 hC lf_X4_48 (j := 10) hM3.tx (v := .int (sD (uT (uQ S p 2 (-1)) 3 p (setT (sT (uQ S p 2 (-1)) 3 p) (sD (uQ S p 2 (-1))) (nI i))))) (congrArg (fun z => some (Value.int z)) hM3.c10) dX4_mount_25 ?_
  refine J_aload_n hC dX4_mount_28 rfl rfl ?_
  refine J_get2 hC lf_X4_247 (j := 0) wa3.tg (v := .int (nI p)) (congrArg (fun z => some (Value.int z)) wa3.v0) dX4_mount_29 ?_
  refine J_callV (k1 := 4) (n1 := (0 + (4 * (sT S 3 p).length)) + (4 * (sT S 1 i).length)) (kd := 3) [.int (sD (uT (uQ S p 2 (-1)) 3 p (setT (sT (uQ S p 2 (-1)) 3 p) (sD (uQ S p 2 (-1))) (nI i)))), .int (nI p)] [.int (nI p), .int (sD (uT (uQ S p 2 (-1)) 3 p (setT (sT (uQ S p 2 (-1)) 3 p) (sD (uQ S p 2 (-1))) (nI i)))), rv (mR M3 b 3)] hC lv_X4_121 (ct_X2_set hst wb3.T3 (Nat.le_trans h1 (by decide)) (sD (uT (uQ S p 2 (-1)) 3 p (setT (sT (uQ S p 2 (-1)) 3 p) (sD (uQ S p 2 (-1))) (nI i)))) (nI p)) wb3.k3 (by decide) ⟨_, mE_3 wb3.k3⟩ rfl rfl rfl (by simp only [List.map_cons, List.map_nil, rv_cat, Value.category, List.sum_cons, List.sum_nil]; decide) (by decide) rfl rfl (by decide) (by omega) dX4_mount_32 (fun E M9 h => h.elim) (fun v9 M9 hq9 => ?_)
  obtain ⟨rfl, hT9, hF9⟩ := hq9
  rw [eb3] at hT9
  obtain ⟨M4, eM4⟩ : ∃ z, z = M9 := ⟨_, rfl⟩
  rw [← eM4] at hT9 hF9 ⊢
  obtain ⟨hM4, hs4, hF4⟩ : CAt M4 x (uT (uT (uQ S p 2 (-1)) 3 p (setT (sT (uQ S p 2 (-1)) 3 p) (sD (uQ S p 2 (-1))) (nI i))) 1 i (setT (sT (uT (uQ S p 2 (-1)) 3 p (setT (sT (uQ S p 2 (-1)) 3 p) (sD (uQ S p 2 (-1))) (nI i))) 1 i) (sD (uT (uQ S p 2 (-1)) 3 p (setT (sT (uQ S p 2 (-1)) 3 p) (sD (uQ S p 2 (-1))) (nI i)))) (nI p))) ∧ Sm M3 M4 x ∧ Fr pC M3 M4 := hM3.tv hi (r := 1) (by decide) hF9 hT9
  have ea4 : a = pA M4 x p := ea3.trans (hs4.p _).symm
  have wa4 : PlA M4 a p (uT (uT (uQ S p 2 (-1)) 3 p (setT (sT (uQ S p 2 (-1)) 3 p) (sD (uQ S p 2 (-1))) (nI i))) 1 i (setT (sT (uT (uQ S p 2 (-1)) 3 p (setT (sT (uQ S p 2 (-1)) 3 p) (sD (uQ S p 2 (-1))) (nI i))) 1 i) (sD (uT (uQ S p 2 (-1)) 3 p (setT (sT (uQ S p 2 (-1)) 3 p) (sD (uQ S p 2 (-1))) (nI i)))) (nI p))) := by rw [ea4]; exact hM4.p.1 _ hp
  have eb4 : b = vA M4 x i := eb3.trans (hs4.v _).symm
  have wb4 : VeA M4 b i (uT (uT (uQ S p 2 (-1)) 3 p (setT (sT (uQ S p 2 (-1)) 3 p) (sD (uQ S p 2 (-1))) (nI i))) 1 i (setT (sT (uT (uQ S p 2 (-1)) 3 p (setT (sT (uQ S p 2 (-1)) 3 p) (sD (uQ S p 2 (-1))) (nI i))) 1 i) (sD (uT (uQ S p 2 (-1)) 3 p (setT (sT (uQ S p 2 (-1)) 3 p) (sD (uQ S p 2 (-1))) (nI i)))) (nI p))) := by rw [eb4]; exact hM4.v.1 _ hi
  refine J_vret hC (by decide) (by omega) dX4_mount_35 ?_
  exact ⟨rfl, hM4, ((((Sm.rf _ _).trans hs2).trans hs3).trans hs4), ((((Fr.rf _ _).trans hF2).trans hF3).trans hF4)⟩
