/-! notices -/
theorem len_pass {S : St} {v : Nat} : ∀ {n : Nat}, v < n → (sT S 0 v).length ≤ passN S n
  | 0, h => absurd h (Nat.not_lt_zero _)
  | n + 1, h => by
    unfold passN
    by_cases e : v = n
    · subst e; omega
    · have := len_pass (S := S) (v := v) (n := n) (by omega)
      omega
theorem Inv.lk75 {S : St} {t v : Nat} (h : Inv S t) (hv : v < sN S 1) : (sT S 0 v).length ≤ 75 := by
  have h1 := len_pass (S := S) hv
  have h2 := h.pb
  omega
theorem ct_X4_use {G : Gt} {l : Launch} (hst : l.stackTraces = false) {M : Mm} {x : Nat} {S : St} (hM : CAt M x S) {a b v s q i : Nat} (ea : a = nA M x s) (eb : b = nA M x q) (ev : v = vA M x i) (hs : s < sN S 3) (hq : q < sN S 3) (hi : i < sN S 1) (hlk : (sT S 0 i).length ≤ 1000) : Ct G l yX4_use cX4_use 3 none 5 M [rv a, rv b, rv v] 2 (4 * (sT S 0 i).length) (MtC M x (useQ S i s q) (none)) (noX) := by
  obtain ⟨bK, bV, bP, bN⟩ := hM.b
  have wa : NtA M a s S := by rw [ea]; exact hM.o.1 _ hs
  have wb : NtA M b q S := by rw [eb]; exact hM.o.1 _ hq
  have wv : VeA M v i S := by rw [ev]; exact hM.v.1 _ hi
  refine Ct_intro (own := RX4) (nm := "use") (by decide +kernel) rfl rfl hst (fun w hw => by simp only [List.mem_cons, List.not_mem_nil, or_false] at hw; rcases hw with rfl | rfl | rfl <;> first | rfl | exact rv_cat _) (Nat.le_of_ble_eq_true rfl) (fun γ hC => ?_)
  show J G γ M 0 [some (rv a), some (rv b), some (rv v)] [] 0 0
  refine J_aload_n hC dX4_use_0 rfl rfl ?_
  refine J_bipush hC dX4_use_1 (v := 117) (by decide) ?_
  refine J_put1_5 hC lf_X4_165 wa.tg (by decide) (by decide) dX4_use_3 ?_
  obtain ⟨M2, eM2⟩ : ∃ z, z = (pI M a 5 117) := ⟨_, rfl⟩
  rw [← eM2]
  obtain ⟨hM2, hs2, hF2⟩ : CAt M2 x (uO S s 5 117) ∧ Sm M M2 x ∧ Fr pC M M2 := by rw [eM2]; rw [ea]; exact hM.oc hs (by decide) 117
  have ea2 : a = nA M2 x s := ea.trans (hs2.n _).symm
  have wa2 : NtA M2 a s (uO S s 5 117) := by rw [ea2]; exact hM2.o.1 _ hs
  have eb2 : b = nA M2 x q := eb.trans (hs2.n _).symm
  have wb2 : NtA M2 b q (uO S s 5 117) := by rw [eb2]; exact hM2.o.1 _ hq
  have ev2 : v = vA M2 x i := ev.trans (hs2.v _).symm
  have wv2 : VeA M2 v i (uO S s 5 117) := by rw [ev2]; exact hM2.v.1 _ hi
  refine J_aload_n hC dX4_use_6 rfl rfl ?_
  refine J_aload_n hC dX4_use_7 rfl rfl ?_
  refine J_get1 hC lf_X4_368 (j := 0) wb2.tg (v := .int (nI q)) (congrArg (fun z => some (Value.int z)) wb2.v0) dX4_use_8 ?_
  refine J_put1_6 hC lf_X4_175 wa2.tg dX4_use_11 ?_
  obtain ⟨M3, eM3⟩ : ∃ z, z = (pI M2 a 6 (nI q)) := ⟨_, rfl⟩
  rw [← eM3]
  obtain ⟨hM3, hs3, hF3⟩ : CAt M3 x (uO (uO S s 5 117) s 6 (nI q)) ∧ Sm M2 M3 x ∧ Fr pC M2 M3 := by rw [eM3]; rw [ea2]; exact hM2.oc hs (by decide) (nI q)
  have ea3 : a = nA M3 x s := ea2.trans (hs3.n _).symm
  have wa3 : NtA M3 a s (uO (uO S s 5 117) s 6 (nI q)) := by rw [ea3]; exact hM3.o.1 _ hs
  have eb3 : b = nA M3 x q := eb2.trans (hs3.n _).symm
  have wb3 : NtA M3 b q (uO (uO S s 5 117) s 6 (nI q)) := by rw [eb3]; exact hM3.o.1 _ hq
  have ev3 : v = vA M3 x i := ev2.trans (hs3.v _).symm
  have wv3 : VeA M3 v i (uO (uO S s 5 117) s 6 (nI q)) := by rw [ev3]; exact hM3.v.1 _ hi
  refine J_aload_n hC dX4_use_14 rfl rfl ?_
  refine J_bipush hC dX4_use_15 (v := 117) (by decide) ?_
  refine J_put1_5 hC lf_X4_165 wb3.tg (by decide) (by decide) dX4_use_17 ?_
  obtain ⟨M4, eM4⟩ : ∃ z, z = (pI M3 b 5 117) := ⟨_, rfl⟩
  rw [← eM4]
  obtain ⟨hM4, hs4, hF4⟩ : CAt M4 x (uO (uO (uO S s 5 117) s 6 (nI q)) q 5 117) ∧ Sm M3 M4 x ∧ Fr pC M3 M4 := by rw [eM4]; rw [eb3]; exact hM3.oc hq (by decide) 117
  have ea4 : a = nA M4 x s := ea3.trans (hs4.n _).symm
  have wa4 : NtA M4 a s (uO (uO (uO S s 5 117) s 6 (nI q)) q 5 117) := by rw [ea4]; exact hM4.o.1 _ hs
  have eb4 : b = nA M4 x q := eb3.trans (hs4.n _).symm
  have wb4 : NtA M4 b q (uO (uO (uO S s 5 117) s 6 (nI q)) q 5 117) := by rw [eb4]; exact hM4.o.1 _ hq
  have ev4 : v = vA M4 x i := ev3.trans (hs4.v _).symm
  have wv4 : VeA M4 v i (uO (uO (uO S s 5 117) s 6 (nI q)) q 5 117) := by rw [ev4]; exact hM4.v.1 _ hi
  refine J_aload_n hC dX4_use_20 rfl rfl ?_
  refine J_aload_n hC dX4_use_21 rfl rfl ?_
  refine J_get1 hC lf_X4_368 (j := 0) wa4.tg (v := .int (nI s)) (congrArg (fun z => some (Value.int z)) wa4.v0) dX4_use_22 ?_
  refine J_put1_6 hC lf_X4_175 wb4.tg dX4_use_25 ?_
  obtain ⟨M5, eM5⟩ : ∃ z, z = (pI M4 b 6 (nI s)) := ⟨_, rfl⟩
  rw [← eM5]
  obtain ⟨hM5, hs5, hF5⟩ : CAt M5 x (uO (uO (uO (uO S s 5 117) s 6 (nI q)) q 5 117) q 6 (nI s)) ∧ Sm M4 M5 x ∧ Fr pC M4 M5 := by rw [eM5]; rw [eb4]; exact hM4.oc hq (by decide) (nI s)
  have ea5 : a = nA M5 x s := ea4.trans (hs5.n _).symm
  have wa5 : NtA M5 a s (uO (uO (uO (uO S s 5 117) s 6 (nI q)) q 5 117) q 6 (nI s)) := by rw [ea5]; exact hM5.o.1 _ hs
  have eb5 : b = nA M5 x q := eb4.trans (hs5.n _).symm
  have wb5 : NtA M5 b q (uO (uO (uO (uO S s 5 117) s 6 (nI q)) q 5 117) q 6 (nI s)) := by rw [eb5]; exact hM5.o.1 _ hq
  have ev5 : v = vA M5 x i := ev4.trans (hs5.v _).symm
  have wv5 : VeA M5 v i (uO (uO (uO (uO S s 5 117) s 6 (nI q)) q 5 117) q 6 (nI s)) := by rw [ev5]; exact hM5.v.1 _ hi
  refine J_aload_n hC dX4_use_28 rfl rfl ?_
  refine J_get4 hC lf_X4_182 (j := 2) wv5.tg (v := rv (mR M5 v 2)) rfl dX4_use_29 ?_
  refine J_aload_n hC dX4_use_32 rfl rfl ?_
  refine J_get1 hC lf_X4_388 (j := 4) wa5.tg (v := .int (sO (uO (uO (uO (uO S s 5 117) s 6 (nI q)) q 5 117) q 6 (nI s)) s 4)) (congrArg (fun z => some (Value.int z)) wa5.v4) dX4_use_33 ?_
  refine J_aload_n hC dX4_use_36 rfl rfl ?_
  refine J_get1 hC lf_X4_397 (j := 3) wa5.tg (v := .int (sO (uO (uO (uO (uO S s 5 117) s 6 (nI q)) q 5 117) q 6 (nI s)) s 3)) (congrArg (fun z => some (Value.int z)) wa5.v3) dX4_use_37 ?_
  refine J_callV (k1 := 2) (n1 := 0 + (4 * (sT S 0 i).length)) (kd := 3) [.int (sO (uO (uO (uO (uO S s 5 117) s 6 (nI q)) q 5 117) q 6 (nI s)) s 4), .int (sO (uO (uO (uO (uO S s 5 117) s 6 (nI q)) q 5 117) q 6 (nI s)) s 3)] [.int (sO (uO (uO (uO (uO S s 5 117) s 6 (nI q)) q 5 117) q 6 (nI s)) s 3), .int (sO (uO (uO (uO (uO S s 5 117) s 6 (nI q)) q 5 117) q 6 (nI s)) s 4), rv (mR M5 v 2)] hC lv_X4_357 (ct_X2_append hst wv5.T2 (Nat.le_trans hlk (by decide)) (sO (uO (uO (uO (uO S s 5 117) s 6 (nI q)) q 5 117) q 6 (nI s)) s 4) (sO (uO (uO (uO (uO S s 5 117) s 6 (nI q)) q 5 117) q 6 (nI s)) s 3)) wv5.k2 (by decide) ⟨_, mE_3 wv5.k2⟩ rfl rfl rfl (by simp only [List.map_cons, List.map_nil, rv_cat, Value.category, List.sum_cons, List.sum_nil]; decide) (by decide) rfl rfl (by decide) (by omega) dX4_use_40 (fun E M9 h => h.elim) (fun v9 M9 hq9 => ?_)
  obtain ⟨rfl, hT9, hF9⟩ := hq9
  rw [ev5] at hT9
  obtain ⟨M6, eM6⟩ : ∃ z, z = M9 := ⟨_, rfl⟩
  rw [← eM6] at hT9 hF9 ⊢
  obtain ⟨hM6, hs6, hF6⟩ : CAt M6 x (uT (uO (uO (uO (uO S s 5 117) s 6 (nI q)) q 5 117) q 6 (nI s)) 0 i (sT (uO (uO (uO (uO S s 5 117) s 6 (nI q)) q 5 117) q 6 (nI s)) 0 i ++ [(sO (uO (uO (uO (uO S s 5 117) s 6 (nI q)) q 5 117) q 6 (nI s)) s 4, sO (uO (uO (uO (uO S s 5 117) s 6 (nI q)) q 5 117) q 6 (nI s)) s 3)])) ∧ Sm M5 M6 x ∧ Fr pC M5 M6 := hM5.tv hi (r := 0) (by decide) hF9 hT9
  have ea6 : a = nA M6 x s := ea5.trans (hs6.n _).symm
  have wa6 : NtA M6 a s (uT (uO (uO (uO (uO S s 5 117) s 6 (nI q)) q 5 117) q 6 (nI s)) 0 i (sT (uO (uO (uO (uO S s 5 117) s 6 (nI q)) q 5 117) q 6 (nI s)) 0 i ++ [(sO (uO (uO (uO (uO S s 5 117) s 6 (nI q)) q 5 117) q 6 (nI s)) s 4, sO (uO (uO (uO (uO S s 5 117) s 6 (nI q)) q 5 117) q 6 (nI s)) s 3)])) := by rw [ea6]; exact hM6.o.1 _ hs
  have eb6 : b = nA M6 x q := eb5.trans (hs6.n _).symm
  have wb6 : NtA M6 b q (uT (uO (uO (uO (uO S s 5 117) s 6 (nI q)) q 5 117) q 6 (nI s)) 0 i (sT (uO (uO (uO (uO S s 5 117) s 6 (nI q)) q 5 117) q 6 (nI s)) 0 i ++ [(sO (uO (uO (uO (uO S s 5 117) s 6 (nI q)) q 5 117) q 6 (nI s)) s 4, sO (uO (uO (uO (uO S s 5 117) s 6 (nI q)) q 5 117) q 6 (nI s)) s 3)])) := by rw [eb6]; exact hM6.o.1 _ hq
  have ev6 : v = vA M6 x i := ev5.trans (hs6.v _).symm
  have wv6 : VeA M6 v i (uT (uO (uO (uO (uO S s 5 117) s 6 (nI q)) q 5 117) q 6 (nI s)) 0 i (sT (uO (uO (uO (uO S s 5 117) s 6 (nI q)) q 5 117) q 6 (nI s)) 0 i ++ [(sO (uO (uO (uO (uO S s 5 117) s 6 (nI q)) q 5 117) q 6 (nI s)) s 4, sO (uO (uO (uO (uO S s 5 117) s 6 (nI q)) q 5 117) q 6 (nI s)) s 3)])) := by rw [ev6]; exact hM6.v.1 _ hi
  refine J_vret hC (by decide) (by omega) dX4_use_43 ?_
  exact ⟨rfl, hM6, ((((((Sm.rf _ _).trans hs2).trans hs3).trans hs4).trans hs5).trans hs6), ((((((Fr.rf _ _).trans hF2).trans hF3).trans hF4).trans hF5).trans hF6)⟩
theorem ct_X4_maySell {G : Gt} {l : Launch} (hst : l.stackTraces = false) {M : Mm} {a b i n9 : Nat} {S : St} (hV : VeA M a i S) (hO : NtA M b n9 S) : Ct G l yX4_maySell cX4_maySell 2 (some .boolean) 3 M [rv a, rv b] 0 0 (PQ M (.int (bz (fitS S i n9)))) (noX) := by
  refine Ct_intro (own := RX4) (nm := "maySell") (by decide +kernel) rfl rfl hst (fun w hw => by simp only [List.mem_cons, List.not_mem_nil, or_false] at hw; rcases hw with rfl | rfl <;> first | rfl | exact rv_cat _) (Nat.le_of_ble_eq_true rfl) (fun γ hC => ?_)
  show J G γ M 0 [some (rv a), some (rv b)] [] 0 0
  refine J_aload_n hC dX4_maySell_0 rfl rfl ?_
  refine J_aload_n hC dX4_maySell_1 rfl rfl ?_
  refine J_get4 hC lf_X4_78 (j := 0) hV.tg (v := .int (nI i)) (congrArg (fun z => some (Value.int z)) hV.v0) dX4_maySell_2 ?_
  refine J_callV (k1 := 0) (n1 := 0) (kd := 1) [.int (nI i)] [.int (nI i), rv b] hC lv_X4_178 (ct_X0_isOpenFor hst hO (nI i)) hO.tg (by decide) ⟨_, mE_1 hO.tg⟩ rfl rfl rfl (by simp only [List.map_cons, List.map_nil, rv_cat, Value.category, List.sum_cons, List.sum_nil]; decide) (by decide) rfl rfl (by decide) (by decide) dX4_maySell_5 (fun E M9 h => h.elim) (fun v9 M9 hq9 => ?_)
  obtain ⟨rfl, e9⟩ := hq9
  rw [e9]; clear e9
  refine J_if_eq hC dX4_maySell_8 (tgt := 43) (by decide) (fun c8 => ?_) (fun c8 => ?_)
  · have b8 : (decide (sO S n9 5 = 111) && decide (sO S n9 2 = nI i)) = false := bz_eq0 c8
    refine J_iconst hC dX4_maySell_43 (v := 0) (by decide) ?_
    refine J_zret hC (by decide) (by decide) (by decide) dX4_maySell_44 ?_
    refine ⟨?_, rfl⟩
    unfold fitS
    first
    | (rw [b8]; rfl)
    | (rw [decide_eq_false c22, Bool.and_false, Bool.false_and]; rfl)
    | (rw [decide_eq_false (i_nle c36), Bool.and_false]; rfl)
  · have b8 : (decide (sO S n9 5 = 111) && decide (sO S n9 2 = nI i)) = true := bz_ne0 c8
    refine J_aload_n hC dX4_maySell_11 rfl rfl ?_
    refine J_get1 hC lf_X4_385 (j := 1) hO.tg (v := .int (sO S n9 1)) (congrArg (fun z => some (Value.int z)) hO.v1) dX4_maySell_12 ?_
    refine J_aload_n hC dX4_maySell_15 rfl rfl ?_
    refine J_get4 hC lf_X4_182 (j := 2) hV.tg (v := rv (mR M a 2)) rfl dX4_maySell_16 ?_
    refine J_callV (k1 := 0) (n1 := 0) (kd := 3) [] [rv (mR M a 2), .int (sO S n9 1)] hC lv_X4_103 (ct_X2_lastValue hst hV.T2) hV.k2 (by decide) ⟨_, mE_3 hV.k2⟩ rfl rfl rfl (by simp only [List.map_cons, List.map_nil, rv_cat, Value.category, List.sum_cons, List.sum_nil]; decide) (by decide) rfl rfl (by decide) (by decide) dX4_maySell_19 (fun E M9 h => h.elim) (fun v9 M9 hq9 => ?_)
    obtain ⟨rfl, e9⟩ := hq9
    rw [e9]; clear e9
    refine J_icmp_ne hC dX4_maySell_22 (tgt := 43) (by decide) (fun c22 => ?_) (fun c22 => ?_)
    · refine J_iconst hC dX4_maySell_43 (v := 0) (by decide) ?_
      refine J_zret hC (by decide) (by decide) (by decide) dX4_maySell_44 ?_
      refine ⟨?_, rfl⟩
      unfold fitS
      first
      | (rw [b8]; rfl)
      | (rw [decide_eq_false c22, Bool.and_false, Bool.false_and]; rfl)
      | (rw [decide_eq_false (i_nle c36), Bool.and_false]; rfl)
    · refine J_aload_n hC dX4_maySell_25 rfl rfl ?_
      refine J_get1 hC lf_X4_388 (j := 4) hO.tg (v := .int (sO S n9 4)) (congrArg (fun z => some (Value.int z)) hO.v4) dX4_maySell_26 ?_
      refine J_aload_n hC dX4_maySell_29 rfl rfl ?_
      refine J_get4 hC lf_X4_182 (j := 2) hV.tg (v := rv (mR M a 2)) rfl dX4_maySell_30 ?_
      refine J_callV (k1 := 0) (n1 := 0) (kd := 3) [] [rv (mR M a 2), .int (sO S n9 4)] hC lv_X4_391 (ct_X2_lastDay hst hV.T2) hV.k2 (by decide) ⟨_, mE_3 hV.k2⟩ rfl rfl rfl (by simp only [List.map_cons, List.map_nil, rv_cat, Value.category, List.sum_cons, List.sum_nil]; decide) (by decide) rfl rfl (by decide) (by decide) dX4_maySell_33 (fun E M9 h => h.elim) (fun v9 M9 hq9 => ?_)
      obtain ⟨rfl, e9⟩ := hq9
      rw [e9]; clear e9
      refine J_icmp_lt hC dX4_maySell_36 (tgt := 43) (by decide) (fun c36 => ?_) (fun c36 => ?_)
      · refine J_iconst hC dX4_maySell_43 (v := 0) (by decide) ?_
        refine J_zret hC (by decide) (by decide) (by decide) dX4_maySell_44 ?_
        refine ⟨?_, rfl⟩
        unfold fitS
        first
        | (rw [b8]; rfl)
        | (rw [decide_eq_false c22, Bool.and_false, Bool.false_and]; rfl)
        | (rw [decide_eq_false (i_nle c36), Bool.and_false]; rfl)
      · refine J_iconst hC dX4_maySell_39 (v := 1) (by decide) ?_
        refine J_goto hC dX4_maySell_40 (tgt := 44) (by decide) ?_
        refine J_zret hC (by decide) (by decide) (by decide) dX4_maySell_44 ?_
        refine ⟨?_, rfl⟩
        unfold fitS
        rw [b8, decide_eq_true (nn c22), decide_eq_true (i_nlt c36)]; rfl
theorem abs_near {a b : Int32} (ha : 0 ≤ a.toInt ∧ a.toInt ≤ 3000) (hb : 0 ≤ b.toInt ∧ b.toInt ≤ 3000) : (if 0 ≤ a - b then a - b else 0 - (a - b)) ≤ 7 ↔ near a b = true := by
  have h0 : (0 : Int32).toInt = 0 := by decide
  have h7 : (7 : Int32).toInt = 7 := by decide
  have hm : (-7 : Int32).toInt = -7 := by decide
  have h1 := i_sub (a := a) (b := b) (by omega) (by omega)
  have h2 := i_sub (a := 0) (b := a - b) (by rw [h0, h1]; omega) (by rw [h0, h1]; omega)
  unfold near
  rw [decide_eq_true_iff]
  by_cases g : 0 ≤ a - b
  · rw [if_pos g]
    rw [i_le, h0, h1] at g
    rw [i_le, i_le, h7, hm, h1]; omega
  · rw [if_neg g]
    rw [i_le, h0, h1] at g
    rw [i_le, i_le, i_le, h7, hm, h2, h1, h0]; omega
theorem Inv.od {S : St} {t n : Nat} (h : Inv S t) (hn : n < sN S 3) : 0 ≤ (sO S n 4).toInt ∧ (sO S n 4).toInt ≤ 3000 := by
  have h1 := h.n4 n hn
  have h2 := h.bD
  have h0 : (0 : Int32).toInt = 0 := by decide
  rw [i_le, i_le, h0] at h1
  omega
/-- the first notice that fits, or null -/
def byN (M : Mm) (x : Nat) (S : St) (s : Nat) : Nat := match buyerOf S s with
  | none => 0
  | some b => nA M x b
theorem byN_none {M : Mm} {x : Nat} {S : St} {s : Nat} (h : buyerOf S s = none) : byN M x S s = 0 := by unfold byN; rw [h]
theorem byN_some {M : Mm} {x : Nat} {S : St} {s b : Nat} (h : buyerOf S s = some b) : byN M x S s = nA M x b := by unfold byN; rw [h]
theorem CAt.by0 {M : Mm} {x : Nat} {S : St} (hM : CAt M x S) (h0 : (mT M 0).1 = 0) {s : Nat} (h : byN M x S s = 0) : buyerOf S s = none := by
  cases e : buyerOf S s with
  | none => rfl
  | some b =>
    rw [byN_some e] at h
    exact absurd h (nz h0 ((hM.o.1 _ (fst1_some e).1).tg))
theorem by1 {M : Mm} {x : Nat} {S : St} {s : Nat} (h : ¬ byN M x S s = 0) : ∃ b, buyerOf S s = some b ∧ b < sN S 3 ∧ fitB S s b = true ∧ byN M x S s = nA M x b := by
  cases e : buyerOf S s with
  | none => exact absurd (byN_none e) h
  | some b => exact ⟨b, rfl, (fst1_some e).1, (fst1_some e).2.1, byN_some e⟩
theorem ct_X4_buyerFor {G : Gt} {l : Launch} (hst : l.stackTraces = false) {M : Mm} {x : Nat} {S : St} {t : Nat} (hM : CAt M x S) (hI : Inv S t) {a s : Nat} (hs : s < sN S 3) (hO : NtA M a s S) : Ct G l yX4_buyerFor cX4_buyerFor 6 (some (.object "PlateRegister$Notice")) 2 M [rv x, rv a] 0 0 (PQ M (rv (byN M x S s))) (noX) := by
  obtain ⟨bK, bV, bP, bN⟩ := hM.b
  refine Ct_intro (own := RX4) (nm := "buyerFor") (by decide +kernel) rfl rfl hst (fun w hw => by simp only [List.mem_cons, List.not_mem_nil, or_false] at hw; rcases hw with rfl | rfl <;> first | rfl | exact rv_cat _) (Nat.le_of_ble_eq_true rfl) (fun γ hC => ?_)
  show J G γ M 0 [some (rv x), some (rv a)] [] 0 0
  refine J_t0 (fun ht0 => ?_)
  refine J_aload_n hC dX4_buyerFor_0 rfl rfl ?_
  refine J_get5 hC lf_X4_23 (j := 2) hM.tx (v := rv (mR M x 2)) rfl dX4_buyerFor_1 ?_
  refine J_astore_n hC dX4_buyerFor_4 rfl (by decide) (ls1 := [some (rv x), some (rv a), some (rv (mR M x 2))]) rfl ?_
  refine J_aload_n hC dX4_buyerFor_5 rfl rfl ?_
  refine J_alen11 hC hM.tk2 dX4_buyerFor_6 ?_
  rw [hM.lk2]
  refine J_istore_n hC dX4_buyerFor_7 rfl (by decide) (ls1 := [some (rv x), some (rv a), some (rv (mR M x 2)), some (.int (nI 120))]) rfl ?_
  refine J_iconst hC dX4_buyerFor_8 (v := 0) (by decide) ?_
  refine J_istore hC dX4_buyerFor_9 (by decide) (ls1 := [some (rv x), some (rv a), some (rv (mR M x 2)), some (.int (nI 120)), some (.int 0)]) rfl ?_
  have L11 : ∀ (n9 : Nat) (j : Nat), 120 - j < n9 → (j ≤ 120) → (∀ k, k < min j (sN S 3) → fitB S s k = false) → J G γ M 11 [some (rv x), some (rv a), some (rv (mR M x 2)), some (.int (nI 120)), some (.int (nI j))] [] 0 0 := by
    intro n9
    induction n9 with
    | zero => intro j h9; exact absurd h9 (Nat.not_lt_zero _)
    | succ n9 ih =>
      intro j h9 hjN hi
      refine J_iload hC dX4_buyerFor_11 rfl ?_
      refine J_iload_n hC dX4_buyerFor_13 rfl rfl ?_
      refine J_icmp_ge hC dX4_buyerFor_14 (tgt := 88) (by decide) (fun c14 => ?_) (fun c14 => ?_)
      · have hj9 : j = 120 := by have := le_nI (n := 120) (by omega) (by omega) c14; omega
        subst hj9
        refine J_null hC dX4_buyerFor_88 ?_
        refine J_aret hC (by decide) (by decide) (by first | exact Or.inl ⟨_, rfl⟩ | exact Or.inr ⟨_, rfl⟩) dX4_buyerFor_89 ?_
        refine ⟨?_, rfl⟩
        rw [byN_none (fst1_miss _ (fun k hk => hi k (by omega)))]
      · have hlt := ge_nI (n := 120) (by omega) (by omega) c14
        refine J_aload_n hC dX4_buyerFor_17 rfl rfl ?_
        refine J_iload hC dX4_buyerFor_18 rfl ?_
        refine J_aald11 hC hM.tk2 (j := j) (nI_toInt (by omega)) (by rw [hM.lk2]; omega) dX4_buyerFor_20 ?_
        obtain ⟨e, ee⟩ : ∃ z, z = mR M (mR M x 2) j := ⟨_, rfl⟩
        rw [← ee]
        refine J_astore hC dX4_buyerFor_21 (by decide) (ls1 := [some (rv x), some (rv a), some (rv (mR M x 2)), some (.int (nI 120)), some (.int (nI j)), some (rv e)]) rfl ?_
        refine J_aload hC dX4_buyerFor_23 rfl ?_
        refine J_ifnull hC dX4_buyerFor_25 (tgt := 82) (by decide) (fun c25 => ?_) (fun c25 => ?_)
        · have hge : ¬ j < sN S 3 := hM.oj0 ht0 (ee.symm.trans (by first | exact c25 | exact nn c25))
          refine J_iinc hC dX4_buyerFor_82 (by decide) rfl (v := nI (j + 1)) (nI_1 _) (ls1 := [some (rv x), some (rv a), some (rv (mR M x 2)), some (.int (nI 120)), some (.int (nI (j + 1))), some (rv e)]) rfl ?_
          refine J_goto hC dX4_buyerFor_85 (tgt := 11) (by decide) ?_
          refine J_sub hC (ls1 := [some (rv x), some (rv a), some (rv (mR M x 2)), some (.int (nI 120)), some (.int (nI (j + 1)))]) ⟨rfl, rfl, rfl, rfl, rfl, trivial⟩ ?_
          exact ih (j + 1) (by omega) (by omega) (by rw [min_ge hge]; exact hi)
        · have hlt2 : j < sN S 3 := hM.oj1 hlt (fun h => c25 (ee.trans h))
          have we : NtA M e j S := by rw [ee]; exact hM.o.1 j hlt2
          refine J_aload hC dX4_buyerFor_28 rfl ?_
          refine J_get1 hC lf_X4_385 (j := 1) we.tg (v := .int (sO S j 1)) (congrArg (fun z => some (Value.int z)) we.v1) dX4_buyerFor_30 ?_
          refine J_iconst hC dX4_buyerFor_33 (v := -1) (by decide) ?_
          refine J_icmp_ne hC dX4_buyerFor_34 (tgt := 82) (by decide) (fun c34 => ?_) (fun c34 => ?_)
          · have q34 : ¬ sO S j 1 = -1 := c34
            refine J_iinc hC dX4_buyerFor_82 (by decide) rfl (v := nI (j + 1)) (nI_1 _) (ls1 := [some (rv x), some (rv a), some (rv (mR M x 2)), some (.int (nI 120)), some (.int (nI (j + 1))), some (rv e)]) rfl ?_
            refine J_goto hC dX4_buyerFor_85 (tgt := 11) (by decide) ?_
            refine J_sub hC (ls1 := [some (rv x), some (rv a), some (rv (mR M x 2)), some (.int (nI 120)), some (.int (nI (j + 1)))]) ⟨rfl, rfl, rfl, rfl, rfl, trivial⟩ ?_
            exact ih (j + 1) (by omega) (by omega) (fun k hk => by
              by_cases e9 : k = j
              · subst e9; unfold fitB; rw [decide_eq_false q34]; rfl
              · exact hi k (by omega))
          · have q34 : sO S j 1 = -1 := (nn c34)
            refine J_aload hC dX4_buyerFor_37 rfl ?_
            refine J_aload_n hC dX4_buyerFor_39 rfl rfl ?_
            refine J_get1 hC lf_X4_394 (j := 2) hO.tg (v := .int (sO S s 2)) (congrArg (fun z => some (Value.int z)) hO.v2) dX4_buyerFor_40 ?_
            refine J_callV (k1 := 0) (n1 := 0) (kd := 1) [.int (sO S s 2)] [.int (sO S s 2), rv e] hC lv_X4_178 (ct_X0_isOpenFor hst we (sO S s 2)) we.tg (by decide) ⟨_, mE_1 we.tg⟩ rfl rfl rfl (by simp only [List.map_cons, List.map_nil, rv_cat, Value.category, List.sum_cons, List.sum_nil]; decide) (by decide) rfl rfl (by decide) (by decide) dX4_buyerFor_43 (fun E M9 h => h.elim) (fun v9 M9 hq9 => ?_)
            obtain ⟨rfl, e9⟩ := hq9
            rw [e9]; clear e9
            refine J_if_eq hC dX4_buyerFor_46 (tgt := 82) (by decide) (fun c46 => ?_) (fun c46 => ?_)
            · have b46 : (decide (sO S (j) 5 = 111) && decide (sO S (j) 2 = sO S s 2)) = false := bz_eq0 c46
              refine J_iinc hC dX4_buyerFor_82 (by decide) rfl (v := nI (j + 1)) (nI_1 _) (ls1 := [some (rv x), some (rv a), some (rv (mR M x 2)), some (.int (nI 120)), some (.int (nI (j + 1))), some (rv e)]) rfl ?_
              refine J_goto hC dX4_buyerFor_85 (tgt := 11) (by decide) ?_
              refine J_sub hC (ls1 := [some (rv x), some (rv a), some (rv (mR M x 2)), some (.int (nI 120)), some (.int (nI (j + 1)))]) ⟨rfl, rfl, rfl, rfl, rfl, trivial⟩ ?_
              exact ih (j + 1) (by omega) (by omega) (fun k hk => by
                by_cases e9 : k = j
                · subst e9; unfold fitB; rw [Bool.and_assoc (decide _) (decide (sO S k 5 = 111)) _, b46, Bool.and_false]; rfl
                · exact hi k (by omega))
            · have b46 : (decide (sO S (j) 5 = 111) && decide (sO S (j) 2 = sO S s 2)) = true := bz_ne0 c46
              refine J_aload hC dX4_buyerFor_49 rfl ?_
              refine J_get1 hC lf_X4_397 (j := 3) we.tg (v := .int (sO S j 3)) (congrArg (fun z => some (Value.int z)) we.v3) dX4_buyerFor_51 ?_
              refine J_aload_n hC dX4_buyerFor_54 rfl rfl ?_
              refine J_get1 hC lf_X4_397 (j := 3) hO.tg (v := .int (sO S s 3)) (congrArg (fun z => some (Value.int z)) hO.v3) dX4_buyerFor_55 ?_
              refine J_icmp_ne hC dX4_buyerFor_58 (tgt := 82) (by decide) (fun c58 => ?_) (fun c58 => ?_)
              · have q58 : ¬ sO S j 3 = sO S s 3 := c58
                refine J_iinc hC dX4_buyerFor_82 (by decide) rfl (v := nI (j + 1)) (nI_1 _) (ls1 := [some (rv x), some (rv a), some (rv (mR M x 2)), some (.int (nI 120)), some (.int (nI (j + 1))), some (rv e)]) rfl ?_
                refine J_goto hC dX4_buyerFor_85 (tgt := 11) (by decide) ?_
                refine J_sub hC (ls1 := [some (rv x), some (rv a), some (rv (mR M x 2)), some (.int (nI 120)), some (.int (nI (j + 1)))]) ⟨rfl, rfl, rfl, rfl, rfl, trivial⟩ ?_
                exact ih (j + 1) (by omega) (by omega) (fun k hk => by
                  by_cases e9 : k = j
                  · subst e9; unfold fitB; rw [decide_eq_false q58, Bool.and_false, Bool.false_and]
                  · exact hi k (by omega))
              · have q58 : sO S j 3 = sO S s 3 := (nn c58)
                refine J_aload hC dX4_buyerFor_61 rfl ?_
                refine J_get1 hC lf_X4_388 (j := 4) we.tg (v := .int (sO S j 4)) (congrArg (fun z => some (Value.int z)) we.v4) dX4_buyerFor_63 ?_
                refine J_aload_n hC dX4_buyerFor_66 rfl rfl ?_
                refine J_get1 hC lf_X4_388 (j := 4) hO.tg (v := .int (sO S s 4)) (congrArg (fun z => some (Value.int z)) hO.v4) dX4_buyerFor_67 ?_
                refine J_isub hC dX4_buyerFor_70 ?_
                refine J_mabs hC lm_X4_400 ms_abs it_Math mc_abs (by decide) (by decide) (by decide) (by decide) (v := (if 0 ≤ (sO S j 4) - (sO S s 4) then (sO S j 4) - (sO S s 4) else 0 - ((sO S j 4) - (sO S s 4)))) rfl dX4_buyerFor_71 ?_
                refine J_bipush hC dX4_buyerFor_74 (v := 7) (by decide) ?_
                refine J_icmp_gt hC dX4_buyerFor_76 (tgt := 82) (by decide) (fun c76 => ?_) (fun c76 => ?_)
                · have q76 : ¬ ((if 0 ≤ (sO S j 4) - (sO S s 4) then (sO S j 4) - (sO S s 4) else 0 - ((sO S j 4) - (sO S s 4)))) ≤ 7 := i_nle c76
                  refine J_iinc hC dX4_buyerFor_82 (by decide) rfl (v := nI (j + 1)) (nI_1 _) (ls1 := [some (rv x), some (rv a), some (rv (mR M x 2)), some (.int (nI 120)), some (.int (nI (j + 1))), some (rv e)]) rfl ?_
                  refine J_goto hC dX4_buyerFor_85 (tgt := 11) (by decide) ?_
                  refine J_sub hC (ls1 := [some (rv x), some (rv a), some (rv (mR M x 2)), some (.int (nI 120)), some (.int (nI (j + 1)))]) ⟨rfl, rfl, rfl, rfl, rfl, trivial⟩ ?_
                  exact ih (j + 1) (by omega) (by omega) (fun k hk => by
                    by_cases e9 : k = j
                    · subst e9; unfold fitB; rw [Bool.eq_false_iff.mpr (fun h => q76 ((abs_near (hI.od hlt2) (hI.od hs)).mpr h)), Bool.and_false]
                    · exact hi k (by omega))
                · have q76 : ((if 0 ≤ (sO S j 4) - (sO S s 4) then (sO S j 4) - (sO S s 4) else 0 - ((sO S j 4) - (sO S s 4)))) ≤ 7 := i_nlt c76
                  refine J_aload hC dX4_buyerFor_79 rfl ?_
                  refine J_aret hC (by decide) (by decide) (by first | exact Or.inl ⟨_, rfl⟩ | exact Or.inr ⟨_, rfl⟩) dX4_buyerFor_81 ?_
                  refine ⟨?_, rfl⟩
                  have hbf : buyerOf S s = some j := fst1_hit (fun k hk => hi k (by omega)) (by unfold fitB; rw [decide_eq_true q34, decide_eq_true q58, (abs_near (hI.od hlt2) (hI.od hs)).mp q76, Bool.true_and, b46]; rfl) _ hlt2
                  rw [byN_some hbf, ee]
  exact L11 121 0 (by omega) (Nat.zero_le _) (fun k hk => absurd hk (by omega))
