/-! plates issued, vehicles entered -/
theorem CAt.nw {M : Mm} {x q : Nat} {S : St} (h : CAt M x S) (hq : (mT M q).1 = 0) (t : Nat × Nat) (n : Nat) : CAt (nwM M q t n) x S ∧ Sm M (nwM M q t n) x := h.fr (P := fun _ => False) (Fr.nw hq) (fun _ _ h => h) (fun a ha => va_up_ne _ _ (fun e => by rw [e] at ha; rcases ha with ha | ha | ha <;> rw [ha] at hq <;> cases hq))
theorem vhP_pC {i : Nat} (hi : i < 15) (t : Nat × Nat) (h : vhP i t) : pC t := by
  rcases h with h | h | h | h | h
  · rw [h]; exact Or.inl (show 4 ≤ 5 by decide)
  · rw [h]; exact Or.inr ⟨(show (7 : Nat) ≤ 7 by decide), (show (7 : Nat) ≤ 11 by decide), show 10 + i < 1000 by omega⟩
  all_goals
    rcases h with h | h | h
    · rw [h]; exact Or.inl (show 3 ≤ 5 by decide)
    · rw [h]; exact Or.inr ⟨(show (7 : Nat) ≤ 7 by decide), (show (7 : Nat) ≤ 11 by decide), by show _ + _ < 1000; omega⟩
    · rw [h]; exact Or.inr ⟨(show (7 : Nat) ≤ 7 by decide), (show (7 : Nat) ≤ 11 by decide), by show _ + _ < 1000; omega⟩
theorem plP_pC {i : Nat} (hi : i < 40) (t : Nat × Nat) (h : t = (2, i) ∨ tlP (4 * i + 3) t) : pC t := by
  rcases h with h | h | h | h
  · rw [h]; exact Or.inl (show 2 ≤ 5 by decide)
  · rw [h]; exact Or.inl (show 3 ≤ 5 by decide)
  · rw [h]; exact Or.inr ⟨(show (7 : Nat) ≤ 7 by decide), (show (7 : Nat) ≤ 11 by decide), by show _ + _ < 1000; omega⟩
  · rw [h]; exact Or.inr ⟨(show (7 : Nat) ≤ 7 by decide), (show (7 : Nat) ≤ 11 by decide), by show _ + _ < 1000; omega⟩
theorem ct_X4_issuePlate {G : Gt} {l : Launch} (hst : l.stackTraces = false) {M : Mm} {x : Nat} {S : St} (hM : CAt M x S) (hlt : sN S 2 < 40) : Ct G l yX4_issuePlate cX4_issuePlate 2 (some (.object "PlateRegister$Plate")) 4 M [rv x] 4 15 (MtW M x S (newP S) (fun M9 => some (rv (pA M9 x (sN S 2))))) (noX) := by
  obtain ⟨bK, bV, bP, bN⟩ := hM.b
  refine Ct_intro (own := RX4) (nm := "issuePlate") (by decide +kernel) rfl rfl hst (fun w hw => by simp only [List.mem_cons, List.not_mem_nil, or_false] at hw; rcases hw with rfl <;> first | rfl | exact rv_cat _) (Nat.le_of_ble_eq_true rfl) (fun γ hC => ?_)
  show J G γ M 0 [some (rv x)] [] 0 0
  refine J_new2 (sN S 2) hC lc_X4_15 in_X1 it_X1 rfl rfl (by decide) (by decide) dX4_issuePlate_0 (k1 := 1) (n1 := 4) (fun a ha za => ?_)
  have eT2 : mT (nwM M a (2, sN S 2) 0) a = (2, sN S 2) := nw_T _ _ _ _
  obtain ⟨hM2, hs2⟩ := hM.nw ha (2, sN S 2) 0
  obtain ⟨M2, eM2⟩ : ∃ z, z = nwM M a (2, sN S 2) 0 := ⟨_, rfl⟩
  have F2 : Fr (fun t => t = (2, sN S 2) ∨ tlP (4 * sN S 2 + 3) t) M M2 := by rw [eM2]; exact Fr.nw ha
  rw [← eM2] at eT2 hM2 hs2 ⊢
  refine J_dup hC dX4_issuePlate_3 (rv_cat _) ?_
  refine J_aload_n hC dX4_issuePlate_4 rfl rfl ?_
  refine J_get5 hC lf_X4_273 (j := 8) hM2.tx (v := .int (nI (sN S 2))) (congrArg (fun z => some (Value.int z)) hM2.c8) dX4_issuePlate_5 ?_
  refine J_callI (k1 := 4) (n1 := 15) [.int (nI (sN S 2))] [.int (nI (sN S 2)), rv a, rv a] hC li_X4_360 (ct_X1_init hst za eT2) za rfl rfl (by simp only [List.map_cons, List.map_nil, rv_cat, List.sum_cons, List.sum_nil]; decide) (by decide) rfl rfl (by decide) (by decide) dX4_issuePlate_8 (fun v9 M9 hq9 => ?_)
  obtain ⟨rfl, t3, u0, u2, u3, T3, F3⟩ := hq9
  obtain ⟨hM3, hs3, hP3⟩ := hM.mkp hlt (F2.trans F3) t3 u0 u2 u3 T3
  refine J_astore_n hC dX4_issuePlate_11 rfl (by decide) (ls1 := [some (rv x), some (rv a)]) rfl ?_
  refine J_aload_n hC dX4_issuePlate_12 rfl rfl ?_
  refine J_get5 hC lf_X4_273 (j := 8) hM3.tx (v := .int (nI (sN S 2))) (congrArg (fun z => some (Value.int z)) hM3.c8) dX4_issuePlate_13 ?_
  refine J_aload_n hC dX4_issuePlate_16 rfl rfl ?_
  refine J_get5 hC lf_X4_17 (j := 1) hM3.tx (v := rv (mR M9 x 1)) rfl dX4_issuePlate_17 ?_
  refine J_alen10 hC hM3.tk1 dX4_issuePlate_20 ?_
  rw [hM3.lk1]
  refine J_icmp_ge hC dX4_issuePlate_21 (tgt := 44) (by decide) (fun c9 => ?_) (fun c9 => ?_)
  · exact absurd (le_nI (n := 40) (by omega) (by omega) c9) (by omega)
  refine J_aload_n hC dX4_issuePlate_24 rfl rfl ?_
  refine J_get5 hC lf_X4_17 (j := 1) hM3.tx (v := rv (mR M9 x 1)) rfl dX4_issuePlate_25 ?_
  refine J_aload_n hC dX4_issuePlate_28 rfl rfl ?_
  refine J_get5 hC lf_X4_273 (j := 8) hM3.tx (v := .int (nI (sN S 2))) (congrArg (fun z => some (Value.int z)) hM3.c8) dX4_issuePlate_29 ?_
  refine J_aload_n hC dX4_issuePlate_32 rfl rfl ?_
  refine J_aast10 hC hM3.tk1 hP3.tg (j := sN S 2) (nI_toInt (by omega)) (by rw [hM3.lk1]; omega) dX4_issuePlate_33 ?_
  refine J_aload_n hC dX4_issuePlate_34 rfl rfl ?_
  refine J_dup hC dX4_issuePlate_35 (rv_cat _) ?_
  refine J_get5 hC lf_X4_273 (j := 8) hM3.tx (v := .int (nI (sN S 2))) (congrArg (fun z => some (Value.int z)) hM3.c8) dX4_issuePlate_36 ?_
  refine J_iconst hC dX4_issuePlate_39 (v := 1) (by decide) ?_
  refine J_iadd hC dX4_issuePlate_40 ?_
  rw [nI_1]
  refine J_put5_8 hC lf_X4_273 hM3.tx dX4_issuePlate_41 ?_
  refine J_aload_n hC dX4_issuePlate_44 rfl rfl ?_
  refine J_aret hC (by decide) (by decide) (by first | exact Or.inl ⟨_, rfl⟩ | exact Or.inr ⟨_, rfl⟩) dX4_issuePlate_45 ?_
  obtain ⟨c1, c2, c3, c4⟩ := hM3.newP hlt hP3
  refine ⟨?_, c1, (hs3.w S).trans c2 (Nat.le_refl _) (Nat.le_refl _) (Nat.le_refl _), ((F2.trans F3).mono (plP_pC hlt)).trans c4⟩
  show some (rv a) = some (rv (pA (adM M9 x 1 8 (sN S 2) a) x (sN S 2)))
  rw [c3]
theorem ct_X4_enterVehicle {G : Gt} {l : Launch} (hst : l.stackTraces = false) {M : Mm} {x : Nat} {S : St} (hM : CAt M x S) (hlt : sN S 1 < 15) (w kd : Int32) (hkd : kindOk kd = true) : Ct G l yX4_enterVehicle cX4_enterVehicle 4 (some (.object "PlateRegister$Vehicle")) 5 M [rv x, .int w, .int kd] 20 100 (MtW M x S (addV S w kd) (fun M9 => some (rv (vA M9 x (sN S 1))))) (noX) := by
  obtain ⟨bK, bV, bP, bN⟩ := hM.b
  refine Ct_intro (own := RX4) (nm := "enterVehicle") (by decide +kernel) rfl rfl hst (fun w hw => by simp only [List.mem_cons, List.not_mem_nil, or_false] at hw; rcases hw with rfl | rfl | rfl <;> first | rfl | exact rv_cat _) (Nat.le_of_ble_eq_true rfl) (fun γ hC => ?_)
  show J G γ M 0 [some (rv x), some (.int w), some (.int kd)] [] 0 0
  refine J_new4 (sN S 1) hC lc_X4_9 in_X3 it_X3 rfl rfl (by decide) (by decide) dX4_enterVehicle_0 (k1 := 1) (n1 := 8) (fun a ha za => ?_)
  have eT2 : mT (nwM M a (4, sN S 1) 0) a = (4, sN S 1) := nw_T _ _ _ _
  have e26 : mI (nwM M a (4, sN S 1) 0) a 6 = 0 := nw_I _ _ _ _ _
  have e27 : mI (nwM M a (4, sN S 1) 0) a 7 = 0 := nw_I _ _ _ _ _
  obtain ⟨hM2, hs2⟩ := hM.nw ha (4, sN S 1) 0
  obtain ⟨M2, eM2⟩ : ∃ z, z = nwM M a (4, sN S 1) 0 := ⟨_, rfl⟩
  have F2 : Fr (vhP (sN S 1)) M M2 := by rw [eM2]; exact Fr.nw ha
  rw [← eM2] at eT2 e26 e27 hM2 hs2 ⊢
  refine J_dup hC dX4_enterVehicle_3 (rv_cat _) ?_
  refine J_aload_n hC dX4_enterVehicle_4 rfl rfl ?_
  refine J_get5 hC lf_X4_149 (j := 7) hM2.tx (v := .int (nI (sN S 1))) (congrArg (fun z => some (Value.int z)) hM2.c7) dX4_enterVehicle_5 ?_
  refine J_iload_n hC dX4_enterVehicle_8 rfl rfl ?_
  refine J_callI (k1 := 11) (n1 := 47) [.int (nI (sN S 1)), .int kd] [.int kd, .int (nI (sN S 1)), rv a, rv a] hC li_X4_354 (ct_X3_init hst za eT2 e26 e27 kd hkd) za rfl rfl (by simp only [List.map_cons, List.map_nil, rv_cat, List.sum_cons, List.sum_nil]; decide) (by decide) rfl rfl (by decide) (by decide) dX4_enterVehicle_9 (fun v9 N9 hq9 => ?_)
  obtain ⟨rfl, t3, u0, u1, u6, u7, ⟨t5, l5, h5⟩, T2, T3, T4, F3⟩ := hq9
  obtain ⟨hM3, hs3⟩ := hM.mkv hlt (F2.trans F3)
  refine J_astore_n hC dX4_enterVehicle_12 rfl (by decide) (ls1 := [some (rv x), some (.int w), some (.int kd), some (rv a)]) rfl ?_
  refine J_aload_n hC dX4_enterVehicle_13 rfl rfl ?_
  refine J_get4 hC lf_X4_182 (j := 2) (congrArg Prod.fst t3) (v := rv (mR N9 a 2)) rfl dX4_enterVehicle_14 ?_
  refine J_aload_n hC dX4_enterVehicle_17 rfl rfl ?_
  refine J_get5 hC lf_X4_48 (j := 10) hM3.tx (v := .int (sD S)) (congrArg (fun z => some (Value.int z)) hM3.c10) dX4_enterVehicle_18 ?_
  refine J_iload_n hC dX4_enterVehicle_21 rfl rfl ?_
  refine J_callV (k1 := 13) (n1 := 47) (kd := 3) [.int (sD S), .int w] [.int w, .int (sD S), rv (mR N9 a 2)] hC lv_X4_357 (ct_X2_append hst T2 (by decide) (sD S) w) T2.tg (by decide) ⟨_, mE_3 T2.tg⟩ rfl rfl rfl (by simp only [List.map_cons, List.map_nil, rv_cat, List.sum_cons, List.sum_nil]; decide) (by decide) rfl rfl (by decide) (by decide) dX4_enterVehicle_22 (fun E M9 h => h.elim) (fun v9 M9 hq9 => ?_)
  obtain ⟨rfl, T9, F4⟩ := hq9
  have F4v : Fr (vhP (sN S 1)) N9 M9 := F4.mono (fun t h => Or.inr (Or.inr (Or.inl h)))
  obtain ⟨hM4, hs4⟩ := hM.mkv hlt ((F2.trans F3).trans F4v)
  obtain ⟨a1, a2, a3, a4, -, -⟩ := F4.at t3 (show (4 : Nat) ≠ 0 by decide) (nTl_1 (by decide) (by decide))
  obtain ⟨b1, b2, b3, b4, -, -⟩ := F4.at t5 (show (7 : Nat) ≠ 0 by decide) (nTl_7 (by omega))
  obtain ⟨p0, p1, p2⟩ := nTl_t (c := 4 * sN S 1 + 1) (e := 4 * sN S 1) (by omega)
  obtain ⟨r0, r1, r2⟩ := nTl_t (c := 4 * sN S 1 + 2) (e := 4 * sN S 1) (by omega)
  have hP4 : VeA M9 a (sN S 1) (addV S w kd) := VeA.made (a1.trans t3) (by rw [a3]; exact u0) (by rw [a3]; exact u1) (by rw [a3]; exact u6) (by rw [a3]; exact u7) (by rw [a4, b1]; exact t5) (by rw [a4, b2]; exact l5) (by rw [a4, b3]; exact h5) (by rw [a4]; exact T9) (by rw [a4]; exact (T3.fr F4 p0 p1 p2).1) (by rw [a4]; exact (T4.fr F4 r0 r1 r2).1)
  refine J_aload_n hC dX4_enterVehicle_25 rfl rfl ?_
  refine J_get5 hC lf_X4_149 (j := 7) hM4.tx (v := .int (nI (sN S 1))) (congrArg (fun z => some (Value.int z)) hM4.c7) dX4_enterVehicle_26 ?_
  refine J_aload_n hC dX4_enterVehicle_29 rfl rfl ?_
  refine J_get5 hC lf_X4_11 (j := 0) hM4.tx (v := rv (mR M9 x 0)) rfl dX4_enterVehicle_30 ?_
  refine J_alen9 hC hM4.tk0 dX4_enterVehicle_33 ?_
  rw [hM4.lk0]
  refine J_icmp_ge hC dX4_enterVehicle_34 (tgt := 57) (by decide) (fun c9 => ?_) (fun c9 => ?_)
  · exact absurd (le_nI (n := 15) (by omega) (by omega) c9) (by omega)
  refine J_aload_n hC dX4_enterVehicle_37 rfl rfl ?_
  refine J_get5 hC lf_X4_11 (j := 0) hM4.tx (v := rv (mR M9 x 0)) rfl dX4_enterVehicle_38 ?_
  refine J_aload_n hC dX4_enterVehicle_41 rfl rfl ?_
  refine J_get5 hC lf_X4_149 (j := 7) hM4.tx (v := .int (nI (sN S 1))) (congrArg (fun z => some (Value.int z)) hM4.c7) dX4_enterVehicle_42 ?_
  refine J_aload_n hC dX4_enterVehicle_45 rfl rfl ?_
  refine J_aast9 hC hM4.tk0 hP4.tg (j := sN S 1) (nI_toInt (by omega)) (by rw [hM4.lk0]; omega) dX4_enterVehicle_46 ?_
  refine J_aload_n hC dX4_enterVehicle_47 rfl rfl ?_
  refine J_dup hC dX4_enterVehicle_48 (rv_cat _) ?_
  refine J_get5 hC lf_X4_149 (j := 7) hM4.tx (v := .int (nI (sN S 1))) (congrArg (fun z => some (Value.int z)) hM4.c7) dX4_enterVehicle_49 ?_
  refine J_iconst hC dX4_enterVehicle_52 (v := 1) (by decide) ?_
  refine J_iadd hC dX4_enterVehicle_53 ?_
  rw [nI_1]
  refine J_put5_7 hC lf_X4_149 hM4.tx dX4_enterVehicle_54 ?_
  refine J_aload_n hC dX4_enterVehicle_57 rfl rfl ?_
  refine J_aret hC (by decide) (by decide) (by first | exact Or.inl ⟨_, rfl⟩ | exact Or.inr ⟨_, rfl⟩) dX4_enterVehicle_58 ?_
  obtain ⟨c1, c2, c3, c4⟩ := hM4.newV hlt hP4
  refine ⟨?_, c1, (hs4.w S).trans c2 (Nat.le_refl _) (Nat.le_refl _) (Nat.le_refl _), (((F2.trans F3).trans F4v).mono (vhP_pC hlt)).trans c4⟩
  show some (rv a) = some (rv (vA (adM M9 x 0 7 (sN S 1) a) x (sN S 1)))
  rw [c3]
