theorem lay0_0 : u_lay RX0 TX0 0 ∈ AW := AW_in (List.mem_of_getElem? (i := 668) (by decide +kernel)) (by decide +kernel)
theorem lay0_1 : u_lay RX0 TX0 1 ∈ AW := AW_in (List.mem_of_getElem? (i := 670) (by decide +kernel)) (by decide +kernel)
theorem lay0_2 : u_lay RX0 TX0 2 ∈ AW := AW_in (List.mem_of_getElem? (i := 672) (by decide +kernel)) (by decide +kernel)
theorem lay0_3 : u_lay RX0 TX0 3 ∈ AW := AW_in (List.mem_of_getElem? (i := 674) (by decide +kernel)) (by decide +kernel)
theorem lay0_4 : u_lay RX0 TX0 4 ∈ AW := AW_in (List.mem_of_getElem? (i := 676) (by decide +kernel)) (by decide +kernel)
theorem lay0_5 : u_lay RX0 TX0 5 ∈ AW := AW_in (List.mem_of_getElem? (i := 678) (by decide +kernel)) (by decide +kernel)
theorem lay0_6 : u_lay RX0 TX0 6 ∈ AW := AW_in (List.mem_of_getElem? (i := 680) (by decide +kernel)) (by decide +kernel)
theorem lay0 : ∀ w ∈ u_ws RX0 TX0 7, w ∈ AW := by
  intro w hw
  obtain ⟨k, hk, rfl⟩ := List.mem_map.mp hw
  have hk := List.mem_range.mp hk
  match k, hk with
  | 0, _ => exact lay0_0
  | 1, _ => exact lay0_1
  | 2, _ => exact lay0_2
  | 3, _ => exact lay0_3
  | 4, _ => exact lay0_4
  | 5, _ => exact lay0_5
  | 6, _ => exact lay0_6
  | q + 7, h => exact absurd h (by omega)
theorem lay1_0 : u_lay RX1 TX1 0 ∈ AW := AW_in (List.mem_of_getElem? (i := 509) (by decide +kernel)) (by decide +kernel)
theorem lay1_1 : u_lay RX1 TX1 1 ∈ AW := AW_in (List.mem_of_getElem? (i := 511) (by decide +kernel)) (by decide +kernel)
theorem lay1_2 : u_lay RX1 TX1 2 ∈ AW := AW_in (List.mem_of_getElem? (i := 513) (by decide +kernel)) (by decide +kernel)
theorem lay1_3 : u_lay RX1 TX1 3 ∈ AW := AW_in (List.mem_of_getElem? (i := 515) (by decide +kernel)) (by decide +kernel)
theorem lay1 : ∀ w ∈ u_ws RX1 TX1 4, w ∈ AW := by
  intro w hw
  obtain ⟨k, hk, rfl⟩ := List.mem_map.mp hw
  have hk := List.mem_range.mp hk
  match k, hk with
  | 0, _ => exact lay1_0
  | 1, _ => exact lay1_1
  | 2, _ => exact lay1_2
  | 3, _ => exact lay1_3
  | q + 4, h => exact absurd h (by omega)
theorem lay2_0 : u_lay RX2 TX2 0 ∈ AW := AW_in (List.mem_of_getElem? (i := 426) (by decide +kernel)) (by decide +kernel)
theorem lay2_1 : u_lay RX2 TX2 1 ∈ AW := AW_in (List.mem_of_getElem? (i := 428) (by decide +kernel)) (by decide +kernel)
theorem lay2_2 : u_lay RX2 TX2 2 ∈ AW := AW_in (List.mem_of_getElem? (i := 430) (by decide +kernel)) (by decide +kernel)
theorem lay2 : ∀ w ∈ u_ws RX2 TX2 3, w ∈ AW := by
  intro w hw
  obtain ⟨k, hk, rfl⟩ := List.mem_map.mp hw
  have hk := List.mem_range.mp hk
  match k, hk with
  | 0, _ => exact lay2_0
  | 1, _ => exact lay2_1
  | 2, _ => exact lay2_2
  | q + 3, h => exact absurd h (by omega)
theorem lay3_0 : u_lay RX3 TX3 0 ∈ AW := AW_in (List.mem_of_getElem? (i := 448) (by decide +kernel)) (by decide +kernel)
theorem lay3_1 : u_lay RX3 TX3 1 ∈ AW := AW_in (List.mem_of_getElem? (i := 450) (by decide +kernel)) (by decide +kernel)
theorem lay3_2 : u_lay RX3 TX3 2 ∈ AW := AW_in (List.mem_of_getElem? (i := 452) (by decide +kernel)) (by decide +kernel)
theorem lay3_3 : u_lay RX3 TX3 3 ∈ AW := AW_in (List.mem_of_getElem? (i := 454) (by decide +kernel)) (by decide +kernel)
theorem lay3_4 : u_lay RX3 TX3 4 ∈ AW := AW_in (List.mem_of_getElem? (i := 456) (by decide +kernel)) (by decide +kernel)
theorem lay3_5 : u_lay RX3 TX3 5 ∈ AW := AW_in (List.mem_of_getElem? (i := 458) (by decide +kernel)) (by decide +kernel)
theorem lay3_6 : u_lay RX3 TX3 6 ∈ AW := AW_in (List.mem_of_getElem? (i := 460) (by decide +kernel)) (by decide +kernel)
theorem lay3_7 : u_lay RX3 TX3 7 ∈ AW := AW_in (List.mem_of_getElem? (i := 462) (by decide +kernel)) (by decide +kernel)
theorem lay3 : ∀ w ∈ u_ws RX3 TX3 8, w ∈ AW := by
  intro w hw
  obtain ⟨k, hk, rfl⟩ := List.mem_map.mp hw
  have hk := List.mem_range.mp hk
  match k, hk with
  | 0, _ => exact lay3_0
  | 1, _ => exact lay3_1
  | 2, _ => exact lay3_2
  | 3, _ => exact lay3_3
  | 4, _ => exact lay3_4
  | 5, _ => exact lay3_5
  | 6, _ => exact lay3_6
  | 7, _ => exact lay3_7
  | q + 8, h => exact absurd h (by omega)
theorem lay4_0 : u_lay RX4 TX4 0 ∈ AW := AW_in (List.mem_of_getElem? (i := 110) (by decide +kernel)) (by decide +kernel)
theorem lay4_1 : u_lay RX4 TX4 1 ∈ AW := AW_in (List.mem_of_getElem? (i := 112) (by decide +kernel)) (by decide +kernel)
theorem lay4_2 : u_lay RX4 TX4 2 ∈ AW := AW_in (List.mem_of_getElem? (i := 114) (by decide +kernel)) (by decide +kernel)
theorem lay4_3 : u_lay RX4 TX4 3 ∈ AW := AW_in (List.mem_of_getElem? (i := 116) (by decide +kernel)) (by decide +kernel)
theorem lay4_4 : u_lay RX4 TX4 4 ∈ AW := AW_in (List.mem_of_getElem? (i := 118) (by decide +kernel)) (by decide +kernel)
theorem lay4_5 : u_lay RX4 TX4 5 ∈ AW := AW_in (List.mem_of_getElem? (i := 120) (by decide +kernel)) (by decide +kernel)
theorem lay4_6 : u_lay RX4 TX4 6 ∈ AW := AW_in (List.mem_of_getElem? (i := 122) (by decide +kernel)) (by decide +kernel)
theorem lay4_7 : u_lay RX4 TX4 7 ∈ AW := AW_in (List.mem_of_getElem? (i := 124) (by decide +kernel)) (by decide +kernel)
theorem lay4_8 : u_lay RX4 TX4 8 ∈ AW := AW_in (List.mem_of_getElem? (i := 126) (by decide +kernel)) (by decide +kernel)
theorem lay4_9 : u_lay RX4 TX4 9 ∈ AW := AW_in (List.mem_of_getElem? (i := 128) (by decide +kernel)) (by decide +kernel)
theorem lay4_10 : u_lay RX4 TX4 10 ∈ AW := AW_in (List.mem_of_getElem? (i := 130) (by decide +kernel)) (by decide +kernel)
theorem lay4_11 : u_lay RX4 TX4 11 ∈ AW := AW_in (List.mem_of_getElem? (i := 132) (by decide +kernel)) (by decide +kernel)
theorem lay4 : ∀ w ∈ u_ws RX4 TX4 12, w ∈ AW := by
  intro w hw
  obtain ⟨k, hk, rfl⟩ := List.mem_map.mp hw
  have hk := List.mem_range.mp hk
  match k, hk with
  | 0, _ => exact lay4_0
  | 1, _ => exact lay4_1
  | 2, _ => exact lay4_2
  | 3, _ => exact lay4_3
  | 4, _ => exact lay4_4
  | 5, _ => exact lay4_5
  | 6, _ => exact lay4_6
  | 7, _ => exact lay4_7
  | 8, _ => exact lay4_8
  | 9, _ => exact lay4_9
  | 10, _ => exact lay4_10
  | 11, _ => exact lay4_11
  | q + 12, h => exact absurd h (by omega)
theorem lay5_0 : u_lay RX5 TX5 0 ∈ AW := AW_in (List.mem_of_getElem? (i := 1054) (by decide +kernel)) (by decide +kernel)
theorem lay5_1 : u_lay RX5 TX5 1 ∈ AW := AW_in (List.mem_of_getElem? (i := 1056) (by decide +kernel)) (by decide +kernel)
theorem lay5_2 : u_lay RX5 TX5 2 ∈ AW := AW_in (List.mem_of_getElem? (i := 1058) (by decide +kernel)) (by decide +kernel)
theorem lay5_3 : u_lay RX5 TX5 3 ∈ AW := AW_in (List.mem_of_getElem? (i := 1060) (by decide +kernel)) (by decide +kernel)
theorem lay5_4 : u_lay RX5 TX5 4 ∈ AW := AW_in (List.mem_of_getElem? (i := 1062) (by decide +kernel)) (by decide +kernel)
theorem lay5_5 : u_lay RX5 TX5 5 ∈ AW := AW_in (List.mem_of_getElem? (i := 1064) (by decide +kernel)) (by decide +kernel)
theorem lay5_6 : u_lay RX5 TX5 6 ∈ AW := AW_in (List.mem_of_getElem? (i := 1066) (by decide +kernel)) (by decide +kernel)
theorem lay5_7 : u_lay RX5 TX5 7 ∈ AW := AW_in (List.mem_of_getElem? (i := 1068) (by decide +kernel)) (by decide +kernel)
theorem lay5_8 : u_lay RX5 TX5 8 ∈ AW := AW_in (List.mem_of_getElem? (i := 1070) (by decide +kernel)) (by decide +kernel)
theorem lay5_9 : u_lay RX5 TX5 9 ∈ AW := AW_in (List.mem_of_getElem? (i := 1072) (by decide +kernel)) (by decide +kernel)
theorem lay5_10 : u_lay RX5 TX5 10 ∈ AW := AW_in (List.mem_of_getElem? (i := 1074) (by decide +kernel)) (by decide +kernel)
theorem lay5_11 : u_lay RX5 TX5 11 ∈ AW := AW_in (List.mem_of_getElem? (i := 1076) (by decide +kernel)) (by decide +kernel)
theorem lay5_12 : u_lay RX5 TX5 12 ∈ AW := AW_in (List.mem_of_getElem? (i := 1078) (by decide +kernel)) (by decide +kernel)
theorem lay5_13 : u_lay RX5 TX5 13 ∈ AW := AW_in (List.mem_of_getElem? (i := 1080) (by decide +kernel)) (by decide +kernel)
theorem lay5_14 : u_lay RX5 TX5 14 ∈ AW := AW_in (List.mem_of_getElem? (i := 1082) (by decide +kernel)) (by decide +kernel)
theorem lay5_15 : u_lay RX5 TX5 15 ∈ AW := AW_in (List.mem_of_getElem? (i := 1084) (by decide +kernel)) (by decide +kernel)
theorem lay5_16 : u_lay RX5 TX5 16 ∈ AW := AW_in (List.mem_of_getElem? (i := 1086) (by decide +kernel)) (by decide +kernel)
theorem lay5_17 : u_lay RX5 TX5 17 ∈ AW := AW_in (List.mem_of_getElem? (i := 1088) (by decide +kernel)) (by decide +kernel)
theorem lay5_18 : u_lay RX5 TX5 18 ∈ AW := AW_in (List.mem_of_getElem? (i := 1090) (by decide +kernel)) (by decide +kernel)
theorem lay5_19 : u_lay RX5 TX5 19 ∈ AW := AW_in (List.mem_of_getElem? (i := 1092) (by decide +kernel)) (by decide +kernel)
theorem lay5_20 : u_lay RX5 TX5 20 ∈ AW := AW_in (List.mem_of_getElem? (i := 1094) (by decide +kernel)) (by decide +kernel)
theorem lay5_21 : u_lay RX5 TX5 21 ∈ AW := AW_in (List.mem_of_getElem? (i := 1096) (by decide +kernel)) (by decide +kernel)
theorem lay5_22 : u_lay RX5 TX5 22 ∈ AW := AW_in (List.mem_of_getElem? (i := 1098) (by decide +kernel)) (by decide +kernel)
theorem lay5_23 : u_lay RX5 TX5 23 ∈ AW := AW_in (List.mem_of_getElem? (i := 1100) (by decide +kernel)) (by decide +kernel)
theorem lay5_24 : u_lay RX5 TX5 24 ∈ AW := AW_in (List.mem_of_getElem? (i := 1102) (by decide +kernel)) (by decide +kernel)
theorem lay5_25 : u_lay RX5 TX5 25 ∈ AW := AW_in (List.mem_of_getElem? (i := 1104) (by decide +kernel)) (by decide +kernel)
theorem lay5_26 : u_lay RX5 TX5 26 ∈ AW := AW_in (List.mem_of_getElem? (i := 1106) (by decide +kernel)) (by decide +kernel)
theorem lay5_27 : u_lay RX5 TX5 27 ∈ AW := AW_in (List.mem_of_getElem? (i := 1108) (by decide +kernel)) (by decide +kernel)
theorem lay5_28 : u_lay RX5 TX5 28 ∈ AW := AW_in (List.mem_of_getElem? (i := 1110) (by decide +kernel)) (by decide +kernel)
theorem lay5_29 : u_lay RX5 TX5 29 ∈ AW := AW_in (List.mem_of_getElem? (i := 1112) (by decide +kernel)) (by decide +kernel)
theorem lay5_30 : u_lay RX5 TX5 30 ∈ AW := AW_in (List.mem_of_getElem? (i := 1114) (by decide +kernel)) (by decide +kernel)
theorem lay5_31 : u_lay RX5 TX5 31 ∈ AW := AW_in (List.mem_of_getElem? (i := 1116) (by decide +kernel)) (by decide +kernel)
theorem lay5_32 : u_lay RX5 TX5 32 ∈ AW := AW_in (List.mem_of_getElem? (i := 1118) (by decide +kernel)) (by decide +kernel)
theorem lay5 : ∀ w ∈ u_ws RX5 TX5 33, w ∈ AW := by
  intro w hw
  obtain ⟨k, hk, rfl⟩ := List.mem_map.mp hw
  have hk := List.mem_range.mp hk
  match k, hk with
  | 0, _ => exact lay5_0
  | 1, _ => exact lay5_1
  | 2, _ => exact lay5_2
  | 3, _ => exact lay5_3
  | 4, _ => exact lay5_4
  | 5, _ => exact lay5_5
  | 6, _ => exact lay5_6
  | 7, _ => exact lay5_7
  | 8, _ => exact lay5_8
  | 9, _ => exact lay5_9
  | 10, _ => exact lay5_10
  | 11, _ => exact lay5_11
  | 12, _ => exact lay5_12
  | 13, _ => exact lay5_13
  | 14, _ => exact lay5_14
  | 15, _ => exact lay5_15
  | 16, _ => exact lay5_16
  | 17, _ => exact lay5_17
  | 18, _ => exact lay5_18
  | 19, _ => exact lay5_19
  | 20, _ => exact lay5_20
  | 21, _ => exact lay5_21
  | 22, _ => exact lay5_22
  | 23, _ => exact lay5_23
  | 24, _ => exact lay5_24
  | 25, _ => exact lay5_25
  | 26, _ => exact lay5_26
  | 27, _ => exact lay5_27
  | 28, _ => exact lay5_28
  | 29, _ => exact lay5_29
  | 30, _ => exact lay5_30
  | 31, _ => exact lay5_31
  | 32, _ => exact lay5_32
  | q + 33, h => exact absurd h (by omega)
abbrev fs1 (M : Mm) (a : Nat) : List Value := [.int (mI M a 0), .int (mI M a 1), .int (mI M a 2), .int (mI M a 3), .int (mI M a 4), .int (mI M a 5), .int (mI M a 6)]
theorem mE_1 {aC : Nat → ClassId} {M : Mm} {a : Nat} (h : (mT M a).1 = 1) : mE aC M a = .inr (0, fs1 M a) := by simp only [mE, h]
abbrev fs2 (M : Mm) (a : Nat) : List Value := [.int (mI M a 0), rv (mR M a 1), .int (mI M a 2), .int (mI M a 3)]
theorem mE_2 {aC : Nat → ClassId} {M : Mm} {a : Nat} (h : (mT M a).1 = 2) : mE aC M a = .inr (1, fs2 M a) := by simp only [mE, h]
abbrev fs3 (M : Mm) (a : Nat) : List Value := [rv (mR M a 0), rv (mR M a 1), .int (mI M a 2)]
theorem mE_3 {aC : Nat → ClassId} {M : Mm} {a : Nat} (h : (mT M a).1 = 3) : mE aC M a = .inr (2, fs3 M a) := by simp only [mE, h]
abbrev fs4 (M : Mm) (a : Nat) : List Value := [.int (mI M a 0), .int (mI M a 1), rv (mR M a 2), rv (mR M a 3), rv (mR M a 4), rv (mR M a 5), .int (mI M a 6), .int (mI M a 7)]
theorem mE_4 {aC : Nat → ClassId} {M : Mm} {a : Nat} (h : (mT M a).1 = 4) : mE aC M a = .inr (3, fs4 M a) := by simp only [mE, h]
abbrev fs5 (M : Mm) (a : Nat) : List Value := [rv (mR M a 0), rv (mR M a 1), rv (mR M a 2), rv (mR M a 3), rv (mR M a 4), rv (mR M a 5), .int (mI M a 6), .int (mI M a 7), .int (mI M a 8), .int (mI M a 9), .int (mI M a 10), .long (mJ M a 11)]
theorem mE_5 {aC : Nat → ClassId} {M : Mm} {a : Nat} (h : (mT M a).1 = 5) : mE aC M a = .inr (4, fs5 M a) := by simp only [mE, h]
abbrev fs6 (M : Mm) (a : Nat) : List Value := [.int (mI M a 0), .int (mI M a 1), .int (mI M a 2), .int (mI M a 3), .int (mI M a 4), .int (mI M a 5), .int (mI M a 6), .int (mI M a 7), .int (mI M a 8), .long (mJ M a 9), rv (mR M a 10), rv (mR M a 11), rv (mR M a 12), rv (mR M a 13), rv (mR M a 14), rv (mR M a 15), rv (mR M a 16), rv (mR M a 17), rv (mR M a 18), rv (mR M a 19), rv (mR M a 20), rv (mR M a 21), rv (mR M a 22), rv (mR M a 23), rv (mR M a 24), rv (mR M a 25), rv (mR M a 26), rv (mR M a 27), rv (mR M a 28), rv (mR M a 29), rv (mR M a 30), rv (mR M a 31), rv (mR M a 32)]
theorem mE_6 {aC : Nat → ClassId} {M : Mm} {a : Nat} (h : (mT M a).1 = 6) : mE aC M a = .inr (5, fs6 M a) := by simp only [mE, h]
theorem mE_7 {aC : Nat → ClassId} {M : Mm} {a : Nat} (h : (mT M a).1 = 7) : mE aC M a = .inl (aC 7, mL M a, .inl (mI M a)) := by simp only [mE, h]
theorem mE_8 {aC : Nat → ClassId} {M : Mm} {a : Nat} (h : (mT M a).1 = 8) : mE aC M a = .inl (aC 8, mL M a, .inl (mI M a)) := by simp only [mE, h]
theorem mE_9 {aC : Nat → ClassId} {M : Mm} {a : Nat} (h : (mT M a).1 = 9) : mE aC M a = .inl (aC 9, mL M a, .inr (.inr (.inr (.inr (fun j => ro (mR M a j)))))) := by simp only [mE, h]
theorem mE_10 {aC : Nat → ClassId} {M : Mm} {a : Nat} (h : (mT M a).1 = 10) : mE aC M a = .inl (aC 10, mL M a, .inr (.inr (.inr (.inr (fun j => ro (mR M a j)))))) := by simp only [mE, h]
theorem mE_11 {aC : Nat → ClassId} {M : Mm} {a : Nat} (h : (mT M a).1 = 11) : mE aC M a = .inl (aC 11, mL M a, .inr (.inr (.inr (.inr (fun j => ro (mR M a j)))))) := by simp only [mE, h]
theorem mE_12 {aC : Nat → ClassId} {M : Mm} {a : Nat} (h : (mT M a).1 = 12) : mE aC M a = .inl (aC 12, mL M a, .inr (.inl (mJ M a))) := by simp only [mE, h]
theorem mE_13 {aC : Nat → ClassId} {M : Mm} {a : Nat} (h : (mT M a).1 = 13) : mE aC M a = .inl (aC 13, mL M a, .inr (.inr (.inr (.inl (mD M a))))) := by simp only [mE, h]
theorem pI_ne {aC : Nat → ClassId} {M : Mm} {a j : Nat} {v : Int32} (b : Nat) (h : b ≠ a) : mE aC (pI M a j v) b = mE aC M b := mE_tag rfl rfl (up2_row _ _ _ h) rfl rfl rfl
theorem pR_ne {aC : Nat → ClassId} {M : Mm} {a j : Nat} {v : Nat} (b : Nat) (h : b ≠ a) : mE aC (pR M a j v) b = mE aC M b := mE_tag rfl rfl rfl (up2_row _ _ _ h) rfl rfl
theorem pJ_ne {aC : Nat → ClassId} {M : Mm} {a j : Nat} {v : Int64} (b : Nat) (h : b ≠ a) : mE aC (pJ M a j v) b = mE aC M b := mE_tag rfl rfl rfl rfl (up2_row _ _ _ h) rfl
theorem pD_ne {aC : Nat → ClassId} {M : Mm} {a j : Nat} {v : UInt64} (b : Nat) (h : b ≠ a) : mE aC (pD M a j v) b = mE aC M b := mE_tag rfl rfl rfl rfl rfl (up2_row _ _ _ h)
theorem nwM_ne {aC : Nat → ClassId} {M : Mm} {a n : Nat} {t : Nat × Nat} (b : Nat) (h : b ≠ a) : mE aC (nwM M a t n) b = mE aC M b := mE_tag (by simp [mT, nwM, va_up_ne _ _ h]) (by simp [mL, nwM, va_up_ne _ _ h]) (by funext j; simp [mI, nwM, h]) (by funext j; simp [mR, nwM, h]) (by funext j; simp [mJ, nwM, h]) (by funext j; simp [mD, nwM, h])
theorem rv_nar (ty : FieldType) (v : Nat) : narrow ty (rv v) = rv v := by
  rcases rv_or v with h | ⟨b, h⟩
  · rw [h]; cases ty <;> rfl
  · rw [h]; cases ty <;> rfl
theorem rv_fit (ty : FieldType) (hty : (∃ c, ty = .object c) ∨ ∃ t, ty = .array t) (v : Nat) : fits ty (rv v) = true := by
  rcases rv_or v with h | ⟨b, h⟩ <;> rw [h] <;> rcases hty with ⟨c, rfl⟩ | ⟨t, rfl⟩ <;> rfl
def LkF (own : String) (idx : Nat) (T : u_T) (N j : Nat) : Prop := Cond.fieldLink own idx (T j).1 (T j).2.1 (T j).2.2.1 ∈ AW ∧ j < N
theorem J_get1 {G : Gt} {γ : Γt} {own : String} {cc : ByteArray} {ret : Option FieldType} {M : Mm} {pc : Nat} {ls : List (Option Value)} {st : List Value} {k n d mc ms : Nat} {Qr : Option Value → Mm → Prop} {Qx : String → Mm → Prop} {lh : Launch} {nL : Nat} {nm : String} {a idx j : Nat} {v : Value} (hC : Cok G γ own cc ret d mc ms Qr Qx lh nL nm) (lk : LkF own idx TX0 7 j) (ht : (mT M a).1 = 1) (hv : (fs1 M a)[j]? = some v) (dg : decode cc pc = .ok (.getfield idx, 3)) (kk : J G γ M (pc + 3) ls (v :: st) k n) : J G γ M pc ls (rv a :: st) k n := by
  obtain ⟨p, l, e, R, s, m, args, below, meth, c, Qr1, Qx1, mc1, ms1, nL1⟩ := γ
  obtain ⟨hx, hb, hr, hml, hown, hts, hlk, hex, hG, hLow, hst, h0, rfl, rfl, rfl, rfl, rfl, rfl, rfl, hnm⟩ := hC
  intro H locs lsA hR hS hl
  rw [rv_pos (n := a) (hR.ne (a := a) (by rw [ht]; decide))]
  obtain ⟨hg0, L, hL, hP, hD⟩ := id hR
  obtain ⟨q, hq⟩ := va_pl_get (X := []) (f := mE G.2.1 M) ((hL a).mpr (by rw [ht]; decide))
  have hq0 : (va_pl L (mE G.2.1 M))[q]? = some (a, mE G.2.1 M a) := hq
  have hq : (va_pl L (mE G.2.1 M))[q]? = some (a, .inr (0, fs1 M a)) := by rw [← mE_1 ht]; exact hq0
  exact va_get (C := RX0) (T := TX0) (N := 7) hx hb hts lay0 hown hG.1 hP q hq rfl j lk.2 (hts _ lk.1) (fun x h => h) hv dg (kk H locs lsA hR hS hl)
theorem fset1_0 (M : Mm) (a : Nat) (v : Int32) : fs1 (pI M a 0 v) a = (fs1 M a).set 0 (.int v) := by simp [fs1, pI, mI, mR, mJ, up2]
theorem J_put1_0 {G : Gt} {γ : Γt} {own : String} {cc : ByteArray} {ret : Option FieldType} {M : Mm} {pc : Nat} {ls : List (Option Value)} {st : List Value} {k n d mc ms : Nat} {Qr : Option Value → Mm → Prop} {Qx : String → Mm → Prop} {lh : Launch} {nL : Nat} {nm : String} {a idx : Nat} {v : Int32} (hC : Cok G γ own cc ret d mc ms Qr Qx lh nL nm) (lk : LkF own idx TX0 7 0) (ht : (mT M a).1 = 1) (hin : nm = "<init>") (hdecl : own = RX0) (dg : decode cc pc = .ok (.putfield idx, 3)) (kk : J G γ (pI M a 0 v) (pc + 3) ls st k n) : J G γ M pc ls (.int v :: rv a :: st) k n := by
  obtain ⟨p, l, e, R, s, m, args, below, meth, c, Qr1, Qx1, mc1, ms1, nL1⟩ := γ
  obtain ⟨hx, hb, hr, hml, hown, hts, hlk, hex, hG, hLow, hst, h0, rfl, rfl, rfl, rfl, rfl, rfl, rfl, hnm⟩ := hC
  intro H locs lsA hR hS hl
  rw [rv_pos (n := a) (hR.ne (a := a) (by rw [ht]; decide))]
  obtain ⟨hg0, L, hL, hP, hD⟩ := id hR
  obtain ⟨q, hq⟩ := va_pl_get (X := []) (f := mE G.2.1 M) ((hL a).mpr (by rw [ht]; decide))
  have hq0 : (va_pl L (mE G.2.1 M))[q]? = some (a, mE G.2.1 M a) := hq
  have hq : (va_pl L (mE G.2.1 M))[q]? = some (a, .inr (0, fs1 M a)) := by rw [← mE_1 ht]; exact hq0
  refine va_putF (C := RX0) (T := TX0) (N := 7) (ty := .int) hx hb hts lay0 tyX0 tyX0_ok nmX0 hown hG.1 hP hD hS q hq rfl 0 (by decide) (hts _ lk.1) (fun x h => h) rfl (hnm.trans hin) (by rw [hdecl]; rfl) (by decide +kernel) rfl rfl (Nat.le_of_ble_eq_true rfl) dg (fun H1 locs1 hP1 hD1 hS1 => kk H1 locs1 lsA ?_ hS1 hl)
  exact Rep.set hg0 hL hD (by rw [ht]; decide) hq0 (fun b => rfl) (by rw [mE_1 (M := pI M a 0 v) ht, fset1_0]) (fun b hb => pI_ne b hb) hP1 hD1
theorem fset1_1 (M : Mm) (a : Nat) (v : Int32) : fs1 (pI M a 1 v) a = (fs1 M a).set 1 (.int v) := by simp [fs1, pI, mI, mR, mJ, up2]
theorem J_put1_1 {G : Gt} {γ : Γt} {own : String} {cc : ByteArray} {ret : Option FieldType} {M : Mm} {pc : Nat} {ls : List (Option Value)} {st : List Value} {k n d mc ms : Nat} {Qr : Option Value → Mm → Prop} {Qx : String → Mm → Prop} {lh : Launch} {nL : Nat} {nm : String} {a idx : Nat} {v : Int32} (hC : Cok G γ own cc ret d mc ms Qr Qx lh nL nm) (lk : LkF own idx TX0 7 1) (ht : (mT M a).1 = 1) (hin : nm = "<init>") (hdecl : own = RX0) (dg : decode cc pc = .ok (.putfield idx, 3)) (kk : J G γ (pI M a 1 v) (pc + 3) ls st k n) : J G γ M pc ls (.int v :: rv a :: st) k n := by
  obtain ⟨p, l, e, R, s, m, args, below, meth, c, Qr1, Qx1, mc1, ms1, nL1⟩ := γ
  obtain ⟨hx, hb, hr, hml, hown, hts, hlk, hex, hG, hLow, hst, h0, rfl, rfl, rfl, rfl, rfl, rfl, rfl, hnm⟩ := hC
  intro H locs lsA hR hS hl
  rw [rv_pos (n := a) (hR.ne (a := a) (by rw [ht]; decide))]
  obtain ⟨hg0, L, hL, hP, hD⟩ := id hR
  obtain ⟨q, hq⟩ := va_pl_get (X := []) (f := mE G.2.1 M) ((hL a).mpr (by rw [ht]; decide))
  have hq0 : (va_pl L (mE G.2.1 M))[q]? = some (a, mE G.2.1 M a) := hq
  have hq : (va_pl L (mE G.2.1 M))[q]? = some (a, .inr (0, fs1 M a)) := by rw [← mE_1 ht]; exact hq0
  refine va_putF (C := RX0) (T := TX0) (N := 7) (ty := .int) hx hb hts lay0 tyX0 tyX0_ok nmX0 hown hG.1 hP hD hS q hq rfl 1 (by decide) (hts _ lk.1) (fun x h => h) rfl (hnm.trans hin) (by rw [hdecl]; rfl) (by decide +kernel) rfl rfl (Nat.le_of_ble_eq_true rfl) dg (fun H1 locs1 hP1 hD1 hS1 => kk H1 locs1 lsA ?_ hS1 hl)
  exact Rep.set hg0 hL hD (by rw [ht]; decide) hq0 (fun b => rfl) (by rw [mE_1 (M := pI M a 1 v) ht, fset1_1]) (fun b hb => pI_ne b hb) hP1 hD1
theorem fset1_2 (M : Mm) (a : Nat) (v : Int32) : fs1 (pI M a 2 v) a = (fs1 M a).set 2 (.int v) := by simp [fs1, pI, mI, mR, mJ, up2]
theorem J_put1_2 {G : Gt} {γ : Γt} {own : String} {cc : ByteArray} {ret : Option FieldType} {M : Mm} {pc : Nat} {ls : List (Option Value)} {st : List Value} {k n d mc ms : Nat} {Qr : Option Value → Mm → Prop} {Qx : String → Mm → Prop} {lh : Launch} {nL : Nat} {nm : String} {a idx : Nat} {v : Int32} (hC : Cok G γ own cc ret d mc ms Qr Qx lh nL nm) (lk : LkF own idx TX0 7 2) (ht : (mT M a).1 = 1) (hin : nm = "<init>") (hdecl : own = RX0) (dg : decode cc pc = .ok (.putfield idx, 3)) (kk : J G γ (pI M a 2 v) (pc + 3) ls st k n) : J G γ M pc ls (.int v :: rv a :: st) k n := by
  obtain ⟨p, l, e, R, s, m, args, below, meth, c, Qr1, Qx1, mc1, ms1, nL1⟩ := γ
  obtain ⟨hx, hb, hr, hml, hown, hts, hlk, hex, hG, hLow, hst, h0, rfl, rfl, rfl, rfl, rfl, rfl, rfl, hnm⟩ := hC
  intro H locs lsA hR hS hl
  rw [rv_pos (n := a) (hR.ne (a := a) (by rw [ht]; decide))]
  obtain ⟨hg0, L, hL, hP, hD⟩ := id hR
  obtain ⟨q, hq⟩ := va_pl_get (X := []) (f := mE G.2.1 M) ((hL a).mpr (by rw [ht]; decide))
  have hq0 : (va_pl L (mE G.2.1 M))[q]? = some (a, mE G.2.1 M a) := hq
  have hq : (va_pl L (mE G.2.1 M))[q]? = some (a, .inr (0, fs1 M a)) := by rw [← mE_1 ht]; exact hq0
  refine va_putF (C := RX0) (T := TX0) (N := 7) (ty := .int) hx hb hts lay0 tyX0 tyX0_ok nmX0 hown hG.1 hP hD hS q hq rfl 2 (by decide) (hts _ lk.1) (fun x h => h) rfl (hnm.trans hin) (by rw [hdecl]; rfl) (by decide +kernel) rfl rfl (Nat.le_of_ble_eq_true rfl) dg (fun H1 locs1 hP1 hD1 hS1 => kk H1 locs1 lsA ?_ hS1 hl)
  exact Rep.set hg0 hL hD (by rw [ht]; decide) hq0 (fun b => rfl) (by rw [mE_1 (M := pI M a 2 v) ht, fset1_2]) (fun b hb => pI_ne b hb) hP1 hD1
theorem fset1_3 (M : Mm) (a : Nat) (v : Int32) : fs1 (pI M a 3 v) a = (fs1 M a).set 3 (.int v) := by simp [fs1, pI, mI, mR, mJ, up2]
theorem J_put1_3 {G : Gt} {γ : Γt} {own : String} {cc : ByteArray} {ret : Option FieldType} {M : Mm} {pc : Nat} {ls : List (Option Value)} {st : List Value} {k n d mc ms : Nat} {Qr : Option Value → Mm → Prop} {Qx : String → Mm → Prop} {lh : Launch} {nL : Nat} {nm : String} {a idx : Nat} {v : Int32} (hC : Cok G γ own cc ret d mc ms Qr Qx lh nL nm) (lk : LkF own idx TX0 7 3) (ht : (mT M a).1 = 1) (hin : nm = "<init>") (hdecl : own = RX0) (dg : decode cc pc = .ok (.putfield idx, 3)) (kk : J G γ (pI M a 3 v) (pc + 3) ls st k n) : J G γ M pc ls (.int v :: rv a :: st) k n := by
  obtain ⟨p, l, e, R, s, m, args, below, meth, c, Qr1, Qx1, mc1, ms1, nL1⟩ := γ
  obtain ⟨hx, hb, hr, hml, hown, hts, hlk, hex, hG, hLow, hst, h0, rfl, rfl, rfl, rfl, rfl, rfl, rfl, hnm⟩ := hC
  intro H locs lsA hR hS hl
  rw [rv_pos (n := a) (hR.ne (a := a) (by rw [ht]; decide))]
  obtain ⟨hg0, L, hL, hP, hD⟩ := id hR
  obtain ⟨q, hq⟩ := va_pl_get (X := []) (f := mE G.2.1 M) ((hL a).mpr (by rw [ht]; decide))
  have hq0 : (va_pl L (mE G.2.1 M))[q]? = some (a, mE G.2.1 M a) := hq
  have hq : (va_pl L (mE G.2.1 M))[q]? = some (a, .inr (0, fs1 M a)) := by rw [← mE_1 ht]; exact hq0
  refine va_putF (C := RX0) (T := TX0) (N := 7) (ty := .int) hx hb hts lay0 tyX0 tyX0_ok nmX0 hown hG.1 hP hD hS q hq rfl 3 (by decide) (hts _ lk.1) (fun x h => h) rfl (hnm.trans hin) (by rw [hdecl]; rfl) (by decide +kernel) rfl rfl (Nat.le_of_ble_eq_true rfl) dg (fun H1 locs1 hP1 hD1 hS1 => kk H1 locs1 lsA ?_ hS1 hl)
  exact Rep.set hg0 hL hD (by rw [ht]; decide) hq0 (fun b => rfl) (by rw [mE_1 (M := pI M a 3 v) ht, fset1_3]) (fun b hb => pI_ne b hb) hP1 hD1
theorem fset1_4 (M : Mm) (a : Nat) (v : Int32) : fs1 (pI M a 4 v) a = (fs1 M a).set 4 (.int v) := by simp [fs1, pI, mI, mR, mJ, up2]
theorem J_put1_4 {G : Gt} {γ : Γt} {own : String} {cc : ByteArray} {ret : Option FieldType} {M : Mm} {pc : Nat} {ls : List (Option Value)} {st : List Value} {k n d mc ms : Nat} {Qr : Option Value → Mm → Prop} {Qx : String → Mm → Prop} {lh : Launch} {nL : Nat} {nm : String} {a idx : Nat} {v : Int32} (hC : Cok G γ own cc ret d mc ms Qr Qx lh nL nm) (lk : LkF own idx TX0 7 4) (ht : (mT M a).1 = 1) (hin : nm = "<init>") (hdecl : own = RX0) (dg : decode cc pc = .ok (.putfield idx, 3)) (kk : J G γ (pI M a 4 v) (pc + 3) ls st k n) : J G γ M pc ls (.int v :: rv a :: st) k n := by
  obtain ⟨p, l, e, R, s, m, args, below, meth, c, Qr1, Qx1, mc1, ms1, nL1⟩ := γ
  obtain ⟨hx, hb, hr, hml, hown, hts, hlk, hex, hG, hLow, hst, h0, rfl, rfl, rfl, rfl, rfl, rfl, rfl, hnm⟩ := hC
  intro H locs lsA hR hS hl
  rw [rv_pos (n := a) (hR.ne (a := a) (by rw [ht]; decide))]
  obtain ⟨hg0, L, hL, hP, hD⟩ := id hR
  obtain ⟨q, hq⟩ := va_pl_get (X := []) (f := mE G.2.1 M) ((hL a).mpr (by rw [ht]; decide))
  have hq0 : (va_pl L (mE G.2.1 M))[q]? = some (a, mE G.2.1 M a) := hq
  have hq : (va_pl L (mE G.2.1 M))[q]? = some (a, .inr (0, fs1 M a)) := by rw [← mE_1 ht]; exact hq0
  refine va_putF (C := RX0) (T := TX0) (N := 7) (ty := .int) hx hb hts lay0 tyX0 tyX0_ok nmX0 hown hG.1 hP hD hS q hq rfl 4 (by decide) (hts _ lk.1) (fun x h => h) rfl (hnm.trans hin) (by rw [hdecl]; rfl) (by decide +kernel) rfl rfl (Nat.le_of_ble_eq_true rfl) dg (fun H1 locs1 hP1 hD1 hS1 => kk H1 locs1 lsA ?_ hS1 hl)
  exact Rep.set hg0 hL hD (by rw [ht]; decide) hq0 (fun b => rfl) (by rw [mE_1 (M := pI M a 4 v) ht, fset1_4]) (fun b hb => pI_ne b hb) hP1 hD1
theorem fset1_5 (M : Mm) (a : Nat) (v : Int32) : fs1 (pI M a 5 v) a = (fs1 M a).set 5 (.int v) := by simp [fs1, pI, mI, mR, mJ, up2]
theorem J_put1_5 {G : Gt} {γ : Γt} {own : String} {cc : ByteArray} {ret : Option FieldType} {M : Mm} {pc : Nat} {ls : List (Option Value)} {st : List Value} {k n d mc ms : Nat} {Qr : Option Value → Mm → Prop} {Qx : String → Mm → Prop} {lh : Launch} {nL : Nat} {nm : String} {a idx : Nat} {v : Int32} (hC : Cok G γ own cc ret d mc ms Qr Qx lh nL nm) (lk : LkF own idx TX0 7 5) (ht : (mT M a).1 = 1) (hn : narrow .char (.int v) = .int v) (hfit : fits .char (.int v) = true) (dg : decode cc pc = .ok (.putfield idx, 3)) (kk : J G γ (pI M a 5 v) (pc + 3) ls st k n) : J G γ M pc ls (.int v :: rv a :: st) k n := by
  obtain ⟨p, l, e, R, s, m, args, below, meth, c, Qr1, Qx1, mc1, ms1, nL1⟩ := γ
  obtain ⟨hx, hb, hr, hml, hown, hts, hlk, hex, hG, hLow, hst, h0, rfl, rfl, rfl, rfl, rfl, rfl, rfl, hnm⟩ := hC
  intro H locs lsA hR hS hl
  rw [rv_pos (n := a) (hR.ne (a := a) (by rw [ht]; decide))]
  obtain ⟨hg0, L, hL, hP, hD⟩ := id hR
  obtain ⟨q, hq⟩ := va_pl_get (X := []) (f := mE G.2.1 M) ((hL a).mpr (by rw [ht]; decide))
  have hq0 : (va_pl L (mE G.2.1 M))[q]? = some (a, mE G.2.1 M a) := hq
  have hq : (va_pl L (mE G.2.1 M))[q]? = some (a, .inr (0, fs1 M a)) := by rw [← mE_1 ht]; exact hq0
  refine va_put (C := RX0) (T := TX0) (N := 7) (ty := .char) hx hb hts lay0 tyX0 tyX0_ok nmX0 hown hG.1 hP hD hS q hq rfl 5 (by decide) (hts _ lk.1) (fun x h => h) rfl (by decide +kernel) hn hfit (Nat.le_of_ble_eq_true rfl) dg (fun H1 locs1 hP1 hD1 hS1 => kk H1 locs1 lsA ?_ hS1 hl)
  exact Rep.set hg0 hL hD (by rw [ht]; decide) hq0 (fun b => rfl) (by rw [mE_1 (M := pI M a 5 v) ht, fset1_5]) (fun b hb => pI_ne b hb) hP1 hD1
theorem fset1_6 (M : Mm) (a : Nat) (v : Int32) : fs1 (pI M a 6 v) a = (fs1 M a).set 6 (.int v) := by simp [fs1, pI, mI, mR, mJ, up2]
theorem J_put1_6 {G : Gt} {γ : Γt} {own : String} {cc : ByteArray} {ret : Option FieldType} {M : Mm} {pc : Nat} {ls : List (Option Value)} {st : List Value} {k n d mc ms : Nat} {Qr : Option Value → Mm → Prop} {Qx : String → Mm → Prop} {lh : Launch} {nL : Nat} {nm : String} {a idx : Nat} {v : Int32} (hC : Cok G γ own cc ret d mc ms Qr Qx lh nL nm) (lk : LkF own idx TX0 7 6) (ht : (mT M a).1 = 1) (dg : decode cc pc = .ok (.putfield idx, 3)) (kk : J G γ (pI M a 6 v) (pc + 3) ls st k n) : J G γ M pc ls (.int v :: rv a :: st) k n := by
  obtain ⟨p, l, e, R, s, m, args, below, meth, c, Qr1, Qx1, mc1, ms1, nL1⟩ := γ
  obtain ⟨hx, hb, hr, hml, hown, hts, hlk, hex, hG, hLow, hst, h0, rfl, rfl, rfl, rfl, rfl, rfl, rfl, hnm⟩ := hC
  intro H locs lsA hR hS hl
  rw [rv_pos (n := a) (hR.ne (a := a) (by rw [ht]; decide))]
  obtain ⟨hg0, L, hL, hP, hD⟩ := id hR
  obtain ⟨q, hq⟩ := va_pl_get (X := []) (f := mE G.2.1 M) ((hL a).mpr (by rw [ht]; decide))
  have hq0 : (va_pl L (mE G.2.1 M))[q]? = some (a, mE G.2.1 M a) := hq
  have hq : (va_pl L (mE G.2.1 M))[q]? = some (a, .inr (0, fs1 M a)) := by rw [← mE_1 ht]; exact hq0
  refine va_put (C := RX0) (T := TX0) (N := 7) (ty := .int) hx hb hts lay0 tyX0 tyX0_ok nmX0 hown hG.1 hP hD hS q hq rfl 6 (by decide) (hts _ lk.1) (fun x h => h) rfl (by decide +kernel) rfl rfl (Nat.le_of_ble_eq_true rfl) dg (fun H1 locs1 hP1 hD1 hS1 => kk H1 locs1 lsA ?_ hS1 hl)
  exact Rep.set hg0 hL hD (by rw [ht]; decide) hq0 (fun b => rfl) (by rw [mE_1 (M := pI M a 6 v) ht, fset1_6]) (fun b hb => pI_ne b hb) hP1 hD1
theorem J_get2 {G : Gt} {γ : Γt} {own : String} {cc : ByteArray} {ret : Option FieldType} {M : Mm} {pc : Nat} {ls : List (Option Value)} {st : List Value} {k n d mc ms : Nat} {Qr : Option Value → Mm → Prop} {Qx : String → Mm → Prop} {lh : Launch} {nL : Nat} {nm : String} {a idx j : Nat} {v : Value} (hC : Cok G γ own cc ret d mc ms Qr Qx lh nL nm) (lk : LkF own idx TX1 4 j) (ht : (mT M a).1 = 2) (hv : (fs2 M a)[j]? = some v) (dg : decode cc pc = .ok (.getfield idx, 3)) (kk : J G γ M (pc + 3) ls (v :: st) k n) : J G γ M pc ls (rv a :: st) k n := by
  obtain ⟨p, l, e, R, s, m, args, below, meth, c, Qr1, Qx1, mc1, ms1, nL1⟩ := γ
  obtain ⟨hx, hb, hr, hml, hown, hts, hlk, hex, hG, hLow, hst, h0, rfl, rfl, rfl, rfl, rfl, rfl, rfl, hnm⟩ := hC
  intro H locs lsA hR hS hl
  rw [rv_pos (n := a) (hR.ne (a := a) (by rw [ht]; decide))]
  obtain ⟨hg0, L, hL, hP, hD⟩ := id hR
  obtain ⟨q, hq⟩ := va_pl_get (X := []) (f := mE G.2.1 M) ((hL a).mpr (by rw [ht]; decide))
  have hq0 : (va_pl L (mE G.2.1 M))[q]? = some (a, mE G.2.1 M a) := hq
  have hq : (va_pl L (mE G.2.1 M))[q]? = some (a, .inr (1, fs2 M a)) := by rw [← mE_2 ht]; exact hq0
  exact va_get (C := RX1) (T := TX1) (N := 4) hx hb hts lay1 hown hG.1 hP q hq rfl j lk.2 (hts _ lk.1) (fun x h => h) hv dg (kk H locs lsA hR hS hl)
theorem fset2_0 (M : Mm) (a : Nat) (v : Int32) : fs2 (pI M a 0 v) a = (fs2 M a).set 0 (.int v) := by simp [fs2, pI, mI, mR, mJ, up2]
theorem J_put2_0 {G : Gt} {γ : Γt} {own : String} {cc : ByteArray} {ret : Option FieldType} {M : Mm} {pc : Nat} {ls : List (Option Value)} {st : List Value} {k n d mc ms : Nat} {Qr : Option Value → Mm → Prop} {Qx : String → Mm → Prop} {lh : Launch} {nL : Nat} {nm : String} {a idx : Nat} {v : Int32} (hC : Cok G γ own cc ret d mc ms Qr Qx lh nL nm) (lk : LkF own idx TX1 4 0) (ht : (mT M a).1 = 2) (hin : nm = "<init>") (hdecl : own = RX1) (dg : decode cc pc = .ok (.putfield idx, 3)) (kk : J G γ (pI M a 0 v) (pc + 3) ls st k n) : J G γ M pc ls (.int v :: rv a :: st) k n := by
  obtain ⟨p, l, e, R, s, m, args, below, meth, c, Qr1, Qx1, mc1, ms1, nL1⟩ := γ
  obtain ⟨hx, hb, hr, hml, hown, hts, hlk, hex, hG, hLow, hst, h0, rfl, rfl, rfl, rfl, rfl, rfl, rfl, hnm⟩ := hC
  intro H locs lsA hR hS hl
  rw [rv_pos (n := a) (hR.ne (a := a) (by rw [ht]; decide))]
  obtain ⟨hg0, L, hL, hP, hD⟩ := id hR
  obtain ⟨q, hq⟩ := va_pl_get (X := []) (f := mE G.2.1 M) ((hL a).mpr (by rw [ht]; decide))
  have hq0 : (va_pl L (mE G.2.1 M))[q]? = some (a, mE G.2.1 M a) := hq
  have hq : (va_pl L (mE G.2.1 M))[q]? = some (a, .inr (1, fs2 M a)) := by rw [← mE_2 ht]; exact hq0
  refine va_putF (C := RX1) (T := TX1) (N := 4) (ty := .int) hx hb hts lay1 tyX1 tyX1_ok nmX1 hown hG.1 hP hD hS q hq rfl 0 (by decide) (hts _ lk.1) (fun x h => h) rfl (hnm.trans hin) (by rw [hdecl]; rfl) (by decide +kernel) rfl rfl (Nat.le_of_ble_eq_true rfl) dg (fun H1 locs1 hP1 hD1 hS1 => kk H1 locs1 lsA ?_ hS1 hl)
  exact Rep.set hg0 hL hD (by rw [ht]; decide) hq0 (fun b => rfl) (by rw [mE_2 (M := pI M a 0 v) ht, fset2_0]) (fun b hb => pI_ne b hb) hP1 hD1
theorem fset2_1 (M : Mm) (a : Nat) (v : Nat) : fs2 (pR M a 1 v) a = (fs2 M a).set 1 (rv v) := by simp [fs2, pR, mI, mR, mJ, up2]
theorem J_put2_1 {G : Gt} {γ : Γt} {own : String} {cc : ByteArray} {ret : Option FieldType} {M : Mm} {pc : Nat} {ls : List (Option Value)} {st : List Value} {k n d mc ms : Nat} {Qr : Option Value → Mm → Prop} {Qx : String → Mm → Prop} {lh : Launch} {nL : Nat} {nm : String} {a idx : Nat} {v : Nat} (hC : Cok G γ own cc ret d mc ms Qr Qx lh nL nm) (lk : LkF own idx TX1 4 1) (ht : (mT M a).1 = 2) (hin : nm = "<init>") (hdecl : own = RX1) (dg : decode cc pc = .ok (.putfield idx, 3)) (kk : J G γ (pR M a 1 v) (pc + 3) ls st k n) : J G γ M pc ls (rv v :: rv a :: st) k n := by
  obtain ⟨p, l, e, R, s, m, args, below, meth, c, Qr1, Qx1, mc1, ms1, nL1⟩ := γ
  obtain ⟨hx, hb, hr, hml, hown, hts, hlk, hex, hG, hLow, hst, h0, rfl, rfl, rfl, rfl, rfl, rfl, rfl, hnm⟩ := hC
  intro H locs lsA hR hS hl
  rw [rv_pos (n := a) (hR.ne (a := a) (by rw [ht]; decide))]
  obtain ⟨hg0, L, hL, hP, hD⟩ := id hR
  obtain ⟨q, hq⟩ := va_pl_get (X := []) (f := mE G.2.1 M) ((hL a).mpr (by rw [ht]; decide))
  have hq0 : (va_pl L (mE G.2.1 M))[q]? = some (a, mE G.2.1 M a) := hq
  have hq : (va_pl L (mE G.2.1 M))[q]? = some (a, .inr (1, fs2 M a)) := by rw [← mE_2 ht]; exact hq0
  refine va_putF (C := RX1) (T := TX1) (N := 4) (ty := tyX1 1) hx hb hts lay1 tyX1 tyX1_ok nmX1 hown hG.1 hP hD hS q hq rfl 1 (by decide) (hts _ lk.1) (fun x h => h) rfl (hnm.trans hin) (by rw [hdecl]; rfl) (by decide +kernel) (rv_nar _ v) (rv_fit _ (by first | exact Or.inl ⟨_, rfl⟩ | exact Or.inr ⟨_, rfl⟩) v) (Nat.le_of_ble_eq_true rfl) dg (fun H1 locs1 hP1 hD1 hS1 => kk H1 locs1 lsA ?_ hS1 hl)
  exact Rep.set hg0 hL hD (by rw [ht]; decide) hq0 (fun b => rfl) (by rw [mE_2 (M := pR M a 1 v) ht, fset2_1]) (fun b hb => pR_ne b hb) hP1 hD1
theorem fset2_2 (M : Mm) (a : Nat) (v : Int32) : fs2 (pI M a 2 v) a = (fs2 M a).set 2 (.int v) := by simp [fs2, pI, mI, mR, mJ, up2]
theorem J_put2_2 {G : Gt} {γ : Γt} {own : String} {cc : ByteArray} {ret : Option FieldType} {M : Mm} {pc : Nat} {ls : List (Option Value)} {st : List Value} {k n d mc ms : Nat} {Qr : Option Value → Mm → Prop} {Qx : String → Mm → Prop} {lh : Launch} {nL : Nat} {nm : String} {a idx : Nat} {v : Int32} (hC : Cok G γ own cc ret d mc ms Qr Qx lh nL nm) (lk : LkF own idx TX1 4 2) (ht : (mT M a).1 = 2) (dg : decode cc pc = .ok (.putfield idx, 3)) (kk : J G γ (pI M a 2 v) (pc + 3) ls st k n) : J G γ M pc ls (.int v :: rv a :: st) k n := by
  obtain ⟨p, l, e, R, s, m, args, below, meth, c, Qr1, Qx1, mc1, ms1, nL1⟩ := γ
  obtain ⟨hx, hb, hr, hml, hown, hts, hlk, hex, hG, hLow, hst, h0, rfl, rfl, rfl, rfl, rfl, rfl, rfl, hnm⟩ := hC
  intro H locs lsA hR hS hl
  rw [rv_pos (n := a) (hR.ne (a := a) (by rw [ht]; decide))]
  obtain ⟨hg0, L, hL, hP, hD⟩ := id hR
  obtain ⟨q, hq⟩ := va_pl_get (X := []) (f := mE G.2.1 M) ((hL a).mpr (by rw [ht]; decide))
  have hq0 : (va_pl L (mE G.2.1 M))[q]? = some (a, mE G.2.1 M a) := hq
  have hq : (va_pl L (mE G.2.1 M))[q]? = some (a, .inr (1, fs2 M a)) := by rw [← mE_2 ht]; exact hq0
  refine va_put (C := RX1) (T := TX1) (N := 4) (ty := .int) hx hb hts lay1 tyX1 tyX1_ok nmX1 hown hG.1 hP hD hS q hq rfl 2 (by decide) (hts _ lk.1) (fun x h => h) rfl (by decide +kernel) rfl rfl (Nat.le_of_ble_eq_true rfl) dg (fun H1 locs1 hP1 hD1 hS1 => kk H1 locs1 lsA ?_ hS1 hl)
  exact Rep.set hg0 hL hD (by rw [ht]; decide) hq0 (fun b => rfl) (by rw [mE_2 (M := pI M a 2 v) ht, fset2_2]) (fun b hb => pI_ne b hb) hP1 hD1
theorem fset2_3 (M : Mm) (a : Nat) (v : Int32) : fs2 (pI M a 3 v) a = (fs2 M a).set 3 (.int v) := by simp [fs2, pI, mI, mR, mJ, up2]
theorem J_put2_3 {G : Gt} {γ : Γt} {own : String} {cc : ByteArray} {ret : Option FieldType} {M : Mm} {pc : Nat} {ls : List (Option Value)} {st : List Value} {k n d mc ms : Nat} {Qr : Option Value → Mm → Prop} {Qx : String → Mm → Prop} {lh : Launch} {nL : Nat} {nm : String} {a idx : Nat} {v : Int32} (hC : Cok G γ own cc ret d mc ms Qr Qx lh nL nm) (lk : LkF own idx TX1 4 3) (ht : (mT M a).1 = 2) (dg : decode cc pc = .ok (.putfield idx, 3)) (kk : J G γ (pI M a 3 v) (pc + 3) ls st k n) : J G γ M pc ls (.int v :: rv a :: st) k n := by
  obtain ⟨p, l, e, R, s, m, args, below, meth, c, Qr1, Qx1, mc1, ms1, nL1⟩ := γ
  obtain ⟨hx, hb, hr, hml, hown, hts, hlk, hex, hG, hLow, hst, h0, rfl, rfl, rfl, rfl, rfl, rfl, rfl, hnm⟩ := hC
  intro H locs lsA hR hS hl
  rw [rv_pos (n := a) (hR.ne (a := a) (by rw [ht]; decide))]
  obtain ⟨hg0, L, hL, hP, hD⟩ := id hR
  obtain ⟨q, hq⟩ := va_pl_get (X := []) (f := mE G.2.1 M) ((hL a).mpr (by rw [ht]; decide))
  have hq0 : (va_pl L (mE G.2.1 M))[q]? = some (a, mE G.2.1 M a) := hq
  have hq : (va_pl L (mE G.2.1 M))[q]? = some (a, .inr (1, fs2 M a)) := by rw [← mE_2 ht]; exact hq0
  refine va_put (C := RX1) (T := TX1) (N := 4) (ty := .int) hx hb hts lay1 tyX1 tyX1_ok nmX1 hown hG.1 hP hD hS q hq rfl 3 (by decide) (hts _ lk.1) (fun x h => h) rfl (by decide +kernel) rfl rfl (Nat.le_of_ble_eq_true rfl) dg (fun H1 locs1 hP1 hD1 hS1 => kk H1 locs1 lsA ?_ hS1 hl)
  exact Rep.set hg0 hL hD (by rw [ht]; decide) hq0 (fun b => rfl) (by rw [mE_2 (M := pI M a 3 v) ht, fset2_3]) (fun b hb => pI_ne b hb) hP1 hD1
theorem J_get3 {G : Gt} {γ : Γt} {own : String} {cc : ByteArray} {ret : Option FieldType} {M : Mm} {pc : Nat} {ls : List (Option Value)} {st : List Value} {k n d mc ms : Nat} {Qr : Option Value → Mm → Prop} {Qx : String → Mm → Prop} {lh : Launch} {nL : Nat} {nm : String} {a idx j : Nat} {v : Value} (hC : Cok G γ own cc ret d mc ms Qr Qx lh nL nm) (lk : LkF own idx TX2 3 j) (ht : (mT M a).1 = 3) (hv : (fs3 M a)[j]? = some v) (dg : decode cc pc = .ok (.getfield idx, 3)) (kk : J G γ M (pc + 3) ls (v :: st) k n) : J G γ M pc ls (rv a :: st) k n := by
  obtain ⟨p, l, e, R, s, m, args, below, meth, c, Qr1, Qx1, mc1, ms1, nL1⟩ := γ
  obtain ⟨hx, hb, hr, hml, hown, hts, hlk, hex, hG, hLow, hst, h0, rfl, rfl, rfl, rfl, rfl, rfl, rfl, hnm⟩ := hC
  intro H locs lsA hR hS hl
  rw [rv_pos (n := a) (hR.ne (a := a) (by rw [ht]; decide))]
  obtain ⟨hg0, L, hL, hP, hD⟩ := id hR
  obtain ⟨q, hq⟩ := va_pl_get (X := []) (f := mE G.2.1 M) ((hL a).mpr (by rw [ht]; decide))
  have hq0 : (va_pl L (mE G.2.1 M))[q]? = some (a, mE G.2.1 M a) := hq
  have hq : (va_pl L (mE G.2.1 M))[q]? = some (a, .inr (2, fs3 M a)) := by rw [← mE_3 ht]; exact hq0
  exact va_get (C := RX2) (T := TX2) (N := 3) hx hb hts lay2 hown hG.1 hP q hq rfl j lk.2 (hts _ lk.1) (fun x h => h) hv dg (kk H locs lsA hR hS hl)
theorem fset3_0 (M : Mm) (a : Nat) (v : Nat) : fs3 (pR M a 0 v) a = (fs3 M a).set 0 (rv v) := by simp [fs3, pR, mI, mR, mJ, up2]
theorem J_put3_0 {G : Gt} {γ : Γt} {own : String} {cc : ByteArray} {ret : Option FieldType} {M : Mm} {pc : Nat} {ls : List (Option Value)} {st : List Value} {k n d mc ms : Nat} {Qr : Option Value → Mm → Prop} {Qx : String → Mm → Prop} {lh : Launch} {nL : Nat} {nm : String} {a idx : Nat} {v : Nat} (hC : Cok G γ own cc ret d mc ms Qr Qx lh nL nm) (lk : LkF own idx TX2 3 0) (ht : (mT M a).1 = 3) (dg : decode cc pc = .ok (.putfield idx, 3)) (kk : J G γ (pR M a 0 v) (pc + 3) ls st k n) : J G γ M pc ls (rv v :: rv a :: st) k n := by
  obtain ⟨p, l, e, R, s, m, args, below, meth, c, Qr1, Qx1, mc1, ms1, nL1⟩ := γ
  obtain ⟨hx, hb, hr, hml, hown, hts, hlk, hex, hG, hLow, hst, h0, rfl, rfl, rfl, rfl, rfl, rfl, rfl, hnm⟩ := hC
  intro H locs lsA hR hS hl
  rw [rv_pos (n := a) (hR.ne (a := a) (by rw [ht]; decide))]
  obtain ⟨hg0, L, hL, hP, hD⟩ := id hR
  obtain ⟨q, hq⟩ := va_pl_get (X := []) (f := mE G.2.1 M) ((hL a).mpr (by rw [ht]; decide))
  have hq0 : (va_pl L (mE G.2.1 M))[q]? = some (a, mE G.2.1 M a) := hq
  have hq : (va_pl L (mE G.2.1 M))[q]? = some (a, .inr (2, fs3 M a)) := by rw [← mE_3 ht]; exact hq0
  refine va_put (C := RX2) (T := TX2) (N := 3) (ty := tyX2 0) hx hb hts lay2 tyX2 tyX2_ok nmX2 hown hG.1 hP hD hS q hq rfl 0 (by decide) (hts _ lk.1) (fun x h => h) rfl (by decide +kernel) (rv_nar _ v) (rv_fit _ (by first | exact Or.inl ⟨_, rfl⟩ | exact Or.inr ⟨_, rfl⟩) v) (Nat.le_of_ble_eq_true rfl) dg (fun H1 locs1 hP1 hD1 hS1 => kk H1 locs1 lsA ?_ hS1 hl)
  exact Rep.set hg0 hL hD (by rw [ht]; decide) hq0 (fun b => rfl) (by rw [mE_3 (M := pR M a 0 v) ht, fset3_0]) (fun b hb => pR_ne b hb) hP1 hD1
theorem fset3_1 (M : Mm) (a : Nat) (v : Nat) : fs3 (pR M a 1 v) a = (fs3 M a).set 1 (rv v) := by simp [fs3, pR, mI, mR, mJ, up2]
theorem J_put3_1 {G : Gt} {γ : Γt} {own : String} {cc : ByteArray} {ret : Option FieldType} {M : Mm} {pc : Nat} {ls : List (Option Value)} {st : List Value} {k n d mc ms : Nat} {Qr : Option Value → Mm → Prop} {Qx : String → Mm → Prop} {lh : Launch} {nL : Nat} {nm : String} {a idx : Nat} {v : Nat} (hC : Cok G γ own cc ret d mc ms Qr Qx lh nL nm) (lk : LkF own idx TX2 3 1) (ht : (mT M a).1 = 3) (dg : decode cc pc = .ok (.putfield idx, 3)) (kk : J G γ (pR M a 1 v) (pc + 3) ls st k n) : J G γ M pc ls (rv v :: rv a :: st) k n := by
  obtain ⟨p, l, e, R, s, m, args, below, meth, c, Qr1, Qx1, mc1, ms1, nL1⟩ := γ
  obtain ⟨hx, hb, hr, hml, hown, hts, hlk, hex, hG, hLow, hst, h0, rfl, rfl, rfl, rfl, rfl, rfl, rfl, hnm⟩ := hC
  intro H locs lsA hR hS hl
  rw [rv_pos (n := a) (hR.ne (a := a) (by rw [ht]; decide))]
  obtain ⟨hg0, L, hL, hP, hD⟩ := id hR
  obtain ⟨q, hq⟩ := va_pl_get (X := []) (f := mE G.2.1 M) ((hL a).mpr (by rw [ht]; decide))
  have hq0 : (va_pl L (mE G.2.1 M))[q]? = some (a, mE G.2.1 M a) := hq
  have hq : (va_pl L (mE G.2.1 M))[q]? = some (a, .inr (2, fs3 M a)) := by rw [← mE_3 ht]; exact hq0
  refine va_put (C := RX2) (T := TX2) (N := 3) (ty := tyX2 1) hx hb hts lay2 tyX2 tyX2_ok nmX2 hown hG.1 hP hD hS q hq rfl 1 (by decide) (hts _ lk.1) (fun x h => h) rfl (by decide +kernel) (rv_nar _ v) (rv_fit _ (by first | exact Or.inl ⟨_, rfl⟩ | exact Or.inr ⟨_, rfl⟩) v) (Nat.le_of_ble_eq_true rfl) dg (fun H1 locs1 hP1 hD1 hS1 => kk H1 locs1 lsA ?_ hS1 hl)
  exact Rep.set hg0 hL hD (by rw [ht]; decide) hq0 (fun b => rfl) (by rw [mE_3 (M := pR M a 1 v) ht, fset3_1]) (fun b hb => pR_ne b hb) hP1 hD1
theorem fset3_2 (M : Mm) (a : Nat) (v : Int32) : fs3 (pI M a 2 v) a = (fs3 M a).set 2 (.int v) := by simp [fs3, pI, mI, mR, mJ, up2]
theorem J_put3_2 {G : Gt} {γ : Γt} {own : String} {cc : ByteArray} {ret : Option FieldType} {M : Mm} {pc : Nat} {ls : List (Option Value)} {st : List Value} {k n d mc ms : Nat} {Qr : Option Value → Mm → Prop} {Qx : String → Mm → Prop} {lh : Launch} {nL : Nat} {nm : String} {a idx : Nat} {v : Int32} (hC : Cok G γ own cc ret d mc ms Qr Qx lh nL nm) (lk : LkF own idx TX2 3 2) (ht : (mT M a).1 = 3) (dg : decode cc pc = .ok (.putfield idx, 3)) (kk : J G γ (pI M a 2 v) (pc + 3) ls st k n) : J G γ M pc ls (.int v :: rv a :: st) k n := by
  obtain ⟨p, l, e, R, s, m, args, below, meth, c, Qr1, Qx1, mc1, ms1, nL1⟩ := γ
  obtain ⟨hx, hb, hr, hml, hown, hts, hlk, hex, hG, hLow, hst, h0, rfl, rfl, rfl, rfl, rfl, rfl, rfl, hnm⟩ := hC
  intro H locs lsA hR hS hl
  rw [rv_pos (n := a) (hR.ne (a := a) (by rw [ht]; decide))]
  obtain ⟨hg0, L, hL, hP, hD⟩ := id hR
  obtain ⟨q, hq⟩ := va_pl_get (X := []) (f := mE G.2.1 M) ((hL a).mpr (by rw [ht]; decide))
  have hq0 : (va_pl L (mE G.2.1 M))[q]? = some (a, mE G.2.1 M a) := hq
  have hq : (va_pl L (mE G.2.1 M))[q]? = some (a, .inr (2, fs3 M a)) := by rw [← mE_3 ht]; exact hq0
  refine va_put (C := RX2) (T := TX2) (N := 3) (ty := .int) hx hb hts lay2 tyX2 tyX2_ok nmX2 hown hG.1 hP hD hS q hq rfl 2 (by decide) (hts _ lk.1) (fun x h => h) rfl (by decide +kernel) rfl rfl (Nat.le_of_ble_eq_true rfl) dg (fun H1 locs1 hP1 hD1 hS1 => kk H1 locs1 lsA ?_ hS1 hl)
  exact Rep.set hg0 hL hD (by rw [ht]; decide) hq0 (fun b => rfl) (by rw [mE_3 (M := pI M a 2 v) ht, fset3_2]) (fun b hb => pI_ne b hb) hP1 hD1
theorem J_get4 {G : Gt} {γ : Γt} {own : String} {cc : ByteArray} {ret : Option FieldType} {M : Mm} {pc : Nat} {ls : List (Option Value)} {st : List Value} {k n d mc ms : Nat} {Qr : Option Value → Mm → Prop} {Qx : String → Mm → Prop} {lh : Launch} {nL : Nat} {nm : String} {a idx j : Nat} {v : Value} (hC : Cok G γ own cc ret d mc ms Qr Qx lh nL nm) (lk : LkF own idx TX3 8 j) (ht : (mT M a).1 = 4) (hv : (fs4 M a)[j]? = some v) (dg : decode cc pc = .ok (.getfield idx, 3)) (kk : J G γ M (pc + 3) ls (v :: st) k n) : J G γ M pc ls (rv a :: st) k n := by
  obtain ⟨p, l, e, R, s, m, args, below, meth, c, Qr1, Qx1, mc1, ms1, nL1⟩ := γ
  obtain ⟨hx, hb, hr, hml, hown, hts, hlk, hex, hG, hLow, hst, h0, rfl, rfl, rfl, rfl, rfl, rfl, rfl, hnm⟩ := hC
  intro H locs lsA hR hS hl
  rw [rv_pos (n := a) (hR.ne (a := a) (by rw [ht]; decide))]
  obtain ⟨hg0, L, hL, hP, hD⟩ := id hR
  obtain ⟨q, hq⟩ := va_pl_get (X := []) (f := mE G.2.1 M) ((hL a).mpr (by rw [ht]; decide))
  have hq0 : (va_pl L (mE G.2.1 M))[q]? = some (a, mE G.2.1 M a) := hq
  have hq : (va_pl L (mE G.2.1 M))[q]? = some (a, .inr (3, fs4 M a)) := by rw [← mE_4 ht]; exact hq0
  exact va_get (C := RX3) (T := TX3) (N := 8) hx hb hts lay3 hown hG.1 hP q hq rfl j lk.2 (hts _ lk.1) (fun x h => h) hv dg (kk H locs lsA hR hS hl)
theorem fset4_0 (M : Mm) (a : Nat) (v : Int32) : fs4 (pI M a 0 v) a = (fs4 M a).set 0 (.int v) := by simp [fs4, pI, mI, mR, mJ, up2]
theorem J_put4_0 {G : Gt} {γ : Γt} {own : String} {cc : ByteArray} {ret : Option FieldType} {M : Mm} {pc : Nat} {ls : List (Option Value)} {st : List Value} {k n d mc ms : Nat} {Qr : Option Value → Mm → Prop} {Qx : String → Mm → Prop} {lh : Launch} {nL : Nat} {nm : String} {a idx : Nat} {v : Int32} (hC : Cok G γ own cc ret d mc ms Qr Qx lh nL nm) (lk : LkF own idx TX3 8 0) (ht : (mT M a).1 = 4) (hin : nm = "<init>") (hdecl : own = RX3) (dg : decode cc pc = .ok (.putfield idx, 3)) (kk : J G γ (pI M a 0 v) (pc + 3) ls st k n) : J G γ M pc ls (.int v :: rv a :: st) k n := by
  obtain ⟨p, l, e, R, s, m, args, below, meth, c, Qr1, Qx1, mc1, ms1, nL1⟩ := γ
  obtain ⟨hx, hb, hr, hml, hown, hts, hlk, hex, hG, hLow, hst, h0, rfl, rfl, rfl, rfl, rfl, rfl, rfl, hnm⟩ := hC
  intro H locs lsA hR hS hl
  rw [rv_pos (n := a) (hR.ne (a := a) (by rw [ht]; decide))]
  obtain ⟨hg0, L, hL, hP, hD⟩ := id hR
  obtain ⟨q, hq⟩ := va_pl_get (X := []) (f := mE G.2.1 M) ((hL a).mpr (by rw [ht]; decide))
  have hq0 : (va_pl L (mE G.2.1 M))[q]? = some (a, mE G.2.1 M a) := hq
  have hq : (va_pl L (mE G.2.1 M))[q]? = some (a, .inr (3, fs4 M a)) := by rw [← mE_4 ht]; exact hq0
  refine va_putF (C := RX3) (T := TX3) (N := 8) (ty := .int) hx hb hts lay3 tyX3 tyX3_ok nmX3 hown hG.1 hP hD hS q hq rfl 0 (by decide) (hts _ lk.1) (fun x h => h) rfl (hnm.trans hin) (by rw [hdecl]; rfl) (by decide +kernel) rfl rfl (Nat.le_of_ble_eq_true rfl) dg (fun H1 locs1 hP1 hD1 hS1 => kk H1 locs1 lsA ?_ hS1 hl)
  exact Rep.set hg0 hL hD (by rw [ht]; decide) hq0 (fun b => rfl) (by rw [mE_4 (M := pI M a 0 v) ht, fset4_0]) (fun b hb => pI_ne b hb) hP1 hD1
theorem fset4_1 (M : Mm) (a : Nat) (v : Int32) : fs4 (pI M a 1 v) a = (fs4 M a).set 1 (.int v) := by simp [fs4, pI, mI, mR, mJ, up2]
theorem J_put4_1 {G : Gt} {γ : Γt} {own : String} {cc : ByteArray} {ret : Option FieldType} {M : Mm} {pc : Nat} {ls : List (Option Value)} {st : List Value} {k n d mc ms : Nat} {Qr : Option Value → Mm → Prop} {Qx : String → Mm → Prop} {lh : Launch} {nL : Nat} {nm : String} {a idx : Nat} {v : Int32} (hC : Cok G γ own cc ret d mc ms Qr Qx lh nL nm) (lk : LkF own idx TX3 8 1) (ht : (mT M a).1 = 4) (hn : narrow .char (.int v) = .int v) (hfit : fits .char (.int v) = true) (hin : nm = "<init>") (hdecl : own = RX3) (dg : decode cc pc = .ok (.putfield idx, 3)) (kk : J G γ (pI M a 1 v) (pc + 3) ls st k n) : J G γ M pc ls (.int v :: rv a :: st) k n := by
  obtain ⟨p, l, e, R, s, m, args, below, meth, c, Qr1, Qx1, mc1, ms1, nL1⟩ := γ
  obtain ⟨hx, hb, hr, hml, hown, hts, hlk, hex, hG, hLow, hst, h0, rfl, rfl, rfl, rfl, rfl, rfl, rfl, hnm⟩ := hC
  intro H locs lsA hR hS hl
  rw [rv_pos (n := a) (hR.ne (a := a) (by rw [ht]; decide))]
  obtain ⟨hg0, L, hL, hP, hD⟩ := id hR
  obtain ⟨q, hq⟩ := va_pl_get (X := []) (f := mE G.2.1 M) ((hL a).mpr (by rw [ht]; decide))
  have hq0 : (va_pl L (mE G.2.1 M))[q]? = some (a, mE G.2.1 M a) := hq
  have hq : (va_pl L (mE G.2.1 M))[q]? = some (a, .inr (3, fs4 M a)) := by rw [← mE_4 ht]; exact hq0
  refine va_putF (C := RX3) (T := TX3) (N := 8) (ty := .char) hx hb hts lay3 tyX3 tyX3_ok nmX3 hown hG.1 hP hD hS q hq rfl 1 (by decide) (hts _ lk.1) (fun x h => h) rfl (hnm.trans hin) (by rw [hdecl]; rfl) (by decide +kernel) hn hfit (Nat.le_of_ble_eq_true rfl) dg (fun H1 locs1 hP1 hD1 hS1 => kk H1 locs1 lsA ?_ hS1 hl)
  exact Rep.set hg0 hL hD (by rw [ht]; decide) hq0 (fun b => rfl) (by rw [mE_4 (M := pI M a 1 v) ht, fset4_1]) (fun b hb => pI_ne b hb) hP1 hD1
theorem fset4_2 (M : Mm) (a : Nat) (v : Nat) : fs4 (pR M a 2 v) a = (fs4 M a).set 2 (rv v) := by simp [fs4, pR, mI, mR, mJ, up2]
theorem J_put4_2 {G : Gt} {γ : Γt} {own : String} {cc : ByteArray} {ret : Option FieldType} {M : Mm} {pc : Nat} {ls : List (Option Value)} {st : List Value} {k n d mc ms : Nat} {Qr : Option Value → Mm → Prop} {Qx : String → Mm → Prop} {lh : Launch} {nL : Nat} {nm : String} {a idx : Nat} {v : Nat} (hC : Cok G γ own cc ret d mc ms Qr Qx lh nL nm) (lk : LkF own idx TX3 8 2) (ht : (mT M a).1 = 4) (hin : nm = "<init>") (hdecl : own = RX3) (dg : decode cc pc = .ok (.putfield idx, 3)) (kk : J G γ (pR M a 2 v) (pc + 3) ls st k n) : J G γ M pc ls (rv v :: rv a :: st) k n := by
  obtain ⟨p, l, e, R, s, m, args, below, meth, c, Qr1, Qx1, mc1, ms1, nL1⟩ := γ
  obtain ⟨hx, hb, hr, hml, hown, hts, hlk, hex, hG, hLow, hst, h0, rfl, rfl, rfl, rfl, rfl, rfl, rfl, hnm⟩ := hC
  intro H locs lsA hR hS hl
  rw [rv_pos (n := a) (hR.ne (a := a) (by rw [ht]; decide))]
  obtain ⟨hg0, L, hL, hP, hD⟩ := id hR
  obtain ⟨q, hq⟩ := va_pl_get (X := []) (f := mE G.2.1 M) ((hL a).mpr (by rw [ht]; decide))
  have hq0 : (va_pl L (mE G.2.1 M))[q]? = some (a, mE G.2.1 M a) := hq
  have hq : (va_pl L (mE G.2.1 M))[q]? = some (a, .inr (3, fs4 M a)) := by rw [← mE_4 ht]; exact hq0
  refine va_putF (C := RX3) (T := TX3) (N := 8) (ty := tyX3 2) hx hb hts lay3 tyX3 tyX3_ok nmX3 hown hG.1 hP hD hS q hq rfl 2 (by decide) (hts _ lk.1) (fun x h => h) rfl (hnm.trans hin) (by rw [hdecl]; rfl) (by decide +kernel) (rv_nar _ v) (rv_fit _ (by first | exact Or.inl ⟨_, rfl⟩ | exact Or.inr ⟨_, rfl⟩) v) (Nat.le_of_ble_eq_true rfl) dg (fun H1 locs1 hP1 hD1 hS1 => kk H1 locs1 lsA ?_ hS1 hl)
  exact Rep.set hg0 hL hD (by rw [ht]; decide) hq0 (fun b => rfl) (by rw [mE_4 (M := pR M a 2 v) ht, fset4_2]) (fun b hb => pR_ne b hb) hP1 hD1
theorem fset4_3 (M : Mm) (a : Nat) (v : Nat) : fs4 (pR M a 3 v) a = (fs4 M a).set 3 (rv v) := by simp [fs4, pR, mI, mR, mJ, up2]
theorem J_put4_3 {G : Gt} {γ : Γt} {own : String} {cc : ByteArray} {ret : Option FieldType} {M : Mm} {pc : Nat} {ls : List (Option Value)} {st : List Value} {k n d mc ms : Nat} {Qr : Option Value → Mm → Prop} {Qx : String → Mm → Prop} {lh : Launch} {nL : Nat} {nm : String} {a idx : Nat} {v : Nat} (hC : Cok G γ own cc ret d mc ms Qr Qx lh nL nm) (lk : LkF own idx TX3 8 3) (ht : (mT M a).1 = 4) (hin : nm = "<init>") (hdecl : own = RX3) (dg : decode cc pc = .ok (.putfield idx, 3)) (kk : J G γ (pR M a 3 v) (pc + 3) ls st k n) : J G γ M pc ls (rv v :: rv a :: st) k n := by
  obtain ⟨p, l, e, R, s, m, args, below, meth, c, Qr1, Qx1, mc1, ms1, nL1⟩ := γ
  obtain ⟨hx, hb, hr, hml, hown, hts, hlk, hex, hG, hLow, hst, h0, rfl, rfl, rfl, rfl, rfl, rfl, rfl, hnm⟩ := hC
  intro H locs lsA hR hS hl
  rw [rv_pos (n := a) (hR.ne (a := a) (by rw [ht]; decide))]
  obtain ⟨hg0, L, hL, hP, hD⟩ := id hR
  obtain ⟨q, hq⟩ := va_pl_get (X := []) (f := mE G.2.1 M) ((hL a).mpr (by rw [ht]; decide))
  have hq0 : (va_pl L (mE G.2.1 M))[q]? = some (a, mE G.2.1 M a) := hq
  have hq : (va_pl L (mE G.2.1 M))[q]? = some (a, .inr (3, fs4 M a)) := by rw [← mE_4 ht]; exact hq0
  refine va_putF (C := RX3) (T := TX3) (N := 8) (ty := tyX3 3) hx hb hts lay3 tyX3 tyX3_ok nmX3 hown hG.1 hP hD hS q hq rfl 3 (by decide) (hts _ lk.1) (fun x h => h) rfl (hnm.trans hin) (by rw [hdecl]; rfl) (by decide +kernel) (rv_nar _ v) (rv_fit _ (by first | exact Or.inl ⟨_, rfl⟩ | exact Or.inr ⟨_, rfl⟩) v) (Nat.le_of_ble_eq_true rfl) dg (fun H1 locs1 hP1 hD1 hS1 => kk H1 locs1 lsA ?_ hS1 hl)
  exact Rep.set hg0 hL hD (by rw [ht]; decide) hq0 (fun b => rfl) (by rw [mE_4 (M := pR M a 3 v) ht, fset4_3]) (fun b hb => pR_ne b hb) hP1 hD1
theorem fset4_4 (M : Mm) (a : Nat) (v : Nat) : fs4 (pR M a 4 v) a = (fs4 M a).set 4 (rv v) := by simp [fs4, pR, mI, mR, mJ, up2]
theorem J_put4_4 {G : Gt} {γ : Γt} {own : String} {cc : ByteArray} {ret : Option FieldType} {M : Mm} {pc : Nat} {ls : List (Option Value)} {st : List Value} {k n d mc ms : Nat} {Qr : Option Value → Mm → Prop} {Qx : String → Mm → Prop} {lh : Launch} {nL : Nat} {nm : String} {a idx : Nat} {v : Nat} (hC : Cok G γ own cc ret d mc ms Qr Qx lh nL nm) (lk : LkF own idx TX3 8 4) (ht : (mT M a).1 = 4) (hin : nm = "<init>") (hdecl : own = RX3) (dg : decode cc pc = .ok (.putfield idx, 3)) (kk : J G γ (pR M a 4 v) (pc + 3) ls st k n) : J G γ M pc ls (rv v :: rv a :: st) k n := by
  obtain ⟨p, l, e, R, s, m, args, below, meth, c, Qr1, Qx1, mc1, ms1, nL1⟩ := γ
  obtain ⟨hx, hb, hr, hml, hown, hts, hlk, hex, hG, hLow, hst, h0, rfl, rfl, rfl, rfl, rfl, rfl, rfl, hnm⟩ := hC
  intro H locs lsA hR hS hl
  rw [rv_pos (n := a) (hR.ne (a := a) (by rw [ht]; decide))]
  obtain ⟨hg0, L, hL, hP, hD⟩ := id hR
  obtain ⟨q, hq⟩ := va_pl_get (X := []) (f := mE G.2.1 M) ((hL a).mpr (by rw [ht]; decide))
  have hq0 : (va_pl L (mE G.2.1 M))[q]? = some (a, mE G.2.1 M a) := hq
  have hq : (va_pl L (mE G.2.1 M))[q]? = some (a, .inr (3, fs4 M a)) := by rw [← mE_4 ht]; exact hq0
  refine va_putF (C := RX3) (T := TX3) (N := 8) (ty := tyX3 4) hx hb hts lay3 tyX3 tyX3_ok nmX3 hown hG.1 hP hD hS q hq rfl 4 (by decide) (hts _ lk.1) (fun x h => h) rfl (hnm.trans hin) (by rw [hdecl]; rfl) (by decide +kernel) (rv_nar _ v) (rv_fit _ (by first | exact Or.inl ⟨_, rfl⟩ | exact Or.inr ⟨_, rfl⟩) v) (Nat.le_of_ble_eq_true rfl) dg (fun H1 locs1 hP1 hD1 hS1 => kk H1 locs1 lsA ?_ hS1 hl)
  exact Rep.set hg0 hL hD (by rw [ht]; decide) hq0 (fun b => rfl) (by rw [mE_4 (M := pR M a 4 v) ht, fset4_4]) (fun b hb => pR_ne b hb) hP1 hD1
theorem fset4_5 (M : Mm) (a : Nat) (v : Nat) : fs4 (pR M a 5 v) a = (fs4 M a).set 5 (rv v) := by simp [fs4, pR, mI, mR, mJ, up2]
theorem J_put4_5 {G : Gt} {γ : Γt} {own : String} {cc : ByteArray} {ret : Option FieldType} {M : Mm} {pc : Nat} {ls : List (Option Value)} {st : List Value} {k n d mc ms : Nat} {Qr : Option Value → Mm → Prop} {Qx : String → Mm → Prop} {lh : Launch} {nL : Nat} {nm : String} {a idx : Nat} {v : Nat} (hC : Cok G γ own cc ret d mc ms Qr Qx lh nL nm) (lk : LkF own idx TX3 8 5) (ht : (mT M a).1 = 4) (hin : nm = "<init>") (hdecl : own = RX3) (dg : decode cc pc = .ok (.putfield idx, 3)) (kk : J G γ (pR M a 5 v) (pc + 3) ls st k n) : J G γ M pc ls (rv v :: rv a :: st) k n := by
  obtain ⟨p, l, e, R, s, m, args, below, meth, c, Qr1, Qx1, mc1, ms1, nL1⟩ := γ
  obtain ⟨hx, hb, hr, hml, hown, hts, hlk, hex, hG, hLow, hst, h0, rfl, rfl, rfl, rfl, rfl, rfl, rfl, hnm⟩ := hC
  intro H locs lsA hR hS hl
  rw [rv_pos (n := a) (hR.ne (a := a) (by rw [ht]; decide))]
  obtain ⟨hg0, L, hL, hP, hD⟩ := id hR
  obtain ⟨q, hq⟩ := va_pl_get (X := []) (f := mE G.2.1 M) ((hL a).mpr (by rw [ht]; decide))
  have hq0 : (va_pl L (mE G.2.1 M))[q]? = some (a, mE G.2.1 M a) := hq
  have hq : (va_pl L (mE G.2.1 M))[q]? = some (a, .inr (3, fs4 M a)) := by rw [← mE_4 ht]; exact hq0
  refine va_putF (C := RX3) (T := TX3) (N := 8) (ty := tyX3 5) hx hb hts lay3 tyX3 tyX3_ok nmX3 hown hG.1 hP hD hS q hq rfl 5 (by decide) (hts _ lk.1) (fun x h => h) rfl (hnm.trans hin) (by rw [hdecl]; rfl) (by decide +kernel) (rv_nar _ v) (rv_fit _ (by first | exact Or.inl ⟨_, rfl⟩ | exact Or.inr ⟨_, rfl⟩) v) (Nat.le_of_ble_eq_true rfl) dg (fun H1 locs1 hP1 hD1 hS1 => kk H1 locs1 lsA ?_ hS1 hl)
  exact Rep.set hg0 hL hD (by rw [ht]; decide) hq0 (fun b => rfl) (by rw [mE_4 (M := pR M a 5 v) ht, fset4_5]) (fun b hb => pR_ne b hb) hP1 hD1
theorem fset4_6 (M : Mm) (a : Nat) (v : Int32) : fs4 (pI M a 6 v) a = (fs4 M a).set 6 (.int v) := by simp [fs4, pI, mI, mR, mJ, up2]
theorem J_put4_6 {G : Gt} {γ : Γt} {own : String} {cc : ByteArray} {ret : Option FieldType} {M : Mm} {pc : Nat} {ls : List (Option Value)} {st : List Value} {k n d mc ms : Nat} {Qr : Option Value → Mm → Prop} {Qx : String → Mm → Prop} {lh : Launch} {nL : Nat} {nm : String} {a idx : Nat} {v : Int32} (hC : Cok G γ own cc ret d mc ms Qr Qx lh nL nm) (lk : LkF own idx TX3 8 6) (ht : (mT M a).1 = 4) (hn : narrow .boolean (.int v) = .int v) (hfit : fits .boolean (.int v) = true) (dg : decode cc pc = .ok (.putfield idx, 3)) (kk : J G γ (pI M a 6 v) (pc + 3) ls st k n) : J G γ M pc ls (.int v :: rv a :: st) k n := by
  obtain ⟨p, l, e, R, s, m, args, below, meth, c, Qr1, Qx1, mc1, ms1, nL1⟩ := γ
  obtain ⟨hx, hb, hr, hml, hown, hts, hlk, hex, hG, hLow, hst, h0, rfl, rfl, rfl, rfl, rfl, rfl, rfl, hnm⟩ := hC
  intro H locs lsA hR hS hl
  rw [rv_pos (n := a) (hR.ne (a := a) (by rw [ht]; decide))]
  obtain ⟨hg0, L, hL, hP, hD⟩ := id hR
  obtain ⟨q, hq⟩ := va_pl_get (X := []) (f := mE G.2.1 M) ((hL a).mpr (by rw [ht]; decide))
  have hq0 : (va_pl L (mE G.2.1 M))[q]? = some (a, mE G.2.1 M a) := hq
  have hq : (va_pl L (mE G.2.1 M))[q]? = some (a, .inr (3, fs4 M a)) := by rw [← mE_4 ht]; exact hq0
  refine va_put (C := RX3) (T := TX3) (N := 8) (ty := .boolean) hx hb hts lay3 tyX3 tyX3_ok nmX3 hown hG.1 hP hD hS q hq rfl 6 (by decide) (hts _ lk.1) (fun x h => h) rfl (by decide +kernel) hn hfit (Nat.le_of_ble_eq_true rfl) dg (fun H1 locs1 hP1 hD1 hS1 => kk H1 locs1 lsA ?_ hS1 hl)
  exact Rep.set hg0 hL hD (by rw [ht]; decide) hq0 (fun b => rfl) (by rw [mE_4 (M := pI M a 6 v) ht, fset4_6]) (fun b hb => pI_ne b hb) hP1 hD1
theorem fset4_7 (M : Mm) (a : Nat) (v : Int32) : fs4 (pI M a 7 v) a = (fs4 M a).set 7 (.int v) := by simp [fs4, pI, mI, mR, mJ, up2]
theorem J_put4_7 {G : Gt} {γ : Γt} {own : String} {cc : ByteArray} {ret : Option FieldType} {M : Mm} {pc : Nat} {ls : List (Option Value)} {st : List Value} {k n d mc ms : Nat} {Qr : Option Value → Mm → Prop} {Qx : String → Mm → Prop} {lh : Launch} {nL : Nat} {nm : String} {a idx : Nat} {v : Int32} (hC : Cok G γ own cc ret d mc ms Qr Qx lh nL nm) (lk : LkF own idx TX3 8 7) (ht : (mT M a).1 = 4) (hn : narrow .boolean (.int v) = .int v) (hfit : fits .boolean (.int v) = true) (dg : decode cc pc = .ok (.putfield idx, 3)) (kk : J G γ (pI M a 7 v) (pc + 3) ls st k n) : J G γ M pc ls (.int v :: rv a :: st) k n := by
  obtain ⟨p, l, e, R, s, m, args, below, meth, c, Qr1, Qx1, mc1, ms1, nL1⟩ := γ
  obtain ⟨hx, hb, hr, hml, hown, hts, hlk, hex, hG, hLow, hst, h0, rfl, rfl, rfl, rfl, rfl, rfl, rfl, hnm⟩ := hC
  intro H locs lsA hR hS hl
  rw [rv_pos (n := a) (hR.ne (a := a) (by rw [ht]; decide))]
  obtain ⟨hg0, L, hL, hP, hD⟩ := id hR
  obtain ⟨q, hq⟩ := va_pl_get (X := []) (f := mE G.2.1 M) ((hL a).mpr (by rw [ht]; decide))
  have hq0 : (va_pl L (mE G.2.1 M))[q]? = some (a, mE G.2.1 M a) := hq
  have hq : (va_pl L (mE G.2.1 M))[q]? = some (a, .inr (3, fs4 M a)) := by rw [← mE_4 ht]; exact hq0
  refine va_put (C := RX3) (T := TX3) (N := 8) (ty := .boolean) hx hb hts lay3 tyX3 tyX3_ok nmX3 hown hG.1 hP hD hS q hq rfl 7 (by decide) (hts _ lk.1) (fun x h => h) rfl (by decide +kernel) hn hfit (Nat.le_of_ble_eq_true rfl) dg (fun H1 locs1 hP1 hD1 hS1 => kk H1 locs1 lsA ?_ hS1 hl)
  exact Rep.set hg0 hL hD (by rw [ht]; decide) hq0 (fun b => rfl) (by rw [mE_4 (M := pI M a 7 v) ht, fset4_7]) (fun b hb => pI_ne b hb) hP1 hD1
theorem J_get5 {G : Gt} {γ : Γt} {own : String} {cc : ByteArray} {ret : Option FieldType} {M : Mm} {pc : Nat} {ls : List (Option Value)} {st : List Value} {k n d mc ms : Nat} {Qr : Option Value → Mm → Prop} {Qx : String → Mm → Prop} {lh : Launch} {nL : Nat} {nm : String} {a idx j : Nat} {v : Value} (hC : Cok G γ own cc ret d mc ms Qr Qx lh nL nm) (lk : LkF own idx TX4 12 j) (ht : (mT M a).1 = 5) (hv : (fs5 M a)[j]? = some v) (dg : decode cc pc = .ok (.getfield idx, 3)) (kk : J G γ M (pc + 3) ls (v :: st) k n) : J G γ M pc ls (rv a :: st) k n := by
  obtain ⟨p, l, e, R, s, m, args, below, meth, c, Qr1, Qx1, mc1, ms1, nL1⟩ := γ
  obtain ⟨hx, hb, hr, hml, hown, hts, hlk, hex, hG, hLow, hst, h0, rfl, rfl, rfl, rfl, rfl, rfl, rfl, hnm⟩ := hC
  intro H locs lsA hR hS hl
  rw [rv_pos (n := a) (hR.ne (a := a) (by rw [ht]; decide))]
  obtain ⟨hg0, L, hL, hP, hD⟩ := id hR
  obtain ⟨q, hq⟩ := va_pl_get (X := []) (f := mE G.2.1 M) ((hL a).mpr (by rw [ht]; decide))
  have hq0 : (va_pl L (mE G.2.1 M))[q]? = some (a, mE G.2.1 M a) := hq
  have hq : (va_pl L (mE G.2.1 M))[q]? = some (a, .inr (4, fs5 M a)) := by rw [← mE_5 ht]; exact hq0
  exact va_get (C := RX4) (T := TX4) (N := 12) hx hb hts lay4 hown hG.1 hP q hq rfl j lk.2 (hts _ lk.1) (fun x h => h) hv dg (kk H locs lsA hR hS hl)
theorem fset5_0 (M : Mm) (a : Nat) (v : Nat) : fs5 (pR M a 0 v) a = (fs5 M a).set 0 (rv v) := by simp [fs5, pR, mI, mR, mJ, up2]
theorem J_put5_0 {G : Gt} {γ : Γt} {own : String} {cc : ByteArray} {ret : Option FieldType} {M : Mm} {pc : Nat} {ls : List (Option Value)} {st : List Value} {k n d mc ms : Nat} {Qr : Option Value → Mm → Prop} {Qx : String → Mm → Prop} {lh : Launch} {nL : Nat} {nm : String} {a idx : Nat} {v : Nat} (hC : Cok G γ own cc ret d mc ms Qr Qx lh nL nm) (lk : LkF own idx TX4 12 0) (ht : (mT M a).1 = 5) (hin : nm = "<init>") (hdecl : own = RX4) (dg : decode cc pc = .ok (.putfield idx, 3)) (kk : J G γ (pR M a 0 v) (pc + 3) ls st k n) : J G γ M pc ls (rv v :: rv a :: st) k n := by
  obtain ⟨p, l, e, R, s, m, args, below, meth, c, Qr1, Qx1, mc1, ms1, nL1⟩ := γ
  obtain ⟨hx, hb, hr, hml, hown, hts, hlk, hex, hG, hLow, hst, h0, rfl, rfl, rfl, rfl, rfl, rfl, rfl, hnm⟩ := hC
  intro H locs lsA hR hS hl
  rw [rv_pos (n := a) (hR.ne (a := a) (by rw [ht]; decide))]
  obtain ⟨hg0, L, hL, hP, hD⟩ := id hR
  obtain ⟨q, hq⟩ := va_pl_get (X := []) (f := mE G.2.1 M) ((hL a).mpr (by rw [ht]; decide))
  have hq0 : (va_pl L (mE G.2.1 M))[q]? = some (a, mE G.2.1 M a) := hq
  have hq : (va_pl L (mE G.2.1 M))[q]? = some (a, .inr (4, fs5 M a)) := by rw [← mE_5 ht]; exact hq0
  refine va_putF (C := RX4) (T := TX4) (N := 12) (ty := tyX4 0) hx hb hts lay4 tyX4 tyX4_ok nmX4 hown hG.1 hP hD hS q hq rfl 0 (by decide) (hts _ lk.1) (fun x h => h) rfl (hnm.trans hin) (by rw [hdecl]; rfl) (by decide +kernel) (rv_nar _ v) (rv_fit _ (by first | exact Or.inl ⟨_, rfl⟩ | exact Or.inr ⟨_, rfl⟩) v) (Nat.le_of_ble_eq_true rfl) dg (fun H1 locs1 hP1 hD1 hS1 => kk H1 locs1 lsA ?_ hS1 hl)
  exact Rep.set hg0 hL hD (by rw [ht]; decide) hq0 (fun b => rfl) (by rw [mE_5 (M := pR M a 0 v) ht, fset5_0]) (fun b hb => pR_ne b hb) hP1 hD1
theorem fset5_1 (M : Mm) (a : Nat) (v : Nat) : fs5 (pR M a 1 v) a = (fs5 M a).set 1 (rv v) := by simp [fs5, pR, mI, mR, mJ, up2]
theorem J_put5_1 {G : Gt} {γ : Γt} {own : String} {cc : ByteArray} {ret : Option FieldType} {M : Mm} {pc : Nat} {ls : List (Option Value)} {st : List Value} {k n d mc ms : Nat} {Qr : Option Value → Mm → Prop} {Qx : String → Mm → Prop} {lh : Launch} {nL : Nat} {nm : String} {a idx : Nat} {v : Nat} (hC : Cok G γ own cc ret d mc ms Qr Qx lh nL nm) (lk : LkF own idx TX4 12 1) (ht : (mT M a).1 = 5) (hin : nm = "<init>") (hdecl : own = RX4) (dg : decode cc pc = .ok (.putfield idx, 3)) (kk : J G γ (pR M a 1 v) (pc + 3) ls st k n) : J G γ M pc ls (rv v :: rv a :: st) k n := by
  obtain ⟨p, l, e, R, s, m, args, below, meth, c, Qr1, Qx1, mc1, ms1, nL1⟩ := γ
  obtain ⟨hx, hb, hr, hml, hown, hts, hlk, hex, hG, hLow, hst, h0, rfl, rfl, rfl, rfl, rfl, rfl, rfl, hnm⟩ := hC
  intro H locs lsA hR hS hl
  rw [rv_pos (n := a) (hR.ne (a := a) (by rw [ht]; decide))]
  obtain ⟨hg0, L, hL, hP, hD⟩ := id hR
  obtain ⟨q, hq⟩ := va_pl_get (X := []) (f := mE G.2.1 M) ((hL a).mpr (by rw [ht]; decide))
  have hq0 : (va_pl L (mE G.2.1 M))[q]? = some (a, mE G.2.1 M a) := hq
  have hq : (va_pl L (mE G.2.1 M))[q]? = some (a, .inr (4, fs5 M a)) := by rw [← mE_5 ht]; exact hq0
  refine va_putF (C := RX4) (T := TX4) (N := 12) (ty := tyX4 1) hx hb hts lay4 tyX4 tyX4_ok nmX4 hown hG.1 hP hD hS q hq rfl 1 (by decide) (hts _ lk.1) (fun x h => h) rfl (hnm.trans hin) (by rw [hdecl]; rfl) (by decide +kernel) (rv_nar _ v) (rv_fit _ (by first | exact Or.inl ⟨_, rfl⟩ | exact Or.inr ⟨_, rfl⟩) v) (Nat.le_of_ble_eq_true rfl) dg (fun H1 locs1 hP1 hD1 hS1 => kk H1 locs1 lsA ?_ hS1 hl)
  exact Rep.set hg0 hL hD (by rw [ht]; decide) hq0 (fun b => rfl) (by rw [mE_5 (M := pR M a 1 v) ht, fset5_1]) (fun b hb => pR_ne b hb) hP1 hD1
theorem fset5_2 (M : Mm) (a : Nat) (v : Nat) : fs5 (pR M a 2 v) a = (fs5 M a).set 2 (rv v) := by simp [fs5, pR, mI, mR, mJ, up2]
theorem J_put5_2 {G : Gt} {γ : Γt} {own : String} {cc : ByteArray} {ret : Option FieldType} {M : Mm} {pc : Nat} {ls : List (Option Value)} {st : List Value} {k n d mc ms : Nat} {Qr : Option Value → Mm → Prop} {Qx : String → Mm → Prop} {lh : Launch} {nL : Nat} {nm : String} {a idx : Nat} {v : Nat} (hC : Cok G γ own cc ret d mc ms Qr Qx lh nL nm) (lk : LkF own idx TX4 12 2) (ht : (mT M a).1 = 5) (hin : nm = "<init>") (hdecl : own = RX4) (dg : decode cc pc = .ok (.putfield idx, 3)) (kk : J G γ (pR M a 2 v) (pc + 3) ls st k n) : J G γ M pc ls (rv v :: rv a :: st) k n := by
  obtain ⟨p, l, e, R, s, m, args, below, meth, c, Qr1, Qx1, mc1, ms1, nL1⟩ := γ
  obtain ⟨hx, hb, hr, hml, hown, hts, hlk, hex, hG, hLow, hst, h0, rfl, rfl, rfl, rfl, rfl, rfl, rfl, hnm⟩ := hC
  intro H locs lsA hR hS hl
  rw [rv_pos (n := a) (hR.ne (a := a) (by rw [ht]; decide))]
  obtain ⟨hg0, L, hL, hP, hD⟩ := id hR
  obtain ⟨q, hq⟩ := va_pl_get (X := []) (f := mE G.2.1 M) ((hL a).mpr (by rw [ht]; decide))
  have hq0 : (va_pl L (mE G.2.1 M))[q]? = some (a, mE G.2.1 M a) := hq
  have hq : (va_pl L (mE G.2.1 M))[q]? = some (a, .inr (4, fs5 M a)) := by rw [← mE_5 ht]; exact hq0
  refine va_putF (C := RX4) (T := TX4) (N := 12) (ty := tyX4 2) hx hb hts lay4 tyX4 tyX4_ok nmX4 hown hG.1 hP hD hS q hq rfl 2 (by decide) (hts _ lk.1) (fun x h => h) rfl (hnm.trans hin) (by rw [hdecl]; rfl) (by decide +kernel) (rv_nar _ v) (rv_fit _ (by first | exact Or.inl ⟨_, rfl⟩ | exact Or.inr ⟨_, rfl⟩) v) (Nat.le_of_ble_eq_true rfl) dg (fun H1 locs1 hP1 hD1 hS1 => kk H1 locs1 lsA ?_ hS1 hl)
  exact Rep.set hg0 hL hD (by rw [ht]; decide) hq0 (fun b => rfl) (by rw [mE_5 (M := pR M a 2 v) ht, fset5_2]) (fun b hb => pR_ne b hb) hP1 hD1
theorem fset5_3 (M : Mm) (a : Nat) (v : Nat) : fs5 (pR M a 3 v) a = (fs5 M a).set 3 (rv v) := by simp [fs5, pR, mI, mR, mJ, up2]
theorem J_put5_3 {G : Gt} {γ : Γt} {own : String} {cc : ByteArray} {ret : Option FieldType} {M : Mm} {pc : Nat} {ls : List (Option Value)} {st : List Value} {k n d mc ms : Nat} {Qr : Option Value → Mm → Prop} {Qx : String → Mm → Prop} {lh : Launch} {nL : Nat} {nm : String} {a idx : Nat} {v : Nat} (hC : Cok G γ own cc ret d mc ms Qr Qx lh nL nm) (lk : LkF own idx TX4 12 3) (ht : (mT M a).1 = 5) (hin : nm = "<init>") (hdecl : own = RX4) (dg : decode cc pc = .ok (.putfield idx, 3)) (kk : J G γ (pR M a 3 v) (pc + 3) ls st k n) : J G γ M pc ls (rv v :: rv a :: st) k n := by
  obtain ⟨p, l, e, R, s, m, args, below, meth, c, Qr1, Qx1, mc1, ms1, nL1⟩ := γ
  obtain ⟨hx, hb, hr, hml, hown, hts, hlk, hex, hG, hLow, hst, h0, rfl, rfl, rfl, rfl, rfl, rfl, rfl, hnm⟩ := hC
  intro H locs lsA hR hS hl
  rw [rv_pos (n := a) (hR.ne (a := a) (by rw [ht]; decide))]
  obtain ⟨hg0, L, hL, hP, hD⟩ := id hR
  obtain ⟨q, hq⟩ := va_pl_get (X := []) (f := mE G.2.1 M) ((hL a).mpr (by rw [ht]; decide))
  have hq0 : (va_pl L (mE G.2.1 M))[q]? = some (a, mE G.2.1 M a) := hq
  have hq : (va_pl L (mE G.2.1 M))[q]? = some (a, .inr (4, fs5 M a)) := by rw [← mE_5 ht]; exact hq0
  refine va_putF (C := RX4) (T := TX4) (N := 12) (ty := tyX4 3) hx hb hts lay4 tyX4 tyX4_ok nmX4 hown hG.1 hP hD hS q hq rfl 3 (by decide) (hts _ lk.1) (fun x h => h) rfl (hnm.trans hin) (by rw [hdecl]; rfl) (by decide +kernel) (rv_nar _ v) (rv_fit _ (by first | exact Or.inl ⟨_, rfl⟩ | exact Or.inr ⟨_, rfl⟩) v) (Nat.le_of_ble_eq_true rfl) dg (fun H1 locs1 hP1 hD1 hS1 => kk H1 locs1 lsA ?_ hS1 hl)
  exact Rep.set hg0 hL hD (by rw [ht]; decide) hq0 (fun b => rfl) (by rw [mE_5 (M := pR M a 3 v) ht, fset5_3]) (fun b hb => pR_ne b hb) hP1 hD1
theorem fset5_4 (M : Mm) (a : Nat) (v : Nat) : fs5 (pR M a 4 v) a = (fs5 M a).set 4 (rv v) := by simp [fs5, pR, mI, mR, mJ, up2]
theorem J_put5_4 {G : Gt} {γ : Γt} {own : String} {cc : ByteArray} {ret : Option FieldType} {M : Mm} {pc : Nat} {ls : List (Option Value)} {st : List Value} {k n d mc ms : Nat} {Qr : Option Value → Mm → Prop} {Qx : String → Mm → Prop} {lh : Launch} {nL : Nat} {nm : String} {a idx : Nat} {v : Nat} (hC : Cok G γ own cc ret d mc ms Qr Qx lh nL nm) (lk : LkF own idx TX4 12 4) (ht : (mT M a).1 = 5) (hin : nm = "<init>") (hdecl : own = RX4) (dg : decode cc pc = .ok (.putfield idx, 3)) (kk : J G γ (pR M a 4 v) (pc + 3) ls st k n) : J G γ M pc ls (rv v :: rv a :: st) k n := by
  obtain ⟨p, l, e, R, s, m, args, below, meth, c, Qr1, Qx1, mc1, ms1, nL1⟩ := γ
  obtain ⟨hx, hb, hr, hml, hown, hts, hlk, hex, hG, hLow, hst, h0, rfl, rfl, rfl, rfl, rfl, rfl, rfl, hnm⟩ := hC
  intro H locs lsA hR hS hl
  rw [rv_pos (n := a) (hR.ne (a := a) (by rw [ht]; decide))]
  obtain ⟨hg0, L, hL, hP, hD⟩ := id hR
  obtain ⟨q, hq⟩ := va_pl_get (X := []) (f := mE G.2.1 M) ((hL a).mpr (by rw [ht]; decide))
  have hq0 : (va_pl L (mE G.2.1 M))[q]? = some (a, mE G.2.1 M a) := hq
  have hq : (va_pl L (mE G.2.1 M))[q]? = some (a, .inr (4, fs5 M a)) := by rw [← mE_5 ht]; exact hq0
  refine va_putF (C := RX4) (T := TX4) (N := 12) (ty := tyX4 4) hx hb hts lay4 tyX4 tyX4_ok nmX4 hown hG.1 hP hD hS q hq rfl 4 (by decide) (hts _ lk.1) (fun x h => h) rfl (hnm.trans hin) (by rw [hdecl]; rfl) (by decide +kernel) (rv_nar _ v) (rv_fit _ (by first | exact Or.inl ⟨_, rfl⟩ | exact Or.inr ⟨_, rfl⟩) v) (Nat.le_of_ble_eq_true rfl) dg (fun H1 locs1 hP1 hD1 hS1 => kk H1 locs1 lsA ?_ hS1 hl)
  exact Rep.set hg0 hL hD (by rw [ht]; decide) hq0 (fun b => rfl) (by rw [mE_5 (M := pR M a 4 v) ht, fset5_4]) (fun b hb => pR_ne b hb) hP1 hD1
theorem fset5_5 (M : Mm) (a : Nat) (v : Nat) : fs5 (pR M a 5 v) a = (fs5 M a).set 5 (rv v) := by simp [fs5, pR, mI, mR, mJ, up2]
theorem J_put5_5 {G : Gt} {γ : Γt} {own : String} {cc : ByteArray} {ret : Option FieldType} {M : Mm} {pc : Nat} {ls : List (Option Value)} {st : List Value} {k n d mc ms : Nat} {Qr : Option Value → Mm → Prop} {Qx : String → Mm → Prop} {lh : Launch} {nL : Nat} {nm : String} {a idx : Nat} {v : Nat} (hC : Cok G γ own cc ret d mc ms Qr Qx lh nL nm) (lk : LkF own idx TX4 12 5) (ht : (mT M a).1 = 5) (hin : nm = "<init>") (hdecl : own = RX4) (dg : decode cc pc = .ok (.putfield idx, 3)) (kk : J G γ (pR M a 5 v) (pc + 3) ls st k n) : J G γ M pc ls (rv v :: rv a :: st) k n := by
  obtain ⟨p, l, e, R, s, m, args, below, meth, c, Qr1, Qx1, mc1, ms1, nL1⟩ := γ
  obtain ⟨hx, hb, hr, hml, hown, hts, hlk, hex, hG, hLow, hst, h0, rfl, rfl, rfl, rfl, rfl, rfl, rfl, hnm⟩ := hC
  intro H locs lsA hR hS hl
  rw [rv_pos (n := a) (hR.ne (a := a) (by rw [ht]; decide))]
  obtain ⟨hg0, L, hL, hP, hD⟩ := id hR
  obtain ⟨q, hq⟩ := va_pl_get (X := []) (f := mE G.2.1 M) ((hL a).mpr (by rw [ht]; decide))
  have hq0 : (va_pl L (mE G.2.1 M))[q]? = some (a, mE G.2.1 M a) := hq
  have hq : (va_pl L (mE G.2.1 M))[q]? = some (a, .inr (4, fs5 M a)) := by rw [← mE_5 ht]; exact hq0
  refine va_putF (C := RX4) (T := TX4) (N := 12) (ty := tyX4 5) hx hb hts lay4 tyX4 tyX4_ok nmX4 hown hG.1 hP hD hS q hq rfl 5 (by decide) (hts _ lk.1) (fun x h => h) rfl (hnm.trans hin) (by rw [hdecl]; rfl) (by decide +kernel) (rv_nar _ v) (rv_fit _ (by first | exact Or.inl ⟨_, rfl⟩ | exact Or.inr ⟨_, rfl⟩) v) (Nat.le_of_ble_eq_true rfl) dg (fun H1 locs1 hP1 hD1 hS1 => kk H1 locs1 lsA ?_ hS1 hl)
  exact Rep.set hg0 hL hD (by rw [ht]; decide) hq0 (fun b => rfl) (by rw [mE_5 (M := pR M a 5 v) ht, fset5_5]) (fun b hb => pR_ne b hb) hP1 hD1
theorem fset5_6 (M : Mm) (a : Nat) (v : Int32) : fs5 (pI M a 6 v) a = (fs5 M a).set 6 (.int v) := by simp [fs5, pI, mI, mR, mJ, up2]
theorem J_put5_6 {G : Gt} {γ : Γt} {own : String} {cc : ByteArray} {ret : Option FieldType} {M : Mm} {pc : Nat} {ls : List (Option Value)} {st : List Value} {k n d mc ms : Nat} {Qr : Option Value → Mm → Prop} {Qx : String → Mm → Prop} {lh : Launch} {nL : Nat} {nm : String} {a idx : Nat} {v : Int32} (hC : Cok G γ own cc ret d mc ms Qr Qx lh nL nm) (lk : LkF own idx TX4 12 6) (ht : (mT M a).1 = 5) (dg : decode cc pc = .ok (.putfield idx, 3)) (kk : J G γ (pI M a 6 v) (pc + 3) ls st k n) : J G γ M pc ls (.int v :: rv a :: st) k n := by
  obtain ⟨p, l, e, R, s, m, args, below, meth, c, Qr1, Qx1, mc1, ms1, nL1⟩ := γ
  obtain ⟨hx, hb, hr, hml, hown, hts, hlk, hex, hG, hLow, hst, h0, rfl, rfl, rfl, rfl, rfl, rfl, rfl, hnm⟩ := hC
  intro H locs lsA hR hS hl
  rw [rv_pos (n := a) (hR.ne (a := a) (by rw [ht]; decide))]
  obtain ⟨hg0, L, hL, hP, hD⟩ := id hR
  obtain ⟨q, hq⟩ := va_pl_get (X := []) (f := mE G.2.1 M) ((hL a).mpr (by rw [ht]; decide))
  have hq0 : (va_pl L (mE G.2.1 M))[q]? = some (a, mE G.2.1 M a) := hq
  have hq : (va_pl L (mE G.2.1 M))[q]? = some (a, .inr (4, fs5 M a)) := by rw [← mE_5 ht]; exact hq0
  refine va_put (C := RX4) (T := TX4) (N := 12) (ty := .int) hx hb hts lay4 tyX4 tyX4_ok nmX4 hown hG.1 hP hD hS q hq rfl 6 (by decide) (hts _ lk.1) (fun x h => h) rfl (by decide +kernel) rfl rfl (Nat.le_of_ble_eq_true rfl) dg (fun H1 locs1 hP1 hD1 hS1 => kk H1 locs1 lsA ?_ hS1 hl)
  exact Rep.set hg0 hL hD (by rw [ht]; decide) hq0 (fun b => rfl) (by rw [mE_5 (M := pI M a 6 v) ht, fset5_6]) (fun b hb => pI_ne b hb) hP1 hD1
theorem fset5_7 (M : Mm) (a : Nat) (v : Int32) : fs5 (pI M a 7 v) a = (fs5 M a).set 7 (.int v) := by simp [fs5, pI, mI, mR, mJ, up2]
theorem J_put5_7 {G : Gt} {γ : Γt} {own : String} {cc : ByteArray} {ret : Option FieldType} {M : Mm} {pc : Nat} {ls : List (Option Value)} {st : List Value} {k n d mc ms : Nat} {Qr : Option Value → Mm → Prop} {Qx : String → Mm → Prop} {lh : Launch} {nL : Nat} {nm : String} {a idx : Nat} {v : Int32} (hC : Cok G γ own cc ret d mc ms Qr Qx lh nL nm) (lk : LkF own idx TX4 12 7) (ht : (mT M a).1 = 5) (dg : decode cc pc = .ok (.putfield idx, 3)) (kk : J G γ (pI M a 7 v) (pc + 3) ls st k n) : J G γ M pc ls (.int v :: rv a :: st) k n := by
  obtain ⟨p, l, e, R, s, m, args, below, meth, c, Qr1, Qx1, mc1, ms1, nL1⟩ := γ
  obtain ⟨hx, hb, hr, hml, hown, hts, hlk, hex, hG, hLow, hst, h0, rfl, rfl, rfl, rfl, rfl, rfl, rfl, hnm⟩ := hC
  intro H locs lsA hR hS hl
  rw [rv_pos (n := a) (hR.ne (a := a) (by rw [ht]; decide))]
  obtain ⟨hg0, L, hL, hP, hD⟩ := id hR
  obtain ⟨q, hq⟩ := va_pl_get (X := []) (f := mE G.2.1 M) ((hL a).mpr (by rw [ht]; decide))
  have hq0 : (va_pl L (mE G.2.1 M))[q]? = some (a, mE G.2.1 M a) := hq
  have hq : (va_pl L (mE G.2.1 M))[q]? = some (a, .inr (4, fs5 M a)) := by rw [← mE_5 ht]; exact hq0
  refine va_put (C := RX4) (T := TX4) (N := 12) (ty := .int) hx hb hts lay4 tyX4 tyX4_ok nmX4 hown hG.1 hP hD hS q hq rfl 7 (by decide) (hts _ lk.1) (fun x h => h) rfl (by decide +kernel) rfl rfl (Nat.le_of_ble_eq_true rfl) dg (fun H1 locs1 hP1 hD1 hS1 => kk H1 locs1 lsA ?_ hS1 hl)
  exact Rep.set hg0 hL hD (by rw [ht]; decide) hq0 (fun b => rfl) (by rw [mE_5 (M := pI M a 7 v) ht, fset5_7]) (fun b hb => pI_ne b hb) hP1 hD1
theorem fset5_8 (M : Mm) (a : Nat) (v : Int32) : fs5 (pI M a 8 v) a = (fs5 M a).set 8 (.int v) := by simp [fs5, pI, mI, mR, mJ, up2]
theorem J_put5_8 {G : Gt} {γ : Γt} {own : String} {cc : ByteArray} {ret : Option FieldType} {M : Mm} {pc : Nat} {ls : List (Option Value)} {st : List Value} {k n d mc ms : Nat} {Qr : Option Value → Mm → Prop} {Qx : String → Mm → Prop} {lh : Launch} {nL : Nat} {nm : String} {a idx : Nat} {v : Int32} (hC : Cok G γ own cc ret d mc ms Qr Qx lh nL nm) (lk : LkF own idx TX4 12 8) (ht : (mT M a).1 = 5) (dg : decode cc pc = .ok (.putfield idx, 3)) (kk : J G γ (pI M a 8 v) (pc + 3) ls st k n) : J G γ M pc ls (.int v :: rv a :: st) k n := by
  obtain ⟨p, l, e, R, s, m, args, below, meth, c, Qr1, Qx1, mc1, ms1, nL1⟩ := γ
  obtain ⟨hx, hb, hr, hml, hown, hts, hlk, hex, hG, hLow, hst, h0, rfl, rfl, rfl, rfl, rfl, rfl, rfl, hnm⟩ := hC
  intro H locs lsA hR hS hl
  rw [rv_pos (n := a) (hR.ne (a := a) (by rw [ht]; decide))]
  obtain ⟨hg0, L, hL, hP, hD⟩ := id hR
  obtain ⟨q, hq⟩ := va_pl_get (X := []) (f := mE G.2.1 M) ((hL a).mpr (by rw [ht]; decide))
  have hq0 : (va_pl L (mE G.2.1 M))[q]? = some (a, mE G.2.1 M a) := hq
  have hq : (va_pl L (mE G.2.1 M))[q]? = some (a, .inr (4, fs5 M a)) := by rw [← mE_5 ht]; exact hq0
  refine va_put (C := RX4) (T := TX4) (N := 12) (ty := .int) hx hb hts lay4 tyX4 tyX4_ok nmX4 hown hG.1 hP hD hS q hq rfl 8 (by decide) (hts _ lk.1) (fun x h => h) rfl (by decide +kernel) rfl rfl (Nat.le_of_ble_eq_true rfl) dg (fun H1 locs1 hP1 hD1 hS1 => kk H1 locs1 lsA ?_ hS1 hl)
  exact Rep.set hg0 hL hD (by rw [ht]; decide) hq0 (fun b => rfl) (by rw [mE_5 (M := pI M a 8 v) ht, fset5_8]) (fun b hb => pI_ne b hb) hP1 hD1
theorem fset5_9 (M : Mm) (a : Nat) (v : Int32) : fs5 (pI M a 9 v) a = (fs5 M a).set 9 (.int v) := by simp [fs5, pI, mI, mR, mJ, up2]
theorem J_put5_9 {G : Gt} {γ : Γt} {own : String} {cc : ByteArray} {ret : Option FieldType} {M : Mm} {pc : Nat} {ls : List (Option Value)} {st : List Value} {k n d mc ms : Nat} {Qr : Option Value → Mm → Prop} {Qx : String → Mm → Prop} {lh : Launch} {nL : Nat} {nm : String} {a idx : Nat} {v : Int32} (hC : Cok G γ own cc ret d mc ms Qr Qx lh nL nm) (lk : LkF own idx TX4 12 9) (ht : (mT M a).1 = 5) (dg : decode cc pc = .ok (.putfield idx, 3)) (kk : J G γ (pI M a 9 v) (pc + 3) ls st k n) : J G γ M pc ls (.int v :: rv a :: st) k n := by
  obtain ⟨p, l, e, R, s, m, args, below, meth, c, Qr1, Qx1, mc1, ms1, nL1⟩ := γ
  obtain ⟨hx, hb, hr, hml, hown, hts, hlk, hex, hG, hLow, hst, h0, rfl, rfl, rfl, rfl, rfl, rfl, rfl, hnm⟩ := hC
  intro H locs lsA hR hS hl
  rw [rv_pos (n := a) (hR.ne (a := a) (by rw [ht]; decide))]
  obtain ⟨hg0, L, hL, hP, hD⟩ := id hR
  obtain ⟨q, hq⟩ := va_pl_get (X := []) (f := mE G.2.1 M) ((hL a).mpr (by rw [ht]; decide))
  have hq0 : (va_pl L (mE G.2.1 M))[q]? = some (a, mE G.2.1 M a) := hq
  have hq : (va_pl L (mE G.2.1 M))[q]? = some (a, .inr (4, fs5 M a)) := by rw [← mE_5 ht]; exact hq0
  refine va_put (C := RX4) (T := TX4) (N := 12) (ty := .int) hx hb hts lay4 tyX4 tyX4_ok nmX4 hown hG.1 hP hD hS q hq rfl 9 (by decide) (hts _ lk.1) (fun x h => h) rfl (by decide +kernel) rfl rfl (Nat.le_of_ble_eq_true rfl) dg (fun H1 locs1 hP1 hD1 hS1 => kk H1 locs1 lsA ?_ hS1 hl)
  exact Rep.set hg0 hL hD (by rw [ht]; decide) hq0 (fun b => rfl) (by rw [mE_5 (M := pI M a 9 v) ht, fset5_9]) (fun b hb => pI_ne b hb) hP1 hD1
theorem fset5_10 (M : Mm) (a : Nat) (v : Int32) : fs5 (pI M a 10 v) a = (fs5 M a).set 10 (.int v) := by simp [fs5, pI, mI, mR, mJ, up2]
theorem J_put5_10 {G : Gt} {γ : Γt} {own : String} {cc : ByteArray} {ret : Option FieldType} {M : Mm} {pc : Nat} {ls : List (Option Value)} {st : List Value} {k n d mc ms : Nat} {Qr : Option Value → Mm → Prop} {Qx : String → Mm → Prop} {lh : Launch} {nL : Nat} {nm : String} {a idx : Nat} {v : Int32} (hC : Cok G γ own cc ret d mc ms Qr Qx lh nL nm) (lk : LkF own idx TX4 12 10) (ht : (mT M a).1 = 5) (dg : decode cc pc = .ok (.putfield idx, 3)) (kk : J G γ (pI M a 10 v) (pc + 3) ls st k n) : J G γ M pc ls (.int v :: rv a :: st) k n := by
  obtain ⟨p, l, e, R, s, m, args, below, meth, c, Qr1, Qx1, mc1, ms1, nL1⟩ := γ
  obtain ⟨hx, hb, hr, hml, hown, hts, hlk, hex, hG, hLow, hst, h0, rfl, rfl, rfl, rfl, rfl, rfl, rfl, hnm⟩ := hC
  intro H locs lsA hR hS hl
  rw [rv_pos (n := a) (hR.ne (a := a) (by rw [ht]; decide))]
  obtain ⟨hg0, L, hL, hP, hD⟩ := id hR
  obtain ⟨q, hq⟩ := va_pl_get (X := []) (f := mE G.2.1 M) ((hL a).mpr (by rw [ht]; decide))
  have hq0 : (va_pl L (mE G.2.1 M))[q]? = some (a, mE G.2.1 M a) := hq
  have hq : (va_pl L (mE G.2.1 M))[q]? = some (a, .inr (4, fs5 M a)) := by rw [← mE_5 ht]; exact hq0
  refine va_put (C := RX4) (T := TX4) (N := 12) (ty := .int) hx hb hts lay4 tyX4 tyX4_ok nmX4 hown hG.1 hP hD hS q hq rfl 10 (by decide) (hts _ lk.1) (fun x h => h) rfl (by decide +kernel) rfl rfl (Nat.le_of_ble_eq_true rfl) dg (fun H1 locs1 hP1 hD1 hS1 => kk H1 locs1 lsA ?_ hS1 hl)
  exact Rep.set hg0 hL hD (by rw [ht]; decide) hq0 (fun b => rfl) (by rw [mE_5 (M := pI M a 10 v) ht, fset5_10]) (fun b hb => pI_ne b hb) hP1 hD1
theorem fset5_11 (M : Mm) (a : Nat) (v : Int64) : fs5 (pJ M a 11 v) a = (fs5 M a).set 11 (.long v) := by simp [fs5, pJ, mI, mR, mJ, up2]
theorem J_put5_11 {G : Gt} {γ : Γt} {own : String} {cc : ByteArray} {ret : Option FieldType} {M : Mm} {pc : Nat} {ls : List (Option Value)} {st : List Value} {k n d mc ms : Nat} {Qr : Option Value → Mm → Prop} {Qx : String → Mm → Prop} {lh : Launch} {nL : Nat} {nm : String} {a idx : Nat} {v : Int64} (hC : Cok G γ own cc ret d mc ms Qr Qx lh nL nm) (lk : LkF own idx TX4 12 11) (ht : (mT M a).1 = 5) (dg : decode cc pc = .ok (.putfield idx, 3)) (kk : J G γ (pJ M a 11 v) (pc + 3) ls st k n) : J G γ M pc ls (.long v :: rv a :: st) k n := by
  obtain ⟨p, l, e, R, s, m, args, below, meth, c, Qr1, Qx1, mc1, ms1, nL1⟩ := γ
  obtain ⟨hx, hb, hr, hml, hown, hts, hlk, hex, hG, hLow, hst, h0, rfl, rfl, rfl, rfl, rfl, rfl, rfl, hnm⟩ := hC
  intro H locs lsA hR hS hl
  rw [rv_pos (n := a) (hR.ne (a := a) (by rw [ht]; decide))]
  obtain ⟨hg0, L, hL, hP, hD⟩ := id hR
  obtain ⟨q, hq⟩ := va_pl_get (X := []) (f := mE G.2.1 M) ((hL a).mpr (by rw [ht]; decide))
  have hq0 : (va_pl L (mE G.2.1 M))[q]? = some (a, mE G.2.1 M a) := hq
  have hq : (va_pl L (mE G.2.1 M))[q]? = some (a, .inr (4, fs5 M a)) := by rw [← mE_5 ht]; exact hq0
  refine va_put (C := RX4) (T := TX4) (N := 12) (ty := .long) hx hb hts lay4 tyX4 tyX4_ok nmX4 hown hG.1 hP hD hS q hq rfl 11 (by decide) (hts _ lk.1) (fun x h => h) rfl (by decide +kernel) rfl rfl (Nat.le_of_ble_eq_true rfl) dg (fun H1 locs1 hP1 hD1 hS1 => kk H1 locs1 lsA ?_ hS1 hl)
  exact Rep.set hg0 hL hD (by rw [ht]; decide) hq0 (fun b => rfl) (by rw [mE_5 (M := pJ M a 11 v) ht, fset5_11]) (fun b hb => pJ_ne b hb) hP1 hD1
theorem J_get6 {G : Gt} {γ : Γt} {own : String} {cc : ByteArray} {ret : Option FieldType} {M : Mm} {pc : Nat} {ls : List (Option Value)} {st : List Value} {k n d mc ms : Nat} {Qr : Option Value → Mm → Prop} {Qx : String → Mm → Prop} {lh : Launch} {nL : Nat} {nm : String} {a idx j : Nat} {v : Value} (hC : Cok G γ own cc ret d mc ms Qr Qx lh nL nm) (lk : LkF own idx TX5 33 j) (ht : (mT M a).1 = 6) (hv : (fs6 M a)[j]? = some v) (dg : decode cc pc = .ok (.getfield idx, 3)) (kk : J G γ M (pc + 3) ls (v :: st) k n) : J G γ M pc ls (rv a :: st) k n := by
  obtain ⟨p, l, e, R, s, m, args, below, meth, c, Qr1, Qx1, mc1, ms1, nL1⟩ := γ
  obtain ⟨hx, hb, hr, hml, hown, hts, hlk, hex, hG, hLow, hst, h0, rfl, rfl, rfl, rfl, rfl, rfl, rfl, hnm⟩ := hC
  intro H locs lsA hR hS hl
  rw [rv_pos (n := a) (hR.ne (a := a) (by rw [ht]; decide))]
  obtain ⟨hg0, L, hL, hP, hD⟩ := id hR
  obtain ⟨q, hq⟩ := va_pl_get (X := []) (f := mE G.2.1 M) ((hL a).mpr (by rw [ht]; decide))
  have hq0 : (va_pl L (mE G.2.1 M))[q]? = some (a, mE G.2.1 M a) := hq
  have hq : (va_pl L (mE G.2.1 M))[q]? = some (a, .inr (5, fs6 M a)) := by rw [← mE_6 ht]; exact hq0
  exact va_get (C := RX5) (T := TX5) (N := 33) hx hb hts lay5 hown hG.1 hP q hq rfl j lk.2 (hts _ lk.1) (fun x h => h) hv dg (kk H locs lsA hR hS hl)
theorem fset6_0 (M : Mm) (a : Nat) (v : Int32) : fs6 (pI M a 0 v) a = (fs6 M a).set 0 (.int v) := by simp [fs6, pI, mI, mR, mJ, up2]
theorem J_put6_0 {G : Gt} {γ : Γt} {own : String} {cc : ByteArray} {ret : Option FieldType} {M : Mm} {pc : Nat} {ls : List (Option Value)} {st : List Value} {k n d mc ms : Nat} {Qr : Option Value → Mm → Prop} {Qx : String → Mm → Prop} {lh : Launch} {nL : Nat} {nm : String} {a idx : Nat} {v : Int32} (hC : Cok G γ own cc ret d mc ms Qr Qx lh nL nm) (lk : LkF own idx TX5 33 0) (ht : (mT M a).1 = 6) (dg : decode cc pc = .ok (.putfield idx, 3)) (kk : J G γ (pI M a 0 v) (pc + 3) ls st k n) : J G γ M pc ls (.int v :: rv a :: st) k n := by
  obtain ⟨p, l, e, R, s, m, args, below, meth, c, Qr1, Qx1, mc1, ms1, nL1⟩ := γ
  obtain ⟨hx, hb, hr, hml, hown, hts, hlk, hex, hG, hLow, hst, h0, rfl, rfl, rfl, rfl, rfl, rfl, rfl, hnm⟩ := hC
  intro H locs lsA hR hS hl
  rw [rv_pos (n := a) (hR.ne (a := a) (by rw [ht]; decide))]
  obtain ⟨hg0, L, hL, hP, hD⟩ := id hR
  obtain ⟨q, hq⟩ := va_pl_get (X := []) (f := mE G.2.1 M) ((hL a).mpr (by rw [ht]; decide))
  have hq0 : (va_pl L (mE G.2.1 M))[q]? = some (a, mE G.2.1 M a) := hq
  have hq : (va_pl L (mE G.2.1 M))[q]? = some (a, .inr (5, fs6 M a)) := by rw [← mE_6 ht]; exact hq0
  refine va_put (C := RX5) (T := TX5) (N := 33) (ty := .int) hx hb hts lay5 tyX5 tyX5_ok nmX5 hown hG.1 hP hD hS q hq rfl 0 (by decide) (hts _ lk.1) (fun x h => h) rfl (by decide +kernel) rfl rfl (Nat.le_of_ble_eq_true rfl) dg (fun H1 locs1 hP1 hD1 hS1 => kk H1 locs1 lsA ?_ hS1 hl)
  exact Rep.set hg0 hL hD (by rw [ht]; decide) hq0 (fun b => rfl) (by rw [mE_6 (M := pI M a 0 v) ht, fset6_0]) (fun b hb => pI_ne b hb) hP1 hD1
theorem fset6_1 (M : Mm) (a : Nat) (v : Int32) : fs6 (pI M a 1 v) a = (fs6 M a).set 1 (.int v) := by simp [fs6, pI, mI, mR, mJ, up2]
theorem J_put6_1 {G : Gt} {γ : Γt} {own : String} {cc : ByteArray} {ret : Option FieldType} {M : Mm} {pc : Nat} {ls : List (Option Value)} {st : List Value} {k n d mc ms : Nat} {Qr : Option Value → Mm → Prop} {Qx : String → Mm → Prop} {lh : Launch} {nL : Nat} {nm : String} {a idx : Nat} {v : Int32} (hC : Cok G γ own cc ret d mc ms Qr Qx lh nL nm) (lk : LkF own idx TX5 33 1) (ht : (mT M a).1 = 6) (dg : decode cc pc = .ok (.putfield idx, 3)) (kk : J G γ (pI M a 1 v) (pc + 3) ls st k n) : J G γ M pc ls (.int v :: rv a :: st) k n := by
  obtain ⟨p, l, e, R, s, m, args, below, meth, c, Qr1, Qx1, mc1, ms1, nL1⟩ := γ
  obtain ⟨hx, hb, hr, hml, hown, hts, hlk, hex, hG, hLow, hst, h0, rfl, rfl, rfl, rfl, rfl, rfl, rfl, hnm⟩ := hC
  intro H locs lsA hR hS hl
  rw [rv_pos (n := a) (hR.ne (a := a) (by rw [ht]; decide))]
  obtain ⟨hg0, L, hL, hP, hD⟩ := id hR
  obtain ⟨q, hq⟩ := va_pl_get (X := []) (f := mE G.2.1 M) ((hL a).mpr (by rw [ht]; decide))
  have hq0 : (va_pl L (mE G.2.1 M))[q]? = some (a, mE G.2.1 M a) := hq
  have hq : (va_pl L (mE G.2.1 M))[q]? = some (a, .inr (5, fs6 M a)) := by rw [← mE_6 ht]; exact hq0
  refine va_put (C := RX5) (T := TX5) (N := 33) (ty := .int) hx hb hts lay5 tyX5 tyX5_ok nmX5 hown hG.1 hP hD hS q hq rfl 1 (by decide) (hts _ lk.1) (fun x h => h) rfl (by decide +kernel) rfl rfl (Nat.le_of_ble_eq_true rfl) dg (fun H1 locs1 hP1 hD1 hS1 => kk H1 locs1 lsA ?_ hS1 hl)
  exact Rep.set hg0 hL hD (by rw [ht]; decide) hq0 (fun b => rfl) (by rw [mE_6 (M := pI M a 1 v) ht, fset6_1]) (fun b hb => pI_ne b hb) hP1 hD1
theorem fset6_2 (M : Mm) (a : Nat) (v : Int32) : fs6 (pI M a 2 v) a = (fs6 M a).set 2 (.int v) := by simp [fs6, pI, mI, mR, mJ, up2]
theorem J_put6_2 {G : Gt} {γ : Γt} {own : String} {cc : ByteArray} {ret : Option FieldType} {M : Mm} {pc : Nat} {ls : List (Option Value)} {st : List Value} {k n d mc ms : Nat} {Qr : Option Value → Mm → Prop} {Qx : String → Mm → Prop} {lh : Launch} {nL : Nat} {nm : String} {a idx : Nat} {v : Int32} (hC : Cok G γ own cc ret d mc ms Qr Qx lh nL nm) (lk : LkF own idx TX5 33 2) (ht : (mT M a).1 = 6) (dg : decode cc pc = .ok (.putfield idx, 3)) (kk : J G γ (pI M a 2 v) (pc + 3) ls st k n) : J G γ M pc ls (.int v :: rv a :: st) k n := by
  obtain ⟨p, l, e, R, s, m, args, below, meth, c, Qr1, Qx1, mc1, ms1, nL1⟩ := γ
  obtain ⟨hx, hb, hr, hml, hown, hts, hlk, hex, hG, hLow, hst, h0, rfl, rfl, rfl, rfl, rfl, rfl, rfl, hnm⟩ := hC
  intro H locs lsA hR hS hl
  rw [rv_pos (n := a) (hR.ne (a := a) (by rw [ht]; decide))]
  obtain ⟨hg0, L, hL, hP, hD⟩ := id hR
  obtain ⟨q, hq⟩ := va_pl_get (X := []) (f := mE G.2.1 M) ((hL a).mpr (by rw [ht]; decide))
  have hq0 : (va_pl L (mE G.2.1 M))[q]? = some (a, mE G.2.1 M a) := hq
  have hq : (va_pl L (mE G.2.1 M))[q]? = some (a, .inr (5, fs6 M a)) := by rw [← mE_6 ht]; exact hq0
  refine va_put (C := RX5) (T := TX5) (N := 33) (ty := .int) hx hb hts lay5 tyX5 tyX5_ok nmX5 hown hG.1 hP hD hS q hq rfl 2 (by decide) (hts _ lk.1) (fun x h => h) rfl (by decide +kernel) rfl rfl (Nat.le_of_ble_eq_true rfl) dg (fun H1 locs1 hP1 hD1 hS1 => kk H1 locs1 lsA ?_ hS1 hl)
  exact Rep.set hg0 hL hD (by rw [ht]; decide) hq0 (fun b => rfl) (by rw [mE_6 (M := pI M a 2 v) ht, fset6_2]) (fun b hb => pI_ne b hb) hP1 hD1
theorem fset6_3 (M : Mm) (a : Nat) (v : Int32) : fs6 (pI M a 3 v) a = (fs6 M a).set 3 (.int v) := by simp [fs6, pI, mI, mR, mJ, up2]
theorem J_put6_3 {G : Gt} {γ : Γt} {own : String} {cc : ByteArray} {ret : Option FieldType} {M : Mm} {pc : Nat} {ls : List (Option Value)} {st : List Value} {k n d mc ms : Nat} {Qr : Option Value → Mm → Prop} {Qx : String → Mm → Prop} {lh : Launch} {nL : Nat} {nm : String} {a idx : Nat} {v : Int32} (hC : Cok G γ own cc ret d mc ms Qr Qx lh nL nm) (lk : LkF own idx TX5 33 3) (ht : (mT M a).1 = 6) (dg : decode cc pc = .ok (.putfield idx, 3)) (kk : J G γ (pI M a 3 v) (pc + 3) ls st k n) : J G γ M pc ls (.int v :: rv a :: st) k n := by
  obtain ⟨p, l, e, R, s, m, args, below, meth, c, Qr1, Qx1, mc1, ms1, nL1⟩ := γ
  obtain ⟨hx, hb, hr, hml, hown, hts, hlk, hex, hG, hLow, hst, h0, rfl, rfl, rfl, rfl, rfl, rfl, rfl, hnm⟩ := hC
  intro H locs lsA hR hS hl
  rw [rv_pos (n := a) (hR.ne (a := a) (by rw [ht]; decide))]
  obtain ⟨hg0, L, hL, hP, hD⟩ := id hR
  obtain ⟨q, hq⟩ := va_pl_get (X := []) (f := mE G.2.1 M) ((hL a).mpr (by rw [ht]; decide))
  have hq0 : (va_pl L (mE G.2.1 M))[q]? = some (a, mE G.2.1 M a) := hq
  have hq : (va_pl L (mE G.2.1 M))[q]? = some (a, .inr (5, fs6 M a)) := by rw [← mE_6 ht]; exact hq0
  refine va_put (C := RX5) (T := TX5) (N := 33) (ty := .int) hx hb hts lay5 tyX5 tyX5_ok nmX5 hown hG.1 hP hD hS q hq rfl 3 (by decide) (hts _ lk.1) (fun x h => h) rfl (by decide +kernel) rfl rfl (Nat.le_of_ble_eq_true rfl) dg (fun H1 locs1 hP1 hD1 hS1 => kk H1 locs1 lsA ?_ hS1 hl)
  exact Rep.set hg0 hL hD (by rw [ht]; decide) hq0 (fun b => rfl) (by rw [mE_6 (M := pI M a 3 v) ht, fset6_3]) (fun b hb => pI_ne b hb) hP1 hD1
theorem fset6_4 (M : Mm) (a : Nat) (v : Int32) : fs6 (pI M a 4 v) a = (fs6 M a).set 4 (.int v) := by simp [fs6, pI, mI, mR, mJ, up2]
theorem J_put6_4 {G : Gt} {γ : Γt} {own : String} {cc : ByteArray} {ret : Option FieldType} {M : Mm} {pc : Nat} {ls : List (Option Value)} {st : List Value} {k n d mc ms : Nat} {Qr : Option Value → Mm → Prop} {Qx : String → Mm → Prop} {lh : Launch} {nL : Nat} {nm : String} {a idx : Nat} {v : Int32} (hC : Cok G γ own cc ret d mc ms Qr Qx lh nL nm) (lk : LkF own idx TX5 33 4) (ht : (mT M a).1 = 6) (dg : decode cc pc = .ok (.putfield idx, 3)) (kk : J G γ (pI M a 4 v) (pc + 3) ls st k n) : J G γ M pc ls (.int v :: rv a :: st) k n := by
  obtain ⟨p, l, e, R, s, m, args, below, meth, c, Qr1, Qx1, mc1, ms1, nL1⟩ := γ
  obtain ⟨hx, hb, hr, hml, hown, hts, hlk, hex, hG, hLow, hst, h0, rfl, rfl, rfl, rfl, rfl, rfl, rfl, hnm⟩ := hC
  intro H locs lsA hR hS hl
  rw [rv_pos (n := a) (hR.ne (a := a) (by rw [ht]; decide))]
  obtain ⟨hg0, L, hL, hP, hD⟩ := id hR
  obtain ⟨q, hq⟩ := va_pl_get (X := []) (f := mE G.2.1 M) ((hL a).mpr (by rw [ht]; decide))
  have hq0 : (va_pl L (mE G.2.1 M))[q]? = some (a, mE G.2.1 M a) := hq
  have hq : (va_pl L (mE G.2.1 M))[q]? = some (a, .inr (5, fs6 M a)) := by rw [← mE_6 ht]; exact hq0
  refine va_put (C := RX5) (T := TX5) (N := 33) (ty := .int) hx hb hts lay5 tyX5 tyX5_ok nmX5 hown hG.1 hP hD hS q hq rfl 4 (by decide) (hts _ lk.1) (fun x h => h) rfl (by decide +kernel) rfl rfl (Nat.le_of_ble_eq_true rfl) dg (fun H1 locs1 hP1 hD1 hS1 => kk H1 locs1 lsA ?_ hS1 hl)
  exact Rep.set hg0 hL hD (by rw [ht]; decide) hq0 (fun b => rfl) (by rw [mE_6 (M := pI M a 4 v) ht, fset6_4]) (fun b hb => pI_ne b hb) hP1 hD1
theorem fset6_5 (M : Mm) (a : Nat) (v : Int32) : fs6 (pI M a 5 v) a = (fs6 M a).set 5 (.int v) := by simp [fs6, pI, mI, mR, mJ, up2]
theorem J_put6_5 {G : Gt} {γ : Γt} {own : String} {cc : ByteArray} {ret : Option FieldType} {M : Mm} {pc : Nat} {ls : List (Option Value)} {st : List Value} {k n d mc ms : Nat} {Qr : Option Value → Mm → Prop} {Qx : String → Mm → Prop} {lh : Launch} {nL : Nat} {nm : String} {a idx : Nat} {v : Int32} (hC : Cok G γ own cc ret d mc ms Qr Qx lh nL nm) (lk : LkF own idx TX5 33 5) (ht : (mT M a).1 = 6) (dg : decode cc pc = .ok (.putfield idx, 3)) (kk : J G γ (pI M a 5 v) (pc + 3) ls st k n) : J G γ M pc ls (.int v :: rv a :: st) k n := by
  obtain ⟨p, l, e, R, s, m, args, below, meth, c, Qr1, Qx1, mc1, ms1, nL1⟩ := γ
  obtain ⟨hx, hb, hr, hml, hown, hts, hlk, hex, hG, hLow, hst, h0, rfl, rfl, rfl, rfl, rfl, rfl, rfl, hnm⟩ := hC
  intro H locs lsA hR hS hl
  rw [rv_pos (n := a) (hR.ne (a := a) (by rw [ht]; decide))]
  obtain ⟨hg0, L, hL, hP, hD⟩ := id hR
  obtain ⟨q, hq⟩ := va_pl_get (X := []) (f := mE G.2.1 M) ((hL a).mpr (by rw [ht]; decide))
  have hq0 : (va_pl L (mE G.2.1 M))[q]? = some (a, mE G.2.1 M a) := hq
  have hq : (va_pl L (mE G.2.1 M))[q]? = some (a, .inr (5, fs6 M a)) := by rw [← mE_6 ht]; exact hq0
  refine va_put (C := RX5) (T := TX5) (N := 33) (ty := .int) hx hb hts lay5 tyX5 tyX5_ok nmX5 hown hG.1 hP hD hS q hq rfl 5 (by decide) (hts _ lk.1) (fun x h => h) rfl (by decide +kernel) rfl rfl (Nat.le_of_ble_eq_true rfl) dg (fun H1 locs1 hP1 hD1 hS1 => kk H1 locs1 lsA ?_ hS1 hl)
  exact Rep.set hg0 hL hD (by rw [ht]; decide) hq0 (fun b => rfl) (by rw [mE_6 (M := pI M a 5 v) ht, fset6_5]) (fun b hb => pI_ne b hb) hP1 hD1
theorem fset6_6 (M : Mm) (a : Nat) (v : Int32) : fs6 (pI M a 6 v) a = (fs6 M a).set 6 (.int v) := by simp [fs6, pI, mI, mR, mJ, up2]
theorem J_put6_6 {G : Gt} {γ : Γt} {own : String} {cc : ByteArray} {ret : Option FieldType} {M : Mm} {pc : Nat} {ls : List (Option Value)} {st : List Value} {k n d mc ms : Nat} {Qr : Option Value → Mm → Prop} {Qx : String → Mm → Prop} {lh : Launch} {nL : Nat} {nm : String} {a idx : Nat} {v : Int32} (hC : Cok G γ own cc ret d mc ms Qr Qx lh nL nm) (lk : LkF own idx TX5 33 6) (ht : (mT M a).1 = 6) (dg : decode cc pc = .ok (.putfield idx, 3)) (kk : J G γ (pI M a 6 v) (pc + 3) ls st k n) : J G γ M pc ls (.int v :: rv a :: st) k n := by
  obtain ⟨p, l, e, R, s, m, args, below, meth, c, Qr1, Qx1, mc1, ms1, nL1⟩ := γ
  obtain ⟨hx, hb, hr, hml, hown, hts, hlk, hex, hG, hLow, hst, h0, rfl, rfl, rfl, rfl, rfl, rfl, rfl, hnm⟩ := hC
  intro H locs lsA hR hS hl
  rw [rv_pos (n := a) (hR.ne (a := a) (by rw [ht]; decide))]
  obtain ⟨hg0, L, hL, hP, hD⟩ := id hR
  obtain ⟨q, hq⟩ := va_pl_get (X := []) (f := mE G.2.1 M) ((hL a).mpr (by rw [ht]; decide))
  have hq0 : (va_pl L (mE G.2.1 M))[q]? = some (a, mE G.2.1 M a) := hq
  have hq : (va_pl L (mE G.2.1 M))[q]? = some (a, .inr (5, fs6 M a)) := by rw [← mE_6 ht]; exact hq0
  refine va_put (C := RX5) (T := TX5) (N := 33) (ty := .int) hx hb hts lay5 tyX5 tyX5_ok nmX5 hown hG.1 hP hD hS q hq rfl 6 (by decide) (hts _ lk.1) (fun x h => h) rfl (by decide +kernel) rfl rfl (Nat.le_of_ble_eq_true rfl) dg (fun H1 locs1 hP1 hD1 hS1 => kk H1 locs1 lsA ?_ hS1 hl)
  exact Rep.set hg0 hL hD (by rw [ht]; decide) hq0 (fun b => rfl) (by rw [mE_6 (M := pI M a 6 v) ht, fset6_6]) (fun b hb => pI_ne b hb) hP1 hD1
theorem fset6_7 (M : Mm) (a : Nat) (v : Int32) : fs6 (pI M a 7 v) a = (fs6 M a).set 7 (.int v) := by simp [fs6, pI, mI, mR, mJ, up2]
theorem J_put6_7 {G : Gt} {γ : Γt} {own : String} {cc : ByteArray} {ret : Option FieldType} {M : Mm} {pc : Nat} {ls : List (Option Value)} {st : List Value} {k n d mc ms : Nat} {Qr : Option Value → Mm → Prop} {Qx : String → Mm → Prop} {lh : Launch} {nL : Nat} {nm : String} {a idx : Nat} {v : Int32} (hC : Cok G γ own cc ret d mc ms Qr Qx lh nL nm) (lk : LkF own idx TX5 33 7) (ht : (mT M a).1 = 6) (dg : decode cc pc = .ok (.putfield idx, 3)) (kk : J G γ (pI M a 7 v) (pc + 3) ls st k n) : J G γ M pc ls (.int v :: rv a :: st) k n := by
  obtain ⟨p, l, e, R, s, m, args, below, meth, c, Qr1, Qx1, mc1, ms1, nL1⟩ := γ
  obtain ⟨hx, hb, hr, hml, hown, hts, hlk, hex, hG, hLow, hst, h0, rfl, rfl, rfl, rfl, rfl, rfl, rfl, hnm⟩ := hC
  intro H locs lsA hR hS hl
  rw [rv_pos (n := a) (hR.ne (a := a) (by rw [ht]; decide))]
  obtain ⟨hg0, L, hL, hP, hD⟩ := id hR
  obtain ⟨q, hq⟩ := va_pl_get (X := []) (f := mE G.2.1 M) ((hL a).mpr (by rw [ht]; decide))
  have hq0 : (va_pl L (mE G.2.1 M))[q]? = some (a, mE G.2.1 M a) := hq
  have hq : (va_pl L (mE G.2.1 M))[q]? = some (a, .inr (5, fs6 M a)) := by rw [← mE_6 ht]; exact hq0
  refine va_put (C := RX5) (T := TX5) (N := 33) (ty := .int) hx hb hts lay5 tyX5 tyX5_ok nmX5 hown hG.1 hP hD hS q hq rfl 7 (by decide) (hts _ lk.1) (fun x h => h) rfl (by decide +kernel) rfl rfl (Nat.le_of_ble_eq_true rfl) dg (fun H1 locs1 hP1 hD1 hS1 => kk H1 locs1 lsA ?_ hS1 hl)
  exact Rep.set hg0 hL hD (by rw [ht]; decide) hq0 (fun b => rfl) (by rw [mE_6 (M := pI M a 7 v) ht, fset6_7]) (fun b hb => pI_ne b hb) hP1 hD1
theorem fset6_8 (M : Mm) (a : Nat) (v : Int32) : fs6 (pI M a 8 v) a = (fs6 M a).set 8 (.int v) := by simp [fs6, pI, mI, mR, mJ, up2]
theorem J_put6_8 {G : Gt} {γ : Γt} {own : String} {cc : ByteArray} {ret : Option FieldType} {M : Mm} {pc : Nat} {ls : List (Option Value)} {st : List Value} {k n d mc ms : Nat} {Qr : Option Value → Mm → Prop} {Qx : String → Mm → Prop} {lh : Launch} {nL : Nat} {nm : String} {a idx : Nat} {v : Int32} (hC : Cok G γ own cc ret d mc ms Qr Qx lh nL nm) (lk : LkF own idx TX5 33 8) (ht : (mT M a).1 = 6) (dg : decode cc pc = .ok (.putfield idx, 3)) (kk : J G γ (pI M a 8 v) (pc + 3) ls st k n) : J G γ M pc ls (.int v :: rv a :: st) k n := by
  obtain ⟨p, l, e, R, s, m, args, below, meth, c, Qr1, Qx1, mc1, ms1, nL1⟩ := γ
  obtain ⟨hx, hb, hr, hml, hown, hts, hlk, hex, hG, hLow, hst, h0, rfl, rfl, rfl, rfl, rfl, rfl, rfl, hnm⟩ := hC
  intro H locs lsA hR hS hl
  rw [rv_pos (n := a) (hR.ne (a := a) (by rw [ht]; decide))]
  obtain ⟨hg0, L, hL, hP, hD⟩ := id hR
  obtain ⟨q, hq⟩ := va_pl_get (X := []) (f := mE G.2.1 M) ((hL a).mpr (by rw [ht]; decide))
  have hq0 : (va_pl L (mE G.2.1 M))[q]? = some (a, mE G.2.1 M a) := hq
  have hq : (va_pl L (mE G.2.1 M))[q]? = some (a, .inr (5, fs6 M a)) := by rw [← mE_6 ht]; exact hq0
  refine va_put (C := RX5) (T := TX5) (N := 33) (ty := .int) hx hb hts lay5 tyX5 tyX5_ok nmX5 hown hG.1 hP hD hS q hq rfl 8 (by decide) (hts _ lk.1) (fun x h => h) rfl (by decide +kernel) rfl rfl (Nat.le_of_ble_eq_true rfl) dg (fun H1 locs1 hP1 hD1 hS1 => kk H1 locs1 lsA ?_ hS1 hl)
  exact Rep.set hg0 hL hD (by rw [ht]; decide) hq0 (fun b => rfl) (by rw [mE_6 (M := pI M a 8 v) ht, fset6_8]) (fun b hb => pI_ne b hb) hP1 hD1
theorem fset6_9 (M : Mm) (a : Nat) (v : Int64) : fs6 (pJ M a 9 v) a = (fs6 M a).set 9 (.long v) := by simp [fs6, pJ, mI, mR, mJ, up2]
theorem J_put6_9 {G : Gt} {γ : Γt} {own : String} {cc : ByteArray} {ret : Option FieldType} {M : Mm} {pc : Nat} {ls : List (Option Value)} {st : List Value} {k n d mc ms : Nat} {Qr : Option Value → Mm → Prop} {Qx : String → Mm → Prop} {lh : Launch} {nL : Nat} {nm : String} {a idx : Nat} {v : Int64} (hC : Cok G γ own cc ret d mc ms Qr Qx lh nL nm) (lk : LkF own idx TX5 33 9) (ht : (mT M a).1 = 6) (dg : decode cc pc = .ok (.putfield idx, 3)) (kk : J G γ (pJ M a 9 v) (pc + 3) ls st k n) : J G γ M pc ls (.long v :: rv a :: st) k n := by
  obtain ⟨p, l, e, R, s, m, args, below, meth, c, Qr1, Qx1, mc1, ms1, nL1⟩ := γ
  obtain ⟨hx, hb, hr, hml, hown, hts, hlk, hex, hG, hLow, hst, h0, rfl, rfl, rfl, rfl, rfl, rfl, rfl, hnm⟩ := hC
  intro H locs lsA hR hS hl
  rw [rv_pos (n := a) (hR.ne (a := a) (by rw [ht]; decide))]
  obtain ⟨hg0, L, hL, hP, hD⟩ := id hR
  obtain ⟨q, hq⟩ := va_pl_get (X := []) (f := mE G.2.1 M) ((hL a).mpr (by rw [ht]; decide))
  have hq0 : (va_pl L (mE G.2.1 M))[q]? = some (a, mE G.2.1 M a) := hq
  have hq : (va_pl L (mE G.2.1 M))[q]? = some (a, .inr (5, fs6 M a)) := by rw [← mE_6 ht]; exact hq0
  refine va_put (C := RX5) (T := TX5) (N := 33) (ty := .long) hx hb hts lay5 tyX5 tyX5_ok nmX5 hown hG.1 hP hD hS q hq rfl 9 (by decide) (hts _ lk.1) (fun x h => h) rfl (by decide +kernel) rfl rfl (Nat.le_of_ble_eq_true rfl) dg (fun H1 locs1 hP1 hD1 hS1 => kk H1 locs1 lsA ?_ hS1 hl)
  exact Rep.set hg0 hL hD (by rw [ht]; decide) hq0 (fun b => rfl) (by rw [mE_6 (M := pJ M a 9 v) ht, fset6_9]) (fun b hb => pJ_ne b hb) hP1 hD1
theorem fset6_10 (M : Mm) (a : Nat) (v : Nat) : fs6 (pR M a 10 v) a = (fs6 M a).set 10 (rv v) := by simp [fs6, pR, mI, mR, mJ, up2]
theorem J_put6_10 {G : Gt} {γ : Γt} {own : String} {cc : ByteArray} {ret : Option FieldType} {M : Mm} {pc : Nat} {ls : List (Option Value)} {st : List Value} {k n d mc ms : Nat} {Qr : Option Value → Mm → Prop} {Qx : String → Mm → Prop} {lh : Launch} {nL : Nat} {nm : String} {a idx : Nat} {v : Nat} (hC : Cok G γ own cc ret d mc ms Qr Qx lh nL nm) (lk : LkF own idx TX5 33 10) (ht : (mT M a).1 = 6) (hin : nm = "<init>") (hdecl : own = RX5) (dg : decode cc pc = .ok (.putfield idx, 3)) (kk : J G γ (pR M a 10 v) (pc + 3) ls st k n) : J G γ M pc ls (rv v :: rv a :: st) k n := by
  obtain ⟨p, l, e, R, s, m, args, below, meth, c, Qr1, Qx1, mc1, ms1, nL1⟩ := γ
  obtain ⟨hx, hb, hr, hml, hown, hts, hlk, hex, hG, hLow, hst, h0, rfl, rfl, rfl, rfl, rfl, rfl, rfl, hnm⟩ := hC
  intro H locs lsA hR hS hl
  rw [rv_pos (n := a) (hR.ne (a := a) (by rw [ht]; decide))]
  obtain ⟨hg0, L, hL, hP, hD⟩ := id hR
  obtain ⟨q, hq⟩ := va_pl_get (X := []) (f := mE G.2.1 M) ((hL a).mpr (by rw [ht]; decide))
  have hq0 : (va_pl L (mE G.2.1 M))[q]? = some (a, mE G.2.1 M a) := hq
  have hq : (va_pl L (mE G.2.1 M))[q]? = some (a, .inr (5, fs6 M a)) := by rw [← mE_6 ht]; exact hq0
  refine va_putF (C := RX5) (T := TX5) (N := 33) (ty := tyX5 10) hx hb hts lay5 tyX5 tyX5_ok nmX5 hown hG.1 hP hD hS q hq rfl 10 (by decide) (hts _ lk.1) (fun x h => h) rfl (hnm.trans hin) (by rw [hdecl]; rfl) (by decide +kernel) (rv_nar _ v) (rv_fit _ (by first | exact Or.inl ⟨_, rfl⟩ | exact Or.inr ⟨_, rfl⟩) v) (Nat.le_of_ble_eq_true rfl) dg (fun H1 locs1 hP1 hD1 hS1 => kk H1 locs1 lsA ?_ hS1 hl)
  exact Rep.set hg0 hL hD (by rw [ht]; decide) hq0 (fun b => rfl) (by rw [mE_6 (M := pR M a 10 v) ht, fset6_10]) (fun b hb => pR_ne b hb) hP1 hD1
theorem fset6_11 (M : Mm) (a : Nat) (v : Nat) : fs6 (pR M a 11 v) a = (fs6 M a).set 11 (rv v) := by simp [fs6, pR, mI, mR, mJ, up2]
theorem J_put6_11 {G : Gt} {γ : Γt} {own : String} {cc : ByteArray} {ret : Option FieldType} {M : Mm} {pc : Nat} {ls : List (Option Value)} {st : List Value} {k n d mc ms : Nat} {Qr : Option Value → Mm → Prop} {Qx : String → Mm → Prop} {lh : Launch} {nL : Nat} {nm : String} {a idx : Nat} {v : Nat} (hC : Cok G γ own cc ret d mc ms Qr Qx lh nL nm) (lk : LkF own idx TX5 33 11) (ht : (mT M a).1 = 6) (hin : nm = "<init>") (hdecl : own = RX5) (dg : decode cc pc = .ok (.putfield idx, 3)) (kk : J G γ (pR M a 11 v) (pc + 3) ls st k n) : J G γ M pc ls (rv v :: rv a :: st) k n := by
  obtain ⟨p, l, e, R, s, m, args, below, meth, c, Qr1, Qx1, mc1, ms1, nL1⟩ := γ
  obtain ⟨hx, hb, hr, hml, hown, hts, hlk, hex, hG, hLow, hst, h0, rfl, rfl, rfl, rfl, rfl, rfl, rfl, hnm⟩ := hC
  intro H locs lsA hR hS hl
  rw [rv_pos (n := a) (hR.ne (a := a) (by rw [ht]; decide))]
  obtain ⟨hg0, L, hL, hP, hD⟩ := id hR
  obtain ⟨q, hq⟩ := va_pl_get (X := []) (f := mE G.2.1 M) ((hL a).mpr (by rw [ht]; decide))
  have hq0 : (va_pl L (mE G.2.1 M))[q]? = some (a, mE G.2.1 M a) := hq
  have hq : (va_pl L (mE G.2.1 M))[q]? = some (a, .inr (5, fs6 M a)) := by rw [← mE_6 ht]; exact hq0
  refine va_putF (C := RX5) (T := TX5) (N := 33) (ty := tyX5 11) hx hb hts lay5 tyX5 tyX5_ok nmX5 hown hG.1 hP hD hS q hq rfl 11 (by decide) (hts _ lk.1) (fun x h => h) rfl (hnm.trans hin) (by rw [hdecl]; rfl) (by decide +kernel) (rv_nar _ v) (rv_fit _ (by first | exact Or.inl ⟨_, rfl⟩ | exact Or.inr ⟨_, rfl⟩) v) (Nat.le_of_ble_eq_true rfl) dg (fun H1 locs1 hP1 hD1 hS1 => kk H1 locs1 lsA ?_ hS1 hl)
  exact Rep.set hg0 hL hD (by rw [ht]; decide) hq0 (fun b => rfl) (by rw [mE_6 (M := pR M a 11 v) ht, fset6_11]) (fun b hb => pR_ne b hb) hP1 hD1
theorem fset6_12 (M : Mm) (a : Nat) (v : Nat) : fs6 (pR M a 12 v) a = (fs6 M a).set 12 (rv v) := by simp [fs6, pR, mI, mR, mJ, up2]
theorem J_put6_12 {G : Gt} {γ : Γt} {own : String} {cc : ByteArray} {ret : Option FieldType} {M : Mm} {pc : Nat} {ls : List (Option Value)} {st : List Value} {k n d mc ms : Nat} {Qr : Option Value → Mm → Prop} {Qx : String → Mm → Prop} {lh : Launch} {nL : Nat} {nm : String} {a idx : Nat} {v : Nat} (hC : Cok G γ own cc ret d mc ms Qr Qx lh nL nm) (lk : LkF own idx TX5 33 12) (ht : (mT M a).1 = 6) (hin : nm = "<init>") (hdecl : own = RX5) (dg : decode cc pc = .ok (.putfield idx, 3)) (kk : J G γ (pR M a 12 v) (pc + 3) ls st k n) : J G γ M pc ls (rv v :: rv a :: st) k n := by
  obtain ⟨p, l, e, R, s, m, args, below, meth, c, Qr1, Qx1, mc1, ms1, nL1⟩ := γ
  obtain ⟨hx, hb, hr, hml, hown, hts, hlk, hex, hG, hLow, hst, h0, rfl, rfl, rfl, rfl, rfl, rfl, rfl, hnm⟩ := hC
  intro H locs lsA hR hS hl
  rw [rv_pos (n := a) (hR.ne (a := a) (by rw [ht]; decide))]
  obtain ⟨hg0, L, hL, hP, hD⟩ := id hR
  obtain ⟨q, hq⟩ := va_pl_get (X := []) (f := mE G.2.1 M) ((hL a).mpr (by rw [ht]; decide))
  have hq0 : (va_pl L (mE G.2.1 M))[q]? = some (a, mE G.2.1 M a) := hq
  have hq : (va_pl L (mE G.2.1 M))[q]? = some (a, .inr (5, fs6 M a)) := by rw [← mE_6 ht]; exact hq0
  refine va_putF (C := RX5) (T := TX5) (N := 33) (ty := tyX5 12) hx hb hts lay5 tyX5 tyX5_ok nmX5 hown hG.1 hP hD hS q hq rfl 12 (by decide) (hts _ lk.1) (fun x h => h) rfl (hnm.trans hin) (by rw [hdecl]; rfl) (by decide +kernel) (rv_nar _ v) (rv_fit _ (by first | exact Or.inl ⟨_, rfl⟩ | exact Or.inr ⟨_, rfl⟩) v) (Nat.le_of_ble_eq_true rfl) dg (fun H1 locs1 hP1 hD1 hS1 => kk H1 locs1 lsA ?_ hS1 hl)
  exact Rep.set hg0 hL hD (by rw [ht]; decide) hq0 (fun b => rfl) (by rw [mE_6 (M := pR M a 12 v) ht, fset6_12]) (fun b hb => pR_ne b hb) hP1 hD1
theorem fset6_13 (M : Mm) (a : Nat) (v : Nat) : fs6 (pR M a 13 v) a = (fs6 M a).set 13 (rv v) := by simp [fs6, pR, mI, mR, mJ, up2]
theorem J_put6_13 {G : Gt} {γ : Γt} {own : String} {cc : ByteArray} {ret : Option FieldType} {M : Mm} {pc : Nat} {ls : List (Option Value)} {st : List Value} {k n d mc ms : Nat} {Qr : Option Value → Mm → Prop} {Qx : String → Mm → Prop} {lh : Launch} {nL : Nat} {nm : String} {a idx : Nat} {v : Nat} (hC : Cok G γ own cc ret d mc ms Qr Qx lh nL nm) (lk : LkF own idx TX5 33 13) (ht : (mT M a).1 = 6) (hin : nm = "<init>") (hdecl : own = RX5) (dg : decode cc pc = .ok (.putfield idx, 3)) (kk : J G γ (pR M a 13 v) (pc + 3) ls st k n) : J G γ M pc ls (rv v :: rv a :: st) k n := by
  obtain ⟨p, l, e, R, s, m, args, below, meth, c, Qr1, Qx1, mc1, ms1, nL1⟩ := γ
  obtain ⟨hx, hb, hr, hml, hown, hts, hlk, hex, hG, hLow, hst, h0, rfl, rfl, rfl, rfl, rfl, rfl, rfl, hnm⟩ := hC
  intro H locs lsA hR hS hl
  rw [rv_pos (n := a) (hR.ne (a := a) (by rw [ht]; decide))]
  obtain ⟨hg0, L, hL, hP, hD⟩ := id hR
  obtain ⟨q, hq⟩ := va_pl_get (X := []) (f := mE G.2.1 M) ((hL a).mpr (by rw [ht]; decide))
  have hq0 : (va_pl L (mE G.2.1 M))[q]? = some (a, mE G.2.1 M a) := hq
  have hq : (va_pl L (mE G.2.1 M))[q]? = some (a, .inr (5, fs6 M a)) := by rw [← mE_6 ht]; exact hq0
  refine va_putF (C := RX5) (T := TX5) (N := 33) (ty := tyX5 13) hx hb hts lay5 tyX5 tyX5_ok nmX5 hown hG.1 hP hD hS q hq rfl 13 (by decide) (hts _ lk.1) (fun x h => h) rfl (hnm.trans hin) (by rw [hdecl]; rfl) (by decide +kernel) (rv_nar _ v) (rv_fit _ (by first | exact Or.inl ⟨_, rfl⟩ | exact Or.inr ⟨_, rfl⟩) v) (Nat.le_of_ble_eq_true rfl) dg (fun H1 locs1 hP1 hD1 hS1 => kk H1 locs1 lsA ?_ hS1 hl)
  exact Rep.set hg0 hL hD (by rw [ht]; decide) hq0 (fun b => rfl) (by rw [mE_6 (M := pR M a 13 v) ht, fset6_13]) (fun b hb => pR_ne b hb) hP1 hD1
theorem fset6_14 (M : Mm) (a : Nat) (v : Nat) : fs6 (pR M a 14 v) a = (fs6 M a).set 14 (rv v) := by simp [fs6, pR, mI, mR, mJ, up2]
theorem J_put6_14 {G : Gt} {γ : Γt} {own : String} {cc : ByteArray} {ret : Option FieldType} {M : Mm} {pc : Nat} {ls : List (Option Value)} {st : List Value} {k n d mc ms : Nat} {Qr : Option Value → Mm → Prop} {Qx : String → Mm → Prop} {lh : Launch} {nL : Nat} {nm : String} {a idx : Nat} {v : Nat} (hC : Cok G γ own cc ret d mc ms Qr Qx lh nL nm) (lk : LkF own idx TX5 33 14) (ht : (mT M a).1 = 6) (hin : nm = "<init>") (hdecl : own = RX5) (dg : decode cc pc = .ok (.putfield idx, 3)) (kk : J G γ (pR M a 14 v) (pc + 3) ls st k n) : J G γ M pc ls (rv v :: rv a :: st) k n := by
  obtain ⟨p, l, e, R, s, m, args, below, meth, c, Qr1, Qx1, mc1, ms1, nL1⟩ := γ
  obtain ⟨hx, hb, hr, hml, hown, hts, hlk, hex, hG, hLow, hst, h0, rfl, rfl, rfl, rfl, rfl, rfl, rfl, hnm⟩ := hC
  intro H locs lsA hR hS hl
  rw [rv_pos (n := a) (hR.ne (a := a) (by rw [ht]; decide))]
  obtain ⟨hg0, L, hL, hP, hD⟩ := id hR
  obtain ⟨q, hq⟩ := va_pl_get (X := []) (f := mE G.2.1 M) ((hL a).mpr (by rw [ht]; decide))
  have hq0 : (va_pl L (mE G.2.1 M))[q]? = some (a, mE G.2.1 M a) := hq
  have hq : (va_pl L (mE G.2.1 M))[q]? = some (a, .inr (5, fs6 M a)) := by rw [← mE_6 ht]; exact hq0
  refine va_putF (C := RX5) (T := TX5) (N := 33) (ty := tyX5 14) hx hb hts lay5 tyX5 tyX5_ok nmX5 hown hG.1 hP hD hS q hq rfl 14 (by decide) (hts _ lk.1) (fun x h => h) rfl (hnm.trans hin) (by rw [hdecl]; rfl) (by decide +kernel) (rv_nar _ v) (rv_fit _ (by first | exact Or.inl ⟨_, rfl⟩ | exact Or.inr ⟨_, rfl⟩) v) (Nat.le_of_ble_eq_true rfl) dg (fun H1 locs1 hP1 hD1 hS1 => kk H1 locs1 lsA ?_ hS1 hl)
  exact Rep.set hg0 hL hD (by rw [ht]; decide) hq0 (fun b => rfl) (by rw [mE_6 (M := pR M a 14 v) ht, fset6_14]) (fun b hb => pR_ne b hb) hP1 hD1
theorem fset6_15 (M : Mm) (a : Nat) (v : Nat) : fs6 (pR M a 15 v) a = (fs6 M a).set 15 (rv v) := by simp [fs6, pR, mI, mR, mJ, up2]
theorem J_put6_15 {G : Gt} {γ : Γt} {own : String} {cc : ByteArray} {ret : Option FieldType} {M : Mm} {pc : Nat} {ls : List (Option Value)} {st : List Value} {k n d mc ms : Nat} {Qr : Option Value → Mm → Prop} {Qx : String → Mm → Prop} {lh : Launch} {nL : Nat} {nm : String} {a idx : Nat} {v : Nat} (hC : Cok G γ own cc ret d mc ms Qr Qx lh nL nm) (lk : LkF own idx TX5 33 15) (ht : (mT M a).1 = 6) (hin : nm = "<init>") (hdecl : own = RX5) (dg : decode cc pc = .ok (.putfield idx, 3)) (kk : J G γ (pR M a 15 v) (pc + 3) ls st k n) : J G γ M pc ls (rv v :: rv a :: st) k n := by
  obtain ⟨p, l, e, R, s, m, args, below, meth, c, Qr1, Qx1, mc1, ms1, nL1⟩ := γ
  obtain ⟨hx, hb, hr, hml, hown, hts, hlk, hex, hG, hLow, hst, h0, rfl, rfl, rfl, rfl, rfl, rfl, rfl, hnm⟩ := hC
  intro H locs lsA hR hS hl
  rw [rv_pos (n := a) (hR.ne (a := a) (by rw [ht]; decide))]
  obtain ⟨hg0, L, hL, hP, hD⟩ := id hR
  obtain ⟨q, hq⟩ := va_pl_get (X := []) (f := mE G.2.1 M) ((hL a).mpr (by rw [ht]; decide))
  have hq0 : (va_pl L (mE G.2.1 M))[q]? = some (a, mE G.2.1 M a) := hq
  have hq : (va_pl L (mE G.2.1 M))[q]? = some (a, .inr (5, fs6 M a)) := by rw [← mE_6 ht]; exact hq0
  refine va_putF (C := RX5) (T := TX5) (N := 33) (ty := tyX5 15) hx hb hts lay5 tyX5 tyX5_ok nmX5 hown hG.1 hP hD hS q hq rfl 15 (by decide) (hts _ lk.1) (fun x h => h) rfl (hnm.trans hin) (by rw [hdecl]; rfl) (by decide +kernel) (rv_nar _ v) (rv_fit _ (by first | exact Or.inl ⟨_, rfl⟩ | exact Or.inr ⟨_, rfl⟩) v) (Nat.le_of_ble_eq_true rfl) dg (fun H1 locs1 hP1 hD1 hS1 => kk H1 locs1 lsA ?_ hS1 hl)
  exact Rep.set hg0 hL hD (by rw [ht]; decide) hq0 (fun b => rfl) (by rw [mE_6 (M := pR M a 15 v) ht, fset6_15]) (fun b hb => pR_ne b hb) hP1 hD1
theorem fset6_16 (M : Mm) (a : Nat) (v : Nat) : fs6 (pR M a 16 v) a = (fs6 M a).set 16 (rv v) := by simp [fs6, pR, mI, mR, mJ, up2]
theorem J_put6_16 {G : Gt} {γ : Γt} {own : String} {cc : ByteArray} {ret : Option FieldType} {M : Mm} {pc : Nat} {ls : List (Option Value)} {st : List Value} {k n d mc ms : Nat} {Qr : Option Value → Mm → Prop} {Qx : String → Mm → Prop} {lh : Launch} {nL : Nat} {nm : String} {a idx : Nat} {v : Nat} (hC : Cok G γ own cc ret d mc ms Qr Qx lh nL nm) (lk : LkF own idx TX5 33 16) (ht : (mT M a).1 = 6) (hin : nm = "<init>") (hdecl : own = RX5) (dg : decode cc pc = .ok (.putfield idx, 3)) (kk : J G γ (pR M a 16 v) (pc + 3) ls st k n) : J G γ M pc ls (rv v :: rv a :: st) k n := by
  obtain ⟨p, l, e, R, s, m, args, below, meth, c, Qr1, Qx1, mc1, ms1, nL1⟩ := γ
  obtain ⟨hx, hb, hr, hml, hown, hts, hlk, hex, hG, hLow, hst, h0, rfl, rfl, rfl, rfl, rfl, rfl, rfl, hnm⟩ := hC
  intro H locs lsA hR hS hl
  rw [rv_pos (n := a) (hR.ne (a := a) (by rw [ht]; decide))]
  obtain ⟨hg0, L, hL, hP, hD⟩ := id hR
  obtain ⟨q, hq⟩ := va_pl_get (X := []) (f := mE G.2.1 M) ((hL a).mpr (by rw [ht]; decide))
  have hq0 : (va_pl L (mE G.2.1 M))[q]? = some (a, mE G.2.1 M a) := hq
  have hq : (va_pl L (mE G.2.1 M))[q]? = some (a, .inr (5, fs6 M a)) := by rw [← mE_6 ht]; exact hq0
  refine va_putF (C := RX5) (T := TX5) (N := 33) (ty := tyX5 16) hx hb hts lay5 tyX5 tyX5_ok nmX5 hown hG.1 hP hD hS q hq rfl 16 (by decide) (hts _ lk.1) (fun x h => h) rfl (hnm.trans hin) (by rw [hdecl]; rfl) (by decide +kernel) (rv_nar _ v) (rv_fit _ (by first | exact Or.inl ⟨_, rfl⟩ | exact Or.inr ⟨_, rfl⟩) v) (Nat.le_of_ble_eq_true rfl) dg (fun H1 locs1 hP1 hD1 hS1 => kk H1 locs1 lsA ?_ hS1 hl)
  exact Rep.set hg0 hL hD (by rw [ht]; decide) hq0 (fun b => rfl) (by rw [mE_6 (M := pR M a 16 v) ht, fset6_16]) (fun b hb => pR_ne b hb) hP1 hD1
theorem fset6_17 (M : Mm) (a : Nat) (v : Nat) : fs6 (pR M a 17 v) a = (fs6 M a).set 17 (rv v) := by simp [fs6, pR, mI, mR, mJ, up2]
theorem J_put6_17 {G : Gt} {γ : Γt} {own : String} {cc : ByteArray} {ret : Option FieldType} {M : Mm} {pc : Nat} {ls : List (Option Value)} {st : List Value} {k n d mc ms : Nat} {Qr : Option Value → Mm → Prop} {Qx : String → Mm → Prop} {lh : Launch} {nL : Nat} {nm : String} {a idx : Nat} {v : Nat} (hC : Cok G γ own cc ret d mc ms Qr Qx lh nL nm) (lk : LkF own idx TX5 33 17) (ht : (mT M a).1 = 6) (hin : nm = "<init>") (hdecl : own = RX5) (dg : decode cc pc = .ok (.putfield idx, 3)) (kk : J G γ (pR M a 17 v) (pc + 3) ls st k n) : J G γ M pc ls (rv v :: rv a :: st) k n := by
  obtain ⟨p, l, e, R, s, m, args, below, meth, c, Qr1, Qx1, mc1, ms1, nL1⟩ := γ
  obtain ⟨hx, hb, hr, hml, hown, hts, hlk, hex, hG, hLow, hst, h0, rfl, rfl, rfl, rfl, rfl, rfl, rfl, hnm⟩ := hC
  intro H locs lsA hR hS hl
  rw [rv_pos (n := a) (hR.ne (a := a) (by rw [ht]; decide))]
  obtain ⟨hg0, L, hL, hP, hD⟩ := id hR
  obtain ⟨q, hq⟩ := va_pl_get (X := []) (f := mE G.2.1 M) ((hL a).mpr (by rw [ht]; decide))
  have hq0 : (va_pl L (mE G.2.1 M))[q]? = some (a, mE G.2.1 M a) := hq
  have hq : (va_pl L (mE G.2.1 M))[q]? = some (a, .inr (5, fs6 M a)) := by rw [← mE_6 ht]; exact hq0
  refine va_putF (C := RX5) (T := TX5) (N := 33) (ty := tyX5 17) hx hb hts lay5 tyX5 tyX5_ok nmX5 hown hG.1 hP hD hS q hq rfl 17 (by decide) (hts _ lk.1) (fun x h => h) rfl (hnm.trans hin) (by rw [hdecl]; rfl) (by decide +kernel) (rv_nar _ v) (rv_fit _ (by first | exact Or.inl ⟨_, rfl⟩ | exact Or.inr ⟨_, rfl⟩) v) (Nat.le_of_ble_eq_true rfl) dg (fun H1 locs1 hP1 hD1 hS1 => kk H1 locs1 lsA ?_ hS1 hl)
  exact Rep.set hg0 hL hD (by rw [ht]; decide) hq0 (fun b => rfl) (by rw [mE_6 (M := pR M a 17 v) ht, fset6_17]) (fun b hb => pR_ne b hb) hP1 hD1
theorem fset6_18 (M : Mm) (a : Nat) (v : Nat) : fs6 (pR M a 18 v) a = (fs6 M a).set 18 (rv v) := by simp [fs6, pR, mI, mR, mJ, up2]
theorem J_put6_18 {G : Gt} {γ : Γt} {own : String} {cc : ByteArray} {ret : Option FieldType} {M : Mm} {pc : Nat} {ls : List (Option Value)} {st : List Value} {k n d mc ms : Nat} {Qr : Option Value → Mm → Prop} {Qx : String → Mm → Prop} {lh : Launch} {nL : Nat} {nm : String} {a idx : Nat} {v : Nat} (hC : Cok G γ own cc ret d mc ms Qr Qx lh nL nm) (lk : LkF own idx TX5 33 18) (ht : (mT M a).1 = 6) (hin : nm = "<init>") (hdecl : own = RX5) (dg : decode cc pc = .ok (.putfield idx, 3)) (kk : J G γ (pR M a 18 v) (pc + 3) ls st k n) : J G γ M pc ls (rv v :: rv a :: st) k n := by
  obtain ⟨p, l, e, R, s, m, args, below, meth, c, Qr1, Qx1, mc1, ms1, nL1⟩ := γ
  obtain ⟨hx, hb, hr, hml, hown, hts, hlk, hex, hG, hLow, hst, h0, rfl, rfl, rfl, rfl, rfl, rfl, rfl, hnm⟩ := hC
  intro H locs lsA hR hS hl
  rw [rv_pos (n := a) (hR.ne (a := a) (by rw [ht]; decide))]
  obtain ⟨hg0, L, hL, hP, hD⟩ := id hR
  obtain ⟨q, hq⟩ := va_pl_get (X := []) (f := mE G.2.1 M) ((hL a).mpr (by rw [ht]; decide))
  have hq0 : (va_pl L (mE G.2.1 M))[q]? = some (a, mE G.2.1 M a) := hq
  have hq : (va_pl L (mE G.2.1 M))[q]? = some (a, .inr (5, fs6 M a)) := by rw [← mE_6 ht]; exact hq0
  refine va_putF (C := RX5) (T := TX5) (N := 33) (ty := tyX5 18) hx hb hts lay5 tyX5 tyX5_ok nmX5 hown hG.1 hP hD hS q hq rfl 18 (by decide) (hts _ lk.1) (fun x h => h) rfl (hnm.trans hin) (by rw [hdecl]; rfl) (by decide +kernel) (rv_nar _ v) (rv_fit _ (by first | exact Or.inl ⟨_, rfl⟩ | exact Or.inr ⟨_, rfl⟩) v) (Nat.le_of_ble_eq_true rfl) dg (fun H1 locs1 hP1 hD1 hS1 => kk H1 locs1 lsA ?_ hS1 hl)
  exact Rep.set hg0 hL hD (by rw [ht]; decide) hq0 (fun b => rfl) (by rw [mE_6 (M := pR M a 18 v) ht, fset6_18]) (fun b hb => pR_ne b hb) hP1 hD1
theorem fset6_19 (M : Mm) (a : Nat) (v : Nat) : fs6 (pR M a 19 v) a = (fs6 M a).set 19 (rv v) := by simp [fs6, pR, mI, mR, mJ, up2]
theorem J_put6_19 {G : Gt} {γ : Γt} {own : String} {cc : ByteArray} {ret : Option FieldType} {M : Mm} {pc : Nat} {ls : List (Option Value)} {st : List Value} {k n d mc ms : Nat} {Qr : Option Value → Mm → Prop} {Qx : String → Mm → Prop} {lh : Launch} {nL : Nat} {nm : String} {a idx : Nat} {v : Nat} (hC : Cok G γ own cc ret d mc ms Qr Qx lh nL nm) (lk : LkF own idx TX5 33 19) (ht : (mT M a).1 = 6) (hin : nm = "<init>") (hdecl : own = RX5) (dg : decode cc pc = .ok (.putfield idx, 3)) (kk : J G γ (pR M a 19 v) (pc + 3) ls st k n) : J G γ M pc ls (rv v :: rv a :: st) k n := by
  obtain ⟨p, l, e, R, s, m, args, below, meth, c, Qr1, Qx1, mc1, ms1, nL1⟩ := γ
  obtain ⟨hx, hb, hr, hml, hown, hts, hlk, hex, hG, hLow, hst, h0, rfl, rfl, rfl, rfl, rfl, rfl, rfl, hnm⟩ := hC
  intro H locs lsA hR hS hl
  rw [rv_pos (n := a) (hR.ne (a := a) (by rw [ht]; decide))]
  obtain ⟨hg0, L, hL, hP, hD⟩ := id hR
  obtain ⟨q, hq⟩ := va_pl_get (X := []) (f := mE G.2.1 M) ((hL a).mpr (by rw [ht]; decide))
  have hq0 : (va_pl L (mE G.2.1 M))[q]? = some (a, mE G.2.1 M a) := hq
  have hq : (va_pl L (mE G.2.1 M))[q]? = some (a, .inr (5, fs6 M a)) := by rw [← mE_6 ht]; exact hq0
  refine va_putF (C := RX5) (T := TX5) (N := 33) (ty := tyX5 19) hx hb hts lay5 tyX5 tyX5_ok nmX5 hown hG.1 hP hD hS q hq rfl 19 (by decide) (hts _ lk.1) (fun x h => h) rfl (hnm.trans hin) (by rw [hdecl]; rfl) (by decide +kernel) (rv_nar _ v) (rv_fit _ (by first | exact Or.inl ⟨_, rfl⟩ | exact Or.inr ⟨_, rfl⟩) v) (Nat.le_of_ble_eq_true rfl) dg (fun H1 locs1 hP1 hD1 hS1 => kk H1 locs1 lsA ?_ hS1 hl)
  exact Rep.set hg0 hL hD (by rw [ht]; decide) hq0 (fun b => rfl) (by rw [mE_6 (M := pR M a 19 v) ht, fset6_19]) (fun b hb => pR_ne b hb) hP1 hD1
theorem fset6_20 (M : Mm) (a : Nat) (v : Nat) : fs6 (pR M a 20 v) a = (fs6 M a).set 20 (rv v) := by simp [fs6, pR, mI, mR, mJ, up2]
theorem J_put6_20 {G : Gt} {γ : Γt} {own : String} {cc : ByteArray} {ret : Option FieldType} {M : Mm} {pc : Nat} {ls : List (Option Value)} {st : List Value} {k n d mc ms : Nat} {Qr : Option Value → Mm → Prop} {Qx : String → Mm → Prop} {lh : Launch} {nL : Nat} {nm : String} {a idx : Nat} {v : Nat} (hC : Cok G γ own cc ret d mc ms Qr Qx lh nL nm) (lk : LkF own idx TX5 33 20) (ht : (mT M a).1 = 6) (hin : nm = "<init>") (hdecl : own = RX5) (dg : decode cc pc = .ok (.putfield idx, 3)) (kk : J G γ (pR M a 20 v) (pc + 3) ls st k n) : J G γ M pc ls (rv v :: rv a :: st) k n := by
  obtain ⟨p, l, e, R, s, m, args, below, meth, c, Qr1, Qx1, mc1, ms1, nL1⟩ := γ
  obtain ⟨hx, hb, hr, hml, hown, hts, hlk, hex, hG, hLow, hst, h0, rfl, rfl, rfl, rfl, rfl, rfl, rfl, hnm⟩ := hC
  intro H locs lsA hR hS hl
  rw [rv_pos (n := a) (hR.ne (a := a) (by rw [ht]; decide))]
  obtain ⟨hg0, L, hL, hP, hD⟩ := id hR
  obtain ⟨q, hq⟩ := va_pl_get (X := []) (f := mE G.2.1 M) ((hL a).mpr (by rw [ht]; decide))
  have hq0 : (va_pl L (mE G.2.1 M))[q]? = some (a, mE G.2.1 M a) := hq
  have hq : (va_pl L (mE G.2.1 M))[q]? = some (a, .inr (5, fs6 M a)) := by rw [← mE_6 ht]; exact hq0
  refine va_putF (C := RX5) (T := TX5) (N := 33) (ty := tyX5 20) hx hb hts lay5 tyX5 tyX5_ok nmX5 hown hG.1 hP hD hS q hq rfl 20 (by decide) (hts _ lk.1) (fun x h => h) rfl (hnm.trans hin) (by rw [hdecl]; rfl) (by decide +kernel) (rv_nar _ v) (rv_fit _ (by first | exact Or.inl ⟨_, rfl⟩ | exact Or.inr ⟨_, rfl⟩) v) (Nat.le_of_ble_eq_true rfl) dg (fun H1 locs1 hP1 hD1 hS1 => kk H1 locs1 lsA ?_ hS1 hl)
  exact Rep.set hg0 hL hD (by rw [ht]; decide) hq0 (fun b => rfl) (by rw [mE_6 (M := pR M a 20 v) ht, fset6_20]) (fun b hb => pR_ne b hb) hP1 hD1
theorem fset6_21 (M : Mm) (a : Nat) (v : Nat) : fs6 (pR M a 21 v) a = (fs6 M a).set 21 (rv v) := by simp [fs6, pR, mI, mR, mJ, up2]
theorem J_put6_21 {G : Gt} {γ : Γt} {own : String} {cc : ByteArray} {ret : Option FieldType} {M : Mm} {pc : Nat} {ls : List (Option Value)} {st : List Value} {k n d mc ms : Nat} {Qr : Option Value → Mm → Prop} {Qx : String → Mm → Prop} {lh : Launch} {nL : Nat} {nm : String} {a idx : Nat} {v : Nat} (hC : Cok G γ own cc ret d mc ms Qr Qx lh nL nm) (lk : LkF own idx TX5 33 21) (ht : (mT M a).1 = 6) (hin : nm = "<init>") (hdecl : own = RX5) (dg : decode cc pc = .ok (.putfield idx, 3)) (kk : J G γ (pR M a 21 v) (pc + 3) ls st k n) : J G γ M pc ls (rv v :: rv a :: st) k n := by
  obtain ⟨p, l, e, R, s, m, args, below, meth, c, Qr1, Qx1, mc1, ms1, nL1⟩ := γ
  obtain ⟨hx, hb, hr, hml, hown, hts, hlk, hex, hG, hLow, hst, h0, rfl, rfl, rfl, rfl, rfl, rfl, rfl, hnm⟩ := hC
  intro H locs lsA hR hS hl
  rw [rv_pos (n := a) (hR.ne (a := a) (by rw [ht]; decide))]
  obtain ⟨hg0, L, hL, hP, hD⟩ := id hR
  obtain ⟨q, hq⟩ := va_pl_get (X := []) (f := mE G.2.1 M) ((hL a).mpr (by rw [ht]; decide))
  have hq0 : (va_pl L (mE G.2.1 M))[q]? = some (a, mE G.2.1 M a) := hq
  have hq : (va_pl L (mE G.2.1 M))[q]? = some (a, .inr (5, fs6 M a)) := by rw [← mE_6 ht]; exact hq0
  refine va_putF (C := RX5) (T := TX5) (N := 33) (ty := tyX5 21) hx hb hts lay5 tyX5 tyX5_ok nmX5 hown hG.1 hP hD hS q hq rfl 21 (by decide) (hts _ lk.1) (fun x h => h) rfl (hnm.trans hin) (by rw [hdecl]; rfl) (by decide +kernel) (rv_nar _ v) (rv_fit _ (by first | exact Or.inl ⟨_, rfl⟩ | exact Or.inr ⟨_, rfl⟩) v) (Nat.le_of_ble_eq_true rfl) dg (fun H1 locs1 hP1 hD1 hS1 => kk H1 locs1 lsA ?_ hS1 hl)
  exact Rep.set hg0 hL hD (by rw [ht]; decide) hq0 (fun b => rfl) (by rw [mE_6 (M := pR M a 21 v) ht, fset6_21]) (fun b hb => pR_ne b hb) hP1 hD1
theorem fset6_22 (M : Mm) (a : Nat) (v : Nat) : fs6 (pR M a 22 v) a = (fs6 M a).set 22 (rv v) := by simp [fs6, pR, mI, mR, mJ, up2]
theorem J_put6_22 {G : Gt} {γ : Γt} {own : String} {cc : ByteArray} {ret : Option FieldType} {M : Mm} {pc : Nat} {ls : List (Option Value)} {st : List Value} {k n d mc ms : Nat} {Qr : Option Value → Mm → Prop} {Qx : String → Mm → Prop} {lh : Launch} {nL : Nat} {nm : String} {a idx : Nat} {v : Nat} (hC : Cok G γ own cc ret d mc ms Qr Qx lh nL nm) (lk : LkF own idx TX5 33 22) (ht : (mT M a).1 = 6) (hin : nm = "<init>") (hdecl : own = RX5) (dg : decode cc pc = .ok (.putfield idx, 3)) (kk : J G γ (pR M a 22 v) (pc + 3) ls st k n) : J G γ M pc ls (rv v :: rv a :: st) k n := by
  obtain ⟨p, l, e, R, s, m, args, below, meth, c, Qr1, Qx1, mc1, ms1, nL1⟩ := γ
  obtain ⟨hx, hb, hr, hml, hown, hts, hlk, hex, hG, hLow, hst, h0, rfl, rfl, rfl, rfl, rfl, rfl, rfl, hnm⟩ := hC
  intro H locs lsA hR hS hl
  rw [rv_pos (n := a) (hR.ne (a := a) (by rw [ht]; decide))]
  obtain ⟨hg0, L, hL, hP, hD⟩ := id hR
  obtain ⟨q, hq⟩ := va_pl_get (X := []) (f := mE G.2.1 M) ((hL a).mpr (by rw [ht]; decide))
  have hq0 : (va_pl L (mE G.2.1 M))[q]? = some (a, mE G.2.1 M a) := hq
  have hq : (va_pl L (mE G.2.1 M))[q]? = some (a, .inr (5, fs6 M a)) := by rw [← mE_6 ht]; exact hq0
  refine va_putF (C := RX5) (T := TX5) (N := 33) (ty := tyX5 22) hx hb hts lay5 tyX5 tyX5_ok nmX5 hown hG.1 hP hD hS q hq rfl 22 (by decide) (hts _ lk.1) (fun x h => h) rfl (hnm.trans hin) (by rw [hdecl]; rfl) (by decide +kernel) (rv_nar _ v) (rv_fit _ (by first | exact Or.inl ⟨_, rfl⟩ | exact Or.inr ⟨_, rfl⟩) v) (Nat.le_of_ble_eq_true rfl) dg (fun H1 locs1 hP1 hD1 hS1 => kk H1 locs1 lsA ?_ hS1 hl)
  exact Rep.set hg0 hL hD (by rw [ht]; decide) hq0 (fun b => rfl) (by rw [mE_6 (M := pR M a 22 v) ht, fset6_22]) (fun b hb => pR_ne b hb) hP1 hD1
theorem fset6_23 (M : Mm) (a : Nat) (v : Nat) : fs6 (pR M a 23 v) a = (fs6 M a).set 23 (rv v) := by simp [fs6, pR, mI, mR, mJ, up2]
theorem J_put6_23 {G : Gt} {γ : Γt} {own : String} {cc : ByteArray} {ret : Option FieldType} {M : Mm} {pc : Nat} {ls : List (Option Value)} {st : List Value} {k n d mc ms : Nat} {Qr : Option Value → Mm → Prop} {Qx : String → Mm → Prop} {lh : Launch} {nL : Nat} {nm : String} {a idx : Nat} {v : Nat} (hC : Cok G γ own cc ret d mc ms Qr Qx lh nL nm) (lk : LkF own idx TX5 33 23) (ht : (mT M a).1 = 6) (hin : nm = "<init>") (hdecl : own = RX5) (dg : decode cc pc = .ok (.putfield idx, 3)) (kk : J G γ (pR M a 23 v) (pc + 3) ls st k n) : J G γ M pc ls (rv v :: rv a :: st) k n := by
  obtain ⟨p, l, e, R, s, m, args, below, meth, c, Qr1, Qx1, mc1, ms1, nL1⟩ := γ
  obtain ⟨hx, hb, hr, hml, hown, hts, hlk, hex, hG, hLow, hst, h0, rfl, rfl, rfl, rfl, rfl, rfl, rfl, hnm⟩ := hC
  intro H locs lsA hR hS hl
  rw [rv_pos (n := a) (hR.ne (a := a) (by rw [ht]; decide))]
  obtain ⟨hg0, L, hL, hP, hD⟩ := id hR
  obtain ⟨q, hq⟩ := va_pl_get (X := []) (f := mE G.2.1 M) ((hL a).mpr (by rw [ht]; decide))
  have hq0 : (va_pl L (mE G.2.1 M))[q]? = some (a, mE G.2.1 M a) := hq
  have hq : (va_pl L (mE G.2.1 M))[q]? = some (a, .inr (5, fs6 M a)) := by rw [← mE_6 ht]; exact hq0
  refine va_putF (C := RX5) (T := TX5) (N := 33) (ty := tyX5 23) hx hb hts lay5 tyX5 tyX5_ok nmX5 hown hG.1 hP hD hS q hq rfl 23 (by decide) (hts _ lk.1) (fun x h => h) rfl (hnm.trans hin) (by rw [hdecl]; rfl) (by decide +kernel) (rv_nar _ v) (rv_fit _ (by first | exact Or.inl ⟨_, rfl⟩ | exact Or.inr ⟨_, rfl⟩) v) (Nat.le_of_ble_eq_true rfl) dg (fun H1 locs1 hP1 hD1 hS1 => kk H1 locs1 lsA ?_ hS1 hl)
  exact Rep.set hg0 hL hD (by rw [ht]; decide) hq0 (fun b => rfl) (by rw [mE_6 (M := pR M a 23 v) ht, fset6_23]) (fun b hb => pR_ne b hb) hP1 hD1
theorem fset6_24 (M : Mm) (a : Nat) (v : Nat) : fs6 (pR M a 24 v) a = (fs6 M a).set 24 (rv v) := by simp [fs6, pR, mI, mR, mJ, up2]
theorem J_put6_24 {G : Gt} {γ : Γt} {own : String} {cc : ByteArray} {ret : Option FieldType} {M : Mm} {pc : Nat} {ls : List (Option Value)} {st : List Value} {k n d mc ms : Nat} {Qr : Option Value → Mm → Prop} {Qx : String → Mm → Prop} {lh : Launch} {nL : Nat} {nm : String} {a idx : Nat} {v : Nat} (hC : Cok G γ own cc ret d mc ms Qr Qx lh nL nm) (lk : LkF own idx TX5 33 24) (ht : (mT M a).1 = 6) (hin : nm = "<init>") (hdecl : own = RX5) (dg : decode cc pc = .ok (.putfield idx, 3)) (kk : J G γ (pR M a 24 v) (pc + 3) ls st k n) : J G γ M pc ls (rv v :: rv a :: st) k n := by
  obtain ⟨p, l, e, R, s, m, args, below, meth, c, Qr1, Qx1, mc1, ms1, nL1⟩ := γ
  obtain ⟨hx, hb, hr, hml, hown, hts, hlk, hex, hG, hLow, hst, h0, rfl, rfl, rfl, rfl, rfl, rfl, rfl, hnm⟩ := hC
  intro H locs lsA hR hS hl
  rw [rv_pos (n := a) (hR.ne (a := a) (by rw [ht]; decide))]
  obtain ⟨hg0, L, hL, hP, hD⟩ := id hR
  obtain ⟨q, hq⟩ := va_pl_get (X := []) (f := mE G.2.1 M) ((hL a).mpr (by rw [ht]; decide))
  have hq0 : (va_pl L (mE G.2.1 M))[q]? = some (a, mE G.2.1 M a) := hq
  have hq : (va_pl L (mE G.2.1 M))[q]? = some (a, .inr (5, fs6 M a)) := by rw [← mE_6 ht]; exact hq0
  refine va_putF (C := RX5) (T := TX5) (N := 33) (ty := tyX5 24) hx hb hts lay5 tyX5 tyX5_ok nmX5 hown hG.1 hP hD hS q hq rfl 24 (by decide) (hts _ lk.1) (fun x h => h) rfl (hnm.trans hin) (by rw [hdecl]; rfl) (by decide +kernel) (rv_nar _ v) (rv_fit _ (by first | exact Or.inl ⟨_, rfl⟩ | exact Or.inr ⟨_, rfl⟩) v) (Nat.le_of_ble_eq_true rfl) dg (fun H1 locs1 hP1 hD1 hS1 => kk H1 locs1 lsA ?_ hS1 hl)
  exact Rep.set hg0 hL hD (by rw [ht]; decide) hq0 (fun b => rfl) (by rw [mE_6 (M := pR M a 24 v) ht, fset6_24]) (fun b hb => pR_ne b hb) hP1 hD1
theorem fset6_25 (M : Mm) (a : Nat) (v : Nat) : fs6 (pR M a 25 v) a = (fs6 M a).set 25 (rv v) := by simp [fs6, pR, mI, mR, mJ, up2]
theorem J_put6_25 {G : Gt} {γ : Γt} {own : String} {cc : ByteArray} {ret : Option FieldType} {M : Mm} {pc : Nat} {ls : List (Option Value)} {st : List Value} {k n d mc ms : Nat} {Qr : Option Value → Mm → Prop} {Qx : String → Mm → Prop} {lh : Launch} {nL : Nat} {nm : String} {a idx : Nat} {v : Nat} (hC : Cok G γ own cc ret d mc ms Qr Qx lh nL nm) (lk : LkF own idx TX5 33 25) (ht : (mT M a).1 = 6) (hin : nm = "<init>") (hdecl : own = RX5) (dg : decode cc pc = .ok (.putfield idx, 3)) (kk : J G γ (pR M a 25 v) (pc + 3) ls st k n) : J G γ M pc ls (rv v :: rv a :: st) k n := by
  obtain ⟨p, l, e, R, s, m, args, below, meth, c, Qr1, Qx1, mc1, ms1, nL1⟩ := γ
  obtain ⟨hx, hb, hr, hml, hown, hts, hlk, hex, hG, hLow, hst, h0, rfl, rfl, rfl, rfl, rfl, rfl, rfl, hnm⟩ := hC
  intro H locs lsA hR hS hl
  rw [rv_pos (n := a) (hR.ne (a := a) (by rw [ht]; decide))]
  obtain ⟨hg0, L, hL, hP, hD⟩ := id hR
  obtain ⟨q, hq⟩ := va_pl_get (X := []) (f := mE G.2.1 M) ((hL a).mpr (by rw [ht]; decide))
  have hq0 : (va_pl L (mE G.2.1 M))[q]? = some (a, mE G.2.1 M a) := hq
  have hq : (va_pl L (mE G.2.1 M))[q]? = some (a, .inr (5, fs6 M a)) := by rw [← mE_6 ht]; exact hq0
  refine va_putF (C := RX5) (T := TX5) (N := 33) (ty := tyX5 25) hx hb hts lay5 tyX5 tyX5_ok nmX5 hown hG.1 hP hD hS q hq rfl 25 (by decide) (hts _ lk.1) (fun x h => h) rfl (hnm.trans hin) (by rw [hdecl]; rfl) (by decide +kernel) (rv_nar _ v) (rv_fit _ (by first | exact Or.inl ⟨_, rfl⟩ | exact Or.inr ⟨_, rfl⟩) v) (Nat.le_of_ble_eq_true rfl) dg (fun H1 locs1 hP1 hD1 hS1 => kk H1 locs1 lsA ?_ hS1 hl)
  exact Rep.set hg0 hL hD (by rw [ht]; decide) hq0 (fun b => rfl) (by rw [mE_6 (M := pR M a 25 v) ht, fset6_25]) (fun b hb => pR_ne b hb) hP1 hD1
theorem fset6_26 (M : Mm) (a : Nat) (v : Nat) : fs6 (pR M a 26 v) a = (fs6 M a).set 26 (rv v) := by simp [fs6, pR, mI, mR, mJ, up2]
theorem J_put6_26 {G : Gt} {γ : Γt} {own : String} {cc : ByteArray} {ret : Option FieldType} {M : Mm} {pc : Nat} {ls : List (Option Value)} {st : List Value} {k n d mc ms : Nat} {Qr : Option Value → Mm → Prop} {Qx : String → Mm → Prop} {lh : Launch} {nL : Nat} {nm : String} {a idx : Nat} {v : Nat} (hC : Cok G γ own cc ret d mc ms Qr Qx lh nL nm) (lk : LkF own idx TX5 33 26) (ht : (mT M a).1 = 6) (hin : nm = "<init>") (hdecl : own = RX5) (dg : decode cc pc = .ok (.putfield idx, 3)) (kk : J G γ (pR M a 26 v) (pc + 3) ls st k n) : J G γ M pc ls (rv v :: rv a :: st) k n := by
  obtain ⟨p, l, e, R, s, m, args, below, meth, c, Qr1, Qx1, mc1, ms1, nL1⟩ := γ
  obtain ⟨hx, hb, hr, hml, hown, hts, hlk, hex, hG, hLow, hst, h0, rfl, rfl, rfl, rfl, rfl, rfl, rfl, hnm⟩ := hC
  intro H locs lsA hR hS hl
  rw [rv_pos (n := a) (hR.ne (a := a) (by rw [ht]; decide))]
  obtain ⟨hg0, L, hL, hP, hD⟩ := id hR
  obtain ⟨q, hq⟩ := va_pl_get (X := []) (f := mE G.2.1 M) ((hL a).mpr (by rw [ht]; decide))
  have hq0 : (va_pl L (mE G.2.1 M))[q]? = some (a, mE G.2.1 M a) := hq
  have hq : (va_pl L (mE G.2.1 M))[q]? = some (a, .inr (5, fs6 M a)) := by rw [← mE_6 ht]; exact hq0
  refine va_putF (C := RX5) (T := TX5) (N := 33) (ty := tyX5 26) hx hb hts lay5 tyX5 tyX5_ok nmX5 hown hG.1 hP hD hS q hq rfl 26 (by decide) (hts _ lk.1) (fun x h => h) rfl (hnm.trans hin) (by rw [hdecl]; rfl) (by decide +kernel) (rv_nar _ v) (rv_fit _ (by first | exact Or.inl ⟨_, rfl⟩ | exact Or.inr ⟨_, rfl⟩) v) (Nat.le_of_ble_eq_true rfl) dg (fun H1 locs1 hP1 hD1 hS1 => kk H1 locs1 lsA ?_ hS1 hl)
  exact Rep.set hg0 hL hD (by rw [ht]; decide) hq0 (fun b => rfl) (by rw [mE_6 (M := pR M a 26 v) ht, fset6_26]) (fun b hb => pR_ne b hb) hP1 hD1
theorem fset6_27 (M : Mm) (a : Nat) (v : Nat) : fs6 (pR M a 27 v) a = (fs6 M a).set 27 (rv v) := by simp [fs6, pR, mI, mR, mJ, up2]
theorem J_put6_27 {G : Gt} {γ : Γt} {own : String} {cc : ByteArray} {ret : Option FieldType} {M : Mm} {pc : Nat} {ls : List (Option Value)} {st : List Value} {k n d mc ms : Nat} {Qr : Option Value → Mm → Prop} {Qx : String → Mm → Prop} {lh : Launch} {nL : Nat} {nm : String} {a idx : Nat} {v : Nat} (hC : Cok G γ own cc ret d mc ms Qr Qx lh nL nm) (lk : LkF own idx TX5 33 27) (ht : (mT M a).1 = 6) (hin : nm = "<init>") (hdecl : own = RX5) (dg : decode cc pc = .ok (.putfield idx, 3)) (kk : J G γ (pR M a 27 v) (pc + 3) ls st k n) : J G γ M pc ls (rv v :: rv a :: st) k n := by
  obtain ⟨p, l, e, R, s, m, args, below, meth, c, Qr1, Qx1, mc1, ms1, nL1⟩ := γ
  obtain ⟨hx, hb, hr, hml, hown, hts, hlk, hex, hG, hLow, hst, h0, rfl, rfl, rfl, rfl, rfl, rfl, rfl, hnm⟩ := hC
  intro H locs lsA hR hS hl
  rw [rv_pos (n := a) (hR.ne (a := a) (by rw [ht]; decide))]
  obtain ⟨hg0, L, hL, hP, hD⟩ := id hR
  obtain ⟨q, hq⟩ := va_pl_get (X := []) (f := mE G.2.1 M) ((hL a).mpr (by rw [ht]; decide))
  have hq0 : (va_pl L (mE G.2.1 M))[q]? = some (a, mE G.2.1 M a) := hq
  have hq : (va_pl L (mE G.2.1 M))[q]? = some (a, .inr (5, fs6 M a)) := by rw [← mE_6 ht]; exact hq0
  refine va_putF (C := RX5) (T := TX5) (N := 33) (ty := tyX5 27) hx hb hts lay5 tyX5 tyX5_ok nmX5 hown hG.1 hP hD hS q hq rfl 27 (by decide) (hts _ lk.1) (fun x h => h) rfl (hnm.trans hin) (by rw [hdecl]; rfl) (by decide +kernel) (rv_nar _ v) (rv_fit _ (by first | exact Or.inl ⟨_, rfl⟩ | exact Or.inr ⟨_, rfl⟩) v) (Nat.le_of_ble_eq_true rfl) dg (fun H1 locs1 hP1 hD1 hS1 => kk H1 locs1 lsA ?_ hS1 hl)
  exact Rep.set hg0 hL hD (by rw [ht]; decide) hq0 (fun b => rfl) (by rw [mE_6 (M := pR M a 27 v) ht, fset6_27]) (fun b hb => pR_ne b hb) hP1 hD1
theorem fset6_28 (M : Mm) (a : Nat) (v : Nat) : fs6 (pR M a 28 v) a = (fs6 M a).set 28 (rv v) := by simp [fs6, pR, mI, mR, mJ, up2]
theorem J_put6_28 {G : Gt} {γ : Γt} {own : String} {cc : ByteArray} {ret : Option FieldType} {M : Mm} {pc : Nat} {ls : List (Option Value)} {st : List Value} {k n d mc ms : Nat} {Qr : Option Value → Mm → Prop} {Qx : String → Mm → Prop} {lh : Launch} {nL : Nat} {nm : String} {a idx : Nat} {v : Nat} (hC : Cok G γ own cc ret d mc ms Qr Qx lh nL nm) (lk : LkF own idx TX5 33 28) (ht : (mT M a).1 = 6) (hin : nm = "<init>") (hdecl : own = RX5) (dg : decode cc pc = .ok (.putfield idx, 3)) (kk : J G γ (pR M a 28 v) (pc + 3) ls st k n) : J G γ M pc ls (rv v :: rv a :: st) k n := by
  obtain ⟨p, l, e, R, s, m, args, below, meth, c, Qr1, Qx1, mc1, ms1, nL1⟩ := γ
  obtain ⟨hx, hb, hr, hml, hown, hts, hlk, hex, hG, hLow, hst, h0, rfl, rfl, rfl, rfl, rfl, rfl, rfl, hnm⟩ := hC
  intro H locs lsA hR hS hl
  rw [rv_pos (n := a) (hR.ne (a := a) (by rw [ht]; decide))]
  obtain ⟨hg0, L, hL, hP, hD⟩ := id hR
  obtain ⟨q, hq⟩ := va_pl_get (X := []) (f := mE G.2.1 M) ((hL a).mpr (by rw [ht]; decide))
  have hq0 : (va_pl L (mE G.2.1 M))[q]? = some (a, mE G.2.1 M a) := hq
  have hq : (va_pl L (mE G.2.1 M))[q]? = some (a, .inr (5, fs6 M a)) := by rw [← mE_6 ht]; exact hq0
  refine va_putF (C := RX5) (T := TX5) (N := 33) (ty := tyX5 28) hx hb hts lay5 tyX5 tyX5_ok nmX5 hown hG.1 hP hD hS q hq rfl 28 (by decide) (hts _ lk.1) (fun x h => h) rfl (hnm.trans hin) (by rw [hdecl]; rfl) (by decide +kernel) (rv_nar _ v) (rv_fit _ (by first | exact Or.inl ⟨_, rfl⟩ | exact Or.inr ⟨_, rfl⟩) v) (Nat.le_of_ble_eq_true rfl) dg (fun H1 locs1 hP1 hD1 hS1 => kk H1 locs1 lsA ?_ hS1 hl)
  exact Rep.set hg0 hL hD (by rw [ht]; decide) hq0 (fun b => rfl) (by rw [mE_6 (M := pR M a 28 v) ht, fset6_28]) (fun b hb => pR_ne b hb) hP1 hD1
theorem fset6_29 (M : Mm) (a : Nat) (v : Nat) : fs6 (pR M a 29 v) a = (fs6 M a).set 29 (rv v) := by simp [fs6, pR, mI, mR, mJ, up2]
theorem J_put6_29 {G : Gt} {γ : Γt} {own : String} {cc : ByteArray} {ret : Option FieldType} {M : Mm} {pc : Nat} {ls : List (Option Value)} {st : List Value} {k n d mc ms : Nat} {Qr : Option Value → Mm → Prop} {Qx : String → Mm → Prop} {lh : Launch} {nL : Nat} {nm : String} {a idx : Nat} {v : Nat} (hC : Cok G γ own cc ret d mc ms Qr Qx lh nL nm) (lk : LkF own idx TX5 33 29) (ht : (mT M a).1 = 6) (hin : nm = "<init>") (hdecl : own = RX5) (dg : decode cc pc = .ok (.putfield idx, 3)) (kk : J G γ (pR M a 29 v) (pc + 3) ls st k n) : J G γ M pc ls (rv v :: rv a :: st) k n := by
  obtain ⟨p, l, e, R, s, m, args, below, meth, c, Qr1, Qx1, mc1, ms1, nL1⟩ := γ
  obtain ⟨hx, hb, hr, hml, hown, hts, hlk, hex, hG, hLow, hst, h0, rfl, rfl, rfl, rfl, rfl, rfl, rfl, hnm⟩ := hC
  intro H locs lsA hR hS hl
  rw [rv_pos (n := a) (hR.ne (a := a) (by rw [ht]; decide))]
  obtain ⟨hg0, L, hL, hP, hD⟩ := id hR
  obtain ⟨q, hq⟩ := va_pl_get (X := []) (f := mE G.2.1 M) ((hL a).mpr (by rw [ht]; decide))
  have hq0 : (va_pl L (mE G.2.1 M))[q]? = some (a, mE G.2.1 M a) := hq
  have hq : (va_pl L (mE G.2.1 M))[q]? = some (a, .inr (5, fs6 M a)) := by rw [← mE_6 ht]; exact hq0
  refine va_putF (C := RX5) (T := TX5) (N := 33) (ty := tyX5 29) hx hb hts lay5 tyX5 tyX5_ok nmX5 hown hG.1 hP hD hS q hq rfl 29 (by decide) (hts _ lk.1) (fun x h => h) rfl (hnm.trans hin) (by rw [hdecl]; rfl) (by decide +kernel) (rv_nar _ v) (rv_fit _ (by first | exact Or.inl ⟨_, rfl⟩ | exact Or.inr ⟨_, rfl⟩) v) (Nat.le_of_ble_eq_true rfl) dg (fun H1 locs1 hP1 hD1 hS1 => kk H1 locs1 lsA ?_ hS1 hl)
  exact Rep.set hg0 hL hD (by rw [ht]; decide) hq0 (fun b => rfl) (by rw [mE_6 (M := pR M a 29 v) ht, fset6_29]) (fun b hb => pR_ne b hb) hP1 hD1
theorem fset6_30 (M : Mm) (a : Nat) (v : Nat) : fs6 (pR M a 30 v) a = (fs6 M a).set 30 (rv v) := by simp [fs6, pR, mI, mR, mJ, up2]
theorem J_put6_30 {G : Gt} {γ : Γt} {own : String} {cc : ByteArray} {ret : Option FieldType} {M : Mm} {pc : Nat} {ls : List (Option Value)} {st : List Value} {k n d mc ms : Nat} {Qr : Option Value → Mm → Prop} {Qx : String → Mm → Prop} {lh : Launch} {nL : Nat} {nm : String} {a idx : Nat} {v : Nat} (hC : Cok G γ own cc ret d mc ms Qr Qx lh nL nm) (lk : LkF own idx TX5 33 30) (ht : (mT M a).1 = 6) (hin : nm = "<init>") (hdecl : own = RX5) (dg : decode cc pc = .ok (.putfield idx, 3)) (kk : J G γ (pR M a 30 v) (pc + 3) ls st k n) : J G γ M pc ls (rv v :: rv a :: st) k n := by
  obtain ⟨p, l, e, R, s, m, args, below, meth, c, Qr1, Qx1, mc1, ms1, nL1⟩ := γ
  obtain ⟨hx, hb, hr, hml, hown, hts, hlk, hex, hG, hLow, hst, h0, rfl, rfl, rfl, rfl, rfl, rfl, rfl, hnm⟩ := hC
  intro H locs lsA hR hS hl
  rw [rv_pos (n := a) (hR.ne (a := a) (by rw [ht]; decide))]
  obtain ⟨hg0, L, hL, hP, hD⟩ := id hR
  obtain ⟨q, hq⟩ := va_pl_get (X := []) (f := mE G.2.1 M) ((hL a).mpr (by rw [ht]; decide))
  have hq0 : (va_pl L (mE G.2.1 M))[q]? = some (a, mE G.2.1 M a) := hq
  have hq : (va_pl L (mE G.2.1 M))[q]? = some (a, .inr (5, fs6 M a)) := by rw [← mE_6 ht]; exact hq0
  refine va_putF (C := RX5) (T := TX5) (N := 33) (ty := tyX5 30) hx hb hts lay5 tyX5 tyX5_ok nmX5 hown hG.1 hP hD hS q hq rfl 30 (by decide) (hts _ lk.1) (fun x h => h) rfl (hnm.trans hin) (by rw [hdecl]; rfl) (by decide +kernel) (rv_nar _ v) (rv_fit _ (by first | exact Or.inl ⟨_, rfl⟩ | exact Or.inr ⟨_, rfl⟩) v) (Nat.le_of_ble_eq_true rfl) dg (fun H1 locs1 hP1 hD1 hS1 => kk H1 locs1 lsA ?_ hS1 hl)
  exact Rep.set hg0 hL hD (by rw [ht]; decide) hq0 (fun b => rfl) (by rw [mE_6 (M := pR M a 30 v) ht, fset6_30]) (fun b hb => pR_ne b hb) hP1 hD1
theorem fset6_31 (M : Mm) (a : Nat) (v : Nat) : fs6 (pR M a 31 v) a = (fs6 M a).set 31 (rv v) := by simp [fs6, pR, mI, mR, mJ, up2]
theorem J_put6_31 {G : Gt} {γ : Γt} {own : String} {cc : ByteArray} {ret : Option FieldType} {M : Mm} {pc : Nat} {ls : List (Option Value)} {st : List Value} {k n d mc ms : Nat} {Qr : Option Value → Mm → Prop} {Qx : String → Mm → Prop} {lh : Launch} {nL : Nat} {nm : String} {a idx : Nat} {v : Nat} (hC : Cok G γ own cc ret d mc ms Qr Qx lh nL nm) (lk : LkF own idx TX5 33 31) (ht : (mT M a).1 = 6) (hin : nm = "<init>") (hdecl : own = RX5) (dg : decode cc pc = .ok (.putfield idx, 3)) (kk : J G γ (pR M a 31 v) (pc + 3) ls st k n) : J G γ M pc ls (rv v :: rv a :: st) k n := by
  obtain ⟨p, l, e, R, s, m, args, below, meth, c, Qr1, Qx1, mc1, ms1, nL1⟩ := γ
  obtain ⟨hx, hb, hr, hml, hown, hts, hlk, hex, hG, hLow, hst, h0, rfl, rfl, rfl, rfl, rfl, rfl, rfl, hnm⟩ := hC
  intro H locs lsA hR hS hl
  rw [rv_pos (n := a) (hR.ne (a := a) (by rw [ht]; decide))]
  obtain ⟨hg0, L, hL, hP, hD⟩ := id hR
  obtain ⟨q, hq⟩ := va_pl_get (X := []) (f := mE G.2.1 M) ((hL a).mpr (by rw [ht]; decide))
  have hq0 : (va_pl L (mE G.2.1 M))[q]? = some (a, mE G.2.1 M a) := hq
  have hq : (va_pl L (mE G.2.1 M))[q]? = some (a, .inr (5, fs6 M a)) := by rw [← mE_6 ht]; exact hq0
  refine va_putF (C := RX5) (T := TX5) (N := 33) (ty := tyX5 31) hx hb hts lay5 tyX5 tyX5_ok nmX5 hown hG.1 hP hD hS q hq rfl 31 (by decide) (hts _ lk.1) (fun x h => h) rfl (hnm.trans hin) (by rw [hdecl]; rfl) (by decide +kernel) (rv_nar _ v) (rv_fit _ (by first | exact Or.inl ⟨_, rfl⟩ | exact Or.inr ⟨_, rfl⟩) v) (Nat.le_of_ble_eq_true rfl) dg (fun H1 locs1 hP1 hD1 hS1 => kk H1 locs1 lsA ?_ hS1 hl)
  exact Rep.set hg0 hL hD (by rw [ht]; decide) hq0 (fun b => rfl) (by rw [mE_6 (M := pR M a 31 v) ht, fset6_31]) (fun b hb => pR_ne b hb) hP1 hD1
theorem fset6_32 (M : Mm) (a : Nat) (v : Nat) : fs6 (pR M a 32 v) a = (fs6 M a).set 32 (rv v) := by simp [fs6, pR, mI, mR, mJ, up2]
theorem J_put6_32 {G : Gt} {γ : Γt} {own : String} {cc : ByteArray} {ret : Option FieldType} {M : Mm} {pc : Nat} {ls : List (Option Value)} {st : List Value} {k n d mc ms : Nat} {Qr : Option Value → Mm → Prop} {Qx : String → Mm → Prop} {lh : Launch} {nL : Nat} {nm : String} {a idx : Nat} {v : Nat} (hC : Cok G γ own cc ret d mc ms Qr Qx lh nL nm) (lk : LkF own idx TX5 33 32) (ht : (mT M a).1 = 6) (hin : nm = "<init>") (hdecl : own = RX5) (dg : decode cc pc = .ok (.putfield idx, 3)) (kk : J G γ (pR M a 32 v) (pc + 3) ls st k n) : J G γ M pc ls (rv v :: rv a :: st) k n := by
  obtain ⟨p, l, e, R, s, m, args, below, meth, c, Qr1, Qx1, mc1, ms1, nL1⟩ := γ
  obtain ⟨hx, hb, hr, hml, hown, hts, hlk, hex, hG, hLow, hst, h0, rfl, rfl, rfl, rfl, rfl, rfl, rfl, hnm⟩ := hC
  intro H locs lsA hR hS hl
  rw [rv_pos (n := a) (hR.ne (a := a) (by rw [ht]; decide))]
  obtain ⟨hg0, L, hL, hP, hD⟩ := id hR
  obtain ⟨q, hq⟩ := va_pl_get (X := []) (f := mE G.2.1 M) ((hL a).mpr (by rw [ht]; decide))
  have hq0 : (va_pl L (mE G.2.1 M))[q]? = some (a, mE G.2.1 M a) := hq
  have hq : (va_pl L (mE G.2.1 M))[q]? = some (a, .inr (5, fs6 M a)) := by rw [← mE_6 ht]; exact hq0
  refine va_putF (C := RX5) (T := TX5) (N := 33) (ty := tyX5 32) hx hb hts lay5 tyX5 tyX5_ok nmX5 hown hG.1 hP hD hS q hq rfl 32 (by decide) (hts _ lk.1) (fun x h => h) rfl (hnm.trans hin) (by rw [hdecl]; rfl) (by decide +kernel) (rv_nar _ v) (rv_fit _ (by first | exact Or.inl ⟨_, rfl⟩ | exact Or.inr ⟨_, rfl⟩) v) (Nat.le_of_ble_eq_true rfl) dg (fun H1 locs1 hP1 hD1 hS1 => kk H1 locs1 lsA ?_ hS1 hl)
  exact Rep.set hg0 hL hD (by rw [ht]; decide) hq0 (fun b => rfl) (by rw [mE_6 (M := pR M a 32 v) ht, fset6_32]) (fun b hb => pR_ne b hb) hP1 hD1
theorem ix_in {i : Int32} {j N : Nat} (hi : i.toInt = (j : Int)) (hj : j < N) : vp_in i N ∧ i.toNatClampNeg = j := by
  have h1 : i.toNatClampNeg = j := by
    rw [Int32.toNatClampNeg]
    omega
  refine ⟨?_, h1⟩
  rw [vp_in_iff]
  omega
theorem J_iald {G : Gt} {γ : Γt} {own : String} {cc : ByteArray} {ret : Option FieldType} {M : Mm} {pc : Nat} {ls : List (Option Value)} {st : List Value} {k n d mc ms : Nat} {Qr : Option Value → Mm → Prop} {Qx : String → Mm → Prop} {lh : Launch} {nL : Nat} {nm : String} {a j : Nat} {i : Int32} (hC : Cok G γ own cc ret d mc ms Qr Qx lh nL nm) (ht : (mT M a).1 = 7) (hi : i.toInt = (j : Int)) (hj : j < mL M a) (dg : decode cc pc = .ok (.iaload, 1)) (kk : J G γ M (pc + 1) ls (.int (mI M a j) :: st) k n) : J G γ M pc ls (.int i :: rv a :: st) k n := by
  obtain ⟨p, l, e, R, s, m, args, below, meth, c, Qr1, Qx1, mc1, ms1, nL1⟩ := γ
  obtain ⟨hx, hb, hr, hml, hown, hts, hlk, hex, hG, hLow, hst, h0, rfl, rfl, rfl, rfl, rfl, rfl, rfl, hnm⟩ := hC
  intro H locs lsA hR hS hl
  rw [rv_pos (n := a) (hR.ne (a := a) (by rw [ht]; decide))]
  obtain ⟨hg0, L, hL, hP, hD⟩ := id hR
  obtain ⟨q, hq⟩ := va_pl_get (X := []) (f := mE G.2.1 M) ((hL a).mpr (by rw [ht]; decide))
  have hq0 : (va_pl L (mE G.2.1 M))[q]? = some (a, mE G.2.1 M a) := hq
  have hq : (va_pl L (mE G.2.1 M))[q]? = some (a, .inl (G.2.1 7, mL M a, .inl (mI M a))) := by rw [← mE_7 ht]; exact hq0
  obtain ⟨h1, h2⟩ := ix_in hi hj
  subst h2
  exact va_iald hx hb hG.1 hP q 0 hq rfl h1 dg (kk H locs lsA hR hS hl)
theorem J_zald {G : Gt} {γ : Γt} {own : String} {cc : ByteArray} {ret : Option FieldType} {M : Mm} {pc : Nat} {ls : List (Option Value)} {st : List Value} {k n d mc ms : Nat} {Qr : Option Value → Mm → Prop} {Qx : String → Mm → Prop} {lh : Launch} {nL : Nat} {nm : String} {a j : Nat} {i : Int32} (hC : Cok G γ own cc ret d mc ms Qr Qx lh nL nm) (ht : (mT M a).1 = 8) (hi : i.toInt = (j : Int)) (hj : j < mL M a) (dg : decode cc pc = .ok (.baload, 1)) (kk : J G γ M (pc + 1) ls (.int (mI M a j) :: st) k n) : J G γ M pc ls (.int i :: rv a :: st) k n := by
  obtain ⟨p, l, e, R, s, m, args, below, meth, c, Qr1, Qx1, mc1, ms1, nL1⟩ := γ
  obtain ⟨hx, hb, hr, hml, hown, hts, hlk, hex, hG, hLow, hst, h0, rfl, rfl, rfl, rfl, rfl, rfl, rfl, hnm⟩ := hC
  intro H locs lsA hR hS hl
  rw [rv_pos (n := a) (hR.ne (a := a) (by rw [ht]; decide))]
  obtain ⟨hg0, L, hL, hP, hD⟩ := id hR
  obtain ⟨q, hq⟩ := va_pl_get (X := []) (f := mE G.2.1 M) ((hL a).mpr (by rw [ht]; decide))
  have hq0 : (va_pl L (mE G.2.1 M))[q]? = some (a, mE G.2.1 M a) := hq
  have hq : (va_pl L (mE G.2.1 M))[q]? = some (a, .inl (G.2.1 8, mL M a, .inl (mI M a))) := by rw [← mE_8 ht]; exact hq0
  obtain ⟨h1, h2⟩ := ix_in hi hj
  subst h2
  exact va_zald hx hb hG.1 hP q 1 hq rfl h1 dg (kk H locs lsA hR hS hl)
theorem J_aald9 {G : Gt} {γ : Γt} {own : String} {cc : ByteArray} {ret : Option FieldType} {M : Mm} {pc : Nat} {ls : List (Option Value)} {st : List Value} {k n d mc ms : Nat} {Qr : Option Value → Mm → Prop} {Qx : String → Mm → Prop} {lh : Launch} {nL : Nat} {nm : String} {a j : Nat} {i : Int32} (hC : Cok G γ own cc ret d mc ms Qr Qx lh nL nm) (ht : (mT M a).1 = 9) (hi : i.toInt = (j : Int)) (hj : j < mL M a) (dg : decode cc pc = .ok (.aaload, 1)) (kk : J G γ M (pc + 1) ls (rv (mR M a j) :: st) k n) : J G γ M pc ls (.int i :: rv a :: st) k n := by
  obtain ⟨p, l, e, R, s, m, args, below, meth, c, Qr1, Qx1, mc1, ms1, nL1⟩ := γ
  obtain ⟨hx, hb, hr, hml, hown, hts, hlk, hex, hG, hLow, hst, h0, rfl, rfl, rfl, rfl, rfl, rfl, rfl, hnm⟩ := hC
  intro H locs lsA hR hS hl
  rw [rv_pos (n := a) (hR.ne (a := a) (by rw [ht]; decide))]
  obtain ⟨hg0, L, hL, hP, hD⟩ := id hR
  obtain ⟨q, hq⟩ := va_pl_get (X := []) (f := mE G.2.1 M) ((hL a).mpr (by rw [ht]; decide))
  have hq0 : (va_pl L (mE G.2.1 M))[q]? = some (a, mE G.2.1 M a) := hq
  have hq : (va_pl L (mE G.2.1 M))[q]? = some (a, .inl (G.2.1 9, mL M a, .inr (.inr (.inr (.inr (fun j => ro (mR M a j))))))) := by rw [← mE_9 ht]; exact hq0
  obtain ⟨h1, h2⟩ := ix_in hi hj
  subst h2
  exact va_aldq hx hb hG.1 hP q 2 hq rfl h1 dg (kk H locs lsA hR hS hl)
theorem J_aald10 {G : Gt} {γ : Γt} {own : String} {cc : ByteArray} {ret : Option FieldType} {M : Mm} {pc : Nat} {ls : List (Option Value)} {st : List Value} {k n d mc ms : Nat} {Qr : Option Value → Mm → Prop} {Qx : String → Mm → Prop} {lh : Launch} {nL : Nat} {nm : String} {a j : Nat} {i : Int32} (hC : Cok G γ own cc ret d mc ms Qr Qx lh nL nm) (ht : (mT M a).1 = 10) (hi : i.toInt = (j : Int)) (hj : j < mL M a) (dg : decode cc pc = .ok (.aaload, 1)) (kk : J G γ M (pc + 1) ls (rv (mR M a j) :: st) k n) : J G γ M pc ls (.int i :: rv a :: st) k n := by
  obtain ⟨p, l, e, R, s, m, args, below, meth, c, Qr1, Qx1, mc1, ms1, nL1⟩ := γ
  obtain ⟨hx, hb, hr, hml, hown, hts, hlk, hex, hG, hLow, hst, h0, rfl, rfl, rfl, rfl, rfl, rfl, rfl, hnm⟩ := hC
  intro H locs lsA hR hS hl
  rw [rv_pos (n := a) (hR.ne (a := a) (by rw [ht]; decide))]
  obtain ⟨hg0, L, hL, hP, hD⟩ := id hR
  obtain ⟨q, hq⟩ := va_pl_get (X := []) (f := mE G.2.1 M) ((hL a).mpr (by rw [ht]; decide))
  have hq0 : (va_pl L (mE G.2.1 M))[q]? = some (a, mE G.2.1 M a) := hq
  have hq : (va_pl L (mE G.2.1 M))[q]? = some (a, .inl (G.2.1 10, mL M a, .inr (.inr (.inr (.inr (fun j => ro (mR M a j))))))) := by rw [← mE_10 ht]; exact hq0
  obtain ⟨h1, h2⟩ := ix_in hi hj
  subst h2
  exact va_aldq hx hb hG.1 hP q 3 hq rfl h1 dg (kk H locs lsA hR hS hl)
theorem J_aald11 {G : Gt} {γ : Γt} {own : String} {cc : ByteArray} {ret : Option FieldType} {M : Mm} {pc : Nat} {ls : List (Option Value)} {st : List Value} {k n d mc ms : Nat} {Qr : Option Value → Mm → Prop} {Qx : String → Mm → Prop} {lh : Launch} {nL : Nat} {nm : String} {a j : Nat} {i : Int32} (hC : Cok G γ own cc ret d mc ms Qr Qx lh nL nm) (ht : (mT M a).1 = 11) (hi : i.toInt = (j : Int)) (hj : j < mL M a) (dg : decode cc pc = .ok (.aaload, 1)) (kk : J G γ M (pc + 1) ls (rv (mR M a j) :: st) k n) : J G γ M pc ls (.int i :: rv a :: st) k n := by
  obtain ⟨p, l, e, R, s, m, args, below, meth, c, Qr1, Qx1, mc1, ms1, nL1⟩ := γ
  obtain ⟨hx, hb, hr, hml, hown, hts, hlk, hex, hG, hLow, hst, h0, rfl, rfl, rfl, rfl, rfl, rfl, rfl, hnm⟩ := hC
  intro H locs lsA hR hS hl
  rw [rv_pos (n := a) (hR.ne (a := a) (by rw [ht]; decide))]
  obtain ⟨hg0, L, hL, hP, hD⟩ := id hR
  obtain ⟨q, hq⟩ := va_pl_get (X := []) (f := mE G.2.1 M) ((hL a).mpr (by rw [ht]; decide))
  have hq0 : (va_pl L (mE G.2.1 M))[q]? = some (a, mE G.2.1 M a) := hq
  have hq : (va_pl L (mE G.2.1 M))[q]? = some (a, .inl (G.2.1 11, mL M a, .inr (.inr (.inr (.inr (fun j => ro (mR M a j))))))) := by rw [← mE_11 ht]; exact hq0
  obtain ⟨h1, h2⟩ := ix_in hi hj
  subst h2
  exact va_aldq hx hb hG.1 hP q 4 hq rfl h1 dg (kk H locs lsA hR hS hl)
theorem J_lald {G : Gt} {γ : Γt} {own : String} {cc : ByteArray} {ret : Option FieldType} {M : Mm} {pc : Nat} {ls : List (Option Value)} {st : List Value} {k n d mc ms : Nat} {Qr : Option Value → Mm → Prop} {Qx : String → Mm → Prop} {lh : Launch} {nL : Nat} {nm : String} {a j : Nat} {i : Int32} (hC : Cok G γ own cc ret d mc ms Qr Qx lh nL nm) (ht : (mT M a).1 = 12) (hi : i.toInt = (j : Int)) (hj : j < mL M a) (dg : decode cc pc = .ok (.laload, 1)) (kk : J G γ M (pc + 1) ls (.long (mJ M a j) :: st) k n) : J G γ M pc ls (.int i :: rv a :: st) k n := by
  obtain ⟨p, l, e, R, s, m, args, below, meth, c, Qr1, Qx1, mc1, ms1, nL1⟩ := γ
  obtain ⟨hx, hb, hr, hml, hown, hts, hlk, hex, hG, hLow, hst, h0, rfl, rfl, rfl, rfl, rfl, rfl, rfl, hnm⟩ := hC
  intro H locs lsA hR hS hl
  rw [rv_pos (n := a) (hR.ne (a := a) (by rw [ht]; decide))]
  obtain ⟨hg0, L, hL, hP, hD⟩ := id hR
  obtain ⟨q, hq⟩ := va_pl_get (X := []) (f := mE G.2.1 M) ((hL a).mpr (by rw [ht]; decide))
  have hq0 : (va_pl L (mE G.2.1 M))[q]? = some (a, mE G.2.1 M a) := hq
  have hq : (va_pl L (mE G.2.1 M))[q]? = some (a, .inl (G.2.1 12, mL M a, .inr (.inl (mJ M a)))) := by rw [← mE_12 ht]; exact hq0
  obtain ⟨h1, h2⟩ := ix_in hi hj
  subst h2
  exact va_lald hx hb hG.1 hP q 5 hq rfl h1 dg (kk H locs lsA hR hS hl)
theorem J_dald {G : Gt} {γ : Γt} {own : String} {cc : ByteArray} {ret : Option FieldType} {M : Mm} {pc : Nat} {ls : List (Option Value)} {st : List Value} {k n d mc ms : Nat} {Qr : Option Value → Mm → Prop} {Qx : String → Mm → Prop} {lh : Launch} {nL : Nat} {nm : String} {a j : Nat} {i : Int32} (hC : Cok G γ own cc ret d mc ms Qr Qx lh nL nm) (ht : (mT M a).1 = 13) (hi : i.toInt = (j : Int)) (hj : j < mL M a) (dg : decode cc pc = .ok (.daload, 1)) (kk : J G γ M (pc + 1) ls (.double (mD M a j) :: st) k n) : J G γ M pc ls (.int i :: rv a :: st) k n := by
  obtain ⟨p, l, e, R, s, m, args, below, meth, c, Qr1, Qx1, mc1, ms1, nL1⟩ := γ
  obtain ⟨hx, hb, hr, hml, hown, hts, hlk, hex, hG, hLow, hst, h0, rfl, rfl, rfl, rfl, rfl, rfl, rfl, hnm⟩ := hC
  intro H locs lsA hR hS hl
  rw [rv_pos (n := a) (hR.ne (a := a) (by rw [ht]; decide))]
  obtain ⟨hg0, L, hL, hP, hD⟩ := id hR
  obtain ⟨q, hq⟩ := va_pl_get (X := []) (f := mE G.2.1 M) ((hL a).mpr (by rw [ht]; decide))
  have hq0 : (va_pl L (mE G.2.1 M))[q]? = some (a, mE G.2.1 M a) := hq
  have hq : (va_pl L (mE G.2.1 M))[q]? = some (a, .inl (G.2.1 13, mL M a, .inr (.inr (.inr (.inl (mD M a)))))) := by rw [← mE_13 ht]; exact hq0
  obtain ⟨h1, h2⟩ := ix_in hi hj
  subst h2
  exact va_dald hx hb hG.1 hP q 6 hq rfl h1 dg (kk H locs lsA hR hS hl)
theorem J_alen7 {G : Gt} {γ : Γt} {own : String} {cc : ByteArray} {ret : Option FieldType} {M : Mm} {pc : Nat} {ls : List (Option Value)} {st : List Value} {k n d mc ms : Nat} {Qr : Option Value → Mm → Prop} {Qx : String → Mm → Prop} {lh : Launch} {nL : Nat} {nm : String} {a : Nat} (hC : Cok G γ own cc ret d mc ms Qr Qx lh nL nm) (ht : (mT M a).1 = 7) (dg : decode cc pc = .ok (.arraylength, 1)) (kk : J G γ M (pc + 1) ls (.int (nI (mL M a)) :: st) k n) : J G γ M pc ls (rv a :: st) k n := by
  obtain ⟨p, l, e, R, s, m, args, below, meth, c, Qr1, Qx1, mc1, ms1, nL1⟩ := γ
  obtain ⟨hx, hb, hr, hml, hown, hts, hlk, hex, hG, hLow, hst, h0, rfl, rfl, rfl, rfl, rfl, rfl, rfl, hnm⟩ := hC
  intro H locs lsA hR hS hl
  rw [rv_pos (n := a) (hR.ne (a := a) (by rw [ht]; decide))]
  obtain ⟨hg0, L, hL, hP, hD⟩ := id hR
  obtain ⟨q, hq⟩ := va_pl_get (X := []) (f := mE G.2.1 M) ((hL a).mpr (by rw [ht]; decide))
  have hq0 : (va_pl L (mE G.2.1 M))[q]? = some (a, mE G.2.1 M a) := hq
  have hq : (va_pl L (mE G.2.1 M))[q]? = some (a, .inl (G.2.1 7, mL M a, .inl (mI M a))) := by rw [← mE_7 ht]; exact hq0
  exact va_alen hx hb hG.1 hP q 0 hq rfl rfl dg (kk H locs lsA hR hS hl)
theorem J_alen8 {G : Gt} {γ : Γt} {own : String} {cc : ByteArray} {ret : Option FieldType} {M : Mm} {pc : Nat} {ls : List (Option Value)} {st : List Value} {k n d mc ms : Nat} {Qr : Option Value → Mm → Prop} {Qx : String → Mm → Prop} {lh : Launch} {nL : Nat} {nm : String} {a : Nat} (hC : Cok G γ own cc ret d mc ms Qr Qx lh nL nm) (ht : (mT M a).1 = 8) (dg : decode cc pc = .ok (.arraylength, 1)) (kk : J G γ M (pc + 1) ls (.int (nI (mL M a)) :: st) k n) : J G γ M pc ls (rv a :: st) k n := by
  obtain ⟨p, l, e, R, s, m, args, below, meth, c, Qr1, Qx1, mc1, ms1, nL1⟩ := γ
  obtain ⟨hx, hb, hr, hml, hown, hts, hlk, hex, hG, hLow, hst, h0, rfl, rfl, rfl, rfl, rfl, rfl, rfl, hnm⟩ := hC
  intro H locs lsA hR hS hl
  rw [rv_pos (n := a) (hR.ne (a := a) (by rw [ht]; decide))]
  obtain ⟨hg0, L, hL, hP, hD⟩ := id hR
  obtain ⟨q, hq⟩ := va_pl_get (X := []) (f := mE G.2.1 M) ((hL a).mpr (by rw [ht]; decide))
  have hq0 : (va_pl L (mE G.2.1 M))[q]? = some (a, mE G.2.1 M a) := hq
  have hq : (va_pl L (mE G.2.1 M))[q]? = some (a, .inl (G.2.1 8, mL M a, .inl (mI M a))) := by rw [← mE_8 ht]; exact hq0
  exact va_alen hx hb hG.1 hP q 1 hq rfl rfl dg (kk H locs lsA hR hS hl)
theorem J_alen9 {G : Gt} {γ : Γt} {own : String} {cc : ByteArray} {ret : Option FieldType} {M : Mm} {pc : Nat} {ls : List (Option Value)} {st : List Value} {k n d mc ms : Nat} {Qr : Option Value → Mm → Prop} {Qx : String → Mm → Prop} {lh : Launch} {nL : Nat} {nm : String} {a : Nat} (hC : Cok G γ own cc ret d mc ms Qr Qx lh nL nm) (ht : (mT M a).1 = 9) (dg : decode cc pc = .ok (.arraylength, 1)) (kk : J G γ M (pc + 1) ls (.int (nI (mL M a)) :: st) k n) : J G γ M pc ls (rv a :: st) k n := by
  obtain ⟨p, l, e, R, s, m, args, below, meth, c, Qr1, Qx1, mc1, ms1, nL1⟩ := γ
  obtain ⟨hx, hb, hr, hml, hown, hts, hlk, hex, hG, hLow, hst, h0, rfl, rfl, rfl, rfl, rfl, rfl, rfl, hnm⟩ := hC
  intro H locs lsA hR hS hl
  rw [rv_pos (n := a) (hR.ne (a := a) (by rw [ht]; decide))]
  obtain ⟨hg0, L, hL, hP, hD⟩ := id hR
  obtain ⟨q, hq⟩ := va_pl_get (X := []) (f := mE G.2.1 M) ((hL a).mpr (by rw [ht]; decide))
  have hq0 : (va_pl L (mE G.2.1 M))[q]? = some (a, mE G.2.1 M a) := hq
  have hq : (va_pl L (mE G.2.1 M))[q]? = some (a, .inl (G.2.1 9, mL M a, .inr (.inr (.inr (.inr (fun j => ro (mR M a j))))))) := by rw [← mE_9 ht]; exact hq0
  exact va_alen hx hb hG.1 hP q 2 hq rfl rfl dg (kk H locs lsA hR hS hl)
theorem J_alen10 {G : Gt} {γ : Γt} {own : String} {cc : ByteArray} {ret : Option FieldType} {M : Mm} {pc : Nat} {ls : List (Option Value)} {st : List Value} {k n d mc ms : Nat} {Qr : Option Value → Mm → Prop} {Qx : String → Mm → Prop} {lh : Launch} {nL : Nat} {nm : String} {a : Nat} (hC : Cok G γ own cc ret d mc ms Qr Qx lh nL nm) (ht : (mT M a).1 = 10) (dg : decode cc pc = .ok (.arraylength, 1)) (kk : J G γ M (pc + 1) ls (.int (nI (mL M a)) :: st) k n) : J G γ M pc ls (rv a :: st) k n := by
  obtain ⟨p, l, e, R, s, m, args, below, meth, c, Qr1, Qx1, mc1, ms1, nL1⟩ := γ
  obtain ⟨hx, hb, hr, hml, hown, hts, hlk, hex, hG, hLow, hst, h0, rfl, rfl, rfl, rfl, rfl, rfl, rfl, hnm⟩ := hC
  intro H locs lsA hR hS hl
  rw [rv_pos (n := a) (hR.ne (a := a) (by rw [ht]; decide))]
  obtain ⟨hg0, L, hL, hP, hD⟩ := id hR
  obtain ⟨q, hq⟩ := va_pl_get (X := []) (f := mE G.2.1 M) ((hL a).mpr (by rw [ht]; decide))
  have hq0 : (va_pl L (mE G.2.1 M))[q]? = some (a, mE G.2.1 M a) := hq
  have hq : (va_pl L (mE G.2.1 M))[q]? = some (a, .inl (G.2.1 10, mL M a, .inr (.inr (.inr (.inr (fun j => ro (mR M a j))))))) := by rw [← mE_10 ht]; exact hq0
  exact va_alen hx hb hG.1 hP q 3 hq rfl rfl dg (kk H locs lsA hR hS hl)
theorem J_alen11 {G : Gt} {γ : Γt} {own : String} {cc : ByteArray} {ret : Option FieldType} {M : Mm} {pc : Nat} {ls : List (Option Value)} {st : List Value} {k n d mc ms : Nat} {Qr : Option Value → Mm → Prop} {Qx : String → Mm → Prop} {lh : Launch} {nL : Nat} {nm : String} {a : Nat} (hC : Cok G γ own cc ret d mc ms Qr Qx lh nL nm) (ht : (mT M a).1 = 11) (dg : decode cc pc = .ok (.arraylength, 1)) (kk : J G γ M (pc + 1) ls (.int (nI (mL M a)) :: st) k n) : J G γ M pc ls (rv a :: st) k n := by
  obtain ⟨p, l, e, R, s, m, args, below, meth, c, Qr1, Qx1, mc1, ms1, nL1⟩ := γ
  obtain ⟨hx, hb, hr, hml, hown, hts, hlk, hex, hG, hLow, hst, h0, rfl, rfl, rfl, rfl, rfl, rfl, rfl, hnm⟩ := hC
  intro H locs lsA hR hS hl
  rw [rv_pos (n := a) (hR.ne (a := a) (by rw [ht]; decide))]
  obtain ⟨hg0, L, hL, hP, hD⟩ := id hR
  obtain ⟨q, hq⟩ := va_pl_get (X := []) (f := mE G.2.1 M) ((hL a).mpr (by rw [ht]; decide))
  have hq0 : (va_pl L (mE G.2.1 M))[q]? = some (a, mE G.2.1 M a) := hq
  have hq : (va_pl L (mE G.2.1 M))[q]? = some (a, .inl (G.2.1 11, mL M a, .inr (.inr (.inr (.inr (fun j => ro (mR M a j))))))) := by rw [← mE_11 ht]; exact hq0
  exact va_alen hx hb hG.1 hP q 4 hq rfl rfl dg (kk H locs lsA hR hS hl)
theorem J_alen12 {G : Gt} {γ : Γt} {own : String} {cc : ByteArray} {ret : Option FieldType} {M : Mm} {pc : Nat} {ls : List (Option Value)} {st : List Value} {k n d mc ms : Nat} {Qr : Option Value → Mm → Prop} {Qx : String → Mm → Prop} {lh : Launch} {nL : Nat} {nm : String} {a : Nat} (hC : Cok G γ own cc ret d mc ms Qr Qx lh nL nm) (ht : (mT M a).1 = 12) (dg : decode cc pc = .ok (.arraylength, 1)) (kk : J G γ M (pc + 1) ls (.int (nI (mL M a)) :: st) k n) : J G γ M pc ls (rv a :: st) k n := by
  obtain ⟨p, l, e, R, s, m, args, below, meth, c, Qr1, Qx1, mc1, ms1, nL1⟩ := γ
  obtain ⟨hx, hb, hr, hml, hown, hts, hlk, hex, hG, hLow, hst, h0, rfl, rfl, rfl, rfl, rfl, rfl, rfl, hnm⟩ := hC
  intro H locs lsA hR hS hl
  rw [rv_pos (n := a) (hR.ne (a := a) (by rw [ht]; decide))]
  obtain ⟨hg0, L, hL, hP, hD⟩ := id hR
  obtain ⟨q, hq⟩ := va_pl_get (X := []) (f := mE G.2.1 M) ((hL a).mpr (by rw [ht]; decide))
  have hq0 : (va_pl L (mE G.2.1 M))[q]? = some (a, mE G.2.1 M a) := hq
  have hq : (va_pl L (mE G.2.1 M))[q]? = some (a, .inl (G.2.1 12, mL M a, .inr (.inl (mJ M a)))) := by rw [← mE_12 ht]; exact hq0
  exact va_alen hx hb hG.1 hP q 5 hq rfl rfl dg (kk H locs lsA hR hS hl)
theorem J_alen13 {G : Gt} {γ : Γt} {own : String} {cc : ByteArray} {ret : Option FieldType} {M : Mm} {pc : Nat} {ls : List (Option Value)} {st : List Value} {k n d mc ms : Nat} {Qr : Option Value → Mm → Prop} {Qx : String → Mm → Prop} {lh : Launch} {nL : Nat} {nm : String} {a : Nat} (hC : Cok G γ own cc ret d mc ms Qr Qx lh nL nm) (ht : (mT M a).1 = 13) (dg : decode cc pc = .ok (.arraylength, 1)) (kk : J G γ M (pc + 1) ls (.int (nI (mL M a)) :: st) k n) : J G γ M pc ls (rv a :: st) k n := by
  obtain ⟨p, l, e, R, s, m, args, below, meth, c, Qr1, Qx1, mc1, ms1, nL1⟩ := γ
  obtain ⟨hx, hb, hr, hml, hown, hts, hlk, hex, hG, hLow, hst, h0, rfl, rfl, rfl, rfl, rfl, rfl, rfl, hnm⟩ := hC
  intro H locs lsA hR hS hl
  rw [rv_pos (n := a) (hR.ne (a := a) (by rw [ht]; decide))]
  obtain ⟨hg0, L, hL, hP, hD⟩ := id hR
  obtain ⟨q, hq⟩ := va_pl_get (X := []) (f := mE G.2.1 M) ((hL a).mpr (by rw [ht]; decide))
  have hq0 : (va_pl L (mE G.2.1 M))[q]? = some (a, mE G.2.1 M a) := hq
  have hq : (va_pl L (mE G.2.1 M))[q]? = some (a, .inl (G.2.1 13, mL M a, .inr (.inr (.inr (.inl (mD M a)))))) := by rw [← mE_13 ht]; exact hq0
  exact va_alen hx hb hG.1 hP q 6 hq rfl rfl dg (kk H locs lsA hR hS hl)
theorem J_iast {G : Gt} {γ : Γt} {own : String} {cc : ByteArray} {ret : Option FieldType} {M : Mm} {pc : Nat} {ls : List (Option Value)} {st : List Value} {k n d mc ms : Nat} {Qr : Option Value → Mm → Prop} {Qx : String → Mm → Prop} {lh : Launch} {nL : Nat} {nm : String} {a j : Nat} {i : Int32} {v : Int32} (hC : Cok G γ own cc ret d mc ms Qr Qx lh nL nm) (ht : (mT M a).1 = 7) (hi : i.toInt = (j : Int)) (hj : j < mL M a) (dg : decode cc pc = .ok (.iastore, 1)) (kk : J G γ (pI M a j v) (pc + 1) ls st k n) : J G γ M pc ls (.int v :: .int i :: rv a :: st) k n := by
  obtain ⟨p, l, e, R, s, m, args, below, meth, c, Qr1, Qx1, mc1, ms1, nL1⟩ := γ
  obtain ⟨hx, hb, hr, hml, hown, hts, hlk, hex, hG, hLow, hst, h0, rfl, rfl, rfl, rfl, rfl, rfl, rfl, hnm⟩ := hC
  intro H locs lsA hR hS hl
  rw [rv_pos (n := a) (hR.ne (a := a) (by rw [ht]; decide))]
  obtain ⟨hg0, L, hL, hP, hD⟩ := id hR
  obtain ⟨q, hq⟩ := va_pl_get (X := []) (f := mE G.2.1 M) ((hL a).mpr (by rw [ht]; decide))
  have hq0 : (va_pl L (mE G.2.1 M))[q]? = some (a, mE G.2.1 M a) := hq
  have hq : (va_pl L (mE G.2.1 M))[q]? = some (a, .inl (G.2.1 7, mL M a, .inl (mI M a))) := by rw [← mE_7 ht]; exact hq0
  obtain ⟨h1, h2⟩ := ix_in hi hj
  subst h2
  refine va_iast hx hb hG.1 hP hD hS q 0 hq rfl h1 dg (fun H1 locs1 hP1 hD1 hS1 => kk H1 locs1 lsA ?_ hS1 hl)
  refine Rep.set hg0 hL hD (by rw [ht]; decide) hq0 (fun b => rfl) ?_ (fun b hb => pI_ne b hb) hP1 hD1
  rw [mE_7 (M := pI M a _ v) ht]
  have e9 : mI (pI M a i.toNatClampNeg v) a = upd (mI M a) i.toNatClampNeg v := by funext j; simp [mI, pI, up2, upd]
  rw [e9]; rfl
theorem J_zast {G : Gt} {γ : Γt} {own : String} {cc : ByteArray} {ret : Option FieldType} {M : Mm} {pc : Nat} {ls : List (Option Value)} {st : List Value} {k n d mc ms : Nat} {Qr : Option Value → Mm → Prop} {Qx : String → Mm → Prop} {lh : Launch} {nL : Nat} {nm : String} {a j : Nat} {i : Int32} {v : Int32} (hC : Cok G γ own cc ret d mc ms Qr Qx lh nL nm) (ht : (mT M a).1 = 8) (hi : i.toInt = (j : Int)) (hj : j < mL M a) (hb01 : v = 0 ∨ v = 1) (dg : decode cc pc = .ok (.bastore, 1)) (kk : J G γ (pI M a j v) (pc + 1) ls st k n) : J G γ M pc ls (.int v :: .int i :: rv a :: st) k n := by
  obtain ⟨p, l, e, R, s, m, args, below, meth, c, Qr1, Qx1, mc1, ms1, nL1⟩ := γ
  obtain ⟨hx, hb, hr, hml, hown, hts, hlk, hex, hG, hLow, hst, h0, rfl, rfl, rfl, rfl, rfl, rfl, rfl, hnm⟩ := hC
  intro H locs lsA hR hS hl
  rw [rv_pos (n := a) (hR.ne (a := a) (by rw [ht]; decide))]
  obtain ⟨hg0, L, hL, hP, hD⟩ := id hR
  obtain ⟨q, hq⟩ := va_pl_get (X := []) (f := mE G.2.1 M) ((hL a).mpr (by rw [ht]; decide))
  have hq0 : (va_pl L (mE G.2.1 M))[q]? = some (a, mE G.2.1 M a) := hq
  have hq : (va_pl L (mE G.2.1 M))[q]? = some (a, .inl (G.2.1 8, mL M a, .inl (mI M a))) := by rw [← mE_8 ht]; exact hq0
  obtain ⟨h1, h2⟩ := ix_in hi hj
  subst h2
  refine va_zast hx hb hG.1 hP hD hS q 1 hq rfl h1 dg (fun H1 locs1 hP1 hD1 hS1 => kk H1 locs1 lsA ?_ hS1 hl)
  refine Rep.set hg0 hL hD (by rw [ht]; decide) hq0 (fun b => rfl) ?_ (fun b hb => pI_ne b hb) hP1 hD1
  rw [mE_8 (M := pI M a _ v) ht]
  have e8 : vp_nar .boolean v = v := by rcases hb01 with h | h <;> rw [h] <;> rfl
  have e9 : mI (pI M a i.toNatClampNeg v) a = upd (mI M a) i.toNatClampNeg (vp_nar .boolean v) := by rw [e8]; funext j; simp [mI, pI, up2, upd]
  rw [e9]; rfl
theorem J_last {G : Gt} {γ : Γt} {own : String} {cc : ByteArray} {ret : Option FieldType} {M : Mm} {pc : Nat} {ls : List (Option Value)} {st : List Value} {k n d mc ms : Nat} {Qr : Option Value → Mm → Prop} {Qx : String → Mm → Prop} {lh : Launch} {nL : Nat} {nm : String} {a j : Nat} {i : Int32} {v : Int64} (hC : Cok G γ own cc ret d mc ms Qr Qx lh nL nm) (ht : (mT M a).1 = 12) (hi : i.toInt = (j : Int)) (hj : j < mL M a) (dg : decode cc pc = .ok (.lastore, 1)) (kk : J G γ (pJ M a j v) (pc + 1) ls st k n) : J G γ M pc ls (.long v :: .int i :: rv a :: st) k n := by
  obtain ⟨p, l, e, R, s, m, args, below, meth, c, Qr1, Qx1, mc1, ms1, nL1⟩ := γ
  obtain ⟨hx, hb, hr, hml, hown, hts, hlk, hex, hG, hLow, hst, h0, rfl, rfl, rfl, rfl, rfl, rfl, rfl, hnm⟩ := hC
  intro H locs lsA hR hS hl
  rw [rv_pos (n := a) (hR.ne (a := a) (by rw [ht]; decide))]
  obtain ⟨hg0, L, hL, hP, hD⟩ := id hR
  obtain ⟨q, hq⟩ := va_pl_get (X := []) (f := mE G.2.1 M) ((hL a).mpr (by rw [ht]; decide))
  have hq0 : (va_pl L (mE G.2.1 M))[q]? = some (a, mE G.2.1 M a) := hq
  have hq : (va_pl L (mE G.2.1 M))[q]? = some (a, .inl (G.2.1 12, mL M a, .inr (.inl (mJ M a)))) := by rw [← mE_12 ht]; exact hq0
  obtain ⟨h1, h2⟩ := ix_in hi hj
  subst h2
  refine va_last hx hb hG.1 hP hD hS q 5 hq rfl h1 dg (fun H1 locs1 hP1 hD1 hS1 => kk H1 locs1 lsA ?_ hS1 hl)
  refine Rep.set hg0 hL hD (by rw [ht]; decide) hq0 (fun b => rfl) ?_ (fun b hb => pJ_ne b hb) hP1 hD1
  rw [mE_12 (M := pJ M a _ v) ht]
  have e9 : mJ (pJ M a i.toNatClampNeg v) a = vp_updL (mJ M a) i.toNatClampNeg v := by funext j; simp [mJ, pJ, up2, vp_updL]
  rw [e9]; rfl
theorem J_dast {G : Gt} {γ : Γt} {own : String} {cc : ByteArray} {ret : Option FieldType} {M : Mm} {pc : Nat} {ls : List (Option Value)} {st : List Value} {k n d mc ms : Nat} {Qr : Option Value → Mm → Prop} {Qx : String → Mm → Prop} {lh : Launch} {nL : Nat} {nm : String} {a j : Nat} {i : Int32} {v : UInt64} (hC : Cok G γ own cc ret d mc ms Qr Qx lh nL nm) (ht : (mT M a).1 = 13) (hi : i.toInt = (j : Int)) (hj : j < mL M a) (dg : decode cc pc = .ok (.dastore, 1)) (kk : J G γ (pD M a j v) (pc + 1) ls st k n) : J G γ M pc ls (.double v :: .int i :: rv a :: st) k n := by
  obtain ⟨p, l, e, R, s, m, args, below, meth, c, Qr1, Qx1, mc1, ms1, nL1⟩ := γ
  obtain ⟨hx, hb, hr, hml, hown, hts, hlk, hex, hG, hLow, hst, h0, rfl, rfl, rfl, rfl, rfl, rfl, rfl, hnm⟩ := hC
  intro H locs lsA hR hS hl
  rw [rv_pos (n := a) (hR.ne (a := a) (by rw [ht]; decide))]
  obtain ⟨hg0, L, hL, hP, hD⟩ := id hR
  obtain ⟨q, hq⟩ := va_pl_get (X := []) (f := mE G.2.1 M) ((hL a).mpr (by rw [ht]; decide))
  have hq0 : (va_pl L (mE G.2.1 M))[q]? = some (a, mE G.2.1 M a) := hq
  have hq : (va_pl L (mE G.2.1 M))[q]? = some (a, .inl (G.2.1 13, mL M a, .inr (.inr (.inr (.inl (mD M a)))))) := by rw [← mE_13 ht]; exact hq0
  obtain ⟨h1, h2⟩ := ix_in hi hj
  subst h2
  refine va_dast hx hb hG.1 hP hD hS q 6 hq rfl h1 dg (fun H1 locs1 hP1 hD1 hS1 => kk H1 locs1 lsA ?_ hS1 hl)
  refine Rep.set hg0 hL hD (by rw [ht]; decide) hq0 (fun b => rfl) ?_ (fun b hb => pD_ne b hb) hP1 hD1
  rw [mE_13 (M := pD M a _ v) ht]
  have e9 : mD (pD M a i.toNatClampNeg v) a = vf_upd (mD M a) i.toNatClampNeg v := by funext j; simp [mD, pD, up2, vf_upd]
  rw [e9]; rfl
theorem J_aast9 {G : Gt} {γ : Γt} {own : String} {cc : ByteArray} {ret : Option FieldType} {M : Mm} {pc : Nat} {ls : List (Option Value)} {st : List Value} {k n d mc ms : Nat} {Qr : Option Value → Mm → Prop} {Qx : String → Mm → Prop} {lh : Launch} {nL : Nat} {nm : String} {a j v : Nat} {i : Int32} (hC : Cok G γ own cc ret d mc ms Qr Qx lh nL nm) (ht : (mT M a).1 = 9) (hv : (mT M v).1 = 4) (hi : i.toInt = (j : Int)) (hj : j < mL M a) (dg : decode cc pc = .ok (.aastore, 1)) (kk : J G γ (pR M a j v) (pc + 1) ls st k n) : J G γ M pc ls (rv v :: .int i :: rv a :: st) k n := by
  obtain ⟨p, l, e, R, s, m, args, below, meth, c, Qr1, Qx1, mc1, ms1, nL1⟩ := γ
  obtain ⟨hx, hb, hr, hml, hown, hts, hlk, hex, hG, hLow, hst, h0, rfl, rfl, rfl, rfl, rfl, rfl, rfl, hnm⟩ := hC
  intro H locs lsA hR hS hl
  rw [rv_pos (n := a) (hR.ne (a := a) (by rw [ht]; decide))]
  obtain ⟨hg0, L, hL, hP, hD⟩ := id hR
  obtain ⟨q, hq⟩ := va_pl_get (X := []) (f := mE G.2.1 M) ((hL a).mpr (by rw [ht]; decide))
  have hq0 : (va_pl L (mE G.2.1 M))[q]? = some (a, mE G.2.1 M a) := hq
  have hq : (va_pl L (mE G.2.1 M))[q]? = some (a, .inl (G.2.1 9, mL M a, .inr (.inr (.inr (.inr (fun j => ro (mR M a j))))))) := by rw [← mE_9 ht]; exact hq0
  have hvne := hR.ne (a := v) (by rw [hv]; decide)
  rw [rv_pos (n := v) hvne]
  obtain ⟨qv, hqv⟩ := va_pl_get (X := []) (f := mE G.2.1 M) ((hL v).mpr (by rw [hv]; decide))
  have hqv : (va_pl L (mE G.2.1 M))[qv]? = some (v, .inr (3, fs4 M v)) := by rw [← mE_4 hv]; exact hqv
  obtain ⟨h1, h2⟩ := ix_in hi hj
  subst h2
  refine va_astq hx hb hG.1 hP hD hS q 2 qv 3 hq rfl hqv rfl h1 dg (fun H1 locs1 hP1 hD1 hS1 => kk H1 locs1 lsA ?_ hS1 hl)
  refine Rep.set hg0 hL hD (by rw [ht]; decide) hq0 (fun b => rfl) ?_ (fun b hb => pR_ne b hb) hP1 hD1
  rw [mE_9 (M := pR M a _ v) ht]
  have e9 : (fun j => ro (mR (pR M a i.toNatClampNeg v) a j)) = va_up (fun j => ro (mR M a j)) i.toNatClampNeg (some v) := by
    funext j
    by_cases h : j = i.toNatClampNeg
    · subst h; simp [mR, pR, up2, va_up, ro, hvne]
    · simp [mR, pR, up2, va_up, h]
  rw [e9]; rfl
theorem J_aast10 {G : Gt} {γ : Γt} {own : String} {cc : ByteArray} {ret : Option FieldType} {M : Mm} {pc : Nat} {ls : List (Option Value)} {st : List Value} {k n d mc ms : Nat} {Qr : Option Value → Mm → Prop} {Qx : String → Mm → Prop} {lh : Launch} {nL : Nat} {nm : String} {a j v : Nat} {i : Int32} (hC : Cok G γ own cc ret d mc ms Qr Qx lh nL nm) (ht : (mT M a).1 = 10) (hv : (mT M v).1 = 2) (hi : i.toInt = (j : Int)) (hj : j < mL M a) (dg : decode cc pc = .ok (.aastore, 1)) (kk : J G γ (pR M a j v) (pc + 1) ls st k n) : J G γ M pc ls (rv v :: .int i :: rv a :: st) k n := by
  obtain ⟨p, l, e, R, s, m, args, below, meth, c, Qr1, Qx1, mc1, ms1, nL1⟩ := γ
  obtain ⟨hx, hb, hr, hml, hown, hts, hlk, hex, hG, hLow, hst, h0, rfl, rfl, rfl, rfl, rfl, rfl, rfl, hnm⟩ := hC
  intro H locs lsA hR hS hl
  rw [rv_pos (n := a) (hR.ne (a := a) (by rw [ht]; decide))]
  obtain ⟨hg0, L, hL, hP, hD⟩ := id hR
  obtain ⟨q, hq⟩ := va_pl_get (X := []) (f := mE G.2.1 M) ((hL a).mpr (by rw [ht]; decide))
  have hq0 : (va_pl L (mE G.2.1 M))[q]? = some (a, mE G.2.1 M a) := hq
  have hq : (va_pl L (mE G.2.1 M))[q]? = some (a, .inl (G.2.1 10, mL M a, .inr (.inr (.inr (.inr (fun j => ro (mR M a j))))))) := by rw [← mE_10 ht]; exact hq0
  have hvne := hR.ne (a := v) (by rw [hv]; decide)
  rw [rv_pos (n := v) hvne]
  obtain ⟨qv, hqv⟩ := va_pl_get (X := []) (f := mE G.2.1 M) ((hL v).mpr (by rw [hv]; decide))
  have hqv : (va_pl L (mE G.2.1 M))[qv]? = some (v, .inr (1, fs2 M v)) := by rw [← mE_2 hv]; exact hqv
  obtain ⟨h1, h2⟩ := ix_in hi hj
  subst h2
  refine va_astq hx hb hG.1 hP hD hS q 3 qv 1 hq rfl hqv rfl h1 dg (fun H1 locs1 hP1 hD1 hS1 => kk H1 locs1 lsA ?_ hS1 hl)
  refine Rep.set hg0 hL hD (by rw [ht]; decide) hq0 (fun b => rfl) ?_ (fun b hb => pR_ne b hb) hP1 hD1
  rw [mE_10 (M := pR M a _ v) ht]
  have e9 : (fun j => ro (mR (pR M a i.toNatClampNeg v) a j)) = va_up (fun j => ro (mR M a j)) i.toNatClampNeg (some v) := by
    funext j
    by_cases h : j = i.toNatClampNeg
    · subst h; simp [mR, pR, up2, va_up, ro, hvne]
    · simp [mR, pR, up2, va_up, h]
  rw [e9]; rfl
theorem J_aast11 {G : Gt} {γ : Γt} {own : String} {cc : ByteArray} {ret : Option FieldType} {M : Mm} {pc : Nat} {ls : List (Option Value)} {st : List Value} {k n d mc ms : Nat} {Qr : Option Value → Mm → Prop} {Qx : String → Mm → Prop} {lh : Launch} {nL : Nat} {nm : String} {a j v : Nat} {i : Int32} (hC : Cok G γ own cc ret d mc ms Qr Qx lh nL nm) (ht : (mT M a).1 = 11) (hv : (mT M v).1 = 1) (hi : i.toInt = (j : Int)) (hj : j < mL M a) (dg : decode cc pc = .ok (.aastore, 1)) (kk : J G γ (pR M a j v) (pc + 1) ls st k n) : J G γ M pc ls (rv v :: .int i :: rv a :: st) k n := by
  obtain ⟨p, l, e, R, s, m, args, below, meth, c, Qr1, Qx1, mc1, ms1, nL1⟩ := γ
  obtain ⟨hx, hb, hr, hml, hown, hts, hlk, hex, hG, hLow, hst, h0, rfl, rfl, rfl, rfl, rfl, rfl, rfl, hnm⟩ := hC
  intro H locs lsA hR hS hl
  rw [rv_pos (n := a) (hR.ne (a := a) (by rw [ht]; decide))]
  obtain ⟨hg0, L, hL, hP, hD⟩ := id hR
  obtain ⟨q, hq⟩ := va_pl_get (X := []) (f := mE G.2.1 M) ((hL a).mpr (by rw [ht]; decide))
  have hq0 : (va_pl L (mE G.2.1 M))[q]? = some (a, mE G.2.1 M a) := hq
  have hq : (va_pl L (mE G.2.1 M))[q]? = some (a, .inl (G.2.1 11, mL M a, .inr (.inr (.inr (.inr (fun j => ro (mR M a j))))))) := by rw [← mE_11 ht]; exact hq0
  have hvne := hR.ne (a := v) (by rw [hv]; decide)
  rw [rv_pos (n := v) hvne]
  obtain ⟨qv, hqv⟩ := va_pl_get (X := []) (f := mE G.2.1 M) ((hL v).mpr (by rw [hv]; decide))
  have hqv : (va_pl L (mE G.2.1 M))[qv]? = some (v, .inr (0, fs1 M v)) := by rw [← mE_1 hv]; exact hqv
  obtain ⟨h1, h2⟩ := ix_in hi hj
  subst h2
  refine va_astq hx hb hG.1 hP hD hS q 4 qv 0 hq rfl hqv rfl h1 dg (fun H1 locs1 hP1 hD1 hS1 => kk H1 locs1 lsA ?_ hS1 hl)
  refine Rep.set hg0 hL hD (by rw [ht]; decide) hq0 (fun b => rfl) ?_ (fun b hb => pR_ne b hb) hP1 hD1
  rw [mE_11 (M := pR M a _ v) ht]
  have e9 : (fun j => ro (mR (pR M a i.toNatClampNeg v) a j)) = va_up (fun j => ro (mR M a j)) i.toNatClampNeg (some v) := by
    funext j
    by_cases h : j = i.toNatClampNeg
    · subst h; simp [mR, pR, up2, va_up, ro, hvne]
    · simp [mR, pR, up2, va_up, h]
  rw [e9]; rfl
theorem fsnew1 (M : Mm) (q : Nat) (t : Nat × Nat) (n : Nat) : fs1 (nwM M q t n) q = [.int 0, .int 0, .int 0, .int 0, .int 0, .int 0, .int 0] := by simp [fs1, nwM, mI, mR, mJ, rv, ro, va_rf]
theorem J_new1 {G : Gt} {γ : Γt} {own : String} {cc : ByteArray} {ret : Option FieldType} {M : Mm} {pc : Nat} {ls : List (Option Value)} {st : List Value} {k n d mc ms : Nat} {Qr : Option Value → Mm → Prop} {Qx : String → Mm → Prop} {lh : Launch} {nL : Nat} {nm : String} {idx : Nat} (i : Nat) {k1 n1 : Nat} (hC : Cok G γ own cc ret d mc ms Qr Qx lh nL nm) (lc : Cond.classLink own idx RX0 ∈ AW) (li : Cond.instantiable RX0 7 ∈ AW) (lt : Cond.initialized RX0 ∈ AW) (hk : k + 1 = k1) (hn : n + 7 = n1) (hkc : k1 ≤ mc) (hnc : n1 ≤ ms) (dg : decode cc pc = .ok (.new idx, 3)) (kk : ∀ q, (mT M q).1 = 0 → q ≠ 0 → J G γ (nwM M q (1, i) 0) (pc + 3) ls (rv q :: st) k1 n1) : J G γ M pc ls st k n := by
  obtain ⟨p, l, e, R, s, m, args, below, meth, c, Qr1, Qx1, mc1, ms1, nL1⟩ := γ
  obtain ⟨hx, hb, hr, hml, hown, hts, hlk, hex, hG, hLow, hst, h0, rfl, rfl, rfl, rfl, rfl, rfl, rfl, hnm⟩ := hC
  subst hk; subst hn
  intro H locs lsA hR hS hl
  obtain ⟨hg0, L, hL, hP, hD⟩ := id hR
  refine va_new (C := RX0) (T := TX0) (N := 7) (fs := [.int 0, .int 0, .int 0, .int 0, .int 0, .int 0, .int 0]) (ci := 0) hx hb hts lay0 tyX0 tyX0_ok hown (hts _ lc) (hts _ li) (hts _ lt) hG.1 hP hD hS (fun q hq => Nat.le_trans hLow.1 hq) rfl (fun j hj => ?_) hkc hnc dg (fun q H1 hP1 hD1 hS1 => ?_)
  · match j, hj with
    | 0, _ => rfl
    | 1, _ => rfl
    | 2, _ => rfl
    | 3, _ => rfl
    | 4, _ => rfl
    | 5, _ => rfl
    | 6, _ => rfl
    | r + 7, h => exact absurd h (by omega)
  · have hf : q ∉ L := va_pl_fresh2 (X := []) hD1
    have hq0 : (mT M q).1 = 0 := by
      by_cases h : (mT M q).1 = 0
      · exact h
      · exact absurd ((hL q).mpr h) hf
    have hR1 : Rep G (nwM M q (1, i) 0) H1 := by
      refine Rep.push hg0 hL hf (by simp [mT, nwM, va_up_self]) (fun b hb => by simp [mT, nwM, va_up_ne _ _ hb]) ?_ (fun b hb => nwM_ne b hb) hP1 hD1
      rw [mE_1 (by simp [mT, nwM, va_up_self]), fsnew1]
    have hqn : q ≠ 0 := hR1.ne (by simp [mT, nwM, va_up_self])
    have k2 := kk q hq0 hqn H1 locs lsA hR1 hS1 hl
    rw [rv_pos hqn] at k2
    exact k2
theorem fsnew2 (M : Mm) (q : Nat) (t : Nat × Nat) (n : Nat) : fs2 (nwM M q t n) q = [.int 0, .null, .int 0, .int 0] := by simp [fs2, nwM, mI, mR, mJ, rv, ro, va_rf]
theorem J_new2 {G : Gt} {γ : Γt} {own : String} {cc : ByteArray} {ret : Option FieldType} {M : Mm} {pc : Nat} {ls : List (Option Value)} {st : List Value} {k n d mc ms : Nat} {Qr : Option Value → Mm → Prop} {Qx : String → Mm → Prop} {lh : Launch} {nL : Nat} {nm : String} {idx : Nat} (i : Nat) {k1 n1 : Nat} (hC : Cok G γ own cc ret d mc ms Qr Qx lh nL nm) (lc : Cond.classLink own idx RX1 ∈ AW) (li : Cond.instantiable RX1 4 ∈ AW) (lt : Cond.initialized RX1 ∈ AW) (hk : k + 1 = k1) (hn : n + 4 = n1) (hkc : k1 ≤ mc) (hnc : n1 ≤ ms) (dg : decode cc pc = .ok (.new idx, 3)) (kk : ∀ q, (mT M q).1 = 0 → q ≠ 0 → J G γ (nwM M q (2, i) 0) (pc + 3) ls (rv q :: st) k1 n1) : J G γ M pc ls st k n := by
  obtain ⟨p, l, e, R, s, m, args, below, meth, c, Qr1, Qx1, mc1, ms1, nL1⟩ := γ
  obtain ⟨hx, hb, hr, hml, hown, hts, hlk, hex, hG, hLow, hst, h0, rfl, rfl, rfl, rfl, rfl, rfl, rfl, hnm⟩ := hC
  subst hk; subst hn
  intro H locs lsA hR hS hl
  obtain ⟨hg0, L, hL, hP, hD⟩ := id hR
  refine va_new (C := RX1) (T := TX1) (N := 4) (fs := [.int 0, .null, .int 0, .int 0]) (ci := 1) hx hb hts lay1 tyX1 tyX1_ok hown (hts _ lc) (hts _ li) (hts _ lt) hG.1 hP hD hS (fun q hq => Nat.le_trans hLow.1 hq) rfl (fun j hj => ?_) hkc hnc dg (fun q H1 hP1 hD1 hS1 => ?_)
  · match j, hj with
    | 0, _ => rfl
    | 1, _ => rfl
    | 2, _ => rfl
    | 3, _ => rfl
    | r + 4, h => exact absurd h (by omega)
  · have hf : q ∉ L := va_pl_fresh2 (X := []) hD1
    have hq0 : (mT M q).1 = 0 := by
      by_cases h : (mT M q).1 = 0
      · exact h
      · exact absurd ((hL q).mpr h) hf
    have hR1 : Rep G (nwM M q (2, i) 0) H1 := by
      refine Rep.push hg0 hL hf (by simp [mT, nwM, va_up_self]) (fun b hb => by simp [mT, nwM, va_up_ne _ _ hb]) ?_ (fun b hb => nwM_ne b hb) hP1 hD1
      rw [mE_2 (by simp [mT, nwM, va_up_self]), fsnew2]
    have hqn : q ≠ 0 := hR1.ne (by simp [mT, nwM, va_up_self])
    have k2 := kk q hq0 hqn H1 locs lsA hR1 hS1 hl
    rw [rv_pos hqn] at k2
    exact k2
theorem fsnew3 (M : Mm) (q : Nat) (t : Nat × Nat) (n : Nat) : fs3 (nwM M q t n) q = [.null, .null, .int 0] := by simp [fs3, nwM, mI, mR, mJ, rv, ro, va_rf]
theorem J_new3 {G : Gt} {γ : Γt} {own : String} {cc : ByteArray} {ret : Option FieldType} {M : Mm} {pc : Nat} {ls : List (Option Value)} {st : List Value} {k n d mc ms : Nat} {Qr : Option Value → Mm → Prop} {Qx : String → Mm → Prop} {lh : Launch} {nL : Nat} {nm : String} {idx : Nat} (i : Nat) {k1 n1 : Nat} (hC : Cok G γ own cc ret d mc ms Qr Qx lh nL nm) (lc : Cond.classLink own idx RX2 ∈ AW) (li : Cond.instantiable RX2 3 ∈ AW) (lt : Cond.initialized RX2 ∈ AW) (hk : k + 1 = k1) (hn : n + 3 = n1) (hkc : k1 ≤ mc) (hnc : n1 ≤ ms) (dg : decode cc pc = .ok (.new idx, 3)) (kk : ∀ q, (mT M q).1 = 0 → q ≠ 0 → J G γ (nwM M q (3, i) 0) (pc + 3) ls (rv q :: st) k1 n1) : J G γ M pc ls st k n := by
  obtain ⟨p, l, e, R, s, m, args, below, meth, c, Qr1, Qx1, mc1, ms1, nL1⟩ := γ
  obtain ⟨hx, hb, hr, hml, hown, hts, hlk, hex, hG, hLow, hst, h0, rfl, rfl, rfl, rfl, rfl, rfl, rfl, hnm⟩ := hC
  subst hk; subst hn
  intro H locs lsA hR hS hl
  obtain ⟨hg0, L, hL, hP, hD⟩ := id hR
  refine va_new (C := RX2) (T := TX2) (N := 3) (fs := [.null, .null, .int 0]) (ci := 2) hx hb hts lay2 tyX2 tyX2_ok hown (hts _ lc) (hts _ li) (hts _ lt) hG.1 hP hD hS (fun q hq => Nat.le_trans hLow.1 hq) rfl (fun j hj => ?_) hkc hnc dg (fun q H1 hP1 hD1 hS1 => ?_)
  · match j, hj with
    | 0, _ => rfl
    | 1, _ => rfl
    | 2, _ => rfl
    | r + 3, h => exact absurd h (by omega)
  · have hf : q ∉ L := va_pl_fresh2 (X := []) hD1
    have hq0 : (mT M q).1 = 0 := by
      by_cases h : (mT M q).1 = 0
      · exact h
      · exact absurd ((hL q).mpr h) hf
    have hR1 : Rep G (nwM M q (3, i) 0) H1 := by
      refine Rep.push hg0 hL hf (by simp [mT, nwM, va_up_self]) (fun b hb => by simp [mT, nwM, va_up_ne _ _ hb]) ?_ (fun b hb => nwM_ne b hb) hP1 hD1
      rw [mE_3 (by simp [mT, nwM, va_up_self]), fsnew3]
    have hqn : q ≠ 0 := hR1.ne (by simp [mT, nwM, va_up_self])
    have k2 := kk q hq0 hqn H1 locs lsA hR1 hS1 hl
    rw [rv_pos hqn] at k2
    exact k2
theorem fsnew4 (M : Mm) (q : Nat) (t : Nat × Nat) (n : Nat) : fs4 (nwM M q t n) q = [.int 0, .int 0, .null, .null, .null, .null, .int 0, .int 0] := by simp [fs4, nwM, mI, mR, mJ, rv, ro, va_rf]
theorem J_new4 {G : Gt} {γ : Γt} {own : String} {cc : ByteArray} {ret : Option FieldType} {M : Mm} {pc : Nat} {ls : List (Option Value)} {st : List Value} {k n d mc ms : Nat} {Qr : Option Value → Mm → Prop} {Qx : String → Mm → Prop} {lh : Launch} {nL : Nat} {nm : String} {idx : Nat} (i : Nat) {k1 n1 : Nat} (hC : Cok G γ own cc ret d mc ms Qr Qx lh nL nm) (lc : Cond.classLink own idx RX3 ∈ AW) (li : Cond.instantiable RX3 8 ∈ AW) (lt : Cond.initialized RX3 ∈ AW) (hk : k + 1 = k1) (hn : n + 8 = n1) (hkc : k1 ≤ mc) (hnc : n1 ≤ ms) (dg : decode cc pc = .ok (.new idx, 3)) (kk : ∀ q, (mT M q).1 = 0 → q ≠ 0 → J G γ (nwM M q (4, i) 0) (pc + 3) ls (rv q :: st) k1 n1) : J G γ M pc ls st k n := by
  obtain ⟨p, l, e, R, s, m, args, below, meth, c, Qr1, Qx1, mc1, ms1, nL1⟩ := γ
  obtain ⟨hx, hb, hr, hml, hown, hts, hlk, hex, hG, hLow, hst, h0, rfl, rfl, rfl, rfl, rfl, rfl, rfl, hnm⟩ := hC
  subst hk; subst hn
  intro H locs lsA hR hS hl
  obtain ⟨hg0, L, hL, hP, hD⟩ := id hR
  refine va_new (C := RX3) (T := TX3) (N := 8) (fs := [.int 0, .int 0, .null, .null, .null, .null, .int 0, .int 0]) (ci := 3) hx hb hts lay3 tyX3 tyX3_ok hown (hts _ lc) (hts _ li) (hts _ lt) hG.1 hP hD hS (fun q hq => Nat.le_trans hLow.1 hq) rfl (fun j hj => ?_) hkc hnc dg (fun q H1 hP1 hD1 hS1 => ?_)
  · match j, hj with
    | 0, _ => rfl
    | 1, _ => rfl
    | 2, _ => rfl
    | 3, _ => rfl
    | 4, _ => rfl
    | 5, _ => rfl
    | 6, _ => rfl
    | 7, _ => rfl
    | r + 8, h => exact absurd h (by omega)
  · have hf : q ∉ L := va_pl_fresh2 (X := []) hD1
    have hq0 : (mT M q).1 = 0 := by
      by_cases h : (mT M q).1 = 0
      · exact h
      · exact absurd ((hL q).mpr h) hf
    have hR1 : Rep G (nwM M q (4, i) 0) H1 := by
      refine Rep.push hg0 hL hf (by simp [mT, nwM, va_up_self]) (fun b hb => by simp [mT, nwM, va_up_ne _ _ hb]) ?_ (fun b hb => nwM_ne b hb) hP1 hD1
      rw [mE_4 (by simp [mT, nwM, va_up_self]), fsnew4]
    have hqn : q ≠ 0 := hR1.ne (by simp [mT, nwM, va_up_self])
    have k2 := kk q hq0 hqn H1 locs lsA hR1 hS1 hl
    rw [rv_pos hqn] at k2
    exact k2
theorem fsnew5 (M : Mm) (q : Nat) (t : Nat × Nat) (n : Nat) : fs5 (nwM M q t n) q = [.null, .null, .null, .null, .null, .null, .int 0, .int 0, .int 0, .int 0, .int 0, .long 0] := by simp [fs5, nwM, mI, mR, mJ, rv, ro, va_rf]
theorem J_new5 {G : Gt} {γ : Γt} {own : String} {cc : ByteArray} {ret : Option FieldType} {M : Mm} {pc : Nat} {ls : List (Option Value)} {st : List Value} {k n d mc ms : Nat} {Qr : Option Value → Mm → Prop} {Qx : String → Mm → Prop} {lh : Launch} {nL : Nat} {nm : String} {idx : Nat} (i : Nat) {k1 n1 : Nat} (hC : Cok G γ own cc ret d mc ms Qr Qx lh nL nm) (lc : Cond.classLink own idx RX4 ∈ AW) (li : Cond.instantiable RX4 12 ∈ AW) (lt : Cond.initialized RX4 ∈ AW) (hk : k + 1 = k1) (hn : n + 12 = n1) (hkc : k1 ≤ mc) (hnc : n1 ≤ ms) (dg : decode cc pc = .ok (.new idx, 3)) (kk : ∀ q, (mT M q).1 = 0 → q ≠ 0 → J G γ (nwM M q (5, i) 0) (pc + 3) ls (rv q :: st) k1 n1) : J G γ M pc ls st k n := by
  obtain ⟨p, l, e, R, s, m, args, below, meth, c, Qr1, Qx1, mc1, ms1, nL1⟩ := γ
  obtain ⟨hx, hb, hr, hml, hown, hts, hlk, hex, hG, hLow, hst, h0, rfl, rfl, rfl, rfl, rfl, rfl, rfl, hnm⟩ := hC
  subst hk; subst hn
  intro H locs lsA hR hS hl
  obtain ⟨hg0, L, hL, hP, hD⟩ := id hR
  refine va_new (C := RX4) (T := TX4) (N := 12) (fs := [.null, .null, .null, .null, .null, .null, .int 0, .int 0, .int 0, .int 0, .int 0, .long 0]) (ci := 4) hx hb hts lay4 tyX4 tyX4_ok hown (hts _ lc) (hts _ li) (hts _ lt) hG.1 hP hD hS (fun q hq => Nat.le_trans hLow.1 hq) rfl (fun j hj => ?_) hkc hnc dg (fun q H1 hP1 hD1 hS1 => ?_)
  · match j, hj with
    | 0, _ => rfl
    | 1, _ => rfl
    | 2, _ => rfl
    | 3, _ => rfl
    | 4, _ => rfl
    | 5, _ => rfl
    | 6, _ => rfl
    | 7, _ => rfl
    | 8, _ => rfl
    | 9, _ => rfl
    | 10, _ => rfl
    | 11, _ => rfl
    | r + 12, h => exact absurd h (by omega)
  · have hf : q ∉ L := va_pl_fresh2 (X := []) hD1
    have hq0 : (mT M q).1 = 0 := by
      by_cases h : (mT M q).1 = 0
      · exact h
      · exact absurd ((hL q).mpr h) hf
    have hR1 : Rep G (nwM M q (5, i) 0) H1 := by
      refine Rep.push hg0 hL hf (by simp [mT, nwM, va_up_self]) (fun b hb => by simp [mT, nwM, va_up_ne _ _ hb]) ?_ (fun b hb => nwM_ne b hb) hP1 hD1
      rw [mE_5 (by simp [mT, nwM, va_up_self]), fsnew5]
    have hqn : q ≠ 0 := hR1.ne (by simp [mT, nwM, va_up_self])
    have k2 := kk q hq0 hqn H1 locs lsA hR1 hS1 hl
    rw [rv_pos hqn] at k2
    exact k2
theorem fsnew6 (M : Mm) (q : Nat) (t : Nat × Nat) (n : Nat) : fs6 (nwM M q t n) q = [.int 0, .int 0, .int 0, .int 0, .int 0, .int 0, .int 0, .int 0, .int 0, .long 0, .null, .null, .null, .null, .null, .null, .null, .null, .null, .null, .null, .null, .null, .null, .null, .null, .null, .null, .null, .null, .null, .null, .null] := by simp [fs6, nwM, mI, mR, mJ, rv, ro, va_rf]
theorem J_new6 {G : Gt} {γ : Γt} {own : String} {cc : ByteArray} {ret : Option FieldType} {M : Mm} {pc : Nat} {ls : List (Option Value)} {st : List Value} {k n d mc ms : Nat} {Qr : Option Value → Mm → Prop} {Qx : String → Mm → Prop} {lh : Launch} {nL : Nat} {nm : String} {idx : Nat} (i : Nat) {k1 n1 : Nat} (hC : Cok G γ own cc ret d mc ms Qr Qx lh nL nm) (lc : Cond.classLink own idx RX5 ∈ AW) (li : Cond.instantiable RX5 33 ∈ AW) (lt : Cond.initialized RX5 ∈ AW) (hk : k + 1 = k1) (hn : n + 33 = n1) (hkc : k1 ≤ mc) (hnc : n1 ≤ ms) (dg : decode cc pc = .ok (.new idx, 3)) (kk : ∀ q, (mT M q).1 = 0 → q ≠ 0 → J G γ (nwM M q (6, i) 0) (pc + 3) ls (rv q :: st) k1 n1) : J G γ M pc ls st k n := by
  obtain ⟨p, l, e, R, s, m, args, below, meth, c, Qr1, Qx1, mc1, ms1, nL1⟩ := γ
  obtain ⟨hx, hb, hr, hml, hown, hts, hlk, hex, hG, hLow, hst, h0, rfl, rfl, rfl, rfl, rfl, rfl, rfl, hnm⟩ := hC
  subst hk; subst hn
  intro H locs lsA hR hS hl
  obtain ⟨hg0, L, hL, hP, hD⟩ := id hR
  refine va_new (C := RX5) (T := TX5) (N := 33) (fs := [.int 0, .int 0, .int 0, .int 0, .int 0, .int 0, .int 0, .int 0, .int 0, .long 0, .null, .null, .null, .null, .null, .null, .null, .null, .null, .null, .null, .null, .null, .null, .null, .null, .null, .null, .null, .null, .null, .null, .null]) (ci := 5) hx hb hts lay5 tyX5 tyX5_ok hown (hts _ lc) (hts _ li) (hts _ lt) hG.1 hP hD hS (fun q hq => Nat.le_trans hLow.1 hq) rfl (fun j hj => ?_) hkc hnc dg (fun q H1 hP1 hD1 hS1 => ?_)
  · match j, hj with
    | 0, _ => rfl
    | 1, _ => rfl
    | 2, _ => rfl
    | 3, _ => rfl
    | 4, _ => rfl
    | 5, _ => rfl
    | 6, _ => rfl
    | 7, _ => rfl
    | 8, _ => rfl
    | 9, _ => rfl
    | 10, _ => rfl
    | 11, _ => rfl
    | 12, _ => rfl
    | 13, _ => rfl
    | 14, _ => rfl
    | 15, _ => rfl
    | 16, _ => rfl
    | 17, _ => rfl
    | 18, _ => rfl
    | 19, _ => rfl
    | 20, _ => rfl
    | 21, _ => rfl
    | 22, _ => rfl
    | 23, _ => rfl
    | 24, _ => rfl
    | 25, _ => rfl
    | 26, _ => rfl
    | 27, _ => rfl
    | 28, _ => rfl
    | 29, _ => rfl
    | 30, _ => rfl
    | 31, _ => rfl
    | 32, _ => rfl
    | r + 33, h => exact absurd h (by omega)
  · have hf : q ∉ L := va_pl_fresh2 (X := []) hD1
    have hq0 : (mT M q).1 = 0 := by
      by_cases h : (mT M q).1 = 0
      · exact h
      · exact absurd ((hL q).mpr h) hf
    have hR1 : Rep G (nwM M q (6, i) 0) H1 := by
      refine Rep.push hg0 hL hf (by simp [mT, nwM, va_up_self]) (fun b hb => by simp [mT, nwM, va_up_ne _ _ hb]) ?_ (fun b hb => nwM_ne b hb) hP1 hD1
      rw [mE_6 (by simp [mT, nwM, va_up_self]), fsnew6]
    have hqn : q ≠ 0 := hR1.ne (by simp [mT, nwM, va_up_self])
    have k2 := kk q hq0 hqn H1 locs lsA hR1 hS1 hl
    rw [rv_pos hqn] at k2
    exact k2
theorem J_newI {G : Gt} {γ : Γt} {own : String} {cc : ByteArray} {ret : Option FieldType} {M : Mm} {pc : Nat} {ls : List (Option Value)} {st : List Value} {k n d mc ms : Nat} {Qr : Option Value → Mm → Prop} {Qx : String → Mm → Prop} {lh : Launch} {nL : Nat} {nm : String} {v : Int32} {N : Nat} (i : Nat) {k1 n1 : Nat} (hC : Cok G γ own cc ret d mc ms Qr Qx lh nL nm) (la : Cond.arrayClass .int ∈ AW) (hv : v.toInt = (N : Int)) (hN : N ≤ 10000) (hk : k + 1 = k1) (hn : n + N = n1) (hkc : k1 ≤ mc) (hnc : n1 ≤ ms) (dg : decode cc pc = .ok (.newarray .int, 2)) (kk : ∀ q, (mT M q).1 = 0 → q ≠ 0 → J G γ (nwM M q (7, i) N) (pc + 2) ls (rv q :: st) k1 n1) : J G γ M pc ls (.int v :: st) k n := by
  obtain ⟨p, l, e, R, s, m, args, below, meth, c, Qr1, Qx1, mc1, ms1, nL1⟩ := γ
  obtain ⟨hx, hb, hr, hml, hown, hts, hlk, hex, hG, hLow, hst, h0, rfl, rfl, rfl, rfl, rfl, rfl, rfl, hnm⟩ := hC
  subst hk; subst hn
  intro H locs lsA hR hS hl
  obtain ⟨hg0, L, hL, hP, hD⟩ := id hR
  have hN9 : v.toNatClampNeg = N := by rw [Int32.toNatClampNeg]; omega
  refine va_newa (atype := .int) (ty := .int) (N' := N) (a0 := (N, .inl (fun _ => 0))) hx hb (hts _ la) rfl hG.1 hP hD hS (fun q hq => Nat.le_trans hLow.1 hq) (fun cA => rfl) (by rw [Int32.lt_iff_toInt_lt, hv]; exact Int.not_lt.mpr (Int.natCast_nonneg N)) hN9 (by show N * 4 ≤ _; omega) hkc hnc dg (fun q cA H1 hK1 hP1 hD1 hS1 => ?_)
  have hcA : cA = G.2.1 7 := by
    have e1 := (hK1.2 7 (cA, .int) rfl).2
    have e2 := (hG.1.2 0 (G.2.1 7, .int) rfl).2
    exact Option.some.inj (e1.symm.trans e2)
  subst hcA
  have hf : q ∉ L := va_pl_fresh2 (X := []) hD1
  have hq0 : (mT M q).1 = 0 := by
    by_cases h : (mT M q).1 = 0
    · exact h
    · exact absurd ((hL q).mpr h) hf
  have hR1 : Rep G (nwM M q (7, i) N) H1 := by
    refine Rep.push hg0 hL hf (by simp [mT, nwM, va_up_self]) (fun b hb => by simp [mT, nwM, va_up_ne _ _ hb]) ?_ (fun b hb => nwM_ne b hb) hP1 hD1
    rw [mE_7 (by simp [mT, nwM, va_up_self])]
    have e9 : mI (nwM M q (7, i) N) q = fun _ => 0 := by funext j; simp [mI, nwM]
    have e8 : mL (nwM M q (7, i) N) q = N := by simp [mL, nwM, va_up_self]
    rw [e9, e8]
  have hqn : q ≠ 0 := hR1.ne (by simp [mT, nwM, va_up_self])
  have k2 := kk q hq0 hqn H1 locs lsA hR1 hS1 hl
  rw [rv_pos hqn] at k2
  exact k2
theorem J_newZ {G : Gt} {γ : Γt} {own : String} {cc : ByteArray} {ret : Option FieldType} {M : Mm} {pc : Nat} {ls : List (Option Value)} {st : List Value} {k n d mc ms : Nat} {Qr : Option Value → Mm → Prop} {Qx : String → Mm → Prop} {lh : Launch} {nL : Nat} {nm : String} {v : Int32} {N : Nat} (i : Nat) {k1 n1 : Nat} (hC : Cok G γ own cc ret d mc ms Qr Qx lh nL nm) (la : Cond.arrayClass .boolean ∈ AW) (hv : v.toInt = (N : Int)) (hN : N ≤ 10000) (hk : k + 1 = k1) (hn : n + N = n1) (hkc : k1 ≤ mc) (hnc : n1 ≤ ms) (dg : decode cc pc = .ok (.newarray .boolean, 2)) (kk : ∀ q, (mT M q).1 = 0 → q ≠ 0 → J G γ (nwM M q (8, i) N) (pc + 2) ls (rv q :: st) k1 n1) : J G γ M pc ls (.int v :: st) k n := by
  obtain ⟨p, l, e, R, s, m, args, below, meth, c, Qr1, Qx1, mc1, ms1, nL1⟩ := γ
  obtain ⟨hx, hb, hr, hml, hown, hts, hlk, hex, hG, hLow, hst, h0, rfl, rfl, rfl, rfl, rfl, rfl, rfl, hnm⟩ := hC
  subst hk; subst hn
  intro H locs lsA hR hS hl
  obtain ⟨hg0, L, hL, hP, hD⟩ := id hR
  have hN9 : v.toNatClampNeg = N := by rw [Int32.toNatClampNeg]; omega
  refine va_newa (atype := .boolean) (ty := .boolean) (N' := N) (a0 := (N, .inl (fun _ => 0))) hx hb (hts _ la) rfl hG.1 hP hD hS (fun q hq => Nat.le_trans hLow.1 hq) (fun cA => rfl) (by rw [Int32.lt_iff_toInt_lt, hv]; exact Int.not_lt.mpr (Int.natCast_nonneg N)) hN9 (by show N * 1 ≤ _; omega) hkc hnc dg (fun q cA H1 hK1 hP1 hD1 hS1 => ?_)
  have hcA : cA = G.2.1 8 := by
    have e1 := (hK1.2 7 (cA, .boolean) rfl).2
    have e2 := (hG.1.2 1 (G.2.1 8, .boolean) rfl).2
    exact Option.some.inj (e1.symm.trans e2)
  subst hcA
  have hf : q ∉ L := va_pl_fresh2 (X := []) hD1
  have hq0 : (mT M q).1 = 0 := by
    by_cases h : (mT M q).1 = 0
    · exact h
    · exact absurd ((hL q).mpr h) hf
  have hR1 : Rep G (nwM M q (8, i) N) H1 := by
    refine Rep.push hg0 hL hf (by simp [mT, nwM, va_up_self]) (fun b hb => by simp [mT, nwM, va_up_ne _ _ hb]) ?_ (fun b hb => nwM_ne b hb) hP1 hD1
    rw [mE_8 (by simp [mT, nwM, va_up_self])]
    have e9 : mI (nwM M q (8, i) N) q = fun _ => 0 := by funext j; simp [mI, nwM]
    have e8 : mL (nwM M q (8, i) N) q = N := by simp [mL, nwM, va_up_self]
    rw [e9, e8]
  have hqn : q ≠ 0 := hR1.ne (by simp [mT, nwM, va_up_self])
  have k2 := kk q hq0 hqn H1 locs lsA hR1 hS1 hl
  rw [rv_pos hqn] at k2
  exact k2
theorem J_newJ {G : Gt} {γ : Γt} {own : String} {cc : ByteArray} {ret : Option FieldType} {M : Mm} {pc : Nat} {ls : List (Option Value)} {st : List Value} {k n d mc ms : Nat} {Qr : Option Value → Mm → Prop} {Qx : String → Mm → Prop} {lh : Launch} {nL : Nat} {nm : String} {v : Int32} {N : Nat} (i : Nat) {k1 n1 : Nat} (hC : Cok G γ own cc ret d mc ms Qr Qx lh nL nm) (la : Cond.arrayClass .long ∈ AW) (hv : v.toInt = (N : Int)) (hN : N ≤ 10000) (hk : k + 1 = k1) (hn : n + N = n1) (hkc : k1 ≤ mc) (hnc : n1 ≤ ms) (dg : decode cc pc = .ok (.newarray .long, 2)) (kk : ∀ q, (mT M q).1 = 0 → q ≠ 0 → J G γ (nwM M q (12, i) N) (pc + 2) ls (rv q :: st) k1 n1) : J G γ M pc ls (.int v :: st) k n := by
  obtain ⟨p, l, e, R, s, m, args, below, meth, c, Qr1, Qx1, mc1, ms1, nL1⟩ := γ
  obtain ⟨hx, hb, hr, hml, hown, hts, hlk, hex, hG, hLow, hst, h0, rfl, rfl, rfl, rfl, rfl, rfl, rfl, hnm⟩ := hC
  subst hk; subst hn
  intro H locs lsA hR hS hl
  obtain ⟨hg0, L, hL, hP, hD⟩ := id hR
  have hN9 : v.toNatClampNeg = N := by rw [Int32.toNatClampNeg]; omega
  refine va_newa (atype := .long) (ty := .long) (N' := N) (a0 := (N, .inr (.inl (fun _ => 0)))) hx hb (hts _ la) rfl hG.1 hP hD hS (fun q hq => Nat.le_trans hLow.1 hq) (fun cA => rfl) (by rw [Int32.lt_iff_toInt_lt, hv]; exact Int.not_lt.mpr (Int.natCast_nonneg N)) hN9 (by show N * 8 ≤ _; omega) hkc hnc dg (fun q cA H1 hK1 hP1 hD1 hS1 => ?_)
  have hcA : cA = G.2.1 12 := by
    have e1 := (hK1.2 7 (cA, .long) rfl).2
    have e2 := (hG.1.2 5 (G.2.1 12, .long) rfl).2
    exact Option.some.inj (e1.symm.trans e2)
  subst hcA
  have hf : q ∉ L := va_pl_fresh2 (X := []) hD1
  have hq0 : (mT M q).1 = 0 := by
    by_cases h : (mT M q).1 = 0
    · exact h
    · exact absurd ((hL q).mpr h) hf
  have hR1 : Rep G (nwM M q (12, i) N) H1 := by
    refine Rep.push hg0 hL hf (by simp [mT, nwM, va_up_self]) (fun b hb => by simp [mT, nwM, va_up_ne _ _ hb]) ?_ (fun b hb => nwM_ne b hb) hP1 hD1
    rw [mE_12 (by simp [mT, nwM, va_up_self])]
    have e9 : mJ (nwM M q (12, i) N) q = fun _ => 0 := by funext j; simp [mJ, nwM]
    have e8 : mL (nwM M q (12, i) N) q = N := by simp [mL, nwM, va_up_self]
    rw [e9, e8]
  have hqn : q ≠ 0 := hR1.ne (by simp [mT, nwM, va_up_self])
  have k2 := kk q hq0 hqn H1 locs lsA hR1 hS1 hl
  rw [rv_pos hqn] at k2
  exact k2
theorem J_newD {G : Gt} {γ : Γt} {own : String} {cc : ByteArray} {ret : Option FieldType} {M : Mm} {pc : Nat} {ls : List (Option Value)} {st : List Value} {k n d mc ms : Nat} {Qr : Option Value → Mm → Prop} {Qx : String → Mm → Prop} {lh : Launch} {nL : Nat} {nm : String} {v : Int32} {N : Nat} (i : Nat) {k1 n1 : Nat} (hC : Cok G γ own cc ret d mc ms Qr Qx lh nL nm) (la : Cond.arrayClass .double ∈ AW) (hv : v.toInt = (N : Int)) (hN : N ≤ 10000) (hk : k + 1 = k1) (hn : n + N = n1) (hkc : k1 ≤ mc) (hnc : n1 ≤ ms) (dg : decode cc pc = .ok (.newarray .double, 2)) (kk : ∀ q, (mT M q).1 = 0 → q ≠ 0 → J G γ (nwM M q (13, i) N) (pc + 2) ls (rv q :: st) k1 n1) : J G γ M pc ls (.int v :: st) k n := by
  obtain ⟨p, l, e, R, s, m, args, below, meth, c, Qr1, Qx1, mc1, ms1, nL1⟩ := γ
  obtain ⟨hx, hb, hr, hml, hown, hts, hlk, hex, hG, hLow, hst, h0, rfl, rfl, rfl, rfl, rfl, rfl, rfl, hnm⟩ := hC
  subst hk; subst hn
  intro H locs lsA hR hS hl
  obtain ⟨hg0, L, hL, hP, hD⟩ := id hR
  have hN9 : v.toNatClampNeg = N := by rw [Int32.toNatClampNeg]; omega
  refine va_newa (atype := .double) (ty := .double) (N' := N) (a0 := (N, .inr (.inr (.inr (.inl (fun _ => 0)))))) hx hb (hts _ la) rfl hG.1 hP hD hS (fun q hq => Nat.le_trans hLow.1 hq) (fun cA => rfl) (by rw [Int32.lt_iff_toInt_lt, hv]; exact Int.not_lt.mpr (Int.natCast_nonneg N)) hN9 (by show N * 8 ≤ _; omega) hkc hnc dg (fun q cA H1 hK1 hP1 hD1 hS1 => ?_)
  have hcA : cA = G.2.1 13 := by
    have e1 := (hK1.2 7 (cA, .double) rfl).2
    have e2 := (hG.1.2 6 (G.2.1 13, .double) rfl).2
    exact Option.some.inj (e1.symm.trans e2)
  subst hcA
  have hf : q ∉ L := va_pl_fresh2 (X := []) hD1
  have hq0 : (mT M q).1 = 0 := by
    by_cases h : (mT M q).1 = 0
    · exact h
    · exact absurd ((hL q).mpr h) hf
  have hR1 : Rep G (nwM M q (13, i) N) H1 := by
    refine Rep.push hg0 hL hf (by simp [mT, nwM, va_up_self]) (fun b hb => by simp [mT, nwM, va_up_ne _ _ hb]) ?_ (fun b hb => nwM_ne b hb) hP1 hD1
    rw [mE_13 (by simp [mT, nwM, va_up_self])]
    have e9 : mD (nwM M q (13, i) N) q = fun _ => 0 := by funext j; simp [mD, nwM]
    have e8 : mL (nwM M q (13, i) N) q = N := by simp [mL, nwM, va_up_self]
    rw [e9, e8]
  have hqn : q ≠ 0 := hR1.ne (by simp [mT, nwM, va_up_self])
  have k2 := kk q hq0 hqn H1 locs lsA hR1 hS1 hl
  rw [rv_pos hqn] at k2
  exact k2
theorem J_newA9 {G : Gt} {γ : Γt} {own : String} {cc : ByteArray} {ret : Option FieldType} {M : Mm} {pc : Nat} {ls : List (Option Value)} {st : List Value} {k n d mc ms : Nat} {Qr : Option Value → Mm → Prop} {Qx : String → Mm → Prop} {lh : Launch} {nL : Nat} {nm : String} {v : Int32} {N idx : Nat} (i : Nat) {k1 n1 : Nat} (hC : Cok G γ own cc ret d mc ms Qr Qx lh nL nm) (lc : Cond.classLink own idx RX3 ∈ AW) (hv : v.toInt = (N : Int)) (hN : N ≤ 10000) (hk : k + 1 = k1) (hn : n + N = n1) (hkc : k1 ≤ mc) (hnc : n1 ≤ ms) (dg : decode cc pc = .ok (.anewarray idx, 3)) (kk : ∀ q, (mT M q).1 = 0 → q ≠ 0 → J G γ (nwM M q (9, i) N) (pc + 3) ls (rv q :: st) k1 n1) : J G γ M pc ls (.int v :: st) k n := by
  obtain ⟨p, l, e, R, s, m, args, below, meth, c, Qr1, Qx1, mc1, ms1, nL1⟩ := γ
  obtain ⟨hx, hb, hr, hml, hown, hts, hlk, hex, hG, hLow, hst, h0, rfl, rfl, rfl, rfl, rfl, rfl, rfl, hnm⟩ := hC
  subst hk; subst hn
  intro H locs lsA hR hS hl
  obtain ⟨hg0, L, hL, hP, hD⟩ := id hR
  have hN9 : v.toNatClampNeg = N := by rw [Int32.toNatClampNeg]; omega
  refine va_newq (C := RX3) hx hb hown (hts _ lc) hG.2.2.2.2.2.1 hG.1 hP hD hS (fun q hq => Nat.le_trans hLow.1 hq) (by rw [Int32.lt_iff_toInt_lt, hv]; exact Int.not_lt.mpr (Int.natCast_nonneg N)) hN9 (by omega) hkc hnc dg (fun q cA H1 hK1 hP1 hD1 hS1 => ?_)
  have hcA : cA = G.2.1 9 := by
    obtain ⟨_, _, -, -, -, e1⟩ := (hK1.2 7 (cA, .object RX3) rfl).2
    obtain ⟨_, _, -, -, -, e2⟩ := (hG.1.2 2 (G.2.1 9, .object RX3) rfl).2
    exact Option.some.inj (e1.symm.trans e2)
  subst hcA
  have hf : q ∉ L := va_pl_fresh2 (X := []) hD1
  have hq0 : (mT M q).1 = 0 := by
    by_cases h : (mT M q).1 = 0
    · exact h
    · exact absurd ((hL q).mpr h) hf
  have hR1 : Rep G (nwM M q (9, i) N) H1 := by
    refine Rep.push hg0 hL hf (by simp [mT, nwM, va_up_self]) (fun b hb => by simp [mT, nwM, va_up_ne _ _ hb]) ?_ (fun b hb => nwM_ne b hb) hP1 hD1
    rw [mE_9 (by simp [mT, nwM, va_up_self])]
    have e9 : (fun j => ro (mR (nwM M q (9, i) N) q j)) = fun _ => none := by funext j; simp [mR, nwM, ro]
    have e8 : mL (nwM M q (9, i) N) q = N := by simp [mL, nwM, va_up_self]
    rw [e9, e8]
  have hqn : q ≠ 0 := hR1.ne (by simp [mT, nwM, va_up_self])
  have k2 := kk q hq0 hqn H1 locs lsA hR1 hS1 hl
  rw [rv_pos hqn] at k2
  exact k2
theorem J_newA10 {G : Gt} {γ : Γt} {own : String} {cc : ByteArray} {ret : Option FieldType} {M : Mm} {pc : Nat} {ls : List (Option Value)} {st : List Value} {k n d mc ms : Nat} {Qr : Option Value → Mm → Prop} {Qx : String → Mm → Prop} {lh : Launch} {nL : Nat} {nm : String} {v : Int32} {N idx : Nat} (i : Nat) {k1 n1 : Nat} (hC : Cok G γ own cc ret d mc ms Qr Qx lh nL nm) (lc : Cond.classLink own idx RX1 ∈ AW) (hv : v.toInt = (N : Int)) (hN : N ≤ 10000) (hk : k + 1 = k1) (hn : n + N = n1) (hkc : k1 ≤ mc) (hnc : n1 ≤ ms) (dg : decode cc pc = .ok (.anewarray idx, 3)) (kk : ∀ q, (mT M q).1 = 0 → q ≠ 0 → J G γ (nwM M q (10, i) N) (pc + 3) ls (rv q :: st) k1 n1) : J G γ M pc ls (.int v :: st) k n := by
  obtain ⟨p, l, e, R, s, m, args, below, meth, c, Qr1, Qx1, mc1, ms1, nL1⟩ := γ
  obtain ⟨hx, hb, hr, hml, hown, hts, hlk, hex, hG, hLow, hst, h0, rfl, rfl, rfl, rfl, rfl, rfl, rfl, hnm⟩ := hC
  subst hk; subst hn
  intro H locs lsA hR hS hl
  obtain ⟨hg0, L, hL, hP, hD⟩ := id hR
  have hN9 : v.toNatClampNeg = N := by rw [Int32.toNatClampNeg]; omega
  refine va_newq (C := RX1) hx hb hown (hts _ lc) hG.2.2.2.2.2.2.1 hG.1 hP hD hS (fun q hq => Nat.le_trans hLow.1 hq) (by rw [Int32.lt_iff_toInt_lt, hv]; exact Int.not_lt.mpr (Int.natCast_nonneg N)) hN9 (by omega) hkc hnc dg (fun q cA H1 hK1 hP1 hD1 hS1 => ?_)
  have hcA : cA = G.2.1 10 := by
    obtain ⟨_, _, -, -, -, e1⟩ := (hK1.2 7 (cA, .object RX1) rfl).2
    obtain ⟨_, _, -, -, -, e2⟩ := (hG.1.2 3 (G.2.1 10, .object RX1) rfl).2
    exact Option.some.inj (e1.symm.trans e2)
  subst hcA
  have hf : q ∉ L := va_pl_fresh2 (X := []) hD1
  have hq0 : (mT M q).1 = 0 := by
    by_cases h : (mT M q).1 = 0
    · exact h
    · exact absurd ((hL q).mpr h) hf
  have hR1 : Rep G (nwM M q (10, i) N) H1 := by
    refine Rep.push hg0 hL hf (by simp [mT, nwM, va_up_self]) (fun b hb => by simp [mT, nwM, va_up_ne _ _ hb]) ?_ (fun b hb => nwM_ne b hb) hP1 hD1
    rw [mE_10 (by simp [mT, nwM, va_up_self])]
    have e9 : (fun j => ro (mR (nwM M q (10, i) N) q j)) = fun _ => none := by funext j; simp [mR, nwM, ro]
    have e8 : mL (nwM M q (10, i) N) q = N := by simp [mL, nwM, va_up_self]
    rw [e9, e8]
  have hqn : q ≠ 0 := hR1.ne (by simp [mT, nwM, va_up_self])
  have k2 := kk q hq0 hqn H1 locs lsA hR1 hS1 hl
  rw [rv_pos hqn] at k2
  exact k2
theorem J_newA11 {G : Gt} {γ : Γt} {own : String} {cc : ByteArray} {ret : Option FieldType} {M : Mm} {pc : Nat} {ls : List (Option Value)} {st : List Value} {k n d mc ms : Nat} {Qr : Option Value → Mm → Prop} {Qx : String → Mm → Prop} {lh : Launch} {nL : Nat} {nm : String} {v : Int32} {N idx : Nat} (i : Nat) {k1 n1 : Nat} (hC : Cok G γ own cc ret d mc ms Qr Qx lh nL nm) (lc : Cond.classLink own idx RX0 ∈ AW) (hv : v.toInt = (N : Int)) (hN : N ≤ 10000) (hk : k + 1 = k1) (hn : n + N = n1) (hkc : k1 ≤ mc) (hnc : n1 ≤ ms) (dg : decode cc pc = .ok (.anewarray idx, 3)) (kk : ∀ q, (mT M q).1 = 0 → q ≠ 0 → J G γ (nwM M q (11, i) N) (pc + 3) ls (rv q :: st) k1 n1) : J G γ M pc ls (.int v :: st) k n := by
  obtain ⟨p, l, e, R, s, m, args, below, meth, c, Qr1, Qx1, mc1, ms1, nL1⟩ := γ
  obtain ⟨hx, hb, hr, hml, hown, hts, hlk, hex, hG, hLow, hst, h0, rfl, rfl, rfl, rfl, rfl, rfl, rfl, hnm⟩ := hC
  subst hk; subst hn
  intro H locs lsA hR hS hl
  obtain ⟨hg0, L, hL, hP, hD⟩ := id hR
  have hN9 : v.toNatClampNeg = N := by rw [Int32.toNatClampNeg]; omega
  refine va_newq (C := RX0) hx hb hown (hts _ lc) hG.2.2.2.2.2.2.2.1 hG.1 hP hD hS (fun q hq => Nat.le_trans hLow.1 hq) (by rw [Int32.lt_iff_toInt_lt, hv]; exact Int.not_lt.mpr (Int.natCast_nonneg N)) hN9 (by omega) hkc hnc dg (fun q cA H1 hK1 hP1 hD1 hS1 => ?_)
  have hcA : cA = G.2.1 11 := by
    obtain ⟨_, _, -, -, -, e1⟩ := (hK1.2 7 (cA, .object RX0) rfl).2
    obtain ⟨_, _, -, -, -, e2⟩ := (hG.1.2 4 (G.2.1 11, .object RX0) rfl).2
    exact Option.some.inj (e1.symm.trans e2)
  subst hcA
  have hf : q ∉ L := va_pl_fresh2 (X := []) hD1
  have hq0 : (mT M q).1 = 0 := by
    by_cases h : (mT M q).1 = 0
    · exact h
    · exact absurd ((hL q).mpr h) hf
  have hR1 : Rep G (nwM M q (11, i) N) H1 := by
    refine Rep.push hg0 hL hf (by simp [mT, nwM, va_up_self]) (fun b hb => by simp [mT, nwM, va_up_ne _ _ hb]) ?_ (fun b hb => nwM_ne b hb) hP1 hD1
    rw [mE_11 (by simp [mT, nwM, va_up_self])]
    have e9 : (fun j => ro (mR (nwM M q (11, i) N) q j)) = fun _ => none := by funext j; simp [mR, nwM, ro]
    have e8 : mL (nwM M q (11, i) N) q = N := by simp [mL, nwM, va_up_self]
    rw [e9, e8]
  have hqn : q ≠ 0 := hR1.ne (by simp [mT, nwM, va_up_self])
  have k2 := kk q hq0 hqn H1 locs lsA hR1 hS1 hl
  rw [rv_pos hqn] at k2
  exact k2
