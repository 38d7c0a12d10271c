/-! what a call asks for -/
abbrev eIO : String := "java/lang/IndexOutOfBoundsException"
abbrev eIA : String := "java/lang/IllegalArgumentException"
abbrev eIS : String := "java/lang/IllegalStateException"
abbrev eNS : String := "java/util/NoSuchElementException"
abbrev eUO : String := "java/lang/UnsupportedOperationException"
abbrev eAE : String := "java/lang/ArithmeticException"
/-- the exception E, nothing changed, for this reason -/
def XQ (M : Mm) (e : String) (p : Prop) : String → Mm → Prop := fun E M9 => E = e ∧ M9 = M ∧ p
/-- an answer, nothing changed, with this known -/
def RQ (M : Mm) (v : Option Value) (p : Prop) : Option Value → Mm → Prop := fun r9 M9 => r9 = v ∧ M9 = M ∧ p
theorem J_t0 {G : Gt} {γ : Γt} {M : Mm} {pc : Nat} {ls : List (Option Value)} {st : List Value} {k n : Nat} (kk : (mT M 0).1 = 0 → J G γ M pc ls st k n) : J G γ M pc ls st k n := by
  obtain ⟨p, l, e, R, s, m, args, below, meth, c, Qr1, Qx1, mc1, ms1, nL1⟩ := γ
  intro H locs lsA hR hS hl
  refine kk ?_ H locs lsA hR hS hl
  by_cases h : (mT M 0).1 = 0
  · exact h
  · exact absurd rfl (hR.ne h)
theorem nz {M : Mm} {a k : Nat} (h0 : (mT M 0).1 = 0) (h : (mT M a).1 = k + 1) : a ≠ 0 := fun e => by
  rw [e, h0] at h
  exact absurd h (Nat.succ_ne_zero k).symm
theorem ix_lt {i : Int32} {n m : Nat} (h : isIx i n = true) (hm : ix i < m) : isIx i m = true := by
  obtain ⟨h1, h2⟩ := isIx_ix h
  rw [isIx_iff]; omega
theorem ix_no {i : Int32} {n : Nat} (h : ¬ isIx i n = true) : isIx i n = false := by simpa using h
theorem ix_outF {i : Int32} {n m : Nat} (hn : n < 2 ^ 31) (hmn : m ≤ n) (h : i < 0 ∨ ¬ i < nI n) : isIx i m = false := by
  have h0 : (0 : Int32).toInt = 0 := by decide
  refine ix_no fun q => ?_
  rw [isIx_iff] at q
  rcases h with h | h
  · rw [i_lt, h0] at h; omega
  · rw [i_lt, nI_toInt hn] at h; omega
theorem ix_inT {i : Int32} {n : Nat} (hn : n < 2 ^ 31) (h : ¬ i < 0) (h2 : i < nI n) : isIx i n = true := ix_rng hn h (i_nle h2)
theorem lt_nI {a b : Nat} (ha : a < 2 ^ 31) (hb : b < 2 ^ 31) (h : nI a < nI b) : a < b := by
  rw [i_lt, nI_toInt ha, nI_toInt hb] at h; omega
theorem nlt_nI {a b : Nat} (ha : a < 2 ^ 31) (hb : b < 2 ^ 31) (h : ¬ nI a < nI b) : b ≤ a := by
  rw [i_lt, nI_toInt ha, nI_toInt hb] at h; omega
theorem day_t {S : St} {d : Int32} (h : ¬ d < 0) (h2 : d ≤ sD S) : isDay S d = true := by unfold isDay; exact decide_eq_true ⟨i_nlt h, h2⟩
theorem day_f {S : St} {d : Int32} (h : d < 0 ∨ ¬ d ≤ sD S) : isDay S d = false := by
  unfold isDay
  refine decide_eq_false fun q => ?_
  rcases h with h | h
  · exact i_nle h q.1
  · exact h q.2
theorem CAt.vnz {M : Mm} {x : Nat} {S : St} (h : CAt M x S) {v : Int32} (hv : isIx v 15 = true) (hz : mR M (mR M x 0) (ix v) ≠ 0) : isIx v (sN S 1) = true := by
  refine ix_lt hv ?_
  rcases Nat.lt_or_ge (ix v) (sN S 1) with g | g
  · exact g
  · exact absurd (h.v.2 _ g (isIx_ix hv).2) hz
theorem CAt.vz {M : Mm} {x : Nat} {S : St} (h : CAt M x S) (h0 : (mT M 0).1 = 0) {v : Int32} (hz : mR M (mR M x 0) (ix v) = 0) : isIx v (sN S 1) = false := by
  refine ix_no fun q => ?_
  exact nz h0 ((h.v.1 _ (isIx_ix q).2).tg) hz
theorem CAt.onz {M : Mm} {x : Nat} {S : St} (h : CAt M x S) {v : Int32} (hv : isIx v 120 = true) (hz : mR M (mR M x 2) (ix v) ≠ 0) : isIx v (sN S 3) = true := by
  refine ix_lt hv ?_
  rcases Nat.lt_or_ge (ix v) (sN S 3) with g | g
  · exact g
  · exact absurd (h.o.2 _ g (isIx_ix hv).2) hz
theorem CAt.oz {M : Mm} {x : Nat} {S : St} (h : CAt M x S) (h0 : (mT M 0).1 = 0) {v : Int32} (hz : mR M (mR M x 2) (ix v) = 0) : isIx v (sN S 3) = false := by
  refine ix_no fun q => ?_
  exact nz h0 ((h.o.1 _ (isIx_ix q).2).tg) hz
/-- the plate of a number, or null -/
def plN (M : Mm) (x : Nat) (S : St) (p : Int32) : Nat := if isIx p (sN S 2) = true then pA M x (ix p) else 0
theorem CAt.plN_in {M : Mm} {x : Nat} {S : St} (h : CAt M x S) {v : Int32} (hv : isIx v 40 = true) : mR M (mR M x 1) (ix v) = plN M x S v := by
  unfold plN
  by_cases g : isIx v (sN S 2) = true
  · rw [if_pos g]
  · rw [if_neg g]
    refine h.p.2 _ ?_ (isIx_ix hv).2
    refine Nat.le_of_not_lt fun q => g (ix_lt hv q)
theorem plN_out {M : Mm} {x : Nat} {S : St} {v : Int32} (g : isIx v (sN S 2) = false) : plN M x S v = 0 := by unfold plN; rw [g]; rfl
theorem plN_y {M : Mm} {x : Nat} {S : St} {v : Int32} (g : isIx v (sN S 2) = true) : plN M x S v = pA M x (ix v) := by unfold plN; rw [if_pos g]
theorem CAt.plN_nz {M : Mm} {x : Nat} {S : St} (h : CAt M x S) (h0 : (mT M 0).1 = 0) {v : Int32} : plN M x S v ≠ 0 ↔ isIx v (sN S 2) = true := by
  unfold plN
  by_cases g : isIx v (sN S 2) = true
  · rw [if_pos g]
    exact ⟨fun _ => g, fun _ => nz h0 ((h.p.1 _ (isIx_ix g).2).tg)⟩
  · rw [if_neg g]
    exact ⟨fun q => absurd rfl q, fun q => absurd q g⟩
theorem CAt.plN_n {M : Mm} {x : Nat} {S : St} (h : CAt M x S) (h0 : (mT M 0).1 = 0) {v : Int32} (hz : plN M x S v = 0) : isIx v (sN S 2) = false := ix_no fun q => (h.plN_nz h0).mpr q hz
theorem ld_le {c : Int32} (h : ¬ (103 : Int32) ≤ c) : c ≤ 102 := by
  have h1 : (103 : Int32).toInt = 103 := by decide
  have h2 : (102 : Int32).toInt = 102 := by decide
  rw [i_le] at h ⊢; omega
theorem ld_gt {c : Int32} (h : (103 : Int32) ≤ c) : ¬ c ≤ 102 := by
  have h1 : (103 : Int32).toInt = 103 := by decide
  have h2 : (102 : Int32).toInt = 102 := by decide
  rw [i_le] at h ⊢; omega
theorem ct_X4_isLender {G : Gt} {l : Launch} (hst : l.stackTraces = false) {M : Mm} (c : Int32) : Ct G l yX4_isLender cX4_isLender 1 (some .boolean) 1 M [.int c] 0 0 (PQ M (.int (bz (lendOk c)))) (noX) := by
  refine Ct_intro (own := RX4) (nm := "isLender") (by decide +kernel) rfl rfl hst (fun w hw => by simp only [List.mem_cons, List.not_mem_nil, or_false] at hw; rcases hw with rfl <;> first | rfl | exact rv_cat _) (Nat.le_of_ble_eq_true rfl) (fun γ hC => ?_)
  show J G γ M 0 [some (.int c)] [] 0 0
  refine J_iload_n hC dX4_isLender_0 rfl rfl ?_
  refine J_bipush hC dX4_isLender_1 (v := 97) (by decide) ?_
  refine J_icmp_lt hC dX4_isLender_3 (tgt := 16) (by decide) (fun c3 => ?_) (fun c3 => ?_)
  · refine J_iconst hC dX4_isLender_16 (v := 0) (by decide) ?_
    refine J_zret hC (by decide) (by decide) (by decide) dX4_isLender_17 ?_
    refine ⟨congrArg (fun z => some (Value.int z)) ?_, rfl⟩
    exact b_f (fun h => by first | exact i_nle c3 h.1 | exact ld_gt c9 h.2)
  · refine J_iload_n hC dX4_isLender_6 rfl rfl ?_
    refine J_bipush hC dX4_isLender_7 (v := 103) (by decide) ?_
    refine J_icmp_ge hC dX4_isLender_9 (tgt := 16) (by decide) (fun c9 => ?_) (fun c9 => ?_)
    · refine J_iconst hC dX4_isLender_16 (v := 0) (by decide) ?_
      refine J_zret hC (by decide) (by decide) (by decide) dX4_isLender_17 ?_
      refine ⟨congrArg (fun z => some (Value.int z)) ?_, rfl⟩
      exact b_f (fun h => by first | exact i_nle c3 h.1 | exact ld_gt c9 h.2)
    · refine J_iconst hC dX4_isLender_12 (v := 1) (by decide) ?_
      refine J_goto hC dX4_isLender_13 (tgt := 17) (by decide) ?_
      refine J_zret hC (by decide) (by decide) (by decide) dX4_isLender_17 ?_
      refine ⟨congrArg (fun z => some (Value.int z)) ?_, rfl⟩
      exact b_t ⟨i_nlt c3, ld_le c9⟩
theorem ct_X4_requireKind {G : Gt} {l : Launch} (hst : l.stackTraces = false) {M : Mm} (c : Int32) : Ct G l yX4_requireKind cX4_requireKind 1 none 6 M [.int c] 1 6 (RQ M none (kindOk c = true)) (XQ M eIA (kindOk c = false)) := by
  refine Ct_intro (own := RX4) (nm := "requireKind") (by decide +kernel) rfl rfl hst (fun w hw => by simp only [List.mem_cons, List.not_mem_nil, or_false] at hw; rcases hw with rfl <;> first | rfl | exact rv_cat _) (Nat.le_of_ble_eq_true rfl) (fun γ hC => ?_)
  show J G γ M 0 [some (.int c)] [] 0 0
  refine J_iload_n hC dX4_requireKind_0 rfl rfl ?_
  refine J_bipush hC dX4_requireKind_1 (v := 99) (by decide) ?_
  refine J_icmp_eq hC dX4_requireKind_3 (tgt := 35) (by decide) (fun c3 => ?_) (fun c3 => ?_)
  · refine J_vret hC (by decide) (by decide) dX4_requireKind_35 ?_
    exact ⟨rfl, rfl, decide_eq_true (by first | exact Or.inl c3 | exact Or.inr (Or.inl c9) | exact Or.inr (Or.inr (Or.inl c15)) | exact Or.inr (Or.inr (Or.inr c21)))⟩
  · refine J_iload_n hC dX4_requireKind_6 rfl rfl ?_
    refine J_bipush hC dX4_requireKind_7 (v := 109) (by decide) ?_
    refine J_icmp_eq hC dX4_requireKind_9 (tgt := 35) (by decide) (fun c9 => ?_) (fun c9 => ?_)
    · refine J_vret hC (by decide) (by decide) dX4_requireKind_35 ?_
      exact ⟨rfl, rfl, decide_eq_true (by first | exact Or.inl c3 | exact Or.inr (Or.inl c9) | exact Or.inr (Or.inr (Or.inl c15)) | exact Or.inr (Or.inr (Or.inr c21)))⟩
    · refine J_iload_n hC dX4_requireKind_12 rfl rfl ?_
      refine J_bipush hC dX4_requireKind_13 (v := 108) (by decide) ?_
      refine J_icmp_eq hC dX4_requireKind_15 (tgt := 35) (by decide) (fun c15 => ?_) (fun c15 => ?_)
      · refine J_vret hC (by decide) (by decide) dX4_requireKind_35 ?_
        exact ⟨rfl, rfl, decide_eq_true (by first | exact Or.inl c3 | exact Or.inr (Or.inl c9) | exact Or.inr (Or.inr (Or.inl c15)) | exact Or.inr (Or.inr (Or.inr c21)))⟩
      · refine J_iload_n hC dX4_requireKind_18 rfl rfl ?_
        refine J_bipush hC dX4_requireKind_19 (v := 104) (by decide) ?_
        refine J_icmp_eq hC dX4_requireKind_21 (tgt := 35) (by decide) (fun c21 => ?_) (fun c21 => ?_)
        · refine J_vret hC (by decide) (by decide) dX4_requireKind_35 ?_
          exact ⟨rfl, rfl, decide_eq_true (by first | exact Or.inl c3 | exact Or.inr (Or.inl c9) | exact Or.inr (Or.inr (Or.inl c15)) | exact Or.inr (Or.inr (Or.inr c21)))⟩
        · refine J_throwW hC lt_51 (by decide +kernel : (RX4, 328, "there is no such kind") ∈ strT) (by decide) (by decide) (by decide) (by decide) dX4_requireKind_24 dX4_requireKind_27 dX4_requireKind_28 dX4_requireKind_31 dX4_requireKind_34 ?_
          exact ⟨rfl, rfl, decide_eq_false (fun h => by rcases h with h | h | h | h; exact c3 h; exact c9 h; exact c15 h; exact c21 h)⟩
theorem ct_X4_found {G : Gt} {l : Launch} (hst : l.stackTraces = false) {M : Mm} (v : Int32) : Ct G l yX4_found cX4_found 1 (some .int) 6 M [.int v] 1 6 (RQ M (some (.int v)) (v ≠ -1)) (XQ M eNS (v = -1)) := by
  refine Ct_intro (own := RX4) (nm := "found") (by decide +kernel) rfl rfl hst (fun w hw => by simp only [List.mem_cons, List.not_mem_nil, or_false] at hw; rcases hw with rfl <;> first | rfl | exact rv_cat _) (Nat.le_of_ble_eq_true rfl) (fun γ hC => ?_)
  show J G γ M 0 [some (.int v)] [] 0 0
  refine J_iload_n hC dX4_found_0 rfl rfl ?_
  refine J_iconst hC dX4_found_1 (v := -1) (by decide) ?_
  refine J_icmp_ne hC dX4_found_2 (tgt := 16) (by decide) (fun c2 => ?_) (fun c2 => ?_)
  · refine J_iload_n hC dX4_found_16 rfl rfl ?_
    refine J_iret hC (by decide) (by decide) dX4_found_17 ?_
    exact ⟨rfl, rfl, c2⟩
  · refine J_throwNW hC (by decide +kernel : (RX4, 350, "there is none") ∈ strT) (by decide) (by decide) (by decide) (by decide) dX4_found_5 dX4_found_8 dX4_found_9 dX4_found_12 dX4_found_15 ?_
    exact ⟨rfl, rfl, nn c2⟩
theorem ct_X4_placeFound {G : Gt} {l : Launch} (hst : l.stackTraces = false) {M : Mm} (v : Int32) : Ct G l yX4_placeFound cX4_placeFound 1 (some .int) 6 M [.int v] 1 6 (RQ M (some (.int v)) (v ≠ -1)) (XQ M eIS (v = -1)) := by
  refine Ct_intro (own := RX4) (nm := "placeFound") (by decide +kernel) rfl rfl hst (fun w hw => by simp only [List.mem_cons, List.not_mem_nil, or_false] at hw; rcases hw with rfl <;> first | rfl | exact rv_cat _) (Nat.le_of_ble_eq_true rfl) (fun γ hC => ?_)
  show J G γ M 0 [some (.int v)] [] 0 0
  refine J_iload_n hC dX4_placeFound_0 rfl rfl ?_
  refine J_iconst hC dX4_placeFound_1 (v := -1) (by decide) ?_
  refine J_icmp_ne hC dX4_placeFound_2 (tgt := 16) (by decide) (fun c2 => ?_) (fun c2 => ?_)
  · refine J_iload_n hC dX4_placeFound_16 rfl rfl ?_
    refine J_iret hC (by decide) (by decide) dX4_placeFound_17 ?_
    exact ⟨rfl, rfl, c2⟩
  · refine J_throwW hC lt_41 (by decide +kernel : (RX4, 352, "the plate is on no vehicle") ∈ strT) (by decide) (by decide) (by decide) (by decide) dX4_placeFound_5 dX4_placeFound_8 dX4_placeFound_9 dX4_placeFound_12 dX4_placeFound_15 ?_
    exact ⟨rfl, rfl, nn c2⟩
theorem ct_X4_requireKeeper {G : Gt} {l : Launch} (hst : l.stackTraces = false) {M : Mm} {x : Nat} {S : St} (hM : CAt M x S) (v : Int32) : Ct G l yX4_requireKeeper cX4_requireKeeper 2 none 6 M [rv x, .int v] 1 6 (RQ M none (isIx v (sN S 0) = true)) (XQ M eIO (isIx v (sN S 0) = false)) := by
  obtain ⟨bK, bV, bP, bN⟩ := hM.b
  refine Ct_intro (own := RX4) (nm := "requireKeeper") (by decide +kernel) rfl rfl hst (fun w hw => by simp only [List.mem_cons, List.not_mem_nil, or_false] at hw; rcases hw with rfl | rfl <;> first | rfl | exact rv_cat _) (Nat.le_of_ble_eq_true rfl) (fun γ hC => ?_)
  show J G γ M 0 [some (rv x), some (.int v)] [] 0 0
  refine J_iload_n hC dX4_requireKeeper_0 rfl rfl ?_
  refine J_if_lt hC dX4_requireKeeper_1 (tgt := 12) (by decide) (fun c1 => ?_) (fun c1 => ?_)
  · refine J_throwW hC lt_194 (by decide +kernel : (RX4, 315, "there is no such keeper") ∈ strT) (by decide) (by decide) (by decide) (by decide) dX4_requireKeeper_12 dX4_requireKeeper_15 dX4_requireKeeper_16 dX4_requireKeeper_19 dX4_requireKeeper_22 ?_
    exact ⟨rfl, rfl, ix_outF (n := sN S 0) (by omega) (Nat.le_refl _) (by first | exact Or.inl c1 | exact Or.inr c9)⟩
  · refine J_iload_n hC dX4_requireKeeper_4 rfl rfl ?_
    refine J_aload_n hC dX4_requireKeeper_5 rfl rfl ?_
    refine J_get5 hC lf_X4_37 (j := 6) hM.tx (v := .int (nI (sN S 0))) (congrArg (fun z => some (Value.int z)) hM.c6) dX4_requireKeeper_6 ?_
    refine J_icmp_lt hC dX4_requireKeeper_9 (tgt := 23) (by decide) (fun c9 => ?_) (fun c9 => ?_)
    · refine J_vret hC (by decide) (by decide) dX4_requireKeeper_23 ?_
      exact ⟨rfl, rfl, ix_inT (by omega) c1 c9⟩
    · refine J_throwW hC lt_194 (by decide +kernel : (RX4, 315, "there is no such keeper") ∈ strT) (by decide) (by decide) (by decide) (by decide) dX4_requireKeeper_12 dX4_requireKeeper_15 dX4_requireKeeper_16 dX4_requireKeeper_19 dX4_requireKeeper_22 ?_
      exact ⟨rfl, rfl, ix_outF (n := sN S 0) (by omega) (Nat.le_refl _) (by first | exact Or.inl c1 | exact Or.inr c9)⟩
theorem ct_X4_requireDay {G : Gt} {l : Launch} (hst : l.stackTraces = false) {M : Mm} {x : Nat} {S : St} (hM : CAt M x S) (v : Int32) : Ct G l yX4_requireDay cX4_requireDay 2 none 6 M [rv x, .int v] 1 6 (RQ M none (isDay S v = true)) (XQ M eIA (isDay S v = false)) := by
  refine Ct_intro (own := RX4) (nm := "requireDay") (by decide +kernel) rfl rfl hst (fun w hw => by simp only [List.mem_cons, List.not_mem_nil, or_false] at hw; rcases hw with rfl | rfl <;> first | rfl | exact rv_cat _) (Nat.le_of_ble_eq_true rfl) (fun γ hC => ?_)
  show J G γ M 0 [some (rv x), some (.int v)] [] 0 0
  refine J_iload_n hC dX4_requireDay_0 rfl rfl ?_
  refine J_if_lt hC dX4_requireDay_1 (tgt := 12) (by decide) (fun c1 => ?_) (fun c1 => ?_)
  · refine J_throwW hC lt_51 (by decide +kernel : (RX4, 326, "there is no such day yet") ∈ strT) (by decide) (by decide) (by decide) (by decide) dX4_requireDay_12 dX4_requireDay_15 dX4_requireDay_16 dX4_requireDay_19 dX4_requireDay_22 ?_
    exact ⟨rfl, rfl, day_f (by first | exact Or.inl c1 | exact Or.inr c9)⟩
  · refine J_iload_n hC dX4_requireDay_4 rfl rfl ?_
    refine J_aload_n hC dX4_requireDay_5 rfl rfl ?_
    refine J_get5 hC lf_X4_48 (j := 10) hM.tx (v := .int (sD S)) (congrArg (fun z => some (Value.int z)) hM.c10) dX4_requireDay_6 ?_
    refine J_icmp_le hC dX4_requireDay_9 (tgt := 23) (by decide) (fun c9 => ?_) (fun c9 => ?_)
    · refine J_vret hC (by decide) (by decide) dX4_requireDay_23 ?_
      exact ⟨rfl, rfl, day_t c1 c9⟩
    · refine J_throwW hC lt_51 (by decide +kernel : (RX4, 326, "there is no such day yet") ∈ strT) (by decide) (by decide) (by decide) (by decide) dX4_requireDay_12 dX4_requireDay_15 dX4_requireDay_16 dX4_requireDay_19 dX4_requireDay_22 ?_
      exact ⟨rfl, rfl, day_f (by first | exact Or.inl c1 | exact Or.inr c9)⟩
theorem ct_X4_requireRoomForVehicle {G : Gt} {l : Launch} (hst : l.stackTraces = false) {M : Mm} {x : Nat} {S : St} (hM : CAt M x S) : Ct G l yX4_requireRoomForVehicle cX4_requireRoomForVehicle 1 none 6 M [rv x] 1 6 (RQ M none (sN S 1 < 15)) (XQ M eIS (sN S 1 = 15)) := by
  obtain ⟨bK, bV, bP, bN⟩ := hM.b
  refine Ct_intro (own := RX4) (nm := "requireRoomForVehicle") (by decide +kernel) rfl rfl hst (fun w hw => by simp only [List.mem_cons, List.not_mem_nil, or_false] at hw; rcases hw with rfl <;> first | rfl | exact rv_cat _) (Nat.le_of_ble_eq_true rfl) (fun γ hC => ?_)
  show J G γ M 0 [some (rv x)] [] 0 0
  refine J_aload_n hC dX4_requireRoomForVehicle_0 rfl rfl ?_
  refine J_get5 hC lf_X4_149 (j := 7) hM.tx (v := .int (nI (sN S 1))) (congrArg (fun z => some (Value.int z)) hM.c7) dX4_requireRoomForVehicle_1 ?_
  refine J_bipush hC dX4_requireRoomForVehicle_4 (v := 15) (by decide) ?_
  refine J_icmp_lt hC dX4_requireRoomForVehicle_6 (tgt := 20) (by decide) (fun c6 => ?_) (fun c6 => ?_)
  · refine J_vret hC (by decide) (by decide) dX4_requireRoomForVehicle_20 ?_
    exact ⟨rfl, rfl, lt_nI (b := 15) (by omega) (by omega) c6⟩
  · refine J_throwW hC lt_41 (by decide +kernel : (RX4, 330, "there are 15 vehicles") ∈ strT) (by decide) (by decide) (by decide) (by decide) dX4_requireRoomForVehicle_9 dX4_requireRoomForVehicle_12 dX4_requireRoomForVehicle_13 dX4_requireRoomForVehicle_16 dX4_requireRoomForVehicle_19 ?_
    exact ⟨rfl, rfl, by have := nlt_nI (b := 15) (by omega) (by omega) c6; omega⟩
theorem ct_X4_requireRoomForPlate {G : Gt} {l : Launch} (hst : l.stackTraces = false) {M : Mm} {x : Nat} {S : St} (hM : CAt M x S) : Ct G l yX4_requireRoomForPlate cX4_requireRoomForPlate 1 none 6 M [rv x] 1 6 (RQ M none (sN S 2 < 40)) (XQ M eIS (sN S 2 = 40)) := by
  obtain ⟨bK, bV, bP, bN⟩ := hM.b
  refine Ct_intro (own := RX4) (nm := "requireRoomForPlate") (by decide +kernel) rfl rfl hst (fun w hw => by simp only [List.mem_cons, List.not_mem_nil, or_false] at hw; rcases hw with rfl <;> first | rfl | exact rv_cat _) (Nat.le_of_ble_eq_true rfl) (fun γ hC => ?_)
  show J G γ M 0 [some (rv x)] [] 0 0
  refine J_aload_n hC dX4_requireRoomForPlate_0 rfl rfl ?_
  refine J_get5 hC lf_X4_273 (j := 8) hM.tx (v := .int (nI (sN S 2))) (congrArg (fun z => some (Value.int z)) hM.c8) dX4_requireRoomForPlate_1 ?_
  refine J_bipush hC dX4_requireRoomForPlate_4 (v := 40) (by decide) ?_
  refine J_icmp_lt hC dX4_requireRoomForPlate_6 (tgt := 20) (by decide) (fun c6 => ?_) (fun c6 => ?_)
  · refine J_vret hC (by decide) (by decide) dX4_requireRoomForPlate_20 ?_
    exact ⟨rfl, rfl, lt_nI (b := 40) (by omega) (by omega) c6⟩
  · refine J_throwW hC lt_41 (by decide +kernel : (RX4, 332, "there are 40 plates") ∈ strT) (by decide) (by decide) (by decide) (by decide) dX4_requireRoomForPlate_9 dX4_requireRoomForPlate_12 dX4_requireRoomForPlate_13 dX4_requireRoomForPlate_16 dX4_requireRoomForPlate_19 ?_
    exact ⟨rfl, rfl, by have := nlt_nI (b := 40) (by omega) (by omega) c6; omega⟩
theorem ct_X4_requireRoomForNotice {G : Gt} {l : Launch} (hst : l.stackTraces = false) {M : Mm} {x : Nat} {S : St} (hM : CAt M x S) : Ct G l yX4_requireRoomForNotice cX4_requireRoomForNotice 1 none 6 M [rv x] 1 6 (RQ M none (sN S 3 < 120)) (XQ M eIS (sN S 3 = 120)) := by
  obtain ⟨bK, bV, bP, bN⟩ := hM.b
  refine Ct_intro (own := RX4) (nm := "requireRoomForNotice") (by decide +kernel) rfl rfl hst (fun w hw => by simp only [List.mem_cons, List.not_mem_nil, or_false] at hw; rcases hw with rfl <;> first | rfl | exact rv_cat _) (Nat.le_of_ble_eq_true rfl) (fun γ hC => ?_)
  show J G γ M 0 [some (rv x)] [] 0 0
  refine J_aload_n hC dX4_requireRoomForNotice_0 rfl rfl ?_
  refine J_get5 hC lf_X4_334 (j := 9) hM.tx (v := .int (nI (sN S 3))) (congrArg (fun z => some (Value.int z)) hM.c9) dX4_requireRoomForNotice_1 ?_
  refine J_bipush hC dX4_requireRoomForNotice_4 (v := 120) (by decide) ?_
  refine J_icmp_lt hC dX4_requireRoomForNotice_6 (tgt := 20) (by decide) (fun c6 => ?_) (fun c6 => ?_)
  · refine J_vret hC (by decide) (by decide) dX4_requireRoomForNotice_20 ?_
    exact ⟨rfl, rfl, lt_nI (b := 120) (by omega) (by omega) c6⟩
  · refine J_throwW hC lt_41 (by decide +kernel : (RX4, 337, "there are 120 notices") ∈ strT) (by decide) (by decide) (by decide) (by decide) dX4_requireRoomForNotice_9 dX4_requireRoomForNotice_12 dX4_requireRoomForNotice_13 dX4_requireRoomForNotice_16 dX4_requireRoomForNotice_19 ?_
    exact ⟨rfl, rfl, by have := nlt_nI (b := 120) (by omega) (by omega) c6; omega⟩
theorem ct_X4_requireVehicles {G : Gt} {l : Launch} (hst : l.stackTraces = false) {M : Mm} {x : Nat} {S : St} (hM : CAt M x S) : Ct G l yX4_requireVehicles cX4_requireVehicles 1 none 6 M [rv x] 1 6 (RQ M none (sN S 1 ≠ 0)) (XQ M eAE (sN S 1 = 0)) := by
  obtain ⟨bK, bV, bP, bN⟩ := hM.b
  refine Ct_intro (own := RX4) (nm := "requireVehicles") (by decide +kernel) rfl rfl hst (fun w hw => by simp only [List.mem_cons, List.not_mem_nil, or_false] at hw; rcases hw with rfl <;> first | rfl | exact rv_cat _) (Nat.le_of_ble_eq_true rfl) (fun γ hC => ?_)
  show J G γ M 0 [some (rv x)] [] 0 0
  refine J_aload_n hC dX4_requireVehicles_0 rfl rfl ?_
  refine J_get5 hC lf_X4_149 (j := 7) hM.tx (v := .int (nI (sN S 1))) (congrArg (fun z => some (Value.int z)) hM.c7) dX4_requireVehicles_1 ?_
  refine J_if_ne hC dX4_requireVehicles_4 (tgt := 18) (by decide) (fun c4 => ?_) (fun c4 => ?_)
  · refine J_vret hC (by decide) (by decide) dX4_requireVehicles_18 ?_
    exact ⟨rfl, rfl, fun h => c4 (by rw [h]; rfl)⟩
  · refine J_throwW hC lt_345 (by decide +kernel : (RX4, 347, "there are no vehicles") ∈ strT) (by decide) (by decide) (by decide) (by decide) dX4_requireVehicles_7 dX4_requireVehicles_10 dX4_requireVehicles_11 dX4_requireVehicles_14 dX4_requireVehicles_17 ?_
    exact ⟨rfl, rfl, nI_inj (b := 0) (by omega) (by omega) (nn c4)⟩
theorem ct_X4_vehicleAt {G : Gt} {l : Launch} (hst : l.stackTraces = false) {M : Mm} {x : Nat} {S : St} (hM : CAt M x S) (v : Int32) : Ct G l yX4_vehicleAt cX4_vehicleAt 3 (some (.object "PlateRegister$Vehicle")) 6 M [rv x, .int v] 1 6 (RQ M (some (rv (mR M (mR M x 0) (ix v)))) (isIx v (sN S 1) = true)) (XQ M eIO (isIx v (sN S 1) = false)) := by
  refine id ?_
  obtain ⟨bK, bV, bP, bN⟩ := hM.b
  refine Ct_intro (own := RX4) (nm := "vehicleAt") (by decide +kernel) rfl rfl hst (fun w hw => by simp only [List.mem_cons, List.not_mem_nil, or_false] at hw; rcases hw with rfl | rfl <;> first | rfl | exact rv_cat _) (Nat.le_of_ble_eq_true rfl) (fun γ hC => ?_)
  show J G γ M 0 [some (rv x), some (.int v)] [] 0 0
  refine J_t0 (fun ht0 => ?_)
  refine J_iload_n hC dX4_vehicleAt_0 rfl rfl ?_
  refine J_if_lt hC dX4_vehicleAt_1 (tgt := 13) (by decide) (fun c1 => ?_) (fun c1 => ?_)
  · refine J_null hC dX4_vehicleAt_13 ?_
    refine J_goto hC dX4_vehicleAt_14 (tgt := 23) (by decide) ?_
    refine J_astore_n hC dX4_vehicleAt_23 rfl (by decide) (ls1 := [some (rv x), some (.int v), some (rv 0)]) rfl ?_
    refine J_aload_n hC dX4_vehicleAt_24 rfl rfl ?_
    refine J_ifnonnull hC dX4_vehicleAt_25 (tgt := 39) (by decide) (fun c25 => ?_) (fun c25 => ?_)
    · exact absurd rfl c25
    · refine J_throwW hC lt_194 (by decide +kernel : (RX4, 317, "there is no such vehicle") ∈ strT) (by decide) (by decide) (by decide) (by decide) dX4_vehicleAt_28 dX4_vehicleAt_31 dX4_vehicleAt_32 dX4_vehicleAt_35 dX4_vehicleAt_38 ?_
      exact ⟨rfl, rfl, ix_outF (n := 15) (by omega) (by omega) (by first | exact Or.inl c1 | exact Or.inr c10)⟩
  · refine J_iload_n hC dX4_vehicleAt_4 rfl rfl ?_
    refine J_aload_n hC dX4_vehicleAt_5 rfl rfl ?_
    refine J_get5 hC lf_X4_11 (j := 0) hM.tx (v := rv (mR M x 0)) rfl dX4_vehicleAt_6 ?_
    refine J_alen9 hC hM.tk0 dX4_vehicleAt_9 ?_
    rw [hM.lk0]
    refine J_icmp_lt hC dX4_vehicleAt_10 (tgt := 17) (by decide) (fun c10 => ?_) (fun c10 => ?_)
    · have hv := ix_inT (n := 15) (by omega) c1 c10
      have hvl := (isIx_ix hv).2
      refine J_aload_n hC dX4_vehicleAt_17 rfl rfl ?_
      refine J_get5 hC lf_X4_11 (j := 0) hM.tx (v := rv (mR M x 0)) rfl dX4_vehicleAt_18 ?_
      refine J_iload_n hC dX4_vehicleAt_21 rfl rfl ?_
      refine J_aald9 hC hM.tk0 (j := (ix v)) (isIx_ix hv).1 (by rw [hM.lk0]; omega) dX4_vehicleAt_22 ?_
      refine J_astore_n hC dX4_vehicleAt_23 rfl (by decide) (ls1 := [some (rv x), some (.int v), some (rv (mR M (mR M x 0) (ix v)))]) rfl ?_
      refine J_aload_n hC dX4_vehicleAt_24 rfl rfl ?_
      refine J_ifnonnull hC dX4_vehicleAt_25 (tgt := 39) (by decide) (fun c25 => ?_) (fun c25 => ?_)
      · refine J_aload_n hC dX4_vehicleAt_39 rfl rfl ?_
        refine J_aret hC (by decide) (by decide) (by first | exact Or.inl ⟨_, rfl⟩ | exact Or.inr ⟨_, rfl⟩) dX4_vehicleAt_40 ?_
        exact ⟨rfl, rfl, hM.vnz hv c25⟩
      · refine J_throwW hC lt_194 (by decide +kernel : (RX4, 317, "there is no such vehicle") ∈ strT) (by decide) (by decide) (by decide) (by decide) dX4_vehicleAt_28 dX4_vehicleAt_31 dX4_vehicleAt_32 dX4_vehicleAt_35 dX4_vehicleAt_38 ?_
        exact ⟨rfl, rfl, hM.vz ht0 (by first | exact nn c25 | exact c25)⟩
    · refine J_null hC dX4_vehicleAt_13 ?_
      refine J_goto hC dX4_vehicleAt_14 (tgt := 23) (by decide) ?_
      refine J_astore_n hC dX4_vehicleAt_23 rfl (by decide) (ls1 := [some (rv x), some (.int v), some (rv 0)]) rfl ?_
      refine J_aload_n hC dX4_vehicleAt_24 rfl rfl ?_
      refine J_ifnonnull hC dX4_vehicleAt_25 (tgt := 39) (by decide) (fun c25 => ?_) (fun c25 => ?_)
      · exact absurd rfl c25
      · refine J_throwW hC lt_194 (by decide +kernel : (RX4, 317, "there is no such vehicle") ∈ strT) (by decide) (by decide) (by decide) (by decide) dX4_vehicleAt_28 dX4_vehicleAt_31 dX4_vehicleAt_32 dX4_vehicleAt_35 dX4_vehicleAt_38 ?_
        exact ⟨rfl, rfl, ix_outF (n := 15) (by omega) (by omega) (by first | exact Or.inl c1 | exact Or.inr c10)⟩
theorem ct_X4_noticeAt {G : Gt} {l : Launch} (hst : l.stackTraces = false) {M : Mm} {x : Nat} {S : St} (hM : CAt M x S) (v : Int32) : Ct G l yX4_noticeAt cX4_noticeAt 3 (some (.object "PlateRegister$Notice")) 6 M [rv x, .int v] 1 6 (RQ M (some (rv (mR M (mR M x 2) (ix v)))) (isIx v (sN S 3) = true)) (XQ M eNS (isIx v (sN S 3) = false)) := by
  refine id ?_
  obtain ⟨bK, bV, bP, bN⟩ := hM.b
  refine Ct_intro (own := RX4) (nm := "noticeAt") (by decide +kernel) rfl rfl hst (fun w hw => by simp only [List.mem_cons, List.not_mem_nil, or_false] at hw; rcases hw with rfl | rfl <;> first | rfl | exact rv_cat _) (Nat.le_of_ble_eq_true rfl) (fun γ hC => ?_)
  show J G γ M 0 [some (rv x), some (.int v)] [] 0 0
  refine J_t0 (fun ht0 => ?_)
  refine J_iload_n hC dX4_noticeAt_0 rfl rfl ?_
  refine J_if_lt hC dX4_noticeAt_1 (tgt := 13) (by decide) (fun c1 => ?_) (fun c1 => ?_)
  · refine J_null hC dX4_noticeAt_13 ?_
    refine J_goto hC dX4_noticeAt_14 (tgt := 23) (by decide) ?_
    refine J_astore_n hC dX4_noticeAt_23 rfl (by decide) (ls1 := [some (rv x), some (.int v), some (rv 0)]) rfl ?_
    refine J_aload_n hC dX4_noticeAt_24 rfl rfl ?_
    refine J_ifnonnull hC dX4_noticeAt_25 (tgt := 39) (by decide) (fun c25 => ?_) (fun c25 => ?_)
    · exact absurd rfl c25
    · refine J_throwNW hC (by decide +kernel : (RX4, 324, "there is no such notice") ∈ strT) (by decide) (by decide) (by decide) (by decide) dX4_noticeAt_28 dX4_noticeAt_31 dX4_noticeAt_32 dX4_noticeAt_35 dX4_noticeAt_38 ?_
      exact ⟨rfl, rfl, ix_outF (n := 120) (by omega) (by omega) (by first | exact Or.inl c1 | exact Or.inr c10)⟩
  · refine J_iload_n hC dX4_noticeAt_4 rfl rfl ?_
    refine J_aload_n hC dX4_noticeAt_5 rfl rfl ?_
    refine J_get5 hC lf_X4_23 (j := 2) hM.tx (v := rv (mR M x 2)) rfl dX4_noticeAt_6 ?_
    refine J_alen11 hC hM.tk2 dX4_noticeAt_9 ?_
    rw [hM.lk2]
    refine J_icmp_lt hC dX4_noticeAt_10 (tgt := 17) (by decide) (fun c10 => ?_) (fun c10 => ?_)
    · have hv := ix_inT (n := 120) (by omega) c1 c10
      have hvl := (isIx_ix hv).2
      refine J_aload_n hC dX4_noticeAt_17 rfl rfl ?_
      refine J_get5 hC lf_X4_23 (j := 2) hM.tx (v := rv (mR M x 2)) rfl dX4_noticeAt_18 ?_
      refine J_iload_n hC dX4_noticeAt_21 rfl rfl ?_
      refine J_aald11 hC hM.tk2 (j := (ix v)) (isIx_ix hv).1 (by rw [hM.lk2]; omega) dX4_noticeAt_22 ?_
      refine J_astore_n hC dX4_noticeAt_23 rfl (by decide) (ls1 := [some (rv x), some (.int v), some (rv (mR M (mR M x 2) (ix v)))]) rfl ?_
      refine J_aload_n hC dX4_noticeAt_24 rfl rfl ?_
      refine J_ifnonnull hC dX4_noticeAt_25 (tgt := 39) (by decide) (fun c25 => ?_) (fun c25 => ?_)
      · refine J_aload_n hC dX4_noticeAt_39 rfl rfl ?_
        refine J_aret hC (by decide) (by decide) (by first | exact Or.inl ⟨_, rfl⟩ | exact Or.inr ⟨_, rfl⟩) dX4_noticeAt_40 ?_
        exact ⟨rfl, rfl, hM.onz hv c25⟩
      · refine J_throwNW hC (by decide +kernel : (RX4, 324, "there is no such notice") ∈ strT) (by decide) (by decide) (by decide) (by decide) dX4_noticeAt_28 dX4_noticeAt_31 dX4_noticeAt_32 dX4_noticeAt_35 dX4_noticeAt_38 ?_
        exact ⟨rfl, rfl, hM.oz ht0 (by first | exact nn c25 | exact c25)⟩
    · refine J_null hC dX4_noticeAt_13 ?_
      refine J_goto hC dX4_noticeAt_14 (tgt := 23) (by decide) ?_
      refine J_astore_n hC dX4_noticeAt_23 rfl (by decide) (ls1 := [some (rv x), some (.int v), some (rv 0)]) rfl ?_
      refine J_aload_n hC dX4_noticeAt_24 rfl rfl ?_
      refine J_ifnonnull hC dX4_noticeAt_25 (tgt := 39) (by decide) (fun c25 => ?_) (fun c25 => ?_)
      · exact absurd rfl c25
      · refine J_throwNW hC (by decide +kernel : (RX4, 324, "there is no such notice") ∈ strT) (by decide) (by decide) (by decide) (by decide) dX4_noticeAt_28 dX4_noticeAt_31 dX4_noticeAt_32 dX4_noticeAt_35 dX4_noticeAt_38 ?_
        exact ⟨rfl, rfl, ix_outF (n := 120) (by omega) (by omega) (by first | exact Or.inl c1 | exact Or.inr c10)⟩
theorem ct_X4_plateOrNull {G : Gt} {l : Launch} (hst : l.stackTraces = false) {M : Mm} {x : Nat} {S : St} (hM : CAt M x S) (v : Int32) : Ct G l yX4_plateOrNull cX4_plateOrNull 2 (some (.object "PlateRegister$Plate")) 1 M [rv x, .int v] 0 0 (PQ M (rv (plN M x S v))) (noX) := by
  obtain ⟨bK, bV, bP, bN⟩ := hM.b
  refine Ct_intro (own := RX4) (nm := "plateOrNull") (by decide +kernel) rfl rfl hst (fun w hw => by simp only [List.mem_cons, List.not_mem_nil, or_false] at hw; rcases hw with rfl | rfl <;> first | rfl | exact rv_cat _) (Nat.le_of_ble_eq_true rfl) (fun γ hC => ?_)
  show J G γ M 0 [some (rv x), some (.int v)] [] 0 0
  refine J_iload_n hC dX4_plateOrNull_0 rfl rfl ?_
  refine J_if_lt hC dX4_plateOrNull_1 (tgt := 13) (by decide) (fun c1 => ?_) (fun c1 => ?_)
  · refine J_null hC dX4_plateOrNull_13 ?_
    refine J_goto hC dX4_plateOrNull_14 (tgt := 23) (by decide) ?_
    refine J_aret hC (by decide) (by decide) (by first | exact Or.inl ⟨_, rfl⟩ | exact Or.inr ⟨_, rfl⟩) dX4_plateOrNull_23 ?_
    refine ⟨?_, rfl⟩
    rw [plN_out (ix_outF (n := 40) (by omega) (by omega) (by first | exact Or.inl c1 | exact Or.inr c10))]
  · refine J_iload_n hC dX4_plateOrNull_4 rfl rfl ?_
    refine J_aload_n hC dX4_plateOrNull_5 rfl rfl ?_
    refine J_get5 hC lf_X4_17 (j := 1) hM.tx (v := rv (mR M x 1)) rfl dX4_plateOrNull_6 ?_
    refine J_alen10 hC hM.tk1 dX4_plateOrNull_9 ?_
    rw [hM.lk1]
    refine J_icmp_lt hC dX4_plateOrNull_10 (tgt := 17) (by decide) (fun c10 => ?_) (fun c10 => ?_)
    · have hv := ix_inT (n := 40) (by omega) c1 c10
      have hvl := (isIx_ix hv).2
      refine J_aload_n hC dX4_plateOrNull_17 rfl rfl ?_
      refine J_get5 hC lf_X4_17 (j := 1) hM.tx (v := rv (mR M x 1)) rfl dX4_plateOrNull_18 ?_
      refine J_iload_n hC dX4_plateOrNull_21 rfl rfl ?_
      refine J_aald10 hC hM.tk1 (j := (ix v)) (isIx_ix hv).1 (by rw [hM.lk1]; omega) dX4_plateOrNull_22 ?_
      refine J_aret hC (by decide) (by decide) (by first | exact Or.inl ⟨_, rfl⟩ | exact Or.inr ⟨_, rfl⟩) dX4_plateOrNull_23 ?_
      refine ⟨?_, rfl⟩
      rw [hM.plN_in hv]
    · refine J_null hC dX4_plateOrNull_13 ?_
      refine J_goto hC dX4_plateOrNull_14 (tgt := 23) (by decide) ?_
      refine J_aret hC (by decide) (by decide) (by first | exact Or.inl ⟨_, rfl⟩ | exact Or.inr ⟨_, rfl⟩) dX4_plateOrNull_23 ?_
      refine ⟨?_, rfl⟩
      rw [plN_out (ix_outF (n := 40) (by omega) (by omega) (by first | exact Or.inl c1 | exact Or.inr c10))]
theorem ct_X4_plateAt {G : Gt} {l : Launch} (hst : l.stackTraces = false) {M : Mm} {x : Nat} {S : St} (hM : CAt M x S) (v : Int32) : Ct G l yX4_plateAt cX4_plateAt 3 (some (.object "PlateRegister$Plate")) 6 M [rv x, .int v] 1 6 (RQ M (some (rv (pA M x (ix v)))) (isIx v (sN S 2) = true)) (XQ M eNS (isIx v (sN S 2) = false)) := by
  refine Ct_intro (own := RX4) (nm := "plateAt") (by decide +kernel) rfl rfl hst (fun w hw => by simp only [List.mem_cons, List.not_mem_nil, or_false] at hw; rcases hw with rfl | rfl <;> first | rfl | exact rv_cat _) (Nat.le_of_ble_eq_true rfl) (fun γ hC => ?_)
  show J G γ M 0 [some (rv x), some (.int v)] [] 0 0
  refine J_t0 (fun ht0 => ?_)
  refine J_aload_n hC dX4_plateAt_0 rfl rfl ?_
  refine J_iload_n hC dX4_plateAt_1 rfl rfl ?_
  refine J_callV (k1 := 0) (n1 := 0) (kd := 5) [.int v] [.int v, rv x] hC lv_X4_319 (ct_X4_plateOrNull hst hM v) hM.tx (by decide) ⟨_, mE_5 hM.tx⟩ rfl rfl rfl (by simp only [List.map_cons, List.map_nil, rv_cat, Value.category, List.sum_cons, List.sum_nil]; decide) (by decide) rfl rfl (by decide) (by decide) dX4_plateAt_2 (fun E M9 h => h.elim) (fun v9 M9 hq9 => ?_)
  obtain ⟨rfl, e9⟩ := hq9
  rw [e9]; clear e9
  refine J_astore_n hC dX4_plateAt_5 rfl (by decide) (ls1 := [some (rv x), some (.int v), some (rv (plN M x S v))]) rfl ?_
  refine J_aload_n hC dX4_plateAt_6 rfl rfl ?_
  refine J_ifnonnull hC dX4_plateAt_7 (tgt := 21) (by decide) (fun c7 => ?_) (fun c7 => ?_)
  · refine J_aload_n hC dX4_plateAt_21 rfl rfl ?_
    refine J_aret hC (by decide) (by decide) (by first | exact Or.inl ⟨_, rfl⟩ | exact Or.inr ⟨_, rfl⟩) dX4_plateAt_22 ?_
    have hp := (hM.plN_nz ht0).mp c7
    rw [plN_y hp]
    exact ⟨rfl, rfl, hp⟩
  · refine J_throwNW hC (by decide +kernel : (RX4, 322, "there is no such plate") ∈ strT) (by decide) (by decide) (by decide) (by decide) dX4_plateAt_10 dX4_plateAt_13 dX4_plateAt_14 dX4_plateAt_17 dX4_plateAt_20 ?_
    exact ⟨rfl, rfl, hM.plN_n ht0 (by first | exact nn c7 | exact c7)⟩
theorem ct_X4_plateOf {G : Gt} {l : Launch} (hst : l.stackTraces = false) {M : Mm} {x : Nat} {S : St} (hM : CAt M x S) {a i : Nat} (hV : VeA M a i S) : Ct G l yX4_plateOf cX4_plateOf 2 (some (.object "PlateRegister$Plate")) 3 M [rv x, rv a] 0 0 (PQ M (rv (plN M x S (lastV (sT S 1 i))))) (noX) := by
  refine Ct_intro (own := RX4) (nm := "plateOf") (by decide +kernel) rfl rfl hst (fun w hw => by simp only [List.mem_cons, List.not_mem_nil, or_false] at hw; rcases hw with rfl | rfl <;> first | rfl | exact rv_cat _) (Nat.le_of_ble_eq_true rfl) (fun γ hC => ?_)
  show J G γ M 0 [some (rv x), some (rv a)] [] 0 0
  refine J_aload_n hC dX4_plateOf_0 rfl rfl ?_
  refine J_aload_n hC dX4_plateOf_1 rfl rfl ?_
  refine J_get4 hC lf_X4_99 (j := 3) hV.tg (v := rv (mR M a 3)) rfl dX4_plateOf_2 ?_
  refine J_callV (k1 := 0) (n1 := 0) (kd := 3) [] [rv (mR M a 3), rv x] hC lv_X4_103 (ct_X2_lastValue hst hV.T3) hV.k3 (by decide) ⟨_, mE_3 hV.k3⟩ rfl rfl rfl (by simp only [List.map_cons, List.map_nil, rv_cat, List.sum_cons, List.sum_nil]; (try simp only [Value.category]); (try omega)) (by decide) rfl rfl (by decide) (by decide) dX4_plateOf_5 (fun E M9 h => h.elim) (fun v9 M9 hq9 => ?_)
  obtain ⟨rfl, e9⟩ := hq9
  rw [e9]; clear e9
  refine J_callV (k1 := 0) (n1 := 0) (kd := 5) [.int (lastV (sT S 1 i))] [.int (lastV (sT S 1 i)), rv x] hC lv_X4_319 (ct_X4_plateOrNull hst hM _) hM.tx (by decide) ⟨_, mE_5 hM.tx⟩ rfl rfl rfl (by simp only [List.map_cons, List.map_nil, rv_cat, Value.category, List.sum_cons, List.sum_nil]; decide) (by decide) rfl rfl (by decide) (by decide) dX4_plateOf_8 (fun E M9 h => h.elim) (fun v9 M9 hq9 => ?_)
  obtain ⟨rfl, e9⟩ := hq9
  rw [e9]; clear e9
  refine J_aret hC (by decide) (by decide) (by first | exact Or.inl ⟨_, rfl⟩ | exact Or.inr ⟨_, rfl⟩) dX4_plateOf_11 ?_
  exact ⟨rfl, rfl⟩
theorem ct_X4_requireUnblocked {G : Gt} {l : Launch} (hst : l.stackTraces = false) {M : Mm} {S : St} {a i : Nat} (hV : VeA M a i S) (hs : sV S i 7 = 0 ∨ sV S i 7 = 1) : Ct G l yX4_requireUnblocked cX4_requireUnblocked 1 none 6 M [rv a] 1 6 (RQ M none (blk S i = false)) (XQ M eIS (blk S i = true)) := by
  refine Ct_intro (own := RX4) (nm := "requireUnblocked") (by decide +kernel) rfl rfl hst (fun w hw => by simp only [List.mem_cons, List.not_mem_nil, or_false] at hw; rcases hw with rfl <;> first | rfl | exact rv_cat _) (Nat.le_of_ble_eq_true rfl) (fun γ hC => ?_)
  show J G γ M 0 [some (rv a)] [] 0 0
  refine J_aload_n hC dX4_requireUnblocked_0 rfl rfl ?_
  refine J_callV (k1 := 0) (n1 := 0) (kd := 4) [] [rv a] hC lv_X4_228 (ct_X3_isBlockedNow hst hV hs) hV.tg (by decide) ⟨_, mE_4 hV.tg⟩ rfl rfl rfl (by simp only [List.map_cons, List.map_nil, rv_cat, Value.category, List.sum_cons, List.sum_nil]; decide) (by decide) rfl rfl (by decide) (by decide) dX4_requireUnblocked_1 (fun E M9 h => h.elim) (fun v9 M9 hq9 => ?_)
  obtain ⟨rfl, e9⟩ := hq9
  rw [e9]; clear e9
  refine J_if_eq hC dX4_requireUnblocked_4 (tgt := 18) (by decide) (fun c4 => ?_) (fun c4 => ?_)
  · have b4 : (blk S i) = false := bz_eq0 c4
    refine J_vret hC (by decide) (by decide) dX4_requireUnblocked_18 ?_
    exact ⟨rfl, rfl, b4⟩
  · have b4 : (blk S i) = true := bz_ne0 c4
    refine J_throwW hC lt_41 (by decide +kernel : (RX4, 339, "the vehicle is blocked") ∈ strT) (by decide) (by decide) (by decide) (by decide) dX4_requireUnblocked_7 dX4_requireUnblocked_10 dX4_requireUnblocked_11 dX4_requireUnblocked_14 dX4_requireUnblocked_17 ?_
    exact ⟨rfl, rfl, b4⟩
theorem ct_X4_requirePlateToChange {G : Gt} {l : Launch} (hst : l.stackTraces = false) {M : Mm} {x : Nat} {S : St} (hM : CAt M x S) {a i : Nat} (hV : VeA M a i S) (hs : sV S i 7 = 0 ∨ sV S i 7 = 1) : Ct G l yX4_requirePlateToChange cX4_requirePlateToChange 3 (some (.object "PlateRegister$Plate")) 6 M [rv x, rv a] 1 6 (RQ M (some (rv (pA M x (ix (lastV (sT S 1 i)))))) (isIx (lastV (sT S 1 i)) (sN S 2) = true ∧ blk S i = false)) (XQ M eIS (isIx (lastV (sT S 1 i)) (sN S 2) = false ∨ blk S i = true)) := by
  refine Ct_intro (own := RX4) (nm := "requirePlateToChange") (by decide +kernel) rfl rfl hst (fun w hw => by simp only [List.mem_cons, List.not_mem_nil, or_false] at hw; rcases hw with rfl | rfl <;> first | rfl | exact rv_cat _) (Nat.le_of_ble_eq_true rfl) (fun γ hC => ?_)
  show J G γ M 0 [some (rv x), some (rv a)] [] 0 0
  refine J_t0 (fun ht0 => ?_)
  refine J_aload_n hC dX4_requirePlateToChange_0 rfl rfl ?_
  refine J_aload_n hC dX4_requirePlateToChange_1 rfl rfl ?_
  refine J_callV (k1 := 0) (n1 := 0) (kd := 5) [rv a] [rv a, rv x] hC lv_X4_135 (ct_X4_plateOf hst hM hV) hM.tx (by decide) ⟨_, mE_5 hM.tx⟩ rfl rfl rfl (by simp only [List.map_cons, List.map_nil, rv_cat, Value.category, List.sum_cons, List.sum_nil]; decide) (by decide) rfl rfl (by decide) (by decide) dX4_requirePlateToChange_2 (fun E M9 h => h.elim) (fun v9 M9 hq9 => ?_)
  obtain ⟨rfl, e9⟩ := hq9
  rw [e9]; clear e9
  refine J_astore_n hC dX4_requirePlateToChange_5 rfl (by decide) (ls1 := [some (rv x), some (rv a), some (rv (plN M x S (lastV (sT S 1 i))))]) rfl ?_
  refine J_aload_n hC dX4_requirePlateToChange_6 rfl rfl ?_
  refine J_ifnull hC dX4_requirePlateToChange_7 (tgt := 17) (by decide) (fun c7 => ?_) (fun c7 => ?_)
  · refine J_throwW hC lt_41 (by decide +kernel : (RX4, 341, "the vehicle is blocked or has no plate") ∈ strT) (by decide) (by decide) (by decide) (by decide) dX4_requirePlateToChange_17 dX4_requirePlateToChange_20 dX4_requirePlateToChange_21 dX4_requirePlateToChange_24 dX4_requirePlateToChange_27 ?_
    exact ⟨rfl, rfl, by first | exact Or.inr b14 | exact Or.inl (hM.plN_n ht0 (by first | exact nn c7 | exact c7))⟩
  · refine J_aload_n hC dX4_requirePlateToChange_10 rfl rfl ?_
    refine J_callV (k1 := 0) (n1 := 0) (kd := 4) [] [rv a] hC lv_X4_228 (ct_X3_isBlockedNow hst hV hs) hV.tg (by decide) ⟨_, mE_4 hV.tg⟩ rfl rfl rfl (by simp only [List.map_cons, List.map_nil, rv_cat, Value.category, List.sum_cons, List.sum_nil]; decide) (by decide) rfl rfl (by decide) (by decide) dX4_requirePlateToChange_11 (fun E M9 h => h.elim) (fun v9 M9 hq9 => ?_)
    obtain ⟨rfl, e9⟩ := hq9
    rw [e9]; clear e9
    refine J_if_eq hC dX4_requirePlateToChange_14 (tgt := 28) (by decide) (fun c14 => ?_) (fun c14 => ?_)
    · have b14 : (blk S i) = false := bz_eq0 c14
      refine J_aload_n hC dX4_requirePlateToChange_28 rfl rfl ?_
      refine J_aret hC (by decide) (by decide) (by first | exact Or.inl ⟨_, rfl⟩ | exact Or.inr ⟨_, rfl⟩) dX4_requirePlateToChange_29 ?_
      have hp := (hM.plN_nz ht0).mp (by first | exact c7 | exact fun h => c7 h)
      rw [plN_y hp]
      exact ⟨rfl, rfl, hp, b14⟩
    · have b14 : (blk S i) = true := bz_ne0 c14
      refine J_throwW hC lt_41 (by decide +kernel : (RX4, 341, "the vehicle is blocked or has no plate") ∈ strT) (by decide) (by decide) (by decide) (by decide) dX4_requirePlateToChange_17 dX4_requirePlateToChange_20 dX4_requirePlateToChange_21 dX4_requirePlateToChange_24 dX4_requirePlateToChange_27 ?_
      exact ⟨rfl, rfl, by first | exact Or.inr b14 | exact Or.inl (hM.plN_n ht0 (by first | exact nn c7 | exact c7))⟩
theorem ct_X4_requireLien {G : Gt} {l : Launch} (hst : l.stackTraces = false) {M : Mm} {S : St} {a i : Nat} (hV : VeA M a i S) (c : Int32) (hc : 0 ≤ c.toInt ∧ c.toInt < 65536) : Ct G l yX4_requireLien cX4_requireLien 3 (some .int) 6 M [rv a, .int c] 1 6 (RQ M (some (.int (lienQ S i c))) (lienQ S i c ≠ 0)) (XQ M eNS (lienQ S i c = 0)) := by
  refine Ct_intro (own := RX4) (nm := "requireLien") (by decide +kernel) rfl rfl hst (fun w hw => by simp only [List.mem_cons, List.not_mem_nil, or_false] at hw; rcases hw with rfl | rfl <;> first | rfl | exact rv_cat _) (Nat.le_of_ble_eq_true rfl) (fun γ hC => ?_)
  show J G γ M 0 [some (rv a), some (.int c)] [] 0 0
  refine J_aload_n hC dX4_requireLien_0 rfl rfl ?_
  refine J_iload_n hC dX4_requireLien_1 rfl rfl ?_
  refine J_callV (k1 := 0) (n1 := 0) (kd := 4) [.int c] [.int c, rv a] hC lv_X4_215 (ct_X3_lienLeft hst hV c hc) hV.tg (by decide) ⟨_, mE_4 hV.tg⟩ rfl rfl rfl (by simp only [List.map_cons, List.map_nil, rv_cat, Value.category, List.sum_cons, List.sum_nil]; decide) (by decide) rfl rfl (by decide) (by decide) dX4_requireLien_2 (fun E M9 h => h.elim) (fun v9 M9 hq9 => ?_)
  obtain ⟨rfl, e9⟩ := hq9
  rw [e9]; clear e9
  refine J_istore_n hC dX4_requireLien_5 rfl (by decide) (ls1 := [some (rv a), some (.int c), some (.int (lienQ S i c))]) rfl ?_
  refine J_iload_n hC dX4_requireLien_6 rfl rfl ?_
  refine J_if_ne hC dX4_requireLien_7 (tgt := 21) (by decide) (fun c7 => ?_) (fun c7 => ?_)
  · refine J_iload_n hC dX4_requireLien_21 rfl rfl ?_
    refine J_iret hC (by decide) (by decide) dX4_requireLien_22 ?_
    exact ⟨rfl, rfl, c7⟩
  · refine J_throwNW hC (by decide +kernel : (RX4, 343, "the lender has no lien on this vehicle") ∈ strT) (by decide) (by decide) (by decide) (by decide) dX4_requireLien_10 dX4_requireLien_13 dX4_requireLien_14 dX4_requireLien_17 dX4_requireLien_20 ?_
    exact ⟨rfl, rfl, by first | exact nn c7 | exact c7⟩
