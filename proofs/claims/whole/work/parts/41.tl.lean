/-! the class's timelines -/
def TlA (M : Mm) (a c : Nat) (l : Tl) : Prop := mT M a = (3, c) ∧ mT M (mR M a 0) = (7, 100 + 2 * c) ∧ mT M (mR M a 1) = (7, 101 + 2 * c) ∧ mI M a 2 = nI l.length ∧ ∃ cap, mL M (mR M a 0) = cap ∧ mL M (mR M a 1) = cap ∧ l.length ≤ cap ∧ 4 ≤ cap ∧ cap ≤ 2 * l.length + 4 ∧ l.length ≤ 1100 ∧ ∀ j, j < l.length → mI M (mR M a 0) j = (l.getD j (0, 0)).1 ∧ mI M (mR M a 1) j = (l.getD j (0, 0)).2
def dayI (l : Tl) (i : Int32) : Int32 := if isIx i l.length = true then (l.getD (ix i) (0, 0)).1 else -1
def valI (l : Tl) (i : Int32) : Int32 := if isIx i l.length = true then (l.getD (ix i) (0, 0)).2 else -1
theorem ix_rng {i : Int32} {n : Nat} (hn : n < 2 ^ 31) (h : ¬ i < 0) (h2 : ¬ nI n ≤ i) : isIx i n = true := by
  have h0 : (0 : Int32).toInt = 0 := by decide
  rw [i_lt, h0] at h
  rw [i_le, nI_toInt hn] at h2
  rw [isIx_iff]; omega
theorem ix_out {i : Int32} {n : Nat} (hn : n < 2 ^ 31) (h : i < 0 ∨ nI n ≤ i) : ¬ isIx i n = true := by
  have h0 : (0 : Int32).toInt = 0 := by decide
  rw [isIx_iff]
  rcases h with h | h
  · rw [i_lt, h0] at h; omega
  · rw [i_le, nI_toInt hn] at h; omega
theorem le_of_ix {i : Int32} {n cap : Nat} (h : nI cap ≤ i) (hi : isIx i n = true) (hl : n ≤ cap) (hb : n ≤ 1100) (hc : cap ≤ 2 * n + 4) : False := by
  have h1 := (isIx_ix hi).1
  have h2 := (isIx_ix hi).2
  rw [i_le, nI_toInt (by omega)] at h
  omega
theorem ct_X2_dayAt {G : Gt} {l : Launch} (hst : l.stackTraces = false) {M : Mm} {a c : Nat} {l9 : Tl} (hT : TlA M a c l9) (i : Int32) : Ct G l yX2_dayAt cX2_dayAt 2 (some .int) 1 M [rv a, .int i] 0 0 (PQ M (.int (dayI l9 i))) (noX) := by
  obtain ⟨t0, t1, t2, s2, cap, hc0, hc1, hl, h4, hcap, hb, hj⟩ := id hT
  have g0 : (mT M a).1 = 3 := by rw [t0]
  have g1 : (mT M (mR M a 0)).1 = 7 := by rw [t1]
  have g2 : (mT M (mR M a 1)).1 = 7 := by rw [t2]
  refine Ct_intro (own := RX2) (nm := "dayAt") (by decide +kernel) rfl rfl hst (fun w hw => by simp only [List.mem_cons, List.not_mem_nil, or_false] at hw; rcases hw with rfl | rfl <;> first | rfl | exact rv_cat _) (Nat.le_of_ble_eq_true rfl) (fun γ hC => ?_)
  show J G γ M 0 [some (rv a), some (.int i)] [] 0 0
  refine J_iload_n hC dX2_dayAt_0 rfl rfl ?_
  refine J_if_lt hC dX2_dayAt_1 (tgt := 30) (by decide) (fun c1 => ?_) (fun c1 => ?_)
  · refine J_iconst hC dX2_dayAt_30 (v := -1) (by decide) ?_
    refine J_iret hC (by decide) (by decide) dX2_dayAt_31 ?_
    refine ⟨?_, rfl⟩
    unfold dayI
    rw [if_neg (ix_out (by omega) (by first | exact Or.inl c1 | exact Or.inr c9))]
  · refine J_iload_n hC dX2_dayAt_4 rfl rfl ?_
    refine J_aload_n hC dX2_dayAt_5 rfl rfl ?_
    refine J_get3 hC lf_X2_18 (j := 2) g0 (v := .int (nI l9.length)) (congrArg (fun z => some (Value.int z)) s2) dX2_dayAt_6 ?_
    refine J_icmp_ge hC dX2_dayAt_9 (tgt := 30) (by decide) (fun c9 => ?_) (fun c9 => ?_)
    · refine J_iconst hC dX2_dayAt_30 (v := -1) (by decide) ?_
      refine J_iret hC (by decide) (by decide) dX2_dayAt_31 ?_
      refine ⟨?_, rfl⟩
      unfold dayI
      rw [if_neg (ix_out (by omega) (by first | exact Or.inl c1 | exact Or.inr c9))]
    · have hix := ix_rng (by omega) c1 c9
      have hxx := (isIx_ix hix).2
      refine J_iload_n hC dX2_dayAt_12 rfl rfl ?_
      refine J_aload_n hC dX2_dayAt_13 rfl rfl ?_
      refine J_get3 hC lf_X2_11 (j := 0) g0 (v := rv (mR M a 0)) rfl dX2_dayAt_14 ?_
      refine J_alen7 hC g1 dX2_dayAt_17 ?_
      rw [hc0]
      refine J_icmp_ge hC dX2_dayAt_18 (tgt := 30) (by decide) (fun c18 => ?_) (fun c18 => ?_)
      · exact absurd (le_of_ix c18 hix hl hb hcap) id
      · refine J_aload_n hC dX2_dayAt_21 rfl rfl ?_
        refine J_get3 hC lf_X2_11 (j := 0) g0 (v := rv (mR M a 0)) rfl dX2_dayAt_22 ?_
        refine J_iload_n hC dX2_dayAt_25 rfl rfl ?_
        refine J_iald hC g1 (j := (ix i)) (isIx_ix hix).1 (by rw [hc0]; omega) dX2_dayAt_26 ?_
        refine J_goto hC dX2_dayAt_27 (tgt := 31) (by decide) ?_
        refine J_iret hC (by decide) (by decide) dX2_dayAt_31 ?_
        refine ⟨?_, rfl⟩
        unfold dayI
        rw [if_pos hix, ← (hj _ hxx).1]
theorem ct_X2_valueAt {G : Gt} {l : Launch} (hst : l.stackTraces = false) {M : Mm} {a c : Nat} {l9 : Tl} (hT : TlA M a c l9) (i : Int32) : Ct G l yX2_valueAt cX2_valueAt 2 (some .int) 1 M [rv a, .int i] 0 0 (PQ M (.int (valI l9 i))) (noX) := by
  obtain ⟨t0, t1, t2, s2, cap, hc0, hc1, hl, h4, hcap, hb, hj⟩ := id hT
  have g0 : (mT M a).1 = 3 := by rw [t0]
  have g1 : (mT M (mR M a 0)).1 = 7 := by rw [t1]
  have g2 : (mT M (mR M a 1)).1 = 7 := by rw [t2]
  refine Ct_intro (own := RX2) (nm := "valueAt") (by decide +kernel) rfl rfl hst (fun w hw => by simp only [List.mem_cons, List.not_mem_nil, or_false] at hw; rcases hw with rfl | rfl <;> first | rfl | exact rv_cat _) (Nat.le_of_ble_eq_true rfl) (fun γ hC => ?_)
  show J G γ M 0 [some (rv a), some (.int i)] [] 0 0
  refine J_iload_n hC dX2_valueAt_0 rfl rfl ?_
  refine J_if_lt hC dX2_valueAt_1 (tgt := 30) (by decide) (fun c1 => ?_) (fun c1 => ?_)
  · refine J_iconst hC dX2_valueAt_30 (v := -1) (by decide) ?_
    refine J_iret hC (by decide) (by decide) dX2_valueAt_31 ?_
    refine ⟨?_, rfl⟩
    unfold valI
    rw [if_neg (ix_out (by omega) (by first | exact Or.inl c1 | exact Or.inr c9))]
  · refine J_iload_n hC dX2_valueAt_4 rfl rfl ?_
    refine J_aload_n hC dX2_valueAt_5 rfl rfl ?_
    refine J_get3 hC lf_X2_18 (j := 2) g0 (v := .int (nI l9.length)) (congrArg (fun z => some (Value.int z)) s2) dX2_valueAt_6 ?_
    refine J_icmp_ge hC dX2_valueAt_9 (tgt := 30) (by decide) (fun c9 => ?_) (fun c9 => ?_)
    · refine J_iconst hC dX2_valueAt_30 (v := -1) (by decide) ?_
      refine J_iret hC (by decide) (by decide) dX2_valueAt_31 ?_
      refine ⟨?_, rfl⟩
      unfold valI
      rw [if_neg (ix_out (by omega) (by first | exact Or.inl c1 | exact Or.inr c9))]
    · have hix := ix_rng (by omega) c1 c9
      have hxx := (isIx_ix hix).2
      refine J_iload_n hC dX2_valueAt_12 rfl rfl ?_
      refine J_aload_n hC dX2_valueAt_13 rfl rfl ?_
      refine J_get3 hC lf_X2_15 (j := 1) g0 (v := rv (mR M a 1)) rfl dX2_valueAt_14 ?_
      refine J_alen7 hC g2 dX2_valueAt_17 ?_
      rw [hc1]
      refine J_icmp_ge hC dX2_valueAt_18 (tgt := 30) (by decide) (fun c18 => ?_) (fun c18 => ?_)
      · exact absurd (le_of_ix c18 hix hl hb hcap) id
      · refine J_aload_n hC dX2_valueAt_21 rfl rfl ?_
        refine J_get3 hC lf_X2_15 (j := 1) g0 (v := rv (mR M a 1)) rfl dX2_valueAt_22 ?_
        refine J_iload_n hC dX2_valueAt_25 rfl rfl ?_
        refine J_iald hC g2 (j := (ix i)) (isIx_ix hix).1 (by rw [hc1]; omega) dX2_valueAt_26 ?_
        refine J_goto hC dX2_valueAt_27 (tgt := 31) (by decide) ?_
        refine J_iret hC (by decide) (by decide) dX2_valueAt_31 ?_
        refine ⟨?_, rfl⟩
        unfold valI
        rw [if_pos hix, ← (hj _ hxx).2]
