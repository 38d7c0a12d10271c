/-! the register made -/
def ckd (k : Nat) : Nat := if k = 0 then 9 else if k = 1 then 10 else if k = 2 then 11 else 7
def ctg (k : Nat) : Nat := if k < 3 then 0 else k - 2
def cln (k : Nat) : Nat := if k = 0 then 15 else if k = 1 then 40 else if k = 2 then 120 else 12
def Bc (M0 : Mm) (x i : Nat) (M : Mm) : Prop := mT M x = (5, 0) ∧ (∀ k, mI M x k = 0) ∧ (∀ k, mJ M x k = 0) ∧ (∀ k, k < i → mT M (mR M x k) = (ckd k, ctg k) ∧ mL M (mR M x k) = cln k ∧ (∀ j, mI M (mR M x k) j = 0) ∧ ∀ j, mR M (mR M x k) j = 0) ∧ Fr pC M0 M
theorem Bc.ne {M0 M : Mm} {x i q : Nat} (h : Bc M0 x i M) (hq : (mT M q).1 = 0) : x ≠ q := fun e => by
  have h1 := h.1
  rw [e] at h1
  rw [h1] at hq
  exact absurd hq (by decide)
theorem Bc.nt {M0 M : Mm} {x i q : Nat} (h : Bc M0 x i M) (hq : (mT M q).1 = 0) (t : Nat × Nat) (n : Nat) : (mT (nwM M q t n) x).1 = 5 := by
  show (va_up (mT M) q t x).1 = 5
  rw [va_up_ne _ _ (h.ne hq), h.1]
theorem Bc.step {M0 M : Mm} {x i q : Nat} (h : Bc M0 x i M) (hq : (mT M q).1 = 0) : Bc M0 x (i + 1) (pR (nwM M q (ckd i, ctg i) (cln i)) x i q) := by
  have hne := h.ne hq
  have hnt := h.nt hq (ckd i, ctg i) (cln i)
  obtain ⟨h1, h2, h3, h4, h5⟩ := h
  refine ⟨?_, fun k => ?_, fun k => ?_, fun k g2 => ?_, h5.trans ((Fr.nw hq).trans (Fr.pR (Or.inl (by rw [hnt]; decide))))⟩
  · show va_up (mT M) q _ x = _
    rw [va_up_ne _ _ hne, h1]
  · show (if x = q then 0 else mI M x k) = 0
    rw [if_neg hne, h2]
  · show (if x = q then 0 else mJ M x k) = 0
    rw [if_neg hne, h3]
  · by_cases e : k = i
    · subst e
      have e1 : mR (pR (nwM M q (ckd k, ctg k) (cln k)) x k q) x k = q := up2_same _ _ _ _
      rw [e1]
      refine ⟨va_up_self _ _ _, va_up_self _ _ _, fun j => ?_, fun j => ?_⟩
      · show (if q = q then 0 else mI M q j) = 0
        rw [if_pos rfl]
      · refine (up2_b _ _ _ _ (Ne.symm hne)).trans ?_
        show (if q = q then 0 else mR M q j) = 0
        rw [if_pos rfl]
    · have e1 : mR (pR (nwM M q (ckd i, ctg i) (cln i)) x i q) x k = mR M x k := by
        refine (up2_k _ _ _ e).trans ?_
        show (if x = q then 0 else mR M x k) = _
        rw [if_neg hne]
      obtain ⟨k1, k2, k3, k4⟩ := h4 k (by omega)
      have hn2 : mR M x k ≠ q := fun e2 => by
        rw [e2] at k1
        rw [k1] at hq
        have h7 : ckd k = 0 := hq
        unfold ckd at h7
        split at h7
        · cases h7
        · split at h7
          · cases h7
          · split at h7 <;> cases h7
      have hn3 : mR M x k ≠ x := fun e2 => by
        rw [e2, h1] at k1
        have h7 : (5 : Nat) = ckd k := congrArg Prod.fst k1
        unfold ckd at h7
        split at h7
        · cases h7
        · split at h7
          · cases h7
          · split at h7 <;> cases h7
      rw [e1]
      refine ⟨(va_up_ne _ _ hn2).trans k1, (va_up_ne _ _ hn2).trans k2, fun j => ?_, fun j => ?_⟩
      · show (if mR M x k = q then 0 else mI M (mR M x k) j) = 0
        rw [if_neg hn2, k3]
      · refine (up2_b _ _ _ _ hn3).trans ?_
        show (if mR M x k = q then 0 else mR M (mR M x k) j) = 0
        rw [if_neg hn2, k4]
theorem Bc.done {M0 M : Mm} {x : Nat} (h : Bc M0 x 6 M) : CAt M x S0 ∧ Fr pC M0 M := by
  obtain ⟨h1, h2, h3, h4, h5⟩ := h
  refine ⟨⟨⟨h1, ⟨(h4 0 (by decide)).1, (h4 0 (by decide)).2.1⟩, ⟨(h4 1 (by decide)).1, (h4 1 (by decide)).2.1⟩, ⟨(h4 2 (by decide)).1, (h4 2 (by decide)).2.1⟩, ⟨(h4 3 (by decide)).1, (h4 3 (by decide)).2.1⟩, ⟨(h4 4 (by decide)).1, (h4 4 (by decide)).2.1⟩, ⟨(h4 5 (by decide)).1, (h4 5 (by decide)).2.1⟩⟩, ⟨h2 6, h2 7, h2 8, h2 9, h2 10, h3 11⟩, fun k _ => (h4 3 (by decide)).2.2.1 k, ⟨fun i hi => absurd hi (Nat.not_lt_zero _), fun i _ _ => (h4 0 (by decide)).2.2.2 i⟩, ⟨fun i hi => absurd hi (Nat.not_lt_zero _), fun i _ _ => (h4 1 (by decide)).2.2.2 i⟩, ⟨fun i hi => absurd hi (Nat.not_lt_zero _), fun i _ _ => (h4 2 (by decide)).2.2.2 i⟩, Nat.zero_le _, Nat.zero_le _, Nat.zero_le _, Nat.zero_le _⟩, h5⟩
theorem ct_X4_init {G : Gt} {l : Launch} (hst : l.stackTraces = false) {M : Mm} {x : Nat} (hx0 : x ≠ 0) (hb : Bc M x 0 M) : Ct G l yX4_init cX4_init 1 none 2 M [rv x] 6 211 (fun r9 M9 => r9 = none ∧ CAt M9 x S0 ∧ Fr pC M M9) (noX) := by
  refine Ct_intro (own := RX4) (nm := "<init>") (by decide +kernel) rfl rfl hst (fun w hw => by simp only [List.mem_cons, List.not_mem_nil, or_false] at hw; rcases hw with rfl <;> first | rfl | exact rv_cat _) (Nat.le_of_ble_eq_true rfl) (fun γ hC => ?_)
  show J G γ M 0 [some (rv x)] [] 0 0
  refine J_aload_n hC dX4_init_0 rfl rfl ?_
  refine J_objInit hC lo_X4_1 lo_inst lo_code hx0 (by decide) (by decide) dX4_init_1 ?_
  refine J_aload_n hC dX4_init_4 rfl rfl ?_
  refine J_bipush hC dX4_init_5 (v := 15) (by decide) ?_
  refine J_newA9 0 (N := 15) (k1 := 1) (n1 := 15) hC lc_X4_9 (by decide) (by decide) rfl rfl (by decide) (by decide) dX4_init_7 (fun q0 hq0 hz0 => ?_)
  refine J_put5_0 hC lf_X4_11 (hb.nt hq0 _ _) rfl rfl dX4_init_10 ?_
  have hb0 := hb.step hq0
  have eg0 : pR (nwM M q0 (9, 0) 15) x 0 q0 = pR (nwM M q0 (ckd 0, ctg 0) (cln 0)) x 0 q0 := rfl
  rw [eg0]; clear eg0
  generalize pR (nwM M q0 (ckd 0, ctg 0) (cln 0)) x 0 q0 = M0 at *
  refine J_aload_n hC dX4_init_13 rfl rfl ?_
  refine J_bipush hC dX4_init_14 (v := 40) (by decide) ?_
  refine J_newA10 0 (N := 40) (k1 := 2) (n1 := 55) hC lc_X4_15 (by decide) (by decide) rfl rfl (by decide) (by decide) dX4_init_16 (fun q1 hq1 hz1 => ?_)
  refine J_put5_1 hC lf_X4_17 (hb0.nt hq1 _ _) rfl rfl dX4_init_19 ?_
  have hb1 := hb0.step hq1
  have eg1 : pR (nwM M0 q1 (10, 0) 40) x 1 q1 = pR (nwM M0 q1 (ckd 1, ctg 1) (cln 1)) x 1 q1 := rfl
  rw [eg1]; clear eg1
  generalize pR (nwM M0 q1 (ckd 1, ctg 1) (cln 1)) x 1 q1 = M1 at *
  refine J_aload_n hC dX4_init_22 rfl rfl ?_
  refine J_bipush hC dX4_init_23 (v := 120) (by decide) ?_
  refine J_newA11 0 (N := 120) (k1 := 3) (n1 := 175) hC lc_X4_21 (by decide) (by decide) rfl rfl (by decide) (by decide) dX4_init_25 (fun q2 hq2 hz2 => ?_)
  refine J_put5_2 hC lf_X4_23 (hb1.nt hq2 _ _) rfl rfl dX4_init_28 ?_
  have hb2 := hb1.step hq2
  have eg2 : pR (nwM M1 q2 (11, 0) 120) x 2 q2 = pR (nwM M1 q2 (ckd 2, ctg 2) (cln 2)) x 2 q2 := rfl
  rw [eg2]; clear eg2
  generalize pR (nwM M1 q2 (ckd 2, ctg 2) (cln 2)) x 2 q2 = M2 at *
  refine J_aload_n hC dX4_init_31 rfl rfl ?_
  refine J_bipush hC dX4_init_32 (v := 12) (by decide) ?_
  refine J_newI 1 (N := 12) (k1 := 4) (n1 := 187) hC ac_int (by decide) (by decide) rfl rfl (by decide) (by decide) dX4_init_34 (fun q3 hq3 hz3 => ?_)
  refine J_put5_3 hC lf_X4_27 (hb2.nt hq3 _ _) rfl rfl dX4_init_36 ?_
  have hb3 := hb2.step hq3
  have eg3 : pR (nwM M2 q3 (7, 1) 12) x 3 q3 = pR (nwM M2 q3 (ckd 3, ctg 3) (cln 3)) x 3 q3 := rfl
  rw [eg3]; clear eg3
  generalize pR (nwM M2 q3 (ckd 3, ctg 3) (cln 3)) x 3 q3 = M3 at *
  refine J_aload_n hC dX4_init_39 rfl rfl ?_
  refine J_bipush hC dX4_init_40 (v := 12) (by decide) ?_
  refine J_newI 2 (N := 12) (k1 := 5) (n1 := 199) hC ac_int (by decide) (by decide) rfl rfl (by decide) (by decide) dX4_init_42 (fun q4 hq4 hz4 => ?_)
  refine J_put5_4 hC lf_X4_31 (hb3.nt hq4 _ _) rfl rfl dX4_init_44 ?_
  have hb4 := hb3.step hq4
  have eg4 : pR (nwM M3 q4 (7, 2) 12) x 4 q4 = pR (nwM M3 q4 (ckd 4, ctg 4) (cln 4)) x 4 q4 := rfl
  rw [eg4]; clear eg4
  generalize pR (nwM M3 q4 (ckd 4, ctg 4) (cln 4)) x 4 q4 = M4 at *
  refine J_aload_n hC dX4_init_47 rfl rfl ?_
  refine J_bipush hC dX4_init_48 (v := 12) (by decide) ?_
  refine J_newI 3 (N := 12) (k1 := 6) (n1 := 211) hC ac_int (by decide) (by decide) rfl rfl (by decide) (by decide) dX4_init_50 (fun q5 hq5 hz5 => ?_)
  refine J_put5_5 hC lf_X4_34 (hb4.nt hq5 _ _) rfl rfl dX4_init_52 ?_
  have hb5 := hb4.step hq5
  have eg5 : pR (nwM M4 q5 (7, 3) 12) x 5 q5 = pR (nwM M4 q5 (ckd 5, ctg 5) (cln 5)) x 5 q5 := rfl
  rw [eg5]; clear eg5
  generalize pR (nwM M4 q5 (ckd 5, ctg 5) (cln 5)) x 5 q5 = M5 at *
  refine J_vret hC (by decide) (by decide) dX4_init_55 ?_
  exact ⟨rfl, hb5.done⟩
