/-! the reference made -/
def mkd (k : Nat) : Nat := if k = 13 ∨ k = 14 ∨ k = 26 ∨ k = 32 then 8 else 7
def mlen (k : Nat) : Nat := if k = 10 then 12 else if k = 11 ∨ k = 13 ∨ k = 14 then 15 else if k = 12 then 90 else if k < 18 then 80 else if k < 24 then 120 else if k < 27 then 520 else if k < 30 then 1100 else 40
def Bd (M0 : Mm) (m i : Nat) (M : Mm) : Prop := mT M m = (6, 0) ∧ (∀ k, mI M m k = 0) ∧ (∀ k, mJ M m k = 0) ∧ (∀ k, 10 ≤ k → k < i → mT M (mR M m k) = (mkd k, 1000 + k) ∧ mL M (mR M m k) = mlen k ∧ ∀ j, mI M (mR M m k) j = 0) ∧ Fr pM M0 M
theorem Bd.ne {M0 M : Mm} {m i q : Nat} (h : Bd M0 m i M) (hq : (mT M q).1 = 0) : m ≠ q := fun e => by
  have h1 := h.1
  rw [e] at h1
  rw [h1] at hq
  exact absurd hq (by decide)
theorem Bd.nt {M0 M : Mm} {m i q : Nat} (h : Bd M0 m i M) (hq : (mT M q).1 = 0) (t : Nat × Nat) (n : Nat) : (mT (nwM M q t n) m).1 = 6 := by
  show (va_up (mT M) q t m).1 = 6
  rw [va_up_ne _ _ (h.ne hq), h.1]
theorem Bd.step {M0 M : Mm} {m i q : Nat} (h : Bd M0 m i M) (hq : (mT M q).1 = 0) (hi : 10 ≤ i) : Bd M0 m (i + 1) (pR (nwM M q (mkd i, 1000 + i) (mlen i)) m i q) := by
  have hne := h.ne hq
  have hnt := h.nt hq (mkd i, 1000 + i) (mlen i)
  obtain ⟨h1, h2, h3, h4, h5⟩ := h
  refine ⟨?_, fun k => ?_, fun k => ?_, fun k g1 g2 => ?_, h5.trans ((Fr.nw hq).trans (Fr.pR (Or.inl hnt)))⟩
  · show va_up (mT M) q _ m = _
    rw [va_up_ne _ _ hne, h1]
  · show (if m = q then 0 else mI M m k) = 0
    rw [if_neg hne, h2]
  · show (if m = q then 0 else mJ M m k) = 0
    rw [if_neg hne, h3]
  · by_cases e : k = i
    · subst e
      have e1 : mR (pR (nwM M q (mkd k, 1000 + k) (mlen k)) m k q) m k = q := up2_same _ _ _ _
      rw [e1]
      refine ⟨va_up_self _ _ _, va_up_self _ _ _, fun j => ?_⟩
      show (if q = q then 0 else mI M q j) = 0
      rw [if_pos rfl]
    · have e1 : mR (pR (nwM M q (mkd i, 1000 + i) (mlen i)) m i q) m k = mR M m k := by
        refine (up2_k _ _ _ e).trans ?_
        show (if m = q then 0 else mR M m k) = _
        rw [if_neg hne]
      obtain ⟨k1, k2, k3⟩ := h4 k g1 (by omega)
      have hn2 : mR M m k ≠ q := fun e2 => by
        rw [e2] at k1
        rw [k1] at hq
        have h7 : mkd k = 0 := hq
        unfold mkd at h7
        split at h7 <;> cases h7
      rw [e1]
      refine ⟨(va_up_ne _ _ hn2).trans k1, (va_up_ne _ _ hn2).trans k2, fun j => ?_⟩
      show (if mR M m k = q then 0 else mI M (mR M m k) j) = 0
      rw [if_neg hn2, k3]
def S0 : St := (fun _ => 0, 0, 0, fun _ => 0, fun _ _ => 0, fun _ _ => 0, fun _ _ => [], fun _ _ => -1, fun _ _ => 0)
theorem Bd.done {M0 M : Mm} {m : Nat} (h : Bd M0 m 33 M) : MAt M m S0 0 ∧ Fr pM M0 M := by
  obtain ⟨h1, h2, h3, h4, h5⟩ := h
  refine ⟨⟨⟨h1, ⟨(h4 10 (by decide) (by decide)).1, (h4 10 (by decide) (by decide)).2.1⟩, ⟨(h4 11 (by decide) (by decide)).1, (h4 11 (by decide) (by decide)).2.1⟩, ⟨(h4 12 (by decide) (by decide)).1, (h4 12 (by decide) (by decide)).2.1⟩, ⟨(h4 13 (by decide) (by decide)).1, (h4 13 (by decide) (by decide)).2.1⟩, ⟨(h4 14 (by decide) (by decide)).1, (h4 14 (by decide) (by decide)).2.1⟩, ⟨(h4 15 (by decide) (by decide)).1, (h4 15 (by decide) (by decide)).2.1⟩, ⟨(h4 16 (by decide) (by decide)).1, (h4 16 (by decide) (by decide)).2.1⟩, ⟨(h4 17 (by decide) (by decide)).1, (h4 17 (by decide) (by decide)).2.1⟩, ⟨(h4 18 (by decide) (by decide)).1, (h4 18 (by decide) (by decide)).2.1⟩, ⟨(h4 19 (by decide) (by decide)).1, (h4 19 (by decide) (by decide)).2.1⟩, ⟨(h4 20 (by decide) (by decide)).1, (h4 20 (by decide) (by decide)).2.1⟩, ⟨(h4 21 (by decide) (by decide)).1, (h4 21 (by decide) (by decide)).2.1⟩, ⟨(h4 22 (by decide) (by decide)).1, (h4 22 (by decide) (by decide)).2.1⟩, ⟨(h4 23 (by decide) (by decide)).1, (h4 23 (by decide) (by decide)).2.1⟩, ⟨(h4 24 (by decide) (by decide)).1, (h4 24 (by decide) (by decide)).2.1⟩, ⟨(h4 25 (by decide) (by decide)).1, (h4 25 (by decide) (by decide)).2.1⟩, ⟨(h4 26 (by decide) (by decide)).1, (h4 26 (by decide) (by decide)).2.1⟩, ⟨(h4 27 (by decide) (by decide)).1, (h4 27 (by decide) (by decide)).2.1⟩, ⟨(h4 28 (by decide) (by decide)).1, (h4 28 (by decide) (by decide)).2.1⟩, ⟨(h4 29 (by decide) (by decide)).1, (h4 29 (by decide) (by decide)).2.1⟩, ⟨(h4 30 (by decide) (by decide)).1, (h4 30 (by decide) (by decide)).2.1⟩, ⟨(h4 31 (by decide) (by decide)).1, (h4 31 (by decide) (by decide)).2.1⟩, ⟨(h4 32 (by decide) (by decide)).1, (h4 32 (by decide) (by decide)).2.1⟩⟩, 0, 0, 0, ?_, Nat.le_refl _, Nat.le_refl _, by decide⟩, h5⟩
  exact ⟨(show mI M m 1 = nI 0 from h2 1), (show mI M m 2 = nI 0 from h2 2), (show mI M m 3 = nI 0 from h2 3), (show mI M m 4 = nI 0 from h2 4), (show mI M m 5 = 0 from h2 5), (show mI M m 6 = nI 0 from h2 6), (show mI M m 7 = nI 0 from h2 7), (show mI M m 8 = nI 0 from h2 8), (h3 9), (fun k hk => (h4 10 (by decide) (by decide)).2.2 k), (fun v hv => absurd hv (Nat.not_lt_zero _)), (fun v hv => absurd hv (Nat.not_lt_zero _)), (fun v hv => absurd hv (Nat.not_lt_zero _)), (fun v hv => absurd hv (Nat.not_lt_zero _)), (fun i _ _ => (h4 12 (by decide) (by decide)).2.2 i), (fun i _ _ => (h4 13 (by decide) (by decide)).2.2 i), (fun v hv => absurd hv (Nat.not_lt_zero _)), (fun v hv => absurd hv (Nat.not_lt_zero _)), (fun v hv => absurd hv (Nat.not_lt_zero _)), (fun v hv => absurd hv (Nat.not_lt_zero _)), (fun v hv => absurd hv (Nat.not_lt_zero _)), (fun v hv => absurd hv (Nat.not_lt_zero _)), (fun v hv => absurd hv (Nat.not_lt_zero _)), (fun v hv => absurd hv (Nat.not_lt_zero _)), (fun v hv => absurd hv (Nat.not_lt_zero _)), (fun v hv => absurd hv (Nat.not_lt_zero _)), (fun v hv => absurd hv (Nat.not_lt_zero _)), (fun v hv => absurd hv (Nat.not_lt_zero _)), (fun v hv => absurd hv (Nat.not_lt_zero _)), (fun v hv => absurd hv (Nat.not_lt_zero _)), (fun v hv => absurd hv (Nat.not_lt_zero _)), (fun i _ _ => (h4 32 (by decide) (by decide)).2.2 i), (fun v hv => absurd hv (Nat.not_lt_zero _)), (fun v hv => absurd hv (Nat.not_lt_zero _)), rfl, (Nat.zero_le _), (Nat.zero_le _), (Nat.zero_le _), (Nat.zero_le _), (by decide)⟩
theorem ct_X5_init {G : Gt} {l : Launch} (hst : l.stackTraces = false) {M : Mm} {m : Nat} (hm0 : m ≠ 0) (hb : Bd M m 10 M) : Ct G l yX5_init cX5_init 1 none 2 M [rv m] 23 6087 (fun r9 M9 => r9 = none ∧ MAt M9 m S0 0 ∧ Fr pM M M9) (noX) := by
  refine Ct_intro (own := RX5) (nm := "<init>") (by decide +kernel) rfl rfl hst (fun w hw => by simp only [List.mem_cons, List.not_mem_nil, or_false] at hw; rcases hw with rfl <;> first | rfl | exact rv_cat _) (Nat.le_of_ble_eq_true rfl) (fun γ hC => ?_)
  show J G γ M 0 [some (rv m)] [] 0 0
  refine J_aload_n hC dX5_init_0 rfl rfl ?_
  refine J_objInit hC lo_X5_1 lo_inst lo_code hm0 (by decide) (by decide) dX5_init_1 ?_
  refine J_aload_n hC dX5_init_4 rfl rfl ?_
  refine J_bipush hC dX5_init_5 (v := 12) (by decide) ?_
  refine J_newI 1010 (N := 12) (k1 := 1) (n1 := 12) hC ac_int (by decide) (by decide) rfl rfl (by decide) (by decide) dX5_init_7 (fun q10 hq10 hz10 => ?_)
  refine J_put6_10 hC lf_X5_7 (hb.nt hq10 _ _) rfl rfl dX5_init_9 ?_
  have hb10 := hb.step hq10 (by decide)
  have eg10 : pR (nwM M q10 (7, 1010) 12) m 10 q10 = pR (nwM M q10 (mkd 10, 1000 + 10) (mlen 10)) m 10 q10 := rfl
  rw [eg10]; clear eg10
  generalize pR (nwM M q10 (mkd 10, 1000 + 10) (mlen 10)) m 10 q10 = M10 at *
  refine J_aload_n hC dX5_init_12 rfl rfl ?_
  refine J_bipush hC dX5_init_13 (v := 15) (by decide) ?_
  refine J_newI 1011 (N := 15) (k1 := 2) (n1 := 27) hC ac_int (by decide) (by decide) rfl rfl (by decide) (by decide) dX5_init_15 (fun q11 hq11 hz11 => ?_)
  refine J_put6_11 hC lf_X5_13 (hb10.nt hq11 _ _) rfl rfl dX5_init_17 ?_
  have hb11 := hb10.step hq11 (by decide)
  have eg11 : pR (nwM M10 q11 (7, 1011) 15) m 11 q11 = pR (nwM M10 q11 (mkd 11, 1000 + 11) (mlen 11)) m 11 q11 := rfl
  rw [eg11]; clear eg11
  generalize pR (nwM M10 q11 (mkd 11, 1000 + 11) (mlen 11)) m 11 q11 = M11 at *
  refine J_aload_n hC dX5_init_20 rfl rfl ?_
  refine J_bipush hC dX5_init_21 (v := 90) (by decide) ?_
  refine J_newI 1012 (N := 90) (k1 := 3) (n1 := 117) hC ac_int (by decide) (by decide) rfl rfl (by decide) (by decide) dX5_init_23 (fun q12 hq12 hz12 => ?_)
  refine J_put6_12 hC lf_X5_16 (hb11.nt hq12 _ _) rfl rfl dX5_init_25 ?_
  have hb12 := hb11.step hq12 (by decide)
  have eg12 : pR (nwM M11 q12 (7, 1012) 90) m 12 q12 = pR (nwM M11 q12 (mkd 12, 1000 + 12) (mlen 12)) m 12 q12 := rfl
  rw [eg12]; clear eg12
  generalize pR (nwM M11 q12 (mkd 12, 1000 + 12) (mlen 12)) m 12 q12 = M12 at *
  refine J_aload_n hC dX5_init_28 rfl rfl ?_
  refine J_bipush hC dX5_init_29 (v := 15) (by decide) ?_
  refine J_newZ 1013 (N := 15) (k1 := 4) (n1 := 132) hC ac_boolean (by decide) (by decide) rfl rfl (by decide) (by decide) dX5_init_31 (fun q13 hq13 hz13 => ?_)
  refine J_put6_13 hC lf_X5_19 (hb12.nt hq13 _ _) rfl rfl dX5_init_33 ?_
  have hb13 := hb12.step hq13 (by decide)
  have eg13 : pR (nwM M12 q13 (8, 1013) 15) m 13 q13 = pR (nwM M12 q13 (mkd 13, 1000 + 13) (mlen 13)) m 13 q13 := rfl
  rw [eg13]; clear eg13
  generalize pR (nwM M12 q13 (mkd 13, 1000 + 13) (mlen 13)) m 13 q13 = M13 at *
  refine J_aload_n hC dX5_init_36 rfl rfl ?_
  refine J_bipush hC dX5_init_37 (v := 15) (by decide) ?_
  refine J_newZ 1014 (N := 15) (k1 := 5) (n1 := 147) hC ac_boolean (by decide) (by decide) rfl rfl (by decide) (by decide) dX5_init_39 (fun q14 hq14 hz14 => ?_)
  refine J_put6_14 hC lf_X5_23 (hb13.nt hq14 _ _) rfl rfl dX5_init_41 ?_
  have hb14 := hb13.step hq14 (by decide)
  have eg14 : pR (nwM M13 q14 (8, 1014) 15) m 14 q14 = pR (nwM M13 q14 (mkd 14, 1000 + 14) (mlen 14)) m 14 q14 := rfl
  rw [eg14]; clear eg14
  generalize pR (nwM M13 q14 (mkd 14, 1000 + 14) (mlen 14)) m 14 q14 = M14 at *
  refine J_aload_n hC dX5_init_44 rfl rfl ?_
  refine J_bipush hC dX5_init_45 (v := 80) (by decide) ?_
  refine J_newI 1015 (N := 80) (k1 := 6) (n1 := 227) hC ac_int (by decide) (by decide) rfl rfl (by decide) (by decide) dX5_init_47 (fun q15 hq15 hz15 => ?_)
  refine J_put6_15 hC lf_X5_26 (hb14.nt hq15 _ _) rfl rfl dX5_init_49 ?_
  have hb15 := hb14.step hq15 (by decide)
  have eg15 : pR (nwM M14 q15 (7, 1015) 80) m 15 q15 = pR (nwM M14 q15 (mkd 15, 1000 + 15) (mlen 15)) m 15 q15 := rfl
  rw [eg15]; clear eg15
  generalize pR (nwM M14 q15 (mkd 15, 1000 + 15) (mlen 15)) m 15 q15 = M15 at *
  refine J_aload_n hC dX5_init_52 rfl rfl ?_
  refine J_bipush hC dX5_init_53 (v := 80) (by decide) ?_
  refine J_newI 1016 (N := 80) (k1 := 7) (n1 := 307) hC ac_int (by decide) (by decide) rfl rfl (by decide) (by decide) dX5_init_55 (fun q16 hq16 hz16 => ?_)
  refine J_put6_16 hC lf_X5_29 (hb15.nt hq16 _ _) rfl rfl dX5_init_57 ?_
  have hb16 := hb15.step hq16 (by decide)
  have eg16 : pR (nwM M15 q16 (7, 1016) 80) m 16 q16 = pR (nwM M15 q16 (mkd 16, 1000 + 16) (mlen 16)) m 16 q16 := rfl
  rw [eg16]; clear eg16
  generalize pR (nwM M15 q16 (mkd 16, 1000 + 16) (mlen 16)) m 16 q16 = M16 at *
  refine J_aload_n hC dX5_init_60 rfl rfl ?_
  refine J_bipush hC dX5_init_61 (v := 80) (by decide) ?_
  refine J_newI 1017 (N := 80) (k1 := 8) (n1 := 387) hC ac_int (by decide) (by decide) rfl rfl (by decide) (by decide) dX5_init_63 (fun q17 hq17 hz17 => ?_)
  refine J_put6_17 hC lf_X5_32 (hb16.nt hq17 _ _) rfl rfl dX5_init_65 ?_
  have hb17 := hb16.step hq17 (by decide)
  have eg17 : pR (nwM M16 q17 (7, 1017) 80) m 17 q17 = pR (nwM M16 q17 (mkd 17, 1000 + 17) (mlen 17)) m 17 q17 := rfl
  rw [eg17]; clear eg17
  generalize pR (nwM M16 q17 (mkd 17, 1000 + 17) (mlen 17)) m 17 q17 = M17 at *
  refine J_aload_n hC dX5_init_68 rfl rfl ?_
  refine J_bipush hC dX5_init_69 (v := 120) (by decide) ?_
  refine J_newI 1018 (N := 120) (k1 := 9) (n1 := 507) hC ac_int (by decide) (by decide) rfl rfl (by decide) (by decide) dX5_init_71 (fun q18 hq18 hz18 => ?_)
  refine J_put6_18 hC lf_X5_35 (hb17.nt hq18 _ _) rfl rfl dX5_init_73 ?_
  have hb18 := hb17.step hq18 (by decide)
  have eg18 : pR (nwM M17 q18 (7, 1018) 120) m 18 q18 = pR (nwM M17 q18 (mkd 18, 1000 + 18) (mlen 18)) m 18 q18 := rfl
  rw [eg18]; clear eg18
  generalize pR (nwM M17 q18 (mkd 18, 1000 + 18) (mlen 18)) m 18 q18 = M18 at *
  refine J_aload_n hC dX5_init_76 rfl rfl ?_
  refine J_bipush hC dX5_init_77 (v := 120) (by decide) ?_
  refine J_newI 1019 (N := 120) (k1 := 10) (n1 := 627) hC ac_int (by decide) (by decide) rfl rfl (by decide) (by decide) dX5_init_79 (fun q19 hq19 hz19 => ?_)
  refine J_put6_19 hC lf_X5_38 (hb18.nt hq19 _ _) rfl rfl dX5_init_81 ?_
  have hb19 := hb18.step hq19 (by decide)
  have eg19 : pR (nwM M18 q19 (7, 1019) 120) m 19 q19 = pR (nwM M18 q19 (mkd 19, 1000 + 19) (mlen 19)) m 19 q19 := rfl
  rw [eg19]; clear eg19
  generalize pR (nwM M18 q19 (mkd 19, 1000 + 19) (mlen 19)) m 19 q19 = M19 at *
  refine J_aload_n hC dX5_init_84 rfl rfl ?_
  refine J_bipush hC dX5_init_85 (v := 120) (by decide) ?_
  refine J_newI 1020 (N := 120) (k1 := 11) (n1 := 747) hC ac_int (by decide) (by decide) rfl rfl (by decide) (by decide) dX5_init_87 (fun q20 hq20 hz20 => ?_)
  refine J_put6_20 hC lf_X5_41 (hb19.nt hq20 _ _) rfl rfl dX5_init_89 ?_
  have hb20 := hb19.step hq20 (by decide)
  have eg20 : pR (nwM M19 q20 (7, 1020) 120) m 20 q20 = pR (nwM M19 q20 (mkd 20, 1000 + 20) (mlen 20)) m 20 q20 := rfl
  rw [eg20]; clear eg20
  generalize pR (nwM M19 q20 (mkd 20, 1000 + 20) (mlen 20)) m 20 q20 = M20 at *
  refine J_aload_n hC dX5_init_92 rfl rfl ?_
  refine J_bipush hC dX5_init_93 (v := 120) (by decide) ?_
  refine J_newI 1021 (N := 120) (k1 := 12) (n1 := 867) hC ac_int (by decide) (by decide) rfl rfl (by decide) (by decide) dX5_init_95 (fun q21 hq21 hz21 => ?_)
  refine J_put6_21 hC lf_X5_44 (hb20.nt hq21 _ _) rfl rfl dX5_init_97 ?_
  have hb21 := hb20.step hq21 (by decide)
  have eg21 : pR (nwM M20 q21 (7, 1021) 120) m 21 q21 = pR (nwM M20 q21 (mkd 21, 1000 + 21) (mlen 21)) m 21 q21 := rfl
  rw [eg21]; clear eg21
  generalize pR (nwM M20 q21 (mkd 21, 1000 + 21) (mlen 21)) m 21 q21 = M21 at *
  refine J_aload_n hC dX5_init_100 rfl rfl ?_
  refine J_bipush hC dX5_init_101 (v := 120) (by decide) ?_
  refine J_newI 1022 (N := 120) (k1 := 13) (n1 := 987) hC ac_int (by decide) (by decide) rfl rfl (by decide) (by decide) dX5_init_103 (fun q22 hq22 hz22 => ?_)
  refine J_put6_22 hC lf_X5_47 (hb21.nt hq22 _ _) rfl rfl dX5_init_105 ?_
  have hb22 := hb21.step hq22 (by decide)
  have eg22 : pR (nwM M21 q22 (7, 1022) 120) m 22 q22 = pR (nwM M21 q22 (mkd 22, 1000 + 22) (mlen 22)) m 22 q22 := rfl
  rw [eg22]; clear eg22
  generalize pR (nwM M21 q22 (mkd 22, 1000 + 22) (mlen 22)) m 22 q22 = M22 at *
  refine J_aload_n hC dX5_init_108 rfl rfl ?_
  refine J_bipush hC dX5_init_109 (v := 120) (by decide) ?_
  refine J_newI 1023 (N := 120) (k1 := 14) (n1 := 1107) hC ac_int (by decide) (by decide) rfl rfl (by decide) (by decide) dX5_init_111 (fun q23 hq23 hz23 => ?_)
  refine J_put6_23 hC lf_X5_50 (hb22.nt hq23 _ _) rfl rfl dX5_init_113 ?_
  have hb23 := hb22.step hq23 (by decide)
  have eg23 : pR (nwM M22 q23 (7, 1023) 120) m 23 q23 = pR (nwM M22 q23 (mkd 23, 1000 + 23) (mlen 23)) m 23 q23 := rfl
  rw [eg23]; clear eg23
  generalize pR (nwM M22 q23 (mkd 23, 1000 + 23) (mlen 23)) m 23 q23 = M23 at *
  refine J_aload_n hC dX5_init_116 rfl rfl ?_
  refine J_sipush hC dX5_init_117 (v := 520) (by decide) ?_
  refine J_newI 1024 (N := 520) (k1 := 15) (n1 := 1627) hC ac_int (by decide) (by decide) rfl rfl (by decide) (by decide) dX5_init_120 (fun q24 hq24 hz24 => ?_)
  refine J_put6_24 hC lf_X5_53 (hb23.nt hq24 _ _) rfl rfl dX5_init_122 ?_
  have hb24 := hb23.step hq24 (by decide)
  have eg24 : pR (nwM M23 q24 (7, 1024) 520) m 24 q24 = pR (nwM M23 q24 (mkd 24, 1000 + 24) (mlen 24)) m 24 q24 := rfl
  rw [eg24]; clear eg24
  generalize pR (nwM M23 q24 (mkd 24, 1000 + 24) (mlen 24)) m 24 q24 = M24 at *
  refine J_aload_n hC dX5_init_125 rfl rfl ?_
  refine J_sipush hC dX5_init_126 (v := 520) (by decide) ?_
  refine J_newI 1025 (N := 520) (k1 := 16) (n1 := 2147) hC ac_int (by decide) (by decide) rfl rfl (by decide) (by decide) dX5_init_129 (fun q25 hq25 hz25 => ?_)
  refine J_put6_25 hC lf_X5_56 (hb24.nt hq25 _ _) rfl rfl dX5_init_131 ?_
  have hb25 := hb24.step hq25 (by decide)
  have eg25 : pR (nwM M24 q25 (7, 1025) 520) m 25 q25 = pR (nwM M24 q25 (mkd 25, 1000 + 25) (mlen 25)) m 25 q25 := rfl
  rw [eg25]; clear eg25
  generalize pR (nwM M24 q25 (mkd 25, 1000 + 25) (mlen 25)) m 25 q25 = M25 at *
  refine J_aload_n hC dX5_init_134 rfl rfl ?_
  refine J_sipush hC dX5_init_135 (v := 520) (by decide) ?_
  refine J_newZ 1026 (N := 520) (k1 := 17) (n1 := 2667) hC ac_boolean (by decide) (by decide) rfl rfl (by decide) (by decide) dX5_init_138 (fun q26 hq26 hz26 => ?_)
  refine J_put6_26 hC lf_X5_59 (hb25.nt hq26 _ _) rfl rfl dX5_init_140 ?_
  have hb26 := hb25.step hq26 (by decide)
  have eg26 : pR (nwM M25 q26 (8, 1026) 520) m 26 q26 = pR (nwM M25 q26 (mkd 26, 1000 + 26) (mlen 26)) m 26 q26 := rfl
  rw [eg26]; clear eg26
  generalize pR (nwM M25 q26 (mkd 26, 1000 + 26) (mlen 26)) m 26 q26 = M26 at *
  refine J_aload_n hC dX5_init_143 rfl rfl ?_
  refine J_sipush hC dX5_init_144 (v := 1100) (by decide) ?_
  refine J_newI 1027 (N := 1100) (k1 := 18) (n1 := 3767) hC ac_int (by decide) (by decide) rfl rfl (by decide) (by decide) dX5_init_147 (fun q27 hq27 hz27 => ?_)
  refine J_put6_27 hC lf_X5_62 (hb26.nt hq27 _ _) rfl rfl dX5_init_149 ?_
  have hb27 := hb26.step hq27 (by decide)
  have eg27 : pR (nwM M26 q27 (7, 1027) 1100) m 27 q27 = pR (nwM M26 q27 (mkd 27, 1000 + 27) (mlen 27)) m 27 q27 := rfl
  rw [eg27]; clear eg27
  generalize pR (nwM M26 q27 (mkd 27, 1000 + 27) (mlen 27)) m 27 q27 = M27 at *
  refine J_aload_n hC dX5_init_152 rfl rfl ?_
  refine J_sipush hC dX5_init_153 (v := 1100) (by decide) ?_
  refine J_newI 1028 (N := 1100) (k1 := 19) (n1 := 4867) hC ac_int (by decide) (by decide) rfl rfl (by decide) (by decide) dX5_init_156 (fun q28 hq28 hz28 => ?_)
  refine J_put6_28 hC lf_X5_65 (hb27.nt hq28 _ _) rfl rfl dX5_init_158 ?_
  have hb28 := hb27.step hq28 (by decide)
  have eg28 : pR (nwM M27 q28 (7, 1028) 1100) m 28 q28 = pR (nwM M27 q28 (mkd 28, 1000 + 28) (mlen 28)) m 28 q28 := rfl
  rw [eg28]; clear eg28
  generalize pR (nwM M27 q28 (mkd 28, 1000 + 28) (mlen 28)) m 28 q28 = M28 at *
  refine J_aload_n hC dX5_init_161 rfl rfl ?_
  refine J_sipush hC dX5_init_162 (v := 1100) (by decide) ?_
  refine J_newI 1029 (N := 1100) (k1 := 20) (n1 := 5967) hC ac_int (by decide) (by decide) rfl rfl (by decide) (by decide) dX5_init_165 (fun q29 hq29 hz29 => ?_)
  refine J_put6_29 hC lf_X5_68 (hb28.nt hq29 _ _) rfl rfl dX5_init_167 ?_
  have hb29 := hb28.step hq29 (by decide)
  have eg29 : pR (nwM M28 q29 (7, 1029) 1100) m 29 q29 = pR (nwM M28 q29 (mkd 29, 1000 + 29) (mlen 29)) m 29 q29 := rfl
  rw [eg29]; clear eg29
  generalize pR (nwM M28 q29 (mkd 29, 1000 + 29) (mlen 29)) m 29 q29 = M29 at *
  refine J_aload_n hC dX5_init_170 rfl rfl ?_
  refine J_bipush hC dX5_init_171 (v := 40) (by decide) ?_
  refine J_newI 1030 (N := 40) (k1 := 21) (n1 := 6007) hC ac_int (by decide) (by decide) rfl rfl (by decide) (by decide) dX5_init_173 (fun q30 hq30 hz30 => ?_)
  refine J_put6_30 hC lf_X5_71 (hb29.nt hq30 _ _) rfl rfl dX5_init_175 ?_
  have hb30 := hb29.step hq30 (by decide)
  have eg30 : pR (nwM M29 q30 (7, 1030) 40) m 30 q30 = pR (nwM M29 q30 (mkd 30, 1000 + 30) (mlen 30)) m 30 q30 := rfl
  rw [eg30]; clear eg30
  generalize pR (nwM M29 q30 (mkd 30, 1000 + 30) (mlen 30)) m 30 q30 = M30 at *
  refine J_aload_n hC dX5_init_178 rfl rfl ?_
  refine J_bipush hC dX5_init_179 (v := 40) (by decide) ?_
  refine J_newI 1031 (N := 40) (k1 := 22) (n1 := 6047) hC ac_int (by decide) (by decide) rfl rfl (by decide) (by decide) dX5_init_181 (fun q31 hq31 hz31 => ?_)
  refine J_put6_31 hC lf_X5_74 (hb30.nt hq31 _ _) rfl rfl dX5_init_183 ?_
  have hb31 := hb30.step hq31 (by decide)
  have eg31 : pR (nwM M30 q31 (7, 1031) 40) m 31 q31 = pR (nwM M30 q31 (mkd 31, 1000 + 31) (mlen 31)) m 31 q31 := rfl
  rw [eg31]; clear eg31
  generalize pR (nwM M30 q31 (mkd 31, 1000 + 31) (mlen 31)) m 31 q31 = M31 at *
  refine J_aload_n hC dX5_init_186 rfl rfl ?_
  refine J_bipush hC dX5_init_187 (v := 40) (by decide) ?_
  refine J_newZ 1032 (N := 40) (k1 := 23) (n1 := 6087) hC ac_boolean (by decide) (by decide) rfl rfl (by decide) (by decide) dX5_init_189 (fun q32 hq32 hz32 => ?_)
  refine J_put6_32 hC lf_X5_77 (hb31.nt hq32 _ _) rfl rfl dX5_init_191 ?_
  have hb32 := hb31.step hq32 (by decide)
  have eg32 : pR (nwM M31 q32 (8, 1032) 40) m 32 q32 = pR (nwM M31 q32 (mkd 32, 1000 + 32) (mlen 32)) m 32 q32 := rfl
  rw [eg32]; clear eg32
  generalize pR (nwM M31 q32 (mkd 32, 1000 + 32) (mlen 32)) m 32 q32 = M32 at *
  refine J_vret hC (by decide) (by decide) dX5_init_194 ?_
  exact ⟨rfl, hb32.done⟩
