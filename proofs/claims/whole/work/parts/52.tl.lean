theorem max_tw {k : Nat} (hk : k < 2 ^ 31) : (if (0 : Int32) < nI k - 1 then nI k - 1 else 0) = nI (k - 1) := by
  rcases Nat.eq_zero_or_pos k with e | e
  · subst e; decide
  · obtain ⟨j, rfl⟩ : ∃ j, k = j + 1 := ⟨k - 1, by omega⟩
    rw [← nI_1, nI_p1s1, Nat.add_sub_cancel]
    rcases Nat.eq_zero_or_pos j with g | g
    · subst g; decide
    · rw [if_pos]
      rw [i_lt, nI_toInt (by omega)]
      have h0 : (0 : Int32).toInt = 0 := by decide
      omega
theorem valI_n {l : Tl} {j : Nat} (hb : l.length ≤ 1100) (h : j < l.length) : valI l (nI j) = (l.getD j (0, 0)).2 := by
  unfold valI; rw [if_pos (isIx_of h (by omega)), ix_nI (by omega)]
theorem pw_le {l : Tl} (hs : l.Pairwise (fun a b => a.1 < b.1)) : l.Pairwise (fun a b => a.1 ≤ b.1) := hs.imp (fun h => le_of_lt' h)
theorem ct_X2_firstDayWith {G : Gt} {l : Launch} (hst : l.stackTraces = false) {M : Mm} {a c : Nat} {l9 : Tl} (hT : TlA M a c l9) (b n : Nat) (hn : 0 < n) (hbn : b + n < 10000) (hs : l9.Pairwise (fun a b => a.1 < b.1)) (h0 : ∀ e ∈ l9, (0 : Int32) ≤ e.1) : Ct G l yX2_firstDayWith cX2_firstDayWith 5 (some .int) 3 M [rv a, .int 1, .int (nI b), .int (nI (b + n - 1))] 0 0 (PQ M (.int (rdI ((fday l9 b n).map (fun k => b + k))))) (noX) := by
  obtain ⟨t0, t1, t2, s2, cap, hc0, hc1, hl, h4, hcap, hb, hj⟩ := id hT
  have g0 : (mT M a).1 = 3 := by rw [t0]
  have g1 : (mT M (mR M a 0)).1 = 7 := by rw [t1]
  have g2 : (mT M (mR M a 1)).1 = 7 := by rw [t2]
  have htl := tw_le l9 (nI b)
  have hst0 := FI.start l9 b
  refine Ct_intro (own := RX2) (nm := "firstDayWith") (by decide +kernel) rfl rfl hst (fun w hw => by simp only [List.mem_cons, List.not_mem_nil, or_false] at hw; rcases hw with rfl | rfl | rfl | rfl <;> first | rfl | exact rv_cat _) (Nat.le_of_ble_eq_true rfl) (fun γ hC => ?_)
  show J G γ M 0 [some (rv a), some (.int 1), some (.int (nI b)), some (.int (nI (b + n - 1)))] [] 0 0
  refine J_iconst hC dX2_firstDayWith_0 (v := 0) (by decide) ?_
  refine J_aload_n hC dX2_firstDayWith_1 rfl rfl ?_
  refine J_iload_n hC dX2_firstDayWith_2 rfl rfl ?_
  refine J_callV (k1 := 0) (n1 := 0) (kd := 3) [.int (nI b)] [.int (nI b), rv a, .int 0] hC lv_X2_42 (ct_X2_indexByHalving hst hT (nI b) (pw_le hs)) g0 (by decide) ⟨_, mE_3 g0⟩ rfl rfl rfl (by simp only [List.map_cons, List.map_nil, rv_cat, Value.category, List.sum_cons, List.sum_nil]; decide) (by decide) rfl rfl (by decide) (by decide) dX2_firstDayWith_3 (fun E M9 h => h.elim) (fun v9 M9 hq9 => ?_)
  obtain ⟨rfl, e9⟩ := hq9
  rw [e9]; clear e9
  refine J_mmax hC lm_X2_49 ms_max it_Math mc_max (by decide) (by decide) (by decide) (by decide) (v := nI (tw l9 (nI b) - 1)) (max_tw (by omega)) dX2_firstDayWith_6 ?_
  refine J_istore hC dX2_firstDayWith_9 (by decide) (ls1 := [some (rv a), some (.int 1), some (.int (nI b)), some (.int (nI (b + n - 1))), some (.int (nI (tw l9 (nI b) - 1)))]) rfl ?_
  have L11 : ∀ (n9 : Nat) (i : Nat), l9.length - i < n9 → (FI l9 b i) → J G γ M 11 [some (rv a), some (.int 1), some (.int (nI b)), some (.int (nI (b + n - 1))), some (.int (nI i))] [] 0 0 := by
    intro n9
    induction n9 with
    | zero => intro i h9; exact absurd h9 (Nat.not_lt_zero _)
    | succ n9 ih =>
      intro i h9 hi
      refine J_iload hC dX2_firstDayWith_11 rfl ?_
      refine J_aload_n hC dX2_firstDayWith_13 rfl rfl ?_
      refine J_get3 hC lf_X2_18 (j := 2) g0 (v := .int (nI l9.length)) (congrArg (fun z => some (Value.int z)) s2) dX2_firstDayWith_14 ?_
      refine J_icmp_ge hC dX2_firstDayWith_17 (tgt := 57) (by decide) (fun c17 => ?_) (fun c17 => ?_)
      · have hil2 := hi.2.1
        have hge := le_nI (by omega) (by omega) c17
        have hii : i = l9.length := by omega
        have hmiss := hi.miss hs hn hbn (Or.inl hii)
        refine J_iconst hC dX2_firstDayWith_57 (v := -1) (by decide) ?_
        refine J_iret hC (by decide) (by decide) dX2_firstDayWith_58 ?_
        exact ⟨by rw [hmiss]; rfl, rfl⟩
      · have hil2 := hi.2.1
        have hil := ge_nI (by omega) (by omega) c17
        refine J_aload_n hC dX2_firstDayWith_20 rfl rfl ?_
        refine J_iload hC dX2_firstDayWith_21 rfl ?_
        refine J_callV (k1 := 0) (n1 := 0) (kd := 3) [.int (nI i)] [.int (nI i), rv a] hC lv_X2_25 (ct_X2_dayAt hst hT _) g0 (by decide) ⟨_, mE_3 g0⟩ rfl rfl rfl (by simp only [List.map_cons, List.map_nil, rv_cat, Value.category, List.sum_cons, List.sum_nil]; decide) (by decide) rfl rfl (by decide) (by decide) dX2_firstDayWith_23 (fun E M9 h => h.elim) (fun v9 M9 hq9 => ?_)
        obtain ⟨rfl, e9⟩ := hq9
        rw [e9]; clear e9
        rw [dayI_n hb hil]
        refine J_iload_n hC dX2_firstDayWith_26 rfl rfl ?_
        refine J_icmp_gt hC dX2_firstDayWith_27 (tgt := 57) (by decide) (fun c27 => ?_) (fun c27 => ?_)
        · have hmiss := hi.miss hs hn hbn (Or.inr ⟨hil, i_nle c27⟩)
          refine J_iconst hC dX2_firstDayWith_57 (v := -1) (by decide) ?_
          refine J_iret hC (by decide) (by decide) dX2_firstDayWith_58 ?_
          exact ⟨by rw [hmiss]; rfl, rfl⟩
        · refine J_aload_n hC dX2_firstDayWith_30 rfl rfl ?_
          refine J_iload hC dX2_firstDayWith_31 rfl ?_
          refine J_callV (k1 := 0) (n1 := 0) (kd := 3) [.int (nI i)] [.int (nI i), rv a] hC lv_X2_39 (ct_X2_valueAt hst hT _) g0 (by decide) ⟨_, mE_3 g0⟩ rfl rfl rfl (by simp only [List.map_cons, List.map_nil, rv_cat, Value.category, List.sum_cons, List.sum_nil]; decide) (by decide) rfl rfl (by decide) (by decide) dX2_firstDayWith_33 (fun E M9 h => h.elim) (fun v9 M9 hq9 => ?_)
          obtain ⟨rfl, e9⟩ := hq9
          rw [e9]; clear e9
          rw [valI_n hb hil]
          refine J_iload_n hC dX2_firstDayWith_36 rfl rfl ?_
          refine J_icmp_ne hC dX2_firstDayWith_37 (tgt := 51) (by decide) (fun c37 => ?_) (fun c37 => ?_)
          · have q37 : ¬ (l9.getD i (0, 0)).2 = 1 := c37
            refine J_iinc hC dX2_firstDayWith_51 (by decide) rfl (v := nI (i + 1)) (nI_1 _) (ls1 := [some (rv a), some (.int 1), some (.int (nI b)), some (.int (nI (b + n - 1))), some (.int (nI (i + 1)))]) rfl ?_
            refine J_goto hC dX2_firstDayWith_54 (tgt := 11) (by decide) ?_
            exact ih (i + 1) (by omega) (hi.next hil q37)
          · have q37 : (l9.getD i (0, 0)).2 = 1 := (nn c37)
            refine J_aload_n hC dX2_firstDayWith_40 rfl rfl ?_
            refine J_iload hC dX2_firstDayWith_41 rfl ?_
            refine J_callV (k1 := 0) (n1 := 0) (kd := 3) [.int (nI i)] [.int (nI i), rv a] hC lv_X2_25 (ct_X2_dayAt hst hT _) g0 (by decide) ⟨_, mE_3 g0⟩ rfl rfl rfl (by simp only [List.map_cons, List.map_nil, rv_cat, Value.category, List.sum_cons, List.sum_nil]; decide) (by decide) rfl rfl (by decide) (by decide) dX2_firstDayWith_43 (fun E M9 h => h.elim) (fun v9 M9 hq9 => ?_)
            obtain ⟨rfl, e9⟩ := hq9
            rw [e9]; clear e9
            rw [dayI_n hb hil]
            refine J_iload_n hC dX2_firstDayWith_46 rfl rfl ?_
            refine J_mmax hC lm_X2_49 ms_max it_Math mc_max (by decide) (by decide) (by decide) (by decide) (v := rdI ((fday l9 b n).map (fun k => b + k))) (hi.hit hs h0 hn hbn hil q37 (i_nlt c27)).symm dX2_firstDayWith_47 ?_
            refine J_iret hC (by decide) (by decide) dX2_firstDayWith_50 ?_
            exact ⟨rfl, rfl⟩
  exact L11 (l9.length + 1) (tw l9 (nI b) - 1) (by omega) hst0
