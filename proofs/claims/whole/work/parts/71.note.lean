/-- what one pairing makes -/
def PrC (M : Mm) (x : Nat) (S : St) (t i : Nat) (r9 : Option Value) (M9 : Mm) : Prop := (stepQ S i = none ∧ r9 = some (.int 0) ∧ M9 = M) ∨ ∃ S1, stepQ S i = some S1 ∧ r9 = some (.int 1) ∧ CAt M9 x S1 ∧ Sm M M9 x ∧ Fr pC M M9 ∧ Inv S1 t ∧ sN S1 = sN S ∧ (sT S1 0 i).length = (sT S 0 i).length + 1
theorem useQ_N (S : St) (v s b : Nat) : sN (useQ S v s b) = sN S := by unfold useQ; simp only [sN_uT, sN_uO]
theorem useQ_len (S : St) (v s b : Nat) : (sT (useQ S v s b) 0 v).length = (sT S 0 v).length + 1 := by rw [useQ_T0, if_pos rfl]; simp
theorem step_blk {S : St} {v : Nat} (h : blk S v = true) : stepQ S v = none := by unfold stepQ; rw [if_pos h]
theorem step_none {S : St} {v : Nat} (h : ∀ k, k < sN S 3 → (fitS S v k && (buyerOf S k).isSome) = false) : stepQ S v = none := by
  unfold stepQ pairOf
  rw [fst1_miss _ h]
  split <;> rfl
theorem step_some {S : St} {v s b : Nat} (hb : blk S v = false) (h : ∀ k, k < s → (fitS S v k && (buyerOf S k).isSome) = false) (hs : s < sN S 3) (h1 : fitS S v s = true) (h2 : buyerOf S s = some b) : stepQ S v = some (useQ S v s b) := by
  have hp : pairOf S v = some s := fst1_hit (f := fun s => fitS S v s && (buyerOf S s).isSome) h (by rw [h1, h2]; rfl) _ hs
  unfold stepQ
  rw [hb, hp]
  simp [h2]
theorem ct_X4_useFirstPair {G : Gt} {l : Launch} (hst : l.stackTraces = false) {M : Mm} {x : Nat} {S : St} {t : Nat} (hM : CAt M x S) (hI : Inv S t) {a i : Nat} (ea : a = vA M x i) (hi9 : i < sN S 1) : Ct G l yX4_useFirstPair cX4_useFirstPair 7 (some .boolean) 6 M [rv x, rv a] 2 (4 * (sT S 0 i).length) (PrC M x S t i) (noX) := by
  obtain ⟨bK, bV, bP, bN⟩ := hM.b
  have hlk := Nat.le_trans (hI.lk75 hi9) (show 75 ≤ 1000 by decide)
  have wa : VeA M a i S := by rw [ea]; exact hM.v.1 _ hi9
  refine Ct_intro (own := RX4) (nm := "useFirstPair") (by decide +kernel) rfl rfl hst (fun w hw => by simp only [List.mem_cons, List.not_mem_nil, or_false] at hw; rcases hw with rfl | rfl <;> first | rfl | exact rv_cat _) (Nat.le_of_ble_eq_true rfl) (fun γ hC => ?_)
  show J G γ M 0 [some (rv x), some (rv a)] [] 0 0
  refine J_t0 (fun ht0 => ?_)
  refine J_aload_n hC dX4_useFirstPair_0 rfl rfl ?_
  refine J_callV (k1 := 0) (n1 := 0) (kd := 4) [] [rv a] hC lv_X4_228 (ct_X3_isBlockedNow hst wa (hI.sc _ hi9)) wa.tg (by decide) ⟨_, mE_4 wa.tg⟩ rfl rfl rfl (by simp only [List.map_cons, List.map_nil, rv_cat, Value.category, List.sum_cons, List.sum_nil]; decide) (by decide) rfl rfl (by decide) (by omega) dX4_useFirstPair_1 (fun E M9 h => h.elim) (fun v9 M9 hq9 => ?_)
  obtain ⟨rfl, e9⟩ := hq9
  rw [e9]; clear e9
  refine J_if_eq hC dX4_useFirstPair_4 (tgt := 9) (by decide) (fun c4 => ?_) (fun c4 => ?_)
  · have b4 : (blk S (i)) = false := bz_eq0 c4
    refine J_aload_n hC dX4_useFirstPair_9 rfl rfl ?_
    refine J_get5 hC lf_X4_23 (j := 2) hM.tx (v := rv (mR M x 2)) rfl dX4_useFirstPair_10 ?_
    refine J_astore_n hC dX4_useFirstPair_13 rfl (by decide) (ls1 := [some (rv x), some (rv a), some (rv (mR M x 2))]) rfl ?_
    refine J_aload_n hC dX4_useFirstPair_14 rfl rfl ?_
    refine J_alen11 hC hM.tk2 dX4_useFirstPair_15 ?_
    rw [hM.lk2]
    refine J_istore_n hC dX4_useFirstPair_16 rfl (by decide) (ls1 := [some (rv x), some (rv a), some (rv (mR M x 2)), some (.int (nI 120))]) rfl ?_
    refine J_iconst hC dX4_useFirstPair_17 (v := 0) (by decide) ?_
    refine J_istore hC dX4_useFirstPair_18 (by decide) (ls1 := [some (rv x), some (rv a), some (rv (mR M x 2)), some (.int (nI 120)), some (.int 0)]) rfl ?_
    have L20 : ∀ (n9 : Nat) (j : Nat), 120 - j < n9 → (j ≤ 120) → (∀ k, k < min j (sN S 3) → (fitS S i k && (buyerOf S k).isSome) = false) → J G γ M 20 [some (rv x), some (rv a), some (rv (mR M x 2)), some (.int (nI 120)), some (.int (nI j))] [] 0 0 := by
      intro n9
      induction n9 with
      | zero => intro j h9; exact absurd h9 (Nat.not_lt_zero _)
      | succ n9 ih =>
        intro j h9 hjN hi
        refine J_iload hC dX4_useFirstPair_20 rfl ?_
        refine J_iload_n hC dX4_useFirstPair_22 rfl rfl ?_
        refine J_icmp_ge hC dX4_useFirstPair_23 (tgt := 79) (by decide) (fun c23 => ?_) (fun c23 => ?_)
        · have hj9 : j = 120 := by have := le_nI (n := 120) (by omega) (by omega) c23; omega
          subst hj9
          refine J_iconst hC dX4_useFirstPair_79 (v := 0) (by decide) ?_
          refine J_zret hC (by decide) (Nat.zero_le _) (by decide) dX4_useFirstPair_80 ?_
          exact Or.inl ⟨step_none (fun k hk => hi k (by omega)), rfl, rfl⟩
        · have hlt := ge_nI (n := 120) (by omega) (by omega) c23
          refine J_aload_n hC dX4_useFirstPair_26 rfl rfl ?_
          refine J_iload hC dX4_useFirstPair_27 rfl ?_
          refine J_aald11 hC hM.tk2 (j := j) (nI_toInt (by omega)) (by rw [hM.lk2]; omega) dX4_useFirstPair_29 ?_
          obtain ⟨e, ee⟩ : ∃ z, z = mR M (mR M x 2) j := ⟨_, rfl⟩
          rw [← ee]
          refine J_astore hC dX4_useFirstPair_30 (by decide) (ls1 := [some (rv x), some (rv a), some (rv (mR M x 2)), some (.int (nI 120)), some (.int (nI j)), some (rv e)]) rfl ?_
          refine J_aload hC dX4_useFirstPair_32 rfl ?_
          refine J_ifnull hC dX4_useFirstPair_34 (tgt := 55) (by decide) (fun c34 => ?_) (fun c34 => ?_)
          · have hge : ¬ j < sN S 3 := hM.oj0 ht0 (ee.symm.trans (by first | exact c34 | exact nn c34))
            refine J_null hC dX4_useFirstPair_55 ?_
            refine J_astore hC dX4_useFirstPair_56 (by decide) (ls1 := [some (rv x), some (rv a), some (rv (mR M x 2)), some (.int (nI 120)), some (.int (nI j)), some (rv e), some (rv 0)]) rfl ?_
            refine J_aload hC dX4_useFirstPair_58 rfl ?_
            refine J_ifnull hC dX4_useFirstPair_60 (tgt := 73) (by decide) (fun c60 => ?_) (fun c60 => ?_)
            · refine J_iinc hC dX4_useFirstPair_73 (by decide) rfl (v := nI (j + 1)) (nI_1 _) (ls1 := [some (rv x), some (rv a), some (rv (mR M x 2)), some (.int (nI 120)), some (.int (nI (j + 1))), some (rv e), some (rv 0)]) rfl ?_
              refine J_goto hC dX4_useFirstPair_76 (tgt := 20) (by decide) ?_
              refine J_sub hC (ls1 := [some (rv x), some (rv a), some (rv (mR M x 2)), some (.int (nI 120)), some (.int (nI (j + 1)))]) ⟨rfl, rfl, rfl, rfl, rfl, trivial⟩ ?_
              exact ih (j + 1) (by omega) (by omega) (by rw [min_ge hge]; exact hi)
            · exact absurd rfl c60
          · have hlt2 : j < sN S 3 := hM.oj1 hlt (fun h => c34 (ee.trans h))
            have we : NtA M e j S := by rw [ee]; exact hM.o.1 j hlt2
            refine J_aload_n hC dX4_useFirstPair_37 rfl rfl ?_
            refine J_aload hC dX4_useFirstPair_38 rfl ?_
            refine J_callS (k1 := 0) (n1 := 0) [rv a, rv e] [rv e, rv a] hC ls_X4_373 (ct_X4_maySell hst wa we) rfl rfl (by simp only [List.map_cons, List.map_nil, rv_cat, Value.category, List.sum_cons, List.sum_nil]; decide) (by decide) rfl rfl (by decide) (by omega) dX4_useFirstPair_40 (fun E M9 h => h.elim) (fun v9 M9 hq9 => ?_)
            obtain ⟨rfl, e9⟩ := hq9
            rw [e9]; clear e9
            refine J_if_eq hC dX4_useFirstPair_43 (tgt := 55) (by decide) (fun c43 => ?_) (fun c43 => ?_)
            · have b43 : (fitS S i j) = false := bz_eq0 c43
              refine J_null hC dX4_useFirstPair_55 ?_
              refine J_astore hC dX4_useFirstPair_56 (by decide) (ls1 := [some (rv x), some (rv a), some (rv (mR M x 2)), some (.int (nI 120)), some (.int (nI j)), some (rv e), some (rv 0)]) rfl ?_
              refine J_aload hC dX4_useFirstPair_58 rfl ?_
              refine J_ifnull hC dX4_useFirstPair_60 (tgt := 73) (by decide) (fun c60 => ?_) (fun c60 => ?_)
              · refine J_iinc hC dX4_useFirstPair_73 (by decide) rfl (v := nI (j + 1)) (nI_1 _) (ls1 := [some (rv x), some (rv a), some (rv (mR M x 2)), some (.int (nI 120)), some (.int (nI (j + 1))), some (rv e), some (rv 0)]) rfl ?_
                refine J_goto hC dX4_useFirstPair_76 (tgt := 20) (by decide) ?_
                refine J_sub hC (ls1 := [some (rv x), some (rv a), some (rv (mR M x 2)), some (.int (nI 120)), some (.int (nI (j + 1)))]) ⟨rfl, rfl, rfl, rfl, rfl, trivial⟩ ?_
                exact ih (j + 1) (by omega) (by omega) (fun k hk => by
                  by_cases e9 : k = j
                  · subst e9; rw [b43]; rfl
                  · exact hi k (by omega))
              · exact absurd rfl c60
            · have b43 : (fitS S i j) = true := bz_ne0 c43
              refine J_aload_n hC dX4_useFirstPair_46 rfl rfl ?_
              refine J_aload hC dX4_useFirstPair_47 rfl ?_
              refine J_callV (k1 := 0) (n1 := 0) (kd := 5) [rv e] [rv e, rv x] hC lv_X4_377 (ct_X4_buyerFor hst hM hI hlt2 we) hM.tx (by decide) ⟨_, mE_5 hM.tx⟩ rfl rfl rfl (by simp only [List.map_cons, List.map_nil, rv_cat, Value.category, List.sum_cons, List.sum_nil]; decide) (by decide) rfl rfl (by decide) (by omega) dX4_useFirstPair_49 (fun E M9 h => h.elim) (fun v9 M9 hq9 => ?_)
              obtain ⟨rfl, e9⟩ := hq9
              rw [e9]; clear e9
              refine J_goto hC dX4_useFirstPair_52 (tgt := 56) (by decide) ?_
              refine J_astore hC dX4_useFirstPair_56 (by decide) (ls1 := [some (rv x), some (rv a), some (rv (mR M x 2)), some (.int (nI 120)), some (.int (nI j)), some (rv e), some (rv (byN M x S j))]) rfl ?_
              refine J_aload hC dX4_useFirstPair_58 rfl ?_
              refine J_ifnull hC dX4_useFirstPair_60 (tgt := 73) (by decide) (fun c60 => ?_) (fun c60 => ?_)
              · have hbn : buyerOf S j = none := hM.by0 ht0 c60
                refine J_iinc hC dX4_useFirstPair_73 (by decide) rfl (v := nI (j + 1)) (nI_1 _) (ls1 := [some (rv x), some (rv a), some (rv (mR M x 2)), some (.int (nI 120)), some (.int (nI (j + 1))), some (rv e), some (rv (byN M x S j))]) rfl ?_
                refine J_goto hC dX4_useFirstPair_76 (tgt := 20) (by decide) ?_
                refine J_sub hC (ls1 := [some (rv x), some (rv a), some (rv (mR M x 2)), some (.int (nI 120)), some (.int (nI (j + 1)))]) ⟨rfl, rfl, rfl, rfl, rfl, trivial⟩ ?_
                exact ih (j + 1) (by omega) (by omega) (fun k hk => by
                  by_cases e9 : k = j
                  · subst e9; rw [hbn]; exact Bool.and_false _
                  · exact hi k (by omega))
              · obtain ⟨bb, hby, hbl, hbf, ebn⟩ := by1 c60
                obtain ⟨ab, eab⟩ : ∃ z, z = nA M x bb := ⟨_, rfl⟩
                have wab : NtA M ab bb S := by rw [eab]; exact hM.o.1 _ hbl
                have eb9 : byN M x S j = ab := ebn.trans eab.symm
                rw [eb9]
                refine J_aload hC dX4_useFirstPair_63 rfl ?_
                refine J_aload hC dX4_useFirstPair_65 rfl ?_
                refine J_aload_n hC dX4_useFirstPair_67 rfl rfl ?_
                refine J_callS (k1 := 2) (n1 := 0 + (4 * (sT S 0 i).length)) [rv e, rv ab, rv a] [rv a, rv ab, rv e] hC ls_X4_381 (ct_X4_use hst hM ee eab ea hlt2 hbl hi9 (hlk)) rfl rfl (by simp only [List.map_cons, List.map_nil, rv_cat, Value.category, List.sum_cons, List.sum_nil]; decide) (by decide) rfl rfl (by decide) (by omega) dX4_useFirstPair_68 (fun E M9 h => h.elim) (fun v9 M2 hq9 => ?_)
                obtain ⟨rfl, hM2, hs2, hF2⟩ := hq9
                have ea2 : a = vA M2 x i := ea.trans (hs2.v _).symm
                have wa2 : VeA M2 a i (useQ S i j bb) := by rw [ea2]; exact hM2.v.1 _ hi9
                have ee2 : e = nA M2 x j := ee.trans (hs2.n _).symm
                have we2 : NtA M2 e j (useQ S i j bb) := by rw [ee2]; exact hM2.o.1 _ hlt2
                have eab2 : ab = nA M2 x bb := eab.trans (hs2.n _).symm
                have wab2 : NtA M2 ab bb (useQ S i j bb) := by rw [eab2]; exact hM2.o.1 _ hbl
                refine J_iconst hC dX4_useFirstPair_71 (v := 1) (by decide) ?_
                refine J_zret hC (by decide) (by omega) (by decide) dX4_useFirstPair_72 ?_
                exact Or.inr ⟨useQ S i j bb, step_some b4 (fun k hk => hi k (by omega)) hlt2 b43 hby, rfl, hM2, hs2, hF2, hI.use hi9 hlt2 hbl b43 hbf, useQ_N _ _ _ _, useQ_len _ _ _ _⟩
    exact L20 121 0 (by omega) (Nat.zero_le _) (fun k hk => absurd hk (by omega))
  · have b4 : (blk S (i)) = true := bz_ne0 c4
    refine J_iconst hC dX4_useFirstPair_7 (v := 0) (by decide) ?_
    refine J_zret hC (by decide) (Nat.zero_le _) (by decide) dX4_useFirstPair_8 ?_
    exact Or.inl ⟨step_blk b4, rfl, rfl⟩
theorem settle_0 {S : St} {v n : Nat} (h : stepQ S v = none) : settleQ n S v = S := by
  cases n with
  | zero => rfl
  | succ n => unfold settleQ; rw [h]
theorem settle_s {S S1 : St} {v n : Nat} (h : stepQ S v = some S1) : settleQ (n + 1) S v = settleQ n S1 v := by
  show (match stepQ S v with | none => S | some S1 => settleQ n S1 v) = _
  rw [h]
theorem sq_step {L L1 n : Nat} (h : n ≤ 2 * (L * L)) (h1 : L1 = L + 1) : n + 4 * L ≤ 2 * (L1 * L1) := by
  subst h1
  have : (L + 1) * (L + 1) = L * L + (2 * L + 1) := by rw [Nat.add_mul, Nat.mul_add]; omega
  omega
theorem sq_end {L n : Nat} (h : n ≤ 2 * (L * L)) (h1 : L ≤ 75) : n ≤ 11250 := by
  have : L * L ≤ 75 * 75 := Nat.mul_le_mul h1 h1
  omega
theorem ct_X4_settle {G : Gt} {l : Launch} (hst : l.stackTraces = false) {M : Mm} {x : Nat} {S : St} {t : Nat} (hM : CAt M x S) (hI : Inv S t) {a i : Nat} (ea : a = vA M x i) (hi9 : i < sN S 1) : Ct G l yX4_settle cX4_settle 3 none 7 M [rv x, rv a] 240 11650 (MtC M x (settleQ 120 S i) none) (noX) := by
  obtain ⟨bK, bV, bP, bN⟩ := hM.b
  refine Ct_intro (own := RX4) (nm := "settle") (by decide +kernel) rfl rfl hst (fun w hw => by simp only [List.mem_cons, List.not_mem_nil, or_false] at hw; rcases hw with rfl | rfl <;> first | rfl | exact rv_cat _) (Nat.le_of_ble_eq_true rfl) (fun γ hC => ?_)
  show J G γ M 0 [some (rv x), some (rv a)] [] 0 0
  refine J_iconst hC dX4_settle_0 (v := 0) (by decide) ?_
  refine J_istore_n hC dX4_settle_1 rfl (by decide) (ls1 := [some (rv x), some (rv a), some (.int 0)]) rfl ?_
  have L2 : ∀ (n9 : Nat) (j : Nat) (Sj : St) (Mj : Mm) (kv nv : Nat), 120 - j < n9 → (CAt Mj x Sj) → (Inv Sj t) → (sN Sj = sN S) → (Sm M Mj x) → (Fr pC M Mj) → (settleQ (120 - j) Sj i = settleQ 120 S i) → (j ≤ 120) → (kv = 2 * j) → (nv ≤ 2 * ((sT Sj 0 i).length * (sT Sj 0 i).length)) → J G γ Mj 2 [some (rv x), some (rv a), some (.int (nI j))] [] kv nv := by
    intro n9
    induction n9 with
    | zero => intro j Sj Mj kv nv h9; exact absurd h9 (Nat.not_lt_zero _)
    | succ n9 ih =>
      intro j Sj Mj kv nv h9 hMj hIj hNj hsj hFj hset hjN hkv hnv
      have hLj := hIj.lk75 (show i < sN Sj 1 by rw [hNj]; exact hi9)
      have hnv9 := sq_end hnv hLj
      refine J_iload_n hC dX4_settle_2 rfl rfl ?_
      refine J_bipush hC dX4_settle_3 (v := 120) (by decide) ?_
      refine J_icmp_ge hC dX4_settle_5 (tgt := 22) (by decide) (fun c5 => ?_) (fun c5 => ?_)
      · have hj9 : j = 120 := by have := le_nI (n := 120) (by omega) (by omega) c5; omega
        subst hj9
        refine J_vret hC (by omega) (by omega) dX4_settle_22 ?_
        exact ⟨rfl, by rw [← hset]; exact hMj, hsj, hFj⟩
      · have hlt := ge_nI (n := 120) (by omega) (by omega) c5
        refine J_aload_n hC dX4_settle_8 rfl rfl ?_
        refine J_aload_n hC dX4_settle_9 rfl rfl ?_
        have ej : a = vA Mj x i := ea.trans (hsj.v i).symm
        refine J_callV (k1 := kv + 2) (n1 := nv + 4 * (sT Sj 0 i).length) (kd := 5) [rv a] [rv a, rv x] hC lv_X4_369 (ct_X4_useFirstPair hst hMj hIj ej (by rw [hNj]; exact hi9)) hMj.tx (by decide) ⟨_, mE_5 hMj.tx⟩ rfl rfl rfl (by simp only [List.map_cons, List.map_nil, rv_cat, Value.category, List.sum_cons, List.sum_nil]; decide) (by decide) rfl rfl (by omega) (by omega) dX4_settle_10 (fun E M9 h => h.elim) (fun v9 M9 hq9 => ?_)
        rcases hq9 with ⟨hst9, rfl, e9⟩ | ⟨S9, hst9, rfl, hM9, hs9, hF9, hI9, hN9, hl9⟩
        · rw [e9]; clear e9
          refine J_if_eq hC dX4_settle_13 (tgt := 22) (by decide) (fun c13 => ?_) (fun c13 => ?_)
          · refine J_vret hC (by omega) (by omega) dX4_settle_22 ?_
            exact ⟨rfl, by rw [← hset, settle_0 hst9]; exact hMj, hsj, hFj⟩
          · exact absurd rfl c13
        · refine J_if_eq hC dX4_settle_13 (tgt := 22) (by decide) (fun c13 => ?_) (fun c13 => ?_)
          · exact absurd c13 (by decide)
          · refine J_iinc hC dX4_settle_16 (by decide) rfl (v := nI (j + 1)) (nI_1 _) (ls1 := [some (rv x), some (rv a), some (.int (nI (j + 1)))]) rfl ?_
            refine J_goto hC dX4_settle_19 (tgt := 2) (by decide) ?_
            obtain ⟨k9, hk9⟩ : ∃ z, 120 - j = z + 1 := ⟨119 - j, by omega⟩
            have hset2 : settleQ (120 - (j + 1)) S9 i = settleQ 120 S i := by
              rw [← hset, hk9, settle_s hst9]
              congr 1; omega
            exact ih (j + 1) S9 M9 (kv + 2) (nv + 4 * (sT Sj 0 i).length) (by omega) hM9 hI9 (hN9.trans hNj) (hsj.trans hs9) (hFj.trans hF9) hset2 (by omega) (by omega) (sq_step hnv hl9)
  exact L2 121 0 S M 0 0 (by omega) hM hI rfl (Sm.rf _ _) (Fr.rf _ _) rfl (by decide) rfl (Nat.zero_le _)
