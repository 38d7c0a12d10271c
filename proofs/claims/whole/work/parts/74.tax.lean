/-! taxes of the class, by days -/
def ptQ (S : St) (k : Int32) (v q m : Nat) : Int32 := match fday (sT S 2 v) (90 * q) (min 90 (m - 90 * q)) with
  | none => 0
  | some d => if look (sT S 0 v) (nI (90 * q + d)) = k then taxOf (sV S v 1) else 0
def dsum (S : St) (k v m : Nat) : Int32 := sum32 (fun q => ptQ S (nI k) v q m) (ix (sD S) / 90 + 1)
theorem sum32_congr {f g : Nat → Int32} : ∀ {n : Nat}, (∀ q, q < n → f q = g q) → sum32 f n = sum32 g n
  | 0, _ => rfl
  | n + 1, h => by rw [sum32_s, sum32_s, sum32_congr (fun q hq => h q (by omega)), h n (by omega)]
theorem sum32_z {f : Nat → Int32} : ∀ {n : Nat}, (∀ q, q < n → f q = 0) → sum32 f n = 0
  | 0, _ => rfl
  | n + 1, h => by rw [sum32_s, sum32_z (fun q hq => h q (by omega)), h n (by omega)]; rfl
theorem sum32_at {f g : Nat → Int32} {q0 : Nat} {e : Int32} (hne : ∀ q, q ≠ q0 → g q = f q) (h0 : g q0 = f q0 + e) : ∀ {n : Nat}, q0 < n → sum32 g n = sum32 f n + e
  | 0, h => absurd h (Nat.not_lt_zero _)
  | n + 1, h => by
    rw [sum32_s, sum32_s]
    by_cases q : q0 = n
    · subst q
      rw [sum32_congr (f := g) (g := f) (fun q hq => hne q (by omega)), h0, i_add_assoc]
    · rw [sum32_at hne h0 (by omega), hne n (fun h => q h.symm), i_add_assoc, i_add_assoc, Int32.add_comm e]
theorem fday_s (l : Tl) (b n : Nat) : fday l b (n + 1) = match fday l b n with
    | some i => some i
    | none => if decide (look l (nI (b + n)) = 1) then some n else none := rfl
theorem dsum_0 (S : St) (k v : Nat) : dsum S k v 0 = 0 := by
  unfold dsum
  refine sum32_z (fun q _ => ?_)
  unfold ptQ
  rw [Nat.zero_sub, Nat.min_eq_right (Nat.zero_le _)]
  rfl
theorem dsum_end (S : St) (k v : Nat) : dsum S k v (ix (sD S) + 1) = vsum S k v := by
  unfold dsum vsum
  refine sum32_congr (fun q _ => ?_)
  have e : min 90 (ix (sD S) + 1 - 90 * q) = qlen (ix (sD S)) q := rfl
  unfold ptQ taxQ rday
  rw [e]
  cases fday (sT S 2 v) (90 * q) (qlen (ix (sD S)) q) <;> rfl
theorem ptQ_other {S : St} {k : Int32} {v q m : Nat} (h : q ≠ m / 90) : ptQ S k v q (m + 1) = ptQ S k v q m := by
  have e : min 90 (m + 1 - 90 * q) = min 90 (m - 90 * q) := by omega
  unfold ptQ
  rw [e]
theorem here1 (m : Nat) : min 90 (m + 1 - 90 * (m / 90)) = m % 90 + 1 ∧ min 90 (m - 90 * (m / 90)) = m % 90 ∧ 90 * (m / 90) + m % 90 = m := by omega
theorem dsum_same {S : St} {k v m : Nat} (h : (fday (sT S 2 v) (90 * (m / 90)) (m % 90)).isSome = true ∨ ¬ look (sT S 2 v) (nI m) = 1) : dsum S k v (m + 1) = dsum S k v m := by
  obtain ⟨e1, e2, e3⟩ := here1 m
  unfold dsum
  refine sum32_congr (fun q _ => ?_)
  by_cases g : q = m / 90
  · subst g
    unfold ptQ
    rw [e1, e2, fday_s, e3]
    cases hf : fday (sT S 2 v) (90 * (m / 90)) (m % 90) with
    | some i => rfl
    | none =>
      rw [hf] at h
      have h1 := h.resolve_left (by simp)
      simp [h1]
  · exact ptQ_other g
theorem dsum_add {S : St} {k v m : Nat} (hm : m / 90 < ix (sD S) / 90 + 1) (h : fday (sT S 2 v) (90 * (m / 90)) (m % 90) = none) (h1 : look (sT S 2 v) (nI m) = 1) : dsum S k v (m + 1) = dsum S k v m + (if look (sT S 0 v) (nI m) = nI k then taxOf (sV S v 1) else 0) := by
  obtain ⟨e1, e2, e3⟩ := here1 m
  unfold dsum
  refine sum32_at (q0 := m / 90) (fun q hq => ptQ_other hq) ?_ hm
  unfold ptQ
  rw [e1, e2, fday_s, h, e3]
  simp only [h1, decide_true, if_pos, e3]
  rw [Int32.zero_add]
/-- which quarter has been taxed -/
def TQ (l : Tl) (m : Nat) (tq : Int32) : Prop := (tq = nI (m / 90) ↔ (fday l (90 * (m / 90)) (m % 90)).isSome = true) ∧ (tq = -1 ∨ ∃ q, q ≤ m / 90 ∧ tq = nI q)
theorem TQ.st (l : Tl) : TQ l 0 (-1) := ⟨⟨fun h => absurd h (by decide), fun h => absurd h (by show ¬ (none : Option Nat).isSome = true; simp)⟩, Or.inl rfl⟩
theorem m1_nI {q : Nat} (h : q < 2 ^ 31) : ¬ (-1 : Int32) = nI q := fun e => by
  have := congrArg Int32.toInt e
  rw [nI_toInt h] at this
  have h1 : (-1 : Int32).toInt = -1 := by decide
  omega
theorem TQ.nx {l : Tl} {m : Nat} {tq : Int32} (hm : m ≤ 3000) (h2 : tq = -1 ∨ ∃ q, q ≤ m / 90 ∧ tq = nI q) (hs : tq = nI (m / 90) ↔ (fday l (90 * (m / 90)) (m % 90 + 1)).isSome = true) : TQ l (m + 1) tq := by
  refine ⟨?_, ?_⟩
  · by_cases g : (m + 1) / 90 = m / 90
    · have e : (m + 1) % 90 = m % 90 + 1 := by omega
      rw [g, e]; exact hs
    · have e : (m + 1) % 90 = 0 := by omega
      have e2 : (m + 1) / 90 = m / 90 + 1 := by omega
      rw [e, e2]
      refine ⟨fun h => ?_, fun h => absurd h (by show ¬ (none : Option Nat).isSome = true; simp)⟩
      rcases h2 with h3 | ⟨q, h3, h4⟩
      · rw [h3] at h; exact absurd h (m1_nI (by omega))
      · rw [h4] at h; exact absurd (nI_inj (by omega) (by omega) h) (by omega)
  · rcases h2 with h3 | ⟨q, h3, h4⟩
    · exact Or.inl h3
    · exact Or.inr ⟨q, by omega, h4⟩
theorem TQ.skip {l : Tl} {m : Nat} {tq : Int32} (h : TQ l m tq) (hm : m ≤ 3000) (e : nI (m / 90) = tq) : TQ l (m + 1) tq ∧ (fday l (90 * (m / 90)) (m % 90)).isSome = true := by
  have h1 := h.1.mp e.symm
  refine ⟨TQ.nx hm h.2 ⟨fun _ => ?_, fun _ => e.symm⟩, h1⟩
  rw [fday_s]
  cases hf : fday l (90 * (m / 90)) (m % 90) with
  | some i => rfl
  | none => rw [hf] at h1; simp at h1
theorem TQ.none {l : Tl} {m : Nat} {tq : Int32} (h : TQ l m tq) (e : ¬ nI (m / 90) = tq) : fday l (90 * (m / 90)) (m % 90) = none := by
  cases hf : fday l (90 * (m / 90)) (m % 90) with
  | some i => exact absurd (h.1.mpr (by rw [hf]; rfl)).symm e
  | none => rfl
theorem TQ.no {l : Tl} {m : Nat} {tq : Int32} (h : TQ l m tq) (hm : m ≤ 3000) (e : ¬ nI (m / 90) = tq) (h1 : ¬ look l (nI m) = 1) : TQ l (m + 1) tq := by
  refine TQ.nx hm h.2 ⟨fun g => absurd g.symm e, fun g => ?_⟩
  rw [fday_s, h.none e, (here1 m).2.2] at g
  simp [h1] at g
theorem TQ.yes {l : Tl} {m : Nat} {tq : Int32} (h : TQ l m tq) (hm : m ≤ 3000) (e : ¬ nI (m / 90) = tq) (h1 : look l (nI m) = 1) : TQ l (m + 1) (nI (m / 90)) := by
  refine TQ.nx hm (Or.inr ⟨m / 90, Nat.le_refl _, rfl⟩) ⟨fun _ => ?_, fun _ => rfl⟩
  rw [fday_s, h.none e, (here1 m).2.2]
  simp [h1]
theorem tw_s (e : Int32 × Int32) (l : Tl) (d : Int32) : tw (e :: l) d = if e.1 ≤ d then tw l d + 1 else 0 := by
  unfold tw
  rw [List.takeWhile_cons]
  by_cases q : e.1 ≤ d
  · rw [if_pos (by simpa using q), if_pos q, List.length_cons]
  · rw [if_neg (by simpa using q), if_neg q, List.length_nil]
theorem tw_mono {d d2 : Int32} (hd : d ≤ d2) (l : Tl) : tw l d ≤ tw l d2 := by
  induction l with
  | nil => rw [show tw ([] : Tl) d = 0 from rfl]; exact Nat.zero_le _
  | cons e l ih =>
    rw [tw_s, tw_s]
    by_cases q : e.1 ≤ d
    · rw [if_pos q, if_pos (i_le_trans q hd)]
      omega
    · rw [if_neg q]
      omega
theorem nI_div90 {m : Nat} (h : m ≤ 3000) : nI m / 90 = nI (m / 90) := by
  have e := nI_toInt (n := m) (by omega)
  rw [div90 (x := nI m) (by omega), ix_nI (by omega)]
theorem day_gt {S : St} {m : Nat} (h : 0 ≤ (sD S).toInt ∧ (sD S).toInt ≤ 3000) (hm : m ≤ ix (sD S) + 1) : (sD S < nI m → m = ix (sD S) + 1) ∧ (¬ sD S < nI m → m ≤ ix (sD S)) := by
  have e : ix (sD S) = (sD S).toInt.toNat := Int32.toNat_toInt (sD S) |>.symm
  have e2 := nI_toInt (n := m) (by omega)
  refine ⟨fun h2 => ?_, fun h2 => ?_⟩
  · rw [i_lt, e2] at h2; omega
  · rw [i_lt, e2] at h2; omega
theorem ct_X4_addDays {G : Gt} {l : Launch} (hst : l.stackTraces = false) {M : Mm} {x : Nat} {S : St} {t : Nat} (hM : CAt M x S) (hI : Inv S t) {a i : Nat} (ea : a = vA M x i) (hi9 : i < sN S 1) : Ct G l yX4_addDays cX4_addDays 6 none 4 M [rv x, rv a] 0 0 (fun r9 M9 => r9 = none ∧ CAt M9 x S ∧ Sm M M9 x ∧ Fr (fun t => t = rwT 5) M M9 ∧ ∀ n, n < 12 → mI M9 (mR M x 5) n = mI M (mR M x 5) n + vsum S n i) (noX) := by
  obtain ⟨bK, bV, bP, bN⟩ := hM.b
  have hDx := ixD hI.bD
  obtain ⟨r, er0⟩ : ∃ z, z = mR M x 5 := ⟨_, rfl⟩
  refine Ct_intro (own := RX4) (nm := "addDays") (by decide +kernel) rfl rfl hst (fun w hw => by simp only [List.mem_cons, List.not_mem_nil, or_false] at hw; rcases hw with rfl | rfl <;> first | rfl | exact rv_cat _) (Nat.le_of_ble_eq_true rfl) (fun γ hC => ?_)
  show J G γ M 0 [some (rv x), some (rv a)] [] 0 0
  refine J_iconst hC dX4_addDays_0 (v := -1) (by decide) ?_
  refine J_istore_n hC dX4_addDays_1 rfl (by decide) (ls1 := [some (rv x), some (rv a), some (.int (-1))]) rfl ?_
  refine J_iconst hC dX4_addDays_2 (v := -1) (by decide) ?_
  refine J_istore_n hC dX4_addDays_3 rfl (by decide) (ls1 := [some (rv x), some (rv a), some (.int (-1)), some (.int (-1))]) rfl ?_
  refine J_iconst hC dX4_addDays_4 (v := 0) (by decide) ?_
  refine J_istore hC dX4_addDays_5 (by decide) (ls1 := [some (rv x), some (rv a), some (.int (-1)), some (.int (-1)), some (.int 0)]) rfl ?_
  have L7 : ∀ (n9 : Nat) (m : Nat) (Mj : Mm) (tq z : Int32) (kk : Nat), ix (sD S) + 1 - m < n9 → (CAt Mj x S) → (Sm M Mj x) → (Fr (fun t => t = rwT 5) M Mj) → (m ≤ ix (sD S) + 1) → (TQ (sT S 2 i) m tq) → (kk ≤ tw (sT S 2 i) (nI m)) → (z = nI kk - 1) → (∀ n, n < 12 → mI Mj r n = mI M r n + dsum S n i m) → J G γ Mj 7 [some (rv x), some (rv a), some (.int tq), some (.int z), some (.int (nI m))] [] 0 0 := by
    intro n9
    induction n9 with
    | zero => intro m Mj tq z kk h9; exact absurd h9 (Nat.not_lt_zero _)
    | succ n9 ih =>
      intro m Mj tq z kk h9 hMj hsj hFj hmN hTj hkj hzj hrj
      have hme := day_gt hI.bD hmN
      have ea2 : a = vA Mj x i := ea.trans (hsj.v i).symm
      have wa : VeA Mj a i S := by rw [ea2]; exact hMj.v.1 _ hi9
      have er : mR Mj x 5 = r := by rw [hsj.1, ← er0]
      refine J_iload hC dX4_addDays_7 rfl ?_
      refine J_aload_n hC dX4_addDays_9 rfl rfl ?_
      refine J_get5 hC lf_X4_48 (j := 10) hMj.tx (v := .int (sD S)) (congrArg (fun z => some (Value.int z)) hMj.c10) dX4_addDays_10 ?_
      refine J_icmp_gt hC dX4_addDays_13 (tgt := 84) (by decide) (fun c13 => ?_) (fun c13 => ?_)
      · have hm9 := hme.1 c13
        refine J_vret hC (by decide) (by decide) dX4_addDays_84 ?_
        exact ⟨rfl, hMj, hsj, hFj, fun n hn => by rw [← er0, hrj n hn, hm9, dsum_end]⟩
      · have hmD := hme.2 c13
        refine J_iload hC dX4_addDays_16 rfl ?_
        refine J_bipush hC dX4_addDays_18 (v := 90) (by decide) ?_
        refine J_idiv hC dX4_addDays_20 (by decide) ?_
        rw [nI_div90 (by omega)]
        refine J_istore hC dX4_addDays_21 (by decide) (ls1 := [some (rv x), some (rv a), some (.int tq), some (.int z), some (.int (nI m)), some (.int (nI (m / 90)))]) rfl ?_
        refine J_iload hC dX4_addDays_23 rfl ?_
        refine J_iload_n hC dX4_addDays_25 rfl rfl ?_
        have KD : ∀ (Mr : Mm) (tq2 z2 : Int32) (k2 : Nat), CAt Mr x S → Sm M Mr x → Fr (fun t => t = rwT 5) M Mr → TQ (sT S 2 i) (m + 1) tq2 → k2 ≤ tw (sT S 2 i) (nI m) → z2 = nI k2 - 1 → (∀ n, n < 12 → mI Mr r n = mI M r n + dsum S n i (m + 1)) → J G γ Mr 78 [some (rv x), some (rv a), some (.int tq2), some (.int z2), some (.int (nI m)), some (.int (nI (m / 90)))] [] 0 0 := by
          intro Mr tq2 z2 k2 hMr hsr hFr hTr hkr hzr hrr
          refine J_sub hC (ls1 := [some (rv x), some (rv a), some (.int tq2), some (.int z2), some (.int (nI m))]) ⟨rfl, rfl, rfl, rfl, rfl, trivial⟩ ?_
          refine J_iinc hC dX4_addDays_78 (by decide) rfl (v := nI (m + 1)) (nI_1 _) (ls1 := [some (rv x), some (rv a), some (.int tq2), some (.int z2), some (.int (nI (m + 1)))]) rfl ?_
          refine J_goto hC dX4_addDays_81 (tgt := 7) (by decide) ?_
          exact ih (m + 1) Mr tq2 z2 k2 (by omega) hMr hsr hFr (by omega) hTr (Nat.le_trans hkr (tw_mono (nI_le (by omega) (by omega)) _)) hzr hrr
        refine J_icmp_eq hC dX4_addDays_26 (tgt := 78) (by decide) (fun c26 => ?_) (fun c26 => ?_)
        · obtain ⟨g1, g2⟩ := hTj.skip (by omega) c26
          exact KD Mj tq z kk hMj hsj hFj g1 hkj hzj (fun n hn => by rw [dsum_same (Or.inl g2)]; exact hrj n hn)
        · refine J_aload_n hC dX4_addDays_29 rfl rfl ?_
          refine J_get4 hC lf_X4_118 (j := 4) wa.tg (v := rv (mR Mj a 4)) rfl dX4_addDays_30 ?_
          refine J_iload_n hC dX4_addDays_33 rfl rfl ?_
          refine J_iload hC dX4_addDays_34 rfl ?_
          rw [hzj]
          refine J_callV (k1 := 0) (n1 := 0) (kd := 3) [.int (nI kk - 1), .int (nI m)] [.int (nI m), .int (nI kk - 1), rv (mR Mj a 4)] hC lv_X4_419 (ct_X2_advance hst wa.T4 kk (nI m) hkj) wa.k4 (by decide) ⟨_, mE_3 wa.k4⟩ rfl rfl rfl (by decide) (by decide) rfl rfl (by decide) (by decide) dX4_addDays_36 (fun E M9 h => h.elim) (fun v9 M9 hq9 => ?_)
          obtain ⟨rfl, e9⟩ := hq9
          rw [e9]; clear e9
          refine J_istore_n hC dX4_addDays_39 rfl (by decide) (ls1 := [some (rv x), some (rv a), some (.int tq), some (.int (nI (tw (sT S 2 i) (nI m)) - 1)), some (.int (nI m)), some (.int (nI (m / 90)))]) rfl ?_
          refine J_aload_n hC dX4_addDays_40 rfl rfl ?_
          refine J_get4 hC lf_X4_118 (j := 4) wa.tg (v := rv (mR Mj a 4)) rfl dX4_addDays_41 ?_
          refine J_iload_n hC dX4_addDays_44 rfl rfl ?_
          refine J_callV (k1 := 0) (n1 := 0) (kd := 3) [.int (nI (tw (sT S 2 i) (nI m)) - 1)] [.int (nI (tw (sT S 2 i) (nI m)) - 1), rv (mR Mj a 4)] hC lv_X4_422 (ct_X2_valueAt hst wa.T4 _) wa.k4 (by decide) ⟨_, mE_3 wa.k4⟩ rfl rfl rfl (by decide) (by decide) rfl rfl (by decide) (by decide) dX4_addDays_45 (fun E M9 h => h.elim) (fun v9 M9 hq9 => ?_)
          obtain ⟨rfl, e9⟩ := hq9
          rw [e9]; clear e9
          rw [val_tw wa.T4.len (hI.ts _ hi9 2 (by decide)).2]
          refine J_iconst hC dX4_addDays_48 (v := 1) (by decide) ?_
          refine J_icmp_ne hC dX4_addDays_49 (tgt := 78) (by decide) (fun c49 => ?_) (fun c49 => ?_)
          · exact KD Mj tq _ _ hMj hsj hFj (hTj.no (by omega) c26 c49) (Nat.le_refl _) rfl (fun n hn => by rw [dsum_same (Or.inr c49)]; exact hrj n hn)
          · have c49 := nn c49
            refine J_aload_n hC dX4_addDays_52 rfl rfl ?_
            refine J_get5 hC lf_X4_34 (j := 5) hMj.tx (v := rv r) (congrArg (fun z => some (rv z)) er) dX4_addDays_53 ?_
            refine J_aload_n hC dX4_addDays_56 rfl rfl ?_
            refine J_get4 hC lf_X4_182 (j := 2) wa.tg (v := rv (mR Mj a 2)) rfl dX4_addDays_57 ?_
            refine J_iload hC dX4_addDays_60 rfl ?_
            refine J_callV (k1 := 0) (n1 := 0) (kd := 3) [.int (nI m)] [.int (nI m), rv (mR Mj a 2), rv r] hC lv_X4_188 (ct_X2_atByGoing hst wa.T2 (nI m) (hI.ts _ hi9 0 (by decide)).2) wa.k2 (by decide) ⟨_, mE_3 wa.k2⟩ rfl rfl rfl (by simp only [List.map_cons, List.map_nil, rv_cat, List.sum_cons, List.sum_nil]; decide) (by decide) rfl rfl (by decide) (by decide) dX4_addDays_62 (fun E M9 h => h.elim) (fun v9 M9 hq9 => ?_)
            obtain ⟨rfl, e9⟩ := hq9
            rw [e9]; clear e9
            refine J_aload_n hC dX4_addDays_65 rfl rfl ?_
            refine J_get4 hC lf_X4_145 (j := 1) wa.tg (v := .int (sV S i 1)) (congrArg (fun z => some (Value.int z)) wa.v1) dX4_addDays_66 ?_
            refine J_callS (k1 := 0) (n1 := 0) [.int (sV S i 1)] [.int (sV S i 1), .int (look (sT S 0 i) (nI m)), rv r] hC ls_X4_289 (ct_X4_taxFor hst (sV S i 1)) rfl rfl (by simp only [List.map_cons, List.map_nil, rv_cat, List.sum_cons, List.sum_nil]; (try simp only [Value.category]); (try omega)) (by decide) rfl rfl (by decide) (by decide) dX4_addDays_69 (fun E M9 h => h.elim) (fun v9 M9 hq9 => ?_)
            obtain ⟨rfl, e9⟩ := hq9
            rw [e9]; clear e9
            refine J_callS (k1 := 0) (n1 := 0) [rv r, .int (look (sT S 0 i) (nI m)), .int (taxOf (sV S i 1))] [.int (taxOf (sV S i 1)), .int (look (sT S 0 i) (nI m)), rv r] hC ls_X4_211 (ct_X4_addTo (N := 12) hst (by rw [← er]; exact hMj.tk5) (by rw [← er]; exact hMj.lk5) (by decide) (look (sT S 0 i) (nI m)) (taxOf (sV S i 1))) rfl rfl (by decide) (by decide) rfl rfl (by decide) (by decide) dX4_addDays_72 (fun E M9 h => h.elim) (fun v9 M9 hq9 => ?_)
            obtain ⟨rfl, e9⟩ := hq9
            obtain ⟨g1, g2, g3⟩ := hMj.rwadd (k := 5) (M9 := M9) (i := look (sT S 0 i) (nI m)) (v := taxOf (sV S i 1)) (Or.inr rfl) (by rw [er]; exact e9)
            refine J_iload hC dX4_addDays_75 rfl ?_
            refine J_istore_n hC dX4_addDays_77 rfl (by decide) (ls1 := [some (rv x), some (rv a), some (.int (nI (m / 90))), some (.int (nI (tw (sT S 2 i) (nI m)) - 1)), some (.int (nI m)), some (.int (nI (m / 90)))]) rfl ?_
            exact KD M9 _ _ _ g1 (hsj.trans g2) (hFj.trans g3) (hTj.yes (by omega) c26 c49) (Nat.le_refl _) rfl (fun n hn => by rw [add_at e9 hn, hrj n hn, i_add_assoc, dsum_add (by omega) (hTj.none c26) c49])
  exact L7 (ix (sD S) + 2) 0 M (-1) (-1) 0 (by omega) hM (Sm.rf _ _) (Fr.rf _ _) (Nat.zero_le _) (TQ.st _) (Nat.zero_le _) (by decide) (fun n hn => by rw [dsum_0, i32_a0])
theorem ct_X4_sumByDays {G : Gt} {l : Launch} (hst : l.stackTraces = false) {M : Mm} {x : Nat} {S : St} {t : Nat} (hM : CAt M x S) (hI : Inv S t) : Ct G l yX4_sumByDays cX4_sumByDays 5 none 5 M [rv x] 0 0 (SuC M x S 5) (noX) := by
  obtain ⟨bK, bV, bP, bN⟩ := hM.b
  refine Ct_intro (own := RX4) (nm := "sumByDays") (by decide +kernel) rfl rfl hst (fun w hw => by simp only [List.mem_cons, List.not_mem_nil, or_false] at hw; rcases hw with rfl <;> first | rfl | exact rv_cat _) (Nat.le_of_ble_eq_true rfl) (fun γ hC => ?_)
  show J G γ M 0 [some (rv x)] [] 0 0
  refine J_aload_n hC dX4_sumByDays_0 rfl rfl ?_
  refine J_aload_n hC dX4_sumByDays_1 rfl rfl ?_
  refine J_get5 hC lf_X4_34 (j := 5) hM.tx (v := rv (mR M x 5)) rfl dX4_sumByDays_2 ?_
  refine J_callV (k1 := 0) (n1 := 0) (kd := 5) [rv (mR M x 5)] [rv (mR M x 5), rv x] hC lv_X4_412 (ct_X4_beginWithPaid hst hM (kr := 5) (Or.inr rfl)) hM.tx (by decide) ⟨_, mE_5 hM.tx⟩ rfl rfl rfl (by simp only [List.map_cons, List.map_nil, rv_cat, Value.category, List.sum_cons, List.sum_nil]; decide) (by decide) rfl rfl (by decide) (by decide) dX4_sumByDays_5 (fun E M9 h => h.elim) (fun v9 Mb hq9 => ?_)
  obtain ⟨rfl, hMb, hsb, hFb, hrb⟩ := hq9
  obtain ⟨r, er0⟩ : ∃ z, z = mR M x 5 := ⟨_, rfl⟩
  rw [← er0] at hrb
  refine J_aload_n hC dX4_sumByDays_8 rfl rfl ?_
  refine J_get5 hC lf_X4_11 (j := 0) hMb.tx (v := rv (mR Mb x 0)) rfl dX4_sumByDays_9 ?_
  refine J_astore_n hC dX4_sumByDays_12 rfl (by decide) (ls1 := [some (rv x), some (rv (mR Mb x 0))]) rfl ?_
  refine J_aload_n hC dX4_sumByDays_13 rfl rfl ?_
  refine J_alen9 hC hMb.tk0 dX4_sumByDays_14 ?_
  rw [hMb.lk0]
  refine J_istore_n hC dX4_sumByDays_15 rfl (by decide) (ls1 := [some (rv x), some (rv (mR Mb x 0)), some (.int (nI 15))]) rfl ?_
  refine J_iconst hC dX4_sumByDays_16 (v := 0) (by decide) ?_
  refine J_istore_n hC dX4_sumByDays_17 rfl (by decide) (ls1 := [some (rv x), some (rv (mR Mb x 0)), some (.int (nI 15)), some (.int 0)]) rfl ?_
  have L18 : ∀ (n9 : Nat) (j : Nat) (Mj : Mm), 15 - j < n9 → (CAt Mj x S) → (Sm M Mj x) → (Fr (fun t => t = rwT 5) M Mj) → (j ≤ 15) → (∀ i, i < 12 → mI Mj r i = -sP S i + sum32 (fun v => vsum S i v) (min j (sN S 1))) → J G γ Mj 18 [some (rv x), some (rv (mR Mb x 0)), some (.int (nI 15)), some (.int (nI j))] [] 0 0 := by
    intro n9
    induction n9 with
    | zero => intro j Mj h9; exact absurd h9 (Nat.not_lt_zero _)
    | succ n9 ih =>
      intro j Mj h9 hMj hsj hFj hjN hrj
      refine J_iload_n hC dX4_sumByDays_18 rfl rfl ?_
      refine J_iload_n hC dX4_sumByDays_19 rfl rfl ?_
      refine J_icmp_ge hC dX4_sumByDays_20 (tgt := 45) (by decide) (fun c20 => ?_) (fun c20 => ?_)
      · have hj9 : j = 15 := by have := le_nI (n := 15) (by omega) (by omega) c20; omega
        subst hj9
        refine J_vret hC (by decide) (by decide) dX4_sumByDays_45 ?_
        exact ⟨rfl, hMj, hsj, hFj, fun i hi => by rw [← er0, hrj i hi, Nat.min_eq_right (by omega), owe_eq]⟩
      · have hlt := ge_nI (n := 15) (by omega) (by omega) c20
        have e0j : mR Mj (mR Mj x 0) j = mR Mj (mR Mb x 0) j := by rw [hsj.1, ← hsb.1]
        refine J_aload_n hC dX4_sumByDays_23 rfl rfl ?_
        refine J_iload_n hC dX4_sumByDays_24 rfl rfl ?_
        refine J_aald9 hC (show (mT Mj (mR Mb x 0)).1 = 9 by rw [hsb.1, ← hsj.1]; exact hMj.tk0) (j := j) (nI_toInt (by omega)) (by rw [hsb.1, ← hsj.1, hMj.lk0]; omega) dX4_sumByDays_25 ?_
        obtain ⟨e, ee⟩ : ∃ z, z = mR Mj (mR Mb x 0) j := ⟨_, rfl⟩
        rw [← ee]
        refine J_astore hC dX4_sumByDays_26 (by decide) (ls1 := [some (rv x), some (rv (mR Mb x 0)), some (.int (nI 15)), some (.int (nI j)), some (rv e)]) rfl ?_
        refine J_t0 (fun htj => ?_)
        refine J_aload hC dX4_sumByDays_28 rfl ?_
        have KJ : ∀ (Mr : Mm), CAt Mr x S → Sm M Mr x → Fr (fun t => t = rwT 5) M Mr → (∀ i, i < 12 → mI Mr r i = -sP S i + sum32 (fun v => vsum S i v) (min (j + 1) (sN S 1))) → J G γ Mr 39 [some (rv x), some (rv (mR Mb x 0)), some (.int (nI 15)), some (.int (nI j)), some (rv e)] [] 0 0 := by
          intro Mr hMr hsr hFr hrr
          refine J_sub hC (ls1 := [some (rv x), some (rv (mR Mb x 0)), some (.int (nI 15)), some (.int (nI j))]) ⟨rfl, rfl, rfl, rfl, trivial⟩ ?_
          refine J_iinc hC dX4_sumByDays_39 (by decide) rfl (v := nI (j + 1)) (nI_1 _) (ls1 := [some (rv x), some (rv (mR Mb x 0)), some (.int (nI 15)), some (.int (nI (j + 1)))]) rfl ?_
          refine J_goto hC dX4_sumByDays_42 (tgt := 18) (by decide) ?_
          exact ih (j + 1) Mr (by omega) hMr hsr hFr (by omega) hrr
        have ev : e = vA Mj x j := by rw [ee, ← e0j]
        refine J_ifnull hC dX4_sumByDays_30 (tgt := 39) (by decide) (fun c30 => ?_) (fun c30 => ?_)
        · have hge : ¬ j < sN S 1 := hMj.vj0 htj (ev.symm.trans c30)
          exact KJ Mj hMj hsj hFj (fun i hi => vs_ge hge (hrj i hi))
        · have hlt2 : j < sN S 1 := hMj.vj1 hlt (fun h => c30 (ev.trans h))
          refine J_aload_n hC dX4_sumByDays_33 rfl rfl ?_
          refine J_aload hC dX4_sumByDays_34 rfl ?_
          refine J_callV (k1 := 0) (n1 := 0) (kd := 5) [rv e] [rv e, rv x] hC lv_X4_416 (ct_X4_addDays hst hMj hI ev hlt2) hMj.tx (by decide) ⟨_, mE_5 hMj.tx⟩ rfl rfl rfl (by simp only [List.map_cons, List.map_nil, rv_cat, Value.category, List.sum_cons, List.sum_nil]; decide) (by decide) rfl rfl (by decide) (by decide) dX4_sumByDays_36 (fun E M9 h => h.elim) (fun v9 M9 hq9 => ?_)
          obtain ⟨rfl, hM9, hs9, hF9, hr9⟩ := hq9
          have er : mR Mj x 5 = r := by rw [hsj.1, ← er0]
          rw [er] at hr9
          exact KJ M9 hM9 (hsj.trans hs9) (hFj.trans hF9) (fun i hi => vs_yes hlt2 (by rw [hr9 i hi, hrj i hi]))
  exact L18 16 0 Mb (by omega) hMb hsb hFb (by decide) (fun i hi => by rw [Nat.zero_min]; show _ = _ + 0; rw [i32_a0]; exact hrb i hi)
