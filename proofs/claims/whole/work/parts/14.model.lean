/-- the reference's test of two notices -/
def fitR (S : St) (s b : Nat) : Bool := fitS S (ix (sO S s 2)) s && fitB S s b && !blk S (ix (sO S s 2))
theorem near_sym {a b : Int32} (ha : 0 ≤ a.toInt ∧ a.toInt ≤ 3000) (hb : 0 ≤ b.toInt ∧ b.toInt ≤ 3000) : (if -7 ≤ b - a ∧ b - a ≤ 7 then (1 : Int32) else 0) = bz (near a b) := by
  have h7 : (7 : Int32).toInt = 7 := by decide
  have h8 : (-7 : Int32).toInt = -7 := by decide
  have e1 := i_sub (a := b) (b := a) (by omega) (by omega)
  have e2 := i_sub (a := a) (b := b) (by omega) (by omega)
  have e : (-7 ≤ b - a ∧ b - a ≤ 7) ↔ (a - b ≤ 7 ∧ -7 ≤ a - b) := by
    simp only [i_le, e1, e2, h7, h8]; omega
  unfold bz near
  by_cases h : -7 ≤ b - a ∧ b - a ≤ 7
  · rw [if_pos h, if_pos (by simpa using e.mp h)]
  · rw [if_neg h, if_neg (by simpa using fun x y => h (e.mpr ⟨x, y⟩))]
theorem bz_and {a b : Bool} : bz (a && b) = (if a = true ∧ b = true then 1 else 0) := by cases a <;> cases b <;> rfl
theorem day_rng {S : St} {t : Nat} (hI : Inv S t) {n : Nat} (hn : n < sN S 3) : 0 ≤ (sO S n 4).toInt ∧ (sO S n 4).toInt ≤ 3000 := by
  obtain ⟨h1, h2⟩ := hI.n4 n hn
  have h3 := hI.bD.2
  rw [i_le] at h1 h2
  have h0 : (0 : Int32).toInt = 0 := by decide
  omega
theorem lastV_mem {l : Tl} (h : l ≠ []) : ∃ e ∈ l, lastV l = e.2 := by
  rcases List.eq_nil_or_concat l with rfl | ⟨l1, e, rfl⟩
  · exact absurd rfl h
  · exact ⟨e, by simp, by simp [lastV]⟩
theorem Inv.kp {S : St} {t : Nat} (hI : Inv S t) {v : Nat} (hv : v < sN S 1) : isIx (lastV (sT S 0 v)) (sN S 0) = true := by
  obtain ⟨e, he, h⟩ := lastV_mem (hI.tn v hv)
  rw [h]; exact hI.t0 v hv e he
theorem isIx_m1 {n : Nat} : isIx (-1) n = false := by
  rw [isIx_no]
  have : (-1 : Int32).toInt = -1 := by decide
  omega
/-- what fit has found is what is asked -/
def fitZ (S : St) (s b : Nat) (z w : Int32) : Bool := decide (z ≠ 0) && decide (w ≠ 0) && decide (sO S s 1 = lastV (sT S 0 (ix (sO S s 2)))) && decide (lastD (sT S 0 (ix (sO S s 2))) ≤ sO S s 4) && !blk S (ix (sO S s 2))

theorem al1 {p q : Prop} [Decidable p] [Decidable q] {r : Bool} (h : ¬ p) : (0 : Int32) = bz (decide p && decide q && r) := by simp [h, bz]
theorem al2 {p q : Prop} [Decidable p] [Decidable q] {r : Bool} (h : ¬ q) : (0 : Int32) = bz (decide p && decide q && r) := by simp [h, bz]
theorem al3 {p q : Prop} [Decidable p] [Decidable q] {r : Bool} (h : bz r = 0) : (0 : Int32) = bz (decide p && decide q && r) := by rw [bz_0] at h; simp [h, bz]
theorem al4 {p q : Prop} [Decidable p] [Decidable q] {r : Bool} (h1 : p) (h2 : q) (h : ¬ bz r = 0) : (1 : Int32) = bz (decide p && decide q && r) := by have h3 := bz_ne0 h; simp [h1, h2, h3, bz]
theorem fz1 {S : St} {s b : Nat} {z w : Int32} (h : z = 0) : (0 : Int32) = bz (fitZ S s b z w) := by simp [fitZ, h, bz]
theorem fz2 {S : St} {s b : Nat} {z w : Int32} (h : w = 0) : (0 : Int32) = bz (fitZ S s b z w) := by simp [fitZ, h, bz]
theorem fz3 {S : St} {s b : Nat} {z w : Int32} (h : ¬ sO S s 1 = lastV (sT S 0 (ix (sO S s 2)))) : (0 : Int32) = bz (fitZ S s b z w) := by simp [fitZ, h, bz]
theorem fz4 {S : St} {s b : Nat} {z w : Int32} (h : sO S s 4 < lastD (sT S 0 (ix (sO S s 2)))) : (0 : Int32) = bz (fitZ S s b z w) := by
  have h1 : decide (lastD (sT S 0 (ix (sO S s 2))) ≤ sO S s 4) = false := decide_eq_false (i_nle h)
  simp only [fitZ, h1, Bool.and_false, Bool.false_and, bz]; rfl
theorem fz5 {S : St} {s b : Nat} {z w : Int32} (h : ¬ bz (blk S (ix (sO S s 2))) = 0) : (0 : Int32) = bz (fitZ S s b z w) := by have h1 := bz_ne0 h; simp [fitZ, h1, bz]
theorem fz6 {S : St} {s b : Nat} {z w : Int32} (h1 : ¬ z = 0) (h2 : ¬ w = 0) (h3 : sO S s 1 = lastV (sT S 0 (ix (sO S s 2)))) (h4 : ¬ sO S s 4 < lastD (sT S 0 (ix (sO S s 2)))) (h5 : bz (blk S (ix (sO S s 2))) = 0) : (1 : Int32) = bz (fitZ S s b z w) := by
  have h6 := bz_eq0 h5
  have h7 : decide (lastD (sT S 0 (ix (sO S s 2))) ≤ sO S s 4) = true := decide_eq_true (i_nlt h4)
  simp only [fitZ, h6, h7, decide_eq_true h1, decide_eq_true h2, decide_eq_true h3, ne_eq, bz]; rfl
theorem fit_end {S : St} {t : Nat} (hI : Inv S t) {s b : Nat} (hs : s < sN S 3) (hb : b < sN S 3) (hv : isIx (sO S s 2) (sN S 1) = true) {z w u : Int32} (hz : z = bz (decide (sO S s 5 = 111) && decide (sO S b 5 = 111) && decide (sO S s 1 ≠ -1) && decide (sO S b 1 = -1))) (hw : w = bz (decide (sO S b 2 = sO S s 2) && decide (sO S s 3 = sO S b 3) && near (sO S b 4) (sO S s 4))) (hu : u = bz (fitZ S s b z w)) : u = bz (fitR S s b) := by
  rw [hu]
  congr 1
  have h1 : sO S s 2 = nI (ix (sO S s 2)) := isIx_nI hv
  have h2 : sO S s 1 = lastV (sT S 0 (ix (sO S s 2))) → sO S s 1 ≠ -1 := by
    intro h e
    have h3 := hI.kp (isIx_ix hv).2
    rw [← h, e, isIx_m1] at h3; cases h3
  have hz' : decide (z ≠ 0) = (decide (sO S s 5 = 111) && decide (sO S b 5 = 111) && decide (sO S s 1 ≠ -1) && decide (sO S b 1 = -1)) := by
    rw [hz]; generalize (decide (sO S s 5 = 111) && decide (sO S b 5 = 111) && decide (sO S s 1 ≠ -1) && decide (sO S b 1 = -1)) = q
    cases q <;> decide
  have hw' : decide (w ≠ 0) = (decide (sO S b 2 = sO S s 2) && decide (sO S s 3 = sO S b 3) && near (sO S b 4) (sO S s 4)) := by
    rw [hw]; generalize (decide (sO S b 2 = sO S s 2) && decide (sO S s 3 = sO S b 3) && near (sO S b 4) (sO S s 4)) = q
    cases q <;> decide
  unfold fitZ fitR fitS fitB
  rw [hz', hw']
  rw [Bool.eq_iff_iff]
  simp only [Bool.and_eq_true, decide_eq_true_eq, Bool.not_eq_true']
  constructor
  · rintro ⟨⟨⟨⟨⟨⟨⟨a1, a2⟩, a3⟩, a4⟩, ⟨⟨a5, a6⟩, a7⟩⟩, a8⟩, a9⟩, a10⟩
    exact ⟨⟨⟨⟨⟨a1, h1⟩, a8⟩, a9⟩, ⟨⟨⟨⟨a4, a2⟩, a5⟩, a6.symm⟩, a7⟩⟩, a10⟩
  · rintro ⟨⟨⟨⟨⟨a1, -⟩, a8⟩, a9⟩, ⟨⟨⟨⟨a4, a2⟩, a5⟩, a6⟩, a7⟩⟩, a10⟩
    exact ⟨⟨⟨⟨⟨⟨⟨a1, a2⟩, h2 a8⟩, a4⟩, ⟨⟨a5, a6.symm⟩, a7⟩⟩, a8⟩, a9⟩, a10⟩
theorem ct_X5_fit {G : Gt} {l : Launch} (hst : l.stackTraces = false) {M : Mm} {m : Nat} {S : St} {t : Nat} (hM : MAt M m S t) (hI : Inv S t) (s b : Int32) (hs : isIx s (sN S 3) = true) (hb : isIx b (sN S 3) = true) : Ct G l yX5_fit cX5_fit 6 (some .boolean) 3 M [rv m, .int s, .int b] 0 0 (PQ M (.int (bz (fitR S (ix s) (ix b))))) (noX) := by
  obtain ⟨a0, nP, nR, nS, a1, bR, bS, bt⟩ := id hM
  have bPs := a1.bPs; have bK := a1.bK; have bV := a1.bV; have bPl := a1.bP; have bN := a1.bN
  have hsx := (isIx_ix hs).2
  have hbx := (isIx_ix hb).2
  have s1 : mI M (mR M m 18) (ix s) = sO S (ix s) 1 := a1.n1 _ hsx
  have s2 : mI M (mR M m 20) (ix s) = sO S (ix s) 2 := a1.n2 _ hsx
  have s3 : mI M (mR M m 19) (ix s) = sO S (ix s) 3 := a1.n3 _ hsx
  have s4 : mI M (mR M m 21) (ix s) = sO S (ix s) 4 := a1.n4 _ hsx
  have s5 : mI M (mR M m 22) (ix s) = sO S (ix s) 5 := a1.n5 _ hsx
  have b1 : mI M (mR M m 18) (ix b) = sO S (ix b) 1 := a1.n1 _ hbx
  have b2 : mI M (mR M m 20) (ix b) = sO S (ix b) 2 := a1.n2 _ hbx
  have b3 : mI M (mR M m 19) (ix b) = sO S (ix b) 3 := a1.n3 _ hbx
  have b4 : mI M (mR M m 21) (ix b) = sO S (ix b) 4 := a1.n4 _ hbx
  have b5 : mI M (mR M m 22) (ix b) = sO S (ix b) 5 := a1.n5 _ hbx
  have hv := hI.n2 _ hsx
  have hvx := (isIx_ix hv).2
  refine Ct_intro (own := RX5) (nm := "fit") (by decide +kernel) rfl rfl hst (fun w hw => by simp only [List.mem_cons, List.not_mem_nil, or_false] at hw; rcases hw with rfl | rfl | rfl <;> first | rfl | exact rv_cat _) (Nat.le_of_ble_eq_true rfl) (fun γ hC => ?_)
  show J G γ M 0 [some (rv m), some (.int s), some (.int b)] [] 0 0
  refine J_aload_n hC dX5_fit_0 rfl rfl ?_
  refine J_get6 hC lf_X5_41 (j := 20) a0.t (v := rv (mR M m 20)) rfl dX5_fit_1 ?_
  refine J_iload_n hC dX5_fit_4 rfl rfl ?_
  refine J_iald hC a0.a20 (j := (ix s)) (isIx_ix hs).1 (by rw [a0.l20]; omega) dX5_fit_5 ?_
  rw [s2]
  refine J_istore_n hC dX5_fit_6 rfl (by decide) (ls1 := [some (rv m), some (.int s), some (.int b), some (.int (sO S (ix s) 2))]) rfl ?_
  have K54 : ∀ (z : Int32), (z = bz (decide (sO S (ix s) 5 = 111) && decide (sO S (ix b) 5 = 111) && decide (sO S (ix s) 1 ≠ -1) && decide (sO S (ix b) 1 = -1))) → J G γ M 54 [some (rv m), some (.int s), some (.int b), some (.int (sO S (ix s) 2))] [.int z] 0 0 := by
    intro z hz
    refine J_istore hC dX5_fit_54 (by decide) (ls1 := [some (rv m), some (.int s), some (.int b), some (.int (sO S (ix s) 2)), some (.int z)]) rfl ?_
    have K109 : ∀ (w : Int32), (w = bz (decide (sO S (ix b) 2 = sO S (ix s) 2) && decide (sO S (ix s) 3 = sO S (ix b) 3) && near (sO S (ix b) 4) (sO S (ix s) 4))) → J G γ M 109 [some (rv m), some (.int s), some (.int b), some (.int (sO S (ix s) 2)), some (.int z)] [.int w] 0 0 := by
      intro w hw
      refine J_istore hC dX5_fit_109 (by decide) (ls1 := [some (rv m), some (.int s), some (.int b), some (.int (sO S (ix s) 2)), some (.int z), some (.int w)]) rfl ?_
      have K162 : ∀ (u : Int32), (u = bz (fitR S (ix s) (ix b))) → J G γ M 162 [some (rv m), some (.int s), some (.int b), some (.int (sO S (ix s) 2)), some (.int z), some (.int w)] [.int u] 0 0 := by
        intro u hu
        refine J_zret hC (by decide) (by decide) (by rw [hu]; exact bz_nar _) dX5_fit_162 ?_
        refine ⟨?_, rfl⟩
        rw [hu]
      refine J_iload hC dX5_fit_111 rfl ?_
      refine J_if_eq hC dX5_fit_113 (tgt := 161) (by decide) (fun c113 => ?_) (fun c113 => ?_)
      · refine J_iconst hC dX5_fit_161 (v := 0) (by decide) ?_
        exact K162 _ (fit_end hI hsx hbx hv hz hw (by first | exact fz1 (nn9 c113) | exact fz2 (nn9 c118) | exact fz3 c132 | exact fz4 c146 | exact fz5 c154 | exact fz6 c113 c118 (nn c132) c146 (nn c154)))
      · refine J_iload hC dX5_fit_116 rfl ?_
        refine J_if_eq hC dX5_fit_118 (tgt := 161) (by decide) (fun c118 => ?_) (fun c118 => ?_)
        · refine J_iconst hC dX5_fit_161 (v := 0) (by decide) ?_
          exact K162 _ (fit_end hI hsx hbx hv hz hw (by first | exact fz1 (nn9 c113) | exact fz2 (nn9 c118) | exact fz3 c132 | exact fz4 c146 | exact fz5 c154 | exact fz6 c113 c118 (nn c132) c146 (nn c154)))
        · refine J_aload_n hC dX5_fit_121 rfl rfl ?_
          refine J_get6 hC lf_X5_35 (j := 18) a0.t (v := rv (mR M m 18)) rfl dX5_fit_122 ?_
          refine J_iload_n hC dX5_fit_125 rfl rfl ?_
          refine J_iald hC a0.a18 (j := (ix s)) (isIx_ix hs).1 (by rw [a0.l18]; omega) dX5_fit_126 ?_
          rw [s1]
          refine J_aload_n hC dX5_fit_127 rfl rfl ?_
          refine J_iload_n hC dX5_fit_128 rfl rfl ?_
          refine J_callV (k1 := 0) (n1 := 0) (kd := 6) [.int (sO S (ix s) 2)] [.int (sO S (ix s) 2), rv m, .int (sO S (ix s) 1)] hC lv_X5_160 (ct_X5_present hst hM hI _ hv) a0.t (by decide) ⟨_, mE_6 a0.t⟩ rfl rfl rfl (by simp only [List.map_cons, List.map_nil, rv_cat, Value.category, List.sum_cons, List.sum_nil]; decide) (by decide) rfl rfl (by decide) (by decide) dX5_fit_129 (fun E M9 h => h.elim) (fun v9 M9 hq9 => ?_)
          obtain ⟨rfl, e9⟩ := hq9
          rw [e9]; clear e9
          refine J_icmp_ne hC dX5_fit_132 (tgt := 161) (by decide) (fun c132 => ?_) (fun c132 => ?_)
          · refine J_iconst hC dX5_fit_161 (v := 0) (by decide) ?_
            exact K162 _ (fit_end hI hsx hbx hv hz hw (by first | exact fz1 (nn9 c113) | exact fz2 (nn9 c118) | exact fz3 c132 | exact fz4 c146 | exact fz5 c154 | exact fz6 c113 c118 (nn c132) c146 (nn c154)))
          · refine J_aload_n hC dX5_fit_135 rfl rfl ?_
            refine J_get6 hC lf_X5_44 (j := 21) a0.t (v := rv (mR M m 21)) rfl dX5_fit_136 ?_
            refine J_iload_n hC dX5_fit_139 rfl rfl ?_
            refine J_iald hC a0.a21 (j := (ix s)) (isIx_ix hs).1 (by rw [a0.l21]; omega) dX5_fit_140 ?_
            rw [s4]
            refine J_aload_n hC dX5_fit_141 rfl rfl ?_
            refine J_iload_n hC dX5_fit_142 rfl rfl ?_
            refine J_callV (k1 := 0) (n1 := 0) (kd := 6) [.int (sO S (ix s) 2)] [.int (sO S (ix s) 2), rv m, .int (sO S (ix s) 4)] hC lv_X5_163 (ct_X5_lastPass hst hM hI _ hv) a0.t (by decide) ⟨_, mE_6 a0.t⟩ rfl rfl rfl (by simp only [List.map_cons, List.map_nil, rv_cat, Value.category, List.sum_cons, List.sum_nil]; decide) (by decide) rfl rfl (by decide) (by decide) dX5_fit_143 (fun E M9 h => h.elim) (fun v9 M9 hq9 => ?_)
            obtain ⟨rfl, e9⟩ := hq9
            rw [e9]; clear e9
            refine J_icmp_lt hC dX5_fit_146 (tgt := 161) (by decide) (fun c146 => ?_) (fun c146 => ?_)
            · refine J_iconst hC dX5_fit_161 (v := 0) (by decide) ?_
              exact K162 _ (fit_end hI hsx hbx hv hz hw (by first | exact fz1 (nn9 c113) | exact fz2 (nn9 c118) | exact fz3 c132 | exact fz4 c146 | exact fz5 c154 | exact fz6 c113 c118 (nn c132) c146 (nn c154)))
            · refine J_aload_n hC dX5_fit_149 rfl rfl ?_
              refine J_iload_n hC dX5_fit_150 rfl rfl ?_
              refine J_callV (k1 := 0) (n1 := 0) (kd := 6) [.int (sO S (ix s) 2)] [.int (sO S (ix s) 2), rv m] hC lv_X5_157 (ct_X5_blocked hst hM _ hv) a0.t (by decide) ⟨_, mE_6 a0.t⟩ rfl rfl rfl (by simp only [List.map_cons, List.map_nil, rv_cat, Value.category, List.sum_cons, List.sum_nil]; decide) (by decide) rfl rfl (by decide) (by decide) dX5_fit_151 (fun E M9 h => h.elim) (fun v9 M9 hq9 => ?_)
              obtain ⟨rfl, e9⟩ := hq9
              rw [e9]; clear e9
              refine J_if_ne hC dX5_fit_154 (tgt := 161) (by decide) (fun c154 => ?_) (fun c154 => ?_)
              · refine J_iconst hC dX5_fit_161 (v := 0) (by decide) ?_
                exact K162 _ (fit_end hI hsx hbx hv hz hw (by first | exact fz1 (nn9 c113) | exact fz2 (nn9 c118) | exact fz3 c132 | exact fz4 c146 | exact fz5 c154 | exact fz6 c113 c118 (nn c132) c146 (nn c154)))
              · refine J_iconst hC dX5_fit_157 (v := 1) (by decide) ?_
                refine J_goto hC dX5_fit_158 (tgt := 162) (by decide) ?_
                exact K162 _ (fit_end hI hsx hbx hv hz hw (by first | exact fz1 (nn9 c113) | exact fz2 (nn9 c118) | exact fz3 c132 | exact fz4 c146 | exact fz5 c154 | exact fz6 c113 c118 (nn c132) c146 (nn c154)))
    refine J_aload_n hC dX5_fit_56 rfl rfl ?_
    refine J_get6 hC lf_X5_41 (j := 20) a0.t (v := rv (mR M m 20)) rfl dX5_fit_57 ?_
    refine J_iload_n hC dX5_fit_60 rfl rfl ?_
    refine J_iald hC a0.a20 (j := (ix b)) (isIx_ix hb).1 (by rw [a0.l20]; omega) dX5_fit_61 ?_
    rw [b2]
    refine J_iload_n hC dX5_fit_62 rfl rfl ?_
    refine J_icmp_ne hC dX5_fit_63 (tgt := 108) (by decide) (fun c63 => ?_) (fun c63 => ?_)
    · refine J_iconst hC dX5_fit_108 (v := 0) (by decide) ?_
      exact K109 _ (by first | exact al1 c63 | exact al2 c78 | exact al3 c101 | exact al4 (nn c63) (nn c78) c101)
    · refine J_aload_n hC dX5_fit_66 rfl rfl ?_
      refine J_get6 hC lf_X5_38 (j := 19) a0.t (v := rv (mR M m 19)) rfl dX5_fit_67 ?_
      refine J_iload_n hC dX5_fit_70 rfl rfl ?_
      refine J_iald hC a0.a19 (j := (ix s)) (isIx_ix hs).1 (by rw [a0.l19]; omega) dX5_fit_71 ?_
      rw [s3]
      refine J_aload_n hC dX5_fit_72 rfl rfl ?_
      refine J_get6 hC lf_X5_38 (j := 19) a0.t (v := rv (mR M m 19)) rfl dX5_fit_73 ?_
      refine J_iload_n hC dX5_fit_76 rfl rfl ?_
      refine J_iald hC a0.a19 (j := (ix b)) (isIx_ix hb).1 (by rw [a0.l19]; omega) dX5_fit_77 ?_
      rw [b3]
      refine J_icmp_ne hC dX5_fit_78 (tgt := 108) (by decide) (fun c78 => ?_) (fun c78 => ?_)
      · refine J_iconst hC dX5_fit_108 (v := 0) (by decide) ?_
        exact K109 _ (by first | exact al1 c63 | exact al2 c78 | exact al3 c101 | exact al4 (nn c63) (nn c78) c101)
      · refine J_aload_n hC dX5_fit_81 rfl rfl ?_
        refine J_get6 hC lf_X5_44 (j := 21) a0.t (v := rv (mR M m 21)) rfl dX5_fit_82 ?_
        refine J_iload_n hC dX5_fit_85 rfl rfl ?_
        refine J_iald hC a0.a21 (j := (ix s)) (isIx_ix hs).1 (by rw [a0.l21]; omega) dX5_fit_86 ?_
        rw [s4]
        refine J_aload_n hC dX5_fit_87 rfl rfl ?_
        refine J_get6 hC lf_X5_44 (j := 21) a0.t (v := rv (mR M m 21)) rfl dX5_fit_88 ?_
        refine J_iload_n hC dX5_fit_91 rfl rfl ?_
        refine J_iald hC a0.a21 (j := (ix b)) (isIx_ix hb).1 (by rw [a0.l21]; omega) dX5_fit_92 ?_
        rw [b4]
        refine J_isub hC dX5_fit_93 ?_
        refine J_bipush hC dX5_fit_94 (v := -7) (by decide) ?_
        refine J_bipush hC dX5_fit_96 (v := 7) (by decide) ?_
        refine J_callS (k1 := 0) (n1 := 0) [.int ((sO S (ix s) 4) - (sO S (ix b) 4)), .int (-7), .int 7] [.int 7, .int (-7), .int ((sO S (ix s) 4) - (sO S (ix b) 4))] hC ls_X5_87 (ct_X5_in hst ((sO S (ix s) 4) - (sO S (ix b) 4)) (-7) 7) rfl rfl (by simp only [List.map_cons, List.map_nil, rv_cat, Value.category, List.sum_cons, List.sum_nil]; decide) (by decide) rfl rfl (by decide) (by decide) dX5_fit_98 (fun E M9 h => h.elim) (fun v9 M9 hq9 => ?_)
        obtain ⟨rfl, e9⟩ := hq9
        rw [e9]; clear e9
        rw [near_sym (day_rng hI hbx) (day_rng hI hsx)]
        refine J_if_eq hC dX5_fit_101 (tgt := 108) (by decide) (fun c101 => ?_) (fun c101 => ?_)
        · refine J_iconst hC dX5_fit_108 (v := 0) (by decide) ?_
          exact K109 _ (by first | exact al1 c63 | exact al2 c78 | exact al3 c101 | exact al4 (nn c63) (nn c78) c101)
        · refine J_iconst hC dX5_fit_104 (v := 1) (by decide) ?_
          refine J_goto hC dX5_fit_105 (tgt := 109) (by decide) ?_
          exact K109 _ (by first | exact al1 c63 | exact al2 c78 | exact al3 c101 | exact al4 (nn c63) (nn c78) c101)
  refine J_aload_n hC dX5_fit_7 rfl rfl ?_
  refine J_get6 hC lf_X5_47 (j := 22) a0.t (v := rv (mR M m 22)) rfl dX5_fit_8 ?_
  refine J_iload_n hC dX5_fit_11 rfl rfl ?_
  refine J_iald hC a0.a22 (j := (ix s)) (isIx_ix hs).1 (by rw [a0.l22]; omega) dX5_fit_12 ?_
  rw [s5]
  refine J_bipush hC dX5_fit_13 (v := 111) (by decide) ?_
  refine J_icmp_ne hC dX5_fit_15 (tgt := 53) (by decide) (fun c15 => ?_) (fun c15 => ?_)
  · refine J_iconst hC dX5_fit_53 (v := 0) (by decide) ?_
    exact K54 _ (by simp [bz, *])
  · refine J_aload_n hC dX5_fit_18 rfl rfl ?_
    refine J_get6 hC lf_X5_47 (j := 22) a0.t (v := rv (mR M m 22)) rfl dX5_fit_19 ?_
    refine J_iload_n hC dX5_fit_22 rfl rfl ?_
    refine J_iald hC a0.a22 (j := (ix b)) (isIx_ix hb).1 (by rw [a0.l22]; omega) dX5_fit_23 ?_
    rw [b5]
    refine J_bipush hC dX5_fit_24 (v := 111) (by decide) ?_
    refine J_icmp_ne hC dX5_fit_26 (tgt := 53) (by decide) (fun c26 => ?_) (fun c26 => ?_)
    · refine J_iconst hC dX5_fit_53 (v := 0) (by decide) ?_
      exact K54 _ (by simp [bz, *])
    · refine J_aload_n hC dX5_fit_29 rfl rfl ?_
      refine J_get6 hC lf_X5_35 (j := 18) a0.t (v := rv (mR M m 18)) rfl dX5_fit_30 ?_
      refine J_iload_n hC dX5_fit_33 rfl rfl ?_
      refine J_iald hC a0.a18 (j := (ix s)) (isIx_ix hs).1 (by rw [a0.l18]; omega) dX5_fit_34 ?_
      rw [s1]
      refine J_iconst hC dX5_fit_35 (v := -1) (by decide) ?_
      refine J_icmp_eq hC dX5_fit_36 (tgt := 53) (by decide) (fun c36 => ?_) (fun c36 => ?_)
      · refine J_iconst hC dX5_fit_53 (v := 0) (by decide) ?_
        exact K54 _ (by simp [bz, *])
      · refine J_aload_n hC dX5_fit_39 rfl rfl ?_
        refine J_get6 hC lf_X5_35 (j := 18) a0.t (v := rv (mR M m 18)) rfl dX5_fit_40 ?_
        refine J_iload_n hC dX5_fit_43 rfl rfl ?_
        refine J_iald hC a0.a18 (j := (ix b)) (isIx_ix hb).1 (by rw [a0.l18]; omega) dX5_fit_44 ?_
        rw [b1]
        refine J_iconst hC dX5_fit_45 (v := -1) (by decide) ?_
        refine J_icmp_ne hC dX5_fit_46 (tgt := 53) (by decide) (fun c46 => ?_) (fun c46 => ?_)
        · refine J_iconst hC dX5_fit_53 (v := 0) (by decide) ?_
          exact K54 _ (by simp [bz, *])
        · refine J_iconst hC dX5_fit_49 (v := 1) (by decide) ?_
          refine J_goto hC dX5_fit_50 (tgt := 54) (by decide) ?_
          exact K54 _ (by simp [bz, *])
