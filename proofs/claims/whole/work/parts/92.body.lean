/-! the law's body -/
theorem Bc.st {M : Mm} {x : Nat} (hx : (mT M x).1 = 0) : Bc (nwM M x (5, 0) 0) x 0 (nwM M x (5, 0) 0) :=
  ⟨va_up_self _ _ _, fun k => by show (if x = x then 0 else mI M x k) = 0; rw [if_pos rfl], fun k => by show (if x = x then 0 else mJ M x k) = 0; rw [if_pos rfl], fun k hk => absurd hk (Nat.not_lt_zero _), Fr.rf _ _⟩
theorem Bd.st {M : Mm} {x : Nat} (hx : (mT M x).1 = 0) : Bd (nwM M x (6, 0) 0) x 10 (nwM M x (6, 0) 0) :=
  ⟨va_up_self _ _ _, fun k => by show (if x = x then 0 else mI M x k) = 0; rw [if_pos rfl], fun k => by show (if x = x then 0 else mJ M x k) = 0; rw [if_pos rfl], fun k h1 h2 => absurd h2 (by omega), Fr.rf _ _⟩
theorem Iv.S0 : Iv S0 0 := ⟨Inv.S0, fun v hv => absurd hv (Nat.not_lt_zero _)⟩
theorem lw_body {G : Gt} {γ : Γt} {mc ms : Nat} {lh : Launch} {M : Mm} {b L : Nat} {xs : Nat → Int32} (hst : lh.stackTraces = false) (hC : Zok G γ RL cL_law (some .boolean) 20 mc ms lawQ lh 9) (hs : Sok G γ b L xs) (hL2 : L ≤ 2560) (hmc : 160000 ≤ mc) (hms : 7000000 ≤ ms) : JE G γ ET M 0 [some (.ref b)] [] 0 0 := by
  refine Z_new5 0 hC lc_L_8 in_X4 it_X4 rfl rfl (by omega) (by omega) dL_law_0 (k1 := 1) (n1 := 12) (fun x hx zx => ?_)
  refine Z_dup hC dL_law_3 (rv_cat _) ?_
  refine Z_callI (k1 := 7) (n1 := 223) [] [rv x, rv x] hC li_L_151 (ct_X4_init hst zx (Bc.st hx)) zx rfl rfl (by simp only [List.map_cons, List.map_nil, rv_cat, List.sum_cons, List.sum_nil]; (try simp only [Value.category]); (try omega)) (by decide) rfl rfl (by omega) (by omega) dL_law_4 (fun v9 M1 hq1 => ?_)
  obtain ⟨rfl, c1, f1⟩ := hq1
  refine Z_astore_n hC dL_law_7 rfl (by decide) (ls1 := [some (.ref b), some (rv x)]) rfl ?_
  refine Z_new6 0 hC lc_L_152 in_X5 it_X5 rfl rfl (by omega) (by omega) dL_law_8 (k1 := 8) (n1 := 256) (fun m hm zm => ?_)
  have c2 := (c1.pM (Fr.nw (P := pM) (t := (6, 0)) (n := 0) hm)).1
  refine Z_dup hC dL_law_11 (rv_cat _) ?_
  refine Z_callI (k1 := 31) (n1 := 6343) [] [rv m, rv m] hC li_L_154 (ct_X5_init hst zm (Bd.st hm)) zm rfl rfl (by simp only [List.map_cons, List.map_nil, rv_cat, List.sum_cons, List.sum_nil]; (try simp only [Value.category]); (try omega)) (by decide) rfl rfl (by omega) (by omega) dL_law_12 (fun v9 M2 hq2 => ?_)
  obtain ⟨rfl, m2, f2⟩ := hq2
  have c3 := (c2.pM f2).1
  refine Z_astore_n hC dL_law_15 rfl (by decide) (ls1 := [some (.ref b), some (rv x), some (rv m)]) rfl ?_
  refine Z_iconst hC dL_law_16 (v := 1) (by decide) ?_
  refine Z_newJ (N := 1) 0 hC ac_long (by decide) (by decide) rfl rfl (by omega) (by omega) dL_law_17 (k1 := 32) (n1 := 6344) (fun o ho zo => ?_)
  have c4 := (c3.pM (Fr.nw (P := pM) (t := (12, 0)) (n := 1) ho)).1
  have m3 := m2.fr (Fr.nw (P := pC) (t := (12, 0)) (n := 1) ho)
  have to : mT (nwM M2 o (12, 0) 1) o = (12, 0) := va_up_self _ _ _
  have lo : mL (nwM M2 o (12, 0) 1) o = 1 := va_up_self _ _ _
  generalize nwM M2 o (12, 0) 1 = M3 at *
  refine Z_astore_n hC dL_law_19 rfl (by decide) (ls1 := [some (.ref b), some (rv x), some (rv m), some (rv o)]) rfl ?_
  refine Z_iconst hC dL_law_20 (v := 1) (by decide) ?_
  refine Z_newD (N := 1) 0 hC ac_double (by decide) (by decide) rfl rfl (by omega) (by omega) dL_law_21 (k1 := 33) (n1 := 6345) (fun od hd zd => ?_)
  have fd := Fr.nw (P := fun _ => False) (t := (13, 0)) (n := 1) hd
  have c5 := (c4.pM (Fr.nw (P := pM) (t := (13, 0)) (n := 1) hd)).1
  have m4 := m3.fr (Fr.nw (P := pC) (t := (13, 0)) (n := 1) hd)
  have eo := (fd o (by rw [to]; decide)).2 (fun h => h)
  have hO : Ot (nwM M3 od (13, 0) 1) o od := ⟨eo.1.trans to, eo.2.1.trans lo, va_up_self _ _ _, va_up_self _ _ _⟩
  refine Z_astore hC dL_law_23 (by decide) (ls1 := [some (.ref b), some (rv x), some (rv m), some (rv o), some (rv od)]) rfl ?_
  refine Z_iconst hC dL_law_25 (v := 0) (by decide) ?_
  refine Z_istore hC dL_law_26 (by decide) (ls1 := lsL b x m o od 0) rfl ?_
  exact lw_loop (k0 := 33) (n0 := 6345) hst hC hs hL2 (by omega) (by omega) 513 0 _ S0 (by omega) ⟨c5, m4, Iv.S0, hO⟩
