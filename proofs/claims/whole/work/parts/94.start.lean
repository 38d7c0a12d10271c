/-! the law's start -/
abbrev gvC : Cond := Jvm.Cond.and given_1 narrow_1
theorem nr_cast : ∀ E ∈ exN, ∀ F ∈ exN, E ≠ F → Cond.not (.castable E F) ∈ flatC gvC := by decide +kernel
theorem nr_str : ∀ q ∈ strT, Cond.exactly (.string q.1 q.2.1) "java/lang/String" ∈ flatC gvC := by decide +kernel
theorem tb_str : ∀ q ∈ strT, Cond.stringRef q.1 q.2.1 q.2.2 ∈ lw_tbl := by decide +kernel
theorem tb_cast : ∀ E ∈ exN, Cond.castable E E ∈ lw_tbl := by decide +kernel
theorem tb_decl : ∀ y ∈ dcN, Cond.declares y ∈ lw_tbl := by decide +kernel
theorem nr_st1 : Cond.isRef (.static Bundle.tN "UNASSIGNED_STACK" Bundle.steD) ∈ flatC gvC := by decide +kernel
theorem nr_st2 : Cond.isRef (.static Bundle.tN "SUPPRESSED_SENTINEL" Bundle.listD) ∈ flatC gvC := by decide +kernel
def M00 : Mm := (fun _ => (0, 0), fun _ => 0, fun _ _ => 0, fun _ _ => 0, fun _ _ => 0, fun _ _ => 0)
theorem arr_k {args : Array Value} {s : State} {ty : FieldType} (h : (Cond.arrayClass ty).before args s = true) (hv : ∀ cA : ClassId, s.vm.findClass ("[" ++ ty.toString) = some cA → va_RA s cA ty) : ∃ cA : ClassId, ArrOfT s cA ty ∧ va_RA s cA ty := by
  obtain ⟨cA, kA, comp, h1, h2, h3⟩ := Cond.arrayClass_spec (args := args) (first := s) (o := none) (s := s) (idx := []) (type := ty) h
  exact ⟨cA, fun n z => ⟨(fun k h => by cases h), kA, h2, comp, h3⟩, hv cA h1⟩
theorem arr_o {args : Array Value} {s : State} {C : String} (h : (Cond.arrayOver (.object C)).before args s = true) : ∃ cA : ClassId, ArrOfT s cA (.object C) ∧ va_RA s cA (.object C) := by
  obtain ⟨comp, cA, kA, h1, h2, h3, h4, h5⟩ := Cond.arrayOver_spec (args := args) (first := s) (o := none) (s := s) (idx := []) (n := C) h
  exact ⟨cA, fun n z => ⟨(fun k h => by cases h), kA, h3, comp, h4⟩, kA, comp, h3, h4, h1, h5⟩
theorem lw_world {s : State} {args : Array Value} (hts : ∀ w ∈ lw_tbl, w.before args s = true) (hgv : gvC.before args s = true) : ∃ G : Gt, G.2.2 = s.heap ∧ Gx G s := by
  have hf := flat_of_before _ hgv
  have hAW : ∀ w ∈ AW, w.before args s = true := fun w hw => hts w (AW_tbl hw)
  obtain ⟨c0, i0, k0⟩ := u_known (C := RX0) (T := TX0) (N := 7) (n := 7) hAW lay0 (hAW _ in_X0)
  obtain ⟨c1, i1, k1⟩ := u_known (C := RX1) (T := TX1) (N := 4) (n := 4) hAW lay1 (hAW _ in_X1)
  obtain ⟨c2, i2, k2⟩ := u_known (C := RX2) (T := TX2) (N := 3) (n := 3) hAW lay2 (hAW _ in_X2)
  obtain ⟨c3, i3, k3⟩ := u_known (C := RX3) (T := TX3) (N := 8) (n := 8) hAW lay3 (hAW _ in_X3)
  obtain ⟨c4, i4, k4⟩ := u_known (C := RX4) (T := TX4) (N := 12) (n := 12) hAW lay4 (hAW _ in_X4)
  obtain ⟨c5, i5, k5⟩ := u_known (C := RX5) (T := TX5) (N := 33) (n := 33) hAW lay5 (hAW _ in_X5)
  obtain ⟨a7, b7, d7⟩ := arr_k (ty := .int) (hAW _ ac_int) (fun cA h => h)
  obtain ⟨a8, b8, d8⟩ := arr_k (ty := .boolean) (hAW _ ac_boolean) (fun cA h => h)
  obtain ⟨a12, b12, d12⟩ := arr_k (ty := .long) (hAW _ ac_long) (fun cA h => h)
  obtain ⟨a13, b13, d13⟩ := arr_k (ty := .double) (hAW _ ac_double) (fun cA h => h)
  have o3 : (Cond.arrayOver (.object RX3)).before args s = true := hts _ (by decide +kernel)
  have o1 : (Cond.arrayOver (.object RX1)).before args s = true := hts _ (by decide +kernel)
  have o0 : (Cond.arrayOver (.object RX0)).before args s = true := hts _ (by decide +kernel)
  obtain ⟨a9, b9, d9⟩ := arr_o o3
  obtain ⟨a10, b10, d10⟩ := arr_o o1
  obtain ⟨a11, b11, d11⟩ := arr_o o0
  refine ⟨((fun k => match k with | 0 => c0 | 1 => c1 | 2 => c2 | 3 => c3 | 4 => c4 | _ => c5, fun k => match k with | 0 => i0 | 1 => i1 | 2 => i2 | 3 => i3 | 4 => i4 | _ => i5), fun k => match k with | 7 => a7 | 8 => a8 | 9 => a9 | 10 => a10 | 11 => a11 | 12 => a12 | _ => a13, s.heap), rfl, ⟨⟨?_, ?_⟩, ?_, ?_, ?_, ?_, va_AO.of o3, va_AO.of o1, va_AO.of o0, ?_, ?_⟩, ?_⟩
  · intro k q hq
    match k, hq with
    | 0, hq => cases hq; exact k0
    | 1, hq => cases hq; exact k1
    | 2, hq => cases hq; exact k2
    | 3, hq => cases hq; exact k3
    | 4, hq => cases hq; exact k4
    | 5, hq => cases hq; exact k5
    | k + 6, hq => simp at hq
  · intro k q hq
    match k, hq with
    | 0, hq => cases hq; exact ⟨b7, d7⟩
    | 1, hq => cases hq; exact ⟨b8, d8⟩
    | 2, hq => cases hq; exact ⟨b9, d9⟩
    | 3, hq => cases hq; exact ⟨b10, d10⟩
    | 4, hq => cases hq; exact ⟨b11, d11⟩
    | 5, hq => cases hq; exact ⟨b12, d12⟩
    | 6, hq => cases hq; exact ⟨b13, d13⟩
    | k + 7, hq => simp [tysW] at hq
  · exact vx_Zqof (hts _ (by decide +kernel)) (hts _ (by decide +kernel)) (hf _ nr_st1) (fun a ha h => absurd ha (Nat.not_lt.mpr h))
  · exact vx_Zqof (hts _ (by decide +kernel)) (hts _ (by decide +kernel)) (hf _ nr_st2) (fun a ha h => absurd ha (Nat.not_lt.mpr h))
  · exact fun E hE => va_Nw.of rfl (hts _ (tb_cast E hE))
  · intro q hq
    obtain ⟨a2, c, cA, kA, q1, -⟩ := Cond.exactly_spec (args := args) (first := s) (o := none) (s := s) (idx := []) (t := .string q.1 q.2.1) (cls := "java/lang/String") (hf _ (nr_str q hq))
    exact ⟨a2, vk_R.of (A := args) (hts _ (tb_str q hq)) q1⟩
  · exact va_Nw.of rfl (hts _ (by decide +kernel))
  · exact fun y hy => va_Nw.of rfl (hts _ (tb_decl y hy))
  · exact fun E hE F hF n => va_Nc.of (hf _ (nr_cast E hE F hF n))
set_option maxHeartbeats 4000000 in
theorem whole_start {p : Program} {e : Env} {s : State} {m : MethodId} {below : List Frame} {meth : Method} {c : Code} (l : Launch) (hflags : l.flags = flags0) {b L : Nat} {xs : Nat → Int32} (hL : L ≤ 2560) (C0 : lw_At p s m meth c b L xs) : W p l e room_1 s m #[Value.ref b] below meth c s.heap [] 0 0 (lw_Z below #[Value.ref b] s) (entryFrame m ([Value.ref b] : List Value).toArray 9) := by
  obtain ⟨hx, hb, hr, hml, hown, hts, hX, hbl, hlocks, hgv⟩ := C0
  have hst : l.stackTraces = false := by
    unfold Launch.stackTraces
    rw [hflags]
    decide
  obtain ⟨G, hG, hGx⟩ := lw_world hts hgv
  have hLow : Low G s.heap := by
    unfold Low
    rw [hG]
    exact ⟨Nat.le_refl _, fun q _ => rfl⟩
  have h0 : 0 < G.2.2.size := by rw [hG]; omega
  have hnb : ¬ gA G b := by
    unfold gA
    rw [hG]; omega
  have hZ : Zok G (p, l, e, rmOf 20 603072 7198826, s, m, #[Value.ref b], below, meth, c, lawQ, noX, 603072, 7198826, 9) RL cL_law (some .boolean) 20 603072 7198826 lawQ l 9 := ⟨hx, hb, hr, hml, hown, fun w hw => hts w (AW_tbl hw), hlocks, hGx, hLow, hst, h0, rfl, rfl, rfl, rfl, rfl, rfl⟩
  have hS : Sok G (p, l, e, rmOf 20 603072 7198826, s, m, #[Value.ref b], below, meth, c, lawQ, noX, 603072, 7198826, 9) b L xs := ⟨hX, hbl, hnb⟩
  have k := lw_body (M := M00) hst hZ hS hL (by decide) (by decide)
  have hl := lv_entry ([Value.ref b]) (n := 9) (Nat.le_of_ble_eq_true rfl)
  rw [lg_entry_eq]
  have hR : Rep G M00 s.heap := ⟨h0, [], fun a => by simp [M00, mT], fun k q h => by simp [va_pl] at h, fun i j p q h => by simp [va_pl] at h, fun k q h => by simp [va_pl] at h⟩
  refine W_room (R' := rmOf 20 603072 7198826) (by decide) (by decide) (by decide) (by decide) ?_
  refine W_end (fun t ht => ?_) (k s.heap [] _ hR va_S.rf ⟨hl, fun i v hi => ?_⟩ trivial)
  · obtain ⟨o, h1, h2, h3⟩ := ht
    rcases h3 with ⟨⟨-, -, v, M', ho, hv, -⟩, L', hF, hL'⟩ | ⟨q, -, E, ce, L', ⟨-, -, M1, hf, -⟩, -⟩
    · have hv : v = some (.int 1) := hv
      subst hv; subst ho
      obtain ⟨-, hW, hs⟩ := hF
      refine ⟨_, h1, h2, rfl, lw_closed (d0 := s.drawn) (Drawn.sameBut.refl s.drawn lw_cs) ⟨_, rfl⟩ hW (hs.weaken (fun y hy hlt => ?_) (Nat.le_refl _) (Nat.le_refl _))⟩
      have := hL' y hy
      unfold gA at this
      rw [hG] at this
      exact absurd hlt (Nat.not_lt.mpr this)
    · exact hf.elim
  · match i, hi with
    | 0, hi => cases hi; rfl
    | i + 1, hi => simp at hi
