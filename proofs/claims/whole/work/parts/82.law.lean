/-! calls out of the law's own frames -/
abbrev wsH (y : MethodName) (cc : ByteArray) (maxL : Nat) (hh : List (Nat × Nat × Nat × Nat)) : List Cond := .codeWith y cc maxL (some .int) hh :: AW
def CPx (G : Gt) (M : Mm) (As : List Value) : Array Value → State → Prop := va_Pc As (fun U => Gx G U ∧ Low G U.heap ∧ Rep G M U.heap)
theorem CPx_blind {G : Gt} {M : Mm} {As : List Value} : FrameBlind (CPx G M As) := by
  intro a U g mk h
  obtain ⟨h1, h2, h3, h4⟩ := h
  exact ⟨h1, Gx.warm (U := U.calling g mk a) h2 (State.WarmedH.refl U), h3, h4⟩
/-- a contract of a method of the law's class that has a table, and throws nothing -/
def Ch (G : Gt) (l : Launch) (y : MethodName) (cc : ByteArray) (maxL : Nat) (hh : List (Nat × Nat × Nat × Nat)) (d : Nat) (M : Mm) (As : List Value) (mc ms : Nat) (Qr : Option Value → Mm → Prop) : Prop :=
  vx_Met l y (wsH y cc maxL hh) (rmOf d mc ms) (CPx G M As) (CQ G Qr) (CX G noX) mc ms (gA G)
theorem Ch_intro {G : Gt} {l : Launch} {y : MethodName} {cc : ByteArray} {maxL : Nat} {hh : List (Nat × Nat × Nat × Nat)} {d : Nat} {M : Mm} {As : List Value} {mc ms : Nat} {Qr : Option Value → Mm → Prop}
    (hy : plainName RL = true) (ho : y.cls = RL) (hst : l.stackTraces = false) (hcat : ∀ v ∈ As, v.category = 1) (hlen : As.length ≤ maxL)
    (body : ∀ γ : Γt, Zok G γ RL cc (some .int) d mc ms Qr l maxL → Hok γ hh → JE G γ ET M 0 (As.map some) [] 0 0) : Ch G l y cc maxL hh d M As mc ms Qr := by
  rw [← ho] at hy body
  refine vx_ofWH (cc := cc) (maxL := maxL) (ret := some .int) (hh := hh) hy rfl ?_
  intro p e s m args below meth c s₁ B hml hv
  obtain ⟨rfl, hG, hLow, hR⟩ := hv
  have hts := atoms_spec (ws := wsH y cc maxL hh) B.pre
  have hl := lv_entry As (n := maxL) (by rw [sl_args As hcat]; exact hlen)
  rw [lg_entry_eq]
  exact body (p, l, e, rmOf d mc ms, s, m, As.toArray, below, meth, c, Qr, noX, mc, ms, maxL) ⟨B.exec, B.bytes, B.returns, hml, findClass_of_methodNamed B.named, fun w h => hts w (List.mem_cons_of_mem _ h), B.notSynchronized, hG, hLow, hst, hR.1, rfl, rfl, rfl, rfl, rfl, rfl⟩ (vx_table (x := y) B (hts _ List.mem_cons_self))
    s.heap [] _ hR va_S.rf ⟨by rw [lsP_args As 0 hcat]; exact hl, fun i v hi => by
      rw [List.getElem?_map] at hi
      obtain ⟨w, hw, he⟩ := Option.map_eq_some_iff.mp hi
      cases he
      exact hcat v (List.mem_of_getElem? hw)⟩ trivial
theorem Z_of_run {p : Program} {l : Launch} {e : Env} {R : Room} {s : State} {m : MethodId} {args : Array Value} {below : List Frame} {meth : Method} {c : Code} {H : Heap} {locs : List Loc} {cells slots mc ms : Nat} {Q : State → Prop} {pc : Nat} {lsA : Array Slot} {st0 rest : List Value} {G : Gt} {Qrc : Option Value → Mm → Prop} {Qxc : String → Mm → Prop} {a : Array Value}
    (hr : vx_Run p l e R s m args below meth c H locs cells slots mc ms (F0 m pc lsA st0) rest (CQ G Qrc a) (CX G Qxc) (gA G)) (hS : va_S (gA G) s.heap H locs) (hLow : Low G s.heap)
    (kx : ∀ (E : String) (M1 : Mm), Qxc E M1 → ∀ (H1 : Heap) (locs1 : List Loc) (q : Addr) (ce : Cell), Rep G M1 H1 → va_S (gA G) s.heap H1 locs1 → H1[q]? = some ce → ce.vm = .none → s.vm.findClass E = some ce.cls → vx_W p l e R s m args below meth c H1 locs1 (cells + mc) (slots + ms) Q (F0 m pc lsA rest) q)
    (kk : ∀ (v : Option Value) (M1 : Mm), Qrc v M1 → ∀ (H1 : Heap) (locs1 : List Loc), Rep G M1 H1 → va_S (gA G) s.heap H1 locs1 → W p l e R s m args below meth c H1 locs1 (cells + mc) (slots + ms) Q (F0 m (pc + 3) lsA (v.toList ++ rest))) :
    W p l e R s m args below meth c H locs cells slots Q (F0 m pc lsA st0) := by
  intro T hT X
  have hgrow : ∀ (H1 : Heap) (L : List Loc), H.size ≤ H1.size → Low G H1 → (∀ q ∈ L, gA G q.base) → va_S (gA G) s.heap H1 (locs ++ L) := fun H1 L hz hL1 hL => ⟨Nat.le_trans hS.1 hz, fun q h1 h2 => by
      have h3 : q < G.2.2.size := by unfold gA at h2; omega
      rw [hL1.2 q h3, hLow.2 q h3], fun q hq => by
      rcases List.mem_append.mp hq with h | h
      · exact hS.2.2 q h
      · exact hL q h⟩
  rcases hr T hT X with ⟨v, st₀, t, T', L, hh0, X', hL, e1, e2, ⟨hz, hL1, v', M1, hv, hq, hR1⟩, st⟩ | ⟨q, st₀, t, T', L, E, ce, hh0, X', hL, e1, e2, ⟨hz, hL1, M1, hq, hR1⟩, hce, hcv, hcl, st⟩
  · cases hv
    rw [hh0] at hz
    obtain ⟨t2, a1, b1⟩ := kk v M1 hq T'.heap (locs ++ L) (by rw [e1]; exact hR1) (hgrow _ L (by rw [e1]; exact hz) (by rw [e1]; exact hL1) hL) T' rfl X'
    exact ⟨t2, st t2 a1, b1⟩
  · rw [hh0] at hz
    have hS1 := hgrow T'.heap L (by rw [e1]; exact hz) (by rw [e1]; exact hL1) hL
    obtain ⟨t2, a1, b1⟩ := kx E M1 hq T'.heap (locs ++ L) q ce (by rw [e1]; exact hR1) hS1 (by rw [e1]; exact hce) hcv hcl T' rfl X'
    exact ⟨t2, st.trans a1, b1⟩
/-- the rows of a table catch, each its own -/
def HkOk (pc : Nat) (hh : List (Nat × Nat × Nat × Nat)) (es : List String) : Prop := hh.length = es.length ∧ es.Nodup ∧ (∀ E ∈ es, E ∈ exN) ∧ ∀ (i : Nat) (q : Nat × Nat × Nat × Nat) (E : String), hh[i]? = some q → es[i]? = some E → q.1 ≤ pc ∧ pc < q.2.1 ∧ q.2.2.2 ≠ 0 ∧ Cond.classLink RL q.2.2.2 E ∈ AW
theorem Z_callV {G : Gt} {γ : Γt} {own : String} {cc : ByteArray} {ret : Option FieldType} {M : Mm} {pc : Nat} {ls : List (Option Value)} {rest : List Value} {k n d mc ms : Nat} {Qr : Option Value → Mm → Prop} {F : Array Slot → Prop} {lh : Launch} {nL : Nat} {idx : Nat} {C : String} {y : MethodName} {cy : ByteArray} {maxL : Nat} {rety : Option FieldType} {nA dy mcy msy : Nat} {Qrc : Option Value → Mm → Prop} {Qxc : String → Mm → Prop} {k1 n1 : Nat} {b kd : Nat} {T : u_T} {N : Nat} (As st : List Value) (hC : Zok G γ own cc ret d mc ms Qr lh nL) (lk : LkV own idx C y cy maxL rety nA) (hCt : Ct G lh y cy maxL rety dy M (rv b :: As) mcy msy Qrc Qxc) (hT : (mT M b).1 = kd) (hkd : 0 < kd) (hE : ∃ fs, mE G.2.1 M b = .inr (kd - 1, fs)) (hcl : clW[kd - 1]? = some (C, T, N)) (hst : st = As.reverse ++ rv b :: rest) (hn9 : As.length = nA) (hcat : (rest.map fun v => v.category).sum ≤ 8) (hd : dy < d) (hk : k + mcy = k1) (hn : n + msy = n1) (hkc : k1 ≤ mc) (hnc : n1 ≤ ms)
    (dg : decode cc pc = .ok (.invokevirtual idx, 3)) (hX : ∀ E M1, Qxc E M1 → False) (kk : ∀ (v : Option Value) (M1 : Mm), Qrc v M1 → JE G γ F M1 (pc + 3) ls (v.toList ++ rest) k1 n1) : JE G γ F M pc ls st k n := by
  subst hk; subst hn; subst hst
  obtain ⟨p, l, e, R, s, m, args, below, meth, c, Qr1, Qx1, mc1, ms1, nL1⟩ := γ
  obtain ⟨hx, hb, hr, hml, hown, hts, hlk, hG2, hLow, hst, h0, rfl, rfl, rfl, rfl, rfl, rfl⟩ := hC
  have hG := hG2.1
  obtain ⟨l1, l2, l3, l4, l5, l6, l7⟩ := lk
  intro H locs lsA hR hS hl hF
  have hbne := hR.ne (a := b) (by rw [hT]; omega)
  obtain ⟨fs, hE⟩ := hE
  obtain ⟨hg0, L, hL, hP, hD⟩ := id hR
  obtain ⟨q, hq⟩ := va_pl_get (X := []) (f := mE G.2.1 M) ((hL b).mpr (by rw [hT]; omega))
  have hq : (va_pl L (mE G.2.1 M))[q]? = some (b, .inr (kd - 1, fs)) := by rw [← hE]; exact hq
  rw [rv_pos hbne] at hCt ⊢
  refine Z_of_run (vx_runV (As := As) (rest := rest) ⟨hx, hb, hml, hown, hts⟩ hCt (cwV nA hts (AW_code l5 (fun w h => ?_)) rfl rfl rfl l6 ⟨(show dy + 1 ≤ d by omega), (show 8 + (maxL + 11) + 45 * dy ≤ 45 * d by omega)⟩) ⟨CP_blind, va_recv hG.1 hP hcl hq, fun U hU hW => ⟨rfl, hG.warm hW, by rw [hU]; exact Low.of hLow hS, by rw [hU]; exact hR⟩⟩ rfl hn9 hl.1.1 rfl (lv_room hcat) dg ⟨hkc, hnc⟩) hS hLow (fun E M1 h => (hX E M1 h).elim) (fun v M1 hq1 H1 locs1 hR1 hS1 => kk v M1 hq1 H1 locs1 lsA hR1 hS1 hl hF)
  simp only [List.mem_cons, List.not_mem_nil, or_false] at h
  rcases h with rfl | rfl | rfl | rfl <;> assumption

theorem Z_callVH {G : Gt} {γ : Γt} {cc : ByteArray} {ret : Option FieldType} {M : Mm} {pc : Nat} {ls : List (Option Value)} {rest : List Value} {k n d mc ms : Nat} {Qr : Option Value → Mm → Prop} {F : Array Slot → Prop} {lh : Launch} {nL : Nat} {idx : Nat} {C : String} {y : MethodName} {cy : ByteArray} {maxL : Nat} {rety : Option FieldType} {nA dy mcy msy : Nat} {Qrc : Option Value → Mm → Prop} {Qxc : String → Mm → Prop} {k1 n1 : Nat} {b kd : Nat} {T : u_T} {N : Nat} {hh : List (Nat × Nat × Nat × Nat)} {es : List String} {Qi : Nat → Mm → Prop} (As st : List Value) (hC : Zok G γ RL cc ret d mc ms Qr lh nL) (hH : Hok γ hh) (lk : LkV RL idx C y cy maxL rety nA) (hCt : Ct G lh y cy maxL rety dy M (rv b :: As) mcy msy Qrc Qxc) (hT : (mT M b).1 = kd) (hkd : 0 < kd) (hE : ∃ fs, mE G.2.1 M b = .inr (kd - 1, fs)) (hcl : clW[kd - 1]? = some (C, T, N)) (hst : st = As.reverse ++ rv b :: rest) (hn9 : As.length = nA) (hcat : (rest.map fun v => v.category).sum ≤ 8) (hd : dy < d) (hk : k + mcy = k1) (hn : n + msy = n1) (hkc : k1 ≤ mc) (hnc : n1 ≤ ms)
    (dg : decode cc pc = .ok (.invokevirtual idx, 3)) (hes : HkOk pc hh es) (hX : ∀ E M1, Qxc E M1 → ∃ i, es[i]? = some E ∧ Qi i M1) (kk : ∀ (v : Option Value) (M1 : Mm), Qrc v M1 → JE G γ F M1 (pc + 3) ls (v.toList ++ rest) k1 n1)
    (kx : ∀ (i : Nat) (M1 : Mm) (q : Nat × Nat × Nat × Nat) (a : Nat), Qi i M1 → hh[i]? = some q → JE G γ F M1 q.2.2.1 ls [.ref a] k1 n1) : JE G γ F M pc ls st k n := by
  subst hk; subst hn; subst hst
  obtain ⟨p, l, e, R, s, m, args, below, meth, c, Qr1, Qx1, mc1, ms1, nL1⟩ := γ
  obtain ⟨hx, hb, hr, hml, hown, hts, hlk, hG2, hLow, hst, h0, rfl, rfl, rfl, rfl, rfl, rfl⟩ := hC
  have hG := hG2.1
  obtain ⟨l1, l2, l3, l4, l5, l6, l7⟩ := lk
  intro H locs lsA hR hS hl hF
  have hbne := hR.ne (a := b) (by rw [hT]; omega)
  obtain ⟨fs, hE⟩ := hE
  obtain ⟨hg0, L, hL, hP, hD⟩ := id hR
  obtain ⟨q, hq⟩ := va_pl_get (X := []) (f := mE G.2.1 M) ((hL b).mpr (by rw [hT]; omega))
  have hq : (va_pl L (mE G.2.1 M))[q]? = some (b, .inr (kd - 1, fs)) := by rw [← hE]; exact hq
  rw [rv_pos hbne] at hCt ⊢
  refine Z_of_run (vx_runV (As := As) (rest := rest) ⟨hx, hb, hml, hown, hts⟩ hCt (cwV nA hts (AW_code l5 (fun w h => ?_)) rfl rfl rfl l6 ⟨(show dy + 1 ≤ d by omega), (show 8 + (maxL + 11) + 45 * dy ≤ 45 * d by omega)⟩) ⟨CP_blind, va_recv hG.1 hP hcl hq, fun U hU hW => ⟨rfl, hG.warm hW, by rw [hU]; exact Low.of hLow hS, by rw [hU]; exact hR⟩⟩ rfl hn9 hl.1.1 rfl (lv_room hcat) dg ⟨hkc, hnc⟩) hS hLow (fun E M1 h H1 locs1 q9 ce hR1 hS1 hce hcv hcl9 => ?_) (fun v M1 hq1 H1 locs1 hR1 hS1 => kk v M1 hq1 H1 locs1 lsA hR1 hS1 hl hF)
  · simp only [List.mem_cons, List.not_mem_nil, or_false] at h
    rcases h with rfl | rfl | rfl | rfl <;> assumption
  · obtain ⟨i, hi, hQi⟩ := hX E M1 h
    obtain ⟨z1, z2, z3, z4⟩ := hes
    have hil : i < es.length := (List.getElem?_eq_some_iff.mp hi).1
    have hih : i < hh.length := by omega
    have hqi : hh[i]? = some hh[i] := List.getElem?_eq_getElem hih
    obtain ⟨y1, y2, y3, y4⟩ := z4 i _ E hqi hi
    have hEm : E ∈ exN := z3 E (List.mem_of_getElem? hi)
    refine vx_catch (own := RL) (name := E) hown ((hh.take i).map (fun q => (⟨q.1, q.2.1, q.2.2.1, q.2.2.2⟩ : ExceptionTableEntry))) ⟨hh[i].1, hh[i].2.1, hh[i].2.2.1, hh[i].2.2.2⟩ ((hh.drop (i + 1)).map (fun q => (⟨q.1, q.2.1, q.2.2.1, q.2.2.2⟩ : ExceptionTableEntry))) ?_ (fun z hz => Or.inr ?_) (by simp [covers, y1, y2]) y3 (hts _ y4) (va_Nw.use rfl (hG.2.2.2.1 E hEm)) hce hcv hcl9 (kx i M1 _ q9 hQi hqi H1 locs1 lsA hR1 hS1 hl hF)
    · refine Eq.trans hH ?_
      unfold tableOf
      rw [← List.map_cons (f := fun q : Nat × Nat × Nat × Nat => (⟨q.1, q.2.1, q.2.2.1, q.2.2.2⟩ : ExceptionTableEntry)), ← List.map_append, ← List.drop_eq_getElem_cons hih, List.take_append_drop]
    · obtain ⟨q2, hq2, rfl⟩ := List.mem_map.mp hz
      obtain ⟨j, hj, hjq⟩ := List.mem_take_iff_getElem.mp hq2
      have hji : j < i := by omega
      have hjh : j < hh.length := by omega
      have hje : es[j]? = some es[j] := List.getElem?_eq_getElem (by omega)
      obtain ⟨w1, w2, w3, w4⟩ := z4 j q2 es[j] (by rw [← hjq]; exact List.getElem?_eq_getElem hjh) hje
      refine ⟨w3, es[j], hts _ w4, hG2.2 E hEm es[j] (z3 _ (List.getElem_mem _)) (fun e9 => ?_)⟩
      have := (List.getElem?_inj (by omega) z2).mp (hje.trans ((congrArg some e9.symm).trans hi.symm))
      omega

theorem Z_callI {G : Gt} {γ : Γt} {own : String} {cc : ByteArray} {ret : Option FieldType} {M : Mm} {pc : Nat} {ls : List (Option Value)} {rest : List Value} {k n d mc ms : Nat} {Qr : Option Value → Mm → Prop} {F : Array Slot → Prop} {lh : Launch} {nL : Nat} {idx : Nat} {y : MethodName} {cy : ByteArray} {maxL : Nat} {nA dy mcy msy : Nat} {Qrc : Option Value → Mm → Prop} {k1 n1 : Nat} {b : Nat} (As st : List Value) (hC : Zok G γ own cc ret d mc ms Qr lh nL) (lk : LkI own idx y cy maxL nA) (hCt : Ct G lh y cy maxL none dy M (rv b :: As) mcy msy Qrc noX) (hb0 : b ≠ 0) (hst : st = As.reverse ++ rv b :: rest) (hn9 : As.length = nA) (hcat : (rest.map fun v => v.category).sum ≤ 8) (hd : dy < d) (hk : k + mcy = k1) (hn : n + msy = n1) (hkc : k1 ≤ mc) (hnc : n1 ≤ ms)
    (dg : decode cc pc = .ok (.invokespecial idx, 3)) (kk : ∀ (v : Option Value) (M1 : Mm), Qrc v M1 → JE G γ F M1 (pc + 3) ls (v.toList ++ rest) k1 n1) : JE G γ F M pc ls st k n := by
  subst hk; subst hn; subst hst
  obtain ⟨p, l, e, R, s, m, args, below, meth, c, Qr1, Qx1, mc1, ms1, nL1⟩ := γ
  obtain ⟨hx, hb, hr, hml, hown, hts, hlk, hG2, hLow, hst, h0, rfl, rfl, rfl, rfl, rfl, rfl⟩ := hC
  have hG := hG2.1
  obtain ⟨l1, l2, l3, l4, l5, l6, l7⟩ := lk
  intro H locs lsA hR hS hl hF
  rw [rv_pos hb0] at hCt ⊢
  have hgi : GoodIn AW (wsOf y cy maxL none) := AW_goodIn (fun w h => by
    rcases List.mem_cons.mp h with h | h
    · rw [h]; exact l4
    · exact h)
  exact Z_of_run (Qxc := noX) (vx_of_run (va_runI (As := As) (rest := rest) ⟨hx, hb, hml, hown, hts⟩ hCt.met (cwI nA hts hgi rfl rfl rfl (hts _ l3) (hts _ l1) (hts _ l2) l6 l5 ⟨(show dy + 1 ≤ d by omega), (show 8 + (maxL + 11) + 45 * dy ≤ 45 * d by omega)⟩) ⟨CP_blind, fun U hU hW => ⟨rfl, hG.warm hW, by rw [hU]; exact Low.of hLow hS, by rw [hU]; exact hR⟩⟩ rfl hn9 hl.1.1 rfl (lv_room hcat) dg ⟨hkc, hnc⟩)) hS hLow (fun E M1 h => h.elim) (fun v M1 hq1 H1 locs1 hR1 hS1 => kk v M1 hq1 H1 locs1 lsA hR1 hS1 hl hF)

def LkH (idx : Nat) (y : MethodName) (cc : ByteArray) (maxL : Nat) (hh : List (Nat × Nat × Nat × Nat)) (n : Nat) : Prop := Cond.methodLink RL idx y ∈ AW ∧ Cond.static y ∈ AW ∧ Cond.initialized RL ∈ AW ∧ Cond.codeWith y cc maxL (some .int) hh ∈ AW ∧ (y.cls = RL ∧ y.cls ≠ "java/lang/invoke/MethodHandle" ∧ y.cls ≠ "java/lang/invoke/VarHandle" ∧ (parseMethodDescriptor y.desc).map (fun d => d.parameters.length) = some n) ∧ maxL ≤ 26
theorem Z_callH {G : Gt} {γ : Γt} {cc : ByteArray} {ret : Option FieldType} {M : Mm} {pc : Nat} {ls : List (Option Value)} {rest : List Value} {k n d mc ms : Nat} {Qr : Option Value → Mm → Prop} {F : Array Slot → Prop} {lh : Launch} {nL : Nat} {idx : Nat} {y : MethodName} {cy : ByteArray} {maxL : Nat} {hh : List (Nat × Nat × Nat × Nat)} {nA dy mcy msy : Nat} {Qrc : Option Value → Mm → Prop} {k1 n1 : Nat} (As st : List Value) (hC : Zok G γ RL cc ret d mc ms Qr lh nL) (lk : LkH idx y cy maxL hh nA) (hCt : Ch G lh y cy maxL hh dy M As mcy msy Qrc) (hst : st = As.reverse ++ rest) (hn9 : As.length = nA) (hcat : (rest.map fun v => v.category).sum ≤ 8) (hd : dy < d) (hk : k + mcy = k1) (hn : n + msy = n1) (hkc : k1 ≤ mc) (hnc : n1 ≤ ms)
    (dg : decode cc pc = .ok (.invokestatic idx, 3)) (kk : ∀ (v : Option Value) (M1 : Mm), Qrc v M1 → JE G γ F M1 (pc + 3) ls (v.toList ++ rest) k1 n1) : JE G γ F M pc ls st k n := by
  subst hk; subst hn; subst hst
  obtain ⟨p, l, e, R, s, m, args, below, meth, c, Qr1, Qx1, mc1, ms1, nL1⟩ := γ
  obtain ⟨hx, hb, hr, hml, hown, hts, hlk, hG2, hLow, hst, h0, rfl, rfl, rfl, rfl, rfl, rfl⟩ := hC
  have hG := hG2.1
  obtain ⟨l1, l2, l3, l4, l5, l6⟩ := lk
  intro H locs lsA hR hS hl hF
  refine Z_of_run (vx_runSX (As := As) (rest := rest) (hh := hh) ⟨hx, hb, hml, hown, hts⟩ hCt (vx_cwSW nA hts (AW_goodIn (fun w h => ?_)) rfl rfl rfl l5.2 ⟨(show dy + 1 ≤ d by omega), (show 8 + (maxL + 11) + 45 * dy ≤ 45 * d by omega)⟩) ⟨CPx_blind, fun U hU hW => ⟨rfl, hG2.warm hW, by rw [hU]; exact Low.of hLow hS, by rw [hU]; exact hR⟩⟩ rfl hn9 hl.1.1 rfl (lv_room hcat) dg ⟨hkc, hnc⟩) hS hLow (fun E M1 h => h.elim) (fun v M1 hq1 H1 locs1 hR1 hS1 => kk v M1 hq1 H1 locs1 lsA hR1 hS1 hl hF)
  have l3' : Cond.initialized y.cls ∈ AW := by rw [l5.1]; exact l3
  unfold va_wsS at h
  simp only [List.mem_append, List.mem_cons, List.not_mem_nil, or_false] at h
  rcases h with (rfl | rfl | rfl) | rfl | h <;> assumption
/-! the rooms -/
theorem W_room {p : Program} {l : Launch} {e : Env} {R R' : Room} {s : State} {m : MethodId} {args : Array Value} {below : List Frame} {meth : Method} {c : Code} {H : Heap} {locs : List Loc} {cells slots : Nat} {Q : State → Prop} {g : JFrame} (hf : R'.frames ≤ R.frames) (hc : R'.cells ≤ R.cells) (hs : R'.slots ≤ R.slots) (hl : R'.locals ≤ R.locals)
    (kk : W p l e R' s m args below meth c H locs cells slots Q g) : W p l e R s m args below meth c H locs cells slots Q g := fun T hT X => kk T hT ⟨X.admits, X.cas, X.clock, X.frames, by
  have h := X.room
  simp only [State.hasRoom, Bool.and_eq_true, decide_eq_true_eq] at h ⊢
  obtain ⟨⟨⟨⟨h1, h2, h3, h4, h5, h6⟩, h7⟩, h8⟩, h9⟩ := h
  exact ⟨⟨⟨⟨by omega, by omega, by omega, by omega, by omega, h6⟩, by omega⟩, by omega⟩, h9⟩, X.hears, X.method, X.code, X.here, X.tail, X.warmed, X.limits, X.bytes, X.same⟩
theorem W_end {p : Program} {l : Launch} {e : Env} {R : Room} {s : State} {m : MethodId} {args : Array Value} {below : List Frame} {meth : Method} {c : Code} {H : Heap} {locs : List Loc} {cells slots : Nat} {Q Q' : State → Prop} {g : JFrame} (hq : ∀ t, Q t → Q' t)
    (kk : W p l e R s m args below meth c H locs cells slots Q g) : W p l e R s m args below meth c H locs cells slots Q' g := fun T hT X => by
  obtain ⟨t, a, b⟩ := kk T hT X
  exact ⟨t, a, hq t b⟩
