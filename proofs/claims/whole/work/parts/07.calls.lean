/-! contracts are entered; ends; throws; calls -/
theorem lsP_args : ∀ (As : List Value) (i : Nat), (∀ v ∈ As, v.category = 1) → lsP i (As.map some) = lv_args i As
  | [], i, _ => rfl
  | v :: As, i, h => by
    have h1 := h v List.mem_cons_self
    simp only [List.map_cons, lsP, lv_args, h1]
    rw [lsP_args As (i + 1) (fun w hw => h w (List.mem_cons_of_mem _ hw))]
    simp
theorem sl_args : ∀ (As : List Value), (∀ v ∈ As, v.category = 1) → (lg_sl As).length = As.length
  | [], _ => rfl
  | v :: As, h => by
    have h1 := h v List.mem_cons_self
    have h2 := sl_args As (fun w hw => h w (List.mem_cons_of_mem _ hw))
    simp only [lg_sl, List.flatMap_cons, List.length_append, List.length_cons, h1] at h2 ⊢
    rw [h2]
    simp
    omega
theorem Ct_intro {G : Gt} {l : Launch} {y : MethodName} {cc : ByteArray} {maxL : Nat} {ret : Option FieldType} {d : Nat} {M : Mm} {As : List Value} {mc ms : Nat} {Qr : Option Value → Mm → Prop} {Qx : String → Mm → Prop} {own nm : String}
    (hy : plainName own = true) (ho : y.cls = own) (hnm : y.name = nm) (hst : l.stackTraces = false) (hcat : ∀ v ∈ As, v.category = 1) (hlen : As.length ≤ maxL)
    (body : ∀ γ : Γt, Cok G γ own cc ret d mc ms Qr Qx l maxL nm → J G γ M 0 (As.map some) [] 0 0) : Ct G l y cc maxL ret d M As mc ms Qr Qx := by
  subst ho; subst hnm
  refine vx_ofW (cc := cc) (maxL := maxL) (ret := ret) hy rfl ?_
  intro p e s m args below meth c s₁ B hml hex hv
  obtain ⟨rfl, hG, hLow, hR⟩ := hv
  have hts := atoms_spec (ws := wsOf y cc maxL ret) B.pre
  have hl := lv_entry As (n := maxL) (by rw [sl_args As hcat]; exact hlen)
  rw [lg_entry_eq]
  exact body (p, l, e, rmOf d mc ms, s, m, As.toArray, below, meth, c, Qr, Qx, mc, ms, maxL) ⟨B.exec, B.bytes, B.returns, hml, findClass_of_methodNamed B.named, fun w h => hts w (List.mem_cons_of_mem _ h), B.notSynchronized, hex, hG, hLow, hst, hR.1, rfl, rfl, rfl, rfl, rfl, rfl, rfl, (name_of_methodNamed B.named B.method).1⟩
    s.heap [] _ hR va_S.rf ⟨by rw [lsP_args As 0 hcat]; exact hl, fun i v hi => by
      rw [List.getElem?_map] at hi
      obtain ⟨w, hw, he⟩ := Option.map_eq_some_iff.mp hi
      cases he
      exact hcat v (List.mem_of_getElem? hw)⟩
section Ends7
variable {G : Gt} {γ : Γt} {own : String} {cc : ByteArray} {M : Mm} {pc : Nat} {ls : List (Option Value)} {st : List Value} {k n d mc ms : Nat} {Qr : Option Value → Mm → Prop} {Qx : String → Mm → Prop} {lh : Launch} {nL : Nat} {nm : String}
theorem J_iret {v : Int32} (hC : Cok G γ own cc (some .int) d mc ms Qr Qx lh nL nm) (hk : k ≤ mc) (hn : n ≤ ms) (dg : decode cc pc = .ok (.ireturn, 1)) (hq : Qr (some (.int v)) M) : J G γ M pc ls [.int v] k n := by
  obtain ⟨p, l, e, R, s, m, args, below, meth, c, Qr1, Qx1, mc1, ms1, nL1⟩ := γ
  obtain ⟨hx, hb, hr, hml, hown, hts, hlk, hex, hG, hLow, hst, h0, rfl, rfl, rfl, rfl, rfl, rfl, rfl, hnm⟩ := hC
  intro H locs lsA hR hS hl
  exact W.widen hk hn (vx_ret (W.iret hx hb hr (fun t ht hW => ⟨by rw [ht]; exact hS.1, by rw [ht]; exact Low.of hLow hS, _, M, rfl, hq, by rw [ht]; exact hR⟩) hS.2.2 dg hlk))
theorem J_zret {v : Int32} {ty : FieldType} (hC : Cok G γ own cc (some ty) d mc ms Qr Qx lh nL nm) (hk : k ≤ mc) (hn : n ≤ ms) (hnr : narrow ty (.int v) = .int v) (dg : decode cc pc = .ok (.ireturn, 1)) (hq : Qr (some (.int v)) M) : J G γ M pc ls [.int v] k n := by
  obtain ⟨p, l, e, R, s, m, args, below, meth, c, Qr1, Qx1, mc1, ms1, nL1⟩ := γ
  obtain ⟨hx, hb, hr, hml, hown, hts, hlk, hex, hG, hLow, hst, h0, rfl, rfl, rfl, rfl, rfl, rfl, rfl, hnm⟩ := hC
  intro H locs lsA hR hS hl
  exact W.widen hk hn (vx_ret (W.zret hx hb hr hnr (fun t ht hW => ⟨by rw [ht]; exact hS.1, by rw [ht]; exact Low.of hLow hS, _, M, rfl, hq, by rw [ht]; exact hR⟩) hS.2.2 dg hlk))
theorem J_aret {a : Nat} {ty : FieldType} (hC : Cok G γ own cc (some ty) d mc ms Qr Qx lh nL nm) (hk : k ≤ mc) (hn : n ≤ ms) (hrt : (∃ n, ty = .object n) ∨ ∃ t, ty = .array t) (dg : decode cc pc = .ok (.areturn, 1)) (hq : Qr (some (rv a)) M) : J G γ M pc ls [rv a] k n := by
  obtain ⟨p, l, e, R, s, m, args, below, meth, c, Qr1, Qx1, mc1, ms1, nL1⟩ := γ
  obtain ⟨hx, hb, hr, hml, hown, hts, hlk, hex, hG, hLow, hst, h0, rfl, rfl, rfl, rfl, rfl, rfl, rfl, hnm⟩ := hC
  intro H locs lsA hR hS hl
  exact W.widen hk hn (vx_ret (W.aret hx hb hr hrt (rv_or a) (fun t ht hW => ⟨by rw [ht]; exact hS.1, by rw [ht]; exact Low.of hLow hS, _, M, rfl, hq, by rw [ht]; exact hR⟩) hS.2.2 dg hlk))
theorem J_lret {v : Int64} (hC : Cok G γ own cc (some .long) d mc ms Qr Qx lh nL nm) (hk : k ≤ mc) (hn : n ≤ ms) (dg : decode cc pc = .ok (.lreturn, 1)) (hq : Qr (some (.long v)) M) : J G γ M pc ls [.long v] k n := by
  obtain ⟨p, l, e, R, s, m, args, below, meth, c, Qr1, Qx1, mc1, ms1, nL1⟩ := γ
  obtain ⟨hx, hb, hr, hml, hown, hts, hlk, hex, hG, hLow, hst, h0, rfl, rfl, rfl, rfl, rfl, rfl, rfl, hnm⟩ := hC
  intro H locs lsA hR hS hl
  exact W.widen hk hn (vx_ret (W.lret hx hb hr (fun t ht hW => ⟨by rw [ht]; exact hS.1, by rw [ht]; exact Low.of hLow hS, _, M, rfl, hq, by rw [ht]; exact hR⟩) hS.2.2 dg hlk))
theorem J_fret {v : UInt32} (hC : Cok G γ own cc (some .float) d mc ms Qr Qx lh nL nm) (hk : k ≤ mc) (hn : n ≤ ms) (dg : decode cc pc = .ok (.freturn, 1)) (hq : Qr (some (.float v)) M) : J G γ M pc ls [.float v] k n := by
  obtain ⟨p, l, e, R, s, m, args, below, meth, c, Qr1, Qx1, mc1, ms1, nL1⟩ := γ
  obtain ⟨hx, hb, hr, hml, hown, hts, hlk, hex, hG, hLow, hst, h0, rfl, rfl, rfl, rfl, rfl, rfl, rfl, hnm⟩ := hC
  intro H locs lsA hR hS hl
  exact W.widen hk hn (vx_ret (W.fret hx hb hr (fun t ht hW => ⟨by rw [ht]; exact hS.1, by rw [ht]; exact Low.of hLow hS, _, M, rfl, hq, by rw [ht]; exact hR⟩) hS.2.2 dg hlk))
theorem J_dret {v : UInt64} (hC : Cok G γ own cc (some .double) d mc ms Qr Qx lh nL nm) (hk : k ≤ mc) (hn : n ≤ ms) (dg : decode cc pc = .ok (.dreturn, 1)) (hq : Qr (some (.double v)) M) : J G γ M pc ls [.double v] k n := by
  obtain ⟨p, l, e, R, s, m, args, below, meth, c, Qr1, Qx1, mc1, ms1, nL1⟩ := γ
  obtain ⟨hx, hb, hr, hml, hown, hts, hlk, hex, hG, hLow, hst, h0, rfl, rfl, rfl, rfl, rfl, rfl, rfl, hnm⟩ := hC
  intro H locs lsA hR hS hl
  exact W.widen hk hn (vx_ret (W.dret hx hb hr (fun t ht hW => ⟨by rw [ht]; exact hS.1, by rw [ht]; exact Low.of hLow hS, _, M, rfl, hq, by rw [ht]; exact hR⟩) hS.2.2 dg hlk))
theorem J_vret (hC : Cok G γ own cc none d mc ms Qr Qx lh nL nm) (hk : k ≤ mc) (hn : n ≤ ms) (dg : decode cc pc = .ok (.return_, 1)) (hq : Qr none M) : J G γ M pc ls [] k n := by
  obtain ⟨p, l, e, R, s, m, args, below, meth, c, Qr1, Qx1, mc1, ms1, nL1⟩ := γ
  obtain ⟨hx, hb, hr, hml, hown, hts, hlk, hex, hG, hLow, hst, h0, rfl, rfl, rfl, rfl, rfl, rfl, rfl, hnm⟩ := hC
  intro H locs lsA hR hS hl
  exact W.widen hk hn (vx_ret (W.vret hx hb hr (fun t ht hW => ⟨by rw [ht]; exact hS.1, by rw [ht]; exact Low.of hLow hS, _, M, rfl, hq, by rw [ht]; exact hR⟩) hS.2.2 dg hlk))
end Ends7
/-! throws -/
abbrev nmE : List String := ["java/lang/RuntimeException", "java/lang/Exception"]
def LkT (own : String) (ik ic : Nat) (E : String) : Prop := Bundle.fit E = true ∧ E ∈ exN ∧ Cond.classLink own ik E ∈ AW ∧ Cond.initialized E ∈ AW ∧ (∀ w ∈ (vx_atS own ic E nmE).filter goodWord, w ∈ AW) ∧ (∀ w ∈ (vx_atS own ic E nmE).filter (fun w => !goodWord w), w ∈ Cond.castable E E :: dcN.map Cond.declares) ∧ (∀ w ∈ Cond.classLink own ik E :: Cond.initialized E :: vx_atS own ic E nmE, vx_ot w = true)
theorem Rep.of_kept {G : Gt} {M : Mm} {H H1 : Heap} (h : Rep G M H) (hq : ∀ q : Nat, q < H.size → H1[q]? = H[q]?) : Rep G M H1 := by
  obtain ⟨h0, L, hL, hP, hD⟩ := h
  exact ⟨h0, L, hL, hP.kept (fun k q hk => hq q.1 (hP k q hk).lt), hD⟩
section Throws7
variable {G : Gt} {γ : Γt} {own : String} {cc : ByteArray} {ret : Option FieldType} {M : Mm} {pc : Nat} {ls : List (Option Value)} {st : List Value} {k n d mc ms : Nat} {Qr : Option Value → Mm → Prop} {Qx : String → Mm → Prop} {lh : Launch} {nL : Nat} {nm : String}
theorem J_throw {E text : String} {ik is ic : Nat} (hC : Cok G γ own cc ret d mc ms Qr Qx lh nL nm) (lk : LkT own ik ic E) (hs : (own, is, text) ∈ strT) (hd : 6 ≤ d) (hcat : (st.map fun v => v.category).sum ≤ 8) (hk : k + 1 ≤ mc) (hn : n + 6 ≤ ms)
    (d0 : decode cc pc = .ok (.new ik, 3)) (d3 : decode cc (pc + 3) = .ok (.dup, 1)) (d4 : decode cc (pc + 4) = .ok (.ldc is, 2)) (d6 : decode cc (pc + 6) = .ok (.invokespecial ic, 3)) (d9 : decode cc (pc + 9) = .ok (.athrow, 1))
    (hq : Qx E M) : J G γ M pc ls st k n := by
  obtain ⟨p, l, e, R, s, m, args, below, meth, c, Qr1, Qx1, mc1, ms1, nL1⟩ := γ
  obtain ⟨hx, hb, hr, hml, hown, hts, hlk, hex, hG, hLow, hst, h0, rfl, rfl, rfl, rfl, rfl, rfl, rfl, hnm⟩ := hC
  obtain ⟨lf, le, lc, li, lg, ln, lo⟩ := lk
  intro H locs lsA hR hS hl
  obtain ⟨sa, hsa⟩ := hG.2.2.2.2.1 _ hs
  refine vx_throwS (A := gA G) (names := nmE) hx hb hst hown lf (by decide +kernel) (hts _ lc) (hts _ li) hsa (vx_hat (B := Cond.castable E E :: dcN.map Cond.declares) (fun w hw => hts w (lg w hw)) ln (vx_c (va_Nw.use rfl (hG.2.2.2.1 E le)) (fun w hw => by
    obtain ⟨y, hy, rfl⟩ := List.mem_map.mp hw
    exact va_Nw.use rfl (hG.2.2.2.2.2.2.2.2.2 y hy)))) lo
    (hG.2.1.kept (fun a ha _ => hLow.2 a ha)) (hG.2.2.1.kept (fun a ha _ => hLow.2 a ha)) hS (hl.1.1.trans hml.symm) d0 d3 d4 d6 d9 (fun x hx => (hex x hx).elim) (show 2 + 3 < d by omega) (show _ + (13 * (2 + 1) + 43) ≤ 45 * d by omega) hk hn hlk ?_ hS.2.2 hk hn
  intro t ht hz hq1
  exact ⟨Nat.le_trans hS.1 hz, ⟨Nat.le_trans (Low.of hLow hS).1 hz, fun q h => (hq1 q (Nat.lt_of_lt_of_le h (Low.of hLow hS).1)).trans ((Low.of hLow hS).2 q h)⟩, M, hq, hR.of_kept hq1⟩
theorem J_throwW {E text : String} {ik is ic : Nat} (hC : Cok G γ own cc ret d mc ms Qr Qx lh nL nm) (lk : LkT own ik ic E) (hs : (own, is, text) ∈ strT) (hd : 6 ≤ d) (hcat : (st.map fun v => v.category).sum ≤ 8) (hk : k + 1 ≤ mc) (hn : n + 6 ≤ ms)
    (d0 : decode cc pc = .ok (.new ik, 3)) (d3 : decode cc (pc + 3) = .ok (.dup, 1)) (d4 : decode cc (pc + 4) = .ok (.ldc_w is, 3)) (d7 : decode cc (pc + 7) = .ok (.invokespecial ic, 3)) (d10 : decode cc (pc + 10) = .ok (.athrow, 1))
    (hq : Qx E M) : J G γ M pc ls st k n := by
  obtain ⟨p, l, e, R, s, m, args, below, meth, c, Qr1, Qx1, mc1, ms1, nL1⟩ := γ
  obtain ⟨hx, hb, hr, hml, hown, hts, hlk, hex, hG, hLow, hst, h0, rfl, rfl, rfl, rfl, rfl, rfl, rfl, hnm⟩ := hC
  obtain ⟨lf, le, lc, li, lg, ln, lo⟩ := lk
  intro H locs lsA hR hS hl
  obtain ⟨sa, hsa⟩ := hG.2.2.2.2.1 _ hs
  refine vx_throwSW (A := gA G) (names := nmE) hx hb hst hown lf (by decide +kernel) (hts _ lc) (hts _ li) hsa (vx_hat (B := Cond.castable E E :: dcN.map Cond.declares) (fun w hw => hts w (lg w hw)) ln (vx_c (va_Nw.use rfl (hG.2.2.2.1 E le)) (fun w hw => by
    obtain ⟨y, hy, rfl⟩ := List.mem_map.mp hw
    exact va_Nw.use rfl (hG.2.2.2.2.2.2.2.2.2 y hy)))) lo
    (hG.2.1.kept (fun a ha _ => hLow.2 a ha)) (hG.2.2.1.kept (fun a ha _ => hLow.2 a ha)) hS (hl.1.1.trans hml.symm) d0 d3 d4 d7 d10 (fun x hx => (hex x hx).elim) (show 2 + 3 < d by omega) (show _ + (13 * (2 + 1) + 43) ≤ 45 * d by omega) hk hn hlk ?_ hS.2.2 hk hn
  intro t ht hz hq1
  exact ⟨Nat.le_trans hS.1 hz, ⟨Nat.le_trans (Low.of hLow hS).1 hz, fun q h => (hq1 q (Nat.lt_of_lt_of_le h (Low.of hLow hS).1)).trans ((Low.of hLow hS).2 q h)⟩, M, hq, hR.of_kept hq1⟩
end Throws7
/-! calls -/
def noX : String → Mm → Prop := fun _ _ => False
/-- the answer v, nothing changed -/
def PQ (M : Mm) (v : Value) : Option Value → Mm → Prop := fun r M1 => r = some v ∧ M1 = M
def LkV (own : String) (idx : Nat) (C : String) (y : MethodName) (cc : ByteArray) (maxL : Nat) (ret : Option FieldType) (n : Nat) : Prop := Cond.methodLink own idx y ∈ AW ∧ Cond.instanceMethod y ∈ AW ∧ Cond.selects C y y ∈ AW ∧ Cond.initialized C ∈ AW ∧ Cond.code y cc maxL ret ∈ AW ∧ (y.cls = C ∧ y.cls ≠ "java/lang/invoke/MethodHandle" ∧ y.cls ≠ "java/lang/invoke/VarHandle" ∧ (parseMethodDescriptor y.desc).map (fun d => d.parameters.length) = some n) ∧ maxL ≤ 26
def LkS (own : String) (idx : Nat) (y : MethodName) (cc : ByteArray) (maxL : Nat) (ret : Option FieldType) (n : Nat) : Prop := Cond.methodLink own idx y ∈ AW ∧ Cond.static y ∈ AW ∧ Cond.initialized own ∈ AW ∧ Cond.code y cc maxL ret ∈ AW ∧ (y.cls = own ∧ y.cls ≠ "java/lang/invoke/MethodHandle" ∧ y.cls ≠ "java/lang/invoke/VarHandle" ∧ (parseMethodDescriptor y.desc).map (fun d => d.parameters.length) = some n) ∧ maxL ≤ 26
def LkI (own : String) (idx : Nat) (y : MethodName) (cc : ByteArray) (maxL : Nat) (n : Nat) : Prop := Cond.methodLink own idx y ∈ AW ∧ Cond.instanceMethod y ∈ AW ∧ Cond.initialized y.cls ∈ AW ∧ Cond.code y cc maxL none ∈ AW ∧ (y.cls ≠ "java/lang/invoke/MethodHandle" ∧ y.cls ≠ "java/lang/invoke/VarHandle" ∧ (parseMethodDescriptor y.desc).map (fun d => d.parameters.length) = some n) ∧ y.name = "<init>" ∧ maxL ≤ 26
theorem CP_blind {G : Gt} {M : Mm} {As : List Value} : FrameBlind (CP G M As) := by
  intro a U g mk h
  obtain ⟨h1, h2, h3, h4⟩ := h
  exact ⟨h1, Gok.warm (U := U.calling g mk a) h2 (State.WarmedH.refl U), h3, h4⟩
theorem AW_code {y : MethodName} {cc : ByteArray} {maxL : Nat} {ret : Option FieldType} {ws : List Cond} (hc : Cond.code y cc maxL ret ∈ AW) (hw : ∀ w ∈ ws, w ∈ AW) : GoodIn AW (ws ++ wsOf y cc maxL ret) := AW_goodIn (fun w h => by
  rcases List.mem_append.mp h with h | h
  · exact hw w h
  · rcases List.mem_cons.mp h with h | h
    · rw [h]; exact hc
    · exact h)
theorem W_of_run {p : Program} {l : Launch} {e : Env} {R : Room} {s : State} {m : MethodId} {args : Array Value} {below : List Frame} {meth : Method} {c : Code} {H : Heap} {locs : List Loc} {cells slots mc ms mcT msT : Nat} {pc : Nat} {lsA : Array Slot} {st0 rest : List Value} {G : Gt} {Qr Qrc : Option Value → Mm → Prop} {Qx Qxc : String → Mm → Prop} {a : Array Value} {nL : Nat} {ls : List (Option Value)}
    (hr : vx_Run p l e R s m args below meth c H locs cells slots mc ms (F0 m pc lsA st0) rest (CQ G Qrc a) (CX G Qxc) (gA G)) (hS : va_S (gA G) s.heap H locs) (hLow : Low G s.heap) (hl : lsOk nL lsA ls) (hlk : meth.locks = false) (hex : ∀ x ∈ c.exceptionTable.toList, False) (hcT : cells + mc ≤ mcT) (hsT : slots + ms ≤ msT)
    (hX : ∀ E M1, Qxc E M1 → Qx E M1)
    (kk : ∀ (v : Option Value) (M1 : Mm), Qrc v M1 → ∀ (H1 : Heap) (locs1 : List Loc) (lsA1 : Array Slot), Rep G M1 H1 → va_S (gA G) s.heap H1 locs1 → lsOk nL lsA1 ls → W p l e R s m args below meth c H1 locs1 (cells + mc) (slots + ms) (vx_MQ below (CQ G Qr) (CX G Qx) args s mcT msT (gA G)) (F0 m (pc + 3) lsA1 (v.toList ++ rest))) :
    W p l e R s m args below meth c H locs cells slots (vx_MQ below (CQ G Qr) (CX G Qx) args s mcT msT (gA G)) (F0 m pc lsA st0) := by
  intro T hT X
  have hgrow : ∀ (H1 : Heap) (L : List Loc), H.size ≤ H1.size → Low G H1 → (∀ q ∈ L, gA G q.base) → va_S (gA G) s.heap H1 (locs ++ L) := fun H1 L hz hL1 hL => ⟨Nat.le_trans hS.1 hz, fun q h1 h2 => by
      have h3 : q < G.2.2.size := by unfold gA at h2; omega
      rw [hL1.2 q h3, hLow.2 q h3], fun q hq => by
      rcases List.mem_append.mp hq with h | h
      · exact hS.2.2 q h
      · exact hL q h⟩
  rcases hr T hT X with ⟨v, st₀, t, T', L, hh0, X', hL, e1, e2, ⟨hz, hL1, v', M1, hv, hq, hR1⟩, st⟩ | ⟨q, st₀, t, T', L, E, ce, hh0, X', hL, e1, e2, ⟨hz, hL1, M1, hq, hR1⟩, hce, hcv, hcl, st⟩
  · cases hv
    rw [hh0] at hz
    obtain ⟨t2, a1, b1⟩ := kk v M1 hq T'.heap (locs ++ L) lsA (by rw [e1]; exact hR1) (hgrow _ L (by rw [e1]; exact hz) (by rw [e1]; exact hL1) hL) hl T' rfl X'
    exact ⟨t2, st t2 a1, b1⟩
  · rw [hh0] at hz
    have hS1 := hgrow T'.heap L (by rw [e1]; exact hz) (by rw [e1]; exact hL1) hL
    have k1 : vx_W p l e R s m args below meth c T'.heap (locs ++ L) (cells + mc) (slots + ms) (vx_MQ below (CQ G Qr) (CX G Qx) args s mcT msT (gA G)) (F0 m pc lsA rest) q :=
      vx_out (fun x hx => (hex x hx).elim) hlk (by rw [e1]; exact hce) hcv hcl (fun t1 ht1 hA => ⟨by rw [ht1]; exact hS1.1, by rw [ht1, e1]; exact hL1, M1, hX E M1 hq, by rw [ht1, e1]; exact hR1⟩) hS1.2.2 hcT hsT
    obtain ⟨t2, a1, b1⟩ := k1 T' rfl X'
    exact ⟨t2, st.trans a1, b1⟩
section Calls7
variable {G : Gt} {γ : Γt} {own : String} {cc : ByteArray} {ret : Option FieldType} {M : Mm} {pc : Nat} {ls : List (Option Value)} {rest : List Value} {k n d mc ms : Nat} {Qr : Option Value → Mm → Prop} {Qx : String → Mm → Prop} {lh : Launch} {nL : Nat} {nm : String}
  {idx : Nat} {C : String} {y : MethodName} {cy : ByteArray} {maxL : Nat} {rety : Option FieldType} {nA dy mcy msy : Nat} {Qrc : Option Value → Mm → Prop} {Qxc : String → Mm → Prop} {k1 n1 : Nat}
theorem J_callV {b kd : Nat} {T : u_T} {N : Nat} (As st : List Value) (hC : Cok G γ own cc ret d mc ms Qr Qx lh nL nm) (lk : LkV own idx C y cy maxL rety nA) (hCt : Ct G lh y cy maxL rety dy M (rv b :: As) mcy msy Qrc Qxc) (hT : (mT M b).1 = kd) (hkd : 0 < kd) (hE : ∃ fs, mE G.2.1 M b = .inr (kd - 1, fs)) (hcl : clW[kd - 1]? = some (C, T, N)) (hst : st = As.reverse ++ rv b :: rest) (hn9 : As.length = nA) (hcat : (rest.map fun v => v.category).sum ≤ 8) (hd : dy < d) (hk : k + mcy = k1) (hn : n + msy = n1) (hkc : k1 ≤ mc) (hnc : n1 ≤ ms)
    (dg : decode cc pc = .ok (.invokevirtual idx, 3)) (hX : ∀ E M1, Qxc E M1 → Qx E M1) (kk : ∀ (v : Option Value) (M1 : Mm), Qrc v M1 → J G γ M1 (pc + 3) ls (v.toList ++ rest) k1 n1) : J G γ M pc ls st k n := by
  subst hk; subst hn; subst hst
  obtain ⟨p, l, e, R, s, m, args, below, meth, c, Qr1, Qx1, mc1, ms1, nL1⟩ := γ
  obtain ⟨hx, hb, hr, hml, hown, hts, hlk, hex, hG, hLow, hst, h0, rfl, rfl, rfl, rfl, rfl, rfl, rfl, hnm⟩ := hC
  obtain ⟨l1, l2, l3, l4, l5, l6, l7⟩ := lk
  intro H locs lsA hR hS hl
  have hbne := hR.ne (a := b) (by rw [hT]; omega)
  obtain ⟨fs, hE⟩ := hE
  obtain ⟨hg0, L, hL, hP, hD⟩ := id hR
  obtain ⟨q, hq⟩ := va_pl_get (X := []) (f := mE G.2.1 M) ((hL b).mpr (by rw [hT]; omega))
  have hq : (va_pl L (mE G.2.1 M))[q]? = some (b, .inr (kd - 1, fs)) := by rw [← hE]; exact hq
  rw [rv_pos hbne] at hCt ⊢
  refine W_of_run (vx_runV (As := As) (rest := rest) ⟨hx, hb, hml, hown, hts⟩ hCt (cwV nA hts (AW_code l5 (fun w h => ?_)) rfl rfl rfl l6 ⟨(show dy + 1 ≤ d by omega), (show 8 + (maxL + 11) + 45 * dy ≤ 45 * d by omega)⟩) ⟨CP_blind, va_recv hG.1 hP hcl hq, fun U hU hW => ⟨rfl, hG.warm hW, by rw [hU]; exact Low.of hLow hS, by rw [hU]; exact hR⟩⟩ rfl hn9 hl.1.1 rfl (lv_room hcat) dg ⟨hkc, hnc⟩) hS hLow hl hlk hex hkc hnc hX (fun v M1 hq1 H1 locs1 lsA1 hR1 hS1 hl1 => kk v M1 hq1 H1 locs1 lsA1 hR1 hS1 hl1)
  simp only [List.mem_cons, List.not_mem_nil, or_false] at h
  rcases h with rfl | rfl | rfl | rfl <;> assumption
theorem J_callS (As st : List Value) (hC : Cok G γ own cc ret d mc ms Qr Qx lh nL nm) (lk : LkS own idx y cy maxL rety nA) (hCt : Ct G lh y cy maxL rety dy M As mcy msy Qrc Qxc) (hst : st = As.reverse ++ rest) (hn9 : As.length = nA) (hcat : (rest.map fun v => v.category).sum ≤ 8) (hd : dy < d) (hk : k + mcy = k1) (hn : n + msy = n1) (hkc : k1 ≤ mc) (hnc : n1 ≤ ms)
    (dg : decode cc pc = .ok (.invokestatic idx, 3)) (hX : ∀ E M1, Qxc E M1 → Qx E M1) (kk : ∀ (v : Option Value) (M1 : Mm), Qrc v M1 → J G γ M1 (pc + 3) ls (v.toList ++ rest) k1 n1) : J G γ M pc ls st k n := by
  subst hk; subst hn; subst hst
  obtain ⟨p, l, e, R, s, m, args, below, meth, c, Qr1, Qx1, mc1, ms1, nL1⟩ := γ
  obtain ⟨hx, hb, hr, hml, hown, hts, hlk, hex, hG, hLow, hst, h0, rfl, rfl, rfl, rfl, rfl, rfl, rfl, hnm⟩ := hC
  obtain ⟨l1, l2, l3, l4, l5, l6⟩ := lk
  intro H locs lsA hR hS hl
  refine W_of_run (vx_runS (As := As) (rest := rest) ⟨hx, hb, hml, hown, hts⟩ hCt (cwS nA hts (AW_code l4 (fun w h => ?_)) rfl rfl rfl l5 ⟨(show dy + 1 ≤ d by omega), (show 8 + (maxL + 11) + 45 * dy ≤ 45 * d by omega)⟩) ⟨CP_blind, fun U hU hW => ⟨rfl, hG.warm hW, by rw [hU]; exact Low.of hLow hS, by rw [hU]; exact hR⟩⟩ rfl hn9 hl.1.1 rfl (lv_room hcat) dg ⟨hkc, hnc⟩) hS hLow hl hlk hex hkc hnc hX (fun v M1 hq1 H1 locs1 lsA1 hR1 hS1 hl1 => kk v M1 hq1 H1 locs1 lsA1 hR1 hS1 hl1)
  simp only [List.mem_cons, List.not_mem_nil, or_false] at h
  rcases h with rfl | rfl | rfl <;> assumption
end Calls7
/-- a contract without throws, as a plain one -/
theorem Ct.met {G : Gt} {l : Launch} {y : MethodName} {cc : ByteArray} {maxL : Nat} {ret : Option FieldType} {d : Nat} {M : Mm} {As : List Value} {mc ms : Nat} {Qr : Option Value → Mm → Prop} (h : Ct G l y cc maxL ret d M As mc ms Qr noX) : Met l y (wsOf y cc maxL ret) (rmOf d mc ms) (CP G M As) (CQ G Qr) mc ms (gA G) := by
  intro p e h1 h2 h3 s m args below h4 h5 h6 h7
  obtain ⟨n, o, k1, k2, k3, k4⟩ := h p e h1 h2 h3 s m args below h4 h5 h6 h7
  rcases k4 with k4 | ⟨q, -, E, ce, L, ⟨-, -, M1, hf, -⟩, -⟩
  · exact ⟨n, o, k1, k2, k3, k4⟩
  · exact hf.elim
section Calls8
variable {G : Gt} {γ : Γt} {own : String} {cc : ByteArray} {ret : Option FieldType} {M : Mm} {pc : Nat} {ls : List (Option Value)} {rest : List Value} {k n d mc ms : Nat} {Qr : Option Value → Mm → Prop} {Qx : String → Mm → Prop} {lh : Launch} {nL : Nat} {nm : String}
  {idx : Nat} {C : String} {y : MethodName} {cy : ByteArray} {maxL : Nat} {rety : Option FieldType} {nA dy mcy msy : Nat} {Qrc : Option Value → Mm → Prop} {k1 n1 : Nat}
theorem vx_of_run {p : Program} {l : Launch} {e : Env} {R : Room} {s : State} {m : MethodId} {args : Array Value} {below : List Frame} {meth : Method} {c : Code} {H : Heap} {locs : List Loc} {cells slots mc ms : Nat} {g : JFrame} {rest : List Value} {Qa : State → Outcome → State → Prop} {XC : String → State → State → Prop} {free : Addr → Prop}
    (h : va_Run p l e R s m args below meth c H locs cells slots mc ms g rest Qa free) : vx_Run p l e R s m args below meth c H locs cells slots mc ms g rest Qa XC free := fun T hT X => Or.inl (h T hT X)
theorem J_callI {b : Nat} (As st : List Value) (hC : Cok G γ own cc ret d mc ms Qr Qx lh nL nm) (lk : LkI own idx y cy maxL nA) (hCt : Ct G lh y cy maxL none dy M (rv b :: As) mcy msy Qrc noX) (hb0 : b ≠ 0) (hst : st = As.reverse ++ rv b :: rest) (hn9 : As.length = nA) (hcat : (rest.map fun v => v.category).sum ≤ 8) (hd : dy < d) (hk : k + mcy = k1) (hn : n + msy = n1) (hkc : k1 ≤ mc) (hnc : n1 ≤ ms)
    (dg : decode cc pc = .ok (.invokespecial idx, 3)) (kk : ∀ (v : Option Value) (M1 : Mm), Qrc v M1 → J G γ M1 (pc + 3) ls (v.toList ++ rest) k1 n1) : J G γ M pc ls st k n := by
  subst hk; subst hn; subst hst
  obtain ⟨p, l, e, R, s, m, args, below, meth, c, Qr1, Qx1, mc1, ms1, nL1⟩ := γ
  obtain ⟨hx, hb, hr, hml, hown, hts, hlk, hex, hG, hLow, hst, h0, rfl, rfl, rfl, rfl, rfl, rfl, rfl, hnm⟩ := hC
  obtain ⟨l1, l2, l3, l4, l5, l6, l7⟩ := lk
  intro H locs lsA hR hS hl
  rw [rv_pos hb0] at hCt ⊢
  have hgi : GoodIn AW (wsOf y cy maxL none) := AW_goodIn (fun w h => by
    rcases List.mem_cons.mp h with h | h
    · rw [h]; exact l4
    · exact h)
  refine W_of_run (Qxc := noX) (vx_of_run (va_runI (As := As) (rest := rest) ⟨hx, hb, hml, hown, hts⟩ hCt.met (cwI nA hts hgi rfl rfl rfl (hts _ l3) (hts _ l1) (hts _ l2) l6 l5 ⟨(show dy + 1 ≤ d by omega), (show 8 + (maxL + 11) + 45 * dy ≤ 45 * d by omega)⟩) ⟨CP_blind, fun U hU hW => ⟨rfl, hG.warm hW, by rw [hU]; exact Low.of hLow hS, by rw [hU]; exact hR⟩⟩ rfl hn9 hl.1.1 rfl (lv_room hcat) dg ⟨hkc, hnc⟩)) hS hLow hl hlk hex hkc hnc (fun E M1 h => h.elim) (fun v M1 hq1 H1 locs1 lsA1 hR1 hS1 hl1 => kk v M1 hq1 H1 locs1 lsA1 hR1 hS1 hl1)
theorem J_objInit {b : Nat} {st : List Value} (hC : Cok G γ own cc ret d mc ms Qr Qx lh nL nm) (l1 : Cond.methodLink own idx Lib.objectInit ∈ AW) (l2 : Cond.instanceMethod Lib.objectInit ∈ AW) (l3 : Cond.code Lib.objectInit ⟨#[0xb1]⟩ 1 none ∈ AW) (hb0 : b ≠ 0) (hd : 1 ≤ d) (hcat : (st.map fun v => v.category).sum ≤ 8) (dg : decode cc pc = .ok (.invokespecial idx, 3)) (kk : J G γ M (pc + 3) ls st k n) : J G γ M pc ls (rv b :: st) k n := by
  obtain ⟨p, l, e, R, s, m, args, below, meth, c, Qr1, Qx1, mc1, ms1, nL1⟩ := γ
  obtain ⟨hx, hb, hr, hml, hown, hts, hlk, hex, hG, hLow, hst, h0, rfl, rfl, rfl, rfl, rfl, rfl, rfl, hnm⟩ := hC
  intro H locs lsA hR hS hl
  rw [rv_pos hb0]
  have h9 : 2 * (F0 m pc lsA (.ref b :: st)).monitorRoom + (st.map fun v => v.category).sum ≤ 8 := lv_room hcat
  exact W.objInit hx hb hown (hts _ l1) (hts _ l2) (hts _ l3) rfl (by rw [hml]; exact hl.1.1) rfl dg (show 1 ≤ d from hd) (show _ + 12 ≤ 45 * d by omega) (kk H locs lsA hR hS hl)
theorem J_mmin {x y : Int32} {st : List Value} (hC : Cok G γ own cc ret d mc ms Qr Qx lh nL nm) (l1 : Cond.methodLink own idx Lib.Math.min.name ∈ AW) (l2 : Cond.static Lib.Math.min.name ∈ AW) (l3 : Cond.initialized "java/lang/Math" ∈ AW) (l4 : Cond.code Lib.Math.min.name Lib.Math.min.code 2 (some .int) ∈ AW) (hd : 1 ≤ d) (hcat : (st.map fun v => v.category).sum ≤ 8) (hk : k ≤ mc) (hn : n ≤ ms) {v : Int32} (hv : (if y < x then y else x) = v) (dg : decode cc pc = .ok (.invokestatic idx, 3)) (kk : J G γ M (pc + 3) ls (.int v :: st) k n) : J G γ M pc ls (.int y :: .int x :: st) k n := by
  obtain ⟨p, l, e, R, s, m, args, below, meth, c, Qr1, Qx1, mc1, ms1, nL1⟩ := γ
  obtain ⟨hx, hb, hr, hml, hown, hts, hlk, hex, hG, hLow, hst, h0, rfl, rfl, rfl, rfl, rfl, rfl, rfl, hnm⟩ := hC
  intro H locs lsA hR hS hl
  subst hv
  exact va_mmin hx hb (by rw [hml]; exact hl.1.1.symm) hown (hts _ l1) (hts _ l2) (hts _ l3) (hts _ l4) (show 1 ≤ d from hd) (show _ + 13 ≤ 45 * d by omega) hk hn dg (kk H locs lsA hR hS hl)
theorem J_mmax {x y : Int32} {st : List Value} (hC : Cok G γ own cc ret d mc ms Qr Qx lh nL nm) (l1 : Cond.methodLink own idx Lib.Math.max.name ∈ AW) (l2 : Cond.static Lib.Math.max.name ∈ AW) (l3 : Cond.initialized "java/lang/Math" ∈ AW) (l4 : Cond.code Lib.Math.max.name Lib.Math.max.code 2 (some .int) ∈ AW) (hd : 1 ≤ d) (hcat : (st.map fun v => v.category).sum ≤ 8) (hk : k ≤ mc) (hn : n ≤ ms) {v : Int32} (hv : (if x < y then y else x) = v) (dg : decode cc pc = .ok (.invokestatic idx, 3)) (kk : J G γ M (pc + 3) ls (.int v :: st) k n) : J G γ M pc ls (.int y :: .int x :: st) k n := by
  obtain ⟨p, l, e, R, s, m, args, below, meth, c, Qr1, Qx1, mc1, ms1, nL1⟩ := γ
  obtain ⟨hx, hb, hr, hml, hown, hts, hlk, hex, hG, hLow, hst, h0, rfl, rfl, rfl, rfl, rfl, rfl, rfl, hnm⟩ := hC
  intro H locs lsA hR hS hl
  subst hv
  exact va_mmax hx hb (by rw [hml]; exact hl.1.1.symm) hown (hts _ l1) (hts _ l2) (hts _ l3) (hts _ l4) (show 1 ≤ d from hd) (show _ + 13 ≤ 45 * d by omega) hk hn dg (kk H locs lsA hR hS hl)
end Calls8
section Calls9
variable {G : Gt} {γ : Γt} {own : String} {cc : ByteArray} {ret : Option FieldType} {M : Mm} {pc : Nat} {ls : List (Option Value)} {rest : List Value} {k n d mc ms : Nat} {Qr : Option Value → Mm → Prop} {Qx : String → Mm → Prop} {lh : Launch} {nL : Nat} {nm : String}
  {idx : Nat} {cy : ByteArray} {maxL : Nat} {rety : Option FieldType} {nA dy mcy msy : Nat} {Qrc : Option Value → Mm → Prop} {k1 n1 : Nat}
theorem J_mabs {x : Int32} {st : List Value} (hC : Cok G γ own cc ret d mc ms Qr Qx lh nL nm) (l1 : Cond.methodLink own idx Lib.Math.abs.name ∈ AW) (l2 : Cond.static Lib.Math.abs.name ∈ AW) (l3 : Cond.initialized "java/lang/Math" ∈ AW) (l4 : Cond.code Lib.Math.abs.name Lib.Math.abs.code 1 (some .int) ∈ AW) (hd : 1 ≤ d) (hcat : (st.map fun v => v.category).sum ≤ 8) (hk : k ≤ mc) (hn : n ≤ ms) {v : Int32} (hv : (if 0 ≤ x then x else 0 - x) = v) (dg : decode cc pc = .ok (.invokestatic idx, 3)) (kk : J G γ M (pc + 3) ls (.int v :: st) k n) : J G γ M pc ls (.int x :: st) k n := by
  obtain ⟨p, l, e, R, s, m, args, below, meth, c, Qr1, Qx1, mc1, ms1, nL1⟩ := γ
  obtain ⟨hx, hb, hr, hml, hown, hts, hlk, hex, hG, hLow, hst, h0, rfl, rfl, rfl, rfl, rfl, rfl, rfl, hnm⟩ := hC
  intro H locs lsA hR hS hl
  subst hv
  exact va_mabs hx hb (by rw [hml]; exact hl.1.1.symm) hown (hts _ l1) (hts _ l2) (hts _ l3) (hts _ l4) (show 1 ≤ d from hd) (show _ + 13 ≤ 45 * d by omega) hk hn dg (kk H locs lsA hR hS hl)
/-- Vehicle.lienLeft calls PlateRegister.entry, a nest mate's private static method -/
theorem J_callEntry (As st : List Value) (hC : Cok G γ RX3 cc ret d mc ms Qr Qx lh nL nm) (lc : Cond.code yX4_entry cy maxL rety ∈ AW) (li : Cond.initialized RX4 ∈ AW) (lst : Cond.static yX4_entry ∈ AW) (hm26 : maxL ≤ 26) (hCt : Ct G lh yX4_entry cy maxL rety dy M As mcy msy Qrc noX) (hst : st = As.reverse ++ rest) (hn9 : As.length = 2) (hcat : (rest.map fun v => v.category).sum ≤ 8) (hd : dy < d) (hk : k + mcy = k1) (hn : n + msy = n1) (hkc : k1 ≤ mc) (hnc : n1 ≤ ms)
    (dg : decode cc pc = .ok (.invokestatic 40, 3)) (kk : ∀ (v : Option Value) (M1 : Mm), Qrc v M1 → J G γ M1 (pc + 3) ls (v.toList ++ rest) k1 n1) : J G γ M pc ls st k n := by
  subst hk; subst hn; subst hst
  obtain ⟨p, l, e, R, s, m, args, below, meth, c, Qr1, Qx1, mc1, ms1, nL1⟩ := γ
  obtain ⟨hx, hb, hr, hml, hown, hts, hlk, hex, hG, hLow, hst, h0, rfl, rfl, rfl, rfl, rfl, rfl, rfl, hnm⟩ := hC
  intro H locs lsA hR hS hl
  have hgi : GoodIn AW (wsOf yX4_entry cy maxL rety) := AW_goodIn (fun w h => by
    rcases List.mem_cons.mp h with h | h
    · rw [h]; exact lc
    · exact h)
  refine W_of_run (Qxc := noX) (vx_of_run (va_runSN (As := As) (rest := rest) ⟨hx, hb, hml, hown, hts⟩ hCt.met ⟨va_cnB 2 hts hgi rfl rfl rfl hG.2.2.2.2.2.2.2.2.1 (hts _ li) (by decide +kernel) ⟨(show dy + 1 ≤ d by omega), (show 8 + (maxL + 11) + 45 * dy ≤ 45 * d by omega)⟩, hts _ lst, trivial⟩ ⟨CP_blind, fun U hU hW => ⟨rfl, hG.warm hW, by rw [hU]; exact Low.of hLow hS, by rw [hU]; exact hR⟩⟩ rfl hn9 hl.1.1 rfl (lv_room hcat) dg ⟨hkc, hnc⟩)) hS hLow hl hlk hex hkc hnc (fun E M1 h => h.elim) (fun v M1 hq1 H1 locs1 lsA1 hR1 hS1 hl1 => kk v M1 hq1 H1 locs1 lsA1 hR1 hS1 hl1)
end Calls9
