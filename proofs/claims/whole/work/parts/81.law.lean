/-! the law's own frames: methods with tables of their own, and the law -/
/-- the world of the law's own methods: what they catch, and what they don't -/
def Gx (G : Gt) (U : State) : Prop := Gok G U ∧ ∀ E ∈ exN, ∀ F ∈ exN, E ≠ F → va_Nc E F U
theorem Gx.warm {G : Gt} {s U : State} (h : Gx G s) (hW : s.WarmedH U.vm) : Gx G U := ⟨h.1.warm hW, fun E hE F hF n => (h.2 E hE F hF n).moved hW.alike⟩
def ET : Array Slot → Prop := fun _ => True
def JE (G : Gt) (γ : Γt) (E : Array Slot → Prop) (M : Mm) (pc : Nat) (ls : List (Option Value)) (st : List Value) (k n : Nat) : Prop := match γ with
  | (p, l, e, R, s, m, args, below, meth, c, Qr, Qx, mc, ms, nL) => ∀ (H : Heap) (locs : List Loc) (lsA : Array Slot), Rep G M H → va_S (gA G) s.heap H locs → lsOk nL lsA ls → E lsA → W p l e R s m args below meth c H locs k n (vx_MQ below (CQ G Qr) (CX G Qx) args s mc ms (gA G)) (F0 m pc lsA st)
def Zok (G : Gt) (γ : Γt) (own : String) (cc : ByteArray) (ret : Option FieldType) (d mc ms : Nat) (Qr : Option Value → Mm → Prop) (lh : Launch) (nL : Nat) : Prop := match γ with
  | (p, l, e, R, s, m, args, below, meth, c, Qr1, Qx1, mc1, ms1, nL1) => p.tables.exec = Jvm.exec ∧ c.code = cc ∧ meth.sig.returnType = ret ∧ c.maxLocals = nL ∧ s.vm.findClass own = some m.cls ∧ (∀ w ∈ AW, w.before args s = true) ∧ meth.locks = false ∧ Gx G s ∧ Low G s.heap ∧ l.stackTraces = false ∧ 0 < G.2.2.size ∧ l = lh ∧ R = rmOf d mc ms ∧ Qr1 = Qr ∧ mc1 = mc ∧ ms1 = ms ∧ nL1 = nL
/-- the table of the frame's method -/
def Hok (γ : Γt) (hh : List (Nat × Nat × Nat × Nat)) : Prop := match γ with
  | (p, l, e, R, s, m, args, below, meth, c, Qr1, Qx1, mc1, ms1, nL1) => c.exceptionTable.toList = tableOf hh
/-- the law's script -/
def Sok (G : Gt) (γ : Γt) (b L : Nat) (xs : Nat → Int32) : Prop := match γ with
  | (p, l, e, R, s, m, args, below, meth, c, Qr1, Qx1, mc1, ms1, nL1) => va_X b L xs s s.heap ∧ b < s.heap.size ∧ ¬ gA G b
theorem Z_iconst {G : Gt} {γ : Γt} {own : String} {cc : ByteArray} {ret : Option FieldType} {M : Mm} {pc : Nat} {ls : List (Option Value)} {st : List Value} {k n d mc ms : Nat} {Qr : Option Value → Mm → Prop} {E : Array Slot → Prop} {lh : Launch} {nL : Nat} {i : Int} {v : Int32} (hC : Zok G γ own cc ret d mc ms Qr lh nL) (dg : decode cc pc = .ok (.iconst i, 1)) (hv : Int32.ofInt i = v) (kk : JE G γ E M (pc + 1) ls (.int v :: st) k n) : JE G γ E M pc ls (st) k n := by
  obtain ⟨p, l, e, R, s, m, args, below, meth, c, Qr1, Qx1, mc1, ms1, nL1⟩ := γ
  obtain ⟨hx, hb, hr, hml, hown, hts, hlk, hG2, hLow, hst, h0, rfl, rfl, rfl, rfl, rfl, rfl⟩ := hC
  have hG := hG2.1
  intro H locs lsA hR hS hl hE
  exact lv_iconst hx hb dg hv (kk H locs lsA hR hS hl hE)

theorem Z_bipush {G : Gt} {γ : Γt} {own : String} {cc : ByteArray} {ret : Option FieldType} {M : Mm} {pc : Nat} {ls : List (Option Value)} {st : List Value} {k n d mc ms : Nat} {Qr : Option Value → Mm → Prop} {E : Array Slot → Prop} {lh : Launch} {nL : Nat} {i : Int} {v : Int32} (hC : Zok G γ own cc ret d mc ms Qr lh nL) (dg : decode cc pc = .ok (.bipush i, 2)) (hv : (Int8.ofInt i).toInt32 = v) (kk : JE G γ E M (pc + 2) ls (.int v :: st) k n) : JE G γ E M pc ls (st) k n := by
  obtain ⟨p, l, e, R, s, m, args, below, meth, c, Qr1, Qx1, mc1, ms1, nL1⟩ := γ
  obtain ⟨hx, hb, hr, hml, hown, hts, hlk, hG2, hLow, hst, h0, rfl, rfl, rfl, rfl, rfl, rfl⟩ := hC
  have hG := hG2.1
  intro H locs lsA hR hS hl hE
  exact lv_bipush hx hb dg hv (kk H locs lsA hR hS hl hE)

theorem Z_iload_n {G : Gt} {γ : Γt} {own : String} {cc : ByteArray} {ret : Option FieldType} {M : Mm} {pc : Nat} {ls : List (Option Value)} {st : List Value} {k n d mc ms : Nat} {Qr : Option Value → Mm → Prop} {E : Array Slot → Prop} {lh : Launch} {nL : Nat} {q : Fin 4} {i : Nat} {x : Int32} (hC : Zok G γ own cc ret d mc ms Qr lh nL) (dg : decode cc pc = .ok (.iload_n q, 1)) (hi : (q : Nat) = i) (hv : ls[i]? = some (some (.int x))) (kk : JE G γ E M (pc + 1) ls (.int x :: st) k n) : JE G γ E M pc ls (st) k n := by
  obtain ⟨p, l, e, R, s, m, args, below, meth, c, Qr1, Qx1, mc1, ms1, nL1⟩ := γ
  obtain ⟨hx, hb, hr, hml, hown, hts, hlk, hG2, hLow, hst, h0, rfl, rfl, rfl, rfl, rfl, rfl⟩ := hC
  have hG := hG2.1
  intro H locs lsA hR hS hl hE
  exact lv_iload_n hx hb dg hi (hl.at hv) (kk H locs lsA hR hS hl hE)

theorem Z_iload {G : Gt} {γ : Γt} {own : String} {cc : ByteArray} {ret : Option FieldType} {M : Mm} {pc : Nat} {ls : List (Option Value)} {st : List Value} {k n d mc ms : Nat} {Qr : Option Value → Mm → Prop} {E : Array Slot → Prop} {lh : Launch} {nL : Nat} {i : Nat} {x : Int32} (hC : Zok G γ own cc ret d mc ms Qr lh nL) (dg : decode cc pc = .ok (.iload i, 2)) (hv : ls[i]? = some (some (.int x))) (kk : JE G γ E M (pc + 2) ls (.int x :: st) k n) : JE G γ E M pc ls (st) k n := by
  obtain ⟨p, l, e, R, s, m, args, below, meth, c, Qr1, Qx1, mc1, ms1, nL1⟩ := γ
  obtain ⟨hx, hb, hr, hml, hown, hts, hlk, hG2, hLow, hst, h0, rfl, rfl, rfl, rfl, rfl, rfl⟩ := hC
  have hG := hG2.1
  intro H locs lsA hR hS hl hE
  exact lv_iload hx hb dg (hl.at hv) (kk H locs lsA hR hS hl hE)

theorem Z_aload_n {G : Gt} {γ : Γt} {own : String} {cc : ByteArray} {ret : Option FieldType} {M : Mm} {pc : Nat} {ls : List (Option Value)} {st : List Value} {k n d mc ms : Nat} {Qr : Option Value → Mm → Prop} {E : Array Slot → Prop} {lh : Launch} {nL : Nat} {q : Fin 4} {i : Nat} {a : Nat} (hC : Zok G γ own cc ret d mc ms Qr lh nL) (dg : decode cc pc = .ok (.aload_n q, 1)) (hi : (q : Nat) = i) (hv : ls[i]? = some (some (rv a))) (kk : JE G γ E M (pc + 1) ls (rv a :: st) k n) : JE G γ E M pc ls (st) k n := by
  obtain ⟨p, l, e, R, s, m, args, below, meth, c, Qr1, Qx1, mc1, ms1, nL1⟩ := γ
  obtain ⟨hx, hb, hr, hml, hown, hts, hlk, hG2, hLow, hst, h0, rfl, rfl, rfl, rfl, rfl, rfl⟩ := hC
  have hG := hG2.1
  intro H locs lsA hR hS hl hE
  have k1 := kk H locs lsA hR hS hl hE
  have h1 := hl.at hv
  by_cases ha : a = 0
  · subst ha; exact lv_aload_nN hx hb dg hi h1 k1
  · rw [rv_pos ha] at h1 k1; exact lv_aload_n hx hb dg hi h1 k1

theorem Z_aload {G : Gt} {γ : Γt} {own : String} {cc : ByteArray} {ret : Option FieldType} {M : Mm} {pc : Nat} {ls : List (Option Value)} {st : List Value} {k n d mc ms : Nat} {Qr : Option Value → Mm → Prop} {E : Array Slot → Prop} {lh : Launch} {nL : Nat} {i : Nat} {a : Nat} (hC : Zok G γ own cc ret d mc ms Qr lh nL) (dg : decode cc pc = .ok (.aload i, 2)) (hv : ls[i]? = some (some (rv a))) (kk : JE G γ E M (pc + 2) ls (rv a :: st) k n) : JE G γ E M pc ls (st) k n := by
  obtain ⟨p, l, e, R, s, m, args, below, meth, c, Qr1, Qx1, mc1, ms1, nL1⟩ := γ
  obtain ⟨hx, hb, hr, hml, hown, hts, hlk, hG2, hLow, hst, h0, rfl, rfl, rfl, rfl, rfl, rfl⟩ := hC
  have hG := hG2.1
  intro H locs lsA hR hS hl hE
  have k1 := kk H locs lsA hR hS hl hE
  have h1 := hl.at hv
  by_cases ha : a = 0
  · subst ha; exact lv_aloadN hx hb dg h1 k1
  · rw [rv_pos ha] at h1 k1; exact lv_aload hx hb dg h1 k1

theorem Z_istore_n {G : Gt} {γ : Γt} {own : String} {cc : ByteArray} {ret : Option FieldType} {M : Mm} {pc : Nat} {ls : List (Option Value)} {st : List Value} {k n d mc ms : Nat} {Qr : Option Value → Mm → Prop} {lh : Launch} {nL : Nat} {q : Fin 4} {i : Nat} {x : Int32} {ls1 : List (Option Value)} (hC : Zok G γ own cc ret d mc ms Qr lh nL) (dg : decode cc pc = .ok (.istore_n q, 1)) (hi : (q : Nat) = i) (hn : i < nL) (hv : lset ls i (.int x) = ls1) (kk : JE G γ ET M (pc + 1) ls1 st k n) : JE G γ ET M pc ls (.int x :: st) k n := by
  obtain ⟨p, l, e, R, s, m, args, below, meth, c, Qr1, Qx1, mc1, ms1, nL1⟩ := γ
  obtain ⟨hx, hb, hr, hml, hown, hts, hlk, hG2, hLow, hst, h0, rfl, rfl, rfl, rfl, rfl, rfl⟩ := hC
  have hG := hG2.1
  intro H locs lsA hR hS hl hE
  subst hv
  exact lv_istore_n hx hb dg hi hl.1 hn rfl (fun ls2 h2 => kk H locs ls2 hR hS (hl.store rfl h2) trivial)

theorem Z_istore {G : Gt} {γ : Γt} {own : String} {cc : ByteArray} {ret : Option FieldType} {M : Mm} {pc : Nat} {ls : List (Option Value)} {st : List Value} {k n d mc ms : Nat} {Qr : Option Value → Mm → Prop} {lh : Launch} {nL : Nat} {i : Nat} {x : Int32} {ls1 : List (Option Value)} (hC : Zok G γ own cc ret d mc ms Qr lh nL) (dg : decode cc pc = .ok (.istore i, 2)) (hn : i < nL) (hv : lset ls i (.int x) = ls1) (kk : JE G γ ET M (pc + 2) ls1 st k n) : JE G γ ET M pc ls (.int x :: st) k n := by
  obtain ⟨p, l, e, R, s, m, args, below, meth, c, Qr1, Qx1, mc1, ms1, nL1⟩ := γ
  obtain ⟨hx, hb, hr, hml, hown, hts, hlk, hG2, hLow, hst, h0, rfl, rfl, rfl, rfl, rfl, rfl⟩ := hC
  have hG := hG2.1
  intro H locs lsA hR hS hl hE
  subst hv
  exact lv_istore hx hb dg hl.1 hn rfl (fun ls2 h2 => kk H locs ls2 hR hS (hl.store rfl h2) trivial)

theorem Z_astore_n {G : Gt} {γ : Γt} {own : String} {cc : ByteArray} {ret : Option FieldType} {M : Mm} {pc : Nat} {ls : List (Option Value)} {st : List Value} {k n d mc ms : Nat} {Qr : Option Value → Mm → Prop} {lh : Launch} {nL : Nat} {q : Fin 4} {i : Nat} {a : Nat} {ls1 : List (Option Value)} (hC : Zok G γ own cc ret d mc ms Qr lh nL) (dg : decode cc pc = .ok (.astore_n q, 1)) (hi : (q : Nat) = i) (hn : i < nL) (hv : lset ls i (rv a) = ls1) (kk : JE G γ ET M (pc + 1) ls1 st k n) : JE G γ ET M pc ls (rv a :: st) k n := by
  obtain ⟨p, l, e, R, s, m, args, below, meth, c, Qr1, Qx1, mc1, ms1, nL1⟩ := γ
  obtain ⟨hx, hb, hr, hml, hown, hts, hlk, hG2, hLow, hst, h0, rfl, rfl, rfl, rfl, rfl, rfl⟩ := hC
  have hG := hG2.1
  intro H locs lsA hR hS hl hE
  subst hv
  by_cases ha : a = 0
  · subst ha
    exact lv_astore_nN hx hb dg hi hl.1 hn rfl (fun ls2 h2 => kk H locs ls2 hR hS (hl.store rfl h2) trivial)
  · rw [rv_pos ha] at kk ⊢
    exact lv_astore_n hx hb dg hi hl.1 hn rfl (fun ls2 h2 => kk H locs ls2 hR hS (hl.store rfl h2) trivial)

theorem Z_astore {G : Gt} {γ : Γt} {own : String} {cc : ByteArray} {ret : Option FieldType} {M : Mm} {pc : Nat} {ls : List (Option Value)} {st : List Value} {k n d mc ms : Nat} {Qr : Option Value → Mm → Prop} {lh : Launch} {nL : Nat} {i : Nat} {a : Nat} {ls1 : List (Option Value)} (hC : Zok G γ own cc ret d mc ms Qr lh nL) (dg : decode cc pc = .ok (.astore i, 2)) (hn : i < nL) (hv : lset ls i (rv a) = ls1) (kk : JE G γ ET M (pc + 2) ls1 st k n) : JE G γ ET M pc ls (rv a :: st) k n := by
  obtain ⟨p, l, e, R, s, m, args, below, meth, c, Qr1, Qx1, mc1, ms1, nL1⟩ := γ
  obtain ⟨hx, hb, hr, hml, hown, hts, hlk, hG2, hLow, hst, h0, rfl, rfl, rfl, rfl, rfl, rfl⟩ := hC
  have hG := hG2.1
  intro H locs lsA hR hS hl hE
  subst hv
  by_cases ha : a = 0
  · subst ha
    exact lv_astoreN hx hb dg hl.1 hn rfl (fun ls2 h2 => kk H locs ls2 hR hS (hl.store rfl h2) trivial)
  · rw [rv_pos ha] at kk ⊢
    exact lv_astore hx hb dg hl.1 hn rfl (fun ls2 h2 => kk H locs ls2 hR hS (hl.store rfl h2) trivial)

theorem Z_iinc {G : Gt} {γ : Γt} {own : String} {cc : ByteArray} {ret : Option FieldType} {M : Mm} {pc : Nat} {ls : List (Option Value)} {st : List Value} {k n d mc ms : Nat} {Qr : Option Value → Mm → Prop} {lh : Launch} {nL : Nat} {i : Nat} {j : Int} {x v : Int32} {ls1 : List (Option Value)} (hC : Zok G γ own cc ret d mc ms Qr lh nL) (dg : decode cc pc = .ok (.iinc i j, 3)) (hn : i < nL) (hi : ls[i]? = some (some (.int x))) (hj : x + Int32.ofInt j = v) (hv : lset ls i (.int v) = ls1) (kk : JE G γ ET M (pc + 3) ls1 st k n) : JE G γ ET M pc ls (st) k n := by
  obtain ⟨p, l, e, R, s, m, args, below, meth, c, Qr1, Qx1, mc1, ms1, nL1⟩ := γ
  obtain ⟨hx, hb, hr, hml, hown, hts, hlk, hG2, hLow, hst, h0, rfl, rfl, rfl, rfl, rfl, rfl⟩ := hC
  have hG := hG2.1
  intro H locs lsA hR hS hl hE
  subst hv
  obtain ⟨q, hq⟩ := List.getElem?_of_mem ((lsP_mem ls 0 (i, .int x)).mpr ⟨Nat.zero_le _, by simpa using hi⟩)
  exact lv_iinc hx hb dg hl.1 hq hj hn rfl (fun ls2 h2 => kk H locs ls2 hR hS (hl.store rfl h2) trivial)

theorem Z_iadd {G : Gt} {γ : Γt} {own : String} {cc : ByteArray} {ret : Option FieldType} {M : Mm} {pc : Nat} {ls : List (Option Value)} {st : List Value} {k n d mc ms : Nat} {Qr : Option Value → Mm → Prop} {E : Array Slot → Prop} {lh : Launch} {nL : Nat} {x y : Int32} (hC : Zok G γ own cc ret d mc ms Qr lh nL) (dg : decode cc pc = .ok (.iadd, 1)) (kk : JE G γ E M (pc + 1) ls (.int (x + y) :: st) k n) : JE G γ E M pc ls (.int y :: .int x :: st) k n := by
  obtain ⟨p, l, e, R, s, m, args, below, meth, c, Qr1, Qx1, mc1, ms1, nL1⟩ := γ
  obtain ⟨hx, hb, hr, hml, hown, hts, hlk, hG2, hLow, hst, h0, rfl, rfl, rfl, rfl, rfl, rfl⟩ := hC
  have hG := hG2.1
  intro H locs lsA hR hS hl hE
  exact lv_iadd hx hb dg (kk H locs lsA hR hS hl hE)

theorem Z_isub {G : Gt} {γ : Γt} {own : String} {cc : ByteArray} {ret : Option FieldType} {M : Mm} {pc : Nat} {ls : List (Option Value)} {st : List Value} {k n d mc ms : Nat} {Qr : Option Value → Mm → Prop} {E : Array Slot → Prop} {lh : Launch} {nL : Nat} {x y : Int32} (hC : Zok G γ own cc ret d mc ms Qr lh nL) (dg : decode cc pc = .ok (.isub, 1)) (kk : JE G γ E M (pc + 1) ls (.int (x - y) :: st) k n) : JE G γ E M pc ls (.int y :: .int x :: st) k n := by
  obtain ⟨p, l, e, R, s, m, args, below, meth, c, Qr1, Qx1, mc1, ms1, nL1⟩ := γ
  obtain ⟨hx, hb, hr, hml, hown, hts, hlk, hG2, hLow, hst, h0, rfl, rfl, rfl, rfl, rfl, rfl⟩ := hC
  have hG := hG2.1
  intro H locs lsA hR hS hl hE
  exact lv_isub hx hb dg (kk H locs lsA hR hS hl hE)

theorem Z_iand {G : Gt} {γ : Γt} {own : String} {cc : ByteArray} {ret : Option FieldType} {M : Mm} {pc : Nat} {ls : List (Option Value)} {st : List Value} {k n d mc ms : Nat} {Qr : Option Value → Mm → Prop} {E : Array Slot → Prop} {lh : Launch} {nL : Nat} {x y : Int32} (hC : Zok G γ own cc ret d mc ms Qr lh nL) (dg : decode cc pc = .ok (.iand, 1)) (kk : JE G γ E M (pc + 1) ls (.int (x &&& y) :: st) k n) : JE G γ E M pc ls (.int y :: .int x :: st) k n := by
  obtain ⟨p, l, e, R, s, m, args, below, meth, c, Qr1, Qx1, mc1, ms1, nL1⟩ := γ
  obtain ⟨hx, hb, hr, hml, hown, hts, hlk, hG2, hLow, hst, h0, rfl, rfl, rfl, rfl, rfl, rfl⟩ := hC
  have hG := hG2.1
  intro H locs lsA hR hS hl hE
  exact lv_iand hx hb dg (kk H locs lsA hR hS hl hE)

theorem Z_i2c {G : Gt} {γ : Γt} {own : String} {cc : ByteArray} {ret : Option FieldType} {M : Mm} {pc : Nat} {ls : List (Option Value)} {st : List Value} {k n d mc ms : Nat} {Qr : Option Value → Mm → Prop} {E : Array Slot → Prop} {lh : Launch} {nL : Nat} {x v : Int32} (hC : Zok G γ own cc ret d mc ms Qr lh nL) (dg : decode cc pc = .ok (.i2c, 1)) (hv : (x.toUInt32 % 65536).toInt32 = v) (kk : JE G γ E M (pc + 1) ls (.int v :: st) k n) : JE G γ E M pc ls (.int x :: st) k n := by
  obtain ⟨p, l, e, R, s, m, args, below, meth, c, Qr1, Qx1, mc1, ms1, nL1⟩ := γ
  obtain ⟨hx, hb, hr, hml, hown, hts, hlk, hG2, hLow, hst, h0, rfl, rfl, rfl, rfl, rfl, rfl⟩ := hC
  have hG := hG2.1
  intro H locs lsA hR hS hl hE
  exact lv_i2c hx hb dg hv (kk H locs lsA hR hS hl hE)

theorem Z_i2l {G : Gt} {γ : Γt} {own : String} {cc : ByteArray} {ret : Option FieldType} {M : Mm} {pc : Nat} {ls : List (Option Value)} {st : List Value} {k n d mc ms : Nat} {Qr : Option Value → Mm → Prop} {E : Array Slot → Prop} {lh : Launch} {nL : Nat} {x : Int32} (hC : Zok G γ own cc ret d mc ms Qr lh nL) (dg : decode cc pc = .ok (.i2l, 1)) (kk : JE G γ E M (pc + 1) ls (.long x.toInt64 :: st) k n) : JE G γ E M pc ls (.int x :: st) k n := by
  obtain ⟨p, l, e, R, s, m, args, below, meth, c, Qr1, Qx1, mc1, ms1, nL1⟩ := γ
  obtain ⟨hx, hb, hr, hml, hown, hts, hlk, hG2, hLow, hst, h0, rfl, rfl, rfl, rfl, rfl, rfl⟩ := hC
  have hG := hG2.1
  intro H locs lsA hR hS hl hE
  exact lv_i2l hx hb dg rfl (kk H locs lsA hR hS hl hE)

theorem Z_f2d {G : Gt} {γ : Γt} {own : String} {cc : ByteArray} {ret : Option FieldType} {M : Mm} {pc : Nat} {ls : List (Option Value)} {st : List Value} {k n d mc ms : Nat} {Qr : Option Value → Mm → Prop} {E : Array Slot → Prop} {lh : Launch} {nL : Nat} {x : UInt32} (hC : Zok G γ own cc ret d mc ms Qr lh nL) (dg : decode cc pc = .ok (.f2d, 1)) (hne : vf_n64 (FP.f2d x)) (kk : JE G γ E M (pc + 1) ls (.double (FP.f2d x) :: st) k n) : JE G γ E M pc ls (.float x :: st) k n := by
  obtain ⟨p, l, e, R, s, m, args, below, meth, c, Qr1, Qx1, mc1, ms1, nL1⟩ := γ
  obtain ⟨hx, hb, hr, hml, hown, hts, hlk, hG2, hLow, hst, h0, rfl, rfl, rfl, rfl, rfl, rfl⟩ := hC
  have hG := hG2.1
  intro H locs lsA hR hS hl hE
  exact lv_f2d hx hb dg hne (kk H locs lsA hR hS hl hE)

theorem Z_dup {G : Gt} {γ : Γt} {own : String} {cc : ByteArray} {ret : Option FieldType} {M : Mm} {pc : Nat} {ls : List (Option Value)} {st : List Value} {k n d mc ms : Nat} {Qr : Option Value → Mm → Prop} {E : Array Slot → Prop} {lh : Launch} {nL : Nat} {v : Value} (hC : Zok G γ own cc ret d mc ms Qr lh nL) (dg : decode cc pc = .ok (.dup, 1)) (hv : v.category = 1) (kk : JE G γ E M (pc + 1) ls (v :: v :: st) k n) : JE G γ E M pc ls (v :: st) k n := by
  obtain ⟨p, l, e, R, s, m, args, below, meth, c, Qr1, Qx1, mc1, ms1, nL1⟩ := γ
  obtain ⟨hx, hb, hr, hml, hown, hts, hlk, hG2, hLow, hst, h0, rfl, rfl, rfl, rfl, rfl, rfl⟩ := hC
  have hG := hG2.1
  intro H locs lsA hR hS hl hE
  exact lv_dup hx hb dg hv (kk H locs lsA hR hS hl hE)

theorem Z_if_eq {G : Gt} {γ : Γt} {own : String} {cc : ByteArray} {ret : Option FieldType} {M : Mm} {pc : Nat} {ls : List (Option Value)} {st : List Value} {k n d mc ms : Nat} {Qr : Option Value → Mm → Prop} {E : Array Slot → Prop} {lh : Launch} {nL : Nat} {x : Int32} {off : Int} {tgt : Nat} (hC : Zok G γ own cc ret d mc ms Qr lh nL) (dg : decode cc pc = .ok (.ifCond .eq off, 3)) (ht : (pc : Int) + off = (tgt : Int)) (kt : x = 0 → JE G γ E M tgt ls st k n) (kf : ¬ (x = 0) → JE G γ E M (pc + 3) ls st k n) : JE G γ E M pc ls (.int x :: st) k n := by
  obtain ⟨p, l, e, R, s, m, args, below, meth, c, Qr1, Qx1, mc1, ms1, nL1⟩ := γ
  obtain ⟨hx, hb, hr, hml, hown, hts, hlk, hG2, hLow, hst, h0, rfl, rfl, rfl, rfl, rfl, rfl⟩ := hC
  have hG := hG2.1
  intro H locs lsA hR hS hl hE
  exact lv_if_eq hx hb dg ht (fun h => kt (by first | exact h | omega | (simpa using h)) H locs lsA hR hS hl hE) (fun h => kf (by first | exact h | (simpa using h)) H locs lsA hR hS hl hE)

theorem Z_if_ne {G : Gt} {γ : Γt} {own : String} {cc : ByteArray} {ret : Option FieldType} {M : Mm} {pc : Nat} {ls : List (Option Value)} {st : List Value} {k n d mc ms : Nat} {Qr : Option Value → Mm → Prop} {E : Array Slot → Prop} {lh : Launch} {nL : Nat} {x : Int32} {off : Int} {tgt : Nat} (hC : Zok G γ own cc ret d mc ms Qr lh nL) (dg : decode cc pc = .ok (.ifCond .ne off, 3)) (ht : (pc : Int) + off = (tgt : Int)) (kt : ¬ x = 0 → JE G γ E M tgt ls st k n) (kf : ¬ (¬ x = 0) → JE G γ E M (pc + 3) ls st k n) : JE G γ E M pc ls (.int x :: st) k n := by
  obtain ⟨p, l, e, R, s, m, args, below, meth, c, Qr1, Qx1, mc1, ms1, nL1⟩ := γ
  obtain ⟨hx, hb, hr, hml, hown, hts, hlk, hG2, hLow, hst, h0, rfl, rfl, rfl, rfl, rfl, rfl⟩ := hC
  have hG := hG2.1
  intro H locs lsA hR hS hl hE
  exact lv_if_ne hx hb dg ht (fun h => kt (by first | exact h | omega | (simpa using h)) H locs lsA hR hS hl hE) (fun h => kf (by first | exact h | (simpa using h)) H locs lsA hR hS hl hE)

theorem Z_icmp_eq {G : Gt} {γ : Γt} {own : String} {cc : ByteArray} {ret : Option FieldType} {M : Mm} {pc : Nat} {ls : List (Option Value)} {st : List Value} {k n d mc ms : Nat} {Qr : Option Value → Mm → Prop} {E : Array Slot → Prop} {lh : Launch} {nL : Nat} {x y : Int32} {off : Int} {tgt : Nat} (hC : Zok G γ own cc ret d mc ms Qr lh nL) (dg : decode cc pc = .ok (.if_icmp .eq off, 3)) (ht : (pc : Int) + off = (tgt : Int)) (kt : x = y → JE G γ E M tgt ls st k n) (kf : ¬ (x = y) → JE G γ E M (pc + 3) ls st k n) : JE G γ E M pc ls (.int y :: .int x :: st) k n := by
  obtain ⟨p, l, e, R, s, m, args, below, meth, c, Qr1, Qx1, mc1, ms1, nL1⟩ := γ
  obtain ⟨hx, hb, hr, hml, hown, hts, hlk, hG2, hLow, hst, h0, rfl, rfl, rfl, rfl, rfl, rfl⟩ := hC
  have hG := hG2.1
  intro H locs lsA hR hS hl hE
  exact lv_icmp_eq hx hb dg ht (fun h => kt (by first | exact h | (simpa using h)) H locs lsA hR hS hl hE) (fun h => kf (by first | exact h | (simpa using h)) H locs lsA hR hS hl hE)

theorem Z_icmp_gt {G : Gt} {γ : Γt} {own : String} {cc : ByteArray} {ret : Option FieldType} {M : Mm} {pc : Nat} {ls : List (Option Value)} {st : List Value} {k n d mc ms : Nat} {Qr : Option Value → Mm → Prop} {E : Array Slot → Prop} {lh : Launch} {nL : Nat} {x y : Int32} {off : Int} {tgt : Nat} (hC : Zok G γ own cc ret d mc ms Qr lh nL) (dg : decode cc pc = .ok (.if_icmp .gt off, 3)) (ht : (pc : Int) + off = (tgt : Int)) (kt : y < x → JE G γ E M tgt ls st k n) (kf : ¬ (y < x) → JE G γ E M (pc + 3) ls st k n) : JE G γ E M pc ls (.int y :: .int x :: st) k n := by
  obtain ⟨p, l, e, R, s, m, args, below, meth, c, Qr1, Qx1, mc1, ms1, nL1⟩ := γ
  obtain ⟨hx, hb, hr, hml, hown, hts, hlk, hG2, hLow, hst, h0, rfl, rfl, rfl, rfl, rfl, rfl⟩ := hC
  have hG := hG2.1
  intro H locs lsA hR hS hl hE
  exact lv_icmp_gt hx hb dg ht (fun h => kt (by first | exact h | (simpa using h)) H locs lsA hR hS hl hE) (fun h => kf (by first | exact h | (simpa using h)) H locs lsA hR hS hl hE)

theorem Z_goto {G : Gt} {γ : Γt} {own : String} {cc : ByteArray} {ret : Option FieldType} {M : Mm} {pc : Nat} {ls : List (Option Value)} {st : List Value} {k n d mc ms : Nat} {Qr : Option Value → Mm → Prop} {E : Array Slot → Prop} {lh : Launch} {nL : Nat} {off : Int} {tgt : Nat} (hC : Zok G γ own cc ret d mc ms Qr lh nL) (dg : decode cc pc = .ok (.goto off, 3)) (ht : (pc : Int) + off = (tgt : Int)) (kk : JE G γ E M tgt ls st k n) : JE G γ E M pc ls (st) k n := by
  obtain ⟨p, l, e, R, s, m, args, below, meth, c, Qr1, Qx1, mc1, ms1, nL1⟩ := γ
  obtain ⟨hx, hb, hr, hml, hown, hts, hlk, hG2, hLow, hst, h0, rfl, rfl, rfl, rfl, rfl, rfl⟩ := hC
  have hG := hG2.1
  intro H locs lsA hR hS hl hE
  exact lv_goto hx hb dg ht (kk H locs lsA hR hS hl hE)

theorem Z_sub {G : Gt} {γ : Γt} {own : String} {cc : ByteArray} {ret : Option FieldType} {M : Mm} {pc : Nat} {ls : List (Option Value)} {st : List Value} {k n d mc ms : Nat} {Qr : Option Value → Mm → Prop} {E : Array Slot → Prop} {lh : Launch} {nL : Nat} {ls1 : List (Option Value)} (hC : Zok G γ own cc ret d mc ms Qr lh nL) (hs : lsSub ls1 ls) (kk : JE G γ E M pc ls1 st k n) : JE G γ E M pc ls (st) k n := by
  obtain ⟨p, l, e, R, s, m, args, below, meth, c, Qr1, Qx1, mc1, ms1, nL1⟩ := γ
  obtain ⟨hx, hb, hr, hml, hown, hts, hlk, hG2, hLow, hst, h0, rfl, rfl, rfl, rfl, rfl, rfl⟩ := hC
  have hG := hG2.1
  intro H locs lsA hR hS hl hE
  exact kk H locs lsA hR hS (hl.sub hs) hE

theorem Z_wide {G : Gt} {γ : Γt} {own : String} {cc : ByteArray} {ret : Option FieldType} {M : Mm} {pc : Nat} {ls : List (Option Value)} {st : List Value} {k n d mc ms : Nat} {Qr : Option Value → Mm → Prop} {E : Array Slot → Prop} {lh : Launch} {nL : Nat} {k1 n1 : Nat} (hC : Zok G γ own cc ret d mc ms Qr lh nL) (hk : k ≤ k1) (hn : n ≤ n1) (kk : JE G γ E M pc ls st k1 n1) : JE G γ E M pc ls (st) k n := by
  obtain ⟨p, l, e, R, s, m, args, below, meth, c, Qr1, Qx1, mc1, ms1, nL1⟩ := γ
  obtain ⟨hx, hb, hr, hml, hown, hts, hlk, hG2, hLow, hst, h0, rfl, rfl, rfl, rfl, rfl, rfl⟩ := hC
  have hG := hG2.1
  intro H locs lsA hR hS hl hE
  exact W.widen hk hn (kk H locs lsA hR hS hl hE)

theorem Z_lald {G : Gt} {γ : Γt} {own : String} {cc : ByteArray} {ret : Option FieldType} {M : Mm} {pc : Nat} {ls : List (Option Value)} {st : List Value} {k n d mc ms : Nat} {Qr : Option Value → Mm → Prop} {E : Array Slot → Prop} {lh : Launch} {nL : Nat} {a j : Nat} {i : Int32} (hC : Zok G γ own cc ret d mc ms Qr lh nL) (ht : (mT M a).1 = 12) (hi : i.toInt = (j : Int)) (hj : j < mL M a) (dg : decode cc pc = .ok (.laload, 1)) (kk : JE G γ E M (pc + 1) ls (.long (mJ M a j) :: st) k n) : JE G γ E M pc ls (.int i :: rv a :: st) k n := by
  obtain ⟨p, l, e, R, s, m, args, below, meth, c, Qr1, Qx1, mc1, ms1, nL1⟩ := γ
  obtain ⟨hx, hb, hr, hml, hown, hts, hlk, hG2, hLow, hst, h0, rfl, rfl, rfl, rfl, rfl, rfl⟩ := hC
  have hG := hG2.1
  intro H locs lsA hR hS hl hE
  rw [rv_pos (n := a) (hR.ne (a := a) (by rw [ht]; decide))]
  obtain ⟨hg0, L, hL, hP, hD⟩ := id hR
  obtain ⟨q, hq⟩ := va_pl_get (X := []) (f := mE G.2.1 M) ((hL a).mpr (by rw [ht]; decide))
  have hq0 : (va_pl L (mE G.2.1 M))[q]? = some (a, mE G.2.1 M a) := hq
  have hq : (va_pl L (mE G.2.1 M))[q]? = some (a, .inl (G.2.1 12, mL M a, .inr (.inl (mJ M a)))) := by rw [← mE_12 ht]; exact hq0
  obtain ⟨h1, h2⟩ := ix_in hi hj
  subst h2
  exact va_lald hx hb hG.1 hP q 5 hq rfl h1 dg (kk H locs lsA hR hS hl hE)

theorem Z_dald {G : Gt} {γ : Γt} {own : String} {cc : ByteArray} {ret : Option FieldType} {M : Mm} {pc : Nat} {ls : List (Option Value)} {st : List Value} {k n d mc ms : Nat} {Qr : Option Value → Mm → Prop} {E : Array Slot → Prop} {lh : Launch} {nL : Nat} {a j : Nat} {i : Int32} (hC : Zok G γ own cc ret d mc ms Qr lh nL) (ht : (mT M a).1 = 13) (hi : i.toInt = (j : Int)) (hj : j < mL M a) (dg : decode cc pc = .ok (.daload, 1)) (kk : JE G γ E M (pc + 1) ls (.double (mD M a j) :: st) k n) : JE G γ E M pc ls (.int i :: rv a :: st) k n := by
  obtain ⟨p, l, e, R, s, m, args, below, meth, c, Qr1, Qx1, mc1, ms1, nL1⟩ := γ
  obtain ⟨hx, hb, hr, hml, hown, hts, hlk, hG2, hLow, hst, h0, rfl, rfl, rfl, rfl, rfl, rfl⟩ := hC
  have hG := hG2.1
  intro H locs lsA hR hS hl hE
  rw [rv_pos (n := a) (hR.ne (a := a) (by rw [ht]; decide))]
  obtain ⟨hg0, L, hL, hP, hD⟩ := id hR
  obtain ⟨q, hq⟩ := va_pl_get (X := []) (f := mE G.2.1 M) ((hL a).mpr (by rw [ht]; decide))
  have hq0 : (va_pl L (mE G.2.1 M))[q]? = some (a, mE G.2.1 M a) := hq
  have hq : (va_pl L (mE G.2.1 M))[q]? = some (a, .inl (G.2.1 13, mL M a, .inr (.inr (.inr (.inl (mD M a)))))) := by rw [← mE_13 ht]; exact hq0
  obtain ⟨h1, h2⟩ := ix_in hi hj
  subst h2
  exact va_dald hx hb hG.1 hP q 6 hq rfl h1 dg (kk H locs lsA hR hS hl hE)

theorem Z_last {G : Gt} {γ : Γt} {own : String} {cc : ByteArray} {ret : Option FieldType} {M : Mm} {pc : Nat} {ls : List (Option Value)} {st : List Value} {k n d mc ms : Nat} {Qr : Option Value → Mm → Prop} {E : Array Slot → Prop} {lh : Launch} {nL : Nat} {a j : Nat} {i : Int32} {v : Int64} (hC : Zok G γ own cc ret d mc ms Qr lh nL) (ht : (mT M a).1 = 12) (hi : i.toInt = (j : Int)) (hj : j < mL M a) (dg : decode cc pc = .ok (.lastore, 1)) (kk : JE G γ E (pJ M a j v) (pc + 1) ls st k n) : JE G γ E M pc ls (.long v :: .int i :: rv a :: st) k n := by
  obtain ⟨p, l, e, R, s, m, args, below, meth, c, Qr1, Qx1, mc1, ms1, nL1⟩ := γ
  obtain ⟨hx, hb, hr, hml, hown, hts, hlk, hG2, hLow, hst, h0, rfl, rfl, rfl, rfl, rfl, rfl⟩ := hC
  have hG := hG2.1
  intro H locs lsA hR hS hl hE
  rw [rv_pos (n := a) (hR.ne (a := a) (by rw [ht]; decide))]
  obtain ⟨hg0, L, hL, hP, hD⟩ := id hR
  obtain ⟨q, hq⟩ := va_pl_get (X := []) (f := mE G.2.1 M) ((hL a).mpr (by rw [ht]; decide))
  have hq0 : (va_pl L (mE G.2.1 M))[q]? = some (a, mE G.2.1 M a) := hq
  have hq : (va_pl L (mE G.2.1 M))[q]? = some (a, .inl (G.2.1 12, mL M a, .inr (.inl (mJ M a)))) := by rw [← mE_12 ht]; exact hq0
  obtain ⟨h1, h2⟩ := ix_in hi hj
  subst h2
  refine va_last hx hb hG.1 hP hD hS q 5 hq rfl h1 dg (fun H1 locs1 hP1 hD1 hS1 => kk H1 locs1 lsA ?_ hS1 hl hE)
  refine Rep.set hg0 hL hD (by rw [ht]; decide) hq0 (fun b => rfl) ?_ (fun b hb => pJ_ne b hb) hP1 hD1
  rw [mE_12 (M := pJ M a _ v) ht]
  have e9 : mJ (pJ M a i.toNatClampNeg v) a = vp_updL (mJ M a) i.toNatClampNeg v := by funext j; simp [mJ, pJ, up2, vp_updL]
  rw [e9]; rfl

theorem Z_dast {G : Gt} {γ : Γt} {own : String} {cc : ByteArray} {ret : Option FieldType} {M : Mm} {pc : Nat} {ls : List (Option Value)} {st : List Value} {k n d mc ms : Nat} {Qr : Option Value → Mm → Prop} {E : Array Slot → Prop} {lh : Launch} {nL : Nat} {a j : Nat} {i : Int32} {v : UInt64} (hC : Zok G γ own cc ret d mc ms Qr lh nL) (ht : (mT M a).1 = 13) (hi : i.toInt = (j : Int)) (hj : j < mL M a) (dg : decode cc pc = .ok (.dastore, 1)) (kk : JE G γ E (pD M a j v) (pc + 1) ls st k n) : JE G γ E M pc ls (.double v :: .int i :: rv a :: st) k n := by
  obtain ⟨p, l, e, R, s, m, args, below, meth, c, Qr1, Qx1, mc1, ms1, nL1⟩ := γ
  obtain ⟨hx, hb, hr, hml, hown, hts, hlk, hG2, hLow, hst, h0, rfl, rfl, rfl, rfl, rfl, rfl⟩ := hC
  have hG := hG2.1
  intro H locs lsA hR hS hl hE
  rw [rv_pos (n := a) (hR.ne (a := a) (by rw [ht]; decide))]
  obtain ⟨hg0, L, hL, hP, hD⟩ := id hR
  obtain ⟨q, hq⟩ := va_pl_get (X := []) (f := mE G.2.1 M) ((hL a).mpr (by rw [ht]; decide))
  have hq0 : (va_pl L (mE G.2.1 M))[q]? = some (a, mE G.2.1 M a) := hq
  have hq : (va_pl L (mE G.2.1 M))[q]? = some (a, .inl (G.2.1 13, mL M a, .inr (.inr (.inr (.inl (mD M a)))))) := by rw [← mE_13 ht]; exact hq0
  obtain ⟨h1, h2⟩ := ix_in hi hj
  subst h2
  refine va_dast hx hb hG.1 hP hD hS q 6 hq rfl h1 dg (fun H1 locs1 hP1 hD1 hS1 => kk H1 locs1 lsA ?_ hS1 hl hE)
  refine Rep.set hg0 hL hD (by rw [ht]; decide) hq0 (fun b => rfl) ?_ (fun b hb => pD_ne b hb) hP1 hD1
  rw [mE_13 (M := pD M a _ v) ht]
  have e9 : mD (pD M a i.toNatClampNeg v) a = vf_upd (mD M a) i.toNatClampNeg v := by funext j; simp [mD, pD, up2, vf_upd]
  rw [e9]; rfl

theorem Z_new5 {G : Gt} {γ : Γt} {own : String} {cc : ByteArray} {ret : Option FieldType} {M : Mm} {pc : Nat} {ls : List (Option Value)} {st : List Value} {k n d mc ms : Nat} {Qr : Option Value → Mm → Prop} {E : Array Slot → Prop} {lh : Launch} {nL : Nat} {idx : Nat} (i : Nat) {k1 n1 : Nat} (hC : Zok G γ own cc ret d mc ms Qr lh nL) (lc : Cond.classLink own idx RX4 ∈ AW) (li : Cond.instantiable RX4 12 ∈ AW) (lt : Cond.initialized RX4 ∈ AW) (hk : k + 1 = k1) (hn : n + 12 = n1) (hkc : k1 ≤ mc) (hnc : n1 ≤ ms) (dg : decode cc pc = .ok (.new idx, 3)) (kk : ∀ q, (mT M q).1 = 0 → q ≠ 0 → JE G γ E (nwM M q (5, i) 0) (pc + 3) ls (rv q :: st) k1 n1) : JE G γ E M pc ls st k n := by
  obtain ⟨p, l, e, R, s, m, args, below, meth, c, Qr1, Qx1, mc1, ms1, nL1⟩ := γ
  obtain ⟨hx, hb, hr, hml, hown, hts, hlk, hG2, hLow, hst, h0, rfl, rfl, rfl, rfl, rfl, rfl⟩ := hC
  have hG := hG2.1
  subst hk; subst hn
  intro H locs lsA hR hS hl hE
  obtain ⟨hg0, L, hL, hP, hD⟩ := id hR
  refine va_new (C := RX4) (T := TX4) (N := 12) (fs := [.null, .null, .null, .null, .null, .null, .int 0, .int 0, .int 0, .int 0, .int 0, .long 0]) (ci := 4) hx hb hts lay4 tyX4 tyX4_ok hown (hts _ lc) (hts _ li) (hts _ lt) hG.1 hP hD hS (fun q hq => Nat.le_trans hLow.1 hq) rfl (fun j hj => ?_) hkc hnc dg (fun q H1 hP1 hD1 hS1 => ?_)
  · match j, hj with
    | 0, _ => rfl
    | 1, _ => rfl
    | 2, _ => rfl
    | 3, _ => rfl
    | 4, _ => rfl
    | 5, _ => rfl
    | 6, _ => rfl
    | 7, _ => rfl
    | 8, _ => rfl
    | 9, _ => rfl
    | 10, _ => rfl
    | 11, _ => rfl
    | r + 12, h => exact absurd h (by omega)
  · have hf : q ∉ L := va_pl_fresh2 (X := []) hD1
    have hq0 : (mT M q).1 = 0 := by
      by_cases h : (mT M q).1 = 0
      · exact h
      · exact absurd ((hL q).mpr h) hf
    have hR1 : Rep G (nwM M q (5, i) 0) H1 := by
      refine Rep.push hg0 hL hf (by simp [mT, nwM, va_up_self]) (fun b hb => by simp [mT, nwM, va_up_ne _ _ hb]) ?_ (fun b hb => nwM_ne b hb) hP1 hD1
      rw [mE_5 (by simp [mT, nwM, va_up_self]), fsnew5]
    have hqn : q ≠ 0 := hR1.ne (by simp [mT, nwM, va_up_self])
    have k2 := kk q hq0 hqn H1 locs lsA hR1 hS1 hl hE
    rw [rv_pos hqn] at k2
    exact k2

theorem Z_new6 {G : Gt} {γ : Γt} {own : String} {cc : ByteArray} {ret : Option FieldType} {M : Mm} {pc : Nat} {ls : List (Option Value)} {st : List Value} {k n d mc ms : Nat} {Qr : Option Value → Mm → Prop} {E : Array Slot → Prop} {lh : Launch} {nL : Nat} {idx : Nat} (i : Nat) {k1 n1 : Nat} (hC : Zok G γ own cc ret d mc ms Qr lh nL) (lc : Cond.classLink own idx RX5 ∈ AW) (li : Cond.instantiable RX5 33 ∈ AW) (lt : Cond.initialized RX5 ∈ AW) (hk : k + 1 = k1) (hn : n + 33 = n1) (hkc : k1 ≤ mc) (hnc : n1 ≤ ms) (dg : decode cc pc = .ok (.new idx, 3)) (kk : ∀ q, (mT M q).1 = 0 → q ≠ 0 → JE G γ E (nwM M q (6, i) 0) (pc + 3) ls (rv q :: st) k1 n1) : JE G γ E M pc ls st k n := by
  obtain ⟨p, l, e, R, s, m, args, below, meth, c, Qr1, Qx1, mc1, ms1, nL1⟩ := γ
  obtain ⟨hx, hb, hr, hml, hown, hts, hlk, hG2, hLow, hst, h0, rfl, rfl, rfl, rfl, rfl, rfl⟩ := hC
  have hG := hG2.1
  subst hk; subst hn
  intro H locs lsA hR hS hl hE
  obtain ⟨hg0, L, hL, hP, hD⟩ := id hR
  refine va_new (C := RX5) (T := TX5) (N := 33) (fs := [.int 0, .int 0, .int 0, .int 0, .int 0, .int 0, .int 0, .int 0, .int 0, .long 0, .null, .null, .null, .null, .null, .null, .null, .null, .null, .null, .null, .null, .null, .null, .null, .null, .null, .null, .null, .null, .null, .null, .null]) (ci := 5) hx hb hts lay5 tyX5 tyX5_ok hown (hts _ lc) (hts _ li) (hts _ lt) hG.1 hP hD hS (fun q hq => Nat.le_trans hLow.1 hq) rfl (fun j hj => ?_) hkc hnc dg (fun q H1 hP1 hD1 hS1 => ?_)
  · match j, hj with
    | 0, _ => rfl
    | 1, _ => rfl
    | 2, _ => rfl
    | 3, _ => rfl
    | 4, _ => rfl
    | 5, _ => rfl
    | 6, _ => rfl
    | 7, _ => rfl
    | 8, _ => rfl
    | 9, _ => rfl
    | 10, _ => rfl
    | 11, _ => rfl
    | 12, _ => rfl
    | 13, _ => rfl
    | 14, _ => rfl
    | 15, _ => rfl
    | 16, _ => rfl
    | 17, _ => rfl
    | 18, _ => rfl
    | 19, _ => rfl
    | 20, _ => rfl
    | 21, _ => rfl
    | 22, _ => rfl
    | 23, _ => rfl
    | 24, _ => rfl
    | 25, _ => rfl
    | 26, _ => rfl
    | 27, _ => rfl
    | 28, _ => rfl
    | 29, _ => rfl
    | 30, _ => rfl
    | 31, _ => rfl
    | 32, _ => rfl
    | r + 33, h => exact absurd h (by omega)
  · have hf : q ∉ L := va_pl_fresh2 (X := []) hD1
    have hq0 : (mT M q).1 = 0 := by
      by_cases h : (mT M q).1 = 0
      · exact h
      · exact absurd ((hL q).mpr h) hf
    have hR1 : Rep G (nwM M q (6, i) 0) H1 := by
      refine Rep.push hg0 hL hf (by simp [mT, nwM, va_up_self]) (fun b hb => by simp [mT, nwM, va_up_ne _ _ hb]) ?_ (fun b hb => nwM_ne b hb) hP1 hD1
      rw [mE_6 (by simp [mT, nwM, va_up_self]), fsnew6]
    have hqn : q ≠ 0 := hR1.ne (by simp [mT, nwM, va_up_self])
    have k2 := kk q hq0 hqn H1 locs lsA hR1 hS1 hl hE
    rw [rv_pos hqn] at k2
    exact k2

theorem Z_newJ {G : Gt} {γ : Γt} {own : String} {cc : ByteArray} {ret : Option FieldType} {M : Mm} {pc : Nat} {ls : List (Option Value)} {st : List Value} {k n d mc ms : Nat} {Qr : Option Value → Mm → Prop} {E : Array Slot → Prop} {lh : Launch} {nL : Nat} {v : Int32} {N : Nat} (i : Nat) {k1 n1 : Nat} (hC : Zok G γ own cc ret d mc ms Qr lh nL) (la : Cond.arrayClass .long ∈ AW) (hv : v.toInt = (N : Int)) (hN : N ≤ 10000) (hk : k + 1 = k1) (hn : n + N = n1) (hkc : k1 ≤ mc) (hnc : n1 ≤ ms) (dg : decode cc pc = .ok (.newarray .long, 2)) (kk : ∀ q, (mT M q).1 = 0 → q ≠ 0 → JE G γ E (nwM M q (12, i) N) (pc + 2) ls (rv q :: st) k1 n1) : JE G γ E M pc ls (.int v :: st) k n := by
  obtain ⟨p, l, e, R, s, m, args, below, meth, c, Qr1, Qx1, mc1, ms1, nL1⟩ := γ
  obtain ⟨hx, hb, hr, hml, hown, hts, hlk, hG2, hLow, hst, h0, rfl, rfl, rfl, rfl, rfl, rfl⟩ := hC
  have hG := hG2.1
  subst hk; subst hn
  intro H locs lsA hR hS hl hE
  obtain ⟨hg0, L, hL, hP, hD⟩ := id hR
  have hN9 : v.toNatClampNeg = N := by rw [Int32.toNatClampNeg]; omega
  refine va_newa (atype := .long) (ty := .long) (N' := N) (a0 := (N, .inr (.inl (fun _ => 0)))) hx hb (hts _ la) rfl hG.1 hP hD hS (fun q hq => Nat.le_trans hLow.1 hq) (fun cA => rfl) (by rw [Int32.lt_iff_toInt_lt, hv]; exact Int.not_lt.mpr (Int.natCast_nonneg N)) hN9 (by show N * 8 ≤ _; omega) hkc hnc dg (fun q cA H1 hK1 hP1 hD1 hS1 => ?_)
  have hcA : cA = G.2.1 12 := by
    have e1 := (hK1.2 7 (cA, .long) rfl).2
    have e2 := (hG.1.2 5 (G.2.1 12, .long) rfl).2
    exact Option.some.inj (e1.symm.trans e2)
  subst hcA
  have hf : q ∉ L := va_pl_fresh2 (X := []) hD1
  have hq0 : (mT M q).1 = 0 := by
    by_cases h : (mT M q).1 = 0
    · exact h
    · exact absurd ((hL q).mpr h) hf
  have hR1 : Rep G (nwM M q (12, i) N) H1 := by
    refine Rep.push hg0 hL hf (by simp [mT, nwM, va_up_self]) (fun b hb => by simp [mT, nwM, va_up_ne _ _ hb]) ?_ (fun b hb => nwM_ne b hb) hP1 hD1
    rw [mE_12 (by simp [mT, nwM, va_up_self])]
    have e9 : mJ (nwM M q (12, i) N) q = fun _ => 0 := by funext j; simp [mJ, nwM]
    have e8 : mL (nwM M q (12, i) N) q = N := by simp [mL, nwM, va_up_self]
    rw [e9, e8]
  have hqn : q ≠ 0 := hR1.ne (by simp [mT, nwM, va_up_self])
  have k2 := kk q hq0 hqn H1 locs lsA hR1 hS1 hl hE
  rw [rv_pos hqn] at k2
  exact k2

theorem Z_newD {G : Gt} {γ : Γt} {own : String} {cc : ByteArray} {ret : Option FieldType} {M : Mm} {pc : Nat} {ls : List (Option Value)} {st : List Value} {k n d mc ms : Nat} {Qr : Option Value → Mm → Prop} {E : Array Slot → Prop} {lh : Launch} {nL : Nat} {v : Int32} {N : Nat} (i : Nat) {k1 n1 : Nat} (hC : Zok G γ own cc ret d mc ms Qr lh nL) (la : Cond.arrayClass .double ∈ AW) (hv : v.toInt = (N : Int)) (hN : N ≤ 10000) (hk : k + 1 = k1) (hn : n + N = n1) (hkc : k1 ≤ mc) (hnc : n1 ≤ ms) (dg : decode cc pc = .ok (.newarray .double, 2)) (kk : ∀ q, (mT M q).1 = 0 → q ≠ 0 → JE G γ E (nwM M q (13, i) N) (pc + 2) ls (rv q :: st) k1 n1) : JE G γ E M pc ls (.int v :: st) k n := by
  obtain ⟨p, l, e, R, s, m, args, below, meth, c, Qr1, Qx1, mc1, ms1, nL1⟩ := γ
  obtain ⟨hx, hb, hr, hml, hown, hts, hlk, hG2, hLow, hst, h0, rfl, rfl, rfl, rfl, rfl, rfl⟩ := hC
  have hG := hG2.1
  subst hk; subst hn
  intro H locs lsA hR hS hl hE
  obtain ⟨hg0, L, hL, hP, hD⟩ := id hR
  have hN9 : v.toNatClampNeg = N := by rw [Int32.toNatClampNeg]; omega
  refine va_newa (atype := .double) (ty := .double) (N' := N) (a0 := (N, .inr (.inr (.inr (.inl (fun _ => 0)))))) hx hb (hts _ la) rfl hG.1 hP hD hS (fun q hq => Nat.le_trans hLow.1 hq) (fun cA => rfl) (by rw [Int32.lt_iff_toInt_lt, hv]; exact Int.not_lt.mpr (Int.natCast_nonneg N)) hN9 (by show N * 8 ≤ _; omega) hkc hnc dg (fun q cA H1 hK1 hP1 hD1 hS1 => ?_)
  have hcA : cA = G.2.1 13 := by
    have e1 := (hK1.2 7 (cA, .double) rfl).2
    have e2 := (hG.1.2 6 (G.2.1 13, .double) rfl).2
    exact Option.some.inj (e1.symm.trans e2)
  subst hcA
  have hf : q ∉ L := va_pl_fresh2 (X := []) hD1
  have hq0 : (mT M q).1 = 0 := by
    by_cases h : (mT M q).1 = 0
    · exact h
    · exact absurd ((hL q).mpr h) hf
  have hR1 : Rep G (nwM M q (13, i) N) H1 := by
    refine Rep.push hg0 hL hf (by simp [mT, nwM, va_up_self]) (fun b hb => by simp [mT, nwM, va_up_ne _ _ hb]) ?_ (fun b hb => nwM_ne b hb) hP1 hD1
    rw [mE_13 (by simp [mT, nwM, va_up_self])]
    have e9 : mD (nwM M q (13, i) N) q = fun _ => 0 := by funext j; simp [mD, nwM]
    have e8 : mL (nwM M q (13, i) N) q = N := by simp [mL, nwM, va_up_self]
    rw [e9, e8]
  have hqn : q ≠ 0 := hR1.ne (by simp [mT, nwM, va_up_self])
  have k2 := kk q hq0 hqn H1 locs lsA hR1 hS1 hl hE
  rw [rv_pos hqn] at k2
  exact k2

theorem Z_aloadR_n {G : Gt} {γ : Γt} {own : String} {cc : ByteArray} {ret : Option FieldType} {M : Mm} {pc : Nat} {ls : List (Option Value)} {st : List Value} {k n d mc ms : Nat} {Qr : Option Value → Mm → Prop} {E : Array Slot → Prop} {lh : Launch} {nL : Nat} {q : Fin 4} {i a : Nat} (hC : Zok G γ own cc ret d mc ms Qr lh nL) (dg : decode cc pc = .ok (.aload_n q, 1)) (hi : (q : Nat) = i) (hv : ls[i]? = some (some (.ref a))) (kk : JE G γ E M (pc + 1) ls (.ref a :: st) k n) : JE G γ E M pc ls st k n := by
  obtain ⟨p, l, e, R, s, m, args, below, meth, c, Qr1, Qx1, mc1, ms1, nL1⟩ := γ
  obtain ⟨hx, hb, hr, hml, hown, hts, hlk, hG2, hLow, hst, h0, rfl, rfl, rfl, rfl, rfl, rfl⟩ := hC
  have hG := hG2.1
  intro H locs lsA hR hS hl hE
  exact lv_aload_n hx hb dg hi (hl.at hv) (kk H locs lsA hR hS hl hE)

theorem Z_sld {G : Gt} {γ : Γt} {own : String} {cc : ByteArray} {ret : Option FieldType} {M : Mm} {pc : Nat} {ls : List (Option Value)} {st : List Value} {k n d mc ms : Nat} {Qr : Option Value → Mm → Prop} {E : Array Slot → Prop} {lh : Launch} {nL : Nat} {b L : Nat} {xs : Nat → Int32} {i : Int32} {v : Int32} (hC : Zok G γ own cc ret d mc ms Qr lh nL) (hs : Sok G γ b L xs) (hin : vp_in i L) (hv : xs i.toNatClampNeg = v) (dg : decode cc pc = .ok (.iaload, 1)) (kk : JE G γ E M (pc + 1) ls (.int v :: st) k n) : JE G γ E M pc ls (.int i :: .ref b :: st) k n := by
  obtain ⟨p, l, e, R, s, m, args, below, meth, c, Qr1, Qx1, mc1, ms1, nL1⟩ := γ
  obtain ⟨hx, hb, hr, hml, hown, hts, hlk, hG2, hLow, hst, h0, rfl, rfl, rfl, rfl, rfl, rfl⟩ := hC
  have hG := hG2.1
  intro H locs lsA hR hS hl hE
  subst hv
  exact va_sld hx hb hs.1 hs.2.1 hs.2.2 hS hin dg (kk H locs lsA hR hS hl hE)

theorem Z_slen {G : Gt} {γ : Γt} {own : String} {cc : ByteArray} {ret : Option FieldType} {M : Mm} {pc : Nat} {ls : List (Option Value)} {st : List Value} {k n d mc ms : Nat} {Qr : Option Value → Mm → Prop} {E : Array Slot → Prop} {lh : Launch} {nL : Nat} {b L : Nat} {xs : Nat → Int32} (hC : Zok G γ own cc ret d mc ms Qr lh nL) (hs : Sok G γ b L xs) (dg : decode cc pc = .ok (.arraylength, 1)) (kk : JE G γ E M (pc + 1) ls (.int (Int32.ofNat L) :: st) k n) : JE G γ E M pc ls (.ref b :: st) k n := by
  obtain ⟨p, l, e, R, s, m, args, below, meth, c, Qr1, Qx1, mc1, ms1, nL1⟩ := γ
  obtain ⟨hx, hb, hr, hml, hown, hts, hlk, hG2, hLow, hst, h0, rfl, rfl, rfl, rfl, rfl, rfl⟩ := hC
  have hG := hG2.1
  intro H locs lsA hR hS hl hE
  exact va_slen hx hb hs.1 hs.2.1 hs.2.2 hS dg (kk H locs lsA hR hS hl hE)

theorem Z_lconst {G : Gt} {γ : Γt} {own : String} {cc : ByteArray} {ret : Option FieldType} {M : Mm} {pc : Nat} {ls : List (Option Value)} {st : List Value} {k n d mc ms : Nat} {Qr : Option Value → Mm → Prop} {E : Array Slot → Prop} {lh : Launch} {nL : Nat} {j : Fin 2} {v : Int64} (hC : Zok G γ own cc ret d mc ms Qr lh nL) (dg : decode cc pc = .ok (.lconst j, 1)) (hv : Int64.ofNat (j : Nat) = v) (kk : JE G γ E M (pc + 1) ls (.long v :: st) k n) : JE G γ E M pc ls st k n := by
  obtain ⟨p, l, e, R, s, m, args, below, meth, c, Qr1, Qx1, mc1, ms1, nL1⟩ := γ
  obtain ⟨hx, hb, hr, hml, hown, hts, hlk, hG2, hLow, hst, h0, rfl, rfl, rfl, rfl, rfl, rfl⟩ := hC
  have hG := hG2.1
  intro H locs lsA hR hS hl hE
  exact lv_lconst hx hb dg hv (kk H locs lsA hR hS hl hE)

theorem Z_lcmp {G : Gt} {γ : Γt} {own : String} {cc : ByteArray} {ret : Option FieldType} {M : Mm} {pc : Nat} {ls : List (Option Value)} {st : List Value} {k n d mc ms : Nat} {Qr : Option Value → Mm → Prop} {E : Array Slot → Prop} {lh : Launch} {nL : Nat} {x y : Int64} (hC : Zok G γ own cc ret d mc ms Qr lh nL) (dg : decode cc pc = .ok (.lcmp, 1)) (kk : JE G γ E M (pc + 1) ls (.int (lg_cmp x y) :: st) k n) : JE G γ E M pc ls (.long y :: .long x :: st) k n := by
  obtain ⟨p, l, e, R, s, m, args, below, meth, c, Qr1, Qx1, mc1, ms1, nL1⟩ := γ
  obtain ⟨hx, hb, hr, hml, hown, hts, hlk, hG2, hLow, hst, h0, rfl, rfl, rfl, rfl, rfl, rfl⟩ := hC
  have hG := hG2.1
  intro H locs lsA hR hS hl hE
  exact W.lcmp hx hb dg (kk H locs lsA hR hS hl hE)

theorem Z_dcmp {G : Gt} {γ : Γt} {own : String} {cc : ByteArray} {ret : Option FieldType} {M : Mm} {pc : Nat} {ls : List (Option Value)} {st : List Value} {k n d mc ms : Nat} {Qr : Option Value → Mm → Prop} {E : Array Slot → Prop} {lh : Launch} {nL : Nat} {x y : UInt64} {op : CmpOp} (hC : Zok G γ own cc ret d mc ms Qr lh nL) (dg : decode cc pc = .ok (.dcmp op, 1)) (kk : JE G γ E M (pc + 1) ls (.int (Op.cmpValue (FP.dcmp x y) op) :: st) k n) : JE G γ E M pc ls (.double y :: .double x :: st) k n := by
  obtain ⟨p, l, e, R, s, m, args, below, meth, c, Qr1, Qx1, mc1, ms1, nL1⟩ := γ
  obtain ⟨hx, hb, hr, hml, hown, hts, hlk, hG2, hLow, hst, h0, rfl, rfl, rfl, rfl, rfl, rfl⟩ := hC
  have hG := hG2.1
  intro H locs lsA hR hS hl hE
  exact lv_dcmp hx hb dg (kk H locs lsA hR hS hl hE)

theorem Z_fcmp {G : Gt} {γ : Γt} {own : String} {cc : ByteArray} {ret : Option FieldType} {M : Mm} {pc : Nat} {ls : List (Option Value)} {st : List Value} {k n d mc ms : Nat} {Qr : Option Value → Mm → Prop} {E : Array Slot → Prop} {lh : Launch} {nL : Nat} {x y : UInt32} {op : CmpOp} (hC : Zok G γ own cc ret d mc ms Qr lh nL) (dg : decode cc pc = .ok (.fcmp op, 1)) (kk : JE G γ E M (pc + 1) ls (.int (Op.cmpValue (FP.fcmp x y) op) :: st) k n) : JE G γ E M pc ls (.float y :: .float x :: st) k n := by
  obtain ⟨p, l, e, R, s, m, args, below, meth, c, Qr1, Qx1, mc1, ms1, nL1⟩ := γ
  obtain ⟨hx, hb, hr, hml, hown, hts, hlk, hG2, hLow, hst, h0, rfl, rfl, rfl, rfl, rfl, rfl⟩ := hC
  have hG := hG2.1
  intro H locs lsA hR hS hl hE
  exact lv_fcmp hx hb dg (kk H locs lsA hR hS hl hE)

theorem Z_fload {G : Gt} {γ : Γt} {own : String} {cc : ByteArray} {ret : Option FieldType} {M : Mm} {pc : Nat} {ls : List (Option Value)} {st : List Value} {k n d mc ms : Nat} {Qr : Option Value → Mm → Prop} {E : Array Slot → Prop} {lh : Launch} {nL : Nat} {i : Nat} {x : UInt32} (hC : Zok G γ own cc ret d mc ms Qr lh nL) (dg : decode cc pc = .ok (.fload i, 2)) (hv : ls[i]? = some (some (.float x))) (kk : JE G γ E M (pc + 2) ls (.float x :: st) k n) : JE G γ E M pc ls st k n := by
  obtain ⟨p, l, e, R, s, m, args, below, meth, c, Qr1, Qx1, mc1, ms1, nL1⟩ := γ
  obtain ⟨hx, hb, hr, hml, hown, hts, hlk, hG2, hLow, hst, h0, rfl, rfl, rfl, rfl, rfl, rfl⟩ := hC
  have hG := hG2.1
  intro H locs lsA hR hS hl hE
  exact lv_fload hx hb dg (hl.at hv) (kk H locs lsA hR hS hl hE)

theorem Z_fstore {G : Gt} {γ : Γt} {own : String} {cc : ByteArray} {ret : Option FieldType} {M : Mm} {pc : Nat} {ls : List (Option Value)} {st : List Value} {k n d mc ms : Nat} {Qr : Option Value → Mm → Prop} {lh : Launch} {nL : Nat} {i : Nat} {x : UInt32} {ls1 : List (Option Value)} (hC : Zok G γ own cc ret d mc ms Qr lh nL) (dg : decode cc pc = .ok (.fstore i, 2)) (hn : i < nL) (hv : lset ls i (.float x) = ls1) (kk : JE G γ ET M (pc + 2) ls1 st k n) : JE G γ ET M pc ls (.float x :: st) k n := by
  obtain ⟨p, l, e, R, s, m, args, below, meth, c, Qr1, Qx1, mc1, ms1, nL1⟩ := γ
  obtain ⟨hx, hb, hr, hml, hown, hts, hlk, hG2, hLow, hst, h0, rfl, rfl, rfl, rfl, rfl, rfl⟩ := hC
  have hG := hG2.1
  intro H locs lsA hR hS hl hE
  subst hv
  exact lv_fstore hx hb dg hl.1 hn rfl (fun ls2 h2 => kk H locs ls2 hR hS (hl.store rfl h2) trivial)

theorem Z_astoreR_n {G : Gt} {γ : Γt} {own : String} {cc : ByteArray} {ret : Option FieldType} {M : Mm} {pc : Nat} {ls : List (Option Value)} {st : List Value} {k n d mc ms : Nat} {Qr : Option Value → Mm → Prop} {lh : Launch} {nL : Nat} {q : Fin 4} {i a : Nat} {ls1 : List (Option Value)} (hC : Zok G γ own cc ret d mc ms Qr lh nL) (dg : decode cc pc = .ok (.astore_n q, 1)) (hi : (q : Nat) = i) (hn : i < nL) (hv : lset ls i (.ref a) = ls1) (kk : JE G γ ET M (pc + 1) ls1 st k n) : JE G γ ET M pc ls (.ref a :: st) k n := by
  obtain ⟨p, l, e, R, s, m, args, below, meth, c, Qr1, Qx1, mc1, ms1, nL1⟩ := γ
  obtain ⟨hx, hb, hr, hml, hown, hts, hlk, hG2, hLow, hst, h0, rfl, rfl, rfl, rfl, rfl, rfl⟩ := hC
  have hG := hG2.1
  intro H locs lsA hR hS hl hE
  subst hv
  exact lv_astore_n hx hb dg hi hl.1 hn rfl (fun ls2 h2 => kk H locs ls2 hR hS (hl.store rfl h2) trivial)

theorem Z_astoreR {G : Gt} {γ : Γt} {own : String} {cc : ByteArray} {ret : Option FieldType} {M : Mm} {pc : Nat} {ls : List (Option Value)} {st : List Value} {k n d mc ms : Nat} {Qr : Option Value → Mm → Prop} {lh : Launch} {nL : Nat} {i a : Nat} {ls1 : List (Option Value)} (hC : Zok G γ own cc ret d mc ms Qr lh nL) (dg : decode cc pc = .ok (.astore i, 2)) (hn : i < nL) (hv : lset ls i (.ref a) = ls1) (kk : JE G γ ET M (pc + 2) ls1 st k n) : JE G γ ET M pc ls (.ref a :: st) k n := by
  obtain ⟨p, l, e, R, s, m, args, below, meth, c, Qr1, Qx1, mc1, ms1, nL1⟩ := γ
  obtain ⟨hx, hb, hr, hml, hown, hts, hlk, hG2, hLow, hst, h0, rfl, rfl, rfl, rfl, rfl, rfl⟩ := hC
  have hG := hG2.1
  intro H locs lsA hR hS hl hE
  subst hv
  exact lv_astore hx hb dg hl.1 hn rfl (fun ls2 h2 => kk H locs ls2 hR hS (hl.store rfl h2) trivial)

theorem Z_tableIn {G : Gt} {γ : Γt} {own : String} {cc : ByteArray} {ret : Option FieldType} {M : Mm} {pc : Nat} {ls : List (Option Value)} {st : List Value} {k n d mc ms : Nat} {Qr : Option Value → Mm → Prop} {E : Array Slot → Prop} {lh : Launch} {nL : Nat} {dflt lo hi : Int} {offs : Array Int} {len : Nat} {x : Int32} {off : Int} {tgt : Nat} (hC : Zok G γ own cc ret d mc ms Qr lh nL) (dg : decode cc pc = .ok (.tableswitch dflt lo hi offs, len)) (h1 : ¬ x.toInt < lo) (h2 : ¬ hi < x.toInt) (ho : offs[(x.toInt - lo).toNat]? = some off) (ht : (pc : Int) + off = (tgt : Int)) (kk : JE G γ E M tgt ls st k n) : JE G γ E M pc ls (.int x :: st) k n := by
  obtain ⟨p, l, e, R, s, m, args, below, meth, c, Qr1, Qx1, mc1, ms1, nL1⟩ := γ
  obtain ⟨hx, hb, hr, hml, hown, hts, hlk, hG2, hLow, hst, h0, rfl, rfl, rfl, rfl, rfl, rfl⟩ := hC
  have hG := hG2.1
  intro H locs lsA hR hS hl hE
  exact lv_tableIn hx hb dg h1 h2 ho ht (kk H locs lsA hR hS hl hE)

theorem Z_tableOut {G : Gt} {γ : Γt} {own : String} {cc : ByteArray} {ret : Option FieldType} {M : Mm} {pc : Nat} {ls : List (Option Value)} {st : List Value} {k n d mc ms : Nat} {Qr : Option Value → Mm → Prop} {E : Array Slot → Prop} {lh : Launch} {nL : Nat} {dflt lo hi : Int} {offs : Array Int} {len : Nat} {x : Int32} {tgt : Nat} (hC : Zok G γ own cc ret d mc ms Qr lh nL) (dg : decode cc pc = .ok (.tableswitch dflt lo hi offs, len)) (h1 : x.toInt < lo ∨ hi < x.toInt) (ht : (pc : Int) + dflt = (tgt : Int)) (kk : JE G γ E M tgt ls st k n) : JE G γ E M pc ls (.int x :: st) k n := by
  obtain ⟨p, l, e, R, s, m, args, below, meth, c, Qr1, Qx1, mc1, ms1, nL1⟩ := γ
  obtain ⟨hx, hb, hr, hml, hown, hts, hlk, hG2, hLow, hst, h0, rfl, rfl, rfl, rfl, rfl, rfl⟩ := hC
  have hG := hG2.1
  intro H locs lsA hR hS hl hE
  exact lv_tableOut hx hb dg h1 ht (kk H locs lsA hR hS hl hE)

theorem Z_dload {G : Gt} {γ : Γt} {own : String} {cc : ByteArray} {ret : Option FieldType} {M : Mm} {pc : Nat} {ls : List (Option Value)} {st : List Value} {k n d mc ms : Nat} {Qr : Option Value → Mm → Prop} {E : Array Slot → Prop} {lh : Launch} {nL : Nat} {i : Nat} {x : UInt64} (hC : Zok G γ own cc ret d mc ms Qr lh nL) (dg : decode cc pc = .ok (.dload i, 2)) (hv : ∀ lsA, E lsA → lsA[i]? = some (.val (.double x))) (kk : JE G γ E M (pc + 2) ls (.double x :: st) k n) : JE G γ E M pc ls st k n := by
  obtain ⟨p, l, e, R, s, m, args, below, meth, c, Qr1, Qx1, mc1, ms1, nL1⟩ := γ
  obtain ⟨hx, hb, hr, hml, hown, hts, hlk, hG2, hLow, hst, h0, rfl, rfl, rfl, rfl, rfl, rfl⟩ := hC
  have hG := hG2.1
  intro H locs lsA hR hS hl hE
  exact lv_dload hx hb dg (hv lsA hE) (kk H locs lsA hR hS hl hE)

theorem Z_forget {G : Gt} {γ : Γt} {own : String} {cc : ByteArray} {ret : Option FieldType} {M : Mm} {pc : Nat} {ls : List (Option Value)} {st : List Value} {k n d mc ms : Nat} {Qr : Option Value → Mm → Prop} {E : Array Slot → Prop} {lh : Launch} {nL : Nat} (kk : JE G γ ET M pc ls st k n) : JE G γ E M pc ls st k n := by
  obtain ⟨p, l, e, R, s, m, args, below, meth, c, Qr1, Qx1, mc1, ms1, nL1⟩ := γ
  intro H locs lsA hR hS hl hE
  exact kk H locs lsA hR hS hl trivial

theorem Z_dstore {G : Gt} {γ : Γt} {own : String} {cc : ByteArray} {ret : Option FieldType} {M : Mm} {pc : Nat} {ls : List (Option Value)} {st : List Value} {k n d mc ms : Nat} {Qr : Option Value → Mm → Prop} {lh : Launch} {nL : Nat} {i : Nat} {x : UInt64} (hC : Zok G γ own cc ret d mc ms Qr lh nL) (dg : decode cc pc = .ok (.dstore i, 2)) (hn : i + 1 < nL) (h0 : ls.length ≤ i) (kk : JE G γ (fun lsA => lsA[i]? = some (.val (.double x))) M (pc + 2) ls st k n) : JE G γ ET M pc ls (.double x :: st) k n := by
  obtain ⟨p, l, e, R, s, m, args, below, meth, c, Qr1, Qx1, mc1, ms1, nL1⟩ := γ
  obtain ⟨hx, hb, hr, hml, hown, hts, hlk, hG2, hLow, hst, h0, rfl, rfl, rfl, rfl, rfl, rfl⟩ := hC
  have hG := hG2.1
  intro H locs lsA hR hS hl hE
  refine lv_dstore hx hb dg hl.1 hn rfl (fun ls2 h2 => kk H locs ls2 hR hS ⟨⟨h2.1, h2.2.1, fun q hq => h2.2.2 q (List.mem_cons.mpr (Or.inr (List.mem_filter.mpr ⟨hq, ?_⟩)))⟩, hl.2⟩ (h2.2.2 _ List.mem_cons_self))
  obtain ⟨-, h3⟩ := (lsP_mem ls 0 q).mp hq
  have h4 : q.1 < ls.length := by
    rcases Nat.lt_or_ge q.1 ls.length with h | h
    · exact h
    · rw [List.getElem?_eq_none (by omega)] at h3; cases h3
  have h5 := hl.2 _ _ h3
  simp only [Bool.and_eq_true, Bool.not_eq_true', beq_eq_false_iff_ne, Bool.and_eq_false_iff]
  exact ⟨by omega, by omega, Or.inr (by rw [h5]; decide)⟩

theorem Z_iret {G : Gt} {γ : Γt} {own : String} {cc : ByteArray} {M : Mm} {pc : Nat} {ls : List (Option Value)} {k n d mc ms : Nat} {Qr : Option Value → Mm → Prop} {E : Array Slot → Prop} {lh : Launch} {nL : Nat} {v : Int32} (hC : Zok G γ own cc (some .int) d mc ms Qr lh nL) (hk : k ≤ mc) (hn : n ≤ ms) (dg : decode cc pc = .ok (.ireturn, 1)) (hq : Qr (some (.int v)) M) : JE G γ E M pc ls [.int v] k n := by
  obtain ⟨p, l, e, R, s, m, args, below, meth, c, Qr1, Qx1, mc1, ms1, nL1⟩ := γ
  obtain ⟨hx, hb, hr, hml, hown, hts, hlk, hG2, hLow, hst, h0, rfl, rfl, rfl, rfl, rfl, rfl⟩ := hC
  have hG := hG2.1
  intro H locs lsA hR hS hl hE
  exact W.widen hk hn (vx_ret (W.iret hx hb hr (fun t ht hW => ⟨by rw [ht]; exact hS.1, by rw [ht]; exact Low.of hLow hS, _, M, rfl, hq, by rw [ht]; exact hR⟩) hS.2.2 dg hlk))

theorem Z_zret {G : Gt} {γ : Γt} {own : String} {cc : ByteArray} {M : Mm} {pc : Nat} {ls : List (Option Value)} {k n d mc ms : Nat} {Qr : Option Value → Mm → Prop} {E : Array Slot → Prop} {lh : Launch} {nL : Nat} {v : Int32} {ty : FieldType} (hC : Zok G γ own cc (some ty) d mc ms Qr lh nL) (hk : k ≤ mc) (hn : n ≤ ms) (hnr : narrow ty (.int v) = .int v) (dg : decode cc pc = .ok (.ireturn, 1)) (hq : Qr (some (.int v)) M) : JE G γ E M pc ls [.int v] k n := by
  obtain ⟨p, l, e, R, s, m, args, below, meth, c, Qr1, Qx1, mc1, ms1, nL1⟩ := γ
  obtain ⟨hx, hb, hr, hml, hown, hts, hlk, hG2, hLow, hst, h0, rfl, rfl, rfl, rfl, rfl, rfl⟩ := hC
  have hG := hG2.1
  intro H locs lsA hR hS hl hE
  exact W.widen hk hn (vx_ret (W.zret hx hb hr hnr (fun t ht hW => ⟨by rw [ht]; exact hS.1, by rw [ht]; exact Low.of hLow hS, _, M, rfl, hq, by rw [ht]; exact hR⟩) hS.2.2 dg hlk))

