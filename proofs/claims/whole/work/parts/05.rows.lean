theorem J_iconst {G : Gt} {γ : Γt} {own : String} {cc : ByteArray} {ret : Option FieldType} {M : Mm} {pc : Nat} {ls : List (Option Value)} {st : List Value} {k n d mc ms : Nat} {Qr : Option Value → Mm → Prop} {Qx : String → Mm → Prop} {lh : Launch} {nL : Nat} {nm : String} {i : Int} {v : Int32} (hC : Cok G γ own cc ret d mc ms Qr Qx lh nL nm) (dg : decode cc pc = .ok (.iconst i, 1)) (hv : Int32.ofInt i = v) (kk : J G γ M (pc + 1) ls (.int v :: st) k n) : J G γ M pc ls (st) k n := by
  obtain ⟨p, l, e, R, s, m, args, below, meth, c, Qr1, Qx1, mc1, ms1, nL1⟩ := γ
  obtain ⟨hx, hb, hr, hml, hown, hts, hlk, hex, hG, hLow, hst, h0, rfl, rfl, rfl, rfl, rfl, rfl, rfl, hnm⟩ := hC
  intro H locs lsA hR hS hl
  exact lv_iconst hx hb dg hv (kk H locs lsA hR hS hl)

theorem J_bipush {G : Gt} {γ : Γt} {own : String} {cc : ByteArray} {ret : Option FieldType} {M : Mm} {pc : Nat} {ls : List (Option Value)} {st : List Value} {k n d mc ms : Nat} {Qr : Option Value → Mm → Prop} {Qx : String → Mm → Prop} {lh : Launch} {nL : Nat} {nm : String} {i : Int} {v : Int32} (hC : Cok G γ own cc ret d mc ms Qr Qx lh nL nm) (dg : decode cc pc = .ok (.bipush i, 2)) (hv : (Int8.ofInt i).toInt32 = v) (kk : J G γ M (pc + 2) ls (.int v :: st) k n) : J G γ M pc ls (st) k n := by
  obtain ⟨p, l, e, R, s, m, args, below, meth, c, Qr1, Qx1, mc1, ms1, nL1⟩ := γ
  obtain ⟨hx, hb, hr, hml, hown, hts, hlk, hex, hG, hLow, hst, h0, rfl, rfl, rfl, rfl, rfl, rfl, rfl, hnm⟩ := hC
  intro H locs lsA hR hS hl
  exact lv_bipush hx hb dg hv (kk H locs lsA hR hS hl)

theorem J_sipush {G : Gt} {γ : Γt} {own : String} {cc : ByteArray} {ret : Option FieldType} {M : Mm} {pc : Nat} {ls : List (Option Value)} {st : List Value} {k n d mc ms : Nat} {Qr : Option Value → Mm → Prop} {Qx : String → Mm → Prop} {lh : Launch} {nL : Nat} {nm : String} {i : Int} {v : Int32} (hC : Cok G γ own cc ret d mc ms Qr Qx lh nL nm) (dg : decode cc pc = .ok (.sipush i, 3)) (hv : (Int16.ofInt i).toInt32 = v) (kk : J G γ M (pc + 3) ls (.int v :: st) k n) : J G γ M pc ls (st) k n := by
  obtain ⟨p, l, e, R, s, m, args, below, meth, c, Qr1, Qx1, mc1, ms1, nL1⟩ := γ
  obtain ⟨hx, hb, hr, hml, hown, hts, hlk, hex, hG, hLow, hst, h0, rfl, rfl, rfl, rfl, rfl, rfl, rfl, hnm⟩ := hC
  intro H locs lsA hR hS hl
  exact lv_sipush hx hb dg hv (kk H locs lsA hR hS hl)

theorem J_null {G : Gt} {γ : Γt} {own : String} {cc : ByteArray} {ret : Option FieldType} {M : Mm} {pc : Nat} {ls : List (Option Value)} {st : List Value} {k n d mc ms : Nat} {Qr : Option Value → Mm → Prop} {Qx : String → Mm → Prop} {lh : Launch} {nL : Nat} {nm : String} (hC : Cok G γ own cc ret d mc ms Qr Qx lh nL nm) (dg : decode cc pc = .ok (.aconst_null, 1)) (kk : J G γ M (pc + 1) ls (rv 0 :: st) k n) : J G γ M pc ls (st) k n := by
  obtain ⟨p, l, e, R, s, m, args, below, meth, c, Qr1, Qx1, mc1, ms1, nL1⟩ := γ
  obtain ⟨hx, hb, hr, hml, hown, hts, hlk, hex, hG, hLow, hst, h0, rfl, rfl, rfl, rfl, rfl, rfl, rfl, hnm⟩ := hC
  intro H locs lsA hR hS hl
  exact lv_null hx hb dg (kk H locs lsA hR hS hl)

theorem J_fconst0 {G : Gt} {γ : Γt} {own : String} {cc : ByteArray} {ret : Option FieldType} {M : Mm} {pc : Nat} {ls : List (Option Value)} {st : List Value} {k n d mc ms : Nat} {Qr : Option Value → Mm → Prop} {Qx : String → Mm → Prop} {lh : Launch} {nL : Nat} {nm : String} (hC : Cok G γ own cc ret d mc ms Qr Qx lh nL nm) (dg : decode cc pc = .ok (.fconst 0, 1)) (kk : J G γ M (pc + 1) ls (.float 0 :: st) k n) : J G γ M pc ls (st) k n := by
  obtain ⟨p, l, e, R, s, m, args, below, meth, c, Qr1, Qx1, mc1, ms1, nL1⟩ := γ
  obtain ⟨hx, hb, hr, hml, hown, hts, hlk, hex, hG, hLow, hst, h0, rfl, rfl, rfl, rfl, rfl, rfl, rfl, hnm⟩ := hC
  intro H locs lsA hR hS hl
  exact lv_fconst0 hx hb dg (kk H locs lsA hR hS hl)

theorem J_dconst0 {G : Gt} {γ : Γt} {own : String} {cc : ByteArray} {ret : Option FieldType} {M : Mm} {pc : Nat} {ls : List (Option Value)} {st : List Value} {k n d mc ms : Nat} {Qr : Option Value → Mm → Prop} {Qx : String → Mm → Prop} {lh : Launch} {nL : Nat} {nm : String} (hC : Cok G γ own cc ret d mc ms Qr Qx lh nL nm) (dg : decode cc pc = .ok (.dconst 0, 1)) (kk : J G γ M (pc + 1) ls (.double 0 :: st) k n) : J G γ M pc ls (st) k n := by
  obtain ⟨p, l, e, R, s, m, args, below, meth, c, Qr1, Qx1, mc1, ms1, nL1⟩ := γ
  obtain ⟨hx, hb, hr, hml, hown, hts, hlk, hex, hG, hLow, hst, h0, rfl, rfl, rfl, rfl, rfl, rfl, rfl, hnm⟩ := hC
  intro H locs lsA hR hS hl
  exact lv_dconst0 hx hb dg (kk H locs lsA hR hS hl)

theorem J_iload_n {G : Gt} {γ : Γt} {own : String} {cc : ByteArray} {ret : Option FieldType} {M : Mm} {pc : Nat} {ls : List (Option Value)} {st : List Value} {k n d mc ms : Nat} {Qr : Option Value → Mm → Prop} {Qx : String → Mm → Prop} {lh : Launch} {nL : Nat} {nm : String} {q : Fin 4} {i : Nat} {x : Int32} (hC : Cok G γ own cc ret d mc ms Qr Qx lh nL nm) (dg : decode cc pc = .ok (.iload_n q, 1)) (hi : (q : Nat) = i) (hv : ls[i]? = some (some (.int x))) (kk : J G γ M (pc + 1) ls (.int x :: st) k n) : J G γ M pc ls (st) k n := by
  obtain ⟨p, l, e, R, s, m, args, below, meth, c, Qr1, Qx1, mc1, ms1, nL1⟩ := γ
  obtain ⟨hx, hb, hr, hml, hown, hts, hlk, hex, hG, hLow, hst, h0, rfl, rfl, rfl, rfl, rfl, rfl, rfl, hnm⟩ := hC
  intro H locs lsA hR hS hl
  exact lv_iload_n hx hb dg hi (hl.at hv) (kk H locs lsA hR hS hl)

theorem J_iload {G : Gt} {γ : Γt} {own : String} {cc : ByteArray} {ret : Option FieldType} {M : Mm} {pc : Nat} {ls : List (Option Value)} {st : List Value} {k n d mc ms : Nat} {Qr : Option Value → Mm → Prop} {Qx : String → Mm → Prop} {lh : Launch} {nL : Nat} {nm : String} {i : Nat} {x : Int32} (hC : Cok G γ own cc ret d mc ms Qr Qx lh nL nm) (dg : decode cc pc = .ok (.iload i, 2)) (hv : ls[i]? = some (some (.int x))) (kk : J G γ M (pc + 2) ls (.int x :: st) k n) : J G γ M pc ls (st) k n := by
  obtain ⟨p, l, e, R, s, m, args, below, meth, c, Qr1, Qx1, mc1, ms1, nL1⟩ := γ
  obtain ⟨hx, hb, hr, hml, hown, hts, hlk, hex, hG, hLow, hst, h0, rfl, rfl, rfl, rfl, rfl, rfl, rfl, hnm⟩ := hC
  intro H locs lsA hR hS hl
  exact lv_iload hx hb dg (hl.at hv) (kk H locs lsA hR hS hl)

theorem J_aload_n {G : Gt} {γ : Γt} {own : String} {cc : ByteArray} {ret : Option FieldType} {M : Mm} {pc : Nat} {ls : List (Option Value)} {st : List Value} {k n d mc ms : Nat} {Qr : Option Value → Mm → Prop} {Qx : String → Mm → Prop} {lh : Launch} {nL : Nat} {nm : String} {q : Fin 4} {i : Nat} {a : Nat} (hC : Cok G γ own cc ret d mc ms Qr Qx lh nL nm) (dg : decode cc pc = .ok (.aload_n q, 1)) (hi : (q : Nat) = i) (hv : ls[i]? = some (some (rv a))) (kk : J G γ M (pc + 1) ls (rv a :: st) k n) : J G γ M pc ls (st) k n := by
  obtain ⟨p, l, e, R, s, m, args, below, meth, c, Qr1, Qx1, mc1, ms1, nL1⟩ := γ
  obtain ⟨hx, hb, hr, hml, hown, hts, hlk, hex, hG, hLow, hst, h0, rfl, rfl, rfl, rfl, rfl, rfl, rfl, hnm⟩ := hC
  intro H locs lsA hR hS hl
  have k1 := kk H locs lsA hR hS hl
  have h1 := hl.at hv
  by_cases ha : a = 0
  · subst ha; exact lv_aload_nN hx hb dg hi h1 k1
  · rw [rv_pos ha] at h1 k1; exact lv_aload_n hx hb dg hi h1 k1

theorem J_aload {G : Gt} {γ : Γt} {own : String} {cc : ByteArray} {ret : Option FieldType} {M : Mm} {pc : Nat} {ls : List (Option Value)} {st : List Value} {k n d mc ms : Nat} {Qr : Option Value → Mm → Prop} {Qx : String → Mm → Prop} {lh : Launch} {nL : Nat} {nm : String} {i : Nat} {a : Nat} (hC : Cok G γ own cc ret d mc ms Qr Qx lh nL nm) (dg : decode cc pc = .ok (.aload i, 2)) (hv : ls[i]? = some (some (rv a))) (kk : J G γ M (pc + 2) ls (rv a :: st) k n) : J G γ M pc ls (st) k n := by
  obtain ⟨p, l, e, R, s, m, args, below, meth, c, Qr1, Qx1, mc1, ms1, nL1⟩ := γ
  obtain ⟨hx, hb, hr, hml, hown, hts, hlk, hex, hG, hLow, hst, h0, rfl, rfl, rfl, rfl, rfl, rfl, rfl, hnm⟩ := hC
  intro H locs lsA hR hS hl
  have k1 := kk H locs lsA hR hS hl
  have h1 := hl.at hv
  by_cases ha : a = 0
  · subst ha; exact lv_aloadN hx hb dg h1 k1
  · rw [rv_pos ha] at h1 k1; exact lv_aload hx hb dg h1 k1

theorem J_istore_n {G : Gt} {γ : Γt} {own : String} {cc : ByteArray} {ret : Option FieldType} {M : Mm} {pc : Nat} {ls : List (Option Value)} {st : List Value} {k n d mc ms : Nat} {Qr : Option Value → Mm → Prop} {Qx : String → Mm → Prop} {lh : Launch} {nL : Nat} {nm : String} {q : Fin 4} {i : Nat} {x : Int32} {ls1 : List (Option Value)} (hC : Cok G γ own cc ret d mc ms Qr Qx lh nL nm) (dg : decode cc pc = .ok (.istore_n q, 1)) (hi : (q : Nat) = i) (hn : i < nL) (hv : lset ls i (.int x) = ls1) (kk : J G γ M (pc + 1) ls1 st k n) : J G γ M pc ls (.int x :: st) k n := by
  obtain ⟨p, l, e, R, s, m, args, below, meth, c, Qr1, Qx1, mc1, ms1, nL1⟩ := γ
  obtain ⟨hx, hb, hr, hml, hown, hts, hlk, hex, hG, hLow, hst, h0, rfl, rfl, rfl, rfl, rfl, rfl, rfl, hnm⟩ := hC
  intro H locs lsA hR hS hl
  subst hv
  exact lv_istore_n hx hb dg hi hl.1 hn rfl (fun ls2 h2 => kk H locs ls2 hR hS (hl.store rfl h2))

theorem J_istore {G : Gt} {γ : Γt} {own : String} {cc : ByteArray} {ret : Option FieldType} {M : Mm} {pc : Nat} {ls : List (Option Value)} {st : List Value} {k n d mc ms : Nat} {Qr : Option Value → Mm → Prop} {Qx : String → Mm → Prop} {lh : Launch} {nL : Nat} {nm : String} {i : Nat} {x : Int32} {ls1 : List (Option Value)} (hC : Cok G γ own cc ret d mc ms Qr Qx lh nL nm) (dg : decode cc pc = .ok (.istore i, 2)) (hn : i < nL) (hv : lset ls i (.int x) = ls1) (kk : J G γ M (pc + 2) ls1 st k n) : J G γ M pc ls (.int x :: st) k n := by
  obtain ⟨p, l, e, R, s, m, args, below, meth, c, Qr1, Qx1, mc1, ms1, nL1⟩ := γ
  obtain ⟨hx, hb, hr, hml, hown, hts, hlk, hex, hG, hLow, hst, h0, rfl, rfl, rfl, rfl, rfl, rfl, rfl, hnm⟩ := hC
  intro H locs lsA hR hS hl
  subst hv
  exact lv_istore hx hb dg hl.1 hn rfl (fun ls2 h2 => kk H locs ls2 hR hS (hl.store rfl h2))

theorem J_astore_n {G : Gt} {γ : Γt} {own : String} {cc : ByteArray} {ret : Option FieldType} {M : Mm} {pc : Nat} {ls : List (Option Value)} {st : List Value} {k n d mc ms : Nat} {Qr : Option Value → Mm → Prop} {Qx : String → Mm → Prop} {lh : Launch} {nL : Nat} {nm : String} {q : Fin 4} {i : Nat} {a : Nat} {ls1 : List (Option Value)} (hC : Cok G γ own cc ret d mc ms Qr Qx lh nL nm) (dg : decode cc pc = .ok (.astore_n q, 1)) (hi : (q : Nat) = i) (hn : i < nL) (hv : lset ls i (rv a) = ls1) (kk : J G γ M (pc + 1) ls1 st k n) : J G γ M pc ls (rv a :: st) k n := by
  obtain ⟨p, l, e, R, s, m, args, below, meth, c, Qr1, Qx1, mc1, ms1, nL1⟩ := γ
  obtain ⟨hx, hb, hr, hml, hown, hts, hlk, hex, hG, hLow, hst, h0, rfl, rfl, rfl, rfl, rfl, rfl, rfl, hnm⟩ := hC
  intro H locs lsA hR hS hl
  subst hv
  by_cases ha : a = 0
  · subst ha
    exact lv_astore_nN hx hb dg hi hl.1 hn rfl (fun ls2 h2 => kk H locs ls2 hR hS (hl.store rfl h2))
  · rw [rv_pos ha] at kk ⊢
    exact lv_astore_n hx hb dg hi hl.1 hn rfl (fun ls2 h2 => kk H locs ls2 hR hS (hl.store rfl h2))

theorem J_astore {G : Gt} {γ : Γt} {own : String} {cc : ByteArray} {ret : Option FieldType} {M : Mm} {pc : Nat} {ls : List (Option Value)} {st : List Value} {k n d mc ms : Nat} {Qr : Option Value → Mm → Prop} {Qx : String → Mm → Prop} {lh : Launch} {nL : Nat} {nm : String} {i : Nat} {a : Nat} {ls1 : List (Option Value)} (hC : Cok G γ own cc ret d mc ms Qr Qx lh nL nm) (dg : decode cc pc = .ok (.astore i, 2)) (hn : i < nL) (hv : lset ls i (rv a) = ls1) (kk : J G γ M (pc + 2) ls1 st k n) : J G γ M pc ls (rv a :: st) k n := by
  obtain ⟨p, l, e, R, s, m, args, below, meth, c, Qr1, Qx1, mc1, ms1, nL1⟩ := γ
  obtain ⟨hx, hb, hr, hml, hown, hts, hlk, hex, hG, hLow, hst, h0, rfl, rfl, rfl, rfl, rfl, rfl, rfl, hnm⟩ := hC
  intro H locs lsA hR hS hl
  subst hv
  by_cases ha : a = 0
  · subst ha
    exact lv_astoreN hx hb dg hl.1 hn rfl (fun ls2 h2 => kk H locs ls2 hR hS (hl.store rfl h2))
  · rw [rv_pos ha] at kk ⊢
    exact lv_astore hx hb dg hl.1 hn rfl (fun ls2 h2 => kk H locs ls2 hR hS (hl.store rfl h2))

theorem J_iinc {G : Gt} {γ : Γt} {own : String} {cc : ByteArray} {ret : Option FieldType} {M : Mm} {pc : Nat} {ls : List (Option Value)} {st : List Value} {k n d mc ms : Nat} {Qr : Option Value → Mm → Prop} {Qx : String → Mm → Prop} {lh : Launch} {nL : Nat} {nm : String} {i : Nat} {j : Int} {x v : Int32} {ls1 : List (Option Value)} (hC : Cok G γ own cc ret d mc ms Qr Qx lh nL nm) (dg : decode cc pc = .ok (.iinc i j, 3)) (hn : i < nL) (hi : ls[i]? = some (some (.int x))) (hj : x + Int32.ofInt j = v) (hv : lset ls i (.int v) = ls1) (kk : J G γ M (pc + 3) ls1 st k n) : J G γ M pc ls (st) k n := by
  obtain ⟨p, l, e, R, s, m, args, below, meth, c, Qr1, Qx1, mc1, ms1, nL1⟩ := γ
  obtain ⟨hx, hb, hr, hml, hown, hts, hlk, hex, hG, hLow, hst, h0, rfl, rfl, rfl, rfl, rfl, rfl, rfl, hnm⟩ := hC
  intro H locs lsA hR hS hl
  subst hv
  obtain ⟨q, hq⟩ := List.getElem?_of_mem ((lsP_mem ls 0 (i, .int x)).mpr ⟨Nat.zero_le _, by simpa using hi⟩)
  exact lv_iinc hx hb dg hl.1 hq hj hn rfl (fun ls2 h2 => kk H locs ls2 hR hS (hl.store rfl h2))

theorem J_iadd {G : Gt} {γ : Γt} {own : String} {cc : ByteArray} {ret : Option FieldType} {M : Mm} {pc : Nat} {ls : List (Option Value)} {st : List Value} {k n d mc ms : Nat} {Qr : Option Value → Mm → Prop} {Qx : String → Mm → Prop} {lh : Launch} {nL : Nat} {nm : String} {x y : Int32} (hC : Cok G γ own cc ret d mc ms Qr Qx lh nL nm) (dg : decode cc pc = .ok (.iadd, 1)) (kk : J G γ M (pc + 1) ls (.int (x + y) :: st) k n) : J G γ M pc ls (.int y :: .int x :: st) k n := by
  obtain ⟨p, l, e, R, s, m, args, below, meth, c, Qr1, Qx1, mc1, ms1, nL1⟩ := γ
  obtain ⟨hx, hb, hr, hml, hown, hts, hlk, hex, hG, hLow, hst, h0, rfl, rfl, rfl, rfl, rfl, rfl, rfl, hnm⟩ := hC
  intro H locs lsA hR hS hl
  exact lv_iadd hx hb dg (kk H locs lsA hR hS hl)

theorem J_isub {G : Gt} {γ : Γt} {own : String} {cc : ByteArray} {ret : Option FieldType} {M : Mm} {pc : Nat} {ls : List (Option Value)} {st : List Value} {k n d mc ms : Nat} {Qr : Option Value → Mm → Prop} {Qx : String → Mm → Prop} {lh : Launch} {nL : Nat} {nm : String} {x y : Int32} (hC : Cok G γ own cc ret d mc ms Qr Qx lh nL nm) (dg : decode cc pc = .ok (.isub, 1)) (kk : J G γ M (pc + 1) ls (.int (x - y) :: st) k n) : J G γ M pc ls (.int y :: .int x :: st) k n := by
  obtain ⟨p, l, e, R, s, m, args, below, meth, c, Qr1, Qx1, mc1, ms1, nL1⟩ := γ
  obtain ⟨hx, hb, hr, hml, hown, hts, hlk, hex, hG, hLow, hst, h0, rfl, rfl, rfl, rfl, rfl, rfl, rfl, hnm⟩ := hC
  intro H locs lsA hR hS hl
  exact lv_isub hx hb dg (kk H locs lsA hR hS hl)

theorem J_imul {G : Gt} {γ : Γt} {own : String} {cc : ByteArray} {ret : Option FieldType} {M : Mm} {pc : Nat} {ls : List (Option Value)} {st : List Value} {k n d mc ms : Nat} {Qr : Option Value → Mm → Prop} {Qx : String → Mm → Prop} {lh : Launch} {nL : Nat} {nm : String} {x y : Int32} (hC : Cok G γ own cc ret d mc ms Qr Qx lh nL nm) (dg : decode cc pc = .ok (.imul, 1)) (kk : J G γ M (pc + 1) ls (.int (x * y) :: st) k n) : J G γ M pc ls (.int y :: .int x :: st) k n := by
  obtain ⟨p, l, e, R, s, m, args, below, meth, c, Qr1, Qx1, mc1, ms1, nL1⟩ := γ
  obtain ⟨hx, hb, hr, hml, hown, hts, hlk, hex, hG, hLow, hst, h0, rfl, rfl, rfl, rfl, rfl, rfl, rfl, hnm⟩ := hC
  intro H locs lsA hR hS hl
  exact lv_imul hx hb dg (kk H locs lsA hR hS hl)

theorem J_iand {G : Gt} {γ : Γt} {own : String} {cc : ByteArray} {ret : Option FieldType} {M : Mm} {pc : Nat} {ls : List (Option Value)} {st : List Value} {k n d mc ms : Nat} {Qr : Option Value → Mm → Prop} {Qx : String → Mm → Prop} {lh : Launch} {nL : Nat} {nm : String} {x y : Int32} (hC : Cok G γ own cc ret d mc ms Qr Qx lh nL nm) (dg : decode cc pc = .ok (.iand, 1)) (kk : J G γ M (pc + 1) ls (.int (x &&& y) :: st) k n) : J G γ M pc ls (.int y :: .int x :: st) k n := by
  obtain ⟨p, l, e, R, s, m, args, below, meth, c, Qr1, Qx1, mc1, ms1, nL1⟩ := γ
  obtain ⟨hx, hb, hr, hml, hown, hts, hlk, hex, hG, hLow, hst, h0, rfl, rfl, rfl, rfl, rfl, rfl, rfl, hnm⟩ := hC
  intro H locs lsA hR hS hl
  exact lv_iand hx hb dg (kk H locs lsA hR hS hl)

theorem J_idiv {G : Gt} {γ : Γt} {own : String} {cc : ByteArray} {ret : Option FieldType} {M : Mm} {pc : Nat} {ls : List (Option Value)} {st : List Value} {k n d mc ms : Nat} {Qr : Option Value → Mm → Prop} {Qx : String → Mm → Prop} {lh : Launch} {nL : Nat} {nm : String} {x y : Int32} (hC : Cok G γ own cc ret d mc ms Qr Qx lh nL nm) (dg : decode cc pc = .ok (.idiv, 1)) (hy : ¬ y = 0) (kk : J G γ M (pc + 1) ls (.int (x / y) :: st) k n) : J G γ M pc ls (.int y :: .int x :: st) k n := by
  obtain ⟨p, l, e, R, s, m, args, below, meth, c, Qr1, Qx1, mc1, ms1, nL1⟩ := γ
  obtain ⟨hx, hb, hr, hml, hown, hts, hlk, hex, hG, hLow, hst, h0, rfl, rfl, rfl, rfl, rfl, rfl, rfl, hnm⟩ := hC
  intro H locs lsA hR hS hl
  exact lv_idiv hx hb dg hy (kk H locs lsA hR hS hl)

theorem J_ineg {G : Gt} {γ : Γt} {own : String} {cc : ByteArray} {ret : Option FieldType} {M : Mm} {pc : Nat} {ls : List (Option Value)} {st : List Value} {k n d mc ms : Nat} {Qr : Option Value → Mm → Prop} {Qx : String → Mm → Prop} {lh : Launch} {nL : Nat} {nm : String} {x : Int32} (hC : Cok G γ own cc ret d mc ms Qr Qx lh nL nm) (dg : decode cc pc = .ok (.ineg, 1)) (kk : J G γ M (pc + 1) ls (.int (-x) :: st) k n) : J G γ M pc ls (.int x :: st) k n := by
  obtain ⟨p, l, e, R, s, m, args, below, meth, c, Qr1, Qx1, mc1, ms1, nL1⟩ := γ
  obtain ⟨hx, hb, hr, hml, hown, hts, hlk, hex, hG, hLow, hst, h0, rfl, rfl, rfl, rfl, rfl, rfl, rfl, hnm⟩ := hC
  intro H locs lsA hR hS hl
  exact lv_ineg hx hb dg (kk H locs lsA hR hS hl)

theorem J_i2c {G : Gt} {γ : Γt} {own : String} {cc : ByteArray} {ret : Option FieldType} {M : Mm} {pc : Nat} {ls : List (Option Value)} {st : List Value} {k n d mc ms : Nat} {Qr : Option Value → Mm → Prop} {Qx : String → Mm → Prop} {lh : Launch} {nL : Nat} {nm : String} {x v : Int32} (hC : Cok G γ own cc ret d mc ms Qr Qx lh nL nm) (dg : decode cc pc = .ok (.i2c, 1)) (hv : (x.toUInt32 % 65536).toInt32 = v) (kk : J G γ M (pc + 1) ls (.int v :: st) k n) : J G γ M pc ls (.int x :: st) k n := by
  obtain ⟨p, l, e, R, s, m, args, below, meth, c, Qr1, Qx1, mc1, ms1, nL1⟩ := γ
  obtain ⟨hx, hb, hr, hml, hown, hts, hlk, hex, hG, hLow, hst, h0, rfl, rfl, rfl, rfl, rfl, rfl, rfl, hnm⟩ := hC
  intro H locs lsA hR hS hl
  exact lv_i2c hx hb dg hv (kk H locs lsA hR hS hl)

theorem J_i2l {G : Gt} {γ : Γt} {own : String} {cc : ByteArray} {ret : Option FieldType} {M : Mm} {pc : Nat} {ls : List (Option Value)} {st : List Value} {k n d mc ms : Nat} {Qr : Option Value → Mm → Prop} {Qx : String → Mm → Prop} {lh : Launch} {nL : Nat} {nm : String} {x : Int32} (hC : Cok G γ own cc ret d mc ms Qr Qx lh nL nm) (dg : decode cc pc = .ok (.i2l, 1)) (kk : J G γ M (pc + 1) ls (.long x.toInt64 :: st) k n) : J G γ M pc ls (.int x :: st) k n := by
  obtain ⟨p, l, e, R, s, m, args, below, meth, c, Qr1, Qx1, mc1, ms1, nL1⟩ := γ
  obtain ⟨hx, hb, hr, hml, hown, hts, hlk, hex, hG, hLow, hst, h0, rfl, rfl, rfl, rfl, rfl, rfl, rfl, hnm⟩ := hC
  intro H locs lsA hR hS hl
  exact lv_i2l hx hb dg rfl (kk H locs lsA hR hS hl)

theorem J_ladd {G : Gt} {γ : Γt} {own : String} {cc : ByteArray} {ret : Option FieldType} {M : Mm} {pc : Nat} {ls : List (Option Value)} {st : List Value} {k n d mc ms : Nat} {Qr : Option Value → Mm → Prop} {Qx : String → Mm → Prop} {lh : Launch} {nL : Nat} {nm : String} {x y : Int64} (hC : Cok G γ own cc ret d mc ms Qr Qx lh nL nm) (dg : decode cc pc = .ok (.ladd, 1)) (kk : J G γ M (pc + 1) ls (.long (x + y) :: st) k n) : J G γ M pc ls (.long y :: .long x :: st) k n := by
  obtain ⟨p, l, e, R, s, m, args, below, meth, c, Qr1, Qx1, mc1, ms1, nL1⟩ := γ
  obtain ⟨hx, hb, hr, hml, hown, hts, hlk, hex, hG, hLow, hst, h0, rfl, rfl, rfl, rfl, rfl, rfl, rfl, hnm⟩ := hC
  intro H locs lsA hR hS hl
  exact lv_ladd hx hb dg (kk H locs lsA hR hS hl)

theorem J_i2f {G : Gt} {γ : Γt} {own : String} {cc : ByteArray} {ret : Option FieldType} {M : Mm} {pc : Nat} {ls : List (Option Value)} {st : List Value} {k n d mc ms : Nat} {Qr : Option Value → Mm → Prop} {Qx : String → Mm → Prop} {lh : Launch} {nL : Nat} {nm : String} {x : Int32} (hC : Cok G γ own cc ret d mc ms Qr Qx lh nL nm) (dg : decode cc pc = .ok (.i2f, 1)) (kk : J G γ M (pc + 1) ls (.float (FP.i2f x) :: st) k n) : J G γ M pc ls (.int x :: st) k n := by
  obtain ⟨p, l, e, R, s, m, args, below, meth, c, Qr1, Qx1, mc1, ms1, nL1⟩ := γ
  obtain ⟨hx, hb, hr, hml, hown, hts, hlk, hex, hG, hLow, hst, h0, rfl, rfl, rfl, rfl, rfl, rfl, rfl, hnm⟩ := hC
  intro H locs lsA hR hS hl
  exact lv_i2f hx hb dg (kk H locs lsA hR hS hl)

theorem J_i2d {G : Gt} {γ : Γt} {own : String} {cc : ByteArray} {ret : Option FieldType} {M : Mm} {pc : Nat} {ls : List (Option Value)} {st : List Value} {k n d mc ms : Nat} {Qr : Option Value → Mm → Prop} {Qx : String → Mm → Prop} {lh : Launch} {nL : Nat} {nm : String} {x : Int32} (hC : Cok G γ own cc ret d mc ms Qr Qx lh nL nm) (dg : decode cc pc = .ok (.i2d, 1)) (kk : J G γ M (pc + 1) ls (.double (FP.i2d x) :: st) k n) : J G γ M pc ls (.int x :: st) k n := by
  obtain ⟨p, l, e, R, s, m, args, below, meth, c, Qr1, Qx1, mc1, ms1, nL1⟩ := γ
  obtain ⟨hx, hb, hr, hml, hown, hts, hlk, hex, hG, hLow, hst, h0, rfl, rfl, rfl, rfl, rfl, rfl, rfl, hnm⟩ := hC
  intro H locs lsA hR hS hl
  exact lv_i2d hx hb dg (kk H locs lsA hR hS hl)

theorem J_fdiv {G : Gt} {γ : Γt} {own : String} {cc : ByteArray} {ret : Option FieldType} {M : Mm} {pc : Nat} {ls : List (Option Value)} {st : List Value} {k n d mc ms : Nat} {Qr : Option Value → Mm → Prop} {Qx : String → Mm → Prop} {lh : Launch} {nL : Nat} {nm : String} {x y : UInt32} (hC : Cok G γ own cc ret d mc ms Qr Qx lh nL nm) (dg : decode cc pc = .ok (.fdiv, 1)) (hne : vf_n32 (FP.fdiv x y)) (kk : J G γ M (pc + 1) ls (.float (FP.fdiv x y) :: st) k n) : J G γ M pc ls (.float y :: .float x :: st) k n := by
  obtain ⟨p, l, e, R, s, m, args, below, meth, c, Qr1, Qx1, mc1, ms1, nL1⟩ := γ
  obtain ⟨hx, hb, hr, hml, hown, hts, hlk, hex, hG, hLow, hst, h0, rfl, rfl, rfl, rfl, rfl, rfl, rfl, hnm⟩ := hC
  intro H locs lsA hR hS hl
  exact lv_fdiv hx hb dg hne (kk H locs lsA hR hS hl)

theorem J_ddiv {G : Gt} {γ : Γt} {own : String} {cc : ByteArray} {ret : Option FieldType} {M : Mm} {pc : Nat} {ls : List (Option Value)} {st : List Value} {k n d mc ms : Nat} {Qr : Option Value → Mm → Prop} {Qx : String → Mm → Prop} {lh : Launch} {nL : Nat} {nm : String} {x y : UInt64} (hC : Cok G γ own cc ret d mc ms Qr Qx lh nL nm) (dg : decode cc pc = .ok (.ddiv, 1)) (hne : vf_n64 (FP.ddiv x y)) (kk : J G γ M (pc + 1) ls (.double (FP.ddiv x y) :: st) k n) : J G γ M pc ls (.double y :: .double x :: st) k n := by
  obtain ⟨p, l, e, R, s, m, args, below, meth, c, Qr1, Qx1, mc1, ms1, nL1⟩ := γ
  obtain ⟨hx, hb, hr, hml, hown, hts, hlk, hex, hG, hLow, hst, h0, rfl, rfl, rfl, rfl, rfl, rfl, rfl, hnm⟩ := hC
  intro H locs lsA hR hS hl
  exact lv_ddiv hx hb dg hne (kk H locs lsA hR hS hl)

theorem J_f2d {G : Gt} {γ : Γt} {own : String} {cc : ByteArray} {ret : Option FieldType} {M : Mm} {pc : Nat} {ls : List (Option Value)} {st : List Value} {k n d mc ms : Nat} {Qr : Option Value → Mm → Prop} {Qx : String → Mm → Prop} {lh : Launch} {nL : Nat} {nm : String} {x : UInt32} (hC : Cok G γ own cc ret d mc ms Qr Qx lh nL nm) (dg : decode cc pc = .ok (.f2d, 1)) (hne : vf_n64 (FP.f2d x)) (kk : J G γ M (pc + 1) ls (.double (FP.f2d x) :: st) k n) : J G γ M pc ls (.float x :: st) k n := by
  obtain ⟨p, l, e, R, s, m, args, below, meth, c, Qr1, Qx1, mc1, ms1, nL1⟩ := γ
  obtain ⟨hx, hb, hr, hml, hown, hts, hlk, hex, hG, hLow, hst, h0, rfl, rfl, rfl, rfl, rfl, rfl, rfl, hnm⟩ := hC
  intro H locs lsA hR hS hl
  exact lv_f2d hx hb dg hne (kk H locs lsA hR hS hl)

theorem J_dup {G : Gt} {γ : Γt} {own : String} {cc : ByteArray} {ret : Option FieldType} {M : Mm} {pc : Nat} {ls : List (Option Value)} {st : List Value} {k n d mc ms : Nat} {Qr : Option Value → Mm → Prop} {Qx : String → Mm → Prop} {lh : Launch} {nL : Nat} {nm : String} {v : Value} (hC : Cok G γ own cc ret d mc ms Qr Qx lh nL nm) (dg : decode cc pc = .ok (.dup, 1)) (hv : v.category = 1) (kk : J G γ M (pc + 1) ls (v :: v :: st) k n) : J G γ M pc ls (v :: st) k n := by
  obtain ⟨p, l, e, R, s, m, args, below, meth, c, Qr1, Qx1, mc1, ms1, nL1⟩ := γ
  obtain ⟨hx, hb, hr, hml, hown, hts, hlk, hex, hG, hLow, hst, h0, rfl, rfl, rfl, rfl, rfl, rfl, rfl, hnm⟩ := hC
  intro H locs lsA hR hS hl
  exact lv_dup hx hb dg hv (kk H locs lsA hR hS hl)

theorem J_pop {G : Gt} {γ : Γt} {own : String} {cc : ByteArray} {ret : Option FieldType} {M : Mm} {pc : Nat} {ls : List (Option Value)} {st : List Value} {k n d mc ms : Nat} {Qr : Option Value → Mm → Prop} {Qx : String → Mm → Prop} {lh : Launch} {nL : Nat} {nm : String} {v : Value} (hC : Cok G γ own cc ret d mc ms Qr Qx lh nL nm) (dg : decode cc pc = .ok (.pop, 1)) (hv : v.category = 1) (kk : J G γ M (pc + 1) ls (st) k n) : J G γ M pc ls (v :: st) k n := by
  obtain ⟨p, l, e, R, s, m, args, below, meth, c, Qr1, Qx1, mc1, ms1, nL1⟩ := γ
  obtain ⟨hx, hb, hr, hml, hown, hts, hlk, hex, hG, hLow, hst, h0, rfl, rfl, rfl, rfl, rfl, rfl, rfl, hnm⟩ := hC
  intro H locs lsA hR hS hl
  exact lv_pop hx hb dg hv (kk H locs lsA hR hS hl)

theorem J_dup2 {G : Gt} {γ : Γt} {own : String} {cc : ByteArray} {ret : Option FieldType} {M : Mm} {pc : Nat} {ls : List (Option Value)} {st : List Value} {k n d mc ms : Nat} {Qr : Option Value → Mm → Prop} {Qx : String → Mm → Prop} {lh : Launch} {nL : Nat} {nm : String} {v w : Value} (hC : Cok G γ own cc ret d mc ms Qr Qx lh nL nm) (dg : decode cc pc = .ok (.dup2, 1)) (hv : v.category = 1) (hw : w.category = 1) (kk : J G γ M (pc + 1) ls (v :: w :: v :: w :: st) k n) : J G γ M pc ls (v :: w :: st) k n := by
  obtain ⟨p, l, e, R, s, m, args, below, meth, c, Qr1, Qx1, mc1, ms1, nL1⟩ := γ
  obtain ⟨hx, hb, hr, hml, hown, hts, hlk, hex, hG, hLow, hst, h0, rfl, rfl, rfl, rfl, rfl, rfl, rfl, hnm⟩ := hC
  intro H locs lsA hR hS hl
  exact lv_dup2_11 hx hb dg hv hw (kk H locs lsA hR hS hl)

theorem J_if_eq {G : Gt} {γ : Γt} {own : String} {cc : ByteArray} {ret : Option FieldType} {M : Mm} {pc : Nat} {ls : List (Option Value)} {st : List Value} {k n d mc ms : Nat} {Qr : Option Value → Mm → Prop} {Qx : String → Mm → Prop} {lh : Launch} {nL : Nat} {nm : String} {x : Int32} {off : Int} {tgt : Nat} (hC : Cok G γ own cc ret d mc ms Qr Qx lh nL nm) (dg : decode cc pc = .ok (.ifCond .eq off, 3)) (ht : (pc : Int) + off = (tgt : Int)) (kt : x = 0 → J G γ M tgt ls st k n) (kf : ¬ (x = 0) → J G γ M (pc + 3) ls st k n) : J G γ M pc ls (.int x :: st) k n := by
  obtain ⟨p, l, e, R, s, m, args, below, meth, c, Qr1, Qx1, mc1, ms1, nL1⟩ := γ
  obtain ⟨hx, hb, hr, hml, hown, hts, hlk, hex, hG, hLow, hst, h0, rfl, rfl, rfl, rfl, rfl, rfl, rfl, hnm⟩ := hC
  intro H locs lsA hR hS hl
  exact lv_if_eq hx hb dg ht (fun h => kt (by first | exact h | omega | (simpa using h)) H locs lsA hR hS hl) (fun h => kf (by first | exact h | (simpa using h)) H locs lsA hR hS hl)

theorem J_if_ne {G : Gt} {γ : Γt} {own : String} {cc : ByteArray} {ret : Option FieldType} {M : Mm} {pc : Nat} {ls : List (Option Value)} {st : List Value} {k n d mc ms : Nat} {Qr : Option Value → Mm → Prop} {Qx : String → Mm → Prop} {lh : Launch} {nL : Nat} {nm : String} {x : Int32} {off : Int} {tgt : Nat} (hC : Cok G γ own cc ret d mc ms Qr Qx lh nL nm) (dg : decode cc pc = .ok (.ifCond .ne off, 3)) (ht : (pc : Int) + off = (tgt : Int)) (kt : ¬ x = 0 → J G γ M tgt ls st k n) (kf : ¬ (¬ x = 0) → J G γ M (pc + 3) ls st k n) : J G γ M pc ls (.int x :: st) k n := by
  obtain ⟨p, l, e, R, s, m, args, below, meth, c, Qr1, Qx1, mc1, ms1, nL1⟩ := γ
  obtain ⟨hx, hb, hr, hml, hown, hts, hlk, hex, hG, hLow, hst, h0, rfl, rfl, rfl, rfl, rfl, rfl, rfl, hnm⟩ := hC
  intro H locs lsA hR hS hl
  exact lv_if_ne hx hb dg ht (fun h => kt (by first | exact h | omega | (simpa using h)) H locs lsA hR hS hl) (fun h => kf (by first | exact h | (simpa using h)) H locs lsA hR hS hl)

theorem J_if_lt {G : Gt} {γ : Γt} {own : String} {cc : ByteArray} {ret : Option FieldType} {M : Mm} {pc : Nat} {ls : List (Option Value)} {st : List Value} {k n d mc ms : Nat} {Qr : Option Value → Mm → Prop} {Qx : String → Mm → Prop} {lh : Launch} {nL : Nat} {nm : String} {x : Int32} {off : Int} {tgt : Nat} (hC : Cok G γ own cc ret d mc ms Qr Qx lh nL nm) (dg : decode cc pc = .ok (.ifCond .lt off, 3)) (ht : (pc : Int) + off = (tgt : Int)) (kt : x < 0 → J G γ M tgt ls st k n) (kf : ¬ (x < 0) → J G γ M (pc + 3) ls st k n) : J G γ M pc ls (.int x :: st) k n := by
  obtain ⟨p, l, e, R, s, m, args, below, meth, c, Qr1, Qx1, mc1, ms1, nL1⟩ := γ
  obtain ⟨hx, hb, hr, hml, hown, hts, hlk, hex, hG, hLow, hst, h0, rfl, rfl, rfl, rfl, rfl, rfl, rfl, hnm⟩ := hC
  intro H locs lsA hR hS hl
  exact lv_if_lt hx hb dg ht (fun h => kt (by first | exact h | omega | (simpa using h)) H locs lsA hR hS hl) (fun h => kf (by first | exact h | (simpa using h)) H locs lsA hR hS hl)

theorem J_if_le {G : Gt} {γ : Γt} {own : String} {cc : ByteArray} {ret : Option FieldType} {M : Mm} {pc : Nat} {ls : List (Option Value)} {st : List Value} {k n d mc ms : Nat} {Qr : Option Value → Mm → Prop} {Qx : String → Mm → Prop} {lh : Launch} {nL : Nat} {nm : String} {x : Int32} {off : Int} {tgt : Nat} (hC : Cok G γ own cc ret d mc ms Qr Qx lh nL nm) (dg : decode cc pc = .ok (.ifCond .le off, 3)) (ht : (pc : Int) + off = (tgt : Int)) (kt : x ≤ 0 → J G γ M tgt ls st k n) (kf : ¬ (x ≤ 0) → J G γ M (pc + 3) ls st k n) : J G γ M pc ls (.int x :: st) k n := by
  obtain ⟨p, l, e, R, s, m, args, below, meth, c, Qr1, Qx1, mc1, ms1, nL1⟩ := γ
  obtain ⟨hx, hb, hr, hml, hown, hts, hlk, hex, hG, hLow, hst, h0, rfl, rfl, rfl, rfl, rfl, rfl, rfl, hnm⟩ := hC
  intro H locs lsA hR hS hl
  exact lv_if_le hx hb dg ht (fun h => kt (by first | exact h | omega | (simpa using h)) H locs lsA hR hS hl) (fun h => kf (by first | exact h | (simpa using h)) H locs lsA hR hS hl)

theorem J_if_gt {G : Gt} {γ : Γt} {own : String} {cc : ByteArray} {ret : Option FieldType} {M : Mm} {pc : Nat} {ls : List (Option Value)} {st : List Value} {k n d mc ms : Nat} {Qr : Option Value → Mm → Prop} {Qx : String → Mm → Prop} {lh : Launch} {nL : Nat} {nm : String} {x : Int32} {off : Int} {tgt : Nat} (hC : Cok G γ own cc ret d mc ms Qr Qx lh nL nm) (dg : decode cc pc = .ok (.ifCond .gt off, 3)) (ht : (pc : Int) + off = (tgt : Int)) (kt : 0 < x → J G γ M tgt ls st k n) (kf : ¬ (0 < x) → J G γ M (pc + 3) ls st k n) : J G γ M pc ls (.int x :: st) k n := by
  obtain ⟨p, l, e, R, s, m, args, below, meth, c, Qr1, Qx1, mc1, ms1, nL1⟩ := γ
  obtain ⟨hx, hb, hr, hml, hown, hts, hlk, hex, hG, hLow, hst, h0, rfl, rfl, rfl, rfl, rfl, rfl, rfl, hnm⟩ := hC
  intro H locs lsA hR hS hl
  exact lv_if_gt hx hb dg ht (fun h => kt (by first | exact h | omega | (simpa using h)) H locs lsA hR hS hl) (fun h => kf (by first | exact h | (simpa using h)) H locs lsA hR hS hl)

theorem J_if_ge {G : Gt} {γ : Γt} {own : String} {cc : ByteArray} {ret : Option FieldType} {M : Mm} {pc : Nat} {ls : List (Option Value)} {st : List Value} {k n d mc ms : Nat} {Qr : Option Value → Mm → Prop} {Qx : String → Mm → Prop} {lh : Launch} {nL : Nat} {nm : String} {x : Int32} {off : Int} {tgt : Nat} (hC : Cok G γ own cc ret d mc ms Qr Qx lh nL nm) (dg : decode cc pc = .ok (.ifCond .ge off, 3)) (ht : (pc : Int) + off = (tgt : Int)) (kt : 0 ≤ x → J G γ M tgt ls st k n) (kf : ¬ (0 ≤ x) → J G γ M (pc + 3) ls st k n) : J G γ M pc ls (.int x :: st) k n := by
  obtain ⟨p, l, e, R, s, m, args, below, meth, c, Qr1, Qx1, mc1, ms1, nL1⟩ := γ
  obtain ⟨hx, hb, hr, hml, hown, hts, hlk, hex, hG, hLow, hst, h0, rfl, rfl, rfl, rfl, rfl, rfl, rfl, hnm⟩ := hC
  intro H locs lsA hR hS hl
  exact lv_if_ge hx hb dg ht (fun h => kt (by first | exact h | omega | (simpa using h)) H locs lsA hR hS hl) (fun h => kf (by first | exact h | (simpa using h)) H locs lsA hR hS hl)

theorem J_icmp_eq {G : Gt} {γ : Γt} {own : String} {cc : ByteArray} {ret : Option FieldType} {M : Mm} {pc : Nat} {ls : List (Option Value)} {st : List Value} {k n d mc ms : Nat} {Qr : Option Value → Mm → Prop} {Qx : String → Mm → Prop} {lh : Launch} {nL : Nat} {nm : String} {x y : Int32} {off : Int} {tgt : Nat} (hC : Cok G γ own cc ret d mc ms Qr Qx lh nL nm) (dg : decode cc pc = .ok (.if_icmp .eq off, 3)) (ht : (pc : Int) + off = (tgt : Int)) (kt : x = y → J G γ M tgt ls st k n) (kf : ¬ (x = y) → J G γ M (pc + 3) ls st k n) : J G γ M pc ls (.int y :: .int x :: st) k n := by
  obtain ⟨p, l, e, R, s, m, args, below, meth, c, Qr1, Qx1, mc1, ms1, nL1⟩ := γ
  obtain ⟨hx, hb, hr, hml, hown, hts, hlk, hex, hG, hLow, hst, h0, rfl, rfl, rfl, rfl, rfl, rfl, rfl, hnm⟩ := hC
  intro H locs lsA hR hS hl
  exact lv_icmp_eq hx hb dg ht (fun h => kt (by first | exact h | (simpa using h)) H locs lsA hR hS hl) (fun h => kf (by first | exact h | (simpa using h)) H locs lsA hR hS hl)

theorem J_icmp_ne {G : Gt} {γ : Γt} {own : String} {cc : ByteArray} {ret : Option FieldType} {M : Mm} {pc : Nat} {ls : List (Option Value)} {st : List Value} {k n d mc ms : Nat} {Qr : Option Value → Mm → Prop} {Qx : String → Mm → Prop} {lh : Launch} {nL : Nat} {nm : String} {x y : Int32} {off : Int} {tgt : Nat} (hC : Cok G γ own cc ret d mc ms Qr Qx lh nL nm) (dg : decode cc pc = .ok (.if_icmp .ne off, 3)) (ht : (pc : Int) + off = (tgt : Int)) (kt : ¬ x = y → J G γ M tgt ls st k n) (kf : ¬ (¬ x = y) → J G γ M (pc + 3) ls st k n) : J G γ M pc ls (.int y :: .int x :: st) k n := by
  obtain ⟨p, l, e, R, s, m, args, below, meth, c, Qr1, Qx1, mc1, ms1, nL1⟩ := γ
  obtain ⟨hx, hb, hr, hml, hown, hts, hlk, hex, hG, hLow, hst, h0, rfl, rfl, rfl, rfl, rfl, rfl, rfl, hnm⟩ := hC
  intro H locs lsA hR hS hl
  exact lv_icmp_ne hx hb dg ht (fun h => kt (by first | exact h | (simpa using h)) H locs lsA hR hS hl) (fun h => kf (by first | exact h | (simpa using h)) H locs lsA hR hS hl)

theorem J_icmp_lt {G : Gt} {γ : Γt} {own : String} {cc : ByteArray} {ret : Option FieldType} {M : Mm} {pc : Nat} {ls : List (Option Value)} {st : List Value} {k n d mc ms : Nat} {Qr : Option Value → Mm → Prop} {Qx : String → Mm → Prop} {lh : Launch} {nL : Nat} {nm : String} {x y : Int32} {off : Int} {tgt : Nat} (hC : Cok G γ own cc ret d mc ms Qr Qx lh nL nm) (dg : decode cc pc = .ok (.if_icmp .lt off, 3)) (ht : (pc : Int) + off = (tgt : Int)) (kt : x < y → J G γ M tgt ls st k n) (kf : ¬ (x < y) → J G γ M (pc + 3) ls st k n) : J G γ M pc ls (.int y :: .int x :: st) k n := by
  obtain ⟨p, l, e, R, s, m, args, below, meth, c, Qr1, Qx1, mc1, ms1, nL1⟩ := γ
  obtain ⟨hx, hb, hr, hml, hown, hts, hlk, hex, hG, hLow, hst, h0, rfl, rfl, rfl, rfl, rfl, rfl, rfl, hnm⟩ := hC
  intro H locs lsA hR hS hl
  exact lv_icmp_lt hx hb dg ht (fun h => kt (by first | exact h | (simpa using h)) H locs lsA hR hS hl) (fun h => kf (by first | exact h | (simpa using h)) H locs lsA hR hS hl)

theorem J_icmp_le {G : Gt} {γ : Γt} {own : String} {cc : ByteArray} {ret : Option FieldType} {M : Mm} {pc : Nat} {ls : List (Option Value)} {st : List Value} {k n d mc ms : Nat} {Qr : Option Value → Mm → Prop} {Qx : String → Mm → Prop} {lh : Launch} {nL : Nat} {nm : String} {x y : Int32} {off : Int} {tgt : Nat} (hC : Cok G γ own cc ret d mc ms Qr Qx lh nL nm) (dg : decode cc pc = .ok (.if_icmp .le off, 3)) (ht : (pc : Int) + off = (tgt : Int)) (kt : x ≤ y → J G γ M tgt ls st k n) (kf : ¬ (x ≤ y) → J G γ M (pc + 3) ls st k n) : J G γ M pc ls (.int y :: .int x :: st) k n := by
  obtain ⟨p, l, e, R, s, m, args, below, meth, c, Qr1, Qx1, mc1, ms1, nL1⟩ := γ
  obtain ⟨hx, hb, hr, hml, hown, hts, hlk, hex, hG, hLow, hst, h0, rfl, rfl, rfl, rfl, rfl, rfl, rfl, hnm⟩ := hC
  intro H locs lsA hR hS hl
  exact lv_icmp_le hx hb dg ht (fun h => kt (by first | exact h | (simpa using h)) H locs lsA hR hS hl) (fun h => kf (by first | exact h | (simpa using h)) H locs lsA hR hS hl)

theorem J_icmp_gt {G : Gt} {γ : Γt} {own : String} {cc : ByteArray} {ret : Option FieldType} {M : Mm} {pc : Nat} {ls : List (Option Value)} {st : List Value} {k n d mc ms : Nat} {Qr : Option Value → Mm → Prop} {Qx : String → Mm → Prop} {lh : Launch} {nL : Nat} {nm : String} {x y : Int32} {off : Int} {tgt : Nat} (hC : Cok G γ own cc ret d mc ms Qr Qx lh nL nm) (dg : decode cc pc = .ok (.if_icmp .gt off, 3)) (ht : (pc : Int) + off = (tgt : Int)) (kt : y < x → J G γ M tgt ls st k n) (kf : ¬ (y < x) → J G γ M (pc + 3) ls st k n) : J G γ M pc ls (.int y :: .int x :: st) k n := by
  obtain ⟨p, l, e, R, s, m, args, below, meth, c, Qr1, Qx1, mc1, ms1, nL1⟩ := γ
  obtain ⟨hx, hb, hr, hml, hown, hts, hlk, hex, hG, hLow, hst, h0, rfl, rfl, rfl, rfl, rfl, rfl, rfl, hnm⟩ := hC
  intro H locs lsA hR hS hl
  exact lv_icmp_gt hx hb dg ht (fun h => kt (by first | exact h | (simpa using h)) H locs lsA hR hS hl) (fun h => kf (by first | exact h | (simpa using h)) H locs lsA hR hS hl)

theorem J_icmp_ge {G : Gt} {γ : Γt} {own : String} {cc : ByteArray} {ret : Option FieldType} {M : Mm} {pc : Nat} {ls : List (Option Value)} {st : List Value} {k n d mc ms : Nat} {Qr : Option Value → Mm → Prop} {Qx : String → Mm → Prop} {lh : Launch} {nL : Nat} {nm : String} {x y : Int32} {off : Int} {tgt : Nat} (hC : Cok G γ own cc ret d mc ms Qr Qx lh nL nm) (dg : decode cc pc = .ok (.if_icmp .ge off, 3)) (ht : (pc : Int) + off = (tgt : Int)) (kt : y ≤ x → J G γ M tgt ls st k n) (kf : ¬ (y ≤ x) → J G γ M (pc + 3) ls st k n) : J G γ M pc ls (.int y :: .int x :: st) k n := by
  obtain ⟨p, l, e, R, s, m, args, below, meth, c, Qr1, Qx1, mc1, ms1, nL1⟩ := γ
  obtain ⟨hx, hb, hr, hml, hown, hts, hlk, hex, hG, hLow, hst, h0, rfl, rfl, rfl, rfl, rfl, rfl, rfl, hnm⟩ := hC
  intro H locs lsA hR hS hl
  exact lv_icmp_ge hx hb dg ht (fun h => kt (by first | exact h | (simpa using h)) H locs lsA hR hS hl) (fun h => kf (by first | exact h | (simpa using h)) H locs lsA hR hS hl)

theorem J_goto {G : Gt} {γ : Γt} {own : String} {cc : ByteArray} {ret : Option FieldType} {M : Mm} {pc : Nat} {ls : List (Option Value)} {st : List Value} {k n d mc ms : Nat} {Qr : Option Value → Mm → Prop} {Qx : String → Mm → Prop} {lh : Launch} {nL : Nat} {nm : String} {off : Int} {tgt : Nat} (hC : Cok G γ own cc ret d mc ms Qr Qx lh nL nm) (dg : decode cc pc = .ok (.goto off, 3)) (ht : (pc : Int) + off = (tgt : Int)) (kk : J G γ M tgt ls st k n) : J G γ M pc ls (st) k n := by
  obtain ⟨p, l, e, R, s, m, args, below, meth, c, Qr1, Qx1, mc1, ms1, nL1⟩ := γ
  obtain ⟨hx, hb, hr, hml, hown, hts, hlk, hex, hG, hLow, hst, h0, rfl, rfl, rfl, rfl, rfl, rfl, rfl, hnm⟩ := hC
  intro H locs lsA hR hS hl
  exact lv_goto hx hb dg ht (kk H locs lsA hR hS hl)

theorem J_ifnull {G : Gt} {γ : Γt} {own : String} {cc : ByteArray} {ret : Option FieldType} {M : Mm} {pc : Nat} {ls : List (Option Value)} {st : List Value} {k n d mc ms : Nat} {Qr : Option Value → Mm → Prop} {Qx : String → Mm → Prop} {lh : Launch} {nL : Nat} {nm : String} {a : Nat} {off : Int} {tgt : Nat} (hC : Cok G γ own cc ret d mc ms Qr Qx lh nL nm) (dg : decode cc pc = .ok (.ifnull off, 3)) (ht : (pc : Int) + off = (tgt : Int)) (kt : a = 0 → J G γ M tgt ls st k n) (kf : a ≠ 0 → J G γ M (pc + 3) ls st k n) : J G γ M pc ls (rv a :: st) k n := by
  obtain ⟨p, l, e, R, s, m, args, below, meth, c, Qr1, Qx1, mc1, ms1, nL1⟩ := γ
  obtain ⟨hx, hb, hr, hml, hown, hts, hlk, hex, hG, hLow, hst, h0, rfl, rfl, rfl, rfl, rfl, rfl, rfl, hnm⟩ := hC
  intro H locs lsA hR hS hl
  by_cases ha : a = 0
  · have k1 := kt ha H locs lsA hR hS hl
    subst ha; exact lv_ifnullN hx hb dg ht k1
  · rw [rv_pos ha]; exact lv_ifnull hx hb dg (kf ha H locs lsA hR hS hl)

theorem J_ifnonnull {G : Gt} {γ : Γt} {own : String} {cc : ByteArray} {ret : Option FieldType} {M : Mm} {pc : Nat} {ls : List (Option Value)} {st : List Value} {k n d mc ms : Nat} {Qr : Option Value → Mm → Prop} {Qx : String → Mm → Prop} {lh : Launch} {nL : Nat} {nm : String} {a : Nat} {off : Int} {tgt : Nat} (hC : Cok G γ own cc ret d mc ms Qr Qx lh nL nm) (dg : decode cc pc = .ok (.ifnonnull off, 3)) (ht : (pc : Int) + off = (tgt : Int)) (kt : a ≠ 0 → J G γ M tgt ls st k n) (kf : a = 0 → J G γ M (pc + 3) ls st k n) : J G γ M pc ls (rv a :: st) k n := by
  obtain ⟨p, l, e, R, s, m, args, below, meth, c, Qr1, Qx1, mc1, ms1, nL1⟩ := γ
  obtain ⟨hx, hb, hr, hml, hown, hts, hlk, hex, hG, hLow, hst, h0, rfl, rfl, rfl, rfl, rfl, rfl, rfl, hnm⟩ := hC
  intro H locs lsA hR hS hl
  by_cases ha : a = 0
  · have k1 := kf ha H locs lsA hR hS hl
    subst ha; exact lv_ifnonnullN hx hb dg k1
  · rw [rv_pos ha]; exact lv_ifnonnull hx hb dg ht (kt ha H locs lsA hR hS hl)

theorem J_lookup {G : Gt} {γ : Γt} {own : String} {cc : ByteArray} {ret : Option FieldType} {M : Mm} {pc : Nat} {ls : List (Option Value)} {st : List Value} {k n d mc ms : Nat} {Qr : Option Value → Mm → Prop} {Qx : String → Mm → Prop} {lh : Launch} {nL : Nat} {nm : String} {dflt : Int} {ps : Array (Int × Int)} {len : Nat} {x : Int32} {off : Int} {tgt : Nat} (hC : Cok G γ own cc ret d mc ms Qr Qx lh nL nm) (dg : decode cc pc = .ok (.lookupswitch dflt ps, len)) (hp : (ps.toList.zip (ps.toList.drop 1)).all (fun (a, next) => a.1 < next.1) = true) (ho : Op.lookupswitch.offset ps.toList dflt x.toInt = off) (ht : (pc : Int) + off = (tgt : Int)) (kk : J G γ M tgt ls st k n) : J G γ M pc ls (.int x :: st) k n := by
  obtain ⟨p, l, e, R, s, m, args, below, meth, c, Qr1, Qx1, mc1, ms1, nL1⟩ := γ
  obtain ⟨hx, hb, hr, hml, hown, hts, hlk, hex, hG, hLow, hst, h0, rfl, rfl, rfl, rfl, rfl, rfl, rfl, hnm⟩ := hC
  intro H locs lsA hR hS hl
  exact lv_lookup hx hb dg hp ho ht (kk H locs lsA hR hS hl)

theorem J_sub {G : Gt} {γ : Γt} {own : String} {cc : ByteArray} {ret : Option FieldType} {M : Mm} {pc : Nat} {ls : List (Option Value)} {st : List Value} {k n d mc ms : Nat} {Qr : Option Value → Mm → Prop} {Qx : String → Mm → Prop} {lh : Launch} {nL : Nat} {nm : String} {ls1 : List (Option Value)} (hC : Cok G γ own cc ret d mc ms Qr Qx lh nL nm) (hs : lsSub ls1 ls) (kk : J G γ M pc ls1 st k n) : J G γ M pc ls (st) k n := by
  obtain ⟨p, l, e, R, s, m, args, below, meth, c, Qr1, Qx1, mc1, ms1, nL1⟩ := γ
  obtain ⟨hx, hb, hr, hml, hown, hts, hlk, hex, hG, hLow, hst, h0, rfl, rfl, rfl, rfl, rfl, rfl, rfl, hnm⟩ := hC
  intro H locs lsA hR hS hl
  exact kk H locs lsA hR hS (hl.sub hs)

theorem J_wide {G : Gt} {γ : Γt} {own : String} {cc : ByteArray} {ret : Option FieldType} {M : Mm} {pc : Nat} {ls : List (Option Value)} {st : List Value} {k n d mc ms : Nat} {Qr : Option Value → Mm → Prop} {Qx : String → Mm → Prop} {lh : Launch} {nL : Nat} {nm : String} {k1 n1 : Nat} (hC : Cok G γ own cc ret d mc ms Qr Qx lh nL nm) (hk : k ≤ k1) (hn : n ≤ n1) (kk : J G γ M pc ls st k1 n1) : J G γ M pc ls (st) k n := by
  obtain ⟨p, l, e, R, s, m, args, below, meth, c, Qr1, Qx1, mc1, ms1, nL1⟩ := γ
  obtain ⟨hx, hb, hr, hml, hown, hts, hlk, hex, hG, hLow, hst, h0, rfl, rfl, rfl, rfl, rfl, rfl, rfl, hnm⟩ := hC
  intro H locs lsA hR hS hl
  exact W.widen hk hn (kk H locs lsA hR hS hl)

/-- the memory is named anew: the same cells, other names -/
theorem J_same {G : Gt} {γ : Γt} {own : String} {cc : ByteArray} {ret : Option FieldType} {M : Mm} {pc : Nat} {ls : List (Option Value)} {st : List Value} {k n d mc ms : Nat} {Qr : Option Value → Mm → Prop} {Qx : String → Mm → Prop} {lh : Launch} {nL : Nat} {nm : String} {M1 : Mm} (hM : M = M1) (kk : J G γ M1 pc ls st k n) : J G γ M pc ls st k n := by
  subst hM; exact kk

