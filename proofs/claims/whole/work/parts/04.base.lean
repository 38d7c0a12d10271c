/-! words, the memory, the judgement J: a frame of one of the claim's own methods, over a memory of pure functions -/
def AW : List Cond := lw_tbl.filter goodWord
theorem AW_in {w : Cond} (h : w ∈ lw_tbl) (g : goodWord w = true) : w ∈ AW := List.mem_filter.mpr ⟨h, g⟩
theorem AW_tbl {w : Cond} (h : w ∈ AW) : w ∈ lw_tbl := (List.mem_filter.mp h).1
theorem AW_good {w : Cond} (h : w ∈ AW) : (w.onTables && w.keeps) = true ∨ ∃ ty, w = .arrayClass ty := good_of_word (List.mem_filter.mp h).2
abbrev wsOf (y : MethodName) (cc : ByteArray) (maxL : Nat) (ret : Option FieldType) : List Cond := .code y cc maxL ret :: AW
theorem AW_goodIn {ws : List Cond} (h : ∀ w ∈ ws, w ∈ AW) : GoodIn AW ws := fun w hw => ⟨h w hw, AW_good (h w hw)⟩
/-- the memory: tag (kind, place) and length of a cell; its ints, references (0: null), longs, doubles -/
abbrev Mm : Type := (Nat → Nat × Nat) × (Nat → Nat) × (Nat → Nat → Int32) × (Nat → Nat → Nat) × (Nat → Nat → Int64) × (Nat → Nat → UInt64)
def mT (M : Mm) : Nat → Nat × Nat := M.1
def mL (M : Mm) : Nat → Nat := M.2.1
def mI (M : Mm) : Nat → Nat → Int32 := M.2.2.1
def mR (M : Mm) : Nat → Nat → Nat := M.2.2.2.1
def mJ (M : Mm) : Nat → Nat → Int64 := M.2.2.2.2.1
def mD (M : Mm) : Nat → Nat → UInt64 := M.2.2.2.2.2
def up2 {α : Type} (f : Nat → Nat → α) (a k : Nat) (v : α) : Nat → Nat → α := fun b j => if b = a then (if j = k then v else f b j) else f b j
theorem up2_same {α : Type} (f : Nat → Nat → α) (a k : Nat) (v : α) : up2 f a k v a k = v := by simp [up2]
theorem up2_k {α : Type} (f : Nat → Nat → α) (a : Nat) {k j : Nat} (v : α) (h : j ≠ k) : up2 f a k v a j = f a j := by simp [up2, h]
theorem up2_b {α : Type} (f : Nat → Nat → α) {a b : Nat} (k j : Nat) (v : α) (h : b ≠ a) : up2 f a k v b j = f b j := by simp [up2, h]
theorem up2_row {α : Type} (f : Nat → Nat → α) {a b : Nat} (k : Nat) (v : α) (h : b ≠ a) : up2 f a k v b = f b := by funext j; simp [up2, h]
def pI (M : Mm) (a k : Nat) (v : Int32) : Mm := (mT M, mL M, up2 (mI M) a k v, mR M, mJ M, mD M)
def pR (M : Mm) (a k : Nat) (v : Nat) : Mm := (mT M, mL M, mI M, up2 (mR M) a k v, mJ M, mD M)
def pJ (M : Mm) (a k : Nat) (v : Int64) : Mm := (mT M, mL M, mI M, mR M, up2 (mJ M) a k v, mD M)
def pD (M : Mm) (a k : Nat) (v : UInt64) : Mm := (mT M, mL M, mI M, mR M, mJ M, up2 (mD M) a k v)
def nwM (M : Mm) (a : Nat) (t : Nat × Nat) (n : Nat) : Mm := (va_up (mT M) a t, va_up (mL M) a n, fun b j => if b = a then 0 else mI M b j, fun b j => if b = a then 0 else mR M b j, fun b j => if b = a then 0 else mJ M b j, fun b j => if b = a then 0 else mD M b j)
def ro (n : Nat) : Option Nat := if n = 0 then none else some n
def rv (n : Nat) : Value := va_rf (ro n)
theorem rv_0 : rv 0 = .null := rfl
theorem rv_pos {n : Nat} (h : n ≠ 0) : rv n = .ref n := by simp [rv, ro, h, va_rf]
theorem rv_cat (n : Nat) : (rv n).category = 1 := by
  by_cases h : n = 0
  · subst h; rfl
  · rw [rv_pos h]; rfl
theorem rv_or (n : Nat) : rv n = .null ∨ ∃ a, rv n = .ref a := va_rf_or _
abbrev clW : List vw_C := [(RX0, TX0, 7), (RX1, TX1, 4), (RX2, TX2, 3), (RX3, TX3, 8), (RX4, TX4, 12), (RX5, TX5, 33)]
/-- the world G: the tables' numbers; the numbers of the array classes by kind; the heap as it was at the law's start -/
abbrev Gt : Type := va_G × (Nat → ClassId) × Heap
def tysW (aC : Nat → ClassId) : List (ClassId × FieldType) := [(aC 7, .int), (aC 8, .boolean), (aC 9, .object RX3), (aC 10, .object RX1), (aC 11, .object RX0), (aC 12, .long), (aC 13, .double)]
/-- what a cell holds, by its kind -/
def mE (aC : Nat → ClassId) (M : Mm) (a : Nat) : va_E := match (mT M a).1 with
  | 1 => .inr (0, [.int (mI M a 0), .int (mI M a 1), .int (mI M a 2), .int (mI M a 3), .int (mI M a 4), .int (mI M a 5), .int (mI M a 6)])
  | 2 => .inr (1, [.int (mI M a 0), rv (mR M a 1), .int (mI M a 2), .int (mI M a 3)])
  | 3 => .inr (2, [rv (mR M a 0), rv (mR M a 1), .int (mI M a 2)])
  | 4 => .inr (3, [.int (mI M a 0), .int (mI M a 1), rv (mR M a 2), rv (mR M a 3), rv (mR M a 4), rv (mR M a 5), .int (mI M a 6), .int (mI M a 7)])
  | 5 => .inr (4, [rv (mR M a 0), rv (mR M a 1), rv (mR M a 2), rv (mR M a 3), rv (mR M a 4), rv (mR M a 5), .int (mI M a 6), .int (mI M a 7), .int (mI M a 8), .int (mI M a 9), .int (mI M a 10), .long (mJ M a 11)])
  | 6 => .inr (5, [.int (mI M a 0), .int (mI M a 1), .int (mI M a 2), .int (mI M a 3), .int (mI M a 4), .int (mI M a 5), .int (mI M a 6), .int (mI M a 7), .int (mI M a 8), .long (mJ M a 9), rv (mR M a 10), rv (mR M a 11), rv (mR M a 12), rv (mR M a 13), rv (mR M a 14), rv (mR M a 15), rv (mR M a 16), rv (mR M a 17), rv (mR M a 18), rv (mR M a 19), rv (mR M a 20), rv (mR M a 21), rv (mR M a 22), rv (mR M a 23), rv (mR M a 24), rv (mR M a 25), rv (mR M a 26), rv (mR M a 27), rv (mR M a 28), rv (mR M a 29), rv (mR M a 30), rv (mR M a 31), rv (mR M a 32)])
  | 7 => .inl (aC 7, mL M a, .inl (mI M a))
  | 8 => .inl (aC 8, mL M a, .inl (mI M a))
  | 9 => .inl (aC 9, mL M a, .inr (.inr (.inr (.inr (fun j => ro (mR M a j))))))
  | 10 => .inl (aC 10, mL M a, .inr (.inr (.inr (.inr (fun j => ro (mR M a j))))))
  | 11 => .inl (aC 11, mL M a, .inr (.inr (.inr (.inr (fun j => ro (mR M a j))))))
  | 12 => .inl (aC 12, mL M a, .inr (.inl (mJ M a)))
  | _ => .inl (aC 13, mL M a, .inr (.inr (.inr (.inl (mD M a)))))
def gA (G : Gt) : Nat → Prop := fun q => G.2.2.size ≤ q
def Rep (G : Gt) (M : Mm) (H : Heap) : Prop := 0 < G.2.2.size ∧ ∃ L : List Nat, (∀ a, a ∈ L ↔ (mT M a).1 ≠ 0) ∧ va_P G.1 clW (va_pl L (mE G.2.1 M)) H ∧ va_D (gA G) (va_pl L (mE G.2.1 M))
def Low (G : Gt) (H : Heap) : Prop := G.2.2.size ≤ H.size ∧ ∀ q, q < G.2.2.size → H[q]? = G.2.2[q]?
theorem Rep.lt {G : Gt} {M : Mm} {H : Heap} (h : Rep G M H) {a : Nat} (ha : (mT M a).1 ≠ 0) : gA G a ∧ a < H.size := by
  obtain ⟨-, L, h1, h2, h3⟩ := h
  obtain ⟨k, hk⟩ := va_pl_get (X := []) (f := mE G.2.1 M) ((h1 a).mpr ha)
  exact ⟨h3.2 k _ hk, (h2 k _ hk).lt⟩
theorem Rep.ne {G : Gt} {M : Mm} {H : Heap} (h : Rep G M H) {a : Nat} (ha : (mT M a).1 ≠ 0) : a ≠ 0 := by
  have h1 := h.1
  have h2 := (h.lt ha).1
  unfold gA at h2
  omega
theorem mE_tag {aC : Nat → ClassId} {M M' : Mm} {b : Nat} (h : (mT M b).1 = (mT M' b).1) (hL : mL M b = mL M' b) (hI : mI M b = mI M' b) (hR : mR M b = mR M' b) (hJ : mJ M b = mJ M' b) (hD : mD M b = mD M' b) : mE aC M b = mE aC M' b := by
  simp only [mE, h, hL, hI, hR, hJ, hD]
/-- one cell has changed -/
theorem Rep.set {G : Gt} {M M' : Mm} {L : List Nat} {a k : Nat} {e : va_E} {H1 : Heap} (h0 : 0 < G.2.2.size) (hL : ∀ b, b ∈ L ↔ (mT M b).1 ≠ 0) (hD : va_D (gA G) (va_pl L (mE G.2.1 M))) (ha : (mT M a).1 ≠ 0) (hk : (va_pl L (mE G.2.1 M))[k]? = some (a, mE G.2.1 M a))
    (hT : ∀ b, (mT M' b).1 = (mT M b).1) (he : mE G.2.1 M' a = e) (hb : ∀ b, b ≠ a → mE G.2.1 M' b = mE G.2.1 M b) (hP1 : va_P G.1 clW ((va_pl L (mE G.2.1 M)).set k (a, e)) H1) (hD1 : va_D (gA G) ((va_pl L (mE G.2.1 M)).set k (a, e))) : Rep G M' H1 := by
  have e1 : (va_pl L (mE G.2.1 M)).set k (a, e) = va_pl L (mE G.2.1 M') := by
    have h1 := va_pl_set (X := []) (A := gA G) (e := e) hD ((hL a).mpr ha) hk
    simp only [List.nil_append] at h1
    rw [h1]
    refine va_pl_congr fun b => ?_
    by_cases hba : b = a
    · subst hba; rw [va_up_self, he]
    · rw [va_up_ne _ _ hba, hb b hba]
  rw [e1] at hP1 hD1
  exact ⟨h0, L, fun b => by rw [hT b]; exact hL b, hP1, hD1⟩
/-- one cell has come -/
theorem Rep.push {G : Gt} {M M' : Mm} {L : List Nat} {a : Nat} {e : va_E} {H1 : Heap} (h0 : 0 < G.2.2.size) (hL : ∀ b, b ∈ L ↔ (mT M b).1 ≠ 0) (ha : a ∉ L)
    (hT : (mT M' a).1 ≠ 0) (hTb : ∀ b, b ≠ a → (mT M' b).1 = (mT M b).1) (he : mE G.2.1 M' a = e) (hb : ∀ b, b ≠ a → mE G.2.1 M' b = mE G.2.1 M b) (hP1 : va_P G.1 clW (va_pl L (mE G.2.1 M) ++ [(a, e)]) H1) (hD1 : va_D (gA G) (va_pl L (mE G.2.1 M) ++ [(a, e)])) : Rep G M' H1 := by
  have e1 : va_pl L (mE G.2.1 M) ++ [(a, e)] = va_pl (L ++ [a]) (mE G.2.1 M') := by
    rw [va_pl_push ha]
    refine va_pl_congr fun b => ?_
    by_cases hba : b = a
    · subst hba; rw [va_up_self, he]
    · rw [va_up_ne _ _ hba, hb b hba]
  rw [e1] at hP1 hD1
  refine ⟨h0, L ++ [a], fun b => ?_, hP1, hD1⟩
  rw [List.mem_append, List.mem_singleton]
  by_cases hba : b = a
  · subst hba; simp [hT]
  · rw [hTb b hba, ← hL b]; simp [hba]
/-! the law's standing facts: what the tables say, what throws need -/
abbrev exN : List String := ["java/lang/IllegalStateException", "java/lang/IllegalArgumentException", "java/lang/IndexOutOfBoundsException", "java/util/NoSuchElementException", "java/lang/UnsupportedOperationException", "java/lang/ArithmeticException"]
abbrev dcN : List MethodName := [⟨"java/lang/RuntimeException", "<init>", "(Ljava/lang/String;)V"⟩, ⟨"java/lang/Exception", "<init>", "(Ljava/lang/String;)V"⟩, ⟨"java/lang/Throwable", "<init>", "(Ljava/lang/String;)V"⟩]
def strT : List (String × Nat × String) := [("PlateRegister", 43, "there are 12 keepers"), ("PlateRegister", 53, "no such number of days can pass"), ("PlateRegister", 315, "there is no such keeper"), ("PlateRegister", 328, "there is no such kind"), ("PlateRegister", 330, "there are 15 vehicles"), ("PlateRegister", 332, "there are 40 plates"), ("PlateRegister", 317, "there is no such vehicle"), ("PlateRegister", 91, "the vehicle has been admitted"), ("PlateRegister", 97, "the vehicle is scrapped"), ("PlateRegister", 113, "the vehicle is scrapped or has no plate"), ("PlateRegister", 326, "there is no such day yet"), ("PlateRegister", 339, "the vehicle is blocked"), ("PlateRegister", 152, "the seller and the buyer are the same"), ("PlateRegister", 337, "there are 120 notices"), ("PlateRegister", 324, "there is no such notice"), ("PlateRegister", 168, "the notice is not open"), ("PlateRegister", 173, "the notice was not used"), ("PlateRegister", 350, "there is none"), ("PlateRegister", 196, "there is no such transfer"), ("PlateRegister", 206, "there is no such lender or amount"), ("PlateRegister", 343, "the lender has no lien on this vehicle"), ("PlateRegister", 223, "the amount is out of range"), ("PlateRegister", 233, "the vehicle has no plate"), ("PlateRegister", 322, "there is no such plate"), ("PlateRegister", 258, "the plate is not kept for this keeper"), ("PlateRegister", 341, "the vehicle is blocked or has no plate"), ("PlateRegister", 263, "there are not two vehicles of one keeper"), ("PlateRegister", 268, "the plate is not kept"), ("PlateRegister", 352, "the plate is on no vehicle"), ("PlateRegister", 283, "there is no such quarter yet"), ("PlateRegister", 347, "there are no vehicles")]
def Gok (G : Gt) (U : State) : Prop :=
  va_K G.1 clW (tysW G.2.1) U ∧ vx_Zq Bundle.tN "UNASSIGNED_STACK" Bundle.steD (gA G) U G.2.2 ∧ vx_Zq Bundle.tN "SUPPRESSED_SENTINEL" Bundle.listD (gA G) U G.2.2 ∧ (∀ E ∈ exN, va_Nw (.castable E E) U) ∧ (∀ q ∈ strT, ∃ sa, vk_R q.1 q.2.1 q.2.2 sa U) ∧ va_AO RX3 U ∧ va_AO RX1 U ∧ va_AO RX0 U ∧ va_Nw (.methodLinkNest RX3 40 yX4_entry RX4) U ∧ (∀ y ∈ dcN, va_Nw (.declares y) U)
theorem Gok.warm {G : Gt} {s U : State} (h : Gok G s) (hW : s.WarmedH U.vm) : Gok G U := by
  obtain ⟨h1, h2, h3, h4, h5, h6, h7, h8, h9, h10⟩ := h
  exact ⟨h1.moved hW.alike, h2.moved hW.alike, h3.moved hW.alike, fun E hE => va_Nw.warmC hW (h4 E hE), fun q hq => let ⟨sa, hs⟩ := h5 q hq; ⟨sa, vk_R.warm hW hs⟩, h6.moved hW.alike, h7.moved hW.alike, h8.moved hW.alike, va_Nw.warmM hW h9, fun y hy => va_Nw.warmD hW (h10 y hy)⟩
/-! locals -/
def lset : List (Option Value) → Nat → Value → List (Option Value)
  | [], 0, v => [some v]
  | [], i + 1, v => none :: lset [] i v
  | _ :: l, 0, v => some v :: l
  | x :: l, i + 1, v => x :: lset l i v
theorem lset_get : ∀ (ls : List (Option Value)) (i : Nat) (v : Value) (j : Nat) (w : Value), (lset ls i v)[j]? = some (some w) → (j = i ∧ w = v) ∨ (j ≠ i ∧ ls[j]? = some (some w))
  | [], 0, v, j, w, h => by
    cases j with
    | zero => simp [lset] at h; exact Or.inl ⟨rfl, h.symm⟩
    | succ j => simp [lset] at h
  | [], i + 1, v, j, w, h => by
    cases j with
    | zero => simp [lset] at h
    | succ j =>
      simp only [lset, List.getElem?_cons_succ] at h
      rcases lset_get [] i v j w h with ⟨h1, h2⟩ | ⟨h1, h2⟩
      · exact Or.inl ⟨by omega, h2⟩
      · simp at h2
  | x :: l, 0, v, j, w, h => by
    cases j with
    | zero => simp [lset] at h; exact Or.inl ⟨rfl, h.symm⟩
    | succ j => simp only [lset, List.getElem?_cons_succ] at h; exact Or.inr ⟨by omega, by simpa using h⟩
  | x :: l, i + 1, v, j, w, h => by
    cases j with
    | zero => simp only [lset, List.getElem?_cons_zero] at h; exact Or.inr ⟨by omega, by simpa using h⟩
    | succ j =>
      simp only [lset, List.getElem?_cons_succ] at h
      rcases lset_get l i v j w h with ⟨h1, h2⟩ | ⟨h1, h2⟩
      · exact Or.inl ⟨by omega, h2⟩
      · exact Or.inr ⟨by omega, by simpa using h2⟩
def lsP : Nat → List (Option Value) → List (Nat × Value)
  | _, [] => []
  | i, none :: l => lsP (i + 1) l
  | i, some v :: l => (i, v) :: lsP (i + 1) l
theorem lsP_mem : ∀ (l : List (Option Value)) (i : Nat) (q : Nat × Value), q ∈ lsP i l ↔ i ≤ q.1 ∧ l[q.1 - i]? = some (some q.2)
  | [], i, q => by simp [lsP]
  | none :: l, i, q => by
    rw [lsP, lsP_mem l (i + 1) q]
    constructor
    · rintro ⟨h1, h2⟩
      refine ⟨by omega, ?_⟩
      rw [show q.1 - i = (q.1 - (i + 1)) + 1 by omega, List.getElem?_cons_succ]; exact h2
    · rintro ⟨h1, h2⟩
      by_cases h : q.1 = i
      · rw [show q.1 - i = 0 by omega] at h2; simp at h2
      · rw [show q.1 - i = (q.1 - (i + 1)) + 1 by omega, List.getElem?_cons_succ] at h2
        exact ⟨by omega, h2⟩
  | some v :: l, i, q => by
    rw [lsP, List.mem_cons, lsP_mem l (i + 1) q]
    constructor
    · rintro (rfl | ⟨h1, h2⟩)
      · simp
      · refine ⟨by omega, ?_⟩
        rw [show q.1 - i = (q.1 - (i + 1)) + 1 by omega, List.getElem?_cons_succ]; exact h2
    · rintro ⟨h1, h2⟩
      by_cases h : q.1 = i
      · rw [show q.1 - i = 0 by omega] at h2
        simp at h2
        exact Or.inl (Prod.ext h h2.symm)
      · rw [show q.1 - i = (q.1 - (i + 1)) + 1 by omega, List.getElem?_cons_succ] at h2
        exact Or.inr ⟨by omega, h2⟩
def lsOk (nL : Nat) (lsA : Array Slot) (ls : List (Option Value)) : Prop := lv_has lsA nL (lsP 0 ls) ∧ ∀ (i : Nat) (v : Value), ls[i]? = some (some v) → v.category = 1
theorem lsOk.at {nL : Nat} {lsA : Array Slot} {ls : List (Option Value)} (h : lsOk nL lsA ls) {i : Nat} {v : Value} (hi : ls[i]? = some (some v)) : lsA[i]? = some (.val v) := h.1.2.2 (i, v) ((lsP_mem ls 0 (i, v)).mpr ⟨Nat.zero_le _, by simpa using hi⟩)
theorem lsOk.store {nL : Nat} {lsA : Array Slot} {ls : List (Option Value)} (h : lsOk nL lsA ls) {i : Nat} {v : Value} (hv : v.category = 1) {ls' : Array Slot} (h' : lv_has ls' nL ((i, v) :: (lsP 0 ls).filter (fun q => !(q.1 == i) && !(q.1 + 1 == i && q.2.category == 2)))) : lsOk nL ls' (lset ls i v) := by
  refine ⟨⟨h'.1, h'.2.1, fun q hq => ?_⟩, fun j w hj => ?_⟩
  · obtain ⟨-, h2⟩ := (lsP_mem _ 0 q).mp hq
    rcases lset_get ls i v _ _ h2 with ⟨h3, h4⟩ | ⟨h3, h4⟩
    · refine h'.2.2 q (List.mem_cons.mpr (Or.inl ?_))
      exact Prod.ext (by simpa using h3) h4
    · refine h'.2.2 q (List.mem_cons.mpr (Or.inr (List.mem_filter.mpr ⟨(lsP_mem ls 0 q).mpr ⟨Nat.zero_le _, h4⟩, ?_⟩)))
      have hc := h.2 _ _ h4
      simp only [Nat.sub_zero] at h3
      simp [h3, hc]
  · rcases lset_get ls i v j w hj with ⟨-, h4⟩ | ⟨-, h4⟩
    · rw [h4]; exact hv
    · exact h.2 j w h4
/-- fewer locals are known -/
def lsSub : List (Option Value) → List (Option Value) → Prop
  | [], _ => True
  | none :: l', [] => lsSub l' []
  | none :: l', _ :: l => lsSub l' l
  | some _ :: _, [] => False
  | some v :: l', x :: l => x = some v ∧ lsSub l' l
theorem lsSub_get : ∀ (l' l : List (Option Value)), lsSub l' l → ∀ (i : Nat) (v : Value), l'[i]? = some (some v) → l[i]? = some (some v)
  | [], _, _, i, v, h => by simp at h
  | none :: l', [], hs, i, v, h => by
    cases i with
    | zero => simp at h
    | succ i => simp only [List.getElem?_cons_succ] at h; have := lsSub_get l' [] hs i v h; simp at this
  | none :: l', x :: l, hs, i, v, h => by
    cases i with
    | zero => simp at h
    | succ i => simp only [List.getElem?_cons_succ] at h ⊢; exact lsSub_get l' l hs i v h
  | some w :: l', [], hs, i, v, h => absurd hs (by simp [lsSub])
  | some w :: l', x :: l, hs, i, v, h => by
    cases i with
    | zero => simp only [List.getElem?_cons_zero] at h ⊢; rw [hs.1]; exact h
    | succ i => simp only [List.getElem?_cons_succ] at h ⊢; exact lsSub_get l' l hs.2 i v h
theorem lsOk.sub {nL : Nat} {lsA : Array Slot} {ls ls' : List (Option Value)} (h : lsOk nL lsA ls) (hs : lsSub ls' ls) : lsOk nL lsA ls' :=
  ⟨⟨h.1.1, h.1.2.1, fun q hq => by
    obtain ⟨-, h2⟩ := (lsP_mem _ 0 q).mp hq
    exact h.1.2.2 q ((lsP_mem ls 0 q).mpr ⟨Nat.zero_le _, lsSub_get _ _ hs _ _ h2⟩)⟩, fun i v hi => h.2 i v (lsSub_get _ _ hs _ _ hi)⟩
/-! the judgement -/
abbrev Γt : Type := Program × Launch × Env × Room × State × MethodId × Array Value × List Frame × Method × Code × (Option Value → Mm → Prop) × (String → Mm → Prop) × Nat × Nat × Nat
def CQ (G : Gt) (Qr : Option Value → Mm → Prop) : Array Value → State → Outcome → State → Prop := fun _ st o t => st.heap.size ≤ t.heap.size ∧ Low G t.heap ∧ ∃ v M', o = .returned v ∧ Qr v M' ∧ Rep G M' t.heap
def CX (G : Gt) (Qx : String → Mm → Prop) : String → State → State → Prop := fun E st t => st.heap.size ≤ t.heap.size ∧ Low G t.heap ∧ ∃ M', Qx E M' ∧ Rep G M' t.heap
def CP (G : Gt) (M : Mm) (As : List Value) : Array Value → State → Prop := va_Pc As (fun U => Gok G U ∧ Low G U.heap ∧ Rep G M U.heap)
def J (G : Gt) (γ : Γt) (M : Mm) (pc : Nat) (ls : List (Option Value)) (st : List Value) (k n : Nat) : Prop := match γ with
  | (p, l, e, R, s, m, args, below, meth, c, Qr, Qx, mc, ms, nL) => ∀ (H : Heap) (locs : List Loc) (lsA : Array Slot), Rep G M H → va_S (gA G) s.heap H locs → lsOk nL lsA ls → W p l e R s m args below meth c H locs k n (vx_MQ below (CQ G Qr) (CX G Qx) args s mc ms (gA G)) (F0 m pc lsA st)
def rmOf (d mc ms : Nat) : Room := { frames := d, cells := mc, slots := ms, locals := 45 * d }
def Cok (G : Gt) (γ : Γt) (own : String) (cc : ByteArray) (ret : Option FieldType) (d mc ms : Nat) (Qr : Option Value → Mm → Prop) (Qx : String → Mm → Prop) (lh : Launch) (nL : Nat) (nm : String) : Prop := match γ with
  | (p, l, e, R, s, m, args, below, meth, c, Qr1, Qx1, mc1, ms1, nL1) => p.tables.exec = Jvm.exec ∧ c.code = cc ∧ meth.sig.returnType = ret ∧ c.maxLocals = nL ∧ s.vm.findClass own = some m.cls ∧ (∀ w ∈ AW, w.before args s = true) ∧ meth.locks = false ∧ (∀ x ∈ c.exceptionTable.toList, False) ∧ Gok G s ∧ Low G s.heap ∧ l.stackTraces = false ∧ 0 < G.2.2.size ∧ l = lh ∧ R = rmOf d mc ms ∧ Qr1 = Qr ∧ Qx1 = Qx ∧ mc1 = mc ∧ ms1 = ms ∧ nL1 = nL ∧ meth.name = nm
theorem Low.of {G : Gt} {H0 H : Heap} {locs : List Loc} (h : Low G H0) (hS : va_S (gA G) H0 H locs) : Low G H :=
  ⟨Nat.le_trans h.1 hS.1, fun q hq => (hS.2.1 q (Nat.lt_of_lt_of_le hq h.1) (fun z => by unfold gA at z; omega)).trans (h.2 q hq)⟩
/-- a contract: from the memory M, with these arguments, at the depth d -/
def Ct (G : Gt) (l : Launch) (y : MethodName) (cc : ByteArray) (maxL : Nat) (ret : Option FieldType) (d : Nat) (M : Mm) (As : List Value) (mc ms : Nat) (Qr : Option Value → Mm → Prop) (Qx : String → Mm → Prop) : Prop :=
  vx_Met l y (wsOf y cc maxL ret) (rmOf d mc ms) (CP G M As) (CQ G Qr) (CX G Qx) mc ms (gA G)
