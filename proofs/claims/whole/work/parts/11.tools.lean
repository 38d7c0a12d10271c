/-! numbers and timelines -/
theorem i_add {a b : Int32} (h1 : -2147483648 ≤ a.toInt + b.toInt) (h2 : a.toInt + b.toInt < 2147483648) : (a + b).toInt = a.toInt + b.toInt := by
  rw [Int32.toInt_add, Int.bmod]; split <;> omega
theorem i_sub {a b : Int32} (h1 : -2147483648 ≤ a.toInt - b.toInt) (h2 : a.toInt - b.toInt < 2147483648) : (a - b).toInt = a.toInt - b.toInt := by
  rw [Int32.toInt_sub, Int.bmod]; split <;> omega
theorem i_mul {a b : Int32} (h1 : -2147483648 ≤ a.toInt * b.toInt) (h2 : a.toInt * b.toInt < 2147483648) : (a * b).toInt = a.toInt * b.toInt := by
  rw [Int32.toInt_mul, Int.bmod]
  generalize a.toInt * b.toInt = z at *
  split <;> omega
theorem i_rng (a : Int32) : -2147483648 ≤ a.toInt ∧ a.toInt < 2147483648 := ⟨Int32.le_toInt a, Int32.toInt_lt a⟩
theorem i_ext {a b : Int32} (h : a.toInt = b.toInt) : a = b := Int32.toInt_inj.mp h
theorem i_le {a b : Int32} : a ≤ b ↔ a.toInt ≤ b.toInt := Int32.le_iff_toInt_le
theorem i_lt {a b : Int32} : a < b ↔ a.toInt < b.toInt := Int32.lt_iff_toInt_lt
theorem nI_pred1 {n : Nat} (h : n < 2 ^ 31) : (nI n - 1).toInt = (n : Int) - 1 := by
  have h1 := nI_toInt h
  have h2 : (1 : Int32).toInt = 1 := by decide
  rw [i_sub (by rw [h1, h2]; omega) (by rw [h1, h2]; omega), h1, h2]
theorem isIx_iff {x : Int32} {n : Nat} : isIx x n = true ↔ 0 ≤ x.toInt ∧ x.toInt < (n : Int) := by simp [isIx]
theorem isIx_no {x : Int32} {n : Nat} : isIx x n = false ↔ ¬ (0 ≤ x.toInt ∧ x.toInt < (n : Int)) := by simp [isIx]
theorem isIx_ix {x : Int32} {n : Nat} (h : isIx x n = true) : x.toInt = (ix x : Int) ∧ ix x < n := by
  rw [isIx_iff] at h
  have : ix x = x.toInt.toNat := Int32.toNat_toInt x |>.symm
  omega
theorem isIx_nI {x : Int32} {n : Nat} (h : isIx x n = true) : x = nI (ix x) := by
  obtain ⟨h1, h2⟩ := isIx_ix h
  have h3 := (i_rng x).2
  refine i_ext ?_
  rw [nI_toInt (by omega), h1]
theorem ix_nI {n : Nat} (h : n < 2 ^ 31) : ix (nI n) = n := nI_clamp h
theorem isIx_of {i n : Nat} (h : i < n) (hn : i < 2 ^ 31) : isIx (nI i) n = true := by
  rw [isIx_iff, nI_toInt hn]; omega
theorem in_ix (v : Int32) {n : Nat} (h : n < 2 ^ 31) : (if 0 ≤ v ∧ v ≤ nI n - 1 then (1 : Int32) else 0) = bz (isIx v n) := by
  have h0 : (0 : Int32).toInt = 0 := by decide
  have e : (0 ≤ v ∧ v ≤ nI n - 1) ↔ isIx v n = true := by
    rw [isIx_iff, i_le, i_le, nI_pred1 h, h0]; omega
  unfold bz
  by_cases h1 : 0 ≤ v ∧ v ≤ nI n - 1
  · rw [if_pos h1, if_pos (e.mp h1)]
  · rw [if_neg h1, if_neg (fun q => h1 (e.mpr q))]
theorem nI_inj {a b : Nat} (ha : a < 2 ^ 31) (hb : b < 2 ^ 31) (h : nI a = nI b) : a = b := (nI_eq ha hb).mp h
theorem bz_1 {b : Bool} : bz b = 1 ↔ b = true := by cases b <;> decide
theorem bz_0 {b : Bool} : bz b = 0 ↔ b = false := by cases b <;> decide
theorem look_nil (d : Int32) : look [] d = -1 := rfl
theorem look_snoc (l : Tl) (a b d : Int32) : look (l ++ [(a, b)]) d = if a ≤ d then b else look l d := by simp [look, List.foldl_append]
theorem lastV_nil : lastV [] = -1 := rfl
theorem lastV_snoc (l : Tl) (a b : Int32) : lastV (l ++ [(a, b)]) = b := by simp [lastV]
theorem lastD_snoc (l : Tl) (a b : Int32) : lastD (l ++ [(a, b)]) = a := by simp [lastD]
theorem sq_0 (V D X : Nat → Int32) (v : Int32) : sq V D X v 0 = [] := rfl
theorem sq_y {V D X : Nat → Int32} {v : Int32} {n : Nat} (h : V n = v) : sq V D X v (n + 1) = sq V D X v n ++ [(D n, X n)] := by simp [sq, h]
theorem sq_n {V D X : Nat → Int32} {v : Int32} {n : Nat} (h : ¬ V n = v) : sq V D X v (n + 1) = sq V D X v n := by simp [sq, h]
theorem ge_nI {j n : Nat} (hj : j < 2 ^ 31) (hn : n < 2 ^ 31) (h : ¬ nI n ≤ nI j) : j < n := by rw [nI_leI hn hj] at h; omega
theorem le_nI {j n : Nat} (hj : j < 2 ^ 31) (hn : n < 2 ^ 31) (h : nI n ≤ nI j) : n ≤ j := (nI_leI hn hj).mp h
theorem i_nle {a b : Int32} (h : a < b) : ¬ b ≤ a := by rw [i_le]; rw [i_lt] at h; omega
theorem i_nlt {a b : Int32} (h : ¬ a < b) : b ≤ a := by rw [i_le]; rw [i_lt] at h; omega
theorem i_nle' {a b : Int32} (h : ¬ a ≤ b) : b < a := by rw [i_lt]; rw [i_le] at h; omega
theorem nn {p : Prop} (h : ¬ ¬ p) : p := Classical.not_not.mp h
theorem rb01 {x : Int32} (h : x = 0 ∨ x = 1) : x = bz (decide (x = 1)) := by rcases h with h | h <;> rw [h] <;> rfl
theorem bz_nar (b : Bool) : narrow .boolean (.int (bz b)) = .int (bz b) := by cases b <;> rfl
