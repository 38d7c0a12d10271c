/-! numbers and timelines -/
theorem i_add {a b : Int32} (h1 : -2147483648 ≤ a.toInt + b.toInt) (h2 : a.toInt + b.toInt < 2147483648) : (a + b).toInt = a.toInt + b.toInt := by
  rw [Int32.toInt_add, Int.bmod]; split <;> omega
theorem i_sub {a b : Int32} (h1 : -2147483648 ≤ a.toInt - b.toInt) (h2 : a.toInt - b.toInt < 2147483648) : (a - b).toInt = a.toInt - b.toInt := by
  rw [Int32.toInt_sub, Int.bmod]; split <;> omega
theorem i_mul {a b : Int32} (h1 : -2147483648 ≤ a.toInt * b.toInt) (h2 : a.toInt * b.toInt < 2147483648) : (a * b).toInt = a.toInt * b.toInt := by
  rw [Int32.toInt_mul, Int.bmod]
  generalize a.toInt * b.toInt = z at *
  split <;> omega
theorem i_rng (a : Int32) : -2147483648 ≤ a.toInt ∧ a.toInt < 2147483648 := ⟨Int32.le_toInt a, Int32.toInt_lt a⟩
theorem i_ext {a b : Int32} (h : a.toInt = b.toInt) : a = b := Int32.toInt_inj.mp h
theorem i_le {a b : Int32} : a ≤ b ↔ a.toInt ≤ b.toInt := Int32.le_iff_toInt_le
theorem i_lt {a b : Int32} : a < b ↔ a.toInt < b.toInt := Int32.lt_iff_toInt_lt
theorem nI_pred1 {n : Nat} (h : n < 2 ^ 31) : (nI n - 1).toInt = (n : Int) - 1 := by
  have h1 := nI_toInt h
  have h2 : (1 : Int32).toInt = 1 := by decide
  rw [i_sub (by rw [h1, h2]; omega) (by rw [h1, h2]; omega), h1, h2]
theorem isIx_iff {x : Int32} {n : Nat} : isIx x n = true ↔ 0 ≤ x.toInt ∧ x.toInt < (n : Int) := by simp [isIx]
theorem isIx_no {x : Int32} {n : Nat} : isIx x n = false ↔ ¬ (0 ≤ x.toInt ∧ x.toInt < (n : Int)) := by simp [isIx]
theorem isIx_ix {x : Int32} {n : Nat} (h : isIx x n = true) : x.toInt = (ix x : Int) ∧ ix x < n := by
  rw [isIx_iff] at h
  have : ix x = x.toInt.toNat := Int32.toNat_toInt x |>.symm
  omega
theorem isIx_nI {x : Int32} {n : Nat} (h : isIx x n = true) : x = nI (ix x) := by
  obtain ⟨h1, h2⟩ := isIx_ix h
  have h3 := (i_rng x).2
  refine i_ext ?_
  rw [nI_toInt (by omega), h1]
theorem ix_nI {n : Nat} (h : n < 2 ^ 31) : ix (nI n) = n := nI_clamp h
theorem isIx_of {i n : Nat} (h : i < n) (hn : i < 2 ^ 31) : isIx (nI i) n = true := by
  rw [isIx_iff, nI_toInt hn]; omega
theorem in_ix (v : Int32) {n : Nat} (h : n < 2 ^ 31) : (if 0 ≤ v ∧ v ≤ nI n - 1 then (1 : Int32) else 0) = bz (isIx v n) := by
  have h0 : (0 : Int32).toInt = 0 := by decide
  have e : (0 ≤ v ∧ v ≤ nI n - 1) ↔ isIx v n = true := by
    rw [isIx_iff, i_le, i_le, nI_pred1 h, h0]; omega
  unfold bz
  by_cases h1 : 0 ≤ v ∧ v ≤ nI n - 1
  · rw [if_pos h1, if_pos (e.mp h1)]
  · rw [if_neg h1, if_neg (fun q => h1 (e.mpr q))]
theorem nI_inj {a b : Nat} (ha : a < 2 ^ 31) (hb : b < 2 ^ 31) (h : nI a = nI b) : a = b := (nI_eq ha hb).mp h
theorem bz_1 {b : Bool} : bz b = 1 ↔ b = true := by cases b <;> decide
theorem bz_0 {b : Bool} : bz b = 0 ↔ b = false := by cases b <;> decide
theorem look_nil (d : Int32) : look [] d = -1 := rfl
theorem look_snoc (l : Tl) (a b d : Int32) : look (l ++ [(a, b)]) d = if a ≤ d then b else look l d := by simp [look, List.foldl_append]
theorem lastV_nil : lastV [] = -1 := rfl
theorem lastV_snoc (l : Tl) (a b : Int32) : lastV (l ++ [(a, b)]) = b := by simp [lastV]
theorem lastD_snoc (l : Tl) (a b : Int32) : lastD (l ++ [(a, b)]) = a := by simp [lastD]
theorem sq_0 (V D X : Nat → Int32) (v : Int32) : sq V D X v 0 = [] := rfl
theorem sq_y {V D X : Nat → Int32} {v : Int32} {n : Nat} (h : V n = v) : sq V D X v (n + 1) = sq V D X v n ++ [(D n, X n)] := by simp [sq, h]
theorem sq_n {V D X : Nat → Int32} {v : Int32} {n : Nat} (h : ¬ V n = v) : sq V D X v (n + 1) = sq V D X v n := by simp [sq, h]
theorem ge_nI {j n : Nat} (hj : j < 2 ^ 31) (hn : n < 2 ^ 31) (h : ¬ nI n ≤ nI j) : j < n := by rw [nI_leI hn hj] at h; omega
theorem le_nI {j n : Nat} (hj : j < 2 ^ 31) (hn : n < 2 ^ 31) (h : nI n ≤ nI j) : n ≤ j := (nI_leI hn hj).mp h
theorem i_nle {a b : Int32} (h : a < b) : ¬ b ≤ a := by rw [i_le]; rw [i_lt] at h; omega
theorem i_nlt {a b : Int32} (h : ¬ a < b) : b ≤ a := by rw [i_le]; rw [i_lt] at h; omega
theorem i_nle' {a b : Int32} (h : ¬ a ≤ b) : b < a := by rw [i_lt]; rw [i_le] at h; omega
theorem nn {p : Prop} (h : ¬ ¬ p) : p := Classical.not_not.mp h
theorem rb01 {x : Int32} (h : x = 0 ∨ x = 1) : x = bz (decide (x = 1)) := by rcases h with h | h <;> rw [h] <;> rfl
theorem bz_nar (b : Bool) : narrow .boolean (.int (bz b)) = .int (bz b) := by cases b <;> rfl
theorem look_last {l : Tl} {d : Int32} (h : ∀ e ∈ l, e.1 ≤ d) : look l d = lastV l := by
  rcases List.eq_nil_or_concat l with rfl | ⟨l1, e, rfl⟩
  · rfl
  · obtain ⟨a, b⟩ := e
    have h1 : a ≤ d := h (a, b) (by simp)
    simp only [List.concat_eq_append, look_snoc, lastV_snoc, if_pos h1]
theorem Inv.lk {S : St} {t : Nat} (h : Inv S t) {v r : Nat} (hv : v < sN S 1) (hr : r < 3) : look (sT S r v) (sD S) = lastV (sT S r v) := look_last (fun e he => ((h.ts v hv r hr).1 e he).2)
theorem Inv.lk3 {S : St} {t : Nat} (h : Inv S t) {p : Nat} (hp : p < sN S 2) : look (sT S 3 p) (sD S) = lastV (sT S 3 p) := look_last (fun e he => ((h.p3 p hp).1 e he).2)
theorem Inv.lkB {S : St} {t : Nat} (h : Inv S t) {v r : Nat} (hv : v < sN S 1) (hr : r < 3) : look (sT S r v) 3000 = lastV (sT S r v) := look_last (fun e he => by
  have h1 := ((h.ts v hv r hr).1 e he).2
  have h2 := h.bD.2
  rw [i_le] at h1 ⊢
  have : (3000 : Int32).toInt = 3000 := by decide
  omega)
theorem fst1_hit {f : Nat → Bool} {j : Nat} (h : ∀ k, k < j → f k = false) (hj : f j = true) : ∀ n, j < n → fst1 f n = some j
  | 0, hn => absurd hn (Nat.not_lt_zero _)
  | n + 1, hn => by
    by_cases e : j = n
    · subst e
      have h0 : ∀ n, n ≤ j → fst1 f n = none := by
        intro n
        induction n with
        | zero => intro _; rfl
        | succ n ih => intro hn; simp [fst1, ih (by omega), h n (by omega)]
      simp [fst1, h0 j (Nat.le_refl _), hj]
    · simp [fst1, fst1_hit h hj n (by omega)]
theorem fst1_miss {f : Nat → Bool} : ∀ n, (∀ k, k < n → f k = false) → fst1 f n = none
  | 0, _ => rfl
  | n + 1, h => by simp [fst1, fst1_miss n (fun k hk => h k (by omega)), h n (by omega)]
theorem fst1_some {f : Nat → Bool} : ∀ {n i : Nat}, fst1 f n = some i → i < n ∧ f i = true ∧ ∀ k, k < i → f k = false
  | 0, i, h => by simp [fst1] at h
  | n + 1, i, h => by
    unfold fst1 at h
    cases e : fst1 f n with
    | some k =>
      rw [e] at h
      cases h
      obtain ⟨h1, h2, h3⟩ := fst1_some e
      exact ⟨by omega, h2, h3⟩
    | none =>
      rw [e] at h
      by_cases hf : f n = true
      · simp [hf] at h
        subst h
        refine ⟨by omega, hf, fun k hk => ?_⟩
        cases hk2 : f k with
        | false => rfl
        | true =>
          have := (fst1_none n e) k hk
          rw [hk2] at this; cases this
      · simp [hf] at h
where
  fst1_none : ∀ n, fst1 f n = none → ∀ k, k < n → f k = false
    | 0, _, k, hk => absurd hk (Nat.not_lt_zero _)
    | n + 1, h, k, hk => by
      unfold fst1 at h
      cases e : fst1 f n with
      | some i => rw [e] at h; simp at h
      | none =>
        rw [e] at h
        by_cases hf : f n = true
        · simp [hf] at h
        · by_cases hkn : k = n
          · subst hkn; simpa using hf
          · exact fst1_none n e k (by omega)
theorem fst1_no {f : Nat → Bool} {n : Nat} (h : fst1 f n = none) : ∀ k, k < n → f k = false := fst1_some.fst1_none n h
def blkN (S : St) (v j : Nat) : Bool := decide (sV S v 7 = 1) || (List.range j).any (fun j => decide (0 < sL S v j))
theorem blkN_s (S : St) (v j : Nat) : blkN S v (j + 1) = (blkN S v j || decide (0 < sL S v j)) := by simp [blkN, List.range_succ, Bool.or_assoc]
theorem cnt_s (f : Nat → Bool) (n : Nat) : cnt f (n + 1) = cnt f n + (if f n then 1 else 0) := rfl
theorem lien_ix {v : Int32} {n j : Nat} (hv : isIx v n = true) (hn : n ≤ 15) (hj : j < 6) : ((6 * v) + (nI j)).toInt = ((6 * ix v + j : Nat) : Int) := by
  obtain ⟨h1, h2⟩ := isIx_ix hv
  have h6 : (6 : Int32).toInt = 6 := by decide
  have h3 : (6 * v).toInt = 6 * v.toInt := by rw [i_mul (by rw [h6]; omega) (by rw [h6]; omega), h6]
  have h4 := nI_toInt (n := j) (by omega)
  rw [i_add (by rw [h3, h4]; omega) (by rw [h3, h4]; omega), h3, h4, h1]; omega
theorem i_gt0 {x : Int32} (h : x ≤ 0) : ¬ (0 : Int32) < x := by rw [i_lt]; rw [i_le] at h; omega
theorem bz_ne0 {b : Bool} (h : ¬ bz b = 0) : b = true := by cases b <;> simp_all [bz]
theorem bz_eq0 {b : Bool} (h : bz b = 0) : b = false := bz_0.mp h
theorem i_gt1 {x : Int32} (h : ¬ x ≤ 0) : (0 : Int32) < x := i_nle' h
theorem nI_a0 (n : Nat) : nI n + 0 = nI n := by simp
theorem i_nlt2 {a b : Int32} (h : b ≤ a) : ¬ a < b := by rw [i_lt]; rw [i_le] at h; omega
theorem i_nle2 {a b : Int32} (h : ¬ b ≤ a) : a < b := by rw [i_lt]; rw [i_le] at h; omega
theorem bk1 {a b : Bool} {z : Int32} (h : z = bz a) (c : ¬ z = 0) : 1 = bz (a || b) := by subst h; rw [bz_ne0 c]; rfl
theorem bk2 {a : Bool} {z x y : Int32} (h : z = bz a) (c : ¬ ¬ z = 0) (e : x = y) (d : x ≤ 0) : 0 = bz (a || decide (0 < y)) := by subst h; subst e; rw [bz_eq0 (nn c), decide_eq_false (i_gt0 d)]; rfl
theorem bk3 {a : Bool} {z x y : Int32} (h : z = bz a) (c : ¬ ¬ z = 0) (e : x = y) (d : ¬ x ≤ 0) : 1 = bz (a || decide (0 < y)) := by subst h; subst e; rw [bz_eq0 (nn c), decide_eq_true (i_gt1 d)]; rfl
theorem i_lt_not {a b : Int32} : a < b ↔ ¬ b ≤ a := ⟨i_nle, i_nle'⟩
theorem i32_a0 (x : Int32) : x + 0 = x := by simp
theorem nn9 {p : Prop} (h : p) : p := h
