/-- how many entries have begun on a day, from the first on -/
def tw (l : Tl) (d : Int32) : Nat := (l.takeWhile (fun e => decide (e.1 ≤ d))).length
theorem tw_le (l : Tl) (d : Int32) : tw l d ≤ l.length := by
  unfold tw
  induction l with
  | nil => simp
  | cons e l ih => rw [List.takeWhile_cons]; split <;> simp_all
theorem tw_lt {d : Int32} : ∀ {l : Tl} {j : Nat}, j < tw l d → (l.getD j (0, 0)).1 ≤ d
  | [], j, h => by simp [tw] at h
  | e :: l, j, h => by
    unfold tw at h
    rw [List.takeWhile_cons] at h
    by_cases q : e.1 ≤ d
    · rw [if_pos (by simpa using q)] at h
      cases j with
      | zero => simpa using q
      | succ j => have := tw_lt (l := l) (d := d) (j := j) (by unfold tw; simpa using h); simpa using this
    · rw [if_neg (by simpa using q)] at h; simp at h
theorem tw_ge {d : Int32} : ∀ {l : Tl}, tw l d < l.length → ¬ (l.getD (tw l d) (0, 0)).1 ≤ d
  | [], h => by simp at h
  | e :: l, h => by
    unfold tw at h ⊢
    rw [List.takeWhile_cons] at h ⊢
    by_cases q : e.1 ≤ d
    · rw [if_pos (by simpa using q)] at h ⊢
      have := tw_ge (l := l) (d := d) (by unfold tw; simpa using h)
      unfold tw at this
      simpa using this
    · rw [if_neg (by simpa using q)]; simpa using q
theorem look_tw {d : Int32} : ∀ {l : Tl} (a : Int32), l.Pairwise (fun a b => a.1 ≤ b.1) → l.foldl (fun a e => if e.1 ≤ d then e.2 else a) a = if tw l d = 0 then a else (l.getD (tw l d - 1) (0, 0)).2
  | [], a, _ => by simp [tw]
  | e :: l, a, h => by
    rw [List.foldl_cons]
    obtain ⟨h1, h2⟩ := List.pairwise_cons.mp h
    rw [look_tw _ h2]
    by_cases q : e.1 ≤ d
    · have e1 : tw (e :: l) d = tw l d + 1 := by unfold tw; rw [List.takeWhile_cons, if_pos (by simpa using q)]; simp
      rw [e1, if_pos q, if_neg (Nat.succ_ne_zero _)]
      by_cases z : tw l d = 0
      · rw [if_pos z, z]; simp
      · rw [if_neg z]
        obtain ⟨k, hk⟩ : ∃ k, tw l d = k + 1 := ⟨tw l d - 1, by omega⟩
        rw [hk]; simp
    · have e1 : tw (e :: l) d = 0 := by unfold tw; rw [List.takeWhile_cons, if_neg (by simpa using q)]; simp
      have e2 : tw l d = 0 := by
        unfold tw
        cases l with
        | nil => simp
        | cons z l =>
          rw [List.takeWhile_cons, if_neg (by
            have h3 := h1 z (by simp)
            have h4 := i_nle' q
            simp only [decide_eq_true_eq]
            rw [i_le] at h3 ⊢
            rw [i_lt] at h4
            omega)]
          simp
      rw [e1, e2, if_pos rfl, if_pos rfl, if_neg q]
theorem val_tw {l : Tl} {d : Int32} (hb : l.length ≤ 1100) (h : l.Pairwise (fun a b => a.1 ≤ b.1)) : valI l (nI (tw l d) - 1) = look l d := by
  have h0 := tw_le l d
  unfold look
  rw [look_tw _ h]
  unfold valI
  by_cases z : tw l d = 0
  · rw [if_pos z, z, if_neg]
    rw [isIx_iff]
    have : (nI 0 - 1).toInt = -1 := by decide
    omega
  · obtain ⟨k, hk⟩ : ∃ k, tw l d = k + 1 := ⟨tw l d - 1, by omega⟩
    rw [if_neg z, hk, ← nI_1, nI_p1s1, if_pos (isIx_of (by omega) (by omega)), ix_nI (by omega)]
    rfl
