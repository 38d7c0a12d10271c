/-! the first day with a value -/
theorem cut_at {l : Tl} {i : Nat} (h : i < l.length) : l = l.take i ++ l.getD i (0, 0) :: l.drop (i + 1) ∧ l.take (i + 1) = l.take i ++ [l.getD i (0, 0)] := by
  have e : l.getD i (0, 0) = l[i] := by simp [List.getD, h]
  rw [e]
  refine ⟨?_, by rw [List.take_succ_eq_append_getElem h]⟩
  rw [List.getElem_cons_drop, List.take_append_drop]
theorem mem_take {l : Tl} {i : Nat} {e : Int32 × Int32} (h : e ∈ l.take i) : ∃ j, j < i ∧ j < l.length ∧ e = l.getD j (0, 0) := by
  obtain ⟨j, hj, rfl⟩ := List.getElem_of_mem h
  have h1 : j < i ∧ j < l.length := by rw [List.length_take] at hj; omega
  exact ⟨j, h1.1, h1.2, by rw [List.getElem_take]; simp [List.getD, h1.2]⟩
def FI (l : Tl) (b i : Nat) : Prop := tw l (nI b) - 1 ≤ i ∧ i ≤ l.length ∧ (∀ e ∈ l.take i, e.1 ≤ nI b ∨ e.2 ≠ 1) ∧ (tw l (nI b) ≤ i → look (l.take i) (nI b) ≠ 1)
theorem FI.start (l : Tl) (b : Nat) : FI l b (tw l (nI b) - 1) := by
  have h0 := tw_le l (nI b)
  refine ⟨Nat.le_refl _, by omega, fun e he => ?_, fun h => ?_⟩
  · obtain ⟨j, h1, h2, rfl⟩ := mem_take he
    exact Or.inl (tw_lt (by omega))
  · have h1 : tw l (nI b) - 1 = 0 := by omega
    rw [h1]; exact (by decide : ¬ (-1 : Int32) = 1)
theorem FI.next {l : Tl} {b i : Nat} (h : FI l b i) (hi : i < l.length) (hv : ¬ (l.getD i (0, 0)).2 = 1) : FI l b (i + 1) := by
  obtain ⟨h1, h2, h3, h4⟩ := h
  obtain ⟨-, c2⟩ := cut_at hi
  refine ⟨by omega, hi, fun e he => ?_, fun h => ?_⟩
  · rw [c2] at he
    rcases List.mem_append.mp he with he | he
    · exact h3 e he
    · rw [List.mem_singleton] at he; rw [he]; exact Or.inr hv
  · rw [c2, show l.getD i (0, 0) = ((l.getD i (0, 0)).1, (l.getD i (0, 0)).2) from rfl, look_snoc]
    by_cases q : (l.getD i (0, 0)).1 ≤ nI b
    · rw [if_pos q]; exact hv
    · rw [if_neg q]
      refine h4 ?_
      rcases Nat.lt_or_ge i (tw l (nI b)) with g | g
      · exact absurd (tw_lt g) q
      · exact g
