theorem FI.miss {l : Tl} {b n i : Nat} (h : FI l b i) (hs : l.Pairwise (fun a b => a.1 < b.1)) (hn : 0 < n) (hb : b + n < 10000) (hd : i = l.length ∨ (i < l.length ∧ ¬ (l.getD i (0, 0)).1 ≤ nI (b + n - 1))) : fday l b n = none := by
  obtain ⟨h1, h2, h3, h4⟩ := h
  have htw : tw l (nI b) ≤ i := by
    rcases hd with e | ⟨e1, e2⟩
    · rw [e]; exact tw_le _ _
    · rcases Nat.lt_or_ge i (tw l (nI b)) with g | g
      · exact absurd (i_le_trans (tw_lt g) (nI_le (by omega) (by omega))) e2
      · exact g
  refine fday_miss (lj := l.take i) (r := l.drop i) (by omega) (List.take_append_drop i l).symm (fun e he k hk q => ?_) h3 (h4 htw)
  rcases hd with e1 | ⟨e1, e2⟩
  · rw [e1] at he; simp at he
  · obtain ⟨j, hj, rfl⟩ := List.getElem_of_mem he
    rw [List.length_drop] at hj
    rw [List.getElem_drop] at q
    have q2 := i_le_trans q (nI_le (a := b + k) (b := b + n - 1) (by omega) (by omega))
    refine e2 ?_
    have h10 : (l.getD i (0, 0)).1 = (l[i]).1 := by simp [List.getD, e1]
    rw [h10]
    rcases Nat.eq_zero_or_pos j with g | g
    · subst g; exact q2
    · exact i_le_trans (le_of_lt' (List.pairwise_iff_getElem.mp hs _ _ e1 (show i + j < l.length by omega) (by omega))) q2
