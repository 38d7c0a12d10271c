theorem drop_gt {l : Tl} (hs : l.Pairwise (fun a b => a.1 < b.1)) {i : Nat} (hi : i < l.length) : ∀ e ∈ l.drop (i + 1), (l.getD i (0, 0)).1 < e.1 := by
  intro e he
  have c1 := (cut_at hi).1
  rw [c1] at hs
  exact (List.pairwise_cons.mp (List.pairwise_append.mp hs).2.1).1 e he
theorem le_of_lt' {a b : Int32} (h : a < b) : a ≤ b := by rw [i_le]; rw [i_lt] at h; omega
/-- a hit, the loop at an entry with the value, not behind the last day -/
theorem FI.hit {l : Tl} {b n i : Nat} (h : FI l b i) (hs : l.Pairwise (fun a b => a.1 < b.1)) (h0 : ∀ e ∈ l, (0 : Int32) ≤ e.1) (hn : 0 < n) (hb : b + n < 10000) (hi : i < l.length) (hv : (l.getD i (0, 0)).2 = 1) (hd : (l.getD i (0, 0)).1 ≤ nI (b + n - 1)) : rdI ((fday l b n).map (fun k => b + k)) = (if (l.getD i (0, 0)).1 < nI b then nI b else (l.getD i (0, 0)).1) := by
  obtain ⟨h1, h2, h3, h4⟩ := h
  obtain ⟨c1, c2⟩ := cut_at hi
  have hg := drop_gt hs hi
  have hm : l.getD i (0, 0) ∈ l := by rw [show l.getD i (0, 0) = l[i] by simp [List.getD, hi]]; exact List.getElem_mem hi
  obtain ⟨d1, d2⟩ := day_nI (D := 0) (h0 _ hm)
  generalize hz : l.getD i (0, 0) = z at *
  obtain ⟨x, y⟩ := z
  simp only at *
  subst hv
  by_cases q : x ≤ nI b
  · have hr : ∀ e ∈ l.drop (i + 1), ¬ e.1 ≤ nI b := by
      intro e he q2
      have h5 : tw l (nI b) ≤ i + 1 := by omega
      have h6 := tw_ge (l := l) (d := nI b)
      obtain ⟨j, hj, rfl⟩ := List.getElem_of_mem he
      rw [List.length_drop] at hj
      rw [List.getElem_drop] at q2
      have h7 : tw l (nI b) ≤ i + 1 + j := by omega
      have h8 : tw l (nI b) < l.length := by omega
      refine h6 h8 ?_
      rcases Nat.eq_or_lt_of_le h7 with g | g
      · rw [g]; simpa [List.getD, show i + 1 + j < l.length by omega] using q2
      · have h9 := List.pairwise_iff_getElem.mp hs _ _ h8 (show i + 1 + j < l.length by omega) g
        have h10 : (l.getD (tw l (nI b)) (0, 0)).1 = (l[tw l (nI b)]).1 := by simp [List.getD, h8]
        rw [h10]
        exact i_le_trans (le_of_lt' h9) q2
    have e1 := fday_hit0 (l := l) (lj := l.take i ++ [(x, 1)]) (r := l.drop (i + 1)) (n := n) (by rw [List.append_assoc]; exact c1) hr (by rw [look_snoc, if_pos q]) hn
    rw [e1]
    show nI (b + 0) = _
    rw [Nat.add_zero]
    by_cases q2 : x < nI b
    · rw [if_pos q2]
    · rw [if_neg q2]; exact i_ext (by rw [i_le] at q; rw [i_lt] at q2; omega)
  · have h5 : tw l (nI b) ≤ i := by
      rcases Nat.lt_or_ge i (tw l (nI b)) with g | g
      · exact absurd (by rw [hz] : (l.getD i (0, 0)).1 = x) (fun e => q (e ▸ tw_lt g))
      · exact g
    have q1 := nI_toInt (n := b) (by omega)
    have q2 := nI_toInt (n := b + n - 1) (by omega)
    have q3 : b < ix x := by (have q4 := q; rw [i_le] at q4; omega)
    have q5 : ix x < b + n := by (have q4 := hd; rw [i_le] at q4; omega)
    rw [d1] at c1 hg
    rw [fday_hit (by omega) c1 hg h3 (h4 h5) q3 q5, if_neg (fun g => q (le_of_lt' g)), d1]
    show nI (b + (ix (nI (ix x)) - b)) = _
    rw [ix_nI (by omega), show b + (ix x - b) = ix x by omega]
