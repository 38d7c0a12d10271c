/-! what each change leaves -/
theorem sN_uN (S : St) (k n : Nat) : sN (uN S k n) = va_up (sN S) k n := Eq.trans rfl rfl
theorem sD_uN (S : St) (k n : Nat) : sD (uN S k n) = sD S := Eq.trans rfl rfl
theorem sC_uN (S : St) (k n : Nat) : sC (uN S k n) = sC S := Eq.trans rfl rfl
theorem sP_uN (S : St) (k n : Nat) : sP (uN S k n) = sP S := Eq.trans rfl rfl
theorem sV_uN (S : St) (k n : Nat) : sV (uN S k n) = sV S := Eq.trans rfl rfl
theorem sL_uN (S : St) (k n : Nat) : sL (uN S k n) = sL S := Eq.trans rfl rfl
theorem sT_uN (S : St) (k n : Nat) : sT (uN S k n) = sT S := Eq.trans rfl rfl
theorem sQ_uN (S : St) (k n : Nat) : sQ (uN S k n) = sQ S := Eq.trans rfl rfl
theorem sO_uN (S : St) (k n : Nat) : sO (uN S k n) = sO S := Eq.trans rfl rfl
theorem sN_uD (S : St) (d : Int32) : sN (uD S d) = sN S := Eq.trans rfl rfl
theorem sD_uD (S : St) (d : Int32) : sD (uD S d) = d := Eq.trans rfl rfl
theorem sC_uD (S : St) (d : Int32) : sC (uD S d) = sC S := Eq.trans rfl rfl
theorem sP_uD (S : St) (d : Int32) : sP (uD S d) = sP S := Eq.trans rfl rfl
theorem sV_uD (S : St) (d : Int32) : sV (uD S d) = sV S := Eq.trans rfl rfl
theorem sL_uD (S : St) (d : Int32) : sL (uD S d) = sL S := Eq.trans rfl rfl
theorem sT_uD (S : St) (d : Int32) : sT (uD S d) = sT S := Eq.trans rfl rfl
theorem sQ_uD (S : St) (d : Int32) : sQ (uD S d) = sQ S := Eq.trans rfl rfl
theorem sO_uD (S : St) (d : Int32) : sO (uD S d) = sO S := Eq.trans rfl rfl
theorem sN_uC (S : St) (c : Int64) : sN (uC S c) = sN S := Eq.trans rfl rfl
theorem sD_uC (S : St) (c : Int64) : sD (uC S c) = sD S := Eq.trans rfl rfl
theorem sC_uC (S : St) (c : Int64) : sC (uC S c) = c := Eq.trans rfl rfl
theorem sP_uC (S : St) (c : Int64) : sP (uC S c) = sP S := Eq.trans rfl rfl
theorem sV_uC (S : St) (c : Int64) : sV (uC S c) = sV S := Eq.trans rfl rfl
theorem sL_uC (S : St) (c : Int64) : sL (uC S c) = sL S := Eq.trans rfl rfl
theorem sT_uC (S : St) (c : Int64) : sT (uC S c) = sT S := Eq.trans rfl rfl
theorem sQ_uC (S : St) (c : Int64) : sQ (uC S c) = sQ S := Eq.trans rfl rfl
theorem sO_uC (S : St) (c : Int64) : sO (uC S c) = sO S := Eq.trans rfl rfl
theorem sN_uP (S : St) (k : Nat) (x : Int32) : sN (uP S k x) = sN S := Eq.trans rfl rfl
theorem sD_uP (S : St) (k : Nat) (x : Int32) : sD (uP S k x) = sD S := Eq.trans rfl rfl
theorem sC_uP (S : St) (k : Nat) (x : Int32) : sC (uP S k x) = sC S := Eq.trans rfl rfl
theorem sP_uP (S : St) (k : Nat) (x : Int32) : sP (uP S k x) = va_up (sP S) k x := Eq.trans rfl rfl
theorem sV_uP (S : St) (k : Nat) (x : Int32) : sV (uP S k x) = sV S := Eq.trans rfl rfl
theorem sL_uP (S : St) (k : Nat) (x : Int32) : sL (uP S k x) = sL S := Eq.trans rfl rfl
theorem sT_uP (S : St) (k : Nat) (x : Int32) : sT (uP S k x) = sT S := Eq.trans rfl rfl
theorem sQ_uP (S : St) (k : Nat) (x : Int32) : sQ (uP S k x) = sQ S := Eq.trans rfl rfl
theorem sO_uP (S : St) (k : Nat) (x : Int32) : sO (uP S k x) = sO S := Eq.trans rfl rfl
theorem sN_uV (S : St) (v k : Nat) (x : Int32) : sN (uV S v k x) = sN S := Eq.trans rfl rfl
theorem sD_uV (S : St) (v k : Nat) (x : Int32) : sD (uV S v k x) = sD S := Eq.trans rfl rfl
theorem sC_uV (S : St) (v k : Nat) (x : Int32) : sC (uV S v k x) = sC S := Eq.trans rfl rfl
theorem sP_uV (S : St) (v k : Nat) (x : Int32) : sP (uV S v k x) = sP S := Eq.trans rfl rfl
theorem sV_uV (S : St) (v k : Nat) (x : Int32) : sV (uV S v k x) = up2 (sV S) v k x := Eq.trans rfl rfl
theorem sL_uV (S : St) (v k : Nat) (x : Int32) : sL (uV S v k x) = sL S := Eq.trans rfl rfl
theorem sT_uV (S : St) (v k : Nat) (x : Int32) : sT (uV S v k x) = sT S := Eq.trans rfl rfl
theorem sQ_uV (S : St) (v k : Nat) (x : Int32) : sQ (uV S v k x) = sQ S := Eq.trans rfl rfl
theorem sO_uV (S : St) (v k : Nat) (x : Int32) : sO (uV S v k x) = sO S := Eq.trans rfl rfl
theorem sN_uL (S : St) (v k : Nat) (x : Int32) : sN (uL S v k x) = sN S := Eq.trans rfl rfl
theorem sD_uL (S : St) (v k : Nat) (x : Int32) : sD (uL S v k x) = sD S := Eq.trans rfl rfl
theorem sC_uL (S : St) (v k : Nat) (x : Int32) : sC (uL S v k x) = sC S := Eq.trans rfl rfl
theorem sP_uL (S : St) (v k : Nat) (x : Int32) : sP (uL S v k x) = sP S := Eq.trans rfl rfl
theorem sV_uL (S : St) (v k : Nat) (x : Int32) : sV (uL S v k x) = sV S := Eq.trans rfl rfl
theorem sL_uL (S : St) (v k : Nat) (x : Int32) : sL (uL S v k x) = up2 (sL S) v k x := Eq.trans rfl rfl
theorem sT_uL (S : St) (v k : Nat) (x : Int32) : sT (uL S v k x) = sT S := Eq.trans rfl rfl
theorem sQ_uL (S : St) (v k : Nat) (x : Int32) : sQ (uL S v k x) = sQ S := Eq.trans rfl rfl
theorem sO_uL (S : St) (v k : Nat) (x : Int32) : sO (uL S v k x) = sO S := Eq.trans rfl rfl
theorem sN_uT (S : St) (r i : Nat) (x : Tl) : sN (uT S r i x) = sN S := Eq.trans rfl rfl
theorem sD_uT (S : St) (r i : Nat) (x : Tl) : sD (uT S r i x) = sD S := Eq.trans rfl rfl
theorem sC_uT (S : St) (r i : Nat) (x : Tl) : sC (uT S r i x) = sC S := Eq.trans rfl rfl
theorem sP_uT (S : St) (r i : Nat) (x : Tl) : sP (uT S r i x) = sP S := Eq.trans rfl rfl
theorem sV_uT (S : St) (r i : Nat) (x : Tl) : sV (uT S r i x) = sV S := Eq.trans rfl rfl
theorem sL_uT (S : St) (r i : Nat) (x : Tl) : sL (uT S r i x) = sL S := Eq.trans rfl rfl
theorem sT_uT (S : St) (r i : Nat) (x : Tl) : sT (uT S r i x) = up2 (sT S) r i x := Eq.trans rfl rfl
theorem sQ_uT (S : St) (r i : Nat) (x : Tl) : sQ (uT S r i x) = sQ S := Eq.trans rfl rfl
theorem sO_uT (S : St) (r i : Nat) (x : Tl) : sO (uT S r i x) = sO S := Eq.trans rfl rfl
theorem sN_uQ (S : St) (p k : Nat) (x : Int32) : sN (uQ S p k x) = sN S := Eq.trans rfl rfl
theorem sD_uQ (S : St) (p k : Nat) (x : Int32) : sD (uQ S p k x) = sD S := Eq.trans rfl rfl
theorem sC_uQ (S : St) (p k : Nat) (x : Int32) : sC (uQ S p k x) = sC S := Eq.trans rfl rfl
theorem sP_uQ (S : St) (p k : Nat) (x : Int32) : sP (uQ S p k x) = sP S := Eq.trans rfl rfl
theorem sV_uQ (S : St) (p k : Nat) (x : Int32) : sV (uQ S p k x) = sV S := Eq.trans rfl rfl
theorem sL_uQ (S : St) (p k : Nat) (x : Int32) : sL (uQ S p k x) = sL S := Eq.trans rfl rfl
theorem sT_uQ (S : St) (p k : Nat) (x : Int32) : sT (uQ S p k x) = sT S := Eq.trans rfl rfl
theorem sQ_uQ (S : St) (p k : Nat) (x : Int32) : sQ (uQ S p k x) = up2 (sQ S) p k x := Eq.trans rfl rfl
theorem sO_uQ (S : St) (p k : Nat) (x : Int32) : sO (uQ S p k x) = sO S := Eq.trans rfl rfl
theorem sN_uO (S : St) (n k : Nat) (x : Int32) : sN (uO S n k x) = sN S := Eq.trans rfl rfl
theorem sD_uO (S : St) (n k : Nat) (x : Int32) : sD (uO S n k x) = sD S := Eq.trans rfl rfl
theorem sC_uO (S : St) (n k : Nat) (x : Int32) : sC (uO S n k x) = sC S := Eq.trans rfl rfl
theorem sP_uO (S : St) (n k : Nat) (x : Int32) : sP (uO S n k x) = sP S := Eq.trans rfl rfl
theorem sV_uO (S : St) (n k : Nat) (x : Int32) : sV (uO S n k x) = sV S := Eq.trans rfl rfl
theorem sL_uO (S : St) (n k : Nat) (x : Int32) : sL (uO S n k x) = sL S := Eq.trans rfl rfl
theorem sT_uO (S : St) (n k : Nat) (x : Int32) : sT (uO S n k x) = sT S := Eq.trans rfl rfl
theorem sQ_uO (S : St) (n k : Nat) (x : Int32) : sQ (uO S n k x) = sQ S := Eq.trans rfl rfl
theorem sO_uO (S : St) (n k : Nat) (x : Int32) : sO (uO S n k x) = up2 (sO S) n k x := Eq.trans rfl rfl
/-! one pair of notices used -/
theorem fitR_eq {S : St} {v s b : Nat} (hv : v < 2 ^ 31) (hs : sO S s 2 = nI v) : fitR S s b = (fitS S v s && fitB S s b && !blk S v) := by unfold fitR; rw [hs, ix_nI hv]
theorem step_no {S : St} {v : Nat} (hv : v < 2 ^ 31) (h : ∀ s, s < sN S 3 → sO S s 2 = nI v → ∀ b, b < sN S 3 → fitR S s b = false) : stepQ S v = none := by
  unfold stepQ
  by_cases hb : blk S v = true
  · rw [if_pos hb]
  · rw [if_neg hb]
    cases hp : pairOf S v with
    | none => rfl
    | some s =>
      exfalso
      obtain ⟨h1, h2, -⟩ := fst1_some hp
      simp only [Bool.and_eq_true] at h2
      obtain ⟨h2, h3⟩ := h2
      have h4 : sO S s 2 = nI v := by
        unfold fitS at h2; simp only [Bool.and_eq_true, decide_eq_true_eq] at h2; exact h2.1.1.2
      cases hq : buyerOf S s with
      | none => rw [hq] at h3; cases h3
      | some b =>
        obtain ⟨g1, g2, -⟩ := fst1_some hq
        have h5 := h s h1 h4 b g1
        rw [fitR_eq hv h4, h2, g2] at h5
        simp at h5
        exact hb h5
theorem step_yes {S : St} {v s b : Nat} (hv : v < 2 ^ 31) (h : ∀ k, k < s → sO S k 2 = nI v → ∀ b, b < sN S 3 → fitR S k b = false) (hs : s < sN S 3) (hsv : sO S s 2 = nI v) (hb0 : ∀ k, k < b → fitR S s k = false) (hb : b < sN S 3) (hf : fitR S s b = true) : stepQ S v = some (useQ S v s b) := by
  have hf2 := hf
  rw [fitR_eq hv hsv] at hf2
  simp only [Bool.and_eq_true, Bool.not_eq_true'] at hf2
  obtain ⟨⟨f1, f2⟩, f3⟩ := hf2
  have hbo : buyerOf S s = some b := fst1_hit (fun k hk => by
    have := hb0 k hk
    rw [fitR_eq hv hsv, f1, f3] at this
    simpa using this) f2 _ hb
  have hpo : pairOf S v = some s := fst1_hit (fun k hk => by
    cases e : fitS S v k && (buyerOf S k).isSome with
    | false => rfl
    | true =>
      exfalso
      simp only [Bool.and_eq_true] at e
      obtain ⟨e1, e2⟩ := e
      have h4 : sO S k 2 = nI v := by
        unfold fitS at e1; simp only [Bool.and_eq_true, decide_eq_true_eq] at e1; exact e1.1.1.2
      cases hq : buyerOf S k with
      | none => rw [hq] at e2; cases e2
      | some c =>
        obtain ⟨g1, g2, -⟩ := fst1_some hq
        have h5 := h k hk h4 c g1
        rw [fitR_eq hv h4, e1, g2, f3] at h5
        cases h5) (by rw [f1, hbo]; rfl) _ hs
  unfold stepQ
  rw [if_neg (by rw [f3]; decide), hpo]
  simp only [hbo]
theorem step_of {S S1 : St} {v : Nat} (h : stepQ S v = some S1) : ∃ s b, s < sN S 3 ∧ b < sN S 3 ∧ blk S v = false ∧ fitS S v s = true ∧ fitB S s b = true ∧ S1 = useQ S v s b := by
  unfold stepQ at h
  by_cases hb : blk S v = true
  · rw [if_pos hb] at h; cases h
  · rw [if_neg hb] at h
    cases hp : pairOf S v with
    | none => rw [hp] at h; cases h
    | some s =>
      rw [hp] at h
      cases hq : buyerOf S s with
      | none => simp only [hq] at h; cases h
      | some b =>
        simp only [hq, Option.some.injEq] at h
        obtain ⟨h1, h2, -⟩ := fst1_some hp
        obtain ⟨g1, g2, -⟩ := fst1_some hq
        simp only [Bool.and_eq_true] at h2
        exact ⟨s, b, h1, g1, by simpa using hb, h2.1, g2, h.symm⟩
theorem fitS_of {S : St} {v s : Nat} (h : fitS S v s = true) : sO S s 5 = 111 ∧ sO S s 2 = nI v ∧ sO S s 1 = lastV (sT S 0 v) ∧ lastD (sT S 0 v) ≤ sO S s 4 := by
  unfold fitS at h; simp only [Bool.and_eq_true, decide_eq_true_eq] at h; exact ⟨h.1.1.1, h.1.1.2, h.1.2, h.2⟩
theorem fitB_of {S : St} {s b : Nat} (h : fitB S s b = true) : sO S b 1 = -1 ∧ sO S b 5 = 111 ∧ sO S b 2 = sO S s 2 ∧ sO S b 3 = sO S s 3 := by
  unfold fitB at h; simp only [Bool.and_eq_true, decide_eq_true_eq] at h; exact ⟨h.1.1.1.1, h.1.1.1.2, h.1.1.2, h.1.2⟩
theorem useQ_O (S : St) (v s b n k : Nat) : sO (useQ S v s b) n k = if n = b ∧ k = 6 then nI s else if n = b ∧ k = 5 then 117 else if n = s ∧ k = 6 then nI b else if n = s ∧ k = 5 then 117 else sO S n k := by
  unfold useQ
  simp only [sO_uT, sO_uO, up2]
  grind
theorem useQ_T0 (S : St) {v s b : Nat} (u : Nat) : sT (useQ S v s b) 0 u = if u = v then sT S 0 v ++ [(sO S s 4, sO S s 3)] else sT S 0 u := by
  have e4 : sO (uO (uO (uO (uO S s 5 117) s 6 (nI b)) b 5 117) b 6 (nI s)) s 4 = sO S s 4 := by simp only [sO_uO, up2]; simp
  have e3 : sO (uO (uO (uO (uO S s 5 117) s 6 (nI b)) b 5 117) b 6 (nI s)) s 3 = sO S s 3 := by simp only [sO_uO, up2]; simp
  unfold useQ
  simp only [sT_uT, e3, e4]
  simp only [sT_uO, up2]
  simp
theorem useQ_T (S : St) {v s b r : Nat} (hr : r ≠ 0) : sT (useQ S v s b) r = sT S r := by
  unfold useQ
  simp only [sT_uT, sT_uO]
  exact up2_row _ _ _ hr
theorem cnt_use {S : St} {v s b : Nat} (hs : s < sN S 3) (hb : b < sN S 3) (hsb : s ≠ b) (h1 : sO S s 5 = 111) (h2 : sO S b 5 = 111) : cnt (fun i => decide (sO (useQ S v s b) i 5 = 117)) (sN S 3) = cnt (fun i => decide (sO S i 5 = 117)) (sN S 3) + 2 := by
  have e1 : cnt (fun i => decide (sO (useQ S v s b) i 5 = 117)) (sN S 3) = cnt (fun i => decide (sO (uO S s 5 117) i 5 = 117)) (sN S 3) + (if b < sN S 3 then 1 else 0) := cnt_set (i := b) (by show decide (up2 (sO S) s 5 117 b 5 = 117) = false; rw [up2_b _ _ _ _ (Ne.symm hsb), h2]; decide) (by simp [useQ_O]) (fun j hj => by
    show decide (sO (useQ S v s b) j 5 = 117) = decide (up2 (sO S) s 5 117 j 5 = 117)
    rw [useQ_O]; unfold up2
    by_cases e : j = s <;> simp [e, hj, hsb]) _
  have e2 : cnt (fun i => decide (sO (uO S s 5 117) i 5 = 117)) (sN S 3) = cnt (fun i => decide (sO S i 5 = 117)) (sN S 3) + (if s < sN S 3 then 1 else 0) := cnt_set (i := s) (by rw [h1]; decide) (by show decide (up2 (sO S) s 5 117 s 5 = 117) = true; rw [up2_same]; decide) (fun j hj => by
    show decide (up2 (sO S) s 5 117 j 5 = 117) = _
    rw [up2_b _ _ _ _ hj]) _
  rw [e1, e2, if_pos hs, if_pos hb]
theorem cnt_open {S : St} {v s b : Nat} (hs : s < sN S 3) (h1 : sO S s 5 = 111) : cnt (fun i => decide (sO (useQ S v s b) i 5 = 111)) (sN S 3) + 1 ≤ cnt (fun i => decide (sO S i 5 = 111)) (sN S 3) := by
  have hle : ∀ {f g : Nat → Bool}, (∀ j, f j = true → g j = true) → ∀ n, cnt f n ≤ cnt g n := by
    intro f g h n
    induction n with
    | zero => exact Nat.le_refl _
    | succ n ih =>
      rw [cnt_s, cnt_s]
      have := h n
      by_cases e : f n = true
      · rw [if_pos e, if_pos (this e)]; omega
      · rw [if_neg e]; omega
  have e2 := cnt_set (f := fun i => decide (i ≠ s ∧ sO S i 5 = 111)) (g := fun i => decide (sO S i 5 = 111)) (i := s) (by simp) (by simp [h1]) (fun j hj => by simp [hj]) (sN S 3)
  rw [e2, if_pos hs]
  have := hle (f := fun i => decide (sO (useQ S v s b) i 5 = 111)) (g := fun i => decide (i ≠ s ∧ sO S i 5 = 111)) (fun j hj => by
    simp only [decide_eq_true_eq] at hj ⊢
    rw [useQ_O] at hj
    by_cases e : j = s
    · by_cases e2 : j = b
      · exfalso; subst e2; simp at hj
      · exfalso; subst e; simp [e2] at hj
    · by_cases e2 : j = b
      · exfalso; subst e2; simp at hj
      · simp [e, e2] at hj; exact ⟨e, hj⟩) (sN S 3)
  omega
theorem passN_add {S S1 : St} {v : Nat} (h : ∀ u, u ≠ v → (sT S1 0 u).length = (sT S 0 u).length) (h1 : (sT S1 0 v).length = (sT S 0 v).length + 1) : ∀ n, passN S1 n = passN S n + (if v < n then 1 else 0)
  | 0 => rfl
  | n + 1 => by
    unfold passN
    rw [passN_add h h1 n]
    by_cases e : n = v
    · subst e; rw [h1]; simp; omega
    · rw [h n e]
      by_cases e2 : v < n
      · rw [if_pos e2, if_pos (show v < n + 1 by omega)]; omega
      · rw [if_neg e2, if_neg (show ¬ v < n + 1 by omega)]; omega
theorem srt_snoc {l : Tl} {D d x : Int32} (h : srt l D) (h0 : 0 ≤ d) (hD : d ≤ D) (hl : ∀ e ∈ l, e.1 ≤ d) : srt (l ++ [(d, x)]) D := by
  refine ⟨fun e he => ?_, List.pairwise_append.mpr ⟨h.2, by simp, fun a ha b hb => ?_⟩⟩
  · rcases List.mem_append.mp he with he | he
    · exact h.1 e he
    · simp at he; subst he; exact ⟨h0, hD⟩
  · simp at hb; subst hb; exact hl a ha
theorem le_lastD {l : Tl} (hp : l.Pairwise (fun a b => a.1 ≤ b.1)) : ∀ e ∈ l, e.1 ≤ lastD l := by
  rcases List.eq_nil_or_concat l with rfl | ⟨l1, z, rfl⟩
  · intro e he; simp at he
  · obtain ⟨a, b⟩ := z
    rw [List.concat_eq_append] at hp ⊢
    rw [lastD_snoc]
    intro e he
    rcases List.mem_append.mp he with he | he
    · exact (List.pairwise_append.mp hp).2.2 e he (a, b) (by simp)
    · simp at he; subst he; exact Int32.le_refl _
theorem i_le_trans {a b c : Int32} (h : a ≤ b) (h2 : b ≤ c) : a ≤ c := by rw [i_le] at *; omega
theorem fit_ne {S : St} {t v s b : Nat} (hI : Inv S t) (hv : v < sN S 1) (h1 : fitS S v s = true) (h2 : fitB S s b = true) : s ≠ b := by
  intro e
  subst e
  have h3 := (fitS_of h1).2.2.1
  rw [(fitB_of h2).1] at h3
  have h4 := hI.kp hv
  rw [← h3, isIx_m1] at h4; cases h4
theorem Inv.use {S : St} {t v s b : Nat} (h : Inv S t) (hv : v < sN S 1) (hs : s < sN S 3) (hb : b < sN S 3) (h1 : fitS S v s = true) (h2 : fitB S s b = true) : Inv (useQ S v s b) t := by
  obtain ⟨f1, f2, f3, f4⟩ := fitS_of h1
  obtain ⟨g1, g2, g3, g4⟩ := fitB_of h2
  have hsb := fit_ne h hv h1 h2
  obtain ⟨n41, n42⟩ := h.n4 s hs
  have o : ∀ n k, k ≠ 5 → k ≠ 6 → sO (useQ S v s b) n k = sO S n k := fun n k h5 h6 => by rw [useQ_O]; simp [h5, h6]
  have c1 := cnt_use (v := v) hs hb hsb f1 g2
  have c3 := passN_add (S := S) (S1 := useQ S v s b) (v := v) (fun u hu => by rw [useQ_T0, if_neg hu]) (by rw [useQ_T0, if_pos rfl]; simp) (sN S 1)
  have hO := useQ_O S v s b
  have hT0 := fun u => useQ_T0 S (v := v) (s := s) (b := b) u
  have hTr := fun r hr => useQ_T S (v := v) (s := s) (b := b) (r := r) hr
  have hT1 := hTr 1 (by decide)
  have hT2 := hTr 2 (by decide)
  have hT3 := hTr 3 (by decide)
  have hN : sN (useQ S v s b) = sN S := rfl
  have hD : sD (useQ S v s b) = sD S := rfl
  have hV : sV (useQ S v s b) = sV S := rfl
  have hL : sL (useQ S v s b) = sL S := rfl
  have hQ : sQ (useQ S v s b) = sQ S := rfl
  generalize useQ S v s b = S1 at *
  unfold Inv
  rw [hN, hD, hV, hL, hQ, hT1, hT2, hT3]
  exact ⟨h.bK, h.bV, h.bP, h.bN, h.bD, h.bt, (fun u hu => by
    rw [hT0]
    split
    · simp
    · exact h.tn u hu), (fun u hu r hr => by
    by_cases e : r = 0
    · subst e
      rw [hT0]
      split
      · exact srt_snoc (h.ts v hv 0 (by decide)) n41 n42 (fun e he => i_le_trans (le_lastD (h.ts v hv 0 (by decide)).2 e he) f4)
      · exact h.ts u hu 0 (by decide)
    · rw [hTr r e]; exact h.ts u hu r hr), h.s2, (fun u hu e he => by
    rw [hT0] at he
    split at he
    · rcases List.mem_append.mp he with he | he
      · exact h.t0 v hv e he
      · simp at he; subst he; exact h.n3 s hs
    · exact h.t0 u hu e he), h.t1, h.t2, h.tl, h.kd, h.sc, h.ad, h.li, h.p3, h.pv, h.pl, h.ex, h.kq, (fun n hn => by rw [o n 1 (by decide) (by decide)]; exact h.n1 n hn), (fun n hn => by rw [o n 2 (by decide) (by decide)]; exact h.n2 n hn), (fun n hn => by rw [o n 3 (by decide) (by decide)]; exact h.n3 n hn), (fun n hn => by rw [o n 4 (by decide) (by decide)]; exact h.n4 n hn), (fun n hn => by
    have h5 := h.n5 n hn
    rw [hO]
    by_cases e : n = b
    · simp [e]
    · by_cases e2 : n = s
      · simp [e2, hsb]
      · simp [e, e2]; exact h5), (by
    have c2 := h.cu
    rw [if_pos hv] at c3
    omega)⟩
theorem settle_none {S : St} {v : Nat} (h : stepQ S v = none) : ∀ k, settleQ k S v = S
  | 0 => rfl
  | k + 1 => by unfold settleQ; rw [h]
theorem settle_some {S S1 : St} {v : Nat} (h : stepQ S v = some S1) (k : Nat) : settleQ (k + 1) S v = settleQ k S1 v := by
  conv => lhs; unfold settleQ
  rw [h]
theorem Inv.step {S S1 : St} {t v : Nat} (h : Inv S t) (hv : v < sN S 1) (hs : stepQ S v = some S1) : Inv S1 t ∧ sN S1 = sN S ∧ cnt (fun i => decide (sO S1 i 5 = 111)) (sN S 3) + 1 ≤ cnt (fun i => decide (sO S i 5 = 111)) (sN S 3) := by
  obtain ⟨s, b, h1, h2, h3, h4, h5, rfl⟩ := step_of hs
  exact ⟨Inv.use h hv h1 h2 h4 h5, rfl, cnt_open h1 (fitS_of h4).1⟩
theorem Inv.settle {t v : Nat} : ∀ (k : Nat) {S : St}, Inv S t → v < sN S 1 → Inv (settleQ k S v) t ∧ sN (settleQ k S v) = sN S
  | 0, S, h, _ => ⟨h, rfl⟩
  | k + 1, S, h, hv => by
    cases hs : stepQ S v with
    | none => rw [settle_none hs]; exact ⟨h, rfl⟩
    | some S1 =>
      obtain ⟨h1, h2, -⟩ := Inv.step h hv hs
      rw [settle_some hs]
      obtain ⟨g1, g2⟩ := Inv.settle k h1 (by rw [h2]; exact hv)
      exact ⟨g1, g2.trans h2⟩
