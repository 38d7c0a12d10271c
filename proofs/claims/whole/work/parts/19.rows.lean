/-! rows that are set -/
theorem sq_mem {V D X : Nat → Int32} {v : Int32} : ∀ {n : Nat} {e : Int32 × Int32}, e ∈ sq V D X v n → ∃ j, j < n ∧ V j = v ∧ e = (D j, X j)
  | 0, e, h => by simp [sq] at h
  | n + 1, e, h => by
    by_cases hv : V n = v
    · rw [sq_y hv] at h
      rcases List.mem_append.mp h with h | h
      · obtain ⟨j, h1, h2⟩ := sq_mem h
        exact ⟨j, by omega, h2⟩
      · rw [List.mem_singleton] at h
        exact ⟨n, by omega, hv, h⟩
    · rw [sq_n hv] at h
      obtain ⟨j, h1, h2⟩ := sq_mem h
      exact ⟨j, by omega, h2⟩
theorem sq_congr {V D X V1 D1 X1 : Nat → Int32} {v : Int32} : ∀ {n : Nat}, (∀ j, j < n → V1 j = V j ∧ (V j = v → D1 j = D j ∧ X1 j = X j)) → sq V1 D1 X1 v n = sq V D X v n
  | 0, _ => rfl
  | n + 1, h => by
    obtain ⟨h1, h2⟩ := h n (by omega)
    have h3 := sq_congr (n := n) (fun j hj => h j (by omega))
    by_cases hv : V n = v
    · obtain ⟨h4, h5⟩ := h2 hv
      rw [sq_y hv, sq_y (h1.trans hv), h3, h4, h5]
    · rw [sq_n hv, sq_n (fun e => hv (h1.symm.trans e)), h3]
theorem sq_at {V D X : Nat → Int32} {v : Int32} {a : Nat} (ha : V a = v) : ∀ {n : Nat}, a < n → (∀ k, a < k → k < n → ¬ V k = v) → sq V D X v n = sq V D X v a ++ [(D a, X a)]
  | 0, h, _ => absurd h (Nat.not_lt_zero _)
  | n + 1, h, hk => by
    by_cases e : a = n
    · subst e; rw [sq_y ha]
    · rw [sq_n (hk n (by omega) (by omega)), sq_at ha (n := n) (by omega) (fun k h1 h2 => hk k h1 (by omega))]
theorem setT_new {l : Tl} {d x : Int32} (h : ∀ e ∈ l, e.1 ≠ d) : setT l d x = l ++ [(d, x)] := by
  unfold setT
  rcases List.eq_nil_or_concat l with rfl | ⟨l1, e, rfl⟩
  · rfl
  · have := h e (by simp)
    rw [if_neg (by simp [this])]
theorem setT_old (l : Tl) (d x y : Int32) : setT (l ++ [(d, y)]) d x = l ++ [(d, x)] := by simp [setT]
theorem setT_gt {l : Tl} {d x : Int32} (h : l.getLast?.map Prod.fst ≠ some d) : setT l d x = l ++ [(d, x)] := if_neg h
theorem sq_setA {V D X : Nat → Int32} {v d x : Int32} {n : Nat} (h : ∀ k, k < n → ¬ (V k = v ∧ D k = d)) : sq (va_up V n v) (va_up D n d) (va_up X n x) v (n + 1) = setT (sq V D X v n) d x := by
  rw [sq_y (va_up_self _ _ _), va_up_self, va_up_self, sq_congr (V := V) (D := D) (X := X) (fun j hj => ⟨va_up_ne _ _ (by omega), fun _ => ⟨va_up_ne _ _ (by omega), va_up_ne _ _ (by omega)⟩⟩), setT_new]
  intro e he
  obtain ⟨j, h1, h2, h3⟩ := sq_mem he
  rw [h3]
  exact fun q => h j h1 ⟨h2, q⟩
theorem sq_setA' {V D X : Nat → Int32} {v d x u : Int32} {n : Nat} (hu : v ≠ u) : sq (va_up V n v) (va_up D n d) (va_up X n x) u (n + 1) = sq V D X u n := by
  rw [sq_n (by rw [va_up_self]; exact hu)]
  exact sq_congr (fun j hj => ⟨va_up_ne _ _ (by omega), fun _ => ⟨va_up_ne _ _ (by omega), va_up_ne _ _ (by omega)⟩⟩)
theorem sq_setB {V D X : Nat → Int32} {v d x : Int32} {n a : Nat} (ha : a < n) (hv : V a = v) (hd : D a = d) (hl : ∀ k, a < k → k < n → ¬ (V k = v ∧ D k = d)) (hle : ∀ e ∈ sq V D X v n, e.1 ≤ d) (hp : (sq V D X v n).Pairwise (fun a b => a.1 ≤ b.1)) : sq (va_up V a v) (va_up D a d) (va_up X a x) v n = setT (sq V D X v n) d x := by
  have hno : ∀ k, a < k → k < n → ¬ V k = v := by
    intro k h1 h2 h3
    obtain ⟨r, hr⟩ := sq_split1 (D := D) (X := X) h2 h3
    obtain ⟨r2, hr2⟩ := sq_split1 (V := V) (v := v) (D := D) (X := X) (n := k) h1 hv
    rw [hr2] at hr
    have hm : (D k, X k) ∈ sq V D X v n := by rw [hr]; simp
    have h4 := hle _ hm
    rw [hr] at hp
    have h5 := (List.pairwise_append.mp hp).2.2 (D a, X a) (by simp) (D k, X k) (by simp)
    rw [hd] at h5
    refine hl k h1 h2 ⟨h3, i_ext ?_⟩
    rw [i_le] at h4 h5
    exact Int.le_antisymm h4 h5
  have hV : va_up V a v = V := by
    funext j
    by_cases e : j = a
    · subst e; rw [va_up_self, hv]
    · rw [va_up_ne _ _ e]
  have hD : va_up D a d = D := by
    funext j
    by_cases e : j = a
    · subst e; rw [va_up_self, hd]
    · rw [va_up_ne _ _ e]
  rw [hV, hD, sq_at hv ha hno, sq_at (X := X) hv ha hno, va_up_self, hd, setT_old]
  congr 1
  exact sq_congr (fun j hj => ⟨rfl, fun _ => ⟨rfl, va_up_ne _ _ (by omega)⟩⟩)
theorem sq_setB' {V D X : Nat → Int32} {v d x u : Int32} {n a : Nat} (hv : V a = v) (hd : D a = d) (hu : v ≠ u) : sq (va_up V a v) (va_up D a d) (va_up X a x) u n = sq V D X u n := by
  refine sq_congr (fun j hj => ?_)
  by_cases e : j = a
  · subst e
    exact ⟨by rw [va_up_self, hv], fun q => absurd (hv.symm.trans q) hu⟩
  · exact ⟨va_up_ne _ _ e, fun _ => ⟨va_up_ne _ _ e, va_up_ne _ _ e⟩⟩
/-- where a row is set: behind all, or at the last one of this vehicle and day -/
def atRow (V D : Nat → Int32) (v d : Int32) (n a j : Nat) : Prop := (a = n ∧ ∀ k, k < j → ¬ (V k = v ∧ D k = d)) ∨ (a < j ∧ V a = v ∧ D a = d ∧ ∀ k, a < k → k < j → ¬ (V k = v ∧ D k = d))
theorem atRow_0 (V D : Nat → Int32) (v d : Int32) (n : Nat) : atRow V D v d n n 0 := Or.inl ⟨rfl, fun k hk => absurd hk (Nat.not_lt_zero _)⟩
theorem atRow_y {V D : Nat → Int32} {v d : Int32} {n j : Nat} (h1 : V j = v) (h2 : D j = d) : atRow V D v d n j (j + 1) := Or.inr ⟨by omega, h1, h2, fun k h3 h4 => absurd h3 (by omega)⟩
theorem atRow_n {V D : Nat → Int32} {v d : Int32} {n a j : Nat} (h : atRow V D v d n a j) (hn : ¬ (V j = v ∧ D j = d)) : atRow V D v d n a (j + 1) := by
  rcases h with ⟨h1, h2⟩ | ⟨h1, h2, h3, h4⟩
  · refine Or.inl ⟨h1, fun k hk => ?_⟩
    by_cases e : k = j
    · subst e; exact hn
    · exact h2 k (by omega)
  · refine Or.inr ⟨by omega, h2, h3, fun k hk hk2 => ?_⟩
    by_cases e : k = j
    · subst e; exact hn
    · exact h4 k hk (by omega)
theorem atRow_le {V D : Nat → Int32} {v d : Int32} {n a j : Nat} (h : atRow V D v d n a j) (hj : j ≤ n) : a ≤ n := by
  rcases h with ⟨h1, -⟩ | ⟨h1, -⟩ <;> omega
/-- the rows as they stand behind it -/
theorem atRow_set {V D X : Nat → Int32} {v d x : Int32} {n a n1 : Nat} (h : atRow V D v d n a n) (hn : n1 = if a = n then n + 1 else n) (hle : ∀ e ∈ sq V D X v n, e.1 ≤ d) (hp : (sq V D X v n).Pairwise (fun a b => a.1 ≤ b.1)) :
    sq (va_up V a v) (va_up D a d) (va_up X a x) v n1 = setT (sq V D X v n) d x ∧ (∀ u, v ≠ u → sq (va_up V a v) (va_up D a d) (va_up X a x) u n1 = sq V D X u n) ∧ n1 ≤ n + 1 ∧ (∀ j, j < n1 → va_up V a v j = v ∨ (j < n ∧ va_up V a v j = V j)) ∧ (∀ j, j < n1 → va_up X a x j = x ∨ (j < n ∧ va_up X a x j = X j)) := by
  have hlast : (∀ j, j < n1 → va_up V a v j = v ∨ (j < n ∧ va_up V a v j = V j)) ∧ (∀ j, j < n1 → va_up X a x j = x ∨ (j < n ∧ va_up X a x j = X j)) := by
    refine ⟨fun j hj => ?_, fun j hj => ?_⟩ <;>
    · by_cases e : j = a
      · subst e; left; rw [va_up_self]
      · right
        refine ⟨?_, va_up_ne _ _ e⟩
        split at hn <;> omega
  rcases h with ⟨h1, h2⟩ | ⟨h1, h2, h3, h4⟩
  · subst h1
    rw [if_pos rfl] at hn
    subst hn
    exact ⟨sq_setA h2, fun u hu => sq_setA' hu, Nat.le_refl _, hlast⟩
  · rw [if_neg (by omega)] at hn
    subst hn
    exact ⟨sq_setB h1 h2 h3 h4 hle hp, fun u hu => sq_setB' h2 h3 hu, by omega, hlast⟩
