/-! the first day of a quarter on the road -/
theorem look_app_gt {l r : Tl} {d : Int32} (h : ∀ e ∈ r, ¬ e.1 ≤ d) : look (l ++ r) d = look l d := by
  unfold look
  rw [List.foldl_append]
  generalize List.foldl (fun a e => if e.1 ≤ d then e.2 else a) (-1) l = z
  induction r generalizing z with
  | nil => rfl
  | cons e r ih =>
    rw [List.foldl_cons, if_neg (h e List.mem_cons_self)]
    exact ih (fun x hx => h x (List.mem_cons_of_mem _ hx)) z
theorem look_off {f : Int32} : ∀ (n : Nat) (l : Tl), l.length = n → (∀ e ∈ l, e.1 ≤ f ∨ e.2 ≠ 1) → look l f ≠ 1 → ∀ d, f ≤ d → look l d ≠ 1 := by
  intro n
  induction n with
  | zero => intro l hl _ _ d _; rw [List.length_eq_zero_iff.mp hl, look_nil]; decide
  | succ n ih =>
    intro l hl h1 h2 d hd
    rcases List.eq_nil_or_concat l with rfl | ⟨l1, e, rfl⟩
    · simp at hl
    · obtain ⟨a, b⟩ := e
      simp only [List.concat_eq_append] at hl h1 h2 ⊢
      rw [look_snoc] at h2 ⊢
      by_cases ha : a ≤ d
      · rw [if_pos ha]
        rcases h1 (a, b) (by simp) with h | h
        · rw [if_pos h] at h2; exact h2
        · exact h
      · rw [if_neg ha]
        have hf : ¬ a ≤ f := fun q => ha (by rw [i_le] at *; omega)
        rw [if_neg hf] at h2
        exact ih l1 (by simpa using hl) (fun e he => h1 e (List.mem_append_left _ he)) h2 d hd
theorem sq_split (V D X : Nat → Int32) (v : Int32) : ∀ (n j : Nat), j ≤ n → ∃ r, sq V D X v n = sq V D X v j ++ r
  | 0, j, h => ⟨[], by rw [show j = 0 by omega]; simp⟩
  | n + 1, j, h => by
    by_cases e : j = n + 1
    · subst e; exact ⟨[], by simp⟩
    · obtain ⟨r, hr⟩ := sq_split V D X v n j (by omega)
      by_cases hv : V n = v
      · exact ⟨r ++ [(D n, X n)], by rw [sq_y hv, hr, List.append_assoc]⟩
      · exact ⟨r, by rw [sq_n hv, hr]⟩
theorem sq_split1 {V D X : Nat → Int32} {v : Int32} {n j : Nat} (h : j < n) (hv : V j = v) : ∃ r, sq V D X v n = sq V D X v j ++ (D j, X j) :: r := by
  obtain ⟨r, hr⟩ := sq_split V D X v n (j + 1) (by omega)
  exact ⟨r, by rw [hr, sq_y hv, List.append_assoc]; rfl⟩
def rdI (o : Option Nat) : Int32 := match o with
  | some d => nI d
  | none => -1
theorem fday_hit0 {l lj r : Tl} {b n : Nat} (hl : l = lj ++ r) (hr : ∀ e ∈ r, ¬ e.1 ≤ nI b) (h : look lj (nI b) = 1) (hn : 0 < n) : fday l b n = some 0 := by
  refine fst1_hit (fun k hk => absurd hk (Nat.not_lt_zero _)) ?_ n hn
  rw [hl, Nat.add_zero, look_app_gt hr]
  exact decide_eq_true h
theorem fday_miss {l lj r : Tl} {b n : Nat} (hb : b + n < 2 ^ 31) (hl : l = lj ++ r) (hr : ∀ e ∈ r, ∀ k, k < n → ¬ e.1 ≤ nI (b + k)) (hA : ∀ e ∈ lj, e.1 ≤ nI b ∨ e.2 ≠ 1) (h : look lj (nI b) ≠ 1) : fday l b n = none := by
  refine fst1_miss n (fun k hk => ?_)
  rw [hl, look_app_gt (fun e he => hr e he k hk)]
  exact decide_eq_false (look_off _ lj rfl hA h _ (nI_le (by omega) (by omega)))
theorem fday_hit {l lj r : Tl} {b n dn : Nat} (hb : b + n < 2 ^ 31) (hl : l = lj ++ (nI dn, 1) :: r) (hr : ∀ e ∈ r, nI dn < e.1) (hA : ∀ e ∈ lj, e.1 ≤ nI b ∨ e.2 ≠ 1) (h : look lj (nI b) ≠ 1) (h1 : b < dn) (h2 : dn < b + n) : fday l b n = some (dn - b) := by
  have hgt : ∀ k, b + k < dn → ∀ e ∈ (nI dn, 1) :: r, ¬ e.1 ≤ nI (b + k) := by
    intro k hk e he
    have h3 := nI_toInt (n := dn) (by omega)
    have h4 := nI_toInt (n := b + k) (by omega)
    rcases List.mem_cons.mp he with rfl | he
    · rw [i_le]; show ¬ (nI dn).toInt ≤ _; omega
    · have := hr e he
      rw [i_lt] at this
      rw [i_le]; omega
  refine fst1_hit (fun k hk => ?_) ?_ n (by omega)
  · rw [hl, look_app_gt (hgt k (by omega))]
    exact decide_eq_false (look_off _ lj rfl hA h _ (nI_le (by omega) (by omega)))
  · rw [hl, show b + (dn - b) = dn by omega]
    have e1 : lj ++ (nI dn, 1) :: r = (lj ++ [(nI dn, 1)]) ++ r := by simp
    rw [e1, look_app_gt (fun e he => i_nle (hr e he)), look_snoc, if_pos (by rw [i_le]; omega)]
    rfl
theorem day_nI {x D : Int32} (h0 : 0 ≤ x) : x = nI (ix x) ∧ x.toInt = (ix x : Int) := by
  have h1 : (0 : Int32).toInt = 0 := by decide
  rw [i_le, h1] at h0
  have h2 := (i_rng x).2
  have h3 : ix x = x.toInt.toNat := (Int32.toNat_toInt x).symm
  have h4 : x.toInt = (ix x : Int) := by omega
  exact ⟨i_ext (by rw [nI_toInt (by omega), h4]), h4⟩
theorem pw_split {lj r : Tl} {a b : Int32} (h : (lj ++ (a, b) :: r).Pairwise (fun x y => x.1 < y.1)) : ∀ e ∈ r, a < e.1 := by
  have h1 := (List.pairwise_append.mp h).2.1
  exact fun e he => (List.pairwise_cons.mp h1).1 e he
theorem i_lt_trans {a b c : Int32} (h : a < b) (h2 : b < c) : a < c := by rw [i_lt] at *; omega
theorem i_le_lt {a b c : Int32} (h : a ≤ b) (h2 : b < c) : a < c := by rw [i_le] at h; rw [i_lt] at *; omega
theorem rday_some {S : St} {v q k : Nat} (h : fday (sT S 2 v) (90 * q) (qlen (ix (sD S)) q) = some k) : rdI (rday S v q) = nI (90 * q + k) := by unfold rday; rw [h]; rfl
theorem rday_none {S : St} {v q : Nat} (h : fday (sT S 2 v) (90 * q) (qlen (ix (sD S)) q) = none) : rdI (rday S v q) = -1 := by unfold rday; rw [h]; rfl
theorem hA_snoc {lj : Tl} {a b f : Int32} (h : ∀ e ∈ lj, e.1 ≤ f ∨ e.2 ≠ 1) (h1 : a ≤ f ∨ b ≠ 1) : ∀ e ∈ lj ++ [(a, b)], e.1 ≤ f ∨ e.2 ≠ 1 := by
  intro e he
  rcases List.mem_append.mp he with h2 | h2
  · exact h e h2
  · rw [List.mem_singleton] at h2; subst h2; exact h1
theorem q_len {D q : Nat} (h : q < D / 90 + 1) : 0 < qlen D q ∧ 90 * q + qlen D q ≤ D + 1 := by unfold qlen; omega
theorem q_to {q : Int32} {Dx : Int32} {n : Nat} (hq : isIx q (ix Dx / 90 + 1) = true) (hD : 0 ≤ Dx.toInt ∧ Dx.toInt ≤ 3000) (e : n = ix Dx) : 90 * q = nI (90 * ix q) ∧ (if 90 * q + 90 - 1 < Dx then 90 * q + 90 - 1 else Dx) = nI (90 * ix q + qlen (ix Dx) (ix q) - 1) := by
  obtain ⟨h1, h2⟩ := isIx_ix hq
  have h3 : ix Dx = Dx.toInt.toNat := (Int32.toNat_toInt Dx).symm
  have h90 : (90 : Int32).toInt = 90 := by decide
  have h01 : (1 : Int32).toInt = 1 := by decide
  have h4 : (90 * q).toInt = 90 * ix q := by rw [i_mul (by rw [h90]; omega) (by rw [h90]; omega), h90, h1]
  have e1 : 90 * q = nI (90 * ix q) := i_ext (by rw [h4, nI_toInt (by omega)]; omega)
  refine ⟨e1, ?_⟩
  have h5 : (90 * q + 90).toInt = 90 * ix q + 90 := by rw [i_add (by rw [h4, h90]; omega) (by rw [h4, h90]; omega), h4, h90]
  have h6 : (90 * q + 90 - 1).toInt = 90 * ix q + 89 := by rw [i_sub (by rw [h5, h01]; omega) (by rw [h5, h01]; omega), h5, h01]; omega
  refine i_ext ?_
  have h7 := q_len h2
  rw [nI_toInt (by omega)]
  by_cases c : 90 * q + 90 - 1 < Dx
  · rw [if_pos c, h6]; rw [i_lt, h6] at c; unfold qlen; omega
  · rw [if_neg c]; rw [i_lt, h6] at c; unfold qlen; omega
theorem div90 {x : Int32} (h : 0 ≤ x.toInt ∧ x.toInt ≤ 3000) : x / 90 = nI (ix x / 90) := by
  have h3 : ix x = x.toInt.toNat := (Int32.toNat_toInt x).symm
  have e : x = nI (ix x) := i_ext (by rw [nI_toInt (by omega)]; omega)
  have h9 : (90 : Int32) = nI 90 := by decide
  rw [h9]
  conv => lhs; rw [e]
  exact pk_div (by omega) (by decide) (by decide)
theorem rdI_ne {S : St} {v q : Nat} (h : ¬ rdI (rday S v q) = -1) : ∃ d, rday S v q = some d ∧ rdI (rday S v q) = nI d := by
  cases e : rday S v q with
  | none => rw [e] at h; exact absurd rfl h
  | some d => exact ⟨d, rfl, rfl⟩
theorem rday_lt {S : St} {v q d : Nat} (h : rday S v q = some d) : d < 90 * q + qlen (ix (sD S)) q ∧ 90 * q ≤ d := by
  unfold rday at h
  obtain ⟨k, hk, rfl⟩ := Option.map_eq_some_iff.mp h
  have := (fst1_some hk).1
  omega
theorem rdI_eq {S : St} {v q : Nat} (hb : 90 * q + qlen (ix (sD S)) q < 2 ^ 31) (h : rdI (rday S v q) = -1) : rday S v q = none := by
  cases e : rday S v q with
  | none => rfl
  | some d =>
    rw [e] at h
    have h1 := nI_toInt (n := d) (by have := rday_lt e; omega)
    have h2 : (rdI (some d)).toInt = (nI d).toInt := rfl
    rw [h] at h2
    have h3 : (-1 : Int32).toInt = -1 := by decide
    omega
theorem sum32_s (f : Nat → Int32) (n : Nat) : sum32 f (n + 1) = sum32 f n + f n := rfl
theorem tax_0a {S : St} {k : Int32} {v q : Nat} (hb : 90 * q + qlen (ix (sD S)) q < 2 ^ 31) (h : rdI (rday S v q) = -1) : taxQ S k v q = 0 := by unfold taxQ; rw [rdI_eq hb h]
theorem tax_0b {S : St} {k : Int32} {v q : Nat} (h : ¬ rdI (rday S v q) = -1) (h2 : ¬ look (sT S 0 v) (rdI (rday S v q)) = k) : taxQ S k v q = 0 := by
  obtain ⟨d, h3, h4⟩ := rdI_ne h
  rw [h4] at h2
  unfold taxQ; rw [h3]; exact if_neg h2
theorem tax_1 {S : St} {k : Int32} {v q : Nat} (h : ¬ rdI (rday S v q) = -1) (h2 : look (sT S 0 v) (rdI (rday S v q)) = k) : taxQ S k v q = taxOf (sV S v 1) := by
  obtain ⟨d, h3, h4⟩ := rdI_ne h
  rw [h4] at h2
  unfold taxQ; rw [h3]; exact if_pos h2
theorem Inv.D3 {S : St} {t : Nat} (h : Inv S t) : ix (sD S) = (sD S).toInt.toNat ∧ ix (sD S) ≤ 3000 ∧ sD S = nI (ix (sD S)) := by
  have h3 : ix (sD S) = (sD S).toInt.toNat := (Int32.toNat_toInt (sD S)).symm
  have hD := h.bD
  exact ⟨h3, by omega, i_ext (by rw [nI_toInt (by omega)]; omega)⟩
theorem i_add_assoc (a b c : Int32) : a + b + c = a + (b + c) := Int32.add_assoc a b c
