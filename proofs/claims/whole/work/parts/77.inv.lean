/-! what holds of the register at every call -/
theorem Inv.mono {S : St} {t : Nat} (h : Inv S t) (ht : t < 512) : Inv S (t + 1) := ⟨h.bK, h.bV, h.bP, h.bN, h.bD, by omega, h.tn, h.ts, h.s2, h.t0, h.t1, h.t2, fun v hv => ⟨Nat.le_succ_of_le (h.tl v hv).1, Nat.le_succ_of_le (h.tl v hv).2⟩, h.kd, h.sc, h.ad, fun v hv j hj => ⟨(h.li v hv j hj).1, by have := (h.li v hv j hj).2; omega⟩, h.p3, h.pv, fun p hp => Nat.le_succ_of_le (h.pl p hp), h.ex, h.kq, h.n1, h.n2, h.n3, h.n4, h.n5, h.cu⟩
/-- a vehicle that was never admitted has no plate -/
def NP (S : St) : Prop := ∀ v, v < sN S 1 → sV S v 6 = 1 ∨ lastV (sT S 1 v) = -1
def Iv (S : St) (t : Nat) : Prop := Inv S t ∧ NP S
theorem look_setT (l : Tl) (D x d : Int32) : look (setT l D x) d = if D ≤ d then x else look l d := by
  unfold setT
  split
  · rename_i h
    rcases List.eq_nil_or_concat l with rfl | ⟨l1, e, rfl⟩
    · simp at h
    · obtain ⟨a, y⟩ := e
      rw [List.concat_eq_append] at h ⊢
      have ha : a = D := by simpa using h
      subst ha
      rw [List.dropLast_concat, look_snoc, look_snoc]
      by_cases g : a ≤ d
      · rw [if_pos g, if_pos g]
      · rw [if_neg g, if_neg g, if_neg g]
  · exact look_snoc _ _ _ _
theorem mem_setT {l : Tl} {D x : Int32} {e : Int32 × Int32} (h : e ∈ setT l D x) : e ∈ l ∨ e = (D, x) := by
  unfold setT at h
  split at h
  · rcases List.mem_append.mp h with h | h
    · exact Or.inl ((List.dropLast_sublist l).subset h)
    · exact Or.inr (List.mem_singleton.mp h)
  · rcases List.mem_append.mp h with h | h
    · exact Or.inl h
    · exact Or.inr (List.mem_singleton.mp h)
theorem pw_drop {r : (Int32 × Int32) → (Int32 × Int32) → Prop} {l : Tl} (h : l.Pairwise r) : l.dropLast.Pairwise r := h.sublist (List.dropLast_sublist l)
theorem srt_setT {l : Tl} {D x : Int32} (h : srt l D) (h0 : 0 ≤ D) : srt (setT l D x) D := by
  obtain ⟨h1, h2⟩ := h
  refine ⟨fun e he => ?_, ?_⟩
  · rcases mem_setT he with g | g
    · exact h1 e g
    · rw [g]; exact ⟨h0, by rw [i_le]; exact Int.le_refl _⟩
  · unfold setT
    split
    · refine List.pairwise_append.mpr ⟨pw_drop h2, List.pairwise_singleton _ _, fun a ha b hb => ?_⟩
      rw [List.mem_singleton.mp hb]; exact (h1 a ((List.dropLast_sublist l).subset ha)).2
    · refine List.pairwise_append.mpr ⟨h2, List.pairwise_singleton _ _, fun a ha b hb => ?_⟩
      rw [List.mem_singleton.mp hb]; exact (h1 a ha).2
theorem pwl_setT {l : Tl} {D x : Int32} (h : ∀ e ∈ l, e.1 ≤ D) (h2 : l.Pairwise (fun a b => a.1 < b.1)) : (setT l D x).Pairwise (fun a b => a.1 < b.1) := by
  rcases List.eq_nil_or_concat l with rfl | ⟨l1, e, rfl⟩
  · exact List.pairwise_singleton _ _
  · obtain ⟨a, y⟩ := e
    rw [List.concat_eq_append] at *
    have hA := List.pairwise_append.mp h2
    have hl : ∀ z ∈ l1, z.1 < a := fun z hz => hA.2.2 z hz (a, y) (List.mem_singleton.mpr rfl)
    have haD := h (a, y) (by simp)
    by_cases g : a = D
    · subst g
      rw [setT_snoc]
      exact List.pairwise_append.mpr ⟨hA.1, List.pairwise_singleton _ _, fun z hz b hb => by rw [List.mem_singleton.mp hb]; exact hl z hz⟩
    · have haD2 : a < D := by
        rw [i_lt]; rw [i_le] at haD
        have : a.toInt ≠ D.toInt := fun e => g (i_ext e)
        have haD : a.toInt ≤ D.toInt := haD
        omega
      rw [setT_nw (Or.inl (by rw [lastD_snoc]; exact g))]
      exact List.pairwise_append.mpr ⟨h2, List.pairwise_singleton _ _, fun z hz b hb => by
        rw [List.mem_singleton.mp hb]
        rcases List.mem_append.mp hz with hz | hz
        · exact i_lt_trans (hl z hz) haD2
        · rw [List.mem_singleton.mp hz]; exact haD2⟩
/-- a timeline the same, or set today -/
def Cg (P : Int32 → Prop) (D : Int32) (l l' : Tl) : Prop := l' = l ∨ ∃ x, P x ∧ l' = setT l D x
theorem Cg.srt {P : Int32 → Prop} {D : Int32} {l l' : Tl} (h : Cg P D l l') (hs : srt l D) (h0 : 0 ≤ D) : srt l' D := by
  rcases h with h | ⟨x, -, h⟩ <;> rw [h]
  · exact hs
  · exact srt_setT hs h0
theorem Cg.len {P : Int32 → Prop} {D : Int32} {l l' : Tl} (h : Cg P D l l') {t : Nat} (hl : l.length ≤ t) : l'.length ≤ t + 1 := by
  rcases h with h | ⟨x, -, h⟩ <;> rw [h]
  · omega
  · have := (setT_len l D x).1; omega
theorem Cg.mem {P : Int32 → Prop} {D : Int32} {l l' : Tl} (h : Cg P D l l') (hl : ∀ e ∈ l, P e.2) : ∀ e ∈ l', P e.2 := by
  rcases h with h | ⟨x, hx, h⟩ <;> rw [h]
  · exact hl
  · intro e he
    rcases mem_setT he with g | g
    · exact hl e g
    · rw [g]; exact hx
theorem Cg.lt {P : Int32 → Prop} {D d : Int32} {l l' : Tl} (h : Cg P D l l') (hd : ¬ D ≤ d) : look l' d = look l d := by
  rcases h with h | ⟨x, -, h⟩ <;> rw [h]
  rw [look_setT, if_neg hd]
theorem Cg.ge {P : Int32 → Prop} {D d : Int32} {l l' : Tl} (h : Cg P D l l') (hs : ∀ e ∈ l, e.1 ≤ D) (hd : D ≤ d) : look l' d = lastV l' := by
  rcases h with h | ⟨x, -, h⟩ <;> rw [h]
  · exact look_last (fun e he => i_le_trans (hs e he) hd)
  · rw [look_setT, if_pos hd, lastV_setT']
theorem Cg.st {P : Int32 → Prop} {D x : Int32} {l : Tl} (h : P x) : Cg P D l (setT l D x) := Or.inr ⟨x, h, rfl⟩
theorem Cg.rf {P : Int32 → Prop} {D : Int32} {l : Tl} : Cg P D l l := Or.inl rfl
theorem Inv.lx {S : St} {t v p : Nat} (hI : Inv S t) (hv : v < sN S 1) (hp : p < sN S 2) : lastV (sT S 1 v) = nI p ↔ lastV (sT S 3 p) = nI v := by
  have h := hI.ex v hv p hp (sD S)
  rw [hI.lk hv (by decide), hI.lk3 hp] at h
  exact h
theorem Inv.chg {S S' : St} {t : Nat} (h : Inv S t) (ht : t < 512) (e0 : sN S' 0 = sN S 0) (e1 : sN S' 1 = sN S 1) (e2 : sN S 2 ≤ sN S' 2) (e2b : sN S' 2 ≤ 40) (e3 : sN S' 3 = sN S 3) (eD : sD S' = sD S) (eT0 : sT S' 0 = sT S 0) (eL : sL S' = sL S) (eO : sO S' = sO S)
    (eV : ∀ v, v < sN S 1 → sV S' v 1 = sV S v 1 ∧ (sV S' v 6 = 0 ∨ sV S' v 6 = 1) ∧ (sV S' v 7 = 0 ∨ sV S' v 7 = 1))
    (h1 : ∀ v, v < sN S 1 → Cg (fun x => x = -1 ∨ isIx x (sN S' 2) = true) (sD S) (sT S 1 v) (sT S' 1 v))
    (h2 : ∀ v, v < sN S 1 → Cg (fun x => x = 0 ∨ x = 1) (sD S) (sT S 2 v) (sT S' 2 v))
    (h3 : ∀ p, p < sN S 2 → Cg (fun x => x = -1 ∨ isIx x (sN S 1) = true) (sD S) (sT S 3 p) (sT S' 3 p))
    (h3n : ∀ p, p < sN S' 2 → sN S 2 ≤ p → Cg (fun x => x = -1 ∨ isIx x (sN S 1) = true) (sD S) [] (sT S' 3 p))
    (hx : ∀ v, v < sN S 1 → ∀ p, p < sN S' 2 → (lastV (sT S' 1 v) = nI p ↔ lastV (sT S' 3 p) = nI v))
    (hq : ∀ p, p < sN S' 2 → sQ S' p 2 ≠ -1 → lastV (sT S' 3 p) = -1 ∧ isIx (sQ S' p 2) (sN S 0) = true ∧ 0 ≤ (sQ S' p 3).toInt ∧ (sQ S' p 3).toInt ≤ (sD S).toInt) : Inv S' (t + 1) := by
  have bV := h.bV
  have hD0 : (0 : Int32) ≤ sD S := by rw [i_le]; exact h.bD.1
  have hpn : ∀ n, passN S' n = passN S n := by
    intro n
    induction n with
    | zero => rfl
    | succ n ih => unfold passN; rw [ih, eT0]
  have up : ∀ x : Int32, (x = -1 ∨ isIx x (sN S 2) = true) → (x = -1 ∨ isIx x (sN S' 2) = true) := fun x hx => hx.imp_right (fun g => by
    obtain ⟨g1, g2⟩ := isIx_ix g
    rw [isIx_iff]; omega)
  have s1 : ∀ v, v < sN S 1 → srt (sT S' 1 v) (sD S) := fun v hv => (h1 v hv).srt (h.ts v hv 1 (by decide)) hD0
  have s3 : ∀ p, p < sN S' 2 → srt (sT S' 3 p) (sD S) := fun p hp => by
    by_cases g : p < sN S 2
    · exact (h3 p g).srt (h.p3 p g) hD0
    · exact (h3n p hp (by omega)).srt ⟨fun e he => absurd he List.not_mem_nil, List.Pairwise.nil⟩ hD0
  unfold Inv
  rw [e0, e1, e3, eD, eL, eO, hpn]
  refine ⟨h.bK, h.bV, e2b, h.bN, h.bD, by omega, ?_, ?_, ?_, ?_, ?_, ?_, ?_, ?_, ?_, ?_, ?_, s3, ?_, ?_, ?_, hq, h.n1, h.n2, h.n3, h.n4, h.n5, h.cu⟩
  · rw [eT0]; exact h.tn
  · intro v hv r hr
    match r, hr with
    | 0, _ => rw [eT0]; exact h.ts v hv 0 (by decide)
    | 1, _ => exact s1 v hv
    | 2, _ => exact (h2 v hv).srt (h.ts v hv 2 (by decide)) hD0
  · intro v hv
    rcases h2 v hv with g | ⟨x, -, g⟩ <;> rw [g]
    · exact h.s2 v hv
    · exact pwl_setT (fun e he => ((h.ts v hv 2 (by decide)).1 e he).2) (h.s2 v hv)
  · rw [eT0]; exact h.t0
  · intro v hv; exact (h1 v hv).mem (fun e he => up _ (h.t1 v hv e he))
  · intro v hv; exact (h2 v hv).mem (h.t2 v hv)
  · intro v hv; exact ⟨(h1 v hv).len (h.tl v hv).1, (h2 v hv).len (h.tl v hv).2⟩
  · intro v hv; rw [(eV v hv).1]; exact h.kd v hv
  · intro v hv; exact (eV v hv).2.2
  · intro v hv; exact (eV v hv).2.1
  · intro v hv j hj; exact ⟨(h.li v hv j hj).1, by have := (h.li v hv j hj).2; omega⟩
  · intro p hp
    by_cases g : p < sN S 2
    · exact (h3 p g).mem (h.pv p g)
    · exact (h3n p hp (by omega)).mem (fun e he => absurd he List.not_mem_nil)
  · intro p hp
    by_cases g : p < sN S 2
    · exact (h3 p g).len (h.pl p g)
    · exact Nat.le_trans ((h3n p hp (by omega)).len (t := 0) (Nat.le_refl _)) (by omega)
  · intro v hv p hp d
    by_cases g : sD S ≤ d
    · rw [(h1 v hv).ge (fun e he => ((h.ts v hv 1 (by decide)).1 e he).2) g]
      have e9 : look (sT S' 3 p) d = lastV (sT S' 3 p) := look_last (fun e he => i_le_trans ((s3 p hp).1 e he).2 g)
      rw [e9]
      exact hx v hv p hp
    · rw [(h1 v hv).lt g]
      by_cases gp : p < sN S 2
      · rw [(h3 p gp).lt g]; exact h.ex v hv p gp d
      · rw [(h3n p hp (by omega)).lt g]
        refine ⟨fun q => ?_, fun q => absurd (show (-1 : Int32) = nI v from q) (m1_nI (by omega))⟩
        rcases look_mem (d := d) (sT S 1 v) with q1 | ⟨e, he, q1⟩
        · rw [q1] at q; exact absurd q (m1_nI (by omega))
        · rw [q1] at q
          rcases h.t1 v hv e he with q2 | q2
          · rw [q2] at q; exact absurd q (m1_nI (by omega))
          · rw [q] at q2
            have := (isIx_ix q2).2
            rw [ix_nI (by omega)] at this
            exact absurd this gp
