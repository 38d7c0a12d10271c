/-! the reference's memory as a view: scalars, the long, the rows -/
def Vw (M : Mm) (m : Nat) (sc : Nat → Int32) (c9 : Int64) (ar : Nat → Nat → Int32) : Prop := (∀ k, k < 9 → mI M m k = sc k) ∧ mJ M m 9 = c9 ∧ ∀ k, 10 ≤ k → k ≤ 32 → ma M m k = ar k
theorem Vw.rf (M : Mm) (m : Nat) : Vw M m (mI M m) (mJ M m 9) (ma M m) := ⟨fun _ _ => rfl, rfl, fun _ _ _ => rfl⟩
theorem MA1.v {M : Mm} {m : Nat} {S : St} {nP nR nS : Nat} (h : MA1 M m S nP nR nS) : MA1v (mI M m) (mJ M m 9) (ma M m) S nP nR nS := h
theorem MA1.of_v {M : Mm} {m : Nat} {S : St} {nP nR nS : Nat} {sc : Nat → Int32} {c9 : Int64} {ar : Nat → Nat → Int32} (hv : Vw M m sc c9 ar) (h : MA1v sc c9 ar S nP nR nS) : MA1 M m S nP nR nS := by
  obtain ⟨h1, h2, h3⟩ := hv
  unfold MA1
  rw [h1 1 (by decide), h1 2 (by decide), h1 3 (by decide), h1 4 (by decide), h1 5 (by decide), h1 6 (by decide), h1 7 (by decide), h1 8 (by decide), h2, h3 10 (by decide) (by decide), h3 11 (by decide) (by decide), h3 12 (by decide) (by decide), h3 13 (by decide) (by decide), h3 14 (by decide) (by decide), h3 15 (by decide) (by decide), h3 16 (by decide) (by decide), h3 17 (by decide) (by decide), h3 18 (by decide) (by decide), h3 19 (by decide) (by decide), h3 20 (by decide) (by decide), h3 21 (by decide) (by decide), h3 22 (by decide) (by decide), h3 23 (by decide) (by decide), h3 24 (by decide) (by decide), h3 25 (by decide) (by decide), h3 26 (by decide) (by decide), h3 27 (by decide) (by decide), h3 28 (by decide) (by decide), h3 29 (by decide) (by decide), h3 30 (by decide) (by decide), h3 31 (by decide) (by decide), h3 32 (by decide) (by decide)]
  exact h
theorem MA0.tag {M : Mm} {m : Nat} (h : MA0 M m) : ∀ k, 10 ≤ k → k ≤ 32 → (mT M (mR M m k)).2 = 1000 + k := by
  intro k h1 h2
  match k, h1, h2 with
  | 10, _, _ => rw [h.b10.1]
  | 11, _, _ => rw [h.b11.1]
  | 12, _, _ => rw [h.b12.1]
  | 13, _, _ => rw [h.b13.1]
  | 14, _, _ => rw [h.b14.1]
  | 15, _, _ => rw [h.b15.1]
  | 16, _, _ => rw [h.b16.1]
  | 17, _, _ => rw [h.b17.1]
  | 18, _, _ => rw [h.b18.1]
  | 19, _, _ => rw [h.b19.1]
  | 20, _, _ => rw [h.b20.1]
  | 21, _, _ => rw [h.b21.1]
  | 22, _, _ => rw [h.b22.1]
  | 23, _, _ => rw [h.b23.1]
  | 24, _, _ => rw [h.b24.1]
  | 25, _, _ => rw [h.b25.1]
  | 26, _, _ => rw [h.b26.1]
  | 27, _, _ => rw [h.b27.1]
  | 28, _, _ => rw [h.b28.1]
  | 29, _, _ => rw [h.b29.1]
  | 30, _, _ => rw [h.b30.1]
  | 31, _, _ => rw [h.b31.1]
  | 32, _, _ => rw [h.b32.1]
  | 0, h, _ => exact absurd h (by decide)
  | 1, h, _ => exact absurd h (by decide)
  | 2, h, _ => exact absurd h (by decide)
  | 3, h, _ => exact absurd h (by decide)
  | 4, h, _ => exact absurd h (by decide)
  | 5, h, _ => exact absurd h (by decide)
  | 6, h, _ => exact absurd h (by decide)
  | 7, h, _ => exact absurd h (by decide)
  | 8, h, _ => exact absurd h (by decide)
  | 9, h, _ => exact absurd h (by decide)
  | q + 33, _, h => exact absurd h (by omega)
theorem MA0.ne {M : Mm} {m : Nat} (h : MA0 M m) {k : Nat} (h1 : 10 ≤ k) (h2 : k ≤ 32) : m ≠ mR M m k := fun e => by
  have h3 := h.tag k h1 h2
  rw [← e, h.t0] at h3
  simp at h3
  omega
theorem MA0.ap {M : Mm} {m : Nat} (h : MA0 M m) {k j : Nat} (h1 : 10 ≤ k) (h2 : k ≤ 32) (g1 : 10 ≤ j) (g2 : j ≤ 32) (hkj : k ≠ j) : mR M m k ≠ mR M m j := fun e => by
  have h3 := h.tag k h1 h2
  have h4 := h.tag j g1 g2
  rw [e] at h3
  omega
theorem Vw.arr {M : Mm} {m : Nat} {sc : Nat → Int32} {c9 : Int64} {ar : Nat → Nat → Int32} (h : MA0 M m) (hv : Vw M m sc c9 ar) (k0 : Nat) (h1 : 10 ≤ k0) (h2 : k0 ≤ 32) (j : Nat) (v : Int32) : Vw (pI M (mR M m k0) j v) m sc c9 (up2 ar k0 j v) := by
  obtain ⟨q1, q2, q3⟩ := hv
  refine ⟨fun k hk => (up2_b _ _ _ _ (h.ne h1 h2)).trans (q1 k hk), q2, fun k g1 g2 => ?_⟩
  by_cases e : k = k0
  · subst e
    show up2 (mI M) (mR M m k) j v (mR M m k) = up2 ar k j v k
    funext i
    simp only [up2, if_true]
    rw [← q3 k g1 g2]
  · rw [up2_row _ _ _ e, ← q3 k g1 g2]
    exact up2_row _ _ _ (h.ap g1 g2 h1 h2 e)
theorem Vw.sc {M : Mm} {m : Nat} {sc : Nat → Int32} {c9 : Int64} {ar : Nat → Nat → Int32} (h : MA0 M m) (hv : Vw M m sc c9 ar) (k0 : Nat) (v : Int32) : Vw (pI M m k0 v) m (va_up sc k0 v) c9 ar := by
  obtain ⟨q1, q2, q3⟩ := hv
  refine ⟨fun k hk => ?_, q2, fun k g1 g2 => ?_⟩
  · by_cases e : k = k0
    · subst e; rw [va_up_self]; exact up2_same _ _ _ _
    · rw [va_up_ne _ _ e, ← q1 k hk]; exact up2_k _ _ _ e
  · rw [← q3 k g1 g2]
    exact up2_row _ _ _ (fun e => h.ne g1 g2 e.symm)
theorem Vw.lg {M : Mm} {m : Nat} {sc : Nat → Int32} {c9 : Int64} {ar : Nat → Nat → Int32} (hv : Vw M m sc c9 ar) (v : Int64) : Vw (pJ M m 9 v) m sc v ar := by
  obtain ⟨q1, q2, q3⟩ := hv
  exact ⟨q1, up2_same _ _ _ _, q3⟩
theorem MA0.fm {M : Mm} {m : Nat} (h : MA0 M m) : pM (mT M m) := by rw [h.t0]; decide
theorem MA0.fa {M : Mm} {m : Nat} (h : MA0 M m) {k : Nat} (h1 : 10 ≤ k) (h2 : k ≤ 32) : pM (mT M (mR M m k)) := Or.inr (by rw [h.tag k h1 h2]; omega)
def MAw (M : Mm) (m : Nat) (S : St) (r s : Nat) : Prop := MA0 M m ∧ ∃ nP nR nS, MA1 M m S nP nR nS ∧ nR ≤ r ∧ nS ≤ s
theorem MAt.w {M : Mm} {m : Nat} {S : St} {t : Nat} (h : MAt M m S t) : MAw M m S t (2 * t) ∧ t ≤ 512 := by
  obtain ⟨a, b, c, d, e, f, g, i⟩ := h
  exact ⟨⟨a, b, c, d, e, f, g⟩, i⟩
theorem MAw.t {M : Mm} {m : Nat} {S : St} {r s t : Nat} (h : MAw M m S r s) (hr : r ≤ t) (hs : s ≤ 2 * t) (ht : t ≤ 512) : MAt M m S t := by
  obtain ⟨a, b, c, d, e, f, g⟩ := h
  exact ⟨a, b, c, d, e, by omega, by omega, ht⟩
theorem MAt.thr {M : Mm} {m : Nat} {S : St} {t : Nat} (h : MAt M m S t) (c : Int32) : MAt (pI M m 0 c) m S t := by
  obtain ⟨a, nP, nR, nS, e, f⟩ := h
  exact ⟨a, nP, nR, nS, MA1.of_v ((Vw.rf M m).sc a 0 c) e, f⟩
theorem MAw.thr {M : Mm} {m : Nat} {S : St} {r s : Nat} (h : MAw M m S r s) (c : Int32) : MAw (pI M m 0 c) m S r s := by
  obtain ⟨a, nP, nR, nS, e, f⟩ := h
  exact ⟨a, nP, nR, nS, MA1.of_v ((Vw.rf M m).sc a 0 c) e, f⟩
