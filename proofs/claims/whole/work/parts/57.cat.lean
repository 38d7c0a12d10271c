/-! how the picture changes with a change of the memory -/
theorem nP_1 {k i m j : Nat} (h : k ≠ m) : ¬ ((k, i) : Nat × Nat) = (m, j) := fun e => h (congrArg Prod.fst e)
theorem nP_2 {k i m j : Nat} (h : i ≠ j) : ¬ ((k, i) : Nat × Nat) = (m, j) := fun e => h (congrArg Prod.snd e)
theorem nTl_1 {k i c : Nat} (h3 : k ≠ 3) (h7 : k ≠ 7) : ¬ tlP c (k, i) := fun h => by
  rcases h with h | h | h
  · exact h3 (congrArg Prod.fst h)
  · exact h7 (congrArg Prod.fst h)
  · exact h7 (congrArg Prod.fst h)
theorem nTl_7 {i c : Nat} (h : i < 100) : ¬ tlP c (7, i) := fun q => by
  rcases q with q | q | q
  · exact absurd (congrArg Prod.fst q) (show (7 : Nat) ≠ 3 by decide)
  · have := congrArg Prod.snd q; simp only at this; omega
  · have := congrArg Prod.snd q; simp only at this; omega
theorem nTl_t {c e : Nat} (h : c ≠ e) : ¬ tlP e (3, c) ∧ ¬ tlP e (7, 100 + 2 * c) ∧ ¬ tlP e (7, 101 + 2 * c) := by
  refine ⟨fun q => ?_, fun q => ?_, fun q => ?_⟩
  · rcases q with q | q | q
    · exact h (congrArg Prod.snd q)
    · exact absurd (congrArg Prod.fst q) (show (3 : Nat) ≠ 7 by decide)
    · exact absurd (congrArg Prod.fst q) (show (3 : Nat) ≠ 7 by decide)
  · rcases q with q | q | q
    · exact absurd (congrArg Prod.fst q) (show (7 : Nat) ≠ 3 by decide)
    · have := congrArg Prod.snd q; simp only at this; omega
    · have := congrArg Prod.snd q; simp only at this; omega
  · rcases q with q | q | q
    · exact absurd (congrArg Prod.fst q) (show (7 : Nat) ≠ 3 by decide)
    · have := congrArg Prod.snd q; simp only at this; omega
    · have := congrArg Prod.snd q; simp only at this; omega
theorem tlP_pC {c : Nat} (hc : c < 400) {M M1 : Mm} (h : Fr (tlP c) M M1) : Fr pC M M1 := h.mono (fun t ht => by
  rcases ht with ht | ht | ht
  · rw [ht]; exact Or.inl (show 3 ≤ 5 by decide)
  · rw [ht]; exact Or.inr ⟨(show (7 : Nat) ≤ 7 by decide), (show (7 : Nat) ≤ 11 by decide), show 100 + 2 * c < 1000 by omega⟩
  · rw [ht]; exact Or.inr ⟨(show (7 : Nat) ≤ 7 by decide), (show (7 : Nat) ≤ 11 by decide), show 101 + 2 * c < 1000 by omega⟩)
theorem up2_b' {α : Type} (f : Nat → Nat → α) (a k : Nat) (v : α) {r b : Nat} (h : b ≠ k) : up2 f a k v r b = f r b := by simp [up2, h]
/-- a vehicle's timeline -/
theorem CAt.tv {M M1 : Mm} {x i r : Nat} {S : St} {l : Tl} (h : CAt M x S) (hi : i < sN S 1) (hr : r < 3) (hF : Fr (tlP (4 * i + r)) M M1) (hT : TlA M1 (mR M (vA M x i) (2 + r)) (4 * i + r) l) : CAt M1 x (uT S r i l) ∧ Sm M M1 x ∧ Fr pC M M1 := by
  have hb := h.b
  obtain ⟨b0, b1, b2, b3⟩ := hb
  obtain ⟨hn, hx⟩ := CAn.fr h hF (nTl_1 (by decide) (by decide))
  have k1 := h.mk (S1 := uT S r i l) hF hx (nTl_1 (by decide) (by decide)) (nTl_1 (by decide) (by decide)) (nTl_1 (by decide) (by decide)) (fun a ha => by rcases ha with ha | ha | ha <;> exact (hF.at ha (show (7 : Nat) ≠ 0 by decide) (nTl_7 (by decide))).2.1) hn (h.pdf hF (nTl_7 (by decide))) rfl rfl rfl b0 (fun j hj hv => ?_) (fun p hp hv => ?_) (fun n hn hv => ?_)
  · exact ⟨k1.1, k1.2, tlP_pC (by omega) hF⟩
  · by_cases e : j = i
    · subst e
      obtain ⟨t0, v0, v1, v6, v7, ⟨t5, l5⟩, hj, T0, T1, T2⟩ := hv
      obtain ⟨a1, a2, a3, a4, -, -⟩ := hF.at t0 (show (4 : Nat) ≠ 0 by decide) (nTl_1 (by decide) (by decide))
      obtain ⟨c1, c2, c3, c4, -, -⟩ := hF.at t5 (show (7 : Nat) ≠ 0 by decide) (nTl_7 (by omega))
      have ts : ∀ q, q < 3 → TlA M (mR M (vA M x j) (2 + q)) (4 * j + q) (sT S q j) → TlA M1 (mR M (vA M x j) (2 + q)) (4 * j + q) (sT (uT S r j l) q j) := fun q hq hTq => by
        by_cases e2 : q = r
        · subst e2
          rw [sT_uT, up2_same]; exact hT
        · rw [sT_uT, up2_row _ _ _ e2]
          obtain ⟨n0, n1, n2⟩ := nTl_t (c := 4 * j + q) (e := 4 * j + r) (by omega)
          exact (hTq.fr hF n0 n1 n2).1
      unfold VeA
      rw [a1, a3, a4, c1, c2, c3]
      exact ⟨t0, v0, v1, v6, v7, ⟨t5, l5⟩, hj, ts 0 (by decide) T0, ts 1 (by decide) T1, ts 2 (by decide) T2⟩
    · refine (hv.fr hF (nTl_1 (by decide) (by decide)) (nTl_7 (by omega)) (fun c h1 h2 => nTl_t (by omega))).st rfl rfl ?_ ?_ ?_ <;> (rw [sT_uT]; exact up2_b' _ _ _ _ e)
  · obtain ⟨n0, n1, n2⟩ := nTl_t (c := 4 * p + 3) (e := 4 * i + r) (by omega)
    refine (hv.fr hF (nTl_1 (by decide) (by decide)) n0 n1 n2).st rfl ?_
    rw [sT_uT, up2_row _ _ _ (by omega)]
  · exact (hv.fr hF (nTl_1 (by decide) (by decide))).st rfl
/-- a plate's timeline -/
theorem CAt.tp {M M1 : Mm} {x i : Nat} {S : St} {l : Tl} (h : CAt M x S) (hi : i < sN S 2) (hF : Fr (tlP (4 * i + 3)) M M1) (hT : TlA M1 (mR M (pA M x i) 1) (4 * i + 3) l) : CAt M1 x (uT S 3 i l) ∧ Sm M M1 x ∧ Fr pC M M1 := by
  have hb := h.b
  obtain ⟨b0, b1, b2, b3⟩ := hb
  obtain ⟨hn, hx⟩ := CAn.fr h hF (nTl_1 (by decide) (by decide))
  have k1 := h.mk (S1 := uT S 3 i l) hF hx (nTl_1 (by decide) (by decide)) (nTl_1 (by decide) (by decide)) (nTl_1 (by decide) (by decide)) (fun a ha => by rcases ha with ha | ha | ha <;> exact (hF.at ha (show (7 : Nat) ≠ 0 by decide) (nTl_7 (by decide))).2.1) hn (h.pdf hF (nTl_7 (by decide))) rfl rfl rfl b0 (fun j hj hv => ?_) (fun p hp hv => ?_) (fun n hn hv => ?_)
  · exact ⟨k1.1, k1.2, tlP_pC (by omega) hF⟩
  · refine (hv.fr hF (nTl_1 (by decide) (by decide)) (nTl_7 (by omega)) (fun c h1 h2 => nTl_t (by omega))).st rfl rfl ?_ ?_ ?_ <;> (rw [sT_uT, up2_row _ _ _ (by decide)])
  · by_cases e : p = i
    · subst e
      obtain ⟨t0, v0, v2, v3, T0⟩ := hv
      obtain ⟨a1, a2, a3, a4, -, -⟩ := hF.at t0 (show (2 : Nat) ≠ 0 by decide) (nTl_1 (by decide) (by decide))
      unfold PlA
      rw [a1, a3, a4, sT_uT, up2_same]
      exact ⟨t0, v0, v2, v3, hT⟩
    · obtain ⟨n0, n1, n2⟩ := nTl_t (c := 4 * p + 3) (e := 4 * i + 3) (by omega)
      refine (hv.fr hF (nTl_1 (by decide) (by decide)) n0 n1 n2).st rfl ?_
      rw [sT_uT]; exact up2_b' _ _ _ _ e
  · exact (hv.fr hF (nTl_1 (by decide) (by decide))).st rfl
/-- a number of a vehicle -/
theorem CAt.vc {M : Mm} {x i k : Nat} {S : St} (h : CAt M x S) (hi : i < sN S 1) (hk : k = 6 ∨ k = 7) (v : Int32) : CAt (pI M (vA M x i) k v) x (uV S i k v) ∧ Sm M (pI M (vA M x i) k v) x ∧ Fr pC M (pI M (vA M x i) k v) := by
  have hb := h.b
  obtain ⟨b0, b1, b2, b3⟩ := hb
  have ht := (h.v.1 i hi).1
  have hF : Fr (fun t => t = (4, i)) M (pI M (vA M x i) k v) := Fr.pI ht
  obtain ⟨hn, hx⟩ := CAn.fr h hF (nP_1 (by decide))
  have k1 := h.mk (S1 := uV S i k v) hF hx (nP_1 (by decide)) (nP_1 (by decide)) (nP_1 (by decide)) (fun a ha => rfl) hn (h.pdf hF (nP_1 (by decide))) rfl rfl rfl b0 (fun j hj hv => ?_) (fun p hp hv => ?_) (fun n hn hv => ?_)
  · exact ⟨k1.1, k1.2, Fr.pI (by rw [ht]; exact Or.inl (show 4 ≤ 5 by decide))⟩
  · have frs : TlA M (mR M (vA M x j) 2) (4 * j) (sT S 0 j) ∧ TlA M (mR M (vA M x j) 3) (4 * j + 1) (sT S 1 j) ∧ TlA M (mR M (vA M x j) 4) (4 * j + 2) (sT S 2 j) := hv.2.2.2.2.2.2.2
    by_cases e : j = i
    · subst e
      obtain ⟨t0, v0, v1, v6, v7, ⟨t5, l5⟩, hj, T0, T1, T2⟩ := hv
      have c5 := hF.at t5 (show (7 : Nat) ≠ 0 by decide) (nP_1 (by decide))
      refine ⟨t0, (up2_k _ _ _ (by omega)).trans v0, ?_, ?_, ?_, ⟨t5, l5⟩, ?_, (T0.fr hF (nP_1 (by decide)) (nP_1 (by decide)) (nP_1 (by decide))).1, (T1.fr hF (nP_1 (by decide)) (nP_1 (by decide)) (nP_1 (by decide))).1, (T2.fr hF (nP_1 (by decide)) (nP_1 (by decide)) (nP_1 (by decide))).1⟩
      · rw [sV_uV, up2_k _ _ _ (by omega)]; exact (up2_k _ _ _ (by omega)).trans v1
      · rw [sV_uV]
        by_cases e6 : k = 6
        · subst e6; rw [up2_same]; exact up2_same _ _ _ _
        · rw [up2_k _ _ _ (Ne.symm e6)]; exact (up2_k _ _ _ (Ne.symm e6)).trans v6
      · rw [sV_uV]
        by_cases e6 : k = 7
        · subst e6; rw [up2_same]; exact up2_same _ _ _ _
        · rw [up2_k _ _ _ (Ne.symm e6)]; exact (up2_k _ _ _ (Ne.symm e6)).trans v7
      · intro q hq
        have h5 : mI (pI M (vA M x j) k v) (mR M (vA M x j) 5) = mI M (mR M (vA M x j) 5) := c5.2.2.1
        show mI (pI M (vA M x j) k v) (mR M (vA M x j) 5) q = sL S j q
        rw [h5]; exact hj q hq
    · refine (hv.fr hF (nP_2 e) (nP_1 (by decide)) (fun c h1 h2 => ⟨nP_1 (by decide), nP_1 (by decide), nP_1 (by decide)⟩)).st ?_ rfl rfl rfl rfl
      rw [sV_uV]; exact up2_row _ _ _ e
  · exact (hv.fr hF (nP_1 (by decide)) (nP_1 (by decide)) (nP_1 (by decide)) (nP_1 (by decide))).st rfl rfl
  · exact (hv.fr hF (nP_1 (by decide))).st rfl
/-- a lien -/
theorem CAt.ln {M : Mm} {x i k : Nat} {S : St} (h : CAt M x S) (hi : i < sN S 1) (hk : k < 6) (v : Int32) : CAt (pI M (mR M (vA M x i) 5) k v) x (uL S i k v) ∧ Sm M (pI M (mR M (vA M x i) 5) k v) x ∧ Fr pC M (pI M (mR M (vA M x i) 5) k v) := by
  have hb := h.b
  obtain ⟨b0, b1, b2, b3⟩ := hb
  have ht := (h.v.1 i hi).2.2.2.2.2.1.1
  have hF : Fr (fun t => t = (7, 10 + i)) M (pI M (mR M (vA M x i) 5) k v) := Fr.pI ht
  obtain ⟨hn, hx⟩ := CAn.fr h hF (nP_1 (by decide))
  have k1 := h.mk (S1 := uL S i k v) hF hx (nP_1 (by decide)) (nP_1 (by decide)) (nP_1 (by decide)) (fun a ha => rfl) hn (h.pdf hF (nP_2 (by omega))) rfl rfl rfl b0 (fun j hj hv => ?_) (fun p hp hv => ?_) (fun n hn hv => ?_)
  · exact ⟨k1.1, k1.2, Fr.pI (by rw [ht]; exact Or.inr ⟨(show (7 : Nat) ≤ 7 by decide), (show (7 : Nat) ≤ 11 by decide), show 10 + i < 1000 by omega⟩)⟩
  · by_cases e : j = i
    · subst e
      obtain ⟨t0, v0, v1, v6, v7, ⟨t5, l5⟩, hj, T0, T1, T2⟩ := hv
      obtain ⟨a1, a2, a3, a4, -, -⟩ := hF.at t0 (show (4 : Nat) ≠ 0 by decide) (nP_1 (by decide))
      refine ⟨t0, ?_, ?_, ?_, ?_, ⟨t5, l5⟩, ?_, (T0.fr hF (nP_1 (by decide)) (nP_2 (by omega)) (nP_2 (by omega))).1, (T1.fr hF (nP_1 (by decide)) (nP_2 (by omega)) (nP_2 (by omega))).1, (T2.fr hF (nP_1 (by decide)) (nP_2 (by omega)) (nP_2 (by omega))).1⟩
      · rw [a3]; exact v0
      · rw [a3]; exact v1
      · rw [a3]; exact v6
      · rw [a3]; exact v7
      · intro q hq
        rw [sL_uL]
        by_cases e6 : q = k
        · subst e6; rw [up2_same]; exact up2_same _ _ _ _
        · rw [up2_k _ _ _ e6]; exact (up2_k _ _ _ e6).trans (hj q hq)
    · refine (hv.fr hF (nP_1 (by decide)) (nP_2 (by omega)) (fun c h1 h2 => ⟨nP_1 (by decide), nP_2 (by omega), nP_2 (by omega)⟩)).st rfl ?_ rfl rfl rfl
      rw [sL_uL]; exact up2_row _ _ _ e
  · exact (hv.fr hF (nP_1 (by decide)) (nP_1 (by decide)) (nP_2 (by omega)) (nP_2 (by omega))).st rfl rfl
  · exact (hv.fr hF (nP_1 (by decide))).st rfl
/-- a number of a plate -/
theorem CAt.pc {M : Mm} {x i k : Nat} {S : St} (h : CAt M x S) (hi : i < sN S 2) (hk : k = 2 ∨ k = 3) (v : Int32) : CAt (pI M (pA M x i) k v) x (uQ S i k v) ∧ Sm M (pI M (pA M x i) k v) x ∧ Fr pC M (pI M (pA M x i) k v) := by
  have hb := h.b
  obtain ⟨b0, b1, b2, b3⟩ := hb
  have ht := (h.p.1 i hi).1
  have hF : Fr (fun t => t = (2, i)) M (pI M (pA M x i) k v) := Fr.pI ht
  obtain ⟨hn, hx⟩ := CAn.fr h hF (nP_1 (by decide))
  have k1 := h.mk (S1 := uQ S i k v) hF hx (nP_1 (by decide)) (nP_1 (by decide)) (nP_1 (by decide)) (fun a ha => rfl) hn (h.pdf hF (nP_1 (by decide))) rfl rfl rfl b0 (fun j hj hv => ?_) (fun p hp hv => ?_) (fun n hn hv => ?_)
  · exact ⟨k1.1, k1.2, Fr.pI (by rw [ht]; exact Or.inl (show 2 ≤ 5 by decide))⟩
  · exact (hv.fr hF (nP_1 (by decide)) (nP_1 (by decide)) (fun c h1 h2 => ⟨nP_1 (by decide), nP_1 (by decide), nP_1 (by decide)⟩)).st rfl rfl rfl rfl rfl
  · by_cases e : p = i
    · subst e
      obtain ⟨t0, v0, v2, v3, T0⟩ := hv
      refine ⟨t0, (up2_k _ _ _ (by omega)).trans v0, ?_, ?_, (T0.fr hF (nP_1 (by decide)) (nP_1 (by decide)) (nP_1 (by decide))).1⟩
      · rw [sQ_uQ]
        by_cases e6 : k = 2
        · subst e6; rw [up2_same]; exact up2_same _ _ _ _
        · rw [up2_k _ _ _ (Ne.symm e6)]; exact (up2_k _ _ _ (Ne.symm e6)).trans v2
      · rw [sQ_uQ]
        by_cases e6 : k = 3
        · subst e6; rw [up2_same]; exact up2_same _ _ _ _
        · rw [up2_k _ _ _ (Ne.symm e6)]; exact (up2_k _ _ _ (Ne.symm e6)).trans v3
    · refine (hv.fr hF (nP_2 e) (nP_1 (by decide)) (nP_1 (by decide)) (nP_1 (by decide))).st ?_ rfl
      rw [sQ_uQ]; exact up2_row _ _ _ e
  · exact (hv.fr hF (nP_1 (by decide))).st rfl
/-- a number of a notice -/
theorem CAt.oc {M : Mm} {x i k : Nat} {S : St} (h : CAt M x S) (hi : i < sN S 3) (hk : 1 ≤ k) (v : Int32) : CAt (pI M (nA M x i) k v) x (uO S i k v) ∧ Sm M (pI M (nA M x i) k v) x ∧ Fr pC M (pI M (nA M x i) k v) := by
  have hb := h.b
  obtain ⟨b0, b1, b2, b3⟩ := hb
  have ht := (h.o.1 i hi).1
  have hF : Fr (fun t => t = (1, i)) M (pI M (nA M x i) k v) := Fr.pI ht
  obtain ⟨hn, hx⟩ := CAn.fr h hF (nP_1 (by decide))
  have k1 := h.mk (S1 := uO S i k v) hF hx (nP_1 (by decide)) (nP_1 (by decide)) (nP_1 (by decide)) (fun a ha => rfl) hn (h.pdf hF (nP_1 (by decide))) rfl rfl rfl b0 (fun j hj hv => ?_) (fun p hp hv => ?_) (fun n hn hv => ?_)
  · exact ⟨k1.1, k1.2, Fr.pI (by rw [ht]; exact Or.inl (show 1 ≤ 5 by decide))⟩
  · exact (hv.fr hF (nP_1 (by decide)) (nP_1 (by decide)) (fun c h1 h2 => ⟨nP_1 (by decide), nP_1 (by decide), nP_1 (by decide)⟩)).st rfl rfl rfl rfl rfl
  · exact (hv.fr hF (nP_1 (by decide)) (nP_1 (by decide)) (nP_1 (by decide)) (nP_1 (by decide))).st rfl rfl
  · by_cases e : n = i
    · subst e
      obtain ⟨t0, v0, hj⟩ := hv
      refine ⟨t0, (up2_k _ _ _ (by omega)).trans v0, fun q h1 h2 => ?_⟩
      rw [sO_uO]
      by_cases e6 : q = k
      · subst e6; rw [up2_same]; exact up2_same _ _ _ _
      · rw [up2_k _ _ _ e6]; exact (up2_k _ _ _ e6).trans (hj q h1 h2)
    · refine (hv.fr hF (nP_2 e)).st ?_
      rw [sO_uO]; exact up2_row _ _ _ e
/-- what a keeper has paid -/
theorem CAt.pay {M : Mm} {x k : Nat} {S : St} (h : CAt M x S) (hk : k < 12) (v : Int32) : CAt (pI M (mR M x 3) k v) x (uP S k v) ∧ Sm M (pI M (mR M x 3) k v) x ∧ Fr pC M (pI M (mR M x 3) k v) := by
  have hb := h.b
  obtain ⟨b0, b1, b2, b3⟩ := hb
  have ht := h.a0.2.2.2.2.1.1
  have hF : Fr (fun t => t = (7, 1)) M (pI M (mR M x 3) k v) := Fr.pI ht
  obtain ⟨hn, hx⟩ := CAn.fr h hF (nP_1 (by decide))
  have k1 := h.mk (S1 := uP S k v) hF hx (nP_1 (by decide)) (nP_1 (by decide)) (nP_1 (by decide)) (fun a ha => rfl) hn (fun q hq => ?_) rfl rfl rfl b0 (fun j hj hv => ?_) (fun p hp hv => ?_) (fun n hn hv => ?_)
  · exact ⟨k1.1, k1.2, Fr.pI (by rw [ht]; exact Or.inr ⟨by decide, by decide, by decide⟩)⟩
  · rw [sP_uP]
    by_cases e : q = k
    · subst e; rw [va_up_self]; exact up2_same _ _ _ _
    · rw [va_up_ne _ _ e]; exact (up2_k _ _ _ e).trans (h.pd q hq)
  · exact (hv.fr hF (nP_1 (by decide)) (nP_2 (by omega)) (fun c h1 h2 => ⟨nP_1 (by decide), nP_2 (by omega), nP_2 (by omega)⟩)).st rfl rfl rfl rfl rfl
  · exact (hv.fr hF (nP_1 (by decide)) (nP_1 (by decide)) (nP_2 (by omega)) (nP_2 (by omega))).st rfl rfl
  · exact (hv.fr hF (nP_1 (by decide))).st rfl
/-- the register's own numbers -/
theorem CAt.own {M M1 : Mm} {x : Nat} {S S1 : St} (h : CAt M x S) (hF : Fr (fun t => t = (5, 0)) M M1) (hx : mR M1 x = mR M x) (hL : ∀ a, mL M1 a = mL M a) (hn : CAn M1 x S1) (e1 : sN S1 1 = sN S 1) (e2 : sN S1 2 = sN S 2) (e3 : sN S1 3 = sN S 3) (hb : sN S1 0 ≤ 12) (eP : sP S1 = sP S) (eV : sV S1 = sV S) (eL : sL S1 = sL S) (eT : sT S1 = sT S) (eQ : sQ S1 = sQ S) (eO : sO S1 = sO S) : CAt M1 x S1 ∧ Sm M M1 x ∧ Fr pC M M1 := by
  have k1 := h.mk (S1 := S1) hF hx (nP_1 (by decide)) (nP_1 (by decide)) (nP_1 (by decide)) (fun a ha => hL a) hn (fun q hq => by rw [eP]; exact h.pdf hF (nP_1 (by decide)) q hq) e1 e2 e3 hb (fun j hj hv => ?_) (fun p hp hv => ?_) (fun n hn hv => ?_)
  · exact ⟨k1.1, k1.2, hF.mono (fun t ht => by rw [ht]; exact Or.inl (show 5 ≤ 5 by decide))⟩
  · exact (hv.fr hF (nP_1 (by decide)) (nP_1 (by decide)) (fun c h1 h2 => ⟨nP_1 (by decide), nP_1 (by decide), nP_1 (by decide)⟩)).st (by rw [eV]) (by rw [eL]) (by rw [eT]) (by rw [eT]) (by rw [eT])
  · exact (hv.fr hF (nP_1 (by decide)) (nP_1 (by decide)) (nP_1 (by decide)) (nP_1 (by decide))).st (by rw [eQ]) (by rw [eT])
  · exact (hv.fr hF (nP_1 (by decide))).st (by rw [eO])
theorem CAt.kp {M : Mm} {x n : Nat} {S : St} (h : CAt M x S) (hn : n ≤ 12) : CAt (pI M x 6 (nI n)) x (uN S 0 n) ∧ Sm M (pI M x 6 (nI n)) x ∧ Fr pC M (pI M x 6 (nI n)) := by
  obtain ⟨c6, c7, c8, c9, c10, c11⟩ := h.n
  exact h.own (Fr.pI h.a0.1) rfl (fun a => rfl) ⟨by rw [sN_uN, va_up_self]; exact up2_same _ _ _ _, by rw [sN_uN, va_up_ne _ _ (by decide)]; exact (up2_k _ _ _ (by decide)).trans c7, by rw [sN_uN, va_up_ne _ _ (by decide)]; exact (up2_k _ _ _ (by decide)).trans c8, by rw [sN_uN, va_up_ne _ _ (by decide)]; exact (up2_k _ _ _ (by decide)).trans c9, (up2_k _ _ _ (by decide)).trans c10, c11⟩ (by rw [sN_uN, va_up_ne _ _ (by decide)]) (by rw [sN_uN, va_up_ne _ _ (by decide)]) (by rw [sN_uN, va_up_ne _ _ (by decide)]) (by rw [sN_uN, va_up_self]; exact hn) rfl rfl rfl rfl rfl rfl
theorem CAt.dy {M : Mm} {x : Nat} {S : St} (h : CAt M x S) (d : Int32) : CAt (pI M x 10 d) x (uD S d) ∧ Sm M (pI M x 10 d) x ∧ Fr pC M (pI M x 10 d) := by
  obtain ⟨c6, c7, c8, c9, c10, c11⟩ := h.n
  exact h.own (Fr.pI h.a0.1) rfl (fun a => rfl) ⟨(up2_k _ _ _ (by decide)).trans c6, (up2_k _ _ _ (by decide)).trans c7, (up2_k _ _ _ (by decide)).trans c8, (up2_k _ _ _ (by decide)).trans c9, up2_same _ _ _ _, c11⟩ rfl rfl rfl h.b.1 rfl rfl rfl rfl rfl rfl
theorem CAt.cl {M : Mm} {x : Nat} {S : St} (h : CAt M x S) (c : Int64) : CAt (pJ M x 11 c) x (uC S c) ∧ Sm M (pJ M x 11 c) x ∧ Fr pC M (pJ M x 11 c) := by
  obtain ⟨c6, c7, c8, c9, c10, c11⟩ := h.n
  exact h.own (Fr.pJ h.a0.1) rfl (fun a => rfl) ⟨c6, c7, c8, c9, c10, up2_same _ _ _ _⟩ rfl rfl rfl h.b.1 rfl rfl rfl rfl rfl rfl
