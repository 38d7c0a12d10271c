/-! the reference: its memory against the register's value -/
abbrev ma (M : Mm) (m k : Nat) : Nat → Int32 := mI M (mR M m k)
def MA0 (M : Mm) (m : Nat) : Prop := (mT M m = (6, 0)) ∧ (mT M (mR M m 10) = (7, 1010) ∧ mL M (mR M m 10) = 12) ∧ (mT M (mR M m 11) = (7, 1011) ∧ mL M (mR M m 11) = 15) ∧ (mT M (mR M m 12) = (7, 1012) ∧ mL M (mR M m 12) = 90) ∧ (mT M (mR M m 13) = (8, 1013) ∧ mL M (mR M m 13) = 15) ∧ (mT M (mR M m 14) = (8, 1014) ∧ mL M (mR M m 14) = 15) ∧ (mT M (mR M m 15) = (7, 1015) ∧ mL M (mR M m 15) = 80) ∧ (mT M (mR M m 16) = (7, 1016) ∧ mL M (mR M m 16) = 80) ∧ (mT M (mR M m 17) = (7, 1017) ∧ mL M (mR M m 17) = 80) ∧ (mT M (mR M m 18) = (7, 1018) ∧ mL M (mR M m 18) = 120) ∧ (mT M (mR M m 19) = (7, 1019) ∧ mL M (mR M m 19) = 120) ∧ (mT M (mR M m 20) = (7, 1020) ∧ mL M (mR M m 20) = 120) ∧ (mT M (mR M m 21) = (7, 1021) ∧ mL M (mR M m 21) = 120) ∧ (mT M (mR M m 22) = (7, 1022) ∧ mL M (mR M m 22) = 120) ∧ (mT M (mR M m 23) = (7, 1023) ∧ mL M (mR M m 23) = 120) ∧ (mT M (mR M m 24) = (7, 1024) ∧ mL M (mR M m 24) = 520) ∧ (mT M (mR M m 25) = (7, 1025) ∧ mL M (mR M m 25) = 520) ∧ (mT M (mR M m 26) = (8, 1026) ∧ mL M (mR M m 26) = 520) ∧ (mT M (mR M m 27) = (7, 1027) ∧ mL M (mR M m 27) = 1100) ∧ (mT M (mR M m 28) = (7, 1028) ∧ mL M (mR M m 28) = 1100) ∧ (mT M (mR M m 29) = (7, 1029) ∧ mL M (mR M m 29) = 1100) ∧ (mT M (mR M m 30) = (7, 1030) ∧ mL M (mR M m 30) = 40) ∧ (mT M (mR M m 31) = (7, 1031) ∧ mL M (mR M m 31) = 40) ∧ (mT M (mR M m 32) = (8, 1032) ∧ mL M (mR M m 32) = 40)
theorem MA0.t0 {M : Mm}{m : Nat} (h : MA0 M m) : mT M m = (6, 0) := h.1
theorem MA0.b10 {M : Mm}{m : Nat} (h : MA0 M m) : mT M (mR M m 10) = (7, 1010) ∧ mL M (mR M m 10) = 12 := h.2.1
theorem MA0.b11 {M : Mm}{m : Nat} (h : MA0 M m) : mT M (mR M m 11) = (7, 1011) ∧ mL M (mR M m 11) = 15 := h.2.2.1
theorem MA0.b12 {M : Mm}{m : Nat} (h : MA0 M m) : mT M (mR M m 12) = (7, 1012) ∧ mL M (mR M m 12) = 90 := h.2.2.2.1
theorem MA0.b13 {M : Mm}{m : Nat} (h : MA0 M m) : mT M (mR M m 13) = (8, 1013) ∧ mL M (mR M m 13) = 15 := h.2.2.2.2.1
theorem MA0.b14 {M : Mm}{m : Nat} (h : MA0 M m) : mT M (mR M m 14) = (8, 1014) ∧ mL M (mR M m 14) = 15 := h.2.2.2.2.2.1
theorem MA0.b15 {M : Mm}{m : Nat} (h : MA0 M m) : mT M (mR M m 15) = (7, 1015) ∧ mL M (mR M m 15) = 80 := h.2.2.2.2.2.2.1
theorem MA0.b16 {M : Mm}{m : Nat} (h : MA0 M m) : mT M (mR M m 16) = (7, 1016) ∧ mL M (mR M m 16) = 80 := h.2.2.2.2.2.2.2.1
theorem MA0.b17 {M : Mm}{m : Nat} (h : MA0 M m) : mT M (mR M m 17) = (7, 1017) ∧ mL M (mR M m 17) = 80 := h.2.2.2.2.2.2.2.2.1
theorem MA0.b18 {M : Mm}{m : Nat} (h : MA0 M m) : mT M (mR M m 18) = (7, 1018) ∧ mL M (mR M m 18) = 120 := h.2.2.2.2.2.2.2.2.2.1
theorem MA0.b19 {M : Mm}{m : Nat} (h : MA0 M m) : mT M (mR M m 19) = (7, 1019) ∧ mL M (mR M m 19) = 120 := h.2.2.2.2.2.2.2.2.2.2.1
theorem MA0.b20 {M : Mm}{m : Nat} (h : MA0 M m) : mT M (mR M m 20) = (7, 1020) ∧ mL M (mR M m 20) = 120 := h.2.2.2.2.2.2.2.2.2.2.2.1
theorem MA0.b21 {M : Mm}{m : Nat} (h : MA0 M m) : mT M (mR M m 21) = (7, 1021) ∧ mL M (mR M m 21) = 120 := h.2.2.2.2.2.2.2.2.2.2.2.2.1
theorem MA0.b22 {M : Mm}{m : Nat} (h : MA0 M m) : mT M (mR M m 22) = (7, 1022) ∧ mL M (mR M m 22) = 120 := h.2.2.2.2.2.2.2.2.2.2.2.2.2.1
theorem MA0.b23 {M : Mm}{m : Nat} (h : MA0 M m) : mT M (mR M m 23) = (7, 1023) ∧ mL M (mR M m 23) = 120 := h.2.2.2.2.2.2.2.2.2.2.2.2.2.2.1
theorem MA0.b24 {M : Mm}{m : Nat} (h : MA0 M m) : mT M (mR M m 24) = (7, 1024) ∧ mL M (mR M m 24) = 520 := h.2.2.2.2.2.2.2.2.2.2.2.2.2.2.2.1
theorem MA0.b25 {M : Mm}{m : Nat} (h : MA0 M m) : mT M (mR M m 25) = (7, 1025) ∧ mL M (mR M m 25) = 520 := h.2.2.2.2.2.2.2.2.2.2.2.2.2.2.2.2.1
theorem MA0.b26 {M : Mm}{m : Nat} (h : MA0 M m) : mT M (mR M m 26) = (8, 1026) ∧ mL M (mR M m 26) = 520 := h.2.2.2.2.2.2.2.2.2.2.2.2.2.2.2.2.2.1
theorem MA0.b27 {M : Mm}{m : Nat} (h : MA0 M m) : mT M (mR M m 27) = (7, 1027) ∧ mL M (mR M m 27) = 1100 := h.2.2.2.2.2.2.2.2.2.2.2.2.2.2.2.2.2.2.1
theorem MA0.b28 {M : Mm}{m : Nat} (h : MA0 M m) : mT M (mR M m 28) = (7, 1028) ∧ mL M (mR M m 28) = 1100 := h.2.2.2.2.2.2.2.2.2.2.2.2.2.2.2.2.2.2.2.1
theorem MA0.b29 {M : Mm}{m : Nat} (h : MA0 M m) : mT M (mR M m 29) = (7, 1029) ∧ mL M (mR M m 29) = 1100 := h.2.2.2.2.2.2.2.2.2.2.2.2.2.2.2.2.2.2.2.2.1
theorem MA0.b30 {M : Mm}{m : Nat} (h : MA0 M m) : mT M (mR M m 30) = (7, 1030) ∧ mL M (mR M m 30) = 40 := h.2.2.2.2.2.2.2.2.2.2.2.2.2.2.2.2.2.2.2.2.2.1
theorem MA0.b31 {M : Mm}{m : Nat} (h : MA0 M m) : mT M (mR M m 31) = (7, 1031) ∧ mL M (mR M m 31) = 40 := h.2.2.2.2.2.2.2.2.2.2.2.2.2.2.2.2.2.2.2.2.2.2.1
theorem MA0.b32 {M : Mm}{m : Nat} (h : MA0 M m) : mT M (mR M m 32) = (8, 1032) ∧ mL M (mR M m 32) = 40 := h.2.2.2.2.2.2.2.2.2.2.2.2.2.2.2.2.2.2.2.2.2.2.2
theorem MA0.t {M : Mm} {m : Nat} (h : MA0 M m) : (mT M m).1 = 6 := by rw [h.t0]
theorem MA0.a10 {M : Mm} {m : Nat} (h : MA0 M m) : (mT M (mR M m 10)).1 = 7 := by rw [h.b10.1]
theorem MA0.l10 {M : Mm} {m : Nat} (h : MA0 M m) : mL M (mR M m 10) = 12 := h.b10.2
theorem MA0.a11 {M : Mm} {m : Nat} (h : MA0 M m) : (mT M (mR M m 11)).1 = 7 := by rw [h.b11.1]
theorem MA0.l11 {M : Mm} {m : Nat} (h : MA0 M m) : mL M (mR M m 11) = 15 := h.b11.2
theorem MA0.a12 {M : Mm} {m : Nat} (h : MA0 M m) : (mT M (mR M m 12)).1 = 7 := by rw [h.b12.1]
theorem MA0.l12 {M : Mm} {m : Nat} (h : MA0 M m) : mL M (mR M m 12) = 90 := h.b12.2
theorem MA0.a13 {M : Mm} {m : Nat} (h : MA0 M m) : (mT M (mR M m 13)).1 = 8 := by rw [h.b13.1]
theorem MA0.l13 {M : Mm} {m : Nat} (h : MA0 M m) : mL M (mR M m 13) = 15 := h.b13.2
theorem MA0.a14 {M : Mm} {m : Nat} (h : MA0 M m) : (mT M (mR M m 14)).1 = 8 := by rw [h.b14.1]
theorem MA0.l14 {M : Mm} {m : Nat} (h : MA0 M m) : mL M (mR M m 14) = 15 := h.b14.2
theorem MA0.a15 {M : Mm} {m : Nat} (h : MA0 M m) : (mT M (mR M m 15)).1 = 7 := by rw [h.b15.1]
theorem MA0.l15 {M : Mm} {m : Nat} (h : MA0 M m) : mL M (mR M m 15) = 80 := h.b15.2
theorem MA0.a16 {M : Mm} {m : Nat} (h : MA0 M m) : (mT M (mR M m 16)).1 = 7 := by rw [h.b16.1]
theorem MA0.l16 {M : Mm} {m : Nat} (h : MA0 M m) : mL M (mR M m 16) = 80 := h.b16.2
theorem MA0.a17 {M : Mm} {m : Nat} (h : MA0 M m) : (mT M (mR M m 17)).1 = 7 := by rw [h.b17.1]
theorem MA0.l17 {M : Mm} {m : Nat} (h : MA0 M m) : mL M (mR M m 17) = 80 := h.b17.2
theorem MA0.a18 {M : Mm} {m : Nat} (h : MA0 M m) : (mT M (mR M m 18)).1 = 7 := by rw [h.b18.1]
theorem MA0.l18 {M : Mm} {m : Nat} (h : MA0 M m) : mL M (mR M m 18) = 120 := h.b18.2
theorem MA0.a19 {M : Mm} {m : Nat} (h : MA0 M m) : (mT M (mR M m 19)).1 = 7 := by rw [h.b19.1]
theorem MA0.l19 {M : Mm} {m : Nat} (h : MA0 M m) : mL M (mR M m 19) = 120 := h.b19.2
theorem MA0.a20 {M : Mm} {m : Nat} (h : MA0 M m) : (mT M (mR M m 20)).1 = 7 := by rw [h.b20.1]
theorem MA0.l20 {M : Mm} {m : Nat} (h : MA0 M m) : mL M (mR M m 20) = 120 := h.b20.2
theorem MA0.a21 {M : Mm} {m : Nat} (h : MA0 M m) : (mT M (mR M m 21)).1 = 7 := by rw [h.b21.1]
theorem MA0.l21 {M : Mm} {m : Nat} (h : MA0 M m) : mL M (mR M m 21) = 120 := h.b21.2
theorem MA0.a22 {M : Mm} {m : Nat} (h : MA0 M m) : (mT M (mR M m 22)).1 = 7 := by rw [h.b22.1]
theorem MA0.l22 {M : Mm} {m : Nat} (h : MA0 M m) : mL M (mR M m 22) = 120 := h.b22.2
theorem MA0.a23 {M : Mm} {m : Nat} (h : MA0 M m) : (mT M (mR M m 23)).1 = 7 := by rw [h.b23.1]
theorem MA0.l23 {M : Mm} {m : Nat} (h : MA0 M m) : mL M (mR M m 23) = 120 := h.b23.2
theorem MA0.a24 {M : Mm} {m : Nat} (h : MA0 M m) : (mT M (mR M m 24)).1 = 7 := by rw [h.b24.1]
theorem MA0.l24 {M : Mm} {m : Nat} (h : MA0 M m) : mL M (mR M m 24) = 520 := h.b24.2
theorem MA0.a25 {M : Mm} {m : Nat} (h : MA0 M m) : (mT M (mR M m 25)).1 = 7 := by rw [h.b25.1]
theorem MA0.l25 {M : Mm} {m : Nat} (h : MA0 M m) : mL M (mR M m 25) = 520 := h.b25.2
theorem MA0.a26 {M : Mm} {m : Nat} (h : MA0 M m) : (mT M (mR M m 26)).1 = 8 := by rw [h.b26.1]
theorem MA0.l26 {M : Mm} {m : Nat} (h : MA0 M m) : mL M (mR M m 26) = 520 := h.b26.2
theorem MA0.a27 {M : Mm} {m : Nat} (h : MA0 M m) : (mT M (mR M m 27)).1 = 7 := by rw [h.b27.1]
theorem MA0.l27 {M : Mm} {m : Nat} (h : MA0 M m) : mL M (mR M m 27) = 1100 := h.b27.2
theorem MA0.a28 {M : Mm} {m : Nat} (h : MA0 M m) : (mT M (mR M m 28)).1 = 7 := by rw [h.b28.1]
theorem MA0.l28 {M : Mm} {m : Nat} (h : MA0 M m) : mL M (mR M m 28) = 1100 := h.b28.2
theorem MA0.a29 {M : Mm} {m : Nat} (h : MA0 M m) : (mT M (mR M m 29)).1 = 7 := by rw [h.b29.1]
theorem MA0.l29 {M : Mm} {m : Nat} (h : MA0 M m) : mL M (mR M m 29) = 1100 := h.b29.2
theorem MA0.a30 {M : Mm} {m : Nat} (h : MA0 M m) : (mT M (mR M m 30)).1 = 7 := by rw [h.b30.1]
theorem MA0.l30 {M : Mm} {m : Nat} (h : MA0 M m) : mL M (mR M m 30) = 40 := h.b30.2
theorem MA0.a31 {M : Mm} {m : Nat} (h : MA0 M m) : (mT M (mR M m 31)).1 = 7 := by rw [h.b31.1]
theorem MA0.l31 {M : Mm} {m : Nat} (h : MA0 M m) : mL M (mR M m 31) = 40 := h.b31.2
theorem MA0.a32 {M : Mm} {m : Nat} (h : MA0 M m) : (mT M (mR M m 32)).1 = 8 := by rw [h.b32.1]
theorem MA0.l32 {M : Mm} {m : Nat} (h : MA0 M m) : mL M (mR M m 32) = 40 := h.b32.2
def sq (V D X : Nat → Int32) (v : Int32) : Nat → Tl
  | 0 => []
  | n + 1 => if V n = v then sq V D X v n ++ [(D n, X n)] else sq V D X v n
def MA1 (M : Mm) (m : Nat) (S : St) (nP nR nS : Nat) : Prop := (mI M m 1 = nI (sN S 0)) ∧ (mI M m 2 = nI (sN S 1)) ∧ (mI M m 3 = nI (sN S 3)) ∧ (mI M m 4 = nI (sN S 2)) ∧ (mI M m 5 = sD S) ∧ (mI M m 6 = nI nP) ∧ (mI M m 7 = nI nR) ∧ (mI M m 8 = nI nS) ∧ (mJ M m 9 = sC S) ∧ (∀ k, k < 12 → ma M m 10 k = sP S k) ∧ (∀ v, v < sN S 1 → ma M m 11 v = sV S v 1) ∧ (∀ v, v < sN S 1 → ma M m 13 v = sV S v 7) ∧ (∀ v, v < sN S 1 → ma M m 14 v = sV S v 6) ∧ (∀ v, v < sN S 1 → ∀ j, j < 6 → ma M m 12 (6 * v + j) = sL S v j) ∧ (∀ i, 6 * sN S 1 ≤ i → i < 90 → ma M m 12 i = 0) ∧ (∀ v, sN S 1 ≤ v → v < 15 → ma M m 13 v = 0) ∧ (∀ v, v < sN S 1 → sq (ma M m 15) (ma M m 16) (ma M m 17) (nI v) nP = sT S 0 v) ∧ (∀ v, v < sN S 1 → sq (ma M m 27) (ma M m 28) (ma M m 29) (nI v) nS = sT S 1 v) ∧ (∀ v, v < sN S 1 → sq (ma M m 24) (ma M m 25) (ma M m 26) (nI v) nR = sT S 2 v) ∧ (∀ j, j < nP → isIx (ma M m 15 j) (sN S 1) = true) ∧ (∀ j, j < nS → isIx (ma M m 27 j) (sN S 1) = true) ∧ (∀ j, j < nR → isIx (ma M m 24 j) (sN S 1) = true) ∧ (∀ j, j < nR → ma M m 26 j = 0 ∨ ma M m 26 j = 1) ∧ (∀ n, n < sN S 3 → ma M m 18 n = sO S n 1) ∧ (∀ n, n < sN S 3 → ma M m 20 n = sO S n 2) ∧ (∀ n, n < sN S 3 → ma M m 19 n = sO S n 3) ∧ (∀ n, n < sN S 3 → ma M m 21 n = sO S n 4) ∧ (∀ n, n < sN S 3 → ma M m 22 n = sO S n 5) ∧ (∀ n, n < sN S 3 → sO S n 5 = 117 → ma M m 23 n = sO S n 6) ∧ (∀ p, p < sN S 2 → ma M m 32 p = bz (decide (sQ S p 2 ≠ -1))) ∧ (∀ p, p < sN S 2 → sQ S p 2 ≠ -1 → ma M m 30 p = sQ S p 2 ∧ ma M m 31 p = sQ S p 3) ∧ (∀ p, sN S 2 ≤ p → p < 40 → ma M m 32 p = 0) ∧ (∀ v, v < sN S 1 → sV S v 7 = 0 ∨ sV S v 7 = 1) ∧ (∀ v, v < sN S 1 → sV S v 6 = 0 ∨ sV S v 6 = 1) ∧ (2 * nP = 2 * sN S 1 + cnt (fun i => decide (sO S i 5 = 117)) (sN S 3)) ∧ (sN S 0 ≤ 12) ∧ (sN S 1 ≤ 15) ∧ (sN S 2 ≤ 40) ∧ (sN S 3 ≤ 120) ∧ (0 ≤ (sD S).toInt ∧ (sD S).toInt ≤ 3000)
theorem MA1.s1 {M : Mm}{m : Nat}{S : St}{nP nR nS : Nat} (h : MA1 M m S nP nR nS) : mI M m 1 = nI (sN S 0) := h.1
theorem MA1.s2 {M : Mm}{m : Nat}{S : St}{nP nR nS : Nat} (h : MA1 M m S nP nR nS) : mI M m 2 = nI (sN S 1) := h.2.1
theorem MA1.s3 {M : Mm}{m : Nat}{S : St}{nP nR nS : Nat} (h : MA1 M m S nP nR nS) : mI M m 3 = nI (sN S 3) := h.2.2.1
theorem MA1.s4 {M : Mm}{m : Nat}{S : St}{nP nR nS : Nat} (h : MA1 M m S nP nR nS) : mI M m 4 = nI (sN S 2) := h.2.2.2.1
theorem MA1.s5 {M : Mm}{m : Nat}{S : St}{nP nR nS : Nat} (h : MA1 M m S nP nR nS) : mI M m 5 = sD S := h.2.2.2.2.1
theorem MA1.s6 {M : Mm}{m : Nat}{S : St}{nP nR nS : Nat} (h : MA1 M m S nP nR nS) : mI M m 6 = nI nP := h.2.2.2.2.2.1
theorem MA1.s7 {M : Mm}{m : Nat}{S : St}{nP nR nS : Nat} (h : MA1 M m S nP nR nS) : mI M m 7 = nI nR := h.2.2.2.2.2.2.1
theorem MA1.s8 {M : Mm}{m : Nat}{S : St}{nP nR nS : Nat} (h : MA1 M m S nP nR nS) : mI M m 8 = nI nS := h.2.2.2.2.2.2.2.1
theorem MA1.s9 {M : Mm}{m : Nat}{S : St}{nP nR nS : Nat} (h : MA1 M m S nP nR nS) : mJ M m 9 = sC S := h.2.2.2.2.2.2.2.2.1
theorem MA1.paid {M : Mm}{m : Nat}{S : St}{nP nR nS : Nat} (h : MA1 M m S nP nR nS) : ∀ k, k < 12 → ma M m 10 k = sP S k := h.2.2.2.2.2.2.2.2.2.1
theorem MA1.kind {M : Mm}{m : Nat}{S : St}{nP nR nS : Nat} (h : MA1 M m S nP nR nS) : ∀ v, v < sN S 1 → ma M m 11 v = sV S v 1 := h.2.2.2.2.2.2.2.2.2.2.1
theorem MA1.scr {M : Mm}{m : Nat}{S : St}{nP nR nS : Nat} (h : MA1 M m S nP nR nS) : ∀ v, v < sN S 1 → ma M m 13 v = sV S v 7 := h.2.2.2.2.2.2.2.2.2.2.2.1
theorem MA1.adm {M : Mm}{m : Nat}{S : St}{nP nR nS : Nat} (h : MA1 M m S nP nR nS) : ∀ v, v < sN S 1 → ma M m 14 v = sV S v 6 := h.2.2.2.2.2.2.2.2.2.2.2.2.1
theorem MA1.lien {M : Mm}{m : Nat}{S : St}{nP nR nS : Nat} (h : MA1 M m S nP nR nS) : ∀ v, v < sN S 1 → ∀ j, j < 6 → ma M m 12 (6 * v + j) = sL S v j := h.2.2.2.2.2.2.2.2.2.2.2.2.2.1
theorem MA1.lien0 {M : Mm}{m : Nat}{S : St}{nP nR nS : Nat} (h : MA1 M m S nP nR nS) : ∀ i, 6 * sN S 1 ≤ i → i < 90 → ma M m 12 i = 0 := h.2.2.2.2.2.2.2.2.2.2.2.2.2.2.1
theorem MA1.scr0 {M : Mm}{m : Nat}{S : St}{nP nR nS : Nat} (h : MA1 M m S nP nR nS) : ∀ v, sN S 1 ≤ v → v < 15 → ma M m 13 v = 0 := h.2.2.2.2.2.2.2.2.2.2.2.2.2.2.2.1
theorem MA1.q0 {M : Mm}{m : Nat}{S : St}{nP nR nS : Nat} (h : MA1 M m S nP nR nS) : ∀ v, v < sN S 1 → sq (ma M m 15) (ma M m 16) (ma M m 17) (nI v) nP = sT S 0 v := h.2.2.2.2.2.2.2.2.2.2.2.2.2.2.2.2.1
theorem MA1.q1 {M : Mm}{m : Nat}{S : St}{nP nR nS : Nat} (h : MA1 M m S nP nR nS) : ∀ v, v < sN S 1 → sq (ma M m 27) (ma M m 28) (ma M m 29) (nI v) nS = sT S 1 v := h.2.2.2.2.2.2.2.2.2.2.2.2.2.2.2.2.2.1
theorem MA1.q2 {M : Mm}{m : Nat}{S : St}{nP nR nS : Nat} (h : MA1 M m S nP nR nS) : ∀ v, v < sN S 1 → sq (ma M m 24) (ma M m 25) (ma M m 26) (nI v) nR = sT S 2 v := h.2.2.2.2.2.2.2.2.2.2.2.2.2.2.2.2.2.2.1
theorem MA1.r0 {M : Mm}{m : Nat}{S : St}{nP nR nS : Nat} (h : MA1 M m S nP nR nS) : ∀ j, j < nP → isIx (ma M m 15 j) (sN S 1) = true := h.2.2.2.2.2.2.2.2.2.2.2.2.2.2.2.2.2.2.2.1
theorem MA1.r1 {M : Mm}{m : Nat}{S : St}{nP nR nS : Nat} (h : MA1 M m S nP nR nS) : ∀ j, j < nS → isIx (ma M m 27 j) (sN S 1) = true := h.2.2.2.2.2.2.2.2.2.2.2.2.2.2.2.2.2.2.2.2.1
theorem MA1.r2 {M : Mm}{m : Nat}{S : St}{nP nR nS : Nat} (h : MA1 M m S nP nR nS) : ∀ j, j < nR → isIx (ma M m 24 j) (sN S 1) = true := h.2.2.2.2.2.2.2.2.2.2.2.2.2.2.2.2.2.2.2.2.2.1
theorem MA1.rb {M : Mm}{m : Nat}{S : St}{nP nR nS : Nat} (h : MA1 M m S nP nR nS) : ∀ j, j < nR → ma M m 26 j = 0 ∨ ma M m 26 j = 1 := h.2.2.2.2.2.2.2.2.2.2.2.2.2.2.2.2.2.2.2.2.2.2.1
theorem MA1.n1 {M : Mm}{m : Nat}{S : St}{nP nR nS : Nat} (h : MA1 M m S nP nR nS) : ∀ n, n < sN S 3 → ma M m 18 n = sO S n 1 := h.2.2.2.2.2.2.2.2.2.2.2.2.2.2.2.2.2.2.2.2.2.2.2.1
theorem MA1.n2 {M : Mm}{m : Nat}{S : St}{nP nR nS : Nat} (h : MA1 M m S nP nR nS) : ∀ n, n < sN S 3 → ma M m 20 n = sO S n 2 := h.2.2.2.2.2.2.2.2.2.2.2.2.2.2.2.2.2.2.2.2.2.2.2.2.1
theorem MA1.n3 {M : Mm}{m : Nat}{S : St}{nP nR nS : Nat} (h : MA1 M m S nP nR nS) : ∀ n, n < sN S 3 → ma M m 19 n = sO S n 3 := h.2.2.2.2.2.2.2.2.2.2.2.2.2.2.2.2.2.2.2.2.2.2.2.2.2.1
theorem MA1.n4 {M : Mm}{m : Nat}{S : St}{nP nR nS : Nat} (h : MA1 M m S nP nR nS) : ∀ n, n < sN S 3 → ma M m 21 n = sO S n 4 := h.2.2.2.2.2.2.2.2.2.2.2.2.2.2.2.2.2.2.2.2.2.2.2.2.2.2.1
theorem MA1.n5 {M : Mm}{m : Nat}{S : St}{nP nR nS : Nat} (h : MA1 M m S nP nR nS) : ∀ n, n < sN S 3 → ma M m 22 n = sO S n 5 := h.2.2.2.2.2.2.2.2.2.2.2.2.2.2.2.2.2.2.2.2.2.2.2.2.2.2.2.1
theorem MA1.n6 {M : Mm}{m : Nat}{S : St}{nP nR nS : Nat} (h : MA1 M m S nP nR nS) : ∀ n, n < sN S 3 → sO S n 5 = 117 → ma M m 23 n = sO S n 6 := h.2.2.2.2.2.2.2.2.2.2.2.2.2.2.2.2.2.2.2.2.2.2.2.2.2.2.2.2.1
theorem MA1.p0 {M : Mm}{m : Nat}{S : St}{nP nR nS : Nat} (h : MA1 M m S nP nR nS) : ∀ p, p < sN S 2 → ma M m 32 p = bz (decide (sQ S p 2 ≠ -1)) := h.2.2.2.2.2.2.2.2.2.2.2.2.2.2.2.2.2.2.2.2.2.2.2.2.2.2.2.2.2.1
theorem MA1.p1 {M : Mm}{m : Nat}{S : St}{nP nR nS : Nat} (h : MA1 M m S nP nR nS) : ∀ p, p < sN S 2 → sQ S p 2 ≠ -1 → ma M m 30 p = sQ S p 2 ∧ ma M m 31 p = sQ S p 3 := h.2.2.2.2.2.2.2.2.2.2.2.2.2.2.2.2.2.2.2.2.2.2.2.2.2.2.2.2.2.2.1
theorem MA1.p2 {M : Mm}{m : Nat}{S : St}{nP nR nS : Nat} (h : MA1 M m S nP nR nS) : ∀ p, sN S 2 ≤ p → p < 40 → ma M m 32 p = 0 := h.2.2.2.2.2.2.2.2.2.2.2.2.2.2.2.2.2.2.2.2.2.2.2.2.2.2.2.2.2.2.2.1
theorem MA1.sc {M : Mm}{m : Nat}{S : St}{nP nR nS : Nat} (h : MA1 M m S nP nR nS) : ∀ v, v < sN S 1 → sV S v 7 = 0 ∨ sV S v 7 = 1 := h.2.2.2.2.2.2.2.2.2.2.2.2.2.2.2.2.2.2.2.2.2.2.2.2.2.2.2.2.2.2.2.2.1
theorem MA1.ad {M : Mm}{m : Nat}{S : St}{nP nR nS : Nat} (h : MA1 M m S nP nR nS) : ∀ v, v < sN S 1 → sV S v 6 = 0 ∨ sV S v 6 = 1 := h.2.2.2.2.2.2.2.2.2.2.2.2.2.2.2.2.2.2.2.2.2.2.2.2.2.2.2.2.2.2.2.2.2.1
theorem MA1.cu {M : Mm}{m : Nat}{S : St}{nP nR nS : Nat} (h : MA1 M m S nP nR nS) : 2 * nP = 2 * sN S 1 + cnt (fun i => decide (sO S i 5 = 117)) (sN S 3) := h.2.2.2.2.2.2.2.2.2.2.2.2.2.2.2.2.2.2.2.2.2.2.2.2.2.2.2.2.2.2.2.2.2.2.1
theorem MA1.bK {M : Mm}{m : Nat}{S : St}{nP nR nS : Nat} (h : MA1 M m S nP nR nS) : sN S 0 ≤ 12 := h.2.2.2.2.2.2.2.2.2.2.2.2.2.2.2.2.2.2.2.2.2.2.2.2.2.2.2.2.2.2.2.2.2.2.2.1
theorem MA1.bV {M : Mm}{m : Nat}{S : St}{nP nR nS : Nat} (h : MA1 M m S nP nR nS) : sN S 1 ≤ 15 := h.2.2.2.2.2.2.2.2.2.2.2.2.2.2.2.2.2.2.2.2.2.2.2.2.2.2.2.2.2.2.2.2.2.2.2.2.1
theorem MA1.bP {M : Mm}{m : Nat}{S : St}{nP nR nS : Nat} (h : MA1 M m S nP nR nS) : sN S 2 ≤ 40 := h.2.2.2.2.2.2.2.2.2.2.2.2.2.2.2.2.2.2.2.2.2.2.2.2.2.2.2.2.2.2.2.2.2.2.2.2.2.1
theorem MA1.bN {M : Mm}{m : Nat}{S : St}{nP nR nS : Nat} (h : MA1 M m S nP nR nS) : sN S 3 ≤ 120 := h.2.2.2.2.2.2.2.2.2.2.2.2.2.2.2.2.2.2.2.2.2.2.2.2.2.2.2.2.2.2.2.2.2.2.2.2.2.2.1
theorem MA1.bD {M : Mm}{m : Nat}{S : St}{nP nR nS : Nat} (h : MA1 M m S nP nR nS) : 0 ≤ (sD S).toInt ∧ (sD S).toInt ≤ 3000 := h.2.2.2.2.2.2.2.2.2.2.2.2.2.2.2.2.2.2.2.2.2.2.2.2.2.2.2.2.2.2.2.2.2.2.2.2.2.2.2
def MA1v (sc : Nat → Int32) (c9 : Int64) (ar : Nat → Nat → Int32) (S : St) (nP nR nS : Nat) : Prop := (sc 1 = nI (sN S 0)) ∧ (sc 2 = nI (sN S 1)) ∧ (sc 3 = nI (sN S 3)) ∧ (sc 4 = nI (sN S 2)) ∧ (sc 5 = sD S) ∧ (sc 6 = nI nP) ∧ (sc 7 = nI nR) ∧ (sc 8 = nI nS) ∧ (c9 = sC S) ∧ (∀ k, k < 12 → ar 10 k = sP S k) ∧ (∀ v, v < sN S 1 → ar 11 v = sV S v 1) ∧ (∀ v, v < sN S 1 → ar 13 v = sV S v 7) ∧ (∀ v, v < sN S 1 → ar 14 v = sV S v 6) ∧ (∀ v, v < sN S 1 → ∀ j, j < 6 → ar 12 (6 * v + j) = sL S v j) ∧ (∀ i, 6 * sN S 1 ≤ i → i < 90 → ar 12 i = 0) ∧ (∀ v, sN S 1 ≤ v → v < 15 → ar 13 v = 0) ∧ (∀ v, v < sN S 1 → sq (ar 15) (ar 16) (ar 17) (nI v) nP = sT S 0 v) ∧ (∀ v, v < sN S 1 → sq (ar 27) (ar 28) (ar 29) (nI v) nS = sT S 1 v) ∧ (∀ v, v < sN S 1 → sq (ar 24) (ar 25) (ar 26) (nI v) nR = sT S 2 v) ∧ (∀ j, j < nP → isIx (ar 15 j) (sN S 1) = true) ∧ (∀ j, j < nS → isIx (ar 27 j) (sN S 1) = true) ∧ (∀ j, j < nR → isIx (ar 24 j) (sN S 1) = true) ∧ (∀ j, j < nR → ar 26 j = 0 ∨ ar 26 j = 1) ∧ (∀ n, n < sN S 3 → ar 18 n = sO S n 1) ∧ (∀ n, n < sN S 3 → ar 20 n = sO S n 2) ∧ (∀ n, n < sN S 3 → ar 19 n = sO S n 3) ∧ (∀ n, n < sN S 3 → ar 21 n = sO S n 4) ∧ (∀ n, n < sN S 3 → ar 22 n = sO S n 5) ∧ (∀ n, n < sN S 3 → sO S n 5 = 117 → ar 23 n = sO S n 6) ∧ (∀ p, p < sN S 2 → ar 32 p = bz (decide (sQ S p 2 ≠ -1))) ∧ (∀ p, p < sN S 2 → sQ S p 2 ≠ -1 → ar 30 p = sQ S p 2 ∧ ar 31 p = sQ S p 3) ∧ (∀ p, sN S 2 ≤ p → p < 40 → ar 32 p = 0) ∧ (∀ v, v < sN S 1 → sV S v 7 = 0 ∨ sV S v 7 = 1) ∧ (∀ v, v < sN S 1 → sV S v 6 = 0 ∨ sV S v 6 = 1) ∧ (2 * nP = 2 * sN S 1 + cnt (fun i => decide (sO S i 5 = 117)) (sN S 3)) ∧ (sN S 0 ≤ 12) ∧ (sN S 1 ≤ 15) ∧ (sN S 2 ≤ 40) ∧ (sN S 3 ≤ 120) ∧ (0 ≤ (sD S).toInt ∧ (sD S).toInt ≤ 3000)
theorem MA1v.s1 {sc : Nat → Int32}{c9 : Int64}{ar : Nat → Nat → Int32}{S : St}{nP nR nS : Nat} (h : MA1v sc c9 ar S nP nR nS) : sc 1 = nI (sN S 0) := h.1
theorem MA1v.s2 {sc : Nat → Int32}{c9 : Int64}{ar : Nat → Nat → Int32}{S : St}{nP nR nS : Nat} (h : MA1v sc c9 ar S nP nR nS) : sc 2 = nI (sN S 1) := h.2.1
theorem MA1v.s3 {sc : Nat → Int32}{c9 : Int64}{ar : Nat → Nat → Int32}{S : St}{nP nR nS : Nat} (h : MA1v sc c9 ar S nP nR nS) : sc 3 = nI (sN S 3) := h.2.2.1
theorem MA1v.s4 {sc : Nat → Int32}{c9 : Int64}{ar : Nat → Nat → Int32}{S : St}{nP nR nS : Nat} (h : MA1v sc c9 ar S nP nR nS) : sc 4 = nI (sN S 2) := h.2.2.2.1
theorem MA1v.s5 {sc : Nat → Int32}{c9 : Int64}{ar : Nat → Nat → Int32}{S : St}{nP nR nS : Nat} (h : MA1v sc c9 ar S nP nR nS) : sc 5 = sD S := h.2.2.2.2.1
theorem MA1v.s6 {sc : Nat → Int32}{c9 : Int64}{ar : Nat → Nat → Int32}{S : St}{nP nR nS : Nat} (h : MA1v sc c9 ar S nP nR nS) : sc 6 = nI nP := h.2.2.2.2.2.1
theorem MA1v.s7 {sc : Nat → Int32}{c9 : Int64}{ar : Nat → Nat → Int32}{S : St}{nP nR nS : Nat} (h : MA1v sc c9 ar S nP nR nS) : sc 7 = nI nR := h.2.2.2.2.2.2.1
theorem MA1v.s8 {sc : Nat → Int32}{c9 : Int64}{ar : Nat → Nat → Int32}{S : St}{nP nR nS : Nat} (h : MA1v sc c9 ar S nP nR nS) : sc 8 = nI nS := h.2.2.2.2.2.2.2.1
theorem MA1v.s9 {sc : Nat → Int32}{c9 : Int64}{ar : Nat → Nat → Int32}{S : St}{nP nR nS : Nat} (h : MA1v sc c9 ar S nP nR nS) : c9 = sC S := h.2.2.2.2.2.2.2.2.1
theorem MA1v.paid {sc : Nat → Int32}{c9 : Int64}{ar : Nat → Nat → Int32}{S : St}{nP nR nS : Nat} (h : MA1v sc c9 ar S nP nR nS) : ∀ k, k < 12 → ar 10 k = sP S k := h.2.2.2.2.2.2.2.2.2.1
theorem MA1v.kind {sc : Nat → Int32}{c9 : Int64}{ar : Nat → Nat → Int32}{S : St}{nP nR nS : Nat} (h : MA1v sc c9 ar S nP nR nS) : ∀ v, v < sN S 1 → ar 11 v = sV S v 1 := h.2.2.2.2.2.2.2.2.2.2.1
theorem MA1v.scr {sc : Nat → Int32}{c9 : Int64}{ar : Nat → Nat → Int32}{S : St}{nP nR nS : Nat} (h : MA1v sc c9 ar S nP nR nS) : ∀ v, v < sN S 1 → ar 13 v = sV S v 7 := h.2.2.2.2.2.2.2.2.2.2.2.1
theorem MA1v.adm {sc : Nat → Int32}{c9 : Int64}{ar : Nat → Nat → Int32}{S : St}{nP nR nS : Nat} (h : MA1v sc c9 ar S nP nR nS) : ∀ v, v < sN S 1 → ar 14 v = sV S v 6 := h.2.2.2.2.2.2.2.2.2.2.2.2.1
theorem MA1v.lien {sc : Nat → Int32}{c9 : Int64}{ar : Nat → Nat → Int32}{S : St}{nP nR nS : Nat} (h : MA1v sc c9 ar S nP nR nS) : ∀ v, v < sN S 1 → ∀ j, j < 6 → ar 12 (6 * v + j) = sL S v j := h.2.2.2.2.2.2.2.2.2.2.2.2.2.1
theorem MA1v.lien0 {sc : Nat → Int32}{c9 : Int64}{ar : Nat → Nat → Int32}{S : St}{nP nR nS : Nat} (h : MA1v sc c9 ar S nP nR nS) : ∀ i, 6 * sN S 1 ≤ i → i < 90 → ar 12 i = 0 := h.2.2.2.2.2.2.2.2.2.2.2.2.2.2.1
theorem MA1v.scr0 {sc : Nat → Int32}{c9 : Int64}{ar : Nat → Nat → Int32}{S : St}{nP nR nS : Nat} (h : MA1v sc c9 ar S nP nR nS) : ∀ v, sN S 1 ≤ v → v < 15 → ar 13 v = 0 := h.2.2.2.2.2.2.2.2.2.2.2.2.2.2.2.1
theorem MA1v.q0 {sc : Nat → Int32}{c9 : Int64}{ar : Nat → Nat → Int32}{S : St}{nP nR nS : Nat} (h : MA1v sc c9 ar S nP nR nS) : ∀ v, v < sN S 1 → sq (ar 15) (ar 16) (ar 17) (nI v) nP = sT S 0 v := h.2.2.2.2.2.2.2.2.2.2.2.2.2.2.2.2.1
theorem MA1v.q1 {sc : Nat → Int32}{c9 : Int64}{ar : Nat → Nat → Int32}{S : St}{nP nR nS : Nat} (h : MA1v sc c9 ar S nP nR nS) : ∀ v, v < sN S 1 → sq (ar 27) (ar 28) (ar 29) (nI v) nS = sT S 1 v := h.2.2.2.2.2.2.2.2.2.2.2.2.2.2.2.2.2.1
theorem MA1v.q2 {sc : Nat → Int32}{c9 : Int64}{ar : Nat → Nat → Int32}{S : St}{nP nR nS : Nat} (h : MA1v sc c9 ar S nP nR nS) : ∀ v, v < sN S 1 → sq (ar 24) (ar 25) (ar 26) (nI v) nR = sT S 2 v := h.2.2.2.2.2.2.2.2.2.2.2.2.2.2.2.2.2.2.1
theorem MA1v.r0 {sc : Nat → Int32}{c9 : Int64}{ar : Nat → Nat → Int32}{S : St}{nP nR nS : Nat} (h : MA1v sc c9 ar S nP nR nS) : ∀ j, j < nP → isIx (ar 15 j) (sN S 1) = true := h.2.2.2.2.2.2.2.2.2.2.2.2.2.2.2.2.2.2.2.1
theorem MA1v.r1 {sc : Nat → Int32}{c9 : Int64}{ar : Nat → Nat → Int32}{S : St}{nP nR nS : Nat} (h : MA1v sc c9 ar S nP nR nS) : ∀ j, j < nS → isIx (ar 27 j) (sN S 1) = true := h.2.2.2.2.2.2.2.2.2.2.2.2.2.2.2.2.2.2.2.2.1
theorem MA1v.r2 {sc : Nat → Int32}{c9 : Int64}{ar : Nat → Nat → Int32}{S : St}{nP nR nS : Nat} (h : MA1v sc c9 ar S nP nR nS) : ∀ j, j < nR → isIx (ar 24 j) (sN S 1) = true := h.2.2.2.2.2.2.2.2.2.2.2.2.2.2.2.2.2.2.2.2.2.1
theorem MA1v.rb {sc : Nat → Int32}{c9 : Int64}{ar : Nat → Nat → Int32}{S : St}{nP nR nS : Nat} (h : MA1v sc c9 ar S nP nR nS) : ∀ j, j < nR → ar 26 j = 0 ∨ ar 26 j = 1 := h.2.2.2.2.2.2.2.2.2.2.2.2.2.2.2.2.2.2.2.2.2.2.1
theorem MA1v.n1 {sc : Nat → Int32}{c9 : Int64}{ar : Nat → Nat → Int32}{S : St}{nP nR nS : Nat} (h : MA1v sc c9 ar S nP nR nS) : ∀ n, n < sN S 3 → ar 18 n = sO S n 1 := h.2.2.2.2.2.2.2.2.2.2.2.2.2.2.2.2.2.2.2.2.2.2.2.1
theorem MA1v.n2 {sc : Nat → Int32}{c9 : Int64}{ar : Nat → Nat → Int32}{S : St}{nP nR nS : Nat} (h : MA1v sc c9 ar S nP nR nS) : ∀ n, n < sN S 3 → ar 20 n = sO S n 2 := h.2.2.2.2.2.2.2.2.2.2.2.2.2.2.2.2.2.2.2.2.2.2.2.2.1
theorem MA1v.n3 {sc : Nat → Int32}{c9 : Int64}{ar : Nat → Nat → Int32}{S : St}{nP nR nS : Nat} (h : MA1v sc c9 ar S nP nR nS) : ∀ n, n < sN S 3 → ar 19 n = sO S n 3 := h.2.2.2.2.2.2.2.2.2.2.2.2.2.2.2.2.2.2.2.2.2.2.2.2.2.1
theorem MA1v.n4 {sc : Nat → Int32}{c9 : Int64}{ar : Nat → Nat → Int32}{S : St}{nP nR nS : Nat} (h : MA1v sc c9 ar S nP nR nS) : ∀ n, n < sN S 3 → ar 21 n = sO S n 4 := h.2.2.2.2.2.2.2.2.2.2.2.2.2.2.2.2.2.2.2.2.2.2.2.2.2.2.1
theorem MA1v.n5 {sc : Nat → Int32}{c9 : Int64}{ar : Nat → Nat → Int32}{S : St}{nP nR nS : Nat} (h : MA1v sc c9 ar S nP nR nS) : ∀ n, n < sN S 3 → ar 22 n = sO S n 5 := h.2.2.2.2.2.2.2.2.2.2.2.2.2.2.2.2.2.2.2.2.2.2.2.2.2.2.2.1
theorem MA1v.n6 {sc : Nat → Int32}{c9 : Int64}{ar : Nat → Nat → Int32}{S : St}{nP nR nS : Nat} (h : MA1v sc c9 ar S nP nR nS) : ∀ n, n < sN S 3 → sO S n 5 = 117 → ar 23 n = sO S n 6 := h.2.2.2.2.2.2.2.2.2.2.2.2.2.2.2.2.2.2.2.2.2.2.2.2.2.2.2.2.1
theorem MA1v.p0 {sc : Nat → Int32}{c9 : Int64}{ar : Nat → Nat → Int32}{S : St}{nP nR nS : Nat} (h : MA1v sc c9 ar S nP nR nS) : ∀ p, p < sN S 2 → ar 32 p = bz (decide (sQ S p 2 ≠ -1)) := h.2.2.2.2.2.2.2.2.2.2.2.2.2.2.2.2.2.2.2.2.2.2.2.2.2.2.2.2.2.1
theorem MA1v.p1 {sc : Nat → Int32}{c9 : Int64}{ar : Nat → Nat → Int32}{S : St}{nP nR nS : Nat} (h : MA1v sc c9 ar S nP nR nS) : ∀ p, p < sN S 2 → sQ S p 2 ≠ -1 → ar 30 p = sQ S p 2 ∧ ar 31 p = sQ S p 3 := h.2.2.2.2.2.2.2.2.2.2.2.2.2.2.2.2.2.2.2.2.2.2.2.2.2.2.2.2.2.2.1
theorem MA1v.p2 {sc : Nat → Int32}{c9 : Int64}{ar : Nat → Nat → Int32}{S : St}{nP nR nS : Nat} (h : MA1v sc c9 ar S nP nR nS) : ∀ p, sN S 2 ≤ p → p < 40 → ar 32 p = 0 := h.2.2.2.2.2.2.2.2.2.2.2.2.2.2.2.2.2.2.2.2.2.2.2.2.2.2.2.2.2.2.2.1
theorem MA1v.sc {sc : Nat → Int32}{c9 : Int64}{ar : Nat → Nat → Int32}{S : St}{nP nR nS : Nat} (h : MA1v sc c9 ar S nP nR nS) : ∀ v, v < sN S 1 → sV S v 7 = 0 ∨ sV S v 7 = 1 := h.2.2.2.2.2.2.2.2.2.2.2.2.2.2.2.2.2.2.2.2.2.2.2.2.2.2.2.2.2.2.2.2.1
theorem MA1v.ad {sc : Nat → Int32}{c9 : Int64}{ar : Nat → Nat → Int32}{S : St}{nP nR nS : Nat} (h : MA1v sc c9 ar S nP nR nS) : ∀ v, v < sN S 1 → sV S v 6 = 0 ∨ sV S v 6 = 1 := h.2.2.2.2.2.2.2.2.2.2.2.2.2.2.2.2.2.2.2.2.2.2.2.2.2.2.2.2.2.2.2.2.2.1
theorem MA1v.cu {sc : Nat → Int32}{c9 : Int64}{ar : Nat → Nat → Int32}{S : St}{nP nR nS : Nat} (h : MA1v sc c9 ar S nP nR nS) : 2 * nP = 2 * sN S 1 + cnt (fun i => decide (sO S i 5 = 117)) (sN S 3) := h.2.2.2.2.2.2.2.2.2.2.2.2.2.2.2.2.2.2.2.2.2.2.2.2.2.2.2.2.2.2.2.2.2.2.1
theorem MA1v.bK {sc : Nat → Int32}{c9 : Int64}{ar : Nat → Nat → Int32}{S : St}{nP nR nS : Nat} (h : MA1v sc c9 ar S nP nR nS) : sN S 0 ≤ 12 := h.2.2.2.2.2.2.2.2.2.2.2.2.2.2.2.2.2.2.2.2.2.2.2.2.2.2.2.2.2.2.2.2.2.2.2.1
theorem MA1v.bV {sc : Nat → Int32}{c9 : Int64}{ar : Nat → Nat → Int32}{S : St}{nP nR nS : Nat} (h : MA1v sc c9 ar S nP nR nS) : sN S 1 ≤ 15 := h.2.2.2.2.2.2.2.2.2.2.2.2.2.2.2.2.2.2.2.2.2.2.2.2.2.2.2.2.2.2.2.2.2.2.2.2.1
theorem MA1v.bP {sc : Nat → Int32}{c9 : Int64}{ar : Nat → Nat → Int32}{S : St}{nP nR nS : Nat} (h : MA1v sc c9 ar S nP nR nS) : sN S 2 ≤ 40 := h.2.2.2.2.2.2.2.2.2.2.2.2.2.2.2.2.2.2.2.2.2.2.2.2.2.2.2.2.2.2.2.2.2.2.2.2.2.1
theorem MA1v.bN {sc : Nat → Int32}{c9 : Int64}{ar : Nat → Nat → Int32}{S : St}{nP nR nS : Nat} (h : MA1v sc c9 ar S nP nR nS) : sN S 3 ≤ 120 := h.2.2.2.2.2.2.2.2.2.2.2.2.2.2.2.2.2.2.2.2.2.2.2.2.2.2.2.2.2.2.2.2.2.2.2.2.2.2.1
theorem MA1v.bD {sc : Nat → Int32}{c9 : Int64}{ar : Nat → Nat → Int32}{S : St}{nP nR nS : Nat} (h : MA1v sc c9 ar S nP nR nS) : 0 ≤ (sD S).toInt ∧ (sD S).toInt ≤ 3000 := h.2.2.2.2.2.2.2.2.2.2.2.2.2.2.2.2.2.2.2.2.2.2.2.2.2.2.2.2.2.2.2.2.2.2.2.2.2.2.2
def MAt (M : Mm) (m : Nat) (S : St) (t : Nat) : Prop := MA0 M m ∧ ∃ nP nR nS, MA1 M m S nP nR nS ∧ nR ≤ t ∧ nS ≤ 2 * t ∧ t ≤ 512
theorem cnt_le (f : Nat → Bool) : ∀ n, cnt f n ≤ n
  | 0 => Nat.le_refl _
  | n + 1 => by
    have := cnt_le f n
    unfold cnt
    split <;> omega
theorem MA1.bPs {M : Mm} {m : Nat} {S : St} {nP nR nS : Nat} (h : MA1 M m S nP nR nS) : nP ≤ 75 := by
  have h1 := h.cu
  have h2 := cnt_le (fun i => decide (sO S i 5 = 117)) (sN S 3)
  have h3 := h.bV
  have h4 := h.bN
  omega
/-- what other things have become -/
def sameAt (M M1 : Mm) (a : Nat) : Prop := mT M1 a = mT M a ∧ mL M1 a = mL M a ∧ mI M1 a = mI M a ∧ mR M1 a = mR M a ∧ mJ M1 a = mJ M a ∧ mD M1 a = mD M a
def Fr (P : Nat × Nat → Prop) (M M1 : Mm) : Prop := ∀ a, (mT M a).1 ≠ 0 → mT M1 a = mT M a ∧ (¬ P (mT M a) → sameAt M M1 a)
theorem sameAt.rf (M : Mm) (a : Nat) : sameAt M M a := ⟨rfl, rfl, rfl, rfl, rfl, rfl⟩
theorem Fr.rf (P : Nat × Nat → Prop) (M : Mm) : Fr P M M := fun a _ => ⟨rfl, fun _ => sameAt.rf M a⟩
theorem Fr.trans {P : Nat × Nat → Prop} {M M1 M2 : Mm} (h : Fr P M M1) (h1 : Fr P M1 M2) : Fr P M M2 := by
  intro a ha
  obtain ⟨e, k⟩ := h a ha
  obtain ⟨e1, k1⟩ := h1 a (by rw [e]; exact ha)
  refine ⟨e1.trans e, fun hp => ?_⟩
  obtain ⟨x1, x2, x3, x4, x5, x6⟩ := k hp
  obtain ⟨z1, z2, z3, z4, z5, z6⟩ := k1 (by rw [e]; exact hp)
  exact ⟨z1.trans x1, z2.trans x2, z3.trans x3, z4.trans x4, z5.trans x5, z6.trans x6⟩
theorem Fr.mono {P Q : Nat × Nat → Prop} {M M1 : Mm} (h : Fr P M M1) (hPQ : ∀ t, P t → Q t) : Fr Q M M1 := fun a ha => ⟨(h a ha).1, fun hq => (h a ha).2 (fun hp => hq (hPQ _ hp))⟩
theorem Fr.pI {P : Nat × Nat → Prop} {M : Mm} {a k : Nat} {v : Int32} (h : P (mT M a)) : Fr P M (pI M a k v) := fun b _ => ⟨rfl, fun hp => ⟨rfl, rfl, up2_row _ _ _ (fun e => hp (e ▸ h)), rfl, rfl, rfl⟩⟩
theorem Fr.pJ {P : Nat × Nat → Prop} {M : Mm} {a k : Nat} {v : Int64} (h : P (mT M a)) : Fr P M (pJ M a k v) := fun b _ => ⟨rfl, fun hp => ⟨rfl, rfl, rfl, rfl, up2_row _ _ _ (fun e => hp (e ▸ h)), rfl⟩⟩
theorem Fr.pR {P : Nat × Nat → Prop} {M : Mm} {a k : Nat} {v : Nat} (h : P (mT M a)) : Fr P M (pR M a k v) := fun b _ => ⟨rfl, fun hp => ⟨rfl, rfl, rfl, up2_row _ _ _ (fun e => hp (e ▸ h)), rfl, rfl⟩⟩
theorem Fr.nw {P : Nat × Nat → Prop} {M : Mm} {q : Nat} {t : Nat × Nat} {n : Nat} (h : (mT M q).1 = 0) : Fr P M (nwM M q t n) := fun b hb => by
  have hbq : b ≠ q := fun e => hb (e ▸ h)
  exact ⟨by simp [mT, nwM, va_up_ne _ _ hbq], fun _ => ⟨by simp [mT, nwM, va_up_ne _ _ hbq], by simp [mL, nwM, va_up_ne _ _ hbq], by funext j; simp [mI, nwM, hbq], by funext j; simp [mR, nwM, hbq], by funext j; simp [mJ, nwM, hbq], by funext j; simp [mD, nwM, hbq]⟩⟩
/-- the reference's own things; the class's own things -/
abbrev pM (t : Nat × Nat) : Prop := t.1 = 6 ∨ 1000 ≤ t.2
abbrev pC (t : Nat × Nat) : Prop := t.1 ≤ 5 ∨ (7 ≤ t.1 ∧ t.1 ≤ 11 ∧ t.2 < 1000)
theorem MA0.fr {M M1 : Mm} {m : Nat} (h : MA0 M m) (hF : Fr pC M M1) : MA0 M1 m ∧ mI M1 m = mI M m ∧ mJ M1 m = mJ M m ∧ mR M1 m = mR M m ∧ ∀ k, 10 ≤ k → k ≤ 32 → ma M1 m k = ma M m k := by
  have hm := (hF m (by rw [h.t0]; decide)).2 (by rw [h.t0]; decide)
  obtain ⟨e1, e2, e3, e4, e5, e6⟩ := hm
  have f10 := (hF (mR M m 10) (by rw [h.b10.1]; decide)).2 (by rw [h.b10.1]; decide)
  have f11 := (hF (mR M m 11) (by rw [h.b11.1]; decide)).2 (by rw [h.b11.1]; decide)
  have f12 := (hF (mR M m 12) (by rw [h.b12.1]; decide)).2 (by rw [h.b12.1]; decide)
  have f13 := (hF (mR M m 13) (by rw [h.b13.1]; decide)).2 (by rw [h.b13.1]; decide)
  have f14 := (hF (mR M m 14) (by rw [h.b14.1]; decide)).2 (by rw [h.b14.1]; decide)
  have f15 := (hF (mR M m 15) (by rw [h.b15.1]; decide)).2 (by rw [h.b15.1]; decide)
  have f16 := (hF (mR M m 16) (by rw [h.b16.1]; decide)).2 (by rw [h.b16.1]; decide)
  have f17 := (hF (mR M m 17) (by rw [h.b17.1]; decide)).2 (by rw [h.b17.1]; decide)
  have f18 := (hF (mR M m 18) (by rw [h.b18.1]; decide)).2 (by rw [h.b18.1]; decide)
  have f19 := (hF (mR M m 19) (by rw [h.b19.1]; decide)).2 (by rw [h.b19.1]; decide)
  have f20 := (hF (mR M m 20) (by rw [h.b20.1]; decide)).2 (by rw [h.b20.1]; decide)
  have f21 := (hF (mR M m 21) (by rw [h.b21.1]; decide)).2 (by rw [h.b21.1]; decide)
  have f22 := (hF (mR M m 22) (by rw [h.b22.1]; decide)).2 (by rw [h.b22.1]; decide)
  have f23 := (hF (mR M m 23) (by rw [h.b23.1]; decide)).2 (by rw [h.b23.1]; decide)
  have f24 := (hF (mR M m 24) (by rw [h.b24.1]; decide)).2 (by rw [h.b24.1]; decide)
  have f25 := (hF (mR M m 25) (by rw [h.b25.1]; decide)).2 (by rw [h.b25.1]; decide)
  have f26 := (hF (mR M m 26) (by rw [h.b26.1]; decide)).2 (by rw [h.b26.1]; decide)
  have f27 := (hF (mR M m 27) (by rw [h.b27.1]; decide)).2 (by rw [h.b27.1]; decide)
  have f28 := (hF (mR M m 28) (by rw [h.b28.1]; decide)).2 (by rw [h.b28.1]; decide)
  have f29 := (hF (mR M m 29) (by rw [h.b29.1]; decide)).2 (by rw [h.b29.1]; decide)
  have f30 := (hF (mR M m 30) (by rw [h.b30.1]; decide)).2 (by rw [h.b30.1]; decide)
  have f31 := (hF (mR M m 31) (by rw [h.b31.1]; decide)).2 (by rw [h.b31.1]; decide)
  have f32 := (hF (mR M m 32) (by rw [h.b32.1]; decide)).2 (by rw [h.b32.1]; decide)
  refine ⟨⟨e1.trans h.t0, ⟨by rw [e4]; exact f10.1.trans h.b10.1, by rw [e4]; exact f10.2.1.trans h.b10.2⟩, ⟨by rw [e4]; exact f11.1.trans h.b11.1, by rw [e4]; exact f11.2.1.trans h.b11.2⟩, ⟨by rw [e4]; exact f12.1.trans h.b12.1, by rw [e4]; exact f12.2.1.trans h.b12.2⟩, ⟨by rw [e4]; exact f13.1.trans h.b13.1, by rw [e4]; exact f13.2.1.trans h.b13.2⟩, ⟨by rw [e4]; exact f14.1.trans h.b14.1, by rw [e4]; exact f14.2.1.trans h.b14.2⟩, ⟨by rw [e4]; exact f15.1.trans h.b15.1, by rw [e4]; exact f15.2.1.trans h.b15.2⟩, ⟨by rw [e4]; exact f16.1.trans h.b16.1, by rw [e4]; exact f16.2.1.trans h.b16.2⟩, ⟨by rw [e4]; exact f17.1.trans h.b17.1, by rw [e4]; exact f17.2.1.trans h.b17.2⟩, ⟨by rw [e4]; exact f18.1.trans h.b18.1, by rw [e4]; exact f18.2.1.trans h.b18.2⟩, ⟨by rw [e4]; exact f19.1.trans h.b19.1, by rw [e4]; exact f19.2.1.trans h.b19.2⟩, ⟨by rw [e4]; exact f20.1.trans h.b20.1, by rw [e4]; exact f20.2.1.trans h.b20.2⟩, ⟨by rw [e4]; exact f21.1.trans h.b21.1, by rw [e4]; exact f21.2.1.trans h.b21.2⟩, ⟨by rw [e4]; exact f22.1.trans h.b22.1, by rw [e4]; exact f22.2.1.trans h.b22.2⟩, ⟨by rw [e4]; exact f23.1.trans h.b23.1, by rw [e4]; exact f23.2.1.trans h.b23.2⟩, ⟨by rw [e4]; exact f24.1.trans h.b24.1, by rw [e4]; exact f24.2.1.trans h.b24.2⟩, ⟨by rw [e4]; exact f25.1.trans h.b25.1, by rw [e4]; exact f25.2.1.trans h.b25.2⟩, ⟨by rw [e4]; exact f26.1.trans h.b26.1, by rw [e4]; exact f26.2.1.trans h.b26.2⟩, ⟨by rw [e4]; exact f27.1.trans h.b27.1, by rw [e4]; exact f27.2.1.trans h.b27.2⟩, ⟨by rw [e4]; exact f28.1.trans h.b28.1, by rw [e4]; exact f28.2.1.trans h.b28.2⟩, ⟨by rw [e4]; exact f29.1.trans h.b29.1, by rw [e4]; exact f29.2.1.trans h.b29.2⟩, ⟨by rw [e4]; exact f30.1.trans h.b30.1, by rw [e4]; exact f30.2.1.trans h.b30.2⟩, ⟨by rw [e4]; exact f31.1.trans h.b31.1, by rw [e4]; exact f31.2.1.trans h.b31.2⟩, ⟨by rw [e4]; exact f32.1.trans h.b32.1, by rw [e4]; exact f32.2.1.trans h.b32.2⟩⟩, e3, e5, e4, fun k h1 h2 => ?_⟩
  unfold ma
  rw [e4]
  match k, h1, h2 with
  | 10, _, _ => exact f10.2.2.1
  | 11, _, _ => exact f11.2.2.1
  | 12, _, _ => exact f12.2.2.1
  | 13, _, _ => exact f13.2.2.1
  | 14, _, _ => exact f14.2.2.1
  | 15, _, _ => exact f15.2.2.1
  | 16, _, _ => exact f16.2.2.1
  | 17, _, _ => exact f17.2.2.1
  | 18, _, _ => exact f18.2.2.1
  | 19, _, _ => exact f19.2.2.1
  | 20, _, _ => exact f20.2.2.1
  | 21, _, _ => exact f21.2.2.1
  | 22, _, _ => exact f22.2.2.1
  | 23, _, _ => exact f23.2.2.1
  | 24, _, _ => exact f24.2.2.1
  | 25, _, _ => exact f25.2.2.1
  | 26, _, _ => exact f26.2.2.1
  | 27, _, _ => exact f27.2.2.1
  | 28, _, _ => exact f28.2.2.1
  | 29, _, _ => exact f29.2.2.1
  | 30, _, _ => exact f30.2.2.1
  | 31, _, _ => exact f31.2.2.1
  | 32, _, _ => exact f32.2.2.1
  | 0, h, _ => exact absurd h (by decide)
  | 1, h, _ => exact absurd h (by decide)
  | 2, h, _ => exact absurd h (by decide)
  | 3, h, _ => exact absurd h (by decide)
  | 4, h, _ => exact absurd h (by decide)
  | 5, h, _ => exact absurd h (by decide)
  | 6, h, _ => exact absurd h (by decide)
  | 7, h, _ => exact absurd h (by decide)
  | 8, h, _ => exact absurd h (by decide)
  | 9, h, _ => exact absurd h (by decide)
  | q + 33, _, h => exact absurd h (by omega)
theorem MAt.fr {M M1 : Mm} {m : Nat} {S : St} {t : Nat} (h : MAt M m S t) (hF : Fr pC M M1) : MAt M1 m S t := by
  obtain ⟨h0, nP, nR, nS, h1, hb⟩ := h
  obtain ⟨k0, kI, kJ, kR, ka⟩ := h0.fr hF
  refine ⟨k0, nP, nR, nS, ?_, hb⟩
  unfold MA1 at h1 ⊢
  rw [kI, kJ, ka 10 (by decide) (by decide), ka 11 (by decide) (by decide), ka 12 (by decide) (by decide), ka 13 (by decide) (by decide), ka 14 (by decide) (by decide), ka 15 (by decide) (by decide), ka 16 (by decide) (by decide), ka 17 (by decide) (by decide), ka 18 (by decide) (by decide), ka 19 (by decide) (by decide), ka 20 (by decide) (by decide), ka 21 (by decide) (by decide), ka 22 (by decide) (by decide), ka 23 (by decide) (by decide), ka 24 (by decide) (by decide), ka 25 (by decide) (by decide), ka 26 (by decide) (by decide), ka 27 (by decide) (by decide), ka 28 (by decide) (by decide), ka 29 (by decide) (by decide), ka 30 (by decide) (by decide), ka 31 (by decide) (by decide), ka 32 (by decide) (by decide)]
  exact h1
/-- days that do not fall, none after the day D -/
def srt (l : Tl) (D : Int32) : Prop := (∀ e ∈ l, 0 ≤ e.1 ∧ e.1 ≤ D) ∧ l.Pairwise (fun a b => a.1 ≤ b.1)
def Inv (S : St) (t : Nat) : Prop := (sN S 0 ≤ 12) ∧ (sN S 1 ≤ 15) ∧ (sN S 2 ≤ 40) ∧ (sN S 3 ≤ 120) ∧ (0 ≤ (sD S).toInt ∧ (sD S).toInt ≤ 3000) ∧ (t ≤ 512) ∧ (∀ v, v < sN S 1 → sT S 0 v ≠ []) ∧ (∀ v, v < sN S 1 → ∀ r, r < 3 → srt (sT S r v) (sD S)) ∧ (∀ v, v < sN S 1 → (sT S 2 v).Pairwise (fun a b => a.1 < b.1)) ∧ (∀ v, v < sN S 1 → ∀ e ∈ sT S 0 v, isIx e.2 (sN S 0) = true) ∧ (∀ v, v < sN S 1 → ∀ e ∈ sT S 1 v, e.2 = -1 ∨ isIx e.2 (sN S 2) = true) ∧ (∀ v, v < sN S 1 → ∀ e ∈ sT S 2 v, e.2 = 0 ∨ e.2 = 1) ∧ (∀ v, v < sN S 1 → (sT S 1 v).length ≤ t ∧ (sT S 2 v).length ≤ t) ∧ (∀ v, v < sN S 1 → kindOk (sV S v 1) = true) ∧ (∀ v, v < sN S 1 → sV S v 7 = 0 ∨ sV S v 7 = 1) ∧ (∀ v, v < sN S 1 → sV S v 6 = 0 ∨ sV S v 6 = 1) ∧ (∀ v, v < sN S 1 → ∀ j, j < 6 → 0 ≤ (sL S v j).toInt ∧ (sL S v j).toInt ≤ 9999 * t) ∧ (∀ p, p < sN S 2 → srt (sT S 3 p) (sD S)) ∧ (∀ p, p < sN S 2 → ∀ e ∈ sT S 3 p, e.2 = -1 ∨ isIx e.2 (sN S 1) = true) ∧ (∀ p, p < sN S 2 → (sT S 3 p).length ≤ t) ∧ (∀ v, v < sN S 1 → ∀ p, p < sN S 2 → ∀ d : Int32, look (sT S 1 v) d = nI p ↔ look (sT S 3 p) d = nI v) ∧ (∀ p, p < sN S 2 → sQ S p 2 ≠ -1 → lastV (sT S 3 p) = -1 ∧ isIx (sQ S p 2) (sN S 0) = true ∧ 0 ≤ (sQ S p 3).toInt ∧ (sQ S p 3).toInt ≤ (sD S).toInt) ∧ (∀ n, n < sN S 3 → sO S n 1 = -1 ∨ isIx (sO S n 1) (sN S 0) = true) ∧ (∀ n, n < sN S 3 → isIx (sO S n 2) (sN S 1) = true) ∧ (∀ n, n < sN S 3 → isIx (sO S n 3) (sN S 0) = true) ∧ (∀ n, n < sN S 3 → 0 ≤ sO S n 4 ∧ sO S n 4 ≤ sD S) ∧ (∀ n, n < sN S 3 → sO S n 5 = 111 ∨ sO S n 5 = 117 ∨ sO S n 5 = 119) ∧ (2 * passN S (sN S 1) = 2 * sN S 1 + cnt (fun i => decide (sO S i 5 = 117)) (sN S 3))
theorem Inv.bK {S : St}{t : Nat} (h : Inv S t) : sN S 0 ≤ 12 := h.1
theorem Inv.bV {S : St}{t : Nat} (h : Inv S t) : sN S 1 ≤ 15 := h.2.1
theorem Inv.bP {S : St}{t : Nat} (h : Inv S t) : sN S 2 ≤ 40 := h.2.2.1
theorem Inv.bN {S : St}{t : Nat} (h : Inv S t) : sN S 3 ≤ 120 := h.2.2.2.1
theorem Inv.bD {S : St}{t : Nat} (h : Inv S t) : 0 ≤ (sD S).toInt ∧ (sD S).toInt ≤ 3000 := h.2.2.2.2.1
theorem Inv.bt {S : St}{t : Nat} (h : Inv S t) : t ≤ 512 := h.2.2.2.2.2.1
theorem Inv.tn {S : St}{t : Nat} (h : Inv S t) : ∀ v, v < sN S 1 → sT S 0 v ≠ [] := h.2.2.2.2.2.2.1
theorem Inv.ts {S : St}{t : Nat} (h : Inv S t) : ∀ v, v < sN S 1 → ∀ r, r < 3 → srt (sT S r v) (sD S) := h.2.2.2.2.2.2.2.1
theorem Inv.s2 {S : St}{t : Nat} (h : Inv S t) : ∀ v, v < sN S 1 → (sT S 2 v).Pairwise (fun a b => a.1 < b.1) := h.2.2.2.2.2.2.2.2.1
theorem Inv.t0 {S : St}{t : Nat} (h : Inv S t) : ∀ v, v < sN S 1 → ∀ e ∈ sT S 0 v, isIx e.2 (sN S 0) = true := h.2.2.2.2.2.2.2.2.2.1
theorem Inv.t1 {S : St}{t : Nat} (h : Inv S t) : ∀ v, v < sN S 1 → ∀ e ∈ sT S 1 v, e.2 = -1 ∨ isIx e.2 (sN S 2) = true := h.2.2.2.2.2.2.2.2.2.2.1
theorem Inv.t2 {S : St}{t : Nat} (h : Inv S t) : ∀ v, v < sN S 1 → ∀ e ∈ sT S 2 v, e.2 = 0 ∨ e.2 = 1 := h.2.2.2.2.2.2.2.2.2.2.2.1
theorem Inv.tl {S : St}{t : Nat} (h : Inv S t) : ∀ v, v < sN S 1 → (sT S 1 v).length ≤ t ∧ (sT S 2 v).length ≤ t := h.2.2.2.2.2.2.2.2.2.2.2.2.1
theorem Inv.kd {S : St}{t : Nat} (h : Inv S t) : ∀ v, v < sN S 1 → kindOk (sV S v 1) = true := h.2.2.2.2.2.2.2.2.2.2.2.2.2.1
theorem Inv.sc {S : St}{t : Nat} (h : Inv S t) : ∀ v, v < sN S 1 → sV S v 7 = 0 ∨ sV S v 7 = 1 := h.2.2.2.2.2.2.2.2.2.2.2.2.2.2.1
theorem Inv.ad {S : St}{t : Nat} (h : Inv S t) : ∀ v, v < sN S 1 → sV S v 6 = 0 ∨ sV S v 6 = 1 := h.2.2.2.2.2.2.2.2.2.2.2.2.2.2.2.1
theorem Inv.li {S : St}{t : Nat} (h : Inv S t) : ∀ v, v < sN S 1 → ∀ j, j < 6 → 0 ≤ (sL S v j).toInt ∧ (sL S v j).toInt ≤ 9999 * t := h.2.2.2.2.2.2.2.2.2.2.2.2.2.2.2.2.1
theorem Inv.p3 {S : St}{t : Nat} (h : Inv S t) : ∀ p, p < sN S 2 → srt (sT S 3 p) (sD S) := h.2.2.2.2.2.2.2.2.2.2.2.2.2.2.2.2.2.1
theorem Inv.pv {S : St}{t : Nat} (h : Inv S t) : ∀ p, p < sN S 2 → ∀ e ∈ sT S 3 p, e.2 = -1 ∨ isIx e.2 (sN S 1) = true := h.2.2.2.2.2.2.2.2.2.2.2.2.2.2.2.2.2.2.1
theorem Inv.pl {S : St}{t : Nat} (h : Inv S t) : ∀ p, p < sN S 2 → (sT S 3 p).length ≤ t := h.2.2.2.2.2.2.2.2.2.2.2.2.2.2.2.2.2.2.2.1
theorem Inv.ex {S : St}{t : Nat} (h : Inv S t) : ∀ v, v < sN S 1 → ∀ p, p < sN S 2 → ∀ d : Int32, look (sT S 1 v) d = nI p ↔ look (sT S 3 p) d = nI v := h.2.2.2.2.2.2.2.2.2.2.2.2.2.2.2.2.2.2.2.2.1
theorem Inv.kq {S : St}{t : Nat} (h : Inv S t) : ∀ p, p < sN S 2 → sQ S p 2 ≠ -1 → lastV (sT S 3 p) = -1 ∧ isIx (sQ S p 2) (sN S 0) = true ∧ 0 ≤ (sQ S p 3).toInt ∧ (sQ S p 3).toInt ≤ (sD S).toInt := h.2.2.2.2.2.2.2.2.2.2.2.2.2.2.2.2.2.2.2.2.2.1
theorem Inv.n1 {S : St}{t : Nat} (h : Inv S t) : ∀ n, n < sN S 3 → sO S n 1 = -1 ∨ isIx (sO S n 1) (sN S 0) = true := h.2.2.2.2.2.2.2.2.2.2.2.2.2.2.2.2.2.2.2.2.2.2.1
theorem Inv.n2 {S : St}{t : Nat} (h : Inv S t) : ∀ n, n < sN S 3 → isIx (sO S n 2) (sN S 1) = true := h.2.2.2.2.2.2.2.2.2.2.2.2.2.2.2.2.2.2.2.2.2.2.2.1
theorem Inv.n3 {S : St}{t : Nat} (h : Inv S t) : ∀ n, n < sN S 3 → isIx (sO S n 3) (sN S 0) = true := h.2.2.2.2.2.2.2.2.2.2.2.2.2.2.2.2.2.2.2.2.2.2.2.2.1
theorem Inv.n4 {S : St}{t : Nat} (h : Inv S t) : ∀ n, n < sN S 3 → 0 ≤ sO S n 4 ∧ sO S n 4 ≤ sD S := h.2.2.2.2.2.2.2.2.2.2.2.2.2.2.2.2.2.2.2.2.2.2.2.2.2.1
theorem Inv.n5 {S : St}{t : Nat} (h : Inv S t) : ∀ n, n < sN S 3 → sO S n 5 = 111 ∨ sO S n 5 = 117 ∨ sO S n 5 = 119 := h.2.2.2.2.2.2.2.2.2.2.2.2.2.2.2.2.2.2.2.2.2.2.2.2.2.2.1
theorem Inv.cu {S : St}{t : Nat} (h : Inv S t) : 2 * passN S (sN S 1) = 2 * sN S 1 + cnt (fun i => decide (sO S i 5 = 117)) (sN S 3) := h.2.2.2.2.2.2.2.2.2.2.2.2.2.2.2.2.2.2.2.2.2.2.2.2.2.2.2
