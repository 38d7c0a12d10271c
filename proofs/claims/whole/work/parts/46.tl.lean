theorem nI_sub {a b : Nat} (h : a ≤ b) (hb : b < 2 ^ 31) : nI b - nI a = nI (b - a) := by
  have h1 := nI_toInt hb
  have h2 := nI_toInt (n := a) (by omega)
  exact i_ext (by rw [i_sub (by omega) (by omega), h1, h2, nI_toInt (by omega)]; omega)
theorem nI_addx {a b : Nat} (hb : a + b < 2 ^ 31) : nI a + nI b = nI (a + b) := by
  have h1 := nI_toInt (n := b) (by omega)
  have h2 := nI_toInt (n := a) (by omega)
  exact i_ext (by rw [i_add (by omega) (by omega), h1, h2, nI_toInt (by omega)]; omega)
theorem mid_n {a b : Nat} (h : a ≤ b) (hb : b ≤ 1100) : nI a + (nI b - nI a) / 2 = nI (a + (b - a) / 2) := by
  rw [nI_sub h (by omega)]
  have h3 : nI (b - a) / 2 = nI ((b - a) / 2) := by
    refine i_ext ?_
    have e2 : (2 : Int32).toInt = 2 := by decide
    rw [Int32.toInt_div, nI_toInt (n := b - a) (by omega), nI_toInt (n := (b - a) / 2) (by omega), e2, Int.bmod]
    have h4 : ((b - a : Nat) : Int).tdiv 2 = (((b - a) / 2 : Nat) : Int) := by rw [Int.tdiv_eq_ediv_of_nonneg (by omega)]; omega
    rw [h4]
    split <;> omega
  rw [h3, nI_addx (by omega)]
