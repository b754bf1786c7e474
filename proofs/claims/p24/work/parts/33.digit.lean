/-! a digit's sign is a Latin-1 letter, for each long -/
theorem q_rem10 (z : Int64) : -9 ≤ (z - z / 10 * 10).toInt ∧ (z - z / 10 * 10).toInt ≤ 9 := by
  have h10 : (10 : Int64).toInt = 10 := by decide
  have hz1 := Int64.le_toInt z
  have hz2 := Int64.toInt_lt z
  have e1 : (z / 10).toInt = (z.toInt.tdiv 10).bmod (2 ^ 64) := by rw [Int64.toInt_div, h10]
  have hd : ∃ d : Int, (z / 10).toInt = d ∧ -9 ≤ z.toInt - d * 10 ∧ z.toInt - d * 10 ≤ 9 ∧ -2 ^ 63 ≤ d * 10 ∧ d * 10 < 2 ^ 63 := by
    rcases Int.le_total 0 z.toInt with h | h
    · refine ⟨z.toInt / 10, ?_, by omega, by omega, by omega, by omega⟩
      rw [e1, Int.tdiv_eq_ediv_of_nonneg h]
      exact Int.bmod_eq_of_le (by omega) (by omega)
    · refine ⟨-((-z.toInt) / 10), ?_, by omega, by omega, by omega, by omega⟩
      have e2 : z.toInt.tdiv 10 = -((-z.toInt) / 10) := by
        rw [← Int.tdiv_eq_ediv_of_nonneg (by omega : 0 ≤ -z.toInt), Int.neg_tdiv, Int.neg_neg]
      rw [e1, e2]
      exact Int.bmod_eq_of_le (by omega) (by omega)
  obtain ⟨d, h1, h2, h3, h4, h5⟩ := hd
  have e3 : (z / 10 * 10).toInt = d * 10 := by
    rw [Int64.toInt_mul, h1, h10]
    exact Int.bmod_eq_of_le (by omega) (by omega)
  have e4 : (z - z / 10 * 10).toInt = z.toInt - d * 10 := by
    rw [Int64.toInt_sub, e3]
    exact Int.bmod_eq_of_le (by omega) (by omega)
  rw [e4]
  exact ⟨h2, h3⟩
theorem q_digI (z : Int64) : ∃ k : Nat, 39 ≤ k ∧ k ≤ 57 ∧ (48 + (z - z / 10 * 10)).toInt32 = nI k := by
  obtain ⟨h1, h2⟩ := q_rem10 z
  have h48 : (48 : Int64).toInt = 48 := by decide
  have e1 : (48 + (z - z / 10 * 10)).toInt = 48 + (z - z / 10 * 10).toInt := by
    rw [Int64.toInt_add, h48]
    exact Int.bmod_eq_of_le (by omega) (by omega)
  have e2 : (48 + (z - z / 10 * 10)).toInt32.toInt = 48 + (z - z / 10 * 10).toInt := by
    rw [Int64.toInt_toInt32, e1]
    exact Int.bmod_eq_of_le (by omega) (by omega)
  have h0 : ¬ (48 + (z - z / 10 * 10)).toInt32 < 0 := by
    rw [Int32.lt_iff_toInt_lt, e2, Int32.toInt_zero]
    omega
  obtain ⟨k, hk, e⟩ := nI_of h0
  have e3 : (nI k).toInt = (k : Int) := nI_toInt hk
  rw [e, e3] at e2
  exact ⟨k, by omega, by omega, e⟩
theorem q_digC (z : Int64) : ¬ 255 < ((48 + (z - z / 10 * 10)).toInt32.toUInt32 % 65536).toInt32 := by
  obtain ⟨k, h1, h2, e⟩ := q_digI z
  rw [e]
  have e2 : ((nI k).toUInt32 % 65536).toInt32 = nI k := by
    have h := (pk_charN (q := k) (by omega)).1
    exact Value.int.inj h
  rw [e2]
  exact nI_nlt (a := 255) (b := k) (by omega) (by decide)
