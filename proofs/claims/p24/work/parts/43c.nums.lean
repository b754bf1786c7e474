/-! the steps: told anew, put on and back, cut -/
theorem m_i64 {a b : Nat} (ha : a < 2 ^ 31) (hb : b < 2 ^ 31) : (nI a).toInt64 - (nI b).toInt64 = (nI a - nI b).toInt64 := by
  have e1 : (nI a).toInt64.toInt = (a : Int) := by rw [Int32.toInt_toInt64, nI_toInt ha]
  have e2 : (nI b).toInt64.toInt = (b : Int) := by rw [Int32.toInt_toInt64, nI_toInt hb]
  have e3 : (nI a - nI b).toInt = (a : Int) - b := by
    rw [Int32.toInt_sub, nI_toInt ha, nI_toInt hb]
    exact Int.bmod_eq_of_le (by omega) (by omega)
  rw [← Int64.toInt_inj, Int64.toInt_sub, e1, e2, Int32.toInt_toInt64, e3]
  exact Int.bmod_eq_of_le (by omega) (by omega)
/-- a part told anew: z is its size, w what it was, v what it is then -/
theorem m_wv {k v q z k2 : Nat} (hk : k < 86400000000000) (hv : v < 1000000000) (hq : q < 1000000000) (hz : z ≤ 3600000000000) (hvz : v * z < 86400000000000) (hqz : q * z < 86400000000000) (e : (k : Int) + ((v : Int) - q) * z = k2) (hk2 : k2 < 86400000000000) : lN k + (nI v - nI q).toInt64 * lN z = lN k2 := by
  have e1 : (nI v - nI q).toInt64.toInt = (v : Int) - q := by
    rw [Int32.toInt_toInt64, Int32.toInt_sub, nI_toInt (by omega), nI_toInt (by omega)]
    exact Int.bmod_eq_of_le (by omega) (by omega)
  have e2 : ((v : Int) - q) * z = (v * z : Nat) - (q * z : Nat) := by rw [Int.sub_mul, Int.natCast_mul, Int.natCast_mul]
  have e3 : ((nI v - nI q).toInt64 * lN z).toInt = ((v : Int) - q) * z := by
    rw [Int64.toInt_mul, e1, pk_lT (by omega)]
    exact Int.bmod_eq_of_le (by omega) (by omega)
  rw [← Int64.toInt_inj, Int64.toInt_add, e3, pk_lT (by omega), pk_lT (by omega), e]
  exact Int.bmod_eq_of_le (by omega) (by omega)
/-- which part, its bound -/
theorem m_wh (a2 a3 : Int32) : (∃ i M z v : Nat, i < 4 ∧ a2 = nI i ∧ v ≤ M ∧ a3 = nI v ∧ ((i = 0 ∧ M = 23 ∧ z = 3600000000000) ∨ (i = 1 ∧ M = 59 ∧ z = 60000000000) ∨ (i = 2 ∧ M = 59 ∧ z = 1000000000) ∨ (i = 3 ∧ M = 999999999 ∧ z = 1)) ∧ j_X0_needPart a2 a3 = none) ∨ (j_X0_needPart a2 a3 = some "java/lang/IllegalArgumentException" ∧ (j_X2_isIn a2 0 3 = 0 ∨ (j_X2_isIn a2 0 3 = 1 ∧ (a2 = 0 ∧ j_X2_isIn a3 0 23 = 0 ∨ ¬ a2 = 0 ∧ a2 = 3 ∧ j_X2_isIn a3 0 999999999 = 0 ∨ ¬ a2 = 0 ∧ ¬ a2 = 3 ∧ j_X2_isIn a3 0 59 = 0)))) := by
  rcases m_in a2 3 (by decide) with ⟨i, hi, rfl, h1, h2, h3⟩ | ⟨h1, h2⟩
  · have h4 : j_X2_isIn (nI i) 0 3 = 1 := h1
    rcases (show i = 0 ∨ i = 1 ∨ i = 2 ∨ i = 3 by omega) with rfl | rfl | rfl | rfl
    · rcases m_p0 a3 with ⟨v, hv, rfl, p1, p2⟩ | ⟨p1, p2⟩
      · exact Or.inl ⟨0, 23, _, v, by decide, rfl, hv, rfl, Or.inl ⟨rfl, rfl, rfl⟩, p1⟩
      · exact Or.inr ⟨p1, Or.inr ⟨h4, Or.inl ⟨rfl, p2⟩⟩⟩
    · rcases m_p1 a3 with ⟨v, hv, rfl, p1, p2⟩ | ⟨p1, p2⟩
      · exact Or.inl ⟨1, 59, _, v, by decide, rfl, hv, rfl, Or.inr (Or.inl ⟨rfl, rfl, rfl⟩), p1⟩
      · exact Or.inr ⟨p1, Or.inr ⟨h4, Or.inr (Or.inr ⟨by decide, by decide, p2⟩)⟩⟩
    · rcases m_p2 a3 with ⟨v, hv, rfl, p1, p2⟩ | ⟨p1, p2⟩
      · exact Or.inl ⟨2, 59, _, v, by decide, rfl, hv, rfl, Or.inr (Or.inr (Or.inl ⟨rfl, rfl, rfl⟩)), p1⟩
      · exact Or.inr ⟨p1, Or.inr ⟨h4, Or.inr (Or.inr ⟨by decide, by decide, p2⟩)⟩⟩
    · rcases m_p3 a3 with ⟨v, hv, rfl, p1, p2⟩ | ⟨p1, p2⟩
      · exact Or.inl ⟨3, 999999999, _, v, by decide, rfl, hv, rfl, Or.inr (Or.inr (Or.inr ⟨rfl, rfl, rfl⟩)), p1⟩
      · exact Or.inr ⟨p1, Or.inr ⟨h4, Or.inr (Or.inl ⟨by decide, by decide, p2⟩)⟩⟩
  · refine Or.inr ⟨?_, Or.inl h1⟩
    unfold j_X0_needPart
    by_cases h0 : a2 < 0
    · rw [if_pos h0]
    · rw [if_neg h0, if_neg (fun h : a2 < 4 => (h2.resolve_left h0) ((m_ltP h0 3 (by decide)).mp h))]
theorem m_pnan {i z : Nat} (h : (i = 0 ∧ z = 3600000000000) ∨ (i = 1 ∧ z = 60000000000) ∨ (i = 2 ∧ z = 1000000000) ∨ (i = 3 ∧ z = 1)) : j_X0_partNanos (nI i) = lN z := by
  rcases h with ⟨rfl, rfl⟩ | ⟨rfl, rfl⟩ | ⟨rfl, rfl⟩ | ⟨rfl, rfl⟩ <;> decide +kernel
theorem m_withR {g : Nat → Int64} {kn2 td th : Int32} {c k i M z v k2 : Nat} (hc : c < 8) (e2 : g c = lN k) (hk : k < 86400000000000) (hv : v ≤ M) (n1 : j_X2_isNone (nI c) = 0) (hz : (i = 0 ∧ M = 23 ∧ z = 3600000000000) ∨ (i = 1 ∧ M = 59 ∧ z = 60000000000) ∨ (i = 2 ∧ M = 59 ∧ z = 1000000000) ∨ (i = 3 ∧ M = 999999999 ∧ z = 1)) (hk2 : lN k + (nI v - nI (q_pt k (nI i))).toInt64 * lN z = lN k2) : j_X2_with th g kn2 td (nI c) (nI i) (nI v) = (nI (q_pt k (nI i)), 0, vp_updL g c (lN k2), kn2, td + 1) := by
  have hin : ∀ (a M : Nat), M < 2 ^ 31 → a ≤ M → j_X2_isIn (nI a) 0 (nI M) = 1 := fun a M hM ha => by
    rcases m_in (nI a) M hM with ⟨n, hn, e, h1, -⟩ | ⟨h1, h2⟩
    · exact h1
    · rcases h2 with h2 | h2
      · exact absurd h2 (nI_pos (by omega))
      · exact absurd (nI_le ha hM) h2
  rcases hz with ⟨rfl, rfl, rfl⟩ | ⟨rfl, rfl, rfl⟩ | ⟨rfl, rfl, rfl⟩ | ⟨rfl, rfl, rfl⟩
  · have i1 : j_X2_isIn (nI 0) 0 3 = 1 := hin 0 3 (by decide) (by decide)
    have i2 : j_X2_isIn (nI v) 0 23 = 1 := hin v 23 (by decide) hv
    unfold j_X2_with
    rw [if_pos (show nI 0 = 0 from rfl)]
    simp only [i1, i2, n1, m_10, m_r00, m_t00, if_true, if_false, m_cl hc, e2, q_partM hk]
    rw [show (3600000000000 : Int64) = lN 3600000000000 from rfl, hk2]
  · have i1 : j_X2_isIn (nI 1) 0 3 = 1 := hin 1 3 (by decide) (by decide)
    have i2 : j_X2_isIn (nI v) 0 59 = 1 := hin v 59 (by decide) hv
    unfold j_X2_with
    rw [if_neg (show ¬ nI 1 = 0 by decide), if_neg (show ¬ nI 1 = 3 by decide)]
    simp only [i1, i2, n1, m_10, m_r00, m_t00, if_true, if_false, m_cl hc, e2, q_partM hk]
    rw [if_pos (show nI 1 = 1 from rfl), show (60000000000 : Int64) = lN 60000000000 from rfl, hk2]
  · have i1 : j_X2_isIn (nI 2) 0 3 = 1 := hin 2 3 (by decide) (by decide)
    have i2 : j_X2_isIn (nI v) 0 59 = 1 := hin v 59 (by decide) hv
    unfold j_X2_with
    rw [if_neg (show ¬ nI 2 = 0 by decide), if_neg (show ¬ nI 2 = 3 by decide)]
    simp only [i1, i2, n1, m_10, m_r00, m_t00, if_true, if_false, m_cl hc, e2, q_partM hk]
    rw [if_neg (show ¬ nI 2 = 1 by decide), if_pos (show nI 2 = 2 from rfl), show (1000000000 : Int64) = lN 1000000000 from rfl, hk2]
  · have i1 : j_X2_isIn (nI 3) 0 3 = 1 := hin 3 3 (by decide) (by decide)
    have i2 : j_X2_isIn (nI v) 0 999999999 = 1 := hin v 999999999 (by decide) hv
    unfold j_X2_with
    rw [if_neg (show ¬ nI 3 = 0 by decide), if_pos (show nI 3 = 3 from rfl)]
    simp only [i1, i2, n1, m_10, m_r00, m_t00, if_true, if_false, m_cl hc, e2, q_partM hk]
    rw [if_neg (show ¬ nI 3 = 1 by decide), if_neg (show ¬ nI 3 = 2 by decide), show (1 : Int64) = lN 1 from rfl, hk2]
theorem st_with {kn ch kn2 td : Int32} {f g : Nat → Int64} (hI : kInv kn ch f kn2 td g) (th : Int32) (a1 a2 a3 : Int32) : m_St (j_X0_with kn ch f a1 a2 a3) (j_X2_with th g kn2 td a1 a2 a3) k_cd kn ch f := by
  rcases m_clk a1 with ⟨c, hc, rfl, h1, n1⟩ | ⟨h1, n1⟩
  · rcases m_wh a2 a3 with ⟨i, M, z, v, hi, rfl, hv, rfl, hz, h2⟩ | ⟨h2, h3⟩
    · obtain ⟨k, hk, e1, e2⟩ := m_eq hI hc
      have hq := q_pt_lt hk (nI i)
      obtain ⟨k2, hk2, ek⟩ : ∃ k2, k2 < 86400000000000 ∧ lN k + (nI v - nI (q_pt k (nI i))).toInt64 * lN z = lN k2 := by
        rcases hz with ⟨rfl, rfl, rfl⟩ | ⟨rfl, rfl, rfl⟩ | ⟨rfl, rfl, rfl⟩ | ⟨rfl, rfl, rfl⟩
        · rw [show q_pt k (nI 0) = k / 1000000000 / 3600 from if_pos rfl]
          exact ⟨k + v * 3600000000000 - k / 1000000000 / 3600 * 3600000000000, by omega, m_wv hk (by omega) (by omega) (by omega) (by omega) (by omega) (by omega) (by omega)⟩
        · rw [show q_pt k (nI 1) = k / 1000000000 / 60 % 60 from rfl]
          exact ⟨k + v * 60000000000 - k / 1000000000 / 60 % 60 * 60000000000, by omega, m_wv hk (by omega) (by omega) (by omega) (by omega) (by omega) (by omega) (by omega)⟩
        · rw [show q_pt k (nI 2) = k / 1000000000 % 60 from rfl]
          exact ⟨k + v * 1000000000 - k / 1000000000 % 60 * 1000000000, by omega, m_wv hk (by omega) (by omega) (by omega) (by omega) (by omega) (by omega) (by omega)⟩
        · rw [show q_pt k (nI 3) = k % 1000000000 from rfl]
          exact ⟨k + v - k % 1000000000, by omega, m_wv hk (by omega) (by omega) (by omega) (by omega) (by omega) (by omega) (by omega)⟩
      have hpn : j_X0_partNanos (nI i) = lN z := m_pnan (by rcases hz with ⟨h, -, h'⟩ | ⟨h, -, h'⟩ | ⟨h, -, h'⟩ | ⟨h, -, h'⟩ <;> simp [h, h'])
      refine m_okM (z := nI (q_pt k (nI i))) hI hc hk2 ?_ ?_
      · simp only [j_X0_with, h1, h2, m_jn, q_numC kn ch f hc, e1, q_partX hk, hpn, m_i64 (show v < 2 ^ 31 by omega) hq, ek, m_set kn ch f hc]
      · exact m_withR hc e2 hk hv n1 hz ek
    · refine m_erM (E0 := "java/lang/IllegalArgumentException") (z := 0) hI ?_ ?_
      · simp only [j_X0_with, h1, h2, m_jn, m_js]
      · rcases h3 with h3 | ⟨h3, ⟨h4, h5⟩ | ⟨h4, h6, h5⟩ | ⟨h4, h6, h5⟩⟩
        · simp only [j_X2_with, n1, h3, m_r01, m_t01, m_10, m_00, if_true, if_false, ite_self, m_cdA]
        · simp only [j_X2_with, if_pos h4, n1, h3, h5, m_r01, m_t01, m_10, m_00, if_true, if_false, m_cdA]
        · simp only [j_X2_with, if_neg h4, if_pos h6, n1, h3, h5, m_r01, m_t01, m_10, m_00, if_true, if_false, m_cdA]
        · simp only [j_X2_with, if_neg h4, if_neg h6, n1, h3, h5, m_r01, m_t01, m_10, m_00, if_true, if_false, m_cdA]
  · refine m_erM (E0 := "java/lang/IndexOutOfBoundsException") (z := 0) hI ?_ ?_
    · simp only [j_X0_with, h1, m_js]
    · simp only [j_X2_with, n1, m_r1, m_t1, m_10, if_false, ite_self, m_cdI]
theorem m_un : ∀ u, u < 8 → j_X0_unitNanos (nI u) = j_X2_size (nI u) := by decide +kernel
theorem m_usz : ∀ u, u < 8 → ∃ z, 0 < z ∧ z ≤ 86400000000000 ∧ j_X2_size (nI u) = lN z := fun u hu => by
  rcases (show u = 0 ∨ u = 1 ∨ u = 2 ∨ u = 3 ∨ u = 4 ∨ u = 5 ∨ u = 6 ∨ u = 7 by omega) with rfl | rfl | rfl | rfl | rfl | rfl | rfl | rfl
  · exact ⟨1, by decide, by decide, by decide +kernel⟩
  · exact ⟨1000, by decide, by decide, by decide +kernel⟩
  · exact ⟨1000000, by decide, by decide, by decide +kernel⟩
  · exact ⟨1000000000, by decide, by decide, by decide +kernel⟩
  · exact ⟨60000000000, by decide, by decide, by decide +kernel⟩
  · exact ⟨3600000000000, by decide, by decide, by decide +kernel⟩
  · exact ⟨43200000000000, by decide, by decide, by decide +kernel⟩
  · exact ⟨86400000000000, by decide, by decide, by decide +kernel⟩
theorem st_cut {kn ch kn2 td : Int32} {f g : Nat → Int64} (hI : kInv kn ch f kn2 td g) (th : Int32) (a1 a2 : Int32) : m_St (j_X0_cut kn ch f a1 a2) (j_X2_cut th g kn2 td a1 a2) k_cd kn ch f := by
  rcases m_clk a1 with ⟨c, hc, rfl, h1, n1⟩ | ⟨h1, n1⟩
  · rcases m_u7 a2 with ⟨u, hu, rfl, h2, n2⟩ | ⟨h2, n2⟩
    · obtain ⟨k, hk, e1, e2⟩ := m_eq hI hc
      obtain ⟨z, hz0, hz, ez⟩ := m_usz u (by omega)
      have e3 : lN k - (lN k - lN k / lN z * lN z) = lN (k - k % z) := by
        rw [pk_lRem (by omega) hz0 (by omega), lN_sub (Nat.mod_le _ _)]
      have e4 : j_X0_cutNumber (lN k) (nI u) = lN (k - k % z) := by
        unfold j_X0_cutNumber
        rw [m_un u (by omega), ez, if_neg (fun h : lN z ≤ 0 => absurd ((pk_lLE (by omega) (by decide)).mp (show lN z ≤ lN 0 from h)) (by omega)), e3]
      refine m_okM (z := j_X2_secondOf (lN (k - k % z))) hI hc (k := k - k % z) (by omega) ?_ ?_
      · simp only [j_X0_cut, h1, h2, m_jn, q_numC kn ch f hc, e1, e4, m_set kn ch f hc]
      · simp only [j_X2_cut, n1, n2, m_10, m_r00, m_t00, if_true, if_false, m_cl hc, e2, ez, e3]
    · refine m_erM (E0 := "java/lang/IllegalArgumentException") (z := 0) hI ?_ ?_
      · simp only [j_X0_cut, h1, h2, m_jn, m_js]
      · simp only [j_X2_cut, n1, n2, m_00, m_10, m_r01, m_t01, if_true, if_false, m_cdA]
  · refine m_erM (E0 := "java/lang/IndexOutOfBoundsException") (z := 0) hI ?_ ?_
    · simp only [j_X0_cut, h1, m_js]
    · simp only [j_X2_cut, n1, m_r1, m_t1, m_10, if_false, ite_self, m_cdI]
