/-! the steps: telling, taking -/
theorem m_nop {h m s n : Nat} (hh : h ≤ 23) (hm : m ≤ 59) (hs : s ≤ 59) (hn : n ≤ 999999999) : j_X0_numberOfParts (nI h) (nI m) (nI s) (nI n) = lN (((3600 * h + 60 * m) + s) * 1000000000 + n) := by
  unfold j_X0_numberOfParts
  rw [nI_l (by omega), nI_l (by omega), nI_l (by omega), nI_l (by omega), show (3600 : Int64) = lN 3600 from rfl, show (60 : Int64) = lN 60 from rfl, show (1000000000 : Int64) = lN 1000000000 from rfl, lN_mul, lN_mul, lN_add, lN_add, lN_mul, lN_add]
theorem m_nop2 {h m s n : Nat} (hh : h ≤ 23) (hm : m ≤ 59) (hs : s ≤ 59) (hn : n ≤ 999999999) : (((((nI h * 60) + nI m) * 60) + nI s).toInt64 * 1000000000) + (nI n).toInt64 = lN (((3600 * h + 60 * m) + s) * 1000000000 + n) := by
  rw [show (60 : Int32) = nI 60 from rfl, pk_mul, nI_add, pk_mul, nI_add, nI_l (by omega), nI_l (by omega), show (1000000000 : Int64) = lN 1000000000 from rfl, lN_mul, lN_add]
  exact congrArg lN (by omega)
theorem m_sn {s n : Nat} (hs : s ≤ 86399) (hn : n ≤ 999999999) : ((nI s).toInt64 * 1000000000) + (nI n).toInt64 = lN (s * 1000000000 + n) := by
  rw [nI_l (by omega), nI_l (by omega), show (1000000000 : Int64) = lN 1000000000 from rfl, lN_mul, lN_add]
theorem m_s0 {s : Nat} (hs : s ≤ 86399) : (nI s).toInt64 * 1000000000 = lN (s * 1000000000) := by
  rw [nI_l (by omega), show (1000000000 : Int64) = lN 1000000000 from rfl, lN_mul]
theorem m_hour (v : Int64) : j_X0_partOf v 0 = j_X2_secondOf v / 3600 := by
  unfold j_X0_partOf j_X2_secondOf
  rw [if_pos rfl]
theorem m_numU (kn ch : Int32) (f : Nat → Int64) {c : Nat} (hc : c < 8) (v : Int64) : j_X0_numberOf kn ch (vp_updL f c v) (nI c) = v := by
  rw [q_numC _ _ _ hc, pk_uLs]
theorem st_tell {kn ch kn2 td : Int32} {f g : Nat → Int64} (hI : kInv kn ch f kn2 td g) (th : Int32) (a1 a2 a3 a4 a5 : Int32) : m_St (j_X0_tell kn ch f a1 a2 a3 a4 a5) (j_X2_tell th g kn2 td a1 a2 a3 a4 a5) k_cd kn ch f := by
  rcases m_clk a1 with ⟨c, hc, rfl, h1, n1⟩ | ⟨h1, n1⟩
  · rcases m_p0 a2 with ⟨h, hh, rfl, h2, n2⟩ | ⟨h2, n2⟩
    · rcases m_p1 a3 with ⟨m, hm, rfl, h3, n3⟩ | ⟨h3, n3⟩
      · rcases m_p2 a4 with ⟨s, hs, rfl, h4, n4⟩ | ⟨h4, n4⟩
        · rcases m_p3 a5 with ⟨n, hn, rfl, h5, n5⟩ | ⟨h5, n5⟩
          · refine m_okM (z := j_X2_secondOf (lN (((3600 * h + 60 * m) + s) * 1000000000 + n))) hI hc (k := ((3600 * h + 60 * m) + s) * 1000000000 + n) (by omega) ?_ ?_
            · simp only [j_X0_tell, h1, h2, h3, h4, h5, m_jn, m_nop hh hm hs hn, m_set kn ch f hc]
            · simp only [j_X2_tell, n1, n2, n3, n4, n5, m_10, m_00, m_r00, m_t00, if_true, if_false, m_nop2 hh hm hs hn, m_cl hc]
          · refine m_erM (E0 := "java/lang/IllegalArgumentException") (z := 0) hI ?_ ?_
            · simp only [j_X0_tell, h1, h2, h3, h4, h5, m_jn, m_js]
            · simp only [j_X2_tell, n1, n2, n3, n4, n5, m_10, m_00, m_r01, m_t01, if_true, if_false, m_cdA]
        · refine m_erM (E0 := "java/lang/IllegalArgumentException") (z := 0) hI ?_ ?_
          · simp only [j_X0_tell, h1, h2, h3, h4, m_jn, m_js]
          · simp only [j_X2_tell, n1, n2, n3, n4, m_10, m_00, m_r01, m_t01, if_true, if_false, m_cdA]
      · refine m_erM (E0 := "java/lang/IllegalArgumentException") (z := 0) hI ?_ ?_
        · simp only [j_X0_tell, h1, h2, h3, m_jn, m_js]
        · simp only [j_X2_tell, n1, n2, n3, m_10, m_00, m_r01, m_t01, if_true, if_false, m_cdA]
    · refine m_erM (E0 := "java/lang/IllegalArgumentException") (z := 0) hI ?_ ?_
      · simp only [j_X0_tell, h1, h2, m_jn, m_js]
      · simp only [j_X2_tell, n1, n2, m_10, m_00, m_r01, m_t01, if_true, if_false, m_cdA]
  · refine m_erM (E0 := "java/lang/IndexOutOfBoundsException") (z := 0) hI ?_ ?_
    · simp only [j_X0_tell, h1, m_js]
    · simp only [j_X2_tell, n1, m_r1, m_t1, m_10, if_false, ite_self, m_cdI]
theorem st_tellSecond {kn ch kn2 td : Int32} {f g : Nat → Int64} (hI : kInv kn ch f kn2 td g) (th : Int32) (a1 a2 : Int32) : m_St (j_X0_tellSecond kn ch f a1 a2) (j_X2_tellSecond th g kn2 td a1 a2) k_cd kn ch f := by
  rcases m_clk a1 with ⟨c, hc, rfl, h1, n1⟩ | ⟨h1, n1⟩
  · rcases m_sec a2 with ⟨s, hs, rfl, h2, n2⟩ | ⟨h2, n2⟩
    · refine m_okM (z := j_X2_secondOf (lN (s * 1000000000)) / 3600) hI hc (k := s * 1000000000) (by omega) ?_ ?_
      · simp only [j_X0_tellSecond, h1, h2, m_jn, m_s0 hs, m_set kn ch f hc, m_numU _ _ _ hc, m_hour]
      · simp only [j_X2_tellSecond, n1, n2, m_10, m_00, m_r00, m_t00, if_true, if_false, m_s0 hs, m_cl hc]
    · refine m_erM (E0 := "java/lang/IllegalArgumentException") (z := 0) hI ?_ ?_
      · simp only [j_X0_tellSecond, h1, h2, m_jn, m_js]
      · simp only [j_X2_tellSecond, n1, n2, m_10, m_00, m_r01, m_t01, if_true, if_false, m_cdA]
  · refine m_erM (E0 := "java/lang/IndexOutOfBoundsException") (z := 0) hI ?_ ?_
    · simp only [j_X0_tellSecond, h1, m_js]
    · simp only [j_X2_tellSecond, n1, m_r1, m_t1, m_10, if_false, ite_self, m_cdI]
theorem st_tellNumber {kn ch kn2 td : Int32} {f g : Nat → Int64} (hI : kInv kn ch f kn2 td g) (th : Int32) (a1 a2 a3 : Int32) : m_St (j_X0_tellNumber kn ch f a1 a2 a3) (j_X2_tellNumber th g kn2 td a1 a2 a3) k_cd kn ch f := by
  rcases m_clk a1 with ⟨c, hc, rfl, h1, n1⟩ | ⟨h1, n1⟩
  · rcases m_sec a2 with ⟨s, hs, rfl, h2, n2⟩ | ⟨h2, n2⟩
    · rcases m_p3 a3 with ⟨n, hn, rfl, h3, n3⟩ | ⟨h3, n3⟩
      · refine m_okM (z := j_X2_secondOf (lN (s * 1000000000 + n)) / 3600) hI hc (k := s * 1000000000 + n) (by omega) ?_ ?_
        · simp only [j_X0_tellNumber, h1, h2, h3, m_jn, m_sn hs hn, m_set kn ch f hc, m_numU _ _ _ hc, m_hour]
        · simp only [j_X2_tellNumber, n1, n2, n3, m_10, m_00, m_r00, m_t00, if_true, if_false, m_sn hs hn, m_cl hc]
      · refine m_erM (E0 := "java/lang/IllegalArgumentException") (z := 0) hI ?_ ?_
        · simp only [j_X0_tellNumber, h1, h2, h3, m_jn, m_js]
        · simp only [j_X2_tellNumber, n1, n2, n3, m_10, m_00, m_r01, m_t01, if_true, if_false, m_cdA]
    · refine m_erM (E0 := "java/lang/IllegalArgumentException") (z := 0) hI ?_ ?_
      · simp only [j_X0_tellNumber, h1, h2, m_jn, m_js]
      · simp only [j_X2_tellNumber, n1, n2, m_10, m_00, m_r01, m_t01, if_true, if_false, m_cdA]
  · refine m_erM (E0 := "java/lang/IndexOutOfBoundsException") (z := 0) hI ?_ ?_
    · simp only [j_X0_tellNumber, h1, m_js]
    · simp only [j_X2_tellNumber, n1, m_r1, m_t1, m_10, if_false, ite_self, m_cdI]
theorem m_kn (v : Int32) : (v = 0 ∧ t_KN v.toNatClampNeg = lN 0 ∧ ¬ v < 0 ∧ v < 3 ∧ j_X2_isIn v 0 2 = 1) ∨ (v = 1 ∧ t_KN v.toNatClampNeg = lN 43200000000000 ∧ ¬ v < 0 ∧ v < 3 ∧ j_X2_isIn v 0 2 = 1) ∨ (v = 2 ∧ t_KN v.toNatClampNeg = lN 86399999999999 ∧ ¬ v < 0 ∧ v < 3 ∧ j_X2_isIn v 0 2 = 1) ∨ ((v < 0 ∨ (¬ v < 0 ∧ ¬ v < 3)) ∧ j_X2_isIn v 0 2 = 0) := by
  rcases m_in v 2 (by decide) with ⟨n, hn, rfl, h1, h2, h3⟩ | ⟨h1, h2⟩
  · have h4 : j_X2_isIn (nI n) 0 2 = 1 := h1
    rcases (show n = 0 ∨ n = 1 ∨ n = 2 by omega) with rfl | rfl | rfl
    · exact Or.inl ⟨rfl, rfl, by decide, by decide, h4⟩
    · exact Or.inr (Or.inl ⟨rfl, rfl, by decide, by decide, h4⟩)
    · exact Or.inr (Or.inr (Or.inl ⟨rfl, rfl, by decide, by decide, h4⟩))
  · refine Or.inr (Or.inr (Or.inr ⟨?_, h1⟩))
    by_cases h0 : v < 0
    · exact Or.inl h0
    · exact Or.inr ⟨h0, fun h : v < 3 => (h2.resolve_left h0) ((m_ltP h0 2 (by decide)).mp h)⟩
theorem st_tellKnown {kn ch kn2 td : Int32} {f g : Nat → Int64} (hI : kInv kn ch f kn2 td g) (th : Int32) (a1 a2 : Int32) : m_St (j_X0_tellKnown kn ch f a1 a2) (j_X2_tellKnown th g kn2 td a1 a2) k_cd kn ch f := by
  have e20 : ((2 : Int32) = 0) = False := eq_false (by decide)
  have e21 : ((2 : Int32) = 1) = False := eq_false (by decide)
  rcases m_clk a1 with ⟨c, hc, rfl, h1, n1⟩ | ⟨h1, n1⟩
  · rcases m_kn a2 with ⟨e, hv, h2, h3, n2⟩ | ⟨e, hv, h2, h3, n2⟩ | ⟨e, hv, h2, h3, n2⟩ | ⟨h2, n2⟩
    · refine m_okM (z := j_X2_secondOf (lN 0)) hI hc (k := 0) (by omega) ?_ ?_
      · simp only [j_X0_tellKnown, h1, m_jn, if_neg h2, if_pos h3, hv, m_set kn ch f hc]
      · simp only [j_X2_tellKnown, n1, n2, m_10, m_00, m_r00, m_t00, if_true, if_false, if_pos e, m_cl hc]
        rfl
    · refine m_okM (z := j_X2_secondOf (lN 43200000000000)) hI hc (k := 43200000000000) (by omega) ?_ ?_
      · simp only [j_X0_tellKnown, h1, m_jn, if_neg h2, if_pos h3, hv, m_set kn ch f hc]
      · subst e
        simp only [j_X2_tellKnown, n1, n2, m_10, m_00, m_r00, m_t00, if_true, if_false, m_cl hc]
        rfl
    · refine m_okM (z := j_X2_secondOf (lN 86399999999999)) hI hc (k := 86399999999999) (by omega) ?_ ?_
      · simp only [j_X0_tellKnown, h1, m_jn, if_neg h2, if_pos h3, hv, m_set kn ch f hc]
      · subst e
        simp only [j_X2_tellKnown, n1, n2, m_10, m_00, e20, e21, m_r00, m_t00, if_true, if_false, m_cl hc]
        rfl
    · refine m_erM (E0 := "java/lang/IllegalArgumentException") (z := 0) hI ?_ ?_
      · simp only [j_X0_tellKnown, h1, m_jn]
        rcases h2 with h2 | ⟨h2, h3⟩
        · rw [if_pos h2]
        · rw [if_neg h2, if_neg h3]
      · simp only [j_X2_tellKnown, n1, n2, m_10, m_00, m_r01, m_t01, if_true, if_false, m_cdA]
  · refine m_erM (E0 := "java/lang/IndexOutOfBoundsException") (z := 0) hI ?_ ?_
    · simp only [j_X0_tellKnown, h1, m_js]
    · simp only [j_X2_tellKnown, n1, m_r1, m_t1, m_10, if_false, ite_self, m_cdI]
theorem st_take {kn ch kn2 td : Int32} {f g : Nat → Int64} (hI : kInv kn ch f kn2 td g) (th : Int32) (a1 a2 : Int32) : m_St (j_X0_take kn ch f a1 a2) (j_X2_take th g kn2 td a1 a2) k_cd kn ch f := by
  rcases m_clk a1 with ⟨c, hc, rfl, h1, n1⟩ | ⟨h1, n1⟩
  · rcases m_clk a2 with ⟨d, hd, rfl, h2, n2⟩ | ⟨h2, n2⟩
    · obtain ⟨k1, hk1, e1, e2⟩ := m_eq hI hc
      obtain ⟨k2, hk2, e3, e4⟩ := m_eq hI hd
      by_cases e : lN k1 = lN k2
      · refine m_okM (z := 0) hI hc hk2 ?_ ?_
        · simp only [j_X0_take, h1, h2, m_jn, q_numC kn ch f hc, q_numC kn ch f hd, e1, e3, if_pos e, m_set kn ch f hc]
        · simp only [j_X2_take, n1, n2, m_00, m_r00, m_t00, if_true, m_cl hc, m_cl hd, e2, e4, if_pos e]
      · refine m_okM (z := 1) hI hc hk2 ?_ ?_
        · simp only [j_X0_take, h1, h2, m_jn, q_numC kn ch f hc, q_numC kn ch f hd, e1, e3, if_neg e, m_set kn ch f hc]
        · simp only [j_X2_take, n1, n2, m_00, m_r00, m_t00, if_true, m_cl hc, m_cl hd, e2, e4, if_neg e]
    · refine m_erM (E0 := "java/lang/IndexOutOfBoundsException") (z := 0) hI ?_ ?_
      · simp only [j_X0_take, h1, h2, m_jn, m_js]
      · simp only [j_X2_take, n1, n2, m_r1, m_t1, m_10, m_00, if_true, if_false, m_cdI]
  · refine m_erM (E0 := "java/lang/IndexOutOfBoundsException") (z := 0) hI ?_ ?_
    · simp only [j_X0_take, h1, m_js]
    · simp only [j_X2_take, n1, m_r1, m_t1, m_10, if_false, m_cdI]
