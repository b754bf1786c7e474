/-! the steps: what is asked, laid beside, the whole -/
theorem m_of (v : Int32) : (¬ v < 0 ∧ v ≤ 4 ∧ j_X2_isIn v 0 4 = 1) ∨ ((v < 0 ∨ (¬ v < 0 ∧ ¬ v ≤ 4)) ∧ j_X2_isIn v 0 4 = 0) := by
  rcases m_in v 4 (by decide) with ⟨n, hn, e, h1, h2, h3⟩ | ⟨h1, h2⟩
  · exact Or.inl ⟨h2, h3, h1⟩
  · refine Or.inr ⟨?_, h1⟩
    by_cases h0 : v < 0
    · exact Or.inl h0
    · exact Or.inr ⟨h0, h2.resolve_left h0⟩
theorem st_of {kn ch kn2 td : Int32} {f g : Nat → Int64} (hI : kInv kn ch f kn2 td g) (th : Int32) (a1 a2 : Int32) : m_St (j_X0_of kn ch f a1 a2) (j_X2_of th g kn2 td a1 a2) k_cd kn ch f := by
  rcases m_clk a1 with ⟨c, hc, rfl, h1, n1⟩ | ⟨h1, n1⟩
  · rcases m_of a2 with ⟨h2, h3, n2⟩ | ⟨h2, n2⟩
    · obtain ⟨k, hk, e1, e2⟩ := m_eq hI hc
      refine m_okR (z := nI (q_pt k a2)) hI ?_ ?_
      · simp only [j_X0_of, h1, m_jn, if_neg h2, if_pos h3, q_numC kn ch f hc, e1, q_partX hk]
      · simp only [j_X2_of, n1, n2, m_10, m_r00, m_t00, if_true, if_false, m_cl hc, e2, q_partM hk]
    · refine m_erM (E0 := "java/lang/IllegalArgumentException") (z := 0) hI ?_ ?_
      · simp only [j_X0_of, h1, m_jn]
        rcases h2 with h2 | ⟨h2, h3⟩
        · rw [if_pos h2]
        · rw [if_neg h2, if_neg h3]
      · simp only [j_X2_of, n1, n2, m_10, m_00, m_r01, m_t01, if_true, if_false, m_cdA]
  · refine m_erM (E0 := "java/lang/IndexOutOfBoundsException") (z := 0) hI ?_ ?_
    · simp only [j_X0_of, h1, m_js]
    · simp only [j_X2_of, n1, m_r1, m_t1, m_10, if_false, ite_self, m_cdI]
/-- two clocks -/
theorem m_two {J : Except String (Int32 × Int32 × Int32 × (Nat → Int64))} {R : Int32 × Int32 × (Nat → Int64) × Int32 × Int32} {kn ch kn2 td : Int32} {f g : Nat → Int64} (hI : kInv kn ch f kn2 td g) (a1 a2 : Int32)
    (h11 : ∀ c d, c < 8 → d < 8 → a1 = nI c → a2 = nI d → j_X0_needClock a1 = none → j_X2_isNone a1 = 0 → j_X0_needClock a2 = none → j_X2_isNone a2 = 0 → m_St J R k_cd kn ch f)
    (h10 : j_X0_needClock a1 = none → j_X2_isNone a1 = 0 → j_X0_needClock a2 = some "java/lang/IndexOutOfBoundsException" → j_X2_isNone a2 = 1 → m_St J R k_cd kn ch f)
    (h0 : j_X0_needClock a1 = some "java/lang/IndexOutOfBoundsException" → j_X2_isNone a1 = 1 → m_St J R k_cd kn ch f) : m_St J R k_cd kn ch f := by
  rcases m_clk a1 with ⟨c, hc, e1, h1, n1⟩ | ⟨h1, n1⟩
  · rcases m_clk a2 with ⟨d, hd, e2, h2, n2⟩ | ⟨h2, n2⟩
    · exact h11 c d hc hd e1 e2 h1 n1 h2 n2
    · exact h10 h1 n1 h2 n2
  · exact h0 h1 n1
theorem st_compare {kn ch kn2 td : Int32} {f g : Nat → Int64} (hI : kInv kn ch f kn2 td g) (th : Int32) (a1 a2 : Int32) : m_St (j_X0_compare kn ch f a1 a2) (j_X2_compare th g kn2 td a1 a2) k_cd kn ch f := by
  refine m_two hI a1 a2 (fun c d hc hd e1 e2 h1 n1 h2 n2 => ?_) (fun h1 n1 h2 n2 => ?_) (fun h1 n1 => ?_)
  · subst e1 e2
    obtain ⟨k1, hk1, f1, g1⟩ := m_eq hI hc
    obtain ⟨k2, hk2, f2, g2⟩ := m_eq hI hd
    refine m_okR (z := j_X2_order (lN k1) (lN k2)) hI ?_ ?_
    · simp only [j_X0_compare, h1, h2, m_jn, q_numC kn ch f hc, q_numC kn ch f hd, f1, f2, j_X0_sideOf, j_X2_order]
    · simp only [j_X2_compare, n1, n2, m_00, m_r00, m_t00, if_true, m_cl hc, m_cl hd, g1, g2]
  · refine m_erM (E0 := "java/lang/IndexOutOfBoundsException") (z := 0) hI ?_ ?_
    · simp only [j_X0_compare, h1, h2, m_jn, m_js]
    · simp only [j_X2_compare, n1, n2, m_00, m_10, m_r1, m_t1, if_true, if_false, m_cdI]
  · refine m_erM (E0 := "java/lang/IndexOutOfBoundsException") (z := 0) hI ?_ ?_
    · simp only [j_X0_compare, h1, m_js]
    · simp only [j_X2_compare, n1, m_10, m_r1, m_t1, if_false, m_cdI]
theorem st_isAhead {kn ch kn2 td : Int32} {f g : Nat → Int64} (hI : kInv kn ch f kn2 td g) (th : Int32) (a1 a2 : Int32) : m_St (j_X0_isAhead kn ch f a1 a2) (j_X2_isAhead th g kn2 td a1 a2) k_cd kn ch f := by
  refine m_two hI a1 a2 (fun c d hc hd e1 e2 h1 n1 h2 n2 => ?_) (fun h1 n1 h2 n2 => ?_) (fun h1 n1 => ?_)
  · subst e1 e2
    obtain ⟨k1, hk1, f1, g1⟩ := m_eq hI hc
    obtain ⟨k2, hk2, f2, g2⟩ := m_eq hI hd
    by_cases e : lN k2 ≤ lN k1
    · refine m_okR (z := 0) hI ?_ ?_
      · simp only [j_X0_isAhead, h1, h2, m_jn, q_numC kn ch f hc, q_numC kn ch f hd, f1, f2, if_pos e]
      · simp only [j_X2_isAhead, n1, n2, m_00, m_r00, m_t00, if_true, m_cl hc, m_cl hd, g1, g2, if_pos e]
    · refine m_okR (z := 1) hI ?_ ?_
      · simp only [j_X0_isAhead, h1, h2, m_jn, q_numC kn ch f hc, q_numC kn ch f hd, f1, f2, if_neg e]
      · simp only [j_X2_isAhead, n1, n2, m_00, m_r00, m_t00, if_true, m_cl hc, m_cl hd, g1, g2, if_neg e]
  · refine m_erM (E0 := "java/lang/IndexOutOfBoundsException") (z := 0) hI ?_ ?_
    · simp only [j_X0_isAhead, h1, h2, m_jn, m_js]
    · simp only [j_X2_isAhead, n1, n2, m_00, m_10, m_r1, m_t1, if_true, if_false, m_cdI]
  · refine m_erM (E0 := "java/lang/IndexOutOfBoundsException") (z := 0) hI ?_ ?_
    · simp only [j_X0_isAhead, h1, m_js]
    · simp only [j_X2_isAhead, n1, m_10, m_r1, m_t1, if_false, m_cdI]
theorem st_isBehind {kn ch kn2 td : Int32} {f g : Nat → Int64} (hI : kInv kn ch f kn2 td g) (th : Int32) (a1 a2 : Int32) : m_St (j_X0_isBehind kn ch f a1 a2) (j_X2_isBehind th g kn2 td a1 a2) k_cd kn ch f := by
  refine m_two hI a1 a2 (fun c d hc hd e1 e2 h1 n1 h2 n2 => ?_) (fun h1 n1 h2 n2 => ?_) (fun h1 n1 => ?_)
  · subst e1 e2
    obtain ⟨k1, hk1, f1, g1⟩ := m_eq hI hc
    obtain ⟨k2, hk2, f2, g2⟩ := m_eq hI hd
    by_cases e : lN k1 ≤ lN k2
    · refine m_okR (z := 0) hI ?_ ?_
      · simp only [j_X0_isBehind, h1, h2, m_jn, q_numC kn ch f hc, q_numC kn ch f hd, f1, f2, if_pos e]
      · simp only [j_X2_isBehind, n1, n2, m_00, m_r00, m_t00, if_true, m_cl hc, m_cl hd, g1, g2, if_pos e]
    · refine m_okR (z := 1) hI ?_ ?_
      · simp only [j_X0_isBehind, h1, h2, m_jn, q_numC kn ch f hc, q_numC kn ch f hd, f1, f2, if_neg e]
      · simp only [j_X2_isBehind, n1, n2, m_00, m_r00, m_t00, if_true, m_cl hc, m_cl hd, g1, g2, if_neg e]
  · refine m_erM (E0 := "java/lang/IndexOutOfBoundsException") (z := 0) hI ?_ ?_
    · simp only [j_X0_isBehind, h1, h2, m_jn, m_js]
    · simp only [j_X2_isBehind, n1, n2, m_00, m_10, m_r1, m_t1, if_true, if_false, m_cdI]
  · refine m_erM (E0 := "java/lang/IndexOutOfBoundsException") (z := 0) hI ?_ ?_
    · simp only [j_X0_isBehind, h1, m_js]
    · simp only [j_X2_isBehind, n1, m_10, m_r1, m_t1, if_false, m_cdI]
theorem st_areAlike {kn ch kn2 td : Int32} {f g : Nat → Int64} (hI : kInv kn ch f kn2 td g) (th : Int32) (a1 a2 : Int32) : m_St (j_X0_areAlike kn ch f a1 a2) (j_X2_areAlike th g kn2 td a1 a2) k_cd kn ch f := by
  refine m_two hI a1 a2 (fun c d hc hd e1 e2 h1 n1 h2 n2 => ?_) (fun h1 n1 h2 n2 => ?_) (fun h1 n1 => ?_)
  · subst e1 e2
    obtain ⟨k1, hk1, f1, g1⟩ := m_eq hI hc
    obtain ⟨k2, hk2, f2, g2⟩ := m_eq hI hd
    by_cases e : lN k1 = lN k2
    · refine m_okR (z := 1) hI ?_ ?_
      · simp only [j_X0_areAlike, h1, h2, m_jn, q_numC kn ch f hc, q_numC kn ch f hd, f1, f2, if_pos e]
      · simp only [j_X2_areAlike, n1, n2, m_00, m_r00, m_t00, if_true, m_cl hc, m_cl hd, g1, g2, if_pos e]
    · refine m_okR (z := 0) hI ?_ ?_
      · simp only [j_X0_areAlike, h1, h2, m_jn, q_numC kn ch f hc, q_numC kn ch f hd, f1, f2, if_neg e]
      · simp only [j_X2_areAlike, n1, n2, m_00, m_r00, m_t00, if_true, m_cl hc, m_cl hd, g1, g2, if_neg e]
  · refine m_erM (E0 := "java/lang/IndexOutOfBoundsException") (z := 0) hI ?_ ?_
    · simp only [j_X0_areAlike, h1, h2, m_jn, m_js]
    · simp only [j_X2_areAlike, n1, n2, m_00, m_10, m_r1, m_t1, if_true, if_false, m_cdI]
  · refine m_erM (E0 := "java/lang/IndexOutOfBoundsException") (z := 0) hI ?_ ?_
    · simp only [j_X0_areAlike, h1, m_js]
    · simp only [j_X2_areAlike, n1, m_10, m_r1, m_t1, if_false, m_cdI]
theorem st_house {kn ch kn2 td : Int32} {f g : Nat → Int64} (hI : kInv kn ch f kn2 td g) (th : Int32) (a1 : Int32) : m_St (j_X0_house kn ch f a1) (j_X2_house th g kn2 td a1) k_c1 kn ch f := by
  have e10 : ¬ (1 : Int32) = 0 := by decide
  by_cases h0 : a1 = 0
  · subst h0
    refine m_okR (z := kn) hI rfl ?_
    have : j_X2_isIn 0 0 1 = 1 := by decide
    simp only [j_X2_house, m_00, m_10, m_r00, m_t00, if_true, if_false, this, hI.1]
  by_cases h1 : a1 = 1
  · subst h1
    refine m_okR (z := ch) hI rfl ?_
    have : j_X2_isIn 1 0 1 = 1 := by decide
    simp only [j_X2_house, m_00, m_10, m_r00, m_t00, if_true, if_false, this, hI.2.1]
  · refine m_erM (E0 := "java/lang/IllegalArgumentException") (z := 0) hI ?_ ?_
    · simp only [j_X0_house, if_neg h0, if_neg h1]
    · have : j_X2_isIn a1 0 1 = 0 := by
        rcases m_in a1 1 (by decide) with ⟨n, hn, e, -⟩ | ⟨h, -⟩
        · rcases (show n = 0 ∨ n = 1 by omega) with rfl | rfl
          · exact absurd e h0
          · exact absurd e h1
        · exact h
      simp only [j_X2_house, m_00, m_r00, if_true, this, k_c1]
theorem st_knock {kn ch kn2 td : Int32} {f g : Nat → Int64} (hI : kInv kn ch f kn2 td g) (th : Int32) : (j_X2_knock th g kn2 td).1 = kn + 1 ∧ kInv (kn + 1) ch f (j_X2_knock th g kn2 td).2.2.2.1 (j_X2_knock th g kn2 td).2.2.2.2 (j_X2_knock th g kn2 td).2.2.1 := by
  obtain ⟨rfl, h⟩ := hI
  exact ⟨rfl, rfl, h⟩
theorem st_isSound {kn ch kn2 td : Int32} {f g : Nat → Int64} (hI : kInv kn ch f kn2 td g) (th : Int32) : (j_X2_isSound th g kn2 td).1 = 1 ∧ kInv kn ch f (j_X2_isSound th g kn2 td).2.2.2.1 (j_X2_isSound th g kn2 td).2.2.2.2 (j_X2_isSound th g kn2 td).2.2.1 := ⟨rfl, hI⟩
/-! the texts: whether they are refused -/
theorem st_number {kn ch kn2 td : Int32} {f g : Nat → Int64} (hI : kInv kn ch f kn2 td g) (th : Int32) (a1 : Int32) : (j_X0_number a1 = .ok () → j_X2_number th g kn2 td a1 = 0) ∧ (∀ E, j_X0_number a1 = .error E → j_X2_number th g kn2 td a1 = k_cd E) := by
  rcases m_clk a1 with ⟨c, hc, rfl, h1, n1⟩ | ⟨h1, n1⟩
  · refine ⟨fun _ => ?_, fun E h => ?_⟩
    · simp only [j_X2_number, n1, m_00, m_r00, m_t00, if_true]
    · simp only [j_X0_number, h1, m_jn] at h; cases h
  · refine ⟨fun h => ?_, fun E h => ?_⟩
    · simp only [j_X0_number, h1, m_js] at h; cases h
    · simp only [j_X0_number, h1, m_js] at h; cases h
      simp only [j_X2_number, n1, m_10, m_r1, m_t1, if_false, m_cdI]
theorem st_text {kn ch kn2 td : Int32} {f g : Nat → Int64} (hI : kInv kn ch f kn2 td g) (th : Int32) (a1 : Int32) : (j_X0_text a1 = .ok () → j_X2_text th g kn2 td a1 = 0) ∧ (∀ E, j_X0_text a1 = .error E → j_X2_text th g kn2 td a1 = k_cd E) := st_number hI th a1
theorem st_beyond {kn ch kn2 td : Int32} {f g : Nat → Int64} (hI : kInv kn ch f kn2 td g) (th : Int32) (a1 a2 : Int32) : (j_X0_beyond a1 a2 = .ok () → j_X2_beyond th g kn2 td a1 a2 = 0) ∧ (∀ E, j_X0_beyond a1 a2 = .error E → j_X2_beyond th g kn2 td a1 a2 = k_cd E) := by
  rcases m_clk a1 with ⟨c, hc, rfl, h1, n1⟩ | ⟨h1, n1⟩
  · rcases m_u7 a2 with ⟨u, hu, rfl, h2, n2⟩ | ⟨h2, n2⟩
    · refine ⟨fun _ => ?_, fun E h => ?_⟩
      · simp only [j_X2_beyond, n1, n2, m_00, m_10, m_r00, m_t00, if_true, if_false]
      · simp only [j_X0_beyond, h1, h2, m_jn] at h; cases h
    · refine ⟨fun h => ?_, fun E h => ?_⟩
      · simp only [j_X0_beyond, h1, h2, m_jn, m_js] at h; cases h
      · simp only [j_X0_beyond, h1, h2, m_jn, m_js] at h; cases h
        simp only [j_X2_beyond, n1, n2, m_00, m_10, m_r01, m_t01, if_true, if_false, m_cdA]
  · refine ⟨fun h => ?_, fun E h => ?_⟩
    · simp only [j_X0_beyond, h1, m_js] at h; cases h
    · simp only [j_X0_beyond, h1, m_js] at h; cases h
      simp only [j_X2_beyond, n1, m_10, m_r1, m_t1, if_false, ite_self, m_cdI]
theorem st_between {kn ch kn2 td : Int32} {f g : Nat → Int64} (hI : kInv kn ch f kn2 td g) (th : Int32) (a1 a2 a3 : Int32) : (j_X0_between a1 a2 a3 = .ok () → j_X2_between th g kn2 td a1 a2 a3 = 0) ∧ (∀ E, j_X0_between a1 a2 a3 = .error E → j_X2_between th g kn2 td a1 a2 a3 = k_cd E) := by
  rcases m_clk a1 with ⟨c, hc, rfl, h1, n1⟩ | ⟨h1, n1⟩
  · rcases m_clk a2 with ⟨d, hd, rfl, h2, n2⟩ | ⟨h2, n2⟩
    · rcases m_u6 a3 with ⟨u, hu, rfl, h3, n3⟩ | ⟨h3, n3⟩
      · refine ⟨fun _ => ?_, fun E h => ?_⟩
        · simp only [j_X2_between, n1, n2, n3, m_00, m_10, m_r00, m_t00, if_true, if_false]
        · simp only [j_X0_between, h1, h2, h3, m_jn] at h; cases h
      · refine ⟨fun h => ?_, fun E h => ?_⟩
        · simp only [j_X0_between, h1, h2, h3, m_jn, m_js] at h; cases h
        · simp only [j_X0_between, h1, h2, h3, m_jn, m_js] at h; cases h
          simp only [j_X2_between, n1, n2, n3, m_00, m_10, m_r01, m_t01, if_true, if_false, m_cdA]
    · refine ⟨fun h => ?_, fun E h => ?_⟩
      · simp only [j_X0_between, h1, h2, m_jn, m_js] at h; cases h
      · simp only [j_X0_between, h1, h2, m_jn, m_js] at h; cases h
        simp only [j_X2_between, n1, n2, m_00, m_10, m_r1, m_t1, if_true, if_false, ite_self, m_cdI]
  · refine ⟨fun h => ?_, fun E h => ?_⟩
    · simp only [j_X0_between, h1, m_js] at h; cases h
    · simp only [j_X0_between, h1, m_js] at h; cases h
      simp only [j_X2_between, n1, m_10, m_r1, m_t1, if_false, ite_self, m_cdI]
