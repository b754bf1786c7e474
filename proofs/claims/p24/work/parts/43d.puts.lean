/-! the steps: put on, put back, walked -/
theorem m_xs (x y : Int64) (hy : 0 < y.toInt) : 0 ≤ (x ^^^ y) ↔ 0 ≤ x.toInt := by
  have e : (x ^^^ y).toBitVec.msb = (x.toBitVec.msb ^^ y.toBitVec.msb) := by rw [Int64.toBitVec_xor, BitVec.msb_xor]
  rw [BitVec.msb_eq_toInt, BitVec.msb_eq_toInt, BitVec.msb_eq_toInt] at e
  have ey : decide (y.toBitVec.toInt < 0) = false := decide_eq_false (by have : y.toBitVec.toInt = y.toInt := rfl; omega)
  rw [ey, Bool.xor_false] at e
  have h := decide_eq_decide.mp e
  have h0 : (0 : Int64).toInt = 0 := rfl
  have h1 : (x ^^^ y).toBitVec.toInt = (x ^^^ y).toInt := rfl
  have h2 : x.toBitVec.toInt = x.toInt := rfl
  rw [Int64.le_iff_toInt_le]
  omega
theorem m_tm (M : Int) (R : Nat) (hR : 0 < R) : -(R : Int) < M.tmod R ∧ M.tmod R < R ∧ (0 ≤ M → 0 ≤ M.tmod R) ∧ (M ≤ 0 → M.tmod R ≤ 0) := by
  have h1 := Int.natAbs_tmod M R
  have h2 := Nat.mod_lt M.natAbs (show (R : Int).natAbs > 0 by omega)
  refine ⟨by omega, by omega, fun h => Int.tmod_nonneg _ h, fun h => ?_⟩
  have h3 : (-M).tmod R = -(M.tmod R) := Int.neg_tmod M R
  have h4 := Int.tmod_nonneg (a := -M) (R : Int) (by omega)
  omega
theorem m_fm (m : Int64) {R : Nat} (h0 : 0 < R) (hR : R < 2 ^ 62) : (j_J9_floorMod_f86c9 m (lN R)).toInt = (if m.toInt.tmod R < 0 then m.toInt.tmod R + R else m.toInt.tmod R) := by
  have hl : (lN R).toInt = (R : Int) := pk_lT (by omega)
  have hr : (m - m / lN R * lN R).toInt = m.toInt.tmod R := by rw [lq_rem, hl]
  obtain ⟨b1, b2, b3, b4⟩ := m_tm m.toInt R h0
  have hx := m_xs m (lN R) (by rw [hl]; omega)
  unfold j_J9_floorMod_f86c9
  by_cases c : 0 ≤ (m ^^^ lN R)
  · rw [if_pos c, hr, if_neg (by have := b3 (hx.mp c); omega)]
  · rw [if_neg c]
    have hm : m.toInt ≤ 0 := by
      rcases Int.lt_or_le m.toInt 0 with q | q
      · omega
      · exact absurd (hx.mpr q) c
    have hn := b4 hm
    by_cases z : m - m / lN R * lN R = 0
    · rw [if_pos z, hr]
      have z2 : m.toInt.tmod R = 0 := by rw [← hr, z]; rfl
      rw [z2, if_neg (by decide)]
    · rw [if_neg z]
      have z2 : ¬ m.toInt.tmod R = 0 := fun q => z (by rw [← Int64.toInt_inj, hr, q]; rfl)
      rw [if_pos (by omega), Int64.toInt_add, hr, hl]
      exact Int.bmod_eq_of_le (by omega) (by omega)
theorem m_core {k : Nat} (hk : k < 86400000000000) {F G : Int64} {q P : Int} (p0 : 0 ≤ P) (p1 : P < 86400000000000) (q1 : q < 86400000000000) (q2 : -86400000000000 < q) (pq : P = q ∨ P = q + 86400000000000) (eF : F.toInt = P) (eG : G.toInt = q) : ∃ k', k' < 86400000000000 ∧ (lN k + F) - (lN k + F) / 86400000000000 * 86400000000000 = lN k' ∧ (if 0 ≤ lN k + G then (if lN k + G < 86400000000000 then lN k + G else lN k + G - 86400000000000) else lN k + G + 86400000000000) = lN k' := by
  have hD : (86400000000000 : Int64).toInt = 86400000000000 := rfl
  have h00 : (0 : Int64).toInt = 0 := rfl
  have hlk : (lN k).toInt = (k : Int) := pk_lT (by omega)
  have e3 : (lN k + F).toInt = (k : Int) + P := by
    rw [Int64.toInt_add, eF, hlk]
    exact Int.bmod_eq_of_le (by omega) (by omega)
  have e4 : (lN k + G).toInt = (k : Int) + q := by
    rw [Int64.toInt_add, eG, hlk]
    exact Int.bmod_eq_of_le (by omega) (by omega)
  have e5 : ((lN k + F) - (lN k + F) / 86400000000000 * 86400000000000).toInt = ((k : Int) + P) % 86400000000000 := by
    rw [lq_rem, e3, hD]
    exact Int.tmod_eq_emod_of_nonneg (by omega)
  clear eF eG hlk
  by_cases c : (k : Int) + P < 86400000000000
  · obtain ⟨z, hz⟩ : ∃ z : Nat, (z : Int) = (k : Int) + P := ⟨((k : Int) + P).toNat, Int.toNat_of_nonneg (by omega)⟩
    refine ⟨z, by omega, ?_, ?_⟩
    · rw [← Int64.toInt_inj, e5, pk_lT (by omega), Int.emod_eq_of_lt (by omega) c, hz]
    · rcases pq with rfl | rfl
      · rw [if_pos (by rw [Int64.le_iff_toInt_le, h00, e4]; omega), if_pos (by rw [Int64.lt_iff_toInt_lt, hD, e4]; exact c), ← Int64.toInt_inj, e4, pk_lT (by omega), hz]
      · rw [if_neg (by rw [Int64.le_iff_toInt_le, h00, e4]; omega), ← Int64.toInt_inj, Int64.toInt_add, e4, hD, pk_lT (by omega), Int.bmod_eq_of_le (by omega) (by omega), hz]
        omega
  · obtain ⟨z, hz⟩ : ∃ z : Nat, (z : Int) = (k : Int) + P - 86400000000000 := ⟨((k : Int) + P - 86400000000000).toNat, Int.toNat_of_nonneg (by omega)⟩
    have e6 : ((k : Int) + P) % 86400000000000 = z := by
      rw [show (k : Int) + P = z + 86400000000000 from by omega, Int.add_emod_right, Int.emod_eq_of_lt (by omega) (by omega)]
    refine ⟨z, by omega, ?_, ?_⟩
    · rw [← Int64.toInt_inj, e5, pk_lT (by omega), e6]
    · rcases pq with rfl | rfl
      · rw [if_pos (by rw [Int64.le_iff_toInt_le, h00, e4]; omega), if_neg (by rw [Int64.lt_iff_toInt_lt, hD, e4]; omega), ← Int64.toInt_inj, Int64.toInt_sub, e4, hD, pk_lT (by omega), Int.bmod_eq_of_le (by omega) (by omega), hz]
      · rw [if_pos (by rw [Int64.le_iff_toInt_le, h00, e4]; omega), if_pos (by rw [Int64.lt_iff_toInt_lt, hD, e4]; omega), ← Int64.toInt_inj, e4, pk_lT (by omega), hz]
        omega
theorem m_put {k sz R : Nat} (hk : k < 86400000000000) (h0 : 0 < sz) (h1 : 0 < R) (hp : R * sz = 86400000000000) (m : Int64) : ∃ k', k' < 86400000000000 ∧
    (lN k + j_J9_floorMod_f86c9 m (lN R) * lN sz) - (lN k + j_J9_floorMod_f86c9 m (lN R) * lN sz) / 86400000000000 * 86400000000000 = lN k' ∧
    (if 0 ≤ lN k + (m - m / lN R * lN R) * lN sz then (if lN k + (m - m / lN R * lN R) * lN sz < 86400000000000 then lN k + (m - m / lN R * lN R) * lN sz else lN k + (m - m / lN R * lN R) * lN sz - 86400000000000) else lN k + (m - m / lN R * lN R) * lN sz + 86400000000000) = lN k' := by
  have hR : R ≤ 86400000000000 := by rw [← hp]; exact Nat.le_mul_of_pos_right R h0
  have hs : sz ≤ 86400000000000 := by rw [← hp]; exact Nat.le_mul_of_pos_left sz h1
  obtain ⟨b1, b2, b3, b4⟩ := m_tm m.toInt R h1
  have hps : (R : Int) * sz = 86400000000000 := by rw [← Int.natCast_mul, hp]; rfl
  have hz : (0 : Int) < sz := by omega
  have hls : (lN sz).toInt = (sz : Int) := pk_lT (by omega)
  have hr : (m - m / lN R * lN R).toInt = m.toInt.tmod R := by rw [lq_rem, pk_lT (by omega)]
  have hf := m_fm m h1 (show R < 2 ^ 62 by omega)
  have q1 : m.toInt.tmod R * sz < 86400000000000 := by rw [← hps]; exact Int.mul_lt_mul_of_pos_right b2 hz
  have q2 : -86400000000000 < m.toInt.tmod R * sz := by
    have := Int.mul_lt_mul_of_pos_right b1 hz
    rw [Int.neg_mul, hps] at this
    exact this
  have q3 : ¬ m.toInt.tmod R < 0 → 0 ≤ m.toInt.tmod R * sz := fun h => Int.mul_nonneg (by omega) (by omega)
  have q4 : m.toInt.tmod R < 0 → m.toInt.tmod R * sz < 0 := fun h => Int.mul_neg_of_neg_of_pos h hz
  have hG : ((m - m / lN R * lN R) * lN sz).toInt = m.toInt.tmod R * sz := by
    rw [Int64.toInt_mul, hr, hls]
    exact Int.bmod_eq_of_le (by omega) (by omega)
  by_cases h : m.toInt.tmod R < 0
  · have h4 := q4 h
    rw [if_pos h] at hf
    have hg : (m.toInt.tmod R + (R : Int)) * sz = m.toInt.tmod R * sz + 86400000000000 := by rw [Int.add_mul, hps]
    have hF : (j_J9_floorMod_f86c9 m (lN R) * lN sz).toInt = m.toInt.tmod R * sz + 86400000000000 := by
      rw [Int64.toInt_mul, hf, hls, hg]
      exact Int.bmod_eq_of_le (by omega) (by omega)
    exact m_core hk (by omega) (by omega) q1 q2 (Or.inr rfl) hF hG
  · have h3 := q3 h
    rw [if_neg h] at hf
    have hF : (j_J9_floorMod_f86c9 m (lN R) * lN sz).toInt = m.toInt.tmod R * sz := by
      rw [Int64.toInt_mul, hf, hls]
      exact Int.bmod_eq_of_le (by omega) (by omega)
    exact m_core hk h3 q1 q1 q2 (Or.inl rfl) hF hG
theorem m_sz {u : Nat} (h : m_isU u) : ∃ sz R : Nat, 0 < sz ∧ 0 < R ∧ R * sz = 86400000000000 ∧ j_X0_unitNanos (nI u) = lN sz ∧ j_X2_size (nI u) = lN sz ∧ (86400000000000 : Int64) / lN sz = lN R := by
  rcases h with rfl | rfl | rfl | rfl
  · exact ⟨1, 86400000000000, by decide, by decide, by decide, by decide +kernel, by decide +kernel, by decide +kernel⟩
  · exact ⟨1000000000, 86400, by decide, by decide, by decide, by decide +kernel, by decide +kernel, by decide +kernel⟩
  · exact ⟨60000000000, 1440, by decide, by decide, by decide, by decide +kernel, by decide +kernel, by decide +kernel⟩
  · exact ⟨3600000000000, 24, by decide, by decide, by decide, by decide +kernel, by decide +kernel, by decide +kernel⟩
/-- put on as the class does it and as the reference does it -/
theorem m_on {k u : Nat} (hk : k < 86400000000000) (hu : m_isU u) (m : Int64) : ∃ k', k' < 86400000000000 ∧ j_X0_putOn (lN k) (nI u) m = lN k' ∧ j_X2_on (lN k) (nI u) m = lN k' := by
  obtain ⟨sz, R, h0, h1, hp, e1, e2, e3⟩ := m_sz hu
  have hR : R ≤ 86400000000000 := by rw [← hp]; exact Nat.le_mul_of_pos_right R h0
  have hs : sz ≤ 86400000000000 := by rw [← hp]; exact Nat.le_mul_of_pos_left sz h1
  obtain ⟨k', hk', p1, p2⟩ := m_put hk h0 h1 hp m
  refine ⟨k', hk', ?_, ?_⟩
  · unfold j_X0_putOn
    rw [e1, e3, if_pos (show (0 : Int64) < lN sz from (pk_lLT (a := 0) (by decide) (by omega)).mpr h0), if_pos (show (0 : Int64) < lN R from (pk_lLT (a := 0) (by decide) (by omega)).mpr h1), p1]
  · unfold j_X2_on
    rw [e2, e3, p2]
theorem m_Ton {u : Nat} (hu : m_isU u) (v m : Int64) : T_X2_on v (nI u) m := by
  obtain ⟨sz, R, h0, h1, hp, e1, e2, e3⟩ := m_sz hu
  have hR : R ≤ 86400000000000 := by rw [← hp]; exact Nat.le_mul_of_pos_right R h0
  have hs : sz ≤ 86400000000000 := by rw [← hp]; exact Nat.le_mul_of_pos_left sz h1
  have hu8 : u < 8 := by rcases hu with rfl | rfl | rfl | rfl <;> decide
  have n1 : ¬ lN sz = 0 := fun h => absurd ((pk_lEQ (b := 0) (by omega) (by decide)).mp h) (by omega)
  have n2 : ¬ lN R = 0 := fun h => absurd ((pk_lEQ (b := 0) (by omega) (by decide)).mp h) (by omega)
  unfold T_X2_on
  refine ⟨tk_size hu8, by rw [e2]; exact n1, by rw [e2, e3]; exact n2, tk_size hu8, fun _ => ⟨fun _ => trivial, fun _ => trivial⟩, fun _ => trivial⟩
theorem st_plus {kn ch kn2 td : Int32} {f g : Nat → Int64} (hI : kInv kn ch f kn2 td g) (th : Int32) (a1 a2 a3 a4 : Int32) : m_St (j_X0_plus kn ch f a1 a2 a3 a4) (j_X2_plus th g kn2 td a1 a2 a3 a4) k_cd kn ch f := by
  rcases m_clk a1 with ⟨c, hc, rfl, h1, n1⟩ | ⟨h1, n1⟩
  · rcases m_step a2 with ⟨u, hu, rfl, h2, n2⟩ | ⟨h2, n2⟩
    · obtain ⟨k, hk, e1, e2⟩ := m_eq hI hc
      obtain ⟨k', hk', p1, p2⟩ := m_on hk hu (a3.toInt64 * a4.toInt64)
      refine m_okM (z := j_X2_secondOf (lN k')) hI hc hk' ?_ ?_
      · simp only [j_X0_plus, h1, h2, m_jn, q_numC kn ch f hc, e1, p1, m_set kn ch f hc]
      · simp only [j_X2_plus, n1, n2, m_00, m_r00, m_t00, if_true, m_cl hc, e2, p2]
    · refine m_erM (E0 := "java/lang/IllegalArgumentException") (z := 0) hI ?_ ?_
      · simp only [j_X0_plus, h1, h2, m_jn, m_js]
      · simp only [j_X2_plus, n1, n2, m_10, m_r01, m_t01, if_false, m_cdA]
  · refine m_erM (E0 := "java/lang/IndexOutOfBoundsException") (z := 0) hI ?_ ?_
    · simp only [j_X0_plus, h1, m_js]
    · simp only [j_X2_plus, n1, m_r1, m_t1, m_10, if_false, m_cdI]
theorem st_minus {kn ch kn2 td : Int32} {f g : Nat → Int64} (hI : kInv kn ch f kn2 td g) (th : Int32) (a1 a2 a3 a4 : Int32) : m_St (j_X0_minus kn ch f a1 a2 a3 a4) (j_X2_minus th g kn2 td a1 a2 a3 a4) k_cd kn ch f := by
  rcases m_clk a1 with ⟨c, hc, rfl, h1, n1⟩ | ⟨h1, n1⟩
  · rcases m_step a2 with ⟨u, hu, rfl, h2, n2⟩ | ⟨h2, n2⟩
    · obtain ⟨k, hk, e1, e2⟩ := m_eq hI hc
      obtain ⟨k', hk', p1, p2⟩ := m_on hk hu (-(a3.toInt64 * a4.toInt64))
      refine m_okM (z := j_X2_secondOf (lN k')) hI hc hk' ?_ ?_
      · simp only [j_X0_minus, h1, h2, m_jn, q_numC kn ch f hc, e1, p1, m_set kn ch f hc]
      · simp only [j_X2_minus, n1, n2, m_00, m_r00, m_t00, if_true, m_cl hc, e2, p2]
    · refine m_erM (E0 := "java/lang/IllegalArgumentException") (z := 0) hI ?_ ?_
      · simp only [j_X0_minus, h1, h2, m_jn, m_js]
      · simp only [j_X2_minus, n1, n2, m_10, m_r01, m_t01, if_false, m_cdA]
  · refine m_erM (E0 := "java/lang/IndexOutOfBoundsException") (z := 0) hI ?_ ?_
    · simp only [j_X0_minus, h1, m_js]
    · simp only [j_X2_minus, n1, m_r1, m_t1, m_10, if_false, m_cdI]
/-- both walks, side by side -/
theorem m_walkL {kn ch kn2 td th : Int32} {f g : Nat → Int64} {a1 a3 a4 : Int32} {u b : Nat} (hu : m_isU u) (hb : b ≤ 40) (e4 : a4 = nI b) (k9 : Int64 → Int32 → Int32 → Except String (Int32 × Int32 × Int32 × (Nat → Int64))) (l9 : Int32 → Int64 → Int32 → Int32 × Int32 × (Nat → Int64) × Int32 × Int32)
    (P : Except String (Int32 × Int32 × Int32 × (Nat → Int64)) → Int32 × Int32 × (Nat → Int64) × Int32 × Int32 → Prop) (hP : ∀ (k : Nat) (w i : Int32), k < 86400000000000 → P (k9 (lN k) w i) (l9 w (lN k) i)) :
    ∀ (n j k : Nat) (w i : Int32), i = nI j → j ≤ b → b < n + j → k < 86400000000000 → P (jl_X0_walk_43 kn ch f a1 (nI u) a3 a4 k9 n (lN k) w i) (jl_X2_walk_50 th g kn2 td a1 (nI u) a3 a4 l9 n w (lN k) i) := by
  subst e4
  intro n
  induction n with
  | zero => intro j k w i _ h1 h2; exact absurd h2 (by omega)
  | succ n ih =>
    intro j k w i e h1 h2 hk
    subst e
    rw [jl_X0_walk_43, jl_X2_walk_50]
    by_cases c : nI b ≤ nI j
    · rw [if_pos c, if_pos c]; exact hP k w _ hk
    · rw [if_neg c, if_neg c]
      have hj : j < b := Nat.lt_of_not_le (fun q => c (nI_le q (by omega)))
      obtain ⟨k', hk', p1, p2⟩ := m_on hk hu a3.toInt64
      rw [p1, p2, nI_1]
      by_cases d : lN k ≤ lN k'
      · rw [if_pos d, if_pos d, Int32.add_zero]
        exact ih (j + 1) k' w _ rfl (by omega) (by omega) hk'
      · rw [if_neg d, if_neg d]
        exact ih (j + 1) k' (w + 1) _ rfl (by omega) (by omega) hk'
theorem m_40 (v : Int32) : (∃ n, n ≤ 40 ∧ v = nI n ∧ ¬ v < 0 ∧ v ≤ 40 ∧ j_X2_isIn v 0 40 = 1) ∨ ((v < 0 ∨ (¬ v < 0 ∧ ¬ v ≤ 40)) ∧ j_X2_isIn v 0 40 = 0) := by
  rcases m_in v 40 (by decide) with ⟨n, hn, e, h1, h2, h3⟩ | ⟨h1, h2⟩
  · exact Or.inl ⟨n, hn, e, h2, h3, h1⟩
  · refine Or.inr ⟨?_, h1⟩
    by_cases h0 : v < 0
    · exact Or.inl h0
    · exact Or.inr ⟨h0, h2.resolve_left h0⟩
theorem st_walk {kn ch kn2 td : Int32} {f g : Nat → Int64} (hI : kInv kn ch f kn2 td g) (th : Int32) (a1 a2 a3 a4 : Int32) : m_St (j_X0_walk kn ch f a1 a2 a3 a4) (j_X2_walk th g kn2 td a1 a2 a3 a4) k_cd kn ch f := by
  rcases m_clk a1 with ⟨c, hc, rfl, h1, n1⟩ | ⟨h1, n1⟩
  · rcases m_step a2 with ⟨u, hu, rfl, h2, n2⟩ | ⟨h2, n2⟩
    · rcases m_40 a4 with ⟨b, hb, e4, h3, h4, n3⟩ | ⟨h3, n3⟩
      · obtain ⟨k, hk, e1, e2⟩ := m_eq hI hc
        simp only [j_X0_walk, j_X2_walk, h1, h2, m_jn, if_neg h3, if_pos h4, n1, n2, n3, m_10, m_00, m_r00, m_t00, if_true, if_false, q_numC kn ch f hc, e1, m_cl hc, e2]
        refine m_walkL (P := fun J R => m_St J R k_cd kn ch f) hu hb e4 _ _ (fun k w i hk => ?_) 100 0 k 0 _ nI_0.symm (by omega) (by omega) hk
        refine m_okM (z := w) hI hc hk ?_ rfl
        simp only [m_set kn ch f hc]
      · refine m_erM (E0 := "java/lang/IllegalArgumentException") (z := 0) hI ?_ ?_
        · simp only [j_X0_walk, h1, h2, m_jn]
          rcases h3 with h3 | ⟨h3, h4⟩
          · rw [if_pos h3]
          · rw [if_neg h3, if_neg h4]
        · simp only [j_X2_walk, n1, n2, n3, m_10, m_00, m_r01, m_t01, if_true, if_false, m_cdA]
    · refine m_erM (E0 := "java/lang/IllegalArgumentException") (z := 0) hI ?_ ?_
      · simp only [j_X0_walk, h1, h2, m_jn, m_js]
      · simp only [j_X2_walk, n1, n2, m_10, m_r01, m_t01, if_false, m_cdA]
  · refine m_erM (E0 := "java/lang/IndexOutOfBoundsException") (z := 0) hI ?_ ?_
    · simp only [j_X0_walk, h1, m_js]
    · simp only [j_X2_walk, n1, m_r1, m_t1, m_10, if_false, ite_self, m_cdI]
