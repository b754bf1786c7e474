/-! how many places a number wants, and that its digits find them -/
theorem q_p10 (k : Nat) (hk : k ≤ 9) : 10 ^ k < 2 ^ 31 := Nat.lt_of_le_of_lt (Nat.pow_le_pow_right (by omega) hk) (by decide)
theorem q_p10L (k : Nat) (hk : k ≤ 18) : 10 ^ k < 2 ^ 62 := Nat.lt_of_le_of_lt (Nat.pow_le_pow_right (by omega) hk) (by decide)
theorem q_ssI (a0 : Int32) (w d : Nat) (hw : w < 2 ^ 31) : ∀ (u k : Nat), 1 ≤ k → k ≤ 10 → 10 < u + k → ∀ v2 : Int32, (k ≤ 9 → v2 = -nI (10 ^ k)) →
    jt_J6_stringSize_0f7a4_16 a0 (-nI w) (nI d) (fun _ _ => True) u v2 (nI k) ∧ ∃ z, 1 ≤ z ∧ z ≤ 10 ∧ w < 10 ^ z ∧ jl_J6_stringSize_0f7a4_16 a0 (-nI w) (nI d) (fun _ _ => 10 + nI d) u v2 (nI k) = nI (z + d) := by
  intro u
  induction u with
  | zero => intro k h1 h2 h3; exact absurd h3 (by omega)
  | succ u ih =>
    intro k h1 h2 h3 v2 e
    rw [jt_J6_stringSize_0f7a4_16, jl_J6_stringSize_0f7a4_16]
    rcases Nat.lt_or_ge k 10 with hk | hk
    · have c1 : ¬ (10 : Int32) ≤ nI k := show ¬ nI 10 ≤ nI k from nI_ge hk (by decide)
      have e := e (by omega)
      subst e
      have hp := q_p10 k (by omega)
      by_cases h : 10 ^ k ≤ w
      · have c2 : -nI w ≤ -nI (10 ^ k) := (sb_nle hw hp).mpr h
        obtain ⟨t, z, z1, z2, z3, z4⟩ := ih (k + 1) (by omega) (by omega) (by omega) (10 * -nI (10 ^ k)) (fun hk9 => by
          rw [Int32.mul_neg]
          show -(nI 10 * nI (10 ^ k)) = _
          rw [pk_mul, Nat.pow_succ, Nat.mul_comm])
        rw [if_neg c1, if_pos c2, nI_1]
        exact ⟨⟨fun c => absurd c c1, fun _ => ⟨fun _ => t, fun _ => trivial⟩⟩, z, z1, z2, z3, z4⟩
      · have c2 : ¬ -nI w ≤ -nI (10 ^ k) := fun q => h ((sb_nle hw hp).mp q)
        rw [if_neg c1, if_neg c2]
        exact ⟨⟨fun c => absurd c c1, fun _ => ⟨fun c => absurd c c2, fun _ => trivial⟩⟩, k, h1, h2, by omega, nI_add k d⟩
    · obtain rfl : k = 10 := by omega
      have c1 : (10 : Int32) ≤ nI 10 := by decide
      rw [if_pos c1]
      exact ⟨⟨fun _ => trivial, fun c => absurd c1 c⟩, 10, by omega, by omega, Nat.lt_of_lt_of_le hw (by decide), nI_add 10 d⟩
theorem q_ssize (w : Nat) (hw : w < 2 ^ 31) : T_J6_stringSize_0f7a4 (nI w) ∧ ∃ z, 1 ≤ z ∧ z ≤ 10 ∧ w < 10 ^ z ∧ j_J6_stringSize_0f7a4 (nI w) = nI z := by
  have c : ¬ nI w < 0 := nI_pos hw
  obtain ⟨t, z, z1, z2, z3, z4⟩ := q_ssI (nI w) w 0 hw 100 1 (by omega) (by omega) (by omega) (-10) (fun _ => by decide)
  rw [nI_0] at t z4
  refine ⟨⟨fun h => absurd h c, fun _ => t⟩, z, z1, z2, z3, ?_⟩
  rw [j_J6_stringSize_0f7a4, if_neg c]
  exact z4
theorem q_negTL {w : Nat} (h : w < 2 ^ 62) : (-lN w).toInt = -(w : Int) := by
  rw [Int64.toInt_neg, pk_lT (by omega)]
  exact Int.bmod_eq_of_le (by omega) (by omega)
theorem q_nleL {a b : Nat} (ha : a < 2 ^ 62) (hb : b < 2 ^ 62) : -lN a ≤ -lN b ↔ b ≤ a := by
  rw [Int64.le_iff_toInt_le, q_negTL ha, q_negTL hb]
  omega
theorem q_nltL {a b : Nat} (ha : a < 2 ^ 62) (hb : b < 2 ^ 62) : -lN a < -lN b ↔ b < a := by
  rw [Int64.lt_iff_toInt_lt, q_negTL ha, q_negTL hb]
  omega
theorem q_ndivL {w : Nat} (hw : w < 2 ^ 62) : (-lN w) / 100 = -lN (w / 100) := by
  apply Int64.toInt_inj.mp
  have h100 : (100 : Int64).toInt = 100 := by decide
  rw [Int64.toInt_div, q_negTL hw, h100, q_negTL (by omega), Int.neg_tdiv, Int.tdiv_eq_ediv_of_nonneg (by omega), Int.bmod_eq_of_le (by omega) (by omega)]
  omega
theorem q_nremL {w : Nat} (hw : w < 2 ^ 62) : (((-lN w) / 100) * 100 - (-lN w)).toInt32 = nI (w % 100) := by
  rw [q_ndivL hw]
  have h := pk_lRem (a := w) (b := 100) (by omega) (by decide) (by decide)
  rw [pk_lDiv (by omega) (by decide) (by decide)] at h
  have e : (-lN (w / 100)) * 100 - (-lN w) = lN (w % 100) := by
    rw [← h]
    show (-lN (w / 100)) * lN 100 - (-lN w) = lN w - lN (w / 100) * lN 100
    rw [Int64.neg_mul, Int64.sub_neg, Int64.add_comm, ← Int64.sub_eq_add_neg]
  rw [e]
  exact lN_i _
theorem q_n32 {w : Nat} (hw : w < 2 ^ 31) : (-lN w).toInt32 = -nI w := by
  apply Int32.toInt_inj.mp
  rw [Int64.toInt_toInt32, q_negTL (by omega), sb_negT hw]
  exact Int.bmod_eq_of_le (by omega) (by omega)
theorem q_ssL (a0 : Int64) (w d : Nat) (hw : w < 10 ^ 18) : ∀ (u k : Nat), 1 ≤ k → k ≤ 19 → 19 < u + k → ∀ v3 : Int64, (k ≤ 18 → v3 = -lN (10 ^ k)) →
    jt_J13_stringSize_95d88_20 a0 (-lN w) (nI d) (fun _ _ => True) u v3 (nI k) ∧ ∃ z, 1 ≤ z ∧ z ≤ 19 ∧ w < 10 ^ z ∧ jl_J13_stringSize_95d88_20 a0 (-lN w) (nI d) (fun _ _ => 19 + nI d) u v3 (nI k) = nI (z + d) := by
  intro u
  have hw2 : w < 2 ^ 62 := Nat.lt_trans hw (by decide)
  induction u with
  | zero => intro k h1 h2 h3; exact absurd h3 (by omega)
  | succ u ih =>
    intro k h1 h2 h3 v3 e
    rw [jt_J13_stringSize_95d88_20, jl_J13_stringSize_95d88_20]
    rcases Nat.lt_or_ge k 19 with hk | hk
    · have c1 : ¬ (19 : Int32) ≤ nI k := show ¬ nI 19 ≤ nI k from nI_ge hk (by decide)
      have e := e (by omega)
      subst e
      have hp := q_p10L k (by omega)
      by_cases h : 10 ^ k ≤ w
      · have c2 : -lN w ≤ -lN (10 ^ k) := (q_nleL hw2 hp).mpr h
        obtain ⟨t, z, z1, z2, z3, z4⟩ := ih (k + 1) (by omega) (by omega) (by omega) (10 * -lN (10 ^ k)) (fun hk9 => by
          rw [Int64.mul_neg]
          show -(lN 10 * lN (10 ^ k)) = _
          rw [lN_mul, Nat.pow_succ, Nat.mul_comm])
        rw [if_neg c1, if_pos c2, nI_1]
        exact ⟨⟨fun c => absurd c c1, fun _ => ⟨fun _ => t, fun _ => trivial⟩⟩, z, z1, z2, z3, z4⟩
      · have c2 : ¬ -lN w ≤ -lN (10 ^ k) := fun q => h ((q_nleL hw2 hp).mp q)
        rw [if_neg c1, if_neg c2]
        exact ⟨⟨fun c => absurd c c1, fun _ => ⟨fun c => absurd c c2, fun _ => trivial⟩⟩, k, h1, h2, by omega, nI_add k d⟩
    · obtain rfl : k = 19 := by omega
      have c1 : (19 : Int32) ≤ nI 19 := by decide
      rw [if_pos c1]
      exact ⟨⟨fun _ => trivial, fun c => absurd c1 c⟩, 19, by omega, by omega, Nat.lt_trans hw (by decide), nI_add 19 d⟩
theorem q_lnn {w : Nat} (hw : w < 2 ^ 63) : ¬ lN w < 0 := fun h => by
  have := (pk_lLT hw (by decide)).mp (show lN w < lN 0 from h)
  omega
theorem q_ssizeL (w : Nat) (hw : w < 10 ^ 18) : T_J13_stringSize_95d88 (lN w) ∧ ∃ z, 1 ≤ z ∧ z ≤ 19 ∧ w < 10 ^ z ∧ j_J13_stringSize_95d88 (lN w) = nI z := by
  have c : ¬ lN w < 0 := q_lnn (Nat.lt_trans hw (by decide))
  obtain ⟨t, z, z1, z2, z3, z4⟩ := q_ssL (lN w) w 0 hw 100 1 (by omega) (by omega) (by omega) (-10) (fun _ => by decide)
  rw [nI_0] at t z4
  refine ⟨⟨fun h => absurd h c, fun _ => t⟩, z, z1, z2, z3, ?_⟩
  rw [j_J13_stringSize_95d88, if_neg c]
  exact z4
theorem q_lneg {w : Nat} (h0 : 0 < w) (hw : w < 2 ^ 62) : -lN w < 0 := by
  rw [Int64.lt_iff_toInt_lt, q_negTL hw]
  show -(w : Int) < 0
  omega
theorem q_ssizeN (w : Nat) (h0 : 0 < w) (hw : w < 10 ^ 18) : T_J13_stringSize_95d88 (-lN w) ∧ ∃ z, 1 ≤ z ∧ z ≤ 19 ∧ w < 10 ^ z ∧ j_J13_stringSize_95d88 (-lN w) = nI (z + 1) := by
  have c : -lN w < 0 := q_lneg h0 (Nat.lt_trans hw (by decide))
  obtain ⟨t, z, z1, z2, z3, z4⟩ := q_ssL (-lN w) w 1 hw 100 1 (by omega) (by omega) (by omega) (-10) (fun _ => by decide)
  refine ⟨⟨fun _ => t, fun h => absurd c h⟩, z, z1, z2, z3, ?_⟩
  rw [j_J13_stringSize_95d88, if_pos c]
  exact z4
theorem q_dm1 (p : Nat) (h : 0 < p) : nI p + (-1) = nI (p - 1) := sb_m1 h
/-- the ints' digits: from p places on, w below 10 ^ z, z + e places -/
theorem q_gcI (cp : Nat) (a0 a1 w6 : Int32) (e : Nat) (hcp : cp < 2 ^ 30) (t9 : Int32 → Int32 → Prop) (h9 : ∀ (w z p : Nat), w < 100 → w < 10 ^ z → e + z ≤ p → p ≤ cp → 1 ≤ z → t9 (-nI w) (nI p)) :
    ∀ (u w z p : Nat), w < 100 ^ u → w < 2 ^ 31 → w < 10 ^ z → 1 ≤ z → e + z ≤ p → p ≤ cp → jt_J6_getChars_ba4f3_22 cp a0 a1 w6 t9 (u + 1) (-nI w) (nI p) := by
  intro u
  induction u with
  | zero =>
    intro w z p hw hw2 hz h1 hp hc
    rw [jt_J6_getChars_ba4f3_22]
    have hw0 : w = 0 := by
      have : w < 1 := by simpa using hw
      omega
    subst hw0
    exact ⟨fun _ => h9 0 z p (by omega) hz hp hc h1, fun c => absurd (show (-100 : Int32) < -nI 0 by decide) c⟩
  | succ u ih =>
    intro w z p hw hw2 hz h1 hp hc
    rw [jt_J6_getChars_ba4f3_22]
    by_cases h : w < 100
    · have c : (-100 : Int32) < -nI w := (sb_nlt (a := 100) (by decide) hw2).mpr h
      exact ⟨fun _ => h9 w z p h hz hp hc h1, fun q => absurd c q⟩
    · have c : ¬ (-100 : Int32) < -nI w := fun q => h ((sb_nlt (a := 100) (by decide) hw2).mp q)
      have hz3 : 3 ≤ z := by
        rcases Nat.lt_or_ge z 3 with q | q
        · have : 10 ^ z ≤ 10 ^ 2 := Nat.pow_le_pow_right (by omega) (by omega)
          omega
        · exact q
      have hd : w / 100 < 10 ^ (z - 2) := by
        apply Nat.div_lt_of_lt_mul
        have : 100 * 10 ^ (z - 2) = 10 ^ z := by
          rw [show (100 : Nat) = 10 ^ 2 from rfl, ← Nat.pow_add]
          congr 1
          omega
        omega
      have hu : w / 100 < 100 ^ u := by
        apply Nat.div_lt_of_lt_mul
        rw [Nat.pow_succ] at hw
        omega
      refine ⟨fun q => absurd q c, fun _ => ?_⟩
      rw [sb_ndiv hw2, sb_nrem hw2, q_dm1 p (by omega), q_dm1 (p - 1) (by omega)]
      exact ⟨vp_in_nI (by omega) (by decide), vp_in_nI (by omega) (by omega), vp_in_nI (by omega) (by omega), ih (w / 100) (z - 2) (p - 1 - 1) hu (by omega) hd (by omega) (by omega) (by omega)⟩
theorem q_h31 {w : Nat} (h : w < 2 ^ 31) : w < 100 ^ 99 := Nat.lt_trans h (Nat.le_of_ble_eq_true rfl)
/-- .. the end: one digit or two -/
theorem q_gce (cp : Nat) (hcp : cp < 2 ^ 30) (w z p : Nat) (hw : w < 100) (hz : w < 10 ^ z) (hp : z ≤ p) (hc : p ≤ cp) (h1 : 1 ≤ z) :
    vp_in (-(-nI w)) 100 ∧ vp_in (nI p + (-1)) cp ∧ (¬ (-9 : Int32) ≤ -nI w → 2 ≤ p ∧ 2 ≤ z) := by
  rw [Int32.neg_neg, q_dm1 p (by omega)]
  refine ⟨vp_in_nI hw (by decide), vp_in_nI (by omega) (by omega), fun h => ?_⟩
  have h10 : ¬ w ≤ 9 := fun q => h ((sb_nle (a := 9) (b := w) (by decide) (by omega)).mpr q)
  have : ¬ z < 2 := fun q => by
    have : 10 ^ z ≤ 10 ^ 1 := Nat.pow_le_pow_right (by omega) (by omega)
    omega
  omega
theorem q_gcT (cp w z p : Nat) (hcp : cp < 2 ^ 30) (hw : w < 2 ^ 31) (hz : w < 10 ^ z) (h1 : 1 ≤ z) (hp : z ≤ p) (hc : p ≤ cp) : T_J6_getChars_ba4f3 cp (nI w) (nI p) := by
  refine ⟨fun _ => ?_, fun h => absurd (nI_pos' hw) h⟩
  refine q_gcI cp _ _ _ 0 hcp _ (fun w z p h1 h2 h3 h4 h5 => ?_) 99 w z p (q_h31 hw) hw hz h1 (by omega) hc
  obtain ⟨q1, q2, q3⟩ := q_gce cp hcp w z p h1 h2 (by omega) h4 h5
  refine ⟨q1, q2, fun _ => trivial, fun h => ⟨?_, trivial⟩⟩
  have := q3 h
  rw [q_dm1 p (by omega), q_dm1 (p - 1) (by omega)]
  exact vp_in_nI (by omega) (by omega)
