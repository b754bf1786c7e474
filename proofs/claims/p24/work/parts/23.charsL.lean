/-- the ints' digits: from p places on, w below 10 ^ z, z + e places -/
theorem q_gcJ (cp : Nat) (a0 : Int64) (a2 : Int32) (w0 : Int64) (w8 : Int32) (e : Nat) (hcp : cp < 2 ^ 30) (t9 : Int32 → Int32 → Prop) (h9 : ∀ (w z p : Nat), w < 100 → w < 10 ^ z → e + z ≤ p → p ≤ cp → 1 ≤ z → t9 (nI p) (-nI w)) :
    ∀ (u w z p : Nat), w < 100 ^ u → w < 2 ^ 31 → w < 10 ^ z → 1 ≤ z → e + z ≤ p → p ≤ cp → jt_J13_getChars_11360_86 cp a0 a2 w0 w8 t9 (u + 1) (nI p) (-nI w) := by
  intro u
  induction u with
  | zero =>
    intro w z p hw hw2 hz h1 hp hc
    rw [jt_J13_getChars_11360_86]
    have hw0 : w = 0 := by
      have : w < 1 := by simpa using hw
      omega
    subst hw0
    exact ⟨fun _ => h9 0 z p (by omega) hz hp hc h1, fun c => absurd (show (-100 : Int32) < -nI 0 by decide) c⟩
  | succ u ih =>
    intro w z p hw hw2 hz h1 hp hc
    rw [jt_J13_getChars_11360_86]
    by_cases h : w < 100
    · have c : (-100 : Int32) < -nI w := (sb_nlt (a := 100) (by decide) hw2).mpr h
      exact ⟨fun _ => h9 w z p h hz hp hc h1, fun q => absurd c q⟩
    · have c : ¬ (-100 : Int32) < -nI w := fun q => h ((sb_nlt (a := 100) (by decide) hw2).mp q)
      have hz3 : 3 ≤ z := by
        rcases Nat.lt_or_ge z 3 with q | q
        · have : 10 ^ z ≤ 10 ^ 2 := Nat.pow_le_pow_right (by omega) (by omega)
          omega
        · exact q
      have hd : w / 100 < 10 ^ (z - 2) := by
        apply Nat.div_lt_of_lt_mul
        have : 100 * 10 ^ (z - 2) = 10 ^ z := by
          rw [show (100 : Nat) = 10 ^ 2 from rfl, ← Nat.pow_add]
          congr 1
          omega
        omega
      have hu : w / 100 < 100 ^ u := by
        apply Nat.div_lt_of_lt_mul
        rw [Nat.pow_succ] at hw
        omega
      refine ⟨fun q => absurd q c, fun _ => ?_⟩
      rw [sb_ndiv hw2, sb_nrem hw2, q_dm1 p (by omega), q_dm1 (p - 1) (by omega)]
      exact ⟨vp_in_nI (by omega) (by decide), vp_in_nI (by omega) (by omega), vp_in_nI (by omega) (by omega), ih (w / 100) (z - 2) (p - 1 - 1) hu (by omega) hd (by omega) (by omega) (by omega)⟩
/-- the ints' digits: from p places on, w below 10 ^ z, z + e places -/
theorem q_gcL (cp : Nat) (a0 : Int64) (a2 : Int32) (w8 : Int32) (e : Nat) (hcp : cp < 2 ^ 30) (t9 : Int64 → Int32 → Prop) (h9 : ∀ (w z p : Nat), w < 2 ^ 31 → w < 10 ^ z → e + z ≤ p → p ≤ cp → 1 ≤ z → t9 (-lN w) (nI p)) :
    ∀ (u w z p : Nat), w < 100 ^ u → w < 2 ^ 62 → w < 10 ^ z → 1 ≤ z → e + z ≤ p → p ≤ cp → jt_J13_getChars_11360_24 cp a0 a2 w8 t9 (u + 1) (-lN w) (nI p) := by
  intro u
  induction u with
  | zero =>
    intro w z p hw hw2 hz h1 hp hc
    rw [jt_J13_getChars_11360_24]
    have hw0 : w = 0 := by
      have : w < 1 := by simpa using hw
      omega
    subst hw0
    exact ⟨fun _ => h9 0 z p (by decide) hz hp hc h1, fun c => absurd (show (-2147483648 : Int64) < -lN 0 by decide) c⟩
  | succ u ih =>
    intro w z p hw hw2 hz h1 hp hc
    rw [jt_J13_getChars_11360_24]
    by_cases h : w < 2147483648
    · have c : (-2147483648 : Int64) < -lN w := (q_nltL (a := 2147483648) (by decide) hw2).mpr h
      exact ⟨fun _ => h9 w z p h hz hp hc h1, fun q => absurd c q⟩
    · have c : ¬ (-2147483648 : Int64) < -lN w := fun q => h ((q_nltL (a := 2147483648) (by decide) hw2).mp q)
      have hz3 : 3 ≤ z := by
        rcases Nat.lt_or_ge z 3 with q | q
        · have : 10 ^ z ≤ 10 ^ 2 := Nat.pow_le_pow_right (by omega) (by omega)
          omega
        · exact q
      have hd : w / 100 < 10 ^ (z - 2) := by
        apply Nat.div_lt_of_lt_mul
        have : 100 * 10 ^ (z - 2) = 10 ^ z := by
          rw [show (100 : Nat) = 10 ^ 2 from rfl, ← Nat.pow_add]
          congr 1
          omega
        omega
      have hu : w / 100 < 100 ^ u := by
        apply Nat.div_lt_of_lt_mul
        rw [Nat.pow_succ] at hw
        omega
      refine ⟨fun q => absurd q c, fun _ => ?_⟩
      rw [q_nremL hw2, q_ndivL hw2, q_dm1 p (by omega), q_dm1 (p - 1) (by omega)]
      exact ⟨vp_in_nI (by omega) (by decide), vp_in_nI (by omega) (by omega), vp_in_nI (by omega) (by omega), ih (w / 100) (z - 2) (p - 1 - 1) hu (by omega) hd (by omega) (by omega) (by omega)⟩
theorem q_gcTL (cp w z p : Nat) (hcp : cp < 2 ^ 30) (hw : w < 10 ^ 18) (hz : w < 10 ^ z) (h1 : 1 ≤ z) (hp : z ≤ p) (hc : p ≤ cp) : T_J13_getChars_11360 cp (lN w) (nI p) := by
  have hw2 : w < 2 ^ 62 := Nat.lt_trans hw (by decide)
  refine ⟨fun _ => ?_, fun h => absurd ((pk_lLE (a := 0) (b := w) (by decide) (by omega)).mpr (by omega)) h⟩
  refine q_gcL cp _ _ _ 0 hcp _ (fun w z p h1 h2 h3 h4 h5 => ?_) 99 w z p (Nat.lt_trans hw2 (Nat.le_of_ble_eq_true rfl)) hw2 hz h1 (by omega) hc
  rw [q_n32 h1]
  refine q_gcJ cp _ _ _ _ 0 hcp _ (fun w z p h1 h2 h3 h4 h5 => ?_) 99 w z p (q_h31 h1) h1 h2 h5 h3 h4
  obtain ⟨q1, q2, q3⟩ := q_gce cp hcp w z p h1 h2 (by omega) h4 h5
  refine ⟨q1, q2, fun _ => trivial, fun h => ⟨?_, trivial⟩⟩
  have := q3 h
  rw [q_dm1 p (by omega), q_dm1 (p - 1) (by omega)]
  exact vp_in_nI (by omega) (by omega)
theorem q_gcTN (cp w z p : Nat) (hcp : cp < 2 ^ 30) (h0 : 0 < w) (hw : w < 10 ^ 18) (hz : w < 10 ^ z) (h1 : 1 ≤ z) (hp : z + 1 ≤ p) (hc : p ≤ cp) : T_J13_getChars_11360 cp (-lN w) (nI p) := by
  have hw2 : w < 2 ^ 62 := Nat.lt_trans hw (by decide)
  have hneg : ¬ (0 : Int64) ≤ -lN w := fun h => by
    have := q_lneg h0 hw2
    rw [Int64.lt_iff_toInt_lt] at this
    rw [Int64.le_iff_toInt_le] at h
    omega
  refine ⟨fun h => absurd h hneg, fun _ => ?_⟩
  refine q_gcL cp _ _ _ 1 hcp _ (fun w z p h1 h2 h3 h4 h5 => ?_) 99 w z p (Nat.lt_trans hw2 (Nat.le_of_ble_eq_true rfl)) hw2 hz h1 (by omega) hc
  rw [q_n32 h1]
  refine q_gcJ cp _ _ _ _ 1 hcp _ (fun w z p h1 h2 h3 h4 h5 => ?_) 99 w z p (q_h31 h1) h1 h2 h5 h3 h4
  obtain ⟨q1, q2, q3⟩ := q_gce cp hcp w z p h1 h2 (by omega) h4 h5
  refine ⟨q1, q2, fun _ => ⟨?_, trivial⟩, fun h => ⟨?_, ?_, trivial⟩⟩
  · rw [q_dm1 p (by omega), q_dm1 (p - 1) (by omega)]
    exact vp_in_nI (by omega) (by omega)
  · have := q3 h
    rw [q_dm1 p (by omega), q_dm1 (p - 1) (by omega)]
    exact vp_in_nI (by omega) (by omega)
  · have := q3 h
    rw [q_dm1 p (by omega), q_dm1 (p - 1) (by omega), q_dm1 (p - 1 - 1) (by omega)]
    exact vp_in_nI (by omega) (by omega)
