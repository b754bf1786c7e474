/-! isSound() is true: for numbers in their range -/
theorem v_fmP {M R : Nat} (h0 : 0 < R) (hR : R < 2 ^ 62) (hM : M < 2 ^ 62) : j_J9_floorMod_f86c9 (lN M) (lN R) = lN (M % R) := by
  have e := m_fm (lN M) h0 hR
  have e2 : ((M : Int)).tmod R = ((M % R : Nat) : Int) := by rw [Int.tmod_eq_emod_of_nonneg (by omega)]; rfl
  rw [pk_lT (by omega), e2, if_neg (by omega)] at e
  have := Nat.mod_lt M h0
  rw [← Int64.toInt_inj, e, pk_lT (by omega)]
theorem v_fmN {M R : Nat} (h0 : 0 < R) (hR : R < 2 ^ 62) (hM : M < 2 ^ 62) : j_J9_floorMod_f86c9 (-lN M) (lN R) = lN ((R - M % R) % R) := by
  have e := m_fm (-lN M) h0 hR
  have e2 : (-(M : Int)).tmod R = -((M % R : Nat) : Int) := by rw [Int.neg_tmod, Int.tmod_eq_emod_of_nonneg (by omega)]; rfl
  have hm := Nat.mod_lt M h0
  rw [q_negTL hM, e2] at e
  rw [← Int64.toInt_inj, e]
  clear e e2
  generalize M % R = w at hm ⊢
  rcases Nat.eq_zero_or_pos w with rfl | z
  · rw [if_neg (by omega), Nat.sub_zero, Nat.mod_self]; rfl
  · rw [if_pos (show -(w : Int) < 0 by omega), Nat.mod_eq_of_lt (show R - w < R by omega), pk_lT (show R - w < 2 ^ 63 by omega)]
    omega
theorem v_put {k u sz R F : Nat} (hk : k < 86400000000000) (hu : j_X0_unitNanos (nI u) = lN sz) (hr : (86400000000000 : Int64) / lN sz = lN R) (h0 : 0 < sz) (h1 : 0 < R) (hp : R * sz = 86400000000000) {m : Int64} (hF : j_J9_floorMod_f86c9 m (lN R) = lN F) (hf : F < R) : j_X0_putOn (lN k) (nI u) m = lN ((k + F * sz) % 86400000000000) := by
  have hR : R ≤ 86400000000000 := by rw [← hp]; exact Nat.le_mul_of_pos_right R h0
  have hs : sz ≤ 86400000000000 := by rw [← hp]; exact Nat.le_mul_of_pos_left sz h1
  have hq : F * sz < 86400000000000 := by rw [← hp]; exact Nat.mul_lt_mul_of_pos_right hf h0
  unfold j_X0_putOn
  rw [hu, hr, if_pos (show (0 : Int64) < lN sz from (pk_lLT (a := 0) (by decide) (by omega)).mpr h0), if_pos (show (0 : Int64) < lN R from (pk_lLT (a := 0) (by decide) (by omega)).mpr h1), hF, lN_mul, lN_add, show (86400000000000 : Int64) = lN 86400000000000 from rfl, pk_lRem (by omega) (by decide) (by decide)]
/-! the parts -/
theorem v_ptlt {k : Nat} (hk : k < 86400000000000) : q_pt k (nI 0) ≤ 23 ∧ q_pt k (nI 1) ≤ 59 ∧ q_pt k (nI 2) ≤ 59 ∧ q_pt k (nI 3) ≤ 999999999 := by
  refine ⟨?_, ?_, ?_, ?_⟩
  · show k / 1000000000 / 3600 ≤ 23; omega
  · show k / 1000000000 / 60 % 60 ≤ 59; omega
  · show k / 1000000000 % 60 ≤ 59; omega
  · show k % 1000000000 ≤ 999999999; omega
theorem v_pe : ∀ j, j < 4 → t_PE j = nI (if j = 0 then 24 else if j = 3 then 1000000000 else 60) := by decide +kernel
theorem v_belL {k : Nat} (hk : k < 86400000000000) (k9 : Int32 → Int32) : ∀ (d j u : Nat), j + d = 4 → d < u → jl_X0_partsBelong_2 (lN k) k9 u (nI j) = k9 (nI 4) := by
  intro d
  induction d with
  | zero =>
    intro j u e hu
    obtain ⟨u, rfl⟩ : ∃ z, u = z + 1 := ⟨u - 1, by omega⟩
    obtain rfl : j = 4 := by omega
    rw [jl_X0_partsBelong_2, if_pos (show (4 : Int32) ≤ nI 4 by decide)]
  | succ d ih =>
    intro j u e hu
    obtain ⟨u, rfl⟩ : ∃ z, u = z + 1 := ⟨u - 1, by omega⟩
    have hp := q_pt_lt hk (nI j)
    obtain ⟨p0, p1, p2, p3⟩ := v_ptlt hk
    have hlt : nI (q_pt k (nI j)) < t_PE j := by
      rw [v_pe j (by omega)]
      refine nI_lt ?_ (by split <;> (try split) <;> decide)
      rcases (show j = 0 ∨ j = 1 ∨ j = 2 ∨ j = 3 by omega) with rfl | rfl | rfl | rfl
      · show _ < 24; omega
      · show _ < 60; omega
      · show _ < 60; omega
      · show _ < 1000000000; omega
    rw [jl_X0_partsBelong_2, if_neg (show ¬ (4 : Int32) ≤ nI j from nI_ge (a := j) (b := 4) (by omega) (by decide)), q_partX hk, if_neg (nI_pos hp), nI_clamp (by omega), if_pos hlt, nI_1]
    exact ih (j + 1) u (by omega) (by omega)
theorem v_cut {k u z : Nat} (hk : k < 86400000000000) (hu : u < 8) (hz0 : 0 < z) (hz : z ≤ 86400000000000) (ez : j_X2_size (nI u) = lN z) : j_X0_cutNumber (lN k) (nI u) = lN (k - k % z) := by
  unfold j_X0_cutNumber
  rw [m_un u hu, ez, if_neg (fun h : lN z ≤ 0 => absurd ((pk_lLE (by omega) (by decide)).mp (show lN z ≤ lN 0 from h)) (by omega)), pk_lRem (by omega) hz0 (by omega), lN_sub (Nat.mod_le _ _)]
theorem v_bel {k : Nat} (hk : k < 86400000000000) : j_X0_partsBelong (lN k) = 1 := by
  obtain ⟨p0, p1, p2, p3⟩ := v_ptlt hk
  have e0 : j_X0_partOf (lN k) 0 = nI (q_pt k (nI 0)) := q_partX hk (nI 0)
  have e1 : j_X0_partOf (lN k) 1 = nI (q_pt k (nI 1)) := q_partX hk (nI 1)
  have e2 : j_X0_partOf (lN k) 2 = nI (q_pt k (nI 2)) := q_partX hk (nI 2)
  have e3 : j_X0_partOf (lN k) 3 = nI (q_pt k (nI 3)) := q_partX hk (nI 3)
  have e4 : j_X0_partOf (lN k) 4 = nI (k / 1000000000) := q_partX hk (nI 4)
  have ec : j_X0_cutNumber (lN k) 3 = lN (k - k % 1000000000) := v_cut (u := 3) hk (by decide) (by decide) (by decide) (by decide +kernel)
  have en : ((3600 * q_pt k (nI 0) + 60 * q_pt k (nI 1)) + q_pt k (nI 2)) * 1000000000 + q_pt k (nI 3) = k := by
    show ((3600 * (k / 1000000000 / 3600) + 60 * (k / 1000000000 / 60 % 60)) + k / 1000000000 % 60) * 1000000000 + k % 1000000000 = k
    omega
  unfold j_X0_partsBelong
  rw [← nI_0, v_belL hk _ 4 0 100 rfl (by decide)]
  rw [show (nI 0 : Int32) = 0 from rfl, e0, e1, e2, e3, m_nop p0 p1 p2 p3, en, if_pos rfl, e4, ec, nI_l (by omega), show (1000000000 : Int64) = lN 1000000000 from rfl, pk_lDiv (by omega) (by decide) (by decide), if_pos]
  exact congrArg lN (by omega)
/-! the cuts -/
theorem v_cutL {k : Nat} (hk : k < 86400000000000) : ∀ (d j u : Nat), j + d = 8 → d < u → jl_X0_cutsHold_2 (lN k) (fun _ => 1) u (nI j) = 1 := by
  intro d
  induction d with
  | zero =>
    intro j u e hu
    obtain ⟨u, rfl⟩ : ∃ z, u = z + 1 := ⟨u - 1, by omega⟩
    obtain rfl : j = 8 := by omega
    rw [jl_X0_cutsHold_2, if_pos (show (7 : Int32) < nI 8 by decide)]
  | succ d ih =>
    intro j u e hu
    obtain ⟨u, rfl⟩ : ∃ z, u = z + 1 := ⟨u - 1, by omega⟩
    obtain ⟨z, hz0, hz, ez⟩ := m_usz j (by omega)
    have hm := Nat.mod_lt k hz0
    have hle := Nat.mod_le k z
    rw [jl_X0_cutsHold_2, if_neg (show ¬ (7 : Int32) < nI j from nI_nlt (a := 7) (b := j) (by omega) (by decide)), v_cut hk (by omega) hz0 hz ez, m_un j (by omega), ez]
    rw [if_neg (fun h => absurd ((pk_lLT (by omega) (by omega)).mp h) (by omega))]
    rw [lN_sub (Nat.sub_le _ _), if_neg (fun h => absurd ((pk_lLE (by omega) (by omega)).mp h) (by omega))]
    rw [if_neg (fun h : lN z ≤ 0 => absurd ((pk_lLE (by omega) (by decide)).mp (show lN z ≤ lN 0 from h)) (by omega))]
    rw [pk_lRem (by omega) hz0 (by omega), show (k - k % z) % z = 0 from Nat.sub_mod_eq_zero_of_mod_eq (by rw [Nat.mod_mod]), if_pos (show lN 0 = 0 from rfl), nI_1]
    exact ih (j + 1) u (by omega) (by omega)
theorem v_cuts {k : Nat} (hk : k < 86400000000000) : j_X0_cutsHold (lN k) = 1 := by
  have h := v_cutL hk 8 0 100 rfl (by decide)
  rw [nI_0] at h
  exact h
/-! the steps -/
theorem v_am : ∀ i, i < 3 → ∃ M : Nat, M < 2 ^ 31 ∧ t_TA i = nI M ∧ 1 ≤ M := fun i hi => by
  rcases (show i = 0 ∨ i = 1 ∨ i = 2 by omega) with rfl | rfl | rfl
  · exact ⟨1, by decide, rfl, by decide⟩
  · exact ⟨59, by decide, rfl, by decide⟩
  · exact ⟨100000007, by decide, rfl, by decide⟩
theorem v_back {k A D : Nat} (hk : k < D) (hA : A < D) : ((k + A) % D + (D - A) % D) % D = k := by
  rcases Nat.eq_zero_or_pos A with rfl | h
  · rw [Nat.add_zero, Nat.sub_zero, Nat.mod_self, Nat.add_zero, Nat.mod_mod, Nat.mod_eq_of_lt hk]
  · rw [Nat.mod_eq_of_lt (show D - A < D by omega)]
    rcases Nat.lt_or_ge (k + A) D with c | c
    · rw [Nat.mod_eq_of_lt c, show k + A + (D - A) = k + D by omega, Nat.add_mod_right, Nat.mod_eq_of_lt hk]
    · rw [show k + A = (k + A - D) + D by omega, Nat.add_mod_right, Nat.mod_eq_of_lt (show k + A - D < D by omega), show k + A - D + (D - A) = k by omega, Nat.mod_eq_of_lt hk]
theorem v_day {k c : Nat} (hk : k < 86400000000000) : ((k / 1000000000 + c) % 86400) * 1000000000 + k % 1000000000 = (k + c % 86400 * 1000000000) % 86400000000000 := by
  have hc := Nat.mod_lt c (show 86400 > 0 by decide)
  have e : (k / 1000000000 + c) % 86400 = (k / 1000000000 + c % 86400) % 86400 := by rw [Nat.add_mod_mod]
  rw [e]
  generalize c % 86400 = d at *
  have hs : k / 1000000000 < 86400 := by omega
  have hr := Nat.div_add_mod k 1000000000
  generalize k / 1000000000 = a at *
  have hr2 := Nat.mod_lt k (show 1000000000 > 0 by decide)
  generalize k % 1000000000 = r at *
  rcases Nat.lt_or_ge (a + d) 86400 with h | h
  · rw [Nat.mod_eq_of_lt h, Nat.mod_eq_of_lt (show k + d * 1000000000 < 86400000000000 by omega)]
    omega
  · rw [show a + d = (a + d - 86400) + 86400 by omega, Nat.add_mod_right, Nat.mod_eq_of_lt (show a + d - 86400 < 86400 by omega), show k + d * 1000000000 = (k + d * 1000000000 - 86400000000000) + 86400000000000 by omega, Nat.add_mod_right, Nat.mod_eq_of_lt (show k + d * 1000000000 - 86400000000000 < 86400000000000 by omega)]
    omega
def v_U (u sz R : Nat) : Prop := (u = 0 ∧ sz = 1 ∧ R = 86400000000000) ∨ (u = 3 ∧ sz = 1000000000 ∧ R = 86400) ∨ (u = 4 ∧ sz = 60000000000 ∧ R = 1440) ∨ (u = 5 ∧ sz = 3600000000000 ∧ R = 24)
theorem v_Uf {u sz R : Nat} (h : v_U u sz R) : 0 < sz ∧ 0 < R ∧ R * sz = 86400000000000 ∧ j_X0_unitNanos (nI u) = lN sz ∧ (86400000000000 : Int64) / lN sz = lN R := by
  rcases h with ⟨rfl, rfl, rfl⟩ | ⟨rfl, rfl, rfl⟩ | ⟨rfl, rfl, rfl⟩ | ⟨rfl, rfl, rfl⟩
  · exact ⟨by decide, by decide, by decide, by decide +kernel, by decide +kernel⟩
  · exact ⟨by decide, by decide, by decide, by decide +kernel, by decide +kernel⟩
  · exact ⟨by decide, by decide, by decide, by decide +kernel, by decide +kernel⟩
  · exact ⟨by decide, by decide, by decide, by decide +kernel, by decide +kernel⟩
theorem v_reckS {k M q : Nat} (hk : k < 86400000000000) (hM : M < 2 ^ 31) (hq : q ≤ 3600) : ((((lN k / 1000000000) + (lN M * lN q)) - (((lN k / 1000000000) + (lN M * lN q)) / 86400) * 86400) * 1000000000) + (lN k - (lN k / 1000000000) * 1000000000) = lN ((k + M * q % 86400 * 1000000000) % 86400000000000) := by
  have hmq : M * q ≤ 2 ^ 31 * 3600 := Nat.mul_le_mul (by omega) hq
  rw [q_rem9 hk, show (1000000000 : Int64) = lN 1000000000 from rfl, pk_lDiv (by omega) (by decide) (by decide), lN_mul, lN_add, show (86400 : Int64) = lN 86400 from rfl, pk_lRem (by omega) (by decide) (by decide), lN_mul, lN_add, v_day hk]
theorem v_reck {k u sz R M : Nat} (hk : k < 86400000000000) (hM : M < 2 ^ 31) (hu : v_U u sz R) : j_X0_reckonedOn (lN k) (nI u) (lN M) = lN ((k + M % R * sz) % 86400000000000) := by
  have u0 : j_X0_unitNanos (nI 0) = lN 1 := by decide +kernel
  have u3 : j_X0_unitNanos (nI 3) = lN 1000000000 := by decide +kernel
  have u4 : j_X0_unitNanos (nI 4) = lN 60000000000 := by decide +kernel
  have u5 : j_X0_unitNanos (nI 5) = lN 3600000000000 := by decide +kernel
  have q3 : (lN 1000000000 : Int64) / 1000000000 = lN 1 := by decide +kernel
  have q4 : (lN 60000000000 : Int64) / 1000000000 = lN 60 := by decide +kernel
  have q5 : (lN 3600000000000 : Int64) / 1000000000 = lN 3600 := by decide +kernel
  unfold j_X0_reckonedOn
  rcases hu with ⟨rfl, rfl, rfl⟩ | ⟨rfl, rfl, rfl⟩ | ⟨rfl, rfl, rfl⟩ | ⟨rfl, rfl, rfl⟩
  · rw [u0, if_neg (show ¬ (1000000000 : Int64) ≤ lN 1 by decide), lN_mul, lN_add, show (86400000000000 : Int64) = lN 86400000000000 from rfl, pk_lRem (by omega) (by decide) (by decide), Nat.mod_eq_of_lt (show M < 86400000000000 by omega)]
  · rw [u3, if_pos (show (1000000000 : Int64) ≤ lN 1000000000 by decide), q3, v_reckS hk hM (by decide), Nat.mul_one]
  · rw [u4, if_pos (show (1000000000 : Int64) ≤ lN 60000000000 by decide), q4, v_reckS hk hM (by decide), show M * 60 % 86400 = M % 1440 * 60 from Nat.mul_mod_mul_right 60 M 1440, Nat.mul_assoc]
  · rw [u5, if_pos (show (1000000000 : Int64) ≤ lN 3600000000000 by decide), q5, v_reckS hk hM (by decide), show M * 3600 % 86400 = M % 24 * 3600 from Nat.mul_mod_mul_right 3600 M 24, Nat.mul_assoc]
theorem v_step {k u sz R M : Nat} (hk : k < 86400000000000) (hM : M < 2 ^ 31) (hu : v_U u sz R) : j_X0_stepHolds (lN k) (nI u) (lN M) = 1 := by
  obtain ⟨h0, h1, hp, e1, e2⟩ := v_Uf hu
  have hR : R ≤ 86400000000000 := by rw [← hp]; exact Nat.le_mul_of_pos_right R h0
  have hf := Nat.mod_lt M h1
  have hq : M % R * sz < 86400000000000 := by rw [← hp]; exact Nat.mul_lt_mul_of_pos_right hf h0
  have p1 := v_put hk e1 e2 h0 h1 hp (v_fmP h1 (by omega) (show M < 2 ^ 62 by omega)) hf
  have hk2 : (k + M % R * sz) % 86400000000000 < 86400000000000 := Nat.mod_lt _ (by decide)
  have p2 := v_put hk2 e1 e2 h0 h1 hp (v_fmN h1 (by omega) (show M < 2 ^ 62 by omega)) (Nat.mod_lt _ h1)
  have e3 : (R - M % R) % R * sz = (86400000000000 - M % R * sz) % 86400000000000 := by
    rcases Nat.eq_zero_or_pos (M % R) with z | z
    · rw [z, Nat.sub_zero, Nat.mod_self, Nat.zero_mul]
    · have hz := Nat.mul_pos z h0
      rw [Nat.mod_eq_of_lt (show R - M % R < R by omega), Nat.sub_mul, hp]
      exact (Nat.mod_eq_of_lt (Nat.sub_lt (by decide) hz)).symm
  rw [e3, v_back hk hq] at p2
  unfold j_X0_stepHolds
  rw [p1, v_reck hk hM hu, if_pos rfl, p2, if_pos rfl]
theorem v_su : ∀ u, u < 7 → j_X0_isStepUnit (nI u) = (if u = 0 ∨ u = 3 ∨ u = 4 ∨ u = 5 then 1 else 0) := by decide +kernel
theorem v_inL {k u : Nat} (hk : k < 86400000000000) (hu : u < 7) (k9 : Int32 → Int32) : ∀ (d j w : Nat), j + d = 3 → d < w → jl_X0_stepsHold_10 (lN k) (nI u) k9 w (nI j) = k9 (nI 3) := by
  intro d
  induction d with
  | zero =>
    intro j w e hw
    obtain ⟨w, rfl⟩ : ∃ z, w = z + 1 := ⟨w - 1, by omega⟩
    obtain rfl : j = 3 := by omega
    rw [jl_X0_stepsHold_10, if_pos (show (3 : Int32) ≤ nI 3 by decide)]
  | succ d ih =>
    intro j w e hw
    obtain ⟨w, rfl⟩ : ∃ z, w = z + 1 := ⟨w - 1, by omega⟩
    rw [jl_X0_stepsHold_10, if_neg (show ¬ (3 : Int32) ≤ nI j from nI_ge (a := j) (b := 3) (by omega) (by decide)), v_su u hu, nI_clamp (by omega), nI_1]
    by_cases c : u = 0 ∨ u = 3 ∨ u = 4 ∨ u = 5
    · obtain ⟨M, hM, eM, -⟩ := v_am j (by omega)
      have hs : j_X0_stepHolds (lN k) (nI u) (lN M) = 1 := by
        rcases c with rfl | rfl | rfl | rfl
        · exact v_step hk hM (Or.inl ⟨rfl, rfl, rfl⟩)
        · exact v_step hk hM (Or.inr (Or.inl ⟨rfl, rfl, rfl⟩))
        · exact v_step hk hM (Or.inr (Or.inr (Or.inl ⟨rfl, rfl, rfl⟩)))
        · exact v_step hk hM (Or.inr (Or.inr (Or.inr ⟨rfl, rfl, rfl⟩)))
      rw [if_pos c, if_neg (show ¬ (1 : Int32) = 0 by decide), eM, nI_l hM, hs, if_neg (show ¬ (1 : Int32) = 0 by decide)]
      exact ih (j + 1) w (by omega) (by omega)
    · rw [if_neg c, if_pos rfl]
      exact ih (j + 1) w (by omega) (by omega)
theorem v_stepsL {k : Nat} (hk : k < 86400000000000) : ∀ (d j u : Nat), j + d = 7 → d < u → jl_X0_stepsHold_2 (lN k) (fun _ => 1) u (nI j) = 1 := by
  intro d
  induction d with
  | zero =>
    intro j u e hu
    obtain ⟨u, rfl⟩ : ∃ z, u = z + 1 := ⟨u - 1, by omega⟩
    obtain rfl : j = 7 := by omega
    rw [jl_X0_stepsHold_2, if_pos (show (7 : Int32) ≤ nI 7 by decide)]
  | succ d ih =>
    intro j u e hu
    obtain ⟨u, rfl⟩ : ∃ z, u = z + 1 := ⟨u - 1, by omega⟩
    have h := v_inL hk (show j < 7 by omega) (fun _ => jl_X0_stepsHold_2 (lN k) (fun _ => 1) u (nI (j + 1))) 3 0 100 rfl (by decide)
    rw [nI_0] at h
    rw [jl_X0_stepsHold_2, if_neg (show ¬ (7 : Int32) ≤ nI j from nI_ge (a := j) (b := 7) (by omega) (by decide)), nI_1, h]
    exact ih (j + 1) u (by omega) (by omega)
theorem v_steps {k : Nat} (hk : k < 86400000000000) : j_X0_stepsHold (lN k) = 1 := by
  have h := v_stepsL hk 7 0 100 rfl (by decide)
  rw [nI_0] at h
  exact h
/-! each two -/
theorem v_side {a b : Nat} (ha : a < 2 ^ 62) (hb : b < 2 ^ 62) : j_X0_sideOf (lN a) (lN b) = (if a < b then -1 else if b < a then 1 else 0) := by
  unfold j_X0_sideOf
  rcases Nat.lt_trichotomy a b with h | h | h
  · rw [if_neg (fun q => absurd ((pk_lLE (by omega) (by omega)).mp q) (by omega)), if_pos h]
  · subst h
    rw [if_pos ((pk_lLE (by omega) (by omega)).mpr (Nat.le_refl _)), if_pos ((pk_lLE (by omega) (by omega)).mpr (Nat.le_refl _)), if_neg (Nat.lt_irrefl _), if_neg (Nat.lt_irrefl _)]
  · rw [if_pos ((pk_lLE (by omega) (by omega)).mpr (by omega)), if_neg (fun q => absurd ((pk_lLE (by omega) (by omega)).mp q) (by omega)), if_neg (by omega), if_pos h]
theorem v_sideP {a b : Nat} (ha : a < 86400000000000) (hb : b < 86400000000000) (i : Int32) : j_X0_sideOf ((j_X0_partOf (lN a) i).toInt64) ((j_X0_partOf (lN b) i).toInt64) = (if q_pt a i < q_pt b i then -1 else if q_pt b i < q_pt a i then 1 else 0) := by
  have h1 := q_pt_lt ha i
  have h2 := q_pt_lt hb i
  rw [q_partX ha, q_partX hb, nI_l h1, nI_l h2, v_side (by omega) (by omega)]
theorem v_cst (x y : Int64) (k9 : Int32 → Int32) (u : Nat) (i : Int32) (h : ¬ (3 : Int32) < i) : jl_X0_comparedByParts_3 x y k9 (u + 1) i = (if (j_X0_sideOf ((j_X0_partOf x i).toInt64) ((j_X0_partOf y i).toInt64)) = 0 then jl_X0_comparedByParts_3 x y k9 u (i + 1) else j_X0_sideOf ((j_X0_partOf x i).toInt64) ((j_X0_partOf y i).toInt64)) := by
  rw [jl_X0_comparedByParts_3, if_neg h]
theorem v_lex (x y : Nat) (X : Int32) : (if (if x < y then (-1 : Int32) else if y < x then 1 else 0) = 0 then X else (if x < y then (-1 : Int32) else if y < x then 1 else 0)) = (if x < y then -1 else if y < x then 1 else X) := by
  by_cases h : x < y
  · rw [if_pos h, if_pos h, if_neg (by decide)]
  · rw [if_neg h, if_neg h]
    by_cases h2 : y < x
    · rw [if_pos h2, if_pos h2, if_neg (by decide)]
    · rw [if_neg h2, if_neg h2, if_pos rfl]
theorem v_dec {k : Nat} (hk : k < 86400000000000) : ∃ h m s n : Nat, q_pt k (nI 0) = h ∧ q_pt k (nI 1) = m ∧ q_pt k (nI 2) = s ∧ q_pt k (nI 3) = n ∧ k = ((3600 * h + 60 * m) + s) * 1000000000 + n ∧ m ≤ 59 ∧ s ≤ 59 ∧ n ≤ 999999999 := by
  obtain ⟨-, p1, p2, p3⟩ := v_ptlt hk
  refine ⟨_, _, _, _, rfl, rfl, rfl, rfl, ?_, p1, p2, p3⟩
  show k = ((3600 * (k / 1000000000 / 3600) + 60 * (k / 1000000000 / 60 % 60)) + k / 1000000000 % 60) * 1000000000 + k % 1000000000
  omega
theorem v_parts {a b : Nat} (ha : a < 86400000000000) (hb : b < 86400000000000) : j_X0_comparedByParts (lN a) (lN b) = j_X0_sideOf (lN a) (lN b) := by
  have e : ∀ u, jl_X0_comparedByParts_3 (lN a) (lN b) (fun _ => 0) (u + 5) (nI 0) = j_X0_sideOf (lN a) (lN b) := fun u => by
    rw [v_cst _ _ _ (u + 4) (nI 0) (by decide), nI_1, v_cst _ _ _ (u + 3) (nI (0 + 1)) (by decide), nI_1, v_cst _ _ _ (u + 2) (nI (0 + 1 + 1)) (by decide), nI_1, v_cst _ _ _ (u + 1) (nI (0 + 1 + 1 + 1)) (by decide), nI_1, jl_X0_comparedByParts_3, if_pos (show (3 : Int32) < nI (0 + 1 + 1 + 1 + 1) by decide)]
    rw [v_sideP ha hb, v_sideP ha hb, v_sideP ha hb, v_sideP ha hb, v_lex, v_lex, v_lex, v_lex, v_side (by omega) (by omega)]
    obtain ⟨h, m, s, n, q0, q1, q2, q3, ek, b1, b2, b3⟩ := v_dec ha
    obtain ⟨h', m', s', n', r0, r1, r2, r3, ek', c1, c2, c3⟩ := v_dec hb
    show (if q_pt a (nI 0) < q_pt b (nI 0) then (-1 : Int32) else if q_pt b (nI 0) < q_pt a (nI 0) then 1 else if q_pt a (nI 1) < q_pt b (nI 1) then (-1 : Int32) else if q_pt b (nI 1) < q_pt a (nI 1) then 1 else if q_pt a (nI 2) < q_pt b (nI 2) then (-1 : Int32) else if q_pt b (nI 2) < q_pt a (nI 2) then 1 else if q_pt a (nI 3) < q_pt b (nI 3) then (-1 : Int32) else if q_pt b (nI 3) < q_pt a (nI 3) then 1 else 0) = _
    rw [q0, q1, q2, q3, r0, r1, r2, r3]
    clear q0 q1 q2 q3 r0 r1 r2 r3
    repeat' split
    all_goals first | rfl | (exfalso; omega)
  exact e 95
theorem v_betP {k z : Nat} (hk : k < 86400000000000) (h0 : 0 < z) (hz : z ≤ 86400000000000) : j_X0_betweenHolds (lN k) (lN k / lN z) (lN z) = 1 := by
  have hm := Nat.mod_lt k h0
  have hd : k / z ≤ k := Nat.div_le_self _ _
  have hq : k / z * z + k % z = k := by rw [Nat.mul_comm]; exact Nat.div_add_mod k z
  have er : lN k - lN (k / z) * lN z = lN (k % z) := by
    rw [lN_mul, lN_sub (by omega)]
    exact congrArg lN (by omega)
  unfold j_X0_betweenHolds
  rw [pk_lDiv (by omega) h0 (by omega), er, if_pos (show (0 : Int64) ≤ lN k from (pk_lLE (a := 0) (by decide) (by omega)).mpr (by omega)), if_neg (q_lnn (by omega)), if_neg (q_lnn (by omega)), if_neg]
  split
  · exact fun h => absurd ((pk_lLE (by omega) (by omega)).mp h) (by omega)
  · rename_i c
    have : k % z = 0 := by
      rcases Nat.eq_zero_or_pos (k % z) with h | h
      · exact h
      · exact absurd ((pk_lLT (a := 0) (by decide) (by omega)).mpr h) c
    rw [this]
    exact fun h => absurd ((pk_lLE (by omega) (by decide)).mp (show lN z ≤ lN 0 from h)) (by omega)
theorem v_nDiv {k z : Nat} (hk : k < 2 ^ 62) (h0 : 0 < z) (hz : z < 2 ^ 62) : -lN k / lN z = -lN (k / z) := by
  have hd : k / z ≤ k := Nat.div_le_self _ _
  rw [← Int64.toInt_inj, Int64.toInt_div, q_negTL hk, pk_lT (by omega), q_negTL (by omega), Int.neg_tdiv, Int.tdiv_eq_ediv_of_nonneg (by omega), show ((k : Int) / (z : Int)) = ((k / z : Nat) : Int) from rfl]
  generalize k / z = w at hd ⊢
  exact Int.bmod_eq_of_le (by omega) (by omega)
theorem v_betN {k z : Nat} (hp : 0 < k) (hk : k < 86400000000000) (h0 : 0 < z) (hz : z ≤ 86400000000000) : j_X0_betweenHolds (-lN k) (-lN k / lN z) (lN z) = 1 := by
  have hm := Nat.mod_lt k h0
  have hd : k / z ≤ k := Nat.div_le_self _ _
  have hq : k / z * z + k % z = k := by rw [Nat.mul_comm]; exact Nat.div_add_mod k z
  have er : -lN k - -lN (k / z) * lN z = -lN (k % z) := by
    rw [Int64.neg_mul, lN_mul, Int64.sub_neg, Int64.add_comm, ← Int64.sub_eq_add_neg, ← Int64.neg_sub, lN_sub (by omega)]
    exact congrArg (fun j => -lN j) (by omega)
  have np : ∀ j : Nat, j < 2 ^ 62 → ¬ (0 : Int64) < -lN j := fun j hj h => by
    rw [Int64.lt_iff_toInt_lt, q_negTL hj] at h
    have : (0 : Int64).toInt = 0 := rfl
    omega
  unfold j_X0_betweenHolds
  rw [v_nDiv (by omega) h0 (by omega), er, if_neg (show ¬ (0 : Int64) ≤ -lN k from fun h => by
    rw [Int64.le_iff_toInt_le, q_negTL (by omega)] at h
    have : (0 : Int64).toInt = 0 := rfl
    omega), if_neg (np _ (by omega)), if_neg (np _ (by omega)), if_neg (np _ (by omega)), Int64.neg_neg, if_neg]
  exact fun h => absurd ((pk_lLE (by omega) (by omega)).mp h) (by omega)
theorem v_bet {a b z : Nat} (ha : a < 86400000000000) (hb : b < 86400000000000) (h0 : 0 < z) (hz : z ≤ 86400000000000) : j_X0_betweenHolds (lN b - lN a) ((lN b - lN a) / lN z) (lN z) = 1 := by
  rcases Nat.lt_or_ge b a with h | h
  · rw [show lN b - lN a = -lN (a - b) by rw [← Int64.neg_sub, lN_sub (by omega)]]
    exact v_betN (by omega) (by omega) h0 hz
  · rw [lN_sub h]
    exact v_betP (by omega) h0 hz
theorem v_ub {a b u z : Nat} (hu : u < 8) (h0 : 0 < z) (hz : z ≤ 86400000000000) (ez : j_X2_size (nI u) = lN z) : j_X0_unitsBetween (lN a) (lN b) (nI u) = (lN b - lN a) / lN z := by
  unfold j_X0_unitsBetween
  rw [m_un u hu, ez, if_neg (fun h : lN z ≤ 0 => absurd ((pk_lLE (by omega) (by decide)).mp (show lN z ≤ lN 0 from h)) (by omega))]
theorem v_pairL {a b : Nat} (ha : a < 86400000000000) (hb : b < 86400000000000) (k9 : Int32 → Int32) : ∀ (d j u : Nat), j + d = 7 → d < u → jl_X0_pairHolds_18 (lN a) (lN b) k9 u (nI j) = k9 (nI 7) := by
  intro d
  induction d with
  | zero =>
    intro j u e hu
    obtain ⟨u, rfl⟩ : ∃ z, u = z + 1 := ⟨u - 1, by omega⟩
    obtain rfl : j = 7 := by omega
    rw [jl_X0_pairHolds_18, if_pos (show (7 : Int32) ≤ nI 7 by decide)]
  | succ d ih =>
    intro j u e hu
    obtain ⟨u, rfl⟩ : ∃ z, u = z + 1 := ⟨u - 1, by omega⟩
    obtain ⟨z, hz0, hz, ez⟩ := m_usz j (by omega)
    rw [jl_X0_pairHolds_18, if_neg (show ¬ (7 : Int32) ≤ nI j from nI_ge (a := j) (b := 7) (by omega) (by decide)), v_ub (by omega) hz0 hz ez, m_un j (by omega), ez, v_bet ha hb hz0 hz, if_neg (show ¬ (1 : Int32) = 0 by decide), nI_1]
    exact ih (j + 1) u (by omega) (by omega)
theorem v_pair {a b : Nat} (ha : a < 86400000000000) (hb : b < 86400000000000) : j_X0_pairHolds (lN a) (lN b) = 1 := by
  have h := v_pairL ha hb (fun _ => (if (j_X0_putOn (lN a) 0 (j_X0_unitsBetween (lN a) (lN b) 0)) = lN b then 1 else 0)) 7 0 100 rfl (by decide)
  rw [nI_0] at h
  have u0 : j_X0_unitNanos (nI 0) = lN 1 := by decide +kernel
  have r0 : (86400000000000 : Int64) / lN 1 = lN 86400000000000 := by decide +kernel
  have eb : j_X0_unitsBetween (lN a) (lN b) (nI 0) = lN b - lN a := by
    rw [v_ub (u := 0) (z := 1) (by decide) (by decide) (by decide) (by decide +kernel)]
    exact Int64.div_one
  have ep : j_X0_putOn (lN a) (nI 0) (lN b - lN a) = lN b := by
    rcases Nat.lt_or_ge b a with c | c
    · have hF := v_fmN (M := a - b) (R := 86400000000000) (by decide) (by decide) (by omega)
      rw [← lN_sub (show b ≤ a by omega), Int64.neg_sub] at hF
      rw [v_put ha u0 r0 (by decide) (by decide) (by decide) hF (Nat.mod_lt _ (by decide))]
      exact congrArg lN (by omega)
    · have hF := v_fmP (M := b - a) (R := 86400000000000) (by decide) (by decide) (by omega)
      rw [← lN_sub c] at hF
      rw [v_put ha u0 r0 (by decide) (by decide) (by decide) hF (Nat.mod_lt _ (by decide))]
      exact congrArg lN (by omega)
  unfold j_X0_pairHolds
  rw [v_parts ha hb, if_pos rfl, h, show (0 : Int32) = nI 0 from rfl, eb, ep, if_pos rfl]
/-! the whole -/
theorem v_sndI {f : Nat → Int64} (hF : kIn f) (kn ch : Int32) {a : Nat} (ha : a < 86400000000000) (w1 : Int32) (k9 : Int32 → Int32) : ∀ (d j u : Nat), j + d = 8 → d < u → jl_X0_isSound_40 kn ch f w1 (lN a) k9 u (nI j) = k9 (nI 8) := by
  intro d
  induction d with
  | zero =>
    intro j u e hu
    obtain ⟨u, rfl⟩ : ∃ z, u = z + 1 := ⟨u - 1, by omega⟩
    obtain rfl : j = 8 := by omega
    rw [jl_X0_isSound_40, if_pos (show (8 : Int32) ≤ nI 8 by decide)]
  | succ d ih =>
    intro j u e hu
    obtain ⟨u, rfl⟩ : ∃ z, u = z + 1 := ⟨u - 1, by omega⟩
    obtain ⟨b, hb, eb⟩ := hF j (by omega)
    rw [jl_X0_isSound_40, if_neg (show ¬ (8 : Int32) ≤ nI j from nI_ge (a := j) (b := 8) (by omega) (by decide)), q_numC kn ch f (show j < 8 by omega), eb, v_pair ha hb, if_neg (show ¬ (1 : Int32) = 0 by decide), nI_1]
    exact ih (j + 1) u (by omega) (by omega)
theorem v_sndL {f : Nat → Int64} (hF : kIn f) (kn ch : Int32) : ∀ (d j u : Nat), j + d = 8 → d < u → jl_X0_isSound_2 kn ch f (fun _ => 1) u (nI j) = 1 := by
  intro d
  induction d with
  | zero =>
    intro j u e hu
    obtain ⟨u, rfl⟩ : ∃ z, u = z + 1 := ⟨u - 1, by omega⟩
    obtain rfl : j = 8 := by omega
    rw [jl_X0_isSound_2, if_pos (show (8 : Int32) ≤ nI 8 by decide)]
  | succ d ih =>
    intro j u e hu
    obtain ⟨u, rfl⟩ : ∃ z, u = z + 1 := ⟨u - 1, by omega⟩
    obtain ⟨a, ha, ea⟩ := hF j (by omega)
    have h := v_sndI hF kn ch ha (nI j) (fun _ => jl_X0_isSound_2 kn ch f (fun _ => 1) u (nI (j + 1))) 8 0 100 rfl (by decide)
    rw [nI_0] at h
    rw [jl_X0_isSound_2, if_neg (show ¬ (8 : Int32) ≤ nI j from nI_ge (a := j) (b := 8) (by omega) (by decide)), q_numC kn ch f (show j < 8 by omega), ea, v_bel ha, v_steps ha, v_cuts ha, if_neg (show ¬ (1 : Int32) = 0 by decide), nI_1, h]
    exact ih (j + 1) u (by omega) (by omega)
theorem v_snd {f : Nat → Int64} (hF : kIn f) (kn ch : Int32) : j_X0_isSound kn ch f = 1 := by
  have h := v_sndL hF kn ch 8 0 100 rfl (by decide)
  rw [nI_0] at h
  exact h
