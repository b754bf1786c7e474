/-! the steps: kinds -/
def o_un (g : Nat → Int64) (b : Nat) : Nat → Nat → Bool
  | 0, _ => true
  | d + 1, k => if g k = g b then false else o_un g b d (k + 1)
theorem o_un_eq {f g : Nat → Int64} (h : ∀ j, j < 8 → f j = g j) {b : Nat} (hb : b < 8) : ∀ d k, k + d ≤ 8 → o_un f b d k = o_un g b d k := by
  intro d
  induction d with
  | zero => intro k _; rfl
  | succ d ih =>
    intro k hk
    rw [o_un, o_un, h k (by omega), h b hb, ih (k + 1) (by omega)]
theorem m_unR (th : Int32) (g : Nat → Int64) (kn2 td w1 : Int32) (k9 : Int32 → Int32 → Int32) {b : Nat} (hb : b < 8) : ∀ (d k u : Nat) (v3 : Int32), k + d = b → d < u → (v3 = 0 ∨ v3 = 1) → jl_X2_unlike_15 th g kn2 td w1 (nI b) k9 u v3 (nI k) = k9 (if v3 = 1 then (if o_un g b d k = true then 1 else 0) else 0) (nI b) := by
  intro d
  induction d with
  | zero =>
    intro k u v3 e hu hv
    obtain ⟨u, rfl⟩ : ∃ z, u = z + 1 := ⟨u - 1, by omega⟩
    obtain rfl : k = b := by omega
    rw [jl_X2_unlike_15, if_pos (nI_le (Nat.le_refl _) (by omega)), o_un]
    rcases hv with rfl | rfl
    · rw [if_neg (by decide)]
    · rw [if_pos rfl, if_pos rfl]
  | succ d ih =>
    intro k u v3 e hu hv
    obtain ⟨u, rfl⟩ : ∃ z, u = z + 1 := ⟨u - 1, by omega⟩
    rw [jl_X2_unlike_15, if_neg (nI_ge (by omega) (by omega)), m_cl (show k < 8 by omega), m_cl hb, nI_1, o_un]
    by_cases c : g k = g b
    · rw [if_pos c, if_pos c, show v3 &&& 0 = 0 from by rcases hv with rfl | rfl <;> decide, ih (k + 1) u 0 (by omega) (by omega) (Or.inl rfl)]
      rw [if_neg (show ¬ (0 : Int32) = 1 by decide)]
      congr 1
      split <;> rfl
    · rw [if_neg c, if_neg c, show v3 &&& 1 = v3 from by rcases hv with rfl | rfl <;> decide, ih (k + 1) u v3 (by omega) (by omega) hv]
theorem m_unC (kn ch : Int32) (f : Nat → Int64) {b : Nat} (hb : b < 8) : ∀ (d k u : Nat), k + d = b → d < u → jl_X0_isUnlikeEarlier_2 kn ch f (nI b) (fun _ => 1) u (nI k) = (if o_un f b d k = true then 1 else 0) := by
  intro d
  induction d with
  | zero =>
    intro k u e hu
    obtain ⟨u, rfl⟩ : ∃ z, u = z + 1 := ⟨u - 1, by omega⟩
    obtain rfl : k = b := by omega
    rw [jl_X0_isUnlikeEarlier_2, if_pos (nI_le (Nat.le_refl _) (by omega)), o_un, if_pos rfl]
  | succ d ih =>
    intro k u e hu
    obtain ⟨u, rfl⟩ : ∃ z, u = z + 1 := ⟨u - 1, by omega⟩
    rw [jl_X0_isUnlikeEarlier_2, if_neg (nI_ge (by omega) (by omega)), q_numC kn ch f (show k < 8 by omega), q_numC kn ch f hb, nI_1, o_un]
    by_cases c : f k = f b
    · rw [if_pos c, if_pos c]; rfl
    · rw [if_neg c, if_neg c, ih (k + 1) u (by omega) (by omega)]
theorem m_kindsL {kn ch kn2 td th : Int32} {f g : Nat → Int64} (h : ∀ j, j < 8 → f j = g j) : ∀ (d k u w : Nat) (v1 : Int32), k + d = 8 → d < u → d < w → jl_X0_kinds_4 kn ch f (fun a _ => a) u v1 (nI k) = jl_X2_unlike_4 th g kn2 td (fun a _ => a) w v1 (nI k) := by
  intro d
  induction d with
  | zero =>
    intro k u w v1 e hu hw
    obtain ⟨u, rfl⟩ : ∃ z, u = z + 1 := ⟨u - 1, by omega⟩
    obtain ⟨w, rfl⟩ : ∃ z, w = z + 1 := ⟨w - 1, by omega⟩
    obtain rfl : k = 8 := by omega
    rw [jl_X0_kinds_4, jl_X2_unlike_4, if_pos (show (8 : Int32) ≤ nI 8 by decide), if_pos (show (8 : Int32) ≤ nI 8 by decide)]
  | succ d ih =>
    intro k u w v1 e hu hw
    obtain ⟨u, rfl⟩ : ∃ z, u = z + 1 := ⟨u - 1, by omega⟩
    obtain ⟨w, rfl⟩ : ∃ z, w = z + 1 := ⟨w - 1, by omega⟩
    have hk : k < 8 := by omega
    have hc : ¬ (8 : Int32) ≤ nI k := nI_ge (a := k) (b := 8) hk (by decide)
    have e1 := m_unC kn ch f hk k 0 100 (by omega) (by omega)
    have e2 := m_unR th g kn2 td v1 (fun (v_1002 : Int32) (v_1003 : Int32) => (if v_1002 = 0 then (jl_X2_unlike_4 th g kn2 td (fun a _ => a) w (v1 + 0) (nI k + 1)) else (jl_X2_unlike_4 th g kn2 td (fun a _ => a) w (v1 + 1) (nI k + 1)))) hk k 0 100 1 (by omega) (by omega) (Or.inr rfl)
    rw [nI_0] at e1 e2
    rw [jl_X0_kinds_4, jl_X2_unlike_4, if_neg hc, if_neg hc]
    rw [show j_X0_isUnlikeEarlier kn ch f (nI k) = _ from e1, e2, if_pos rfl, o_un_eq h hk k 0 (by omega), nI_1, Int32.add_zero]
    by_cases c : o_un g k k 0 = true
    · rw [if_pos c, if_neg (show ¬ (1 : Int32) = 0 by decide), if_neg (show ¬ (1 : Int32) = 0 by decide)]
      exact ih (k + 1) u w _ (by omega) (by omega) (by omega)
    · rw [if_neg c, if_pos rfl, if_pos rfl]
      exact ih (k + 1) u w _ (by omega) (by omega) (by omega)
theorem st_kinds {kn ch kn2 td : Int32} {f g : Nat → Int64} (hI : kInv kn ch f kn2 td g) (th : Int32) : (j_X2_kinds th g kn2 td).1 = j_X0_kinds kn ch f ∧ kInv kn ch f (j_X2_kinds th g kn2 td).2.2.2.1 (j_X2_kinds th g kn2 td).2.2.2.2 (j_X2_kinds th g kn2 td).2.2.1 :=
  ⟨(m_kindsL (th := 0) hI.2.2.1 8 0 100 100 0 rfl (by decide) (by decide)).symm, hI⟩
/-! what the reference's calls need -/
theorem m_v1 {a1 z : Int32} (h : j_stR (j_X2_isNone a1) z = 0) : vp_in a1 8 := by
  rcases m_clk a1 with ⟨c, hc, rfl, -, -⟩ | ⟨-, n1⟩
  · exact vp_in_nI hc (by decide)
  · rw [n1, m_r1] at h; exact absurd h (by decide)
theorem m_v2 {a1 : Int32} (h : j_X2_isNone a1 = 0) : vp_in a1 8 := by
  rcases m_clk a1 with ⟨c, hc, rfl, -, -⟩ | ⟨-, n1⟩
  · exact vp_in_nI hc (by decide)
  · rw [n1] at h; exact absurd h (by decide)
theorem m_f1 {z : Int32} (h : j_stR (1 : Int32) z = 0) : False := absurd h (by rw [m_r1]; decide)
theorem m_f2 {z : Int32} (h : j_stR z (1 : Int32) = 0) : False := by
  unfold j_stR at h
  split at h
  · rw [if_neg (by decide)] at h; exact absurd h (by decide)
  · exact absurd h (by decide)
theorem m_z7 {a : Int32} (h : ¬ j_X2_isIn a 0 7 = 0) : ∃ u, u < 8 ∧ a = nI u := by
  rcases m_u7 a with ⟨u, hu, e, -, -⟩ | ⟨-, n⟩
  · exact ⟨u, by omega, e⟩
  · exact absurd n h
theorem m_z6 {a : Int32} (h : ¬ j_X2_isIn a 0 6 = 0) : ∃ u, u < 8 ∧ a = nI u := by
  rcases m_u6 a with ⟨u, hu, e, -, -⟩ | ⟨-, n⟩
  · exact ⟨u, by omega, e⟩
  · exact absurd n h
theorem m_zT {a : Int32} (h : ¬ j_X2_isIn a 0 7 = 0) : T_X2_size a := by obtain ⟨u, hu, rfl⟩ := m_z7 h; exact tk_size hu
theorem m_zN {a : Int32} (h : ¬ j_X2_isIn a 0 7 = 0) : ¬ j_X2_size a = 0 := by obtain ⟨u, hu, rfl⟩ := m_z7 h; exact q_sizeN u hu
theorem m_zA {a1 a2 a3 : Int32} (th : Int32) (g : Nat → Int64) (kn2 td : Int32) (h1 : j_X2_isNone a1 = 0) (h2 : j_X2_isNone a2 = 0) (h3 : ¬ j_X2_isIn a3 0 6 = 0) : T_X2_apart th g kn2 td a1 a2 a3 := by
  rcases m_clk a1 with ⟨c, hc, e1, -, -⟩ | ⟨-, n1⟩
  · rcases m_clk a2 with ⟨d, hd, e2, -, -⟩ | ⟨-, n2⟩
    · obtain ⟨u, hu, e3⟩ := m_z6 h3
      exact tkm_apart th g kn2 td a1 a2 a3 c d u e1 e2 e3 hc hd hu
    · rw [n2] at h2; exact absurd h2 (by decide)
  · rw [n1] at h1; exact absurd h1 (by decide)
theorem m_st {a1 a2 : Int32} (h : j_stR (j_X2_isNone a1) (j_X2_isNoStep a2) = 0) : ∃ u, m_isU u ∧ a2 = nI u := by
  rcases m_step a2 with ⟨u, hu, e, -, -⟩ | ⟨-, n⟩
  · exact ⟨u, hu, e⟩
  · rw [n] at h; exact (m_f2 h).elim
theorem m_sO {a1 a2 : Int32} (h : j_stR (j_X2_isNone a1) (j_X2_isNoStep a2) = 0) (v m : Int64) : T_X2_on v a2 m := by obtain ⟨u, hu, rfl⟩ := m_st h; exact m_Ton hu v m
theorem m_s0O {a2 : Int32} (h : j_X2_isNoStep a2 = 0) (v m : Int64) : T_X2_on v a2 m := by
  rcases m_step a2 with ⟨u, hu, rfl, -, -⟩ | ⟨-, n⟩
  · exact m_Ton hu v m
  · rw [n] at h; exact absurd h (by decide)
theorem m_tw (th : Int32) (g : Nat → Int64) (kn2 td a1 a2 a3 a4 : Int32) (h2 : j_X2_isNoStep a2 = 0) {b : Nat} (hb : b ≤ 40) (e4 : a4 = nI b) (t9 : Int32 → Int64 → Int32 → Prop) (h9 : ∀ v5 v6 v8, t9 v5 v6 v8) : ∀ (n j : Nat) (v5 : Int32) (v6 : Int64) (v8 : Int32), v8 = nI j → j ≤ b → b < n + j → jt_X2_walk_50 th g kn2 td a1 a2 a3 a4 t9 n v5 v6 v8 := by
  subst e4
  intro n
  induction n with
  | zero => intro j v5 v6 v8 _ h1 h2; exact absurd h2 (by omega)
  | succ n ih =>
    intro j v5 v6 v8 e h1 h3
    subst e
    rw [jt_X2_walk_50]
    refine ⟨fun _ => h9 _ _ _, fun c => ⟨m_s0O h2 _ _, fun _ => ?_, fun _ => ?_⟩⟩
    · have hj : j < b := Nat.lt_of_not_le (fun q => c (nI_le q (by omega)))
      exact ih (j + 1) _ _ _ (nI_1 j) (by omega) (by omega)
    · have hj : j < b := Nat.lt_of_not_le (fun q => c (nI_le q (by omega)))
      exact ih (j + 1) _ _ _ (nI_1 j) (by omega) (by omega)
theorem tm_tell {kn ch kn2 td : Int32} {f g : Nat → Int64} (hI : kInv kn ch f kn2 td g) (th : Int32) (a1 : Int32) (a2 : Int32) (a3 : Int32) (a4 : Int32) (a5 : Int32) : T_X2_tell th g kn2 td a1 a2 a3 a4 a5 := by
  rcases m_clk a1 with ⟨c, hc, rfl, h1, n1⟩ | ⟨h1, n1⟩
  · have hv : vp_in (nI c) 8 = True := eq_true (vp_in_nI hc (by decide))
    simp only [T_X2_tell, T_X2_set, hv, and_self, implies_true, and_true, true_and]
  · simp only [T_X2_tell, n1, m_r1, false_implies, not_false_eq_true, not_true_eq_false, forall_const, m_10, m_00, and_self, implies_true, and_true, true_and]
theorem tm_tellSecond {kn ch kn2 td : Int32} {f g : Nat → Int64} (hI : kInv kn ch f kn2 td g) (th : Int32) (a1 : Int32) (a2 : Int32) : T_X2_tellSecond th g kn2 td a1 a2 := by
  rcases m_clk a1 with ⟨c, hc, rfl, h1, n1⟩ | ⟨h1, n1⟩
  · have hv : vp_in (nI c) 8 = True := eq_true (vp_in_nI hc (by decide))
    simp only [T_X2_tellSecond, T_X2_set, hv, and_self, implies_true, and_true, true_and]
  · simp only [T_X2_tellSecond, n1, m_r1, false_implies, not_false_eq_true, not_true_eq_false, forall_const, m_10, m_00, and_self, implies_true, and_true, true_and]
theorem tm_tellNumber {kn ch kn2 td : Int32} {f g : Nat → Int64} (hI : kInv kn ch f kn2 td g) (th : Int32) (a1 : Int32) (a2 : Int32) (a3 : Int32) : T_X2_tellNumber th g kn2 td a1 a2 a3 := by
  rcases m_clk a1 with ⟨c, hc, rfl, h1, n1⟩ | ⟨h1, n1⟩
  · have hv : vp_in (nI c) 8 = True := eq_true (vp_in_nI hc (by decide))
    simp only [T_X2_tellNumber, T_X2_set, hv, and_self, implies_true, and_true, true_and]
  · simp only [T_X2_tellNumber, n1, m_r1, false_implies, not_false_eq_true, not_true_eq_false, forall_const, m_10, m_00, and_self, implies_true, and_true, true_and]
theorem tm_tellKnown {kn ch kn2 td : Int32} {f g : Nat → Int64} (hI : kInv kn ch f kn2 td g) (th : Int32) (a1 : Int32) (a2 : Int32) : T_X2_tellKnown th g kn2 td a1 a2 := by
  rcases m_clk a1 with ⟨c, hc, rfl, h1, n1⟩ | ⟨h1, n1⟩
  · have hv : vp_in (nI c) 8 = True := eq_true (vp_in_nI hc (by decide))
    simp only [T_X2_tellKnown, T_X2_set, hv, and_self, implies_true, and_true, true_and]
  · simp only [T_X2_tellKnown, n1, m_r1, false_implies, not_false_eq_true, not_true_eq_false, forall_const, m_10, m_00, and_self, implies_true, and_true, true_and]
theorem tm_with {kn ch kn2 td : Int32} {f g : Nat → Int64} (hI : kInv kn ch f kn2 td g) (th : Int32) (a1 : Int32) (a2 : Int32) (a3 : Int32) : T_X2_with th g kn2 td a1 a2 a3 := by
  rcases m_clk a1 with ⟨c, hc, rfl, h1, n1⟩ | ⟨h1, n1⟩
  · have hv : vp_in (nI c) 8 = True := eq_true (vp_in_nI hc (by decide))
    simp only [T_X2_with, T_X2_set, hv, and_self, implies_true, and_true, true_and]
  · simp only [T_X2_with, n1, m_r1, false_implies, not_false_eq_true, not_true_eq_false, forall_const, m_10, m_00, and_self, implies_true, and_true, true_and]
theorem tm_of {kn ch kn2 td : Int32} {f g : Nat → Int64} (hI : kInv kn ch f kn2 td g) (th : Int32) (a1 : Int32) (a2 : Int32) : T_X2_of th g kn2 td a1 a2 := by
  rcases m_clk a1 with ⟨c, hc, rfl, h1, n1⟩ | ⟨h1, n1⟩
  · have hv : vp_in (nI c) 8 = True := eq_true (vp_in_nI hc (by decide))
    simp only [T_X2_of, T_X2_set, hv, and_self, implies_true, and_true, true_and]
  · simp only [T_X2_of, n1, m_r1, false_implies, not_false_eq_true, not_true_eq_false, forall_const, m_10, m_00, and_self, implies_true, and_true, true_and]
theorem tm_number {kn ch kn2 td : Int32} {f g : Nat → Int64} (hI : kInv kn ch f kn2 td g) (th : Int32) (a1 : Int32) : T_X2_number th g kn2 td a1 := by
  rcases m_clk a1 with ⟨c, hc, rfl, h1, n1⟩ | ⟨h1, n1⟩
  · have hv : vp_in (nI c) 8 = True := eq_true (vp_in_nI hc (by decide))
    simp only [T_X2_number, T_X2_set, hv, and_self, implies_true, and_true, true_and]
  · simp only [T_X2_number, n1, m_r1, false_implies, not_false_eq_true, not_true_eq_false, forall_const, m_10, m_00, and_self, implies_true, and_true, true_and]
theorem tm_text {kn ch kn2 td : Int32} {f g : Nat → Int64} (hI : kInv kn ch f kn2 td g) (th : Int32) (a1 : Int32) : T_X2_text th g kn2 td a1 := by
  rcases m_clk a1 with ⟨c, hc, rfl, h1, n1⟩ | ⟨h1, n1⟩
  · have hv : vp_in (nI c) 8 = True := eq_true (vp_in_nI hc (by decide))
    simp only [T_X2_text, T_X2_set, hv, and_self, implies_true, and_true, true_and]
  · simp only [T_X2_text, n1, m_r1, false_implies, not_false_eq_true, not_true_eq_false, forall_const, m_10, m_00, and_self, implies_true, and_true, true_and]
theorem tm_plus {kn ch kn2 td : Int32} {f g : Nat → Int64} (hI : kInv kn ch f kn2 td g) (th : Int32) (a1 : Int32) (a2 : Int32) (a3 : Int32) (a4 : Int32) : T_X2_plus th g kn2 td a1 a2 a3 a4 := by
  rcases m_clk a1 with ⟨c, hc, rfl, h1, n1⟩ | ⟨h1, n1⟩
  · have hv : vp_in (nI c) 8 = True := eq_true (vp_in_nI hc (by decide))
    rcases m_step a2 with ⟨u, hu, rfl, h2, n2⟩ | ⟨h2, n2⟩
    · have hT : ∀ v m : Int64, T_X2_on v (nI u) m = True := fun v m => eq_true (m_Ton hu v m)
      simp only [T_X2_plus, T_X2_set, hv, hT, and_self, implies_true, and_true, true_and]
    · simp only [T_X2_plus, n1, n2, m_r01, false_implies, not_false_eq_true, not_true_eq_false, forall_const, m_10, m_00, and_self, implies_true, and_true, true_and]
  · simp only [T_X2_plus, n1, m_r1, false_implies, not_false_eq_true, not_true_eq_false, forall_const, m_10, m_00, and_self, implies_true, and_true, true_and]
theorem tm_minus {kn ch kn2 td : Int32} {f g : Nat → Int64} (hI : kInv kn ch f kn2 td g) (th : Int32) (a1 : Int32) (a2 : Int32) (a3 : Int32) (a4 : Int32) : T_X2_minus th g kn2 td a1 a2 a3 a4 := by
  rcases m_clk a1 with ⟨c, hc, rfl, h1, n1⟩ | ⟨h1, n1⟩
  · have hv : vp_in (nI c) 8 = True := eq_true (vp_in_nI hc (by decide))
    rcases m_step a2 with ⟨u, hu, rfl, h2, n2⟩ | ⟨h2, n2⟩
    · have hT : ∀ v m : Int64, T_X2_on v (nI u) m = True := fun v m => eq_true (m_Ton hu v m)
      simp only [T_X2_minus, T_X2_set, hv, hT, and_self, implies_true, and_true, true_and]
    · simp only [T_X2_minus, n1, n2, m_r01, false_implies, not_false_eq_true, not_true_eq_false, forall_const, m_10, m_00, and_self, implies_true, and_true, true_and]
  · simp only [T_X2_minus, n1, m_r1, false_implies, not_false_eq_true, not_true_eq_false, forall_const, m_10, m_00, and_self, implies_true, and_true, true_and]
theorem tm_cut {kn ch kn2 td : Int32} {f g : Nat → Int64} (hI : kInv kn ch f kn2 td g) (th : Int32) (a1 : Int32) (a2 : Int32) : T_X2_cut th g kn2 td a1 a2 := by
  rcases m_clk a1 with ⟨c, hc, rfl, h1, n1⟩ | ⟨h1, n1⟩
  · have hv : vp_in (nI c) 8 = True := eq_true (vp_in_nI hc (by decide))
    rcases m_u7 a2 with ⟨u, hu, rfl, h2, n2⟩ | ⟨h2, n2⟩
    · have hT : T_X2_size (nI u) = True := eq_true (tk_size (by omega))
      have hN : (j_X2_size (nI u) = 0) = False := eq_false (q_sizeN u (by omega))
      simp only [T_X2_cut, T_X2_set, hv, hT, hN, n2, not_false_eq_true, m_10, false_implies, and_self, implies_true, and_true, true_and]
    · simp only [T_X2_cut, n1, n2, m_r01, false_implies, not_false_eq_true, not_true_eq_false, forall_const, m_10, m_00, and_self, implies_true, and_true, true_and]
  · simp only [T_X2_cut, n1, m_r1, false_implies, not_false_eq_true, not_true_eq_false, forall_const, m_10, m_00, and_self, implies_true, and_true, true_and]
theorem tm_beyond {kn ch kn2 td : Int32} {f g : Nat → Int64} (hI : kInv kn ch f kn2 td g) (th : Int32) (a1 : Int32) (a2 : Int32) : T_X2_beyond th g kn2 td a1 a2 := by
  rcases m_clk a1 with ⟨c, hc, rfl, h1, n1⟩ | ⟨h1, n1⟩
  · have hv : vp_in (nI c) 8 = True := eq_true (vp_in_nI hc (by decide))
    rcases m_u7 a2 with ⟨u, hu, rfl, h2, n2⟩ | ⟨h2, n2⟩
    · have hT : T_X2_size (nI u) = True := eq_true (tk_size (by omega))
      have hN : (j_X2_size (nI u) = 0) = False := eq_false (q_sizeN u (by omega))
      simp only [T_X2_beyond, T_X2_set, hv, hT, hN, n2, not_false_eq_true, m_10, false_implies, and_self, implies_true, and_true, true_and]
    · simp only [T_X2_beyond, n1, n2, m_r01, false_implies, not_false_eq_true, not_true_eq_false, forall_const, m_10, m_00, and_self, implies_true, and_true, true_and]
  · simp only [T_X2_beyond, n1, m_r1, false_implies, not_false_eq_true, not_true_eq_false, forall_const, m_10, m_00, and_self, implies_true, and_true, true_and]
theorem tm_take {kn ch kn2 td : Int32} {f g : Nat → Int64} (hI : kInv kn ch f kn2 td g) (th : Int32) (a1 : Int32) (a2 : Int32) : T_X2_take th g kn2 td a1 a2 := by
  rcases m_clk a1 with ⟨c, hc, rfl, h1, n1⟩ | ⟨h1, n1⟩
  · have hv : vp_in (nI c) 8 = True := eq_true (vp_in_nI hc (by decide))
    rcases m_clk a2 with ⟨d, hd, rfl, h2, n2⟩ | ⟨h2, n2⟩
    · have hw : vp_in (nI d) 8 = True := eq_true (vp_in_nI hd (by decide))
      simp only [T_X2_take, T_X2_set, hv, hw, and_self, implies_true, and_true, true_and]
    · simp only [T_X2_take, n1, n2, m_r1, false_implies, not_false_eq_true, not_true_eq_false, forall_const, m_10, m_00, and_self, implies_true, and_true, true_and]
  · simp only [T_X2_take, n1, m_r1, false_implies, not_false_eq_true, not_true_eq_false, forall_const, m_10, m_00, and_self, implies_true, and_true, true_and]
theorem tm_compare {kn ch kn2 td : Int32} {f g : Nat → Int64} (hI : kInv kn ch f kn2 td g) (th : Int32) (a1 : Int32) (a2 : Int32) : T_X2_compare th g kn2 td a1 a2 := by
  rcases m_clk a1 with ⟨c, hc, rfl, h1, n1⟩ | ⟨h1, n1⟩
  · have hv : vp_in (nI c) 8 = True := eq_true (vp_in_nI hc (by decide))
    rcases m_clk a2 with ⟨d, hd, rfl, h2, n2⟩ | ⟨h2, n2⟩
    · have hw : vp_in (nI d) 8 = True := eq_true (vp_in_nI hd (by decide))
      simp only [T_X2_compare, hv, hw, and_self, implies_true, and_true, true_and]
    · simp only [T_X2_compare, n1, n2, m_r1, false_implies, not_false_eq_true, not_true_eq_false, forall_const, m_10, m_00, and_self, implies_true, and_true, true_and]
  · simp only [T_X2_compare, n1, m_r1, false_implies, not_false_eq_true, not_true_eq_false, forall_const, m_10, m_00, and_self, implies_true, and_true, true_and]
theorem tm_isAhead {kn ch kn2 td : Int32} {f g : Nat → Int64} (hI : kInv kn ch f kn2 td g) (th : Int32) (a1 : Int32) (a2 : Int32) : T_X2_isAhead th g kn2 td a1 a2 := by
  rcases m_clk a1 with ⟨c, hc, rfl, h1, n1⟩ | ⟨h1, n1⟩
  · have hv : vp_in (nI c) 8 = True := eq_true (vp_in_nI hc (by decide))
    rcases m_clk a2 with ⟨d, hd, rfl, h2, n2⟩ | ⟨h2, n2⟩
    · have hw : vp_in (nI d) 8 = True := eq_true (vp_in_nI hd (by decide))
      simp only [T_X2_isAhead, hv, hw, and_self, implies_true, and_true, true_and]
    · simp only [T_X2_isAhead, n1, n2, m_r1, false_implies, not_false_eq_true, not_true_eq_false, forall_const, m_10, m_00, and_self, implies_true, and_true, true_and]
  · simp only [T_X2_isAhead, n1, m_r1, false_implies, not_false_eq_true, not_true_eq_false, forall_const, m_10, m_00, and_self, implies_true, and_true, true_and]
theorem tm_isBehind {kn ch kn2 td : Int32} {f g : Nat → Int64} (hI : kInv kn ch f kn2 td g) (th : Int32) (a1 : Int32) (a2 : Int32) : T_X2_isBehind th g kn2 td a1 a2 := by
  rcases m_clk a1 with ⟨c, hc, rfl, h1, n1⟩ | ⟨h1, n1⟩
  · have hv : vp_in (nI c) 8 = True := eq_true (vp_in_nI hc (by decide))
    rcases m_clk a2 with ⟨d, hd, rfl, h2, n2⟩ | ⟨h2, n2⟩
    · have hw : vp_in (nI d) 8 = True := eq_true (vp_in_nI hd (by decide))
      simp only [T_X2_isBehind, hv, hw, and_self, implies_true, and_true, true_and]
    · simp only [T_X2_isBehind, n1, n2, m_r1, false_implies, not_false_eq_true, not_true_eq_false, forall_const, m_10, m_00, and_self, implies_true, and_true, true_and]
  · simp only [T_X2_isBehind, n1, m_r1, false_implies, not_false_eq_true, not_true_eq_false, forall_const, m_10, m_00, and_self, implies_true, and_true, true_and]
theorem tm_areAlike {kn ch kn2 td : Int32} {f g : Nat → Int64} (hI : kInv kn ch f kn2 td g) (th : Int32) (a1 : Int32) (a2 : Int32) : T_X2_areAlike th g kn2 td a1 a2 := by
  rcases m_clk a1 with ⟨c, hc, rfl, h1, n1⟩ | ⟨h1, n1⟩
  · have hv : vp_in (nI c) 8 = True := eq_true (vp_in_nI hc (by decide))
    rcases m_clk a2 with ⟨d, hd, rfl, h2, n2⟩ | ⟨h2, n2⟩
    · have hw : vp_in (nI d) 8 = True := eq_true (vp_in_nI hd (by decide))
      simp only [T_X2_areAlike, hv, hw, and_self, implies_true, and_true, true_and]
    · simp only [T_X2_areAlike, n1, n2, m_r1, false_implies, not_false_eq_true, not_true_eq_false, forall_const, m_10, m_00, and_self, implies_true, and_true, true_and]
  · simp only [T_X2_areAlike, n1, m_r1, false_implies, not_false_eq_true, not_true_eq_false, forall_const, m_10, m_00, and_self, implies_true, and_true, true_and]
theorem tm_between {kn ch kn2 td : Int32} {f g : Nat → Int64} (hI : kInv kn ch f kn2 td g) (th : Int32) (a1 : Int32) (a2 : Int32) (a3 : Int32) : T_X2_between th g kn2 td a1 a2 a3 := by
  rcases m_clk a1 with ⟨c, hc, rfl, h1, n1⟩ | ⟨h1, n1⟩
  · rcases m_clk a2 with ⟨d, hd, rfl, h2, n2⟩ | ⟨h2, n2⟩
    · rcases m_u6 a3 with ⟨u, hu, rfl, h3, n3⟩ | ⟨h3, n3⟩
      · have hT : ∀ z : Int32, T_X2_apart z g kn2 td (nI c) (nI d) (nI u) = True := fun z => eq_true (tkm_apart z g kn2 td _ _ _ c d u rfl rfl rfl hc hd (by omega))
        simp only [T_X2_between, hT, and_self, implies_true, and_true, true_and]
      · simp only [T_X2_between, n1, n2, n3, m_r01, false_implies, not_false_eq_true, not_true_eq_false, forall_const, m_10, m_00, and_self, implies_true, and_true, true_and]
    · simp only [T_X2_between, n1, n2, m_r1, false_implies, not_false_eq_true, not_true_eq_false, forall_const, m_10, m_00, and_self, implies_true, and_true, true_and]
  · simp only [T_X2_between, n1, m_r1, false_implies, not_false_eq_true, not_true_eq_false, forall_const, m_10, m_00, and_self, implies_true, and_true, true_and]
theorem tm_kinds {kn ch kn2 td : Int32} {f g : Nat → Int64} (hI : kInv kn ch f kn2 td g) (th : Int32) : T_X2_kinds th g kn2 td := ⟨tkm_unlike 0 g kn2 td, trivial⟩
theorem tm_walk {kn ch kn2 td : Int32} {f g : Nat → Int64} (hI : kInv kn ch f kn2 td g) (th : Int32) (a1 : Int32) (a2 : Int32) (a3 : Int32) (a4 : Int32) : T_X2_walk th g kn2 td a1 a2 a3 a4 := by
  rcases m_clk a1 with ⟨c, hc, rfl, h1, n1⟩ | ⟨h1, n1⟩
  · have hv : vp_in (nI c) 8 = True := eq_true (vp_in_nI hc (by decide))
    rcases m_step a2 with ⟨u, hu, rfl, h2, n2⟩ | ⟨h2, n2⟩
    · rcases m_40 a4 with ⟨b, hb, e4, -, -, n3⟩ | ⟨-, n3⟩
      · simp only [T_X2_walk, T_X2_set, n1, n2, n3, m_r00, hv, false_implies, not_false_eq_true, not_true_eq_false, forall_const, m_10, m_00, and_self, implies_true, and_true, true_and]
        exact m_tw _ _ _ _ _ _ _ _ n2 hb e4 _ (fun _ _ _ => trivial) 100 0 _ _ _ nI_0.symm (by omega) (by omega)
      · simp only [T_X2_walk, n1, n2, n3, m_r01, false_implies, not_false_eq_true, not_true_eq_false, forall_const, m_10, m_00, and_self, implies_true, and_true, true_and]
    · simp only [T_X2_walk, n1, n2, m_r01, false_implies, not_false_eq_true, not_true_eq_false, forall_const, m_10, m_00, and_self, implies_true, and_true, true_and]
  · simp only [T_X2_walk, n1, m_r1, false_implies, not_false_eq_true, not_true_eq_false, forall_const, m_10, m_00, and_self, implies_true, and_true, true_and]
