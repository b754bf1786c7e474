/-! the class beside the reference: what each call asks of its arguments -/
def kInv (kn ch : Int32) (f : Nat → Int64) (kn2 td : Int32) (g : Nat → Int64) : Prop := kn = kn2 ∧ ch = td ∧ (∀ j : Nat, j < 8 → f j = g j) ∧ kIn f
theorem kInv.inG {kn ch kn2 td : Int32} {f g : Nat → Int64} (h : kInv kn ch f kn2 td g) : kIn g := fun j hj => by
  obtain ⟨k, hk, e⟩ := h.2.2.2 j hj
  exact ⟨k, hk, by rw [← h.2.2.1 j hj, e]⟩
theorem k_cd_ne (E : String) : ¬ k_cd E = 0 := by unfold k_cd; split <;> decide
theorem k_c1_ne (E : String) : ¬ k_c1 E = 0 := by unfold k_c1; decide
theorem q_lw6 {L k : Nat} (hL : L ≤ 3072) (hk : 6 * k ≤ 3072) (h : ¬ Int32.ofNat L - 6 < nI (6 * k)) : 6 * k + 6 ≤ L := by
  have e : (Int32.ofNat L - 6).toInt = (L : Int) - 6 := by
    rw [Int32.toInt_sub, show (Int32.ofNat L).toInt = (L : Int) from nI_toInt (n := L) (by omega), show (6 : Int32).toInt = 6 from rfl]
    exact Int.bmod_eq_of_le (by omega) (by omega)
  rw [Int32.lt_iff_toInt_lt, e, nI_toInt (by omega)] at h
  omega
theorem m_jn {α : Type} {r : Except String α} : jNeed none r = r := rfl
theorem m_js {α : Type} {E : String} {r : Except String α} : jNeed (some E) r = .error E := rfl
theorem m_10 : ((1 : Int32) = 0) = False := eq_false (by decide)
theorem m_00 : ((0 : Int32) = 0) = True := eq_true rfl
theorem m_r00 : j_stR (0 : Int32) (0 : Int32) = 0 := rfl
theorem m_r01 : j_stR (0 : Int32) (1 : Int32) = 1 := rfl
theorem m_r1 (z : Int32) : j_stR (1 : Int32) z = 1 := rfl
theorem m_t00 : j_stT (0 : Int32) (0 : Int32) = 0 := rfl
theorem m_t01 : j_stT (0 : Int32) (1 : Int32) = 2 := rfl
theorem m_t1 (z : Int32) : j_stT (1 : Int32) z = 1 := rfl
theorem m_cdI : k_cd "java/lang/IndexOutOfBoundsException" = 1 := if_pos rfl
theorem m_cdA : k_cd "java/lang/IllegalArgumentException" = 2 := if_neg (by decide)
theorem m_cl {c : Nat} (hc : c < 8) : (nI c).toNatClampNeg = c := nI_clamp (by omega)
/-- a number from 0 on, or none -/
theorem m_in (a : Int32) (M : Nat) (hM : M < 2 ^ 31) : (∃ n, n ≤ M ∧ a = nI n ∧ j_X2_isIn a 0 (nI M) = 1 ∧ ¬ a < 0 ∧ a ≤ nI M) ∨ (j_X2_isIn a 0 (nI M) = 0 ∧ (a < 0 ∨ ¬ a ≤ nI M)) := by
  unfold j_X2_isIn
  by_cases h0 : a < 0
  · exact Or.inr ⟨if_pos h0, Or.inl h0⟩
  obtain ⟨n, hn, rfl⟩ := nI_of h0
  by_cases h1 : n ≤ M
  · refine Or.inl ⟨n, h1, rfl, ?_, h0, nI_le h1 hM⟩
    rw [if_neg h0, if_neg (nI_nlt h1 hM)]
  · refine Or.inr ⟨?_, Or.inr (nI_ge (by omega) hn)⟩
    rw [if_neg h0, if_pos (nI_lt (by omega) hn)]
theorem m_clk (a : Int32) : (∃ c, c < 8 ∧ a = nI c ∧ j_X0_needClock a = none ∧ j_X2_isNone a = 0) ∨ (j_X0_needClock a = some "java/lang/IndexOutOfBoundsException" ∧ j_X2_isNone a = 1) := by
  unfold j_X2_isNone j_X0_needClock
  rcases m_in a 7 (by decide) with ⟨n, hn, rfl, h1, h2, h3⟩ | ⟨h1, h2⟩
  · refine Or.inl ⟨n, by omega, rfl, ?_, ?_⟩
    · rw [if_neg h2, if_pos (show nI n < 8 from nI_lt (b := 8) (by omega) (by decide))]
    · rw [show j_X2_isIn (nI n) 0 7 = 1 from h1, if_neg (by decide)]
  · refine Or.inr ⟨?_, ?_⟩
    · rcases h2 with h2 | h2
      · rw [if_pos h2]
      · by_cases h0 : a < 0
        · rw [if_pos h0]
        · rw [if_neg h0, if_neg (fun h => h2 ?_)]
          obtain ⟨n, hn, rfl⟩ := nI_of h0
          exact nI_le (by have := (nI_ltI hn (by decide)).mp (show nI n < nI 8 from h); omega) (by decide)
    · rw [show j_X2_isIn a 0 7 = 0 from h1, if_pos rfl]
/-- a part's bound -/
theorem m_ltP {a : Int32} (h0 : ¬ a < 0) (M : Nat) (hM : M + 1 < 2 ^ 31) : a < nI (M + 1) ↔ a ≤ nI M := by
  obtain ⟨n, hn, rfl⟩ := nI_of h0
  rw [nI_ltI hn hM, nI_leI hn (by omega)]
  omega
theorem m_part (i M : Nat) (hi : i < 4) (hM : M + 1 < 2 ^ 31) (e : t_PE i = nI (M + 1)) (v : Int32) : (∃ n, n ≤ M ∧ v = nI n ∧ j_X0_needPart (nI i) v = none ∧ j_X2_isIn v 0 (nI M) = 1) ∨ (j_X0_needPart (nI i) v = some "java/lang/IllegalArgumentException" ∧ j_X2_isIn v 0 (nI M) = 0) := by
  have e1 : j_X0_needPart (nI i) v = (if v < 0 then (some "java/lang/IllegalArgumentException") else (if v < nI (M + 1) then none else (some "java/lang/IllegalArgumentException"))) := by
    unfold j_X0_needPart
    rw [if_neg (nI_pos (by omega)), if_pos (show nI i < 4 from nI_lt (b := 4) hi (by decide)), nI_clamp (by omega), e]
  rw [e1]
  rcases m_in v M (by omega) with ⟨n, hn, rfl, h1, h2, h3⟩ | ⟨h1, h2⟩
  · exact Or.inl ⟨n, hn, rfl, by rw [if_neg h2, if_pos ((m_ltP h2 M hM).mpr h3)], h1⟩
  · refine Or.inr ⟨?_, h1⟩
    by_cases h0 : v < 0
    · rw [if_pos h0]
    · rw [if_neg h0, if_neg (fun h => (h2.resolve_left h0) ((m_ltP h0 M hM).mp h))]
theorem m_p0 (v : Int32) : (∃ n, n ≤ 23 ∧ v = nI n ∧ j_X0_needPart 0 v = none ∧ j_X2_isIn v 0 23 = 1) ∨ (j_X0_needPart 0 v = some "java/lang/IllegalArgumentException" ∧ j_X2_isIn v 0 23 = 0) := m_part 0 23 (by decide) (by decide) rfl v
theorem m_p1 (v : Int32) : (∃ n, n ≤ 59 ∧ v = nI n ∧ j_X0_needPart 1 v = none ∧ j_X2_isIn v 0 59 = 1) ∨ (j_X0_needPart 1 v = some "java/lang/IllegalArgumentException" ∧ j_X2_isIn v 0 59 = 0) := m_part 1 59 (by decide) (by decide) rfl v
theorem m_p2 (v : Int32) : (∃ n, n ≤ 59 ∧ v = nI n ∧ j_X0_needPart 2 v = none ∧ j_X2_isIn v 0 59 = 1) ∨ (j_X0_needPart 2 v = some "java/lang/IllegalArgumentException" ∧ j_X2_isIn v 0 59 = 0) := m_part 2 59 (by decide) (by decide) rfl v
theorem m_p3 (v : Int32) : (∃ n, n ≤ 999999999 ∧ v = nI n ∧ j_X0_needPart 3 v = none ∧ j_X2_isIn v 0 999999999 = 1) ∨ (j_X0_needPart 3 v = some "java/lang/IllegalArgumentException" ∧ j_X2_isIn v 0 999999999 = 0) := m_part 3 999999999 (by decide) (by decide) rfl v
theorem m_sec (v : Int32) : (∃ n, n ≤ 86399 ∧ v = nI n ∧ j_X0_needSecondOfDay v = none ∧ j_X2_isIn v 0 86399 = 1) ∨ (j_X0_needSecondOfDay v = some "java/lang/IllegalArgumentException" ∧ j_X2_isIn v 0 86399 = 0) := by
  unfold j_X0_needSecondOfDay
  rcases m_in v 86399 (by decide) with ⟨n, hn, rfl, h1, h2, h3⟩ | ⟨h1, h2⟩
  · exact Or.inl ⟨n, hn, rfl, by rw [if_neg h2, if_pos (show nI n < 86400 from (m_ltP h2 86399 (by decide)).mpr h3)], h1⟩
  · refine Or.inr ⟨?_, h1⟩
    by_cases h0 : v < 0
    · rw [if_pos h0]
    · rw [if_neg h0, if_neg (fun h : v < 86400 => (h2.resolve_left h0) ((m_ltP h0 86399 (by decide)).mp h))]
theorem m_unit (M : Nat) (hM : M < 2 ^ 31) (v : Int32) : (∃ n, n ≤ M ∧ v = nI n ∧ j_X0_needUnit v (nI M) = none ∧ j_X2_isIn v 0 (nI M) = 1) ∨ (j_X0_needUnit v (nI M) = some "java/lang/IllegalArgumentException" ∧ j_X2_isIn v 0 (nI M) = 0) := by
  unfold j_X0_needUnit
  rcases m_in v M hM with ⟨n, hn, rfl, h1, h2, h3⟩ | ⟨h1, h2⟩
  · exact Or.inl ⟨n, hn, rfl, by rw [if_neg h2, if_pos h3], h1⟩
  · refine Or.inr ⟨?_, h1⟩
    by_cases h0 : v < 0
    · rw [if_pos h0]
    · rw [if_neg h0, if_neg (h2.resolve_left h0)]
theorem m_u7 (v : Int32) : (∃ n, n ≤ 7 ∧ v = nI n ∧ j_X0_needUnit v 7 = none ∧ j_X2_isIn v 0 7 = 1) ∨ (j_X0_needUnit v 7 = some "java/lang/IllegalArgumentException" ∧ j_X2_isIn v 0 7 = 0) := m_unit 7 (by decide) v
theorem m_u6 (v : Int32) : (∃ n, n ≤ 6 ∧ v = nI n ∧ j_X0_needUnit v 6 = none ∧ j_X2_isIn v 0 6 = 1) ∨ (j_X0_needUnit v 6 = some "java/lang/IllegalArgumentException" ∧ j_X2_isIn v 0 6 = 0) := m_unit 6 (by decide) v
/-- a unit of a step -/
def m_isU (u : Nat) : Prop := u = 0 ∨ u = 3 ∨ u = 4 ∨ u = 5
theorem m_step (v : Int32) : (∃ u, m_isU u ∧ v = nI u ∧ j_X0_needStepUnit v = none ∧ j_X2_isNoStep v = 0) ∨ (j_X0_needStepUnit v = some "java/lang/IllegalArgumentException" ∧ j_X2_isNoStep v = 1) := by
  unfold j_X0_needStepUnit j_X0_isStepUnit j_X2_isNoStep j_X2_isIn m_isU
  by_cases h0 : v = 0
  · subst h0
    exact Or.inl ⟨0, Or.inl rfl, rfl, by decide, by decide⟩
  rw [if_neg h0, if_neg h0]
  by_cases h3 : v < 3
  · rw [if_pos h3]
    exact Or.inr ⟨rfl, rfl⟩
  rw [if_neg h3]
  by_cases h5 : 5 < v
  · rw [if_pos h5]
    exact Or.inr ⟨rfl, rfl⟩
  rw [if_neg h5]
  have hp : ¬ v < 0 := fun h => h3 (by rw [Int32.lt_iff_toInt_lt] at h ⊢; have : (0 : Int32).toInt = 0 := rfl; have : (3 : Int32).toInt = 3 := rfl; omega)
  obtain ⟨n, hn, rfl⟩ := nI_of hp
  have a1 : ¬ n < 3 := fun h => h3 (nI_lt h (by decide))
  have a2 : ¬ 5 < n := fun h => h5 (nI_lt h hn)
  exact Or.inl ⟨n, by omega, rfl, by decide, by decide⟩
/-! what a step leaves -/
def m_St (J : Except String (Int32 × Int32 × Int32 × (Nat → Int64))) (R : Int32 × Int32 × (Nat → Int64) × Int32 × Int32) (cd : String → Int32) (kn ch : Int32) (f : Nat → Int64) : Prop := (∀ r, J = .ok r → R.2.1 = 0 ∧ R.1 = r.1 ∧ kInv r.2.1 r.2.2.1 r.2.2.2 R.2.2.2.1 R.2.2.2.2 R.2.2.1) ∧ (∀ E, J = .error E → R.2.1 = cd E ∧ kInv kn ch f R.2.2.2.1 R.2.2.2.2 R.2.2.1)
theorem kInv.upd {kn ch kn2 td : Int32} {f g : Nat → Int64} (h : kInv kn ch f kn2 td g) {c k : Nat} (hc : c < 8) (hk : k < 86400000000000) : kInv kn (ch + 1) (vp_updL f c (lN k)) kn2 (td + 1) (vp_updL g c (lN k)) := by
  refine ⟨h.1, by rw [h.2.1], fun j hj => ?_, fun j hj => ?_⟩
  · by_cases e : j = c
    · subst e; rw [pk_uLs, pk_uLs]
    · rw [pk_uLn e, pk_uLn e]; exact h.2.2.1 j hj
  · by_cases e : j = c
    · subst e; exact ⟨k, hk, by rw [pk_uLs]⟩
    · rw [pk_uLn e]; exact h.2.2.2 j hj
theorem m_okM {kn ch kn2 td z : Int32} {f g : Nat → Int64} {J : Except String (Int32 × Int32 × Int32 × (Nat → Int64))} {R : Int32 × Int32 × (Nat → Int64) × Int32 × Int32} {cd : String → Int32} {c k : Nat} (hI : kInv kn ch f kn2 td g) (hc : c < 8) (hk : k < 86400000000000) (hJ : J = .ok (z, kn, ch + 1, vp_updL f c (lN k))) (hR : R = (z, 0, vp_updL g c (lN k), kn2, td + 1)) : m_St J R cd kn ch f := by
  subst hJ hR
  exact ⟨fun r h => by cases h; exact ⟨rfl, rfl, hI.upd hc hk⟩, fun E h => by cases h⟩
theorem m_okR {kn ch kn2 td z : Int32} {f g : Nat → Int64} {J : Except String (Int32 × Int32 × Int32 × (Nat → Int64))} {R : Int32 × Int32 × (Nat → Int64) × Int32 × Int32} {cd : String → Int32} (hI : kInv kn ch f kn2 td g) (hJ : J = .ok (z, kn, ch, f)) (hR : R = (z, 0, g, kn2, td)) : m_St J R cd kn ch f := by
  subst hJ hR
  exact ⟨fun r h => by cases h; exact ⟨rfl, rfl, hI⟩, fun E h => by cases h⟩
theorem m_erM {kn ch kn2 td z : Int32} {f g : Nat → Int64} {E0 : String} {J : Except String (Int32 × Int32 × Int32 × (Nat → Int64))} {R : Int32 × Int32 × (Nat → Int64) × Int32 × Int32} {cd : String → Int32} (hI : kInv kn ch f kn2 td g) (hJ : J = .error E0) (hR : R = (z, cd E0, g, kn2, td)) : m_St J R cd kn ch f := by
  subst hJ hR
  exact ⟨fun r h => (by cases h), fun E h => (by cases h; exact ⟨rfl, hI⟩)⟩
theorem m_set (kn ch : Int32) (f : Nat → Int64) {c : Nat} (hc : c < 8) (v : Int64) : j_X0_settle kn ch f (nI c) v = (j_X2_secondOf v, kn, ch + 1, vp_updL f c v) := by
  have e : j_X0_partOf v 4 = j_X2_secondOf v := by
    unfold j_X0_partOf j_X2_secondOf
    rw [if_neg (by decide), if_neg (by decide), if_neg (by decide), if_neg (by decide)]
  unfold j_X0_settle
  rw [if_neg (nI_pos (by omega)), if_neg (fun h : 8 ≤ nI c => absurd ((nI_leI (by decide) (by omega)).mp (show nI 8 ≤ nI c from h)) (by omega)), m_cl hc, e]
theorem m_eq {kn ch kn2 td : Int32} {f g : Nat → Int64} (hI : kInv kn ch f kn2 td g) {c : Nat} (hc : c < 8) : ∃ k, k < 86400000000000 ∧ f c = lN k ∧ g c = lN k := by
  obtain ⟨k, hk, e⟩ := hI.2.2.2 c hc
  exact ⟨k, hk, e, by rw [← hI.2.2.1 c hc, e]⟩
