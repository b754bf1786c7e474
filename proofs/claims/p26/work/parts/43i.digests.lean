/-! both digests are one -/
theorem d_clkL {k : Nat} (hk : k < 86400000000000) (a0 : Int64) (k9 : Int64 → Int32 → Int64) (d0 : Int64) : ∀ (d j u : Nat) (v : Int64), j + d = 5 → d < u → v = q_it (fun w d => j_X2_add d ((j_X2_part (lN k) (nI w)).toInt64)) j d0 → jl_X0_digestClock_6 a0 (lN k) k9 u v (nI j) = k9 (q_it (fun w d => j_X2_add d ((j_X2_part (lN k) (nI w)).toInt64)) 5 d0) (nI 5) := by
  intro d
  induction d with
  | zero =>
    intro j u v e hu hv
    obtain ⟨u, rfl⟩ : ∃ z, u = z + 1 := ⟨u - 1, by omega⟩
    obtain rfl : j = 5 := by omega
    rw [jl_X0_digestClock_6, if_pos (show (4 : Int32) < nI 5 by decide), hv]
  | succ d ih =>
    intro j u v e hu hv
    obtain ⟨u, rfl⟩ : ∃ z, u = z + 1 := ⟨u - 1, by omega⟩
    rw [jl_X0_digestClock_6, if_neg (show ¬ (4 : Int32) < nI j from nI_nlt (a := 4) (b := j) (by omega) (by decide)), nI_1, q_partX hk, ← q_partM hk (nI j)]
    exact ih (j + 1) u _ (by omega) (by omega) (q_itS (st := fun w d => j_X2_add d ((j_X2_part (lN k) (nI w)).toInt64)) (k := j) hv)
theorem d_clk {k : Nat} (hk : k < 86400000000000) (d : Int64) : j_X0_digestClock d (lN k) = j_X2_add (q_it (fun w d => j_X2_add d ((j_X2_part (lN k) (nI w)).toInt64)) 5 d) (lN k) := d_clkL hk d (fun v _ => (v * 31) + lN k) d 5 0 100 d rfl (by decide) rfl
theorem d_prL {a b : Nat} (k9 : Int64 → Int32 → Int64) (a0 d0 : Int64) : ∀ (d j u : Nat) (v : Int64), j + d = 7 → d < u → v = q_it (fun w d => j_X2_add d ((lN b - lN a) / j_X2_size (nI w))) j d0 → jl_X0_digestPair_18 a0 (lN a) (lN b) k9 u v (nI j) = k9 (q_it (fun w d => j_X2_add d ((lN b - lN a) / j_X2_size (nI w))) 7 d0) (nI 7) := by
  intro d
  induction d with
  | zero =>
    intro j u v e hu hv
    obtain ⟨u, rfl⟩ : ∃ z, u = z + 1 := ⟨u - 1, by omega⟩
    obtain rfl : j = 7 := by omega
    rw [jl_X0_digestPair_18, if_pos (show (7 : Int32) ≤ nI 7 by decide), hv]
  | succ d ih =>
    intro j u v e hu hv
    obtain ⟨u, rfl⟩ : ∃ z, u = z + 1 := ⟨u - 1, by omega⟩
    obtain ⟨z, hz0, hz, ez⟩ := m_usz j (by omega)
    rw [jl_X0_digestPair_18, if_neg (show ¬ (7 : Int32) ≤ nI j from nI_ge (a := j) (b := 7) (by omega) (by decide)), v_ub (by omega) hz0 hz ez, ← ez, nI_1]
    exact ih (j + 1) u _ (by omega) (by omega) (q_itS (st := fun w d => j_X2_add d ((lN b - lN a) / j_X2_size (nI w))) (k := j) hv)
theorem d_side {a b : Nat} (ha : a < 2 ^ 62) (hb : b < 2 ^ 62) : j_X0_sideOf (lN a) (lN b) = j_X2_order (lN a) (lN b) := by
  rw [v_side ha hb]
  unfold j_X2_order
  by_cases h : a < b
  · rw [if_pos h, if_neg (fun z : lN b ≤ lN a => absurd ((pk_lLE (by omega) (by omega)).mp z) (by omega))]
  · rw [if_neg h, if_pos (show lN b ≤ lN a from (pk_lLE (by omega) (by omega)).mpr (by omega))]
    by_cases h2 : b < a
    · rw [if_pos h2, if_neg (fun z : lN a ≤ lN b => absurd ((pk_lLE (by omega) (by omega)).mp z) (by omega))]
    · rw [if_neg h2, if_pos (show lN a ≤ lN b from (pk_lLE (by omega) (by omega)).mpr (by omega))]
theorem d_pr {a b : Nat} (ha : a < 86400000000000) (hb : b < 86400000000000) (d : Int64) : j_X0_digestPair d (lN a) (lN b) = q_it (fun w d => j_X2_add d ((lN b - lN a) / j_X2_size (nI w))) 7 (j_X2_add d ((j_X2_order (lN a) (lN b)).toInt64)) := by
  unfold j_X0_digestPair
  rw [d_side (by omega) (by omega)]
  exact d_prL (fun v _ => v) d (j_X2_add d ((j_X2_order (lN a) (lN b)).toInt64)) 7 0 100 _ rfl (by decide) rfl
theorem o_ahC {f g : Nat → Int64} (h : ∀ j, j < 8 → f j = g j) {c : Nat} (hc : c < 8) : ∀ o, o ≤ 8 → o_ah f c o = o_ah g c o := by
  intro o
  induction o with
  | zero => intro _; rfl
  | succ o ih =>
    intro ho
    unfold o_ah o_lt
    rw [ih (by omega), h c hc, h o (by omega)]
theorem o_LC {f g : Nat → Int64} (h : ∀ j, j < 8 → f j = g j) (i : Nat) : o_L f i = o_L g i := by
  have e : ∀ c, c < 8 → o_rk f c = o_rk g c := fun c hc => o_ahC h hc 8 (Nat.le_refl _)
  unfold o_L o_at
  rw [e 0 (by decide), e 1 (by decide), e 2 (by decide), e 3 (by decide), e 4 (by decide), e 5 (by decide), e 6 (by decide)]
theorem st_digestV {kn ch kn2 td : Int32} {f g : Nat → Int64} (hI : kInv kn ch f kn2 td g) : jv_X0_digest kn ch f = jv_X2_digest g kn2 td := by
  obtain ⟨rfl, rfl, hfg, hF⟩ := hI
  have hk9 : ∀ k, k < 8 → ∃ z, z < 86400000000000 ∧ j_X0_numberOf kn ch f (nI k) = lN z ∧ g (nI k).toNatClampNeg = lN z := fun k hk => by
    obtain ⟨z, hz, ez⟩ := hF k hk
    exact ⟨z, hz, by rw [q_numC kn ch f hk, ez], by rw [nI_clamp (by omega), ← hfg k hk, ez]⟩
  obtain ⟨z0, hz0, e0, g0⟩ := hk9 0 (by decide)
  have eK : (j_X0_kinds kn ch f) = j_X2_unlike 0 g kn ch := m_kindsL (th := 0) hfg 8 0 100 100 0 rfl (by decide) (by decide)
  have eS : j_X0_isSound kn ch f = 1 := v_snd hF kn ch
  unfold jv_X0_digest jv_X2_digest
  rw [eS, eK, if_neg (show ¬ (1 : Int32) = 0 by decide)]
  rw [q_itC (st := fun k d => j_X0_digestClock d (j_X0_numberOf kn ch f (nI k))) (st' := fun k d => j_X2_add (q_it (fun w d => j_X2_add d ((j_X2_part (g (nI k).toNatClampNeg) (nI w)).toInt64)) 5 d) (g (nI k).toNatClampNeg)) 8 (fun k hk d => by
    obtain ⟨z, hz, e1, e2⟩ := hk9 k hk
    rw [e1, e2, d_clk hz])]
  rw [q_itC (st := fun k d => j_X0_digestPair d (j_X0_numberOf kn ch f 0) (j_X0_numberOf kn ch f (nI k))) (st' := fun k d => q_it (fun w d => j_X2_add d (j_X2_apart 0 g kn ch 0 (nI k) (nI w))) 7 (j_X2_add d ((j_X2_order (g (0 : Int32).toNatClampNeg) (g (nI k).toNatClampNeg)).toInt64))) 8 (fun k hk d => by
    obtain ⟨z, hz, e1, e2⟩ := hk9 k hk
    have e0' : j_X0_numberOf kn ch f 0 = lN z0 := e0
    have g0' : g (0 : Int32).toNatClampNeg = lN z0 := g0
    unfold j_X2_apart
    rw [e1, e2, e0', g0', d_pr hz0 hz])]
  rw [q_itC (st := fun k d => (d * 31) + (q_chr (o_L f k)).toInt64) (st' := fun k d => j_X2_add d (q_chr (o_L g k)).toInt64) 15 (fun k hk d => by rw [o_LC hfg k]; rfl)]
  rfl
