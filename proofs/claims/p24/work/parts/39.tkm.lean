/-! the reference's own loops end; its divisors aren't 0 -/
theorem tks_28 (a0 : Int32) (t9 : Int64 → Int32 → Prop) (h9 : ∀ v1 v3, t9 v1 v3) (b : Nat) (hb : b < 8) (e0 : a0 = nI b) : ∀ (n k : Nat) (v1 : Int64) (v3 : Int32), v3 = nI k → k ≤ 8 → 0 < n → b < n + k → jt_X2_size_28 a0 t9 n v1 v3 := by
  intro n
  induction n with
  | zero => intro k v1 v3 _ _ h; exact absurd h (by decide)
  | succ n ih =>
    intro k v1 v3 e h1 h2 h3
    subst e
    subst e0
    rw [jt_X2_size_28]
    refine ⟨fun _ => h9 _ _, fun hc => ?_⟩
    have hk : k < b := Nat.lt_of_not_le (fun q => hc (nI_le q (by omega)))
    have I : ∀ v, jt_X2_size_28 (nI b) t9 n v (nI k + 1) := fun v => ih (k + 1) v _ (nI_1 k) (by omega) (by omega) (by omega)
    exact ⟨fun _ => ⟨fun _ => I _, fun _ => I _⟩, fun _ => I _⟩
theorem tks_4 (a0 : Int32) (t9 : Int64 → Int32 → Prop) (h9 : ∀ v1 v3, t9 v1 v3) : ∀ (n k : Nat) (v1 : Int64) (v3 : Int32), v3 = nI k → k ≤ 3 → 3 < n + k → jt_X2_size_4 a0 t9 n v1 v3 := by
  intro n
  induction n with
  | zero => intro k v1 v3 _ h1 h; exact absurd h (by omega)
  | succ n ih =>
    intro k v1 v3 e h1 h2
    subst e
    rw [jt_X2_size_4]
    refine ⟨fun _ => h9 _ _, fun _ => ⟨fun _ => h9 _ _, fun hc => ?_⟩⟩
    have hk : k < 3 := Nat.lt_of_not_le (fun q => hc (nI_le q (by omega)))
    exact ih (k + 1) _ _ (nI_1 k) (by omega) (by omega)
theorem tk_size {b : Nat} (hb : b < 8) : T_X2_size (nI b) := tks_4 _ _ (fun v1 _ => tks_28 _ _ (fun _ _ => trivial) b hb rfl 100 3 v1 _ rfl (by decide) (by decide) (by omega)) 100 0 1 _ nI_0.symm (by decide) (by decide)
theorem q_size : ∀ b, b < 8 → j_X2_size (nI b) = t_UN b := by decide +kernel
theorem q_sizeN : ∀ b, b < 8 → ¬ j_X2_size (nI b) = 0 := by decide +kernel
theorem tkm_apart (th : Int32) (g : Nat → Int64) (kn2 td : Int32) (a1 a2 a3 : Int32) (a b u : Nat) (e1 : a1 = nI a) (e2 : a2 = nI b) (e3 : a3 = nI u) (ha : a < 8) (hb : b < 8) (hu : u < 8) : T_X2_apart th g kn2 td a1 a2 a3 := by
  subst e1 e2 e3
  exact ⟨vp_in_nI hb (by decide), vp_in_nI ha (by decide), tk_size hu, q_sizeN u hu, trivial⟩
theorem tku_15 (th : Int32) (g : Nat → Int64) (kn2 td w1 w2 : Int32) (b : Nat) (hb : b < 8) (e0 : w2 = nI b) (t9 : Int32 → Int32 → Prop) (h9 : ∀ v3 v4, t9 v3 v4) : ∀ (n k : Nat) (v3 v4 : Int32), v4 = nI k → k ≤ b → b < n + k → jt_X2_unlike_15 th g kn2 td w1 w2 t9 n v3 v4 := by
  intro n
  induction n with
  | zero => intro k v3 v4 _ h1 h2; exact absurd h2 (by omega)
  | succ n ih =>
    intro k v3 v4 e h1 h2
    subst e
    subst e0
    rw [jt_X2_unlike_15]
    refine ⟨fun _ => h9 _ _, fun hc => ?_⟩
    have hk : k < b := Nat.lt_of_not_le (fun q => hc (nI_le q (by omega)))
    exact ⟨vp_in_nI (by omega) (by decide), vp_in_nI hb (by decide), fun _ => ih (k + 1) _ _ (nI_1 k) (by omega) (by omega), fun _ => ih (k + 1) _ _ (nI_1 k) (by omega) (by omega)⟩
theorem tku_4 (th : Int32) (g : Nat → Int64) (kn2 td : Int32) (t9 : Int32 → Int32 → Prop) (h9 : ∀ v1 v2, t9 v1 v2) : ∀ (n k : Nat) (v1 v2 : Int32), v2 = nI k → k ≤ 8 → 8 < n + k → jt_X2_unlike_4 th g kn2 td t9 n v1 v2 := by
  intro n
  induction n with
  | zero => intro k v1 v2 _ h1 h2; exact absurd h2 (by omega)
  | succ n ih =>
    intro k v1 v2 e h1 h2
    subst e
    rw [jt_X2_unlike_4]
    refine ⟨fun _ => h9 _ _, fun hc => ?_⟩
    have hk : k < 8 := Nat.lt_of_not_le (fun q => hc (nI_le q (by omega)))
    exact tku_15 th g kn2 td _ _ k hk rfl _ (fun _ _ => ⟨fun _ => ih (k + 1) _ _ (nI_1 k) (by omega) (by omega), fun _ => ih (k + 1) _ _ (nI_1 k) (by omega) (by omega)⟩) 100 0 _ _ nI_0.symm (by omega) (by omega)
theorem tkm_unlike (th : Int32) (g : Nat → Int64) (kn2 td : Int32) : T_X2_unlike th g kn2 td := tku_4 th g kn2 td _ (fun _ _ => trivial) 100 0 _ _ nI_0.symm (by decide) (by decide)
