theorem k_er_X0_tell (kn ch : Int32) (f : Nat → Int64) (a1 : Int32) (a2 : Int32) (a3 : Int32) (a4 : Int32) (a5 : Int32) : k_ErJ true (j_X0_tell kn ch f a1 a2 a3 a4 a5) := by
  unfold j_X0_tell
  repeat' (first | with_reducible exact k_ErJ.ok | with_reducible exact k_ErJ.bad | with_reducible refine k_ErJ.need ?_ ?_ | with_reducible refine k_ErJ.ite ?_ ?_ | with_reducible exact k_er_clock _ _ | with_reducible exact k_er_part _ _ | with_reducible exact k_er_sec _ | with_reducible exact k_er_unit _ _ | with_reducible exact k_er_step _)
theorem k_er_X0_tellSecond (kn ch : Int32) (f : Nat → Int64) (a1 : Int32) (a2 : Int32) : k_ErJ true (j_X0_tellSecond kn ch f a1 a2) := by
  unfold j_X0_tellSecond
  repeat' (first | with_reducible exact k_ErJ.ok | with_reducible exact k_ErJ.bad | with_reducible refine k_ErJ.need ?_ ?_ | with_reducible refine k_ErJ.ite ?_ ?_ | with_reducible exact k_er_clock _ _ | with_reducible exact k_er_part _ _ | with_reducible exact k_er_sec _ | with_reducible exact k_er_unit _ _ | with_reducible exact k_er_step _)
theorem k_er_X0_tellNumber (kn ch : Int32) (f : Nat → Int64) (a1 : Int32) (a2 : Int32) (a3 : Int32) : k_ErJ true (j_X0_tellNumber kn ch f a1 a2 a3) := by
  unfold j_X0_tellNumber
  repeat' (first | with_reducible exact k_ErJ.ok | with_reducible exact k_ErJ.bad | with_reducible refine k_ErJ.need ?_ ?_ | with_reducible refine k_ErJ.ite ?_ ?_ | with_reducible exact k_er_clock _ _ | with_reducible exact k_er_part _ _ | with_reducible exact k_er_sec _ | with_reducible exact k_er_unit _ _ | with_reducible exact k_er_step _)
theorem k_er_X0_tellKnown (kn ch : Int32) (f : Nat → Int64) (a1 : Int32) (a2 : Int32) : k_ErJ true (j_X0_tellKnown kn ch f a1 a2) := by
  unfold j_X0_tellKnown
  repeat' (first | with_reducible exact k_ErJ.ok | with_reducible exact k_ErJ.bad | with_reducible refine k_ErJ.need ?_ ?_ | with_reducible refine k_ErJ.ite ?_ ?_ | with_reducible exact k_er_clock _ _ | with_reducible exact k_er_part _ _ | with_reducible exact k_er_sec _ | with_reducible exact k_er_unit _ _ | with_reducible exact k_er_step _)
theorem k_er_X0_take (kn ch : Int32) (f : Nat → Int64) (a1 : Int32) (a2 : Int32) : k_ErJ false (j_X0_take kn ch f a1 a2) := by
  unfold j_X0_take
  repeat' (first | with_reducible exact k_ErJ.ok | with_reducible exact k_ErJ.bad | with_reducible refine k_ErJ.need ?_ ?_ | with_reducible refine k_ErJ.ite ?_ ?_ | with_reducible exact k_er_clock _ _ | with_reducible exact k_er_part _ _ | with_reducible exact k_er_sec _ | with_reducible exact k_er_unit _ _ | with_reducible exact k_er_step _)
theorem k_er_X0_with (kn ch : Int32) (f : Nat → Int64) (a1 : Int32) (a2 : Int32) (a3 : Int32) : k_ErJ true (j_X0_with kn ch f a1 a2 a3) := by
  unfold j_X0_with
  repeat' (first | with_reducible exact k_ErJ.ok | with_reducible exact k_ErJ.bad | with_reducible refine k_ErJ.need ?_ ?_ | with_reducible refine k_ErJ.ite ?_ ?_ | with_reducible exact k_er_clock _ _ | with_reducible exact k_er_part _ _ | with_reducible exact k_er_sec _ | with_reducible exact k_er_unit _ _ | with_reducible exact k_er_step _)
theorem k_er_X0_plus (kn ch : Int32) (f : Nat → Int64) (a1 : Int32) (a2 : Int32) (a3 : Int32) (a4 : Int32) : k_ErJ true (j_X0_plus kn ch f a1 a2 a3 a4) := by
  unfold j_X0_plus
  repeat' (first | with_reducible exact k_ErJ.ok | with_reducible exact k_ErJ.bad | with_reducible refine k_ErJ.need ?_ ?_ | with_reducible refine k_ErJ.ite ?_ ?_ | with_reducible exact k_er_clock _ _ | with_reducible exact k_er_part _ _ | with_reducible exact k_er_sec _ | with_reducible exact k_er_unit _ _ | with_reducible exact k_er_step _)
theorem k_er_X0_minus (kn ch : Int32) (f : Nat → Int64) (a1 : Int32) (a2 : Int32) (a3 : Int32) (a4 : Int32) : k_ErJ true (j_X0_minus kn ch f a1 a2 a3 a4) := by
  unfold j_X0_minus
  repeat' (first | with_reducible exact k_ErJ.ok | with_reducible exact k_ErJ.bad | with_reducible refine k_ErJ.need ?_ ?_ | with_reducible refine k_ErJ.ite ?_ ?_ | with_reducible exact k_er_clock _ _ | with_reducible exact k_er_part _ _ | with_reducible exact k_er_sec _ | with_reducible exact k_er_unit _ _ | with_reducible exact k_er_step _)
theorem k_er_walkl (kn ch : Int32) (f : Nat → Int64) (a1 a2 a3 a4 : Int32) (k9 : Int64 → Int32 → Int32 → Except String (Int32 × Int32 × Int32 × (Nat → Int64))) (h9 : ∀ v1 v2 v3, k_ErJ true (k9 v1 v2 v3)) (b : Nat) (hb : b ≤ 40) (e : a4 = nI b) : ∀ (u j : Nat) (v1 : Int64) (v2 v3 : Int32), v3 = nI j → j ≤ b → b < u + j → k_ErJ true (jl_X0_walk_43 kn ch f a1 a2 a3 a4 k9 u v1 v2 v3) := by
  subst e
  intro u
  induction u with
  | zero => intro j v1 v2 v3 _ h1 h2; exact absurd h2 (by omega)
  | succ u ih =>
    intro j v1 v2 v3 e h1 h2
    subst e
    rw [jl_X0_walk_43]
    by_cases c : nI b ≤ nI j
    · rw [if_pos c]; exact h9 _ _ _
    · rw [if_neg c]
      have hj : j < b := Nat.lt_of_not_le (fun q => c (nI_le q (by omega)))
      exact k_ErJ.ite (ih (j + 1) _ _ _ (nI_1 j) (by omega) (by omega)) (ih (j + 1) _ _ _ (nI_1 j) (by omega) (by omega))
theorem k_er_X0_walk (kn ch : Int32) (f : Nat → Int64) (a1 a2 a3 a4 : Int32) : k_ErJ true (j_X0_walk kn ch f a1 a2 a3 a4) := by
  unfold j_X0_walk
  refine k_ErJ.need (k_er_clock _ _) (k_ErJ.need (k_er_step _) ?_)
  by_cases h0 : a4 < 0
  · rw [if_pos h0]; exact k_ErJ.bad
  · rw [if_neg h0]
    by_cases h1 : a4 ≤ 40
    · rw [if_pos h1]
      obtain ⟨b, hb, e⟩ := nI_of2 (M := 40) (n := 40) (by decide) h0 h1
      exact k_er_walkl _ _ _ _ _ _ _ _ (fun _ _ _ => k_ErJ.ok) b hb e 100 0 _ _ _ nI_0.symm (by omega) (by omega)
    · rw [if_neg h1]; exact k_ErJ.bad
theorem k_er_X0_cut (kn ch : Int32) (f : Nat → Int64) (a1 : Int32) (a2 : Int32) : k_ErJ true (j_X0_cut kn ch f a1 a2) := by
  unfold j_X0_cut
  repeat' (first | with_reducible exact k_ErJ.ok | with_reducible exact k_ErJ.bad | with_reducible refine k_ErJ.need ?_ ?_ | with_reducible refine k_ErJ.ite ?_ ?_ | with_reducible exact k_er_clock _ _ | with_reducible exact k_er_part _ _ | with_reducible exact k_er_sec _ | with_reducible exact k_er_unit _ _ | with_reducible exact k_er_step _)
theorem k_er_X0_of (kn ch : Int32) (f : Nat → Int64) (a1 : Int32) (a2 : Int32) : k_ErJ true (j_X0_of kn ch f a1 a2) := by
  unfold j_X0_of
  repeat' (first | with_reducible exact k_ErJ.ok | with_reducible exact k_ErJ.bad | with_reducible refine k_ErJ.need ?_ ?_ | with_reducible refine k_ErJ.ite ?_ ?_ | with_reducible exact k_er_clock _ _ | with_reducible exact k_er_part _ _ | with_reducible exact k_er_sec _ | with_reducible exact k_er_unit _ _ | with_reducible exact k_er_step _)
theorem k_er_X0_number (a1 : Int32) : k_ErJ false (j_X0_number a1) := by
  unfold j_X0_number
  repeat' (first | with_reducible exact k_ErJ.ok | with_reducible exact k_ErJ.bad | with_reducible refine k_ErJ.need ?_ ?_ | with_reducible refine k_ErJ.ite ?_ ?_ | with_reducible exact k_er_clock _ _ | with_reducible exact k_er_part _ _ | with_reducible exact k_er_sec _ | with_reducible exact k_er_unit _ _ | with_reducible exact k_er_step _)
theorem k_er_X0_text (a1 : Int32) : k_ErJ false (j_X0_text a1) := by
  unfold j_X0_text
  repeat' (first | with_reducible exact k_ErJ.ok | with_reducible exact k_ErJ.bad | with_reducible refine k_ErJ.need ?_ ?_ | with_reducible refine k_ErJ.ite ?_ ?_ | with_reducible exact k_er_clock _ _ | with_reducible exact k_er_part _ _ | with_reducible exact k_er_sec _ | with_reducible exact k_er_unit _ _ | with_reducible exact k_er_step _)
theorem k_er_X0_beyond (a1 : Int32) (a2 : Int32) : k_ErJ true (j_X0_beyond a1 a2) := by
  unfold j_X0_beyond
  repeat' (first | with_reducible exact k_ErJ.ok | with_reducible exact k_ErJ.bad | with_reducible refine k_ErJ.need ?_ ?_ | with_reducible refine k_ErJ.ite ?_ ?_ | with_reducible exact k_er_clock _ _ | with_reducible exact k_er_part _ _ | with_reducible exact k_er_sec _ | with_reducible exact k_er_unit _ _ | with_reducible exact k_er_step _)
theorem k_er_X0_compare (kn ch : Int32) (f : Nat → Int64) (a1 : Int32) (a2 : Int32) : k_ErJ false (j_X0_compare kn ch f a1 a2) := by
  unfold j_X0_compare
  repeat' (first | with_reducible exact k_ErJ.ok | with_reducible exact k_ErJ.bad | with_reducible refine k_ErJ.need ?_ ?_ | with_reducible refine k_ErJ.ite ?_ ?_ | with_reducible exact k_er_clock _ _ | with_reducible exact k_er_part _ _ | with_reducible exact k_er_sec _ | with_reducible exact k_er_unit _ _ | with_reducible exact k_er_step _)
theorem k_er_X0_isAhead (kn ch : Int32) (f : Nat → Int64) (a1 : Int32) (a2 : Int32) : k_ErJ false (j_X0_isAhead kn ch f a1 a2) := by
  unfold j_X0_isAhead
  repeat' (first | with_reducible exact k_ErJ.ok | with_reducible exact k_ErJ.bad | with_reducible refine k_ErJ.need ?_ ?_ | with_reducible refine k_ErJ.ite ?_ ?_ | with_reducible exact k_er_clock _ _ | with_reducible exact k_er_part _ _ | with_reducible exact k_er_sec _ | with_reducible exact k_er_unit _ _ | with_reducible exact k_er_step _)
theorem k_er_X0_isBehind (kn ch : Int32) (f : Nat → Int64) (a1 : Int32) (a2 : Int32) : k_ErJ false (j_X0_isBehind kn ch f a1 a2) := by
  unfold j_X0_isBehind
  repeat' (first | with_reducible exact k_ErJ.ok | with_reducible exact k_ErJ.bad | with_reducible refine k_ErJ.need ?_ ?_ | with_reducible refine k_ErJ.ite ?_ ?_ | with_reducible exact k_er_clock _ _ | with_reducible exact k_er_part _ _ | with_reducible exact k_er_sec _ | with_reducible exact k_er_unit _ _ | with_reducible exact k_er_step _)
theorem k_er_X0_areAlike (kn ch : Int32) (f : Nat → Int64) (a1 : Int32) (a2 : Int32) : k_ErJ false (j_X0_areAlike kn ch f a1 a2) := by
  unfold j_X0_areAlike
  repeat' (first | with_reducible exact k_ErJ.ok | with_reducible exact k_ErJ.bad | with_reducible refine k_ErJ.need ?_ ?_ | with_reducible refine k_ErJ.ite ?_ ?_ | with_reducible exact k_er_clock _ _ | with_reducible exact k_er_part _ _ | with_reducible exact k_er_sec _ | with_reducible exact k_er_unit _ _ | with_reducible exact k_er_step _)
theorem k_er_X0_between (a1 : Int32) (a2 : Int32) (a3 : Int32) : k_ErJ true (j_X0_between a1 a2 a3) := by
  unfold j_X0_between
  repeat' (first | with_reducible exact k_ErJ.ok | with_reducible exact k_ErJ.bad | with_reducible refine k_ErJ.need ?_ ?_ | with_reducible refine k_ErJ.ite ?_ ?_ | with_reducible exact k_er_clock _ _ | with_reducible exact k_er_part _ _ | with_reducible exact k_er_sec _ | with_reducible exact k_er_unit _ _ | with_reducible exact k_er_step _)
theorem k_er_X0_house (kn ch : Int32) (f : Nat → Int64) (a1 : Int32) : ∀ E, j_X0_house kn ch f a1 = .error E → E = "java/lang/IllegalArgumentException" := by
  intro E h
  unfold j_X0_house at h
  repeat' split at h
  all_goals first | (cases h; rfl) | cases h
