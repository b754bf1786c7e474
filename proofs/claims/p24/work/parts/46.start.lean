/-! the start: what the Statement gives of it, as the contracts carry it -/
def s_fl : List Cond := flatC (Jvm.Cond.and given_1 narrow_1)
theorem s_arr {ty : FieldType} {args : Array Value} {s : State} (h : (Cond.arrayClass ty).before args s = true) : ∃ cA, ArrOfT s cA ty ∧ s.vm.findClass ("[" ++ ty.toString) = some cA := by
  obtain ⟨c, k, comp, h1, h2, h3⟩ := Cond.arrayClass_spec h
  exact ⟨c, fun n z => ⟨fun k h => (by cases h), k, h2, comp, h3⟩, h1⟩
theorem s_tabI {C n d : String} {ty : FieldType} {N : Nat} {f : Nat → Int32} {A : Nat → Prop} {args : Array Value} {s : State} (hN : N < 2 ^ 31) (hls : (Cond.laysStatic C n d).before args s = true) (hini : (Cond.initialized C).before args s = true) (hs : ∀ c ∈ s_fl, c.before args s = true) (m1 : Cond.arrayOf (.static C n d) ty ∈ s_fl) (m2 : Cond.eq (.length (.static C n d)) (.int (Int32.ofNat N)) ∈ s_fl) (m3 : ∀ j, j < N → Cond.eq (.elem (.static C n d) (.int (Int32.ofNat j))) (.int (f j)) ∈ s_fl) (hA : ∀ a : Nat, a < s.heap.size → ¬ A a) : kTab C n d ty N (fun j => .int (f j)) A s s.heap := by
  obtain ⟨t, ht, hT⟩ := va_Tof (f := fun j => .int (f j)) (A := A) hN (hs _ m1) (va_eqt (hs _ m2)) (fun j hj => va_eqt (hs _ (m3 j hj))) hA
  exact ⟨t, va_Zof hls hini ht hA, hT⟩
theorem s_tabL {C n d : String} {ty : FieldType} {N : Nat} {f : Nat → Int64} {A : Nat → Prop} {args : Array Value} {s : State} (hN : N < 2 ^ 31) (hls : (Cond.laysStatic C n d).before args s = true) (hini : (Cond.initialized C).before args s = true) (hs : ∀ c ∈ s_fl, c.before args s = true) (m1 : Cond.arrayOf (.static C n d) ty ∈ s_fl) (m2 : Cond.eq (.length (.static C n d)) (.int (Int32.ofNat N)) ∈ s_fl) (m3 : ∀ j, j < N → Cond.eq (.elem (.static C n d) (.int (Int32.ofNat j))) (.long (f j)) ∈ s_fl) (hA : ∀ a : Nat, a < s.heap.size → ¬ A a) : kTab C n d ty N (fun j => .long (f j)) A s s.heap := by
  obtain ⟨t, ht, hT⟩ := va_Tof (f := fun j => .long (f j)) (A := A) hN (hs _ m1) (va_eqt (hs _ m2)) (fun j hj => va_eqtl (hs _ (m3 j hj))) hA
  exact ⟨t, va_Zof hls hini ht hA, hT⟩
theorem s_R {own tx : String} {k : Nat} {args : Array Value} {s : State} (h1 : (Cond.stringRef own k tx).before args s = true) (h2 : (Cond.exactly (.string own k) "java/lang/String").before args s = true) : ∃ a, vk_R own k tx a s := by
  obtain ⟨a, c, cA, kA, q1, -⟩ := Cond.exactly_spec (args := args) (first := s) (o := none) (s := s) (idx := []) (t := .string own k) (cls := "java/lang/String") h2
  exact ⟨a, vk_R.of h1 q1⟩
theorem s_L {own tx : String} {k N : Nat} {bs : List Int32} {A : Nat → Prop} {args : Array Value} {s : State} (hN : bs.length = N) (hN2 : N < 2 ^ 31) (h1 : (Cond.stringRef own k tx).before args s = true) (hs : ∀ c ∈ s_fl, c.before args s = true) (m1 : Cond.exactly (.string own k) "java/lang/String" ∈ s_fl) (m2 : Cond.eq (.field (.string own k) "java/lang/String" "coder" "B") (.int 0) ∈ s_fl) (m3 : Cond.arrayOf (.field (.string own k) "java/lang/String" "value" "[B") .byte ∈ s_fl) (m4 : Cond.eq (.length (.field (.string own k) "java/lang/String" "value" "[B")) (.int (Int32.ofNat N)) ∈ s_fl)
    (m5 : ∀ j, j < N → Cond.eq (.elem (.field (.string own k) "java/lang/String" "value" "[B") (.int (Int32.ofNat j))) (.int (bs.getD j 0)) ∈ s_fl) (hA : ∀ a : Nat, a < s.heap.size → ¬ A a) : ∃ a, vk_R own k tx a s ∧ kRS A s s.heap a bs.length (fun j => bs.getD j 0) := by
  subst hN
  obtain ⟨a, c, cA, kA, q1, q2, q3, q4, q5, q6, -⟩ := Cond.exactly_spec (args := args) (first := s) (o := none) (s := s) (idx := []) (t := .string own k) (cls := "java/lang/String") (hs _ m1)
  obtain ⟨t, ht, hT⟩ := va_Tof (f := fun j => .int (bs.getD j 0)) (A := A) hN2 (hs _ m3) (va_eqt (hs _ m4)) (fun j hj => va_eqt (hs _ (m5 j hj))) hA
  exact ⟨a, vk_R.of h1 q1, ⟨cA, q3, q5, by rw [q6]; exact q2, hA a (Array.getElem?_eq_some_iff.mp q3).1⟩, vk_OFof q1 (va_eqt (hs _ m2)) hA, t, vk_OFof q1 ht hA, hT⟩
theorem s_K {s : State} {args : Array Value} (hts : ∀ w ∈ lw_tbl, w.before args s = true) : ∃ (D : va_G) (cB cJ : ClassId), va_K D vwCl [(cB, .byte), (cJ, .long)] s := by
  have hts2 := lw_tbl2_ok hts
  obtain ⟨c0, i0, hK0⟩ := u_known (C := RJ0) (T := TJ0) (N := 4) (n := 4) hts2 inJ0 (hts (.instantiable RJ0 4) (by decide +kernel))
  obtain ⟨c1, i1, hK1⟩ := u_known (C := RJ4) (T := TJ4) (N := 4) (n := 4) hts2 inJ4 (hts (.instantiable RJ4 4) (by decide +kernel))
  obtain ⟨c2, i2, hK2⟩ := u_known (C := RX0) (T := TX0) (N := 3) (n := 3) hts2 inX0 (hts (.instantiable RX0 3) (by decide +kernel))
  obtain ⟨c3, i3, hK3⟩ := u_known (C := RX1) (T := TX1) (N := 2) (n := 2) hts2 inX1 (hts (.instantiable RX1 2) (by decide +kernel))
  obtain ⟨c4, i4, hK4⟩ := u_known (C := RX2) (T := TX2) (N := 4) (n := 4) hts2 inX2 (hts (.instantiable RX2 4) (by decide +kernel))
  obtain ⟨cB, aB, fB⟩ := s_arr (ty := .byte) (hts (.arrayClass .byte) (by decide +kernel))
  obtain ⟨cJ, aJ, fJ⟩ := s_arr (ty := .long) (hts (.arrayClass .long) (by decide +kernel))
  refine ⟨(fun k => if k = 0 then c0 else if k = 1 then c1 else if k = 2 then c2 else if k = 3 then c3 else c4, fun k => if k = 0 then i0 else if k = 1 then i1 else if k = 2 then i2 else if k = 3 then i3 else i4), cB, cJ, ?_, ?_⟩
  · intro k q hq
    match k, hq with
    | 0, hq => cases hq; exact hK0
    | 1, hq => cases hq; exact hK1
    | 2, hq => cases hq; exact hK2
    | 3, hq => cases hq; exact hK3
    | 4, hq => cases hq; exact hK4
    | k + 5, hq => simp [vwCl] at hq
  · intro k q hq
    match k, hq with
    | 0, hq => cases hq; exact ⟨aB, fB⟩
    | 1, hq => cases hq; exact ⟨aJ, fJ⟩
    | k + 2, hq => simp at hq
theorem s_d1_0 : ∀ j, j < 25 → s_fl[12 + (0 + j)]? = some (Cond.eq (.elem (.static "java/lang/Integer" "DigitOnes" "[B") (.int (Int32.ofNat (0 + j)))) (.int (t_D1 (0 + j))) : Cond) := by decide +kernel
theorem s_d1_1 : ∀ j, j < 25 → s_fl[12 + (25 + j)]? = some (Cond.eq (.elem (.static "java/lang/Integer" "DigitOnes" "[B") (.int (Int32.ofNat (25 + j)))) (.int (t_D1 (25 + j))) : Cond) := by decide +kernel
theorem s_d1_2 : ∀ j, j < 25 → s_fl[12 + (50 + j)]? = some (Cond.eq (.elem (.static "java/lang/Integer" "DigitOnes" "[B") (.int (Int32.ofNat (50 + j)))) (.int (t_D1 (50 + j))) : Cond) := by decide +kernel
theorem s_d1_3 : ∀ j, j < 25 → s_fl[12 + (75 + j)]? = some (Cond.eq (.elem (.static "java/lang/Integer" "DigitOnes" "[B") (.int (Int32.ofNat (75 + j)))) (.int (t_D1 (75 + j))) : Cond) := by decide +kernel
theorem s_d1 : ∀ j, j < 100 → Cond.eq (.elem (.static "java/lang/Integer" "DigitOnes" "[B") (.int (Int32.ofNat j))) (.int (t_D1 j)) ∈ s_fl := by
  intro j hj
  rcases (show j < 25 ∨ (25 ≤ j ∧ j < 50) ∨ (50 ≤ j ∧ j < 75) ∨ (75 ≤ j ∧ j < 100) by omega) with h | h | h | h
  · have h9 := s_d1_0 (j - 0) (by omega)
    rw [show 0 + (j - 0) = j by omega] at h9
    exact List.mem_of_getElem? h9
  · have h9 := s_d1_1 (j - 25) (by omega)
    rw [show 25 + (j - 25) = j by omega] at h9
    exact List.mem_of_getElem? h9
  · have h9 := s_d1_2 (j - 50) (by omega)
    rw [show 50 + (j - 50) = j by omega] at h9
    exact List.mem_of_getElem? h9
  · have h9 := s_d1_3 (j - 75) (by omega)
    rw [show 75 + (j - 75) = j by omega] at h9
    exact List.mem_of_getElem? h9
theorem s_d2_0 : ∀ j, j < 25 → s_fl[115 + (0 + j)]? = some (Cond.eq (.elem (.static "java/lang/Integer" "DigitTens" "[B") (.int (Int32.ofNat (0 + j)))) (.int (t_D2 (0 + j))) : Cond) := by decide +kernel
theorem s_d2_1 : ∀ j, j < 25 → s_fl[115 + (25 + j)]? = some (Cond.eq (.elem (.static "java/lang/Integer" "DigitTens" "[B") (.int (Int32.ofNat (25 + j)))) (.int (t_D2 (25 + j))) : Cond) := by decide +kernel
theorem s_d2_2 : ∀ j, j < 25 → s_fl[115 + (50 + j)]? = some (Cond.eq (.elem (.static "java/lang/Integer" "DigitTens" "[B") (.int (Int32.ofNat (50 + j)))) (.int (t_D2 (50 + j))) : Cond) := by decide +kernel
theorem s_d2_3 : ∀ j, j < 25 → s_fl[115 + (75 + j)]? = some (Cond.eq (.elem (.static "java/lang/Integer" "DigitTens" "[B") (.int (Int32.ofNat (75 + j)))) (.int (t_D2 (75 + j))) : Cond) := by decide +kernel
theorem s_d2 : ∀ j, j < 100 → Cond.eq (.elem (.static "java/lang/Integer" "DigitTens" "[B") (.int (Int32.ofNat j))) (.int (t_D2 j)) ∈ s_fl := by
  intro j hj
  rcases (show j < 25 ∨ (25 ≤ j ∧ j < 50) ∨ (50 ≤ j ∧ j < 75) ∨ (75 ≤ j ∧ j < 100) by omega) with h | h | h | h
  · have h9 := s_d2_0 (j - 0) (by omega)
    rw [show 0 + (j - 0) = j by omega] at h9
    exact List.mem_of_getElem? h9
  · have h9 := s_d2_1 (j - 25) (by omega)
    rw [show 25 + (j - 25) = j by omega] at h9
    exact List.mem_of_getElem? h9
  · have h9 := s_d2_2 (j - 50) (by omega)
    rw [show 50 + (j - 50) = j by omega] at h9
    exact List.mem_of_getElem? h9
  · have h9 := s_d2_3 (j - 75) (by omega)
    rw [show 75 + (j - 75) = j by omega] at h9
    exact List.mem_of_getElem? h9
theorem s_T {s : State} {args : Array Value} {A : Nat → Prop} (hts : ∀ w ∈ lw_tbl, w.before args s = true) (hs : ∀ c ∈ s_fl, c.before args s = true) (hA : ∀ a : Nat, a < s.heap.size → ¬ A a) : kT A s s.heap :=
  ⟨va_Zof (hts (.laysStatic "java/lang/String" "COMPACT_STRINGS" "Z") (by decide +kernel)) (hts (.initialized "java/lang/String") (by decide +kernel)) (va_eqt (hs (.eq (.static "java/lang/String" "COMPACT_STRINGS" "Z") (.int 1)) (by decide +kernel))) hA,
   s_tabI (f := t_PE) (by decide) (hts _ (by decide +kernel)) (hts _ (by decide +kernel)) hs (by decide +kernel) (by decide +kernel) (by decide +kernel) hA,
   s_tabI (f := t_TA) (by decide) (hts _ (by decide +kernel)) (hts _ (by decide +kernel)) hs (by decide +kernel) (by decide +kernel) (by decide +kernel) hA,
   s_tabL (f := t_UN) (by decide) (hts _ (by decide +kernel)) (hts _ (by decide +kernel)) hs (by decide +kernel) (by decide +kernel) (by decide +kernel) hA,
   s_tabL (f := t_KN) (by decide) (hts _ (by decide +kernel)) (hts _ (by decide +kernel)) hs (by decide +kernel) (by decide +kernel) (by decide +kernel) hA,
   s_tabL (f := t_PN) (by decide) (hts _ (by decide +kernel)) (hts _ (by decide +kernel)) hs (by decide +kernel) (by decide +kernel) (by decide +kernel) hA,
   s_tabI (f := t_D1) (by decide) (hts _ (by decide +kernel)) (hts _ (by decide +kernel)) hs (by decide +kernel) (by decide +kernel) s_d1 hA,
   s_tabI (f := t_D2) (by decide) (hts _ (by decide +kernel)) (hts _ (by decide +kernel)) hs (by decide +kernel) (by decide +kernel) s_d2 hA,
   vx_Zqof (hts _ (by decide +kernel)) (hts _ (by decide +kernel)) (hs _ (by decide +kernel)) hA,
   vx_Zqof (hts _ (by decide +kernel)) (hts _ (by decide +kernel)) (hs _ (by decide +kernel)) hA⟩
theorem s_S {s : State} {args : Array Value} (hts : ∀ w ∈ lw_tbl, w.before args s = true) (hs : ∀ c ∈ s_fl, c.before args s = true) : ∃ k, kS k s := by
  have h : ∀ i : Nat, ∃ a : Nat, ∀ q : Nat × String, ([(164, "no such clock"), (171, "no such part"), (178, "no such unit"), (176, "second is not 0 to 86399"), (173, "this part can't be that"), (69, "times is not 0 to 40"), (183, "unit is not 0 or 3 to 5"), (114, "what is not 0 or 1"), (78, "what is not 0 to 4"), (54, "which is not 0 to 2")] : List (Nat × String))[i]? = some q → vk_R RX0 q.1 q.2 a s := by
    intro i
    match i with
    | 0 =>
      obtain ⟨a, h⟩ := s_R (own := RX0) (k := 164) (tx := "no such clock") (hts _ (by decide +kernel)) (hs _ (by decide +kernel))
      exact ⟨a, fun q hq => by cases hq; exact h⟩
    | 1 =>
      obtain ⟨a, h⟩ := s_R (own := RX0) (k := 171) (tx := "no such part") (hts _ (by decide +kernel)) (hs _ (by decide +kernel))
      exact ⟨a, fun q hq => by cases hq; exact h⟩
    | 2 =>
      obtain ⟨a, h⟩ := s_R (own := RX0) (k := 178) (tx := "no such unit") (hts _ (by decide +kernel)) (hs _ (by decide +kernel))
      exact ⟨a, fun q hq => by cases hq; exact h⟩
    | 3 =>
      obtain ⟨a, h⟩ := s_R (own := RX0) (k := 176) (tx := "second is not 0 to 86399") (hts _ (by decide +kernel)) (hs _ (by decide +kernel))
      exact ⟨a, fun q hq => by cases hq; exact h⟩
    | 4 =>
      obtain ⟨a, h⟩ := s_R (own := RX0) (k := 173) (tx := "this part can't be that") (hts _ (by decide +kernel)) (hs _ (by decide +kernel))
      exact ⟨a, fun q hq => by cases hq; exact h⟩
    | 5 =>
      obtain ⟨a, h⟩ := s_R (own := RX0) (k := 69) (tx := "times is not 0 to 40") (hts _ (by decide +kernel)) (hs _ (by decide +kernel))
      exact ⟨a, fun q hq => by cases hq; exact h⟩
    | 6 =>
      obtain ⟨a, h⟩ := s_R (own := RX0) (k := 183) (tx := "unit is not 0 or 3 to 5") (hts _ (by decide +kernel)) (hs _ (by decide +kernel))
      exact ⟨a, fun q hq => by cases hq; exact h⟩
    | 7 =>
      obtain ⟨a, h⟩ := s_R (own := RX0) (k := 114) (tx := "what is not 0 or 1") (hts _ (by decide +kernel)) (hs _ (by decide +kernel))
      exact ⟨a, fun q hq => by cases hq; exact h⟩
    | 8 =>
      obtain ⟨a, h⟩ := s_R (own := RX0) (k := 78) (tx := "what is not 0 to 4") (hts _ (by decide +kernel)) (hs _ (by decide +kernel))
      exact ⟨a, fun q hq => by cases hq; exact h⟩
    | 9 =>
      obtain ⟨a, h⟩ := s_R (own := RX0) (k := 54) (tx := "which is not 0 to 2") (hts _ (by decide +kernel)) (hs _ (by decide +kernel))
      exact ⟨a, fun q hq => by cases hq; exact h⟩
    | i + 10 => exact ⟨0, fun q hq => by simp at hq⟩
  obtain ⟨k, hk⟩ := Classical.axiomOfChoice h
  exact ⟨k, hk⟩
theorem s_C {s : State} {args : Array Value} (hts : ∀ w ∈ lw_tbl, w.before args s = true) : kC s :=
  ⟨va_Nw.of rfl (hts _ (by decide +kernel)), va_Nw.of rfl (hts _ (by decide +kernel)), va_Nw.of rfl (hts _ (by decide +kernel)), va_Nw.of rfl (hts _ (by decide +kernel)), va_Nw.of rfl (hts _ (by decide +kernel)), va_Nw.of rfl (hts _ (by decide +kernel))⟩
theorem s_Ls {s : State} {args : Array Value} {A : Nat → Prop} (hts : ∀ w ∈ lw_tbl, w.before args s = true) (hs : ∀ c ∈ s_fl, c.before args s = true) (hA : ∀ a : Nat, a < s.heap.size → ¬ A a) : ∃ k, kL k A s s.heap := by
  have h : ∀ i : Nat, ∃ a : Nat, ∀ q : Nat × String × List Int32, t_MS[i]? = some q → vk_R RX2 q.1 q.2.1 a s ∧ kRS A s s.heap a q.2.2.length (fun j => q.2.2.getD j 0) := by
    intro i
    match i with
    | 0 =>
      obtain ⟨a, h⟩ := s_L (own := RX2) (k := 77) (tx := "") (bs := []) (A := A) rfl (by decide) (hts _ (by decide +kernel)) hs (by decide +kernel) (by decide +kernel) (by decide +kernel) (by decide +kernel) (by decide +kernel) hA
      exact ⟨a, fun q hq => by cases hq; exact h⟩
    | 1 =>
      obtain ⟨a, h⟩ := s_L (own := RX2) (k := 108) (tx := " ") (bs := [32]) (A := A) rfl (by decide) (hts _ (by decide +kernel)) hs (by decide +kernel) (by decide +kernel) (by decide +kernel) (by decide +kernel) (by decide +kernel) hA
      exact ⟨a, fun q hq => by cases hq; exact h⟩
    | 2 =>
      obtain ⟨a, h⟩ := s_L (own := RX2) (k := 98) (tx := ".") (bs := [46]) (A := A) rfl (by decide) (hts _ (by decide +kernel)) hs (by decide +kernel) (by decide +kernel) (by decide +kernel) (by decide +kernel) (by decide +kernel) hA
      exact ⟨a, fun q hq => by cases hq; exact h⟩
    | 3 =>
      obtain ⟨a, h⟩ := s_L (own := RX2) (k := 96) (tx := ":") (bs := [58]) (A := A) rfl (by decide) (hts _ (by decide +kernel)) hs (by decide +kernel) (by decide +kernel) (by decide +kernel) (by decide +kernel) (by decide +kernel) hA
      exact ⟨a, fun q hq => by cases hq; exact h⟩
    | i + 4 => exact ⟨0, fun q hq => by simp [t_MS] at hq⟩
  obtain ⟨k, hk⟩ := Classical.axiomOfChoice h
  exact ⟨k, hk⟩
theorem s_E {s : State} {args : Array Value} (hts : ∀ w ∈ lw_tbl, w.before args s = true) (hg : (Jvm.Cond.and given_1 narrow_1).before args s = true) : ∃ (D : va_G) (cB cJ : ClassId), kE D cB cJ (fun q : Nat => s.heap.size ≤ q) s s.heap := by
  have hs : ∀ c ∈ s_fl, c.before args s = true := flat_of_before _ hg
  have hA : ∀ a : Nat, a < s.heap.size → ¬ (fun q : Nat => s.heap.size ≤ q) a := fun a h => Nat.not_le.mpr h
  obtain ⟨D, cB, cJ, hK⟩ := s_K hts
  exact ⟨D, cB, cJ, hK, s_T hts hs hA, s_S hts hs, s_C hts, s_Ls hts hs hA, va_Zqof (hts _ (by decide +kernel)) (hts _ (by decide +kernel)) (hs _ (by decide +kernel)) hA⟩
theorem s_N {s : State} {args : Array Value} (hts : ∀ w ∈ lw_tbl, w.before args s = true) (hg : (Jvm.Cond.and given_1 narrow_1).before args s = true) : kN s :=
  ⟨va_Nc.of (flat_of_before _ hg (.not (.castable "java/lang/IllegalArgumentException" "java/lang/IndexOutOfBoundsException")) (by decide +kernel)), va_Nw.of rfl (hts _ (by decide +kernel)), va_Nw.of rfl (hts _ (by decide +kernel))⟩
