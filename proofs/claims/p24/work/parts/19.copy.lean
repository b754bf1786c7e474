theorem q_newLen (x y z : Nat) (hx : x ≤ 1000) (hy : y ≤ 1000) (hz : z ≤ 1000) (h0 : 0 < z) : T_J8_newLength_cabcc (nI x) (nI y) (nI z) ∧ j_J8_newLength_cabcc (nI x) (nI y) (nI z) = nI (x + (if y < z then z else y)) := by
  have e : nI x + (if nI y < nI z then nI z else nI y) = nI (x + (if y < z then z else y)) := by
    by_cases h : y < z
    · rw [if_pos h, if_pos (nI_lt h (by omega)), nI_add]
    · rw [if_neg h, if_neg (nI_nlt (by omega) (by omega)), nI_add]
  have hb : 0 < x + (if y < z then z else y) ∧ x + (if y < z then z else y) ≤ 2000 := by split <;> omega
  have c1 : ¬ nI (x + (if y < z then z else y)) ≤ 0 := nI_nle hb.1 (by omega)
  have c2 : ¬ (2147483639 : Int32) < nI (x + (if y < z then z else y)) := show ¬ nI 2147483639 < _ from nI_nlt (by omega) (by decide)
  refine ⟨?_, ?_⟩
  · unfold T_J8_newLength_cabcc
    rw [e]
    exact ⟨fun h => absurd h c1, fun _ => ⟨fun h => absurd h c2, fun _ => trivial⟩⟩
  · unfold j_J8_newLength_cabcc
    rw [e, if_neg c1, if_neg c2]
/-- the capacity that a builder takes -/
def q_cap (cp k : Nat) : Nat := cp + (if k - cp < cp + 2 then cp + 2 else k - cp)
theorem q_cap_le {cp k : Nat} (h : cp < k) (hk : k ≤ 60) : k ≤ q_cap cp k ∧ q_cap cp k ≤ 130 ∧ cp ≤ q_cap cp k := by
  unfold q_cap
  split <;> omega
theorem q_newCap (nn cp : Nat) (ar : Nat → Int32) (k : Nat) (h : cp < k) (hk : k ≤ 60) : T_J5_newCapacity_0f7a4 nn cp ar (nI k) ∧ j_J5_newCapacity_0f7a4 nn cp ar (nI k) = nI (q_cap cp k) := by
  have e1 : (nI k <<< ((0 : Int32) &&& 31)) - nI cp = nI (k - cp) := by rw [sb_shl0]; exact pk_sub (by omega)
  have e2 : nI cp + ((2 : Int32) <<< ((0 : Int32) &&& 31)) = nI (cp + 2) := by rw [sb_shl0]; exact nI_add cp 2
  obtain ⟨t, j⟩ := q_newLen cp (k - cp) (cp + 2) (by omega) (by omega) (by omega) (by omega)
  have hc := q_cap_le h hk
  have j' : j_J8_newLength_cabcc (nI cp) (nI (k - cp)) (nI (cp + 2)) = nI (q_cap cp k) := j
  have c1 : ¬ nI (q_cap cp k) = 2147483647 := fun z => by
    have := (nI_eq (by omega) (by decide)).mp (show nI (q_cap cp k) = nI 2147483647 from z)
    omega
  refine ⟨?_, ?_⟩
  · unfold T_J5_newCapacity_0f7a4
    rw [e1, e2, j']
    exact ⟨t, fun z => absurd z c1, fun _ => trivial⟩
  · unfold j_J5_newCapacity_0f7a4
    rw [e1, e2, j', if_neg c1, sb_shr0]
theorem q_min (cp q : Nat) (h1 : cp ≤ 1000) (h2 : q ≤ 1000) : (if nI q < nI cp then nI q else nI cp) = nI (if q < cp then q else cp) := by
  by_cases h : q < cp
  · rw [if_pos h, if_pos (nI_lt h (by omega))]
  · rw [if_neg h, if_neg (nI_nlt (by omega) (by omega))]
/-- a method that hands back a new row of bytes: q of them, that fit -/
def kRow (D : va_G) (cB : ClassId) (A : Nat → Prop) (q : Nat) : Option Value → Heap → Prop := fun v1 H1 => ∃ (u : Nat) (f : Nat → Int32), v1 = some (.ref u) ∧ va_P D vwCl [(u, .inl (cB, q, .inl f))] H1 ∧ va_D A [(u, .inl (cB, q, .inl f))] ∧ sb_Fit f
def sbE (D : va_G) (cB : ClassId) (A : Nat → Prop) (b nn k : Nat) : Option Value → Heap → Prop := fun v1 H1 => v1 = none ∧ ∃ (v m : Nat) (a : Nat → Int32), va_P D vwCl (wSB b v cB nn m a) H1 ∧ va_D A (wSB b v cB nn m a) ∧ sb_Fit a ∧ nn ≤ m ∧ k ≤ m ∧ m ≤ 130
def sbR (D : va_G) (cB : ClassId) (A : Nat → Prop) (b n : Nat) : Option Value → Heap → Prop := fun v1 H1 => v1 = some (.ref b) ∧ sbO D cB A b n H1
theorem k_fitN (x : Int32) : fits .byte (.int (vp_nar .byte x)) = true := by rw [vp_nar_byte]; exact pk_fb x
/-- the row v is still there, and fits; an int is answered -/
def kFit (D : va_G) (cB : ClassId) (A : Nat → Prop) (v cp : Nat) : Option Value → Heap → Prop := fun v1 H1 => (∃ r : Int32, v1 = some (.int r)) ∧ ∃ f : Nat → Int32, va_P D vwCl [(v, .inl (cB, cp, .inl f))] H1 ∧ va_D A [(v, .inl (cB, cp, .inl f))] ∧ sb_Fit f
