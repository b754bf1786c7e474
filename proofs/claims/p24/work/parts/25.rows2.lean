/-- a new row of n bytes beside the old one -/
def kRow2 (D : va_G) (cB : ClassId) (A : Nat → Prop) (v cp n : Nat) (ar : Nat → Int32) : Option Value → Heap → Prop := fun v1 H1 => ∃ (u : Nat) (f : Nat → Int32), v1 = some (.ref u) ∧ va_P D vwCl [(v, .inl (cB, cp, .inl ar)), (u, .inl (cB, n, .inl f))] H1 ∧ va_D A [(v, .inl (cB, cp, .inl ar)), (u, .inl (cB, n, .inl f))] ∧ sb_Fit f
theorem k_fitR {cB : ClassId} {cp : Nat} {ar : Nat → Int32} (hf : sb_Fit ar) : ∀ (i : Nat) (v : Value), (vp_cell cB (cp, .inl ar)).slots[i]? = some v → fits .byte v = true := by
  intro i v h
  have hi : i < cp := by
    have := (Array.getElem?_eq_some_iff.mp h).1
    have e : (vp_cell cB (cp, .inl ar)).slots.size = cp := arrV_size _ _ _
    omega
  have e : (vp_cell cB (cp, .inl ar)).slots[i]? = some (.int (ar i)) := arrV_read _ _ hi
  rw [e] at h
  cases h
  exact hf i
