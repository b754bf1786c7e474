/-! the law's own methods that catch: what they carry, what they leave -/
def kN (U : State) : Prop := va_Nc "java/lang/IllegalArgumentException" "java/lang/IndexOutOfBoundsException" U ∧ va_Nw (.fieldLinkNest RL 13 "ClocksoloLaw$Out" "n" "J" "ClocksoloLaw") U ∧ va_Nw (.fieldLinkNest RL 60 "ClocksoloLaw$Out" "s" "Ljava/lang/String;" "ClocksoloLaw") U
theorem kN.warm {s U : State} (hW : s.WarmedH U.vm) (h : kN s) : kN U := ⟨va_Nc.moved hW.alike h.1, va_Nw.warmF hW h.2.1, va_Nw.warmF hW h.2.2⟩
theorem kN.same {u U : State} (hv : u.vm = U.vm) (h : kN u) : kN U := ⟨va_Nc.moved (by rw [hv]; exact Vm.Alike.refl U.vm) h.1, va_Nw.same rfl hv h.2.1, va_Nw.same rfl hv h.2.2⟩
def kPreN (D : va_G) (cB cJ : ClassId) (A : Nat → Prop) (Hp : Heap) (av : List Value) : Array Value → State → Prop := va_Pc av (fun U => U.heap = Hp ∧ kE D cB cJ A U U.heap ∧ kN U)
theorem kPreN.blind {D : va_G} {cB cJ : ClassId} {A : Nat → Prop} {Hp : Heap} {av : List Value} : FrameBlind (kPreN D cB cJ A Hp av) := fun a U g mk q => ⟨q.1, q.2.1, kE.frame (u := U) (U := U.calling g mk a) rfl rfl q.2.2.1, kN.same (u := U) (U := U.calling g mk a) rfl q.2.2.2⟩
theorem k_preSN {D : va_G} {cB cJ : ClassId} {A B : Nat → Prop} {As : List Value} {s : State} {H : Heap} {locs : List Loc} (hE : kE D cB cJ A s s.heap) (hN : kN s) (hS : va_S A s.heap H locs) (hB : ∀ q, B q → A q) : PreS s H (kPreN D cB cJ B H As) As :=
  ⟨kPreN.blind, fun U hU hW => ⟨rfl, hU, hE.warm hS hB hW hU, kN.warm hW hN⟩⟩
abbrev kNX : String → Heap → Prop := fun _ _ => False
/-- the cell of Out -/
abbrev wO (o : Nat) (vn : Int64) (sr : Value) : va_W := [(o, .inr (3, [.long vn, sr]))]
theorem k_keepP {D : va_G} {cl : List vw_C} {ws : va_W} {H H1 : Heap} (h : va_P D cl ws H) (hk : ∀ q : Nat, q < H.size → H1[q]? = H[q]?) : va_P D cl ws H1 := h.kept (fun k q hq => hk q.1 (h k q hq).lt)
/-- which number a catch answers -/
def k_cd (E : String) : Int32 := if E = "java/lang/IndexOutOfBoundsException" then 1 else 2
def k_c1 (_ : String) : Int32 := 1
/-- what a wrapper of a number leaves -/
def kLw (D : va_G) (x n o : Nat) (cJ : ClassId) (A : Nat → Prop) (cd : String → Int32) (ov : Int32 → Int64) (J : Except String (Int32 × Int32 × Int32 × (Nat → Int64))) (kn ch : Int32) (f : Nat → Int64) (vn : Int64) (sr : Value) : Option Value → Heap → Prop := fun v1 H1 =>
  (∃ r, J = .ok r ∧ v1 = some (.int 0) ∧ va_P D vwCl (wC x n cJ r.2.1 r.2.2.1 r.2.2.2 ++ wO o (ov r.1) sr) H1 ∧ va_D A (wC x n cJ r.2.1 r.2.2.1 r.2.2.2 ++ wO o (ov r.1) sr)) ∨
  (∃ E, J = .error E ∧ v1 = some (.int (cd E)) ∧ va_P D vwCl (wC x n cJ kn ch f ++ wO o vn sr) H1 ∧ va_D A (wC x n cJ kn ch f ++ wO o vn sr))
/-- .. of a text -/
def kLs (D : va_G) (x n o : Nat) (cJ : ClassId) (A : Nat → Prop) (cd : String → Int32) (J : Except String Unit) (kn ch : Int32) (f : Nat → Int64) (vn : Int64) (sr : Value) : Option Value → Heap → Prop := fun v1 H1 =>
  (J = .ok () ∧ v1 = some (.int 0) ∧ ∃ q : Nat, va_P D vwCl (wC x n cJ kn ch f ++ wO o vn (.ref q)) H1 ∧ va_D A (wC x n cJ kn ch f ++ wO o vn (.ref q))) ∨
  (∃ E, J = .error E ∧ v1 = some (.int (cd E)) ∧ va_P D vwCl (wC x n cJ kn ch f ++ wO o vn sr) H1 ∧ va_D A (wC x n cJ kn ch f ++ wO o vn sr))
/-- which exceptions a method's checks may throw -/
def k_Er (a : Bool) (E : String) : Prop := E = "java/lang/IndexOutOfBoundsException" ∨ (a = true ∧ E = "java/lang/IllegalArgumentException")
def k_ErO (a : Bool) (o : Option String) : Prop := ∀ E, o = some E → k_Er a E
def k_ErJ {α : Type} (a : Bool) (J : Except String α) : Prop := ∀ E, J = .error E → k_Er a E
theorem k_ErJ.need {α : Type} {a : Bool} {o : Option String} {r : Except String α} (h1 : k_ErO a o) (h2 : k_ErJ a r) : k_ErJ a (jNeed o r) := fun E h => by
  cases o with
  | none => exact h2 E h
  | some E1 => cases h; exact h1 _ rfl
theorem k_ErJ.ok {α : Type} {a : Bool} {r : α} : k_ErJ a (.ok r) := fun E h => by cases h
theorem k_ErJ.bad {α : Type} : k_ErJ (α := α) true (.error "java/lang/IllegalArgumentException") := fun E h => by cases h; exact Or.inr ⟨rfl, rfl⟩
theorem k_ErJ.ite {α : Type} {a : Bool} {P : Prop} [Decidable P] {r s : Except String α} (h1 : k_ErJ a r) (h2 : k_ErJ a s) : k_ErJ a (if P then r else s) := by split <;> assumption
theorem k_ErO.none {a : Bool} : k_ErO a none := fun E h => by cases h
theorem k_ErO.I {a : Bool} : k_ErO a (some "java/lang/IndexOutOfBoundsException") := fun E h => by cases h; exact Or.inl rfl
theorem k_ErO.A : k_ErO true (some "java/lang/IllegalArgumentException") := fun E h => by cases h; exact Or.inr ⟨rfl, rfl⟩
theorem k_ErO.ite {a : Bool} {P : Prop} [Decidable P] {r s : Option String} (h1 : k_ErO a r) (h2 : k_ErO a s) : k_ErO a (if P then r else s) := by split <;> assumption
theorem k_er_clock (a : Bool) (c : Int32) : k_ErO a (j_X0_needClock c) := by unfold j_X0_needClock; exact k_ErO.ite k_ErO.I (k_ErO.ite k_ErO.none k_ErO.I)
theorem k_er_part (a b : Int32) : k_ErO true (j_X0_needPart a b) := by unfold j_X0_needPart; exact k_ErO.ite k_ErO.A (k_ErO.ite (k_ErO.ite k_ErO.A (k_ErO.ite k_ErO.none k_ErO.A)) k_ErO.A)
theorem k_er_sec (a : Int32) : k_ErO true (j_X0_needSecondOfDay a) := by unfold j_X0_needSecondOfDay; exact k_ErO.ite k_ErO.A (k_ErO.ite k_ErO.none k_ErO.A)
theorem k_er_unit (a b : Int32) : k_ErO true (j_X0_needUnit a b) := by unfold j_X0_needUnit; exact k_ErO.ite k_ErO.A (k_ErO.ite k_ErO.none k_ErO.A)
theorem k_er_step (a : Int32) : k_ErO true (j_X0_needStepUnit a) := by unfold j_X0_needStepUnit; exact k_ErO.ite k_ErO.A k_ErO.none
