abbrev wSB (b v : Nat) (cB : ClassId) (n m : Nat) (a : Nat → Int32) : va_W := [(b, .inr (1, [.ref v, .int 0, .int 0, .int (nI n)])), (v, .inl (cB, m, .inl a))]
/-- a builder at b with n letters: its bytes fit, its row is not too long -/
def sbO (D : va_G) (cB : ClassId) (A : Nat → Prop) (b n : Nat) (H : Heap) : Prop := ∃ (v m : Nat) (a : Nat → Int32), va_P D vwCl (wSB b v cB n m a) H ∧ va_D A (wSB b v cB n m a) ∧ sb_Fit a ∧ n ≤ m ∧ m ≤ 130
section KU
variable {p : Program} {l : Launch} {e : Env} {R : Room} {s : State} {m : MethodId} {args : Array Value} {below : List Frame} {meth : Method} {c : Code} {H : Heap} {locs : List Loc} {cells slots : Nat} {Q : State → Prop}
variable {pc : Nat} {ls : Array Slot} {rest st0 : List Value} {cc : ByteArray}
theorem k_pU {D : va_G} {cB cJ : ClassId} {A : Nat → Prop} {x y : MethodName} {bytes : ByteArray} {maxL nL n index : Nat} {ret : Option FieldType} {ws : List Cond} {rm : Room} {Ts : List Cond} {own C owner : String} {r : Option Value} {b : Addr} (As : List Value)
    (S : CallFix p m c cc nL s args Ts own) (hM : kM l D cB cJ y ws rm kF H (.ref b :: As) (kP r H) 0 0) (cw : va_CU R s args own C owner index x y bytes maxL ret ws rm 0 0 n) (hr : ∃ cellB : Cell, H[b]? = some cellB ∧ cellB.vm.isStatics = false ∧ s.vm.findClass C = some cellB.cls) (hE : kE D cB cJ A s s.heap) (hS : va_S A s.heap H locs)
    (hst : st0 = As.reverse ++ .ref b :: rest) (hn : As.length = n) (hsize : ls.size = nL) (hroom : (rest.map fun v => v.category).sum ≤ 8) (hdg : decode cc pc = .ok (.invokevirtual index, 3)) (hf : cells ≤ R.cells ∧ slots ≤ R.slots)
    (kk : ∀ (locs1 : List Loc), va_S A s.heap H locs1 → W p l e R s m args below meth c H locs1 cells slots Q (F0 m (pc + 3) ls (r.toList ++ rest))) : W p l e R s m args below meth c H locs cells slots Q (F0 m pc ls st0) := by
  refine k_go (va_runU (As := As) (rest := rest) S hM cw (k_preV hE hS (fun _ h => h.elim) hr) rfl hn hsize hst (lv_room hroom) hdg ⟨hf.1, hf.2⟩) hS (fun q _ h => h.elim) (fun q h => h.elim) (fun v H1 locs1 hp _ _ hS1 => ?_)
  obtain ⟨rfl, rfl⟩ := hp
  exact kk locs1 hS1
theorem k_pSU {D : va_G} {cB cJ : ClassId} {A : Nat → Prop} {y : MethodName} {bytes : ByteArray} {maxL nL n index : Nat} {ret : Option FieldType} {ws : List Cond} {rm : Room} {Ts : List Cond} {own C : String} {cC : ClassId} {r : Option Value} {b : Addr} (As : List Value)
    (S : CallFix p m c cc nL s args Ts own) (hM : kM l D cB cJ y ws rm kF H (.ref b :: As) (kP r H) 0 0) (cw : va_CS R s args own index y bytes maxL ret ws rm 0 0 n) (hr : ∃ cellB : Cell, H[b]? = some cellB ∧ cellB.vm.isStatics = false ∧ s.vm.findClass C = some cellB.cls) (hat : ClassAt s C cC) (hE : kE D cB cJ A s s.heap) (hS : va_S A s.heap H locs)
    (hst : st0 = As.reverse ++ .ref b :: rest) (hn : As.length = n) (hsize : ls.size = nL) (hroom : (rest.map fun v => v.category).sum ≤ 8) (hdg : decode cc pc = .ok (.invokespecial index, 3)) (hf : cells ≤ R.cells ∧ slots ≤ R.slots)
    (kk : ∀ (locs1 : List Loc), va_S A s.heap H locs1 → W p l e R s m args below meth c H locs1 cells slots Q (F0 m (pc + 3) ls (r.toList ++ rest))) : W p l e R s m args below meth c H locs cells slots Q (F0 m pc ls st0) := by
  refine k_go (va_runSU (As := As) (rest := rest) hat S hM cw (k_preV hE hS (fun _ h => h.elim) hr) rfl hn hsize hst (lv_room hroom) hdg ⟨hf.1, hf.2⟩) hS (fun q _ h => h.elim) (fun q h => h.elim) (fun v H1 locs1 hp _ _ hS1 => ?_)
  obtain ⟨rfl, rfl⟩ := hp
  exact kk locs1 hS1
/-- a new byte array -/
theorem k_newB {D : va_G} {cB cJ : ClassId} {A : Nat → Prop} {ws : va_W} {H0 : Heap} (hx : p.tables.exec = Jvm.exec) (hb : c.code = cc) (harr : (Cond.arrayClass .byte).before args s = true) (hK : va_K D vwCl [(cB, .byte), (cJ, .long)] s) (hP : va_P D vwCl ws H) (hD : va_D A ws) (hS : va_S A H0 H locs) (hA : ∀ q, H0.size ≤ q → A q)
    {i : Int32} (N : Nat) (hi : ¬ i < 0) (hN : i.toNatClampNeg = N) (hsm : N ≤ 536870912) (hcells : cells + 1 ≤ R.cells) (hslots : slots + N ≤ R.slots) (hdg : decode cc pc = .ok (.newarray .byte, 2))
    (kk : ∀ (q : Nat) (H1 : Heap), va_P D vwCl (ws ++ [(q, .inl (cB, N, .inl (fun _ => 0)))]) H1 → va_D A (ws ++ [(q, .inl (cB, N, .inl (fun _ => 0)))]) → va_S A H0 H1 locs → W p l e R s m args below meth c H1 locs (cells + 1) (slots + N) Q (F0 m (pc + 2) ls (.ref q :: rest))) : W p l e R s m args below meth c H locs cells slots Q (F0 m pc ls (.int i :: rest)) := by
  refine va_newa (atype := .byte) (a0 := (N, .inl (fun _ => 0))) hx hb harr rfl hK hP hD hS hA (fun _ => rfl) hi hN (by show N * 1 ≤ _; omega) hcells hslots hdg (fun q cA H1 hK1 hP1 hD1 hS1 => ?_)
  have e1 : s.vm.findClass ("[" ++ (FieldType.byte).toString) = some cB := (hK.2 0 _ rfl).2
  have e2 : s.vm.findClass ("[" ++ (FieldType.byte).toString) = some cA := (hK1.2 2 _ rfl).2
  obtain rfl : cB = cA := Option.some.inj (e1.symm.trans e2)
  exact kk q H1 hP1 hD1 hS1
/-- a new long array -/
theorem k_newJ {D : va_G} {cB cJ : ClassId} {A : Nat → Prop} {ws : va_W} {H0 : Heap} (hx : p.tables.exec = Jvm.exec) (hb : c.code = cc) (harr : (Cond.arrayClass .long).before args s = true) (hK : va_K D vwCl [(cB, .byte), (cJ, .long)] s) (hP : va_P D vwCl ws H) (hD : va_D A ws) (hS : va_S A H0 H locs) (hA : ∀ q, H0.size ≤ q → A q)
    {i : Int32} (N : Nat) (hi : ¬ i < 0) (hN : i.toNatClampNeg = N) (hsm : N ≤ 1000) (hcells : cells + 1 ≤ R.cells) (hslots : slots + N ≤ R.slots) (hdg : decode cc pc = .ok (.newarray .long, 2))
    (kk : ∀ (q : Nat) (H1 : Heap), va_P D vwCl (ws ++ [(q, .inl (cJ, N, .inr (.inl (fun _ => 0))))]) H1 → va_D A (ws ++ [(q, .inl (cJ, N, .inr (.inl (fun _ => 0))))]) → va_S A H0 H1 locs → W p l e R s m args below meth c H1 locs (cells + 1) (slots + N) Q (F0 m (pc + 2) ls (.ref q :: rest))) : W p l e R s m args below meth c H locs cells slots Q (F0 m pc ls (.int i :: rest)) := by
  refine va_newa (atype := .long) (a0 := (N, .inr (.inl (fun _ => 0)))) hx hb harr rfl hK hP hD hS hA (fun _ => rfl) hi hN (by show N * 8 ≤ _; omega) hcells hslots hdg (fun q cA H1 hK1 hP1 hD1 hS1 => ?_)
  have e1 : s.vm.findClass ("[" ++ (FieldType.long).toString) = some cJ := (hK.2 1 _ rfl).2
  have e2 : s.vm.findClass ("[" ++ (FieldType.long).toString) = some cA := (hK1.2 2 _ rfl).2
  obtain rfl : cJ = cA := Option.some.inj (e1.symm.trans e2)
  exact kk q H1 hP1 hD1 hS1
end KU
/-- a row of a world as a table that nobody writes -/
theorem k_tab {D : va_G} {cB cJ : ClassId} {A : Nat → Prop} {ws : va_W} {U : State} {H : Heap} (hK : va_K D vwCl [(cB, .byte), (cJ, .long)] U) (hP : va_P D vwCl ws H) (q : Nat) {v m : Nat} {a : Nat → Int32} (hq : ws[q]? = some (v, .inl (cB, m, .inl a))) (hm : m < 2 ^ 31) (hA : ¬ A v) : va_T .byte v m (fun j => .int (a j)) A U H := by
  refine ⟨_, hP q _ hq, (hK.2 0 _ rfl).1 m (fun j => .int (a j)), fun h => (by cases h), ?_, ?_, fun j hj => ?_, hA⟩
  · show m ≤ (arrV cB m (fun j => .int (a j))).slots.size
    rw [arrV_size]
    exact Nat.le_refl _
  · show (arrV cB m (fun j => .int (a j))).slots.size.toInt32 = _
    rw [arrV_size]
  · show (arrV cB m (fun j => .int (a j))).slots[j]? = _
    rw [arrV_read _ _ hj]
