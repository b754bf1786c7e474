/-! what every contract carries: the classes, the tables, the constants that nobody writes; contracts over one heap -/
def t_PE : Nat → Int32 := fun j => ([24, 60, 60, 1000000000] : List Int32).getD j 0
def t_TA : Nat → Int32 := fun j => ([1, 59, 100000007] : List Int32).getD j 0
def t_UN : Nat → Int64 := fun j => ([1, 1000, 1000000, 1000000000, 60000000000, 3600000000000, 43200000000000, 86400000000000] : List Int64).getD j 0
def t_KN : Nat → Int64 := fun j => ([0, 43200000000000, 86399999999999] : List Int64).getD j 0
def t_PN : Nat → Int64 := fun j => ([3600000000000, 60000000000, 1000000000, 1] : List Int64).getD j 0
def t_D1 : Nat → Int32 := fun j => nI (48 + j % 10)
def t_D2 : Nat → Int32 := fun j => nI (48 + j / 10)
def kTab (C n d : String) (ty : FieldType) (N : Nat) (f : Nat → Value) (A : Nat → Prop) (U : State) (H : Heap) : Prop := ∃ t : Nat, va_Z C n d (.ref t) A U H ∧ va_T ty t N f A U H
theorem kTab.pass {C n d : String} {ty : FieldType} {N : Nat} {f : Nat → Value} {A B : Nat → Prop} {u U : State} {H H1 : Heap} (hvm : u.vm.Alike U.vm) (hq : ∀ a : Nat, a < H.size → ¬ A a → H1[a]? = H[a]?) (hB : ∀ q, B q → A q) (h : kTab C n d ty N f A u H) : kTab C n d ty N f B U H1 := by
  obtain ⟨t, h1, h2⟩ := h
  exact ⟨t, ((h1.moved hvm).kept hq).narrow hB, ((h2.moved hvm).kept hq).narrow hB⟩
def kT (A : Nat → Prop) (U : State) (H : Heap) : Prop :=
  va_Z RJ0 "COMPACT_STRINGS" "Z" (.int 1) A U H ∧
  kTab RX0 "PART_ENDS" "[I" .int 4 (fun j => .int (t_PE j)) A U H ∧
  kTab RX0 "TRIAL_AMOUNTS" "[I" .int 3 (fun j => .int (t_TA j)) A U H ∧
  kTab RX0 "UNIT_NANOS" "[J" .long 8 (fun j => .long (t_UN j)) A U H ∧
  kTab RX0 "KNOWN_NUMBERS" "[J" .long 3 (fun j => .long (t_KN j)) A U H ∧
  kTab RX0 "PART_NANOS" "[J" .long 4 (fun j => .long (t_PN j)) A U H ∧
  kTab "java/lang/Integer" "DigitOnes" "[B" .byte 100 (fun j => .int (t_D1 j)) A U H ∧
  kTab "java/lang/Integer" "DigitTens" "[B" .byte 100 (fun j => .int (t_D2 j)) A U H ∧
  vx_Zq Bundle.tN "UNASSIGNED_STACK" Bundle.steD A U H ∧
  vx_Zq Bundle.tN "SUPPRESSED_SENTINEL" Bundle.listD A U H
theorem kT.pass {A B : Nat → Prop} {u U : State} {H H1 : Heap} (hvm : u.vm.Alike U.vm) (hq : ∀ a : Nat, a < H.size → ¬ A a → H1[a]? = H[a]?) (hB : ∀ q, B q → A q) (h : kT A u H) : kT B U H1 := by
  obtain ⟨h1, h2, h3, h4, h5, h6, h7, h8, h9, h10⟩ := h
  exact ⟨((h1.moved hvm).kept hq).narrow hB, h2.pass hvm hq hB, h3.pass hvm hq hB, h4.pass hvm hq hB, h5.pass hvm hq hB, h6.pass hvm hq hB, h7.pass hvm hq hB, h8.pass hvm hq hB, ((h9.moved hvm).kept hq).narrow hB, ((h10.moved hvm).kept hq).narrow hB⟩
/-- the exceptions' texts -/
def kS (k : Nat → Nat) (U : State) : Prop := ∀ (i : Nat) (q : Nat × String), ([(164, "no such clock"), (171, "no such part"), (178, "no such unit"), (176, "second is not 0 to 86399"), (173, "this part can't be that"), (69, "times is not 0 to 40"), (183, "unit is not 0 or 3 to 5"), (114, "what is not 0 or 1"), (78, "what is not 0 to 4"), (54, "which is not 0 to 2")] : List (Nat × String))[i]? = some q → vk_R RX0 q.1 q.2 (k i) U
def kC (U : State) : Prop := va_Nw (.castable "java/lang/IndexOutOfBoundsException" "java/lang/IndexOutOfBoundsException") U ∧ va_Nw (.castable "java/lang/IllegalArgumentException" "java/lang/IllegalArgumentException") U ∧ va_Nw (.declares (Bundle.initS "java/lang/RuntimeException")) U ∧ va_Nw (.declares (Bundle.initS "java/lang/Exception")) U ∧ va_Nw (.declares (Bundle.initS Bundle.tN)) U ∧ va_Nw (.castable "[B" "java/lang/Cloneable") U
theorem kC.warm {s U : State} (hW : s.WarmedH U.vm) (h : kC s) : kC U :=
  ⟨va_Nw.warmC hW h.1, va_Nw.warmC hW h.2.1, va_tabs rfl (rfl : (s.setVm U.vm).vm = U.vm) (by rw [Cond.declares_setVm hW.alike]; exact h.2.2.1), va_tabs rfl (rfl : (s.setVm U.vm).vm = U.vm) (by rw [Cond.declares_setVm hW.alike]; exact h.2.2.2.1), va_tabs rfl (rfl : (s.setVm U.vm).vm = U.vm) (by rw [Cond.declares_setVm hW.alike]; exact h.2.2.2.2.1), va_Nw.warmC hW h.2.2.2.2.2⟩
theorem kC.same {u U : State} (hv : U.vm = u.vm) (h : kC u) : kC U := ⟨va_tabs rfl hv.symm h.1, va_tabs rfl hv.symm h.2.1, va_tabs rfl hv.symm h.2.2.1, va_tabs rfl hv.symm h.2.2.2.1, va_tabs rfl hv.symm h.2.2.2.2.1, va_tabs rfl hv.symm h.2.2.2.2.2⟩
/-- the words of a throw that the method's own list doesn't hold -/
theorem kC.bad {s : State} {args : Array Value} {E : String} (h : kC s) (hE : va_Nw (.castable E E) s) : ∀ w ∈ ([.declares (Bundle.initS "java/lang/RuntimeException"), .declares (Bundle.initS "java/lang/Exception"), .declares (Bundle.initS Bundle.tN), .castable E E] : List Cond), w.before args s = true :=
  vx_c (va_Nw.use rfl h.2.2.1) (vx_c (va_Nw.use rfl h.2.2.2.1) (vx_c (va_Nw.use rfl h.2.2.2.2.1) (vx_c (va_Nw.use rfl hE) vx_n)))
/-- a String that nobody writes: n bytes f, Latin-1 -/
def kRS (A : Nat → Prop) (U : State) (H : Heap) (q n : Nat) (f : Nat → Int32) : Prop := va_O RJ0 q A U H ∧ va_OF RJ0 "coder" "B" (.int 0) q A U H ∧ ∃ v : Nat, va_OF RJ0 "value" "[B" (.ref v) q A U H ∧ va_T .byte v n (fun j => .int (f j)) A U H
theorem kRS.pass {A B : Nat → Prop} {u U : State} {H H1 : Heap} {q n : Nat} {f : Nat → Int32} (hvm : u.vm.Alike U.vm) (hq : ∀ a : Nat, a < H.size → ¬ A a → H1[a]? = H[a]?) (hB : ∀ q, B q → A q) (h : kRS A u H q n f) : kRS B U H1 q n f := by
  obtain ⟨h1, h2, v, h3, h4⟩ := h
  exact ⟨((h1.moved hvm).kept hq).narrow hB, ((h2.moved hvm).kept hq).narrow hB, v, ((h3.moved hvm).kept hq).narrow hB, ((h4.moved hvm).kept hq).narrow hB⟩
def t_MS : List (Nat × String × List Int32) := [(77, "", []), (108, " ", [32]), (98, ".", [46]), (96, ":", [58])]
/-- the reference's texts -/
def kL (k : Nat → Nat) (A : Nat → Prop) (U : State) (H : Heap) : Prop := ∀ (i : Nat) (q : Nat × String × List Int32), t_MS[i]? = some q → vk_R RX2 q.1 q.2.1 (k i) U ∧ kRS A U H (k i) q.2.2.length (fun j => q.2.2.getD j 0)
/-- the formatter of out-of-range messages: some value that nobody writes -/
def kZ (A : Nat → Prop) (U : State) (H : Heap) : Prop := va_Zq "jdk/internal/util/Preconditions" "SIOOBE_FORMATTER" "Ljava/util/function/BiFunction;" A U H
def kE (D : va_G) (cB cJ : ClassId) (A : Nat → Prop) (U : State) (H : Heap) : Prop := va_K D vwCl [(cB, .byte), (cJ, .long)] U ∧ kT A U H ∧ (∃ k, kS k U) ∧ kC U ∧ (∃ k, kL k A U H) ∧ kZ A U H
theorem kE.warm {D : va_G} {cB cJ : ClassId} {A B : Nat → Prop} {s U : State} {H : Heap} {locs : List Loc} (hE : kE D cB cJ A s s.heap) (hS : va_S A s.heap H locs) (hB : ∀ q, B q → A q) (hW : s.WarmedH U.vm) (hU : U.heap = H) : kE D cB cJ B U U.heap := by
  obtain ⟨h1, h2, ⟨k, h3⟩, h4, ⟨k2, h5⟩, h6⟩ := hE
  exact ⟨va_K.moved hW.alike h1, by rw [hU]; exact h2.pass hW.alike hS.2.1 hB, ⟨k, fun i q hq => vk_R.warm hW (h3 i q hq)⟩, h4.warm hW, ⟨k2, fun i q hq => ⟨vk_R.warm hW (h5 i q hq).1, by rw [hU]; exact (h5 i q hq).2.pass hW.alike hS.2.1 hB⟩⟩, by rw [hU]; exact ((va_Zq.moved hW.alike h6).kept hS.2.1).narrow hB⟩
theorem kE.frame {D : va_G} {cB cJ : ClassId} {A : Nat → Prop} {u U : State} (hv : U.vm = u.vm) (hH : U.heap = u.heap) (hE : kE D cB cJ A u u.heap) : kE D cB cJ A U U.heap := by
  obtain ⟨h1, h2, ⟨k, h3⟩, h4, ⟨k2, h5⟩, h6⟩ := hE
  have hvm : u.vm.Alike U.vm := by rw [hv]; exact Vm.Alike.refl u.vm
  exact ⟨va_K.moved hvm h1, by rw [hH]; exact h2.pass hvm (fun _ _ _ => rfl) (fun _ h => h), ⟨k, fun i q hq => vk_R.same hv (h3 i q hq)⟩, h4.same hv, ⟨k2, fun i q hq => ⟨vk_R.same hv (h5 i q hq).1, by rw [hH]; exact (h5 i q hq).2.pass hvm (fun _ _ _ => rfl) (fun _ h => h)⟩⟩, by rw [hH]; exact va_Zq.moved hvm h6⟩
/-- a contract's start: the arguments, the heap, what is carried; its ends -/
def kPre (D : va_G) (cB cJ : ClassId) (A : Nat → Prop) (Hp : Heap) (av : List Value) : Array Value → State → Prop := va_Pc av (fun U => U.heap = Hp ∧ kE D cB cJ A U U.heap)
def kQ (post : Option Value → Heap → Prop) (A : Nat → Prop) : Array Value → State → Outcome → State → Prop := fun _ st oc t => (∃ v : Option Value, oc = .returned v ∧ post v t.heap) ∧ va_F A st t
def kX (px : String → Heap → Prop) (A : Nat → Prop) : String → State → State → Prop := fun E st t => px E t.heap ∧ va_F A st t
theorem kPre.blind {D : va_G} {cB cJ : ClassId} {A : Nat → Prop} {Hp : Heap} {av : List Value} : FrameBlind (kPre D cB cJ A Hp av) := fun a U g mk q => ⟨q.1, q.2.1, kE.frame (u := U) (U := U.calling g mk a) rfl rfl q.2.2⟩
/-- a contract that returns; one that returns or throws -/
abbrev kM (l : Launch) (D : va_G) (cB cJ : ClassId) (y : MethodName) (ws : List Cond) (rm : Room) (A : Nat → Prop) (Hp : Heap) (av : List Value) (post : Option Value → Heap → Prop) (mc ms : Nat) : Prop := Met l y ws rm (kPre D cB cJ A Hp av) (kQ post A) mc ms A
abbrev kV (l : Launch) (D : va_G) (cB cJ : ClassId) (y : MethodName) (ws : List Cond) (rm : Room) (A : Nat → Prop) (Hp : Heap) (av : List Value) (post : Option Value → Heap → Prop) (px : String → Heap → Prop) (mc ms : Nat) : Prop := vx_Met l y ws rm (kPre D cB cJ A Hp av) (kQ post A) (kX px A) mc ms A
section KB
variable {p : Program} {l : Launch} {e : Env} {R : Room} {s : State} {m : MethodId} {args : Array Value} {below : List Frame} {meth : Method} {c : Code} {H : Heap} {locs : List Loc} {cells slots : Nat} {Q : State → Prop}
variable {pc : Nat} {ls : Array Slot} {rest st0 : List Value} {a : Array Value} {A0 A1 : Nat → Prop} {H0 : Heap} {mc ms : Nat} {free : Addr → Prop} {cc : ByteArray}
theorem k_go {post : Option Value → Heap → Prop} (hr : va_Run p l e R s m args below meth c H locs cells slots mc ms (F0 m pc ls st0) rest (kQ post A1 a) free) (hS : va_S A0 H0 H locs) (hA : ∀ q, q < H.size → A1 q → A0 q) (hf : ∀ q, free q → A0 q)
    (kk : ∀ (v : Option Value) (H1 : Heap) (locs1 : List Loc), post v H1 → H.size ≤ H1.size → (∀ q : Nat, q < H.size → ¬ A1 q → H1[q]? = H[q]?) → va_S A0 H0 H1 locs1 → W p l e R s m args below meth c H1 locs1 (cells + mc) (slots + ms) Q (F0 m (pc + 3) ls (v.toList ++ rest))) : W p l e R s m args below meth c H locs cells slots Q (F0 m pc ls st0) := by
  intro T hT X
  obtain ⟨v, st₀, t, T', L, h0, X', hL, e1, e2, ⟨⟨v2, hv, hp⟩, hF⟩, st⟩ := hr T hT X
  cases hv
  obtain ⟨k1, k2, k3⟩ := vx_keep h0 e1 hS hA hf hL hF
  obtain ⟨t2, a1, b1⟩ := kk v T'.heap (locs ++ L) (by rw [e1]; exact hp) k1 k2 k3 T' rfl X'
  exact ⟨t2, st t2 a1, b1⟩
theorem kx_go {post : Option Value → Heap → Prop} {px : String → Heap → Prop} (hr : vx_Run p l e R s m args below meth c H locs cells slots mc ms (F0 m pc ls st0) rest (kQ post A1 a) (kX px A1) free) (hS : va_S A0 H0 H locs) (hA : ∀ q, q < H.size → A1 q → A0 q) (hf : ∀ q, free q → A0 q)
    (kx : ∀ (E : String) (ce : Cell) (q9 : Addr) (H1 : Heap) (locs1 : List Loc), px E H1 → H.size ≤ H1.size → (∀ q : Nat, q < H.size → ¬ A1 q → H1[q]? = H[q]?) → va_S A0 H0 H1 locs1 → H1[q9]? = some ce → ce.vm = .none → s.vm.findClass E = some ce.cls → vx_W p l e R s m args below meth c H1 locs1 (cells + mc) (slots + ms) Q (F0 m pc ls rest) q9)
    (kk : ∀ (v : Option Value) (H1 : Heap) (locs1 : List Loc), post v H1 → H.size ≤ H1.size → (∀ q : Nat, q < H.size → ¬ A1 q → H1[q]? = H[q]?) → va_S A0 H0 H1 locs1 → W p l e R s m args below meth c H1 locs1 (cells + mc) (slots + ms) Q (F0 m (pc + 3) ls (v.toList ++ rest))) : W p l e R s m args below meth c H locs cells slots Q (F0 m pc ls st0) := by
  intro T hT X
  rcases hr T hT X with ⟨v, st₀, t, T', L, h0, X', hL, e1, e2, ⟨⟨v2, hv, hp⟩, hF⟩, st⟩ | ⟨q, st₀, t, T', L, E, ce, h0, X', hL, e1, e2, ⟨hp, hF⟩, hce, hcv, hcl, st⟩
  · cases hv
    obtain ⟨k1, k2, k3⟩ := vx_keep h0 e1 hS hA hf hL hF
    obtain ⟨t2, a1, b1⟩ := kk v T'.heap (locs ++ L) (by rw [e1]; exact hp) k1 k2 k3 T' rfl X'
    exact ⟨t2, st t2 a1, b1⟩
  · obtain ⟨k1, k2, k3⟩ := vx_keep h0 e1 hS hA hf hL hF
    obtain ⟨t2, a1, b1⟩ := kx E ce q T'.heap (locs ++ L) (by rw [e1]; exact hp) k1 k2 k3 (by rw [e1]; exact hce) hcv hcl T' rfl X'
    exact ⟨t2, st.trans a1, b1⟩
theorem k_preS {D : va_G} {cB cJ : ClassId} {A B : Nat → Prop} {As : List Value} (hE : kE D cB cJ A s s.heap) (hS : va_S A s.heap H locs) (hB : ∀ q, B q → A q) : PreS s H (kPre D cB cJ B H As) As :=
  ⟨kPre.blind, fun U hU hW => ⟨rfl, hU, hE.warm hS hB hW hU⟩⟩
theorem k_preV {D : va_G} {cB cJ : ClassId} {A B : Nat → Prop} {C : String} {b : Addr} {As : List Value} (hE : kE D cB cJ A s s.heap) (hS : va_S A s.heap H locs) (hB : ∀ q, B q → A q) (hr : ∃ cellB : Cell, H[b]? = some cellB ∧ cellB.vm.isStatics = false ∧ s.vm.findClass C = some cellB.cls) : PreV s H C b (kPre D cB cJ B H (.ref b :: As)) As :=
  ⟨kPre.blind, hr, fun U hU hW => ⟨rfl, hU, hE.warm hS hB hW hU⟩⟩
/-- a static method that answers a number and leaves the heap as it is -/
def kP (r : Option Value) (Hp : Heap) : Option Value → Heap → Prop := fun v H1 => v = r ∧ H1 = Hp
def kF : Nat → Prop := fun _ => False
theorem k_pS {D : va_G} {cB cJ : ClassId} {A : Nat → Prop} {y : MethodName} {bytes : ByteArray} {maxL nL n index : Nat} {ret : Option FieldType} {ws : List Cond} {rm : Room} {Ts : List Cond} {own : String} {r : Option Value} (As : List Value)
    (S : CallFix p m c cc nL s args Ts own) (hM : kM l D cB cJ y ws rm kF H As (kP r H) 0 0) (cw : CallB R s args own index y bytes maxL ret ws rm 0 0 n ∧ (Cond.static y).before args s = true) (hE : kE D cB cJ A s s.heap) (hS : va_S A s.heap H locs)
    (hst : st0 = As.reverse ++ rest) (hn : As.length = n) (hsize : ls.size = nL) (hroom : (rest.map fun v => v.category).sum ≤ 8) (hdg : decode cc pc = .ok (.invokestatic index, 3)) (hf : cells ≤ R.cells ∧ slots ≤ R.slots)
    (kk : ∀ (locs1 : List Loc), va_S A s.heap H locs1 → W p l e R s m args below meth c H locs1 cells slots Q (F0 m (pc + 3) ls (r.toList ++ rest))) : W p l e R s m args below meth c H locs cells slots Q (F0 m pc ls st0) := by
  refine k_go (va_runS (As := As) (rest := rest) S hM cw (k_preS hE hS (fun _ h => h.elim)) rfl hn hsize hst (lv_room hroom) hdg ⟨hf.1, hf.2⟩) hS (fun q _ h => h.elim) (fun q h => h.elim) (fun v H1 locs1 hp _ _ hS1 => ?_)
  obtain ⟨rfl, rfl⟩ := hp
  exact kk locs1 hS1
/-- .. an instance method -/
theorem k_pV {D : va_G} {cB cJ : ClassId} {A : Nat → Prop} {y : MethodName} {bytes : ByteArray} {maxL nL n index : Nat} {ret : Option FieldType} {ws : List Cond} {rm : Room} {Ts : List Cond} {own C : String} {r : Option Value} {b : Addr} (As : List Value)
    (S : CallFix p m c cc nL s args Ts own) (hM : kM l D cB cJ y ws rm kF H (.ref b :: As) (kP r H) 0 0) (cw : CallW R s args own C index y bytes maxL ret ws rm 0 0 n) (hr : ∃ cellB : Cell, H[b]? = some cellB ∧ cellB.vm.isStatics = false ∧ s.vm.findClass C = some cellB.cls) (hE : kE D cB cJ A s s.heap) (hS : va_S A s.heap H locs)
    (hst : st0 = As.reverse ++ .ref b :: rest) (hn : As.length = n) (hsize : ls.size = nL) (hroom : (rest.map fun v => v.category).sum ≤ 8) (hdg : decode cc pc = .ok (.invokevirtual index, 3)) (hf : cells ≤ R.cells ∧ slots ≤ R.slots)
    (kk : ∀ (locs1 : List Loc), va_S A s.heap H locs1 → W p l e R s m args below meth c H locs1 cells slots Q (F0 m (pc + 3) ls (r.toList ++ rest))) : W p l e R s m args below meth c H locs cells slots Q (F0 m pc ls st0) := by
  refine k_go (va_runV (As := As) (rest := rest) S hM cw (k_preV hE hS (fun _ h => h.elim) hr) rfl hn hsize hst (lv_room hroom) hdg ⟨hf.1, hf.2⟩) hS (fun q _ h => h.elim) (fun q h => h.elim) (fun v H1 locs1 hp _ _ hS1 => ?_)
  obtain ⟨rfl, rfl⟩ := hp
  exact kk locs1 hS1
/-- the ends -/
theorem k_iret {post : Option Value → Heap → Prop} {A : Nat → Prop} {v : Int32} (hx : p.tables.exec = Jvm.exec) (hb : c.code = cc) (hr : meth.sig.returnType = some .int) (hlocks : meth.locks = false) (hS : va_S A s.heap H locs) (hdg : decode cc pc = .ok (.ireturn, 1)) (hp : post (some (.int v)) H) : W p l e R s m args below meth c H locs cells slots (MQ below (kQ post A) args s cells slots A) (F0 m pc ls [.int v]) :=
  W.iret hx hb hr (fun t ht _ => ⟨⟨_, rfl, by rw [ht]; exact hp⟩, hS.F ht⟩) hS.2.2 hdg hlocks
theorem k_zret {post : Option Value → Heap → Prop} {A : Nat → Prop} {v : Int32} (hx : p.tables.exec = Jvm.exec) (hb : c.code = cc) (hr : meth.sig.returnType = some .boolean) (hn : v = 0 ∨ v = 1) (hlocks : meth.locks = false) (hS : va_S A s.heap H locs) (hdg : decode cc pc = .ok (.ireturn, 1)) (hp : post (some (.int v)) H) : W p l e R s m args below meth c H locs cells slots (MQ below (kQ post A) args s cells slots A) (F0 m pc ls [.int v]) :=
  W.zret hx hb hr (by rcases hn with rfl | rfl <;> rfl) (fun t ht _ => ⟨⟨_, rfl, by rw [ht]; exact hp⟩, hS.F ht⟩) hS.2.2 hdg hlocks
theorem k_lret {post : Option Value → Heap → Prop} {A : Nat → Prop} {v : Int64} (hx : p.tables.exec = Jvm.exec) (hb : c.code = cc) (hr : meth.sig.returnType = some .long) (hlocks : meth.locks = false) (hS : va_S A s.heap H locs) (hdg : decode cc pc = .ok (.lreturn, 1)) (hp : post (some (.long v)) H) : W p l e R s m args below meth c H locs cells slots (MQ below (kQ post A) args s cells slots A) (F0 m pc ls [.long v]) :=
  W.lret hx hb hr (fun t ht _ => ⟨⟨_, rfl, by rw [ht]; exact hp⟩, hS.F ht⟩) hS.2.2 hdg hlocks
theorem k_vret {post : Option Value → Heap → Prop} {A : Nat → Prop} (hx : p.tables.exec = Jvm.exec) (hb : c.code = cc) (hr : meth.sig.returnType = none) (hlocks : meth.locks = false) (hS : va_S A s.heap H locs) (hdg : decode cc pc = .ok (.return_, 1)) (hp : post none H) : W p l e R s m args below meth c H locs cells slots (MQ below (kQ post A) args s cells slots A) (F0 m pc ls []) :=
  W.vret hx hb hr (fun t ht _ => ⟨⟨_, rfl, by rw [ht]; exact hp⟩, hS.F ht⟩) hS.2.2 hdg hlocks
theorem k_aret {post : Option Value → Heap → Prop} {A : Nat → Prop} {v : Nat} {rt : FieldType} (hx : p.tables.exec = Jvm.exec) (hb : c.code = cc) (hr : meth.sig.returnType = some rt) (hrt : (∃ n, rt = .object n) ∨ ∃ t, rt = .array t) (hlocks : meth.locks = false) (hS : va_S A s.heap H locs) (hdg : decode cc pc = .ok (.areturn, 1)) (hp : post (some (.ref v)) H) : W p l e R s m args below meth c H locs cells slots (MQ below (kQ post A) args s cells slots A) (F0 m pc ls [.ref v]) :=
  W.aret hx hb hr hrt (Or.inr ⟨_, rfl⟩) (fun t ht _ => ⟨⟨_, rfl, by rw [ht]; exact hp⟩, hS.F ht⟩) hS.2.2 hdg hlocks
/-- a long comparison and the branch on it -/
theorem k_lc {x y : Int64} (hx : p.tables.exec = Jvm.exec) (hb : c.code = cc) (hdg : decode cc pc = .ok (.lcmp, 1)) (k : W p l e R s m args below meth c H locs cells slots Q (F0 m (pc + 1) ls (.int (lg_cmp x y) :: rest))) : W p l e R s m args below meth c H locs cells slots Q (F0 m pc ls (.long y :: .long x :: rest)) := W.lcmp hx hb hdg k
theorem kl_lt {x y : Int64} {off : Int} {tgt : Nat} (hx : p.tables.exec = Jvm.exec) (hb : c.code = cc) (hd1 : decode cc pc = .ok (.lcmp, 1)) (hdg : decode cc (pc + 1) = .ok (.ifCond .lt off, 3)) (ht : ((pc + 1 : Nat) : Int) + off = (tgt : Int)) (kt : x < y → W p l e R s m args below meth c H locs cells slots Q (F0 m tgt ls rest)) (kf : ¬ x < y → W p l e R s m args below meth c H locs cells slots Q (F0 m (pc + 1 + 3) ls rest)) : W p l e R s m args below meth c H locs cells slots Q (F0 m pc ls (.long y :: .long x :: rest)) :=
  W.lcmp hx hb hd1 (lv_if_lt hx hb hdg ht (fun h => kt ((lg_cmp_lt x y).mp h)) (fun h => kf (fun q => h ((lg_cmp_lt x y).mpr q))))
theorem kl_ge {x y : Int64} {off : Int} {tgt : Nat} (hx : p.tables.exec = Jvm.exec) (hb : c.code = cc) (hd1 : decode cc pc = .ok (.lcmp, 1)) (hdg : decode cc (pc + 1) = .ok (.ifCond .ge off, 3)) (ht : ((pc + 1 : Nat) : Int) + off = (tgt : Int)) (kt : y ≤ x → W p l e R s m args below meth c H locs cells slots Q (F0 m tgt ls rest)) (kf : ¬ y ≤ x → W p l e R s m args below meth c H locs cells slots Q (F0 m (pc + 1 + 3) ls rest)) : W p l e R s m args below meth c H locs cells slots Q (F0 m pc ls (.long y :: .long x :: rest)) :=
  W.lcmp hx hb hd1 (lv_if_ge hx hb hdg ht (fun h => kt ((lg_cmp_ge x y).mp h)) (fun h => kf (fun q => h ((lg_cmp_ge x y).mpr q))))
theorem kl_gt {x y : Int64} {off : Int} {tgt : Nat} (hx : p.tables.exec = Jvm.exec) (hb : c.code = cc) (hd1 : decode cc pc = .ok (.lcmp, 1)) (hdg : decode cc (pc + 1) = .ok (.ifCond .gt off, 3)) (ht : ((pc + 1 : Nat) : Int) + off = (tgt : Int)) (kt : y < x → W p l e R s m args below meth c H locs cells slots Q (F0 m tgt ls rest)) (kf : ¬ y < x → W p l e R s m args below meth c H locs cells slots Q (F0 m (pc + 1 + 3) ls rest)) : W p l e R s m args below meth c H locs cells slots Q (F0 m pc ls (.long y :: .long x :: rest)) :=
  W.lcmp hx hb hd1 (lv_if_gt hx hb hdg ht (fun h => kt ((lg_cmp_gt x y).mp h)) (fun h => kf (fun q => h ((lg_cmp_gt x y).mpr q))))
theorem kl_le {x y : Int64} {off : Int} {tgt : Nat} (hx : p.tables.exec = Jvm.exec) (hb : c.code = cc) (hd1 : decode cc pc = .ok (.lcmp, 1)) (hdg : decode cc (pc + 1) = .ok (.ifCond .le off, 3)) (ht : ((pc + 1 : Nat) : Int) + off = (tgt : Int)) (kt : x ≤ y → W p l e R s m args below meth c H locs cells slots Q (F0 m tgt ls rest)) (kf : ¬ x ≤ y → W p l e R s m args below meth c H locs cells slots Q (F0 m (pc + 1 + 3) ls rest)) : W p l e R s m args below meth c H locs cells slots Q (F0 m pc ls (.long y :: .long x :: rest)) :=
  W.lcmp hx hb hd1 (lv_if_le hx hb hdg ht (fun h => kt ((lg_cmp_le x y).mp h)) (fun h => kf (fun q => h ((lg_cmp_le x y).mpr q))))
theorem kl_eq {x y : Int64} {off : Int} {tgt : Nat} (hx : p.tables.exec = Jvm.exec) (hb : c.code = cc) (hd1 : decode cc pc = .ok (.lcmp, 1)) (hdg : decode cc (pc + 1) = .ok (.ifCond .eq off, 3)) (ht : ((pc + 1 : Nat) : Int) + off = (tgt : Int)) (kt : x = y → W p l e R s m args below meth c H locs cells slots Q (F0 m tgt ls rest)) (kf : ¬ x = y → W p l e R s m args below meth c H locs cells slots Q (F0 m (pc + 1 + 3) ls rest)) : W p l e R s m args below meth c H locs cells slots Q (F0 m pc ls (.long y :: .long x :: rest)) :=
  W.lcmp hx hb hd1 (lv_if_eq hx hb hdg ht (fun h => kt ((lg_cmp_eq x y).mp h)) (fun h => kf (fun q => h ((lg_cmp_eq x y).mpr q))))
theorem kl_ne {x y : Int64} {off : Int} {tgt : Nat} (hx : p.tables.exec = Jvm.exec) (hb : c.code = cc) (hd1 : decode cc pc = .ok (.lcmp, 1)) (hdg : decode cc (pc + 1) = .ok (.ifCond .ne off, 3)) (ht : ((pc + 1 : Nat) : Int) + off = (tgt : Int)) (kt : ¬ x = y → W p l e R s m args below meth c H locs cells slots Q (F0 m tgt ls rest)) (kf : x = y → W p l e R s m args below meth c H locs cells slots Q (F0 m (pc + 1 + 3) ls rest)) : W p l e R s m args below meth c H locs cells slots Q (F0 m pc ls (.long y :: .long x :: rest)) :=
  W.lcmp hx hb hd1 (lv_if_ne hx hb hdg ht (fun h => kt (fun q => h ((lg_cmp_eq x y).mpr q))) (fun h => kf ((lg_cmp_eq x y).mp h)))
end KB
theorem k_in {i n : Int32} {N : Nat} (h1 : ¬ i < 0) (h2 : ¬ n ≤ i) (hn : n = nI N) (hN : N < 2 ^ 31) : vp_in i N := by
  obtain ⟨j, hj, rfl⟩ := nI_of h1
  subst hn
  exact vp_in_nI (Nat.lt_of_not_le fun q => h2 (nI_le q hj)) hN
theorem k_in' {i n : Int32} {N : Nat} (h1 : ¬ i < 0) (h2 : i < n) (hn : n = nI N) (hN : N < 2 ^ 31) : vp_in i N := k_in h1 (fun q => by rw [Int32.lt_iff_toInt_lt] at h2; rw [Int32.le_iff_toInt_le] at q; omega) hn hN
theorem atn_166 : (vx_atS RX0 166 "java/lang/IndexOutOfBoundsException" ["java/lang/RuntimeException", "java/lang/Exception"]).filter (fun w => !goodWord w) = [.declares (Bundle.initS "java/lang/RuntimeException"), .declares (Bundle.initS "java/lang/Exception"), .declares (Bundle.initS Bundle.tN), .castable "java/lang/IndexOutOfBoundsException" "java/lang/IndexOutOfBoundsException"] := by decide +kernel
theorem atn_56 : (vx_atS RX0 56 "java/lang/IllegalArgumentException" ["java/lang/RuntimeException", "java/lang/Exception"]).filter (fun w => !goodWord w) = [.declares (Bundle.initS "java/lang/RuntimeException"), .declares (Bundle.initS "java/lang/Exception"), .declares (Bundle.initS Bundle.tN), .castable "java/lang/IllegalArgumentException" "java/lang/IllegalArgumentException"] := by decide +kernel
theorem atg_166 : ∀ w ∈ Cond.classLink RX0 162 "java/lang/IndexOutOfBoundsException" :: Cond.initialized "java/lang/IndexOutOfBoundsException" :: vx_atS RX0 166 "java/lang/IndexOutOfBoundsException" ["java/lang/RuntimeException", "java/lang/Exception"], vx_ot w = true := by decide +kernel
theorem atg_56 : ∀ w ∈ Cond.classLink RX0 52 "java/lang/IllegalArgumentException" :: Cond.initialized "java/lang/IllegalArgumentException" :: vx_atS RX0 56 "java/lang/IllegalArgumentException" ["java/lang/RuntimeException", "java/lang/Exception"], vx_ot w = true := by decide +kernel
theorem k_F {A : Nat → Prop} {s t : State} {H : Heap} {locs : List Loc} (hS : va_S A s.heap H locs) (hz : H.size ≤ t.heap.size) (hk : ∀ q : Nat, q < H.size → t.heap[q]? = H[q]?) : va_F A s t :=
  ⟨Nat.le_trans hS.1 hz, fun q h1 h2 => (hk q (Nat.lt_of_lt_of_le h1 hS.1)).trans (hS.2.1 q h1 h2)⟩
/-- a check: nothing, or the exception that it throws -/
def kNo (j : Option String) (Hp : Heap) : Option Value → Heap → Prop := fun v H1 => v = none ∧ H1 = Hp ∧ j = none
def kNx (j : Option String) : String → Heap → Prop := fun E _ => j = some E
def jNeed {α : Type} (o : Option String) (r : Except String α) : Except String α := match o with
  | none => r
  | some E => .error E
theorem jNeed_n {α : Type} {o : Option String} {r : Except String α} (h : o = none) : jNeed o r = r := by rw [h]; rfl
theorem jNeed_s {α : Type} {o : Option String} {r : Except String α} {E : String} (h : o = some E) : jNeed o r = .error E := by rw [h]; rfl
section KN
variable {p : Program} {l : Launch} {e : Env} {R : Room} {s : State} {m : MethodId} {args : Array Value} {below : List Frame} {meth : Method} {c : Code} {H : Heap} {locs : List Loc} {cells slots : Nat} {Q : State → Prop}
variable {pc : Nat} {ls : Array Slot} {rest st0 : List Value} {cc : ByteArray}
theorem kx_need {D : va_G} {cB cJ : ClassId} {A : Nat → Prop} {y : MethodName} {bytes : ByteArray} {maxL nL n index : Nat} {ret : Option FieldType} {ws : List Cond} {rm : Room} {Ts : List Cond} {own : String} {j : Option String} (As : List Value)
    (S : CallFix p m c cc nL s args Ts own) (hM : kV l D cB cJ y ws rm kF H As (kNo j H) (kNx j) 1 6) (cw : CallB R s args own index y bytes maxL ret ws rm 1 6 n ∧ (Cond.static y).before args s = true) (hE : kE D cB cJ A s s.heap) (hS : va_S A s.heap H locs)
    (hst : st0 = As.reverse ++ rest) (hn : As.length = n) (hsize : ls.size = nL) (hroom : (rest.map fun v => v.category).sum ≤ 8) (hdg : decode cc pc = .ok (.invokestatic index, 3)) (hf : cells + 1 ≤ R.cells ∧ slots + 6 ≤ R.slots)
    (kx : ∀ (E : String) (ce : Cell) (q9 : Addr) (H1 : Heap) (locs1 : List Loc), j = some E → H.size ≤ H1.size → (∀ q : Nat, q < H.size → H1[q]? = H[q]?) → va_S A s.heap H1 locs1 → H1[q9]? = some ce → ce.vm = .none → s.vm.findClass E = some ce.cls → vx_W p l e R s m args below meth c H1 locs1 (cells + 1) (slots + 6) Q (F0 m pc ls rest) q9)
    (kk : ∀ (locs1 : List Loc), j = none → va_S A s.heap H locs1 → W p l e R s m args below meth c H locs1 (cells + 1) (slots + 6) Q (F0 m (pc + 3) ls rest)) : W p l e R s m args below meth c H locs cells slots Q (F0 m pc ls st0) := by
  refine kx_go (vx_runS (As := As) (rest := rest) S hM cw (k_preS hE hS (fun _ h => h.elim)) rfl hn hsize hst (lv_room hroom) hdg hf) hS (fun q _ h => h.elim) (fun q h => h.elim) (fun E ce q9 H1 locs1 hp hz hk hS1 h1 h2 h3 => ?_) (fun v H1 locs1 hp _ _ hS1 => ?_)
  · exact kx E ce q9 H1 locs1 hp hz (fun q hq => hk q hq (fun z => z)) hS1 h1 h2 h3
  · obtain ⟨rfl, rfl, hj⟩ := hp
    exact kk locs1 hj hS1
end KN
/-- the two systems' cells -/
abbrev wC (x n : Nat) (cJ : ClassId) (kn ch : Int32) (f : Nat → Int64) : va_W := [(x, .inr (2, [.ref n, .int kn, .int ch])), (n, .inl (cJ, 8, .inr (.inl f)))]
abbrev wMo (y n2 : Nat) (cJ : ClassId) (th : Int32) (g : Nat → Int64) (kn2 td : Int32) : va_W := [(y, .inr (4, [.int th, .ref n2, .int kn2, .int td])), (n2, .inl (cJ, 8, .inr (.inl g)))]
/-- what Clocksolo's methods leave: o = (answer, knocks, changes, numbers) -/
def kPs (D : va_G) (x n : Nat) (cJ : ClassId) (A : Nat → Prop) (o : Int32 × Int32 × Int32 × (Nat → Int64)) : Option Value → Heap → Prop := fun v H1 => v = some (.int o.1) ∧ va_P D vwCl (wC x n cJ o.2.1 o.2.2.1 o.2.2.2) H1 ∧ va_D A (wC x n cJ o.2.1 o.2.2.1 o.2.2.2)
def kPw (D : va_G) (x n : Nat) (cJ : ClassId) (A : Nat → Prop) (J : Except String (Int32 × Int32 × Int32 × (Nat → Int64))) : Option Value → Heap → Prop := fun v H1 => ∃ o, J = .ok o ∧ kPs D x n cJ A o v H1
def kXw {α : Type} (J : Except String α) (Hp : Heap) : String → Heap → Prop := fun E H1 => J = .error E ∧ Hp.size ≤ H1.size ∧ ∀ q : Nat, q < Hp.size → H1[q]? = Hp[q]?
/-- what the reference's methods leave: o = (answer, thrown, numbers, knocks, told) -/
def kPm (D : va_G) (y n2 : Nat) (cJ : ClassId) (A : Nat → Prop) (o : Int32 × Int32 × (Nat → Int64) × Int32 × Int32) : Option Value → Heap → Prop := fun v H1 => v = some (.int o.1) ∧ va_P D vwCl (wMo y n2 cJ o.2.1 o.2.2.1 o.2.2.2.1 o.2.2.2.2) H1 ∧ va_D A (wMo y n2 cJ o.2.1 o.2.2.1 o.2.2.2.1 o.2.2.2.2)
