/-! contracts with a string that nobody writes -/
def kPreR (D : va_G) (cB cJ : ClassId) (A : Nat → Prop) (Hp : Heap) (av : List Value) (sq sk : Nat) (sf : Nat → Int32) : Array Value → State → Prop := va_Pc av (fun U => U.heap = Hp ∧ kE D cB cJ A U U.heap ∧ kRS A U U.heap sq sk sf)
theorem kPreR.blind {D : va_G} {cB cJ : ClassId} {A : Nat → Prop} {Hp : Heap} {av : List Value} {sq sk : Nat} {sf : Nat → Int32} : FrameBlind (kPreR D cB cJ A Hp av sq sk sf) := fun a U g mk q => ⟨q.1, q.2.1, kE.frame (u := U) (U := U.calling g mk a) rfl rfl q.2.2.1, kRS.pass (u := U) (U := U.calling g mk a) (Vm.Alike.refl U.vm) (fun _ _ _ => rfl) (fun _ h => h) q.2.2.2⟩
abbrev kMR (l : Launch) (D : va_G) (cB cJ : ClassId) (y : MethodName) (ws : List Cond) (rm : Room) (A : Nat → Prop) (Hp : Heap) (av : List Value) (sq sk : Nat) (sf : Nat → Int32) (post : Option Value → Heap → Prop) (mc ms : Nat) : Prop := Met l y ws rm (kPreR D cB cJ A Hp av sq sk sf) (kQ post A) mc ms A
theorem kRS.warm {A B : Nat → Prop} {s U : State} {H : Heap} {locs : List Loc} {sq sk : Nat} {sf : Nat → Int32} (hR : kRS A s s.heap sq sk sf) (hS : va_S A s.heap H locs) (hB : ∀ q, B q → A q) (hW : s.WarmedH U.vm) (hU : U.heap = H) : kRS B U U.heap sq sk sf := by
  rw [hU]
  exact hR.pass hW.alike hS.2.1 hB
section KR
variable {p : Program} {l : Launch} {e : Env} {R : Room} {s : State} {m : MethodId} {args : Array Value} {below : List Frame} {meth : Method} {c : Code} {H : Heap} {locs : List Loc} {cells slots : Nat} {Q : State → Prop}
variable {pc : Nat} {ls : Array Slot} {rest st0 : List Value} {cc : ByteArray}
theorem k_preRV {D : va_G} {cB cJ : ClassId} {A B : Nat → Prop} {C : String} {b sq sk : Nat} {sf : Nat → Int32} {As : List Value} (hE : kE D cB cJ A s s.heap) (hR : kRS A s s.heap sq sk sf) (hS : va_S A s.heap H locs) (hB : ∀ q, B q → A q) (hr : ∃ cellB : Cell, H[b]? = some cellB ∧ cellB.vm.isStatics = false ∧ s.vm.findClass C = some cellB.cls) : PreV s H C b (kPreR D cB cJ B H (.ref b :: As) sq sk sf) As :=
  ⟨kPreR.blind, hr, fun U hU hW => ⟨rfl, hU, hE.warm hS hB hW hU, hR.warm hS hB hW hU⟩⟩
theorem k_pVR {D : va_G} {cB cJ : ClassId} {A : Nat → Prop} {y : MethodName} {bytes : ByteArray} {maxL nL n index : Nat} {ret : Option FieldType} {ws : List Cond} {rm : Room} {Ts : List Cond} {own C : String} {r : Option Value} {b sq sk : Nat} {sf : Nat → Int32} (As : List Value)
    (S : CallFix p m c cc nL s args Ts own) (hM : kMR l D cB cJ y ws rm kF H (.ref b :: As) sq sk sf (kP r H) 0 0) (cw : CallW R s args own C index y bytes maxL ret ws rm 0 0 n) (hr : ∃ cellB : Cell, H[b]? = some cellB ∧ cellB.vm.isStatics = false ∧ s.vm.findClass C = some cellB.cls) (hE : kE D cB cJ A s s.heap) (hR : kRS A s s.heap sq sk sf) (hS : va_S A s.heap H locs)
    (hst : st0 = As.reverse ++ .ref b :: rest) (hn : As.length = n) (hsize : ls.size = nL) (hroom : (rest.map fun v => v.category).sum ≤ 8) (hdg : decode cc pc = .ok (.invokevirtual index, 3)) (hf : cells ≤ R.cells ∧ slots ≤ R.slots)
    (kk : ∀ (locs1 : List Loc), va_S A s.heap H locs1 → W p l e R s m args below meth c H locs1 cells slots Q (F0 m (pc + 3) ls (r.toList ++ rest))) : W p l e R s m args below meth c H locs cells slots Q (F0 m pc ls st0) := by
  refine k_go (va_runV (As := As) (rest := rest) S hM cw (k_preRV hE hR hS (fun _ h => h.elim) hr) rfl hn hsize hst (lv_room hroom) hdg ⟨hf.1, hf.2⟩) hS (fun q _ h => h.elim) (fun q h => h.elim) (fun v H1 locs1 hp _ _ hS1 => ?_)
  obtain ⟨rfl, rfl⟩ := hp
  exact kk locs1 hS1
theorem k_pUR {D : va_G} {cB cJ : ClassId} {A : Nat → Prop} {x y : MethodName} {bytes : ByteArray} {maxL nL n index : Nat} {ret : Option FieldType} {ws : List Cond} {rm : Room} {Ts : List Cond} {own C owner : String} {r : Option Value} {b sq sk : Nat} {sf : Nat → Int32} (As : List Value)
    (S : CallFix p m c cc nL s args Ts own) (hM : kMR l D cB cJ y ws rm kF H (.ref b :: As) sq sk sf (kP r H) 0 0) (cw : va_CU R s args own C owner index x y bytes maxL ret ws rm 0 0 n) (hr : ∃ cellB : Cell, H[b]? = some cellB ∧ cellB.vm.isStatics = false ∧ s.vm.findClass C = some cellB.cls) (hE : kE D cB cJ A s s.heap) (hR : kRS A s s.heap sq sk sf) (hS : va_S A s.heap H locs)
    (hst : st0 = As.reverse ++ .ref b :: rest) (hn : As.length = n) (hsize : ls.size = nL) (hroom : (rest.map fun v => v.category).sum ≤ 8) (hdg : decode cc pc = .ok (.invokevirtual index, 3)) (hf : cells ≤ R.cells ∧ slots ≤ R.slots)
    (kk : ∀ (locs1 : List Loc), va_S A s.heap H locs1 → W p l e R s m args below meth c H locs1 cells slots Q (F0 m (pc + 3) ls (r.toList ++ rest))) : W p l e R s m args below meth c H locs cells slots Q (F0 m pc ls st0) := by
  refine k_go (va_runU (As := As) (rest := rest) S hM cw (k_preRV hE hR hS (fun _ h => h.elim) hr) rfl hn hsize hst (lv_room hroom) hdg ⟨hf.1, hf.2⟩) hS (fun q _ h => h.elim) (fun q h => h.elim) (fun v H1 locs1 hp _ _ hS1 => ?_)
  obtain ⟨rfl, rfl⟩ := hp
  exact kk locs1 hS1
theorem k_bret {post : Option Value → Heap → Prop} {A : Nat → Prop} {v : Int32} (hx : p.tables.exec = Jvm.exec) (hb : c.code = cc) (hr : meth.sig.returnType = some .byte) (hn : narrow .byte (.int v) = .int v) (hlocks : meth.locks = false) (hS : va_S A s.heap H locs) (hdg : decode cc pc = .ok (.ireturn, 1)) (hp : post (some (.int v)) H) : W p l e R s m args below meth c H locs cells slots (MQ below (kQ post A) args s cells slots A) (F0 m pc ls [.int v]) :=
  W.zret hx hb hr hn (fun t ht _ => ⟨⟨_, rfl, by rw [ht]; exact hp⟩, hS.F ht⟩) hS.2.2 hdg hlocks
end KR
set_option maxHeartbeats 4000000 in
set_option maxRecDepth 100000 in
theorem c_J0_coder_7d493 (l : Launch) (D : va_G) (cB cJ : ClassId) (Hp : Heap)  (sq sk : Nat) (sf : Nat → Int32)  : kMR l D cB cJ yJ0_coder_7d493 wsJ0_coder_7d493 ({ frames := 0, cells := 0, slots := 0, locals := 0 }) kF Hp [.ref sq] sq sk sf (kP (some (.int 0)) Hp) 0 0 := by
  refine Met.ofW (cc := cJ0_coder_7d493) (maxL := 1) (ret := (some .byte)) (by decide) rfl ?_
  intro p e s m args below meth c s₁ B hml hv
  obtain ⟨rfl, hHp, hE, hR⟩ := hv
  subst hHp
  have hx := B.exec
  have hb := B.bytes
  have hr := B.returns
  have hts := atoms_spec (ws := wsJ0_coder_7d493) B.pre
  have hown : s.vm.findClass RJ0 = some m.cls := findClass_of_methodNamed B.named
  have hlocks := B.notSynchronized
  have hK := hE.1
  obtain ⟨sv, hRv, hRt⟩ := hR.2.2
  have hS : va_S kF s.heap s.heap [] := va_S.rf
  have hl := lv_entry ([.ref sq]) (n := 1) (Nat.le_of_ble_eq_true rfl)
  rw [lg_entry_eq]
  generalize (lg_sl ([.ref sq]) ++ List.replicate (1 - (lg_sl ([.ref sq])).length) Slot.unset).toArray = ls at hl ⊢
  have hl : lv_has ls 1 [(0, .ref sq)] := hl
  have hZ1 := hE.2.1.1
  refine va_gets hx hb hZ1 hS hown (hts (.fieldLink RJ0 38 "java/lang/String" "COMPACT_STRINGS" "Z") (by decide +kernel)) (fun _ h9 => h9) dJ0_coder_7d493_0 ?_
  refine lv_if_eq (tgt := 13) hx hb dJ0_coder_7d493_3 (by decide) (fun c_1 => ?_) (fun c_1 => ?_)
  · exact absurd c_1 (by decide)
  · refine lv_aload_n hx hb dJ0_coder_7d493_6 rfl (lv_at hl 0 rfl) ?_
    refine vk_getf hx hb hR.2.1 hS hown (hts (.fieldLink RJ0 15 "java/lang/String" "coder" "B") (by decide +kernel)) (fun _ h9 => h9) dJ0_coder_7d493_7 ?_
    refine lv_goto (tgt := 14) hx hb dJ0_coder_7d493_10 (by decide) ?_
    exact k_bret hx hb hr rfl hlocks hS dJ0_coder_7d493_14 ⟨rfl, rfl⟩
set_option maxHeartbeats 4000000 in
set_option maxRecDepth 100000 in
theorem c_J0_length_8abf5 (l : Launch) (D : va_G) (cB cJ : ClassId) (Hp : Heap)  (sq sk : Nat) (sf : Nat → Int32)  : kMR l D cB cJ yJ0_length_8abf5 wsJ0_length_8abf5 ({ frames := 1, cells := 0, slots := 0, locals := 20 }) kF Hp [.ref sq] sq sk sf (kP (some (.int (nI sk))) Hp) 0 0 := by
  refine Met.ofW (cc := cJ0_length_8abf5) (maxL := 1) (ret := (some .int)) (by decide) rfl ?_
  intro p e s m args below meth c s₁ B hml hv
  obtain ⟨rfl, hHp, hE, hR⟩ := hv
  subst hHp
  have hx := B.exec
  have hb := B.bytes
  have hr := B.returns
  have hts := atoms_spec (ws := wsJ0_length_8abf5) B.pre
  have hown : s.vm.findClass RJ0 = some m.cls := findClass_of_methodNamed B.named
  have hlocks := B.notSynchronized
  have hK := hE.1
  obtain ⟨sv, hRv, hRt⟩ := hR.2.2
  have hS : va_S kF s.heap s.heap [] := va_S.rf
  have hl := lv_entry ([.ref sq]) (n := 1) (Nat.le_of_ble_eq_true rfl)
  rw [lg_entry_eq]
  generalize (lg_sl ([.ref sq]) ++ List.replicate (1 - (lg_sl ([.ref sq])).length) Slot.unset).toArray = ls at hl ⊢
  have hl : lv_has ls 1 [(0, .ref sq)] := hl
  refine lv_aload_n hx hb dJ0_length_8abf5_0 rfl (lv_at hl 0 rfl) ?_
  refine vk_getf hx hb hRv hS hown (hts (.fieldLink RJ0 9 "java/lang/String" "value" "[B") (by decide +kernel)) (fun _ h9 => h9) dJ0_length_8abf5_1 ?_
  refine va_tlen hx hb hRt hS (v := (nI sk)) rfl dJ0_length_8abf5_4 ?_
  refine lv_aload_n hx hb dJ0_length_8abf5_5 rfl (lv_at hl 0 rfl) ?_
  refine k_pVR [] (rest := [.int (nI sk)]) ⟨hx, hb, hml, hown, hts⟩ (c_J0_coder_7d493 l D cB cJ _ sq sk sf) (cwV 0 hts gJ0_length_8abf5_J0_coder_7d493 rfl rfl rfl (by decide +kernel) ⟨(Nat.le_of_ble_eq_true rfl), (Nat.le_of_ble_eq_true rfl)⟩) (va_Orecv hR.1 hS) hE hR hS rfl rfl hl.1 (Nat.le_of_ble_eq_true rfl) dJ0_length_8abf5_6 ⟨(Nat.le_of_ble_eq_true rfl), (Nat.le_of_ble_eq_true rfl)⟩ (fun locs hS => ?_)
  refine W.eq (g2 := F0 m 9 ls [.int 0, .int (nI sk)]) rfl ?_
  refine lv_ishr hx hb dJ0_length_8abf5_9 ?_
  rw [sb_shr0]
  exact k_iret hx hb hr hlocks hS dJ0_length_8abf5_10 ⟨rfl, rfl⟩
theorem iw_J5_inflateIfNeededFor_a7421_J4 : ∀ w ∈ wsJ40, w ∈ wsJ5_inflateIfNeededFor_a7421 := by decide +kernel
set_option maxHeartbeats 4000000 in
set_option maxRecDepth 100000 in
theorem c_J5_inflateIfNeededFor_a7421 (l : Launch) (D : va_G) (cB cJ : ClassId) (Hp : Heap) (b v nn cp : Nat) (ar : Nat → Int32) (sq sk : Nat) (sf : Nat → Int32) (hP : va_P D vwCl (wSB b v cB nn cp ar) Hp) : kMR l D cB cJ yJ5_inflateIfNeededFor_a7421 wsJ5_inflateIfNeededFor_a7421 ({ frames := 1, cells := 0, slots := 0, locals := 20 }) kF Hp [.ref b, .ref sq] sq sk sf (kP none Hp) 0 0 := by
  refine Met.ofW (cc := cJ5_inflateIfNeededFor_a7421) (maxL := 2) (ret := none) (by decide) rfl ?_
  intro p e s m args below meth c s₁ B hml hv
  obtain ⟨rfl, hHp, hE, hR⟩ := hv
  subst hHp
  have hx := B.exec
  have hb := B.bytes
  have hr := B.returns
  have hts := atoms_spec (ws := wsJ5_inflateIfNeededFor_a7421) B.pre
  have hown : s.vm.findClass RJ5 = some m.cls := findClass_of_methodNamed B.named
  have hlocks := B.notSynchronized
  have hK := hE.1
  obtain ⟨sv, hRv, hRt⟩ := hR.2.2
  have hS : va_S kF s.heap s.heap [] := va_S.rf
  have hl := lv_entry ([.ref b, .ref sq]) (n := 2) (Nat.le_of_ble_eq_true rfl)
  rw [lg_entry_eq]
  generalize (lg_sl ([.ref b, .ref sq]) ++ List.replicate (2 - (lg_sl ([.ref b, .ref sq])).length) Slot.unset).toArray = ls at hl ⊢
  have hl : lv_has ls 2 [(0, .ref b), (1, .ref sq)] := hl
  have hZ1 := hE.2.1.1
  refine va_gets hx hb hZ1 hS hown (hts (.fieldLink RJ5 18 "java/lang/String" "COMPACT_STRINGS" "Z") (by decide +kernel)) (fun _ h9 => h9) dJ5_inflateIfNeededFor_a7421_0 ?_
  refine lv_if_eq (tgt := 21) hx hb dJ5_inflateIfNeededFor_a7421_3 (by decide) (fun c_1 => ?_) (fun c_1 => ?_)
  · exact absurd c_1 (by decide)
  · refine lv_aload_n hx hb dJ5_inflateIfNeededFor_a7421_6 rfl (lv_at hl 0 rfl) ?_
    refine va_get (D := D) (ci := 1) (v := .int 0) (C := RJ4) (T := TJ4) (N := 4) hx hb hts iw_J5_inflateIfNeededFor_a7421_J4 hown hK hP 0 rfl rfl 1 (by decide) (hts (.fieldLink RJ5 22 "java/lang/AbstractStringBuilder" "coder" "B") (by decide +kernel)) (fun _ h9 => h9) rfl dJ5_inflateIfNeededFor_a7421_7 ?_
    refine lv_aload_n hx hb dJ5_inflateIfNeededFor_a7421_10 rfl (lv_at hl 1 rfl) ?_
    refine k_pVR [] (rest := [.int 0]) ⟨hx, hb, hml, hown, hts⟩ (c_J0_coder_7d493 l D cB cJ _ sq sk sf) (cwV 0 hts gJ5_inflateIfNeededFor_a7421_J0_coder_7d493 rfl rfl rfl (by decide +kernel) ⟨(Nat.le_of_ble_eq_true rfl), (Nat.le_of_ble_eq_true rfl)⟩) (va_Orecv hR.1 hS) hE hR hS rfl rfl hl.1 (Nat.le_of_ble_eq_true rfl) dJ5_inflateIfNeededFor_a7421_11 ⟨(Nat.le_of_ble_eq_true rfl), (Nat.le_of_ble_eq_true rfl)⟩ (fun locs hS => ?_)
    refine W.eq (g2 := F0 m 14 ls [.int 0, .int 0]) rfl ?_
    refine lv_icmp_eq (tgt := 21) hx hb dJ5_inflateIfNeededFor_a7421_14 (by decide) (fun c_2 => ?_) (fun c_2 => ?_)
    · exact k_vret hx hb hr hlocks hS dJ5_inflateIfNeededFor_a7421_21 ⟨rfl, rfl⟩
    · exact absurd (by decide) c_2
