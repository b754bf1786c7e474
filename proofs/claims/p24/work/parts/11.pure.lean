theorem k_nz1 {y : Int64} (h : 0 < y) : ¬ y = 0 := fun e => by subst e; exact absurd h (by decide)
theorem k_nz2 {y : Int64} (h : ¬ y ≤ 0) : ¬ y = 0 := fun e => by subst e; exact absurd h (by decide)
theorem k_inq {i n : Int32} {N : Nat} (h1 : ¬ i < 0) (h2 : ¬ n < i) (hn : n = nI (N - 1)) (hN : 0 < N ∧ N < 2 ^ 31) : vp_in i N := by
  obtain ⟨j, hj, rfl⟩ := nI_of h1
  subst hn
  exact vp_in_nI (by
    rcases Nat.lt_or_ge j N with q | q
    · exact q
    · exact absurd (nI_lt (a := N - 1) (b := j) (by omega) hj) h2) hN.2
theorem k_tout4 {x : Int32} (h0 : ¬ x = 0) (h1 : ¬ x = 1) (h2 : ¬ x = 2) (h3 : ¬ x = 3) : x.toInt < 0 ∨ (3 : Int) < x.toInt := by
  rw [← Int32.toInt_inj] at h0 h1 h2 h3
  have e0 : (0 : Int32).toInt = 0 := by decide
  have e1 : (1 : Int32).toInt = 1 := by decide
  have e2 : (2 : Int32).toInt = 2 := by decide
  have e3 : (3 : Int32).toInt = 3 := by decide
  omega
def j_X0_partOf (a0 : Int64) (a2 : Int32) : Int32 := (if a2 = 0 then (((a0 / 1000000000).toInt32) / 3600) else (if a2 = 1 then ((((a0 / 1000000000).toInt32) / 60) - ((((a0 / 1000000000).toInt32) / 60) / 60) * 60) else (if a2 = 2 then (((a0 / 1000000000).toInt32) - (((a0 / 1000000000).toInt32) / 60) * 60) else (if a2 = 3 then (a0 - (a0 / 1000000000) * 1000000000).toInt32 else (a0 / 1000000000).toInt32))))
set_option maxHeartbeats 4000000 in
set_option maxRecDepth 100000 in
theorem c_X0_partOf (l : Launch) (D : va_G) (cB cJ : ClassId) (Hp : Heap) (a0 : Int64) (a2 : Int32) : kM l D cB cJ yX0_partOf wsX0_partOf ({ frames := 0, cells := 0, slots := 0, locals := 0 }) kF Hp [.long a0, .int a2] (kP (some (.int (j_X0_partOf a0 a2))) Hp) 0 0 := by
  refine Met.ofW (cc := cX0_partOf) (maxL := 4) (ret := (some .int)) (by decide) rfl ?_
  intro p e s m args below meth c s₁ B hml hv
  obtain ⟨rfl, hHp, hE⟩ := hv
  subst hHp
  have hx := B.exec
  have hb := B.bytes
  have hr := B.returns
  have hts := atoms_spec (ws := wsX0_partOf) B.pre
  have hown : s.vm.findClass RX0 = some m.cls := findClass_of_methodNamed B.named
  have hlocks := B.notSynchronized
  have hK := hE.1
  have hS : va_S kF s.heap s.heap [] := va_S.rf
  have hl := lv_entry ([.long a0, .int a2]) (n := 4) (Nat.le_of_ble_eq_true rfl)
  rw [lg_entry_eq]
  generalize (lg_sl ([.long a0, .int a2]) ++ List.replicate (4 - (lg_sl ([.long a0, .int a2])).length) Slot.unset).toArray = ls at hl ⊢
  have hl : lv_has ls 4 [(0, .long a0), (2, .int a2)] := hl
  refine lv_lload_n hx hb dX0_partOf_0 rfl (lv_at hl 0 rfl) ?_
  refine lv_ldc2 (v := 1000000000) hx hb hown (hts (.constantLong RX0 39 (1000000000)) (by decide +kernel)) dX0_partOf_1 ?_
  refine lv_ldiv hx hb dX0_partOf_4 (by decide) ?_
  refine lv_l2i (v := (a0 / 1000000000).toInt32) hx hb dX0_partOf_5 rfl ?_
  refine lv_istore_n (lv' := [(3, .int ((a0 / 1000000000).toInt32)), (0, .long a0), (2, .int a2)]) hx hb dX0_partOf_6 rfl hl (by decide) rfl (fun ls hl => ?_)
  refine lv_iload_n hx hb dX0_partOf_7 rfl (lv_at hl 2 rfl) ?_
  by_cases c_1 : a2 = 0
  · refine lv_tableIn (tgt := 40) hx hb dX0_partOf_8 (by rw [c_1]; decide) (by rw [c_1]; decide) (off := 32) (by rw [c_1]; decide) (by decide) ?_
    refine lv_iload_n hx hb dX0_partOf_40 rfl (lv_at hl 0 rfl) ?_
    refine lv_sipush (v := 3600) hx hb dX0_partOf_41 (by decide) ?_
    refine lv_idiv hx hb dX0_partOf_44 (by decide) ?_
    exact k_iret hx hb hr hlocks hS dX0_partOf_45 ⟨by rw [j_X0_partOf, if_pos c_1], rfl⟩
  by_cases c_2 : a2 = 1
  · refine lv_tableIn (tgt := 46) hx hb dX0_partOf_8 (by rw [c_2]; decide) (by rw [c_2]; decide) (off := 38) (by rw [c_2]; decide) (by decide) ?_
    refine lv_iload_n hx hb dX0_partOf_46 rfl (lv_at hl 0 rfl) ?_
    refine lv_bipush (v := 60) hx hb dX0_partOf_47 (by decide) ?_
    refine lv_idiv hx hb dX0_partOf_49 (by decide) ?_
    refine lv_bipush (v := 60) hx hb dX0_partOf_50 (by decide) ?_
    refine lv_irem hx hb dX0_partOf_52 (by decide) ?_
    exact k_iret hx hb hr hlocks hS dX0_partOf_53 ⟨by rw [j_X0_partOf, if_neg c_1, if_pos c_2], rfl⟩
  by_cases c_3 : a2 = 2
  · refine lv_tableIn (tgt := 54) hx hb dX0_partOf_8 (by rw [c_3]; decide) (by rw [c_3]; decide) (off := 46) (by rw [c_3]; decide) (by decide) ?_
    refine lv_iload_n hx hb dX0_partOf_54 rfl (lv_at hl 0 rfl) ?_
    refine lv_bipush (v := 60) hx hb dX0_partOf_55 (by decide) ?_
    refine lv_irem hx hb dX0_partOf_57 (by decide) ?_
    exact k_iret hx hb hr hlocks hS dX0_partOf_58 ⟨by rw [j_X0_partOf, if_neg c_1, if_neg c_2, if_pos c_3], rfl⟩
  by_cases c_4 : a2 = 3
  · refine lv_tableIn (tgt := 59) hx hb dX0_partOf_8 (by rw [c_4]; decide) (by rw [c_4]; decide) (off := 51) (by rw [c_4]; decide) (by decide) ?_
    refine lv_lload_n hx hb dX0_partOf_59 rfl (lv_at hl 1 rfl) ?_
    refine lv_ldc2 (v := 1000000000) hx hb hown (hts (.constantLong RX0 39 (1000000000)) (by decide +kernel)) dX0_partOf_60 ?_
    refine lv_lrem hx hb dX0_partOf_63 (by decide) ?_
    refine lv_l2i (v := (a0 - (a0 / 1000000000) * 1000000000).toInt32) hx hb dX0_partOf_64 rfl ?_
    exact k_iret hx hb hr hlocks hS dX0_partOf_65 ⟨by rw [j_X0_partOf, if_neg c_1, if_neg c_2, if_neg c_3, if_pos c_4], rfl⟩
  refine lv_tableOut (tgt := 66) hx hb dX0_partOf_8 (k_tout4 c_1 c_2 c_3 c_4) (by decide) ?_
  refine lv_iload_n hx hb dX0_partOf_66 rfl (lv_at hl 0 rfl) ?_
  exact k_iret hx hb hr hlocks hS dX0_partOf_67 ⟨by rw [j_X0_partOf, if_neg c_1, if_neg c_2, if_neg c_3, if_neg c_4], rfl⟩
def j_X0_numberOfParts (a0 : Int32) (a1 : Int32) (a2 : Int32) (a3 : Int32) : Int64 := (((((3600 * a0.toInt64) + (60 * a1.toInt64)) + a2.toInt64) * 1000000000) + a3.toInt64)
set_option maxHeartbeats 4000000 in
set_option maxRecDepth 100000 in
theorem c_X0_numberOfParts (l : Launch) (D : va_G) (cB cJ : ClassId) (Hp : Heap) (a0 : Int32) (a1 : Int32) (a2 : Int32) (a3 : Int32) : kM l D cB cJ yX0_numberOfParts wsX0_numberOfParts ({ frames := 0, cells := 0, slots := 0, locals := 0 }) kF Hp [.int a0, .int a1, .int a2, .int a3] (kP (some (.long (j_X0_numberOfParts a0 a1 a2 a3))) Hp) 0 0 := by
  refine Met.ofW (cc := cX0_numberOfParts) (maxL := 4) (ret := (some .long)) (by decide) rfl ?_
  intro p e s m args below meth c s₁ B hml hv
  obtain ⟨rfl, hHp, hE⟩ := hv
  subst hHp
  have hx := B.exec
  have hb := B.bytes
  have hr := B.returns
  have hts := atoms_spec (ws := wsX0_numberOfParts) B.pre
  have hown : s.vm.findClass RX0 = some m.cls := findClass_of_methodNamed B.named
  have hlocks := B.notSynchronized
  have hK := hE.1
  have hS : va_S kF s.heap s.heap [] := va_S.rf
  have hl := lv_entry ([.int a0, .int a1, .int a2, .int a3]) (n := 4) (Nat.le_of_ble_eq_true rfl)
  rw [lg_entry_eq]
  generalize (lg_sl ([.int a0, .int a1, .int a2, .int a3]) ++ List.replicate (4 - (lg_sl ([.int a0, .int a1, .int a2, .int a3])).length) Slot.unset).toArray = ls at hl ⊢
  have hl : lv_has ls 4 [(0, .int a0), (1, .int a1), (2, .int a2), (3, .int a3)] := hl
  refine lv_ldc2 (v := 3600) hx hb hown (hts (.constantLong RX0 188 (3600)) (by decide +kernel)) dX0_numberOfParts_0 ?_
  refine lv_iload_n hx hb dX0_numberOfParts_3 rfl (lv_at hl 0 rfl) ?_
  refine lv_i2l (v := a0.toInt64) hx hb dX0_numberOfParts_4 rfl ?_
  refine lv_lmul hx hb dX0_numberOfParts_5 ?_
  refine lv_ldc2 (v := 60) hx hb hown (hts (.constantLong RX0 190 (60)) (by decide +kernel)) dX0_numberOfParts_6 ?_
  refine lv_iload_n hx hb dX0_numberOfParts_9 rfl (lv_at hl 1 rfl) ?_
  refine lv_i2l (v := a1.toInt64) hx hb dX0_numberOfParts_10 rfl ?_
  refine lv_lmul hx hb dX0_numberOfParts_11 ?_
  refine lv_ladd hx hb dX0_numberOfParts_12 ?_
  refine lv_iload_n hx hb dX0_numberOfParts_13 rfl (lv_at hl 2 rfl) ?_
  refine lv_i2l (v := a2.toInt64) hx hb dX0_numberOfParts_14 rfl ?_
  refine lv_ladd hx hb dX0_numberOfParts_15 ?_
  refine lv_ldc2 (v := 1000000000) hx hb hown (hts (.constantLong RX0 39 (1000000000)) (by decide +kernel)) dX0_numberOfParts_16 ?_
  refine lv_lmul hx hb dX0_numberOfParts_19 ?_
  refine lv_iload_n hx hb dX0_numberOfParts_20 rfl (lv_at hl 3 rfl) ?_
  refine lv_i2l (v := a3.toInt64) hx hb dX0_numberOfParts_21 rfl ?_
  refine lv_ladd hx hb dX0_numberOfParts_22 ?_
  exact k_lret hx hb hr hlocks hS dX0_numberOfParts_23 ⟨by rw [j_X0_numberOfParts], rfl⟩
def j_X0_isStepUnit (a0 : Int32) : Int32 := (if a0 = 0 then 1 else (if a0 < 3 then 0 else (if 5 < a0 then 0 else 1)))
set_option maxHeartbeats 4000000 in
set_option maxRecDepth 100000 in
theorem c_X0_isStepUnit (l : Launch) (D : va_G) (cB cJ : ClassId) (Hp : Heap) (a0 : Int32) : kM l D cB cJ yX0_isStepUnit wsX0_isStepUnit ({ frames := 0, cells := 0, slots := 0, locals := 0 }) kF Hp [.int a0] (kP (some (.int (j_X0_isStepUnit a0))) Hp) 0 0 := by
  refine Met.ofW (cc := cX0_isStepUnit) (maxL := 1) (ret := (some .boolean)) (by decide) rfl ?_
  intro p e s m args below meth c s₁ B hml hv
  obtain ⟨rfl, hHp, hE⟩ := hv
  subst hHp
  have hx := B.exec
  have hb := B.bytes
  have hr := B.returns
  have hts := atoms_spec (ws := wsX0_isStepUnit) B.pre
  have hown : s.vm.findClass RX0 = some m.cls := findClass_of_methodNamed B.named
  have hlocks := B.notSynchronized
  have hK := hE.1
  have hS : va_S kF s.heap s.heap [] := va_S.rf
  have hl := lv_entry ([.int a0]) (n := 1) (Nat.le_of_ble_eq_true rfl)
  rw [lg_entry_eq]
  generalize (lg_sl ([.int a0]) ++ List.replicate (1 - (lg_sl ([.int a0])).length) Slot.unset).toArray = ls at hl ⊢
  have hl : lv_has ls 1 [(0, .int a0)] := hl
  refine lv_iload_n hx hb dX0_isStepUnit_0 rfl (lv_at hl 0 rfl) ?_
  refine lv_if_eq (tgt := 14) hx hb dX0_isStepUnit_1 (by decide) (fun c_1 => ?_) (fun c_1 => ?_)
  · refine lv_iconst (v := 1) hx hb dX0_isStepUnit_14 (by decide) ?_
    refine lv_goto (tgt := 19) hx hb dX0_isStepUnit_15 (by decide) ?_
    exact k_zret hx hb hr (Or.inr rfl) hlocks hS dX0_isStepUnit_19 ⟨by rw [j_X0_isStepUnit, if_pos c_1], rfl⟩
  · refine lv_iload_n hx hb dX0_isStepUnit_4 rfl (lv_at hl 0 rfl) ?_
    refine lv_iconst (v := 3) hx hb dX0_isStepUnit_5 (by decide) ?_
    refine lv_icmp_lt (tgt := 18) hx hb dX0_isStepUnit_6 (by decide) (fun c_2 => ?_) (fun c_2 => ?_)
    · refine lv_iconst (v := 0) hx hb dX0_isStepUnit_18 (by decide) ?_
      exact k_zret hx hb hr (Or.inl rfl) hlocks hS dX0_isStepUnit_19 ⟨by rw [j_X0_isStepUnit, if_neg c_1, if_pos c_2], rfl⟩
    · refine lv_iload_n hx hb dX0_isStepUnit_9 rfl (lv_at hl 0 rfl) ?_
      refine lv_iconst (v := 5) hx hb dX0_isStepUnit_10 (by decide) ?_
      refine lv_icmp_gt (tgt := 18) hx hb dX0_isStepUnit_11 (by decide) (fun c_3 => ?_) (fun c_3 => ?_)
      · refine lv_iconst (v := 0) hx hb dX0_isStepUnit_18 (by decide) ?_
        exact k_zret hx hb hr (Or.inl rfl) hlocks hS dX0_isStepUnit_19 ⟨by rw [j_X0_isStepUnit, if_neg c_1, if_neg c_2, if_pos c_3], rfl⟩
      · refine lv_iconst (v := 1) hx hb dX0_isStepUnit_14 (by decide) ?_
        refine lv_goto (tgt := 19) hx hb dX0_isStepUnit_15 (by decide) ?_
        exact k_zret hx hb hr (Or.inr rfl) hlocks hS dX0_isStepUnit_19 ⟨by rw [j_X0_isStepUnit, if_neg c_1, if_neg c_2, if_neg c_3], rfl⟩
def j_X0_partNanos (a0 : Int32) : Int64 := (if a0 < 0 then 0 else (if 4 ≤ a0 then 0 else (t_PN a0.toNatClampNeg)))
set_option maxHeartbeats 4000000 in
set_option maxRecDepth 100000 in
theorem c_X0_partNanos (l : Launch) (D : va_G) (cB cJ : ClassId) (Hp : Heap) (a0 : Int32) : kM l D cB cJ yX0_partNanos wsX0_partNanos ({ frames := 0, cells := 0, slots := 0, locals := 0 }) kF Hp [.int a0] (kP (some (.long (j_X0_partNanos a0))) Hp) 0 0 := by
  refine Met.ofW (cc := cX0_partNanos) (maxL := 1) (ret := (some .long)) (by decide) rfl ?_
  intro p e s m args below meth c s₁ B hml hv
  obtain ⟨rfl, hHp, hE⟩ := hv
  subst hHp
  have hx := B.exec
  have hb := B.bytes
  have hr := B.returns
  have hts := atoms_spec (ws := wsX0_partNanos) B.pre
  have hown : s.vm.findClass RX0 = some m.cls := findClass_of_methodNamed B.named
  have hlocks := B.notSynchronized
  have hK := hE.1
  have hS : va_S kF s.heap s.heap [] := va_S.rf
  have hl := lv_entry ([.int a0]) (n := 1) (Nat.le_of_ble_eq_true rfl)
  rw [lg_entry_eq]
  generalize (lg_sl ([.int a0]) ++ List.replicate (1 - (lg_sl ([.int a0])).length) Slot.unset).toArray = ls at hl ⊢
  have hl : lv_has ls 1 [(0, .int a0)] := hl
  obtain ⟨t6, hZ6, hT6⟩ := hE.2.1.2.2.2.2.2.1
  refine lv_iload_n hx hb dX0_partNanos_0 rfl (lv_at hl 0 rfl) ?_
  refine lv_if_lt (tgt := 20) hx hb dX0_partNanos_1 (by decide) (fun c_1 => ?_) (fun c_1 => ?_)
  · refine lv_lconst (v := 0) hx hb dX0_partNanos_20 (by decide) ?_
    exact k_lret hx hb hr hlocks hS dX0_partNanos_21 ⟨by rw [j_X0_partNanos, if_pos c_1], rfl⟩
  · refine lv_iload_n hx hb dX0_partNanos_4 rfl (lv_at hl 0 rfl) ?_
    refine va_gets hx hb hZ6 hS hown (hts (.fieldLink RX0 192 "Clocksolo" "PART_NANOS" "[J") (by decide +kernel)) (fun _ h9 => h9) dX0_partNanos_5 ?_
    refine va_tlen hx hb hT6 hS (v := 4) rfl dX0_partNanos_8 ?_
    refine lv_icmp_ge (tgt := 20) hx hb dX0_partNanos_9 (by decide) (fun c_2 => ?_) (fun c_2 => ?_)
    · refine lv_lconst (v := 0) hx hb dX0_partNanos_20 (by decide) ?_
      exact k_lret hx hb hr hlocks hS dX0_partNanos_21 ⟨by rw [j_X0_partNanos, if_neg c_1, if_pos c_2], rfl⟩
    · refine va_gets hx hb hZ6 hS hown (hts (.fieldLink RX0 192 "Clocksolo" "PART_NANOS" "[J") (by decide +kernel)) (fun _ h9 => h9) dX0_partNanos_12 ?_
      refine lv_iload_n hx hb dX0_partNanos_15 rfl (lv_at hl 0 rfl) ?_
      refine va_tl hx hb hT6 hS (v := .long (t_PN a0.toNatClampNeg)) (k_in c_1 c_2 (by decide) (by decide)) rfl dX0_partNanos_16 ?_
      refine lv_goto (tgt := 21) hx hb dX0_partNanos_17 (by decide) ?_
      exact k_lret hx hb hr hlocks hS dX0_partNanos_21 ⟨by rw [j_X0_partNanos, if_neg c_1, if_neg c_2], rfl⟩
def j_X0_unitNanos (a0 : Int32) : Int64 := (if a0 < 0 then 1 else (if 8 ≤ a0 then 1 else (t_UN a0.toNatClampNeg)))
set_option maxHeartbeats 4000000 in
set_option maxRecDepth 100000 in
theorem c_X0_unitNanos (l : Launch) (D : va_G) (cB cJ : ClassId) (Hp : Heap) (a0 : Int32) : kM l D cB cJ yX0_unitNanos wsX0_unitNanos ({ frames := 0, cells := 0, slots := 0, locals := 0 }) kF Hp [.int a0] (kP (some (.long (j_X0_unitNanos a0))) Hp) 0 0 := by
  refine Met.ofW (cc := cX0_unitNanos) (maxL := 1) (ret := (some .long)) (by decide) rfl ?_
  intro p e s m args below meth c s₁ B hml hv
  obtain ⟨rfl, hHp, hE⟩ := hv
  subst hHp
  have hx := B.exec
  have hb := B.bytes
  have hr := B.returns
  have hts := atoms_spec (ws := wsX0_unitNanos) B.pre
  have hown : s.vm.findClass RX0 = some m.cls := findClass_of_methodNamed B.named
  have hlocks := B.notSynchronized
  have hK := hE.1
  have hS : va_S kF s.heap s.heap [] := va_S.rf
  have hl := lv_entry ([.int a0]) (n := 1) (Nat.le_of_ble_eq_true rfl)
  rw [lg_entry_eq]
  generalize (lg_sl ([.int a0]) ++ List.replicate (1 - (lg_sl ([.int a0])).length) Slot.unset).toArray = ls at hl ⊢
  have hl : lv_has ls 1 [(0, .int a0)] := hl
  obtain ⟨t4, hZ4, hT4⟩ := hE.2.1.2.2.2.1
  refine lv_iload_n hx hb dX0_unitNanos_0 rfl (lv_at hl 0 rfl) ?_
  refine lv_if_lt (tgt := 20) hx hb dX0_unitNanos_1 (by decide) (fun c_1 => ?_) (fun c_1 => ?_)
  · refine lv_lconst (v := 1) hx hb dX0_unitNanos_20 (by decide) ?_
    exact k_lret hx hb hr hlocks hS dX0_unitNanos_21 ⟨by rw [j_X0_unitNanos, if_pos c_1], rfl⟩
  · refine lv_iload_n hx hb dX0_unitNanos_4 rfl (lv_at hl 0 rfl) ?_
    refine va_gets hx hb hZ4 hS hown (hts (.fieldLink RX0 195 "Clocksolo" "UNIT_NANOS" "[J") (by decide +kernel)) (fun _ h9 => h9) dX0_unitNanos_5 ?_
    refine va_tlen hx hb hT4 hS (v := 8) rfl dX0_unitNanos_8 ?_
    refine lv_icmp_ge (tgt := 20) hx hb dX0_unitNanos_9 (by decide) (fun c_2 => ?_) (fun c_2 => ?_)
    · refine lv_lconst (v := 1) hx hb dX0_unitNanos_20 (by decide) ?_
      exact k_lret hx hb hr hlocks hS dX0_unitNanos_21 ⟨by rw [j_X0_unitNanos, if_neg c_1, if_pos c_2], rfl⟩
    · refine va_gets hx hb hZ4 hS hown (hts (.fieldLink RX0 195 "Clocksolo" "UNIT_NANOS" "[J") (by decide +kernel)) (fun _ h9 => h9) dX0_unitNanos_12 ?_
      refine lv_iload_n hx hb dX0_unitNanos_15 rfl (lv_at hl 0 rfl) ?_
      refine va_tl hx hb hT4 hS (v := .long (t_UN a0.toNatClampNeg)) (k_in c_1 c_2 (by decide) (by decide)) rfl dX0_unitNanos_16 ?_
      refine lv_goto (tgt := 21) hx hb dX0_unitNanos_17 (by decide) ?_
      exact k_lret hx hb hr hlocks hS dX0_unitNanos_21 ⟨by rw [j_X0_unitNanos, if_neg c_1, if_neg c_2], rfl⟩
def j_J9_floorMod_f86c9 (a0 : Int64) (a2 : Int64) : Int64 := (if 0 ≤ (a0 ^^^ a2) then (a0 - (a0 / a2) * a2) else (if (a0 - (a0 / a2) * a2) = 0 then (a0 - (a0 / a2) * a2) else ((a0 - (a0 / a2) * a2) + a2)))
set_option maxHeartbeats 4000000 in
set_option maxRecDepth 100000 in
theorem c_J9_floorMod_f86c9 (l : Launch) (D : va_G) (cB cJ : ClassId) (Hp : Heap) (a0 : Int64) (a2 : Int64) (h91 : ¬ a2 = 0) : kM l D cB cJ yJ9_floorMod_f86c9 wsJ9_floorMod_f86c9 ({ frames := 0, cells := 0, slots := 0, locals := 0 }) kF Hp [.long a0, .long a2] (kP (some (.long (j_J9_floorMod_f86c9 a0 a2))) Hp) 0 0 := by
  refine va_MetF (cc := cJ9_floorMod_f86c9) (maxL := 6) (ret := (some .long)) (by decide +kernel) rfl ?_
  intro p e s m args below meth c s₁ B hml hv
  obtain ⟨rfl, hHp, hE⟩ := hv
  subst hHp
  have hx := B.exec
  have hb := B.bytes
  have hr := B.returns
  have hts := atoms_spec (ws := wsJ9_floorMod_f86c9) B.pre
  have hown : s.vm.findClass RJ9 = some m.cls := findClass_of_methodNamed B.named
  have hlocks := B.notSynchronized
  have hK := hE.1
  have hS : va_S kF s.heap s.heap [] := va_S.rf
  have hl := lv_entry ([.long a0, .long a2]) (n := 6) (Nat.le_of_ble_eq_true rfl)
  rw [lg_entry_eq]
  generalize (lg_sl ([.long a0, .long a2]) ++ List.replicate (6 - (lg_sl ([.long a0, .long a2])).length) Slot.unset).toArray = ls at hl ⊢
  have hl : lv_has ls 6 [(0, .long a0), (2, .long a2)] := hl
  refine lv_lload_n hx hb dJ9_floorMod_f86c9_0 rfl (lv_at hl 0 rfl) ?_
  refine lv_lload_n hx hb dJ9_floorMod_f86c9_1 rfl (lv_at hl 1 rfl) ?_
  refine lv_lrem hx hb dJ9_floorMod_f86c9_2 h91 ?_
  refine lv_lstore (lv' := [(4, .long (a0 - (a0 / a2) * a2)), (0, .long a0), (2, .long a2)]) hx hb dJ9_floorMod_f86c9_3 hl (by decide) rfl (fun ls hl => ?_)
  refine lv_lload_n hx hb dJ9_floorMod_f86c9_5 rfl (lv_at hl 1 rfl) ?_
  refine lv_lload_n hx hb dJ9_floorMod_f86c9_6 rfl (lv_at hl 2 rfl) ?_
  refine lv_lxor hx hb dJ9_floorMod_f86c9_7 ?_
  refine lv_lconst (v := 0) hx hb dJ9_floorMod_f86c9_8 (by decide) ?_
  refine kl_ge (tgt := 25) hx hb dJ9_floorMod_f86c9_9 dJ9_floorMod_f86c9_10 (by decide) (fun c_1 => ?_) (fun c_1 => ?_)
  · refine lv_lload hx hb dJ9_floorMod_f86c9_25 (lv_at hl 0 rfl) ?_
    exact k_lret hx hb hr hlocks hS dJ9_floorMod_f86c9_27 ⟨by rw [j_J9_floorMod_f86c9, if_pos c_1], rfl⟩
  · refine lv_lload hx hb dJ9_floorMod_f86c9_13 (lv_at hl 0 rfl) ?_
    refine lv_lconst (v := 0) hx hb dJ9_floorMod_f86c9_15 (by decide) ?_
    refine kl_eq (tgt := 25) hx hb dJ9_floorMod_f86c9_16 dJ9_floorMod_f86c9_17 (by decide) (fun c_2 => ?_) (fun c_2 => ?_)
    · refine lv_lload hx hb dJ9_floorMod_f86c9_25 (lv_at hl 0 rfl) ?_
      exact k_lret hx hb hr hlocks hS dJ9_floorMod_f86c9_27 ⟨by rw [j_J9_floorMod_f86c9, if_neg c_1, if_pos c_2], rfl⟩
    · refine lv_lload hx hb dJ9_floorMod_f86c9_20 (lv_at hl 0 rfl) ?_
      refine lv_lload_n hx hb dJ9_floorMod_f86c9_22 rfl (lv_at hl 2 rfl) ?_
      refine lv_ladd hx hb dJ9_floorMod_f86c9_23 ?_
      exact k_lret hx hb hr hlocks hS dJ9_floorMod_f86c9_24 ⟨by rw [j_J9_floorMod_f86c9, if_neg c_1, if_neg c_2], rfl⟩
def j_X0_putOn (a0 : Int64) (a2 : Int32) (a3 : Int64) : Int64 := (if 0 < (j_X0_unitNanos a2) then (if 0 < (86400000000000 / (j_X0_unitNanos a2)) then ((a0 + ((j_J9_floorMod_f86c9 a3 (86400000000000 / (j_X0_unitNanos a2))) * (j_X0_unitNanos a2))) - ((a0 + ((j_J9_floorMod_f86c9 a3 (86400000000000 / (j_X0_unitNanos a2))) * (j_X0_unitNanos a2))) / 86400000000000) * 86400000000000) else a0) else a0)
set_option maxHeartbeats 4000000 in
set_option maxRecDepth 100000 in
theorem c_X0_putOn (l : Launch) (D : va_G) (cB cJ : ClassId) (Hp : Heap) (a0 : Int64) (a2 : Int32) (a3 : Int64) : kM l D cB cJ yX0_putOn wsX0_putOn ({ frames := 1, cells := 0, slots := 0, locals := 25 }) kF Hp [.long a0, .int a2, .long a3] (kP (some (.long (j_X0_putOn a0 a2 a3))) Hp) 0 0 := by
  refine Met.ofW (cc := cX0_putOn) (maxL := 11) (ret := (some .long)) (by decide) rfl ?_
  intro p e s m args below meth c s₁ B hml hv
  obtain ⟨rfl, hHp, hE⟩ := hv
  subst hHp
  have hx := B.exec
  have hb := B.bytes
  have hr := B.returns
  have hts := atoms_spec (ws := wsX0_putOn) B.pre
  have hown : s.vm.findClass RX0 = some m.cls := findClass_of_methodNamed B.named
  have hlocks := B.notSynchronized
  have hK := hE.1
  have hS : va_S kF s.heap s.heap [] := va_S.rf
  have hl := lv_entry ([.long a0, .int a2, .long a3]) (n := 11) (Nat.le_of_ble_eq_true rfl)
  rw [lg_entry_eq]
  generalize (lg_sl ([.long a0, .int a2, .long a3]) ++ List.replicate (11 - (lg_sl ([.long a0, .int a2, .long a3])).length) Slot.unset).toArray = ls at hl ⊢
  have hl : lv_has ls 11 [(0, .long a0), (2, .int a2), (3, .long a3)] := hl
  refine lv_iload_n hx hb dX0_putOn_0 rfl (lv_at hl 1 rfl) ?_
  refine k_pS [.int a2] (rest := []) ⟨hx, hb, hml, hown, hts⟩ (c_X0_unitNanos l D cB cJ _ a2) (va_cwS 1 hts gX0_putOn_X0_unitNanos rfl rfl rfl (by decide +kernel) ⟨(Nat.le_of_ble_eq_true rfl), (Nat.le_of_ble_eq_true rfl)⟩) hE hS rfl rfl hl.1 (Nat.le_of_ble_eq_true rfl) dX0_putOn_1 ⟨(Nat.le_of_ble_eq_true rfl), (Nat.le_of_ble_eq_true rfl)⟩ (fun locs hS => ?_)
  refine W.eq (g2 := F0 m 4 ls [.long (j_X0_unitNanos a2)]) rfl ?_
  refine lv_lstore (lv' := [(5, .long (j_X0_unitNanos a2)), (0, .long a0), (2, .int a2), (3, .long a3)]) hx hb dX0_putOn_4 hl (by decide) rfl (fun ls hl => ?_)
  refine lv_lload hx hb dX0_putOn_6 (lv_at hl 0 rfl) ?_
  refine lv_lconst (v := 0) hx hb dX0_putOn_8 (by decide) ?_
  refine kl_gt (tgt := 15) hx hb dX0_putOn_9 dX0_putOn_10 (by decide) (fun c_1 => ?_) (fun c_1 => ?_)
  · refine lv_ldc2 (v := 86400000000000) hx hb hown (hts (.constantLong RX0 201 (86400000000000)) (by decide +kernel)) dX0_putOn_15 ?_
    refine lv_lload hx hb dX0_putOn_18 (lv_at hl 0 rfl) ?_
    refine lv_ldiv hx hb dX0_putOn_20 (k_nz1 c_1) ?_
    refine lv_lstore (lv' := [(7, .long (86400000000000 / (j_X0_unitNanos a2))), (5, .long (j_X0_unitNanos a2)), (0, .long a0), (2, .int a2), (3, .long a3)]) hx hb dX0_putOn_21 hl (by decide) rfl (fun ls hl => ?_)
    refine lv_lload hx hb dX0_putOn_23 (lv_at hl 0 rfl) ?_
    refine lv_lconst (v := 0) hx hb dX0_putOn_25 (by decide) ?_
    refine kl_gt (tgt := 32) hx hb dX0_putOn_26 dX0_putOn_27 (by decide) (fun c_2 => ?_) (fun c_2 => ?_)
    · refine lv_lload_n hx hb dX0_putOn_32 rfl (lv_at hl 4 rfl) ?_
      refine lv_lload hx hb dX0_putOn_33 (lv_at hl 0 rfl) ?_
      refine k_pS [.long a3, .long (86400000000000 / (j_X0_unitNanos a2))] (rest := []) ⟨hx, hb, hml, hown, hts⟩ (c_J9_floorMod_f86c9 l D cB cJ _ a3 (86400000000000 / (j_X0_unitNanos a2)) (k_nz1 c_2)) (va_cwS 2 hts gX0_putOn_J9_floorMod_f86c9 rfl rfl rfl (by decide +kernel) ⟨(Nat.le_of_ble_eq_true rfl), (Nat.le_of_ble_eq_true rfl)⟩) hE hS rfl rfl hl.1 (Nat.le_of_ble_eq_true rfl) dX0_putOn_35 ⟨(Nat.le_of_ble_eq_true rfl), (Nat.le_of_ble_eq_true rfl)⟩ (fun locs hS => ?_)
      refine W.eq (g2 := F0 m 38 ls [.long (j_J9_floorMod_f86c9 a3 (86400000000000 / (j_X0_unitNanos a2)))]) rfl ?_
      refine lv_lload hx hb dX0_putOn_38 (lv_at hl 1 rfl) ?_
      refine lv_lmul hx hb dX0_putOn_40 ?_
      refine lv_lstore (lv' := [(9, .long ((j_J9_floorMod_f86c9 a3 (86400000000000 / (j_X0_unitNanos a2))) * (j_X0_unitNanos a2))), (7, .long (86400000000000 / (j_X0_unitNanos a2))), (5, .long (j_X0_unitNanos a2)), (0, .long a0), (2, .int a2), (3, .long a3)]) hx hb dX0_putOn_41 hl (by decide) rfl (fun ls hl => ?_)
      refine lv_lload_n hx hb dX0_putOn_43 rfl (lv_at hl 3 rfl) ?_
      refine lv_lload hx hb dX0_putOn_44 (lv_at hl 0 rfl) ?_
      refine lv_ladd hx hb dX0_putOn_46 ?_
      refine lv_ldc2 (v := 86400000000000) hx hb hown (hts (.constantLong RX0 201 (86400000000000)) (by decide +kernel)) dX0_putOn_47 ?_
      refine lv_lrem hx hb dX0_putOn_50 (by decide) ?_
      exact k_lret hx hb hr hlocks hS dX0_putOn_51 ⟨by rw [j_X0_putOn, if_pos c_1, if_pos c_2], rfl⟩
    · refine lv_lload_n hx hb dX0_putOn_30 rfl (lv_at hl 2 rfl) ?_
      exact k_lret hx hb hr hlocks hS dX0_putOn_31 ⟨by rw [j_X0_putOn, if_pos c_1, if_neg c_2], rfl⟩
  · refine lv_lload_n hx hb dX0_putOn_13 rfl (lv_at hl 1 rfl) ?_
    exact k_lret hx hb hr hlocks hS dX0_putOn_14 ⟨by rw [j_X0_putOn, if_neg c_1], rfl⟩
def j_X0_cutNumber (a0 : Int64) (a2 : Int32) : Int64 := (if (j_X0_unitNanos a2) ≤ 0 then a0 else (a0 - (a0 - (a0 / (j_X0_unitNanos a2)) * (j_X0_unitNanos a2))))
set_option maxHeartbeats 4000000 in
set_option maxRecDepth 100000 in
theorem c_X0_cutNumber (l : Launch) (D : va_G) (cB cJ : ClassId) (Hp : Heap) (a0 : Int64) (a2 : Int32) : kM l D cB cJ yX0_cutNumber wsX0_cutNumber ({ frames := 1, cells := 0, slots := 0, locals := 20 }) kF Hp [.long a0, .int a2] (kP (some (.long (j_X0_cutNumber a0 a2))) Hp) 0 0 := by
  refine Met.ofW (cc := cX0_cutNumber) (maxL := 5) (ret := (some .long)) (by decide) rfl ?_
  intro p e s m args below meth c s₁ B hml hv
  obtain ⟨rfl, hHp, hE⟩ := hv
  subst hHp
  have hx := B.exec
  have hb := B.bytes
  have hr := B.returns
  have hts := atoms_spec (ws := wsX0_cutNumber) B.pre
  have hown : s.vm.findClass RX0 = some m.cls := findClass_of_methodNamed B.named
  have hlocks := B.notSynchronized
  have hK := hE.1
  have hS : va_S kF s.heap s.heap [] := va_S.rf
  have hl := lv_entry ([.long a0, .int a2]) (n := 5) (Nat.le_of_ble_eq_true rfl)
  rw [lg_entry_eq]
  generalize (lg_sl ([.long a0, .int a2]) ++ List.replicate (5 - (lg_sl ([.long a0, .int a2])).length) Slot.unset).toArray = ls at hl ⊢
  have hl : lv_has ls 5 [(0, .long a0), (2, .int a2)] := hl
  refine lv_iload_n hx hb dX0_cutNumber_0 rfl (lv_at hl 1 rfl) ?_
  refine k_pS [.int a2] (rest := []) ⟨hx, hb, hml, hown, hts⟩ (c_X0_unitNanos l D cB cJ _ a2) (va_cwS 1 hts gX0_cutNumber_X0_unitNanos rfl rfl rfl (by decide +kernel) ⟨(Nat.le_of_ble_eq_true rfl), (Nat.le_of_ble_eq_true rfl)⟩) hE hS rfl rfl hl.1 (Nat.le_of_ble_eq_true rfl) dX0_cutNumber_1 ⟨(Nat.le_of_ble_eq_true rfl), (Nat.le_of_ble_eq_true rfl)⟩ (fun locs hS => ?_)
  refine W.eq (g2 := F0 m 4 ls [.long (j_X0_unitNanos a2)]) rfl ?_
  refine lv_lstore_n (lv' := [(3, .long (j_X0_unitNanos a2)), (0, .long a0), (2, .int a2)]) hx hb dX0_cutNumber_4 rfl hl (by decide) rfl (fun ls hl => ?_)
  refine lv_lload_n hx hb dX0_cutNumber_5 rfl (lv_at hl 0 rfl) ?_
  refine lv_lconst (v := 0) hx hb dX0_cutNumber_6 (by decide) ?_
  refine kl_le (tgt := 19) hx hb dX0_cutNumber_7 dX0_cutNumber_8 (by decide) (fun c_1 => ?_) (fun c_1 => ?_)
  · refine lv_lload_n hx hb dX0_cutNumber_19 rfl (lv_at hl 1 rfl) ?_
    exact k_lret hx hb hr hlocks hS dX0_cutNumber_20 ⟨by rw [j_X0_cutNumber, if_pos c_1], rfl⟩
  · refine lv_lload_n hx hb dX0_cutNumber_11 rfl (lv_at hl 1 rfl) ?_
    refine lv_lload_n hx hb dX0_cutNumber_12 rfl (lv_at hl 1 rfl) ?_
    refine lv_lload_n hx hb dX0_cutNumber_13 rfl (lv_at hl 0 rfl) ?_
    refine lv_lrem hx hb dX0_cutNumber_14 (k_nz2 c_1) ?_
    refine lv_lsub hx hb dX0_cutNumber_15 ?_
    refine lv_goto (tgt := 20) hx hb dX0_cutNumber_16 (by decide) ?_
    exact k_lret hx hb hr hlocks hS dX0_cutNumber_20 ⟨by rw [j_X0_cutNumber, if_neg c_1], rfl⟩
def j_X0_unitsBetween (a0 : Int64) (a2 : Int64) (a4 : Int32) : Int64 := (if (j_X0_unitNanos a4) ≤ 0 then 0 else ((a2 - a0) / (j_X0_unitNanos a4)))
set_option maxHeartbeats 4000000 in
set_option maxRecDepth 100000 in
theorem c_X0_unitsBetween (l : Launch) (D : va_G) (cB cJ : ClassId) (Hp : Heap) (a0 : Int64) (a2 : Int64) (a4 : Int32) : kM l D cB cJ yX0_unitsBetween wsX0_unitsBetween ({ frames := 1, cells := 0, slots := 0, locals := 20 }) kF Hp [.long a0, .long a2, .int a4] (kP (some (.long (j_X0_unitsBetween a0 a2 a4))) Hp) 0 0 := by
  refine Met.ofW (cc := cX0_unitsBetween) (maxL := 7) (ret := (some .long)) (by decide) rfl ?_
  intro p e s m args below meth c s₁ B hml hv
  obtain ⟨rfl, hHp, hE⟩ := hv
  subst hHp
  have hx := B.exec
  have hb := B.bytes
  have hr := B.returns
  have hts := atoms_spec (ws := wsX0_unitsBetween) B.pre
  have hown : s.vm.findClass RX0 = some m.cls := findClass_of_methodNamed B.named
  have hlocks := B.notSynchronized
  have hK := hE.1
  have hS : va_S kF s.heap s.heap [] := va_S.rf
  have hl := lv_entry ([.long a0, .long a2, .int a4]) (n := 7) (Nat.le_of_ble_eq_true rfl)
  rw [lg_entry_eq]
  generalize (lg_sl ([.long a0, .long a2, .int a4]) ++ List.replicate (7 - (lg_sl ([.long a0, .long a2, .int a4])).length) Slot.unset).toArray = ls at hl ⊢
  have hl : lv_has ls 7 [(0, .long a0), (2, .long a2), (4, .int a4)] := hl
  refine lv_iload hx hb dX0_unitsBetween_0 (lv_at hl 2 rfl) ?_
  refine k_pS [.int a4] (rest := []) ⟨hx, hb, hml, hown, hts⟩ (c_X0_unitNanos l D cB cJ _ a4) (va_cwS 1 hts gX0_unitsBetween_X0_unitNanos rfl rfl rfl (by decide +kernel) ⟨(Nat.le_of_ble_eq_true rfl), (Nat.le_of_ble_eq_true rfl)⟩) hE hS rfl rfl hl.1 (Nat.le_of_ble_eq_true rfl) dX0_unitsBetween_2 ⟨(Nat.le_of_ble_eq_true rfl), (Nat.le_of_ble_eq_true rfl)⟩ (fun locs hS => ?_)
  refine W.eq (g2 := F0 m 5 ls [.long (j_X0_unitNanos a4)]) rfl ?_
  refine lv_lstore (lv' := [(5, .long (j_X0_unitNanos a4)), (0, .long a0), (2, .long a2), (4, .int a4)]) hx hb dX0_unitsBetween_5 hl (by decide) rfl (fun ls hl => ?_)
  refine lv_lload hx hb dX0_unitsBetween_7 (lv_at hl 0 rfl) ?_
  refine lv_lconst (v := 0) hx hb dX0_unitsBetween_9 (by decide) ?_
  refine kl_le (tgt := 23) hx hb dX0_unitsBetween_10 dX0_unitsBetween_11 (by decide) (fun c_1 => ?_) (fun c_1 => ?_)
  · refine lv_lconst (v := 0) hx hb dX0_unitsBetween_23 (by decide) ?_
    exact k_lret hx hb hr hlocks hS dX0_unitsBetween_24 ⟨by rw [j_X0_unitsBetween, if_pos c_1], rfl⟩
  · refine lv_lload_n hx hb dX0_unitsBetween_14 rfl (lv_at hl 2 rfl) ?_
    refine lv_lload_n hx hb dX0_unitsBetween_15 rfl (lv_at hl 1 rfl) ?_
    refine lv_lsub hx hb dX0_unitsBetween_16 ?_
    refine lv_lload hx hb dX0_unitsBetween_17 (lv_at hl 0 rfl) ?_
    refine lv_ldiv hx hb dX0_unitsBetween_19 (k_nz2 c_1) ?_
    refine lv_goto (tgt := 24) hx hb dX0_unitsBetween_20 (by decide) ?_
    exact k_lret hx hb hr hlocks hS dX0_unitsBetween_24 ⟨by rw [j_X0_unitsBetween, if_neg c_1], rfl⟩
def j_X0_reckonedOn (a0 : Int64) (a2 : Int32) (a3 : Int64) : Int64 := (if 1000000000 ≤ (j_X0_unitNanos a2) then (((((a0 / 1000000000) + (a3 * ((j_X0_unitNanos a2) / 1000000000))) - (((a0 / 1000000000) + (a3 * ((j_X0_unitNanos a2) / 1000000000))) / 86400) * 86400) * 1000000000) + (a0 - (a0 / 1000000000) * 1000000000)) else ((a0 + (a3 * (j_X0_unitNanos a2))) - ((a0 + (a3 * (j_X0_unitNanos a2))) / 86400000000000) * 86400000000000))
set_option maxHeartbeats 4000000 in
set_option maxRecDepth 100000 in
theorem c_X0_reckonedOn (l : Launch) (D : va_G) (cB cJ : ClassId) (Hp : Heap) (a0 : Int64) (a2 : Int32) (a3 : Int64) : kM l D cB cJ yX0_reckonedOn wsX0_reckonedOn ({ frames := 1, cells := 0, slots := 0, locals := 20 }) kF Hp [.long a0, .int a2, .long a3] (kP (some (.long (j_X0_reckonedOn a0 a2 a3))) Hp) 0 0 := by
  refine Met.ofW (cc := cX0_reckonedOn) (maxL := 9) (ret := (some .long)) (by decide) rfl ?_
  intro p e s m args below meth c s₁ B hml hv
  obtain ⟨rfl, hHp, hE⟩ := hv
  subst hHp
  have hx := B.exec
  have hb := B.bytes
  have hr := B.returns
  have hts := atoms_spec (ws := wsX0_reckonedOn) B.pre
  have hown : s.vm.findClass RX0 = some m.cls := findClass_of_methodNamed B.named
  have hlocks := B.notSynchronized
  have hK := hE.1
  have hS : va_S kF s.heap s.heap [] := va_S.rf
  have hl := lv_entry ([.long a0, .int a2, .long a3]) (n := 9) (Nat.le_of_ble_eq_true rfl)
  rw [lg_entry_eq]
  generalize (lg_sl ([.long a0, .int a2, .long a3]) ++ List.replicate (9 - (lg_sl ([.long a0, .int a2, .long a3])).length) Slot.unset).toArray = ls at hl ⊢
  have hl : lv_has ls 9 [(0, .long a0), (2, .int a2), (3, .long a3)] := hl
  refine lv_iload_n hx hb dX0_reckonedOn_0 rfl (lv_at hl 1 rfl) ?_
  refine k_pS [.int a2] (rest := []) ⟨hx, hb, hml, hown, hts⟩ (c_X0_unitNanos l D cB cJ _ a2) (va_cwS 1 hts gX0_reckonedOn_X0_unitNanos rfl rfl rfl (by decide +kernel) ⟨(Nat.le_of_ble_eq_true rfl), (Nat.le_of_ble_eq_true rfl)⟩) hE hS rfl rfl hl.1 (Nat.le_of_ble_eq_true rfl) dX0_reckonedOn_1 ⟨(Nat.le_of_ble_eq_true rfl), (Nat.le_of_ble_eq_true rfl)⟩ (fun locs hS => ?_)
  refine W.eq (g2 := F0 m 4 ls [.long (j_X0_unitNanos a2)]) rfl ?_
  refine lv_lstore (lv' := [(5, .long (j_X0_unitNanos a2)), (0, .long a0), (2, .int a2), (3, .long a3)]) hx hb dX0_reckonedOn_4 hl (by decide) rfl (fun ls hl => ?_)
  refine lv_lload hx hb dX0_reckonedOn_6 (lv_at hl 0 rfl) ?_
  refine lv_ldc2 (v := 1000000000) hx hb hown (hts (.constantLong RX0 39 (1000000000)) (by decide +kernel)) dX0_reckonedOn_8 ?_
  refine kl_ge (tgt := 26) hx hb dX0_reckonedOn_11 dX0_reckonedOn_12 (by decide) (fun c_1 => ?_) (fun c_1 => ?_)
  · refine lv_lload_n hx hb dX0_reckonedOn_26 rfl (lv_at hl 1 rfl) ?_
    refine lv_ldc2 (v := 1000000000) hx hb hown (hts (.constantLong RX0 39 (1000000000)) (by decide +kernel)) dX0_reckonedOn_27 ?_
    refine lv_ldiv hx hb dX0_reckonedOn_30 (by decide) ?_
    refine lv_lload_n hx hb dX0_reckonedOn_31 rfl (lv_at hl 3 rfl) ?_
    refine lv_lload hx hb dX0_reckonedOn_32 (lv_at hl 0 rfl) ?_
    refine lv_ldc2 (v := 1000000000) hx hb hown (hts (.constantLong RX0 39 (1000000000)) (by decide +kernel)) dX0_reckonedOn_34 ?_
    refine lv_ldiv hx hb dX0_reckonedOn_37 (by decide) ?_
    refine lv_lmul hx hb dX0_reckonedOn_38 ?_
    refine lv_ladd hx hb dX0_reckonedOn_39 ?_
    refine lv_lstore (lv' := [(7, .long ((a0 / 1000000000) + (a3 * ((j_X0_unitNanos a2) / 1000000000)))), (5, .long (j_X0_unitNanos a2)), (0, .long a0), (2, .int a2), (3, .long a3)]) hx hb dX0_reckonedOn_40 hl (by decide) rfl (fun ls hl => ?_)
    refine lv_lload hx hb dX0_reckonedOn_42 (lv_at hl 0 rfl) ?_
    refine lv_ldc2 (v := 86400) hx hb hown (hts (.constantLong RX0 230 (86400)) (by decide +kernel)) dX0_reckonedOn_44 ?_
    refine lv_lrem hx hb dX0_reckonedOn_47 (by decide) ?_
    refine lv_ldc2 (v := 1000000000) hx hb hown (hts (.constantLong RX0 39 (1000000000)) (by decide +kernel)) dX0_reckonedOn_48 ?_
    refine lv_lmul hx hb dX0_reckonedOn_51 ?_
    refine lv_lload_n hx hb dX0_reckonedOn_52 rfl (lv_at hl 2 rfl) ?_
    refine lv_ldc2 (v := 1000000000) hx hb hown (hts (.constantLong RX0 39 (1000000000)) (by decide +kernel)) dX0_reckonedOn_53 ?_
    refine lv_lrem hx hb dX0_reckonedOn_56 (by decide) ?_
    refine lv_ladd hx hb dX0_reckonedOn_57 ?_
    exact k_lret hx hb hr hlocks hS dX0_reckonedOn_58 ⟨by rw [j_X0_reckonedOn, if_pos c_1], rfl⟩
  · refine lv_lload_n hx hb dX0_reckonedOn_15 rfl (lv_at hl 1 rfl) ?_
    refine lv_lload_n hx hb dX0_reckonedOn_16 rfl (lv_at hl 3 rfl) ?_
    refine lv_lload hx hb dX0_reckonedOn_17 (lv_at hl 0 rfl) ?_
    refine lv_lmul hx hb dX0_reckonedOn_19 ?_
    refine lv_ladd hx hb dX0_reckonedOn_20 ?_
    refine lv_ldc2 (v := 86400000000000) hx hb hown (hts (.constantLong RX0 201 (86400000000000)) (by decide +kernel)) dX0_reckonedOn_21 ?_
    refine lv_lrem hx hb dX0_reckonedOn_24 (by decide) ?_
    exact k_lret hx hb hr hlocks hS dX0_reckonedOn_25 ⟨by rw [j_X0_reckonedOn, if_neg c_1], rfl⟩
def j_X0_stepHolds (a0 : Int64) (a2 : Int32) (a3 : Int64) : Int32 := (if (j_X0_putOn a0 a2 a3) = (j_X0_reckonedOn a0 a2 a3) then (if (j_X0_putOn (j_X0_putOn a0 a2 a3) a2 (-a3)) = a0 then 1 else 0) else 0)
set_option maxHeartbeats 4000000 in
set_option maxRecDepth 100000 in
theorem c_X0_stepHolds (l : Launch) (D : va_G) (cB cJ : ClassId) (Hp : Heap) (a0 : Int64) (a2 : Int32) (a3 : Int64) : kM l D cB cJ yX0_stepHolds wsX0_stepHolds ({ frames := 2, cells := 0, slots := 0, locals := 55 }) kF Hp [.long a0, .int a2, .long a3] (kP (some (.int (j_X0_stepHolds a0 a2 a3))) Hp) 0 0 := by
  refine Met.ofW (cc := cX0_stepHolds) (maxL := 7) (ret := (some .boolean)) (by decide) rfl ?_
  intro p e s m args below meth c s₁ B hml hv
  obtain ⟨rfl, hHp, hE⟩ := hv
  subst hHp
  have hx := B.exec
  have hb := B.bytes
  have hr := B.returns
  have hts := atoms_spec (ws := wsX0_stepHolds) B.pre
  have hown : s.vm.findClass RX0 = some m.cls := findClass_of_methodNamed B.named
  have hlocks := B.notSynchronized
  have hK := hE.1
  have hS : va_S kF s.heap s.heap [] := va_S.rf
  have hl := lv_entry ([.long a0, .int a2, .long a3]) (n := 7) (Nat.le_of_ble_eq_true rfl)
  rw [lg_entry_eq]
  generalize (lg_sl ([.long a0, .int a2, .long a3]) ++ List.replicate (7 - (lg_sl ([.long a0, .int a2, .long a3])).length) Slot.unset).toArray = ls at hl ⊢
  have hl : lv_has ls 7 [(0, .long a0), (2, .int a2), (3, .long a3)] := hl
  refine lv_lload_n hx hb dX0_stepHolds_0 rfl (lv_at hl 0 rfl) ?_
  refine lv_iload_n hx hb dX0_stepHolds_1 rfl (lv_at hl 1 rfl) ?_
  refine lv_lload_n hx hb dX0_stepHolds_2 rfl (lv_at hl 2 rfl) ?_
  refine k_pS [.long a0, .int a2, .long a3] (rest := []) ⟨hx, hb, hml, hown, hts⟩ (c_X0_putOn l D cB cJ _ a0 a2 a3) (va_cwS 3 hts gX0_stepHolds_X0_putOn rfl rfl rfl (by decide +kernel) ⟨(Nat.le_of_ble_eq_true rfl), (Nat.le_of_ble_eq_true rfl)⟩) hE hS rfl rfl hl.1 (Nat.le_of_ble_eq_true rfl) dX0_stepHolds_3 ⟨(Nat.le_of_ble_eq_true rfl), (Nat.le_of_ble_eq_true rfl)⟩ (fun locs hS => ?_)
  refine W.eq (g2 := F0 m 6 ls [.long (j_X0_putOn a0 a2 a3)]) rfl ?_
  refine lv_lstore (lv' := [(5, .long (j_X0_putOn a0 a2 a3)), (0, .long a0), (2, .int a2), (3, .long a3)]) hx hb dX0_stepHolds_6 hl (by decide) rfl (fun ls hl => ?_)
  refine lv_lload hx hb dX0_stepHolds_8 (lv_at hl 0 rfl) ?_
  refine lv_lload_n hx hb dX0_stepHolds_10 rfl (lv_at hl 1 rfl) ?_
  refine lv_iload_n hx hb dX0_stepHolds_11 rfl (lv_at hl 2 rfl) ?_
  refine lv_lload_n hx hb dX0_stepHolds_12 rfl (lv_at hl 3 rfl) ?_
  refine k_pS [.long a0, .int a2, .long a3] (rest := [.long (j_X0_putOn a0 a2 a3)]) ⟨hx, hb, hml, hown, hts⟩ (c_X0_reckonedOn l D cB cJ _ a0 a2 a3) (va_cwS 3 hts gX0_stepHolds_X0_reckonedOn rfl rfl rfl (by decide +kernel) ⟨(Nat.le_of_ble_eq_true rfl), (Nat.le_of_ble_eq_true rfl)⟩) hE hS rfl rfl hl.1 (Nat.le_of_ble_eq_true rfl) dX0_stepHolds_13 ⟨(Nat.le_of_ble_eq_true rfl), (Nat.le_of_ble_eq_true rfl)⟩ (fun locs hS => ?_)
  refine W.eq (g2 := F0 m 16 ls [.long (j_X0_reckonedOn a0 a2 a3), .long (j_X0_putOn a0 a2 a3)]) rfl ?_
  refine kl_ne (tgt := 37) hx hb dX0_stepHolds_16 dX0_stepHolds_17 (by decide) (fun c_1 => ?_) (fun c_1 => ?_)
  · refine lv_iconst (v := 0) hx hb dX0_stepHolds_37 (by decide) ?_
    exact k_zret hx hb hr (Or.inl rfl) hlocks hS dX0_stepHolds_38 ⟨by rw [j_X0_stepHolds, if_neg c_1], rfl⟩
  · refine lv_lload hx hb dX0_stepHolds_20 (lv_at hl 0 rfl) ?_
    refine lv_iload_n hx hb dX0_stepHolds_22 rfl (lv_at hl 2 rfl) ?_
    refine lv_lload_n hx hb dX0_stepHolds_23 rfl (lv_at hl 3 rfl) ?_
    refine lv_lneg hx hb dX0_stepHolds_24 ?_
    refine k_pS [.long (j_X0_putOn a0 a2 a3), .int a2, .long (-a3)] (rest := []) ⟨hx, hb, hml, hown, hts⟩ (c_X0_putOn l D cB cJ _ (j_X0_putOn a0 a2 a3) a2 (-a3)) (va_cwS 3 hts gX0_stepHolds_X0_putOn rfl rfl rfl (by decide +kernel) ⟨(Nat.le_of_ble_eq_true rfl), (Nat.le_of_ble_eq_true rfl)⟩) hE hS rfl rfl hl.1 (Nat.le_of_ble_eq_true rfl) dX0_stepHolds_25 ⟨(Nat.le_of_ble_eq_true rfl), (Nat.le_of_ble_eq_true rfl)⟩ (fun locs hS => ?_)
    refine W.eq (g2 := F0 m 28 ls [.long (j_X0_putOn (j_X0_putOn a0 a2 a3) a2 (-a3))]) rfl ?_
    refine lv_lload_n hx hb dX0_stepHolds_28 rfl (lv_at hl 1 rfl) ?_
    refine kl_ne (tgt := 37) hx hb dX0_stepHolds_29 dX0_stepHolds_30 (by decide) (fun c_2 => ?_) (fun c_2 => ?_)
    · refine lv_iconst (v := 0) hx hb dX0_stepHolds_37 (by decide) ?_
      exact k_zret hx hb hr (Or.inl rfl) hlocks hS dX0_stepHolds_38 ⟨by rw [j_X0_stepHolds, if_pos c_1, if_neg c_2], rfl⟩
    · refine lv_iconst (v := 1) hx hb dX0_stepHolds_33 (by decide) ?_
      refine lv_goto (tgt := 38) hx hb dX0_stepHolds_34 (by decide) ?_
      exact k_zret hx hb hr (Or.inr rfl) hlocks hS dX0_stepHolds_38 ⟨by rw [j_X0_stepHolds, if_pos c_1, if_pos c_2], rfl⟩
def j_X0_sideOf (a0 : Int64) (a2 : Int64) : Int32 := (if a2 ≤ a0 then (if a0 ≤ a2 then 0 else 1) else (-1))
set_option maxHeartbeats 4000000 in
set_option maxRecDepth 100000 in
theorem c_X0_sideOf (l : Launch) (D : va_G) (cB cJ : ClassId) (Hp : Heap) (a0 : Int64) (a2 : Int64) : kM l D cB cJ yX0_sideOf wsX0_sideOf ({ frames := 0, cells := 0, slots := 0, locals := 0 }) kF Hp [.long a0, .long a2] (kP (some (.int (j_X0_sideOf a0 a2))) Hp) 0 0 := by
  refine Met.ofW (cc := cX0_sideOf) (maxL := 4) (ret := (some .int)) (by decide) rfl ?_
  intro p e s m args below meth c s₁ B hml hv
  obtain ⟨rfl, hHp, hE⟩ := hv
  subst hHp
  have hx := B.exec
  have hb := B.bytes
  have hr := B.returns
  have hts := atoms_spec (ws := wsX0_sideOf) B.pre
  have hown : s.vm.findClass RX0 = some m.cls := findClass_of_methodNamed B.named
  have hlocks := B.notSynchronized
  have hK := hE.1
  have hS : va_S kF s.heap s.heap [] := va_S.rf
  have hl := lv_entry ([.long a0, .long a2]) (n := 4) (Nat.le_of_ble_eq_true rfl)
  rw [lg_entry_eq]
  generalize (lg_sl ([.long a0, .long a2]) ++ List.replicate (4 - (lg_sl ([.long a0, .long a2])).length) Slot.unset).toArray = ls at hl ⊢
  have hl : lv_has ls 4 [(0, .long a0), (2, .long a2)] := hl
  refine lv_lload_n hx hb dX0_sideOf_0 rfl (lv_at hl 0 rfl) ?_
  refine lv_lload_n hx hb dX0_sideOf_1 rfl (lv_at hl 1 rfl) ?_
  refine kl_ge (tgt := 8) hx hb dX0_sideOf_2 dX0_sideOf_3 (by decide) (fun c_1 => ?_) (fun c_1 => ?_)
  · refine lv_lload_n hx hb dX0_sideOf_8 rfl (lv_at hl 0 rfl) ?_
    refine lv_lload_n hx hb dX0_sideOf_9 rfl (lv_at hl 1 rfl) ?_
    refine kl_le (tgt := 18) hx hb dX0_sideOf_10 dX0_sideOf_11 (by decide) (fun c_2 => ?_) (fun c_2 => ?_)
    · refine lv_iconst (v := 0) hx hb dX0_sideOf_18 (by decide) ?_
      exact k_iret hx hb hr hlocks hS dX0_sideOf_19 ⟨by rw [j_X0_sideOf, if_pos c_1, if_pos c_2], rfl⟩
    · refine lv_iconst (v := 1) hx hb dX0_sideOf_14 (by decide) ?_
      refine lv_goto (tgt := 19) hx hb dX0_sideOf_15 (by decide) ?_
      exact k_iret hx hb hr hlocks hS dX0_sideOf_19 ⟨by rw [j_X0_sideOf, if_pos c_1, if_neg c_2], rfl⟩
  · refine lv_iconst (v := (-1)) hx hb dX0_sideOf_6 (by decide) ?_
    exact k_iret hx hb hr hlocks hS dX0_sideOf_7 ⟨by rw [j_X0_sideOf, if_neg c_1], rfl⟩
