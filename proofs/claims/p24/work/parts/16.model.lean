def j_X2_isIn (a0 : Int32) (a1 : Int32) (a2 : Int32) : Int32 := (if a0 < a1 then 0 else (if a2 < a0 then 0 else 1))
set_option maxHeartbeats 4000000 in
set_option maxRecDepth 100000 in
theorem c_X2_isIn (l : Launch) (D : va_G) (cB cJ : ClassId) (Hp : Heap) (a0 : Int32) (a1 : Int32) (a2 : Int32) : kM l D cB cJ yX2_isIn wsX2_isIn ({ frames := 0, cells := 0, slots := 0, locals := 0 }) kF Hp [.int a0, .int a1, .int a2] (kP (some (.int (j_X2_isIn a0 a1 a2))) Hp) 0 0 := by
  refine Met.ofW (cc := cX2_isIn) (maxL := 3) (ret := (some .boolean)) (by decide) rfl ?_
  intro p e s m args below meth c s₁ B hml hv
  obtain ⟨rfl, hHp, hE⟩ := hv
  subst hHp
  have hx := B.exec
  have hb := B.bytes
  have hr := B.returns
  have hts := atoms_spec (ws := wsX2_isIn) B.pre
  have hown : s.vm.findClass RX2 = some m.cls := findClass_of_methodNamed B.named
  have hlocks := B.notSynchronized
  have hK := hE.1
  have hS : va_S kF s.heap s.heap [] := va_S.rf
  have hl := lv_entry ([.int a0, .int a1, .int a2]) (n := 3) (Nat.le_of_ble_eq_true rfl)
  rw [lg_entry_eq]
  generalize (lg_sl ([.int a0, .int a1, .int a2]) ++ List.replicate (3 - (lg_sl ([.int a0, .int a1, .int a2])).length) Slot.unset).toArray = ls at hl ⊢
  have hl : lv_has ls 3 [(0, .int a0), (1, .int a1), (2, .int a2)] := hl
  refine lv_iload_n hx hb dX2_isIn_0 rfl (lv_at hl 0 rfl) ?_
  refine lv_iload_n hx hb dX2_isIn_1 rfl (lv_at hl 1 rfl) ?_
  refine lv_icmp_lt (tgt := 14) hx hb dX2_isIn_2 (by decide) (fun c_1 => ?_) (fun c_1 => ?_)
  · refine lv_iconst (v := 0) hx hb dX2_isIn_14 (by decide) ?_
    exact k_zret hx hb hr (Or.inl rfl) hlocks hS dX2_isIn_15 ⟨by rw [j_X2_isIn, if_pos c_1], rfl⟩
  · refine lv_iload_n hx hb dX2_isIn_5 rfl (lv_at hl 0 rfl) ?_
    refine lv_iload_n hx hb dX2_isIn_6 rfl (lv_at hl 2 rfl) ?_
    refine lv_icmp_gt (tgt := 14) hx hb dX2_isIn_7 (by decide) (fun c_2 => ?_) (fun c_2 => ?_)
    · refine lv_iconst (v := 0) hx hb dX2_isIn_14 (by decide) ?_
      exact k_zret hx hb hr (Or.inl rfl) hlocks hS dX2_isIn_15 ⟨by rw [j_X2_isIn, if_neg c_1, if_pos c_2], rfl⟩
    · refine lv_iconst (v := 1) hx hb dX2_isIn_10 (by decide) ?_
      refine lv_goto (tgt := 15) hx hb dX2_isIn_11 (by decide) ?_
      exact k_zret hx hb hr (Or.inr rfl) hlocks hS dX2_isIn_15 ⟨by rw [j_X2_isIn, if_neg c_1, if_neg c_2], rfl⟩
def j_X2_isNone (a0 : Int32) : Int32 := (if (j_X2_isIn a0 0 7) = 0 then 1 else 0)
set_option maxHeartbeats 4000000 in
set_option maxRecDepth 100000 in
theorem c_X2_isNone (l : Launch) (D : va_G) (cB cJ : ClassId) (Hp : Heap) (a0 : Int32) : kM l D cB cJ yX2_isNone wsX2_isNone ({ frames := 1, cells := 0, slots := 0, locals := 22 }) kF Hp [.int a0] (kP (some (.int (j_X2_isNone a0))) Hp) 0 0 := by
  refine Met.ofW (cc := cX2_isNone) (maxL := 1) (ret := (some .boolean)) (by decide) rfl ?_
  intro p e s m args below meth c s₁ B hml hv
  obtain ⟨rfl, hHp, hE⟩ := hv
  subst hHp
  have hx := B.exec
  have hb := B.bytes
  have hr := B.returns
  have hts := atoms_spec (ws := wsX2_isNone) B.pre
  have hown : s.vm.findClass RX2 = some m.cls := findClass_of_methodNamed B.named
  have hlocks := B.notSynchronized
  have hK := hE.1
  have hS : va_S kF s.heap s.heap [] := va_S.rf
  have hl := lv_entry ([.int a0]) (n := 1) (Nat.le_of_ble_eq_true rfl)
  rw [lg_entry_eq]
  generalize (lg_sl ([.int a0]) ++ List.replicate (1 - (lg_sl ([.int a0])).length) Slot.unset).toArray = ls at hl ⊢
  have hl : lv_has ls 1 [(0, .int a0)] := hl
  refine lv_iload_n hx hb dX2_isNone_0 rfl (lv_at hl 0 rfl) ?_
  refine lv_iconst (v := 0) hx hb dX2_isNone_1 (by decide) ?_
  refine lv_bipush (v := 7) hx hb dX2_isNone_2 (by decide) ?_
  refine k_pS [.int a0, .int 0, .int 7] (rest := []) ⟨hx, hb, hml, hown, hts⟩ (c_X2_isIn l D cB cJ _ a0 0 7) (va_cwS 3 hts gX2_isNone_X2_isIn rfl rfl rfl (by decide +kernel) ⟨(Nat.le_of_ble_eq_true rfl), (Nat.le_of_ble_eq_true rfl)⟩) hE hS rfl rfl hl.1 (Nat.le_of_ble_eq_true rfl) dX2_isNone_4 ⟨(Nat.le_of_ble_eq_true rfl), (Nat.le_of_ble_eq_true rfl)⟩ (fun locs hS => ?_)
  refine W.eq (g2 := F0 m 7 ls [.int (j_X2_isIn a0 0 7)]) rfl ?_
  refine lv_if_ne (tgt := 14) hx hb dX2_isNone_7 (by decide) (fun c_1 => ?_) (fun c_1 => ?_)
  · refine lv_iconst (v := 0) hx hb dX2_isNone_14 (by decide) ?_
    exact k_zret hx hb hr (Or.inl rfl) hlocks hS dX2_isNone_15 ⟨by rw [j_X2_isNone, if_neg c_1], rfl⟩
  · refine lv_iconst (v := 1) hx hb dX2_isNone_10 (by decide) ?_
    refine lv_goto (tgt := 15) hx hb dX2_isNone_11 (by decide) ?_
    exact k_zret hx hb hr (Or.inr rfl) hlocks hS dX2_isNone_15 ⟨by rw [j_X2_isNone, if_pos c_1], rfl⟩
def j_X2_secondOf (a0 : Int64) : Int32 := (a0 / 1000000000).toInt32
set_option maxHeartbeats 4000000 in
set_option maxRecDepth 100000 in
theorem c_X2_secondOf (l : Launch) (D : va_G) (cB cJ : ClassId) (Hp : Heap) (a0 : Int64) : kM l D cB cJ yX2_secondOf wsX2_secondOf ({ frames := 0, cells := 0, slots := 0, locals := 0 }) kF Hp [.long a0] (kP (some (.int (j_X2_secondOf a0))) Hp) 0 0 := by
  refine Met.ofW (cc := cX2_secondOf) (maxL := 2) (ret := (some .int)) (by decide) rfl ?_
  intro p e s m args below meth c s₁ B hml hv
  obtain ⟨rfl, hHp, hE⟩ := hv
  subst hHp
  have hx := B.exec
  have hb := B.bytes
  have hr := B.returns
  have hts := atoms_spec (ws := wsX2_secondOf) B.pre
  have hown : s.vm.findClass RX2 = some m.cls := findClass_of_methodNamed B.named
  have hlocks := B.notSynchronized
  have hK := hE.1
  have hS : va_S kF s.heap s.heap [] := va_S.rf
  have hl := lv_entry ([.long a0]) (n := 2) (Nat.le_of_ble_eq_true rfl)
  rw [lg_entry_eq]
  generalize (lg_sl ([.long a0]) ++ List.replicate (2 - (lg_sl ([.long a0])).length) Slot.unset).toArray = ls at hl ⊢
  have hl : lv_has ls 2 [(0, .long a0)] := hl
  refine lv_lload_n hx hb dX2_secondOf_0 rfl (lv_at hl 0 rfl) ?_
  refine lv_ldc2 (v := 1000000000) hx hb hown (hts (.constantLong RX2 29 (1000000000)) (by decide +kernel)) dX2_secondOf_1 ?_
  refine lv_ldiv hx hb dX2_secondOf_4 (by decide) ?_
  refine lv_l2i (v := (a0 / 1000000000).toInt32) hx hb dX2_secondOf_5 rfl ?_
  exact k_iret hx hb hr hlocks hS dX2_secondOf_6 ⟨by rw [j_X2_secondOf], rfl⟩
def j_X2_part (a0 : Int64) (a2 : Int32) : Int32 := (if a2 = 0 then ((j_X2_secondOf a0) / 3600) else (if a2 = 1 then (((j_X2_secondOf a0) - ((j_X2_secondOf a0) / 3600) * 3600) / 60) else (if a2 = 2 then ((j_X2_secondOf a0) - ((j_X2_secondOf a0) / 60) * 60) else (if a2 = 3 then (a0 - (a0 / 1000000000) * 1000000000).toInt32 else (j_X2_secondOf a0)))))
set_option maxHeartbeats 4000000 in
set_option maxRecDepth 100000 in
theorem c_X2_part (l : Launch) (D : va_G) (cB cJ : ClassId) (Hp : Heap) (a0 : Int64) (a2 : Int32) : kM l D cB cJ yX2_part wsX2_part ({ frames := 1, cells := 0, slots := 0, locals := 21 }) kF Hp [.long a0, .int a2] (kP (some (.int (j_X2_part a0 a2))) Hp) 0 0 := by
  refine Met.ofW (cc := cX2_part) (maxL := 4) (ret := (some .int)) (by decide) rfl ?_
  intro p e s m args below meth c s₁ B hml hv
  obtain ⟨rfl, hHp, hE⟩ := hv
  subst hHp
  have hx := B.exec
  have hb := B.bytes
  have hr := B.returns
  have hts := atoms_spec (ws := wsX2_part) B.pre
  have hown : s.vm.findClass RX2 = some m.cls := findClass_of_methodNamed B.named
  have hlocks := B.notSynchronized
  have hK := hE.1
  have hS : va_S kF s.heap s.heap [] := va_S.rf
  have hl := lv_entry ([.long a0, .int a2]) (n := 4) (Nat.le_of_ble_eq_true rfl)
  rw [lg_entry_eq]
  generalize (lg_sl ([.long a0, .int a2]) ++ List.replicate (4 - (lg_sl ([.long a0, .int a2])).length) Slot.unset).toArray = ls at hl ⊢
  have hl : lv_has ls 4 [(0, .long a0), (2, .int a2)] := hl
  refine lv_lload_n hx hb dX2_part_0 rfl (lv_at hl 0 rfl) ?_
  refine k_pS [.long a0] (rest := []) ⟨hx, hb, hml, hown, hts⟩ (c_X2_secondOf l D cB cJ _ a0) (va_cwS 1 hts gX2_part_X2_secondOf rfl rfl rfl (by decide +kernel) ⟨(Nat.le_of_ble_eq_true rfl), (Nat.le_of_ble_eq_true rfl)⟩) hE hS rfl rfl hl.1 (Nat.le_of_ble_eq_true rfl) dX2_part_1 ⟨(Nat.le_of_ble_eq_true rfl), (Nat.le_of_ble_eq_true rfl)⟩ (fun locs hS => ?_)
  refine W.eq (g2 := F0 m 4 ls [.int (j_X2_secondOf a0)]) rfl ?_
  refine lv_istore_n (lv' := [(3, .int (j_X2_secondOf a0)), (0, .long a0), (2, .int a2)]) hx hb dX2_part_4 rfl hl (by decide) rfl (fun ls hl => ?_)
  refine lv_iload_n hx hb dX2_part_5 rfl (lv_at hl 2 rfl) ?_
  by_cases c_1 : a2 = 0
  · refine lv_tableIn (tgt := 36) hx hb dX2_part_6 (by rw [c_1]; decide) (by rw [c_1]; decide) (off := 30) (by rw [c_1]; decide) (by decide) ?_
    refine lv_iload_n hx hb dX2_part_36 rfl (lv_at hl 0 rfl) ?_
    refine lv_sipush (v := 3600) hx hb dX2_part_37 (by decide) ?_
    refine lv_idiv hx hb dX2_part_40 (by decide) ?_
    exact k_iret hx hb hr hlocks hS dX2_part_41 ⟨by rw [j_X2_part, if_pos c_1], rfl⟩
  by_cases c_2 : a2 = 1
  · refine lv_tableIn (tgt := 42) hx hb dX2_part_6 (by rw [c_2]; decide) (by rw [c_2]; decide) (off := 36) (by rw [c_2]; decide) (by decide) ?_
    refine lv_iload_n hx hb dX2_part_42 rfl (lv_at hl 0 rfl) ?_
    refine lv_sipush (v := 3600) hx hb dX2_part_43 (by decide) ?_
    refine lv_irem hx hb dX2_part_46 (by decide) ?_
    refine lv_bipush (v := 60) hx hb dX2_part_47 (by decide) ?_
    refine lv_idiv hx hb dX2_part_49 (by decide) ?_
    exact k_iret hx hb hr hlocks hS dX2_part_50 ⟨by rw [j_X2_part, if_neg c_1, if_pos c_2], rfl⟩
  by_cases c_3 : a2 = 2
  · refine lv_tableIn (tgt := 51) hx hb dX2_part_6 (by rw [c_3]; decide) (by rw [c_3]; decide) (off := 45) (by rw [c_3]; decide) (by decide) ?_
    refine lv_iload_n hx hb dX2_part_51 rfl (lv_at hl 0 rfl) ?_
    refine lv_bipush (v := 60) hx hb dX2_part_52 (by decide) ?_
    refine lv_irem hx hb dX2_part_54 (by decide) ?_
    exact k_iret hx hb hr hlocks hS dX2_part_55 ⟨by rw [j_X2_part, if_neg c_1, if_neg c_2, if_pos c_3], rfl⟩
  by_cases c_4 : a2 = 3
  · refine lv_tableIn (tgt := 56) hx hb dX2_part_6 (by rw [c_4]; decide) (by rw [c_4]; decide) (off := 50) (by rw [c_4]; decide) (by decide) ?_
    refine lv_lload_n hx hb dX2_part_56 rfl (lv_at hl 1 rfl) ?_
    refine lv_ldc2 (v := 1000000000) hx hb hown (hts (.constantLong RX2 29 (1000000000)) (by decide +kernel)) dX2_part_57 ?_
    refine lv_lrem hx hb dX2_part_60 (by decide) ?_
    refine lv_l2i (v := (a0 - (a0 / 1000000000) * 1000000000).toInt32) hx hb dX2_part_61 rfl ?_
    exact k_iret hx hb hr hlocks hS dX2_part_62 ⟨by rw [j_X2_part, if_neg c_1, if_neg c_2, if_neg c_3, if_pos c_4], rfl⟩
  refine lv_tableOut (tgt := 63) hx hb dX2_part_6 (k_tout4 c_1 c_2 c_3 c_4) (by decide) ?_
  refine lv_iload_n hx hb dX2_part_63 rfl (lv_at hl 0 rfl) ?_
  exact k_iret hx hb hr hlocks hS dX2_part_64 ⟨by rw [j_X2_part, if_neg c_1, if_neg c_2, if_neg c_3, if_neg c_4], rfl⟩
def j_X2_isNoStep (a0 : Int32) : Int32 := (if a0 = 0 then 0 else (if (j_X2_isIn a0 3 5) = 0 then 1 else 0))
set_option maxHeartbeats 4000000 in
set_option maxRecDepth 100000 in
theorem c_X2_isNoStep (l : Launch) (D : va_G) (cB cJ : ClassId) (Hp : Heap) (a0 : Int32) : kM l D cB cJ yX2_isNoStep wsX2_isNoStep ({ frames := 1, cells := 0, slots := 0, locals := 22 }) kF Hp [.int a0] (kP (some (.int (j_X2_isNoStep a0))) Hp) 0 0 := by
  refine Met.ofW (cc := cX2_isNoStep) (maxL := 1) (ret := (some .boolean)) (by decide) rfl ?_
  intro p e s m args below meth c s₁ B hml hv
  obtain ⟨rfl, hHp, hE⟩ := hv
  subst hHp
  have hx := B.exec
  have hb := B.bytes
  have hr := B.returns
  have hts := atoms_spec (ws := wsX2_isNoStep) B.pre
  have hown : s.vm.findClass RX2 = some m.cls := findClass_of_methodNamed B.named
  have hlocks := B.notSynchronized
  have hK := hE.1
  have hS : va_S kF s.heap s.heap [] := va_S.rf
  have hl := lv_entry ([.int a0]) (n := 1) (Nat.le_of_ble_eq_true rfl)
  rw [lg_entry_eq]
  generalize (lg_sl ([.int a0]) ++ List.replicate (1 - (lg_sl ([.int a0])).length) Slot.unset).toArray = ls at hl ⊢
  have hl : lv_has ls 1 [(0, .int a0)] := hl
  refine lv_iload_n hx hb dX2_isNoStep_0 rfl (lv_at hl 0 rfl) ?_
  refine lv_if_eq (tgt := 17) hx hb dX2_isNoStep_1 (by decide) (fun c_1 => ?_) (fun c_1 => ?_)
  · refine lv_iconst (v := 0) hx hb dX2_isNoStep_17 (by decide) ?_
    exact k_zret hx hb hr (Or.inl rfl) hlocks hS dX2_isNoStep_18 ⟨by rw [j_X2_isNoStep, if_pos c_1], rfl⟩
  · refine lv_iload_n hx hb dX2_isNoStep_4 rfl (lv_at hl 0 rfl) ?_
    refine lv_iconst (v := 3) hx hb dX2_isNoStep_5 (by decide) ?_
    refine lv_iconst (v := 5) hx hb dX2_isNoStep_6 (by decide) ?_
    refine k_pS [.int a0, .int 3, .int 5] (rest := []) ⟨hx, hb, hml, hown, hts⟩ (c_X2_isIn l D cB cJ _ a0 3 5) (va_cwS 3 hts gX2_isNoStep_X2_isIn rfl rfl rfl (by decide +kernel) ⟨(Nat.le_of_ble_eq_true rfl), (Nat.le_of_ble_eq_true rfl)⟩) hE hS rfl rfl hl.1 (Nat.le_of_ble_eq_true rfl) dX2_isNoStep_7 ⟨(Nat.le_of_ble_eq_true rfl), (Nat.le_of_ble_eq_true rfl)⟩ (fun locs hS => ?_)
    refine W.eq (g2 := F0 m 10 ls [.int (j_X2_isIn a0 3 5)]) rfl ?_
    refine lv_if_ne (tgt := 17) hx hb dX2_isNoStep_10 (by decide) (fun c_2 => ?_) (fun c_2 => ?_)
    · refine lv_iconst (v := 0) hx hb dX2_isNoStep_17 (by decide) ?_
      exact k_zret hx hb hr (Or.inl rfl) hlocks hS dX2_isNoStep_18 ⟨by rw [j_X2_isNoStep, if_neg c_1, if_neg c_2], rfl⟩
    · refine lv_iconst (v := 1) hx hb dX2_isNoStep_13 (by decide) ?_
      refine lv_goto (tgt := 18) hx hb dX2_isNoStep_14 (by decide) ?_
      exact k_zret hx hb hr (Or.inr rfl) hlocks hS dX2_isNoStep_18 ⟨by rw [j_X2_isNoStep, if_neg c_1, if_pos c_2], rfl⟩
def j_X2_order (a0 : Int64) (a2 : Int64) : Int32 := (if a2 ≤ a0 then (if a0 ≤ a2 then 0 else 1) else (-1))
set_option maxHeartbeats 4000000 in
set_option maxRecDepth 100000 in
theorem c_X2_order (l : Launch) (D : va_G) (cB cJ : ClassId) (Hp : Heap) (a0 : Int64) (a2 : Int64) : kM l D cB cJ yX2_order wsX2_order ({ frames := 0, cells := 0, slots := 0, locals := 0 }) kF Hp [.long a0, .long a2] (kP (some (.int (j_X2_order a0 a2))) Hp) 0 0 := by
  refine Met.ofW (cc := cX2_order) (maxL := 4) (ret := (some .int)) (by decide) rfl ?_
  intro p e s m args below meth c s₁ B hml hv
  obtain ⟨rfl, hHp, hE⟩ := hv
  subst hHp
  have hx := B.exec
  have hb := B.bytes
  have hr := B.returns
  have hts := atoms_spec (ws := wsX2_order) B.pre
  have hown : s.vm.findClass RX2 = some m.cls := findClass_of_methodNamed B.named
  have hlocks := B.notSynchronized
  have hK := hE.1
  have hS : va_S kF s.heap s.heap [] := va_S.rf
  have hl := lv_entry ([.long a0, .long a2]) (n := 4) (Nat.le_of_ble_eq_true rfl)
  rw [lg_entry_eq]
  generalize (lg_sl ([.long a0, .long a2]) ++ List.replicate (4 - (lg_sl ([.long a0, .long a2])).length) Slot.unset).toArray = ls at hl ⊢
  have hl : lv_has ls 4 [(0, .long a0), (2, .long a2)] := hl
  refine lv_lload_n hx hb dX2_order_0 rfl (lv_at hl 0 rfl) ?_
  refine lv_lload_n hx hb dX2_order_1 rfl (lv_at hl 1 rfl) ?_
  refine kl_ge (tgt := 10) hx hb dX2_order_2 dX2_order_3 (by decide) (fun c_1 => ?_) (fun c_1 => ?_)
  · refine lv_lload_n hx hb dX2_order_10 rfl (lv_at hl 0 rfl) ?_
    refine lv_lload_n hx hb dX2_order_11 rfl (lv_at hl 1 rfl) ?_
    refine kl_le (tgt := 20) hx hb dX2_order_12 dX2_order_13 (by decide) (fun c_2 => ?_) (fun c_2 => ?_)
    · refine lv_iconst (v := 0) hx hb dX2_order_20 (by decide) ?_
      exact k_iret hx hb hr hlocks hS dX2_order_21 ⟨by rw [j_X2_order, if_pos c_1, if_pos c_2], rfl⟩
    · refine lv_iconst (v := 1) hx hb dX2_order_16 (by decide) ?_
      refine lv_goto (tgt := 21) hx hb dX2_order_17 (by decide) ?_
      exact k_iret hx hb hr hlocks hS dX2_order_21 ⟨by rw [j_X2_order, if_pos c_1, if_neg c_2], rfl⟩
  · refine lv_iconst (v := (-1)) hx hb dX2_order_6 (by decide) ?_
    refine lv_goto (tgt := 21) hx hb dX2_order_7 (by decide) ?_
    exact k_iret hx hb hr hlocks hS dX2_order_21 ⟨by rw [j_X2_order, if_neg c_1], rfl⟩
def j_X2_add (a0 : Int64) (a2 : Int64) : Int64 := ((a0 * 31) + a2)
set_option maxHeartbeats 4000000 in
set_option maxRecDepth 100000 in
theorem c_X2_add (l : Launch) (D : va_G) (cB cJ : ClassId) (Hp : Heap) (a0 : Int64) (a2 : Int64) : kM l D cB cJ yX2_add wsX2_add ({ frames := 0, cells := 0, slots := 0, locals := 0 }) kF Hp [.long a0, .long a2] (kP (some (.long (j_X2_add a0 a2))) Hp) 0 0 := by
  refine Met.ofW (cc := cX2_add) (maxL := 4) (ret := (some .long)) (by decide) rfl ?_
  intro p e s m args below meth c s₁ B hml hv
  obtain ⟨rfl, hHp, hE⟩ := hv
  subst hHp
  have hx := B.exec
  have hb := B.bytes
  have hr := B.returns
  have hts := atoms_spec (ws := wsX2_add) B.pre
  have hown : s.vm.findClass RX2 = some m.cls := findClass_of_methodNamed B.named
  have hlocks := B.notSynchronized
  have hK := hE.1
  have hS : va_S kF s.heap s.heap [] := va_S.rf
  have hl := lv_entry ([.long a0, .long a2]) (n := 4) (Nat.le_of_ble_eq_true rfl)
  rw [lg_entry_eq]
  generalize (lg_sl ([.long a0, .long a2]) ++ List.replicate (4 - (lg_sl ([.long a0, .long a2])).length) Slot.unset).toArray = ls at hl ⊢
  have hl : lv_has ls 4 [(0, .long a0), (2, .long a2)] := hl
  refine lv_lload_n hx hb dX2_add_0 rfl (lv_at hl 0 rfl) ?_
  refine lv_ldc2 (v := 31) hx hb hown (hts (.constantLong RX2 124 (31)) (by decide +kernel)) dX2_add_1 ?_
  refine lv_lmul hx hb dX2_add_4 ?_
  refine lv_lload_n hx hb dX2_add_5 rfl (lv_at hl 1 rfl) ?_
  refine lv_ladd hx hb dX2_add_6 ?_
  exact k_lret hx hb hr hlocks hS dX2_add_7 ⟨by rw [j_X2_add], rfl⟩
abbrev rm_X2_size : Room := { frames := 0, cells := 0, slots := 0, locals := 0 }
def jl_X2_size_4 (a0 : Int32)  (k9 : Int64 → Int32 → Int64) : Nat → Int64 → Int32 → Int64
  | 0, _, _ => 0
  | u9 + 1, v1, v3 => (if a0 ≤ v3 then (k9 v1 v3) else (if 3 ≤ v3 then (k9 v1 v3) else (jl_X2_size_4 a0  k9 u9 (v1 * 1000) (v3 + 1))))
def jt_X2_size_4 (a0 : Int32)  (t9 : Int64 → Int32 → Prop) : Nat → Int64 → Int32 → Prop
  | 0, _, _ => False
  | u9 + 1, v1, v3 => ((a0 ≤ v3 → (t9 v1 v3)) ∧ (¬ (a0 ≤ v3) → ((3 ≤ v3 → (t9 v1 v3)) ∧ (¬ (3 ≤ v3) → (jt_X2_size_4 a0  t9 u9 (v1 * 1000) (v3 + 1))))))
set_option maxHeartbeats 4000000 in
set_option maxRecDepth 100000 in
theorem lp_X2_size_4 {p : Program} {l : Launch} {e : Env} {s : State} {m : MethodId} {args : Array Value} {below : List Frame} {meth : Method} {c : Code} {D : va_G} {cB cJ : ClassId} (a0 : Int32)  (J : Int64) (hx : p.tables.exec = Jvm.exec) (hb : c.code = cX2_size) (hml : c.maxLocals = 4) (hr : meth.sig.returnType = (some .long)) (hlocks : meth.locks = false) (hown : s.vm.findClass RX2 = some m.cls) (hts : ∀ w ∈ wsX2_size, w.before args s = true) (hE : kE D cB cJ kF s s.heap)  (k9 : Int64 → Int32 → Int64) (t9 : Int64 → Int32 → Prop) (kk : ∀ (v1 : Int64) (v3 : Int32) (locs : List Loc) (ls : Array Slot), J = k9 v1 v3 → t9 v1 v3 → va_S kF s.heap s.heap locs → lv_has ls 4 [(0, .int a0), (1, .long v1), (3, .int v3)] → W p l e rm_X2_size s m args below meth c s.heap locs 0 0 (MQ below (kQ (kP (some (.long J)) s.heap) kF) args s 0 0 kF) (F0 m 26 ls [])) : ∀ (u9 : Nat) (v1 : Int64) (v3 : Int32) (locs : List Loc) (ls : Array Slot), J = jl_X2_size_4 a0  k9 u9 v1 v3 → jt_X2_size_4 a0  t9 u9 v1 v3 → va_S kF s.heap s.heap locs → lv_has ls 4 [(0, .int a0), (1, .long v1), (3, .int v3)] → W p l e rm_X2_size s m args below meth c s.heap locs 0 0 (MQ below (kQ (kP (some (.long J)) s.heap) kF) args s 0 0 kF) (F0 m 4 ls []) := by
  have hK := hE.1
  intro u9
  induction u9 with
  | zero =>
    intro v1 v3 locs ls hJ hT
    exact hT.elim
  | succ u9 ih =>
    intro v1 v3 locs ls hJ hT hS hl
    rw [jl_X2_size_4] at hJ
    rw [jt_X2_size_4] at hT
    refine lv_iload_n hx hb dX2_size_4 rfl (lv_at hl 2 rfl) ?_
    refine lv_iload_n hx hb dX2_size_5 rfl (lv_at hl 0 rfl) ?_
    refine lv_icmp_ge (tgt := 26) hx hb dX2_size_6 (by decide) (fun c_1001 => ?_) (fun c_1001 => ?_)
    · exact kk v1 v3 _ _ (hJ.trans (by rw [if_pos c_1001])) (hT.1 c_1001) hS (lv_sub hl [0, 1, 2] rfl)
    · refine lv_iload_n hx hb dX2_size_9 rfl (lv_at hl 2 rfl) ?_
      refine lv_iconst (v := 3) hx hb dX2_size_10 (by decide) ?_
      refine lv_icmp_ge (tgt := 26) hx hb dX2_size_11 (by decide) (fun c_1002 => ?_) (fun c_1002 => ?_)
      · exact kk v1 v3 _ _ (hJ.trans (by rw [if_neg c_1001, if_pos c_1002])) ((hT.2 c_1001).1 c_1002) hS (lv_sub hl [0, 1, 2] rfl)
      · refine lv_lload_n hx hb dX2_size_14 rfl (lv_at hl 1 rfl) ?_
        refine lv_ldc2 (v := 1000) hx hb hown (hts (.constantLong RX2 21 (1000)) (by decide +kernel)) dX2_size_15 ?_
        refine lv_lmul hx hb dX2_size_18 ?_
        refine lv_lstore_n (lv' := [(1, .long (v1 * 1000)), (0, .int a0), (3, .int v3)]) hx hb dX2_size_19 rfl hl (by decide) rfl (fun ls hl => ?_)
        refine lv_iinc (v := (v3 + 1)) (lv' := [(3, .int (v3 + 1)), (1, .long (v1 * 1000)), (0, .int a0)]) hx hb dX2_size_20 hl (k := 2) rfl rfl (by decide) rfl (fun ls hl => ?_)
        refine lv_goto (tgt := 4) hx hb dX2_size_23 (by decide) ?_
        exact ih (v1 * 1000) (v3 + 1) _ _ (hJ.trans (by rw [if_neg c_1001, if_neg c_1002])) ((hT.2 c_1001).2 c_1002) hS (lv_sub hl [2, 1, 0] rfl)
def jl_X2_size_28 (a0 : Int32)  (k9 : Int64 → Int32 → Int64) : Nat → Int64 → Int32 → Int64
  | 0, _, _ => 0
  | u9 + 1, v1, v3 => (if a0 ≤ v3 then (k9 v1 v3) else (if 5 ≤ v3 then (if v3 = 5 then (jl_X2_size_28 a0  k9 u9 (v1 * 12) (v3 + 1)) else (jl_X2_size_28 a0  k9 u9 (v1 * 2) (v3 + 1))) else (jl_X2_size_28 a0  k9 u9 (v1 * 60) (v3 + 1))))
def jt_X2_size_28 (a0 : Int32)  (t9 : Int64 → Int32 → Prop) : Nat → Int64 → Int32 → Prop
  | 0, _, _ => False
  | u9 + 1, v1, v3 => ((a0 ≤ v3 → (t9 v1 v3)) ∧ (¬ (a0 ≤ v3) → ((5 ≤ v3 → ((v3 = 5 → (jt_X2_size_28 a0  t9 u9 (v1 * 12) (v3 + 1))) ∧ (¬ (v3 = 5) → (jt_X2_size_28 a0  t9 u9 (v1 * 2) (v3 + 1))))) ∧ (¬ (5 ≤ v3) → (jt_X2_size_28 a0  t9 u9 (v1 * 60) (v3 + 1))))))
set_option maxHeartbeats 4000000 in
set_option maxRecDepth 100000 in
theorem lp_X2_size_28 {p : Program} {l : Launch} {e : Env} {s : State} {m : MethodId} {args : Array Value} {below : List Frame} {meth : Method} {c : Code} {D : va_G} {cB cJ : ClassId} (a0 : Int32)  (J : Int64) (hx : p.tables.exec = Jvm.exec) (hb : c.code = cX2_size) (hml : c.maxLocals = 4) (hr : meth.sig.returnType = (some .long)) (hlocks : meth.locks = false) (hown : s.vm.findClass RX2 = some m.cls) (hts : ∀ w ∈ wsX2_size, w.before args s = true) (hE : kE D cB cJ kF s s.heap)  (k9 : Int64 → Int32 → Int64) (t9 : Int64 → Int32 → Prop) (kk : ∀ (v1 : Int64) (v3 : Int32) (locs : List Loc) (ls : Array Slot), J = k9 v1 v3 → t9 v1 v3 → va_S kF s.heap s.heap locs → lv_has ls 4 [(0, .int a0), (1, .long v1), (3, .int v3)] → W p l e rm_X2_size s m args below meth c s.heap locs 0 0 (MQ below (kQ (kP (some (.long J)) s.heap) kF) args s 0 0 kF) (F0 m 67 ls [])) : ∀ (u9 : Nat) (v1 : Int64) (v3 : Int32) (locs : List Loc) (ls : Array Slot), J = jl_X2_size_28 a0  k9 u9 v1 v3 → jt_X2_size_28 a0  t9 u9 v1 v3 → va_S kF s.heap s.heap locs → lv_has ls 4 [(0, .int a0), (1, .long v1), (3, .int v3)] → W p l e rm_X2_size s m args below meth c s.heap locs 0 0 (MQ below (kQ (kP (some (.long J)) s.heap) kF) args s 0 0 kF) (F0 m 28 ls []) := by
  have hK := hE.1
  intro u9
  induction u9 with
  | zero =>
    intro v1 v3 locs ls hJ hT
    exact hT.elim
  | succ u9 ih =>
    intro v1 v3 locs ls hJ hT hS hl
    rw [jl_X2_size_28] at hJ
    rw [jt_X2_size_28] at hT
    refine lv_iload_n hx hb dX2_size_28 rfl (lv_at hl 2 rfl) ?_
    refine lv_iload_n hx hb dX2_size_29 rfl (lv_at hl 0 rfl) ?_
    refine lv_icmp_ge (tgt := 67) hx hb dX2_size_30 (by decide) (fun c_1003 => ?_) (fun c_1003 => ?_)
    · exact kk v1 v3 _ _ (hJ.trans (by rw [if_pos c_1003])) (hT.1 c_1003) hS (lv_sub hl [0, 1, 2] rfl)
    · refine lv_lload_n hx hb dX2_size_33 rfl (lv_at hl 1 rfl) ?_
      refine lv_iload_n hx hb dX2_size_34 rfl (lv_at hl 2 rfl) ?_
      refine lv_iconst (v := 5) hx hb dX2_size_35 (by decide) ?_
      refine lv_icmp_ge (tgt := 45) hx hb dX2_size_36 (by decide) (fun c_1004 => ?_) (fun c_1004 => ?_)
      · refine lv_iload_n hx hb dX2_size_45 rfl (lv_at hl 2 rfl) ?_
        refine lv_iconst (v := 5) hx hb dX2_size_46 (by decide) ?_
        refine lv_icmp_ne (tgt := 56) hx hb dX2_size_47 (by decide) (fun c_1005 => ?_) (fun c_1005 => ?_)
        · refine lv_ldc2 (v := 2) hx hb hown (hts (.constantLong RX2 27 (2)) (by decide +kernel)) dX2_size_56 ?_
          refine lv_lmul hx hb dX2_size_59 ?_
          refine lv_lstore_n (lv' := [(1, .long (v1 * 2)), (0, .int a0), (3, .int v3)]) hx hb dX2_size_60 rfl hl (by decide) rfl (fun ls hl => ?_)
          refine lv_iinc (v := (v3 + 1)) (lv' := [(3, .int (v3 + 1)), (1, .long (v1 * 2)), (0, .int a0)]) hx hb dX2_size_61 hl (k := 2) rfl rfl (by decide) rfl (fun ls hl => ?_)
          refine lv_goto (tgt := 28) hx hb dX2_size_64 (by decide) ?_
          exact ih (v1 * 2) (v3 + 1) _ _ (hJ.trans (by rw [if_neg c_1003, if_pos c_1004, if_neg c_1005])) (((hT.2 c_1003).1 c_1004).2 c_1005) hS (lv_sub hl [2, 1, 0] rfl)
        · refine lv_ldc2 (v := 12) hx hb hown (hts (.constantLong RX2 25 (12)) (by decide +kernel)) dX2_size_50 ?_
          refine lv_goto (tgt := 59) hx hb dX2_size_53 (by decide) ?_
          refine lv_lmul hx hb dX2_size_59 ?_
          refine lv_lstore_n (lv' := [(1, .long (v1 * 12)), (0, .int a0), (3, .int v3)]) hx hb dX2_size_60 rfl hl (by decide) rfl (fun ls hl => ?_)
          refine lv_iinc (v := (v3 + 1)) (lv' := [(3, .int (v3 + 1)), (1, .long (v1 * 12)), (0, .int a0)]) hx hb dX2_size_61 hl (k := 2) rfl rfl (by decide) rfl (fun ls hl => ?_)
          refine lv_goto (tgt := 28) hx hb dX2_size_64 (by decide) ?_
          exact ih (v1 * 12) (v3 + 1) _ _ (hJ.trans (by rw [if_neg c_1003, if_pos c_1004, if_pos c_1005])) (((hT.2 c_1003).1 c_1004).1 c_1005) hS (lv_sub hl [2, 1, 0] rfl)
      · refine lv_ldc2 (v := 60) hx hb hown (hts (.constantLong RX2 23 (60)) (by decide +kernel)) dX2_size_39 ?_
        refine lv_goto (tgt := 59) hx hb dX2_size_42 (by decide) ?_
        refine lv_lmul hx hb dX2_size_59 ?_
        refine lv_lstore_n (lv' := [(1, .long (v1 * 60)), (0, .int a0), (3, .int v3)]) hx hb dX2_size_60 rfl hl (by decide) rfl (fun ls hl => ?_)
        refine lv_iinc (v := (v3 + 1)) (lv' := [(3, .int (v3 + 1)), (1, .long (v1 * 60)), (0, .int a0)]) hx hb dX2_size_61 hl (k := 2) rfl rfl (by decide) rfl (fun ls hl => ?_)
        refine lv_goto (tgt := 28) hx hb dX2_size_64 (by decide) ?_
        exact ih (v1 * 60) (v3 + 1) _ _ (hJ.trans (by rw [if_neg c_1003, if_neg c_1004])) ((hT.2 c_1003).2 c_1004) hS (lv_sub hl [2, 1, 0] rfl)
def j_X2_size (a0 : Int32) : Int64 := (jl_X2_size_4 a0  (fun (v_1 : Int64) (v_2 : Int32) => (jl_X2_size_28 a0  (fun (v_3 : Int64) (v_4 : Int32) => v_3) 100 v_1 3)) 100 1 0)
def T_X2_size (a0 : Int32) : Prop := (jt_X2_size_4 a0  (fun (v_1 : Int64) (v_2 : Int32) => (jt_X2_size_28 a0  (fun (v_3 : Int64) (v_4 : Int32) => True) 100 v_1 3)) 100 1 0)
set_option maxHeartbeats 4000000 in
set_option maxRecDepth 100000 in
theorem c_X2_size (l : Launch) (D : va_G) (cB cJ : ClassId) (Hp : Heap)  (a0 : Int32) (hT9 : T_X2_size a0) : kM l D cB cJ yX2_size wsX2_size rm_X2_size kF Hp [.int a0] (kP (some (.long (j_X2_size a0))) Hp) 0 0 := by
  refine Met.ofW (cc := cX2_size) (maxL := 4) (ret := (some .long)) (by decide) rfl ?_
  intro p e s m args below meth c s₁ B hml hv
  obtain ⟨rfl, hHp, hE⟩ := hv
  subst hHp
  have hx := B.exec
  have hb := B.bytes
  have hr := B.returns
  have hts := atoms_spec (ws := wsX2_size) B.pre
  have hown : s.vm.findClass RX2 = some m.cls := findClass_of_methodNamed B.named
  have hlocks := B.notSynchronized
  have hK := hE.1
  have hS : va_S kF s.heap s.heap [] := va_S.rf
  have hl := lv_entry ([.int a0]) (n := 4) (Nat.le_of_ble_eq_true rfl)
  rw [lg_entry_eq]
  generalize (lg_sl ([.int a0]) ++ List.replicate (4 - (lg_sl ([.int a0])).length) Slot.unset).toArray = ls at hl ⊢
  have hl : lv_has ls 4 [(0, .int a0)] := hl
  have hJ : (j_X2_size a0) = (jl_X2_size_4 a0  (fun (v_1 : Int64) (v_2 : Int32) => (jl_X2_size_28 a0  (fun (v_3 : Int64) (v_4 : Int32) => v_3) 100 v_1 3)) 100 1 0) := rfl
  have hT : (jt_X2_size_4 a0  (fun (v_1 : Int64) (v_2 : Int32) => (jt_X2_size_28 a0  (fun (v_3 : Int64) (v_4 : Int32) => True) 100 v_1 3)) 100 1 0) := hT9
  refine lv_lconst (v := 1) hx hb dX2_size_0 (by decide) ?_
  refine lv_lstore_n (lv' := [(1, .long 1), (0, .int a0)]) hx hb dX2_size_1 rfl hl (by decide) rfl (fun ls hl => ?_)
  refine lv_iconst (v := 0) hx hb dX2_size_2 (by decide) ?_
  refine lv_istore_n (lv' := [(3, .int 0), (1, .long 1), (0, .int a0)]) hx hb dX2_size_3 rfl hl (by decide) rfl (fun ls hl => ?_)
  refine lp_X2_size_4 a0  (j_X2_size a0) hx hb hml hr hlocks hown hts hE  (fun (v_1 : Int64) (v_2 : Int32) => (jl_X2_size_28 a0  (fun (v_3 : Int64) (v_4 : Int32) => v_3) 100 v_1 3)) (fun (v_1 : Int64) (v_2 : Int32) => (jt_X2_size_28 a0  (fun (v_3 : Int64) (v_4 : Int32) => True) 100 v_1 3)) (fun v_1 v_2 locs ls hJ hT hS hl => ?_) 100 1 0 _ _ hJ hT hS (lv_sub hl [2, 1, 0] rfl)
  (try dsimp only at hJ); (try dsimp only at hT)
  refine lv_iconst (v := 3) hx hb dX2_size_26 (by decide) ?_
  refine lv_istore_n (lv' := [(3, .int 3), (0, .int a0), (1, .long v_1)]) hx hb dX2_size_27 rfl hl (by decide) rfl (fun ls hl => ?_)
  refine lp_X2_size_28 a0  (j_X2_size a0) hx hb hml hr hlocks hown hts hE  (fun (v_3 : Int64) (v_4 : Int32) => v_3) (fun (v_3 : Int64) (v_4 : Int32) => True) (fun v_3 v_4 locs ls hJ hT hS hl => ?_) 100 v_1 3 _ _ hJ hT hS (lv_sub hl [1, 2, 0] rfl)
  (try dsimp only at hJ); (try dsimp only at hT)
  refine lv_lload_n hx hb dX2_size_67 rfl (lv_at hl 1 rfl) ?_
  exact k_lret hx hb hr hlocks hS dX2_size_68 ⟨by rw [hJ], rfl⟩
abbrev rm_X2_on : Room := { frames := 1, cells := 0, slots := 0, locals := 23 }
def j_X2_on (a0 : Int64) (a2 : Int32) (a3 : Int64) : Int64 := (if 0 ≤ (a0 + ((a3 - (a3 / (86400000000000 / (j_X2_size a2))) * (86400000000000 / (j_X2_size a2))) * (j_X2_size a2))) then (if (a0 + ((a3 - (a3 / (86400000000000 / (j_X2_size a2))) * (86400000000000 / (j_X2_size a2))) * (j_X2_size a2))) < 86400000000000 then (a0 + ((a3 - (a3 / (86400000000000 / (j_X2_size a2))) * (86400000000000 / (j_X2_size a2))) * (j_X2_size a2))) else ((a0 + ((a3 - (a3 / (86400000000000 / (j_X2_size a2))) * (86400000000000 / (j_X2_size a2))) * (j_X2_size a2))) - 86400000000000)) else ((a0 + ((a3 - (a3 / (86400000000000 / (j_X2_size a2))) * (86400000000000 / (j_X2_size a2))) * (j_X2_size a2))) + 86400000000000))
def T_X2_on (a0 : Int64) (a2 : Int32) (a3 : Int64) : Prop := (T_X2_size a2 ∧ (¬ (j_X2_size a2) = 0 ∧ (¬ (86400000000000 / (j_X2_size a2)) = 0 ∧ (T_X2_size a2 ∧ ((0 ≤ (a0 + ((a3 - (a3 / (86400000000000 / (j_X2_size a2))) * (86400000000000 / (j_X2_size a2))) * (j_X2_size a2))) → (((a0 + ((a3 - (a3 / (86400000000000 / (j_X2_size a2))) * (86400000000000 / (j_X2_size a2))) * (j_X2_size a2))) < 86400000000000 → True) ∧ (¬ ((a0 + ((a3 - (a3 / (86400000000000 / (j_X2_size a2))) * (86400000000000 / (j_X2_size a2))) * (j_X2_size a2))) < 86400000000000) → True))) ∧ (¬ (0 ≤ (a0 + ((a3 - (a3 / (86400000000000 / (j_X2_size a2))) * (86400000000000 / (j_X2_size a2))) * (j_X2_size a2)))) → True))))))
set_option maxHeartbeats 4000000 in
set_option maxRecDepth 100000 in
theorem c_X2_on (l : Launch) (D : va_G) (cB cJ : ClassId) (Hp : Heap)  (a0 : Int64) (a2 : Int32) (a3 : Int64) (hT9 : T_X2_on a0 a2 a3) : kM l D cB cJ yX2_on wsX2_on rm_X2_on kF Hp [.long a0, .int a2, .long a3] (kP (some (.long (j_X2_on a0 a2 a3))) Hp) 0 0 := by
  refine Met.ofW (cc := cX2_on) (maxL := 9) (ret := (some .long)) (by decide) rfl ?_
  intro p e s m args below meth c s₁ B hml hv
  obtain ⟨rfl, hHp, hE⟩ := hv
  subst hHp
  have hx := B.exec
  have hb := B.bytes
  have hr := B.returns
  have hts := atoms_spec (ws := wsX2_on) B.pre
  have hown : s.vm.findClass RX2 = some m.cls := findClass_of_methodNamed B.named
  have hlocks := B.notSynchronized
  have hK := hE.1
  have hS : va_S kF s.heap s.heap [] := va_S.rf
  have hl := lv_entry ([.long a0, .int a2, .long a3]) (n := 9) (Nat.le_of_ble_eq_true rfl)
  rw [lg_entry_eq]
  generalize (lg_sl ([.long a0, .int a2, .long a3]) ++ List.replicate (9 - (lg_sl ([.long a0, .int a2, .long a3])).length) Slot.unset).toArray = ls at hl ⊢
  have hl : lv_has ls 9 [(0, .long a0), (2, .int a2), (3, .long a3)] := hl
  have hJ : (j_X2_on a0 a2 a3) = (if 0 ≤ (a0 + ((a3 - (a3 / (86400000000000 / (j_X2_size a2))) * (86400000000000 / (j_X2_size a2))) * (j_X2_size a2))) then (if (a0 + ((a3 - (a3 / (86400000000000 / (j_X2_size a2))) * (86400000000000 / (j_X2_size a2))) * (j_X2_size a2))) < 86400000000000 then (a0 + ((a3 - (a3 / (86400000000000 / (j_X2_size a2))) * (86400000000000 / (j_X2_size a2))) * (j_X2_size a2))) else ((a0 + ((a3 - (a3 / (86400000000000 / (j_X2_size a2))) * (86400000000000 / (j_X2_size a2))) * (j_X2_size a2))) - 86400000000000)) else ((a0 + ((a3 - (a3 / (86400000000000 / (j_X2_size a2))) * (86400000000000 / (j_X2_size a2))) * (j_X2_size a2))) + 86400000000000)) := rfl
  have hT : (T_X2_size a2 ∧ (¬ (j_X2_size a2) = 0 ∧ (¬ (86400000000000 / (j_X2_size a2)) = 0 ∧ (T_X2_size a2 ∧ ((0 ≤ (a0 + ((a3 - (a3 / (86400000000000 / (j_X2_size a2))) * (86400000000000 / (j_X2_size a2))) * (j_X2_size a2))) → (((a0 + ((a3 - (a3 / (86400000000000 / (j_X2_size a2))) * (86400000000000 / (j_X2_size a2))) * (j_X2_size a2))) < 86400000000000 → True) ∧ (¬ ((a0 + ((a3 - (a3 / (86400000000000 / (j_X2_size a2))) * (86400000000000 / (j_X2_size a2))) * (j_X2_size a2))) < 86400000000000) → True))) ∧ (¬ (0 ≤ (a0 + ((a3 - (a3 / (86400000000000 / (j_X2_size a2))) * (86400000000000 / (j_X2_size a2))) * (j_X2_size a2)))) → True)))))) := hT9
  refine lv_ldc2 (v := 86400000000000) hx hb hown (hts (.constantLong RX2 64 (86400000000000)) (by decide +kernel)) dX2_on_0 ?_
  refine lv_iload_n hx hb dX2_on_3 rfl (lv_at hl 1 rfl) ?_
  refine k_pS [.int a2] (rest := [.long 86400000000000]) ⟨hx, hb, hml, hown, hts⟩ (c_X2_size l D cB cJ _ a2 hT.1) (va_cwS 1 hts gX2_on_X2_size rfl rfl rfl (by decide +kernel) ⟨(Nat.le_of_ble_eq_true rfl), (Nat.le_of_ble_eq_true rfl)⟩) hE hS rfl rfl hl.1 (Nat.le_of_ble_eq_true rfl) dX2_on_4 ⟨(Nat.le_of_ble_eq_true rfl), (Nat.le_of_ble_eq_true rfl)⟩ (fun locs hS => ?_)
  refine W.eq (g2 := F0 m 7 ls [.long (j_X2_size a2), .long 86400000000000]) rfl ?_
  refine lv_ldiv hx hb dX2_on_7 hT.2.1 ?_
  refine lv_lstore (lv' := [(5, .long (86400000000000 / (j_X2_size a2))), (0, .long a0), (2, .int a2), (3, .long a3)]) hx hb dX2_on_8 hl (by decide) rfl (fun ls hl => ?_)
  refine lv_lload_n hx hb dX2_on_10 rfl (lv_at hl 1 rfl) ?_
  refine lv_lload_n hx hb dX2_on_11 rfl (lv_at hl 3 rfl) ?_
  refine lv_lload hx hb dX2_on_12 (lv_at hl 0 rfl) ?_
  refine lv_lrem hx hb dX2_on_14 hT.2.2.1 ?_
  refine lv_iload_n hx hb dX2_on_15 rfl (lv_at hl 2 rfl) ?_
  refine k_pS [.int a2] (rest := [.long (a3 - (a3 / (86400000000000 / (j_X2_size a2))) * (86400000000000 / (j_X2_size a2))), .long a0]) ⟨hx, hb, hml, hown, hts⟩ (c_X2_size l D cB cJ _ a2 hT.2.2.2.1) (va_cwS 1 hts gX2_on_X2_size rfl rfl rfl (by decide +kernel) ⟨(Nat.le_of_ble_eq_true rfl), (Nat.le_of_ble_eq_true rfl)⟩) hE hS rfl rfl hl.1 (Nat.le_of_ble_eq_true rfl) dX2_on_16 ⟨(Nat.le_of_ble_eq_true rfl), (Nat.le_of_ble_eq_true rfl)⟩ (fun locs hS => ?_)
  refine W.eq (g2 := F0 m 19 ls [.long (j_X2_size a2), .long (a3 - (a3 / (86400000000000 / (j_X2_size a2))) * (86400000000000 / (j_X2_size a2))), .long a0]) rfl ?_
  refine lv_lmul hx hb dX2_on_19 ?_
  refine lv_ladd hx hb dX2_on_20 ?_
  refine lv_lstore (lv' := [(7, .long (a0 + ((a3 - (a3 / (86400000000000 / (j_X2_size a2))) * (86400000000000 / (j_X2_size a2))) * (j_X2_size a2)))), (5, .long (86400000000000 / (j_X2_size a2))), (0, .long a0), (2, .int a2), (3, .long a3)]) hx hb dX2_on_21 hl (by decide) rfl (fun ls hl => ?_)
  refine lv_lload hx hb dX2_on_23 (lv_at hl 0 rfl) ?_
  refine lv_lconst (v := 0) hx hb dX2_on_25 (by decide) ?_
  refine kl_ge (tgt := 39) hx hb dX2_on_26 dX2_on_27 (by decide) (fun c_1 => ?_) (fun c_1 => ?_)
  · refine lv_lload hx hb dX2_on_39 (lv_at hl 0 rfl) ?_
    refine lv_ldc2 (v := 86400000000000) hx hb hown (hts (.constantLong RX2 64 (86400000000000)) (by decide +kernel)) dX2_on_41 ?_
    refine kl_lt (tgt := 57) hx hb dX2_on_44 dX2_on_45 (by decide) (fun c_2 => ?_) (fun c_2 => ?_)
    · refine lv_lload hx hb dX2_on_57 (lv_at hl 0 rfl) ?_
      exact k_lret hx hb hr hlocks hS dX2_on_59 ⟨by rw [hJ, if_pos c_1, if_pos c_2], rfl⟩
    · refine lv_lload hx hb dX2_on_48 (lv_at hl 0 rfl) ?_
      refine lv_ldc2 (v := 86400000000000) hx hb hown (hts (.constantLong RX2 64 (86400000000000)) (by decide +kernel)) dX2_on_50 ?_
      refine lv_lsub hx hb dX2_on_53 ?_
      refine lv_goto (tgt := 59) hx hb dX2_on_54 (by decide) ?_
      exact k_lret hx hb hr hlocks hS dX2_on_59 ⟨by rw [hJ, if_pos c_1, if_neg c_2], rfl⟩
  · refine lv_lload hx hb dX2_on_30 (lv_at hl 0 rfl) ?_
    refine lv_ldc2 (v := 86400000000000) hx hb hown (hts (.constantLong RX2 64 (86400000000000)) (by decide +kernel)) dX2_on_32 ?_
    refine lv_ladd hx hb dX2_on_35 ?_
    refine lv_goto (tgt := 59) hx hb dX2_on_36 (by decide) ?_
    exact k_lret hx hb hr hlocks hS dX2_on_59 ⟨by rw [hJ, if_neg c_1], rfl⟩
abbrev rm_X2_apart : Room := { frames := 1, cells := 0, slots := 0, locals := 23 }
theorem iw_X2_apart_X2 : ∀ w ∈ wsX20, w ∈ wsX2_apart := by decide +kernel
def j_X2_apart (th : Int32) (g : Nat → Int64) (kn2 td : Int32) (a1 : Int32) (a2 : Int32) (a3 : Int32) : Int64 := (((g a2.toNatClampNeg) - (g a1.toNatClampNeg)) / (j_X2_size a3))
def T_X2_apart (th : Int32) (g : Nat → Int64) (kn2 td : Int32) (a1 : Int32) (a2 : Int32) (a3 : Int32) : Prop := (vp_in a2 8 ∧ (vp_in a1 8 ∧ (T_X2_size a3 ∧ (¬ (j_X2_size a3) = 0 ∧ True))))
set_option maxHeartbeats 4000000 in
set_option maxRecDepth 100000 in
theorem c_X2_apart (l : Launch) (D : va_G) (cB cJ : ClassId) (Hp : Heap) (y n2 : Nat) (th : Int32) (g : Nat → Int64) (kn2 td : Int32) (hP : va_P D vwCl (wMo y n2 cJ th g kn2 td) Hp) (a1 : Int32) (a2 : Int32) (a3 : Int32) (hT9 : T_X2_apart th g kn2 td a1 a2 a3) : kM l D cB cJ yX2_apart wsX2_apart rm_X2_apart kF Hp [.ref y, .int a1, .int a2, .int a3] (kP (some (.long (j_X2_apart th g kn2 td a1 a2 a3))) Hp) 0 0 := by
  refine Met.ofW (cc := cX2_apart) (maxL := 4) (ret := (some .long)) (by decide) rfl ?_
  intro p e s m args below meth c s₁ B hml hv
  obtain ⟨rfl, hHp, hE⟩ := hv
  subst hHp
  have hx := B.exec
  have hb := B.bytes
  have hr := B.returns
  have hts := atoms_spec (ws := wsX2_apart) B.pre
  have hown : s.vm.findClass RX2 = some m.cls := findClass_of_methodNamed B.named
  have hlocks := B.notSynchronized
  have hK := hE.1
  have hS : va_S kF s.heap s.heap [] := va_S.rf
  have hl := lv_entry ([.ref y, .int a1, .int a2, .int a3]) (n := 4) (Nat.le_of_ble_eq_true rfl)
  rw [lg_entry_eq]
  generalize (lg_sl ([.ref y, .int a1, .int a2, .int a3]) ++ List.replicate (4 - (lg_sl ([.ref y, .int a1, .int a2, .int a3])).length) Slot.unset).toArray = ls at hl ⊢
  have hl : lv_has ls 4 [(0, .ref y), (1, .int a1), (2, .int a2), (3, .int a3)] := hl
  have hJ : (j_X2_apart th g kn2 td a1 a2 a3) = (((g a2.toNatClampNeg) - (g a1.toNatClampNeg)) / (j_X2_size a3)) := rfl
  have hT : (vp_in a2 8 ∧ (vp_in a1 8 ∧ (T_X2_size a3 ∧ (¬ (j_X2_size a3) = 0 ∧ True)))) := hT9
  refine lv_aload_n hx hb dX2_apart_0 rfl (lv_at hl 0 rfl) ?_
  refine va_get (D := D) (ci := 4) (v := .ref n2) (C := RX2) (T := TX2) (N := 4) hx hb hts iw_X2_apart_X2 hown hK hP 0 rfl rfl 1 (by decide) (hts (.fieldLink RX2 9 "ClocksoloModel" "its" "[J") (by decide +kernel)) (fun _ h9 => h9) rfl dX2_apart_1 ?_
  refine lv_iload_n hx hb dX2_apart_4 rfl (lv_at hl 2 rfl) ?_
  refine va_lald hx hb hK hP 1 1 rfl rfl hT.1 dX2_apart_5 ?_
  refine lv_aload_n hx hb dX2_apart_6 rfl (lv_at hl 0 rfl) ?_
  refine va_get (D := D) (ci := 4) (v := .ref n2) (C := RX2) (T := TX2) (N := 4) hx hb hts iw_X2_apart_X2 hown hK hP 0 rfl rfl 1 (by decide) (hts (.fieldLink RX2 9 "ClocksoloModel" "its" "[J") (by decide +kernel)) (fun _ h9 => h9) rfl dX2_apart_7 ?_
  refine lv_iload_n hx hb dX2_apart_10 rfl (lv_at hl 1 rfl) ?_
  refine va_lald hx hb hK hP 1 1 rfl rfl hT.2.1 dX2_apart_11 ?_
  refine lv_lsub hx hb dX2_apart_12 ?_
  refine lv_iload_n hx hb dX2_apart_13 rfl (lv_at hl 3 rfl) ?_
  refine k_pS [.int a3] (rest := [.long ((g a2.toNatClampNeg) - (g a1.toNatClampNeg))]) ⟨hx, hb, hml, hown, hts⟩ (c_X2_size l D cB cJ _ a3 hT.2.2.1) (va_cwS 1 hts gX2_apart_X2_size rfl rfl rfl (by decide +kernel) ⟨(Nat.le_of_ble_eq_true rfl), (Nat.le_of_ble_eq_true rfl)⟩) hE hS rfl rfl hl.1 (Nat.le_of_ble_eq_true rfl) dX2_apart_14 ⟨(Nat.le_of_ble_eq_true rfl), (Nat.le_of_ble_eq_true rfl)⟩ (fun locs hS => ?_)
  refine W.eq (g2 := F0 m 17 ls [.long (j_X2_size a3), .long ((g a2.toNatClampNeg) - (g a1.toNatClampNeg))]) rfl ?_
  refine lv_ldiv hx hb dX2_apart_17 hT.2.2.2.1 ?_
  exact k_lret hx hb hr hlocks hS dX2_apart_18 ⟨by rw [hJ], rfl⟩
def j_stR (a b : Int32) : Int32 := if a = 0 then (if b = 0 then 0 else 1) else 1
def j_stT (a b : Int32) : Int32 := if a = 0 then (if b = 0 then 0 else 2) else 1
abbrev rm_X2_isStopped : Room := { frames := 0, cells := 0, slots := 0, locals := 0 }
theorem iw_X2_isStopped_X2 : ∀ w ∈ wsX20, w ∈ wsX2_isStopped := by decide +kernel
def j_X2_isStopped (th : Int32) (g : Nat → Int64) (kn2 td : Int32) (a1 : Int32) (a2 : Int32) : Int32 × Int32 × (Nat → Int64) × Int32 × Int32 := (if a1 = 0 then (if a2 = 0 then (0, 0, g, kn2, td) else (1, 2, g, kn2, td)) else (1, 1, g, kn2, td))
set_option maxHeartbeats 4000000 in
set_option maxRecDepth 100000 in
theorem c_X2_isStopped (l : Launch) (D : va_G) (cB cJ : ClassId) (Hp : Heap) (y n2 : Nat) (th : Int32) (g : Nat → Int64) (kn2 td : Int32) (hP : va_P D vwCl (wMo y n2 cJ th g kn2 td) Hp) (hD9 : va_D (fun _ => True) (wMo y n2 cJ th g kn2 td)) (a1 : Int32) (a2 : Int32) : kM l D cB cJ yX2_isStopped wsX2_isStopped rm_X2_isStopped (va_A (wMo y n2 cJ th g kn2 td) Hp.size) Hp [.ref y, .int a1, .int a2] (kPm D y n2 cJ (va_A (wMo y n2 cJ th g kn2 td) Hp.size) (j_X2_isStopped th g kn2 td a1 a2)) 0 0 := by
  refine Met.ofW (cc := cX2_isStopped) (maxL := 3) (ret := (some .boolean)) (by decide) rfl ?_
  intro p e s m args below meth c s₁ B hml hv
  obtain ⟨rfl, hHp, hE⟩ := hv
  subst hHp
  have hx := B.exec
  have hb := B.bytes
  have hr := B.returns
  have hts := atoms_spec (ws := wsX2_isStopped) B.pre
  have hown : s.vm.findClass RX2 = some m.cls := findClass_of_methodNamed B.named
  have hlocks := B.notSynchronized
  have hK := hE.1
  have hD := hD9.self (sz := s.heap.size)
  generalize hAe : va_A (wMo y n2 cJ th g kn2 td) s.heap.size = A at hE hD ⊢
  have hA : ∀ q : Nat, s.heap.size ≤ q → A q := fun q h => by rw [← hAe]; exact Or.inr h
  have hS : va_S A s.heap s.heap [] := va_S.rf
  have hl := lv_entry ([.ref y, .int a1, .int a2]) (n := 3) (Nat.le_of_ble_eq_true rfl)
  rw [lg_entry_eq]
  generalize (lg_sl ([.ref y, .int a1, .int a2]) ++ List.replicate (3 - (lg_sl ([.ref y, .int a1, .int a2])).length) Slot.unset).toArray = ls at hl ⊢
  have hl : lv_has ls 3 [(0, .ref y), (1, .int a1), (2, .int a2)] := hl
  have hJ : (j_X2_isStopped th g kn2 td a1 a2) = (if a1 = 0 then (if a2 = 0 then (0, 0, g, kn2, td) else (1, 2, g, kn2, td)) else (1, 1, g, kn2, td)) := rfl
  refine lv_aload_n hx hb dX2_isStopped_0 rfl (lv_at hl 0 rfl) ?_
  refine lv_iload_n hx hb dX2_isStopped_1 rfl (lv_at hl 1 rfl) ?_
  refine lv_if_eq (tgt := 9) hx hb dX2_isStopped_2 (by decide) (fun c_1 => ?_) (fun c_1 => ?_)
  · refine lv_iload_n hx hb dX2_isStopped_9 rfl (lv_at hl 2 rfl) ?_
    refine lv_if_eq (tgt := 17) hx hb dX2_isStopped_10 (by decide) (fun c_2 => ?_) (fun c_2 => ?_)
    · refine lv_iconst (v := 0) hx hb dX2_isStopped_17 (by decide) ?_
      refine va_put (D := D) (ci := 4) (v := .int 0) (ty := .int) (C := RX2) (T := TX2) (N := 4) hx hb hts iw_X2_isStopped_X2 tyX2 tyX2_ok nmX2 hown hK hP hD hS 0 rfl rfl 0 (by decide) (hts (.fieldLink RX2 13 "ClocksoloModel" "thrown" "I") (by decide +kernel)) (fun _ h9 => h9) rfl (by decide +kernel) rfl rfl (Nat.le_of_ble_eq_true rfl) dX2_isStopped_18 (fun H locs hP hD hS => ?_)
      have hP : va_P D vwCl [(y, .inr (4, [.int 0, .ref n2, .int kn2, .int td])), (n2, .inl (cJ, 8, .inr (.inl g)))] H := hP
      have hD : va_D A [(y, .inr (4, [.int 0, .ref n2, .int kn2, .int td])), (n2, .inl (cJ, 8, .inr (.inl g)))] := hD
      refine lv_aload_n hx hb dX2_isStopped_21 rfl (lv_at hl 0 rfl) ?_
      refine va_get (D := D) (ci := 4) (v := .int 0) (C := RX2) (T := TX2) (N := 4) hx hb hts iw_X2_isStopped_X2 hown hK hP 0 rfl rfl 0 (by decide) (hts (.fieldLink RX2 13 "ClocksoloModel" "thrown" "I") (by decide +kernel)) (fun _ h9 => h9) rfl dX2_isStopped_22 ?_
      refine lv_if_le (tgt := 32) hx hb dX2_isStopped_25 (by decide) (fun c_3 => ?_) (fun c_3 => ?_)
      · refine lv_iconst (v := 0) hx hb dX2_isStopped_32 (by decide) ?_
        exact k_zret hx hb hr (Or.inl rfl) hlocks hS dX2_isStopped_33 ⟨by rw [hJ, if_pos c_1, if_pos c_2], by rw [hJ, if_pos c_1, if_pos c_2]; (try dsimp only); exact hP, by rw [hJ, if_pos c_1, if_pos c_2]; (try dsimp only); exact hD⟩
      · exact absurd (by decide) c_3
    · refine lv_iconst (v := 2) hx hb dX2_isStopped_13 (by decide) ?_
      refine lv_goto (tgt := 18) hx hb dX2_isStopped_14 (by decide) ?_
      refine va_put (D := D) (ci := 4) (v := .int 2) (ty := .int) (C := RX2) (T := TX2) (N := 4) hx hb hts iw_X2_isStopped_X2 tyX2 tyX2_ok nmX2 hown hK hP hD hS 0 rfl rfl 0 (by decide) (hts (.fieldLink RX2 13 "ClocksoloModel" "thrown" "I") (by decide +kernel)) (fun _ h9 => h9) rfl (by decide +kernel) rfl rfl (Nat.le_of_ble_eq_true rfl) dX2_isStopped_18 (fun H locs hP hD hS => ?_)
      have hP : va_P D vwCl [(y, .inr (4, [.int 2, .ref n2, .int kn2, .int td])), (n2, .inl (cJ, 8, .inr (.inl g)))] H := hP
      have hD : va_D A [(y, .inr (4, [.int 2, .ref n2, .int kn2, .int td])), (n2, .inl (cJ, 8, .inr (.inl g)))] := hD
      refine lv_aload_n hx hb dX2_isStopped_21 rfl (lv_at hl 0 rfl) ?_
      refine va_get (D := D) (ci := 4) (v := .int 2) (C := RX2) (T := TX2) (N := 4) hx hb hts iw_X2_isStopped_X2 hown hK hP 0 rfl rfl 0 (by decide) (hts (.fieldLink RX2 13 "ClocksoloModel" "thrown" "I") (by decide +kernel)) (fun _ h9 => h9) rfl dX2_isStopped_22 ?_
      refine lv_if_le (tgt := 32) hx hb dX2_isStopped_25 (by decide) (fun c_4 => ?_) (fun c_4 => ?_)
      · exact absurd c_4 (by decide)
      · refine lv_iconst (v := 1) hx hb dX2_isStopped_28 (by decide) ?_
        refine lv_goto (tgt := 33) hx hb dX2_isStopped_29 (by decide) ?_
        exact k_zret hx hb hr (Or.inr rfl) hlocks hS dX2_isStopped_33 ⟨by rw [hJ, if_pos c_1, if_neg c_2], by rw [hJ, if_pos c_1, if_neg c_2]; (try dsimp only); exact hP, by rw [hJ, if_pos c_1, if_neg c_2]; (try dsimp only); exact hD⟩
  · refine lv_iconst (v := 1) hx hb dX2_isStopped_5 (by decide) ?_
    refine lv_goto (tgt := 18) hx hb dX2_isStopped_6 (by decide) ?_
    refine va_put (D := D) (ci := 4) (v := .int 1) (ty := .int) (C := RX2) (T := TX2) (N := 4) hx hb hts iw_X2_isStopped_X2 tyX2 tyX2_ok nmX2 hown hK hP hD hS 0 rfl rfl 0 (by decide) (hts (.fieldLink RX2 13 "ClocksoloModel" "thrown" "I") (by decide +kernel)) (fun _ h9 => h9) rfl (by decide +kernel) rfl rfl (Nat.le_of_ble_eq_true rfl) dX2_isStopped_18 (fun H locs hP hD hS => ?_)
    have hP : va_P D vwCl [(y, .inr (4, [.int 1, .ref n2, .int kn2, .int td])), (n2, .inl (cJ, 8, .inr (.inl g)))] H := hP
    have hD : va_D A [(y, .inr (4, [.int 1, .ref n2, .int kn2, .int td])), (n2, .inl (cJ, 8, .inr (.inl g)))] := hD
    refine lv_aload_n hx hb dX2_isStopped_21 rfl (lv_at hl 0 rfl) ?_
    refine va_get (D := D) (ci := 4) (v := .int 1) (C := RX2) (T := TX2) (N := 4) hx hb hts iw_X2_isStopped_X2 hown hK hP 0 rfl rfl 0 (by decide) (hts (.fieldLink RX2 13 "ClocksoloModel" "thrown" "I") (by decide +kernel)) (fun _ h9 => h9) rfl dX2_isStopped_22 ?_
    refine lv_if_le (tgt := 32) hx hb dX2_isStopped_25 (by decide) (fun c_5 => ?_) (fun c_5 => ?_)
    · exact absurd c_5 (by decide)
    · refine lv_iconst (v := 1) hx hb dX2_isStopped_28 (by decide) ?_
      refine lv_goto (tgt := 33) hx hb dX2_isStopped_29 (by decide) ?_
      exact k_zret hx hb hr (Or.inr rfl) hlocks hS dX2_isStopped_33 ⟨by rw [hJ, if_neg c_1], by rw [hJ, if_neg c_1]; (try dsimp only); exact hP, by rw [hJ, if_neg c_1]; (try dsimp only); exact hD⟩
theorem q_X2_isStopped (th : Int32) (g : Nat → Int64) (kn2 td : Int32) (a1 a2 : Int32) : j_X2_isStopped th g kn2 td a1 a2 = ((j_stR a1 a2), (j_stT a1 a2), g, kn2, td) := by unfold j_X2_isStopped j_stR j_stT; by_cases h1 : a1 = 0 <;> by_cases h2 : a2 = 0 <;> simp only [h1, h2, if_true, if_false] <;> rfl
theorem cq_X2_isStopped (l : Launch) (D : va_G) (cB cJ : ClassId) (Hp : Heap) (y n2 : Nat) (th : Int32) (g : Nat → Int64) (kn2 td : Int32) (hP : va_P D vwCl (wMo y n2 cJ th g kn2 td) Hp) (hD9 : va_D (fun _ => True) (wMo y n2 cJ th g kn2 td)) (a1 a2 : Int32) : kM l D cB cJ yX2_isStopped wsX2_isStopped rm_X2_isStopped (va_A (wMo y n2 cJ th g kn2 td) Hp.size) Hp [.ref y, .int a1, .int a2] (kPm D y n2 cJ (va_A (wMo y n2 cJ th g kn2 td) Hp.size) ((j_stR a1 a2), (j_stT a1 a2), g, kn2, td)) 0 0 := by
  rw [← q_X2_isStopped]
  exact c_X2_isStopped l D cB cJ Hp y n2 th g kn2 td hP hD9 a1 a2
abbrev rm_X2_set : Room := { frames := 1, cells := 0, slots := 0, locals := 21 }
theorem iw_X2_set_X2 : ∀ w ∈ wsX20, w ∈ wsX2_set := by decide +kernel
def j_X2_set (th : Int32) (g : Nat → Int64) (kn2 td : Int32) (a1 : Int32) (a2 : Int64) : Int32 × Int32 × (Nat → Int64) × Int32 × Int32 := ((j_X2_secondOf a2), th, (vp_updL g a1.toNatClampNeg a2), kn2, (td + 1))
def T_X2_set (th : Int32) (g : Nat → Int64) (kn2 td : Int32) (a1 : Int32) (a2 : Int64) : Prop := (vp_in a1 8 ∧ True)
set_option maxHeartbeats 4000000 in
set_option maxRecDepth 100000 in
theorem c_X2_set (l : Launch) (D : va_G) (cB cJ : ClassId) (Hp : Heap) (y n2 : Nat) (th : Int32) (g : Nat → Int64) (kn2 td : Int32) (hP : va_P D vwCl (wMo y n2 cJ th g kn2 td) Hp) (hD9 : va_D (fun _ => True) (wMo y n2 cJ th g kn2 td)) (a1 : Int32) (a2 : Int64) (hT9 : T_X2_set th g kn2 td a1 a2) : kM l D cB cJ yX2_set wsX2_set rm_X2_set (va_A (wMo y n2 cJ th g kn2 td) Hp.size) Hp [.ref y, .int a1, .long a2] (kPm D y n2 cJ (va_A (wMo y n2 cJ th g kn2 td) Hp.size) (j_X2_set th g kn2 td a1 a2)) 0 0 := by
  refine Met.ofW (cc := cX2_set) (maxL := 4) (ret := (some .int)) (by decide) rfl ?_
  intro p e s m args below meth c s₁ B hml hv
  obtain ⟨rfl, hHp, hE⟩ := hv
  subst hHp
  have hx := B.exec
  have hb := B.bytes
  have hr := B.returns
  have hts := atoms_spec (ws := wsX2_set) B.pre
  have hown : s.vm.findClass RX2 = some m.cls := findClass_of_methodNamed B.named
  have hlocks := B.notSynchronized
  have hK := hE.1
  have hD := hD9.self (sz := s.heap.size)
  generalize hAe : va_A (wMo y n2 cJ th g kn2 td) s.heap.size = A at hE hD ⊢
  have hA : ∀ q : Nat, s.heap.size ≤ q → A q := fun q h => by rw [← hAe]; exact Or.inr h
  have hS : va_S A s.heap s.heap [] := va_S.rf
  have hl := lv_entry ([.ref y, .int a1, .long a2]) (n := 4) (Nat.le_of_ble_eq_true rfl)
  rw [lg_entry_eq]
  generalize (lg_sl ([.ref y, .int a1, .long a2]) ++ List.replicate (4 - (lg_sl ([.ref y, .int a1, .long a2])).length) Slot.unset).toArray = ls at hl ⊢
  have hl : lv_has ls 4 [(0, .ref y), (1, .int a1), (2, .long a2)] := hl
  have hJ : (j_X2_set th g kn2 td a1 a2) = ((j_X2_secondOf a2), th, (vp_updL g a1.toNatClampNeg a2), kn2, (td + 1)) := rfl
  have hT : (vp_in a1 8 ∧ True) := hT9
  refine lv_aload_n hx hb dX2_set_0 rfl (lv_at hl 0 rfl) ?_
  refine va_get (D := D) (ci := 4) (v := .ref n2) (C := RX2) (T := TX2) (N := 4) hx hb hts iw_X2_set_X2 hown hK hP 0 rfl rfl 1 (by decide) (hts (.fieldLink RX2 9 "ClocksoloModel" "its" "[J") (by decide +kernel)) (fun _ h9 => h9) rfl dX2_set_1 ?_
  refine lv_iload_n hx hb dX2_set_4 rfl (lv_at hl 1 rfl) ?_
  refine lv_lload_n hx hb dX2_set_5 rfl (lv_at hl 2 rfl) ?_
  refine va_last hx hb hK hP hD hS 1 1 rfl rfl hT.1 dX2_set_6 (fun H locs hP hD hS => ?_)
  have hP : va_P D vwCl [(y, .inr (4, [.int th, .ref n2, .int kn2, .int td])), (n2, .inl (cJ, 8, .inr (.inl (vp_updL g a1.toNatClampNeg a2))))] H := hP
  have hD : va_D A [(y, .inr (4, [.int th, .ref n2, .int kn2, .int td])), (n2, .inl (cJ, 8, .inr (.inl (vp_updL g a1.toNatClampNeg a2))))] := hD
  refine lv_aload_n hx hb dX2_set_7 rfl (lv_at hl 0 rfl) ?_
  refine lv_dup hx hb dX2_set_8 rfl ?_
  refine va_get (D := D) (ci := 4) (v := .int td) (C := RX2) (T := TX2) (N := 4) hx hb hts iw_X2_set_X2 hown hK hP 0 rfl rfl 3 (by decide) (hts (.fieldLink RX2 35 "ClocksoloModel" "told" "I") (by decide +kernel)) (fun _ h9 => h9) rfl dX2_set_9 ?_
  refine lv_iconst (v := 1) hx hb dX2_set_12 (by decide) ?_
  refine lv_iadd hx hb dX2_set_13 ?_
  refine va_put (D := D) (ci := 4) (v := .int (td + 1)) (ty := .int) (C := RX2) (T := TX2) (N := 4) hx hb hts iw_X2_set_X2 tyX2 tyX2_ok nmX2 hown hK hP hD hS 0 rfl rfl 3 (by decide) (hts (.fieldLink RX2 35 "ClocksoloModel" "told" "I") (by decide +kernel)) (fun _ h9 => h9) rfl (by decide +kernel) rfl rfl (Nat.le_of_ble_eq_true rfl) dX2_set_14 (fun H locs hP hD hS => ?_)
  have hP : va_P D vwCl [(y, .inr (4, [.int th, .ref n2, .int kn2, .int (td + 1)])), (n2, .inl (cJ, 8, .inr (.inl (vp_updL g a1.toNatClampNeg a2))))] H := hP
  have hD : va_D A [(y, .inr (4, [.int th, .ref n2, .int kn2, .int (td + 1)])), (n2, .inl (cJ, 8, .inr (.inl (vp_updL g a1.toNatClampNeg a2))))] := hD
  refine lv_lload_n hx hb dX2_set_17 rfl (lv_at hl 2 rfl) ?_
  refine k_pS [.long a2] (rest := []) ⟨hx, hb, hml, hown, hts⟩ (c_X2_secondOf l D cB cJ _ a2) (va_cwS 1 hts gX2_set_X2_secondOf rfl rfl rfl (by decide +kernel) ⟨(Nat.le_of_ble_eq_true rfl), (Nat.le_of_ble_eq_true rfl)⟩) hE hS rfl rfl hl.1 (Nat.le_of_ble_eq_true rfl) dX2_set_18 ⟨(Nat.le_of_ble_eq_true rfl), (Nat.le_of_ble_eq_true rfl)⟩ (fun locs hS => ?_)
  refine W.eq (g2 := F0 m 21 ls [.int (j_X2_secondOf a2)]) rfl ?_
  exact k_iret hx hb hr hlocks hS dX2_set_21 ⟨by rw [hJ], by rw [hJ]; (try dsimp only); exact hP, by rw [hJ]; (try dsimp only); exact hD⟩
theorem q_X2_set (th : Int32) (g : Nat → Int64) (kn2 td : Int32) (a1 : Int32) (a2 : Int64) : j_X2_set th g kn2 td a1 a2 = ((j_X2_secondOf a2), th, (vp_updL g a1.toNatClampNeg a2), kn2, (td + 1)) := rfl
theorem cq_X2_set (l : Launch) (D : va_G) (cB cJ : ClassId) (Hp : Heap) (y n2 : Nat) (th : Int32) (g : Nat → Int64) (kn2 td : Int32) (hP : va_P D vwCl (wMo y n2 cJ th g kn2 td) Hp) (hD9 : va_D (fun _ => True) (wMo y n2 cJ th g kn2 td)) (a1 : Int32) (a2 : Int64) (hT9 : T_X2_set th g kn2 td a1 a2) : kM l D cB cJ yX2_set wsX2_set rm_X2_set (va_A (wMo y n2 cJ th g kn2 td) Hp.size) Hp [.ref y, .int a1, .long a2] (kPm D y n2 cJ (va_A (wMo y n2 cJ th g kn2 td) Hp.size) ((j_X2_secondOf a2), th, (vp_updL g a1.toNatClampNeg a2), kn2, (td + 1))) 0 0 := by
  rw [← q_X2_set]
  exact c_X2_set l D cB cJ Hp y n2 th g kn2 td hP hD9 a1 a2 hT9
abbrev rm_X2_refused : Room := { frames := 0, cells := 0, slots := 0, locals := 0 }
theorem iw_X2_refused_X2 : ∀ w ∈ wsX20, w ∈ wsX2_refused := by decide +kernel
def j_X2_refused (th : Int32) (g : Nat → Int64) (kn2 td : Int32)  : Int32 × Int32 × (Nat → Int64) × Int32 × Int32 := (1, 1, g, kn2, td)
set_option maxHeartbeats 4000000 in
set_option maxRecDepth 100000 in
theorem c_X2_refused (l : Launch) (D : va_G) (cB cJ : ClassId) (Hp : Heap) (y n2 : Nat) (th : Int32) (g : Nat → Int64) (kn2 td : Int32) (hP : va_P D vwCl (wMo y n2 cJ th g kn2 td) Hp) (hD9 : va_D (fun _ => True) (wMo y n2 cJ th g kn2 td))  : kM l D cB cJ yX2_refused wsX2_refused rm_X2_refused (va_A (wMo y n2 cJ th g kn2 td) Hp.size) Hp [.ref y] (kPm D y n2 cJ (va_A (wMo y n2 cJ th g kn2 td) Hp.size) (j_X2_refused th g kn2 td )) 0 0 := by
  refine Met.ofW (cc := cX2_refused) (maxL := 1) (ret := (some .boolean)) (by decide) rfl ?_
  intro p e s m args below meth c s₁ B hml hv
  obtain ⟨rfl, hHp, hE⟩ := hv
  subst hHp
  have hx := B.exec
  have hb := B.bytes
  have hr := B.returns
  have hts := atoms_spec (ws := wsX2_refused) B.pre
  have hown : s.vm.findClass RX2 = some m.cls := findClass_of_methodNamed B.named
  have hlocks := B.notSynchronized
  have hK := hE.1
  have hD := hD9.self (sz := s.heap.size)
  generalize hAe : va_A (wMo y n2 cJ th g kn2 td) s.heap.size = A at hE hD ⊢
  have hA : ∀ q : Nat, s.heap.size ≤ q → A q := fun q h => by rw [← hAe]; exact Or.inr h
  have hS : va_S A s.heap s.heap [] := va_S.rf
  have hl := lv_entry ([.ref y]) (n := 1) (Nat.le_of_ble_eq_true rfl)
  rw [lg_entry_eq]
  generalize (lg_sl ([.ref y]) ++ List.replicate (1 - (lg_sl ([.ref y])).length) Slot.unset).toArray = ls at hl ⊢
  have hl : lv_has ls 1 [(0, .ref y)] := hl
  have hJ : (j_X2_refused th g kn2 td ) = (1, 1, g, kn2, td) := rfl
  refine lv_aload_n hx hb dX2_refused_0 rfl (lv_at hl 0 rfl) ?_
  refine lv_iconst (v := 1) hx hb dX2_refused_1 (by decide) ?_
  refine va_put (D := D) (ci := 4) (v := .int 1) (ty := .int) (C := RX2) (T := TX2) (N := 4) hx hb hts iw_X2_refused_X2 tyX2 tyX2_ok nmX2 hown hK hP hD hS 0 rfl rfl 0 (by decide) (hts (.fieldLink RX2 13 "ClocksoloModel" "thrown" "I") (by decide +kernel)) (fun _ h9 => h9) rfl (by decide +kernel) rfl rfl (Nat.le_of_ble_eq_true rfl) dX2_refused_2 (fun H locs hP hD hS => ?_)
  have hP : va_P D vwCl [(y, .inr (4, [.int 1, .ref n2, .int kn2, .int td])), (n2, .inl (cJ, 8, .inr (.inl g)))] H := hP
  have hD : va_D A [(y, .inr (4, [.int 1, .ref n2, .int kn2, .int td])), (n2, .inl (cJ, 8, .inr (.inl g)))] := hD
  refine lv_iconst (v := 1) hx hb dX2_refused_5 (by decide) ?_
  exact k_zret hx hb hr (Or.inr rfl) hlocks hS dX2_refused_6 ⟨by rw [hJ], by rw [hJ]; (try dsimp only); exact hP, by rw [hJ]; (try dsimp only); exact hD⟩
theorem q_X2_refused (th : Int32) (g : Nat → Int64) (kn2 td : Int32)  : j_X2_refused th g kn2 td  = (1, 1, g, kn2, td) := rfl
theorem cq_X2_refused (l : Launch) (D : va_G) (cB cJ : ClassId) (Hp : Heap) (y n2 : Nat) (th : Int32) (g : Nat → Int64) (kn2 td : Int32) (hP : va_P D vwCl (wMo y n2 cJ th g kn2 td) Hp) (hD9 : va_D (fun _ => True) (wMo y n2 cJ th g kn2 td))  : kM l D cB cJ yX2_refused wsX2_refused rm_X2_refused (va_A (wMo y n2 cJ th g kn2 td) Hp.size) Hp [.ref y] (kPm D y n2 cJ (va_A (wMo y n2 cJ th g kn2 td) Hp.size) (1, 1, g, kn2, td)) 0 0 := by
  rw [← q_X2_refused]
  exact c_X2_refused l D cB cJ Hp y n2 th g kn2 td hP hD9 
abbrev rm_X2_unlike : Room := { frames := 0, cells := 0, slots := 0, locals := 0 }
theorem iw_X2_unlike_X2 : ∀ w ∈ wsX20, w ∈ wsX2_unlike := by decide +kernel
def jl_X2_unlike_15 (th : Int32) (g : Nat → Int64) (kn2 td : Int32)  (w1 : Int32) (w2 : Int32) (k9 : Int32 → Int32 → Int32) : Nat → Int32 → Int32 → Int32
  | 0, _, _ => 0
  | u9 + 1, v3, v4 => (if w2 ≤ v4 then (k9 v3 v4) else (if (g v4.toNatClampNeg) = (g w2.toNatClampNeg) then (jl_X2_unlike_15 th g kn2 td  w1 w2 k9 u9 (v3 &&& 0) (v4 + 1)) else (jl_X2_unlike_15 th g kn2 td  w1 w2 k9 u9 (v3 &&& 1) (v4 + 1))))
def jt_X2_unlike_15 (th : Int32) (g : Nat → Int64) (kn2 td : Int32)  (w1 : Int32) (w2 : Int32) (t9 : Int32 → Int32 → Prop) : Nat → Int32 → Int32 → Prop
  | 0, _, _ => False
  | u9 + 1, v3, v4 => ((w2 ≤ v4 → (t9 v3 v4)) ∧ (¬ (w2 ≤ v4) → (vp_in v4 8 ∧ (vp_in w2 8 ∧ (((g v4.toNatClampNeg) = (g w2.toNatClampNeg) → (jt_X2_unlike_15 th g kn2 td  w1 w2 t9 u9 (v3 &&& 0) (v4 + 1))) ∧ (¬ ((g v4.toNatClampNeg) = (g w2.toNatClampNeg)) → (jt_X2_unlike_15 th g kn2 td  w1 w2 t9 u9 (v3 &&& 1) (v4 + 1))))))))
set_option maxHeartbeats 4000000 in
set_option maxRecDepth 100000 in
theorem lp_X2_unlike_15 {p : Program} {l : Launch} {e : Env} {s : State} {m : MethodId} {args : Array Value} {below : List Frame} {meth : Method} {c : Code} {D : va_G} {cB cJ : ClassId} (y n2 : Nat) (th : Int32) (g : Nat → Int64) (kn2 td : Int32)  (w1 : Int32) (w2 : Int32) (J : Int32) (hx : p.tables.exec = Jvm.exec) (hb : c.code = cX2_unlike) (hml : c.maxLocals = 5) (hr : meth.sig.returnType = (some .int)) (hlocks : meth.locks = false) (hown : s.vm.findClass RX2 = some m.cls) (hts : ∀ w ∈ wsX2_unlike, w.before args s = true) (hE : kE D cB cJ kF s s.heap) (hP : va_P D vwCl (wMo y n2 cJ th g kn2 td) s.heap) (k9 : Int32 → Int32 → Int32) (t9 : Int32 → Int32 → Prop) (kk : ∀ (v3 : Int32) (v4 : Int32) (locs : List Loc) (ls : Array Slot), J = k9 v3 v4 → t9 v3 v4 → va_S kF s.heap s.heap locs → lv_has ls 5 [(0, .ref y), (1, .int w1), (2, .int w2), (3, .int v3), (4, .int v4)] → W p l e rm_X2_unlike s m args below meth c s.heap locs 0 0 (MQ below (kQ (kP (some (.int J)) s.heap) kF) args s 0 0 kF) (F0 m 52 ls [])) : ∀ (u9 : Nat) (v3 : Int32) (v4 : Int32) (locs : List Loc) (ls : Array Slot), J = jl_X2_unlike_15 th g kn2 td  w1 w2 k9 u9 v3 v4 → jt_X2_unlike_15 th g kn2 td  w1 w2 t9 u9 v3 v4 → va_S kF s.heap s.heap locs → lv_has ls 5 [(0, .ref y), (1, .int w1), (2, .int w2), (3, .int v3), (4, .int v4)] → W p l e rm_X2_unlike s m args below meth c s.heap locs 0 0 (MQ below (kQ (kP (some (.int J)) s.heap) kF) args s 0 0 kF) (F0 m 15 ls []) := by
  have hK := hE.1
  intro u9
  induction u9 with
  | zero =>
    intro v3 v4 locs ls hJ hT
    exact hT.elim
  | succ u9 ih =>
    intro v3 v4 locs ls hJ hT hS hl
    rw [jl_X2_unlike_15] at hJ
    rw [jt_X2_unlike_15] at hT
    refine lv_iload hx hb dX2_unlike_15 (lv_at hl 4 rfl) ?_
    refine lv_iload_n hx hb dX2_unlike_17 rfl (lv_at hl 2 rfl) ?_
    refine lv_icmp_ge (tgt := 52) hx hb dX2_unlike_18 (by decide) (fun c_2002 => ?_) (fun c_2002 => ?_)
    · exact kk v3 v4 _ _ (hJ.trans (by rw [if_pos c_2002])) (hT.1 c_2002) hS (lv_sub hl [0, 1, 2, 3, 4] rfl)
    · refine lv_iload_n hx hb dX2_unlike_21 rfl (lv_at hl 3 rfl) ?_
      refine lv_aload_n hx hb dX2_unlike_22 rfl (lv_at hl 0 rfl) ?_
      refine va_get (D := D) (ci := 4) (v := .ref n2) (C := RX2) (T := TX2) (N := 4) hx hb hts iw_X2_unlike_X2 hown hK hP 0 rfl rfl 1 (by decide) (hts (.fieldLink RX2 9 "ClocksoloModel" "its" "[J") (by decide +kernel)) (fun _ h9 => h9) rfl dX2_unlike_23 ?_
      refine lv_iload hx hb dX2_unlike_26 (lv_at hl 4 rfl) ?_
      refine va_lald hx hb hK hP 1 1 rfl rfl (hT.2 c_2002).1 dX2_unlike_28 ?_
      refine lv_aload_n hx hb dX2_unlike_29 rfl (lv_at hl 0 rfl) ?_
      refine va_get (D := D) (ci := 4) (v := .ref n2) (C := RX2) (T := TX2) (N := 4) hx hb hts iw_X2_unlike_X2 hown hK hP 0 rfl rfl 1 (by decide) (hts (.fieldLink RX2 9 "ClocksoloModel" "its" "[J") (by decide +kernel)) (fun _ h9 => h9) rfl dX2_unlike_30 ?_
      refine lv_iload_n hx hb dX2_unlike_33 rfl (lv_at hl 2 rfl) ?_
      refine va_lald hx hb hK hP 1 1 rfl rfl (hT.2 c_2002).2.1 dX2_unlike_34 ?_
      refine kl_eq (tgt := 43) hx hb dX2_unlike_35 dX2_unlike_36 (by decide) (fun c_2003 => ?_) (fun c_2003 => ?_)
      · refine lv_iconst (v := 0) hx hb dX2_unlike_43 (by decide) ?_
        refine lv_iand hx hb dX2_unlike_44 ?_
        refine lv_istore_n (lv' := [(3, .int (v3 &&& 0)), (0, .ref y), (1, .int w1), (2, .int w2), (4, .int v4)]) hx hb dX2_unlike_45 rfl hl (by decide) rfl (fun ls hl => ?_)
        refine lv_iinc (v := (v4 + 1)) (lv' := [(4, .int (v4 + 1)), (3, .int (v3 &&& 0)), (0, .ref y), (1, .int w1), (2, .int w2)]) hx hb dX2_unlike_46 hl (k := 4) rfl rfl (by decide) rfl (fun ls hl => ?_)
        refine lv_goto (tgt := 15) hx hb dX2_unlike_49 (by decide) ?_
        exact ih (v3 &&& 0) (v4 + 1) _ _ (hJ.trans (by rw [if_neg c_2002, if_pos c_2003])) ((hT.2 c_2002).2.2.1 c_2003) hS (lv_sub hl [2, 3, 4, 1, 0] rfl)
      · refine lv_iconst (v := 1) hx hb dX2_unlike_39 (by decide) ?_
        refine lv_goto (tgt := 44) hx hb dX2_unlike_40 (by decide) ?_
        refine lv_iand hx hb dX2_unlike_44 ?_
        refine lv_istore_n (lv' := [(3, .int (v3 &&& 1)), (0, .ref y), (1, .int w1), (2, .int w2), (4, .int v4)]) hx hb dX2_unlike_45 rfl hl (by decide) rfl (fun ls hl => ?_)
        refine lv_iinc (v := (v4 + 1)) (lv' := [(4, .int (v4 + 1)), (3, .int (v3 &&& 1)), (0, .ref y), (1, .int w1), (2, .int w2)]) hx hb dX2_unlike_46 hl (k := 4) rfl rfl (by decide) rfl (fun ls hl => ?_)
        refine lv_goto (tgt := 15) hx hb dX2_unlike_49 (by decide) ?_
        exact ih (v3 &&& 1) (v4 + 1) _ _ (hJ.trans (by rw [if_neg c_2002, if_neg c_2003])) ((hT.2 c_2002).2.2.2 c_2003) hS (lv_sub hl [2, 3, 4, 1, 0] rfl)
def jl_X2_unlike_4 (th : Int32) (g : Nat → Int64) (kn2 td : Int32)   (k9 : Int32 → Int32 → Int32) : Nat → Int32 → Int32 → Int32
  | 0, _, _ => 0
  | u9 + 1, v1, v2 => (if 8 ≤ v2 then (k9 v1 v2) else (jl_X2_unlike_15 th g kn2 td  v1 v2 (fun (v_1002 : Int32) (v_1003 : Int32) => (if v_1002 = 0 then (jl_X2_unlike_4 th g kn2 td   k9 u9 (v1 + 0) (v2 + 1)) else (jl_X2_unlike_4 th g kn2 td   k9 u9 (v1 + 1) (v2 + 1)))) 100 1 0))
def jt_X2_unlike_4 (th : Int32) (g : Nat → Int64) (kn2 td : Int32)   (t9 : Int32 → Int32 → Prop) : Nat → Int32 → Int32 → Prop
  | 0, _, _ => False
  | u9 + 1, v1, v2 => ((8 ≤ v2 → (t9 v1 v2)) ∧ (¬ (8 ≤ v2) → (jt_X2_unlike_15 th g kn2 td  v1 v2 (fun (v_1002 : Int32) (v_1003 : Int32) => ((v_1002 = 0 → (jt_X2_unlike_4 th g kn2 td   t9 u9 (v1 + 0) (v2 + 1))) ∧ (¬ (v_1002 = 0) → (jt_X2_unlike_4 th g kn2 td   t9 u9 (v1 + 1) (v2 + 1))))) 100 1 0)))
set_option maxHeartbeats 4000000 in
set_option maxRecDepth 100000 in
theorem lp_X2_unlike_4 {p : Program} {l : Launch} {e : Env} {s : State} {m : MethodId} {args : Array Value} {below : List Frame} {meth : Method} {c : Code} {D : va_G} {cB cJ : ClassId} (y n2 : Nat) (th : Int32) (g : Nat → Int64) (kn2 td : Int32)   (J : Int32) (hx : p.tables.exec = Jvm.exec) (hb : c.code = cX2_unlike) (hml : c.maxLocals = 5) (hr : meth.sig.returnType = (some .int)) (hlocks : meth.locks = false) (hown : s.vm.findClass RX2 = some m.cls) (hts : ∀ w ∈ wsX2_unlike, w.before args s = true) (hE : kE D cB cJ kF s s.heap) (hP : va_P D vwCl (wMo y n2 cJ th g kn2 td) s.heap) (k9 : Int32 → Int32 → Int32) (t9 : Int32 → Int32 → Prop) (kk : ∀ (v1 : Int32) (v2 : Int32) (locs : List Loc) (ls : Array Slot), J = k9 v1 v2 → t9 v1 v2 → va_S kF s.heap s.heap locs → lv_has ls 5 [(0, .ref y), (1, .int v1), (2, .int v2)] → W p l e rm_X2_unlike s m args below meth c s.heap locs 0 0 (MQ below (kQ (kP (some (.int J)) s.heap) kF) args s 0 0 kF) (F0 m 70 ls [])) : ∀ (u9 : Nat) (v1 : Int32) (v2 : Int32) (locs : List Loc) (ls : Array Slot), J = jl_X2_unlike_4 th g kn2 td   k9 u9 v1 v2 → jt_X2_unlike_4 th g kn2 td   t9 u9 v1 v2 → va_S kF s.heap s.heap locs → lv_has ls 5 [(0, .ref y), (1, .int v1), (2, .int v2)] → W p l e rm_X2_unlike s m args below meth c s.heap locs 0 0 (MQ below (kQ (kP (some (.int J)) s.heap) kF) args s 0 0 kF) (F0 m 4 ls []) := by
  have hK := hE.1
  intro u9
  induction u9 with
  | zero =>
    intro v1 v2 locs ls hJ hT
    exact hT.elim
  | succ u9 ih =>
    intro v1 v2 locs ls hJ hT hS hl
    rw [jl_X2_unlike_4] at hJ
    rw [jt_X2_unlike_4] at hT
    refine lv_iload_n hx hb dX2_unlike_4 rfl (lv_at hl 2 rfl) ?_
    refine lv_bipush (v := 8) hx hb dX2_unlike_5 (by decide) ?_
    refine lv_icmp_ge (tgt := 70) hx hb dX2_unlike_7 (by decide) (fun c_1001 => ?_) (fun c_1001 => ?_)
    · exact kk v1 v2 _ _ (hJ.trans (by rw [if_pos c_1001])) (hT.1 c_1001) hS (lv_sub hl [0, 1, 2] rfl)
    · refine lv_iconst (v := 1) hx hb dX2_unlike_10 (by decide) ?_
      refine lv_istore_n (lv' := [(3, .int 1), (0, .ref y), (1, .int v1), (2, .int v2)]) hx hb dX2_unlike_11 rfl hl (by decide) rfl (fun ls hl => ?_)
      refine lv_iconst (v := 0) hx hb dX2_unlike_12 (by decide) ?_
      refine lv_istore (lv' := [(4, .int 0), (3, .int 1), (0, .ref y), (1, .int v1), (2, .int v2)]) hx hb dX2_unlike_13 hl (by decide) rfl (fun ls hl => ?_)
      refine lp_X2_unlike_15 y n2 th g kn2 td  v1 v2 J hx hb hml hr hlocks hown hts hE hP (fun (v_1002 : Int32) (v_1003 : Int32) => (if v_1002 = 0 then (jl_X2_unlike_4 th g kn2 td   k9 u9 (v1 + 0) (v2 + 1)) else (jl_X2_unlike_4 th g kn2 td   k9 u9 (v1 + 1) (v2 + 1)))) (fun (v_1002 : Int32) (v_1003 : Int32) => ((v_1002 = 0 → (jt_X2_unlike_4 th g kn2 td   t9 u9 (v1 + 0) (v2 + 1))) ∧ (¬ (v_1002 = 0) → (jt_X2_unlike_4 th g kn2 td   t9 u9 (v1 + 1) (v2 + 1))))) (fun v_1002 v_1003 locs ls hJ hT hS hl => ?_) 100 1 0 _ _ (hJ.trans (by rw [if_neg c_1001])) (hT.2 c_1001) hS (lv_sub hl [2, 3, 4, 1, 0] rfl)
      (try dsimp only at hJ); (try dsimp only at hT)
      refine lv_iload_n hx hb dX2_unlike_52 rfl (lv_at hl 1 rfl) ?_
      refine lv_iload_n hx hb dX2_unlike_53 rfl (lv_at hl 3 rfl) ?_
      refine lv_if_eq (tgt := 61) hx hb dX2_unlike_54 (by decide) (fun c_1004 => ?_) (fun c_1004 => ?_)
      · refine lv_iconst (v := 0) hx hb dX2_unlike_61 (by decide) ?_
        refine lv_iadd hx hb dX2_unlike_62 ?_
        refine lv_istore_n (lv' := [(1, .int (v1 + 0)), (0, .ref y), (2, .int v2), (3, .int v_1002), (4, .int v_1003)]) hx hb dX2_unlike_63 rfl hl (by decide) rfl (fun ls hl => ?_)
        refine lv_iinc (v := (v2 + 1)) (lv' := [(2, .int (v2 + 1)), (1, .int (v1 + 0)), (0, .ref y), (3, .int v_1002), (4, .int v_1003)]) hx hb dX2_unlike_64 hl (k := 2) rfl rfl (by decide) rfl (fun ls hl => ?_)
        refine lv_goto (tgt := 4) hx hb dX2_unlike_67 (by decide) ?_
        exact ih (v1 + 0) (v2 + 1) _ _ (hJ.trans (by rw [if_pos c_1004])) (hT.1 c_1004) hS (lv_sub hl [2, 1, 0] rfl)
      · refine lv_iconst (v := 1) hx hb dX2_unlike_57 (by decide) ?_
        refine lv_goto (tgt := 62) hx hb dX2_unlike_58 (by decide) ?_
        refine lv_iadd hx hb dX2_unlike_62 ?_
        refine lv_istore_n (lv' := [(1, .int (v1 + 1)), (0, .ref y), (2, .int v2), (3, .int v_1002), (4, .int v_1003)]) hx hb dX2_unlike_63 rfl hl (by decide) rfl (fun ls hl => ?_)
        refine lv_iinc (v := (v2 + 1)) (lv' := [(2, .int (v2 + 1)), (1, .int (v1 + 1)), (0, .ref y), (3, .int v_1002), (4, .int v_1003)]) hx hb dX2_unlike_64 hl (k := 2) rfl rfl (by decide) rfl (fun ls hl => ?_)
        refine lv_goto (tgt := 4) hx hb dX2_unlike_67 (by decide) ?_
        exact ih (v1 + 1) (v2 + 1) _ _ (hJ.trans (by rw [if_neg c_1004])) (hT.2 c_1004) hS (lv_sub hl [2, 1, 0] rfl)
def j_X2_unlike (th : Int32) (g : Nat → Int64) (kn2 td : Int32)  : Int32 := (jl_X2_unlike_4 th g kn2 td   (fun (v_1 : Int32) (v_2 : Int32) => v_1) 100 0 0)
def T_X2_unlike (th : Int32) (g : Nat → Int64) (kn2 td : Int32)  : Prop := (jt_X2_unlike_4 th g kn2 td   (fun (v_1 : Int32) (v_2 : Int32) => True) 100 0 0)
set_option maxHeartbeats 4000000 in
set_option maxRecDepth 100000 in
theorem c_X2_unlike (l : Launch) (D : va_G) (cB cJ : ClassId) (Hp : Heap) (y n2 : Nat) (th : Int32) (g : Nat → Int64) (kn2 td : Int32) (hP : va_P D vwCl (wMo y n2 cJ th g kn2 td) Hp)  (hT9 : T_X2_unlike th g kn2 td ) : kM l D cB cJ yX2_unlike wsX2_unlike rm_X2_unlike kF Hp [.ref y] (kP (some (.int (j_X2_unlike th g kn2 td ))) Hp) 0 0 := by
  refine Met.ofW (cc := cX2_unlike) (maxL := 5) (ret := (some .int)) (by decide) rfl ?_
  intro p e s m args below meth c s₁ B hml hv
  obtain ⟨rfl, hHp, hE⟩ := hv
  subst hHp
  have hx := B.exec
  have hb := B.bytes
  have hr := B.returns
  have hts := atoms_spec (ws := wsX2_unlike) B.pre
  have hown : s.vm.findClass RX2 = some m.cls := findClass_of_methodNamed B.named
  have hlocks := B.notSynchronized
  have hK := hE.1
  have hS : va_S kF s.heap s.heap [] := va_S.rf
  have hl := lv_entry ([.ref y]) (n := 5) (Nat.le_of_ble_eq_true rfl)
  rw [lg_entry_eq]
  generalize (lg_sl ([.ref y]) ++ List.replicate (5 - (lg_sl ([.ref y])).length) Slot.unset).toArray = ls at hl ⊢
  have hl : lv_has ls 5 [(0, .ref y)] := hl
  have hJ : (j_X2_unlike th g kn2 td ) = (jl_X2_unlike_4 th g kn2 td   (fun (v_1 : Int32) (v_2 : Int32) => v_1) 100 0 0) := rfl
  have hT : (jt_X2_unlike_4 th g kn2 td   (fun (v_1 : Int32) (v_2 : Int32) => True) 100 0 0) := hT9
  refine lv_iconst (v := 0) hx hb dX2_unlike_0 (by decide) ?_
  refine lv_istore_n (lv' := [(1, .int 0), (0, .ref y)]) hx hb dX2_unlike_1 rfl hl (by decide) rfl (fun ls hl => ?_)
  refine lv_iconst (v := 0) hx hb dX2_unlike_2 (by decide) ?_
  refine lv_istore_n (lv' := [(2, .int 0), (1, .int 0), (0, .ref y)]) hx hb dX2_unlike_3 rfl hl (by decide) rfl (fun ls hl => ?_)
  refine lp_X2_unlike_4 y n2 th g kn2 td   (j_X2_unlike th g kn2 td ) hx hb hml hr hlocks hown hts hE hP (fun (v_1 : Int32) (v_2 : Int32) => v_1) (fun (v_1 : Int32) (v_2 : Int32) => True) (fun v_1 v_2 locs ls hJ hT hS hl => ?_) 100 0 0 _ _ hJ hT hS (lv_sub hl [2, 1, 0] rfl)
  (try dsimp only at hJ); (try dsimp only at hT)
  refine lv_iload_n hx hb dX2_unlike_70 rfl (lv_at hl 1 rfl) ?_
  exact k_iret hx hb hr hlocks hS dX2_unlike_71 ⟨by rw [hJ], rfl⟩
abbrev rm_X2_thrown : Room := { frames := 0, cells := 0, slots := 0, locals := 0 }
theorem iw_X2_thrown_X2 : ∀ w ∈ wsX20, w ∈ wsX2_thrown := by decide +kernel
def j_X2_thrown (th : Int32) (g : Nat → Int64) (kn2 td : Int32)  : Int32 := th
set_option maxHeartbeats 4000000 in
set_option maxRecDepth 100000 in
theorem c_X2_thrown (l : Launch) (D : va_G) (cB cJ : ClassId) (Hp : Heap) (y n2 : Nat) (th : Int32) (g : Nat → Int64) (kn2 td : Int32) (hP : va_P D vwCl (wMo y n2 cJ th g kn2 td) Hp)  : kM l D cB cJ yX2_thrown wsX2_thrown rm_X2_thrown kF Hp [.ref y] (kP (some (.int (j_X2_thrown th g kn2 td ))) Hp) 0 0 := by
  refine Met.ofW (cc := cX2_thrown) (maxL := 1) (ret := (some .int)) (by decide) rfl ?_
  intro p e s m args below meth c s₁ B hml hv
  obtain ⟨rfl, hHp, hE⟩ := hv
  subst hHp
  have hx := B.exec
  have hb := B.bytes
  have hr := B.returns
  have hts := atoms_spec (ws := wsX2_thrown) B.pre
  have hown : s.vm.findClass RX2 = some m.cls := findClass_of_methodNamed B.named
  have hlocks := B.notSynchronized
  have hK := hE.1
  have hS : va_S kF s.heap s.heap [] := va_S.rf
  have hl := lv_entry ([.ref y]) (n := 1) (Nat.le_of_ble_eq_true rfl)
  rw [lg_entry_eq]
  generalize (lg_sl ([.ref y]) ++ List.replicate (1 - (lg_sl ([.ref y])).length) Slot.unset).toArray = ls at hl ⊢
  have hl : lv_has ls 1 [(0, .ref y)] := hl
  have hJ : (j_X2_thrown th g kn2 td ) = th := rfl
  refine lv_aload_n hx hb dX2_thrown_0 rfl (lv_at hl 0 rfl) ?_
  refine va_get (D := D) (ci := 4) (v := .int th) (C := RX2) (T := TX2) (N := 4) hx hb hts iw_X2_thrown_X2 hown hK hP 0 rfl rfl 0 (by decide) (hts (.fieldLink RX2 13 "ClocksoloModel" "thrown" "I") (by decide +kernel)) (fun _ h9 => h9) rfl dX2_thrown_1 ?_
  exact k_iret hx hb hr hlocks hS dX2_thrown_4 ⟨by rw [hJ], rfl⟩
abbrev rm_X2_tell : Room := { frames := 2, cells := 0, slots := 0, locals := 44 }
def j_X2_tell (th : Int32) (g : Nat → Int64) (kn2 td : Int32) (a1 : Int32) (a2 : Int32) (a3 : Int32) (a4 : Int32) (a5 : Int32) : Int32 × Int32 × (Nat → Int64) × Int32 × Int32 := (if (j_X2_isIn a2 0 23) = 0 then (if (j_stR (j_X2_isNone a1) (1 : Int32)) = 0 then ((j_X2_secondOf (((((((a2 * 60) + a3) * 60) + a4).toInt64) * 1000000000) + a5.toInt64)), (j_stT (j_X2_isNone a1) (1 : Int32)), (vp_updL g a1.toNatClampNeg (((((((a2 * 60) + a3) * 60) + a4).toInt64) * 1000000000) + a5.toInt64)), kn2, (td + 1)) else (0, (j_stT (j_X2_isNone a1) (1 : Int32)), g, kn2, td)) else (if (j_X2_isIn a3 0 59) = 0 then (if (j_stR (j_X2_isNone a1) (1 : Int32)) = 0 then ((j_X2_secondOf (((((((a2 * 60) + a3) * 60) + a4).toInt64) * 1000000000) + a5.toInt64)), (j_stT (j_X2_isNone a1) (1 : Int32)), (vp_updL g a1.toNatClampNeg (((((((a2 * 60) + a3) * 60) + a4).toInt64) * 1000000000) + a5.toInt64)), kn2, (td + 1)) else (0, (j_stT (j_X2_isNone a1) (1 : Int32)), g, kn2, td)) else (if (j_X2_isIn a4 0 59) = 0 then (if (j_stR (j_X2_isNone a1) (1 : Int32)) = 0 then ((j_X2_secondOf (((((((a2 * 60) + a3) * 60) + a4).toInt64) * 1000000000) + a5.toInt64)), (j_stT (j_X2_isNone a1) (1 : Int32)), (vp_updL g a1.toNatClampNeg (((((((a2 * 60) + a3) * 60) + a4).toInt64) * 1000000000) + a5.toInt64)), kn2, (td + 1)) else (0, (j_stT (j_X2_isNone a1) (1 : Int32)), g, kn2, td)) else (if (j_X2_isIn a5 0 999999999) = 0 then (if (j_stR (j_X2_isNone a1) (1 : Int32)) = 0 then ((j_X2_secondOf (((((((a2 * 60) + a3) * 60) + a4).toInt64) * 1000000000) + a5.toInt64)), (j_stT (j_X2_isNone a1) (1 : Int32)), (vp_updL g a1.toNatClampNeg (((((((a2 * 60) + a3) * 60) + a4).toInt64) * 1000000000) + a5.toInt64)), kn2, (td + 1)) else (0, (j_stT (j_X2_isNone a1) (1 : Int32)), g, kn2, td)) else (if (j_stR (j_X2_isNone a1) (0 : Int32)) = 0 then ((j_X2_secondOf (((((((a2 * 60) + a3) * 60) + a4).toInt64) * 1000000000) + a5.toInt64)), (j_stT (j_X2_isNone a1) (0 : Int32)), (vp_updL g a1.toNatClampNeg (((((((a2 * 60) + a3) * 60) + a4).toInt64) * 1000000000) + a5.toInt64)), kn2, (td + 1)) else (0, (j_stT (j_X2_isNone a1) (0 : Int32)), g, kn2, td))))))
def T_X2_tell (th : Int32) (g : Nat → Int64) (kn2 td : Int32) (a1 : Int32) (a2 : Int32) (a3 : Int32) (a4 : Int32) (a5 : Int32) : Prop := (((j_X2_isIn a2 0 23) = 0 → (((j_stR (j_X2_isNone a1) (1 : Int32)) = 0 → (T_X2_set (j_stT (j_X2_isNone a1) (1 : Int32)) g kn2 td a1 (((((((a2 * 60) + a3) * 60) + a4).toInt64) * 1000000000) + a5.toInt64) ∧ True)) ∧ (¬ ((j_stR (j_X2_isNone a1) (1 : Int32)) = 0) → True))) ∧ (¬ ((j_X2_isIn a2 0 23) = 0) → (((j_X2_isIn a3 0 59) = 0 → (((j_stR (j_X2_isNone a1) (1 : Int32)) = 0 → (T_X2_set (j_stT (j_X2_isNone a1) (1 : Int32)) g kn2 td a1 (((((((a2 * 60) + a3) * 60) + a4).toInt64) * 1000000000) + a5.toInt64) ∧ True)) ∧ (¬ ((j_stR (j_X2_isNone a1) (1 : Int32)) = 0) → True))) ∧ (¬ ((j_X2_isIn a3 0 59) = 0) → (((j_X2_isIn a4 0 59) = 0 → (((j_stR (j_X2_isNone a1) (1 : Int32)) = 0 → (T_X2_set (j_stT (j_X2_isNone a1) (1 : Int32)) g kn2 td a1 (((((((a2 * 60) + a3) * 60) + a4).toInt64) * 1000000000) + a5.toInt64) ∧ True)) ∧ (¬ ((j_stR (j_X2_isNone a1) (1 : Int32)) = 0) → True))) ∧ (¬ ((j_X2_isIn a4 0 59) = 0) → (((j_X2_isIn a5 0 999999999) = 0 → (((j_stR (j_X2_isNone a1) (1 : Int32)) = 0 → (T_X2_set (j_stT (j_X2_isNone a1) (1 : Int32)) g kn2 td a1 (((((((a2 * 60) + a3) * 60) + a4).toInt64) * 1000000000) + a5.toInt64) ∧ True)) ∧ (¬ ((j_stR (j_X2_isNone a1) (1 : Int32)) = 0) → True))) ∧ (¬ ((j_X2_isIn a5 0 999999999) = 0) → (((j_stR (j_X2_isNone a1) (0 : Int32)) = 0 → (T_X2_set (j_stT (j_X2_isNone a1) (0 : Int32)) g kn2 td a1 (((((((a2 * 60) + a3) * 60) + a4).toInt64) * 1000000000) + a5.toInt64) ∧ True)) ∧ (¬ ((j_stR (j_X2_isNone a1) (0 : Int32)) = 0) → True))))))))))
set_option maxHeartbeats 4000000 in
set_option maxRecDepth 100000 in
theorem c_X2_tell (l : Launch) (D : va_G) (cB cJ : ClassId) (Hp : Heap) (y n2 : Nat) (th : Int32) (g : Nat → Int64) (kn2 td : Int32) (hP : va_P D vwCl (wMo y n2 cJ th g kn2 td) Hp) (hD9 : va_D (fun _ => True) (wMo y n2 cJ th g kn2 td)) (a1 : Int32) (a2 : Int32) (a3 : Int32) (a4 : Int32) (a5 : Int32) (hT9 : T_X2_tell th g kn2 td a1 a2 a3 a4 a5) : kM l D cB cJ yX2_tell wsX2_tell rm_X2_tell (va_A (wMo y n2 cJ th g kn2 td) Hp.size) Hp [.ref y, .int a1, .int a2, .int a3, .int a4, .int a5] (kPm D y n2 cJ (va_A (wMo y n2 cJ th g kn2 td) Hp.size) (j_X2_tell th g kn2 td a1 a2 a3 a4 a5)) 0 0 := by
  refine Met.ofW (cc := cX2_tell) (maxL := 6) (ret := (some .int)) (by decide) rfl ?_
  intro p e s m args below meth c s₁ B hml hv
  obtain ⟨rfl, hHp, hE⟩ := hv
  subst hHp
  have hx := B.exec
  have hb := B.bytes
  have hr := B.returns
  have hts := atoms_spec (ws := wsX2_tell) B.pre
  have hown : s.vm.findClass RX2 = some m.cls := findClass_of_methodNamed B.named
  have hlocks := B.notSynchronized
  have hK := hE.1
  have hD := hD9.self (sz := s.heap.size)
  generalize hAe : va_A (wMo y n2 cJ th g kn2 td) s.heap.size = A at hE hD ⊢
  have hA : ∀ q : Nat, s.heap.size ≤ q → A q := fun q h => by rw [← hAe]; exact Or.inr h
  have hS : va_S A s.heap s.heap [] := va_S.rf
  have hl := lv_entry ([.ref y, .int a1, .int a2, .int a3, .int a4, .int a5]) (n := 6) (Nat.le_of_ble_eq_true rfl)
  rw [lg_entry_eq]
  generalize (lg_sl ([.ref y, .int a1, .int a2, .int a3, .int a4, .int a5]) ++ List.replicate (6 - (lg_sl ([.ref y, .int a1, .int a2, .int a3, .int a4, .int a5])).length) Slot.unset).toArray = ls at hl ⊢
  have hl : lv_has ls 6 [(0, .ref y), (1, .int a1), (2, .int a2), (3, .int a3), (4, .int a4), (5, .int a5)] := hl
  have hJ : (j_X2_tell th g kn2 td a1 a2 a3 a4 a5) = (if (j_X2_isIn a2 0 23) = 0 then (if (j_stR (j_X2_isNone a1) (1 : Int32)) = 0 then ((j_X2_secondOf (((((((a2 * 60) + a3) * 60) + a4).toInt64) * 1000000000) + a5.toInt64)), (j_stT (j_X2_isNone a1) (1 : Int32)), (vp_updL g a1.toNatClampNeg (((((((a2 * 60) + a3) * 60) + a4).toInt64) * 1000000000) + a5.toInt64)), kn2, (td + 1)) else (0, (j_stT (j_X2_isNone a1) (1 : Int32)), g, kn2, td)) else (if (j_X2_isIn a3 0 59) = 0 then (if (j_stR (j_X2_isNone a1) (1 : Int32)) = 0 then ((j_X2_secondOf (((((((a2 * 60) + a3) * 60) + a4).toInt64) * 1000000000) + a5.toInt64)), (j_stT (j_X2_isNone a1) (1 : Int32)), (vp_updL g a1.toNatClampNeg (((((((a2 * 60) + a3) * 60) + a4).toInt64) * 1000000000) + a5.toInt64)), kn2, (td + 1)) else (0, (j_stT (j_X2_isNone a1) (1 : Int32)), g, kn2, td)) else (if (j_X2_isIn a4 0 59) = 0 then (if (j_stR (j_X2_isNone a1) (1 : Int32)) = 0 then ((j_X2_secondOf (((((((a2 * 60) + a3) * 60) + a4).toInt64) * 1000000000) + a5.toInt64)), (j_stT (j_X2_isNone a1) (1 : Int32)), (vp_updL g a1.toNatClampNeg (((((((a2 * 60) + a3) * 60) + a4).toInt64) * 1000000000) + a5.toInt64)), kn2, (td + 1)) else (0, (j_stT (j_X2_isNone a1) (1 : Int32)), g, kn2, td)) else (if (j_X2_isIn a5 0 999999999) = 0 then (if (j_stR (j_X2_isNone a1) (1 : Int32)) = 0 then ((j_X2_secondOf (((((((a2 * 60) + a3) * 60) + a4).toInt64) * 1000000000) + a5.toInt64)), (j_stT (j_X2_isNone a1) (1 : Int32)), (vp_updL g a1.toNatClampNeg (((((((a2 * 60) + a3) * 60) + a4).toInt64) * 1000000000) + a5.toInt64)), kn2, (td + 1)) else (0, (j_stT (j_X2_isNone a1) (1 : Int32)), g, kn2, td)) else (if (j_stR (j_X2_isNone a1) (0 : Int32)) = 0 then ((j_X2_secondOf (((((((a2 * 60) + a3) * 60) + a4).toInt64) * 1000000000) + a5.toInt64)), (j_stT (j_X2_isNone a1) (0 : Int32)), (vp_updL g a1.toNatClampNeg (((((((a2 * 60) + a3) * 60) + a4).toInt64) * 1000000000) + a5.toInt64)), kn2, (td + 1)) else (0, (j_stT (j_X2_isNone a1) (0 : Int32)), g, kn2, td)))))) := rfl
  have hT : (((j_X2_isIn a2 0 23) = 0 → (((j_stR (j_X2_isNone a1) (1 : Int32)) = 0 → (T_X2_set (j_stT (j_X2_isNone a1) (1 : Int32)) g kn2 td a1 (((((((a2 * 60) + a3) * 60) + a4).toInt64) * 1000000000) + a5.toInt64) ∧ True)) ∧ (¬ ((j_stR (j_X2_isNone a1) (1 : Int32)) = 0) → True))) ∧ (¬ ((j_X2_isIn a2 0 23) = 0) → (((j_X2_isIn a3 0 59) = 0 → (((j_stR (j_X2_isNone a1) (1 : Int32)) = 0 → (T_X2_set (j_stT (j_X2_isNone a1) (1 : Int32)) g kn2 td a1 (((((((a2 * 60) + a3) * 60) + a4).toInt64) * 1000000000) + a5.toInt64) ∧ True)) ∧ (¬ ((j_stR (j_X2_isNone a1) (1 : Int32)) = 0) → True))) ∧ (¬ ((j_X2_isIn a3 0 59) = 0) → (((j_X2_isIn a4 0 59) = 0 → (((j_stR (j_X2_isNone a1) (1 : Int32)) = 0 → (T_X2_set (j_stT (j_X2_isNone a1) (1 : Int32)) g kn2 td a1 (((((((a2 * 60) + a3) * 60) + a4).toInt64) * 1000000000) + a5.toInt64) ∧ True)) ∧ (¬ ((j_stR (j_X2_isNone a1) (1 : Int32)) = 0) → True))) ∧ (¬ ((j_X2_isIn a4 0 59) = 0) → (((j_X2_isIn a5 0 999999999) = 0 → (((j_stR (j_X2_isNone a1) (1 : Int32)) = 0 → (T_X2_set (j_stT (j_X2_isNone a1) (1 : Int32)) g kn2 td a1 (((((((a2 * 60) + a3) * 60) + a4).toInt64) * 1000000000) + a5.toInt64) ∧ True)) ∧ (¬ ((j_stR (j_X2_isNone a1) (1 : Int32)) = 0) → True))) ∧ (¬ ((j_X2_isIn a5 0 999999999) = 0) → (((j_stR (j_X2_isNone a1) (0 : Int32)) = 0 → (T_X2_set (j_stT (j_X2_isNone a1) (0 : Int32)) g kn2 td a1 (((((((a2 * 60) + a3) * 60) + a4).toInt64) * 1000000000) + a5.toInt64) ∧ True)) ∧ (¬ ((j_stR (j_X2_isNone a1) (0 : Int32)) = 0) → True)))))))))) := hT9
  refine lv_aload_n hx hb dX2_tell_0 rfl (lv_at hl 0 rfl) ?_
  refine lv_iload_n hx hb dX2_tell_1 rfl (lv_at hl 1 rfl) ?_
  refine k_pS [.int a1] (rest := [.ref y]) ⟨hx, hb, hml, hown, hts⟩ (c_X2_isNone l D cB cJ _ a1) (va_cwS 1 hts gX2_tell_X2_isNone rfl rfl rfl (by decide +kernel) ⟨(Nat.le_of_ble_eq_true rfl), (Nat.le_of_ble_eq_true rfl)⟩) hE hS rfl rfl hl.1 (Nat.le_of_ble_eq_true rfl) dX2_tell_2 ⟨(Nat.le_of_ble_eq_true rfl), (Nat.le_of_ble_eq_true rfl)⟩ (fun locs hS => ?_)
  refine W.eq (g2 := F0 m 5 ls [.int (j_X2_isNone a1), .ref y]) rfl ?_
  refine lv_iload_n hx hb dX2_tell_5 rfl (lv_at hl 2 rfl) ?_
  refine lv_iconst (v := 0) hx hb dX2_tell_6 (by decide) ?_
  refine lv_bipush (v := 23) hx hb dX2_tell_7 (by decide) ?_
  refine k_pS [.int a2, .int 0, .int 23] (rest := [.int (j_X2_isNone a1), .ref y]) ⟨hx, hb, hml, hown, hts⟩ (c_X2_isIn l D cB cJ _ a2 0 23) (va_cwS 3 hts gX2_tell_X2_isIn rfl rfl rfl (by decide +kernel) ⟨(Nat.le_of_ble_eq_true rfl), (Nat.le_of_ble_eq_true rfl)⟩) hE hS rfl rfl hl.1 (Nat.le_of_ble_eq_true rfl) dX2_tell_9 ⟨(Nat.le_of_ble_eq_true rfl), (Nat.le_of_ble_eq_true rfl)⟩ (fun locs hS => ?_)
  refine W.eq (g2 := F0 m 12 ls [.int (j_X2_isIn a2 0 23), .int (j_X2_isNone a1), .ref y]) rfl ?_
  refine lv_if_eq (tgt := 47) hx hb dX2_tell_12 (by decide) (fun c_1 => ?_) (fun c_1 => ?_)
  · refine lv_iconst (v := 1) hx hb dX2_tell_47 (by decide) ?_
    refine lv_goto (tgt := 52) hx hb dX2_tell_48 (by decide) ?_
    have hFc := va_free (wc := [(y, .inr (4, [.int th, .ref n2, .int kn2, .int td])), (n2, .inl (cJ, 8, .inr (.inl g)))]) hD hS hA [0, 1] rfl
    refine k_go (va_runV (As := [.int (j_X2_isNone a1), .int 1]) (rest := []) ⟨hx, hb, hml, hown, hts⟩ (cq_X2_isStopped l D cB cJ _ y n2 th g kn2 td hP (hD.weaken (fun _ _ _ _ => trivial)) (j_X2_isNone a1) (1 : Int32)) (cwV 2 hts gX2_tell_X2_isStopped rfl rfl rfl (by decide +kernel) ⟨(Nat.le_of_ble_eq_true rfl), (Nat.le_of_ble_eq_true rfl)⟩) (k_preV hE hS hFc (va_recv hK hP (ci := 4) (q0 := 0) rfl rfl)) rfl rfl hl.1 rfl (lv_room (Nat.le_of_ble_eq_true rfl)) dX2_tell_52 ⟨(Nat.le_of_ble_eq_true rfl), (Nat.le_of_ble_eq_true rfl)⟩) hS (fun q _ h => hFc q h) hFc (fun v H locs hp hz hk hS => ?_)
    obtain ⟨rfl, hP1, hD1⟩ := hp
    (try dsimp only at hP1 hD1)
    have hP : va_P D vwCl [(y, .inr (4, [.int (j_stT (j_X2_isNone a1) (1 : Int32)), .ref n2, .int kn2, .int td])), (n2, .inl (cJ, 8, .inr (.inl g)))] H := hP1
    have hD : va_D A [(y, .inr (4, [.int (j_stT (j_X2_isNone a1) (1 : Int32)), .ref n2, .int kn2, .int td])), (n2, .inl (cJ, 8, .inr (.inl g)))] := hD1.weaken (fun _ q _ h => hFc q.1 h)
    refine W.eq (g2 := F0 m 55 ls [.int (j_stR (j_X2_isNone a1) (1 : Int32))]) rfl ?_
    refine lv_if_eq (tgt := 60) hx hb dX2_tell_55 (by decide) (fun c_2 => ?_) (fun c_2 => ?_)
    · refine lv_aload_n hx hb dX2_tell_60 rfl (lv_at hl 0 rfl) ?_
      refine lv_iload_n hx hb dX2_tell_61 rfl (lv_at hl 1 rfl) ?_
      refine lv_iload_n hx hb dX2_tell_62 rfl (lv_at hl 2 rfl) ?_
      refine lv_bipush (v := 60) hx hb dX2_tell_63 (by decide) ?_
      refine lv_imul hx hb dX2_tell_65 ?_
      refine lv_iload_n hx hb dX2_tell_66 rfl (lv_at hl 3 rfl) ?_
      refine lv_iadd hx hb dX2_tell_67 ?_
      refine lv_bipush (v := 60) hx hb dX2_tell_68 (by decide) ?_
      refine lv_imul hx hb dX2_tell_70 ?_
      refine lv_iload hx hb dX2_tell_71 (lv_at hl 4 rfl) ?_
      refine lv_iadd hx hb dX2_tell_73 ?_
      refine lv_i2l (v := ((((a2 * 60) + a3) * 60) + a4).toInt64) hx hb dX2_tell_74 rfl ?_
      refine lv_ldc2 (v := 1000000000) hx hb hown (hts (.constantLong RX2 29 (1000000000)) (by decide +kernel)) dX2_tell_75 ?_
      refine lv_lmul hx hb dX2_tell_78 ?_
      refine lv_iload hx hb dX2_tell_79 (lv_at hl 5 rfl) ?_
      refine lv_i2l (v := a5.toInt64) hx hb dX2_tell_81 rfl ?_
      refine lv_ladd hx hb dX2_tell_82 ?_
      have hFc := va_free (wc := [(y, .inr (4, [.int (j_stT (j_X2_isNone a1) (1 : Int32)), .ref n2, .int kn2, .int td])), (n2, .inl (cJ, 8, .inr (.inl g)))]) hD hS hA [0, 1] rfl
      refine k_go (va_runV (As := [.int a1, .long (((((((a2 * 60) + a3) * 60) + a4).toInt64) * 1000000000) + a5.toInt64)]) (rest := []) ⟨hx, hb, hml, hown, hts⟩ (cq_X2_set l D cB cJ _ y n2 (j_stT (j_X2_isNone a1) (1 : Int32)) g kn2 td hP (hD.weaken (fun _ _ _ _ => trivial)) a1 (((((((a2 * 60) + a3) * 60) + a4).toInt64) * 1000000000) + a5.toInt64) ((hT.1 c_1).1 c_2).1) (cwV 2 hts gX2_tell_X2_set rfl rfl rfl (by decide +kernel) ⟨(Nat.le_of_ble_eq_true rfl), (Nat.le_of_ble_eq_true rfl)⟩) (k_preV hE hS hFc (va_recv hK hP (ci := 4) (q0 := 0) rfl rfl)) rfl rfl hl.1 rfl (lv_room (Nat.le_of_ble_eq_true rfl)) dX2_tell_83 ⟨(Nat.le_of_ble_eq_true rfl), (Nat.le_of_ble_eq_true rfl)⟩) hS (fun q _ h => hFc q h) hFc (fun v H locs hp hz hk hS => ?_)
      obtain ⟨rfl, hP1, hD1⟩ := hp
      (try dsimp only at hP1 hD1)
      have hP : va_P D vwCl [(y, .inr (4, [.int (j_stT (j_X2_isNone a1) (1 : Int32)), .ref n2, .int kn2, .int (td + 1)])), (n2, .inl (cJ, 8, .inr (.inl (vp_updL g a1.toNatClampNeg (((((((a2 * 60) + a3) * 60) + a4).toInt64) * 1000000000) + a5.toInt64)))))] H := hP1
      have hD : va_D A [(y, .inr (4, [.int (j_stT (j_X2_isNone a1) (1 : Int32)), .ref n2, .int kn2, .int (td + 1)])), (n2, .inl (cJ, 8, .inr (.inl (vp_updL g a1.toNatClampNeg (((((((a2 * 60) + a3) * 60) + a4).toInt64) * 1000000000) + a5.toInt64)))))] := hD1.weaken (fun _ q _ h => hFc q.1 h)
      refine W.eq (g2 := F0 m 86 ls [.int (j_X2_secondOf (((((((a2 * 60) + a3) * 60) + a4).toInt64) * 1000000000) + a5.toInt64))]) rfl ?_
      exact k_iret hx hb hr hlocks hS dX2_tell_86 ⟨by rw [hJ, if_pos c_1, if_pos c_2], by rw [hJ, if_pos c_1, if_pos c_2]; (try dsimp only); exact hP, by rw [hJ, if_pos c_1, if_pos c_2]; (try dsimp only); exact hD⟩
    · refine lv_iconst (v := 0) hx hb dX2_tell_58 (by decide) ?_
      exact k_iret hx hb hr hlocks hS dX2_tell_59 ⟨by rw [hJ, if_pos c_1, if_neg c_2], by rw [hJ, if_pos c_1, if_neg c_2]; (try dsimp only); exact hP, by rw [hJ, if_pos c_1, if_neg c_2]; (try dsimp only); exact hD⟩
  · refine lv_iload_n hx hb dX2_tell_15 rfl (lv_at hl 3 rfl) ?_
    refine lv_iconst (v := 0) hx hb dX2_tell_16 (by decide) ?_
    refine lv_bipush (v := 59) hx hb dX2_tell_17 (by decide) ?_
    refine k_pS [.int a3, .int 0, .int 59] (rest := [.int (j_X2_isNone a1), .ref y]) ⟨hx, hb, hml, hown, hts⟩ (c_X2_isIn l D cB cJ _ a3 0 59) (va_cwS 3 hts gX2_tell_X2_isIn rfl rfl rfl (by decide +kernel) ⟨(Nat.le_of_ble_eq_true rfl), (Nat.le_of_ble_eq_true rfl)⟩) hE hS rfl rfl hl.1 (Nat.le_of_ble_eq_true rfl) dX2_tell_19 ⟨(Nat.le_of_ble_eq_true rfl), (Nat.le_of_ble_eq_true rfl)⟩ (fun locs hS => ?_)
    refine W.eq (g2 := F0 m 22 ls [.int (j_X2_isIn a3 0 59), .int (j_X2_isNone a1), .ref y]) rfl ?_
    refine lv_if_eq (tgt := 47) hx hb dX2_tell_22 (by decide) (fun c_3 => ?_) (fun c_3 => ?_)
    · refine lv_iconst (v := 1) hx hb dX2_tell_47 (by decide) ?_
      refine lv_goto (tgt := 52) hx hb dX2_tell_48 (by decide) ?_
      have hFc := va_free (wc := [(y, .inr (4, [.int th, .ref n2, .int kn2, .int td])), (n2, .inl (cJ, 8, .inr (.inl g)))]) hD hS hA [0, 1] rfl
      refine k_go (va_runV (As := [.int (j_X2_isNone a1), .int 1]) (rest := []) ⟨hx, hb, hml, hown, hts⟩ (cq_X2_isStopped l D cB cJ _ y n2 th g kn2 td hP (hD.weaken (fun _ _ _ _ => trivial)) (j_X2_isNone a1) (1 : Int32)) (cwV 2 hts gX2_tell_X2_isStopped rfl rfl rfl (by decide +kernel) ⟨(Nat.le_of_ble_eq_true rfl), (Nat.le_of_ble_eq_true rfl)⟩) (k_preV hE hS hFc (va_recv hK hP (ci := 4) (q0 := 0) rfl rfl)) rfl rfl hl.1 rfl (lv_room (Nat.le_of_ble_eq_true rfl)) dX2_tell_52 ⟨(Nat.le_of_ble_eq_true rfl), (Nat.le_of_ble_eq_true rfl)⟩) hS (fun q _ h => hFc q h) hFc (fun v H locs hp hz hk hS => ?_)
      obtain ⟨rfl, hP1, hD1⟩ := hp
      (try dsimp only at hP1 hD1)
      have hP : va_P D vwCl [(y, .inr (4, [.int (j_stT (j_X2_isNone a1) (1 : Int32)), .ref n2, .int kn2, .int td])), (n2, .inl (cJ, 8, .inr (.inl g)))] H := hP1
      have hD : va_D A [(y, .inr (4, [.int (j_stT (j_X2_isNone a1) (1 : Int32)), .ref n2, .int kn2, .int td])), (n2, .inl (cJ, 8, .inr (.inl g)))] := hD1.weaken (fun _ q _ h => hFc q.1 h)
      refine W.eq (g2 := F0 m 55 ls [.int (j_stR (j_X2_isNone a1) (1 : Int32))]) rfl ?_
      refine lv_if_eq (tgt := 60) hx hb dX2_tell_55 (by decide) (fun c_4 => ?_) (fun c_4 => ?_)
      · refine lv_aload_n hx hb dX2_tell_60 rfl (lv_at hl 0 rfl) ?_
        refine lv_iload_n hx hb dX2_tell_61 rfl (lv_at hl 1 rfl) ?_
        refine lv_iload_n hx hb dX2_tell_62 rfl (lv_at hl 2 rfl) ?_
        refine lv_bipush (v := 60) hx hb dX2_tell_63 (by decide) ?_
        refine lv_imul hx hb dX2_tell_65 ?_
        refine lv_iload_n hx hb dX2_tell_66 rfl (lv_at hl 3 rfl) ?_
        refine lv_iadd hx hb dX2_tell_67 ?_
        refine lv_bipush (v := 60) hx hb dX2_tell_68 (by decide) ?_
        refine lv_imul hx hb dX2_tell_70 ?_
        refine lv_iload hx hb dX2_tell_71 (lv_at hl 4 rfl) ?_
        refine lv_iadd hx hb dX2_tell_73 ?_
        refine lv_i2l (v := ((((a2 * 60) + a3) * 60) + a4).toInt64) hx hb dX2_tell_74 rfl ?_
        refine lv_ldc2 (v := 1000000000) hx hb hown (hts (.constantLong RX2 29 (1000000000)) (by decide +kernel)) dX2_tell_75 ?_
        refine lv_lmul hx hb dX2_tell_78 ?_
        refine lv_iload hx hb dX2_tell_79 (lv_at hl 5 rfl) ?_
        refine lv_i2l (v := a5.toInt64) hx hb dX2_tell_81 rfl ?_
        refine lv_ladd hx hb dX2_tell_82 ?_
        have hFc := va_free (wc := [(y, .inr (4, [.int (j_stT (j_X2_isNone a1) (1 : Int32)), .ref n2, .int kn2, .int td])), (n2, .inl (cJ, 8, .inr (.inl g)))]) hD hS hA [0, 1] rfl
        refine k_go (va_runV (As := [.int a1, .long (((((((a2 * 60) + a3) * 60) + a4).toInt64) * 1000000000) + a5.toInt64)]) (rest := []) ⟨hx, hb, hml, hown, hts⟩ (cq_X2_set l D cB cJ _ y n2 (j_stT (j_X2_isNone a1) (1 : Int32)) g kn2 td hP (hD.weaken (fun _ _ _ _ => trivial)) a1 (((((((a2 * 60) + a3) * 60) + a4).toInt64) * 1000000000) + a5.toInt64) (((hT.2 c_1).1 c_3).1 c_4).1) (cwV 2 hts gX2_tell_X2_set rfl rfl rfl (by decide +kernel) ⟨(Nat.le_of_ble_eq_true rfl), (Nat.le_of_ble_eq_true rfl)⟩) (k_preV hE hS hFc (va_recv hK hP (ci := 4) (q0 := 0) rfl rfl)) rfl rfl hl.1 rfl (lv_room (Nat.le_of_ble_eq_true rfl)) dX2_tell_83 ⟨(Nat.le_of_ble_eq_true rfl), (Nat.le_of_ble_eq_true rfl)⟩) hS (fun q _ h => hFc q h) hFc (fun v H locs hp hz hk hS => ?_)
        obtain ⟨rfl, hP1, hD1⟩ := hp
        (try dsimp only at hP1 hD1)
        have hP : va_P D vwCl [(y, .inr (4, [.int (j_stT (j_X2_isNone a1) (1 : Int32)), .ref n2, .int kn2, .int (td + 1)])), (n2, .inl (cJ, 8, .inr (.inl (vp_updL g a1.toNatClampNeg (((((((a2 * 60) + a3) * 60) + a4).toInt64) * 1000000000) + a5.toInt64)))))] H := hP1
        have hD : va_D A [(y, .inr (4, [.int (j_stT (j_X2_isNone a1) (1 : Int32)), .ref n2, .int kn2, .int (td + 1)])), (n2, .inl (cJ, 8, .inr (.inl (vp_updL g a1.toNatClampNeg (((((((a2 * 60) + a3) * 60) + a4).toInt64) * 1000000000) + a5.toInt64)))))] := hD1.weaken (fun _ q _ h => hFc q.1 h)
        refine W.eq (g2 := F0 m 86 ls [.int (j_X2_secondOf (((((((a2 * 60) + a3) * 60) + a4).toInt64) * 1000000000) + a5.toInt64))]) rfl ?_
        exact k_iret hx hb hr hlocks hS dX2_tell_86 ⟨by rw [hJ, if_neg c_1, if_pos c_3, if_pos c_4], by rw [hJ, if_neg c_1, if_pos c_3, if_pos c_4]; (try dsimp only); exact hP, by rw [hJ, if_neg c_1, if_pos c_3, if_pos c_4]; (try dsimp only); exact hD⟩
      · refine lv_iconst (v := 0) hx hb dX2_tell_58 (by decide) ?_
        exact k_iret hx hb hr hlocks hS dX2_tell_59 ⟨by rw [hJ, if_neg c_1, if_pos c_3, if_neg c_4], by rw [hJ, if_neg c_1, if_pos c_3, if_neg c_4]; (try dsimp only); exact hP, by rw [hJ, if_neg c_1, if_pos c_3, if_neg c_4]; (try dsimp only); exact hD⟩
    · refine lv_iload hx hb dX2_tell_25 (lv_at hl 4 rfl) ?_
      refine lv_iconst (v := 0) hx hb dX2_tell_27 (by decide) ?_
      refine lv_bipush (v := 59) hx hb dX2_tell_28 (by decide) ?_
      refine k_pS [.int a4, .int 0, .int 59] (rest := [.int (j_X2_isNone a1), .ref y]) ⟨hx, hb, hml, hown, hts⟩ (c_X2_isIn l D cB cJ _ a4 0 59) (va_cwS 3 hts gX2_tell_X2_isIn rfl rfl rfl (by decide +kernel) ⟨(Nat.le_of_ble_eq_true rfl), (Nat.le_of_ble_eq_true rfl)⟩) hE hS rfl rfl hl.1 (Nat.le_of_ble_eq_true rfl) dX2_tell_30 ⟨(Nat.le_of_ble_eq_true rfl), (Nat.le_of_ble_eq_true rfl)⟩ (fun locs hS => ?_)
      refine W.eq (g2 := F0 m 33 ls [.int (j_X2_isIn a4 0 59), .int (j_X2_isNone a1), .ref y]) rfl ?_
      refine lv_if_eq (tgt := 47) hx hb dX2_tell_33 (by decide) (fun c_5 => ?_) (fun c_5 => ?_)
      · refine lv_iconst (v := 1) hx hb dX2_tell_47 (by decide) ?_
        refine lv_goto (tgt := 52) hx hb dX2_tell_48 (by decide) ?_
        have hFc := va_free (wc := [(y, .inr (4, [.int th, .ref n2, .int kn2, .int td])), (n2, .inl (cJ, 8, .inr (.inl g)))]) hD hS hA [0, 1] rfl
        refine k_go (va_runV (As := [.int (j_X2_isNone a1), .int 1]) (rest := []) ⟨hx, hb, hml, hown, hts⟩ (cq_X2_isStopped l D cB cJ _ y n2 th g kn2 td hP (hD.weaken (fun _ _ _ _ => trivial)) (j_X2_isNone a1) (1 : Int32)) (cwV 2 hts gX2_tell_X2_isStopped rfl rfl rfl (by decide +kernel) ⟨(Nat.le_of_ble_eq_true rfl), (Nat.le_of_ble_eq_true rfl)⟩) (k_preV hE hS hFc (va_recv hK hP (ci := 4) (q0 := 0) rfl rfl)) rfl rfl hl.1 rfl (lv_room (Nat.le_of_ble_eq_true rfl)) dX2_tell_52 ⟨(Nat.le_of_ble_eq_true rfl), (Nat.le_of_ble_eq_true rfl)⟩) hS (fun q _ h => hFc q h) hFc (fun v H locs hp hz hk hS => ?_)
        obtain ⟨rfl, hP1, hD1⟩ := hp
        (try dsimp only at hP1 hD1)
        have hP : va_P D vwCl [(y, .inr (4, [.int (j_stT (j_X2_isNone a1) (1 : Int32)), .ref n2, .int kn2, .int td])), (n2, .inl (cJ, 8, .inr (.inl g)))] H := hP1
        have hD : va_D A [(y, .inr (4, [.int (j_stT (j_X2_isNone a1) (1 : Int32)), .ref n2, .int kn2, .int td])), (n2, .inl (cJ, 8, .inr (.inl g)))] := hD1.weaken (fun _ q _ h => hFc q.1 h)
        refine W.eq (g2 := F0 m 55 ls [.int (j_stR (j_X2_isNone a1) (1 : Int32))]) rfl ?_
        refine lv_if_eq (tgt := 60) hx hb dX2_tell_55 (by decide) (fun c_6 => ?_) (fun c_6 => ?_)
        · refine lv_aload_n hx hb dX2_tell_60 rfl (lv_at hl 0 rfl) ?_
          refine lv_iload_n hx hb dX2_tell_61 rfl (lv_at hl 1 rfl) ?_
          refine lv_iload_n hx hb dX2_tell_62 rfl (lv_at hl 2 rfl) ?_
          refine lv_bipush (v := 60) hx hb dX2_tell_63 (by decide) ?_
          refine lv_imul hx hb dX2_tell_65 ?_
          refine lv_iload_n hx hb dX2_tell_66 rfl (lv_at hl 3 rfl) ?_
          refine lv_iadd hx hb dX2_tell_67 ?_
          refine lv_bipush (v := 60) hx hb dX2_tell_68 (by decide) ?_
          refine lv_imul hx hb dX2_tell_70 ?_
          refine lv_iload hx hb dX2_tell_71 (lv_at hl 4 rfl) ?_
          refine lv_iadd hx hb dX2_tell_73 ?_
          refine lv_i2l (v := ((((a2 * 60) + a3) * 60) + a4).toInt64) hx hb dX2_tell_74 rfl ?_
          refine lv_ldc2 (v := 1000000000) hx hb hown (hts (.constantLong RX2 29 (1000000000)) (by decide +kernel)) dX2_tell_75 ?_
          refine lv_lmul hx hb dX2_tell_78 ?_
          refine lv_iload hx hb dX2_tell_79 (lv_at hl 5 rfl) ?_
          refine lv_i2l (v := a5.toInt64) hx hb dX2_tell_81 rfl ?_
          refine lv_ladd hx hb dX2_tell_82 ?_
          have hFc := va_free (wc := [(y, .inr (4, [.int (j_stT (j_X2_isNone a1) (1 : Int32)), .ref n2, .int kn2, .int td])), (n2, .inl (cJ, 8, .inr (.inl g)))]) hD hS hA [0, 1] rfl
          refine k_go (va_runV (As := [.int a1, .long (((((((a2 * 60) + a3) * 60) + a4).toInt64) * 1000000000) + a5.toInt64)]) (rest := []) ⟨hx, hb, hml, hown, hts⟩ (cq_X2_set l D cB cJ _ y n2 (j_stT (j_X2_isNone a1) (1 : Int32)) g kn2 td hP (hD.weaken (fun _ _ _ _ => trivial)) a1 (((((((a2 * 60) + a3) * 60) + a4).toInt64) * 1000000000) + a5.toInt64) ((((hT.2 c_1).2 c_3).1 c_5).1 c_6).1) (cwV 2 hts gX2_tell_X2_set rfl rfl rfl (by decide +kernel) ⟨(Nat.le_of_ble_eq_true rfl), (Nat.le_of_ble_eq_true rfl)⟩) (k_preV hE hS hFc (va_recv hK hP (ci := 4) (q0 := 0) rfl rfl)) rfl rfl hl.1 rfl (lv_room (Nat.le_of_ble_eq_true rfl)) dX2_tell_83 ⟨(Nat.le_of_ble_eq_true rfl), (Nat.le_of_ble_eq_true rfl)⟩) hS (fun q _ h => hFc q h) hFc (fun v H locs hp hz hk hS => ?_)
          obtain ⟨rfl, hP1, hD1⟩ := hp
          (try dsimp only at hP1 hD1)
          have hP : va_P D vwCl [(y, .inr (4, [.int (j_stT (j_X2_isNone a1) (1 : Int32)), .ref n2, .int kn2, .int (td + 1)])), (n2, .inl (cJ, 8, .inr (.inl (vp_updL g a1.toNatClampNeg (((((((a2 * 60) + a3) * 60) + a4).toInt64) * 1000000000) + a5.toInt64)))))] H := hP1
          have hD : va_D A [(y, .inr (4, [.int (j_stT (j_X2_isNone a1) (1 : Int32)), .ref n2, .int kn2, .int (td + 1)])), (n2, .inl (cJ, 8, .inr (.inl (vp_updL g a1.toNatClampNeg (((((((a2 * 60) + a3) * 60) + a4).toInt64) * 1000000000) + a5.toInt64)))))] := hD1.weaken (fun _ q _ h => hFc q.1 h)
          refine W.eq (g2 := F0 m 86 ls [.int (j_X2_secondOf (((((((a2 * 60) + a3) * 60) + a4).toInt64) * 1000000000) + a5.toInt64))]) rfl ?_
          exact k_iret hx hb hr hlocks hS dX2_tell_86 ⟨by rw [hJ, if_neg c_1, if_neg c_3, if_pos c_5, if_pos c_6], by rw [hJ, if_neg c_1, if_neg c_3, if_pos c_5, if_pos c_6]; (try dsimp only); exact hP, by rw [hJ, if_neg c_1, if_neg c_3, if_pos c_5, if_pos c_6]; (try dsimp only); exact hD⟩
        · refine lv_iconst (v := 0) hx hb dX2_tell_58 (by decide) ?_
          exact k_iret hx hb hr hlocks hS dX2_tell_59 ⟨by rw [hJ, if_neg c_1, if_neg c_3, if_pos c_5, if_neg c_6], by rw [hJ, if_neg c_1, if_neg c_3, if_pos c_5, if_neg c_6]; (try dsimp only); exact hP, by rw [hJ, if_neg c_1, if_neg c_3, if_pos c_5, if_neg c_6]; (try dsimp only); exact hD⟩
      · refine lv_iload hx hb dX2_tell_36 (lv_at hl 5 rfl) ?_
        refine lv_iconst (v := 0) hx hb dX2_tell_38 (by decide) ?_
        refine lv_ldc (v := 999999999) hx hb hown (hts (.constant RX2 42 (999999999)) (by decide +kernel)) dX2_tell_39 ?_
        refine k_pS [.int a5, .int 0, .int 999999999] (rest := [.int (j_X2_isNone a1), .ref y]) ⟨hx, hb, hml, hown, hts⟩ (c_X2_isIn l D cB cJ _ a5 0 999999999) (va_cwS 3 hts gX2_tell_X2_isIn rfl rfl rfl (by decide +kernel) ⟨(Nat.le_of_ble_eq_true rfl), (Nat.le_of_ble_eq_true rfl)⟩) hE hS rfl rfl hl.1 (Nat.le_of_ble_eq_true rfl) dX2_tell_41 ⟨(Nat.le_of_ble_eq_true rfl), (Nat.le_of_ble_eq_true rfl)⟩ (fun locs hS => ?_)
        refine W.eq (g2 := F0 m 44 ls [.int (j_X2_isIn a5 0 999999999), .int (j_X2_isNone a1), .ref y]) rfl ?_
        refine lv_if_ne (tgt := 51) hx hb dX2_tell_44 (by decide) (fun c_7 => ?_) (fun c_7 => ?_)
        · refine lv_iconst (v := 0) hx hb dX2_tell_51 (by decide) ?_
          have hFc := va_free (wc := [(y, .inr (4, [.int th, .ref n2, .int kn2, .int td])), (n2, .inl (cJ, 8, .inr (.inl g)))]) hD hS hA [0, 1] rfl
          refine k_go (va_runV (As := [.int (j_X2_isNone a1), .int 0]) (rest := []) ⟨hx, hb, hml, hown, hts⟩ (cq_X2_isStopped l D cB cJ _ y n2 th g kn2 td hP (hD.weaken (fun _ _ _ _ => trivial)) (j_X2_isNone a1) (0 : Int32)) (cwV 2 hts gX2_tell_X2_isStopped rfl rfl rfl (by decide +kernel) ⟨(Nat.le_of_ble_eq_true rfl), (Nat.le_of_ble_eq_true rfl)⟩) (k_preV hE hS hFc (va_recv hK hP (ci := 4) (q0 := 0) rfl rfl)) rfl rfl hl.1 rfl (lv_room (Nat.le_of_ble_eq_true rfl)) dX2_tell_52 ⟨(Nat.le_of_ble_eq_true rfl), (Nat.le_of_ble_eq_true rfl)⟩) hS (fun q _ h => hFc q h) hFc (fun v H locs hp hz hk hS => ?_)
          obtain ⟨rfl, hP1, hD1⟩ := hp
          (try dsimp only at hP1 hD1)
          have hP : va_P D vwCl [(y, .inr (4, [.int (j_stT (j_X2_isNone a1) (0 : Int32)), .ref n2, .int kn2, .int td])), (n2, .inl (cJ, 8, .inr (.inl g)))] H := hP1
          have hD : va_D A [(y, .inr (4, [.int (j_stT (j_X2_isNone a1) (0 : Int32)), .ref n2, .int kn2, .int td])), (n2, .inl (cJ, 8, .inr (.inl g)))] := hD1.weaken (fun _ q _ h => hFc q.1 h)
          refine W.eq (g2 := F0 m 55 ls [.int (j_stR (j_X2_isNone a1) (0 : Int32))]) rfl ?_
          refine lv_if_eq (tgt := 60) hx hb dX2_tell_55 (by decide) (fun c_8 => ?_) (fun c_8 => ?_)
          · refine lv_aload_n hx hb dX2_tell_60 rfl (lv_at hl 0 rfl) ?_
            refine lv_iload_n hx hb dX2_tell_61 rfl (lv_at hl 1 rfl) ?_
            refine lv_iload_n hx hb dX2_tell_62 rfl (lv_at hl 2 rfl) ?_
            refine lv_bipush (v := 60) hx hb dX2_tell_63 (by decide) ?_
            refine lv_imul hx hb dX2_tell_65 ?_
            refine lv_iload_n hx hb dX2_tell_66 rfl (lv_at hl 3 rfl) ?_
            refine lv_iadd hx hb dX2_tell_67 ?_
            refine lv_bipush (v := 60) hx hb dX2_tell_68 (by decide) ?_
            refine lv_imul hx hb dX2_tell_70 ?_
            refine lv_iload hx hb dX2_tell_71 (lv_at hl 4 rfl) ?_
            refine lv_iadd hx hb dX2_tell_73 ?_
            refine lv_i2l (v := ((((a2 * 60) + a3) * 60) + a4).toInt64) hx hb dX2_tell_74 rfl ?_
            refine lv_ldc2 (v := 1000000000) hx hb hown (hts (.constantLong RX2 29 (1000000000)) (by decide +kernel)) dX2_tell_75 ?_
            refine lv_lmul hx hb dX2_tell_78 ?_
            refine lv_iload hx hb dX2_tell_79 (lv_at hl 5 rfl) ?_
            refine lv_i2l (v := a5.toInt64) hx hb dX2_tell_81 rfl ?_
            refine lv_ladd hx hb dX2_tell_82 ?_
            have hFc := va_free (wc := [(y, .inr (4, [.int (j_stT (j_X2_isNone a1) (0 : Int32)), .ref n2, .int kn2, .int td])), (n2, .inl (cJ, 8, .inr (.inl g)))]) hD hS hA [0, 1] rfl
            refine k_go (va_runV (As := [.int a1, .long (((((((a2 * 60) + a3) * 60) + a4).toInt64) * 1000000000) + a5.toInt64)]) (rest := []) ⟨hx, hb, hml, hown, hts⟩ (cq_X2_set l D cB cJ _ y n2 (j_stT (j_X2_isNone a1) (0 : Int32)) g kn2 td hP (hD.weaken (fun _ _ _ _ => trivial)) a1 (((((((a2 * 60) + a3) * 60) + a4).toInt64) * 1000000000) + a5.toInt64) (((((hT.2 c_1).2 c_3).2 c_5).2 c_7).1 c_8).1) (cwV 2 hts gX2_tell_X2_set rfl rfl rfl (by decide +kernel) ⟨(Nat.le_of_ble_eq_true rfl), (Nat.le_of_ble_eq_true rfl)⟩) (k_preV hE hS hFc (va_recv hK hP (ci := 4) (q0 := 0) rfl rfl)) rfl rfl hl.1 rfl (lv_room (Nat.le_of_ble_eq_true rfl)) dX2_tell_83 ⟨(Nat.le_of_ble_eq_true rfl), (Nat.le_of_ble_eq_true rfl)⟩) hS (fun q _ h => hFc q h) hFc (fun v H locs hp hz hk hS => ?_)
            obtain ⟨rfl, hP1, hD1⟩ := hp
            (try dsimp only at hP1 hD1)
            have hP : va_P D vwCl [(y, .inr (4, [.int (j_stT (j_X2_isNone a1) (0 : Int32)), .ref n2, .int kn2, .int (td + 1)])), (n2, .inl (cJ, 8, .inr (.inl (vp_updL g a1.toNatClampNeg (((((((a2 * 60) + a3) * 60) + a4).toInt64) * 1000000000) + a5.toInt64)))))] H := hP1
            have hD : va_D A [(y, .inr (4, [.int (j_stT (j_X2_isNone a1) (0 : Int32)), .ref n2, .int kn2, .int (td + 1)])), (n2, .inl (cJ, 8, .inr (.inl (vp_updL g a1.toNatClampNeg (((((((a2 * 60) + a3) * 60) + a4).toInt64) * 1000000000) + a5.toInt64)))))] := hD1.weaken (fun _ q _ h => hFc q.1 h)
            refine W.eq (g2 := F0 m 86 ls [.int (j_X2_secondOf (((((((a2 * 60) + a3) * 60) + a4).toInt64) * 1000000000) + a5.toInt64))]) rfl ?_
            exact k_iret hx hb hr hlocks hS dX2_tell_86 ⟨by rw [hJ, if_neg c_1, if_neg c_3, if_neg c_5, if_neg c_7, if_pos c_8], by rw [hJ, if_neg c_1, if_neg c_3, if_neg c_5, if_neg c_7, if_pos c_8]; (try dsimp only); exact hP, by rw [hJ, if_neg c_1, if_neg c_3, if_neg c_5, if_neg c_7, if_pos c_8]; (try dsimp only); exact hD⟩
          · refine lv_iconst (v := 0) hx hb dX2_tell_58 (by decide) ?_
            exact k_iret hx hb hr hlocks hS dX2_tell_59 ⟨by rw [hJ, if_neg c_1, if_neg c_3, if_neg c_5, if_neg c_7, if_neg c_8], by rw [hJ, if_neg c_1, if_neg c_3, if_neg c_5, if_neg c_7, if_neg c_8]; (try dsimp only); exact hP, by rw [hJ, if_neg c_1, if_neg c_3, if_neg c_5, if_neg c_7, if_neg c_8]; (try dsimp only); exact hD⟩
        · refine lv_iconst (v := 1) hx hb dX2_tell_47 (by decide) ?_
          refine lv_goto (tgt := 52) hx hb dX2_tell_48 (by decide) ?_
          have hFc := va_free (wc := [(y, .inr (4, [.int th, .ref n2, .int kn2, .int td])), (n2, .inl (cJ, 8, .inr (.inl g)))]) hD hS hA [0, 1] rfl
          refine k_go (va_runV (As := [.int (j_X2_isNone a1), .int 1]) (rest := []) ⟨hx, hb, hml, hown, hts⟩ (cq_X2_isStopped l D cB cJ _ y n2 th g kn2 td hP (hD.weaken (fun _ _ _ _ => trivial)) (j_X2_isNone a1) (1 : Int32)) (cwV 2 hts gX2_tell_X2_isStopped rfl rfl rfl (by decide +kernel) ⟨(Nat.le_of_ble_eq_true rfl), (Nat.le_of_ble_eq_true rfl)⟩) (k_preV hE hS hFc (va_recv hK hP (ci := 4) (q0 := 0) rfl rfl)) rfl rfl hl.1 rfl (lv_room (Nat.le_of_ble_eq_true rfl)) dX2_tell_52 ⟨(Nat.le_of_ble_eq_true rfl), (Nat.le_of_ble_eq_true rfl)⟩) hS (fun q _ h => hFc q h) hFc (fun v H locs hp hz hk hS => ?_)
          obtain ⟨rfl, hP1, hD1⟩ := hp
          (try dsimp only at hP1 hD1)
          have hP : va_P D vwCl [(y, .inr (4, [.int (j_stT (j_X2_isNone a1) (1 : Int32)), .ref n2, .int kn2, .int td])), (n2, .inl (cJ, 8, .inr (.inl g)))] H := hP1
          have hD : va_D A [(y, .inr (4, [.int (j_stT (j_X2_isNone a1) (1 : Int32)), .ref n2, .int kn2, .int td])), (n2, .inl (cJ, 8, .inr (.inl g)))] := hD1.weaken (fun _ q _ h => hFc q.1 h)
          refine W.eq (g2 := F0 m 55 ls [.int (j_stR (j_X2_isNone a1) (1 : Int32))]) rfl ?_
          refine lv_if_eq (tgt := 60) hx hb dX2_tell_55 (by decide) (fun c_9 => ?_) (fun c_9 => ?_)
          · refine lv_aload_n hx hb dX2_tell_60 rfl (lv_at hl 0 rfl) ?_
            refine lv_iload_n hx hb dX2_tell_61 rfl (lv_at hl 1 rfl) ?_
            refine lv_iload_n hx hb dX2_tell_62 rfl (lv_at hl 2 rfl) ?_
            refine lv_bipush (v := 60) hx hb dX2_tell_63 (by decide) ?_
            refine lv_imul hx hb dX2_tell_65 ?_
            refine lv_iload_n hx hb dX2_tell_66 rfl (lv_at hl 3 rfl) ?_
            refine lv_iadd hx hb dX2_tell_67 ?_
            refine lv_bipush (v := 60) hx hb dX2_tell_68 (by decide) ?_
            refine lv_imul hx hb dX2_tell_70 ?_
            refine lv_iload hx hb dX2_tell_71 (lv_at hl 4 rfl) ?_
            refine lv_iadd hx hb dX2_tell_73 ?_
            refine lv_i2l (v := ((((a2 * 60) + a3) * 60) + a4).toInt64) hx hb dX2_tell_74 rfl ?_
            refine lv_ldc2 (v := 1000000000) hx hb hown (hts (.constantLong RX2 29 (1000000000)) (by decide +kernel)) dX2_tell_75 ?_
            refine lv_lmul hx hb dX2_tell_78 ?_
            refine lv_iload hx hb dX2_tell_79 (lv_at hl 5 rfl) ?_
            refine lv_i2l (v := a5.toInt64) hx hb dX2_tell_81 rfl ?_
            refine lv_ladd hx hb dX2_tell_82 ?_
            have hFc := va_free (wc := [(y, .inr (4, [.int (j_stT (j_X2_isNone a1) (1 : Int32)), .ref n2, .int kn2, .int td])), (n2, .inl (cJ, 8, .inr (.inl g)))]) hD hS hA [0, 1] rfl
            refine k_go (va_runV (As := [.int a1, .long (((((((a2 * 60) + a3) * 60) + a4).toInt64) * 1000000000) + a5.toInt64)]) (rest := []) ⟨hx, hb, hml, hown, hts⟩ (cq_X2_set l D cB cJ _ y n2 (j_stT (j_X2_isNone a1) (1 : Int32)) g kn2 td hP (hD.weaken (fun _ _ _ _ => trivial)) a1 (((((((a2 * 60) + a3) * 60) + a4).toInt64) * 1000000000) + a5.toInt64) (((((hT.2 c_1).2 c_3).2 c_5).1 c_7).1 c_9).1) (cwV 2 hts gX2_tell_X2_set rfl rfl rfl (by decide +kernel) ⟨(Nat.le_of_ble_eq_true rfl), (Nat.le_of_ble_eq_true rfl)⟩) (k_preV hE hS hFc (va_recv hK hP (ci := 4) (q0 := 0) rfl rfl)) rfl rfl hl.1 rfl (lv_room (Nat.le_of_ble_eq_true rfl)) dX2_tell_83 ⟨(Nat.le_of_ble_eq_true rfl), (Nat.le_of_ble_eq_true rfl)⟩) hS (fun q _ h => hFc q h) hFc (fun v H locs hp hz hk hS => ?_)
            obtain ⟨rfl, hP1, hD1⟩ := hp
            (try dsimp only at hP1 hD1)
            have hP : va_P D vwCl [(y, .inr (4, [.int (j_stT (j_X2_isNone a1) (1 : Int32)), .ref n2, .int kn2, .int (td + 1)])), (n2, .inl (cJ, 8, .inr (.inl (vp_updL g a1.toNatClampNeg (((((((a2 * 60) + a3) * 60) + a4).toInt64) * 1000000000) + a5.toInt64)))))] H := hP1
            have hD : va_D A [(y, .inr (4, [.int (j_stT (j_X2_isNone a1) (1 : Int32)), .ref n2, .int kn2, .int (td + 1)])), (n2, .inl (cJ, 8, .inr (.inl (vp_updL g a1.toNatClampNeg (((((((a2 * 60) + a3) * 60) + a4).toInt64) * 1000000000) + a5.toInt64)))))] := hD1.weaken (fun _ q _ h => hFc q.1 h)
            refine W.eq (g2 := F0 m 86 ls [.int (j_X2_secondOf (((((((a2 * 60) + a3) * 60) + a4).toInt64) * 1000000000) + a5.toInt64))]) rfl ?_
            exact k_iret hx hb hr hlocks hS dX2_tell_86 ⟨by rw [hJ, if_neg c_1, if_neg c_3, if_neg c_5, if_pos c_7, if_pos c_9], by rw [hJ, if_neg c_1, if_neg c_3, if_neg c_5, if_pos c_7, if_pos c_9]; (try dsimp only); exact hP, by rw [hJ, if_neg c_1, if_neg c_3, if_neg c_5, if_pos c_7, if_pos c_9]; (try dsimp only); exact hD⟩
          · refine lv_iconst (v := 0) hx hb dX2_tell_58 (by decide) ?_
            exact k_iret hx hb hr hlocks hS dX2_tell_59 ⟨by rw [hJ, if_neg c_1, if_neg c_3, if_neg c_5, if_pos c_7, if_neg c_9], by rw [hJ, if_neg c_1, if_neg c_3, if_neg c_5, if_pos c_7, if_neg c_9]; (try dsimp only); exact hP, by rw [hJ, if_neg c_1, if_neg c_3, if_neg c_5, if_pos c_7, if_neg c_9]; (try dsimp only); exact hD⟩
abbrev rm_X2_tellSecond : Room := { frames := 2, cells := 0, slots := 0, locals := 44 }
def j_X2_tellSecond (th : Int32) (g : Nat → Int64) (kn2 td : Int32) (a1 : Int32) (a2 : Int32) : Int32 × Int32 × (Nat → Int64) × Int32 × Int32 := (if (j_X2_isIn a2 0 86399) = 0 then (if (j_stR (j_X2_isNone a1) (1 : Int32)) = 0 then (((j_X2_secondOf (a2.toInt64 * 1000000000)) / 3600), (j_stT (j_X2_isNone a1) (1 : Int32)), (vp_updL g a1.toNatClampNeg (a2.toInt64 * 1000000000)), kn2, (td + 1)) else (0, (j_stT (j_X2_isNone a1) (1 : Int32)), g, kn2, td)) else (if (j_stR (j_X2_isNone a1) (0 : Int32)) = 0 then (((j_X2_secondOf (a2.toInt64 * 1000000000)) / 3600), (j_stT (j_X2_isNone a1) (0 : Int32)), (vp_updL g a1.toNatClampNeg (a2.toInt64 * 1000000000)), kn2, (td + 1)) else (0, (j_stT (j_X2_isNone a1) (0 : Int32)), g, kn2, td)))
def T_X2_tellSecond (th : Int32) (g : Nat → Int64) (kn2 td : Int32) (a1 : Int32) (a2 : Int32) : Prop := (((j_X2_isIn a2 0 86399) = 0 → (((j_stR (j_X2_isNone a1) (1 : Int32)) = 0 → (T_X2_set (j_stT (j_X2_isNone a1) (1 : Int32)) g kn2 td a1 (a2.toInt64 * 1000000000) ∧ True)) ∧ (¬ ((j_stR (j_X2_isNone a1) (1 : Int32)) = 0) → True))) ∧ (¬ ((j_X2_isIn a2 0 86399) = 0) → (((j_stR (j_X2_isNone a1) (0 : Int32)) = 0 → (T_X2_set (j_stT (j_X2_isNone a1) (0 : Int32)) g kn2 td a1 (a2.toInt64 * 1000000000) ∧ True)) ∧ (¬ ((j_stR (j_X2_isNone a1) (0 : Int32)) = 0) → True))))
set_option maxHeartbeats 4000000 in
set_option maxRecDepth 100000 in
theorem c_X2_tellSecond (l : Launch) (D : va_G) (cB cJ : ClassId) (Hp : Heap) (y n2 : Nat) (th : Int32) (g : Nat → Int64) (kn2 td : Int32) (hP : va_P D vwCl (wMo y n2 cJ th g kn2 td) Hp) (hD9 : va_D (fun _ => True) (wMo y n2 cJ th g kn2 td)) (a1 : Int32) (a2 : Int32) (hT9 : T_X2_tellSecond th g kn2 td a1 a2) : kM l D cB cJ yX2_tellSecond wsX2_tellSecond rm_X2_tellSecond (va_A (wMo y n2 cJ th g kn2 td) Hp.size) Hp [.ref y, .int a1, .int a2] (kPm D y n2 cJ (va_A (wMo y n2 cJ th g kn2 td) Hp.size) (j_X2_tellSecond th g kn2 td a1 a2)) 0 0 := by
  refine Met.ofW (cc := cX2_tellSecond) (maxL := 3) (ret := (some .int)) (by decide) rfl ?_
  intro p e s m args below meth c s₁ B hml hv
  obtain ⟨rfl, hHp, hE⟩ := hv
  subst hHp
  have hx := B.exec
  have hb := B.bytes
  have hr := B.returns
  have hts := atoms_spec (ws := wsX2_tellSecond) B.pre
  have hown : s.vm.findClass RX2 = some m.cls := findClass_of_methodNamed B.named
  have hlocks := B.notSynchronized
  have hK := hE.1
  have hD := hD9.self (sz := s.heap.size)
  generalize hAe : va_A (wMo y n2 cJ th g kn2 td) s.heap.size = A at hE hD ⊢
  have hA : ∀ q : Nat, s.heap.size ≤ q → A q := fun q h => by rw [← hAe]; exact Or.inr h
  have hS : va_S A s.heap s.heap [] := va_S.rf
  have hl := lv_entry ([.ref y, .int a1, .int a2]) (n := 3) (Nat.le_of_ble_eq_true rfl)
  rw [lg_entry_eq]
  generalize (lg_sl ([.ref y, .int a1, .int a2]) ++ List.replicate (3 - (lg_sl ([.ref y, .int a1, .int a2])).length) Slot.unset).toArray = ls at hl ⊢
  have hl : lv_has ls 3 [(0, .ref y), (1, .int a1), (2, .int a2)] := hl
  have hJ : (j_X2_tellSecond th g kn2 td a1 a2) = (if (j_X2_isIn a2 0 86399) = 0 then (if (j_stR (j_X2_isNone a1) (1 : Int32)) = 0 then (((j_X2_secondOf (a2.toInt64 * 1000000000)) / 3600), (j_stT (j_X2_isNone a1) (1 : Int32)), (vp_updL g a1.toNatClampNeg (a2.toInt64 * 1000000000)), kn2, (td + 1)) else (0, (j_stT (j_X2_isNone a1) (1 : Int32)), g, kn2, td)) else (if (j_stR (j_X2_isNone a1) (0 : Int32)) = 0 then (((j_X2_secondOf (a2.toInt64 * 1000000000)) / 3600), (j_stT (j_X2_isNone a1) (0 : Int32)), (vp_updL g a1.toNatClampNeg (a2.toInt64 * 1000000000)), kn2, (td + 1)) else (0, (j_stT (j_X2_isNone a1) (0 : Int32)), g, kn2, td))) := rfl
  have hT : (((j_X2_isIn a2 0 86399) = 0 → (((j_stR (j_X2_isNone a1) (1 : Int32)) = 0 → (T_X2_set (j_stT (j_X2_isNone a1) (1 : Int32)) g kn2 td a1 (a2.toInt64 * 1000000000) ∧ True)) ∧ (¬ ((j_stR (j_X2_isNone a1) (1 : Int32)) = 0) → True))) ∧ (¬ ((j_X2_isIn a2 0 86399) = 0) → (((j_stR (j_X2_isNone a1) (0 : Int32)) = 0 → (T_X2_set (j_stT (j_X2_isNone a1) (0 : Int32)) g kn2 td a1 (a2.toInt64 * 1000000000) ∧ True)) ∧ (¬ ((j_stR (j_X2_isNone a1) (0 : Int32)) = 0) → True)))) := hT9
  refine lv_aload_n hx hb dX2_tellSecond_0 rfl (lv_at hl 0 rfl) ?_
  refine lv_iload_n hx hb dX2_tellSecond_1 rfl (lv_at hl 1 rfl) ?_
  refine k_pS [.int a1] (rest := [.ref y]) ⟨hx, hb, hml, hown, hts⟩ (c_X2_isNone l D cB cJ _ a1) (va_cwS 1 hts gX2_tellSecond_X2_isNone rfl rfl rfl (by decide +kernel) ⟨(Nat.le_of_ble_eq_true rfl), (Nat.le_of_ble_eq_true rfl)⟩) hE hS rfl rfl hl.1 (Nat.le_of_ble_eq_true rfl) dX2_tellSecond_2 ⟨(Nat.le_of_ble_eq_true rfl), (Nat.le_of_ble_eq_true rfl)⟩ (fun locs hS => ?_)
  refine W.eq (g2 := F0 m 5 ls [.int (j_X2_isNone a1), .ref y]) rfl ?_
  refine lv_iload_n hx hb dX2_tellSecond_5 rfl (lv_at hl 2 rfl) ?_
  refine lv_iconst (v := 0) hx hb dX2_tellSecond_6 (by decide) ?_
  refine lv_ldc (v := 86399) hx hb hown (hts (.constant RX2 51 (86399)) (by decide +kernel)) dX2_tellSecond_7 ?_
  refine k_pS [.int a2, .int 0, .int 86399] (rest := [.int (j_X2_isNone a1), .ref y]) ⟨hx, hb, hml, hown, hts⟩ (c_X2_isIn l D cB cJ _ a2 0 86399) (va_cwS 3 hts gX2_tellSecond_X2_isIn rfl rfl rfl (by decide +kernel) ⟨(Nat.le_of_ble_eq_true rfl), (Nat.le_of_ble_eq_true rfl)⟩) hE hS rfl rfl hl.1 (Nat.le_of_ble_eq_true rfl) dX2_tellSecond_9 ⟨(Nat.le_of_ble_eq_true rfl), (Nat.le_of_ble_eq_true rfl)⟩ (fun locs hS => ?_)
  refine W.eq (g2 := F0 m 12 ls [.int (j_X2_isIn a2 0 86399), .int (j_X2_isNone a1), .ref y]) rfl ?_
  refine lv_if_ne (tgt := 19) hx hb dX2_tellSecond_12 (by decide) (fun c_1 => ?_) (fun c_1 => ?_)
  · refine lv_iconst (v := 0) hx hb dX2_tellSecond_19 (by decide) ?_
    have hFc := va_free (wc := [(y, .inr (4, [.int th, .ref n2, .int kn2, .int td])), (n2, .inl (cJ, 8, .inr (.inl g)))]) hD hS hA [0, 1] rfl
    refine k_go (va_runV (As := [.int (j_X2_isNone a1), .int 0]) (rest := []) ⟨hx, hb, hml, hown, hts⟩ (cq_X2_isStopped l D cB cJ _ y n2 th g kn2 td hP (hD.weaken (fun _ _ _ _ => trivial)) (j_X2_isNone a1) (0 : Int32)) (cwV 2 hts gX2_tellSecond_X2_isStopped rfl rfl rfl (by decide +kernel) ⟨(Nat.le_of_ble_eq_true rfl), (Nat.le_of_ble_eq_true rfl)⟩) (k_preV hE hS hFc (va_recv hK hP (ci := 4) (q0 := 0) rfl rfl)) rfl rfl hl.1 rfl (lv_room (Nat.le_of_ble_eq_true rfl)) dX2_tellSecond_20 ⟨(Nat.le_of_ble_eq_true rfl), (Nat.le_of_ble_eq_true rfl)⟩) hS (fun q _ h => hFc q h) hFc (fun v H locs hp hz hk hS => ?_)
    obtain ⟨rfl, hP1, hD1⟩ := hp
    (try dsimp only at hP1 hD1)
    have hP : va_P D vwCl [(y, .inr (4, [.int (j_stT (j_X2_isNone a1) (0 : Int32)), .ref n2, .int kn2, .int td])), (n2, .inl (cJ, 8, .inr (.inl g)))] H := hP1
    have hD : va_D A [(y, .inr (4, [.int (j_stT (j_X2_isNone a1) (0 : Int32)), .ref n2, .int kn2, .int td])), (n2, .inl (cJ, 8, .inr (.inl g)))] := hD1.weaken (fun _ q _ h => hFc q.1 h)
    refine W.eq (g2 := F0 m 23 ls [.int (j_stR (j_X2_isNone a1) (0 : Int32))]) rfl ?_
    refine lv_if_eq (tgt := 30) hx hb dX2_tellSecond_23 (by decide) (fun c_2 => ?_) (fun c_2 => ?_)
    · refine lv_aload_n hx hb dX2_tellSecond_30 rfl (lv_at hl 0 rfl) ?_
      refine lv_iload_n hx hb dX2_tellSecond_31 rfl (lv_at hl 1 rfl) ?_
      refine lv_iload_n hx hb dX2_tellSecond_32 rfl (lv_at hl 2 rfl) ?_
      refine lv_i2l (v := a2.toInt64) hx hb dX2_tellSecond_33 rfl ?_
      refine lv_ldc2 (v := 1000000000) hx hb hown (hts (.constantLong RX2 29 (1000000000)) (by decide +kernel)) dX2_tellSecond_34 ?_
      refine lv_lmul hx hb dX2_tellSecond_37 ?_
      have hFc := va_free (wc := [(y, .inr (4, [.int (j_stT (j_X2_isNone a1) (0 : Int32)), .ref n2, .int kn2, .int td])), (n2, .inl (cJ, 8, .inr (.inl g)))]) hD hS hA [0, 1] rfl
      refine k_go (va_runV (As := [.int a1, .long (a2.toInt64 * 1000000000)]) (rest := []) ⟨hx, hb, hml, hown, hts⟩ (cq_X2_set l D cB cJ _ y n2 (j_stT (j_X2_isNone a1) (0 : Int32)) g kn2 td hP (hD.weaken (fun _ _ _ _ => trivial)) a1 (a2.toInt64 * 1000000000) ((hT.2 c_1).1 c_2).1) (cwV 2 hts gX2_tellSecond_X2_set rfl rfl rfl (by decide +kernel) ⟨(Nat.le_of_ble_eq_true rfl), (Nat.le_of_ble_eq_true rfl)⟩) (k_preV hE hS hFc (va_recv hK hP (ci := 4) (q0 := 0) rfl rfl)) rfl rfl hl.1 rfl (lv_room (Nat.le_of_ble_eq_true rfl)) dX2_tellSecond_38 ⟨(Nat.le_of_ble_eq_true rfl), (Nat.le_of_ble_eq_true rfl)⟩) hS (fun q _ h => hFc q h) hFc (fun v H locs hp hz hk hS => ?_)
      obtain ⟨rfl, hP1, hD1⟩ := hp
      (try dsimp only at hP1 hD1)
      have hP : va_P D vwCl [(y, .inr (4, [.int (j_stT (j_X2_isNone a1) (0 : Int32)), .ref n2, .int kn2, .int (td + 1)])), (n2, .inl (cJ, 8, .inr (.inl (vp_updL g a1.toNatClampNeg (a2.toInt64 * 1000000000)))))] H := hP1
      have hD : va_D A [(y, .inr (4, [.int (j_stT (j_X2_isNone a1) (0 : Int32)), .ref n2, .int kn2, .int (td + 1)])), (n2, .inl (cJ, 8, .inr (.inl (vp_updL g a1.toNatClampNeg (a2.toInt64 * 1000000000)))))] := hD1.weaken (fun _ q _ h => hFc q.1 h)
      refine W.eq (g2 := F0 m 41 ls [.int (j_X2_secondOf (a2.toInt64 * 1000000000))]) rfl ?_
      refine lv_sipush (v := 3600) hx hb dX2_tellSecond_41 (by decide) ?_
      refine lv_idiv hx hb dX2_tellSecond_44 (by decide) ?_
      exact k_iret hx hb hr hlocks hS dX2_tellSecond_45 ⟨by rw [hJ, if_neg c_1, if_pos c_2], by rw [hJ, if_neg c_1, if_pos c_2]; (try dsimp only); exact hP, by rw [hJ, if_neg c_1, if_pos c_2]; (try dsimp only); exact hD⟩
    · refine lv_iconst (v := 0) hx hb dX2_tellSecond_26 (by decide) ?_
      refine lv_goto (tgt := 45) hx hb dX2_tellSecond_27 (by decide) ?_
      exact k_iret hx hb hr hlocks hS dX2_tellSecond_45 ⟨by rw [hJ, if_neg c_1, if_neg c_2], by rw [hJ, if_neg c_1, if_neg c_2]; (try dsimp only); exact hP, by rw [hJ, if_neg c_1, if_neg c_2]; (try dsimp only); exact hD⟩
  · refine lv_iconst (v := 1) hx hb dX2_tellSecond_15 (by decide) ?_
    refine lv_goto (tgt := 20) hx hb dX2_tellSecond_16 (by decide) ?_
    have hFc := va_free (wc := [(y, .inr (4, [.int th, .ref n2, .int kn2, .int td])), (n2, .inl (cJ, 8, .inr (.inl g)))]) hD hS hA [0, 1] rfl
    refine k_go (va_runV (As := [.int (j_X2_isNone a1), .int 1]) (rest := []) ⟨hx, hb, hml, hown, hts⟩ (cq_X2_isStopped l D cB cJ _ y n2 th g kn2 td hP (hD.weaken (fun _ _ _ _ => trivial)) (j_X2_isNone a1) (1 : Int32)) (cwV 2 hts gX2_tellSecond_X2_isStopped rfl rfl rfl (by decide +kernel) ⟨(Nat.le_of_ble_eq_true rfl), (Nat.le_of_ble_eq_true rfl)⟩) (k_preV hE hS hFc (va_recv hK hP (ci := 4) (q0 := 0) rfl rfl)) rfl rfl hl.1 rfl (lv_room (Nat.le_of_ble_eq_true rfl)) dX2_tellSecond_20 ⟨(Nat.le_of_ble_eq_true rfl), (Nat.le_of_ble_eq_true rfl)⟩) hS (fun q _ h => hFc q h) hFc (fun v H locs hp hz hk hS => ?_)
    obtain ⟨rfl, hP1, hD1⟩ := hp
    (try dsimp only at hP1 hD1)
    have hP : va_P D vwCl [(y, .inr (4, [.int (j_stT (j_X2_isNone a1) (1 : Int32)), .ref n2, .int kn2, .int td])), (n2, .inl (cJ, 8, .inr (.inl g)))] H := hP1
    have hD : va_D A [(y, .inr (4, [.int (j_stT (j_X2_isNone a1) (1 : Int32)), .ref n2, .int kn2, .int td])), (n2, .inl (cJ, 8, .inr (.inl g)))] := hD1.weaken (fun _ q _ h => hFc q.1 h)
    refine W.eq (g2 := F0 m 23 ls [.int (j_stR (j_X2_isNone a1) (1 : Int32))]) rfl ?_
    refine lv_if_eq (tgt := 30) hx hb dX2_tellSecond_23 (by decide) (fun c_3 => ?_) (fun c_3 => ?_)
    · refine lv_aload_n hx hb dX2_tellSecond_30 rfl (lv_at hl 0 rfl) ?_
      refine lv_iload_n hx hb dX2_tellSecond_31 rfl (lv_at hl 1 rfl) ?_
      refine lv_iload_n hx hb dX2_tellSecond_32 rfl (lv_at hl 2 rfl) ?_
      refine lv_i2l (v := a2.toInt64) hx hb dX2_tellSecond_33 rfl ?_
      refine lv_ldc2 (v := 1000000000) hx hb hown (hts (.constantLong RX2 29 (1000000000)) (by decide +kernel)) dX2_tellSecond_34 ?_
      refine lv_lmul hx hb dX2_tellSecond_37 ?_
      have hFc := va_free (wc := [(y, .inr (4, [.int (j_stT (j_X2_isNone a1) (1 : Int32)), .ref n2, .int kn2, .int td])), (n2, .inl (cJ, 8, .inr (.inl g)))]) hD hS hA [0, 1] rfl
      refine k_go (va_runV (As := [.int a1, .long (a2.toInt64 * 1000000000)]) (rest := []) ⟨hx, hb, hml, hown, hts⟩ (cq_X2_set l D cB cJ _ y n2 (j_stT (j_X2_isNone a1) (1 : Int32)) g kn2 td hP (hD.weaken (fun _ _ _ _ => trivial)) a1 (a2.toInt64 * 1000000000) ((hT.1 c_1).1 c_3).1) (cwV 2 hts gX2_tellSecond_X2_set rfl rfl rfl (by decide +kernel) ⟨(Nat.le_of_ble_eq_true rfl), (Nat.le_of_ble_eq_true rfl)⟩) (k_preV hE hS hFc (va_recv hK hP (ci := 4) (q0 := 0) rfl rfl)) rfl rfl hl.1 rfl (lv_room (Nat.le_of_ble_eq_true rfl)) dX2_tellSecond_38 ⟨(Nat.le_of_ble_eq_true rfl), (Nat.le_of_ble_eq_true rfl)⟩) hS (fun q _ h => hFc q h) hFc (fun v H locs hp hz hk hS => ?_)
      obtain ⟨rfl, hP1, hD1⟩ := hp
      (try dsimp only at hP1 hD1)
      have hP : va_P D vwCl [(y, .inr (4, [.int (j_stT (j_X2_isNone a1) (1 : Int32)), .ref n2, .int kn2, .int (td + 1)])), (n2, .inl (cJ, 8, .inr (.inl (vp_updL g a1.toNatClampNeg (a2.toInt64 * 1000000000)))))] H := hP1
      have hD : va_D A [(y, .inr (4, [.int (j_stT (j_X2_isNone a1) (1 : Int32)), .ref n2, .int kn2, .int (td + 1)])), (n2, .inl (cJ, 8, .inr (.inl (vp_updL g a1.toNatClampNeg (a2.toInt64 * 1000000000)))))] := hD1.weaken (fun _ q _ h => hFc q.1 h)
      refine W.eq (g2 := F0 m 41 ls [.int (j_X2_secondOf (a2.toInt64 * 1000000000))]) rfl ?_
      refine lv_sipush (v := 3600) hx hb dX2_tellSecond_41 (by decide) ?_
      refine lv_idiv hx hb dX2_tellSecond_44 (by decide) ?_
      exact k_iret hx hb hr hlocks hS dX2_tellSecond_45 ⟨by rw [hJ, if_pos c_1, if_pos c_3], by rw [hJ, if_pos c_1, if_pos c_3]; (try dsimp only); exact hP, by rw [hJ, if_pos c_1, if_pos c_3]; (try dsimp only); exact hD⟩
    · refine lv_iconst (v := 0) hx hb dX2_tellSecond_26 (by decide) ?_
      refine lv_goto (tgt := 45) hx hb dX2_tellSecond_27 (by decide) ?_
      exact k_iret hx hb hr hlocks hS dX2_tellSecond_45 ⟨by rw [hJ, if_pos c_1, if_neg c_3], by rw [hJ, if_pos c_1, if_neg c_3]; (try dsimp only); exact hP, by rw [hJ, if_pos c_1, if_neg c_3]; (try dsimp only); exact hD⟩
abbrev rm_X2_tellNumber : Room := { frames := 2, cells := 0, slots := 0, locals := 44 }
def j_X2_tellNumber (th : Int32) (g : Nat → Int64) (kn2 td : Int32) (a1 : Int32) (a2 : Int32) (a3 : Int32) : Int32 × Int32 × (Nat → Int64) × Int32 × Int32 := (if (j_X2_isIn a2 0 86399) = 0 then (if (j_stR (j_X2_isNone a1) (1 : Int32)) = 0 then (((j_X2_secondOf ((a2.toInt64 * 1000000000) + a3.toInt64)) / 3600), (j_stT (j_X2_isNone a1) (1 : Int32)), (vp_updL g a1.toNatClampNeg ((a2.toInt64 * 1000000000) + a3.toInt64)), kn2, (td + 1)) else (0, (j_stT (j_X2_isNone a1) (1 : Int32)), g, kn2, td)) else (if (j_X2_isIn a3 0 999999999) = 0 then (if (j_stR (j_X2_isNone a1) (1 : Int32)) = 0 then (((j_X2_secondOf ((a2.toInt64 * 1000000000) + a3.toInt64)) / 3600), (j_stT (j_X2_isNone a1) (1 : Int32)), (vp_updL g a1.toNatClampNeg ((a2.toInt64 * 1000000000) + a3.toInt64)), kn2, (td + 1)) else (0, (j_stT (j_X2_isNone a1) (1 : Int32)), g, kn2, td)) else (if (j_stR (j_X2_isNone a1) (0 : Int32)) = 0 then (((j_X2_secondOf ((a2.toInt64 * 1000000000) + a3.toInt64)) / 3600), (j_stT (j_X2_isNone a1) (0 : Int32)), (vp_updL g a1.toNatClampNeg ((a2.toInt64 * 1000000000) + a3.toInt64)), kn2, (td + 1)) else (0, (j_stT (j_X2_isNone a1) (0 : Int32)), g, kn2, td))))
def T_X2_tellNumber (th : Int32) (g : Nat → Int64) (kn2 td : Int32) (a1 : Int32) (a2 : Int32) (a3 : Int32) : Prop := (((j_X2_isIn a2 0 86399) = 0 → (((j_stR (j_X2_isNone a1) (1 : Int32)) = 0 → (T_X2_set (j_stT (j_X2_isNone a1) (1 : Int32)) g kn2 td a1 ((a2.toInt64 * 1000000000) + a3.toInt64) ∧ True)) ∧ (¬ ((j_stR (j_X2_isNone a1) (1 : Int32)) = 0) → True))) ∧ (¬ ((j_X2_isIn a2 0 86399) = 0) → (((j_X2_isIn a3 0 999999999) = 0 → (((j_stR (j_X2_isNone a1) (1 : Int32)) = 0 → (T_X2_set (j_stT (j_X2_isNone a1) (1 : Int32)) g kn2 td a1 ((a2.toInt64 * 1000000000) + a3.toInt64) ∧ True)) ∧ (¬ ((j_stR (j_X2_isNone a1) (1 : Int32)) = 0) → True))) ∧ (¬ ((j_X2_isIn a3 0 999999999) = 0) → (((j_stR (j_X2_isNone a1) (0 : Int32)) = 0 → (T_X2_set (j_stT (j_X2_isNone a1) (0 : Int32)) g kn2 td a1 ((a2.toInt64 * 1000000000) + a3.toInt64) ∧ True)) ∧ (¬ ((j_stR (j_X2_isNone a1) (0 : Int32)) = 0) → True))))))
set_option maxHeartbeats 4000000 in
set_option maxRecDepth 100000 in
theorem c_X2_tellNumber (l : Launch) (D : va_G) (cB cJ : ClassId) (Hp : Heap) (y n2 : Nat) (th : Int32) (g : Nat → Int64) (kn2 td : Int32) (hP : va_P D vwCl (wMo y n2 cJ th g kn2 td) Hp) (hD9 : va_D (fun _ => True) (wMo y n2 cJ th g kn2 td)) (a1 : Int32) (a2 : Int32) (a3 : Int32) (hT9 : T_X2_tellNumber th g kn2 td a1 a2 a3) : kM l D cB cJ yX2_tellNumber wsX2_tellNumber rm_X2_tellNumber (va_A (wMo y n2 cJ th g kn2 td) Hp.size) Hp [.ref y, .int a1, .int a2, .int a3] (kPm D y n2 cJ (va_A (wMo y n2 cJ th g kn2 td) Hp.size) (j_X2_tellNumber th g kn2 td a1 a2 a3)) 0 0 := by
  refine Met.ofW (cc := cX2_tellNumber) (maxL := 4) (ret := (some .int)) (by decide) rfl ?_
  intro p e s m args below meth c s₁ B hml hv
  obtain ⟨rfl, hHp, hE⟩ := hv
  subst hHp
  have hx := B.exec
  have hb := B.bytes
  have hr := B.returns
  have hts := atoms_spec (ws := wsX2_tellNumber) B.pre
  have hown : s.vm.findClass RX2 = some m.cls := findClass_of_methodNamed B.named
  have hlocks := B.notSynchronized
  have hK := hE.1
  have hD := hD9.self (sz := s.heap.size)
  generalize hAe : va_A (wMo y n2 cJ th g kn2 td) s.heap.size = A at hE hD ⊢
  have hA : ∀ q : Nat, s.heap.size ≤ q → A q := fun q h => by rw [← hAe]; exact Or.inr h
  have hS : va_S A s.heap s.heap [] := va_S.rf
  have hl := lv_entry ([.ref y, .int a1, .int a2, .int a3]) (n := 4) (Nat.le_of_ble_eq_true rfl)
  rw [lg_entry_eq]
  generalize (lg_sl ([.ref y, .int a1, .int a2, .int a3]) ++ List.replicate (4 - (lg_sl ([.ref y, .int a1, .int a2, .int a3])).length) Slot.unset).toArray = ls at hl ⊢
  have hl : lv_has ls 4 [(0, .ref y), (1, .int a1), (2, .int a2), (3, .int a3)] := hl
  have hJ : (j_X2_tellNumber th g kn2 td a1 a2 a3) = (if (j_X2_isIn a2 0 86399) = 0 then (if (j_stR (j_X2_isNone a1) (1 : Int32)) = 0 then (((j_X2_secondOf ((a2.toInt64 * 1000000000) + a3.toInt64)) / 3600), (j_stT (j_X2_isNone a1) (1 : Int32)), (vp_updL g a1.toNatClampNeg ((a2.toInt64 * 1000000000) + a3.toInt64)), kn2, (td + 1)) else (0, (j_stT (j_X2_isNone a1) (1 : Int32)), g, kn2, td)) else (if (j_X2_isIn a3 0 999999999) = 0 then (if (j_stR (j_X2_isNone a1) (1 : Int32)) = 0 then (((j_X2_secondOf ((a2.toInt64 * 1000000000) + a3.toInt64)) / 3600), (j_stT (j_X2_isNone a1) (1 : Int32)), (vp_updL g a1.toNatClampNeg ((a2.toInt64 * 1000000000) + a3.toInt64)), kn2, (td + 1)) else (0, (j_stT (j_X2_isNone a1) (1 : Int32)), g, kn2, td)) else (if (j_stR (j_X2_isNone a1) (0 : Int32)) = 0 then (((j_X2_secondOf ((a2.toInt64 * 1000000000) + a3.toInt64)) / 3600), (j_stT (j_X2_isNone a1) (0 : Int32)), (vp_updL g a1.toNatClampNeg ((a2.toInt64 * 1000000000) + a3.toInt64)), kn2, (td + 1)) else (0, (j_stT (j_X2_isNone a1) (0 : Int32)), g, kn2, td)))) := rfl
  have hT : (((j_X2_isIn a2 0 86399) = 0 → (((j_stR (j_X2_isNone a1) (1 : Int32)) = 0 → (T_X2_set (j_stT (j_X2_isNone a1) (1 : Int32)) g kn2 td a1 ((a2.toInt64 * 1000000000) + a3.toInt64) ∧ True)) ∧ (¬ ((j_stR (j_X2_isNone a1) (1 : Int32)) = 0) → True))) ∧ (¬ ((j_X2_isIn a2 0 86399) = 0) → (((j_X2_isIn a3 0 999999999) = 0 → (((j_stR (j_X2_isNone a1) (1 : Int32)) = 0 → (T_X2_set (j_stT (j_X2_isNone a1) (1 : Int32)) g kn2 td a1 ((a2.toInt64 * 1000000000) + a3.toInt64) ∧ True)) ∧ (¬ ((j_stR (j_X2_isNone a1) (1 : Int32)) = 0) → True))) ∧ (¬ ((j_X2_isIn a3 0 999999999) = 0) → (((j_stR (j_X2_isNone a1) (0 : Int32)) = 0 → (T_X2_set (j_stT (j_X2_isNone a1) (0 : Int32)) g kn2 td a1 ((a2.toInt64 * 1000000000) + a3.toInt64) ∧ True)) ∧ (¬ ((j_stR (j_X2_isNone a1) (0 : Int32)) = 0) → True)))))) := hT9
  refine lv_aload_n hx hb dX2_tellNumber_0 rfl (lv_at hl 0 rfl) ?_
  refine lv_iload_n hx hb dX2_tellNumber_1 rfl (lv_at hl 1 rfl) ?_
  refine k_pS [.int a1] (rest := [.ref y]) ⟨hx, hb, hml, hown, hts⟩ (c_X2_isNone l D cB cJ _ a1) (va_cwS 1 hts gX2_tellNumber_X2_isNone rfl rfl rfl (by decide +kernel) ⟨(Nat.le_of_ble_eq_true rfl), (Nat.le_of_ble_eq_true rfl)⟩) hE hS rfl rfl hl.1 (Nat.le_of_ble_eq_true rfl) dX2_tellNumber_2 ⟨(Nat.le_of_ble_eq_true rfl), (Nat.le_of_ble_eq_true rfl)⟩ (fun locs hS => ?_)
  refine W.eq (g2 := F0 m 5 ls [.int (j_X2_isNone a1), .ref y]) rfl ?_
  refine lv_iload_n hx hb dX2_tellNumber_5 rfl (lv_at hl 2 rfl) ?_
  refine lv_iconst (v := 0) hx hb dX2_tellNumber_6 (by decide) ?_
  refine lv_ldc (v := 86399) hx hb hown (hts (.constant RX2 51 (86399)) (by decide +kernel)) dX2_tellNumber_7 ?_
  refine k_pS [.int a2, .int 0, .int 86399] (rest := [.int (j_X2_isNone a1), .ref y]) ⟨hx, hb, hml, hown, hts⟩ (c_X2_isIn l D cB cJ _ a2 0 86399) (va_cwS 3 hts gX2_tellNumber_X2_isIn rfl rfl rfl (by decide +kernel) ⟨(Nat.le_of_ble_eq_true rfl), (Nat.le_of_ble_eq_true rfl)⟩) hE hS rfl rfl hl.1 (Nat.le_of_ble_eq_true rfl) dX2_tellNumber_9 ⟨(Nat.le_of_ble_eq_true rfl), (Nat.le_of_ble_eq_true rfl)⟩ (fun locs hS => ?_)
  refine W.eq (g2 := F0 m 12 ls [.int (j_X2_isIn a2 0 86399), .int (j_X2_isNone a1), .ref y]) rfl ?_
  refine lv_if_eq (tgt := 25) hx hb dX2_tellNumber_12 (by decide) (fun c_1 => ?_) (fun c_1 => ?_)
  · refine lv_iconst (v := 1) hx hb dX2_tellNumber_25 (by decide) ?_
    refine lv_goto (tgt := 30) hx hb dX2_tellNumber_26 (by decide) ?_
    have hFc := va_free (wc := [(y, .inr (4, [.int th, .ref n2, .int kn2, .int td])), (n2, .inl (cJ, 8, .inr (.inl g)))]) hD hS hA [0, 1] rfl
    refine k_go (va_runV (As := [.int (j_X2_isNone a1), .int 1]) (rest := []) ⟨hx, hb, hml, hown, hts⟩ (cq_X2_isStopped l D cB cJ _ y n2 th g kn2 td hP (hD.weaken (fun _ _ _ _ => trivial)) (j_X2_isNone a1) (1 : Int32)) (cwV 2 hts gX2_tellNumber_X2_isStopped rfl rfl rfl (by decide +kernel) ⟨(Nat.le_of_ble_eq_true rfl), (Nat.le_of_ble_eq_true rfl)⟩) (k_preV hE hS hFc (va_recv hK hP (ci := 4) (q0 := 0) rfl rfl)) rfl rfl hl.1 rfl (lv_room (Nat.le_of_ble_eq_true rfl)) dX2_tellNumber_30 ⟨(Nat.le_of_ble_eq_true rfl), (Nat.le_of_ble_eq_true rfl)⟩) hS (fun q _ h => hFc q h) hFc (fun v H locs hp hz hk hS => ?_)
    obtain ⟨rfl, hP1, hD1⟩ := hp
    (try dsimp only at hP1 hD1)
    have hP : va_P D vwCl [(y, .inr (4, [.int (j_stT (j_X2_isNone a1) (1 : Int32)), .ref n2, .int kn2, .int td])), (n2, .inl (cJ, 8, .inr (.inl g)))] H := hP1
    have hD : va_D A [(y, .inr (4, [.int (j_stT (j_X2_isNone a1) (1 : Int32)), .ref n2, .int kn2, .int td])), (n2, .inl (cJ, 8, .inr (.inl g)))] := hD1.weaken (fun _ q _ h => hFc q.1 h)
    refine W.eq (g2 := F0 m 33 ls [.int (j_stR (j_X2_isNone a1) (1 : Int32))]) rfl ?_
    refine lv_if_eq (tgt := 40) hx hb dX2_tellNumber_33 (by decide) (fun c_2 => ?_) (fun c_2 => ?_)
    · refine lv_aload_n hx hb dX2_tellNumber_40 rfl (lv_at hl 0 rfl) ?_
      refine lv_iload_n hx hb dX2_tellNumber_41 rfl (lv_at hl 1 rfl) ?_
      refine lv_iload_n hx hb dX2_tellNumber_42 rfl (lv_at hl 2 rfl) ?_
      refine lv_i2l (v := a2.toInt64) hx hb dX2_tellNumber_43 rfl ?_
      refine lv_ldc2 (v := 1000000000) hx hb hown (hts (.constantLong RX2 29 (1000000000)) (by decide +kernel)) dX2_tellNumber_44 ?_
      refine lv_lmul hx hb dX2_tellNumber_47 ?_
      refine lv_iload_n hx hb dX2_tellNumber_48 rfl (lv_at hl 3 rfl) ?_
      refine lv_i2l (v := a3.toInt64) hx hb dX2_tellNumber_49 rfl ?_
      refine lv_ladd hx hb dX2_tellNumber_50 ?_
      have hFc := va_free (wc := [(y, .inr (4, [.int (j_stT (j_X2_isNone a1) (1 : Int32)), .ref n2, .int kn2, .int td])), (n2, .inl (cJ, 8, .inr (.inl g)))]) hD hS hA [0, 1] rfl
      refine k_go (va_runV (As := [.int a1, .long ((a2.toInt64 * 1000000000) + a3.toInt64)]) (rest := []) ⟨hx, hb, hml, hown, hts⟩ (cq_X2_set l D cB cJ _ y n2 (j_stT (j_X2_isNone a1) (1 : Int32)) g kn2 td hP (hD.weaken (fun _ _ _ _ => trivial)) a1 ((a2.toInt64 * 1000000000) + a3.toInt64) ((hT.1 c_1).1 c_2).1) (cwV 2 hts gX2_tellNumber_X2_set rfl rfl rfl (by decide +kernel) ⟨(Nat.le_of_ble_eq_true rfl), (Nat.le_of_ble_eq_true rfl)⟩) (k_preV hE hS hFc (va_recv hK hP (ci := 4) (q0 := 0) rfl rfl)) rfl rfl hl.1 rfl (lv_room (Nat.le_of_ble_eq_true rfl)) dX2_tellNumber_51 ⟨(Nat.le_of_ble_eq_true rfl), (Nat.le_of_ble_eq_true rfl)⟩) hS (fun q _ h => hFc q h) hFc (fun v H locs hp hz hk hS => ?_)
      obtain ⟨rfl, hP1, hD1⟩ := hp
      (try dsimp only at hP1 hD1)
      have hP : va_P D vwCl [(y, .inr (4, [.int (j_stT (j_X2_isNone a1) (1 : Int32)), .ref n2, .int kn2, .int (td + 1)])), (n2, .inl (cJ, 8, .inr (.inl (vp_updL g a1.toNatClampNeg ((a2.toInt64 * 1000000000) + a3.toInt64)))))] H := hP1
      have hD : va_D A [(y, .inr (4, [.int (j_stT (j_X2_isNone a1) (1 : Int32)), .ref n2, .int kn2, .int (td + 1)])), (n2, .inl (cJ, 8, .inr (.inl (vp_updL g a1.toNatClampNeg ((a2.toInt64 * 1000000000) + a3.toInt64)))))] := hD1.weaken (fun _ q _ h => hFc q.1 h)
      refine W.eq (g2 := F0 m 54 ls [.int (j_X2_secondOf ((a2.toInt64 * 1000000000) + a3.toInt64))]) rfl ?_
      refine lv_sipush (v := 3600) hx hb dX2_tellNumber_54 (by decide) ?_
      refine lv_idiv hx hb dX2_tellNumber_57 (by decide) ?_
      exact k_iret hx hb hr hlocks hS dX2_tellNumber_58 ⟨by rw [hJ, if_pos c_1, if_pos c_2], by rw [hJ, if_pos c_1, if_pos c_2]; (try dsimp only); exact hP, by rw [hJ, if_pos c_1, if_pos c_2]; (try dsimp only); exact hD⟩
    · refine lv_iconst (v := 0) hx hb dX2_tellNumber_36 (by decide) ?_
      refine lv_goto (tgt := 58) hx hb dX2_tellNumber_37 (by decide) ?_
      exact k_iret hx hb hr hlocks hS dX2_tellNumber_58 ⟨by rw [hJ, if_pos c_1, if_neg c_2], by rw [hJ, if_pos c_1, if_neg c_2]; (try dsimp only); exact hP, by rw [hJ, if_pos c_1, if_neg c_2]; (try dsimp only); exact hD⟩
  · refine lv_iload_n hx hb dX2_tellNumber_15 rfl (lv_at hl 3 rfl) ?_
    refine lv_iconst (v := 0) hx hb dX2_tellNumber_16 (by decide) ?_
    refine lv_ldc (v := 999999999) hx hb hown (hts (.constant RX2 42 (999999999)) (by decide +kernel)) dX2_tellNumber_17 ?_
    refine k_pS [.int a3, .int 0, .int 999999999] (rest := [.int (j_X2_isNone a1), .ref y]) ⟨hx, hb, hml, hown, hts⟩ (c_X2_isIn l D cB cJ _ a3 0 999999999) (va_cwS 3 hts gX2_tellNumber_X2_isIn rfl rfl rfl (by decide +kernel) ⟨(Nat.le_of_ble_eq_true rfl), (Nat.le_of_ble_eq_true rfl)⟩) hE hS rfl rfl hl.1 (Nat.le_of_ble_eq_true rfl) dX2_tellNumber_19 ⟨(Nat.le_of_ble_eq_true rfl), (Nat.le_of_ble_eq_true rfl)⟩ (fun locs hS => ?_)
    refine W.eq (g2 := F0 m 22 ls [.int (j_X2_isIn a3 0 999999999), .int (j_X2_isNone a1), .ref y]) rfl ?_
    refine lv_if_ne (tgt := 29) hx hb dX2_tellNumber_22 (by decide) (fun c_3 => ?_) (fun c_3 => ?_)
    · refine lv_iconst (v := 0) hx hb dX2_tellNumber_29 (by decide) ?_
      have hFc := va_free (wc := [(y, .inr (4, [.int th, .ref n2, .int kn2, .int td])), (n2, .inl (cJ, 8, .inr (.inl g)))]) hD hS hA [0, 1] rfl
      refine k_go (va_runV (As := [.int (j_X2_isNone a1), .int 0]) (rest := []) ⟨hx, hb, hml, hown, hts⟩ (cq_X2_isStopped l D cB cJ _ y n2 th g kn2 td hP (hD.weaken (fun _ _ _ _ => trivial)) (j_X2_isNone a1) (0 : Int32)) (cwV 2 hts gX2_tellNumber_X2_isStopped rfl rfl rfl (by decide +kernel) ⟨(Nat.le_of_ble_eq_true rfl), (Nat.le_of_ble_eq_true rfl)⟩) (k_preV hE hS hFc (va_recv hK hP (ci := 4) (q0 := 0) rfl rfl)) rfl rfl hl.1 rfl (lv_room (Nat.le_of_ble_eq_true rfl)) dX2_tellNumber_30 ⟨(Nat.le_of_ble_eq_true rfl), (Nat.le_of_ble_eq_true rfl)⟩) hS (fun q _ h => hFc q h) hFc (fun v H locs hp hz hk hS => ?_)
      obtain ⟨rfl, hP1, hD1⟩ := hp
      (try dsimp only at hP1 hD1)
      have hP : va_P D vwCl [(y, .inr (4, [.int (j_stT (j_X2_isNone a1) (0 : Int32)), .ref n2, .int kn2, .int td])), (n2, .inl (cJ, 8, .inr (.inl g)))] H := hP1
      have hD : va_D A [(y, .inr (4, [.int (j_stT (j_X2_isNone a1) (0 : Int32)), .ref n2, .int kn2, .int td])), (n2, .inl (cJ, 8, .inr (.inl g)))] := hD1.weaken (fun _ q _ h => hFc q.1 h)
      refine W.eq (g2 := F0 m 33 ls [.int (j_stR (j_X2_isNone a1) (0 : Int32))]) rfl ?_
      refine lv_if_eq (tgt := 40) hx hb dX2_tellNumber_33 (by decide) (fun c_4 => ?_) (fun c_4 => ?_)
      · refine lv_aload_n hx hb dX2_tellNumber_40 rfl (lv_at hl 0 rfl) ?_
        refine lv_iload_n hx hb dX2_tellNumber_41 rfl (lv_at hl 1 rfl) ?_
        refine lv_iload_n hx hb dX2_tellNumber_42 rfl (lv_at hl 2 rfl) ?_
        refine lv_i2l (v := a2.toInt64) hx hb dX2_tellNumber_43 rfl ?_
        refine lv_ldc2 (v := 1000000000) hx hb hown (hts (.constantLong RX2 29 (1000000000)) (by decide +kernel)) dX2_tellNumber_44 ?_
        refine lv_lmul hx hb dX2_tellNumber_47 ?_
        refine lv_iload_n hx hb dX2_tellNumber_48 rfl (lv_at hl 3 rfl) ?_
        refine lv_i2l (v := a3.toInt64) hx hb dX2_tellNumber_49 rfl ?_
        refine lv_ladd hx hb dX2_tellNumber_50 ?_
        have hFc := va_free (wc := [(y, .inr (4, [.int (j_stT (j_X2_isNone a1) (0 : Int32)), .ref n2, .int kn2, .int td])), (n2, .inl (cJ, 8, .inr (.inl g)))]) hD hS hA [0, 1] rfl
        refine k_go (va_runV (As := [.int a1, .long ((a2.toInt64 * 1000000000) + a3.toInt64)]) (rest := []) ⟨hx, hb, hml, hown, hts⟩ (cq_X2_set l D cB cJ _ y n2 (j_stT (j_X2_isNone a1) (0 : Int32)) g kn2 td hP (hD.weaken (fun _ _ _ _ => trivial)) a1 ((a2.toInt64 * 1000000000) + a3.toInt64) (((hT.2 c_1).2 c_3).1 c_4).1) (cwV 2 hts gX2_tellNumber_X2_set rfl rfl rfl (by decide +kernel) ⟨(Nat.le_of_ble_eq_true rfl), (Nat.le_of_ble_eq_true rfl)⟩) (k_preV hE hS hFc (va_recv hK hP (ci := 4) (q0 := 0) rfl rfl)) rfl rfl hl.1 rfl (lv_room (Nat.le_of_ble_eq_true rfl)) dX2_tellNumber_51 ⟨(Nat.le_of_ble_eq_true rfl), (Nat.le_of_ble_eq_true rfl)⟩) hS (fun q _ h => hFc q h) hFc (fun v H locs hp hz hk hS => ?_)
        obtain ⟨rfl, hP1, hD1⟩ := hp
        (try dsimp only at hP1 hD1)
        have hP : va_P D vwCl [(y, .inr (4, [.int (j_stT (j_X2_isNone a1) (0 : Int32)), .ref n2, .int kn2, .int (td + 1)])), (n2, .inl (cJ, 8, .inr (.inl (vp_updL g a1.toNatClampNeg ((a2.toInt64 * 1000000000) + a3.toInt64)))))] H := hP1
        have hD : va_D A [(y, .inr (4, [.int (j_stT (j_X2_isNone a1) (0 : Int32)), .ref n2, .int kn2, .int (td + 1)])), (n2, .inl (cJ, 8, .inr (.inl (vp_updL g a1.toNatClampNeg ((a2.toInt64 * 1000000000) + a3.toInt64)))))] := hD1.weaken (fun _ q _ h => hFc q.1 h)
        refine W.eq (g2 := F0 m 54 ls [.int (j_X2_secondOf ((a2.toInt64 * 1000000000) + a3.toInt64))]) rfl ?_
        refine lv_sipush (v := 3600) hx hb dX2_tellNumber_54 (by decide) ?_
        refine lv_idiv hx hb dX2_tellNumber_57 (by decide) ?_
        exact k_iret hx hb hr hlocks hS dX2_tellNumber_58 ⟨by rw [hJ, if_neg c_1, if_neg c_3, if_pos c_4], by rw [hJ, if_neg c_1, if_neg c_3, if_pos c_4]; (try dsimp only); exact hP, by rw [hJ, if_neg c_1, if_neg c_3, if_pos c_4]; (try dsimp only); exact hD⟩
      · refine lv_iconst (v := 0) hx hb dX2_tellNumber_36 (by decide) ?_
        refine lv_goto (tgt := 58) hx hb dX2_tellNumber_37 (by decide) ?_
        exact k_iret hx hb hr hlocks hS dX2_tellNumber_58 ⟨by rw [hJ, if_neg c_1, if_neg c_3, if_neg c_4], by rw [hJ, if_neg c_1, if_neg c_3, if_neg c_4]; (try dsimp only); exact hP, by rw [hJ, if_neg c_1, if_neg c_3, if_neg c_4]; (try dsimp only); exact hD⟩
    · refine lv_iconst (v := 1) hx hb dX2_tellNumber_25 (by decide) ?_
      refine lv_goto (tgt := 30) hx hb dX2_tellNumber_26 (by decide) ?_
      have hFc := va_free (wc := [(y, .inr (4, [.int th, .ref n2, .int kn2, .int td])), (n2, .inl (cJ, 8, .inr (.inl g)))]) hD hS hA [0, 1] rfl
      refine k_go (va_runV (As := [.int (j_X2_isNone a1), .int 1]) (rest := []) ⟨hx, hb, hml, hown, hts⟩ (cq_X2_isStopped l D cB cJ _ y n2 th g kn2 td hP (hD.weaken (fun _ _ _ _ => trivial)) (j_X2_isNone a1) (1 : Int32)) (cwV 2 hts gX2_tellNumber_X2_isStopped rfl rfl rfl (by decide +kernel) ⟨(Nat.le_of_ble_eq_true rfl), (Nat.le_of_ble_eq_true rfl)⟩) (k_preV hE hS hFc (va_recv hK hP (ci := 4) (q0 := 0) rfl rfl)) rfl rfl hl.1 rfl (lv_room (Nat.le_of_ble_eq_true rfl)) dX2_tellNumber_30 ⟨(Nat.le_of_ble_eq_true rfl), (Nat.le_of_ble_eq_true rfl)⟩) hS (fun q _ h => hFc q h) hFc (fun v H locs hp hz hk hS => ?_)
      obtain ⟨rfl, hP1, hD1⟩ := hp
      (try dsimp only at hP1 hD1)
      have hP : va_P D vwCl [(y, .inr (4, [.int (j_stT (j_X2_isNone a1) (1 : Int32)), .ref n2, .int kn2, .int td])), (n2, .inl (cJ, 8, .inr (.inl g)))] H := hP1
      have hD : va_D A [(y, .inr (4, [.int (j_stT (j_X2_isNone a1) (1 : Int32)), .ref n2, .int kn2, .int td])), (n2, .inl (cJ, 8, .inr (.inl g)))] := hD1.weaken (fun _ q _ h => hFc q.1 h)
      refine W.eq (g2 := F0 m 33 ls [.int (j_stR (j_X2_isNone a1) (1 : Int32))]) rfl ?_
      refine lv_if_eq (tgt := 40) hx hb dX2_tellNumber_33 (by decide) (fun c_5 => ?_) (fun c_5 => ?_)
      · refine lv_aload_n hx hb dX2_tellNumber_40 rfl (lv_at hl 0 rfl) ?_
        refine lv_iload_n hx hb dX2_tellNumber_41 rfl (lv_at hl 1 rfl) ?_
        refine lv_iload_n hx hb dX2_tellNumber_42 rfl (lv_at hl 2 rfl) ?_
        refine lv_i2l (v := a2.toInt64) hx hb dX2_tellNumber_43 rfl ?_
        refine lv_ldc2 (v := 1000000000) hx hb hown (hts (.constantLong RX2 29 (1000000000)) (by decide +kernel)) dX2_tellNumber_44 ?_
        refine lv_lmul hx hb dX2_tellNumber_47 ?_
        refine lv_iload_n hx hb dX2_tellNumber_48 rfl (lv_at hl 3 rfl) ?_
        refine lv_i2l (v := a3.toInt64) hx hb dX2_tellNumber_49 rfl ?_
        refine lv_ladd hx hb dX2_tellNumber_50 ?_
        have hFc := va_free (wc := [(y, .inr (4, [.int (j_stT (j_X2_isNone a1) (1 : Int32)), .ref n2, .int kn2, .int td])), (n2, .inl (cJ, 8, .inr (.inl g)))]) hD hS hA [0, 1] rfl
        refine k_go (va_runV (As := [.int a1, .long ((a2.toInt64 * 1000000000) + a3.toInt64)]) (rest := []) ⟨hx, hb, hml, hown, hts⟩ (cq_X2_set l D cB cJ _ y n2 (j_stT (j_X2_isNone a1) (1 : Int32)) g kn2 td hP (hD.weaken (fun _ _ _ _ => trivial)) a1 ((a2.toInt64 * 1000000000) + a3.toInt64) (((hT.2 c_1).1 c_3).1 c_5).1) (cwV 2 hts gX2_tellNumber_X2_set rfl rfl rfl (by decide +kernel) ⟨(Nat.le_of_ble_eq_true rfl), (Nat.le_of_ble_eq_true rfl)⟩) (k_preV hE hS hFc (va_recv hK hP (ci := 4) (q0 := 0) rfl rfl)) rfl rfl hl.1 rfl (lv_room (Nat.le_of_ble_eq_true rfl)) dX2_tellNumber_51 ⟨(Nat.le_of_ble_eq_true rfl), (Nat.le_of_ble_eq_true rfl)⟩) hS (fun q _ h => hFc q h) hFc (fun v H locs hp hz hk hS => ?_)
        obtain ⟨rfl, hP1, hD1⟩ := hp
        (try dsimp only at hP1 hD1)
        have hP : va_P D vwCl [(y, .inr (4, [.int (j_stT (j_X2_isNone a1) (1 : Int32)), .ref n2, .int kn2, .int (td + 1)])), (n2, .inl (cJ, 8, .inr (.inl (vp_updL g a1.toNatClampNeg ((a2.toInt64 * 1000000000) + a3.toInt64)))))] H := hP1
        have hD : va_D A [(y, .inr (4, [.int (j_stT (j_X2_isNone a1) (1 : Int32)), .ref n2, .int kn2, .int (td + 1)])), (n2, .inl (cJ, 8, .inr (.inl (vp_updL g a1.toNatClampNeg ((a2.toInt64 * 1000000000) + a3.toInt64)))))] := hD1.weaken (fun _ q _ h => hFc q.1 h)
        refine W.eq (g2 := F0 m 54 ls [.int (j_X2_secondOf ((a2.toInt64 * 1000000000) + a3.toInt64))]) rfl ?_
        refine lv_sipush (v := 3600) hx hb dX2_tellNumber_54 (by decide) ?_
        refine lv_idiv hx hb dX2_tellNumber_57 (by decide) ?_
        exact k_iret hx hb hr hlocks hS dX2_tellNumber_58 ⟨by rw [hJ, if_neg c_1, if_pos c_3, if_pos c_5], by rw [hJ, if_neg c_1, if_pos c_3, if_pos c_5]; (try dsimp only); exact hP, by rw [hJ, if_neg c_1, if_pos c_3, if_pos c_5]; (try dsimp only); exact hD⟩
      · refine lv_iconst (v := 0) hx hb dX2_tellNumber_36 (by decide) ?_
        refine lv_goto (tgt := 58) hx hb dX2_tellNumber_37 (by decide) ?_
        exact k_iret hx hb hr hlocks hS dX2_tellNumber_58 ⟨by rw [hJ, if_neg c_1, if_pos c_3, if_neg c_5], by rw [hJ, if_neg c_1, if_pos c_3, if_neg c_5]; (try dsimp only); exact hP, by rw [hJ, if_neg c_1, if_pos c_3, if_neg c_5]; (try dsimp only); exact hD⟩
abbrev rm_X2_tellKnown : Room := { frames := 2, cells := 0, slots := 0, locals := 44 }
def j_X2_tellKnown (th : Int32) (g : Nat → Int64) (kn2 td : Int32) (a1 : Int32) (a2 : Int32) : Int32 × Int32 × (Nat → Int64) × Int32 × Int32 := (if (j_X2_isIn a2 0 2) = 0 then (if (j_stR (j_X2_isNone a1) (1 : Int32)) = 0 then (if a2 = 0 then ((j_X2_secondOf (0 : Int64)), (j_stT (j_X2_isNone a1) (1 : Int32)), (vp_updL g a1.toNatClampNeg (0 : Int64)), kn2, (td + 1)) else (if a2 = 1 then ((j_X2_secondOf (43200000000000 : Int64)), (j_stT (j_X2_isNone a1) (1 : Int32)), (vp_updL g a1.toNatClampNeg (43200000000000 : Int64)), kn2, (td + 1)) else ((j_X2_secondOf (86399999999999 : Int64)), (j_stT (j_X2_isNone a1) (1 : Int32)), (vp_updL g a1.toNatClampNeg (86399999999999 : Int64)), kn2, (td + 1)))) else (0, (j_stT (j_X2_isNone a1) (1 : Int32)), g, kn2, td)) else (if (j_stR (j_X2_isNone a1) (0 : Int32)) = 0 then (if a2 = 0 then ((j_X2_secondOf (0 : Int64)), (j_stT (j_X2_isNone a1) (0 : Int32)), (vp_updL g a1.toNatClampNeg (0 : Int64)), kn2, (td + 1)) else (if a2 = 1 then ((j_X2_secondOf (43200000000000 : Int64)), (j_stT (j_X2_isNone a1) (0 : Int32)), (vp_updL g a1.toNatClampNeg (43200000000000 : Int64)), kn2, (td + 1)) else ((j_X2_secondOf (86399999999999 : Int64)), (j_stT (j_X2_isNone a1) (0 : Int32)), (vp_updL g a1.toNatClampNeg (86399999999999 : Int64)), kn2, (td + 1)))) else (0, (j_stT (j_X2_isNone a1) (0 : Int32)), g, kn2, td)))
def T_X2_tellKnown (th : Int32) (g : Nat → Int64) (kn2 td : Int32) (a1 : Int32) (a2 : Int32) : Prop := (((j_X2_isIn a2 0 2) = 0 → (((j_stR (j_X2_isNone a1) (1 : Int32)) = 0 → ((a2 = 0 → (T_X2_set (j_stT (j_X2_isNone a1) (1 : Int32)) g kn2 td a1 (0 : Int64) ∧ True)) ∧ (¬ (a2 = 0) → ((a2 = 1 → (T_X2_set (j_stT (j_X2_isNone a1) (1 : Int32)) g kn2 td a1 (43200000000000 : Int64) ∧ True)) ∧ (¬ (a2 = 1) → (T_X2_set (j_stT (j_X2_isNone a1) (1 : Int32)) g kn2 td a1 (86399999999999 : Int64) ∧ True)))))) ∧ (¬ ((j_stR (j_X2_isNone a1) (1 : Int32)) = 0) → True))) ∧ (¬ ((j_X2_isIn a2 0 2) = 0) → (((j_stR (j_X2_isNone a1) (0 : Int32)) = 0 → ((a2 = 0 → (T_X2_set (j_stT (j_X2_isNone a1) (0 : Int32)) g kn2 td a1 (0 : Int64) ∧ True)) ∧ (¬ (a2 = 0) → ((a2 = 1 → (T_X2_set (j_stT (j_X2_isNone a1) (0 : Int32)) g kn2 td a1 (43200000000000 : Int64) ∧ True)) ∧ (¬ (a2 = 1) → (T_X2_set (j_stT (j_X2_isNone a1) (0 : Int32)) g kn2 td a1 (86399999999999 : Int64) ∧ True)))))) ∧ (¬ ((j_stR (j_X2_isNone a1) (0 : Int32)) = 0) → True))))
set_option maxHeartbeats 4000000 in
set_option maxRecDepth 100000 in
theorem c_X2_tellKnown (l : Launch) (D : va_G) (cB cJ : ClassId) (Hp : Heap) (y n2 : Nat) (th : Int32) (g : Nat → Int64) (kn2 td : Int32) (hP : va_P D vwCl (wMo y n2 cJ th g kn2 td) Hp) (hD9 : va_D (fun _ => True) (wMo y n2 cJ th g kn2 td)) (a1 : Int32) (a2 : Int32) (hT9 : T_X2_tellKnown th g kn2 td a1 a2) : kM l D cB cJ yX2_tellKnown wsX2_tellKnown rm_X2_tellKnown (va_A (wMo y n2 cJ th g kn2 td) Hp.size) Hp [.ref y, .int a1, .int a2] (kPm D y n2 cJ (va_A (wMo y n2 cJ th g kn2 td) Hp.size) (j_X2_tellKnown th g kn2 td a1 a2)) 0 0 := by
  refine Met.ofW (cc := cX2_tellKnown) (maxL := 3) (ret := (some .int)) (by decide) rfl ?_
  intro p e s m args below meth c s₁ B hml hv
  obtain ⟨rfl, hHp, hE⟩ := hv
  subst hHp
  have hx := B.exec
  have hb := B.bytes
  have hr := B.returns
  have hts := atoms_spec (ws := wsX2_tellKnown) B.pre
  have hown : s.vm.findClass RX2 = some m.cls := findClass_of_methodNamed B.named
  have hlocks := B.notSynchronized
  have hK := hE.1
  have hD := hD9.self (sz := s.heap.size)
  generalize hAe : va_A (wMo y n2 cJ th g kn2 td) s.heap.size = A at hE hD ⊢
  have hA : ∀ q : Nat, s.heap.size ≤ q → A q := fun q h => by rw [← hAe]; exact Or.inr h
  have hS : va_S A s.heap s.heap [] := va_S.rf
  have hl := lv_entry ([.ref y, .int a1, .int a2]) (n := 3) (Nat.le_of_ble_eq_true rfl)
  rw [lg_entry_eq]
  generalize (lg_sl ([.ref y, .int a1, .int a2]) ++ List.replicate (3 - (lg_sl ([.ref y, .int a1, .int a2])).length) Slot.unset).toArray = ls at hl ⊢
  have hl : lv_has ls 3 [(0, .ref y), (1, .int a1), (2, .int a2)] := hl
  have hJ : (j_X2_tellKnown th g kn2 td a1 a2) = (if (j_X2_isIn a2 0 2) = 0 then (if (j_stR (j_X2_isNone a1) (1 : Int32)) = 0 then (if a2 = 0 then ((j_X2_secondOf (0 : Int64)), (j_stT (j_X2_isNone a1) (1 : Int32)), (vp_updL g a1.toNatClampNeg (0 : Int64)), kn2, (td + 1)) else (if a2 = 1 then ((j_X2_secondOf (43200000000000 : Int64)), (j_stT (j_X2_isNone a1) (1 : Int32)), (vp_updL g a1.toNatClampNeg (43200000000000 : Int64)), kn2, (td + 1)) else ((j_X2_secondOf (86399999999999 : Int64)), (j_stT (j_X2_isNone a1) (1 : Int32)), (vp_updL g a1.toNatClampNeg (86399999999999 : Int64)), kn2, (td + 1)))) else (0, (j_stT (j_X2_isNone a1) (1 : Int32)), g, kn2, td)) else (if (j_stR (j_X2_isNone a1) (0 : Int32)) = 0 then (if a2 = 0 then ((j_X2_secondOf (0 : Int64)), (j_stT (j_X2_isNone a1) (0 : Int32)), (vp_updL g a1.toNatClampNeg (0 : Int64)), kn2, (td + 1)) else (if a2 = 1 then ((j_X2_secondOf (43200000000000 : Int64)), (j_stT (j_X2_isNone a1) (0 : Int32)), (vp_updL g a1.toNatClampNeg (43200000000000 : Int64)), kn2, (td + 1)) else ((j_X2_secondOf (86399999999999 : Int64)), (j_stT (j_X2_isNone a1) (0 : Int32)), (vp_updL g a1.toNatClampNeg (86399999999999 : Int64)), kn2, (td + 1)))) else (0, (j_stT (j_X2_isNone a1) (0 : Int32)), g, kn2, td))) := rfl
  have hT : (((j_X2_isIn a2 0 2) = 0 → (((j_stR (j_X2_isNone a1) (1 : Int32)) = 0 → ((a2 = 0 → (T_X2_set (j_stT (j_X2_isNone a1) (1 : Int32)) g kn2 td a1 (0 : Int64) ∧ True)) ∧ (¬ (a2 = 0) → ((a2 = 1 → (T_X2_set (j_stT (j_X2_isNone a1) (1 : Int32)) g kn2 td a1 (43200000000000 : Int64) ∧ True)) ∧ (¬ (a2 = 1) → (T_X2_set (j_stT (j_X2_isNone a1) (1 : Int32)) g kn2 td a1 (86399999999999 : Int64) ∧ True)))))) ∧ (¬ ((j_stR (j_X2_isNone a1) (1 : Int32)) = 0) → True))) ∧ (¬ ((j_X2_isIn a2 0 2) = 0) → (((j_stR (j_X2_isNone a1) (0 : Int32)) = 0 → ((a2 = 0 → (T_X2_set (j_stT (j_X2_isNone a1) (0 : Int32)) g kn2 td a1 (0 : Int64) ∧ True)) ∧ (¬ (a2 = 0) → ((a2 = 1 → (T_X2_set (j_stT (j_X2_isNone a1) (0 : Int32)) g kn2 td a1 (43200000000000 : Int64) ∧ True)) ∧ (¬ (a2 = 1) → (T_X2_set (j_stT (j_X2_isNone a1) (0 : Int32)) g kn2 td a1 (86399999999999 : Int64) ∧ True)))))) ∧ (¬ ((j_stR (j_X2_isNone a1) (0 : Int32)) = 0) → True)))) := hT9
  refine lv_aload_n hx hb dX2_tellKnown_0 rfl (lv_at hl 0 rfl) ?_
  refine lv_iload_n hx hb dX2_tellKnown_1 rfl (lv_at hl 1 rfl) ?_
  refine k_pS [.int a1] (rest := [.ref y]) ⟨hx, hb, hml, hown, hts⟩ (c_X2_isNone l D cB cJ _ a1) (va_cwS 1 hts gX2_tellKnown_X2_isNone rfl rfl rfl (by decide +kernel) ⟨(Nat.le_of_ble_eq_true rfl), (Nat.le_of_ble_eq_true rfl)⟩) hE hS rfl rfl hl.1 (Nat.le_of_ble_eq_true rfl) dX2_tellKnown_2 ⟨(Nat.le_of_ble_eq_true rfl), (Nat.le_of_ble_eq_true rfl)⟩ (fun locs hS => ?_)
  refine W.eq (g2 := F0 m 5 ls [.int (j_X2_isNone a1), .ref y]) rfl ?_
  refine lv_iload_n hx hb dX2_tellKnown_5 rfl (lv_at hl 2 rfl) ?_
  refine lv_iconst (v := 0) hx hb dX2_tellKnown_6 (by decide) ?_
  refine lv_iconst (v := 2) hx hb dX2_tellKnown_7 (by decide) ?_
  refine k_pS [.int a2, .int 0, .int 2] (rest := [.int (j_X2_isNone a1), .ref y]) ⟨hx, hb, hml, hown, hts⟩ (c_X2_isIn l D cB cJ _ a2 0 2) (va_cwS 3 hts gX2_tellKnown_X2_isIn rfl rfl rfl (by decide +kernel) ⟨(Nat.le_of_ble_eq_true rfl), (Nat.le_of_ble_eq_true rfl)⟩) hE hS rfl rfl hl.1 (Nat.le_of_ble_eq_true rfl) dX2_tellKnown_8 ⟨(Nat.le_of_ble_eq_true rfl), (Nat.le_of_ble_eq_true rfl)⟩ (fun locs hS => ?_)
  refine W.eq (g2 := F0 m 11 ls [.int (j_X2_isIn a2 0 2), .int (j_X2_isNone a1), .ref y]) rfl ?_
  refine lv_if_ne (tgt := 18) hx hb dX2_tellKnown_11 (by decide) (fun c_1 => ?_) (fun c_1 => ?_)
  · refine lv_iconst (v := 0) hx hb dX2_tellKnown_18 (by decide) ?_
    have hFc := va_free (wc := [(y, .inr (4, [.int th, .ref n2, .int kn2, .int td])), (n2, .inl (cJ, 8, .inr (.inl g)))]) hD hS hA [0, 1] rfl
    refine k_go (va_runV (As := [.int (j_X2_isNone a1), .int 0]) (rest := []) ⟨hx, hb, hml, hown, hts⟩ (cq_X2_isStopped l D cB cJ _ y n2 th g kn2 td hP (hD.weaken (fun _ _ _ _ => trivial)) (j_X2_isNone a1) (0 : Int32)) (cwV 2 hts gX2_tellKnown_X2_isStopped rfl rfl rfl (by decide +kernel) ⟨(Nat.le_of_ble_eq_true rfl), (Nat.le_of_ble_eq_true rfl)⟩) (k_preV hE hS hFc (va_recv hK hP (ci := 4) (q0 := 0) rfl rfl)) rfl rfl hl.1 rfl (lv_room (Nat.le_of_ble_eq_true rfl)) dX2_tellKnown_19 ⟨(Nat.le_of_ble_eq_true rfl), (Nat.le_of_ble_eq_true rfl)⟩) hS (fun q _ h => hFc q h) hFc (fun v H locs hp hz hk hS => ?_)
    obtain ⟨rfl, hP1, hD1⟩ := hp
    (try dsimp only at hP1 hD1)
    have hP : va_P D vwCl [(y, .inr (4, [.int (j_stT (j_X2_isNone a1) (0 : Int32)), .ref n2, .int kn2, .int td])), (n2, .inl (cJ, 8, .inr (.inl g)))] H := hP1
    have hD : va_D A [(y, .inr (4, [.int (j_stT (j_X2_isNone a1) (0 : Int32)), .ref n2, .int kn2, .int td])), (n2, .inl (cJ, 8, .inr (.inl g)))] := hD1.weaken (fun _ q _ h => hFc q.1 h)
    refine W.eq (g2 := F0 m 22 ls [.int (j_stR (j_X2_isNone a1) (0 : Int32))]) rfl ?_
    refine lv_if_eq (tgt := 29) hx hb dX2_tellKnown_22 (by decide) (fun c_2 => ?_) (fun c_2 => ?_)
    · refine lv_aload_n hx hb dX2_tellKnown_29 rfl (lv_at hl 0 rfl) ?_
      refine lv_iload_n hx hb dX2_tellKnown_30 rfl (lv_at hl 1 rfl) ?_
      refine lv_iload_n hx hb dX2_tellKnown_31 rfl (lv_at hl 2 rfl) ?_
      refine lv_if_ne (tgt := 39) hx hb dX2_tellKnown_32 (by decide) (fun c_3 => ?_) (fun c_3 => ?_)
      · refine lv_iload_n hx hb dX2_tellKnown_39 rfl (lv_at hl 2 rfl) ?_
        refine lv_iconst (v := 1) hx hb dX2_tellKnown_40 (by decide) ?_
        refine lv_icmp_ne (tgt := 50) hx hb dX2_tellKnown_41 (by decide) (fun c_4 => ?_) (fun c_4 => ?_)
        · refine lv_ldc2 (v := 86399999999999) hx hb hown (hts (.constantLong RX2 54 (86399999999999)) (by decide +kernel)) dX2_tellKnown_50 ?_
          have hFc := va_free (wc := [(y, .inr (4, [.int (j_stT (j_X2_isNone a1) (0 : Int32)), .ref n2, .int kn2, .int td])), (n2, .inl (cJ, 8, .inr (.inl g)))]) hD hS hA [0, 1] rfl
          refine k_go (va_runV (As := [.int a1, .long 86399999999999]) (rest := []) ⟨hx, hb, hml, hown, hts⟩ (cq_X2_set l D cB cJ _ y n2 (j_stT (j_X2_isNone a1) (0 : Int32)) g kn2 td hP (hD.weaken (fun _ _ _ _ => trivial)) a1 (86399999999999 : Int64) ((((hT.2 c_1).1 c_2).2 c_3).2 c_4).1) (cwV 2 hts gX2_tellKnown_X2_set rfl rfl rfl (by decide +kernel) ⟨(Nat.le_of_ble_eq_true rfl), (Nat.le_of_ble_eq_true rfl)⟩) (k_preV hE hS hFc (va_recv hK hP (ci := 4) (q0 := 0) rfl rfl)) rfl rfl hl.1 rfl (lv_room (Nat.le_of_ble_eq_true rfl)) dX2_tellKnown_53 ⟨(Nat.le_of_ble_eq_true rfl), (Nat.le_of_ble_eq_true rfl)⟩) hS (fun q _ h => hFc q h) hFc (fun v H locs hp hz hk hS => ?_)
          obtain ⟨rfl, hP1, hD1⟩ := hp
          (try dsimp only at hP1 hD1)
          have hP : va_P D vwCl [(y, .inr (4, [.int (j_stT (j_X2_isNone a1) (0 : Int32)), .ref n2, .int kn2, .int (td + 1)])), (n2, .inl (cJ, 8, .inr (.inl (vp_updL g a1.toNatClampNeg (86399999999999 : Int64)))))] H := hP1
          have hD : va_D A [(y, .inr (4, [.int (j_stT (j_X2_isNone a1) (0 : Int32)), .ref n2, .int kn2, .int (td + 1)])), (n2, .inl (cJ, 8, .inr (.inl (vp_updL g a1.toNatClampNeg (86399999999999 : Int64)))))] := hD1.weaken (fun _ q _ h => hFc q.1 h)
          refine W.eq (g2 := F0 m 56 ls [.int (j_X2_secondOf (86399999999999 : Int64))]) rfl ?_
          exact k_iret hx hb hr hlocks hS dX2_tellKnown_56 ⟨by rw [hJ, if_neg c_1, if_pos c_2, if_neg c_3, if_neg c_4], by rw [hJ, if_neg c_1, if_pos c_2, if_neg c_3, if_neg c_4]; (try dsimp only); exact hP, by rw [hJ, if_neg c_1, if_pos c_2, if_neg c_3, if_neg c_4]; (try dsimp only); exact hD⟩
        · refine lv_ldc2 (v := 43200000000000) hx hb hown (hts (.constantLong RX2 52 (43200000000000)) (by decide +kernel)) dX2_tellKnown_44 ?_
          refine lv_goto (tgt := 53) hx hb dX2_tellKnown_47 (by decide) ?_
          have hFc := va_free (wc := [(y, .inr (4, [.int (j_stT (j_X2_isNone a1) (0 : Int32)), .ref n2, .int kn2, .int td])), (n2, .inl (cJ, 8, .inr (.inl g)))]) hD hS hA [0, 1] rfl
          refine k_go (va_runV (As := [.int a1, .long 43200000000000]) (rest := []) ⟨hx, hb, hml, hown, hts⟩ (cq_X2_set l D cB cJ _ y n2 (j_stT (j_X2_isNone a1) (0 : Int32)) g kn2 td hP (hD.weaken (fun _ _ _ _ => trivial)) a1 (43200000000000 : Int64) ((((hT.2 c_1).1 c_2).2 c_3).1 c_4).1) (cwV 2 hts gX2_tellKnown_X2_set rfl rfl rfl (by decide +kernel) ⟨(Nat.le_of_ble_eq_true rfl), (Nat.le_of_ble_eq_true rfl)⟩) (k_preV hE hS hFc (va_recv hK hP (ci := 4) (q0 := 0) rfl rfl)) rfl rfl hl.1 rfl (lv_room (Nat.le_of_ble_eq_true rfl)) dX2_tellKnown_53 ⟨(Nat.le_of_ble_eq_true rfl), (Nat.le_of_ble_eq_true rfl)⟩) hS (fun q _ h => hFc q h) hFc (fun v H locs hp hz hk hS => ?_)
          obtain ⟨rfl, hP1, hD1⟩ := hp
          (try dsimp only at hP1 hD1)
          have hP : va_P D vwCl [(y, .inr (4, [.int (j_stT (j_X2_isNone a1) (0 : Int32)), .ref n2, .int kn2, .int (td + 1)])), (n2, .inl (cJ, 8, .inr (.inl (vp_updL g a1.toNatClampNeg (43200000000000 : Int64)))))] H := hP1
          have hD : va_D A [(y, .inr (4, [.int (j_stT (j_X2_isNone a1) (0 : Int32)), .ref n2, .int kn2, .int (td + 1)])), (n2, .inl (cJ, 8, .inr (.inl (vp_updL g a1.toNatClampNeg (43200000000000 : Int64)))))] := hD1.weaken (fun _ q _ h => hFc q.1 h)
          refine W.eq (g2 := F0 m 56 ls [.int (j_X2_secondOf (43200000000000 : Int64))]) rfl ?_
          exact k_iret hx hb hr hlocks hS dX2_tellKnown_56 ⟨by rw [hJ, if_neg c_1, if_pos c_2, if_neg c_3, if_pos c_4], by rw [hJ, if_neg c_1, if_pos c_2, if_neg c_3, if_pos c_4]; (try dsimp only); exact hP, by rw [hJ, if_neg c_1, if_pos c_2, if_neg c_3, if_pos c_4]; (try dsimp only); exact hD⟩
      · refine lv_lconst (v := 0) hx hb dX2_tellKnown_35 (by decide) ?_
        refine lv_goto (tgt := 53) hx hb dX2_tellKnown_36 (by decide) ?_
        have hFc := va_free (wc := [(y, .inr (4, [.int (j_stT (j_X2_isNone a1) (0 : Int32)), .ref n2, .int kn2, .int td])), (n2, .inl (cJ, 8, .inr (.inl g)))]) hD hS hA [0, 1] rfl
        refine k_go (va_runV (As := [.int a1, .long 0]) (rest := []) ⟨hx, hb, hml, hown, hts⟩ (cq_X2_set l D cB cJ _ y n2 (j_stT (j_X2_isNone a1) (0 : Int32)) g kn2 td hP (hD.weaken (fun _ _ _ _ => trivial)) a1 (0 : Int64) (((hT.2 c_1).1 c_2).1 c_3).1) (cwV 2 hts gX2_tellKnown_X2_set rfl rfl rfl (by decide +kernel) ⟨(Nat.le_of_ble_eq_true rfl), (Nat.le_of_ble_eq_true rfl)⟩) (k_preV hE hS hFc (va_recv hK hP (ci := 4) (q0 := 0) rfl rfl)) rfl rfl hl.1 rfl (lv_room (Nat.le_of_ble_eq_true rfl)) dX2_tellKnown_53 ⟨(Nat.le_of_ble_eq_true rfl), (Nat.le_of_ble_eq_true rfl)⟩) hS (fun q _ h => hFc q h) hFc (fun v H locs hp hz hk hS => ?_)
        obtain ⟨rfl, hP1, hD1⟩ := hp
        (try dsimp only at hP1 hD1)
        have hP : va_P D vwCl [(y, .inr (4, [.int (j_stT (j_X2_isNone a1) (0 : Int32)), .ref n2, .int kn2, .int (td + 1)])), (n2, .inl (cJ, 8, .inr (.inl (vp_updL g a1.toNatClampNeg (0 : Int64)))))] H := hP1
        have hD : va_D A [(y, .inr (4, [.int (j_stT (j_X2_isNone a1) (0 : Int32)), .ref n2, .int kn2, .int (td + 1)])), (n2, .inl (cJ, 8, .inr (.inl (vp_updL g a1.toNatClampNeg (0 : Int64)))))] := hD1.weaken (fun _ q _ h => hFc q.1 h)
        refine W.eq (g2 := F0 m 56 ls [.int (j_X2_secondOf (0 : Int64))]) rfl ?_
        exact k_iret hx hb hr hlocks hS dX2_tellKnown_56 ⟨by rw [hJ, if_neg c_1, if_pos c_2, if_pos c_3], by rw [hJ, if_neg c_1, if_pos c_2, if_pos c_3]; (try dsimp only); exact hP, by rw [hJ, if_neg c_1, if_pos c_2, if_pos c_3]; (try dsimp only); exact hD⟩
    · refine lv_iconst (v := 0) hx hb dX2_tellKnown_25 (by decide) ?_
      refine lv_goto (tgt := 56) hx hb dX2_tellKnown_26 (by decide) ?_
      exact k_iret hx hb hr hlocks hS dX2_tellKnown_56 ⟨by rw [hJ, if_neg c_1, if_neg c_2], by rw [hJ, if_neg c_1, if_neg c_2]; (try dsimp only); exact hP, by rw [hJ, if_neg c_1, if_neg c_2]; (try dsimp only); exact hD⟩
  · refine lv_iconst (v := 1) hx hb dX2_tellKnown_14 (by decide) ?_
    refine lv_goto (tgt := 19) hx hb dX2_tellKnown_15 (by decide) ?_
    have hFc := va_free (wc := [(y, .inr (4, [.int th, .ref n2, .int kn2, .int td])), (n2, .inl (cJ, 8, .inr (.inl g)))]) hD hS hA [0, 1] rfl
    refine k_go (va_runV (As := [.int (j_X2_isNone a1), .int 1]) (rest := []) ⟨hx, hb, hml, hown, hts⟩ (cq_X2_isStopped l D cB cJ _ y n2 th g kn2 td hP (hD.weaken (fun _ _ _ _ => trivial)) (j_X2_isNone a1) (1 : Int32)) (cwV 2 hts gX2_tellKnown_X2_isStopped rfl rfl rfl (by decide +kernel) ⟨(Nat.le_of_ble_eq_true rfl), (Nat.le_of_ble_eq_true rfl)⟩) (k_preV hE hS hFc (va_recv hK hP (ci := 4) (q0 := 0) rfl rfl)) rfl rfl hl.1 rfl (lv_room (Nat.le_of_ble_eq_true rfl)) dX2_tellKnown_19 ⟨(Nat.le_of_ble_eq_true rfl), (Nat.le_of_ble_eq_true rfl)⟩) hS (fun q _ h => hFc q h) hFc (fun v H locs hp hz hk hS => ?_)
    obtain ⟨rfl, hP1, hD1⟩ := hp
    (try dsimp only at hP1 hD1)
    have hP : va_P D vwCl [(y, .inr (4, [.int (j_stT (j_X2_isNone a1) (1 : Int32)), .ref n2, .int kn2, .int td])), (n2, .inl (cJ, 8, .inr (.inl g)))] H := hP1
    have hD : va_D A [(y, .inr (4, [.int (j_stT (j_X2_isNone a1) (1 : Int32)), .ref n2, .int kn2, .int td])), (n2, .inl (cJ, 8, .inr (.inl g)))] := hD1.weaken (fun _ q _ h => hFc q.1 h)
    refine W.eq (g2 := F0 m 22 ls [.int (j_stR (j_X2_isNone a1) (1 : Int32))]) rfl ?_
    refine lv_if_eq (tgt := 29) hx hb dX2_tellKnown_22 (by decide) (fun c_5 => ?_) (fun c_5 => ?_)
    · refine lv_aload_n hx hb dX2_tellKnown_29 rfl (lv_at hl 0 rfl) ?_
      refine lv_iload_n hx hb dX2_tellKnown_30 rfl (lv_at hl 1 rfl) ?_
      refine lv_iload_n hx hb dX2_tellKnown_31 rfl (lv_at hl 2 rfl) ?_
      refine lv_if_ne (tgt := 39) hx hb dX2_tellKnown_32 (by decide) (fun c_6 => ?_) (fun c_6 => ?_)
      · refine lv_iload_n hx hb dX2_tellKnown_39 rfl (lv_at hl 2 rfl) ?_
        refine lv_iconst (v := 1) hx hb dX2_tellKnown_40 (by decide) ?_
        refine lv_icmp_ne (tgt := 50) hx hb dX2_tellKnown_41 (by decide) (fun c_7 => ?_) (fun c_7 => ?_)
        · refine lv_ldc2 (v := 86399999999999) hx hb hown (hts (.constantLong RX2 54 (86399999999999)) (by decide +kernel)) dX2_tellKnown_50 ?_
          have hFc := va_free (wc := [(y, .inr (4, [.int (j_stT (j_X2_isNone a1) (1 : Int32)), .ref n2, .int kn2, .int td])), (n2, .inl (cJ, 8, .inr (.inl g)))]) hD hS hA [0, 1] rfl
          refine k_go (va_runV (As := [.int a1, .long 86399999999999]) (rest := []) ⟨hx, hb, hml, hown, hts⟩ (cq_X2_set l D cB cJ _ y n2 (j_stT (j_X2_isNone a1) (1 : Int32)) g kn2 td hP (hD.weaken (fun _ _ _ _ => trivial)) a1 (86399999999999 : Int64) ((((hT.1 c_1).1 c_5).2 c_6).2 c_7).1) (cwV 2 hts gX2_tellKnown_X2_set rfl rfl rfl (by decide +kernel) ⟨(Nat.le_of_ble_eq_true rfl), (Nat.le_of_ble_eq_true rfl)⟩) (k_preV hE hS hFc (va_recv hK hP (ci := 4) (q0 := 0) rfl rfl)) rfl rfl hl.1 rfl (lv_room (Nat.le_of_ble_eq_true rfl)) dX2_tellKnown_53 ⟨(Nat.le_of_ble_eq_true rfl), (Nat.le_of_ble_eq_true rfl)⟩) hS (fun q _ h => hFc q h) hFc (fun v H locs hp hz hk hS => ?_)
          obtain ⟨rfl, hP1, hD1⟩ := hp
          (try dsimp only at hP1 hD1)
          have hP : va_P D vwCl [(y, .inr (4, [.int (j_stT (j_X2_isNone a1) (1 : Int32)), .ref n2, .int kn2, .int (td + 1)])), (n2, .inl (cJ, 8, .inr (.inl (vp_updL g a1.toNatClampNeg (86399999999999 : Int64)))))] H := hP1
          have hD : va_D A [(y, .inr (4, [.int (j_stT (j_X2_isNone a1) (1 : Int32)), .ref n2, .int kn2, .int (td + 1)])), (n2, .inl (cJ, 8, .inr (.inl (vp_updL g a1.toNatClampNeg (86399999999999 : Int64)))))] := hD1.weaken (fun _ q _ h => hFc q.1 h)
          refine W.eq (g2 := F0 m 56 ls [.int (j_X2_secondOf (86399999999999 : Int64))]) rfl ?_
          exact k_iret hx hb hr hlocks hS dX2_tellKnown_56 ⟨by rw [hJ, if_pos c_1, if_pos c_5, if_neg c_6, if_neg c_7], by rw [hJ, if_pos c_1, if_pos c_5, if_neg c_6, if_neg c_7]; (try dsimp only); exact hP, by rw [hJ, if_pos c_1, if_pos c_5, if_neg c_6, if_neg c_7]; (try dsimp only); exact hD⟩
        · refine lv_ldc2 (v := 43200000000000) hx hb hown (hts (.constantLong RX2 52 (43200000000000)) (by decide +kernel)) dX2_tellKnown_44 ?_
          refine lv_goto (tgt := 53) hx hb dX2_tellKnown_47 (by decide) ?_
          have hFc := va_free (wc := [(y, .inr (4, [.int (j_stT (j_X2_isNone a1) (1 : Int32)), .ref n2, .int kn2, .int td])), (n2, .inl (cJ, 8, .inr (.inl g)))]) hD hS hA [0, 1] rfl
          refine k_go (va_runV (As := [.int a1, .long 43200000000000]) (rest := []) ⟨hx, hb, hml, hown, hts⟩ (cq_X2_set l D cB cJ _ y n2 (j_stT (j_X2_isNone a1) (1 : Int32)) g kn2 td hP (hD.weaken (fun _ _ _ _ => trivial)) a1 (43200000000000 : Int64) ((((hT.1 c_1).1 c_5).2 c_6).1 c_7).1) (cwV 2 hts gX2_tellKnown_X2_set rfl rfl rfl (by decide +kernel) ⟨(Nat.le_of_ble_eq_true rfl), (Nat.le_of_ble_eq_true rfl)⟩) (k_preV hE hS hFc (va_recv hK hP (ci := 4) (q0 := 0) rfl rfl)) rfl rfl hl.1 rfl (lv_room (Nat.le_of_ble_eq_true rfl)) dX2_tellKnown_53 ⟨(Nat.le_of_ble_eq_true rfl), (Nat.le_of_ble_eq_true rfl)⟩) hS (fun q _ h => hFc q h) hFc (fun v H locs hp hz hk hS => ?_)
          obtain ⟨rfl, hP1, hD1⟩ := hp
          (try dsimp only at hP1 hD1)
          have hP : va_P D vwCl [(y, .inr (4, [.int (j_stT (j_X2_isNone a1) (1 : Int32)), .ref n2, .int kn2, .int (td + 1)])), (n2, .inl (cJ, 8, .inr (.inl (vp_updL g a1.toNatClampNeg (43200000000000 : Int64)))))] H := hP1
          have hD : va_D A [(y, .inr (4, [.int (j_stT (j_X2_isNone a1) (1 : Int32)), .ref n2, .int kn2, .int (td + 1)])), (n2, .inl (cJ, 8, .inr (.inl (vp_updL g a1.toNatClampNeg (43200000000000 : Int64)))))] := hD1.weaken (fun _ q _ h => hFc q.1 h)
          refine W.eq (g2 := F0 m 56 ls [.int (j_X2_secondOf (43200000000000 : Int64))]) rfl ?_
          exact k_iret hx hb hr hlocks hS dX2_tellKnown_56 ⟨by rw [hJ, if_pos c_1, if_pos c_5, if_neg c_6, if_pos c_7], by rw [hJ, if_pos c_1, if_pos c_5, if_neg c_6, if_pos c_7]; (try dsimp only); exact hP, by rw [hJ, if_pos c_1, if_pos c_5, if_neg c_6, if_pos c_7]; (try dsimp only); exact hD⟩
      · refine lv_lconst (v := 0) hx hb dX2_tellKnown_35 (by decide) ?_
        refine lv_goto (tgt := 53) hx hb dX2_tellKnown_36 (by decide) ?_
        have hFc := va_free (wc := [(y, .inr (4, [.int (j_stT (j_X2_isNone a1) (1 : Int32)), .ref n2, .int kn2, .int td])), (n2, .inl (cJ, 8, .inr (.inl g)))]) hD hS hA [0, 1] rfl
        refine k_go (va_runV (As := [.int a1, .long 0]) (rest := []) ⟨hx, hb, hml, hown, hts⟩ (cq_X2_set l D cB cJ _ y n2 (j_stT (j_X2_isNone a1) (1 : Int32)) g kn2 td hP (hD.weaken (fun _ _ _ _ => trivial)) a1 (0 : Int64) (((hT.1 c_1).1 c_5).1 c_6).1) (cwV 2 hts gX2_tellKnown_X2_set rfl rfl rfl (by decide +kernel) ⟨(Nat.le_of_ble_eq_true rfl), (Nat.le_of_ble_eq_true rfl)⟩) (k_preV hE hS hFc (va_recv hK hP (ci := 4) (q0 := 0) rfl rfl)) rfl rfl hl.1 rfl (lv_room (Nat.le_of_ble_eq_true rfl)) dX2_tellKnown_53 ⟨(Nat.le_of_ble_eq_true rfl), (Nat.le_of_ble_eq_true rfl)⟩) hS (fun q _ h => hFc q h) hFc (fun v H locs hp hz hk hS => ?_)
        obtain ⟨rfl, hP1, hD1⟩ := hp
        (try dsimp only at hP1 hD1)
        have hP : va_P D vwCl [(y, .inr (4, [.int (j_stT (j_X2_isNone a1) (1 : Int32)), .ref n2, .int kn2, .int (td + 1)])), (n2, .inl (cJ, 8, .inr (.inl (vp_updL g a1.toNatClampNeg (0 : Int64)))))] H := hP1
        have hD : va_D A [(y, .inr (4, [.int (j_stT (j_X2_isNone a1) (1 : Int32)), .ref n2, .int kn2, .int (td + 1)])), (n2, .inl (cJ, 8, .inr (.inl (vp_updL g a1.toNatClampNeg (0 : Int64)))))] := hD1.weaken (fun _ q _ h => hFc q.1 h)
        refine W.eq (g2 := F0 m 56 ls [.int (j_X2_secondOf (0 : Int64))]) rfl ?_
        exact k_iret hx hb hr hlocks hS dX2_tellKnown_56 ⟨by rw [hJ, if_pos c_1, if_pos c_5, if_pos c_6], by rw [hJ, if_pos c_1, if_pos c_5, if_pos c_6]; (try dsimp only); exact hP, by rw [hJ, if_pos c_1, if_pos c_5, if_pos c_6]; (try dsimp only); exact hD⟩
    · refine lv_iconst (v := 0) hx hb dX2_tellKnown_25 (by decide) ?_
      refine lv_goto (tgt := 56) hx hb dX2_tellKnown_26 (by decide) ?_
      exact k_iret hx hb hr hlocks hS dX2_tellKnown_56 ⟨by rw [hJ, if_pos c_1, if_neg c_5], by rw [hJ, if_pos c_1, if_neg c_5]; (try dsimp only); exact hP, by rw [hJ, if_pos c_1, if_neg c_5]; (try dsimp only); exact hD⟩
abbrev rm_X2_take : Room := { frames := 2, cells := 0, slots := 0, locals := 44 }
theorem iw_X2_take_X2 : ∀ w ∈ wsX20, w ∈ wsX2_take := by decide +kernel
def j_X2_take (th : Int32) (g : Nat → Int64) (kn2 td : Int32) (a1 : Int32) (a2 : Int32) : Int32 × Int32 × (Nat → Int64) × Int32 × Int32 := (if (j_X2_isNone a1) = 0 then (if (j_X2_isNone a2) = 0 then (if (j_stR (0 : Int32) (0 : Int32)) = 0 then (if (g a1.toNatClampNeg) = (g a2.toNatClampNeg) then (0, (j_stT (0 : Int32) (0 : Int32)), (vp_updL g a1.toNatClampNeg (g a2.toNatClampNeg)), kn2, (td + 1)) else (1, (j_stT (0 : Int32) (0 : Int32)), (vp_updL g a1.toNatClampNeg (g a2.toNatClampNeg)), kn2, (td + 1))) else (0, (j_stT (0 : Int32) (0 : Int32)), g, kn2, td)) else (if (j_stR (1 : Int32) (0 : Int32)) = 0 then (if (g a1.toNatClampNeg) = (g a2.toNatClampNeg) then (0, (j_stT (1 : Int32) (0 : Int32)), (vp_updL g a1.toNatClampNeg (g a2.toNatClampNeg)), kn2, (td + 1)) else (1, (j_stT (1 : Int32) (0 : Int32)), (vp_updL g a1.toNatClampNeg (g a2.toNatClampNeg)), kn2, (td + 1))) else (0, (j_stT (1 : Int32) (0 : Int32)), g, kn2, td))) else (if (j_stR (1 : Int32) (0 : Int32)) = 0 then (if (g a1.toNatClampNeg) = (g a2.toNatClampNeg) then (0, (j_stT (1 : Int32) (0 : Int32)), (vp_updL g a1.toNatClampNeg (g a2.toNatClampNeg)), kn2, (td + 1)) else (1, (j_stT (1 : Int32) (0 : Int32)), (vp_updL g a1.toNatClampNeg (g a2.toNatClampNeg)), kn2, (td + 1))) else (0, (j_stT (1 : Int32) (0 : Int32)), g, kn2, td)))
def T_X2_take (th : Int32) (g : Nat → Int64) (kn2 td : Int32) (a1 : Int32) (a2 : Int32) : Prop := (((j_X2_isNone a1) = 0 → (((j_X2_isNone a2) = 0 → (((j_stR (0 : Int32) (0 : Int32)) = 0 → (vp_in a1 8 ∧ (vp_in a2 8 ∧ (((g a1.toNatClampNeg) = (g a2.toNatClampNeg) → (T_X2_set (j_stT (0 : Int32) (0 : Int32)) g kn2 td a1 (g a2.toNatClampNeg) ∧ True)) ∧ (¬ ((g a1.toNatClampNeg) = (g a2.toNatClampNeg)) → (T_X2_set (j_stT (0 : Int32) (0 : Int32)) g kn2 td a1 (g a2.toNatClampNeg) ∧ True)))))) ∧ (¬ ((j_stR (0 : Int32) (0 : Int32)) = 0) → True))) ∧ (¬ ((j_X2_isNone a2) = 0) → (((j_stR (1 : Int32) (0 : Int32)) = 0 → (vp_in a1 8 ∧ (vp_in a2 8 ∧ (((g a1.toNatClampNeg) = (g a2.toNatClampNeg) → (T_X2_set (j_stT (1 : Int32) (0 : Int32)) g kn2 td a1 (g a2.toNatClampNeg) ∧ True)) ∧ (¬ ((g a1.toNatClampNeg) = (g a2.toNatClampNeg)) → (T_X2_set (j_stT (1 : Int32) (0 : Int32)) g kn2 td a1 (g a2.toNatClampNeg) ∧ True)))))) ∧ (¬ ((j_stR (1 : Int32) (0 : Int32)) = 0) → True))))) ∧ (¬ ((j_X2_isNone a1) = 0) → (((j_stR (1 : Int32) (0 : Int32)) = 0 → (vp_in a1 8 ∧ (vp_in a2 8 ∧ (((g a1.toNatClampNeg) = (g a2.toNatClampNeg) → (T_X2_set (j_stT (1 : Int32) (0 : Int32)) g kn2 td a1 (g a2.toNatClampNeg) ∧ True)) ∧ (¬ ((g a1.toNatClampNeg) = (g a2.toNatClampNeg)) → (T_X2_set (j_stT (1 : Int32) (0 : Int32)) g kn2 td a1 (g a2.toNatClampNeg) ∧ True)))))) ∧ (¬ ((j_stR (1 : Int32) (0 : Int32)) = 0) → True))))
set_option maxHeartbeats 4000000 in
set_option maxRecDepth 100000 in
theorem c_X2_take (l : Launch) (D : va_G) (cB cJ : ClassId) (Hp : Heap) (y n2 : Nat) (th : Int32) (g : Nat → Int64) (kn2 td : Int32) (hP : va_P D vwCl (wMo y n2 cJ th g kn2 td) Hp) (hD9 : va_D (fun _ => True) (wMo y n2 cJ th g kn2 td)) (a1 : Int32) (a2 : Int32) (hT9 : T_X2_take th g kn2 td a1 a2) : kM l D cB cJ yX2_take wsX2_take rm_X2_take (va_A (wMo y n2 cJ th g kn2 td) Hp.size) Hp [.ref y, .int a1, .int a2] (kPm D y n2 cJ (va_A (wMo y n2 cJ th g kn2 td) Hp.size) (j_X2_take th g kn2 td a1 a2)) 0 0 := by
  refine Met.ofW (cc := cX2_take) (maxL := 4) (ret := (some .int)) (by decide) rfl ?_
  intro p e s m args below meth c s₁ B hml hv
  obtain ⟨rfl, hHp, hE⟩ := hv
  subst hHp
  have hx := B.exec
  have hb := B.bytes
  have hr := B.returns
  have hts := atoms_spec (ws := wsX2_take) B.pre
  have hown : s.vm.findClass RX2 = some m.cls := findClass_of_methodNamed B.named
  have hlocks := B.notSynchronized
  have hK := hE.1
  have hD := hD9.self (sz := s.heap.size)
  generalize hAe : va_A (wMo y n2 cJ th g kn2 td) s.heap.size = A at hE hD ⊢
  have hA : ∀ q : Nat, s.heap.size ≤ q → A q := fun q h => by rw [← hAe]; exact Or.inr h
  have hS : va_S A s.heap s.heap [] := va_S.rf
  have hl := lv_entry ([.ref y, .int a1, .int a2]) (n := 4) (Nat.le_of_ble_eq_true rfl)
  rw [lg_entry_eq]
  generalize (lg_sl ([.ref y, .int a1, .int a2]) ++ List.replicate (4 - (lg_sl ([.ref y, .int a1, .int a2])).length) Slot.unset).toArray = ls at hl ⊢
  have hl : lv_has ls 4 [(0, .ref y), (1, .int a1), (2, .int a2)] := hl
  have hJ : (j_X2_take th g kn2 td a1 a2) = (if (j_X2_isNone a1) = 0 then (if (j_X2_isNone a2) = 0 then (if (j_stR (0 : Int32) (0 : Int32)) = 0 then (if (g a1.toNatClampNeg) = (g a2.toNatClampNeg) then (0, (j_stT (0 : Int32) (0 : Int32)), (vp_updL g a1.toNatClampNeg (g a2.toNatClampNeg)), kn2, (td + 1)) else (1, (j_stT (0 : Int32) (0 : Int32)), (vp_updL g a1.toNatClampNeg (g a2.toNatClampNeg)), kn2, (td + 1))) else (0, (j_stT (0 : Int32) (0 : Int32)), g, kn2, td)) else (if (j_stR (1 : Int32) (0 : Int32)) = 0 then (if (g a1.toNatClampNeg) = (g a2.toNatClampNeg) then (0, (j_stT (1 : Int32) (0 : Int32)), (vp_updL g a1.toNatClampNeg (g a2.toNatClampNeg)), kn2, (td + 1)) else (1, (j_stT (1 : Int32) (0 : Int32)), (vp_updL g a1.toNatClampNeg (g a2.toNatClampNeg)), kn2, (td + 1))) else (0, (j_stT (1 : Int32) (0 : Int32)), g, kn2, td))) else (if (j_stR (1 : Int32) (0 : Int32)) = 0 then (if (g a1.toNatClampNeg) = (g a2.toNatClampNeg) then (0, (j_stT (1 : Int32) (0 : Int32)), (vp_updL g a1.toNatClampNeg (g a2.toNatClampNeg)), kn2, (td + 1)) else (1, (j_stT (1 : Int32) (0 : Int32)), (vp_updL g a1.toNatClampNeg (g a2.toNatClampNeg)), kn2, (td + 1))) else (0, (j_stT (1 : Int32) (0 : Int32)), g, kn2, td))) := rfl
  have hT : (((j_X2_isNone a1) = 0 → (((j_X2_isNone a2) = 0 → (((j_stR (0 : Int32) (0 : Int32)) = 0 → (vp_in a1 8 ∧ (vp_in a2 8 ∧ (((g a1.toNatClampNeg) = (g a2.toNatClampNeg) → (T_X2_set (j_stT (0 : Int32) (0 : Int32)) g kn2 td a1 (g a2.toNatClampNeg) ∧ True)) ∧ (¬ ((g a1.toNatClampNeg) = (g a2.toNatClampNeg)) → (T_X2_set (j_stT (0 : Int32) (0 : Int32)) g kn2 td a1 (g a2.toNatClampNeg) ∧ True)))))) ∧ (¬ ((j_stR (0 : Int32) (0 : Int32)) = 0) → True))) ∧ (¬ ((j_X2_isNone a2) = 0) → (((j_stR (1 : Int32) (0 : Int32)) = 0 → (vp_in a1 8 ∧ (vp_in a2 8 ∧ (((g a1.toNatClampNeg) = (g a2.toNatClampNeg) → (T_X2_set (j_stT (1 : Int32) (0 : Int32)) g kn2 td a1 (g a2.toNatClampNeg) ∧ True)) ∧ (¬ ((g a1.toNatClampNeg) = (g a2.toNatClampNeg)) → (T_X2_set (j_stT (1 : Int32) (0 : Int32)) g kn2 td a1 (g a2.toNatClampNeg) ∧ True)))))) ∧ (¬ ((j_stR (1 : Int32) (0 : Int32)) = 0) → True))))) ∧ (¬ ((j_X2_isNone a1) = 0) → (((j_stR (1 : Int32) (0 : Int32)) = 0 → (vp_in a1 8 ∧ (vp_in a2 8 ∧ (((g a1.toNatClampNeg) = (g a2.toNatClampNeg) → (T_X2_set (j_stT (1 : Int32) (0 : Int32)) g kn2 td a1 (g a2.toNatClampNeg) ∧ True)) ∧ (¬ ((g a1.toNatClampNeg) = (g a2.toNatClampNeg)) → (T_X2_set (j_stT (1 : Int32) (0 : Int32)) g kn2 td a1 (g a2.toNatClampNeg) ∧ True)))))) ∧ (¬ ((j_stR (1 : Int32) (0 : Int32)) = 0) → True)))) := hT9
  refine lv_aload_n hx hb dX2_take_0 rfl (lv_at hl 0 rfl) ?_
  refine lv_iload_n hx hb dX2_take_1 rfl (lv_at hl 1 rfl) ?_
  refine k_pS [.int a1] (rest := [.ref y]) ⟨hx, hb, hml, hown, hts⟩ (c_X2_isNone l D cB cJ _ a1) (va_cwS 1 hts gX2_take_X2_isNone rfl rfl rfl (by decide +kernel) ⟨(Nat.le_of_ble_eq_true rfl), (Nat.le_of_ble_eq_true rfl)⟩) hE hS rfl rfl hl.1 (Nat.le_of_ble_eq_true rfl) dX2_take_2 ⟨(Nat.le_of_ble_eq_true rfl), (Nat.le_of_ble_eq_true rfl)⟩ (fun locs hS => ?_)
  refine W.eq (g2 := F0 m 5 ls [.int (j_X2_isNone a1), .ref y]) rfl ?_
  refine lv_if_ne (tgt := 15) hx hb dX2_take_5 (by decide) (fun c_1 => ?_) (fun c_1 => ?_)
  · refine lv_iconst (v := 1) hx hb dX2_take_15 (by decide) ?_
    refine lv_goto (tgt := 20) hx hb dX2_take_16 (by decide) ?_
    refine lv_iconst (v := 0) hx hb dX2_take_20 (by decide) ?_
    have hFc := va_free (wc := [(y, .inr (4, [.int th, .ref n2, .int kn2, .int td])), (n2, .inl (cJ, 8, .inr (.inl g)))]) hD hS hA [0, 1] rfl
    refine k_go (va_runV (As := [.int 1, .int 0]) (rest := []) ⟨hx, hb, hml, hown, hts⟩ (cq_X2_isStopped l D cB cJ _ y n2 th g kn2 td hP (hD.weaken (fun _ _ _ _ => trivial)) (1 : Int32) (0 : Int32)) (cwV 2 hts gX2_take_X2_isStopped rfl rfl rfl (by decide +kernel) ⟨(Nat.le_of_ble_eq_true rfl), (Nat.le_of_ble_eq_true rfl)⟩) (k_preV hE hS hFc (va_recv hK hP (ci := 4) (q0 := 0) rfl rfl)) rfl rfl hl.1 rfl (lv_room (Nat.le_of_ble_eq_true rfl)) dX2_take_21 ⟨(Nat.le_of_ble_eq_true rfl), (Nat.le_of_ble_eq_true rfl)⟩) hS (fun q _ h => hFc q h) hFc (fun v H locs hp hz hk hS => ?_)
    obtain ⟨rfl, hP1, hD1⟩ := hp
    (try dsimp only at hP1 hD1)
    have hP : va_P D vwCl [(y, .inr (4, [.int (j_stT (1 : Int32) (0 : Int32)), .ref n2, .int kn2, .int td])), (n2, .inl (cJ, 8, .inr (.inl g)))] H := hP1
    have hD : va_D A [(y, .inr (4, [.int (j_stT (1 : Int32) (0 : Int32)), .ref n2, .int kn2, .int td])), (n2, .inl (cJ, 8, .inr (.inl g)))] := hD1.weaken (fun _ q _ h => hFc q.1 h)
    refine W.eq (g2 := F0 m 24 ls [.int (j_stR (1 : Int32) (0 : Int32))]) rfl ?_
    refine lv_if_eq (tgt := 29) hx hb dX2_take_24 (by decide) (fun c_2 => ?_) (fun c_2 => ?_)
    · refine lv_aload_n hx hb dX2_take_29 rfl (lv_at hl 0 rfl) ?_
      refine va_get (D := D) (ci := 4) (v := .ref n2) (C := RX2) (T := TX2) (N := 4) hx hb hts iw_X2_take_X2 hown hK hP 0 rfl rfl 1 (by decide) (hts (.fieldLink RX2 9 "ClocksoloModel" "its" "[J") (by decide +kernel)) (fun _ h9 => h9) rfl dX2_take_30 ?_
      refine lv_iload_n hx hb dX2_take_33 rfl (lv_at hl 1 rfl) ?_
      refine va_lald hx hb hK hP 1 1 rfl rfl ((hT.2 c_1).1 c_2).1 dX2_take_34 ?_
      refine lv_aload_n hx hb dX2_take_35 rfl (lv_at hl 0 rfl) ?_
      refine va_get (D := D) (ci := 4) (v := .ref n2) (C := RX2) (T := TX2) (N := 4) hx hb hts iw_X2_take_X2 hown hK hP 0 rfl rfl 1 (by decide) (hts (.fieldLink RX2 9 "ClocksoloModel" "its" "[J") (by decide +kernel)) (fun _ h9 => h9) rfl dX2_take_36 ?_
      refine lv_iload_n hx hb dX2_take_39 rfl (lv_at hl 2 rfl) ?_
      refine va_lald hx hb hK hP 1 1 rfl rfl ((hT.2 c_1).1 c_2).2.1 dX2_take_40 ?_
      refine kl_eq (tgt := 49) hx hb dX2_take_41 dX2_take_42 (by decide) (fun c_3 => ?_) (fun c_3 => ?_)
      · refine lv_iconst (v := 0) hx hb dX2_take_49 (by decide) ?_
        refine lv_istore_n (lv' := [(3, .int 0), (0, .ref y), (1, .int a1), (2, .int a2)]) hx hb dX2_take_50 rfl hl (by decide) rfl (fun ls hl => ?_)
        refine lv_aload_n hx hb dX2_take_51 rfl (lv_at hl 1 rfl) ?_
        refine lv_iload_n hx hb dX2_take_52 rfl (lv_at hl 2 rfl) ?_
        refine lv_aload_n hx hb dX2_take_53 rfl (lv_at hl 1 rfl) ?_
        refine va_get (D := D) (ci := 4) (v := .ref n2) (C := RX2) (T := TX2) (N := 4) hx hb hts iw_X2_take_X2 hown hK hP 0 rfl rfl 1 (by decide) (hts (.fieldLink RX2 9 "ClocksoloModel" "its" "[J") (by decide +kernel)) (fun _ h9 => h9) rfl dX2_take_54 ?_
        refine lv_iload_n hx hb dX2_take_57 rfl (lv_at hl 3 rfl) ?_
        refine va_lald hx hb hK hP 1 1 rfl rfl ((hT.2 c_1).1 c_2).2.1 dX2_take_58 ?_
        have hFc := va_free (wc := [(y, .inr (4, [.int (j_stT (1 : Int32) (0 : Int32)), .ref n2, .int kn2, .int td])), (n2, .inl (cJ, 8, .inr (.inl g)))]) hD hS hA [0, 1] rfl
        refine k_go (va_runV (As := [.int a1, .long (g a2.toNatClampNeg)]) (rest := []) ⟨hx, hb, hml, hown, hts⟩ (cq_X2_set l D cB cJ _ y n2 (j_stT (1 : Int32) (0 : Int32)) g kn2 td hP (hD.weaken (fun _ _ _ _ => trivial)) a1 (g a2.toNatClampNeg) (((hT.2 c_1).1 c_2).2.2.1 c_3).1) (cwV 2 hts gX2_take_X2_set rfl rfl rfl (by decide +kernel) ⟨(Nat.le_of_ble_eq_true rfl), (Nat.le_of_ble_eq_true rfl)⟩) (k_preV hE hS hFc (va_recv hK hP (ci := 4) (q0 := 0) rfl rfl)) rfl rfl hl.1 rfl (lv_room (Nat.le_of_ble_eq_true rfl)) dX2_take_59 ⟨(Nat.le_of_ble_eq_true rfl), (Nat.le_of_ble_eq_true rfl)⟩) hS (fun q _ h => hFc q h) hFc (fun v H locs hp hz hk hS => ?_)
        obtain ⟨rfl, hP1, hD1⟩ := hp
        (try dsimp only at hP1 hD1)
        have hP : va_P D vwCl [(y, .inr (4, [.int (j_stT (1 : Int32) (0 : Int32)), .ref n2, .int kn2, .int (td + 1)])), (n2, .inl (cJ, 8, .inr (.inl (vp_updL g a1.toNatClampNeg (g a2.toNatClampNeg)))))] H := hP1
        have hD : va_D A [(y, .inr (4, [.int (j_stT (1 : Int32) (0 : Int32)), .ref n2, .int kn2, .int (td + 1)])), (n2, .inl (cJ, 8, .inr (.inl (vp_updL g a1.toNatClampNeg (g a2.toNatClampNeg)))))] := hD1.weaken (fun _ q _ h => hFc q.1 h)
        refine W.eq (g2 := F0 m 62 ls [.int (j_X2_secondOf (g a2.toNatClampNeg))]) rfl ?_
        refine lv_pop hx hb dX2_take_62 rfl ?_
        refine lv_iload_n hx hb dX2_take_63 rfl (lv_at hl 0 rfl) ?_
        refine lv_if_eq (tgt := 71) hx hb dX2_take_64 (by decide) (fun c_4 => ?_) (fun c_4 => ?_)
        · refine lv_iconst (v := 0) hx hb dX2_take_71 (by decide) ?_
          exact k_iret hx hb hr hlocks hS dX2_take_72 ⟨by rw [hJ, if_neg c_1, if_pos c_2, if_pos c_3], by rw [hJ, if_neg c_1, if_pos c_2, if_pos c_3]; (try dsimp only); exact hP, by rw [hJ, if_neg c_1, if_pos c_2, if_pos c_3]; (try dsimp only); exact hD⟩
        · exact absurd (by decide) c_4
      · refine lv_iconst (v := 1) hx hb dX2_take_45 (by decide) ?_
        refine lv_goto (tgt := 50) hx hb dX2_take_46 (by decide) ?_
        refine lv_istore_n (lv' := [(3, .int 1), (0, .ref y), (1, .int a1), (2, .int a2)]) hx hb dX2_take_50 rfl hl (by decide) rfl (fun ls hl => ?_)
        refine lv_aload_n hx hb dX2_take_51 rfl (lv_at hl 1 rfl) ?_
        refine lv_iload_n hx hb dX2_take_52 rfl (lv_at hl 2 rfl) ?_
        refine lv_aload_n hx hb dX2_take_53 rfl (lv_at hl 1 rfl) ?_
        refine va_get (D := D) (ci := 4) (v := .ref n2) (C := RX2) (T := TX2) (N := 4) hx hb hts iw_X2_take_X2 hown hK hP 0 rfl rfl 1 (by decide) (hts (.fieldLink RX2 9 "ClocksoloModel" "its" "[J") (by decide +kernel)) (fun _ h9 => h9) rfl dX2_take_54 ?_
        refine lv_iload_n hx hb dX2_take_57 rfl (lv_at hl 3 rfl) ?_
        refine va_lald hx hb hK hP 1 1 rfl rfl ((hT.2 c_1).1 c_2).2.1 dX2_take_58 ?_
        have hFc := va_free (wc := [(y, .inr (4, [.int (j_stT (1 : Int32) (0 : Int32)), .ref n2, .int kn2, .int td])), (n2, .inl (cJ, 8, .inr (.inl g)))]) hD hS hA [0, 1] rfl
        refine k_go (va_runV (As := [.int a1, .long (g a2.toNatClampNeg)]) (rest := []) ⟨hx, hb, hml, hown, hts⟩ (cq_X2_set l D cB cJ _ y n2 (j_stT (1 : Int32) (0 : Int32)) g kn2 td hP (hD.weaken (fun _ _ _ _ => trivial)) a1 (g a2.toNatClampNeg) (((hT.2 c_1).1 c_2).2.2.2 c_3).1) (cwV 2 hts gX2_take_X2_set rfl rfl rfl (by decide +kernel) ⟨(Nat.le_of_ble_eq_true rfl), (Nat.le_of_ble_eq_true rfl)⟩) (k_preV hE hS hFc (va_recv hK hP (ci := 4) (q0 := 0) rfl rfl)) rfl rfl hl.1 rfl (lv_room (Nat.le_of_ble_eq_true rfl)) dX2_take_59 ⟨(Nat.le_of_ble_eq_true rfl), (Nat.le_of_ble_eq_true rfl)⟩) hS (fun q _ h => hFc q h) hFc (fun v H locs hp hz hk hS => ?_)
        obtain ⟨rfl, hP1, hD1⟩ := hp
        (try dsimp only at hP1 hD1)
        have hP : va_P D vwCl [(y, .inr (4, [.int (j_stT (1 : Int32) (0 : Int32)), .ref n2, .int kn2, .int (td + 1)])), (n2, .inl (cJ, 8, .inr (.inl (vp_updL g a1.toNatClampNeg (g a2.toNatClampNeg)))))] H := hP1
        have hD : va_D A [(y, .inr (4, [.int (j_stT (1 : Int32) (0 : Int32)), .ref n2, .int kn2, .int (td + 1)])), (n2, .inl (cJ, 8, .inr (.inl (vp_updL g a1.toNatClampNeg (g a2.toNatClampNeg)))))] := hD1.weaken (fun _ q _ h => hFc q.1 h)
        refine W.eq (g2 := F0 m 62 ls [.int (j_X2_secondOf (g a2.toNatClampNeg))]) rfl ?_
        refine lv_pop hx hb dX2_take_62 rfl ?_
        refine lv_iload_n hx hb dX2_take_63 rfl (lv_at hl 0 rfl) ?_
        refine lv_if_eq (tgt := 71) hx hb dX2_take_64 (by decide) (fun c_5 => ?_) (fun c_5 => ?_)
        · exact absurd c_5 (by decide)
        · refine lv_iconst (v := 1) hx hb dX2_take_67 (by decide) ?_
          refine lv_goto (tgt := 72) hx hb dX2_take_68 (by decide) ?_
          exact k_iret hx hb hr hlocks hS dX2_take_72 ⟨by rw [hJ, if_neg c_1, if_pos c_2, if_neg c_3], by rw [hJ, if_neg c_1, if_pos c_2, if_neg c_3]; (try dsimp only); exact hP, by rw [hJ, if_neg c_1, if_pos c_2, if_neg c_3]; (try dsimp only); exact hD⟩
    · refine lv_iconst (v := 0) hx hb dX2_take_27 (by decide) ?_
      exact k_iret hx hb hr hlocks hS dX2_take_28 ⟨by rw [hJ, if_neg c_1, if_neg c_2], by rw [hJ, if_neg c_1, if_neg c_2]; (try dsimp only); exact hP, by rw [hJ, if_neg c_1, if_neg c_2]; (try dsimp only); exact hD⟩
  · refine lv_iload_n hx hb dX2_take_8 rfl (lv_at hl 2 rfl) ?_
    refine k_pS [.int a2] (rest := [.ref y]) ⟨hx, hb, hml, hown, hts⟩ (c_X2_isNone l D cB cJ _ a2) (va_cwS 1 hts gX2_take_X2_isNone rfl rfl rfl (by decide +kernel) ⟨(Nat.le_of_ble_eq_true rfl), (Nat.le_of_ble_eq_true rfl)⟩) hE hS rfl rfl hl.1 (Nat.le_of_ble_eq_true rfl) dX2_take_9 ⟨(Nat.le_of_ble_eq_true rfl), (Nat.le_of_ble_eq_true rfl)⟩ (fun locs hS => ?_)
    refine W.eq (g2 := F0 m 12 ls [.int (j_X2_isNone a2), .ref y]) rfl ?_
    refine lv_if_eq (tgt := 19) hx hb dX2_take_12 (by decide) (fun c_6 => ?_) (fun c_6 => ?_)
    · refine lv_iconst (v := 0) hx hb dX2_take_19 (by decide) ?_
      refine lv_iconst (v := 0) hx hb dX2_take_20 (by decide) ?_
      have hFc := va_free (wc := [(y, .inr (4, [.int th, .ref n2, .int kn2, .int td])), (n2, .inl (cJ, 8, .inr (.inl g)))]) hD hS hA [0, 1] rfl
      refine k_go (va_runV (As := [.int 0, .int 0]) (rest := []) ⟨hx, hb, hml, hown, hts⟩ (cq_X2_isStopped l D cB cJ _ y n2 th g kn2 td hP (hD.weaken (fun _ _ _ _ => trivial)) (0 : Int32) (0 : Int32)) (cwV 2 hts gX2_take_X2_isStopped rfl rfl rfl (by decide +kernel) ⟨(Nat.le_of_ble_eq_true rfl), (Nat.le_of_ble_eq_true rfl)⟩) (k_preV hE hS hFc (va_recv hK hP (ci := 4) (q0 := 0) rfl rfl)) rfl rfl hl.1 rfl (lv_room (Nat.le_of_ble_eq_true rfl)) dX2_take_21 ⟨(Nat.le_of_ble_eq_true rfl), (Nat.le_of_ble_eq_true rfl)⟩) hS (fun q _ h => hFc q h) hFc (fun v H locs hp hz hk hS => ?_)
      obtain ⟨rfl, hP1, hD1⟩ := hp
      (try dsimp only at hP1 hD1)
      have hP : va_P D vwCl [(y, .inr (4, [.int (j_stT (0 : Int32) (0 : Int32)), .ref n2, .int kn2, .int td])), (n2, .inl (cJ, 8, .inr (.inl g)))] H := hP1
      have hD : va_D A [(y, .inr (4, [.int (j_stT (0 : Int32) (0 : Int32)), .ref n2, .int kn2, .int td])), (n2, .inl (cJ, 8, .inr (.inl g)))] := hD1.weaken (fun _ q _ h => hFc q.1 h)
      refine W.eq (g2 := F0 m 24 ls [.int (j_stR (0 : Int32) (0 : Int32))]) rfl ?_
      refine lv_if_eq (tgt := 29) hx hb dX2_take_24 (by decide) (fun c_7 => ?_) (fun c_7 => ?_)
      · refine lv_aload_n hx hb dX2_take_29 rfl (lv_at hl 0 rfl) ?_
        refine va_get (D := D) (ci := 4) (v := .ref n2) (C := RX2) (T := TX2) (N := 4) hx hb hts iw_X2_take_X2 hown hK hP 0 rfl rfl 1 (by decide) (hts (.fieldLink RX2 9 "ClocksoloModel" "its" "[J") (by decide +kernel)) (fun _ h9 => h9) rfl dX2_take_30 ?_
        refine lv_iload_n hx hb dX2_take_33 rfl (lv_at hl 1 rfl) ?_
        refine va_lald hx hb hK hP 1 1 rfl rfl (((hT.1 c_1).1 c_6).1 c_7).1 dX2_take_34 ?_
        refine lv_aload_n hx hb dX2_take_35 rfl (lv_at hl 0 rfl) ?_
        refine va_get (D := D) (ci := 4) (v := .ref n2) (C := RX2) (T := TX2) (N := 4) hx hb hts iw_X2_take_X2 hown hK hP 0 rfl rfl 1 (by decide) (hts (.fieldLink RX2 9 "ClocksoloModel" "its" "[J") (by decide +kernel)) (fun _ h9 => h9) rfl dX2_take_36 ?_
        refine lv_iload_n hx hb dX2_take_39 rfl (lv_at hl 2 rfl) ?_
        refine va_lald hx hb hK hP 1 1 rfl rfl (((hT.1 c_1).1 c_6).1 c_7).2.1 dX2_take_40 ?_
        refine kl_eq (tgt := 49) hx hb dX2_take_41 dX2_take_42 (by decide) (fun c_8 => ?_) (fun c_8 => ?_)
        · refine lv_iconst (v := 0) hx hb dX2_take_49 (by decide) ?_
          refine lv_istore_n (lv' := [(3, .int 0), (0, .ref y), (1, .int a1), (2, .int a2)]) hx hb dX2_take_50 rfl hl (by decide) rfl (fun ls hl => ?_)
          refine lv_aload_n hx hb dX2_take_51 rfl (lv_at hl 1 rfl) ?_
          refine lv_iload_n hx hb dX2_take_52 rfl (lv_at hl 2 rfl) ?_
          refine lv_aload_n hx hb dX2_take_53 rfl (lv_at hl 1 rfl) ?_
          refine va_get (D := D) (ci := 4) (v := .ref n2) (C := RX2) (T := TX2) (N := 4) hx hb hts iw_X2_take_X2 hown hK hP 0 rfl rfl 1 (by decide) (hts (.fieldLink RX2 9 "ClocksoloModel" "its" "[J") (by decide +kernel)) (fun _ h9 => h9) rfl dX2_take_54 ?_
          refine lv_iload_n hx hb dX2_take_57 rfl (lv_at hl 3 rfl) ?_
          refine va_lald hx hb hK hP 1 1 rfl rfl (((hT.1 c_1).1 c_6).1 c_7).2.1 dX2_take_58 ?_
          have hFc := va_free (wc := [(y, .inr (4, [.int (j_stT (0 : Int32) (0 : Int32)), .ref n2, .int kn2, .int td])), (n2, .inl (cJ, 8, .inr (.inl g)))]) hD hS hA [0, 1] rfl
          refine k_go (va_runV (As := [.int a1, .long (g a2.toNatClampNeg)]) (rest := []) ⟨hx, hb, hml, hown, hts⟩ (cq_X2_set l D cB cJ _ y n2 (j_stT (0 : Int32) (0 : Int32)) g kn2 td hP (hD.weaken (fun _ _ _ _ => trivial)) a1 (g a2.toNatClampNeg) ((((hT.1 c_1).1 c_6).1 c_7).2.2.1 c_8).1) (cwV 2 hts gX2_take_X2_set rfl rfl rfl (by decide +kernel) ⟨(Nat.le_of_ble_eq_true rfl), (Nat.le_of_ble_eq_true rfl)⟩) (k_preV hE hS hFc (va_recv hK hP (ci := 4) (q0 := 0) rfl rfl)) rfl rfl hl.1 rfl (lv_room (Nat.le_of_ble_eq_true rfl)) dX2_take_59 ⟨(Nat.le_of_ble_eq_true rfl), (Nat.le_of_ble_eq_true rfl)⟩) hS (fun q _ h => hFc q h) hFc (fun v H locs hp hz hk hS => ?_)
          obtain ⟨rfl, hP1, hD1⟩ := hp
          (try dsimp only at hP1 hD1)
          have hP : va_P D vwCl [(y, .inr (4, [.int (j_stT (0 : Int32) (0 : Int32)), .ref n2, .int kn2, .int (td + 1)])), (n2, .inl (cJ, 8, .inr (.inl (vp_updL g a1.toNatClampNeg (g a2.toNatClampNeg)))))] H := hP1
          have hD : va_D A [(y, .inr (4, [.int (j_stT (0 : Int32) (0 : Int32)), .ref n2, .int kn2, .int (td + 1)])), (n2, .inl (cJ, 8, .inr (.inl (vp_updL g a1.toNatClampNeg (g a2.toNatClampNeg)))))] := hD1.weaken (fun _ q _ h => hFc q.1 h)
          refine W.eq (g2 := F0 m 62 ls [.int (j_X2_secondOf (g a2.toNatClampNeg))]) rfl ?_
          refine lv_pop hx hb dX2_take_62 rfl ?_
          refine lv_iload_n hx hb dX2_take_63 rfl (lv_at hl 0 rfl) ?_
          refine lv_if_eq (tgt := 71) hx hb dX2_take_64 (by decide) (fun c_9 => ?_) (fun c_9 => ?_)
          · refine lv_iconst (v := 0) hx hb dX2_take_71 (by decide) ?_
            exact k_iret hx hb hr hlocks hS dX2_take_72 ⟨by rw [hJ, if_pos c_1, if_pos c_6, if_pos c_7, if_pos c_8], by rw [hJ, if_pos c_1, if_pos c_6, if_pos c_7, if_pos c_8]; (try dsimp only); exact hP, by rw [hJ, if_pos c_1, if_pos c_6, if_pos c_7, if_pos c_8]; (try dsimp only); exact hD⟩
          · exact absurd (by decide) c_9
        · refine lv_iconst (v := 1) hx hb dX2_take_45 (by decide) ?_
          refine lv_goto (tgt := 50) hx hb dX2_take_46 (by decide) ?_
          refine lv_istore_n (lv' := [(3, .int 1), (0, .ref y), (1, .int a1), (2, .int a2)]) hx hb dX2_take_50 rfl hl (by decide) rfl (fun ls hl => ?_)
          refine lv_aload_n hx hb dX2_take_51 rfl (lv_at hl 1 rfl) ?_
          refine lv_iload_n hx hb dX2_take_52 rfl (lv_at hl 2 rfl) ?_
          refine lv_aload_n hx hb dX2_take_53 rfl (lv_at hl 1 rfl) ?_
          refine va_get (D := D) (ci := 4) (v := .ref n2) (C := RX2) (T := TX2) (N := 4) hx hb hts iw_X2_take_X2 hown hK hP 0 rfl rfl 1 (by decide) (hts (.fieldLink RX2 9 "ClocksoloModel" "its" "[J") (by decide +kernel)) (fun _ h9 => h9) rfl dX2_take_54 ?_
          refine lv_iload_n hx hb dX2_take_57 rfl (lv_at hl 3 rfl) ?_
          refine va_lald hx hb hK hP 1 1 rfl rfl (((hT.1 c_1).1 c_6).1 c_7).2.1 dX2_take_58 ?_
          have hFc := va_free (wc := [(y, .inr (4, [.int (j_stT (0 : Int32) (0 : Int32)), .ref n2, .int kn2, .int td])), (n2, .inl (cJ, 8, .inr (.inl g)))]) hD hS hA [0, 1] rfl
          refine k_go (va_runV (As := [.int a1, .long (g a2.toNatClampNeg)]) (rest := []) ⟨hx, hb, hml, hown, hts⟩ (cq_X2_set l D cB cJ _ y n2 (j_stT (0 : Int32) (0 : Int32)) g kn2 td hP (hD.weaken (fun _ _ _ _ => trivial)) a1 (g a2.toNatClampNeg) ((((hT.1 c_1).1 c_6).1 c_7).2.2.2 c_8).1) (cwV 2 hts gX2_take_X2_set rfl rfl rfl (by decide +kernel) ⟨(Nat.le_of_ble_eq_true rfl), (Nat.le_of_ble_eq_true rfl)⟩) (k_preV hE hS hFc (va_recv hK hP (ci := 4) (q0 := 0) rfl rfl)) rfl rfl hl.1 rfl (lv_room (Nat.le_of_ble_eq_true rfl)) dX2_take_59 ⟨(Nat.le_of_ble_eq_true rfl), (Nat.le_of_ble_eq_true rfl)⟩) hS (fun q _ h => hFc q h) hFc (fun v H locs hp hz hk hS => ?_)
          obtain ⟨rfl, hP1, hD1⟩ := hp
          (try dsimp only at hP1 hD1)
          have hP : va_P D vwCl [(y, .inr (4, [.int (j_stT (0 : Int32) (0 : Int32)), .ref n2, .int kn2, .int (td + 1)])), (n2, .inl (cJ, 8, .inr (.inl (vp_updL g a1.toNatClampNeg (g a2.toNatClampNeg)))))] H := hP1
          have hD : va_D A [(y, .inr (4, [.int (j_stT (0 : Int32) (0 : Int32)), .ref n2, .int kn2, .int (td + 1)])), (n2, .inl (cJ, 8, .inr (.inl (vp_updL g a1.toNatClampNeg (g a2.toNatClampNeg)))))] := hD1.weaken (fun _ q _ h => hFc q.1 h)
          refine W.eq (g2 := F0 m 62 ls [.int (j_X2_secondOf (g a2.toNatClampNeg))]) rfl ?_
          refine lv_pop hx hb dX2_take_62 rfl ?_
          refine lv_iload_n hx hb dX2_take_63 rfl (lv_at hl 0 rfl) ?_
          refine lv_if_eq (tgt := 71) hx hb dX2_take_64 (by decide) (fun c_10 => ?_) (fun c_10 => ?_)
          · exact absurd c_10 (by decide)
          · refine lv_iconst (v := 1) hx hb dX2_take_67 (by decide) ?_
            refine lv_goto (tgt := 72) hx hb dX2_take_68 (by decide) ?_
            exact k_iret hx hb hr hlocks hS dX2_take_72 ⟨by rw [hJ, if_pos c_1, if_pos c_6, if_pos c_7, if_neg c_8], by rw [hJ, if_pos c_1, if_pos c_6, if_pos c_7, if_neg c_8]; (try dsimp only); exact hP, by rw [hJ, if_pos c_1, if_pos c_6, if_pos c_7, if_neg c_8]; (try dsimp only); exact hD⟩
      · refine lv_iconst (v := 0) hx hb dX2_take_27 (by decide) ?_
        exact k_iret hx hb hr hlocks hS dX2_take_28 ⟨by rw [hJ, if_pos c_1, if_pos c_6, if_neg c_7], by rw [hJ, if_pos c_1, if_pos c_6, if_neg c_7]; (try dsimp only); exact hP, by rw [hJ, if_pos c_1, if_pos c_6, if_neg c_7]; (try dsimp only); exact hD⟩
    · refine lv_iconst (v := 1) hx hb dX2_take_15 (by decide) ?_
      refine lv_goto (tgt := 20) hx hb dX2_take_16 (by decide) ?_
      refine lv_iconst (v := 0) hx hb dX2_take_20 (by decide) ?_
      have hFc := va_free (wc := [(y, .inr (4, [.int th, .ref n2, .int kn2, .int td])), (n2, .inl (cJ, 8, .inr (.inl g)))]) hD hS hA [0, 1] rfl
      refine k_go (va_runV (As := [.int 1, .int 0]) (rest := []) ⟨hx, hb, hml, hown, hts⟩ (cq_X2_isStopped l D cB cJ _ y n2 th g kn2 td hP (hD.weaken (fun _ _ _ _ => trivial)) (1 : Int32) (0 : Int32)) (cwV 2 hts gX2_take_X2_isStopped rfl rfl rfl (by decide +kernel) ⟨(Nat.le_of_ble_eq_true rfl), (Nat.le_of_ble_eq_true rfl)⟩) (k_preV hE hS hFc (va_recv hK hP (ci := 4) (q0 := 0) rfl rfl)) rfl rfl hl.1 rfl (lv_room (Nat.le_of_ble_eq_true rfl)) dX2_take_21 ⟨(Nat.le_of_ble_eq_true rfl), (Nat.le_of_ble_eq_true rfl)⟩) hS (fun q _ h => hFc q h) hFc (fun v H locs hp hz hk hS => ?_)
      obtain ⟨rfl, hP1, hD1⟩ := hp
      (try dsimp only at hP1 hD1)
      have hP : va_P D vwCl [(y, .inr (4, [.int (j_stT (1 : Int32) (0 : Int32)), .ref n2, .int kn2, .int td])), (n2, .inl (cJ, 8, .inr (.inl g)))] H := hP1
      have hD : va_D A [(y, .inr (4, [.int (j_stT (1 : Int32) (0 : Int32)), .ref n2, .int kn2, .int td])), (n2, .inl (cJ, 8, .inr (.inl g)))] := hD1.weaken (fun _ q _ h => hFc q.1 h)
      refine W.eq (g2 := F0 m 24 ls [.int (j_stR (1 : Int32) (0 : Int32))]) rfl ?_
      refine lv_if_eq (tgt := 29) hx hb dX2_take_24 (by decide) (fun c_11 => ?_) (fun c_11 => ?_)
      · refine lv_aload_n hx hb dX2_take_29 rfl (lv_at hl 0 rfl) ?_
        refine va_get (D := D) (ci := 4) (v := .ref n2) (C := RX2) (T := TX2) (N := 4) hx hb hts iw_X2_take_X2 hown hK hP 0 rfl rfl 1 (by decide) (hts (.fieldLink RX2 9 "ClocksoloModel" "its" "[J") (by decide +kernel)) (fun _ h9 => h9) rfl dX2_take_30 ?_
        refine lv_iload_n hx hb dX2_take_33 rfl (lv_at hl 1 rfl) ?_
        refine va_lald hx hb hK hP 1 1 rfl rfl (((hT.1 c_1).2 c_6).1 c_11).1 dX2_take_34 ?_
        refine lv_aload_n hx hb dX2_take_35 rfl (lv_at hl 0 rfl) ?_
        refine va_get (D := D) (ci := 4) (v := .ref n2) (C := RX2) (T := TX2) (N := 4) hx hb hts iw_X2_take_X2 hown hK hP 0 rfl rfl 1 (by decide) (hts (.fieldLink RX2 9 "ClocksoloModel" "its" "[J") (by decide +kernel)) (fun _ h9 => h9) rfl dX2_take_36 ?_
        refine lv_iload_n hx hb dX2_take_39 rfl (lv_at hl 2 rfl) ?_
        refine va_lald hx hb hK hP 1 1 rfl rfl (((hT.1 c_1).2 c_6).1 c_11).2.1 dX2_take_40 ?_
        refine kl_eq (tgt := 49) hx hb dX2_take_41 dX2_take_42 (by decide) (fun c_12 => ?_) (fun c_12 => ?_)
        · refine lv_iconst (v := 0) hx hb dX2_take_49 (by decide) ?_
          refine lv_istore_n (lv' := [(3, .int 0), (0, .ref y), (1, .int a1), (2, .int a2)]) hx hb dX2_take_50 rfl hl (by decide) rfl (fun ls hl => ?_)
          refine lv_aload_n hx hb dX2_take_51 rfl (lv_at hl 1 rfl) ?_
          refine lv_iload_n hx hb dX2_take_52 rfl (lv_at hl 2 rfl) ?_
          refine lv_aload_n hx hb dX2_take_53 rfl (lv_at hl 1 rfl) ?_
          refine va_get (D := D) (ci := 4) (v := .ref n2) (C := RX2) (T := TX2) (N := 4) hx hb hts iw_X2_take_X2 hown hK hP 0 rfl rfl 1 (by decide) (hts (.fieldLink RX2 9 "ClocksoloModel" "its" "[J") (by decide +kernel)) (fun _ h9 => h9) rfl dX2_take_54 ?_
          refine lv_iload_n hx hb dX2_take_57 rfl (lv_at hl 3 rfl) ?_
          refine va_lald hx hb hK hP 1 1 rfl rfl (((hT.1 c_1).2 c_6).1 c_11).2.1 dX2_take_58 ?_
          have hFc := va_free (wc := [(y, .inr (4, [.int (j_stT (1 : Int32) (0 : Int32)), .ref n2, .int kn2, .int td])), (n2, .inl (cJ, 8, .inr (.inl g)))]) hD hS hA [0, 1] rfl
          refine k_go (va_runV (As := [.int a1, .long (g a2.toNatClampNeg)]) (rest := []) ⟨hx, hb, hml, hown, hts⟩ (cq_X2_set l D cB cJ _ y n2 (j_stT (1 : Int32) (0 : Int32)) g kn2 td hP (hD.weaken (fun _ _ _ _ => trivial)) a1 (g a2.toNatClampNeg) ((((hT.1 c_1).2 c_6).1 c_11).2.2.1 c_12).1) (cwV 2 hts gX2_take_X2_set rfl rfl rfl (by decide +kernel) ⟨(Nat.le_of_ble_eq_true rfl), (Nat.le_of_ble_eq_true rfl)⟩) (k_preV hE hS hFc (va_recv hK hP (ci := 4) (q0 := 0) rfl rfl)) rfl rfl hl.1 rfl (lv_room (Nat.le_of_ble_eq_true rfl)) dX2_take_59 ⟨(Nat.le_of_ble_eq_true rfl), (Nat.le_of_ble_eq_true rfl)⟩) hS (fun q _ h => hFc q h) hFc (fun v H locs hp hz hk hS => ?_)
          obtain ⟨rfl, hP1, hD1⟩ := hp
          (try dsimp only at hP1 hD1)
          have hP : va_P D vwCl [(y, .inr (4, [.int (j_stT (1 : Int32) (0 : Int32)), .ref n2, .int kn2, .int (td + 1)])), (n2, .inl (cJ, 8, .inr (.inl (vp_updL g a1.toNatClampNeg (g a2.toNatClampNeg)))))] H := hP1
          have hD : va_D A [(y, .inr (4, [.int (j_stT (1 : Int32) (0 : Int32)), .ref n2, .int kn2, .int (td + 1)])), (n2, .inl (cJ, 8, .inr (.inl (vp_updL g a1.toNatClampNeg (g a2.toNatClampNeg)))))] := hD1.weaken (fun _ q _ h => hFc q.1 h)
          refine W.eq (g2 := F0 m 62 ls [.int (j_X2_secondOf (g a2.toNatClampNeg))]) rfl ?_
          refine lv_pop hx hb dX2_take_62 rfl ?_
          refine lv_iload_n hx hb dX2_take_63 rfl (lv_at hl 0 rfl) ?_
          refine lv_if_eq (tgt := 71) hx hb dX2_take_64 (by decide) (fun c_13 => ?_) (fun c_13 => ?_)
          · refine lv_iconst (v := 0) hx hb dX2_take_71 (by decide) ?_
            exact k_iret hx hb hr hlocks hS dX2_take_72 ⟨by rw [hJ, if_pos c_1, if_neg c_6, if_pos c_11, if_pos c_12], by rw [hJ, if_pos c_1, if_neg c_6, if_pos c_11, if_pos c_12]; (try dsimp only); exact hP, by rw [hJ, if_pos c_1, if_neg c_6, if_pos c_11, if_pos c_12]; (try dsimp only); exact hD⟩
          · exact absurd (by decide) c_13
        · refine lv_iconst (v := 1) hx hb dX2_take_45 (by decide) ?_
          refine lv_goto (tgt := 50) hx hb dX2_take_46 (by decide) ?_
          refine lv_istore_n (lv' := [(3, .int 1), (0, .ref y), (1, .int a1), (2, .int a2)]) hx hb dX2_take_50 rfl hl (by decide) rfl (fun ls hl => ?_)
          refine lv_aload_n hx hb dX2_take_51 rfl (lv_at hl 1 rfl) ?_
          refine lv_iload_n hx hb dX2_take_52 rfl (lv_at hl 2 rfl) ?_
          refine lv_aload_n hx hb dX2_take_53 rfl (lv_at hl 1 rfl) ?_
          refine va_get (D := D) (ci := 4) (v := .ref n2) (C := RX2) (T := TX2) (N := 4) hx hb hts iw_X2_take_X2 hown hK hP 0 rfl rfl 1 (by decide) (hts (.fieldLink RX2 9 "ClocksoloModel" "its" "[J") (by decide +kernel)) (fun _ h9 => h9) rfl dX2_take_54 ?_
          refine lv_iload_n hx hb dX2_take_57 rfl (lv_at hl 3 rfl) ?_
          refine va_lald hx hb hK hP 1 1 rfl rfl (((hT.1 c_1).2 c_6).1 c_11).2.1 dX2_take_58 ?_
          have hFc := va_free (wc := [(y, .inr (4, [.int (j_stT (1 : Int32) (0 : Int32)), .ref n2, .int kn2, .int td])), (n2, .inl (cJ, 8, .inr (.inl g)))]) hD hS hA [0, 1] rfl
          refine k_go (va_runV (As := [.int a1, .long (g a2.toNatClampNeg)]) (rest := []) ⟨hx, hb, hml, hown, hts⟩ (cq_X2_set l D cB cJ _ y n2 (j_stT (1 : Int32) (0 : Int32)) g kn2 td hP (hD.weaken (fun _ _ _ _ => trivial)) a1 (g a2.toNatClampNeg) ((((hT.1 c_1).2 c_6).1 c_11).2.2.2 c_12).1) (cwV 2 hts gX2_take_X2_set rfl rfl rfl (by decide +kernel) ⟨(Nat.le_of_ble_eq_true rfl), (Nat.le_of_ble_eq_true rfl)⟩) (k_preV hE hS hFc (va_recv hK hP (ci := 4) (q0 := 0) rfl rfl)) rfl rfl hl.1 rfl (lv_room (Nat.le_of_ble_eq_true rfl)) dX2_take_59 ⟨(Nat.le_of_ble_eq_true rfl), (Nat.le_of_ble_eq_true rfl)⟩) hS (fun q _ h => hFc q h) hFc (fun v H locs hp hz hk hS => ?_)
          obtain ⟨rfl, hP1, hD1⟩ := hp
          (try dsimp only at hP1 hD1)
          have hP : va_P D vwCl [(y, .inr (4, [.int (j_stT (1 : Int32) (0 : Int32)), .ref n2, .int kn2, .int (td + 1)])), (n2, .inl (cJ, 8, .inr (.inl (vp_updL g a1.toNatClampNeg (g a2.toNatClampNeg)))))] H := hP1
          have hD : va_D A [(y, .inr (4, [.int (j_stT (1 : Int32) (0 : Int32)), .ref n2, .int kn2, .int (td + 1)])), (n2, .inl (cJ, 8, .inr (.inl (vp_updL g a1.toNatClampNeg (g a2.toNatClampNeg)))))] := hD1.weaken (fun _ q _ h => hFc q.1 h)
          refine W.eq (g2 := F0 m 62 ls [.int (j_X2_secondOf (g a2.toNatClampNeg))]) rfl ?_
          refine lv_pop hx hb dX2_take_62 rfl ?_
          refine lv_iload_n hx hb dX2_take_63 rfl (lv_at hl 0 rfl) ?_
          refine lv_if_eq (tgt := 71) hx hb dX2_take_64 (by decide) (fun c_14 => ?_) (fun c_14 => ?_)
          · exact absurd c_14 (by decide)
          · refine lv_iconst (v := 1) hx hb dX2_take_67 (by decide) ?_
            refine lv_goto (tgt := 72) hx hb dX2_take_68 (by decide) ?_
            exact k_iret hx hb hr hlocks hS dX2_take_72 ⟨by rw [hJ, if_pos c_1, if_neg c_6, if_pos c_11, if_neg c_12], by rw [hJ, if_pos c_1, if_neg c_6, if_pos c_11, if_neg c_12]; (try dsimp only); exact hP, by rw [hJ, if_pos c_1, if_neg c_6, if_pos c_11, if_neg c_12]; (try dsimp only); exact hD⟩
      · refine lv_iconst (v := 0) hx hb dX2_take_27 (by decide) ?_
        exact k_iret hx hb hr hlocks hS dX2_take_28 ⟨by rw [hJ, if_pos c_1, if_neg c_6, if_neg c_11], by rw [hJ, if_pos c_1, if_neg c_6, if_neg c_11]; (try dsimp only); exact hP, by rw [hJ, if_pos c_1, if_neg c_6, if_neg c_11]; (try dsimp only); exact hD⟩
abbrev rm_X2_with : Room := { frames := 2, cells := 0, slots := 0, locals := 44 }
theorem iw_X2_with_X2 : ∀ w ∈ wsX20, w ∈ wsX2_with := by decide +kernel
def j_X2_with (th : Int32) (g : Nat → Int64) (kn2 td : Int32) (a1 : Int32) (a2 : Int32) (a3 : Int32) : Int32 × Int32 × (Nat → Int64) × Int32 × Int32 := (if a2 = 0 then (if (j_X2_isIn a2 0 3) = 0 then (if (j_stR (j_X2_isNone a1) (1 : Int32)) = 0 then ((j_X2_part (g a1.toNatClampNeg) a2), (j_stT (j_X2_isNone a1) (1 : Int32)), (vp_updL g a1.toNatClampNeg ((g a1.toNatClampNeg) + (((a3 - (j_X2_part (g a1.toNatClampNeg) a2)).toInt64) * 3600000000000))), kn2, (td + 1)) else (0, (j_stT (j_X2_isNone a1) (1 : Int32)), g, kn2, td)) else (if (j_X2_isIn a3 0 23) = 0 then (if (j_stR (j_X2_isNone a1) (1 : Int32)) = 0 then ((j_X2_part (g a1.toNatClampNeg) a2), (j_stT (j_X2_isNone a1) (1 : Int32)), (vp_updL g a1.toNatClampNeg ((g a1.toNatClampNeg) + (((a3 - (j_X2_part (g a1.toNatClampNeg) a2)).toInt64) * 3600000000000))), kn2, (td + 1)) else (0, (j_stT (j_X2_isNone a1) (1 : Int32)), g, kn2, td)) else (if (j_stR (j_X2_isNone a1) (0 : Int32)) = 0 then ((j_X2_part (g a1.toNatClampNeg) a2), (j_stT (j_X2_isNone a1) (0 : Int32)), (vp_updL g a1.toNatClampNeg ((g a1.toNatClampNeg) + (((a3 - (j_X2_part (g a1.toNatClampNeg) a2)).toInt64) * 3600000000000))), kn2, (td + 1)) else (0, (j_stT (j_X2_isNone a1) (0 : Int32)), g, kn2, td)))) else (if a2 = 3 then (if (j_X2_isIn a2 0 3) = 0 then (if (j_stR (j_X2_isNone a1) (1 : Int32)) = 0 then (if a2 = 1 then ((j_X2_part (g a1.toNatClampNeg) a2), (j_stT (j_X2_isNone a1) (1 : Int32)), (vp_updL g a1.toNatClampNeg ((g a1.toNatClampNeg) + (((a3 - (j_X2_part (g a1.toNatClampNeg) a2)).toInt64) * 60000000000))), kn2, (td + 1)) else (if a2 = 2 then ((j_X2_part (g a1.toNatClampNeg) a2), (j_stT (j_X2_isNone a1) (1 : Int32)), (vp_updL g a1.toNatClampNeg ((g a1.toNatClampNeg) + (((a3 - (j_X2_part (g a1.toNatClampNeg) a2)).toInt64) * 1000000000))), kn2, (td + 1)) else ((j_X2_part (g a1.toNatClampNeg) a2), (j_stT (j_X2_isNone a1) (1 : Int32)), (vp_updL g a1.toNatClampNeg ((g a1.toNatClampNeg) + (((a3 - (j_X2_part (g a1.toNatClampNeg) a2)).toInt64) * 1))), kn2, (td + 1)))) else (0, (j_stT (j_X2_isNone a1) (1 : Int32)), g, kn2, td)) else (if (j_X2_isIn a3 0 999999999) = 0 then (if (j_stR (j_X2_isNone a1) (1 : Int32)) = 0 then (if a2 = 1 then ((j_X2_part (g a1.toNatClampNeg) a2), (j_stT (j_X2_isNone a1) (1 : Int32)), (vp_updL g a1.toNatClampNeg ((g a1.toNatClampNeg) + (((a3 - (j_X2_part (g a1.toNatClampNeg) a2)).toInt64) * 60000000000))), kn2, (td + 1)) else (if a2 = 2 then ((j_X2_part (g a1.toNatClampNeg) a2), (j_stT (j_X2_isNone a1) (1 : Int32)), (vp_updL g a1.toNatClampNeg ((g a1.toNatClampNeg) + (((a3 - (j_X2_part (g a1.toNatClampNeg) a2)).toInt64) * 1000000000))), kn2, (td + 1)) else ((j_X2_part (g a1.toNatClampNeg) a2), (j_stT (j_X2_isNone a1) (1 : Int32)), (vp_updL g a1.toNatClampNeg ((g a1.toNatClampNeg) + (((a3 - (j_X2_part (g a1.toNatClampNeg) a2)).toInt64) * 1))), kn2, (td + 1)))) else (0, (j_stT (j_X2_isNone a1) (1 : Int32)), g, kn2, td)) else (if (j_stR (j_X2_isNone a1) (0 : Int32)) = 0 then (if a2 = 1 then ((j_X2_part (g a1.toNatClampNeg) a2), (j_stT (j_X2_isNone a1) (0 : Int32)), (vp_updL g a1.toNatClampNeg ((g a1.toNatClampNeg) + (((a3 - (j_X2_part (g a1.toNatClampNeg) a2)).toInt64) * 60000000000))), kn2, (td + 1)) else (if a2 = 2 then ((j_X2_part (g a1.toNatClampNeg) a2), (j_stT (j_X2_isNone a1) (0 : Int32)), (vp_updL g a1.toNatClampNeg ((g a1.toNatClampNeg) + (((a3 - (j_X2_part (g a1.toNatClampNeg) a2)).toInt64) * 1000000000))), kn2, (td + 1)) else ((j_X2_part (g a1.toNatClampNeg) a2), (j_stT (j_X2_isNone a1) (0 : Int32)), (vp_updL g a1.toNatClampNeg ((g a1.toNatClampNeg) + (((a3 - (j_X2_part (g a1.toNatClampNeg) a2)).toInt64) * 1))), kn2, (td + 1)))) else (0, (j_stT (j_X2_isNone a1) (0 : Int32)), g, kn2, td)))) else (if (j_X2_isIn a2 0 3) = 0 then (if (j_stR (j_X2_isNone a1) (1 : Int32)) = 0 then (if a2 = 1 then ((j_X2_part (g a1.toNatClampNeg) a2), (j_stT (j_X2_isNone a1) (1 : Int32)), (vp_updL g a1.toNatClampNeg ((g a1.toNatClampNeg) + (((a3 - (j_X2_part (g a1.toNatClampNeg) a2)).toInt64) * 60000000000))), kn2, (td + 1)) else (if a2 = 2 then ((j_X2_part (g a1.toNatClampNeg) a2), (j_stT (j_X2_isNone a1) (1 : Int32)), (vp_updL g a1.toNatClampNeg ((g a1.toNatClampNeg) + (((a3 - (j_X2_part (g a1.toNatClampNeg) a2)).toInt64) * 1000000000))), kn2, (td + 1)) else ((j_X2_part (g a1.toNatClampNeg) a2), (j_stT (j_X2_isNone a1) (1 : Int32)), (vp_updL g a1.toNatClampNeg ((g a1.toNatClampNeg) + (((a3 - (j_X2_part (g a1.toNatClampNeg) a2)).toInt64) * 1))), kn2, (td + 1)))) else (0, (j_stT (j_X2_isNone a1) (1 : Int32)), g, kn2, td)) else (if (j_X2_isIn a3 0 59) = 0 then (if (j_stR (j_X2_isNone a1) (1 : Int32)) = 0 then (if a2 = 1 then ((j_X2_part (g a1.toNatClampNeg) a2), (j_stT (j_X2_isNone a1) (1 : Int32)), (vp_updL g a1.toNatClampNeg ((g a1.toNatClampNeg) + (((a3 - (j_X2_part (g a1.toNatClampNeg) a2)).toInt64) * 60000000000))), kn2, (td + 1)) else (if a2 = 2 then ((j_X2_part (g a1.toNatClampNeg) a2), (j_stT (j_X2_isNone a1) (1 : Int32)), (vp_updL g a1.toNatClampNeg ((g a1.toNatClampNeg) + (((a3 - (j_X2_part (g a1.toNatClampNeg) a2)).toInt64) * 1000000000))), kn2, (td + 1)) else ((j_X2_part (g a1.toNatClampNeg) a2), (j_stT (j_X2_isNone a1) (1 : Int32)), (vp_updL g a1.toNatClampNeg ((g a1.toNatClampNeg) + (((a3 - (j_X2_part (g a1.toNatClampNeg) a2)).toInt64) * 1))), kn2, (td + 1)))) else (0, (j_stT (j_X2_isNone a1) (1 : Int32)), g, kn2, td)) else (if (j_stR (j_X2_isNone a1) (0 : Int32)) = 0 then (if a2 = 1 then ((j_X2_part (g a1.toNatClampNeg) a2), (j_stT (j_X2_isNone a1) (0 : Int32)), (vp_updL g a1.toNatClampNeg ((g a1.toNatClampNeg) + (((a3 - (j_X2_part (g a1.toNatClampNeg) a2)).toInt64) * 60000000000))), kn2, (td + 1)) else (if a2 = 2 then ((j_X2_part (g a1.toNatClampNeg) a2), (j_stT (j_X2_isNone a1) (0 : Int32)), (vp_updL g a1.toNatClampNeg ((g a1.toNatClampNeg) + (((a3 - (j_X2_part (g a1.toNatClampNeg) a2)).toInt64) * 1000000000))), kn2, (td + 1)) else ((j_X2_part (g a1.toNatClampNeg) a2), (j_stT (j_X2_isNone a1) (0 : Int32)), (vp_updL g a1.toNatClampNeg ((g a1.toNatClampNeg) + (((a3 - (j_X2_part (g a1.toNatClampNeg) a2)).toInt64) * 1))), kn2, (td + 1)))) else (0, (j_stT (j_X2_isNone a1) (0 : Int32)), g, kn2, td))))))
def T_X2_with (th : Int32) (g : Nat → Int64) (kn2 td : Int32) (a1 : Int32) (a2 : Int32) (a3 : Int32) : Prop := ((a2 = 0 → (((j_X2_isIn a2 0 3) = 0 → (((j_stR (j_X2_isNone a1) (1 : Int32)) = 0 → (vp_in a1 8 ∧ (T_X2_set (j_stT (j_X2_isNone a1) (1 : Int32)) g kn2 td a1 ((g a1.toNatClampNeg) + (((a3 - (j_X2_part (g a1.toNatClampNeg) a2)).toInt64) * 3600000000000)) ∧ True))) ∧ (¬ ((j_stR (j_X2_isNone a1) (1 : Int32)) = 0) → True))) ∧ (¬ ((j_X2_isIn a2 0 3) = 0) → (((j_X2_isIn a3 0 23) = 0 → (((j_stR (j_X2_isNone a1) (1 : Int32)) = 0 → (vp_in a1 8 ∧ (T_X2_set (j_stT (j_X2_isNone a1) (1 : Int32)) g kn2 td a1 ((g a1.toNatClampNeg) + (((a3 - (j_X2_part (g a1.toNatClampNeg) a2)).toInt64) * 3600000000000)) ∧ True))) ∧ (¬ ((j_stR (j_X2_isNone a1) (1 : Int32)) = 0) → True))) ∧ (¬ ((j_X2_isIn a3 0 23) = 0) → (((j_stR (j_X2_isNone a1) (0 : Int32)) = 0 → (vp_in a1 8 ∧ (T_X2_set (j_stT (j_X2_isNone a1) (0 : Int32)) g kn2 td a1 ((g a1.toNatClampNeg) + (((a3 - (j_X2_part (g a1.toNatClampNeg) a2)).toInt64) * 3600000000000)) ∧ True))) ∧ (¬ ((j_stR (j_X2_isNone a1) (0 : Int32)) = 0) → True))))))) ∧ (¬ (a2 = 0) → ((a2 = 3 → (((j_X2_isIn a2 0 3) = 0 → (((j_stR (j_X2_isNone a1) (1 : Int32)) = 0 → (vp_in a1 8 ∧ ((a2 = 1 → (T_X2_set (j_stT (j_X2_isNone a1) (1 : Int32)) g kn2 td a1 ((g a1.toNatClampNeg) + (((a3 - (j_X2_part (g a1.toNatClampNeg) a2)).toInt64) * 60000000000)) ∧ True)) ∧ (¬ (a2 = 1) → ((a2 = 2 → (T_X2_set (j_stT (j_X2_isNone a1) (1 : Int32)) g kn2 td a1 ((g a1.toNatClampNeg) + (((a3 - (j_X2_part (g a1.toNatClampNeg) a2)).toInt64) * 1000000000)) ∧ True)) ∧ (¬ (a2 = 2) → (T_X2_set (j_stT (j_X2_isNone a1) (1 : Int32)) g kn2 td a1 ((g a1.toNatClampNeg) + (((a3 - (j_X2_part (g a1.toNatClampNeg) a2)).toInt64) * 1)) ∧ True))))))) ∧ (¬ ((j_stR (j_X2_isNone a1) (1 : Int32)) = 0) → True))) ∧ (¬ ((j_X2_isIn a2 0 3) = 0) → (((j_X2_isIn a3 0 999999999) = 0 → (((j_stR (j_X2_isNone a1) (1 : Int32)) = 0 → (vp_in a1 8 ∧ ((a2 = 1 → (T_X2_set (j_stT (j_X2_isNone a1) (1 : Int32)) g kn2 td a1 ((g a1.toNatClampNeg) + (((a3 - (j_X2_part (g a1.toNatClampNeg) a2)).toInt64) * 60000000000)) ∧ True)) ∧ (¬ (a2 = 1) → ((a2 = 2 → (T_X2_set (j_stT (j_X2_isNone a1) (1 : Int32)) g kn2 td a1 ((g a1.toNatClampNeg) + (((a3 - (j_X2_part (g a1.toNatClampNeg) a2)).toInt64) * 1000000000)) ∧ True)) ∧ (¬ (a2 = 2) → (T_X2_set (j_stT (j_X2_isNone a1) (1 : Int32)) g kn2 td a1 ((g a1.toNatClampNeg) + (((a3 - (j_X2_part (g a1.toNatClampNeg) a2)).toInt64) * 1)) ∧ True))))))) ∧ (¬ ((j_stR (j_X2_isNone a1) (1 : Int32)) = 0) → True))) ∧ (¬ ((j_X2_isIn a3 0 999999999) = 0) → (((j_stR (j_X2_isNone a1) (0 : Int32)) = 0 → (vp_in a1 8 ∧ ((a2 = 1 → (T_X2_set (j_stT (j_X2_isNone a1) (0 : Int32)) g kn2 td a1 ((g a1.toNatClampNeg) + (((a3 - (j_X2_part (g a1.toNatClampNeg) a2)).toInt64) * 60000000000)) ∧ True)) ∧ (¬ (a2 = 1) → ((a2 = 2 → (T_X2_set (j_stT (j_X2_isNone a1) (0 : Int32)) g kn2 td a1 ((g a1.toNatClampNeg) + (((a3 - (j_X2_part (g a1.toNatClampNeg) a2)).toInt64) * 1000000000)) ∧ True)) ∧ (¬ (a2 = 2) → (T_X2_set (j_stT (j_X2_isNone a1) (0 : Int32)) g kn2 td a1 ((g a1.toNatClampNeg) + (((a3 - (j_X2_part (g a1.toNatClampNeg) a2)).toInt64) * 1)) ∧ True))))))) ∧ (¬ ((j_stR (j_X2_isNone a1) (0 : Int32)) = 0) → True))))))) ∧ (¬ (a2 = 3) → (((j_X2_isIn a2 0 3) = 0 → (((j_stR (j_X2_isNone a1) (1 : Int32)) = 0 → (vp_in a1 8 ∧ ((a2 = 1 → (T_X2_set (j_stT (j_X2_isNone a1) (1 : Int32)) g kn2 td a1 ((g a1.toNatClampNeg) + (((a3 - (j_X2_part (g a1.toNatClampNeg) a2)).toInt64) * 60000000000)) ∧ True)) ∧ (¬ (a2 = 1) → ((a2 = 2 → (T_X2_set (j_stT (j_X2_isNone a1) (1 : Int32)) g kn2 td a1 ((g a1.toNatClampNeg) + (((a3 - (j_X2_part (g a1.toNatClampNeg) a2)).toInt64) * 1000000000)) ∧ True)) ∧ (¬ (a2 = 2) → (T_X2_set (j_stT (j_X2_isNone a1) (1 : Int32)) g kn2 td a1 ((g a1.toNatClampNeg) + (((a3 - (j_X2_part (g a1.toNatClampNeg) a2)).toInt64) * 1)) ∧ True))))))) ∧ (¬ ((j_stR (j_X2_isNone a1) (1 : Int32)) = 0) → True))) ∧ (¬ ((j_X2_isIn a2 0 3) = 0) → (((j_X2_isIn a3 0 59) = 0 → (((j_stR (j_X2_isNone a1) (1 : Int32)) = 0 → (vp_in a1 8 ∧ ((a2 = 1 → (T_X2_set (j_stT (j_X2_isNone a1) (1 : Int32)) g kn2 td a1 ((g a1.toNatClampNeg) + (((a3 - (j_X2_part (g a1.toNatClampNeg) a2)).toInt64) * 60000000000)) ∧ True)) ∧ (¬ (a2 = 1) → ((a2 = 2 → (T_X2_set (j_stT (j_X2_isNone a1) (1 : Int32)) g kn2 td a1 ((g a1.toNatClampNeg) + (((a3 - (j_X2_part (g a1.toNatClampNeg) a2)).toInt64) * 1000000000)) ∧ True)) ∧ (¬ (a2 = 2) → (T_X2_set (j_stT (j_X2_isNone a1) (1 : Int32)) g kn2 td a1 ((g a1.toNatClampNeg) + (((a3 - (j_X2_part (g a1.toNatClampNeg) a2)).toInt64) * 1)) ∧ True))))))) ∧ (¬ ((j_stR (j_X2_isNone a1) (1 : Int32)) = 0) → True))) ∧ (¬ ((j_X2_isIn a3 0 59) = 0) → (((j_stR (j_X2_isNone a1) (0 : Int32)) = 0 → (vp_in a1 8 ∧ ((a2 = 1 → (T_X2_set (j_stT (j_X2_isNone a1) (0 : Int32)) g kn2 td a1 ((g a1.toNatClampNeg) + (((a3 - (j_X2_part (g a1.toNatClampNeg) a2)).toInt64) * 60000000000)) ∧ True)) ∧ (¬ (a2 = 1) → ((a2 = 2 → (T_X2_set (j_stT (j_X2_isNone a1) (0 : Int32)) g kn2 td a1 ((g a1.toNatClampNeg) + (((a3 - (j_X2_part (g a1.toNatClampNeg) a2)).toInt64) * 1000000000)) ∧ True)) ∧ (¬ (a2 = 2) → (T_X2_set (j_stT (j_X2_isNone a1) (0 : Int32)) g kn2 td a1 ((g a1.toNatClampNeg) + (((a3 - (j_X2_part (g a1.toNatClampNeg) a2)).toInt64) * 1)) ∧ True))))))) ∧ (¬ ((j_stR (j_X2_isNone a1) (0 : Int32)) = 0) → True))))))))))
set_option maxHeartbeats 4000000 in
set_option maxRecDepth 100000 in
theorem c_X2_with (l : Launch) (D : va_G) (cB cJ : ClassId) (Hp : Heap) (y n2 : Nat) (th : Int32) (g : Nat → Int64) (kn2 td : Int32) (hP : va_P D vwCl (wMo y n2 cJ th g kn2 td) Hp) (hD9 : va_D (fun _ => True) (wMo y n2 cJ th g kn2 td)) (a1 : Int32) (a2 : Int32) (a3 : Int32) (hT9 : T_X2_with th g kn2 td a1 a2 a3) : kM l D cB cJ yX2_with wsX2_with rm_X2_with (va_A (wMo y n2 cJ th g kn2 td) Hp.size) Hp [.ref y, .int a1, .int a2, .int a3] (kPm D y n2 cJ (va_A (wMo y n2 cJ th g kn2 td) Hp.size) (j_X2_with th g kn2 td a1 a2 a3)) 0 0 := by
  refine Met.ofW (cc := cX2_with) (maxL := 8) (ret := (some .int)) (by decide) rfl ?_
  intro p e s m args below meth c s₁ B hml hv
  obtain ⟨rfl, hHp, hE⟩ := hv
  subst hHp
  have hx := B.exec
  have hb := B.bytes
  have hr := B.returns
  have hts := atoms_spec (ws := wsX2_with) B.pre
  have hown : s.vm.findClass RX2 = some m.cls := findClass_of_methodNamed B.named
  have hlocks := B.notSynchronized
  have hK := hE.1
  have hD := hD9.self (sz := s.heap.size)
  generalize hAe : va_A (wMo y n2 cJ th g kn2 td) s.heap.size = A at hE hD ⊢
  have hA : ∀ q : Nat, s.heap.size ≤ q → A q := fun q h => by rw [← hAe]; exact Or.inr h
  have hS : va_S A s.heap s.heap [] := va_S.rf
  have hl := lv_entry ([.ref y, .int a1, .int a2, .int a3]) (n := 8) (Nat.le_of_ble_eq_true rfl)
  rw [lg_entry_eq]
  generalize (lg_sl ([.ref y, .int a1, .int a2, .int a3]) ++ List.replicate (8 - (lg_sl ([.ref y, .int a1, .int a2, .int a3])).length) Slot.unset).toArray = ls at hl ⊢
  have hl : lv_has ls 8 [(0, .ref y), (1, .int a1), (2, .int a2), (3, .int a3)] := hl
  have hJ : (j_X2_with th g kn2 td a1 a2 a3) = (if a2 = 0 then (if (j_X2_isIn a2 0 3) = 0 then (if (j_stR (j_X2_isNone a1) (1 : Int32)) = 0 then ((j_X2_part (g a1.toNatClampNeg) a2), (j_stT (j_X2_isNone a1) (1 : Int32)), (vp_updL g a1.toNatClampNeg ((g a1.toNatClampNeg) + (((a3 - (j_X2_part (g a1.toNatClampNeg) a2)).toInt64) * 3600000000000))), kn2, (td + 1)) else (0, (j_stT (j_X2_isNone a1) (1 : Int32)), g, kn2, td)) else (if (j_X2_isIn a3 0 23) = 0 then (if (j_stR (j_X2_isNone a1) (1 : Int32)) = 0 then ((j_X2_part (g a1.toNatClampNeg) a2), (j_stT (j_X2_isNone a1) (1 : Int32)), (vp_updL g a1.toNatClampNeg ((g a1.toNatClampNeg) + (((a3 - (j_X2_part (g a1.toNatClampNeg) a2)).toInt64) * 3600000000000))), kn2, (td + 1)) else (0, (j_stT (j_X2_isNone a1) (1 : Int32)), g, kn2, td)) else (if (j_stR (j_X2_isNone a1) (0 : Int32)) = 0 then ((j_X2_part (g a1.toNatClampNeg) a2), (j_stT (j_X2_isNone a1) (0 : Int32)), (vp_updL g a1.toNatClampNeg ((g a1.toNatClampNeg) + (((a3 - (j_X2_part (g a1.toNatClampNeg) a2)).toInt64) * 3600000000000))), kn2, (td + 1)) else (0, (j_stT (j_X2_isNone a1) (0 : Int32)), g, kn2, td)))) else (if a2 = 3 then (if (j_X2_isIn a2 0 3) = 0 then (if (j_stR (j_X2_isNone a1) (1 : Int32)) = 0 then (if a2 = 1 then ((j_X2_part (g a1.toNatClampNeg) a2), (j_stT (j_X2_isNone a1) (1 : Int32)), (vp_updL g a1.toNatClampNeg ((g a1.toNatClampNeg) + (((a3 - (j_X2_part (g a1.toNatClampNeg) a2)).toInt64) * 60000000000))), kn2, (td + 1)) else (if a2 = 2 then ((j_X2_part (g a1.toNatClampNeg) a2), (j_stT (j_X2_isNone a1) (1 : Int32)), (vp_updL g a1.toNatClampNeg ((g a1.toNatClampNeg) + (((a3 - (j_X2_part (g a1.toNatClampNeg) a2)).toInt64) * 1000000000))), kn2, (td + 1)) else ((j_X2_part (g a1.toNatClampNeg) a2), (j_stT (j_X2_isNone a1) (1 : Int32)), (vp_updL g a1.toNatClampNeg ((g a1.toNatClampNeg) + (((a3 - (j_X2_part (g a1.toNatClampNeg) a2)).toInt64) * 1))), kn2, (td + 1)))) else (0, (j_stT (j_X2_isNone a1) (1 : Int32)), g, kn2, td)) else (if (j_X2_isIn a3 0 999999999) = 0 then (if (j_stR (j_X2_isNone a1) (1 : Int32)) = 0 then (if a2 = 1 then ((j_X2_part (g a1.toNatClampNeg) a2), (j_stT (j_X2_isNone a1) (1 : Int32)), (vp_updL g a1.toNatClampNeg ((g a1.toNatClampNeg) + (((a3 - (j_X2_part (g a1.toNatClampNeg) a2)).toInt64) * 60000000000))), kn2, (td + 1)) else (if a2 = 2 then ((j_X2_part (g a1.toNatClampNeg) a2), (j_stT (j_X2_isNone a1) (1 : Int32)), (vp_updL g a1.toNatClampNeg ((g a1.toNatClampNeg) + (((a3 - (j_X2_part (g a1.toNatClampNeg) a2)).toInt64) * 1000000000))), kn2, (td + 1)) else ((j_X2_part (g a1.toNatClampNeg) a2), (j_stT (j_X2_isNone a1) (1 : Int32)), (vp_updL g a1.toNatClampNeg ((g a1.toNatClampNeg) + (((a3 - (j_X2_part (g a1.toNatClampNeg) a2)).toInt64) * 1))), kn2, (td + 1)))) else (0, (j_stT (j_X2_isNone a1) (1 : Int32)), g, kn2, td)) else (if (j_stR (j_X2_isNone a1) (0 : Int32)) = 0 then (if a2 = 1 then ((j_X2_part (g a1.toNatClampNeg) a2), (j_stT (j_X2_isNone a1) (0 : Int32)), (vp_updL g a1.toNatClampNeg ((g a1.toNatClampNeg) + (((a3 - (j_X2_part (g a1.toNatClampNeg) a2)).toInt64) * 60000000000))), kn2, (td + 1)) else (if a2 = 2 then ((j_X2_part (g a1.toNatClampNeg) a2), (j_stT (j_X2_isNone a1) (0 : Int32)), (vp_updL g a1.toNatClampNeg ((g a1.toNatClampNeg) + (((a3 - (j_X2_part (g a1.toNatClampNeg) a2)).toInt64) * 1000000000))), kn2, (td + 1)) else ((j_X2_part (g a1.toNatClampNeg) a2), (j_stT (j_X2_isNone a1) (0 : Int32)), (vp_updL g a1.toNatClampNeg ((g a1.toNatClampNeg) + (((a3 - (j_X2_part (g a1.toNatClampNeg) a2)).toInt64) * 1))), kn2, (td + 1)))) else (0, (j_stT (j_X2_isNone a1) (0 : Int32)), g, kn2, td)))) else (if (j_X2_isIn a2 0 3) = 0 then (if (j_stR (j_X2_isNone a1) (1 : Int32)) = 0 then (if a2 = 1 then ((j_X2_part (g a1.toNatClampNeg) a2), (j_stT (j_X2_isNone a1) (1 : Int32)), (vp_updL g a1.toNatClampNeg ((g a1.toNatClampNeg) + (((a3 - (j_X2_part (g a1.toNatClampNeg) a2)).toInt64) * 60000000000))), kn2, (td + 1)) else (if a2 = 2 then ((j_X2_part (g a1.toNatClampNeg) a2), (j_stT (j_X2_isNone a1) (1 : Int32)), (vp_updL g a1.toNatClampNeg ((g a1.toNatClampNeg) + (((a3 - (j_X2_part (g a1.toNatClampNeg) a2)).toInt64) * 1000000000))), kn2, (td + 1)) else ((j_X2_part (g a1.toNatClampNeg) a2), (j_stT (j_X2_isNone a1) (1 : Int32)), (vp_updL g a1.toNatClampNeg ((g a1.toNatClampNeg) + (((a3 - (j_X2_part (g a1.toNatClampNeg) a2)).toInt64) * 1))), kn2, (td + 1)))) else (0, (j_stT (j_X2_isNone a1) (1 : Int32)), g, kn2, td)) else (if (j_X2_isIn a3 0 59) = 0 then (if (j_stR (j_X2_isNone a1) (1 : Int32)) = 0 then (if a2 = 1 then ((j_X2_part (g a1.toNatClampNeg) a2), (j_stT (j_X2_isNone a1) (1 : Int32)), (vp_updL g a1.toNatClampNeg ((g a1.toNatClampNeg) + (((a3 - (j_X2_part (g a1.toNatClampNeg) a2)).toInt64) * 60000000000))), kn2, (td + 1)) else (if a2 = 2 then ((j_X2_part (g a1.toNatClampNeg) a2), (j_stT (j_X2_isNone a1) (1 : Int32)), (vp_updL g a1.toNatClampNeg ((g a1.toNatClampNeg) + (((a3 - (j_X2_part (g a1.toNatClampNeg) a2)).toInt64) * 1000000000))), kn2, (td + 1)) else ((j_X2_part (g a1.toNatClampNeg) a2), (j_stT (j_X2_isNone a1) (1 : Int32)), (vp_updL g a1.toNatClampNeg ((g a1.toNatClampNeg) + (((a3 - (j_X2_part (g a1.toNatClampNeg) a2)).toInt64) * 1))), kn2, (td + 1)))) else (0, (j_stT (j_X2_isNone a1) (1 : Int32)), g, kn2, td)) else (if (j_stR (j_X2_isNone a1) (0 : Int32)) = 0 then (if a2 = 1 then ((j_X2_part (g a1.toNatClampNeg) a2), (j_stT (j_X2_isNone a1) (0 : Int32)), (vp_updL g a1.toNatClampNeg ((g a1.toNatClampNeg) + (((a3 - (j_X2_part (g a1.toNatClampNeg) a2)).toInt64) * 60000000000))), kn2, (td + 1)) else (if a2 = 2 then ((j_X2_part (g a1.toNatClampNeg) a2), (j_stT (j_X2_isNone a1) (0 : Int32)), (vp_updL g a1.toNatClampNeg ((g a1.toNatClampNeg) + (((a3 - (j_X2_part (g a1.toNatClampNeg) a2)).toInt64) * 1000000000))), kn2, (td + 1)) else ((j_X2_part (g a1.toNatClampNeg) a2), (j_stT (j_X2_isNone a1) (0 : Int32)), (vp_updL g a1.toNatClampNeg ((g a1.toNatClampNeg) + (((a3 - (j_X2_part (g a1.toNatClampNeg) a2)).toInt64) * 1))), kn2, (td + 1)))) else (0, (j_stT (j_X2_isNone a1) (0 : Int32)), g, kn2, td)))))) := rfl
  have hT : ((a2 = 0 → (((j_X2_isIn a2 0 3) = 0 → (((j_stR (j_X2_isNone a1) (1 : Int32)) = 0 → (vp_in a1 8 ∧ (T_X2_set (j_stT (j_X2_isNone a1) (1 : Int32)) g kn2 td a1 ((g a1.toNatClampNeg) + (((a3 - (j_X2_part (g a1.toNatClampNeg) a2)).toInt64) * 3600000000000)) ∧ True))) ∧ (¬ ((j_stR (j_X2_isNone a1) (1 : Int32)) = 0) → True))) ∧ (¬ ((j_X2_isIn a2 0 3) = 0) → (((j_X2_isIn a3 0 23) = 0 → (((j_stR (j_X2_isNone a1) (1 : Int32)) = 0 → (vp_in a1 8 ∧ (T_X2_set (j_stT (j_X2_isNone a1) (1 : Int32)) g kn2 td a1 ((g a1.toNatClampNeg) + (((a3 - (j_X2_part (g a1.toNatClampNeg) a2)).toInt64) * 3600000000000)) ∧ True))) ∧ (¬ ((j_stR (j_X2_isNone a1) (1 : Int32)) = 0) → True))) ∧ (¬ ((j_X2_isIn a3 0 23) = 0) → (((j_stR (j_X2_isNone a1) (0 : Int32)) = 0 → (vp_in a1 8 ∧ (T_X2_set (j_stT (j_X2_isNone a1) (0 : Int32)) g kn2 td a1 ((g a1.toNatClampNeg) + (((a3 - (j_X2_part (g a1.toNatClampNeg) a2)).toInt64) * 3600000000000)) ∧ True))) ∧ (¬ ((j_stR (j_X2_isNone a1) (0 : Int32)) = 0) → True))))))) ∧ (¬ (a2 = 0) → ((a2 = 3 → (((j_X2_isIn a2 0 3) = 0 → (((j_stR (j_X2_isNone a1) (1 : Int32)) = 0 → (vp_in a1 8 ∧ ((a2 = 1 → (T_X2_set (j_stT (j_X2_isNone a1) (1 : Int32)) g kn2 td a1 ((g a1.toNatClampNeg) + (((a3 - (j_X2_part (g a1.toNatClampNeg) a2)).toInt64) * 60000000000)) ∧ True)) ∧ (¬ (a2 = 1) → ((a2 = 2 → (T_X2_set (j_stT (j_X2_isNone a1) (1 : Int32)) g kn2 td a1 ((g a1.toNatClampNeg) + (((a3 - (j_X2_part (g a1.toNatClampNeg) a2)).toInt64) * 1000000000)) ∧ True)) ∧ (¬ (a2 = 2) → (T_X2_set (j_stT (j_X2_isNone a1) (1 : Int32)) g kn2 td a1 ((g a1.toNatClampNeg) + (((a3 - (j_X2_part (g a1.toNatClampNeg) a2)).toInt64) * 1)) ∧ True))))))) ∧ (¬ ((j_stR (j_X2_isNone a1) (1 : Int32)) = 0) → True))) ∧ (¬ ((j_X2_isIn a2 0 3) = 0) → (((j_X2_isIn a3 0 999999999) = 0 → (((j_stR (j_X2_isNone a1) (1 : Int32)) = 0 → (vp_in a1 8 ∧ ((a2 = 1 → (T_X2_set (j_stT (j_X2_isNone a1) (1 : Int32)) g kn2 td a1 ((g a1.toNatClampNeg) + (((a3 - (j_X2_part (g a1.toNatClampNeg) a2)).toInt64) * 60000000000)) ∧ True)) ∧ (¬ (a2 = 1) → ((a2 = 2 → (T_X2_set (j_stT (j_X2_isNone a1) (1 : Int32)) g kn2 td a1 ((g a1.toNatClampNeg) + (((a3 - (j_X2_part (g a1.toNatClampNeg) a2)).toInt64) * 1000000000)) ∧ True)) ∧ (¬ (a2 = 2) → (T_X2_set (j_stT (j_X2_isNone a1) (1 : Int32)) g kn2 td a1 ((g a1.toNatClampNeg) + (((a3 - (j_X2_part (g a1.toNatClampNeg) a2)).toInt64) * 1)) ∧ True))))))) ∧ (¬ ((j_stR (j_X2_isNone a1) (1 : Int32)) = 0) → True))) ∧ (¬ ((j_X2_isIn a3 0 999999999) = 0) → (((j_stR (j_X2_isNone a1) (0 : Int32)) = 0 → (vp_in a1 8 ∧ ((a2 = 1 → (T_X2_set (j_stT (j_X2_isNone a1) (0 : Int32)) g kn2 td a1 ((g a1.toNatClampNeg) + (((a3 - (j_X2_part (g a1.toNatClampNeg) a2)).toInt64) * 60000000000)) ∧ True)) ∧ (¬ (a2 = 1) → ((a2 = 2 → (T_X2_set (j_stT (j_X2_isNone a1) (0 : Int32)) g kn2 td a1 ((g a1.toNatClampNeg) + (((a3 - (j_X2_part (g a1.toNatClampNeg) a2)).toInt64) * 1000000000)) ∧ True)) ∧ (¬ (a2 = 2) → (T_X2_set (j_stT (j_X2_isNone a1) (0 : Int32)) g kn2 td a1 ((g a1.toNatClampNeg) + (((a3 - (j_X2_part (g a1.toNatClampNeg) a2)).toInt64) * 1)) ∧ True))))))) ∧ (¬ ((j_stR (j_X2_isNone a1) (0 : Int32)) = 0) → True))))))) ∧ (¬ (a2 = 3) → (((j_X2_isIn a2 0 3) = 0 → (((j_stR (j_X2_isNone a1) (1 : Int32)) = 0 → (vp_in a1 8 ∧ ((a2 = 1 → (T_X2_set (j_stT (j_X2_isNone a1) (1 : Int32)) g kn2 td a1 ((g a1.toNatClampNeg) + (((a3 - (j_X2_part (g a1.toNatClampNeg) a2)).toInt64) * 60000000000)) ∧ True)) ∧ (¬ (a2 = 1) → ((a2 = 2 → (T_X2_set (j_stT (j_X2_isNone a1) (1 : Int32)) g kn2 td a1 ((g a1.toNatClampNeg) + (((a3 - (j_X2_part (g a1.toNatClampNeg) a2)).toInt64) * 1000000000)) ∧ True)) ∧ (¬ (a2 = 2) → (T_X2_set (j_stT (j_X2_isNone a1) (1 : Int32)) g kn2 td a1 ((g a1.toNatClampNeg) + (((a3 - (j_X2_part (g a1.toNatClampNeg) a2)).toInt64) * 1)) ∧ True))))))) ∧ (¬ ((j_stR (j_X2_isNone a1) (1 : Int32)) = 0) → True))) ∧ (¬ ((j_X2_isIn a2 0 3) = 0) → (((j_X2_isIn a3 0 59) = 0 → (((j_stR (j_X2_isNone a1) (1 : Int32)) = 0 → (vp_in a1 8 ∧ ((a2 = 1 → (T_X2_set (j_stT (j_X2_isNone a1) (1 : Int32)) g kn2 td a1 ((g a1.toNatClampNeg) + (((a3 - (j_X2_part (g a1.toNatClampNeg) a2)).toInt64) * 60000000000)) ∧ True)) ∧ (¬ (a2 = 1) → ((a2 = 2 → (T_X2_set (j_stT (j_X2_isNone a1) (1 : Int32)) g kn2 td a1 ((g a1.toNatClampNeg) + (((a3 - (j_X2_part (g a1.toNatClampNeg) a2)).toInt64) * 1000000000)) ∧ True)) ∧ (¬ (a2 = 2) → (T_X2_set (j_stT (j_X2_isNone a1) (1 : Int32)) g kn2 td a1 ((g a1.toNatClampNeg) + (((a3 - (j_X2_part (g a1.toNatClampNeg) a2)).toInt64) * 1)) ∧ True))))))) ∧ (¬ ((j_stR (j_X2_isNone a1) (1 : Int32)) = 0) → True))) ∧ (¬ ((j_X2_isIn a3 0 59) = 0) → (((j_stR (j_X2_isNone a1) (0 : Int32)) = 0 → (vp_in a1 8 ∧ ((a2 = 1 → (T_X2_set (j_stT (j_X2_isNone a1) (0 : Int32)) g kn2 td a1 ((g a1.toNatClampNeg) + (((a3 - (j_X2_part (g a1.toNatClampNeg) a2)).toInt64) * 60000000000)) ∧ True)) ∧ (¬ (a2 = 1) → ((a2 = 2 → (T_X2_set (j_stT (j_X2_isNone a1) (0 : Int32)) g kn2 td a1 ((g a1.toNatClampNeg) + (((a3 - (j_X2_part (g a1.toNatClampNeg) a2)).toInt64) * 1000000000)) ∧ True)) ∧ (¬ (a2 = 2) → (T_X2_set (j_stT (j_X2_isNone a1) (0 : Int32)) g kn2 td a1 ((g a1.toNatClampNeg) + (((a3 - (j_X2_part (g a1.toNatClampNeg) a2)).toInt64) * 1)) ∧ True))))))) ∧ (¬ ((j_stR (j_X2_isNone a1) (0 : Int32)) = 0) → True)))))))))) := hT9
  refine lv_iload_n hx hb dX2_with_0 rfl (lv_at hl 2 rfl) ?_
  refine lv_if_ne (tgt := 9) hx hb dX2_with_1 (by decide) (fun c_1 => ?_) (fun c_1 => ?_)
  · refine lv_iload_n hx hb dX2_with_9 rfl (lv_at hl 2 rfl) ?_
    refine lv_iconst (v := 3) hx hb dX2_with_10 (by decide) ?_
    refine lv_icmp_ne (tgt := 19) hx hb dX2_with_11 (by decide) (fun c_2 => ?_) (fun c_2 => ?_)
    · refine lv_bipush (v := 59) hx hb dX2_with_19 (by decide) ?_
      refine lv_istore (lv' := [(4, .int 59), (0, .ref y), (1, .int a1), (2, .int a2), (3, .int a3)]) hx hb dX2_with_21 hl (by decide) rfl (fun ls hl => ?_)
      refine lv_aload_n hx hb dX2_with_23 rfl (lv_at hl 1 rfl) ?_
      refine lv_iload_n hx hb dX2_with_24 rfl (lv_at hl 2 rfl) ?_
      refine k_pS [.int a1] (rest := [.ref y]) ⟨hx, hb, hml, hown, hts⟩ (c_X2_isNone l D cB cJ _ a1) (va_cwS 1 hts gX2_with_X2_isNone rfl rfl rfl (by decide +kernel) ⟨(Nat.le_of_ble_eq_true rfl), (Nat.le_of_ble_eq_true rfl)⟩) hE hS rfl rfl hl.1 (Nat.le_of_ble_eq_true rfl) dX2_with_25 ⟨(Nat.le_of_ble_eq_true rfl), (Nat.le_of_ble_eq_true rfl)⟩ (fun locs hS => ?_)
      refine W.eq (g2 := F0 m 28 ls [.int (j_X2_isNone a1), .ref y]) rfl ?_
      refine lv_iload_n hx hb dX2_with_28 rfl (lv_at hl 3 rfl) ?_
      refine lv_iconst (v := 0) hx hb dX2_with_29 (by decide) ?_
      refine lv_iconst (v := 3) hx hb dX2_with_30 (by decide) ?_
      refine k_pS [.int a2, .int 0, .int 3] (rest := [.int (j_X2_isNone a1), .ref y]) ⟨hx, hb, hml, hown, hts⟩ (c_X2_isIn l D cB cJ _ a2 0 3) (va_cwS 3 hts gX2_with_X2_isIn rfl rfl rfl (by decide +kernel) ⟨(Nat.le_of_ble_eq_true rfl), (Nat.le_of_ble_eq_true rfl)⟩) hE hS rfl rfl hl.1 (Nat.le_of_ble_eq_true rfl) dX2_with_31 ⟨(Nat.le_of_ble_eq_true rfl), (Nat.le_of_ble_eq_true rfl)⟩ (fun locs hS => ?_)
      refine W.eq (g2 := F0 m 34 ls [.int (j_X2_isIn a2 0 3), .int (j_X2_isNone a1), .ref y]) rfl ?_
      refine lv_if_eq (tgt := 47) hx hb dX2_with_34 (by decide) (fun c_3 => ?_) (fun c_3 => ?_)
      · refine lv_iconst (v := 1) hx hb dX2_with_47 (by decide) ?_
        refine lv_goto (tgt := 52) hx hb dX2_with_48 (by decide) ?_
        have hFc := va_free (wc := [(y, .inr (4, [.int th, .ref n2, .int kn2, .int td])), (n2, .inl (cJ, 8, .inr (.inl g)))]) hD hS hA [0, 1] rfl
        refine k_go (va_runV (As := [.int (j_X2_isNone a1), .int 1]) (rest := []) ⟨hx, hb, hml, hown, hts⟩ (cq_X2_isStopped l D cB cJ _ y n2 th g kn2 td hP (hD.weaken (fun _ _ _ _ => trivial)) (j_X2_isNone a1) (1 : Int32)) (cwV 2 hts gX2_with_X2_isStopped rfl rfl rfl (by decide +kernel) ⟨(Nat.le_of_ble_eq_true rfl), (Nat.le_of_ble_eq_true rfl)⟩) (k_preV hE hS hFc (va_recv hK hP (ci := 4) (q0 := 0) rfl rfl)) rfl rfl hl.1 rfl (lv_room (Nat.le_of_ble_eq_true rfl)) dX2_with_52 ⟨(Nat.le_of_ble_eq_true rfl), (Nat.le_of_ble_eq_true rfl)⟩) hS (fun q _ h => hFc q h) hFc (fun v H locs hp hz hk hS => ?_)
        obtain ⟨rfl, hP1, hD1⟩ := hp
        (try dsimp only at hP1 hD1)
        have hP : va_P D vwCl [(y, .inr (4, [.int (j_stT (j_X2_isNone a1) (1 : Int32)), .ref n2, .int kn2, .int td])), (n2, .inl (cJ, 8, .inr (.inl g)))] H := hP1
        have hD : va_D A [(y, .inr (4, [.int (j_stT (j_X2_isNone a1) (1 : Int32)), .ref n2, .int kn2, .int td])), (n2, .inl (cJ, 8, .inr (.inl g)))] := hD1.weaken (fun _ q _ h => hFc q.1 h)
        refine W.eq (g2 := F0 m 55 ls [.int (j_stR (j_X2_isNone a1) (1 : Int32))]) rfl ?_
        refine lv_if_eq (tgt := 60) hx hb dX2_with_55 (by decide) (fun c_4 => ?_) (fun c_4 => ?_)
        · refine lv_aload_n hx hb dX2_with_60 rfl (lv_at hl 1 rfl) ?_
          refine va_get (D := D) (ci := 4) (v := .ref n2) (C := RX2) (T := TX2) (N := 4) hx hb hts iw_X2_with_X2 hown hK hP 0 rfl rfl 1 (by decide) (hts (.fieldLink RX2 9 "ClocksoloModel" "its" "[J") (by decide +kernel)) (fun _ h9 => h9) rfl dX2_with_61 ?_
          refine lv_iload_n hx hb dX2_with_64 rfl (lv_at hl 2 rfl) ?_
          refine va_lald hx hb hK hP 1 1 rfl rfl ((((hT.2 c_1).2 c_2).1 c_3).1 c_4).1 dX2_with_65 ?_
          refine lv_iload_n hx hb dX2_with_66 rfl (lv_at hl 3 rfl) ?_
          refine k_pS [.long (g a1.toNatClampNeg), .int a2] (rest := []) ⟨hx, hb, hml, hown, hts⟩ (c_X2_part l D cB cJ _ (g a1.toNatClampNeg) a2) (va_cwS 2 hts gX2_with_X2_part rfl rfl rfl (by decide +kernel) ⟨(Nat.le_of_ble_eq_true rfl), (Nat.le_of_ble_eq_true rfl)⟩) hE hS rfl rfl hl.1 (Nat.le_of_ble_eq_true rfl) dX2_with_67 ⟨(Nat.le_of_ble_eq_true rfl), (Nat.le_of_ble_eq_true rfl)⟩ (fun locs hS => ?_)
          refine W.eq (g2 := F0 m 70 ls [.int (j_X2_part (g a1.toNatClampNeg) a2)]) rfl ?_
          refine lv_istore (lv' := [(5, .int (j_X2_part (g a1.toNatClampNeg) a2)), (4, .int 59), (0, .ref y), (1, .int a1), (2, .int a2), (3, .int a3)]) hx hb dX2_with_70 hl (by decide) rfl (fun ls hl => ?_)
          refine lv_iload_n hx hb dX2_with_72 rfl (lv_at hl 4 rfl) ?_
          refine lv_if_ne (tgt := 82) hx hb dX2_with_73 (by decide) (fun c_5 => ?_) (fun c_5 => ?_)
          · refine lv_iload_n hx hb dX2_with_82 rfl (lv_at hl 4 rfl) ?_
            refine lv_iconst (v := 1) hx hb dX2_with_83 (by decide) ?_
            refine lv_icmp_ne (tgt := 93) hx hb dX2_with_84 (by decide) (fun c_6 => ?_) (fun c_6 => ?_)
            · refine lv_iload_n hx hb dX2_with_93 rfl (lv_at hl 4 rfl) ?_
              refine lv_iconst (v := 2) hx hb dX2_with_94 (by decide) ?_
              refine lv_icmp_ne (tgt := 104) hx hb dX2_with_95 (by decide) (fun c_7 => ?_) (fun c_7 => ?_)
              · refine lv_lconst (v := 1) hx hb dX2_with_104 (by decide) ?_
                refine lv_lstore (lv' := [(6, .long 1), (5, .int (j_X2_part (g a1.toNatClampNeg) a2)), (4, .int 59), (0, .ref y), (1, .int a1), (2, .int a2), (3, .int a3)]) hx hb dX2_with_105 hl (by decide) rfl (fun ls hl => ?_)
                refine lv_aload_n hx hb dX2_with_107 rfl (lv_at hl 3 rfl) ?_
                refine lv_iload_n hx hb dX2_with_108 rfl (lv_at hl 4 rfl) ?_
                refine lv_aload_n hx hb dX2_with_109 rfl (lv_at hl 3 rfl) ?_
                refine va_get (D := D) (ci := 4) (v := .ref n2) (C := RX2) (T := TX2) (N := 4) hx hb hts iw_X2_with_X2 hown hK hP 0 rfl rfl 1 (by decide) (hts (.fieldLink RX2 9 "ClocksoloModel" "its" "[J") (by decide +kernel)) (fun _ h9 => h9) rfl dX2_with_110 ?_
                refine lv_iload_n hx hb dX2_with_113 rfl (lv_at hl 4 rfl) ?_
                refine va_lald hx hb hK hP 1 1 rfl rfl ((((hT.2 c_1).2 c_2).1 c_3).1 c_4).1 dX2_with_114 ?_
                refine lv_iload_n hx hb dX2_with_115 rfl (lv_at hl 6 rfl) ?_
                refine lv_iload hx hb dX2_with_116 (lv_at hl 1 rfl) ?_
                refine lv_isub hx hb dX2_with_118 ?_
                refine lv_i2l (v := (a3 - (j_X2_part (g a1.toNatClampNeg) a2)).toInt64) hx hb dX2_with_119 rfl ?_
                refine lv_lload hx hb dX2_with_120 (lv_at hl 0 rfl) ?_
                refine lv_lmul hx hb dX2_with_122 ?_
                refine lv_ladd hx hb dX2_with_123 ?_
                have hFc := va_free (wc := [(y, .inr (4, [.int (j_stT (j_X2_isNone a1) (1 : Int32)), .ref n2, .int kn2, .int td])), (n2, .inl (cJ, 8, .inr (.inl g)))]) hD hS hA [0, 1] rfl
                refine k_go (va_runV (As := [.int a1, .long ((g a1.toNatClampNeg) + (((a3 - (j_X2_part (g a1.toNatClampNeg) a2)).toInt64) * 1))]) (rest := []) ⟨hx, hb, hml, hown, hts⟩ (cq_X2_set l D cB cJ _ y n2 (j_stT (j_X2_isNone a1) (1 : Int32)) g kn2 td hP (hD.weaken (fun _ _ _ _ => trivial)) a1 ((g a1.toNatClampNeg) + (((a3 - (j_X2_part (g a1.toNatClampNeg) a2)).toInt64) * 1)) ((((((hT.2 c_1).2 c_2).1 c_3).1 c_4).2.2 c_6).2 c_7).1) (cwV 2 hts gX2_with_X2_set rfl rfl rfl (by decide +kernel) ⟨(Nat.le_of_ble_eq_true rfl), (Nat.le_of_ble_eq_true rfl)⟩) (k_preV hE hS hFc (va_recv hK hP (ci := 4) (q0 := 0) rfl rfl)) rfl rfl hl.1 rfl (lv_room (Nat.le_of_ble_eq_true rfl)) dX2_with_124 ⟨(Nat.le_of_ble_eq_true rfl), (Nat.le_of_ble_eq_true rfl)⟩) hS (fun q _ h => hFc q h) hFc (fun v H locs hp hz hk hS => ?_)
                obtain ⟨rfl, hP1, hD1⟩ := hp
                (try dsimp only at hP1 hD1)
                have hP : va_P D vwCl [(y, .inr (4, [.int (j_stT (j_X2_isNone a1) (1 : Int32)), .ref n2, .int kn2, .int (td + 1)])), (n2, .inl (cJ, 8, .inr (.inl (vp_updL g a1.toNatClampNeg ((g a1.toNatClampNeg) + (((a3 - (j_X2_part (g a1.toNatClampNeg) a2)).toInt64) * 1))))))] H := hP1
                have hD : va_D A [(y, .inr (4, [.int (j_stT (j_X2_isNone a1) (1 : Int32)), .ref n2, .int kn2, .int (td + 1)])), (n2, .inl (cJ, 8, .inr (.inl (vp_updL g a1.toNatClampNeg ((g a1.toNatClampNeg) + (((a3 - (j_X2_part (g a1.toNatClampNeg) a2)).toInt64) * 1))))))] := hD1.weaken (fun _ q _ h => hFc q.1 h)
                refine W.eq (g2 := F0 m 127 ls [.int (j_X2_secondOf ((g a1.toNatClampNeg) + (((a3 - (j_X2_part (g a1.toNatClampNeg) a2)).toInt64) * 1)))]) rfl ?_
                refine lv_pop hx hb dX2_with_127 rfl ?_
                refine lv_iload hx hb dX2_with_128 (lv_at hl 1 rfl) ?_
                exact k_iret hx hb hr hlocks hS dX2_with_130 ⟨by rw [hJ, if_neg c_1, if_neg c_2, if_pos c_3, if_pos c_4, if_neg c_6, if_neg c_7], by rw [hJ, if_neg c_1, if_neg c_2, if_pos c_3, if_pos c_4, if_neg c_6, if_neg c_7]; (try dsimp only); exact hP, by rw [hJ, if_neg c_1, if_neg c_2, if_pos c_3, if_pos c_4, if_neg c_6, if_neg c_7]; (try dsimp only); exact hD⟩
              · refine lv_ldc2 (v := 1000000000) hx hb hown (hts (.constantLong RX2 29 (1000000000)) (by decide +kernel)) dX2_with_98 ?_
                refine lv_goto (tgt := 105) hx hb dX2_with_101 (by decide) ?_
                refine lv_lstore (lv' := [(6, .long 1000000000), (5, .int (j_X2_part (g a1.toNatClampNeg) a2)), (4, .int 59), (0, .ref y), (1, .int a1), (2, .int a2), (3, .int a3)]) hx hb dX2_with_105 hl (by decide) rfl (fun ls hl => ?_)
                refine lv_aload_n hx hb dX2_with_107 rfl (lv_at hl 3 rfl) ?_
                refine lv_iload_n hx hb dX2_with_108 rfl (lv_at hl 4 rfl) ?_
                refine lv_aload_n hx hb dX2_with_109 rfl (lv_at hl 3 rfl) ?_
                refine va_get (D := D) (ci := 4) (v := .ref n2) (C := RX2) (T := TX2) (N := 4) hx hb hts iw_X2_with_X2 hown hK hP 0 rfl rfl 1 (by decide) (hts (.fieldLink RX2 9 "ClocksoloModel" "its" "[J") (by decide +kernel)) (fun _ h9 => h9) rfl dX2_with_110 ?_
                refine lv_iload_n hx hb dX2_with_113 rfl (lv_at hl 4 rfl) ?_
                refine va_lald hx hb hK hP 1 1 rfl rfl ((((hT.2 c_1).2 c_2).1 c_3).1 c_4).1 dX2_with_114 ?_
                refine lv_iload_n hx hb dX2_with_115 rfl (lv_at hl 6 rfl) ?_
                refine lv_iload hx hb dX2_with_116 (lv_at hl 1 rfl) ?_
                refine lv_isub hx hb dX2_with_118 ?_
                refine lv_i2l (v := (a3 - (j_X2_part (g a1.toNatClampNeg) a2)).toInt64) hx hb dX2_with_119 rfl ?_
                refine lv_lload hx hb dX2_with_120 (lv_at hl 0 rfl) ?_
                refine lv_lmul hx hb dX2_with_122 ?_
                refine lv_ladd hx hb dX2_with_123 ?_
                have hFc := va_free (wc := [(y, .inr (4, [.int (j_stT (j_X2_isNone a1) (1 : Int32)), .ref n2, .int kn2, .int td])), (n2, .inl (cJ, 8, .inr (.inl g)))]) hD hS hA [0, 1] rfl
                refine k_go (va_runV (As := [.int a1, .long ((g a1.toNatClampNeg) + (((a3 - (j_X2_part (g a1.toNatClampNeg) a2)).toInt64) * 1000000000))]) (rest := []) ⟨hx, hb, hml, hown, hts⟩ (cq_X2_set l D cB cJ _ y n2 (j_stT (j_X2_isNone a1) (1 : Int32)) g kn2 td hP (hD.weaken (fun _ _ _ _ => trivial)) a1 ((g a1.toNatClampNeg) + (((a3 - (j_X2_part (g a1.toNatClampNeg) a2)).toInt64) * 1000000000)) ((((((hT.2 c_1).2 c_2).1 c_3).1 c_4).2.2 c_6).1 c_7).1) (cwV 2 hts gX2_with_X2_set rfl rfl rfl (by decide +kernel) ⟨(Nat.le_of_ble_eq_true rfl), (Nat.le_of_ble_eq_true rfl)⟩) (k_preV hE hS hFc (va_recv hK hP (ci := 4) (q0 := 0) rfl rfl)) rfl rfl hl.1 rfl (lv_room (Nat.le_of_ble_eq_true rfl)) dX2_with_124 ⟨(Nat.le_of_ble_eq_true rfl), (Nat.le_of_ble_eq_true rfl)⟩) hS (fun q _ h => hFc q h) hFc (fun v H locs hp hz hk hS => ?_)
                obtain ⟨rfl, hP1, hD1⟩ := hp
                (try dsimp only at hP1 hD1)
                have hP : va_P D vwCl [(y, .inr (4, [.int (j_stT (j_X2_isNone a1) (1 : Int32)), .ref n2, .int kn2, .int (td + 1)])), (n2, .inl (cJ, 8, .inr (.inl (vp_updL g a1.toNatClampNeg ((g a1.toNatClampNeg) + (((a3 - (j_X2_part (g a1.toNatClampNeg) a2)).toInt64) * 1000000000))))))] H := hP1
                have hD : va_D A [(y, .inr (4, [.int (j_stT (j_X2_isNone a1) (1 : Int32)), .ref n2, .int kn2, .int (td + 1)])), (n2, .inl (cJ, 8, .inr (.inl (vp_updL g a1.toNatClampNeg ((g a1.toNatClampNeg) + (((a3 - (j_X2_part (g a1.toNatClampNeg) a2)).toInt64) * 1000000000))))))] := hD1.weaken (fun _ q _ h => hFc q.1 h)
                refine W.eq (g2 := F0 m 127 ls [.int (j_X2_secondOf ((g a1.toNatClampNeg) + (((a3 - (j_X2_part (g a1.toNatClampNeg) a2)).toInt64) * 1000000000)))]) rfl ?_
                refine lv_pop hx hb dX2_with_127 rfl ?_
                refine lv_iload hx hb dX2_with_128 (lv_at hl 1 rfl) ?_
                exact k_iret hx hb hr hlocks hS dX2_with_130 ⟨by rw [hJ, if_neg c_1, if_neg c_2, if_pos c_3, if_pos c_4, if_neg c_6, if_pos c_7], by rw [hJ, if_neg c_1, if_neg c_2, if_pos c_3, if_pos c_4, if_neg c_6, if_pos c_7]; (try dsimp only); exact hP, by rw [hJ, if_neg c_1, if_neg c_2, if_pos c_3, if_pos c_4, if_neg c_6, if_pos c_7]; (try dsimp only); exact hD⟩
            · refine lv_ldc2 (v := 60000000000) hx hb hown (hts (.constantLong RX2 62 (60000000000)) (by decide +kernel)) dX2_with_87 ?_
              refine lv_goto (tgt := 105) hx hb dX2_with_90 (by decide) ?_
              refine lv_lstore (lv' := [(6, .long 60000000000), (5, .int (j_X2_part (g a1.toNatClampNeg) a2)), (4, .int 59), (0, .ref y), (1, .int a1), (2, .int a2), (3, .int a3)]) hx hb dX2_with_105 hl (by decide) rfl (fun ls hl => ?_)
              refine lv_aload_n hx hb dX2_with_107 rfl (lv_at hl 3 rfl) ?_
              refine lv_iload_n hx hb dX2_with_108 rfl (lv_at hl 4 rfl) ?_
              refine lv_aload_n hx hb dX2_with_109 rfl (lv_at hl 3 rfl) ?_
              refine va_get (D := D) (ci := 4) (v := .ref n2) (C := RX2) (T := TX2) (N := 4) hx hb hts iw_X2_with_X2 hown hK hP 0 rfl rfl 1 (by decide) (hts (.fieldLink RX2 9 "ClocksoloModel" "its" "[J") (by decide +kernel)) (fun _ h9 => h9) rfl dX2_with_110 ?_
              refine lv_iload_n hx hb dX2_with_113 rfl (lv_at hl 4 rfl) ?_
              refine va_lald hx hb hK hP 1 1 rfl rfl ((((hT.2 c_1).2 c_2).1 c_3).1 c_4).1 dX2_with_114 ?_
              refine lv_iload_n hx hb dX2_with_115 rfl (lv_at hl 6 rfl) ?_
              refine lv_iload hx hb dX2_with_116 (lv_at hl 1 rfl) ?_
              refine lv_isub hx hb dX2_with_118 ?_
              refine lv_i2l (v := (a3 - (j_X2_part (g a1.toNatClampNeg) a2)).toInt64) hx hb dX2_with_119 rfl ?_
              refine lv_lload hx hb dX2_with_120 (lv_at hl 0 rfl) ?_
              refine lv_lmul hx hb dX2_with_122 ?_
              refine lv_ladd hx hb dX2_with_123 ?_
              have hFc := va_free (wc := [(y, .inr (4, [.int (j_stT (j_X2_isNone a1) (1 : Int32)), .ref n2, .int kn2, .int td])), (n2, .inl (cJ, 8, .inr (.inl g)))]) hD hS hA [0, 1] rfl
              refine k_go (va_runV (As := [.int a1, .long ((g a1.toNatClampNeg) + (((a3 - (j_X2_part (g a1.toNatClampNeg) a2)).toInt64) * 60000000000))]) (rest := []) ⟨hx, hb, hml, hown, hts⟩ (cq_X2_set l D cB cJ _ y n2 (j_stT (j_X2_isNone a1) (1 : Int32)) g kn2 td hP (hD.weaken (fun _ _ _ _ => trivial)) a1 ((g a1.toNatClampNeg) + (((a3 - (j_X2_part (g a1.toNatClampNeg) a2)).toInt64) * 60000000000)) (((((hT.2 c_1).2 c_2).1 c_3).1 c_4).2.1 c_6).1) (cwV 2 hts gX2_with_X2_set rfl rfl rfl (by decide +kernel) ⟨(Nat.le_of_ble_eq_true rfl), (Nat.le_of_ble_eq_true rfl)⟩) (k_preV hE hS hFc (va_recv hK hP (ci := 4) (q0 := 0) rfl rfl)) rfl rfl hl.1 rfl (lv_room (Nat.le_of_ble_eq_true rfl)) dX2_with_124 ⟨(Nat.le_of_ble_eq_true rfl), (Nat.le_of_ble_eq_true rfl)⟩) hS (fun q _ h => hFc q h) hFc (fun v H locs hp hz hk hS => ?_)
              obtain ⟨rfl, hP1, hD1⟩ := hp
              (try dsimp only at hP1 hD1)
              have hP : va_P D vwCl [(y, .inr (4, [.int (j_stT (j_X2_isNone a1) (1 : Int32)), .ref n2, .int kn2, .int (td + 1)])), (n2, .inl (cJ, 8, .inr (.inl (vp_updL g a1.toNatClampNeg ((g a1.toNatClampNeg) + (((a3 - (j_X2_part (g a1.toNatClampNeg) a2)).toInt64) * 60000000000))))))] H := hP1
              have hD : va_D A [(y, .inr (4, [.int (j_stT (j_X2_isNone a1) (1 : Int32)), .ref n2, .int kn2, .int (td + 1)])), (n2, .inl (cJ, 8, .inr (.inl (vp_updL g a1.toNatClampNeg ((g a1.toNatClampNeg) + (((a3 - (j_X2_part (g a1.toNatClampNeg) a2)).toInt64) * 60000000000))))))] := hD1.weaken (fun _ q _ h => hFc q.1 h)
              refine W.eq (g2 := F0 m 127 ls [.int (j_X2_secondOf ((g a1.toNatClampNeg) + (((a3 - (j_X2_part (g a1.toNatClampNeg) a2)).toInt64) * 60000000000)))]) rfl ?_
              refine lv_pop hx hb dX2_with_127 rfl ?_
              refine lv_iload hx hb dX2_with_128 (lv_at hl 1 rfl) ?_
              exact k_iret hx hb hr hlocks hS dX2_with_130 ⟨by rw [hJ, if_neg c_1, if_neg c_2, if_pos c_3, if_pos c_4, if_pos c_6], by rw [hJ, if_neg c_1, if_neg c_2, if_pos c_3, if_pos c_4, if_pos c_6]; (try dsimp only); exact hP, by rw [hJ, if_neg c_1, if_neg c_2, if_pos c_3, if_pos c_4, if_pos c_6]; (try dsimp only); exact hD⟩
          · exact absurd c_5 c_1
        · refine lv_iconst (v := 0) hx hb dX2_with_58 (by decide) ?_
          exact k_iret hx hb hr hlocks hS dX2_with_59 ⟨by rw [hJ, if_neg c_1, if_neg c_2, if_pos c_3, if_neg c_4], by rw [hJ, if_neg c_1, if_neg c_2, if_pos c_3, if_neg c_4]; (try dsimp only); exact hP, by rw [hJ, if_neg c_1, if_neg c_2, if_pos c_3, if_neg c_4]; (try dsimp only); exact hD⟩
      · refine lv_iload_n hx hb dX2_with_37 rfl (lv_at hl 4 rfl) ?_
        refine lv_iconst (v := 0) hx hb dX2_with_38 (by decide) ?_
        refine lv_iload hx hb dX2_with_39 (lv_at hl 0 rfl) ?_
        refine k_pS [.int a3, .int 0, .int 59] (rest := [.int (j_X2_isNone a1), .ref y]) ⟨hx, hb, hml, hown, hts⟩ (c_X2_isIn l D cB cJ _ a3 0 59) (va_cwS 3 hts gX2_with_X2_isIn rfl rfl rfl (by decide +kernel) ⟨(Nat.le_of_ble_eq_true rfl), (Nat.le_of_ble_eq_true rfl)⟩) hE hS rfl rfl hl.1 (Nat.le_of_ble_eq_true rfl) dX2_with_41 ⟨(Nat.le_of_ble_eq_true rfl), (Nat.le_of_ble_eq_true rfl)⟩ (fun locs hS => ?_)
        refine W.eq (g2 := F0 m 44 ls [.int (j_X2_isIn a3 0 59), .int (j_X2_isNone a1), .ref y]) rfl ?_
        refine lv_if_ne (tgt := 51) hx hb dX2_with_44 (by decide) (fun c_8 => ?_) (fun c_8 => ?_)
        · refine lv_iconst (v := 0) hx hb dX2_with_51 (by decide) ?_
          have hFc := va_free (wc := [(y, .inr (4, [.int th, .ref n2, .int kn2, .int td])), (n2, .inl (cJ, 8, .inr (.inl g)))]) hD hS hA [0, 1] rfl
          refine k_go (va_runV (As := [.int (j_X2_isNone a1), .int 0]) (rest := []) ⟨hx, hb, hml, hown, hts⟩ (cq_X2_isStopped l D cB cJ _ y n2 th g kn2 td hP (hD.weaken (fun _ _ _ _ => trivial)) (j_X2_isNone a1) (0 : Int32)) (cwV 2 hts gX2_with_X2_isStopped rfl rfl rfl (by decide +kernel) ⟨(Nat.le_of_ble_eq_true rfl), (Nat.le_of_ble_eq_true rfl)⟩) (k_preV hE hS hFc (va_recv hK hP (ci := 4) (q0 := 0) rfl rfl)) rfl rfl hl.1 rfl (lv_room (Nat.le_of_ble_eq_true rfl)) dX2_with_52 ⟨(Nat.le_of_ble_eq_true rfl), (Nat.le_of_ble_eq_true rfl)⟩) hS (fun q _ h => hFc q h) hFc (fun v H locs hp hz hk hS => ?_)
          obtain ⟨rfl, hP1, hD1⟩ := hp
          (try dsimp only at hP1 hD1)
          have hP : va_P D vwCl [(y, .inr (4, [.int (j_stT (j_X2_isNone a1) (0 : Int32)), .ref n2, .int kn2, .int td])), (n2, .inl (cJ, 8, .inr (.inl g)))] H := hP1
          have hD : va_D A [(y, .inr (4, [.int (j_stT (j_X2_isNone a1) (0 : Int32)), .ref n2, .int kn2, .int td])), (n2, .inl (cJ, 8, .inr (.inl g)))] := hD1.weaken (fun _ q _ h => hFc q.1 h)
          refine W.eq (g2 := F0 m 55 ls [.int (j_stR (j_X2_isNone a1) (0 : Int32))]) rfl ?_
          refine lv_if_eq (tgt := 60) hx hb dX2_with_55 (by decide) (fun c_9 => ?_) (fun c_9 => ?_)
          · refine lv_aload_n hx hb dX2_with_60 rfl (lv_at hl 1 rfl) ?_
            refine va_get (D := D) (ci := 4) (v := .ref n2) (C := RX2) (T := TX2) (N := 4) hx hb hts iw_X2_with_X2 hown hK hP 0 rfl rfl 1 (by decide) (hts (.fieldLink RX2 9 "ClocksoloModel" "its" "[J") (by decide +kernel)) (fun _ h9 => h9) rfl dX2_with_61 ?_
            refine lv_iload_n hx hb dX2_with_64 rfl (lv_at hl 2 rfl) ?_
            refine va_lald hx hb hK hP 1 1 rfl rfl (((((hT.2 c_1).2 c_2).2 c_3).2 c_8).1 c_9).1 dX2_with_65 ?_
            refine lv_iload_n hx hb dX2_with_66 rfl (lv_at hl 3 rfl) ?_
            refine k_pS [.long (g a1.toNatClampNeg), .int a2] (rest := []) ⟨hx, hb, hml, hown, hts⟩ (c_X2_part l D cB cJ _ (g a1.toNatClampNeg) a2) (va_cwS 2 hts gX2_with_X2_part rfl rfl rfl (by decide +kernel) ⟨(Nat.le_of_ble_eq_true rfl), (Nat.le_of_ble_eq_true rfl)⟩) hE hS rfl rfl hl.1 (Nat.le_of_ble_eq_true rfl) dX2_with_67 ⟨(Nat.le_of_ble_eq_true rfl), (Nat.le_of_ble_eq_true rfl)⟩ (fun locs hS => ?_)
            refine W.eq (g2 := F0 m 70 ls [.int (j_X2_part (g a1.toNatClampNeg) a2)]) rfl ?_
            refine lv_istore (lv' := [(5, .int (j_X2_part (g a1.toNatClampNeg) a2)), (4, .int 59), (0, .ref y), (1, .int a1), (2, .int a2), (3, .int a3)]) hx hb dX2_with_70 hl (by decide) rfl (fun ls hl => ?_)
            refine lv_iload_n hx hb dX2_with_72 rfl (lv_at hl 4 rfl) ?_
            refine lv_if_ne (tgt := 82) hx hb dX2_with_73 (by decide) (fun c_10 => ?_) (fun c_10 => ?_)
            · refine lv_iload_n hx hb dX2_with_82 rfl (lv_at hl 4 rfl) ?_
              refine lv_iconst (v := 1) hx hb dX2_with_83 (by decide) ?_
              refine lv_icmp_ne (tgt := 93) hx hb dX2_with_84 (by decide) (fun c_11 => ?_) (fun c_11 => ?_)
              · refine lv_iload_n hx hb dX2_with_93 rfl (lv_at hl 4 rfl) ?_
                refine lv_iconst (v := 2) hx hb dX2_with_94 (by decide) ?_
                refine lv_icmp_ne (tgt := 104) hx hb dX2_with_95 (by decide) (fun c_12 => ?_) (fun c_12 => ?_)
                · refine lv_lconst (v := 1) hx hb dX2_with_104 (by decide) ?_
                  refine lv_lstore (lv' := [(6, .long 1), (5, .int (j_X2_part (g a1.toNatClampNeg) a2)), (4, .int 59), (0, .ref y), (1, .int a1), (2, .int a2), (3, .int a3)]) hx hb dX2_with_105 hl (by decide) rfl (fun ls hl => ?_)
                  refine lv_aload_n hx hb dX2_with_107 rfl (lv_at hl 3 rfl) ?_
                  refine lv_iload_n hx hb dX2_with_108 rfl (lv_at hl 4 rfl) ?_
                  refine lv_aload_n hx hb dX2_with_109 rfl (lv_at hl 3 rfl) ?_
                  refine va_get (D := D) (ci := 4) (v := .ref n2) (C := RX2) (T := TX2) (N := 4) hx hb hts iw_X2_with_X2 hown hK hP 0 rfl rfl 1 (by decide) (hts (.fieldLink RX2 9 "ClocksoloModel" "its" "[J") (by decide +kernel)) (fun _ h9 => h9) rfl dX2_with_110 ?_
                  refine lv_iload_n hx hb dX2_with_113 rfl (lv_at hl 4 rfl) ?_
                  refine va_lald hx hb hK hP 1 1 rfl rfl (((((hT.2 c_1).2 c_2).2 c_3).2 c_8).1 c_9).1 dX2_with_114 ?_
                  refine lv_iload_n hx hb dX2_with_115 rfl (lv_at hl 6 rfl) ?_
                  refine lv_iload hx hb dX2_with_116 (lv_at hl 1 rfl) ?_
                  refine lv_isub hx hb dX2_with_118 ?_
                  refine lv_i2l (v := (a3 - (j_X2_part (g a1.toNatClampNeg) a2)).toInt64) hx hb dX2_with_119 rfl ?_
                  refine lv_lload hx hb dX2_with_120 (lv_at hl 0 rfl) ?_
                  refine lv_lmul hx hb dX2_with_122 ?_
                  refine lv_ladd hx hb dX2_with_123 ?_
                  have hFc := va_free (wc := [(y, .inr (4, [.int (j_stT (j_X2_isNone a1) (0 : Int32)), .ref n2, .int kn2, .int td])), (n2, .inl (cJ, 8, .inr (.inl g)))]) hD hS hA [0, 1] rfl
                  refine k_go (va_runV (As := [.int a1, .long ((g a1.toNatClampNeg) + (((a3 - (j_X2_part (g a1.toNatClampNeg) a2)).toInt64) * 1))]) (rest := []) ⟨hx, hb, hml, hown, hts⟩ (cq_X2_set l D cB cJ _ y n2 (j_stT (j_X2_isNone a1) (0 : Int32)) g kn2 td hP (hD.weaken (fun _ _ _ _ => trivial)) a1 ((g a1.toNatClampNeg) + (((a3 - (j_X2_part (g a1.toNatClampNeg) a2)).toInt64) * 1)) (((((((hT.2 c_1).2 c_2).2 c_3).2 c_8).1 c_9).2.2 c_11).2 c_12).1) (cwV 2 hts gX2_with_X2_set rfl rfl rfl (by decide +kernel) ⟨(Nat.le_of_ble_eq_true rfl), (Nat.le_of_ble_eq_true rfl)⟩) (k_preV hE hS hFc (va_recv hK hP (ci := 4) (q0 := 0) rfl rfl)) rfl rfl hl.1 rfl (lv_room (Nat.le_of_ble_eq_true rfl)) dX2_with_124 ⟨(Nat.le_of_ble_eq_true rfl), (Nat.le_of_ble_eq_true rfl)⟩) hS (fun q _ h => hFc q h) hFc (fun v H locs hp hz hk hS => ?_)
                  obtain ⟨rfl, hP1, hD1⟩ := hp
                  (try dsimp only at hP1 hD1)
                  have hP : va_P D vwCl [(y, .inr (4, [.int (j_stT (j_X2_isNone a1) (0 : Int32)), .ref n2, .int kn2, .int (td + 1)])), (n2, .inl (cJ, 8, .inr (.inl (vp_updL g a1.toNatClampNeg ((g a1.toNatClampNeg) + (((a3 - (j_X2_part (g a1.toNatClampNeg) a2)).toInt64) * 1))))))] H := hP1
                  have hD : va_D A [(y, .inr (4, [.int (j_stT (j_X2_isNone a1) (0 : Int32)), .ref n2, .int kn2, .int (td + 1)])), (n2, .inl (cJ, 8, .inr (.inl (vp_updL g a1.toNatClampNeg ((g a1.toNatClampNeg) + (((a3 - (j_X2_part (g a1.toNatClampNeg) a2)).toInt64) * 1))))))] := hD1.weaken (fun _ q _ h => hFc q.1 h)
                  refine W.eq (g2 := F0 m 127 ls [.int (j_X2_secondOf ((g a1.toNatClampNeg) + (((a3 - (j_X2_part (g a1.toNatClampNeg) a2)).toInt64) * 1)))]) rfl ?_
                  refine lv_pop hx hb dX2_with_127 rfl ?_
                  refine lv_iload hx hb dX2_with_128 (lv_at hl 1 rfl) ?_
                  exact k_iret hx hb hr hlocks hS dX2_with_130 ⟨by rw [hJ, if_neg c_1, if_neg c_2, if_neg c_3, if_neg c_8, if_pos c_9, if_neg c_11, if_neg c_12], by rw [hJ, if_neg c_1, if_neg c_2, if_neg c_3, if_neg c_8, if_pos c_9, if_neg c_11, if_neg c_12]; (try dsimp only); exact hP, by rw [hJ, if_neg c_1, if_neg c_2, if_neg c_3, if_neg c_8, if_pos c_9, if_neg c_11, if_neg c_12]; (try dsimp only); exact hD⟩
                · refine lv_ldc2 (v := 1000000000) hx hb hown (hts (.constantLong RX2 29 (1000000000)) (by decide +kernel)) dX2_with_98 ?_
                  refine lv_goto (tgt := 105) hx hb dX2_with_101 (by decide) ?_
                  refine lv_lstore (lv' := [(6, .long 1000000000), (5, .int (j_X2_part (g a1.toNatClampNeg) a2)), (4, .int 59), (0, .ref y), (1, .int a1), (2, .int a2), (3, .int a3)]) hx hb dX2_with_105 hl (by decide) rfl (fun ls hl => ?_)
                  refine lv_aload_n hx hb dX2_with_107 rfl (lv_at hl 3 rfl) ?_
                  refine lv_iload_n hx hb dX2_with_108 rfl (lv_at hl 4 rfl) ?_
                  refine lv_aload_n hx hb dX2_with_109 rfl (lv_at hl 3 rfl) ?_
                  refine va_get (D := D) (ci := 4) (v := .ref n2) (C := RX2) (T := TX2) (N := 4) hx hb hts iw_X2_with_X2 hown hK hP 0 rfl rfl 1 (by decide) (hts (.fieldLink RX2 9 "ClocksoloModel" "its" "[J") (by decide +kernel)) (fun _ h9 => h9) rfl dX2_with_110 ?_
                  refine lv_iload_n hx hb dX2_with_113 rfl (lv_at hl 4 rfl) ?_
                  refine va_lald hx hb hK hP 1 1 rfl rfl (((((hT.2 c_1).2 c_2).2 c_3).2 c_8).1 c_9).1 dX2_with_114 ?_
                  refine lv_iload_n hx hb dX2_with_115 rfl (lv_at hl 6 rfl) ?_
                  refine lv_iload hx hb dX2_with_116 (lv_at hl 1 rfl) ?_
                  refine lv_isub hx hb dX2_with_118 ?_
                  refine lv_i2l (v := (a3 - (j_X2_part (g a1.toNatClampNeg) a2)).toInt64) hx hb dX2_with_119 rfl ?_
                  refine lv_lload hx hb dX2_with_120 (lv_at hl 0 rfl) ?_
                  refine lv_lmul hx hb dX2_with_122 ?_
                  refine lv_ladd hx hb dX2_with_123 ?_
                  have hFc := va_free (wc := [(y, .inr (4, [.int (j_stT (j_X2_isNone a1) (0 : Int32)), .ref n2, .int kn2, .int td])), (n2, .inl (cJ, 8, .inr (.inl g)))]) hD hS hA [0, 1] rfl
                  refine k_go (va_runV (As := [.int a1, .long ((g a1.toNatClampNeg) + (((a3 - (j_X2_part (g a1.toNatClampNeg) a2)).toInt64) * 1000000000))]) (rest := []) ⟨hx, hb, hml, hown, hts⟩ (cq_X2_set l D cB cJ _ y n2 (j_stT (j_X2_isNone a1) (0 : Int32)) g kn2 td hP (hD.weaken (fun _ _ _ _ => trivial)) a1 ((g a1.toNatClampNeg) + (((a3 - (j_X2_part (g a1.toNatClampNeg) a2)).toInt64) * 1000000000)) (((((((hT.2 c_1).2 c_2).2 c_3).2 c_8).1 c_9).2.2 c_11).1 c_12).1) (cwV 2 hts gX2_with_X2_set rfl rfl rfl (by decide +kernel) ⟨(Nat.le_of_ble_eq_true rfl), (Nat.le_of_ble_eq_true rfl)⟩) (k_preV hE hS hFc (va_recv hK hP (ci := 4) (q0 := 0) rfl rfl)) rfl rfl hl.1 rfl (lv_room (Nat.le_of_ble_eq_true rfl)) dX2_with_124 ⟨(Nat.le_of_ble_eq_true rfl), (Nat.le_of_ble_eq_true rfl)⟩) hS (fun q _ h => hFc q h) hFc (fun v H locs hp hz hk hS => ?_)
                  obtain ⟨rfl, hP1, hD1⟩ := hp
                  (try dsimp only at hP1 hD1)
                  have hP : va_P D vwCl [(y, .inr (4, [.int (j_stT (j_X2_isNone a1) (0 : Int32)), .ref n2, .int kn2, .int (td + 1)])), (n2, .inl (cJ, 8, .inr (.inl (vp_updL g a1.toNatClampNeg ((g a1.toNatClampNeg) + (((a3 - (j_X2_part (g a1.toNatClampNeg) a2)).toInt64) * 1000000000))))))] H := hP1
                  have hD : va_D A [(y, .inr (4, [.int (j_stT (j_X2_isNone a1) (0 : Int32)), .ref n2, .int kn2, .int (td + 1)])), (n2, .inl (cJ, 8, .inr (.inl (vp_updL g a1.toNatClampNeg ((g a1.toNatClampNeg) + (((a3 - (j_X2_part (g a1.toNatClampNeg) a2)).toInt64) * 1000000000))))))] := hD1.weaken (fun _ q _ h => hFc q.1 h)
                  refine W.eq (g2 := F0 m 127 ls [.int (j_X2_secondOf ((g a1.toNatClampNeg) + (((a3 - (j_X2_part (g a1.toNatClampNeg) a2)).toInt64) * 1000000000)))]) rfl ?_
                  refine lv_pop hx hb dX2_with_127 rfl ?_
                  refine lv_iload hx hb dX2_with_128 (lv_at hl 1 rfl) ?_
                  exact k_iret hx hb hr hlocks hS dX2_with_130 ⟨by rw [hJ, if_neg c_1, if_neg c_2, if_neg c_3, if_neg c_8, if_pos c_9, if_neg c_11, if_pos c_12], by rw [hJ, if_neg c_1, if_neg c_2, if_neg c_3, if_neg c_8, if_pos c_9, if_neg c_11, if_pos c_12]; (try dsimp only); exact hP, by rw [hJ, if_neg c_1, if_neg c_2, if_neg c_3, if_neg c_8, if_pos c_9, if_neg c_11, if_pos c_12]; (try dsimp only); exact hD⟩
              · refine lv_ldc2 (v := 60000000000) hx hb hown (hts (.constantLong RX2 62 (60000000000)) (by decide +kernel)) dX2_with_87 ?_
                refine lv_goto (tgt := 105) hx hb dX2_with_90 (by decide) ?_
                refine lv_lstore (lv' := [(6, .long 60000000000), (5, .int (j_X2_part (g a1.toNatClampNeg) a2)), (4, .int 59), (0, .ref y), (1, .int a1), (2, .int a2), (3, .int a3)]) hx hb dX2_with_105 hl (by decide) rfl (fun ls hl => ?_)
                refine lv_aload_n hx hb dX2_with_107 rfl (lv_at hl 3 rfl) ?_
                refine lv_iload_n hx hb dX2_with_108 rfl (lv_at hl 4 rfl) ?_
                refine lv_aload_n hx hb dX2_with_109 rfl (lv_at hl 3 rfl) ?_
                refine va_get (D := D) (ci := 4) (v := .ref n2) (C := RX2) (T := TX2) (N := 4) hx hb hts iw_X2_with_X2 hown hK hP 0 rfl rfl 1 (by decide) (hts (.fieldLink RX2 9 "ClocksoloModel" "its" "[J") (by decide +kernel)) (fun _ h9 => h9) rfl dX2_with_110 ?_
                refine lv_iload_n hx hb dX2_with_113 rfl (lv_at hl 4 rfl) ?_
                refine va_lald hx hb hK hP 1 1 rfl rfl (((((hT.2 c_1).2 c_2).2 c_3).2 c_8).1 c_9).1 dX2_with_114 ?_
                refine lv_iload_n hx hb dX2_with_115 rfl (lv_at hl 6 rfl) ?_
                refine lv_iload hx hb dX2_with_116 (lv_at hl 1 rfl) ?_
                refine lv_isub hx hb dX2_with_118 ?_
                refine lv_i2l (v := (a3 - (j_X2_part (g a1.toNatClampNeg) a2)).toInt64) hx hb dX2_with_119 rfl ?_
                refine lv_lload hx hb dX2_with_120 (lv_at hl 0 rfl) ?_
                refine lv_lmul hx hb dX2_with_122 ?_
                refine lv_ladd hx hb dX2_with_123 ?_
                have hFc := va_free (wc := [(y, .inr (4, [.int (j_stT (j_X2_isNone a1) (0 : Int32)), .ref n2, .int kn2, .int td])), (n2, .inl (cJ, 8, .inr (.inl g)))]) hD hS hA [0, 1] rfl
                refine k_go (va_runV (As := [.int a1, .long ((g a1.toNatClampNeg) + (((a3 - (j_X2_part (g a1.toNatClampNeg) a2)).toInt64) * 60000000000))]) (rest := []) ⟨hx, hb, hml, hown, hts⟩ (cq_X2_set l D cB cJ _ y n2 (j_stT (j_X2_isNone a1) (0 : Int32)) g kn2 td hP (hD.weaken (fun _ _ _ _ => trivial)) a1 ((g a1.toNatClampNeg) + (((a3 - (j_X2_part (g a1.toNatClampNeg) a2)).toInt64) * 60000000000)) ((((((hT.2 c_1).2 c_2).2 c_3).2 c_8).1 c_9).2.1 c_11).1) (cwV 2 hts gX2_with_X2_set rfl rfl rfl (by decide +kernel) ⟨(Nat.le_of_ble_eq_true rfl), (Nat.le_of_ble_eq_true rfl)⟩) (k_preV hE hS hFc (va_recv hK hP (ci := 4) (q0 := 0) rfl rfl)) rfl rfl hl.1 rfl (lv_room (Nat.le_of_ble_eq_true rfl)) dX2_with_124 ⟨(Nat.le_of_ble_eq_true rfl), (Nat.le_of_ble_eq_true rfl)⟩) hS (fun q _ h => hFc q h) hFc (fun v H locs hp hz hk hS => ?_)
                obtain ⟨rfl, hP1, hD1⟩ := hp
                (try dsimp only at hP1 hD1)
                have hP : va_P D vwCl [(y, .inr (4, [.int (j_stT (j_X2_isNone a1) (0 : Int32)), .ref n2, .int kn2, .int (td + 1)])), (n2, .inl (cJ, 8, .inr (.inl (vp_updL g a1.toNatClampNeg ((g a1.toNatClampNeg) + (((a3 - (j_X2_part (g a1.toNatClampNeg) a2)).toInt64) * 60000000000))))))] H := hP1
                have hD : va_D A [(y, .inr (4, [.int (j_stT (j_X2_isNone a1) (0 : Int32)), .ref n2, .int kn2, .int (td + 1)])), (n2, .inl (cJ, 8, .inr (.inl (vp_updL g a1.toNatClampNeg ((g a1.toNatClampNeg) + (((a3 - (j_X2_part (g a1.toNatClampNeg) a2)).toInt64) * 60000000000))))))] := hD1.weaken (fun _ q _ h => hFc q.1 h)
                refine W.eq (g2 := F0 m 127 ls [.int (j_X2_secondOf ((g a1.toNatClampNeg) + (((a3 - (j_X2_part (g a1.toNatClampNeg) a2)).toInt64) * 60000000000)))]) rfl ?_
                refine lv_pop hx hb dX2_with_127 rfl ?_
                refine lv_iload hx hb dX2_with_128 (lv_at hl 1 rfl) ?_
                exact k_iret hx hb hr hlocks hS dX2_with_130 ⟨by rw [hJ, if_neg c_1, if_neg c_2, if_neg c_3, if_neg c_8, if_pos c_9, if_pos c_11], by rw [hJ, if_neg c_1, if_neg c_2, if_neg c_3, if_neg c_8, if_pos c_9, if_pos c_11]; (try dsimp only); exact hP, by rw [hJ, if_neg c_1, if_neg c_2, if_neg c_3, if_neg c_8, if_pos c_9, if_pos c_11]; (try dsimp only); exact hD⟩
            · exact absurd c_10 c_1
          · refine lv_iconst (v := 0) hx hb dX2_with_58 (by decide) ?_
            exact k_iret hx hb hr hlocks hS dX2_with_59 ⟨by rw [hJ, if_neg c_1, if_neg c_2, if_neg c_3, if_neg c_8, if_neg c_9], by rw [hJ, if_neg c_1, if_neg c_2, if_neg c_3, if_neg c_8, if_neg c_9]; (try dsimp only); exact hP, by rw [hJ, if_neg c_1, if_neg c_2, if_neg c_3, if_neg c_8, if_neg c_9]; (try dsimp only); exact hD⟩
        · refine lv_iconst (v := 1) hx hb dX2_with_47 (by decide) ?_
          refine lv_goto (tgt := 52) hx hb dX2_with_48 (by decide) ?_
          have hFc := va_free (wc := [(y, .inr (4, [.int th, .ref n2, .int kn2, .int td])), (n2, .inl (cJ, 8, .inr (.inl g)))]) hD hS hA [0, 1] rfl
          refine k_go (va_runV (As := [.int (j_X2_isNone a1), .int 1]) (rest := []) ⟨hx, hb, hml, hown, hts⟩ (cq_X2_isStopped l D cB cJ _ y n2 th g kn2 td hP (hD.weaken (fun _ _ _ _ => trivial)) (j_X2_isNone a1) (1 : Int32)) (cwV 2 hts gX2_with_X2_isStopped rfl rfl rfl (by decide +kernel) ⟨(Nat.le_of_ble_eq_true rfl), (Nat.le_of_ble_eq_true rfl)⟩) (k_preV hE hS hFc (va_recv hK hP (ci := 4) (q0 := 0) rfl rfl)) rfl rfl hl.1 rfl (lv_room (Nat.le_of_ble_eq_true rfl)) dX2_with_52 ⟨(Nat.le_of_ble_eq_true rfl), (Nat.le_of_ble_eq_true rfl)⟩) hS (fun q _ h => hFc q h) hFc (fun v H locs hp hz hk hS => ?_)
          obtain ⟨rfl, hP1, hD1⟩ := hp
          (try dsimp only at hP1 hD1)
          have hP : va_P D vwCl [(y, .inr (4, [.int (j_stT (j_X2_isNone a1) (1 : Int32)), .ref n2, .int kn2, .int td])), (n2, .inl (cJ, 8, .inr (.inl g)))] H := hP1
          have hD : va_D A [(y, .inr (4, [.int (j_stT (j_X2_isNone a1) (1 : Int32)), .ref n2, .int kn2, .int td])), (n2, .inl (cJ, 8, .inr (.inl g)))] := hD1.weaken (fun _ q _ h => hFc q.1 h)
          refine W.eq (g2 := F0 m 55 ls [.int (j_stR (j_X2_isNone a1) (1 : Int32))]) rfl ?_
          refine lv_if_eq (tgt := 60) hx hb dX2_with_55 (by decide) (fun c_13 => ?_) (fun c_13 => ?_)
          · refine lv_aload_n hx hb dX2_with_60 rfl (lv_at hl 1 rfl) ?_
            refine va_get (D := D) (ci := 4) (v := .ref n2) (C := RX2) (T := TX2) (N := 4) hx hb hts iw_X2_with_X2 hown hK hP 0 rfl rfl 1 (by decide) (hts (.fieldLink RX2 9 "ClocksoloModel" "its" "[J") (by decide +kernel)) (fun _ h9 => h9) rfl dX2_with_61 ?_
            refine lv_iload_n hx hb dX2_with_64 rfl (lv_at hl 2 rfl) ?_
            refine va_lald hx hb hK hP 1 1 rfl rfl (((((hT.2 c_1).2 c_2).2 c_3).1 c_8).1 c_13).1 dX2_with_65 ?_
            refine lv_iload_n hx hb dX2_with_66 rfl (lv_at hl 3 rfl) ?_
            refine k_pS [.long (g a1.toNatClampNeg), .int a2] (rest := []) ⟨hx, hb, hml, hown, hts⟩ (c_X2_part l D cB cJ _ (g a1.toNatClampNeg) a2) (va_cwS 2 hts gX2_with_X2_part rfl rfl rfl (by decide +kernel) ⟨(Nat.le_of_ble_eq_true rfl), (Nat.le_of_ble_eq_true rfl)⟩) hE hS rfl rfl hl.1 (Nat.le_of_ble_eq_true rfl) dX2_with_67 ⟨(Nat.le_of_ble_eq_true rfl), (Nat.le_of_ble_eq_true rfl)⟩ (fun locs hS => ?_)
            refine W.eq (g2 := F0 m 70 ls [.int (j_X2_part (g a1.toNatClampNeg) a2)]) rfl ?_
            refine lv_istore (lv' := [(5, .int (j_X2_part (g a1.toNatClampNeg) a2)), (4, .int 59), (0, .ref y), (1, .int a1), (2, .int a2), (3, .int a3)]) hx hb dX2_with_70 hl (by decide) rfl (fun ls hl => ?_)
            refine lv_iload_n hx hb dX2_with_72 rfl (lv_at hl 4 rfl) ?_
            refine lv_if_ne (tgt := 82) hx hb dX2_with_73 (by decide) (fun c_14 => ?_) (fun c_14 => ?_)
            · refine lv_iload_n hx hb dX2_with_82 rfl (lv_at hl 4 rfl) ?_
              refine lv_iconst (v := 1) hx hb dX2_with_83 (by decide) ?_
              refine lv_icmp_ne (tgt := 93) hx hb dX2_with_84 (by decide) (fun c_15 => ?_) (fun c_15 => ?_)
              · refine lv_iload_n hx hb dX2_with_93 rfl (lv_at hl 4 rfl) ?_
                refine lv_iconst (v := 2) hx hb dX2_with_94 (by decide) ?_
                refine lv_icmp_ne (tgt := 104) hx hb dX2_with_95 (by decide) (fun c_16 => ?_) (fun c_16 => ?_)
                · refine lv_lconst (v := 1) hx hb dX2_with_104 (by decide) ?_
                  refine lv_lstore (lv' := [(6, .long 1), (5, .int (j_X2_part (g a1.toNatClampNeg) a2)), (4, .int 59), (0, .ref y), (1, .int a1), (2, .int a2), (3, .int a3)]) hx hb dX2_with_105 hl (by decide) rfl (fun ls hl => ?_)
                  refine lv_aload_n hx hb dX2_with_107 rfl (lv_at hl 3 rfl) ?_
                  refine lv_iload_n hx hb dX2_with_108 rfl (lv_at hl 4 rfl) ?_
                  refine lv_aload_n hx hb dX2_with_109 rfl (lv_at hl 3 rfl) ?_
                  refine va_get (D := D) (ci := 4) (v := .ref n2) (C := RX2) (T := TX2) (N := 4) hx hb hts iw_X2_with_X2 hown hK hP 0 rfl rfl 1 (by decide) (hts (.fieldLink RX2 9 "ClocksoloModel" "its" "[J") (by decide +kernel)) (fun _ h9 => h9) rfl dX2_with_110 ?_
                  refine lv_iload_n hx hb dX2_with_113 rfl (lv_at hl 4 rfl) ?_
                  refine va_lald hx hb hK hP 1 1 rfl rfl (((((hT.2 c_1).2 c_2).2 c_3).1 c_8).1 c_13).1 dX2_with_114 ?_
                  refine lv_iload_n hx hb dX2_with_115 rfl (lv_at hl 6 rfl) ?_
                  refine lv_iload hx hb dX2_with_116 (lv_at hl 1 rfl) ?_
                  refine lv_isub hx hb dX2_with_118 ?_
                  refine lv_i2l (v := (a3 - (j_X2_part (g a1.toNatClampNeg) a2)).toInt64) hx hb dX2_with_119 rfl ?_
                  refine lv_lload hx hb dX2_with_120 (lv_at hl 0 rfl) ?_
                  refine lv_lmul hx hb dX2_with_122 ?_
                  refine lv_ladd hx hb dX2_with_123 ?_
                  have hFc := va_free (wc := [(y, .inr (4, [.int (j_stT (j_X2_isNone a1) (1 : Int32)), .ref n2, .int kn2, .int td])), (n2, .inl (cJ, 8, .inr (.inl g)))]) hD hS hA [0, 1] rfl
                  refine k_go (va_runV (As := [.int a1, .long ((g a1.toNatClampNeg) + (((a3 - (j_X2_part (g a1.toNatClampNeg) a2)).toInt64) * 1))]) (rest := []) ⟨hx, hb, hml, hown, hts⟩ (cq_X2_set l D cB cJ _ y n2 (j_stT (j_X2_isNone a1) (1 : Int32)) g kn2 td hP (hD.weaken (fun _ _ _ _ => trivial)) a1 ((g a1.toNatClampNeg) + (((a3 - (j_X2_part (g a1.toNatClampNeg) a2)).toInt64) * 1)) (((((((hT.2 c_1).2 c_2).2 c_3).1 c_8).1 c_13).2.2 c_15).2 c_16).1) (cwV 2 hts gX2_with_X2_set rfl rfl rfl (by decide +kernel) ⟨(Nat.le_of_ble_eq_true rfl), (Nat.le_of_ble_eq_true rfl)⟩) (k_preV hE hS hFc (va_recv hK hP (ci := 4) (q0 := 0) rfl rfl)) rfl rfl hl.1 rfl (lv_room (Nat.le_of_ble_eq_true rfl)) dX2_with_124 ⟨(Nat.le_of_ble_eq_true rfl), (Nat.le_of_ble_eq_true rfl)⟩) hS (fun q _ h => hFc q h) hFc (fun v H locs hp hz hk hS => ?_)
                  obtain ⟨rfl, hP1, hD1⟩ := hp
                  (try dsimp only at hP1 hD1)
                  have hP : va_P D vwCl [(y, .inr (4, [.int (j_stT (j_X2_isNone a1) (1 : Int32)), .ref n2, .int kn2, .int (td + 1)])), (n2, .inl (cJ, 8, .inr (.inl (vp_updL g a1.toNatClampNeg ((g a1.toNatClampNeg) + (((a3 - (j_X2_part (g a1.toNatClampNeg) a2)).toInt64) * 1))))))] H := hP1
                  have hD : va_D A [(y, .inr (4, [.int (j_stT (j_X2_isNone a1) (1 : Int32)), .ref n2, .int kn2, .int (td + 1)])), (n2, .inl (cJ, 8, .inr (.inl (vp_updL g a1.toNatClampNeg ((g a1.toNatClampNeg) + (((a3 - (j_X2_part (g a1.toNatClampNeg) a2)).toInt64) * 1))))))] := hD1.weaken (fun _ q _ h => hFc q.1 h)
                  refine W.eq (g2 := F0 m 127 ls [.int (j_X2_secondOf ((g a1.toNatClampNeg) + (((a3 - (j_X2_part (g a1.toNatClampNeg) a2)).toInt64) * 1)))]) rfl ?_
                  refine lv_pop hx hb dX2_with_127 rfl ?_
                  refine lv_iload hx hb dX2_with_128 (lv_at hl 1 rfl) ?_
                  exact k_iret hx hb hr hlocks hS dX2_with_130 ⟨by rw [hJ, if_neg c_1, if_neg c_2, if_neg c_3, if_pos c_8, if_pos c_13, if_neg c_15, if_neg c_16], by rw [hJ, if_neg c_1, if_neg c_2, if_neg c_3, if_pos c_8, if_pos c_13, if_neg c_15, if_neg c_16]; (try dsimp only); exact hP, by rw [hJ, if_neg c_1, if_neg c_2, if_neg c_3, if_pos c_8, if_pos c_13, if_neg c_15, if_neg c_16]; (try dsimp only); exact hD⟩
                · refine lv_ldc2 (v := 1000000000) hx hb hown (hts (.constantLong RX2 29 (1000000000)) (by decide +kernel)) dX2_with_98 ?_
                  refine lv_goto (tgt := 105) hx hb dX2_with_101 (by decide) ?_
                  refine lv_lstore (lv' := [(6, .long 1000000000), (5, .int (j_X2_part (g a1.toNatClampNeg) a2)), (4, .int 59), (0, .ref y), (1, .int a1), (2, .int a2), (3, .int a3)]) hx hb dX2_with_105 hl (by decide) rfl (fun ls hl => ?_)
                  refine lv_aload_n hx hb dX2_with_107 rfl (lv_at hl 3 rfl) ?_
                  refine lv_iload_n hx hb dX2_with_108 rfl (lv_at hl 4 rfl) ?_
                  refine lv_aload_n hx hb dX2_with_109 rfl (lv_at hl 3 rfl) ?_
                  refine va_get (D := D) (ci := 4) (v := .ref n2) (C := RX2) (T := TX2) (N := 4) hx hb hts iw_X2_with_X2 hown hK hP 0 rfl rfl 1 (by decide) (hts (.fieldLink RX2 9 "ClocksoloModel" "its" "[J") (by decide +kernel)) (fun _ h9 => h9) rfl dX2_with_110 ?_
                  refine lv_iload_n hx hb dX2_with_113 rfl (lv_at hl 4 rfl) ?_
                  refine va_lald hx hb hK hP 1 1 rfl rfl (((((hT.2 c_1).2 c_2).2 c_3).1 c_8).1 c_13).1 dX2_with_114 ?_
                  refine lv_iload_n hx hb dX2_with_115 rfl (lv_at hl 6 rfl) ?_
                  refine lv_iload hx hb dX2_with_116 (lv_at hl 1 rfl) ?_
                  refine lv_isub hx hb dX2_with_118 ?_
                  refine lv_i2l (v := (a3 - (j_X2_part (g a1.toNatClampNeg) a2)).toInt64) hx hb dX2_with_119 rfl ?_
                  refine lv_lload hx hb dX2_with_120 (lv_at hl 0 rfl) ?_
                  refine lv_lmul hx hb dX2_with_122 ?_
                  refine lv_ladd hx hb dX2_with_123 ?_
                  have hFc := va_free (wc := [(y, .inr (4, [.int (j_stT (j_X2_isNone a1) (1 : Int32)), .ref n2, .int kn2, .int td])), (n2, .inl (cJ, 8, .inr (.inl g)))]) hD hS hA [0, 1] rfl
                  refine k_go (va_runV (As := [.int a1, .long ((g a1.toNatClampNeg) + (((a3 - (j_X2_part (g a1.toNatClampNeg) a2)).toInt64) * 1000000000))]) (rest := []) ⟨hx, hb, hml, hown, hts⟩ (cq_X2_set l D cB cJ _ y n2 (j_stT (j_X2_isNone a1) (1 : Int32)) g kn2 td hP (hD.weaken (fun _ _ _ _ => trivial)) a1 ((g a1.toNatClampNeg) + (((a3 - (j_X2_part (g a1.toNatClampNeg) a2)).toInt64) * 1000000000)) (((((((hT.2 c_1).2 c_2).2 c_3).1 c_8).1 c_13).2.2 c_15).1 c_16).1) (cwV 2 hts gX2_with_X2_set rfl rfl rfl (by decide +kernel) ⟨(Nat.le_of_ble_eq_true rfl), (Nat.le_of_ble_eq_true rfl)⟩) (k_preV hE hS hFc (va_recv hK hP (ci := 4) (q0 := 0) rfl rfl)) rfl rfl hl.1 rfl (lv_room (Nat.le_of_ble_eq_true rfl)) dX2_with_124 ⟨(Nat.le_of_ble_eq_true rfl), (Nat.le_of_ble_eq_true rfl)⟩) hS (fun q _ h => hFc q h) hFc (fun v H locs hp hz hk hS => ?_)
                  obtain ⟨rfl, hP1, hD1⟩ := hp
                  (try dsimp only at hP1 hD1)
                  have hP : va_P D vwCl [(y, .inr (4, [.int (j_stT (j_X2_isNone a1) (1 : Int32)), .ref n2, .int kn2, .int (td + 1)])), (n2, .inl (cJ, 8, .inr (.inl (vp_updL g a1.toNatClampNeg ((g a1.toNatClampNeg) + (((a3 - (j_X2_part (g a1.toNatClampNeg) a2)).toInt64) * 1000000000))))))] H := hP1
                  have hD : va_D A [(y, .inr (4, [.int (j_stT (j_X2_isNone a1) (1 : Int32)), .ref n2, .int kn2, .int (td + 1)])), (n2, .inl (cJ, 8, .inr (.inl (vp_updL g a1.toNatClampNeg ((g a1.toNatClampNeg) + (((a3 - (j_X2_part (g a1.toNatClampNeg) a2)).toInt64) * 1000000000))))))] := hD1.weaken (fun _ q _ h => hFc q.1 h)
                  refine W.eq (g2 := F0 m 127 ls [.int (j_X2_secondOf ((g a1.toNatClampNeg) + (((a3 - (j_X2_part (g a1.toNatClampNeg) a2)).toInt64) * 1000000000)))]) rfl ?_
                  refine lv_pop hx hb dX2_with_127 rfl ?_
                  refine lv_iload hx hb dX2_with_128 (lv_at hl 1 rfl) ?_
                  exact k_iret hx hb hr hlocks hS dX2_with_130 ⟨by rw [hJ, if_neg c_1, if_neg c_2, if_neg c_3, if_pos c_8, if_pos c_13, if_neg c_15, if_pos c_16], by rw [hJ, if_neg c_1, if_neg c_2, if_neg c_3, if_pos c_8, if_pos c_13, if_neg c_15, if_pos c_16]; (try dsimp only); exact hP, by rw [hJ, if_neg c_1, if_neg c_2, if_neg c_3, if_pos c_8, if_pos c_13, if_neg c_15, if_pos c_16]; (try dsimp only); exact hD⟩
              · refine lv_ldc2 (v := 60000000000) hx hb hown (hts (.constantLong RX2 62 (60000000000)) (by decide +kernel)) dX2_with_87 ?_
                refine lv_goto (tgt := 105) hx hb dX2_with_90 (by decide) ?_
                refine lv_lstore (lv' := [(6, .long 60000000000), (5, .int (j_X2_part (g a1.toNatClampNeg) a2)), (4, .int 59), (0, .ref y), (1, .int a1), (2, .int a2), (3, .int a3)]) hx hb dX2_with_105 hl (by decide) rfl (fun ls hl => ?_)
                refine lv_aload_n hx hb dX2_with_107 rfl (lv_at hl 3 rfl) ?_
                refine lv_iload_n hx hb dX2_with_108 rfl (lv_at hl 4 rfl) ?_
                refine lv_aload_n hx hb dX2_with_109 rfl (lv_at hl 3 rfl) ?_
                refine va_get (D := D) (ci := 4) (v := .ref n2) (C := RX2) (T := TX2) (N := 4) hx hb hts iw_X2_with_X2 hown hK hP 0 rfl rfl 1 (by decide) (hts (.fieldLink RX2 9 "ClocksoloModel" "its" "[J") (by decide +kernel)) (fun _ h9 => h9) rfl dX2_with_110 ?_
                refine lv_iload_n hx hb dX2_with_113 rfl (lv_at hl 4 rfl) ?_
                refine va_lald hx hb hK hP 1 1 rfl rfl (((((hT.2 c_1).2 c_2).2 c_3).1 c_8).1 c_13).1 dX2_with_114 ?_
                refine lv_iload_n hx hb dX2_with_115 rfl (lv_at hl 6 rfl) ?_
                refine lv_iload hx hb dX2_with_116 (lv_at hl 1 rfl) ?_
                refine lv_isub hx hb dX2_with_118 ?_
                refine lv_i2l (v := (a3 - (j_X2_part (g a1.toNatClampNeg) a2)).toInt64) hx hb dX2_with_119 rfl ?_
                refine lv_lload hx hb dX2_with_120 (lv_at hl 0 rfl) ?_
                refine lv_lmul hx hb dX2_with_122 ?_
                refine lv_ladd hx hb dX2_with_123 ?_
                have hFc := va_free (wc := [(y, .inr (4, [.int (j_stT (j_X2_isNone a1) (1 : Int32)), .ref n2, .int kn2, .int td])), (n2, .inl (cJ, 8, .inr (.inl g)))]) hD hS hA [0, 1] rfl
                refine k_go (va_runV (As := [.int a1, .long ((g a1.toNatClampNeg) + (((a3 - (j_X2_part (g a1.toNatClampNeg) a2)).toInt64) * 60000000000))]) (rest := []) ⟨hx, hb, hml, hown, hts⟩ (cq_X2_set l D cB cJ _ y n2 (j_stT (j_X2_isNone a1) (1 : Int32)) g kn2 td hP (hD.weaken (fun _ _ _ _ => trivial)) a1 ((g a1.toNatClampNeg) + (((a3 - (j_X2_part (g a1.toNatClampNeg) a2)).toInt64) * 60000000000)) ((((((hT.2 c_1).2 c_2).2 c_3).1 c_8).1 c_13).2.1 c_15).1) (cwV 2 hts gX2_with_X2_set rfl rfl rfl (by decide +kernel) ⟨(Nat.le_of_ble_eq_true rfl), (Nat.le_of_ble_eq_true rfl)⟩) (k_preV hE hS hFc (va_recv hK hP (ci := 4) (q0 := 0) rfl rfl)) rfl rfl hl.1 rfl (lv_room (Nat.le_of_ble_eq_true rfl)) dX2_with_124 ⟨(Nat.le_of_ble_eq_true rfl), (Nat.le_of_ble_eq_true rfl)⟩) hS (fun q _ h => hFc q h) hFc (fun v H locs hp hz hk hS => ?_)
                obtain ⟨rfl, hP1, hD1⟩ := hp
                (try dsimp only at hP1 hD1)
                have hP : va_P D vwCl [(y, .inr (4, [.int (j_stT (j_X2_isNone a1) (1 : Int32)), .ref n2, .int kn2, .int (td + 1)])), (n2, .inl (cJ, 8, .inr (.inl (vp_updL g a1.toNatClampNeg ((g a1.toNatClampNeg) + (((a3 - (j_X2_part (g a1.toNatClampNeg) a2)).toInt64) * 60000000000))))))] H := hP1
                have hD : va_D A [(y, .inr (4, [.int (j_stT (j_X2_isNone a1) (1 : Int32)), .ref n2, .int kn2, .int (td + 1)])), (n2, .inl (cJ, 8, .inr (.inl (vp_updL g a1.toNatClampNeg ((g a1.toNatClampNeg) + (((a3 - (j_X2_part (g a1.toNatClampNeg) a2)).toInt64) * 60000000000))))))] := hD1.weaken (fun _ q _ h => hFc q.1 h)
                refine W.eq (g2 := F0 m 127 ls [.int (j_X2_secondOf ((g a1.toNatClampNeg) + (((a3 - (j_X2_part (g a1.toNatClampNeg) a2)).toInt64) * 60000000000)))]) rfl ?_
                refine lv_pop hx hb dX2_with_127 rfl ?_
                refine lv_iload hx hb dX2_with_128 (lv_at hl 1 rfl) ?_
                exact k_iret hx hb hr hlocks hS dX2_with_130 ⟨by rw [hJ, if_neg c_1, if_neg c_2, if_neg c_3, if_pos c_8, if_pos c_13, if_pos c_15], by rw [hJ, if_neg c_1, if_neg c_2, if_neg c_3, if_pos c_8, if_pos c_13, if_pos c_15]; (try dsimp only); exact hP, by rw [hJ, if_neg c_1, if_neg c_2, if_neg c_3, if_pos c_8, if_pos c_13, if_pos c_15]; (try dsimp only); exact hD⟩
            · exact absurd c_14 c_1
          · refine lv_iconst (v := 0) hx hb dX2_with_58 (by decide) ?_
            exact k_iret hx hb hr hlocks hS dX2_with_59 ⟨by rw [hJ, if_neg c_1, if_neg c_2, if_neg c_3, if_pos c_8, if_neg c_13], by rw [hJ, if_neg c_1, if_neg c_2, if_neg c_3, if_pos c_8, if_neg c_13]; (try dsimp only); exact hP, by rw [hJ, if_neg c_1, if_neg c_2, if_neg c_3, if_pos c_8, if_neg c_13]; (try dsimp only); exact hD⟩
    · refine lv_ldc (v := 999999999) hx hb hown (hts (.constant RX2 42 (999999999)) (by decide +kernel)) dX2_with_14 ?_
      refine lv_goto (tgt := 21) hx hb dX2_with_16 (by decide) ?_
      refine lv_istore (lv' := [(4, .int 999999999), (0, .ref y), (1, .int a1), (2, .int a2), (3, .int a3)]) hx hb dX2_with_21 hl (by decide) rfl (fun ls hl => ?_)
      refine lv_aload_n hx hb dX2_with_23 rfl (lv_at hl 1 rfl) ?_
      refine lv_iload_n hx hb dX2_with_24 rfl (lv_at hl 2 rfl) ?_
      refine k_pS [.int a1] (rest := [.ref y]) ⟨hx, hb, hml, hown, hts⟩ (c_X2_isNone l D cB cJ _ a1) (va_cwS 1 hts gX2_with_X2_isNone rfl rfl rfl (by decide +kernel) ⟨(Nat.le_of_ble_eq_true rfl), (Nat.le_of_ble_eq_true rfl)⟩) hE hS rfl rfl hl.1 (Nat.le_of_ble_eq_true rfl) dX2_with_25 ⟨(Nat.le_of_ble_eq_true rfl), (Nat.le_of_ble_eq_true rfl)⟩ (fun locs hS => ?_)
      refine W.eq (g2 := F0 m 28 ls [.int (j_X2_isNone a1), .ref y]) rfl ?_
      refine lv_iload_n hx hb dX2_with_28 rfl (lv_at hl 3 rfl) ?_
      refine lv_iconst (v := 0) hx hb dX2_with_29 (by decide) ?_
      refine lv_iconst (v := 3) hx hb dX2_with_30 (by decide) ?_
      refine k_pS [.int a2, .int 0, .int 3] (rest := [.int (j_X2_isNone a1), .ref y]) ⟨hx, hb, hml, hown, hts⟩ (c_X2_isIn l D cB cJ _ a2 0 3) (va_cwS 3 hts gX2_with_X2_isIn rfl rfl rfl (by decide +kernel) ⟨(Nat.le_of_ble_eq_true rfl), (Nat.le_of_ble_eq_true rfl)⟩) hE hS rfl rfl hl.1 (Nat.le_of_ble_eq_true rfl) dX2_with_31 ⟨(Nat.le_of_ble_eq_true rfl), (Nat.le_of_ble_eq_true rfl)⟩ (fun locs hS => ?_)
      refine W.eq (g2 := F0 m 34 ls [.int (j_X2_isIn a2 0 3), .int (j_X2_isNone a1), .ref y]) rfl ?_
      refine lv_if_eq (tgt := 47) hx hb dX2_with_34 (by decide) (fun c_17 => ?_) (fun c_17 => ?_)
      · refine lv_iconst (v := 1) hx hb dX2_with_47 (by decide) ?_
        refine lv_goto (tgt := 52) hx hb dX2_with_48 (by decide) ?_
        have hFc := va_free (wc := [(y, .inr (4, [.int th, .ref n2, .int kn2, .int td])), (n2, .inl (cJ, 8, .inr (.inl g)))]) hD hS hA [0, 1] rfl
        refine k_go (va_runV (As := [.int (j_X2_isNone a1), .int 1]) (rest := []) ⟨hx, hb, hml, hown, hts⟩ (cq_X2_isStopped l D cB cJ _ y n2 th g kn2 td hP (hD.weaken (fun _ _ _ _ => trivial)) (j_X2_isNone a1) (1 : Int32)) (cwV 2 hts gX2_with_X2_isStopped rfl rfl rfl (by decide +kernel) ⟨(Nat.le_of_ble_eq_true rfl), (Nat.le_of_ble_eq_true rfl)⟩) (k_preV hE hS hFc (va_recv hK hP (ci := 4) (q0 := 0) rfl rfl)) rfl rfl hl.1 rfl (lv_room (Nat.le_of_ble_eq_true rfl)) dX2_with_52 ⟨(Nat.le_of_ble_eq_true rfl), (Nat.le_of_ble_eq_true rfl)⟩) hS (fun q _ h => hFc q h) hFc (fun v H locs hp hz hk hS => ?_)
        obtain ⟨rfl, hP1, hD1⟩ := hp
        (try dsimp only at hP1 hD1)
        have hP : va_P D vwCl [(y, .inr (4, [.int (j_stT (j_X2_isNone a1) (1 : Int32)), .ref n2, .int kn2, .int td])), (n2, .inl (cJ, 8, .inr (.inl g)))] H := hP1
        have hD : va_D A [(y, .inr (4, [.int (j_stT (j_X2_isNone a1) (1 : Int32)), .ref n2, .int kn2, .int td])), (n2, .inl (cJ, 8, .inr (.inl g)))] := hD1.weaken (fun _ q _ h => hFc q.1 h)
        refine W.eq (g2 := F0 m 55 ls [.int (j_stR (j_X2_isNone a1) (1 : Int32))]) rfl ?_
        refine lv_if_eq (tgt := 60) hx hb dX2_with_55 (by decide) (fun c_18 => ?_) (fun c_18 => ?_)
        · refine lv_aload_n hx hb dX2_with_60 rfl (lv_at hl 1 rfl) ?_
          refine va_get (D := D) (ci := 4) (v := .ref n2) (C := RX2) (T := TX2) (N := 4) hx hb hts iw_X2_with_X2 hown hK hP 0 rfl rfl 1 (by decide) (hts (.fieldLink RX2 9 "ClocksoloModel" "its" "[J") (by decide +kernel)) (fun _ h9 => h9) rfl dX2_with_61 ?_
          refine lv_iload_n hx hb dX2_with_64 rfl (lv_at hl 2 rfl) ?_
          refine va_lald hx hb hK hP 1 1 rfl rfl ((((hT.2 c_1).1 c_2).1 c_17).1 c_18).1 dX2_with_65 ?_
          refine lv_iload_n hx hb dX2_with_66 rfl (lv_at hl 3 rfl) ?_
          refine k_pS [.long (g a1.toNatClampNeg), .int a2] (rest := []) ⟨hx, hb, hml, hown, hts⟩ (c_X2_part l D cB cJ _ (g a1.toNatClampNeg) a2) (va_cwS 2 hts gX2_with_X2_part rfl rfl rfl (by decide +kernel) ⟨(Nat.le_of_ble_eq_true rfl), (Nat.le_of_ble_eq_true rfl)⟩) hE hS rfl rfl hl.1 (Nat.le_of_ble_eq_true rfl) dX2_with_67 ⟨(Nat.le_of_ble_eq_true rfl), (Nat.le_of_ble_eq_true rfl)⟩ (fun locs hS => ?_)
          refine W.eq (g2 := F0 m 70 ls [.int (j_X2_part (g a1.toNatClampNeg) a2)]) rfl ?_
          refine lv_istore (lv' := [(5, .int (j_X2_part (g a1.toNatClampNeg) a2)), (4, .int 999999999), (0, .ref y), (1, .int a1), (2, .int a2), (3, .int a3)]) hx hb dX2_with_70 hl (by decide) rfl (fun ls hl => ?_)
          refine lv_iload_n hx hb dX2_with_72 rfl (lv_at hl 4 rfl) ?_
          refine lv_if_ne (tgt := 82) hx hb dX2_with_73 (by decide) (fun c_19 => ?_) (fun c_19 => ?_)
          · refine lv_iload_n hx hb dX2_with_82 rfl (lv_at hl 4 rfl) ?_
            refine lv_iconst (v := 1) hx hb dX2_with_83 (by decide) ?_
            refine lv_icmp_ne (tgt := 93) hx hb dX2_with_84 (by decide) (fun c_20 => ?_) (fun c_20 => ?_)
            · refine lv_iload_n hx hb dX2_with_93 rfl (lv_at hl 4 rfl) ?_
              refine lv_iconst (v := 2) hx hb dX2_with_94 (by decide) ?_
              refine lv_icmp_ne (tgt := 104) hx hb dX2_with_95 (by decide) (fun c_21 => ?_) (fun c_21 => ?_)
              · refine lv_lconst (v := 1) hx hb dX2_with_104 (by decide) ?_
                refine lv_lstore (lv' := [(6, .long 1), (5, .int (j_X2_part (g a1.toNatClampNeg) a2)), (4, .int 999999999), (0, .ref y), (1, .int a1), (2, .int a2), (3, .int a3)]) hx hb dX2_with_105 hl (by decide) rfl (fun ls hl => ?_)
                refine lv_aload_n hx hb dX2_with_107 rfl (lv_at hl 3 rfl) ?_
                refine lv_iload_n hx hb dX2_with_108 rfl (lv_at hl 4 rfl) ?_
                refine lv_aload_n hx hb dX2_with_109 rfl (lv_at hl 3 rfl) ?_
                refine va_get (D := D) (ci := 4) (v := .ref n2) (C := RX2) (T := TX2) (N := 4) hx hb hts iw_X2_with_X2 hown hK hP 0 rfl rfl 1 (by decide) (hts (.fieldLink RX2 9 "ClocksoloModel" "its" "[J") (by decide +kernel)) (fun _ h9 => h9) rfl dX2_with_110 ?_
                refine lv_iload_n hx hb dX2_with_113 rfl (lv_at hl 4 rfl) ?_
                refine va_lald hx hb hK hP 1 1 rfl rfl ((((hT.2 c_1).1 c_2).1 c_17).1 c_18).1 dX2_with_114 ?_
                refine lv_iload_n hx hb dX2_with_115 rfl (lv_at hl 6 rfl) ?_
                refine lv_iload hx hb dX2_with_116 (lv_at hl 1 rfl) ?_
                refine lv_isub hx hb dX2_with_118 ?_
                refine lv_i2l (v := (a3 - (j_X2_part (g a1.toNatClampNeg) a2)).toInt64) hx hb dX2_with_119 rfl ?_
                refine lv_lload hx hb dX2_with_120 (lv_at hl 0 rfl) ?_
                refine lv_lmul hx hb dX2_with_122 ?_
                refine lv_ladd hx hb dX2_with_123 ?_
                have hFc := va_free (wc := [(y, .inr (4, [.int (j_stT (j_X2_isNone a1) (1 : Int32)), .ref n2, .int kn2, .int td])), (n2, .inl (cJ, 8, .inr (.inl g)))]) hD hS hA [0, 1] rfl
                refine k_go (va_runV (As := [.int a1, .long ((g a1.toNatClampNeg) + (((a3 - (j_X2_part (g a1.toNatClampNeg) a2)).toInt64) * 1))]) (rest := []) ⟨hx, hb, hml, hown, hts⟩ (cq_X2_set l D cB cJ _ y n2 (j_stT (j_X2_isNone a1) (1 : Int32)) g kn2 td hP (hD.weaken (fun _ _ _ _ => trivial)) a1 ((g a1.toNatClampNeg) + (((a3 - (j_X2_part (g a1.toNatClampNeg) a2)).toInt64) * 1)) ((((((hT.2 c_1).1 c_2).1 c_17).1 c_18).2.2 c_20).2 c_21).1) (cwV 2 hts gX2_with_X2_set rfl rfl rfl (by decide +kernel) ⟨(Nat.le_of_ble_eq_true rfl), (Nat.le_of_ble_eq_true rfl)⟩) (k_preV hE hS hFc (va_recv hK hP (ci := 4) (q0 := 0) rfl rfl)) rfl rfl hl.1 rfl (lv_room (Nat.le_of_ble_eq_true rfl)) dX2_with_124 ⟨(Nat.le_of_ble_eq_true rfl), (Nat.le_of_ble_eq_true rfl)⟩) hS (fun q _ h => hFc q h) hFc (fun v H locs hp hz hk hS => ?_)
                obtain ⟨rfl, hP1, hD1⟩ := hp
                (try dsimp only at hP1 hD1)
                have hP : va_P D vwCl [(y, .inr (4, [.int (j_stT (j_X2_isNone a1) (1 : Int32)), .ref n2, .int kn2, .int (td + 1)])), (n2, .inl (cJ, 8, .inr (.inl (vp_updL g a1.toNatClampNeg ((g a1.toNatClampNeg) + (((a3 - (j_X2_part (g a1.toNatClampNeg) a2)).toInt64) * 1))))))] H := hP1
                have hD : va_D A [(y, .inr (4, [.int (j_stT (j_X2_isNone a1) (1 : Int32)), .ref n2, .int kn2, .int (td + 1)])), (n2, .inl (cJ, 8, .inr (.inl (vp_updL g a1.toNatClampNeg ((g a1.toNatClampNeg) + (((a3 - (j_X2_part (g a1.toNatClampNeg) a2)).toInt64) * 1))))))] := hD1.weaken (fun _ q _ h => hFc q.1 h)
                refine W.eq (g2 := F0 m 127 ls [.int (j_X2_secondOf ((g a1.toNatClampNeg) + (((a3 - (j_X2_part (g a1.toNatClampNeg) a2)).toInt64) * 1)))]) rfl ?_
                refine lv_pop hx hb dX2_with_127 rfl ?_
                refine lv_iload hx hb dX2_with_128 (lv_at hl 1 rfl) ?_
                exact k_iret hx hb hr hlocks hS dX2_with_130 ⟨by rw [hJ, if_neg c_1, if_pos c_2, if_pos c_17, if_pos c_18, if_neg c_20, if_neg c_21], by rw [hJ, if_neg c_1, if_pos c_2, if_pos c_17, if_pos c_18, if_neg c_20, if_neg c_21]; (try dsimp only); exact hP, by rw [hJ, if_neg c_1, if_pos c_2, if_pos c_17, if_pos c_18, if_neg c_20, if_neg c_21]; (try dsimp only); exact hD⟩
              · refine lv_ldc2 (v := 1000000000) hx hb hown (hts (.constantLong RX2 29 (1000000000)) (by decide +kernel)) dX2_with_98 ?_
                refine lv_goto (tgt := 105) hx hb dX2_with_101 (by decide) ?_
                refine lv_lstore (lv' := [(6, .long 1000000000), (5, .int (j_X2_part (g a1.toNatClampNeg) a2)), (4, .int 999999999), (0, .ref y), (1, .int a1), (2, .int a2), (3, .int a3)]) hx hb dX2_with_105 hl (by decide) rfl (fun ls hl => ?_)
                refine lv_aload_n hx hb dX2_with_107 rfl (lv_at hl 3 rfl) ?_
                refine lv_iload_n hx hb dX2_with_108 rfl (lv_at hl 4 rfl) ?_
                refine lv_aload_n hx hb dX2_with_109 rfl (lv_at hl 3 rfl) ?_
                refine va_get (D := D) (ci := 4) (v := .ref n2) (C := RX2) (T := TX2) (N := 4) hx hb hts iw_X2_with_X2 hown hK hP 0 rfl rfl 1 (by decide) (hts (.fieldLink RX2 9 "ClocksoloModel" "its" "[J") (by decide +kernel)) (fun _ h9 => h9) rfl dX2_with_110 ?_
                refine lv_iload_n hx hb dX2_with_113 rfl (lv_at hl 4 rfl) ?_
                refine va_lald hx hb hK hP 1 1 rfl rfl ((((hT.2 c_1).1 c_2).1 c_17).1 c_18).1 dX2_with_114 ?_
                refine lv_iload_n hx hb dX2_with_115 rfl (lv_at hl 6 rfl) ?_
                refine lv_iload hx hb dX2_with_116 (lv_at hl 1 rfl) ?_
                refine lv_isub hx hb dX2_with_118 ?_
                refine lv_i2l (v := (a3 - (j_X2_part (g a1.toNatClampNeg) a2)).toInt64) hx hb dX2_with_119 rfl ?_
                refine lv_lload hx hb dX2_with_120 (lv_at hl 0 rfl) ?_
                refine lv_lmul hx hb dX2_with_122 ?_
                refine lv_ladd hx hb dX2_with_123 ?_
                have hFc := va_free (wc := [(y, .inr (4, [.int (j_stT (j_X2_isNone a1) (1 : Int32)), .ref n2, .int kn2, .int td])), (n2, .inl (cJ, 8, .inr (.inl g)))]) hD hS hA [0, 1] rfl
                refine k_go (va_runV (As := [.int a1, .long ((g a1.toNatClampNeg) + (((a3 - (j_X2_part (g a1.toNatClampNeg) a2)).toInt64) * 1000000000))]) (rest := []) ⟨hx, hb, hml, hown, hts⟩ (cq_X2_set l D cB cJ _ y n2 (j_stT (j_X2_isNone a1) (1 : Int32)) g kn2 td hP (hD.weaken (fun _ _ _ _ => trivial)) a1 ((g a1.toNatClampNeg) + (((a3 - (j_X2_part (g a1.toNatClampNeg) a2)).toInt64) * 1000000000)) ((((((hT.2 c_1).1 c_2).1 c_17).1 c_18).2.2 c_20).1 c_21).1) (cwV 2 hts gX2_with_X2_set rfl rfl rfl (by decide +kernel) ⟨(Nat.le_of_ble_eq_true rfl), (Nat.le_of_ble_eq_true rfl)⟩) (k_preV hE hS hFc (va_recv hK hP (ci := 4) (q0 := 0) rfl rfl)) rfl rfl hl.1 rfl (lv_room (Nat.le_of_ble_eq_true rfl)) dX2_with_124 ⟨(Nat.le_of_ble_eq_true rfl), (Nat.le_of_ble_eq_true rfl)⟩) hS (fun q _ h => hFc q h) hFc (fun v H locs hp hz hk hS => ?_)
                obtain ⟨rfl, hP1, hD1⟩ := hp
                (try dsimp only at hP1 hD1)
                have hP : va_P D vwCl [(y, .inr (4, [.int (j_stT (j_X2_isNone a1) (1 : Int32)), .ref n2, .int kn2, .int (td + 1)])), (n2, .inl (cJ, 8, .inr (.inl (vp_updL g a1.toNatClampNeg ((g a1.toNatClampNeg) + (((a3 - (j_X2_part (g a1.toNatClampNeg) a2)).toInt64) * 1000000000))))))] H := hP1
                have hD : va_D A [(y, .inr (4, [.int (j_stT (j_X2_isNone a1) (1 : Int32)), .ref n2, .int kn2, .int (td + 1)])), (n2, .inl (cJ, 8, .inr (.inl (vp_updL g a1.toNatClampNeg ((g a1.toNatClampNeg) + (((a3 - (j_X2_part (g a1.toNatClampNeg) a2)).toInt64) * 1000000000))))))] := hD1.weaken (fun _ q _ h => hFc q.1 h)
                refine W.eq (g2 := F0 m 127 ls [.int (j_X2_secondOf ((g a1.toNatClampNeg) + (((a3 - (j_X2_part (g a1.toNatClampNeg) a2)).toInt64) * 1000000000)))]) rfl ?_
                refine lv_pop hx hb dX2_with_127 rfl ?_
                refine lv_iload hx hb dX2_with_128 (lv_at hl 1 rfl) ?_
                exact k_iret hx hb hr hlocks hS dX2_with_130 ⟨by rw [hJ, if_neg c_1, if_pos c_2, if_pos c_17, if_pos c_18, if_neg c_20, if_pos c_21], by rw [hJ, if_neg c_1, if_pos c_2, if_pos c_17, if_pos c_18, if_neg c_20, if_pos c_21]; (try dsimp only); exact hP, by rw [hJ, if_neg c_1, if_pos c_2, if_pos c_17, if_pos c_18, if_neg c_20, if_pos c_21]; (try dsimp only); exact hD⟩
            · refine lv_ldc2 (v := 60000000000) hx hb hown (hts (.constantLong RX2 62 (60000000000)) (by decide +kernel)) dX2_with_87 ?_
              refine lv_goto (tgt := 105) hx hb dX2_with_90 (by decide) ?_
              refine lv_lstore (lv' := [(6, .long 60000000000), (5, .int (j_X2_part (g a1.toNatClampNeg) a2)), (4, .int 999999999), (0, .ref y), (1, .int a1), (2, .int a2), (3, .int a3)]) hx hb dX2_with_105 hl (by decide) rfl (fun ls hl => ?_)
              refine lv_aload_n hx hb dX2_with_107 rfl (lv_at hl 3 rfl) ?_
              refine lv_iload_n hx hb dX2_with_108 rfl (lv_at hl 4 rfl) ?_
              refine lv_aload_n hx hb dX2_with_109 rfl (lv_at hl 3 rfl) ?_
              refine va_get (D := D) (ci := 4) (v := .ref n2) (C := RX2) (T := TX2) (N := 4) hx hb hts iw_X2_with_X2 hown hK hP 0 rfl rfl 1 (by decide) (hts (.fieldLink RX2 9 "ClocksoloModel" "its" "[J") (by decide +kernel)) (fun _ h9 => h9) rfl dX2_with_110 ?_
              refine lv_iload_n hx hb dX2_with_113 rfl (lv_at hl 4 rfl) ?_
              refine va_lald hx hb hK hP 1 1 rfl rfl ((((hT.2 c_1).1 c_2).1 c_17).1 c_18).1 dX2_with_114 ?_
              refine lv_iload_n hx hb dX2_with_115 rfl (lv_at hl 6 rfl) ?_
              refine lv_iload hx hb dX2_with_116 (lv_at hl 1 rfl) ?_
              refine lv_isub hx hb dX2_with_118 ?_
              refine lv_i2l (v := (a3 - (j_X2_part (g a1.toNatClampNeg) a2)).toInt64) hx hb dX2_with_119 rfl ?_
              refine lv_lload hx hb dX2_with_120 (lv_at hl 0 rfl) ?_
              refine lv_lmul hx hb dX2_with_122 ?_
              refine lv_ladd hx hb dX2_with_123 ?_
              have hFc := va_free (wc := [(y, .inr (4, [.int (j_stT (j_X2_isNone a1) (1 : Int32)), .ref n2, .int kn2, .int td])), (n2, .inl (cJ, 8, .inr (.inl g)))]) hD hS hA [0, 1] rfl
              refine k_go (va_runV (As := [.int a1, .long ((g a1.toNatClampNeg) + (((a3 - (j_X2_part (g a1.toNatClampNeg) a2)).toInt64) * 60000000000))]) (rest := []) ⟨hx, hb, hml, hown, hts⟩ (cq_X2_set l D cB cJ _ y n2 (j_stT (j_X2_isNone a1) (1 : Int32)) g kn2 td hP (hD.weaken (fun _ _ _ _ => trivial)) a1 ((g a1.toNatClampNeg) + (((a3 - (j_X2_part (g a1.toNatClampNeg) a2)).toInt64) * 60000000000)) (((((hT.2 c_1).1 c_2).1 c_17).1 c_18).2.1 c_20).1) (cwV 2 hts gX2_with_X2_set rfl rfl rfl (by decide +kernel) ⟨(Nat.le_of_ble_eq_true rfl), (Nat.le_of_ble_eq_true rfl)⟩) (k_preV hE hS hFc (va_recv hK hP (ci := 4) (q0 := 0) rfl rfl)) rfl rfl hl.1 rfl (lv_room (Nat.le_of_ble_eq_true rfl)) dX2_with_124 ⟨(Nat.le_of_ble_eq_true rfl), (Nat.le_of_ble_eq_true rfl)⟩) hS (fun q _ h => hFc q h) hFc (fun v H locs hp hz hk hS => ?_)
              obtain ⟨rfl, hP1, hD1⟩ := hp
              (try dsimp only at hP1 hD1)
              have hP : va_P D vwCl [(y, .inr (4, [.int (j_stT (j_X2_isNone a1) (1 : Int32)), .ref n2, .int kn2, .int (td + 1)])), (n2, .inl (cJ, 8, .inr (.inl (vp_updL g a1.toNatClampNeg ((g a1.toNatClampNeg) + (((a3 - (j_X2_part (g a1.toNatClampNeg) a2)).toInt64) * 60000000000))))))] H := hP1
              have hD : va_D A [(y, .inr (4, [.int (j_stT (j_X2_isNone a1) (1 : Int32)), .ref n2, .int kn2, .int (td + 1)])), (n2, .inl (cJ, 8, .inr (.inl (vp_updL g a1.toNatClampNeg ((g a1.toNatClampNeg) + (((a3 - (j_X2_part (g a1.toNatClampNeg) a2)).toInt64) * 60000000000))))))] := hD1.weaken (fun _ q _ h => hFc q.1 h)
              refine W.eq (g2 := F0 m 127 ls [.int (j_X2_secondOf ((g a1.toNatClampNeg) + (((a3 - (j_X2_part (g a1.toNatClampNeg) a2)).toInt64) * 60000000000)))]) rfl ?_
              refine lv_pop hx hb dX2_with_127 rfl ?_
              refine lv_iload hx hb dX2_with_128 (lv_at hl 1 rfl) ?_
              exact k_iret hx hb hr hlocks hS dX2_with_130 ⟨by rw [hJ, if_neg c_1, if_pos c_2, if_pos c_17, if_pos c_18, if_pos c_20], by rw [hJ, if_neg c_1, if_pos c_2, if_pos c_17, if_pos c_18, if_pos c_20]; (try dsimp only); exact hP, by rw [hJ, if_neg c_1, if_pos c_2, if_pos c_17, if_pos c_18, if_pos c_20]; (try dsimp only); exact hD⟩
          · exact absurd c_19 c_1
        · refine lv_iconst (v := 0) hx hb dX2_with_58 (by decide) ?_
          exact k_iret hx hb hr hlocks hS dX2_with_59 ⟨by rw [hJ, if_neg c_1, if_pos c_2, if_pos c_17, if_neg c_18], by rw [hJ, if_neg c_1, if_pos c_2, if_pos c_17, if_neg c_18]; (try dsimp only); exact hP, by rw [hJ, if_neg c_1, if_pos c_2, if_pos c_17, if_neg c_18]; (try dsimp only); exact hD⟩
      · refine lv_iload_n hx hb dX2_with_37 rfl (lv_at hl 4 rfl) ?_
        refine lv_iconst (v := 0) hx hb dX2_with_38 (by decide) ?_
        refine lv_iload hx hb dX2_with_39 (lv_at hl 0 rfl) ?_
        refine k_pS [.int a3, .int 0, .int 999999999] (rest := [.int (j_X2_isNone a1), .ref y]) ⟨hx, hb, hml, hown, hts⟩ (c_X2_isIn l D cB cJ _ a3 0 999999999) (va_cwS 3 hts gX2_with_X2_isIn rfl rfl rfl (by decide +kernel) ⟨(Nat.le_of_ble_eq_true rfl), (Nat.le_of_ble_eq_true rfl)⟩) hE hS rfl rfl hl.1 (Nat.le_of_ble_eq_true rfl) dX2_with_41 ⟨(Nat.le_of_ble_eq_true rfl), (Nat.le_of_ble_eq_true rfl)⟩ (fun locs hS => ?_)
        refine W.eq (g2 := F0 m 44 ls [.int (j_X2_isIn a3 0 999999999), .int (j_X2_isNone a1), .ref y]) rfl ?_
        refine lv_if_ne (tgt := 51) hx hb dX2_with_44 (by decide) (fun c_22 => ?_) (fun c_22 => ?_)
        · refine lv_iconst (v := 0) hx hb dX2_with_51 (by decide) ?_
          have hFc := va_free (wc := [(y, .inr (4, [.int th, .ref n2, .int kn2, .int td])), (n2, .inl (cJ, 8, .inr (.inl g)))]) hD hS hA [0, 1] rfl
          refine k_go (va_runV (As := [.int (j_X2_isNone a1), .int 0]) (rest := []) ⟨hx, hb, hml, hown, hts⟩ (cq_X2_isStopped l D cB cJ _ y n2 th g kn2 td hP (hD.weaken (fun _ _ _ _ => trivial)) (j_X2_isNone a1) (0 : Int32)) (cwV 2 hts gX2_with_X2_isStopped rfl rfl rfl (by decide +kernel) ⟨(Nat.le_of_ble_eq_true rfl), (Nat.le_of_ble_eq_true rfl)⟩) (k_preV hE hS hFc (va_recv hK hP (ci := 4) (q0 := 0) rfl rfl)) rfl rfl hl.1 rfl (lv_room (Nat.le_of_ble_eq_true rfl)) dX2_with_52 ⟨(Nat.le_of_ble_eq_true rfl), (Nat.le_of_ble_eq_true rfl)⟩) hS (fun q _ h => hFc q h) hFc (fun v H locs hp hz hk hS => ?_)
          obtain ⟨rfl, hP1, hD1⟩ := hp
          (try dsimp only at hP1 hD1)
          have hP : va_P D vwCl [(y, .inr (4, [.int (j_stT (j_X2_isNone a1) (0 : Int32)), .ref n2, .int kn2, .int td])), (n2, .inl (cJ, 8, .inr (.inl g)))] H := hP1
          have hD : va_D A [(y, .inr (4, [.int (j_stT (j_X2_isNone a1) (0 : Int32)), .ref n2, .int kn2, .int td])), (n2, .inl (cJ, 8, .inr (.inl g)))] := hD1.weaken (fun _ q _ h => hFc q.1 h)
          refine W.eq (g2 := F0 m 55 ls [.int (j_stR (j_X2_isNone a1) (0 : Int32))]) rfl ?_
          refine lv_if_eq (tgt := 60) hx hb dX2_with_55 (by decide) (fun c_23 => ?_) (fun c_23 => ?_)
          · refine lv_aload_n hx hb dX2_with_60 rfl (lv_at hl 1 rfl) ?_
            refine va_get (D := D) (ci := 4) (v := .ref n2) (C := RX2) (T := TX2) (N := 4) hx hb hts iw_X2_with_X2 hown hK hP 0 rfl rfl 1 (by decide) (hts (.fieldLink RX2 9 "ClocksoloModel" "its" "[J") (by decide +kernel)) (fun _ h9 => h9) rfl dX2_with_61 ?_
            refine lv_iload_n hx hb dX2_with_64 rfl (lv_at hl 2 rfl) ?_
            refine va_lald hx hb hK hP 1 1 rfl rfl (((((hT.2 c_1).1 c_2).2 c_17).2 c_22).1 c_23).1 dX2_with_65 ?_
            refine lv_iload_n hx hb dX2_with_66 rfl (lv_at hl 3 rfl) ?_
            refine k_pS [.long (g a1.toNatClampNeg), .int a2] (rest := []) ⟨hx, hb, hml, hown, hts⟩ (c_X2_part l D cB cJ _ (g a1.toNatClampNeg) a2) (va_cwS 2 hts gX2_with_X2_part rfl rfl rfl (by decide +kernel) ⟨(Nat.le_of_ble_eq_true rfl), (Nat.le_of_ble_eq_true rfl)⟩) hE hS rfl rfl hl.1 (Nat.le_of_ble_eq_true rfl) dX2_with_67 ⟨(Nat.le_of_ble_eq_true rfl), (Nat.le_of_ble_eq_true rfl)⟩ (fun locs hS => ?_)
            refine W.eq (g2 := F0 m 70 ls [.int (j_X2_part (g a1.toNatClampNeg) a2)]) rfl ?_
            refine lv_istore (lv' := [(5, .int (j_X2_part (g a1.toNatClampNeg) a2)), (4, .int 999999999), (0, .ref y), (1, .int a1), (2, .int a2), (3, .int a3)]) hx hb dX2_with_70 hl (by decide) rfl (fun ls hl => ?_)
            refine lv_iload_n hx hb dX2_with_72 rfl (lv_at hl 4 rfl) ?_
            refine lv_if_ne (tgt := 82) hx hb dX2_with_73 (by decide) (fun c_24 => ?_) (fun c_24 => ?_)
            · refine lv_iload_n hx hb dX2_with_82 rfl (lv_at hl 4 rfl) ?_
              refine lv_iconst (v := 1) hx hb dX2_with_83 (by decide) ?_
              refine lv_icmp_ne (tgt := 93) hx hb dX2_with_84 (by decide) (fun c_25 => ?_) (fun c_25 => ?_)
              · refine lv_iload_n hx hb dX2_with_93 rfl (lv_at hl 4 rfl) ?_
                refine lv_iconst (v := 2) hx hb dX2_with_94 (by decide) ?_
                refine lv_icmp_ne (tgt := 104) hx hb dX2_with_95 (by decide) (fun c_26 => ?_) (fun c_26 => ?_)
                · refine lv_lconst (v := 1) hx hb dX2_with_104 (by decide) ?_
                  refine lv_lstore (lv' := [(6, .long 1), (5, .int (j_X2_part (g a1.toNatClampNeg) a2)), (4, .int 999999999), (0, .ref y), (1, .int a1), (2, .int a2), (3, .int a3)]) hx hb dX2_with_105 hl (by decide) rfl (fun ls hl => ?_)
                  refine lv_aload_n hx hb dX2_with_107 rfl (lv_at hl 3 rfl) ?_
                  refine lv_iload_n hx hb dX2_with_108 rfl (lv_at hl 4 rfl) ?_
                  refine lv_aload_n hx hb dX2_with_109 rfl (lv_at hl 3 rfl) ?_
                  refine va_get (D := D) (ci := 4) (v := .ref n2) (C := RX2) (T := TX2) (N := 4) hx hb hts iw_X2_with_X2 hown hK hP 0 rfl rfl 1 (by decide) (hts (.fieldLink RX2 9 "ClocksoloModel" "its" "[J") (by decide +kernel)) (fun _ h9 => h9) rfl dX2_with_110 ?_
                  refine lv_iload_n hx hb dX2_with_113 rfl (lv_at hl 4 rfl) ?_
                  refine va_lald hx hb hK hP 1 1 rfl rfl (((((hT.2 c_1).1 c_2).2 c_17).2 c_22).1 c_23).1 dX2_with_114 ?_
                  refine lv_iload_n hx hb dX2_with_115 rfl (lv_at hl 6 rfl) ?_
                  refine lv_iload hx hb dX2_with_116 (lv_at hl 1 rfl) ?_
                  refine lv_isub hx hb dX2_with_118 ?_
                  refine lv_i2l (v := (a3 - (j_X2_part (g a1.toNatClampNeg) a2)).toInt64) hx hb dX2_with_119 rfl ?_
                  refine lv_lload hx hb dX2_with_120 (lv_at hl 0 rfl) ?_
                  refine lv_lmul hx hb dX2_with_122 ?_
                  refine lv_ladd hx hb dX2_with_123 ?_
                  have hFc := va_free (wc := [(y, .inr (4, [.int (j_stT (j_X2_isNone a1) (0 : Int32)), .ref n2, .int kn2, .int td])), (n2, .inl (cJ, 8, .inr (.inl g)))]) hD hS hA [0, 1] rfl
                  refine k_go (va_runV (As := [.int a1, .long ((g a1.toNatClampNeg) + (((a3 - (j_X2_part (g a1.toNatClampNeg) a2)).toInt64) * 1))]) (rest := []) ⟨hx, hb, hml, hown, hts⟩ (cq_X2_set l D cB cJ _ y n2 (j_stT (j_X2_isNone a1) (0 : Int32)) g kn2 td hP (hD.weaken (fun _ _ _ _ => trivial)) a1 ((g a1.toNatClampNeg) + (((a3 - (j_X2_part (g a1.toNatClampNeg) a2)).toInt64) * 1)) (((((((hT.2 c_1).1 c_2).2 c_17).2 c_22).1 c_23).2.2 c_25).2 c_26).1) (cwV 2 hts gX2_with_X2_set rfl rfl rfl (by decide +kernel) ⟨(Nat.le_of_ble_eq_true rfl), (Nat.le_of_ble_eq_true rfl)⟩) (k_preV hE hS hFc (va_recv hK hP (ci := 4) (q0 := 0) rfl rfl)) rfl rfl hl.1 rfl (lv_room (Nat.le_of_ble_eq_true rfl)) dX2_with_124 ⟨(Nat.le_of_ble_eq_true rfl), (Nat.le_of_ble_eq_true rfl)⟩) hS (fun q _ h => hFc q h) hFc (fun v H locs hp hz hk hS => ?_)
                  obtain ⟨rfl, hP1, hD1⟩ := hp
                  (try dsimp only at hP1 hD1)
                  have hP : va_P D vwCl [(y, .inr (4, [.int (j_stT (j_X2_isNone a1) (0 : Int32)), .ref n2, .int kn2, .int (td + 1)])), (n2, .inl (cJ, 8, .inr (.inl (vp_updL g a1.toNatClampNeg ((g a1.toNatClampNeg) + (((a3 - (j_X2_part (g a1.toNatClampNeg) a2)).toInt64) * 1))))))] H := hP1
                  have hD : va_D A [(y, .inr (4, [.int (j_stT (j_X2_isNone a1) (0 : Int32)), .ref n2, .int kn2, .int (td + 1)])), (n2, .inl (cJ, 8, .inr (.inl (vp_updL g a1.toNatClampNeg ((g a1.toNatClampNeg) + (((a3 - (j_X2_part (g a1.toNatClampNeg) a2)).toInt64) * 1))))))] := hD1.weaken (fun _ q _ h => hFc q.1 h)
                  refine W.eq (g2 := F0 m 127 ls [.int (j_X2_secondOf ((g a1.toNatClampNeg) + (((a3 - (j_X2_part (g a1.toNatClampNeg) a2)).toInt64) * 1)))]) rfl ?_
                  refine lv_pop hx hb dX2_with_127 rfl ?_
                  refine lv_iload hx hb dX2_with_128 (lv_at hl 1 rfl) ?_
                  exact k_iret hx hb hr hlocks hS dX2_with_130 ⟨by rw [hJ, if_neg c_1, if_pos c_2, if_neg c_17, if_neg c_22, if_pos c_23, if_neg c_25, if_neg c_26], by rw [hJ, if_neg c_1, if_pos c_2, if_neg c_17, if_neg c_22, if_pos c_23, if_neg c_25, if_neg c_26]; (try dsimp only); exact hP, by rw [hJ, if_neg c_1, if_pos c_2, if_neg c_17, if_neg c_22, if_pos c_23, if_neg c_25, if_neg c_26]; (try dsimp only); exact hD⟩
                · refine lv_ldc2 (v := 1000000000) hx hb hown (hts (.constantLong RX2 29 (1000000000)) (by decide +kernel)) dX2_with_98 ?_
                  refine lv_goto (tgt := 105) hx hb dX2_with_101 (by decide) ?_
                  refine lv_lstore (lv' := [(6, .long 1000000000), (5, .int (j_X2_part (g a1.toNatClampNeg) a2)), (4, .int 999999999), (0, .ref y), (1, .int a1), (2, .int a2), (3, .int a3)]) hx hb dX2_with_105 hl (by decide) rfl (fun ls hl => ?_)
                  refine lv_aload_n hx hb dX2_with_107 rfl (lv_at hl 3 rfl) ?_
                  refine lv_iload_n hx hb dX2_with_108 rfl (lv_at hl 4 rfl) ?_
                  refine lv_aload_n hx hb dX2_with_109 rfl (lv_at hl 3 rfl) ?_
                  refine va_get (D := D) (ci := 4) (v := .ref n2) (C := RX2) (T := TX2) (N := 4) hx hb hts iw_X2_with_X2 hown hK hP 0 rfl rfl 1 (by decide) (hts (.fieldLink RX2 9 "ClocksoloModel" "its" "[J") (by decide +kernel)) (fun _ h9 => h9) rfl dX2_with_110 ?_
                  refine lv_iload_n hx hb dX2_with_113 rfl (lv_at hl 4 rfl) ?_
                  refine va_lald hx hb hK hP 1 1 rfl rfl (((((hT.2 c_1).1 c_2).2 c_17).2 c_22).1 c_23).1 dX2_with_114 ?_
                  refine lv_iload_n hx hb dX2_with_115 rfl (lv_at hl 6 rfl) ?_
                  refine lv_iload hx hb dX2_with_116 (lv_at hl 1 rfl) ?_
                  refine lv_isub hx hb dX2_with_118 ?_
                  refine lv_i2l (v := (a3 - (j_X2_part (g a1.toNatClampNeg) a2)).toInt64) hx hb dX2_with_119 rfl ?_
                  refine lv_lload hx hb dX2_with_120 (lv_at hl 0 rfl) ?_
                  refine lv_lmul hx hb dX2_with_122 ?_
                  refine lv_ladd hx hb dX2_with_123 ?_
                  have hFc := va_free (wc := [(y, .inr (4, [.int (j_stT (j_X2_isNone a1) (0 : Int32)), .ref n2, .int kn2, .int td])), (n2, .inl (cJ, 8, .inr (.inl g)))]) hD hS hA [0, 1] rfl
                  refine k_go (va_runV (As := [.int a1, .long ((g a1.toNatClampNeg) + (((a3 - (j_X2_part (g a1.toNatClampNeg) a2)).toInt64) * 1000000000))]) (rest := []) ⟨hx, hb, hml, hown, hts⟩ (cq_X2_set l D cB cJ _ y n2 (j_stT (j_X2_isNone a1) (0 : Int32)) g kn2 td hP (hD.weaken (fun _ _ _ _ => trivial)) a1 ((g a1.toNatClampNeg) + (((a3 - (j_X2_part (g a1.toNatClampNeg) a2)).toInt64) * 1000000000)) (((((((hT.2 c_1).1 c_2).2 c_17).2 c_22).1 c_23).2.2 c_25).1 c_26).1) (cwV 2 hts gX2_with_X2_set rfl rfl rfl (by decide +kernel) ⟨(Nat.le_of_ble_eq_true rfl), (Nat.le_of_ble_eq_true rfl)⟩) (k_preV hE hS hFc (va_recv hK hP (ci := 4) (q0 := 0) rfl rfl)) rfl rfl hl.1 rfl (lv_room (Nat.le_of_ble_eq_true rfl)) dX2_with_124 ⟨(Nat.le_of_ble_eq_true rfl), (Nat.le_of_ble_eq_true rfl)⟩) hS (fun q _ h => hFc q h) hFc (fun v H locs hp hz hk hS => ?_)
                  obtain ⟨rfl, hP1, hD1⟩ := hp
                  (try dsimp only at hP1 hD1)
                  have hP : va_P D vwCl [(y, .inr (4, [.int (j_stT (j_X2_isNone a1) (0 : Int32)), .ref n2, .int kn2, .int (td + 1)])), (n2, .inl (cJ, 8, .inr (.inl (vp_updL g a1.toNatClampNeg ((g a1.toNatClampNeg) + (((a3 - (j_X2_part (g a1.toNatClampNeg) a2)).toInt64) * 1000000000))))))] H := hP1
                  have hD : va_D A [(y, .inr (4, [.int (j_stT (j_X2_isNone a1) (0 : Int32)), .ref n2, .int kn2, .int (td + 1)])), (n2, .inl (cJ, 8, .inr (.inl (vp_updL g a1.toNatClampNeg ((g a1.toNatClampNeg) + (((a3 - (j_X2_part (g a1.toNatClampNeg) a2)).toInt64) * 1000000000))))))] := hD1.weaken (fun _ q _ h => hFc q.1 h)
                  refine W.eq (g2 := F0 m 127 ls [.int (j_X2_secondOf ((g a1.toNatClampNeg) + (((a3 - (j_X2_part (g a1.toNatClampNeg) a2)).toInt64) * 1000000000)))]) rfl ?_
                  refine lv_pop hx hb dX2_with_127 rfl ?_
                  refine lv_iload hx hb dX2_with_128 (lv_at hl 1 rfl) ?_
                  exact k_iret hx hb hr hlocks hS dX2_with_130 ⟨by rw [hJ, if_neg c_1, if_pos c_2, if_neg c_17, if_neg c_22, if_pos c_23, if_neg c_25, if_pos c_26], by rw [hJ, if_neg c_1, if_pos c_2, if_neg c_17, if_neg c_22, if_pos c_23, if_neg c_25, if_pos c_26]; (try dsimp only); exact hP, by rw [hJ, if_neg c_1, if_pos c_2, if_neg c_17, if_neg c_22, if_pos c_23, if_neg c_25, if_pos c_26]; (try dsimp only); exact hD⟩
              · refine lv_ldc2 (v := 60000000000) hx hb hown (hts (.constantLong RX2 62 (60000000000)) (by decide +kernel)) dX2_with_87 ?_
                refine lv_goto (tgt := 105) hx hb dX2_with_90 (by decide) ?_
                refine lv_lstore (lv' := [(6, .long 60000000000), (5, .int (j_X2_part (g a1.toNatClampNeg) a2)), (4, .int 999999999), (0, .ref y), (1, .int a1), (2, .int a2), (3, .int a3)]) hx hb dX2_with_105 hl (by decide) rfl (fun ls hl => ?_)
                refine lv_aload_n hx hb dX2_with_107 rfl (lv_at hl 3 rfl) ?_
                refine lv_iload_n hx hb dX2_with_108 rfl (lv_at hl 4 rfl) ?_
                refine lv_aload_n hx hb dX2_with_109 rfl (lv_at hl 3 rfl) ?_
                refine va_get (D := D) (ci := 4) (v := .ref n2) (C := RX2) (T := TX2) (N := 4) hx hb hts iw_X2_with_X2 hown hK hP 0 rfl rfl 1 (by decide) (hts (.fieldLink RX2 9 "ClocksoloModel" "its" "[J") (by decide +kernel)) (fun _ h9 => h9) rfl dX2_with_110 ?_
                refine lv_iload_n hx hb dX2_with_113 rfl (lv_at hl 4 rfl) ?_
                refine va_lald hx hb hK hP 1 1 rfl rfl (((((hT.2 c_1).1 c_2).2 c_17).2 c_22).1 c_23).1 dX2_with_114 ?_
                refine lv_iload_n hx hb dX2_with_115 rfl (lv_at hl 6 rfl) ?_
                refine lv_iload hx hb dX2_with_116 (lv_at hl 1 rfl) ?_
                refine lv_isub hx hb dX2_with_118 ?_
                refine lv_i2l (v := (a3 - (j_X2_part (g a1.toNatClampNeg) a2)).toInt64) hx hb dX2_with_119 rfl ?_
                refine lv_lload hx hb dX2_with_120 (lv_at hl 0 rfl) ?_
                refine lv_lmul hx hb dX2_with_122 ?_
                refine lv_ladd hx hb dX2_with_123 ?_
                have hFc := va_free (wc := [(y, .inr (4, [.int (j_stT (j_X2_isNone a1) (0 : Int32)), .ref n2, .int kn2, .int td])), (n2, .inl (cJ, 8, .inr (.inl g)))]) hD hS hA [0, 1] rfl
                refine k_go (va_runV (As := [.int a1, .long ((g a1.toNatClampNeg) + (((a3 - (j_X2_part (g a1.toNatClampNeg) a2)).toInt64) * 60000000000))]) (rest := []) ⟨hx, hb, hml, hown, hts⟩ (cq_X2_set l D cB cJ _ y n2 (j_stT (j_X2_isNone a1) (0 : Int32)) g kn2 td hP (hD.weaken (fun _ _ _ _ => trivial)) a1 ((g a1.toNatClampNeg) + (((a3 - (j_X2_part (g a1.toNatClampNeg) a2)).toInt64) * 60000000000)) ((((((hT.2 c_1).1 c_2).2 c_17).2 c_22).1 c_23).2.1 c_25).1) (cwV 2 hts gX2_with_X2_set rfl rfl rfl (by decide +kernel) ⟨(Nat.le_of_ble_eq_true rfl), (Nat.le_of_ble_eq_true rfl)⟩) (k_preV hE hS hFc (va_recv hK hP (ci := 4) (q0 := 0) rfl rfl)) rfl rfl hl.1 rfl (lv_room (Nat.le_of_ble_eq_true rfl)) dX2_with_124 ⟨(Nat.le_of_ble_eq_true rfl), (Nat.le_of_ble_eq_true rfl)⟩) hS (fun q _ h => hFc q h) hFc (fun v H locs hp hz hk hS => ?_)
                obtain ⟨rfl, hP1, hD1⟩ := hp
                (try dsimp only at hP1 hD1)
                have hP : va_P D vwCl [(y, .inr (4, [.int (j_stT (j_X2_isNone a1) (0 : Int32)), .ref n2, .int kn2, .int (td + 1)])), (n2, .inl (cJ, 8, .inr (.inl (vp_updL g a1.toNatClampNeg ((g a1.toNatClampNeg) + (((a3 - (j_X2_part (g a1.toNatClampNeg) a2)).toInt64) * 60000000000))))))] H := hP1
                have hD : va_D A [(y, .inr (4, [.int (j_stT (j_X2_isNone a1) (0 : Int32)), .ref n2, .int kn2, .int (td + 1)])), (n2, .inl (cJ, 8, .inr (.inl (vp_updL g a1.toNatClampNeg ((g a1.toNatClampNeg) + (((a3 - (j_X2_part (g a1.toNatClampNeg) a2)).toInt64) * 60000000000))))))] := hD1.weaken (fun _ q _ h => hFc q.1 h)
                refine W.eq (g2 := F0 m 127 ls [.int (j_X2_secondOf ((g a1.toNatClampNeg) + (((a3 - (j_X2_part (g a1.toNatClampNeg) a2)).toInt64) * 60000000000)))]) rfl ?_
                refine lv_pop hx hb dX2_with_127 rfl ?_
                refine lv_iload hx hb dX2_with_128 (lv_at hl 1 rfl) ?_
                exact k_iret hx hb hr hlocks hS dX2_with_130 ⟨by rw [hJ, if_neg c_1, if_pos c_2, if_neg c_17, if_neg c_22, if_pos c_23, if_pos c_25], by rw [hJ, if_neg c_1, if_pos c_2, if_neg c_17, if_neg c_22, if_pos c_23, if_pos c_25]; (try dsimp only); exact hP, by rw [hJ, if_neg c_1, if_pos c_2, if_neg c_17, if_neg c_22, if_pos c_23, if_pos c_25]; (try dsimp only); exact hD⟩
            · exact absurd c_24 c_1
          · refine lv_iconst (v := 0) hx hb dX2_with_58 (by decide) ?_
            exact k_iret hx hb hr hlocks hS dX2_with_59 ⟨by rw [hJ, if_neg c_1, if_pos c_2, if_neg c_17, if_neg c_22, if_neg c_23], by rw [hJ, if_neg c_1, if_pos c_2, if_neg c_17, if_neg c_22, if_neg c_23]; (try dsimp only); exact hP, by rw [hJ, if_neg c_1, if_pos c_2, if_neg c_17, if_neg c_22, if_neg c_23]; (try dsimp only); exact hD⟩
        · refine lv_iconst (v := 1) hx hb dX2_with_47 (by decide) ?_
          refine lv_goto (tgt := 52) hx hb dX2_with_48 (by decide) ?_
          have hFc := va_free (wc := [(y, .inr (4, [.int th, .ref n2, .int kn2, .int td])), (n2, .inl (cJ, 8, .inr (.inl g)))]) hD hS hA [0, 1] rfl
          refine k_go (va_runV (As := [.int (j_X2_isNone a1), .int 1]) (rest := []) ⟨hx, hb, hml, hown, hts⟩ (cq_X2_isStopped l D cB cJ _ y n2 th g kn2 td hP (hD.weaken (fun _ _ _ _ => trivial)) (j_X2_isNone a1) (1 : Int32)) (cwV 2 hts gX2_with_X2_isStopped rfl rfl rfl (by decide +kernel) ⟨(Nat.le_of_ble_eq_true rfl), (Nat.le_of_ble_eq_true rfl)⟩) (k_preV hE hS hFc (va_recv hK hP (ci := 4) (q0 := 0) rfl rfl)) rfl rfl hl.1 rfl (lv_room (Nat.le_of_ble_eq_true rfl)) dX2_with_52 ⟨(Nat.le_of_ble_eq_true rfl), (Nat.le_of_ble_eq_true rfl)⟩) hS (fun q _ h => hFc q h) hFc (fun v H locs hp hz hk hS => ?_)
          obtain ⟨rfl, hP1, hD1⟩ := hp
          (try dsimp only at hP1 hD1)
          have hP : va_P D vwCl [(y, .inr (4, [.int (j_stT (j_X2_isNone a1) (1 : Int32)), .ref n2, .int kn2, .int td])), (n2, .inl (cJ, 8, .inr (.inl g)))] H := hP1
          have hD : va_D A [(y, .inr (4, [.int (j_stT (j_X2_isNone a1) (1 : Int32)), .ref n2, .int kn2, .int td])), (n2, .inl (cJ, 8, .inr (.inl g)))] := hD1.weaken (fun _ q _ h => hFc q.1 h)
          refine W.eq (g2 := F0 m 55 ls [.int (j_stR (j_X2_isNone a1) (1 : Int32))]) rfl ?_
          refine lv_if_eq (tgt := 60) hx hb dX2_with_55 (by decide) (fun c_27 => ?_) (fun c_27 => ?_)
          · refine lv_aload_n hx hb dX2_with_60 rfl (lv_at hl 1 rfl) ?_
            refine va_get (D := D) (ci := 4) (v := .ref n2) (C := RX2) (T := TX2) (N := 4) hx hb hts iw_X2_with_X2 hown hK hP 0 rfl rfl 1 (by decide) (hts (.fieldLink RX2 9 "ClocksoloModel" "its" "[J") (by decide +kernel)) (fun _ h9 => h9) rfl dX2_with_61 ?_
            refine lv_iload_n hx hb dX2_with_64 rfl (lv_at hl 2 rfl) ?_
            refine va_lald hx hb hK hP 1 1 rfl rfl (((((hT.2 c_1).1 c_2).2 c_17).1 c_22).1 c_27).1 dX2_with_65 ?_
            refine lv_iload_n hx hb dX2_with_66 rfl (lv_at hl 3 rfl) ?_
            refine k_pS [.long (g a1.toNatClampNeg), .int a2] (rest := []) ⟨hx, hb, hml, hown, hts⟩ (c_X2_part l D cB cJ _ (g a1.toNatClampNeg) a2) (va_cwS 2 hts gX2_with_X2_part rfl rfl rfl (by decide +kernel) ⟨(Nat.le_of_ble_eq_true rfl), (Nat.le_of_ble_eq_true rfl)⟩) hE hS rfl rfl hl.1 (Nat.le_of_ble_eq_true rfl) dX2_with_67 ⟨(Nat.le_of_ble_eq_true rfl), (Nat.le_of_ble_eq_true rfl)⟩ (fun locs hS => ?_)
            refine W.eq (g2 := F0 m 70 ls [.int (j_X2_part (g a1.toNatClampNeg) a2)]) rfl ?_
            refine lv_istore (lv' := [(5, .int (j_X2_part (g a1.toNatClampNeg) a2)), (4, .int 999999999), (0, .ref y), (1, .int a1), (2, .int a2), (3, .int a3)]) hx hb dX2_with_70 hl (by decide) rfl (fun ls hl => ?_)
            refine lv_iload_n hx hb dX2_with_72 rfl (lv_at hl 4 rfl) ?_
            refine lv_if_ne (tgt := 82) hx hb dX2_with_73 (by decide) (fun c_28 => ?_) (fun c_28 => ?_)
            · refine lv_iload_n hx hb dX2_with_82 rfl (lv_at hl 4 rfl) ?_
              refine lv_iconst (v := 1) hx hb dX2_with_83 (by decide) ?_
              refine lv_icmp_ne (tgt := 93) hx hb dX2_with_84 (by decide) (fun c_29 => ?_) (fun c_29 => ?_)
              · refine lv_iload_n hx hb dX2_with_93 rfl (lv_at hl 4 rfl) ?_
                refine lv_iconst (v := 2) hx hb dX2_with_94 (by decide) ?_
                refine lv_icmp_ne (tgt := 104) hx hb dX2_with_95 (by decide) (fun c_30 => ?_) (fun c_30 => ?_)
                · refine lv_lconst (v := 1) hx hb dX2_with_104 (by decide) ?_
                  refine lv_lstore (lv' := [(6, .long 1), (5, .int (j_X2_part (g a1.toNatClampNeg) a2)), (4, .int 999999999), (0, .ref y), (1, .int a1), (2, .int a2), (3, .int a3)]) hx hb dX2_with_105 hl (by decide) rfl (fun ls hl => ?_)
                  refine lv_aload_n hx hb dX2_with_107 rfl (lv_at hl 3 rfl) ?_
                  refine lv_iload_n hx hb dX2_with_108 rfl (lv_at hl 4 rfl) ?_
                  refine lv_aload_n hx hb dX2_with_109 rfl (lv_at hl 3 rfl) ?_
                  refine va_get (D := D) (ci := 4) (v := .ref n2) (C := RX2) (T := TX2) (N := 4) hx hb hts iw_X2_with_X2 hown hK hP 0 rfl rfl 1 (by decide) (hts (.fieldLink RX2 9 "ClocksoloModel" "its" "[J") (by decide +kernel)) (fun _ h9 => h9) rfl dX2_with_110 ?_
                  refine lv_iload_n hx hb dX2_with_113 rfl (lv_at hl 4 rfl) ?_
                  refine va_lald hx hb hK hP 1 1 rfl rfl (((((hT.2 c_1).1 c_2).2 c_17).1 c_22).1 c_27).1 dX2_with_114 ?_
                  refine lv_iload_n hx hb dX2_with_115 rfl (lv_at hl 6 rfl) ?_
                  refine lv_iload hx hb dX2_with_116 (lv_at hl 1 rfl) ?_
                  refine lv_isub hx hb dX2_with_118 ?_
                  refine lv_i2l (v := (a3 - (j_X2_part (g a1.toNatClampNeg) a2)).toInt64) hx hb dX2_with_119 rfl ?_
                  refine lv_lload hx hb dX2_with_120 (lv_at hl 0 rfl) ?_
                  refine lv_lmul hx hb dX2_with_122 ?_
                  refine lv_ladd hx hb dX2_with_123 ?_
                  have hFc := va_free (wc := [(y, .inr (4, [.int (j_stT (j_X2_isNone a1) (1 : Int32)), .ref n2, .int kn2, .int td])), (n2, .inl (cJ, 8, .inr (.inl g)))]) hD hS hA [0, 1] rfl
                  refine k_go (va_runV (As := [.int a1, .long ((g a1.toNatClampNeg) + (((a3 - (j_X2_part (g a1.toNatClampNeg) a2)).toInt64) * 1))]) (rest := []) ⟨hx, hb, hml, hown, hts⟩ (cq_X2_set l D cB cJ _ y n2 (j_stT (j_X2_isNone a1) (1 : Int32)) g kn2 td hP (hD.weaken (fun _ _ _ _ => trivial)) a1 ((g a1.toNatClampNeg) + (((a3 - (j_X2_part (g a1.toNatClampNeg) a2)).toInt64) * 1)) (((((((hT.2 c_1).1 c_2).2 c_17).1 c_22).1 c_27).2.2 c_29).2 c_30).1) (cwV 2 hts gX2_with_X2_set rfl rfl rfl (by decide +kernel) ⟨(Nat.le_of_ble_eq_true rfl), (Nat.le_of_ble_eq_true rfl)⟩) (k_preV hE hS hFc (va_recv hK hP (ci := 4) (q0 := 0) rfl rfl)) rfl rfl hl.1 rfl (lv_room (Nat.le_of_ble_eq_true rfl)) dX2_with_124 ⟨(Nat.le_of_ble_eq_true rfl), (Nat.le_of_ble_eq_true rfl)⟩) hS (fun q _ h => hFc q h) hFc (fun v H locs hp hz hk hS => ?_)
                  obtain ⟨rfl, hP1, hD1⟩ := hp
                  (try dsimp only at hP1 hD1)
                  have hP : va_P D vwCl [(y, .inr (4, [.int (j_stT (j_X2_isNone a1) (1 : Int32)), .ref n2, .int kn2, .int (td + 1)])), (n2, .inl (cJ, 8, .inr (.inl (vp_updL g a1.toNatClampNeg ((g a1.toNatClampNeg) + (((a3 - (j_X2_part (g a1.toNatClampNeg) a2)).toInt64) * 1))))))] H := hP1
                  have hD : va_D A [(y, .inr (4, [.int (j_stT (j_X2_isNone a1) (1 : Int32)), .ref n2, .int kn2, .int (td + 1)])), (n2, .inl (cJ, 8, .inr (.inl (vp_updL g a1.toNatClampNeg ((g a1.toNatClampNeg) + (((a3 - (j_X2_part (g a1.toNatClampNeg) a2)).toInt64) * 1))))))] := hD1.weaken (fun _ q _ h => hFc q.1 h)
                  refine W.eq (g2 := F0 m 127 ls [.int (j_X2_secondOf ((g a1.toNatClampNeg) + (((a3 - (j_X2_part (g a1.toNatClampNeg) a2)).toInt64) * 1)))]) rfl ?_
                  refine lv_pop hx hb dX2_with_127 rfl ?_
                  refine lv_iload hx hb dX2_with_128 (lv_at hl 1 rfl) ?_
                  exact k_iret hx hb hr hlocks hS dX2_with_130 ⟨by rw [hJ, if_neg c_1, if_pos c_2, if_neg c_17, if_pos c_22, if_pos c_27, if_neg c_29, if_neg c_30], by rw [hJ, if_neg c_1, if_pos c_2, if_neg c_17, if_pos c_22, if_pos c_27, if_neg c_29, if_neg c_30]; (try dsimp only); exact hP, by rw [hJ, if_neg c_1, if_pos c_2, if_neg c_17, if_pos c_22, if_pos c_27, if_neg c_29, if_neg c_30]; (try dsimp only); exact hD⟩
                · refine lv_ldc2 (v := 1000000000) hx hb hown (hts (.constantLong RX2 29 (1000000000)) (by decide +kernel)) dX2_with_98 ?_
                  refine lv_goto (tgt := 105) hx hb dX2_with_101 (by decide) ?_
                  refine lv_lstore (lv' := [(6, .long 1000000000), (5, .int (j_X2_part (g a1.toNatClampNeg) a2)), (4, .int 999999999), (0, .ref y), (1, .int a1), (2, .int a2), (3, .int a3)]) hx hb dX2_with_105 hl (by decide) rfl (fun ls hl => ?_)
                  refine lv_aload_n hx hb dX2_with_107 rfl (lv_at hl 3 rfl) ?_
                  refine lv_iload_n hx hb dX2_with_108 rfl (lv_at hl 4 rfl) ?_
                  refine lv_aload_n hx hb dX2_with_109 rfl (lv_at hl 3 rfl) ?_
                  refine va_get (D := D) (ci := 4) (v := .ref n2) (C := RX2) (T := TX2) (N := 4) hx hb hts iw_X2_with_X2 hown hK hP 0 rfl rfl 1 (by decide) (hts (.fieldLink RX2 9 "ClocksoloModel" "its" "[J") (by decide +kernel)) (fun _ h9 => h9) rfl dX2_with_110 ?_
                  refine lv_iload_n hx hb dX2_with_113 rfl (lv_at hl 4 rfl) ?_
                  refine va_lald hx hb hK hP 1 1 rfl rfl (((((hT.2 c_1).1 c_2).2 c_17).1 c_22).1 c_27).1 dX2_with_114 ?_
                  refine lv_iload_n hx hb dX2_with_115 rfl (lv_at hl 6 rfl) ?_
                  refine lv_iload hx hb dX2_with_116 (lv_at hl 1 rfl) ?_
                  refine lv_isub hx hb dX2_with_118 ?_
                  refine lv_i2l (v := (a3 - (j_X2_part (g a1.toNatClampNeg) a2)).toInt64) hx hb dX2_with_119 rfl ?_
                  refine lv_lload hx hb dX2_with_120 (lv_at hl 0 rfl) ?_
                  refine lv_lmul hx hb dX2_with_122 ?_
                  refine lv_ladd hx hb dX2_with_123 ?_
                  have hFc := va_free (wc := [(y, .inr (4, [.int (j_stT (j_X2_isNone a1) (1 : Int32)), .ref n2, .int kn2, .int td])), (n2, .inl (cJ, 8, .inr (.inl g)))]) hD hS hA [0, 1] rfl
                  refine k_go (va_runV (As := [.int a1, .long ((g a1.toNatClampNeg) + (((a3 - (j_X2_part (g a1.toNatClampNeg) a2)).toInt64) * 1000000000))]) (rest := []) ⟨hx, hb, hml, hown, hts⟩ (cq_X2_set l D cB cJ _ y n2 (j_stT (j_X2_isNone a1) (1 : Int32)) g kn2 td hP (hD.weaken (fun _ _ _ _ => trivial)) a1 ((g a1.toNatClampNeg) + (((a3 - (j_X2_part (g a1.toNatClampNeg) a2)).toInt64) * 1000000000)) (((((((hT.2 c_1).1 c_2).2 c_17).1 c_22).1 c_27).2.2 c_29).1 c_30).1) (cwV 2 hts gX2_with_X2_set rfl rfl rfl (by decide +kernel) ⟨(Nat.le_of_ble_eq_true rfl), (Nat.le_of_ble_eq_true rfl)⟩) (k_preV hE hS hFc (va_recv hK hP (ci := 4) (q0 := 0) rfl rfl)) rfl rfl hl.1 rfl (lv_room (Nat.le_of_ble_eq_true rfl)) dX2_with_124 ⟨(Nat.le_of_ble_eq_true rfl), (Nat.le_of_ble_eq_true rfl)⟩) hS (fun q _ h => hFc q h) hFc (fun v H locs hp hz hk hS => ?_)
                  obtain ⟨rfl, hP1, hD1⟩ := hp
                  (try dsimp only at hP1 hD1)
                  have hP : va_P D vwCl [(y, .inr (4, [.int (j_stT (j_X2_isNone a1) (1 : Int32)), .ref n2, .int kn2, .int (td + 1)])), (n2, .inl (cJ, 8, .inr (.inl (vp_updL g a1.toNatClampNeg ((g a1.toNatClampNeg) + (((a3 - (j_X2_part (g a1.toNatClampNeg) a2)).toInt64) * 1000000000))))))] H := hP1
                  have hD : va_D A [(y, .inr (4, [.int (j_stT (j_X2_isNone a1) (1 : Int32)), .ref n2, .int kn2, .int (td + 1)])), (n2, .inl (cJ, 8, .inr (.inl (vp_updL g a1.toNatClampNeg ((g a1.toNatClampNeg) + (((a3 - (j_X2_part (g a1.toNatClampNeg) a2)).toInt64) * 1000000000))))))] := hD1.weaken (fun _ q _ h => hFc q.1 h)
                  refine W.eq (g2 := F0 m 127 ls [.int (j_X2_secondOf ((g a1.toNatClampNeg) + (((a3 - (j_X2_part (g a1.toNatClampNeg) a2)).toInt64) * 1000000000)))]) rfl ?_
                  refine lv_pop hx hb dX2_with_127 rfl ?_
                  refine lv_iload hx hb dX2_with_128 (lv_at hl 1 rfl) ?_
                  exact k_iret hx hb hr hlocks hS dX2_with_130 ⟨by rw [hJ, if_neg c_1, if_pos c_2, if_neg c_17, if_pos c_22, if_pos c_27, if_neg c_29, if_pos c_30], by rw [hJ, if_neg c_1, if_pos c_2, if_neg c_17, if_pos c_22, if_pos c_27, if_neg c_29, if_pos c_30]; (try dsimp only); exact hP, by rw [hJ, if_neg c_1, if_pos c_2, if_neg c_17, if_pos c_22, if_pos c_27, if_neg c_29, if_pos c_30]; (try dsimp only); exact hD⟩
              · refine lv_ldc2 (v := 60000000000) hx hb hown (hts (.constantLong RX2 62 (60000000000)) (by decide +kernel)) dX2_with_87 ?_
                refine lv_goto (tgt := 105) hx hb dX2_with_90 (by decide) ?_
                refine lv_lstore (lv' := [(6, .long 60000000000), (5, .int (j_X2_part (g a1.toNatClampNeg) a2)), (4, .int 999999999), (0, .ref y), (1, .int a1), (2, .int a2), (3, .int a3)]) hx hb dX2_with_105 hl (by decide) rfl (fun ls hl => ?_)
                refine lv_aload_n hx hb dX2_with_107 rfl (lv_at hl 3 rfl) ?_
                refine lv_iload_n hx hb dX2_with_108 rfl (lv_at hl 4 rfl) ?_
                refine lv_aload_n hx hb dX2_with_109 rfl (lv_at hl 3 rfl) ?_
                refine va_get (D := D) (ci := 4) (v := .ref n2) (C := RX2) (T := TX2) (N := 4) hx hb hts iw_X2_with_X2 hown hK hP 0 rfl rfl 1 (by decide) (hts (.fieldLink RX2 9 "ClocksoloModel" "its" "[J") (by decide +kernel)) (fun _ h9 => h9) rfl dX2_with_110 ?_
                refine lv_iload_n hx hb dX2_with_113 rfl (lv_at hl 4 rfl) ?_
                refine va_lald hx hb hK hP 1 1 rfl rfl (((((hT.2 c_1).1 c_2).2 c_17).1 c_22).1 c_27).1 dX2_with_114 ?_
                refine lv_iload_n hx hb dX2_with_115 rfl (lv_at hl 6 rfl) ?_
                refine lv_iload hx hb dX2_with_116 (lv_at hl 1 rfl) ?_
                refine lv_isub hx hb dX2_with_118 ?_
                refine lv_i2l (v := (a3 - (j_X2_part (g a1.toNatClampNeg) a2)).toInt64) hx hb dX2_with_119 rfl ?_
                refine lv_lload hx hb dX2_with_120 (lv_at hl 0 rfl) ?_
                refine lv_lmul hx hb dX2_with_122 ?_
                refine lv_ladd hx hb dX2_with_123 ?_
                have hFc := va_free (wc := [(y, .inr (4, [.int (j_stT (j_X2_isNone a1) (1 : Int32)), .ref n2, .int kn2, .int td])), (n2, .inl (cJ, 8, .inr (.inl g)))]) hD hS hA [0, 1] rfl
                refine k_go (va_runV (As := [.int a1, .long ((g a1.toNatClampNeg) + (((a3 - (j_X2_part (g a1.toNatClampNeg) a2)).toInt64) * 60000000000))]) (rest := []) ⟨hx, hb, hml, hown, hts⟩ (cq_X2_set l D cB cJ _ y n2 (j_stT (j_X2_isNone a1) (1 : Int32)) g kn2 td hP (hD.weaken (fun _ _ _ _ => trivial)) a1 ((g a1.toNatClampNeg) + (((a3 - (j_X2_part (g a1.toNatClampNeg) a2)).toInt64) * 60000000000)) ((((((hT.2 c_1).1 c_2).2 c_17).1 c_22).1 c_27).2.1 c_29).1) (cwV 2 hts gX2_with_X2_set rfl rfl rfl (by decide +kernel) ⟨(Nat.le_of_ble_eq_true rfl), (Nat.le_of_ble_eq_true rfl)⟩) (k_preV hE hS hFc (va_recv hK hP (ci := 4) (q0 := 0) rfl rfl)) rfl rfl hl.1 rfl (lv_room (Nat.le_of_ble_eq_true rfl)) dX2_with_124 ⟨(Nat.le_of_ble_eq_true rfl), (Nat.le_of_ble_eq_true rfl)⟩) hS (fun q _ h => hFc q h) hFc (fun v H locs hp hz hk hS => ?_)
                obtain ⟨rfl, hP1, hD1⟩ := hp
                (try dsimp only at hP1 hD1)
                have hP : va_P D vwCl [(y, .inr (4, [.int (j_stT (j_X2_isNone a1) (1 : Int32)), .ref n2, .int kn2, .int (td + 1)])), (n2, .inl (cJ, 8, .inr (.inl (vp_updL g a1.toNatClampNeg ((g a1.toNatClampNeg) + (((a3 - (j_X2_part (g a1.toNatClampNeg) a2)).toInt64) * 60000000000))))))] H := hP1
                have hD : va_D A [(y, .inr (4, [.int (j_stT (j_X2_isNone a1) (1 : Int32)), .ref n2, .int kn2, .int (td + 1)])), (n2, .inl (cJ, 8, .inr (.inl (vp_updL g a1.toNatClampNeg ((g a1.toNatClampNeg) + (((a3 - (j_X2_part (g a1.toNatClampNeg) a2)).toInt64) * 60000000000))))))] := hD1.weaken (fun _ q _ h => hFc q.1 h)
                refine W.eq (g2 := F0 m 127 ls [.int (j_X2_secondOf ((g a1.toNatClampNeg) + (((a3 - (j_X2_part (g a1.toNatClampNeg) a2)).toInt64) * 60000000000)))]) rfl ?_
                refine lv_pop hx hb dX2_with_127 rfl ?_
                refine lv_iload hx hb dX2_with_128 (lv_at hl 1 rfl) ?_
                exact k_iret hx hb hr hlocks hS dX2_with_130 ⟨by rw [hJ, if_neg c_1, if_pos c_2, if_neg c_17, if_pos c_22, if_pos c_27, if_pos c_29], by rw [hJ, if_neg c_1, if_pos c_2, if_neg c_17, if_pos c_22, if_pos c_27, if_pos c_29]; (try dsimp only); exact hP, by rw [hJ, if_neg c_1, if_pos c_2, if_neg c_17, if_pos c_22, if_pos c_27, if_pos c_29]; (try dsimp only); exact hD⟩
            · exact absurd c_28 c_1
          · refine lv_iconst (v := 0) hx hb dX2_with_58 (by decide) ?_
            exact k_iret hx hb hr hlocks hS dX2_with_59 ⟨by rw [hJ, if_neg c_1, if_pos c_2, if_neg c_17, if_pos c_22, if_neg c_27], by rw [hJ, if_neg c_1, if_pos c_2, if_neg c_17, if_pos c_22, if_neg c_27]; (try dsimp only); exact hP, by rw [hJ, if_neg c_1, if_pos c_2, if_neg c_17, if_pos c_22, if_neg c_27]; (try dsimp only); exact hD⟩
  · refine lv_bipush (v := 23) hx hb dX2_with_4 (by decide) ?_
    refine lv_goto (tgt := 21) hx hb dX2_with_6 (by decide) ?_
    refine lv_istore (lv' := [(4, .int 23), (0, .ref y), (1, .int a1), (2, .int a2), (3, .int a3)]) hx hb dX2_with_21 hl (by decide) rfl (fun ls hl => ?_)
    refine lv_aload_n hx hb dX2_with_23 rfl (lv_at hl 1 rfl) ?_
    refine lv_iload_n hx hb dX2_with_24 rfl (lv_at hl 2 rfl) ?_
    refine k_pS [.int a1] (rest := [.ref y]) ⟨hx, hb, hml, hown, hts⟩ (c_X2_isNone l D cB cJ _ a1) (va_cwS 1 hts gX2_with_X2_isNone rfl rfl rfl (by decide +kernel) ⟨(Nat.le_of_ble_eq_true rfl), (Nat.le_of_ble_eq_true rfl)⟩) hE hS rfl rfl hl.1 (Nat.le_of_ble_eq_true rfl) dX2_with_25 ⟨(Nat.le_of_ble_eq_true rfl), (Nat.le_of_ble_eq_true rfl)⟩ (fun locs hS => ?_)
    refine W.eq (g2 := F0 m 28 ls [.int (j_X2_isNone a1), .ref y]) rfl ?_
    refine lv_iload_n hx hb dX2_with_28 rfl (lv_at hl 3 rfl) ?_
    refine lv_iconst (v := 0) hx hb dX2_with_29 (by decide) ?_
    refine lv_iconst (v := 3) hx hb dX2_with_30 (by decide) ?_
    refine k_pS [.int a2, .int 0, .int 3] (rest := [.int (j_X2_isNone a1), .ref y]) ⟨hx, hb, hml, hown, hts⟩ (c_X2_isIn l D cB cJ _ a2 0 3) (va_cwS 3 hts gX2_with_X2_isIn rfl rfl rfl (by decide +kernel) ⟨(Nat.le_of_ble_eq_true rfl), (Nat.le_of_ble_eq_true rfl)⟩) hE hS rfl rfl hl.1 (Nat.le_of_ble_eq_true rfl) dX2_with_31 ⟨(Nat.le_of_ble_eq_true rfl), (Nat.le_of_ble_eq_true rfl)⟩ (fun locs hS => ?_)
    refine W.eq (g2 := F0 m 34 ls [.int (j_X2_isIn a2 0 3), .int (j_X2_isNone a1), .ref y]) rfl ?_
    refine lv_if_eq (tgt := 47) hx hb dX2_with_34 (by decide) (fun c_31 => ?_) (fun c_31 => ?_)
    · refine lv_iconst (v := 1) hx hb dX2_with_47 (by decide) ?_
      refine lv_goto (tgt := 52) hx hb dX2_with_48 (by decide) ?_
      have hFc := va_free (wc := [(y, .inr (4, [.int th, .ref n2, .int kn2, .int td])), (n2, .inl (cJ, 8, .inr (.inl g)))]) hD hS hA [0, 1] rfl
      refine k_go (va_runV (As := [.int (j_X2_isNone a1), .int 1]) (rest := []) ⟨hx, hb, hml, hown, hts⟩ (cq_X2_isStopped l D cB cJ _ y n2 th g kn2 td hP (hD.weaken (fun _ _ _ _ => trivial)) (j_X2_isNone a1) (1 : Int32)) (cwV 2 hts gX2_with_X2_isStopped rfl rfl rfl (by decide +kernel) ⟨(Nat.le_of_ble_eq_true rfl), (Nat.le_of_ble_eq_true rfl)⟩) (k_preV hE hS hFc (va_recv hK hP (ci := 4) (q0 := 0) rfl rfl)) rfl rfl hl.1 rfl (lv_room (Nat.le_of_ble_eq_true rfl)) dX2_with_52 ⟨(Nat.le_of_ble_eq_true rfl), (Nat.le_of_ble_eq_true rfl)⟩) hS (fun q _ h => hFc q h) hFc (fun v H locs hp hz hk hS => ?_)
      obtain ⟨rfl, hP1, hD1⟩ := hp
      (try dsimp only at hP1 hD1)
      have hP : va_P D vwCl [(y, .inr (4, [.int (j_stT (j_X2_isNone a1) (1 : Int32)), .ref n2, .int kn2, .int td])), (n2, .inl (cJ, 8, .inr (.inl g)))] H := hP1
      have hD : va_D A [(y, .inr (4, [.int (j_stT (j_X2_isNone a1) (1 : Int32)), .ref n2, .int kn2, .int td])), (n2, .inl (cJ, 8, .inr (.inl g)))] := hD1.weaken (fun _ q _ h => hFc q.1 h)
      refine W.eq (g2 := F0 m 55 ls [.int (j_stR (j_X2_isNone a1) (1 : Int32))]) rfl ?_
      refine lv_if_eq (tgt := 60) hx hb dX2_with_55 (by decide) (fun c_32 => ?_) (fun c_32 => ?_)
      · refine lv_aload_n hx hb dX2_with_60 rfl (lv_at hl 1 rfl) ?_
        refine va_get (D := D) (ci := 4) (v := .ref n2) (C := RX2) (T := TX2) (N := 4) hx hb hts iw_X2_with_X2 hown hK hP 0 rfl rfl 1 (by decide) (hts (.fieldLink RX2 9 "ClocksoloModel" "its" "[J") (by decide +kernel)) (fun _ h9 => h9) rfl dX2_with_61 ?_
        refine lv_iload_n hx hb dX2_with_64 rfl (lv_at hl 2 rfl) ?_
        refine va_lald hx hb hK hP 1 1 rfl rfl (((hT.1 c_1).1 c_31).1 c_32).1 dX2_with_65 ?_
        refine lv_iload_n hx hb dX2_with_66 rfl (lv_at hl 3 rfl) ?_
        refine k_pS [.long (g a1.toNatClampNeg), .int a2] (rest := []) ⟨hx, hb, hml, hown, hts⟩ (c_X2_part l D cB cJ _ (g a1.toNatClampNeg) a2) (va_cwS 2 hts gX2_with_X2_part rfl rfl rfl (by decide +kernel) ⟨(Nat.le_of_ble_eq_true rfl), (Nat.le_of_ble_eq_true rfl)⟩) hE hS rfl rfl hl.1 (Nat.le_of_ble_eq_true rfl) dX2_with_67 ⟨(Nat.le_of_ble_eq_true rfl), (Nat.le_of_ble_eq_true rfl)⟩ (fun locs hS => ?_)
        refine W.eq (g2 := F0 m 70 ls [.int (j_X2_part (g a1.toNatClampNeg) a2)]) rfl ?_
        refine lv_istore (lv' := [(5, .int (j_X2_part (g a1.toNatClampNeg) a2)), (4, .int 23), (0, .ref y), (1, .int a1), (2, .int a2), (3, .int a3)]) hx hb dX2_with_70 hl (by decide) rfl (fun ls hl => ?_)
        refine lv_iload_n hx hb dX2_with_72 rfl (lv_at hl 4 rfl) ?_
        refine lv_if_ne (tgt := 82) hx hb dX2_with_73 (by decide) (fun c_33 => ?_) (fun c_33 => ?_)
        · exact absurd c_1 c_33
        · refine lv_ldc2 (v := 3600000000000) hx hb hown (hts (.constantLong RX2 60 (3600000000000)) (by decide +kernel)) dX2_with_76 ?_
          refine lv_goto (tgt := 105) hx hb dX2_with_79 (by decide) ?_
          refine lv_lstore (lv' := [(6, .long 3600000000000), (5, .int (j_X2_part (g a1.toNatClampNeg) a2)), (4, .int 23), (0, .ref y), (1, .int a1), (2, .int a2), (3, .int a3)]) hx hb dX2_with_105 hl (by decide) rfl (fun ls hl => ?_)
          refine lv_aload_n hx hb dX2_with_107 rfl (lv_at hl 3 rfl) ?_
          refine lv_iload_n hx hb dX2_with_108 rfl (lv_at hl 4 rfl) ?_
          refine lv_aload_n hx hb dX2_with_109 rfl (lv_at hl 3 rfl) ?_
          refine va_get (D := D) (ci := 4) (v := .ref n2) (C := RX2) (T := TX2) (N := 4) hx hb hts iw_X2_with_X2 hown hK hP 0 rfl rfl 1 (by decide) (hts (.fieldLink RX2 9 "ClocksoloModel" "its" "[J") (by decide +kernel)) (fun _ h9 => h9) rfl dX2_with_110 ?_
          refine lv_iload_n hx hb dX2_with_113 rfl (lv_at hl 4 rfl) ?_
          refine va_lald hx hb hK hP 1 1 rfl rfl (((hT.1 c_1).1 c_31).1 c_32).1 dX2_with_114 ?_
          refine lv_iload_n hx hb dX2_with_115 rfl (lv_at hl 6 rfl) ?_
          refine lv_iload hx hb dX2_with_116 (lv_at hl 1 rfl) ?_
          refine lv_isub hx hb dX2_with_118 ?_
          refine lv_i2l (v := (a3 - (j_X2_part (g a1.toNatClampNeg) a2)).toInt64) hx hb dX2_with_119 rfl ?_
          refine lv_lload hx hb dX2_with_120 (lv_at hl 0 rfl) ?_
          refine lv_lmul hx hb dX2_with_122 ?_
          refine lv_ladd hx hb dX2_with_123 ?_
          have hFc := va_free (wc := [(y, .inr (4, [.int (j_stT (j_X2_isNone a1) (1 : Int32)), .ref n2, .int kn2, .int td])), (n2, .inl (cJ, 8, .inr (.inl g)))]) hD hS hA [0, 1] rfl
          refine k_go (va_runV (As := [.int a1, .long ((g a1.toNatClampNeg) + (((a3 - (j_X2_part (g a1.toNatClampNeg) a2)).toInt64) * 3600000000000))]) (rest := []) ⟨hx, hb, hml, hown, hts⟩ (cq_X2_set l D cB cJ _ y n2 (j_stT (j_X2_isNone a1) (1 : Int32)) g kn2 td hP (hD.weaken (fun _ _ _ _ => trivial)) a1 ((g a1.toNatClampNeg) + (((a3 - (j_X2_part (g a1.toNatClampNeg) a2)).toInt64) * 3600000000000)) (((hT.1 c_1).1 c_31).1 c_32).2.1) (cwV 2 hts gX2_with_X2_set rfl rfl rfl (by decide +kernel) ⟨(Nat.le_of_ble_eq_true rfl), (Nat.le_of_ble_eq_true rfl)⟩) (k_preV hE hS hFc (va_recv hK hP (ci := 4) (q0 := 0) rfl rfl)) rfl rfl hl.1 rfl (lv_room (Nat.le_of_ble_eq_true rfl)) dX2_with_124 ⟨(Nat.le_of_ble_eq_true rfl), (Nat.le_of_ble_eq_true rfl)⟩) hS (fun q _ h => hFc q h) hFc (fun v H locs hp hz hk hS => ?_)
          obtain ⟨rfl, hP1, hD1⟩ := hp
          (try dsimp only at hP1 hD1)
          have hP : va_P D vwCl [(y, .inr (4, [.int (j_stT (j_X2_isNone a1) (1 : Int32)), .ref n2, .int kn2, .int (td + 1)])), (n2, .inl (cJ, 8, .inr (.inl (vp_updL g a1.toNatClampNeg ((g a1.toNatClampNeg) + (((a3 - (j_X2_part (g a1.toNatClampNeg) a2)).toInt64) * 3600000000000))))))] H := hP1
          have hD : va_D A [(y, .inr (4, [.int (j_stT (j_X2_isNone a1) (1 : Int32)), .ref n2, .int kn2, .int (td + 1)])), (n2, .inl (cJ, 8, .inr (.inl (vp_updL g a1.toNatClampNeg ((g a1.toNatClampNeg) + (((a3 - (j_X2_part (g a1.toNatClampNeg) a2)).toInt64) * 3600000000000))))))] := hD1.weaken (fun _ q _ h => hFc q.1 h)
          refine W.eq (g2 := F0 m 127 ls [.int (j_X2_secondOf ((g a1.toNatClampNeg) + (((a3 - (j_X2_part (g a1.toNatClampNeg) a2)).toInt64) * 3600000000000)))]) rfl ?_
          refine lv_pop hx hb dX2_with_127 rfl ?_
          refine lv_iload hx hb dX2_with_128 (lv_at hl 1 rfl) ?_
          exact k_iret hx hb hr hlocks hS dX2_with_130 ⟨by rw [hJ, if_pos c_1, if_pos c_31, if_pos c_32], by rw [hJ, if_pos c_1, if_pos c_31, if_pos c_32]; (try dsimp only); exact hP, by rw [hJ, if_pos c_1, if_pos c_31, if_pos c_32]; (try dsimp only); exact hD⟩
      · refine lv_iconst (v := 0) hx hb dX2_with_58 (by decide) ?_
        exact k_iret hx hb hr hlocks hS dX2_with_59 ⟨by rw [hJ, if_pos c_1, if_pos c_31, if_neg c_32], by rw [hJ, if_pos c_1, if_pos c_31, if_neg c_32]; (try dsimp only); exact hP, by rw [hJ, if_pos c_1, if_pos c_31, if_neg c_32]; (try dsimp only); exact hD⟩
    · refine lv_iload_n hx hb dX2_with_37 rfl (lv_at hl 4 rfl) ?_
      refine lv_iconst (v := 0) hx hb dX2_with_38 (by decide) ?_
      refine lv_iload hx hb dX2_with_39 (lv_at hl 0 rfl) ?_
      refine k_pS [.int a3, .int 0, .int 23] (rest := [.int (j_X2_isNone a1), .ref y]) ⟨hx, hb, hml, hown, hts⟩ (c_X2_isIn l D cB cJ _ a3 0 23) (va_cwS 3 hts gX2_with_X2_isIn rfl rfl rfl (by decide +kernel) ⟨(Nat.le_of_ble_eq_true rfl), (Nat.le_of_ble_eq_true rfl)⟩) hE hS rfl rfl hl.1 (Nat.le_of_ble_eq_true rfl) dX2_with_41 ⟨(Nat.le_of_ble_eq_true rfl), (Nat.le_of_ble_eq_true rfl)⟩ (fun locs hS => ?_)
      refine W.eq (g2 := F0 m 44 ls [.int (j_X2_isIn a3 0 23), .int (j_X2_isNone a1), .ref y]) rfl ?_
      refine lv_if_ne (tgt := 51) hx hb dX2_with_44 (by decide) (fun c_34 => ?_) (fun c_34 => ?_)
      · refine lv_iconst (v := 0) hx hb dX2_with_51 (by decide) ?_
        have hFc := va_free (wc := [(y, .inr (4, [.int th, .ref n2, .int kn2, .int td])), (n2, .inl (cJ, 8, .inr (.inl g)))]) hD hS hA [0, 1] rfl
        refine k_go (va_runV (As := [.int (j_X2_isNone a1), .int 0]) (rest := []) ⟨hx, hb, hml, hown, hts⟩ (cq_X2_isStopped l D cB cJ _ y n2 th g kn2 td hP (hD.weaken (fun _ _ _ _ => trivial)) (j_X2_isNone a1) (0 : Int32)) (cwV 2 hts gX2_with_X2_isStopped rfl rfl rfl (by decide +kernel) ⟨(Nat.le_of_ble_eq_true rfl), (Nat.le_of_ble_eq_true rfl)⟩) (k_preV hE hS hFc (va_recv hK hP (ci := 4) (q0 := 0) rfl rfl)) rfl rfl hl.1 rfl (lv_room (Nat.le_of_ble_eq_true rfl)) dX2_with_52 ⟨(Nat.le_of_ble_eq_true rfl), (Nat.le_of_ble_eq_true rfl)⟩) hS (fun q _ h => hFc q h) hFc (fun v H locs hp hz hk hS => ?_)
        obtain ⟨rfl, hP1, hD1⟩ := hp
        (try dsimp only at hP1 hD1)
        have hP : va_P D vwCl [(y, .inr (4, [.int (j_stT (j_X2_isNone a1) (0 : Int32)), .ref n2, .int kn2, .int td])), (n2, .inl (cJ, 8, .inr (.inl g)))] H := hP1
        have hD : va_D A [(y, .inr (4, [.int (j_stT (j_X2_isNone a1) (0 : Int32)), .ref n2, .int kn2, .int td])), (n2, .inl (cJ, 8, .inr (.inl g)))] := hD1.weaken (fun _ q _ h => hFc q.1 h)
        refine W.eq (g2 := F0 m 55 ls [.int (j_stR (j_X2_isNone a1) (0 : Int32))]) rfl ?_
        refine lv_if_eq (tgt := 60) hx hb dX2_with_55 (by decide) (fun c_35 => ?_) (fun c_35 => ?_)
        · refine lv_aload_n hx hb dX2_with_60 rfl (lv_at hl 1 rfl) ?_
          refine va_get (D := D) (ci := 4) (v := .ref n2) (C := RX2) (T := TX2) (N := 4) hx hb hts iw_X2_with_X2 hown hK hP 0 rfl rfl 1 (by decide) (hts (.fieldLink RX2 9 "ClocksoloModel" "its" "[J") (by decide +kernel)) (fun _ h9 => h9) rfl dX2_with_61 ?_
          refine lv_iload_n hx hb dX2_with_64 rfl (lv_at hl 2 rfl) ?_
          refine va_lald hx hb hK hP 1 1 rfl rfl ((((hT.1 c_1).2 c_31).2 c_34).1 c_35).1 dX2_with_65 ?_
          refine lv_iload_n hx hb dX2_with_66 rfl (lv_at hl 3 rfl) ?_
          refine k_pS [.long (g a1.toNatClampNeg), .int a2] (rest := []) ⟨hx, hb, hml, hown, hts⟩ (c_X2_part l D cB cJ _ (g a1.toNatClampNeg) a2) (va_cwS 2 hts gX2_with_X2_part rfl rfl rfl (by decide +kernel) ⟨(Nat.le_of_ble_eq_true rfl), (Nat.le_of_ble_eq_true rfl)⟩) hE hS rfl rfl hl.1 (Nat.le_of_ble_eq_true rfl) dX2_with_67 ⟨(Nat.le_of_ble_eq_true rfl), (Nat.le_of_ble_eq_true rfl)⟩ (fun locs hS => ?_)
          refine W.eq (g2 := F0 m 70 ls [.int (j_X2_part (g a1.toNatClampNeg) a2)]) rfl ?_
          refine lv_istore (lv' := [(5, .int (j_X2_part (g a1.toNatClampNeg) a2)), (4, .int 23), (0, .ref y), (1, .int a1), (2, .int a2), (3, .int a3)]) hx hb dX2_with_70 hl (by decide) rfl (fun ls hl => ?_)
          refine lv_iload_n hx hb dX2_with_72 rfl (lv_at hl 4 rfl) ?_
          refine lv_if_ne (tgt := 82) hx hb dX2_with_73 (by decide) (fun c_36 => ?_) (fun c_36 => ?_)
          · exact absurd c_1 c_36
          · refine lv_ldc2 (v := 3600000000000) hx hb hown (hts (.constantLong RX2 60 (3600000000000)) (by decide +kernel)) dX2_with_76 ?_
            refine lv_goto (tgt := 105) hx hb dX2_with_79 (by decide) ?_
            refine lv_lstore (lv' := [(6, .long 3600000000000), (5, .int (j_X2_part (g a1.toNatClampNeg) a2)), (4, .int 23), (0, .ref y), (1, .int a1), (2, .int a2), (3, .int a3)]) hx hb dX2_with_105 hl (by decide) rfl (fun ls hl => ?_)
            refine lv_aload_n hx hb dX2_with_107 rfl (lv_at hl 3 rfl) ?_
            refine lv_iload_n hx hb dX2_with_108 rfl (lv_at hl 4 rfl) ?_
            refine lv_aload_n hx hb dX2_with_109 rfl (lv_at hl 3 rfl) ?_
            refine va_get (D := D) (ci := 4) (v := .ref n2) (C := RX2) (T := TX2) (N := 4) hx hb hts iw_X2_with_X2 hown hK hP 0 rfl rfl 1 (by decide) (hts (.fieldLink RX2 9 "ClocksoloModel" "its" "[J") (by decide +kernel)) (fun _ h9 => h9) rfl dX2_with_110 ?_
            refine lv_iload_n hx hb dX2_with_113 rfl (lv_at hl 4 rfl) ?_
            refine va_lald hx hb hK hP 1 1 rfl rfl ((((hT.1 c_1).2 c_31).2 c_34).1 c_35).1 dX2_with_114 ?_
            refine lv_iload_n hx hb dX2_with_115 rfl (lv_at hl 6 rfl) ?_
            refine lv_iload hx hb dX2_with_116 (lv_at hl 1 rfl) ?_
            refine lv_isub hx hb dX2_with_118 ?_
            refine lv_i2l (v := (a3 - (j_X2_part (g a1.toNatClampNeg) a2)).toInt64) hx hb dX2_with_119 rfl ?_
            refine lv_lload hx hb dX2_with_120 (lv_at hl 0 rfl) ?_
            refine lv_lmul hx hb dX2_with_122 ?_
            refine lv_ladd hx hb dX2_with_123 ?_
            have hFc := va_free (wc := [(y, .inr (4, [.int (j_stT (j_X2_isNone a1) (0 : Int32)), .ref n2, .int kn2, .int td])), (n2, .inl (cJ, 8, .inr (.inl g)))]) hD hS hA [0, 1] rfl
            refine k_go (va_runV (As := [.int a1, .long ((g a1.toNatClampNeg) + (((a3 - (j_X2_part (g a1.toNatClampNeg) a2)).toInt64) * 3600000000000))]) (rest := []) ⟨hx, hb, hml, hown, hts⟩ (cq_X2_set l D cB cJ _ y n2 (j_stT (j_X2_isNone a1) (0 : Int32)) g kn2 td hP (hD.weaken (fun _ _ _ _ => trivial)) a1 ((g a1.toNatClampNeg) + (((a3 - (j_X2_part (g a1.toNatClampNeg) a2)).toInt64) * 3600000000000)) ((((hT.1 c_1).2 c_31).2 c_34).1 c_35).2.1) (cwV 2 hts gX2_with_X2_set rfl rfl rfl (by decide +kernel) ⟨(Nat.le_of_ble_eq_true rfl), (Nat.le_of_ble_eq_true rfl)⟩) (k_preV hE hS hFc (va_recv hK hP (ci := 4) (q0 := 0) rfl rfl)) rfl rfl hl.1 rfl (lv_room (Nat.le_of_ble_eq_true rfl)) dX2_with_124 ⟨(Nat.le_of_ble_eq_true rfl), (Nat.le_of_ble_eq_true rfl)⟩) hS (fun q _ h => hFc q h) hFc (fun v H locs hp hz hk hS => ?_)
            obtain ⟨rfl, hP1, hD1⟩ := hp
            (try dsimp only at hP1 hD1)
            have hP : va_P D vwCl [(y, .inr (4, [.int (j_stT (j_X2_isNone a1) (0 : Int32)), .ref n2, .int kn2, .int (td + 1)])), (n2, .inl (cJ, 8, .inr (.inl (vp_updL g a1.toNatClampNeg ((g a1.toNatClampNeg) + (((a3 - (j_X2_part (g a1.toNatClampNeg) a2)).toInt64) * 3600000000000))))))] H := hP1
            have hD : va_D A [(y, .inr (4, [.int (j_stT (j_X2_isNone a1) (0 : Int32)), .ref n2, .int kn2, .int (td + 1)])), (n2, .inl (cJ, 8, .inr (.inl (vp_updL g a1.toNatClampNeg ((g a1.toNatClampNeg) + (((a3 - (j_X2_part (g a1.toNatClampNeg) a2)).toInt64) * 3600000000000))))))] := hD1.weaken (fun _ q _ h => hFc q.1 h)
            refine W.eq (g2 := F0 m 127 ls [.int (j_X2_secondOf ((g a1.toNatClampNeg) + (((a3 - (j_X2_part (g a1.toNatClampNeg) a2)).toInt64) * 3600000000000)))]) rfl ?_
            refine lv_pop hx hb dX2_with_127 rfl ?_
            refine lv_iload hx hb dX2_with_128 (lv_at hl 1 rfl) ?_
            exact k_iret hx hb hr hlocks hS dX2_with_130 ⟨by rw [hJ, if_pos c_1, if_neg c_31, if_neg c_34, if_pos c_35], by rw [hJ, if_pos c_1, if_neg c_31, if_neg c_34, if_pos c_35]; (try dsimp only); exact hP, by rw [hJ, if_pos c_1, if_neg c_31, if_neg c_34, if_pos c_35]; (try dsimp only); exact hD⟩
        · refine lv_iconst (v := 0) hx hb dX2_with_58 (by decide) ?_
          exact k_iret hx hb hr hlocks hS dX2_with_59 ⟨by rw [hJ, if_pos c_1, if_neg c_31, if_neg c_34, if_neg c_35], by rw [hJ, if_pos c_1, if_neg c_31, if_neg c_34, if_neg c_35]; (try dsimp only); exact hP, by rw [hJ, if_pos c_1, if_neg c_31, if_neg c_34, if_neg c_35]; (try dsimp only); exact hD⟩
      · refine lv_iconst (v := 1) hx hb dX2_with_47 (by decide) ?_
        refine lv_goto (tgt := 52) hx hb dX2_with_48 (by decide) ?_
        have hFc := va_free (wc := [(y, .inr (4, [.int th, .ref n2, .int kn2, .int td])), (n2, .inl (cJ, 8, .inr (.inl g)))]) hD hS hA [0, 1] rfl
        refine k_go (va_runV (As := [.int (j_X2_isNone a1), .int 1]) (rest := []) ⟨hx, hb, hml, hown, hts⟩ (cq_X2_isStopped l D cB cJ _ y n2 th g kn2 td hP (hD.weaken (fun _ _ _ _ => trivial)) (j_X2_isNone a1) (1 : Int32)) (cwV 2 hts gX2_with_X2_isStopped rfl rfl rfl (by decide +kernel) ⟨(Nat.le_of_ble_eq_true rfl), (Nat.le_of_ble_eq_true rfl)⟩) (k_preV hE hS hFc (va_recv hK hP (ci := 4) (q0 := 0) rfl rfl)) rfl rfl hl.1 rfl (lv_room (Nat.le_of_ble_eq_true rfl)) dX2_with_52 ⟨(Nat.le_of_ble_eq_true rfl), (Nat.le_of_ble_eq_true rfl)⟩) hS (fun q _ h => hFc q h) hFc (fun v H locs hp hz hk hS => ?_)
        obtain ⟨rfl, hP1, hD1⟩ := hp
        (try dsimp only at hP1 hD1)
        have hP : va_P D vwCl [(y, .inr (4, [.int (j_stT (j_X2_isNone a1) (1 : Int32)), .ref n2, .int kn2, .int td])), (n2, .inl (cJ, 8, .inr (.inl g)))] H := hP1
        have hD : va_D A [(y, .inr (4, [.int (j_stT (j_X2_isNone a1) (1 : Int32)), .ref n2, .int kn2, .int td])), (n2, .inl (cJ, 8, .inr (.inl g)))] := hD1.weaken (fun _ q _ h => hFc q.1 h)
        refine W.eq (g2 := F0 m 55 ls [.int (j_stR (j_X2_isNone a1) (1 : Int32))]) rfl ?_
        refine lv_if_eq (tgt := 60) hx hb dX2_with_55 (by decide) (fun c_37 => ?_) (fun c_37 => ?_)
        · refine lv_aload_n hx hb dX2_with_60 rfl (lv_at hl 1 rfl) ?_
          refine va_get (D := D) (ci := 4) (v := .ref n2) (C := RX2) (T := TX2) (N := 4) hx hb hts iw_X2_with_X2 hown hK hP 0 rfl rfl 1 (by decide) (hts (.fieldLink RX2 9 "ClocksoloModel" "its" "[J") (by decide +kernel)) (fun _ h9 => h9) rfl dX2_with_61 ?_
          refine lv_iload_n hx hb dX2_with_64 rfl (lv_at hl 2 rfl) ?_
          refine va_lald hx hb hK hP 1 1 rfl rfl ((((hT.1 c_1).2 c_31).1 c_34).1 c_37).1 dX2_with_65 ?_
          refine lv_iload_n hx hb dX2_with_66 rfl (lv_at hl 3 rfl) ?_
          refine k_pS [.long (g a1.toNatClampNeg), .int a2] (rest := []) ⟨hx, hb, hml, hown, hts⟩ (c_X2_part l D cB cJ _ (g a1.toNatClampNeg) a2) (va_cwS 2 hts gX2_with_X2_part rfl rfl rfl (by decide +kernel) ⟨(Nat.le_of_ble_eq_true rfl), (Nat.le_of_ble_eq_true rfl)⟩) hE hS rfl rfl hl.1 (Nat.le_of_ble_eq_true rfl) dX2_with_67 ⟨(Nat.le_of_ble_eq_true rfl), (Nat.le_of_ble_eq_true rfl)⟩ (fun locs hS => ?_)
          refine W.eq (g2 := F0 m 70 ls [.int (j_X2_part (g a1.toNatClampNeg) a2)]) rfl ?_
          refine lv_istore (lv' := [(5, .int (j_X2_part (g a1.toNatClampNeg) a2)), (4, .int 23), (0, .ref y), (1, .int a1), (2, .int a2), (3, .int a3)]) hx hb dX2_with_70 hl (by decide) rfl (fun ls hl => ?_)
          refine lv_iload_n hx hb dX2_with_72 rfl (lv_at hl 4 rfl) ?_
          refine lv_if_ne (tgt := 82) hx hb dX2_with_73 (by decide) (fun c_38 => ?_) (fun c_38 => ?_)
          · exact absurd c_1 c_38
          · refine lv_ldc2 (v := 3600000000000) hx hb hown (hts (.constantLong RX2 60 (3600000000000)) (by decide +kernel)) dX2_with_76 ?_
            refine lv_goto (tgt := 105) hx hb dX2_with_79 (by decide) ?_
            refine lv_lstore (lv' := [(6, .long 3600000000000), (5, .int (j_X2_part (g a1.toNatClampNeg) a2)), (4, .int 23), (0, .ref y), (1, .int a1), (2, .int a2), (3, .int a3)]) hx hb dX2_with_105 hl (by decide) rfl (fun ls hl => ?_)
            refine lv_aload_n hx hb dX2_with_107 rfl (lv_at hl 3 rfl) ?_
            refine lv_iload_n hx hb dX2_with_108 rfl (lv_at hl 4 rfl) ?_
            refine lv_aload_n hx hb dX2_with_109 rfl (lv_at hl 3 rfl) ?_
            refine va_get (D := D) (ci := 4) (v := .ref n2) (C := RX2) (T := TX2) (N := 4) hx hb hts iw_X2_with_X2 hown hK hP 0 rfl rfl 1 (by decide) (hts (.fieldLink RX2 9 "ClocksoloModel" "its" "[J") (by decide +kernel)) (fun _ h9 => h9) rfl dX2_with_110 ?_
            refine lv_iload_n hx hb dX2_with_113 rfl (lv_at hl 4 rfl) ?_
            refine va_lald hx hb hK hP 1 1 rfl rfl ((((hT.1 c_1).2 c_31).1 c_34).1 c_37).1 dX2_with_114 ?_
            refine lv_iload_n hx hb dX2_with_115 rfl (lv_at hl 6 rfl) ?_
            refine lv_iload hx hb dX2_with_116 (lv_at hl 1 rfl) ?_
            refine lv_isub hx hb dX2_with_118 ?_
            refine lv_i2l (v := (a3 - (j_X2_part (g a1.toNatClampNeg) a2)).toInt64) hx hb dX2_with_119 rfl ?_
            refine lv_lload hx hb dX2_with_120 (lv_at hl 0 rfl) ?_
            refine lv_lmul hx hb dX2_with_122 ?_
            refine lv_ladd hx hb dX2_with_123 ?_
            have hFc := va_free (wc := [(y, .inr (4, [.int (j_stT (j_X2_isNone a1) (1 : Int32)), .ref n2, .int kn2, .int td])), (n2, .inl (cJ, 8, .inr (.inl g)))]) hD hS hA [0, 1] rfl
            refine k_go (va_runV (As := [.int a1, .long ((g a1.toNatClampNeg) + (((a3 - (j_X2_part (g a1.toNatClampNeg) a2)).toInt64) * 3600000000000))]) (rest := []) ⟨hx, hb, hml, hown, hts⟩ (cq_X2_set l D cB cJ _ y n2 (j_stT (j_X2_isNone a1) (1 : Int32)) g kn2 td hP (hD.weaken (fun _ _ _ _ => trivial)) a1 ((g a1.toNatClampNeg) + (((a3 - (j_X2_part (g a1.toNatClampNeg) a2)).toInt64) * 3600000000000)) ((((hT.1 c_1).2 c_31).1 c_34).1 c_37).2.1) (cwV 2 hts gX2_with_X2_set rfl rfl rfl (by decide +kernel) ⟨(Nat.le_of_ble_eq_true rfl), (Nat.le_of_ble_eq_true rfl)⟩) (k_preV hE hS hFc (va_recv hK hP (ci := 4) (q0 := 0) rfl rfl)) rfl rfl hl.1 rfl (lv_room (Nat.le_of_ble_eq_true rfl)) dX2_with_124 ⟨(Nat.le_of_ble_eq_true rfl), (Nat.le_of_ble_eq_true rfl)⟩) hS (fun q _ h => hFc q h) hFc (fun v H locs hp hz hk hS => ?_)
            obtain ⟨rfl, hP1, hD1⟩ := hp
            (try dsimp only at hP1 hD1)
            have hP : va_P D vwCl [(y, .inr (4, [.int (j_stT (j_X2_isNone a1) (1 : Int32)), .ref n2, .int kn2, .int (td + 1)])), (n2, .inl (cJ, 8, .inr (.inl (vp_updL g a1.toNatClampNeg ((g a1.toNatClampNeg) + (((a3 - (j_X2_part (g a1.toNatClampNeg) a2)).toInt64) * 3600000000000))))))] H := hP1
            have hD : va_D A [(y, .inr (4, [.int (j_stT (j_X2_isNone a1) (1 : Int32)), .ref n2, .int kn2, .int (td + 1)])), (n2, .inl (cJ, 8, .inr (.inl (vp_updL g a1.toNatClampNeg ((g a1.toNatClampNeg) + (((a3 - (j_X2_part (g a1.toNatClampNeg) a2)).toInt64) * 3600000000000))))))] := hD1.weaken (fun _ q _ h => hFc q.1 h)
            refine W.eq (g2 := F0 m 127 ls [.int (j_X2_secondOf ((g a1.toNatClampNeg) + (((a3 - (j_X2_part (g a1.toNatClampNeg) a2)).toInt64) * 3600000000000)))]) rfl ?_
            refine lv_pop hx hb dX2_with_127 rfl ?_
            refine lv_iload hx hb dX2_with_128 (lv_at hl 1 rfl) ?_
            exact k_iret hx hb hr hlocks hS dX2_with_130 ⟨by rw [hJ, if_pos c_1, if_neg c_31, if_pos c_34, if_pos c_37], by rw [hJ, if_pos c_1, if_neg c_31, if_pos c_34, if_pos c_37]; (try dsimp only); exact hP, by rw [hJ, if_pos c_1, if_neg c_31, if_pos c_34, if_pos c_37]; (try dsimp only); exact hD⟩
        · refine lv_iconst (v := 0) hx hb dX2_with_58 (by decide) ?_
          exact k_iret hx hb hr hlocks hS dX2_with_59 ⟨by rw [hJ, if_pos c_1, if_neg c_31, if_pos c_34, if_neg c_37], by rw [hJ, if_pos c_1, if_neg c_31, if_pos c_34, if_neg c_37]; (try dsimp only); exact hP, by rw [hJ, if_pos c_1, if_neg c_31, if_pos c_34, if_neg c_37]; (try dsimp only); exact hD⟩
abbrev rm_X2_plus : Room := { frames := 2, cells := 0, slots := 0, locals := 51 }
theorem iw_X2_plus_X2 : ∀ w ∈ wsX20, w ∈ wsX2_plus := by decide +kernel
def j_X2_plus (th : Int32) (g : Nat → Int64) (kn2 td : Int32) (a1 : Int32) (a2 : Int32) (a3 : Int32) (a4 : Int32) : Int32 × Int32 × (Nat → Int64) × Int32 × Int32 := (if (j_stR (j_X2_isNone a1) (j_X2_isNoStep a2)) = 0 then ((j_X2_secondOf (j_X2_on (g a1.toNatClampNeg) a2 (a3.toInt64 * a4.toInt64))), (j_stT (j_X2_isNone a1) (j_X2_isNoStep a2)), (vp_updL g a1.toNatClampNeg (j_X2_on (g a1.toNatClampNeg) a2 (a3.toInt64 * a4.toInt64))), kn2, (td + 1)) else (0, (j_stT (j_X2_isNone a1) (j_X2_isNoStep a2)), g, kn2, td))
def T_X2_plus (th : Int32) (g : Nat → Int64) (kn2 td : Int32) (a1 : Int32) (a2 : Int32) (a3 : Int32) (a4 : Int32) : Prop := (((j_stR (j_X2_isNone a1) (j_X2_isNoStep a2)) = 0 → (vp_in a1 8 ∧ (T_X2_on (g a1.toNatClampNeg) a2 (a3.toInt64 * a4.toInt64) ∧ (T_X2_set (j_stT (j_X2_isNone a1) (j_X2_isNoStep a2)) g kn2 td a1 (j_X2_on (g a1.toNatClampNeg) a2 (a3.toInt64 * a4.toInt64)) ∧ True)))) ∧ (¬ ((j_stR (j_X2_isNone a1) (j_X2_isNoStep a2)) = 0) → True))
set_option maxHeartbeats 4000000 in
set_option maxRecDepth 100000 in
theorem c_X2_plus (l : Launch) (D : va_G) (cB cJ : ClassId) (Hp : Heap) (y n2 : Nat) (th : Int32) (g : Nat → Int64) (kn2 td : Int32) (hP : va_P D vwCl (wMo y n2 cJ th g kn2 td) Hp) (hD9 : va_D (fun _ => True) (wMo y n2 cJ th g kn2 td)) (a1 : Int32) (a2 : Int32) (a3 : Int32) (a4 : Int32) (hT9 : T_X2_plus th g kn2 td a1 a2 a3 a4) : kM l D cB cJ yX2_plus wsX2_plus rm_X2_plus (va_A (wMo y n2 cJ th g kn2 td) Hp.size) Hp [.ref y, .int a1, .int a2, .int a3, .int a4] (kPm D y n2 cJ (va_A (wMo y n2 cJ th g kn2 td) Hp.size) (j_X2_plus th g kn2 td a1 a2 a3 a4)) 0 0 := by
  refine Met.ofW (cc := cX2_plus) (maxL := 5) (ret := (some .int)) (by decide) rfl ?_
  intro p e s m args below meth c s₁ B hml hv
  obtain ⟨rfl, hHp, hE⟩ := hv
  subst hHp
  have hx := B.exec
  have hb := B.bytes
  have hr := B.returns
  have hts := atoms_spec (ws := wsX2_plus) B.pre
  have hown : s.vm.findClass RX2 = some m.cls := findClass_of_methodNamed B.named
  have hlocks := B.notSynchronized
  have hK := hE.1
  have hD := hD9.self (sz := s.heap.size)
  generalize hAe : va_A (wMo y n2 cJ th g kn2 td) s.heap.size = A at hE hD ⊢
  have hA : ∀ q : Nat, s.heap.size ≤ q → A q := fun q h => by rw [← hAe]; exact Or.inr h
  have hS : va_S A s.heap s.heap [] := va_S.rf
  have hl := lv_entry ([.ref y, .int a1, .int a2, .int a3, .int a4]) (n := 5) (Nat.le_of_ble_eq_true rfl)
  rw [lg_entry_eq]
  generalize (lg_sl ([.ref y, .int a1, .int a2, .int a3, .int a4]) ++ List.replicate (5 - (lg_sl ([.ref y, .int a1, .int a2, .int a3, .int a4])).length) Slot.unset).toArray = ls at hl ⊢
  have hl : lv_has ls 5 [(0, .ref y), (1, .int a1), (2, .int a2), (3, .int a3), (4, .int a4)] := hl
  have hJ : (j_X2_plus th g kn2 td a1 a2 a3 a4) = (if (j_stR (j_X2_isNone a1) (j_X2_isNoStep a2)) = 0 then ((j_X2_secondOf (j_X2_on (g a1.toNatClampNeg) a2 (a3.toInt64 * a4.toInt64))), (j_stT (j_X2_isNone a1) (j_X2_isNoStep a2)), (vp_updL g a1.toNatClampNeg (j_X2_on (g a1.toNatClampNeg) a2 (a3.toInt64 * a4.toInt64))), kn2, (td + 1)) else (0, (j_stT (j_X2_isNone a1) (j_X2_isNoStep a2)), g, kn2, td)) := rfl
  have hT : (((j_stR (j_X2_isNone a1) (j_X2_isNoStep a2)) = 0 → (vp_in a1 8 ∧ (T_X2_on (g a1.toNatClampNeg) a2 (a3.toInt64 * a4.toInt64) ∧ (T_X2_set (j_stT (j_X2_isNone a1) (j_X2_isNoStep a2)) g kn2 td a1 (j_X2_on (g a1.toNatClampNeg) a2 (a3.toInt64 * a4.toInt64)) ∧ True)))) ∧ (¬ ((j_stR (j_X2_isNone a1) (j_X2_isNoStep a2)) = 0) → True)) := hT9
  refine lv_aload_n hx hb dX2_plus_0 rfl (lv_at hl 0 rfl) ?_
  refine lv_iload_n hx hb dX2_plus_1 rfl (lv_at hl 1 rfl) ?_
  refine k_pS [.int a1] (rest := [.ref y]) ⟨hx, hb, hml, hown, hts⟩ (c_X2_isNone l D cB cJ _ a1) (va_cwS 1 hts gX2_plus_X2_isNone rfl rfl rfl (by decide +kernel) ⟨(Nat.le_of_ble_eq_true rfl), (Nat.le_of_ble_eq_true rfl)⟩) hE hS rfl rfl hl.1 (Nat.le_of_ble_eq_true rfl) dX2_plus_2 ⟨(Nat.le_of_ble_eq_true rfl), (Nat.le_of_ble_eq_true rfl)⟩ (fun locs hS => ?_)
  refine W.eq (g2 := F0 m 5 ls [.int (j_X2_isNone a1), .ref y]) rfl ?_
  refine lv_iload_n hx hb dX2_plus_5 rfl (lv_at hl 2 rfl) ?_
  refine k_pS [.int a2] (rest := [.int (j_X2_isNone a1), .ref y]) ⟨hx, hb, hml, hown, hts⟩ (c_X2_isNoStep l D cB cJ _ a2) (va_cwS 1 hts gX2_plus_X2_isNoStep rfl rfl rfl (by decide +kernel) ⟨(Nat.le_of_ble_eq_true rfl), (Nat.le_of_ble_eq_true rfl)⟩) hE hS rfl rfl hl.1 (Nat.le_of_ble_eq_true rfl) dX2_plus_6 ⟨(Nat.le_of_ble_eq_true rfl), (Nat.le_of_ble_eq_true rfl)⟩ (fun locs hS => ?_)
  refine W.eq (g2 := F0 m 9 ls [.int (j_X2_isNoStep a2), .int (j_X2_isNone a1), .ref y]) rfl ?_
  have hFc := va_free (wc := [(y, .inr (4, [.int th, .ref n2, .int kn2, .int td])), (n2, .inl (cJ, 8, .inr (.inl g)))]) hD hS hA [0, 1] rfl
  refine k_go (va_runV (As := [.int (j_X2_isNone a1), .int (j_X2_isNoStep a2)]) (rest := []) ⟨hx, hb, hml, hown, hts⟩ (cq_X2_isStopped l D cB cJ _ y n2 th g kn2 td hP (hD.weaken (fun _ _ _ _ => trivial)) (j_X2_isNone a1) (j_X2_isNoStep a2)) (cwV 2 hts gX2_plus_X2_isStopped rfl rfl rfl (by decide +kernel) ⟨(Nat.le_of_ble_eq_true rfl), (Nat.le_of_ble_eq_true rfl)⟩) (k_preV hE hS hFc (va_recv hK hP (ci := 4) (q0 := 0) rfl rfl)) rfl rfl hl.1 rfl (lv_room (Nat.le_of_ble_eq_true rfl)) dX2_plus_9 ⟨(Nat.le_of_ble_eq_true rfl), (Nat.le_of_ble_eq_true rfl)⟩) hS (fun q _ h => hFc q h) hFc (fun v H locs hp hz hk hS => ?_)
  obtain ⟨rfl, hP1, hD1⟩ := hp
  (try dsimp only at hP1 hD1)
  have hP : va_P D vwCl [(y, .inr (4, [.int (j_stT (j_X2_isNone a1) (j_X2_isNoStep a2)), .ref n2, .int kn2, .int td])), (n2, .inl (cJ, 8, .inr (.inl g)))] H := hP1
  have hD : va_D A [(y, .inr (4, [.int (j_stT (j_X2_isNone a1) (j_X2_isNoStep a2)), .ref n2, .int kn2, .int td])), (n2, .inl (cJ, 8, .inr (.inl g)))] := hD1.weaken (fun _ q _ h => hFc q.1 h)
  refine W.eq (g2 := F0 m 12 ls [.int (j_stR (j_X2_isNone a1) (j_X2_isNoStep a2))]) rfl ?_
  refine lv_if_eq (tgt := 19) hx hb dX2_plus_12 (by decide) (fun c_1 => ?_) (fun c_1 => ?_)
  · refine lv_aload_n hx hb dX2_plus_19 rfl (lv_at hl 0 rfl) ?_
    refine lv_iload_n hx hb dX2_plus_20 rfl (lv_at hl 1 rfl) ?_
    refine lv_aload_n hx hb dX2_plus_21 rfl (lv_at hl 0 rfl) ?_
    refine va_get (D := D) (ci := 4) (v := .ref n2) (C := RX2) (T := TX2) (N := 4) hx hb hts iw_X2_plus_X2 hown hK hP 0 rfl rfl 1 (by decide) (hts (.fieldLink RX2 9 "ClocksoloModel" "its" "[J") (by decide +kernel)) (fun _ h9 => h9) rfl dX2_plus_22 ?_
    refine lv_iload_n hx hb dX2_plus_25 rfl (lv_at hl 1 rfl) ?_
    refine va_lald hx hb hK hP 1 1 rfl rfl (hT.1 c_1).1 dX2_plus_26 ?_
    refine lv_iload_n hx hb dX2_plus_27 rfl (lv_at hl 2 rfl) ?_
    refine lv_iload_n hx hb dX2_plus_28 rfl (lv_at hl 3 rfl) ?_
    refine lv_i2l (v := a3.toInt64) hx hb dX2_plus_29 rfl ?_
    refine lv_iload hx hb dX2_plus_30 (lv_at hl 4 rfl) ?_
    refine lv_i2l (v := a4.toInt64) hx hb dX2_plus_32 rfl ?_
    refine lv_lmul hx hb dX2_plus_33 ?_
    refine k_pS [.long (g a1.toNatClampNeg), .int a2, .long (a3.toInt64 * a4.toInt64)] (rest := [.int a1, .ref y]) ⟨hx, hb, hml, hown, hts⟩ (c_X2_on l D cB cJ _ (g a1.toNatClampNeg) a2 (a3.toInt64 * a4.toInt64) (hT.1 c_1).2.1) (va_cwS 3 hts gX2_plus_X2_on rfl rfl rfl (by decide +kernel) ⟨(Nat.le_of_ble_eq_true rfl), (Nat.le_of_ble_eq_true rfl)⟩) hE hS rfl rfl hl.1 (Nat.le_of_ble_eq_true rfl) dX2_plus_34 ⟨(Nat.le_of_ble_eq_true rfl), (Nat.le_of_ble_eq_true rfl)⟩ (fun locs hS => ?_)
    refine W.eq (g2 := F0 m 37 ls [.long (j_X2_on (g a1.toNatClampNeg) a2 (a3.toInt64 * a4.toInt64)), .int a1, .ref y]) rfl ?_
    have hFc := va_free (wc := [(y, .inr (4, [.int (j_stT (j_X2_isNone a1) (j_X2_isNoStep a2)), .ref n2, .int kn2, .int td])), (n2, .inl (cJ, 8, .inr (.inl g)))]) hD hS hA [0, 1] rfl
    refine k_go (va_runV (As := [.int a1, .long (j_X2_on (g a1.toNatClampNeg) a2 (a3.toInt64 * a4.toInt64))]) (rest := []) ⟨hx, hb, hml, hown, hts⟩ (cq_X2_set l D cB cJ _ y n2 (j_stT (j_X2_isNone a1) (j_X2_isNoStep a2)) g kn2 td hP (hD.weaken (fun _ _ _ _ => trivial)) a1 (j_X2_on (g a1.toNatClampNeg) a2 (a3.toInt64 * a4.toInt64)) (hT.1 c_1).2.2.1) (cwV 2 hts gX2_plus_X2_set rfl rfl rfl (by decide +kernel) ⟨(Nat.le_of_ble_eq_true rfl), (Nat.le_of_ble_eq_true rfl)⟩) (k_preV hE hS hFc (va_recv hK hP (ci := 4) (q0 := 0) rfl rfl)) rfl rfl hl.1 rfl (lv_room (Nat.le_of_ble_eq_true rfl)) dX2_plus_37 ⟨(Nat.le_of_ble_eq_true rfl), (Nat.le_of_ble_eq_true rfl)⟩) hS (fun q _ h => hFc q h) hFc (fun v H locs hp hz hk hS => ?_)
    obtain ⟨rfl, hP1, hD1⟩ := hp
    (try dsimp only at hP1 hD1)
    have hP : va_P D vwCl [(y, .inr (4, [.int (j_stT (j_X2_isNone a1) (j_X2_isNoStep a2)), .ref n2, .int kn2, .int (td + 1)])), (n2, .inl (cJ, 8, .inr (.inl (vp_updL g a1.toNatClampNeg (j_X2_on (g a1.toNatClampNeg) a2 (a3.toInt64 * a4.toInt64))))))] H := hP1
    have hD : va_D A [(y, .inr (4, [.int (j_stT (j_X2_isNone a1) (j_X2_isNoStep a2)), .ref n2, .int kn2, .int (td + 1)])), (n2, .inl (cJ, 8, .inr (.inl (vp_updL g a1.toNatClampNeg (j_X2_on (g a1.toNatClampNeg) a2 (a3.toInt64 * a4.toInt64))))))] := hD1.weaken (fun _ q _ h => hFc q.1 h)
    refine W.eq (g2 := F0 m 40 ls [.int (j_X2_secondOf (j_X2_on (g a1.toNatClampNeg) a2 (a3.toInt64 * a4.toInt64)))]) rfl ?_
    exact k_iret hx hb hr hlocks hS dX2_plus_40 ⟨by rw [hJ, if_pos c_1], by rw [hJ, if_pos c_1]; (try dsimp only); exact hP, by rw [hJ, if_pos c_1]; (try dsimp only); exact hD⟩
  · refine lv_iconst (v := 0) hx hb dX2_plus_15 (by decide) ?_
    refine lv_goto (tgt := 40) hx hb dX2_plus_16 (by decide) ?_
    exact k_iret hx hb hr hlocks hS dX2_plus_40 ⟨by rw [hJ, if_neg c_1], by rw [hJ, if_neg c_1]; (try dsimp only); exact hP, by rw [hJ, if_neg c_1]; (try dsimp only); exact hD⟩
abbrev rm_X2_minus : Room := { frames := 2, cells := 0, slots := 0, locals := 51 }
theorem iw_X2_minus_X2 : ∀ w ∈ wsX20, w ∈ wsX2_minus := by decide +kernel
def j_X2_minus (th : Int32) (g : Nat → Int64) (kn2 td : Int32) (a1 : Int32) (a2 : Int32) (a3 : Int32) (a4 : Int32) : Int32 × Int32 × (Nat → Int64) × Int32 × Int32 := (if (j_stR (j_X2_isNone a1) (j_X2_isNoStep a2)) = 0 then ((j_X2_secondOf (j_X2_on (g a1.toNatClampNeg) a2 (-(a3.toInt64 * a4.toInt64)))), (j_stT (j_X2_isNone a1) (j_X2_isNoStep a2)), (vp_updL g a1.toNatClampNeg (j_X2_on (g a1.toNatClampNeg) a2 (-(a3.toInt64 * a4.toInt64)))), kn2, (td + 1)) else (0, (j_stT (j_X2_isNone a1) (j_X2_isNoStep a2)), g, kn2, td))
def T_X2_minus (th : Int32) (g : Nat → Int64) (kn2 td : Int32) (a1 : Int32) (a2 : Int32) (a3 : Int32) (a4 : Int32) : Prop := (((j_stR (j_X2_isNone a1) (j_X2_isNoStep a2)) = 0 → (vp_in a1 8 ∧ (T_X2_on (g a1.toNatClampNeg) a2 (-(a3.toInt64 * a4.toInt64)) ∧ (T_X2_set (j_stT (j_X2_isNone a1) (j_X2_isNoStep a2)) g kn2 td a1 (j_X2_on (g a1.toNatClampNeg) a2 (-(a3.toInt64 * a4.toInt64))) ∧ True)))) ∧ (¬ ((j_stR (j_X2_isNone a1) (j_X2_isNoStep a2)) = 0) → True))
set_option maxHeartbeats 4000000 in
set_option maxRecDepth 100000 in
theorem c_X2_minus (l : Launch) (D : va_G) (cB cJ : ClassId) (Hp : Heap) (y n2 : Nat) (th : Int32) (g : Nat → Int64) (kn2 td : Int32) (hP : va_P D vwCl (wMo y n2 cJ th g kn2 td) Hp) (hD9 : va_D (fun _ => True) (wMo y n2 cJ th g kn2 td)) (a1 : Int32) (a2 : Int32) (a3 : Int32) (a4 : Int32) (hT9 : T_X2_minus th g kn2 td a1 a2 a3 a4) : kM l D cB cJ yX2_minus wsX2_minus rm_X2_minus (va_A (wMo y n2 cJ th g kn2 td) Hp.size) Hp [.ref y, .int a1, .int a2, .int a3, .int a4] (kPm D y n2 cJ (va_A (wMo y n2 cJ th g kn2 td) Hp.size) (j_X2_minus th g kn2 td a1 a2 a3 a4)) 0 0 := by
  refine Met.ofW (cc := cX2_minus) (maxL := 5) (ret := (some .int)) (by decide) rfl ?_
  intro p e s m args below meth c s₁ B hml hv
  obtain ⟨rfl, hHp, hE⟩ := hv
  subst hHp
  have hx := B.exec
  have hb := B.bytes
  have hr := B.returns
  have hts := atoms_spec (ws := wsX2_minus) B.pre
  have hown : s.vm.findClass RX2 = some m.cls := findClass_of_methodNamed B.named
  have hlocks := B.notSynchronized
  have hK := hE.1
  have hD := hD9.self (sz := s.heap.size)
  generalize hAe : va_A (wMo y n2 cJ th g kn2 td) s.heap.size = A at hE hD ⊢
  have hA : ∀ q : Nat, s.heap.size ≤ q → A q := fun q h => by rw [← hAe]; exact Or.inr h
  have hS : va_S A s.heap s.heap [] := va_S.rf
  have hl := lv_entry ([.ref y, .int a1, .int a2, .int a3, .int a4]) (n := 5) (Nat.le_of_ble_eq_true rfl)
  rw [lg_entry_eq]
  generalize (lg_sl ([.ref y, .int a1, .int a2, .int a3, .int a4]) ++ List.replicate (5 - (lg_sl ([.ref y, .int a1, .int a2, .int a3, .int a4])).length) Slot.unset).toArray = ls at hl ⊢
  have hl : lv_has ls 5 [(0, .ref y), (1, .int a1), (2, .int a2), (3, .int a3), (4, .int a4)] := hl
  have hJ : (j_X2_minus th g kn2 td a1 a2 a3 a4) = (if (j_stR (j_X2_isNone a1) (j_X2_isNoStep a2)) = 0 then ((j_X2_secondOf (j_X2_on (g a1.toNatClampNeg) a2 (-(a3.toInt64 * a4.toInt64)))), (j_stT (j_X2_isNone a1) (j_X2_isNoStep a2)), (vp_updL g a1.toNatClampNeg (j_X2_on (g a1.toNatClampNeg) a2 (-(a3.toInt64 * a4.toInt64)))), kn2, (td + 1)) else (0, (j_stT (j_X2_isNone a1) (j_X2_isNoStep a2)), g, kn2, td)) := rfl
  have hT : (((j_stR (j_X2_isNone a1) (j_X2_isNoStep a2)) = 0 → (vp_in a1 8 ∧ (T_X2_on (g a1.toNatClampNeg) a2 (-(a3.toInt64 * a4.toInt64)) ∧ (T_X2_set (j_stT (j_X2_isNone a1) (j_X2_isNoStep a2)) g kn2 td a1 (j_X2_on (g a1.toNatClampNeg) a2 (-(a3.toInt64 * a4.toInt64))) ∧ True)))) ∧ (¬ ((j_stR (j_X2_isNone a1) (j_X2_isNoStep a2)) = 0) → True)) := hT9
  refine lv_aload_n hx hb dX2_minus_0 rfl (lv_at hl 0 rfl) ?_
  refine lv_iload_n hx hb dX2_minus_1 rfl (lv_at hl 1 rfl) ?_
  refine k_pS [.int a1] (rest := [.ref y]) ⟨hx, hb, hml, hown, hts⟩ (c_X2_isNone l D cB cJ _ a1) (va_cwS 1 hts gX2_minus_X2_isNone rfl rfl rfl (by decide +kernel) ⟨(Nat.le_of_ble_eq_true rfl), (Nat.le_of_ble_eq_true rfl)⟩) hE hS rfl rfl hl.1 (Nat.le_of_ble_eq_true rfl) dX2_minus_2 ⟨(Nat.le_of_ble_eq_true rfl), (Nat.le_of_ble_eq_true rfl)⟩ (fun locs hS => ?_)
  refine W.eq (g2 := F0 m 5 ls [.int (j_X2_isNone a1), .ref y]) rfl ?_
  refine lv_iload_n hx hb dX2_minus_5 rfl (lv_at hl 2 rfl) ?_
  refine k_pS [.int a2] (rest := [.int (j_X2_isNone a1), .ref y]) ⟨hx, hb, hml, hown, hts⟩ (c_X2_isNoStep l D cB cJ _ a2) (va_cwS 1 hts gX2_minus_X2_isNoStep rfl rfl rfl (by decide +kernel) ⟨(Nat.le_of_ble_eq_true rfl), (Nat.le_of_ble_eq_true rfl)⟩) hE hS rfl rfl hl.1 (Nat.le_of_ble_eq_true rfl) dX2_minus_6 ⟨(Nat.le_of_ble_eq_true rfl), (Nat.le_of_ble_eq_true rfl)⟩ (fun locs hS => ?_)
  refine W.eq (g2 := F0 m 9 ls [.int (j_X2_isNoStep a2), .int (j_X2_isNone a1), .ref y]) rfl ?_
  have hFc := va_free (wc := [(y, .inr (4, [.int th, .ref n2, .int kn2, .int td])), (n2, .inl (cJ, 8, .inr (.inl g)))]) hD hS hA [0, 1] rfl
  refine k_go (va_runV (As := [.int (j_X2_isNone a1), .int (j_X2_isNoStep a2)]) (rest := []) ⟨hx, hb, hml, hown, hts⟩ (cq_X2_isStopped l D cB cJ _ y n2 th g kn2 td hP (hD.weaken (fun _ _ _ _ => trivial)) (j_X2_isNone a1) (j_X2_isNoStep a2)) (cwV 2 hts gX2_minus_X2_isStopped rfl rfl rfl (by decide +kernel) ⟨(Nat.le_of_ble_eq_true rfl), (Nat.le_of_ble_eq_true rfl)⟩) (k_preV hE hS hFc (va_recv hK hP (ci := 4) (q0 := 0) rfl rfl)) rfl rfl hl.1 rfl (lv_room (Nat.le_of_ble_eq_true rfl)) dX2_minus_9 ⟨(Nat.le_of_ble_eq_true rfl), (Nat.le_of_ble_eq_true rfl)⟩) hS (fun q _ h => hFc q h) hFc (fun v H locs hp hz hk hS => ?_)
  obtain ⟨rfl, hP1, hD1⟩ := hp
  (try dsimp only at hP1 hD1)
  have hP : va_P D vwCl [(y, .inr (4, [.int (j_stT (j_X2_isNone a1) (j_X2_isNoStep a2)), .ref n2, .int kn2, .int td])), (n2, .inl (cJ, 8, .inr (.inl g)))] H := hP1
  have hD : va_D A [(y, .inr (4, [.int (j_stT (j_X2_isNone a1) (j_X2_isNoStep a2)), .ref n2, .int kn2, .int td])), (n2, .inl (cJ, 8, .inr (.inl g)))] := hD1.weaken (fun _ q _ h => hFc q.1 h)
  refine W.eq (g2 := F0 m 12 ls [.int (j_stR (j_X2_isNone a1) (j_X2_isNoStep a2))]) rfl ?_
  refine lv_if_eq (tgt := 19) hx hb dX2_minus_12 (by decide) (fun c_1 => ?_) (fun c_1 => ?_)
  · refine lv_aload_n hx hb dX2_minus_19 rfl (lv_at hl 0 rfl) ?_
    refine lv_iload_n hx hb dX2_minus_20 rfl (lv_at hl 1 rfl) ?_
    refine lv_aload_n hx hb dX2_minus_21 rfl (lv_at hl 0 rfl) ?_
    refine va_get (D := D) (ci := 4) (v := .ref n2) (C := RX2) (T := TX2) (N := 4) hx hb hts iw_X2_minus_X2 hown hK hP 0 rfl rfl 1 (by decide) (hts (.fieldLink RX2 9 "ClocksoloModel" "its" "[J") (by decide +kernel)) (fun _ h9 => h9) rfl dX2_minus_22 ?_
    refine lv_iload_n hx hb dX2_minus_25 rfl (lv_at hl 1 rfl) ?_
    refine va_lald hx hb hK hP 1 1 rfl rfl (hT.1 c_1).1 dX2_minus_26 ?_
    refine lv_iload_n hx hb dX2_minus_27 rfl (lv_at hl 2 rfl) ?_
    refine lv_iload_n hx hb dX2_minus_28 rfl (lv_at hl 3 rfl) ?_
    refine lv_i2l (v := a3.toInt64) hx hb dX2_minus_29 rfl ?_
    refine lv_iload hx hb dX2_minus_30 (lv_at hl 4 rfl) ?_
    refine lv_i2l (v := a4.toInt64) hx hb dX2_minus_32 rfl ?_
    refine lv_lmul hx hb dX2_minus_33 ?_
    refine lv_lneg hx hb dX2_minus_34 ?_
    refine k_pS [.long (g a1.toNatClampNeg), .int a2, .long (-(a3.toInt64 * a4.toInt64))] (rest := [.int a1, .ref y]) ⟨hx, hb, hml, hown, hts⟩ (c_X2_on l D cB cJ _ (g a1.toNatClampNeg) a2 (-(a3.toInt64 * a4.toInt64)) (hT.1 c_1).2.1) (va_cwS 3 hts gX2_minus_X2_on rfl rfl rfl (by decide +kernel) ⟨(Nat.le_of_ble_eq_true rfl), (Nat.le_of_ble_eq_true rfl)⟩) hE hS rfl rfl hl.1 (Nat.le_of_ble_eq_true rfl) dX2_minus_35 ⟨(Nat.le_of_ble_eq_true rfl), (Nat.le_of_ble_eq_true rfl)⟩ (fun locs hS => ?_)
    refine W.eq (g2 := F0 m 38 ls [.long (j_X2_on (g a1.toNatClampNeg) a2 (-(a3.toInt64 * a4.toInt64))), .int a1, .ref y]) rfl ?_
    have hFc := va_free (wc := [(y, .inr (4, [.int (j_stT (j_X2_isNone a1) (j_X2_isNoStep a2)), .ref n2, .int kn2, .int td])), (n2, .inl (cJ, 8, .inr (.inl g)))]) hD hS hA [0, 1] rfl
    refine k_go (va_runV (As := [.int a1, .long (j_X2_on (g a1.toNatClampNeg) a2 (-(a3.toInt64 * a4.toInt64)))]) (rest := []) ⟨hx, hb, hml, hown, hts⟩ (cq_X2_set l D cB cJ _ y n2 (j_stT (j_X2_isNone a1) (j_X2_isNoStep a2)) g kn2 td hP (hD.weaken (fun _ _ _ _ => trivial)) a1 (j_X2_on (g a1.toNatClampNeg) a2 (-(a3.toInt64 * a4.toInt64))) (hT.1 c_1).2.2.1) (cwV 2 hts gX2_minus_X2_set rfl rfl rfl (by decide +kernel) ⟨(Nat.le_of_ble_eq_true rfl), (Nat.le_of_ble_eq_true rfl)⟩) (k_preV hE hS hFc (va_recv hK hP (ci := 4) (q0 := 0) rfl rfl)) rfl rfl hl.1 rfl (lv_room (Nat.le_of_ble_eq_true rfl)) dX2_minus_38 ⟨(Nat.le_of_ble_eq_true rfl), (Nat.le_of_ble_eq_true rfl)⟩) hS (fun q _ h => hFc q h) hFc (fun v H locs hp hz hk hS => ?_)
    obtain ⟨rfl, hP1, hD1⟩ := hp
    (try dsimp only at hP1 hD1)
    have hP : va_P D vwCl [(y, .inr (4, [.int (j_stT (j_X2_isNone a1) (j_X2_isNoStep a2)), .ref n2, .int kn2, .int (td + 1)])), (n2, .inl (cJ, 8, .inr (.inl (vp_updL g a1.toNatClampNeg (j_X2_on (g a1.toNatClampNeg) a2 (-(a3.toInt64 * a4.toInt64)))))))] H := hP1
    have hD : va_D A [(y, .inr (4, [.int (j_stT (j_X2_isNone a1) (j_X2_isNoStep a2)), .ref n2, .int kn2, .int (td + 1)])), (n2, .inl (cJ, 8, .inr (.inl (vp_updL g a1.toNatClampNeg (j_X2_on (g a1.toNatClampNeg) a2 (-(a3.toInt64 * a4.toInt64)))))))] := hD1.weaken (fun _ q _ h => hFc q.1 h)
    refine W.eq (g2 := F0 m 41 ls [.int (j_X2_secondOf (j_X2_on (g a1.toNatClampNeg) a2 (-(a3.toInt64 * a4.toInt64))))]) rfl ?_
    exact k_iret hx hb hr hlocks hS dX2_minus_41 ⟨by rw [hJ, if_pos c_1], by rw [hJ, if_pos c_1]; (try dsimp only); exact hP, by rw [hJ, if_pos c_1]; (try dsimp only); exact hD⟩
  · refine lv_iconst (v := 0) hx hb dX2_minus_15 (by decide) ?_
    refine lv_goto (tgt := 41) hx hb dX2_minus_16 (by decide) ?_
    exact k_iret hx hb hr hlocks hS dX2_minus_41 ⟨by rw [hJ, if_neg c_1], by rw [hJ, if_neg c_1]; (try dsimp only); exact hP, by rw [hJ, if_neg c_1]; (try dsimp only); exact hD⟩
abbrev rm_X2_cut : Room := { frames := 2, cells := 0, slots := 0, locals := 44 }
theorem iw_X2_cut_X2 : ∀ w ∈ wsX20, w ∈ wsX2_cut := by decide +kernel
def j_X2_cut (th : Int32) (g : Nat → Int64) (kn2 td : Int32) (a1 : Int32) (a2 : Int32) : Int32 × Int32 × (Nat → Int64) × Int32 × Int32 := (if (j_X2_isIn a2 0 7) = 0 then (if (j_stR (j_X2_isNone a1) (1 : Int32)) = 0 then ((j_X2_secondOf ((g a1.toNatClampNeg) - ((g a1.toNatClampNeg) - ((g a1.toNatClampNeg) / (j_X2_size a2)) * (j_X2_size a2)))), (j_stT (j_X2_isNone a1) (1 : Int32)), (vp_updL g a1.toNatClampNeg ((g a1.toNatClampNeg) - ((g a1.toNatClampNeg) - ((g a1.toNatClampNeg) / (j_X2_size a2)) * (j_X2_size a2)))), kn2, (td + 1)) else (0, (j_stT (j_X2_isNone a1) (1 : Int32)), g, kn2, td)) else (if (j_stR (j_X2_isNone a1) (0 : Int32)) = 0 then ((j_X2_secondOf ((g a1.toNatClampNeg) - ((g a1.toNatClampNeg) - ((g a1.toNatClampNeg) / (j_X2_size a2)) * (j_X2_size a2)))), (j_stT (j_X2_isNone a1) (0 : Int32)), (vp_updL g a1.toNatClampNeg ((g a1.toNatClampNeg) - ((g a1.toNatClampNeg) - ((g a1.toNatClampNeg) / (j_X2_size a2)) * (j_X2_size a2)))), kn2, (td + 1)) else (0, (j_stT (j_X2_isNone a1) (0 : Int32)), g, kn2, td)))
def T_X2_cut (th : Int32) (g : Nat → Int64) (kn2 td : Int32) (a1 : Int32) (a2 : Int32) : Prop := (((j_X2_isIn a2 0 7) = 0 → (((j_stR (j_X2_isNone a1) (1 : Int32)) = 0 → (vp_in a1 8 ∧ (T_X2_size a2 ∧ (¬ (j_X2_size a2) = 0 ∧ (T_X2_set (j_stT (j_X2_isNone a1) (1 : Int32)) g kn2 td a1 ((g a1.toNatClampNeg) - ((g a1.toNatClampNeg) - ((g a1.toNatClampNeg) / (j_X2_size a2)) * (j_X2_size a2))) ∧ True))))) ∧ (¬ ((j_stR (j_X2_isNone a1) (1 : Int32)) = 0) → True))) ∧ (¬ ((j_X2_isIn a2 0 7) = 0) → (((j_stR (j_X2_isNone a1) (0 : Int32)) = 0 → (vp_in a1 8 ∧ (T_X2_size a2 ∧ (¬ (j_X2_size a2) = 0 ∧ (T_X2_set (j_stT (j_X2_isNone a1) (0 : Int32)) g kn2 td a1 ((g a1.toNatClampNeg) - ((g a1.toNatClampNeg) - ((g a1.toNatClampNeg) / (j_X2_size a2)) * (j_X2_size a2))) ∧ True))))) ∧ (¬ ((j_stR (j_X2_isNone a1) (0 : Int32)) = 0) → True))))
set_option maxHeartbeats 4000000 in
set_option maxRecDepth 100000 in
theorem c_X2_cut (l : Launch) (D : va_G) (cB cJ : ClassId) (Hp : Heap) (y n2 : Nat) (th : Int32) (g : Nat → Int64) (kn2 td : Int32) (hP : va_P D vwCl (wMo y n2 cJ th g kn2 td) Hp) (hD9 : va_D (fun _ => True) (wMo y n2 cJ th g kn2 td)) (a1 : Int32) (a2 : Int32) (hT9 : T_X2_cut th g kn2 td a1 a2) : kM l D cB cJ yX2_cut wsX2_cut rm_X2_cut (va_A (wMo y n2 cJ th g kn2 td) Hp.size) Hp [.ref y, .int a1, .int a2] (kPm D y n2 cJ (va_A (wMo y n2 cJ th g kn2 td) Hp.size) (j_X2_cut th g kn2 td a1 a2)) 0 0 := by
  refine Met.ofW (cc := cX2_cut) (maxL := 3) (ret := (some .int)) (by decide) rfl ?_
  intro p e s m args below meth c s₁ B hml hv
  obtain ⟨rfl, hHp, hE⟩ := hv
  subst hHp
  have hx := B.exec
  have hb := B.bytes
  have hr := B.returns
  have hts := atoms_spec (ws := wsX2_cut) B.pre
  have hown : s.vm.findClass RX2 = some m.cls := findClass_of_methodNamed B.named
  have hlocks := B.notSynchronized
  have hK := hE.1
  have hD := hD9.self (sz := s.heap.size)
  generalize hAe : va_A (wMo y n2 cJ th g kn2 td) s.heap.size = A at hE hD ⊢
  have hA : ∀ q : Nat, s.heap.size ≤ q → A q := fun q h => by rw [← hAe]; exact Or.inr h
  have hS : va_S A s.heap s.heap [] := va_S.rf
  have hl := lv_entry ([.ref y, .int a1, .int a2]) (n := 3) (Nat.le_of_ble_eq_true rfl)
  rw [lg_entry_eq]
  generalize (lg_sl ([.ref y, .int a1, .int a2]) ++ List.replicate (3 - (lg_sl ([.ref y, .int a1, .int a2])).length) Slot.unset).toArray = ls at hl ⊢
  have hl : lv_has ls 3 [(0, .ref y), (1, .int a1), (2, .int a2)] := hl
  have hJ : (j_X2_cut th g kn2 td a1 a2) = (if (j_X2_isIn a2 0 7) = 0 then (if (j_stR (j_X2_isNone a1) (1 : Int32)) = 0 then ((j_X2_secondOf ((g a1.toNatClampNeg) - ((g a1.toNatClampNeg) - ((g a1.toNatClampNeg) / (j_X2_size a2)) * (j_X2_size a2)))), (j_stT (j_X2_isNone a1) (1 : Int32)), (vp_updL g a1.toNatClampNeg ((g a1.toNatClampNeg) - ((g a1.toNatClampNeg) - ((g a1.toNatClampNeg) / (j_X2_size a2)) * (j_X2_size a2)))), kn2, (td + 1)) else (0, (j_stT (j_X2_isNone a1) (1 : Int32)), g, kn2, td)) else (if (j_stR (j_X2_isNone a1) (0 : Int32)) = 0 then ((j_X2_secondOf ((g a1.toNatClampNeg) - ((g a1.toNatClampNeg) - ((g a1.toNatClampNeg) / (j_X2_size a2)) * (j_X2_size a2)))), (j_stT (j_X2_isNone a1) (0 : Int32)), (vp_updL g a1.toNatClampNeg ((g a1.toNatClampNeg) - ((g a1.toNatClampNeg) - ((g a1.toNatClampNeg) / (j_X2_size a2)) * (j_X2_size a2)))), kn2, (td + 1)) else (0, (j_stT (j_X2_isNone a1) (0 : Int32)), g, kn2, td))) := rfl
  have hT : (((j_X2_isIn a2 0 7) = 0 → (((j_stR (j_X2_isNone a1) (1 : Int32)) = 0 → (vp_in a1 8 ∧ (T_X2_size a2 ∧ (¬ (j_X2_size a2) = 0 ∧ (T_X2_set (j_stT (j_X2_isNone a1) (1 : Int32)) g kn2 td a1 ((g a1.toNatClampNeg) - ((g a1.toNatClampNeg) - ((g a1.toNatClampNeg) / (j_X2_size a2)) * (j_X2_size a2))) ∧ True))))) ∧ (¬ ((j_stR (j_X2_isNone a1) (1 : Int32)) = 0) → True))) ∧ (¬ ((j_X2_isIn a2 0 7) = 0) → (((j_stR (j_X2_isNone a1) (0 : Int32)) = 0 → (vp_in a1 8 ∧ (T_X2_size a2 ∧ (¬ (j_X2_size a2) = 0 ∧ (T_X2_set (j_stT (j_X2_isNone a1) (0 : Int32)) g kn2 td a1 ((g a1.toNatClampNeg) - ((g a1.toNatClampNeg) - ((g a1.toNatClampNeg) / (j_X2_size a2)) * (j_X2_size a2))) ∧ True))))) ∧ (¬ ((j_stR (j_X2_isNone a1) (0 : Int32)) = 0) → True)))) := hT9
  refine lv_aload_n hx hb dX2_cut_0 rfl (lv_at hl 0 rfl) ?_
  refine lv_iload_n hx hb dX2_cut_1 rfl (lv_at hl 1 rfl) ?_
  refine k_pS [.int a1] (rest := [.ref y]) ⟨hx, hb, hml, hown, hts⟩ (c_X2_isNone l D cB cJ _ a1) (va_cwS 1 hts gX2_cut_X2_isNone rfl rfl rfl (by decide +kernel) ⟨(Nat.le_of_ble_eq_true rfl), (Nat.le_of_ble_eq_true rfl)⟩) hE hS rfl rfl hl.1 (Nat.le_of_ble_eq_true rfl) dX2_cut_2 ⟨(Nat.le_of_ble_eq_true rfl), (Nat.le_of_ble_eq_true rfl)⟩ (fun locs hS => ?_)
  refine W.eq (g2 := F0 m 5 ls [.int (j_X2_isNone a1), .ref y]) rfl ?_
  refine lv_iload_n hx hb dX2_cut_5 rfl (lv_at hl 2 rfl) ?_
  refine lv_iconst (v := 0) hx hb dX2_cut_6 (by decide) ?_
  refine lv_bipush (v := 7) hx hb dX2_cut_7 (by decide) ?_
  refine k_pS [.int a2, .int 0, .int 7] (rest := [.int (j_X2_isNone a1), .ref y]) ⟨hx, hb, hml, hown, hts⟩ (c_X2_isIn l D cB cJ _ a2 0 7) (va_cwS 3 hts gX2_cut_X2_isIn rfl rfl rfl (by decide +kernel) ⟨(Nat.le_of_ble_eq_true rfl), (Nat.le_of_ble_eq_true rfl)⟩) hE hS rfl rfl hl.1 (Nat.le_of_ble_eq_true rfl) dX2_cut_9 ⟨(Nat.le_of_ble_eq_true rfl), (Nat.le_of_ble_eq_true rfl)⟩ (fun locs hS => ?_)
  refine W.eq (g2 := F0 m 12 ls [.int (j_X2_isIn a2 0 7), .int (j_X2_isNone a1), .ref y]) rfl ?_
  refine lv_if_ne (tgt := 19) hx hb dX2_cut_12 (by decide) (fun c_1 => ?_) (fun c_1 => ?_)
  · refine lv_iconst (v := 0) hx hb dX2_cut_19 (by decide) ?_
    have hFc := va_free (wc := [(y, .inr (4, [.int th, .ref n2, .int kn2, .int td])), (n2, .inl (cJ, 8, .inr (.inl g)))]) hD hS hA [0, 1] rfl
    refine k_go (va_runV (As := [.int (j_X2_isNone a1), .int 0]) (rest := []) ⟨hx, hb, hml, hown, hts⟩ (cq_X2_isStopped l D cB cJ _ y n2 th g kn2 td hP (hD.weaken (fun _ _ _ _ => trivial)) (j_X2_isNone a1) (0 : Int32)) (cwV 2 hts gX2_cut_X2_isStopped rfl rfl rfl (by decide +kernel) ⟨(Nat.le_of_ble_eq_true rfl), (Nat.le_of_ble_eq_true rfl)⟩) (k_preV hE hS hFc (va_recv hK hP (ci := 4) (q0 := 0) rfl rfl)) rfl rfl hl.1 rfl (lv_room (Nat.le_of_ble_eq_true rfl)) dX2_cut_20 ⟨(Nat.le_of_ble_eq_true rfl), (Nat.le_of_ble_eq_true rfl)⟩) hS (fun q _ h => hFc q h) hFc (fun v H locs hp hz hk hS => ?_)
    obtain ⟨rfl, hP1, hD1⟩ := hp
    (try dsimp only at hP1 hD1)
    have hP : va_P D vwCl [(y, .inr (4, [.int (j_stT (j_X2_isNone a1) (0 : Int32)), .ref n2, .int kn2, .int td])), (n2, .inl (cJ, 8, .inr (.inl g)))] H := hP1
    have hD : va_D A [(y, .inr (4, [.int (j_stT (j_X2_isNone a1) (0 : Int32)), .ref n2, .int kn2, .int td])), (n2, .inl (cJ, 8, .inr (.inl g)))] := hD1.weaken (fun _ q _ h => hFc q.1 h)
    refine W.eq (g2 := F0 m 23 ls [.int (j_stR (j_X2_isNone a1) (0 : Int32))]) rfl ?_
    refine lv_if_eq (tgt := 30) hx hb dX2_cut_23 (by decide) (fun c_2 => ?_) (fun c_2 => ?_)
    · refine lv_aload_n hx hb dX2_cut_30 rfl (lv_at hl 0 rfl) ?_
      refine lv_iload_n hx hb dX2_cut_31 rfl (lv_at hl 1 rfl) ?_
      refine lv_aload_n hx hb dX2_cut_32 rfl (lv_at hl 0 rfl) ?_
      refine va_get (D := D) (ci := 4) (v := .ref n2) (C := RX2) (T := TX2) (N := 4) hx hb hts iw_X2_cut_X2 hown hK hP 0 rfl rfl 1 (by decide) (hts (.fieldLink RX2 9 "ClocksoloModel" "its" "[J") (by decide +kernel)) (fun _ h9 => h9) rfl dX2_cut_33 ?_
      refine lv_iload_n hx hb dX2_cut_36 rfl (lv_at hl 1 rfl) ?_
      refine va_lald hx hb hK hP 1 1 rfl rfl ((hT.2 c_1).1 c_2).1 dX2_cut_37 ?_
      refine lv_aload_n hx hb dX2_cut_38 rfl (lv_at hl 0 rfl) ?_
      refine va_get (D := D) (ci := 4) (v := .ref n2) (C := RX2) (T := TX2) (N := 4) hx hb hts iw_X2_cut_X2 hown hK hP 0 rfl rfl 1 (by decide) (hts (.fieldLink RX2 9 "ClocksoloModel" "its" "[J") (by decide +kernel)) (fun _ h9 => h9) rfl dX2_cut_39 ?_
      refine lv_iload_n hx hb dX2_cut_42 rfl (lv_at hl 1 rfl) ?_
      refine va_lald hx hb hK hP 1 1 rfl rfl ((hT.2 c_1).1 c_2).1 dX2_cut_43 ?_
      refine lv_iload_n hx hb dX2_cut_44 rfl (lv_at hl 2 rfl) ?_
      refine k_pS [.int a2] (rest := [.long (g a1.toNatClampNeg), .long (g a1.toNatClampNeg), .int a1, .ref y]) ⟨hx, hb, hml, hown, hts⟩ (c_X2_size l D cB cJ _ a2 ((hT.2 c_1).1 c_2).2.1) (va_cwS 1 hts gX2_cut_X2_size rfl rfl rfl (by decide +kernel) ⟨(Nat.le_of_ble_eq_true rfl), (Nat.le_of_ble_eq_true rfl)⟩) hE hS rfl rfl hl.1 (Nat.le_of_ble_eq_true rfl) dX2_cut_45 ⟨(Nat.le_of_ble_eq_true rfl), (Nat.le_of_ble_eq_true rfl)⟩ (fun locs hS => ?_)
      refine W.eq (g2 := F0 m 48 ls [.long (j_X2_size a2), .long (g a1.toNatClampNeg), .long (g a1.toNatClampNeg), .int a1, .ref y]) rfl ?_
      refine lv_lrem hx hb dX2_cut_48 ((hT.2 c_1).1 c_2).2.2.1 ?_
      refine lv_lsub hx hb dX2_cut_49 ?_
      have hFc := va_free (wc := [(y, .inr (4, [.int (j_stT (j_X2_isNone a1) (0 : Int32)), .ref n2, .int kn2, .int td])), (n2, .inl (cJ, 8, .inr (.inl g)))]) hD hS hA [0, 1] rfl
      refine k_go (va_runV (As := [.int a1, .long ((g a1.toNatClampNeg) - ((g a1.toNatClampNeg) - ((g a1.toNatClampNeg) / (j_X2_size a2)) * (j_X2_size a2)))]) (rest := []) ⟨hx, hb, hml, hown, hts⟩ (cq_X2_set l D cB cJ _ y n2 (j_stT (j_X2_isNone a1) (0 : Int32)) g kn2 td hP (hD.weaken (fun _ _ _ _ => trivial)) a1 ((g a1.toNatClampNeg) - ((g a1.toNatClampNeg) - ((g a1.toNatClampNeg) / (j_X2_size a2)) * (j_X2_size a2))) ((hT.2 c_1).1 c_2).2.2.2.1) (cwV 2 hts gX2_cut_X2_set rfl rfl rfl (by decide +kernel) ⟨(Nat.le_of_ble_eq_true rfl), (Nat.le_of_ble_eq_true rfl)⟩) (k_preV hE hS hFc (va_recv hK hP (ci := 4) (q0 := 0) rfl rfl)) rfl rfl hl.1 rfl (lv_room (Nat.le_of_ble_eq_true rfl)) dX2_cut_50 ⟨(Nat.le_of_ble_eq_true rfl), (Nat.le_of_ble_eq_true rfl)⟩) hS (fun q _ h => hFc q h) hFc (fun v H locs hp hz hk hS => ?_)
      obtain ⟨rfl, hP1, hD1⟩ := hp
      (try dsimp only at hP1 hD1)
      have hP : va_P D vwCl [(y, .inr (4, [.int (j_stT (j_X2_isNone a1) (0 : Int32)), .ref n2, .int kn2, .int (td + 1)])), (n2, .inl (cJ, 8, .inr (.inl (vp_updL g a1.toNatClampNeg ((g a1.toNatClampNeg) - ((g a1.toNatClampNeg) - ((g a1.toNatClampNeg) / (j_X2_size a2)) * (j_X2_size a2)))))))] H := hP1
      have hD : va_D A [(y, .inr (4, [.int (j_stT (j_X2_isNone a1) (0 : Int32)), .ref n2, .int kn2, .int (td + 1)])), (n2, .inl (cJ, 8, .inr (.inl (vp_updL g a1.toNatClampNeg ((g a1.toNatClampNeg) - ((g a1.toNatClampNeg) - ((g a1.toNatClampNeg) / (j_X2_size a2)) * (j_X2_size a2)))))))] := hD1.weaken (fun _ q _ h => hFc q.1 h)
      refine W.eq (g2 := F0 m 53 ls [.int (j_X2_secondOf ((g a1.toNatClampNeg) - ((g a1.toNatClampNeg) - ((g a1.toNatClampNeg) / (j_X2_size a2)) * (j_X2_size a2))))]) rfl ?_
      exact k_iret hx hb hr hlocks hS dX2_cut_53 ⟨by rw [hJ, if_neg c_1, if_pos c_2], by rw [hJ, if_neg c_1, if_pos c_2]; (try dsimp only); exact hP, by rw [hJ, if_neg c_1, if_pos c_2]; (try dsimp only); exact hD⟩
    · refine lv_iconst (v := 0) hx hb dX2_cut_26 (by decide) ?_
      refine lv_goto (tgt := 53) hx hb dX2_cut_27 (by decide) ?_
      exact k_iret hx hb hr hlocks hS dX2_cut_53 ⟨by rw [hJ, if_neg c_1, if_neg c_2], by rw [hJ, if_neg c_1, if_neg c_2]; (try dsimp only); exact hP, by rw [hJ, if_neg c_1, if_neg c_2]; (try dsimp only); exact hD⟩
  · refine lv_iconst (v := 1) hx hb dX2_cut_15 (by decide) ?_
    refine lv_goto (tgt := 20) hx hb dX2_cut_16 (by decide) ?_
    have hFc := va_free (wc := [(y, .inr (4, [.int th, .ref n2, .int kn2, .int td])), (n2, .inl (cJ, 8, .inr (.inl g)))]) hD hS hA [0, 1] rfl
    refine k_go (va_runV (As := [.int (j_X2_isNone a1), .int 1]) (rest := []) ⟨hx, hb, hml, hown, hts⟩ (cq_X2_isStopped l D cB cJ _ y n2 th g kn2 td hP (hD.weaken (fun _ _ _ _ => trivial)) (j_X2_isNone a1) (1 : Int32)) (cwV 2 hts gX2_cut_X2_isStopped rfl rfl rfl (by decide +kernel) ⟨(Nat.le_of_ble_eq_true rfl), (Nat.le_of_ble_eq_true rfl)⟩) (k_preV hE hS hFc (va_recv hK hP (ci := 4) (q0 := 0) rfl rfl)) rfl rfl hl.1 rfl (lv_room (Nat.le_of_ble_eq_true rfl)) dX2_cut_20 ⟨(Nat.le_of_ble_eq_true rfl), (Nat.le_of_ble_eq_true rfl)⟩) hS (fun q _ h => hFc q h) hFc (fun v H locs hp hz hk hS => ?_)
    obtain ⟨rfl, hP1, hD1⟩ := hp
    (try dsimp only at hP1 hD1)
    have hP : va_P D vwCl [(y, .inr (4, [.int (j_stT (j_X2_isNone a1) (1 : Int32)), .ref n2, .int kn2, .int td])), (n2, .inl (cJ, 8, .inr (.inl g)))] H := hP1
    have hD : va_D A [(y, .inr (4, [.int (j_stT (j_X2_isNone a1) (1 : Int32)), .ref n2, .int kn2, .int td])), (n2, .inl (cJ, 8, .inr (.inl g)))] := hD1.weaken (fun _ q _ h => hFc q.1 h)
    refine W.eq (g2 := F0 m 23 ls [.int (j_stR (j_X2_isNone a1) (1 : Int32))]) rfl ?_
    refine lv_if_eq (tgt := 30) hx hb dX2_cut_23 (by decide) (fun c_3 => ?_) (fun c_3 => ?_)
    · refine lv_aload_n hx hb dX2_cut_30 rfl (lv_at hl 0 rfl) ?_
      refine lv_iload_n hx hb dX2_cut_31 rfl (lv_at hl 1 rfl) ?_
      refine lv_aload_n hx hb dX2_cut_32 rfl (lv_at hl 0 rfl) ?_
      refine va_get (D := D) (ci := 4) (v := .ref n2) (C := RX2) (T := TX2) (N := 4) hx hb hts iw_X2_cut_X2 hown hK hP 0 rfl rfl 1 (by decide) (hts (.fieldLink RX2 9 "ClocksoloModel" "its" "[J") (by decide +kernel)) (fun _ h9 => h9) rfl dX2_cut_33 ?_
      refine lv_iload_n hx hb dX2_cut_36 rfl (lv_at hl 1 rfl) ?_
      refine va_lald hx hb hK hP 1 1 rfl rfl ((hT.1 c_1).1 c_3).1 dX2_cut_37 ?_
      refine lv_aload_n hx hb dX2_cut_38 rfl (lv_at hl 0 rfl) ?_
      refine va_get (D := D) (ci := 4) (v := .ref n2) (C := RX2) (T := TX2) (N := 4) hx hb hts iw_X2_cut_X2 hown hK hP 0 rfl rfl 1 (by decide) (hts (.fieldLink RX2 9 "ClocksoloModel" "its" "[J") (by decide +kernel)) (fun _ h9 => h9) rfl dX2_cut_39 ?_
      refine lv_iload_n hx hb dX2_cut_42 rfl (lv_at hl 1 rfl) ?_
      refine va_lald hx hb hK hP 1 1 rfl rfl ((hT.1 c_1).1 c_3).1 dX2_cut_43 ?_
      refine lv_iload_n hx hb dX2_cut_44 rfl (lv_at hl 2 rfl) ?_
      refine k_pS [.int a2] (rest := [.long (g a1.toNatClampNeg), .long (g a1.toNatClampNeg), .int a1, .ref y]) ⟨hx, hb, hml, hown, hts⟩ (c_X2_size l D cB cJ _ a2 ((hT.1 c_1).1 c_3).2.1) (va_cwS 1 hts gX2_cut_X2_size rfl rfl rfl (by decide +kernel) ⟨(Nat.le_of_ble_eq_true rfl), (Nat.le_of_ble_eq_true rfl)⟩) hE hS rfl rfl hl.1 (Nat.le_of_ble_eq_true rfl) dX2_cut_45 ⟨(Nat.le_of_ble_eq_true rfl), (Nat.le_of_ble_eq_true rfl)⟩ (fun locs hS => ?_)
      refine W.eq (g2 := F0 m 48 ls [.long (j_X2_size a2), .long (g a1.toNatClampNeg), .long (g a1.toNatClampNeg), .int a1, .ref y]) rfl ?_
      refine lv_lrem hx hb dX2_cut_48 ((hT.1 c_1).1 c_3).2.2.1 ?_
      refine lv_lsub hx hb dX2_cut_49 ?_
      have hFc := va_free (wc := [(y, .inr (4, [.int (j_stT (j_X2_isNone a1) (1 : Int32)), .ref n2, .int kn2, .int td])), (n2, .inl (cJ, 8, .inr (.inl g)))]) hD hS hA [0, 1] rfl
      refine k_go (va_runV (As := [.int a1, .long ((g a1.toNatClampNeg) - ((g a1.toNatClampNeg) - ((g a1.toNatClampNeg) / (j_X2_size a2)) * (j_X2_size a2)))]) (rest := []) ⟨hx, hb, hml, hown, hts⟩ (cq_X2_set l D cB cJ _ y n2 (j_stT (j_X2_isNone a1) (1 : Int32)) g kn2 td hP (hD.weaken (fun _ _ _ _ => trivial)) a1 ((g a1.toNatClampNeg) - ((g a1.toNatClampNeg) - ((g a1.toNatClampNeg) / (j_X2_size a2)) * (j_X2_size a2))) ((hT.1 c_1).1 c_3).2.2.2.1) (cwV 2 hts gX2_cut_X2_set rfl rfl rfl (by decide +kernel) ⟨(Nat.le_of_ble_eq_true rfl), (Nat.le_of_ble_eq_true rfl)⟩) (k_preV hE hS hFc (va_recv hK hP (ci := 4) (q0 := 0) rfl rfl)) rfl rfl hl.1 rfl (lv_room (Nat.le_of_ble_eq_true rfl)) dX2_cut_50 ⟨(Nat.le_of_ble_eq_true rfl), (Nat.le_of_ble_eq_true rfl)⟩) hS (fun q _ h => hFc q h) hFc (fun v H locs hp hz hk hS => ?_)
      obtain ⟨rfl, hP1, hD1⟩ := hp
      (try dsimp only at hP1 hD1)
      have hP : va_P D vwCl [(y, .inr (4, [.int (j_stT (j_X2_isNone a1) (1 : Int32)), .ref n2, .int kn2, .int (td + 1)])), (n2, .inl (cJ, 8, .inr (.inl (vp_updL g a1.toNatClampNeg ((g a1.toNatClampNeg) - ((g a1.toNatClampNeg) - ((g a1.toNatClampNeg) / (j_X2_size a2)) * (j_X2_size a2)))))))] H := hP1
      have hD : va_D A [(y, .inr (4, [.int (j_stT (j_X2_isNone a1) (1 : Int32)), .ref n2, .int kn2, .int (td + 1)])), (n2, .inl (cJ, 8, .inr (.inl (vp_updL g a1.toNatClampNeg ((g a1.toNatClampNeg) - ((g a1.toNatClampNeg) - ((g a1.toNatClampNeg) / (j_X2_size a2)) * (j_X2_size a2)))))))] := hD1.weaken (fun _ q _ h => hFc q.1 h)
      refine W.eq (g2 := F0 m 53 ls [.int (j_X2_secondOf ((g a1.toNatClampNeg) - ((g a1.toNatClampNeg) - ((g a1.toNatClampNeg) / (j_X2_size a2)) * (j_X2_size a2))))]) rfl ?_
      exact k_iret hx hb hr hlocks hS dX2_cut_53 ⟨by rw [hJ, if_pos c_1, if_pos c_3], by rw [hJ, if_pos c_1, if_pos c_3]; (try dsimp only); exact hP, by rw [hJ, if_pos c_1, if_pos c_3]; (try dsimp only); exact hD⟩
    · refine lv_iconst (v := 0) hx hb dX2_cut_26 (by decide) ?_
      refine lv_goto (tgt := 53) hx hb dX2_cut_27 (by decide) ?_
      exact k_iret hx hb hr hlocks hS dX2_cut_53 ⟨by rw [hJ, if_pos c_1, if_neg c_3], by rw [hJ, if_pos c_1, if_neg c_3]; (try dsimp only); exact hP, by rw [hJ, if_pos c_1, if_neg c_3]; (try dsimp only); exact hD⟩
abbrev rm_X2_of : Room := { frames := 2, cells := 0, slots := 0, locals := 44 }
theorem iw_X2_of_X2 : ∀ w ∈ wsX20, w ∈ wsX2_of := by decide +kernel
def j_X2_of (th : Int32) (g : Nat → Int64) (kn2 td : Int32) (a1 : Int32) (a2 : Int32) : Int32 × Int32 × (Nat → Int64) × Int32 × Int32 := (if (j_X2_isIn a2 0 4) = 0 then (if (j_stR (j_X2_isNone a1) (1 : Int32)) = 0 then ((j_X2_part (g a1.toNatClampNeg) a2), (j_stT (j_X2_isNone a1) (1 : Int32)), g, kn2, td) else (0, (j_stT (j_X2_isNone a1) (1 : Int32)), g, kn2, td)) else (if (j_stR (j_X2_isNone a1) (0 : Int32)) = 0 then ((j_X2_part (g a1.toNatClampNeg) a2), (j_stT (j_X2_isNone a1) (0 : Int32)), g, kn2, td) else (0, (j_stT (j_X2_isNone a1) (0 : Int32)), g, kn2, td)))
def T_X2_of (th : Int32) (g : Nat → Int64) (kn2 td : Int32) (a1 : Int32) (a2 : Int32) : Prop := (((j_X2_isIn a2 0 4) = 0 → (((j_stR (j_X2_isNone a1) (1 : Int32)) = 0 → (vp_in a1 8 ∧ True)) ∧ (¬ ((j_stR (j_X2_isNone a1) (1 : Int32)) = 0) → True))) ∧ (¬ ((j_X2_isIn a2 0 4) = 0) → (((j_stR (j_X2_isNone a1) (0 : Int32)) = 0 → (vp_in a1 8 ∧ True)) ∧ (¬ ((j_stR (j_X2_isNone a1) (0 : Int32)) = 0) → True))))
set_option maxHeartbeats 4000000 in
set_option maxRecDepth 100000 in
theorem c_X2_of (l : Launch) (D : va_G) (cB cJ : ClassId) (Hp : Heap) (y n2 : Nat) (th : Int32) (g : Nat → Int64) (kn2 td : Int32) (hP : va_P D vwCl (wMo y n2 cJ th g kn2 td) Hp) (hD9 : va_D (fun _ => True) (wMo y n2 cJ th g kn2 td)) (a1 : Int32) (a2 : Int32) (hT9 : T_X2_of th g kn2 td a1 a2) : kM l D cB cJ yX2_of wsX2_of rm_X2_of (va_A (wMo y n2 cJ th g kn2 td) Hp.size) Hp [.ref y, .int a1, .int a2] (kPm D y n2 cJ (va_A (wMo y n2 cJ th g kn2 td) Hp.size) (j_X2_of th g kn2 td a1 a2)) 0 0 := by
  refine Met.ofW (cc := cX2_of) (maxL := 3) (ret := (some .int)) (by decide) rfl ?_
  intro p e s m args below meth c s₁ B hml hv
  obtain ⟨rfl, hHp, hE⟩ := hv
  subst hHp
  have hx := B.exec
  have hb := B.bytes
  have hr := B.returns
  have hts := atoms_spec (ws := wsX2_of) B.pre
  have hown : s.vm.findClass RX2 = some m.cls := findClass_of_methodNamed B.named
  have hlocks := B.notSynchronized
  have hK := hE.1
  have hD := hD9.self (sz := s.heap.size)
  generalize hAe : va_A (wMo y n2 cJ th g kn2 td) s.heap.size = A at hE hD ⊢
  have hA : ∀ q : Nat, s.heap.size ≤ q → A q := fun q h => by rw [← hAe]; exact Or.inr h
  have hS : va_S A s.heap s.heap [] := va_S.rf
  have hl := lv_entry ([.ref y, .int a1, .int a2]) (n := 3) (Nat.le_of_ble_eq_true rfl)
  rw [lg_entry_eq]
  generalize (lg_sl ([.ref y, .int a1, .int a2]) ++ List.replicate (3 - (lg_sl ([.ref y, .int a1, .int a2])).length) Slot.unset).toArray = ls at hl ⊢
  have hl : lv_has ls 3 [(0, .ref y), (1, .int a1), (2, .int a2)] := hl
  have hJ : (j_X2_of th g kn2 td a1 a2) = (if (j_X2_isIn a2 0 4) = 0 then (if (j_stR (j_X2_isNone a1) (1 : Int32)) = 0 then ((j_X2_part (g a1.toNatClampNeg) a2), (j_stT (j_X2_isNone a1) (1 : Int32)), g, kn2, td) else (0, (j_stT (j_X2_isNone a1) (1 : Int32)), g, kn2, td)) else (if (j_stR (j_X2_isNone a1) (0 : Int32)) = 0 then ((j_X2_part (g a1.toNatClampNeg) a2), (j_stT (j_X2_isNone a1) (0 : Int32)), g, kn2, td) else (0, (j_stT (j_X2_isNone a1) (0 : Int32)), g, kn2, td))) := rfl
  have hT : (((j_X2_isIn a2 0 4) = 0 → (((j_stR (j_X2_isNone a1) (1 : Int32)) = 0 → (vp_in a1 8 ∧ True)) ∧ (¬ ((j_stR (j_X2_isNone a1) (1 : Int32)) = 0) → True))) ∧ (¬ ((j_X2_isIn a2 0 4) = 0) → (((j_stR (j_X2_isNone a1) (0 : Int32)) = 0 → (vp_in a1 8 ∧ True)) ∧ (¬ ((j_stR (j_X2_isNone a1) (0 : Int32)) = 0) → True)))) := hT9
  refine lv_aload_n hx hb dX2_of_0 rfl (lv_at hl 0 rfl) ?_
  refine lv_iload_n hx hb dX2_of_1 rfl (lv_at hl 1 rfl) ?_
  refine k_pS [.int a1] (rest := [.ref y]) ⟨hx, hb, hml, hown, hts⟩ (c_X2_isNone l D cB cJ _ a1) (va_cwS 1 hts gX2_of_X2_isNone rfl rfl rfl (by decide +kernel) ⟨(Nat.le_of_ble_eq_true rfl), (Nat.le_of_ble_eq_true rfl)⟩) hE hS rfl rfl hl.1 (Nat.le_of_ble_eq_true rfl) dX2_of_2 ⟨(Nat.le_of_ble_eq_true rfl), (Nat.le_of_ble_eq_true rfl)⟩ (fun locs hS => ?_)
  refine W.eq (g2 := F0 m 5 ls [.int (j_X2_isNone a1), .ref y]) rfl ?_
  refine lv_iload_n hx hb dX2_of_5 rfl (lv_at hl 2 rfl) ?_
  refine lv_iconst (v := 0) hx hb dX2_of_6 (by decide) ?_
  refine lv_iconst (v := 4) hx hb dX2_of_7 (by decide) ?_
  refine k_pS [.int a2, .int 0, .int 4] (rest := [.int (j_X2_isNone a1), .ref y]) ⟨hx, hb, hml, hown, hts⟩ (c_X2_isIn l D cB cJ _ a2 0 4) (va_cwS 3 hts gX2_of_X2_isIn rfl rfl rfl (by decide +kernel) ⟨(Nat.le_of_ble_eq_true rfl), (Nat.le_of_ble_eq_true rfl)⟩) hE hS rfl rfl hl.1 (Nat.le_of_ble_eq_true rfl) dX2_of_8 ⟨(Nat.le_of_ble_eq_true rfl), (Nat.le_of_ble_eq_true rfl)⟩ (fun locs hS => ?_)
  refine W.eq (g2 := F0 m 11 ls [.int (j_X2_isIn a2 0 4), .int (j_X2_isNone a1), .ref y]) rfl ?_
  refine lv_if_ne (tgt := 18) hx hb dX2_of_11 (by decide) (fun c_1 => ?_) (fun c_1 => ?_)
  · refine lv_iconst (v := 0) hx hb dX2_of_18 (by decide) ?_
    have hFc := va_free (wc := [(y, .inr (4, [.int th, .ref n2, .int kn2, .int td])), (n2, .inl (cJ, 8, .inr (.inl g)))]) hD hS hA [0, 1] rfl
    refine k_go (va_runV (As := [.int (j_X2_isNone a1), .int 0]) (rest := []) ⟨hx, hb, hml, hown, hts⟩ (cq_X2_isStopped l D cB cJ _ y n2 th g kn2 td hP (hD.weaken (fun _ _ _ _ => trivial)) (j_X2_isNone a1) (0 : Int32)) (cwV 2 hts gX2_of_X2_isStopped rfl rfl rfl (by decide +kernel) ⟨(Nat.le_of_ble_eq_true rfl), (Nat.le_of_ble_eq_true rfl)⟩) (k_preV hE hS hFc (va_recv hK hP (ci := 4) (q0 := 0) rfl rfl)) rfl rfl hl.1 rfl (lv_room (Nat.le_of_ble_eq_true rfl)) dX2_of_19 ⟨(Nat.le_of_ble_eq_true rfl), (Nat.le_of_ble_eq_true rfl)⟩) hS (fun q _ h => hFc q h) hFc (fun v H locs hp hz hk hS => ?_)
    obtain ⟨rfl, hP1, hD1⟩ := hp
    (try dsimp only at hP1 hD1)
    have hP : va_P D vwCl [(y, .inr (4, [.int (j_stT (j_X2_isNone a1) (0 : Int32)), .ref n2, .int kn2, .int td])), (n2, .inl (cJ, 8, .inr (.inl g)))] H := hP1
    have hD : va_D A [(y, .inr (4, [.int (j_stT (j_X2_isNone a1) (0 : Int32)), .ref n2, .int kn2, .int td])), (n2, .inl (cJ, 8, .inr (.inl g)))] := hD1.weaken (fun _ q _ h => hFc q.1 h)
    refine W.eq (g2 := F0 m 22 ls [.int (j_stR (j_X2_isNone a1) (0 : Int32))]) rfl ?_
    refine lv_if_eq (tgt := 29) hx hb dX2_of_22 (by decide) (fun c_2 => ?_) (fun c_2 => ?_)
    · refine lv_aload_n hx hb dX2_of_29 rfl (lv_at hl 0 rfl) ?_
      refine va_get (D := D) (ci := 4) (v := .ref n2) (C := RX2) (T := TX2) (N := 4) hx hb hts iw_X2_of_X2 hown hK hP 0 rfl rfl 1 (by decide) (hts (.fieldLink RX2 9 "ClocksoloModel" "its" "[J") (by decide +kernel)) (fun _ h9 => h9) rfl dX2_of_30 ?_
      refine lv_iload_n hx hb dX2_of_33 rfl (lv_at hl 1 rfl) ?_
      refine va_lald hx hb hK hP 1 1 rfl rfl ((hT.2 c_1).1 c_2).1 dX2_of_34 ?_
      refine lv_iload_n hx hb dX2_of_35 rfl (lv_at hl 2 rfl) ?_
      refine k_pS [.long (g a1.toNatClampNeg), .int a2] (rest := []) ⟨hx, hb, hml, hown, hts⟩ (c_X2_part l D cB cJ _ (g a1.toNatClampNeg) a2) (va_cwS 2 hts gX2_of_X2_part rfl rfl rfl (by decide +kernel) ⟨(Nat.le_of_ble_eq_true rfl), (Nat.le_of_ble_eq_true rfl)⟩) hE hS rfl rfl hl.1 (Nat.le_of_ble_eq_true rfl) dX2_of_36 ⟨(Nat.le_of_ble_eq_true rfl), (Nat.le_of_ble_eq_true rfl)⟩ (fun locs hS => ?_)
      refine W.eq (g2 := F0 m 39 ls [.int (j_X2_part (g a1.toNatClampNeg) a2)]) rfl ?_
      exact k_iret hx hb hr hlocks hS dX2_of_39 ⟨by rw [hJ, if_neg c_1, if_pos c_2], by rw [hJ, if_neg c_1, if_pos c_2]; (try dsimp only); exact hP, by rw [hJ, if_neg c_1, if_pos c_2]; (try dsimp only); exact hD⟩
    · refine lv_iconst (v := 0) hx hb dX2_of_25 (by decide) ?_
      refine lv_goto (tgt := 39) hx hb dX2_of_26 (by decide) ?_
      exact k_iret hx hb hr hlocks hS dX2_of_39 ⟨by rw [hJ, if_neg c_1, if_neg c_2], by rw [hJ, if_neg c_1, if_neg c_2]; (try dsimp only); exact hP, by rw [hJ, if_neg c_1, if_neg c_2]; (try dsimp only); exact hD⟩
  · refine lv_iconst (v := 1) hx hb dX2_of_14 (by decide) ?_
    refine lv_goto (tgt := 19) hx hb dX2_of_15 (by decide) ?_
    have hFc := va_free (wc := [(y, .inr (4, [.int th, .ref n2, .int kn2, .int td])), (n2, .inl (cJ, 8, .inr (.inl g)))]) hD hS hA [0, 1] rfl
    refine k_go (va_runV (As := [.int (j_X2_isNone a1), .int 1]) (rest := []) ⟨hx, hb, hml, hown, hts⟩ (cq_X2_isStopped l D cB cJ _ y n2 th g kn2 td hP (hD.weaken (fun _ _ _ _ => trivial)) (j_X2_isNone a1) (1 : Int32)) (cwV 2 hts gX2_of_X2_isStopped rfl rfl rfl (by decide +kernel) ⟨(Nat.le_of_ble_eq_true rfl), (Nat.le_of_ble_eq_true rfl)⟩) (k_preV hE hS hFc (va_recv hK hP (ci := 4) (q0 := 0) rfl rfl)) rfl rfl hl.1 rfl (lv_room (Nat.le_of_ble_eq_true rfl)) dX2_of_19 ⟨(Nat.le_of_ble_eq_true rfl), (Nat.le_of_ble_eq_true rfl)⟩) hS (fun q _ h => hFc q h) hFc (fun v H locs hp hz hk hS => ?_)
    obtain ⟨rfl, hP1, hD1⟩ := hp
    (try dsimp only at hP1 hD1)
    have hP : va_P D vwCl [(y, .inr (4, [.int (j_stT (j_X2_isNone a1) (1 : Int32)), .ref n2, .int kn2, .int td])), (n2, .inl (cJ, 8, .inr (.inl g)))] H := hP1
    have hD : va_D A [(y, .inr (4, [.int (j_stT (j_X2_isNone a1) (1 : Int32)), .ref n2, .int kn2, .int td])), (n2, .inl (cJ, 8, .inr (.inl g)))] := hD1.weaken (fun _ q _ h => hFc q.1 h)
    refine W.eq (g2 := F0 m 22 ls [.int (j_stR (j_X2_isNone a1) (1 : Int32))]) rfl ?_
    refine lv_if_eq (tgt := 29) hx hb dX2_of_22 (by decide) (fun c_3 => ?_) (fun c_3 => ?_)
    · refine lv_aload_n hx hb dX2_of_29 rfl (lv_at hl 0 rfl) ?_
      refine va_get (D := D) (ci := 4) (v := .ref n2) (C := RX2) (T := TX2) (N := 4) hx hb hts iw_X2_of_X2 hown hK hP 0 rfl rfl 1 (by decide) (hts (.fieldLink RX2 9 "ClocksoloModel" "its" "[J") (by decide +kernel)) (fun _ h9 => h9) rfl dX2_of_30 ?_
      refine lv_iload_n hx hb dX2_of_33 rfl (lv_at hl 1 rfl) ?_
      refine va_lald hx hb hK hP 1 1 rfl rfl ((hT.1 c_1).1 c_3).1 dX2_of_34 ?_
      refine lv_iload_n hx hb dX2_of_35 rfl (lv_at hl 2 rfl) ?_
      refine k_pS [.long (g a1.toNatClampNeg), .int a2] (rest := []) ⟨hx, hb, hml, hown, hts⟩ (c_X2_part l D cB cJ _ (g a1.toNatClampNeg) a2) (va_cwS 2 hts gX2_of_X2_part rfl rfl rfl (by decide +kernel) ⟨(Nat.le_of_ble_eq_true rfl), (Nat.le_of_ble_eq_true rfl)⟩) hE hS rfl rfl hl.1 (Nat.le_of_ble_eq_true rfl) dX2_of_36 ⟨(Nat.le_of_ble_eq_true rfl), (Nat.le_of_ble_eq_true rfl)⟩ (fun locs hS => ?_)
      refine W.eq (g2 := F0 m 39 ls [.int (j_X2_part (g a1.toNatClampNeg) a2)]) rfl ?_
      exact k_iret hx hb hr hlocks hS dX2_of_39 ⟨by rw [hJ, if_pos c_1, if_pos c_3], by rw [hJ, if_pos c_1, if_pos c_3]; (try dsimp only); exact hP, by rw [hJ, if_pos c_1, if_pos c_3]; (try dsimp only); exact hD⟩
    · refine lv_iconst (v := 0) hx hb dX2_of_25 (by decide) ?_
      refine lv_goto (tgt := 39) hx hb dX2_of_26 (by decide) ?_
      exact k_iret hx hb hr hlocks hS dX2_of_39 ⟨by rw [hJ, if_pos c_1, if_neg c_3], by rw [hJ, if_pos c_1, if_neg c_3]; (try dsimp only); exact hP, by rw [hJ, if_pos c_1, if_neg c_3]; (try dsimp only); exact hD⟩
abbrev rm_X2_compare : Room := { frames := 2, cells := 0, slots := 0, locals := 42 }
theorem iw_X2_compare_X2 : ∀ w ∈ wsX20, w ∈ wsX2_compare := by decide +kernel
def j_X2_compare (th : Int32) (g : Nat → Int64) (kn2 td : Int32) (a1 : Int32) (a2 : Int32) : Int32 × Int32 × (Nat → Int64) × Int32 × Int32 := (if (j_X2_isNone a1) = 0 then (if (j_X2_isNone a2) = 0 then (if (j_stR (0 : Int32) (0 : Int32)) = 0 then ((j_X2_order (g a1.toNatClampNeg) (g a2.toNatClampNeg)), (j_stT (0 : Int32) (0 : Int32)), g, kn2, td) else (0, (j_stT (0 : Int32) (0 : Int32)), g, kn2, td)) else (if (j_stR (1 : Int32) (0 : Int32)) = 0 then ((j_X2_order (g a1.toNatClampNeg) (g a2.toNatClampNeg)), (j_stT (1 : Int32) (0 : Int32)), g, kn2, td) else (0, (j_stT (1 : Int32) (0 : Int32)), g, kn2, td))) else (if (j_stR (1 : Int32) (0 : Int32)) = 0 then ((j_X2_order (g a1.toNatClampNeg) (g a2.toNatClampNeg)), (j_stT (1 : Int32) (0 : Int32)), g, kn2, td) else (0, (j_stT (1 : Int32) (0 : Int32)), g, kn2, td)))
def T_X2_compare (th : Int32) (g : Nat → Int64) (kn2 td : Int32) (a1 : Int32) (a2 : Int32) : Prop := (((j_X2_isNone a1) = 0 → (((j_X2_isNone a2) = 0 → (((j_stR (0 : Int32) (0 : Int32)) = 0 → (vp_in a1 8 ∧ (vp_in a2 8 ∧ True))) ∧ (¬ ((j_stR (0 : Int32) (0 : Int32)) = 0) → True))) ∧ (¬ ((j_X2_isNone a2) = 0) → (((j_stR (1 : Int32) (0 : Int32)) = 0 → (vp_in a1 8 ∧ (vp_in a2 8 ∧ True))) ∧ (¬ ((j_stR (1 : Int32) (0 : Int32)) = 0) → True))))) ∧ (¬ ((j_X2_isNone a1) = 0) → (((j_stR (1 : Int32) (0 : Int32)) = 0 → (vp_in a1 8 ∧ (vp_in a2 8 ∧ True))) ∧ (¬ ((j_stR (1 : Int32) (0 : Int32)) = 0) → True))))
set_option maxHeartbeats 4000000 in
set_option maxRecDepth 100000 in
theorem c_X2_compare (l : Launch) (D : va_G) (cB cJ : ClassId) (Hp : Heap) (y n2 : Nat) (th : Int32) (g : Nat → Int64) (kn2 td : Int32) (hP : va_P D vwCl (wMo y n2 cJ th g kn2 td) Hp) (hD9 : va_D (fun _ => True) (wMo y n2 cJ th g kn2 td)) (a1 : Int32) (a2 : Int32) (hT9 : T_X2_compare th g kn2 td a1 a2) : kM l D cB cJ yX2_compare wsX2_compare rm_X2_compare (va_A (wMo y n2 cJ th g kn2 td) Hp.size) Hp [.ref y, .int a1, .int a2] (kPm D y n2 cJ (va_A (wMo y n2 cJ th g kn2 td) Hp.size) (j_X2_compare th g kn2 td a1 a2)) 0 0 := by
  refine Met.ofW (cc := cX2_compare) (maxL := 3) (ret := (some .int)) (by decide) rfl ?_
  intro p e s m args below meth c s₁ B hml hv
  obtain ⟨rfl, hHp, hE⟩ := hv
  subst hHp
  have hx := B.exec
  have hb := B.bytes
  have hr := B.returns
  have hts := atoms_spec (ws := wsX2_compare) B.pre
  have hown : s.vm.findClass RX2 = some m.cls := findClass_of_methodNamed B.named
  have hlocks := B.notSynchronized
  have hK := hE.1
  have hD := hD9.self (sz := s.heap.size)
  generalize hAe : va_A (wMo y n2 cJ th g kn2 td) s.heap.size = A at hE hD ⊢
  have hA : ∀ q : Nat, s.heap.size ≤ q → A q := fun q h => by rw [← hAe]; exact Or.inr h
  have hS : va_S A s.heap s.heap [] := va_S.rf
  have hl := lv_entry ([.ref y, .int a1, .int a2]) (n := 3) (Nat.le_of_ble_eq_true rfl)
  rw [lg_entry_eq]
  generalize (lg_sl ([.ref y, .int a1, .int a2]) ++ List.replicate (3 - (lg_sl ([.ref y, .int a1, .int a2])).length) Slot.unset).toArray = ls at hl ⊢
  have hl : lv_has ls 3 [(0, .ref y), (1, .int a1), (2, .int a2)] := hl
  have hJ : (j_X2_compare th g kn2 td a1 a2) = (if (j_X2_isNone a1) = 0 then (if (j_X2_isNone a2) = 0 then (if (j_stR (0 : Int32) (0 : Int32)) = 0 then ((j_X2_order (g a1.toNatClampNeg) (g a2.toNatClampNeg)), (j_stT (0 : Int32) (0 : Int32)), g, kn2, td) else (0, (j_stT (0 : Int32) (0 : Int32)), g, kn2, td)) else (if (j_stR (1 : Int32) (0 : Int32)) = 0 then ((j_X2_order (g a1.toNatClampNeg) (g a2.toNatClampNeg)), (j_stT (1 : Int32) (0 : Int32)), g, kn2, td) else (0, (j_stT (1 : Int32) (0 : Int32)), g, kn2, td))) else (if (j_stR (1 : Int32) (0 : Int32)) = 0 then ((j_X2_order (g a1.toNatClampNeg) (g a2.toNatClampNeg)), (j_stT (1 : Int32) (0 : Int32)), g, kn2, td) else (0, (j_stT (1 : Int32) (0 : Int32)), g, kn2, td))) := rfl
  have hT : (((j_X2_isNone a1) = 0 → (((j_X2_isNone a2) = 0 → (((j_stR (0 : Int32) (0 : Int32)) = 0 → (vp_in a1 8 ∧ (vp_in a2 8 ∧ True))) ∧ (¬ ((j_stR (0 : Int32) (0 : Int32)) = 0) → True))) ∧ (¬ ((j_X2_isNone a2) = 0) → (((j_stR (1 : Int32) (0 : Int32)) = 0 → (vp_in a1 8 ∧ (vp_in a2 8 ∧ True))) ∧ (¬ ((j_stR (1 : Int32) (0 : Int32)) = 0) → True))))) ∧ (¬ ((j_X2_isNone a1) = 0) → (((j_stR (1 : Int32) (0 : Int32)) = 0 → (vp_in a1 8 ∧ (vp_in a2 8 ∧ True))) ∧ (¬ ((j_stR (1 : Int32) (0 : Int32)) = 0) → True)))) := hT9
  refine lv_aload_n hx hb dX2_compare_0 rfl (lv_at hl 0 rfl) ?_
  refine lv_iload_n hx hb dX2_compare_1 rfl (lv_at hl 1 rfl) ?_
  refine k_pS [.int a1] (rest := [.ref y]) ⟨hx, hb, hml, hown, hts⟩ (c_X2_isNone l D cB cJ _ a1) (va_cwS 1 hts gX2_compare_X2_isNone rfl rfl rfl (by decide +kernel) ⟨(Nat.le_of_ble_eq_true rfl), (Nat.le_of_ble_eq_true rfl)⟩) hE hS rfl rfl hl.1 (Nat.le_of_ble_eq_true rfl) dX2_compare_2 ⟨(Nat.le_of_ble_eq_true rfl), (Nat.le_of_ble_eq_true rfl)⟩ (fun locs hS => ?_)
  refine W.eq (g2 := F0 m 5 ls [.int (j_X2_isNone a1), .ref y]) rfl ?_
  refine lv_if_ne (tgt := 15) hx hb dX2_compare_5 (by decide) (fun c_1 => ?_) (fun c_1 => ?_)
  · refine lv_iconst (v := 1) hx hb dX2_compare_15 (by decide) ?_
    refine lv_goto (tgt := 20) hx hb dX2_compare_16 (by decide) ?_
    refine lv_iconst (v := 0) hx hb dX2_compare_20 (by decide) ?_
    have hFc := va_free (wc := [(y, .inr (4, [.int th, .ref n2, .int kn2, .int td])), (n2, .inl (cJ, 8, .inr (.inl g)))]) hD hS hA [0, 1] rfl
    refine k_go (va_runV (As := [.int 1, .int 0]) (rest := []) ⟨hx, hb, hml, hown, hts⟩ (cq_X2_isStopped l D cB cJ _ y n2 th g kn2 td hP (hD.weaken (fun _ _ _ _ => trivial)) (1 : Int32) (0 : Int32)) (cwV 2 hts gX2_compare_X2_isStopped rfl rfl rfl (by decide +kernel) ⟨(Nat.le_of_ble_eq_true rfl), (Nat.le_of_ble_eq_true rfl)⟩) (k_preV hE hS hFc (va_recv hK hP (ci := 4) (q0 := 0) rfl rfl)) rfl rfl hl.1 rfl (lv_room (Nat.le_of_ble_eq_true rfl)) dX2_compare_21 ⟨(Nat.le_of_ble_eq_true rfl), (Nat.le_of_ble_eq_true rfl)⟩) hS (fun q _ h => hFc q h) hFc (fun v H locs hp hz hk hS => ?_)
    obtain ⟨rfl, hP1, hD1⟩ := hp
    (try dsimp only at hP1 hD1)
    have hP : va_P D vwCl [(y, .inr (4, [.int (j_stT (1 : Int32) (0 : Int32)), .ref n2, .int kn2, .int td])), (n2, .inl (cJ, 8, .inr (.inl g)))] H := hP1
    have hD : va_D A [(y, .inr (4, [.int (j_stT (1 : Int32) (0 : Int32)), .ref n2, .int kn2, .int td])), (n2, .inl (cJ, 8, .inr (.inl g)))] := hD1.weaken (fun _ q _ h => hFc q.1 h)
    refine W.eq (g2 := F0 m 24 ls [.int (j_stR (1 : Int32) (0 : Int32))]) rfl ?_
    refine lv_if_eq (tgt := 31) hx hb dX2_compare_24 (by decide) (fun c_2 => ?_) (fun c_2 => ?_)
    · refine lv_aload_n hx hb dX2_compare_31 rfl (lv_at hl 0 rfl) ?_
      refine va_get (D := D) (ci := 4) (v := .ref n2) (C := RX2) (T := TX2) (N := 4) hx hb hts iw_X2_compare_X2 hown hK hP 0 rfl rfl 1 (by decide) (hts (.fieldLink RX2 9 "ClocksoloModel" "its" "[J") (by decide +kernel)) (fun _ h9 => h9) rfl dX2_compare_32 ?_
      refine lv_iload_n hx hb dX2_compare_35 rfl (lv_at hl 1 rfl) ?_
      refine va_lald hx hb hK hP 1 1 rfl rfl ((hT.2 c_1).1 c_2).1 dX2_compare_36 ?_
      refine lv_aload_n hx hb dX2_compare_37 rfl (lv_at hl 0 rfl) ?_
      refine va_get (D := D) (ci := 4) (v := .ref n2) (C := RX2) (T := TX2) (N := 4) hx hb hts iw_X2_compare_X2 hown hK hP 0 rfl rfl 1 (by decide) (hts (.fieldLink RX2 9 "ClocksoloModel" "its" "[J") (by decide +kernel)) (fun _ h9 => h9) rfl dX2_compare_38 ?_
      refine lv_iload_n hx hb dX2_compare_41 rfl (lv_at hl 2 rfl) ?_
      refine va_lald hx hb hK hP 1 1 rfl rfl ((hT.2 c_1).1 c_2).2.1 dX2_compare_42 ?_
      refine k_pS [.long (g a1.toNatClampNeg), .long (g a2.toNatClampNeg)] (rest := []) ⟨hx, hb, hml, hown, hts⟩ (c_X2_order l D cB cJ _ (g a1.toNatClampNeg) (g a2.toNatClampNeg)) (va_cwS 2 hts gX2_compare_X2_order rfl rfl rfl (by decide +kernel) ⟨(Nat.le_of_ble_eq_true rfl), (Nat.le_of_ble_eq_true rfl)⟩) hE hS rfl rfl hl.1 (Nat.le_of_ble_eq_true rfl) dX2_compare_43 ⟨(Nat.le_of_ble_eq_true rfl), (Nat.le_of_ble_eq_true rfl)⟩ (fun locs hS => ?_)
      refine W.eq (g2 := F0 m 46 ls [.int (j_X2_order (g a1.toNatClampNeg) (g a2.toNatClampNeg))]) rfl ?_
      exact k_iret hx hb hr hlocks hS dX2_compare_46 ⟨by rw [hJ, if_neg c_1, if_pos c_2], by rw [hJ, if_neg c_1, if_pos c_2]; (try dsimp only); exact hP, by rw [hJ, if_neg c_1, if_pos c_2]; (try dsimp only); exact hD⟩
    · refine lv_iconst (v := 0) hx hb dX2_compare_27 (by decide) ?_
      refine lv_goto (tgt := 46) hx hb dX2_compare_28 (by decide) ?_
      exact k_iret hx hb hr hlocks hS dX2_compare_46 ⟨by rw [hJ, if_neg c_1, if_neg c_2], by rw [hJ, if_neg c_1, if_neg c_2]; (try dsimp only); exact hP, by rw [hJ, if_neg c_1, if_neg c_2]; (try dsimp only); exact hD⟩
  · refine lv_iload_n hx hb dX2_compare_8 rfl (lv_at hl 2 rfl) ?_
    refine k_pS [.int a2] (rest := [.ref y]) ⟨hx, hb, hml, hown, hts⟩ (c_X2_isNone l D cB cJ _ a2) (va_cwS 1 hts gX2_compare_X2_isNone rfl rfl rfl (by decide +kernel) ⟨(Nat.le_of_ble_eq_true rfl), (Nat.le_of_ble_eq_true rfl)⟩) hE hS rfl rfl hl.1 (Nat.le_of_ble_eq_true rfl) dX2_compare_9 ⟨(Nat.le_of_ble_eq_true rfl), (Nat.le_of_ble_eq_true rfl)⟩ (fun locs hS => ?_)
    refine W.eq (g2 := F0 m 12 ls [.int (j_X2_isNone a2), .ref y]) rfl ?_
    refine lv_if_eq (tgt := 19) hx hb dX2_compare_12 (by decide) (fun c_3 => ?_) (fun c_3 => ?_)
    · refine lv_iconst (v := 0) hx hb dX2_compare_19 (by decide) ?_
      refine lv_iconst (v := 0) hx hb dX2_compare_20 (by decide) ?_
      have hFc := va_free (wc := [(y, .inr (4, [.int th, .ref n2, .int kn2, .int td])), (n2, .inl (cJ, 8, .inr (.inl g)))]) hD hS hA [0, 1] rfl
      refine k_go (va_runV (As := [.int 0, .int 0]) (rest := []) ⟨hx, hb, hml, hown, hts⟩ (cq_X2_isStopped l D cB cJ _ y n2 th g kn2 td hP (hD.weaken (fun _ _ _ _ => trivial)) (0 : Int32) (0 : Int32)) (cwV 2 hts gX2_compare_X2_isStopped rfl rfl rfl (by decide +kernel) ⟨(Nat.le_of_ble_eq_true rfl), (Nat.le_of_ble_eq_true rfl)⟩) (k_preV hE hS hFc (va_recv hK hP (ci := 4) (q0 := 0) rfl rfl)) rfl rfl hl.1 rfl (lv_room (Nat.le_of_ble_eq_true rfl)) dX2_compare_21 ⟨(Nat.le_of_ble_eq_true rfl), (Nat.le_of_ble_eq_true rfl)⟩) hS (fun q _ h => hFc q h) hFc (fun v H locs hp hz hk hS => ?_)
      obtain ⟨rfl, hP1, hD1⟩ := hp
      (try dsimp only at hP1 hD1)
      have hP : va_P D vwCl [(y, .inr (4, [.int (j_stT (0 : Int32) (0 : Int32)), .ref n2, .int kn2, .int td])), (n2, .inl (cJ, 8, .inr (.inl g)))] H := hP1
      have hD : va_D A [(y, .inr (4, [.int (j_stT (0 : Int32) (0 : Int32)), .ref n2, .int kn2, .int td])), (n2, .inl (cJ, 8, .inr (.inl g)))] := hD1.weaken (fun _ q _ h => hFc q.1 h)
      refine W.eq (g2 := F0 m 24 ls [.int (j_stR (0 : Int32) (0 : Int32))]) rfl ?_
      refine lv_if_eq (tgt := 31) hx hb dX2_compare_24 (by decide) (fun c_4 => ?_) (fun c_4 => ?_)
      · refine lv_aload_n hx hb dX2_compare_31 rfl (lv_at hl 0 rfl) ?_
        refine va_get (D := D) (ci := 4) (v := .ref n2) (C := RX2) (T := TX2) (N := 4) hx hb hts iw_X2_compare_X2 hown hK hP 0 rfl rfl 1 (by decide) (hts (.fieldLink RX2 9 "ClocksoloModel" "its" "[J") (by decide +kernel)) (fun _ h9 => h9) rfl dX2_compare_32 ?_
        refine lv_iload_n hx hb dX2_compare_35 rfl (lv_at hl 1 rfl) ?_
        refine va_lald hx hb hK hP 1 1 rfl rfl (((hT.1 c_1).1 c_3).1 c_4).1 dX2_compare_36 ?_
        refine lv_aload_n hx hb dX2_compare_37 rfl (lv_at hl 0 rfl) ?_
        refine va_get (D := D) (ci := 4) (v := .ref n2) (C := RX2) (T := TX2) (N := 4) hx hb hts iw_X2_compare_X2 hown hK hP 0 rfl rfl 1 (by decide) (hts (.fieldLink RX2 9 "ClocksoloModel" "its" "[J") (by decide +kernel)) (fun _ h9 => h9) rfl dX2_compare_38 ?_
        refine lv_iload_n hx hb dX2_compare_41 rfl (lv_at hl 2 rfl) ?_
        refine va_lald hx hb hK hP 1 1 rfl rfl (((hT.1 c_1).1 c_3).1 c_4).2.1 dX2_compare_42 ?_
        refine k_pS [.long (g a1.toNatClampNeg), .long (g a2.toNatClampNeg)] (rest := []) ⟨hx, hb, hml, hown, hts⟩ (c_X2_order l D cB cJ _ (g a1.toNatClampNeg) (g a2.toNatClampNeg)) (va_cwS 2 hts gX2_compare_X2_order rfl rfl rfl (by decide +kernel) ⟨(Nat.le_of_ble_eq_true rfl), (Nat.le_of_ble_eq_true rfl)⟩) hE hS rfl rfl hl.1 (Nat.le_of_ble_eq_true rfl) dX2_compare_43 ⟨(Nat.le_of_ble_eq_true rfl), (Nat.le_of_ble_eq_true rfl)⟩ (fun locs hS => ?_)
        refine W.eq (g2 := F0 m 46 ls [.int (j_X2_order (g a1.toNatClampNeg) (g a2.toNatClampNeg))]) rfl ?_
        exact k_iret hx hb hr hlocks hS dX2_compare_46 ⟨by rw [hJ, if_pos c_1, if_pos c_3, if_pos c_4], by rw [hJ, if_pos c_1, if_pos c_3, if_pos c_4]; (try dsimp only); exact hP, by rw [hJ, if_pos c_1, if_pos c_3, if_pos c_4]; (try dsimp only); exact hD⟩
      · refine lv_iconst (v := 0) hx hb dX2_compare_27 (by decide) ?_
        refine lv_goto (tgt := 46) hx hb dX2_compare_28 (by decide) ?_
        exact k_iret hx hb hr hlocks hS dX2_compare_46 ⟨by rw [hJ, if_pos c_1, if_pos c_3, if_neg c_4], by rw [hJ, if_pos c_1, if_pos c_3, if_neg c_4]; (try dsimp only); exact hP, by rw [hJ, if_pos c_1, if_pos c_3, if_neg c_4]; (try dsimp only); exact hD⟩
    · refine lv_iconst (v := 1) hx hb dX2_compare_15 (by decide) ?_
      refine lv_goto (tgt := 20) hx hb dX2_compare_16 (by decide) ?_
      refine lv_iconst (v := 0) hx hb dX2_compare_20 (by decide) ?_
      have hFc := va_free (wc := [(y, .inr (4, [.int th, .ref n2, .int kn2, .int td])), (n2, .inl (cJ, 8, .inr (.inl g)))]) hD hS hA [0, 1] rfl
      refine k_go (va_runV (As := [.int 1, .int 0]) (rest := []) ⟨hx, hb, hml, hown, hts⟩ (cq_X2_isStopped l D cB cJ _ y n2 th g kn2 td hP (hD.weaken (fun _ _ _ _ => trivial)) (1 : Int32) (0 : Int32)) (cwV 2 hts gX2_compare_X2_isStopped rfl rfl rfl (by decide +kernel) ⟨(Nat.le_of_ble_eq_true rfl), (Nat.le_of_ble_eq_true rfl)⟩) (k_preV hE hS hFc (va_recv hK hP (ci := 4) (q0 := 0) rfl rfl)) rfl rfl hl.1 rfl (lv_room (Nat.le_of_ble_eq_true rfl)) dX2_compare_21 ⟨(Nat.le_of_ble_eq_true rfl), (Nat.le_of_ble_eq_true rfl)⟩) hS (fun q _ h => hFc q h) hFc (fun v H locs hp hz hk hS => ?_)
      obtain ⟨rfl, hP1, hD1⟩ := hp
      (try dsimp only at hP1 hD1)
      have hP : va_P D vwCl [(y, .inr (4, [.int (j_stT (1 : Int32) (0 : Int32)), .ref n2, .int kn2, .int td])), (n2, .inl (cJ, 8, .inr (.inl g)))] H := hP1
      have hD : va_D A [(y, .inr (4, [.int (j_stT (1 : Int32) (0 : Int32)), .ref n2, .int kn2, .int td])), (n2, .inl (cJ, 8, .inr (.inl g)))] := hD1.weaken (fun _ q _ h => hFc q.1 h)
      refine W.eq (g2 := F0 m 24 ls [.int (j_stR (1 : Int32) (0 : Int32))]) rfl ?_
      refine lv_if_eq (tgt := 31) hx hb dX2_compare_24 (by decide) (fun c_5 => ?_) (fun c_5 => ?_)
      · refine lv_aload_n hx hb dX2_compare_31 rfl (lv_at hl 0 rfl) ?_
        refine va_get (D := D) (ci := 4) (v := .ref n2) (C := RX2) (T := TX2) (N := 4) hx hb hts iw_X2_compare_X2 hown hK hP 0 rfl rfl 1 (by decide) (hts (.fieldLink RX2 9 "ClocksoloModel" "its" "[J") (by decide +kernel)) (fun _ h9 => h9) rfl dX2_compare_32 ?_
        refine lv_iload_n hx hb dX2_compare_35 rfl (lv_at hl 1 rfl) ?_
        refine va_lald hx hb hK hP 1 1 rfl rfl (((hT.1 c_1).2 c_3).1 c_5).1 dX2_compare_36 ?_
        refine lv_aload_n hx hb dX2_compare_37 rfl (lv_at hl 0 rfl) ?_
        refine va_get (D := D) (ci := 4) (v := .ref n2) (C := RX2) (T := TX2) (N := 4) hx hb hts iw_X2_compare_X2 hown hK hP 0 rfl rfl 1 (by decide) (hts (.fieldLink RX2 9 "ClocksoloModel" "its" "[J") (by decide +kernel)) (fun _ h9 => h9) rfl dX2_compare_38 ?_
        refine lv_iload_n hx hb dX2_compare_41 rfl (lv_at hl 2 rfl) ?_
        refine va_lald hx hb hK hP 1 1 rfl rfl (((hT.1 c_1).2 c_3).1 c_5).2.1 dX2_compare_42 ?_
        refine k_pS [.long (g a1.toNatClampNeg), .long (g a2.toNatClampNeg)] (rest := []) ⟨hx, hb, hml, hown, hts⟩ (c_X2_order l D cB cJ _ (g a1.toNatClampNeg) (g a2.toNatClampNeg)) (va_cwS 2 hts gX2_compare_X2_order rfl rfl rfl (by decide +kernel) ⟨(Nat.le_of_ble_eq_true rfl), (Nat.le_of_ble_eq_true rfl)⟩) hE hS rfl rfl hl.1 (Nat.le_of_ble_eq_true rfl) dX2_compare_43 ⟨(Nat.le_of_ble_eq_true rfl), (Nat.le_of_ble_eq_true rfl)⟩ (fun locs hS => ?_)
        refine W.eq (g2 := F0 m 46 ls [.int (j_X2_order (g a1.toNatClampNeg) (g a2.toNatClampNeg))]) rfl ?_
        exact k_iret hx hb hr hlocks hS dX2_compare_46 ⟨by rw [hJ, if_pos c_1, if_neg c_3, if_pos c_5], by rw [hJ, if_pos c_1, if_neg c_3, if_pos c_5]; (try dsimp only); exact hP, by rw [hJ, if_pos c_1, if_neg c_3, if_pos c_5]; (try dsimp only); exact hD⟩
      · refine lv_iconst (v := 0) hx hb dX2_compare_27 (by decide) ?_
        refine lv_goto (tgt := 46) hx hb dX2_compare_28 (by decide) ?_
        exact k_iret hx hb hr hlocks hS dX2_compare_46 ⟨by rw [hJ, if_pos c_1, if_neg c_3, if_neg c_5], by rw [hJ, if_pos c_1, if_neg c_3, if_neg c_5]; (try dsimp only); exact hP, by rw [hJ, if_pos c_1, if_neg c_3, if_neg c_5]; (try dsimp only); exact hD⟩
abbrev rm_X2_isAhead : Room := { frames := 2, cells := 0, slots := 0, locals := 42 }
theorem iw_X2_isAhead_X2 : ∀ w ∈ wsX20, w ∈ wsX2_isAhead := by decide +kernel
def j_X2_isAhead (th : Int32) (g : Nat → Int64) (kn2 td : Int32) (a1 : Int32) (a2 : Int32) : Int32 × Int32 × (Nat → Int64) × Int32 × Int32 := (if (j_X2_isNone a1) = 0 then (if (j_X2_isNone a2) = 0 then (if (j_stR (0 : Int32) (0 : Int32)) = 0 then (if (g a2.toNatClampNeg) ≤ (g a1.toNatClampNeg) then (0, (j_stT (0 : Int32) (0 : Int32)), g, kn2, td) else (1, (j_stT (0 : Int32) (0 : Int32)), g, kn2, td)) else (0, (j_stT (0 : Int32) (0 : Int32)), g, kn2, td)) else (if (j_stR (1 : Int32) (0 : Int32)) = 0 then (if (g a2.toNatClampNeg) ≤ (g a1.toNatClampNeg) then (0, (j_stT (1 : Int32) (0 : Int32)), g, kn2, td) else (1, (j_stT (1 : Int32) (0 : Int32)), g, kn2, td)) else (0, (j_stT (1 : Int32) (0 : Int32)), g, kn2, td))) else (if (j_stR (1 : Int32) (0 : Int32)) = 0 then (if (g a2.toNatClampNeg) ≤ (g a1.toNatClampNeg) then (0, (j_stT (1 : Int32) (0 : Int32)), g, kn2, td) else (1, (j_stT (1 : Int32) (0 : Int32)), g, kn2, td)) else (0, (j_stT (1 : Int32) (0 : Int32)), g, kn2, td)))
def T_X2_isAhead (th : Int32) (g : Nat → Int64) (kn2 td : Int32) (a1 : Int32) (a2 : Int32) : Prop := (((j_X2_isNone a1) = 0 → (((j_X2_isNone a2) = 0 → (((j_stR (0 : Int32) (0 : Int32)) = 0 → (vp_in a1 8 ∧ (vp_in a2 8 ∧ (((g a2.toNatClampNeg) ≤ (g a1.toNatClampNeg) → True) ∧ (¬ ((g a2.toNatClampNeg) ≤ (g a1.toNatClampNeg)) → True))))) ∧ (¬ ((j_stR (0 : Int32) (0 : Int32)) = 0) → True))) ∧ (¬ ((j_X2_isNone a2) = 0) → (((j_stR (1 : Int32) (0 : Int32)) = 0 → (vp_in a1 8 ∧ (vp_in a2 8 ∧ (((g a2.toNatClampNeg) ≤ (g a1.toNatClampNeg) → True) ∧ (¬ ((g a2.toNatClampNeg) ≤ (g a1.toNatClampNeg)) → True))))) ∧ (¬ ((j_stR (1 : Int32) (0 : Int32)) = 0) → True))))) ∧ (¬ ((j_X2_isNone a1) = 0) → (((j_stR (1 : Int32) (0 : Int32)) = 0 → (vp_in a1 8 ∧ (vp_in a2 8 ∧ (((g a2.toNatClampNeg) ≤ (g a1.toNatClampNeg) → True) ∧ (¬ ((g a2.toNatClampNeg) ≤ (g a1.toNatClampNeg)) → True))))) ∧ (¬ ((j_stR (1 : Int32) (0 : Int32)) = 0) → True))))
set_option maxHeartbeats 4000000 in
set_option maxRecDepth 100000 in
theorem c_X2_isAhead (l : Launch) (D : va_G) (cB cJ : ClassId) (Hp : Heap) (y n2 : Nat) (th : Int32) (g : Nat → Int64) (kn2 td : Int32) (hP : va_P D vwCl (wMo y n2 cJ th g kn2 td) Hp) (hD9 : va_D (fun _ => True) (wMo y n2 cJ th g kn2 td)) (a1 : Int32) (a2 : Int32) (hT9 : T_X2_isAhead th g kn2 td a1 a2) : kM l D cB cJ yX2_isAhead wsX2_isAhead rm_X2_isAhead (va_A (wMo y n2 cJ th g kn2 td) Hp.size) Hp [.ref y, .int a1, .int a2] (kPm D y n2 cJ (va_A (wMo y n2 cJ th g kn2 td) Hp.size) (j_X2_isAhead th g kn2 td a1 a2)) 0 0 := by
  refine Met.ofW (cc := cX2_isAhead) (maxL := 3) (ret := (some .boolean)) (by decide) rfl ?_
  intro p e s m args below meth c s₁ B hml hv
  obtain ⟨rfl, hHp, hE⟩ := hv
  subst hHp
  have hx := B.exec
  have hb := B.bytes
  have hr := B.returns
  have hts := atoms_spec (ws := wsX2_isAhead) B.pre
  have hown : s.vm.findClass RX2 = some m.cls := findClass_of_methodNamed B.named
  have hlocks := B.notSynchronized
  have hK := hE.1
  have hD := hD9.self (sz := s.heap.size)
  generalize hAe : va_A (wMo y n2 cJ th g kn2 td) s.heap.size = A at hE hD ⊢
  have hA : ∀ q : Nat, s.heap.size ≤ q → A q := fun q h => by rw [← hAe]; exact Or.inr h
  have hS : va_S A s.heap s.heap [] := va_S.rf
  have hl := lv_entry ([.ref y, .int a1, .int a2]) (n := 3) (Nat.le_of_ble_eq_true rfl)
  rw [lg_entry_eq]
  generalize (lg_sl ([.ref y, .int a1, .int a2]) ++ List.replicate (3 - (lg_sl ([.ref y, .int a1, .int a2])).length) Slot.unset).toArray = ls at hl ⊢
  have hl : lv_has ls 3 [(0, .ref y), (1, .int a1), (2, .int a2)] := hl
  have hJ : (j_X2_isAhead th g kn2 td a1 a2) = (if (j_X2_isNone a1) = 0 then (if (j_X2_isNone a2) = 0 then (if (j_stR (0 : Int32) (0 : Int32)) = 0 then (if (g a2.toNatClampNeg) ≤ (g a1.toNatClampNeg) then (0, (j_stT (0 : Int32) (0 : Int32)), g, kn2, td) else (1, (j_stT (0 : Int32) (0 : Int32)), g, kn2, td)) else (0, (j_stT (0 : Int32) (0 : Int32)), g, kn2, td)) else (if (j_stR (1 : Int32) (0 : Int32)) = 0 then (if (g a2.toNatClampNeg) ≤ (g a1.toNatClampNeg) then (0, (j_stT (1 : Int32) (0 : Int32)), g, kn2, td) else (1, (j_stT (1 : Int32) (0 : Int32)), g, kn2, td)) else (0, (j_stT (1 : Int32) (0 : Int32)), g, kn2, td))) else (if (j_stR (1 : Int32) (0 : Int32)) = 0 then (if (g a2.toNatClampNeg) ≤ (g a1.toNatClampNeg) then (0, (j_stT (1 : Int32) (0 : Int32)), g, kn2, td) else (1, (j_stT (1 : Int32) (0 : Int32)), g, kn2, td)) else (0, (j_stT (1 : Int32) (0 : Int32)), g, kn2, td))) := rfl
  have hT : (((j_X2_isNone a1) = 0 → (((j_X2_isNone a2) = 0 → (((j_stR (0 : Int32) (0 : Int32)) = 0 → (vp_in a1 8 ∧ (vp_in a2 8 ∧ (((g a2.toNatClampNeg) ≤ (g a1.toNatClampNeg) → True) ∧ (¬ ((g a2.toNatClampNeg) ≤ (g a1.toNatClampNeg)) → True))))) ∧ (¬ ((j_stR (0 : Int32) (0 : Int32)) = 0) → True))) ∧ (¬ ((j_X2_isNone a2) = 0) → (((j_stR (1 : Int32) (0 : Int32)) = 0 → (vp_in a1 8 ∧ (vp_in a2 8 ∧ (((g a2.toNatClampNeg) ≤ (g a1.toNatClampNeg) → True) ∧ (¬ ((g a2.toNatClampNeg) ≤ (g a1.toNatClampNeg)) → True))))) ∧ (¬ ((j_stR (1 : Int32) (0 : Int32)) = 0) → True))))) ∧ (¬ ((j_X2_isNone a1) = 0) → (((j_stR (1 : Int32) (0 : Int32)) = 0 → (vp_in a1 8 ∧ (vp_in a2 8 ∧ (((g a2.toNatClampNeg) ≤ (g a1.toNatClampNeg) → True) ∧ (¬ ((g a2.toNatClampNeg) ≤ (g a1.toNatClampNeg)) → True))))) ∧ (¬ ((j_stR (1 : Int32) (0 : Int32)) = 0) → True)))) := hT9
  refine lv_aload_n hx hb dX2_isAhead_0 rfl (lv_at hl 0 rfl) ?_
  refine lv_iload_n hx hb dX2_isAhead_1 rfl (lv_at hl 1 rfl) ?_
  refine k_pS [.int a1] (rest := [.ref y]) ⟨hx, hb, hml, hown, hts⟩ (c_X2_isNone l D cB cJ _ a1) (va_cwS 1 hts gX2_isAhead_X2_isNone rfl rfl rfl (by decide +kernel) ⟨(Nat.le_of_ble_eq_true rfl), (Nat.le_of_ble_eq_true rfl)⟩) hE hS rfl rfl hl.1 (Nat.le_of_ble_eq_true rfl) dX2_isAhead_2 ⟨(Nat.le_of_ble_eq_true rfl), (Nat.le_of_ble_eq_true rfl)⟩ (fun locs hS => ?_)
  refine W.eq (g2 := F0 m 5 ls [.int (j_X2_isNone a1), .ref y]) rfl ?_
  refine lv_if_ne (tgt := 15) hx hb dX2_isAhead_5 (by decide) (fun c_1 => ?_) (fun c_1 => ?_)
  · refine lv_iconst (v := 1) hx hb dX2_isAhead_15 (by decide) ?_
    refine lv_goto (tgt := 20) hx hb dX2_isAhead_16 (by decide) ?_
    refine lv_iconst (v := 0) hx hb dX2_isAhead_20 (by decide) ?_
    have hFc := va_free (wc := [(y, .inr (4, [.int th, .ref n2, .int kn2, .int td])), (n2, .inl (cJ, 8, .inr (.inl g)))]) hD hS hA [0, 1] rfl
    refine k_go (va_runV (As := [.int 1, .int 0]) (rest := []) ⟨hx, hb, hml, hown, hts⟩ (cq_X2_isStopped l D cB cJ _ y n2 th g kn2 td hP (hD.weaken (fun _ _ _ _ => trivial)) (1 : Int32) (0 : Int32)) (cwV 2 hts gX2_isAhead_X2_isStopped rfl rfl rfl (by decide +kernel) ⟨(Nat.le_of_ble_eq_true rfl), (Nat.le_of_ble_eq_true rfl)⟩) (k_preV hE hS hFc (va_recv hK hP (ci := 4) (q0 := 0) rfl rfl)) rfl rfl hl.1 rfl (lv_room (Nat.le_of_ble_eq_true rfl)) dX2_isAhead_21 ⟨(Nat.le_of_ble_eq_true rfl), (Nat.le_of_ble_eq_true rfl)⟩) hS (fun q _ h => hFc q h) hFc (fun v H locs hp hz hk hS => ?_)
    obtain ⟨rfl, hP1, hD1⟩ := hp
    (try dsimp only at hP1 hD1)
    have hP : va_P D vwCl [(y, .inr (4, [.int (j_stT (1 : Int32) (0 : Int32)), .ref n2, .int kn2, .int td])), (n2, .inl (cJ, 8, .inr (.inl g)))] H := hP1
    have hD : va_D A [(y, .inr (4, [.int (j_stT (1 : Int32) (0 : Int32)), .ref n2, .int kn2, .int td])), (n2, .inl (cJ, 8, .inr (.inl g)))] := hD1.weaken (fun _ q _ h => hFc q.1 h)
    refine W.eq (g2 := F0 m 24 ls [.int (j_stR (1 : Int32) (0 : Int32))]) rfl ?_
    refine lv_if_ne (tgt := 47) hx hb dX2_isAhead_24 (by decide) (fun c_2 => ?_) (fun c_2 => ?_)
    · refine lv_iconst (v := 0) hx hb dX2_isAhead_47 (by decide) ?_
      exact k_zret hx hb hr (Or.inl rfl) hlocks hS dX2_isAhead_48 ⟨by rw [hJ, if_neg c_1, if_neg c_2], by rw [hJ, if_neg c_1, if_neg c_2]; (try dsimp only); exact hP, by rw [hJ, if_neg c_1, if_neg c_2]; (try dsimp only); exact hD⟩
    · refine lv_aload_n hx hb dX2_isAhead_27 rfl (lv_at hl 0 rfl) ?_
      refine va_get (D := D) (ci := 4) (v := .ref n2) (C := RX2) (T := TX2) (N := 4) hx hb hts iw_X2_isAhead_X2 hown hK hP 0 rfl rfl 1 (by decide) (hts (.fieldLink RX2 9 "ClocksoloModel" "its" "[J") (by decide +kernel)) (fun _ h9 => h9) rfl dX2_isAhead_28 ?_
      refine lv_iload_n hx hb dX2_isAhead_31 rfl (lv_at hl 1 rfl) ?_
      refine va_lald hx hb hK hP 1 1 rfl rfl ((hT.2 c_1).1 c_2).1 dX2_isAhead_32 ?_
      refine lv_aload_n hx hb dX2_isAhead_33 rfl (lv_at hl 0 rfl) ?_
      refine va_get (D := D) (ci := 4) (v := .ref n2) (C := RX2) (T := TX2) (N := 4) hx hb hts iw_X2_isAhead_X2 hown hK hP 0 rfl rfl 1 (by decide) (hts (.fieldLink RX2 9 "ClocksoloModel" "its" "[J") (by decide +kernel)) (fun _ h9 => h9) rfl dX2_isAhead_34 ?_
      refine lv_iload_n hx hb dX2_isAhead_37 rfl (lv_at hl 2 rfl) ?_
      refine va_lald hx hb hK hP 1 1 rfl rfl ((hT.2 c_1).1 c_2).2.1 dX2_isAhead_38 ?_
      refine kl_ge (tgt := 47) hx hb dX2_isAhead_39 dX2_isAhead_40 (by decide) (fun c_3 => ?_) (fun c_3 => ?_)
      · refine lv_iconst (v := 0) hx hb dX2_isAhead_47 (by decide) ?_
        exact k_zret hx hb hr (Or.inl rfl) hlocks hS dX2_isAhead_48 ⟨by rw [hJ, if_neg c_1, if_pos c_2, if_pos c_3], by rw [hJ, if_neg c_1, if_pos c_2, if_pos c_3]; (try dsimp only); exact hP, by rw [hJ, if_neg c_1, if_pos c_2, if_pos c_3]; (try dsimp only); exact hD⟩
      · refine lv_iconst (v := 1) hx hb dX2_isAhead_43 (by decide) ?_
        refine lv_goto (tgt := 48) hx hb dX2_isAhead_44 (by decide) ?_
        exact k_zret hx hb hr (Or.inr rfl) hlocks hS dX2_isAhead_48 ⟨by rw [hJ, if_neg c_1, if_pos c_2, if_neg c_3], by rw [hJ, if_neg c_1, if_pos c_2, if_neg c_3]; (try dsimp only); exact hP, by rw [hJ, if_neg c_1, if_pos c_2, if_neg c_3]; (try dsimp only); exact hD⟩
  · refine lv_iload_n hx hb dX2_isAhead_8 rfl (lv_at hl 2 rfl) ?_
    refine k_pS [.int a2] (rest := [.ref y]) ⟨hx, hb, hml, hown, hts⟩ (c_X2_isNone l D cB cJ _ a2) (va_cwS 1 hts gX2_isAhead_X2_isNone rfl rfl rfl (by decide +kernel) ⟨(Nat.le_of_ble_eq_true rfl), (Nat.le_of_ble_eq_true rfl)⟩) hE hS rfl rfl hl.1 (Nat.le_of_ble_eq_true rfl) dX2_isAhead_9 ⟨(Nat.le_of_ble_eq_true rfl), (Nat.le_of_ble_eq_true rfl)⟩ (fun locs hS => ?_)
    refine W.eq (g2 := F0 m 12 ls [.int (j_X2_isNone a2), .ref y]) rfl ?_
    refine lv_if_eq (tgt := 19) hx hb dX2_isAhead_12 (by decide) (fun c_4 => ?_) (fun c_4 => ?_)
    · refine lv_iconst (v := 0) hx hb dX2_isAhead_19 (by decide) ?_
      refine lv_iconst (v := 0) hx hb dX2_isAhead_20 (by decide) ?_
      have hFc := va_free (wc := [(y, .inr (4, [.int th, .ref n2, .int kn2, .int td])), (n2, .inl (cJ, 8, .inr (.inl g)))]) hD hS hA [0, 1] rfl
      refine k_go (va_runV (As := [.int 0, .int 0]) (rest := []) ⟨hx, hb, hml, hown, hts⟩ (cq_X2_isStopped l D cB cJ _ y n2 th g kn2 td hP (hD.weaken (fun _ _ _ _ => trivial)) (0 : Int32) (0 : Int32)) (cwV 2 hts gX2_isAhead_X2_isStopped rfl rfl rfl (by decide +kernel) ⟨(Nat.le_of_ble_eq_true rfl), (Nat.le_of_ble_eq_true rfl)⟩) (k_preV hE hS hFc (va_recv hK hP (ci := 4) (q0 := 0) rfl rfl)) rfl rfl hl.1 rfl (lv_room (Nat.le_of_ble_eq_true rfl)) dX2_isAhead_21 ⟨(Nat.le_of_ble_eq_true rfl), (Nat.le_of_ble_eq_true rfl)⟩) hS (fun q _ h => hFc q h) hFc (fun v H locs hp hz hk hS => ?_)
      obtain ⟨rfl, hP1, hD1⟩ := hp
      (try dsimp only at hP1 hD1)
      have hP : va_P D vwCl [(y, .inr (4, [.int (j_stT (0 : Int32) (0 : Int32)), .ref n2, .int kn2, .int td])), (n2, .inl (cJ, 8, .inr (.inl g)))] H := hP1
      have hD : va_D A [(y, .inr (4, [.int (j_stT (0 : Int32) (0 : Int32)), .ref n2, .int kn2, .int td])), (n2, .inl (cJ, 8, .inr (.inl g)))] := hD1.weaken (fun _ q _ h => hFc q.1 h)
      refine W.eq (g2 := F0 m 24 ls [.int (j_stR (0 : Int32) (0 : Int32))]) rfl ?_
      refine lv_if_ne (tgt := 47) hx hb dX2_isAhead_24 (by decide) (fun c_5 => ?_) (fun c_5 => ?_)
      · refine lv_iconst (v := 0) hx hb dX2_isAhead_47 (by decide) ?_
        exact k_zret hx hb hr (Or.inl rfl) hlocks hS dX2_isAhead_48 ⟨by rw [hJ, if_pos c_1, if_pos c_4, if_neg c_5], by rw [hJ, if_pos c_1, if_pos c_4, if_neg c_5]; (try dsimp only); exact hP, by rw [hJ, if_pos c_1, if_pos c_4, if_neg c_5]; (try dsimp only); exact hD⟩
      · refine lv_aload_n hx hb dX2_isAhead_27 rfl (lv_at hl 0 rfl) ?_
        refine va_get (D := D) (ci := 4) (v := .ref n2) (C := RX2) (T := TX2) (N := 4) hx hb hts iw_X2_isAhead_X2 hown hK hP 0 rfl rfl 1 (by decide) (hts (.fieldLink RX2 9 "ClocksoloModel" "its" "[J") (by decide +kernel)) (fun _ h9 => h9) rfl dX2_isAhead_28 ?_
        refine lv_iload_n hx hb dX2_isAhead_31 rfl (lv_at hl 1 rfl) ?_
        refine va_lald hx hb hK hP 1 1 rfl rfl (((hT.1 c_1).1 c_4).1 c_5).1 dX2_isAhead_32 ?_
        refine lv_aload_n hx hb dX2_isAhead_33 rfl (lv_at hl 0 rfl) ?_
        refine va_get (D := D) (ci := 4) (v := .ref n2) (C := RX2) (T := TX2) (N := 4) hx hb hts iw_X2_isAhead_X2 hown hK hP 0 rfl rfl 1 (by decide) (hts (.fieldLink RX2 9 "ClocksoloModel" "its" "[J") (by decide +kernel)) (fun _ h9 => h9) rfl dX2_isAhead_34 ?_
        refine lv_iload_n hx hb dX2_isAhead_37 rfl (lv_at hl 2 rfl) ?_
        refine va_lald hx hb hK hP 1 1 rfl rfl (((hT.1 c_1).1 c_4).1 c_5).2.1 dX2_isAhead_38 ?_
        refine kl_ge (tgt := 47) hx hb dX2_isAhead_39 dX2_isAhead_40 (by decide) (fun c_6 => ?_) (fun c_6 => ?_)
        · refine lv_iconst (v := 0) hx hb dX2_isAhead_47 (by decide) ?_
          exact k_zret hx hb hr (Or.inl rfl) hlocks hS dX2_isAhead_48 ⟨by rw [hJ, if_pos c_1, if_pos c_4, if_pos c_5, if_pos c_6], by rw [hJ, if_pos c_1, if_pos c_4, if_pos c_5, if_pos c_6]; (try dsimp only); exact hP, by rw [hJ, if_pos c_1, if_pos c_4, if_pos c_5, if_pos c_6]; (try dsimp only); exact hD⟩
        · refine lv_iconst (v := 1) hx hb dX2_isAhead_43 (by decide) ?_
          refine lv_goto (tgt := 48) hx hb dX2_isAhead_44 (by decide) ?_
          exact k_zret hx hb hr (Or.inr rfl) hlocks hS dX2_isAhead_48 ⟨by rw [hJ, if_pos c_1, if_pos c_4, if_pos c_5, if_neg c_6], by rw [hJ, if_pos c_1, if_pos c_4, if_pos c_5, if_neg c_6]; (try dsimp only); exact hP, by rw [hJ, if_pos c_1, if_pos c_4, if_pos c_5, if_neg c_6]; (try dsimp only); exact hD⟩
    · refine lv_iconst (v := 1) hx hb dX2_isAhead_15 (by decide) ?_
      refine lv_goto (tgt := 20) hx hb dX2_isAhead_16 (by decide) ?_
      refine lv_iconst (v := 0) hx hb dX2_isAhead_20 (by decide) ?_
      have hFc := va_free (wc := [(y, .inr (4, [.int th, .ref n2, .int kn2, .int td])), (n2, .inl (cJ, 8, .inr (.inl g)))]) hD hS hA [0, 1] rfl
      refine k_go (va_runV (As := [.int 1, .int 0]) (rest := []) ⟨hx, hb, hml, hown, hts⟩ (cq_X2_isStopped l D cB cJ _ y n2 th g kn2 td hP (hD.weaken (fun _ _ _ _ => trivial)) (1 : Int32) (0 : Int32)) (cwV 2 hts gX2_isAhead_X2_isStopped rfl rfl rfl (by decide +kernel) ⟨(Nat.le_of_ble_eq_true rfl), (Nat.le_of_ble_eq_true rfl)⟩) (k_preV hE hS hFc (va_recv hK hP (ci := 4) (q0 := 0) rfl rfl)) rfl rfl hl.1 rfl (lv_room (Nat.le_of_ble_eq_true rfl)) dX2_isAhead_21 ⟨(Nat.le_of_ble_eq_true rfl), (Nat.le_of_ble_eq_true rfl)⟩) hS (fun q _ h => hFc q h) hFc (fun v H locs hp hz hk hS => ?_)
      obtain ⟨rfl, hP1, hD1⟩ := hp
      (try dsimp only at hP1 hD1)
      have hP : va_P D vwCl [(y, .inr (4, [.int (j_stT (1 : Int32) (0 : Int32)), .ref n2, .int kn2, .int td])), (n2, .inl (cJ, 8, .inr (.inl g)))] H := hP1
      have hD : va_D A [(y, .inr (4, [.int (j_stT (1 : Int32) (0 : Int32)), .ref n2, .int kn2, .int td])), (n2, .inl (cJ, 8, .inr (.inl g)))] := hD1.weaken (fun _ q _ h => hFc q.1 h)
      refine W.eq (g2 := F0 m 24 ls [.int (j_stR (1 : Int32) (0 : Int32))]) rfl ?_
      refine lv_if_ne (tgt := 47) hx hb dX2_isAhead_24 (by decide) (fun c_7 => ?_) (fun c_7 => ?_)
      · refine lv_iconst (v := 0) hx hb dX2_isAhead_47 (by decide) ?_
        exact k_zret hx hb hr (Or.inl rfl) hlocks hS dX2_isAhead_48 ⟨by rw [hJ, if_pos c_1, if_neg c_4, if_neg c_7], by rw [hJ, if_pos c_1, if_neg c_4, if_neg c_7]; (try dsimp only); exact hP, by rw [hJ, if_pos c_1, if_neg c_4, if_neg c_7]; (try dsimp only); exact hD⟩
      · refine lv_aload_n hx hb dX2_isAhead_27 rfl (lv_at hl 0 rfl) ?_
        refine va_get (D := D) (ci := 4) (v := .ref n2) (C := RX2) (T := TX2) (N := 4) hx hb hts iw_X2_isAhead_X2 hown hK hP 0 rfl rfl 1 (by decide) (hts (.fieldLink RX2 9 "ClocksoloModel" "its" "[J") (by decide +kernel)) (fun _ h9 => h9) rfl dX2_isAhead_28 ?_
        refine lv_iload_n hx hb dX2_isAhead_31 rfl (lv_at hl 1 rfl) ?_
        refine va_lald hx hb hK hP 1 1 rfl rfl (((hT.1 c_1).2 c_4).1 c_7).1 dX2_isAhead_32 ?_
        refine lv_aload_n hx hb dX2_isAhead_33 rfl (lv_at hl 0 rfl) ?_
        refine va_get (D := D) (ci := 4) (v := .ref n2) (C := RX2) (T := TX2) (N := 4) hx hb hts iw_X2_isAhead_X2 hown hK hP 0 rfl rfl 1 (by decide) (hts (.fieldLink RX2 9 "ClocksoloModel" "its" "[J") (by decide +kernel)) (fun _ h9 => h9) rfl dX2_isAhead_34 ?_
        refine lv_iload_n hx hb dX2_isAhead_37 rfl (lv_at hl 2 rfl) ?_
        refine va_lald hx hb hK hP 1 1 rfl rfl (((hT.1 c_1).2 c_4).1 c_7).2.1 dX2_isAhead_38 ?_
        refine kl_ge (tgt := 47) hx hb dX2_isAhead_39 dX2_isAhead_40 (by decide) (fun c_8 => ?_) (fun c_8 => ?_)
        · refine lv_iconst (v := 0) hx hb dX2_isAhead_47 (by decide) ?_
          exact k_zret hx hb hr (Or.inl rfl) hlocks hS dX2_isAhead_48 ⟨by rw [hJ, if_pos c_1, if_neg c_4, if_pos c_7, if_pos c_8], by rw [hJ, if_pos c_1, if_neg c_4, if_pos c_7, if_pos c_8]; (try dsimp only); exact hP, by rw [hJ, if_pos c_1, if_neg c_4, if_pos c_7, if_pos c_8]; (try dsimp only); exact hD⟩
        · refine lv_iconst (v := 1) hx hb dX2_isAhead_43 (by decide) ?_
          refine lv_goto (tgt := 48) hx hb dX2_isAhead_44 (by decide) ?_
          exact k_zret hx hb hr (Or.inr rfl) hlocks hS dX2_isAhead_48 ⟨by rw [hJ, if_pos c_1, if_neg c_4, if_pos c_7, if_neg c_8], by rw [hJ, if_pos c_1, if_neg c_4, if_pos c_7, if_neg c_8]; (try dsimp only); exact hP, by rw [hJ, if_pos c_1, if_neg c_4, if_pos c_7, if_neg c_8]; (try dsimp only); exact hD⟩
abbrev rm_X2_isBehind : Room := { frames := 2, cells := 0, slots := 0, locals := 42 }
theorem iw_X2_isBehind_X2 : ∀ w ∈ wsX20, w ∈ wsX2_isBehind := by decide +kernel
def j_X2_isBehind (th : Int32) (g : Nat → Int64) (kn2 td : Int32) (a1 : Int32) (a2 : Int32) : Int32 × Int32 × (Nat → Int64) × Int32 × Int32 := (if (j_X2_isNone a1) = 0 then (if (j_X2_isNone a2) = 0 then (if (j_stR (0 : Int32) (0 : Int32)) = 0 then (if (g a1.toNatClampNeg) ≤ (g a2.toNatClampNeg) then (0, (j_stT (0 : Int32) (0 : Int32)), g, kn2, td) else (1, (j_stT (0 : Int32) (0 : Int32)), g, kn2, td)) else (0, (j_stT (0 : Int32) (0 : Int32)), g, kn2, td)) else (if (j_stR (1 : Int32) (0 : Int32)) = 0 then (if (g a1.toNatClampNeg) ≤ (g a2.toNatClampNeg) then (0, (j_stT (1 : Int32) (0 : Int32)), g, kn2, td) else (1, (j_stT (1 : Int32) (0 : Int32)), g, kn2, td)) else (0, (j_stT (1 : Int32) (0 : Int32)), g, kn2, td))) else (if (j_stR (1 : Int32) (0 : Int32)) = 0 then (if (g a1.toNatClampNeg) ≤ (g a2.toNatClampNeg) then (0, (j_stT (1 : Int32) (0 : Int32)), g, kn2, td) else (1, (j_stT (1 : Int32) (0 : Int32)), g, kn2, td)) else (0, (j_stT (1 : Int32) (0 : Int32)), g, kn2, td)))
def T_X2_isBehind (th : Int32) (g : Nat → Int64) (kn2 td : Int32) (a1 : Int32) (a2 : Int32) : Prop := (((j_X2_isNone a1) = 0 → (((j_X2_isNone a2) = 0 → (((j_stR (0 : Int32) (0 : Int32)) = 0 → (vp_in a1 8 ∧ (vp_in a2 8 ∧ (((g a1.toNatClampNeg) ≤ (g a2.toNatClampNeg) → True) ∧ (¬ ((g a1.toNatClampNeg) ≤ (g a2.toNatClampNeg)) → True))))) ∧ (¬ ((j_stR (0 : Int32) (0 : Int32)) = 0) → True))) ∧ (¬ ((j_X2_isNone a2) = 0) → (((j_stR (1 : Int32) (0 : Int32)) = 0 → (vp_in a1 8 ∧ (vp_in a2 8 ∧ (((g a1.toNatClampNeg) ≤ (g a2.toNatClampNeg) → True) ∧ (¬ ((g a1.toNatClampNeg) ≤ (g a2.toNatClampNeg)) → True))))) ∧ (¬ ((j_stR (1 : Int32) (0 : Int32)) = 0) → True))))) ∧ (¬ ((j_X2_isNone a1) = 0) → (((j_stR (1 : Int32) (0 : Int32)) = 0 → (vp_in a1 8 ∧ (vp_in a2 8 ∧ (((g a1.toNatClampNeg) ≤ (g a2.toNatClampNeg) → True) ∧ (¬ ((g a1.toNatClampNeg) ≤ (g a2.toNatClampNeg)) → True))))) ∧ (¬ ((j_stR (1 : Int32) (0 : Int32)) = 0) → True))))
set_option maxHeartbeats 4000000 in
set_option maxRecDepth 100000 in
theorem c_X2_isBehind (l : Launch) (D : va_G) (cB cJ : ClassId) (Hp : Heap) (y n2 : Nat) (th : Int32) (g : Nat → Int64) (kn2 td : Int32) (hP : va_P D vwCl (wMo y n2 cJ th g kn2 td) Hp) (hD9 : va_D (fun _ => True) (wMo y n2 cJ th g kn2 td)) (a1 : Int32) (a2 : Int32) (hT9 : T_X2_isBehind th g kn2 td a1 a2) : kM l D cB cJ yX2_isBehind wsX2_isBehind rm_X2_isBehind (va_A (wMo y n2 cJ th g kn2 td) Hp.size) Hp [.ref y, .int a1, .int a2] (kPm D y n2 cJ (va_A (wMo y n2 cJ th g kn2 td) Hp.size) (j_X2_isBehind th g kn2 td a1 a2)) 0 0 := by
  refine Met.ofW (cc := cX2_isBehind) (maxL := 3) (ret := (some .boolean)) (by decide) rfl ?_
  intro p e s m args below meth c s₁ B hml hv
  obtain ⟨rfl, hHp, hE⟩ := hv
  subst hHp
  have hx := B.exec
  have hb := B.bytes
  have hr := B.returns
  have hts := atoms_spec (ws := wsX2_isBehind) B.pre
  have hown : s.vm.findClass RX2 = some m.cls := findClass_of_methodNamed B.named
  have hlocks := B.notSynchronized
  have hK := hE.1
  have hD := hD9.self (sz := s.heap.size)
  generalize hAe : va_A (wMo y n2 cJ th g kn2 td) s.heap.size = A at hE hD ⊢
  have hA : ∀ q : Nat, s.heap.size ≤ q → A q := fun q h => by rw [← hAe]; exact Or.inr h
  have hS : va_S A s.heap s.heap [] := va_S.rf
  have hl := lv_entry ([.ref y, .int a1, .int a2]) (n := 3) (Nat.le_of_ble_eq_true rfl)
  rw [lg_entry_eq]
  generalize (lg_sl ([.ref y, .int a1, .int a2]) ++ List.replicate (3 - (lg_sl ([.ref y, .int a1, .int a2])).length) Slot.unset).toArray = ls at hl ⊢
  have hl : lv_has ls 3 [(0, .ref y), (1, .int a1), (2, .int a2)] := hl
  have hJ : (j_X2_isBehind th g kn2 td a1 a2) = (if (j_X2_isNone a1) = 0 then (if (j_X2_isNone a2) = 0 then (if (j_stR (0 : Int32) (0 : Int32)) = 0 then (if (g a1.toNatClampNeg) ≤ (g a2.toNatClampNeg) then (0, (j_stT (0 : Int32) (0 : Int32)), g, kn2, td) else (1, (j_stT (0 : Int32) (0 : Int32)), g, kn2, td)) else (0, (j_stT (0 : Int32) (0 : Int32)), g, kn2, td)) else (if (j_stR (1 : Int32) (0 : Int32)) = 0 then (if (g a1.toNatClampNeg) ≤ (g a2.toNatClampNeg) then (0, (j_stT (1 : Int32) (0 : Int32)), g, kn2, td) else (1, (j_stT (1 : Int32) (0 : Int32)), g, kn2, td)) else (0, (j_stT (1 : Int32) (0 : Int32)), g, kn2, td))) else (if (j_stR (1 : Int32) (0 : Int32)) = 0 then (if (g a1.toNatClampNeg) ≤ (g a2.toNatClampNeg) then (0, (j_stT (1 : Int32) (0 : Int32)), g, kn2, td) else (1, (j_stT (1 : Int32) (0 : Int32)), g, kn2, td)) else (0, (j_stT (1 : Int32) (0 : Int32)), g, kn2, td))) := rfl
  have hT : (((j_X2_isNone a1) = 0 → (((j_X2_isNone a2) = 0 → (((j_stR (0 : Int32) (0 : Int32)) = 0 → (vp_in a1 8 ∧ (vp_in a2 8 ∧ (((g a1.toNatClampNeg) ≤ (g a2.toNatClampNeg) → True) ∧ (¬ ((g a1.toNatClampNeg) ≤ (g a2.toNatClampNeg)) → True))))) ∧ (¬ ((j_stR (0 : Int32) (0 : Int32)) = 0) → True))) ∧ (¬ ((j_X2_isNone a2) = 0) → (((j_stR (1 : Int32) (0 : Int32)) = 0 → (vp_in a1 8 ∧ (vp_in a2 8 ∧ (((g a1.toNatClampNeg) ≤ (g a2.toNatClampNeg) → True) ∧ (¬ ((g a1.toNatClampNeg) ≤ (g a2.toNatClampNeg)) → True))))) ∧ (¬ ((j_stR (1 : Int32) (0 : Int32)) = 0) → True))))) ∧ (¬ ((j_X2_isNone a1) = 0) → (((j_stR (1 : Int32) (0 : Int32)) = 0 → (vp_in a1 8 ∧ (vp_in a2 8 ∧ (((g a1.toNatClampNeg) ≤ (g a2.toNatClampNeg) → True) ∧ (¬ ((g a1.toNatClampNeg) ≤ (g a2.toNatClampNeg)) → True))))) ∧ (¬ ((j_stR (1 : Int32) (0 : Int32)) = 0) → True)))) := hT9
  refine lv_aload_n hx hb dX2_isBehind_0 rfl (lv_at hl 0 rfl) ?_
  refine lv_iload_n hx hb dX2_isBehind_1 rfl (lv_at hl 1 rfl) ?_
  refine k_pS [.int a1] (rest := [.ref y]) ⟨hx, hb, hml, hown, hts⟩ (c_X2_isNone l D cB cJ _ a1) (va_cwS 1 hts gX2_isBehind_X2_isNone rfl rfl rfl (by decide +kernel) ⟨(Nat.le_of_ble_eq_true rfl), (Nat.le_of_ble_eq_true rfl)⟩) hE hS rfl rfl hl.1 (Nat.le_of_ble_eq_true rfl) dX2_isBehind_2 ⟨(Nat.le_of_ble_eq_true rfl), (Nat.le_of_ble_eq_true rfl)⟩ (fun locs hS => ?_)
  refine W.eq (g2 := F0 m 5 ls [.int (j_X2_isNone a1), .ref y]) rfl ?_
  refine lv_if_ne (tgt := 15) hx hb dX2_isBehind_5 (by decide) (fun c_1 => ?_) (fun c_1 => ?_)
  · refine lv_iconst (v := 1) hx hb dX2_isBehind_15 (by decide) ?_
    refine lv_goto (tgt := 20) hx hb dX2_isBehind_16 (by decide) ?_
    refine lv_iconst (v := 0) hx hb dX2_isBehind_20 (by decide) ?_
    have hFc := va_free (wc := [(y, .inr (4, [.int th, .ref n2, .int kn2, .int td])), (n2, .inl (cJ, 8, .inr (.inl g)))]) hD hS hA [0, 1] rfl
    refine k_go (va_runV (As := [.int 1, .int 0]) (rest := []) ⟨hx, hb, hml, hown, hts⟩ (cq_X2_isStopped l D cB cJ _ y n2 th g kn2 td hP (hD.weaken (fun _ _ _ _ => trivial)) (1 : Int32) (0 : Int32)) (cwV 2 hts gX2_isBehind_X2_isStopped rfl rfl rfl (by decide +kernel) ⟨(Nat.le_of_ble_eq_true rfl), (Nat.le_of_ble_eq_true rfl)⟩) (k_preV hE hS hFc (va_recv hK hP (ci := 4) (q0 := 0) rfl rfl)) rfl rfl hl.1 rfl (lv_room (Nat.le_of_ble_eq_true rfl)) dX2_isBehind_21 ⟨(Nat.le_of_ble_eq_true rfl), (Nat.le_of_ble_eq_true rfl)⟩) hS (fun q _ h => hFc q h) hFc (fun v H locs hp hz hk hS => ?_)
    obtain ⟨rfl, hP1, hD1⟩ := hp
    (try dsimp only at hP1 hD1)
    have hP : va_P D vwCl [(y, .inr (4, [.int (j_stT (1 : Int32) (0 : Int32)), .ref n2, .int kn2, .int td])), (n2, .inl (cJ, 8, .inr (.inl g)))] H := hP1
    have hD : va_D A [(y, .inr (4, [.int (j_stT (1 : Int32) (0 : Int32)), .ref n2, .int kn2, .int td])), (n2, .inl (cJ, 8, .inr (.inl g)))] := hD1.weaken (fun _ q _ h => hFc q.1 h)
    refine W.eq (g2 := F0 m 24 ls [.int (j_stR (1 : Int32) (0 : Int32))]) rfl ?_
    refine lv_if_ne (tgt := 47) hx hb dX2_isBehind_24 (by decide) (fun c_2 => ?_) (fun c_2 => ?_)
    · refine lv_iconst (v := 0) hx hb dX2_isBehind_47 (by decide) ?_
      exact k_zret hx hb hr (Or.inl rfl) hlocks hS dX2_isBehind_48 ⟨by rw [hJ, if_neg c_1, if_neg c_2], by rw [hJ, if_neg c_1, if_neg c_2]; (try dsimp only); exact hP, by rw [hJ, if_neg c_1, if_neg c_2]; (try dsimp only); exact hD⟩
    · refine lv_aload_n hx hb dX2_isBehind_27 rfl (lv_at hl 0 rfl) ?_
      refine va_get (D := D) (ci := 4) (v := .ref n2) (C := RX2) (T := TX2) (N := 4) hx hb hts iw_X2_isBehind_X2 hown hK hP 0 rfl rfl 1 (by decide) (hts (.fieldLink RX2 9 "ClocksoloModel" "its" "[J") (by decide +kernel)) (fun _ h9 => h9) rfl dX2_isBehind_28 ?_
      refine lv_iload_n hx hb dX2_isBehind_31 rfl (lv_at hl 1 rfl) ?_
      refine va_lald hx hb hK hP 1 1 rfl rfl ((hT.2 c_1).1 c_2).1 dX2_isBehind_32 ?_
      refine lv_aload_n hx hb dX2_isBehind_33 rfl (lv_at hl 0 rfl) ?_
      refine va_get (D := D) (ci := 4) (v := .ref n2) (C := RX2) (T := TX2) (N := 4) hx hb hts iw_X2_isBehind_X2 hown hK hP 0 rfl rfl 1 (by decide) (hts (.fieldLink RX2 9 "ClocksoloModel" "its" "[J") (by decide +kernel)) (fun _ h9 => h9) rfl dX2_isBehind_34 ?_
      refine lv_iload_n hx hb dX2_isBehind_37 rfl (lv_at hl 2 rfl) ?_
      refine va_lald hx hb hK hP 1 1 rfl rfl ((hT.2 c_1).1 c_2).2.1 dX2_isBehind_38 ?_
      refine kl_le (tgt := 47) hx hb dX2_isBehind_39 dX2_isBehind_40 (by decide) (fun c_3 => ?_) (fun c_3 => ?_)
      · refine lv_iconst (v := 0) hx hb dX2_isBehind_47 (by decide) ?_
        exact k_zret hx hb hr (Or.inl rfl) hlocks hS dX2_isBehind_48 ⟨by rw [hJ, if_neg c_1, if_pos c_2, if_pos c_3], by rw [hJ, if_neg c_1, if_pos c_2, if_pos c_3]; (try dsimp only); exact hP, by rw [hJ, if_neg c_1, if_pos c_2, if_pos c_3]; (try dsimp only); exact hD⟩
      · refine lv_iconst (v := 1) hx hb dX2_isBehind_43 (by decide) ?_
        refine lv_goto (tgt := 48) hx hb dX2_isBehind_44 (by decide) ?_
        exact k_zret hx hb hr (Or.inr rfl) hlocks hS dX2_isBehind_48 ⟨by rw [hJ, if_neg c_1, if_pos c_2, if_neg c_3], by rw [hJ, if_neg c_1, if_pos c_2, if_neg c_3]; (try dsimp only); exact hP, by rw [hJ, if_neg c_1, if_pos c_2, if_neg c_3]; (try dsimp only); exact hD⟩
  · refine lv_iload_n hx hb dX2_isBehind_8 rfl (lv_at hl 2 rfl) ?_
    refine k_pS [.int a2] (rest := [.ref y]) ⟨hx, hb, hml, hown, hts⟩ (c_X2_isNone l D cB cJ _ a2) (va_cwS 1 hts gX2_isBehind_X2_isNone rfl rfl rfl (by decide +kernel) ⟨(Nat.le_of_ble_eq_true rfl), (Nat.le_of_ble_eq_true rfl)⟩) hE hS rfl rfl hl.1 (Nat.le_of_ble_eq_true rfl) dX2_isBehind_9 ⟨(Nat.le_of_ble_eq_true rfl), (Nat.le_of_ble_eq_true rfl)⟩ (fun locs hS => ?_)
    refine W.eq (g2 := F0 m 12 ls [.int (j_X2_isNone a2), .ref y]) rfl ?_
    refine lv_if_eq (tgt := 19) hx hb dX2_isBehind_12 (by decide) (fun c_4 => ?_) (fun c_4 => ?_)
    · refine lv_iconst (v := 0) hx hb dX2_isBehind_19 (by decide) ?_
      refine lv_iconst (v := 0) hx hb dX2_isBehind_20 (by decide) ?_
      have hFc := va_free (wc := [(y, .inr (4, [.int th, .ref n2, .int kn2, .int td])), (n2, .inl (cJ, 8, .inr (.inl g)))]) hD hS hA [0, 1] rfl
      refine k_go (va_runV (As := [.int 0, .int 0]) (rest := []) ⟨hx, hb, hml, hown, hts⟩ (cq_X2_isStopped l D cB cJ _ y n2 th g kn2 td hP (hD.weaken (fun _ _ _ _ => trivial)) (0 : Int32) (0 : Int32)) (cwV 2 hts gX2_isBehind_X2_isStopped rfl rfl rfl (by decide +kernel) ⟨(Nat.le_of_ble_eq_true rfl), (Nat.le_of_ble_eq_true rfl)⟩) (k_preV hE hS hFc (va_recv hK hP (ci := 4) (q0 := 0) rfl rfl)) rfl rfl hl.1 rfl (lv_room (Nat.le_of_ble_eq_true rfl)) dX2_isBehind_21 ⟨(Nat.le_of_ble_eq_true rfl), (Nat.le_of_ble_eq_true rfl)⟩) hS (fun q _ h => hFc q h) hFc (fun v H locs hp hz hk hS => ?_)
      obtain ⟨rfl, hP1, hD1⟩ := hp
      (try dsimp only at hP1 hD1)
      have hP : va_P D vwCl [(y, .inr (4, [.int (j_stT (0 : Int32) (0 : Int32)), .ref n2, .int kn2, .int td])), (n2, .inl (cJ, 8, .inr (.inl g)))] H := hP1
      have hD : va_D A [(y, .inr (4, [.int (j_stT (0 : Int32) (0 : Int32)), .ref n2, .int kn2, .int td])), (n2, .inl (cJ, 8, .inr (.inl g)))] := hD1.weaken (fun _ q _ h => hFc q.1 h)
      refine W.eq (g2 := F0 m 24 ls [.int (j_stR (0 : Int32) (0 : Int32))]) rfl ?_
      refine lv_if_ne (tgt := 47) hx hb dX2_isBehind_24 (by decide) (fun c_5 => ?_) (fun c_5 => ?_)
      · refine lv_iconst (v := 0) hx hb dX2_isBehind_47 (by decide) ?_
        exact k_zret hx hb hr (Or.inl rfl) hlocks hS dX2_isBehind_48 ⟨by rw [hJ, if_pos c_1, if_pos c_4, if_neg c_5], by rw [hJ, if_pos c_1, if_pos c_4, if_neg c_5]; (try dsimp only); exact hP, by rw [hJ, if_pos c_1, if_pos c_4, if_neg c_5]; (try dsimp only); exact hD⟩
      · refine lv_aload_n hx hb dX2_isBehind_27 rfl (lv_at hl 0 rfl) ?_
        refine va_get (D := D) (ci := 4) (v := .ref n2) (C := RX2) (T := TX2) (N := 4) hx hb hts iw_X2_isBehind_X2 hown hK hP 0 rfl rfl 1 (by decide) (hts (.fieldLink RX2 9 "ClocksoloModel" "its" "[J") (by decide +kernel)) (fun _ h9 => h9) rfl dX2_isBehind_28 ?_
        refine lv_iload_n hx hb dX2_isBehind_31 rfl (lv_at hl 1 rfl) ?_
        refine va_lald hx hb hK hP 1 1 rfl rfl (((hT.1 c_1).1 c_4).1 c_5).1 dX2_isBehind_32 ?_
        refine lv_aload_n hx hb dX2_isBehind_33 rfl (lv_at hl 0 rfl) ?_
        refine va_get (D := D) (ci := 4) (v := .ref n2) (C := RX2) (T := TX2) (N := 4) hx hb hts iw_X2_isBehind_X2 hown hK hP 0 rfl rfl 1 (by decide) (hts (.fieldLink RX2 9 "ClocksoloModel" "its" "[J") (by decide +kernel)) (fun _ h9 => h9) rfl dX2_isBehind_34 ?_
        refine lv_iload_n hx hb dX2_isBehind_37 rfl (lv_at hl 2 rfl) ?_
        refine va_lald hx hb hK hP 1 1 rfl rfl (((hT.1 c_1).1 c_4).1 c_5).2.1 dX2_isBehind_38 ?_
        refine kl_le (tgt := 47) hx hb dX2_isBehind_39 dX2_isBehind_40 (by decide) (fun c_6 => ?_) (fun c_6 => ?_)
        · refine lv_iconst (v := 0) hx hb dX2_isBehind_47 (by decide) ?_
          exact k_zret hx hb hr (Or.inl rfl) hlocks hS dX2_isBehind_48 ⟨by rw [hJ, if_pos c_1, if_pos c_4, if_pos c_5, if_pos c_6], by rw [hJ, if_pos c_1, if_pos c_4, if_pos c_5, if_pos c_6]; (try dsimp only); exact hP, by rw [hJ, if_pos c_1, if_pos c_4, if_pos c_5, if_pos c_6]; (try dsimp only); exact hD⟩
        · refine lv_iconst (v := 1) hx hb dX2_isBehind_43 (by decide) ?_
          refine lv_goto (tgt := 48) hx hb dX2_isBehind_44 (by decide) ?_
          exact k_zret hx hb hr (Or.inr rfl) hlocks hS dX2_isBehind_48 ⟨by rw [hJ, if_pos c_1, if_pos c_4, if_pos c_5, if_neg c_6], by rw [hJ, if_pos c_1, if_pos c_4, if_pos c_5, if_neg c_6]; (try dsimp only); exact hP, by rw [hJ, if_pos c_1, if_pos c_4, if_pos c_5, if_neg c_6]; (try dsimp only); exact hD⟩
    · refine lv_iconst (v := 1) hx hb dX2_isBehind_15 (by decide) ?_
      refine lv_goto (tgt := 20) hx hb dX2_isBehind_16 (by decide) ?_
      refine lv_iconst (v := 0) hx hb dX2_isBehind_20 (by decide) ?_
      have hFc := va_free (wc := [(y, .inr (4, [.int th, .ref n2, .int kn2, .int td])), (n2, .inl (cJ, 8, .inr (.inl g)))]) hD hS hA [0, 1] rfl
      refine k_go (va_runV (As := [.int 1, .int 0]) (rest := []) ⟨hx, hb, hml, hown, hts⟩ (cq_X2_isStopped l D cB cJ _ y n2 th g kn2 td hP (hD.weaken (fun _ _ _ _ => trivial)) (1 : Int32) (0 : Int32)) (cwV 2 hts gX2_isBehind_X2_isStopped rfl rfl rfl (by decide +kernel) ⟨(Nat.le_of_ble_eq_true rfl), (Nat.le_of_ble_eq_true rfl)⟩) (k_preV hE hS hFc (va_recv hK hP (ci := 4) (q0 := 0) rfl rfl)) rfl rfl hl.1 rfl (lv_room (Nat.le_of_ble_eq_true rfl)) dX2_isBehind_21 ⟨(Nat.le_of_ble_eq_true rfl), (Nat.le_of_ble_eq_true rfl)⟩) hS (fun q _ h => hFc q h) hFc (fun v H locs hp hz hk hS => ?_)
      obtain ⟨rfl, hP1, hD1⟩ := hp
      (try dsimp only at hP1 hD1)
      have hP : va_P D vwCl [(y, .inr (4, [.int (j_stT (1 : Int32) (0 : Int32)), .ref n2, .int kn2, .int td])), (n2, .inl (cJ, 8, .inr (.inl g)))] H := hP1
      have hD : va_D A [(y, .inr (4, [.int (j_stT (1 : Int32) (0 : Int32)), .ref n2, .int kn2, .int td])), (n2, .inl (cJ, 8, .inr (.inl g)))] := hD1.weaken (fun _ q _ h => hFc q.1 h)
      refine W.eq (g2 := F0 m 24 ls [.int (j_stR (1 : Int32) (0 : Int32))]) rfl ?_
      refine lv_if_ne (tgt := 47) hx hb dX2_isBehind_24 (by decide) (fun c_7 => ?_) (fun c_7 => ?_)
      · refine lv_iconst (v := 0) hx hb dX2_isBehind_47 (by decide) ?_
        exact k_zret hx hb hr (Or.inl rfl) hlocks hS dX2_isBehind_48 ⟨by rw [hJ, if_pos c_1, if_neg c_4, if_neg c_7], by rw [hJ, if_pos c_1, if_neg c_4, if_neg c_7]; (try dsimp only); exact hP, by rw [hJ, if_pos c_1, if_neg c_4, if_neg c_7]; (try dsimp only); exact hD⟩
      · refine lv_aload_n hx hb dX2_isBehind_27 rfl (lv_at hl 0 rfl) ?_
        refine va_get (D := D) (ci := 4) (v := .ref n2) (C := RX2) (T := TX2) (N := 4) hx hb hts iw_X2_isBehind_X2 hown hK hP 0 rfl rfl 1 (by decide) (hts (.fieldLink RX2 9 "ClocksoloModel" "its" "[J") (by decide +kernel)) (fun _ h9 => h9) rfl dX2_isBehind_28 ?_
        refine lv_iload_n hx hb dX2_isBehind_31 rfl (lv_at hl 1 rfl) ?_
        refine va_lald hx hb hK hP 1 1 rfl rfl (((hT.1 c_1).2 c_4).1 c_7).1 dX2_isBehind_32 ?_
        refine lv_aload_n hx hb dX2_isBehind_33 rfl (lv_at hl 0 rfl) ?_
        refine va_get (D := D) (ci := 4) (v := .ref n2) (C := RX2) (T := TX2) (N := 4) hx hb hts iw_X2_isBehind_X2 hown hK hP 0 rfl rfl 1 (by decide) (hts (.fieldLink RX2 9 "ClocksoloModel" "its" "[J") (by decide +kernel)) (fun _ h9 => h9) rfl dX2_isBehind_34 ?_
        refine lv_iload_n hx hb dX2_isBehind_37 rfl (lv_at hl 2 rfl) ?_
        refine va_lald hx hb hK hP 1 1 rfl rfl (((hT.1 c_1).2 c_4).1 c_7).2.1 dX2_isBehind_38 ?_
        refine kl_le (tgt := 47) hx hb dX2_isBehind_39 dX2_isBehind_40 (by decide) (fun c_8 => ?_) (fun c_8 => ?_)
        · refine lv_iconst (v := 0) hx hb dX2_isBehind_47 (by decide) ?_
          exact k_zret hx hb hr (Or.inl rfl) hlocks hS dX2_isBehind_48 ⟨by rw [hJ, if_pos c_1, if_neg c_4, if_pos c_7, if_pos c_8], by rw [hJ, if_pos c_1, if_neg c_4, if_pos c_7, if_pos c_8]; (try dsimp only); exact hP, by rw [hJ, if_pos c_1, if_neg c_4, if_pos c_7, if_pos c_8]; (try dsimp only); exact hD⟩
        · refine lv_iconst (v := 1) hx hb dX2_isBehind_43 (by decide) ?_
          refine lv_goto (tgt := 48) hx hb dX2_isBehind_44 (by decide) ?_
          exact k_zret hx hb hr (Or.inr rfl) hlocks hS dX2_isBehind_48 ⟨by rw [hJ, if_pos c_1, if_neg c_4, if_pos c_7, if_neg c_8], by rw [hJ, if_pos c_1, if_neg c_4, if_pos c_7, if_neg c_8]; (try dsimp only); exact hP, by rw [hJ, if_pos c_1, if_neg c_4, if_pos c_7, if_neg c_8]; (try dsimp only); exact hD⟩
abbrev rm_X2_areAlike : Room := { frames := 2, cells := 0, slots := 0, locals := 42 }
theorem iw_X2_areAlike_X2 : ∀ w ∈ wsX20, w ∈ wsX2_areAlike := by decide +kernel
def j_X2_areAlike (th : Int32) (g : Nat → Int64) (kn2 td : Int32) (a1 : Int32) (a2 : Int32) : Int32 × Int32 × (Nat → Int64) × Int32 × Int32 := (if (j_X2_isNone a1) = 0 then (if (j_X2_isNone a2) = 0 then (if (j_stR (0 : Int32) (0 : Int32)) = 0 then (if (g a1.toNatClampNeg) = (g a2.toNatClampNeg) then (1, (j_stT (0 : Int32) (0 : Int32)), g, kn2, td) else (0, (j_stT (0 : Int32) (0 : Int32)), g, kn2, td)) else (0, (j_stT (0 : Int32) (0 : Int32)), g, kn2, td)) else (if (j_stR (1 : Int32) (0 : Int32)) = 0 then (if (g a1.toNatClampNeg) = (g a2.toNatClampNeg) then (1, (j_stT (1 : Int32) (0 : Int32)), g, kn2, td) else (0, (j_stT (1 : Int32) (0 : Int32)), g, kn2, td)) else (0, (j_stT (1 : Int32) (0 : Int32)), g, kn2, td))) else (if (j_stR (1 : Int32) (0 : Int32)) = 0 then (if (g a1.toNatClampNeg) = (g a2.toNatClampNeg) then (1, (j_stT (1 : Int32) (0 : Int32)), g, kn2, td) else (0, (j_stT (1 : Int32) (0 : Int32)), g, kn2, td)) else (0, (j_stT (1 : Int32) (0 : Int32)), g, kn2, td)))
def T_X2_areAlike (th : Int32) (g : Nat → Int64) (kn2 td : Int32) (a1 : Int32) (a2 : Int32) : Prop := (((j_X2_isNone a1) = 0 → (((j_X2_isNone a2) = 0 → (((j_stR (0 : Int32) (0 : Int32)) = 0 → (vp_in a1 8 ∧ (vp_in a2 8 ∧ (((g a1.toNatClampNeg) = (g a2.toNatClampNeg) → True) ∧ (¬ ((g a1.toNatClampNeg) = (g a2.toNatClampNeg)) → True))))) ∧ (¬ ((j_stR (0 : Int32) (0 : Int32)) = 0) → True))) ∧ (¬ ((j_X2_isNone a2) = 0) → (((j_stR (1 : Int32) (0 : Int32)) = 0 → (vp_in a1 8 ∧ (vp_in a2 8 ∧ (((g a1.toNatClampNeg) = (g a2.toNatClampNeg) → True) ∧ (¬ ((g a1.toNatClampNeg) = (g a2.toNatClampNeg)) → True))))) ∧ (¬ ((j_stR (1 : Int32) (0 : Int32)) = 0) → True))))) ∧ (¬ ((j_X2_isNone a1) = 0) → (((j_stR (1 : Int32) (0 : Int32)) = 0 → (vp_in a1 8 ∧ (vp_in a2 8 ∧ (((g a1.toNatClampNeg) = (g a2.toNatClampNeg) → True) ∧ (¬ ((g a1.toNatClampNeg) = (g a2.toNatClampNeg)) → True))))) ∧ (¬ ((j_stR (1 : Int32) (0 : Int32)) = 0) → True))))
set_option maxHeartbeats 4000000 in
set_option maxRecDepth 100000 in
theorem c_X2_areAlike (l : Launch) (D : va_G) (cB cJ : ClassId) (Hp : Heap) (y n2 : Nat) (th : Int32) (g : Nat → Int64) (kn2 td : Int32) (hP : va_P D vwCl (wMo y n2 cJ th g kn2 td) Hp) (hD9 : va_D (fun _ => True) (wMo y n2 cJ th g kn2 td)) (a1 : Int32) (a2 : Int32) (hT9 : T_X2_areAlike th g kn2 td a1 a2) : kM l D cB cJ yX2_areAlike wsX2_areAlike rm_X2_areAlike (va_A (wMo y n2 cJ th g kn2 td) Hp.size) Hp [.ref y, .int a1, .int a2] (kPm D y n2 cJ (va_A (wMo y n2 cJ th g kn2 td) Hp.size) (j_X2_areAlike th g kn2 td a1 a2)) 0 0 := by
  refine Met.ofW (cc := cX2_areAlike) (maxL := 3) (ret := (some .boolean)) (by decide) rfl ?_
  intro p e s m args below meth c s₁ B hml hv
  obtain ⟨rfl, hHp, hE⟩ := hv
  subst hHp
  have hx := B.exec
  have hb := B.bytes
  have hr := B.returns
  have hts := atoms_spec (ws := wsX2_areAlike) B.pre
  have hown : s.vm.findClass RX2 = some m.cls := findClass_of_methodNamed B.named
  have hlocks := B.notSynchronized
  have hK := hE.1
  have hD := hD9.self (sz := s.heap.size)
  generalize hAe : va_A (wMo y n2 cJ th g kn2 td) s.heap.size = A at hE hD ⊢
  have hA : ∀ q : Nat, s.heap.size ≤ q → A q := fun q h => by rw [← hAe]; exact Or.inr h
  have hS : va_S A s.heap s.heap [] := va_S.rf
  have hl := lv_entry ([.ref y, .int a1, .int a2]) (n := 3) (Nat.le_of_ble_eq_true rfl)
  rw [lg_entry_eq]
  generalize (lg_sl ([.ref y, .int a1, .int a2]) ++ List.replicate (3 - (lg_sl ([.ref y, .int a1, .int a2])).length) Slot.unset).toArray = ls at hl ⊢
  have hl : lv_has ls 3 [(0, .ref y), (1, .int a1), (2, .int a2)] := hl
  have hJ : (j_X2_areAlike th g kn2 td a1 a2) = (if (j_X2_isNone a1) = 0 then (if (j_X2_isNone a2) = 0 then (if (j_stR (0 : Int32) (0 : Int32)) = 0 then (if (g a1.toNatClampNeg) = (g a2.toNatClampNeg) then (1, (j_stT (0 : Int32) (0 : Int32)), g, kn2, td) else (0, (j_stT (0 : Int32) (0 : Int32)), g, kn2, td)) else (0, (j_stT (0 : Int32) (0 : Int32)), g, kn2, td)) else (if (j_stR (1 : Int32) (0 : Int32)) = 0 then (if (g a1.toNatClampNeg) = (g a2.toNatClampNeg) then (1, (j_stT (1 : Int32) (0 : Int32)), g, kn2, td) else (0, (j_stT (1 : Int32) (0 : Int32)), g, kn2, td)) else (0, (j_stT (1 : Int32) (0 : Int32)), g, kn2, td))) else (if (j_stR (1 : Int32) (0 : Int32)) = 0 then (if (g a1.toNatClampNeg) = (g a2.toNatClampNeg) then (1, (j_stT (1 : Int32) (0 : Int32)), g, kn2, td) else (0, (j_stT (1 : Int32) (0 : Int32)), g, kn2, td)) else (0, (j_stT (1 : Int32) (0 : Int32)), g, kn2, td))) := rfl
  have hT : (((j_X2_isNone a1) = 0 → (((j_X2_isNone a2) = 0 → (((j_stR (0 : Int32) (0 : Int32)) = 0 → (vp_in a1 8 ∧ (vp_in a2 8 ∧ (((g a1.toNatClampNeg) = (g a2.toNatClampNeg) → True) ∧ (¬ ((g a1.toNatClampNeg) = (g a2.toNatClampNeg)) → True))))) ∧ (¬ ((j_stR (0 : Int32) (0 : Int32)) = 0) → True))) ∧ (¬ ((j_X2_isNone a2) = 0) → (((j_stR (1 : Int32) (0 : Int32)) = 0 → (vp_in a1 8 ∧ (vp_in a2 8 ∧ (((g a1.toNatClampNeg) = (g a2.toNatClampNeg) → True) ∧ (¬ ((g a1.toNatClampNeg) = (g a2.toNatClampNeg)) → True))))) ∧ (¬ ((j_stR (1 : Int32) (0 : Int32)) = 0) → True))))) ∧ (¬ ((j_X2_isNone a1) = 0) → (((j_stR (1 : Int32) (0 : Int32)) = 0 → (vp_in a1 8 ∧ (vp_in a2 8 ∧ (((g a1.toNatClampNeg) = (g a2.toNatClampNeg) → True) ∧ (¬ ((g a1.toNatClampNeg) = (g a2.toNatClampNeg)) → True))))) ∧ (¬ ((j_stR (1 : Int32) (0 : Int32)) = 0) → True)))) := hT9
  refine lv_aload_n hx hb dX2_areAlike_0 rfl (lv_at hl 0 rfl) ?_
  refine lv_iload_n hx hb dX2_areAlike_1 rfl (lv_at hl 1 rfl) ?_
  refine k_pS [.int a1] (rest := [.ref y]) ⟨hx, hb, hml, hown, hts⟩ (c_X2_isNone l D cB cJ _ a1) (va_cwS 1 hts gX2_areAlike_X2_isNone rfl rfl rfl (by decide +kernel) ⟨(Nat.le_of_ble_eq_true rfl), (Nat.le_of_ble_eq_true rfl)⟩) hE hS rfl rfl hl.1 (Nat.le_of_ble_eq_true rfl) dX2_areAlike_2 ⟨(Nat.le_of_ble_eq_true rfl), (Nat.le_of_ble_eq_true rfl)⟩ (fun locs hS => ?_)
  refine W.eq (g2 := F0 m 5 ls [.int (j_X2_isNone a1), .ref y]) rfl ?_
  refine lv_if_ne (tgt := 15) hx hb dX2_areAlike_5 (by decide) (fun c_1 => ?_) (fun c_1 => ?_)
  · refine lv_iconst (v := 1) hx hb dX2_areAlike_15 (by decide) ?_
    refine lv_goto (tgt := 20) hx hb dX2_areAlike_16 (by decide) ?_
    refine lv_iconst (v := 0) hx hb dX2_areAlike_20 (by decide) ?_
    have hFc := va_free (wc := [(y, .inr (4, [.int th, .ref n2, .int kn2, .int td])), (n2, .inl (cJ, 8, .inr (.inl g)))]) hD hS hA [0, 1] rfl
    refine k_go (va_runV (As := [.int 1, .int 0]) (rest := []) ⟨hx, hb, hml, hown, hts⟩ (cq_X2_isStopped l D cB cJ _ y n2 th g kn2 td hP (hD.weaken (fun _ _ _ _ => trivial)) (1 : Int32) (0 : Int32)) (cwV 2 hts gX2_areAlike_X2_isStopped rfl rfl rfl (by decide +kernel) ⟨(Nat.le_of_ble_eq_true rfl), (Nat.le_of_ble_eq_true rfl)⟩) (k_preV hE hS hFc (va_recv hK hP (ci := 4) (q0 := 0) rfl rfl)) rfl rfl hl.1 rfl (lv_room (Nat.le_of_ble_eq_true rfl)) dX2_areAlike_21 ⟨(Nat.le_of_ble_eq_true rfl), (Nat.le_of_ble_eq_true rfl)⟩) hS (fun q _ h => hFc q h) hFc (fun v H locs hp hz hk hS => ?_)
    obtain ⟨rfl, hP1, hD1⟩ := hp
    (try dsimp only at hP1 hD1)
    have hP : va_P D vwCl [(y, .inr (4, [.int (j_stT (1 : Int32) (0 : Int32)), .ref n2, .int kn2, .int td])), (n2, .inl (cJ, 8, .inr (.inl g)))] H := hP1
    have hD : va_D A [(y, .inr (4, [.int (j_stT (1 : Int32) (0 : Int32)), .ref n2, .int kn2, .int td])), (n2, .inl (cJ, 8, .inr (.inl g)))] := hD1.weaken (fun _ q _ h => hFc q.1 h)
    refine W.eq (g2 := F0 m 24 ls [.int (j_stR (1 : Int32) (0 : Int32))]) rfl ?_
    refine lv_if_ne (tgt := 47) hx hb dX2_areAlike_24 (by decide) (fun c_2 => ?_) (fun c_2 => ?_)
    · refine lv_iconst (v := 0) hx hb dX2_areAlike_47 (by decide) ?_
      exact k_zret hx hb hr (Or.inl rfl) hlocks hS dX2_areAlike_48 ⟨by rw [hJ, if_neg c_1, if_neg c_2], by rw [hJ, if_neg c_1, if_neg c_2]; (try dsimp only); exact hP, by rw [hJ, if_neg c_1, if_neg c_2]; (try dsimp only); exact hD⟩
    · refine lv_aload_n hx hb dX2_areAlike_27 rfl (lv_at hl 0 rfl) ?_
      refine va_get (D := D) (ci := 4) (v := .ref n2) (C := RX2) (T := TX2) (N := 4) hx hb hts iw_X2_areAlike_X2 hown hK hP 0 rfl rfl 1 (by decide) (hts (.fieldLink RX2 9 "ClocksoloModel" "its" "[J") (by decide +kernel)) (fun _ h9 => h9) rfl dX2_areAlike_28 ?_
      refine lv_iload_n hx hb dX2_areAlike_31 rfl (lv_at hl 1 rfl) ?_
      refine va_lald hx hb hK hP 1 1 rfl rfl ((hT.2 c_1).1 c_2).1 dX2_areAlike_32 ?_
      refine lv_aload_n hx hb dX2_areAlike_33 rfl (lv_at hl 0 rfl) ?_
      refine va_get (D := D) (ci := 4) (v := .ref n2) (C := RX2) (T := TX2) (N := 4) hx hb hts iw_X2_areAlike_X2 hown hK hP 0 rfl rfl 1 (by decide) (hts (.fieldLink RX2 9 "ClocksoloModel" "its" "[J") (by decide +kernel)) (fun _ h9 => h9) rfl dX2_areAlike_34 ?_
      refine lv_iload_n hx hb dX2_areAlike_37 rfl (lv_at hl 2 rfl) ?_
      refine va_lald hx hb hK hP 1 1 rfl rfl ((hT.2 c_1).1 c_2).2.1 dX2_areAlike_38 ?_
      refine kl_ne (tgt := 47) hx hb dX2_areAlike_39 dX2_areAlike_40 (by decide) (fun c_3 => ?_) (fun c_3 => ?_)
      · refine lv_iconst (v := 0) hx hb dX2_areAlike_47 (by decide) ?_
        exact k_zret hx hb hr (Or.inl rfl) hlocks hS dX2_areAlike_48 ⟨by rw [hJ, if_neg c_1, if_pos c_2, if_neg c_3], by rw [hJ, if_neg c_1, if_pos c_2, if_neg c_3]; (try dsimp only); exact hP, by rw [hJ, if_neg c_1, if_pos c_2, if_neg c_3]; (try dsimp only); exact hD⟩
      · refine lv_iconst (v := 1) hx hb dX2_areAlike_43 (by decide) ?_
        refine lv_goto (tgt := 48) hx hb dX2_areAlike_44 (by decide) ?_
        exact k_zret hx hb hr (Or.inr rfl) hlocks hS dX2_areAlike_48 ⟨by rw [hJ, if_neg c_1, if_pos c_2, if_pos c_3], by rw [hJ, if_neg c_1, if_pos c_2, if_pos c_3]; (try dsimp only); exact hP, by rw [hJ, if_neg c_1, if_pos c_2, if_pos c_3]; (try dsimp only); exact hD⟩
  · refine lv_iload_n hx hb dX2_areAlike_8 rfl (lv_at hl 2 rfl) ?_
    refine k_pS [.int a2] (rest := [.ref y]) ⟨hx, hb, hml, hown, hts⟩ (c_X2_isNone l D cB cJ _ a2) (va_cwS 1 hts gX2_areAlike_X2_isNone rfl rfl rfl (by decide +kernel) ⟨(Nat.le_of_ble_eq_true rfl), (Nat.le_of_ble_eq_true rfl)⟩) hE hS rfl rfl hl.1 (Nat.le_of_ble_eq_true rfl) dX2_areAlike_9 ⟨(Nat.le_of_ble_eq_true rfl), (Nat.le_of_ble_eq_true rfl)⟩ (fun locs hS => ?_)
    refine W.eq (g2 := F0 m 12 ls [.int (j_X2_isNone a2), .ref y]) rfl ?_
    refine lv_if_eq (tgt := 19) hx hb dX2_areAlike_12 (by decide) (fun c_4 => ?_) (fun c_4 => ?_)
    · refine lv_iconst (v := 0) hx hb dX2_areAlike_19 (by decide) ?_
      refine lv_iconst (v := 0) hx hb dX2_areAlike_20 (by decide) ?_
      have hFc := va_free (wc := [(y, .inr (4, [.int th, .ref n2, .int kn2, .int td])), (n2, .inl (cJ, 8, .inr (.inl g)))]) hD hS hA [0, 1] rfl
      refine k_go (va_runV (As := [.int 0, .int 0]) (rest := []) ⟨hx, hb, hml, hown, hts⟩ (cq_X2_isStopped l D cB cJ _ y n2 th g kn2 td hP (hD.weaken (fun _ _ _ _ => trivial)) (0 : Int32) (0 : Int32)) (cwV 2 hts gX2_areAlike_X2_isStopped rfl rfl rfl (by decide +kernel) ⟨(Nat.le_of_ble_eq_true rfl), (Nat.le_of_ble_eq_true rfl)⟩) (k_preV hE hS hFc (va_recv hK hP (ci := 4) (q0 := 0) rfl rfl)) rfl rfl hl.1 rfl (lv_room (Nat.le_of_ble_eq_true rfl)) dX2_areAlike_21 ⟨(Nat.le_of_ble_eq_true rfl), (Nat.le_of_ble_eq_true rfl)⟩) hS (fun q _ h => hFc q h) hFc (fun v H locs hp hz hk hS => ?_)
      obtain ⟨rfl, hP1, hD1⟩ := hp
      (try dsimp only at hP1 hD1)
      have hP : va_P D vwCl [(y, .inr (4, [.int (j_stT (0 : Int32) (0 : Int32)), .ref n2, .int kn2, .int td])), (n2, .inl (cJ, 8, .inr (.inl g)))] H := hP1
      have hD : va_D A [(y, .inr (4, [.int (j_stT (0 : Int32) (0 : Int32)), .ref n2, .int kn2, .int td])), (n2, .inl (cJ, 8, .inr (.inl g)))] := hD1.weaken (fun _ q _ h => hFc q.1 h)
      refine W.eq (g2 := F0 m 24 ls [.int (j_stR (0 : Int32) (0 : Int32))]) rfl ?_
      refine lv_if_ne (tgt := 47) hx hb dX2_areAlike_24 (by decide) (fun c_5 => ?_) (fun c_5 => ?_)
      · refine lv_iconst (v := 0) hx hb dX2_areAlike_47 (by decide) ?_
        exact k_zret hx hb hr (Or.inl rfl) hlocks hS dX2_areAlike_48 ⟨by rw [hJ, if_pos c_1, if_pos c_4, if_neg c_5], by rw [hJ, if_pos c_1, if_pos c_4, if_neg c_5]; (try dsimp only); exact hP, by rw [hJ, if_pos c_1, if_pos c_4, if_neg c_5]; (try dsimp only); exact hD⟩
      · refine lv_aload_n hx hb dX2_areAlike_27 rfl (lv_at hl 0 rfl) ?_
        refine va_get (D := D) (ci := 4) (v := .ref n2) (C := RX2) (T := TX2) (N := 4) hx hb hts iw_X2_areAlike_X2 hown hK hP 0 rfl rfl 1 (by decide) (hts (.fieldLink RX2 9 "ClocksoloModel" "its" "[J") (by decide +kernel)) (fun _ h9 => h9) rfl dX2_areAlike_28 ?_
        refine lv_iload_n hx hb dX2_areAlike_31 rfl (lv_at hl 1 rfl) ?_
        refine va_lald hx hb hK hP 1 1 rfl rfl (((hT.1 c_1).1 c_4).1 c_5).1 dX2_areAlike_32 ?_
        refine lv_aload_n hx hb dX2_areAlike_33 rfl (lv_at hl 0 rfl) ?_
        refine va_get (D := D) (ci := 4) (v := .ref n2) (C := RX2) (T := TX2) (N := 4) hx hb hts iw_X2_areAlike_X2 hown hK hP 0 rfl rfl 1 (by decide) (hts (.fieldLink RX2 9 "ClocksoloModel" "its" "[J") (by decide +kernel)) (fun _ h9 => h9) rfl dX2_areAlike_34 ?_
        refine lv_iload_n hx hb dX2_areAlike_37 rfl (lv_at hl 2 rfl) ?_
        refine va_lald hx hb hK hP 1 1 rfl rfl (((hT.1 c_1).1 c_4).1 c_5).2.1 dX2_areAlike_38 ?_
        refine kl_ne (tgt := 47) hx hb dX2_areAlike_39 dX2_areAlike_40 (by decide) (fun c_6 => ?_) (fun c_6 => ?_)
        · refine lv_iconst (v := 0) hx hb dX2_areAlike_47 (by decide) ?_
          exact k_zret hx hb hr (Or.inl rfl) hlocks hS dX2_areAlike_48 ⟨by rw [hJ, if_pos c_1, if_pos c_4, if_pos c_5, if_neg c_6], by rw [hJ, if_pos c_1, if_pos c_4, if_pos c_5, if_neg c_6]; (try dsimp only); exact hP, by rw [hJ, if_pos c_1, if_pos c_4, if_pos c_5, if_neg c_6]; (try dsimp only); exact hD⟩
        · refine lv_iconst (v := 1) hx hb dX2_areAlike_43 (by decide) ?_
          refine lv_goto (tgt := 48) hx hb dX2_areAlike_44 (by decide) ?_
          exact k_zret hx hb hr (Or.inr rfl) hlocks hS dX2_areAlike_48 ⟨by rw [hJ, if_pos c_1, if_pos c_4, if_pos c_5, if_pos c_6], by rw [hJ, if_pos c_1, if_pos c_4, if_pos c_5, if_pos c_6]; (try dsimp only); exact hP, by rw [hJ, if_pos c_1, if_pos c_4, if_pos c_5, if_pos c_6]; (try dsimp only); exact hD⟩
    · refine lv_iconst (v := 1) hx hb dX2_areAlike_15 (by decide) ?_
      refine lv_goto (tgt := 20) hx hb dX2_areAlike_16 (by decide) ?_
      refine lv_iconst (v := 0) hx hb dX2_areAlike_20 (by decide) ?_
      have hFc := va_free (wc := [(y, .inr (4, [.int th, .ref n2, .int kn2, .int td])), (n2, .inl (cJ, 8, .inr (.inl g)))]) hD hS hA [0, 1] rfl
      refine k_go (va_runV (As := [.int 1, .int 0]) (rest := []) ⟨hx, hb, hml, hown, hts⟩ (cq_X2_isStopped l D cB cJ _ y n2 th g kn2 td hP (hD.weaken (fun _ _ _ _ => trivial)) (1 : Int32) (0 : Int32)) (cwV 2 hts gX2_areAlike_X2_isStopped rfl rfl rfl (by decide +kernel) ⟨(Nat.le_of_ble_eq_true rfl), (Nat.le_of_ble_eq_true rfl)⟩) (k_preV hE hS hFc (va_recv hK hP (ci := 4) (q0 := 0) rfl rfl)) rfl rfl hl.1 rfl (lv_room (Nat.le_of_ble_eq_true rfl)) dX2_areAlike_21 ⟨(Nat.le_of_ble_eq_true rfl), (Nat.le_of_ble_eq_true rfl)⟩) hS (fun q _ h => hFc q h) hFc (fun v H locs hp hz hk hS => ?_)
      obtain ⟨rfl, hP1, hD1⟩ := hp
      (try dsimp only at hP1 hD1)
      have hP : va_P D vwCl [(y, .inr (4, [.int (j_stT (1 : Int32) (0 : Int32)), .ref n2, .int kn2, .int td])), (n2, .inl (cJ, 8, .inr (.inl g)))] H := hP1
      have hD : va_D A [(y, .inr (4, [.int (j_stT (1 : Int32) (0 : Int32)), .ref n2, .int kn2, .int td])), (n2, .inl (cJ, 8, .inr (.inl g)))] := hD1.weaken (fun _ q _ h => hFc q.1 h)
      refine W.eq (g2 := F0 m 24 ls [.int (j_stR (1 : Int32) (0 : Int32))]) rfl ?_
      refine lv_if_ne (tgt := 47) hx hb dX2_areAlike_24 (by decide) (fun c_7 => ?_) (fun c_7 => ?_)
      · refine lv_iconst (v := 0) hx hb dX2_areAlike_47 (by decide) ?_
        exact k_zret hx hb hr (Or.inl rfl) hlocks hS dX2_areAlike_48 ⟨by rw [hJ, if_pos c_1, if_neg c_4, if_neg c_7], by rw [hJ, if_pos c_1, if_neg c_4, if_neg c_7]; (try dsimp only); exact hP, by rw [hJ, if_pos c_1, if_neg c_4, if_neg c_7]; (try dsimp only); exact hD⟩
      · refine lv_aload_n hx hb dX2_areAlike_27 rfl (lv_at hl 0 rfl) ?_
        refine va_get (D := D) (ci := 4) (v := .ref n2) (C := RX2) (T := TX2) (N := 4) hx hb hts iw_X2_areAlike_X2 hown hK hP 0 rfl rfl 1 (by decide) (hts (.fieldLink RX2 9 "ClocksoloModel" "its" "[J") (by decide +kernel)) (fun _ h9 => h9) rfl dX2_areAlike_28 ?_
        refine lv_iload_n hx hb dX2_areAlike_31 rfl (lv_at hl 1 rfl) ?_
        refine va_lald hx hb hK hP 1 1 rfl rfl (((hT.1 c_1).2 c_4).1 c_7).1 dX2_areAlike_32 ?_
        refine lv_aload_n hx hb dX2_areAlike_33 rfl (lv_at hl 0 rfl) ?_
        refine va_get (D := D) (ci := 4) (v := .ref n2) (C := RX2) (T := TX2) (N := 4) hx hb hts iw_X2_areAlike_X2 hown hK hP 0 rfl rfl 1 (by decide) (hts (.fieldLink RX2 9 "ClocksoloModel" "its" "[J") (by decide +kernel)) (fun _ h9 => h9) rfl dX2_areAlike_34 ?_
        refine lv_iload_n hx hb dX2_areAlike_37 rfl (lv_at hl 2 rfl) ?_
        refine va_lald hx hb hK hP 1 1 rfl rfl (((hT.1 c_1).2 c_4).1 c_7).2.1 dX2_areAlike_38 ?_
        refine kl_ne (tgt := 47) hx hb dX2_areAlike_39 dX2_areAlike_40 (by decide) (fun c_8 => ?_) (fun c_8 => ?_)
        · refine lv_iconst (v := 0) hx hb dX2_areAlike_47 (by decide) ?_
          exact k_zret hx hb hr (Or.inl rfl) hlocks hS dX2_areAlike_48 ⟨by rw [hJ, if_pos c_1, if_neg c_4, if_pos c_7, if_neg c_8], by rw [hJ, if_pos c_1, if_neg c_4, if_pos c_7, if_neg c_8]; (try dsimp only); exact hP, by rw [hJ, if_pos c_1, if_neg c_4, if_pos c_7, if_neg c_8]; (try dsimp only); exact hD⟩
        · refine lv_iconst (v := 1) hx hb dX2_areAlike_43 (by decide) ?_
          refine lv_goto (tgt := 48) hx hb dX2_areAlike_44 (by decide) ?_
          exact k_zret hx hb hr (Or.inr rfl) hlocks hS dX2_areAlike_48 ⟨by rw [hJ, if_pos c_1, if_neg c_4, if_pos c_7, if_pos c_8], by rw [hJ, if_pos c_1, if_neg c_4, if_pos c_7, if_pos c_8]; (try dsimp only); exact hP, by rw [hJ, if_pos c_1, if_neg c_4, if_pos c_7, if_pos c_8]; (try dsimp only); exact hD⟩
abbrev rm_X2_knock : Room := { frames := 0, cells := 0, slots := 0, locals := 0 }
theorem iw_X2_knock_X2 : ∀ w ∈ wsX20, w ∈ wsX2_knock := by decide +kernel
def j_X2_knock (th : Int32) (g : Nat → Int64) (kn2 td : Int32)  : Int32 × Int32 × (Nat → Int64) × Int32 × Int32 := ((kn2 + 1), 0, g, (kn2 + 1), td)
set_option maxHeartbeats 4000000 in
set_option maxRecDepth 100000 in
theorem c_X2_knock (l : Launch) (D : va_G) (cB cJ : ClassId) (Hp : Heap) (y n2 : Nat) (th : Int32) (g : Nat → Int64) (kn2 td : Int32) (hP : va_P D vwCl (wMo y n2 cJ th g kn2 td) Hp) (hD9 : va_D (fun _ => True) (wMo y n2 cJ th g kn2 td))  : kM l D cB cJ yX2_knock wsX2_knock rm_X2_knock (va_A (wMo y n2 cJ th g kn2 td) Hp.size) Hp [.ref y] (kPm D y n2 cJ (va_A (wMo y n2 cJ th g kn2 td) Hp.size) (j_X2_knock th g kn2 td )) 0 0 := by
  refine Met.ofW (cc := cX2_knock) (maxL := 1) (ret := (some .int)) (by decide) rfl ?_
  intro p e s m args below meth c s₁ B hml hv
  obtain ⟨rfl, hHp, hE⟩ := hv
  subst hHp
  have hx := B.exec
  have hb := B.bytes
  have hr := B.returns
  have hts := atoms_spec (ws := wsX2_knock) B.pre
  have hown : s.vm.findClass RX2 = some m.cls := findClass_of_methodNamed B.named
  have hlocks := B.notSynchronized
  have hK := hE.1
  have hD := hD9.self (sz := s.heap.size)
  generalize hAe : va_A (wMo y n2 cJ th g kn2 td) s.heap.size = A at hE hD ⊢
  have hA : ∀ q : Nat, s.heap.size ≤ q → A q := fun q h => by rw [← hAe]; exact Or.inr h
  have hS : va_S A s.heap s.heap [] := va_S.rf
  have hl := lv_entry ([.ref y]) (n := 1) (Nat.le_of_ble_eq_true rfl)
  rw [lg_entry_eq]
  generalize (lg_sl ([.ref y]) ++ List.replicate (1 - (lg_sl ([.ref y])).length) Slot.unset).toArray = ls at hl ⊢
  have hl : lv_has ls 1 [(0, .ref y)] := hl
  have hJ : (j_X2_knock th g kn2 td ) = ((kn2 + 1), 0, g, (kn2 + 1), td) := rfl
  refine lv_aload_n hx hb dX2_knock_0 rfl (lv_at hl 0 rfl) ?_
  refine lv_iconst (v := 0) hx hb dX2_knock_1 (by decide) ?_
  refine va_put (D := D) (ci := 4) (v := .int 0) (ty := .int) (C := RX2) (T := TX2) (N := 4) hx hb hts iw_X2_knock_X2 tyX2 tyX2_ok nmX2 hown hK hP hD hS 0 rfl rfl 0 (by decide) (hts (.fieldLink RX2 13 "ClocksoloModel" "thrown" "I") (by decide +kernel)) (fun _ h9 => h9) rfl (by decide +kernel) rfl rfl (Nat.le_of_ble_eq_true rfl) dX2_knock_2 (fun H locs hP hD hS => ?_)
  have hP : va_P D vwCl [(y, .inr (4, [.int 0, .ref n2, .int kn2, .int td])), (n2, .inl (cJ, 8, .inr (.inl g)))] H := hP
  have hD : va_D A [(y, .inr (4, [.int 0, .ref n2, .int kn2, .int td])), (n2, .inl (cJ, 8, .inr (.inl g)))] := hD
  refine lv_aload_n hx hb dX2_knock_5 rfl (lv_at hl 0 rfl) ?_
  refine lv_dup hx hb dX2_knock_6 rfl ?_
  refine va_get (D := D) (ci := 4) (v := .int kn2) (C := RX2) (T := TX2) (N := 4) hx hb hts iw_X2_knock_X2 hown hK hP 0 rfl rfl 2 (by decide) (hts (.fieldLink RX2 117 "ClocksoloModel" "knocks" "I") (by decide +kernel)) (fun _ h9 => h9) rfl dX2_knock_7 ?_
  refine lv_iconst (v := 1) hx hb dX2_knock_10 (by decide) ?_
  refine lv_iadd hx hb dX2_knock_11 ?_
  refine va_put (D := D) (ci := 4) (v := .int (kn2 + 1)) (ty := .int) (C := RX2) (T := TX2) (N := 4) hx hb hts iw_X2_knock_X2 tyX2 tyX2_ok nmX2 hown hK hP hD hS 0 rfl rfl 2 (by decide) (hts (.fieldLink RX2 117 "ClocksoloModel" "knocks" "I") (by decide +kernel)) (fun _ h9 => h9) rfl (by decide +kernel) rfl rfl (Nat.le_of_ble_eq_true rfl) dX2_knock_12 (fun H locs hP hD hS => ?_)
  have hP : va_P D vwCl [(y, .inr (4, [.int 0, .ref n2, .int (kn2 + 1), .int td])), (n2, .inl (cJ, 8, .inr (.inl g)))] H := hP
  have hD : va_D A [(y, .inr (4, [.int 0, .ref n2, .int (kn2 + 1), .int td])), (n2, .inl (cJ, 8, .inr (.inl g)))] := hD
  refine lv_aload_n hx hb dX2_knock_15 rfl (lv_at hl 0 rfl) ?_
  refine va_get (D := D) (ci := 4) (v := .int (kn2 + 1)) (C := RX2) (T := TX2) (N := 4) hx hb hts iw_X2_knock_X2 hown hK hP 0 rfl rfl 2 (by decide) (hts (.fieldLink RX2 117 "ClocksoloModel" "knocks" "I") (by decide +kernel)) (fun _ h9 => h9) rfl dX2_knock_16 ?_
  exact k_iret hx hb hr hlocks hS dX2_knock_19 ⟨by rw [hJ], by rw [hJ]; (try dsimp only); exact hP, by rw [hJ]; (try dsimp only); exact hD⟩
abbrev rm_X2_house : Room := { frames := 1, cells := 0, slots := 0, locals := 22 }
theorem iw_X2_house_X2 : ∀ w ∈ wsX20, w ∈ wsX2_house := by decide +kernel
def j_X2_house (th : Int32) (g : Nat → Int64) (kn2 td : Int32) (a1 : Int32) : Int32 × Int32 × (Nat → Int64) × Int32 × Int32 := (if (j_stR (0 : Int32) (0 : Int32)) = 0 then (if (j_X2_isIn a1 0 1) = 0 then (0, 1, g, kn2, td) else (if a1 = 0 then (kn2, (j_stT (0 : Int32) (0 : Int32)), g, kn2, td) else (td, (j_stT (0 : Int32) (0 : Int32)), g, kn2, td))) else (0, (j_stT (0 : Int32) (0 : Int32)), g, kn2, td))
set_option maxHeartbeats 4000000 in
set_option maxRecDepth 100000 in
theorem c_X2_house (l : Launch) (D : va_G) (cB cJ : ClassId) (Hp : Heap) (y n2 : Nat) (th : Int32) (g : Nat → Int64) (kn2 td : Int32) (hP : va_P D vwCl (wMo y n2 cJ th g kn2 td) Hp) (hD9 : va_D (fun _ => True) (wMo y n2 cJ th g kn2 td)) (a1 : Int32) : kM l D cB cJ yX2_house wsX2_house rm_X2_house (va_A (wMo y n2 cJ th g kn2 td) Hp.size) Hp [.ref y, .int a1] (kPm D y n2 cJ (va_A (wMo y n2 cJ th g kn2 td) Hp.size) (j_X2_house th g kn2 td a1)) 0 0 := by
  refine Met.ofW (cc := cX2_house) (maxL := 2) (ret := (some .int)) (by decide) rfl ?_
  intro p e s m args below meth c s₁ B hml hv
  obtain ⟨rfl, hHp, hE⟩ := hv
  subst hHp
  have hx := B.exec
  have hb := B.bytes
  have hr := B.returns
  have hts := atoms_spec (ws := wsX2_house) B.pre
  have hown : s.vm.findClass RX2 = some m.cls := findClass_of_methodNamed B.named
  have hlocks := B.notSynchronized
  have hK := hE.1
  have hD := hD9.self (sz := s.heap.size)
  generalize hAe : va_A (wMo y n2 cJ th g kn2 td) s.heap.size = A at hE hD ⊢
  have hA : ∀ q : Nat, s.heap.size ≤ q → A q := fun q h => by rw [← hAe]; exact Or.inr h
  have hS : va_S A s.heap s.heap [] := va_S.rf
  have hl := lv_entry ([.ref y, .int a1]) (n := 2) (Nat.le_of_ble_eq_true rfl)
  rw [lg_entry_eq]
  generalize (lg_sl ([.ref y, .int a1]) ++ List.replicate (2 - (lg_sl ([.ref y, .int a1])).length) Slot.unset).toArray = ls at hl ⊢
  have hl : lv_has ls 2 [(0, .ref y), (1, .int a1)] := hl
  have hJ : (j_X2_house th g kn2 td a1) = (if (j_stR (0 : Int32) (0 : Int32)) = 0 then (if (j_X2_isIn a1 0 1) = 0 then (0, 1, g, kn2, td) else (if a1 = 0 then (kn2, (j_stT (0 : Int32) (0 : Int32)), g, kn2, td) else (td, (j_stT (0 : Int32) (0 : Int32)), g, kn2, td))) else (0, (j_stT (0 : Int32) (0 : Int32)), g, kn2, td)) := rfl
  refine lv_aload_n hx hb dX2_house_0 rfl (lv_at hl 0 rfl) ?_
  refine lv_iconst (v := 0) hx hb dX2_house_1 (by decide) ?_
  refine lv_iconst (v := 0) hx hb dX2_house_2 (by decide) ?_
  have hFc := va_free (wc := [(y, .inr (4, [.int th, .ref n2, .int kn2, .int td])), (n2, .inl (cJ, 8, .inr (.inl g)))]) hD hS hA [0, 1] rfl
  refine k_go (va_runV (As := [.int 0, .int 0]) (rest := []) ⟨hx, hb, hml, hown, hts⟩ (cq_X2_isStopped l D cB cJ _ y n2 th g kn2 td hP (hD.weaken (fun _ _ _ _ => trivial)) (0 : Int32) (0 : Int32)) (cwV 2 hts gX2_house_X2_isStopped rfl rfl rfl (by decide +kernel) ⟨(Nat.le_of_ble_eq_true rfl), (Nat.le_of_ble_eq_true rfl)⟩) (k_preV hE hS hFc (va_recv hK hP (ci := 4) (q0 := 0) rfl rfl)) rfl rfl hl.1 rfl (lv_room (Nat.le_of_ble_eq_true rfl)) dX2_house_3 ⟨(Nat.le_of_ble_eq_true rfl), (Nat.le_of_ble_eq_true rfl)⟩) hS (fun q _ h => hFc q h) hFc (fun v H locs hp hz hk hS => ?_)
  obtain ⟨rfl, hP1, hD1⟩ := hp
  (try dsimp only at hP1 hD1)
  have hP : va_P D vwCl [(y, .inr (4, [.int (j_stT (0 : Int32) (0 : Int32)), .ref n2, .int kn2, .int td])), (n2, .inl (cJ, 8, .inr (.inl g)))] H := hP1
  have hD : va_D A [(y, .inr (4, [.int (j_stT (0 : Int32) (0 : Int32)), .ref n2, .int kn2, .int td])), (n2, .inl (cJ, 8, .inr (.inl g)))] := hD1.weaken (fun _ q _ h => hFc q.1 h)
  refine W.eq (g2 := F0 m 6 ls [.int (j_stR (0 : Int32) (0 : Int32))]) rfl ?_
  refine lv_if_ne (tgt := 25) hx hb dX2_house_6 (by decide) (fun c_1 => ?_) (fun c_1 => ?_)
  · refine lv_iconst (v := 0) hx hb dX2_house_25 (by decide) ?_
    refine lv_goto (tgt := 44) hx hb dX2_house_26 (by decide) ?_
    exact k_iret hx hb hr hlocks hS dX2_house_44 ⟨by rw [hJ, if_neg c_1], by rw [hJ, if_neg c_1]; (try dsimp only); exact hP, by rw [hJ, if_neg c_1]; (try dsimp only); exact hD⟩
  · refine lv_iload_n hx hb dX2_house_9 rfl (lv_at hl 1 rfl) ?_
    refine lv_iconst (v := 0) hx hb dX2_house_10 (by decide) ?_
    refine lv_iconst (v := 1) hx hb dX2_house_11 (by decide) ?_
    refine k_pS [.int a1, .int 0, .int 1] (rest := []) ⟨hx, hb, hml, hown, hts⟩ (c_X2_isIn l D cB cJ _ a1 0 1) (va_cwS 3 hts gX2_house_X2_isIn rfl rfl rfl (by decide +kernel) ⟨(Nat.le_of_ble_eq_true rfl), (Nat.le_of_ble_eq_true rfl)⟩) hE hS rfl rfl hl.1 (Nat.le_of_ble_eq_true rfl) dX2_house_12 ⟨(Nat.le_of_ble_eq_true rfl), (Nat.le_of_ble_eq_true rfl)⟩ (fun locs hS => ?_)
    refine W.eq (g2 := F0 m 15 ls [.int (j_X2_isIn a1 0 1)]) rfl ?_
    refine lv_if_ne (tgt := 29) hx hb dX2_house_15 (by decide) (fun c_2 => ?_) (fun c_2 => ?_)
    · refine lv_iload_n hx hb dX2_house_29 rfl (lv_at hl 1 rfl) ?_
      refine lv_if_ne (tgt := 40) hx hb dX2_house_30 (by decide) (fun c_3 => ?_) (fun c_3 => ?_)
      · refine lv_aload_n hx hb dX2_house_40 rfl (lv_at hl 0 rfl) ?_
        refine va_get (D := D) (ci := 4) (v := .int td) (C := RX2) (T := TX2) (N := 4) hx hb hts iw_X2_house_X2 hown hK hP 0 rfl rfl 3 (by decide) (hts (.fieldLink RX2 35 "ClocksoloModel" "told" "I") (by decide +kernel)) (fun _ h9 => h9) rfl dX2_house_41 ?_
        exact k_iret hx hb hr hlocks hS dX2_house_44 ⟨by rw [hJ, if_pos c_1, if_neg c_2, if_neg c_3], by rw [hJ, if_pos c_1, if_neg c_2, if_neg c_3]; (try dsimp only); exact hP, by rw [hJ, if_pos c_1, if_neg c_2, if_neg c_3]; (try dsimp only); exact hD⟩
      · refine lv_aload_n hx hb dX2_house_33 rfl (lv_at hl 0 rfl) ?_
        refine va_get (D := D) (ci := 4) (v := .int kn2) (C := RX2) (T := TX2) (N := 4) hx hb hts iw_X2_house_X2 hown hK hP 0 rfl rfl 2 (by decide) (hts (.fieldLink RX2 117 "ClocksoloModel" "knocks" "I") (by decide +kernel)) (fun _ h9 => h9) rfl dX2_house_34 ?_
        refine lv_goto (tgt := 44) hx hb dX2_house_37 (by decide) ?_
        exact k_iret hx hb hr hlocks hS dX2_house_44 ⟨by rw [hJ, if_pos c_1, if_neg c_2, if_pos c_3], by rw [hJ, if_pos c_1, if_neg c_2, if_pos c_3]; (try dsimp only); exact hP, by rw [hJ, if_pos c_1, if_neg c_2, if_pos c_3]; (try dsimp only); exact hD⟩
    · refine lv_aload_n hx hb dX2_house_18 rfl (lv_at hl 0 rfl) ?_
      have hFc := va_free (wc := [(y, .inr (4, [.int (j_stT (0 : Int32) (0 : Int32)), .ref n2, .int kn2, .int td])), (n2, .inl (cJ, 8, .inr (.inl g)))]) hD hS hA [0, 1] rfl
      refine k_go (va_runV (As := []) (rest := []) ⟨hx, hb, hml, hown, hts⟩ (cq_X2_refused l D cB cJ _ y n2 (j_stT (0 : Int32) (0 : Int32)) g kn2 td hP (hD.weaken (fun _ _ _ _ => trivial))) (cwV 0 hts gX2_house_X2_refused rfl rfl rfl (by decide +kernel) ⟨(Nat.le_of_ble_eq_true rfl), (Nat.le_of_ble_eq_true rfl)⟩) (k_preV hE hS hFc (va_recv hK hP (ci := 4) (q0 := 0) rfl rfl)) rfl rfl hl.1 rfl (lv_room (Nat.le_of_ble_eq_true rfl)) dX2_house_19 ⟨(Nat.le_of_ble_eq_true rfl), (Nat.le_of_ble_eq_true rfl)⟩) hS (fun q _ h => hFc q h) hFc (fun v H locs hp hz hk hS => ?_)
      obtain ⟨rfl, hP1, hD1⟩ := hp
      (try dsimp only at hP1 hD1)
      have hP : va_P D vwCl [(y, .inr (4, [.int 1, .ref n2, .int kn2, .int td])), (n2, .inl (cJ, 8, .inr (.inl g)))] H := hP1
      have hD : va_D A [(y, .inr (4, [.int 1, .ref n2, .int kn2, .int td])), (n2, .inl (cJ, 8, .inr (.inl g)))] := hD1.weaken (fun _ q _ h => hFc q.1 h)
      refine W.eq (g2 := F0 m 22 ls [.int 1]) rfl ?_
      refine lv_if_eq (tgt := 29) hx hb dX2_house_22 (by decide) (fun c_4 => ?_) (fun c_4 => ?_)
      · exact absurd c_4 (by decide)
      · refine lv_iconst (v := 0) hx hb dX2_house_25 (by decide) ?_
        refine lv_goto (tgt := 44) hx hb dX2_house_26 (by decide) ?_
        exact k_iret hx hb hr hlocks hS dX2_house_44 ⟨by rw [hJ, if_pos c_1, if_pos c_2], by rw [hJ, if_pos c_1, if_pos c_2]; (try dsimp only); exact hP, by rw [hJ, if_pos c_1, if_pos c_2]; (try dsimp only); exact hD⟩
abbrev rm_X2_isSound : Room := { frames := 0, cells := 0, slots := 0, locals := 0 }
theorem iw_X2_isSound_X2 : ∀ w ∈ wsX20, w ∈ wsX2_isSound := by decide +kernel
def j_X2_isSound (th : Int32) (g : Nat → Int64) (kn2 td : Int32)  : Int32 × Int32 × (Nat → Int64) × Int32 × Int32 := (1, 0, g, kn2, td)
set_option maxHeartbeats 4000000 in
set_option maxRecDepth 100000 in
theorem c_X2_isSound (l : Launch) (D : va_G) (cB cJ : ClassId) (Hp : Heap) (y n2 : Nat) (th : Int32) (g : Nat → Int64) (kn2 td : Int32) (hP : va_P D vwCl (wMo y n2 cJ th g kn2 td) Hp) (hD9 : va_D (fun _ => True) (wMo y n2 cJ th g kn2 td))  : kM l D cB cJ yX2_isSound wsX2_isSound rm_X2_isSound (va_A (wMo y n2 cJ th g kn2 td) Hp.size) Hp [.ref y] (kPm D y n2 cJ (va_A (wMo y n2 cJ th g kn2 td) Hp.size) (j_X2_isSound th g kn2 td )) 0 0 := by
  refine Met.ofW (cc := cX2_isSound) (maxL := 1) (ret := (some .boolean)) (by decide) rfl ?_
  intro p e s m args below meth c s₁ B hml hv
  obtain ⟨rfl, hHp, hE⟩ := hv
  subst hHp
  have hx := B.exec
  have hb := B.bytes
  have hr := B.returns
  have hts := atoms_spec (ws := wsX2_isSound) B.pre
  have hown : s.vm.findClass RX2 = some m.cls := findClass_of_methodNamed B.named
  have hlocks := B.notSynchronized
  have hK := hE.1
  have hD := hD9.self (sz := s.heap.size)
  generalize hAe : va_A (wMo y n2 cJ th g kn2 td) s.heap.size = A at hE hD ⊢
  have hA : ∀ q : Nat, s.heap.size ≤ q → A q := fun q h => by rw [← hAe]; exact Or.inr h
  have hS : va_S A s.heap s.heap [] := va_S.rf
  have hl := lv_entry ([.ref y]) (n := 1) (Nat.le_of_ble_eq_true rfl)
  rw [lg_entry_eq]
  generalize (lg_sl ([.ref y]) ++ List.replicate (1 - (lg_sl ([.ref y])).length) Slot.unset).toArray = ls at hl ⊢
  have hl : lv_has ls 1 [(0, .ref y)] := hl
  have hJ : (j_X2_isSound th g kn2 td ) = (1, 0, g, kn2, td) := rfl
  refine lv_aload_n hx hb dX2_isSound_0 rfl (lv_at hl 0 rfl) ?_
  refine lv_iconst (v := 0) hx hb dX2_isSound_1 (by decide) ?_
  refine va_put (D := D) (ci := 4) (v := .int 0) (ty := .int) (C := RX2) (T := TX2) (N := 4) hx hb hts iw_X2_isSound_X2 tyX2 tyX2_ok nmX2 hown hK hP hD hS 0 rfl rfl 0 (by decide) (hts (.fieldLink RX2 13 "ClocksoloModel" "thrown" "I") (by decide +kernel)) (fun _ h9 => h9) rfl (by decide +kernel) rfl rfl (Nat.le_of_ble_eq_true rfl) dX2_isSound_2 (fun H locs hP hD hS => ?_)
  have hP : va_P D vwCl [(y, .inr (4, [.int 0, .ref n2, .int kn2, .int td])), (n2, .inl (cJ, 8, .inr (.inl g)))] H := hP
  have hD : va_D A [(y, .inr (4, [.int 0, .ref n2, .int kn2, .int td])), (n2, .inl (cJ, 8, .inr (.inl g)))] := hD
  refine lv_iconst (v := 1) hx hb dX2_isSound_5 (by decide) ?_
  exact k_zret hx hb hr (Or.inr rfl) hlocks hS dX2_isSound_6 ⟨by rw [hJ], by rw [hJ]; (try dsimp only); exact hP, by rw [hJ]; (try dsimp only); exact hD⟩
abbrev rm_X2_walk : Room := { frames := 2, cells := 0, slots := 0, locals := 51 }
theorem iw_X2_walk_X2 : ∀ w ∈ wsX20, w ∈ wsX2_walk := by decide +kernel
def jl_X2_walk_50 (th : Int32) (g : Nat → Int64) (kn2 td : Int32) (a1 : Int32) (a2 : Int32) (a3 : Int32) (a4 : Int32)  (k9 : Int32 → Int64 → Int32 → Int32 × Int32 × (Nat → Int64) × Int32 × Int32) : Nat → Int32 → Int64 → Int32 → Int32 × Int32 × (Nat → Int64) × Int32 × Int32
  | 0, _, _, _ => (0, 0, fun _ => 0, 0, 0)
  | u9 + 1, v5, v6, v8 => (if a4 ≤ v8 then (k9 v5 v6 v8) else (if v6 ≤ (j_X2_on v6 a2 a3.toInt64) then (jl_X2_walk_50 th g kn2 td a1 a2 a3 a4  k9 u9 (v5 + 0) (j_X2_on v6 a2 a3.toInt64) (v8 + 1)) else (jl_X2_walk_50 th g kn2 td a1 a2 a3 a4  k9 u9 (v5 + 1) (j_X2_on v6 a2 a3.toInt64) (v8 + 1))))
def jt_X2_walk_50 (th : Int32) (g : Nat → Int64) (kn2 td : Int32) (a1 : Int32) (a2 : Int32) (a3 : Int32) (a4 : Int32)  (t9 : Int32 → Int64 → Int32 → Prop) : Nat → Int32 → Int64 → Int32 → Prop
  | 0, _, _, _ => False
  | u9 + 1, v5, v6, v8 => ((a4 ≤ v8 → (t9 v5 v6 v8)) ∧ (¬ (a4 ≤ v8) → (T_X2_on v6 a2 a3.toInt64 ∧ ((v6 ≤ (j_X2_on v6 a2 a3.toInt64) → (jt_X2_walk_50 th g kn2 td a1 a2 a3 a4  t9 u9 (v5 + 0) (j_X2_on v6 a2 a3.toInt64) (v8 + 1))) ∧ (¬ (v6 ≤ (j_X2_on v6 a2 a3.toInt64)) → (jt_X2_walk_50 th g kn2 td a1 a2 a3 a4  t9 u9 (v5 + 1) (j_X2_on v6 a2 a3.toInt64) (v8 + 1)))))))
set_option maxHeartbeats 4000000 in
set_option maxRecDepth 100000 in
theorem lp_X2_walk_50 {H : Heap} {th0 : Int32} {p : Program} {l : Launch} {e : Env} {s : State} {m : MethodId} {args : Array Value} {below : List Frame} {meth : Method} {c : Code} {D : va_G} {cB cJ : ClassId} {A : Nat → Prop} (y n2 : Nat) (th : Int32) (g : Nat → Int64) (kn2 td : Int32) (a1 : Int32) (a2 : Int32) (a3 : Int32) (a4 : Int32)  (J : Int32 × Int32 × (Nat → Int64) × Int32 × Int32) (hx : p.tables.exec = Jvm.exec) (hb : c.code = cX2_walk) (hml : c.maxLocals = 11) (hr : meth.sig.returnType = (some .int)) (hlocks : meth.locks = false) (hown : s.vm.findClass RX2 = some m.cls) (hts : ∀ w ∈ wsX2_walk, w.before args s = true) (hE : kE D cB cJ A s s.heap) (hP : va_P D vwCl [(y, .inr (4, [.int th0, .ref n2, .int kn2, .int td])), (n2, .inl (cJ, 8, .inr (.inl g)))] H) (hD : va_D A [(y, .inr (4, [.int th0, .ref n2, .int kn2, .int td])), (n2, .inl (cJ, 8, .inr (.inl g)))]) (k9 : Int32 → Int64 → Int32 → Int32 × Int32 × (Nat → Int64) × Int32 × Int32) (t9 : Int32 → Int64 → Int32 → Prop) (kk : ∀ (v5 : Int32) (v6 : Int64) (v8 : Int32) (locs : List Loc) (ls : Array Slot), J = k9 v5 v6 v8 → t9 v5 v6 v8 → va_S A s.heap H locs → lv_has ls 11 [(0, .ref y), (1, .int a1), (2, .int a2), (3, .int a3), (4, .int a4), (5, .int v5), (6, .long v6), (8, .int v8)] → W p l e rm_X2_walk s m args below meth c H locs 0 0 (MQ below (kQ (kPm D y n2 cJ A J) A) args s 0 0 A) (F0 m 95 ls [])) : ∀ (u9 : Nat) (v5 : Int32) (v6 : Int64) (v8 : Int32) (locs : List Loc) (ls : Array Slot), J = jl_X2_walk_50 th g kn2 td a1 a2 a3 a4  k9 u9 v5 v6 v8 → jt_X2_walk_50 th g kn2 td a1 a2 a3 a4  t9 u9 v5 v6 v8 → va_S A s.heap H locs → lv_has ls 11 [(0, .ref y), (1, .int a1), (2, .int a2), (3, .int a3), (4, .int a4), (5, .int v5), (6, .long v6), (8, .int v8)] → W p l e rm_X2_walk s m args below meth c H locs 0 0 (MQ below (kQ (kPm D y n2 cJ A J) A) args s 0 0 A) (F0 m 50 ls []) := by
  have hK := hE.1
  intro u9
  induction u9 with
  | zero =>
    intro v5 v6 v8 locs ls hJ hT
    exact hT.elim
  | succ u9 ih =>
    intro v5 v6 v8 locs ls hJ hT hS hl
    rw [jl_X2_walk_50] at hJ
    rw [jt_X2_walk_50] at hT
    refine lv_iload hx hb dX2_walk_50 (lv_at hl 7 rfl) ?_
    refine lv_iload hx hb dX2_walk_52 (lv_at hl 4 rfl) ?_
    refine lv_icmp_ge (tgt := 95) hx hb dX2_walk_54 (by decide) (fun c_1003 => ?_) (fun c_1003 => ?_)
    · exact kk v5 v6 v8 _ _ (hJ.trans (by rw [if_pos c_1003])) (hT.1 c_1003) hS (lv_sub hl [0, 1, 2, 3, 4, 5, 6, 7] rfl)
    · refine lv_lload hx hb dX2_walk_57 (lv_at hl 6 rfl) ?_
      refine lv_iload_n hx hb dX2_walk_59 rfl (lv_at hl 2 rfl) ?_
      refine lv_iload_n hx hb dX2_walk_60 rfl (lv_at hl 3 rfl) ?_
      refine lv_i2l (v := a3.toInt64) hx hb dX2_walk_61 rfl ?_
      refine k_pS [.long v6, .int a2, .long a3.toInt64] (rest := []) ⟨hx, hb, hml, hown, hts⟩ (c_X2_on l D cB cJ _ v6 a2 a3.toInt64 (hT.2 c_1003).1) (va_cwS 3 hts gX2_walk_X2_on rfl rfl rfl (by decide +kernel) ⟨(Nat.le_of_ble_eq_true rfl), (Nat.le_of_ble_eq_true rfl)⟩) hE hS rfl rfl hl.1 (Nat.le_of_ble_eq_true rfl) dX2_walk_62 ⟨(Nat.le_of_ble_eq_true rfl), (Nat.le_of_ble_eq_true rfl)⟩ (fun locs hS => ?_)
      refine W.eq (g2 := F0 m 65 ls [.long (j_X2_on v6 a2 a3.toInt64)]) rfl ?_
      refine lv_lstore (lv' := [(9, .long (j_X2_on v6 a2 a3.toInt64)), (0, .ref y), (1, .int a1), (2, .int a2), (3, .int a3), (4, .int a4), (5, .int v5), (6, .long v6), (8, .int v8)]) hx hb dX2_walk_65 hl (by decide) rfl (fun ls hl => ?_)
      refine lv_iload hx hb dX2_walk_67 (lv_at hl 6 rfl) ?_
      refine lv_lload hx hb dX2_walk_69 (lv_at hl 0 rfl) ?_
      refine lv_lload hx hb dX2_walk_71 (lv_at hl 7 rfl) ?_
      refine kl_ge (tgt := 81) hx hb dX2_walk_73 dX2_walk_74 (by decide) (fun c_1004 => ?_) (fun c_1004 => ?_)
      · refine lv_iconst (v := 0) hx hb dX2_walk_81 (by decide) ?_
        refine lv_iadd hx hb dX2_walk_82 ?_
        refine lv_istore (lv' := [(5, .int (v5 + 0)), (9, .long (j_X2_on v6 a2 a3.toInt64)), (0, .ref y), (1, .int a1), (2, .int a2), (3, .int a3), (4, .int a4), (6, .long v6), (8, .int v8)]) hx hb dX2_walk_83 hl (by decide) rfl (fun ls hl => ?_)
        refine lv_lload hx hb dX2_walk_85 (lv_at hl 1 rfl) ?_
        refine lv_lstore (lv' := [(6, .long (j_X2_on v6 a2 a3.toInt64)), (5, .int (v5 + 0)), (9, .long (j_X2_on v6 a2 a3.toInt64)), (0, .ref y), (1, .int a1), (2, .int a2), (3, .int a3), (4, .int a4), (8, .int v8)]) hx hb dX2_walk_87 hl (by decide) rfl (fun ls hl => ?_)
        refine lv_iinc (v := (v8 + 1)) (lv' := [(8, .int (v8 + 1)), (6, .long (j_X2_on v6 a2 a3.toInt64)), (5, .int (v5 + 0)), (9, .long (j_X2_on v6 a2 a3.toInt64)), (0, .ref y), (1, .int a1), (2, .int a2), (3, .int a3), (4, .int a4)]) hx hb dX2_walk_89 hl (k := 8) rfl rfl (by decide) rfl (fun ls hl => ?_)
        refine lv_goto (tgt := 50) hx hb dX2_walk_92 (by decide) ?_
        exact ih (v5 + 0) (j_X2_on v6 a2 a3.toInt64) (v8 + 1) _ _ (hJ.trans (by rw [if_neg c_1003, if_pos c_1004])) ((hT.2 c_1003).2.1 c_1004) hS (lv_sub hl [4, 5, 6, 7, 8, 2, 1, 0] rfl)
      · refine lv_iconst (v := 1) hx hb dX2_walk_77 (by decide) ?_
        refine lv_goto (tgt := 82) hx hb dX2_walk_78 (by decide) ?_
        refine lv_iadd hx hb dX2_walk_82 ?_
        refine lv_istore (lv' := [(5, .int (v5 + 1)), (9, .long (j_X2_on v6 a2 a3.toInt64)), (0, .ref y), (1, .int a1), (2, .int a2), (3, .int a3), (4, .int a4), (6, .long v6), (8, .int v8)]) hx hb dX2_walk_83 hl (by decide) rfl (fun ls hl => ?_)
        refine lv_lload hx hb dX2_walk_85 (lv_at hl 1 rfl) ?_
        refine lv_lstore (lv' := [(6, .long (j_X2_on v6 a2 a3.toInt64)), (5, .int (v5 + 1)), (9, .long (j_X2_on v6 a2 a3.toInt64)), (0, .ref y), (1, .int a1), (2, .int a2), (3, .int a3), (4, .int a4), (8, .int v8)]) hx hb dX2_walk_87 hl (by decide) rfl (fun ls hl => ?_)
        refine lv_iinc (v := (v8 + 1)) (lv' := [(8, .int (v8 + 1)), (6, .long (j_X2_on v6 a2 a3.toInt64)), (5, .int (v5 + 1)), (9, .long (j_X2_on v6 a2 a3.toInt64)), (0, .ref y), (1, .int a1), (2, .int a2), (3, .int a3), (4, .int a4)]) hx hb dX2_walk_89 hl (k := 8) rfl rfl (by decide) rfl (fun ls hl => ?_)
        refine lv_goto (tgt := 50) hx hb dX2_walk_92 (by decide) ?_
        exact ih (v5 + 1) (j_X2_on v6 a2 a3.toInt64) (v8 + 1) _ _ (hJ.trans (by rw [if_neg c_1003, if_neg c_1004])) ((hT.2 c_1003).2.2 c_1004) hS (lv_sub hl [4, 5, 6, 7, 8, 2, 1, 0] rfl)
def j_X2_walk (th : Int32) (g : Nat → Int64) (kn2 td : Int32) (a1 : Int32) (a2 : Int32) (a3 : Int32) (a4 : Int32) : Int32 × Int32 × (Nat → Int64) × Int32 × Int32 := (if (j_X2_isNoStep a2) = 0 then (if (j_X2_isIn a4 0 40) = 0 then (if (j_stR (j_X2_isNone a1) (1 : Int32)) = 0 then (jl_X2_walk_50 th g kn2 td a1 a2 a3 a4  (fun (v_12 : Int32) (v_13 : Int64) (v_14 : Int32) => (v_12, (j_stT (j_X2_isNone a1) (1 : Int32)), (vp_updL g a1.toNatClampNeg v_13), kn2, (td + 1))) 100 0 (g a1.toNatClampNeg) 0) else (0, (j_stT (j_X2_isNone a1) (1 : Int32)), g, kn2, td)) else (if (j_stR (j_X2_isNone a1) (0 : Int32)) = 0 then (jl_X2_walk_50 th g kn2 td a1 a2 a3 a4  (fun (v_8 : Int32) (v_9 : Int64) (v_10 : Int32) => (v_8, (j_stT (j_X2_isNone a1) (0 : Int32)), (vp_updL g a1.toNatClampNeg v_9), kn2, (td + 1))) 100 0 (g a1.toNatClampNeg) 0) else (0, (j_stT (j_X2_isNone a1) (0 : Int32)), g, kn2, td))) else (if (j_stR (j_X2_isNone a1) (1 : Int32)) = 0 then (jl_X2_walk_50 th g kn2 td a1 a2 a3 a4  (fun (v_3 : Int32) (v_4 : Int64) (v_5 : Int32) => (v_3, (j_stT (j_X2_isNone a1) (1 : Int32)), (vp_updL g a1.toNatClampNeg v_4), kn2, (td + 1))) 100 0 (g a1.toNatClampNeg) 0) else (0, (j_stT (j_X2_isNone a1) (1 : Int32)), g, kn2, td)))
def T_X2_walk (th : Int32) (g : Nat → Int64) (kn2 td : Int32) (a1 : Int32) (a2 : Int32) (a3 : Int32) (a4 : Int32) : Prop := (((j_X2_isNoStep a2) = 0 → (((j_X2_isIn a4 0 40) = 0 → (((j_stR (j_X2_isNone a1) (1 : Int32)) = 0 → (vp_in a1 8 ∧ (jt_X2_walk_50 th g kn2 td a1 a2 a3 a4  (fun (v_12 : Int32) (v_13 : Int64) (v_14 : Int32) => (T_X2_set (j_stT (j_X2_isNone a1) (1 : Int32)) g kn2 td a1 v_13 ∧ True)) 100 0 (g a1.toNatClampNeg) 0))) ∧ (¬ ((j_stR (j_X2_isNone a1) (1 : Int32)) = 0) → True))) ∧ (¬ ((j_X2_isIn a4 0 40) = 0) → (((j_stR (j_X2_isNone a1) (0 : Int32)) = 0 → (vp_in a1 8 ∧ (jt_X2_walk_50 th g kn2 td a1 a2 a3 a4  (fun (v_8 : Int32) (v_9 : Int64) (v_10 : Int32) => (T_X2_set (j_stT (j_X2_isNone a1) (0 : Int32)) g kn2 td a1 v_9 ∧ True)) 100 0 (g a1.toNatClampNeg) 0))) ∧ (¬ ((j_stR (j_X2_isNone a1) (0 : Int32)) = 0) → True))))) ∧ (¬ ((j_X2_isNoStep a2) = 0) → (((j_stR (j_X2_isNone a1) (1 : Int32)) = 0 → (vp_in a1 8 ∧ (jt_X2_walk_50 th g kn2 td a1 a2 a3 a4  (fun (v_3 : Int32) (v_4 : Int64) (v_5 : Int32) => (T_X2_set (j_stT (j_X2_isNone a1) (1 : Int32)) g kn2 td a1 v_4 ∧ True)) 100 0 (g a1.toNatClampNeg) 0))) ∧ (¬ ((j_stR (j_X2_isNone a1) (1 : Int32)) = 0) → True))))
set_option maxHeartbeats 4000000 in
set_option maxRecDepth 100000 in
theorem c_X2_walk (l : Launch) (D : va_G) (cB cJ : ClassId) (Hp : Heap) (y n2 : Nat) (th : Int32) (g : Nat → Int64) (kn2 td : Int32) (hP : va_P D vwCl (wMo y n2 cJ th g kn2 td) Hp) (hD9 : va_D (fun _ => True) (wMo y n2 cJ th g kn2 td)) (a1 : Int32) (a2 : Int32) (a3 : Int32) (a4 : Int32) (hT9 : T_X2_walk th g kn2 td a1 a2 a3 a4) : kM l D cB cJ yX2_walk wsX2_walk rm_X2_walk (va_A (wMo y n2 cJ th g kn2 td) Hp.size) Hp [.ref y, .int a1, .int a2, .int a3, .int a4] (kPm D y n2 cJ (va_A (wMo y n2 cJ th g kn2 td) Hp.size) (j_X2_walk th g kn2 td a1 a2 a3 a4)) 0 0 := by
  refine Met.ofW (cc := cX2_walk) (maxL := 11) (ret := (some .int)) (by decide) rfl ?_
  intro p e s m args below meth c s₁ B hml hv
  obtain ⟨rfl, hHp, hE⟩ := hv
  subst hHp
  have hx := B.exec
  have hb := B.bytes
  have hr := B.returns
  have hts := atoms_spec (ws := wsX2_walk) B.pre
  have hown : s.vm.findClass RX2 = some m.cls := findClass_of_methodNamed B.named
  have hlocks := B.notSynchronized
  have hK := hE.1
  have hD := hD9.self (sz := s.heap.size)
  generalize hAe : va_A (wMo y n2 cJ th g kn2 td) s.heap.size = A at hE hD ⊢
  have hA : ∀ q : Nat, s.heap.size ≤ q → A q := fun q h => by rw [← hAe]; exact Or.inr h
  have hS : va_S A s.heap s.heap [] := va_S.rf
  have hl := lv_entry ([.ref y, .int a1, .int a2, .int a3, .int a4]) (n := 11) (Nat.le_of_ble_eq_true rfl)
  rw [lg_entry_eq]
  generalize (lg_sl ([.ref y, .int a1, .int a2, .int a3, .int a4]) ++ List.replicate (11 - (lg_sl ([.ref y, .int a1, .int a2, .int a3, .int a4])).length) Slot.unset).toArray = ls at hl ⊢
  have hl : lv_has ls 11 [(0, .ref y), (1, .int a1), (2, .int a2), (3, .int a3), (4, .int a4)] := hl
  have hJ : (j_X2_walk th g kn2 td a1 a2 a3 a4) = (if (j_X2_isNoStep a2) = 0 then (if (j_X2_isIn a4 0 40) = 0 then (if (j_stR (j_X2_isNone a1) (1 : Int32)) = 0 then (jl_X2_walk_50 th g kn2 td a1 a2 a3 a4  (fun (v_12 : Int32) (v_13 : Int64) (v_14 : Int32) => (v_12, (j_stT (j_X2_isNone a1) (1 : Int32)), (vp_updL g a1.toNatClampNeg v_13), kn2, (td + 1))) 100 0 (g a1.toNatClampNeg) 0) else (0, (j_stT (j_X2_isNone a1) (1 : Int32)), g, kn2, td)) else (if (j_stR (j_X2_isNone a1) (0 : Int32)) = 0 then (jl_X2_walk_50 th g kn2 td a1 a2 a3 a4  (fun (v_8 : Int32) (v_9 : Int64) (v_10 : Int32) => (v_8, (j_stT (j_X2_isNone a1) (0 : Int32)), (vp_updL g a1.toNatClampNeg v_9), kn2, (td + 1))) 100 0 (g a1.toNatClampNeg) 0) else (0, (j_stT (j_X2_isNone a1) (0 : Int32)), g, kn2, td))) else (if (j_stR (j_X2_isNone a1) (1 : Int32)) = 0 then (jl_X2_walk_50 th g kn2 td a1 a2 a3 a4  (fun (v_3 : Int32) (v_4 : Int64) (v_5 : Int32) => (v_3, (j_stT (j_X2_isNone a1) (1 : Int32)), (vp_updL g a1.toNatClampNeg v_4), kn2, (td + 1))) 100 0 (g a1.toNatClampNeg) 0) else (0, (j_stT (j_X2_isNone a1) (1 : Int32)), g, kn2, td))) := rfl
  have hT : (((j_X2_isNoStep a2) = 0 → (((j_X2_isIn a4 0 40) = 0 → (((j_stR (j_X2_isNone a1) (1 : Int32)) = 0 → (vp_in a1 8 ∧ (jt_X2_walk_50 th g kn2 td a1 a2 a3 a4  (fun (v_12 : Int32) (v_13 : Int64) (v_14 : Int32) => (T_X2_set (j_stT (j_X2_isNone a1) (1 : Int32)) g kn2 td a1 v_13 ∧ True)) 100 0 (g a1.toNatClampNeg) 0))) ∧ (¬ ((j_stR (j_X2_isNone a1) (1 : Int32)) = 0) → True))) ∧ (¬ ((j_X2_isIn a4 0 40) = 0) → (((j_stR (j_X2_isNone a1) (0 : Int32)) = 0 → (vp_in a1 8 ∧ (jt_X2_walk_50 th g kn2 td a1 a2 a3 a4  (fun (v_8 : Int32) (v_9 : Int64) (v_10 : Int32) => (T_X2_set (j_stT (j_X2_isNone a1) (0 : Int32)) g kn2 td a1 v_9 ∧ True)) 100 0 (g a1.toNatClampNeg) 0))) ∧ (¬ ((j_stR (j_X2_isNone a1) (0 : Int32)) = 0) → True))))) ∧ (¬ ((j_X2_isNoStep a2) = 0) → (((j_stR (j_X2_isNone a1) (1 : Int32)) = 0 → (vp_in a1 8 ∧ (jt_X2_walk_50 th g kn2 td a1 a2 a3 a4  (fun (v_3 : Int32) (v_4 : Int64) (v_5 : Int32) => (T_X2_set (j_stT (j_X2_isNone a1) (1 : Int32)) g kn2 td a1 v_4 ∧ True)) 100 0 (g a1.toNatClampNeg) 0))) ∧ (¬ ((j_stR (j_X2_isNone a1) (1 : Int32)) = 0) → True)))) := hT9
  refine lv_aload_n hx hb dX2_walk_0 rfl (lv_at hl 0 rfl) ?_
  refine lv_iload_n hx hb dX2_walk_1 rfl (lv_at hl 1 rfl) ?_
  refine k_pS [.int a1] (rest := [.ref y]) ⟨hx, hb, hml, hown, hts⟩ (c_X2_isNone l D cB cJ _ a1) (va_cwS 1 hts gX2_walk_X2_isNone rfl rfl rfl (by decide +kernel) ⟨(Nat.le_of_ble_eq_true rfl), (Nat.le_of_ble_eq_true rfl)⟩) hE hS rfl rfl hl.1 (Nat.le_of_ble_eq_true rfl) dX2_walk_2 ⟨(Nat.le_of_ble_eq_true rfl), (Nat.le_of_ble_eq_true rfl)⟩ (fun locs hS => ?_)
  refine W.eq (g2 := F0 m 5 ls [.int (j_X2_isNone a1), .ref y]) rfl ?_
  refine lv_iload_n hx hb dX2_walk_5 rfl (lv_at hl 2 rfl) ?_
  refine k_pS [.int a2] (rest := [.int (j_X2_isNone a1), .ref y]) ⟨hx, hb, hml, hown, hts⟩ (c_X2_isNoStep l D cB cJ _ a2) (va_cwS 1 hts gX2_walk_X2_isNoStep rfl rfl rfl (by decide +kernel) ⟨(Nat.le_of_ble_eq_true rfl), (Nat.le_of_ble_eq_true rfl)⟩) hE hS rfl rfl hl.1 (Nat.le_of_ble_eq_true rfl) dX2_walk_6 ⟨(Nat.le_of_ble_eq_true rfl), (Nat.le_of_ble_eq_true rfl)⟩ (fun locs hS => ?_)
  refine W.eq (g2 := F0 m 9 ls [.int (j_X2_isNoStep a2), .int (j_X2_isNone a1), .ref y]) rfl ?_
  refine lv_if_ne (tgt := 23) hx hb dX2_walk_9 (by decide) (fun c_1 => ?_) (fun c_1 => ?_)
  · refine lv_iconst (v := 1) hx hb dX2_walk_23 (by decide) ?_
    refine lv_goto (tgt := 28) hx hb dX2_walk_24 (by decide) ?_
    have hFc := va_free (wc := [(y, .inr (4, [.int th, .ref n2, .int kn2, .int td])), (n2, .inl (cJ, 8, .inr (.inl g)))]) hD hS hA [0, 1] rfl
    refine k_go (va_runV (As := [.int (j_X2_isNone a1), .int 1]) (rest := []) ⟨hx, hb, hml, hown, hts⟩ (cq_X2_isStopped l D cB cJ _ y n2 th g kn2 td hP (hD.weaken (fun _ _ _ _ => trivial)) (j_X2_isNone a1) (1 : Int32)) (cwV 2 hts gX2_walk_X2_isStopped rfl rfl rfl (by decide +kernel) ⟨(Nat.le_of_ble_eq_true rfl), (Nat.le_of_ble_eq_true rfl)⟩) (k_preV hE hS hFc (va_recv hK hP (ci := 4) (q0 := 0) rfl rfl)) rfl rfl hl.1 rfl (lv_room (Nat.le_of_ble_eq_true rfl)) dX2_walk_28 ⟨(Nat.le_of_ble_eq_true rfl), (Nat.le_of_ble_eq_true rfl)⟩) hS (fun q _ h => hFc q h) hFc (fun v H locs hp hz hk hS => ?_)
    obtain ⟨rfl, hP1, hD1⟩ := hp
    (try dsimp only at hP1 hD1)
    have hP : va_P D vwCl [(y, .inr (4, [.int (j_stT (j_X2_isNone a1) (1 : Int32)), .ref n2, .int kn2, .int td])), (n2, .inl (cJ, 8, .inr (.inl g)))] H := hP1
    have hD : va_D A [(y, .inr (4, [.int (j_stT (j_X2_isNone a1) (1 : Int32)), .ref n2, .int kn2, .int td])), (n2, .inl (cJ, 8, .inr (.inl g)))] := hD1.weaken (fun _ q _ h => hFc q.1 h)
    refine W.eq (g2 := F0 m 31 ls [.int (j_stR (j_X2_isNone a1) (1 : Int32))]) rfl ?_
    refine lv_if_eq (tgt := 36) hx hb dX2_walk_31 (by decide) (fun c_2 => ?_) (fun c_2 => ?_)
    · refine lv_iconst (v := 0) hx hb dX2_walk_36 (by decide) ?_
      refine lv_istore (lv' := [(5, .int 0), (0, .ref y), (1, .int a1), (2, .int a2), (3, .int a3), (4, .int a4)]) hx hb dX2_walk_37 hl (by decide) rfl (fun ls hl => ?_)
      refine lv_aload_n hx hb dX2_walk_39 rfl (lv_at hl 1 rfl) ?_
      refine va_get (D := D) (ci := 4) (v := .ref n2) (C := RX2) (T := TX2) (N := 4) hx hb hts iw_X2_walk_X2 hown hK hP 0 rfl rfl 1 (by decide) (hts (.fieldLink RX2 9 "ClocksoloModel" "its" "[J") (by decide +kernel)) (fun _ h9 => h9) rfl dX2_walk_40 ?_
      refine lv_iload_n hx hb dX2_walk_43 rfl (lv_at hl 2 rfl) ?_
      refine va_lald hx hb hK hP 1 1 rfl rfl ((hT.2 c_1).1 c_2).1 dX2_walk_44 ?_
      refine lv_lstore (lv' := [(6, .long (g a1.toNatClampNeg)), (5, .int 0), (0, .ref y), (1, .int a1), (2, .int a2), (3, .int a3), (4, .int a4)]) hx hb dX2_walk_45 hl (by decide) rfl (fun ls hl => ?_)
      refine lv_iconst (v := 0) hx hb dX2_walk_47 (by decide) ?_
      refine lv_istore (lv' := [(8, .int 0), (6, .long (g a1.toNatClampNeg)), (5, .int 0), (0, .ref y), (1, .int a1), (2, .int a2), (3, .int a3), (4, .int a4)]) hx hb dX2_walk_48 hl (by decide) rfl (fun ls hl => ?_)
      refine lp_X2_walk_50 y n2 th g kn2 td a1 a2 a3 a4  (j_X2_walk th g kn2 td a1 a2 a3 a4) hx hb hml hr hlocks hown hts hE hP hD (fun (v_3 : Int32) (v_4 : Int64) (v_5 : Int32) => (v_3, (j_stT (j_X2_isNone a1) (1 : Int32)), (vp_updL g a1.toNatClampNeg v_4), kn2, (td + 1))) (fun (v_3 : Int32) (v_4 : Int64) (v_5 : Int32) => (T_X2_set (j_stT (j_X2_isNone a1) (1 : Int32)) g kn2 td a1 v_4 ∧ True)) (fun v_3 v_4 v_5 locs ls hJ hT hS hl => ?_) 100 0 (g a1.toNatClampNeg) 0 _ _ (hJ.trans (by rw [if_neg c_1, if_pos c_2])) ((hT.2 c_1).1 c_2).2 hS (lv_sub hl [3, 4, 5, 6, 7, 2, 1, 0] rfl)
      (try dsimp only at hJ); (try dsimp only at hT)
      refine lv_aload_n hx hb dX2_walk_95 rfl (lv_at hl 0 rfl) ?_
      refine lv_iload_n hx hb dX2_walk_96 rfl (lv_at hl 1 rfl) ?_
      refine lv_lload hx hb dX2_walk_97 (lv_at hl 6 rfl) ?_
      have hFc := va_free (wc := [(y, .inr (4, [.int (j_stT (j_X2_isNone a1) (1 : Int32)), .ref n2, .int kn2, .int td])), (n2, .inl (cJ, 8, .inr (.inl g)))]) hD hS hA [0, 1] rfl
      refine k_go (va_runV (As := [.int a1, .long v_4]) (rest := []) ⟨hx, hb, hml, hown, hts⟩ (cq_X2_set l D cB cJ _ y n2 (j_stT (j_X2_isNone a1) (1 : Int32)) g kn2 td hP (hD.weaken (fun _ _ _ _ => trivial)) a1 v_4 hT.1) (cwV 2 hts gX2_walk_X2_set rfl rfl rfl (by decide +kernel) ⟨(Nat.le_of_ble_eq_true rfl), (Nat.le_of_ble_eq_true rfl)⟩) (k_preV hE hS hFc (va_recv hK hP (ci := 4) (q0 := 0) rfl rfl)) rfl rfl hl.1 rfl (lv_room (Nat.le_of_ble_eq_true rfl)) dX2_walk_99 ⟨(Nat.le_of_ble_eq_true rfl), (Nat.le_of_ble_eq_true rfl)⟩) hS (fun q _ h => hFc q h) hFc (fun v H locs hp hz hk hS => ?_)
      obtain ⟨rfl, hP1, hD1⟩ := hp
      (try dsimp only at hP1 hD1)
      have hP : va_P D vwCl [(y, .inr (4, [.int (j_stT (j_X2_isNone a1) (1 : Int32)), .ref n2, .int kn2, .int (td + 1)])), (n2, .inl (cJ, 8, .inr (.inl (vp_updL g a1.toNatClampNeg v_4))))] H := hP1
      have hD : va_D A [(y, .inr (4, [.int (j_stT (j_X2_isNone a1) (1 : Int32)), .ref n2, .int kn2, .int (td + 1)])), (n2, .inl (cJ, 8, .inr (.inl (vp_updL g a1.toNatClampNeg v_4))))] := hD1.weaken (fun _ q _ h => hFc q.1 h)
      refine W.eq (g2 := F0 m 102 ls [.int (j_X2_secondOf v_4)]) rfl ?_
      refine lv_pop hx hb dX2_walk_102 rfl ?_
      refine lv_iload hx hb dX2_walk_103 (lv_at hl 5 rfl) ?_
      exact k_iret hx hb hr hlocks hS dX2_walk_105 ⟨by rw [hJ], by rw [hJ]; (try dsimp only); exact hP, by rw [hJ]; (try dsimp only); exact hD⟩
    · refine lv_iconst (v := 0) hx hb dX2_walk_34 (by decide) ?_
      exact k_iret hx hb hr hlocks hS dX2_walk_35 ⟨by rw [hJ, if_neg c_1, if_neg c_2], by rw [hJ, if_neg c_1, if_neg c_2]; (try dsimp only); exact hP, by rw [hJ, if_neg c_1, if_neg c_2]; (try dsimp only); exact hD⟩
  · refine lv_iload hx hb dX2_walk_12 (lv_at hl 4 rfl) ?_
    refine lv_iconst (v := 0) hx hb dX2_walk_14 (by decide) ?_
    refine lv_bipush (v := 40) hx hb dX2_walk_15 (by decide) ?_
    refine k_pS [.int a4, .int 0, .int 40] (rest := [.int (j_X2_isNone a1), .ref y]) ⟨hx, hb, hml, hown, hts⟩ (c_X2_isIn l D cB cJ _ a4 0 40) (va_cwS 3 hts gX2_walk_X2_isIn rfl rfl rfl (by decide +kernel) ⟨(Nat.le_of_ble_eq_true rfl), (Nat.le_of_ble_eq_true rfl)⟩) hE hS rfl rfl hl.1 (Nat.le_of_ble_eq_true rfl) dX2_walk_17 ⟨(Nat.le_of_ble_eq_true rfl), (Nat.le_of_ble_eq_true rfl)⟩ (fun locs hS => ?_)
    refine W.eq (g2 := F0 m 20 ls [.int (j_X2_isIn a4 0 40), .int (j_X2_isNone a1), .ref y]) rfl ?_
    refine lv_if_ne (tgt := 27) hx hb dX2_walk_20 (by decide) (fun c_6 => ?_) (fun c_6 => ?_)
    · refine lv_iconst (v := 0) hx hb dX2_walk_27 (by decide) ?_
      have hFc := va_free (wc := [(y, .inr (4, [.int th, .ref n2, .int kn2, .int td])), (n2, .inl (cJ, 8, .inr (.inl g)))]) hD hS hA [0, 1] rfl
      refine k_go (va_runV (As := [.int (j_X2_isNone a1), .int 0]) (rest := []) ⟨hx, hb, hml, hown, hts⟩ (cq_X2_isStopped l D cB cJ _ y n2 th g kn2 td hP (hD.weaken (fun _ _ _ _ => trivial)) (j_X2_isNone a1) (0 : Int32)) (cwV 2 hts gX2_walk_X2_isStopped rfl rfl rfl (by decide +kernel) ⟨(Nat.le_of_ble_eq_true rfl), (Nat.le_of_ble_eq_true rfl)⟩) (k_preV hE hS hFc (va_recv hK hP (ci := 4) (q0 := 0) rfl rfl)) rfl rfl hl.1 rfl (lv_room (Nat.le_of_ble_eq_true rfl)) dX2_walk_28 ⟨(Nat.le_of_ble_eq_true rfl), (Nat.le_of_ble_eq_true rfl)⟩) hS (fun q _ h => hFc q h) hFc (fun v H locs hp hz hk hS => ?_)
      obtain ⟨rfl, hP1, hD1⟩ := hp
      (try dsimp only at hP1 hD1)
      have hP : va_P D vwCl [(y, .inr (4, [.int (j_stT (j_X2_isNone a1) (0 : Int32)), .ref n2, .int kn2, .int td])), (n2, .inl (cJ, 8, .inr (.inl g)))] H := hP1
      have hD : va_D A [(y, .inr (4, [.int (j_stT (j_X2_isNone a1) (0 : Int32)), .ref n2, .int kn2, .int td])), (n2, .inl (cJ, 8, .inr (.inl g)))] := hD1.weaken (fun _ q _ h => hFc q.1 h)
      refine W.eq (g2 := F0 m 31 ls [.int (j_stR (j_X2_isNone a1) (0 : Int32))]) rfl ?_
      refine lv_if_eq (tgt := 36) hx hb dX2_walk_31 (by decide) (fun c_7 => ?_) (fun c_7 => ?_)
      · refine lv_iconst (v := 0) hx hb dX2_walk_36 (by decide) ?_
        refine lv_istore (lv' := [(5, .int 0), (0, .ref y), (1, .int a1), (2, .int a2), (3, .int a3), (4, .int a4)]) hx hb dX2_walk_37 hl (by decide) rfl (fun ls hl => ?_)
        refine lv_aload_n hx hb dX2_walk_39 rfl (lv_at hl 1 rfl) ?_
        refine va_get (D := D) (ci := 4) (v := .ref n2) (C := RX2) (T := TX2) (N := 4) hx hb hts iw_X2_walk_X2 hown hK hP 0 rfl rfl 1 (by decide) (hts (.fieldLink RX2 9 "ClocksoloModel" "its" "[J") (by decide +kernel)) (fun _ h9 => h9) rfl dX2_walk_40 ?_
        refine lv_iload_n hx hb dX2_walk_43 rfl (lv_at hl 2 rfl) ?_
        refine va_lald hx hb hK hP 1 1 rfl rfl (((hT.1 c_1).2 c_6).1 c_7).1 dX2_walk_44 ?_
        refine lv_lstore (lv' := [(6, .long (g a1.toNatClampNeg)), (5, .int 0), (0, .ref y), (1, .int a1), (2, .int a2), (3, .int a3), (4, .int a4)]) hx hb dX2_walk_45 hl (by decide) rfl (fun ls hl => ?_)
        refine lv_iconst (v := 0) hx hb dX2_walk_47 (by decide) ?_
        refine lv_istore (lv' := [(8, .int 0), (6, .long (g a1.toNatClampNeg)), (5, .int 0), (0, .ref y), (1, .int a1), (2, .int a2), (3, .int a3), (4, .int a4)]) hx hb dX2_walk_48 hl (by decide) rfl (fun ls hl => ?_)
        refine lp_X2_walk_50 y n2 th g kn2 td a1 a2 a3 a4  (j_X2_walk th g kn2 td a1 a2 a3 a4) hx hb hml hr hlocks hown hts hE hP hD (fun (v_8 : Int32) (v_9 : Int64) (v_10 : Int32) => (v_8, (j_stT (j_X2_isNone a1) (0 : Int32)), (vp_updL g a1.toNatClampNeg v_9), kn2, (td + 1))) (fun (v_8 : Int32) (v_9 : Int64) (v_10 : Int32) => (T_X2_set (j_stT (j_X2_isNone a1) (0 : Int32)) g kn2 td a1 v_9 ∧ True)) (fun v_8 v_9 v_10 locs ls hJ hT hS hl => ?_) 100 0 (g a1.toNatClampNeg) 0 _ _ (hJ.trans (by rw [if_pos c_1, if_neg c_6, if_pos c_7])) (((hT.1 c_1).2 c_6).1 c_7).2 hS (lv_sub hl [3, 4, 5, 6, 7, 2, 1, 0] rfl)
        (try dsimp only at hJ); (try dsimp only at hT)
        refine lv_aload_n hx hb dX2_walk_95 rfl (lv_at hl 0 rfl) ?_
        refine lv_iload_n hx hb dX2_walk_96 rfl (lv_at hl 1 rfl) ?_
        refine lv_lload hx hb dX2_walk_97 (lv_at hl 6 rfl) ?_
        have hFc := va_free (wc := [(y, .inr (4, [.int (j_stT (j_X2_isNone a1) (0 : Int32)), .ref n2, .int kn2, .int td])), (n2, .inl (cJ, 8, .inr (.inl g)))]) hD hS hA [0, 1] rfl
        refine k_go (va_runV (As := [.int a1, .long v_9]) (rest := []) ⟨hx, hb, hml, hown, hts⟩ (cq_X2_set l D cB cJ _ y n2 (j_stT (j_X2_isNone a1) (0 : Int32)) g kn2 td hP (hD.weaken (fun _ _ _ _ => trivial)) a1 v_9 hT.1) (cwV 2 hts gX2_walk_X2_set rfl rfl rfl (by decide +kernel) ⟨(Nat.le_of_ble_eq_true rfl), (Nat.le_of_ble_eq_true rfl)⟩) (k_preV hE hS hFc (va_recv hK hP (ci := 4) (q0 := 0) rfl rfl)) rfl rfl hl.1 rfl (lv_room (Nat.le_of_ble_eq_true rfl)) dX2_walk_99 ⟨(Nat.le_of_ble_eq_true rfl), (Nat.le_of_ble_eq_true rfl)⟩) hS (fun q _ h => hFc q h) hFc (fun v H locs hp hz hk hS => ?_)
        obtain ⟨rfl, hP1, hD1⟩ := hp
        (try dsimp only at hP1 hD1)
        have hP : va_P D vwCl [(y, .inr (4, [.int (j_stT (j_X2_isNone a1) (0 : Int32)), .ref n2, .int kn2, .int (td + 1)])), (n2, .inl (cJ, 8, .inr (.inl (vp_updL g a1.toNatClampNeg v_9))))] H := hP1
        have hD : va_D A [(y, .inr (4, [.int (j_stT (j_X2_isNone a1) (0 : Int32)), .ref n2, .int kn2, .int (td + 1)])), (n2, .inl (cJ, 8, .inr (.inl (vp_updL g a1.toNatClampNeg v_9))))] := hD1.weaken (fun _ q _ h => hFc q.1 h)
        refine W.eq (g2 := F0 m 102 ls [.int (j_X2_secondOf v_9)]) rfl ?_
        refine lv_pop hx hb dX2_walk_102 rfl ?_
        refine lv_iload hx hb dX2_walk_103 (lv_at hl 5 rfl) ?_
        exact k_iret hx hb hr hlocks hS dX2_walk_105 ⟨by rw [hJ], by rw [hJ]; (try dsimp only); exact hP, by rw [hJ]; (try dsimp only); exact hD⟩
      · refine lv_iconst (v := 0) hx hb dX2_walk_34 (by decide) ?_
        exact k_iret hx hb hr hlocks hS dX2_walk_35 ⟨by rw [hJ, if_pos c_1, if_neg c_6, if_neg c_7], by rw [hJ, if_pos c_1, if_neg c_6, if_neg c_7]; (try dsimp only); exact hP, by rw [hJ, if_pos c_1, if_neg c_6, if_neg c_7]; (try dsimp only); exact hD⟩
    · refine lv_iconst (v := 1) hx hb dX2_walk_23 (by decide) ?_
      refine lv_goto (tgt := 28) hx hb dX2_walk_24 (by decide) ?_
      have hFc := va_free (wc := [(y, .inr (4, [.int th, .ref n2, .int kn2, .int td])), (n2, .inl (cJ, 8, .inr (.inl g)))]) hD hS hA [0, 1] rfl
      refine k_go (va_runV (As := [.int (j_X2_isNone a1), .int 1]) (rest := []) ⟨hx, hb, hml, hown, hts⟩ (cq_X2_isStopped l D cB cJ _ y n2 th g kn2 td hP (hD.weaken (fun _ _ _ _ => trivial)) (j_X2_isNone a1) (1 : Int32)) (cwV 2 hts gX2_walk_X2_isStopped rfl rfl rfl (by decide +kernel) ⟨(Nat.le_of_ble_eq_true rfl), (Nat.le_of_ble_eq_true rfl)⟩) (k_preV hE hS hFc (va_recv hK hP (ci := 4) (q0 := 0) rfl rfl)) rfl rfl hl.1 rfl (lv_room (Nat.le_of_ble_eq_true rfl)) dX2_walk_28 ⟨(Nat.le_of_ble_eq_true rfl), (Nat.le_of_ble_eq_true rfl)⟩) hS (fun q _ h => hFc q h) hFc (fun v H locs hp hz hk hS => ?_)
      obtain ⟨rfl, hP1, hD1⟩ := hp
      (try dsimp only at hP1 hD1)
      have hP : va_P D vwCl [(y, .inr (4, [.int (j_stT (j_X2_isNone a1) (1 : Int32)), .ref n2, .int kn2, .int td])), (n2, .inl (cJ, 8, .inr (.inl g)))] H := hP1
      have hD : va_D A [(y, .inr (4, [.int (j_stT (j_X2_isNone a1) (1 : Int32)), .ref n2, .int kn2, .int td])), (n2, .inl (cJ, 8, .inr (.inl g)))] := hD1.weaken (fun _ q _ h => hFc q.1 h)
      refine W.eq (g2 := F0 m 31 ls [.int (j_stR (j_X2_isNone a1) (1 : Int32))]) rfl ?_
      refine lv_if_eq (tgt := 36) hx hb dX2_walk_31 (by decide) (fun c_11 => ?_) (fun c_11 => ?_)
      · refine lv_iconst (v := 0) hx hb dX2_walk_36 (by decide) ?_
        refine lv_istore (lv' := [(5, .int 0), (0, .ref y), (1, .int a1), (2, .int a2), (3, .int a3), (4, .int a4)]) hx hb dX2_walk_37 hl (by decide) rfl (fun ls hl => ?_)
        refine lv_aload_n hx hb dX2_walk_39 rfl (lv_at hl 1 rfl) ?_
        refine va_get (D := D) (ci := 4) (v := .ref n2) (C := RX2) (T := TX2) (N := 4) hx hb hts iw_X2_walk_X2 hown hK hP 0 rfl rfl 1 (by decide) (hts (.fieldLink RX2 9 "ClocksoloModel" "its" "[J") (by decide +kernel)) (fun _ h9 => h9) rfl dX2_walk_40 ?_
        refine lv_iload_n hx hb dX2_walk_43 rfl (lv_at hl 2 rfl) ?_
        refine va_lald hx hb hK hP 1 1 rfl rfl (((hT.1 c_1).1 c_6).1 c_11).1 dX2_walk_44 ?_
        refine lv_lstore (lv' := [(6, .long (g a1.toNatClampNeg)), (5, .int 0), (0, .ref y), (1, .int a1), (2, .int a2), (3, .int a3), (4, .int a4)]) hx hb dX2_walk_45 hl (by decide) rfl (fun ls hl => ?_)
        refine lv_iconst (v := 0) hx hb dX2_walk_47 (by decide) ?_
        refine lv_istore (lv' := [(8, .int 0), (6, .long (g a1.toNatClampNeg)), (5, .int 0), (0, .ref y), (1, .int a1), (2, .int a2), (3, .int a3), (4, .int a4)]) hx hb dX2_walk_48 hl (by decide) rfl (fun ls hl => ?_)
        refine lp_X2_walk_50 y n2 th g kn2 td a1 a2 a3 a4  (j_X2_walk th g kn2 td a1 a2 a3 a4) hx hb hml hr hlocks hown hts hE hP hD (fun (v_12 : Int32) (v_13 : Int64) (v_14 : Int32) => (v_12, (j_stT (j_X2_isNone a1) (1 : Int32)), (vp_updL g a1.toNatClampNeg v_13), kn2, (td + 1))) (fun (v_12 : Int32) (v_13 : Int64) (v_14 : Int32) => (T_X2_set (j_stT (j_X2_isNone a1) (1 : Int32)) g kn2 td a1 v_13 ∧ True)) (fun v_12 v_13 v_14 locs ls hJ hT hS hl => ?_) 100 0 (g a1.toNatClampNeg) 0 _ _ (hJ.trans (by rw [if_pos c_1, if_pos c_6, if_pos c_11])) (((hT.1 c_1).1 c_6).1 c_11).2 hS (lv_sub hl [3, 4, 5, 6, 7, 2, 1, 0] rfl)
        (try dsimp only at hJ); (try dsimp only at hT)
        refine lv_aload_n hx hb dX2_walk_95 rfl (lv_at hl 0 rfl) ?_
        refine lv_iload_n hx hb dX2_walk_96 rfl (lv_at hl 1 rfl) ?_
        refine lv_lload hx hb dX2_walk_97 (lv_at hl 6 rfl) ?_
        have hFc := va_free (wc := [(y, .inr (4, [.int (j_stT (j_X2_isNone a1) (1 : Int32)), .ref n2, .int kn2, .int td])), (n2, .inl (cJ, 8, .inr (.inl g)))]) hD hS hA [0, 1] rfl
        refine k_go (va_runV (As := [.int a1, .long v_13]) (rest := []) ⟨hx, hb, hml, hown, hts⟩ (cq_X2_set l D cB cJ _ y n2 (j_stT (j_X2_isNone a1) (1 : Int32)) g kn2 td hP (hD.weaken (fun _ _ _ _ => trivial)) a1 v_13 hT.1) (cwV 2 hts gX2_walk_X2_set rfl rfl rfl (by decide +kernel) ⟨(Nat.le_of_ble_eq_true rfl), (Nat.le_of_ble_eq_true rfl)⟩) (k_preV hE hS hFc (va_recv hK hP (ci := 4) (q0 := 0) rfl rfl)) rfl rfl hl.1 rfl (lv_room (Nat.le_of_ble_eq_true rfl)) dX2_walk_99 ⟨(Nat.le_of_ble_eq_true rfl), (Nat.le_of_ble_eq_true rfl)⟩) hS (fun q _ h => hFc q h) hFc (fun v H locs hp hz hk hS => ?_)
        obtain ⟨rfl, hP1, hD1⟩ := hp
        (try dsimp only at hP1 hD1)
        have hP : va_P D vwCl [(y, .inr (4, [.int (j_stT (j_X2_isNone a1) (1 : Int32)), .ref n2, .int kn2, .int (td + 1)])), (n2, .inl (cJ, 8, .inr (.inl (vp_updL g a1.toNatClampNeg v_13))))] H := hP1
        have hD : va_D A [(y, .inr (4, [.int (j_stT (j_X2_isNone a1) (1 : Int32)), .ref n2, .int kn2, .int (td + 1)])), (n2, .inl (cJ, 8, .inr (.inl (vp_updL g a1.toNatClampNeg v_13))))] := hD1.weaken (fun _ q _ h => hFc q.1 h)
        refine W.eq (g2 := F0 m 102 ls [.int (j_X2_secondOf v_13)]) rfl ?_
        refine lv_pop hx hb dX2_walk_102 rfl ?_
        refine lv_iload hx hb dX2_walk_103 (lv_at hl 5 rfl) ?_
        exact k_iret hx hb hr hlocks hS dX2_walk_105 ⟨by rw [hJ], by rw [hJ]; (try dsimp only); exact hP, by rw [hJ]; (try dsimp only); exact hD⟩
      · refine lv_iconst (v := 0) hx hb dX2_walk_34 (by decide) ?_
        exact k_iret hx hb hr hlocks hS dX2_walk_35 ⟨by rw [hJ, if_pos c_1, if_pos c_6, if_neg c_11], by rw [hJ, if_pos c_1, if_pos c_6, if_neg c_11]; (try dsimp only); exact hP, by rw [hJ, if_pos c_1, if_pos c_6, if_neg c_11]; (try dsimp only); exact hD⟩
abbrev rm_X2_kinds : Room := { frames := 1, cells := 0, slots := 0, locals := 24 }
theorem iw_X2_kinds_X2 : ∀ w ∈ wsX20, w ∈ wsX2_kinds := by decide +kernel
def j_X2_kinds (th : Int32) (g : Nat → Int64) (kn2 td : Int32)  : Int32 × Int32 × (Nat → Int64) × Int32 × Int32 := ((j_X2_unlike 0 g kn2 td), 0, g, kn2, td)
def T_X2_kinds (th : Int32) (g : Nat → Int64) (kn2 td : Int32)  : Prop := (T_X2_unlike 0 g kn2 td ∧ True)
set_option maxHeartbeats 4000000 in
set_option maxRecDepth 100000 in
theorem c_X2_kinds (l : Launch) (D : va_G) (cB cJ : ClassId) (Hp : Heap) (y n2 : Nat) (th : Int32) (g : Nat → Int64) (kn2 td : Int32) (hP : va_P D vwCl (wMo y n2 cJ th g kn2 td) Hp) (hD9 : va_D (fun _ => True) (wMo y n2 cJ th g kn2 td))  (hT9 : T_X2_kinds th g kn2 td ) : kM l D cB cJ yX2_kinds wsX2_kinds rm_X2_kinds (va_A (wMo y n2 cJ th g kn2 td) Hp.size) Hp [.ref y] (kPm D y n2 cJ (va_A (wMo y n2 cJ th g kn2 td) Hp.size) (j_X2_kinds th g kn2 td )) 0 0 := by
  refine Met.ofW (cc := cX2_kinds) (maxL := 1) (ret := (some .int)) (by decide) rfl ?_
  intro p e s m args below meth c s₁ B hml hv
  obtain ⟨rfl, hHp, hE⟩ := hv
  subst hHp
  have hx := B.exec
  have hb := B.bytes
  have hr := B.returns
  have hts := atoms_spec (ws := wsX2_kinds) B.pre
  have hown : s.vm.findClass RX2 = some m.cls := findClass_of_methodNamed B.named
  have hlocks := B.notSynchronized
  have hK := hE.1
  have hD := hD9.self (sz := s.heap.size)
  generalize hAe : va_A (wMo y n2 cJ th g kn2 td) s.heap.size = A at hE hD ⊢
  have hA : ∀ q : Nat, s.heap.size ≤ q → A q := fun q h => by rw [← hAe]; exact Or.inr h
  have hS : va_S A s.heap s.heap [] := va_S.rf
  have hl := lv_entry ([.ref y]) (n := 1) (Nat.le_of_ble_eq_true rfl)
  rw [lg_entry_eq]
  generalize (lg_sl ([.ref y]) ++ List.replicate (1 - (lg_sl ([.ref y])).length) Slot.unset).toArray = ls at hl ⊢
  have hl : lv_has ls 1 [(0, .ref y)] := hl
  have hJ : (j_X2_kinds th g kn2 td ) = ((j_X2_unlike 0 g kn2 td), 0, g, kn2, td) := rfl
  have hT : (T_X2_unlike 0 g kn2 td ∧ True) := hT9
  refine lv_aload_n hx hb dX2_kinds_0 rfl (lv_at hl 0 rfl) ?_
  refine lv_iconst (v := 0) hx hb dX2_kinds_1 (by decide) ?_
  refine va_put (D := D) (ci := 4) (v := .int 0) (ty := .int) (C := RX2) (T := TX2) (N := 4) hx hb hts iw_X2_kinds_X2 tyX2 tyX2_ok nmX2 hown hK hP hD hS 0 rfl rfl 0 (by decide) (hts (.fieldLink RX2 13 "ClocksoloModel" "thrown" "I") (by decide +kernel)) (fun _ h9 => h9) rfl (by decide +kernel) rfl rfl (Nat.le_of_ble_eq_true rfl) dX2_kinds_2 (fun H locs hP hD hS => ?_)
  have hP : va_P D vwCl [(y, .inr (4, [.int 0, .ref n2, .int kn2, .int td])), (n2, .inl (cJ, 8, .inr (.inl g)))] H := hP
  have hD : va_D A [(y, .inr (4, [.int 0, .ref n2, .int kn2, .int td])), (n2, .inl (cJ, 8, .inr (.inl g)))] := hD
  refine lv_aload_n hx hb dX2_kinds_5 rfl (lv_at hl 0 rfl) ?_
  refine k_pV [] (rest := []) ⟨hx, hb, hml, hown, hts⟩ (c_X2_unlike l D cB cJ _ y n2 0 g kn2 td (hP.sub [0, 1] rfl) hT.1) (cwV 0 hts gX2_kinds_X2_unlike rfl rfl rfl (by decide +kernel) ⟨(Nat.le_of_ble_eq_true rfl), (Nat.le_of_ble_eq_true rfl)⟩) (va_recv hK hP (ci := 4) (q0 := 0) rfl rfl) hE hS rfl rfl hl.1 (Nat.le_of_ble_eq_true rfl) dX2_kinds_6 ⟨(Nat.le_of_ble_eq_true rfl), (Nat.le_of_ble_eq_true rfl)⟩ (fun locs hS => ?_)
  refine W.eq (g2 := F0 m 9 ls [.int (j_X2_unlike 0 g kn2 td)]) rfl ?_
  exact k_iret hx hb hr hlocks hS dX2_kinds_9 ⟨by rw [hJ], by rw [hJ]; (try dsimp only); exact hP, by rw [hJ]; (try dsimp only); exact hD⟩
