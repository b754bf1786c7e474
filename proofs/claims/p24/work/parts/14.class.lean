theorem at_X0_needClock_166 : ∀ w ∈ (vx_atS RX0 166 "java/lang/IndexOutOfBoundsException" ["java/lang/RuntimeException", "java/lang/Exception"]).filter goodWord, w ∈ wsX0_needClock := fun w h => List.mem_cons_of_mem _ (List.mem_append_right _ h)
abbrev rm_X0_needClock : Room := { frames := 7, cells := 1, slots := 6, locals := 110 }
def j_X0_needClock (a0 : Int32) : Option String := (if a0 < 0 then (some "java/lang/IndexOutOfBoundsException") else (if a0 < 8 then none else (some "java/lang/IndexOutOfBoundsException")))
set_option maxHeartbeats 4000000 in
set_option maxRecDepth 100000 in
theorem c_X0_needClock (l : Launch) (hl9 : l.stackTraces = false) (D : va_G) (cB cJ : ClassId) (Hp : Heap) (a0 : Int32) : kV l D cB cJ yX0_needClock wsX0_needClock rm_X0_needClock kF Hp [.int a0] (kNo (j_X0_needClock a0) Hp) (kNx (j_X0_needClock a0)) 1 6 := by
  refine vx_ofW (cc := cX0_needClock) (maxL := 1) (ret := none) (by decide) rfl ?_
  intro p e s m args below meth c s₁ B hml htab hv
  obtain ⟨rfl, hHp, hE⟩ := hv
  subst hHp
  have hx := B.exec
  have hb := B.bytes
  have hr := B.returns
  have hts := atoms_spec (ws := wsX0_needClock) B.pre
  have hown : s.vm.findClass RX0 = some m.cls := findClass_of_methodNamed B.named
  have hlocks := B.notSynchronized
  have hK := hE.1
  have hS : va_S kF s.heap s.heap [] := va_S.rf
  have hl := lv_entry ([.int a0]) (n := 1) (Nat.le_of_ble_eq_true rfl)
  rw [lg_entry_eq]
  generalize (lg_sl ([.int a0]) ++ List.replicate (1 - (lg_sl ([.int a0])).length) Slot.unset).toArray = ls at hl ⊢
  have hl : lv_has ls 1 [(0, .int a0)] := hl
  obtain ⟨k9, hk9⟩ := hE.2.2.1
  refine lv_iload_n hx hb dX0_needClock_0 rfl (lv_at hl 0 rfl) ?_
  refine lv_if_lt (tgt := 10) hx hb dX0_needClock_1 (by decide) (fun c_1 => ?_) (fun c_1 => ?_)
  · exact vx_throwS hx hb hl9 (own := RX0) (cls := "java/lang/IndexOutOfBoundsException") (text := "no such clock") (names := ["java/lang/RuntimeException", "java/lang/Exception"]) (ik := 162) (is := 164) (ic := 166) (sa := k9 0) hown (by decide) (by decide) (hts (.classLink RX0 162 "java/lang/IndexOutOfBoundsException") (by decide +kernel)) (hts (.initialized "java/lang/IndexOutOfBoundsException") (by decide +kernel)) (hk9 0 _ rfl) (vx_hat (fun w h => hts w (at_X0_needClock_166 w h)) (fun w h => by rw [atn_166] at h; exact h) (hE.2.2.2.1.bad hE.2.2.2.1.1)) atg_166 hE.2.1.2.2.2.2.2.2.2.2.1 hE.2.1.2.2.2.2.2.2.2.2.2 hS (hl.1.trans hml.symm) dX0_needClock_10 dX0_needClock_13 dX0_needClock_14 dX0_needClock_16 dX0_needClock_19 (fun x hx9 => (htab x hx9).elim) (Nat.le_of_ble_eq_true rfl) (Nat.le_of_ble_eq_true rfl) (Nat.le_of_ble_eq_true rfl) (Nat.le_of_ble_eq_true rfl) hlocks (fun t _ hz hk => ⟨(show j_X0_needClock a0 = some _ from by rw [j_X0_needClock, if_pos c_1]), k_F hS hz hk⟩) hS.2.2 (Nat.le_of_ble_eq_true rfl) (Nat.le_of_ble_eq_true rfl)
  · refine lv_iload_n hx hb dX0_needClock_4 rfl (lv_at hl 0 rfl) ?_
    refine lv_bipush (v := 8) hx hb dX0_needClock_5 (by decide) ?_
    refine lv_icmp_lt (tgt := 20) hx hb dX0_needClock_7 (by decide) (fun c_2 => ?_) (fun c_2 => ?_)
    · refine W.widen (k := 1) (n := 6) (Nat.le_of_ble_eq_true rfl) (Nat.le_of_ble_eq_true rfl) ?_
      exact vx_ret (k_vret hx hb hr hlocks hS dX0_needClock_20 ⟨rfl, rfl, by rw [j_X0_needClock, if_neg c_1, if_pos c_2]⟩)
    · exact vx_throwS hx hb hl9 (own := RX0) (cls := "java/lang/IndexOutOfBoundsException") (text := "no such clock") (names := ["java/lang/RuntimeException", "java/lang/Exception"]) (ik := 162) (is := 164) (ic := 166) (sa := k9 0) hown (by decide) (by decide) (hts (.classLink RX0 162 "java/lang/IndexOutOfBoundsException") (by decide +kernel)) (hts (.initialized "java/lang/IndexOutOfBoundsException") (by decide +kernel)) (hk9 0 _ rfl) (vx_hat (fun w h => hts w (at_X0_needClock_166 w h)) (fun w h => by rw [atn_166] at h; exact h) (hE.2.2.2.1.bad hE.2.2.2.1.1)) atg_166 hE.2.1.2.2.2.2.2.2.2.2.1 hE.2.1.2.2.2.2.2.2.2.2.2 hS (hl.1.trans hml.symm) dX0_needClock_10 dX0_needClock_13 dX0_needClock_14 dX0_needClock_16 dX0_needClock_19 (fun x hx9 => (htab x hx9).elim) (Nat.le_of_ble_eq_true rfl) (Nat.le_of_ble_eq_true rfl) (Nat.le_of_ble_eq_true rfl) (Nat.le_of_ble_eq_true rfl) hlocks (fun t _ hz hk => ⟨(show j_X0_needClock a0 = some _ from by rw [j_X0_needClock, if_neg c_1, if_neg c_2]), k_F hS hz hk⟩) hS.2.2 (Nat.le_of_ble_eq_true rfl) (Nat.le_of_ble_eq_true rfl)
theorem at_X0_needPart_56 : ∀ w ∈ (vx_atS RX0 56 "java/lang/IllegalArgumentException" ["java/lang/RuntimeException", "java/lang/Exception"]).filter goodWord, w ∈ wsX0_needPart := fun w h => List.mem_cons_of_mem _ (List.mem_append_right _ h)
abbrev rm_X0_needPart : Room := { frames := 7, cells := 1, slots := 6, locals := 110 }
def j_X0_needPart (a0 : Int32) (a1 : Int32) : Option String := (if a0 < 0 then (some "java/lang/IllegalArgumentException") else (if a0 < 4 then (if a1 < 0 then (some "java/lang/IllegalArgumentException") else (if a1 < (t_PE a0.toNatClampNeg) then none else (some "java/lang/IllegalArgumentException"))) else (some "java/lang/IllegalArgumentException")))
set_option maxHeartbeats 4000000 in
set_option maxRecDepth 100000 in
theorem c_X0_needPart (l : Launch) (hl9 : l.stackTraces = false) (D : va_G) (cB cJ : ClassId) (Hp : Heap) (a0 : Int32) (a1 : Int32) : kV l D cB cJ yX0_needPart wsX0_needPart rm_X0_needPart kF Hp [.int a0, .int a1] (kNo (j_X0_needPart a0 a1) Hp) (kNx (j_X0_needPart a0 a1)) 1 6 := by
  refine vx_ofW (cc := cX0_needPart) (maxL := 2) (ret := none) (by decide) rfl ?_
  intro p e s m args below meth c s₁ B hml htab hv
  obtain ⟨rfl, hHp, hE⟩ := hv
  subst hHp
  have hx := B.exec
  have hb := B.bytes
  have hr := B.returns
  have hts := atoms_spec (ws := wsX0_needPart) B.pre
  have hown : s.vm.findClass RX0 = some m.cls := findClass_of_methodNamed B.named
  have hlocks := B.notSynchronized
  have hK := hE.1
  have hS : va_S kF s.heap s.heap [] := va_S.rf
  have hl := lv_entry ([.int a0, .int a1]) (n := 2) (Nat.le_of_ble_eq_true rfl)
  rw [lg_entry_eq]
  generalize (lg_sl ([.int a0, .int a1]) ++ List.replicate (2 - (lg_sl ([.int a0, .int a1])).length) Slot.unset).toArray = ls at hl ⊢
  have hl : lv_has ls 2 [(0, .int a0), (1, .int a1)] := hl
  obtain ⟨k9, hk9⟩ := hE.2.2.1
  obtain ⟨t2, hZ2, hT2⟩ := hE.2.1.2.1
  refine lv_iload_n hx hb dX0_needPart_0 rfl (lv_at hl 0 rfl) ?_
  refine lv_if_lt (tgt := 12) hx hb dX0_needPart_1 (by decide) (fun c_1 => ?_) (fun c_1 => ?_)
  · exact vx_throwS hx hb hl9 (own := RX0) (cls := "java/lang/IllegalArgumentException") (text := "no such part") (names := ["java/lang/RuntimeException", "java/lang/Exception"]) (ik := 52) (is := 171) (ic := 56) (sa := k9 1) hown (by decide) (by decide) (hts (.classLink RX0 52 "java/lang/IllegalArgumentException") (by decide +kernel)) (hts (.initialized "java/lang/IllegalArgumentException") (by decide +kernel)) (hk9 1 _ rfl) (vx_hat (fun w h => hts w (at_X0_needPart_56 w h)) (fun w h => by rw [atn_56] at h; exact h) (hE.2.2.2.1.bad hE.2.2.2.1.2.1)) atg_56 hE.2.1.2.2.2.2.2.2.2.2.1 hE.2.1.2.2.2.2.2.2.2.2.2 hS (hl.1.trans hml.symm) dX0_needPart_12 dX0_needPart_15 dX0_needPart_16 dX0_needPart_18 dX0_needPart_21 (fun x hx9 => (htab x hx9).elim) (Nat.le_of_ble_eq_true rfl) (Nat.le_of_ble_eq_true rfl) (Nat.le_of_ble_eq_true rfl) (Nat.le_of_ble_eq_true rfl) hlocks (fun t _ hz hk => ⟨(show j_X0_needPart a0 a1 = some _ from by rw [j_X0_needPart, if_pos c_1]), k_F hS hz hk⟩) hS.2.2 (Nat.le_of_ble_eq_true rfl) (Nat.le_of_ble_eq_true rfl)
  · refine lv_iload_n hx hb dX0_needPart_4 rfl (lv_at hl 0 rfl) ?_
    refine va_gets hx hb hZ2 hS hown (hts (.fieldLink RX0 167 "Clocksolo" "PART_ENDS" "[I") (by decide +kernel)) (fun _ h9 => h9) dX0_needPart_5 ?_
    refine va_tlen hx hb hT2 hS (v := 4) rfl dX0_needPart_8 ?_
    refine lv_icmp_lt (tgt := 22) hx hb dX0_needPart_9 (by decide) (fun c_2 => ?_) (fun c_2 => ?_)
    · refine lv_iload_n hx hb dX0_needPart_22 rfl (lv_at hl 1 rfl) ?_
      refine lv_if_lt (tgt := 35) hx hb dX0_needPart_23 (by decide) (fun c_3 => ?_) (fun c_3 => ?_)
      · exact vx_throwS hx hb hl9 (own := RX0) (cls := "java/lang/IllegalArgumentException") (text := "this part can't be that") (names := ["java/lang/RuntimeException", "java/lang/Exception"]) (ik := 52) (is := 173) (ic := 56) (sa := k9 4) hown (by decide) (by decide) (hts (.classLink RX0 52 "java/lang/IllegalArgumentException") (by decide +kernel)) (hts (.initialized "java/lang/IllegalArgumentException") (by decide +kernel)) (hk9 4 _ rfl) (vx_hat (fun w h => hts w (at_X0_needPart_56 w h)) (fun w h => by rw [atn_56] at h; exact h) (hE.2.2.2.1.bad hE.2.2.2.1.2.1)) atg_56 hE.2.1.2.2.2.2.2.2.2.2.1 hE.2.1.2.2.2.2.2.2.2.2.2 hS (hl.1.trans hml.symm) dX0_needPart_35 dX0_needPart_38 dX0_needPart_39 dX0_needPart_41 dX0_needPart_44 (fun x hx9 => (htab x hx9).elim) (Nat.le_of_ble_eq_true rfl) (Nat.le_of_ble_eq_true rfl) (Nat.le_of_ble_eq_true rfl) (Nat.le_of_ble_eq_true rfl) hlocks (fun t _ hz hk => ⟨(show j_X0_needPart a0 a1 = some _ from by rw [j_X0_needPart, if_neg c_1, if_pos c_2, if_pos c_3]), k_F hS hz hk⟩) hS.2.2 (Nat.le_of_ble_eq_true rfl) (Nat.le_of_ble_eq_true rfl)
      · refine lv_iload_n hx hb dX0_needPart_26 rfl (lv_at hl 1 rfl) ?_
        refine va_gets hx hb hZ2 hS hown (hts (.fieldLink RX0 167 "Clocksolo" "PART_ENDS" "[I") (by decide +kernel)) (fun _ h9 => h9) dX0_needPart_27 ?_
        refine lv_iload_n hx hb dX0_needPart_30 rfl (lv_at hl 0 rfl) ?_
        refine va_ti hx hb hT2 hS (v := .int (t_PE a0.toNatClampNeg)) (k_in' c_1 c_2 (by decide) (by decide)) rfl dX0_needPart_31 ?_
        refine lv_icmp_lt (tgt := 45) hx hb dX0_needPart_32 (by decide) (fun c_4 => ?_) (fun c_4 => ?_)
        · refine W.widen (k := 1) (n := 6) (Nat.le_of_ble_eq_true rfl) (Nat.le_of_ble_eq_true rfl) ?_
          exact vx_ret (k_vret hx hb hr hlocks hS dX0_needPart_45 ⟨rfl, rfl, by rw [j_X0_needPart, if_neg c_1, if_pos c_2, if_neg c_3, if_pos c_4]⟩)
        · exact vx_throwS hx hb hl9 (own := RX0) (cls := "java/lang/IllegalArgumentException") (text := "this part can't be that") (names := ["java/lang/RuntimeException", "java/lang/Exception"]) (ik := 52) (is := 173) (ic := 56) (sa := k9 4) hown (by decide) (by decide) (hts (.classLink RX0 52 "java/lang/IllegalArgumentException") (by decide +kernel)) (hts (.initialized "java/lang/IllegalArgumentException") (by decide +kernel)) (hk9 4 _ rfl) (vx_hat (fun w h => hts w (at_X0_needPart_56 w h)) (fun w h => by rw [atn_56] at h; exact h) (hE.2.2.2.1.bad hE.2.2.2.1.2.1)) atg_56 hE.2.1.2.2.2.2.2.2.2.2.1 hE.2.1.2.2.2.2.2.2.2.2.2 hS (hl.1.trans hml.symm) dX0_needPart_35 dX0_needPart_38 dX0_needPart_39 dX0_needPart_41 dX0_needPart_44 (fun x hx9 => (htab x hx9).elim) (Nat.le_of_ble_eq_true rfl) (Nat.le_of_ble_eq_true rfl) (Nat.le_of_ble_eq_true rfl) (Nat.le_of_ble_eq_true rfl) hlocks (fun t _ hz hk => ⟨(show j_X0_needPart a0 a1 = some _ from by rw [j_X0_needPart, if_neg c_1, if_pos c_2, if_neg c_3, if_neg c_4]), k_F hS hz hk⟩) hS.2.2 (Nat.le_of_ble_eq_true rfl) (Nat.le_of_ble_eq_true rfl)
    · exact vx_throwS hx hb hl9 (own := RX0) (cls := "java/lang/IllegalArgumentException") (text := "no such part") (names := ["java/lang/RuntimeException", "java/lang/Exception"]) (ik := 52) (is := 171) (ic := 56) (sa := k9 1) hown (by decide) (by decide) (hts (.classLink RX0 52 "java/lang/IllegalArgumentException") (by decide +kernel)) (hts (.initialized "java/lang/IllegalArgumentException") (by decide +kernel)) (hk9 1 _ rfl) (vx_hat (fun w h => hts w (at_X0_needPart_56 w h)) (fun w h => by rw [atn_56] at h; exact h) (hE.2.2.2.1.bad hE.2.2.2.1.2.1)) atg_56 hE.2.1.2.2.2.2.2.2.2.2.1 hE.2.1.2.2.2.2.2.2.2.2.2 hS (hl.1.trans hml.symm) dX0_needPart_12 dX0_needPart_15 dX0_needPart_16 dX0_needPart_18 dX0_needPart_21 (fun x hx9 => (htab x hx9).elim) (Nat.le_of_ble_eq_true rfl) (Nat.le_of_ble_eq_true rfl) (Nat.le_of_ble_eq_true rfl) (Nat.le_of_ble_eq_true rfl) hlocks (fun t _ hz hk => ⟨(show j_X0_needPart a0 a1 = some _ from by rw [j_X0_needPart, if_neg c_1, if_neg c_2]), k_F hS hz hk⟩) hS.2.2 (Nat.le_of_ble_eq_true rfl) (Nat.le_of_ble_eq_true rfl)
theorem at_X0_needSecondOfDay_56 : ∀ w ∈ (vx_atS RX0 56 "java/lang/IllegalArgumentException" ["java/lang/RuntimeException", "java/lang/Exception"]).filter goodWord, w ∈ wsX0_needSecondOfDay := fun w h => List.mem_cons_of_mem _ (List.mem_append_right _ h)
abbrev rm_X0_needSecondOfDay : Room := { frames := 7, cells := 1, slots := 6, locals := 110 }
def j_X0_needSecondOfDay (a0 : Int32) : Option String := (if a0 < 0 then (some "java/lang/IllegalArgumentException") else (if a0 < 86400 then none else (some "java/lang/IllegalArgumentException")))
set_option maxHeartbeats 4000000 in
set_option maxRecDepth 100000 in
theorem c_X0_needSecondOfDay (l : Launch) (hl9 : l.stackTraces = false) (D : va_G) (cB cJ : ClassId) (Hp : Heap) (a0 : Int32) : kV l D cB cJ yX0_needSecondOfDay wsX0_needSecondOfDay rm_X0_needSecondOfDay kF Hp [.int a0] (kNo (j_X0_needSecondOfDay a0) Hp) (kNx (j_X0_needSecondOfDay a0)) 1 6 := by
  refine vx_ofW (cc := cX0_needSecondOfDay) (maxL := 1) (ret := none) (by decide) rfl ?_
  intro p e s m args below meth c s₁ B hml htab hv
  obtain ⟨rfl, hHp, hE⟩ := hv
  subst hHp
  have hx := B.exec
  have hb := B.bytes
  have hr := B.returns
  have hts := atoms_spec (ws := wsX0_needSecondOfDay) B.pre
  have hown : s.vm.findClass RX0 = some m.cls := findClass_of_methodNamed B.named
  have hlocks := B.notSynchronized
  have hK := hE.1
  have hS : va_S kF s.heap s.heap [] := va_S.rf
  have hl := lv_entry ([.int a0]) (n := 1) (Nat.le_of_ble_eq_true rfl)
  rw [lg_entry_eq]
  generalize (lg_sl ([.int a0]) ++ List.replicate (1 - (lg_sl ([.int a0])).length) Slot.unset).toArray = ls at hl ⊢
  have hl : lv_has ls 1 [(0, .int a0)] := hl
  obtain ⟨k9, hk9⟩ := hE.2.2.1
  refine lv_iload_n hx hb dX0_needSecondOfDay_0 rfl (lv_at hl 0 rfl) ?_
  refine lv_if_lt (tgt := 10) hx hb dX0_needSecondOfDay_1 (by decide) (fun c_1 => ?_) (fun c_1 => ?_)
  · exact vx_throwS hx hb hl9 (own := RX0) (cls := "java/lang/IllegalArgumentException") (text := "second is not 0 to 86399") (names := ["java/lang/RuntimeException", "java/lang/Exception"]) (ik := 52) (is := 176) (ic := 56) (sa := k9 3) hown (by decide) (by decide) (hts (.classLink RX0 52 "java/lang/IllegalArgumentException") (by decide +kernel)) (hts (.initialized "java/lang/IllegalArgumentException") (by decide +kernel)) (hk9 3 _ rfl) (vx_hat (fun w h => hts w (at_X0_needSecondOfDay_56 w h)) (fun w h => by rw [atn_56] at h; exact h) (hE.2.2.2.1.bad hE.2.2.2.1.2.1)) atg_56 hE.2.1.2.2.2.2.2.2.2.2.1 hE.2.1.2.2.2.2.2.2.2.2.2 hS (hl.1.trans hml.symm) dX0_needSecondOfDay_10 dX0_needSecondOfDay_13 dX0_needSecondOfDay_14 dX0_needSecondOfDay_16 dX0_needSecondOfDay_19 (fun x hx9 => (htab x hx9).elim) (Nat.le_of_ble_eq_true rfl) (Nat.le_of_ble_eq_true rfl) (Nat.le_of_ble_eq_true rfl) (Nat.le_of_ble_eq_true rfl) hlocks (fun t _ hz hk => ⟨(show j_X0_needSecondOfDay a0 = some _ from by rw [j_X0_needSecondOfDay, if_pos c_1]), k_F hS hz hk⟩) hS.2.2 (Nat.le_of_ble_eq_true rfl) (Nat.le_of_ble_eq_true rfl)
  · refine lv_iload_n hx hb dX0_needSecondOfDay_4 rfl (lv_at hl 0 rfl) ?_
    refine lv_ldc (v := 86400) hx hb hown (hts (.constant RX0 175 (86400)) (by decide +kernel)) dX0_needSecondOfDay_5 ?_
    refine lv_icmp_lt (tgt := 20) hx hb dX0_needSecondOfDay_7 (by decide) (fun c_2 => ?_) (fun c_2 => ?_)
    · refine W.widen (k := 1) (n := 6) (Nat.le_of_ble_eq_true rfl) (Nat.le_of_ble_eq_true rfl) ?_
      exact vx_ret (k_vret hx hb hr hlocks hS dX0_needSecondOfDay_20 ⟨rfl, rfl, by rw [j_X0_needSecondOfDay, if_neg c_1, if_pos c_2]⟩)
    · exact vx_throwS hx hb hl9 (own := RX0) (cls := "java/lang/IllegalArgumentException") (text := "second is not 0 to 86399") (names := ["java/lang/RuntimeException", "java/lang/Exception"]) (ik := 52) (is := 176) (ic := 56) (sa := k9 3) hown (by decide) (by decide) (hts (.classLink RX0 52 "java/lang/IllegalArgumentException") (by decide +kernel)) (hts (.initialized "java/lang/IllegalArgumentException") (by decide +kernel)) (hk9 3 _ rfl) (vx_hat (fun w h => hts w (at_X0_needSecondOfDay_56 w h)) (fun w h => by rw [atn_56] at h; exact h) (hE.2.2.2.1.bad hE.2.2.2.1.2.1)) atg_56 hE.2.1.2.2.2.2.2.2.2.2.1 hE.2.1.2.2.2.2.2.2.2.2.2 hS (hl.1.trans hml.symm) dX0_needSecondOfDay_10 dX0_needSecondOfDay_13 dX0_needSecondOfDay_14 dX0_needSecondOfDay_16 dX0_needSecondOfDay_19 (fun x hx9 => (htab x hx9).elim) (Nat.le_of_ble_eq_true rfl) (Nat.le_of_ble_eq_true rfl) (Nat.le_of_ble_eq_true rfl) (Nat.le_of_ble_eq_true rfl) hlocks (fun t _ hz hk => ⟨(show j_X0_needSecondOfDay a0 = some _ from by rw [j_X0_needSecondOfDay, if_neg c_1, if_neg c_2]), k_F hS hz hk⟩) hS.2.2 (Nat.le_of_ble_eq_true rfl) (Nat.le_of_ble_eq_true rfl)
theorem at_X0_needUnit_56 : ∀ w ∈ (vx_atS RX0 56 "java/lang/IllegalArgumentException" ["java/lang/RuntimeException", "java/lang/Exception"]).filter goodWord, w ∈ wsX0_needUnit := fun w h => List.mem_cons_of_mem _ (List.mem_append_right _ h)
abbrev rm_X0_needUnit : Room := { frames := 7, cells := 1, slots := 6, locals := 110 }
def j_X0_needUnit (a0 : Int32) (a1 : Int32) : Option String := (if a0 < 0 then (some "java/lang/IllegalArgumentException") else (if a0 ≤ a1 then none else (some "java/lang/IllegalArgumentException")))
set_option maxHeartbeats 4000000 in
set_option maxRecDepth 100000 in
theorem c_X0_needUnit (l : Launch) (hl9 : l.stackTraces = false) (D : va_G) (cB cJ : ClassId) (Hp : Heap) (a0 : Int32) (a1 : Int32) : kV l D cB cJ yX0_needUnit wsX0_needUnit rm_X0_needUnit kF Hp [.int a0, .int a1] (kNo (j_X0_needUnit a0 a1) Hp) (kNx (j_X0_needUnit a0 a1)) 1 6 := by
  refine vx_ofW (cc := cX0_needUnit) (maxL := 2) (ret := none) (by decide) rfl ?_
  intro p e s m args below meth c s₁ B hml htab hv
  obtain ⟨rfl, hHp, hE⟩ := hv
  subst hHp
  have hx := B.exec
  have hb := B.bytes
  have hr := B.returns
  have hts := atoms_spec (ws := wsX0_needUnit) B.pre
  have hown : s.vm.findClass RX0 = some m.cls := findClass_of_methodNamed B.named
  have hlocks := B.notSynchronized
  have hK := hE.1
  have hS : va_S kF s.heap s.heap [] := va_S.rf
  have hl := lv_entry ([.int a0, .int a1]) (n := 2) (Nat.le_of_ble_eq_true rfl)
  rw [lg_entry_eq]
  generalize (lg_sl ([.int a0, .int a1]) ++ List.replicate (2 - (lg_sl ([.int a0, .int a1])).length) Slot.unset).toArray = ls at hl ⊢
  have hl : lv_has ls 2 [(0, .int a0), (1, .int a1)] := hl
  obtain ⟨k9, hk9⟩ := hE.2.2.1
  refine lv_iload_n hx hb dX0_needUnit_0 rfl (lv_at hl 0 rfl) ?_
  refine lv_if_lt (tgt := 9) hx hb dX0_needUnit_1 (by decide) (fun c_1 => ?_) (fun c_1 => ?_)
  · exact vx_throwS hx hb hl9 (own := RX0) (cls := "java/lang/IllegalArgumentException") (text := "no such unit") (names := ["java/lang/RuntimeException", "java/lang/Exception"]) (ik := 52) (is := 178) (ic := 56) (sa := k9 2) hown (by decide) (by decide) (hts (.classLink RX0 52 "java/lang/IllegalArgumentException") (by decide +kernel)) (hts (.initialized "java/lang/IllegalArgumentException") (by decide +kernel)) (hk9 2 _ rfl) (vx_hat (fun w h => hts w (at_X0_needUnit_56 w h)) (fun w h => by rw [atn_56] at h; exact h) (hE.2.2.2.1.bad hE.2.2.2.1.2.1)) atg_56 hE.2.1.2.2.2.2.2.2.2.2.1 hE.2.1.2.2.2.2.2.2.2.2.2 hS (hl.1.trans hml.symm) dX0_needUnit_9 dX0_needUnit_12 dX0_needUnit_13 dX0_needUnit_15 dX0_needUnit_18 (fun x hx9 => (htab x hx9).elim) (Nat.le_of_ble_eq_true rfl) (Nat.le_of_ble_eq_true rfl) (Nat.le_of_ble_eq_true rfl) (Nat.le_of_ble_eq_true rfl) hlocks (fun t _ hz hk => ⟨(show j_X0_needUnit a0 a1 = some _ from by rw [j_X0_needUnit, if_pos c_1]), k_F hS hz hk⟩) hS.2.2 (Nat.le_of_ble_eq_true rfl) (Nat.le_of_ble_eq_true rfl)
  · refine lv_iload_n hx hb dX0_needUnit_4 rfl (lv_at hl 0 rfl) ?_
    refine lv_iload_n hx hb dX0_needUnit_5 rfl (lv_at hl 1 rfl) ?_
    refine lv_icmp_le (tgt := 19) hx hb dX0_needUnit_6 (by decide) (fun c_2 => ?_) (fun c_2 => ?_)
    · refine W.widen (k := 1) (n := 6) (Nat.le_of_ble_eq_true rfl) (Nat.le_of_ble_eq_true rfl) ?_
      exact vx_ret (k_vret hx hb hr hlocks hS dX0_needUnit_19 ⟨rfl, rfl, by rw [j_X0_needUnit, if_neg c_1, if_pos c_2]⟩)
    · exact vx_throwS hx hb hl9 (own := RX0) (cls := "java/lang/IllegalArgumentException") (text := "no such unit") (names := ["java/lang/RuntimeException", "java/lang/Exception"]) (ik := 52) (is := 178) (ic := 56) (sa := k9 2) hown (by decide) (by decide) (hts (.classLink RX0 52 "java/lang/IllegalArgumentException") (by decide +kernel)) (hts (.initialized "java/lang/IllegalArgumentException") (by decide +kernel)) (hk9 2 _ rfl) (vx_hat (fun w h => hts w (at_X0_needUnit_56 w h)) (fun w h => by rw [atn_56] at h; exact h) (hE.2.2.2.1.bad hE.2.2.2.1.2.1)) atg_56 hE.2.1.2.2.2.2.2.2.2.2.1 hE.2.1.2.2.2.2.2.2.2.2.2 hS (hl.1.trans hml.symm) dX0_needUnit_9 dX0_needUnit_12 dX0_needUnit_13 dX0_needUnit_15 dX0_needUnit_18 (fun x hx9 => (htab x hx9).elim) (Nat.le_of_ble_eq_true rfl) (Nat.le_of_ble_eq_true rfl) (Nat.le_of_ble_eq_true rfl) (Nat.le_of_ble_eq_true rfl) hlocks (fun t _ hz hk => ⟨(show j_X0_needUnit a0 a1 = some _ from by rw [j_X0_needUnit, if_neg c_1, if_neg c_2]), k_F hS hz hk⟩) hS.2.2 (Nat.le_of_ble_eq_true rfl) (Nat.le_of_ble_eq_true rfl)
theorem at_X0_needStepUnit_56 : ∀ w ∈ (vx_atS RX0 56 "java/lang/IllegalArgumentException" ["java/lang/RuntimeException", "java/lang/Exception"]).filter goodWord, w ∈ wsX0_needStepUnit := fun w h => List.mem_cons_of_mem _ (List.mem_append_right _ h)
abbrev rm_X0_needStepUnit : Room := { frames := 7, cells := 1, slots := 6, locals := 110 }
def j_X0_needStepUnit (a0 : Int32) : Option String := (if (j_X0_isStepUnit a0) = 0 then (some "java/lang/IllegalArgumentException") else none)
set_option maxHeartbeats 4000000 in
set_option maxRecDepth 100000 in
theorem c_X0_needStepUnit (l : Launch) (hl9 : l.stackTraces = false) (D : va_G) (cB cJ : ClassId) (Hp : Heap) (a0 : Int32) : kV l D cB cJ yX0_needStepUnit wsX0_needStepUnit rm_X0_needStepUnit kF Hp [.int a0] (kNo (j_X0_needStepUnit a0) Hp) (kNx (j_X0_needStepUnit a0)) 1 6 := by
  refine vx_ofW (cc := cX0_needStepUnit) (maxL := 1) (ret := none) (by decide) rfl ?_
  intro p e s m args below meth c s₁ B hml htab hv
  obtain ⟨rfl, hHp, hE⟩ := hv
  subst hHp
  have hx := B.exec
  have hb := B.bytes
  have hr := B.returns
  have hts := atoms_spec (ws := wsX0_needStepUnit) B.pre
  have hown : s.vm.findClass RX0 = some m.cls := findClass_of_methodNamed B.named
  have hlocks := B.notSynchronized
  have hK := hE.1
  have hS : va_S kF s.heap s.heap [] := va_S.rf
  have hl := lv_entry ([.int a0]) (n := 1) (Nat.le_of_ble_eq_true rfl)
  rw [lg_entry_eq]
  generalize (lg_sl ([.int a0]) ++ List.replicate (1 - (lg_sl ([.int a0])).length) Slot.unset).toArray = ls at hl ⊢
  have hl : lv_has ls 1 [(0, .int a0)] := hl
  obtain ⟨k9, hk9⟩ := hE.2.2.1
  refine lv_iload_n hx hb dX0_needStepUnit_0 rfl (lv_at hl 0 rfl) ?_
  refine k_pS [.int a0] (rest := []) ⟨hx, hb, hml, hown, hts⟩ (c_X0_isStepUnit l D cB cJ _ a0) (va_cwS 1 hts gX0_needStepUnit_X0_isStepUnit rfl rfl rfl (by decide +kernel) ⟨(Nat.le_of_ble_eq_true rfl), (Nat.le_of_ble_eq_true rfl)⟩) hE hS rfl rfl hl.1 (Nat.le_of_ble_eq_true rfl) dX0_needStepUnit_1 ⟨(Nat.le_of_ble_eq_true rfl), (Nat.le_of_ble_eq_true rfl)⟩ (fun locs hS => ?_)
  refine W.eq (g2 := F0 m 4 ls [.int (j_X0_isStepUnit a0)]) rfl ?_
  refine lv_if_ne (tgt := 17) hx hb dX0_needStepUnit_4 (by decide) (fun c_1 => ?_) (fun c_1 => ?_)
  · refine W.widen (k := 1) (n := 6) (Nat.le_of_ble_eq_true rfl) (Nat.le_of_ble_eq_true rfl) ?_
    exact vx_ret (k_vret hx hb hr hlocks hS dX0_needStepUnit_17 ⟨rfl, rfl, by rw [j_X0_needStepUnit, if_neg c_1]⟩)
  · exact vx_throwS hx hb hl9 (own := RX0) (cls := "java/lang/IllegalArgumentException") (text := "unit is not 0 or 3 to 5") (names := ["java/lang/RuntimeException", "java/lang/Exception"]) (ik := 52) (is := 183) (ic := 56) (sa := k9 6) hown (by decide) (by decide) (hts (.classLink RX0 52 "java/lang/IllegalArgumentException") (by decide +kernel)) (hts (.initialized "java/lang/IllegalArgumentException") (by decide +kernel)) (hk9 6 _ rfl) (vx_hat (fun w h => hts w (at_X0_needStepUnit_56 w h)) (fun w h => by rw [atn_56] at h; exact h) (hE.2.2.2.1.bad hE.2.2.2.1.2.1)) atg_56 hE.2.1.2.2.2.2.2.2.2.2.1 hE.2.1.2.2.2.2.2.2.2.2.2 hS (hl.1.trans hml.symm) dX0_needStepUnit_7 dX0_needStepUnit_10 dX0_needStepUnit_11 dX0_needStepUnit_13 dX0_needStepUnit_16 (fun x hx9 => (htab x hx9).elim) (Nat.le_of_ble_eq_true rfl) (Nat.le_of_ble_eq_true rfl) (Nat.le_of_ble_eq_true rfl) (Nat.le_of_ble_eq_true rfl) hlocks (fun t _ hz hk => ⟨(show j_X0_needStepUnit a0 = some _ from by rw [j_X0_needStepUnit, if_pos c_1]), k_F hS hz hk⟩) hS.2.2 (Nat.le_of_ble_eq_true rfl) (Nat.le_of_ble_eq_true rfl)
abbrev rm_X0_numberOf : Room := { frames := 0, cells := 0, slots := 0, locals := 0 }
theorem iw_X0_numberOf_X0 : ∀ w ∈ wsX00, w ∈ wsX0_numberOf := by decide +kernel
def j_X0_numberOf (kn ch : Int32) (f : Nat → Int64) (a1 : Int32) : Int64 := (if a1 < 0 then 0 else (if 8 ≤ a1 then 0 else (f a1.toNatClampNeg)))
set_option maxHeartbeats 4000000 in
set_option maxRecDepth 100000 in
theorem c_X0_numberOf (l : Launch) (D : va_G) (cB cJ : ClassId) (Hp : Heap) (x n : Nat) (kn ch : Int32) (f : Nat → Int64) (hP : va_P D vwCl (wC x n cJ kn ch f) Hp) (a1 : Int32) : kM l D cB cJ yX0_numberOf wsX0_numberOf rm_X0_numberOf kF Hp [.ref x, .int a1] (kP (some (.long (j_X0_numberOf kn ch f a1))) Hp) 0 0 := by
  refine Met.ofW (cc := cX0_numberOf) (maxL := 2) (ret := (some .long)) (by decide) rfl ?_
  intro p e s m args below meth c s₁ B hml hv
  obtain ⟨rfl, hHp, hE⟩ := hv
  subst hHp
  have hx := B.exec
  have hb := B.bytes
  have hr := B.returns
  have hts := atoms_spec (ws := wsX0_numberOf) B.pre
  have hown : s.vm.findClass RX0 = some m.cls := findClass_of_methodNamed B.named
  have hlocks := B.notSynchronized
  have hK := hE.1
  have hS : va_S kF s.heap s.heap [] := va_S.rf
  have hl := lv_entry ([.ref x, .int a1]) (n := 2) (Nat.le_of_ble_eq_true rfl)
  rw [lg_entry_eq]
  generalize (lg_sl ([.ref x, .int a1]) ++ List.replicate (2 - (lg_sl ([.ref x, .int a1])).length) Slot.unset).toArray = ls at hl ⊢
  have hl : lv_has ls 2 [(0, .ref x), (1, .int a1)] := hl
  have hJ : (j_X0_numberOf kn ch f a1) = (if a1 < 0 then 0 else (if 8 ≤ a1 then 0 else (f a1.toNatClampNeg))) := rfl
  refine lv_iload_n hx hb dX0_numberOf_0 rfl (lv_at hl 1 rfl) ?_
  refine lv_if_lt (tgt := 22) hx hb dX0_numberOf_1 (by decide) (fun c_1 => ?_) (fun c_1 => ?_)
  · refine lv_lconst (v := 0) hx hb dX0_numberOf_22 (by decide) ?_
    exact k_lret hx hb hr hlocks hS dX0_numberOf_23 ⟨by rw [hJ, if_pos c_1], rfl⟩
  · refine lv_iload_n hx hb dX0_numberOf_4 rfl (lv_at hl 1 rfl) ?_
    refine lv_aload_n hx hb dX0_numberOf_5 rfl (lv_at hl 0 rfl) ?_
    refine va_get (D := D) (ci := 2) (v := .ref n) (C := RX0) (T := TX0) (N := 3) hx hb hts iw_X0_numberOf_X0 hown hK hP 0 rfl rfl 0 (by decide) (hts (.fieldLink RX0 9 "Clocksolo" "numbers" "[J") (by decide +kernel)) (fun _ h9 => h9) rfl dX0_numberOf_6 ?_
    refine va_alen hx hb hK hP 1 1 rfl rfl (v := 8) rfl dX0_numberOf_9 ?_
    refine lv_icmp_ge (tgt := 22) hx hb dX0_numberOf_10 (by decide) (fun c_2 => ?_) (fun c_2 => ?_)
    · refine lv_lconst (v := 0) hx hb dX0_numberOf_22 (by decide) ?_
      exact k_lret hx hb hr hlocks hS dX0_numberOf_23 ⟨by rw [hJ, if_neg c_1, if_pos c_2], rfl⟩
    · refine lv_aload_n hx hb dX0_numberOf_13 rfl (lv_at hl 0 rfl) ?_
      refine va_get (D := D) (ci := 2) (v := .ref n) (C := RX0) (T := TX0) (N := 3) hx hb hts iw_X0_numberOf_X0 hown hK hP 0 rfl rfl 0 (by decide) (hts (.fieldLink RX0 9 "Clocksolo" "numbers" "[J") (by decide +kernel)) (fun _ h9 => h9) rfl dX0_numberOf_14 ?_
      refine lv_iload_n hx hb dX0_numberOf_17 rfl (lv_at hl 1 rfl) ?_
      refine va_lald hx hb hK hP 1 1 rfl rfl (k_in c_1 c_2 (by decide) (by decide)) dX0_numberOf_18 ?_
      refine lv_goto (tgt := 23) hx hb dX0_numberOf_19 (by decide) ?_
      exact k_lret hx hb hr hlocks hS dX0_numberOf_23 ⟨by rw [hJ, if_neg c_1, if_neg c_2], rfl⟩
abbrev rm_X0_settle : Room := { frames := 1, cells := 0, slots := 0, locals := 23 }
theorem iw_X0_settle_X0 : ∀ w ∈ wsX00, w ∈ wsX0_settle := by decide +kernel
def j_X0_settle (kn ch : Int32) (f : Nat → Int64) (a1 : Int32) (a2 : Int64) : Int32 × Int32 × Int32 × (Nat → Int64) := (if a1 < 0 then ((j_X0_partOf a2 4), kn, ch, f) else (if 8 ≤ a1 then ((j_X0_partOf a2 4), kn, ch, f) else ((j_X0_partOf a2 4), kn, (ch + 1), (vp_updL f a1.toNatClampNeg a2))))
set_option maxHeartbeats 4000000 in
set_option maxRecDepth 100000 in
theorem c_X0_settle (l : Launch) (D : va_G) (cB cJ : ClassId) (Hp : Heap) (x n : Nat) (kn ch : Int32) (f : Nat → Int64) (hP : va_P D vwCl (wC x n cJ kn ch f) Hp) (hD9 : va_D (fun _ => True) (wC x n cJ kn ch f)) (a1 : Int32) (a2 : Int64) : kM l D cB cJ yX0_settle wsX0_settle rm_X0_settle (va_A (wC x n cJ kn ch f) Hp.size) Hp [.ref x, .int a1, .long a2] (kPs D x n cJ (va_A (wC x n cJ kn ch f) Hp.size) (j_X0_settle kn ch f a1 a2)) 0 0 := by
  refine Met.ofW (cc := cX0_settle) (maxL := 4) (ret := (some .int)) (by decide) rfl ?_
  intro p e s m args below meth c s₁ B hml hv
  obtain ⟨rfl, hHp, hE⟩ := hv
  subst hHp
  have hx := B.exec
  have hb := B.bytes
  have hr := B.returns
  have hts := atoms_spec (ws := wsX0_settle) B.pre
  have hown : s.vm.findClass RX0 = some m.cls := findClass_of_methodNamed B.named
  have hlocks := B.notSynchronized
  have hK := hE.1
  have hD := hD9.self (sz := s.heap.size)
  generalize hAe : va_A (wC x n cJ kn ch f) s.heap.size = A at hE hD ⊢
  have hA : ∀ q : Nat, s.heap.size ≤ q → A q := fun q h => by rw [← hAe]; exact Or.inr h
  have hS : va_S A s.heap s.heap [] := va_S.rf
  have hl := lv_entry ([.ref x, .int a1, .long a2]) (n := 4) (Nat.le_of_ble_eq_true rfl)
  rw [lg_entry_eq]
  generalize (lg_sl ([.ref x, .int a1, .long a2]) ++ List.replicate (4 - (lg_sl ([.ref x, .int a1, .long a2])).length) Slot.unset).toArray = ls at hl ⊢
  have hl : lv_has ls 4 [(0, .ref x), (1, .int a1), (2, .long a2)] := hl
  have hJ : (j_X0_settle kn ch f a1 a2) = (if a1 < 0 then ((j_X0_partOf a2 4), kn, ch, f) else (if 8 ≤ a1 then ((j_X0_partOf a2 4), kn, ch, f) else ((j_X0_partOf a2 4), kn, (ch + 1), (vp_updL f a1.toNatClampNeg a2)))) := rfl
  refine lv_iload_n hx hb dX0_settle_0 rfl (lv_at hl 1 rfl) ?_
  refine lv_if_lt (tgt := 30) hx hb dX0_settle_1 (by decide) (fun c_1 => ?_) (fun c_1 => ?_)
  · refine lv_lload_n hx hb dX0_settle_30 rfl (lv_at hl 2 rfl) ?_
    refine lv_iconst (v := 4) hx hb dX0_settle_31 (by decide) ?_
    refine k_pS [.long a2, .int 4] (rest := []) ⟨hx, hb, hml, hown, hts⟩ (c_X0_partOf l D cB cJ _ a2 4) (va_cwS 2 hts gX0_settle_X0_partOf rfl rfl rfl (by decide +kernel) ⟨(Nat.le_of_ble_eq_true rfl), (Nat.le_of_ble_eq_true rfl)⟩) hE hS rfl rfl hl.1 (Nat.le_of_ble_eq_true rfl) dX0_settle_32 ⟨(Nat.le_of_ble_eq_true rfl), (Nat.le_of_ble_eq_true rfl)⟩ (fun locs hS => ?_)
    refine W.eq (g2 := F0 m 35 ls [.int (j_X0_partOf a2 4)]) rfl ?_
    exact k_iret hx hb hr hlocks hS dX0_settle_35 ⟨by rw [hJ, if_pos c_1], by rw [hJ, if_pos c_1]; (try dsimp only); exact hP, by rw [hJ, if_pos c_1]; (try dsimp only); exact hD⟩
  · refine lv_iload_n hx hb dX0_settle_4 rfl (lv_at hl 1 rfl) ?_
    refine lv_aload_n hx hb dX0_settle_5 rfl (lv_at hl 0 rfl) ?_
    refine va_get (D := D) (ci := 2) (v := .ref n) (C := RX0) (T := TX0) (N := 3) hx hb hts iw_X0_settle_X0 hown hK hP 0 rfl rfl 0 (by decide) (hts (.fieldLink RX0 9 "Clocksolo" "numbers" "[J") (by decide +kernel)) (fun _ h9 => h9) rfl dX0_settle_6 ?_
    refine va_alen hx hb hK hP 1 1 rfl rfl (v := 8) rfl dX0_settle_9 ?_
    refine lv_icmp_ge (tgt := 30) hx hb dX0_settle_10 (by decide) (fun c_2 => ?_) (fun c_2 => ?_)
    · refine lv_lload_n hx hb dX0_settle_30 rfl (lv_at hl 2 rfl) ?_
      refine lv_iconst (v := 4) hx hb dX0_settle_31 (by decide) ?_
      refine k_pS [.long a2, .int 4] (rest := []) ⟨hx, hb, hml, hown, hts⟩ (c_X0_partOf l D cB cJ _ a2 4) (va_cwS 2 hts gX0_settle_X0_partOf rfl rfl rfl (by decide +kernel) ⟨(Nat.le_of_ble_eq_true rfl), (Nat.le_of_ble_eq_true rfl)⟩) hE hS rfl rfl hl.1 (Nat.le_of_ble_eq_true rfl) dX0_settle_32 ⟨(Nat.le_of_ble_eq_true rfl), (Nat.le_of_ble_eq_true rfl)⟩ (fun locs hS => ?_)
      refine W.eq (g2 := F0 m 35 ls [.int (j_X0_partOf a2 4)]) rfl ?_
      exact k_iret hx hb hr hlocks hS dX0_settle_35 ⟨by rw [hJ, if_neg c_1, if_pos c_2], by rw [hJ, if_neg c_1, if_pos c_2]; (try dsimp only); exact hP, by rw [hJ, if_neg c_1, if_pos c_2]; (try dsimp only); exact hD⟩
    · refine lv_aload_n hx hb dX0_settle_13 rfl (lv_at hl 0 rfl) ?_
      refine va_get (D := D) (ci := 2) (v := .ref n) (C := RX0) (T := TX0) (N := 3) hx hb hts iw_X0_settle_X0 hown hK hP 0 rfl rfl 0 (by decide) (hts (.fieldLink RX0 9 "Clocksolo" "numbers" "[J") (by decide +kernel)) (fun _ h9 => h9) rfl dX0_settle_14 ?_
      refine lv_iload_n hx hb dX0_settle_17 rfl (lv_at hl 1 rfl) ?_
      refine lv_lload_n hx hb dX0_settle_18 rfl (lv_at hl 2 rfl) ?_
      refine va_last hx hb hK hP hD hS 1 1 rfl rfl (k_in c_1 c_2 (by decide) (by decide)) dX0_settle_19 (fun H locs hP hD hS => ?_)
      have hP : va_P D vwCl [(x, .inr (2, [.ref n, .int kn, .int ch])), (n, .inl (cJ, 8, .inr (.inl (vp_updL f a1.toNatClampNeg a2))))] H := hP
      have hD : va_D A [(x, .inr (2, [.ref n, .int kn, .int ch])), (n, .inl (cJ, 8, .inr (.inl (vp_updL f a1.toNatClampNeg a2))))] := hD
      refine lv_aload_n hx hb dX0_settle_20 rfl (lv_at hl 0 rfl) ?_
      refine lv_dup hx hb dX0_settle_21 rfl ?_
      refine va_get (D := D) (ci := 2) (v := .int ch) (C := RX0) (T := TX0) (N := 3) hx hb hts iw_X0_settle_X0 hown hK hP 0 rfl rfl 2 (by decide) (hts (.fieldLink RX0 17 "Clocksolo" "changes" "I") (by decide +kernel)) (fun _ h9 => h9) rfl dX0_settle_22 ?_
      refine lv_iconst (v := 1) hx hb dX0_settle_25 (by decide) ?_
      refine lv_iadd hx hb dX0_settle_26 ?_
      refine va_put (D := D) (ci := 2) (v := .int (ch + 1)) (ty := .int) (C := RX0) (T := TX0) (N := 3) hx hb hts iw_X0_settle_X0 tyX0 tyX0_ok nmX0 hown hK hP hD hS 0 rfl rfl 2 (by decide) (hts (.fieldLink RX0 17 "Clocksolo" "changes" "I") (by decide +kernel)) (fun _ h9 => h9) rfl (by decide +kernel) rfl rfl (Nat.le_of_ble_eq_true rfl) dX0_settle_27 (fun H locs hP hD hS => ?_)
      have hP : va_P D vwCl [(x, .inr (2, [.ref n, .int kn, .int (ch + 1)])), (n, .inl (cJ, 8, .inr (.inl (vp_updL f a1.toNatClampNeg a2))))] H := hP
      have hD : va_D A [(x, .inr (2, [.ref n, .int kn, .int (ch + 1)])), (n, .inl (cJ, 8, .inr (.inl (vp_updL f a1.toNatClampNeg a2))))] := hD
      refine lv_lload_n hx hb dX0_settle_30 rfl (lv_at hl 2 rfl) ?_
      refine lv_iconst (v := 4) hx hb dX0_settle_31 (by decide) ?_
      refine k_pS [.long a2, .int 4] (rest := []) ⟨hx, hb, hml, hown, hts⟩ (c_X0_partOf l D cB cJ _ a2 4) (va_cwS 2 hts gX0_settle_X0_partOf rfl rfl rfl (by decide +kernel) ⟨(Nat.le_of_ble_eq_true rfl), (Nat.le_of_ble_eq_true rfl)⟩) hE hS rfl rfl hl.1 (Nat.le_of_ble_eq_true rfl) dX0_settle_32 ⟨(Nat.le_of_ble_eq_true rfl), (Nat.le_of_ble_eq_true rfl)⟩ (fun locs hS => ?_)
      refine W.eq (g2 := F0 m 35 ls [.int (j_X0_partOf a2 4)]) rfl ?_
      exact k_iret hx hb hr hlocks hS dX0_settle_35 ⟨by rw [hJ, if_neg c_1, if_neg c_2], by rw [hJ, if_neg c_1, if_neg c_2]; (try dsimp only); exact hP, by rw [hJ, if_neg c_1, if_neg c_2]; (try dsimp only); exact hD⟩
abbrev rm_X0_tell : Room := { frames := 8, cells := 5, slots := 30, locals := 131 }
def j_X0_tell (kn ch : Int32) (f : Nat → Int64) (a1 : Int32) (a2 : Int32) (a3 : Int32) (a4 : Int32) (a5 : Int32) : Except String (Int32 × Int32 × Int32 × (Nat → Int64)) := (jNeed (j_X0_needClock a1) (jNeed (j_X0_needPart 0 a2) (jNeed (j_X0_needPart 1 a3) (jNeed (j_X0_needPart 2 a4) (jNeed (j_X0_needPart 3 a5) (.ok ((j_X0_settle kn ch f a1 (j_X0_numberOfParts a2 a3 a4 a5)).1, (j_X0_settle kn ch f a1 (j_X0_numberOfParts a2 a3 a4 a5)).2.1, (j_X0_settle kn ch f a1 (j_X0_numberOfParts a2 a3 a4 a5)).2.2.1, (j_X0_settle kn ch f a1 (j_X0_numberOfParts a2 a3 a4 a5)).2.2.2)))))))
set_option maxHeartbeats 4000000 in
set_option maxRecDepth 100000 in
theorem c_X0_tell (l : Launch) (hl9 : l.stackTraces = false) (D : va_G) (cB cJ : ClassId) (Hp : Heap) (x n : Nat) (kn ch : Int32) (f : Nat → Int64) (hP : va_P D vwCl (wC x n cJ kn ch f) Hp) (hD9 : va_D (fun _ => True) (wC x n cJ kn ch f)) (a1 : Int32) (a2 : Int32) (a3 : Int32) (a4 : Int32) (a5 : Int32) : kV l D cB cJ yX0_tell wsX0_tell rm_X0_tell (va_A (wC x n cJ kn ch f) Hp.size) Hp [.ref x, .int a1, .int a2, .int a3, .int a4, .int a5] (kPw D x n cJ (va_A (wC x n cJ kn ch f) Hp.size) (j_X0_tell kn ch f a1 a2 a3 a4 a5)) (kXw (j_X0_tell kn ch f a1 a2 a3 a4 a5) Hp) 5 30 := by
  refine vx_ofW (cc := cX0_tell) (maxL := 6) (ret := (some .int)) (by decide) rfl ?_
  intro p e s m args below meth c s₁ B hml htab hv
  obtain ⟨rfl, hHp, hE⟩ := hv
  subst hHp
  have hx := B.exec
  have hb := B.bytes
  have hr := B.returns
  have hts := atoms_spec (ws := wsX0_tell) B.pre
  have hown : s.vm.findClass RX0 = some m.cls := findClass_of_methodNamed B.named
  have hlocks := B.notSynchronized
  have hK := hE.1
  have hD := hD9.self (sz := s.heap.size)
  generalize hAe : va_A (wC x n cJ kn ch f) s.heap.size = A at hE hD ⊢
  have hA : ∀ q : Nat, s.heap.size ≤ q → A q := fun q h => by rw [← hAe]; exact Or.inr h
  have hS : va_S A s.heap s.heap [] := va_S.rf
  have hl := lv_entry ([.ref x, .int a1, .int a2, .int a3, .int a4, .int a5]) (n := 6) (Nat.le_of_ble_eq_true rfl)
  rw [lg_entry_eq]
  generalize (lg_sl ([.ref x, .int a1, .int a2, .int a3, .int a4, .int a5]) ++ List.replicate (6 - (lg_sl ([.ref x, .int a1, .int a2, .int a3, .int a4, .int a5])).length) Slot.unset).toArray = ls at hl ⊢
  have hl : lv_has ls 6 [(0, .ref x), (1, .int a1), (2, .int a2), (3, .int a3), (4, .int a4), (5, .int a5)] := hl
  have hJ : (j_X0_tell kn ch f a1 a2 a3 a4 a5) = (jNeed (j_X0_needClock a1) (jNeed (j_X0_needPart 0 a2) (jNeed (j_X0_needPart 1 a3) (jNeed (j_X0_needPart 2 a4) (jNeed (j_X0_needPart 3 a5) (.ok ((j_X0_settle kn ch f a1 (j_X0_numberOfParts a2 a3 a4 a5)).1, (j_X0_settle kn ch f a1 (j_X0_numberOfParts a2 a3 a4 a5)).2.1, (j_X0_settle kn ch f a1 (j_X0_numberOfParts a2 a3 a4 a5)).2.2.1, (j_X0_settle kn ch f a1 (j_X0_numberOfParts a2 a3 a4 a5)).2.2.2))))))) := rfl
  refine lv_iload_n hx hb dX0_tell_0 rfl (lv_at hl 1 rfl) ?_
  refine kx_need [.int a1] (rest := []) ⟨hx, hb, hml, hown, hts⟩ (c_X0_needClock l hl9 D cB cJ _ a1) (va_cwS 1 hts gX0_tell_X0_needClock rfl rfl rfl (by decide +kernel) ⟨(Nat.le_of_ble_eq_true rfl), (Nat.le_of_ble_eq_true rfl)⟩) hE hS rfl rfl hl.1 (Nat.le_of_ble_eq_true rfl) dX0_tell_1 ⟨(Nat.le_of_ble_eq_true rfl), (Nat.le_of_ble_eq_true rfl)⟩ (fun E ce q9 H1 locs1 hn9 hz hk hS1 hce hcv hcl => ?_) (fun locs n_1 hS => ?_)
  · exact vx_out (fun x hx9 => (htab x hx9).elim) hlocks hce hcv hcl (fun t ht _ => ⟨⟨by rw [hJ, jNeed_s hn9], by rw [ht]; exact hz, fun q hq => by rw [ht]; exact hk q hq⟩, hS1.F ht⟩) hS1.2.2 (Nat.le_of_ble_eq_true rfl) (Nat.le_of_ble_eq_true rfl)
  refine lv_iconst (v := 0) hx hb dX0_tell_4 (by decide) ?_
  refine lv_iload_n hx hb dX0_tell_5 rfl (lv_at hl 2 rfl) ?_
  refine kx_need [.int 0, .int a2] (rest := []) ⟨hx, hb, hml, hown, hts⟩ (c_X0_needPart l hl9 D cB cJ _ 0 a2) (va_cwS 2 hts gX0_tell_X0_needPart rfl rfl rfl (by decide +kernel) ⟨(Nat.le_of_ble_eq_true rfl), (Nat.le_of_ble_eq_true rfl)⟩) hE hS rfl rfl hl.1 (Nat.le_of_ble_eq_true rfl) dX0_tell_6 ⟨(Nat.le_of_ble_eq_true rfl), (Nat.le_of_ble_eq_true rfl)⟩ (fun E ce q9 H1 locs1 hn9 hz hk hS1 hce hcv hcl => ?_) (fun locs n_2 hS => ?_)
  · exact vx_out (fun x hx9 => (htab x hx9).elim) hlocks hce hcv hcl (fun t ht _ => ⟨⟨by rw [hJ, jNeed_n n_1, jNeed_s hn9], by rw [ht]; exact hz, fun q hq => by rw [ht]; exact hk q hq⟩, hS1.F ht⟩) hS1.2.2 (Nat.le_of_ble_eq_true rfl) (Nat.le_of_ble_eq_true rfl)
  refine lv_iconst (v := 1) hx hb dX0_tell_9 (by decide) ?_
  refine lv_iload_n hx hb dX0_tell_10 rfl (lv_at hl 3 rfl) ?_
  refine kx_need [.int 1, .int a3] (rest := []) ⟨hx, hb, hml, hown, hts⟩ (c_X0_needPart l hl9 D cB cJ _ 1 a3) (va_cwS 2 hts gX0_tell_X0_needPart rfl rfl rfl (by decide +kernel) ⟨(Nat.le_of_ble_eq_true rfl), (Nat.le_of_ble_eq_true rfl)⟩) hE hS rfl rfl hl.1 (Nat.le_of_ble_eq_true rfl) dX0_tell_11 ⟨(Nat.le_of_ble_eq_true rfl), (Nat.le_of_ble_eq_true rfl)⟩ (fun E ce q9 H1 locs1 hn9 hz hk hS1 hce hcv hcl => ?_) (fun locs n_3 hS => ?_)
  · exact vx_out (fun x hx9 => (htab x hx9).elim) hlocks hce hcv hcl (fun t ht _ => ⟨⟨by rw [hJ, jNeed_n n_1, jNeed_n n_2, jNeed_s hn9], by rw [ht]; exact hz, fun q hq => by rw [ht]; exact hk q hq⟩, hS1.F ht⟩) hS1.2.2 (Nat.le_of_ble_eq_true rfl) (Nat.le_of_ble_eq_true rfl)
  refine lv_iconst (v := 2) hx hb dX0_tell_14 (by decide) ?_
  refine lv_iload hx hb dX0_tell_15 (lv_at hl 4 rfl) ?_
  refine kx_need [.int 2, .int a4] (rest := []) ⟨hx, hb, hml, hown, hts⟩ (c_X0_needPart l hl9 D cB cJ _ 2 a4) (va_cwS 2 hts gX0_tell_X0_needPart rfl rfl rfl (by decide +kernel) ⟨(Nat.le_of_ble_eq_true rfl), (Nat.le_of_ble_eq_true rfl)⟩) hE hS rfl rfl hl.1 (Nat.le_of_ble_eq_true rfl) dX0_tell_17 ⟨(Nat.le_of_ble_eq_true rfl), (Nat.le_of_ble_eq_true rfl)⟩ (fun E ce q9 H1 locs1 hn9 hz hk hS1 hce hcv hcl => ?_) (fun locs n_4 hS => ?_)
  · exact vx_out (fun x hx9 => (htab x hx9).elim) hlocks hce hcv hcl (fun t ht _ => ⟨⟨by rw [hJ, jNeed_n n_1, jNeed_n n_2, jNeed_n n_3, jNeed_s hn9], by rw [ht]; exact hz, fun q hq => by rw [ht]; exact hk q hq⟩, hS1.F ht⟩) hS1.2.2 (Nat.le_of_ble_eq_true rfl) (Nat.le_of_ble_eq_true rfl)
  refine lv_iconst (v := 3) hx hb dX0_tell_20 (by decide) ?_
  refine lv_iload hx hb dX0_tell_21 (lv_at hl 5 rfl) ?_
  refine kx_need [.int 3, .int a5] (rest := []) ⟨hx, hb, hml, hown, hts⟩ (c_X0_needPart l hl9 D cB cJ _ 3 a5) (va_cwS 2 hts gX0_tell_X0_needPart rfl rfl rfl (by decide +kernel) ⟨(Nat.le_of_ble_eq_true rfl), (Nat.le_of_ble_eq_true rfl)⟩) hE hS rfl rfl hl.1 (Nat.le_of_ble_eq_true rfl) dX0_tell_23 ⟨(Nat.le_of_ble_eq_true rfl), (Nat.le_of_ble_eq_true rfl)⟩ (fun E ce q9 H1 locs1 hn9 hz hk hS1 hce hcv hcl => ?_) (fun locs n_5 hS => ?_)
  · exact vx_out (fun x hx9 => (htab x hx9).elim) hlocks hce hcv hcl (fun t ht _ => ⟨⟨by rw [hJ, jNeed_n n_1, jNeed_n n_2, jNeed_n n_3, jNeed_n n_4, jNeed_s hn9], by rw [ht]; exact hz, fun q hq => by rw [ht]; exact hk q hq⟩, hS1.F ht⟩) hS1.2.2 (Nat.le_of_ble_eq_true rfl) (Nat.le_of_ble_eq_true rfl)
  refine lv_aload_n hx hb dX0_tell_26 rfl (lv_at hl 0 rfl) ?_
  refine lv_iload_n hx hb dX0_tell_27 rfl (lv_at hl 1 rfl) ?_
  refine lv_iload_n hx hb dX0_tell_28 rfl (lv_at hl 2 rfl) ?_
  refine lv_iload_n hx hb dX0_tell_29 rfl (lv_at hl 3 rfl) ?_
  refine lv_iload hx hb dX0_tell_30 (lv_at hl 4 rfl) ?_
  refine lv_iload hx hb dX0_tell_32 (lv_at hl 5 rfl) ?_
  refine k_pS [.int a2, .int a3, .int a4, .int a5] (rest := [.int a1, .ref x]) ⟨hx, hb, hml, hown, hts⟩ (c_X0_numberOfParts l D cB cJ _ a2 a3 a4 a5) (va_cwS 4 hts gX0_tell_X0_numberOfParts rfl rfl rfl (by decide +kernel) ⟨(Nat.le_of_ble_eq_true rfl), (Nat.le_of_ble_eq_true rfl)⟩) hE hS rfl rfl hl.1 (Nat.le_of_ble_eq_true rfl) dX0_tell_34 ⟨(Nat.le_of_ble_eq_true rfl), (Nat.le_of_ble_eq_true rfl)⟩ (fun locs hS => ?_)
  refine W.eq (g2 := F0 m 37 ls [.long (j_X0_numberOfParts a2 a3 a4 a5), .int a1, .ref x]) rfl ?_
  have hFc := va_free (wc := [(x, .inr (2, [.ref n, .int kn, .int ch])), (n, .inl (cJ, 8, .inr (.inl f)))]) hD hS hA [0, 1] rfl
  refine k_go (va_runV (As := [.int a1, .long (j_X0_numberOfParts a2 a3 a4 a5)]) (rest := []) ⟨hx, hb, hml, hown, hts⟩ (c_X0_settle l D cB cJ _ x n kn ch f hP (hD.weaken (fun _ _ _ _ => trivial)) a1 (j_X0_numberOfParts a2 a3 a4 a5)) (cwV 2 hts gX0_tell_X0_settle rfl rfl rfl (by decide +kernel) ⟨(Nat.le_of_ble_eq_true rfl), (Nat.le_of_ble_eq_true rfl)⟩) (k_preV hE hS hFc (va_recv hK hP (ci := 2) (q0 := 0) rfl rfl)) rfl rfl hl.1 rfl (lv_room (Nat.le_of_ble_eq_true rfl)) dX0_tell_37 ⟨(Nat.le_of_ble_eq_true rfl), (Nat.le_of_ble_eq_true rfl)⟩) hS (fun q _ h => hFc q h) hFc (fun v H locs hp hz hk hS => ?_)
  obtain ⟨rfl, hP1, hD1⟩ := hp
  have hP : va_P D vwCl [(x, .inr (2, [.ref n, .int ((j_X0_settle kn ch f a1 (j_X0_numberOfParts a2 a3 a4 a5)).2.1), .int ((j_X0_settle kn ch f a1 (j_X0_numberOfParts a2 a3 a4 a5)).2.2.1)])), (n, .inl (cJ, 8, .inr (.inl ((j_X0_settle kn ch f a1 (j_X0_numberOfParts a2 a3 a4 a5)).2.2.2))))] H := hP1
  have hD : va_D A [(x, .inr (2, [.ref n, .int ((j_X0_settle kn ch f a1 (j_X0_numberOfParts a2 a3 a4 a5)).2.1), .int ((j_X0_settle kn ch f a1 (j_X0_numberOfParts a2 a3 a4 a5)).2.2.1)])), (n, .inl (cJ, 8, .inr (.inl ((j_X0_settle kn ch f a1 (j_X0_numberOfParts a2 a3 a4 a5)).2.2.2))))] := hD1.weaken (fun _ q _ h => hFc q.1 h)
  refine W.eq (g2 := F0 m 40 ls [.int ((j_X0_settle kn ch f a1 (j_X0_numberOfParts a2 a3 a4 a5)).1)]) rfl ?_
  refine W.widen (k := 5) (n := 30) (Nat.le_of_ble_eq_true rfl) (Nat.le_of_ble_eq_true rfl) ?_
  exact vx_ret (k_iret hx hb hr hlocks hS dX0_tell_40 ⟨((j_X0_settle kn ch f a1 (j_X0_numberOfParts a2 a3 a4 a5)).1, (j_X0_settle kn ch f a1 (j_X0_numberOfParts a2 a3 a4 a5)).2.1, (j_X0_settle kn ch f a1 (j_X0_numberOfParts a2 a3 a4 a5)).2.2.1, (j_X0_settle kn ch f a1 (j_X0_numberOfParts a2 a3 a4 a5)).2.2.2), by rw [hJ, jNeed_n n_1, jNeed_n n_2, jNeed_n n_3, jNeed_n n_4, jNeed_n n_5], rfl, hP, hD⟩)
abbrev rm_X0_tellSecond : Room := { frames := 8, cells := 2, slots := 12, locals := 130 }
def j_X0_tellSecond (kn ch : Int32) (f : Nat → Int64) (a1 : Int32) (a2 : Int32) : Except String (Int32 × Int32 × Int32 × (Nat → Int64)) := (jNeed (j_X0_needClock a1) (jNeed (j_X0_needSecondOfDay a2) (.ok ((j_X0_partOf (j_X0_numberOf ((j_X0_settle kn ch f a1 (a2.toInt64 * 1000000000)).2.1) ((j_X0_settle kn ch f a1 (a2.toInt64 * 1000000000)).2.2.1) ((j_X0_settle kn ch f a1 (a2.toInt64 * 1000000000)).2.2.2) a1) 0), (j_X0_settle kn ch f a1 (a2.toInt64 * 1000000000)).2.1, (j_X0_settle kn ch f a1 (a2.toInt64 * 1000000000)).2.2.1, (j_X0_settle kn ch f a1 (a2.toInt64 * 1000000000)).2.2.2))))
set_option maxHeartbeats 4000000 in
set_option maxRecDepth 100000 in
theorem c_X0_tellSecond (l : Launch) (hl9 : l.stackTraces = false) (D : va_G) (cB cJ : ClassId) (Hp : Heap) (x n : Nat) (kn ch : Int32) (f : Nat → Int64) (hP : va_P D vwCl (wC x n cJ kn ch f) Hp) (hD9 : va_D (fun _ => True) (wC x n cJ kn ch f)) (a1 : Int32) (a2 : Int32) : kV l D cB cJ yX0_tellSecond wsX0_tellSecond rm_X0_tellSecond (va_A (wC x n cJ kn ch f) Hp.size) Hp [.ref x, .int a1, .int a2] (kPw D x n cJ (va_A (wC x n cJ kn ch f) Hp.size) (j_X0_tellSecond kn ch f a1 a2)) (kXw (j_X0_tellSecond kn ch f a1 a2) Hp) 2 12 := by
  refine vx_ofW (cc := cX0_tellSecond) (maxL := 3) (ret := (some .int)) (by decide) rfl ?_
  intro p e s m args below meth c s₁ B hml htab hv
  obtain ⟨rfl, hHp, hE⟩ := hv
  subst hHp
  have hx := B.exec
  have hb := B.bytes
  have hr := B.returns
  have hts := atoms_spec (ws := wsX0_tellSecond) B.pre
  have hown : s.vm.findClass RX0 = some m.cls := findClass_of_methodNamed B.named
  have hlocks := B.notSynchronized
  have hK := hE.1
  have hD := hD9.self (sz := s.heap.size)
  generalize hAe : va_A (wC x n cJ kn ch f) s.heap.size = A at hE hD ⊢
  have hA : ∀ q : Nat, s.heap.size ≤ q → A q := fun q h => by rw [← hAe]; exact Or.inr h
  have hS : va_S A s.heap s.heap [] := va_S.rf
  have hl := lv_entry ([.ref x, .int a1, .int a2]) (n := 3) (Nat.le_of_ble_eq_true rfl)
  rw [lg_entry_eq]
  generalize (lg_sl ([.ref x, .int a1, .int a2]) ++ List.replicate (3 - (lg_sl ([.ref x, .int a1, .int a2])).length) Slot.unset).toArray = ls at hl ⊢
  have hl : lv_has ls 3 [(0, .ref x), (1, .int a1), (2, .int a2)] := hl
  have hJ : (j_X0_tellSecond kn ch f a1 a2) = (jNeed (j_X0_needClock a1) (jNeed (j_X0_needSecondOfDay a2) (.ok ((j_X0_partOf (j_X0_numberOf ((j_X0_settle kn ch f a1 (a2.toInt64 * 1000000000)).2.1) ((j_X0_settle kn ch f a1 (a2.toInt64 * 1000000000)).2.2.1) ((j_X0_settle kn ch f a1 (a2.toInt64 * 1000000000)).2.2.2) a1) 0), (j_X0_settle kn ch f a1 (a2.toInt64 * 1000000000)).2.1, (j_X0_settle kn ch f a1 (a2.toInt64 * 1000000000)).2.2.1, (j_X0_settle kn ch f a1 (a2.toInt64 * 1000000000)).2.2.2)))) := rfl
  refine lv_iload_n hx hb dX0_tellSecond_0 rfl (lv_at hl 1 rfl) ?_
  refine kx_need [.int a1] (rest := []) ⟨hx, hb, hml, hown, hts⟩ (c_X0_needClock l hl9 D cB cJ _ a1) (va_cwS 1 hts gX0_tellSecond_X0_needClock rfl rfl rfl (by decide +kernel) ⟨(Nat.le_of_ble_eq_true rfl), (Nat.le_of_ble_eq_true rfl)⟩) hE hS rfl rfl hl.1 (Nat.le_of_ble_eq_true rfl) dX0_tellSecond_1 ⟨(Nat.le_of_ble_eq_true rfl), (Nat.le_of_ble_eq_true rfl)⟩ (fun E ce q9 H1 locs1 hn9 hz hk hS1 hce hcv hcl => ?_) (fun locs n_1 hS => ?_)
  · exact vx_out (fun x hx9 => (htab x hx9).elim) hlocks hce hcv hcl (fun t ht _ => ⟨⟨by rw [hJ, jNeed_s hn9], by rw [ht]; exact hz, fun q hq => by rw [ht]; exact hk q hq⟩, hS1.F ht⟩) hS1.2.2 (Nat.le_of_ble_eq_true rfl) (Nat.le_of_ble_eq_true rfl)
  refine lv_iload_n hx hb dX0_tellSecond_4 rfl (lv_at hl 2 rfl) ?_
  refine kx_need [.int a2] (rest := []) ⟨hx, hb, hml, hown, hts⟩ (c_X0_needSecondOfDay l hl9 D cB cJ _ a2) (va_cwS 1 hts gX0_tellSecond_X0_needSecondOfDay rfl rfl rfl (by decide +kernel) ⟨(Nat.le_of_ble_eq_true rfl), (Nat.le_of_ble_eq_true rfl)⟩) hE hS rfl rfl hl.1 (Nat.le_of_ble_eq_true rfl) dX0_tellSecond_5 ⟨(Nat.le_of_ble_eq_true rfl), (Nat.le_of_ble_eq_true rfl)⟩ (fun E ce q9 H1 locs1 hn9 hz hk hS1 hce hcv hcl => ?_) (fun locs n_2 hS => ?_)
  · exact vx_out (fun x hx9 => (htab x hx9).elim) hlocks hce hcv hcl (fun t ht _ => ⟨⟨by rw [hJ, jNeed_n n_1, jNeed_s hn9], by rw [ht]; exact hz, fun q hq => by rw [ht]; exact hk q hq⟩, hS1.F ht⟩) hS1.2.2 (Nat.le_of_ble_eq_true rfl) (Nat.le_of_ble_eq_true rfl)
  refine lv_aload_n hx hb dX0_tellSecond_8 rfl (lv_at hl 0 rfl) ?_
  refine lv_iload_n hx hb dX0_tellSecond_9 rfl (lv_at hl 1 rfl) ?_
  refine lv_iload_n hx hb dX0_tellSecond_10 rfl (lv_at hl 2 rfl) ?_
  refine lv_i2l (v := a2.toInt64) hx hb dX0_tellSecond_11 rfl ?_
  refine lv_ldc2 (v := 1000000000) hx hb hown (hts (.constantLong RX0 39 (1000000000)) (by decide +kernel)) dX0_tellSecond_12 ?_
  refine lv_lmul hx hb dX0_tellSecond_15 ?_
  have hFc := va_free (wc := [(x, .inr (2, [.ref n, .int kn, .int ch])), (n, .inl (cJ, 8, .inr (.inl f)))]) hD hS hA [0, 1] rfl
  refine k_go (va_runV (As := [.int a1, .long (a2.toInt64 * 1000000000)]) (rest := []) ⟨hx, hb, hml, hown, hts⟩ (c_X0_settle l D cB cJ _ x n kn ch f hP (hD.weaken (fun _ _ _ _ => trivial)) a1 (a2.toInt64 * 1000000000)) (cwV 2 hts gX0_tellSecond_X0_settle rfl rfl rfl (by decide +kernel) ⟨(Nat.le_of_ble_eq_true rfl), (Nat.le_of_ble_eq_true rfl)⟩) (k_preV hE hS hFc (va_recv hK hP (ci := 2) (q0 := 0) rfl rfl)) rfl rfl hl.1 rfl (lv_room (Nat.le_of_ble_eq_true rfl)) dX0_tellSecond_16 ⟨(Nat.le_of_ble_eq_true rfl), (Nat.le_of_ble_eq_true rfl)⟩) hS (fun q _ h => hFc q h) hFc (fun v H locs hp hz hk hS => ?_)
  obtain ⟨rfl, hP1, hD1⟩ := hp
  have hP : va_P D vwCl [(x, .inr (2, [.ref n, .int ((j_X0_settle kn ch f a1 (a2.toInt64 * 1000000000)).2.1), .int ((j_X0_settle kn ch f a1 (a2.toInt64 * 1000000000)).2.2.1)])), (n, .inl (cJ, 8, .inr (.inl ((j_X0_settle kn ch f a1 (a2.toInt64 * 1000000000)).2.2.2))))] H := hP1
  have hD : va_D A [(x, .inr (2, [.ref n, .int ((j_X0_settle kn ch f a1 (a2.toInt64 * 1000000000)).2.1), .int ((j_X0_settle kn ch f a1 (a2.toInt64 * 1000000000)).2.2.1)])), (n, .inl (cJ, 8, .inr (.inl ((j_X0_settle kn ch f a1 (a2.toInt64 * 1000000000)).2.2.2))))] := hD1.weaken (fun _ q _ h => hFc q.1 h)
  refine W.eq (g2 := F0 m 19 ls [.int ((j_X0_settle kn ch f a1 (a2.toInt64 * 1000000000)).1)]) rfl ?_
  refine lv_pop hx hb dX0_tellSecond_19 rfl ?_
  refine lv_aload_n hx hb dX0_tellSecond_20 rfl (lv_at hl 0 rfl) ?_
  refine lv_iload_n hx hb dX0_tellSecond_21 rfl (lv_at hl 1 rfl) ?_
  refine k_pV [.int a1] (rest := []) ⟨hx, hb, hml, hown, hts⟩ (c_X0_numberOf l D cB cJ _ x n ((j_X0_settle kn ch f a1 (a2.toInt64 * 1000000000)).2.1) ((j_X0_settle kn ch f a1 (a2.toInt64 * 1000000000)).2.2.1) ((j_X0_settle kn ch f a1 (a2.toInt64 * 1000000000)).2.2.2) (hP.sub [0, 1] rfl) a1) (cwV 1 hts gX0_tellSecond_X0_numberOf rfl rfl rfl (by decide +kernel) ⟨(Nat.le_of_ble_eq_true rfl), (Nat.le_of_ble_eq_true rfl)⟩) (va_recv hK hP (ci := 2) (q0 := 0) rfl rfl) hE hS rfl rfl hl.1 (Nat.le_of_ble_eq_true rfl) dX0_tellSecond_22 ⟨(Nat.le_of_ble_eq_true rfl), (Nat.le_of_ble_eq_true rfl)⟩ (fun locs hS => ?_)
  refine W.eq (g2 := F0 m 25 ls [.long (j_X0_numberOf ((j_X0_settle kn ch f a1 (a2.toInt64 * 1000000000)).2.1) ((j_X0_settle kn ch f a1 (a2.toInt64 * 1000000000)).2.2.1) ((j_X0_settle kn ch f a1 (a2.toInt64 * 1000000000)).2.2.2) a1)]) rfl ?_
  refine lv_iconst (v := 0) hx hb dX0_tellSecond_25 (by decide) ?_
  refine k_pS [.long (j_X0_numberOf ((j_X0_settle kn ch f a1 (a2.toInt64 * 1000000000)).2.1) ((j_X0_settle kn ch f a1 (a2.toInt64 * 1000000000)).2.2.1) ((j_X0_settle kn ch f a1 (a2.toInt64 * 1000000000)).2.2.2) a1), .int 0] (rest := []) ⟨hx, hb, hml, hown, hts⟩ (c_X0_partOf l D cB cJ _ (j_X0_numberOf ((j_X0_settle kn ch f a1 (a2.toInt64 * 1000000000)).2.1) ((j_X0_settle kn ch f a1 (a2.toInt64 * 1000000000)).2.2.1) ((j_X0_settle kn ch f a1 (a2.toInt64 * 1000000000)).2.2.2) a1) 0) (va_cwS 2 hts gX0_tellSecond_X0_partOf rfl rfl rfl (by decide +kernel) ⟨(Nat.le_of_ble_eq_true rfl), (Nat.le_of_ble_eq_true rfl)⟩) hE hS rfl rfl hl.1 (Nat.le_of_ble_eq_true rfl) dX0_tellSecond_26 ⟨(Nat.le_of_ble_eq_true rfl), (Nat.le_of_ble_eq_true rfl)⟩ (fun locs hS => ?_)
  refine W.eq (g2 := F0 m 29 ls [.int (j_X0_partOf (j_X0_numberOf ((j_X0_settle kn ch f a1 (a2.toInt64 * 1000000000)).2.1) ((j_X0_settle kn ch f a1 (a2.toInt64 * 1000000000)).2.2.1) ((j_X0_settle kn ch f a1 (a2.toInt64 * 1000000000)).2.2.2) a1) 0)]) rfl ?_
  refine W.widen (k := 2) (n := 12) (Nat.le_of_ble_eq_true rfl) (Nat.le_of_ble_eq_true rfl) ?_
  exact vx_ret (k_iret hx hb hr hlocks hS dX0_tellSecond_29 ⟨((j_X0_partOf (j_X0_numberOf ((j_X0_settle kn ch f a1 (a2.toInt64 * 1000000000)).2.1) ((j_X0_settle kn ch f a1 (a2.toInt64 * 1000000000)).2.2.1) ((j_X0_settle kn ch f a1 (a2.toInt64 * 1000000000)).2.2.2) a1) 0), (j_X0_settle kn ch f a1 (a2.toInt64 * 1000000000)).2.1, (j_X0_settle kn ch f a1 (a2.toInt64 * 1000000000)).2.2.1, (j_X0_settle kn ch f a1 (a2.toInt64 * 1000000000)).2.2.2), by rw [hJ, jNeed_n n_1, jNeed_n n_2], rfl, hP, hD⟩)
abbrev rm_X0_tellNumber : Room := { frames := 8, cells := 3, slots := 18, locals := 131 }
def j_X0_tellNumber (kn ch : Int32) (f : Nat → Int64) (a1 : Int32) (a2 : Int32) (a3 : Int32) : Except String (Int32 × Int32 × Int32 × (Nat → Int64)) := (jNeed (j_X0_needClock a1) (jNeed (j_X0_needSecondOfDay a2) (jNeed (j_X0_needPart 3 a3) (.ok ((j_X0_partOf (j_X0_numberOf ((j_X0_settle kn ch f a1 ((a2.toInt64 * 1000000000) + a3.toInt64)).2.1) ((j_X0_settle kn ch f a1 ((a2.toInt64 * 1000000000) + a3.toInt64)).2.2.1) ((j_X0_settle kn ch f a1 ((a2.toInt64 * 1000000000) + a3.toInt64)).2.2.2) a1) 0), (j_X0_settle kn ch f a1 ((a2.toInt64 * 1000000000) + a3.toInt64)).2.1, (j_X0_settle kn ch f a1 ((a2.toInt64 * 1000000000) + a3.toInt64)).2.2.1, (j_X0_settle kn ch f a1 ((a2.toInt64 * 1000000000) + a3.toInt64)).2.2.2)))))
set_option maxHeartbeats 4000000 in
set_option maxRecDepth 100000 in
theorem c_X0_tellNumber (l : Launch) (hl9 : l.stackTraces = false) (D : va_G) (cB cJ : ClassId) (Hp : Heap) (x n : Nat) (kn ch : Int32) (f : Nat → Int64) (hP : va_P D vwCl (wC x n cJ kn ch f) Hp) (hD9 : va_D (fun _ => True) (wC x n cJ kn ch f)) (a1 : Int32) (a2 : Int32) (a3 : Int32) : kV l D cB cJ yX0_tellNumber wsX0_tellNumber rm_X0_tellNumber (va_A (wC x n cJ kn ch f) Hp.size) Hp [.ref x, .int a1, .int a2, .int a3] (kPw D x n cJ (va_A (wC x n cJ kn ch f) Hp.size) (j_X0_tellNumber kn ch f a1 a2 a3)) (kXw (j_X0_tellNumber kn ch f a1 a2 a3) Hp) 3 18 := by
  refine vx_ofW (cc := cX0_tellNumber) (maxL := 4) (ret := (some .int)) (by decide) rfl ?_
  intro p e s m args below meth c s₁ B hml htab hv
  obtain ⟨rfl, hHp, hE⟩ := hv
  subst hHp
  have hx := B.exec
  have hb := B.bytes
  have hr := B.returns
  have hts := atoms_spec (ws := wsX0_tellNumber) B.pre
  have hown : s.vm.findClass RX0 = some m.cls := findClass_of_methodNamed B.named
  have hlocks := B.notSynchronized
  have hK := hE.1
  have hD := hD9.self (sz := s.heap.size)
  generalize hAe : va_A (wC x n cJ kn ch f) s.heap.size = A at hE hD ⊢
  have hA : ∀ q : Nat, s.heap.size ≤ q → A q := fun q h => by rw [← hAe]; exact Or.inr h
  have hS : va_S A s.heap s.heap [] := va_S.rf
  have hl := lv_entry ([.ref x, .int a1, .int a2, .int a3]) (n := 4) (Nat.le_of_ble_eq_true rfl)
  rw [lg_entry_eq]
  generalize (lg_sl ([.ref x, .int a1, .int a2, .int a3]) ++ List.replicate (4 - (lg_sl ([.ref x, .int a1, .int a2, .int a3])).length) Slot.unset).toArray = ls at hl ⊢
  have hl : lv_has ls 4 [(0, .ref x), (1, .int a1), (2, .int a2), (3, .int a3)] := hl
  have hJ : (j_X0_tellNumber kn ch f a1 a2 a3) = (jNeed (j_X0_needClock a1) (jNeed (j_X0_needSecondOfDay a2) (jNeed (j_X0_needPart 3 a3) (.ok ((j_X0_partOf (j_X0_numberOf ((j_X0_settle kn ch f a1 ((a2.toInt64 * 1000000000) + a3.toInt64)).2.1) ((j_X0_settle kn ch f a1 ((a2.toInt64 * 1000000000) + a3.toInt64)).2.2.1) ((j_X0_settle kn ch f a1 ((a2.toInt64 * 1000000000) + a3.toInt64)).2.2.2) a1) 0), (j_X0_settle kn ch f a1 ((a2.toInt64 * 1000000000) + a3.toInt64)).2.1, (j_X0_settle kn ch f a1 ((a2.toInt64 * 1000000000) + a3.toInt64)).2.2.1, (j_X0_settle kn ch f a1 ((a2.toInt64 * 1000000000) + a3.toInt64)).2.2.2))))) := rfl
  refine lv_iload_n hx hb dX0_tellNumber_0 rfl (lv_at hl 1 rfl) ?_
  refine kx_need [.int a1] (rest := []) ⟨hx, hb, hml, hown, hts⟩ (c_X0_needClock l hl9 D cB cJ _ a1) (va_cwS 1 hts gX0_tellNumber_X0_needClock rfl rfl rfl (by decide +kernel) ⟨(Nat.le_of_ble_eq_true rfl), (Nat.le_of_ble_eq_true rfl)⟩) hE hS rfl rfl hl.1 (Nat.le_of_ble_eq_true rfl) dX0_tellNumber_1 ⟨(Nat.le_of_ble_eq_true rfl), (Nat.le_of_ble_eq_true rfl)⟩ (fun E ce q9 H1 locs1 hn9 hz hk hS1 hce hcv hcl => ?_) (fun locs n_1 hS => ?_)
  · exact vx_out (fun x hx9 => (htab x hx9).elim) hlocks hce hcv hcl (fun t ht _ => ⟨⟨by rw [hJ, jNeed_s hn9], by rw [ht]; exact hz, fun q hq => by rw [ht]; exact hk q hq⟩, hS1.F ht⟩) hS1.2.2 (Nat.le_of_ble_eq_true rfl) (Nat.le_of_ble_eq_true rfl)
  refine lv_iload_n hx hb dX0_tellNumber_4 rfl (lv_at hl 2 rfl) ?_
  refine kx_need [.int a2] (rest := []) ⟨hx, hb, hml, hown, hts⟩ (c_X0_needSecondOfDay l hl9 D cB cJ _ a2) (va_cwS 1 hts gX0_tellNumber_X0_needSecondOfDay rfl rfl rfl (by decide +kernel) ⟨(Nat.le_of_ble_eq_true rfl), (Nat.le_of_ble_eq_true rfl)⟩) hE hS rfl rfl hl.1 (Nat.le_of_ble_eq_true rfl) dX0_tellNumber_5 ⟨(Nat.le_of_ble_eq_true rfl), (Nat.le_of_ble_eq_true rfl)⟩ (fun E ce q9 H1 locs1 hn9 hz hk hS1 hce hcv hcl => ?_) (fun locs n_2 hS => ?_)
  · exact vx_out (fun x hx9 => (htab x hx9).elim) hlocks hce hcv hcl (fun t ht _ => ⟨⟨by rw [hJ, jNeed_n n_1, jNeed_s hn9], by rw [ht]; exact hz, fun q hq => by rw [ht]; exact hk q hq⟩, hS1.F ht⟩) hS1.2.2 (Nat.le_of_ble_eq_true rfl) (Nat.le_of_ble_eq_true rfl)
  refine lv_iconst (v := 3) hx hb dX0_tellNumber_8 (by decide) ?_
  refine lv_iload_n hx hb dX0_tellNumber_9 rfl (lv_at hl 3 rfl) ?_
  refine kx_need [.int 3, .int a3] (rest := []) ⟨hx, hb, hml, hown, hts⟩ (c_X0_needPart l hl9 D cB cJ _ 3 a3) (va_cwS 2 hts gX0_tellNumber_X0_needPart rfl rfl rfl (by decide +kernel) ⟨(Nat.le_of_ble_eq_true rfl), (Nat.le_of_ble_eq_true rfl)⟩) hE hS rfl rfl hl.1 (Nat.le_of_ble_eq_true rfl) dX0_tellNumber_10 ⟨(Nat.le_of_ble_eq_true rfl), (Nat.le_of_ble_eq_true rfl)⟩ (fun E ce q9 H1 locs1 hn9 hz hk hS1 hce hcv hcl => ?_) (fun locs n_3 hS => ?_)
  · exact vx_out (fun x hx9 => (htab x hx9).elim) hlocks hce hcv hcl (fun t ht _ => ⟨⟨by rw [hJ, jNeed_n n_1, jNeed_n n_2, jNeed_s hn9], by rw [ht]; exact hz, fun q hq => by rw [ht]; exact hk q hq⟩, hS1.F ht⟩) hS1.2.2 (Nat.le_of_ble_eq_true rfl) (Nat.le_of_ble_eq_true rfl)
  refine lv_aload_n hx hb dX0_tellNumber_13 rfl (lv_at hl 0 rfl) ?_
  refine lv_iload_n hx hb dX0_tellNumber_14 rfl (lv_at hl 1 rfl) ?_
  refine lv_iload_n hx hb dX0_tellNumber_15 rfl (lv_at hl 2 rfl) ?_
  refine lv_i2l (v := a2.toInt64) hx hb dX0_tellNumber_16 rfl ?_
  refine lv_ldc2 (v := 1000000000) hx hb hown (hts (.constantLong RX0 39 (1000000000)) (by decide +kernel)) dX0_tellNumber_17 ?_
  refine lv_lmul hx hb dX0_tellNumber_20 ?_
  refine lv_iload_n hx hb dX0_tellNumber_21 rfl (lv_at hl 3 rfl) ?_
  refine lv_i2l (v := a3.toInt64) hx hb dX0_tellNumber_22 rfl ?_
  refine lv_ladd hx hb dX0_tellNumber_23 ?_
  have hFc := va_free (wc := [(x, .inr (2, [.ref n, .int kn, .int ch])), (n, .inl (cJ, 8, .inr (.inl f)))]) hD hS hA [0, 1] rfl
  refine k_go (va_runV (As := [.int a1, .long ((a2.toInt64 * 1000000000) + a3.toInt64)]) (rest := []) ⟨hx, hb, hml, hown, hts⟩ (c_X0_settle l D cB cJ _ x n kn ch f hP (hD.weaken (fun _ _ _ _ => trivial)) a1 ((a2.toInt64 * 1000000000) + a3.toInt64)) (cwV 2 hts gX0_tellNumber_X0_settle rfl rfl rfl (by decide +kernel) ⟨(Nat.le_of_ble_eq_true rfl), (Nat.le_of_ble_eq_true rfl)⟩) (k_preV hE hS hFc (va_recv hK hP (ci := 2) (q0 := 0) rfl rfl)) rfl rfl hl.1 rfl (lv_room (Nat.le_of_ble_eq_true rfl)) dX0_tellNumber_24 ⟨(Nat.le_of_ble_eq_true rfl), (Nat.le_of_ble_eq_true rfl)⟩) hS (fun q _ h => hFc q h) hFc (fun v H locs hp hz hk hS => ?_)
  obtain ⟨rfl, hP1, hD1⟩ := hp
  have hP : va_P D vwCl [(x, .inr (2, [.ref n, .int ((j_X0_settle kn ch f a1 ((a2.toInt64 * 1000000000) + a3.toInt64)).2.1), .int ((j_X0_settle kn ch f a1 ((a2.toInt64 * 1000000000) + a3.toInt64)).2.2.1)])), (n, .inl (cJ, 8, .inr (.inl ((j_X0_settle kn ch f a1 ((a2.toInt64 * 1000000000) + a3.toInt64)).2.2.2))))] H := hP1
  have hD : va_D A [(x, .inr (2, [.ref n, .int ((j_X0_settle kn ch f a1 ((a2.toInt64 * 1000000000) + a3.toInt64)).2.1), .int ((j_X0_settle kn ch f a1 ((a2.toInt64 * 1000000000) + a3.toInt64)).2.2.1)])), (n, .inl (cJ, 8, .inr (.inl ((j_X0_settle kn ch f a1 ((a2.toInt64 * 1000000000) + a3.toInt64)).2.2.2))))] := hD1.weaken (fun _ q _ h => hFc q.1 h)
  refine W.eq (g2 := F0 m 27 ls [.int ((j_X0_settle kn ch f a1 ((a2.toInt64 * 1000000000) + a3.toInt64)).1)]) rfl ?_
  refine lv_pop hx hb dX0_tellNumber_27 rfl ?_
  refine lv_aload_n hx hb dX0_tellNumber_28 rfl (lv_at hl 0 rfl) ?_
  refine lv_iload_n hx hb dX0_tellNumber_29 rfl (lv_at hl 1 rfl) ?_
  refine k_pV [.int a1] (rest := []) ⟨hx, hb, hml, hown, hts⟩ (c_X0_numberOf l D cB cJ _ x n ((j_X0_settle kn ch f a1 ((a2.toInt64 * 1000000000) + a3.toInt64)).2.1) ((j_X0_settle kn ch f a1 ((a2.toInt64 * 1000000000) + a3.toInt64)).2.2.1) ((j_X0_settle kn ch f a1 ((a2.toInt64 * 1000000000) + a3.toInt64)).2.2.2) (hP.sub [0, 1] rfl) a1) (cwV 1 hts gX0_tellNumber_X0_numberOf rfl rfl rfl (by decide +kernel) ⟨(Nat.le_of_ble_eq_true rfl), (Nat.le_of_ble_eq_true rfl)⟩) (va_recv hK hP (ci := 2) (q0 := 0) rfl rfl) hE hS rfl rfl hl.1 (Nat.le_of_ble_eq_true rfl) dX0_tellNumber_30 ⟨(Nat.le_of_ble_eq_true rfl), (Nat.le_of_ble_eq_true rfl)⟩ (fun locs hS => ?_)
  refine W.eq (g2 := F0 m 33 ls [.long (j_X0_numberOf ((j_X0_settle kn ch f a1 ((a2.toInt64 * 1000000000) + a3.toInt64)).2.1) ((j_X0_settle kn ch f a1 ((a2.toInt64 * 1000000000) + a3.toInt64)).2.2.1) ((j_X0_settle kn ch f a1 ((a2.toInt64 * 1000000000) + a3.toInt64)).2.2.2) a1)]) rfl ?_
  refine lv_iconst (v := 0) hx hb dX0_tellNumber_33 (by decide) ?_
  refine k_pS [.long (j_X0_numberOf ((j_X0_settle kn ch f a1 ((a2.toInt64 * 1000000000) + a3.toInt64)).2.1) ((j_X0_settle kn ch f a1 ((a2.toInt64 * 1000000000) + a3.toInt64)).2.2.1) ((j_X0_settle kn ch f a1 ((a2.toInt64 * 1000000000) + a3.toInt64)).2.2.2) a1), .int 0] (rest := []) ⟨hx, hb, hml, hown, hts⟩ (c_X0_partOf l D cB cJ _ (j_X0_numberOf ((j_X0_settle kn ch f a1 ((a2.toInt64 * 1000000000) + a3.toInt64)).2.1) ((j_X0_settle kn ch f a1 ((a2.toInt64 * 1000000000) + a3.toInt64)).2.2.1) ((j_X0_settle kn ch f a1 ((a2.toInt64 * 1000000000) + a3.toInt64)).2.2.2) a1) 0) (va_cwS 2 hts gX0_tellNumber_X0_partOf rfl rfl rfl (by decide +kernel) ⟨(Nat.le_of_ble_eq_true rfl), (Nat.le_of_ble_eq_true rfl)⟩) hE hS rfl rfl hl.1 (Nat.le_of_ble_eq_true rfl) dX0_tellNumber_34 ⟨(Nat.le_of_ble_eq_true rfl), (Nat.le_of_ble_eq_true rfl)⟩ (fun locs hS => ?_)
  refine W.eq (g2 := F0 m 37 ls [.int (j_X0_partOf (j_X0_numberOf ((j_X0_settle kn ch f a1 ((a2.toInt64 * 1000000000) + a3.toInt64)).2.1) ((j_X0_settle kn ch f a1 ((a2.toInt64 * 1000000000) + a3.toInt64)).2.2.1) ((j_X0_settle kn ch f a1 ((a2.toInt64 * 1000000000) + a3.toInt64)).2.2.2) a1) 0)]) rfl ?_
  refine W.widen (k := 3) (n := 18) (Nat.le_of_ble_eq_true rfl) (Nat.le_of_ble_eq_true rfl) ?_
  exact vx_ret (k_iret hx hb hr hlocks hS dX0_tellNumber_37 ⟨((j_X0_partOf (j_X0_numberOf ((j_X0_settle kn ch f a1 ((a2.toInt64 * 1000000000) + a3.toInt64)).2.1) ((j_X0_settle kn ch f a1 ((a2.toInt64 * 1000000000) + a3.toInt64)).2.2.1) ((j_X0_settle kn ch f a1 ((a2.toInt64 * 1000000000) + a3.toInt64)).2.2.2) a1) 0), (j_X0_settle kn ch f a1 ((a2.toInt64 * 1000000000) + a3.toInt64)).2.1, (j_X0_settle kn ch f a1 ((a2.toInt64 * 1000000000) + a3.toInt64)).2.2.1, (j_X0_settle kn ch f a1 ((a2.toInt64 * 1000000000) + a3.toInt64)).2.2.2), by rw [hJ, jNeed_n n_1, jNeed_n n_2, jNeed_n n_3], rfl, hP, hD⟩)
theorem at_X0_tellKnown_56 : ∀ w ∈ (vx_atS RX0 56 "java/lang/IllegalArgumentException" ["java/lang/RuntimeException", "java/lang/Exception"]).filter goodWord, w ∈ wsX0_tellKnown := fun w h => List.mem_cons_of_mem _ (List.mem_append_left _ (List.mem_append_right _ h))
abbrev rm_X0_tellKnown : Room := { frames := 8, cells := 2, slots := 12, locals := 130 }
def j_X0_tellKnown (kn ch : Int32) (f : Nat → Int64) (a1 : Int32) (a2 : Int32) : Except String (Int32 × Int32 × Int32 × (Nat → Int64)) := (jNeed (j_X0_needClock a1) (if a2 < 0 then (.error "java/lang/IllegalArgumentException") else (if a2 < 3 then (.ok ((j_X0_settle kn ch f a1 (t_KN a2.toNatClampNeg)).1, (j_X0_settle kn ch f a1 (t_KN a2.toNatClampNeg)).2.1, (j_X0_settle kn ch f a1 (t_KN a2.toNatClampNeg)).2.2.1, (j_X0_settle kn ch f a1 (t_KN a2.toNatClampNeg)).2.2.2)) else (.error "java/lang/IllegalArgumentException"))))
set_option maxHeartbeats 4000000 in
set_option maxRecDepth 100000 in
theorem c_X0_tellKnown (l : Launch) (hl9 : l.stackTraces = false) (D : va_G) (cB cJ : ClassId) (Hp : Heap) (x n : Nat) (kn ch : Int32) (f : Nat → Int64) (hP : va_P D vwCl (wC x n cJ kn ch f) Hp) (hD9 : va_D (fun _ => True) (wC x n cJ kn ch f)) (a1 : Int32) (a2 : Int32) : kV l D cB cJ yX0_tellKnown wsX0_tellKnown rm_X0_tellKnown (va_A (wC x n cJ kn ch f) Hp.size) Hp [.ref x, .int a1, .int a2] (kPw D x n cJ (va_A (wC x n cJ kn ch f) Hp.size) (j_X0_tellKnown kn ch f a1 a2)) (kXw (j_X0_tellKnown kn ch f a1 a2) Hp) 2 12 := by
  refine vx_ofW (cc := cX0_tellKnown) (maxL := 3) (ret := (some .int)) (by decide) rfl ?_
  intro p e s m args below meth c s₁ B hml htab hv
  obtain ⟨rfl, hHp, hE⟩ := hv
  subst hHp
  have hx := B.exec
  have hb := B.bytes
  have hr := B.returns
  have hts := atoms_spec (ws := wsX0_tellKnown) B.pre
  have hown : s.vm.findClass RX0 = some m.cls := findClass_of_methodNamed B.named
  have hlocks := B.notSynchronized
  have hK := hE.1
  have hD := hD9.self (sz := s.heap.size)
  generalize hAe : va_A (wC x n cJ kn ch f) s.heap.size = A at hE hD ⊢
  have hA : ∀ q : Nat, s.heap.size ≤ q → A q := fun q h => by rw [← hAe]; exact Or.inr h
  have hS : va_S A s.heap s.heap [] := va_S.rf
  have hl := lv_entry ([.ref x, .int a1, .int a2]) (n := 3) (Nat.le_of_ble_eq_true rfl)
  rw [lg_entry_eq]
  generalize (lg_sl ([.ref x, .int a1, .int a2]) ++ List.replicate (3 - (lg_sl ([.ref x, .int a1, .int a2])).length) Slot.unset).toArray = ls at hl ⊢
  have hl : lv_has ls 3 [(0, .ref x), (1, .int a1), (2, .int a2)] := hl
  obtain ⟨k9, hk9⟩ := hE.2.2.1
  obtain ⟨t5, hZ5, hT5⟩ := hE.2.1.2.2.2.2.1
  have hJ : (j_X0_tellKnown kn ch f a1 a2) = (jNeed (j_X0_needClock a1) (if a2 < 0 then (.error "java/lang/IllegalArgumentException") else (if a2 < 3 then (.ok ((j_X0_settle kn ch f a1 (t_KN a2.toNatClampNeg)).1, (j_X0_settle kn ch f a1 (t_KN a2.toNatClampNeg)).2.1, (j_X0_settle kn ch f a1 (t_KN a2.toNatClampNeg)).2.2.1, (j_X0_settle kn ch f a1 (t_KN a2.toNatClampNeg)).2.2.2)) else (.error "java/lang/IllegalArgumentException")))) := rfl
  refine lv_iload_n hx hb dX0_tellKnown_0 rfl (lv_at hl 1 rfl) ?_
  refine kx_need [.int a1] (rest := []) ⟨hx, hb, hml, hown, hts⟩ (c_X0_needClock l hl9 D cB cJ _ a1) (va_cwS 1 hts gX0_tellKnown_X0_needClock rfl rfl rfl (by decide +kernel) ⟨(Nat.le_of_ble_eq_true rfl), (Nat.le_of_ble_eq_true rfl)⟩) hE hS rfl rfl hl.1 (Nat.le_of_ble_eq_true rfl) dX0_tellKnown_1 ⟨(Nat.le_of_ble_eq_true rfl), (Nat.le_of_ble_eq_true rfl)⟩ (fun E ce q9 H1 locs1 hn9 hz hk hS1 hce hcv hcl => ?_) (fun locs n_1 hS => ?_)
  · exact vx_out (fun x hx9 => (htab x hx9).elim) hlocks hce hcv hcl (fun t ht _ => ⟨⟨by rw [hJ, jNeed_s hn9], by rw [ht]; exact hz, fun q hq => by rw [ht]; exact hk q hq⟩, hS1.F ht⟩) hS1.2.2 (Nat.le_of_ble_eq_true rfl) (Nat.le_of_ble_eq_true rfl)
  refine lv_iload_n hx hb dX0_tellKnown_4 rfl (lv_at hl 2 rfl) ?_
  refine lv_if_lt (tgt := 16) hx hb dX0_tellKnown_5 (by decide) (fun c_2 => ?_) (fun c_2 => ?_)
  · exact vx_throwS hx hb hl9 (own := RX0) (cls := "java/lang/IllegalArgumentException") (text := "which is not 0 to 2") (names := ["java/lang/RuntimeException", "java/lang/Exception"]) (ik := 52) (is := 54) (ic := 56) (sa := k9 9) hown (by decide) (by decide) (hts (.classLink RX0 52 "java/lang/IllegalArgumentException") (by decide +kernel)) (hts (.initialized "java/lang/IllegalArgumentException") (by decide +kernel)) (hk9 9 _ rfl) (vx_hat (fun w h => hts w (at_X0_tellKnown_56 w h)) (fun w h => by rw [atn_56] at h; exact h) (hE.2.2.2.1.bad hE.2.2.2.1.2.1)) atg_56 hE.2.1.2.2.2.2.2.2.2.2.1 hE.2.1.2.2.2.2.2.2.2.2.2 hS (hl.1.trans hml.symm) dX0_tellKnown_16 dX0_tellKnown_19 dX0_tellKnown_20 dX0_tellKnown_22 dX0_tellKnown_25 (fun x hx9 => (htab x hx9).elim) (Nat.le_of_ble_eq_true rfl) (Nat.le_of_ble_eq_true rfl) (Nat.le_of_ble_eq_true rfl) (Nat.le_of_ble_eq_true rfl) hlocks (fun t _ hz hk => ⟨⟨by rw [hJ, jNeed_n n_1, if_pos c_2], hz, hk⟩, k_F hS hz hk⟩) hS.2.2 (Nat.le_of_ble_eq_true rfl) (Nat.le_of_ble_eq_true rfl)
  · refine lv_iload_n hx hb dX0_tellKnown_8 rfl (lv_at hl 2 rfl) ?_
    refine va_gets hx hb hZ5 hS hown (hts (.fieldLink RX0 49 "Clocksolo" "KNOWN_NUMBERS" "[J") (by decide +kernel)) (fun _ h9 => h9) dX0_tellKnown_9 ?_
    refine va_tlen hx hb hT5 hS (v := 3) rfl dX0_tellKnown_12 ?_
    refine lv_icmp_lt (tgt := 26) hx hb dX0_tellKnown_13 (by decide) (fun c_3 => ?_) (fun c_3 => ?_)
    · refine lv_aload_n hx hb dX0_tellKnown_26 rfl (lv_at hl 0 rfl) ?_
      refine lv_iload_n hx hb dX0_tellKnown_27 rfl (lv_at hl 1 rfl) ?_
      refine va_gets hx hb hZ5 hS hown (hts (.fieldLink RX0 49 "Clocksolo" "KNOWN_NUMBERS" "[J") (by decide +kernel)) (fun _ h9 => h9) dX0_tellKnown_28 ?_
      refine lv_iload_n hx hb dX0_tellKnown_31 rfl (lv_at hl 2 rfl) ?_
      refine va_tl hx hb hT5 hS (v := .long (t_KN a2.toNatClampNeg)) (k_in' c_2 c_3 (by decide) (by decide)) rfl dX0_tellKnown_32 ?_
      have hFc := va_free (wc := [(x, .inr (2, [.ref n, .int kn, .int ch])), (n, .inl (cJ, 8, .inr (.inl f)))]) hD hS hA [0, 1] rfl
      refine k_go (va_runV (As := [.int a1, .long (t_KN a2.toNatClampNeg)]) (rest := []) ⟨hx, hb, hml, hown, hts⟩ (c_X0_settle l D cB cJ _ x n kn ch f hP (hD.weaken (fun _ _ _ _ => trivial)) a1 (t_KN a2.toNatClampNeg)) (cwV 2 hts gX0_tellKnown_X0_settle rfl rfl rfl (by decide +kernel) ⟨(Nat.le_of_ble_eq_true rfl), (Nat.le_of_ble_eq_true rfl)⟩) (k_preV hE hS hFc (va_recv hK hP (ci := 2) (q0 := 0) rfl rfl)) rfl rfl hl.1 rfl (lv_room (Nat.le_of_ble_eq_true rfl)) dX0_tellKnown_33 ⟨(Nat.le_of_ble_eq_true rfl), (Nat.le_of_ble_eq_true rfl)⟩) hS (fun q _ h => hFc q h) hFc (fun v H locs hp hz hk hS => ?_)
      obtain ⟨rfl, hP1, hD1⟩ := hp
      have hP : va_P D vwCl [(x, .inr (2, [.ref n, .int ((j_X0_settle kn ch f a1 (t_KN a2.toNatClampNeg)).2.1), .int ((j_X0_settle kn ch f a1 (t_KN a2.toNatClampNeg)).2.2.1)])), (n, .inl (cJ, 8, .inr (.inl ((j_X0_settle kn ch f a1 (t_KN a2.toNatClampNeg)).2.2.2))))] H := hP1
      have hD : va_D A [(x, .inr (2, [.ref n, .int ((j_X0_settle kn ch f a1 (t_KN a2.toNatClampNeg)).2.1), .int ((j_X0_settle kn ch f a1 (t_KN a2.toNatClampNeg)).2.2.1)])), (n, .inl (cJ, 8, .inr (.inl ((j_X0_settle kn ch f a1 (t_KN a2.toNatClampNeg)).2.2.2))))] := hD1.weaken (fun _ q _ h => hFc q.1 h)
      refine W.eq (g2 := F0 m 36 ls [.int ((j_X0_settle kn ch f a1 (t_KN a2.toNatClampNeg)).1)]) rfl ?_
      refine W.widen (k := 2) (n := 12) (Nat.le_of_ble_eq_true rfl) (Nat.le_of_ble_eq_true rfl) ?_
      exact vx_ret (k_iret hx hb hr hlocks hS dX0_tellKnown_36 ⟨((j_X0_settle kn ch f a1 (t_KN a2.toNatClampNeg)).1, (j_X0_settle kn ch f a1 (t_KN a2.toNatClampNeg)).2.1, (j_X0_settle kn ch f a1 (t_KN a2.toNatClampNeg)).2.2.1, (j_X0_settle kn ch f a1 (t_KN a2.toNatClampNeg)).2.2.2), by rw [hJ, jNeed_n n_1, if_neg c_2, if_pos c_3], rfl, hP, hD⟩)
    · exact vx_throwS hx hb hl9 (own := RX0) (cls := "java/lang/IllegalArgumentException") (text := "which is not 0 to 2") (names := ["java/lang/RuntimeException", "java/lang/Exception"]) (ik := 52) (is := 54) (ic := 56) (sa := k9 9) hown (by decide) (by decide) (hts (.classLink RX0 52 "java/lang/IllegalArgumentException") (by decide +kernel)) (hts (.initialized "java/lang/IllegalArgumentException") (by decide +kernel)) (hk9 9 _ rfl) (vx_hat (fun w h => hts w (at_X0_tellKnown_56 w h)) (fun w h => by rw [atn_56] at h; exact h) (hE.2.2.2.1.bad hE.2.2.2.1.2.1)) atg_56 hE.2.1.2.2.2.2.2.2.2.2.1 hE.2.1.2.2.2.2.2.2.2.2.2 hS (hl.1.trans hml.symm) dX0_tellKnown_16 dX0_tellKnown_19 dX0_tellKnown_20 dX0_tellKnown_22 dX0_tellKnown_25 (fun x hx9 => (htab x hx9).elim) (Nat.le_of_ble_eq_true rfl) (Nat.le_of_ble_eq_true rfl) (Nat.le_of_ble_eq_true rfl) (Nat.le_of_ble_eq_true rfl) hlocks (fun t _ hz hk => ⟨⟨by rw [hJ, jNeed_n n_1, if_neg c_2, if_neg c_3], hz, hk⟩, k_F hS hz hk⟩) hS.2.2 (Nat.le_of_ble_eq_true rfl) (Nat.le_of_ble_eq_true rfl)
abbrev rm_X0_take : Room := { frames := 8, cells := 2, slots := 12, locals := 130 }
def j_X0_take (kn ch : Int32) (f : Nat → Int64) (a1 : Int32) (a2 : Int32) : Except String (Int32 × Int32 × Int32 × (Nat → Int64)) := (jNeed (j_X0_needClock a1) (jNeed (j_X0_needClock a2) (if (j_X0_numberOf kn ch f a1) = (j_X0_numberOf kn ch f a2) then (.ok (0, (j_X0_settle kn ch f a1 (j_X0_numberOf kn ch f a2)).2.1, (j_X0_settle kn ch f a1 (j_X0_numberOf kn ch f a2)).2.2.1, (j_X0_settle kn ch f a1 (j_X0_numberOf kn ch f a2)).2.2.2)) else (.ok (1, (j_X0_settle kn ch f a1 (j_X0_numberOf kn ch f a2)).2.1, (j_X0_settle kn ch f a1 (j_X0_numberOf kn ch f a2)).2.2.1, (j_X0_settle kn ch f a1 (j_X0_numberOf kn ch f a2)).2.2.2)))))
set_option maxHeartbeats 4000000 in
set_option maxRecDepth 100000 in
theorem c_X0_take (l : Launch) (hl9 : l.stackTraces = false) (D : va_G) (cB cJ : ClassId) (Hp : Heap) (x n : Nat) (kn ch : Int32) (f : Nat → Int64) (hP : va_P D vwCl (wC x n cJ kn ch f) Hp) (hD9 : va_D (fun _ => True) (wC x n cJ kn ch f)) (a1 : Int32) (a2 : Int32) : kV l D cB cJ yX0_take wsX0_take rm_X0_take (va_A (wC x n cJ kn ch f) Hp.size) Hp [.ref x, .int a1, .int a2] (kPw D x n cJ (va_A (wC x n cJ kn ch f) Hp.size) (j_X0_take kn ch f a1 a2)) (kXw (j_X0_take kn ch f a1 a2) Hp) 2 12 := by
  refine vx_ofW (cc := cX0_take) (maxL := 7) (ret := (some .int)) (by decide) rfl ?_
  intro p e s m args below meth c s₁ B hml htab hv
  obtain ⟨rfl, hHp, hE⟩ := hv
  subst hHp
  have hx := B.exec
  have hb := B.bytes
  have hr := B.returns
  have hts := atoms_spec (ws := wsX0_take) B.pre
  have hown : s.vm.findClass RX0 = some m.cls := findClass_of_methodNamed B.named
  have hlocks := B.notSynchronized
  have hK := hE.1
  have hD := hD9.self (sz := s.heap.size)
  generalize hAe : va_A (wC x n cJ kn ch f) s.heap.size = A at hE hD ⊢
  have hA : ∀ q : Nat, s.heap.size ≤ q → A q := fun q h => by rw [← hAe]; exact Or.inr h
  have hS : va_S A s.heap s.heap [] := va_S.rf
  have hl := lv_entry ([.ref x, .int a1, .int a2]) (n := 7) (Nat.le_of_ble_eq_true rfl)
  rw [lg_entry_eq]
  generalize (lg_sl ([.ref x, .int a1, .int a2]) ++ List.replicate (7 - (lg_sl ([.ref x, .int a1, .int a2])).length) Slot.unset).toArray = ls at hl ⊢
  have hl : lv_has ls 7 [(0, .ref x), (1, .int a1), (2, .int a2)] := hl
  have hJ : (j_X0_take kn ch f a1 a2) = (jNeed (j_X0_needClock a1) (jNeed (j_X0_needClock a2) (if (j_X0_numberOf kn ch f a1) = (j_X0_numberOf kn ch f a2) then (.ok (0, (j_X0_settle kn ch f a1 (j_X0_numberOf kn ch f a2)).2.1, (j_X0_settle kn ch f a1 (j_X0_numberOf kn ch f a2)).2.2.1, (j_X0_settle kn ch f a1 (j_X0_numberOf kn ch f a2)).2.2.2)) else (.ok (1, (j_X0_settle kn ch f a1 (j_X0_numberOf kn ch f a2)).2.1, (j_X0_settle kn ch f a1 (j_X0_numberOf kn ch f a2)).2.2.1, (j_X0_settle kn ch f a1 (j_X0_numberOf kn ch f a2)).2.2.2))))) := rfl
  refine lv_iload_n hx hb dX0_take_0 rfl (lv_at hl 1 rfl) ?_
  refine kx_need [.int a1] (rest := []) ⟨hx, hb, hml, hown, hts⟩ (c_X0_needClock l hl9 D cB cJ _ a1) (va_cwS 1 hts gX0_take_X0_needClock rfl rfl rfl (by decide +kernel) ⟨(Nat.le_of_ble_eq_true rfl), (Nat.le_of_ble_eq_true rfl)⟩) hE hS rfl rfl hl.1 (Nat.le_of_ble_eq_true rfl) dX0_take_1 ⟨(Nat.le_of_ble_eq_true rfl), (Nat.le_of_ble_eq_true rfl)⟩ (fun E ce q9 H1 locs1 hn9 hz hk hS1 hce hcv hcl => ?_) (fun locs n_1 hS => ?_)
  · exact vx_out (fun x hx9 => (htab x hx9).elim) hlocks hce hcv hcl (fun t ht _ => ⟨⟨by rw [hJ, jNeed_s hn9], by rw [ht]; exact hz, fun q hq => by rw [ht]; exact hk q hq⟩, hS1.F ht⟩) hS1.2.2 (Nat.le_of_ble_eq_true rfl) (Nat.le_of_ble_eq_true rfl)
  refine lv_iload_n hx hb dX0_take_4 rfl (lv_at hl 2 rfl) ?_
  refine kx_need [.int a2] (rest := []) ⟨hx, hb, hml, hown, hts⟩ (c_X0_needClock l hl9 D cB cJ _ a2) (va_cwS 1 hts gX0_take_X0_needClock rfl rfl rfl (by decide +kernel) ⟨(Nat.le_of_ble_eq_true rfl), (Nat.le_of_ble_eq_true rfl)⟩) hE hS rfl rfl hl.1 (Nat.le_of_ble_eq_true rfl) dX0_take_5 ⟨(Nat.le_of_ble_eq_true rfl), (Nat.le_of_ble_eq_true rfl)⟩ (fun E ce q9 H1 locs1 hn9 hz hk hS1 hce hcv hcl => ?_) (fun locs n_2 hS => ?_)
  · exact vx_out (fun x hx9 => (htab x hx9).elim) hlocks hce hcv hcl (fun t ht _ => ⟨⟨by rw [hJ, jNeed_n n_1, jNeed_s hn9], by rw [ht]; exact hz, fun q hq => by rw [ht]; exact hk q hq⟩, hS1.F ht⟩) hS1.2.2 (Nat.le_of_ble_eq_true rfl) (Nat.le_of_ble_eq_true rfl)
  refine lv_aload_n hx hb dX0_take_8 rfl (lv_at hl 0 rfl) ?_
  refine lv_iload_n hx hb dX0_take_9 rfl (lv_at hl 1 rfl) ?_
  refine k_pV [.int a1] (rest := []) ⟨hx, hb, hml, hown, hts⟩ (c_X0_numberOf l D cB cJ _ x n kn ch f (hP.sub [0, 1] rfl) a1) (cwV 1 hts gX0_take_X0_numberOf rfl rfl rfl (by decide +kernel) ⟨(Nat.le_of_ble_eq_true rfl), (Nat.le_of_ble_eq_true rfl)⟩) (va_recv hK hP (ci := 2) (q0 := 0) rfl rfl) hE hS rfl rfl hl.1 (Nat.le_of_ble_eq_true rfl) dX0_take_10 ⟨(Nat.le_of_ble_eq_true rfl), (Nat.le_of_ble_eq_true rfl)⟩ (fun locs hS => ?_)
  refine W.eq (g2 := F0 m 13 ls [.long (j_X0_numberOf kn ch f a1)]) rfl ?_
  refine lv_lstore_n (lv' := [(3, .long (j_X0_numberOf kn ch f a1)), (0, .ref x), (1, .int a1), (2, .int a2)]) hx hb dX0_take_13 rfl hl (by decide) rfl (fun ls hl => ?_)
  refine lv_aload_n hx hb dX0_take_14 rfl (lv_at hl 1 rfl) ?_
  refine lv_iload_n hx hb dX0_take_15 rfl (lv_at hl 3 rfl) ?_
  refine k_pV [.int a2] (rest := []) ⟨hx, hb, hml, hown, hts⟩ (c_X0_numberOf l D cB cJ _ x n kn ch f (hP.sub [0, 1] rfl) a2) (cwV 1 hts gX0_take_X0_numberOf rfl rfl rfl (by decide +kernel) ⟨(Nat.le_of_ble_eq_true rfl), (Nat.le_of_ble_eq_true rfl)⟩) (va_recv hK hP (ci := 2) (q0 := 0) rfl rfl) hE hS rfl rfl hl.1 (Nat.le_of_ble_eq_true rfl) dX0_take_16 ⟨(Nat.le_of_ble_eq_true rfl), (Nat.le_of_ble_eq_true rfl)⟩ (fun locs hS => ?_)
  refine W.eq (g2 := F0 m 19 ls [.long (j_X0_numberOf kn ch f a2)]) rfl ?_
  refine lv_lstore (lv' := [(5, .long (j_X0_numberOf kn ch f a2)), (3, .long (j_X0_numberOf kn ch f a1)), (0, .ref x), (1, .int a1), (2, .int a2)]) hx hb dX0_take_19 hl (by decide) rfl (fun ls hl => ?_)
  refine lv_aload_n hx hb dX0_take_21 rfl (lv_at hl 2 rfl) ?_
  refine lv_iload_n hx hb dX0_take_22 rfl (lv_at hl 3 rfl) ?_
  refine lv_lload hx hb dX0_take_23 (lv_at hl 0 rfl) ?_
  have hFc := va_free (wc := [(x, .inr (2, [.ref n, .int kn, .int ch])), (n, .inl (cJ, 8, .inr (.inl f)))]) hD hS hA [0, 1] rfl
  refine k_go (va_runV (As := [.int a1, .long (j_X0_numberOf kn ch f a2)]) (rest := []) ⟨hx, hb, hml, hown, hts⟩ (c_X0_settle l D cB cJ _ x n kn ch f hP (hD.weaken (fun _ _ _ _ => trivial)) a1 (j_X0_numberOf kn ch f a2)) (cwV 2 hts gX0_take_X0_settle rfl rfl rfl (by decide +kernel) ⟨(Nat.le_of_ble_eq_true rfl), (Nat.le_of_ble_eq_true rfl)⟩) (k_preV hE hS hFc (va_recv hK hP (ci := 2) (q0 := 0) rfl rfl)) rfl rfl hl.1 rfl (lv_room (Nat.le_of_ble_eq_true rfl)) dX0_take_25 ⟨(Nat.le_of_ble_eq_true rfl), (Nat.le_of_ble_eq_true rfl)⟩) hS (fun q _ h => hFc q h) hFc (fun v H locs hp hz hk hS => ?_)
  obtain ⟨rfl, hP1, hD1⟩ := hp
  have hP : va_P D vwCl [(x, .inr (2, [.ref n, .int ((j_X0_settle kn ch f a1 (j_X0_numberOf kn ch f a2)).2.1), .int ((j_X0_settle kn ch f a1 (j_X0_numberOf kn ch f a2)).2.2.1)])), (n, .inl (cJ, 8, .inr (.inl ((j_X0_settle kn ch f a1 (j_X0_numberOf kn ch f a2)).2.2.2))))] H := hP1
  have hD : va_D A [(x, .inr (2, [.ref n, .int ((j_X0_settle kn ch f a1 (j_X0_numberOf kn ch f a2)).2.1), .int ((j_X0_settle kn ch f a1 (j_X0_numberOf kn ch f a2)).2.2.1)])), (n, .inl (cJ, 8, .inr (.inl ((j_X0_settle kn ch f a1 (j_X0_numberOf kn ch f a2)).2.2.2))))] := hD1.weaken (fun _ q _ h => hFc q.1 h)
  refine W.eq (g2 := F0 m 28 ls [.int ((j_X0_settle kn ch f a1 (j_X0_numberOf kn ch f a2)).1)]) rfl ?_
  refine lv_pop hx hb dX0_take_28 rfl ?_
  refine lv_lload_n hx hb dX0_take_29 rfl (lv_at hl 1 rfl) ?_
  refine lv_lload hx hb dX0_take_30 (lv_at hl 0 rfl) ?_
  refine kl_ne (tgt := 40) hx hb dX0_take_32 dX0_take_33 (by decide) (fun c_3 => ?_) (fun c_3 => ?_)
  · refine lv_iconst (v := 1) hx hb dX0_take_40 (by decide) ?_
    refine W.widen (k := 2) (n := 12) (Nat.le_of_ble_eq_true rfl) (Nat.le_of_ble_eq_true rfl) ?_
    exact vx_ret (k_iret hx hb hr hlocks hS dX0_take_41 ⟨(1, (j_X0_settle kn ch f a1 (j_X0_numberOf kn ch f a2)).2.1, (j_X0_settle kn ch f a1 (j_X0_numberOf kn ch f a2)).2.2.1, (j_X0_settle kn ch f a1 (j_X0_numberOf kn ch f a2)).2.2.2), by rw [hJ, jNeed_n n_1, jNeed_n n_2, if_neg c_3], rfl, hP, hD⟩)
  · refine lv_iconst (v := 0) hx hb dX0_take_36 (by decide) ?_
    refine lv_goto (tgt := 41) hx hb dX0_take_37 (by decide) ?_
    refine W.widen (k := 2) (n := 12) (Nat.le_of_ble_eq_true rfl) (Nat.le_of_ble_eq_true rfl) ?_
    exact vx_ret (k_iret hx hb hr hlocks hS dX0_take_41 ⟨(0, (j_X0_settle kn ch f a1 (j_X0_numberOf kn ch f a2)).2.1, (j_X0_settle kn ch f a1 (j_X0_numberOf kn ch f a2)).2.2.1, (j_X0_settle kn ch f a1 (j_X0_numberOf kn ch f a2)).2.2.2), by rw [hJ, jNeed_n n_1, jNeed_n n_2, if_pos c_3], rfl, hP, hD⟩)
abbrev rm_X0_with : Room := { frames := 8, cells := 2, slots := 12, locals := 131 }
def j_X0_with (kn ch : Int32) (f : Nat → Int64) (a1 : Int32) (a2 : Int32) (a3 : Int32) : Except String (Int32 × Int32 × Int32 × (Nat → Int64)) := (jNeed (j_X0_needClock a1) (jNeed (j_X0_needPart a2 a3) (.ok ((j_X0_partOf (j_X0_numberOf kn ch f a1) a2), (j_X0_settle kn ch f a1 ((j_X0_numberOf kn ch f a1) + ((a3.toInt64 - ((j_X0_partOf (j_X0_numberOf kn ch f a1) a2).toInt64)) * (j_X0_partNanos a2)))).2.1, (j_X0_settle kn ch f a1 ((j_X0_numberOf kn ch f a1) + ((a3.toInt64 - ((j_X0_partOf (j_X0_numberOf kn ch f a1) a2).toInt64)) * (j_X0_partNanos a2)))).2.2.1, (j_X0_settle kn ch f a1 ((j_X0_numberOf kn ch f a1) + ((a3.toInt64 - ((j_X0_partOf (j_X0_numberOf kn ch f a1) a2).toInt64)) * (j_X0_partNanos a2)))).2.2.2))))
set_option maxHeartbeats 4000000 in
set_option maxRecDepth 100000 in
theorem c_X0_with (l : Launch) (hl9 : l.stackTraces = false) (D : va_G) (cB cJ : ClassId) (Hp : Heap) (x n : Nat) (kn ch : Int32) (f : Nat → Int64) (hP : va_P D vwCl (wC x n cJ kn ch f) Hp) (hD9 : va_D (fun _ => True) (wC x n cJ kn ch f)) (a1 : Int32) (a2 : Int32) (a3 : Int32) : kV l D cB cJ yX0_with wsX0_with rm_X0_with (va_A (wC x n cJ kn ch f) Hp.size) Hp [.ref x, .int a1, .int a2, .int a3] (kPw D x n cJ (va_A (wC x n cJ kn ch f) Hp.size) (j_X0_with kn ch f a1 a2 a3)) (kXw (j_X0_with kn ch f a1 a2 a3) Hp) 2 12 := by
  refine vx_ofW (cc := cX0_with) (maxL := 7) (ret := (some .int)) (by decide) rfl ?_
  intro p e s m args below meth c s₁ B hml htab hv
  obtain ⟨rfl, hHp, hE⟩ := hv
  subst hHp
  have hx := B.exec
  have hb := B.bytes
  have hr := B.returns
  have hts := atoms_spec (ws := wsX0_with) B.pre
  have hown : s.vm.findClass RX0 = some m.cls := findClass_of_methodNamed B.named
  have hlocks := B.notSynchronized
  have hK := hE.1
  have hD := hD9.self (sz := s.heap.size)
  generalize hAe : va_A (wC x n cJ kn ch f) s.heap.size = A at hE hD ⊢
  have hA : ∀ q : Nat, s.heap.size ≤ q → A q := fun q h => by rw [← hAe]; exact Or.inr h
  have hS : va_S A s.heap s.heap [] := va_S.rf
  have hl := lv_entry ([.ref x, .int a1, .int a2, .int a3]) (n := 7) (Nat.le_of_ble_eq_true rfl)
  rw [lg_entry_eq]
  generalize (lg_sl ([.ref x, .int a1, .int a2, .int a3]) ++ List.replicate (7 - (lg_sl ([.ref x, .int a1, .int a2, .int a3])).length) Slot.unset).toArray = ls at hl ⊢
  have hl : lv_has ls 7 [(0, .ref x), (1, .int a1), (2, .int a2), (3, .int a3)] := hl
  have hJ : (j_X0_with kn ch f a1 a2 a3) = (jNeed (j_X0_needClock a1) (jNeed (j_X0_needPart a2 a3) (.ok ((j_X0_partOf (j_X0_numberOf kn ch f a1) a2), (j_X0_settle kn ch f a1 ((j_X0_numberOf kn ch f a1) + ((a3.toInt64 - ((j_X0_partOf (j_X0_numberOf kn ch f a1) a2).toInt64)) * (j_X0_partNanos a2)))).2.1, (j_X0_settle kn ch f a1 ((j_X0_numberOf kn ch f a1) + ((a3.toInt64 - ((j_X0_partOf (j_X0_numberOf kn ch f a1) a2).toInt64)) * (j_X0_partNanos a2)))).2.2.1, (j_X0_settle kn ch f a1 ((j_X0_numberOf kn ch f a1) + ((a3.toInt64 - ((j_X0_partOf (j_X0_numberOf kn ch f a1) a2).toInt64)) * (j_X0_partNanos a2)))).2.2.2)))) := rfl
  refine lv_iload_n hx hb dX0_with_0 rfl (lv_at hl 1 rfl) ?_
  refine kx_need [.int a1] (rest := []) ⟨hx, hb, hml, hown, hts⟩ (c_X0_needClock l hl9 D cB cJ _ a1) (va_cwS 1 hts gX0_with_X0_needClock rfl rfl rfl (by decide +kernel) ⟨(Nat.le_of_ble_eq_true rfl), (Nat.le_of_ble_eq_true rfl)⟩) hE hS rfl rfl hl.1 (Nat.le_of_ble_eq_true rfl) dX0_with_1 ⟨(Nat.le_of_ble_eq_true rfl), (Nat.le_of_ble_eq_true rfl)⟩ (fun E ce q9 H1 locs1 hn9 hz hk hS1 hce hcv hcl => ?_) (fun locs n_1 hS => ?_)
  · exact vx_out (fun x hx9 => (htab x hx9).elim) hlocks hce hcv hcl (fun t ht _ => ⟨⟨by rw [hJ, jNeed_s hn9], by rw [ht]; exact hz, fun q hq => by rw [ht]; exact hk q hq⟩, hS1.F ht⟩) hS1.2.2 (Nat.le_of_ble_eq_true rfl) (Nat.le_of_ble_eq_true rfl)
  refine lv_iload_n hx hb dX0_with_4 rfl (lv_at hl 2 rfl) ?_
  refine lv_iload_n hx hb dX0_with_5 rfl (lv_at hl 3 rfl) ?_
  refine kx_need [.int a2, .int a3] (rest := []) ⟨hx, hb, hml, hown, hts⟩ (c_X0_needPart l hl9 D cB cJ _ a2 a3) (va_cwS 2 hts gX0_with_X0_needPart rfl rfl rfl (by decide +kernel) ⟨(Nat.le_of_ble_eq_true rfl), (Nat.le_of_ble_eq_true rfl)⟩) hE hS rfl rfl hl.1 (Nat.le_of_ble_eq_true rfl) dX0_with_6 ⟨(Nat.le_of_ble_eq_true rfl), (Nat.le_of_ble_eq_true rfl)⟩ (fun E ce q9 H1 locs1 hn9 hz hk hS1 hce hcv hcl => ?_) (fun locs n_2 hS => ?_)
  · exact vx_out (fun x hx9 => (htab x hx9).elim) hlocks hce hcv hcl (fun t ht _ => ⟨⟨by rw [hJ, jNeed_n n_1, jNeed_s hn9], by rw [ht]; exact hz, fun q hq => by rw [ht]; exact hk q hq⟩, hS1.F ht⟩) hS1.2.2 (Nat.le_of_ble_eq_true rfl) (Nat.le_of_ble_eq_true rfl)
  refine lv_aload_n hx hb dX0_with_9 rfl (lv_at hl 0 rfl) ?_
  refine lv_iload_n hx hb dX0_with_10 rfl (lv_at hl 1 rfl) ?_
  refine k_pV [.int a1] (rest := []) ⟨hx, hb, hml, hown, hts⟩ (c_X0_numberOf l D cB cJ _ x n kn ch f (hP.sub [0, 1] rfl) a1) (cwV 1 hts gX0_with_X0_numberOf rfl rfl rfl (by decide +kernel) ⟨(Nat.le_of_ble_eq_true rfl), (Nat.le_of_ble_eq_true rfl)⟩) (va_recv hK hP (ci := 2) (q0 := 0) rfl rfl) hE hS rfl rfl hl.1 (Nat.le_of_ble_eq_true rfl) dX0_with_11 ⟨(Nat.le_of_ble_eq_true rfl), (Nat.le_of_ble_eq_true rfl)⟩ (fun locs hS => ?_)
  refine W.eq (g2 := F0 m 14 ls [.long (j_X0_numberOf kn ch f a1)]) rfl ?_
  refine lv_lstore (lv' := [(4, .long (j_X0_numberOf kn ch f a1)), (0, .ref x), (1, .int a1), (2, .int a2), (3, .int a3)]) hx hb dX0_with_14 hl (by decide) rfl (fun ls hl => ?_)
  refine lv_lload hx hb dX0_with_16 (lv_at hl 0 rfl) ?_
  refine lv_iload_n hx hb dX0_with_18 rfl (lv_at hl 3 rfl) ?_
  refine k_pS [.long (j_X0_numberOf kn ch f a1), .int a2] (rest := []) ⟨hx, hb, hml, hown, hts⟩ (c_X0_partOf l D cB cJ _ (j_X0_numberOf kn ch f a1) a2) (va_cwS 2 hts gX0_with_X0_partOf rfl rfl rfl (by decide +kernel) ⟨(Nat.le_of_ble_eq_true rfl), (Nat.le_of_ble_eq_true rfl)⟩) hE hS rfl rfl hl.1 (Nat.le_of_ble_eq_true rfl) dX0_with_19 ⟨(Nat.le_of_ble_eq_true rfl), (Nat.le_of_ble_eq_true rfl)⟩ (fun locs hS => ?_)
  refine W.eq (g2 := F0 m 22 ls [.int (j_X0_partOf (j_X0_numberOf kn ch f a1) a2)]) rfl ?_
  refine lv_istore (lv' := [(6, .int (j_X0_partOf (j_X0_numberOf kn ch f a1) a2)), (4, .long (j_X0_numberOf kn ch f a1)), (0, .ref x), (1, .int a1), (2, .int a2), (3, .int a3)]) hx hb dX0_with_22 hl (by decide) rfl (fun ls hl => ?_)
  refine lv_aload_n hx hb dX0_with_24 rfl (lv_at hl 2 rfl) ?_
  refine lv_iload_n hx hb dX0_with_25 rfl (lv_at hl 3 rfl) ?_
  refine lv_lload hx hb dX0_with_26 (lv_at hl 1 rfl) ?_
  refine lv_iload_n hx hb dX0_with_28 rfl (lv_at hl 5 rfl) ?_
  refine lv_i2l (v := a3.toInt64) hx hb dX0_with_29 rfl ?_
  refine lv_iload hx hb dX0_with_30 (lv_at hl 0 rfl) ?_
  refine lv_i2l (v := (j_X0_partOf (j_X0_numberOf kn ch f a1) a2).toInt64) hx hb dX0_with_32 rfl ?_
  refine lv_lsub hx hb dX0_with_33 ?_
  refine lv_iload_n hx hb dX0_with_34 rfl (lv_at hl 4 rfl) ?_
  refine k_pS [.int a2] (rest := [.long (a3.toInt64 - ((j_X0_partOf (j_X0_numberOf kn ch f a1) a2).toInt64)), .long (j_X0_numberOf kn ch f a1), .int a1, .ref x]) ⟨hx, hb, hml, hown, hts⟩ (c_X0_partNanos l D cB cJ _ a2) (va_cwS 1 hts gX0_with_X0_partNanos rfl rfl rfl (by decide +kernel) ⟨(Nat.le_of_ble_eq_true rfl), (Nat.le_of_ble_eq_true rfl)⟩) hE hS rfl rfl hl.1 (Nat.le_of_ble_eq_true rfl) dX0_with_35 ⟨(Nat.le_of_ble_eq_true rfl), (Nat.le_of_ble_eq_true rfl)⟩ (fun locs hS => ?_)
  refine W.eq (g2 := F0 m 38 ls [.long (j_X0_partNanos a2), .long (a3.toInt64 - ((j_X0_partOf (j_X0_numberOf kn ch f a1) a2).toInt64)), .long (j_X0_numberOf kn ch f a1), .int a1, .ref x]) rfl ?_
  refine lv_lmul hx hb dX0_with_38 ?_
  refine lv_ladd hx hb dX0_with_39 ?_
  have hFc := va_free (wc := [(x, .inr (2, [.ref n, .int kn, .int ch])), (n, .inl (cJ, 8, .inr (.inl f)))]) hD hS hA [0, 1] rfl
  refine k_go (va_runV (As := [.int a1, .long ((j_X0_numberOf kn ch f a1) + ((a3.toInt64 - ((j_X0_partOf (j_X0_numberOf kn ch f a1) a2).toInt64)) * (j_X0_partNanos a2)))]) (rest := []) ⟨hx, hb, hml, hown, hts⟩ (c_X0_settle l D cB cJ _ x n kn ch f hP (hD.weaken (fun _ _ _ _ => trivial)) a1 ((j_X0_numberOf kn ch f a1) + ((a3.toInt64 - ((j_X0_partOf (j_X0_numberOf kn ch f a1) a2).toInt64)) * (j_X0_partNanos a2)))) (cwV 2 hts gX0_with_X0_settle rfl rfl rfl (by decide +kernel) ⟨(Nat.le_of_ble_eq_true rfl), (Nat.le_of_ble_eq_true rfl)⟩) (k_preV hE hS hFc (va_recv hK hP (ci := 2) (q0 := 0) rfl rfl)) rfl rfl hl.1 rfl (lv_room (Nat.le_of_ble_eq_true rfl)) dX0_with_40 ⟨(Nat.le_of_ble_eq_true rfl), (Nat.le_of_ble_eq_true rfl)⟩) hS (fun q _ h => hFc q h) hFc (fun v H locs hp hz hk hS => ?_)
  obtain ⟨rfl, hP1, hD1⟩ := hp
  have hP : va_P D vwCl [(x, .inr (2, [.ref n, .int ((j_X0_settle kn ch f a1 ((j_X0_numberOf kn ch f a1) + ((a3.toInt64 - ((j_X0_partOf (j_X0_numberOf kn ch f a1) a2).toInt64)) * (j_X0_partNanos a2)))).2.1), .int ((j_X0_settle kn ch f a1 ((j_X0_numberOf kn ch f a1) + ((a3.toInt64 - ((j_X0_partOf (j_X0_numberOf kn ch f a1) a2).toInt64)) * (j_X0_partNanos a2)))).2.2.1)])), (n, .inl (cJ, 8, .inr (.inl ((j_X0_settle kn ch f a1 ((j_X0_numberOf kn ch f a1) + ((a3.toInt64 - ((j_X0_partOf (j_X0_numberOf kn ch f a1) a2).toInt64)) * (j_X0_partNanos a2)))).2.2.2))))] H := hP1
  have hD : va_D A [(x, .inr (2, [.ref n, .int ((j_X0_settle kn ch f a1 ((j_X0_numberOf kn ch f a1) + ((a3.toInt64 - ((j_X0_partOf (j_X0_numberOf kn ch f a1) a2).toInt64)) * (j_X0_partNanos a2)))).2.1), .int ((j_X0_settle kn ch f a1 ((j_X0_numberOf kn ch f a1) + ((a3.toInt64 - ((j_X0_partOf (j_X0_numberOf kn ch f a1) a2).toInt64)) * (j_X0_partNanos a2)))).2.2.1)])), (n, .inl (cJ, 8, .inr (.inl ((j_X0_settle kn ch f a1 ((j_X0_numberOf kn ch f a1) + ((a3.toInt64 - ((j_X0_partOf (j_X0_numberOf kn ch f a1) a2).toInt64)) * (j_X0_partNanos a2)))).2.2.2))))] := hD1.weaken (fun _ q _ h => hFc q.1 h)
  refine W.eq (g2 := F0 m 43 ls [.int ((j_X0_settle kn ch f a1 ((j_X0_numberOf kn ch f a1) + ((a3.toInt64 - ((j_X0_partOf (j_X0_numberOf kn ch f a1) a2).toInt64)) * (j_X0_partNanos a2)))).1)]) rfl ?_
  refine lv_pop hx hb dX0_with_43 rfl ?_
  refine lv_iload hx hb dX0_with_44 (lv_at hl 0 rfl) ?_
  refine W.widen (k := 2) (n := 12) (Nat.le_of_ble_eq_true rfl) (Nat.le_of_ble_eq_true rfl) ?_
  exact vx_ret (k_iret hx hb hr hlocks hS dX0_with_46 ⟨((j_X0_partOf (j_X0_numberOf kn ch f a1) a2), (j_X0_settle kn ch f a1 ((j_X0_numberOf kn ch f a1) + ((a3.toInt64 - ((j_X0_partOf (j_X0_numberOf kn ch f a1) a2).toInt64)) * (j_X0_partNanos a2)))).2.1, (j_X0_settle kn ch f a1 ((j_X0_numberOf kn ch f a1) + ((a3.toInt64 - ((j_X0_partOf (j_X0_numberOf kn ch f a1) a2).toInt64)) * (j_X0_partNanos a2)))).2.2.1, (j_X0_settle kn ch f a1 ((j_X0_numberOf kn ch f a1) + ((a3.toInt64 - ((j_X0_partOf (j_X0_numberOf kn ch f a1) a2).toInt64)) * (j_X0_partNanos a2)))).2.2.2), by rw [hJ, jNeed_n n_1, jNeed_n n_2], rfl, hP, hD⟩)
abbrev rm_X0_plus : Room := { frames := 8, cells := 2, slots := 12, locals := 130 }
def j_X0_plus (kn ch : Int32) (f : Nat → Int64) (a1 : Int32) (a2 : Int32) (a3 : Int32) (a4 : Int32) : Except String (Int32 × Int32 × Int32 × (Nat → Int64)) := (jNeed (j_X0_needClock a1) (jNeed (j_X0_needStepUnit a2) (.ok ((j_X0_settle kn ch f a1 (j_X0_putOn (j_X0_numberOf kn ch f a1) a2 (a3.toInt64 * a4.toInt64))).1, (j_X0_settle kn ch f a1 (j_X0_putOn (j_X0_numberOf kn ch f a1) a2 (a3.toInt64 * a4.toInt64))).2.1, (j_X0_settle kn ch f a1 (j_X0_putOn (j_X0_numberOf kn ch f a1) a2 (a3.toInt64 * a4.toInt64))).2.2.1, (j_X0_settle kn ch f a1 (j_X0_putOn (j_X0_numberOf kn ch f a1) a2 (a3.toInt64 * a4.toInt64))).2.2.2))))
set_option maxHeartbeats 4000000 in
set_option maxRecDepth 100000 in
theorem c_X0_plus (l : Launch) (hl9 : l.stackTraces = false) (D : va_G) (cB cJ : ClassId) (Hp : Heap) (x n : Nat) (kn ch : Int32) (f : Nat → Int64) (hP : va_P D vwCl (wC x n cJ kn ch f) Hp) (hD9 : va_D (fun _ => True) (wC x n cJ kn ch f)) (a1 : Int32) (a2 : Int32) (a3 : Int32) (a4 : Int32) : kV l D cB cJ yX0_plus wsX0_plus rm_X0_plus (va_A (wC x n cJ kn ch f) Hp.size) Hp [.ref x, .int a1, .int a2, .int a3, .int a4] (kPw D x n cJ (va_A (wC x n cJ kn ch f) Hp.size) (j_X0_plus kn ch f a1 a2 a3 a4)) (kXw (j_X0_plus kn ch f a1 a2 a3 a4) Hp) 2 12 := by
  refine vx_ofW (cc := cX0_plus) (maxL := 5) (ret := (some .int)) (by decide) rfl ?_
  intro p e s m args below meth c s₁ B hml htab hv
  obtain ⟨rfl, hHp, hE⟩ := hv
  subst hHp
  have hx := B.exec
  have hb := B.bytes
  have hr := B.returns
  have hts := atoms_spec (ws := wsX0_plus) B.pre
  have hown : s.vm.findClass RX0 = some m.cls := findClass_of_methodNamed B.named
  have hlocks := B.notSynchronized
  have hK := hE.1
  have hD := hD9.self (sz := s.heap.size)
  generalize hAe : va_A (wC x n cJ kn ch f) s.heap.size = A at hE hD ⊢
  have hA : ∀ q : Nat, s.heap.size ≤ q → A q := fun q h => by rw [← hAe]; exact Or.inr h
  have hS : va_S A s.heap s.heap [] := va_S.rf
  have hl := lv_entry ([.ref x, .int a1, .int a2, .int a3, .int a4]) (n := 5) (Nat.le_of_ble_eq_true rfl)
  rw [lg_entry_eq]
  generalize (lg_sl ([.ref x, .int a1, .int a2, .int a3, .int a4]) ++ List.replicate (5 - (lg_sl ([.ref x, .int a1, .int a2, .int a3, .int a4])).length) Slot.unset).toArray = ls at hl ⊢
  have hl : lv_has ls 5 [(0, .ref x), (1, .int a1), (2, .int a2), (3, .int a3), (4, .int a4)] := hl
  have hJ : (j_X0_plus kn ch f a1 a2 a3 a4) = (jNeed (j_X0_needClock a1) (jNeed (j_X0_needStepUnit a2) (.ok ((j_X0_settle kn ch f a1 (j_X0_putOn (j_X0_numberOf kn ch f a1) a2 (a3.toInt64 * a4.toInt64))).1, (j_X0_settle kn ch f a1 (j_X0_putOn (j_X0_numberOf kn ch f a1) a2 (a3.toInt64 * a4.toInt64))).2.1, (j_X0_settle kn ch f a1 (j_X0_putOn (j_X0_numberOf kn ch f a1) a2 (a3.toInt64 * a4.toInt64))).2.2.1, (j_X0_settle kn ch f a1 (j_X0_putOn (j_X0_numberOf kn ch f a1) a2 (a3.toInt64 * a4.toInt64))).2.2.2)))) := rfl
  refine lv_iload_n hx hb dX0_plus_0 rfl (lv_at hl 1 rfl) ?_
  refine kx_need [.int a1] (rest := []) ⟨hx, hb, hml, hown, hts⟩ (c_X0_needClock l hl9 D cB cJ _ a1) (va_cwS 1 hts gX0_plus_X0_needClock rfl rfl rfl (by decide +kernel) ⟨(Nat.le_of_ble_eq_true rfl), (Nat.le_of_ble_eq_true rfl)⟩) hE hS rfl rfl hl.1 (Nat.le_of_ble_eq_true rfl) dX0_plus_1 ⟨(Nat.le_of_ble_eq_true rfl), (Nat.le_of_ble_eq_true rfl)⟩ (fun E ce q9 H1 locs1 hn9 hz hk hS1 hce hcv hcl => ?_) (fun locs n_1 hS => ?_)
  · exact vx_out (fun x hx9 => (htab x hx9).elim) hlocks hce hcv hcl (fun t ht _ => ⟨⟨by rw [hJ, jNeed_s hn9], by rw [ht]; exact hz, fun q hq => by rw [ht]; exact hk q hq⟩, hS1.F ht⟩) hS1.2.2 (Nat.le_of_ble_eq_true rfl) (Nat.le_of_ble_eq_true rfl)
  refine lv_iload_n hx hb dX0_plus_4 rfl (lv_at hl 2 rfl) ?_
  refine kx_need [.int a2] (rest := []) ⟨hx, hb, hml, hown, hts⟩ (c_X0_needStepUnit l hl9 D cB cJ _ a2) (va_cwS 1 hts gX0_plus_X0_needStepUnit rfl rfl rfl (by decide +kernel) ⟨(Nat.le_of_ble_eq_true rfl), (Nat.le_of_ble_eq_true rfl)⟩) hE hS rfl rfl hl.1 (Nat.le_of_ble_eq_true rfl) dX0_plus_5 ⟨(Nat.le_of_ble_eq_true rfl), (Nat.le_of_ble_eq_true rfl)⟩ (fun E ce q9 H1 locs1 hn9 hz hk hS1 hce hcv hcl => ?_) (fun locs n_2 hS => ?_)
  · exact vx_out (fun x hx9 => (htab x hx9).elim) hlocks hce hcv hcl (fun t ht _ => ⟨⟨by rw [hJ, jNeed_n n_1, jNeed_s hn9], by rw [ht]; exact hz, fun q hq => by rw [ht]; exact hk q hq⟩, hS1.F ht⟩) hS1.2.2 (Nat.le_of_ble_eq_true rfl) (Nat.le_of_ble_eq_true rfl)
  refine lv_aload_n hx hb dX0_plus_8 rfl (lv_at hl 0 rfl) ?_
  refine lv_iload_n hx hb dX0_plus_9 rfl (lv_at hl 1 rfl) ?_
  refine lv_aload_n hx hb dX0_plus_10 rfl (lv_at hl 0 rfl) ?_
  refine lv_iload_n hx hb dX0_plus_11 rfl (lv_at hl 1 rfl) ?_
  refine k_pV [.int a1] (rest := [.int a1, .ref x]) ⟨hx, hb, hml, hown, hts⟩ (c_X0_numberOf l D cB cJ _ x n kn ch f (hP.sub [0, 1] rfl) a1) (cwV 1 hts gX0_plus_X0_numberOf rfl rfl rfl (by decide +kernel) ⟨(Nat.le_of_ble_eq_true rfl), (Nat.le_of_ble_eq_true rfl)⟩) (va_recv hK hP (ci := 2) (q0 := 0) rfl rfl) hE hS rfl rfl hl.1 (Nat.le_of_ble_eq_true rfl) dX0_plus_12 ⟨(Nat.le_of_ble_eq_true rfl), (Nat.le_of_ble_eq_true rfl)⟩ (fun locs hS => ?_)
  refine W.eq (g2 := F0 m 15 ls [.long (j_X0_numberOf kn ch f a1), .int a1, .ref x]) rfl ?_
  refine lv_iload_n hx hb dX0_plus_15 rfl (lv_at hl 2 rfl) ?_
  refine lv_iload_n hx hb dX0_plus_16 rfl (lv_at hl 3 rfl) ?_
  refine lv_i2l (v := a3.toInt64) hx hb dX0_plus_17 rfl ?_
  refine lv_iload hx hb dX0_plus_18 (lv_at hl 4 rfl) ?_
  refine lv_i2l (v := a4.toInt64) hx hb dX0_plus_20 rfl ?_
  refine lv_lmul hx hb dX0_plus_21 ?_
  refine k_pS [.long (j_X0_numberOf kn ch f a1), .int a2, .long (a3.toInt64 * a4.toInt64)] (rest := [.int a1, .ref x]) ⟨hx, hb, hml, hown, hts⟩ (c_X0_putOn l D cB cJ _ (j_X0_numberOf kn ch f a1) a2 (a3.toInt64 * a4.toInt64)) (va_cwS 3 hts gX0_plus_X0_putOn rfl rfl rfl (by decide +kernel) ⟨(Nat.le_of_ble_eq_true rfl), (Nat.le_of_ble_eq_true rfl)⟩) hE hS rfl rfl hl.1 (Nat.le_of_ble_eq_true rfl) dX0_plus_22 ⟨(Nat.le_of_ble_eq_true rfl), (Nat.le_of_ble_eq_true rfl)⟩ (fun locs hS => ?_)
  refine W.eq (g2 := F0 m 25 ls [.long (j_X0_putOn (j_X0_numberOf kn ch f a1) a2 (a3.toInt64 * a4.toInt64)), .int a1, .ref x]) rfl ?_
  have hFc := va_free (wc := [(x, .inr (2, [.ref n, .int kn, .int ch])), (n, .inl (cJ, 8, .inr (.inl f)))]) hD hS hA [0, 1] rfl
  refine k_go (va_runV (As := [.int a1, .long (j_X0_putOn (j_X0_numberOf kn ch f a1) a2 (a3.toInt64 * a4.toInt64))]) (rest := []) ⟨hx, hb, hml, hown, hts⟩ (c_X0_settle l D cB cJ _ x n kn ch f hP (hD.weaken (fun _ _ _ _ => trivial)) a1 (j_X0_putOn (j_X0_numberOf kn ch f a1) a2 (a3.toInt64 * a4.toInt64))) (cwV 2 hts gX0_plus_X0_settle rfl rfl rfl (by decide +kernel) ⟨(Nat.le_of_ble_eq_true rfl), (Nat.le_of_ble_eq_true rfl)⟩) (k_preV hE hS hFc (va_recv hK hP (ci := 2) (q0 := 0) rfl rfl)) rfl rfl hl.1 rfl (lv_room (Nat.le_of_ble_eq_true rfl)) dX0_plus_25 ⟨(Nat.le_of_ble_eq_true rfl), (Nat.le_of_ble_eq_true rfl)⟩) hS (fun q _ h => hFc q h) hFc (fun v H locs hp hz hk hS => ?_)
  obtain ⟨rfl, hP1, hD1⟩ := hp
  have hP : va_P D vwCl [(x, .inr (2, [.ref n, .int ((j_X0_settle kn ch f a1 (j_X0_putOn (j_X0_numberOf kn ch f a1) a2 (a3.toInt64 * a4.toInt64))).2.1), .int ((j_X0_settle kn ch f a1 (j_X0_putOn (j_X0_numberOf kn ch f a1) a2 (a3.toInt64 * a4.toInt64))).2.2.1)])), (n, .inl (cJ, 8, .inr (.inl ((j_X0_settle kn ch f a1 (j_X0_putOn (j_X0_numberOf kn ch f a1) a2 (a3.toInt64 * a4.toInt64))).2.2.2))))] H := hP1
  have hD : va_D A [(x, .inr (2, [.ref n, .int ((j_X0_settle kn ch f a1 (j_X0_putOn (j_X0_numberOf kn ch f a1) a2 (a3.toInt64 * a4.toInt64))).2.1), .int ((j_X0_settle kn ch f a1 (j_X0_putOn (j_X0_numberOf kn ch f a1) a2 (a3.toInt64 * a4.toInt64))).2.2.1)])), (n, .inl (cJ, 8, .inr (.inl ((j_X0_settle kn ch f a1 (j_X0_putOn (j_X0_numberOf kn ch f a1) a2 (a3.toInt64 * a4.toInt64))).2.2.2))))] := hD1.weaken (fun _ q _ h => hFc q.1 h)
  refine W.eq (g2 := F0 m 28 ls [.int ((j_X0_settle kn ch f a1 (j_X0_putOn (j_X0_numberOf kn ch f a1) a2 (a3.toInt64 * a4.toInt64))).1)]) rfl ?_
  refine W.widen (k := 2) (n := 12) (Nat.le_of_ble_eq_true rfl) (Nat.le_of_ble_eq_true rfl) ?_
  exact vx_ret (k_iret hx hb hr hlocks hS dX0_plus_28 ⟨((j_X0_settle kn ch f a1 (j_X0_putOn (j_X0_numberOf kn ch f a1) a2 (a3.toInt64 * a4.toInt64))).1, (j_X0_settle kn ch f a1 (j_X0_putOn (j_X0_numberOf kn ch f a1) a2 (a3.toInt64 * a4.toInt64))).2.1, (j_X0_settle kn ch f a1 (j_X0_putOn (j_X0_numberOf kn ch f a1) a2 (a3.toInt64 * a4.toInt64))).2.2.1, (j_X0_settle kn ch f a1 (j_X0_putOn (j_X0_numberOf kn ch f a1) a2 (a3.toInt64 * a4.toInt64))).2.2.2), by rw [hJ, jNeed_n n_1, jNeed_n n_2], rfl, hP, hD⟩)
abbrev rm_X0_minus : Room := { frames := 8, cells := 2, slots := 12, locals := 130 }
def j_X0_minus (kn ch : Int32) (f : Nat → Int64) (a1 : Int32) (a2 : Int32) (a3 : Int32) (a4 : Int32) : Except String (Int32 × Int32 × Int32 × (Nat → Int64)) := (jNeed (j_X0_needClock a1) (jNeed (j_X0_needStepUnit a2) (.ok ((j_X0_settle kn ch f a1 (j_X0_putOn (j_X0_numberOf kn ch f a1) a2 (-(a3.toInt64 * a4.toInt64)))).1, (j_X0_settle kn ch f a1 (j_X0_putOn (j_X0_numberOf kn ch f a1) a2 (-(a3.toInt64 * a4.toInt64)))).2.1, (j_X0_settle kn ch f a1 (j_X0_putOn (j_X0_numberOf kn ch f a1) a2 (-(a3.toInt64 * a4.toInt64)))).2.2.1, (j_X0_settle kn ch f a1 (j_X0_putOn (j_X0_numberOf kn ch f a1) a2 (-(a3.toInt64 * a4.toInt64)))).2.2.2))))
set_option maxHeartbeats 4000000 in
set_option maxRecDepth 100000 in
theorem c_X0_minus (l : Launch) (hl9 : l.stackTraces = false) (D : va_G) (cB cJ : ClassId) (Hp : Heap) (x n : Nat) (kn ch : Int32) (f : Nat → Int64) (hP : va_P D vwCl (wC x n cJ kn ch f) Hp) (hD9 : va_D (fun _ => True) (wC x n cJ kn ch f)) (a1 : Int32) (a2 : Int32) (a3 : Int32) (a4 : Int32) : kV l D cB cJ yX0_minus wsX0_minus rm_X0_minus (va_A (wC x n cJ kn ch f) Hp.size) Hp [.ref x, .int a1, .int a2, .int a3, .int a4] (kPw D x n cJ (va_A (wC x n cJ kn ch f) Hp.size) (j_X0_minus kn ch f a1 a2 a3 a4)) (kXw (j_X0_minus kn ch f a1 a2 a3 a4) Hp) 2 12 := by
  refine vx_ofW (cc := cX0_minus) (maxL := 5) (ret := (some .int)) (by decide) rfl ?_
  intro p e s m args below meth c s₁ B hml htab hv
  obtain ⟨rfl, hHp, hE⟩ := hv
  subst hHp
  have hx := B.exec
  have hb := B.bytes
  have hr := B.returns
  have hts := atoms_spec (ws := wsX0_minus) B.pre
  have hown : s.vm.findClass RX0 = some m.cls := findClass_of_methodNamed B.named
  have hlocks := B.notSynchronized
  have hK := hE.1
  have hD := hD9.self (sz := s.heap.size)
  generalize hAe : va_A (wC x n cJ kn ch f) s.heap.size = A at hE hD ⊢
  have hA : ∀ q : Nat, s.heap.size ≤ q → A q := fun q h => by rw [← hAe]; exact Or.inr h
  have hS : va_S A s.heap s.heap [] := va_S.rf
  have hl := lv_entry ([.ref x, .int a1, .int a2, .int a3, .int a4]) (n := 5) (Nat.le_of_ble_eq_true rfl)
  rw [lg_entry_eq]
  generalize (lg_sl ([.ref x, .int a1, .int a2, .int a3, .int a4]) ++ List.replicate (5 - (lg_sl ([.ref x, .int a1, .int a2, .int a3, .int a4])).length) Slot.unset).toArray = ls at hl ⊢
  have hl : lv_has ls 5 [(0, .ref x), (1, .int a1), (2, .int a2), (3, .int a3), (4, .int a4)] := hl
  have hJ : (j_X0_minus kn ch f a1 a2 a3 a4) = (jNeed (j_X0_needClock a1) (jNeed (j_X0_needStepUnit a2) (.ok ((j_X0_settle kn ch f a1 (j_X0_putOn (j_X0_numberOf kn ch f a1) a2 (-(a3.toInt64 * a4.toInt64)))).1, (j_X0_settle kn ch f a1 (j_X0_putOn (j_X0_numberOf kn ch f a1) a2 (-(a3.toInt64 * a4.toInt64)))).2.1, (j_X0_settle kn ch f a1 (j_X0_putOn (j_X0_numberOf kn ch f a1) a2 (-(a3.toInt64 * a4.toInt64)))).2.2.1, (j_X0_settle kn ch f a1 (j_X0_putOn (j_X0_numberOf kn ch f a1) a2 (-(a3.toInt64 * a4.toInt64)))).2.2.2)))) := rfl
  refine lv_iload_n hx hb dX0_minus_0 rfl (lv_at hl 1 rfl) ?_
  refine kx_need [.int a1] (rest := []) ⟨hx, hb, hml, hown, hts⟩ (c_X0_needClock l hl9 D cB cJ _ a1) (va_cwS 1 hts gX0_minus_X0_needClock rfl rfl rfl (by decide +kernel) ⟨(Nat.le_of_ble_eq_true rfl), (Nat.le_of_ble_eq_true rfl)⟩) hE hS rfl rfl hl.1 (Nat.le_of_ble_eq_true rfl) dX0_minus_1 ⟨(Nat.le_of_ble_eq_true rfl), (Nat.le_of_ble_eq_true rfl)⟩ (fun E ce q9 H1 locs1 hn9 hz hk hS1 hce hcv hcl => ?_) (fun locs n_1 hS => ?_)
  · exact vx_out (fun x hx9 => (htab x hx9).elim) hlocks hce hcv hcl (fun t ht _ => ⟨⟨by rw [hJ, jNeed_s hn9], by rw [ht]; exact hz, fun q hq => by rw [ht]; exact hk q hq⟩, hS1.F ht⟩) hS1.2.2 (Nat.le_of_ble_eq_true rfl) (Nat.le_of_ble_eq_true rfl)
  refine lv_iload_n hx hb dX0_minus_4 rfl (lv_at hl 2 rfl) ?_
  refine kx_need [.int a2] (rest := []) ⟨hx, hb, hml, hown, hts⟩ (c_X0_needStepUnit l hl9 D cB cJ _ a2) (va_cwS 1 hts gX0_minus_X0_needStepUnit rfl rfl rfl (by decide +kernel) ⟨(Nat.le_of_ble_eq_true rfl), (Nat.le_of_ble_eq_true rfl)⟩) hE hS rfl rfl hl.1 (Nat.le_of_ble_eq_true rfl) dX0_minus_5 ⟨(Nat.le_of_ble_eq_true rfl), (Nat.le_of_ble_eq_true rfl)⟩ (fun E ce q9 H1 locs1 hn9 hz hk hS1 hce hcv hcl => ?_) (fun locs n_2 hS => ?_)
  · exact vx_out (fun x hx9 => (htab x hx9).elim) hlocks hce hcv hcl (fun t ht _ => ⟨⟨by rw [hJ, jNeed_n n_1, jNeed_s hn9], by rw [ht]; exact hz, fun q hq => by rw [ht]; exact hk q hq⟩, hS1.F ht⟩) hS1.2.2 (Nat.le_of_ble_eq_true rfl) (Nat.le_of_ble_eq_true rfl)
  refine lv_aload_n hx hb dX0_minus_8 rfl (lv_at hl 0 rfl) ?_
  refine lv_iload_n hx hb dX0_minus_9 rfl (lv_at hl 1 rfl) ?_
  refine lv_aload_n hx hb dX0_minus_10 rfl (lv_at hl 0 rfl) ?_
  refine lv_iload_n hx hb dX0_minus_11 rfl (lv_at hl 1 rfl) ?_
  refine k_pV [.int a1] (rest := [.int a1, .ref x]) ⟨hx, hb, hml, hown, hts⟩ (c_X0_numberOf l D cB cJ _ x n kn ch f (hP.sub [0, 1] rfl) a1) (cwV 1 hts gX0_minus_X0_numberOf rfl rfl rfl (by decide +kernel) ⟨(Nat.le_of_ble_eq_true rfl), (Nat.le_of_ble_eq_true rfl)⟩) (va_recv hK hP (ci := 2) (q0 := 0) rfl rfl) hE hS rfl rfl hl.1 (Nat.le_of_ble_eq_true rfl) dX0_minus_12 ⟨(Nat.le_of_ble_eq_true rfl), (Nat.le_of_ble_eq_true rfl)⟩ (fun locs hS => ?_)
  refine W.eq (g2 := F0 m 15 ls [.long (j_X0_numberOf kn ch f a1), .int a1, .ref x]) rfl ?_
  refine lv_iload_n hx hb dX0_minus_15 rfl (lv_at hl 2 rfl) ?_
  refine lv_iload_n hx hb dX0_minus_16 rfl (lv_at hl 3 rfl) ?_
  refine lv_i2l (v := a3.toInt64) hx hb dX0_minus_17 rfl ?_
  refine lv_iload hx hb dX0_minus_18 (lv_at hl 4 rfl) ?_
  refine lv_i2l (v := a4.toInt64) hx hb dX0_minus_20 rfl ?_
  refine lv_lmul hx hb dX0_minus_21 ?_
  refine lv_lneg hx hb dX0_minus_22 ?_
  refine k_pS [.long (j_X0_numberOf kn ch f a1), .int a2, .long (-(a3.toInt64 * a4.toInt64))] (rest := [.int a1, .ref x]) ⟨hx, hb, hml, hown, hts⟩ (c_X0_putOn l D cB cJ _ (j_X0_numberOf kn ch f a1) a2 (-(a3.toInt64 * a4.toInt64))) (va_cwS 3 hts gX0_minus_X0_putOn rfl rfl rfl (by decide +kernel) ⟨(Nat.le_of_ble_eq_true rfl), (Nat.le_of_ble_eq_true rfl)⟩) hE hS rfl rfl hl.1 (Nat.le_of_ble_eq_true rfl) dX0_minus_23 ⟨(Nat.le_of_ble_eq_true rfl), (Nat.le_of_ble_eq_true rfl)⟩ (fun locs hS => ?_)
  refine W.eq (g2 := F0 m 26 ls [.long (j_X0_putOn (j_X0_numberOf kn ch f a1) a2 (-(a3.toInt64 * a4.toInt64))), .int a1, .ref x]) rfl ?_
  have hFc := va_free (wc := [(x, .inr (2, [.ref n, .int kn, .int ch])), (n, .inl (cJ, 8, .inr (.inl f)))]) hD hS hA [0, 1] rfl
  refine k_go (va_runV (As := [.int a1, .long (j_X0_putOn (j_X0_numberOf kn ch f a1) a2 (-(a3.toInt64 * a4.toInt64)))]) (rest := []) ⟨hx, hb, hml, hown, hts⟩ (c_X0_settle l D cB cJ _ x n kn ch f hP (hD.weaken (fun _ _ _ _ => trivial)) a1 (j_X0_putOn (j_X0_numberOf kn ch f a1) a2 (-(a3.toInt64 * a4.toInt64)))) (cwV 2 hts gX0_minus_X0_settle rfl rfl rfl (by decide +kernel) ⟨(Nat.le_of_ble_eq_true rfl), (Nat.le_of_ble_eq_true rfl)⟩) (k_preV hE hS hFc (va_recv hK hP (ci := 2) (q0 := 0) rfl rfl)) rfl rfl hl.1 rfl (lv_room (Nat.le_of_ble_eq_true rfl)) dX0_minus_26 ⟨(Nat.le_of_ble_eq_true rfl), (Nat.le_of_ble_eq_true rfl)⟩) hS (fun q _ h => hFc q h) hFc (fun v H locs hp hz hk hS => ?_)
  obtain ⟨rfl, hP1, hD1⟩ := hp
  have hP : va_P D vwCl [(x, .inr (2, [.ref n, .int ((j_X0_settle kn ch f a1 (j_X0_putOn (j_X0_numberOf kn ch f a1) a2 (-(a3.toInt64 * a4.toInt64)))).2.1), .int ((j_X0_settle kn ch f a1 (j_X0_putOn (j_X0_numberOf kn ch f a1) a2 (-(a3.toInt64 * a4.toInt64)))).2.2.1)])), (n, .inl (cJ, 8, .inr (.inl ((j_X0_settle kn ch f a1 (j_X0_putOn (j_X0_numberOf kn ch f a1) a2 (-(a3.toInt64 * a4.toInt64)))).2.2.2))))] H := hP1
  have hD : va_D A [(x, .inr (2, [.ref n, .int ((j_X0_settle kn ch f a1 (j_X0_putOn (j_X0_numberOf kn ch f a1) a2 (-(a3.toInt64 * a4.toInt64)))).2.1), .int ((j_X0_settle kn ch f a1 (j_X0_putOn (j_X0_numberOf kn ch f a1) a2 (-(a3.toInt64 * a4.toInt64)))).2.2.1)])), (n, .inl (cJ, 8, .inr (.inl ((j_X0_settle kn ch f a1 (j_X0_putOn (j_X0_numberOf kn ch f a1) a2 (-(a3.toInt64 * a4.toInt64)))).2.2.2))))] := hD1.weaken (fun _ q _ h => hFc q.1 h)
  refine W.eq (g2 := F0 m 29 ls [.int ((j_X0_settle kn ch f a1 (j_X0_putOn (j_X0_numberOf kn ch f a1) a2 (-(a3.toInt64 * a4.toInt64)))).1)]) rfl ?_
  refine W.widen (k := 2) (n := 12) (Nat.le_of_ble_eq_true rfl) (Nat.le_of_ble_eq_true rfl) ?_
  exact vx_ret (k_iret hx hb hr hlocks hS dX0_minus_29 ⟨((j_X0_settle kn ch f a1 (j_X0_putOn (j_X0_numberOf kn ch f a1) a2 (-(a3.toInt64 * a4.toInt64)))).1, (j_X0_settle kn ch f a1 (j_X0_putOn (j_X0_numberOf kn ch f a1) a2 (-(a3.toInt64 * a4.toInt64)))).2.1, (j_X0_settle kn ch f a1 (j_X0_putOn (j_X0_numberOf kn ch f a1) a2 (-(a3.toInt64 * a4.toInt64)))).2.2.1, (j_X0_settle kn ch f a1 (j_X0_putOn (j_X0_numberOf kn ch f a1) a2 (-(a3.toInt64 * a4.toInt64)))).2.2.2), by rw [hJ, jNeed_n n_1, jNeed_n n_2], rfl, hP, hD⟩)
abbrev rm_X0_cut : Room := { frames := 8, cells := 2, slots := 12, locals := 131 }
def j_X0_cut (kn ch : Int32) (f : Nat → Int64) (a1 : Int32) (a2 : Int32) : Except String (Int32 × Int32 × Int32 × (Nat → Int64)) := (jNeed (j_X0_needClock a1) (jNeed (j_X0_needUnit a2 7) (.ok ((j_X0_settle kn ch f a1 (j_X0_cutNumber (j_X0_numberOf kn ch f a1) a2)).1, (j_X0_settle kn ch f a1 (j_X0_cutNumber (j_X0_numberOf kn ch f a1) a2)).2.1, (j_X0_settle kn ch f a1 (j_X0_cutNumber (j_X0_numberOf kn ch f a1) a2)).2.2.1, (j_X0_settle kn ch f a1 (j_X0_cutNumber (j_X0_numberOf kn ch f a1) a2)).2.2.2))))
set_option maxHeartbeats 4000000 in
set_option maxRecDepth 100000 in
theorem c_X0_cut (l : Launch) (hl9 : l.stackTraces = false) (D : va_G) (cB cJ : ClassId) (Hp : Heap) (x n : Nat) (kn ch : Int32) (f : Nat → Int64) (hP : va_P D vwCl (wC x n cJ kn ch f) Hp) (hD9 : va_D (fun _ => True) (wC x n cJ kn ch f)) (a1 : Int32) (a2 : Int32) : kV l D cB cJ yX0_cut wsX0_cut rm_X0_cut (va_A (wC x n cJ kn ch f) Hp.size) Hp [.ref x, .int a1, .int a2] (kPw D x n cJ (va_A (wC x n cJ kn ch f) Hp.size) (j_X0_cut kn ch f a1 a2)) (kXw (j_X0_cut kn ch f a1 a2) Hp) 2 12 := by
  refine vx_ofW (cc := cX0_cut) (maxL := 3) (ret := (some .int)) (by decide) rfl ?_
  intro p e s m args below meth c s₁ B hml htab hv
  obtain ⟨rfl, hHp, hE⟩ := hv
  subst hHp
  have hx := B.exec
  have hb := B.bytes
  have hr := B.returns
  have hts := atoms_spec (ws := wsX0_cut) B.pre
  have hown : s.vm.findClass RX0 = some m.cls := findClass_of_methodNamed B.named
  have hlocks := B.notSynchronized
  have hK := hE.1
  have hD := hD9.self (sz := s.heap.size)
  generalize hAe : va_A (wC x n cJ kn ch f) s.heap.size = A at hE hD ⊢
  have hA : ∀ q : Nat, s.heap.size ≤ q → A q := fun q h => by rw [← hAe]; exact Or.inr h
  have hS : va_S A s.heap s.heap [] := va_S.rf
  have hl := lv_entry ([.ref x, .int a1, .int a2]) (n := 3) (Nat.le_of_ble_eq_true rfl)
  rw [lg_entry_eq]
  generalize (lg_sl ([.ref x, .int a1, .int a2]) ++ List.replicate (3 - (lg_sl ([.ref x, .int a1, .int a2])).length) Slot.unset).toArray = ls at hl ⊢
  have hl : lv_has ls 3 [(0, .ref x), (1, .int a1), (2, .int a2)] := hl
  have hJ : (j_X0_cut kn ch f a1 a2) = (jNeed (j_X0_needClock a1) (jNeed (j_X0_needUnit a2 7) (.ok ((j_X0_settle kn ch f a1 (j_X0_cutNumber (j_X0_numberOf kn ch f a1) a2)).1, (j_X0_settle kn ch f a1 (j_X0_cutNumber (j_X0_numberOf kn ch f a1) a2)).2.1, (j_X0_settle kn ch f a1 (j_X0_cutNumber (j_X0_numberOf kn ch f a1) a2)).2.2.1, (j_X0_settle kn ch f a1 (j_X0_cutNumber (j_X0_numberOf kn ch f a1) a2)).2.2.2)))) := rfl
  refine lv_iload_n hx hb dX0_cut_0 rfl (lv_at hl 1 rfl) ?_
  refine kx_need [.int a1] (rest := []) ⟨hx, hb, hml, hown, hts⟩ (c_X0_needClock l hl9 D cB cJ _ a1) (va_cwS 1 hts gX0_cut_X0_needClock rfl rfl rfl (by decide +kernel) ⟨(Nat.le_of_ble_eq_true rfl), (Nat.le_of_ble_eq_true rfl)⟩) hE hS rfl rfl hl.1 (Nat.le_of_ble_eq_true rfl) dX0_cut_1 ⟨(Nat.le_of_ble_eq_true rfl), (Nat.le_of_ble_eq_true rfl)⟩ (fun E ce q9 H1 locs1 hn9 hz hk hS1 hce hcv hcl => ?_) (fun locs n_1 hS => ?_)
  · exact vx_out (fun x hx9 => (htab x hx9).elim) hlocks hce hcv hcl (fun t ht _ => ⟨⟨by rw [hJ, jNeed_s hn9], by rw [ht]; exact hz, fun q hq => by rw [ht]; exact hk q hq⟩, hS1.F ht⟩) hS1.2.2 (Nat.le_of_ble_eq_true rfl) (Nat.le_of_ble_eq_true rfl)
  refine lv_iload_n hx hb dX0_cut_4 rfl (lv_at hl 2 rfl) ?_
  refine lv_bipush (v := 7) hx hb dX0_cut_5 (by decide) ?_
  refine kx_need [.int a2, .int 7] (rest := []) ⟨hx, hb, hml, hown, hts⟩ (c_X0_needUnit l hl9 D cB cJ _ a2 7) (va_cwS 2 hts gX0_cut_X0_needUnit rfl rfl rfl (by decide +kernel) ⟨(Nat.le_of_ble_eq_true rfl), (Nat.le_of_ble_eq_true rfl)⟩) hE hS rfl rfl hl.1 (Nat.le_of_ble_eq_true rfl) dX0_cut_7 ⟨(Nat.le_of_ble_eq_true rfl), (Nat.le_of_ble_eq_true rfl)⟩ (fun E ce q9 H1 locs1 hn9 hz hk hS1 hce hcv hcl => ?_) (fun locs n_2 hS => ?_)
  · exact vx_out (fun x hx9 => (htab x hx9).elim) hlocks hce hcv hcl (fun t ht _ => ⟨⟨by rw [hJ, jNeed_n n_1, jNeed_s hn9], by rw [ht]; exact hz, fun q hq => by rw [ht]; exact hk q hq⟩, hS1.F ht⟩) hS1.2.2 (Nat.le_of_ble_eq_true rfl) (Nat.le_of_ble_eq_true rfl)
  refine lv_aload_n hx hb dX0_cut_10 rfl (lv_at hl 0 rfl) ?_
  refine lv_iload_n hx hb dX0_cut_11 rfl (lv_at hl 1 rfl) ?_
  refine lv_aload_n hx hb dX0_cut_12 rfl (lv_at hl 0 rfl) ?_
  refine lv_iload_n hx hb dX0_cut_13 rfl (lv_at hl 1 rfl) ?_
  refine k_pV [.int a1] (rest := [.int a1, .ref x]) ⟨hx, hb, hml, hown, hts⟩ (c_X0_numberOf l D cB cJ _ x n kn ch f (hP.sub [0, 1] rfl) a1) (cwV 1 hts gX0_cut_X0_numberOf rfl rfl rfl (by decide +kernel) ⟨(Nat.le_of_ble_eq_true rfl), (Nat.le_of_ble_eq_true rfl)⟩) (va_recv hK hP (ci := 2) (q0 := 0) rfl rfl) hE hS rfl rfl hl.1 (Nat.le_of_ble_eq_true rfl) dX0_cut_14 ⟨(Nat.le_of_ble_eq_true rfl), (Nat.le_of_ble_eq_true rfl)⟩ (fun locs hS => ?_)
  refine W.eq (g2 := F0 m 17 ls [.long (j_X0_numberOf kn ch f a1), .int a1, .ref x]) rfl ?_
  refine lv_iload_n hx hb dX0_cut_17 rfl (lv_at hl 2 rfl) ?_
  refine k_pS [.long (j_X0_numberOf kn ch f a1), .int a2] (rest := [.int a1, .ref x]) ⟨hx, hb, hml, hown, hts⟩ (c_X0_cutNumber l D cB cJ _ (j_X0_numberOf kn ch f a1) a2) (va_cwS 2 hts gX0_cut_X0_cutNumber rfl rfl rfl (by decide +kernel) ⟨(Nat.le_of_ble_eq_true rfl), (Nat.le_of_ble_eq_true rfl)⟩) hE hS rfl rfl hl.1 (Nat.le_of_ble_eq_true rfl) dX0_cut_18 ⟨(Nat.le_of_ble_eq_true rfl), (Nat.le_of_ble_eq_true rfl)⟩ (fun locs hS => ?_)
  refine W.eq (g2 := F0 m 21 ls [.long (j_X0_cutNumber (j_X0_numberOf kn ch f a1) a2), .int a1, .ref x]) rfl ?_
  have hFc := va_free (wc := [(x, .inr (2, [.ref n, .int kn, .int ch])), (n, .inl (cJ, 8, .inr (.inl f)))]) hD hS hA [0, 1] rfl
  refine k_go (va_runV (As := [.int a1, .long (j_X0_cutNumber (j_X0_numberOf kn ch f a1) a2)]) (rest := []) ⟨hx, hb, hml, hown, hts⟩ (c_X0_settle l D cB cJ _ x n kn ch f hP (hD.weaken (fun _ _ _ _ => trivial)) a1 (j_X0_cutNumber (j_X0_numberOf kn ch f a1) a2)) (cwV 2 hts gX0_cut_X0_settle rfl rfl rfl (by decide +kernel) ⟨(Nat.le_of_ble_eq_true rfl), (Nat.le_of_ble_eq_true rfl)⟩) (k_preV hE hS hFc (va_recv hK hP (ci := 2) (q0 := 0) rfl rfl)) rfl rfl hl.1 rfl (lv_room (Nat.le_of_ble_eq_true rfl)) dX0_cut_21 ⟨(Nat.le_of_ble_eq_true rfl), (Nat.le_of_ble_eq_true rfl)⟩) hS (fun q _ h => hFc q h) hFc (fun v H locs hp hz hk hS => ?_)
  obtain ⟨rfl, hP1, hD1⟩ := hp
  have hP : va_P D vwCl [(x, .inr (2, [.ref n, .int ((j_X0_settle kn ch f a1 (j_X0_cutNumber (j_X0_numberOf kn ch f a1) a2)).2.1), .int ((j_X0_settle kn ch f a1 (j_X0_cutNumber (j_X0_numberOf kn ch f a1) a2)).2.2.1)])), (n, .inl (cJ, 8, .inr (.inl ((j_X0_settle kn ch f a1 (j_X0_cutNumber (j_X0_numberOf kn ch f a1) a2)).2.2.2))))] H := hP1
  have hD : va_D A [(x, .inr (2, [.ref n, .int ((j_X0_settle kn ch f a1 (j_X0_cutNumber (j_X0_numberOf kn ch f a1) a2)).2.1), .int ((j_X0_settle kn ch f a1 (j_X0_cutNumber (j_X0_numberOf kn ch f a1) a2)).2.2.1)])), (n, .inl (cJ, 8, .inr (.inl ((j_X0_settle kn ch f a1 (j_X0_cutNumber (j_X0_numberOf kn ch f a1) a2)).2.2.2))))] := hD1.weaken (fun _ q _ h => hFc q.1 h)
  refine W.eq (g2 := F0 m 24 ls [.int ((j_X0_settle kn ch f a1 (j_X0_cutNumber (j_X0_numberOf kn ch f a1) a2)).1)]) rfl ?_
  refine W.widen (k := 2) (n := 12) (Nat.le_of_ble_eq_true rfl) (Nat.le_of_ble_eq_true rfl) ?_
  exact vx_ret (k_iret hx hb hr hlocks hS dX0_cut_24 ⟨((j_X0_settle kn ch f a1 (j_X0_cutNumber (j_X0_numberOf kn ch f a1) a2)).1, (j_X0_settle kn ch f a1 (j_X0_cutNumber (j_X0_numberOf kn ch f a1) a2)).2.1, (j_X0_settle kn ch f a1 (j_X0_cutNumber (j_X0_numberOf kn ch f a1) a2)).2.2.1, (j_X0_settle kn ch f a1 (j_X0_cutNumber (j_X0_numberOf kn ch f a1) a2)).2.2.2), by rw [hJ, jNeed_n n_1, jNeed_n n_2], rfl, hP, hD⟩)
theorem at_X0_of_56 : ∀ w ∈ (vx_atS RX0 56 "java/lang/IllegalArgumentException" ["java/lang/RuntimeException", "java/lang/Exception"]).filter goodWord, w ∈ wsX0_of := fun w h => List.mem_cons_of_mem _ (List.mem_append_left _ (List.mem_append_right _ h))
abbrev rm_X0_of : Room := { frames := 8, cells := 2, slots := 12, locals := 130 }
def j_X0_of (kn ch : Int32) (f : Nat → Int64) (a1 : Int32) (a2 : Int32) : Except String (Int32 × Int32 × Int32 × (Nat → Int64)) := (jNeed (j_X0_needClock a1) (if a2 < 0 then (.error "java/lang/IllegalArgumentException") else (if a2 ≤ 4 then (.ok ((j_X0_partOf (j_X0_numberOf kn ch f a1) a2), kn, ch, f)) else (.error "java/lang/IllegalArgumentException"))))
set_option maxHeartbeats 4000000 in
set_option maxRecDepth 100000 in
theorem c_X0_of (l : Launch) (hl9 : l.stackTraces = false) (D : va_G) (cB cJ : ClassId) (Hp : Heap) (x n : Nat) (kn ch : Int32) (f : Nat → Int64) (hP : va_P D vwCl (wC x n cJ kn ch f) Hp) (hD9 : va_D (fun _ => True) (wC x n cJ kn ch f)) (a1 : Int32) (a2 : Int32) : kV l D cB cJ yX0_of wsX0_of rm_X0_of (va_A (wC x n cJ kn ch f) Hp.size) Hp [.ref x, .int a1, .int a2] (kPw D x n cJ (va_A (wC x n cJ kn ch f) Hp.size) (j_X0_of kn ch f a1 a2)) (kXw (j_X0_of kn ch f a1 a2) Hp) 2 12 := by
  refine vx_ofW (cc := cX0_of) (maxL := 3) (ret := (some .int)) (by decide) rfl ?_
  intro p e s m args below meth c s₁ B hml htab hv
  obtain ⟨rfl, hHp, hE⟩ := hv
  subst hHp
  have hx := B.exec
  have hb := B.bytes
  have hr := B.returns
  have hts := atoms_spec (ws := wsX0_of) B.pre
  have hown : s.vm.findClass RX0 = some m.cls := findClass_of_methodNamed B.named
  have hlocks := B.notSynchronized
  have hK := hE.1
  have hD := hD9.self (sz := s.heap.size)
  generalize hAe : va_A (wC x n cJ kn ch f) s.heap.size = A at hE hD ⊢
  have hA : ∀ q : Nat, s.heap.size ≤ q → A q := fun q h => by rw [← hAe]; exact Or.inr h
  have hS : va_S A s.heap s.heap [] := va_S.rf
  have hl := lv_entry ([.ref x, .int a1, .int a2]) (n := 3) (Nat.le_of_ble_eq_true rfl)
  rw [lg_entry_eq]
  generalize (lg_sl ([.ref x, .int a1, .int a2]) ++ List.replicate (3 - (lg_sl ([.ref x, .int a1, .int a2])).length) Slot.unset).toArray = ls at hl ⊢
  have hl : lv_has ls 3 [(0, .ref x), (1, .int a1), (2, .int a2)] := hl
  obtain ⟨k9, hk9⟩ := hE.2.2.1
  have hJ : (j_X0_of kn ch f a1 a2) = (jNeed (j_X0_needClock a1) (if a2 < 0 then (.error "java/lang/IllegalArgumentException") else (if a2 ≤ 4 then (.ok ((j_X0_partOf (j_X0_numberOf kn ch f a1) a2), kn, ch, f)) else (.error "java/lang/IllegalArgumentException")))) := rfl
  refine lv_iload_n hx hb dX0_of_0 rfl (lv_at hl 1 rfl) ?_
  refine kx_need [.int a1] (rest := []) ⟨hx, hb, hml, hown, hts⟩ (c_X0_needClock l hl9 D cB cJ _ a1) (va_cwS 1 hts gX0_of_X0_needClock rfl rfl rfl (by decide +kernel) ⟨(Nat.le_of_ble_eq_true rfl), (Nat.le_of_ble_eq_true rfl)⟩) hE hS rfl rfl hl.1 (Nat.le_of_ble_eq_true rfl) dX0_of_1 ⟨(Nat.le_of_ble_eq_true rfl), (Nat.le_of_ble_eq_true rfl)⟩ (fun E ce q9 H1 locs1 hn9 hz hk hS1 hce hcv hcl => ?_) (fun locs n_1 hS => ?_)
  · exact vx_out (fun x hx9 => (htab x hx9).elim) hlocks hce hcv hcl (fun t ht _ => ⟨⟨by rw [hJ, jNeed_s hn9], by rw [ht]; exact hz, fun q hq => by rw [ht]; exact hk q hq⟩, hS1.F ht⟩) hS1.2.2 (Nat.le_of_ble_eq_true rfl) (Nat.le_of_ble_eq_true rfl)
  refine lv_iload_n hx hb dX0_of_4 rfl (lv_at hl 2 rfl) ?_
  refine lv_if_lt (tgt := 13) hx hb dX0_of_5 (by decide) (fun c_2 => ?_) (fun c_2 => ?_)
  · exact vx_throwS hx hb hl9 (own := RX0) (cls := "java/lang/IllegalArgumentException") (text := "what is not 0 to 4") (names := ["java/lang/RuntimeException", "java/lang/Exception"]) (ik := 52) (is := 78) (ic := 56) (sa := k9 8) hown (by decide) (by decide) (hts (.classLink RX0 52 "java/lang/IllegalArgumentException") (by decide +kernel)) (hts (.initialized "java/lang/IllegalArgumentException") (by decide +kernel)) (hk9 8 _ rfl) (vx_hat (fun w h => hts w (at_X0_of_56 w h)) (fun w h => by rw [atn_56] at h; exact h) (hE.2.2.2.1.bad hE.2.2.2.1.2.1)) atg_56 hE.2.1.2.2.2.2.2.2.2.2.1 hE.2.1.2.2.2.2.2.2.2.2.2 hS (hl.1.trans hml.symm) dX0_of_13 dX0_of_16 dX0_of_17 dX0_of_19 dX0_of_22 (fun x hx9 => (htab x hx9).elim) (Nat.le_of_ble_eq_true rfl) (Nat.le_of_ble_eq_true rfl) (Nat.le_of_ble_eq_true rfl) (Nat.le_of_ble_eq_true rfl) hlocks (fun t _ hz hk => ⟨⟨by rw [hJ, jNeed_n n_1, if_pos c_2], hz, hk⟩, k_F hS hz hk⟩) hS.2.2 (Nat.le_of_ble_eq_true rfl) (Nat.le_of_ble_eq_true rfl)
  · refine lv_iload_n hx hb dX0_of_8 rfl (lv_at hl 2 rfl) ?_
    refine lv_iconst (v := 4) hx hb dX0_of_9 (by decide) ?_
    refine lv_icmp_le (tgt := 23) hx hb dX0_of_10 (by decide) (fun c_3 => ?_) (fun c_3 => ?_)
    · refine lv_aload_n hx hb dX0_of_23 rfl (lv_at hl 0 rfl) ?_
      refine lv_iload_n hx hb dX0_of_24 rfl (lv_at hl 1 rfl) ?_
      refine k_pV [.int a1] (rest := []) ⟨hx, hb, hml, hown, hts⟩ (c_X0_numberOf l D cB cJ _ x n kn ch f (hP.sub [0, 1] rfl) a1) (cwV 1 hts gX0_of_X0_numberOf rfl rfl rfl (by decide +kernel) ⟨(Nat.le_of_ble_eq_true rfl), (Nat.le_of_ble_eq_true rfl)⟩) (va_recv hK hP (ci := 2) (q0 := 0) rfl rfl) hE hS rfl rfl hl.1 (Nat.le_of_ble_eq_true rfl) dX0_of_25 ⟨(Nat.le_of_ble_eq_true rfl), (Nat.le_of_ble_eq_true rfl)⟩ (fun locs hS => ?_)
      refine W.eq (g2 := F0 m 28 ls [.long (j_X0_numberOf kn ch f a1)]) rfl ?_
      refine lv_iload_n hx hb dX0_of_28 rfl (lv_at hl 2 rfl) ?_
      refine k_pS [.long (j_X0_numberOf kn ch f a1), .int a2] (rest := []) ⟨hx, hb, hml, hown, hts⟩ (c_X0_partOf l D cB cJ _ (j_X0_numberOf kn ch f a1) a2) (va_cwS 2 hts gX0_of_X0_partOf rfl rfl rfl (by decide +kernel) ⟨(Nat.le_of_ble_eq_true rfl), (Nat.le_of_ble_eq_true rfl)⟩) hE hS rfl rfl hl.1 (Nat.le_of_ble_eq_true rfl) dX0_of_29 ⟨(Nat.le_of_ble_eq_true rfl), (Nat.le_of_ble_eq_true rfl)⟩ (fun locs hS => ?_)
      refine W.eq (g2 := F0 m 32 ls [.int (j_X0_partOf (j_X0_numberOf kn ch f a1) a2)]) rfl ?_
      refine W.widen (k := 2) (n := 12) (Nat.le_of_ble_eq_true rfl) (Nat.le_of_ble_eq_true rfl) ?_
      exact vx_ret (k_iret hx hb hr hlocks hS dX0_of_32 ⟨((j_X0_partOf (j_X0_numberOf kn ch f a1) a2), kn, ch, f), by rw [hJ, jNeed_n n_1, if_neg c_2, if_pos c_3], rfl, hP, hD⟩)
    · exact vx_throwS hx hb hl9 (own := RX0) (cls := "java/lang/IllegalArgumentException") (text := "what is not 0 to 4") (names := ["java/lang/RuntimeException", "java/lang/Exception"]) (ik := 52) (is := 78) (ic := 56) (sa := k9 8) hown (by decide) (by decide) (hts (.classLink RX0 52 "java/lang/IllegalArgumentException") (by decide +kernel)) (hts (.initialized "java/lang/IllegalArgumentException") (by decide +kernel)) (hk9 8 _ rfl) (vx_hat (fun w h => hts w (at_X0_of_56 w h)) (fun w h => by rw [atn_56] at h; exact h) (hE.2.2.2.1.bad hE.2.2.2.1.2.1)) atg_56 hE.2.1.2.2.2.2.2.2.2.2.1 hE.2.1.2.2.2.2.2.2.2.2.2 hS (hl.1.trans hml.symm) dX0_of_13 dX0_of_16 dX0_of_17 dX0_of_19 dX0_of_22 (fun x hx9 => (htab x hx9).elim) (Nat.le_of_ble_eq_true rfl) (Nat.le_of_ble_eq_true rfl) (Nat.le_of_ble_eq_true rfl) (Nat.le_of_ble_eq_true rfl) hlocks (fun t _ hz hk => ⟨⟨by rw [hJ, jNeed_n n_1, if_neg c_2, if_neg c_3], hz, hk⟩, k_F hS hz hk⟩) hS.2.2 (Nat.le_of_ble_eq_true rfl) (Nat.le_of_ble_eq_true rfl)
abbrev rm_X0_compare : Room := { frames := 8, cells := 2, slots := 12, locals := 130 }
def j_X0_compare (kn ch : Int32) (f : Nat → Int64) (a1 : Int32) (a2 : Int32) : Except String (Int32 × Int32 × Int32 × (Nat → Int64)) := (jNeed (j_X0_needClock a1) (jNeed (j_X0_needClock a2) (.ok ((j_X0_sideOf (j_X0_numberOf kn ch f a1) (j_X0_numberOf kn ch f a2)), kn, ch, f))))
set_option maxHeartbeats 4000000 in
set_option maxRecDepth 100000 in
theorem c_X0_compare (l : Launch) (hl9 : l.stackTraces = false) (D : va_G) (cB cJ : ClassId) (Hp : Heap) (x n : Nat) (kn ch : Int32) (f : Nat → Int64) (hP : va_P D vwCl (wC x n cJ kn ch f) Hp) (hD9 : va_D (fun _ => True) (wC x n cJ kn ch f)) (a1 : Int32) (a2 : Int32) : kV l D cB cJ yX0_compare wsX0_compare rm_X0_compare (va_A (wC x n cJ kn ch f) Hp.size) Hp [.ref x, .int a1, .int a2] (kPw D x n cJ (va_A (wC x n cJ kn ch f) Hp.size) (j_X0_compare kn ch f a1 a2)) (kXw (j_X0_compare kn ch f a1 a2) Hp) 2 12 := by
  refine vx_ofW (cc := cX0_compare) (maxL := 3) (ret := (some .int)) (by decide) rfl ?_
  intro p e s m args below meth c s₁ B hml htab hv
  obtain ⟨rfl, hHp, hE⟩ := hv
  subst hHp
  have hx := B.exec
  have hb := B.bytes
  have hr := B.returns
  have hts := atoms_spec (ws := wsX0_compare) B.pre
  have hown : s.vm.findClass RX0 = some m.cls := findClass_of_methodNamed B.named
  have hlocks := B.notSynchronized
  have hK := hE.1
  have hD := hD9.self (sz := s.heap.size)
  generalize hAe : va_A (wC x n cJ kn ch f) s.heap.size = A at hE hD ⊢
  have hA : ∀ q : Nat, s.heap.size ≤ q → A q := fun q h => by rw [← hAe]; exact Or.inr h
  have hS : va_S A s.heap s.heap [] := va_S.rf
  have hl := lv_entry ([.ref x, .int a1, .int a2]) (n := 3) (Nat.le_of_ble_eq_true rfl)
  rw [lg_entry_eq]
  generalize (lg_sl ([.ref x, .int a1, .int a2]) ++ List.replicate (3 - (lg_sl ([.ref x, .int a1, .int a2])).length) Slot.unset).toArray = ls at hl ⊢
  have hl : lv_has ls 3 [(0, .ref x), (1, .int a1), (2, .int a2)] := hl
  have hJ : (j_X0_compare kn ch f a1 a2) = (jNeed (j_X0_needClock a1) (jNeed (j_X0_needClock a2) (.ok ((j_X0_sideOf (j_X0_numberOf kn ch f a1) (j_X0_numberOf kn ch f a2)), kn, ch, f)))) := rfl
  refine lv_iload_n hx hb dX0_compare_0 rfl (lv_at hl 1 rfl) ?_
  refine kx_need [.int a1] (rest := []) ⟨hx, hb, hml, hown, hts⟩ (c_X0_needClock l hl9 D cB cJ _ a1) (va_cwS 1 hts gX0_compare_X0_needClock rfl rfl rfl (by decide +kernel) ⟨(Nat.le_of_ble_eq_true rfl), (Nat.le_of_ble_eq_true rfl)⟩) hE hS rfl rfl hl.1 (Nat.le_of_ble_eq_true rfl) dX0_compare_1 ⟨(Nat.le_of_ble_eq_true rfl), (Nat.le_of_ble_eq_true rfl)⟩ (fun E ce q9 H1 locs1 hn9 hz hk hS1 hce hcv hcl => ?_) (fun locs n_1 hS => ?_)
  · exact vx_out (fun x hx9 => (htab x hx9).elim) hlocks hce hcv hcl (fun t ht _ => ⟨⟨by rw [hJ, jNeed_s hn9], by rw [ht]; exact hz, fun q hq => by rw [ht]; exact hk q hq⟩, hS1.F ht⟩) hS1.2.2 (Nat.le_of_ble_eq_true rfl) (Nat.le_of_ble_eq_true rfl)
  refine lv_iload_n hx hb dX0_compare_4 rfl (lv_at hl 2 rfl) ?_
  refine kx_need [.int a2] (rest := []) ⟨hx, hb, hml, hown, hts⟩ (c_X0_needClock l hl9 D cB cJ _ a2) (va_cwS 1 hts gX0_compare_X0_needClock rfl rfl rfl (by decide +kernel) ⟨(Nat.le_of_ble_eq_true rfl), (Nat.le_of_ble_eq_true rfl)⟩) hE hS rfl rfl hl.1 (Nat.le_of_ble_eq_true rfl) dX0_compare_5 ⟨(Nat.le_of_ble_eq_true rfl), (Nat.le_of_ble_eq_true rfl)⟩ (fun E ce q9 H1 locs1 hn9 hz hk hS1 hce hcv hcl => ?_) (fun locs n_2 hS => ?_)
  · exact vx_out (fun x hx9 => (htab x hx9).elim) hlocks hce hcv hcl (fun t ht _ => ⟨⟨by rw [hJ, jNeed_n n_1, jNeed_s hn9], by rw [ht]; exact hz, fun q hq => by rw [ht]; exact hk q hq⟩, hS1.F ht⟩) hS1.2.2 (Nat.le_of_ble_eq_true rfl) (Nat.le_of_ble_eq_true rfl)
  refine lv_aload_n hx hb dX0_compare_8 rfl (lv_at hl 0 rfl) ?_
  refine lv_iload_n hx hb dX0_compare_9 rfl (lv_at hl 1 rfl) ?_
  refine k_pV [.int a1] (rest := []) ⟨hx, hb, hml, hown, hts⟩ (c_X0_numberOf l D cB cJ _ x n kn ch f (hP.sub [0, 1] rfl) a1) (cwV 1 hts gX0_compare_X0_numberOf rfl rfl rfl (by decide +kernel) ⟨(Nat.le_of_ble_eq_true rfl), (Nat.le_of_ble_eq_true rfl)⟩) (va_recv hK hP (ci := 2) (q0 := 0) rfl rfl) hE hS rfl rfl hl.1 (Nat.le_of_ble_eq_true rfl) dX0_compare_10 ⟨(Nat.le_of_ble_eq_true rfl), (Nat.le_of_ble_eq_true rfl)⟩ (fun locs hS => ?_)
  refine W.eq (g2 := F0 m 13 ls [.long (j_X0_numberOf kn ch f a1)]) rfl ?_
  refine lv_aload_n hx hb dX0_compare_13 rfl (lv_at hl 0 rfl) ?_
  refine lv_iload_n hx hb dX0_compare_14 rfl (lv_at hl 2 rfl) ?_
  refine k_pV [.int a2] (rest := [.long (j_X0_numberOf kn ch f a1)]) ⟨hx, hb, hml, hown, hts⟩ (c_X0_numberOf l D cB cJ _ x n kn ch f (hP.sub [0, 1] rfl) a2) (cwV 1 hts gX0_compare_X0_numberOf rfl rfl rfl (by decide +kernel) ⟨(Nat.le_of_ble_eq_true rfl), (Nat.le_of_ble_eq_true rfl)⟩) (va_recv hK hP (ci := 2) (q0 := 0) rfl rfl) hE hS rfl rfl hl.1 (Nat.le_of_ble_eq_true rfl) dX0_compare_15 ⟨(Nat.le_of_ble_eq_true rfl), (Nat.le_of_ble_eq_true rfl)⟩ (fun locs hS => ?_)
  refine W.eq (g2 := F0 m 18 ls [.long (j_X0_numberOf kn ch f a2), .long (j_X0_numberOf kn ch f a1)]) rfl ?_
  refine k_pS [.long (j_X0_numberOf kn ch f a1), .long (j_X0_numberOf kn ch f a2)] (rest := []) ⟨hx, hb, hml, hown, hts⟩ (c_X0_sideOf l D cB cJ _ (j_X0_numberOf kn ch f a1) (j_X0_numberOf kn ch f a2)) (va_cwS 2 hts gX0_compare_X0_sideOf rfl rfl rfl (by decide +kernel) ⟨(Nat.le_of_ble_eq_true rfl), (Nat.le_of_ble_eq_true rfl)⟩) hE hS rfl rfl hl.1 (Nat.le_of_ble_eq_true rfl) dX0_compare_18 ⟨(Nat.le_of_ble_eq_true rfl), (Nat.le_of_ble_eq_true rfl)⟩ (fun locs hS => ?_)
  refine W.eq (g2 := F0 m 21 ls [.int (j_X0_sideOf (j_X0_numberOf kn ch f a1) (j_X0_numberOf kn ch f a2))]) rfl ?_
  refine W.widen (k := 2) (n := 12) (Nat.le_of_ble_eq_true rfl) (Nat.le_of_ble_eq_true rfl) ?_
  exact vx_ret (k_iret hx hb hr hlocks hS dX0_compare_21 ⟨((j_X0_sideOf (j_X0_numberOf kn ch f a1) (j_X0_numberOf kn ch f a2)), kn, ch, f), by rw [hJ, jNeed_n n_1, jNeed_n n_2], rfl, hP, hD⟩)
abbrev rm_X0_isAhead : Room := { frames := 8, cells := 2, slots := 12, locals := 130 }
def j_X0_isAhead (kn ch : Int32) (f : Nat → Int64) (a1 : Int32) (a2 : Int32) : Except String (Int32 × Int32 × Int32 × (Nat → Int64)) := (jNeed (j_X0_needClock a1) (jNeed (j_X0_needClock a2) (if (j_X0_numberOf kn ch f a2) ≤ (j_X0_numberOf kn ch f a1) then (.ok (0, kn, ch, f)) else (.ok (1, kn, ch, f)))))
set_option maxHeartbeats 4000000 in
set_option maxRecDepth 100000 in
theorem c_X0_isAhead (l : Launch) (hl9 : l.stackTraces = false) (D : va_G) (cB cJ : ClassId) (Hp : Heap) (x n : Nat) (kn ch : Int32) (f : Nat → Int64) (hP : va_P D vwCl (wC x n cJ kn ch f) Hp) (hD9 : va_D (fun _ => True) (wC x n cJ kn ch f)) (a1 : Int32) (a2 : Int32) : kV l D cB cJ yX0_isAhead wsX0_isAhead rm_X0_isAhead (va_A (wC x n cJ kn ch f) Hp.size) Hp [.ref x, .int a1, .int a2] (kPw D x n cJ (va_A (wC x n cJ kn ch f) Hp.size) (j_X0_isAhead kn ch f a1 a2)) (kXw (j_X0_isAhead kn ch f a1 a2) Hp) 2 12 := by
  refine vx_ofW (cc := cX0_isAhead) (maxL := 3) (ret := (some .boolean)) (by decide) rfl ?_
  intro p e s m args below meth c s₁ B hml htab hv
  obtain ⟨rfl, hHp, hE⟩ := hv
  subst hHp
  have hx := B.exec
  have hb := B.bytes
  have hr := B.returns
  have hts := atoms_spec (ws := wsX0_isAhead) B.pre
  have hown : s.vm.findClass RX0 = some m.cls := findClass_of_methodNamed B.named
  have hlocks := B.notSynchronized
  have hK := hE.1
  have hD := hD9.self (sz := s.heap.size)
  generalize hAe : va_A (wC x n cJ kn ch f) s.heap.size = A at hE hD ⊢
  have hA : ∀ q : Nat, s.heap.size ≤ q → A q := fun q h => by rw [← hAe]; exact Or.inr h
  have hS : va_S A s.heap s.heap [] := va_S.rf
  have hl := lv_entry ([.ref x, .int a1, .int a2]) (n := 3) (Nat.le_of_ble_eq_true rfl)
  rw [lg_entry_eq]
  generalize (lg_sl ([.ref x, .int a1, .int a2]) ++ List.replicate (3 - (lg_sl ([.ref x, .int a1, .int a2])).length) Slot.unset).toArray = ls at hl ⊢
  have hl : lv_has ls 3 [(0, .ref x), (1, .int a1), (2, .int a2)] := hl
  have hJ : (j_X0_isAhead kn ch f a1 a2) = (jNeed (j_X0_needClock a1) (jNeed (j_X0_needClock a2) (if (j_X0_numberOf kn ch f a2) ≤ (j_X0_numberOf kn ch f a1) then (.ok (0, kn, ch, f)) else (.ok (1, kn, ch, f))))) := rfl
  refine lv_iload_n hx hb dX0_isAhead_0 rfl (lv_at hl 1 rfl) ?_
  refine kx_need [.int a1] (rest := []) ⟨hx, hb, hml, hown, hts⟩ (c_X0_needClock l hl9 D cB cJ _ a1) (va_cwS 1 hts gX0_isAhead_X0_needClock rfl rfl rfl (by decide +kernel) ⟨(Nat.le_of_ble_eq_true rfl), (Nat.le_of_ble_eq_true rfl)⟩) hE hS rfl rfl hl.1 (Nat.le_of_ble_eq_true rfl) dX0_isAhead_1 ⟨(Nat.le_of_ble_eq_true rfl), (Nat.le_of_ble_eq_true rfl)⟩ (fun E ce q9 H1 locs1 hn9 hz hk hS1 hce hcv hcl => ?_) (fun locs n_1 hS => ?_)
  · exact vx_out (fun x hx9 => (htab x hx9).elim) hlocks hce hcv hcl (fun t ht _ => ⟨⟨by rw [hJ, jNeed_s hn9], by rw [ht]; exact hz, fun q hq => by rw [ht]; exact hk q hq⟩, hS1.F ht⟩) hS1.2.2 (Nat.le_of_ble_eq_true rfl) (Nat.le_of_ble_eq_true rfl)
  refine lv_iload_n hx hb dX0_isAhead_4 rfl (lv_at hl 2 rfl) ?_
  refine kx_need [.int a2] (rest := []) ⟨hx, hb, hml, hown, hts⟩ (c_X0_needClock l hl9 D cB cJ _ a2) (va_cwS 1 hts gX0_isAhead_X0_needClock rfl rfl rfl (by decide +kernel) ⟨(Nat.le_of_ble_eq_true rfl), (Nat.le_of_ble_eq_true rfl)⟩) hE hS rfl rfl hl.1 (Nat.le_of_ble_eq_true rfl) dX0_isAhead_5 ⟨(Nat.le_of_ble_eq_true rfl), (Nat.le_of_ble_eq_true rfl)⟩ (fun E ce q9 H1 locs1 hn9 hz hk hS1 hce hcv hcl => ?_) (fun locs n_2 hS => ?_)
  · exact vx_out (fun x hx9 => (htab x hx9).elim) hlocks hce hcv hcl (fun t ht _ => ⟨⟨by rw [hJ, jNeed_n n_1, jNeed_s hn9], by rw [ht]; exact hz, fun q hq => by rw [ht]; exact hk q hq⟩, hS1.F ht⟩) hS1.2.2 (Nat.le_of_ble_eq_true rfl) (Nat.le_of_ble_eq_true rfl)
  refine lv_aload_n hx hb dX0_isAhead_8 rfl (lv_at hl 0 rfl) ?_
  refine lv_iload_n hx hb dX0_isAhead_9 rfl (lv_at hl 1 rfl) ?_
  refine k_pV [.int a1] (rest := []) ⟨hx, hb, hml, hown, hts⟩ (c_X0_numberOf l D cB cJ _ x n kn ch f (hP.sub [0, 1] rfl) a1) (cwV 1 hts gX0_isAhead_X0_numberOf rfl rfl rfl (by decide +kernel) ⟨(Nat.le_of_ble_eq_true rfl), (Nat.le_of_ble_eq_true rfl)⟩) (va_recv hK hP (ci := 2) (q0 := 0) rfl rfl) hE hS rfl rfl hl.1 (Nat.le_of_ble_eq_true rfl) dX0_isAhead_10 ⟨(Nat.le_of_ble_eq_true rfl), (Nat.le_of_ble_eq_true rfl)⟩ (fun locs hS => ?_)
  refine W.eq (g2 := F0 m 13 ls [.long (j_X0_numberOf kn ch f a1)]) rfl ?_
  refine lv_aload_n hx hb dX0_isAhead_13 rfl (lv_at hl 0 rfl) ?_
  refine lv_iload_n hx hb dX0_isAhead_14 rfl (lv_at hl 2 rfl) ?_
  refine k_pV [.int a2] (rest := [.long (j_X0_numberOf kn ch f a1)]) ⟨hx, hb, hml, hown, hts⟩ (c_X0_numberOf l D cB cJ _ x n kn ch f (hP.sub [0, 1] rfl) a2) (cwV 1 hts gX0_isAhead_X0_numberOf rfl rfl rfl (by decide +kernel) ⟨(Nat.le_of_ble_eq_true rfl), (Nat.le_of_ble_eq_true rfl)⟩) (va_recv hK hP (ci := 2) (q0 := 0) rfl rfl) hE hS rfl rfl hl.1 (Nat.le_of_ble_eq_true rfl) dX0_isAhead_15 ⟨(Nat.le_of_ble_eq_true rfl), (Nat.le_of_ble_eq_true rfl)⟩ (fun locs hS => ?_)
  refine W.eq (g2 := F0 m 18 ls [.long (j_X0_numberOf kn ch f a2), .long (j_X0_numberOf kn ch f a1)]) rfl ?_
  refine kl_ge (tgt := 26) hx hb dX0_isAhead_18 dX0_isAhead_19 (by decide) (fun c_3 => ?_) (fun c_3 => ?_)
  · refine lv_iconst (v := 0) hx hb dX0_isAhead_26 (by decide) ?_
    refine W.widen (k := 2) (n := 12) (Nat.le_of_ble_eq_true rfl) (Nat.le_of_ble_eq_true rfl) ?_
    exact vx_ret (k_zret hx hb hr (Or.inl rfl) hlocks hS dX0_isAhead_27 ⟨(0, kn, ch, f), by rw [hJ, jNeed_n n_1, jNeed_n n_2, if_pos c_3], rfl, hP, hD⟩)
  · refine lv_iconst (v := 1) hx hb dX0_isAhead_22 (by decide) ?_
    refine lv_goto (tgt := 27) hx hb dX0_isAhead_23 (by decide) ?_
    refine W.widen (k := 2) (n := 12) (Nat.le_of_ble_eq_true rfl) (Nat.le_of_ble_eq_true rfl) ?_
    exact vx_ret (k_zret hx hb hr (Or.inr rfl) hlocks hS dX0_isAhead_27 ⟨(1, kn, ch, f), by rw [hJ, jNeed_n n_1, jNeed_n n_2, if_neg c_3], rfl, hP, hD⟩)
abbrev rm_X0_isBehind : Room := { frames := 8, cells := 2, slots := 12, locals := 130 }
def j_X0_isBehind (kn ch : Int32) (f : Nat → Int64) (a1 : Int32) (a2 : Int32) : Except String (Int32 × Int32 × Int32 × (Nat → Int64)) := (jNeed (j_X0_needClock a1) (jNeed (j_X0_needClock a2) (if (j_X0_numberOf kn ch f a1) ≤ (j_X0_numberOf kn ch f a2) then (.ok (0, kn, ch, f)) else (.ok (1, kn, ch, f)))))
set_option maxHeartbeats 4000000 in
set_option maxRecDepth 100000 in
theorem c_X0_isBehind (l : Launch) (hl9 : l.stackTraces = false) (D : va_G) (cB cJ : ClassId) (Hp : Heap) (x n : Nat) (kn ch : Int32) (f : Nat → Int64) (hP : va_P D vwCl (wC x n cJ kn ch f) Hp) (hD9 : va_D (fun _ => True) (wC x n cJ kn ch f)) (a1 : Int32) (a2 : Int32) : kV l D cB cJ yX0_isBehind wsX0_isBehind rm_X0_isBehind (va_A (wC x n cJ kn ch f) Hp.size) Hp [.ref x, .int a1, .int a2] (kPw D x n cJ (va_A (wC x n cJ kn ch f) Hp.size) (j_X0_isBehind kn ch f a1 a2)) (kXw (j_X0_isBehind kn ch f a1 a2) Hp) 2 12 := by
  refine vx_ofW (cc := cX0_isBehind) (maxL := 3) (ret := (some .boolean)) (by decide) rfl ?_
  intro p e s m args below meth c s₁ B hml htab hv
  obtain ⟨rfl, hHp, hE⟩ := hv
  subst hHp
  have hx := B.exec
  have hb := B.bytes
  have hr := B.returns
  have hts := atoms_spec (ws := wsX0_isBehind) B.pre
  have hown : s.vm.findClass RX0 = some m.cls := findClass_of_methodNamed B.named
  have hlocks := B.notSynchronized
  have hK := hE.1
  have hD := hD9.self (sz := s.heap.size)
  generalize hAe : va_A (wC x n cJ kn ch f) s.heap.size = A at hE hD ⊢
  have hA : ∀ q : Nat, s.heap.size ≤ q → A q := fun q h => by rw [← hAe]; exact Or.inr h
  have hS : va_S A s.heap s.heap [] := va_S.rf
  have hl := lv_entry ([.ref x, .int a1, .int a2]) (n := 3) (Nat.le_of_ble_eq_true rfl)
  rw [lg_entry_eq]
  generalize (lg_sl ([.ref x, .int a1, .int a2]) ++ List.replicate (3 - (lg_sl ([.ref x, .int a1, .int a2])).length) Slot.unset).toArray = ls at hl ⊢
  have hl : lv_has ls 3 [(0, .ref x), (1, .int a1), (2, .int a2)] := hl
  have hJ : (j_X0_isBehind kn ch f a1 a2) = (jNeed (j_X0_needClock a1) (jNeed (j_X0_needClock a2) (if (j_X0_numberOf kn ch f a1) ≤ (j_X0_numberOf kn ch f a2) then (.ok (0, kn, ch, f)) else (.ok (1, kn, ch, f))))) := rfl
  refine lv_iload_n hx hb dX0_isBehind_0 rfl (lv_at hl 1 rfl) ?_
  refine kx_need [.int a1] (rest := []) ⟨hx, hb, hml, hown, hts⟩ (c_X0_needClock l hl9 D cB cJ _ a1) (va_cwS 1 hts gX0_isBehind_X0_needClock rfl rfl rfl (by decide +kernel) ⟨(Nat.le_of_ble_eq_true rfl), (Nat.le_of_ble_eq_true rfl)⟩) hE hS rfl rfl hl.1 (Nat.le_of_ble_eq_true rfl) dX0_isBehind_1 ⟨(Nat.le_of_ble_eq_true rfl), (Nat.le_of_ble_eq_true rfl)⟩ (fun E ce q9 H1 locs1 hn9 hz hk hS1 hce hcv hcl => ?_) (fun locs n_1 hS => ?_)
  · exact vx_out (fun x hx9 => (htab x hx9).elim) hlocks hce hcv hcl (fun t ht _ => ⟨⟨by rw [hJ, jNeed_s hn9], by rw [ht]; exact hz, fun q hq => by rw [ht]; exact hk q hq⟩, hS1.F ht⟩) hS1.2.2 (Nat.le_of_ble_eq_true rfl) (Nat.le_of_ble_eq_true rfl)
  refine lv_iload_n hx hb dX0_isBehind_4 rfl (lv_at hl 2 rfl) ?_
  refine kx_need [.int a2] (rest := []) ⟨hx, hb, hml, hown, hts⟩ (c_X0_needClock l hl9 D cB cJ _ a2) (va_cwS 1 hts gX0_isBehind_X0_needClock rfl rfl rfl (by decide +kernel) ⟨(Nat.le_of_ble_eq_true rfl), (Nat.le_of_ble_eq_true rfl)⟩) hE hS rfl rfl hl.1 (Nat.le_of_ble_eq_true rfl) dX0_isBehind_5 ⟨(Nat.le_of_ble_eq_true rfl), (Nat.le_of_ble_eq_true rfl)⟩ (fun E ce q9 H1 locs1 hn9 hz hk hS1 hce hcv hcl => ?_) (fun locs n_2 hS => ?_)
  · exact vx_out (fun x hx9 => (htab x hx9).elim) hlocks hce hcv hcl (fun t ht _ => ⟨⟨by rw [hJ, jNeed_n n_1, jNeed_s hn9], by rw [ht]; exact hz, fun q hq => by rw [ht]; exact hk q hq⟩, hS1.F ht⟩) hS1.2.2 (Nat.le_of_ble_eq_true rfl) (Nat.le_of_ble_eq_true rfl)
  refine lv_aload_n hx hb dX0_isBehind_8 rfl (lv_at hl 0 rfl) ?_
  refine lv_iload_n hx hb dX0_isBehind_9 rfl (lv_at hl 1 rfl) ?_
  refine k_pV [.int a1] (rest := []) ⟨hx, hb, hml, hown, hts⟩ (c_X0_numberOf l D cB cJ _ x n kn ch f (hP.sub [0, 1] rfl) a1) (cwV 1 hts gX0_isBehind_X0_numberOf rfl rfl rfl (by decide +kernel) ⟨(Nat.le_of_ble_eq_true rfl), (Nat.le_of_ble_eq_true rfl)⟩) (va_recv hK hP (ci := 2) (q0 := 0) rfl rfl) hE hS rfl rfl hl.1 (Nat.le_of_ble_eq_true rfl) dX0_isBehind_10 ⟨(Nat.le_of_ble_eq_true rfl), (Nat.le_of_ble_eq_true rfl)⟩ (fun locs hS => ?_)
  refine W.eq (g2 := F0 m 13 ls [.long (j_X0_numberOf kn ch f a1)]) rfl ?_
  refine lv_aload_n hx hb dX0_isBehind_13 rfl (lv_at hl 0 rfl) ?_
  refine lv_iload_n hx hb dX0_isBehind_14 rfl (lv_at hl 2 rfl) ?_
  refine k_pV [.int a2] (rest := [.long (j_X0_numberOf kn ch f a1)]) ⟨hx, hb, hml, hown, hts⟩ (c_X0_numberOf l D cB cJ _ x n kn ch f (hP.sub [0, 1] rfl) a2) (cwV 1 hts gX0_isBehind_X0_numberOf rfl rfl rfl (by decide +kernel) ⟨(Nat.le_of_ble_eq_true rfl), (Nat.le_of_ble_eq_true rfl)⟩) (va_recv hK hP (ci := 2) (q0 := 0) rfl rfl) hE hS rfl rfl hl.1 (Nat.le_of_ble_eq_true rfl) dX0_isBehind_15 ⟨(Nat.le_of_ble_eq_true rfl), (Nat.le_of_ble_eq_true rfl)⟩ (fun locs hS => ?_)
  refine W.eq (g2 := F0 m 18 ls [.long (j_X0_numberOf kn ch f a2), .long (j_X0_numberOf kn ch f a1)]) rfl ?_
  refine kl_le (tgt := 26) hx hb dX0_isBehind_18 dX0_isBehind_19 (by decide) (fun c_3 => ?_) (fun c_3 => ?_)
  · refine lv_iconst (v := 0) hx hb dX0_isBehind_26 (by decide) ?_
    refine W.widen (k := 2) (n := 12) (Nat.le_of_ble_eq_true rfl) (Nat.le_of_ble_eq_true rfl) ?_
    exact vx_ret (k_zret hx hb hr (Or.inl rfl) hlocks hS dX0_isBehind_27 ⟨(0, kn, ch, f), by rw [hJ, jNeed_n n_1, jNeed_n n_2, if_pos c_3], rfl, hP, hD⟩)
  · refine lv_iconst (v := 1) hx hb dX0_isBehind_22 (by decide) ?_
    refine lv_goto (tgt := 27) hx hb dX0_isBehind_23 (by decide) ?_
    refine W.widen (k := 2) (n := 12) (Nat.le_of_ble_eq_true rfl) (Nat.le_of_ble_eq_true rfl) ?_
    exact vx_ret (k_zret hx hb hr (Or.inr rfl) hlocks hS dX0_isBehind_27 ⟨(1, kn, ch, f), by rw [hJ, jNeed_n n_1, jNeed_n n_2, if_neg c_3], rfl, hP, hD⟩)
abbrev rm_X0_areAlike : Room := { frames := 8, cells := 2, slots := 12, locals := 130 }
def j_X0_areAlike (kn ch : Int32) (f : Nat → Int64) (a1 : Int32) (a2 : Int32) : Except String (Int32 × Int32 × Int32 × (Nat → Int64)) := (jNeed (j_X0_needClock a1) (jNeed (j_X0_needClock a2) (if (j_X0_numberOf kn ch f a1) = (j_X0_numberOf kn ch f a2) then (.ok (1, kn, ch, f)) else (.ok (0, kn, ch, f)))))
set_option maxHeartbeats 4000000 in
set_option maxRecDepth 100000 in
theorem c_X0_areAlike (l : Launch) (hl9 : l.stackTraces = false) (D : va_G) (cB cJ : ClassId) (Hp : Heap) (x n : Nat) (kn ch : Int32) (f : Nat → Int64) (hP : va_P D vwCl (wC x n cJ kn ch f) Hp) (hD9 : va_D (fun _ => True) (wC x n cJ kn ch f)) (a1 : Int32) (a2 : Int32) : kV l D cB cJ yX0_areAlike wsX0_areAlike rm_X0_areAlike (va_A (wC x n cJ kn ch f) Hp.size) Hp [.ref x, .int a1, .int a2] (kPw D x n cJ (va_A (wC x n cJ kn ch f) Hp.size) (j_X0_areAlike kn ch f a1 a2)) (kXw (j_X0_areAlike kn ch f a1 a2) Hp) 2 12 := by
  refine vx_ofW (cc := cX0_areAlike) (maxL := 3) (ret := (some .boolean)) (by decide) rfl ?_
  intro p e s m args below meth c s₁ B hml htab hv
  obtain ⟨rfl, hHp, hE⟩ := hv
  subst hHp
  have hx := B.exec
  have hb := B.bytes
  have hr := B.returns
  have hts := atoms_spec (ws := wsX0_areAlike) B.pre
  have hown : s.vm.findClass RX0 = some m.cls := findClass_of_methodNamed B.named
  have hlocks := B.notSynchronized
  have hK := hE.1
  have hD := hD9.self (sz := s.heap.size)
  generalize hAe : va_A (wC x n cJ kn ch f) s.heap.size = A at hE hD ⊢
  have hA : ∀ q : Nat, s.heap.size ≤ q → A q := fun q h => by rw [← hAe]; exact Or.inr h
  have hS : va_S A s.heap s.heap [] := va_S.rf
  have hl := lv_entry ([.ref x, .int a1, .int a2]) (n := 3) (Nat.le_of_ble_eq_true rfl)
  rw [lg_entry_eq]
  generalize (lg_sl ([.ref x, .int a1, .int a2]) ++ List.replicate (3 - (lg_sl ([.ref x, .int a1, .int a2])).length) Slot.unset).toArray = ls at hl ⊢
  have hl : lv_has ls 3 [(0, .ref x), (1, .int a1), (2, .int a2)] := hl
  have hJ : (j_X0_areAlike kn ch f a1 a2) = (jNeed (j_X0_needClock a1) (jNeed (j_X0_needClock a2) (if (j_X0_numberOf kn ch f a1) = (j_X0_numberOf kn ch f a2) then (.ok (1, kn, ch, f)) else (.ok (0, kn, ch, f))))) := rfl
  refine lv_iload_n hx hb dX0_areAlike_0 rfl (lv_at hl 1 rfl) ?_
  refine kx_need [.int a1] (rest := []) ⟨hx, hb, hml, hown, hts⟩ (c_X0_needClock l hl9 D cB cJ _ a1) (va_cwS 1 hts gX0_areAlike_X0_needClock rfl rfl rfl (by decide +kernel) ⟨(Nat.le_of_ble_eq_true rfl), (Nat.le_of_ble_eq_true rfl)⟩) hE hS rfl rfl hl.1 (Nat.le_of_ble_eq_true rfl) dX0_areAlike_1 ⟨(Nat.le_of_ble_eq_true rfl), (Nat.le_of_ble_eq_true rfl)⟩ (fun E ce q9 H1 locs1 hn9 hz hk hS1 hce hcv hcl => ?_) (fun locs n_1 hS => ?_)
  · exact vx_out (fun x hx9 => (htab x hx9).elim) hlocks hce hcv hcl (fun t ht _ => ⟨⟨by rw [hJ, jNeed_s hn9], by rw [ht]; exact hz, fun q hq => by rw [ht]; exact hk q hq⟩, hS1.F ht⟩) hS1.2.2 (Nat.le_of_ble_eq_true rfl) (Nat.le_of_ble_eq_true rfl)
  refine lv_iload_n hx hb dX0_areAlike_4 rfl (lv_at hl 2 rfl) ?_
  refine kx_need [.int a2] (rest := []) ⟨hx, hb, hml, hown, hts⟩ (c_X0_needClock l hl9 D cB cJ _ a2) (va_cwS 1 hts gX0_areAlike_X0_needClock rfl rfl rfl (by decide +kernel) ⟨(Nat.le_of_ble_eq_true rfl), (Nat.le_of_ble_eq_true rfl)⟩) hE hS rfl rfl hl.1 (Nat.le_of_ble_eq_true rfl) dX0_areAlike_5 ⟨(Nat.le_of_ble_eq_true rfl), (Nat.le_of_ble_eq_true rfl)⟩ (fun E ce q9 H1 locs1 hn9 hz hk hS1 hce hcv hcl => ?_) (fun locs n_2 hS => ?_)
  · exact vx_out (fun x hx9 => (htab x hx9).elim) hlocks hce hcv hcl (fun t ht _ => ⟨⟨by rw [hJ, jNeed_n n_1, jNeed_s hn9], by rw [ht]; exact hz, fun q hq => by rw [ht]; exact hk q hq⟩, hS1.F ht⟩) hS1.2.2 (Nat.le_of_ble_eq_true rfl) (Nat.le_of_ble_eq_true rfl)
  refine lv_aload_n hx hb dX0_areAlike_8 rfl (lv_at hl 0 rfl) ?_
  refine lv_iload_n hx hb dX0_areAlike_9 rfl (lv_at hl 1 rfl) ?_
  refine k_pV [.int a1] (rest := []) ⟨hx, hb, hml, hown, hts⟩ (c_X0_numberOf l D cB cJ _ x n kn ch f (hP.sub [0, 1] rfl) a1) (cwV 1 hts gX0_areAlike_X0_numberOf rfl rfl rfl (by decide +kernel) ⟨(Nat.le_of_ble_eq_true rfl), (Nat.le_of_ble_eq_true rfl)⟩) (va_recv hK hP (ci := 2) (q0 := 0) rfl rfl) hE hS rfl rfl hl.1 (Nat.le_of_ble_eq_true rfl) dX0_areAlike_10 ⟨(Nat.le_of_ble_eq_true rfl), (Nat.le_of_ble_eq_true rfl)⟩ (fun locs hS => ?_)
  refine W.eq (g2 := F0 m 13 ls [.long (j_X0_numberOf kn ch f a1)]) rfl ?_
  refine lv_aload_n hx hb dX0_areAlike_13 rfl (lv_at hl 0 rfl) ?_
  refine lv_iload_n hx hb dX0_areAlike_14 rfl (lv_at hl 2 rfl) ?_
  refine k_pV [.int a2] (rest := [.long (j_X0_numberOf kn ch f a1)]) ⟨hx, hb, hml, hown, hts⟩ (c_X0_numberOf l D cB cJ _ x n kn ch f (hP.sub [0, 1] rfl) a2) (cwV 1 hts gX0_areAlike_X0_numberOf rfl rfl rfl (by decide +kernel) ⟨(Nat.le_of_ble_eq_true rfl), (Nat.le_of_ble_eq_true rfl)⟩) (va_recv hK hP (ci := 2) (q0 := 0) rfl rfl) hE hS rfl rfl hl.1 (Nat.le_of_ble_eq_true rfl) dX0_areAlike_15 ⟨(Nat.le_of_ble_eq_true rfl), (Nat.le_of_ble_eq_true rfl)⟩ (fun locs hS => ?_)
  refine W.eq (g2 := F0 m 18 ls [.long (j_X0_numberOf kn ch f a2), .long (j_X0_numberOf kn ch f a1)]) rfl ?_
  refine kl_ne (tgt := 26) hx hb dX0_areAlike_18 dX0_areAlike_19 (by decide) (fun c_3 => ?_) (fun c_3 => ?_)
  · refine lv_iconst (v := 0) hx hb dX0_areAlike_26 (by decide) ?_
    refine W.widen (k := 2) (n := 12) (Nat.le_of_ble_eq_true rfl) (Nat.le_of_ble_eq_true rfl) ?_
    exact vx_ret (k_zret hx hb hr (Or.inl rfl) hlocks hS dX0_areAlike_27 ⟨(0, kn, ch, f), by rw [hJ, jNeed_n n_1, jNeed_n n_2, if_neg c_3], rfl, hP, hD⟩)
  · refine lv_iconst (v := 1) hx hb dX0_areAlike_22 (by decide) ?_
    refine lv_goto (tgt := 27) hx hb dX0_areAlike_23 (by decide) ?_
    refine W.widen (k := 2) (n := 12) (Nat.le_of_ble_eq_true rfl) (Nat.le_of_ble_eq_true rfl) ?_
    exact vx_ret (k_zret hx hb hr (Or.inr rfl) hlocks hS dX0_areAlike_27 ⟨(1, kn, ch, f), by rw [hJ, jNeed_n n_1, jNeed_n n_2, if_pos c_3], rfl, hP, hD⟩)
abbrev rm_X0_knock : Room := { frames := 0, cells := 0, slots := 0, locals := 0 }
theorem iw_X0_knock_X0 : ∀ w ∈ wsX00, w ∈ wsX0_knock := by decide +kernel
def j_X0_knock (kn ch : Int32) (f : Nat → Int64)  : Except String (Int32 × Int32 × Int32 × (Nat → Int64)) := (.ok ((kn + 1), (kn + 1), ch, f))
set_option maxHeartbeats 4000000 in
set_option maxRecDepth 100000 in
theorem c_X0_knock (l : Launch) (hl9 : l.stackTraces = false) (D : va_G) (cB cJ : ClassId) (Hp : Heap) (x n : Nat) (kn ch : Int32) (f : Nat → Int64) (hP : va_P D vwCl (wC x n cJ kn ch f) Hp) (hD9 : va_D (fun _ => True) (wC x n cJ kn ch f))  : kV l D cB cJ yX0_knock wsX0_knock rm_X0_knock (va_A (wC x n cJ kn ch f) Hp.size) Hp [.ref x] (kPw D x n cJ (va_A (wC x n cJ kn ch f) Hp.size) (j_X0_knock kn ch f )) (kXw (j_X0_knock kn ch f ) Hp) 0 0 := by
  refine vx_ofW (cc := cX0_knock) (maxL := 1) (ret := (some .int)) (by decide) rfl ?_
  intro p e s m args below meth c s₁ B hml htab hv
  obtain ⟨rfl, hHp, hE⟩ := hv
  subst hHp
  have hx := B.exec
  have hb := B.bytes
  have hr := B.returns
  have hts := atoms_spec (ws := wsX0_knock) B.pre
  have hown : s.vm.findClass RX0 = some m.cls := findClass_of_methodNamed B.named
  have hlocks := B.notSynchronized
  have hK := hE.1
  have hD := hD9.self (sz := s.heap.size)
  generalize hAe : va_A (wC x n cJ kn ch f) s.heap.size = A at hE hD ⊢
  have hA : ∀ q : Nat, s.heap.size ≤ q → A q := fun q h => by rw [← hAe]; exact Or.inr h
  have hS : va_S A s.heap s.heap [] := va_S.rf
  have hl := lv_entry ([.ref x]) (n := 1) (Nat.le_of_ble_eq_true rfl)
  rw [lg_entry_eq]
  generalize (lg_sl ([.ref x]) ++ List.replicate (1 - (lg_sl ([.ref x])).length) Slot.unset).toArray = ls at hl ⊢
  have hl : lv_has ls 1 [(0, .ref x)] := hl
  have hJ : (j_X0_knock kn ch f ) = (.ok ((kn + 1), (kn + 1), ch, f)) := rfl
  refine lv_aload_n hx hb dX0_knock_0 rfl (lv_at hl 0 rfl) ?_
  refine lv_dup hx hb dX0_knock_1 rfl ?_
  refine va_get (D := D) (ci := 2) (v := .int kn) (C := RX0) (T := TX0) (N := 3) hx hb hts iw_X0_knock_X0 hown hK hP 0 rfl rfl 1 (by decide) (hts (.fieldLink RX0 13 "Clocksolo" "knocks" "I") (by decide +kernel)) (fun _ h9 => h9) rfl dX0_knock_2 ?_
  refine lv_iconst (v := 1) hx hb dX0_knock_5 (by decide) ?_
  refine lv_iadd hx hb dX0_knock_6 ?_
  refine va_put (D := D) (ci := 2) (v := .int (kn + 1)) (ty := .int) (C := RX0) (T := TX0) (N := 3) hx hb hts iw_X0_knock_X0 tyX0 tyX0_ok nmX0 hown hK hP hD hS 0 rfl rfl 1 (by decide) (hts (.fieldLink RX0 13 "Clocksolo" "knocks" "I") (by decide +kernel)) (fun _ h9 => h9) rfl (by decide +kernel) rfl rfl (Nat.le_of_ble_eq_true rfl) dX0_knock_7 (fun H locs hP hD hS => ?_)
  have hP : va_P D vwCl [(x, .inr (2, [.ref n, .int (kn + 1), .int ch])), (n, .inl (cJ, 8, .inr (.inl f)))] H := hP
  have hD : va_D A [(x, .inr (2, [.ref n, .int (kn + 1), .int ch])), (n, .inl (cJ, 8, .inr (.inl f)))] := hD
  refine lv_aload_n hx hb dX0_knock_10 rfl (lv_at hl 0 rfl) ?_
  refine va_get (D := D) (ci := 2) (v := .int (kn + 1)) (C := RX0) (T := TX0) (N := 3) hx hb hts iw_X0_knock_X0 hown hK hP 0 rfl rfl 1 (by decide) (hts (.fieldLink RX0 13 "Clocksolo" "knocks" "I") (by decide +kernel)) (fun _ h9 => h9) rfl dX0_knock_11 ?_
  refine W.widen (k := 0) (n := 0) (Nat.le_of_ble_eq_true rfl) (Nat.le_of_ble_eq_true rfl) ?_
  exact vx_ret (k_iret hx hb hr hlocks hS dX0_knock_14 ⟨((kn + 1), (kn + 1), ch, f), by rw [hJ], rfl, hP, hD⟩)
theorem at_X0_house_56 : ∀ w ∈ (vx_atS RX0 56 "java/lang/IllegalArgumentException" ["java/lang/RuntimeException", "java/lang/Exception"]).filter goodWord, w ∈ wsX0_house := fun w h => List.mem_cons_of_mem _ (List.mem_append_right _ h)
abbrev rm_X0_house : Room := { frames := 7, cells := 1, slots := 6, locals := 110 }
theorem iw_X0_house_X0 : ∀ w ∈ wsX00, w ∈ wsX0_house := by decide +kernel
def j_X0_house (kn ch : Int32) (f : Nat → Int64) (a1 : Int32) : Except String (Int32 × Int32 × Int32 × (Nat → Int64)) := (if a1 = 0 then (.ok (kn, kn, ch, f)) else (if a1 = 1 then (.ok (ch, kn, ch, f)) else (.error "java/lang/IllegalArgumentException")))
set_option maxHeartbeats 4000000 in
set_option maxRecDepth 100000 in
theorem c_X0_house (l : Launch) (hl9 : l.stackTraces = false) (D : va_G) (cB cJ : ClassId) (Hp : Heap) (x n : Nat) (kn ch : Int32) (f : Nat → Int64) (hP : va_P D vwCl (wC x n cJ kn ch f) Hp) (hD9 : va_D (fun _ => True) (wC x n cJ kn ch f)) (a1 : Int32) : kV l D cB cJ yX0_house wsX0_house rm_X0_house (va_A (wC x n cJ kn ch f) Hp.size) Hp [.ref x, .int a1] (kPw D x n cJ (va_A (wC x n cJ kn ch f) Hp.size) (j_X0_house kn ch f a1)) (kXw (j_X0_house kn ch f a1) Hp) 1 6 := by
  refine vx_ofW (cc := cX0_house) (maxL := 2) (ret := (some .int)) (by decide) rfl ?_
  intro p e s m args below meth c s₁ B hml htab hv
  obtain ⟨rfl, hHp, hE⟩ := hv
  subst hHp
  have hx := B.exec
  have hb := B.bytes
  have hr := B.returns
  have hts := atoms_spec (ws := wsX0_house) B.pre
  have hown : s.vm.findClass RX0 = some m.cls := findClass_of_methodNamed B.named
  have hlocks := B.notSynchronized
  have hK := hE.1
  have hD := hD9.self (sz := s.heap.size)
  generalize hAe : va_A (wC x n cJ kn ch f) s.heap.size = A at hE hD ⊢
  have hA : ∀ q : Nat, s.heap.size ≤ q → A q := fun q h => by rw [← hAe]; exact Or.inr h
  have hS : va_S A s.heap s.heap [] := va_S.rf
  have hl := lv_entry ([.ref x, .int a1]) (n := 2) (Nat.le_of_ble_eq_true rfl)
  rw [lg_entry_eq]
  generalize (lg_sl ([.ref x, .int a1]) ++ List.replicate (2 - (lg_sl ([.ref x, .int a1])).length) Slot.unset).toArray = ls at hl ⊢
  have hl : lv_has ls 2 [(0, .ref x), (1, .int a1)] := hl
  obtain ⟨k9, hk9⟩ := hE.2.2.1
  have hJ : (j_X0_house kn ch f a1) = (if a1 = 0 then (.ok (kn, kn, ch, f)) else (if a1 = 1 then (.ok (ch, kn, ch, f)) else (.error "java/lang/IllegalArgumentException"))) := rfl
  refine lv_iload_n hx hb dX0_house_0 rfl (lv_at hl 1 rfl) ?_
  refine lv_if_ne (tgt := 9) hx hb dX0_house_1 (by decide) (fun c_1 => ?_) (fun c_1 => ?_)
  · refine lv_iload_n hx hb dX0_house_9 rfl (lv_at hl 1 rfl) ?_
    refine lv_iconst (v := 1) hx hb dX0_house_10 (by decide) ?_
    refine lv_icmp_ne (tgt := 19) hx hb dX0_house_11 (by decide) (fun c_2 => ?_) (fun c_2 => ?_)
    · exact vx_throwS hx hb hl9 (own := RX0) (cls := "java/lang/IllegalArgumentException") (text := "what is not 0 or 1") (names := ["java/lang/RuntimeException", "java/lang/Exception"]) (ik := 52) (is := 114) (ic := 56) (sa := k9 7) hown (by decide) (by decide) (hts (.classLink RX0 52 "java/lang/IllegalArgumentException") (by decide +kernel)) (hts (.initialized "java/lang/IllegalArgumentException") (by decide +kernel)) (hk9 7 _ rfl) (vx_hat (fun w h => hts w (at_X0_house_56 w h)) (fun w h => by rw [atn_56] at h; exact h) (hE.2.2.2.1.bad hE.2.2.2.1.2.1)) atg_56 hE.2.1.2.2.2.2.2.2.2.2.1 hE.2.1.2.2.2.2.2.2.2.2.2 hS (hl.1.trans hml.symm) dX0_house_19 dX0_house_22 dX0_house_23 dX0_house_25 dX0_house_28 (fun x hx9 => (htab x hx9).elim) (Nat.le_of_ble_eq_true rfl) (Nat.le_of_ble_eq_true rfl) (Nat.le_of_ble_eq_true rfl) (Nat.le_of_ble_eq_true rfl) hlocks (fun t _ hz hk => ⟨⟨by rw [hJ, if_neg c_1, if_neg c_2], hz, hk⟩, k_F hS hz hk⟩) hS.2.2 (Nat.le_of_ble_eq_true rfl) (Nat.le_of_ble_eq_true rfl)
    · refine lv_aload_n hx hb dX0_house_14 rfl (lv_at hl 0 rfl) ?_
      refine va_get (D := D) (ci := 2) (v := .int ch) (C := RX0) (T := TX0) (N := 3) hx hb hts iw_X0_house_X0 hown hK hP 0 rfl rfl 2 (by decide) (hts (.fieldLink RX0 17 "Clocksolo" "changes" "I") (by decide +kernel)) (fun _ h9 => h9) rfl dX0_house_15 ?_
      refine W.widen (k := 1) (n := 6) (Nat.le_of_ble_eq_true rfl) (Nat.le_of_ble_eq_true rfl) ?_
      exact vx_ret (k_iret hx hb hr hlocks hS dX0_house_18 ⟨(ch, kn, ch, f), by rw [hJ, if_neg c_1, if_pos c_2], rfl, hP, hD⟩)
  · refine lv_aload_n hx hb dX0_house_4 rfl (lv_at hl 0 rfl) ?_
    refine va_get (D := D) (ci := 2) (v := .int kn) (C := RX0) (T := TX0) (N := 3) hx hb hts iw_X0_house_X0 hown hK hP 0 rfl rfl 1 (by decide) (hts (.fieldLink RX0 13 "Clocksolo" "knocks" "I") (by decide +kernel)) (fun _ h9 => h9) rfl dX0_house_5 ?_
    refine W.widen (k := 1) (n := 6) (Nat.le_of_ble_eq_true rfl) (Nat.le_of_ble_eq_true rfl) ?_
    exact vx_ret (k_iret hx hb hr hlocks hS dX0_house_8 ⟨(kn, kn, ch, f), by rw [hJ, if_pos c_1], rfl, hP, hD⟩)
theorem at_X0_walk_56 : ∀ w ∈ (vx_atS RX0 56 "java/lang/IllegalArgumentException" ["java/lang/RuntimeException", "java/lang/Exception"]).filter goodWord, w ∈ wsX0_walk := fun w h => List.mem_cons_of_mem _ (List.mem_append_left _ (List.mem_append_right _ h))
abbrev rm_X0_walk : Room := { frames := 8, cells := 3, slots := 18, locals := 130 }
def jl_X0_walk_43 (kn ch : Int32) (f : Nat → Int64) (a1 : Int32) (a2 : Int32) (a3 : Int32) (a4 : Int32)  (k9 : Int64 → Int32 → Int32 → Except String (Int32 × Int32 × Int32 × (Nat → Int64))) : Nat → Int64 → Int32 → Int32 → Except String (Int32 × Int32 × Int32 × (Nat → Int64))
  | 0, _, _, _ => (.error "")
  | u9 + 1, v5, v7, v8 => (if a4 ≤ v8 then (k9 v5 v7 v8) else (if v5 ≤ (j_X0_putOn v5 a2 a3.toInt64) then (jl_X0_walk_43 kn ch f a1 a2 a3 a4  k9 u9 (j_X0_putOn v5 a2 a3.toInt64) v7 (v8 + 1)) else (jl_X0_walk_43 kn ch f a1 a2 a3 a4  k9 u9 (j_X0_putOn v5 a2 a3.toInt64) (v7 + 1) (v8 + 1))))
def jt_X0_walk_43 (kn ch : Int32) (f : Nat → Int64) (a1 : Int32) (a2 : Int32) (a3 : Int32) (a4 : Int32)  (t9 : Int64 → Int32 → Int32 → Prop) : Nat → Int64 → Int32 → Int32 → Prop
  | 0, _, _, _ => False
  | u9 + 1, v5, v7, v8 => ((a4 ≤ v8 → (t9 v5 v7 v8)) ∧ (¬ (a4 ≤ v8) → ((v5 ≤ (j_X0_putOn v5 a2 a3.toInt64) → (jt_X0_walk_43 kn ch f a1 a2 a3 a4  t9 u9 (j_X0_putOn v5 a2 a3.toInt64) v7 (v8 + 1))) ∧ (¬ (v5 ≤ (j_X0_putOn v5 a2 a3.toInt64)) → (jt_X0_walk_43 kn ch f a1 a2 a3 a4  t9 u9 (j_X0_putOn v5 a2 a3.toInt64) (v7 + 1) (v8 + 1))))))
set_option maxHeartbeats 4000000 in
set_option maxRecDepth 100000 in
theorem lp_X0_walk_43 {p : Program} {l : Launch} {e : Env} {s : State} {m : MethodId} {args : Array Value} {below : List Frame} {meth : Method} {c : Code} {D : va_G} {cB cJ : ClassId} {A : Nat → Prop} (x n : Nat) (kn ch : Int32) (f : Nat → Int64) (a1 : Int32) (a2 : Int32) (a3 : Int32) (a4 : Int32)  (J : Except String (Int32 × Int32 × Int32 × (Nat → Int64))) (hx : p.tables.exec = Jvm.exec) (hb : c.code = cX0_walk) (hml : c.maxLocals = 11) (hr : meth.sig.returnType = (some .int)) (hlocks : meth.locks = false) (hown : s.vm.findClass RX0 = some m.cls) (hts : ∀ w ∈ wsX0_walk, w.before args s = true) (hE : kE D cB cJ A s s.heap) (hP : va_P D vwCl (wC x n cJ kn ch f) s.heap) (k9 : Int64 → Int32 → Int32 → Except String (Int32 × Int32 × Int32 × (Nat → Int64))) (t9 : Int64 → Int32 → Int32 → Prop) (kk : ∀ (v5 : Int64) (v7 : Int32) (v8 : Int32) (locs : List Loc) (ls : Array Slot), J = k9 v5 v7 v8 → t9 v5 v7 v8 → va_S A s.heap s.heap locs → lv_has ls 11 [(0, .ref x), (1, .int a1), (2, .int a2), (3, .int a3), (4, .int a4), (5, .long v5), (7, .int v7), (8, .int v8)] → W p l e rm_X0_walk s m args below meth c s.heap locs 2 12 (vx_MQ below (kQ (kPw D x n cJ A J) A) (kX (kXw J s.heap) A) args s 3 18 A) (F0 m 81 ls [])) : ∀ (u9 : Nat) (v5 : Int64) (v7 : Int32) (v8 : Int32) (locs : List Loc) (ls : Array Slot), J = jl_X0_walk_43 kn ch f a1 a2 a3 a4  k9 u9 v5 v7 v8 → jt_X0_walk_43 kn ch f a1 a2 a3 a4  t9 u9 v5 v7 v8 → va_S A s.heap s.heap locs → lv_has ls 11 [(0, .ref x), (1, .int a1), (2, .int a2), (3, .int a3), (4, .int a4), (5, .long v5), (7, .int v7), (8, .int v8)] → W p l e rm_X0_walk s m args below meth c s.heap locs 2 12 (vx_MQ below (kQ (kPw D x n cJ A J) A) (kX (kXw J s.heap) A) args s 3 18 A) (F0 m 43 ls []) := by
  have hK := hE.1
  intro u9
  induction u9 with
  | zero =>
    intro v5 v7 v8 locs ls hJ hT
    exact hT.elim
  | succ u9 ih =>
    intro v5 v7 v8 locs ls hJ hT hS hl
    rw [jl_X0_walk_43] at hJ
    rw [jt_X0_walk_43] at hT
    refine lv_iload hx hb dX0_walk_43 (lv_at hl 7 rfl) ?_
    refine lv_iload hx hb dX0_walk_45 (lv_at hl 4 rfl) ?_
    refine lv_icmp_ge (tgt := 81) hx hb dX0_walk_47 (by decide) (fun c_1005 => ?_) (fun c_1005 => ?_)
    · exact kk v5 v7 v8 _ _ (hJ.trans (by rw [if_pos c_1005])) (hT.1 c_1005) hS (lv_sub hl [0, 1, 2, 3, 4, 5, 6, 7] rfl)
    · refine lv_lload hx hb dX0_walk_50 (lv_at hl 5 rfl) ?_
      refine lv_iload_n hx hb dX0_walk_52 rfl (lv_at hl 2 rfl) ?_
      refine lv_iload_n hx hb dX0_walk_53 rfl (lv_at hl 3 rfl) ?_
      refine lv_i2l (v := a3.toInt64) hx hb dX0_walk_54 rfl ?_
      refine k_pS [.long v5, .int a2, .long a3.toInt64] (rest := []) ⟨hx, hb, hml, hown, hts⟩ (c_X0_putOn l D cB cJ _ v5 a2 a3.toInt64) (va_cwS 3 hts gX0_walk_X0_putOn rfl rfl rfl (by decide +kernel) ⟨(Nat.le_of_ble_eq_true rfl), (Nat.le_of_ble_eq_true rfl)⟩) hE hS rfl rfl hl.1 (Nat.le_of_ble_eq_true rfl) dX0_walk_55 ⟨(Nat.le_of_ble_eq_true rfl), (Nat.le_of_ble_eq_true rfl)⟩ (fun locs hS => ?_)
      refine W.eq (g2 := F0 m 58 ls [.long (j_X0_putOn v5 a2 a3.toInt64)]) rfl ?_
      refine lv_lstore (lv' := [(9, .long (j_X0_putOn v5 a2 a3.toInt64)), (0, .ref x), (1, .int a1), (2, .int a2), (3, .int a3), (4, .int a4), (5, .long v5), (7, .int v7), (8, .int v8)]) hx hb dX0_walk_58 hl (by decide) rfl (fun ls hl => ?_)
      refine lv_lload hx hb dX0_walk_60 (lv_at hl 0 rfl) ?_
      refine lv_lload hx hb dX0_walk_62 (lv_at hl 6 rfl) ?_
      refine kl_ge (tgt := 71) hx hb dX0_walk_64 dX0_walk_65 (by decide) (fun c_1006 => ?_) (fun c_1006 => ?_)
      · refine lv_lload hx hb dX0_walk_71 (lv_at hl 0 rfl) ?_
        refine lv_lstore (lv' := [(5, .long (j_X0_putOn v5 a2 a3.toInt64)), (9, .long (j_X0_putOn v5 a2 a3.toInt64)), (0, .ref x), (1, .int a1), (2, .int a2), (3, .int a3), (4, .int a4), (7, .int v7), (8, .int v8)]) hx hb dX0_walk_73 hl (by decide) rfl (fun ls hl => ?_)
        refine lv_iinc (v := (v8 + 1)) (lv' := [(8, .int (v8 + 1)), (5, .long (j_X0_putOn v5 a2 a3.toInt64)), (9, .long (j_X0_putOn v5 a2 a3.toInt64)), (0, .ref x), (1, .int a1), (2, .int a2), (3, .int a3), (4, .int a4), (7, .int v7)]) hx hb dX0_walk_75 hl (k := 8) rfl rfl (by decide) rfl (fun ls hl => ?_)
        refine lv_goto (tgt := 43) hx hb dX0_walk_78 (by decide) ?_
        exact ih (j_X0_putOn v5 a2 a3.toInt64) v7 (v8 + 1) _ _ (hJ.trans (by rw [if_neg c_1005, if_pos c_1006])) ((hT.2 c_1005).1 c_1006) hS (lv_sub hl [3, 4, 5, 6, 7, 1, 8, 0] rfl)
      · refine lv_iinc (v := (v7 + 1)) (lv' := [(7, .int (v7 + 1)), (9, .long (j_X0_putOn v5 a2 a3.toInt64)), (0, .ref x), (1, .int a1), (2, .int a2), (3, .int a3), (4, .int a4), (5, .long v5), (8, .int v8)]) hx hb dX0_walk_68 hl (k := 7) rfl rfl (by decide) rfl (fun ls hl => ?_)
        refine lv_lload hx hb dX0_walk_71 (lv_at hl 1 rfl) ?_
        refine lv_lstore (lv' := [(5, .long (j_X0_putOn v5 a2 a3.toInt64)), (7, .int (v7 + 1)), (9, .long (j_X0_putOn v5 a2 a3.toInt64)), (0, .ref x), (1, .int a1), (2, .int a2), (3, .int a3), (4, .int a4), (8, .int v8)]) hx hb dX0_walk_73 hl (by decide) rfl (fun ls hl => ?_)
        refine lv_iinc (v := (v8 + 1)) (lv' := [(8, .int (v8 + 1)), (5, .long (j_X0_putOn v5 a2 a3.toInt64)), (7, .int (v7 + 1)), (9, .long (j_X0_putOn v5 a2 a3.toInt64)), (0, .ref x), (1, .int a1), (2, .int a2), (3, .int a3), (4, .int a4)]) hx hb dX0_walk_75 hl (k := 8) rfl rfl (by decide) rfl (fun ls hl => ?_)
        refine lv_goto (tgt := 43) hx hb dX0_walk_78 (by decide) ?_
        exact ih (j_X0_putOn v5 a2 a3.toInt64) (v7 + 1) (v8 + 1) _ _ (hJ.trans (by rw [if_neg c_1005, if_neg c_1006])) ((hT.2 c_1005).2 c_1006) hS (lv_sub hl [4, 5, 6, 7, 8, 1, 2, 0] rfl)
def j_X0_walk (kn ch : Int32) (f : Nat → Int64) (a1 : Int32) (a2 : Int32) (a3 : Int32) (a4 : Int32) : Except String (Int32 × Int32 × Int32 × (Nat → Int64)) := (jNeed (j_X0_needClock a1) (jNeed (j_X0_needStepUnit a2) (if a4 < 0 then (.error "java/lang/IllegalArgumentException") else (if a4 ≤ 40 then (jl_X0_walk_43 kn ch f a1 a2 a3 a4  (fun (v_5 : Int64) (v_6 : Int32) (v_7 : Int32) => (.ok (v_6, (j_X0_settle kn ch f a1 v_5).2.1, (j_X0_settle kn ch f a1 v_5).2.2.1, (j_X0_settle kn ch f a1 v_5).2.2.2))) 100 (j_X0_numberOf kn ch f a1) 0 0) else (.error "java/lang/IllegalArgumentException")))))
def T_X0_walk (kn ch : Int32) (f : Nat → Int64) (a1 : Int32) (a2 : Int32) (a3 : Int32) (a4 : Int32) : Prop := (∀ _ : (j_X0_needClock a1) = none, (∀ _ : (j_X0_needStepUnit a2) = none, ((a4 < 0 → True) ∧ (¬ (a4 < 0) → ((a4 ≤ 40 → (jt_X0_walk_43 kn ch f a1 a2 a3 a4  (fun (v_5 : Int64) (v_6 : Int32) (v_7 : Int32) => True) 100 (j_X0_numberOf kn ch f a1) 0 0)) ∧ (¬ (a4 ≤ 40) → True))))))
set_option maxHeartbeats 4000000 in
set_option maxRecDepth 100000 in
theorem c_X0_walk (l : Launch) (hl9 : l.stackTraces = false) (D : va_G) (cB cJ : ClassId) (Hp : Heap) (x n : Nat) (kn ch : Int32) (f : Nat → Int64) (hP : va_P D vwCl (wC x n cJ kn ch f) Hp) (hD9 : va_D (fun _ => True) (wC x n cJ kn ch f)) (a1 : Int32) (a2 : Int32) (a3 : Int32) (a4 : Int32) (hT9 : T_X0_walk kn ch f a1 a2 a3 a4) : kV l D cB cJ yX0_walk wsX0_walk rm_X0_walk (va_A (wC x n cJ kn ch f) Hp.size) Hp [.ref x, .int a1, .int a2, .int a3, .int a4] (kPw D x n cJ (va_A (wC x n cJ kn ch f) Hp.size) (j_X0_walk kn ch f a1 a2 a3 a4)) (kXw (j_X0_walk kn ch f a1 a2 a3 a4) Hp) 3 18 := by
  refine vx_ofW (cc := cX0_walk) (maxL := 11) (ret := (some .int)) (by decide) rfl ?_
  intro p e s m args below meth c s₁ B hml htab hv
  obtain ⟨rfl, hHp, hE⟩ := hv
  subst hHp
  have hx := B.exec
  have hb := B.bytes
  have hr := B.returns
  have hts := atoms_spec (ws := wsX0_walk) B.pre
  have hown : s.vm.findClass RX0 = some m.cls := findClass_of_methodNamed B.named
  have hlocks := B.notSynchronized
  have hK := hE.1
  have hD := hD9.self (sz := s.heap.size)
  generalize hAe : va_A (wC x n cJ kn ch f) s.heap.size = A at hE hD ⊢
  have hA : ∀ q : Nat, s.heap.size ≤ q → A q := fun q h => by rw [← hAe]; exact Or.inr h
  have hS : va_S A s.heap s.heap [] := va_S.rf
  have hl := lv_entry ([.ref x, .int a1, .int a2, .int a3, .int a4]) (n := 11) (Nat.le_of_ble_eq_true rfl)
  rw [lg_entry_eq]
  generalize (lg_sl ([.ref x, .int a1, .int a2, .int a3, .int a4]) ++ List.replicate (11 - (lg_sl ([.ref x, .int a1, .int a2, .int a3, .int a4])).length) Slot.unset).toArray = ls at hl ⊢
  have hl : lv_has ls 11 [(0, .ref x), (1, .int a1), (2, .int a2), (3, .int a3), (4, .int a4)] := hl
  obtain ⟨k9, hk9⟩ := hE.2.2.1
  have hJ : (j_X0_walk kn ch f a1 a2 a3 a4) = (jNeed (j_X0_needClock a1) (jNeed (j_X0_needStepUnit a2) (if a4 < 0 then (.error "java/lang/IllegalArgumentException") else (if a4 ≤ 40 then (jl_X0_walk_43 kn ch f a1 a2 a3 a4  (fun (v_5 : Int64) (v_6 : Int32) (v_7 : Int32) => (.ok (v_6, (j_X0_settle kn ch f a1 v_5).2.1, (j_X0_settle kn ch f a1 v_5).2.2.1, (j_X0_settle kn ch f a1 v_5).2.2.2))) 100 (j_X0_numberOf kn ch f a1) 0 0) else (.error "java/lang/IllegalArgumentException"))))) := rfl
  have hT : (∀ _ : (j_X0_needClock a1) = none, (∀ _ : (j_X0_needStepUnit a2) = none, ((a4 < 0 → True) ∧ (¬ (a4 < 0) → ((a4 ≤ 40 → (jt_X0_walk_43 kn ch f a1 a2 a3 a4  (fun (v_5 : Int64) (v_6 : Int32) (v_7 : Int32) => True) 100 (j_X0_numberOf kn ch f a1) 0 0)) ∧ (¬ (a4 ≤ 40) → True)))))) := hT9
  refine lv_iload_n hx hb dX0_walk_0 rfl (lv_at hl 1 rfl) ?_
  refine kx_need [.int a1] (rest := []) ⟨hx, hb, hml, hown, hts⟩ (c_X0_needClock l hl9 D cB cJ _ a1) (va_cwS 1 hts gX0_walk_X0_needClock rfl rfl rfl (by decide +kernel) ⟨(Nat.le_of_ble_eq_true rfl), (Nat.le_of_ble_eq_true rfl)⟩) hE hS rfl rfl hl.1 (Nat.le_of_ble_eq_true rfl) dX0_walk_1 ⟨(Nat.le_of_ble_eq_true rfl), (Nat.le_of_ble_eq_true rfl)⟩ (fun E ce q9 H1 locs1 hn9 hz hk hS1 hce hcv hcl => ?_) (fun locs n_1 hS => ?_)
  · exact vx_out (fun x hx9 => (htab x hx9).elim) hlocks hce hcv hcl (fun t ht _ => ⟨⟨by rw [hJ, jNeed_s hn9], by rw [ht]; exact hz, fun q hq => by rw [ht]; exact hk q hq⟩, hS1.F ht⟩) hS1.2.2 (Nat.le_of_ble_eq_true rfl) (Nat.le_of_ble_eq_true rfl)
  refine lv_iload_n hx hb dX0_walk_4 rfl (lv_at hl 2 rfl) ?_
  refine kx_need [.int a2] (rest := []) ⟨hx, hb, hml, hown, hts⟩ (c_X0_needStepUnit l hl9 D cB cJ _ a2) (va_cwS 1 hts gX0_walk_X0_needStepUnit rfl rfl rfl (by decide +kernel) ⟨(Nat.le_of_ble_eq_true rfl), (Nat.le_of_ble_eq_true rfl)⟩) hE hS rfl rfl hl.1 (Nat.le_of_ble_eq_true rfl) dX0_walk_5 ⟨(Nat.le_of_ble_eq_true rfl), (Nat.le_of_ble_eq_true rfl)⟩ (fun E ce q9 H1 locs1 hn9 hz hk hS1 hce hcv hcl => ?_) (fun locs n_2 hS => ?_)
  · exact vx_out (fun x hx9 => (htab x hx9).elim) hlocks hce hcv hcl (fun t ht _ => ⟨⟨by rw [hJ, jNeed_n n_1, jNeed_s hn9], by rw [ht]; exact hz, fun q hq => by rw [ht]; exact hk q hq⟩, hS1.F ht⟩) hS1.2.2 (Nat.le_of_ble_eq_true rfl) (Nat.le_of_ble_eq_true rfl)
  refine lv_iload hx hb dX0_walk_8 (lv_at hl 4 rfl) ?_
  refine lv_if_lt (tgt := 20) hx hb dX0_walk_10 (by decide) (fun c_3 => ?_) (fun c_3 => ?_)
  · exact vx_throwS hx hb hl9 (own := RX0) (cls := "java/lang/IllegalArgumentException") (text := "times is not 0 to 40") (names := ["java/lang/RuntimeException", "java/lang/Exception"]) (ik := 52) (is := 69) (ic := 56) (sa := k9 5) hown (by decide) (by decide) (hts (.classLink RX0 52 "java/lang/IllegalArgumentException") (by decide +kernel)) (hts (.initialized "java/lang/IllegalArgumentException") (by decide +kernel)) (hk9 5 _ rfl) (vx_hat (fun w h => hts w (at_X0_walk_56 w h)) (fun w h => by rw [atn_56] at h; exact h) (hE.2.2.2.1.bad hE.2.2.2.1.2.1)) atg_56 hE.2.1.2.2.2.2.2.2.2.2.1 hE.2.1.2.2.2.2.2.2.2.2.2 hS (hl.1.trans hml.symm) dX0_walk_20 dX0_walk_23 dX0_walk_24 dX0_walk_26 dX0_walk_29 (fun x hx9 => (htab x hx9).elim) (Nat.le_of_ble_eq_true rfl) (Nat.le_of_ble_eq_true rfl) (Nat.le_of_ble_eq_true rfl) (Nat.le_of_ble_eq_true rfl) hlocks (fun t _ hz hk => ⟨⟨by rw [hJ, jNeed_n n_1, jNeed_n n_2, if_pos c_3], hz, hk⟩, k_F hS hz hk⟩) hS.2.2 (Nat.le_of_ble_eq_true rfl) (Nat.le_of_ble_eq_true rfl)
  · refine lv_iload hx hb dX0_walk_13 (lv_at hl 4 rfl) ?_
    refine lv_bipush (v := 40) hx hb dX0_walk_15 (by decide) ?_
    refine lv_icmp_le (tgt := 30) hx hb dX0_walk_17 (by decide) (fun c_4 => ?_) (fun c_4 => ?_)
    · refine lv_aload_n hx hb dX0_walk_30 rfl (lv_at hl 0 rfl) ?_
      refine lv_iload_n hx hb dX0_walk_31 rfl (lv_at hl 1 rfl) ?_
      refine k_pV [.int a1] (rest := []) ⟨hx, hb, hml, hown, hts⟩ (c_X0_numberOf l D cB cJ _ x n kn ch f (hP.sub [0, 1] rfl) a1) (cwV 1 hts gX0_walk_X0_numberOf rfl rfl rfl (by decide +kernel) ⟨(Nat.le_of_ble_eq_true rfl), (Nat.le_of_ble_eq_true rfl)⟩) (va_recv hK hP (ci := 2) (q0 := 0) rfl rfl) hE hS rfl rfl hl.1 (Nat.le_of_ble_eq_true rfl) dX0_walk_32 ⟨(Nat.le_of_ble_eq_true rfl), (Nat.le_of_ble_eq_true rfl)⟩ (fun locs hS => ?_)
      refine W.eq (g2 := F0 m 35 ls [.long (j_X0_numberOf kn ch f a1)]) rfl ?_
      refine lv_lstore (lv' := [(5, .long (j_X0_numberOf kn ch f a1)), (0, .ref x), (1, .int a1), (2, .int a2), (3, .int a3), (4, .int a4)]) hx hb dX0_walk_35 hl (by decide) rfl (fun ls hl => ?_)
      refine lv_iconst (v := 0) hx hb dX0_walk_37 (by decide) ?_
      refine lv_istore (lv' := [(7, .int 0), (5, .long (j_X0_numberOf kn ch f a1)), (0, .ref x), (1, .int a1), (2, .int a2), (3, .int a3), (4, .int a4)]) hx hb dX0_walk_38 hl (by decide) rfl (fun ls hl => ?_)
      refine lv_iconst (v := 0) hx hb dX0_walk_40 (by decide) ?_
      refine lv_istore (lv' := [(8, .int 0), (7, .int 0), (5, .long (j_X0_numberOf kn ch f a1)), (0, .ref x), (1, .int a1), (2, .int a2), (3, .int a3), (4, .int a4)]) hx hb dX0_walk_41 hl (by decide) rfl (fun ls hl => ?_)
      refine lp_X0_walk_43 x n kn ch f a1 a2 a3 a4  (j_X0_walk kn ch f a1 a2 a3 a4) hx hb hml hr hlocks hown hts hE hP (fun (v_5 : Int64) (v_6 : Int32) (v_7 : Int32) => (.ok (v_6, (j_X0_settle kn ch f a1 v_5).2.1, (j_X0_settle kn ch f a1 v_5).2.2.1, (j_X0_settle kn ch f a1 v_5).2.2.2))) (fun (v_5 : Int64) (v_6 : Int32) (v_7 : Int32) => True) (fun v_5 v_6 v_7 locs ls hJ hT hS hl => ?_) 100 (j_X0_numberOf kn ch f a1) 0 0 _ _ (hJ.trans (by rw [jNeed_n n_1, jNeed_n n_2, if_neg c_3, if_pos c_4])) ((((hT n_1) n_2).2 c_3).1 c_4) hS (lv_sub hl [3, 4, 5, 6, 7, 2, 1, 0] rfl)
      (try dsimp only at hJ); (try dsimp only at hT)
      refine lv_aload_n hx hb dX0_walk_81 rfl (lv_at hl 0 rfl) ?_
      refine lv_iload_n hx hb dX0_walk_82 rfl (lv_at hl 1 rfl) ?_
      refine lv_lload hx hb dX0_walk_83 (lv_at hl 5 rfl) ?_
      have hFc := va_free (wc := [(x, .inr (2, [.ref n, .int kn, .int ch])), (n, .inl (cJ, 8, .inr (.inl f)))]) hD hS hA [0, 1] rfl
      refine k_go (va_runV (As := [.int a1, .long v_5]) (rest := []) ⟨hx, hb, hml, hown, hts⟩ (c_X0_settle l D cB cJ _ x n kn ch f hP (hD.weaken (fun _ _ _ _ => trivial)) a1 v_5) (cwV 2 hts gX0_walk_X0_settle rfl rfl rfl (by decide +kernel) ⟨(Nat.le_of_ble_eq_true rfl), (Nat.le_of_ble_eq_true rfl)⟩) (k_preV hE hS hFc (va_recv hK hP (ci := 2) (q0 := 0) rfl rfl)) rfl rfl hl.1 rfl (lv_room (Nat.le_of_ble_eq_true rfl)) dX0_walk_85 ⟨(Nat.le_of_ble_eq_true rfl), (Nat.le_of_ble_eq_true rfl)⟩) hS (fun q _ h => hFc q h) hFc (fun v H locs hp hz hk hS => ?_)
      obtain ⟨rfl, hP1, hD1⟩ := hp
      have hP : va_P D vwCl [(x, .inr (2, [.ref n, .int ((j_X0_settle kn ch f a1 v_5).2.1), .int ((j_X0_settle kn ch f a1 v_5).2.2.1)])), (n, .inl (cJ, 8, .inr (.inl ((j_X0_settle kn ch f a1 v_5).2.2.2))))] H := hP1
      have hD : va_D A [(x, .inr (2, [.ref n, .int ((j_X0_settle kn ch f a1 v_5).2.1), .int ((j_X0_settle kn ch f a1 v_5).2.2.1)])), (n, .inl (cJ, 8, .inr (.inl ((j_X0_settle kn ch f a1 v_5).2.2.2))))] := hD1.weaken (fun _ q _ h => hFc q.1 h)
      refine W.eq (g2 := F0 m 88 ls [.int ((j_X0_settle kn ch f a1 v_5).1)]) rfl ?_
      refine lv_pop hx hb dX0_walk_88 rfl ?_
      refine lv_iload hx hb dX0_walk_89 (lv_at hl 6 rfl) ?_
      refine W.widen (k := 3) (n := 18) (Nat.le_of_ble_eq_true rfl) (Nat.le_of_ble_eq_true rfl) ?_
      exact vx_ret (k_iret hx hb hr hlocks hS dX0_walk_91 ⟨(v_6, (j_X0_settle kn ch f a1 v_5).2.1, (j_X0_settle kn ch f a1 v_5).2.2.1, (j_X0_settle kn ch f a1 v_5).2.2.2), by rw [hJ], rfl, hP, hD⟩)
    · exact vx_throwS hx hb hl9 (own := RX0) (cls := "java/lang/IllegalArgumentException") (text := "times is not 0 to 40") (names := ["java/lang/RuntimeException", "java/lang/Exception"]) (ik := 52) (is := 69) (ic := 56) (sa := k9 5) hown (by decide) (by decide) (hts (.classLink RX0 52 "java/lang/IllegalArgumentException") (by decide +kernel)) (hts (.initialized "java/lang/IllegalArgumentException") (by decide +kernel)) (hk9 5 _ rfl) (vx_hat (fun w h => hts w (at_X0_walk_56 w h)) (fun w h => by rw [atn_56] at h; exact h) (hE.2.2.2.1.bad hE.2.2.2.1.2.1)) atg_56 hE.2.1.2.2.2.2.2.2.2.2.1 hE.2.1.2.2.2.2.2.2.2.2.2 hS (hl.1.trans hml.symm) dX0_walk_20 dX0_walk_23 dX0_walk_24 dX0_walk_26 dX0_walk_29 (fun x hx9 => (htab x hx9).elim) (Nat.le_of_ble_eq_true rfl) (Nat.le_of_ble_eq_true rfl) (Nat.le_of_ble_eq_true rfl) (Nat.le_of_ble_eq_true rfl) hlocks (fun t _ hz hk => ⟨⟨by rw [hJ, jNeed_n n_1, jNeed_n n_2, if_neg c_3, if_neg c_4], hz, hk⟩, k_F hS hz hk⟩) hS.2.2 (Nat.le_of_ble_eq_true rfl) (Nat.le_of_ble_eq_true rfl)
theorem jtk_X0_walk_43 (kn ch : Int32) (f : Nat → Int64) (a1 : Int32) (a2 : Int32) (a3 : Int32) (a4 : Int32)  (t9 : Int64 → Int32 → Int32 → Prop) (h9 : ∀ (v5 : Int64) (v7 : Int32) (v8 : Int32), t9 v5 v7 v8) (b : Nat) (hb9 : b < 1000) (eb : a4 = nI b) : ∀ (n k : Nat) (v5 : Int64) (v7 : Int32) (v8 : Int32), v8 = nI k → k ≤ b → b < n + k → jt_X0_walk_43 kn ch f a1 a2 a3 a4  t9 n v5 v7 v8 := by
  subst eb
  intro n
  induction n with
  | zero => intro k v5 v7 v8 e h1 h2; exact absurd h2 (by omega)
  | succ n ih =>
    intro k v5 v7 v8 e h1 h2
    subst e
    rw [jt_X0_walk_43]
    rcases Nat.lt_or_ge k b with hk | hk
    · repeat' (first | with_reducible exact trivial | with_reducible exact h9 _ _ _ | with_reducible exact nI_pos (by omega) | with_reducible exact ih (k + 1) _ _ _ (nI_1 k) (by omega) (by omega) | with_reducible refine ⟨?_, ?_⟩ | (with_reducible intro _))
    · obtain rfl : k = b := by omega
      repeat' (first | with_reducible exact trivial | with_reducible exact h9 _ _ _ | with_reducible exact nI_pos (by omega) | with_reducible refine ⟨?_, ?_⟩ | (with_reducible intro hc; exact absurd (nI_le (Nat.le_refl _) (by omega)) hc) | (with_reducible intro _))
theorem tk_X0_walk (kn ch : Int32) (f : Nat → Int64) (a1 a2 a3 a4 : Int32) : T_X0_walk kn ch f a1 a2 a3 a4 := by
  intro _ _
  refine ⟨fun _ => trivial, fun h0 => ⟨fun h1 => ?_, fun _ => trivial⟩⟩
  obtain ⟨b, hb, e⟩ := nI_of2 (M := 40) (n := 40) (by decide) h0 h1
  exact jtk_X0_walk_43 _ _ _ _ _ _ _ _ (fun _ _ _ => trivial) b (by omega) e 100 0 _ _ _ nI_0.symm (by omega) (by omega)
abbrev rm_X0_placeOf : Room := { frames := 1, cells := 0, slots := 0, locals := 21 }
def jl_X0_placeOf_12 (kn ch : Int32) (f : Nat → Int64) (a1 : Int32) (w2 : Int64) (k9 : Int32 → Int32 → Int32) : Nat → Int32 → Int32 → Int32
  | 0, _, _ => 0
  | u9 + 1, v4, v5 => (if 8 ≤ v5 then (k9 v4 v5) else (if (j_X0_numberOf kn ch f v5) < w2 then (jl_X0_placeOf_12 kn ch f a1 w2 k9 u9 (v4 + 1) (v5 + 1)) else (if (j_X0_numberOf kn ch f v5) = w2 then (if a1 ≤ v5 then (jl_X0_placeOf_12 kn ch f a1 w2 k9 u9 v4 (v5 + 1)) else (jl_X0_placeOf_12 kn ch f a1 w2 k9 u9 (v4 + 1) (v5 + 1))) else (jl_X0_placeOf_12 kn ch f a1 w2 k9 u9 v4 (v5 + 1)))))
def jt_X0_placeOf_12 (kn ch : Int32) (f : Nat → Int64) (a1 : Int32) (w2 : Int64) (t9 : Int32 → Int32 → Prop) : Nat → Int32 → Int32 → Prop
  | 0, _, _ => False
  | u9 + 1, v4, v5 => ((8 ≤ v5 → (t9 v4 v5)) ∧ (¬ (8 ≤ v5) → (((j_X0_numberOf kn ch f v5) < w2 → (jt_X0_placeOf_12 kn ch f a1 w2 t9 u9 (v4 + 1) (v5 + 1))) ∧ (¬ ((j_X0_numberOf kn ch f v5) < w2) → (((j_X0_numberOf kn ch f v5) = w2 → ((a1 ≤ v5 → (jt_X0_placeOf_12 kn ch f a1 w2 t9 u9 v4 (v5 + 1))) ∧ (¬ (a1 ≤ v5) → (jt_X0_placeOf_12 kn ch f a1 w2 t9 u9 (v4 + 1) (v5 + 1))))) ∧ (¬ ((j_X0_numberOf kn ch f v5) = w2) → (jt_X0_placeOf_12 kn ch f a1 w2 t9 u9 v4 (v5 + 1))))))))
set_option maxHeartbeats 4000000 in
set_option maxRecDepth 100000 in
theorem lp_X0_placeOf_12 {p : Program} {l : Launch} {e : Env} {s : State} {m : MethodId} {args : Array Value} {below : List Frame} {meth : Method} {c : Code} {D : va_G} {cB cJ : ClassId} (x n : Nat) (kn ch : Int32) (f : Nat → Int64) (a1 : Int32) (w2 : Int64) (J : Int32) (hx : p.tables.exec = Jvm.exec) (hb : c.code = cX0_placeOf) (hml : c.maxLocals = 8) (hr : meth.sig.returnType = (some .int)) (hlocks : meth.locks = false) (hown : s.vm.findClass RX0 = some m.cls) (hts : ∀ w ∈ wsX0_placeOf, w.before args s = true) (hE : kE D cB cJ kF s s.heap) (hP : va_P D vwCl (wC x n cJ kn ch f) s.heap) (k9 : Int32 → Int32 → Int32) (t9 : Int32 → Int32 → Prop) (kk : ∀ (v4 : Int32) (v5 : Int32) (locs : List Loc) (ls : Array Slot), J = k9 v4 v5 → t9 v4 v5 → va_S kF s.heap s.heap locs → lv_has ls 8 [(0, .ref x), (1, .int a1), (2, .long w2), (4, .int v4), (5, .int v5)] → W p l e rm_X0_placeOf s m args below meth c s.heap locs 0 0 (MQ below (kQ (kP (some (.int J)) s.heap) kF) args s 0 0 kF) (F0 m 56 ls [])) : ∀ (u9 : Nat) (v4 : Int32) (v5 : Int32) (locs : List Loc) (ls : Array Slot), J = jl_X0_placeOf_12 kn ch f a1 w2 k9 u9 v4 v5 → jt_X0_placeOf_12 kn ch f a1 w2 t9 u9 v4 v5 → va_S kF s.heap s.heap locs → lv_has ls 8 [(0, .ref x), (1, .int a1), (2, .long w2), (4, .int v4), (5, .int v5)] → W p l e rm_X0_placeOf s m args below meth c s.heap locs 0 0 (MQ below (kQ (kP (some (.int J)) s.heap) kF) args s 0 0 kF) (F0 m 12 ls []) := by
  have hK := hE.1
  intro u9
  induction u9 with
  | zero =>
    intro v4 v5 locs ls hJ hT
    exact hT.elim
  | succ u9 ih =>
    intro v4 v5 locs ls hJ hT hS hl
    rw [jl_X0_placeOf_12] at hJ
    rw [jt_X0_placeOf_12] at hT
    refine lv_iload hx hb dX0_placeOf_12 (lv_at hl 4 rfl) ?_
    refine lv_bipush (v := 8) hx hb dX0_placeOf_14 (by decide) ?_
    refine lv_icmp_ge (tgt := 56) hx hb dX0_placeOf_16 (by decide) (fun c_1001 => ?_) (fun c_1001 => ?_)
    · exact kk v4 v5 _ _ (hJ.trans (by rw [if_pos c_1001])) (hT.1 c_1001) hS (lv_sub hl [0, 1, 2, 3, 4] rfl)
    · refine lv_aload_n hx hb dX0_placeOf_19 rfl (lv_at hl 0 rfl) ?_
      refine lv_iload hx hb dX0_placeOf_20 (lv_at hl 4 rfl) ?_
      refine k_pV [.int v5] (rest := []) ⟨hx, hb, hml, hown, hts⟩ (c_X0_numberOf l D cB cJ _ x n kn ch f (hP.sub [0, 1] rfl) v5) (cwV 1 hts gX0_placeOf_X0_numberOf rfl rfl rfl (by decide +kernel) ⟨(Nat.le_of_ble_eq_true rfl), (Nat.le_of_ble_eq_true rfl)⟩) (va_recv hK hP (ci := 2) (q0 := 0) rfl rfl) hE hS rfl rfl hl.1 (Nat.le_of_ble_eq_true rfl) dX0_placeOf_22 ⟨(Nat.le_of_ble_eq_true rfl), (Nat.le_of_ble_eq_true rfl)⟩ (fun locs hS => ?_)
      refine W.eq (g2 := F0 m 25 ls [.long (j_X0_numberOf kn ch f v5)]) rfl ?_
      refine lv_lstore (lv' := [(6, .long (j_X0_numberOf kn ch f v5)), (0, .ref x), (1, .int a1), (2, .long w2), (4, .int v4), (5, .int v5)]) hx hb dX0_placeOf_25 hl (by decide) rfl (fun ls hl => ?_)
      refine lv_lload hx hb dX0_placeOf_27 (lv_at hl 0 rfl) ?_
      refine lv_lload_n hx hb dX0_placeOf_29 rfl (lv_at hl 3 rfl) ?_
      refine kl_lt (tgt := 47) hx hb dX0_placeOf_30 dX0_placeOf_31 (by decide) (fun c_1002 => ?_) (fun c_1002 => ?_)
      · refine lv_iinc (v := (v4 + 1)) (lv' := [(4, .int (v4 + 1)), (6, .long (j_X0_numberOf kn ch f v5)), (0, .ref x), (1, .int a1), (2, .long w2), (5, .int v5)]) hx hb dX0_placeOf_47 hl (k := 4) rfl rfl (by decide) rfl (fun ls hl => ?_)
        refine lv_iinc (v := (v5 + 1)) (lv' := [(5, .int (v5 + 1)), (4, .int (v4 + 1)), (6, .long (j_X0_numberOf kn ch f v5)), (0, .ref x), (1, .int a1), (2, .long w2)]) hx hb dX0_placeOf_50 hl (k := 5) rfl rfl (by decide) rfl (fun ls hl => ?_)
        refine lv_goto (tgt := 12) hx hb dX0_placeOf_53 (by decide) ?_
        exact ih (v4 + 1) (v5 + 1) _ _ (hJ.trans (by rw [if_neg c_1001, if_pos c_1002])) ((hT.2 c_1001).1 c_1002) hS (lv_sub hl [3, 4, 5, 1, 0] rfl)
      · refine lv_lload hx hb dX0_placeOf_34 (lv_at hl 0 rfl) ?_
        refine lv_lload_n hx hb dX0_placeOf_36 rfl (lv_at hl 3 rfl) ?_
        refine kl_ne (tgt := 50) hx hb dX0_placeOf_37 dX0_placeOf_38 (by decide) (fun c_1003 => ?_) (fun c_1003 => ?_)
        · refine lv_iinc (v := (v5 + 1)) (lv' := [(5, .int (v5 + 1)), (6, .long (j_X0_numberOf kn ch f v5)), (0, .ref x), (1, .int a1), (2, .long w2), (4, .int v4)]) hx hb dX0_placeOf_50 hl (k := 5) rfl rfl (by decide) rfl (fun ls hl => ?_)
          refine lv_goto (tgt := 12) hx hb dX0_placeOf_53 (by decide) ?_
          exact ih v4 (v5 + 1) _ _ (hJ.trans (by rw [if_neg c_1001, if_neg c_1002, if_neg c_1003])) (((hT.2 c_1001).2 c_1002).2 c_1003) hS (lv_sub hl [2, 3, 4, 5, 0] rfl)
        · refine lv_iload hx hb dX0_placeOf_41 (lv_at hl 5 rfl) ?_
          refine lv_iload_n hx hb dX0_placeOf_43 rfl (lv_at hl 2 rfl) ?_
          refine lv_icmp_ge (tgt := 50) hx hb dX0_placeOf_44 (by decide) (fun c_1004 => ?_) (fun c_1004 => ?_)
          · refine lv_iinc (v := (v5 + 1)) (lv' := [(5, .int (v5 + 1)), (6, .long (j_X0_numberOf kn ch f v5)), (0, .ref x), (1, .int a1), (2, .long w2), (4, .int v4)]) hx hb dX0_placeOf_50 hl (k := 5) rfl rfl (by decide) rfl (fun ls hl => ?_)
            refine lv_goto (tgt := 12) hx hb dX0_placeOf_53 (by decide) ?_
            exact ih v4 (v5 + 1) _ _ (hJ.trans (by rw [if_neg c_1001, if_neg c_1002, if_pos c_1003, if_pos c_1004])) ((((hT.2 c_1001).2 c_1002).1 c_1003).1 c_1004) hS (lv_sub hl [2, 3, 4, 5, 0] rfl)
          · refine lv_iinc (v := (v4 + 1)) (lv' := [(4, .int (v4 + 1)), (6, .long (j_X0_numberOf kn ch f v5)), (0, .ref x), (1, .int a1), (2, .long w2), (5, .int v5)]) hx hb dX0_placeOf_47 hl (k := 4) rfl rfl (by decide) rfl (fun ls hl => ?_)
            refine lv_iinc (v := (v5 + 1)) (lv' := [(5, .int (v5 + 1)), (4, .int (v4 + 1)), (6, .long (j_X0_numberOf kn ch f v5)), (0, .ref x), (1, .int a1), (2, .long w2)]) hx hb dX0_placeOf_50 hl (k := 5) rfl rfl (by decide) rfl (fun ls hl => ?_)
            refine lv_goto (tgt := 12) hx hb dX0_placeOf_53 (by decide) ?_
            exact ih (v4 + 1) (v5 + 1) _ _ (hJ.trans (by rw [if_neg c_1001, if_neg c_1002, if_pos c_1003, if_neg c_1004])) ((((hT.2 c_1001).2 c_1002).1 c_1003).2 c_1004) hS (lv_sub hl [3, 4, 5, 1, 0] rfl)
def j_X0_placeOf (kn ch : Int32) (f : Nat → Int64) (a1 : Int32) : Int32 := (jl_X0_placeOf_12 kn ch f a1 (j_X0_numberOf kn ch f a1) (fun (v_1 : Int32) (v_2 : Int32) => v_1) 100 0 0)
def T_X0_placeOf (kn ch : Int32) (f : Nat → Int64) (a1 : Int32) : Prop := (jt_X0_placeOf_12 kn ch f a1 (j_X0_numberOf kn ch f a1) (fun (v_1 : Int32) (v_2 : Int32) => True) 100 0 0)
set_option maxHeartbeats 4000000 in
set_option maxRecDepth 100000 in
theorem c_X0_placeOf (l : Launch) (D : va_G) (cB cJ : ClassId) (Hp : Heap) (x n : Nat) (kn ch : Int32) (f : Nat → Int64) (hP : va_P D vwCl (wC x n cJ kn ch f) Hp) (a1 : Int32) (hT9 : T_X0_placeOf kn ch f a1) : kM l D cB cJ yX0_placeOf wsX0_placeOf rm_X0_placeOf kF Hp [.ref x, .int a1] (kP (some (.int (j_X0_placeOf kn ch f a1))) Hp) 0 0 := by
  refine Met.ofW (cc := cX0_placeOf) (maxL := 8) (ret := (some .int)) (by decide) rfl ?_
  intro p e s m args below meth c s₁ B hml hv
  obtain ⟨rfl, hHp, hE⟩ := hv
  subst hHp
  have hx := B.exec
  have hb := B.bytes
  have hr := B.returns
  have hts := atoms_spec (ws := wsX0_placeOf) B.pre
  have hown : s.vm.findClass RX0 = some m.cls := findClass_of_methodNamed B.named
  have hlocks := B.notSynchronized
  have hK := hE.1
  have hS : va_S kF s.heap s.heap [] := va_S.rf
  have hl := lv_entry ([.ref x, .int a1]) (n := 8) (Nat.le_of_ble_eq_true rfl)
  rw [lg_entry_eq]
  generalize (lg_sl ([.ref x, .int a1]) ++ List.replicate (8 - (lg_sl ([.ref x, .int a1])).length) Slot.unset).toArray = ls at hl ⊢
  have hl : lv_has ls 8 [(0, .ref x), (1, .int a1)] := hl
  have hJ : (j_X0_placeOf kn ch f a1) = (jl_X0_placeOf_12 kn ch f a1 (j_X0_numberOf kn ch f a1) (fun (v_1 : Int32) (v_2 : Int32) => v_1) 100 0 0) := rfl
  have hT : (jt_X0_placeOf_12 kn ch f a1 (j_X0_numberOf kn ch f a1) (fun (v_1 : Int32) (v_2 : Int32) => True) 100 0 0) := hT9
  refine lv_aload_n hx hb dX0_placeOf_0 rfl (lv_at hl 0 rfl) ?_
  refine lv_iload_n hx hb dX0_placeOf_1 rfl (lv_at hl 1 rfl) ?_
  refine k_pV [.int a1] (rest := []) ⟨hx, hb, hml, hown, hts⟩ (c_X0_numberOf l D cB cJ _ x n kn ch f (hP.sub [0, 1] rfl) a1) (cwV 1 hts gX0_placeOf_X0_numberOf rfl rfl rfl (by decide +kernel) ⟨(Nat.le_of_ble_eq_true rfl), (Nat.le_of_ble_eq_true rfl)⟩) (va_recv hK hP (ci := 2) (q0 := 0) rfl rfl) hE hS rfl rfl hl.1 (Nat.le_of_ble_eq_true rfl) dX0_placeOf_2 ⟨(Nat.le_of_ble_eq_true rfl), (Nat.le_of_ble_eq_true rfl)⟩ (fun locs hS => ?_)
  refine W.eq (g2 := F0 m 5 ls [.long (j_X0_numberOf kn ch f a1)]) rfl ?_
  refine lv_lstore_n (lv' := [(2, .long (j_X0_numberOf kn ch f a1)), (0, .ref x), (1, .int a1)]) hx hb dX0_placeOf_5 rfl hl (by decide) rfl (fun ls hl => ?_)
  refine lv_iconst (v := 0) hx hb dX0_placeOf_6 (by decide) ?_
  refine lv_istore (lv' := [(4, .int 0), (2, .long (j_X0_numberOf kn ch f a1)), (0, .ref x), (1, .int a1)]) hx hb dX0_placeOf_7 hl (by decide) rfl (fun ls hl => ?_)
  refine lv_iconst (v := 0) hx hb dX0_placeOf_9 (by decide) ?_
  refine lv_istore (lv' := [(5, .int 0), (4, .int 0), (2, .long (j_X0_numberOf kn ch f a1)), (0, .ref x), (1, .int a1)]) hx hb dX0_placeOf_10 hl (by decide) rfl (fun ls hl => ?_)
  refine lp_X0_placeOf_12 x n kn ch f a1 (j_X0_numberOf kn ch f a1) (j_X0_placeOf kn ch f a1) hx hb hml hr hlocks hown hts hE hP (fun (v_1 : Int32) (v_2 : Int32) => v_1) (fun (v_1 : Int32) (v_2 : Int32) => True) (fun v_1 v_2 locs ls hJ hT hS hl => ?_) 100 0 0 _ _ hJ hT hS (lv_sub hl [3, 4, 2, 1, 0] rfl)
  (try dsimp only at hJ); (try dsimp only at hT)
  refine lv_iload hx hb dX0_placeOf_56 (lv_at hl 3 rfl) ?_
  exact k_iret hx hb hr hlocks hS dX0_placeOf_58 ⟨by rw [hJ], rfl⟩
theorem jtk_X0_placeOf_12 (kn ch : Int32) (f : Nat → Int64) (a1 : Int32) (w2 : Int64) (t9 : Int32 → Int32 → Prop) (h9 : ∀ (v4 : Int32) (v5 : Int32), t9 v4 v5) : ∀ (n k : Nat) (v4 : Int32) (v5 : Int32), v5 = nI k → k ≤ 8 → 8 < n + k → jt_X0_placeOf_12 kn ch f a1 w2 t9 n v4 v5 := by
  intro n
  induction n with
  | zero => intro k v4 v5 e h1 h2; exact absurd h2 (by omega)
  | succ n ih =>
    intro k v4 v5 e h1 h2
    subst e
    rw [jt_X0_placeOf_12]
    rcases Nat.lt_or_ge k 8 with hk | hk
    · repeat' (first | with_reducible exact trivial | with_reducible exact h9 _ _ | with_reducible exact nI_pos (by omega) | with_reducible exact ih (k + 1) _ _ (nI_1 k) (by omega) (by omega) | with_reducible refine ⟨?_, ?_⟩ | (with_reducible intro _))
    · obtain rfl : k = 8 := by omega
      repeat' (first | with_reducible exact trivial | with_reducible exact h9 _ _ | with_reducible exact nI_pos (by omega) | with_reducible refine ⟨?_, ?_⟩ | (with_reducible intro hc; exact absurd (by decide) hc) | (with_reducible intro _))
theorem tk_X0_placeOf (kn ch : Int32) (f : Nat → Int64) (a1 : Int32) : T_X0_placeOf kn ch f a1 := jtk_X0_placeOf_12 kn ch f a1 _ _ (fun _ _ => by repeat' (first | with_reducible exact trivial | with_reducible refine ⟨?_, ?_⟩ | (with_reducible intro _))) 100 0 _ _ nI_0.symm (by omega) (by omega)
abbrev rm_X0_isUnlikeEarlier : Room := { frames := 1, cells := 0, slots := 0, locals := 21 }
def jl_X0_isUnlikeEarlier_2 (kn ch : Int32) (f : Nat → Int64) (a1 : Int32)  (k9 : Int32 → Int32) : Nat → Int32 → Int32
  | 0, _ => 0
  | u9 + 1, v2 => (if a1 ≤ v2 then (k9 v2) else (if (j_X0_numberOf kn ch f v2) = (j_X0_numberOf kn ch f a1) then 0 else (jl_X0_isUnlikeEarlier_2 kn ch f a1  k9 u9 (v2 + 1))))
def jt_X0_isUnlikeEarlier_2 (kn ch : Int32) (f : Nat → Int64) (a1 : Int32)  (t9 : Int32 → Prop) : Nat → Int32 → Prop
  | 0, _ => False
  | u9 + 1, v2 => ((a1 ≤ v2 → (t9 v2)) ∧ (¬ (a1 ≤ v2) → (((j_X0_numberOf kn ch f v2) = (j_X0_numberOf kn ch f a1) → True) ∧ (¬ ((j_X0_numberOf kn ch f v2) = (j_X0_numberOf kn ch f a1)) → (jt_X0_isUnlikeEarlier_2 kn ch f a1  t9 u9 (v2 + 1))))))
set_option maxHeartbeats 4000000 in
set_option maxRecDepth 100000 in
theorem lp_X0_isUnlikeEarlier_2 {p : Program} {l : Launch} {e : Env} {s : State} {m : MethodId} {args : Array Value} {below : List Frame} {meth : Method} {c : Code} {D : va_G} {cB cJ : ClassId} (x n : Nat) (kn ch : Int32) (f : Nat → Int64) (a1 : Int32)  (J : Int32) (hx : p.tables.exec = Jvm.exec) (hb : c.code = cX0_isUnlikeEarlier) (hml : c.maxLocals = 3) (hr : meth.sig.returnType = (some .boolean)) (hlocks : meth.locks = false) (hown : s.vm.findClass RX0 = some m.cls) (hts : ∀ w ∈ wsX0_isUnlikeEarlier, w.before args s = true) (hE : kE D cB cJ kF s s.heap) (hP : va_P D vwCl (wC x n cJ kn ch f) s.heap) (k9 : Int32 → Int32) (t9 : Int32 → Prop) (kk : ∀ (v2 : Int32) (locs : List Loc) (ls : Array Slot), J = k9 v2 → t9 v2 → va_S kF s.heap s.heap locs → lv_has ls 3 [(0, .ref x), (1, .int a1), (2, .int v2)] → W p l e rm_X0_isUnlikeEarlier s m args below meth c s.heap locs 0 0 (MQ below (kQ (kP (some (.int J)) s.heap) kF) args s 0 0 kF) (F0 m 29 ls [])) : ∀ (u9 : Nat) (v2 : Int32) (locs : List Loc) (ls : Array Slot), J = jl_X0_isUnlikeEarlier_2 kn ch f a1  k9 u9 v2 → jt_X0_isUnlikeEarlier_2 kn ch f a1  t9 u9 v2 → va_S kF s.heap s.heap locs → lv_has ls 3 [(0, .ref x), (1, .int a1), (2, .int v2)] → W p l e rm_X0_isUnlikeEarlier s m args below meth c s.heap locs 0 0 (MQ below (kQ (kP (some (.int J)) s.heap) kF) args s 0 0 kF) (F0 m 2 ls []) := by
  have hK := hE.1
  intro u9
  induction u9 with
  | zero =>
    intro v2 locs ls hJ hT
    exact hT.elim
  | succ u9 ih =>
    intro v2 locs ls hJ hT hS hl
    rw [jl_X0_isUnlikeEarlier_2] at hJ
    rw [jt_X0_isUnlikeEarlier_2] at hT
    refine lv_iload_n hx hb dX0_isUnlikeEarlier_2 rfl (lv_at hl 2 rfl) ?_
    refine lv_iload_n hx hb dX0_isUnlikeEarlier_3 rfl (lv_at hl 1 rfl) ?_
    refine lv_icmp_ge (tgt := 29) hx hb dX0_isUnlikeEarlier_4 (by decide) (fun c_1001 => ?_) (fun c_1001 => ?_)
    · exact kk v2 _ _ (hJ.trans (by rw [if_pos c_1001])) (hT.1 c_1001) hS (lv_sub hl [0, 1, 2] rfl)
    · refine lv_aload_n hx hb dX0_isUnlikeEarlier_7 rfl (lv_at hl 0 rfl) ?_
      refine lv_iload_n hx hb dX0_isUnlikeEarlier_8 rfl (lv_at hl 2 rfl) ?_
      refine k_pV [.int v2] (rest := []) ⟨hx, hb, hml, hown, hts⟩ (c_X0_numberOf l D cB cJ _ x n kn ch f (hP.sub [0, 1] rfl) v2) (cwV 1 hts gX0_isUnlikeEarlier_X0_numberOf rfl rfl rfl (by decide +kernel) ⟨(Nat.le_of_ble_eq_true rfl), (Nat.le_of_ble_eq_true rfl)⟩) (va_recv hK hP (ci := 2) (q0 := 0) rfl rfl) hE hS rfl rfl hl.1 (Nat.le_of_ble_eq_true rfl) dX0_isUnlikeEarlier_9 ⟨(Nat.le_of_ble_eq_true rfl), (Nat.le_of_ble_eq_true rfl)⟩ (fun locs hS => ?_)
      refine W.eq (g2 := F0 m 12 ls [.long (j_X0_numberOf kn ch f v2)]) rfl ?_
      refine lv_aload_n hx hb dX0_isUnlikeEarlier_12 rfl (lv_at hl 0 rfl) ?_
      refine lv_iload_n hx hb dX0_isUnlikeEarlier_13 rfl (lv_at hl 1 rfl) ?_
      refine k_pV [.int a1] (rest := [.long (j_X0_numberOf kn ch f v2)]) ⟨hx, hb, hml, hown, hts⟩ (c_X0_numberOf l D cB cJ _ x n kn ch f (hP.sub [0, 1] rfl) a1) (cwV 1 hts gX0_isUnlikeEarlier_X0_numberOf rfl rfl rfl (by decide +kernel) ⟨(Nat.le_of_ble_eq_true rfl), (Nat.le_of_ble_eq_true rfl)⟩) (va_recv hK hP (ci := 2) (q0 := 0) rfl rfl) hE hS rfl rfl hl.1 (Nat.le_of_ble_eq_true rfl) dX0_isUnlikeEarlier_14 ⟨(Nat.le_of_ble_eq_true rfl), (Nat.le_of_ble_eq_true rfl)⟩ (fun locs hS => ?_)
      refine W.eq (g2 := F0 m 17 ls [.long (j_X0_numberOf kn ch f a1), .long (j_X0_numberOf kn ch f v2)]) rfl ?_
      refine kl_ne (tgt := 23) hx hb dX0_isUnlikeEarlier_17 dX0_isUnlikeEarlier_18 (by decide) (fun c_1002 => ?_) (fun c_1002 => ?_)
      · refine lv_iinc (v := (v2 + 1)) (lv' := [(2, .int (v2 + 1)), (0, .ref x), (1, .int a1)]) hx hb dX0_isUnlikeEarlier_23 hl (k := 2) rfl rfl (by decide) rfl (fun ls hl => ?_)
        refine lv_goto (tgt := 2) hx hb dX0_isUnlikeEarlier_26 (by decide) ?_
        exact ih (v2 + 1) _ _ (hJ.trans (by rw [if_neg c_1001, if_neg c_1002])) ((hT.2 c_1001).2 c_1002) hS (lv_sub hl [1, 2, 0] rfl)
      · refine lv_iconst (v := 0) hx hb dX0_isUnlikeEarlier_21 (by decide) ?_
        exact k_zret hx hb hr (Or.inl rfl) hlocks hS dX0_isUnlikeEarlier_22 ⟨by rw [hJ, if_neg c_1001, if_pos c_1002], rfl⟩
def j_X0_isUnlikeEarlier (kn ch : Int32) (f : Nat → Int64) (a1 : Int32) : Int32 := (jl_X0_isUnlikeEarlier_2 kn ch f a1  (fun (v_1 : Int32) => 1) 100 0)
def T_X0_isUnlikeEarlier (kn ch : Int32) (f : Nat → Int64) (a1 : Int32) : Prop := (jt_X0_isUnlikeEarlier_2 kn ch f a1  (fun (v_1 : Int32) => True) 100 0)
set_option maxHeartbeats 4000000 in
set_option maxRecDepth 100000 in
theorem c_X0_isUnlikeEarlier (l : Launch) (D : va_G) (cB cJ : ClassId) (Hp : Heap) (x n : Nat) (kn ch : Int32) (f : Nat → Int64) (hP : va_P D vwCl (wC x n cJ kn ch f) Hp) (a1 : Int32) (hT9 : T_X0_isUnlikeEarlier kn ch f a1) : kM l D cB cJ yX0_isUnlikeEarlier wsX0_isUnlikeEarlier rm_X0_isUnlikeEarlier kF Hp [.ref x, .int a1] (kP (some (.int (j_X0_isUnlikeEarlier kn ch f a1))) Hp) 0 0 := by
  refine Met.ofW (cc := cX0_isUnlikeEarlier) (maxL := 3) (ret := (some .boolean)) (by decide) rfl ?_
  intro p e s m args below meth c s₁ B hml hv
  obtain ⟨rfl, hHp, hE⟩ := hv
  subst hHp
  have hx := B.exec
  have hb := B.bytes
  have hr := B.returns
  have hts := atoms_spec (ws := wsX0_isUnlikeEarlier) B.pre
  have hown : s.vm.findClass RX0 = some m.cls := findClass_of_methodNamed B.named
  have hlocks := B.notSynchronized
  have hK := hE.1
  have hS : va_S kF s.heap s.heap [] := va_S.rf
  have hl := lv_entry ([.ref x, .int a1]) (n := 3) (Nat.le_of_ble_eq_true rfl)
  rw [lg_entry_eq]
  generalize (lg_sl ([.ref x, .int a1]) ++ List.replicate (3 - (lg_sl ([.ref x, .int a1])).length) Slot.unset).toArray = ls at hl ⊢
  have hl : lv_has ls 3 [(0, .ref x), (1, .int a1)] := hl
  have hJ : (j_X0_isUnlikeEarlier kn ch f a1) = (jl_X0_isUnlikeEarlier_2 kn ch f a1  (fun (v_1 : Int32) => 1) 100 0) := rfl
  have hT : (jt_X0_isUnlikeEarlier_2 kn ch f a1  (fun (v_1 : Int32) => True) 100 0) := hT9
  refine lv_iconst (v := 0) hx hb dX0_isUnlikeEarlier_0 (by decide) ?_
  refine lv_istore_n (lv' := [(2, .int 0), (0, .ref x), (1, .int a1)]) hx hb dX0_isUnlikeEarlier_1 rfl hl (by decide) rfl (fun ls hl => ?_)
  refine lp_X0_isUnlikeEarlier_2 x n kn ch f a1  (j_X0_isUnlikeEarlier kn ch f a1) hx hb hml hr hlocks hown hts hE hP (fun (v_1 : Int32) => 1) (fun (v_1 : Int32) => True) (fun v_1 locs ls hJ hT hS hl => ?_) 100 0 _ _ hJ hT hS (lv_sub hl [1, 2, 0] rfl)
  (try dsimp only at hJ); (try dsimp only at hT)
  refine lv_iconst (v := 1) hx hb dX0_isUnlikeEarlier_29 (by decide) ?_
  exact k_zret hx hb hr (Or.inr rfl) hlocks hS dX0_isUnlikeEarlier_30 ⟨by rw [hJ], rfl⟩
theorem jtk_X0_isUnlikeEarlier_2 (kn ch : Int32) (f : Nat → Int64) (a1 : Int32)  (t9 : Int32 → Prop) (h9 : ∀ (v2 : Int32), t9 v2) (b : Nat) (hb9 : b < 1000) (eb : a1 = nI b) : ∀ (n k : Nat) (v2 : Int32), v2 = nI k → k ≤ b → b < n + k → jt_X0_isUnlikeEarlier_2 kn ch f a1  t9 n v2 := by
  subst eb
  intro n
  induction n with
  | zero => intro k v2 e h1 h2; exact absurd h2 (by omega)
  | succ n ih =>
    intro k v2 e h1 h2
    subst e
    rw [jt_X0_isUnlikeEarlier_2]
    rcases Nat.lt_or_ge k b with hk | hk
    · repeat' (first | with_reducible exact trivial | with_reducible exact h9 _ | with_reducible exact nI_pos (by omega) | with_reducible exact ih (k + 1) _ (nI_1 k) (by omega) (by omega) | with_reducible refine ⟨?_, ?_⟩ | (with_reducible intro _))
    · obtain rfl : k = b := by omega
      repeat' (first | with_reducible exact trivial | with_reducible exact h9 _ | with_reducible exact nI_pos (by omega) | with_reducible refine ⟨?_, ?_⟩ | (with_reducible intro hc; exact absurd (nI_le (Nat.le_refl _) (by omega)) hc) | (with_reducible intro _))
theorem tk_X0_isUnlikeEarlier (kn ch : Int32) (f : Nat → Int64) (a1 : Int32) (b : Nat) (e : a1 = nI b) (hb : b ≤ 8) : T_X0_isUnlikeEarlier kn ch f a1 := jtk_X0_isUnlikeEarlier_2 _ _ _ _ _ (fun _ => trivial) b (by omega) e 100 0 _ nI_0.symm (by omega) (by omega)
abbrev rm_X0_clockAtPlace : Room := { frames := 2, cells := 0, slots := 0, locals := 48 }
def jl_X0_clockAtPlace_2 (kn ch : Int32) (f : Nat → Int64) (a1 : Int32)  (k9 : Int32 → Int32) : Nat → Int32 → Int32
  | 0, _ => 0
  | u9 + 1, v2 => (if 8 ≤ v2 then (k9 v2) else (if (j_X0_placeOf kn ch f v2) = a1 then v2 else (jl_X0_clockAtPlace_2 kn ch f a1  k9 u9 (v2 + 1))))
def jt_X0_clockAtPlace_2 (kn ch : Int32) (f : Nat → Int64) (a1 : Int32)  (t9 : Int32 → Prop) : Nat → Int32 → Prop
  | 0, _ => False
  | u9 + 1, v2 => ((8 ≤ v2 → (t9 v2)) ∧ (¬ (8 ≤ v2) → (((j_X0_placeOf kn ch f v2) = a1 → True) ∧ (¬ ((j_X0_placeOf kn ch f v2) = a1) → (jt_X0_clockAtPlace_2 kn ch f a1  t9 u9 (v2 + 1))))))
set_option maxHeartbeats 4000000 in
set_option maxRecDepth 100000 in
theorem lp_X0_clockAtPlace_2 {p : Program} {l : Launch} {e : Env} {s : State} {m : MethodId} {args : Array Value} {below : List Frame} {meth : Method} {c : Code} {D : va_G} {cB cJ : ClassId} (x n : Nat) (kn ch : Int32) (f : Nat → Int64) (a1 : Int32)  (J : Int32) (hx : p.tables.exec = Jvm.exec) (hb : c.code = cX0_clockAtPlace) (hml : c.maxLocals = 3) (hr : meth.sig.returnType = (some .int)) (hlocks : meth.locks = false) (hown : s.vm.findClass RX0 = some m.cls) (hts : ∀ w ∈ wsX0_clockAtPlace, w.before args s = true) (hE : kE D cB cJ kF s s.heap) (hP : va_P D vwCl (wC x n cJ kn ch f) s.heap) (k9 : Int32 → Int32) (t9 : Int32 → Prop) (kk : ∀ (v2 : Int32) (locs : List Loc) (ls : Array Slot), J = k9 v2 → t9 v2 → va_S kF s.heap s.heap locs → lv_has ls 3 [(0, .ref x), (1, .int a1), (2, .int v2)] → W p l e rm_X0_clockAtPlace s m args below meth c s.heap locs 0 0 (MQ below (kQ (kP (some (.int J)) s.heap) kF) args s 0 0 kF) (F0 m 25 ls [])) : ∀ (u9 : Nat) (v2 : Int32) (locs : List Loc) (ls : Array Slot), J = jl_X0_clockAtPlace_2 kn ch f a1  k9 u9 v2 → jt_X0_clockAtPlace_2 kn ch f a1  t9 u9 v2 → va_S kF s.heap s.heap locs → lv_has ls 3 [(0, .ref x), (1, .int a1), (2, .int v2)] → W p l e rm_X0_clockAtPlace s m args below meth c s.heap locs 0 0 (MQ below (kQ (kP (some (.int J)) s.heap) kF) args s 0 0 kF) (F0 m 2 ls []) := by
  have hK := hE.1
  intro u9
  induction u9 with
  | zero =>
    intro v2 locs ls hJ hT
    exact hT.elim
  | succ u9 ih =>
    intro v2 locs ls hJ hT hS hl
    rw [jl_X0_clockAtPlace_2] at hJ
    rw [jt_X0_clockAtPlace_2] at hT
    refine lv_iload_n hx hb dX0_clockAtPlace_2 rfl (lv_at hl 2 rfl) ?_
    refine lv_bipush (v := 8) hx hb dX0_clockAtPlace_3 (by decide) ?_
    refine lv_icmp_ge (tgt := 25) hx hb dX0_clockAtPlace_5 (by decide) (fun c_1001 => ?_) (fun c_1001 => ?_)
    · exact kk v2 _ _ (hJ.trans (by rw [if_pos c_1001])) (hT.1 c_1001) hS (lv_sub hl [0, 1, 2] rfl)
    · refine lv_aload_n hx hb dX0_clockAtPlace_8 rfl (lv_at hl 0 rfl) ?_
      refine lv_iload_n hx hb dX0_clockAtPlace_9 rfl (lv_at hl 2 rfl) ?_
      refine k_pV [.int v2] (rest := []) ⟨hx, hb, hml, hown, hts⟩ (c_X0_placeOf l D cB cJ _ x n kn ch f (hP.sub [0, 1] rfl) v2 (tk_X0_placeOf kn ch f v2)) (cwV 1 hts gX0_clockAtPlace_X0_placeOf rfl rfl rfl (by decide +kernel) ⟨(Nat.le_of_ble_eq_true rfl), (Nat.le_of_ble_eq_true rfl)⟩) (va_recv hK hP (ci := 2) (q0 := 0) rfl rfl) hE hS rfl rfl hl.1 (Nat.le_of_ble_eq_true rfl) dX0_clockAtPlace_10 ⟨(Nat.le_of_ble_eq_true rfl), (Nat.le_of_ble_eq_true rfl)⟩ (fun locs hS => ?_)
      refine W.eq (g2 := F0 m 13 ls [.int (j_X0_placeOf kn ch f v2)]) rfl ?_
      refine lv_iload_n hx hb dX0_clockAtPlace_13 rfl (lv_at hl 1 rfl) ?_
      refine lv_icmp_ne (tgt := 19) hx hb dX0_clockAtPlace_14 (by decide) (fun c_1002 => ?_) (fun c_1002 => ?_)
      · refine lv_iinc (v := (v2 + 1)) (lv' := [(2, .int (v2 + 1)), (0, .ref x), (1, .int a1)]) hx hb dX0_clockAtPlace_19 hl (k := 2) rfl rfl (by decide) rfl (fun ls hl => ?_)
        refine lv_goto (tgt := 2) hx hb dX0_clockAtPlace_22 (by decide) ?_
        exact ih (v2 + 1) _ _ (hJ.trans (by rw [if_neg c_1001, if_neg c_1002])) ((hT.2 c_1001).2 c_1002) hS (lv_sub hl [1, 2, 0] rfl)
      · refine lv_iload_n hx hb dX0_clockAtPlace_17 rfl (lv_at hl 2 rfl) ?_
        exact k_iret hx hb hr hlocks hS dX0_clockAtPlace_18 ⟨by rw [hJ, if_neg c_1001, if_pos c_1002], rfl⟩
def j_X0_clockAtPlace (kn ch : Int32) (f : Nat → Int64) (a1 : Int32) : Int32 := (jl_X0_clockAtPlace_2 kn ch f a1  (fun (v_1 : Int32) => 0) 100 0)
def T_X0_clockAtPlace (kn ch : Int32) (f : Nat → Int64) (a1 : Int32) : Prop := (jt_X0_clockAtPlace_2 kn ch f a1  (fun (v_1 : Int32) => True) 100 0)
set_option maxHeartbeats 4000000 in
set_option maxRecDepth 100000 in
theorem c_X0_clockAtPlace (l : Launch) (D : va_G) (cB cJ : ClassId) (Hp : Heap) (x n : Nat) (kn ch : Int32) (f : Nat → Int64) (hP : va_P D vwCl (wC x n cJ kn ch f) Hp) (a1 : Int32) (hT9 : T_X0_clockAtPlace kn ch f a1) : kM l D cB cJ yX0_clockAtPlace wsX0_clockAtPlace rm_X0_clockAtPlace kF Hp [.ref x, .int a1] (kP (some (.int (j_X0_clockAtPlace kn ch f a1))) Hp) 0 0 := by
  refine Met.ofW (cc := cX0_clockAtPlace) (maxL := 3) (ret := (some .int)) (by decide) rfl ?_
  intro p e s m args below meth c s₁ B hml hv
  obtain ⟨rfl, hHp, hE⟩ := hv
  subst hHp
  have hx := B.exec
  have hb := B.bytes
  have hr := B.returns
  have hts := atoms_spec (ws := wsX0_clockAtPlace) B.pre
  have hown : s.vm.findClass RX0 = some m.cls := findClass_of_methodNamed B.named
  have hlocks := B.notSynchronized
  have hK := hE.1
  have hS : va_S kF s.heap s.heap [] := va_S.rf
  have hl := lv_entry ([.ref x, .int a1]) (n := 3) (Nat.le_of_ble_eq_true rfl)
  rw [lg_entry_eq]
  generalize (lg_sl ([.ref x, .int a1]) ++ List.replicate (3 - (lg_sl ([.ref x, .int a1])).length) Slot.unset).toArray = ls at hl ⊢
  have hl : lv_has ls 3 [(0, .ref x), (1, .int a1)] := hl
  have hJ : (j_X0_clockAtPlace kn ch f a1) = (jl_X0_clockAtPlace_2 kn ch f a1  (fun (v_1 : Int32) => 0) 100 0) := rfl
  have hT : (jt_X0_clockAtPlace_2 kn ch f a1  (fun (v_1 : Int32) => True) 100 0) := hT9
  refine lv_iconst (v := 0) hx hb dX0_clockAtPlace_0 (by decide) ?_
  refine lv_istore_n (lv' := [(2, .int 0), (0, .ref x), (1, .int a1)]) hx hb dX0_clockAtPlace_1 rfl hl (by decide) rfl (fun ls hl => ?_)
  refine lp_X0_clockAtPlace_2 x n kn ch f a1  (j_X0_clockAtPlace kn ch f a1) hx hb hml hr hlocks hown hts hE hP (fun (v_1 : Int32) => 0) (fun (v_1 : Int32) => True) (fun v_1 locs ls hJ hT hS hl => ?_) 100 0 _ _ hJ hT hS (lv_sub hl [1, 2, 0] rfl)
  (try dsimp only at hJ); (try dsimp only at hT)
  refine lv_iconst (v := 0) hx hb dX0_clockAtPlace_25 (by decide) ?_
  exact k_iret hx hb hr hlocks hS dX0_clockAtPlace_26 ⟨by rw [hJ], rfl⟩
theorem jtk_X0_clockAtPlace_2 (kn ch : Int32) (f : Nat → Int64) (a1 : Int32)  (t9 : Int32 → Prop) (h9 : ∀ (v2 : Int32), t9 v2) : ∀ (n k : Nat) (v2 : Int32), v2 = nI k → k ≤ 8 → 8 < n + k → jt_X0_clockAtPlace_2 kn ch f a1  t9 n v2 := by
  intro n
  induction n with
  | zero => intro k v2 e h1 h2; exact absurd h2 (by omega)
  | succ n ih =>
    intro k v2 e h1 h2
    subst e
    rw [jt_X0_clockAtPlace_2]
    rcases Nat.lt_or_ge k 8 with hk | hk
    · repeat' (first | with_reducible exact trivial | with_reducible exact h9 _ | with_reducible exact nI_pos (by omega) | with_reducible exact ih (k + 1) _ (nI_1 k) (by omega) (by omega) | with_reducible refine ⟨?_, ?_⟩ | (with_reducible intro _))
    · obtain rfl : k = 8 := by omega
      repeat' (first | with_reducible exact trivial | with_reducible exact h9 _ | with_reducible exact nI_pos (by omega) | with_reducible refine ⟨?_, ?_⟩ | (with_reducible intro hc; exact absurd (by decide) hc) | (with_reducible intro _))
theorem tk_X0_clockAtPlace (kn ch : Int32) (f : Nat → Int64) (a1 : Int32) : T_X0_clockAtPlace kn ch f a1 := jtk_X0_clockAtPlace_2 kn ch f a1  _ (fun _ => by repeat' (first | with_reducible exact trivial | with_reducible refine ⟨?_, ?_⟩ | (with_reducible intro _))) 100 0 _ nI_0.symm (by omega) (by omega)
abbrev rm_X0_kinds : Room := { frames := 2, cells := 0, slots := 0, locals := 43 }
def jl_X0_kinds_4 (kn ch : Int32) (f : Nat → Int64)   (k9 : Int32 → Int32 → Int32) : Nat → Int32 → Int32 → Int32
  | 0, _, _ => 0
  | u9 + 1, v1, v2 => (if 8 ≤ v2 then (k9 v1 v2) else (if (j_X0_isUnlikeEarlier kn ch f v2) = 0 then (jl_X0_kinds_4 kn ch f   k9 u9 v1 (v2 + 1)) else (jl_X0_kinds_4 kn ch f   k9 u9 (v1 + 1) (v2 + 1))))
def jt_X0_kinds_4 (kn ch : Int32) (f : Nat → Int64)   (t9 : Int32 → Int32 → Prop) : Nat → Int32 → Int32 → Prop
  | 0, _, _ => False
  | u9 + 1, v1, v2 => ((8 ≤ v2 → (t9 v1 v2)) ∧ (¬ (8 ≤ v2) → (T_X0_isUnlikeEarlier kn ch f v2 ∧ (((j_X0_isUnlikeEarlier kn ch f v2) = 0 → (jt_X0_kinds_4 kn ch f   t9 u9 v1 (v2 + 1))) ∧ (¬ ((j_X0_isUnlikeEarlier kn ch f v2) = 0) → (jt_X0_kinds_4 kn ch f   t9 u9 (v1 + 1) (v2 + 1)))))))
set_option maxHeartbeats 4000000 in
set_option maxRecDepth 100000 in
theorem lp_X0_kinds_4 {p : Program} {l : Launch} {e : Env} {s : State} {m : MethodId} {args : Array Value} {below : List Frame} {meth : Method} {c : Code} {D : va_G} {cB cJ : ClassId} (x n : Nat) (kn ch : Int32) (f : Nat → Int64)   (J : Int32) (hx : p.tables.exec = Jvm.exec) (hb : c.code = cX0_kinds) (hml : c.maxLocals = 3) (hr : meth.sig.returnType = (some .int)) (hlocks : meth.locks = false) (hown : s.vm.findClass RX0 = some m.cls) (hts : ∀ w ∈ wsX0_kinds, w.before args s = true) (hE : kE D cB cJ kF s s.heap) (hP : va_P D vwCl (wC x n cJ kn ch f) s.heap) (k9 : Int32 → Int32 → Int32) (t9 : Int32 → Int32 → Prop) (kk : ∀ (v1 : Int32) (v2 : Int32) (locs : List Loc) (ls : Array Slot), J = k9 v1 v2 → t9 v1 v2 → va_S kF s.heap s.heap locs → lv_has ls 3 [(0, .ref x), (1, .int v1), (2, .int v2)] → W p l e rm_X0_kinds s m args below meth c s.heap locs 0 0 (MQ below (kQ (kP (some (.int J)) s.heap) kF) args s 0 0 kF) (F0 m 27 ls [])) : ∀ (u9 : Nat) (v1 : Int32) (v2 : Int32) (locs : List Loc) (ls : Array Slot), J = jl_X0_kinds_4 kn ch f   k9 u9 v1 v2 → jt_X0_kinds_4 kn ch f   t9 u9 v1 v2 → va_S kF s.heap s.heap locs → lv_has ls 3 [(0, .ref x), (1, .int v1), (2, .int v2)] → W p l e rm_X0_kinds s m args below meth c s.heap locs 0 0 (MQ below (kQ (kP (some (.int J)) s.heap) kF) args s 0 0 kF) (F0 m 4 ls []) := by
  have hK := hE.1
  intro u9
  induction u9 with
  | zero =>
    intro v1 v2 locs ls hJ hT
    exact hT.elim
  | succ u9 ih =>
    intro v1 v2 locs ls hJ hT hS hl
    rw [jl_X0_kinds_4] at hJ
    rw [jt_X0_kinds_4] at hT
    refine lv_iload_n hx hb dX0_kinds_4 rfl (lv_at hl 2 rfl) ?_
    refine lv_bipush (v := 8) hx hb dX0_kinds_5 (by decide) ?_
    refine lv_icmp_ge (tgt := 27) hx hb dX0_kinds_7 (by decide) (fun c_1001 => ?_) (fun c_1001 => ?_)
    · exact kk v1 v2 _ _ (hJ.trans (by rw [if_pos c_1001])) (hT.1 c_1001) hS (lv_sub hl [0, 1, 2] rfl)
    · refine lv_aload_n hx hb dX0_kinds_10 rfl (lv_at hl 0 rfl) ?_
      refine lv_iload_n hx hb dX0_kinds_11 rfl (lv_at hl 2 rfl) ?_
      refine k_pV [.int v2] (rest := []) ⟨hx, hb, hml, hown, hts⟩ (c_X0_isUnlikeEarlier l D cB cJ _ x n kn ch f (hP.sub [0, 1] rfl) v2 (hT.2 c_1001).1) (cwV 1 hts gX0_kinds_X0_isUnlikeEarlier rfl rfl rfl (by decide +kernel) ⟨(Nat.le_of_ble_eq_true rfl), (Nat.le_of_ble_eq_true rfl)⟩) (va_recv hK hP (ci := 2) (q0 := 0) rfl rfl) hE hS rfl rfl hl.1 (Nat.le_of_ble_eq_true rfl) dX0_kinds_12 ⟨(Nat.le_of_ble_eq_true rfl), (Nat.le_of_ble_eq_true rfl)⟩ (fun locs hS => ?_)
      refine W.eq (g2 := F0 m 15 ls [.int (j_X0_isUnlikeEarlier kn ch f v2)]) rfl ?_
      refine lv_if_eq (tgt := 21) hx hb dX0_kinds_15 (by decide) (fun c_1002 => ?_) (fun c_1002 => ?_)
      · refine lv_iinc (v := (v2 + 1)) (lv' := [(2, .int (v2 + 1)), (0, .ref x), (1, .int v1)]) hx hb dX0_kinds_21 hl (k := 2) rfl rfl (by decide) rfl (fun ls hl => ?_)
        refine lv_goto (tgt := 4) hx hb dX0_kinds_24 (by decide) ?_
        exact ih v1 (v2 + 1) _ _ (hJ.trans (by rw [if_neg c_1001, if_pos c_1002])) ((hT.2 c_1001).2.1 c_1002) hS (lv_sub hl [1, 2, 0] rfl)
      · refine lv_iinc (v := (v1 + 1)) (lv' := [(1, .int (v1 + 1)), (0, .ref x), (2, .int v2)]) hx hb dX0_kinds_18 hl (k := 1) rfl rfl (by decide) rfl (fun ls hl => ?_)
        refine lv_iinc (v := (v2 + 1)) (lv' := [(2, .int (v2 + 1)), (1, .int (v1 + 1)), (0, .ref x)]) hx hb dX0_kinds_21 hl (k := 2) rfl rfl (by decide) rfl (fun ls hl => ?_)
        refine lv_goto (tgt := 4) hx hb dX0_kinds_24 (by decide) ?_
        exact ih (v1 + 1) (v2 + 1) _ _ (hJ.trans (by rw [if_neg c_1001, if_neg c_1002])) ((hT.2 c_1001).2.2 c_1002) hS (lv_sub hl [2, 1, 0] rfl)
def j_X0_kinds (kn ch : Int32) (f : Nat → Int64)  : Int32 := (jl_X0_kinds_4 kn ch f   (fun (v_1 : Int32) (v_2 : Int32) => v_1) 100 0 0)
def T_X0_kinds (kn ch : Int32) (f : Nat → Int64)  : Prop := (jt_X0_kinds_4 kn ch f   (fun (v_1 : Int32) (v_2 : Int32) => True) 100 0 0)
set_option maxHeartbeats 4000000 in
set_option maxRecDepth 100000 in
theorem c_X0_kinds (l : Launch) (D : va_G) (cB cJ : ClassId) (Hp : Heap) (x n : Nat) (kn ch : Int32) (f : Nat → Int64) (hP : va_P D vwCl (wC x n cJ kn ch f) Hp)  (hT9 : T_X0_kinds kn ch f ) : kM l D cB cJ yX0_kinds wsX0_kinds rm_X0_kinds kF Hp [.ref x] (kP (some (.int (j_X0_kinds kn ch f ))) Hp) 0 0 := by
  refine Met.ofW (cc := cX0_kinds) (maxL := 3) (ret := (some .int)) (by decide) rfl ?_
  intro p e s m args below meth c s₁ B hml hv
  obtain ⟨rfl, hHp, hE⟩ := hv
  subst hHp
  have hx := B.exec
  have hb := B.bytes
  have hr := B.returns
  have hts := atoms_spec (ws := wsX0_kinds) B.pre
  have hown : s.vm.findClass RX0 = some m.cls := findClass_of_methodNamed B.named
  have hlocks := B.notSynchronized
  have hK := hE.1
  have hS : va_S kF s.heap s.heap [] := va_S.rf
  have hl := lv_entry ([.ref x]) (n := 3) (Nat.le_of_ble_eq_true rfl)
  rw [lg_entry_eq]
  generalize (lg_sl ([.ref x]) ++ List.replicate (3 - (lg_sl ([.ref x])).length) Slot.unset).toArray = ls at hl ⊢
  have hl : lv_has ls 3 [(0, .ref x)] := hl
  have hJ : (j_X0_kinds kn ch f ) = (jl_X0_kinds_4 kn ch f   (fun (v_1 : Int32) (v_2 : Int32) => v_1) 100 0 0) := rfl
  have hT : (jt_X0_kinds_4 kn ch f   (fun (v_1 : Int32) (v_2 : Int32) => True) 100 0 0) := hT9
  refine lv_iconst (v := 0) hx hb dX0_kinds_0 (by decide) ?_
  refine lv_istore_n (lv' := [(1, .int 0), (0, .ref x)]) hx hb dX0_kinds_1 rfl hl (by decide) rfl (fun ls hl => ?_)
  refine lv_iconst (v := 0) hx hb dX0_kinds_2 (by decide) ?_
  refine lv_istore_n (lv' := [(2, .int 0), (1, .int 0), (0, .ref x)]) hx hb dX0_kinds_3 rfl hl (by decide) rfl (fun ls hl => ?_)
  refine lp_X0_kinds_4 x n kn ch f   (j_X0_kinds kn ch f ) hx hb hml hr hlocks hown hts hE hP (fun (v_1 : Int32) (v_2 : Int32) => v_1) (fun (v_1 : Int32) (v_2 : Int32) => True) (fun v_1 v_2 locs ls hJ hT hS hl => ?_) 100 0 0 _ _ hJ hT hS (lv_sub hl [2, 1, 0] rfl)
  (try dsimp only at hJ); (try dsimp only at hT)
  refine lv_iload_n hx hb dX0_kinds_27 rfl (lv_at hl 1 rfl) ?_
  exact k_iret hx hb hr hlocks hS dX0_kinds_28 ⟨by rw [hJ], rfl⟩
theorem jtk_X0_kinds_4 (kn ch : Int32) (f : Nat → Int64)   (t9 : Int32 → Int32 → Prop) (h9 : ∀ (v1 : Int32) (v2 : Int32), t9 v1 v2) : ∀ (n k : Nat) (v1 : Int32) (v2 : Int32), v2 = nI k → k ≤ 8 → 8 < n + k → jt_X0_kinds_4 kn ch f   t9 n v1 v2 := by
  intro n
  induction n with
  | zero => intro k v1 v2 e h1 h2; exact absurd h2 (by omega)
  | succ n ih =>
    intro k v1 v2 e h1 h2
    subst e
    rw [jt_X0_kinds_4]
    rcases Nat.lt_or_ge k 8 with hk | hk
    · repeat' (first | with_reducible exact trivial | with_reducible exact h9 _ _ | with_reducible exact nI_pos (by omega) | with_reducible exact ih (k + 1) _ _ (nI_1 k) (by omega) (by omega) | with_reducible refine tk_X0_isUnlikeEarlier _ _ _ _ k rfl (by omega) | with_reducible refine ⟨?_, ?_⟩ | (with_reducible intro _))
    · obtain rfl : k = 8 := by omega
      repeat' (first | with_reducible exact trivial | with_reducible exact h9 _ _ | with_reducible exact nI_pos (by omega) | with_reducible refine ⟨?_, ?_⟩ | (with_reducible intro hc; exact absurd (by decide) hc) | (with_reducible intro _))
theorem tk_X0_kinds (kn ch : Int32) (f : Nat → Int64)  : T_X0_kinds kn ch f  := jtk_X0_kinds_4 kn ch f   _ (fun _ _ => by repeat' (first | with_reducible exact trivial | with_reducible refine ⟨?_, ?_⟩ | (with_reducible intro _))) 100 0 _ _ nI_0.symm (by omega) (by omega)
abbrev rm_X0_isSound : Room := { frames := 4, cells := 0, slots := 0, locals := 104 }
def jl_X0_isSound_40 (kn ch : Int32) (f : Nat → Int64)  (w1 : Int32) (w2 : Int64) (k9 : Int32 → Int32) : Nat → Int32 → Int32
  | 0, _ => 0
  | u9 + 1, v4 => (if 8 ≤ v4 then (k9 v4) else (if (j_X0_pairHolds w2 (j_X0_numberOf kn ch f v4)) = 0 then 0 else (jl_X0_isSound_40 kn ch f  w1 w2 k9 u9 (v4 + 1))))
def jt_X0_isSound_40 (kn ch : Int32) (f : Nat → Int64)  (w1 : Int32) (w2 : Int64) (t9 : Int32 → Prop) : Nat → Int32 → Prop
  | 0, _ => False
  | u9 + 1, v4 => ((8 ≤ v4 → (t9 v4)) ∧ (¬ (8 ≤ v4) → (((j_X0_pairHolds w2 (j_X0_numberOf kn ch f v4)) = 0 → True) ∧ (¬ ((j_X0_pairHolds w2 (j_X0_numberOf kn ch f v4)) = 0) → (jt_X0_isSound_40 kn ch f  w1 w2 t9 u9 (v4 + 1))))))
set_option maxHeartbeats 4000000 in
set_option maxRecDepth 100000 in
theorem lp_X0_isSound_40 {p : Program} {l : Launch} {e : Env} {s : State} {m : MethodId} {args : Array Value} {below : List Frame} {meth : Method} {c : Code} {D : va_G} {cB cJ : ClassId} (x n : Nat) (kn ch : Int32) (f : Nat → Int64)  (w1 : Int32) (w2 : Int64) (J : Int32) (hx : p.tables.exec = Jvm.exec) (hb : c.code = cX0_isSound) (hml : c.maxLocals = 5) (hr : meth.sig.returnType = (some .boolean)) (hlocks : meth.locks = false) (hown : s.vm.findClass RX0 = some m.cls) (hts : ∀ w ∈ wsX0_isSound, w.before args s = true) (hE : kE D cB cJ kF s s.heap) (hP : va_P D vwCl (wC x n cJ kn ch f) s.heap) (k9 : Int32 → Int32) (t9 : Int32 → Prop) (kk : ∀ (v4 : Int32) (locs : List Loc) (ls : Array Slot), J = k9 v4 → t9 v4 → va_S kF s.heap s.heap locs → lv_has ls 5 [(0, .ref x), (1, .int w1), (2, .long w2), (4, .int v4)] → W p l e rm_X0_isSound s m args below meth c s.heap locs 0 0 (MQ below (kQ (kP (some (.int J)) s.heap) kF) args s 0 0 kF) (F0 m 68 ls [])) : ∀ (u9 : Nat) (v4 : Int32) (locs : List Loc) (ls : Array Slot), J = jl_X0_isSound_40 kn ch f  w1 w2 k9 u9 v4 → jt_X0_isSound_40 kn ch f  w1 w2 t9 u9 v4 → va_S kF s.heap s.heap locs → lv_has ls 5 [(0, .ref x), (1, .int w1), (2, .long w2), (4, .int v4)] → W p l e rm_X0_isSound s m args below meth c s.heap locs 0 0 (MQ below (kQ (kP (some (.int J)) s.heap) kF) args s 0 0 kF) (F0 m 40 ls []) := by
  have hK := hE.1
  intro u9
  induction u9 with
  | zero =>
    intro v4 locs ls hJ hT
    exact hT.elim
  | succ u9 ih =>
    intro v4 locs ls hJ hT hS hl
    rw [jl_X0_isSound_40] at hJ
    rw [jt_X0_isSound_40] at hT
    refine lv_iload hx hb dX0_isSound_40 (lv_at hl 3 rfl) ?_
    refine lv_bipush (v := 8) hx hb dX0_isSound_42 (by decide) ?_
    refine lv_icmp_ge (tgt := 68) hx hb dX0_isSound_44 (by decide) (fun c_2005 => ?_) (fun c_2005 => ?_)
    · exact kk v4 _ _ (hJ.trans (by rw [if_pos c_2005])) (hT.1 c_2005) hS (lv_sub hl [0, 1, 2, 3] rfl)
    · refine lv_lload_n hx hb dX0_isSound_47 rfl (lv_at hl 2 rfl) ?_
      refine lv_aload_n hx hb dX0_isSound_48 rfl (lv_at hl 0 rfl) ?_
      refine lv_iload hx hb dX0_isSound_49 (lv_at hl 3 rfl) ?_
      refine k_pV [.int v4] (rest := [.long w2]) ⟨hx, hb, hml, hown, hts⟩ (c_X0_numberOf l D cB cJ _ x n kn ch f (hP.sub [0, 1] rfl) v4) (cwV 1 hts gX0_isSound_X0_numberOf rfl rfl rfl (by decide +kernel) ⟨(Nat.le_of_ble_eq_true rfl), (Nat.le_of_ble_eq_true rfl)⟩) (va_recv hK hP (ci := 2) (q0 := 0) rfl rfl) hE hS rfl rfl hl.1 (Nat.le_of_ble_eq_true rfl) dX0_isSound_51 ⟨(Nat.le_of_ble_eq_true rfl), (Nat.le_of_ble_eq_true rfl)⟩ (fun locs hS => ?_)
      refine W.eq (g2 := F0 m 54 ls [.long (j_X0_numberOf kn ch f v4), .long w2]) rfl ?_
      refine k_pS [.long w2, .long (j_X0_numberOf kn ch f v4)] (rest := []) ⟨hx, hb, hml, hown, hts⟩ (c_X0_pairHolds l D cB cJ _ w2 (j_X0_numberOf kn ch f v4) (tk_X0_pairHolds w2 (j_X0_numberOf kn ch f v4))) (va_cwS 2 hts gX0_isSound_X0_pairHolds rfl rfl rfl (by decide +kernel) ⟨(Nat.le_of_ble_eq_true rfl), (Nat.le_of_ble_eq_true rfl)⟩) hE hS rfl rfl hl.1 (Nat.le_of_ble_eq_true rfl) dX0_isSound_54 ⟨(Nat.le_of_ble_eq_true rfl), (Nat.le_of_ble_eq_true rfl)⟩ (fun locs hS => ?_)
      refine W.eq (g2 := F0 m 57 ls [.int (j_X0_pairHolds w2 (j_X0_numberOf kn ch f v4))]) rfl ?_
      refine lv_if_ne (tgt := 62) hx hb dX0_isSound_57 (by decide) (fun c_2006 => ?_) (fun c_2006 => ?_)
      · refine lv_iinc (v := (v4 + 1)) (lv' := [(4, .int (v4 + 1)), (0, .ref x), (1, .int w1), (2, .long w2)]) hx hb dX0_isSound_62 hl (k := 3) rfl rfl (by decide) rfl (fun ls hl => ?_)
        refine lv_goto (tgt := 40) hx hb dX0_isSound_65 (by decide) ?_
        exact ih (v4 + 1) _ _ (hJ.trans (by rw [if_neg c_2005, if_neg c_2006])) ((hT.2 c_2005).2 c_2006) hS (lv_sub hl [1, 2, 3, 0] rfl)
      · refine lv_iconst (v := 0) hx hb dX0_isSound_60 (by decide) ?_
        exact k_zret hx hb hr (Or.inl rfl) hlocks hS dX0_isSound_61 ⟨by rw [hJ, if_neg c_2005, if_pos c_2006], rfl⟩
def jl_X0_isSound_2 (kn ch : Int32) (f : Nat → Int64)   (k9 : Int32 → Int32) : Nat → Int32 → Int32
  | 0, _ => 0
  | u9 + 1, v1 => (if 8 ≤ v1 then (k9 v1) else (if (j_X0_partsBelong (j_X0_numberOf kn ch f v1)) = 0 then 0 else (if (j_X0_stepsHold (j_X0_numberOf kn ch f v1)) = 0 then 0 else (if (j_X0_cutsHold (j_X0_numberOf kn ch f v1)) = 0 then 0 else (jl_X0_isSound_40 kn ch f  v1 (j_X0_numberOf kn ch f v1) (fun (v_1005 : Int32) => (jl_X0_isSound_2 kn ch f   k9 u9 (v1 + 1))) 100 0)))))
def jt_X0_isSound_2 (kn ch : Int32) (f : Nat → Int64)   (t9 : Int32 → Prop) : Nat → Int32 → Prop
  | 0, _ => False
  | u9 + 1, v1 => ((8 ≤ v1 → (t9 v1)) ∧ (¬ (8 ≤ v1) → (((j_X0_partsBelong (j_X0_numberOf kn ch f v1)) = 0 → True) ∧ (¬ ((j_X0_partsBelong (j_X0_numberOf kn ch f v1)) = 0) → (((j_X0_stepsHold (j_X0_numberOf kn ch f v1)) = 0 → True) ∧ (¬ ((j_X0_stepsHold (j_X0_numberOf kn ch f v1)) = 0) → (((j_X0_cutsHold (j_X0_numberOf kn ch f v1)) = 0 → True) ∧ (¬ ((j_X0_cutsHold (j_X0_numberOf kn ch f v1)) = 0) → (jt_X0_isSound_40 kn ch f  v1 (j_X0_numberOf kn ch f v1) (fun (v_1005 : Int32) => (jt_X0_isSound_2 kn ch f   t9 u9 (v1 + 1))) 100 0)))))))))
set_option maxHeartbeats 4000000 in
set_option maxRecDepth 100000 in
theorem lp_X0_isSound_2 {p : Program} {l : Launch} {e : Env} {s : State} {m : MethodId} {args : Array Value} {below : List Frame} {meth : Method} {c : Code} {D : va_G} {cB cJ : ClassId} (x n : Nat) (kn ch : Int32) (f : Nat → Int64)   (J : Int32) (hx : p.tables.exec = Jvm.exec) (hb : c.code = cX0_isSound) (hml : c.maxLocals = 5) (hr : meth.sig.returnType = (some .boolean)) (hlocks : meth.locks = false) (hown : s.vm.findClass RX0 = some m.cls) (hts : ∀ w ∈ wsX0_isSound, w.before args s = true) (hE : kE D cB cJ kF s s.heap) (hP : va_P D vwCl (wC x n cJ kn ch f) s.heap) (k9 : Int32 → Int32) (t9 : Int32 → Prop) (kk : ∀ (v1 : Int32) (locs : List Loc) (ls : Array Slot), J = k9 v1 → t9 v1 → va_S kF s.heap s.heap locs → lv_has ls 5 [(0, .ref x), (1, .int v1)] → W p l e rm_X0_isSound s m args below meth c s.heap locs 0 0 (MQ below (kQ (kP (some (.int J)) s.heap) kF) args s 0 0 kF) (F0 m 74 ls [])) : ∀ (u9 : Nat) (v1 : Int32) (locs : List Loc) (ls : Array Slot), J = jl_X0_isSound_2 kn ch f   k9 u9 v1 → jt_X0_isSound_2 kn ch f   t9 u9 v1 → va_S kF s.heap s.heap locs → lv_has ls 5 [(0, .ref x), (1, .int v1)] → W p l e rm_X0_isSound s m args below meth c s.heap locs 0 0 (MQ below (kQ (kP (some (.int J)) s.heap) kF) args s 0 0 kF) (F0 m 2 ls []) := by
  have hK := hE.1
  intro u9
  induction u9 with
  | zero =>
    intro v1 locs ls hJ hT
    exact hT.elim
  | succ u9 ih =>
    intro v1 locs ls hJ hT hS hl
    rw [jl_X0_isSound_2] at hJ
    rw [jt_X0_isSound_2] at hT
    refine lv_iload_n hx hb dX0_isSound_2 rfl (lv_at hl 1 rfl) ?_
    refine lv_bipush (v := 8) hx hb dX0_isSound_3 (by decide) ?_
    refine lv_icmp_ge (tgt := 74) hx hb dX0_isSound_5 (by decide) (fun c_1001 => ?_) (fun c_1001 => ?_)
    · exact kk v1 _ _ (hJ.trans (by rw [if_pos c_1001])) (hT.1 c_1001) hS (lv_sub hl [0, 1] rfl)
    · refine lv_aload_n hx hb dX0_isSound_8 rfl (lv_at hl 0 rfl) ?_
      refine lv_iload_n hx hb dX0_isSound_9 rfl (lv_at hl 1 rfl) ?_
      refine k_pV [.int v1] (rest := []) ⟨hx, hb, hml, hown, hts⟩ (c_X0_numberOf l D cB cJ _ x n kn ch f (hP.sub [0, 1] rfl) v1) (cwV 1 hts gX0_isSound_X0_numberOf rfl rfl rfl (by decide +kernel) ⟨(Nat.le_of_ble_eq_true rfl), (Nat.le_of_ble_eq_true rfl)⟩) (va_recv hK hP (ci := 2) (q0 := 0) rfl rfl) hE hS rfl rfl hl.1 (Nat.le_of_ble_eq_true rfl) dX0_isSound_10 ⟨(Nat.le_of_ble_eq_true rfl), (Nat.le_of_ble_eq_true rfl)⟩ (fun locs hS => ?_)
      refine W.eq (g2 := F0 m 13 ls [.long (j_X0_numberOf kn ch f v1)]) rfl ?_
      refine lv_lstore_n (lv' := [(2, .long (j_X0_numberOf kn ch f v1)), (0, .ref x), (1, .int v1)]) hx hb dX0_isSound_13 rfl hl (by decide) rfl (fun ls hl => ?_)
      refine lv_lload_n hx hb dX0_isSound_14 rfl (lv_at hl 0 rfl) ?_
      refine k_pS [.long (j_X0_numberOf kn ch f v1)] (rest := []) ⟨hx, hb, hml, hown, hts⟩ (c_X0_partsBelong l D cB cJ _ (j_X0_numberOf kn ch f v1) (tk_X0_partsBelong (j_X0_numberOf kn ch f v1))) (va_cwS 1 hts gX0_isSound_X0_partsBelong rfl rfl rfl (by decide +kernel) ⟨(Nat.le_of_ble_eq_true rfl), (Nat.le_of_ble_eq_true rfl)⟩) hE hS rfl rfl hl.1 (Nat.le_of_ble_eq_true rfl) dX0_isSound_15 ⟨(Nat.le_of_ble_eq_true rfl), (Nat.le_of_ble_eq_true rfl)⟩ (fun locs hS => ?_)
      refine W.eq (g2 := F0 m 18 ls [.int (j_X0_partsBelong (j_X0_numberOf kn ch f v1))]) rfl ?_
      refine lv_if_eq (tgt := 35) hx hb dX0_isSound_18 (by decide) (fun c_1002 => ?_) (fun c_1002 => ?_)
      · refine lv_iconst (v := 0) hx hb dX0_isSound_35 (by decide) ?_
        exact k_zret hx hb hr (Or.inl rfl) hlocks hS dX0_isSound_36 ⟨by rw [hJ, if_neg c_1001, if_pos c_1002], rfl⟩
      · refine lv_lload_n hx hb dX0_isSound_21 rfl (lv_at hl 0 rfl) ?_
        refine k_pS [.long (j_X0_numberOf kn ch f v1)] (rest := []) ⟨hx, hb, hml, hown, hts⟩ (c_X0_stepsHold l D cB cJ _ (j_X0_numberOf kn ch f v1) (tk_X0_stepsHold (j_X0_numberOf kn ch f v1))) (va_cwS 1 hts gX0_isSound_X0_stepsHold rfl rfl rfl (by decide +kernel) ⟨(Nat.le_of_ble_eq_true rfl), (Nat.le_of_ble_eq_true rfl)⟩) hE hS rfl rfl hl.1 (Nat.le_of_ble_eq_true rfl) dX0_isSound_22 ⟨(Nat.le_of_ble_eq_true rfl), (Nat.le_of_ble_eq_true rfl)⟩ (fun locs hS => ?_)
        refine W.eq (g2 := F0 m 25 ls [.int (j_X0_stepsHold (j_X0_numberOf kn ch f v1))]) rfl ?_
        refine lv_if_eq (tgt := 35) hx hb dX0_isSound_25 (by decide) (fun c_1003 => ?_) (fun c_1003 => ?_)
        · refine lv_iconst (v := 0) hx hb dX0_isSound_35 (by decide) ?_
          exact k_zret hx hb hr (Or.inl rfl) hlocks hS dX0_isSound_36 ⟨by rw [hJ, if_neg c_1001, if_neg c_1002, if_pos c_1003], rfl⟩
        · refine lv_lload_n hx hb dX0_isSound_28 rfl (lv_at hl 0 rfl) ?_
          refine k_pS [.long (j_X0_numberOf kn ch f v1)] (rest := []) ⟨hx, hb, hml, hown, hts⟩ (c_X0_cutsHold l D cB cJ _ (j_X0_numberOf kn ch f v1) (tk_X0_cutsHold (j_X0_numberOf kn ch f v1))) (va_cwS 1 hts gX0_isSound_X0_cutsHold rfl rfl rfl (by decide +kernel) ⟨(Nat.le_of_ble_eq_true rfl), (Nat.le_of_ble_eq_true rfl)⟩) hE hS rfl rfl hl.1 (Nat.le_of_ble_eq_true rfl) dX0_isSound_29 ⟨(Nat.le_of_ble_eq_true rfl), (Nat.le_of_ble_eq_true rfl)⟩ (fun locs hS => ?_)
          refine W.eq (g2 := F0 m 32 ls [.int (j_X0_cutsHold (j_X0_numberOf kn ch f v1))]) rfl ?_
          refine lv_if_ne (tgt := 37) hx hb dX0_isSound_32 (by decide) (fun c_1004 => ?_) (fun c_1004 => ?_)
          · refine lv_iconst (v := 0) hx hb dX0_isSound_37 (by decide) ?_
            refine lv_istore (lv' := [(4, .int 0), (2, .long (j_X0_numberOf kn ch f v1)), (0, .ref x), (1, .int v1)]) hx hb dX0_isSound_38 hl (by decide) rfl (fun ls hl => ?_)
            refine lp_X0_isSound_40 x n kn ch f  v1 (j_X0_numberOf kn ch f v1) J hx hb hml hr hlocks hown hts hE hP (fun (v_1005 : Int32) => (jl_X0_isSound_2 kn ch f   k9 u9 (v1 + 1))) (fun (v_1005 : Int32) => (jt_X0_isSound_2 kn ch f   t9 u9 (v1 + 1))) (fun v_1005 locs ls hJ hT hS hl => ?_) 100 0 _ _ (hJ.trans (by rw [if_neg c_1001, if_neg c_1002, if_neg c_1003, if_neg c_1004])) ((((hT.2 c_1001).2 c_1002).2 c_1003).2 c_1004) hS (lv_sub hl [2, 3, 1, 0] rfl)
            (try dsimp only at hJ); (try dsimp only at hT)
            refine lv_iinc (v := (v1 + 1)) (lv' := [(1, .int (v1 + 1)), (0, .ref x), (2, .long (j_X0_numberOf kn ch f v1)), (4, .int v_1005)]) hx hb dX0_isSound_68 hl (k := 1) rfl rfl (by decide) rfl (fun ls hl => ?_)
            refine lv_goto (tgt := 2) hx hb dX0_isSound_71 (by decide) ?_
            exact ih (v1 + 1) _ _ hJ hT hS (lv_sub hl [1, 0] rfl)
          · refine lv_iconst (v := 0) hx hb dX0_isSound_35 (by decide) ?_
            exact k_zret hx hb hr (Or.inl rfl) hlocks hS dX0_isSound_36 ⟨by rw [hJ, if_neg c_1001, if_neg c_1002, if_neg c_1003, if_pos c_1004], rfl⟩
def j_X0_isSound (kn ch : Int32) (f : Nat → Int64)  : Int32 := (jl_X0_isSound_2 kn ch f   (fun (v_1 : Int32) => 1) 100 0)
def T_X0_isSound (kn ch : Int32) (f : Nat → Int64)  : Prop := (jt_X0_isSound_2 kn ch f   (fun (v_1 : Int32) => True) 100 0)
set_option maxHeartbeats 4000000 in
set_option maxRecDepth 100000 in
theorem c_X0_isSound (l : Launch) (D : va_G) (cB cJ : ClassId) (Hp : Heap) (x n : Nat) (kn ch : Int32) (f : Nat → Int64) (hP : va_P D vwCl (wC x n cJ kn ch f) Hp)  (hT9 : T_X0_isSound kn ch f ) : kM l D cB cJ yX0_isSound wsX0_isSound rm_X0_isSound kF Hp [.ref x] (kP (some (.int (j_X0_isSound kn ch f ))) Hp) 0 0 := by
  refine Met.ofW (cc := cX0_isSound) (maxL := 5) (ret := (some .boolean)) (by decide) rfl ?_
  intro p e s m args below meth c s₁ B hml hv
  obtain ⟨rfl, hHp, hE⟩ := hv
  subst hHp
  have hx := B.exec
  have hb := B.bytes
  have hr := B.returns
  have hts := atoms_spec (ws := wsX0_isSound) B.pre
  have hown : s.vm.findClass RX0 = some m.cls := findClass_of_methodNamed B.named
  have hlocks := B.notSynchronized
  have hK := hE.1
  have hS : va_S kF s.heap s.heap [] := va_S.rf
  have hl := lv_entry ([.ref x]) (n := 5) (Nat.le_of_ble_eq_true rfl)
  rw [lg_entry_eq]
  generalize (lg_sl ([.ref x]) ++ List.replicate (5 - (lg_sl ([.ref x])).length) Slot.unset).toArray = ls at hl ⊢
  have hl : lv_has ls 5 [(0, .ref x)] := hl
  have hJ : (j_X0_isSound kn ch f ) = (jl_X0_isSound_2 kn ch f   (fun (v_1 : Int32) => 1) 100 0) := rfl
  have hT : (jt_X0_isSound_2 kn ch f   (fun (v_1 : Int32) => True) 100 0) := hT9
  refine lv_iconst (v := 0) hx hb dX0_isSound_0 (by decide) ?_
  refine lv_istore_n (lv' := [(1, .int 0), (0, .ref x)]) hx hb dX0_isSound_1 rfl hl (by decide) rfl (fun ls hl => ?_)
  refine lp_X0_isSound_2 x n kn ch f   (j_X0_isSound kn ch f ) hx hb hml hr hlocks hown hts hE hP (fun (v_1 : Int32) => 1) (fun (v_1 : Int32) => True) (fun v_1 locs ls hJ hT hS hl => ?_) 100 0 _ _ hJ hT hS (lv_sub hl [1, 0] rfl)
  (try dsimp only at hJ); (try dsimp only at hT)
  refine lv_iconst (v := 1) hx hb dX0_isSound_74 (by decide) ?_
  exact k_zret hx hb hr (Or.inr rfl) hlocks hS dX0_isSound_75 ⟨by rw [hJ], rfl⟩
theorem jtk_X0_isSound_40 (kn ch : Int32) (f : Nat → Int64)  (w1 : Int32) (w2 : Int64) (t9 : Int32 → Prop) (h9 : ∀ (v4 : Int32), t9 v4) : ∀ (n k : Nat) (v4 : Int32), v4 = nI k → k ≤ 8 → 8 < n + k → jt_X0_isSound_40 kn ch f  w1 w2 t9 n v4 := by
  intro n
  induction n with
  | zero => intro k v4 e h1 h2; exact absurd h2 (by omega)
  | succ n ih =>
    intro k v4 e h1 h2
    subst e
    rw [jt_X0_isSound_40]
    rcases Nat.lt_or_ge k 8 with hk | hk
    · repeat' (first | with_reducible exact trivial | with_reducible exact h9 _ | with_reducible exact nI_pos (by omega) | with_reducible exact ih (k + 1) _ (nI_1 k) (by omega) (by omega) | with_reducible refine ⟨?_, ?_⟩ | (with_reducible intro _))
    · obtain rfl : k = 8 := by omega
      repeat' (first | with_reducible exact trivial | with_reducible exact h9 _ | with_reducible exact nI_pos (by omega) | with_reducible refine ⟨?_, ?_⟩ | (with_reducible intro hc; exact absurd (by decide) hc) | (with_reducible intro _))
theorem jtk_X0_isSound_2 (kn ch : Int32) (f : Nat → Int64)   (t9 : Int32 → Prop) (h9 : ∀ (v1 : Int32), t9 v1) : ∀ (n k : Nat) (v1 : Int32), v1 = nI k → k ≤ 8 → 8 < n + k → jt_X0_isSound_2 kn ch f   t9 n v1 := by
  intro n
  induction n with
  | zero => intro k v1 e h1 h2; exact absurd h2 (by omega)
  | succ n ih =>
    intro k v1 e h1 h2
    subst e
    rw [jt_X0_isSound_2]
    rcases Nat.lt_or_ge k 8 with hk | hk
    · repeat' (first | with_reducible exact trivial | with_reducible exact h9 _ | with_reducible exact nI_pos (by omega) | with_reducible exact ih (k + 1) _ (nI_1 k) (by omega) (by omega) | with_reducible refine jtk_X0_isSound_40 _ _ _ _ _ _ (fun _ => ?_) 100 0 _ nI_0.symm (by omega) (by omega) | with_reducible refine ⟨?_, ?_⟩ | (with_reducible intro _))
    · obtain rfl : k = 8 := by omega
      repeat' (first | with_reducible exact trivial | with_reducible exact h9 _ | with_reducible exact nI_pos (by omega) | with_reducible refine ⟨?_, ?_⟩ | (with_reducible intro hc; exact absurd (by decide) hc) | (with_reducible intro _))
theorem tk_X0_isSound (kn ch : Int32) (f : Nat → Int64)  : T_X0_isSound kn ch f  := jtk_X0_isSound_2 kn ch f   _ (fun _ => by repeat' (first | with_reducible exact trivial | with_reducible refine ⟨?_, ?_⟩ | (with_reducible intro _))) 100 0 _ nI_0.symm (by omega) (by omega)
