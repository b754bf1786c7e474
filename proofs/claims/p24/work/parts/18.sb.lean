def j_J1_canEncode_fc78d (a0 : Int32) : Int32 := (if 255 < a0 then 0 else 1)
set_option maxHeartbeats 4000000 in
set_option maxRecDepth 100000 in
theorem c_J1_canEncode_fc78d (l : Launch) (D : va_G) (cB cJ : ClassId) (Hp : Heap) (a0 : Int32) : kM l D cB cJ yJ1_canEncode_fc78d wsJ1_canEncode_fc78d ({ frames := 0, cells := 0, slots := 0, locals := 0 }) kF Hp [.int a0] (kP (some (.int (j_J1_canEncode_fc78d a0))) Hp) 0 0 := by
  refine Met.ofW (cc := cJ1_canEncode_fc78d) (maxL := 1) (ret := (some .boolean)) (by decide) rfl ?_
  intro p e s m args below meth c s₁ B hml hv
  obtain ⟨rfl, hHp, hE⟩ := hv
  subst hHp
  have hx := B.exec
  have hb := B.bytes
  have hr := B.returns
  have hts := atoms_spec (ws := wsJ1_canEncode_fc78d) B.pre
  have hown : s.vm.findClass RJ1 = some m.cls := findClass_of_methodNamed B.named
  have hlocks := B.notSynchronized
  have hK := hE.1
  have hS : va_S kF s.heap s.heap [] := va_S.rf
  have hl := lv_entry ([.int a0]) (n := 1) (Nat.le_of_ble_eq_true rfl)
  rw [lg_entry_eq]
  generalize (lg_sl ([.int a0]) ++ List.replicate (1 - (lg_sl ([.int a0])).length) Slot.unset).toArray = ls at hl ⊢
  have hl : lv_has ls 1 [(0, .int a0)] := hl
  refine lv_iload_n hx hb dJ1_canEncode_fc78d_0 rfl (lv_at hl 0 rfl) ?_
  refine lv_sipush (v := 255) hx hb dJ1_canEncode_fc78d_1 (by decide) ?_
  refine lv_icmp_gt (tgt := 11) hx hb dJ1_canEncode_fc78d_4 (by decide) (fun c_1 => ?_) (fun c_1 => ?_)
  · refine lv_iconst (v := 0) hx hb dJ1_canEncode_fc78d_11 (by decide) ?_
    exact k_zret hx hb hr (Or.inl rfl) hlocks hS dJ1_canEncode_fc78d_12 ⟨by rw [j_J1_canEncode_fc78d, if_pos c_1], rfl⟩
  · refine lv_iconst (v := 1) hx hb dJ1_canEncode_fc78d_7 (by decide) ?_
    refine lv_goto (tgt := 12) hx hb dJ1_canEncode_fc78d_8 (by decide) ?_
    exact k_zret hx hb hr (Or.inr rfl) hlocks hS dJ1_canEncode_fc78d_12 ⟨by rw [j_J1_canEncode_fc78d, if_neg c_1], rfl⟩
abbrev rm_J8_newLength_cabcc : Room := { frames := 1, cells := 0, slots := 0, locals := 30 }
def j_J8_newLength_cabcc (a0 : Int32) (a1 : Int32) (a2 : Int32) : Int32 := (if (a0 + (if a1 < a2 then a2 else a1)) ≤ 0 then 0 else (if 2147483639 < (a0 + (if a1 < a2 then a2 else a1)) then 0 else (a0 + (if a1 < a2 then a2 else a1))))
def T_J8_newLength_cabcc (a0 : Int32) (a1 : Int32) (a2 : Int32) : Prop := (((a0 + (if a1 < a2 then a2 else a1)) ≤ 0 → (False ∧ True)) ∧ (¬ ((a0 + (if a1 < a2 then a2 else a1)) ≤ 0) → ((2147483639 < (a0 + (if a1 < a2 then a2 else a1)) → (False ∧ True)) ∧ (¬ (2147483639 < (a0 + (if a1 < a2 then a2 else a1))) → True))))
set_option maxHeartbeats 4000000 in
set_option maxRecDepth 100000 in
theorem c_J8_newLength_cabcc (l : Launch) (D : va_G) (cB cJ : ClassId) (Hp : Heap)  (a0 : Int32) (a1 : Int32) (a2 : Int32) (hT9 : T_J8_newLength_cabcc a0 a1 a2) : kM l D cB cJ yJ8_newLength_cabcc wsJ8_newLength_cabcc rm_J8_newLength_cabcc kF Hp [.int a0, .int a1, .int a2] (kP (some (.int (j_J8_newLength_cabcc a0 a1 a2))) Hp) 0 0 := by
  refine Met.ofW (cc := cJ8_newLength_cabcc) (maxL := 4) (ret := (some .int)) (by decide) rfl ?_
  intro p e s m args below meth c s₁ B hml hv
  obtain ⟨rfl, hHp, hE⟩ := hv
  subst hHp
  have hx := B.exec
  have hb := B.bytes
  have hr := B.returns
  have hts := atoms_spec (ws := wsJ8_newLength_cabcc) B.pre
  have hown : s.vm.findClass RJ8 = some m.cls := findClass_of_methodNamed B.named
  have hlocks := B.notSynchronized
  have hK := hE.1
  have hS : va_S kF s.heap s.heap [] := va_S.rf
  have hl := lv_entry ([.int a0, .int a1, .int a2]) (n := 4) (Nat.le_of_ble_eq_true rfl)
  rw [lg_entry_eq]
  generalize (lg_sl ([.int a0, .int a1, .int a2]) ++ List.replicate (4 - (lg_sl ([.int a0, .int a1, .int a2])).length) Slot.unset).toArray = ls at hl ⊢
  have hl : lv_has ls 4 [(0, .int a0), (1, .int a1), (2, .int a2)] := hl
  have hJ : (j_J8_newLength_cabcc a0 a1 a2) = (if (a0 + (if a1 < a2 then a2 else a1)) ≤ 0 then 0 else (if 2147483639 < (a0 + (if a1 < a2 then a2 else a1)) then 0 else (a0 + (if a1 < a2 then a2 else a1)))) := rfl
  have hT : (((a0 + (if a1 < a2 then a2 else a1)) ≤ 0 → (False ∧ True)) ∧ (¬ ((a0 + (if a1 < a2 then a2 else a1)) ≤ 0) → ((2147483639 < (a0 + (if a1 < a2 then a2 else a1)) → (False ∧ True)) ∧ (¬ (2147483639 < (a0 + (if a1 < a2 then a2 else a1))) → True)))) := hT9
  refine lv_iload_n hx hb dJ8_newLength_cabcc_0 rfl (lv_at hl 0 rfl) ?_
  refine lv_iload_n hx hb dJ8_newLength_cabcc_1 rfl (lv_at hl 1 rfl) ?_
  refine lv_iload_n hx hb dJ8_newLength_cabcc_2 rfl (lv_at hl 2 rfl) ?_
  refine va_mmax hx hb (hml.trans hl.1.symm) hown (hts (.methodLink RJ8 194 Lib.Math.max.name) (by decide +kernel)) (hts (.static Lib.Math.max.name) (by decide +kernel)) (hts (.initialized "java/lang/Math") (by decide +kernel)) (hts (.code Lib.Math.max.name Lib.Math.max.code 2 (some .int)) (by decide +kernel)) (Nat.le_of_ble_eq_true rfl) (Nat.le_of_ble_eq_true rfl) (Nat.le_of_ble_eq_true rfl) (Nat.le_of_ble_eq_true rfl) dJ8_newLength_cabcc_3 ?_
  refine lv_iadd hx hb dJ8_newLength_cabcc_6 ?_
  refine lv_istore_n (lv' := [(3, .int (a0 + (if a1 < a2 then a2 else a1))), (0, .int a0), (1, .int a1), (2, .int a2)]) hx hb dJ8_newLength_cabcc_7 rfl hl (by decide) rfl (fun ls hl => ?_)
  refine lv_iconst (v := 0) hx hb dJ8_newLength_cabcc_8 (by decide) ?_
  refine lv_iload_n hx hb dJ8_newLength_cabcc_9 rfl (lv_at hl 0 rfl) ?_
  refine lv_icmp_ge (tgt := 21) hx hb dJ8_newLength_cabcc_10 (by decide) (fun c_1 => ?_) (fun c_1 => ?_)
  · refine lv_iload_n hx hb dJ8_newLength_cabcc_21 rfl (lv_at hl 1 rfl) ?_
    refine lv_iload_n hx hb dJ8_newLength_cabcc_22 rfl (lv_at hl 2 rfl) ?_
    exact (hT.1 c_1).1.elim
  · refine lv_iload_n hx hb dJ8_newLength_cabcc_13 rfl (lv_at hl 0 rfl) ?_
    refine lv_ldc (v := 2147483639) hx hb hown (hts (.constant RJ8 200 (2147483639)) (by decide +kernel)) dJ8_newLength_cabcc_14 ?_
    refine lv_icmp_gt (tgt := 21) hx hb dJ8_newLength_cabcc_16 (by decide) (fun c_2 => ?_) (fun c_2 => ?_)
    · refine lv_iload_n hx hb dJ8_newLength_cabcc_21 rfl (lv_at hl 1 rfl) ?_
      refine lv_iload_n hx hb dJ8_newLength_cabcc_22 rfl (lv_at hl 2 rfl) ?_
      exact ((hT.2 c_1).1 c_2).1.elim
    · refine lv_iload_n hx hb dJ8_newLength_cabcc_19 rfl (lv_at hl 0 rfl) ?_
      exact k_iret hx hb hr hlocks hS dJ8_newLength_cabcc_20 ⟨by rw [hJ, if_neg c_1, if_neg c_2], rfl⟩
abbrev rm_J5_newCapacity_0f7a4 : Room := { frames := 2, cells := 0, slots := 0, locals := 53 }
theorem iw_J5_newCapacity_0f7a4_J4 : ∀ w ∈ wsJ40, w ∈ wsJ5_newCapacity_0f7a4 := by decide +kernel
def j_J5_newCapacity_0f7a4 (nn cp : Nat) (ar : Nat → Int32) (a1 : Int32) : Int32 := (if (j_J8_newLength_cabcc (nI cp) ((a1 <<< ((0 : Int32) &&& 31)) - (nI cp)) ((nI cp) + ((2 : Int32) <<< ((0 : Int32) &&& 31)))) = 2147483647 then 0 else ((j_J8_newLength_cabcc (nI cp) ((a1 <<< ((0 : Int32) &&& 31)) - (nI cp)) ((nI cp) + ((2 : Int32) <<< ((0 : Int32) &&& 31)))) >>> ((0 : Int32) &&& 31)))
def T_J5_newCapacity_0f7a4 (nn cp : Nat) (ar : Nat → Int32) (a1 : Int32) : Prop := (T_J8_newLength_cabcc (nI cp) ((a1 <<< ((0 : Int32) &&& 31)) - (nI cp)) ((nI cp) + ((2 : Int32) <<< ((0 : Int32) &&& 31))) ∧ (((j_J8_newLength_cabcc (nI cp) ((a1 <<< ((0 : Int32) &&& 31)) - (nI cp)) ((nI cp) + ((2 : Int32) <<< ((0 : Int32) &&& 31)))) = 2147483647 → (False ∧ True)) ∧ (¬ ((j_J8_newLength_cabcc (nI cp) ((a1 <<< ((0 : Int32) &&& 31)) - (nI cp)) ((nI cp) + ((2 : Int32) <<< ((0 : Int32) &&& 31)))) = 2147483647) → True)))
set_option maxHeartbeats 4000000 in
set_option maxRecDepth 100000 in
theorem c_J5_newCapacity_0f7a4 (l : Launch) (D : va_G) (cB cJ : ClassId) (Hp : Heap) (b v : Nat) (nn cp : Nat) (ar : Nat → Int32) (hP : va_P D vwCl (wSB b v cB nn cp ar) Hp) (a1 : Int32) (hT9 : T_J5_newCapacity_0f7a4 nn cp ar a1) : kM l D cB cJ yJ5_newCapacity_0f7a4 wsJ5_newCapacity_0f7a4 rm_J5_newCapacity_0f7a4 kF Hp [.ref b, .int a1] (kP (some (.int (j_J5_newCapacity_0f7a4 nn cp ar a1))) Hp) 0 0 := by
  refine Met.ofW (cc := cJ5_newCapacity_0f7a4) (maxL := 6) (ret := (some .int)) (by decide) rfl ?_
  intro p e s m args below meth c s₁ B hml hv
  obtain ⟨rfl, hHp, hE⟩ := hv
  subst hHp
  have hx := B.exec
  have hb := B.bytes
  have hr := B.returns
  have hts := atoms_spec (ws := wsJ5_newCapacity_0f7a4) B.pre
  have hown : s.vm.findClass RJ5 = some m.cls := findClass_of_methodNamed B.named
  have hlocks := B.notSynchronized
  have hK := hE.1
  have hS : va_S kF s.heap s.heap [] := va_S.rf
  have hl := lv_entry ([.ref b, .int a1]) (n := 6) (Nat.le_of_ble_eq_true rfl)
  rw [lg_entry_eq]
  generalize (lg_sl ([.ref b, .int a1]) ++ List.replicate (6 - (lg_sl ([.ref b, .int a1])).length) Slot.unset).toArray = ls at hl ⊢
  have hl : lv_has ls 6 [(0, .ref b), (1, .int a1)] := hl
  have hJ : (j_J5_newCapacity_0f7a4 nn cp ar a1) = (if (j_J8_newLength_cabcc (nI cp) ((a1 <<< ((0 : Int32) &&& 31)) - (nI cp)) ((nI cp) + ((2 : Int32) <<< ((0 : Int32) &&& 31)))) = 2147483647 then 0 else ((j_J8_newLength_cabcc (nI cp) ((a1 <<< ((0 : Int32) &&& 31)) - (nI cp)) ((nI cp) + ((2 : Int32) <<< ((0 : Int32) &&& 31)))) >>> ((0 : Int32) &&& 31))) := rfl
  have hT : (T_J8_newLength_cabcc (nI cp) ((a1 <<< ((0 : Int32) &&& 31)) - (nI cp)) ((nI cp) + ((2 : Int32) <<< ((0 : Int32) &&& 31))) ∧ (((j_J8_newLength_cabcc (nI cp) ((a1 <<< ((0 : Int32) &&& 31)) - (nI cp)) ((nI cp) + ((2 : Int32) <<< ((0 : Int32) &&& 31)))) = 2147483647 → (False ∧ True)) ∧ (¬ ((j_J8_newLength_cabcc (nI cp) ((a1 <<< ((0 : Int32) &&& 31)) - (nI cp)) ((nI cp) + ((2 : Int32) <<< ((0 : Int32) &&& 31)))) = 2147483647) → True))) := hT9
  refine lv_aload_n hx hb dJ5_newCapacity_0f7a4_0 rfl (lv_at hl 0 rfl) ?_
  refine va_get (D := D) (ci := 1) (v := .ref v) (C := RJ4) (T := TJ4) (N := 4) hx hb hts iw_J5_newCapacity_0f7a4_J4 hown hK hP 0 rfl rfl 0 (by decide) (hts (.fieldLink RJ5 15 "java/lang/AbstractStringBuilder" "value" "[B") (by decide +kernel)) (fun _ h9 => h9) rfl dJ5_newCapacity_0f7a4_1 ?_
  refine va_alen hx hb hK hP 1 0 rfl rfl (v := (nI cp)) rfl dJ5_newCapacity_0f7a4_4 ?_
  refine lv_istore_n (lv' := [(2, .int (nI cp)), (0, .ref b), (1, .int a1)]) hx hb dJ5_newCapacity_0f7a4_5 rfl hl (by decide) rfl (fun ls hl => ?_)
  refine lv_iload_n hx hb dJ5_newCapacity_0f7a4_6 rfl (lv_at hl 2 rfl) ?_
  refine lv_aload_n hx hb dJ5_newCapacity_0f7a4_7 rfl (lv_at hl 1 rfl) ?_
  refine va_get (D := D) (ci := 1) (v := .int 0) (C := RJ4) (T := TJ4) (N := 4) hx hb hts iw_J5_newCapacity_0f7a4_J4 hown hK hP 0 rfl rfl 1 (by decide) (hts (.fieldLink RJ5 22 "java/lang/AbstractStringBuilder" "coder" "B") (by decide +kernel)) (fun _ h9 => h9) rfl dJ5_newCapacity_0f7a4_8 ?_
  refine lv_ishl hx hb dJ5_newCapacity_0f7a4_11 ?_
  refine lv_istore_n (lv' := [(3, .int (a1 <<< ((0 : Int32) &&& 31))), (2, .int (nI cp)), (0, .ref b), (1, .int a1)]) hx hb dJ5_newCapacity_0f7a4_12 rfl hl (by decide) rfl (fun ls hl => ?_)
  refine lv_iload_n hx hb dJ5_newCapacity_0f7a4_13 rfl (lv_at hl 0 rfl) ?_
  refine lv_iload_n hx hb dJ5_newCapacity_0f7a4_14 rfl (lv_at hl 1 rfl) ?_
  refine lv_isub hx hb dJ5_newCapacity_0f7a4_15 ?_
  refine lv_istore (lv' := [(4, .int ((a1 <<< ((0 : Int32) &&& 31)) - (nI cp))), (3, .int (a1 <<< ((0 : Int32) &&& 31))), (2, .int (nI cp)), (0, .ref b), (1, .int a1)]) hx hb dJ5_newCapacity_0f7a4_16 hl (by decide) rfl (fun ls hl => ?_)
  refine lv_iload_n hx hb dJ5_newCapacity_0f7a4_18 rfl (lv_at hl 2 rfl) ?_
  refine lv_iload hx hb dJ5_newCapacity_0f7a4_19 (lv_at hl 0 rfl) ?_
  refine lv_iload_n hx hb dJ5_newCapacity_0f7a4_21 rfl (lv_at hl 2 rfl) ?_
  refine lv_iconst (v := 2) hx hb dJ5_newCapacity_0f7a4_22 (by decide) ?_
  refine lv_aload_n hx hb dJ5_newCapacity_0f7a4_23 rfl (lv_at hl 3 rfl) ?_
  refine va_get (D := D) (ci := 1) (v := .int 0) (C := RJ4) (T := TJ4) (N := 4) hx hb hts iw_J5_newCapacity_0f7a4_J4 hown hK hP 0 rfl rfl 1 (by decide) (hts (.fieldLink RJ5 22 "java/lang/AbstractStringBuilder" "coder" "B") (by decide +kernel)) (fun _ h9 => h9) rfl dJ5_newCapacity_0f7a4_24 ?_
  refine lv_ishl hx hb dJ5_newCapacity_0f7a4_27 ?_
  refine lv_iadd hx hb dJ5_newCapacity_0f7a4_28 ?_
  refine k_pS [.int (nI cp), .int ((a1 <<< ((0 : Int32) &&& 31)) - (nI cp)), .int ((nI cp) + ((2 : Int32) <<< ((0 : Int32) &&& 31)))] (rest := []) ⟨hx, hb, hml, hown, hts⟩ (c_J8_newLength_cabcc l D cB cJ _ (nI cp) ((a1 <<< ((0 : Int32) &&& 31)) - (nI cp)) ((nI cp) + ((2 : Int32) <<< ((0 : Int32) &&& 31))) hT.1) (va_cwS 3 hts gJ5_newCapacity_0f7a4_J8_newLength_cabcc rfl rfl rfl (by decide +kernel) ⟨(Nat.le_of_ble_eq_true rfl), (Nat.le_of_ble_eq_true rfl)⟩) hE hS rfl rfl hl.1 (Nat.le_of_ble_eq_true rfl) dJ5_newCapacity_0f7a4_29 ⟨(Nat.le_of_ble_eq_true rfl), (Nat.le_of_ble_eq_true rfl)⟩ (fun locs hS => ?_)
  refine W.eq (g2 := F0 m 32 ls [.int (j_J8_newLength_cabcc (nI cp) ((a1 <<< ((0 : Int32) &&& 31)) - (nI cp)) ((nI cp) + ((2 : Int32) <<< ((0 : Int32) &&& 31))))]) rfl ?_
  refine lv_istore (lv' := [(5, .int (j_J8_newLength_cabcc (nI cp) ((a1 <<< ((0 : Int32) &&& 31)) - (nI cp)) ((nI cp) + ((2 : Int32) <<< ((0 : Int32) &&& 31))))), (4, .int ((a1 <<< ((0 : Int32) &&& 31)) - (nI cp))), (3, .int (a1 <<< ((0 : Int32) &&& 31))), (2, .int (nI cp)), (0, .ref b), (1, .int a1)]) hx hb dJ5_newCapacity_0f7a4_32 hl (by decide) rfl (fun ls hl => ?_)
  refine lv_iload hx hb dJ5_newCapacity_0f7a4_34 (lv_at hl 0 rfl) ?_
  refine lv_ldc (v := 2147483647) hx hb hown (hts (.constant RJ5 39 (2147483647)) (by decide +kernel)) dJ5_newCapacity_0f7a4_36 ?_
  refine lv_icmp_ne (tgt := 51) hx hb dJ5_newCapacity_0f7a4_38 (by decide) (fun c_1 => ?_) (fun c_1 => ?_)
  · refine lv_iload hx hb dJ5_newCapacity_0f7a4_51 (lv_at hl 0 rfl) ?_
    refine lv_aload_n hx hb dJ5_newCapacity_0f7a4_53 rfl (lv_at hl 4 rfl) ?_
    refine va_get (D := D) (ci := 1) (v := .int 0) (C := RJ4) (T := TJ4) (N := 4) hx hb hts iw_J5_newCapacity_0f7a4_J4 hown hK hP 0 rfl rfl 1 (by decide) (hts (.fieldLink RJ5 22 "java/lang/AbstractStringBuilder" "coder" "B") (by decide +kernel)) (fun _ h9 => h9) rfl dJ5_newCapacity_0f7a4_54 ?_
    refine lv_ishr hx hb dJ5_newCapacity_0f7a4_57 ?_
    exact k_iret hx hb hr hlocks hS dJ5_newCapacity_0f7a4_58 ⟨by rw [hJ, if_neg c_1], rfl⟩
  · exact (hT.2.1 c_1).1.elim
abbrev rm_J5_isLatin1_aae02 : Room := { frames := 0, cells := 0, slots := 0, locals := 0 }
theorem iw_J5_isLatin1_aae02_J4 : ∀ w ∈ wsJ40, w ∈ wsJ5_isLatin1_aae02 := by decide +kernel
def j_J5_isLatin1_aae02 (nn cp : Nat) (ar : Nat → Int32)  : Int32 := 1
set_option maxHeartbeats 4000000 in
set_option maxRecDepth 100000 in
theorem c_J5_isLatin1_aae02 (l : Launch) (D : va_G) (cB cJ : ClassId) (Hp : Heap) (b v : Nat) (nn cp : Nat) (ar : Nat → Int32) (hP : va_P D vwCl (wSB b v cB nn cp ar) Hp)  : kM l D cB cJ yJ5_isLatin1_aae02 wsJ5_isLatin1_aae02 rm_J5_isLatin1_aae02 kF Hp [.ref b] (kP (some (.int (j_J5_isLatin1_aae02 nn cp ar ))) Hp) 0 0 := by
  refine Met.ofW (cc := cJ5_isLatin1_aae02) (maxL := 1) (ret := (some .boolean)) (by decide) rfl ?_
  intro p e s m args below meth c s₁ B hml hv
  obtain ⟨rfl, hHp, hE⟩ := hv
  subst hHp
  have hx := B.exec
  have hb := B.bytes
  have hr := B.returns
  have hts := atoms_spec (ws := wsJ5_isLatin1_aae02) B.pre
  have hown : s.vm.findClass RJ5 = some m.cls := findClass_of_methodNamed B.named
  have hlocks := B.notSynchronized
  have hK := hE.1
  have hS : va_S kF s.heap s.heap [] := va_S.rf
  have hl := lv_entry ([.ref b]) (n := 1) (Nat.le_of_ble_eq_true rfl)
  rw [lg_entry_eq]
  generalize (lg_sl ([.ref b]) ++ List.replicate (1 - (lg_sl ([.ref b])).length) Slot.unset).toArray = ls at hl ⊢
  have hl : lv_has ls 1 [(0, .ref b)] := hl
  have hZ1 := hE.2.1.1
  have hJ : (j_J5_isLatin1_aae02 nn cp ar ) = 1 := rfl
  refine va_gets hx hb hZ1 hS hown (hts (.fieldLink RJ5 18 "java/lang/String" "COMPACT_STRINGS" "Z") (by decide +kernel)) (fun _ h9 => h9) dJ5_isLatin1_aae02_0 ?_
  refine lv_if_eq (tgt := 17) hx hb dJ5_isLatin1_aae02_3 (by decide) (fun c_1 => ?_) (fun c_1 => ?_)
  · exact absurd c_1 (by decide)
  · refine lv_aload_n hx hb dJ5_isLatin1_aae02_6 rfl (lv_at hl 0 rfl) ?_
    refine va_get (D := D) (ci := 1) (v := .int 0) (C := RJ4) (T := TJ4) (N := 4) hx hb hts iw_J5_isLatin1_aae02_J4 hown hK hP 0 rfl rfl 1 (by decide) (hts (.fieldLink RJ5 22 "java/lang/AbstractStringBuilder" "coder" "B") (by decide +kernel)) (fun _ h9 => h9) rfl dJ5_isLatin1_aae02_7 ?_
    refine lv_if_ne (tgt := 17) hx hb dJ5_isLatin1_aae02_10 (by decide) (fun c_2 => ?_) (fun c_2 => ?_)
    · exact absurd (by decide) c_2
    · refine lv_iconst (v := 1) hx hb dJ5_isLatin1_aae02_13 (by decide) ?_
      refine lv_goto (tgt := 18) hx hb dJ5_isLatin1_aae02_14 (by decide) ?_
      exact k_zret hx hb hr (Or.inr rfl) hlocks hS dJ5_isLatin1_aae02_18 ⟨by rw [hJ], rfl⟩
