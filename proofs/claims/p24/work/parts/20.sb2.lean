set_option maxHeartbeats 4000000 in
set_option maxRecDepth 100000 in
theorem c_J7_copyOf_9075b (l : Launch) (D : va_G) (cB cJ : ClassId) (Hp : Heap) (v cp q : Nat) (ar : Nat → Int32) (hPr : va_P D vwCl [(v, .inl (cB, cp, .inl ar))] Hp) (hf : sb_Fit ar) (hc : cp ≤ 1000) (hq0 : q ≤ 130) (hne : ¬ q = cp) : kM l D cB cJ yJ7_copyOf_9075b wsJ7_copyOf_9075b ({ frames := 1, cells := 1, slots := 130, locals := 80 }) (va_A [] Hp.size) Hp [.ref v, .int (nI q)] (kRow D cB (va_A [] Hp.size) q) 1 130 := by
  refine Met.ofW (cc := cJ7_copyOf_9075b) (maxL := 3) (ret := (some (.array .byte))) (by decide) rfl ?_
  intro p e s m args below meth c s₁ B hml hv
  obtain ⟨rfl, hHp, hE⟩ := hv
  subst hHp
  have hx := B.exec
  have hb := B.bytes
  have hr := B.returns
  have hts := atoms_spec (ws := wsJ7_copyOf_9075b) B.pre
  have hown : s.vm.findClass RJ7 = some m.cls := findClass_of_methodNamed B.named
  have hlocks := B.notSynchronized
  have hK := hE.1
  have hq : q ≤ 1000 := by omega
  have hvl : v < s.heap.size := (hPr 0 _ rfl).lt
  have hP : va_P D vwCl [] s.heap := fun k q h => by simp at h
  have hD0 : va_D (fun _ => True) [] := ⟨fun i j p q h => by simp at h, fun k q h => by simp at h⟩
  have hD := hD0.self (sz := s.heap.size)
  have hvA : ¬ va_A [] s.heap.size v := fun h => h.elim (fun ⟨k, e, h⟩ => by simp at h) (fun h => absurd hvl (Nat.not_lt.mpr h))
  generalize hAe : va_A [] s.heap.size = A at hE hD hvA ⊢
  have hA : ∀ q : Nat, s.heap.size ≤ q → A q := fun q h => by rw [← hAe]; exact Or.inr h
  have hTv := k_tab (A := A) hE.1 hPr 0 rfl (by omega) hvA
  have hS : va_S A s.heap s.heap [] := va_S.rf
  have hl := lv_entry ([.ref v, .int (nI q)]) (n := 3) (Nat.le_of_ble_eq_true rfl)
  rw [lg_entry_eq]
  generalize (lg_sl ([.ref v, .int (nI q)]) ++ List.replicate (3 - (lg_sl ([.ref v, .int (nI q)])).length) Slot.unset).toArray = ls at hl ⊢
  have hl : lv_has ls 3 [(0, .ref v), (1, .int (nI q))] := hl
  refine lv_iload_n hx hb dJ7_copyOf_9075b_0 rfl (lv_at hl 1 rfl) ?_
  refine lv_aload_n hx hb dJ7_copyOf_9075b_1 rfl (lv_at hl 0 rfl) ?_
  refine va_tlen hx hb hTv hS (v := (nI cp)) rfl dJ7_copyOf_9075b_2 ?_
  refine lv_icmp_ne (tgt := 14) hx hb dJ7_copyOf_9075b_3 (by decide) (fun c_1 => ?_) (fun c_1 => ?_)
  · refine lv_iload_n hx hb dJ7_copyOf_9075b_14 rfl (lv_at hl 1 rfl) ?_
    refine k_newB hx hb (hts (.arrayClass .byte) (by decide +kernel)) hK hP hD hS hA (q) (nI_pos (by omega)) (nI_clamp (by omega)) (by omega) (Nat.le_of_ble_eq_true rfl) (by show 0 + q ≤ 130; omega) dJ7_copyOf_9075b_15 (fun q_2 H hP hD hS => ?_)
    have hP : va_P D vwCl [(q_2, .inl (cB, q, .inl (fun _ => 0)))] H := hP
    have hD : va_D A [(q_2, .inl (cB, q, .inl (fun _ => 0)))] := hD
    refine lv_astore_n (lv' := [(2, .ref q_2), (0, .ref v), (1, .int (nI q))]) hx hb dJ7_copyOf_9075b_17 rfl hl (by decide) rfl (fun ls hl => ?_)
    refine lv_aload_n hx hb dJ7_copyOf_9075b_18 rfl (lv_at hl 1 rfl) ?_
    refine lv_iconst (v := 0) hx hb dJ7_copyOf_9075b_19 (by decide) ?_
    refine lv_aload_n hx hb dJ7_copyOf_9075b_20 rfl (lv_at hl 0 rfl) ?_
    refine lv_iconst (v := 0) hx hb dJ7_copyOf_9075b_21 (by decide) ?_
    refine lv_aload_n hx hb dJ7_copyOf_9075b_22 rfl (lv_at hl 1 rfl) ?_
    refine va_tlen hx hb hTv hS (v := (nI cp)) rfl dJ7_copyOf_9075b_23 ?_
    refine lv_iload_n hx hb dJ7_copyOf_9075b_24 rfl (lv_at hl 2 rfl) ?_
    refine va_mmin hx hb (hml.trans hl.1.symm) hown (hts (.methodLink RJ7 304 Lib.Math.min.name) (by decide +kernel)) (hts (.static Lib.Math.min.name) (by decide +kernel)) (hts (.initialized "java/lang/Math") (by decide +kernel)) (hts (.code Lib.Math.min.name Lib.Math.min.code 2 (some .int)) (by decide +kernel)) (Nat.le_of_ble_eq_true rfl) (Nat.le_of_ble_eq_true rfl) (Nat.le_of_ble_eq_true rfl) (by show 0 + q ≤ 130; omega) dJ7_copyOf_9075b_25 ?_
    refine lv_topi (fun z_3 ez_3 => ?_)
    rw [q_min cp q hc hq] at ez_3
    have hz : z_3.toNatClampNeg = (if q < cp then q else cp) := by rw [ez_3]; exact nI_clamp (by split <;> omega)
    refine vk_copyt hx hb (hml.trans hl.1.symm) hown (hts (.methodLink RJ7 150 arraycopyName) (by decide +kernel)) (hts (.native arraycopyName) (by decide +kernel)) (hts (.static arraycopyName) (by decide +kernel)) (hts (.initialized "java/lang/System") (by decide +kernel)) hK hP hD hS hTv 0 0 rfl rfl (by decide) (by decide) (by rw [ez_3]; exact nI_pos (by split <;> omega)) (by rw [hz]; show 0 + _ ≤ cp; split <;> omega) (by rw [hz]; show 0 + _ ≤ q; split <;> omega) (fun i _ => hf _) (Nat.le_of_ble_eq_true rfl) (Nat.le_of_ble_eq_true rfl) dJ7_copyOf_9075b_28 (fun H locs hP hD hS => ?_)
    have hP : va_P D vwCl [(q_2, .inl (cB, q, .inl (va_cpy ar (fun _ => 0) (0 : Int32).toNatClampNeg (0 : Int32).toNatClampNeg z_3.toNatClampNeg)))] H := hP
    have hD : va_D A [(q_2, .inl (cB, q, .inl (va_cpy ar (fun _ => 0) (0 : Int32).toNatClampNeg (0 : Int32).toNatClampNeg z_3.toNatClampNeg)))] := hD
    refine lv_aload_n hx hb dJ7_copyOf_9075b_31 rfl (lv_at hl 0 rfl) ?_
    refine W.widen (k := 1) (n := 130) (Nat.le_of_ble_eq_true rfl) (by omega) ?_
    exact k_aret hx hb hr (Or.inr ⟨_, rfl⟩) hlocks hS dJ7_copyOf_9075b_32 ⟨_, _, rfl, hP.sub [0] rfl, hD.sub [0] (by decide) rfl, sb_fitC hf sb_fit0⟩
  · exact absurd (show nI q = nI cp from c_1) (fun z => hne ((nI_eq (by omega) (by omega)).mp z))
theorem iw_J5_ensureCapacityInternal_d00df_J4 : ∀ w ∈ wsJ40, w ∈ wsJ5_ensureCapacityInternal_d00df := by decide +kernel
set_option maxHeartbeats 4000000 in
set_option maxRecDepth 100000 in
theorem c_J5_ensureCapacityInternal_d00df (l : Launch) (D : va_G) (cB cJ : ClassId) (Hp : Heap) (b v nn cp k : Nat) (ar : Nat → Int32) (hP : va_P D vwCl (wSB b v cB nn cp ar) Hp) (hD9 : va_D (fun _ => True) (wSB b v cB nn cp ar)) (hf : sb_Fit ar) (hnm : nn ≤ cp) (hm : cp ≤ 130) (hk60 : k ≤ 60) : kM l D cB cJ yJ5_ensureCapacityInternal_d00df wsJ5_ensureCapacityInternal_d00df ({ frames := 3, cells := 1, slots := 130, locals := 102 }) (va_A (wSB b v cB nn cp ar) Hp.size) Hp [.ref b, .int (nI k)] (sbE D cB (va_A (wSB b v cB nn cp ar) Hp.size) b nn k) 1 130 := by
  refine Met.ofW (cc := cJ5_ensureCapacityInternal_d00df) (maxL := 3) (ret := none) (by decide) rfl ?_
  intro p e s m args below meth c s₁ B hml hv
  obtain ⟨rfl, hHp, hE⟩ := hv
  subst hHp
  have hx := B.exec
  have hb := B.bytes
  have hr := B.returns
  have hts := atoms_spec (ws := wsJ5_ensureCapacityInternal_d00df) B.pre
  have hown : s.vm.findClass RJ5 = some m.cls := findClass_of_methodNamed B.named
  have hlocks := B.notSynchronized
  have hK := hE.1
  have hD := hD9.self (sz := s.heap.size)
  generalize hAe : va_A (wSB b v cB nn cp ar) s.heap.size = A at hE hD ⊢
  have hA : ∀ q : Nat, s.heap.size ≤ q → A q := fun q h => by rw [← hAe]; exact Or.inr h
  have hS : va_S A s.heap s.heap [] := va_S.rf
  have hl := lv_entry ([.ref b, .int (nI k)]) (n := 3) (Nat.le_of_ble_eq_true rfl)
  rw [lg_entry_eq]
  generalize (lg_sl ([.ref b, .int (nI k)]) ++ List.replicate (3 - (lg_sl ([.ref b, .int (nI k)])).length) Slot.unset).toArray = ls at hl ⊢
  have hl : lv_has ls 3 [(0, .ref b), (1, .int (nI k))] := hl
  refine lv_aload_n hx hb dJ5_ensureCapacityInternal_d00df_0 rfl (lv_at hl 0 rfl) ?_
  refine va_get (D := D) (ci := 1) (v := .ref v) (C := RJ4) (T := TJ4) (N := 4) hx hb hts iw_J5_ensureCapacityInternal_d00df_J4 hown hK hP 0 rfl rfl 0 (by decide) (hts (.fieldLink RJ5 15 "java/lang/AbstractStringBuilder" "value" "[B") (by decide +kernel)) (fun _ h9 => h9) rfl dJ5_ensureCapacityInternal_d00df_1 ?_
  refine va_alen hx hb hK hP 1 0 rfl rfl (v := (nI cp)) rfl dJ5_ensureCapacityInternal_d00df_4 ?_
  refine lv_aload_n hx hb dJ5_ensureCapacityInternal_d00df_5 rfl (lv_at hl 0 rfl) ?_
  refine va_get (D := D) (ci := 1) (v := .int 0) (C := RJ4) (T := TJ4) (N := 4) hx hb hts iw_J5_ensureCapacityInternal_d00df_J4 hown hK hP 0 rfl rfl 1 (by decide) (hts (.fieldLink RJ5 22 "java/lang/AbstractStringBuilder" "coder" "B") (by decide +kernel)) (fun _ h9 => h9) rfl dJ5_ensureCapacityInternal_d00df_6 ?_
  refine lv_ishr hx hb dJ5_ensureCapacityInternal_d00df_9 ?_
  rw [sb_shr0]
  refine lv_istore_n (lv' := [(2, .int (nI cp)), (0, .ref b), (1, .int (nI k))]) hx hb dJ5_ensureCapacityInternal_d00df_10 rfl hl (by decide) rfl (fun ls hl => ?_)
  refine lv_iload_n hx hb dJ5_ensureCapacityInternal_d00df_11 rfl (lv_at hl 2 rfl) ?_
  refine lv_iload_n hx hb dJ5_ensureCapacityInternal_d00df_12 rfl (lv_at hl 0 rfl) ?_
  refine lv_isub hx hb dJ5_ensureCapacityInternal_d00df_13 ?_
  refine lv_if_le (tgt := 38) hx hb dJ5_ensureCapacityInternal_d00df_14 (by decide) (fun c_1 => ?_) (fun c_1 => ?_)
  · have hkc : k ≤ cp := by
      rcases Nat.lt_or_ge cp k with q | q
      · exact absurd c_1 (by rw [pk_sub (by omega)]; exact nI_nle (by omega) (by omega))
      · exact q
    refine W.widen (k := 1) (n := 130) (Nat.le_of_ble_eq_true rfl) (Nat.le_of_ble_eq_true rfl) ?_
    exact k_vret hx hb hr hlocks hS dJ5_ensureCapacityInternal_d00df_38 ⟨rfl, v, cp, ar, hP, hD, hf, hnm, by omega, hm⟩
  · have hkc : cp < k := by
      rcases Nat.lt_or_ge cp k with q | q
      · exact q
      · exact absurd (show nI k - nI cp ≤ 0 by rw [Int32.le_iff_toInt_le, pk_sub_toInt (by omega) (by omega), Int32.toInt_zero]; omega) c_1
    have hcap := q_newCap nn cp ar k hkc hk60
    have hcle := q_cap_le hkc hk60
    refine lv_aload_n hx hb dJ5_ensureCapacityInternal_d00df_17 rfl (lv_at hl 1 rfl) ?_
    refine lv_aload_n hx hb dJ5_ensureCapacityInternal_d00df_18 rfl (lv_at hl 1 rfl) ?_
    refine va_get (D := D) (ci := 1) (v := .ref v) (C := RJ4) (T := TJ4) (N := 4) hx hb hts iw_J5_ensureCapacityInternal_d00df_J4 hown hK hP 0 rfl rfl 0 (by decide) (hts (.fieldLink RJ5 15 "java/lang/AbstractStringBuilder" "value" "[B") (by decide +kernel)) (fun _ h9 => h9) rfl dJ5_ensureCapacityInternal_d00df_19 ?_
    refine lv_aload_n hx hb dJ5_ensureCapacityInternal_d00df_22 rfl (lv_at hl 1 rfl) ?_
    refine lv_iload_n hx hb dJ5_ensureCapacityInternal_d00df_23 rfl (lv_at hl 2 rfl) ?_
    refine k_pU [.int (nI k)] (rest := [.ref v, .ref b]) ⟨hx, hb, hml, hown, hts⟩ (c_J5_newCapacity_0f7a4 l D cB cJ _ b v nn cp ar (hP.sub [0, 1] rfl) (nI k) hcap.1) (va_cwU 1 hts gJ5_ensureCapacityInternal_d00df_J5_newCapacity_0f7a4_u104J4 rfl rfl rfl rfl (by decide +kernel) ⟨(Nat.le_of_ble_eq_true rfl), (Nat.le_of_ble_eq_true rfl)⟩) (va_recv hK hP (ci := 1) (q0 := 0) rfl rfl) hE hS rfl rfl hl.1 (Nat.le_of_ble_eq_true rfl) dJ5_ensureCapacityInternal_d00df_24 ⟨(Nat.le_of_ble_eq_true rfl), (Nat.le_of_ble_eq_true rfl)⟩ (fun locs hS => ?_)
    refine W.eq (g2 := F0 m 27 ls [.int (j_J5_newCapacity_0f7a4 nn cp ar (nI k)), .ref v, .ref b]) rfl ?_
    refine W.eq (g2 := F0 m 27 ls [.int (nI (q_cap cp k)), .ref v, .ref b]) (by rw [hcap.2]) ?_
    refine lv_aload_n hx hb dJ5_ensureCapacityInternal_d00df_27 rfl (lv_at hl 1 rfl) ?_
    refine va_get (D := D) (ci := 1) (v := .int 0) (C := RJ4) (T := TJ4) (N := 4) hx hb hts iw_J5_ensureCapacityInternal_d00df_J4 hown hK hP 0 rfl rfl 1 (by decide) (hts (.fieldLink RJ5 22 "java/lang/AbstractStringBuilder" "coder" "B") (by decide +kernel)) (fun _ h9 => h9) rfl dJ5_ensureCapacityInternal_d00df_28 ?_
    refine lv_ishl hx hb dJ5_ensureCapacityInternal_d00df_31 ?_
    rw [sb_shl0]
    have hFc : ∀ q : Nat, va_A [] s.heap.size q → A q := fun q h => h.elim (fun ⟨k, e, h⟩ => by simp at h) (fun h => hA q h)
    refine k_go (va_runS (As := [.ref v, .int (nI (q_cap cp k))]) (rest := [.ref b]) ⟨hx, hb, hml, hown, hts⟩ (c_J7_copyOf_9075b l D cB cJ _ v cp (q_cap cp k) ar (hP.sub [1] rfl) hf (by omega) (by omega) (by omega)) (va_cwS 2 hts gJ5_ensureCapacityInternal_d00df_J7_copyOf_9075b rfl rfl rfl (by decide +kernel) ⟨(Nat.le_of_ble_eq_true rfl), (Nat.le_of_ble_eq_true rfl)⟩) (k_preS hE hS hFc) rfl rfl hl.1 rfl (lv_room (Nat.le_of_ble_eq_true rfl)) dJ5_ensureCapacityInternal_d00df_32 ⟨(Nat.le_of_ble_eq_true rfl), (Nat.le_of_ble_eq_true rfl)⟩) hS (fun q _ h => hFc q h) hFc (fun v9 H locs hp hz hk hS => ?_)
    obtain ⟨u, fu, rfl, hP1, hD1, hfu⟩ := hp
    obtain ⟨hP, hD⟩ := va_join (wr := [(b, .inr (1, [.ref v, .int 0, .int 0, .int (nI nn)])), (v, .inl (cB, cp, .inl ar))]) (wc := []) (w1 := [(u, .inl (cB, q_cap cp k, .inl fu))]) hP hD [] [0, 1] rfl rfl (by decide) (by decide) hk hFc hP1 hD1
    have hP : va_P D vwCl [(b, .inr (1, [.ref v, .int 0, .int 0, .int (nI nn)])), (v, .inl (cB, cp, .inl ar)), (u, .inl (cB, (q_cap cp k), .inl fu))] H := hP
    have hD : va_D A [(b, .inr (1, [.ref v, .int 0, .int 0, .int (nI nn)])), (v, .inl (cB, cp, .inl ar)), (u, .inl (cB, (q_cap cp k), .inl fu))] := hD
    refine W.eq (g2 := F0 m 35 ls [.ref u, .ref b]) rfl ?_
    refine va_put (D := D) (ci := 1) (v := .ref u) (ty := (.array .byte)) (C := RJ4) (T := TJ4) (N := 4) hx hb hts iw_J5_ensureCapacityInternal_d00df_J4 tyJ4 tyJ4_ok nmJ4 hown hK hP hD hS 0 rfl rfl 0 (by decide) (hts (.fieldLink RJ5 15 "java/lang/AbstractStringBuilder" "value" "[B") (by decide +kernel)) (fun _ h9 => h9) rfl (by decide +kernel) rfl rfl (Nat.le_of_ble_eq_true rfl) dJ5_ensureCapacityInternal_d00df_35 (fun H locs hP hD hS => ?_)
    have hP : va_P D vwCl [(b, .inr (1, [.ref u, .int 0, .int 0, .int (nI nn)])), (v, .inl (cB, cp, .inl ar)), (u, .inl (cB, (q_cap cp k), .inl fu))] H := hP
    have hD : va_D A [(b, .inr (1, [.ref u, .int 0, .int 0, .int (nI nn)])), (v, .inl (cB, cp, .inl ar)), (u, .inl (cB, (q_cap cp k), .inl fu))] := hD
    refine W.widen (k := 1) (n := 130) (Nat.le_of_ble_eq_true rfl) (Nat.le_of_ble_eq_true rfl) ?_
    have hP9 := hP.sub (ws' := wSB b u cB nn (q_cap cp k) fu) [0, 2] rfl
    have hD9 := hD.sub (ws' := wSB b u cB nn (q_cap cp k) fu) [0, 2] (by decide) rfl
    exact k_vret hx hb hr hlocks hS dJ5_ensureCapacityInternal_d00df_38 ⟨rfl, _, _, _, hP9, hD9, hfu, by omega, by omega, by omega⟩
theorem iw_J5_append_3fe6f_J4 : ∀ w ∈ wsJ40, w ∈ wsJ5_append_3fe6f := by decide +kernel
set_option maxHeartbeats 4000000 in
set_option maxRecDepth 100000 in
theorem c_J5_append_3fe6f (l : Launch) (D : va_G) (cB cJ : ClassId) (Hp : Heap) (b v nn cp : Nat) (ar : Nat → Int32) (hP : va_P D vwCl (wSB b v cB nn cp ar) Hp) (hD9 : va_D (fun _ => True) (wSB b v cB nn cp ar)) (a1 : Int32) (hf : sb_Fit ar) (hnm : nn ≤ cp) (hm : cp ≤ 130) (hc : ¬ 255 < a1) (h60 : nn + 1 ≤ 60) : kM l D cB cJ yJ5_append_3fe6f wsJ5_append_3fe6f ({ frames := 4, cells := 1, slots := 130, locals := 124 }) (va_A (wSB b v cB nn cp ar) Hp.size) Hp [.ref b, .int a1] (sbR D cB (va_A (wSB b v cB nn cp ar) Hp.size) b (nn + 1)) 1 130 := by
  refine Met.ofW (cc := cJ5_append_3fe6f) (maxL := 2) (ret := (some (.object "java/lang/AbstractStringBuilder"))) (by decide) rfl ?_
  intro p e s m args below meth c s₁ B hml hv
  obtain ⟨rfl, hHp, hE⟩ := hv
  subst hHp
  have hx := B.exec
  have hb := B.bytes
  have hr := B.returns
  have hts := atoms_spec (ws := wsJ5_append_3fe6f) B.pre
  have hown : s.vm.findClass RJ5 = some m.cls := findClass_of_methodNamed B.named
  have hlocks := B.notSynchronized
  have hK := hE.1
  have hD := hD9.self (sz := s.heap.size)
  generalize hAe : va_A (wSB b v cB nn cp ar) s.heap.size = A at hE hD ⊢
  have hA : ∀ q : Nat, s.heap.size ≤ q → A q := fun q h => by rw [← hAe]; exact Or.inr h
  have hS : va_S A s.heap s.heap [] := va_S.rf
  have hl := lv_entry ([.ref b, .int a1]) (n := 2) (Nat.le_of_ble_eq_true rfl)
  rw [lg_entry_eq]
  generalize (lg_sl ([.ref b, .int a1]) ++ List.replicate (2 - (lg_sl ([.ref b, .int a1])).length) Slot.unset).toArray = ls at hl ⊢
  have hl : lv_has ls 2 [(0, .ref b), (1, .int a1)] := hl
  refine lv_aload_n hx hb dJ5_append_3fe6f_0 rfl (lv_at hl 0 rfl) ?_
  refine lv_aload_n hx hb dJ5_append_3fe6f_1 rfl (lv_at hl 0 rfl) ?_
  refine va_get (D := D) (ci := 1) (v := .int (nI nn)) (C := RJ4) (T := TJ4) (N := 4) hx hb hts iw_J5_append_3fe6f_J4 hown hK hP 0 rfl rfl 3 (by decide) (hts (.fieldLink RJ5 79 "java/lang/AbstractStringBuilder" "count" "I") (by decide +kernel)) (fun _ h9 => h9) rfl dJ5_append_3fe6f_2 ?_
  refine lv_iconst (v := 1) hx hb dJ5_append_3fe6f_5 (by decide) ?_
  refine lv_iadd hx hb dJ5_append_3fe6f_6 ?_
  rw [nI_1]
  have hFc := va_free (wc := [(b, .inr (1, [.ref v, .int 0, .int 0, .int (nI nn)])), (v, .inl (cB, cp, .inl ar))]) hD hS hA [0, 1] rfl
  refine k_go (va_runU (As := [.int (nI (nn + 1))]) (rest := []) ⟨hx, hb, hml, hown, hts⟩ (c_J5_ensureCapacityInternal_d00df l D cB cJ _ b v nn cp ar (hP.sub [0, 1] rfl) ((hD.sub [0, 1] (by decide) rfl).weaken (fun _ _ _ _ => trivial)) hf hnm hm (k := nn + 1) h60) (va_cwU 1 hts gJ5_append_3fe6f_J5_ensureCapacityInternal_d00df_u100J4 rfl rfl rfl rfl (by decide +kernel) ⟨(Nat.le_of_ble_eq_true rfl), (Nat.le_of_ble_eq_true rfl)⟩) (k_preV hE hS hFc (va_recv hK hP (ci := 1) (q0 := 0) rfl rfl)) rfl rfl hl.1 rfl (lv_room (Nat.le_of_ble_eq_true rfl)) dJ5_append_3fe6f_7 ⟨(Nat.le_of_ble_eq_true rfl), (Nat.le_of_ble_eq_true rfl)⟩) hS (fun q _ h => hFc q h) hFc (fun v9 H locs hp hz hk hS => ?_)
  obtain ⟨rfl, v_1, m_1, a_1, hP1, hD1, hf_1, hn_1, hk_1, hm_1⟩ := hp
  obtain ⟨hP, hD⟩ := va_join (wr := []) (wc := [(b, .inr (1, [.ref v, .int 0, .int 0, .int (nI nn)])), (v, .inl (cB, cp, .inl ar))]) (w1 := [(b, .inr (1, [.ref v_1, .int 0, .int 0, .int (nI nn)])), (v_1, .inl (cB, m_1, .inl a_1))]) hP hD [0, 1] [] rfl rfl (by decide) (by decide) hk hFc hP1 hD1
  have hP : va_P D vwCl [(b, .inr (1, [.ref v_1, .int 0, .int 0, .int (nI nn)])), (v_1, .inl (cB, m_1, .inl a_1))] H := hP
  have hD : va_D A [(b, .inr (1, [.ref v_1, .int 0, .int 0, .int (nI nn)])), (v_1, .inl (cB, m_1, .inl a_1))] := hD
  refine W.eq (g2 := F0 m 10 ls []) rfl ?_
  refine lv_aload_n hx hb dJ5_append_3fe6f_10 rfl (lv_at hl 0 rfl) ?_
  refine k_pU [] (rest := []) ⟨hx, hb, hml, hown, hts⟩ (c_J5_isLatin1_aae02 l D cB cJ _ b v_1 nn m_1 a_1 (hP.sub [0, 1] rfl)) (va_cwU 0 hts gJ5_append_3fe6f_J5_isLatin1_aae02_u83J4 rfl rfl rfl rfl (by decide +kernel) ⟨(Nat.le_of_ble_eq_true rfl), (Nat.le_of_ble_eq_true rfl)⟩) (va_recv hK hP (ci := 1) (q0 := 0) rfl rfl) hE hS rfl rfl hl.1 (Nat.le_of_ble_eq_true rfl) dJ5_append_3fe6f_11 ⟨(Nat.le_of_ble_eq_true rfl), (Nat.le_of_ble_eq_true rfl)⟩ (fun locs hS => ?_)
  refine W.eq (g2 := F0 m 14 ls [.int (j_J5_isLatin1_aae02 nn m_1 a_1)]) rfl ?_
  refine lv_if_eq (tgt := 45) hx hb dJ5_append_3fe6f_14 (by decide) (fun c_2 => ?_) (fun c_2 => ?_)
  · exact absurd c_2 (show ¬ (1 : Int32) = 0 by decide)
  · refine lv_iload_n hx hb dJ5_append_3fe6f_17 rfl (lv_at hl 1 rfl) ?_
    refine k_pS [.int a1] (rest := []) ⟨hx, hb, hml, hown, hts⟩ (c_J1_canEncode_fc78d l D cB cJ _ a1) (va_cwS 1 hts gJ5_append_3fe6f_J1_canEncode_fc78d rfl rfl rfl (by decide +kernel) ⟨(Nat.le_of_ble_eq_true rfl), (Nat.le_of_ble_eq_true rfl)⟩) hE hS rfl rfl hl.1 (Nat.le_of_ble_eq_true rfl) dJ5_append_3fe6f_18 ⟨(Nat.le_of_ble_eq_true rfl), (Nat.le_of_ble_eq_true rfl)⟩ (fun locs hS => ?_)
    refine W.eq (g2 := F0 m 21 ls [.int (j_J1_canEncode_fc78d a1)]) rfl ?_
    refine lv_if_eq (tgt := 45) hx hb dJ5_append_3fe6f_21 (by decide) (fun c_3 => ?_) (fun c_3 => ?_)
    · exact absurd c_3 (by rw [j_J1_canEncode_fc78d, if_neg hc]; decide)
    · refine lv_aload_n hx hb dJ5_append_3fe6f_24 rfl (lv_at hl 0 rfl) ?_
      refine va_get (D := D) (ci := 1) (v := .ref v_1) (C := RJ4) (T := TJ4) (N := 4) hx hb hts iw_J5_append_3fe6f_J4 hown hK hP 0 rfl rfl 0 (by decide) (hts (.fieldLink RJ5 15 "java/lang/AbstractStringBuilder" "value" "[B") (by decide +kernel)) (fun _ h9 => h9) rfl dJ5_append_3fe6f_25 ?_
      refine lv_aload_n hx hb dJ5_append_3fe6f_28 rfl (lv_at hl 0 rfl) ?_
      refine lv_dup hx hb dJ5_append_3fe6f_29 rfl ?_
      refine va_get (D := D) (ci := 1) (v := .int (nI nn)) (C := RJ4) (T := TJ4) (N := 4) hx hb hts iw_J5_append_3fe6f_J4 hown hK hP 0 rfl rfl 3 (by decide) (hts (.fieldLink RJ5 79 "java/lang/AbstractStringBuilder" "count" "I") (by decide +kernel)) (fun _ h9 => h9) rfl dJ5_append_3fe6f_30 ?_
      refine lv_dup_x1 hx hb dJ5_append_3fe6f_33 rfl rfl ?_
      refine lv_iconst (v := 1) hx hb dJ5_append_3fe6f_34 (by decide) ?_
      refine lv_iadd hx hb dJ5_append_3fe6f_35 ?_
      rw [nI_1]
      refine va_put (D := D) (ci := 1) (v := .int (nI (nn + 1))) (ty := .int) (C := RJ4) (T := TJ4) (N := 4) hx hb hts iw_J5_append_3fe6f_J4 tyJ4 tyJ4_ok nmJ4 hown hK hP hD hS 0 rfl rfl 3 (by decide) (hts (.fieldLink RJ5 79 "java/lang/AbstractStringBuilder" "count" "I") (by decide +kernel)) (fun _ h9 => h9) rfl (by decide +kernel) rfl rfl (Nat.le_of_ble_eq_true rfl) dJ5_append_3fe6f_36 (fun H locs hP hD hS => ?_)
      have hP : va_P D vwCl [(b, .inr (1, [.ref v_1, .int 0, .int 0, .int (nI (nn + 1))])), (v_1, .inl (cB, m_1, .inl a_1))] H := hP
      have hD : va_D A [(b, .inr (1, [.ref v_1, .int 0, .int 0, .int (nI (nn + 1))])), (v_1, .inl (cB, m_1, .inl a_1))] := hD
      refine lv_iload_n hx hb dJ5_append_3fe6f_39 rfl (lv_at hl 1 rfl) ?_
      refine lv_i2b (v := a1.toInt8.toInt32) hx hb dJ5_append_3fe6f_40 rfl ?_
      refine va_bast hx hb hK hP hD hS 1 0 rfl rfl (vp_in_nI (by omega) (by omega)) dJ5_append_3fe6f_41 (fun H locs hP hD hS => ?_)
      have hP : va_P D vwCl [(b, .inr (1, [.ref v_1, .int 0, .int 0, .int (nI (nn + 1))])), (v_1, .inl (cB, m_1, .inl (upd a_1 (nI nn).toNatClampNeg (vp_nar .byte a1.toInt8.toInt32))))] H := hP
      have hD : va_D A [(b, .inr (1, [.ref v_1, .int 0, .int 0, .int (nI (nn + 1))])), (v_1, .inl (cB, m_1, .inl (upd a_1 (nI nn).toNatClampNeg (vp_nar .byte a1.toInt8.toInt32))))] := hD
      refine lv_goto (tgt := 75) hx hb dJ5_append_3fe6f_42 (by decide) ?_
      refine lv_aload_n hx hb dJ5_append_3fe6f_75 rfl (lv_at hl 0 rfl) ?_
      exact k_aret hx hb hr (Or.inl ⟨_, rfl⟩) hlocks hS dJ5_append_3fe6f_76 ⟨rfl, _, _, _, hP.sub [0, 1] rfl, hD.sub [0, 1] (by decide) rfl, (sb_fitU hf_1 (by rw [pk_vb]; exact pk_fb _)), hk_1, hm_1⟩
set_option maxHeartbeats 4000000 in
set_option maxRecDepth 100000 in
theorem c_J4_append_cf468 (l : Launch) (D : va_G) (cB cJ : ClassId) (Hp : Heap) (b v nn cp : Nat) (ar : Nat → Int32) (hP : va_P D vwCl (wSB b v cB nn cp ar) Hp) (hD9 : va_D (fun _ => True) (wSB b v cB nn cp ar)) (a1 : Int32) (hf : sb_Fit ar) (hnm : nn ≤ cp) (hm : cp ≤ 130) (hc : ¬ 255 < a1) (h60 : nn + 1 ≤ 60) : kM l D cB cJ yJ4_append_cf468 wsJ4_append_cf468 ({ frames := 5, cells := 1, slots := 130, locals := 145 }) (va_A (wSB b v cB nn cp ar) Hp.size) Hp [.ref b, .int a1] (sbR D cB (va_A (wSB b v cB nn cp ar) Hp.size) b (nn + 1)) 1 130 := by
  refine Met.ofW (cc := cJ4_append_cf468) (maxL := 2) (ret := (some (.object "java/lang/StringBuilder"))) (by decide) rfl ?_
  intro p e s m args below meth c s₁ B hml hv
  obtain ⟨rfl, hHp, hE⟩ := hv
  subst hHp
  have hx := B.exec
  have hb := B.bytes
  have hr := B.returns
  have hts := atoms_spec (ws := wsJ4_append_cf468) B.pre
  have hown : s.vm.findClass RJ4 = some m.cls := findClass_of_methodNamed B.named
  have hlocks := B.notSynchronized
  have hK := hE.1
  have hD := hD9.self (sz := s.heap.size)
  generalize hAe : va_A (wSB b v cB nn cp ar) s.heap.size = A at hE hD ⊢
  have hA : ∀ q : Nat, s.heap.size ≤ q → A q := fun q h => by rw [← hAe]; exact Or.inr h
  have hS : va_S A s.heap s.heap [] := va_S.rf
  have hl := lv_entry ([.ref b, .int a1]) (n := 2) (Nat.le_of_ble_eq_true rfl)
  rw [lg_entry_eq]
  generalize (lg_sl ([.ref b, .int a1]) ++ List.replicate (2 - (lg_sl ([.ref b, .int a1])).length) Slot.unset).toArray = ls at hl ⊢
  have hl : lv_has ls 2 [(0, .ref b), (1, .int a1)] := hl
  refine lv_aload_n hx hb dJ4_append_cf468_0 rfl (lv_at hl 0 rfl) ?_
  refine lv_iload_n hx hb dJ4_append_cf468_1 rfl (lv_at hl 1 rfl) ?_
  have hFc := va_free (wc := [(b, .inr (1, [.ref v, .int 0, .int 0, .int (nI nn)])), (v, .inl (cB, cp, .inl ar))]) hD hS hA [0, 1] rfl
  refine k_go (va_runSU (As := [.int a1]) (rest := []) (hK.1 1 _ rfl).2 ⟨hx, hb, hml, hown, hts⟩ (c_J5_append_3fe6f l D cB cJ _ b v nn cp ar (hP.sub [0, 1] rfl) ((hD.sub [0, 1] (by decide) rfl).weaken (fun _ _ _ _ => trivial)) a1 hf hnm hm hc h60) (va_cwSU 1 hts gJ4_append_cf468_J5_append_3fe6f_s50 rfl rfl rfl (by decide +kernel) ⟨(Nat.le_of_ble_eq_true rfl), (Nat.le_of_ble_eq_true rfl)⟩) (k_preV hE hS hFc (va_recv hK hP (ci := 1) (q0 := 0) rfl rfl)) rfl rfl hl.1 rfl (lv_room (Nat.le_of_ble_eq_true rfl)) dJ4_append_cf468_2 ⟨(Nat.le_of_ble_eq_true rfl), (Nat.le_of_ble_eq_true rfl)⟩) hS (fun q _ h => hFc q h) hFc (fun v9 H locs hp hz hk hS => ?_)
  obtain ⟨rfl, v_1, m_1, a_1, hP1, hD1, hf_1, hn_1, hm_1⟩ := hp
  obtain ⟨hP, hD⟩ := va_join (wr := []) (wc := [(b, .inr (1, [.ref v, .int 0, .int 0, .int (nI nn)])), (v, .inl (cB, cp, .inl ar))]) (w1 := [(b, .inr (1, [.ref v_1, .int 0, .int 0, .int (nI (nn + 1))])), (v_1, .inl (cB, m_1, .inl a_1))]) hP hD [0, 1] [] rfl rfl (by decide) (by decide) hk hFc hP1 hD1
  have hP : va_P D vwCl [(b, .inr (1, [.ref v_1, .int 0, .int 0, .int (nI (nn + 1))])), (v_1, .inl (cB, m_1, .inl a_1))] H := hP
  have hD : va_D A [(b, .inr (1, [.ref v_1, .int 0, .int 0, .int (nI (nn + 1))])), (v_1, .inl (cB, m_1, .inl a_1))] := hD
  refine W.eq (g2 := F0 m 5 ls [.ref b]) rfl ?_
  refine lv_pop hx hb dJ4_append_cf468_5 rfl ?_
  refine lv_aload_n hx hb dJ4_append_cf468_6 rfl (lv_at hl 0 rfl) ?_
  exact k_aret hx hb hr (Or.inl ⟨_, rfl⟩) hlocks hS dJ4_append_cf468_7 ⟨rfl, _, _, _, hP.sub [0, 1] rfl, hD.sub [0, 1] (by decide) rfl, hf_1, hn_1, hm_1⟩
