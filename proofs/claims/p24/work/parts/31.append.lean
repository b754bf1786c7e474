def kFitV (D : va_G) (cB : ClassId) (A : Nat → Prop) (v cp : Nat) : Option Value → Heap → Prop := fun v1 H1 => v1 = none ∧ ∃ f : Nat → Int32, va_P D vwCl [(v, .inl (cB, cp, .inl f))] H1 ∧ va_D A [(v, .inl (cB, cp, .inl f))] ∧ sb_Fit f
def sbW (D : va_G) (cB : ClassId) (A : Nat → Prop) (b v nn cp : Nat) : Option Value → Heap → Prop := fun v1 H1 => v1 = none ∧ ∃ f : Nat → Int32, va_P D vwCl (wSB b v cB nn cp f) H1 ∧ va_D A (wSB b v cB nn cp f) ∧ sb_Fit f
set_option maxHeartbeats 4000000 in
set_option maxRecDepth 100000 in
theorem c_J0_getBytes_840e7 (l : Launch) (D : va_G) (cB cJ : ClassId) (Hp : Heap) (v cp nd : Nat) (ar : Nat → Int32) (hP : va_P D vwCl ([(v, .inl (cB, cp, .inl ar))]) Hp) (hD9 : va_D (fun _ => True) ([(v, .inl (cB, cp, .inl ar))])) (sq sk : Nat) (sf : Nat → Int32) (hsf : sb_Fit sf) (hf : sb_Fit ar) (hdk : nd + sk ≤ cp) (hm : cp ≤ 130) : kMR l D cB cJ yJ0_getBytes_840e7 wsJ0_getBytes_840e7 ({ frames := 1, cells := 0, slots := 0, locals := 80 }) (va_A ([(v, .inl (cB, cp, .inl ar))]) Hp.size) Hp [.ref sq, .ref v, .int (nI nd), .int 0] sq sk sf (kFitV D cB (va_A ([(v, .inl (cB, cp, .inl ar))]) Hp.size) v cp) 0 0 := by
  refine Met.ofW (cc := cJ0_getBytes_840e7) (maxL := 4) (ret := none) (by decide) rfl ?_
  intro p e s m args below meth c s₁ B hml hv
  obtain ⟨rfl, hHp, hE, hR⟩ := hv
  subst hHp
  have hx := B.exec
  have hb := B.bytes
  have hr := B.returns
  have hts := atoms_spec (ws := wsJ0_getBytes_840e7) B.pre
  have hown : s.vm.findClass RJ0 = some m.cls := findClass_of_methodNamed B.named
  have hlocks := B.notSynchronized
  have hK := hE.1
  have hD := hD9.self (sz := s.heap.size)
  generalize hAe : va_A ([(v, .inl (cB, cp, .inl ar))]) s.heap.size = A at hE hR hD ⊢
  have hA : ∀ q : Nat, s.heap.size ≤ q → A q := fun q h => by rw [← hAe]; exact Or.inr h
  obtain ⟨sv, hRv, hRt⟩ := hR.2.2
  have hS : va_S A s.heap s.heap [] := va_S.rf
  have hl := lv_entry ([.ref sq, .ref v, .int (nI nd), .int 0]) (n := 4) (Nat.le_of_ble_eq_true rfl)
  rw [lg_entry_eq]
  generalize (lg_sl ([.ref sq, .ref v, .int (nI nd), .int 0]) ++ List.replicate (4 - (lg_sl ([.ref sq, .ref v, .int (nI nd), .int 0])).length) Slot.unset).toArray = ls at hl ⊢
  have hl : lv_has ls 4 [(0, .ref sq), (1, .ref v), (2, .int (nI nd)), (3, .int 0)] := hl
  refine lv_aload_n hx hb dJ0_getBytes_840e7_0 rfl (lv_at hl 0 rfl) ?_
  refine k_pVR [] (rest := []) ⟨hx, hb, hml, hown, hts⟩ (c_J0_coder_7d493 l D cB cJ _ sq sk sf) (cwV 0 hts gJ0_getBytes_840e7_J0_coder_7d493 rfl rfl rfl (by decide +kernel) ⟨(Nat.le_of_ble_eq_true rfl), (Nat.le_of_ble_eq_true rfl)⟩) (va_Orecv hR.1 hS) hE hR hS rfl rfl hl.1 (Nat.le_of_ble_eq_true rfl) dJ0_getBytes_840e7_1 ⟨(Nat.le_of_ble_eq_true rfl), (Nat.le_of_ble_eq_true rfl)⟩ (fun locs hS => ?_)
  refine W.eq (g2 := F0 m 4 ls [.int 0]) rfl ?_
  refine lv_iload_n hx hb dJ0_getBytes_840e7_4 rfl (lv_at hl 3 rfl) ?_
  refine lv_icmp_ne (tgt := 28) hx hb dJ0_getBytes_840e7_5 (by decide) (fun c_1 => ?_) (fun c_1 => ?_)
  · exact absurd (by decide) c_1
  · refine lv_aload_n hx hb dJ0_getBytes_840e7_8 rfl (lv_at hl 0 rfl) ?_
    refine vk_getf hx hb hRv hS hown (hts (.fieldLink RJ0 9 "java/lang/String" "value" "[B") (by decide +kernel)) (fun _ h9 => h9) dJ0_getBytes_840e7_9 ?_
    refine lv_iconst (v := 0) hx hb dJ0_getBytes_840e7_12 (by decide) ?_
    refine lv_aload_n hx hb dJ0_getBytes_840e7_13 rfl (lv_at hl 1 rfl) ?_
    refine lv_iload_n hx hb dJ0_getBytes_840e7_14 rfl (lv_at hl 2 rfl) ?_
    refine lv_iload_n hx hb dJ0_getBytes_840e7_15 rfl (lv_at hl 3 rfl) ?_
    refine lv_ishl hx hb dJ0_getBytes_840e7_16 ?_
    rw [sb_shl0]
    refine lv_aload_n hx hb dJ0_getBytes_840e7_17 rfl (lv_at hl 0 rfl) ?_
    refine vk_getf hx hb hRv hS hown (hts (.fieldLink RJ0 9 "java/lang/String" "value" "[B") (by decide +kernel)) (fun _ h9 => h9) dJ0_getBytes_840e7_18 ?_
    refine va_tlen hx hb hRt hS (v := (nI sk)) rfl dJ0_getBytes_840e7_21 ?_
    refine lv_topi (fun z_2 ez_2 => ?_)
    have hz : z_2.toNatClampNeg = sk := by rw [ez_2]; exact nI_clamp (by omega)
    refine vk_copyt hx hb (hml.trans hl.1.symm) hown (hts (.methodLink RJ0 212 arraycopyName) (by decide +kernel)) (hts (.native arraycopyName) (by decide +kernel)) (hts (.static arraycopyName) (by decide +kernel)) (hts (.initialized "java/lang/System") (by decide +kernel)) hK hP hD hS hRt 0 0 rfl rfl (by decide) (nI_pos (by omega)) (by rw [ez_2]; exact nI_pos (by omega)) (by rw [hz]; show 0 + sk ≤ sk; omega) (by rw [hz, nI_clamp (by omega)]; omega) (fun i _ => hsf _) (Nat.le_of_ble_eq_true rfl) (Nat.le_of_ble_eq_true rfl) dJ0_getBytes_840e7_22 (fun H locs hP hD hS => ?_)
    have hP : va_P D vwCl [(v, .inl (cB, cp, .inl (va_cpy sf ar (0 : Int32).toNatClampNeg (nI nd).toNatClampNeg z_2.toNatClampNeg)))] H := hP
    have hD : va_D A [(v, .inl (cB, cp, .inl (va_cpy sf ar (0 : Int32).toNatClampNeg (nI nd).toNatClampNeg z_2.toNatClampNeg)))] := hD
    refine lv_goto (tgt := 43) hx hb dJ0_getBytes_840e7_25 (by decide) ?_
    exact k_vret hx hb hr hlocks hS dJ0_getBytes_840e7_43 ⟨rfl, _, hP, hD, sb_fitC hsf hf⟩
theorem iw_J5_putStringAt_47b60_J4 : ∀ w ∈ wsJ40, w ∈ wsJ5_putStringAt_47b60 := by decide +kernel
set_option maxHeartbeats 4000000 in
set_option maxRecDepth 100000 in
theorem c_J5_putStringAt_47b60 (l : Launch) (D : va_G) (cB cJ : ClassId) (Hp : Heap) (b v nn cp nd : Nat) (ar : Nat → Int32) (hP : va_P D vwCl (wSB b v cB nn cp ar) Hp) (hD9 : va_D (fun _ => True) (wSB b v cB nn cp ar)) (sq sk : Nat) (sf : Nat → Int32) (hsf : sb_Fit sf) (hf : sb_Fit ar) (hdk : nd + sk ≤ cp) (hm : cp ≤ 130) : kMR l D cB cJ yJ5_putStringAt_47b60 wsJ5_putStringAt_47b60 ({ frames := 2, cells := 0, slots := 0, locals := 103 }) (va_A (wSB b v cB nn cp ar) Hp.size) Hp [.ref b, .int (nI nd), .ref sq] sq sk sf (sbW D cB (va_A (wSB b v cB nn cp ar) Hp.size) b v nn cp) 0 0 := by
  refine Met.ofW (cc := cJ5_putStringAt_47b60) (maxL := 3) (ret := none) (by decide) rfl ?_
  intro p e s m args below meth c s₁ B hml hv
  obtain ⟨rfl, hHp, hE, hR⟩ := hv
  subst hHp
  have hx := B.exec
  have hb := B.bytes
  have hr := B.returns
  have hts := atoms_spec (ws := wsJ5_putStringAt_47b60) B.pre
  have hown : s.vm.findClass RJ5 = some m.cls := findClass_of_methodNamed B.named
  have hlocks := B.notSynchronized
  have hK := hE.1
  have hD := hD9.self (sz := s.heap.size)
  generalize hAe : va_A (wSB b v cB nn cp ar) s.heap.size = A at hE hR hD ⊢
  have hA : ∀ q : Nat, s.heap.size ≤ q → A q := fun q h => by rw [← hAe]; exact Or.inr h
  obtain ⟨sv, hRv, hRt⟩ := hR.2.2
  have hS : va_S A s.heap s.heap [] := va_S.rf
  have hl := lv_entry ([.ref b, .int (nI nd), .ref sq]) (n := 3) (Nat.le_of_ble_eq_true rfl)
  rw [lg_entry_eq]
  generalize (lg_sl ([.ref b, .int (nI nd), .ref sq]) ++ List.replicate (3 - (lg_sl ([.ref b, .int (nI nd), .ref sq])).length) Slot.unset).toArray = ls at hl ⊢
  have hl : lv_has ls 3 [(0, .ref b), (1, .int (nI nd)), (2, .ref sq)] := hl
  refine lv_aload_n hx hb dJ5_putStringAt_47b60_0 rfl (lv_at hl 0 rfl) ?_
  refine lv_aload_n hx hb dJ5_putStringAt_47b60_1 rfl (lv_at hl 2 rfl) ?_
  refine k_pUR [.ref sq] (rest := []) ⟨hx, hb, hml, hown, hts⟩ (c_J5_inflateIfNeededFor_a7421 l D cB cJ _ b v nn cp ar sq sk sf (hP.sub [0, 1] rfl)) (va_cwU 1 hts gJ5_putStringAt_47b60_J5_inflateIfNeededFor_a7421_u397J4 rfl rfl rfl rfl (by decide +kernel) ⟨(Nat.le_of_ble_eq_true rfl), (Nat.le_of_ble_eq_true rfl)⟩) (va_recv hK hP (ci := 1) (q0 := 0) rfl rfl) hE hR hS rfl rfl hl.1 (Nat.le_of_ble_eq_true rfl) dJ5_putStringAt_47b60_2 ⟨(Nat.le_of_ble_eq_true rfl), (Nat.le_of_ble_eq_true rfl)⟩ (fun locs hS => ?_)
  refine W.eq (g2 := F0 m 5 ls []) rfl ?_
  refine lv_aload_n hx hb dJ5_putStringAt_47b60_5 rfl (lv_at hl 2 rfl) ?_
  refine lv_aload_n hx hb dJ5_putStringAt_47b60_6 rfl (lv_at hl 0 rfl) ?_
  refine va_get (D := D) (ci := 1) (v := .ref v) (C := RJ4) (T := TJ4) (N := 4) hx hb hts iw_J5_putStringAt_47b60_J4 hown hK hP 0 rfl rfl 0 (by decide) (hts (.fieldLink RJ5 15 "java/lang/AbstractStringBuilder" "value" "[B") (by decide +kernel)) (fun _ h9 => h9) rfl dJ5_putStringAt_47b60_7 ?_
  refine lv_iload_n hx hb dJ5_putStringAt_47b60_10 rfl (lv_at hl 1 rfl) ?_
  refine lv_aload_n hx hb dJ5_putStringAt_47b60_11 rfl (lv_at hl 0 rfl) ?_
  refine va_get (D := D) (ci := 1) (v := .int 0) (C := RJ4) (T := TJ4) (N := 4) hx hb hts iw_J5_putStringAt_47b60_J4 hown hK hP 0 rfl rfl 1 (by decide) (hts (.fieldLink RJ5 22 "java/lang/AbstractStringBuilder" "coder" "B") (by decide +kernel)) (fun _ h9 => h9) rfl dJ5_putStringAt_47b60_12 ?_
  have hFc := va_free (wc := [(v, .inl (cB, cp, .inl ar))]) hD hS hA [1] rfl
  refine k_go (va_runV (As := [.ref v, .int (nI nd), .int 0]) (rest := []) ⟨hx, hb, hml, hown, hts⟩ (c_J0_getBytes_840e7 l D cB cJ _ v cp nd ar (hP.sub [1] rfl) ((hD.sub [1] (by decide) rfl).weaken (fun _ _ _ _ => trivial)) sq sk sf hsf hf (by omega) hm) (cwV 3 hts gJ5_putStringAt_47b60_J0_getBytes_840e7 rfl rfl rfl (by decide +kernel) ⟨(Nat.le_of_ble_eq_true rfl), (Nat.le_of_ble_eq_true rfl)⟩) (k_preRV hE hR hS hFc (va_Orecv hR.1 hS)) rfl rfl hl.1 rfl (lv_room (Nat.le_of_ble_eq_true rfl)) dJ5_putStringAt_47b60_15 ⟨(Nat.le_of_ble_eq_true rfl), (Nat.le_of_ble_eq_true rfl)⟩) hS (fun q _ h => hFc q h) hFc (fun v9 H locs hp hz hk hS => ?_)
  obtain ⟨rfl, f_1, hP1, hD1, hf_1⟩ := hp
  obtain ⟨hP, hD⟩ := va_join (wr := [(b, .inr (1, [.ref v, .int 0, .int 0, .int (nI nn)]))]) (wc := [(v, .inl (cB, cp, .inl ar))]) (w1 := [(v, .inl (cB, cp, .inl f_1))]) hP hD [1] [0] rfl rfl (by decide) (by decide) hk hFc hP1 hD1
  have hP : va_P D vwCl [(b, .inr (1, [.ref v, .int 0, .int 0, .int (nI nn)])), (v, .inl (cB, cp, .inl f_1))] H := hP
  have hD : va_D A [(b, .inr (1, [.ref v, .int 0, .int 0, .int (nI nn)])), (v, .inl (cB, cp, .inl f_1))] := hD
  refine W.eq (g2 := F0 m 18 ls []) rfl ?_
  exact k_vret hx hb hr hlocks hS dJ5_putStringAt_47b60_18 ⟨rfl, _, hP.sub [0, 1] rfl, hD.sub [0, 1] (by decide) rfl, hf_1⟩
theorem iw_J5_append_cf1ce_J4 : ∀ w ∈ wsJ40, w ∈ wsJ5_append_cf1ce := by decide +kernel
set_option maxHeartbeats 4000000 in
set_option maxRecDepth 100000 in
theorem c_J5_append_cf1ce (l : Launch) (D : va_G) (cB cJ : ClassId) (Hp : Heap) (b v nn cp : Nat) (ar : Nat → Int32) (hP : va_P D vwCl (wSB b v cB nn cp ar) Hp) (hD9 : va_D (fun _ => True) (wSB b v cB nn cp ar)) (sq sk : Nat) (sf : Nat → Int32) (hsf : sb_Fit sf) (hf : sb_Fit ar) (hnm : nn ≤ cp) (hm : cp ≤ 130) (h60 : nn + sk ≤ 60) : kMR l D cB cJ yJ5_append_cf1ce wsJ5_append_cf1ce ({ frames := 4, cells := 1, slots := 130, locals := 125 }) (va_A (wSB b v cB nn cp ar) Hp.size) Hp [.ref b, .ref sq] sq sk sf (sbR D cB (va_A (wSB b v cB nn cp ar) Hp.size) b (nn + sk)) 1 130 := by
  refine Met.ofW (cc := cJ5_append_cf1ce) (maxL := 3) (ret := (some (.object "java/lang/AbstractStringBuilder"))) (by decide) rfl ?_
  intro p e s m args below meth c s₁ B hml hv
  obtain ⟨rfl, hHp, hE, hR⟩ := hv
  subst hHp
  have hx := B.exec
  have hb := B.bytes
  have hr := B.returns
  have hts := atoms_spec (ws := wsJ5_append_cf1ce) B.pre
  have hown : s.vm.findClass RJ5 = some m.cls := findClass_of_methodNamed B.named
  have hlocks := B.notSynchronized
  have hK := hE.1
  have hD := hD9.self (sz := s.heap.size)
  generalize hAe : va_A (wSB b v cB nn cp ar) s.heap.size = A at hE hR hD ⊢
  have hA : ∀ q : Nat, s.heap.size ≤ q → A q := fun q h => by rw [← hAe]; exact Or.inr h
  obtain ⟨sv, hRv, hRt⟩ := hR.2.2
  have hS : va_S A s.heap s.heap [] := va_S.rf
  have hl := lv_entry ([.ref b, .ref sq]) (n := 3) (Nat.le_of_ble_eq_true rfl)
  rw [lg_entry_eq]
  generalize (lg_sl ([.ref b, .ref sq]) ++ List.replicate (3 - (lg_sl ([.ref b, .ref sq])).length) Slot.unset).toArray = ls at hl ⊢
  have hl : lv_has ls 3 [(0, .ref b), (1, .ref sq)] := hl
  refine lv_aload_n hx hb dJ5_append_cf1ce_0 rfl (lv_at hl 1 rfl) ?_
  refine lv_ifnonnull (tgt := 9) hx hb dJ5_append_cf1ce_1 (by decide) ?_
  refine lv_aload_n hx hb dJ5_append_cf1ce_9 rfl (lv_at hl 1 rfl) ?_
  refine k_pVR [] (rest := []) ⟨hx, hb, hml, hown, hts⟩ (c_J0_length_8abf5 l D cB cJ _ sq sk sf) (cwV 0 hts gJ5_append_cf1ce_J0_length_8abf5 rfl rfl rfl (by decide +kernel) ⟨(Nat.le_of_ble_eq_true rfl), (Nat.le_of_ble_eq_true rfl)⟩) (va_Orecv hR.1 hS) hE hR hS rfl rfl hl.1 (Nat.le_of_ble_eq_true rfl) dJ5_append_cf1ce_10 ⟨(Nat.le_of_ble_eq_true rfl), (Nat.le_of_ble_eq_true rfl)⟩ (fun locs hS => ?_)
  refine W.eq (g2 := F0 m 13 ls [.int (nI sk)]) rfl ?_
  refine lv_istore_n (lv' := [(2, .int (nI sk)), (0, .ref b), (1, .ref sq)]) hx hb dJ5_append_cf1ce_13 rfl hl (by decide) rfl (fun ls hl => ?_)
  refine lv_aload_n hx hb dJ5_append_cf1ce_14 rfl (lv_at hl 1 rfl) ?_
  refine lv_aload_n hx hb dJ5_append_cf1ce_15 rfl (lv_at hl 1 rfl) ?_
  refine va_get (D := D) (ci := 1) (v := .int (nI nn)) (C := RJ4) (T := TJ4) (N := 4) hx hb hts iw_J5_append_cf1ce_J4 hown hK hP 0 rfl rfl 3 (by decide) (hts (.fieldLink RJ5 79 "java/lang/AbstractStringBuilder" "count" "I") (by decide +kernel)) (fun _ h9 => h9) rfl dJ5_append_cf1ce_16 ?_
  refine lv_iload_n hx hb dJ5_append_cf1ce_19 rfl (lv_at hl 0 rfl) ?_
  refine lv_iadd hx hb dJ5_append_cf1ce_20 ?_
  rw [nI_add]
  have hFc := va_free (wc := [(b, .inr (1, [.ref v, .int 0, .int 0, .int (nI nn)])), (v, .inl (cB, cp, .inl ar))]) hD hS hA [0, 1] rfl
  refine k_go (va_runU (As := [.int (nI (nn + sk))]) (rest := []) ⟨hx, hb, hml, hown, hts⟩ (c_J5_ensureCapacityInternal_d00df l D cB cJ _ b v nn cp ar (hP.sub [0, 1] rfl) ((hD.sub [0, 1] (by decide) rfl).weaken (fun _ _ _ _ => trivial)) hf hnm hm (k := nn + sk) h60) (va_cwU 1 hts gJ5_append_cf1ce_J5_ensureCapacityInternal_d00df_u100J4 rfl rfl rfl rfl (by decide +kernel) ⟨(Nat.le_of_ble_eq_true rfl), (Nat.le_of_ble_eq_true rfl)⟩) (k_preV hE hS hFc (va_recv hK hP (ci := 1) (q0 := 0) rfl rfl)) rfl rfl hl.1 rfl (lv_room (Nat.le_of_ble_eq_true rfl)) dJ5_append_cf1ce_21 ⟨(Nat.le_of_ble_eq_true rfl), (Nat.le_of_ble_eq_true rfl)⟩) hS (fun q _ h => hFc q h) hFc (fun v9 H locs hp hz hk hS => ?_)
  obtain ⟨rfl, v_1, m_1, a_1, hP1, hD1, hf_1, hn_1, hk_1, hm_1⟩ := hp
  obtain ⟨hP, hD⟩ := va_join (wr := []) (wc := [(b, .inr (1, [.ref v, .int 0, .int 0, .int (nI nn)])), (v, .inl (cB, cp, .inl ar))]) (w1 := [(b, .inr (1, [.ref v_1, .int 0, .int 0, .int (nI nn)])), (v_1, .inl (cB, m_1, .inl a_1))]) hP hD [0, 1] [] rfl rfl (by decide) (by decide) hk hFc hP1 hD1
  have hP : va_P D vwCl [(b, .inr (1, [.ref v_1, .int 0, .int 0, .int (nI nn)])), (v_1, .inl (cB, m_1, .inl a_1))] H := hP
  have hD : va_D A [(b, .inr (1, [.ref v_1, .int 0, .int 0, .int (nI nn)])), (v_1, .inl (cB, m_1, .inl a_1))] := hD
  refine W.eq (g2 := F0 m 24 ls []) rfl ?_
  refine lv_aload_n hx hb dJ5_append_cf1ce_24 rfl (lv_at hl 1 rfl) ?_
  refine lv_aload_n hx hb dJ5_append_cf1ce_25 rfl (lv_at hl 1 rfl) ?_
  refine va_get (D := D) (ci := 1) (v := .int (nI nn)) (C := RJ4) (T := TJ4) (N := 4) hx hb hts iw_J5_append_cf1ce_J4 hown hK hP 0 rfl rfl 3 (by decide) (hts (.fieldLink RJ5 79 "java/lang/AbstractStringBuilder" "count" "I") (by decide +kernel)) (fun _ h9 => h9) rfl dJ5_append_cf1ce_26 ?_
  refine lv_aload_n hx hb dJ5_append_cf1ce_29 rfl (lv_at hl 2 rfl) ?_
  have hFc := va_free (wc := [(b, .inr (1, [.ref v_1, .int 0, .int 0, .int (nI nn)])), (v_1, .inl (cB, m_1, .inl a_1))]) hD hS hA [0, 1] rfl
  refine k_go (va_runU (As := [.int (nI nn), .ref sq]) (rest := []) ⟨hx, hb, hml, hown, hts⟩ (c_J5_putStringAt_47b60 l D cB cJ _ b v_1 nn m_1 nn a_1 (hP.sub [0, 1] rfl) ((hD.sub [0, 1] (by decide) rfl).weaken (fun _ _ _ _ => trivial)) sq sk sf hsf hf_1 (by omega) hm_1) (va_cwU 2 hts gJ5_append_cf1ce_J5_putStringAt_47b60_u208J4 rfl rfl rfl rfl (by decide +kernel) ⟨(Nat.le_of_ble_eq_true rfl), (Nat.le_of_ble_eq_true rfl)⟩) (k_preRV hE hR hS hFc (va_recv hK hP (ci := 1) (q0 := 0) rfl rfl)) rfl rfl hl.1 rfl (lv_room (Nat.le_of_ble_eq_true rfl)) dJ5_append_cf1ce_30 ⟨(Nat.le_of_ble_eq_true rfl), (Nat.le_of_ble_eq_true rfl)⟩) hS (fun q _ h => hFc q h) hFc (fun v9 H locs hp hz hk hS => ?_)
  obtain ⟨rfl, f_2, hP1, hD1, hf_2⟩ := hp
  obtain ⟨hP, hD⟩ := va_join (wr := []) (wc := [(b, .inr (1, [.ref v_1, .int 0, .int 0, .int (nI nn)])), (v_1, .inl (cB, m_1, .inl a_1))]) (w1 := [(b, .inr (1, [.ref v_1, .int 0, .int 0, .int (nI nn)])), (v_1, .inl (cB, m_1, .inl f_2))]) hP hD [0, 1] [] rfl rfl (by decide) (by decide) hk hFc hP1 hD1
  have hP : va_P D vwCl [(b, .inr (1, [.ref v_1, .int 0, .int 0, .int (nI nn)])), (v_1, .inl (cB, m_1, .inl f_2))] H := hP
  have hD : va_D A [(b, .inr (1, [.ref v_1, .int 0, .int 0, .int (nI nn)])), (v_1, .inl (cB, m_1, .inl f_2))] := hD
  refine W.eq (g2 := F0 m 33 ls []) rfl ?_
  refine lv_aload_n hx hb dJ5_append_cf1ce_33 rfl (lv_at hl 1 rfl) ?_
  refine lv_dup hx hb dJ5_append_cf1ce_34 rfl ?_
  refine va_get (D := D) (ci := 1) (v := .int (nI nn)) (C := RJ4) (T := TJ4) (N := 4) hx hb hts iw_J5_append_cf1ce_J4 hown hK hP 0 rfl rfl 3 (by decide) (hts (.fieldLink RJ5 79 "java/lang/AbstractStringBuilder" "count" "I") (by decide +kernel)) (fun _ h9 => h9) rfl dJ5_append_cf1ce_35 ?_
  refine lv_iload_n hx hb dJ5_append_cf1ce_38 rfl (lv_at hl 0 rfl) ?_
  refine lv_iadd hx hb dJ5_append_cf1ce_39 ?_
  rw [nI_add]
  refine va_put (D := D) (ci := 1) (v := .int (nI (nn + sk))) (ty := .int) (C := RJ4) (T := TJ4) (N := 4) hx hb hts iw_J5_append_cf1ce_J4 tyJ4 tyJ4_ok nmJ4 hown hK hP hD hS 0 rfl rfl 3 (by decide) (hts (.fieldLink RJ5 79 "java/lang/AbstractStringBuilder" "count" "I") (by decide +kernel)) (fun _ h9 => h9) rfl (by decide +kernel) rfl rfl (Nat.le_of_ble_eq_true rfl) dJ5_append_cf1ce_40 (fun H locs hP hD hS => ?_)
  have hP : va_P D vwCl [(b, .inr (1, [.ref v_1, .int 0, .int 0, .int (nI (nn + sk))])), (v_1, .inl (cB, m_1, .inl f_2))] H := hP
  have hD : va_D A [(b, .inr (1, [.ref v_1, .int 0, .int 0, .int (nI (nn + sk))])), (v_1, .inl (cB, m_1, .inl f_2))] := hD
  refine lv_aload_n hx hb dJ5_append_cf1ce_43 rfl (lv_at hl 1 rfl) ?_
  exact k_aret hx hb hr (Or.inl ⟨_, rfl⟩) hlocks hS dJ5_append_cf1ce_44 ⟨rfl, _, _, _, hP.sub [0, 1] rfl, hD.sub [0, 1] (by decide) rfl, hf_2, hk_1, hm_1⟩
set_option maxHeartbeats 4000000 in
set_option maxRecDepth 100000 in
theorem c_J4_append_15ec4 (l : Launch) (D : va_G) (cB cJ : ClassId) (Hp : Heap) (b v nn cp : Nat) (ar : Nat → Int32) (hP : va_P D vwCl (wSB b v cB nn cp ar) Hp) (hD9 : va_D (fun _ => True) (wSB b v cB nn cp ar)) (sq sk : Nat) (sf : Nat → Int32) (hsf : sb_Fit sf) (hf : sb_Fit ar) (hnm : nn ≤ cp) (hm : cp ≤ 130) (h60 : nn + sk ≤ 60) : kMR l D cB cJ yJ4_append_15ec4 wsJ4_append_15ec4 ({ frames := 5, cells := 1, slots := 130, locals := 147 }) (va_A (wSB b v cB nn cp ar) Hp.size) Hp [.ref b, .ref sq] sq sk sf (sbR D cB (va_A (wSB b v cB nn cp ar) Hp.size) b (nn + sk)) 1 130 := by
  refine Met.ofW (cc := cJ4_append_15ec4) (maxL := 2) (ret := (some (.object "java/lang/StringBuilder"))) (by decide) rfl ?_
  intro p e s m args below meth c s₁ B hml hv
  obtain ⟨rfl, hHp, hE, hR⟩ := hv
  subst hHp
  have hx := B.exec
  have hb := B.bytes
  have hr := B.returns
  have hts := atoms_spec (ws := wsJ4_append_15ec4) B.pre
  have hown : s.vm.findClass RJ4 = some m.cls := findClass_of_methodNamed B.named
  have hlocks := B.notSynchronized
  have hK := hE.1
  have hD := hD9.self (sz := s.heap.size)
  generalize hAe : va_A (wSB b v cB nn cp ar) s.heap.size = A at hE hR hD ⊢
  have hA : ∀ q : Nat, s.heap.size ≤ q → A q := fun q h => by rw [← hAe]; exact Or.inr h
  obtain ⟨sv, hRv, hRt⟩ := hR.2.2
  have hS : va_S A s.heap s.heap [] := va_S.rf
  have hl := lv_entry ([.ref b, .ref sq]) (n := 2) (Nat.le_of_ble_eq_true rfl)
  rw [lg_entry_eq]
  generalize (lg_sl ([.ref b, .ref sq]) ++ List.replicate (2 - (lg_sl ([.ref b, .ref sq])).length) Slot.unset).toArray = ls at hl ⊢
  have hl : lv_has ls 2 [(0, .ref b), (1, .ref sq)] := hl
  refine lv_aload_n hx hb dJ4_append_15ec4_0 rfl (lv_at hl 0 rfl) ?_
  refine lv_aload_n hx hb dJ4_append_15ec4_1 rfl (lv_at hl 1 rfl) ?_
  have hFc := va_free (wc := [(b, .inr (1, [.ref v, .int 0, .int 0, .int (nI nn)])), (v, .inl (cB, cp, .inl ar))]) hD hS hA [0, 1] rfl
  refine k_go (va_runSU (As := [.ref sq]) (rest := []) (hK.1 1 _ rfl).2 ⟨hx, hb, hml, hown, hts⟩ (c_J5_append_cf1ce l D cB cJ _ b v nn cp ar (hP.sub [0, 1] rfl) ((hD.sub [0, 1] (by decide) rfl).weaken (fun _ _ _ _ => trivial)) sq sk sf hsf hf hnm hm h60) (va_cwSU 1 hts gJ4_append_15ec4_J5_append_cf1ce_s29 rfl rfl rfl (by decide +kernel) ⟨(Nat.le_of_ble_eq_true rfl), (Nat.le_of_ble_eq_true rfl)⟩) (k_preRV hE hR hS hFc (va_recv hK hP (ci := 1) (q0 := 0) rfl rfl)) rfl rfl hl.1 rfl (lv_room (Nat.le_of_ble_eq_true rfl)) dJ4_append_15ec4_2 ⟨(Nat.le_of_ble_eq_true rfl), (Nat.le_of_ble_eq_true rfl)⟩) hS (fun q _ h => hFc q h) hFc (fun v9 H locs hp hz hk hS => ?_)
  obtain ⟨rfl, v_1, m_1, a_1, hP1, hD1, hf_1, hn_1, hm_1⟩ := hp
  obtain ⟨hP, hD⟩ := va_join (wr := []) (wc := [(b, .inr (1, [.ref v, .int 0, .int 0, .int (nI nn)])), (v, .inl (cB, cp, .inl ar))]) (w1 := [(b, .inr (1, [.ref v_1, .int 0, .int 0, .int (nI (nn + sk))])), (v_1, .inl (cB, m_1, .inl a_1))]) hP hD [0, 1] [] rfl rfl (by decide) (by decide) hk hFc hP1 hD1
  have hP : va_P D vwCl [(b, .inr (1, [.ref v_1, .int 0, .int 0, .int (nI (nn + sk))])), (v_1, .inl (cB, m_1, .inl a_1))] H := hP
  have hD : va_D A [(b, .inr (1, [.ref v_1, .int 0, .int 0, .int (nI (nn + sk))])), (v_1, .inl (cB, m_1, .inl a_1))] := hD
  refine W.eq (g2 := F0 m 5 ls [.ref b]) rfl ?_
  refine lv_pop hx hb dJ4_append_15ec4_5 rfl ?_
  refine lv_aload_n hx hb dJ4_append_15ec4_6 rfl (lv_at hl 0 rfl) ?_
  exact k_aret hx hb hr (Or.inl ⟨_, rfl⟩) hlocks hS dJ4_append_15ec4_7 ⟨rfl, _, _, _, hP.sub [0, 1] rfl, hD.sub [0, 1] (by decide) rfl, hf_1, hn_1, hm_1⟩
