theorem iw_J5_append_c97b9_J4 : ∀ w ∈ wsJ40, w ∈ wsJ5_append_c97b9 := by decide +kernel
set_option maxHeartbeats 4000000 in
set_option maxRecDepth 100000 in
theorem c_J5_append_c97b9 (l : Launch) (D : va_G) (cB cJ : ClassId) (Hp : Heap) (b v nn cp : Nat) (ar : Nat → Int32) (hP : va_P D vwCl (wSB b v cB nn cp ar) Hp) (hD9 : va_D (fun _ => True) (wSB b v cB nn cp ar)) (w zz : Nat) (hf : sb_Fit ar) (hnm : nn ≤ cp) (hm : cp ≤ 130) (hw : w < 2 ^ 31) (hss9 : T_J6_stringSize_0f7a4 (nI w) ∧ j_J6_stringSize_0f7a4 (nI w) = nI zz) (hz1 : 1 ≤ zz) (hwz : w < 10 ^ zz) (h60 : nn + zz ≤ 60) : kM l D cB cJ yJ5_append_c97b9 wsJ5_append_c97b9 ({ frames := 4, cells := 1, slots := 130, locals := 124 }) (va_A (wSB b v cB nn cp ar) Hp.size) Hp [.ref b, .int (nI w)] (sbR D cB (va_A (wSB b v cB nn cp ar) Hp.size) b (nn + zz)) 1 130 := by
  refine Met.ofW (cc := cJ5_append_c97b9) (maxL := 4) (ret := (some (.object "java/lang/AbstractStringBuilder"))) (by decide) rfl ?_
  intro p e s m args below meth c s₁ B hml hv
  obtain ⟨rfl, hHp, hE⟩ := hv
  subst hHp
  have hx := B.exec
  have hb := B.bytes
  have hr := B.returns
  have hts := atoms_spec (ws := wsJ5_append_c97b9) B.pre
  have hown : s.vm.findClass RJ5 = some m.cls := findClass_of_methodNamed B.named
  have hlocks := B.notSynchronized
  have hK := hE.1
  have hD := hD9.self (sz := s.heap.size)
  generalize hAe : va_A (wSB b v cB nn cp ar) s.heap.size = A at hE hD ⊢
  have hA : ∀ q : Nat, s.heap.size ≤ q → A q := fun q h => by rw [← hAe]; exact Or.inr h
  have hsT := hss9.1
  have hss := hss9.2
  have hS : va_S A s.heap s.heap [] := va_S.rf
  have hl := lv_entry ([.ref b, .int (nI w)]) (n := 4) (Nat.le_of_ble_eq_true rfl)
  rw [lg_entry_eq]
  generalize (lg_sl ([.ref b, .int (nI w)]) ++ List.replicate (4 - (lg_sl ([.ref b, .int (nI w)])).length) Slot.unset).toArray = ls at hl ⊢
  have hl : lv_has ls 4 [(0, .ref b), (1, .int (nI w))] := hl
  refine lv_aload_n hx hb dJ5_append_c97b9_0 rfl (lv_at hl 0 rfl) ?_
  refine va_get (D := D) (ci := 1) (v := .int (nI nn)) (C := RJ4) (T := TJ4) (N := 4) hx hb hts iw_J5_append_c97b9_J4 hown hK hP 0 rfl rfl 3 (by decide) (hts (.fieldLink RJ5 79 "java/lang/AbstractStringBuilder" "count" "I") (by decide +kernel)) (fun _ h9 => h9) rfl dJ5_append_c97b9_1 ?_
  refine lv_istore_n (lv' := [(2, .int (nI nn)), (0, .ref b), (1, .int (nI w))]) hx hb dJ5_append_c97b9_4 rfl hl (by decide) rfl (fun ls hl => ?_)
  refine lv_iload_n hx hb dJ5_append_c97b9_5 rfl (lv_at hl 0 rfl) ?_
  refine lv_iload_n hx hb dJ5_append_c97b9_6 rfl (lv_at hl 2 rfl) ?_
  refine k_pS [.int (nI w)] (rest := [.int (nI nn)]) ⟨hx, hb, hml, hown, hts⟩ (c_J6_stringSize_0f7a4 l D cB cJ _ (nI w) hsT) (va_cwS 1 hts gJ5_append_c97b9_J6_stringSize_0f7a4 rfl rfl rfl (by decide +kernel) ⟨(Nat.le_of_ble_eq_true rfl), (Nat.le_of_ble_eq_true rfl)⟩) hE hS rfl rfl hl.1 (Nat.le_of_ble_eq_true rfl) dJ5_append_c97b9_7 ⟨(Nat.le_of_ble_eq_true rfl), (Nat.le_of_ble_eq_true rfl)⟩ (fun locs hS => ?_)
  refine W.eq (g2 := F0 m 10 ls [.int (j_J6_stringSize_0f7a4 (nI w)), .int (nI nn)]) rfl ?_
  rw [hss]
  refine lv_iadd hx hb dJ5_append_c97b9_10 ?_
  rw [nI_add]
  refine lv_istore_n (lv' := [(3, .int (nI (nn + zz))), (2, .int (nI nn)), (0, .ref b), (1, .int (nI w))]) hx hb dJ5_append_c97b9_11 rfl hl (by decide) rfl (fun ls hl => ?_)
  refine lv_aload_n hx hb dJ5_append_c97b9_12 rfl (lv_at hl 2 rfl) ?_
  refine lv_iload_n hx hb dJ5_append_c97b9_13 rfl (lv_at hl 0 rfl) ?_
  have hFc := va_free (wc := [(b, .inr (1, [.ref v, .int 0, .int 0, .int (nI nn)])), (v, .inl (cB, cp, .inl ar))]) hD hS hA [0, 1] rfl
  refine k_go (va_runU (As := [.int (nI (nn + zz))]) (rest := []) ⟨hx, hb, hml, hown, hts⟩ (c_J5_ensureCapacityInternal_d00df l D cB cJ _ b v nn cp ar (hP.sub [0, 1] rfl) ((hD.sub [0, 1] (by decide) rfl).weaken (fun _ _ _ _ => trivial)) hf hnm hm (k := nn + zz) h60) (va_cwU 1 hts gJ5_append_c97b9_J5_ensureCapacityInternal_d00df_u100J4 rfl rfl rfl rfl (by decide +kernel) ⟨(Nat.le_of_ble_eq_true rfl), (Nat.le_of_ble_eq_true rfl)⟩) (k_preV hE hS hFc (va_recv hK hP (ci := 1) (q0 := 0) rfl rfl)) rfl rfl hl.1 rfl (lv_room (Nat.le_of_ble_eq_true rfl)) dJ5_append_c97b9_14 ⟨(Nat.le_of_ble_eq_true rfl), (Nat.le_of_ble_eq_true rfl)⟩) hS (fun q _ h => hFc q h) hFc (fun v9 H locs hp hz hk hS => ?_)
  obtain ⟨rfl, v_1, m_1, a_1, hP1, hD1, hf_1, hn_1, hk_1, hm_1⟩ := hp
  obtain ⟨hP, hD⟩ := va_join (wr := []) (wc := [(b, .inr (1, [.ref v, .int 0, .int 0, .int (nI nn)])), (v, .inl (cB, cp, .inl ar))]) (w1 := [(b, .inr (1, [.ref v_1, .int 0, .int 0, .int (nI nn)])), (v_1, .inl (cB, m_1, .inl a_1))]) hP hD [0, 1] [] rfl rfl (by decide) (by decide) hk hFc hP1 hD1
  have hP : va_P D vwCl [(b, .inr (1, [.ref v_1, .int 0, .int 0, .int (nI nn)])), (v_1, .inl (cB, m_1, .inl a_1))] H := hP
  have hD : va_D A [(b, .inr (1, [.ref v_1, .int 0, .int 0, .int (nI nn)])), (v_1, .inl (cB, m_1, .inl a_1))] := hD
  refine W.eq (g2 := F0 m 17 ls []) rfl ?_
  refine lv_aload_n hx hb dJ5_append_c97b9_17 rfl (lv_at hl 2 rfl) ?_
  refine k_pU [] (rest := []) ⟨hx, hb, hml, hown, hts⟩ (c_J5_isLatin1_aae02 l D cB cJ _ b v_1 nn m_1 a_1 (hP.sub [0, 1] rfl)) (va_cwU 0 hts gJ5_append_c97b9_J5_isLatin1_aae02_u83J4 rfl rfl rfl rfl (by decide +kernel) ⟨(Nat.le_of_ble_eq_true rfl), (Nat.le_of_ble_eq_true rfl)⟩) (va_recv hK hP (ci := 1) (q0 := 0) rfl rfl) hE hS rfl rfl hl.1 (Nat.le_of_ble_eq_true rfl) dJ5_append_c97b9_18 ⟨(Nat.le_of_ble_eq_true rfl), (Nat.le_of_ble_eq_true rfl)⟩ (fun locs hS => ?_)
  refine W.eq (g2 := F0 m 21 ls [.int (j_J5_isLatin1_aae02 nn m_1 a_1)]) rfl ?_
  refine lv_if_eq (tgt := 37) hx hb dJ5_append_c97b9_21 (by decide) (fun c_2 => ?_) (fun c_2 => ?_)
  · exact absurd c_2 (show ¬ (1 : Int32) = 0 by decide)
  · refine lv_iload_n hx hb dJ5_append_c97b9_24 rfl (lv_at hl 3 rfl) ?_
    refine lv_iload_n hx hb dJ5_append_c97b9_25 rfl (lv_at hl 0 rfl) ?_
    refine lv_aload_n hx hb dJ5_append_c97b9_26 rfl (lv_at hl 2 rfl) ?_
    refine va_get (D := D) (ci := 1) (v := .ref v_1) (C := RJ4) (T := TJ4) (N := 4) hx hb hts iw_J5_append_c97b9_J4 hown hK hP 0 rfl rfl 0 (by decide) (hts (.fieldLink RJ5 15 "java/lang/AbstractStringBuilder" "value" "[B") (by decide +kernel)) (fun _ h9 => h9) rfl dJ5_append_c97b9_27 ?_
    have hFc := va_free (wc := [(v_1, .inl (cB, m_1, .inl a_1))]) hD hS hA [1] rfl
    refine k_go (va_runS (As := [.int (nI w), .int (nI (nn + zz)), .ref v_1]) (rest := []) ⟨hx, hb, hml, hown, hts⟩ (c_J6_getChars_ba4f3 l D cB cJ _ v_1 m_1 a_1 (hP.sub [1] rfl) ((hD.sub [1] (by decide) rfl).weaken (fun _ _ _ _ => trivial)) hf_1 (nI w) (nI (nn + zz)) (q_gcT _ w zz (nn + zz) (by omega) hw hwz hz1 (by omega) (by omega))) (va_cwS 3 hts gJ5_append_c97b9_J6_getChars_ba4f3 rfl rfl rfl (by decide +kernel) ⟨(Nat.le_of_ble_eq_true rfl), (Nat.le_of_ble_eq_true rfl)⟩) (k_preS hE hS hFc) rfl rfl hl.1 rfl (lv_room (Nat.le_of_ble_eq_true rfl)) dJ5_append_c97b9_30 ⟨(Nat.le_of_ble_eq_true rfl), (Nat.le_of_ble_eq_true rfl)⟩) hS (fun q _ h => hFc q h) hFc (fun v9 H locs hp hz hk hS => ?_)
    obtain ⟨⟨r_3, rfl⟩, f_3, hP1, hD1, hf_3⟩ := hp
    obtain ⟨hP, hD⟩ := va_join (wr := [(b, .inr (1, [.ref v_1, .int 0, .int 0, .int (nI nn)]))]) (wc := [(v_1, .inl (cB, m_1, .inl a_1))]) (w1 := [(v_1, .inl (cB, m_1, .inl f_3))]) hP hD [1] [0] rfl rfl (by decide) (by decide) hk hFc hP1 hD1
    have hP : va_P D vwCl [(b, .inr (1, [.ref v_1, .int 0, .int 0, .int (nI nn)])), (v_1, .inl (cB, m_1, .inl f_3))] H := hP
    have hD : va_D A [(b, .inr (1, [.ref v_1, .int 0, .int 0, .int (nI nn)])), (v_1, .inl (cB, m_1, .inl f_3))] := hD
    refine W.eq (g2 := F0 m 33 ls [.int r_3]) rfl ?_
    refine lv_pop hx hb dJ5_append_c97b9_33 rfl ?_
    refine lv_goto (tgt := 48) hx hb dJ5_append_c97b9_34 (by decide) ?_
    refine lv_aload_n hx hb dJ5_append_c97b9_48 rfl (lv_at hl 2 rfl) ?_
    refine lv_iload_n hx hb dJ5_append_c97b9_49 rfl (lv_at hl 0 rfl) ?_
    refine va_put (D := D) (ci := 1) (v := .int (nI (nn + zz))) (ty := .int) (C := RJ4) (T := TJ4) (N := 4) hx hb hts iw_J5_append_c97b9_J4 tyJ4 tyJ4_ok nmJ4 hown hK hP hD hS 0 rfl rfl 3 (by decide) (hts (.fieldLink RJ5 79 "java/lang/AbstractStringBuilder" "count" "I") (by decide +kernel)) (fun _ h9 => h9) rfl (by decide +kernel) rfl rfl (Nat.le_of_ble_eq_true rfl) dJ5_append_c97b9_50 (fun H locs hP hD hS => ?_)
    have hP : va_P D vwCl [(b, .inr (1, [.ref v_1, .int 0, .int 0, .int (nI (nn + zz))])), (v_1, .inl (cB, m_1, .inl f_3))] H := hP
    have hD : va_D A [(b, .inr (1, [.ref v_1, .int 0, .int 0, .int (nI (nn + zz))])), (v_1, .inl (cB, m_1, .inl f_3))] := hD
    refine lv_aload_n hx hb dJ5_append_c97b9_53 rfl (lv_at hl 2 rfl) ?_
    exact k_aret hx hb hr (Or.inl ⟨_, rfl⟩) hlocks hS dJ5_append_c97b9_54 ⟨rfl, _, _, _, hP.sub [0, 1] rfl, hD.sub [0, 1] (by decide) rfl, hf_3, hk_1, hm_1⟩
set_option maxHeartbeats 4000000 in
set_option maxRecDepth 100000 in
theorem c_J4_append_bf812 (l : Launch) (D : va_G) (cB cJ : ClassId) (Hp : Heap) (b v nn cp : Nat) (ar : Nat → Int32) (hP : va_P D vwCl (wSB b v cB nn cp ar) Hp) (hD9 : va_D (fun _ => True) (wSB b v cB nn cp ar)) (w zz : Nat) (hf : sb_Fit ar) (hnm : nn ≤ cp) (hm : cp ≤ 130) (hw : w < 2 ^ 31) (hss9 : T_J6_stringSize_0f7a4 (nI w) ∧ j_J6_stringSize_0f7a4 (nI w) = nI zz) (hz1 : 1 ≤ zz) (hwz : w < 10 ^ zz) (h60 : nn + zz ≤ 60) : kM l D cB cJ yJ4_append_bf812 wsJ4_append_bf812 ({ frames := 5, cells := 1, slots := 130, locals := 147 }) (va_A (wSB b v cB nn cp ar) Hp.size) Hp [.ref b, .int (nI w)] (sbR D cB (va_A (wSB b v cB nn cp ar) Hp.size) b (nn + zz)) 1 130 := by
  refine Met.ofW (cc := cJ4_append_bf812) (maxL := 2) (ret := (some (.object "java/lang/StringBuilder"))) (by decide) rfl ?_
  intro p e s m args below meth c s₁ B hml hv
  obtain ⟨rfl, hHp, hE⟩ := hv
  subst hHp
  have hx := B.exec
  have hb := B.bytes
  have hr := B.returns
  have hts := atoms_spec (ws := wsJ4_append_bf812) B.pre
  have hown : s.vm.findClass RJ4 = some m.cls := findClass_of_methodNamed B.named
  have hlocks := B.notSynchronized
  have hK := hE.1
  have hD := hD9.self (sz := s.heap.size)
  generalize hAe : va_A (wSB b v cB nn cp ar) s.heap.size = A at hE hD ⊢
  have hA : ∀ q : Nat, s.heap.size ≤ q → A q := fun q h => by rw [← hAe]; exact Or.inr h
  have hS : va_S A s.heap s.heap [] := va_S.rf
  have hl := lv_entry ([.ref b, .int (nI w)]) (n := 2) (Nat.le_of_ble_eq_true rfl)
  rw [lg_entry_eq]
  generalize (lg_sl ([.ref b, .int (nI w)]) ++ List.replicate (2 - (lg_sl ([.ref b, .int (nI w)])).length) Slot.unset).toArray = ls at hl ⊢
  have hl : lv_has ls 2 [(0, .ref b), (1, .int (nI w))] := hl
  refine lv_aload_n hx hb dJ4_append_bf812_0 rfl (lv_at hl 0 rfl) ?_
  refine lv_iload_n hx hb dJ4_append_bf812_1 rfl (lv_at hl 1 rfl) ?_
  have hFc := va_free (wc := [(b, .inr (1, [.ref v, .int 0, .int 0, .int (nI nn)])), (v, .inl (cB, cp, .inl ar))]) hD hS hA [0, 1] rfl
  refine k_go (va_runSU (As := [.int (nI w)]) (rest := []) (hK.1 1 _ rfl).2 ⟨hx, hb, hml, hown, hts⟩ (c_J5_append_c97b9 l D cB cJ _ b v nn cp ar (hP.sub [0, 1] rfl) ((hD.sub [0, 1] (by decide) rfl).weaken (fun _ _ _ _ => trivial)) w zz hf hnm hm hw hss9 hz1 hwz h60) (va_cwSU 1 hts gJ4_append_bf812_J5_append_c97b9_s53 rfl rfl rfl (by decide +kernel) ⟨(Nat.le_of_ble_eq_true rfl), (Nat.le_of_ble_eq_true rfl)⟩) (k_preV hE hS hFc (va_recv hK hP (ci := 1) (q0 := 0) rfl rfl)) rfl rfl hl.1 rfl (lv_room (Nat.le_of_ble_eq_true rfl)) dJ4_append_bf812_2 ⟨(Nat.le_of_ble_eq_true rfl), (Nat.le_of_ble_eq_true rfl)⟩) hS (fun q _ h => hFc q h) hFc (fun v9 H locs hp hz hk hS => ?_)
  obtain ⟨rfl, v_1, m_1, a_1, hP1, hD1, hf_1, hn_1, hm_1⟩ := hp
  obtain ⟨hP, hD⟩ := va_join (wr := []) (wc := [(b, .inr (1, [.ref v, .int 0, .int 0, .int (nI nn)])), (v, .inl (cB, cp, .inl ar))]) (w1 := [(b, .inr (1, [.ref v_1, .int 0, .int 0, .int (nI (nn + zz))])), (v_1, .inl (cB, m_1, .inl a_1))]) hP hD [0, 1] [] rfl rfl (by decide) (by decide) hk hFc hP1 hD1
  have hP : va_P D vwCl [(b, .inr (1, [.ref v_1, .int 0, .int 0, .int (nI (nn + zz))])), (v_1, .inl (cB, m_1, .inl a_1))] H := hP
  have hD : va_D A [(b, .inr (1, [.ref v_1, .int 0, .int 0, .int (nI (nn + zz))])), (v_1, .inl (cB, m_1, .inl a_1))] := hD
  refine W.eq (g2 := F0 m 5 ls [.ref b]) rfl ?_
  refine lv_pop hx hb dJ4_append_bf812_5 rfl ?_
  refine lv_aload_n hx hb dJ4_append_bf812_6 rfl (lv_at hl 0 rfl) ?_
  exact k_aret hx hb hr (Or.inl ⟨_, rfl⟩) hlocks hS dJ4_append_bf812_7 ⟨rfl, _, _, _, hP.sub [0, 1] rfl, hD.sub [0, 1] (by decide) rfl, hf_1, hn_1, hm_1⟩
theorem iw_J5_append_66267_J4 : ∀ w ∈ wsJ40, w ∈ wsJ5_append_66267 := by decide +kernel
set_option maxHeartbeats 4000000 in
set_option maxRecDepth 100000 in
theorem c_J5_append_66267 (l : Launch) (D : va_G) (cB cJ : ClassId) (Hp : Heap) (b v nn cp : Nat) (ar : Nat → Int32) (hP : va_P D vwCl (wSB b v cB nn cp ar) Hp) (hD9 : va_D (fun _ => True) (wSB b v cB nn cp ar)) (a1 : Int64) (zz : Nat) (hf : sb_Fit ar) (hnm : nn ≤ cp) (hm : cp ≤ 130) (hss9 : T_J13_stringSize_95d88 a1 ∧ j_J13_stringSize_95d88 a1 = nI zz) (hgT : ∀ cp p : Nat, cp < 2 ^ 30 → zz ≤ p → p ≤ cp → T_J13_getChars_11360 cp a1 (nI p)) (h60 : nn + zz ≤ 60) : kM l D cB cJ yJ5_append_66267 wsJ5_append_66267 ({ frames := 4, cells := 1, slots := 130, locals := 124 }) (va_A (wSB b v cB nn cp ar) Hp.size) Hp [.ref b, .long a1] (sbR D cB (va_A (wSB b v cB nn cp ar) Hp.size) b (nn + zz)) 1 130 := by
  refine Met.ofW (cc := cJ5_append_66267) (maxL := 5) (ret := (some (.object "java/lang/AbstractStringBuilder"))) (by decide) rfl ?_
  intro p e s m args below meth c s₁ B hml hv
  obtain ⟨rfl, hHp, hE⟩ := hv
  subst hHp
  have hx := B.exec
  have hb := B.bytes
  have hr := B.returns
  have hts := atoms_spec (ws := wsJ5_append_66267) B.pre
  have hown : s.vm.findClass RJ5 = some m.cls := findClass_of_methodNamed B.named
  have hlocks := B.notSynchronized
  have hK := hE.1
  have hD := hD9.self (sz := s.heap.size)
  generalize hAe : va_A (wSB b v cB nn cp ar) s.heap.size = A at hE hD ⊢
  have hA : ∀ q : Nat, s.heap.size ≤ q → A q := fun q h => by rw [← hAe]; exact Or.inr h
  have hsT := hss9.1
  have hss := hss9.2
  have hS : va_S A s.heap s.heap [] := va_S.rf
  have hl := lv_entry ([.ref b, .long a1]) (n := 5) (Nat.le_of_ble_eq_true rfl)
  rw [lg_entry_eq]
  generalize (lg_sl ([.ref b, .long a1]) ++ List.replicate (5 - (lg_sl ([.ref b, .long a1])).length) Slot.unset).toArray = ls at hl ⊢
  have hl : lv_has ls 5 [(0, .ref b), (1, .long a1)] := hl
  refine lv_aload_n hx hb dJ5_append_66267_0 rfl (lv_at hl 0 rfl) ?_
  refine va_get (D := D) (ci := 1) (v := .int (nI nn)) (C := RJ4) (T := TJ4) (N := 4) hx hb hts iw_J5_append_66267_J4 hown hK hP 0 rfl rfl 3 (by decide) (hts (.fieldLink RJ5 79 "java/lang/AbstractStringBuilder" "count" "I") (by decide +kernel)) (fun _ h9 => h9) rfl dJ5_append_66267_1 ?_
  refine lv_istore_n (lv' := [(3, .int (nI nn)), (0, .ref b), (1, .long a1)]) hx hb dJ5_append_66267_4 rfl hl (by decide) rfl (fun ls hl => ?_)
  refine lv_iload_n hx hb dJ5_append_66267_5 rfl (lv_at hl 0 rfl) ?_
  refine lv_lload_n hx hb dJ5_append_66267_6 rfl (lv_at hl 2 rfl) ?_
  refine k_pS [.long a1] (rest := [.int (nI nn)]) ⟨hx, hb, hml, hown, hts⟩ (c_J13_stringSize_95d88 l D cB cJ _ a1 hsT) (va_cwS 1 hts gJ5_append_66267_J13_stringSize_95d88 rfl rfl rfl (by decide +kernel) ⟨(Nat.le_of_ble_eq_true rfl), (Nat.le_of_ble_eq_true rfl)⟩) hE hS rfl rfl hl.1 (Nat.le_of_ble_eq_true rfl) dJ5_append_66267_7 ⟨(Nat.le_of_ble_eq_true rfl), (Nat.le_of_ble_eq_true rfl)⟩ (fun locs hS => ?_)
  refine W.eq (g2 := F0 m 10 ls [.int (j_J13_stringSize_95d88 a1), .int (nI nn)]) rfl ?_
  rw [hss]
  refine lv_iadd hx hb dJ5_append_66267_10 ?_
  rw [nI_add]
  refine lv_istore (lv' := [(4, .int (nI (nn + zz))), (3, .int (nI nn)), (0, .ref b), (1, .long a1)]) hx hb dJ5_append_66267_11 hl (by decide) rfl (fun ls hl => ?_)
  refine lv_aload_n hx hb dJ5_append_66267_13 rfl (lv_at hl 2 rfl) ?_
  refine lv_iload hx hb dJ5_append_66267_14 (lv_at hl 0 rfl) ?_
  have hFc := va_free (wc := [(b, .inr (1, [.ref v, .int 0, .int 0, .int (nI nn)])), (v, .inl (cB, cp, .inl ar))]) hD hS hA [0, 1] rfl
  refine k_go (va_runU (As := [.int (nI (nn + zz))]) (rest := []) ⟨hx, hb, hml, hown, hts⟩ (c_J5_ensureCapacityInternal_d00df l D cB cJ _ b v nn cp ar (hP.sub [0, 1] rfl) ((hD.sub [0, 1] (by decide) rfl).weaken (fun _ _ _ _ => trivial)) hf hnm hm (k := nn + zz) h60) (va_cwU 1 hts gJ5_append_66267_J5_ensureCapacityInternal_d00df_u100J4 rfl rfl rfl rfl (by decide +kernel) ⟨(Nat.le_of_ble_eq_true rfl), (Nat.le_of_ble_eq_true rfl)⟩) (k_preV hE hS hFc (va_recv hK hP (ci := 1) (q0 := 0) rfl rfl)) rfl rfl hl.1 rfl (lv_room (Nat.le_of_ble_eq_true rfl)) dJ5_append_66267_16 ⟨(Nat.le_of_ble_eq_true rfl), (Nat.le_of_ble_eq_true rfl)⟩) hS (fun q _ h => hFc q h) hFc (fun v9 H locs hp hz hk hS => ?_)
  obtain ⟨rfl, v_1, m_1, a_1, hP1, hD1, hf_1, hn_1, hk_1, hm_1⟩ := hp
  obtain ⟨hP, hD⟩ := va_join (wr := []) (wc := [(b, .inr (1, [.ref v, .int 0, .int 0, .int (nI nn)])), (v, .inl (cB, cp, .inl ar))]) (w1 := [(b, .inr (1, [.ref v_1, .int 0, .int 0, .int (nI nn)])), (v_1, .inl (cB, m_1, .inl a_1))]) hP hD [0, 1] [] rfl rfl (by decide) (by decide) hk hFc hP1 hD1
  have hP : va_P D vwCl [(b, .inr (1, [.ref v_1, .int 0, .int 0, .int (nI nn)])), (v_1, .inl (cB, m_1, .inl a_1))] H := hP
  have hD : va_D A [(b, .inr (1, [.ref v_1, .int 0, .int 0, .int (nI nn)])), (v_1, .inl (cB, m_1, .inl a_1))] := hD
  refine W.eq (g2 := F0 m 19 ls []) rfl ?_
  refine lv_aload_n hx hb dJ5_append_66267_19 rfl (lv_at hl 2 rfl) ?_
  refine k_pU [] (rest := []) ⟨hx, hb, hml, hown, hts⟩ (c_J5_isLatin1_aae02 l D cB cJ _ b v_1 nn m_1 a_1 (hP.sub [0, 1] rfl)) (va_cwU 0 hts gJ5_append_66267_J5_isLatin1_aae02_u83J4 rfl rfl rfl rfl (by decide +kernel) ⟨(Nat.le_of_ble_eq_true rfl), (Nat.le_of_ble_eq_true rfl)⟩) (va_recv hK hP (ci := 1) (q0 := 0) rfl rfl) hE hS rfl rfl hl.1 (Nat.le_of_ble_eq_true rfl) dJ5_append_66267_20 ⟨(Nat.le_of_ble_eq_true rfl), (Nat.le_of_ble_eq_true rfl)⟩ (fun locs hS => ?_)
  refine W.eq (g2 := F0 m 23 ls [.int (j_J5_isLatin1_aae02 nn m_1 a_1)]) rfl ?_
  refine lv_if_eq (tgt := 40) hx hb dJ5_append_66267_23 (by decide) (fun c_2 => ?_) (fun c_2 => ?_)
  · exact absurd c_2 (show ¬ (1 : Int32) = 0 by decide)
  · refine lv_lload_n hx hb dJ5_append_66267_26 rfl (lv_at hl 3 rfl) ?_
    refine lv_iload hx hb dJ5_append_66267_27 (lv_at hl 0 rfl) ?_
    refine lv_aload_n hx hb dJ5_append_66267_29 rfl (lv_at hl 2 rfl) ?_
    refine va_get (D := D) (ci := 1) (v := .ref v_1) (C := RJ4) (T := TJ4) (N := 4) hx hb hts iw_J5_append_66267_J4 hown hK hP 0 rfl rfl 0 (by decide) (hts (.fieldLink RJ5 15 "java/lang/AbstractStringBuilder" "value" "[B") (by decide +kernel)) (fun _ h9 => h9) rfl dJ5_append_66267_30 ?_
    have hFc := va_free (wc := [(v_1, .inl (cB, m_1, .inl a_1))]) hD hS hA [1] rfl
    refine k_go (va_runS (As := [.long a1, .int (nI (nn + zz)), .ref v_1]) (rest := []) ⟨hx, hb, hml, hown, hts⟩ (c_J13_getChars_11360 l D cB cJ _ v_1 m_1 a_1 (hP.sub [1] rfl) ((hD.sub [1] (by decide) rfl).weaken (fun _ _ _ _ => trivial)) hf_1 a1 (nI (nn + zz)) (hgT _ (nn + zz) (by omega) (by omega) (by omega))) (va_cwS 3 hts gJ5_append_66267_J13_getChars_11360 rfl rfl rfl (by decide +kernel) ⟨(Nat.le_of_ble_eq_true rfl), (Nat.le_of_ble_eq_true rfl)⟩) (k_preS hE hS hFc) rfl rfl hl.1 rfl (lv_room (Nat.le_of_ble_eq_true rfl)) dJ5_append_66267_33 ⟨(Nat.le_of_ble_eq_true rfl), (Nat.le_of_ble_eq_true rfl)⟩) hS (fun q _ h => hFc q h) hFc (fun v9 H locs hp hz hk hS => ?_)
    obtain ⟨⟨r_3, rfl⟩, f_3, hP1, hD1, hf_3⟩ := hp
    obtain ⟨hP, hD⟩ := va_join (wr := [(b, .inr (1, [.ref v_1, .int 0, .int 0, .int (nI nn)]))]) (wc := [(v_1, .inl (cB, m_1, .inl a_1))]) (w1 := [(v_1, .inl (cB, m_1, .inl f_3))]) hP hD [1] [0] rfl rfl (by decide) (by decide) hk hFc hP1 hD1
    have hP : va_P D vwCl [(b, .inr (1, [.ref v_1, .int 0, .int 0, .int (nI nn)])), (v_1, .inl (cB, m_1, .inl f_3))] H := hP
    have hD : va_D A [(b, .inr (1, [.ref v_1, .int 0, .int 0, .int (nI nn)])), (v_1, .inl (cB, m_1, .inl f_3))] := hD
    refine W.eq (g2 := F0 m 36 ls [.int r_3]) rfl ?_
    refine lv_pop hx hb dJ5_append_66267_36 rfl ?_
    refine lv_goto (tgt := 52) hx hb dJ5_append_66267_37 (by decide) ?_
    refine lv_aload_n hx hb dJ5_append_66267_52 rfl (lv_at hl 2 rfl) ?_
    refine lv_iload hx hb dJ5_append_66267_53 (lv_at hl 0 rfl) ?_
    refine va_put (D := D) (ci := 1) (v := .int (nI (nn + zz))) (ty := .int) (C := RJ4) (T := TJ4) (N := 4) hx hb hts iw_J5_append_66267_J4 tyJ4 tyJ4_ok nmJ4 hown hK hP hD hS 0 rfl rfl 3 (by decide) (hts (.fieldLink RJ5 79 "java/lang/AbstractStringBuilder" "count" "I") (by decide +kernel)) (fun _ h9 => h9) rfl (by decide +kernel) rfl rfl (Nat.le_of_ble_eq_true rfl) dJ5_append_66267_55 (fun H locs hP hD hS => ?_)
    have hP : va_P D vwCl [(b, .inr (1, [.ref v_1, .int 0, .int 0, .int (nI (nn + zz))])), (v_1, .inl (cB, m_1, .inl f_3))] H := hP
    have hD : va_D A [(b, .inr (1, [.ref v_1, .int 0, .int 0, .int (nI (nn + zz))])), (v_1, .inl (cB, m_1, .inl f_3))] := hD
    refine lv_aload_n hx hb dJ5_append_66267_58 rfl (lv_at hl 2 rfl) ?_
    exact k_aret hx hb hr (Or.inl ⟨_, rfl⟩) hlocks hS dJ5_append_66267_59 ⟨rfl, _, _, _, hP.sub [0, 1] rfl, hD.sub [0, 1] (by decide) rfl, hf_3, hk_1, hm_1⟩
set_option maxHeartbeats 4000000 in
set_option maxRecDepth 100000 in
theorem c_J4_append_f7089 (l : Launch) (D : va_G) (cB cJ : ClassId) (Hp : Heap) (b v nn cp : Nat) (ar : Nat → Int32) (hP : va_P D vwCl (wSB b v cB nn cp ar) Hp) (hD9 : va_D (fun _ => True) (wSB b v cB nn cp ar)) (a1 : Int64) (zz : Nat) (hf : sb_Fit ar) (hnm : nn ≤ cp) (hm : cp ≤ 130) (hss9 : T_J13_stringSize_95d88 a1 ∧ j_J13_stringSize_95d88 a1 = nI zz) (hgT : ∀ cp p : Nat, cp < 2 ^ 30 → zz ≤ p → p ≤ cp → T_J13_getChars_11360 cp a1 (nI p)) (h60 : nn + zz ≤ 60) : kM l D cB cJ yJ4_append_f7089 wsJ4_append_f7089 ({ frames := 5, cells := 1, slots := 130, locals := 148 }) (va_A (wSB b v cB nn cp ar) Hp.size) Hp [.ref b, .long a1] (sbR D cB (va_A (wSB b v cB nn cp ar) Hp.size) b (nn + zz)) 1 130 := by
  refine Met.ofW (cc := cJ4_append_f7089) (maxL := 3) (ret := (some (.object "java/lang/StringBuilder"))) (by decide) rfl ?_
  intro p e s m args below meth c s₁ B hml hv
  obtain ⟨rfl, hHp, hE⟩ := hv
  subst hHp
  have hx := B.exec
  have hb := B.bytes
  have hr := B.returns
  have hts := atoms_spec (ws := wsJ4_append_f7089) B.pre
  have hown : s.vm.findClass RJ4 = some m.cls := findClass_of_methodNamed B.named
  have hlocks := B.notSynchronized
  have hK := hE.1
  have hD := hD9.self (sz := s.heap.size)
  generalize hAe : va_A (wSB b v cB nn cp ar) s.heap.size = A at hE hD ⊢
  have hA : ∀ q : Nat, s.heap.size ≤ q → A q := fun q h => by rw [← hAe]; exact Or.inr h
  have hS : va_S A s.heap s.heap [] := va_S.rf
  have hl := lv_entry ([.ref b, .long a1]) (n := 3) (Nat.le_of_ble_eq_true rfl)
  rw [lg_entry_eq]
  generalize (lg_sl ([.ref b, .long a1]) ++ List.replicate (3 - (lg_sl ([.ref b, .long a1])).length) Slot.unset).toArray = ls at hl ⊢
  have hl : lv_has ls 3 [(0, .ref b), (1, .long a1)] := hl
  refine lv_aload_n hx hb dJ4_append_f7089_0 rfl (lv_at hl 0 rfl) ?_
  refine lv_lload_n hx hb dJ4_append_f7089_1 rfl (lv_at hl 1 rfl) ?_
  have hFc := va_free (wc := [(b, .inr (1, [.ref v, .int 0, .int 0, .int (nI nn)])), (v, .inl (cB, cp, .inl ar))]) hD hS hA [0, 1] rfl
  refine k_go (va_runSU (As := [.long a1]) (rest := []) (hK.1 1 _ rfl).2 ⟨hx, hb, hml, hown, hts⟩ (c_J5_append_66267 l D cB cJ _ b v nn cp ar (hP.sub [0, 1] rfl) ((hD.sub [0, 1] (by decide) rfl).weaken (fun _ _ _ _ => trivial)) a1 zz hf hnm hm hss9 hgT h60) (va_cwSU 1 hts gJ4_append_f7089_J5_append_66267_s56 rfl rfl rfl (by decide +kernel) ⟨(Nat.le_of_ble_eq_true rfl), (Nat.le_of_ble_eq_true rfl)⟩) (k_preV hE hS hFc (va_recv hK hP (ci := 1) (q0 := 0) rfl rfl)) rfl rfl hl.1 rfl (lv_room (Nat.le_of_ble_eq_true rfl)) dJ4_append_f7089_2 ⟨(Nat.le_of_ble_eq_true rfl), (Nat.le_of_ble_eq_true rfl)⟩) hS (fun q _ h => hFc q h) hFc (fun v9 H locs hp hz hk hS => ?_)
  obtain ⟨rfl, v_1, m_1, a_1, hP1, hD1, hf_1, hn_1, hm_1⟩ := hp
  obtain ⟨hP, hD⟩ := va_join (wr := []) (wc := [(b, .inr (1, [.ref v, .int 0, .int 0, .int (nI nn)])), (v, .inl (cB, cp, .inl ar))]) (w1 := [(b, .inr (1, [.ref v_1, .int 0, .int 0, .int (nI (nn + zz))])), (v_1, .inl (cB, m_1, .inl a_1))]) hP hD [0, 1] [] rfl rfl (by decide) (by decide) hk hFc hP1 hD1
  have hP : va_P D vwCl [(b, .inr (1, [.ref v_1, .int 0, .int 0, .int (nI (nn + zz))])), (v_1, .inl (cB, m_1, .inl a_1))] H := hP
  have hD : va_D A [(b, .inr (1, [.ref v_1, .int 0, .int 0, .int (nI (nn + zz))])), (v_1, .inl (cB, m_1, .inl a_1))] := hD
  refine W.eq (g2 := F0 m 5 ls [.ref b]) rfl ?_
  refine lv_pop hx hb dJ4_append_f7089_5 rfl ?_
  refine lv_aload_n hx hb dJ4_append_f7089_6 rfl (lv_at hl 0 rfl) ?_
  exact k_aret hx hb hr (Or.inl ⟨_, rfl⟩) hlocks hS dJ4_append_f7089_7 ⟨rfl, _, _, _, hP.sub [0, 1] rfl, hD.sub [0, 1] (by decide) rfl, hf_1, hn_1, hm_1⟩
