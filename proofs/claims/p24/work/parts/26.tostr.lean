set_option maxHeartbeats 4000000 in
set_option maxRecDepth 100000 in
theorem c_J7_checkLength_df160 (l : Launch) (D : va_G) (cB cJ : ClassId) (Hp : Heap) (a0 a1 : Int32) (h9 : a0 ≤ a1) : kM l D cB cJ yJ7_checkLength_df160 wsJ7_checkLength_df160 ({ frames := 0, cells := 0, slots := 0, locals := 0 }) kF Hp [.int a0, .int a1] (kP none Hp) 0 0 := by
  refine Met.ofW (cc := cJ7_checkLength_df160) (maxL := 2) (ret := none) (by decide) rfl ?_
  intro p e s m args below meth c s₁ B hml hv
  obtain ⟨rfl, hHp, hE⟩ := hv
  subst hHp
  have hx := B.exec
  have hb := B.bytes
  have hr := B.returns
  have hts := atoms_spec (ws := wsJ7_checkLength_df160) B.pre
  have hown : s.vm.findClass RJ7 = some m.cls := findClass_of_methodNamed B.named
  have hlocks := B.notSynchronized
  have hK := hE.1
  have hS : va_S kF s.heap s.heap [] := va_S.rf
  have hl := lv_entry ([.int a0, .int a1]) (n := 2) (Nat.le_of_ble_eq_true rfl)
  rw [lg_entry_eq]
  generalize (lg_sl ([.int a0, .int a1]) ++ List.replicate (2 - (lg_sl ([.int a0, .int a1])).length) Slot.unset).toArray = ls at hl ⊢
  have hl : lv_has ls 2 [(0, .int a0), (1, .int a1)] := hl
  refine lv_iload_n hx hb dJ7_checkLength_df160_0 rfl (lv_at hl 1 rfl) ?_
  refine lv_iload_n hx hb dJ7_checkLength_df160_1 rfl (lv_at hl 0 rfl) ?_
  refine lv_icmp_ge (tgt := 37) hx hb dJ7_checkLength_df160_2 (by decide) (fun c_1 => ?_) (fun c_1 => ?_)
  · exact k_vret hx hb hr hlocks hS dJ7_checkLength_df160_37 ⟨rfl, rfl⟩
  · exact absurd h9 c_1
set_option maxHeartbeats 4000000 in
set_option maxRecDepth 100000 in
theorem c_J7_copyOfRangeByte_39247 (l : Launch) (D : va_G) (cB cJ : ClassId) (Hp : Heap) (v cp n : Nat) (ar : Nat → Int32) (hP : va_P D vwCl [(v, .inl (cB, cp, .inl ar))] Hp) (hD9 : va_D (fun _ => True) [(v, .inl (cB, cp, .inl ar))]) (hf : sb_Fit ar) (hn : n ≤ cp) (hc : cp ≤ 130) : kM l D cB cJ yJ7_copyOfRangeByte_39247 wsJ7_copyOfRangeByte_39247 ({ frames := 1, cells := 1, slots := 130, locals := 80 }) (va_A [(v, .inl (cB, cp, .inl ar))] Hp.size) Hp [.ref v, .int 0, .int (nI n)] (kRow2 D cB (va_A [(v, .inl (cB, cp, .inl ar))] Hp.size) v cp n ar) 1 130 := by
  refine Met.ofW (cc := cJ7_copyOfRangeByte_39247) (maxL := 5) (ret := (some (.array .byte))) (by decide) rfl ?_
  intro p e s m args below meth c s₁ B hml hv
  obtain ⟨rfl, hHp, hE⟩ := hv
  subst hHp
  have hx := B.exec
  have hb := B.bytes
  have hr := B.returns
  have hts := atoms_spec (ws := wsJ7_copyOfRangeByte_39247) B.pre
  have hown : s.vm.findClass RJ7 = some m.cls := findClass_of_methodNamed B.named
  have hlocks := B.notSynchronized
  have hK := hE.1
  have hD := hD9.self (sz := s.heap.size)
  generalize hAe : va_A [(v, .inl (cB, cp, .inl ar))] s.heap.size = A at hE hD ⊢
  have hA : ∀ q : Nat, s.heap.size ≤ q → A q := fun q h => by rw [← hAe]; exact Or.inr h
  have hS : va_S A s.heap s.heap [] := va_S.rf
  have hl := lv_entry ([.ref v, .int 0, .int (nI n)]) (n := 5) (Nat.le_of_ble_eq_true rfl)
  rw [lg_entry_eq]
  generalize (lg_sl ([.ref v, .int 0, .int (nI n)]) ++ List.replicate (5 - (lg_sl ([.ref v, .int 0, .int (nI n)])).length) Slot.unset).toArray = ls at hl ⊢
  have hl : lv_has ls 5 [(0, .ref v), (1, .int 0), (2, .int (nI n))] := hl
  refine lv_iload_n hx hb dJ7_copyOfRangeByte_39247_0 rfl (lv_at hl 1 rfl) ?_
  refine lv_iload_n hx hb dJ7_copyOfRangeByte_39247_1 rfl (lv_at hl 2 rfl) ?_
  refine k_pS [.int 0, .int (nI n)] (rest := []) ⟨hx, hb, hml, hown, hts⟩ (c_J7_checkLength_df160 l D cB cJ _ (0 : Int32) (nI n) (nI_pos' (by omega))) (va_cwS 2 hts gJ7_copyOfRangeByte_39247_J7_checkLength_df160 rfl rfl rfl (by decide +kernel) ⟨(Nat.le_of_ble_eq_true rfl), (Nat.le_of_ble_eq_true rfl)⟩) hE hS rfl rfl hl.1 (Nat.le_of_ble_eq_true rfl) dJ7_copyOfRangeByte_39247_2 ⟨(Nat.le_of_ble_eq_true rfl), (Nat.le_of_ble_eq_true rfl)⟩ (fun locs hS => ?_)
  refine W.eq (g2 := F0 m 5 ls []) rfl ?_
  refine lv_iload_n hx hb dJ7_copyOfRangeByte_39247_5 rfl (lv_at hl 2 rfl) ?_
  refine lv_iload_n hx hb dJ7_copyOfRangeByte_39247_6 rfl (lv_at hl 1 rfl) ?_
  refine lv_isub hx hb dJ7_copyOfRangeByte_39247_7 ?_
  rw [Int32.sub_zero]
  refine lv_istore_n (lv' := [(3, .int (nI n)), (0, .ref v), (1, .int 0), (2, .int (nI n))]) hx hb dJ7_copyOfRangeByte_39247_8 rfl hl (by decide) rfl (fun ls hl => ?_)
  refine lv_iload_n hx hb dJ7_copyOfRangeByte_39247_9 rfl (lv_at hl 0 rfl) ?_
  refine k_newB hx hb (hts (.arrayClass .byte) (by decide +kernel)) hK hP hD hS hA (n) (nI_pos (by omega)) (nI_clamp (by omega)) (by omega) (Nat.le_of_ble_eq_true rfl) (by show 0 + n ≤ 130; omega) dJ7_copyOfRangeByte_39247_10 (fun q_1 H hP hD hS => ?_)
  have hP : va_P D vwCl [(v, .inl (cB, cp, .inl ar)), (q_1, .inl (cB, n, .inl (fun _ => 0)))] H := hP
  have hD : va_D A [(v, .inl (cB, cp, .inl ar)), (q_1, .inl (cB, n, .inl (fun _ => 0)))] := hD
  refine lv_astore (lv' := [(4, .ref q_1), (3, .int (nI n)), (0, .ref v), (1, .int 0), (2, .int (nI n))]) hx hb dJ7_copyOfRangeByte_39247_12 hl (by decide) rfl (fun ls hl => ?_)
  refine lv_aload_n hx hb dJ7_copyOfRangeByte_39247_14 rfl (lv_at hl 2 rfl) ?_
  refine lv_iload_n hx hb dJ7_copyOfRangeByte_39247_15 rfl (lv_at hl 3 rfl) ?_
  refine lv_aload hx hb dJ7_copyOfRangeByte_39247_16 (lv_at hl 0 rfl) ?_
  refine lv_iconst (v := 0) hx hb dJ7_copyOfRangeByte_39247_18 (by decide) ?_
  refine lv_aload_n hx hb dJ7_copyOfRangeByte_39247_19 rfl (lv_at hl 2 rfl) ?_
  refine va_alen hx hb hK hP 0 0 rfl rfl (v := (nI cp)) rfl dJ7_copyOfRangeByte_39247_20 ?_
  refine lv_iload_n hx hb dJ7_copyOfRangeByte_39247_21 rfl (lv_at hl 3 rfl) ?_
  refine lv_isub hx hb dJ7_copyOfRangeByte_39247_22 ?_
  rw [Int32.sub_zero]
  refine lv_iload_n hx hb dJ7_copyOfRangeByte_39247_23 rfl (lv_at hl 1 rfl) ?_
  refine va_mmin hx hb (hml.trans hl.1.symm) hown (hts (.methodLink RJ7 304 Lib.Math.min.name) (by decide +kernel)) (hts (.static Lib.Math.min.name) (by decide +kernel)) (hts (.initialized "java/lang/Math") (by decide +kernel)) (hts (.code Lib.Math.min.name Lib.Math.min.code 2 (some .int)) (by decide +kernel)) (Nat.le_of_ble_eq_true rfl) (Nat.le_of_ble_eq_true rfl) (Nat.le_of_ble_eq_true rfl) (by show 0 + n ≤ 130; omega) dJ7_copyOfRangeByte_39247_24 ?_
  refine lv_topi (fun z_2 ez_2 => ?_)
  rw [show (if nI n < nI cp then nI n else nI cp) = nI n from by (rcases Nat.lt_or_ge n cp with q | q; exact if_pos (nI_lt q (by omega)); exact (if_neg (nI_nlt q (by omega))).trans (congrArg nI (by omega)))] at ez_2
  have hz : z_2.toNatClampNeg = n := by rw [ez_2]; exact nI_clamp (by omega)
  refine va_copyi hx hb (hml.trans hl.1.symm) hown (hts (.methodLink RJ7 150 arraycopyName) (by decide +kernel)) (hts (.native arraycopyName) (by decide +kernel)) (hts (.static arraycopyName) (by decide +kernel)) (hts (.initialized "java/lang/System") (by decide +kernel)) hK hP hD hS 0 1 0 0 rfl rfl rfl rfl rfl (by decide) (by decide) (by rw [ez_2]; exact nI_pos (by omega)) (by rw [hz]; show 0 + n ≤ cp; omega) (by rw [hz]; show 0 + n ≤ n; omega) (fun i _ => hf _) (Nat.le_of_ble_eq_true rfl) (Nat.le_of_ble_eq_true rfl) dJ7_copyOfRangeByte_39247_27 (fun H locs hP hD hS => ?_)
  have hP : va_P D vwCl [(v, .inl (cB, cp, .inl ar)), (q_1, .inl (cB, n, .inl (va_cpy ar (fun _ => 0) (0 : Int32).toNatClampNeg (0 : Int32).toNatClampNeg z_2.toNatClampNeg)))] H := hP
  have hD : va_D A [(v, .inl (cB, cp, .inl ar)), (q_1, .inl (cB, n, .inl (va_cpy ar (fun _ => 0) (0 : Int32).toNatClampNeg (0 : Int32).toNatClampNeg z_2.toNatClampNeg)))] := hD
  refine lv_aload hx hb dJ7_copyOfRangeByte_39247_30 (lv_at hl 0 rfl) ?_
  refine W.widen (k := 1) (n := 130) (Nat.le_of_ble_eq_true rfl) (by omega) ?_
  exact k_aret hx hb hr (Or.inr ⟨_, rfl⟩) hlocks hS dJ7_copyOfRangeByte_39247_32 ⟨_, _, rfl, hP.sub [0, 1] rfl, hD.sub [0, 1] (by decide) rfl, (sb_fitC hf sb_fit0)⟩
set_option maxHeartbeats 4000000 in
set_option maxRecDepth 100000 in
theorem c_J7_copyOfRange_39247 (l : Launch) (D : va_G) (cB cJ : ClassId) (Hp : Heap) (v cp n : Nat) (ar : Nat → Int32) (hP : va_P D vwCl [(v, .inl (cB, cp, .inl ar))] Hp) (hD9 : va_D (fun _ => True) [(v, .inl (cB, cp, .inl ar))]) (hf : sb_Fit ar) (hn : n ≤ cp) (hc : cp ≤ 130) : kM l D cB cJ yJ7_copyOfRange_39247 wsJ7_copyOfRange_39247 ({ frames := 2, cells := 1, slots := 130, locals := 104 }) (va_A [(v, .inl (cB, cp, .inl ar))] Hp.size) Hp [.ref v, .int 0, .int (nI n)] (kRow2 D cB (va_A [(v, .inl (cB, cp, .inl ar))] Hp.size) v cp n ar) 1 130 := by
  refine Met.ofW (cc := cJ7_copyOfRange_39247) (maxL := 3) (ret := (some (.array .byte))) (by decide) rfl ?_
  intro p e s m args below meth c s₁ B hml hv
  obtain ⟨rfl, hHp, hE⟩ := hv
  subst hHp
  have hx := B.exec
  have hb := B.bytes
  have hr := B.returns
  have hts := atoms_spec (ws := wsJ7_copyOfRange_39247) B.pre
  have hown : s.vm.findClass RJ7 = some m.cls := findClass_of_methodNamed B.named
  have hlocks := B.notSynchronized
  have hK := hE.1
  have hD := hD9.self (sz := s.heap.size)
  generalize hAe : va_A [(v, .inl (cB, cp, .inl ar))] s.heap.size = A at hE hD ⊢
  have hA : ∀ q : Nat, s.heap.size ≤ q → A q := fun q h => by rw [← hAe]; exact Or.inr h
  have hS : va_S A s.heap s.heap [] := va_S.rf
  have hl := lv_entry ([.ref v, .int 0, .int (nI n)]) (n := 3) (Nat.le_of_ble_eq_true rfl)
  rw [lg_entry_eq]
  generalize (lg_sl ([.ref v, .int 0, .int (nI n)]) ++ List.replicate (3 - (lg_sl ([.ref v, .int 0, .int (nI n)])).length) Slot.unset).toArray = ls at hl ⊢
  have hl : lv_has ls 3 [(0, .ref v), (1, .int 0), (2, .int (nI n))] := hl
  refine lv_iload_n hx hb dJ7_copyOfRange_39247_0 rfl (lv_at hl 1 rfl) ?_
  refine lv_if_ne (tgt := 10) hx hb dJ7_copyOfRange_39247_1 (by decide) (fun c_1 => ?_) (fun c_1 => ?_)
  · exact absurd (by decide) c_1
  · refine lv_iload_n hx hb dJ7_copyOfRange_39247_4 rfl (lv_at hl 2 rfl) ?_
    refine lv_aload_n hx hb dJ7_copyOfRange_39247_5 rfl (lv_at hl 0 rfl) ?_
    refine va_alen hx hb hK hP 0 0 rfl rfl (v := (nI cp)) rfl dJ7_copyOfRange_39247_6 ?_
    refine lv_icmp_eq (tgt := 17) hx hb dJ7_copyOfRange_39247_7 (by decide) (fun c_2 => ?_) (fun c_2 => ?_)
    · refine lv_aload_n hx hb dJ7_copyOfRange_39247_17 rfl (lv_at hl 0 rfl) ?_
      have hcB : s.vm.findClass "[B" = some cB := (hK.2 0 _ rfl).2
      refine va_clone hx hb (hml.trans hl.1.symm) hown (hts (.methodLink RJ7 310 ⟨"[B", "clone", "()Ljava/lang/Object;"⟩) (by decide +kernel)) (hts (.sameMethod "[B" "java/lang/Object" "clone" "()Ljava/lang/Object;") (by decide +kernel)) (hts (.native ⟨"java/lang/Object", "clone", "()Ljava/lang/Object;"⟩) (by decide +kernel)) (hts (.instanceMethod ⟨"java/lang/Object", "clone", "()Ljava/lang/Object;"⟩) (by decide +kernel)) (hts (.selects "[B" ⟨"[B", "clone", "()Ljava/lang/Object;"⟩ ⟨"java/lang/Object", "clone", "()Ljava/lang/Object;"⟩) (by decide +kernel)) hE.2.2.2.1.2.2.2.2.2 hK hP hD hS hA 0 0 rfl rfl hcB (k_fitR hf) (Nat.le_of_ble_eq_true rfl) (Nat.le_of_ble_eq_true rfl) (Nat.le_of_ble_eq_true rfl) (by show 0 + cp ≤ 130; omega) dJ7_copyOfRange_39247_18 (fun u H hK2 hP hD hS => ?_)
      have hP : va_P D vwCl [(v, .inl (cB, cp, .inl ar)), (u, .inl (cB, cp, .inl ar))] H := hP
      have hD : va_D A [(v, .inl (cB, cp, .inl ar)), (u, .inl (cB, cp, .inl ar))] := hD
      refine va_castA hx hb hown (hts (.classLink RJ7 311 "[B") (by decide +kernel)) hP 1 rfl hcB dJ7_copyOfRange_39247_21 ?_
      obtain rfl : cp = n := ((nI_eq (by omega) (by omega)).mp c_2).symm
      refine W.widen (k := 1) (n := 130) (Nat.le_of_ble_eq_true rfl) (by show 0 + cp ≤ 130; omega) ?_
      exact k_aret hx hb hr (Or.inr ⟨_, rfl⟩) hlocks hS dJ7_copyOfRange_39247_24 ⟨_, _, rfl, hP.sub [0, 1] rfl, hD.sub [0, 1] (by decide) rfl, hf⟩
    · refine lv_aload_n hx hb dJ7_copyOfRange_39247_10 rfl (lv_at hl 0 rfl) ?_
      refine lv_iload_n hx hb dJ7_copyOfRange_39247_11 rfl (lv_at hl 1 rfl) ?_
      refine lv_iload_n hx hb dJ7_copyOfRange_39247_12 rfl (lv_at hl 2 rfl) ?_
      have hFc := va_free (wc := [(v, .inl (cB, cp, .inl ar))]) hD hS hA [0] rfl
      refine k_go (va_runS (As := [.ref v, .int 0, .int (nI n)]) (rest := []) ⟨hx, hb, hml, hown, hts⟩ (c_J7_copyOfRangeByte_39247 l D cB cJ _ v cp n ar (hP.sub [0] rfl) ((hD.sub [0] (by decide) rfl).weaken (fun _ _ _ _ => trivial)) hf hn hc) (va_cwS 3 hts gJ7_copyOfRange_39247_J7_copyOfRangeByte_39247 rfl rfl rfl (by decide +kernel) ⟨(Nat.le_of_ble_eq_true rfl), (Nat.le_of_ble_eq_true rfl)⟩) (k_preS hE hS hFc) rfl rfl hl.1 rfl (lv_room (Nat.le_of_ble_eq_true rfl)) dJ7_copyOfRange_39247_13 ⟨(Nat.le_of_ble_eq_true rfl), (Nat.le_of_ble_eq_true rfl)⟩) hS (fun q _ h => hFc q h) hFc (fun v9 H locs hp hz hk hS => ?_)
      obtain ⟨u, fu, rfl, hP1, hD1, hfu⟩ := hp
      obtain ⟨hP, hD⟩ := va_join (wr := []) (wc := [(v, .inl (cB, cp, .inl ar))]) (w1 := [(v, .inl (cB, cp, .inl ar)), (u, .inl (cB, n, .inl fu))]) hP hD [0] [] rfl rfl (by decide) (by decide) hk hFc hP1 hD1
      have hP : va_P D vwCl [(v, .inl (cB, cp, .inl ar)), (u, .inl (cB, n, .inl fu))] H := hP
      have hD : va_D A [(v, .inl (cB, cp, .inl ar)), (u, .inl (cB, n, .inl fu))] := hD
      refine W.eq (g2 := F0 m 16 ls [.ref u]) rfl ?_
      refine W.widen (k := 1) (n := 130) (Nat.le_of_ble_eq_true rfl) (Nat.le_of_ble_eq_true rfl) ?_
      exact k_aret hx hb hr (Or.inr ⟨_, rfl⟩) hlocks hS dJ7_copyOfRange_39247_16 ⟨_, _, rfl, hP.sub [0, 1] rfl, hD.sub [0, 1] (by decide) rfl, hfu⟩
