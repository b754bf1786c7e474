/-- a string in the world: its row of n letters -/
abbrev wST (q u : Nat) (cB : ClassId) (n : Nat) (f : Nat → Int32) : va_W := [(q, .inr (0, [.ref u, .int 0, .int 0, .int 0])), (u, .inl (cB, n, .inl f))]
def kST (D : va_G) (cB : ClassId) (A : Nat → Prop) (n : Nat) : Option Value → Heap → Prop := fun v1 H1 => ∃ (q u : Nat) (f : Nat → Int32), v1 = some (.ref q) ∧ va_P D vwCl (wST q u cB n f) H1 ∧ va_D A (wST q u cB n f) ∧ sb_Fit f
def kSI (D : va_G) (cB : ClassId) (A : Nat → Prop) (q n : Nat) : Option Value → Heap → Prop := fun v1 H1 => v1 = none ∧ ∃ (u : Nat) (f : Nat → Int32), va_P D vwCl (wST q u cB n f) H1 ∧ va_D A (wST q u cB n f) ∧ sb_Fit f
abbrev rm_J5_length_8abf5 : Room := { frames := 0, cells := 0, slots := 0, locals := 0 }
theorem iw_J5_length_8abf5_J4 : ∀ w ∈ wsJ40, w ∈ wsJ5_length_8abf5 := by decide +kernel
def j_J5_length_8abf5 (nn cp : Nat) (ar : Nat → Int32)  : Int32 := (nI nn)
set_option maxHeartbeats 4000000 in
set_option maxRecDepth 100000 in
theorem c_J5_length_8abf5 (l : Launch) (D : va_G) (cB cJ : ClassId) (Hp : Heap) (b v : Nat) (nn cp : Nat) (ar : Nat → Int32) (hP : va_P D vwCl (wSB b v cB nn cp ar) Hp)  : kM l D cB cJ yJ5_length_8abf5 wsJ5_length_8abf5 rm_J5_length_8abf5 kF Hp [.ref b] (kP (some (.int (j_J5_length_8abf5 nn cp ar ))) Hp) 0 0 := by
  refine Met.ofW (cc := cJ5_length_8abf5) (maxL := 1) (ret := (some .int)) (by decide) rfl ?_
  intro p e s m args below meth c s₁ B hml hv
  obtain ⟨rfl, hHp, hE⟩ := hv
  subst hHp
  have hx := B.exec
  have hb := B.bytes
  have hr := B.returns
  have hts := atoms_spec (ws := wsJ5_length_8abf5) B.pre
  have hown : s.vm.findClass RJ5 = some m.cls := findClass_of_methodNamed B.named
  have hlocks := B.notSynchronized
  have hK := hE.1
  have hS : va_S kF s.heap s.heap [] := va_S.rf
  have hl := lv_entry ([.ref b]) (n := 1) (Nat.le_of_ble_eq_true rfl)
  rw [lg_entry_eq]
  generalize (lg_sl ([.ref b]) ++ List.replicate (1 - (lg_sl ([.ref b])).length) Slot.unset).toArray = ls at hl ⊢
  have hl : lv_has ls 1 [(0, .ref b)] := hl
  have hJ : (j_J5_length_8abf5 nn cp ar ) = (nI nn) := rfl
  refine lv_aload_n hx hb dJ5_length_8abf5_0 rfl (lv_at hl 0 rfl) ?_
  refine va_get (D := D) (ci := 1) (v := .int (nI nn)) (C := RJ4) (T := TJ4) (N := 4) hx hb hts iw_J5_length_8abf5_J4 hown hK hP 0 rfl rfl 3 (by decide) (hts (.fieldLink RJ5 79 "java/lang/AbstractStringBuilder" "count" "I") (by decide +kernel)) (fun _ h9 => h9) rfl dJ5_length_8abf5_1 ?_
  exact k_iret hx hb hr hlocks hS dJ5_length_8abf5_4 ⟨by rw [hJ], rfl⟩
abbrev rm_J4_length_8abf5 : Room := { frames := 1, cells := 0, slots := 0, locals := 20 }
def j_J4_length_8abf5 (nn cp : Nat) (ar : Nat → Int32)  : Int32 := (j_J5_length_8abf5 nn cp ar)
set_option maxHeartbeats 4000000 in
set_option maxRecDepth 100000 in
theorem c_J4_length_8abf5 (l : Launch) (D : va_G) (cB cJ : ClassId) (Hp : Heap) (b v : Nat) (nn cp : Nat) (ar : Nat → Int32) (hP : va_P D vwCl (wSB b v cB nn cp ar) Hp)  : kM l D cB cJ yJ4_length_8abf5 wsJ4_length_8abf5 rm_J4_length_8abf5 kF Hp [.ref b] (kP (some (.int (j_J4_length_8abf5 nn cp ar ))) Hp) 0 0 := by
  refine Met.ofW (cc := cJ4_length_8abf5) (maxL := 1) (ret := (some .int)) (by decide) rfl ?_
  intro p e s m args below meth c s₁ B hml hv
  obtain ⟨rfl, hHp, hE⟩ := hv
  subst hHp
  have hx := B.exec
  have hb := B.bytes
  have hr := B.returns
  have hts := atoms_spec (ws := wsJ4_length_8abf5) B.pre
  have hown : s.vm.findClass RJ4 = some m.cls := findClass_of_methodNamed B.named
  have hlocks := B.notSynchronized
  have hK := hE.1
  have hS : va_S kF s.heap s.heap [] := va_S.rf
  have hl := lv_entry ([.ref b]) (n := 1) (Nat.le_of_ble_eq_true rfl)
  rw [lg_entry_eq]
  generalize (lg_sl ([.ref b]) ++ List.replicate (1 - (lg_sl ([.ref b])).length) Slot.unset).toArray = ls at hl ⊢
  have hl : lv_has ls 1 [(0, .ref b)] := hl
  have hJ : (j_J4_length_8abf5 nn cp ar ) = (j_J5_length_8abf5 nn cp ar) := rfl
  refine lv_aload_n hx hb dJ4_length_8abf5_0 rfl (lv_at hl 0 rfl) ?_
  refine k_pSU [] (rest := []) ⟨hx, hb, hml, hown, hts⟩ (c_J5_length_8abf5 l D cB cJ _ b v nn cp ar (hP.sub [0, 1] rfl)) (va_cwSU 0 hts gJ4_length_8abf5_J5_length_8abf5_s343 rfl rfl rfl (by decide +kernel) ⟨(Nat.le_of_ble_eq_true rfl), (Nat.le_of_ble_eq_true rfl)⟩) (va_recv hK hP (ci := 1) (q0 := 0) rfl rfl) (hK.1 1 _ rfl).2 hE hS rfl rfl hl.1 (Nat.le_of_ble_eq_true rfl) dJ4_length_8abf5_1 ⟨(Nat.le_of_ble_eq_true rfl), (Nat.le_of_ble_eq_true rfl)⟩ (fun locs hS => ?_)
  refine W.eq (g2 := F0 m 4 ls [.int (j_J5_length_8abf5 nn cp ar)]) rfl ?_
  exact k_iret hx hb hr hlocks hS dJ4_length_8abf5_4 ⟨by rw [hJ], rfl⟩
theorem iw_J5_getValue_6d5f1_J4 : ∀ w ∈ wsJ40, w ∈ wsJ5_getValue_6d5f1 := by decide +kernel
set_option maxHeartbeats 4000000 in
set_option maxRecDepth 100000 in
theorem c_J5_getValue_6d5f1 (l : Launch) (D : va_G) (cB cJ : ClassId) (Hp : Heap) (b v nn cp : Nat) (ar : Nat → Int32) (hP : va_P D vwCl (wSB b v cB nn cp ar) Hp) : kM l D cB cJ yJ5_getValue_6d5f1 wsJ5_getValue_6d5f1 ({ frames := 0, cells := 0, slots := 0, locals := 0 }) kF Hp [.ref b] (kP (some (.ref v)) Hp) 0 0 := by
  refine Met.ofW (cc := cJ5_getValue_6d5f1) (maxL := 1) (ret := (some (.array .byte))) (by decide) rfl ?_
  intro p e s m args below meth c s₁ B hml hv
  obtain ⟨rfl, hHp, hE⟩ := hv
  subst hHp
  have hx := B.exec
  have hb := B.bytes
  have hr := B.returns
  have hts := atoms_spec (ws := wsJ5_getValue_6d5f1) B.pre
  have hown : s.vm.findClass RJ5 = some m.cls := findClass_of_methodNamed B.named
  have hlocks := B.notSynchronized
  have hK := hE.1
  have hS : va_S kF s.heap s.heap [] := va_S.rf
  have hl := lv_entry ([.ref b]) (n := 1) (Nat.le_of_ble_eq_true rfl)
  rw [lg_entry_eq]
  generalize (lg_sl ([.ref b]) ++ List.replicate (1 - (lg_sl ([.ref b])).length) Slot.unset).toArray = ls at hl ⊢
  have hl : lv_has ls 1 [(0, .ref b)] := hl
  refine lv_aload_n hx hb dJ5_getValue_6d5f1_0 rfl (lv_at hl 0 rfl) ?_
  refine va_get (D := D) (ci := 1) (v := .ref v) (C := RJ4) (T := TJ4) (N := 4) hx hb hts iw_J5_getValue_6d5f1_J4 hown hK hP 0 rfl rfl 0 (by decide) (hts (.fieldLink RJ5 15 "java/lang/AbstractStringBuilder" "value" "[B") (by decide +kernel)) (fun _ h9 => h9) rfl dJ5_getValue_6d5f1_1 ?_
  exact k_aret hx hb hr (Or.inr ⟨_, rfl⟩) hlocks hS dJ5_getValue_6d5f1_4 ⟨rfl, rfl⟩
theorem iw_J0_init_db425_J0 : ∀ w ∈ wsJ00, w ∈ wsJ0_init_db425 := by decide +kernel
set_option maxHeartbeats 4000000 in
set_option maxRecDepth 100000 in
theorem c_J0_init_db425 (l : Launch) (D : va_G) (cB cJ : ClassId) (Hp : Heap) (q b v nn cp : Nat) (ar : Nat → Int32) (hP : va_P D vwCl ([(q, .inr (0, [.null, .int 0, .int 0, .int 0])), (b, .inr (1, [.ref v, .int 0, .int 0, .int (nI nn)])), (v, .inl (cB, cp, .inl ar))]) Hp) (hD9 : va_D (fun _ => True) ([(q, .inr (0, [.null, .int 0, .int 0, .int 0])), (b, .inr (1, [.ref v, .int 0, .int 0, .int (nI nn)])), (v, .inl (cB, cp, .inl ar))])) (hf : sb_Fit ar) (hnm : nn ≤ cp) (hm : cp ≤ 130) : kM l D cB cJ yJ0_init_db425 wsJ0_init_db425 ({ frames := 3, cells := 1, slots := 130, locals := 126 }) (va_A ([(q, .inr (0, [.null, .int 0, .int 0, .int 0])), (b, .inr (1, [.ref v, .int 0, .int 0, .int (nI nn)])), (v, .inl (cB, cp, .inl ar))]) Hp.size) Hp [.ref q, .ref b, .null] (kSI D cB (va_A ([(q, .inr (0, [.null, .int 0, .int 0, .int 0])), (b, .inr (1, [.ref v, .int 0, .int 0, .int (nI nn)])), (v, .inl (cB, cp, .inl ar))]) Hp.size) q nn) 1 130 := by
  refine Met.ofW (cc := cJ0_init_db425) (maxL := 5) (ret := none) (by decide) rfl ?_
  intro p e s m args below meth c s₁ B hml hv
  obtain ⟨rfl, hHp, hE⟩ := hv
  subst hHp
  have hx := B.exec
  have hb := B.bytes
  have hr := B.returns
  have hts := atoms_spec (ws := wsJ0_init_db425) B.pre
  have hown : s.vm.findClass RJ0 = some m.cls := findClass_of_methodNamed B.named
  have hlocks := B.notSynchronized
  have hin : meth.name = "<init>" := (name_of_methodNamed B.named B.method).1
  have hK := hE.1
  have hD := hD9.self (sz := s.heap.size)
  generalize hAe : va_A ([(q, .inr (0, [.null, .int 0, .int 0, .int 0])), (b, .inr (1, [.ref v, .int 0, .int 0, .int (nI nn)])), (v, .inl (cB, cp, .inl ar))]) s.heap.size = A at hE hD ⊢
  have hA : ∀ q : Nat, s.heap.size ≤ q → A q := fun q h => by rw [← hAe]; exact Or.inr h
  have hS : va_S A s.heap s.heap [] := va_S.rf
  have hl := lv_entry ([.ref q, .ref b, .null]) (n := 5) (Nat.le_of_ble_eq_true rfl)
  rw [lg_entry_eq]
  generalize (lg_sl ([.ref q, .ref b, .null]) ++ List.replicate (5 - (lg_sl ([.ref q, .ref b, .null])).length) Slot.unset).toArray = ls at hl ⊢
  have hl : lv_has ls 5 [(0, .ref q), (1, .ref b), (2, .null)] := hl
  have hZ1 := hE.2.1.1
  refine lv_aload_n hx hb dJ0_init_db425_0 rfl (lv_at hl 0 rfl) ?_
  refine W.objInit hx hb hown (hts (.methodLink RJ0 1 objectInit) (by decide +kernel)) (hts (.instanceMethod objectInit) (by decide +kernel)) (hts (.code objectInit ⟨#[0xb1]⟩ 1 none) (by decide +kernel)) rfl (by rw [hml]; exact hl.1) rfl dJ0_init_db425_1 (Nat.le_of_ble_eq_true rfl) (Nat.le_of_ble_eq_true rfl) ?_
  refine W.eq (g2 := F0 m 4 ls []) rfl ?_
  refine lv_aload_n hx hb dJ0_init_db425_4 rfl (lv_at hl 1 rfl) ?_
  refine k_pU [] (rest := []) ⟨hx, hb, hml, hown, hts⟩ (c_J5_getValue_6d5f1 l D cB cJ _ b v nn cp ar (hP.sub [1, 2] rfl)) (va_cwU 0 hts gJ0_init_db425_J5_getValue_6d5f1_u552J4 rfl rfl rfl rfl (by decide +kernel) ⟨(Nat.le_of_ble_eq_true rfl), (Nat.le_of_ble_eq_true rfl)⟩) (va_recv hK hP (ci := 1) (q0 := 1) rfl rfl) hE hS rfl rfl hl.1 (Nat.le_of_ble_eq_true rfl) dJ0_init_db425_5 ⟨(Nat.le_of_ble_eq_true rfl), (Nat.le_of_ble_eq_true rfl)⟩ (fun locs hS => ?_)
  refine W.eq (g2 := F0 m 8 ls [.ref v]) rfl ?_
  refine lv_astore_n (lv' := [(3, .ref v), (0, .ref q), (1, .ref b), (2, .null)]) hx hb dJ0_init_db425_8 rfl hl (by decide) rfl (fun ls hl => ?_)
  refine lv_aload_n hx hb dJ0_init_db425_9 rfl (lv_at hl 2 rfl) ?_
  refine k_pU [] (rest := []) ⟨hx, hb, hml, hown, hts⟩ (c_J4_length_8abf5 l D cB cJ _ b v nn cp ar (hP.sub [1, 2] rfl)) (va_cwO 0 hts gJ0_init_db425_J4_length_8abf5_u549J4 rfl rfl rfl (show Cond.code yJ5_length_8abf5 cJ5_length_8abf5 1 (some .int) ∈ wsJ0_init_db425 from by decide +kernel) (by decide +kernel) ⟨(Nat.le_of_ble_eq_true rfl), (Nat.le_of_ble_eq_true rfl)⟩) (va_recv hK hP (ci := 1) (q0 := 1) rfl rfl) hE hS rfl rfl hl.1 (Nat.le_of_ble_eq_true rfl) dJ0_init_db425_10 ⟨(Nat.le_of_ble_eq_true rfl), (Nat.le_of_ble_eq_true rfl)⟩ (fun locs hS => ?_)
  refine W.eq (g2 := F0 m 13 ls [.int (j_J4_length_8abf5 nn cp ar)]) rfl ?_
  refine W.eq (g2 := F0 m 13 ls [.int (nI nn)]) rfl ?_
  refine lv_istore (lv' := [(4, .int (nI nn)), (3, .ref v), (0, .ref q), (1, .ref b), (2, .null)]) hx hb dJ0_init_db425_13 hl (by decide) rfl (fun ls hl => ?_)
  refine lv_aload_n hx hb dJ0_init_db425_15 rfl (lv_at hl 3 rfl) ?_
  refine k_pU [] (rest := []) ⟨hx, hb, hml, hown, hts⟩ (c_J5_isLatin1_aae02 l D cB cJ _ b v nn cp ar (hP.sub [1, 2] rfl)) (va_cwU 0 hts gJ0_init_db425_J5_isLatin1_aae02_u1047J4 rfl rfl rfl rfl (by decide +kernel) ⟨(Nat.le_of_ble_eq_true rfl), (Nat.le_of_ble_eq_true rfl)⟩) (va_recv hK hP (ci := 1) (q0 := 1) rfl rfl) hE hS rfl rfl hl.1 (Nat.le_of_ble_eq_true rfl) dJ0_init_db425_16 ⟨(Nat.le_of_ble_eq_true rfl), (Nat.le_of_ble_eq_true rfl)⟩ (fun locs hS => ?_)
  refine W.eq (g2 := F0 m 19 ls [.int (j_J5_isLatin1_aae02 nn cp ar)]) rfl ?_
  refine lv_if_eq (tgt := 41) hx hb dJ0_init_db425_19 (by decide) (fun c_1 => ?_) (fun c_1 => ?_)
  · exact absurd c_1 (show ¬ (1 : Int32) = 0 by decide)
  · refine lv_aload_n hx hb dJ0_init_db425_22 rfl (lv_at hl 2 rfl) ?_
    refine lv_iconst (v := 0) hx hb dJ0_init_db425_23 (by decide) ?_
    refine va_putF (D := D) (ci := 0) (v := .int 0) (ty := .byte) (C := RJ0) (T := TJ0) (N := 4) hx hb hts iw_J0_init_db425_J0 tyJ0 tyJ0_ok nmJ0 hown hK hP hD hS 0 rfl rfl 1 (by decide) (hts (.fieldLink RJ0 15 "java/lang/String" "coder" "B") (by decide +kernel)) (fun _ h9 => h9) rfl hin rfl (by decide +kernel) (by decide +kernel) (by decide +kernel) (Nat.le_of_ble_eq_true rfl) dJ0_init_db425_24 (fun H locs hP hD hS => ?_)
    have hP : va_P D vwCl [(q, .inr (0, [.null, .int 0, .int 0, .int 0])), (b, .inr (1, [.ref v, .int 0, .int 0, .int (nI nn)])), (v, .inl (cB, cp, .inl ar))] H := hP
    have hD : va_D A [(q, .inr (0, [.null, .int 0, .int 0, .int 0])), (b, .inr (1, [.ref v, .int 0, .int 0, .int (nI nn)])), (v, .inl (cB, cp, .inl ar))] := hD
    refine lv_aload_n hx hb dJ0_init_db425_27 rfl (lv_at hl 2 rfl) ?_
    refine lv_aload_n hx hb dJ0_init_db425_28 rfl (lv_at hl 1 rfl) ?_
    refine lv_iconst (v := 0) hx hb dJ0_init_db425_29 (by decide) ?_
    refine lv_iload hx hb dJ0_init_db425_30 (lv_at hl 0 rfl) ?_
    have hFc := va_free (wc := [(v, .inl (cB, cp, .inl ar))]) hD hS hA [2] rfl
    refine k_go (va_runS (As := [.ref v, .int 0, .int (nI nn)]) (rest := [.ref q]) ⟨hx, hb, hml, hown, hts⟩ (c_J7_copyOfRange_39247 l D cB cJ _ v cp nn ar (hP.sub [2] rfl) ((hD.sub [2] (by decide) rfl).weaken (fun _ _ _ _ => trivial)) hf hnm hm) (va_cwS 3 hts gJ0_init_db425_J7_copyOfRange_39247 rfl rfl rfl (by decide +kernel) ⟨(Nat.le_of_ble_eq_true rfl), (Nat.le_of_ble_eq_true rfl)⟩) (k_preS hE hS hFc) rfl rfl hl.1 rfl (lv_room (Nat.le_of_ble_eq_true rfl)) dJ0_init_db425_32 ⟨(Nat.le_of_ble_eq_true rfl), (Nat.le_of_ble_eq_true rfl)⟩) hS (fun q _ h => hFc q h) hFc (fun v9 H locs hp hz hk hS => ?_)
    obtain ⟨u, fu, rfl, hP1, hD1, hfu⟩ := hp
    obtain ⟨hP, hD⟩ := va_join (wr := [(q, .inr (0, [.null, .int 0, .int 0, .int 0])), (b, .inr (1, [.ref v, .int 0, .int 0, .int (nI nn)]))]) (wc := [(v, .inl (cB, cp, .inl ar))]) (w1 := [(v, .inl (cB, cp, .inl ar)), (u, .inl (cB, nn, .inl fu))]) hP hD [2] [0, 1] rfl rfl (by decide) (by decide) hk hFc hP1 hD1
    have hP : va_P D vwCl [(q, .inr (0, [.null, .int 0, .int 0, .int 0])), (b, .inr (1, [.ref v, .int 0, .int 0, .int (nI nn)])), (v, .inl (cB, cp, .inl ar)), (u, .inl (cB, nn, .inl fu))] H := hP
    have hD : va_D A [(q, .inr (0, [.null, .int 0, .int 0, .int 0])), (b, .inr (1, [.ref v, .int 0, .int 0, .int (nI nn)])), (v, .inl (cB, cp, .inl ar)), (u, .inl (cB, nn, .inl fu))] := hD
    refine W.eq (g2 := F0 m 35 ls [.ref u, .ref q]) rfl ?_
    refine va_putF (D := D) (ci := 0) (v := .ref u) (ty := (.array .byte)) (C := RJ0) (T := TJ0) (N := 4) hx hb hts iw_J0_init_db425_J0 tyJ0 tyJ0_ok nmJ0 hown hK hP hD hS 0 rfl rfl 0 (by decide) (hts (.fieldLink RJ0 9 "java/lang/String" "value" "[B") (by decide +kernel)) (fun _ h9 => h9) rfl hin rfl (by decide +kernel) rfl rfl (Nat.le_of_ble_eq_true rfl) dJ0_init_db425_35 (fun H locs hP hD hS => ?_)
    have hP : va_P D vwCl [(q, .inr (0, [.ref u, .int 0, .int 0, .int 0])), (b, .inr (1, [.ref v, .int 0, .int 0, .int (nI nn)])), (v, .inl (cB, cp, .inl ar)), (u, .inl (cB, nn, .inl fu))] H := hP
    have hD : va_D A [(q, .inr (0, [.ref u, .int 0, .int 0, .int 0])), (b, .inr (1, [.ref v, .int 0, .int 0, .int (nI nn)])), (v, .inl (cB, cp, .inl ar)), (u, .inl (cB, nn, .inl fu))] := hD
    refine lv_goto (tgt := 97) hx hb dJ0_init_db425_38 (by decide) ?_
    exact k_vret hx hb hr hlocks hS dJ0_init_db425_97 ⟨rfl, _, _, hP.sub [0, 3] rfl, hD.sub [0, 3] (by decide) rfl, hfu⟩
set_option maxHeartbeats 4000000 in
set_option maxRecDepth 100000 in
theorem c_J0_init_81219 (l : Launch) (D : va_G) (cB cJ : ClassId) (Hp : Heap) (q b v nn cp : Nat) (ar : Nat → Int32) (hP : va_P D vwCl ([(q, .inr (0, [.null, .int 0, .int 0, .int 0])), (b, .inr (1, [.ref v, .int 0, .int 0, .int (nI nn)])), (v, .inl (cB, cp, .inl ar))]) Hp) (hD9 : va_D (fun _ => True) ([(q, .inr (0, [.null, .int 0, .int 0, .int 0])), (b, .inr (1, [.ref v, .int 0, .int 0, .int (nI nn)])), (v, .inl (cB, cp, .inl ar))])) (hf : sb_Fit ar) (hnm : nn ≤ cp) (hm : cp ≤ 130) : kM l D cB cJ yJ0_init_81219 wsJ0_init_81219 ({ frames := 4, cells := 1, slots := 130, locals := 150 }) (va_A ([(q, .inr (0, [.null, .int 0, .int 0, .int 0])), (b, .inr (1, [.ref v, .int 0, .int 0, .int (nI nn)])), (v, .inl (cB, cp, .inl ar))]) Hp.size) Hp [.ref q, .ref b] (kSI D cB (va_A ([(q, .inr (0, [.null, .int 0, .int 0, .int 0])), (b, .inr (1, [.ref v, .int 0, .int 0, .int (nI nn)])), (v, .inl (cB, cp, .inl ar))]) Hp.size) q nn) 1 130 := by
  refine Met.ofW (cc := cJ0_init_81219) (maxL := 2) (ret := none) (by decide) rfl ?_
  intro p e s m args below meth c s₁ B hml hv
  obtain ⟨rfl, hHp, hE⟩ := hv
  subst hHp
  have hx := B.exec
  have hb := B.bytes
  have hr := B.returns
  have hts := atoms_spec (ws := wsJ0_init_81219) B.pre
  have hown : s.vm.findClass RJ0 = some m.cls := findClass_of_methodNamed B.named
  have hlocks := B.notSynchronized
  have hin : meth.name = "<init>" := (name_of_methodNamed B.named B.method).1
  have hK := hE.1
  have hD := hD9.self (sz := s.heap.size)
  generalize hAe : va_A ([(q, .inr (0, [.null, .int 0, .int 0, .int 0])), (b, .inr (1, [.ref v, .int 0, .int 0, .int (nI nn)])), (v, .inl (cB, cp, .inl ar))]) s.heap.size = A at hE hD ⊢
  have hA : ∀ q : Nat, s.heap.size ≤ q → A q := fun q h => by rw [← hAe]; exact Or.inr h
  have hS : va_S A s.heap s.heap [] := va_S.rf
  have hl := lv_entry ([.ref q, .ref b]) (n := 2) (Nat.le_of_ble_eq_true rfl)
  rw [lg_entry_eq]
  generalize (lg_sl ([.ref q, .ref b]) ++ List.replicate (2 - (lg_sl ([.ref q, .ref b])).length) Slot.unset).toArray = ls at hl ⊢
  have hl : lv_has ls 2 [(0, .ref q), (1, .ref b)] := hl
  refine lv_aload_n hx hb dJ0_init_81219_0 rfl (lv_at hl 0 rfl) ?_
  refine lv_aload_n hx hb dJ0_init_81219_1 rfl (lv_at hl 1 rfl) ?_
  refine lv_null hx hb dJ0_init_81219_2 ?_
  have hFc := va_free (wc := [(q, .inr (0, [.null, .int 0, .int 0, .int 0])), (b, .inr (1, [.ref v, .int 0, .int 0, .int (nI nn)])), (v, .inl (cB, cp, .inl ar))]) hD hS hA [0, 1, 2] rfl
  refine k_go (va_runI (As := [.ref b, .null]) (rest := []) ⟨hx, hb, hml, hown, hts⟩ (c_J0_init_db425 l D cB cJ _ q b v nn cp ar (hP.sub [0, 1, 2] rfl) ((hD.sub [0, 1, 2] (by decide) rfl).weaken (fun _ _ _ _ => trivial)) hf hnm hm) (cwI 2 hts gJ0_init_81219_J0_init_db425 rfl rfl rfl (hts (.initialized RJ0) (by decide +kernel)) (hts (.methodLink RJ0 489 yJ0_init_db425) (by decide +kernel)) (hts (.instanceMethod yJ0_init_db425) (by decide +kernel)) rfl (by decide +kernel) ⟨(Nat.le_of_ble_eq_true rfl), (Nat.le_of_ble_eq_true rfl)⟩) (k_preS hE hS hFc) rfl rfl hl.1 rfl (lv_room (Nat.le_of_ble_eq_true rfl)) dJ0_init_81219_3 ⟨(Nat.le_of_ble_eq_true rfl), (Nat.le_of_ble_eq_true rfl)⟩) hS (fun q _ h => hFc q h) hFc (fun v9 H locs hp hz hk hS => ?_)
  obtain ⟨rfl, u_1, f_1, hP1, hD1, hf_1⟩ := hp
  obtain ⟨hP, hD⟩ := va_join (wr := []) (wc := [(q, .inr (0, [.null, .int 0, .int 0, .int 0])), (b, .inr (1, [.ref v, .int 0, .int 0, .int (nI nn)])), (v, .inl (cB, cp, .inl ar))]) (w1 := [(q, .inr (0, [.ref u_1, .int 0, .int 0, .int 0])), (u_1, .inl (cB, nn, .inl f_1))]) hP hD [0, 1, 2] [] rfl rfl (by decide) (by decide) hk hFc hP1 hD1
  have hP : va_P D vwCl [(q, .inr (0, [.ref u_1, .int 0, .int 0, .int 0])), (u_1, .inl (cB, nn, .inl f_1))] H := hP
  have hD : va_D A [(q, .inr (0, [.ref u_1, .int 0, .int 0, .int 0])), (u_1, .inl (cB, nn, .inl f_1))] := hD
  refine W.eq (g2 := F0 m 6 ls []) rfl ?_
  exact k_vret hx hb hr hlocks hS dJ0_init_81219_6 ⟨rfl, _, _, hP.sub [0, 1] rfl, hD.sub [0, 1] (by decide) rfl, hf_1⟩
theorem iw_J4_toString_0e30d_J0 : ∀ w ∈ wsJ00, w ∈ wsJ4_toString_0e30d := by decide +kernel
set_option maxHeartbeats 4000000 in
set_option maxRecDepth 100000 in
theorem c_J4_toString_0e30d (l : Launch) (D : va_G) (cB cJ : ClassId) (Hp : Heap) (b v nn cp : Nat) (ar : Nat → Int32) (hP : va_P D vwCl (wSB b v cB nn cp ar) Hp) (hD9 : va_D (fun _ => True) (wSB b v cB nn cp ar)) (hf : sb_Fit ar) (hnm : nn ≤ cp) (hm : cp ≤ 130) : kM l D cB cJ yJ4_toString_0e30d wsJ4_toString_0e30d ({ frames := 5, cells := 2, slots := 134, locals := 171 }) (va_A (wSB b v cB nn cp ar) Hp.size) Hp [.ref b] (kST D cB (va_A (wSB b v cB nn cp ar) Hp.size) nn) 2 134 := by
  refine Met.ofW (cc := cJ4_toString_0e30d) (maxL := 1) (ret := (some (.object "java/lang/String"))) (by decide) rfl ?_
  intro p e s m args below meth c s₁ B hml hv
  obtain ⟨rfl, hHp, hE⟩ := hv
  subst hHp
  have hx := B.exec
  have hb := B.bytes
  have hr := B.returns
  have hts := atoms_spec (ws := wsJ4_toString_0e30d) B.pre
  have hown : s.vm.findClass RJ4 = some m.cls := findClass_of_methodNamed B.named
  have hlocks := B.notSynchronized
  have hK := hE.1
  have hD := hD9.self (sz := s.heap.size)
  generalize hAe : va_A (wSB b v cB nn cp ar) s.heap.size = A at hE hD ⊢
  have hA : ∀ q : Nat, s.heap.size ≤ q → A q := fun q h => by rw [← hAe]; exact Or.inr h
  have hS : va_S A s.heap s.heap [] := va_S.rf
  have hl := lv_entry ([.ref b]) (n := 1) (Nat.le_of_ble_eq_true rfl)
  rw [lg_entry_eq]
  generalize (lg_sl ([.ref b]) ++ List.replicate (1 - (lg_sl ([.ref b])).length) Slot.unset).toArray = ls at hl ⊢
  have hl : lv_has ls 1 [(0, .ref b)] := hl
  refine va_new (ci := 0) (fs := [.null, .int 0, .int 0, .int 0]) (C := RJ0) (T := TJ0) (N := 4) hx hb hts iw_J4_toString_0e30d_J0 tyJ0 tyJ0_ok hown (hts (.classLink RJ4 18 RJ0) (by decide +kernel)) (hts (.instantiable RJ0 4) (by decide +kernel)) (hts (.initialized RJ0) (by decide +kernel)) hK hP hD hS hA rfl (fun j hj => by rcases (show j = 0 ∨ j = 1 ∨ j = 2 ∨ j = 3 by omega) with rfl | rfl | rfl | rfl <;> rfl) (Nat.le_of_ble_eq_true rfl) (Nat.le_of_ble_eq_true rfl) dJ4_toString_0e30d_0 (fun q_1 H hP hD hS => ?_)
  have hP : va_P D vwCl [(b, .inr (1, [.ref v, .int 0, .int 0, .int (nI nn)])), (v, .inl (cB, cp, .inl ar)), (q_1, .inr (0, [.null, .int 0, .int 0, .int 0]))] H := hP
  have hD : va_D A [(b, .inr (1, [.ref v, .int 0, .int 0, .int (nI nn)])), (v, .inl (cB, cp, .inl ar)), (q_1, .inr (0, [.null, .int 0, .int 0, .int 0]))] := hD
  refine lv_dup hx hb dJ4_toString_0e30d_3 rfl ?_
  refine lv_aload_n hx hb dJ4_toString_0e30d_4 rfl (lv_at hl 0 rfl) ?_
  have hFc := va_free (wc := [(q_1, .inr (0, [.null, .int 0, .int 0, .int 0])), (b, .inr (1, [.ref v, .int 0, .int 0, .int (nI nn)])), (v, .inl (cB, cp, .inl ar))]) hD hS hA [2, 0, 1] rfl
  refine k_go (va_runI (As := [.ref b]) (rest := [.ref q_1]) ⟨hx, hb, hml, hown, hts⟩ (c_J0_init_81219 l D cB cJ _ q_1 b v nn cp ar (hP.sub [2, 0, 1] rfl) ((hD.sub [2, 0, 1] (by decide) rfl).weaken (fun _ _ _ _ => trivial)) hf hnm hm) (cwI 1 hts gJ4_toString_0e30d_J0_init_81219 rfl rfl rfl (hts (.initialized RJ0) (by decide +kernel)) (hts (.methodLink RJ4 137 yJ0_init_81219) (by decide +kernel)) (hts (.instanceMethod yJ0_init_81219) (by decide +kernel)) rfl (by decide +kernel) ⟨(Nat.le_of_ble_eq_true rfl), (Nat.le_of_ble_eq_true rfl)⟩) (k_preS hE hS hFc) rfl rfl hl.1 rfl (lv_room (Nat.le_of_ble_eq_true rfl)) dJ4_toString_0e30d_5 ⟨(Nat.le_of_ble_eq_true rfl), (Nat.le_of_ble_eq_true rfl)⟩) hS (fun q _ h => hFc q h) hFc (fun v9 H locs hp hz hk hS => ?_)
  obtain ⟨rfl, u_2, f_2, hP1, hD1, hf_2⟩ := hp
  obtain ⟨hP, hD⟩ := va_join (wr := []) (wc := [(q_1, .inr (0, [.null, .int 0, .int 0, .int 0])), (b, .inr (1, [.ref v, .int 0, .int 0, .int (nI nn)])), (v, .inl (cB, cp, .inl ar))]) (w1 := [(q_1, .inr (0, [.ref u_2, .int 0, .int 0, .int 0])), (u_2, .inl (cB, nn, .inl f_2))]) hP hD [2, 0, 1] [] rfl rfl (by decide) (by decide) hk hFc hP1 hD1
  have hP : va_P D vwCl [(q_1, .inr (0, [.ref u_2, .int 0, .int 0, .int 0])), (u_2, .inl (cB, nn, .inl f_2))] H := hP
  have hD : va_D A [(q_1, .inr (0, [.ref u_2, .int 0, .int 0, .int 0])), (u_2, .inl (cB, nn, .inl f_2))] := hD
  refine W.eq (g2 := F0 m 8 ls [.ref q_1]) rfl ?_
  exact k_aret hx hb hr (Or.inl ⟨_, rfl⟩) hlocks hS dJ4_toString_0e30d_8 ⟨_, _, _, rfl, hP.sub [0, 1] rfl, hD.sub [0, 1] (by decide) rfl, hf_2⟩
