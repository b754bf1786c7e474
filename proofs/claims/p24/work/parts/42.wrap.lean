def kI1 (D : va_G) (A : Nat → Prop) (o : Nat) : Option Value → Heap → Prop := fun v1 H1 => v1 = none ∧ va_P D vwCl [(o, .inr (3, [.long 0, .null]))] H1 ∧ va_D A [(o, .inr (3, [.long 0, .null]))]
set_option maxHeartbeats 4000000 in
set_option maxRecDepth 100000 in
theorem c_X1_init (l : Launch) (D : va_G) (cB cJ : ClassId) (Hp : Heap) (o : Nat) (hP : va_P D vwCl ([(o, .inr (3, [.long 0, .null]))]) Hp) (hD9 : va_D (fun _ => True) ([(o, .inr (3, [.long 0, .null]))]))  : kM l D cB cJ yX1_init wsX1_init ({ frames := 1, cells := 0, slots := 0, locals := 30 }) (va_A ([(o, .inr (3, [.long 0, .null]))]) Hp.size) Hp [.ref o] (kI1 D (va_A ([(o, .inr (3, [.long 0, .null]))]) Hp.size) o) 0 0 := by
  refine Met.ofW (cc := cX1_init) (maxL := 1) (ret := none) (by decide) rfl ?_
  intro p e s m args below meth c s₁ B hml hv
  obtain ⟨rfl, hHp, hE⟩ := hv
  subst hHp
  have hx := B.exec
  have hb := B.bytes
  have hr := B.returns
  have hts := atoms_spec (ws := wsX1_init) B.pre
  have hown : s.vm.findClass RX1 = some m.cls := findClass_of_methodNamed B.named
  have hlocks := B.notSynchronized
  have hin : meth.name = "<init>" := (name_of_methodNamed B.named B.method).1
  have hK := hE.1
  have hD := hD9.self (sz := s.heap.size)
  generalize hAe : va_A ([(o, .inr (3, [.long 0, .null]))]) s.heap.size = A at hE hD ⊢
  have hA : ∀ q : Nat, s.heap.size ≤ q → A q := fun q h => by rw [← hAe]; exact Or.inr h
  have hS : va_S A s.heap s.heap [] := va_S.rf
  have hl := lv_entry ([.ref o]) (n := 1) (Nat.le_of_ble_eq_true rfl)
  rw [lg_entry_eq]
  generalize (lg_sl ([.ref o]) ++ List.replicate (1 - (lg_sl ([.ref o])).length) Slot.unset).toArray = ls at hl ⊢
  have hl : lv_has ls 1 [(0, .ref o)] := hl
  refine lv_aload_n hx hb dX1_init_0 rfl (lv_at hl 0 rfl) ?_
  refine W.objInit hx hb hown (hts (.methodLink RX1 1 objectInit) (by decide +kernel)) (hts (.instanceMethod objectInit) (by decide +kernel)) (hts (.code objectInit ⟨#[0xb1]⟩ 1 none) (by decide +kernel)) rfl (by rw [hml]; exact hl.1) rfl dX1_init_1 (Nat.le_of_ble_eq_true rfl) (Nat.le_of_ble_eq_true rfl) ?_
  refine W.eq (g2 := F0 m 4 ls []) rfl ?_
  exact k_vret hx hb hr hlocks hS dX1_init_4 ⟨rfl, hP, hD⟩
abbrev rm_L_tell : Room := { frames := 9, cells := 5, slots := 30, locals := 156 }
theorem iw_L_tell_X1 : ∀ w ∈ wsX10, w ∈ wsL_tell := by decide +kernel
set_option maxHeartbeats 4000000 in
set_option maxRecDepth 100000 in
theorem c_L_tell (l : Launch) (hl9 : l.stackTraces = false) (D : va_G) (cB cJ : ClassId) (Hp : Heap) (x n o : Nat) (kn ch : Int32) (f : Nat → Int64) (vn : Int64) (sr : Value) (a1 : Int32) (a2 : Int32) (a3 : Int32) (a4 : Int32) (a5 : Int32) (hP : va_P D vwCl (wC x n cJ kn ch f ++ wO o vn sr) Hp) (hD9 : va_D (fun _ => True) (wC x n cJ kn ch f ++ wO o vn sr)) : vx_Met l yL_tell wsL_tell rm_L_tell (kPreN D cB cJ (va_A (wC x n cJ kn ch f ++ wO o vn sr) Hp.size) Hp [.ref x, .int a1, .int a2, .int a3, .int a4, .int a5, .ref o]) (kQ (kLw D x n o cJ (va_A (wC x n cJ kn ch f ++ wO o vn sr) Hp.size) k_cd (fun z : Int32 => z.toInt64) (j_X0_tell kn ch f a1 a2 a3 a4 a5) kn ch f vn sr) (va_A (wC x n cJ kn ch f ++ wO o vn sr) Hp.size)) (kX kNX (va_A (wC x n cJ kn ch f ++ wO o vn sr) Hp.size)) 5 30 (va_A (wC x n cJ kn ch f ++ wO o vn sr) Hp.size) := by
  refine vx_ofWH (cc := cL_tell) (maxL := 8) (ret := (some .int)) (hh := [(0, 17, 20, 19), (0, 17, 24, 21)]) (by decide) rfl ?_
  intro p e s m args below meth c s₁ B hml hv
  obtain ⟨rfl, hHp, hE, hN⟩ := hv
  subst hHp
  have hx := B.exec
  have hb := B.bytes
  have hr := B.returns
  have hts := atoms_spec (ws := wsL_tell) B.pre
  have hown : s.vm.findClass RL = some m.cls := findClass_of_methodNamed B.named
  have hlocks := B.notSynchronized
  have hK := hE.1
  have hD := hD9.self (sz := s.heap.size)
  generalize hAe : va_A (wC x n cJ kn ch f ++ wO o vn sr) s.heap.size = A at hE hD ⊢
  have hA : ∀ q : Nat, s.heap.size ≤ q → A q := fun q h => by rw [← hAe]; exact Or.inr h
  have htb := vx_table (x := yL_tell) B (hts _ List.mem_cons_self)
  have hS : va_S A s.heap s.heap [] := va_S.rf
  have hl := lv_entry ([.ref x, .int a1, .int a2, .int a3, .int a4, .int a5, .ref o]) (n := 8) (Nat.le_of_ble_eq_true rfl)
  rw [lg_entry_eq]
  generalize (lg_sl ([.ref x, .int a1, .int a2, .int a3, .int a4, .int a5, .ref o]) ++ List.replicate (8 - (lg_sl ([.ref x, .int a1, .int a2, .int a3, .int a4, .int a5, .ref o])).length) Slot.unset).toArray = ls at hl ⊢
  have hl : lv_has ls 8 [(0, .ref x), (1, .int a1), (2, .int a2), (3, .int a3), (4, .int a4), (5, .int a5), (6, .ref o)] := hl
  refine lv_aload hx hb dL_tell_0 (lv_at hl 6 rfl) ?_
  refine lv_aload_n hx hb dL_tell_2 rfl (lv_at hl 0 rfl) ?_
  refine lv_iload_n hx hb dL_tell_3 rfl (lv_at hl 1 rfl) ?_
  refine lv_iload_n hx hb dL_tell_4 rfl (lv_at hl 2 rfl) ?_
  refine lv_iload_n hx hb dL_tell_5 rfl (lv_at hl 3 rfl) ?_
  refine lv_iload hx hb dL_tell_6 (lv_at hl 4 rfl) ?_
  refine lv_iload hx hb dL_tell_8 (lv_at hl 5 rfl) ?_
  have hFc := va_free (wc := [(x, .inr (2, [.ref n, .int kn, .int ch])), (n, .inl (cJ, 8, .inr (.inl f)))]) hD hS hA [0, 1] rfl
  refine kx_go (vx_runV (As := [.int a1, .int a2, .int a3, .int a4, .int a5]) (rest := [.ref o]) ⟨hx, hb, hml, hown, hts⟩ (c_X0_tell l hl9 D cB cJ _ x n kn ch f (hP.sub [0, 1] rfl) ((hD.sub [0, 1] (by decide) rfl).weaken (fun _ _ _ _ => trivial)) a1 a2 a3 a4 a5) (cwV 5 hts gL_tell_X0_tell rfl rfl rfl (by decide +kernel) ⟨(Nat.le_of_ble_eq_true rfl), (Nat.le_of_ble_eq_true rfl)⟩) (k_preV hE hS hFc (va_recv hK hP (ci := 2) (q0 := 0) rfl rfl)) rfl rfl hl.1 rfl (lv_room (Nat.le_of_ble_eq_true rfl)) dL_tell_10 ⟨(Nat.le_of_ble_eq_true rfl), (Nat.le_of_ble_eq_true rfl)⟩) hS (fun q _ h => hFc q h) hFc (fun E ce q9 H locs hp hz hk hS hce hcv hcl => ?_) (fun v H locs hp hz hk hS => ?_)
  · obtain ⟨hJ9, -, hk2⟩ := hp
    have hP := k_keepP hP hk2
    have hP : va_P D vwCl [(x, .inr (2, [.ref n, .int kn, .int ch])), (n, .inl (cJ, 8, .inr (.inl f))), (o, .inr (3, [.long vn, sr]))] H := hP
    have hD : va_D A [(x, .inr (2, [.ref n, .int kn, .int ch])), (n, .inl (cJ, 8, .inr (.inl f))), (o, .inr (3, [.long vn, sr]))] := hD
    rcases k_er_X0_tell kn ch f a1 a2 a3 a4 a5 _ hJ9 with rfl | ⟨-, rfl⟩
    · refine vx_catch (name := "java/lang/IndexOutOfBoundsException") hown [] ⟨0, 17, 20, 19⟩ [⟨0, 17, 24, 21⟩] (htb.trans rfl) (fun _ h => absurd h List.not_mem_nil) rfl (by decide) (hts (.classLink RL 19 "java/lang/IndexOutOfBoundsException") (by decide +kernel)) (va_Nw.use rfl hE.2.2.2.1.1) hce hcv hcl ?_
      refine lv_astore (lv' := [(7, .ref q9), (0, .ref x), (1, .int a1), (2, .int a2), (3, .int a3), (4, .int a4), (5, .int a5), (6, .ref o)]) hx hb dL_tell_20 hl (by decide) rfl (fun ls hl => ?_)
      refine lv_iconst (v := 1) hx hb dL_tell_22 (by decide) ?_
      exact vx_ret (k_iret hx hb hr hlocks hS dL_tell_23 (Or.inr ⟨_, hJ9, rfl, hP.sub [0, 1, 2] rfl, hD.sub [0, 1, 2] (by decide) rfl⟩))
    · refine vx_catch (name := "java/lang/IllegalArgumentException") hown [⟨0, 17, 20, 19⟩] ⟨0, 17, 24, 21⟩ [] (htb.trans rfl) (fun z hz => Or.inr (by obtain rfl := List.mem_singleton.mp hz; exact ⟨by decide, "java/lang/IndexOutOfBoundsException", hts (.classLink RL 19 "java/lang/IndexOutOfBoundsException") (by decide +kernel), hN.1⟩)) rfl (by decide) (hts (.classLink RL 21 "java/lang/IllegalArgumentException") (by decide +kernel)) (va_Nw.use rfl hE.2.2.2.1.2.1) hce hcv hcl ?_
      refine lv_astore (lv' := [(7, .ref q9), (0, .ref x), (1, .int a1), (2, .int a2), (3, .int a3), (4, .int a4), (5, .int a5), (6, .ref o)]) hx hb dL_tell_24 hl (by decide) rfl (fun ls hl => ?_)
      refine lv_iconst (v := 2) hx hb dL_tell_26 (by decide) ?_
      exact vx_ret (k_iret hx hb hr hlocks hS dL_tell_27 (Or.inr ⟨_, hJ9, rfl, hP.sub [0, 1, 2] rfl, hD.sub [0, 1, 2] (by decide) rfl⟩))
  · obtain ⟨r, hJ9, rfl, hP1, hD1⟩ := hp
    obtain ⟨hP, hD⟩ := va_join (wr := [(o, .inr (3, [.long vn, sr]))]) (wc := [(x, .inr (2, [.ref n, .int kn, .int ch])), (n, .inl (cJ, 8, .inr (.inl f)))]) (w1 := [(x, .inr (2, [.ref n, .int r.2.1, .int r.2.2.1])), (n, .inl (cJ, 8, .inr (.inl r.2.2.2)))]) hP hD [0, 1] [2] rfl rfl (by decide) (by decide) hk hFc hP1 hD1
    have hP : va_P D vwCl [(o, .inr (3, [.long vn, sr])), (x, .inr (2, [.ref n, .int r.2.1, .int r.2.2.1])), (n, .inl (cJ, 8, .inr (.inl r.2.2.2)))] H := hP
    have hD : va_D A [(o, .inr (3, [.long vn, sr])), (x, .inr (2, [.ref n, .int r.2.1, .int r.2.2.1])), (n, .inl (cJ, 8, .inr (.inl r.2.2.2)))] := hD
    refine W.eq (g2 := F0 m 13 ls [.int r.1, .ref o]) rfl ?_
    refine lv_i2l (v := r.1.toInt64) hx hb dL_tell_13 rfl ?_
    refine va_putN (D := D) (ci := 3) (v := .long r.1.toInt64) (ty := .long) (C := RX1) (T := TX1) (N := 2) hx hb hts iw_L_tell_X1 tyX1 tyX1_ok nmX1 hown hK hP hD hS 0 rfl rfl 0 (by decide) (va_Nw.use rfl hN.2.1) (fun _ h9 => h9) rfl (by decide +kernel) rfl rfl (Nat.le_of_ble_eq_true rfl) dL_tell_14 (fun H locs hP hD hS => ?_)
    have hP : va_P D vwCl [(o, .inr (3, [.long r.1.toInt64, sr])), (x, .inr (2, [.ref n, .int r.2.1, .int r.2.2.1])), (n, .inl (cJ, 8, .inr (.inl r.2.2.2)))] H := hP
    have hD : va_D A [(o, .inr (3, [.long r.1.toInt64, sr])), (x, .inr (2, [.ref n, .int r.2.1, .int r.2.2.1])), (n, .inl (cJ, 8, .inr (.inl r.2.2.2)))] := hD
    refine lv_goto (tgt := 28) hx hb dL_tell_17 (by decide) ?_
    refine lv_iconst (v := 0) hx hb dL_tell_28 (by decide) ?_
    exact vx_ret (k_iret hx hb hr hlocks hS dL_tell_29 (Or.inl ⟨_, hJ9, rfl, hP.sub [1, 2, 0] rfl, hD.sub [1, 2, 0] (by decide) rfl⟩))
abbrev rm_L_tellSecond : Room := { frames := 9, cells := 2, slots := 12, locals := 152 }
theorem iw_L_tellSecond_X1 : ∀ w ∈ wsX10, w ∈ wsL_tellSecond := by decide +kernel
set_option maxHeartbeats 4000000 in
set_option maxRecDepth 100000 in
theorem c_L_tellSecond (l : Launch) (hl9 : l.stackTraces = false) (D : va_G) (cB cJ : ClassId) (Hp : Heap) (x n o : Nat) (kn ch : Int32) (f : Nat → Int64) (vn : Int64) (sr : Value) (a1 : Int32) (a2 : Int32) (hP : va_P D vwCl (wC x n cJ kn ch f ++ wO o vn sr) Hp) (hD9 : va_D (fun _ => True) (wC x n cJ kn ch f ++ wO o vn sr)) : vx_Met l yL_tellSecond wsL_tellSecond rm_L_tellSecond (kPreN D cB cJ (va_A (wC x n cJ kn ch f ++ wO o vn sr) Hp.size) Hp [.ref x, .int a1, .int a2, .ref o]) (kQ (kLw D x n o cJ (va_A (wC x n cJ kn ch f ++ wO o vn sr) Hp.size) k_cd (fun z : Int32 => z.toInt64) (j_X0_tellSecond kn ch f a1 a2) kn ch f vn sr) (va_A (wC x n cJ kn ch f ++ wO o vn sr) Hp.size)) (kX kNX (va_A (wC x n cJ kn ch f ++ wO o vn sr) Hp.size)) 2 12 (va_A (wC x n cJ kn ch f ++ wO o vn sr) Hp.size) := by
  refine vx_ofWH (cc := cL_tellSecond) (maxL := 5) (ret := (some .int)) (hh := [(0, 11, 14, 19), (0, 11, 18, 21)]) (by decide) rfl ?_
  intro p e s m args below meth c s₁ B hml hv
  obtain ⟨rfl, hHp, hE, hN⟩ := hv
  subst hHp
  have hx := B.exec
  have hb := B.bytes
  have hr := B.returns
  have hts := atoms_spec (ws := wsL_tellSecond) B.pre
  have hown : s.vm.findClass RL = some m.cls := findClass_of_methodNamed B.named
  have hlocks := B.notSynchronized
  have hK := hE.1
  have hD := hD9.self (sz := s.heap.size)
  generalize hAe : va_A (wC x n cJ kn ch f ++ wO o vn sr) s.heap.size = A at hE hD ⊢
  have hA : ∀ q : Nat, s.heap.size ≤ q → A q := fun q h => by rw [← hAe]; exact Or.inr h
  have htb := vx_table (x := yL_tellSecond) B (hts _ List.mem_cons_self)
  have hS : va_S A s.heap s.heap [] := va_S.rf
  have hl := lv_entry ([.ref x, .int a1, .int a2, .ref o]) (n := 5) (Nat.le_of_ble_eq_true rfl)
  rw [lg_entry_eq]
  generalize (lg_sl ([.ref x, .int a1, .int a2, .ref o]) ++ List.replicate (5 - (lg_sl ([.ref x, .int a1, .int a2, .ref o])).length) Slot.unset).toArray = ls at hl ⊢
  have hl : lv_has ls 5 [(0, .ref x), (1, .int a1), (2, .int a2), (3, .ref o)] := hl
  refine lv_aload_n hx hb dL_tellSecond_0 rfl (lv_at hl 3 rfl) ?_
  refine lv_aload_n hx hb dL_tellSecond_1 rfl (lv_at hl 0 rfl) ?_
  refine lv_iload_n hx hb dL_tellSecond_2 rfl (lv_at hl 1 rfl) ?_
  refine lv_iload_n hx hb dL_tellSecond_3 rfl (lv_at hl 2 rfl) ?_
  have hFc := va_free (wc := [(x, .inr (2, [.ref n, .int kn, .int ch])), (n, .inl (cJ, 8, .inr (.inl f)))]) hD hS hA [0, 1] rfl
  refine kx_go (vx_runV (As := [.int a1, .int a2]) (rest := [.ref o]) ⟨hx, hb, hml, hown, hts⟩ (c_X0_tellSecond l hl9 D cB cJ _ x n kn ch f (hP.sub [0, 1] rfl) ((hD.sub [0, 1] (by decide) rfl).weaken (fun _ _ _ _ => trivial)) a1 a2) (cwV 2 hts gL_tellSecond_X0_tellSecond rfl rfl rfl (by decide +kernel) ⟨(Nat.le_of_ble_eq_true rfl), (Nat.le_of_ble_eq_true rfl)⟩) (k_preV hE hS hFc (va_recv hK hP (ci := 2) (q0 := 0) rfl rfl)) rfl rfl hl.1 rfl (lv_room (Nat.le_of_ble_eq_true rfl)) dL_tellSecond_4 ⟨(Nat.le_of_ble_eq_true rfl), (Nat.le_of_ble_eq_true rfl)⟩) hS (fun q _ h => hFc q h) hFc (fun E ce q9 H locs hp hz hk hS hce hcv hcl => ?_) (fun v H locs hp hz hk hS => ?_)
  · obtain ⟨hJ9, -, hk2⟩ := hp
    have hP := k_keepP hP hk2
    have hP : va_P D vwCl [(x, .inr (2, [.ref n, .int kn, .int ch])), (n, .inl (cJ, 8, .inr (.inl f))), (o, .inr (3, [.long vn, sr]))] H := hP
    have hD : va_D A [(x, .inr (2, [.ref n, .int kn, .int ch])), (n, .inl (cJ, 8, .inr (.inl f))), (o, .inr (3, [.long vn, sr]))] := hD
    rcases k_er_X0_tellSecond kn ch f a1 a2 _ hJ9 with rfl | ⟨-, rfl⟩
    · refine vx_catch (name := "java/lang/IndexOutOfBoundsException") hown [] ⟨0, 11, 14, 19⟩ [⟨0, 11, 18, 21⟩] (htb.trans rfl) (fun _ h => absurd h List.not_mem_nil) rfl (by decide) (hts (.classLink RL 19 "java/lang/IndexOutOfBoundsException") (by decide +kernel)) (va_Nw.use rfl hE.2.2.2.1.1) hce hcv hcl ?_
      refine lv_astore (lv' := [(4, .ref q9), (0, .ref x), (1, .int a1), (2, .int a2), (3, .ref o)]) hx hb dL_tellSecond_14 hl (by decide) rfl (fun ls hl => ?_)
      refine lv_iconst (v := 1) hx hb dL_tellSecond_16 (by decide) ?_
      exact vx_ret (k_iret hx hb hr hlocks hS dL_tellSecond_17 (Or.inr ⟨_, hJ9, rfl, hP.sub [0, 1, 2] rfl, hD.sub [0, 1, 2] (by decide) rfl⟩))
    · refine vx_catch (name := "java/lang/IllegalArgumentException") hown [⟨0, 11, 14, 19⟩] ⟨0, 11, 18, 21⟩ [] (htb.trans rfl) (fun z hz => Or.inr (by obtain rfl := List.mem_singleton.mp hz; exact ⟨by decide, "java/lang/IndexOutOfBoundsException", hts (.classLink RL 19 "java/lang/IndexOutOfBoundsException") (by decide +kernel), hN.1⟩)) rfl (by decide) (hts (.classLink RL 21 "java/lang/IllegalArgumentException") (by decide +kernel)) (va_Nw.use rfl hE.2.2.2.1.2.1) hce hcv hcl ?_
      refine lv_astore (lv' := [(4, .ref q9), (0, .ref x), (1, .int a1), (2, .int a2), (3, .ref o)]) hx hb dL_tellSecond_18 hl (by decide) rfl (fun ls hl => ?_)
      refine lv_iconst (v := 2) hx hb dL_tellSecond_20 (by decide) ?_
      exact vx_ret (k_iret hx hb hr hlocks hS dL_tellSecond_21 (Or.inr ⟨_, hJ9, rfl, hP.sub [0, 1, 2] rfl, hD.sub [0, 1, 2] (by decide) rfl⟩))
  · obtain ⟨r, hJ9, rfl, hP1, hD1⟩ := hp
    obtain ⟨hP, hD⟩ := va_join (wr := [(o, .inr (3, [.long vn, sr]))]) (wc := [(x, .inr (2, [.ref n, .int kn, .int ch])), (n, .inl (cJ, 8, .inr (.inl f)))]) (w1 := [(x, .inr (2, [.ref n, .int r.2.1, .int r.2.2.1])), (n, .inl (cJ, 8, .inr (.inl r.2.2.2)))]) hP hD [0, 1] [2] rfl rfl (by decide) (by decide) hk hFc hP1 hD1
    have hP : va_P D vwCl [(o, .inr (3, [.long vn, sr])), (x, .inr (2, [.ref n, .int r.2.1, .int r.2.2.1])), (n, .inl (cJ, 8, .inr (.inl r.2.2.2)))] H := hP
    have hD : va_D A [(o, .inr (3, [.long vn, sr])), (x, .inr (2, [.ref n, .int r.2.1, .int r.2.2.1])), (n, .inl (cJ, 8, .inr (.inl r.2.2.2)))] := hD
    refine W.eq (g2 := F0 m 7 ls [.int r.1, .ref o]) rfl ?_
    refine lv_i2l (v := r.1.toInt64) hx hb dL_tellSecond_7 rfl ?_
    refine va_putN (D := D) (ci := 3) (v := .long r.1.toInt64) (ty := .long) (C := RX1) (T := TX1) (N := 2) hx hb hts iw_L_tellSecond_X1 tyX1 tyX1_ok nmX1 hown hK hP hD hS 0 rfl rfl 0 (by decide) (va_Nw.use rfl hN.2.1) (fun _ h9 => h9) rfl (by decide +kernel) rfl rfl (Nat.le_of_ble_eq_true rfl) dL_tellSecond_8 (fun H locs hP hD hS => ?_)
    have hP : va_P D vwCl [(o, .inr (3, [.long r.1.toInt64, sr])), (x, .inr (2, [.ref n, .int r.2.1, .int r.2.2.1])), (n, .inl (cJ, 8, .inr (.inl r.2.2.2)))] H := hP
    have hD : va_D A [(o, .inr (3, [.long r.1.toInt64, sr])), (x, .inr (2, [.ref n, .int r.2.1, .int r.2.2.1])), (n, .inl (cJ, 8, .inr (.inl r.2.2.2)))] := hD
    refine lv_goto (tgt := 22) hx hb dL_tellSecond_11 (by decide) ?_
    refine lv_iconst (v := 0) hx hb dL_tellSecond_22 (by decide) ?_
    exact vx_ret (k_iret hx hb hr hlocks hS dL_tellSecond_23 (Or.inl ⟨_, hJ9, rfl, hP.sub [1, 2, 0] rfl, hD.sub [1, 2, 0] (by decide) rfl⟩))
abbrev rm_L_tellNumber : Room := { frames := 9, cells := 3, slots := 18, locals := 154 }
theorem iw_L_tellNumber_X1 : ∀ w ∈ wsX10, w ∈ wsL_tellNumber := by decide +kernel
set_option maxHeartbeats 4000000 in
set_option maxRecDepth 100000 in
theorem c_L_tellNumber (l : Launch) (hl9 : l.stackTraces = false) (D : va_G) (cB cJ : ClassId) (Hp : Heap) (x n o : Nat) (kn ch : Int32) (f : Nat → Int64) (vn : Int64) (sr : Value) (a1 : Int32) (a2 : Int32) (a3 : Int32) (hP : va_P D vwCl (wC x n cJ kn ch f ++ wO o vn sr) Hp) (hD9 : va_D (fun _ => True) (wC x n cJ kn ch f ++ wO o vn sr)) : vx_Met l yL_tellNumber wsL_tellNumber rm_L_tellNumber (kPreN D cB cJ (va_A (wC x n cJ kn ch f ++ wO o vn sr) Hp.size) Hp [.ref x, .int a1, .int a2, .int a3, .ref o]) (kQ (kLw D x n o cJ (va_A (wC x n cJ kn ch f ++ wO o vn sr) Hp.size) k_cd (fun z : Int32 => z.toInt64) (j_X0_tellNumber kn ch f a1 a2 a3) kn ch f vn sr) (va_A (wC x n cJ kn ch f ++ wO o vn sr) Hp.size)) (kX kNX (va_A (wC x n cJ kn ch f ++ wO o vn sr) Hp.size)) 3 18 (va_A (wC x n cJ kn ch f ++ wO o vn sr) Hp.size) := by
  refine vx_ofWH (cc := cL_tellNumber) (maxL := 6) (ret := (some .int)) (hh := [(0, 13, 16, 19), (0, 13, 20, 21)]) (by decide) rfl ?_
  intro p e s m args below meth c s₁ B hml hv
  obtain ⟨rfl, hHp, hE, hN⟩ := hv
  subst hHp
  have hx := B.exec
  have hb := B.bytes
  have hr := B.returns
  have hts := atoms_spec (ws := wsL_tellNumber) B.pre
  have hown : s.vm.findClass RL = some m.cls := findClass_of_methodNamed B.named
  have hlocks := B.notSynchronized
  have hK := hE.1
  have hD := hD9.self (sz := s.heap.size)
  generalize hAe : va_A (wC x n cJ kn ch f ++ wO o vn sr) s.heap.size = A at hE hD ⊢
  have hA : ∀ q : Nat, s.heap.size ≤ q → A q := fun q h => by rw [← hAe]; exact Or.inr h
  have htb := vx_table (x := yL_tellNumber) B (hts _ List.mem_cons_self)
  have hS : va_S A s.heap s.heap [] := va_S.rf
  have hl := lv_entry ([.ref x, .int a1, .int a2, .int a3, .ref o]) (n := 6) (Nat.le_of_ble_eq_true rfl)
  rw [lg_entry_eq]
  generalize (lg_sl ([.ref x, .int a1, .int a2, .int a3, .ref o]) ++ List.replicate (6 - (lg_sl ([.ref x, .int a1, .int a2, .int a3, .ref o])).length) Slot.unset).toArray = ls at hl ⊢
  have hl : lv_has ls 6 [(0, .ref x), (1, .int a1), (2, .int a2), (3, .int a3), (4, .ref o)] := hl
  refine lv_aload hx hb dL_tellNumber_0 (lv_at hl 4 rfl) ?_
  refine lv_aload_n hx hb dL_tellNumber_2 rfl (lv_at hl 0 rfl) ?_
  refine lv_iload_n hx hb dL_tellNumber_3 rfl (lv_at hl 1 rfl) ?_
  refine lv_iload_n hx hb dL_tellNumber_4 rfl (lv_at hl 2 rfl) ?_
  refine lv_iload_n hx hb dL_tellNumber_5 rfl (lv_at hl 3 rfl) ?_
  have hFc := va_free (wc := [(x, .inr (2, [.ref n, .int kn, .int ch])), (n, .inl (cJ, 8, .inr (.inl f)))]) hD hS hA [0, 1] rfl
  refine kx_go (vx_runV (As := [.int a1, .int a2, .int a3]) (rest := [.ref o]) ⟨hx, hb, hml, hown, hts⟩ (c_X0_tellNumber l hl9 D cB cJ _ x n kn ch f (hP.sub [0, 1] rfl) ((hD.sub [0, 1] (by decide) rfl).weaken (fun _ _ _ _ => trivial)) a1 a2 a3) (cwV 3 hts gL_tellNumber_X0_tellNumber rfl rfl rfl (by decide +kernel) ⟨(Nat.le_of_ble_eq_true rfl), (Nat.le_of_ble_eq_true rfl)⟩) (k_preV hE hS hFc (va_recv hK hP (ci := 2) (q0 := 0) rfl rfl)) rfl rfl hl.1 rfl (lv_room (Nat.le_of_ble_eq_true rfl)) dL_tellNumber_6 ⟨(Nat.le_of_ble_eq_true rfl), (Nat.le_of_ble_eq_true rfl)⟩) hS (fun q _ h => hFc q h) hFc (fun E ce q9 H locs hp hz hk hS hce hcv hcl => ?_) (fun v H locs hp hz hk hS => ?_)
  · obtain ⟨hJ9, -, hk2⟩ := hp
    have hP := k_keepP hP hk2
    have hP : va_P D vwCl [(x, .inr (2, [.ref n, .int kn, .int ch])), (n, .inl (cJ, 8, .inr (.inl f))), (o, .inr (3, [.long vn, sr]))] H := hP
    have hD : va_D A [(x, .inr (2, [.ref n, .int kn, .int ch])), (n, .inl (cJ, 8, .inr (.inl f))), (o, .inr (3, [.long vn, sr]))] := hD
    rcases k_er_X0_tellNumber kn ch f a1 a2 a3 _ hJ9 with rfl | ⟨-, rfl⟩
    · refine vx_catch (name := "java/lang/IndexOutOfBoundsException") hown [] ⟨0, 13, 16, 19⟩ [⟨0, 13, 20, 21⟩] (htb.trans rfl) (fun _ h => absurd h List.not_mem_nil) rfl (by decide) (hts (.classLink RL 19 "java/lang/IndexOutOfBoundsException") (by decide +kernel)) (va_Nw.use rfl hE.2.2.2.1.1) hce hcv hcl ?_
      refine lv_astore (lv' := [(5, .ref q9), (0, .ref x), (1, .int a1), (2, .int a2), (3, .int a3), (4, .ref o)]) hx hb dL_tellNumber_16 hl (by decide) rfl (fun ls hl => ?_)
      refine lv_iconst (v := 1) hx hb dL_tellNumber_18 (by decide) ?_
      exact vx_ret (k_iret hx hb hr hlocks hS dL_tellNumber_19 (Or.inr ⟨_, hJ9, rfl, hP.sub [0, 1, 2] rfl, hD.sub [0, 1, 2] (by decide) rfl⟩))
    · refine vx_catch (name := "java/lang/IllegalArgumentException") hown [⟨0, 13, 16, 19⟩] ⟨0, 13, 20, 21⟩ [] (htb.trans rfl) (fun z hz => Or.inr (by obtain rfl := List.mem_singleton.mp hz; exact ⟨by decide, "java/lang/IndexOutOfBoundsException", hts (.classLink RL 19 "java/lang/IndexOutOfBoundsException") (by decide +kernel), hN.1⟩)) rfl (by decide) (hts (.classLink RL 21 "java/lang/IllegalArgumentException") (by decide +kernel)) (va_Nw.use rfl hE.2.2.2.1.2.1) hce hcv hcl ?_
      refine lv_astore (lv' := [(5, .ref q9), (0, .ref x), (1, .int a1), (2, .int a2), (3, .int a3), (4, .ref o)]) hx hb dL_tellNumber_20 hl (by decide) rfl (fun ls hl => ?_)
      refine lv_iconst (v := 2) hx hb dL_tellNumber_22 (by decide) ?_
      exact vx_ret (k_iret hx hb hr hlocks hS dL_tellNumber_23 (Or.inr ⟨_, hJ9, rfl, hP.sub [0, 1, 2] rfl, hD.sub [0, 1, 2] (by decide) rfl⟩))
  · obtain ⟨r, hJ9, rfl, hP1, hD1⟩ := hp
    obtain ⟨hP, hD⟩ := va_join (wr := [(o, .inr (3, [.long vn, sr]))]) (wc := [(x, .inr (2, [.ref n, .int kn, .int ch])), (n, .inl (cJ, 8, .inr (.inl f)))]) (w1 := [(x, .inr (2, [.ref n, .int r.2.1, .int r.2.2.1])), (n, .inl (cJ, 8, .inr (.inl r.2.2.2)))]) hP hD [0, 1] [2] rfl rfl (by decide) (by decide) hk hFc hP1 hD1
    have hP : va_P D vwCl [(o, .inr (3, [.long vn, sr])), (x, .inr (2, [.ref n, .int r.2.1, .int r.2.2.1])), (n, .inl (cJ, 8, .inr (.inl r.2.2.2)))] H := hP
    have hD : va_D A [(o, .inr (3, [.long vn, sr])), (x, .inr (2, [.ref n, .int r.2.1, .int r.2.2.1])), (n, .inl (cJ, 8, .inr (.inl r.2.2.2)))] := hD
    refine W.eq (g2 := F0 m 9 ls [.int r.1, .ref o]) rfl ?_
    refine lv_i2l (v := r.1.toInt64) hx hb dL_tellNumber_9 rfl ?_
    refine va_putN (D := D) (ci := 3) (v := .long r.1.toInt64) (ty := .long) (C := RX1) (T := TX1) (N := 2) hx hb hts iw_L_tellNumber_X1 tyX1 tyX1_ok nmX1 hown hK hP hD hS 0 rfl rfl 0 (by decide) (va_Nw.use rfl hN.2.1) (fun _ h9 => h9) rfl (by decide +kernel) rfl rfl (Nat.le_of_ble_eq_true rfl) dL_tellNumber_10 (fun H locs hP hD hS => ?_)
    have hP : va_P D vwCl [(o, .inr (3, [.long r.1.toInt64, sr])), (x, .inr (2, [.ref n, .int r.2.1, .int r.2.2.1])), (n, .inl (cJ, 8, .inr (.inl r.2.2.2)))] H := hP
    have hD : va_D A [(o, .inr (3, [.long r.1.toInt64, sr])), (x, .inr (2, [.ref n, .int r.2.1, .int r.2.2.1])), (n, .inl (cJ, 8, .inr (.inl r.2.2.2)))] := hD
    refine lv_goto (tgt := 24) hx hb dL_tellNumber_13 (by decide) ?_
    refine lv_iconst (v := 0) hx hb dL_tellNumber_24 (by decide) ?_
    exact vx_ret (k_iret hx hb hr hlocks hS dL_tellNumber_25 (Or.inl ⟨_, hJ9, rfl, hP.sub [1, 2, 0] rfl, hD.sub [1, 2, 0] (by decide) rfl⟩))
abbrev rm_L_tellKnown : Room := { frames := 9, cells := 2, slots := 12, locals := 152 }
theorem iw_L_tellKnown_X1 : ∀ w ∈ wsX10, w ∈ wsL_tellKnown := by decide +kernel
set_option maxHeartbeats 4000000 in
set_option maxRecDepth 100000 in
theorem c_L_tellKnown (l : Launch) (hl9 : l.stackTraces = false) (D : va_G) (cB cJ : ClassId) (Hp : Heap) (x n o : Nat) (kn ch : Int32) (f : Nat → Int64) (vn : Int64) (sr : Value) (a1 : Int32) (a2 : Int32) (hP : va_P D vwCl (wC x n cJ kn ch f ++ wO o vn sr) Hp) (hD9 : va_D (fun _ => True) (wC x n cJ kn ch f ++ wO o vn sr)) : vx_Met l yL_tellKnown wsL_tellKnown rm_L_tellKnown (kPreN D cB cJ (va_A (wC x n cJ kn ch f ++ wO o vn sr) Hp.size) Hp [.ref x, .int a1, .int a2, .ref o]) (kQ (kLw D x n o cJ (va_A (wC x n cJ kn ch f ++ wO o vn sr) Hp.size) k_cd (fun z : Int32 => z.toInt64) (j_X0_tellKnown kn ch f a1 a2) kn ch f vn sr) (va_A (wC x n cJ kn ch f ++ wO o vn sr) Hp.size)) (kX kNX (va_A (wC x n cJ kn ch f ++ wO o vn sr) Hp.size)) 2 12 (va_A (wC x n cJ kn ch f ++ wO o vn sr) Hp.size) := by
  refine vx_ofWH (cc := cL_tellKnown) (maxL := 5) (ret := (some .int)) (hh := [(0, 11, 14, 19), (0, 11, 18, 21)]) (by decide) rfl ?_
  intro p e s m args below meth c s₁ B hml hv
  obtain ⟨rfl, hHp, hE, hN⟩ := hv
  subst hHp
  have hx := B.exec
  have hb := B.bytes
  have hr := B.returns
  have hts := atoms_spec (ws := wsL_tellKnown) B.pre
  have hown : s.vm.findClass RL = some m.cls := findClass_of_methodNamed B.named
  have hlocks := B.notSynchronized
  have hK := hE.1
  have hD := hD9.self (sz := s.heap.size)
  generalize hAe : va_A (wC x n cJ kn ch f ++ wO o vn sr) s.heap.size = A at hE hD ⊢
  have hA : ∀ q : Nat, s.heap.size ≤ q → A q := fun q h => by rw [← hAe]; exact Or.inr h
  have htb := vx_table (x := yL_tellKnown) B (hts _ List.mem_cons_self)
  have hS : va_S A s.heap s.heap [] := va_S.rf
  have hl := lv_entry ([.ref x, .int a1, .int a2, .ref o]) (n := 5) (Nat.le_of_ble_eq_true rfl)
  rw [lg_entry_eq]
  generalize (lg_sl ([.ref x, .int a1, .int a2, .ref o]) ++ List.replicate (5 - (lg_sl ([.ref x, .int a1, .int a2, .ref o])).length) Slot.unset).toArray = ls at hl ⊢
  have hl : lv_has ls 5 [(0, .ref x), (1, .int a1), (2, .int a2), (3, .ref o)] := hl
  refine lv_aload_n hx hb dL_tellKnown_0 rfl (lv_at hl 3 rfl) ?_
  refine lv_aload_n hx hb dL_tellKnown_1 rfl (lv_at hl 0 rfl) ?_
  refine lv_iload_n hx hb dL_tellKnown_2 rfl (lv_at hl 1 rfl) ?_
  refine lv_iload_n hx hb dL_tellKnown_3 rfl (lv_at hl 2 rfl) ?_
  have hFc := va_free (wc := [(x, .inr (2, [.ref n, .int kn, .int ch])), (n, .inl (cJ, 8, .inr (.inl f)))]) hD hS hA [0, 1] rfl
  refine kx_go (vx_runV (As := [.int a1, .int a2]) (rest := [.ref o]) ⟨hx, hb, hml, hown, hts⟩ (c_X0_tellKnown l hl9 D cB cJ _ x n kn ch f (hP.sub [0, 1] rfl) ((hD.sub [0, 1] (by decide) rfl).weaken (fun _ _ _ _ => trivial)) a1 a2) (cwV 2 hts gL_tellKnown_X0_tellKnown rfl rfl rfl (by decide +kernel) ⟨(Nat.le_of_ble_eq_true rfl), (Nat.le_of_ble_eq_true rfl)⟩) (k_preV hE hS hFc (va_recv hK hP (ci := 2) (q0 := 0) rfl rfl)) rfl rfl hl.1 rfl (lv_room (Nat.le_of_ble_eq_true rfl)) dL_tellKnown_4 ⟨(Nat.le_of_ble_eq_true rfl), (Nat.le_of_ble_eq_true rfl)⟩) hS (fun q _ h => hFc q h) hFc (fun E ce q9 H locs hp hz hk hS hce hcv hcl => ?_) (fun v H locs hp hz hk hS => ?_)
  · obtain ⟨hJ9, -, hk2⟩ := hp
    have hP := k_keepP hP hk2
    have hP : va_P D vwCl [(x, .inr (2, [.ref n, .int kn, .int ch])), (n, .inl (cJ, 8, .inr (.inl f))), (o, .inr (3, [.long vn, sr]))] H := hP
    have hD : va_D A [(x, .inr (2, [.ref n, .int kn, .int ch])), (n, .inl (cJ, 8, .inr (.inl f))), (o, .inr (3, [.long vn, sr]))] := hD
    rcases k_er_X0_tellKnown kn ch f a1 a2 _ hJ9 with rfl | ⟨-, rfl⟩
    · refine vx_catch (name := "java/lang/IndexOutOfBoundsException") hown [] ⟨0, 11, 14, 19⟩ [⟨0, 11, 18, 21⟩] (htb.trans rfl) (fun _ h => absurd h List.not_mem_nil) rfl (by decide) (hts (.classLink RL 19 "java/lang/IndexOutOfBoundsException") (by decide +kernel)) (va_Nw.use rfl hE.2.2.2.1.1) hce hcv hcl ?_
      refine lv_astore (lv' := [(4, .ref q9), (0, .ref x), (1, .int a1), (2, .int a2), (3, .ref o)]) hx hb dL_tellKnown_14 hl (by decide) rfl (fun ls hl => ?_)
      refine lv_iconst (v := 1) hx hb dL_tellKnown_16 (by decide) ?_
      exact vx_ret (k_iret hx hb hr hlocks hS dL_tellKnown_17 (Or.inr ⟨_, hJ9, rfl, hP.sub [0, 1, 2] rfl, hD.sub [0, 1, 2] (by decide) rfl⟩))
    · refine vx_catch (name := "java/lang/IllegalArgumentException") hown [⟨0, 11, 14, 19⟩] ⟨0, 11, 18, 21⟩ [] (htb.trans rfl) (fun z hz => Or.inr (by obtain rfl := List.mem_singleton.mp hz; exact ⟨by decide, "java/lang/IndexOutOfBoundsException", hts (.classLink RL 19 "java/lang/IndexOutOfBoundsException") (by decide +kernel), hN.1⟩)) rfl (by decide) (hts (.classLink RL 21 "java/lang/IllegalArgumentException") (by decide +kernel)) (va_Nw.use rfl hE.2.2.2.1.2.1) hce hcv hcl ?_
      refine lv_astore (lv' := [(4, .ref q9), (0, .ref x), (1, .int a1), (2, .int a2), (3, .ref o)]) hx hb dL_tellKnown_18 hl (by decide) rfl (fun ls hl => ?_)
      refine lv_iconst (v := 2) hx hb dL_tellKnown_20 (by decide) ?_
      exact vx_ret (k_iret hx hb hr hlocks hS dL_tellKnown_21 (Or.inr ⟨_, hJ9, rfl, hP.sub [0, 1, 2] rfl, hD.sub [0, 1, 2] (by decide) rfl⟩))
  · obtain ⟨r, hJ9, rfl, hP1, hD1⟩ := hp
    obtain ⟨hP, hD⟩ := va_join (wr := [(o, .inr (3, [.long vn, sr]))]) (wc := [(x, .inr (2, [.ref n, .int kn, .int ch])), (n, .inl (cJ, 8, .inr (.inl f)))]) (w1 := [(x, .inr (2, [.ref n, .int r.2.1, .int r.2.2.1])), (n, .inl (cJ, 8, .inr (.inl r.2.2.2)))]) hP hD [0, 1] [2] rfl rfl (by decide) (by decide) hk hFc hP1 hD1
    have hP : va_P D vwCl [(o, .inr (3, [.long vn, sr])), (x, .inr (2, [.ref n, .int r.2.1, .int r.2.2.1])), (n, .inl (cJ, 8, .inr (.inl r.2.2.2)))] H := hP
    have hD : va_D A [(o, .inr (3, [.long vn, sr])), (x, .inr (2, [.ref n, .int r.2.1, .int r.2.2.1])), (n, .inl (cJ, 8, .inr (.inl r.2.2.2)))] := hD
    refine W.eq (g2 := F0 m 7 ls [.int r.1, .ref o]) rfl ?_
    refine lv_i2l (v := r.1.toInt64) hx hb dL_tellKnown_7 rfl ?_
    refine va_putN (D := D) (ci := 3) (v := .long r.1.toInt64) (ty := .long) (C := RX1) (T := TX1) (N := 2) hx hb hts iw_L_tellKnown_X1 tyX1 tyX1_ok nmX1 hown hK hP hD hS 0 rfl rfl 0 (by decide) (va_Nw.use rfl hN.2.1) (fun _ h9 => h9) rfl (by decide +kernel) rfl rfl (Nat.le_of_ble_eq_true rfl) dL_tellKnown_8 (fun H locs hP hD hS => ?_)
    have hP : va_P D vwCl [(o, .inr (3, [.long r.1.toInt64, sr])), (x, .inr (2, [.ref n, .int r.2.1, .int r.2.2.1])), (n, .inl (cJ, 8, .inr (.inl r.2.2.2)))] H := hP
    have hD : va_D A [(o, .inr (3, [.long r.1.toInt64, sr])), (x, .inr (2, [.ref n, .int r.2.1, .int r.2.2.1])), (n, .inl (cJ, 8, .inr (.inl r.2.2.2)))] := hD
    refine lv_goto (tgt := 22) hx hb dL_tellKnown_11 (by decide) ?_
    refine lv_iconst (v := 0) hx hb dL_tellKnown_22 (by decide) ?_
    exact vx_ret (k_iret hx hb hr hlocks hS dL_tellKnown_23 (Or.inl ⟨_, hJ9, rfl, hP.sub [1, 2, 0] rfl, hD.sub [1, 2, 0] (by decide) rfl⟩))
abbrev rm_L_take : Room := { frames := 9, cells := 2, slots := 12, locals := 156 }
theorem iw_L_take_X1 : ∀ w ∈ wsX10, w ∈ wsL_take := by decide +kernel
set_option maxHeartbeats 4000000 in
set_option maxRecDepth 100000 in
theorem c_L_take (l : Launch) (hl9 : l.stackTraces = false) (D : va_G) (cB cJ : ClassId) (Hp : Heap) (x n o : Nat) (kn ch : Int32) (f : Nat → Int64) (vn : Int64) (sr : Value) (a1 : Int32) (a2 : Int32) (hP : va_P D vwCl (wC x n cJ kn ch f ++ wO o vn sr) Hp) (hD9 : va_D (fun _ => True) (wC x n cJ kn ch f ++ wO o vn sr)) : vx_Met l yL_take wsL_take rm_L_take (kPreN D cB cJ (va_A (wC x n cJ kn ch f ++ wO o vn sr) Hp.size) Hp [.ref x, .int a1, .int a2, .ref o]) (kQ (kLw D x n o cJ (va_A (wC x n cJ kn ch f ++ wO o vn sr) Hp.size) k_cd (fun z : Int32 => z.toInt64) (j_X0_take kn ch f a1 a2) kn ch f vn sr) (va_A (wC x n cJ kn ch f ++ wO o vn sr) Hp.size)) (kX kNX (va_A (wC x n cJ kn ch f ++ wO o vn sr) Hp.size)) 2 12 (va_A (wC x n cJ kn ch f ++ wO o vn sr) Hp.size) := by
  refine vx_ofWH (cc := cL_take) (maxL := 5) (ret := (some .int)) (hh := [(0, 11, 14, 19)]) (by decide) rfl ?_
  intro p e s m args below meth c s₁ B hml hv
  obtain ⟨rfl, hHp, hE, hN⟩ := hv
  subst hHp
  have hx := B.exec
  have hb := B.bytes
  have hr := B.returns
  have hts := atoms_spec (ws := wsL_take) B.pre
  have hown : s.vm.findClass RL = some m.cls := findClass_of_methodNamed B.named
  have hlocks := B.notSynchronized
  have hK := hE.1
  have hD := hD9.self (sz := s.heap.size)
  generalize hAe : va_A (wC x n cJ kn ch f ++ wO o vn sr) s.heap.size = A at hE hD ⊢
  have hA : ∀ q : Nat, s.heap.size ≤ q → A q := fun q h => by rw [← hAe]; exact Or.inr h
  have htb := vx_table (x := yL_take) B (hts _ List.mem_cons_self)
  have hS : va_S A s.heap s.heap [] := va_S.rf
  have hl := lv_entry ([.ref x, .int a1, .int a2, .ref o]) (n := 5) (Nat.le_of_ble_eq_true rfl)
  rw [lg_entry_eq]
  generalize (lg_sl ([.ref x, .int a1, .int a2, .ref o]) ++ List.replicate (5 - (lg_sl ([.ref x, .int a1, .int a2, .ref o])).length) Slot.unset).toArray = ls at hl ⊢
  have hl : lv_has ls 5 [(0, .ref x), (1, .int a1), (2, .int a2), (3, .ref o)] := hl
  refine lv_aload_n hx hb dL_take_0 rfl (lv_at hl 3 rfl) ?_
  refine lv_aload_n hx hb dL_take_1 rfl (lv_at hl 0 rfl) ?_
  refine lv_iload_n hx hb dL_take_2 rfl (lv_at hl 1 rfl) ?_
  refine lv_iload_n hx hb dL_take_3 rfl (lv_at hl 2 rfl) ?_
  have hFc := va_free (wc := [(x, .inr (2, [.ref n, .int kn, .int ch])), (n, .inl (cJ, 8, .inr (.inl f)))]) hD hS hA [0, 1] rfl
  refine kx_go (vx_runV (As := [.int a1, .int a2]) (rest := [.ref o]) ⟨hx, hb, hml, hown, hts⟩ (c_X0_take l hl9 D cB cJ _ x n kn ch f (hP.sub [0, 1] rfl) ((hD.sub [0, 1] (by decide) rfl).weaken (fun _ _ _ _ => trivial)) a1 a2) (cwV 2 hts gL_take_X0_take rfl rfl rfl (by decide +kernel) ⟨(Nat.le_of_ble_eq_true rfl), (Nat.le_of_ble_eq_true rfl)⟩) (k_preV hE hS hFc (va_recv hK hP (ci := 2) (q0 := 0) rfl rfl)) rfl rfl hl.1 rfl (lv_room (Nat.le_of_ble_eq_true rfl)) dL_take_4 ⟨(Nat.le_of_ble_eq_true rfl), (Nat.le_of_ble_eq_true rfl)⟩) hS (fun q _ h => hFc q h) hFc (fun E ce q9 H locs hp hz hk hS hce hcv hcl => ?_) (fun v H locs hp hz hk hS => ?_)
  · obtain ⟨hJ9, -, hk2⟩ := hp
    have hP := k_keepP hP hk2
    have hP : va_P D vwCl [(x, .inr (2, [.ref n, .int kn, .int ch])), (n, .inl (cJ, 8, .inr (.inl f))), (o, .inr (3, [.long vn, sr]))] H := hP
    have hD : va_D A [(x, .inr (2, [.ref n, .int kn, .int ch])), (n, .inl (cJ, 8, .inr (.inl f))), (o, .inr (3, [.long vn, sr]))] := hD
    rcases k_er_X0_take kn ch f a1 a2 _ hJ9 with rfl | ⟨hb9, -⟩
    · refine vx_catch (name := "java/lang/IndexOutOfBoundsException") hown [] ⟨0, 11, 14, 19⟩ [] (htb.trans rfl) (fun _ h => absurd h List.not_mem_nil) rfl (by decide) (hts (.classLink RL 19 "java/lang/IndexOutOfBoundsException") (by decide +kernel)) (va_Nw.use rfl hE.2.2.2.1.1) hce hcv hcl ?_
      refine lv_astore (lv' := [(4, .ref q9), (0, .ref x), (1, .int a1), (2, .int a2), (3, .ref o)]) hx hb dL_take_14 hl (by decide) rfl (fun ls hl => ?_)
      refine lv_iconst (v := 1) hx hb dL_take_16 (by decide) ?_
      exact vx_ret (k_iret hx hb hr hlocks hS dL_take_17 (Or.inr ⟨_, hJ9, rfl, hP.sub [0, 1, 2] rfl, hD.sub [0, 1, 2] (by decide) rfl⟩))
    · exact absurd hb9 (by decide)
  · obtain ⟨r, hJ9, rfl, hP1, hD1⟩ := hp
    obtain ⟨hP, hD⟩ := va_join (wr := [(o, .inr (3, [.long vn, sr]))]) (wc := [(x, .inr (2, [.ref n, .int kn, .int ch])), (n, .inl (cJ, 8, .inr (.inl f)))]) (w1 := [(x, .inr (2, [.ref n, .int r.2.1, .int r.2.2.1])), (n, .inl (cJ, 8, .inr (.inl r.2.2.2)))]) hP hD [0, 1] [2] rfl rfl (by decide) (by decide) hk hFc hP1 hD1
    have hP : va_P D vwCl [(o, .inr (3, [.long vn, sr])), (x, .inr (2, [.ref n, .int r.2.1, .int r.2.2.1])), (n, .inl (cJ, 8, .inr (.inl r.2.2.2)))] H := hP
    have hD : va_D A [(o, .inr (3, [.long vn, sr])), (x, .inr (2, [.ref n, .int r.2.1, .int r.2.2.1])), (n, .inl (cJ, 8, .inr (.inl r.2.2.2)))] := hD
    refine W.eq (g2 := F0 m 7 ls [.int r.1, .ref o]) rfl ?_
    refine lv_i2l (v := r.1.toInt64) hx hb dL_take_7 rfl ?_
    refine va_putN (D := D) (ci := 3) (v := .long r.1.toInt64) (ty := .long) (C := RX1) (T := TX1) (N := 2) hx hb hts iw_L_take_X1 tyX1 tyX1_ok nmX1 hown hK hP hD hS 0 rfl rfl 0 (by decide) (va_Nw.use rfl hN.2.1) (fun _ h9 => h9) rfl (by decide +kernel) rfl rfl (Nat.le_of_ble_eq_true rfl) dL_take_8 (fun H locs hP hD hS => ?_)
    have hP : va_P D vwCl [(o, .inr (3, [.long r.1.toInt64, sr])), (x, .inr (2, [.ref n, .int r.2.1, .int r.2.2.1])), (n, .inl (cJ, 8, .inr (.inl r.2.2.2)))] H := hP
    have hD : va_D A [(o, .inr (3, [.long r.1.toInt64, sr])), (x, .inr (2, [.ref n, .int r.2.1, .int r.2.2.1])), (n, .inl (cJ, 8, .inr (.inl r.2.2.2)))] := hD
    refine lv_goto (tgt := 18) hx hb dL_take_11 (by decide) ?_
    refine lv_iconst (v := 0) hx hb dL_take_18 (by decide) ?_
    exact vx_ret (k_iret hx hb hr hlocks hS dL_take_19 (Or.inl ⟨_, hJ9, rfl, hP.sub [1, 2, 0] rfl, hD.sub [1, 2, 0] (by decide) rfl⟩))
abbrev rm_L_with : Room := { frames := 9, cells := 2, slots := 12, locals := 157 }
theorem iw_L_with_X1 : ∀ w ∈ wsX10, w ∈ wsL_with := by decide +kernel
set_option maxHeartbeats 4000000 in
set_option maxRecDepth 100000 in
theorem c_L_with (l : Launch) (hl9 : l.stackTraces = false) (D : va_G) (cB cJ : ClassId) (Hp : Heap) (x n o : Nat) (kn ch : Int32) (f : Nat → Int64) (vn : Int64) (sr : Value) (a1 : Int32) (a2 : Int32) (a3 : Int32) (hP : va_P D vwCl (wC x n cJ kn ch f ++ wO o vn sr) Hp) (hD9 : va_D (fun _ => True) (wC x n cJ kn ch f ++ wO o vn sr)) : vx_Met l yL_with wsL_with rm_L_with (kPreN D cB cJ (va_A (wC x n cJ kn ch f ++ wO o vn sr) Hp.size) Hp [.ref x, .int a1, .int a2, .int a3, .ref o]) (kQ (kLw D x n o cJ (va_A (wC x n cJ kn ch f ++ wO o vn sr) Hp.size) k_cd (fun z : Int32 => z.toInt64) (j_X0_with kn ch f a1 a2 a3) kn ch f vn sr) (va_A (wC x n cJ kn ch f ++ wO o vn sr) Hp.size)) (kX kNX (va_A (wC x n cJ kn ch f ++ wO o vn sr) Hp.size)) 2 12 (va_A (wC x n cJ kn ch f ++ wO o vn sr) Hp.size) := by
  refine vx_ofWH (cc := cL_with) (maxL := 6) (ret := (some .int)) (hh := [(0, 13, 16, 19), (0, 13, 20, 21)]) (by decide) rfl ?_
  intro p e s m args below meth c s₁ B hml hv
  obtain ⟨rfl, hHp, hE, hN⟩ := hv
  subst hHp
  have hx := B.exec
  have hb := B.bytes
  have hr := B.returns
  have hts := atoms_spec (ws := wsL_with) B.pre
  have hown : s.vm.findClass RL = some m.cls := findClass_of_methodNamed B.named
  have hlocks := B.notSynchronized
  have hK := hE.1
  have hD := hD9.self (sz := s.heap.size)
  generalize hAe : va_A (wC x n cJ kn ch f ++ wO o vn sr) s.heap.size = A at hE hD ⊢
  have hA : ∀ q : Nat, s.heap.size ≤ q → A q := fun q h => by rw [← hAe]; exact Or.inr h
  have htb := vx_table (x := yL_with) B (hts _ List.mem_cons_self)
  have hS : va_S A s.heap s.heap [] := va_S.rf
  have hl := lv_entry ([.ref x, .int a1, .int a2, .int a3, .ref o]) (n := 6) (Nat.le_of_ble_eq_true rfl)
  rw [lg_entry_eq]
  generalize (lg_sl ([.ref x, .int a1, .int a2, .int a3, .ref o]) ++ List.replicate (6 - (lg_sl ([.ref x, .int a1, .int a2, .int a3, .ref o])).length) Slot.unset).toArray = ls at hl ⊢
  have hl : lv_has ls 6 [(0, .ref x), (1, .int a1), (2, .int a2), (3, .int a3), (4, .ref o)] := hl
  refine lv_aload hx hb dL_with_0 (lv_at hl 4 rfl) ?_
  refine lv_aload_n hx hb dL_with_2 rfl (lv_at hl 0 rfl) ?_
  refine lv_iload_n hx hb dL_with_3 rfl (lv_at hl 1 rfl) ?_
  refine lv_iload_n hx hb dL_with_4 rfl (lv_at hl 2 rfl) ?_
  refine lv_iload_n hx hb dL_with_5 rfl (lv_at hl 3 rfl) ?_
  have hFc := va_free (wc := [(x, .inr (2, [.ref n, .int kn, .int ch])), (n, .inl (cJ, 8, .inr (.inl f)))]) hD hS hA [0, 1] rfl
  refine kx_go (vx_runV (As := [.int a1, .int a2, .int a3]) (rest := [.ref o]) ⟨hx, hb, hml, hown, hts⟩ (c_X0_with l hl9 D cB cJ _ x n kn ch f (hP.sub [0, 1] rfl) ((hD.sub [0, 1] (by decide) rfl).weaken (fun _ _ _ _ => trivial)) a1 a2 a3) (cwV 3 hts gL_with_X0_with rfl rfl rfl (by decide +kernel) ⟨(Nat.le_of_ble_eq_true rfl), (Nat.le_of_ble_eq_true rfl)⟩) (k_preV hE hS hFc (va_recv hK hP (ci := 2) (q0 := 0) rfl rfl)) rfl rfl hl.1 rfl (lv_room (Nat.le_of_ble_eq_true rfl)) dL_with_6 ⟨(Nat.le_of_ble_eq_true rfl), (Nat.le_of_ble_eq_true rfl)⟩) hS (fun q _ h => hFc q h) hFc (fun E ce q9 H locs hp hz hk hS hce hcv hcl => ?_) (fun v H locs hp hz hk hS => ?_)
  · obtain ⟨hJ9, -, hk2⟩ := hp
    have hP := k_keepP hP hk2
    have hP : va_P D vwCl [(x, .inr (2, [.ref n, .int kn, .int ch])), (n, .inl (cJ, 8, .inr (.inl f))), (o, .inr (3, [.long vn, sr]))] H := hP
    have hD : va_D A [(x, .inr (2, [.ref n, .int kn, .int ch])), (n, .inl (cJ, 8, .inr (.inl f))), (o, .inr (3, [.long vn, sr]))] := hD
    rcases k_er_X0_with kn ch f a1 a2 a3 _ hJ9 with rfl | ⟨-, rfl⟩
    · refine vx_catch (name := "java/lang/IndexOutOfBoundsException") hown [] ⟨0, 13, 16, 19⟩ [⟨0, 13, 20, 21⟩] (htb.trans rfl) (fun _ h => absurd h List.not_mem_nil) rfl (by decide) (hts (.classLink RL 19 "java/lang/IndexOutOfBoundsException") (by decide +kernel)) (va_Nw.use rfl hE.2.2.2.1.1) hce hcv hcl ?_
      refine lv_astore (lv' := [(5, .ref q9), (0, .ref x), (1, .int a1), (2, .int a2), (3, .int a3), (4, .ref o)]) hx hb dL_with_16 hl (by decide) rfl (fun ls hl => ?_)
      refine lv_iconst (v := 1) hx hb dL_with_18 (by decide) ?_
      exact vx_ret (k_iret hx hb hr hlocks hS dL_with_19 (Or.inr ⟨_, hJ9, rfl, hP.sub [0, 1, 2] rfl, hD.sub [0, 1, 2] (by decide) rfl⟩))
    · refine vx_catch (name := "java/lang/IllegalArgumentException") hown [⟨0, 13, 16, 19⟩] ⟨0, 13, 20, 21⟩ [] (htb.trans rfl) (fun z hz => Or.inr (by obtain rfl := List.mem_singleton.mp hz; exact ⟨by decide, "java/lang/IndexOutOfBoundsException", hts (.classLink RL 19 "java/lang/IndexOutOfBoundsException") (by decide +kernel), hN.1⟩)) rfl (by decide) (hts (.classLink RL 21 "java/lang/IllegalArgumentException") (by decide +kernel)) (va_Nw.use rfl hE.2.2.2.1.2.1) hce hcv hcl ?_
      refine lv_astore (lv' := [(5, .ref q9), (0, .ref x), (1, .int a1), (2, .int a2), (3, .int a3), (4, .ref o)]) hx hb dL_with_20 hl (by decide) rfl (fun ls hl => ?_)
      refine lv_iconst (v := 2) hx hb dL_with_22 (by decide) ?_
      exact vx_ret (k_iret hx hb hr hlocks hS dL_with_23 (Or.inr ⟨_, hJ9, rfl, hP.sub [0, 1, 2] rfl, hD.sub [0, 1, 2] (by decide) rfl⟩))
  · obtain ⟨r, hJ9, rfl, hP1, hD1⟩ := hp
    obtain ⟨hP, hD⟩ := va_join (wr := [(o, .inr (3, [.long vn, sr]))]) (wc := [(x, .inr (2, [.ref n, .int kn, .int ch])), (n, .inl (cJ, 8, .inr (.inl f)))]) (w1 := [(x, .inr (2, [.ref n, .int r.2.1, .int r.2.2.1])), (n, .inl (cJ, 8, .inr (.inl r.2.2.2)))]) hP hD [0, 1] [2] rfl rfl (by decide) (by decide) hk hFc hP1 hD1
    have hP : va_P D vwCl [(o, .inr (3, [.long vn, sr])), (x, .inr (2, [.ref n, .int r.2.1, .int r.2.2.1])), (n, .inl (cJ, 8, .inr (.inl r.2.2.2)))] H := hP
    have hD : va_D A [(o, .inr (3, [.long vn, sr])), (x, .inr (2, [.ref n, .int r.2.1, .int r.2.2.1])), (n, .inl (cJ, 8, .inr (.inl r.2.2.2)))] := hD
    refine W.eq (g2 := F0 m 9 ls [.int r.1, .ref o]) rfl ?_
    refine lv_i2l (v := r.1.toInt64) hx hb dL_with_9 rfl ?_
    refine va_putN (D := D) (ci := 3) (v := .long r.1.toInt64) (ty := .long) (C := RX1) (T := TX1) (N := 2) hx hb hts iw_L_with_X1 tyX1 tyX1_ok nmX1 hown hK hP hD hS 0 rfl rfl 0 (by decide) (va_Nw.use rfl hN.2.1) (fun _ h9 => h9) rfl (by decide +kernel) rfl rfl (Nat.le_of_ble_eq_true rfl) dL_with_10 (fun H locs hP hD hS => ?_)
    have hP : va_P D vwCl [(o, .inr (3, [.long r.1.toInt64, sr])), (x, .inr (2, [.ref n, .int r.2.1, .int r.2.2.1])), (n, .inl (cJ, 8, .inr (.inl r.2.2.2)))] H := hP
    have hD : va_D A [(o, .inr (3, [.long r.1.toInt64, sr])), (x, .inr (2, [.ref n, .int r.2.1, .int r.2.2.1])), (n, .inl (cJ, 8, .inr (.inl r.2.2.2)))] := hD
    refine lv_goto (tgt := 24) hx hb dL_with_13 (by decide) ?_
    refine lv_iconst (v := 0) hx hb dL_with_24 (by decide) ?_
    exact vx_ret (k_iret hx hb hr hlocks hS dL_with_25 (Or.inl ⟨_, hJ9, rfl, hP.sub [1, 2, 0] rfl, hD.sub [1, 2, 0] (by decide) rfl⟩))
abbrev rm_L_plus : Room := { frames := 9, cells := 2, slots := 12, locals := 154 }
theorem iw_L_plus_X1 : ∀ w ∈ wsX10, w ∈ wsL_plus := by decide +kernel
set_option maxHeartbeats 4000000 in
set_option maxRecDepth 100000 in
theorem c_L_plus (l : Launch) (hl9 : l.stackTraces = false) (D : va_G) (cB cJ : ClassId) (Hp : Heap) (x n o : Nat) (kn ch : Int32) (f : Nat → Int64) (vn : Int64) (sr : Value) (a1 : Int32) (a2 : Int32) (a3 : Int32) (a4 : Int32) (hP : va_P D vwCl (wC x n cJ kn ch f ++ wO o vn sr) Hp) (hD9 : va_D (fun _ => True) (wC x n cJ kn ch f ++ wO o vn sr)) : vx_Met l yL_plus wsL_plus rm_L_plus (kPreN D cB cJ (va_A (wC x n cJ kn ch f ++ wO o vn sr) Hp.size) Hp [.ref x, .int a1, .int a2, .int a3, .int a4, .ref o]) (kQ (kLw D x n o cJ (va_A (wC x n cJ kn ch f ++ wO o vn sr) Hp.size) k_cd (fun z : Int32 => z.toInt64) (j_X0_plus kn ch f a1 a2 a3 a4) kn ch f vn sr) (va_A (wC x n cJ kn ch f ++ wO o vn sr) Hp.size)) (kX kNX (va_A (wC x n cJ kn ch f ++ wO o vn sr) Hp.size)) 2 12 (va_A (wC x n cJ kn ch f ++ wO o vn sr) Hp.size) := by
  refine vx_ofWH (cc := cL_plus) (maxL := 7) (ret := (some .int)) (hh := [(0, 15, 18, 19), (0, 15, 22, 21)]) (by decide) rfl ?_
  intro p e s m args below meth c s₁ B hml hv
  obtain ⟨rfl, hHp, hE, hN⟩ := hv
  subst hHp
  have hx := B.exec
  have hb := B.bytes
  have hr := B.returns
  have hts := atoms_spec (ws := wsL_plus) B.pre
  have hown : s.vm.findClass RL = some m.cls := findClass_of_methodNamed B.named
  have hlocks := B.notSynchronized
  have hK := hE.1
  have hD := hD9.self (sz := s.heap.size)
  generalize hAe : va_A (wC x n cJ kn ch f ++ wO o vn sr) s.heap.size = A at hE hD ⊢
  have hA : ∀ q : Nat, s.heap.size ≤ q → A q := fun q h => by rw [← hAe]; exact Or.inr h
  have htb := vx_table (x := yL_plus) B (hts _ List.mem_cons_self)
  have hS : va_S A s.heap s.heap [] := va_S.rf
  have hl := lv_entry ([.ref x, .int a1, .int a2, .int a3, .int a4, .ref o]) (n := 7) (Nat.le_of_ble_eq_true rfl)
  rw [lg_entry_eq]
  generalize (lg_sl ([.ref x, .int a1, .int a2, .int a3, .int a4, .ref o]) ++ List.replicate (7 - (lg_sl ([.ref x, .int a1, .int a2, .int a3, .int a4, .ref o])).length) Slot.unset).toArray = ls at hl ⊢
  have hl : lv_has ls 7 [(0, .ref x), (1, .int a1), (2, .int a2), (3, .int a3), (4, .int a4), (5, .ref o)] := hl
  refine lv_aload hx hb dL_plus_0 (lv_at hl 5 rfl) ?_
  refine lv_aload_n hx hb dL_plus_2 rfl (lv_at hl 0 rfl) ?_
  refine lv_iload_n hx hb dL_plus_3 rfl (lv_at hl 1 rfl) ?_
  refine lv_iload_n hx hb dL_plus_4 rfl (lv_at hl 2 rfl) ?_
  refine lv_iload_n hx hb dL_plus_5 rfl (lv_at hl 3 rfl) ?_
  refine lv_iload hx hb dL_plus_6 (lv_at hl 4 rfl) ?_
  have hFc := va_free (wc := [(x, .inr (2, [.ref n, .int kn, .int ch])), (n, .inl (cJ, 8, .inr (.inl f)))]) hD hS hA [0, 1] rfl
  refine kx_go (vx_runV (As := [.int a1, .int a2, .int a3, .int a4]) (rest := [.ref o]) ⟨hx, hb, hml, hown, hts⟩ (c_X0_plus l hl9 D cB cJ _ x n kn ch f (hP.sub [0, 1] rfl) ((hD.sub [0, 1] (by decide) rfl).weaken (fun _ _ _ _ => trivial)) a1 a2 a3 a4) (cwV 4 hts gL_plus_X0_plus rfl rfl rfl (by decide +kernel) ⟨(Nat.le_of_ble_eq_true rfl), (Nat.le_of_ble_eq_true rfl)⟩) (k_preV hE hS hFc (va_recv hK hP (ci := 2) (q0 := 0) rfl rfl)) rfl rfl hl.1 rfl (lv_room (Nat.le_of_ble_eq_true rfl)) dL_plus_8 ⟨(Nat.le_of_ble_eq_true rfl), (Nat.le_of_ble_eq_true rfl)⟩) hS (fun q _ h => hFc q h) hFc (fun E ce q9 H locs hp hz hk hS hce hcv hcl => ?_) (fun v H locs hp hz hk hS => ?_)
  · obtain ⟨hJ9, -, hk2⟩ := hp
    have hP := k_keepP hP hk2
    have hP : va_P D vwCl [(x, .inr (2, [.ref n, .int kn, .int ch])), (n, .inl (cJ, 8, .inr (.inl f))), (o, .inr (3, [.long vn, sr]))] H := hP
    have hD : va_D A [(x, .inr (2, [.ref n, .int kn, .int ch])), (n, .inl (cJ, 8, .inr (.inl f))), (o, .inr (3, [.long vn, sr]))] := hD
    rcases k_er_X0_plus kn ch f a1 a2 a3 a4 _ hJ9 with rfl | ⟨-, rfl⟩
    · refine vx_catch (name := "java/lang/IndexOutOfBoundsException") hown [] ⟨0, 15, 18, 19⟩ [⟨0, 15, 22, 21⟩] (htb.trans rfl) (fun _ h => absurd h List.not_mem_nil) rfl (by decide) (hts (.classLink RL 19 "java/lang/IndexOutOfBoundsException") (by decide +kernel)) (va_Nw.use rfl hE.2.2.2.1.1) hce hcv hcl ?_
      refine lv_astore (lv' := [(6, .ref q9), (0, .ref x), (1, .int a1), (2, .int a2), (3, .int a3), (4, .int a4), (5, .ref o)]) hx hb dL_plus_18 hl (by decide) rfl (fun ls hl => ?_)
      refine lv_iconst (v := 1) hx hb dL_plus_20 (by decide) ?_
      exact vx_ret (k_iret hx hb hr hlocks hS dL_plus_21 (Or.inr ⟨_, hJ9, rfl, hP.sub [0, 1, 2] rfl, hD.sub [0, 1, 2] (by decide) rfl⟩))
    · refine vx_catch (name := "java/lang/IllegalArgumentException") hown [⟨0, 15, 18, 19⟩] ⟨0, 15, 22, 21⟩ [] (htb.trans rfl) (fun z hz => Or.inr (by obtain rfl := List.mem_singleton.mp hz; exact ⟨by decide, "java/lang/IndexOutOfBoundsException", hts (.classLink RL 19 "java/lang/IndexOutOfBoundsException") (by decide +kernel), hN.1⟩)) rfl (by decide) (hts (.classLink RL 21 "java/lang/IllegalArgumentException") (by decide +kernel)) (va_Nw.use rfl hE.2.2.2.1.2.1) hce hcv hcl ?_
      refine lv_astore (lv' := [(6, .ref q9), (0, .ref x), (1, .int a1), (2, .int a2), (3, .int a3), (4, .int a4), (5, .ref o)]) hx hb dL_plus_22 hl (by decide) rfl (fun ls hl => ?_)
      refine lv_iconst (v := 2) hx hb dL_plus_24 (by decide) ?_
      exact vx_ret (k_iret hx hb hr hlocks hS dL_plus_25 (Or.inr ⟨_, hJ9, rfl, hP.sub [0, 1, 2] rfl, hD.sub [0, 1, 2] (by decide) rfl⟩))
  · obtain ⟨r, hJ9, rfl, hP1, hD1⟩ := hp
    obtain ⟨hP, hD⟩ := va_join (wr := [(o, .inr (3, [.long vn, sr]))]) (wc := [(x, .inr (2, [.ref n, .int kn, .int ch])), (n, .inl (cJ, 8, .inr (.inl f)))]) (w1 := [(x, .inr (2, [.ref n, .int r.2.1, .int r.2.2.1])), (n, .inl (cJ, 8, .inr (.inl r.2.2.2)))]) hP hD [0, 1] [2] rfl rfl (by decide) (by decide) hk hFc hP1 hD1
    have hP : va_P D vwCl [(o, .inr (3, [.long vn, sr])), (x, .inr (2, [.ref n, .int r.2.1, .int r.2.2.1])), (n, .inl (cJ, 8, .inr (.inl r.2.2.2)))] H := hP
    have hD : va_D A [(o, .inr (3, [.long vn, sr])), (x, .inr (2, [.ref n, .int r.2.1, .int r.2.2.1])), (n, .inl (cJ, 8, .inr (.inl r.2.2.2)))] := hD
    refine W.eq (g2 := F0 m 11 ls [.int r.1, .ref o]) rfl ?_
    refine lv_i2l (v := r.1.toInt64) hx hb dL_plus_11 rfl ?_
    refine va_putN (D := D) (ci := 3) (v := .long r.1.toInt64) (ty := .long) (C := RX1) (T := TX1) (N := 2) hx hb hts iw_L_plus_X1 tyX1 tyX1_ok nmX1 hown hK hP hD hS 0 rfl rfl 0 (by decide) (va_Nw.use rfl hN.2.1) (fun _ h9 => h9) rfl (by decide +kernel) rfl rfl (Nat.le_of_ble_eq_true rfl) dL_plus_12 (fun H locs hP hD hS => ?_)
    have hP : va_P D vwCl [(o, .inr (3, [.long r.1.toInt64, sr])), (x, .inr (2, [.ref n, .int r.2.1, .int r.2.2.1])), (n, .inl (cJ, 8, .inr (.inl r.2.2.2)))] H := hP
    have hD : va_D A [(o, .inr (3, [.long r.1.toInt64, sr])), (x, .inr (2, [.ref n, .int r.2.1, .int r.2.2.1])), (n, .inl (cJ, 8, .inr (.inl r.2.2.2)))] := hD
    refine lv_goto (tgt := 26) hx hb dL_plus_15 (by decide) ?_
    refine lv_iconst (v := 0) hx hb dL_plus_26 (by decide) ?_
    exact vx_ret (k_iret hx hb hr hlocks hS dL_plus_27 (Or.inl ⟨_, hJ9, rfl, hP.sub [1, 2, 0] rfl, hD.sub [1, 2, 0] (by decide) rfl⟩))
abbrev rm_L_minus : Room := { frames := 9, cells := 2, slots := 12, locals := 154 }
theorem iw_L_minus_X1 : ∀ w ∈ wsX10, w ∈ wsL_minus := by decide +kernel
set_option maxHeartbeats 4000000 in
set_option maxRecDepth 100000 in
theorem c_L_minus (l : Launch) (hl9 : l.stackTraces = false) (D : va_G) (cB cJ : ClassId) (Hp : Heap) (x n o : Nat) (kn ch : Int32) (f : Nat → Int64) (vn : Int64) (sr : Value) (a1 : Int32) (a2 : Int32) (a3 : Int32) (a4 : Int32) (hP : va_P D vwCl (wC x n cJ kn ch f ++ wO o vn sr) Hp) (hD9 : va_D (fun _ => True) (wC x n cJ kn ch f ++ wO o vn sr)) : vx_Met l yL_minus wsL_minus rm_L_minus (kPreN D cB cJ (va_A (wC x n cJ kn ch f ++ wO o vn sr) Hp.size) Hp [.ref x, .int a1, .int a2, .int a3, .int a4, .ref o]) (kQ (kLw D x n o cJ (va_A (wC x n cJ kn ch f ++ wO o vn sr) Hp.size) k_cd (fun z : Int32 => z.toInt64) (j_X0_minus kn ch f a1 a2 a3 a4) kn ch f vn sr) (va_A (wC x n cJ kn ch f ++ wO o vn sr) Hp.size)) (kX kNX (va_A (wC x n cJ kn ch f ++ wO o vn sr) Hp.size)) 2 12 (va_A (wC x n cJ kn ch f ++ wO o vn sr) Hp.size) := by
  refine vx_ofWH (cc := cL_minus) (maxL := 7) (ret := (some .int)) (hh := [(0, 15, 18, 19), (0, 15, 22, 21)]) (by decide) rfl ?_
  intro p e s m args below meth c s₁ B hml hv
  obtain ⟨rfl, hHp, hE, hN⟩ := hv
  subst hHp
  have hx := B.exec
  have hb := B.bytes
  have hr := B.returns
  have hts := atoms_spec (ws := wsL_minus) B.pre
  have hown : s.vm.findClass RL = some m.cls := findClass_of_methodNamed B.named
  have hlocks := B.notSynchronized
  have hK := hE.1
  have hD := hD9.self (sz := s.heap.size)
  generalize hAe : va_A (wC x n cJ kn ch f ++ wO o vn sr) s.heap.size = A at hE hD ⊢
  have hA : ∀ q : Nat, s.heap.size ≤ q → A q := fun q h => by rw [← hAe]; exact Or.inr h
  have htb := vx_table (x := yL_minus) B (hts _ List.mem_cons_self)
  have hS : va_S A s.heap s.heap [] := va_S.rf
  have hl := lv_entry ([.ref x, .int a1, .int a2, .int a3, .int a4, .ref o]) (n := 7) (Nat.le_of_ble_eq_true rfl)
  rw [lg_entry_eq]
  generalize (lg_sl ([.ref x, .int a1, .int a2, .int a3, .int a4, .ref o]) ++ List.replicate (7 - (lg_sl ([.ref x, .int a1, .int a2, .int a3, .int a4, .ref o])).length) Slot.unset).toArray = ls at hl ⊢
  have hl : lv_has ls 7 [(0, .ref x), (1, .int a1), (2, .int a2), (3, .int a3), (4, .int a4), (5, .ref o)] := hl
  refine lv_aload hx hb dL_minus_0 (lv_at hl 5 rfl) ?_
  refine lv_aload_n hx hb dL_minus_2 rfl (lv_at hl 0 rfl) ?_
  refine lv_iload_n hx hb dL_minus_3 rfl (lv_at hl 1 rfl) ?_
  refine lv_iload_n hx hb dL_minus_4 rfl (lv_at hl 2 rfl) ?_
  refine lv_iload_n hx hb dL_minus_5 rfl (lv_at hl 3 rfl) ?_
  refine lv_iload hx hb dL_minus_6 (lv_at hl 4 rfl) ?_
  have hFc := va_free (wc := [(x, .inr (2, [.ref n, .int kn, .int ch])), (n, .inl (cJ, 8, .inr (.inl f)))]) hD hS hA [0, 1] rfl
  refine kx_go (vx_runV (As := [.int a1, .int a2, .int a3, .int a4]) (rest := [.ref o]) ⟨hx, hb, hml, hown, hts⟩ (c_X0_minus l hl9 D cB cJ _ x n kn ch f (hP.sub [0, 1] rfl) ((hD.sub [0, 1] (by decide) rfl).weaken (fun _ _ _ _ => trivial)) a1 a2 a3 a4) (cwV 4 hts gL_minus_X0_minus rfl rfl rfl (by decide +kernel) ⟨(Nat.le_of_ble_eq_true rfl), (Nat.le_of_ble_eq_true rfl)⟩) (k_preV hE hS hFc (va_recv hK hP (ci := 2) (q0 := 0) rfl rfl)) rfl rfl hl.1 rfl (lv_room (Nat.le_of_ble_eq_true rfl)) dL_minus_8 ⟨(Nat.le_of_ble_eq_true rfl), (Nat.le_of_ble_eq_true rfl)⟩) hS (fun q _ h => hFc q h) hFc (fun E ce q9 H locs hp hz hk hS hce hcv hcl => ?_) (fun v H locs hp hz hk hS => ?_)
  · obtain ⟨hJ9, -, hk2⟩ := hp
    have hP := k_keepP hP hk2
    have hP : va_P D vwCl [(x, .inr (2, [.ref n, .int kn, .int ch])), (n, .inl (cJ, 8, .inr (.inl f))), (o, .inr (3, [.long vn, sr]))] H := hP
    have hD : va_D A [(x, .inr (2, [.ref n, .int kn, .int ch])), (n, .inl (cJ, 8, .inr (.inl f))), (o, .inr (3, [.long vn, sr]))] := hD
    rcases k_er_X0_minus kn ch f a1 a2 a3 a4 _ hJ9 with rfl | ⟨-, rfl⟩
    · refine vx_catch (name := "java/lang/IndexOutOfBoundsException") hown [] ⟨0, 15, 18, 19⟩ [⟨0, 15, 22, 21⟩] (htb.trans rfl) (fun _ h => absurd h List.not_mem_nil) rfl (by decide) (hts (.classLink RL 19 "java/lang/IndexOutOfBoundsException") (by decide +kernel)) (va_Nw.use rfl hE.2.2.2.1.1) hce hcv hcl ?_
      refine lv_astore (lv' := [(6, .ref q9), (0, .ref x), (1, .int a1), (2, .int a2), (3, .int a3), (4, .int a4), (5, .ref o)]) hx hb dL_minus_18 hl (by decide) rfl (fun ls hl => ?_)
      refine lv_iconst (v := 1) hx hb dL_minus_20 (by decide) ?_
      exact vx_ret (k_iret hx hb hr hlocks hS dL_minus_21 (Or.inr ⟨_, hJ9, rfl, hP.sub [0, 1, 2] rfl, hD.sub [0, 1, 2] (by decide) rfl⟩))
    · refine vx_catch (name := "java/lang/IllegalArgumentException") hown [⟨0, 15, 18, 19⟩] ⟨0, 15, 22, 21⟩ [] (htb.trans rfl) (fun z hz => Or.inr (by obtain rfl := List.mem_singleton.mp hz; exact ⟨by decide, "java/lang/IndexOutOfBoundsException", hts (.classLink RL 19 "java/lang/IndexOutOfBoundsException") (by decide +kernel), hN.1⟩)) rfl (by decide) (hts (.classLink RL 21 "java/lang/IllegalArgumentException") (by decide +kernel)) (va_Nw.use rfl hE.2.2.2.1.2.1) hce hcv hcl ?_
      refine lv_astore (lv' := [(6, .ref q9), (0, .ref x), (1, .int a1), (2, .int a2), (3, .int a3), (4, .int a4), (5, .ref o)]) hx hb dL_minus_22 hl (by decide) rfl (fun ls hl => ?_)
      refine lv_iconst (v := 2) hx hb dL_minus_24 (by decide) ?_
      exact vx_ret (k_iret hx hb hr hlocks hS dL_minus_25 (Or.inr ⟨_, hJ9, rfl, hP.sub [0, 1, 2] rfl, hD.sub [0, 1, 2] (by decide) rfl⟩))
  · obtain ⟨r, hJ9, rfl, hP1, hD1⟩ := hp
    obtain ⟨hP, hD⟩ := va_join (wr := [(o, .inr (3, [.long vn, sr]))]) (wc := [(x, .inr (2, [.ref n, .int kn, .int ch])), (n, .inl (cJ, 8, .inr (.inl f)))]) (w1 := [(x, .inr (2, [.ref n, .int r.2.1, .int r.2.2.1])), (n, .inl (cJ, 8, .inr (.inl r.2.2.2)))]) hP hD [0, 1] [2] rfl rfl (by decide) (by decide) hk hFc hP1 hD1
    have hP : va_P D vwCl [(o, .inr (3, [.long vn, sr])), (x, .inr (2, [.ref n, .int r.2.1, .int r.2.2.1])), (n, .inl (cJ, 8, .inr (.inl r.2.2.2)))] H := hP
    have hD : va_D A [(o, .inr (3, [.long vn, sr])), (x, .inr (2, [.ref n, .int r.2.1, .int r.2.2.1])), (n, .inl (cJ, 8, .inr (.inl r.2.2.2)))] := hD
    refine W.eq (g2 := F0 m 11 ls [.int r.1, .ref o]) rfl ?_
    refine lv_i2l (v := r.1.toInt64) hx hb dL_minus_11 rfl ?_
    refine va_putN (D := D) (ci := 3) (v := .long r.1.toInt64) (ty := .long) (C := RX1) (T := TX1) (N := 2) hx hb hts iw_L_minus_X1 tyX1 tyX1_ok nmX1 hown hK hP hD hS 0 rfl rfl 0 (by decide) (va_Nw.use rfl hN.2.1) (fun _ h9 => h9) rfl (by decide +kernel) rfl rfl (Nat.le_of_ble_eq_true rfl) dL_minus_12 (fun H locs hP hD hS => ?_)
    have hP : va_P D vwCl [(o, .inr (3, [.long r.1.toInt64, sr])), (x, .inr (2, [.ref n, .int r.2.1, .int r.2.2.1])), (n, .inl (cJ, 8, .inr (.inl r.2.2.2)))] H := hP
    have hD : va_D A [(o, .inr (3, [.long r.1.toInt64, sr])), (x, .inr (2, [.ref n, .int r.2.1, .int r.2.2.1])), (n, .inl (cJ, 8, .inr (.inl r.2.2.2)))] := hD
    refine lv_goto (tgt := 26) hx hb dL_minus_15 (by decide) ?_
    refine lv_iconst (v := 0) hx hb dL_minus_26 (by decide) ?_
    exact vx_ret (k_iret hx hb hr hlocks hS dL_minus_27 (Or.inl ⟨_, hJ9, rfl, hP.sub [1, 2, 0] rfl, hD.sub [1, 2, 0] (by decide) rfl⟩))
abbrev rm_L_walk : Room := { frames := 9, cells := 3, slots := 18, locals := 160 }
theorem iw_L_walk_X1 : ∀ w ∈ wsX10, w ∈ wsL_walk := by decide +kernel
set_option maxHeartbeats 4000000 in
set_option maxRecDepth 100000 in
theorem c_L_walk (l : Launch) (hl9 : l.stackTraces = false) (D : va_G) (cB cJ : ClassId) (Hp : Heap) (x n o : Nat) (kn ch : Int32) (f : Nat → Int64) (vn : Int64) (sr : Value) (a1 : Int32) (a2 : Int32) (a3 : Int32) (a4 : Int32) (hP : va_P D vwCl (wC x n cJ kn ch f ++ wO o vn sr) Hp) (hD9 : va_D (fun _ => True) (wC x n cJ kn ch f ++ wO o vn sr)) : vx_Met l yL_walk wsL_walk rm_L_walk (kPreN D cB cJ (va_A (wC x n cJ kn ch f ++ wO o vn sr) Hp.size) Hp [.ref x, .int a1, .int a2, .int a3, .int a4, .ref o]) (kQ (kLw D x n o cJ (va_A (wC x n cJ kn ch f ++ wO o vn sr) Hp.size) k_cd (fun z : Int32 => z.toInt64) (j_X0_walk kn ch f a1 a2 a3 a4) kn ch f vn sr) (va_A (wC x n cJ kn ch f ++ wO o vn sr) Hp.size)) (kX kNX (va_A (wC x n cJ kn ch f ++ wO o vn sr) Hp.size)) 3 18 (va_A (wC x n cJ kn ch f ++ wO o vn sr) Hp.size) := by
  refine vx_ofWH (cc := cL_walk) (maxL := 7) (ret := (some .int)) (hh := [(0, 15, 18, 19), (0, 15, 22, 21)]) (by decide) rfl ?_
  intro p e s m args below meth c s₁ B hml hv
  obtain ⟨rfl, hHp, hE, hN⟩ := hv
  subst hHp
  have hx := B.exec
  have hb := B.bytes
  have hr := B.returns
  have hts := atoms_spec (ws := wsL_walk) B.pre
  have hown : s.vm.findClass RL = some m.cls := findClass_of_methodNamed B.named
  have hlocks := B.notSynchronized
  have hK := hE.1
  have hD := hD9.self (sz := s.heap.size)
  generalize hAe : va_A (wC x n cJ kn ch f ++ wO o vn sr) s.heap.size = A at hE hD ⊢
  have hA : ∀ q : Nat, s.heap.size ≤ q → A q := fun q h => by rw [← hAe]; exact Or.inr h
  have htb := vx_table (x := yL_walk) B (hts _ List.mem_cons_self)
  have hS : va_S A s.heap s.heap [] := va_S.rf
  have hl := lv_entry ([.ref x, .int a1, .int a2, .int a3, .int a4, .ref o]) (n := 7) (Nat.le_of_ble_eq_true rfl)
  rw [lg_entry_eq]
  generalize (lg_sl ([.ref x, .int a1, .int a2, .int a3, .int a4, .ref o]) ++ List.replicate (7 - (lg_sl ([.ref x, .int a1, .int a2, .int a3, .int a4, .ref o])).length) Slot.unset).toArray = ls at hl ⊢
  have hl : lv_has ls 7 [(0, .ref x), (1, .int a1), (2, .int a2), (3, .int a3), (4, .int a4), (5, .ref o)] := hl
  refine lv_aload hx hb dL_walk_0 (lv_at hl 5 rfl) ?_
  refine lv_aload_n hx hb dL_walk_2 rfl (lv_at hl 0 rfl) ?_
  refine lv_iload_n hx hb dL_walk_3 rfl (lv_at hl 1 rfl) ?_
  refine lv_iload_n hx hb dL_walk_4 rfl (lv_at hl 2 rfl) ?_
  refine lv_iload_n hx hb dL_walk_5 rfl (lv_at hl 3 rfl) ?_
  refine lv_iload hx hb dL_walk_6 (lv_at hl 4 rfl) ?_
  have hFc := va_free (wc := [(x, .inr (2, [.ref n, .int kn, .int ch])), (n, .inl (cJ, 8, .inr (.inl f)))]) hD hS hA [0, 1] rfl
  refine kx_go (vx_runV (As := [.int a1, .int a2, .int a3, .int a4]) (rest := [.ref o]) ⟨hx, hb, hml, hown, hts⟩ (c_X0_walk l hl9 D cB cJ _ x n kn ch f (hP.sub [0, 1] rfl) ((hD.sub [0, 1] (by decide) rfl).weaken (fun _ _ _ _ => trivial)) a1 a2 a3 a4 (tk_X0_walk kn ch f a1 a2 a3 a4)) (cwV 4 hts gL_walk_X0_walk rfl rfl rfl (by decide +kernel) ⟨(Nat.le_of_ble_eq_true rfl), (Nat.le_of_ble_eq_true rfl)⟩) (k_preV hE hS hFc (va_recv hK hP (ci := 2) (q0 := 0) rfl rfl)) rfl rfl hl.1 rfl (lv_room (Nat.le_of_ble_eq_true rfl)) dL_walk_8 ⟨(Nat.le_of_ble_eq_true rfl), (Nat.le_of_ble_eq_true rfl)⟩) hS (fun q _ h => hFc q h) hFc (fun E ce q9 H locs hp hz hk hS hce hcv hcl => ?_) (fun v H locs hp hz hk hS => ?_)
  · obtain ⟨hJ9, -, hk2⟩ := hp
    have hP := k_keepP hP hk2
    have hP : va_P D vwCl [(x, .inr (2, [.ref n, .int kn, .int ch])), (n, .inl (cJ, 8, .inr (.inl f))), (o, .inr (3, [.long vn, sr]))] H := hP
    have hD : va_D A [(x, .inr (2, [.ref n, .int kn, .int ch])), (n, .inl (cJ, 8, .inr (.inl f))), (o, .inr (3, [.long vn, sr]))] := hD
    rcases k_er_X0_walk kn ch f a1 a2 a3 a4 _ hJ9 with rfl | ⟨-, rfl⟩
    · refine vx_catch (name := "java/lang/IndexOutOfBoundsException") hown [] ⟨0, 15, 18, 19⟩ [⟨0, 15, 22, 21⟩] (htb.trans rfl) (fun _ h => absurd h List.not_mem_nil) rfl (by decide) (hts (.classLink RL 19 "java/lang/IndexOutOfBoundsException") (by decide +kernel)) (va_Nw.use rfl hE.2.2.2.1.1) hce hcv hcl ?_
      refine lv_astore (lv' := [(6, .ref q9), (0, .ref x), (1, .int a1), (2, .int a2), (3, .int a3), (4, .int a4), (5, .ref o)]) hx hb dL_walk_18 hl (by decide) rfl (fun ls hl => ?_)
      refine lv_iconst (v := 1) hx hb dL_walk_20 (by decide) ?_
      exact vx_ret (k_iret hx hb hr hlocks hS dL_walk_21 (Or.inr ⟨_, hJ9, rfl, hP.sub [0, 1, 2] rfl, hD.sub [0, 1, 2] (by decide) rfl⟩))
    · refine vx_catch (name := "java/lang/IllegalArgumentException") hown [⟨0, 15, 18, 19⟩] ⟨0, 15, 22, 21⟩ [] (htb.trans rfl) (fun z hz => Or.inr (by obtain rfl := List.mem_singleton.mp hz; exact ⟨by decide, "java/lang/IndexOutOfBoundsException", hts (.classLink RL 19 "java/lang/IndexOutOfBoundsException") (by decide +kernel), hN.1⟩)) rfl (by decide) (hts (.classLink RL 21 "java/lang/IllegalArgumentException") (by decide +kernel)) (va_Nw.use rfl hE.2.2.2.1.2.1) hce hcv hcl ?_
      refine lv_astore (lv' := [(6, .ref q9), (0, .ref x), (1, .int a1), (2, .int a2), (3, .int a3), (4, .int a4), (5, .ref o)]) hx hb dL_walk_22 hl (by decide) rfl (fun ls hl => ?_)
      refine lv_iconst (v := 2) hx hb dL_walk_24 (by decide) ?_
      exact vx_ret (k_iret hx hb hr hlocks hS dL_walk_25 (Or.inr ⟨_, hJ9, rfl, hP.sub [0, 1, 2] rfl, hD.sub [0, 1, 2] (by decide) rfl⟩))
  · obtain ⟨r, hJ9, rfl, hP1, hD1⟩ := hp
    obtain ⟨hP, hD⟩ := va_join (wr := [(o, .inr (3, [.long vn, sr]))]) (wc := [(x, .inr (2, [.ref n, .int kn, .int ch])), (n, .inl (cJ, 8, .inr (.inl f)))]) (w1 := [(x, .inr (2, [.ref n, .int r.2.1, .int r.2.2.1])), (n, .inl (cJ, 8, .inr (.inl r.2.2.2)))]) hP hD [0, 1] [2] rfl rfl (by decide) (by decide) hk hFc hP1 hD1
    have hP : va_P D vwCl [(o, .inr (3, [.long vn, sr])), (x, .inr (2, [.ref n, .int r.2.1, .int r.2.2.1])), (n, .inl (cJ, 8, .inr (.inl r.2.2.2)))] H := hP
    have hD : va_D A [(o, .inr (3, [.long vn, sr])), (x, .inr (2, [.ref n, .int r.2.1, .int r.2.2.1])), (n, .inl (cJ, 8, .inr (.inl r.2.2.2)))] := hD
    refine W.eq (g2 := F0 m 11 ls [.int r.1, .ref o]) rfl ?_
    refine lv_i2l (v := r.1.toInt64) hx hb dL_walk_11 rfl ?_
    refine va_putN (D := D) (ci := 3) (v := .long r.1.toInt64) (ty := .long) (C := RX1) (T := TX1) (N := 2) hx hb hts iw_L_walk_X1 tyX1 tyX1_ok nmX1 hown hK hP hD hS 0 rfl rfl 0 (by decide) (va_Nw.use rfl hN.2.1) (fun _ h9 => h9) rfl (by decide +kernel) rfl rfl (Nat.le_of_ble_eq_true rfl) dL_walk_12 (fun H locs hP hD hS => ?_)
    have hP : va_P D vwCl [(o, .inr (3, [.long r.1.toInt64, sr])), (x, .inr (2, [.ref n, .int r.2.1, .int r.2.2.1])), (n, .inl (cJ, 8, .inr (.inl r.2.2.2)))] H := hP
    have hD : va_D A [(o, .inr (3, [.long r.1.toInt64, sr])), (x, .inr (2, [.ref n, .int r.2.1, .int r.2.2.1])), (n, .inl (cJ, 8, .inr (.inl r.2.2.2)))] := hD
    refine lv_goto (tgt := 26) hx hb dL_walk_15 (by decide) ?_
    refine lv_iconst (v := 0) hx hb dL_walk_26 (by decide) ?_
    exact vx_ret (k_iret hx hb hr hlocks hS dL_walk_27 (Or.inl ⟨_, hJ9, rfl, hP.sub [1, 2, 0] rfl, hD.sub [1, 2, 0] (by decide) rfl⟩))
abbrev rm_L_cut : Room := { frames := 9, cells := 2, slots := 12, locals := 153 }
theorem iw_L_cut_X1 : ∀ w ∈ wsX10, w ∈ wsL_cut := by decide +kernel
set_option maxHeartbeats 4000000 in
set_option maxRecDepth 100000 in
theorem c_L_cut (l : Launch) (hl9 : l.stackTraces = false) (D : va_G) (cB cJ : ClassId) (Hp : Heap) (x n o : Nat) (kn ch : Int32) (f : Nat → Int64) (vn : Int64) (sr : Value) (a1 : Int32) (a2 : Int32) (hP : va_P D vwCl (wC x n cJ kn ch f ++ wO o vn sr) Hp) (hD9 : va_D (fun _ => True) (wC x n cJ kn ch f ++ wO o vn sr)) : vx_Met l yL_cut wsL_cut rm_L_cut (kPreN D cB cJ (va_A (wC x n cJ kn ch f ++ wO o vn sr) Hp.size) Hp [.ref x, .int a1, .int a2, .ref o]) (kQ (kLw D x n o cJ (va_A (wC x n cJ kn ch f ++ wO o vn sr) Hp.size) k_cd (fun z : Int32 => z.toInt64) (j_X0_cut kn ch f a1 a2) kn ch f vn sr) (va_A (wC x n cJ kn ch f ++ wO o vn sr) Hp.size)) (kX kNX (va_A (wC x n cJ kn ch f ++ wO o vn sr) Hp.size)) 2 12 (va_A (wC x n cJ kn ch f ++ wO o vn sr) Hp.size) := by
  refine vx_ofWH (cc := cL_cut) (maxL := 5) (ret := (some .int)) (hh := [(0, 11, 14, 19), (0, 11, 18, 21)]) (by decide) rfl ?_
  intro p e s m args below meth c s₁ B hml hv
  obtain ⟨rfl, hHp, hE, hN⟩ := hv
  subst hHp
  have hx := B.exec
  have hb := B.bytes
  have hr := B.returns
  have hts := atoms_spec (ws := wsL_cut) B.pre
  have hown : s.vm.findClass RL = some m.cls := findClass_of_methodNamed B.named
  have hlocks := B.notSynchronized
  have hK := hE.1
  have hD := hD9.self (sz := s.heap.size)
  generalize hAe : va_A (wC x n cJ kn ch f ++ wO o vn sr) s.heap.size = A at hE hD ⊢
  have hA : ∀ q : Nat, s.heap.size ≤ q → A q := fun q h => by rw [← hAe]; exact Or.inr h
  have htb := vx_table (x := yL_cut) B (hts _ List.mem_cons_self)
  have hS : va_S A s.heap s.heap [] := va_S.rf
  have hl := lv_entry ([.ref x, .int a1, .int a2, .ref o]) (n := 5) (Nat.le_of_ble_eq_true rfl)
  rw [lg_entry_eq]
  generalize (lg_sl ([.ref x, .int a1, .int a2, .ref o]) ++ List.replicate (5 - (lg_sl ([.ref x, .int a1, .int a2, .ref o])).length) Slot.unset).toArray = ls at hl ⊢
  have hl : lv_has ls 5 [(0, .ref x), (1, .int a1), (2, .int a2), (3, .ref o)] := hl
  refine lv_aload_n hx hb dL_cut_0 rfl (lv_at hl 3 rfl) ?_
  refine lv_aload_n hx hb dL_cut_1 rfl (lv_at hl 0 rfl) ?_
  refine lv_iload_n hx hb dL_cut_2 rfl (lv_at hl 1 rfl) ?_
  refine lv_iload_n hx hb dL_cut_3 rfl (lv_at hl 2 rfl) ?_
  have hFc := va_free (wc := [(x, .inr (2, [.ref n, .int kn, .int ch])), (n, .inl (cJ, 8, .inr (.inl f)))]) hD hS hA [0, 1] rfl
  refine kx_go (vx_runV (As := [.int a1, .int a2]) (rest := [.ref o]) ⟨hx, hb, hml, hown, hts⟩ (c_X0_cut l hl9 D cB cJ _ x n kn ch f (hP.sub [0, 1] rfl) ((hD.sub [0, 1] (by decide) rfl).weaken (fun _ _ _ _ => trivial)) a1 a2) (cwV 2 hts gL_cut_X0_cut rfl rfl rfl (by decide +kernel) ⟨(Nat.le_of_ble_eq_true rfl), (Nat.le_of_ble_eq_true rfl)⟩) (k_preV hE hS hFc (va_recv hK hP (ci := 2) (q0 := 0) rfl rfl)) rfl rfl hl.1 rfl (lv_room (Nat.le_of_ble_eq_true rfl)) dL_cut_4 ⟨(Nat.le_of_ble_eq_true rfl), (Nat.le_of_ble_eq_true rfl)⟩) hS (fun q _ h => hFc q h) hFc (fun E ce q9 H locs hp hz hk hS hce hcv hcl => ?_) (fun v H locs hp hz hk hS => ?_)
  · obtain ⟨hJ9, -, hk2⟩ := hp
    have hP := k_keepP hP hk2
    have hP : va_P D vwCl [(x, .inr (2, [.ref n, .int kn, .int ch])), (n, .inl (cJ, 8, .inr (.inl f))), (o, .inr (3, [.long vn, sr]))] H := hP
    have hD : va_D A [(x, .inr (2, [.ref n, .int kn, .int ch])), (n, .inl (cJ, 8, .inr (.inl f))), (o, .inr (3, [.long vn, sr]))] := hD
    rcases k_er_X0_cut kn ch f a1 a2 _ hJ9 with rfl | ⟨-, rfl⟩
    · refine vx_catch (name := "java/lang/IndexOutOfBoundsException") hown [] ⟨0, 11, 14, 19⟩ [⟨0, 11, 18, 21⟩] (htb.trans rfl) (fun _ h => absurd h List.not_mem_nil) rfl (by decide) (hts (.classLink RL 19 "java/lang/IndexOutOfBoundsException") (by decide +kernel)) (va_Nw.use rfl hE.2.2.2.1.1) hce hcv hcl ?_
      refine lv_astore (lv' := [(4, .ref q9), (0, .ref x), (1, .int a1), (2, .int a2), (3, .ref o)]) hx hb dL_cut_14 hl (by decide) rfl (fun ls hl => ?_)
      refine lv_iconst (v := 1) hx hb dL_cut_16 (by decide) ?_
      exact vx_ret (k_iret hx hb hr hlocks hS dL_cut_17 (Or.inr ⟨_, hJ9, rfl, hP.sub [0, 1, 2] rfl, hD.sub [0, 1, 2] (by decide) rfl⟩))
    · refine vx_catch (name := "java/lang/IllegalArgumentException") hown [⟨0, 11, 14, 19⟩] ⟨0, 11, 18, 21⟩ [] (htb.trans rfl) (fun z hz => Or.inr (by obtain rfl := List.mem_singleton.mp hz; exact ⟨by decide, "java/lang/IndexOutOfBoundsException", hts (.classLink RL 19 "java/lang/IndexOutOfBoundsException") (by decide +kernel), hN.1⟩)) rfl (by decide) (hts (.classLink RL 21 "java/lang/IllegalArgumentException") (by decide +kernel)) (va_Nw.use rfl hE.2.2.2.1.2.1) hce hcv hcl ?_
      refine lv_astore (lv' := [(4, .ref q9), (0, .ref x), (1, .int a1), (2, .int a2), (3, .ref o)]) hx hb dL_cut_18 hl (by decide) rfl (fun ls hl => ?_)
      refine lv_iconst (v := 2) hx hb dL_cut_20 (by decide) ?_
      exact vx_ret (k_iret hx hb hr hlocks hS dL_cut_21 (Or.inr ⟨_, hJ9, rfl, hP.sub [0, 1, 2] rfl, hD.sub [0, 1, 2] (by decide) rfl⟩))
  · obtain ⟨r, hJ9, rfl, hP1, hD1⟩ := hp
    obtain ⟨hP, hD⟩ := va_join (wr := [(o, .inr (3, [.long vn, sr]))]) (wc := [(x, .inr (2, [.ref n, .int kn, .int ch])), (n, .inl (cJ, 8, .inr (.inl f)))]) (w1 := [(x, .inr (2, [.ref n, .int r.2.1, .int r.2.2.1])), (n, .inl (cJ, 8, .inr (.inl r.2.2.2)))]) hP hD [0, 1] [2] rfl rfl (by decide) (by decide) hk hFc hP1 hD1
    have hP : va_P D vwCl [(o, .inr (3, [.long vn, sr])), (x, .inr (2, [.ref n, .int r.2.1, .int r.2.2.1])), (n, .inl (cJ, 8, .inr (.inl r.2.2.2)))] H := hP
    have hD : va_D A [(o, .inr (3, [.long vn, sr])), (x, .inr (2, [.ref n, .int r.2.1, .int r.2.2.1])), (n, .inl (cJ, 8, .inr (.inl r.2.2.2)))] := hD
    refine W.eq (g2 := F0 m 7 ls [.int r.1, .ref o]) rfl ?_
    refine lv_i2l (v := r.1.toInt64) hx hb dL_cut_7 rfl ?_
    refine va_putN (D := D) (ci := 3) (v := .long r.1.toInt64) (ty := .long) (C := RX1) (T := TX1) (N := 2) hx hb hts iw_L_cut_X1 tyX1 tyX1_ok nmX1 hown hK hP hD hS 0 rfl rfl 0 (by decide) (va_Nw.use rfl hN.2.1) (fun _ h9 => h9) rfl (by decide +kernel) rfl rfl (Nat.le_of_ble_eq_true rfl) dL_cut_8 (fun H locs hP hD hS => ?_)
    have hP : va_P D vwCl [(o, .inr (3, [.long r.1.toInt64, sr])), (x, .inr (2, [.ref n, .int r.2.1, .int r.2.2.1])), (n, .inl (cJ, 8, .inr (.inl r.2.2.2)))] H := hP
    have hD : va_D A [(o, .inr (3, [.long r.1.toInt64, sr])), (x, .inr (2, [.ref n, .int r.2.1, .int r.2.2.1])), (n, .inl (cJ, 8, .inr (.inl r.2.2.2)))] := hD
    refine lv_goto (tgt := 22) hx hb dL_cut_11 (by decide) ?_
    refine lv_iconst (v := 0) hx hb dL_cut_22 (by decide) ?_
    exact vx_ret (k_iret hx hb hr hlocks hS dL_cut_23 (Or.inl ⟨_, hJ9, rfl, hP.sub [1, 2, 0] rfl, hD.sub [1, 2, 0] (by decide) rfl⟩))
abbrev rm_L_of : Room := { frames := 9, cells := 2, slots := 12, locals := 152 }
theorem iw_L_of_X1 : ∀ w ∈ wsX10, w ∈ wsL_of := by decide +kernel
set_option maxHeartbeats 4000000 in
set_option maxRecDepth 100000 in
theorem c_L_of (l : Launch) (hl9 : l.stackTraces = false) (D : va_G) (cB cJ : ClassId) (Hp : Heap) (x n o : Nat) (kn ch : Int32) (f : Nat → Int64) (vn : Int64) (sr : Value) (a1 : Int32) (a2 : Int32) (hP : va_P D vwCl (wC x n cJ kn ch f ++ wO o vn sr) Hp) (hD9 : va_D (fun _ => True) (wC x n cJ kn ch f ++ wO o vn sr)) : vx_Met l yL_of wsL_of rm_L_of (kPreN D cB cJ (va_A (wC x n cJ kn ch f ++ wO o vn sr) Hp.size) Hp [.ref x, .int a1, .int a2, .ref o]) (kQ (kLw D x n o cJ (va_A (wC x n cJ kn ch f ++ wO o vn sr) Hp.size) k_cd (fun z : Int32 => z.toInt64) (j_X0_of kn ch f a1 a2) kn ch f vn sr) (va_A (wC x n cJ kn ch f ++ wO o vn sr) Hp.size)) (kX kNX (va_A (wC x n cJ kn ch f ++ wO o vn sr) Hp.size)) 2 12 (va_A (wC x n cJ kn ch f ++ wO o vn sr) Hp.size) := by
  refine vx_ofWH (cc := cL_of) (maxL := 5) (ret := (some .int)) (hh := [(0, 11, 14, 19), (0, 11, 18, 21)]) (by decide) rfl ?_
  intro p e s m args below meth c s₁ B hml hv
  obtain ⟨rfl, hHp, hE, hN⟩ := hv
  subst hHp
  have hx := B.exec
  have hb := B.bytes
  have hr := B.returns
  have hts := atoms_spec (ws := wsL_of) B.pre
  have hown : s.vm.findClass RL = some m.cls := findClass_of_methodNamed B.named
  have hlocks := B.notSynchronized
  have hK := hE.1
  have hD := hD9.self (sz := s.heap.size)
  generalize hAe : va_A (wC x n cJ kn ch f ++ wO o vn sr) s.heap.size = A at hE hD ⊢
  have hA : ∀ q : Nat, s.heap.size ≤ q → A q := fun q h => by rw [← hAe]; exact Or.inr h
  have htb := vx_table (x := yL_of) B (hts _ List.mem_cons_self)
  have hS : va_S A s.heap s.heap [] := va_S.rf
  have hl := lv_entry ([.ref x, .int a1, .int a2, .ref o]) (n := 5) (Nat.le_of_ble_eq_true rfl)
  rw [lg_entry_eq]
  generalize (lg_sl ([.ref x, .int a1, .int a2, .ref o]) ++ List.replicate (5 - (lg_sl ([.ref x, .int a1, .int a2, .ref o])).length) Slot.unset).toArray = ls at hl ⊢
  have hl : lv_has ls 5 [(0, .ref x), (1, .int a1), (2, .int a2), (3, .ref o)] := hl
  refine lv_aload_n hx hb dL_of_0 rfl (lv_at hl 3 rfl) ?_
  refine lv_aload_n hx hb dL_of_1 rfl (lv_at hl 0 rfl) ?_
  refine lv_iload_n hx hb dL_of_2 rfl (lv_at hl 1 rfl) ?_
  refine lv_iload_n hx hb dL_of_3 rfl (lv_at hl 2 rfl) ?_
  have hFc := va_free (wc := [(x, .inr (2, [.ref n, .int kn, .int ch])), (n, .inl (cJ, 8, .inr (.inl f)))]) hD hS hA [0, 1] rfl
  refine kx_go (vx_runV (As := [.int a1, .int a2]) (rest := [.ref o]) ⟨hx, hb, hml, hown, hts⟩ (c_X0_of l hl9 D cB cJ _ x n kn ch f (hP.sub [0, 1] rfl) ((hD.sub [0, 1] (by decide) rfl).weaken (fun _ _ _ _ => trivial)) a1 a2) (cwV 2 hts gL_of_X0_of rfl rfl rfl (by decide +kernel) ⟨(Nat.le_of_ble_eq_true rfl), (Nat.le_of_ble_eq_true rfl)⟩) (k_preV hE hS hFc (va_recv hK hP (ci := 2) (q0 := 0) rfl rfl)) rfl rfl hl.1 rfl (lv_room (Nat.le_of_ble_eq_true rfl)) dL_of_4 ⟨(Nat.le_of_ble_eq_true rfl), (Nat.le_of_ble_eq_true rfl)⟩) hS (fun q _ h => hFc q h) hFc (fun E ce q9 H locs hp hz hk hS hce hcv hcl => ?_) (fun v H locs hp hz hk hS => ?_)
  · obtain ⟨hJ9, -, hk2⟩ := hp
    have hP := k_keepP hP hk2
    have hP : va_P D vwCl [(x, .inr (2, [.ref n, .int kn, .int ch])), (n, .inl (cJ, 8, .inr (.inl f))), (o, .inr (3, [.long vn, sr]))] H := hP
    have hD : va_D A [(x, .inr (2, [.ref n, .int kn, .int ch])), (n, .inl (cJ, 8, .inr (.inl f))), (o, .inr (3, [.long vn, sr]))] := hD
    rcases k_er_X0_of kn ch f a1 a2 _ hJ9 with rfl | ⟨-, rfl⟩
    · refine vx_catch (name := "java/lang/IndexOutOfBoundsException") hown [] ⟨0, 11, 14, 19⟩ [⟨0, 11, 18, 21⟩] (htb.trans rfl) (fun _ h => absurd h List.not_mem_nil) rfl (by decide) (hts (.classLink RL 19 "java/lang/IndexOutOfBoundsException") (by decide +kernel)) (va_Nw.use rfl hE.2.2.2.1.1) hce hcv hcl ?_
      refine lv_astore (lv' := [(4, .ref q9), (0, .ref x), (1, .int a1), (2, .int a2), (3, .ref o)]) hx hb dL_of_14 hl (by decide) rfl (fun ls hl => ?_)
      refine lv_iconst (v := 1) hx hb dL_of_16 (by decide) ?_
      exact vx_ret (k_iret hx hb hr hlocks hS dL_of_17 (Or.inr ⟨_, hJ9, rfl, hP.sub [0, 1, 2] rfl, hD.sub [0, 1, 2] (by decide) rfl⟩))
    · refine vx_catch (name := "java/lang/IllegalArgumentException") hown [⟨0, 11, 14, 19⟩] ⟨0, 11, 18, 21⟩ [] (htb.trans rfl) (fun z hz => Or.inr (by obtain rfl := List.mem_singleton.mp hz; exact ⟨by decide, "java/lang/IndexOutOfBoundsException", hts (.classLink RL 19 "java/lang/IndexOutOfBoundsException") (by decide +kernel), hN.1⟩)) rfl (by decide) (hts (.classLink RL 21 "java/lang/IllegalArgumentException") (by decide +kernel)) (va_Nw.use rfl hE.2.2.2.1.2.1) hce hcv hcl ?_
      refine lv_astore (lv' := [(4, .ref q9), (0, .ref x), (1, .int a1), (2, .int a2), (3, .ref o)]) hx hb dL_of_18 hl (by decide) rfl (fun ls hl => ?_)
      refine lv_iconst (v := 2) hx hb dL_of_20 (by decide) ?_
      exact vx_ret (k_iret hx hb hr hlocks hS dL_of_21 (Or.inr ⟨_, hJ9, rfl, hP.sub [0, 1, 2] rfl, hD.sub [0, 1, 2] (by decide) rfl⟩))
  · obtain ⟨r, hJ9, rfl, hP1, hD1⟩ := hp
    obtain ⟨hP, hD⟩ := va_join (wr := [(o, .inr (3, [.long vn, sr]))]) (wc := [(x, .inr (2, [.ref n, .int kn, .int ch])), (n, .inl (cJ, 8, .inr (.inl f)))]) (w1 := [(x, .inr (2, [.ref n, .int r.2.1, .int r.2.2.1])), (n, .inl (cJ, 8, .inr (.inl r.2.2.2)))]) hP hD [0, 1] [2] rfl rfl (by decide) (by decide) hk hFc hP1 hD1
    have hP : va_P D vwCl [(o, .inr (3, [.long vn, sr])), (x, .inr (2, [.ref n, .int r.2.1, .int r.2.2.1])), (n, .inl (cJ, 8, .inr (.inl r.2.2.2)))] H := hP
    have hD : va_D A [(o, .inr (3, [.long vn, sr])), (x, .inr (2, [.ref n, .int r.2.1, .int r.2.2.1])), (n, .inl (cJ, 8, .inr (.inl r.2.2.2)))] := hD
    refine W.eq (g2 := F0 m 7 ls [.int r.1, .ref o]) rfl ?_
    refine lv_i2l (v := r.1.toInt64) hx hb dL_of_7 rfl ?_
    refine va_putN (D := D) (ci := 3) (v := .long r.1.toInt64) (ty := .long) (C := RX1) (T := TX1) (N := 2) hx hb hts iw_L_of_X1 tyX1 tyX1_ok nmX1 hown hK hP hD hS 0 rfl rfl 0 (by decide) (va_Nw.use rfl hN.2.1) (fun _ h9 => h9) rfl (by decide +kernel) rfl rfl (Nat.le_of_ble_eq_true rfl) dL_of_8 (fun H locs hP hD hS => ?_)
    have hP : va_P D vwCl [(o, .inr (3, [.long r.1.toInt64, sr])), (x, .inr (2, [.ref n, .int r.2.1, .int r.2.2.1])), (n, .inl (cJ, 8, .inr (.inl r.2.2.2)))] H := hP
    have hD : va_D A [(o, .inr (3, [.long r.1.toInt64, sr])), (x, .inr (2, [.ref n, .int r.2.1, .int r.2.2.1])), (n, .inl (cJ, 8, .inr (.inl r.2.2.2)))] := hD
    refine lv_goto (tgt := 22) hx hb dL_of_11 (by decide) ?_
    refine lv_iconst (v := 0) hx hb dL_of_22 (by decide) ?_
    exact vx_ret (k_iret hx hb hr hlocks hS dL_of_23 (Or.inl ⟨_, hJ9, rfl, hP.sub [1, 2, 0] rfl, hD.sub [1, 2, 0] (by decide) rfl⟩))
abbrev rm_L_number : Room := { frames := 9, cells := 25, slots := 2760, locals := 237 }
theorem iw_L_number_X1 : ∀ w ∈ wsX10, w ∈ wsL_number := by decide +kernel
set_option maxHeartbeats 4000000 in
set_option maxRecDepth 100000 in
theorem c_L_number (l : Launch) (hl9 : l.stackTraces = false) (D : va_G) (cB cJ : ClassId) (Hp : Heap) (x n o : Nat) (kn ch : Int32) (f : Nat → Int64) (vn : Int64) (sr : Value) (a1 : Int32) (hP : va_P D vwCl (wC x n cJ kn ch f ++ wO o vn sr) Hp) (hD9 : va_D (fun _ => True) (wC x n cJ kn ch f ++ wO o vn sr)) : vx_Met l yL_number wsL_number rm_L_number (kPreN D cB cJ (va_A (wC x n cJ kn ch f ++ wO o vn sr) Hp.size) Hp [.ref x, .int a1, .ref o]) (kQ (kLs D x n o cJ (va_A (wC x n cJ kn ch f ++ wO o vn sr) Hp.size) k_cd (j_X0_number a1) kn ch f vn sr) (va_A (wC x n cJ kn ch f ++ wO o vn sr) Hp.size)) (kX kNX (va_A (wC x n cJ kn ch f ++ wO o vn sr) Hp.size)) 25 2760 (va_A (wC x n cJ kn ch f ++ wO o vn sr) Hp.size) := by
  refine vx_ofWH (cc := cL_number) (maxL := 4) (ret := (some .int)) (hh := [(0, 9, 12, 19)]) (by decide) rfl ?_
  intro p e s m args below meth c s₁ B hml hv
  obtain ⟨rfl, hHp, hE, hN⟩ := hv
  subst hHp
  have hx := B.exec
  have hb := B.bytes
  have hr := B.returns
  have hts := atoms_spec (ws := wsL_number) B.pre
  have hown : s.vm.findClass RL = some m.cls := findClass_of_methodNamed B.named
  have hlocks := B.notSynchronized
  have hK := hE.1
  have hD := hD9.self (sz := s.heap.size)
  generalize hAe : va_A (wC x n cJ kn ch f ++ wO o vn sr) s.heap.size = A at hE hD ⊢
  have hA : ∀ q : Nat, s.heap.size ≤ q → A q := fun q h => by rw [← hAe]; exact Or.inr h
  have htb := vx_table (x := yL_number) B (hts _ List.mem_cons_self)
  have hS : va_S A s.heap s.heap [] := va_S.rf
  have hl := lv_entry ([.ref x, .int a1, .ref o]) (n := 4) (Nat.le_of_ble_eq_true rfl)
  rw [lg_entry_eq]
  generalize (lg_sl ([.ref x, .int a1, .ref o]) ++ List.replicate (4 - (lg_sl ([.ref x, .int a1, .ref o])).length) Slot.unset).toArray = ls at hl ⊢
  have hl : lv_has ls 4 [(0, .ref x), (1, .int a1), (2, .ref o)] := hl
  refine lv_aload_n hx hb dL_number_0 rfl (lv_at hl 2 rfl) ?_
  refine lv_aload_n hx hb dL_number_1 rfl (lv_at hl 0 rfl) ?_
  refine lv_iload_n hx hb dL_number_2 rfl (lv_at hl 1 rfl) ?_
  have hFc := va_free (wc := [(x, .inr (2, [.ref n, .int kn, .int ch])), (n, .inl (cJ, 8, .inr (.inl f)))]) hD hS hA [0, 1] rfl
  refine kx_go (vx_runV (As := [.int a1]) (rest := [.ref o]) ⟨hx, hb, hml, hown, hts⟩ (c_X0_number l hl9 D cB cJ _ x n kn ch f a1 (hP.sub [0, 1] rfl) ((hD.sub [0, 1] (by decide) rfl).weaken (fun _ _ _ _ => trivial))) (cwV 1 hts gL_number_X0_number rfl rfl rfl (by decide +kernel) ⟨(Nat.le_of_ble_eq_true rfl), (Nat.le_of_ble_eq_true rfl)⟩) (k_preV hE hS hFc (va_recv hK hP (ci := 2) (q0 := 0) rfl rfl)) rfl rfl hl.1 rfl (lv_room (Nat.le_of_ble_eq_true rfl)) dL_number_3 ⟨(Nat.le_of_ble_eq_true rfl), (Nat.le_of_ble_eq_true rfl)⟩) hS (fun q _ h => hFc q h) hFc (fun E ce q9 H locs hp hz hk hS hce hcv hcl => ?_) (fun v H locs hp hz hk hS => ?_)
  · obtain ⟨hJ9, -, hk2⟩ := hp
    have hP := k_keepP hP hk2
    have hP : va_P D vwCl [(x, .inr (2, [.ref n, .int kn, .int ch])), (n, .inl (cJ, 8, .inr (.inl f))), (o, .inr (3, [.long vn, sr]))] H := hP
    have hD : va_D A [(x, .inr (2, [.ref n, .int kn, .int ch])), (n, .inl (cJ, 8, .inr (.inl f))), (o, .inr (3, [.long vn, sr]))] := hD
    rcases k_er_X0_number a1 _ hJ9 with rfl | ⟨hb9, -⟩
    · refine vx_catch (name := "java/lang/IndexOutOfBoundsException") hown [] ⟨0, 9, 12, 19⟩ [] (htb.trans rfl) (fun _ h => absurd h List.not_mem_nil) rfl (by decide) (hts (.classLink RL 19 "java/lang/IndexOutOfBoundsException") (by decide +kernel)) (va_Nw.use rfl hE.2.2.2.1.1) hce hcv hcl ?_
      refine lv_astore_n (lv' := [(3, .ref q9), (0, .ref x), (1, .int a1), (2, .ref o)]) hx hb dL_number_12 rfl hl (by decide) rfl (fun ls hl => ?_)
      refine lv_iconst (v := 1) hx hb dL_number_13 (by decide) ?_
      exact vx_ret (k_iret hx hb hr hlocks hS dL_number_14 (Or.inr ⟨_, hJ9, rfl, hP.sub [0, 1, 2] rfl, hD.sub [0, 1, 2] (by decide) rfl⟩))
    · exact absurd hb9 (by decide)
  · obtain ⟨hJ9, q, nn, u, gg, hn60, rfl, hP1, hD1, -⟩ := hp
    have hP1 : va_P D vwCl ([(x, .inr (2, [.ref n, .int kn, .int ch])), (n, .inl (cJ, 8, .inr (.inl f)))]) H := hP1.sub [0, 1] rfl
    have hD1 : va_D _ ([(x, .inr (2, [.ref n, .int kn, .int ch])), (n, .inl (cJ, 8, .inr (.inl f)))]) := hD1.sub [0, 1] (by decide) rfl
    obtain ⟨hP, hD⟩ := va_join (wr := [(o, .inr (3, [.long vn, sr]))]) (wc := [(x, .inr (2, [.ref n, .int kn, .int ch])), (n, .inl (cJ, 8, .inr (.inl f)))]) (w1 := [(x, .inr (2, [.ref n, .int kn, .int ch])), (n, .inl (cJ, 8, .inr (.inl f)))]) hP hD [0, 1] [2] rfl rfl (by decide) (by decide) hk hFc hP1 hD1
    have hP : va_P D vwCl [(o, .inr (3, [.long vn, sr])), (x, .inr (2, [.ref n, .int kn, .int ch])), (n, .inl (cJ, 8, .inr (.inl f)))] H := hP
    have hD : va_D A [(o, .inr (3, [.long vn, sr])), (x, .inr (2, [.ref n, .int kn, .int ch])), (n, .inl (cJ, 8, .inr (.inl f)))] := hD
    refine W.eq (g2 := F0 m 6 ls [.ref q, .ref o]) rfl ?_
    refine va_putN (D := D) (ci := 3) (v := .ref q) (ty := (.object "java/lang/String")) (C := RX1) (T := TX1) (N := 2) hx hb hts iw_L_number_X1 tyX1 tyX1_ok nmX1 hown hK hP hD hS 0 rfl rfl 1 (by decide) (va_Nw.use rfl hN.2.2) (fun _ h9 => h9) rfl (by decide +kernel) rfl rfl (Nat.le_of_ble_eq_true rfl) dL_number_6 (fun H locs hP hD hS => ?_)
    have hP : va_P D vwCl [(o, .inr (3, [.long vn, .ref q])), (x, .inr (2, [.ref n, .int kn, .int ch])), (n, .inl (cJ, 8, .inr (.inl f)))] H := hP
    have hD : va_D A [(o, .inr (3, [.long vn, .ref q])), (x, .inr (2, [.ref n, .int kn, .int ch])), (n, .inl (cJ, 8, .inr (.inl f)))] := hD
    refine lv_goto (tgt := 15) hx hb dL_number_9 (by decide) ?_
    refine lv_iconst (v := 0) hx hb dL_number_15 (by decide) ?_
    exact vx_ret (k_iret hx hb hr hlocks hS dL_number_16 (Or.inl ⟨hJ9, rfl, _, hP.sub [1, 2, 0] rfl, hD.sub [1, 2, 0] (by decide) rfl⟩))
abbrev rm_L_text : Room := { frames := 9, cells := 12, slots := 1070, locals := 215 }
theorem iw_L_text_X1 : ∀ w ∈ wsX10, w ∈ wsL_text := by decide +kernel
set_option maxHeartbeats 4000000 in
set_option maxRecDepth 100000 in
theorem c_L_text (l : Launch) (hl9 : l.stackTraces = false) (D : va_G) (cB cJ : ClassId) (Hp : Heap) (x n o : Nat) (kn ch : Int32) (f : Nat → Int64) (vn : Int64) (sr : Value) (a1 : Int32) (hP : va_P D vwCl (wC x n cJ kn ch f ++ wO o vn sr) Hp) (hD9 : va_D (fun _ => True) (wC x n cJ kn ch f ++ wO o vn sr)) (hF : kIn f) : vx_Met l yL_text wsL_text rm_L_text (kPreN D cB cJ (va_A (wC x n cJ kn ch f ++ wO o vn sr) Hp.size) Hp [.ref x, .int a1, .ref o]) (kQ (kLs D x n o cJ (va_A (wC x n cJ kn ch f ++ wO o vn sr) Hp.size) k_cd (j_X0_text a1) kn ch f vn sr) (va_A (wC x n cJ kn ch f ++ wO o vn sr) Hp.size)) (kX kNX (va_A (wC x n cJ kn ch f ++ wO o vn sr) Hp.size)) 12 1070 (va_A (wC x n cJ kn ch f ++ wO o vn sr) Hp.size) := by
  refine vx_ofWH (cc := cL_text) (maxL := 4) (ret := (some .int)) (hh := [(0, 9, 12, 19)]) (by decide) rfl ?_
  intro p e s m args below meth c s₁ B hml hv
  obtain ⟨rfl, hHp, hE, hN⟩ := hv
  subst hHp
  have hx := B.exec
  have hb := B.bytes
  have hr := B.returns
  have hts := atoms_spec (ws := wsL_text) B.pre
  have hown : s.vm.findClass RL = some m.cls := findClass_of_methodNamed B.named
  have hlocks := B.notSynchronized
  have hK := hE.1
  have hD := hD9.self (sz := s.heap.size)
  generalize hAe : va_A (wC x n cJ kn ch f ++ wO o vn sr) s.heap.size = A at hE hD ⊢
  have hA : ∀ q : Nat, s.heap.size ≤ q → A q := fun q h => by rw [← hAe]; exact Or.inr h
  have htb := vx_table (x := yL_text) B (hts _ List.mem_cons_self)
  have hS : va_S A s.heap s.heap [] := va_S.rf
  have hl := lv_entry ([.ref x, .int a1, .ref o]) (n := 4) (Nat.le_of_ble_eq_true rfl)
  rw [lg_entry_eq]
  generalize (lg_sl ([.ref x, .int a1, .ref o]) ++ List.replicate (4 - (lg_sl ([.ref x, .int a1, .ref o])).length) Slot.unset).toArray = ls at hl ⊢
  have hl : lv_has ls 4 [(0, .ref x), (1, .int a1), (2, .ref o)] := hl
  refine lv_aload_n hx hb dL_text_0 rfl (lv_at hl 2 rfl) ?_
  refine lv_aload_n hx hb dL_text_1 rfl (lv_at hl 0 rfl) ?_
  refine lv_iload_n hx hb dL_text_2 rfl (lv_at hl 1 rfl) ?_
  have hFc := va_free (wc := [(x, .inr (2, [.ref n, .int kn, .int ch])), (n, .inl (cJ, 8, .inr (.inl f)))]) hD hS hA [0, 1] rfl
  refine kx_go (vx_runV (As := [.int a1]) (rest := [.ref o]) ⟨hx, hb, hml, hown, hts⟩ (c_X0_text l hl9 D cB cJ _ x n kn ch f a1 (hP.sub [0, 1] rfl) ((hD.sub [0, 1] (by decide) rfl).weaken (fun _ _ _ _ => trivial)) hF) (cwV 1 hts gL_text_X0_text rfl rfl rfl (by decide +kernel) ⟨(Nat.le_of_ble_eq_true rfl), (Nat.le_of_ble_eq_true rfl)⟩) (k_preV hE hS hFc (va_recv hK hP (ci := 2) (q0 := 0) rfl rfl)) rfl rfl hl.1 rfl (lv_room (Nat.le_of_ble_eq_true rfl)) dL_text_3 ⟨(Nat.le_of_ble_eq_true rfl), (Nat.le_of_ble_eq_true rfl)⟩) hS (fun q _ h => hFc q h) hFc (fun E ce q9 H locs hp hz hk hS hce hcv hcl => ?_) (fun v H locs hp hz hk hS => ?_)
  · obtain ⟨hJ9, -, hk2⟩ := hp
    have hP := k_keepP hP hk2
    have hP : va_P D vwCl [(x, .inr (2, [.ref n, .int kn, .int ch])), (n, .inl (cJ, 8, .inr (.inl f))), (o, .inr (3, [.long vn, sr]))] H := hP
    have hD : va_D A [(x, .inr (2, [.ref n, .int kn, .int ch])), (n, .inl (cJ, 8, .inr (.inl f))), (o, .inr (3, [.long vn, sr]))] := hD
    rcases k_er_X0_text a1 _ hJ9 with rfl | ⟨hb9, -⟩
    · refine vx_catch (name := "java/lang/IndexOutOfBoundsException") hown [] ⟨0, 9, 12, 19⟩ [] (htb.trans rfl) (fun _ h => absurd h List.not_mem_nil) rfl (by decide) (hts (.classLink RL 19 "java/lang/IndexOutOfBoundsException") (by decide +kernel)) (va_Nw.use rfl hE.2.2.2.1.1) hce hcv hcl ?_
      refine lv_astore_n (lv' := [(3, .ref q9), (0, .ref x), (1, .int a1), (2, .ref o)]) hx hb dL_text_12 rfl hl (by decide) rfl (fun ls hl => ?_)
      refine lv_iconst (v := 1) hx hb dL_text_13 (by decide) ?_
      exact vx_ret (k_iret hx hb hr hlocks hS dL_text_14 (Or.inr ⟨_, hJ9, rfl, hP.sub [0, 1, 2] rfl, hD.sub [0, 1, 2] (by decide) rfl⟩))
    · exact absurd hb9 (by decide)
  · obtain ⟨hJ9, q, nn, u, gg, hn60, rfl, hP1, hD1, -⟩ := hp
    have hP1 : va_P D vwCl ([(x, .inr (2, [.ref n, .int kn, .int ch])), (n, .inl (cJ, 8, .inr (.inl f)))]) H := hP1.sub [0, 1] rfl
    have hD1 : va_D _ ([(x, .inr (2, [.ref n, .int kn, .int ch])), (n, .inl (cJ, 8, .inr (.inl f)))]) := hD1.sub [0, 1] (by decide) rfl
    obtain ⟨hP, hD⟩ := va_join (wr := [(o, .inr (3, [.long vn, sr]))]) (wc := [(x, .inr (2, [.ref n, .int kn, .int ch])), (n, .inl (cJ, 8, .inr (.inl f)))]) (w1 := [(x, .inr (2, [.ref n, .int kn, .int ch])), (n, .inl (cJ, 8, .inr (.inl f)))]) hP hD [0, 1] [2] rfl rfl (by decide) (by decide) hk hFc hP1 hD1
    have hP : va_P D vwCl [(o, .inr (3, [.long vn, sr])), (x, .inr (2, [.ref n, .int kn, .int ch])), (n, .inl (cJ, 8, .inr (.inl f)))] H := hP
    have hD : va_D A [(o, .inr (3, [.long vn, sr])), (x, .inr (2, [.ref n, .int kn, .int ch])), (n, .inl (cJ, 8, .inr (.inl f)))] := hD
    refine W.eq (g2 := F0 m 6 ls [.ref q, .ref o]) rfl ?_
    refine va_putN (D := D) (ci := 3) (v := .ref q) (ty := (.object "java/lang/String")) (C := RX1) (T := TX1) (N := 2) hx hb hts iw_L_text_X1 tyX1 tyX1_ok nmX1 hown hK hP hD hS 0 rfl rfl 1 (by decide) (va_Nw.use rfl hN.2.2) (fun _ h9 => h9) rfl (by decide +kernel) rfl rfl (Nat.le_of_ble_eq_true rfl) dL_text_6 (fun H locs hP hD hS => ?_)
    have hP : va_P D vwCl [(o, .inr (3, [.long vn, .ref q])), (x, .inr (2, [.ref n, .int kn, .int ch])), (n, .inl (cJ, 8, .inr (.inl f)))] H := hP
    have hD : va_D A [(o, .inr (3, [.long vn, .ref q])), (x, .inr (2, [.ref n, .int kn, .int ch])), (n, .inl (cJ, 8, .inr (.inl f)))] := hD
    refine lv_goto (tgt := 15) hx hb dL_text_9 (by decide) ?_
    refine lv_iconst (v := 0) hx hb dL_text_15 (by decide) ?_
    exact vx_ret (k_iret hx hb hr hlocks hS dL_text_16 (Or.inl ⟨hJ9, rfl, _, hP.sub [1, 2, 0] rfl, hD.sub [1, 2, 0] (by decide) rfl⟩))
abbrev rm_L_beyond : Room := { frames := 9, cells := 26, slots := 2766, locals := 240 }
theorem iw_L_beyond_X1 : ∀ w ∈ wsX10, w ∈ wsL_beyond := by decide +kernel
set_option maxHeartbeats 4000000 in
set_option maxRecDepth 100000 in
theorem c_L_beyond (l : Launch) (hl9 : l.stackTraces = false) (D : va_G) (cB cJ : ClassId) (Hp : Heap) (x n o : Nat) (kn ch : Int32) (f : Nat → Int64) (vn : Int64) (sr : Value) (a1 : Int32) (a2 : Int32) (hP : va_P D vwCl (wC x n cJ kn ch f ++ wO o vn sr) Hp) (hD9 : va_D (fun _ => True) (wC x n cJ kn ch f ++ wO o vn sr)) : vx_Met l yL_beyond wsL_beyond rm_L_beyond (kPreN D cB cJ (va_A (wC x n cJ kn ch f ++ wO o vn sr) Hp.size) Hp [.ref x, .int a1, .int a2, .ref o]) (kQ (kLs D x n o cJ (va_A (wC x n cJ kn ch f ++ wO o vn sr) Hp.size) k_cd (j_X0_beyond a1 a2) kn ch f vn sr) (va_A (wC x n cJ kn ch f ++ wO o vn sr) Hp.size)) (kX kNX (va_A (wC x n cJ kn ch f ++ wO o vn sr) Hp.size)) 26 2766 (va_A (wC x n cJ kn ch f ++ wO o vn sr) Hp.size) := by
  refine vx_ofWH (cc := cL_beyond) (maxL := 5) (ret := (some .int)) (hh := [(0, 10, 13, 19), (0, 10, 17, 21)]) (by decide) rfl ?_
  intro p e s m args below meth c s₁ B hml hv
  obtain ⟨rfl, hHp, hE, hN⟩ := hv
  subst hHp
  have hx := B.exec
  have hb := B.bytes
  have hr := B.returns
  have hts := atoms_spec (ws := wsL_beyond) B.pre
  have hown : s.vm.findClass RL = some m.cls := findClass_of_methodNamed B.named
  have hlocks := B.notSynchronized
  have hK := hE.1
  have hD := hD9.self (sz := s.heap.size)
  generalize hAe : va_A (wC x n cJ kn ch f ++ wO o vn sr) s.heap.size = A at hE hD ⊢
  have hA : ∀ q : Nat, s.heap.size ≤ q → A q := fun q h => by rw [← hAe]; exact Or.inr h
  have htb := vx_table (x := yL_beyond) B (hts _ List.mem_cons_self)
  have hS : va_S A s.heap s.heap [] := va_S.rf
  have hl := lv_entry ([.ref x, .int a1, .int a2, .ref o]) (n := 5) (Nat.le_of_ble_eq_true rfl)
  rw [lg_entry_eq]
  generalize (lg_sl ([.ref x, .int a1, .int a2, .ref o]) ++ List.replicate (5 - (lg_sl ([.ref x, .int a1, .int a2, .ref o])).length) Slot.unset).toArray = ls at hl ⊢
  have hl : lv_has ls 5 [(0, .ref x), (1, .int a1), (2, .int a2), (3, .ref o)] := hl
  refine lv_aload_n hx hb dL_beyond_0 rfl (lv_at hl 3 rfl) ?_
  refine lv_aload_n hx hb dL_beyond_1 rfl (lv_at hl 0 rfl) ?_
  refine lv_iload_n hx hb dL_beyond_2 rfl (lv_at hl 1 rfl) ?_
  refine lv_iload_n hx hb dL_beyond_3 rfl (lv_at hl 2 rfl) ?_
  have hFc := va_free (wc := [(x, .inr (2, [.ref n, .int kn, .int ch])), (n, .inl (cJ, 8, .inr (.inl f)))]) hD hS hA [0, 1] rfl
  refine kx_go (vx_runV (As := [.int a1, .int a2]) (rest := [.ref o]) ⟨hx, hb, hml, hown, hts⟩ (c_X0_beyond l hl9 D cB cJ _ x n kn ch f a1 a2 (hP.sub [0, 1] rfl) ((hD.sub [0, 1] (by decide) rfl).weaken (fun _ _ _ _ => trivial))) (cwV 2 hts gL_beyond_X0_beyond rfl rfl rfl (by decide +kernel) ⟨(Nat.le_of_ble_eq_true rfl), (Nat.le_of_ble_eq_true rfl)⟩) (k_preV hE hS hFc (va_recv hK hP (ci := 2) (q0 := 0) rfl rfl)) rfl rfl hl.1 rfl (lv_room (Nat.le_of_ble_eq_true rfl)) dL_beyond_4 ⟨(Nat.le_of_ble_eq_true rfl), (Nat.le_of_ble_eq_true rfl)⟩) hS (fun q _ h => hFc q h) hFc (fun E ce q9 H locs hp hz hk hS hce hcv hcl => ?_) (fun v H locs hp hz hk hS => ?_)
  · obtain ⟨hJ9, -, hk2⟩ := hp
    have hP := k_keepP hP hk2
    have hP : va_P D vwCl [(x, .inr (2, [.ref n, .int kn, .int ch])), (n, .inl (cJ, 8, .inr (.inl f))), (o, .inr (3, [.long vn, sr]))] H := hP
    have hD : va_D A [(x, .inr (2, [.ref n, .int kn, .int ch])), (n, .inl (cJ, 8, .inr (.inl f))), (o, .inr (3, [.long vn, sr]))] := hD
    rcases k_er_X0_beyond a1 a2 _ hJ9 with rfl | ⟨-, rfl⟩
    · refine vx_catch (name := "java/lang/IndexOutOfBoundsException") hown [] ⟨0, 10, 13, 19⟩ [⟨0, 10, 17, 21⟩] (htb.trans rfl) (fun _ h => absurd h List.not_mem_nil) rfl (by decide) (hts (.classLink RL 19 "java/lang/IndexOutOfBoundsException") (by decide +kernel)) (va_Nw.use rfl hE.2.2.2.1.1) hce hcv hcl ?_
      refine lv_astore (lv' := [(4, .ref q9), (0, .ref x), (1, .int a1), (2, .int a2), (3, .ref o)]) hx hb dL_beyond_13 hl (by decide) rfl (fun ls hl => ?_)
      refine lv_iconst (v := 1) hx hb dL_beyond_15 (by decide) ?_
      exact vx_ret (k_iret hx hb hr hlocks hS dL_beyond_16 (Or.inr ⟨_, hJ9, rfl, hP.sub [0, 1, 2] rfl, hD.sub [0, 1, 2] (by decide) rfl⟩))
    · refine vx_catch (name := "java/lang/IllegalArgumentException") hown [⟨0, 10, 13, 19⟩] ⟨0, 10, 17, 21⟩ [] (htb.trans rfl) (fun z hz => Or.inr (by obtain rfl := List.mem_singleton.mp hz; exact ⟨by decide, "java/lang/IndexOutOfBoundsException", hts (.classLink RL 19 "java/lang/IndexOutOfBoundsException") (by decide +kernel), hN.1⟩)) rfl (by decide) (hts (.classLink RL 21 "java/lang/IllegalArgumentException") (by decide +kernel)) (va_Nw.use rfl hE.2.2.2.1.2.1) hce hcv hcl ?_
      refine lv_astore (lv' := [(4, .ref q9), (0, .ref x), (1, .int a1), (2, .int a2), (3, .ref o)]) hx hb dL_beyond_17 hl (by decide) rfl (fun ls hl => ?_)
      refine lv_iconst (v := 2) hx hb dL_beyond_19 (by decide) ?_
      exact vx_ret (k_iret hx hb hr hlocks hS dL_beyond_20 (Or.inr ⟨_, hJ9, rfl, hP.sub [0, 1, 2] rfl, hD.sub [0, 1, 2] (by decide) rfl⟩))
  · obtain ⟨hJ9, q, nn, u, gg, hn60, rfl, hP1, hD1, -⟩ := hp
    have hP1 : va_P D vwCl ([(x, .inr (2, [.ref n, .int kn, .int ch])), (n, .inl (cJ, 8, .inr (.inl f)))]) H := hP1.sub [0, 1] rfl
    have hD1 : va_D _ ([(x, .inr (2, [.ref n, .int kn, .int ch])), (n, .inl (cJ, 8, .inr (.inl f)))]) := hD1.sub [0, 1] (by decide) rfl
    obtain ⟨hP, hD⟩ := va_join (wr := [(o, .inr (3, [.long vn, sr]))]) (wc := [(x, .inr (2, [.ref n, .int kn, .int ch])), (n, .inl (cJ, 8, .inr (.inl f)))]) (w1 := [(x, .inr (2, [.ref n, .int kn, .int ch])), (n, .inl (cJ, 8, .inr (.inl f)))]) hP hD [0, 1] [2] rfl rfl (by decide) (by decide) hk hFc hP1 hD1
    have hP : va_P D vwCl [(o, .inr (3, [.long vn, sr])), (x, .inr (2, [.ref n, .int kn, .int ch])), (n, .inl (cJ, 8, .inr (.inl f)))] H := hP
    have hD : va_D A [(o, .inr (3, [.long vn, sr])), (x, .inr (2, [.ref n, .int kn, .int ch])), (n, .inl (cJ, 8, .inr (.inl f)))] := hD
    refine W.eq (g2 := F0 m 7 ls [.ref q, .ref o]) rfl ?_
    refine va_putN (D := D) (ci := 3) (v := .ref q) (ty := (.object "java/lang/String")) (C := RX1) (T := TX1) (N := 2) hx hb hts iw_L_beyond_X1 tyX1 tyX1_ok nmX1 hown hK hP hD hS 0 rfl rfl 1 (by decide) (va_Nw.use rfl hN.2.2) (fun _ h9 => h9) rfl (by decide +kernel) rfl rfl (Nat.le_of_ble_eq_true rfl) dL_beyond_7 (fun H locs hP hD hS => ?_)
    have hP : va_P D vwCl [(o, .inr (3, [.long vn, .ref q])), (x, .inr (2, [.ref n, .int kn, .int ch])), (n, .inl (cJ, 8, .inr (.inl f)))] H := hP
    have hD : va_D A [(o, .inr (3, [.long vn, .ref q])), (x, .inr (2, [.ref n, .int kn, .int ch])), (n, .inl (cJ, 8, .inr (.inl f)))] := hD
    refine lv_goto (tgt := 21) hx hb dL_beyond_10 (by decide) ?_
    refine lv_iconst (v := 0) hx hb dL_beyond_21 (by decide) ?_
    exact vx_ret (k_iret hx hb hr hlocks hS dL_beyond_22 (Or.inl ⟨hJ9, rfl, _, hP.sub [1, 2, 0] rfl, hD.sub [1, 2, 0] (by decide) rfl⟩))
abbrev rm_L_compare : Room := { frames := 9, cells := 2, slots := 12, locals := 152 }
theorem iw_L_compare_X1 : ∀ w ∈ wsX10, w ∈ wsL_compare := by decide +kernel
set_option maxHeartbeats 4000000 in
set_option maxRecDepth 100000 in
theorem c_L_compare (l : Launch) (hl9 : l.stackTraces = false) (D : va_G) (cB cJ : ClassId) (Hp : Heap) (x n o : Nat) (kn ch : Int32) (f : Nat → Int64) (vn : Int64) (sr : Value) (a1 : Int32) (a2 : Int32) (hP : va_P D vwCl (wC x n cJ kn ch f ++ wO o vn sr) Hp) (hD9 : va_D (fun _ => True) (wC x n cJ kn ch f ++ wO o vn sr)) : vx_Met l yL_compare wsL_compare rm_L_compare (kPreN D cB cJ (va_A (wC x n cJ kn ch f ++ wO o vn sr) Hp.size) Hp [.ref x, .int a1, .int a2, .ref o]) (kQ (kLw D x n o cJ (va_A (wC x n cJ kn ch f ++ wO o vn sr) Hp.size) k_cd (fun z : Int32 => z.toInt64) (j_X0_compare kn ch f a1 a2) kn ch f vn sr) (va_A (wC x n cJ kn ch f ++ wO o vn sr) Hp.size)) (kX kNX (va_A (wC x n cJ kn ch f ++ wO o vn sr) Hp.size)) 2 12 (va_A (wC x n cJ kn ch f ++ wO o vn sr) Hp.size) := by
  refine vx_ofWH (cc := cL_compare) (maxL := 5) (ret := (some .int)) (hh := [(0, 11, 14, 19)]) (by decide) rfl ?_
  intro p e s m args below meth c s₁ B hml hv
  obtain ⟨rfl, hHp, hE, hN⟩ := hv
  subst hHp
  have hx := B.exec
  have hb := B.bytes
  have hr := B.returns
  have hts := atoms_spec (ws := wsL_compare) B.pre
  have hown : s.vm.findClass RL = some m.cls := findClass_of_methodNamed B.named
  have hlocks := B.notSynchronized
  have hK := hE.1
  have hD := hD9.self (sz := s.heap.size)
  generalize hAe : va_A (wC x n cJ kn ch f ++ wO o vn sr) s.heap.size = A at hE hD ⊢
  have hA : ∀ q : Nat, s.heap.size ≤ q → A q := fun q h => by rw [← hAe]; exact Or.inr h
  have htb := vx_table (x := yL_compare) B (hts _ List.mem_cons_self)
  have hS : va_S A s.heap s.heap [] := va_S.rf
  have hl := lv_entry ([.ref x, .int a1, .int a2, .ref o]) (n := 5) (Nat.le_of_ble_eq_true rfl)
  rw [lg_entry_eq]
  generalize (lg_sl ([.ref x, .int a1, .int a2, .ref o]) ++ List.replicate (5 - (lg_sl ([.ref x, .int a1, .int a2, .ref o])).length) Slot.unset).toArray = ls at hl ⊢
  have hl : lv_has ls 5 [(0, .ref x), (1, .int a1), (2, .int a2), (3, .ref o)] := hl
  refine lv_aload_n hx hb dL_compare_0 rfl (lv_at hl 3 rfl) ?_
  refine lv_aload_n hx hb dL_compare_1 rfl (lv_at hl 0 rfl) ?_
  refine lv_iload_n hx hb dL_compare_2 rfl (lv_at hl 1 rfl) ?_
  refine lv_iload_n hx hb dL_compare_3 rfl (lv_at hl 2 rfl) ?_
  have hFc := va_free (wc := [(x, .inr (2, [.ref n, .int kn, .int ch])), (n, .inl (cJ, 8, .inr (.inl f)))]) hD hS hA [0, 1] rfl
  refine kx_go (vx_runV (As := [.int a1, .int a2]) (rest := [.ref o]) ⟨hx, hb, hml, hown, hts⟩ (c_X0_compare l hl9 D cB cJ _ x n kn ch f (hP.sub [0, 1] rfl) ((hD.sub [0, 1] (by decide) rfl).weaken (fun _ _ _ _ => trivial)) a1 a2) (cwV 2 hts gL_compare_X0_compare rfl rfl rfl (by decide +kernel) ⟨(Nat.le_of_ble_eq_true rfl), (Nat.le_of_ble_eq_true rfl)⟩) (k_preV hE hS hFc (va_recv hK hP (ci := 2) (q0 := 0) rfl rfl)) rfl rfl hl.1 rfl (lv_room (Nat.le_of_ble_eq_true rfl)) dL_compare_4 ⟨(Nat.le_of_ble_eq_true rfl), (Nat.le_of_ble_eq_true rfl)⟩) hS (fun q _ h => hFc q h) hFc (fun E ce q9 H locs hp hz hk hS hce hcv hcl => ?_) (fun v H locs hp hz hk hS => ?_)
  · obtain ⟨hJ9, -, hk2⟩ := hp
    have hP := k_keepP hP hk2
    have hP : va_P D vwCl [(x, .inr (2, [.ref n, .int kn, .int ch])), (n, .inl (cJ, 8, .inr (.inl f))), (o, .inr (3, [.long vn, sr]))] H := hP
    have hD : va_D A [(x, .inr (2, [.ref n, .int kn, .int ch])), (n, .inl (cJ, 8, .inr (.inl f))), (o, .inr (3, [.long vn, sr]))] := hD
    rcases k_er_X0_compare kn ch f a1 a2 _ hJ9 with rfl | ⟨hb9, -⟩
    · refine vx_catch (name := "java/lang/IndexOutOfBoundsException") hown [] ⟨0, 11, 14, 19⟩ [] (htb.trans rfl) (fun _ h => absurd h List.not_mem_nil) rfl (by decide) (hts (.classLink RL 19 "java/lang/IndexOutOfBoundsException") (by decide +kernel)) (va_Nw.use rfl hE.2.2.2.1.1) hce hcv hcl ?_
      refine lv_astore (lv' := [(4, .ref q9), (0, .ref x), (1, .int a1), (2, .int a2), (3, .ref o)]) hx hb dL_compare_14 hl (by decide) rfl (fun ls hl => ?_)
      refine lv_iconst (v := 1) hx hb dL_compare_16 (by decide) ?_
      exact vx_ret (k_iret hx hb hr hlocks hS dL_compare_17 (Or.inr ⟨_, hJ9, rfl, hP.sub [0, 1, 2] rfl, hD.sub [0, 1, 2] (by decide) rfl⟩))
    · exact absurd hb9 (by decide)
  · obtain ⟨r, hJ9, rfl, hP1, hD1⟩ := hp
    obtain ⟨hP, hD⟩ := va_join (wr := [(o, .inr (3, [.long vn, sr]))]) (wc := [(x, .inr (2, [.ref n, .int kn, .int ch])), (n, .inl (cJ, 8, .inr (.inl f)))]) (w1 := [(x, .inr (2, [.ref n, .int r.2.1, .int r.2.2.1])), (n, .inl (cJ, 8, .inr (.inl r.2.2.2)))]) hP hD [0, 1] [2] rfl rfl (by decide) (by decide) hk hFc hP1 hD1
    have hP : va_P D vwCl [(o, .inr (3, [.long vn, sr])), (x, .inr (2, [.ref n, .int r.2.1, .int r.2.2.1])), (n, .inl (cJ, 8, .inr (.inl r.2.2.2)))] H := hP
    have hD : va_D A [(o, .inr (3, [.long vn, sr])), (x, .inr (2, [.ref n, .int r.2.1, .int r.2.2.1])), (n, .inl (cJ, 8, .inr (.inl r.2.2.2)))] := hD
    refine W.eq (g2 := F0 m 7 ls [.int r.1, .ref o]) rfl ?_
    refine lv_i2l (v := r.1.toInt64) hx hb dL_compare_7 rfl ?_
    refine va_putN (D := D) (ci := 3) (v := .long r.1.toInt64) (ty := .long) (C := RX1) (T := TX1) (N := 2) hx hb hts iw_L_compare_X1 tyX1 tyX1_ok nmX1 hown hK hP hD hS 0 rfl rfl 0 (by decide) (va_Nw.use rfl hN.2.1) (fun _ h9 => h9) rfl (by decide +kernel) rfl rfl (Nat.le_of_ble_eq_true rfl) dL_compare_8 (fun H locs hP hD hS => ?_)
    have hP : va_P D vwCl [(o, .inr (3, [.long r.1.toInt64, sr])), (x, .inr (2, [.ref n, .int r.2.1, .int r.2.2.1])), (n, .inl (cJ, 8, .inr (.inl r.2.2.2)))] H := hP
    have hD : va_D A [(o, .inr (3, [.long r.1.toInt64, sr])), (x, .inr (2, [.ref n, .int r.2.1, .int r.2.2.1])), (n, .inl (cJ, 8, .inr (.inl r.2.2.2)))] := hD
    refine lv_goto (tgt := 18) hx hb dL_compare_11 (by decide) ?_
    refine lv_iconst (v := 0) hx hb dL_compare_18 (by decide) ?_
    exact vx_ret (k_iret hx hb hr hlocks hS dL_compare_19 (Or.inl ⟨_, hJ9, rfl, hP.sub [1, 2, 0] rfl, hD.sub [1, 2, 0] (by decide) rfl⟩))
abbrev rm_L_isAhead : Room := { frames := 9, cells := 2, slots := 12, locals := 152 }
theorem iw_L_isAhead_X1 : ∀ w ∈ wsX10, w ∈ wsL_isAhead := by decide +kernel
set_option maxHeartbeats 4000000 in
set_option maxRecDepth 100000 in
theorem c_L_isAhead (l : Launch) (hl9 : l.stackTraces = false) (D : va_G) (cB cJ : ClassId) (Hp : Heap) (x n o : Nat) (kn ch : Int32) (f : Nat → Int64) (vn : Int64) (sr : Value) (a1 : Int32) (a2 : Int32) (hP : va_P D vwCl (wC x n cJ kn ch f ++ wO o vn sr) Hp) (hD9 : va_D (fun _ => True) (wC x n cJ kn ch f ++ wO o vn sr)) : vx_Met l yL_isAhead wsL_isAhead rm_L_isAhead (kPreN D cB cJ (va_A (wC x n cJ kn ch f ++ wO o vn sr) Hp.size) Hp [.ref x, .int a1, .int a2, .ref o]) (kQ (kLw D x n o cJ (va_A (wC x n cJ kn ch f ++ wO o vn sr) Hp.size) k_cd (fun z : Int32 => if z = 0 then (0 : Int64) else 1) (j_X0_isAhead kn ch f a1 a2) kn ch f vn sr) (va_A (wC x n cJ kn ch f ++ wO o vn sr) Hp.size)) (kX kNX (va_A (wC x n cJ kn ch f ++ wO o vn sr) Hp.size)) 2 12 (va_A (wC x n cJ kn ch f ++ wO o vn sr) Hp.size) := by
  refine vx_ofWH (cc := cL_isAhead) (maxL := 5) (ret := (some .int)) (hh := [(0, 18, 21, 19)]) (by decide) rfl ?_
  intro p e s m args below meth c s₁ B hml hv
  obtain ⟨rfl, hHp, hE, hN⟩ := hv
  subst hHp
  have hx := B.exec
  have hb := B.bytes
  have hr := B.returns
  have hts := atoms_spec (ws := wsL_isAhead) B.pre
  have hown : s.vm.findClass RL = some m.cls := findClass_of_methodNamed B.named
  have hlocks := B.notSynchronized
  have hK := hE.1
  have hD := hD9.self (sz := s.heap.size)
  generalize hAe : va_A (wC x n cJ kn ch f ++ wO o vn sr) s.heap.size = A at hE hD ⊢
  have hA : ∀ q : Nat, s.heap.size ≤ q → A q := fun q h => by rw [← hAe]; exact Or.inr h
  have htb := vx_table (x := yL_isAhead) B (hts _ List.mem_cons_self)
  have hS : va_S A s.heap s.heap [] := va_S.rf
  have hl := lv_entry ([.ref x, .int a1, .int a2, .ref o]) (n := 5) (Nat.le_of_ble_eq_true rfl)
  rw [lg_entry_eq]
  generalize (lg_sl ([.ref x, .int a1, .int a2, .ref o]) ++ List.replicate (5 - (lg_sl ([.ref x, .int a1, .int a2, .ref o])).length) Slot.unset).toArray = ls at hl ⊢
  have hl : lv_has ls 5 [(0, .ref x), (1, .int a1), (2, .int a2), (3, .ref o)] := hl
  refine lv_aload_n hx hb dL_isAhead_0 rfl (lv_at hl 3 rfl) ?_
  refine lv_aload_n hx hb dL_isAhead_1 rfl (lv_at hl 0 rfl) ?_
  refine lv_iload_n hx hb dL_isAhead_2 rfl (lv_at hl 1 rfl) ?_
  refine lv_iload_n hx hb dL_isAhead_3 rfl (lv_at hl 2 rfl) ?_
  have hFc := va_free (wc := [(x, .inr (2, [.ref n, .int kn, .int ch])), (n, .inl (cJ, 8, .inr (.inl f)))]) hD hS hA [0, 1] rfl
  refine kx_go (vx_runV (As := [.int a1, .int a2]) (rest := [.ref o]) ⟨hx, hb, hml, hown, hts⟩ (c_X0_isAhead l hl9 D cB cJ _ x n kn ch f (hP.sub [0, 1] rfl) ((hD.sub [0, 1] (by decide) rfl).weaken (fun _ _ _ _ => trivial)) a1 a2) (cwV 2 hts gL_isAhead_X0_isAhead rfl rfl rfl (by decide +kernel) ⟨(Nat.le_of_ble_eq_true rfl), (Nat.le_of_ble_eq_true rfl)⟩) (k_preV hE hS hFc (va_recv hK hP (ci := 2) (q0 := 0) rfl rfl)) rfl rfl hl.1 rfl (lv_room (Nat.le_of_ble_eq_true rfl)) dL_isAhead_4 ⟨(Nat.le_of_ble_eq_true rfl), (Nat.le_of_ble_eq_true rfl)⟩) hS (fun q _ h => hFc q h) hFc (fun E ce q9 H locs hp hz hk hS hce hcv hcl => ?_) (fun v H locs hp hz hk hS => ?_)
  · obtain ⟨hJ9, -, hk2⟩ := hp
    have hP := k_keepP hP hk2
    have hP : va_P D vwCl [(x, .inr (2, [.ref n, .int kn, .int ch])), (n, .inl (cJ, 8, .inr (.inl f))), (o, .inr (3, [.long vn, sr]))] H := hP
    have hD : va_D A [(x, .inr (2, [.ref n, .int kn, .int ch])), (n, .inl (cJ, 8, .inr (.inl f))), (o, .inr (3, [.long vn, sr]))] := hD
    rcases k_er_X0_isAhead kn ch f a1 a2 _ hJ9 with rfl | ⟨hb9, -⟩
    · refine vx_catch (name := "java/lang/IndexOutOfBoundsException") hown [] ⟨0, 18, 21, 19⟩ [] (htb.trans rfl) (fun _ h => absurd h List.not_mem_nil) rfl (by decide) (hts (.classLink RL 19 "java/lang/IndexOutOfBoundsException") (by decide +kernel)) (va_Nw.use rfl hE.2.2.2.1.1) hce hcv hcl ?_
      refine lv_astore (lv' := [(4, .ref q9), (0, .ref x), (1, .int a1), (2, .int a2), (3, .ref o)]) hx hb dL_isAhead_21 hl (by decide) rfl (fun ls hl => ?_)
      refine lv_iconst (v := 1) hx hb dL_isAhead_23 (by decide) ?_
      exact vx_ret (k_iret hx hb hr hlocks hS dL_isAhead_24 (Or.inr ⟨_, hJ9, rfl, hP.sub [0, 1, 2] rfl, hD.sub [0, 1, 2] (by decide) rfl⟩))
    · exact absurd hb9 (by decide)
  · obtain ⟨r, hJ9, rfl, hP1, hD1⟩ := hp
    obtain ⟨hP, hD⟩ := va_join (wr := [(o, .inr (3, [.long vn, sr]))]) (wc := [(x, .inr (2, [.ref n, .int kn, .int ch])), (n, .inl (cJ, 8, .inr (.inl f)))]) (w1 := [(x, .inr (2, [.ref n, .int r.2.1, .int r.2.2.1])), (n, .inl (cJ, 8, .inr (.inl r.2.2.2)))]) hP hD [0, 1] [2] rfl rfl (by decide) (by decide) hk hFc hP1 hD1
    have hP : va_P D vwCl [(o, .inr (3, [.long vn, sr])), (x, .inr (2, [.ref n, .int r.2.1, .int r.2.2.1])), (n, .inl (cJ, 8, .inr (.inl r.2.2.2)))] H := hP
    have hD : va_D A [(o, .inr (3, [.long vn, sr])), (x, .inr (2, [.ref n, .int r.2.1, .int r.2.2.1])), (n, .inl (cJ, 8, .inr (.inl r.2.2.2)))] := hD
    refine W.eq (g2 := F0 m 7 ls [.int r.1, .ref o]) rfl ?_
    refine lv_if_eq (tgt := 14) hx hb dL_isAhead_7 (by decide) (fun c_2 => ?_) (fun c_2 => ?_)
    · have hbo : (if r.1 = 0 then (0 : Int64) else 1) = 0 := if_pos c_2
      refine lv_lconst (v := 0) hx hb dL_isAhead_14 (by decide) ?_
      refine va_putN (D := D) (ci := 3) (v := .long 0) (ty := .long) (C := RX1) (T := TX1) (N := 2) hx hb hts iw_L_isAhead_X1 tyX1 tyX1_ok nmX1 hown hK hP hD hS 0 rfl rfl 0 (by decide) (va_Nw.use rfl hN.2.1) (fun _ h9 => h9) rfl (by decide +kernel) rfl rfl (Nat.le_of_ble_eq_true rfl) dL_isAhead_15 (fun H locs hP hD hS => ?_)
      have hP : va_P D vwCl [(o, .inr (3, [.long 0, sr])), (x, .inr (2, [.ref n, .int r.2.1, .int r.2.2.1])), (n, .inl (cJ, 8, .inr (.inl r.2.2.2)))] H := hP
      have hD : va_D A [(o, .inr (3, [.long 0, sr])), (x, .inr (2, [.ref n, .int r.2.1, .int r.2.2.1])), (n, .inl (cJ, 8, .inr (.inl r.2.2.2)))] := hD
      refine lv_goto (tgt := 25) hx hb dL_isAhead_18 (by decide) ?_
      refine lv_iconst (v := 0) hx hb dL_isAhead_25 (by decide) ?_
      exact vx_ret (k_iret hx hb hr hlocks hS dL_isAhead_26 (Or.inl ⟨_, hJ9, rfl, by rw [show (fun z : Int32 => if z = 0 then (0 : Int64) else 1) r.1 = _ from hbo]; exact hP.sub [1, 2, 0] rfl, by rw [show (fun z : Int32 => if z = 0 then (0 : Int64) else 1) r.1 = _ from hbo]; exact hD.sub [1, 2, 0] (by decide) rfl⟩))
    · have hbo : (if r.1 = 0 then (0 : Int64) else 1) = 1 := if_neg c_2
      refine lv_lconst (v := 1) hx hb dL_isAhead_10 (by decide) ?_
      refine lv_goto (tgt := 15) hx hb dL_isAhead_11 (by decide) ?_
      refine va_putN (D := D) (ci := 3) (v := .long 1) (ty := .long) (C := RX1) (T := TX1) (N := 2) hx hb hts iw_L_isAhead_X1 tyX1 tyX1_ok nmX1 hown hK hP hD hS 0 rfl rfl 0 (by decide) (va_Nw.use rfl hN.2.1) (fun _ h9 => h9) rfl (by decide +kernel) rfl rfl (Nat.le_of_ble_eq_true rfl) dL_isAhead_15 (fun H locs hP hD hS => ?_)
      have hP : va_P D vwCl [(o, .inr (3, [.long 1, sr])), (x, .inr (2, [.ref n, .int r.2.1, .int r.2.2.1])), (n, .inl (cJ, 8, .inr (.inl r.2.2.2)))] H := hP
      have hD : va_D A [(o, .inr (3, [.long 1, sr])), (x, .inr (2, [.ref n, .int r.2.1, .int r.2.2.1])), (n, .inl (cJ, 8, .inr (.inl r.2.2.2)))] := hD
      refine lv_goto (tgt := 25) hx hb dL_isAhead_18 (by decide) ?_
      refine lv_iconst (v := 0) hx hb dL_isAhead_25 (by decide) ?_
      exact vx_ret (k_iret hx hb hr hlocks hS dL_isAhead_26 (Or.inl ⟨_, hJ9, rfl, by rw [show (fun z : Int32 => if z = 0 then (0 : Int64) else 1) r.1 = _ from hbo]; exact hP.sub [1, 2, 0] rfl, by rw [show (fun z : Int32 => if z = 0 then (0 : Int64) else 1) r.1 = _ from hbo]; exact hD.sub [1, 2, 0] (by decide) rfl⟩))
abbrev rm_L_isBehind : Room := { frames := 9, cells := 2, slots := 12, locals := 152 }
theorem iw_L_isBehind_X1 : ∀ w ∈ wsX10, w ∈ wsL_isBehind := by decide +kernel
set_option maxHeartbeats 4000000 in
set_option maxRecDepth 100000 in
theorem c_L_isBehind (l : Launch) (hl9 : l.stackTraces = false) (D : va_G) (cB cJ : ClassId) (Hp : Heap) (x n o : Nat) (kn ch : Int32) (f : Nat → Int64) (vn : Int64) (sr : Value) (a1 : Int32) (a2 : Int32) (hP : va_P D vwCl (wC x n cJ kn ch f ++ wO o vn sr) Hp) (hD9 : va_D (fun _ => True) (wC x n cJ kn ch f ++ wO o vn sr)) : vx_Met l yL_isBehind wsL_isBehind rm_L_isBehind (kPreN D cB cJ (va_A (wC x n cJ kn ch f ++ wO o vn sr) Hp.size) Hp [.ref x, .int a1, .int a2, .ref o]) (kQ (kLw D x n o cJ (va_A (wC x n cJ kn ch f ++ wO o vn sr) Hp.size) k_cd (fun z : Int32 => if z = 0 then (0 : Int64) else 1) (j_X0_isBehind kn ch f a1 a2) kn ch f vn sr) (va_A (wC x n cJ kn ch f ++ wO o vn sr) Hp.size)) (kX kNX (va_A (wC x n cJ kn ch f ++ wO o vn sr) Hp.size)) 2 12 (va_A (wC x n cJ kn ch f ++ wO o vn sr) Hp.size) := by
  refine vx_ofWH (cc := cL_isBehind) (maxL := 5) (ret := (some .int)) (hh := [(0, 18, 21, 19)]) (by decide) rfl ?_
  intro p e s m args below meth c s₁ B hml hv
  obtain ⟨rfl, hHp, hE, hN⟩ := hv
  subst hHp
  have hx := B.exec
  have hb := B.bytes
  have hr := B.returns
  have hts := atoms_spec (ws := wsL_isBehind) B.pre
  have hown : s.vm.findClass RL = some m.cls := findClass_of_methodNamed B.named
  have hlocks := B.notSynchronized
  have hK := hE.1
  have hD := hD9.self (sz := s.heap.size)
  generalize hAe : va_A (wC x n cJ kn ch f ++ wO o vn sr) s.heap.size = A at hE hD ⊢
  have hA : ∀ q : Nat, s.heap.size ≤ q → A q := fun q h => by rw [← hAe]; exact Or.inr h
  have htb := vx_table (x := yL_isBehind) B (hts _ List.mem_cons_self)
  have hS : va_S A s.heap s.heap [] := va_S.rf
  have hl := lv_entry ([.ref x, .int a1, .int a2, .ref o]) (n := 5) (Nat.le_of_ble_eq_true rfl)
  rw [lg_entry_eq]
  generalize (lg_sl ([.ref x, .int a1, .int a2, .ref o]) ++ List.replicate (5 - (lg_sl ([.ref x, .int a1, .int a2, .ref o])).length) Slot.unset).toArray = ls at hl ⊢
  have hl : lv_has ls 5 [(0, .ref x), (1, .int a1), (2, .int a2), (3, .ref o)] := hl
  refine lv_aload_n hx hb dL_isBehind_0 rfl (lv_at hl 3 rfl) ?_
  refine lv_aload_n hx hb dL_isBehind_1 rfl (lv_at hl 0 rfl) ?_
  refine lv_iload_n hx hb dL_isBehind_2 rfl (lv_at hl 1 rfl) ?_
  refine lv_iload_n hx hb dL_isBehind_3 rfl (lv_at hl 2 rfl) ?_
  have hFc := va_free (wc := [(x, .inr (2, [.ref n, .int kn, .int ch])), (n, .inl (cJ, 8, .inr (.inl f)))]) hD hS hA [0, 1] rfl
  refine kx_go (vx_runV (As := [.int a1, .int a2]) (rest := [.ref o]) ⟨hx, hb, hml, hown, hts⟩ (c_X0_isBehind l hl9 D cB cJ _ x n kn ch f (hP.sub [0, 1] rfl) ((hD.sub [0, 1] (by decide) rfl).weaken (fun _ _ _ _ => trivial)) a1 a2) (cwV 2 hts gL_isBehind_X0_isBehind rfl rfl rfl (by decide +kernel) ⟨(Nat.le_of_ble_eq_true rfl), (Nat.le_of_ble_eq_true rfl)⟩) (k_preV hE hS hFc (va_recv hK hP (ci := 2) (q0 := 0) rfl rfl)) rfl rfl hl.1 rfl (lv_room (Nat.le_of_ble_eq_true rfl)) dL_isBehind_4 ⟨(Nat.le_of_ble_eq_true rfl), (Nat.le_of_ble_eq_true rfl)⟩) hS (fun q _ h => hFc q h) hFc (fun E ce q9 H locs hp hz hk hS hce hcv hcl => ?_) (fun v H locs hp hz hk hS => ?_)
  · obtain ⟨hJ9, -, hk2⟩ := hp
    have hP := k_keepP hP hk2
    have hP : va_P D vwCl [(x, .inr (2, [.ref n, .int kn, .int ch])), (n, .inl (cJ, 8, .inr (.inl f))), (o, .inr (3, [.long vn, sr]))] H := hP
    have hD : va_D A [(x, .inr (2, [.ref n, .int kn, .int ch])), (n, .inl (cJ, 8, .inr (.inl f))), (o, .inr (3, [.long vn, sr]))] := hD
    rcases k_er_X0_isBehind kn ch f a1 a2 _ hJ9 with rfl | ⟨hb9, -⟩
    · refine vx_catch (name := "java/lang/IndexOutOfBoundsException") hown [] ⟨0, 18, 21, 19⟩ [] (htb.trans rfl) (fun _ h => absurd h List.not_mem_nil) rfl (by decide) (hts (.classLink RL 19 "java/lang/IndexOutOfBoundsException") (by decide +kernel)) (va_Nw.use rfl hE.2.2.2.1.1) hce hcv hcl ?_
      refine lv_astore (lv' := [(4, .ref q9), (0, .ref x), (1, .int a1), (2, .int a2), (3, .ref o)]) hx hb dL_isBehind_21 hl (by decide) rfl (fun ls hl => ?_)
      refine lv_iconst (v := 1) hx hb dL_isBehind_23 (by decide) ?_
      exact vx_ret (k_iret hx hb hr hlocks hS dL_isBehind_24 (Or.inr ⟨_, hJ9, rfl, hP.sub [0, 1, 2] rfl, hD.sub [0, 1, 2] (by decide) rfl⟩))
    · exact absurd hb9 (by decide)
  · obtain ⟨r, hJ9, rfl, hP1, hD1⟩ := hp
    obtain ⟨hP, hD⟩ := va_join (wr := [(o, .inr (3, [.long vn, sr]))]) (wc := [(x, .inr (2, [.ref n, .int kn, .int ch])), (n, .inl (cJ, 8, .inr (.inl f)))]) (w1 := [(x, .inr (2, [.ref n, .int r.2.1, .int r.2.2.1])), (n, .inl (cJ, 8, .inr (.inl r.2.2.2)))]) hP hD [0, 1] [2] rfl rfl (by decide) (by decide) hk hFc hP1 hD1
    have hP : va_P D vwCl [(o, .inr (3, [.long vn, sr])), (x, .inr (2, [.ref n, .int r.2.1, .int r.2.2.1])), (n, .inl (cJ, 8, .inr (.inl r.2.2.2)))] H := hP
    have hD : va_D A [(o, .inr (3, [.long vn, sr])), (x, .inr (2, [.ref n, .int r.2.1, .int r.2.2.1])), (n, .inl (cJ, 8, .inr (.inl r.2.2.2)))] := hD
    refine W.eq (g2 := F0 m 7 ls [.int r.1, .ref o]) rfl ?_
    refine lv_if_eq (tgt := 14) hx hb dL_isBehind_7 (by decide) (fun c_2 => ?_) (fun c_2 => ?_)
    · have hbo : (if r.1 = 0 then (0 : Int64) else 1) = 0 := if_pos c_2
      refine lv_lconst (v := 0) hx hb dL_isBehind_14 (by decide) ?_
      refine va_putN (D := D) (ci := 3) (v := .long 0) (ty := .long) (C := RX1) (T := TX1) (N := 2) hx hb hts iw_L_isBehind_X1 tyX1 tyX1_ok nmX1 hown hK hP hD hS 0 rfl rfl 0 (by decide) (va_Nw.use rfl hN.2.1) (fun _ h9 => h9) rfl (by decide +kernel) rfl rfl (Nat.le_of_ble_eq_true rfl) dL_isBehind_15 (fun H locs hP hD hS => ?_)
      have hP : va_P D vwCl [(o, .inr (3, [.long 0, sr])), (x, .inr (2, [.ref n, .int r.2.1, .int r.2.2.1])), (n, .inl (cJ, 8, .inr (.inl r.2.2.2)))] H := hP
      have hD : va_D A [(o, .inr (3, [.long 0, sr])), (x, .inr (2, [.ref n, .int r.2.1, .int r.2.2.1])), (n, .inl (cJ, 8, .inr (.inl r.2.2.2)))] := hD
      refine lv_goto (tgt := 25) hx hb dL_isBehind_18 (by decide) ?_
      refine lv_iconst (v := 0) hx hb dL_isBehind_25 (by decide) ?_
      exact vx_ret (k_iret hx hb hr hlocks hS dL_isBehind_26 (Or.inl ⟨_, hJ9, rfl, by rw [show (fun z : Int32 => if z = 0 then (0 : Int64) else 1) r.1 = _ from hbo]; exact hP.sub [1, 2, 0] rfl, by rw [show (fun z : Int32 => if z = 0 then (0 : Int64) else 1) r.1 = _ from hbo]; exact hD.sub [1, 2, 0] (by decide) rfl⟩))
    · have hbo : (if r.1 = 0 then (0 : Int64) else 1) = 1 := if_neg c_2
      refine lv_lconst (v := 1) hx hb dL_isBehind_10 (by decide) ?_
      refine lv_goto (tgt := 15) hx hb dL_isBehind_11 (by decide) ?_
      refine va_putN (D := D) (ci := 3) (v := .long 1) (ty := .long) (C := RX1) (T := TX1) (N := 2) hx hb hts iw_L_isBehind_X1 tyX1 tyX1_ok nmX1 hown hK hP hD hS 0 rfl rfl 0 (by decide) (va_Nw.use rfl hN.2.1) (fun _ h9 => h9) rfl (by decide +kernel) rfl rfl (Nat.le_of_ble_eq_true rfl) dL_isBehind_15 (fun H locs hP hD hS => ?_)
      have hP : va_P D vwCl [(o, .inr (3, [.long 1, sr])), (x, .inr (2, [.ref n, .int r.2.1, .int r.2.2.1])), (n, .inl (cJ, 8, .inr (.inl r.2.2.2)))] H := hP
      have hD : va_D A [(o, .inr (3, [.long 1, sr])), (x, .inr (2, [.ref n, .int r.2.1, .int r.2.2.1])), (n, .inl (cJ, 8, .inr (.inl r.2.2.2)))] := hD
      refine lv_goto (tgt := 25) hx hb dL_isBehind_18 (by decide) ?_
      refine lv_iconst (v := 0) hx hb dL_isBehind_25 (by decide) ?_
      exact vx_ret (k_iret hx hb hr hlocks hS dL_isBehind_26 (Or.inl ⟨_, hJ9, rfl, by rw [show (fun z : Int32 => if z = 0 then (0 : Int64) else 1) r.1 = _ from hbo]; exact hP.sub [1, 2, 0] rfl, by rw [show (fun z : Int32 => if z = 0 then (0 : Int64) else 1) r.1 = _ from hbo]; exact hD.sub [1, 2, 0] (by decide) rfl⟩))
abbrev rm_L_areAlike : Room := { frames := 9, cells := 2, slots := 12, locals := 152 }
theorem iw_L_areAlike_X1 : ∀ w ∈ wsX10, w ∈ wsL_areAlike := by decide +kernel
set_option maxHeartbeats 4000000 in
set_option maxRecDepth 100000 in
theorem c_L_areAlike (l : Launch) (hl9 : l.stackTraces = false) (D : va_G) (cB cJ : ClassId) (Hp : Heap) (x n o : Nat) (kn ch : Int32) (f : Nat → Int64) (vn : Int64) (sr : Value) (a1 : Int32) (a2 : Int32) (hP : va_P D vwCl (wC x n cJ kn ch f ++ wO o vn sr) Hp) (hD9 : va_D (fun _ => True) (wC x n cJ kn ch f ++ wO o vn sr)) : vx_Met l yL_areAlike wsL_areAlike rm_L_areAlike (kPreN D cB cJ (va_A (wC x n cJ kn ch f ++ wO o vn sr) Hp.size) Hp [.ref x, .int a1, .int a2, .ref o]) (kQ (kLw D x n o cJ (va_A (wC x n cJ kn ch f ++ wO o vn sr) Hp.size) k_cd (fun z : Int32 => if z = 0 then (0 : Int64) else 1) (j_X0_areAlike kn ch f a1 a2) kn ch f vn sr) (va_A (wC x n cJ kn ch f ++ wO o vn sr) Hp.size)) (kX kNX (va_A (wC x n cJ kn ch f ++ wO o vn sr) Hp.size)) 2 12 (va_A (wC x n cJ kn ch f ++ wO o vn sr) Hp.size) := by
  refine vx_ofWH (cc := cL_areAlike) (maxL := 5) (ret := (some .int)) (hh := [(0, 18, 21, 19)]) (by decide) rfl ?_
  intro p e s m args below meth c s₁ B hml hv
  obtain ⟨rfl, hHp, hE, hN⟩ := hv
  subst hHp
  have hx := B.exec
  have hb := B.bytes
  have hr := B.returns
  have hts := atoms_spec (ws := wsL_areAlike) B.pre
  have hown : s.vm.findClass RL = some m.cls := findClass_of_methodNamed B.named
  have hlocks := B.notSynchronized
  have hK := hE.1
  have hD := hD9.self (sz := s.heap.size)
  generalize hAe : va_A (wC x n cJ kn ch f ++ wO o vn sr) s.heap.size = A at hE hD ⊢
  have hA : ∀ q : Nat, s.heap.size ≤ q → A q := fun q h => by rw [← hAe]; exact Or.inr h
  have htb := vx_table (x := yL_areAlike) B (hts _ List.mem_cons_self)
  have hS : va_S A s.heap s.heap [] := va_S.rf
  have hl := lv_entry ([.ref x, .int a1, .int a2, .ref o]) (n := 5) (Nat.le_of_ble_eq_true rfl)
  rw [lg_entry_eq]
  generalize (lg_sl ([.ref x, .int a1, .int a2, .ref o]) ++ List.replicate (5 - (lg_sl ([.ref x, .int a1, .int a2, .ref o])).length) Slot.unset).toArray = ls at hl ⊢
  have hl : lv_has ls 5 [(0, .ref x), (1, .int a1), (2, .int a2), (3, .ref o)] := hl
  refine lv_aload_n hx hb dL_areAlike_0 rfl (lv_at hl 3 rfl) ?_
  refine lv_aload_n hx hb dL_areAlike_1 rfl (lv_at hl 0 rfl) ?_
  refine lv_iload_n hx hb dL_areAlike_2 rfl (lv_at hl 1 rfl) ?_
  refine lv_iload_n hx hb dL_areAlike_3 rfl (lv_at hl 2 rfl) ?_
  have hFc := va_free (wc := [(x, .inr (2, [.ref n, .int kn, .int ch])), (n, .inl (cJ, 8, .inr (.inl f)))]) hD hS hA [0, 1] rfl
  refine kx_go (vx_runV (As := [.int a1, .int a2]) (rest := [.ref o]) ⟨hx, hb, hml, hown, hts⟩ (c_X0_areAlike l hl9 D cB cJ _ x n kn ch f (hP.sub [0, 1] rfl) ((hD.sub [0, 1] (by decide) rfl).weaken (fun _ _ _ _ => trivial)) a1 a2) (cwV 2 hts gL_areAlike_X0_areAlike rfl rfl rfl (by decide +kernel) ⟨(Nat.le_of_ble_eq_true rfl), (Nat.le_of_ble_eq_true rfl)⟩) (k_preV hE hS hFc (va_recv hK hP (ci := 2) (q0 := 0) rfl rfl)) rfl rfl hl.1 rfl (lv_room (Nat.le_of_ble_eq_true rfl)) dL_areAlike_4 ⟨(Nat.le_of_ble_eq_true rfl), (Nat.le_of_ble_eq_true rfl)⟩) hS (fun q _ h => hFc q h) hFc (fun E ce q9 H locs hp hz hk hS hce hcv hcl => ?_) (fun v H locs hp hz hk hS => ?_)
  · obtain ⟨hJ9, -, hk2⟩ := hp
    have hP := k_keepP hP hk2
    have hP : va_P D vwCl [(x, .inr (2, [.ref n, .int kn, .int ch])), (n, .inl (cJ, 8, .inr (.inl f))), (o, .inr (3, [.long vn, sr]))] H := hP
    have hD : va_D A [(x, .inr (2, [.ref n, .int kn, .int ch])), (n, .inl (cJ, 8, .inr (.inl f))), (o, .inr (3, [.long vn, sr]))] := hD
    rcases k_er_X0_areAlike kn ch f a1 a2 _ hJ9 with rfl | ⟨hb9, -⟩
    · refine vx_catch (name := "java/lang/IndexOutOfBoundsException") hown [] ⟨0, 18, 21, 19⟩ [] (htb.trans rfl) (fun _ h => absurd h List.not_mem_nil) rfl (by decide) (hts (.classLink RL 19 "java/lang/IndexOutOfBoundsException") (by decide +kernel)) (va_Nw.use rfl hE.2.2.2.1.1) hce hcv hcl ?_
      refine lv_astore (lv' := [(4, .ref q9), (0, .ref x), (1, .int a1), (2, .int a2), (3, .ref o)]) hx hb dL_areAlike_21 hl (by decide) rfl (fun ls hl => ?_)
      refine lv_iconst (v := 1) hx hb dL_areAlike_23 (by decide) ?_
      exact vx_ret (k_iret hx hb hr hlocks hS dL_areAlike_24 (Or.inr ⟨_, hJ9, rfl, hP.sub [0, 1, 2] rfl, hD.sub [0, 1, 2] (by decide) rfl⟩))
    · exact absurd hb9 (by decide)
  · obtain ⟨r, hJ9, rfl, hP1, hD1⟩ := hp
    obtain ⟨hP, hD⟩ := va_join (wr := [(o, .inr (3, [.long vn, sr]))]) (wc := [(x, .inr (2, [.ref n, .int kn, .int ch])), (n, .inl (cJ, 8, .inr (.inl f)))]) (w1 := [(x, .inr (2, [.ref n, .int r.2.1, .int r.2.2.1])), (n, .inl (cJ, 8, .inr (.inl r.2.2.2)))]) hP hD [0, 1] [2] rfl rfl (by decide) (by decide) hk hFc hP1 hD1
    have hP : va_P D vwCl [(o, .inr (3, [.long vn, sr])), (x, .inr (2, [.ref n, .int r.2.1, .int r.2.2.1])), (n, .inl (cJ, 8, .inr (.inl r.2.2.2)))] H := hP
    have hD : va_D A [(o, .inr (3, [.long vn, sr])), (x, .inr (2, [.ref n, .int r.2.1, .int r.2.2.1])), (n, .inl (cJ, 8, .inr (.inl r.2.2.2)))] := hD
    refine W.eq (g2 := F0 m 7 ls [.int r.1, .ref o]) rfl ?_
    refine lv_if_eq (tgt := 14) hx hb dL_areAlike_7 (by decide) (fun c_2 => ?_) (fun c_2 => ?_)
    · have hbo : (if r.1 = 0 then (0 : Int64) else 1) = 0 := if_pos c_2
      refine lv_lconst (v := 0) hx hb dL_areAlike_14 (by decide) ?_
      refine va_putN (D := D) (ci := 3) (v := .long 0) (ty := .long) (C := RX1) (T := TX1) (N := 2) hx hb hts iw_L_areAlike_X1 tyX1 tyX1_ok nmX1 hown hK hP hD hS 0 rfl rfl 0 (by decide) (va_Nw.use rfl hN.2.1) (fun _ h9 => h9) rfl (by decide +kernel) rfl rfl (Nat.le_of_ble_eq_true rfl) dL_areAlike_15 (fun H locs hP hD hS => ?_)
      have hP : va_P D vwCl [(o, .inr (3, [.long 0, sr])), (x, .inr (2, [.ref n, .int r.2.1, .int r.2.2.1])), (n, .inl (cJ, 8, .inr (.inl r.2.2.2)))] H := hP
      have hD : va_D A [(o, .inr (3, [.long 0, sr])), (x, .inr (2, [.ref n, .int r.2.1, .int r.2.2.1])), (n, .inl (cJ, 8, .inr (.inl r.2.2.2)))] := hD
      refine lv_goto (tgt := 25) hx hb dL_areAlike_18 (by decide) ?_
      refine lv_iconst (v := 0) hx hb dL_areAlike_25 (by decide) ?_
      exact vx_ret (k_iret hx hb hr hlocks hS dL_areAlike_26 (Or.inl ⟨_, hJ9, rfl, by rw [show (fun z : Int32 => if z = 0 then (0 : Int64) else 1) r.1 = _ from hbo]; exact hP.sub [1, 2, 0] rfl, by rw [show (fun z : Int32 => if z = 0 then (0 : Int64) else 1) r.1 = _ from hbo]; exact hD.sub [1, 2, 0] (by decide) rfl⟩))
    · have hbo : (if r.1 = 0 then (0 : Int64) else 1) = 1 := if_neg c_2
      refine lv_lconst (v := 1) hx hb dL_areAlike_10 (by decide) ?_
      refine lv_goto (tgt := 15) hx hb dL_areAlike_11 (by decide) ?_
      refine va_putN (D := D) (ci := 3) (v := .long 1) (ty := .long) (C := RX1) (T := TX1) (N := 2) hx hb hts iw_L_areAlike_X1 tyX1 tyX1_ok nmX1 hown hK hP hD hS 0 rfl rfl 0 (by decide) (va_Nw.use rfl hN.2.1) (fun _ h9 => h9) rfl (by decide +kernel) rfl rfl (Nat.le_of_ble_eq_true rfl) dL_areAlike_15 (fun H locs hP hD hS => ?_)
      have hP : va_P D vwCl [(o, .inr (3, [.long 1, sr])), (x, .inr (2, [.ref n, .int r.2.1, .int r.2.2.1])), (n, .inl (cJ, 8, .inr (.inl r.2.2.2)))] H := hP
      have hD : va_D A [(o, .inr (3, [.long 1, sr])), (x, .inr (2, [.ref n, .int r.2.1, .int r.2.2.1])), (n, .inl (cJ, 8, .inr (.inl r.2.2.2)))] := hD
      refine lv_goto (tgt := 25) hx hb dL_areAlike_18 (by decide) ?_
      refine lv_iconst (v := 0) hx hb dL_areAlike_25 (by decide) ?_
      exact vx_ret (k_iret hx hb hr hlocks hS dL_areAlike_26 (Or.inl ⟨_, hJ9, rfl, by rw [show (fun z : Int32 => if z = 0 then (0 : Int64) else 1) r.1 = _ from hbo]; exact hP.sub [1, 2, 0] rfl, by rw [show (fun z : Int32 => if z = 0 then (0 : Int64) else 1) r.1 = _ from hbo]; exact hD.sub [1, 2, 0] (by decide) rfl⟩))
abbrev rm_L_between : Room := { frames := 9, cells := 27, slots := 2772, locals := 239 }
theorem iw_L_between_X1 : ∀ w ∈ wsX10, w ∈ wsL_between := by decide +kernel
set_option maxHeartbeats 4000000 in
set_option maxRecDepth 100000 in
theorem c_L_between (l : Launch) (hl9 : l.stackTraces = false) (D : va_G) (cB cJ : ClassId) (Hp : Heap) (x n o : Nat) (kn ch : Int32) (f : Nat → Int64) (vn : Int64) (sr : Value) (a1 : Int32) (a2 : Int32) (a3 : Int32) (hP : va_P D vwCl (wC x n cJ kn ch f ++ wO o vn sr) Hp) (hD9 : va_D (fun _ => True) (wC x n cJ kn ch f ++ wO o vn sr)) : vx_Met l yL_between wsL_between rm_L_between (kPreN D cB cJ (va_A (wC x n cJ kn ch f ++ wO o vn sr) Hp.size) Hp [.ref x, .int a1, .int a2, .int a3, .ref o]) (kQ (kLs D x n o cJ (va_A (wC x n cJ kn ch f ++ wO o vn sr) Hp.size) k_cd (j_X0_between a1 a2 a3) kn ch f vn sr) (va_A (wC x n cJ kn ch f ++ wO o vn sr) Hp.size)) (kX kNX (va_A (wC x n cJ kn ch f ++ wO o vn sr) Hp.size)) 27 2772 (va_A (wC x n cJ kn ch f ++ wO o vn sr) Hp.size) := by
  refine vx_ofWH (cc := cL_between) (maxL := 6) (ret := (some .int)) (hh := [(0, 12, 15, 19), (0, 12, 19, 21)]) (by decide) rfl ?_
  intro p e s m args below meth c s₁ B hml hv
  obtain ⟨rfl, hHp, hE, hN⟩ := hv
  subst hHp
  have hx := B.exec
  have hb := B.bytes
  have hr := B.returns
  have hts := atoms_spec (ws := wsL_between) B.pre
  have hown : s.vm.findClass RL = some m.cls := findClass_of_methodNamed B.named
  have hlocks := B.notSynchronized
  have hK := hE.1
  have hD := hD9.self (sz := s.heap.size)
  generalize hAe : va_A (wC x n cJ kn ch f ++ wO o vn sr) s.heap.size = A at hE hD ⊢
  have hA : ∀ q : Nat, s.heap.size ≤ q → A q := fun q h => by rw [← hAe]; exact Or.inr h
  have htb := vx_table (x := yL_between) B (hts _ List.mem_cons_self)
  have hS : va_S A s.heap s.heap [] := va_S.rf
  have hl := lv_entry ([.ref x, .int a1, .int a2, .int a3, .ref o]) (n := 6) (Nat.le_of_ble_eq_true rfl)
  rw [lg_entry_eq]
  generalize (lg_sl ([.ref x, .int a1, .int a2, .int a3, .ref o]) ++ List.replicate (6 - (lg_sl ([.ref x, .int a1, .int a2, .int a3, .ref o])).length) Slot.unset).toArray = ls at hl ⊢
  have hl : lv_has ls 6 [(0, .ref x), (1, .int a1), (2, .int a2), (3, .int a3), (4, .ref o)] := hl
  refine lv_aload hx hb dL_between_0 (lv_at hl 4 rfl) ?_
  refine lv_aload_n hx hb dL_between_2 rfl (lv_at hl 0 rfl) ?_
  refine lv_iload_n hx hb dL_between_3 rfl (lv_at hl 1 rfl) ?_
  refine lv_iload_n hx hb dL_between_4 rfl (lv_at hl 2 rfl) ?_
  refine lv_iload_n hx hb dL_between_5 rfl (lv_at hl 3 rfl) ?_
  have hFc := va_free (wc := [(x, .inr (2, [.ref n, .int kn, .int ch])), (n, .inl (cJ, 8, .inr (.inl f)))]) hD hS hA [0, 1] rfl
  refine kx_go (vx_runV (As := [.int a1, .int a2, .int a3]) (rest := [.ref o]) ⟨hx, hb, hml, hown, hts⟩ (c_X0_between l hl9 D cB cJ _ x n kn ch f a1 a2 a3 (hP.sub [0, 1] rfl) ((hD.sub [0, 1] (by decide) rfl).weaken (fun _ _ _ _ => trivial))) (cwV 3 hts gL_between_X0_between rfl rfl rfl (by decide +kernel) ⟨(Nat.le_of_ble_eq_true rfl), (Nat.le_of_ble_eq_true rfl)⟩) (k_preV hE hS hFc (va_recv hK hP (ci := 2) (q0 := 0) rfl rfl)) rfl rfl hl.1 rfl (lv_room (Nat.le_of_ble_eq_true rfl)) dL_between_6 ⟨(Nat.le_of_ble_eq_true rfl), (Nat.le_of_ble_eq_true rfl)⟩) hS (fun q _ h => hFc q h) hFc (fun E ce q9 H locs hp hz hk hS hce hcv hcl => ?_) (fun v H locs hp hz hk hS => ?_)
  · obtain ⟨hJ9, -, hk2⟩ := hp
    have hP := k_keepP hP hk2
    have hP : va_P D vwCl [(x, .inr (2, [.ref n, .int kn, .int ch])), (n, .inl (cJ, 8, .inr (.inl f))), (o, .inr (3, [.long vn, sr]))] H := hP
    have hD : va_D A [(x, .inr (2, [.ref n, .int kn, .int ch])), (n, .inl (cJ, 8, .inr (.inl f))), (o, .inr (3, [.long vn, sr]))] := hD
    rcases k_er_X0_between a1 a2 a3 _ hJ9 with rfl | ⟨-, rfl⟩
    · refine vx_catch (name := "java/lang/IndexOutOfBoundsException") hown [] ⟨0, 12, 15, 19⟩ [⟨0, 12, 19, 21⟩] (htb.trans rfl) (fun _ h => absurd h List.not_mem_nil) rfl (by decide) (hts (.classLink RL 19 "java/lang/IndexOutOfBoundsException") (by decide +kernel)) (va_Nw.use rfl hE.2.2.2.1.1) hce hcv hcl ?_
      refine lv_astore (lv' := [(5, .ref q9), (0, .ref x), (1, .int a1), (2, .int a2), (3, .int a3), (4, .ref o)]) hx hb dL_between_15 hl (by decide) rfl (fun ls hl => ?_)
      refine lv_iconst (v := 1) hx hb dL_between_17 (by decide) ?_
      exact vx_ret (k_iret hx hb hr hlocks hS dL_between_18 (Or.inr ⟨_, hJ9, rfl, hP.sub [0, 1, 2] rfl, hD.sub [0, 1, 2] (by decide) rfl⟩))
    · refine vx_catch (name := "java/lang/IllegalArgumentException") hown [⟨0, 12, 15, 19⟩] ⟨0, 12, 19, 21⟩ [] (htb.trans rfl) (fun z hz => Or.inr (by obtain rfl := List.mem_singleton.mp hz; exact ⟨by decide, "java/lang/IndexOutOfBoundsException", hts (.classLink RL 19 "java/lang/IndexOutOfBoundsException") (by decide +kernel), hN.1⟩)) rfl (by decide) (hts (.classLink RL 21 "java/lang/IllegalArgumentException") (by decide +kernel)) (va_Nw.use rfl hE.2.2.2.1.2.1) hce hcv hcl ?_
      refine lv_astore (lv' := [(5, .ref q9), (0, .ref x), (1, .int a1), (2, .int a2), (3, .int a3), (4, .ref o)]) hx hb dL_between_19 hl (by decide) rfl (fun ls hl => ?_)
      refine lv_iconst (v := 2) hx hb dL_between_21 (by decide) ?_
      exact vx_ret (k_iret hx hb hr hlocks hS dL_between_22 (Or.inr ⟨_, hJ9, rfl, hP.sub [0, 1, 2] rfl, hD.sub [0, 1, 2] (by decide) rfl⟩))
  · obtain ⟨hJ9, q, nn, u, gg, hn60, rfl, hP1, hD1, -⟩ := hp
    have hP1 : va_P D vwCl ([(x, .inr (2, [.ref n, .int kn, .int ch])), (n, .inl (cJ, 8, .inr (.inl f)))]) H := hP1.sub [0, 1] rfl
    have hD1 : va_D _ ([(x, .inr (2, [.ref n, .int kn, .int ch])), (n, .inl (cJ, 8, .inr (.inl f)))]) := hD1.sub [0, 1] (by decide) rfl
    obtain ⟨hP, hD⟩ := va_join (wr := [(o, .inr (3, [.long vn, sr]))]) (wc := [(x, .inr (2, [.ref n, .int kn, .int ch])), (n, .inl (cJ, 8, .inr (.inl f)))]) (w1 := [(x, .inr (2, [.ref n, .int kn, .int ch])), (n, .inl (cJ, 8, .inr (.inl f)))]) hP hD [0, 1] [2] rfl rfl (by decide) (by decide) hk hFc hP1 hD1
    have hP : va_P D vwCl [(o, .inr (3, [.long vn, sr])), (x, .inr (2, [.ref n, .int kn, .int ch])), (n, .inl (cJ, 8, .inr (.inl f)))] H := hP
    have hD : va_D A [(o, .inr (3, [.long vn, sr])), (x, .inr (2, [.ref n, .int kn, .int ch])), (n, .inl (cJ, 8, .inr (.inl f)))] := hD
    refine W.eq (g2 := F0 m 9 ls [.ref q, .ref o]) rfl ?_
    refine va_putN (D := D) (ci := 3) (v := .ref q) (ty := (.object "java/lang/String")) (C := RX1) (T := TX1) (N := 2) hx hb hts iw_L_between_X1 tyX1 tyX1_ok nmX1 hown hK hP hD hS 0 rfl rfl 1 (by decide) (va_Nw.use rfl hN.2.2) (fun _ h9 => h9) rfl (by decide +kernel) rfl rfl (Nat.le_of_ble_eq_true rfl) dL_between_9 (fun H locs hP hD hS => ?_)
    have hP : va_P D vwCl [(o, .inr (3, [.long vn, .ref q])), (x, .inr (2, [.ref n, .int kn, .int ch])), (n, .inl (cJ, 8, .inr (.inl f)))] H := hP
    have hD : va_D A [(o, .inr (3, [.long vn, .ref q])), (x, .inr (2, [.ref n, .int kn, .int ch])), (n, .inl (cJ, 8, .inr (.inl f)))] := hD
    refine lv_goto (tgt := 23) hx hb dL_between_12 (by decide) ?_
    refine lv_iconst (v := 0) hx hb dL_between_23 (by decide) ?_
    exact vx_ret (k_iret hx hb hr hlocks hS dL_between_24 (Or.inl ⟨hJ9, rfl, _, hP.sub [1, 2, 0] rfl, hD.sub [1, 2, 0] (by decide) rfl⟩))
abbrev rm_L_house : Room := { frames := 8, cells := 1, slots := 6, locals := 131 }
theorem iw_L_house_X1 : ∀ w ∈ wsX10, w ∈ wsL_house := by decide +kernel
set_option maxHeartbeats 4000000 in
set_option maxRecDepth 100000 in
theorem c_L_house (l : Launch) (hl9 : l.stackTraces = false) (D : va_G) (cB cJ : ClassId) (Hp : Heap) (x n o : Nat) (kn ch : Int32) (f : Nat → Int64) (vn : Int64) (sr : Value) (a1 : Int32) (hP : va_P D vwCl (wC x n cJ kn ch f ++ wO o vn sr) Hp) (hD9 : va_D (fun _ => True) (wC x n cJ kn ch f ++ wO o vn sr)) : vx_Met l yL_house wsL_house rm_L_house (kPreN D cB cJ (va_A (wC x n cJ kn ch f ++ wO o vn sr) Hp.size) Hp [.ref x, .int a1, .ref o]) (kQ (kLw D x n o cJ (va_A (wC x n cJ kn ch f ++ wO o vn sr) Hp.size) k_c1 (fun z : Int32 => z.toInt64) (j_X0_house kn ch f a1) kn ch f vn sr) (va_A (wC x n cJ kn ch f ++ wO o vn sr) Hp.size)) (kX kNX (va_A (wC x n cJ kn ch f ++ wO o vn sr) Hp.size)) 1 6 (va_A (wC x n cJ kn ch f ++ wO o vn sr) Hp.size) := by
  refine vx_ofWH (cc := cL_house) (maxL := 4) (ret := (some .int)) (hh := [(0, 10, 13, 21)]) (by decide) rfl ?_
  intro p e s m args below meth c s₁ B hml hv
  obtain ⟨rfl, hHp, hE, hN⟩ := hv
  subst hHp
  have hx := B.exec
  have hb := B.bytes
  have hr := B.returns
  have hts := atoms_spec (ws := wsL_house) B.pre
  have hown : s.vm.findClass RL = some m.cls := findClass_of_methodNamed B.named
  have hlocks := B.notSynchronized
  have hK := hE.1
  have hD := hD9.self (sz := s.heap.size)
  generalize hAe : va_A (wC x n cJ kn ch f ++ wO o vn sr) s.heap.size = A at hE hD ⊢
  have hA : ∀ q : Nat, s.heap.size ≤ q → A q := fun q h => by rw [← hAe]; exact Or.inr h
  have htb := vx_table (x := yL_house) B (hts _ List.mem_cons_self)
  have hS : va_S A s.heap s.heap [] := va_S.rf
  have hl := lv_entry ([.ref x, .int a1, .ref o]) (n := 4) (Nat.le_of_ble_eq_true rfl)
  rw [lg_entry_eq]
  generalize (lg_sl ([.ref x, .int a1, .ref o]) ++ List.replicate (4 - (lg_sl ([.ref x, .int a1, .ref o])).length) Slot.unset).toArray = ls at hl ⊢
  have hl : lv_has ls 4 [(0, .ref x), (1, .int a1), (2, .ref o)] := hl
  refine lv_aload_n hx hb dL_house_0 rfl (lv_at hl 2 rfl) ?_
  refine lv_aload_n hx hb dL_house_1 rfl (lv_at hl 0 rfl) ?_
  refine lv_iload_n hx hb dL_house_2 rfl (lv_at hl 1 rfl) ?_
  have hFc := va_free (wc := [(x, .inr (2, [.ref n, .int kn, .int ch])), (n, .inl (cJ, 8, .inr (.inl f)))]) hD hS hA [0, 1] rfl
  refine kx_go (vx_runV (As := [.int a1]) (rest := [.ref o]) ⟨hx, hb, hml, hown, hts⟩ (c_X0_house l hl9 D cB cJ _ x n kn ch f (hP.sub [0, 1] rfl) ((hD.sub [0, 1] (by decide) rfl).weaken (fun _ _ _ _ => trivial)) a1) (cwV 1 hts gL_house_X0_house rfl rfl rfl (by decide +kernel) ⟨(Nat.le_of_ble_eq_true rfl), (Nat.le_of_ble_eq_true rfl)⟩) (k_preV hE hS hFc (va_recv hK hP (ci := 2) (q0 := 0) rfl rfl)) rfl rfl hl.1 rfl (lv_room (Nat.le_of_ble_eq_true rfl)) dL_house_3 ⟨(Nat.le_of_ble_eq_true rfl), (Nat.le_of_ble_eq_true rfl)⟩) hS (fun q _ h => hFc q h) hFc (fun E ce q9 H locs hp hz hk hS hce hcv hcl => ?_) (fun v H locs hp hz hk hS => ?_)
  · obtain ⟨hJ9, -, hk2⟩ := hp
    have hP := k_keepP hP hk2
    have hP : va_P D vwCl [(x, .inr (2, [.ref n, .int kn, .int ch])), (n, .inl (cJ, 8, .inr (.inl f))), (o, .inr (3, [.long vn, sr]))] H := hP
    have hD : va_D A [(x, .inr (2, [.ref n, .int kn, .int ch])), (n, .inl (cJ, 8, .inr (.inl f))), (o, .inr (3, [.long vn, sr]))] := hD
    obtain rfl := k_er_X0_house kn ch f a1 _ hJ9
    refine vx_catch (name := "java/lang/IllegalArgumentException") hown [] ⟨0, 10, 13, 21⟩ [] (htb.trans rfl) (fun _ h => absurd h List.not_mem_nil) rfl (by decide) (hts (.classLink RL 21 "java/lang/IllegalArgumentException") (by decide +kernel)) (va_Nw.use rfl hE.2.2.2.1.2.1) hce hcv hcl ?_
    refine lv_astore_n (lv' := [(3, .ref q9), (0, .ref x), (1, .int a1), (2, .ref o)]) hx hb dL_house_13 rfl hl (by decide) rfl (fun ls hl => ?_)
    refine lv_iconst (v := 1) hx hb dL_house_14 (by decide) ?_
    exact vx_ret (k_iret hx hb hr hlocks hS dL_house_15 (Or.inr ⟨_, hJ9, rfl, hP.sub [0, 1, 2] rfl, hD.sub [0, 1, 2] (by decide) rfl⟩))
  · obtain ⟨r, hJ9, rfl, hP1, hD1⟩ := hp
    obtain ⟨hP, hD⟩ := va_join (wr := [(o, .inr (3, [.long vn, sr]))]) (wc := [(x, .inr (2, [.ref n, .int kn, .int ch])), (n, .inl (cJ, 8, .inr (.inl f)))]) (w1 := [(x, .inr (2, [.ref n, .int r.2.1, .int r.2.2.1])), (n, .inl (cJ, 8, .inr (.inl r.2.2.2)))]) hP hD [0, 1] [2] rfl rfl (by decide) (by decide) hk hFc hP1 hD1
    have hP : va_P D vwCl [(o, .inr (3, [.long vn, sr])), (x, .inr (2, [.ref n, .int r.2.1, .int r.2.2.1])), (n, .inl (cJ, 8, .inr (.inl r.2.2.2)))] H := hP
    have hD : va_D A [(o, .inr (3, [.long vn, sr])), (x, .inr (2, [.ref n, .int r.2.1, .int r.2.2.1])), (n, .inl (cJ, 8, .inr (.inl r.2.2.2)))] := hD
    refine W.eq (g2 := F0 m 6 ls [.int r.1, .ref o]) rfl ?_
    refine lv_i2l (v := r.1.toInt64) hx hb dL_house_6 rfl ?_
    refine va_putN (D := D) (ci := 3) (v := .long r.1.toInt64) (ty := .long) (C := RX1) (T := TX1) (N := 2) hx hb hts iw_L_house_X1 tyX1 tyX1_ok nmX1 hown hK hP hD hS 0 rfl rfl 0 (by decide) (va_Nw.use rfl hN.2.1) (fun _ h9 => h9) rfl (by decide +kernel) rfl rfl (Nat.le_of_ble_eq_true rfl) dL_house_7 (fun H locs hP hD hS => ?_)
    have hP : va_P D vwCl [(o, .inr (3, [.long r.1.toInt64, sr])), (x, .inr (2, [.ref n, .int r.2.1, .int r.2.2.1])), (n, .inl (cJ, 8, .inr (.inl r.2.2.2)))] H := hP
    have hD : va_D A [(o, .inr (3, [.long r.1.toInt64, sr])), (x, .inr (2, [.ref n, .int r.2.1, .int r.2.2.1])), (n, .inl (cJ, 8, .inr (.inl r.2.2.2)))] := hD
    refine lv_goto (tgt := 16) hx hb dL_house_10 (by decide) ?_
    refine lv_iconst (v := 0) hx hb dL_house_16 (by decide) ?_
    exact vx_ret (k_iret hx hb hr hlocks hS dL_house_17 (Or.inl ⟨_, hJ9, rfl, hP.sub [1, 2, 0] rfl, hD.sub [1, 2, 0] (by decide) rfl⟩))
