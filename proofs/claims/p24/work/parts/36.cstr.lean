/-- what Clocksolo's methods leave that answer a new string of a few letters -/
def kPt (D : va_G) (x n : Nat) (cB cJ : ClassId) (A : Nat → Prop) (kn ch : Int32) (f : Nat → Int64) (J : Except String Unit) : Option Value → Heap → Prop := fun v1 H1 => J = .ok () ∧ ∃ (q nn u : Nat) (g : Nat → Int32), nn ≤ 60 ∧ v1 = some (.ref q) ∧ va_P D vwCl (wC x n cJ kn ch f ++ wST q u cB nn g) H1 ∧ va_D A (wC x n cJ kn ch f ++ wST q u cB nn g) ∧ sb_Fit g
abbrev rm_X0_number : Room := { frames := 8, cells := 25, slots := 2760, locals := 216 }
def j_X0_number (a1 : Int32) : Except String Unit := (jNeed (j_X0_needClock a1) (.ok ()))
set_option maxHeartbeats 4000000 in
set_option maxRecDepth 100000 in
theorem c_X0_number (l : Launch) (hl9 : l.stackTraces = false) (D : va_G) (cB cJ : ClassId) (Hp : Heap) (x n : Nat) (kn ch : Int32) (f : Nat → Int64) (a1 : Int32) (hP : va_P D vwCl (wC x n cJ kn ch f) Hp) (hD9 : va_D (fun _ => True) (wC x n cJ kn ch f)) : kV l D cB cJ yX0_number wsX0_number rm_X0_number (va_A (wC x n cJ kn ch f) Hp.size) Hp [.ref x, .int a1] (kPt D x n cB cJ (va_A (wC x n cJ kn ch f) Hp.size) kn ch f (j_X0_number a1)) (kXw (j_X0_number a1) Hp) 25 2760 := by
  refine vx_ofW (cc := cX0_number) (maxL := 2) (ret := (some (.object "java/lang/String"))) (by decide) rfl ?_
  intro p e s m args below meth c s₁ B hml htab hv
  obtain ⟨rfl, hHp, hE⟩ := hv
  subst hHp
  have hx := B.exec
  have hb := B.bytes
  have hr := B.returns
  have hts := atoms_spec (ws := wsX0_number) B.pre
  have hown : s.vm.findClass RX0 = some m.cls := findClass_of_methodNamed B.named
  have hlocks := B.notSynchronized
  have hK := hE.1
  have hD := hD9.self (sz := s.heap.size)
  generalize hAe : va_A (wC x n cJ kn ch f) s.heap.size = A at hE hD ⊢
  have hA : ∀ q : Nat, s.heap.size ≤ q → A q := fun q h => by rw [← hAe]; exact Or.inr h
  have hS : va_S A s.heap s.heap [] := va_S.rf
  have hl := lv_entry ([.ref x, .int a1]) (n := 2) (Nat.le_of_ble_eq_true rfl)
  rw [lg_entry_eq]
  generalize (lg_sl ([.ref x, .int a1]) ++ List.replicate (2 - (lg_sl ([.ref x, .int a1])).length) Slot.unset).toArray = ls at hl ⊢
  have hl : lv_has ls 2 [(0, .ref x), (1, .int a1)] := hl
  have hJ : (j_X0_number a1) = (jNeed (j_X0_needClock a1) (.ok ())) := rfl
  refine lv_iload_n hx hb dX0_number_0 rfl (lv_at hl 1 rfl) ?_
  refine kx_need [.int a1] (rest := []) ⟨hx, hb, hml, hown, hts⟩ (c_X0_needClock l hl9 D cB cJ _ a1) (va_cwS 1 hts gX0_number_X0_needClock rfl rfl rfl (by decide +kernel) ⟨(Nat.le_of_ble_eq_true rfl), (Nat.le_of_ble_eq_true rfl)⟩) hE hS rfl rfl hl.1 (Nat.le_of_ble_eq_true rfl) dX0_number_1 ⟨(Nat.le_of_ble_eq_true rfl), (Nat.le_of_ble_eq_true rfl)⟩ (fun E ce q9 H1 locs1 hn9 hz hk hS1 hce hcv hcl => ?_) (fun locs n_1 hS => ?_)
  · exact vx_out (fun x hx9 => (htab x hx9).elim) hlocks hce hcv hcl (fun t ht _ => ⟨⟨by rw [hJ, jNeed_s hn9], by rw [ht]; exact hz, fun q hq => by rw [ht]; exact hk q hq⟩, hS1.F ht⟩) hS1.2.2 (Nat.le_of_ble_eq_true rfl) (Nat.le_of_ble_eq_true rfl)
  refine lv_aload_n hx hb dX0_number_4 rfl (lv_at hl 0 rfl) ?_
  refine lv_iload_n hx hb dX0_number_5 rfl (lv_at hl 1 rfl) ?_
  refine k_pV [.int a1] (rest := []) ⟨hx, hb, hml, hown, hts⟩ (c_X0_numberOf l D cB cJ _ x n kn ch f (hP.sub [0, 1] rfl) a1) (cwV 1 hts gX0_number_X0_numberOf rfl rfl rfl (by decide +kernel) ⟨(Nat.le_of_ble_eq_true rfl), (Nat.le_of_ble_eq_true rfl)⟩) (va_recv hK hP (ci := 2) (q0 := 0) rfl rfl) hE hS rfl rfl hl.1 (Nat.le_of_ble_eq_true rfl) dX0_number_6 ⟨(Nat.le_of_ble_eq_true rfl), (Nat.le_of_ble_eq_true rfl)⟩ (fun locs hS => ?_)
  refine W.eq (g2 := F0 m 9 ls [.long (j_X0_numberOf kn ch f a1)]) rfl ?_
  have hFc := k_free0 hS hA
  refine k_go (va_runS (As := [.long (j_X0_numberOf kn ch f a1)]) (rest := []) ⟨hx, hb, hml, hown, hts⟩ (c_X0_digits l D cB cJ _ (j_X0_numberOf kn ch f a1)) (va_cwS 1 hts gX0_number_X0_digits rfl rfl rfl (by decide +kernel) ⟨(Nat.le_of_ble_eq_true rfl), (Nat.le_of_ble_eq_true rfl)⟩) (k_preS hE hS hFc) rfl rfl hl.1 rfl (lv_room (Nat.le_of_ble_eq_true rfl)) dX0_number_9 ⟨(Nat.le_of_ble_eq_true rfl), (Nat.le_of_ble_eq_true rfl)⟩) hS (fun q _ h => hFc q h) hFc (fun v9 H locs hp hz hk hS => ?_)
  obtain ⟨q_2, n_2, hn60_2, u_2, f_2, rfl, hP1, hD1, hf_2⟩ := hp
  obtain ⟨hP, hD⟩ := va_join (wr := [(x, .inr (2, [.ref n, .int kn, .int ch])), (n, .inl (cJ, 8, .inr (.inl f)))]) (wc := []) (w1 := [(q_2, .inr (0, [.ref u_2, .int 0, .int 0, .int 0])), (u_2, .inl (cB, n_2, .inl f_2))]) hP hD [] [0, 1] rfl rfl (by decide) (by decide) hk hFc hP1 hD1
  have hP : va_P D vwCl [(x, .inr (2, [.ref n, .int kn, .int ch])), (n, .inl (cJ, 8, .inr (.inl f))), (q_2, .inr (0, [.ref u_2, .int 0, .int 0, .int 0])), (u_2, .inl (cB, n_2, .inl f_2))] H := hP
  have hD : va_D A [(x, .inr (2, [.ref n, .int kn, .int ch])), (n, .inl (cJ, 8, .inr (.inl f))), (q_2, .inr (0, [.ref u_2, .int 0, .int 0, .int 0])), (u_2, .inl (cB, n_2, .inl f_2))] := hD
  refine W.eq (g2 := F0 m 12 ls [.ref q_2]) rfl ?_
  refine W.widen (k := 25) (n := 2760) (Nat.le_of_ble_eq_true rfl) (Nat.le_of_ble_eq_true rfl) ?_
  exact vx_ret (k_aret hx hb hr (Or.inl ⟨_, rfl⟩) hlocks hS dX0_number_12 ⟨by rw [hJ, jNeed_n n_1], _, n_2, _, _, hn60_2, rfl, hP.sub [0, 1, 2, 3] rfl, hD.sub [0, 1, 2, 3] (by decide) rfl, hf_2⟩)
abbrev rm_X0_beyond : Room := { frames := 8, cells := 26, slots := 2766, locals := 216 }
def j_X0_beyond (a1 : Int32) (a2 : Int32) : Except String Unit := (jNeed (j_X0_needClock a1) (jNeed (j_X0_needUnit a2 7) (.ok ())))
set_option maxHeartbeats 4000000 in
set_option maxRecDepth 100000 in
theorem c_X0_beyond (l : Launch) (hl9 : l.stackTraces = false) (D : va_G) (cB cJ : ClassId) (Hp : Heap) (x n : Nat) (kn ch : Int32) (f : Nat → Int64) (a1 : Int32) (a2 : Int32) (hP : va_P D vwCl (wC x n cJ kn ch f) Hp) (hD9 : va_D (fun _ => True) (wC x n cJ kn ch f)) : kV l D cB cJ yX0_beyond wsX0_beyond rm_X0_beyond (va_A (wC x n cJ kn ch f) Hp.size) Hp [.ref x, .int a1, .int a2] (kPt D x n cB cJ (va_A (wC x n cJ kn ch f) Hp.size) kn ch f (j_X0_beyond a1 a2)) (kXw (j_X0_beyond a1 a2) Hp) 26 2766 := by
  refine vx_ofW (cc := cX0_beyond) (maxL := 5) (ret := (some (.object "java/lang/String"))) (by decide) rfl ?_
  intro p e s m args below meth c s₁ B hml htab hv
  obtain ⟨rfl, hHp, hE⟩ := hv
  subst hHp
  have hx := B.exec
  have hb := B.bytes
  have hr := B.returns
  have hts := atoms_spec (ws := wsX0_beyond) B.pre
  have hown : s.vm.findClass RX0 = some m.cls := findClass_of_methodNamed B.named
  have hlocks := B.notSynchronized
  have hK := hE.1
  have hD := hD9.self (sz := s.heap.size)
  generalize hAe : va_A (wC x n cJ kn ch f) s.heap.size = A at hE hD ⊢
  have hA : ∀ q : Nat, s.heap.size ≤ q → A q := fun q h => by rw [← hAe]; exact Or.inr h
  have hS : va_S A s.heap s.heap [] := va_S.rf
  have hl := lv_entry ([.ref x, .int a1, .int a2]) (n := 5) (Nat.le_of_ble_eq_true rfl)
  rw [lg_entry_eq]
  generalize (lg_sl ([.ref x, .int a1, .int a2]) ++ List.replicate (5 - (lg_sl ([.ref x, .int a1, .int a2])).length) Slot.unset).toArray = ls at hl ⊢
  have hl : lv_has ls 5 [(0, .ref x), (1, .int a1), (2, .int a2)] := hl
  have hJ : (j_X0_beyond a1 a2) = (jNeed (j_X0_needClock a1) (jNeed (j_X0_needUnit a2 7) (.ok ()))) := rfl
  refine lv_iload_n hx hb dX0_beyond_0 rfl (lv_at hl 1 rfl) ?_
  refine kx_need [.int a1] (rest := []) ⟨hx, hb, hml, hown, hts⟩ (c_X0_needClock l hl9 D cB cJ _ a1) (va_cwS 1 hts gX0_beyond_X0_needClock rfl rfl rfl (by decide +kernel) ⟨(Nat.le_of_ble_eq_true rfl), (Nat.le_of_ble_eq_true rfl)⟩) hE hS rfl rfl hl.1 (Nat.le_of_ble_eq_true rfl) dX0_beyond_1 ⟨(Nat.le_of_ble_eq_true rfl), (Nat.le_of_ble_eq_true rfl)⟩ (fun E ce q9 H1 locs1 hn9 hz hk hS1 hce hcv hcl => ?_) (fun locs n_1 hS => ?_)
  · exact vx_out (fun x hx9 => (htab x hx9).elim) hlocks hce hcv hcl (fun t ht _ => ⟨⟨by rw [hJ, jNeed_s hn9], by rw [ht]; exact hz, fun q hq => by rw [ht]; exact hk q hq⟩, hS1.F ht⟩) hS1.2.2 (Nat.le_of_ble_eq_true rfl) (Nat.le_of_ble_eq_true rfl)
  refine lv_iload_n hx hb dX0_beyond_4 rfl (lv_at hl 2 rfl) ?_
  refine lv_bipush (v := 7) hx hb dX0_beyond_5 (by decide) ?_
  refine kx_need [.int a2, .int 7] (rest := []) ⟨hx, hb, hml, hown, hts⟩ (c_X0_needUnit l hl9 D cB cJ _ a2 7) (va_cwS 2 hts gX0_beyond_X0_needUnit rfl rfl rfl (by decide +kernel) ⟨(Nat.le_of_ble_eq_true rfl), (Nat.le_of_ble_eq_true rfl)⟩) hE hS rfl rfl hl.1 (Nat.le_of_ble_eq_true rfl) dX0_beyond_7 ⟨(Nat.le_of_ble_eq_true rfl), (Nat.le_of_ble_eq_true rfl)⟩ (fun E ce q9 H1 locs1 hn9 hz hk hS1 hce hcv hcl => ?_) (fun locs n_2 hS => ?_)
  · exact vx_out (fun x hx9 => (htab x hx9).elim) hlocks hce hcv hcl (fun t ht _ => ⟨⟨by rw [hJ, jNeed_n n_1, jNeed_s hn9], by rw [ht]; exact hz, fun q hq => by rw [ht]; exact hk q hq⟩, hS1.F ht⟩) hS1.2.2 (Nat.le_of_ble_eq_true rfl) (Nat.le_of_ble_eq_true rfl)
  refine lv_aload_n hx hb dX0_beyond_10 rfl (lv_at hl 0 rfl) ?_
  refine lv_iload_n hx hb dX0_beyond_11 rfl (lv_at hl 1 rfl) ?_
  refine k_pV [.int a1] (rest := []) ⟨hx, hb, hml, hown, hts⟩ (c_X0_numberOf l D cB cJ _ x n kn ch f (hP.sub [0, 1] rfl) a1) (cwV 1 hts gX0_beyond_X0_numberOf rfl rfl rfl (by decide +kernel) ⟨(Nat.le_of_ble_eq_true rfl), (Nat.le_of_ble_eq_true rfl)⟩) (va_recv hK hP (ci := 2) (q0 := 0) rfl rfl) hE hS rfl rfl hl.1 (Nat.le_of_ble_eq_true rfl) dX0_beyond_12 ⟨(Nat.le_of_ble_eq_true rfl), (Nat.le_of_ble_eq_true rfl)⟩ (fun locs hS => ?_)
  refine W.eq (g2 := F0 m 15 ls [.long (j_X0_numberOf kn ch f a1)]) rfl ?_
  refine lv_lstore_n (lv' := [(3, .long (j_X0_numberOf kn ch f a1)), (0, .ref x), (1, .int a1), (2, .int a2)]) hx hb dX0_beyond_15 rfl hl (by decide) rfl (fun ls hl => ?_)
  refine lv_lload_n hx hb dX0_beyond_16 rfl (lv_at hl 0 rfl) ?_
  refine lv_lload_n hx hb dX0_beyond_17 rfl (lv_at hl 0 rfl) ?_
  refine lv_iload_n hx hb dX0_beyond_18 rfl (lv_at hl 3 rfl) ?_
  refine k_pS [.long (j_X0_numberOf kn ch f a1), .int a2] (rest := [.long (j_X0_numberOf kn ch f a1)]) ⟨hx, hb, hml, hown, hts⟩ (c_X0_cutNumber l D cB cJ _ (j_X0_numberOf kn ch f a1) a2) (va_cwS 2 hts gX0_beyond_X0_cutNumber rfl rfl rfl (by decide +kernel) ⟨(Nat.le_of_ble_eq_true rfl), (Nat.le_of_ble_eq_true rfl)⟩) hE hS rfl rfl hl.1 (Nat.le_of_ble_eq_true rfl) dX0_beyond_19 ⟨(Nat.le_of_ble_eq_true rfl), (Nat.le_of_ble_eq_true rfl)⟩ (fun locs hS => ?_)
  refine W.eq (g2 := F0 m 22 ls [.long (j_X0_cutNumber (j_X0_numberOf kn ch f a1) a2), .long (j_X0_numberOf kn ch f a1)]) rfl ?_
  refine lv_lsub hx hb dX0_beyond_22 ?_
  have hFc := k_free0 hS hA
  refine k_go (va_runS (As := [.long ((j_X0_numberOf kn ch f a1) - (j_X0_cutNumber (j_X0_numberOf kn ch f a1) a2))]) (rest := []) ⟨hx, hb, hml, hown, hts⟩ (c_X0_digits l D cB cJ _ ((j_X0_numberOf kn ch f a1) - (j_X0_cutNumber (j_X0_numberOf kn ch f a1) a2))) (va_cwS 1 hts gX0_beyond_X0_digits rfl rfl rfl (by decide +kernel) ⟨(Nat.le_of_ble_eq_true rfl), (Nat.le_of_ble_eq_true rfl)⟩) (k_preS hE hS hFc) rfl rfl hl.1 rfl (lv_room (Nat.le_of_ble_eq_true rfl)) dX0_beyond_23 ⟨(Nat.le_of_ble_eq_true rfl), (Nat.le_of_ble_eq_true rfl)⟩) hS (fun q _ h => hFc q h) hFc (fun v9 H locs hp hz hk hS => ?_)
  obtain ⟨q_3, n_3, hn60_3, u_3, f_3, rfl, hP1, hD1, hf_3⟩ := hp
  obtain ⟨hP, hD⟩ := va_join (wr := [(x, .inr (2, [.ref n, .int kn, .int ch])), (n, .inl (cJ, 8, .inr (.inl f)))]) (wc := []) (w1 := [(q_3, .inr (0, [.ref u_3, .int 0, .int 0, .int 0])), (u_3, .inl (cB, n_3, .inl f_3))]) hP hD [] [0, 1] rfl rfl (by decide) (by decide) hk hFc hP1 hD1
  have hP : va_P D vwCl [(x, .inr (2, [.ref n, .int kn, .int ch])), (n, .inl (cJ, 8, .inr (.inl f))), (q_3, .inr (0, [.ref u_3, .int 0, .int 0, .int 0])), (u_3, .inl (cB, n_3, .inl f_3))] H := hP
  have hD : va_D A [(x, .inr (2, [.ref n, .int kn, .int ch])), (n, .inl (cJ, 8, .inr (.inl f))), (q_3, .inr (0, [.ref u_3, .int 0, .int 0, .int 0])), (u_3, .inl (cB, n_3, .inl f_3))] := hD
  refine W.eq (g2 := F0 m 26 ls [.ref q_3]) rfl ?_
  refine W.widen (k := 26) (n := 2766) (Nat.le_of_ble_eq_true rfl) (Nat.le_of_ble_eq_true rfl) ?_
  exact vx_ret (k_aret hx hb hr (Or.inl ⟨_, rfl⟩) hlocks hS dX0_beyond_26 ⟨by rw [hJ, jNeed_n n_1, jNeed_n n_2], _, n_3, _, _, hn60_3, rfl, hP.sub [0, 1, 2, 3] rfl, hD.sub [0, 1, 2, 3] (by decide) rfl, hf_3⟩)
abbrev rm_X0_between : Room := { frames := 8, cells := 27, slots := 2772, locals := 216 }
def j_X0_between (a1 : Int32) (a2 : Int32) (a3 : Int32) : Except String Unit := (jNeed (j_X0_needClock a1) (jNeed (j_X0_needClock a2) (jNeed (j_X0_needUnit a3 6) (.ok ()))))
set_option maxHeartbeats 4000000 in
set_option maxRecDepth 100000 in
theorem c_X0_between (l : Launch) (hl9 : l.stackTraces = false) (D : va_G) (cB cJ : ClassId) (Hp : Heap) (x n : Nat) (kn ch : Int32) (f : Nat → Int64) (a1 : Int32) (a2 : Int32) (a3 : Int32) (hP : va_P D vwCl (wC x n cJ kn ch f) Hp) (hD9 : va_D (fun _ => True) (wC x n cJ kn ch f)) : kV l D cB cJ yX0_between wsX0_between rm_X0_between (va_A (wC x n cJ kn ch f) Hp.size) Hp [.ref x, .int a1, .int a2, .int a3] (kPt D x n cB cJ (va_A (wC x n cJ kn ch f) Hp.size) kn ch f (j_X0_between a1 a2 a3)) (kXw (j_X0_between a1 a2 a3) Hp) 27 2772 := by
  refine vx_ofW (cc := cX0_between) (maxL := 4) (ret := (some (.object "java/lang/String"))) (by decide) rfl ?_
  intro p e s m args below meth c s₁ B hml htab hv
  obtain ⟨rfl, hHp, hE⟩ := hv
  subst hHp
  have hx := B.exec
  have hb := B.bytes
  have hr := B.returns
  have hts := atoms_spec (ws := wsX0_between) B.pre
  have hown : s.vm.findClass RX0 = some m.cls := findClass_of_methodNamed B.named
  have hlocks := B.notSynchronized
  have hK := hE.1
  have hD := hD9.self (sz := s.heap.size)
  generalize hAe : va_A (wC x n cJ kn ch f) s.heap.size = A at hE hD ⊢
  have hA : ∀ q : Nat, s.heap.size ≤ q → A q := fun q h => by rw [← hAe]; exact Or.inr h
  have hS : va_S A s.heap s.heap [] := va_S.rf
  have hl := lv_entry ([.ref x, .int a1, .int a2, .int a3]) (n := 4) (Nat.le_of_ble_eq_true rfl)
  rw [lg_entry_eq]
  generalize (lg_sl ([.ref x, .int a1, .int a2, .int a3]) ++ List.replicate (4 - (lg_sl ([.ref x, .int a1, .int a2, .int a3])).length) Slot.unset).toArray = ls at hl ⊢
  have hl : lv_has ls 4 [(0, .ref x), (1, .int a1), (2, .int a2), (3, .int a3)] := hl
  have hJ : (j_X0_between a1 a2 a3) = (jNeed (j_X0_needClock a1) (jNeed (j_X0_needClock a2) (jNeed (j_X0_needUnit a3 6) (.ok ())))) := rfl
  refine lv_iload_n hx hb dX0_between_0 rfl (lv_at hl 1 rfl) ?_
  refine kx_need [.int a1] (rest := []) ⟨hx, hb, hml, hown, hts⟩ (c_X0_needClock l hl9 D cB cJ _ a1) (va_cwS 1 hts gX0_between_X0_needClock rfl rfl rfl (by decide +kernel) ⟨(Nat.le_of_ble_eq_true rfl), (Nat.le_of_ble_eq_true rfl)⟩) hE hS rfl rfl hl.1 (Nat.le_of_ble_eq_true rfl) dX0_between_1 ⟨(Nat.le_of_ble_eq_true rfl), (Nat.le_of_ble_eq_true rfl)⟩ (fun E ce q9 H1 locs1 hn9 hz hk hS1 hce hcv hcl => ?_) (fun locs n_1 hS => ?_)
  · exact vx_out (fun x hx9 => (htab x hx9).elim) hlocks hce hcv hcl (fun t ht _ => ⟨⟨by rw [hJ, jNeed_s hn9], by rw [ht]; exact hz, fun q hq => by rw [ht]; exact hk q hq⟩, hS1.F ht⟩) hS1.2.2 (Nat.le_of_ble_eq_true rfl) (Nat.le_of_ble_eq_true rfl)
  refine lv_iload_n hx hb dX0_between_4 rfl (lv_at hl 2 rfl) ?_
  refine kx_need [.int a2] (rest := []) ⟨hx, hb, hml, hown, hts⟩ (c_X0_needClock l hl9 D cB cJ _ a2) (va_cwS 1 hts gX0_between_X0_needClock rfl rfl rfl (by decide +kernel) ⟨(Nat.le_of_ble_eq_true rfl), (Nat.le_of_ble_eq_true rfl)⟩) hE hS rfl rfl hl.1 (Nat.le_of_ble_eq_true rfl) dX0_between_5 ⟨(Nat.le_of_ble_eq_true rfl), (Nat.le_of_ble_eq_true rfl)⟩ (fun E ce q9 H1 locs1 hn9 hz hk hS1 hce hcv hcl => ?_) (fun locs n_2 hS => ?_)
  · exact vx_out (fun x hx9 => (htab x hx9).elim) hlocks hce hcv hcl (fun t ht _ => ⟨⟨by rw [hJ, jNeed_n n_1, jNeed_s hn9], by rw [ht]; exact hz, fun q hq => by rw [ht]; exact hk q hq⟩, hS1.F ht⟩) hS1.2.2 (Nat.le_of_ble_eq_true rfl) (Nat.le_of_ble_eq_true rfl)
  refine lv_iload_n hx hb dX0_between_8 rfl (lv_at hl 3 rfl) ?_
  refine lv_bipush (v := 6) hx hb dX0_between_9 (by decide) ?_
  refine kx_need [.int a3, .int 6] (rest := []) ⟨hx, hb, hml, hown, hts⟩ (c_X0_needUnit l hl9 D cB cJ _ a3 6) (va_cwS 2 hts gX0_between_X0_needUnit rfl rfl rfl (by decide +kernel) ⟨(Nat.le_of_ble_eq_true rfl), (Nat.le_of_ble_eq_true rfl)⟩) hE hS rfl rfl hl.1 (Nat.le_of_ble_eq_true rfl) dX0_between_11 ⟨(Nat.le_of_ble_eq_true rfl), (Nat.le_of_ble_eq_true rfl)⟩ (fun E ce q9 H1 locs1 hn9 hz hk hS1 hce hcv hcl => ?_) (fun locs n_3 hS => ?_)
  · exact vx_out (fun x hx9 => (htab x hx9).elim) hlocks hce hcv hcl (fun t ht _ => ⟨⟨by rw [hJ, jNeed_n n_1, jNeed_n n_2, jNeed_s hn9], by rw [ht]; exact hz, fun q hq => by rw [ht]; exact hk q hq⟩, hS1.F ht⟩) hS1.2.2 (Nat.le_of_ble_eq_true rfl) (Nat.le_of_ble_eq_true rfl)
  refine lv_aload_n hx hb dX0_between_14 rfl (lv_at hl 0 rfl) ?_
  refine lv_iload_n hx hb dX0_between_15 rfl (lv_at hl 1 rfl) ?_
  refine k_pV [.int a1] (rest := []) ⟨hx, hb, hml, hown, hts⟩ (c_X0_numberOf l D cB cJ _ x n kn ch f (hP.sub [0, 1] rfl) a1) (cwV 1 hts gX0_between_X0_numberOf rfl rfl rfl (by decide +kernel) ⟨(Nat.le_of_ble_eq_true rfl), (Nat.le_of_ble_eq_true rfl)⟩) (va_recv hK hP (ci := 2) (q0 := 0) rfl rfl) hE hS rfl rfl hl.1 (Nat.le_of_ble_eq_true rfl) dX0_between_16 ⟨(Nat.le_of_ble_eq_true rfl), (Nat.le_of_ble_eq_true rfl)⟩ (fun locs hS => ?_)
  refine W.eq (g2 := F0 m 19 ls [.long (j_X0_numberOf kn ch f a1)]) rfl ?_
  refine lv_aload_n hx hb dX0_between_19 rfl (lv_at hl 0 rfl) ?_
  refine lv_iload_n hx hb dX0_between_20 rfl (lv_at hl 2 rfl) ?_
  refine k_pV [.int a2] (rest := [.long (j_X0_numberOf kn ch f a1)]) ⟨hx, hb, hml, hown, hts⟩ (c_X0_numberOf l D cB cJ _ x n kn ch f (hP.sub [0, 1] rfl) a2) (cwV 1 hts gX0_between_X0_numberOf rfl rfl rfl (by decide +kernel) ⟨(Nat.le_of_ble_eq_true rfl), (Nat.le_of_ble_eq_true rfl)⟩) (va_recv hK hP (ci := 2) (q0 := 0) rfl rfl) hE hS rfl rfl hl.1 (Nat.le_of_ble_eq_true rfl) dX0_between_21 ⟨(Nat.le_of_ble_eq_true rfl), (Nat.le_of_ble_eq_true rfl)⟩ (fun locs hS => ?_)
  refine W.eq (g2 := F0 m 24 ls [.long (j_X0_numberOf kn ch f a2), .long (j_X0_numberOf kn ch f a1)]) rfl ?_
  refine lv_iload_n hx hb dX0_between_24 rfl (lv_at hl 3 rfl) ?_
  refine k_pS [.long (j_X0_numberOf kn ch f a1), .long (j_X0_numberOf kn ch f a2), .int a3] (rest := []) ⟨hx, hb, hml, hown, hts⟩ (c_X0_unitsBetween l D cB cJ _ (j_X0_numberOf kn ch f a1) (j_X0_numberOf kn ch f a2) a3) (va_cwS 3 hts gX0_between_X0_unitsBetween rfl rfl rfl (by decide +kernel) ⟨(Nat.le_of_ble_eq_true rfl), (Nat.le_of_ble_eq_true rfl)⟩) hE hS rfl rfl hl.1 (Nat.le_of_ble_eq_true rfl) dX0_between_25 ⟨(Nat.le_of_ble_eq_true rfl), (Nat.le_of_ble_eq_true rfl)⟩ (fun locs hS => ?_)
  refine W.eq (g2 := F0 m 28 ls [.long (j_X0_unitsBetween (j_X0_numberOf kn ch f a1) (j_X0_numberOf kn ch f a2) a3)]) rfl ?_
  have hFc := k_free0 hS hA
  refine k_go (va_runS (As := [.long (j_X0_unitsBetween (j_X0_numberOf kn ch f a1) (j_X0_numberOf kn ch f a2) a3)]) (rest := []) ⟨hx, hb, hml, hown, hts⟩ (c_X0_digits l D cB cJ _ (j_X0_unitsBetween (j_X0_numberOf kn ch f a1) (j_X0_numberOf kn ch f a2) a3)) (va_cwS 1 hts gX0_between_X0_digits rfl rfl rfl (by decide +kernel) ⟨(Nat.le_of_ble_eq_true rfl), (Nat.le_of_ble_eq_true rfl)⟩) (k_preS hE hS hFc) rfl rfl hl.1 rfl (lv_room (Nat.le_of_ble_eq_true rfl)) dX0_between_28 ⟨(Nat.le_of_ble_eq_true rfl), (Nat.le_of_ble_eq_true rfl)⟩) hS (fun q _ h => hFc q h) hFc (fun v9 H locs hp hz hk hS => ?_)
  obtain ⟨q_4, n_4, hn60_4, u_4, f_4, rfl, hP1, hD1, hf_4⟩ := hp
  obtain ⟨hP, hD⟩ := va_join (wr := [(x, .inr (2, [.ref n, .int kn, .int ch])), (n, .inl (cJ, 8, .inr (.inl f)))]) (wc := []) (w1 := [(q_4, .inr (0, [.ref u_4, .int 0, .int 0, .int 0])), (u_4, .inl (cB, n_4, .inl f_4))]) hP hD [] [0, 1] rfl rfl (by decide) (by decide) hk hFc hP1 hD1
  have hP : va_P D vwCl [(x, .inr (2, [.ref n, .int kn, .int ch])), (n, .inl (cJ, 8, .inr (.inl f))), (q_4, .inr (0, [.ref u_4, .int 0, .int 0, .int 0])), (u_4, .inl (cB, n_4, .inl f_4))] H := hP
  have hD : va_D A [(x, .inr (2, [.ref n, .int kn, .int ch])), (n, .inl (cJ, 8, .inr (.inl f))), (q_4, .inr (0, [.ref u_4, .int 0, .int 0, .int 0])), (u_4, .inl (cB, n_4, .inl f_4))] := hD
  refine W.eq (g2 := F0 m 31 ls [.ref q_4]) rfl ?_
  refine W.widen (k := 27) (n := 2772) (Nat.le_of_ble_eq_true rfl) (Nat.le_of_ble_eq_true rfl) ?_
  exact vx_ret (k_aret hx hb hr (Or.inl ⟨_, rfl⟩) hlocks hS dX0_between_31 ⟨by rw [hJ, jNeed_n n_1, jNeed_n n_2, jNeed_n n_3], _, n_4, _, _, hn60_4, rfl, hP.sub [0, 1, 2, 3] rfl, hD.sub [0, 1, 2, 3] (by decide) rfl, hf_4⟩)
abbrev rm_X0_text : Room := { frames := 8, cells := 12, slots := 1070, locals := 191 }
theorem iw_X0_text_J4 : ∀ w ∈ wsJ40, w ∈ wsX0_text := by decide +kernel
def j_X0_text (a1 : Int32) : Except String Unit := (jNeed (j_X0_needClock a1) (.ok ()))
set_option maxHeartbeats 4000000 in
set_option maxRecDepth 100000 in
theorem c_X0_text (l : Launch) (hl9 : l.stackTraces = false) (D : va_G) (cB cJ : ClassId) (Hp : Heap) (x n : Nat) (kn ch : Int32) (f : Nat → Int64) (a1 : Int32) (hP : va_P D vwCl (wC x n cJ kn ch f) Hp) (hD9 : va_D (fun _ => True) (wC x n cJ kn ch f)) (hF : kIn f) : kV l D cB cJ yX0_text wsX0_text rm_X0_text (va_A (wC x n cJ kn ch f) Hp.size) Hp [.ref x, .int a1] (kPt D x n cB cJ (va_A (wC x n cJ kn ch f) Hp.size) kn ch f (j_X0_text a1)) (kXw (j_X0_text a1) Hp) 12 1070 := by
  refine vx_ofW (cc := cX0_text) (maxL := 5) (ret := (some (.object "java/lang/String"))) (by decide) rfl ?_
  intro p e s m args below meth c s₁ B hml htab hv
  obtain ⟨rfl, hHp, hE⟩ := hv
  subst hHp
  have hx := B.exec
  have hb := B.bytes
  have hr := B.returns
  have hts := atoms_spec (ws := wsX0_text) B.pre
  have hown : s.vm.findClass RX0 = some m.cls := findClass_of_methodNamed B.named
  have hlocks := B.notSynchronized
  have hK := hE.1
  have hD := hD9.self (sz := s.heap.size)
  generalize hAe : va_A (wC x n cJ kn ch f) s.heap.size = A at hE hD ⊢
  have hA : ∀ q : Nat, s.heap.size ≤ q → A q := fun q h => by rw [← hAe]; exact Or.inr h
  have hS : va_S A s.heap s.heap [] := va_S.rf
  have hl := lv_entry ([.ref x, .int a1]) (n := 5) (Nat.le_of_ble_eq_true rfl)
  rw [lg_entry_eq]
  generalize (lg_sl ([.ref x, .int a1]) ++ List.replicate (5 - (lg_sl ([.ref x, .int a1])).length) Slot.unset).toArray = ls at hl ⊢
  have hl : lv_has ls 5 [(0, .ref x), (1, .int a1)] := hl
  have hJ : (j_X0_text a1) = (jNeed (j_X0_needClock a1) (.ok ())) := rfl
  refine lv_iload_n hx hb dX0_text_0 rfl (lv_at hl 1 rfl) ?_
  refine kx_need [.int a1] (rest := []) ⟨hx, hb, hml, hown, hts⟩ (c_X0_needClock l hl9 D cB cJ _ a1) (va_cwS 1 hts gX0_text_X0_needClock rfl rfl rfl (by decide +kernel) ⟨(Nat.le_of_ble_eq_true rfl), (Nat.le_of_ble_eq_true rfl)⟩) hE hS rfl rfl hl.1 (Nat.le_of_ble_eq_true rfl) dX0_text_1 ⟨(Nat.le_of_ble_eq_true rfl), (Nat.le_of_ble_eq_true rfl)⟩ (fun E ce q9 H1 locs1 hn9 hz hk hS1 hce hcv hcl => ?_) (fun locs n_1 hS => ?_)
  · exact vx_out (fun x hx9 => (htab x hx9).elim) hlocks hce hcv hcl (fun t ht _ => ⟨⟨by rw [hJ, jNeed_s hn9], by rw [ht]; exact hz, fun q hq => by rw [ht]; exact hk q hq⟩, hS1.F ht⟩) hS1.2.2 (Nat.le_of_ble_eq_true rfl) (Nat.le_of_ble_eq_true rfl)
  refine lv_aload_n hx hb dX0_text_4 rfl (lv_at hl 0 rfl) ?_
  refine lv_iload_n hx hb dX0_text_5 rfl (lv_at hl 1 rfl) ?_
  refine k_pV [.int a1] (rest := []) ⟨hx, hb, hml, hown, hts⟩ (c_X0_numberOf l D cB cJ _ x n kn ch f (hP.sub [0, 1] rfl) a1) (cwV 1 hts gX0_text_X0_numberOf rfl rfl rfl (by decide +kernel) ⟨(Nat.le_of_ble_eq_true rfl), (Nat.le_of_ble_eq_true rfl)⟩) (va_recv hK hP (ci := 2) (q0 := 0) rfl rfl) hE hS rfl rfl hl.1 (Nat.le_of_ble_eq_true rfl) dX0_text_6 ⟨(Nat.le_of_ble_eq_true rfl), (Nat.le_of_ble_eq_true rfl)⟩ (fun locs hS => ?_)
  refine W.eq (g2 := F0 m 9 ls [.long (j_X0_numberOf kn ch f a1)]) rfl ?_
  refine lv_lstore_n (lv' := [(2, .long (j_X0_numberOf kn ch f a1)), (0, .ref x), (1, .int a1)]) hx hb dX0_text_9 rfl hl (by decide) rfl (fun ls hl => ?_)
  refine va_new (ci := 1) (fs := [.null, .int 0, .int 0, .int 0]) (C := RJ4) (T := TJ4) (N := 4) hx hb hts iw_X0_text_J4 tyJ4 tyJ4_ok hown (hts (.classLink RX0 84 RJ4) (by decide +kernel)) (hts (.instantiable RJ4 4) (by decide +kernel)) (hts (.initialized RJ4) (by decide +kernel)) hK hP hD hS hA rfl (fun j hj => by rcases (show j = 0 ∨ j = 1 ∨ j = 2 ∨ j = 3 by omega) with rfl | rfl | rfl | rfl <;> rfl) (Nat.le_of_ble_eq_true rfl) (Nat.le_of_ble_eq_true rfl) dX0_text_10 (fun q_2 H hP hD hS => ?_)
  have hP : va_P D vwCl [(x, .inr (2, [.ref n, .int kn, .int ch])), (n, .inl (cJ, 8, .inr (.inl f))), (q_2, .inr (1, [.null, .int 0, .int 0, .int 0]))] H := hP
  have hD : va_D A [(x, .inr (2, [.ref n, .int kn, .int ch])), (n, .inl (cJ, 8, .inr (.inl f))), (q_2, .inr (1, [.null, .int 0, .int 0, .int 0]))] := hD
  refine lv_dup hx hb dX0_text_13 rfl ?_
  have hFc := va_free (wc := [(q_2, .inr (1, [.null, .int 0, .int 0, .int 0]))]) hD hS hA [2] rfl
  refine k_go (va_runI (As := []) (rest := [.ref q_2]) ⟨hx, hb, hml, hown, hts⟩ (c_J4_init_da8c8 l D cB cJ _ q_2 (hP.sub [2] rfl) ((hD.sub [2] (by decide) rfl).weaken (fun _ _ _ _ => trivial))) (cwI 0 hts gX0_text_J4_init_da8c8 rfl rfl rfl (hts (.initialized RJ4) (by decide +kernel)) (hts (.methodLink RX0 86 yJ4_init_da8c8) (by decide +kernel)) (hts (.instanceMethod yJ4_init_da8c8) (by decide +kernel)) rfl (by decide +kernel) ⟨(Nat.le_of_ble_eq_true rfl), (Nat.le_of_ble_eq_true rfl)⟩) (k_preS hE hS hFc) rfl rfl hl.1 rfl (lv_room (Nat.le_of_ble_eq_true rfl)) dX0_text_14 ⟨(Nat.le_of_ble_eq_true rfl), (Nat.le_of_ble_eq_true rfl)⟩) hS (fun q _ h => hFc q h) hFc (fun v9 H locs hp hz hk hS => ?_)
  obtain ⟨rfl, v_3, m_3, a_3, hP1, hD1, hf_3, hn_3, hk_3, hm_3⟩ := hp
  obtain ⟨hP, hD⟩ := va_join (wr := [(x, .inr (2, [.ref n, .int kn, .int ch])), (n, .inl (cJ, 8, .inr (.inl f)))]) (wc := [(q_2, .inr (1, [.null, .int 0, .int 0, .int 0]))]) (w1 := [(q_2, .inr (1, [.ref v_3, .int 0, .int 0, .int (nI 0)])), (v_3, .inl (cB, m_3, .inl a_3))]) hP hD [2] [0, 1] rfl rfl (by decide) (by decide) hk hFc hP1 hD1
  have hP : va_P D vwCl [(x, .inr (2, [.ref n, .int kn, .int ch])), (n, .inl (cJ, 8, .inr (.inl f))), (q_2, .inr (1, [.ref v_3, .int 0, .int 0, .int (nI 0)])), (v_3, .inl (cB, m_3, .inl a_3))] H := hP
  have hD : va_D A [(x, .inr (2, [.ref n, .int kn, .int ch])), (n, .inl (cJ, 8, .inr (.inl f))), (q_2, .inr (1, [.ref v_3, .int 0, .int 0, .int (nI 0)])), (v_3, .inl (cB, m_3, .inl a_3))] := hD
  refine W.eq (g2 := F0 m 17 ls [.ref q_2]) rfl ?_
  refine lv_astore (lv' := [(4, .ref q_2), (2, .long (j_X0_numberOf kn ch f a1)), (0, .ref x), (1, .int a1)]) hx hb dX0_text_17 hl (by decide) rfl (fun ls hl => ?_)
  refine lv_aload hx hb dX0_text_19 (lv_at hl 0 rfl) ?_
  refine lv_lload_n hx hb dX0_text_21 rfl (lv_at hl 1 rfl) ?_
  refine lv_iconst (v := 0) hx hb dX0_text_22 (by decide) ?_
  refine k_pS [.long (j_X0_numberOf kn ch f a1), .int 0] (rest := [.ref q_2]) ⟨hx, hb, hml, hown, hts⟩ (c_X0_partOf l D cB cJ _ (j_X0_numberOf kn ch f a1) 0) (va_cwS 2 hts gX0_text_X0_partOf rfl rfl rfl (by decide +kernel) ⟨(Nat.le_of_ble_eq_true rfl), (Nat.le_of_ble_eq_true rfl)⟩) hE hS rfl rfl hl.1 (Nat.le_of_ble_eq_true rfl) dX0_text_23 ⟨(Nat.le_of_ble_eq_true rfl), (Nat.le_of_ble_eq_true rfl)⟩ (fun locs hS => ?_)
  refine W.eq (g2 := F0 m 26 ls [.int (j_X0_partOf (j_X0_numberOf kn ch f a1) 0), .ref q_2]) rfl ?_
  obtain ⟨k_num, hk_num, e_num⟩ := q_num hF kn ch n_1
  obtain ⟨z_4, hss_4, hz1_4, hz10_4, hwz_4⟩ := q_app (q_pt k_num 0) (q_pt_lt hk_num 0)
  rw [show (j_X0_partOf (j_X0_numberOf kn ch f a1) 0) = nI (q_pt k_num 0) from by rw [e_num]; exact q_partX hk_num 0]
  have hFc := va_free (wc := [(q_2, .inr (1, [.ref v_3, .int 0, .int 0, .int (nI 0)])), (v_3, .inl (cB, m_3, .inl a_3))]) hD hS hA [2, 3] rfl
  refine k_go (va_runV (As := [.int (nI (q_pt k_num 0))]) (rest := []) ⟨hx, hb, hml, hown, hts⟩ (c_J4_append_bf812 l D cB cJ _ q_2 v_3 0 m_3 a_3 (hP.sub [2, 3] rfl) ((hD.sub [2, 3] (by decide) rfl).weaken (fun _ _ _ _ => trivial)) (q_pt k_num 0) z_4 hf_3 hn_3 hm_3 (q_pt_lt hk_num 0) hss_4 hz1_4 hwz_4 (by omega)) (cwV 1 hts gX0_text_J4_append_bf812 rfl rfl rfl (by decide +kernel) ⟨(Nat.le_of_ble_eq_true rfl), (Nat.le_of_ble_eq_true rfl)⟩) (k_preV hE hS hFc (va_recv hK hP (ci := 1) (q0 := 2) rfl rfl)) rfl rfl hl.1 rfl (lv_room (Nat.le_of_ble_eq_true rfl)) dX0_text_26 ⟨(Nat.le_of_ble_eq_true rfl), (Nat.le_of_ble_eq_true rfl)⟩) hS (fun q _ h => hFc q h) hFc (fun v9 H locs hp hz hk hS => ?_)
  obtain ⟨rfl, v_5, m_5, a_5, hP1, hD1, hf_5, hn_5, hm_5⟩ := hp
  obtain ⟨hP, hD⟩ := va_join (wr := [(x, .inr (2, [.ref n, .int kn, .int ch])), (n, .inl (cJ, 8, .inr (.inl f)))]) (wc := [(q_2, .inr (1, [.ref v_3, .int 0, .int 0, .int (nI 0)])), (v_3, .inl (cB, m_3, .inl a_3))]) (w1 := [(q_2, .inr (1, [.ref v_5, .int 0, .int 0, .int (nI (0 + z_4))])), (v_5, .inl (cB, m_5, .inl a_5))]) hP hD [2, 3] [0, 1] rfl rfl (by decide) (by decide) hk hFc hP1 hD1
  have hP : va_P D vwCl [(x, .inr (2, [.ref n, .int kn, .int ch])), (n, .inl (cJ, 8, .inr (.inl f))), (q_2, .inr (1, [.ref v_5, .int 0, .int 0, .int (nI (0 + z_4))])), (v_5, .inl (cB, m_5, .inl a_5))] H := hP
  have hD : va_D A [(x, .inr (2, [.ref n, .int kn, .int ch])), (n, .inl (cJ, 8, .inr (.inl f))), (q_2, .inr (1, [.ref v_5, .int 0, .int 0, .int (nI (0 + z_4))])), (v_5, .inl (cB, m_5, .inl a_5))] := hD
  refine W.eq (g2 := F0 m 29 ls [.ref q_2]) rfl ?_
  refine lv_bipush (v := 58) hx hb dX0_text_29 (by decide) ?_
  have hFc := va_free (wc := [(q_2, .inr (1, [.ref v_5, .int 0, .int 0, .int (nI (0 + z_4))])), (v_5, .inl (cB, m_5, .inl a_5))]) hD hS hA [2, 3] rfl
  refine k_go (va_runV (As := [.int 58]) (rest := []) ⟨hx, hb, hml, hown, hts⟩ (c_J4_append_cf468 l D cB cJ _ q_2 v_5 (0 + z_4) m_5 a_5 (hP.sub [2, 3] rfl) ((hD.sub [2, 3] (by decide) rfl).weaken (fun _ _ _ _ => trivial)) 58 hf_5 hn_5 hm_5 (by decide) (by omega)) (cwV 1 hts gX0_text_J4_append_cf468 rfl rfl rfl (by decide +kernel) ⟨(Nat.le_of_ble_eq_true rfl), (Nat.le_of_ble_eq_true rfl)⟩) (k_preV hE hS hFc (va_recv hK hP (ci := 1) (q0 := 2) rfl rfl)) rfl rfl hl.1 rfl (lv_room (Nat.le_of_ble_eq_true rfl)) dX0_text_31 ⟨(Nat.le_of_ble_eq_true rfl), (Nat.le_of_ble_eq_true rfl)⟩) hS (fun q _ h => hFc q h) hFc (fun v9 H locs hp hz hk hS => ?_)
  obtain ⟨rfl, v_6, m_6, a_6, hP1, hD1, hf_6, hn_6, hm_6⟩ := hp
  obtain ⟨hP, hD⟩ := va_join (wr := [(x, .inr (2, [.ref n, .int kn, .int ch])), (n, .inl (cJ, 8, .inr (.inl f)))]) (wc := [(q_2, .inr (1, [.ref v_5, .int 0, .int 0, .int (nI (0 + z_4))])), (v_5, .inl (cB, m_5, .inl a_5))]) (w1 := [(q_2, .inr (1, [.ref v_6, .int 0, .int 0, .int (nI ((0 + z_4) + 1))])), (v_6, .inl (cB, m_6, .inl a_6))]) hP hD [2, 3] [0, 1] rfl rfl (by decide) (by decide) hk hFc hP1 hD1
  have hP : va_P D vwCl [(x, .inr (2, [.ref n, .int kn, .int ch])), (n, .inl (cJ, 8, .inr (.inl f))), (q_2, .inr (1, [.ref v_6, .int 0, .int 0, .int (nI ((0 + z_4) + 1))])), (v_6, .inl (cB, m_6, .inl a_6))] H := hP
  have hD : va_D A [(x, .inr (2, [.ref n, .int kn, .int ch])), (n, .inl (cJ, 8, .inr (.inl f))), (q_2, .inr (1, [.ref v_6, .int 0, .int 0, .int (nI ((0 + z_4) + 1))])), (v_6, .inl (cB, m_6, .inl a_6))] := hD
  refine W.eq (g2 := F0 m 34 ls [.ref q_2]) rfl ?_
  refine lv_pop hx hb dX0_text_34 rfl ?_
  refine lv_aload hx hb dX0_text_35 (lv_at hl 0 rfl) ?_
  refine lv_lload_n hx hb dX0_text_37 rfl (lv_at hl 1 rfl) ?_
  refine lv_iconst (v := 1) hx hb dX0_text_38 (by decide) ?_
  refine k_pS [.long (j_X0_numberOf kn ch f a1), .int 1] (rest := [.ref q_2]) ⟨hx, hb, hml, hown, hts⟩ (c_X0_partOf l D cB cJ _ (j_X0_numberOf kn ch f a1) 1) (va_cwS 2 hts gX0_text_X0_partOf rfl rfl rfl (by decide +kernel) ⟨(Nat.le_of_ble_eq_true rfl), (Nat.le_of_ble_eq_true rfl)⟩) hE hS rfl rfl hl.1 (Nat.le_of_ble_eq_true rfl) dX0_text_39 ⟨(Nat.le_of_ble_eq_true rfl), (Nat.le_of_ble_eq_true rfl)⟩ (fun locs hS => ?_)
  refine W.eq (g2 := F0 m 42 ls [.int (j_X0_partOf (j_X0_numberOf kn ch f a1) 1), .ref q_2]) rfl ?_
  obtain ⟨z_7, hss_7, hz1_7, hz10_7, hwz_7⟩ := q_app (q_pt k_num 1) (q_pt_lt hk_num 1)
  rw [show (j_X0_partOf (j_X0_numberOf kn ch f a1) 1) = nI (q_pt k_num 1) from by rw [e_num]; exact q_partX hk_num 1]
  have hFc := va_free (wc := [(q_2, .inr (1, [.ref v_6, .int 0, .int 0, .int (nI ((0 + z_4) + 1))])), (v_6, .inl (cB, m_6, .inl a_6))]) hD hS hA [2, 3] rfl
  refine k_go (va_runV (As := [.int (nI (q_pt k_num 1))]) (rest := []) ⟨hx, hb, hml, hown, hts⟩ (c_J4_append_bf812 l D cB cJ _ q_2 v_6 ((0 + z_4) + 1) m_6 a_6 (hP.sub [2, 3] rfl) ((hD.sub [2, 3] (by decide) rfl).weaken (fun _ _ _ _ => trivial)) (q_pt k_num 1) z_7 hf_6 hn_6 hm_6 (q_pt_lt hk_num 1) hss_7 hz1_7 hwz_7 (by omega)) (cwV 1 hts gX0_text_J4_append_bf812 rfl rfl rfl (by decide +kernel) ⟨(Nat.le_of_ble_eq_true rfl), (Nat.le_of_ble_eq_true rfl)⟩) (k_preV hE hS hFc (va_recv hK hP (ci := 1) (q0 := 2) rfl rfl)) rfl rfl hl.1 rfl (lv_room (Nat.le_of_ble_eq_true rfl)) dX0_text_42 ⟨(Nat.le_of_ble_eq_true rfl), (Nat.le_of_ble_eq_true rfl)⟩) hS (fun q _ h => hFc q h) hFc (fun v9 H locs hp hz hk hS => ?_)
  obtain ⟨rfl, v_8, m_8, a_8, hP1, hD1, hf_8, hn_8, hm_8⟩ := hp
  obtain ⟨hP, hD⟩ := va_join (wr := [(x, .inr (2, [.ref n, .int kn, .int ch])), (n, .inl (cJ, 8, .inr (.inl f)))]) (wc := [(q_2, .inr (1, [.ref v_6, .int 0, .int 0, .int (nI ((0 + z_4) + 1))])), (v_6, .inl (cB, m_6, .inl a_6))]) (w1 := [(q_2, .inr (1, [.ref v_8, .int 0, .int 0, .int (nI (((0 + z_4) + 1) + z_7))])), (v_8, .inl (cB, m_8, .inl a_8))]) hP hD [2, 3] [0, 1] rfl rfl (by decide) (by decide) hk hFc hP1 hD1
  have hP : va_P D vwCl [(x, .inr (2, [.ref n, .int kn, .int ch])), (n, .inl (cJ, 8, .inr (.inl f))), (q_2, .inr (1, [.ref v_8, .int 0, .int 0, .int (nI (((0 + z_4) + 1) + z_7))])), (v_8, .inl (cB, m_8, .inl a_8))] H := hP
  have hD : va_D A [(x, .inr (2, [.ref n, .int kn, .int ch])), (n, .inl (cJ, 8, .inr (.inl f))), (q_2, .inr (1, [.ref v_8, .int 0, .int 0, .int (nI (((0 + z_4) + 1) + z_7))])), (v_8, .inl (cB, m_8, .inl a_8))] := hD
  refine W.eq (g2 := F0 m 45 ls [.ref q_2]) rfl ?_
  refine lv_bipush (v := 58) hx hb dX0_text_45 (by decide) ?_
  have hFc := va_free (wc := [(q_2, .inr (1, [.ref v_8, .int 0, .int 0, .int (nI (((0 + z_4) + 1) + z_7))])), (v_8, .inl (cB, m_8, .inl a_8))]) hD hS hA [2, 3] rfl
  refine k_go (va_runV (As := [.int 58]) (rest := []) ⟨hx, hb, hml, hown, hts⟩ (c_J4_append_cf468 l D cB cJ _ q_2 v_8 (((0 + z_4) + 1) + z_7) m_8 a_8 (hP.sub [2, 3] rfl) ((hD.sub [2, 3] (by decide) rfl).weaken (fun _ _ _ _ => trivial)) 58 hf_8 hn_8 hm_8 (by decide) (by omega)) (cwV 1 hts gX0_text_J4_append_cf468 rfl rfl rfl (by decide +kernel) ⟨(Nat.le_of_ble_eq_true rfl), (Nat.le_of_ble_eq_true rfl)⟩) (k_preV hE hS hFc (va_recv hK hP (ci := 1) (q0 := 2) rfl rfl)) rfl rfl hl.1 rfl (lv_room (Nat.le_of_ble_eq_true rfl)) dX0_text_47 ⟨(Nat.le_of_ble_eq_true rfl), (Nat.le_of_ble_eq_true rfl)⟩) hS (fun q _ h => hFc q h) hFc (fun v9 H locs hp hz hk hS => ?_)
  obtain ⟨rfl, v_9, m_9, a_9, hP1, hD1, hf_9, hn_9, hm_9⟩ := hp
  obtain ⟨hP, hD⟩ := va_join (wr := [(x, .inr (2, [.ref n, .int kn, .int ch])), (n, .inl (cJ, 8, .inr (.inl f)))]) (wc := [(q_2, .inr (1, [.ref v_8, .int 0, .int 0, .int (nI (((0 + z_4) + 1) + z_7))])), (v_8, .inl (cB, m_8, .inl a_8))]) (w1 := [(q_2, .inr (1, [.ref v_9, .int 0, .int 0, .int (nI ((((0 + z_4) + 1) + z_7) + 1))])), (v_9, .inl (cB, m_9, .inl a_9))]) hP hD [2, 3] [0, 1] rfl rfl (by decide) (by decide) hk hFc hP1 hD1
  have hP : va_P D vwCl [(x, .inr (2, [.ref n, .int kn, .int ch])), (n, .inl (cJ, 8, .inr (.inl f))), (q_2, .inr (1, [.ref v_9, .int 0, .int 0, .int (nI ((((0 + z_4) + 1) + z_7) + 1))])), (v_9, .inl (cB, m_9, .inl a_9))] H := hP
  have hD : va_D A [(x, .inr (2, [.ref n, .int kn, .int ch])), (n, .inl (cJ, 8, .inr (.inl f))), (q_2, .inr (1, [.ref v_9, .int 0, .int 0, .int (nI ((((0 + z_4) + 1) + z_7) + 1))])), (v_9, .inl (cB, m_9, .inl a_9))] := hD
  refine W.eq (g2 := F0 m 50 ls [.ref q_2]) rfl ?_
  refine lv_pop hx hb dX0_text_50 rfl ?_
  refine lv_aload hx hb dX0_text_51 (lv_at hl 0 rfl) ?_
  refine lv_lload_n hx hb dX0_text_53 rfl (lv_at hl 1 rfl) ?_
  refine lv_iconst (v := 2) hx hb dX0_text_54 (by decide) ?_
  refine k_pS [.long (j_X0_numberOf kn ch f a1), .int 2] (rest := [.ref q_2]) ⟨hx, hb, hml, hown, hts⟩ (c_X0_partOf l D cB cJ _ (j_X0_numberOf kn ch f a1) 2) (va_cwS 2 hts gX0_text_X0_partOf rfl rfl rfl (by decide +kernel) ⟨(Nat.le_of_ble_eq_true rfl), (Nat.le_of_ble_eq_true rfl)⟩) hE hS rfl rfl hl.1 (Nat.le_of_ble_eq_true rfl) dX0_text_55 ⟨(Nat.le_of_ble_eq_true rfl), (Nat.le_of_ble_eq_true rfl)⟩ (fun locs hS => ?_)
  refine W.eq (g2 := F0 m 58 ls [.int (j_X0_partOf (j_X0_numberOf kn ch f a1) 2), .ref q_2]) rfl ?_
  obtain ⟨z_10, hss_10, hz1_10, hz10_10, hwz_10⟩ := q_app (q_pt k_num 2) (q_pt_lt hk_num 2)
  rw [show (j_X0_partOf (j_X0_numberOf kn ch f a1) 2) = nI (q_pt k_num 2) from by rw [e_num]; exact q_partX hk_num 2]
  have hFc := va_free (wc := [(q_2, .inr (1, [.ref v_9, .int 0, .int 0, .int (nI ((((0 + z_4) + 1) + z_7) + 1))])), (v_9, .inl (cB, m_9, .inl a_9))]) hD hS hA [2, 3] rfl
  refine k_go (va_runV (As := [.int (nI (q_pt k_num 2))]) (rest := []) ⟨hx, hb, hml, hown, hts⟩ (c_J4_append_bf812 l D cB cJ _ q_2 v_9 ((((0 + z_4) + 1) + z_7) + 1) m_9 a_9 (hP.sub [2, 3] rfl) ((hD.sub [2, 3] (by decide) rfl).weaken (fun _ _ _ _ => trivial)) (q_pt k_num 2) z_10 hf_9 hn_9 hm_9 (q_pt_lt hk_num 2) hss_10 hz1_10 hwz_10 (by omega)) (cwV 1 hts gX0_text_J4_append_bf812 rfl rfl rfl (by decide +kernel) ⟨(Nat.le_of_ble_eq_true rfl), (Nat.le_of_ble_eq_true rfl)⟩) (k_preV hE hS hFc (va_recv hK hP (ci := 1) (q0 := 2) rfl rfl)) rfl rfl hl.1 rfl (lv_room (Nat.le_of_ble_eq_true rfl)) dX0_text_58 ⟨(Nat.le_of_ble_eq_true rfl), (Nat.le_of_ble_eq_true rfl)⟩) hS (fun q _ h => hFc q h) hFc (fun v9 H locs hp hz hk hS => ?_)
  obtain ⟨rfl, v_11, m_11, a_11, hP1, hD1, hf_11, hn_11, hm_11⟩ := hp
  obtain ⟨hP, hD⟩ := va_join (wr := [(x, .inr (2, [.ref n, .int kn, .int ch])), (n, .inl (cJ, 8, .inr (.inl f)))]) (wc := [(q_2, .inr (1, [.ref v_9, .int 0, .int 0, .int (nI ((((0 + z_4) + 1) + z_7) + 1))])), (v_9, .inl (cB, m_9, .inl a_9))]) (w1 := [(q_2, .inr (1, [.ref v_11, .int 0, .int 0, .int (nI (((((0 + z_4) + 1) + z_7) + 1) + z_10))])), (v_11, .inl (cB, m_11, .inl a_11))]) hP hD [2, 3] [0, 1] rfl rfl (by decide) (by decide) hk hFc hP1 hD1
  have hP : va_P D vwCl [(x, .inr (2, [.ref n, .int kn, .int ch])), (n, .inl (cJ, 8, .inr (.inl f))), (q_2, .inr (1, [.ref v_11, .int 0, .int 0, .int (nI (((((0 + z_4) + 1) + z_7) + 1) + z_10))])), (v_11, .inl (cB, m_11, .inl a_11))] H := hP
  have hD : va_D A [(x, .inr (2, [.ref n, .int kn, .int ch])), (n, .inl (cJ, 8, .inr (.inl f))), (q_2, .inr (1, [.ref v_11, .int 0, .int 0, .int (nI (((((0 + z_4) + 1) + z_7) + 1) + z_10))])), (v_11, .inl (cB, m_11, .inl a_11))] := hD
  refine W.eq (g2 := F0 m 61 ls [.ref q_2]) rfl ?_
  refine lv_bipush (v := 46) hx hb dX0_text_61 (by decide) ?_
  have hFc := va_free (wc := [(q_2, .inr (1, [.ref v_11, .int 0, .int 0, .int (nI (((((0 + z_4) + 1) + z_7) + 1) + z_10))])), (v_11, .inl (cB, m_11, .inl a_11))]) hD hS hA [2, 3] rfl
  refine k_go (va_runV (As := [.int 46]) (rest := []) ⟨hx, hb, hml, hown, hts⟩ (c_J4_append_cf468 l D cB cJ _ q_2 v_11 (((((0 + z_4) + 1) + z_7) + 1) + z_10) m_11 a_11 (hP.sub [2, 3] rfl) ((hD.sub [2, 3] (by decide) rfl).weaken (fun _ _ _ _ => trivial)) 46 hf_11 hn_11 hm_11 (by decide) (by omega)) (cwV 1 hts gX0_text_J4_append_cf468 rfl rfl rfl (by decide +kernel) ⟨(Nat.le_of_ble_eq_true rfl), (Nat.le_of_ble_eq_true rfl)⟩) (k_preV hE hS hFc (va_recv hK hP (ci := 1) (q0 := 2) rfl rfl)) rfl rfl hl.1 rfl (lv_room (Nat.le_of_ble_eq_true rfl)) dX0_text_63 ⟨(Nat.le_of_ble_eq_true rfl), (Nat.le_of_ble_eq_true rfl)⟩) hS (fun q _ h => hFc q h) hFc (fun v9 H locs hp hz hk hS => ?_)
  obtain ⟨rfl, v_12, m_12, a_12, hP1, hD1, hf_12, hn_12, hm_12⟩ := hp
  obtain ⟨hP, hD⟩ := va_join (wr := [(x, .inr (2, [.ref n, .int kn, .int ch])), (n, .inl (cJ, 8, .inr (.inl f)))]) (wc := [(q_2, .inr (1, [.ref v_11, .int 0, .int 0, .int (nI (((((0 + z_4) + 1) + z_7) + 1) + z_10))])), (v_11, .inl (cB, m_11, .inl a_11))]) (w1 := [(q_2, .inr (1, [.ref v_12, .int 0, .int 0, .int (nI ((((((0 + z_4) + 1) + z_7) + 1) + z_10) + 1))])), (v_12, .inl (cB, m_12, .inl a_12))]) hP hD [2, 3] [0, 1] rfl rfl (by decide) (by decide) hk hFc hP1 hD1
  have hP : va_P D vwCl [(x, .inr (2, [.ref n, .int kn, .int ch])), (n, .inl (cJ, 8, .inr (.inl f))), (q_2, .inr (1, [.ref v_12, .int 0, .int 0, .int (nI ((((((0 + z_4) + 1) + z_7) + 1) + z_10) + 1))])), (v_12, .inl (cB, m_12, .inl a_12))] H := hP
  have hD : va_D A [(x, .inr (2, [.ref n, .int kn, .int ch])), (n, .inl (cJ, 8, .inr (.inl f))), (q_2, .inr (1, [.ref v_12, .int 0, .int 0, .int (nI ((((((0 + z_4) + 1) + z_7) + 1) + z_10) + 1))])), (v_12, .inl (cB, m_12, .inl a_12))] := hD
  refine W.eq (g2 := F0 m 66 ls [.ref q_2]) rfl ?_
  refine lv_pop hx hb dX0_text_66 rfl ?_
  refine lv_aload hx hb dX0_text_67 (lv_at hl 0 rfl) ?_
  refine lv_lload_n hx hb dX0_text_69 rfl (lv_at hl 1 rfl) ?_
  refine lv_iconst (v := 3) hx hb dX0_text_70 (by decide) ?_
  refine k_pS [.long (j_X0_numberOf kn ch f a1), .int 3] (rest := [.ref q_2]) ⟨hx, hb, hml, hown, hts⟩ (c_X0_partOf l D cB cJ _ (j_X0_numberOf kn ch f a1) 3) (va_cwS 2 hts gX0_text_X0_partOf rfl rfl rfl (by decide +kernel) ⟨(Nat.le_of_ble_eq_true rfl), (Nat.le_of_ble_eq_true rfl)⟩) hE hS rfl rfl hl.1 (Nat.le_of_ble_eq_true rfl) dX0_text_71 ⟨(Nat.le_of_ble_eq_true rfl), (Nat.le_of_ble_eq_true rfl)⟩ (fun locs hS => ?_)
  refine W.eq (g2 := F0 m 74 ls [.int (j_X0_partOf (j_X0_numberOf kn ch f a1) 3), .ref q_2]) rfl ?_
  obtain ⟨z_13, hss_13, hz1_13, hz10_13, hwz_13⟩ := q_app (q_pt k_num 3) (q_pt_lt hk_num 3)
  rw [show (j_X0_partOf (j_X0_numberOf kn ch f a1) 3) = nI (q_pt k_num 3) from by rw [e_num]; exact q_partX hk_num 3]
  have hFc := va_free (wc := [(q_2, .inr (1, [.ref v_12, .int 0, .int 0, .int (nI ((((((0 + z_4) + 1) + z_7) + 1) + z_10) + 1))])), (v_12, .inl (cB, m_12, .inl a_12))]) hD hS hA [2, 3] rfl
  refine k_go (va_runV (As := [.int (nI (q_pt k_num 3))]) (rest := []) ⟨hx, hb, hml, hown, hts⟩ (c_J4_append_bf812 l D cB cJ _ q_2 v_12 ((((((0 + z_4) + 1) + z_7) + 1) + z_10) + 1) m_12 a_12 (hP.sub [2, 3] rfl) ((hD.sub [2, 3] (by decide) rfl).weaken (fun _ _ _ _ => trivial)) (q_pt k_num 3) z_13 hf_12 hn_12 hm_12 (q_pt_lt hk_num 3) hss_13 hz1_13 hwz_13 (by omega)) (cwV 1 hts gX0_text_J4_append_bf812 rfl rfl rfl (by decide +kernel) ⟨(Nat.le_of_ble_eq_true rfl), (Nat.le_of_ble_eq_true rfl)⟩) (k_preV hE hS hFc (va_recv hK hP (ci := 1) (q0 := 2) rfl rfl)) rfl rfl hl.1 rfl (lv_room (Nat.le_of_ble_eq_true rfl)) dX0_text_74 ⟨(Nat.le_of_ble_eq_true rfl), (Nat.le_of_ble_eq_true rfl)⟩) hS (fun q _ h => hFc q h) hFc (fun v9 H locs hp hz hk hS => ?_)
  obtain ⟨rfl, v_14, m_14, a_14, hP1, hD1, hf_14, hn_14, hm_14⟩ := hp
  obtain ⟨hP, hD⟩ := va_join (wr := [(x, .inr (2, [.ref n, .int kn, .int ch])), (n, .inl (cJ, 8, .inr (.inl f)))]) (wc := [(q_2, .inr (1, [.ref v_12, .int 0, .int 0, .int (nI ((((((0 + z_4) + 1) + z_7) + 1) + z_10) + 1))])), (v_12, .inl (cB, m_12, .inl a_12))]) (w1 := [(q_2, .inr (1, [.ref v_14, .int 0, .int 0, .int (nI (((((((0 + z_4) + 1) + z_7) + 1) + z_10) + 1) + z_13))])), (v_14, .inl (cB, m_14, .inl a_14))]) hP hD [2, 3] [0, 1] rfl rfl (by decide) (by decide) hk hFc hP1 hD1
  have hP : va_P D vwCl [(x, .inr (2, [.ref n, .int kn, .int ch])), (n, .inl (cJ, 8, .inr (.inl f))), (q_2, .inr (1, [.ref v_14, .int 0, .int 0, .int (nI (((((((0 + z_4) + 1) + z_7) + 1) + z_10) + 1) + z_13))])), (v_14, .inl (cB, m_14, .inl a_14))] H := hP
  have hD : va_D A [(x, .inr (2, [.ref n, .int kn, .int ch])), (n, .inl (cJ, 8, .inr (.inl f))), (q_2, .inr (1, [.ref v_14, .int 0, .int 0, .int (nI (((((((0 + z_4) + 1) + z_7) + 1) + z_10) + 1) + z_13))])), (v_14, .inl (cB, m_14, .inl a_14))] := hD
  refine W.eq (g2 := F0 m 77 ls [.ref q_2]) rfl ?_
  refine lv_pop hx hb dX0_text_77 rfl ?_
  refine lv_aload hx hb dX0_text_78 (lv_at hl 0 rfl) ?_
  have hFc := va_free (wc := [(q_2, .inr (1, [.ref v_14, .int 0, .int 0, .int (nI (((((((0 + z_4) + 1) + z_7) + 1) + z_10) + 1) + z_13))])), (v_14, .inl (cB, m_14, .inl a_14))]) hD hS hA [2, 3] rfl
  refine k_go (va_runV (As := []) (rest := []) ⟨hx, hb, hml, hown, hts⟩ (c_J4_toString_0e30d l D cB cJ _ q_2 v_14 (((((((0 + z_4) + 1) + z_7) + 1) + z_10) + 1) + z_13) m_14 a_14 (hP.sub [2, 3] rfl) ((hD.sub [2, 3] (by decide) rfl).weaken (fun _ _ _ _ => trivial)) hf_14 hn_14 hm_14) (cwV 0 hts gX0_text_J4_toString_0e30d rfl rfl rfl (by decide +kernel) ⟨(Nat.le_of_ble_eq_true rfl), (Nat.le_of_ble_eq_true rfl)⟩) (k_preV hE hS hFc (va_recv hK hP (ci := 1) (q0 := 2) rfl rfl)) rfl rfl hl.1 rfl (lv_room (Nat.le_of_ble_eq_true rfl)) dX0_text_80 ⟨(Nat.le_of_ble_eq_true rfl), (Nat.le_of_ble_eq_true rfl)⟩) hS (fun q _ h => hFc q h) hFc (fun v9 H locs hp hz hk hS => ?_)
  obtain ⟨q_15, u_15, f_15, rfl, hP1, hD1, hf_15⟩ := hp
  obtain ⟨hP, hD⟩ := va_join (wr := [(x, .inr (2, [.ref n, .int kn, .int ch])), (n, .inl (cJ, 8, .inr (.inl f)))]) (wc := [(q_2, .inr (1, [.ref v_14, .int 0, .int 0, .int (nI (((((((0 + z_4) + 1) + z_7) + 1) + z_10) + 1) + z_13))])), (v_14, .inl (cB, m_14, .inl a_14))]) (w1 := [(q_15, .inr (0, [.ref u_15, .int 0, .int 0, .int 0])), (u_15, .inl (cB, (((((((0 + z_4) + 1) + z_7) + 1) + z_10) + 1) + z_13), .inl f_15))]) hP hD [2, 3] [0, 1] rfl rfl (by decide) (by decide) hk hFc hP1 hD1
  have hP : va_P D vwCl [(x, .inr (2, [.ref n, .int kn, .int ch])), (n, .inl (cJ, 8, .inr (.inl f))), (q_15, .inr (0, [.ref u_15, .int 0, .int 0, .int 0])), (u_15, .inl (cB, (((((((0 + z_4) + 1) + z_7) + 1) + z_10) + 1) + z_13), .inl f_15))] H := hP
  have hD : va_D A [(x, .inr (2, [.ref n, .int kn, .int ch])), (n, .inl (cJ, 8, .inr (.inl f))), (q_15, .inr (0, [.ref u_15, .int 0, .int 0, .int 0])), (u_15, .inl (cB, (((((((0 + z_4) + 1) + z_7) + 1) + z_10) + 1) + z_13), .inl f_15))] := hD
  refine W.eq (g2 := F0 m 83 ls [.ref q_15]) rfl ?_
  refine W.widen (k := 12) (n := 1070) (Nat.le_of_ble_eq_true rfl) (Nat.le_of_ble_eq_true rfl) ?_
  exact vx_ret (k_aret hx hb hr (Or.inl ⟨_, rfl⟩) hlocks hS dX0_text_83 ⟨by rw [hJ, jNeed_n n_1], _, (((((((0 + z_4) + 1) + z_7) + 1) + z_10) + 1) + z_13), _, _, (by omega), rfl, hP.sub [0, 1, 2, 3] rfl, hD.sub [0, 1, 2, 3] (by decide) rfl, hf_15⟩)
abbrev rm_X0_order : Room := { frames := 6, cells := 20, slots := 2234, locals := 191 }
theorem iw_X0_order_J4 : ∀ w ∈ wsJ40, w ∈ wsX0_order := by decide +kernel
def j_X0_order : Except String Unit := .ok ()
set_option maxHeartbeats 4000000 in
set_option maxRecDepth 100000 in
theorem lp_order {p : Program} {l : Launch} {e : Env} {s : State} {m : MethodId} {args : Array Value} {below : List Frame} {meth : Method} {c : Code} {D : va_G} {cB cJ : ClassId} {A : Nat → Prop} {x n b : Nat} {kn ch : Int32} {f : Nat → Int64} (hx : p.tables.exec = Jvm.exec) (hb : c.code = cX0_order) (hml : c.maxLocals = 3) (hown : s.vm.findClass RX0 = some m.cls) (hts : ∀ w ∈ wsX0_order, w.before args s = true) (hE : kE D cB cJ A s s.heap) (hA : ∀ q : Nat, s.heap.size ≤ q → A q) (kk : ∀ (k : Nat) (nn : Nat) (H : Heap) (locs : List Loc) (v cp : Nat) (ar : Nat → Int32) (ls : Array Slot), k ≤ 8 → nn ≤ 2 * k → sb_Fit ar → nn ≤ cp → cp ≤ 130 → va_P D vwCl ([(x, .inr (2, [.ref n, .int kn, .int ch])), (n, .inl (cJ, 8, .inr (.inl f))), (b, .inr (1, [.ref v, .int 0, .int 0, .int (nI nn)])), (v, .inl (cB, cp, .inl ar))]) H → va_D A ([(x, .inr (2, [.ref n, .int kn, .int ch])), (n, .inl (cJ, 8, .inr (.inl f))), (b, .inr (1, [.ref v, .int 0, .int 0, .int (nI nn)])), (v, .inl (cB, cp, .inl ar))]) → va_S A s.heap H locs → lv_has ls 3 [(2, .int (nI k)), (1, .ref b), (0, .ref x)] → W p l e rm_X0_order s m args below meth c H locs 18 2100 (MQ below (kQ (kPt D x n cB cJ A kn ch f j_X0_order) A) args s 20 2234 A) (F0 m 43 ls [])) : ∀ (u9 : Nat) (k : Nat) (nn : Nat) (H : Heap) (locs : List Loc) (v cp : Nat) (ar : Nat → Int32) (ls : Array Slot), k + u9 = 9 → k ≤ 8 → nn ≤ 2 * k → sb_Fit ar → nn ≤ cp → cp ≤ 130 → va_P D vwCl ([(x, .inr (2, [.ref n, .int kn, .int ch])), (n, .inl (cJ, 8, .inr (.inl f))), (b, .inr (1, [.ref v, .int 0, .int 0, .int (nI nn)])), (v, .inl (cB, cp, .inl ar))]) H → va_D A ([(x, .inr (2, [.ref n, .int kn, .int ch])), (n, .inl (cJ, 8, .inr (.inl f))), (b, .inr (1, [.ref v, .int 0, .int 0, .int (nI nn)])), (v, .inl (cB, cp, .inl ar))]) → va_S A s.heap H locs → lv_has ls 3 [(2, .int (nI k)), (1, .ref b), (0, .ref x)] → W p l e rm_X0_order s m args below meth c H locs (2 + 2 * k) (20 + 260 * k) (MQ below (kQ (kPt D x n cB cJ A kn ch f j_X0_order) A) args s 20 2234 A) (F0 m 10 ls []) := by
  have hK := hE.1
  intro u9
  induction u9 with
  | zero =>
    intro k nn H locs v cp ar ls h9 h19
    exact absurd h9 (by omega)
  | succ u9 ih =>
    intro k nn H locs v cp ar ls h9 hk9 hnk hf hnm hm hP hD hS hl
    refine lv_iload_n hx hb dX0_order_10 rfl (lv_at hl 0 rfl) ?_
    refine lv_bipush (v := 8) hx hb dX0_order_11 (by decide) ?_
    refine lv_icmp_ge (tgt := 43) hx hb dX0_order_13 (by decide) (fun c_1 => ?_) (fun c_1 => ?_)
    · refine W.widen (k := 18) (n := 2100) (by omega) (by omega) ?_
      exact kk k nn _ _ _ _ _ _ hk9 hnk hf hnm hm hP hD hS (lv_sub hl [0, 1, 2] rfl)
    · have hk8 : k < 8 := Nat.lt_of_not_le (fun q => c_1 (nI_le q (by omega)))
      refine lv_iload_n hx hb dX0_order_16 rfl (lv_at hl 0 rfl) ?_
      refine lv_if_le (tgt := 27) hx hb dX0_order_17 (by decide) (fun c_2 => ?_) (fun c_2 => ?_)
      · refine lv_aload_n hx hb dX0_order_27 rfl (lv_at hl 1 rfl) ?_
        refine lv_aload_n hx hb dX0_order_28 rfl (lv_at hl 2 rfl) ?_
        refine lv_iload_n hx hb dX0_order_29 rfl (lv_at hl 0 rfl) ?_
        refine k_pV [.int (nI k)] (rest := [.ref b]) ⟨hx, hb, hml, hown, hts⟩ (c_X0_clockAtPlace l D cB cJ _ x n kn ch f (hP.sub [0, 1] rfl) (nI k) (tk_X0_clockAtPlace kn ch f (nI k))) (cwV 1 hts gX0_order_X0_clockAtPlace rfl rfl rfl (by decide +kernel) ⟨(Nat.le_of_ble_eq_true rfl), (Nat.le_of_ble_eq_true rfl)⟩) (va_recv hK hP (ci := 2) (q0 := 0) rfl rfl) hE hS rfl rfl hl.1 (Nat.le_of_ble_eq_true rfl) dX0_order_30 ⟨by show _ ≤ (20 : Nat); omega, by show _ ≤ (2234 : Nat); omega⟩ (fun locs hS => ?_)
        refine W.eq (g2 := F0 m 33 ls [.int (j_X0_clockAtPlace kn ch f (nI k)), .ref b]) rfl ?_
        obtain ⟨c_3, hc_3, ec_3⟩ := q_c8 kn ch f (nI k)
        rw [ec_3]
        have hFc := va_free (wc := [(b, .inr (1, [.ref v, .int 0, .int 0, .int (nI nn)])), (v, .inl (cB, cp, .inl ar))]) hD hS hA [2, 3] rfl
        refine k_go (va_runV (As := [.int (nI c_3)]) (rest := []) ⟨hx, hb, hml, hown, hts⟩ (c_J4_append_bf812 l D cB cJ _ b v nn cp ar (hP.sub [2, 3] rfl) ((hD.sub [2, 3] (by decide) rfl).weaken (fun _ _ _ _ => trivial)) c_3 1 hf hnm hm (by omega) (q_ss1 c_3 (by omega)) (by decide) (by omega) (by omega)) (cwV 1 hts gX0_order_J4_append_bf812 rfl rfl rfl (by decide +kernel) ⟨(Nat.le_of_ble_eq_true rfl), (Nat.le_of_ble_eq_true rfl)⟩) (k_preV hE hS hFc (va_recv hK hP (ci := 1) (q0 := 2) rfl rfl)) rfl rfl hl.1 rfl (lv_room (Nat.le_of_ble_eq_true rfl)) dX0_order_33 ⟨by show _ ≤ (20 : Nat); omega, by show _ ≤ (2234 : Nat); omega⟩) hS (fun q _ h => hFc q h) hFc (fun v9 H locs hp hz hk hS => ?_)
        obtain ⟨rfl, v_4, m_4, a_4, hP1, hD1, hf_4, hn_4, hm_4⟩ := hp
        obtain ⟨hP, hD⟩ := va_join (wr := [(x, .inr (2, [.ref n, .int kn, .int ch])), (n, .inl (cJ, 8, .inr (.inl f)))]) (wc := [(b, .inr (1, [.ref v, .int 0, .int 0, .int (nI nn)])), (v, .inl (cB, cp, .inl ar))]) (w1 := [(b, .inr (1, [.ref v_4, .int 0, .int 0, .int (nI (nn + 1))])), (v_4, .inl (cB, m_4, .inl a_4))]) hP hD [2, 3] [0, 1] rfl rfl (by decide) (by decide) hk hFc hP1 hD1
        have hP : va_P D vwCl [(x, .inr (2, [.ref n, .int kn, .int ch])), (n, .inl (cJ, 8, .inr (.inl f))), (b, .inr (1, [.ref v_4, .int 0, .int 0, .int (nI (nn + 1))])), (v_4, .inl (cB, m_4, .inl a_4))] H := hP
        have hD : va_D A [(x, .inr (2, [.ref n, .int kn, .int ch])), (n, .inl (cJ, 8, .inr (.inl f))), (b, .inr (1, [.ref v_4, .int 0, .int 0, .int (nI (nn + 1))])), (v_4, .inl (cB, m_4, .inl a_4))] := hD
        refine W.eq (g2 := F0 m 36 ls [.ref b]) rfl ?_
        refine lv_pop hx hb dX0_order_36 rfl ?_
        refine lv_iinc (v := ((nI k) + 1)) (lv' := [(2, .int ((nI k) + 1)), (1, .ref b), (0, .ref x)]) hx hb dX0_order_37 hl (k := 0) rfl rfl (by decide) rfl (fun ls hl => ?_)
        refine lv_goto (tgt := 10) hx hb dX0_order_40 (by decide) ?_
        rw [nI_1] at hl
        refine W.widen (k := 2 + 2 * (k + 1)) (n := 20 + 260 * (k + 1)) (by omega) (by omega) ?_
        exact ih (k + 1) _ _ _ _ _ _ _ (by omega) (by omega) (by omega) hf_4 hn_4 hm_4 (hP.sub [0, 1, 2, 3] rfl) (hD.sub [0, 1, 2, 3] (by decide) rfl) hS (lv_sub hl [0, 1, 2] rfl)
      · refine lv_aload_n hx hb dX0_order_20 rfl (lv_at hl 1 rfl) ?_
        refine lv_bipush (v := 32) hx hb dX0_order_21 (by decide) ?_
        have hFc := va_free (wc := [(b, .inr (1, [.ref v, .int 0, .int 0, .int (nI nn)])), (v, .inl (cB, cp, .inl ar))]) hD hS hA [2, 3] rfl
        refine k_go (va_runV (As := [.int 32]) (rest := []) ⟨hx, hb, hml, hown, hts⟩ (c_J4_append_cf468 l D cB cJ _ b v nn cp ar (hP.sub [2, 3] rfl) ((hD.sub [2, 3] (by decide) rfl).weaken (fun _ _ _ _ => trivial)) 32 hf hnm hm (by decide) (by omega)) (cwV 1 hts gX0_order_J4_append_cf468 rfl rfl rfl (by decide +kernel) ⟨(Nat.le_of_ble_eq_true rfl), (Nat.le_of_ble_eq_true rfl)⟩) (k_preV hE hS hFc (va_recv hK hP (ci := 1) (q0 := 2) rfl rfl)) rfl rfl hl.1 rfl (lv_room (Nat.le_of_ble_eq_true rfl)) dX0_order_23 ⟨by show _ ≤ (20 : Nat); omega, by show _ ≤ (2234 : Nat); omega⟩) hS (fun q _ h => hFc q h) hFc (fun v9 H locs hp hz hk hS => ?_)
        obtain ⟨rfl, v_5, m_5, a_5, hP1, hD1, hf_5, hn_5, hm_5⟩ := hp
        obtain ⟨hP, hD⟩ := va_join (wr := [(x, .inr (2, [.ref n, .int kn, .int ch])), (n, .inl (cJ, 8, .inr (.inl f)))]) (wc := [(b, .inr (1, [.ref v, .int 0, .int 0, .int (nI nn)])), (v, .inl (cB, cp, .inl ar))]) (w1 := [(b, .inr (1, [.ref v_5, .int 0, .int 0, .int (nI (nn + 1))])), (v_5, .inl (cB, m_5, .inl a_5))]) hP hD [2, 3] [0, 1] rfl rfl (by decide) (by decide) hk hFc hP1 hD1
        have hP : va_P D vwCl [(x, .inr (2, [.ref n, .int kn, .int ch])), (n, .inl (cJ, 8, .inr (.inl f))), (b, .inr (1, [.ref v_5, .int 0, .int 0, .int (nI (nn + 1))])), (v_5, .inl (cB, m_5, .inl a_5))] H := hP
        have hD : va_D A [(x, .inr (2, [.ref n, .int kn, .int ch])), (n, .inl (cJ, 8, .inr (.inl f))), (b, .inr (1, [.ref v_5, .int 0, .int 0, .int (nI (nn + 1))])), (v_5, .inl (cB, m_5, .inl a_5))] := hD
        refine W.eq (g2 := F0 m 26 ls [.ref b]) rfl ?_
        refine lv_pop hx hb dX0_order_26 rfl ?_
        refine lv_aload_n hx hb dX0_order_27 rfl (lv_at hl 1 rfl) ?_
        refine lv_aload_n hx hb dX0_order_28 rfl (lv_at hl 2 rfl) ?_
        refine lv_iload_n hx hb dX0_order_29 rfl (lv_at hl 0 rfl) ?_
        refine k_pV [.int (nI k)] (rest := [.ref b]) ⟨hx, hb, hml, hown, hts⟩ (c_X0_clockAtPlace l D cB cJ _ x n kn ch f (hP.sub [0, 1] rfl) (nI k) (tk_X0_clockAtPlace kn ch f (nI k))) (cwV 1 hts gX0_order_X0_clockAtPlace rfl rfl rfl (by decide +kernel) ⟨(Nat.le_of_ble_eq_true rfl), (Nat.le_of_ble_eq_true rfl)⟩) (va_recv hK hP (ci := 2) (q0 := 0) rfl rfl) hE hS rfl rfl hl.1 (Nat.le_of_ble_eq_true rfl) dX0_order_30 ⟨by show _ ≤ (20 : Nat); omega, by show _ ≤ (2234 : Nat); omega⟩ (fun locs hS => ?_)
        refine W.eq (g2 := F0 m 33 ls [.int (j_X0_clockAtPlace kn ch f (nI k)), .ref b]) rfl ?_
        obtain ⟨c_6, hc_6, ec_6⟩ := q_c8 kn ch f (nI k)
        rw [ec_6]
        have hFc := va_free (wc := [(b, .inr (1, [.ref v_5, .int 0, .int 0, .int (nI (nn + 1))])), (v_5, .inl (cB, m_5, .inl a_5))]) hD hS hA [2, 3] rfl
        refine k_go (va_runV (As := [.int (nI c_6)]) (rest := []) ⟨hx, hb, hml, hown, hts⟩ (c_J4_append_bf812 l D cB cJ _ b v_5 (nn + 1) m_5 a_5 (hP.sub [2, 3] rfl) ((hD.sub [2, 3] (by decide) rfl).weaken (fun _ _ _ _ => trivial)) c_6 1 hf_5 hn_5 hm_5 (by omega) (q_ss1 c_6 (by omega)) (by decide) (by omega) (by omega)) (cwV 1 hts gX0_order_J4_append_bf812 rfl rfl rfl (by decide +kernel) ⟨(Nat.le_of_ble_eq_true rfl), (Nat.le_of_ble_eq_true rfl)⟩) (k_preV hE hS hFc (va_recv hK hP (ci := 1) (q0 := 2) rfl rfl)) rfl rfl hl.1 rfl (lv_room (Nat.le_of_ble_eq_true rfl)) dX0_order_33 ⟨by show _ ≤ (20 : Nat); omega, by show _ ≤ (2234 : Nat); omega⟩) hS (fun q _ h => hFc q h) hFc (fun v9 H locs hp hz hk hS => ?_)
        obtain ⟨rfl, v_7, m_7, a_7, hP1, hD1, hf_7, hn_7, hm_7⟩ := hp
        obtain ⟨hP, hD⟩ := va_join (wr := [(x, .inr (2, [.ref n, .int kn, .int ch])), (n, .inl (cJ, 8, .inr (.inl f)))]) (wc := [(b, .inr (1, [.ref v_5, .int 0, .int 0, .int (nI (nn + 1))])), (v_5, .inl (cB, m_5, .inl a_5))]) (w1 := [(b, .inr (1, [.ref v_7, .int 0, .int 0, .int (nI ((nn + 1) + 1))])), (v_7, .inl (cB, m_7, .inl a_7))]) hP hD [2, 3] [0, 1] rfl rfl (by decide) (by decide) hk hFc hP1 hD1
        have hP : va_P D vwCl [(x, .inr (2, [.ref n, .int kn, .int ch])), (n, .inl (cJ, 8, .inr (.inl f))), (b, .inr (1, [.ref v_7, .int 0, .int 0, .int (nI ((nn + 1) + 1))])), (v_7, .inl (cB, m_7, .inl a_7))] H := hP
        have hD : va_D A [(x, .inr (2, [.ref n, .int kn, .int ch])), (n, .inl (cJ, 8, .inr (.inl f))), (b, .inr (1, [.ref v_7, .int 0, .int 0, .int (nI ((nn + 1) + 1))])), (v_7, .inl (cB, m_7, .inl a_7))] := hD
        refine W.eq (g2 := F0 m 36 ls [.ref b]) rfl ?_
        refine lv_pop hx hb dX0_order_36 rfl ?_
        refine lv_iinc (v := ((nI k) + 1)) (lv' := [(2, .int ((nI k) + 1)), (1, .ref b), (0, .ref x)]) hx hb dX0_order_37 hl (k := 0) rfl rfl (by decide) rfl (fun ls hl => ?_)
        refine lv_goto (tgt := 10) hx hb dX0_order_40 (by decide) ?_
        rw [nI_1] at hl
        refine W.widen (k := 2 + 2 * (k + 1)) (n := 20 + 260 * (k + 1)) (by omega) (by omega) ?_
        exact ih (k + 1) _ _ _ _ _ _ _ (by omega) (by omega) (by omega) hf_7 hn_7 hm_7 (hP.sub [0, 1, 2, 3] rfl) (hD.sub [0, 1, 2, 3] (by decide) rfl) hS (lv_sub hl [0, 1, 2] rfl)
set_option maxHeartbeats 4000000 in
set_option maxRecDepth 100000 in
theorem c_X0_order (l : Launch) (D : va_G) (cB cJ : ClassId) (Hp : Heap) (x n : Nat) (kn ch : Int32) (f : Nat → Int64) (hP : va_P D vwCl (wC x n cJ kn ch f) Hp) (hD9 : va_D (fun _ => True) (wC x n cJ kn ch f)) : kM l D cB cJ yX0_order wsX0_order rm_X0_order (va_A (wC x n cJ kn ch f) Hp.size) Hp [.ref x] (kPt D x n cB cJ (va_A (wC x n cJ kn ch f) Hp.size) kn ch f j_X0_order) 20 2234 := by
  refine Met.ofW (cc := cX0_order) (maxL := 3) (ret := (some (.object "java/lang/String"))) (by decide) rfl ?_
  intro p e s m args below meth c s₁ B hml hv
  obtain ⟨rfl, hHp, hE⟩ := hv
  subst hHp
  have hx := B.exec
  have hb := B.bytes
  have hr := B.returns
  have hts := atoms_spec (ws := wsX0_order) B.pre
  have hown : s.vm.findClass RX0 = some m.cls := findClass_of_methodNamed B.named
  have hlocks := B.notSynchronized
  have hK := hE.1
  have hD := hD9.self (sz := s.heap.size)
  generalize hAe : va_A (wC x n cJ kn ch f) s.heap.size = A at hE hD ⊢
  have hA : ∀ q : Nat, s.heap.size ≤ q → A q := fun q h => by rw [← hAe]; exact Or.inr h
  have hS : va_S A s.heap s.heap [] := va_S.rf
  have hl := lv_entry ([.ref x]) (n := 3) (Nat.le_of_ble_eq_true rfl)
  rw [lg_entry_eq]
  generalize (lg_sl ([.ref x]) ++ List.replicate (3 - (lg_sl ([.ref x])).length) Slot.unset).toArray = ls at hl ⊢
  have hl : lv_has ls 3 [(0, .ref x)] := hl
  have hJ : j_X0_order = (.ok ()) := rfl
  refine va_new (ci := 1) (fs := [.null, .int 0, .int 0, .int 0]) (C := RJ4) (T := TJ4) (N := 4) hx hb hts iw_X0_order_J4 tyJ4 tyJ4_ok hown (hts (.classLink RX0 84 RJ4) (by decide +kernel)) (hts (.instantiable RJ4 4) (by decide +kernel)) (hts (.initialized RJ4) (by decide +kernel)) hK hP hD hS hA rfl (fun j hj => by rcases (show j = 0 ∨ j = 1 ∨ j = 2 ∨ j = 3 by omega) with rfl | rfl | rfl | rfl <;> rfl) (Nat.le_of_ble_eq_true rfl) (Nat.le_of_ble_eq_true rfl) dX0_order_0 (fun q_1 H hP hD hS => ?_)
  have hP : va_P D vwCl [(x, .inr (2, [.ref n, .int kn, .int ch])), (n, .inl (cJ, 8, .inr (.inl f))), (q_1, .inr (1, [.null, .int 0, .int 0, .int 0]))] H := hP
  have hD : va_D A [(x, .inr (2, [.ref n, .int kn, .int ch])), (n, .inl (cJ, 8, .inr (.inl f))), (q_1, .inr (1, [.null, .int 0, .int 0, .int 0]))] := hD
  refine lv_dup hx hb dX0_order_3 rfl ?_
  have hFc := va_free (wc := [(q_1, .inr (1, [.null, .int 0, .int 0, .int 0]))]) hD hS hA [2] rfl
  refine k_go (va_runI (As := []) (rest := [.ref q_1]) ⟨hx, hb, hml, hown, hts⟩ (c_J4_init_da8c8 l D cB cJ _ q_1 (hP.sub [2] rfl) ((hD.sub [2] (by decide) rfl).weaken (fun _ _ _ _ => trivial))) (cwI 0 hts gX0_order_J4_init_da8c8 rfl rfl rfl (hts (.initialized RJ4) (by decide +kernel)) (hts (.methodLink RX0 86 yJ4_init_da8c8) (by decide +kernel)) (hts (.instanceMethod yJ4_init_da8c8) (by decide +kernel)) rfl (by decide +kernel) ⟨(Nat.le_of_ble_eq_true rfl), (Nat.le_of_ble_eq_true rfl)⟩) (k_preS hE hS hFc) rfl rfl hl.1 rfl (lv_room (Nat.le_of_ble_eq_true rfl)) dX0_order_4 ⟨(Nat.le_of_ble_eq_true rfl), (Nat.le_of_ble_eq_true rfl)⟩) hS (fun q _ h => hFc q h) hFc (fun v9 H locs hp hz hk hS => ?_)
  obtain ⟨rfl, v_2, m_2, a_2, hP1, hD1, hf_2, hn_2, hk_2, hm_2⟩ := hp
  obtain ⟨hP, hD⟩ := va_join (wr := [(x, .inr (2, [.ref n, .int kn, .int ch])), (n, .inl (cJ, 8, .inr (.inl f)))]) (wc := [(q_1, .inr (1, [.null, .int 0, .int 0, .int 0]))]) (w1 := [(q_1, .inr (1, [.ref v_2, .int 0, .int 0, .int (nI 0)])), (v_2, .inl (cB, m_2, .inl a_2))]) hP hD [2] [0, 1] rfl rfl (by decide) (by decide) hk hFc hP1 hD1
  have hP : va_P D vwCl [(x, .inr (2, [.ref n, .int kn, .int ch])), (n, .inl (cJ, 8, .inr (.inl f))), (q_1, .inr (1, [.ref v_2, .int 0, .int 0, .int (nI 0)])), (v_2, .inl (cB, m_2, .inl a_2))] H := hP
  have hD : va_D A [(x, .inr (2, [.ref n, .int kn, .int ch])), (n, .inl (cJ, 8, .inr (.inl f))), (q_1, .inr (1, [.ref v_2, .int 0, .int 0, .int (nI 0)])), (v_2, .inl (cB, m_2, .inl a_2))] := hD
  refine W.eq (g2 := F0 m 7 ls [.ref q_1]) rfl ?_
  refine lv_astore_n (lv' := [(1, .ref q_1), (0, .ref x)]) hx hb dX0_order_7 rfl hl (by decide) rfl (fun ls hl => ?_)
  refine lv_iconst (v := 0) hx hb dX0_order_8 (by decide) ?_
  refine lv_istore_n (lv' := [(2, .int 0), (1, .ref q_1), (0, .ref x)]) hx hb dX0_order_9 rfl hl (by decide) rfl (fun ls hl => ?_)
  refine lp_order hx hb hml hown hts hE hA (fun k nn H locs v cp ar ls hk8 hnk hf hnm hm hP hD hS hl => ?_) 9 0 _ _ _ _ _ _ _ rfl (by decide) (by decide) hf_2 hn_2 hm_2 (hP.sub [0, 1, 2, 3] rfl) (hD.sub [0, 1, 2, 3] (by decide) rfl) hS (lv_sub hl [0, 1, 2] rfl)
  refine lv_aload_n hx hb dX0_order_43 rfl (lv_at hl 1 rfl) ?_
  have hFc := va_free (wc := [(q_1, .inr (1, [.ref v, .int 0, .int 0, .int (nI nn)])), (v, .inl (cB, cp, .inl ar))]) hD hS hA [2, 3] rfl
  refine k_go (va_runV (As := []) (rest := []) ⟨hx, hb, hml, hown, hts⟩ (c_J4_toString_0e30d l D cB cJ _ q_1 v nn cp ar (hP.sub [2, 3] rfl) ((hD.sub [2, 3] (by decide) rfl).weaken (fun _ _ _ _ => trivial)) hf hnm hm) (cwV 0 hts gX0_order_J4_toString_0e30d rfl rfl rfl (by decide +kernel) ⟨(Nat.le_of_ble_eq_true rfl), (Nat.le_of_ble_eq_true rfl)⟩) (k_preV hE hS hFc (va_recv hK hP (ci := 1) (q0 := 2) rfl rfl)) rfl rfl hl.1 rfl (lv_room (Nat.le_of_ble_eq_true rfl)) dX0_order_44 ⟨(Nat.le_of_ble_eq_true rfl), (Nat.le_of_ble_eq_true rfl)⟩) hS (fun q _ h => hFc q h) hFc (fun v9 H locs hp hz hk hS => ?_)
  obtain ⟨q_3, u_3, f_3, rfl, hP1, hD1, hf_3⟩ := hp
  obtain ⟨hP, hD⟩ := va_join (wr := [(x, .inr (2, [.ref n, .int kn, .int ch])), (n, .inl (cJ, 8, .inr (.inl f)))]) (wc := [(q_1, .inr (1, [.ref v, .int 0, .int 0, .int (nI nn)])), (v, .inl (cB, cp, .inl ar))]) (w1 := [(q_3, .inr (0, [.ref u_3, .int 0, .int 0, .int 0])), (u_3, .inl (cB, nn, .inl f_3))]) hP hD [2, 3] [0, 1] rfl rfl (by decide) (by decide) hk hFc hP1 hD1
  have hP : va_P D vwCl [(x, .inr (2, [.ref n, .int kn, .int ch])), (n, .inl (cJ, 8, .inr (.inl f))), (q_3, .inr (0, [.ref u_3, .int 0, .int 0, .int 0])), (u_3, .inl (cB, nn, .inl f_3))] H := hP
  have hD : va_D A [(x, .inr (2, [.ref n, .int kn, .int ch])), (n, .inl (cJ, 8, .inr (.inl f))), (q_3, .inr (0, [.ref u_3, .int 0, .int 0, .int 0])), (u_3, .inl (cB, nn, .inl f_3))] := hD
  refine W.eq (g2 := F0 m 47 ls [.ref q_3]) rfl ?_
  refine W.widen (k := 20) (n := 2234) (Nat.le_of_ble_eq_true rfl) (Nat.le_of_ble_eq_true rfl) ?_
  exact k_aret hx hb hr (Or.inl ⟨_, rfl⟩) hlocks hS dX0_order_47 ⟨by rw [hJ], _, nn, _, _, (by omega), rfl, hP.sub [0, 1, 2, 3] rfl, hD.sub [0, 1, 2, 3] (by decide) rfl, hf_3⟩
