abbrev rm_J5_reverse_278bc : Room := { frames := 1, cells := 0, slots := 0, locals := 20 }
theorem iw_J5_reverse_278bc_J4 : ∀ w ∈ wsJ40, w ∈ wsJ5_reverse_278bc := by decide +kernel
def jt_J5_reverse_278bc_28 (cp : Nat)  (w2 : Int32) (w3 : Int32) (t9 : Int32 → Prop) : Nat → Int32 → Prop
  | 0, _ => False
  | u9 + 1, v4 => ((v4 < 0 → (t9 v4)) ∧ (¬ (v4 < 0) → (vp_in v4 cp ∧ (vp_in (w3 - v4) cp ∧ (jt_J5_reverse_278bc_28 cp  w2 w3 t9 u9 (v4 + (-1)))))))
set_option maxHeartbeats 4000000 in
set_option maxRecDepth 100000 in
theorem lp_J5_reverse_278bc_28 {p : Program} {l : Launch} {e : Env} {s : State} {m : MethodId} {args : Array Value} {below : List Frame} {meth : Method} {c : Code} {D : va_G} {cB cJ : ClassId} {A : Nat → Prop} (b v nn cp : Nat)  (w2 : Int32) (w3 : Int32) (hx : p.tables.exec = Jvm.exec) (hb : c.code = cJ5_reverse_278bc) (hml : c.maxLocals = 7) (hr : meth.sig.returnType = (some (.object "java/lang/AbstractStringBuilder"))) (hlocks : meth.locks = false) (hown : s.vm.findClass RJ5 = some m.cls) (hts : ∀ w ∈ wsJ5_reverse_278bc, w.before args s = true) (hE : kE D cB cJ A s s.heap)  (t9 : Int32 → Prop) (kk : ∀ (v4 : Int32) (H : Heap) (locs : List Loc) (fa : Nat → Int32) (ls : Array Slot), t9 v4 → sb_Fit fa → va_P D vwCl [(b, .inr (1, [.ref v, .int 0, .int 0, .int (nI nn)])), (v, .inl (cB, cp, .inl fa))] H → va_D A [(b, .inr (1, [.ref v, .int 0, .int 0, .int (nI nn)])), (v, .inl (cB, cp, .inl fa))] → va_S A s.heap H locs → lv_has ls 7 [(0, .ref b), (1, .ref v), (2, .int w2), (3, .int w3), (4, .int v4)] → W p l e rm_J5_reverse_278bc s m args below meth c H locs 0 0 (MQ below (kQ (sbR D cB A b nn) A) args s 0 0 A) (F0 m 65 ls [])) : ∀ (u9 : Nat) (v4 : Int32) (H : Heap) (locs : List Loc) (fa : Nat → Int32) (ls : Array Slot), jt_J5_reverse_278bc_28 cp  w2 w3 t9 u9 v4 → sb_Fit fa → va_P D vwCl [(b, .inr (1, [.ref v, .int 0, .int 0, .int (nI nn)])), (v, .inl (cB, cp, .inl fa))] H → va_D A [(b, .inr (1, [.ref v, .int 0, .int 0, .int (nI nn)])), (v, .inl (cB, cp, .inl fa))] → va_S A s.heap H locs → lv_has ls 7 [(0, .ref b), (1, .ref v), (2, .int w2), (3, .int w3), (4, .int v4)] → W p l e rm_J5_reverse_278bc s m args below meth c H locs 0 0 (MQ below (kQ (sbR D cB A b nn) A) args s 0 0 A) (F0 m 28 ls []) := by
  have hK := hE.1
  intro u9
  induction u9 with
  | zero =>
    intro v4 H locs fa ls hT
    exact hT.elim
  | succ u9 ih =>
    intro v4 H locs fa ls hT hfa hP hD hS hl
    rw [jt_J5_reverse_278bc_28] at hT
    refine lv_iload hx hb dJ5_reverse_278bc_28 (lv_at hl 4 rfl) ?_
    refine lv_if_lt (tgt := 65) hx hb dJ5_reverse_278bc_30 (by decide) (fun c_1002 => ?_) (fun c_1002 => ?_)
    · exact kk v4 _ _ _ _ (hT.1 c_1002) hfa hP hD hS (lv_sub hl [0, 1, 2, 3, 4] rfl)
    · refine lv_iload_n hx hb dJ5_reverse_278bc_33 rfl (lv_at hl 3 rfl) ?_
      refine lv_iload hx hb dJ5_reverse_278bc_34 (lv_at hl 4 rfl) ?_
      refine lv_isub hx hb dJ5_reverse_278bc_36 ?_
      refine lv_istore (lv' := [(5, .int (w3 - v4)), (0, .ref b), (1, .ref v), (2, .int w2), (3, .int w3), (4, .int v4)]) hx hb dJ5_reverse_278bc_37 hl (by decide) rfl (fun ls hl => ?_)
      refine lv_aload_n hx hb dJ5_reverse_278bc_39 rfl (lv_at hl 2 rfl) ?_
      refine lv_iload hx hb dJ5_reverse_278bc_40 (lv_at hl 5 rfl) ?_
      refine va_bald hx hb hK hP 1 0 rfl rfl (hT.2 c_1002).1 dJ5_reverse_278bc_42 ?_
      refine lv_istore (lv' := [(6, .int (fa v4.toNatClampNeg)), (5, .int (w3 - v4)), (0, .ref b), (1, .ref v), (2, .int w2), (3, .int w3), (4, .int v4)]) hx hb dJ5_reverse_278bc_43 hl (by decide) rfl (fun ls hl => ?_)
      refine lv_aload_n hx hb dJ5_reverse_278bc_45 rfl (lv_at hl 3 rfl) ?_
      refine lv_iload hx hb dJ5_reverse_278bc_46 (lv_at hl 6 rfl) ?_
      refine lv_aload_n hx hb dJ5_reverse_278bc_48 rfl (lv_at hl 3 rfl) ?_
      refine lv_iload hx hb dJ5_reverse_278bc_49 (lv_at hl 1 rfl) ?_
      refine va_bald hx hb hK hP 1 0 rfl rfl (hT.2 c_1002).2.1 dJ5_reverse_278bc_51 ?_
      refine va_bast hx hb hK hP hD hS 1 0 rfl rfl (hT.2 c_1002).1 dJ5_reverse_278bc_52 (fun H locs hP hD hS => ?_)
      have hP : va_P D vwCl [(b, .inr (1, [.ref v, .int 0, .int 0, .int (nI nn)])), (v, .inl (cB, cp, .inl (upd fa v4.toNatClampNeg (vp_nar .byte (fa (w3 - v4).toNatClampNeg)))))] H := hP
      have hD : va_D A [(b, .inr (1, [.ref v, .int 0, .int 0, .int (nI nn)])), (v, .inl (cB, cp, .inl (upd fa v4.toNatClampNeg (vp_nar .byte (fa (w3 - v4).toNatClampNeg)))))] := hD
      refine lv_aload_n hx hb dJ5_reverse_278bc_53 rfl (lv_at hl 3 rfl) ?_
      refine lv_iload hx hb dJ5_reverse_278bc_54 (lv_at hl 1 rfl) ?_
      refine lv_iload hx hb dJ5_reverse_278bc_56 (lv_at hl 0 rfl) ?_
      refine va_bast hx hb hK hP hD hS 1 0 rfl rfl (hT.2 c_1002).2.1 dJ5_reverse_278bc_58 (fun H locs hP hD hS => ?_)
      have hP : va_P D vwCl [(b, .inr (1, [.ref v, .int 0, .int 0, .int (nI nn)])), (v, .inl (cB, cp, .inl (upd (upd fa v4.toNatClampNeg (vp_nar .byte (fa (w3 - v4).toNatClampNeg))) (w3 - v4).toNatClampNeg (vp_nar .byte (fa v4.toNatClampNeg)))))] H := hP
      have hD : va_D A [(b, .inr (1, [.ref v, .int 0, .int 0, .int (nI nn)])), (v, .inl (cB, cp, .inl (upd (upd fa v4.toNatClampNeg (vp_nar .byte (fa (w3 - v4).toNatClampNeg))) (w3 - v4).toNatClampNeg (vp_nar .byte (fa v4.toNatClampNeg)))))] := hD
      refine lv_iinc (v := (v4 + (-1))) (lv' := [(4, .int (v4 + (-1))), (6, .int (fa v4.toNatClampNeg)), (5, .int (w3 - v4)), (0, .ref b), (1, .ref v), (2, .int w2), (3, .int w3)]) hx hb dJ5_reverse_278bc_59 hl (k := 6) rfl rfl (by decide) rfl (fun ls hl => ?_)
      refine lv_goto (tgt := 28) hx hb dJ5_reverse_278bc_62 (by decide) ?_
      exact ih (v4 + (-1)) _ _ _ _ (hT.2 c_1002).2.2 (sb_fitU (sb_fitU hfa (k_fitN _)) (k_fitN _)) hP hD hS (lv_sub hl [3, 4, 5, 6, 0] rfl)
def T_J5_reverse_278bc (nn cp : Nat) : Prop := (jt_J5_reverse_278bc_28 cp  (nI nn) ((nI nn) - 1) (fun (v_2 : Int32) => True) 100 ((((nI nn) - 1) - 1) >>> ((1 : Int32) &&& 31)))
set_option maxHeartbeats 4000000 in
set_option maxRecDepth 100000 in
theorem c_J5_reverse_278bc (l : Launch) (D : va_G) (cB cJ : ClassId) (Hp : Heap) (b v nn cp : Nat) (ar : Nat → Int32) (hP : va_P D vwCl (wSB b v cB nn cp ar) Hp) (hD9 : va_D (fun _ => True) (wSB b v cB nn cp ar)) (hT9 : T_J5_reverse_278bc nn cp) (hf : sb_Fit ar) (hnm : nn ≤ cp) (hm : cp ≤ 130) : kM l D cB cJ yJ5_reverse_278bc wsJ5_reverse_278bc rm_J5_reverse_278bc (va_A (wSB b v cB nn cp ar) Hp.size) Hp [.ref b] (sbR D cB (va_A (wSB b v cB nn cp ar) Hp.size) b nn) 0 0 := by
  refine Met.ofW (cc := cJ5_reverse_278bc) (maxL := 7) (ret := (some (.object "java/lang/AbstractStringBuilder"))) (by decide) rfl ?_
  intro p e s m args below meth c s₁ B hml hv
  obtain ⟨rfl, hHp, hE⟩ := hv
  subst hHp
  have hx := B.exec
  have hb := B.bytes
  have hr := B.returns
  have hts := atoms_spec (ws := wsJ5_reverse_278bc) B.pre
  have hown : s.vm.findClass RJ5 = some m.cls := findClass_of_methodNamed B.named
  have hlocks := B.notSynchronized
  have hK := hE.1
  have hD := hD9.self (sz := s.heap.size)
  generalize hAe : va_A (wSB b v cB nn cp ar) s.heap.size = A at hE hD ⊢
  have hA : ∀ q : Nat, s.heap.size ≤ q → A q := fun q h => by rw [← hAe]; exact Or.inr h
  have hS : va_S A s.heap s.heap [] := va_S.rf
  have hl := lv_entry ([.ref b]) (n := 7) (Nat.le_of_ble_eq_true rfl)
  rw [lg_entry_eq]
  generalize (lg_sl ([.ref b]) ++ List.replicate (7 - (lg_sl ([.ref b])).length) Slot.unset).toArray = ls at hl ⊢
  have hl : lv_has ls 7 [(0, .ref b)] := hl
  have hT : (jt_J5_reverse_278bc_28 cp  (nI nn) ((nI nn) - 1) (fun (v_2 : Int32) => True) 100 ((((nI nn) - 1) - 1) >>> ((1 : Int32) &&& 31))) := hT9
  refine lv_aload_n hx hb dJ5_reverse_278bc_0 rfl (lv_at hl 0 rfl) ?_
  refine va_get (D := D) (ci := 1) (v := .ref v) (C := RJ4) (T := TJ4) (N := 4) hx hb hts iw_J5_reverse_278bc_J4 hown hK hP 0 rfl rfl 0 (by decide) (hts (.fieldLink RJ5 15 "java/lang/AbstractStringBuilder" "value" "[B") (by decide +kernel)) (fun _ h9 => h9) rfl dJ5_reverse_278bc_1 ?_
  refine lv_astore_n (lv' := [(1, .ref v), (0, .ref b)]) hx hb dJ5_reverse_278bc_4 rfl hl (by decide) rfl (fun ls hl => ?_)
  refine lv_aload_n hx hb dJ5_reverse_278bc_5 rfl (lv_at hl 1 rfl) ?_
  refine va_get (D := D) (ci := 1) (v := .int (nI nn)) (C := RJ4) (T := TJ4) (N := 4) hx hb hts iw_J5_reverse_278bc_J4 hown hK hP 0 rfl rfl 3 (by decide) (hts (.fieldLink RJ5 79 "java/lang/AbstractStringBuilder" "count" "I") (by decide +kernel)) (fun _ h9 => h9) rfl dJ5_reverse_278bc_6 ?_
  refine lv_istore_n (lv' := [(2, .int (nI nn)), (1, .ref v), (0, .ref b)]) hx hb dJ5_reverse_278bc_9 rfl hl (by decide) rfl (fun ls hl => ?_)
  refine lv_iload_n hx hb dJ5_reverse_278bc_10 rfl (lv_at hl 0 rfl) ?_
  refine lv_iconst (v := 1) hx hb dJ5_reverse_278bc_11 (by decide) ?_
  refine lv_isub hx hb dJ5_reverse_278bc_12 ?_
  refine lv_istore_n (lv' := [(3, .int ((nI nn) - 1)), (2, .int (nI nn)), (1, .ref v), (0, .ref b)]) hx hb dJ5_reverse_278bc_13 rfl hl (by decide) rfl (fun ls hl => ?_)
  refine lv_aload_n hx hb dJ5_reverse_278bc_14 rfl (lv_at hl 3 rfl) ?_
  refine k_pU [] (rest := []) ⟨hx, hb, hml, hown, hts⟩ (c_J5_isLatin1_aae02 l D cB cJ _ b v nn cp ar (hP.sub [0, 1] rfl)) (va_cwU 0 hts gJ5_reverse_278bc_J5_isLatin1_aae02_u83J4 rfl rfl rfl rfl (by decide +kernel) ⟨(Nat.le_of_ble_eq_true rfl), (Nat.le_of_ble_eq_true rfl)⟩) (va_recv hK hP (ci := 1) (q0 := 0) rfl rfl) hE hS rfl rfl hl.1 (Nat.le_of_ble_eq_true rfl) dJ5_reverse_278bc_15 ⟨(Nat.le_of_ble_eq_true rfl), (Nat.le_of_ble_eq_true rfl)⟩ (fun locs hS => ?_)
  refine W.eq (g2 := F0 m 18 ls [.int (j_J5_isLatin1_aae02 nn cp ar)]) rfl ?_
  refine lv_if_eq (tgt := 68) hx hb dJ5_reverse_278bc_18 (by decide) (fun c_1 => ?_) (fun c_1 => ?_)
  · exact absurd c_1 (show ¬ (1 : Int32) = 0 by decide)
  · refine lv_iload_n hx hb dJ5_reverse_278bc_21 rfl (lv_at hl 0 rfl) ?_
    refine lv_iconst (v := 1) hx hb dJ5_reverse_278bc_22 (by decide) ?_
    refine lv_isub hx hb dJ5_reverse_278bc_23 ?_
    refine lv_iconst (v := 1) hx hb dJ5_reverse_278bc_24 (by decide) ?_
    refine lv_ishr hx hb dJ5_reverse_278bc_25 ?_
    refine lv_istore (lv' := [(4, .int ((((nI nn) - 1) - 1) >>> ((1 : Int32) &&& 31))), (3, .int ((nI nn) - 1)), (2, .int (nI nn)), (1, .ref v), (0, .ref b)]) hx hb dJ5_reverse_278bc_26 hl (by decide) rfl (fun ls hl => ?_)
    refine lp_J5_reverse_278bc_28 b v nn cp  (nI nn) ((nI nn) - 1)  hx hb hml hr hlocks hown hts hE (fun (v_2 : Int32) => True) (fun v_2 H locs fa_3 ls hT hfa_3 hP hD hS hl => ?_) 100 ((((nI nn) - 1) - 1) >>> ((1 : Int32) &&& 31)) _ _ _ _ hT hf hP hD hS (lv_sub hl [4, 3, 2, 1, 0] rfl)
    (try dsimp only at hT)
    refine lv_goto (tgt := 73) hx hb dJ5_reverse_278bc_65 (by decide) ?_
    refine lv_aload_n hx hb dJ5_reverse_278bc_73 rfl (lv_at hl 0 rfl) ?_
    exact k_aret hx hb hr (Or.inl ⟨_, rfl⟩) hlocks hS dJ5_reverse_278bc_74 ⟨rfl, _, _, _, hP.sub [0, 1] rfl, hD.sub [0, 1] (by decide) rfl, hfa_3, hnm, hm⟩
theorem q_revT (w2 : Int32) (nn cp : Nat) (h1 : nn ≤ cp) (h2 : cp ≤ 130) : ∀ (u j : Nat), j + 2 ≤ u → j + 1 ≤ nn → jt_J5_reverse_278bc_28 cp w2 (nI nn - 1) (fun _ => True) u (nI j) := by
  intro u
  induction u with
  | zero => intro j h3; exact absurd h3 (by omega)
  | succ u ih =>
    intro j h3 h4
    rw [jt_J5_reverse_278bc_28]
    have e1 : nI nn - 1 = nI (nn - 1) := pk_sub (a := nn) (b := 1) (by omega)
    have e2 : nI (nn - 1) - nI j = nI (nn - 1 - j) := pk_sub (by omega)
    refine ⟨fun _ => trivial, fun _ => ⟨vp_in_nI (by omega) (by omega), by rw [e1, e2]; exact vp_in_nI (by omega) (by omega), ?_⟩⟩
    cases j with
    | zero =>
      obtain ⟨u, rfl⟩ : ∃ k, u = k + 1 := ⟨u - 1, by omega⟩
      rw [jt_J5_reverse_278bc_28]
      exact ⟨fun _ => trivial, fun c => absurd (show nI 0 + -1 < 0 by decide) c⟩
    | succ j =>
      have e3 : nI (j + 1) + -1 = nI j := by
        rw [← Int32.sub_eq_add_neg]
        exact pk_sub (a := j + 1) (b := 1) (by omega)
      rw [e3]
      exact ih j (by omega) (by omega)
theorem q_revH : ∀ k, k < 131 → 2 ≤ k → (nI k - 1 - 1) >>> ((1 : Int32) &&& 31) = nI ((k - 2) / 2) := by decide +kernel
theorem q_rev (nn cp : Nat) (h1 : nn ≤ cp) (h2 : cp ≤ 130) : T_J5_reverse_278bc nn cp := by
  rcases Nat.lt_or_ge nn 2 with h | h
  · have h0 : ∀ k, k < 2 → (nI k - 1 - 1) >>> ((1 : Int32) &&& 31) < 0 := by decide +kernel
    unfold T_J5_reverse_278bc
    rw [jt_J5_reverse_278bc_28]
    exact ⟨fun _ => trivial, fun c => absurd (h0 nn h) c⟩
  · unfold T_J5_reverse_278bc
    rw [q_revH nn (by omega) h]
    exact q_revT _ nn cp h1 h2 100 ((nn - 2) / 2) (by omega) (by omega)
set_option maxHeartbeats 4000000 in
set_option maxRecDepth 100000 in
theorem c_J4_reverse_43fcb (l : Launch) (D : va_G) (cB cJ : ClassId) (Hp : Heap) (b v nn cp : Nat) (ar : Nat → Int32) (hP : va_P D vwCl (wSB b v cB nn cp ar) Hp) (hD9 : va_D (fun _ => True) (wSB b v cB nn cp ar))  (hf : sb_Fit ar) (hnm : nn ≤ cp) (hm : cp ≤ 130)  : kM l D cB cJ yJ4_reverse_43fcb wsJ4_reverse_43fcb ({ frames := 2, cells := 0, slots := 0, locals := 46 }) (va_A (wSB b v cB nn cp ar) Hp.size) Hp [.ref b] (sbR D cB (va_A (wSB b v cB nn cp ar) Hp.size) b (nn)) 0 0 := by
  refine Met.ofW (cc := cJ4_reverse_43fcb) (maxL := 1) (ret := (some (.object "java/lang/StringBuilder"))) (by decide) rfl ?_
  intro p e s m args below meth c s₁ B hml hv
  obtain ⟨rfl, hHp, hE⟩ := hv
  subst hHp
  have hx := B.exec
  have hb := B.bytes
  have hr := B.returns
  have hts := atoms_spec (ws := wsJ4_reverse_43fcb) B.pre
  have hown : s.vm.findClass RJ4 = some m.cls := findClass_of_methodNamed B.named
  have hlocks := B.notSynchronized
  have hK := hE.1
  have hD := hD9.self (sz := s.heap.size)
  generalize hAe : va_A (wSB b v cB nn cp ar) s.heap.size = A at hE hD ⊢
  have hA : ∀ q : Nat, s.heap.size ≤ q → A q := fun q h => by rw [← hAe]; exact Or.inr h
  have hS : va_S A s.heap s.heap [] := va_S.rf
  have hl := lv_entry ([.ref b]) (n := 1) (Nat.le_of_ble_eq_true rfl)
  rw [lg_entry_eq]
  generalize (lg_sl ([.ref b]) ++ List.replicate (1 - (lg_sl ([.ref b])).length) Slot.unset).toArray = ls at hl ⊢
  have hl : lv_has ls 1 [(0, .ref b)] := hl
  refine lv_aload_n hx hb dJ4_reverse_43fcb_0 rfl (lv_at hl 0 rfl) ?_
  have hFc := va_free (wc := [(b, .inr (1, [.ref v, .int 0, .int 0, .int (nI nn)])), (v, .inl (cB, cp, .inl ar))]) hD hS hA [0, 1] rfl
  refine k_go (va_runSU (As := []) (rest := []) (hK.1 1 _ rfl).2 ⟨hx, hb, hml, hown, hts⟩ (c_J5_reverse_278bc l D cB cJ _ b v nn cp ar (hP.sub [0, 1] rfl) ((hD.sub [0, 1] (by decide) rfl).weaken (fun _ _ _ _ => trivial)) (q_rev _ _ hnm hm) hf hnm hm) (va_cwSU 0 hts gJ4_reverse_43fcb_J5_reverse_278bc_s127 rfl rfl rfl (by decide +kernel) ⟨(Nat.le_of_ble_eq_true rfl), (Nat.le_of_ble_eq_true rfl)⟩) (k_preV hE hS hFc (va_recv hK hP (ci := 1) (q0 := 0) rfl rfl)) rfl rfl hl.1 rfl (lv_room (Nat.le_of_ble_eq_true rfl)) dJ4_reverse_43fcb_1 ⟨(Nat.le_of_ble_eq_true rfl), (Nat.le_of_ble_eq_true rfl)⟩) hS (fun q _ h => hFc q h) hFc (fun v9 H locs hp hz hk hS => ?_)
  obtain ⟨rfl, v_1, m_1, a_1, hP1, hD1, hf_1, hn_1, hm_1⟩ := hp
  obtain ⟨hP, hD⟩ := va_join (wr := []) (wc := [(b, .inr (1, [.ref v, .int 0, .int 0, .int (nI nn)])), (v, .inl (cB, cp, .inl ar))]) (w1 := [(b, .inr (1, [.ref v_1, .int 0, .int 0, .int (nI nn)])), (v_1, .inl (cB, m_1, .inl a_1))]) hP hD [0, 1] [] rfl rfl (by decide) (by decide) hk hFc hP1 hD1
  have hP : va_P D vwCl [(b, .inr (1, [.ref v_1, .int 0, .int 0, .int (nI nn)])), (v_1, .inl (cB, m_1, .inl a_1))] H := hP
  have hD : va_D A [(b, .inr (1, [.ref v_1, .int 0, .int 0, .int (nI nn)])), (v_1, .inl (cB, m_1, .inl a_1))] := hD
  refine W.eq (g2 := F0 m 4 ls [.ref b]) rfl ?_
  refine lv_pop hx hb dJ4_reverse_43fcb_4 rfl ?_
  refine lv_aload_n hx hb dJ4_reverse_43fcb_5 rfl (lv_at hl 0 rfl) ?_
  exact k_aret hx hb hr (Or.inl ⟨_, rfl⟩) hlocks hS dJ4_reverse_43fcb_6 ⟨rfl, _, _, _, hP.sub [0, 1] rfl, hD.sub [0, 1] (by decide) rfl, hf_1, hn_1, hm_1⟩
