/-- ordered()'s string so far: the empty constant, or one of the world -/
def kMd (D : va_G) (y n2 : Nat) (cJ cB : ClassId) (A : Nat → Prop) (k0 : Nat) (th : Int32) (g : Nat → Int64) (kn2 td : Int32) (cn mq : Nat) (H : Heap) : Prop := (mq = k0 ∧ cn = 0 ∧ va_P D vwCl (wMo y n2 cJ th g kn2 td) H ∧ va_D A (wMo y n2 cJ th g kn2 td)) ∨ ∃ (nn u : Nat) (f : Nat → Int32), nn ≤ 2 * cn ∧ va_P D vwCl (wMo y n2 cJ th g kn2 td ++ wST mq u cB nn f) H ∧ va_D A (wMo y n2 cJ th g kn2 td ++ wST mq u cB nn f) ∧ sb_Fit f
def kPmo (D : va_G) (y n2 : Nat) (cJ cB : ClassId) (A : Nat → Prop) (th : Int32) (g : Nat → Int64) (kn2 td : Int32) : Option Value → Heap → Prop := fun v1 H1 => ∃ (q nn u : Nat) (f : Nat → Int32), nn ≤ 60 ∧ v1 = some (.ref q) ∧ va_P D vwCl (wMo y n2 cJ th g kn2 td ++ wST q u cB nn f) H1 ∧ va_D A (wMo y n2 cJ th g kn2 td ++ wST q u cB nn f) ∧ sb_Fit f
abbrev rm_X2_ordered : Room := { frames := 6, cells := 60, slots := 4500, locals := 191 }
theorem iw_X2_ordered_J0 : ∀ w ∈ wsJ00, w ∈ wsX2_ordered := by decide +kernel
theorem iw_X2_ordered_J4 : ∀ w ∈ wsJ40, w ∈ wsX2_ordered := by decide +kernel
theorem iw_X2_ordered_X2 : ∀ w ∈ wsX20, w ∈ wsX2_ordered := by decide +kernel
set_option maxHeartbeats 4000000 in
set_option maxRecDepth 100000 in
theorem lpo_in {p : Program} {l : Launch} {e : Env} {s : State} {m : MethodId} {args : Array Value} {below : List Frame} {meth : Method} {c : Code} {D : va_G} {cB cJ : ClassId} {A : Nat → Prop} {y n2 : Nat} {th kn2 td : Int32} {g : Nat → Int64} {H : Heap} {locs : List Loc} {cells slots : Nat} {Q : State → Prop} {mq ck rk : Nat} (hx : p.tables.exec = Jvm.exec) (hb : c.code = cX2_ordered) (hml : c.maxLocals = 6) (hown : s.vm.findClass RX2 = some m.cls) (hts : ∀ w ∈ wsX2_ordered, w.before args s = true) (hE : kE D cB cJ A s s.heap) (hP : va_P D vwCl (wMo y n2 cJ th g kn2 td) H) (hS : va_S A s.heap H locs) (hck : ck < 8) (kk : ∀ (ls : Array Slot), lv_has ls 6 [(4, .int (nI (o_ah g ck 8))), (3, .int (nI ck)), (2, .int (nI rk)), (1, .ref mq), (0, .ref y)] → W p l e rm_X2_ordered s m args below meth c H locs cells slots Q (F0 m 88 ls [])) : ∀ (u9 : Nat) (ot : Nat) (v4 : Int32) (ls : Array Slot), ot + u9 = 9 → ot ≤ 8 → v4 = nI (o_ah g ck ot) → lv_has ls 6 [(4, .int v4), (5, .int (nI ot)), (3, .int (nI ck)), (2, .int (nI rk)), (1, .ref mq), (0, .ref y)] → W p l e rm_X2_ordered s m args below meth c H locs cells slots Q (F0 m 25 ls []) := by
  have hK := hE.1
  intro u9
  induction u9 with
  | zero =>
    intro ot v4 ls h9 h19
    exact absurd h9 (by omega)
  | succ u9 ih =>
    intro ot v4 ls h9 ho9 e4 hl
    refine lv_iload hx hb dX2_ordered_25 (lv_at hl 1 rfl) ?_
    refine lv_bipush (v := 8) hx hb dX2_ordered_27 (by decide) ?_
    refine lv_icmp_ge (tgt := 88) hx hb dX2_ordered_29 (by decide) (fun c_1 => ?_) (fun c_1 => ?_)
    · obtain rfl : ot = 8 := by have h9 := c_1; rcases Nat.lt_or_ge ot 8 with z | z; exact absurd ((nI_leI (by decide) (by omega)).mp (show nI 8 ≤ nI ot from h9)) (by omega); omega
      rw [e4] at hl
      exact kk _ (lv_sub hl [0, 2, 3, 4, 5] rfl)
    · have ho8 : ot < 8 := Nat.lt_of_not_le (fun q => c_1 (nI_le q (by omega)))
      refine lv_iload hx hb dX2_ordered_32 (lv_at hl 0 rfl) ?_
      refine lv_aload_n hx hb dX2_ordered_34 rfl (lv_at hl 5 rfl) ?_
      refine va_get (D := D) (ci := 4) (v := .ref n2) (C := RX2) (T := TX2) (N := 4) hx hb hts iw_X2_ordered_X2 hown hK hP 0 rfl rfl 1 (by decide) (hts (.fieldLink RX2 9 "ClocksoloModel" "its" "[J") (by decide +kernel)) (fun _ h9 => h9) rfl dX2_ordered_35 ?_
      refine lv_iload hx hb dX2_ordered_38 (lv_at hl 1 rfl) ?_
      refine va_lald hx hb hK hP 1 1 rfl rfl (vp_in_nI ho8 (by decide)) dX2_ordered_40 ?_
      refine lv_aload_n hx hb dX2_ordered_41 rfl (lv_at hl 5 rfl) ?_
      refine va_get (D := D) (ci := 4) (v := .ref n2) (C := RX2) (T := TX2) (N := 4) hx hb hts iw_X2_ordered_X2 hown hK hP 0 rfl rfl 1 (by decide) (hts (.fieldLink RX2 9 "ClocksoloModel" "its" "[J") (by decide +kernel)) (fun _ h9 => h9) rfl dX2_ordered_42 ?_
      refine lv_iload_n hx hb dX2_ordered_45 rfl (lv_at hl 2 rfl) ?_
      refine va_lald hx hb hK hP 1 1 rfl rfl (vp_in_nI hck (by decide)) dX2_ordered_46 ?_
      refine kl_lt (tgt := 74) hx hb dX2_ordered_47 dX2_ordered_48 (by decide) (fun c_2 => ?_) (fun c_2 => ?_)
      · refine lv_iconst (v := 1) hx hb dX2_ordered_74 (by decide) ?_
        refine lv_goto (tgt := 79) hx hb dX2_ordered_75 (by decide) ?_
        refine lv_iadd hx hb dX2_ordered_79 ?_
        refine lv_istore (lv' := [(4, .int (v4 + 1)), (5, .int (nI ot)), (3, .int (nI ck)), (2, .int (nI rk)), (1, .ref mq), (0, .ref y)]) hx hb dX2_ordered_80 hl (by decide) rfl (fun ls hl => ?_)
        refine lv_iinc (v := ((nI ot) + 1)) (lv' := [(5, .int ((nI ot) + 1)), (4, .int (v4 + 1)), (3, .int (nI ck)), (2, .int (nI rk)), (1, .ref mq), (0, .ref y)]) hx hb dX2_ordered_82 hl (k := 1) rfl rfl (by decide) rfl (fun ls hl => ?_)
        refine lv_goto (tgt := 25) hx hb dX2_ordered_85 (by decide) ?_
        rw [nI_1] at hl
        exact ih (ot + 1) _ _ (by omega) (by omega) (by rw [e4]; exact q_ahL ho8 hck c_2) (lv_sub hl [1, 0, 2, 3, 4, 5] rfl)
      · refine lv_aload_n hx hb dX2_ordered_51 rfl (lv_at hl 5 rfl) ?_
        refine va_get (D := D) (ci := 4) (v := .ref n2) (C := RX2) (T := TX2) (N := 4) hx hb hts iw_X2_ordered_X2 hown hK hP 0 rfl rfl 1 (by decide) (hts (.fieldLink RX2 9 "ClocksoloModel" "its" "[J") (by decide +kernel)) (fun _ h9 => h9) rfl dX2_ordered_52 ?_
        refine lv_iload hx hb dX2_ordered_55 (lv_at hl 1 rfl) ?_
        refine va_lald hx hb hK hP 1 1 rfl rfl (vp_in_nI ho8 (by decide)) dX2_ordered_57 ?_
        refine lv_aload_n hx hb dX2_ordered_58 rfl (lv_at hl 5 rfl) ?_
        refine va_get (D := D) (ci := 4) (v := .ref n2) (C := RX2) (T := TX2) (N := 4) hx hb hts iw_X2_ordered_X2 hown hK hP 0 rfl rfl 1 (by decide) (hts (.fieldLink RX2 9 "ClocksoloModel" "its" "[J") (by decide +kernel)) (fun _ h9 => h9) rfl dX2_ordered_59 ?_
        refine lv_iload_n hx hb dX2_ordered_62 rfl (lv_at hl 2 rfl) ?_
        refine va_lald hx hb hK hP 1 1 rfl rfl (vp_in_nI hck (by decide)) dX2_ordered_63 ?_
        refine kl_ne (tgt := 78) hx hb dX2_ordered_64 dX2_ordered_65 (by decide) (fun c_3 => ?_) (fun c_3 => ?_)
        · refine lv_iconst (v := 0) hx hb dX2_ordered_78 (by decide) ?_
          refine lv_iadd hx hb dX2_ordered_79 ?_
          refine lv_istore (lv' := [(4, .int (v4 + 0)), (5, .int (nI ot)), (3, .int (nI ck)), (2, .int (nI rk)), (1, .ref mq), (0, .ref y)]) hx hb dX2_ordered_80 hl (by decide) rfl (fun ls hl => ?_)
          refine lv_iinc (v := ((nI ot) + 1)) (lv' := [(5, .int ((nI ot) + 1)), (4, .int (v4 + 0)), (3, .int (nI ck)), (2, .int (nI rk)), (1, .ref mq), (0, .ref y)]) hx hb dX2_ordered_82 hl (k := 1) rfl rfl (by decide) rfl (fun ls hl => ?_)
          refine lv_goto (tgt := 25) hx hb dX2_ordered_85 (by decide) ?_
          rw [nI_1] at hl
          exact ih (ot + 1) _ _ (by omega) (by omega) (by rw [e4]; exact q_ahN ho8 hck c_2 (Or.inl c_3)) (lv_sub hl [1, 0, 2, 3, 4, 5] rfl)
        · refine lv_iload hx hb dX2_ordered_68 (lv_at hl 1 rfl) ?_
          refine lv_iload_n hx hb dX2_ordered_70 rfl (lv_at hl 2 rfl) ?_
          refine lv_icmp_ge (tgt := 78) hx hb dX2_ordered_71 (by decide) (fun c_4 => ?_) (fun c_4 => ?_)
          · refine lv_iconst (v := 0) hx hb dX2_ordered_78 (by decide) ?_
            refine lv_iadd hx hb dX2_ordered_79 ?_
            refine lv_istore (lv' := [(4, .int (v4 + 0)), (5, .int (nI ot)), (3, .int (nI ck)), (2, .int (nI rk)), (1, .ref mq), (0, .ref y)]) hx hb dX2_ordered_80 hl (by decide) rfl (fun ls hl => ?_)
            refine lv_iinc (v := ((nI ot) + 1)) (lv' := [(5, .int ((nI ot) + 1)), (4, .int (v4 + 0)), (3, .int (nI ck)), (2, .int (nI rk)), (1, .ref mq), (0, .ref y)]) hx hb dX2_ordered_82 hl (k := 1) rfl rfl (by decide) rfl (fun ls hl => ?_)
            refine lv_goto (tgt := 25) hx hb dX2_ordered_85 (by decide) ?_
            rw [nI_1] at hl
            exact ih (ot + 1) _ _ (by omega) (by omega) (by rw [e4]; exact q_ahN ho8 hck c_2 (Or.inr c_4)) (lv_sub hl [1, 0, 2, 3, 4, 5] rfl)
          · refine lv_iconst (v := 1) hx hb dX2_ordered_74 (by decide) ?_
            refine lv_goto (tgt := 79) hx hb dX2_ordered_75 (by decide) ?_
            refine lv_iadd hx hb dX2_ordered_79 ?_
            refine lv_istore (lv' := [(4, .int (v4 + 1)), (5, .int (nI ot)), (3, .int (nI ck)), (2, .int (nI rk)), (1, .ref mq), (0, .ref y)]) hx hb dX2_ordered_80 hl (by decide) rfl (fun ls hl => ?_)
            refine lv_iinc (v := ((nI ot) + 1)) (lv' := [(5, .int ((nI ot) + 1)), (4, .int (v4 + 1)), (3, .int (nI ck)), (2, .int (nI rk)), (1, .ref mq), (0, .ref y)]) hx hb dX2_ordered_82 hl (k := 1) rfl rfl (by decide) rfl (fun ls hl => ?_)
            refine lv_goto (tgt := 25) hx hb dX2_ordered_85 (by decide) ?_
            rw [nI_1] at hl
            exact ih (ot + 1) _ _ (by omega) (by omega) (by rw [e4]; exact q_ahE ho8 hck c_3 c_4) (lv_sub hl [1, 0, 2, 3, 4, 5] rfl)
set_option maxHeartbeats 4000000 in
set_option maxRecDepth 100000 in
theorem lpo_ck {p : Program} {l : Launch} {e : Env} {s : State} {m : MethodId} {args : Array Value} {below : List Frame} {meth : Method} {c : Code} {D : va_G} {cB cJ : ClassId} {A : Nat → Prop} {y n2 : Nat} {th kn2 td : Int32} {g : Nat → Int64} {Q : State → Prop} {rk : Nat} {k8 : Nat → Nat} (hx : p.tables.exec = Jvm.exec) (hb : c.code = cX2_ordered) (hml : c.maxLocals = 6) (hown : s.vm.findClass RX2 = some m.cls) (hts : ∀ w ∈ wsX2_ordered, w.before args s = true) (hE : kE D cB cJ A s s.heap) (hA : ∀ q : Nat, s.heap.size ≤ q → A q) (hL : ∀ (i : Nat) (q : Nat × String × List Int32), t_MS[i]? = some q → vk_R RX2 q.1 q.2.1 (k8 i) s ∧ kRS A s s.heap (k8 i) q.2.2.length (fun j => q.2.2.getD j 0)) (hrk : rk < 8) (kk : ∀ (mq : Nat) (H : Heap) (locs : List Loc) (ls : Array Slot), kMd D y n2 cJ cB A (k8 0) th g kn2 td (o_cnt (fun k => o_ah g k 8) rk 8) mq H → va_S A s.heap H locs → lv_has ls 6 [(2, .int (nI rk)), (1, .ref mq), (0, .ref y)] → W p l e rm_X2_ordered s m args below meth c H locs (7 * o_cnt (fun k => o_ah g k 8) rk 8) (544 * o_cnt (fun k => o_ah g k 8) rk 8) Q (F0 m 133 ls [])) : ∀ (u9 : Nat) (ck : Nat) (mq : Nat) (H : Heap) (locs : List Loc) (ls : Array Slot), ck + u9 = 9 → ck ≤ 8 → kMd D y n2 cJ cB A (k8 0) th g kn2 td (o_cnt (fun k => o_ah g k 8) rk ck) mq H → va_S A s.heap H locs → lv_has ls 6 [(3, .int (nI ck)), (2, .int (nI rk)), (1, .ref mq), (0, .ref y)] → W p l e rm_X2_ordered s m args below meth c H locs (7 * o_cnt (fun k => o_ah g k 8) rk ck) (544 * o_cnt (fun k => o_ah g k 8) rk ck) Q (F0 m 13 ls []) := by
  have hK := hE.1
  intro u9
  induction u9 with
  | zero =>
    intro ck mq H locs ls h9 h19
    exact absurd h9 (by omega)
  | succ u9 ih =>
    intro ck mq H locs ls h9 hc9 hM hS hl
    have hcle := o_cnt_le (fun k => o_ah g k 8) rk ck
    rcases hM with ⟨rfl, h00, hP, hD⟩ | ⟨nn, u, f, hn2c, hP, hD, hfq⟩
    · have hP : va_P D vwCl [(y, .inr (4, [.int th, .ref n2, .int kn2, .int td])), (n2, .inl (cJ, 8, .inr (.inl g)))] H := hP
      have hD : va_D A [(y, .inr (4, [.int th, .ref n2, .int kn2, .int td])), (n2, .inl (cJ, 8, .inr (.inl g)))] := hD
      refine lv_iload_n hx hb dX2_ordered_13 rfl (lv_at hl 0 rfl) ?_
      refine lv_bipush (v := 8) hx hb dX2_ordered_14 (by decide) ?_
      refine lv_icmp_ge (tgt := 133) hx hb dX2_ordered_16 (by decide) (fun c_1 => ?_) (fun c_1 => ?_)
      · obtain rfl : ck = 8 := by have h9 := c_1; rcases Nat.lt_or_ge ck 8 with z | z; exact absurd ((nI_leI (by decide) (by omega)).mp (show nI 8 ≤ nI ck from h9)) (by omega); omega
        exact kk _ _ _ _ (Or.inl ⟨rfl, h00, hP, hD⟩) hS (lv_sub hl [1, 2, 3] rfl)
      · have hck : ck < 8 := Nat.lt_of_not_le (fun q => c_1 (nI_le q (by omega)))
        refine lv_iconst (v := 0) hx hb dX2_ordered_19 (by decide) ?_
        refine lv_istore (lv' := [(4, .int 0), (3, .int (nI ck)), (2, .int (nI rk)), (1, .ref (k8 0)), (0, .ref y)]) hx hb dX2_ordered_20 hl (by decide) rfl (fun ls hl => ?_)
        refine lv_iconst (v := 0) hx hb dX2_ordered_22 (by decide) ?_
        refine lv_istore (lv' := [(5, .int 0), (4, .int 0), (3, .int (nI ck)), (2, .int (nI rk)), (1, .ref (k8 0)), (0, .ref y)]) hx hb dX2_ordered_23 hl (by decide) rfl (fun ls hl => ?_)
        refine lpo_in hx hb hml hown hts hE (hP.sub [0, 1] rfl) hS (by omega) (fun ls hl => ?_) 9 0 _ _ rfl (by decide) nI_0.symm (lv_sub hl [1, 0, 2, 3, 4, 5] rfl)
        refine lv_iload hx hb dX2_ordered_88 (lv_at hl 0 rfl) ?_
        refine lv_iload_n hx hb dX2_ordered_90 rfl (lv_at hl 2 rfl) ?_
        refine lv_icmp_ne (tgt := 127) hx hb dX2_ordered_91 (by decide) (fun c_2 => ?_) (fun c_2 => ?_)
        · have hcn := q_cntN (fun k => o_ah g k 8) (rk := rk) hck c_2
          refine lv_iinc (v := ((nI ck) + 1)) (lv' := [(3, .int ((nI ck) + 1)), (4, .int (nI (o_ah g ck 8))), (2, .int (nI rk)), (1, .ref (k8 0)), (0, .ref y)]) hx hb dX2_ordered_127 hl (k := 1) rfl rfl (by decide) rfl (fun ls hl => ?_)
          refine lv_goto (tgt := 13) hx hb dX2_ordered_130 (by decide) ?_
          rw [nI_1] at hl
          refine W.widen (k := 7 * o_cnt (fun k => o_ah g k 8) rk (ck + 1)) (n := 544 * o_cnt (fun k => o_ah g k 8) rk (ck + 1)) (by omega) (by omega) ?_
          exact ih (ck + 1) _ _ _ _ (by omega) (by omega) (Or.inl ⟨rfl, by omega, hP.sub [0, 1] rfl, hD.sub [0, 1] (by decide) rfl⟩) hS (lv_sub hl [0, 2, 3, 4] rfl)
        · have hcn := q_cntE (fun k => o_ah g k 8) (fun k _ => o_ah_le g k 8) (rk := rk) (by omega) hck c_2
          have hcle2 := o_cnt_le (fun k => o_ah g k 8) rk (ck + 1)
          refine va_new (ci := 1) (fs := [.null, .int 0, .int 0, .int 0]) (C := RJ4) (T := TJ4) (N := 4) hx hb hts iw_X2_ordered_J4 tyJ4 tyJ4_ok hown (hts (.classLink RX2 79 RJ4) (by decide +kernel)) (hts (.instantiable RJ4 4) (by decide +kernel)) (hts (.initialized RJ4) (by decide +kernel)) hK hP hD hS hA rfl (fun j hj => by rcases (show j = 0 ∨ j = 1 ∨ j = 2 ∨ j = 3 by omega) with rfl | rfl | rfl | rfl <;> rfl) (by show _ ≤ (60 : Nat); omega) (by show _ ≤ (4500 : Nat); omega) dX2_ordered_94 (fun q_3 H hP hD hS => ?_)
          have hP : va_P D vwCl [(y, .inr (4, [.int th, .ref n2, .int kn2, .int td])), (n2, .inl (cJ, 8, .inr (.inl g))), (q_3, .inr (1, [.null, .int 0, .int 0, .int 0]))] H := hP
          have hD : va_D A [(y, .inr (4, [.int th, .ref n2, .int kn2, .int td])), (n2, .inl (cJ, 8, .inr (.inl g))), (q_3, .inr (1, [.null, .int 0, .int 0, .int 0]))] := hD
          refine lv_dup hx hb dX2_ordered_97 rfl ?_
          have hFc := va_free (wc := [(q_3, .inr (1, [.null, .int 0, .int 0, .int 0]))]) hD hS hA [2] rfl
          refine k_go (va_runI (As := []) (rest := [.ref q_3]) ⟨hx, hb, hml, hown, hts⟩ (c_J4_init_da8c8 l D cB cJ _ q_3 (hP.sub [2] rfl) ((hD.sub [2] (by decide) rfl).weaken (fun _ _ _ _ => trivial))) (cwI 0 hts gX2_ordered_J4_init_da8c8 rfl rfl rfl (hts (.initialized RJ4) (by decide +kernel)) (hts (.methodLink RX2 81 yJ4_init_da8c8) (by decide +kernel)) (hts (.instanceMethod yJ4_init_da8c8) (by decide +kernel)) rfl (by decide +kernel) ⟨(Nat.le_of_ble_eq_true rfl), (Nat.le_of_ble_eq_true rfl)⟩) (k_preS hE hS hFc) rfl rfl hl.1 rfl (lv_room (Nat.le_of_ble_eq_true rfl)) dX2_ordered_98 ⟨by show _ ≤ (60 : Nat); omega, by show _ ≤ (4500 : Nat); omega⟩) hS (fun q _ h => hFc q h) hFc (fun v9 H locs hp hz hk hS => ?_)
          obtain ⟨rfl, v_4, m_4, a_4, hP1, hD1, hf_4, hn_4, hk_4, hm_4⟩ := hp
          obtain ⟨hP, hD⟩ := va_join (wr := [(y, .inr (4, [.int th, .ref n2, .int kn2, .int td])), (n2, .inl (cJ, 8, .inr (.inl g)))]) (wc := [(q_3, .inr (1, [.null, .int 0, .int 0, .int 0]))]) (w1 := [(q_3, .inr (1, [.ref v_4, .int 0, .int 0, .int (nI 0)])), (v_4, .inl (cB, m_4, .inl a_4))]) hP hD [2] [0, 1] rfl rfl (by decide) (by decide) hk hFc hP1 hD1
          have hP : va_P D vwCl [(y, .inr (4, [.int th, .ref n2, .int kn2, .int td])), (n2, .inl (cJ, 8, .inr (.inl g))), (q_3, .inr (1, [.ref v_4, .int 0, .int 0, .int (nI 0)])), (v_4, .inl (cB, m_4, .inl a_4))] H := hP
          have hD : va_D A [(y, .inr (4, [.int th, .ref n2, .int kn2, .int td])), (n2, .inl (cJ, 8, .inr (.inl g))), (q_3, .inr (1, [.ref v_4, .int 0, .int 0, .int (nI 0)])), (v_4, .inl (cB, m_4, .inl a_4))] := hD
          refine W.eq (g2 := F0 m 101 ls [.ref q_3]) rfl ?_
          refine lv_aload_n hx hb dX2_ordered_101 rfl (lv_at hl 3 rfl) ?_
          have hFc := va_free (wc := [(q_3, .inr (1, [.ref v_4, .int 0, .int 0, .int (nI 0)])), (v_4, .inl (cB, m_4, .inl a_4))]) hD hS hA [2, 3] rfl
          refine k_go (va_runV (As := [.ref (k8 0)]) (rest := []) ⟨hx, hb, hml, hown, hts⟩ (c_J4_append_15ec4 l D cB cJ _ q_3 v_4 0 m_4 a_4 (hP.sub [2, 3] rfl) ((hD.sub [2, 3] (by decide) rfl).weaken (fun _ _ _ _ => trivial)) (k8 0) 0 (fun j => ([] : List Int32).getD j 0) q_msf0 hf_4 hn_4 hm_4 (by omega)) (cwV 1 hts gX2_ordered_J4_append_15ec4 rfl rfl rfl (by decide +kernel) ⟨(Nat.le_of_ble_eq_true rfl), (Nat.le_of_ble_eq_true rfl)⟩) (k_preRV hE (hL 0 _ rfl).2 hS hFc (va_recv hK hP (ci := 1) (q0 := 2) rfl rfl)) rfl rfl hl.1 rfl (lv_room (Nat.le_of_ble_eq_true rfl)) dX2_ordered_102 ⟨by show _ ≤ (60 : Nat); omega, by show _ ≤ (4500 : Nat); omega⟩) hS (fun q _ h => hFc q h) hFc (fun v9 H locs hp hz hk hS => ?_)
          obtain ⟨rfl, v_5, m_5, a_5, hP1, hD1, hf_5, hn_5, hm_5⟩ := hp
          obtain ⟨hP, hD⟩ := va_join (wr := [(y, .inr (4, [.int th, .ref n2, .int kn2, .int td])), (n2, .inl (cJ, 8, .inr (.inl g)))]) (wc := [(q_3, .inr (1, [.ref v_4, .int 0, .int 0, .int (nI 0)])), (v_4, .inl (cB, m_4, .inl a_4))]) (w1 := [(q_3, .inr (1, [.ref v_5, .int 0, .int 0, .int (nI (0 + 0))])), (v_5, .inl (cB, m_5, .inl a_5))]) hP hD [2, 3] [0, 1] rfl rfl (by decide) (by decide) hk hFc hP1 hD1
          have hP : va_P D vwCl [(y, .inr (4, [.int th, .ref n2, .int kn2, .int td])), (n2, .inl (cJ, 8, .inr (.inl g))), (q_3, .inr (1, [.ref v_5, .int 0, .int 0, .int (nI (0 + 0))])), (v_5, .inl (cB, m_5, .inl a_5))] H := hP
          have hD : va_D A [(y, .inr (4, [.int th, .ref n2, .int kn2, .int td])), (n2, .inl (cJ, 8, .inr (.inl g))), (q_3, .inr (1, [.ref v_5, .int 0, .int 0, .int (nI (0 + 0))])), (v_5, .inl (cB, m_5, .inl a_5))] := hD
          refine W.eq (g2 := F0 m 105 ls [.ref q_3]) rfl ?_
          refine lv_iload_n hx hb dX2_ordered_105 rfl (lv_at hl 2 rfl) ?_
          refine lv_if_ne (tgt := 114) hx hb dX2_ordered_106 (by decide) (fun c_6 => ?_) (fun c_6 => ?_)
          · refine va_ldcS hx hb hown (hL 1 _ rfl).1 dX2_ordered_114 ?_
            have hFc := va_free (wc := [(q_3, .inr (1, [.ref v_5, .int 0, .int 0, .int (nI (0 + 0))])), (v_5, .inl (cB, m_5, .inl a_5))]) hD hS hA [2, 3] rfl
            refine k_go (va_runV (As := [.ref (k8 1)]) (rest := []) ⟨hx, hb, hml, hown, hts⟩ (c_J4_append_15ec4 l D cB cJ _ q_3 v_5 (0 + 0) m_5 a_5 (hP.sub [2, 3] rfl) ((hD.sub [2, 3] (by decide) rfl).weaken (fun _ _ _ _ => trivial)) (k8 1) 1 (fun j => ([32] : List Int32).getD j 0) (q_msf1 _ (by decide)) hf_5 hn_5 hm_5 (by omega)) (cwV 1 hts gX2_ordered_J4_append_15ec4 rfl rfl rfl (by decide +kernel) ⟨(Nat.le_of_ble_eq_true rfl), (Nat.le_of_ble_eq_true rfl)⟩) (k_preRV hE (hL 1 _ rfl).2 hS hFc (va_recv hK hP (ci := 1) (q0 := 2) rfl rfl)) rfl rfl hl.1 rfl (lv_room (Nat.le_of_ble_eq_true rfl)) dX2_ordered_116 ⟨by show _ ≤ (60 : Nat); omega, by show _ ≤ (4500 : Nat); omega⟩) hS (fun q _ h => hFc q h) hFc (fun v9 H locs hp hz hk hS => ?_)
            obtain ⟨rfl, v_7, m_7, a_7, hP1, hD1, hf_7, hn_7, hm_7⟩ := hp
            obtain ⟨hP, hD⟩ := va_join (wr := [(y, .inr (4, [.int th, .ref n2, .int kn2, .int td])), (n2, .inl (cJ, 8, .inr (.inl g)))]) (wc := [(q_3, .inr (1, [.ref v_5, .int 0, .int 0, .int (nI (0 + 0))])), (v_5, .inl (cB, m_5, .inl a_5))]) (w1 := [(q_3, .inr (1, [.ref v_7, .int 0, .int 0, .int (nI ((0 + 0) + 1))])), (v_7, .inl (cB, m_7, .inl a_7))]) hP hD [2, 3] [0, 1] rfl rfl (by decide) (by decide) hk hFc hP1 hD1
            have hP : va_P D vwCl [(y, .inr (4, [.int th, .ref n2, .int kn2, .int td])), (n2, .inl (cJ, 8, .inr (.inl g))), (q_3, .inr (1, [.ref v_7, .int 0, .int 0, .int (nI ((0 + 0) + 1))])), (v_7, .inl (cB, m_7, .inl a_7))] H := hP
            have hD : va_D A [(y, .inr (4, [.int th, .ref n2, .int kn2, .int td])), (n2, .inl (cJ, 8, .inr (.inl g))), (q_3, .inr (1, [.ref v_7, .int 0, .int 0, .int (nI ((0 + 0) + 1))])), (v_7, .inl (cB, m_7, .inl a_7))] := hD
            refine W.eq (g2 := F0 m 119 ls [.ref q_3]) rfl ?_
            refine lv_iload_n hx hb dX2_ordered_119 rfl (lv_at hl 1 rfl) ?_
            have hFc := va_free (wc := [(q_3, .inr (1, [.ref v_7, .int 0, .int 0, .int (nI ((0 + 0) + 1))])), (v_7, .inl (cB, m_7, .inl a_7))]) hD hS hA [2, 3] rfl
            refine k_go (va_runV (As := [.int (nI ck)]) (rest := []) ⟨hx, hb, hml, hown, hts⟩ (c_J4_append_bf812 l D cB cJ _ q_3 v_7 ((0 + 0) + 1) m_7 a_7 (hP.sub [2, 3] rfl) ((hD.sub [2, 3] (by decide) rfl).weaken (fun _ _ _ _ => trivial)) ck 1 hf_7 hn_7 hm_7 (by omega) (q_ss1 ck (by omega)) (by decide) (by omega) (by omega)) (cwV 1 hts gX2_ordered_J4_append_bf812 rfl rfl rfl (by decide +kernel) ⟨(Nat.le_of_ble_eq_true rfl), (Nat.le_of_ble_eq_true rfl)⟩) (k_preV hE hS hFc (va_recv hK hP (ci := 1) (q0 := 2) rfl rfl)) rfl rfl hl.1 rfl (lv_room (Nat.le_of_ble_eq_true rfl)) dX2_ordered_120 ⟨by show _ ≤ (60 : Nat); omega, by show _ ≤ (4500 : Nat); omega⟩) hS (fun q _ h => hFc q h) hFc (fun v9 H locs hp hz hk hS => ?_)
            obtain ⟨rfl, v_8, m_8, a_8, hP1, hD1, hf_8, hn_8, hm_8⟩ := hp
            obtain ⟨hP, hD⟩ := va_join (wr := [(y, .inr (4, [.int th, .ref n2, .int kn2, .int td])), (n2, .inl (cJ, 8, .inr (.inl g)))]) (wc := [(q_3, .inr (1, [.ref v_7, .int 0, .int 0, .int (nI ((0 + 0) + 1))])), (v_7, .inl (cB, m_7, .inl a_7))]) (w1 := [(q_3, .inr (1, [.ref v_8, .int 0, .int 0, .int (nI (((0 + 0) + 1) + 1))])), (v_8, .inl (cB, m_8, .inl a_8))]) hP hD [2, 3] [0, 1] rfl rfl (by decide) (by decide) hk hFc hP1 hD1
            have hP : va_P D vwCl [(y, .inr (4, [.int th, .ref n2, .int kn2, .int td])), (n2, .inl (cJ, 8, .inr (.inl g))), (q_3, .inr (1, [.ref v_8, .int 0, .int 0, .int (nI (((0 + 0) + 1) + 1))])), (v_8, .inl (cB, m_8, .inl a_8))] H := hP
            have hD : va_D A [(y, .inr (4, [.int th, .ref n2, .int kn2, .int td])), (n2, .inl (cJ, 8, .inr (.inl g))), (q_3, .inr (1, [.ref v_8, .int 0, .int 0, .int (nI (((0 + 0) + 1) + 1))])), (v_8, .inl (cB, m_8, .inl a_8))] := hD
            refine W.eq (g2 := F0 m 123 ls [.ref q_3]) rfl ?_
            have hFc := va_free (wc := [(q_3, .inr (1, [.ref v_8, .int 0, .int 0, .int (nI (((0 + 0) + 1) + 1))])), (v_8, .inl (cB, m_8, .inl a_8))]) hD hS hA [2, 3] rfl
            refine k_go (va_runV (As := []) (rest := []) ⟨hx, hb, hml, hown, hts⟩ (c_J4_toString_0e30d l D cB cJ _ q_3 v_8 (((0 + 0) + 1) + 1) m_8 a_8 (hP.sub [2, 3] rfl) ((hD.sub [2, 3] (by decide) rfl).weaken (fun _ _ _ _ => trivial)) hf_8 hn_8 hm_8) (cwV 0 hts gX2_ordered_J4_toString_0e30d rfl rfl rfl (by decide +kernel) ⟨(Nat.le_of_ble_eq_true rfl), (Nat.le_of_ble_eq_true rfl)⟩) (k_preV hE hS hFc (va_recv hK hP (ci := 1) (q0 := 2) rfl rfl)) rfl rfl hl.1 rfl (lv_room (Nat.le_of_ble_eq_true rfl)) dX2_ordered_123 ⟨by show _ ≤ (60 : Nat); omega, by show _ ≤ (4500 : Nat); omega⟩) hS (fun q _ h => hFc q h) hFc (fun v9 H locs hp hz hk hS => ?_)
            obtain ⟨q_9, u_9, f_9, rfl, hP1, hD1, hf_9⟩ := hp
            obtain ⟨hP, hD⟩ := va_join (wr := [(y, .inr (4, [.int th, .ref n2, .int kn2, .int td])), (n2, .inl (cJ, 8, .inr (.inl g)))]) (wc := [(q_3, .inr (1, [.ref v_8, .int 0, .int 0, .int (nI (((0 + 0) + 1) + 1))])), (v_8, .inl (cB, m_8, .inl a_8))]) (w1 := [(q_9, .inr (0, [.ref u_9, .int 0, .int 0, .int 0])), (u_9, .inl (cB, (((0 + 0) + 1) + 1), .inl f_9))]) hP hD [2, 3] [0, 1] rfl rfl (by decide) (by decide) hk hFc hP1 hD1
            have hP : va_P D vwCl [(y, .inr (4, [.int th, .ref n2, .int kn2, .int td])), (n2, .inl (cJ, 8, .inr (.inl g))), (q_9, .inr (0, [.ref u_9, .int 0, .int 0, .int 0])), (u_9, .inl (cB, (((0 + 0) + 1) + 1), .inl f_9))] H := hP
            have hD : va_D A [(y, .inr (4, [.int th, .ref n2, .int kn2, .int td])), (n2, .inl (cJ, 8, .inr (.inl g))), (q_9, .inr (0, [.ref u_9, .int 0, .int 0, .int 0])), (u_9, .inl (cB, (((0 + 0) + 1) + 1), .inl f_9))] := hD
            refine W.eq (g2 := F0 m 126 ls [.ref q_9]) rfl ?_
            refine lv_astore_n (lv' := [(1, .ref q_9), (4, .int (nI (o_ah g ck 8))), (3, .int (nI ck)), (2, .int (nI rk)), (0, .ref y)]) hx hb dX2_ordered_126 rfl hl (by decide) rfl (fun ls hl => ?_)
            refine lv_iinc (v := ((nI ck) + 1)) (lv' := [(3, .int ((nI ck) + 1)), (1, .ref q_9), (4, .int (nI (o_ah g ck 8))), (2, .int (nI rk)), (0, .ref y)]) hx hb dX2_ordered_127 hl (k := 2) rfl rfl (by decide) rfl (fun ls hl => ?_)
            refine lv_goto (tgt := 13) hx hb dX2_ordered_130 (by decide) ?_
            rw [nI_1] at hl
            refine W.widen (k := 7 * o_cnt (fun k => o_ah g k 8) rk (ck + 1)) (n := 544 * o_cnt (fun k => o_ah g k 8) rk (ck + 1)) (by omega) (by omega) ?_
            exact ih (ck + 1) _ _ _ _ (by omega) (by omega) (Or.inr ⟨_, _, _, by omega, hP.sub [0, 1, 2, 3] rfl, hD.sub [0, 1, 2, 3] (by decide) rfl, hf_9⟩) hS (lv_sub hl [0, 3, 1, 4] rfl)
          · refine va_ldcS hx hb hown (hL 0 _ rfl).1 dX2_ordered_109 ?_
            refine lv_goto (tgt := 116) hx hb dX2_ordered_111 (by decide) ?_
            have hFc := va_free (wc := [(q_3, .inr (1, [.ref v_5, .int 0, .int 0, .int (nI (0 + 0))])), (v_5, .inl (cB, m_5, .inl a_5))]) hD hS hA [2, 3] rfl
            refine k_go (va_runV (As := [.ref (k8 0)]) (rest := []) ⟨hx, hb, hml, hown, hts⟩ (c_J4_append_15ec4 l D cB cJ _ q_3 v_5 (0 + 0) m_5 a_5 (hP.sub [2, 3] rfl) ((hD.sub [2, 3] (by decide) rfl).weaken (fun _ _ _ _ => trivial)) (k8 0) 0 (fun j => ([] : List Int32).getD j 0) q_msf0 hf_5 hn_5 hm_5 (by omega)) (cwV 1 hts gX2_ordered_J4_append_15ec4 rfl rfl rfl (by decide +kernel) ⟨(Nat.le_of_ble_eq_true rfl), (Nat.le_of_ble_eq_true rfl)⟩) (k_preRV hE (hL 0 _ rfl).2 hS hFc (va_recv hK hP (ci := 1) (q0 := 2) rfl rfl)) rfl rfl hl.1 rfl (lv_room (Nat.le_of_ble_eq_true rfl)) dX2_ordered_116 ⟨by show _ ≤ (60 : Nat); omega, by show _ ≤ (4500 : Nat); omega⟩) hS (fun q _ h => hFc q h) hFc (fun v9 H locs hp hz hk hS => ?_)
            obtain ⟨rfl, v_10, m_10, a_10, hP1, hD1, hf_10, hn_10, hm_10⟩ := hp
            obtain ⟨hP, hD⟩ := va_join (wr := [(y, .inr (4, [.int th, .ref n2, .int kn2, .int td])), (n2, .inl (cJ, 8, .inr (.inl g)))]) (wc := [(q_3, .inr (1, [.ref v_5, .int 0, .int 0, .int (nI (0 + 0))])), (v_5, .inl (cB, m_5, .inl a_5))]) (w1 := [(q_3, .inr (1, [.ref v_10, .int 0, .int 0, .int (nI ((0 + 0) + 0))])), (v_10, .inl (cB, m_10, .inl a_10))]) hP hD [2, 3] [0, 1] rfl rfl (by decide) (by decide) hk hFc hP1 hD1
            have hP : va_P D vwCl [(y, .inr (4, [.int th, .ref n2, .int kn2, .int td])), (n2, .inl (cJ, 8, .inr (.inl g))), (q_3, .inr (1, [.ref v_10, .int 0, .int 0, .int (nI ((0 + 0) + 0))])), (v_10, .inl (cB, m_10, .inl a_10))] H := hP
            have hD : va_D A [(y, .inr (4, [.int th, .ref n2, .int kn2, .int td])), (n2, .inl (cJ, 8, .inr (.inl g))), (q_3, .inr (1, [.ref v_10, .int 0, .int 0, .int (nI ((0 + 0) + 0))])), (v_10, .inl (cB, m_10, .inl a_10))] := hD
            refine W.eq (g2 := F0 m 119 ls [.ref q_3]) rfl ?_
            refine lv_iload_n hx hb dX2_ordered_119 rfl (lv_at hl 1 rfl) ?_
            have hFc := va_free (wc := [(q_3, .inr (1, [.ref v_10, .int 0, .int 0, .int (nI ((0 + 0) + 0))])), (v_10, .inl (cB, m_10, .inl a_10))]) hD hS hA [2, 3] rfl
            refine k_go (va_runV (As := [.int (nI ck)]) (rest := []) ⟨hx, hb, hml, hown, hts⟩ (c_J4_append_bf812 l D cB cJ _ q_3 v_10 ((0 + 0) + 0) m_10 a_10 (hP.sub [2, 3] rfl) ((hD.sub [2, 3] (by decide) rfl).weaken (fun _ _ _ _ => trivial)) ck 1 hf_10 hn_10 hm_10 (by omega) (q_ss1 ck (by omega)) (by decide) (by omega) (by omega)) (cwV 1 hts gX2_ordered_J4_append_bf812 rfl rfl rfl (by decide +kernel) ⟨(Nat.le_of_ble_eq_true rfl), (Nat.le_of_ble_eq_true rfl)⟩) (k_preV hE hS hFc (va_recv hK hP (ci := 1) (q0 := 2) rfl rfl)) rfl rfl hl.1 rfl (lv_room (Nat.le_of_ble_eq_true rfl)) dX2_ordered_120 ⟨by show _ ≤ (60 : Nat); omega, by show _ ≤ (4500 : Nat); omega⟩) hS (fun q _ h => hFc q h) hFc (fun v9 H locs hp hz hk hS => ?_)
            obtain ⟨rfl, v_11, m_11, a_11, hP1, hD1, hf_11, hn_11, hm_11⟩ := hp
            obtain ⟨hP, hD⟩ := va_join (wr := [(y, .inr (4, [.int th, .ref n2, .int kn2, .int td])), (n2, .inl (cJ, 8, .inr (.inl g)))]) (wc := [(q_3, .inr (1, [.ref v_10, .int 0, .int 0, .int (nI ((0 + 0) + 0))])), (v_10, .inl (cB, m_10, .inl a_10))]) (w1 := [(q_3, .inr (1, [.ref v_11, .int 0, .int 0, .int (nI (((0 + 0) + 0) + 1))])), (v_11, .inl (cB, m_11, .inl a_11))]) hP hD [2, 3] [0, 1] rfl rfl (by decide) (by decide) hk hFc hP1 hD1
            have hP : va_P D vwCl [(y, .inr (4, [.int th, .ref n2, .int kn2, .int td])), (n2, .inl (cJ, 8, .inr (.inl g))), (q_3, .inr (1, [.ref v_11, .int 0, .int 0, .int (nI (((0 + 0) + 0) + 1))])), (v_11, .inl (cB, m_11, .inl a_11))] H := hP
            have hD : va_D A [(y, .inr (4, [.int th, .ref n2, .int kn2, .int td])), (n2, .inl (cJ, 8, .inr (.inl g))), (q_3, .inr (1, [.ref v_11, .int 0, .int 0, .int (nI (((0 + 0) + 0) + 1))])), (v_11, .inl (cB, m_11, .inl a_11))] := hD
            refine W.eq (g2 := F0 m 123 ls [.ref q_3]) rfl ?_
            have hFc := va_free (wc := [(q_3, .inr (1, [.ref v_11, .int 0, .int 0, .int (nI (((0 + 0) + 0) + 1))])), (v_11, .inl (cB, m_11, .inl a_11))]) hD hS hA [2, 3] rfl
            refine k_go (va_runV (As := []) (rest := []) ⟨hx, hb, hml, hown, hts⟩ (c_J4_toString_0e30d l D cB cJ _ q_3 v_11 (((0 + 0) + 0) + 1) m_11 a_11 (hP.sub [2, 3] rfl) ((hD.sub [2, 3] (by decide) rfl).weaken (fun _ _ _ _ => trivial)) hf_11 hn_11 hm_11) (cwV 0 hts gX2_ordered_J4_toString_0e30d rfl rfl rfl (by decide +kernel) ⟨(Nat.le_of_ble_eq_true rfl), (Nat.le_of_ble_eq_true rfl)⟩) (k_preV hE hS hFc (va_recv hK hP (ci := 1) (q0 := 2) rfl rfl)) rfl rfl hl.1 rfl (lv_room (Nat.le_of_ble_eq_true rfl)) dX2_ordered_123 ⟨by show _ ≤ (60 : Nat); omega, by show _ ≤ (4500 : Nat); omega⟩) hS (fun q _ h => hFc q h) hFc (fun v9 H locs hp hz hk hS => ?_)
            obtain ⟨q_12, u_12, f_12, rfl, hP1, hD1, hf_12⟩ := hp
            obtain ⟨hP, hD⟩ := va_join (wr := [(y, .inr (4, [.int th, .ref n2, .int kn2, .int td])), (n2, .inl (cJ, 8, .inr (.inl g)))]) (wc := [(q_3, .inr (1, [.ref v_11, .int 0, .int 0, .int (nI (((0 + 0) + 0) + 1))])), (v_11, .inl (cB, m_11, .inl a_11))]) (w1 := [(q_12, .inr (0, [.ref u_12, .int 0, .int 0, .int 0])), (u_12, .inl (cB, (((0 + 0) + 0) + 1), .inl f_12))]) hP hD [2, 3] [0, 1] rfl rfl (by decide) (by decide) hk hFc hP1 hD1
            have hP : va_P D vwCl [(y, .inr (4, [.int th, .ref n2, .int kn2, .int td])), (n2, .inl (cJ, 8, .inr (.inl g))), (q_12, .inr (0, [.ref u_12, .int 0, .int 0, .int 0])), (u_12, .inl (cB, (((0 + 0) + 0) + 1), .inl f_12))] H := hP
            have hD : va_D A [(y, .inr (4, [.int th, .ref n2, .int kn2, .int td])), (n2, .inl (cJ, 8, .inr (.inl g))), (q_12, .inr (0, [.ref u_12, .int 0, .int 0, .int 0])), (u_12, .inl (cB, (((0 + 0) + 0) + 1), .inl f_12))] := hD
            refine W.eq (g2 := F0 m 126 ls [.ref q_12]) rfl ?_
            refine lv_astore_n (lv' := [(1, .ref q_12), (4, .int (nI (o_ah g ck 8))), (3, .int (nI ck)), (2, .int (nI rk)), (0, .ref y)]) hx hb dX2_ordered_126 rfl hl (by decide) rfl (fun ls hl => ?_)
            refine lv_iinc (v := ((nI ck) + 1)) (lv' := [(3, .int ((nI ck) + 1)), (1, .ref q_12), (4, .int (nI (o_ah g ck 8))), (2, .int (nI rk)), (0, .ref y)]) hx hb dX2_ordered_127 hl (k := 2) rfl rfl (by decide) rfl (fun ls hl => ?_)
            refine lv_goto (tgt := 13) hx hb dX2_ordered_130 (by decide) ?_
            rw [nI_1] at hl
            refine W.widen (k := 7 * o_cnt (fun k => o_ah g k 8) rk (ck + 1)) (n := 544 * o_cnt (fun k => o_ah g k 8) rk (ck + 1)) (by omega) (by omega) ?_
            exact ih (ck + 1) _ _ _ _ (by omega) (by omega) (Or.inr ⟨_, _, _, by omega, hP.sub [0, 1, 2, 3] rfl, hD.sub [0, 1, 2, 3] (by decide) rfl, hf_12⟩) hS (lv_sub hl [0, 3, 1, 4] rfl)
    · have hP : va_P D vwCl [(y, .inr (4, [.int th, .ref n2, .int kn2, .int td])), (n2, .inl (cJ, 8, .inr (.inl g))), (mq, .inr (0, [.ref u, .int 0, .int 0, .int 0])), (u, .inl (cB, nn, .inl f))] H := hP
      have hD : va_D A [(y, .inr (4, [.int th, .ref n2, .int kn2, .int td])), (n2, .inl (cJ, 8, .inr (.inl g))), (mq, .inr (0, [.ref u, .int 0, .int 0, .int 0])), (u, .inl (cB, nn, .inl f))] := hD
      refine lv_iload_n hx hb dX2_ordered_13 rfl (lv_at hl 0 rfl) ?_
      refine lv_bipush (v := 8) hx hb dX2_ordered_14 (by decide) ?_
      refine lv_icmp_ge (tgt := 133) hx hb dX2_ordered_16 (by decide) (fun c_1 => ?_) (fun c_1 => ?_)
      · obtain rfl : ck = 8 := by have h9 := c_1; rcases Nat.lt_or_ge ck 8 with z | z; exact absurd ((nI_leI (by decide) (by omega)).mp (show nI 8 ≤ nI ck from h9)) (by omega); omega
        exact kk _ _ _ _ (Or.inr ⟨_, _, _, hn2c, hP, hD, hfq⟩) hS (lv_sub hl [1, 2, 3] rfl)
      · have hck : ck < 8 := Nat.lt_of_not_le (fun q => c_1 (nI_le q (by omega)))
        refine lv_iconst (v := 0) hx hb dX2_ordered_19 (by decide) ?_
        refine lv_istore (lv' := [(4, .int 0), (3, .int (nI ck)), (2, .int (nI rk)), (1, .ref mq), (0, .ref y)]) hx hb dX2_ordered_20 hl (by decide) rfl (fun ls hl => ?_)
        refine lv_iconst (v := 0) hx hb dX2_ordered_22 (by decide) ?_
        refine lv_istore (lv' := [(5, .int 0), (4, .int 0), (3, .int (nI ck)), (2, .int (nI rk)), (1, .ref mq), (0, .ref y)]) hx hb dX2_ordered_23 hl (by decide) rfl (fun ls hl => ?_)
        refine lpo_in hx hb hml hown hts hE (hP.sub [0, 1] rfl) hS (by omega) (fun ls hl => ?_) 9 0 _ _ rfl (by decide) nI_0.symm (lv_sub hl [1, 0, 2, 3, 4, 5] rfl)
        refine lv_iload hx hb dX2_ordered_88 (lv_at hl 0 rfl) ?_
        refine lv_iload_n hx hb dX2_ordered_90 rfl (lv_at hl 2 rfl) ?_
        refine lv_icmp_ne (tgt := 127) hx hb dX2_ordered_91 (by decide) (fun c_2 => ?_) (fun c_2 => ?_)
        · have hcn := q_cntN (fun k => o_ah g k 8) (rk := rk) hck c_2
          refine lv_iinc (v := ((nI ck) + 1)) (lv' := [(3, .int ((nI ck) + 1)), (4, .int (nI (o_ah g ck 8))), (2, .int (nI rk)), (1, .ref mq), (0, .ref y)]) hx hb dX2_ordered_127 hl (k := 1) rfl rfl (by decide) rfl (fun ls hl => ?_)
          refine lv_goto (tgt := 13) hx hb dX2_ordered_130 (by decide) ?_
          rw [nI_1] at hl
          refine W.widen (k := 7 * o_cnt (fun k => o_ah g k 8) rk (ck + 1)) (n := 544 * o_cnt (fun k => o_ah g k 8) rk (ck + 1)) (by omega) (by omega) ?_
          exact ih (ck + 1) _ _ _ _ (by omega) (by omega) (Or.inr ⟨_, _, _, by omega, hP.sub [0, 1, 2, 3] rfl, hD.sub [0, 1, 2, 3] (by decide) rfl, hfq⟩) hS (lv_sub hl [0, 2, 3, 4] rfl)
        · have hcn := q_cntE (fun k => o_ah g k 8) (fun k _ => o_ah_le g k 8) (rk := rk) (by omega) hck c_2
          have hcle2 := o_cnt_le (fun k => o_ah g k 8) rk (ck + 1)
          refine va_new (ci := 1) (fs := [.null, .int 0, .int 0, .int 0]) (C := RJ4) (T := TJ4) (N := 4) hx hb hts iw_X2_ordered_J4 tyJ4 tyJ4_ok hown (hts (.classLink RX2 79 RJ4) (by decide +kernel)) (hts (.instantiable RJ4 4) (by decide +kernel)) (hts (.initialized RJ4) (by decide +kernel)) hK hP hD hS hA rfl (fun j hj => by rcases (show j = 0 ∨ j = 1 ∨ j = 2 ∨ j = 3 by omega) with rfl | rfl | rfl | rfl <;> rfl) (by show _ ≤ (60 : Nat); omega) (by show _ ≤ (4500 : Nat); omega) dX2_ordered_94 (fun q_3 H hP hD hS => ?_)
          have hP : va_P D vwCl [(y, .inr (4, [.int th, .ref n2, .int kn2, .int td])), (n2, .inl (cJ, 8, .inr (.inl g))), (mq, .inr (0, [.ref u, .int 0, .int 0, .int 0])), (u, .inl (cB, nn, .inl f)), (q_3, .inr (1, [.null, .int 0, .int 0, .int 0]))] H := hP
          have hD : va_D A [(y, .inr (4, [.int th, .ref n2, .int kn2, .int td])), (n2, .inl (cJ, 8, .inr (.inl g))), (mq, .inr (0, [.ref u, .int 0, .int 0, .int 0])), (u, .inl (cB, nn, .inl f)), (q_3, .inr (1, [.null, .int 0, .int 0, .int 0]))] := hD
          refine lv_dup hx hb dX2_ordered_97 rfl ?_
          have hFc := va_free (wc := [(q_3, .inr (1, [.null, .int 0, .int 0, .int 0]))]) hD hS hA [4] rfl
          refine k_go (va_runI (As := []) (rest := [.ref q_3]) ⟨hx, hb, hml, hown, hts⟩ (c_J4_init_da8c8 l D cB cJ _ q_3 (hP.sub [4] rfl) ((hD.sub [4] (by decide) rfl).weaken (fun _ _ _ _ => trivial))) (cwI 0 hts gX2_ordered_J4_init_da8c8 rfl rfl rfl (hts (.initialized RJ4) (by decide +kernel)) (hts (.methodLink RX2 81 yJ4_init_da8c8) (by decide +kernel)) (hts (.instanceMethod yJ4_init_da8c8) (by decide +kernel)) rfl (by decide +kernel) ⟨(Nat.le_of_ble_eq_true rfl), (Nat.le_of_ble_eq_true rfl)⟩) (k_preS hE hS hFc) rfl rfl hl.1 rfl (lv_room (Nat.le_of_ble_eq_true rfl)) dX2_ordered_98 ⟨by show _ ≤ (60 : Nat); omega, by show _ ≤ (4500 : Nat); omega⟩) hS (fun q _ h => hFc q h) hFc (fun v9 H locs hp hz hk hS => ?_)
          obtain ⟨rfl, v_4, m_4, a_4, hP1, hD1, hf_4, hn_4, hk_4, hm_4⟩ := hp
          obtain ⟨hP, hD⟩ := va_join (wr := [(y, .inr (4, [.int th, .ref n2, .int kn2, .int td])), (n2, .inl (cJ, 8, .inr (.inl g))), (mq, .inr (0, [.ref u, .int 0, .int 0, .int 0])), (u, .inl (cB, nn, .inl f))]) (wc := [(q_3, .inr (1, [.null, .int 0, .int 0, .int 0]))]) (w1 := [(q_3, .inr (1, [.ref v_4, .int 0, .int 0, .int (nI 0)])), (v_4, .inl (cB, m_4, .inl a_4))]) hP hD [4] [0, 1, 2, 3] rfl rfl (by decide) (by decide) hk hFc hP1 hD1
          have hP : va_P D vwCl [(y, .inr (4, [.int th, .ref n2, .int kn2, .int td])), (n2, .inl (cJ, 8, .inr (.inl g))), (mq, .inr (0, [.ref u, .int 0, .int 0, .int 0])), (u, .inl (cB, nn, .inl f)), (q_3, .inr (1, [.ref v_4, .int 0, .int 0, .int (nI 0)])), (v_4, .inl (cB, m_4, .inl a_4))] H := hP
          have hD : va_D A [(y, .inr (4, [.int th, .ref n2, .int kn2, .int td])), (n2, .inl (cJ, 8, .inr (.inl g))), (mq, .inr (0, [.ref u, .int 0, .int 0, .int 0])), (u, .inl (cB, nn, .inl f)), (q_3, .inr (1, [.ref v_4, .int 0, .int 0, .int (nI 0)])), (v_4, .inl (cB, m_4, .inl a_4))] := hD
          refine W.eq (g2 := F0 m 101 ls [.ref q_3]) rfl ?_
          refine lv_aload_n hx hb dX2_ordered_101 rfl (lv_at hl 3 rfl) ?_
          have hFc := va_free (wc := [(q_3, .inr (1, [.ref v_4, .int 0, .int 0, .int (nI 0)])), (v_4, .inl (cB, m_4, .inl a_4))]) hD hS hA [4, 5] rfl
          refine k_go (va_runV (As := [.ref mq]) (rest := []) ⟨hx, hb, hml, hown, hts⟩ (c_J4_append_15ec4 l D cB cJ _ q_3 v_4 0 m_4 a_4 (hP.sub [4, 5] rfl) ((hD.sub [4, 5] (by decide) rfl).weaken (fun _ _ _ _ => trivial)) mq nn f hfq hf_4 hn_4 hm_4 (by omega)) (cwV 1 hts gX2_ordered_J4_append_15ec4 rfl rfl rfl (by decide +kernel) ⟨(Nat.le_of_ble_eq_true rfl), (Nat.le_of_ble_eq_true rfl)⟩) (k_preRVw hE (k_RSw hts iw_X2_ordered_J0 hK hP 2 3 rfl rfl (by omega) (k_nA hP hD [4, 5] rfl 2 rfl (by decide)) (k_nA hP hD [4, 5] rfl 3 rfl (by decide))) hS hFc (va_recv hK hP (ci := 1) (q0 := 4) rfl rfl)) rfl rfl hl.1 rfl (lv_room (Nat.le_of_ble_eq_true rfl)) dX2_ordered_102 ⟨by show _ ≤ (60 : Nat); omega, by show _ ≤ (4500 : Nat); omega⟩) hS (fun q _ h => hFc q h) hFc (fun v9 H locs hp hz hk hS => ?_)
          obtain ⟨rfl, v_5, m_5, a_5, hP1, hD1, hf_5, hn_5, hm_5⟩ := hp
          obtain ⟨hP, hD⟩ := va_join (wr := [(y, .inr (4, [.int th, .ref n2, .int kn2, .int td])), (n2, .inl (cJ, 8, .inr (.inl g))), (mq, .inr (0, [.ref u, .int 0, .int 0, .int 0])), (u, .inl (cB, nn, .inl f))]) (wc := [(q_3, .inr (1, [.ref v_4, .int 0, .int 0, .int (nI 0)])), (v_4, .inl (cB, m_4, .inl a_4))]) (w1 := [(q_3, .inr (1, [.ref v_5, .int 0, .int 0, .int (nI (0 + nn))])), (v_5, .inl (cB, m_5, .inl a_5))]) hP hD [4, 5] [0, 1, 2, 3] rfl rfl (by decide) (by decide) hk hFc hP1 hD1
          have hP : va_P D vwCl [(y, .inr (4, [.int th, .ref n2, .int kn2, .int td])), (n2, .inl (cJ, 8, .inr (.inl g))), (mq, .inr (0, [.ref u, .int 0, .int 0, .int 0])), (u, .inl (cB, nn, .inl f)), (q_3, .inr (1, [.ref v_5, .int 0, .int 0, .int (nI (0 + nn))])), (v_5, .inl (cB, m_5, .inl a_5))] H := hP
          have hD : va_D A [(y, .inr (4, [.int th, .ref n2, .int kn2, .int td])), (n2, .inl (cJ, 8, .inr (.inl g))), (mq, .inr (0, [.ref u, .int 0, .int 0, .int 0])), (u, .inl (cB, nn, .inl f)), (q_3, .inr (1, [.ref v_5, .int 0, .int 0, .int (nI (0 + nn))])), (v_5, .inl (cB, m_5, .inl a_5))] := hD
          refine W.eq (g2 := F0 m 105 ls [.ref q_3]) rfl ?_
          refine lv_iload_n hx hb dX2_ordered_105 rfl (lv_at hl 2 rfl) ?_
          refine lv_if_ne (tgt := 114) hx hb dX2_ordered_106 (by decide) (fun c_6 => ?_) (fun c_6 => ?_)
          · refine va_ldcS hx hb hown (hL 1 _ rfl).1 dX2_ordered_114 ?_
            have hFc := va_free (wc := [(q_3, .inr (1, [.ref v_5, .int 0, .int 0, .int (nI (0 + nn))])), (v_5, .inl (cB, m_5, .inl a_5))]) hD hS hA [4, 5] rfl
            refine k_go (va_runV (As := [.ref (k8 1)]) (rest := []) ⟨hx, hb, hml, hown, hts⟩ (c_J4_append_15ec4 l D cB cJ _ q_3 v_5 (0 + nn) m_5 a_5 (hP.sub [4, 5] rfl) ((hD.sub [4, 5] (by decide) rfl).weaken (fun _ _ _ _ => trivial)) (k8 1) 1 (fun j => ([32] : List Int32).getD j 0) (q_msf1 _ (by decide)) hf_5 hn_5 hm_5 (by omega)) (cwV 1 hts gX2_ordered_J4_append_15ec4 rfl rfl rfl (by decide +kernel) ⟨(Nat.le_of_ble_eq_true rfl), (Nat.le_of_ble_eq_true rfl)⟩) (k_preRV hE (hL 1 _ rfl).2 hS hFc (va_recv hK hP (ci := 1) (q0 := 4) rfl rfl)) rfl rfl hl.1 rfl (lv_room (Nat.le_of_ble_eq_true rfl)) dX2_ordered_116 ⟨by show _ ≤ (60 : Nat); omega, by show _ ≤ (4500 : Nat); omega⟩) hS (fun q _ h => hFc q h) hFc (fun v9 H locs hp hz hk hS => ?_)
            obtain ⟨rfl, v_7, m_7, a_7, hP1, hD1, hf_7, hn_7, hm_7⟩ := hp
            obtain ⟨hP, hD⟩ := va_join (wr := [(y, .inr (4, [.int th, .ref n2, .int kn2, .int td])), (n2, .inl (cJ, 8, .inr (.inl g))), (mq, .inr (0, [.ref u, .int 0, .int 0, .int 0])), (u, .inl (cB, nn, .inl f))]) (wc := [(q_3, .inr (1, [.ref v_5, .int 0, .int 0, .int (nI (0 + nn))])), (v_5, .inl (cB, m_5, .inl a_5))]) (w1 := [(q_3, .inr (1, [.ref v_7, .int 0, .int 0, .int (nI ((0 + nn) + 1))])), (v_7, .inl (cB, m_7, .inl a_7))]) hP hD [4, 5] [0, 1, 2, 3] rfl rfl (by decide) (by decide) hk hFc hP1 hD1
            have hP : va_P D vwCl [(y, .inr (4, [.int th, .ref n2, .int kn2, .int td])), (n2, .inl (cJ, 8, .inr (.inl g))), (mq, .inr (0, [.ref u, .int 0, .int 0, .int 0])), (u, .inl (cB, nn, .inl f)), (q_3, .inr (1, [.ref v_7, .int 0, .int 0, .int (nI ((0 + nn) + 1))])), (v_7, .inl (cB, m_7, .inl a_7))] H := hP
            have hD : va_D A [(y, .inr (4, [.int th, .ref n2, .int kn2, .int td])), (n2, .inl (cJ, 8, .inr (.inl g))), (mq, .inr (0, [.ref u, .int 0, .int 0, .int 0])), (u, .inl (cB, nn, .inl f)), (q_3, .inr (1, [.ref v_7, .int 0, .int 0, .int (nI ((0 + nn) + 1))])), (v_7, .inl (cB, m_7, .inl a_7))] := hD
            refine W.eq (g2 := F0 m 119 ls [.ref q_3]) rfl ?_
            refine lv_iload_n hx hb dX2_ordered_119 rfl (lv_at hl 1 rfl) ?_
            have hFc := va_free (wc := [(q_3, .inr (1, [.ref v_7, .int 0, .int 0, .int (nI ((0 + nn) + 1))])), (v_7, .inl (cB, m_7, .inl a_7))]) hD hS hA [4, 5] rfl
            refine k_go (va_runV (As := [.int (nI ck)]) (rest := []) ⟨hx, hb, hml, hown, hts⟩ (c_J4_append_bf812 l D cB cJ _ q_3 v_7 ((0 + nn) + 1) m_7 a_7 (hP.sub [4, 5] rfl) ((hD.sub [4, 5] (by decide) rfl).weaken (fun _ _ _ _ => trivial)) ck 1 hf_7 hn_7 hm_7 (by omega) (q_ss1 ck (by omega)) (by decide) (by omega) (by omega)) (cwV 1 hts gX2_ordered_J4_append_bf812 rfl rfl rfl (by decide +kernel) ⟨(Nat.le_of_ble_eq_true rfl), (Nat.le_of_ble_eq_true rfl)⟩) (k_preV hE hS hFc (va_recv hK hP (ci := 1) (q0 := 4) rfl rfl)) rfl rfl hl.1 rfl (lv_room (Nat.le_of_ble_eq_true rfl)) dX2_ordered_120 ⟨by show _ ≤ (60 : Nat); omega, by show _ ≤ (4500 : Nat); omega⟩) hS (fun q _ h => hFc q h) hFc (fun v9 H locs hp hz hk hS => ?_)
            obtain ⟨rfl, v_8, m_8, a_8, hP1, hD1, hf_8, hn_8, hm_8⟩ := hp
            obtain ⟨hP, hD⟩ := va_join (wr := [(y, .inr (4, [.int th, .ref n2, .int kn2, .int td])), (n2, .inl (cJ, 8, .inr (.inl g))), (mq, .inr (0, [.ref u, .int 0, .int 0, .int 0])), (u, .inl (cB, nn, .inl f))]) (wc := [(q_3, .inr (1, [.ref v_7, .int 0, .int 0, .int (nI ((0 + nn) + 1))])), (v_7, .inl (cB, m_7, .inl a_7))]) (w1 := [(q_3, .inr (1, [.ref v_8, .int 0, .int 0, .int (nI (((0 + nn) + 1) + 1))])), (v_8, .inl (cB, m_8, .inl a_8))]) hP hD [4, 5] [0, 1, 2, 3] rfl rfl (by decide) (by decide) hk hFc hP1 hD1
            have hP : va_P D vwCl [(y, .inr (4, [.int th, .ref n2, .int kn2, .int td])), (n2, .inl (cJ, 8, .inr (.inl g))), (mq, .inr (0, [.ref u, .int 0, .int 0, .int 0])), (u, .inl (cB, nn, .inl f)), (q_3, .inr (1, [.ref v_8, .int 0, .int 0, .int (nI (((0 + nn) + 1) + 1))])), (v_8, .inl (cB, m_8, .inl a_8))] H := hP
            have hD : va_D A [(y, .inr (4, [.int th, .ref n2, .int kn2, .int td])), (n2, .inl (cJ, 8, .inr (.inl g))), (mq, .inr (0, [.ref u, .int 0, .int 0, .int 0])), (u, .inl (cB, nn, .inl f)), (q_3, .inr (1, [.ref v_8, .int 0, .int 0, .int (nI (((0 + nn) + 1) + 1))])), (v_8, .inl (cB, m_8, .inl a_8))] := hD
            refine W.eq (g2 := F0 m 123 ls [.ref q_3]) rfl ?_
            have hFc := va_free (wc := [(q_3, .inr (1, [.ref v_8, .int 0, .int 0, .int (nI (((0 + nn) + 1) + 1))])), (v_8, .inl (cB, m_8, .inl a_8))]) hD hS hA [4, 5] rfl
            refine k_go (va_runV (As := []) (rest := []) ⟨hx, hb, hml, hown, hts⟩ (c_J4_toString_0e30d l D cB cJ _ q_3 v_8 (((0 + nn) + 1) + 1) m_8 a_8 (hP.sub [4, 5] rfl) ((hD.sub [4, 5] (by decide) rfl).weaken (fun _ _ _ _ => trivial)) hf_8 hn_8 hm_8) (cwV 0 hts gX2_ordered_J4_toString_0e30d rfl rfl rfl (by decide +kernel) ⟨(Nat.le_of_ble_eq_true rfl), (Nat.le_of_ble_eq_true rfl)⟩) (k_preV hE hS hFc (va_recv hK hP (ci := 1) (q0 := 4) rfl rfl)) rfl rfl hl.1 rfl (lv_room (Nat.le_of_ble_eq_true rfl)) dX2_ordered_123 ⟨by show _ ≤ (60 : Nat); omega, by show _ ≤ (4500 : Nat); omega⟩) hS (fun q _ h => hFc q h) hFc (fun v9 H locs hp hz hk hS => ?_)
            obtain ⟨q_9, u_9, f_9, rfl, hP1, hD1, hf_9⟩ := hp
            obtain ⟨hP, hD⟩ := va_join (wr := [(y, .inr (4, [.int th, .ref n2, .int kn2, .int td])), (n2, .inl (cJ, 8, .inr (.inl g))), (mq, .inr (0, [.ref u, .int 0, .int 0, .int 0])), (u, .inl (cB, nn, .inl f))]) (wc := [(q_3, .inr (1, [.ref v_8, .int 0, .int 0, .int (nI (((0 + nn) + 1) + 1))])), (v_8, .inl (cB, m_8, .inl a_8))]) (w1 := [(q_9, .inr (0, [.ref u_9, .int 0, .int 0, .int 0])), (u_9, .inl (cB, (((0 + nn) + 1) + 1), .inl f_9))]) hP hD [4, 5] [0, 1, 2, 3] rfl rfl (by decide) (by decide) hk hFc hP1 hD1
            have hP : va_P D vwCl [(y, .inr (4, [.int th, .ref n2, .int kn2, .int td])), (n2, .inl (cJ, 8, .inr (.inl g))), (mq, .inr (0, [.ref u, .int 0, .int 0, .int 0])), (u, .inl (cB, nn, .inl f)), (q_9, .inr (0, [.ref u_9, .int 0, .int 0, .int 0])), (u_9, .inl (cB, (((0 + nn) + 1) + 1), .inl f_9))] H := hP
            have hD : va_D A [(y, .inr (4, [.int th, .ref n2, .int kn2, .int td])), (n2, .inl (cJ, 8, .inr (.inl g))), (mq, .inr (0, [.ref u, .int 0, .int 0, .int 0])), (u, .inl (cB, nn, .inl f)), (q_9, .inr (0, [.ref u_9, .int 0, .int 0, .int 0])), (u_9, .inl (cB, (((0 + nn) + 1) + 1), .inl f_9))] := hD
            refine W.eq (g2 := F0 m 126 ls [.ref q_9]) rfl ?_
            refine lv_astore_n (lv' := [(1, .ref q_9), (4, .int (nI (o_ah g ck 8))), (3, .int (nI ck)), (2, .int (nI rk)), (0, .ref y)]) hx hb dX2_ordered_126 rfl hl (by decide) rfl (fun ls hl => ?_)
            refine lv_iinc (v := ((nI ck) + 1)) (lv' := [(3, .int ((nI ck) + 1)), (1, .ref q_9), (4, .int (nI (o_ah g ck 8))), (2, .int (nI rk)), (0, .ref y)]) hx hb dX2_ordered_127 hl (k := 2) rfl rfl (by decide) rfl (fun ls hl => ?_)
            refine lv_goto (tgt := 13) hx hb dX2_ordered_130 (by decide) ?_
            rw [nI_1] at hl
            refine W.widen (k := 7 * o_cnt (fun k => o_ah g k 8) rk (ck + 1)) (n := 544 * o_cnt (fun k => o_ah g k 8) rk (ck + 1)) (by omega) (by omega) ?_
            exact ih (ck + 1) _ _ _ _ (by omega) (by omega) (Or.inr ⟨_, _, _, by omega, hP.sub [0, 1, 4, 5] rfl, hD.sub [0, 1, 4, 5] (by decide) rfl, hf_9⟩) hS (lv_sub hl [0, 3, 1, 4] rfl)
          · refine va_ldcS hx hb hown (hL 0 _ rfl).1 dX2_ordered_109 ?_
            refine lv_goto (tgt := 116) hx hb dX2_ordered_111 (by decide) ?_
            have hFc := va_free (wc := [(q_3, .inr (1, [.ref v_5, .int 0, .int 0, .int (nI (0 + nn))])), (v_5, .inl (cB, m_5, .inl a_5))]) hD hS hA [4, 5] rfl
            refine k_go (va_runV (As := [.ref (k8 0)]) (rest := []) ⟨hx, hb, hml, hown, hts⟩ (c_J4_append_15ec4 l D cB cJ _ q_3 v_5 (0 + nn) m_5 a_5 (hP.sub [4, 5] rfl) ((hD.sub [4, 5] (by decide) rfl).weaken (fun _ _ _ _ => trivial)) (k8 0) 0 (fun j => ([] : List Int32).getD j 0) q_msf0 hf_5 hn_5 hm_5 (by omega)) (cwV 1 hts gX2_ordered_J4_append_15ec4 rfl rfl rfl (by decide +kernel) ⟨(Nat.le_of_ble_eq_true rfl), (Nat.le_of_ble_eq_true rfl)⟩) (k_preRV hE (hL 0 _ rfl).2 hS hFc (va_recv hK hP (ci := 1) (q0 := 4) rfl rfl)) rfl rfl hl.1 rfl (lv_room (Nat.le_of_ble_eq_true rfl)) dX2_ordered_116 ⟨by show _ ≤ (60 : Nat); omega, by show _ ≤ (4500 : Nat); omega⟩) hS (fun q _ h => hFc q h) hFc (fun v9 H locs hp hz hk hS => ?_)
            obtain ⟨rfl, v_10, m_10, a_10, hP1, hD1, hf_10, hn_10, hm_10⟩ := hp
            obtain ⟨hP, hD⟩ := va_join (wr := [(y, .inr (4, [.int th, .ref n2, .int kn2, .int td])), (n2, .inl (cJ, 8, .inr (.inl g))), (mq, .inr (0, [.ref u, .int 0, .int 0, .int 0])), (u, .inl (cB, nn, .inl f))]) (wc := [(q_3, .inr (1, [.ref v_5, .int 0, .int 0, .int (nI (0 + nn))])), (v_5, .inl (cB, m_5, .inl a_5))]) (w1 := [(q_3, .inr (1, [.ref v_10, .int 0, .int 0, .int (nI ((0 + nn) + 0))])), (v_10, .inl (cB, m_10, .inl a_10))]) hP hD [4, 5] [0, 1, 2, 3] rfl rfl (by decide) (by decide) hk hFc hP1 hD1
            have hP : va_P D vwCl [(y, .inr (4, [.int th, .ref n2, .int kn2, .int td])), (n2, .inl (cJ, 8, .inr (.inl g))), (mq, .inr (0, [.ref u, .int 0, .int 0, .int 0])), (u, .inl (cB, nn, .inl f)), (q_3, .inr (1, [.ref v_10, .int 0, .int 0, .int (nI ((0 + nn) + 0))])), (v_10, .inl (cB, m_10, .inl a_10))] H := hP
            have hD : va_D A [(y, .inr (4, [.int th, .ref n2, .int kn2, .int td])), (n2, .inl (cJ, 8, .inr (.inl g))), (mq, .inr (0, [.ref u, .int 0, .int 0, .int 0])), (u, .inl (cB, nn, .inl f)), (q_3, .inr (1, [.ref v_10, .int 0, .int 0, .int (nI ((0 + nn) + 0))])), (v_10, .inl (cB, m_10, .inl a_10))] := hD
            refine W.eq (g2 := F0 m 119 ls [.ref q_3]) rfl ?_
            refine lv_iload_n hx hb dX2_ordered_119 rfl (lv_at hl 1 rfl) ?_
            have hFc := va_free (wc := [(q_3, .inr (1, [.ref v_10, .int 0, .int 0, .int (nI ((0 + nn) + 0))])), (v_10, .inl (cB, m_10, .inl a_10))]) hD hS hA [4, 5] rfl
            refine k_go (va_runV (As := [.int (nI ck)]) (rest := []) ⟨hx, hb, hml, hown, hts⟩ (c_J4_append_bf812 l D cB cJ _ q_3 v_10 ((0 + nn) + 0) m_10 a_10 (hP.sub [4, 5] rfl) ((hD.sub [4, 5] (by decide) rfl).weaken (fun _ _ _ _ => trivial)) ck 1 hf_10 hn_10 hm_10 (by omega) (q_ss1 ck (by omega)) (by decide) (by omega) (by omega)) (cwV 1 hts gX2_ordered_J4_append_bf812 rfl rfl rfl (by decide +kernel) ⟨(Nat.le_of_ble_eq_true rfl), (Nat.le_of_ble_eq_true rfl)⟩) (k_preV hE hS hFc (va_recv hK hP (ci := 1) (q0 := 4) rfl rfl)) rfl rfl hl.1 rfl (lv_room (Nat.le_of_ble_eq_true rfl)) dX2_ordered_120 ⟨by show _ ≤ (60 : Nat); omega, by show _ ≤ (4500 : Nat); omega⟩) hS (fun q _ h => hFc q h) hFc (fun v9 H locs hp hz hk hS => ?_)
            obtain ⟨rfl, v_11, m_11, a_11, hP1, hD1, hf_11, hn_11, hm_11⟩ := hp
            obtain ⟨hP, hD⟩ := va_join (wr := [(y, .inr (4, [.int th, .ref n2, .int kn2, .int td])), (n2, .inl (cJ, 8, .inr (.inl g))), (mq, .inr (0, [.ref u, .int 0, .int 0, .int 0])), (u, .inl (cB, nn, .inl f))]) (wc := [(q_3, .inr (1, [.ref v_10, .int 0, .int 0, .int (nI ((0 + nn) + 0))])), (v_10, .inl (cB, m_10, .inl a_10))]) (w1 := [(q_3, .inr (1, [.ref v_11, .int 0, .int 0, .int (nI (((0 + nn) + 0) + 1))])), (v_11, .inl (cB, m_11, .inl a_11))]) hP hD [4, 5] [0, 1, 2, 3] rfl rfl (by decide) (by decide) hk hFc hP1 hD1
            have hP : va_P D vwCl [(y, .inr (4, [.int th, .ref n2, .int kn2, .int td])), (n2, .inl (cJ, 8, .inr (.inl g))), (mq, .inr (0, [.ref u, .int 0, .int 0, .int 0])), (u, .inl (cB, nn, .inl f)), (q_3, .inr (1, [.ref v_11, .int 0, .int 0, .int (nI (((0 + nn) + 0) + 1))])), (v_11, .inl (cB, m_11, .inl a_11))] H := hP
            have hD : va_D A [(y, .inr (4, [.int th, .ref n2, .int kn2, .int td])), (n2, .inl (cJ, 8, .inr (.inl g))), (mq, .inr (0, [.ref u, .int 0, .int 0, .int 0])), (u, .inl (cB, nn, .inl f)), (q_3, .inr (1, [.ref v_11, .int 0, .int 0, .int (nI (((0 + nn) + 0) + 1))])), (v_11, .inl (cB, m_11, .inl a_11))] := hD
            refine W.eq (g2 := F0 m 123 ls [.ref q_3]) rfl ?_
            have hFc := va_free (wc := [(q_3, .inr (1, [.ref v_11, .int 0, .int 0, .int (nI (((0 + nn) + 0) + 1))])), (v_11, .inl (cB, m_11, .inl a_11))]) hD hS hA [4, 5] rfl
            refine k_go (va_runV (As := []) (rest := []) ⟨hx, hb, hml, hown, hts⟩ (c_J4_toString_0e30d l D cB cJ _ q_3 v_11 (((0 + nn) + 0) + 1) m_11 a_11 (hP.sub [4, 5] rfl) ((hD.sub [4, 5] (by decide) rfl).weaken (fun _ _ _ _ => trivial)) hf_11 hn_11 hm_11) (cwV 0 hts gX2_ordered_J4_toString_0e30d rfl rfl rfl (by decide +kernel) ⟨(Nat.le_of_ble_eq_true rfl), (Nat.le_of_ble_eq_true rfl)⟩) (k_preV hE hS hFc (va_recv hK hP (ci := 1) (q0 := 4) rfl rfl)) rfl rfl hl.1 rfl (lv_room (Nat.le_of_ble_eq_true rfl)) dX2_ordered_123 ⟨by show _ ≤ (60 : Nat); omega, by show _ ≤ (4500 : Nat); omega⟩) hS (fun q _ h => hFc q h) hFc (fun v9 H locs hp hz hk hS => ?_)
            obtain ⟨q_12, u_12, f_12, rfl, hP1, hD1, hf_12⟩ := hp
            obtain ⟨hP, hD⟩ := va_join (wr := [(y, .inr (4, [.int th, .ref n2, .int kn2, .int td])), (n2, .inl (cJ, 8, .inr (.inl g))), (mq, .inr (0, [.ref u, .int 0, .int 0, .int 0])), (u, .inl (cB, nn, .inl f))]) (wc := [(q_3, .inr (1, [.ref v_11, .int 0, .int 0, .int (nI (((0 + nn) + 0) + 1))])), (v_11, .inl (cB, m_11, .inl a_11))]) (w1 := [(q_12, .inr (0, [.ref u_12, .int 0, .int 0, .int 0])), (u_12, .inl (cB, (((0 + nn) + 0) + 1), .inl f_12))]) hP hD [4, 5] [0, 1, 2, 3] rfl rfl (by decide) (by decide) hk hFc hP1 hD1
            have hP : va_P D vwCl [(y, .inr (4, [.int th, .ref n2, .int kn2, .int td])), (n2, .inl (cJ, 8, .inr (.inl g))), (mq, .inr (0, [.ref u, .int 0, .int 0, .int 0])), (u, .inl (cB, nn, .inl f)), (q_12, .inr (0, [.ref u_12, .int 0, .int 0, .int 0])), (u_12, .inl (cB, (((0 + nn) + 0) + 1), .inl f_12))] H := hP
            have hD : va_D A [(y, .inr (4, [.int th, .ref n2, .int kn2, .int td])), (n2, .inl (cJ, 8, .inr (.inl g))), (mq, .inr (0, [.ref u, .int 0, .int 0, .int 0])), (u, .inl (cB, nn, .inl f)), (q_12, .inr (0, [.ref u_12, .int 0, .int 0, .int 0])), (u_12, .inl (cB, (((0 + nn) + 0) + 1), .inl f_12))] := hD
            refine W.eq (g2 := F0 m 126 ls [.ref q_12]) rfl ?_
            refine lv_astore_n (lv' := [(1, .ref q_12), (4, .int (nI (o_ah g ck 8))), (3, .int (nI ck)), (2, .int (nI rk)), (0, .ref y)]) hx hb dX2_ordered_126 rfl hl (by decide) rfl (fun ls hl => ?_)
            refine lv_iinc (v := ((nI ck) + 1)) (lv' := [(3, .int ((nI ck) + 1)), (1, .ref q_12), (4, .int (nI (o_ah g ck 8))), (2, .int (nI rk)), (0, .ref y)]) hx hb dX2_ordered_127 hl (k := 2) rfl rfl (by decide) rfl (fun ls hl => ?_)
            refine lv_goto (tgt := 13) hx hb dX2_ordered_130 (by decide) ?_
            rw [nI_1] at hl
            refine W.widen (k := 7 * o_cnt (fun k => o_ah g k 8) rk (ck + 1)) (n := 544 * o_cnt (fun k => o_ah g k 8) rk (ck + 1)) (by omega) (by omega) ?_
            exact ih (ck + 1) _ _ _ _ (by omega) (by omega) (Or.inr ⟨_, _, _, by omega, hP.sub [0, 1, 4, 5] rfl, hD.sub [0, 1, 4, 5] (by decide) rfl, hf_12⟩) hS (lv_sub hl [0, 3, 1, 4] rfl)
set_option maxHeartbeats 4000000 in
set_option maxRecDepth 100000 in
theorem lpo_rk {p : Program} {l : Launch} {e : Env} {s : State} {m : MethodId} {args : Array Value} {below : List Frame} {meth : Method} {c : Code} {D : va_G} {cB cJ : ClassId} {A : Nat → Prop} {y n2 : Nat} {th kn2 td : Int32} {g : Nat → Int64} {Q : State → Prop} {k8 : Nat → Nat} (hx : p.tables.exec = Jvm.exec) (hb : c.code = cX2_ordered) (hml : c.maxLocals = 6) (hown : s.vm.findClass RX2 = some m.cls) (hts : ∀ w ∈ wsX2_ordered, w.before args s = true) (hE : kE D cB cJ A s s.heap) (hA : ∀ q : Nat, s.heap.size ≤ q → A q) (hL : ∀ (i : Nat) (q : Nat × String × List Int32), t_MS[i]? = some q → vk_R RX2 q.1 q.2.1 (k8 i) s ∧ kRS A s s.heap (k8 i) q.2.2.length (fun j => q.2.2.getD j 0)) (kk : ∀ (mq : Nat) (H : Heap) (locs : List Loc) (ls : Array Slot), kMd D y n2 cJ cB A (k8 0) th g kn2 td (o_cnt (fun k => o_ah g k 8) 8 0) mq H → va_S A s.heap H locs → lv_has ls 6 [(1, .ref mq), (0, .ref y)] → W p l e rm_X2_ordered s m args below meth c H locs (7 * o_cnt (fun k => o_ah g k 8) 8 0) (544 * o_cnt (fun k => o_ah g k 8) 8 0) Q (F0 m 139 ls [])) : ∀ (u9 : Nat) (rk : Nat) (mq : Nat) (H : Heap) (locs : List Loc) (ls : Array Slot), rk + u9 = 9 → rk ≤ 8 → kMd D y n2 cJ cB A (k8 0) th g kn2 td (o_cnt (fun k => o_ah g k 8) rk 0) mq H → va_S A s.heap H locs → lv_has ls 6 [(2, .int (nI rk)), (1, .ref mq), (0, .ref y)] → W p l e rm_X2_ordered s m args below meth c H locs (7 * o_cnt (fun k => o_ah g k 8) rk 0) (544 * o_cnt (fun k => o_ah g k 8) rk 0) Q (F0 m 5 ls []) := by
  have hK := hE.1
  intro u9
  induction u9 with
  | zero =>
    intro rk mq H locs ls h9 h19
    exact absurd h9 (by omega)
  | succ u9 ih =>
    intro rk mq H locs ls h9 hr9 hM hS hl
    refine lv_iload_n hx hb dX2_ordered_5 rfl (lv_at hl 0 rfl) ?_
    refine lv_bipush (v := 8) hx hb dX2_ordered_6 (by decide) ?_
    refine lv_icmp_ge (tgt := 139) hx hb dX2_ordered_8 (by decide) (fun c_1 => ?_) (fun c_1 => ?_)
    · obtain rfl : rk = 8 := by have h9 := c_1; rcases Nat.lt_or_ge rk 8 with z | z; exact absurd ((nI_leI (by decide) (by omega)).mp (show nI 8 ≤ nI rk from h9)) (by omega); omega
      exact kk _ _ _ _ hM hS (lv_sub hl [1, 2] rfl)
    · have hrk : rk < 8 := Nat.lt_of_not_le (fun q => c_1 (nI_le q (by omega)))
      refine lv_iconst (v := 0) hx hb dX2_ordered_11 (by decide) ?_
      refine lv_istore_n (lv' := [(3, .int 0), (2, .int (nI rk)), (1, .ref mq), (0, .ref y)]) hx hb dX2_ordered_12 rfl hl (by decide) rfl (fun ls hl => ?_)
      refine lpo_ck hx hb hml hown hts hE hA hL hrk (fun mq H locs ls hM hS hl => ?_) 9 0 _ _ _ _ rfl (by decide) hM hS (lv_sub hl [0, 1, 2, 3] rfl)
      rw [← o_cnt_rank] at hM ⊢
      refine lv_iinc (v := ((nI rk) + 1)) (lv' := [(2, .int ((nI rk) + 1)), (1, .ref mq), (0, .ref y)]) hx hb dX2_ordered_133 hl (k := 0) rfl rfl (by decide) rfl (fun ls hl => ?_)
      refine lv_goto (tgt := 5) hx hb dX2_ordered_136 (by decide) ?_
      rw [nI_1] at hl
      exact ih (rk + 1) _ _ _ _ (by omega) (by omega) hM hS (lv_sub hl [0, 1, 2] rfl)
set_option maxHeartbeats 4000000 in
set_option maxRecDepth 100000 in
theorem c_X2_ordered (l : Launch) (D : va_G) (cB cJ : ClassId) (Hp : Heap) (y n2 : Nat) (th : Int32) (g : Nat → Int64) (kn2 td : Int32) (hP : va_P D vwCl (wMo y n2 cJ th g kn2 td) Hp) (hD9 : va_D (fun _ => True) (wMo y n2 cJ th g kn2 td)) : kM l D cB cJ yX2_ordered wsX2_ordered rm_X2_ordered (va_A (wMo y n2 cJ th g kn2 td) Hp.size) Hp [.ref y] (kPmo D y n2 cJ cB (va_A (wMo y n2 cJ th g kn2 td) Hp.size) th g kn2 td) 60 4500 := by
  refine Met.ofW (cc := cX2_ordered) (maxL := 6) (ret := (some (.object "java/lang/String"))) (by decide) rfl ?_
  intro p e s m args below meth c s₁ B hml hv
  obtain ⟨rfl, hHp, hE⟩ := hv
  subst hHp
  have hx := B.exec
  have hb := B.bytes
  have hr := B.returns
  have hts := atoms_spec (ws := wsX2_ordered) B.pre
  have hown : s.vm.findClass RX2 = some m.cls := findClass_of_methodNamed B.named
  have hlocks := B.notSynchronized
  have hK := hE.1
  have hD := hD9.self (sz := s.heap.size)
  generalize hAe : va_A (wMo y n2 cJ th g kn2 td) s.heap.size = A at hE hD ⊢
  have hA : ∀ q : Nat, s.heap.size ≤ q → A q := fun q h => by rw [← hAe]; exact Or.inr h
  obtain ⟨k8, hL⟩ := hE.2.2.2.2.1
  have hS : va_S A s.heap s.heap [] := va_S.rf
  have hl := lv_entry ([.ref y]) (n := 6) (Nat.le_of_ble_eq_true rfl)
  rw [lg_entry_eq]
  generalize (lg_sl ([.ref y]) ++ List.replicate (6 - (lg_sl ([.ref y])).length) Slot.unset).toArray = ls at hl ⊢
  have hl : lv_has ls 6 [(0, .ref y)] := hl
  refine va_ldcS hx hb hown (hL 0 _ rfl).1 dX2_ordered_0 ?_
  refine lv_astore_n (lv' := [(1, .ref (k8 0)), (0, .ref y)]) hx hb dX2_ordered_2 rfl hl (by decide) rfl (fun ls hl => ?_)
  refine lv_iconst (v := 0) hx hb dX2_ordered_3 (by decide) ?_
  refine lv_istore_n (lv' := [(2, .int 0), (1, .ref (k8 0)), (0, .ref y)]) hx hb dX2_ordered_4 rfl hl (by decide) rfl (fun ls hl => ?_)
  refine W.widen (k := 7 * o_cnt (fun k => o_ah g k 8) 0 0) (n := 544 * o_cnt (fun k => o_ah g k 8) 0 0) (by omega) (by omega) ?_
  refine lpo_rk hx hb hml hown hts hE hA hL (fun mq H locs ls hM hS hl => ?_) 9 0 _ _ _ _ rfl (by decide) (Or.inl ⟨rfl, o_cnt_0 _, hP, hD⟩) hS (lv_sub hl [0, 1, 2] rfl)
  rw [o_cnt_8 _ (fun k hk => o_ah_lt g k 8 hk)] at hM ⊢
  rcases hM with ⟨-, h00, -, -⟩ | ⟨nn, u, f, hn2c, hP, hD, hfq⟩
  · exact absurd h00 (by decide)
  · refine lv_aload_n hx hb dX2_ordered_139 rfl (lv_at hl 0 rfl) ?_
    refine W.widen (k := 60) (n := 4500) (by omega) (by omega) ?_
    exact k_aret hx hb hr (Or.inl ⟨_, rfl⟩) hlocks hS dX2_ordered_140 ⟨_, nn, _, _, by omega, rfl, hP, hD, hfq⟩
