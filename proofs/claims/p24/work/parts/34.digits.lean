/-- a new string of a few letters -/
def kSD (D : va_G) (cB : ClassId) (A : Nat → Prop) : Option Value → Heap → Prop := fun v1 H1 => ∃ (q n : Nat) , n ≤ 60 ∧ ∃ (u : Nat) (f : Nat → Int32), v1 = some (.ref q) ∧ va_P D vwCl (wST q u cB n f) H1 ∧ va_D A (wST q u cB n f) ∧ sb_Fit f
abbrev rm_X0_digits : Room := { frames := 6, cells := 24, slots := 2754, locals := 191 }
theorem iw_X0_digits_J4 : ∀ w ∈ wsJ40, w ∈ wsX0_digits := by decide +kernel
set_option maxHeartbeats 4000000 in
set_option maxRecDepth 100000 in
theorem lp_digits {p : Program} {l : Launch} {e : Env} {s : State} {m : MethodId} {args : Array Value} {below : List Frame} {meth : Method} {c : Code} {D : va_G} {cB cJ : ClassId} {A : Nat → Prop} {a0 : Int64} {b : Nat} (hx : p.tables.exec = Jvm.exec) (hb : c.code = cX0_digits) (hml : c.maxLocals = 6) (hown : s.vm.findClass RX0 = some m.cls) (hts : ∀ w ∈ wsX0_digits, w.before args s = true) (hE : kE D cB cJ A s s.heap) (hA : ∀ q : Nat, s.heap.size ≤ q → A q) (kk : ∀ (nn : Nat) (v3 : Int64) (H : Heap) (locs : List Loc) (v cp : Nat) (ar : Nat → Int32) (ls : Array Slot), nn ≤ 19 → sb_Fit ar → nn ≤ cp → cp ≤ 130 → va_P D vwCl (wSB b v cB nn cp ar) H → va_D A (wSB b v cB nn cp ar) → va_S A s.heap H locs → lv_has ls 6 [(5, .int (nI nn)), (3, .long v3), (2, .ref b), (0, .long a0)] → W p l e rm_X0_digits s m args below meth c H locs 21 2490 (MQ below (kQ (kSD D cB A) A) args s 24 2754 A) (F0 m 79 ls [])) : ∀ (u9 : Nat) (nn : Nat) (v3 : Int64) (H : Heap) (locs : List Loc) (v cp : Nat) (ar : Nat → Int32) (ls : Array Slot), nn + u9 = 20 → nn ≤ 19 → sb_Fit ar → nn ≤ cp → cp ≤ 130 → va_P D vwCl (wSB b v cB nn cp ar) H → va_D A (wSB b v cB nn cp ar) → va_S A s.heap H locs → lv_has ls 6 [(5, .int (nI nn)), (3, .long v3), (2, .ref b), (0, .long a0)] → W p l e rm_X0_digits s m args below meth c H locs (2 + nn) (20 + 130 * nn) (MQ below (kQ (kSD D cB A) A) args s 24 2754 A) (F0 m 38 ls []) := by
  have hK := hE.1
  intro u9
  induction u9 with
  | zero =>
    intro nn v3 H locs v cp ar ls h9 h19
    exact absurd h9 (by omega)
  | succ u9 ih =>
    intro nn v3 H locs v cp ar ls h9 h19 hf hnm hm hP hD hS hl
    refine lv_iload hx hb dX0_digits_38 (lv_at hl 0 rfl) ?_
    refine lv_bipush (v := 19) hx hb dX0_digits_40 (by decide) ?_
    refine lv_icmp_ge (tgt := 79) hx hb dX0_digits_42 (by decide) (fun c_1 => ?_) (fun c_1 => ?_)
    · refine W.widen (k := 21) (n := 2490) (by omega) (by omega) ?_
      exact kk nn _ _ _ _ _ _ _ h19 hf hnm hm hP hD hS (lv_sub hl [0, 1, 2, 3] rfl)
    · have h18 : nn < 19 := Nat.lt_of_not_le (fun q => c_1 (nI_le q (by omega)))
      refine lv_lload_n hx hb dX0_digits_45 rfl (lv_at hl 1 rfl) ?_
      refine lv_lconst (v := 0) hx hb dX0_digits_46 (by decide) ?_
      refine kl_le (tgt := 79) hx hb dX0_digits_47 dX0_digits_48 (by decide) (fun c_2 => ?_) (fun c_2 => ?_)
      · refine W.widen (k := 21) (n := 2490) (by omega) (by omega) ?_
        exact kk nn _ _ _ _ _ _ _ h19 hf hnm hm hP hD hS (lv_sub hl [0, 1, 2, 3] rfl)
      · refine lv_aload_n hx hb dX0_digits_51 rfl (lv_at hl 2 rfl) ?_
        refine lv_ldc2 (v := 48) hx hb hown (hts (.constantLong RX0 212 (48)) (by decide +kernel)) dX0_digits_52 ?_
        refine lv_lload_n hx hb dX0_digits_55 rfl (lv_at hl 1 rfl) ?_
        refine lv_ldc2 (v := 10) hx hb hown (hts (.constantLong RX0 214 (10)) (by decide +kernel)) dX0_digits_56 ?_
        refine lv_lrem hx hb dX0_digits_59 (by decide) ?_
        refine lv_ladd hx hb dX0_digits_60 ?_
        refine lv_l2i (v := (48 + (v3 - (v3 / 10) * 10)).toInt32) hx hb dX0_digits_61 rfl ?_
        refine lv_i2c (v := (((48 + (v3 - (v3 / 10) * 10)).toInt32).toUInt32 % 65536).toInt32) hx hb dX0_digits_62 rfl ?_
        have hFc := va_free (wc := [(b, .inr (1, [.ref v, .int 0, .int 0, .int (nI nn)])), (v, .inl (cB, cp, .inl ar))]) hD hS hA [0, 1] rfl
        refine k_go (va_runV (As := [.int ((((48 + (v3 - (v3 / 10) * 10)).toInt32).toUInt32 % 65536).toInt32)]) (rest := []) ⟨hx, hb, hml, hown, hts⟩ (c_J4_append_cf468 l D cB cJ _ b v nn cp ar (hP.sub [0, 1] rfl) ((hD.sub [0, 1] (by decide) rfl).weaken (fun _ _ _ _ => trivial)) ((((48 + (v3 - (v3 / 10) * 10)).toInt32).toUInt32 % 65536).toInt32) hf hnm hm (q_digC _) (by omega)) (cwV 1 hts gX0_digits_J4_append_cf468 rfl rfl rfl (by decide +kernel) ⟨(Nat.le_of_ble_eq_true rfl), (Nat.le_of_ble_eq_true rfl)⟩) (k_preV hE hS hFc (va_recv hK hP (ci := 1) (q0 := 0) rfl rfl)) rfl rfl hl.1 rfl (lv_room (Nat.le_of_ble_eq_true rfl)) dX0_digits_63 ⟨by show 2 + nn + 1 ≤ 24; omega, by show 20 + 130 * nn + 130 ≤ 2754; omega⟩) hS (fun q _ h => hFc q h) hFc (fun v9 H locs hp hz hk hS => ?_)
        obtain ⟨rfl, v_3, m_3, a_3, hP1, hD1, hf_3, hn_3, hm_3⟩ := hp
        obtain ⟨hP, hD⟩ := va_join (wr := []) (wc := [(b, .inr (1, [.ref v, .int 0, .int 0, .int (nI nn)])), (v, .inl (cB, cp, .inl ar))]) (w1 := [(b, .inr (1, [.ref v_3, .int 0, .int 0, .int (nI (nn + 1))])), (v_3, .inl (cB, m_3, .inl a_3))]) hP hD [0, 1] [] rfl rfl (by decide) (by decide) hk hFc hP1 hD1
        have hP : va_P D vwCl [(b, .inr (1, [.ref v_3, .int 0, .int 0, .int (nI (nn + 1))])), (v_3, .inl (cB, m_3, .inl a_3))] H := hP
        have hD : va_D A [(b, .inr (1, [.ref v_3, .int 0, .int 0, .int (nI (nn + 1))])), (v_3, .inl (cB, m_3, .inl a_3))] := hD
        refine W.eq (g2 := F0 m 66 ls [.ref b]) rfl ?_
        refine lv_pop hx hb dX0_digits_66 rfl ?_
        refine lv_lload_n hx hb dX0_digits_67 rfl (lv_at hl 1 rfl) ?_
        refine lv_ldc2 (v := 10) hx hb hown (hts (.constantLong RX0 214 (10)) (by decide +kernel)) dX0_digits_68 ?_
        refine lv_ldiv hx hb dX0_digits_71 (by decide) ?_
        refine lv_lstore_n (lv' := [(3, .long (v3 / 10)), (5, .int (nI nn)), (2, .ref b), (0, .long a0)]) hx hb dX0_digits_72 rfl hl (by decide) rfl (fun ls hl => ?_)
        refine lv_iinc (v := ((nI nn) + 1)) (lv' := [(5, .int ((nI nn) + 1)), (3, .long (v3 / 10)), (2, .ref b), (0, .long a0)]) hx hb dX0_digits_73 hl (k := 1) rfl rfl (by decide) rfl (fun ls hl => ?_)
        refine lv_goto (tgt := 38) hx hb dX0_digits_76 (by decide) ?_
        rw [nI_1] at hl
        refine W.widen (k := 2 + (nn + 1)) (n := 20 + 130 * (nn + 1)) (by omega) (by omega) ?_
        exact ih (nn + 1) _ _ _ _ _ _ _ (by omega) (by omega) hf_3 hn_3 hm_3 (hP.sub [0, 1] rfl) (hD.sub [0, 1] (by decide) rfl) hS (lv_sub hl [0, 1, 2, 3] rfl)
set_option maxHeartbeats 4000000 in
set_option maxRecDepth 100000 in
theorem c_X0_digits (l : Launch) (D : va_G) (cB cJ : ClassId) (Hp : Heap) (a0 : Int64) : kM l D cB cJ yX0_digits wsX0_digits rm_X0_digits (va_A [] Hp.size) Hp [.long a0] (kSD D cB (va_A [] Hp.size)) 24 2754 := by
  refine Met.ofW (cc := cX0_digits) (maxL := 6) (ret := (some (.object "java/lang/String"))) (by decide) rfl ?_
  intro p e s m args below meth c s₁ B hml hv
  obtain ⟨rfl, hHp, hE⟩ := hv
  subst hHp
  have hx := B.exec
  have hb := B.bytes
  have hr := B.returns
  have hts := atoms_spec (ws := wsX0_digits) B.pre
  have hown : s.vm.findClass RX0 = some m.cls := findClass_of_methodNamed B.named
  have hlocks := B.notSynchronized
  have hK := hE.1
  have hP : va_P D vwCl [] s.heap := fun k q h => by simp at h
  have hD0 : va_D (fun _ => True) [] := ⟨fun i j p q h => by simp at h, fun k q h => by simp at h⟩
  have hD := hD0.self (sz := s.heap.size)
  generalize hAe : va_A [] s.heap.size = A at hE hD ⊢
  have hA : ∀ q : Nat, s.heap.size ≤ q → A q := fun q h => by rw [← hAe]; exact Or.inr h
  have hS : va_S A s.heap s.heap [] := va_S.rf
  have hl := lv_entry ([.long a0]) (n := 6) (Nat.le_of_ble_eq_true rfl)
  rw [lg_entry_eq]
  generalize (lg_sl ([.long a0]) ++ List.replicate (6 - (lg_sl ([.long a0])).length) Slot.unset).toArray = ls at hl ⊢
  have hl : lv_has ls 6 [(0, .long a0)] := hl
  refine va_new (ci := 1) (fs := [.null, .int 0, .int 0, .int 0]) (C := RJ4) (T := TJ4) (N := 4) hx hb hts iw_X0_digits_J4 tyJ4 tyJ4_ok hown (hts (.classLink RX0 84 RJ4) (by decide +kernel)) (hts (.instantiable RJ4 4) (by decide +kernel)) (hts (.initialized RJ4) (by decide +kernel)) hK hP hD hS hA rfl (fun j hj => by rcases (show j = 0 ∨ j = 1 ∨ j = 2 ∨ j = 3 by omega) with rfl | rfl | rfl | rfl <;> rfl) (Nat.le_of_ble_eq_true rfl) (Nat.le_of_ble_eq_true rfl) dX0_digits_0 (fun q_1 H hP hD hS => ?_)
  have hP : va_P D vwCl [(q_1, .inr (1, [.null, .int 0, .int 0, .int 0]))] H := hP
  have hD : va_D A [(q_1, .inr (1, [.null, .int 0, .int 0, .int 0]))] := hD
  refine lv_dup hx hb dX0_digits_3 rfl ?_
  have hFc := va_free (wc := [(q_1, .inr (1, [.null, .int 0, .int 0, .int 0]))]) hD hS hA [0] rfl
  refine k_go (va_runI (As := []) (rest := [.ref q_1]) ⟨hx, hb, hml, hown, hts⟩ (c_J4_init_da8c8 l D cB cJ _ q_1 (hP.sub [0] rfl) ((hD.sub [0] (by decide) rfl).weaken (fun _ _ _ _ => trivial))) (cwI 0 hts gX0_digits_J4_init_da8c8 rfl rfl rfl (hts (.initialized RJ4) (by decide +kernel)) (hts (.methodLink RX0 86 yJ4_init_da8c8) (by decide +kernel)) (hts (.instanceMethod yJ4_init_da8c8) (by decide +kernel)) rfl (by decide +kernel) ⟨(Nat.le_of_ble_eq_true rfl), (Nat.le_of_ble_eq_true rfl)⟩) (k_preS hE hS hFc) rfl rfl hl.1 rfl (lv_room (Nat.le_of_ble_eq_true rfl)) dX0_digits_4 ⟨(Nat.le_of_ble_eq_true rfl), (Nat.le_of_ble_eq_true rfl)⟩) hS (fun q _ h => hFc q h) hFc (fun v9 H locs hp hz hk hS => ?_)
  obtain ⟨rfl, v_2, m_2, a_2, hP1, hD1, hf_2, hn_2, hk_2, hm_2⟩ := hp
  obtain ⟨hP, hD⟩ := va_join (wr := []) (wc := [(q_1, .inr (1, [.null, .int 0, .int 0, .int 0]))]) (w1 := [(q_1, .inr (1, [.ref v_2, .int 0, .int 0, .int (nI 0)])), (v_2, .inl (cB, m_2, .inl a_2))]) hP hD [0] [] rfl rfl (by decide) (by decide) hk hFc hP1 hD1
  have hP : va_P D vwCl [(q_1, .inr (1, [.ref v_2, .int 0, .int 0, .int (nI 0)])), (v_2, .inl (cB, m_2, .inl a_2))] H := hP
  have hD : va_D A [(q_1, .inr (1, [.ref v_2, .int 0, .int 0, .int (nI 0)])), (v_2, .inl (cB, m_2, .inl a_2))] := hD
  refine W.eq (g2 := F0 m 7 ls [.ref q_1]) rfl ?_
  refine lv_astore_n (lv' := [(2, .ref q_1), (0, .long a0)]) hx hb dX0_digits_7 rfl hl (by decide) rfl (fun ls hl => ?_)
  refine lv_lload_n hx hb dX0_digits_8 rfl (lv_at hl 1 rfl) ?_
  refine va_mabs_long hx hb (hml.trans hl.1.symm) hown (hts (.methodLink RX0 208 Lib.MathLoose.abs_long.x) (by decide +kernel)) (hts (.static Lib.MathLoose.abs_long.x) (by decide +kernel)) (hts (.initialized "java/lang/Math") (by decide +kernel)) (hts (.code Lib.MathLoose.abs_long.x Lib.MathLoose.abs_long.code 2 (some .long)) (by decide +kernel)) (Nat.le_of_ble_eq_true rfl) (Nat.le_of_ble_eq_true rfl) (Nat.le_of_ble_eq_true rfl) (Nat.le_of_ble_eq_true rfl) dX0_digits_9 ?_
  refine lv_lstore_n (lv' := [(3, .long (if 0 < a0 then a0 else -a0)), (2, .ref q_1), (0, .long a0)]) hx hb dX0_digits_12 rfl hl (by decide) rfl (fun ls hl => ?_)
  refine lv_aload_n hx hb dX0_digits_13 rfl (lv_at hl 1 rfl) ?_
  refine lv_ldc2 (v := 48) hx hb hown (hts (.constantLong RX0 212 (48)) (by decide +kernel)) dX0_digits_14 ?_
  refine lv_lload_n hx hb dX0_digits_17 rfl (lv_at hl 0 rfl) ?_
  refine lv_ldc2 (v := 10) hx hb hown (hts (.constantLong RX0 214 (10)) (by decide +kernel)) dX0_digits_18 ?_
  refine lv_lrem hx hb dX0_digits_21 (by decide) ?_
  refine lv_ladd hx hb dX0_digits_22 ?_
  refine lv_l2i (v := (48 + ((if 0 < a0 then a0 else -a0) - ((if 0 < a0 then a0 else -a0) / 10) * 10)).toInt32) hx hb dX0_digits_23 rfl ?_
  refine lv_i2c (v := (((48 + ((if 0 < a0 then a0 else -a0) - ((if 0 < a0 then a0 else -a0) / 10) * 10)).toInt32).toUInt32 % 65536).toInt32) hx hb dX0_digits_24 rfl ?_
  have hFc := va_free (wc := [(q_1, .inr (1, [.ref v_2, .int 0, .int 0, .int (nI 0)])), (v_2, .inl (cB, m_2, .inl a_2))]) hD hS hA [0, 1] rfl
  refine k_go (va_runV (As := [.int ((((48 + ((if 0 < a0 then a0 else -a0) - ((if 0 < a0 then a0 else -a0) / 10) * 10)).toInt32).toUInt32 % 65536).toInt32)]) (rest := []) ⟨hx, hb, hml, hown, hts⟩ (c_J4_append_cf468 l D cB cJ _ q_1 v_2 0 m_2 a_2 (hP.sub [0, 1] rfl) ((hD.sub [0, 1] (by decide) rfl).weaken (fun _ _ _ _ => trivial)) ((((48 + ((if 0 < a0 then a0 else -a0) - ((if 0 < a0 then a0 else -a0) / 10) * 10)).toInt32).toUInt32 % 65536).toInt32) hf_2 hn_2 hm_2 (q_digC _) (by omega)) (cwV 1 hts gX0_digits_J4_append_cf468 rfl rfl rfl (by decide +kernel) ⟨(Nat.le_of_ble_eq_true rfl), (Nat.le_of_ble_eq_true rfl)⟩) (k_preV hE hS hFc (va_recv hK hP (ci := 1) (q0 := 0) rfl rfl)) rfl rfl hl.1 rfl (lv_room (Nat.le_of_ble_eq_true rfl)) dX0_digits_25 ⟨(Nat.le_of_ble_eq_true rfl), (Nat.le_of_ble_eq_true rfl)⟩) hS (fun q _ h => hFc q h) hFc (fun v9 H locs hp hz hk hS => ?_)
  obtain ⟨rfl, v_3, m_3, a_3, hP1, hD1, hf_3, hn_3, hm_3⟩ := hp
  obtain ⟨hP, hD⟩ := va_join (wr := []) (wc := [(q_1, .inr (1, [.ref v_2, .int 0, .int 0, .int (nI 0)])), (v_2, .inl (cB, m_2, .inl a_2))]) (w1 := [(q_1, .inr (1, [.ref v_3, .int 0, .int 0, .int (nI (0 + 1))])), (v_3, .inl (cB, m_3, .inl a_3))]) hP hD [0, 1] [] rfl rfl (by decide) (by decide) hk hFc hP1 hD1
  have hP : va_P D vwCl [(q_1, .inr (1, [.ref v_3, .int 0, .int 0, .int (nI (0 + 1))])), (v_3, .inl (cB, m_3, .inl a_3))] H := hP
  have hD : va_D A [(q_1, .inr (1, [.ref v_3, .int 0, .int 0, .int (nI (0 + 1))])), (v_3, .inl (cB, m_3, .inl a_3))] := hD
  refine W.eq (g2 := F0 m 28 ls [.ref q_1]) rfl ?_
  refine lv_pop hx hb dX0_digits_28 rfl ?_
  refine lv_lload_n hx hb dX0_digits_29 rfl (lv_at hl 0 rfl) ?_
  refine lv_ldc2 (v := 10) hx hb hown (hts (.constantLong RX0 214 (10)) (by decide +kernel)) dX0_digits_30 ?_
  refine lv_ldiv hx hb dX0_digits_33 (by decide) ?_
  refine lv_lstore_n (lv' := [(3, .long ((if 0 < a0 then a0 else -a0) / 10)), (2, .ref q_1), (0, .long a0)]) hx hb dX0_digits_34 rfl hl (by decide) rfl (fun ls hl => ?_)
  refine lv_iconst (v := 1) hx hb dX0_digits_35 (by decide) ?_
  refine lv_istore (lv' := [(5, .int 1), (3, .long ((if 0 < a0 then a0 else -a0) / 10)), (2, .ref q_1), (0, .long a0)]) hx hb dX0_digits_36 hl (by decide) rfl (fun ls hl => ?_)
  refine lp_digits hx hb hml hown hts hE hA (fun nn v3 H locs v cp ar ls h19 hf hnm hm hP hD hS hl => ?_) 19 1 _ _ _ _ _ _ _ rfl (by decide) hf_3 hn_3 hm_3 (hP.sub [0, 1] rfl) (hD.sub [0, 1] (by decide) rfl) hS (lv_sub hl [0, 1, 2, 3] rfl)
  refine lv_lload_n hx hb dX0_digits_79 rfl (lv_at hl 3 rfl) ?_
  refine lv_lconst (v := 0) hx hb dX0_digits_80 (by decide) ?_
  refine kl_ge (tgt := 92) hx hb dX0_digits_81 dX0_digits_82 (by decide) (fun c_4 => ?_) (fun c_4 => ?_)
  · refine lv_aload_n hx hb dX0_digits_92 rfl (lv_at hl 2 rfl) ?_
    have hFc := va_free (wc := [(q_1, .inr (1, [.ref v, .int 0, .int 0, .int (nI nn)])), (v, .inl (cB, cp, .inl ar))]) hD hS hA [0, 1] rfl
    refine k_go (va_runV (As := []) (rest := []) ⟨hx, hb, hml, hown, hts⟩ (c_J4_reverse_43fcb l D cB cJ _ q_1 v nn cp ar (hP.sub [0, 1] rfl) ((hD.sub [0, 1] (by decide) rfl).weaken (fun _ _ _ _ => trivial)) hf hnm hm) (cwV 0 hts gX0_digits_J4_reverse_43fcb rfl rfl rfl (by decide +kernel) ⟨(Nat.le_of_ble_eq_true rfl), (Nat.le_of_ble_eq_true rfl)⟩) (k_preV hE hS hFc (va_recv hK hP (ci := 1) (q0 := 0) rfl rfl)) rfl rfl hl.1 rfl (lv_room (Nat.le_of_ble_eq_true rfl)) dX0_digits_93 ⟨(Nat.le_of_ble_eq_true rfl), (Nat.le_of_ble_eq_true rfl)⟩) hS (fun q _ h => hFc q h) hFc (fun v9 H locs hp hz hk hS => ?_)
    obtain ⟨rfl, v_5, m_5, a_5, hP1, hD1, hf_5, hn_5, hm_5⟩ := hp
    obtain ⟨hP, hD⟩ := va_join (wr := []) (wc := [(q_1, .inr (1, [.ref v, .int 0, .int 0, .int (nI nn)])), (v, .inl (cB, cp, .inl ar))]) (w1 := [(q_1, .inr (1, [.ref v_5, .int 0, .int 0, .int (nI nn)])), (v_5, .inl (cB, m_5, .inl a_5))]) hP hD [0, 1] [] rfl rfl (by decide) (by decide) hk hFc hP1 hD1
    have hP : va_P D vwCl [(q_1, .inr (1, [.ref v_5, .int 0, .int 0, .int (nI nn)])), (v_5, .inl (cB, m_5, .inl a_5))] H := hP
    have hD : va_D A [(q_1, .inr (1, [.ref v_5, .int 0, .int 0, .int (nI nn)])), (v_5, .inl (cB, m_5, .inl a_5))] := hD
    refine W.eq (g2 := F0 m 96 ls [.ref q_1]) rfl ?_
    have hFc := va_free (wc := [(q_1, .inr (1, [.ref v_5, .int 0, .int 0, .int (nI nn)])), (v_5, .inl (cB, m_5, .inl a_5))]) hD hS hA [0, 1] rfl
    refine k_go (va_runV (As := []) (rest := []) ⟨hx, hb, hml, hown, hts⟩ (c_J4_toString_0e30d l D cB cJ _ q_1 v_5 nn m_5 a_5 (hP.sub [0, 1] rfl) ((hD.sub [0, 1] (by decide) rfl).weaken (fun _ _ _ _ => trivial)) hf_5 hn_5 hm_5) (cwV 0 hts gX0_digits_J4_toString_0e30d rfl rfl rfl (by decide +kernel) ⟨(Nat.le_of_ble_eq_true rfl), (Nat.le_of_ble_eq_true rfl)⟩) (k_preV hE hS hFc (va_recv hK hP (ci := 1) (q0 := 0) rfl rfl)) rfl rfl hl.1 rfl (lv_room (Nat.le_of_ble_eq_true rfl)) dX0_digits_96 ⟨(Nat.le_of_ble_eq_true rfl), (Nat.le_of_ble_eq_true rfl)⟩) hS (fun q _ h => hFc q h) hFc (fun v9 H locs hp hz hk hS => ?_)
    obtain ⟨q_6, u_6, f_6, rfl, hP1, hD1, hf_6⟩ := hp
    obtain ⟨hP, hD⟩ := va_join (wr := []) (wc := [(q_1, .inr (1, [.ref v_5, .int 0, .int 0, .int (nI nn)])), (v_5, .inl (cB, m_5, .inl a_5))]) (w1 := [(q_6, .inr (0, [.ref u_6, .int 0, .int 0, .int 0])), (u_6, .inl (cB, nn, .inl f_6))]) hP hD [0, 1] [] rfl rfl (by decide) (by decide) hk hFc hP1 hD1
    have hP : va_P D vwCl [(q_6, .inr (0, [.ref u_6, .int 0, .int 0, .int 0])), (u_6, .inl (cB, nn, .inl f_6))] H := hP
    have hD : va_D A [(q_6, .inr (0, [.ref u_6, .int 0, .int 0, .int 0])), (u_6, .inl (cB, nn, .inl f_6))] := hD
    refine W.eq (g2 := F0 m 99 ls [.ref q_6]) rfl ?_
    refine W.widen (k := 24) (n := 2754) (Nat.le_of_ble_eq_true rfl) (Nat.le_of_ble_eq_true rfl) ?_
    exact k_aret hx hb hr (Or.inl ⟨_, rfl⟩) hlocks hS dX0_digits_99 ⟨_, nn, by omega, _, _, rfl, hP.sub [0, 1] rfl, hD.sub [0, 1] (by decide) rfl, hf_6⟩
  · refine lv_aload_n hx hb dX0_digits_85 rfl (lv_at hl 2 rfl) ?_
    refine lv_bipush (v := 45) hx hb dX0_digits_86 (by decide) ?_
    have hFc := va_free (wc := [(q_1, .inr (1, [.ref v, .int 0, .int 0, .int (nI nn)])), (v, .inl (cB, cp, .inl ar))]) hD hS hA [0, 1] rfl
    refine k_go (va_runV (As := [.int 45]) (rest := []) ⟨hx, hb, hml, hown, hts⟩ (c_J4_append_cf468 l D cB cJ _ q_1 v nn cp ar (hP.sub [0, 1] rfl) ((hD.sub [0, 1] (by decide) rfl).weaken (fun _ _ _ _ => trivial)) 45 hf hnm hm (by decide) (by omega)) (cwV 1 hts gX0_digits_J4_append_cf468 rfl rfl rfl (by decide +kernel) ⟨(Nat.le_of_ble_eq_true rfl), (Nat.le_of_ble_eq_true rfl)⟩) (k_preV hE hS hFc (va_recv hK hP (ci := 1) (q0 := 0) rfl rfl)) rfl rfl hl.1 rfl (lv_room (Nat.le_of_ble_eq_true rfl)) dX0_digits_88 ⟨(Nat.le_of_ble_eq_true rfl), (Nat.le_of_ble_eq_true rfl)⟩) hS (fun q _ h => hFc q h) hFc (fun v9 H locs hp hz hk hS => ?_)
    obtain ⟨rfl, v_7, m_7, a_7, hP1, hD1, hf_7, hn_7, hm_7⟩ := hp
    obtain ⟨hP, hD⟩ := va_join (wr := []) (wc := [(q_1, .inr (1, [.ref v, .int 0, .int 0, .int (nI nn)])), (v, .inl (cB, cp, .inl ar))]) (w1 := [(q_1, .inr (1, [.ref v_7, .int 0, .int 0, .int (nI (nn + 1))])), (v_7, .inl (cB, m_7, .inl a_7))]) hP hD [0, 1] [] rfl rfl (by decide) (by decide) hk hFc hP1 hD1
    have hP : va_P D vwCl [(q_1, .inr (1, [.ref v_7, .int 0, .int 0, .int (nI (nn + 1))])), (v_7, .inl (cB, m_7, .inl a_7))] H := hP
    have hD : va_D A [(q_1, .inr (1, [.ref v_7, .int 0, .int 0, .int (nI (nn + 1))])), (v_7, .inl (cB, m_7, .inl a_7))] := hD
    refine W.eq (g2 := F0 m 91 ls [.ref q_1]) rfl ?_
    refine lv_pop hx hb dX0_digits_91 rfl ?_
    refine lv_aload_n hx hb dX0_digits_92 rfl (lv_at hl 2 rfl) ?_
    have hFc := va_free (wc := [(q_1, .inr (1, [.ref v_7, .int 0, .int 0, .int (nI (nn + 1))])), (v_7, .inl (cB, m_7, .inl a_7))]) hD hS hA [0, 1] rfl
    refine k_go (va_runV (As := []) (rest := []) ⟨hx, hb, hml, hown, hts⟩ (c_J4_reverse_43fcb l D cB cJ _ q_1 v_7 (nn + 1) m_7 a_7 (hP.sub [0, 1] rfl) ((hD.sub [0, 1] (by decide) rfl).weaken (fun _ _ _ _ => trivial)) hf_7 hn_7 hm_7) (cwV 0 hts gX0_digits_J4_reverse_43fcb rfl rfl rfl (by decide +kernel) ⟨(Nat.le_of_ble_eq_true rfl), (Nat.le_of_ble_eq_true rfl)⟩) (k_preV hE hS hFc (va_recv hK hP (ci := 1) (q0 := 0) rfl rfl)) rfl rfl hl.1 rfl (lv_room (Nat.le_of_ble_eq_true rfl)) dX0_digits_93 ⟨(Nat.le_of_ble_eq_true rfl), (Nat.le_of_ble_eq_true rfl)⟩) hS (fun q _ h => hFc q h) hFc (fun v9 H locs hp hz hk hS => ?_)
    obtain ⟨rfl, v_8, m_8, a_8, hP1, hD1, hf_8, hn_8, hm_8⟩ := hp
    obtain ⟨hP, hD⟩ := va_join (wr := []) (wc := [(q_1, .inr (1, [.ref v_7, .int 0, .int 0, .int (nI (nn + 1))])), (v_7, .inl (cB, m_7, .inl a_7))]) (w1 := [(q_1, .inr (1, [.ref v_8, .int 0, .int 0, .int (nI (nn + 1))])), (v_8, .inl (cB, m_8, .inl a_8))]) hP hD [0, 1] [] rfl rfl (by decide) (by decide) hk hFc hP1 hD1
    have hP : va_P D vwCl [(q_1, .inr (1, [.ref v_8, .int 0, .int 0, .int (nI (nn + 1))])), (v_8, .inl (cB, m_8, .inl a_8))] H := hP
    have hD : va_D A [(q_1, .inr (1, [.ref v_8, .int 0, .int 0, .int (nI (nn + 1))])), (v_8, .inl (cB, m_8, .inl a_8))] := hD
    refine W.eq (g2 := F0 m 96 ls [.ref q_1]) rfl ?_
    have hFc := va_free (wc := [(q_1, .inr (1, [.ref v_8, .int 0, .int 0, .int (nI (nn + 1))])), (v_8, .inl (cB, m_8, .inl a_8))]) hD hS hA [0, 1] rfl
    refine k_go (va_runV (As := []) (rest := []) ⟨hx, hb, hml, hown, hts⟩ (c_J4_toString_0e30d l D cB cJ _ q_1 v_8 (nn + 1) m_8 a_8 (hP.sub [0, 1] rfl) ((hD.sub [0, 1] (by decide) rfl).weaken (fun _ _ _ _ => trivial)) hf_8 hn_8 hm_8) (cwV 0 hts gX0_digits_J4_toString_0e30d rfl rfl rfl (by decide +kernel) ⟨(Nat.le_of_ble_eq_true rfl), (Nat.le_of_ble_eq_true rfl)⟩) (k_preV hE hS hFc (va_recv hK hP (ci := 1) (q0 := 0) rfl rfl)) rfl rfl hl.1 rfl (lv_room (Nat.le_of_ble_eq_true rfl)) dX0_digits_96 ⟨(Nat.le_of_ble_eq_true rfl), (Nat.le_of_ble_eq_true rfl)⟩) hS (fun q _ h => hFc q h) hFc (fun v9 H locs hp hz hk hS => ?_)
    obtain ⟨q_9, u_9, f_9, rfl, hP1, hD1, hf_9⟩ := hp
    obtain ⟨hP, hD⟩ := va_join (wr := []) (wc := [(q_1, .inr (1, [.ref v_8, .int 0, .int 0, .int (nI (nn + 1))])), (v_8, .inl (cB, m_8, .inl a_8))]) (w1 := [(q_9, .inr (0, [.ref u_9, .int 0, .int 0, .int 0])), (u_9, .inl (cB, (nn + 1), .inl f_9))]) hP hD [0, 1] [] rfl rfl (by decide) (by decide) hk hFc hP1 hD1
    have hP : va_P D vwCl [(q_9, .inr (0, [.ref u_9, .int 0, .int 0, .int 0])), (u_9, .inl (cB, (nn + 1), .inl f_9))] H := hP
    have hD : va_D A [(q_9, .inr (0, [.ref u_9, .int 0, .int 0, .int 0])), (u_9, .inl (cB, (nn + 1), .inl f_9))] := hD
    refine W.eq (g2 := F0 m 99 ls [.ref q_9]) rfl ?_
    refine W.widen (k := 24) (n := 2754) (Nat.le_of_ble_eq_true rfl) (Nat.le_of_ble_eq_true rfl) ?_
    exact k_aret hx hb hr (Or.inl ⟨_, rfl⟩) hlocks hS dX0_digits_99 ⟨_, (nn + 1), by omega, _, _, rfl, hP.sub [0, 1] rfl, hD.sub [0, 1] (by decide) rfl, hf_9⟩
