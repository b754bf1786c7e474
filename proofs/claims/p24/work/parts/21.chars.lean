abbrev rm_J6_stringSize_0f7a4 : Room := { frames := 0, cells := 0, slots := 0, locals := 0 }
def jl_J6_stringSize_0f7a4_16 (a0 : Int32) (w0 : Int32) (w1 : Int32) (k9 : Int32 → Int32 → Int32) : Nat → Int32 → Int32 → Int32
  | 0, _, _ => 0
  | u9 + 1, v2, v3 => (if 10 ≤ v3 then (k9 v2 v3) else (if w0 ≤ v2 then (jl_J6_stringSize_0f7a4_16 a0 w0 w1 k9 u9 (10 * v2) (v3 + 1)) else (v3 + w1)))
def jt_J6_stringSize_0f7a4_16 (a0 : Int32) (w0 : Int32) (w1 : Int32) (t9 : Int32 → Int32 → Prop) : Nat → Int32 → Int32 → Prop
  | 0, _, _ => False
  | u9 + 1, v2, v3 => ((10 ≤ v3 → (t9 v2 v3)) ∧ (¬ (10 ≤ v3) → ((w0 ≤ v2 → (jt_J6_stringSize_0f7a4_16 a0 w0 w1 t9 u9 (10 * v2) (v3 + 1))) ∧ (¬ (w0 ≤ v2) → True))))
set_option maxHeartbeats 4000000 in
set_option maxRecDepth 100000 in
theorem lp_J6_stringSize_0f7a4_16 {p : Program} {l : Launch} {e : Env} {s : State} {m : MethodId} {args : Array Value} {below : List Frame} {meth : Method} {c : Code} {D : va_G} {cB cJ : ClassId} (a0 : Int32) (w0 : Int32) (w1 : Int32) (J : Int32) (hx : p.tables.exec = Jvm.exec) (hb : c.code = cJ6_stringSize_0f7a4) (hml : c.maxLocals = 4) (hr : meth.sig.returnType = (some .int)) (hlocks : meth.locks = false) (hown : s.vm.findClass RJ6 = some m.cls) (hts : ∀ w ∈ wsJ6_stringSize_0f7a4, w.before args s = true) (hE : kE D cB cJ kF s s.heap)  (k9 : Int32 → Int32 → Int32) (t9 : Int32 → Int32 → Prop) (kk : ∀ (v2 : Int32) (v3 : Int32) (locs : List Loc) (ls : Array Slot), J = k9 v2 v3 → t9 v2 v3 → va_S kF s.heap s.heap locs → lv_has ls 4 [(0, .int w0), (1, .int w1), (2, .int v2), (3, .int v3)] → W p l e rm_J6_stringSize_0f7a4 s m args below meth c s.heap locs 0 0 (MQ below (kQ (kP (some (.int J)) s.heap) kF) args s 0 0 kF) (F0 m 42 ls [])) : ∀ (u9 : Nat) (v2 : Int32) (v3 : Int32) (locs : List Loc) (ls : Array Slot), J = jl_J6_stringSize_0f7a4_16 a0 w0 w1 k9 u9 v2 v3 → jt_J6_stringSize_0f7a4_16 a0 w0 w1 t9 u9 v2 v3 → va_S kF s.heap s.heap locs → lv_has ls 4 [(0, .int w0), (1, .int w1), (2, .int v2), (3, .int v3)] → W p l e rm_J6_stringSize_0f7a4 s m args below meth c s.heap locs 0 0 (MQ below (kQ (kP (some (.int J)) s.heap) kF) args s 0 0 kF) (F0 m 16 ls []) := by
  have hK := hE.1
  intro u9
  induction u9 with
  | zero =>
    intro v2 v3 locs ls hJ hT
    exact hT.elim
  | succ u9 ih =>
    intro v2 v3 locs ls hJ hT hS hl
    rw [jl_J6_stringSize_0f7a4_16] at hJ
    rw [jt_J6_stringSize_0f7a4_16] at hT
    refine lv_iload_n hx hb dJ6_stringSize_0f7a4_16 rfl (lv_at hl 3 rfl) ?_
    refine lv_bipush (v := 10) hx hb dJ6_stringSize_0f7a4_17 (by decide) ?_
    refine lv_icmp_ge (tgt := 42) hx hb dJ6_stringSize_0f7a4_19 (by decide) (fun c_1002 => ?_) (fun c_1002 => ?_)
    · exact kk v2 v3 _ _ (hJ.trans (by rw [if_pos c_1002])) (hT.1 c_1002) hS (lv_sub hl [0, 1, 2, 3] rfl)
    · refine lv_iload_n hx hb dJ6_stringSize_0f7a4_22 rfl (lv_at hl 0 rfl) ?_
      refine lv_iload_n hx hb dJ6_stringSize_0f7a4_23 rfl (lv_at hl 2 rfl) ?_
      refine lv_icmp_le (tgt := 31) hx hb dJ6_stringSize_0f7a4_24 (by decide) (fun c_1003 => ?_) (fun c_1003 => ?_)
      · refine lv_bipush (v := 10) hx hb dJ6_stringSize_0f7a4_31 (by decide) ?_
        refine lv_iload_n hx hb dJ6_stringSize_0f7a4_33 rfl (lv_at hl 2 rfl) ?_
        refine lv_imul hx hb dJ6_stringSize_0f7a4_34 ?_
        refine lv_istore_n (lv' := [(2, .int (10 * v2)), (0, .int w0), (1, .int w1), (3, .int v3)]) hx hb dJ6_stringSize_0f7a4_35 rfl hl (by decide) rfl (fun ls hl => ?_)
        refine lv_iinc (v := (v3 + 1)) (lv' := [(3, .int (v3 + 1)), (2, .int (10 * v2)), (0, .int w0), (1, .int w1)]) hx hb dJ6_stringSize_0f7a4_36 hl (k := 3) rfl rfl (by decide) rfl (fun ls hl => ?_)
        refine lv_goto (tgt := 16) hx hb dJ6_stringSize_0f7a4_39 (by decide) ?_
        exact ih (10 * v2) (v3 + 1) _ _ (hJ.trans (by rw [if_neg c_1002, if_pos c_1003])) ((hT.2 c_1002).1 c_1003) hS (lv_sub hl [2, 3, 1, 0] rfl)
      · refine lv_iload_n hx hb dJ6_stringSize_0f7a4_27 rfl (lv_at hl 3 rfl) ?_
        refine lv_iload_n hx hb dJ6_stringSize_0f7a4_28 rfl (lv_at hl 1 rfl) ?_
        refine lv_iadd hx hb dJ6_stringSize_0f7a4_29 ?_
        exact k_iret hx hb hr hlocks hS dJ6_stringSize_0f7a4_30 ⟨by rw [hJ, if_neg c_1002, if_neg c_1003], rfl⟩
def j_J6_stringSize_0f7a4 (a0 : Int32) : Int32 := (if a0 < 0 then (jl_J6_stringSize_0f7a4_16 a0 a0 1 (fun (v_2 : Int32) (v_3 : Int32) => (10 + 1)) 100 (-10) 1) else (jl_J6_stringSize_0f7a4_16 a0 (-a0) 0 (fun (v_4 : Int32) (v_5 : Int32) => (10 + 0)) 100 (-10) 1))
def T_J6_stringSize_0f7a4 (a0 : Int32) : Prop := ((a0 < 0 → (jt_J6_stringSize_0f7a4_16 a0 a0 1 (fun (v_2 : Int32) (v_3 : Int32) => True) 100 (-10) 1)) ∧ (¬ (a0 < 0) → (jt_J6_stringSize_0f7a4_16 a0 (-a0) 0 (fun (v_4 : Int32) (v_5 : Int32) => True) 100 (-10) 1)))
set_option maxHeartbeats 4000000 in
set_option maxRecDepth 100000 in
theorem c_J6_stringSize_0f7a4 (l : Launch) (D : va_G) (cB cJ : ClassId) (Hp : Heap)  (a0 : Int32) (hT9 : T_J6_stringSize_0f7a4 a0) : kM l D cB cJ yJ6_stringSize_0f7a4 wsJ6_stringSize_0f7a4 rm_J6_stringSize_0f7a4 kF Hp [.int a0] (kP (some (.int (j_J6_stringSize_0f7a4 a0))) Hp) 0 0 := by
  refine Met.ofW (cc := cJ6_stringSize_0f7a4) (maxL := 4) (ret := (some .int)) (by decide) rfl ?_
  intro p e s m args below meth c s₁ B hml hv
  obtain ⟨rfl, hHp, hE⟩ := hv
  subst hHp
  have hx := B.exec
  have hb := B.bytes
  have hr := B.returns
  have hts := atoms_spec (ws := wsJ6_stringSize_0f7a4) B.pre
  have hown : s.vm.findClass RJ6 = some m.cls := findClass_of_methodNamed B.named
  have hlocks := B.notSynchronized
  have hK := hE.1
  have hS : va_S kF s.heap s.heap [] := va_S.rf
  have hl := lv_entry ([.int a0]) (n := 4) (Nat.le_of_ble_eq_true rfl)
  rw [lg_entry_eq]
  generalize (lg_sl ([.int a0]) ++ List.replicate (4 - (lg_sl ([.int a0])).length) Slot.unset).toArray = ls at hl ⊢
  have hl : lv_has ls 4 [(0, .int a0)] := hl
  have hJ : (j_J6_stringSize_0f7a4 a0) = (if a0 < 0 then (jl_J6_stringSize_0f7a4_16 a0 a0 1 (fun (v_2 : Int32) (v_3 : Int32) => (10 + 1)) 100 (-10) 1) else (jl_J6_stringSize_0f7a4_16 a0 (-a0) 0 (fun (v_4 : Int32) (v_5 : Int32) => (10 + 0)) 100 (-10) 1)) := rfl
  have hT : ((a0 < 0 → (jt_J6_stringSize_0f7a4_16 a0 a0 1 (fun (v_2 : Int32) (v_3 : Int32) => True) 100 (-10) 1)) ∧ (¬ (a0 < 0) → (jt_J6_stringSize_0f7a4_16 a0 (-a0) 0 (fun (v_4 : Int32) (v_5 : Int32) => True) 100 (-10) 1))) := hT9
  refine lv_iconst (v := 1) hx hb dJ6_stringSize_0f7a4_0 (by decide) ?_
  refine lv_istore_n (lv' := [(1, .int 1), (0, .int a0)]) hx hb dJ6_stringSize_0f7a4_1 rfl hl (by decide) rfl (fun ls hl => ?_)
  refine lv_iload_n hx hb dJ6_stringSize_0f7a4_2 rfl (lv_at hl 1 rfl) ?_
  refine lv_if_lt (tgt := 11) hx hb dJ6_stringSize_0f7a4_3 (by decide) (fun c_1 => ?_) (fun c_1 => ?_)
  · refine lv_bipush (v := (-10)) hx hb dJ6_stringSize_0f7a4_11 (by decide) ?_
    refine lv_istore_n (lv' := [(2, .int (-10)), (1, .int 1), (0, .int a0)]) hx hb dJ6_stringSize_0f7a4_13 rfl hl (by decide) rfl (fun ls hl => ?_)
    refine lv_iconst (v := 1) hx hb dJ6_stringSize_0f7a4_14 (by decide) ?_
    refine lv_istore_n (lv' := [(3, .int 1), (2, .int (-10)), (1, .int 1), (0, .int a0)]) hx hb dJ6_stringSize_0f7a4_15 rfl hl (by decide) rfl (fun ls hl => ?_)
    refine lp_J6_stringSize_0f7a4_16 a0 a0 1 (j_J6_stringSize_0f7a4 a0) hx hb hml hr hlocks hown hts hE  (fun (v_2 : Int32) (v_3 : Int32) => (10 + 1)) (fun (v_2 : Int32) (v_3 : Int32) => True) (fun v_2 v_3 locs ls hJ hT hS hl => ?_) 100 (-10) 1 _ _ (hJ.trans (by rw [if_pos c_1])) (hT.1 c_1) hS (lv_sub hl [3, 2, 1, 0] rfl)
    (try dsimp only at hJ); (try dsimp only at hT)
    refine lv_bipush (v := 10) hx hb dJ6_stringSize_0f7a4_42 (by decide) ?_
    refine lv_iload_n hx hb dJ6_stringSize_0f7a4_44 rfl (lv_at hl 1 rfl) ?_
    refine lv_iadd hx hb dJ6_stringSize_0f7a4_45 ?_
    exact k_iret hx hb hr hlocks hS dJ6_stringSize_0f7a4_46 ⟨by rw [hJ], rfl⟩
  · refine lv_iconst (v := 0) hx hb dJ6_stringSize_0f7a4_6 (by decide) ?_
    refine lv_istore_n (lv' := [(1, .int 0), (0, .int a0)]) hx hb dJ6_stringSize_0f7a4_7 rfl hl (by decide) rfl (fun ls hl => ?_)
    refine lv_iload_n hx hb dJ6_stringSize_0f7a4_8 rfl (lv_at hl 1 rfl) ?_
    refine lv_ineg hx hb dJ6_stringSize_0f7a4_9 ?_
    refine lv_istore_n (lv' := [(0, .int (-a0)), (1, .int 0)]) hx hb dJ6_stringSize_0f7a4_10 rfl hl (by decide) rfl (fun ls hl => ?_)
    refine lv_bipush (v := (-10)) hx hb dJ6_stringSize_0f7a4_11 (by decide) ?_
    refine lv_istore_n (lv' := [(2, .int (-10)), (0, .int (-a0)), (1, .int 0)]) hx hb dJ6_stringSize_0f7a4_13 rfl hl (by decide) rfl (fun ls hl => ?_)
    refine lv_iconst (v := 1) hx hb dJ6_stringSize_0f7a4_14 (by decide) ?_
    refine lv_istore_n (lv' := [(3, .int 1), (2, .int (-10)), (0, .int (-a0)), (1, .int 0)]) hx hb dJ6_stringSize_0f7a4_15 rfl hl (by decide) rfl (fun ls hl => ?_)
    refine lp_J6_stringSize_0f7a4_16 a0 (-a0) 0 (j_J6_stringSize_0f7a4 a0) hx hb hml hr hlocks hown hts hE  (fun (v_4 : Int32) (v_5 : Int32) => (10 + 0)) (fun (v_4 : Int32) (v_5 : Int32) => True) (fun v_4 v_5 locs ls hJ hT hS hl => ?_) 100 (-10) 1 _ _ (hJ.trans (by rw [if_neg c_1])) (hT.2 c_1) hS (lv_sub hl [2, 3, 1, 0] rfl)
    (try dsimp only at hJ); (try dsimp only at hT)
    refine lv_bipush (v := 10) hx hb dJ6_stringSize_0f7a4_42 (by decide) ?_
    refine lv_iload_n hx hb dJ6_stringSize_0f7a4_44 rfl (lv_at hl 1 rfl) ?_
    refine lv_iadd hx hb dJ6_stringSize_0f7a4_45 ?_
    exact k_iret hx hb hr hlocks hS dJ6_stringSize_0f7a4_46 ⟨by rw [hJ], rfl⟩
abbrev rm_J13_stringSize_95d88 : Room := { frames := 0, cells := 0, slots := 0, locals := 0 }
def jl_J13_stringSize_95d88_20 (a0 : Int64) (w0 : Int64) (w2 : Int32) (k9 : Int64 → Int32 → Int32) : Nat → Int64 → Int32 → Int32
  | 0, _, _ => 0
  | u9 + 1, v3, v5 => (if 19 ≤ v5 then (k9 v3 v5) else (if w0 ≤ v3 then (jl_J13_stringSize_95d88_20 a0 w0 w2 k9 u9 (10 * v3) (v5 + 1)) else (v5 + w2)))
def jt_J13_stringSize_95d88_20 (a0 : Int64) (w0 : Int64) (w2 : Int32) (t9 : Int64 → Int32 → Prop) : Nat → Int64 → Int32 → Prop
  | 0, _, _ => False
  | u9 + 1, v3, v5 => ((19 ≤ v5 → (t9 v3 v5)) ∧ (¬ (19 ≤ v5) → ((w0 ≤ v3 → (jt_J13_stringSize_95d88_20 a0 w0 w2 t9 u9 (10 * v3) (v5 + 1))) ∧ (¬ (w0 ≤ v3) → True))))
set_option maxHeartbeats 4000000 in
set_option maxRecDepth 100000 in
theorem lp_J13_stringSize_95d88_20 {p : Program} {l : Launch} {e : Env} {s : State} {m : MethodId} {args : Array Value} {below : List Frame} {meth : Method} {c : Code} {D : va_G} {cB cJ : ClassId} (a0 : Int64) (w0 : Int64) (w2 : Int32) (J : Int32) (hx : p.tables.exec = Jvm.exec) (hb : c.code = cJ13_stringSize_95d88) (hml : c.maxLocals = 6) (hr : meth.sig.returnType = (some .int)) (hlocks : meth.locks = false) (hown : s.vm.findClass RJ13 = some m.cls) (hts : ∀ w ∈ wsJ13_stringSize_95d88, w.before args s = true) (hE : kE D cB cJ kF s s.heap)  (k9 : Int64 → Int32 → Int32) (t9 : Int64 → Int32 → Prop) (kk : ∀ (v3 : Int64) (v5 : Int32) (locs : List Loc) (ls : Array Slot), J = k9 v3 v5 → t9 v3 v5 → va_S kF s.heap s.heap locs → lv_has ls 6 [(0, .long w0), (2, .int w2), (3, .long v3), (5, .int v5)] → W p l e rm_J13_stringSize_95d88 s m args below meth c s.heap locs 0 0 (MQ below (kQ (kP (some (.int J)) s.heap) kF) args s 0 0 kF) (F0 m 50 ls [])) : ∀ (u9 : Nat) (v3 : Int64) (v5 : Int32) (locs : List Loc) (ls : Array Slot), J = jl_J13_stringSize_95d88_20 a0 w0 w2 k9 u9 v3 v5 → jt_J13_stringSize_95d88_20 a0 w0 w2 t9 u9 v3 v5 → va_S kF s.heap s.heap locs → lv_has ls 6 [(0, .long w0), (2, .int w2), (3, .long v3), (5, .int v5)] → W p l e rm_J13_stringSize_95d88 s m args below meth c s.heap locs 0 0 (MQ below (kQ (kP (some (.int J)) s.heap) kF) args s 0 0 kF) (F0 m 20 ls []) := by
  have hK := hE.1
  intro u9
  induction u9 with
  | zero =>
    intro v3 v5 locs ls hJ hT
    exact hT.elim
  | succ u9 ih =>
    intro v3 v5 locs ls hJ hT hS hl
    rw [jl_J13_stringSize_95d88_20] at hJ
    rw [jt_J13_stringSize_95d88_20] at hT
    refine lv_iload hx hb dJ13_stringSize_95d88_20 (lv_at hl 3 rfl) ?_
    refine lv_bipush (v := 19) hx hb dJ13_stringSize_95d88_22 (by decide) ?_
    refine lv_icmp_ge (tgt := 50) hx hb dJ13_stringSize_95d88_24 (by decide) (fun c_1002 => ?_) (fun c_1002 => ?_)
    · exact kk v3 v5 _ _ (hJ.trans (by rw [if_pos c_1002])) (hT.1 c_1002) hS (lv_sub hl [0, 1, 2, 3] rfl)
    · refine lv_lload_n hx hb dJ13_stringSize_95d88_27 rfl (lv_at hl 0 rfl) ?_
      refine lv_lload_n hx hb dJ13_stringSize_95d88_28 rfl (lv_at hl 2 rfl) ?_
      refine kl_le (tgt := 38) hx hb dJ13_stringSize_95d88_29 dJ13_stringSize_95d88_30 (by decide) (fun c_1003 => ?_) (fun c_1003 => ?_)
      · refine lv_ldc2 (v := 10) hx hb hown (hts (.constantLong RJ13 53 (10)) (by decide +kernel)) dJ13_stringSize_95d88_38 ?_
        refine lv_lload_n hx hb dJ13_stringSize_95d88_41 rfl (lv_at hl 2 rfl) ?_
        refine lv_lmul hx hb dJ13_stringSize_95d88_42 ?_
        refine lv_lstore_n (lv' := [(3, .long (10 * v3)), (0, .long w0), (2, .int w2), (5, .int v5)]) hx hb dJ13_stringSize_95d88_43 rfl hl (by decide) rfl (fun ls hl => ?_)
        refine lv_iinc (v := (v5 + 1)) (lv' := [(5, .int (v5 + 1)), (3, .long (10 * v3)), (0, .long w0), (2, .int w2)]) hx hb dJ13_stringSize_95d88_44 hl (k := 3) rfl rfl (by decide) rfl (fun ls hl => ?_)
        refine lv_goto (tgt := 20) hx hb dJ13_stringSize_95d88_47 (by decide) ?_
        exact ih (10 * v3) (v5 + 1) _ _ (hJ.trans (by rw [if_neg c_1002, if_pos c_1003])) ((hT.2 c_1002).1 c_1003) hS (lv_sub hl [2, 3, 1, 0] rfl)
      · refine lv_iload hx hb dJ13_stringSize_95d88_33 (lv_at hl 3 rfl) ?_
        refine lv_iload_n hx hb dJ13_stringSize_95d88_35 rfl (lv_at hl 1 rfl) ?_
        refine lv_iadd hx hb dJ13_stringSize_95d88_36 ?_
        exact k_iret hx hb hr hlocks hS dJ13_stringSize_95d88_37 ⟨by rw [hJ, if_neg c_1002, if_neg c_1003], rfl⟩
def j_J13_stringSize_95d88 (a0 : Int64) : Int32 := (if a0 < 0 then (jl_J13_stringSize_95d88_20 a0 a0 1 (fun (v_2 : Int64) (v_3 : Int32) => (19 + 1)) 100 (-10) 1) else (jl_J13_stringSize_95d88_20 a0 (-a0) 0 (fun (v_4 : Int64) (v_5 : Int32) => (19 + 0)) 100 (-10) 1))
def T_J13_stringSize_95d88 (a0 : Int64) : Prop := ((a0 < 0 → (jt_J13_stringSize_95d88_20 a0 a0 1 (fun (v_2 : Int64) (v_3 : Int32) => True) 100 (-10) 1)) ∧ (¬ (a0 < 0) → (jt_J13_stringSize_95d88_20 a0 (-a0) 0 (fun (v_4 : Int64) (v_5 : Int32) => True) 100 (-10) 1)))
set_option maxHeartbeats 4000000 in
set_option maxRecDepth 100000 in
theorem c_J13_stringSize_95d88 (l : Launch) (D : va_G) (cB cJ : ClassId) (Hp : Heap)  (a0 : Int64) (hT9 : T_J13_stringSize_95d88 a0) : kM l D cB cJ yJ13_stringSize_95d88 wsJ13_stringSize_95d88 rm_J13_stringSize_95d88 kF Hp [.long a0] (kP (some (.int (j_J13_stringSize_95d88 a0))) Hp) 0 0 := by
  refine Met.ofW (cc := cJ13_stringSize_95d88) (maxL := 6) (ret := (some .int)) (by decide) rfl ?_
  intro p e s m args below meth c s₁ B hml hv
  obtain ⟨rfl, hHp, hE⟩ := hv
  subst hHp
  have hx := B.exec
  have hb := B.bytes
  have hr := B.returns
  have hts := atoms_spec (ws := wsJ13_stringSize_95d88) B.pre
  have hown : s.vm.findClass RJ13 = some m.cls := findClass_of_methodNamed B.named
  have hlocks := B.notSynchronized
  have hK := hE.1
  have hS : va_S kF s.heap s.heap [] := va_S.rf
  have hl := lv_entry ([.long a0]) (n := 6) (Nat.le_of_ble_eq_true rfl)
  rw [lg_entry_eq]
  generalize (lg_sl ([.long a0]) ++ List.replicate (6 - (lg_sl ([.long a0])).length) Slot.unset).toArray = ls at hl ⊢
  have hl : lv_has ls 6 [(0, .long a0)] := hl
  have hJ : (j_J13_stringSize_95d88 a0) = (if a0 < 0 then (jl_J13_stringSize_95d88_20 a0 a0 1 (fun (v_2 : Int64) (v_3 : Int32) => (19 + 1)) 100 (-10) 1) else (jl_J13_stringSize_95d88_20 a0 (-a0) 0 (fun (v_4 : Int64) (v_5 : Int32) => (19 + 0)) 100 (-10) 1)) := rfl
  have hT : ((a0 < 0 → (jt_J13_stringSize_95d88_20 a0 a0 1 (fun (v_2 : Int64) (v_3 : Int32) => True) 100 (-10) 1)) ∧ (¬ (a0 < 0) → (jt_J13_stringSize_95d88_20 a0 (-a0) 0 (fun (v_4 : Int64) (v_5 : Int32) => True) 100 (-10) 1))) := hT9
  refine lv_iconst (v := 1) hx hb dJ13_stringSize_95d88_0 (by decide) ?_
  refine lv_istore_n (lv' := [(2, .int 1), (0, .long a0)]) hx hb dJ13_stringSize_95d88_1 rfl hl (by decide) rfl (fun ls hl => ?_)
  refine lv_lload_n hx hb dJ13_stringSize_95d88_2 rfl (lv_at hl 1 rfl) ?_
  refine lv_lconst (v := 0) hx hb dJ13_stringSize_95d88_3 (by decide) ?_
  refine kl_lt (tgt := 13) hx hb dJ13_stringSize_95d88_4 dJ13_stringSize_95d88_5 (by decide) (fun c_1 => ?_) (fun c_1 => ?_)
  · refine lv_ldc2 (v := (-10)) hx hb hown (hts (.constantLong RJ13 140 (-10)) (by decide +kernel)) dJ13_stringSize_95d88_13 ?_
    refine lv_lstore_n (lv' := [(3, .long (-10)), (2, .int 1), (0, .long a0)]) hx hb dJ13_stringSize_95d88_16 rfl hl (by decide) rfl (fun ls hl => ?_)
    refine lv_iconst (v := 1) hx hb dJ13_stringSize_95d88_17 (by decide) ?_
    refine lv_istore (lv' := [(5, .int 1), (3, .long (-10)), (2, .int 1), (0, .long a0)]) hx hb dJ13_stringSize_95d88_18 hl (by decide) rfl (fun ls hl => ?_)
    refine lp_J13_stringSize_95d88_20 a0 a0 1 (j_J13_stringSize_95d88 a0) hx hb hml hr hlocks hown hts hE  (fun (v_2 : Int64) (v_3 : Int32) => (19 + 1)) (fun (v_2 : Int64) (v_3 : Int32) => True) (fun v_2 v_3 locs ls hJ hT hS hl => ?_) 100 (-10) 1 _ _ (hJ.trans (by rw [if_pos c_1])) (hT.1 c_1) hS (lv_sub hl [3, 2, 1, 0] rfl)
    (try dsimp only at hJ); (try dsimp only at hT)
    refine lv_bipush (v := 19) hx hb dJ13_stringSize_95d88_50 (by decide) ?_
    refine lv_iload_n hx hb dJ13_stringSize_95d88_52 rfl (lv_at hl 1 rfl) ?_
    refine lv_iadd hx hb dJ13_stringSize_95d88_53 ?_
    exact k_iret hx hb hr hlocks hS dJ13_stringSize_95d88_54 ⟨by rw [hJ], rfl⟩
  · refine lv_iconst (v := 0) hx hb dJ13_stringSize_95d88_8 (by decide) ?_
    refine lv_istore_n (lv' := [(2, .int 0), (0, .long a0)]) hx hb dJ13_stringSize_95d88_9 rfl hl (by decide) rfl (fun ls hl => ?_)
    refine lv_lload_n hx hb dJ13_stringSize_95d88_10 rfl (lv_at hl 1 rfl) ?_
    refine lv_lneg hx hb dJ13_stringSize_95d88_11 ?_
    refine lv_lstore_n (lv' := [(0, .long (-a0)), (2, .int 0)]) hx hb dJ13_stringSize_95d88_12 rfl hl (by decide) rfl (fun ls hl => ?_)
    refine lv_ldc2 (v := (-10)) hx hb hown (hts (.constantLong RJ13 140 (-10)) (by decide +kernel)) dJ13_stringSize_95d88_13 ?_
    refine lv_lstore_n (lv' := [(3, .long (-10)), (0, .long (-a0)), (2, .int 0)]) hx hb dJ13_stringSize_95d88_16 rfl hl (by decide) rfl (fun ls hl => ?_)
    refine lv_iconst (v := 1) hx hb dJ13_stringSize_95d88_17 (by decide) ?_
    refine lv_istore (lv' := [(5, .int 1), (3, .long (-10)), (0, .long (-a0)), (2, .int 0)]) hx hb dJ13_stringSize_95d88_18 hl (by decide) rfl (fun ls hl => ?_)
    refine lp_J13_stringSize_95d88_20 a0 (-a0) 0 (j_J13_stringSize_95d88 a0) hx hb hml hr hlocks hown hts hE  (fun (v_4 : Int64) (v_5 : Int32) => (19 + 0)) (fun (v_4 : Int64) (v_5 : Int32) => True) (fun v_4 v_5 locs ls hJ hT hS hl => ?_) 100 (-10) 1 _ _ (hJ.trans (by rw [if_neg c_1])) (hT.2 c_1) hS (lv_sub hl [2, 3, 1, 0] rfl)
    (try dsimp only at hJ); (try dsimp only at hT)
    refine lv_bipush (v := 19) hx hb dJ13_stringSize_95d88_50 (by decide) ?_
    refine lv_iload_n hx hb dJ13_stringSize_95d88_52 rfl (lv_at hl 1 rfl) ?_
    refine lv_iadd hx hb dJ13_stringSize_95d88_53 ?_
    exact k_iret hx hb hr hlocks hS dJ13_stringSize_95d88_54 ⟨by rw [hJ], rfl⟩
abbrev rm_J6_getChars_ba4f3 : Room := { frames := 0, cells := 0, slots := 0, locals := 0 }
def jt_J6_getChars_ba4f3_22 (cp : Nat) (a0 a1 : Int32) (w6 : Int32) (t9 : Int32 → Int32 → Prop) : Nat → Int32 → Int32 → Prop
  | 0, _, _ => False
  | u9 + 1, v0, v5 => (((-100) < v0 → (t9 v0 v5)) ∧ (¬ ((-100) < v0) → (vp_in (((v0 / 100) * 100) - v0) 100 ∧ (vp_in (v5 + (-1)) cp ∧ (vp_in ((v5 + (-1)) + (-1)) cp ∧ (jt_J6_getChars_ba4f3_22 cp a0 a1 w6 t9 u9 (v0 / 100) ((v5 + (-1)) + (-1))))))))
set_option maxHeartbeats 4000000 in
set_option maxRecDepth 100000 in
theorem lp_J6_getChars_ba4f3_22 {p : Program} {l : Launch} {e : Env} {s : State} {m : MethodId} {args : Array Value} {below : List Frame} {meth : Method} {c : Code} {D : va_G} {cB cJ : ClassId} {A : Nat → Prop} (v cp : Nat) (a0 a1 : Int32) (w6 : Int32) (hx : p.tables.exec = Jvm.exec) (hb : c.code = cJ6_getChars_ba4f3) (hml : c.maxLocals = 7) (hr : meth.sig.returnType = (some .int)) (hlocks : meth.locks = false) (hown : s.vm.findClass RJ6 = some m.cls) (hts : ∀ w ∈ wsJ6_getChars_ba4f3, w.before args s = true) (hE : kE D cB cJ A s s.heap)  (t9 : Int32 → Int32 → Prop) (kk : ∀ (v0 : Int32) (v5 : Int32) (H : Heap) (locs : List Loc) (fa : Nat → Int32) (ls : Array Slot), t9 v0 v5 → sb_Fit fa → va_P D vwCl [(v, .inl (cB, cp, .inl fa))] H → va_D A [(v, .inl (cB, cp, .inl fa))] → va_S A s.heap H locs → lv_has ls 7 [(0, .int v0), (1, .int a1), (2, .ref v), (5, .int v5), (6, .int w6)] → W p l e rm_J6_getChars_ba4f3 s m args below meth c H locs 0 0 (MQ below (kQ (kFit D cB A v cp) A) args s 0 0 A) (F0 m 72 ls [])) : ∀ (u9 : Nat) (v0 : Int32) (v5 : Int32) (H : Heap) (locs : List Loc) (fa : Nat → Int32) (ls : Array Slot), jt_J6_getChars_ba4f3_22 cp a0 a1 w6 t9 u9 v0 v5 → sb_Fit fa → va_P D vwCl [(v, .inl (cB, cp, .inl fa))] H → va_D A [(v, .inl (cB, cp, .inl fa))] → va_S A s.heap H locs → lv_has ls 7 [(0, .int v0), (1, .int a1), (2, .ref v), (5, .int v5), (6, .int w6)] → W p l e rm_J6_getChars_ba4f3 s m args below meth c H locs 0 0 (MQ below (kQ (kFit D cB A v cp) A) args s 0 0 A) (F0 m 22 ls []) := by
  have hK := hE.1
  obtain ⟨t7, hZ7, hT7⟩ := hE.2.1.2.2.2.2.2.2.1
  obtain ⟨t8, hZ8, hT8⟩ := hE.2.1.2.2.2.2.2.2.2.1
  intro u9
  induction u9 with
  | zero =>
    intro v0 v5 H locs fa ls hT
    exact hT.elim
  | succ u9 ih =>
    intro v0 v5 H locs fa ls hT hfa hP hD hS hl
    rw [jt_J6_getChars_ba4f3_22] at hT
    refine lv_iload_n hx hb dJ6_getChars_ba4f3_22 rfl (lv_at hl 0 rfl) ?_
    refine lv_bipush (v := (-100)) hx hb dJ6_getChars_ba4f3_23 (by decide) ?_
    refine lv_icmp_gt (tgt := 72) hx hb dJ6_getChars_ba4f3_25 (by decide) (fun c_1003 => ?_) (fun c_1003 => ?_)
    · exact kk v0 v5 _ _ _ _ (hT.1 c_1003) hfa hP hD hS (lv_sub hl [0, 1, 2, 3, 4] rfl)
    · refine lv_iload_n hx hb dJ6_getChars_ba4f3_28 rfl (lv_at hl 0 rfl) ?_
      refine lv_bipush (v := 100) hx hb dJ6_getChars_ba4f3_29 (by decide) ?_
      refine lv_idiv hx hb dJ6_getChars_ba4f3_31 (by decide) ?_
      refine lv_istore_n (lv' := [(3, .int (v0 / 100)), (0, .int v0), (1, .int a1), (2, .ref v), (5, .int v5), (6, .int w6)]) hx hb dJ6_getChars_ba4f3_32 rfl hl (by decide) rfl (fun ls hl => ?_)
      refine lv_iload_n hx hb dJ6_getChars_ba4f3_33 rfl (lv_at hl 0 rfl) ?_
      refine lv_bipush (v := 100) hx hb dJ6_getChars_ba4f3_34 (by decide) ?_
      refine lv_imul hx hb dJ6_getChars_ba4f3_36 ?_
      refine lv_iload_n hx hb dJ6_getChars_ba4f3_37 rfl (lv_at hl 1 rfl) ?_
      refine lv_isub hx hb dJ6_getChars_ba4f3_38 ?_
      refine lv_istore (lv' := [(4, .int (((v0 / 100) * 100) - v0)), (3, .int (v0 / 100)), (0, .int v0), (1, .int a1), (2, .ref v), (5, .int v5), (6, .int w6)]) hx hb dJ6_getChars_ba4f3_39 hl (by decide) rfl (fun ls hl => ?_)
      refine lv_iload_n hx hb dJ6_getChars_ba4f3_41 rfl (lv_at hl 1 rfl) ?_
      refine lv_istore_n (lv' := [(0, .int (v0 / 100)), (4, .int (((v0 / 100) * 100) - v0)), (3, .int (v0 / 100)), (1, .int a1), (2, .ref v), (5, .int v5), (6, .int w6)]) hx hb dJ6_getChars_ba4f3_42 rfl hl (by decide) rfl (fun ls hl => ?_)
      refine lv_aload_n hx hb dJ6_getChars_ba4f3_43 rfl (lv_at hl 4 rfl) ?_
      refine lv_iinc (v := (v5 + (-1))) (lv' := [(5, .int (v5 + (-1))), (0, .int (v0 / 100)), (4, .int (((v0 / 100) * 100) - v0)), (3, .int (v0 / 100)), (1, .int a1), (2, .ref v), (6, .int w6)]) hx hb dJ6_getChars_ba4f3_44 hl (k := 5) rfl rfl (by decide) rfl (fun ls hl => ?_)
      refine lv_iload hx hb dJ6_getChars_ba4f3_47 (lv_at hl 0 rfl) ?_
      refine va_gets hx hb hZ7 hS hown (hts (.fieldLink RJ6 83 "java/lang/Integer" "DigitOnes" "[B") (by decide +kernel)) (fun _ h9 => h9) dJ6_getChars_ba4f3_49 ?_
      refine lv_iload hx hb dJ6_getChars_ba4f3_52 (lv_at hl 2 rfl) ?_
      refine va_tb hx hb hT7 hS (v := .int (t_D1 (((v0 / 100) * 100) - v0).toNatClampNeg)) (hT.2 c_1003).1 rfl dJ6_getChars_ba4f3_54 ?_
      refine va_bast hx hb hK hP hD hS 0 0 rfl rfl (hT.2 c_1003).2.1 dJ6_getChars_ba4f3_55 (fun H locs hP hD hS => ?_)
      have hP : va_P D vwCl [(v, .inl (cB, cp, .inl (upd fa (v5 + (-1)).toNatClampNeg (vp_nar .byte (t_D1 (((v0 / 100) * 100) - v0).toNatClampNeg)))))] H := hP
      have hD : va_D A [(v, .inl (cB, cp, .inl (upd fa (v5 + (-1)).toNatClampNeg (vp_nar .byte (t_D1 (((v0 / 100) * 100) - v0).toNatClampNeg)))))] := hD
      refine lv_aload_n hx hb dJ6_getChars_ba4f3_56 rfl (lv_at hl 5 rfl) ?_
      refine lv_iinc (v := ((v5 + (-1)) + (-1))) (lv' := [(5, .int ((v5 + (-1)) + (-1))), (0, .int (v0 / 100)), (4, .int (((v0 / 100) * 100) - v0)), (3, .int (v0 / 100)), (1, .int a1), (2, .ref v), (6, .int w6)]) hx hb dJ6_getChars_ba4f3_57 hl (k := 0) rfl rfl (by decide) rfl (fun ls hl => ?_)
      refine lv_iload hx hb dJ6_getChars_ba4f3_60 (lv_at hl 0 rfl) ?_
      refine va_gets hx hb hZ8 hS hown (hts (.fieldLink RJ6 87 "java/lang/Integer" "DigitTens" "[B") (by decide +kernel)) (fun _ h9 => h9) dJ6_getChars_ba4f3_62 ?_
      refine lv_iload hx hb dJ6_getChars_ba4f3_65 (lv_at hl 2 rfl) ?_
      refine va_tb hx hb hT8 hS (v := .int (t_D2 (((v0 / 100) * 100) - v0).toNatClampNeg)) (hT.2 c_1003).1 rfl dJ6_getChars_ba4f3_67 ?_
      refine va_bast hx hb hK hP hD hS 0 0 rfl rfl (hT.2 c_1003).2.2.1 dJ6_getChars_ba4f3_68 (fun H locs hP hD hS => ?_)
      have hP : va_P D vwCl [(v, .inl (cB, cp, .inl (upd (upd fa (v5 + (-1)).toNatClampNeg (vp_nar .byte (t_D1 (((v0 / 100) * 100) - v0).toNatClampNeg))) ((v5 + (-1)) + (-1)).toNatClampNeg (vp_nar .byte (t_D2 (((v0 / 100) * 100) - v0).toNatClampNeg)))))] H := hP
      have hD : va_D A [(v, .inl (cB, cp, .inl (upd (upd fa (v5 + (-1)).toNatClampNeg (vp_nar .byte (t_D1 (((v0 / 100) * 100) - v0).toNatClampNeg))) ((v5 + (-1)) + (-1)).toNatClampNeg (vp_nar .byte (t_D2 (((v0 / 100) * 100) - v0).toNatClampNeg)))))] := hD
      refine lv_goto (tgt := 22) hx hb dJ6_getChars_ba4f3_69 (by decide) ?_
      exact ih (v0 / 100) ((v5 + (-1)) + (-1)) _ _ _ _ (hT.2 c_1003).2.2.2 (sb_fitU (sb_fitU hfa (k_fitN _)) (k_fitN _)) hP hD hS (lv_sub hl [1, 4, 5, 0, 6] rfl)
def T_J6_getChars_ba4f3 (cp : Nat) (a0 a1 : Int32) : Prop := ((0 ≤ a0 → (jt_J6_getChars_ba4f3_22 cp a0 a1 0 (fun (v_3 : Int32) (v_4 : Int32) => (vp_in (-v_3) 100 ∧ (vp_in (v_4 + (-1)) cp ∧ (((-9) ≤ v_3 → True) ∧ (¬ ((-9) ≤ v_3) → (vp_in ((v_4 + (-1)) + (-1)) cp ∧ True)))))) 100 (-a0) a1)) ∧ (¬ (0 ≤ a0) → (jt_J6_getChars_ba4f3_22 cp a0 a1 1 (fun (v_10 : Int32) (v_11 : Int32) => (vp_in (-v_10) 100 ∧ (vp_in (v_11 + (-1)) cp ∧ (((-9) ≤ v_10 → (vp_in ((v_11 + (-1)) + (-1)) cp ∧ True)) ∧ (¬ ((-9) ≤ v_10) → (vp_in ((v_11 + (-1)) + (-1)) cp ∧ (vp_in (((v_11 + (-1)) + (-1)) + (-1)) cp ∧ True))))))) 100 a0 a1)))
set_option maxHeartbeats 4000000 in
set_option maxRecDepth 100000 in
theorem c_J6_getChars_ba4f3 (l : Launch) (D : va_G) (cB cJ : ClassId) (Hp : Heap) (v cp : Nat) (ar : Nat → Int32) (hP : va_P D vwCl [(v, .inl (cB, cp, .inl ar))] Hp) (hD9 : va_D (fun _ => True) [(v, .inl (cB, cp, .inl ar))]) (hf : sb_Fit ar) (a0 a1 : Int32) (hT9 : T_J6_getChars_ba4f3 cp a0 a1) : kM l D cB cJ yJ6_getChars_ba4f3 wsJ6_getChars_ba4f3 rm_J6_getChars_ba4f3 (va_A [(v, .inl (cB, cp, .inl ar))] Hp.size) Hp [.int a0, .int a1, .ref v] (kFit D cB (va_A [(v, .inl (cB, cp, .inl ar))] Hp.size) v cp) 0 0 := by
  refine Met.ofW (cc := cJ6_getChars_ba4f3) (maxL := 7) (ret := (some .int)) (by decide) rfl ?_
  intro p e s m args below meth c s₁ B hml hv
  obtain ⟨rfl, hHp, hE⟩ := hv
  subst hHp
  have hx := B.exec
  have hb := B.bytes
  have hr := B.returns
  have hts := atoms_spec (ws := wsJ6_getChars_ba4f3) B.pre
  have hown : s.vm.findClass RJ6 = some m.cls := findClass_of_methodNamed B.named
  have hlocks := B.notSynchronized
  have hK := hE.1
  have hD := hD9.self (sz := s.heap.size)
  generalize hAe : va_A [(v, .inl (cB, cp, .inl ar))] s.heap.size = A at hE hD ⊢
  have hA : ∀ q : Nat, s.heap.size ≤ q → A q := fun q h => by rw [← hAe]; exact Or.inr h
  have hS : va_S A s.heap s.heap [] := va_S.rf
  have hl := lv_entry ([.int a0, .int a1, .ref v]) (n := 7) (Nat.le_of_ble_eq_true rfl)
  rw [lg_entry_eq]
  generalize (lg_sl ([.int a0, .int a1, .ref v]) ++ List.replicate (7 - (lg_sl ([.int a0, .int a1, .ref v])).length) Slot.unset).toArray = ls at hl ⊢
  have hl : lv_has ls 7 [(0, .int a0), (1, .int a1), (2, .ref v)] := hl
  obtain ⟨t7, hZ7, hT7⟩ := hE.2.1.2.2.2.2.2.2.1
  obtain ⟨t8, hZ8, hT8⟩ := hE.2.1.2.2.2.2.2.2.2.1
  have hT : ((0 ≤ a0 → (jt_J6_getChars_ba4f3_22 cp a0 a1 0 (fun (v_3 : Int32) (v_4 : Int32) => (vp_in (-v_3) 100 ∧ (vp_in (v_4 + (-1)) cp ∧ (((-9) ≤ v_3 → True) ∧ (¬ ((-9) ≤ v_3) → (vp_in ((v_4 + (-1)) + (-1)) cp ∧ True)))))) 100 (-a0) a1)) ∧ (¬ (0 ≤ a0) → (jt_J6_getChars_ba4f3_22 cp a0 a1 1 (fun (v_10 : Int32) (v_11 : Int32) => (vp_in (-v_10) 100 ∧ (vp_in (v_11 + (-1)) cp ∧ (((-9) ≤ v_10 → (vp_in ((v_11 + (-1)) + (-1)) cp ∧ True)) ∧ (¬ ((-9) ≤ v_10) → (vp_in ((v_11 + (-1)) + (-1)) cp ∧ (vp_in (((v_11 + (-1)) + (-1)) + (-1)) cp ∧ True))))))) 100 a0 a1))) := hT9
  refine lv_iload_n hx hb dJ6_getChars_ba4f3_0 rfl (lv_at hl 1 rfl) ?_
  refine lv_istore (lv' := [(5, .int a1), (0, .int a0), (1, .int a1), (2, .ref v)]) hx hb dJ6_getChars_ba4f3_1 hl (by decide) rfl (fun ls hl => ?_)
  refine lv_iload_n hx hb dJ6_getChars_ba4f3_3 rfl (lv_at hl 1 rfl) ?_
  refine lv_if_ge (tgt := 11) hx hb dJ6_getChars_ba4f3_4 (by decide) (fun c_1 => ?_) (fun c_1 => ?_)
  · refine lv_iconst (v := 0) hx hb dJ6_getChars_ba4f3_11 (by decide) ?_
    refine lv_istore (lv' := [(6, .int 0), (5, .int a1), (0, .int a0), (1, .int a1), (2, .ref v)]) hx hb dJ6_getChars_ba4f3_12 hl (by decide) rfl (fun ls hl => ?_)
    refine lv_iload hx hb dJ6_getChars_ba4f3_14 (lv_at hl 0 rfl) ?_
    refine lv_if_ne (tgt := 22) hx hb dJ6_getChars_ba4f3_16 (by decide) (fun c_2 => ?_) (fun c_2 => ?_)
    · exact absurd (by decide) c_2
    · refine lv_iload_n hx hb dJ6_getChars_ba4f3_19 rfl (lv_at hl 2 rfl) ?_
      refine lv_ineg hx hb dJ6_getChars_ba4f3_20 ?_
      refine lv_istore_n (lv' := [(0, .int (-a0)), (6, .int 0), (5, .int a1), (1, .int a1), (2, .ref v)]) hx hb dJ6_getChars_ba4f3_21 rfl hl (by decide) rfl (fun ls hl => ?_)
      refine lp_J6_getChars_ba4f3_22 v cp a0 a1 0  hx hb hml hr hlocks hown hts hE (fun (v_3 : Int32) (v_4 : Int32) => (vp_in (-v_3) 100 ∧ (vp_in (v_4 + (-1)) cp ∧ (((-9) ≤ v_3 → True) ∧ (¬ ((-9) ≤ v_3) → (vp_in ((v_4 + (-1)) + (-1)) cp ∧ True)))))) (fun v_3 v_4 H locs fa_5 ls hT hfa_5 hP hD hS hl => ?_) 100 (-a0) a1 _ _ _ _ (hT.1 c_1) hf hP hD hS (lv_sub hl [0, 3, 4, 2, 1] rfl)
      (try dsimp only at hT)
      refine lv_aload_n hx hb dJ6_getChars_ba4f3_72 rfl (lv_at hl 2 rfl) ?_
      refine lv_iinc (v := (v_4 + (-1))) (lv' := [(5, .int (v_4 + (-1))), (0, .int v_3), (1, .int a1), (2, .ref v), (6, .int 0)]) hx hb dJ6_getChars_ba4f3_73 hl (k := 3) rfl rfl (by decide) rfl (fun ls hl => ?_)
      refine lv_iload hx hb dJ6_getChars_ba4f3_76 (lv_at hl 0 rfl) ?_
      refine va_gets hx hb hZ7 hS hown (hts (.fieldLink RJ6 83 "java/lang/Integer" "DigitOnes" "[B") (by decide +kernel)) (fun _ h9 => h9) dJ6_getChars_ba4f3_78 ?_
      refine lv_iload_n hx hb dJ6_getChars_ba4f3_81 rfl (lv_at hl 1 rfl) ?_
      refine lv_ineg hx hb dJ6_getChars_ba4f3_82 ?_
      refine va_tb hx hb hT7 hS (v := .int (t_D1 (-v_3).toNatClampNeg)) hT.1 rfl dJ6_getChars_ba4f3_83 ?_
      refine va_bast hx hb hK hP hD hS 0 0 rfl rfl hT.2.1 dJ6_getChars_ba4f3_84 (fun H locs hP hD hS => ?_)
      have hP : va_P D vwCl [(v, .inl (cB, cp, .inl (upd fa_5 (v_4 + (-1)).toNatClampNeg (vp_nar .byte (t_D1 (-v_3).toNatClampNeg)))))] H := hP
      have hD : va_D A [(v, .inl (cB, cp, .inl (upd fa_5 (v_4 + (-1)).toNatClampNeg (vp_nar .byte (t_D1 (-v_3).toNatClampNeg)))))] := hD
      refine lv_iload_n hx hb dJ6_getChars_ba4f3_85 rfl (lv_at hl 1 rfl) ?_
      refine lv_bipush (v := (-9)) hx hb dJ6_getChars_ba4f3_86 (by decide) ?_
      refine lv_icmp_ge (tgt := 104) hx hb dJ6_getChars_ba4f3_88 (by decide) (fun c_6 => ?_) (fun c_6 => ?_)
      · refine lv_iload hx hb dJ6_getChars_ba4f3_104 (lv_at hl 4 rfl) ?_
        refine lv_if_eq (tgt := 118) hx hb dJ6_getChars_ba4f3_106 (by decide) (fun c_7 => ?_) (fun c_7 => ?_)
        · refine lv_iload hx hb dJ6_getChars_ba4f3_118 (lv_at hl 0 rfl) ?_
          exact k_iret hx hb hr hlocks hS dJ6_getChars_ba4f3_120 ⟨⟨_, rfl⟩, _, hP, hD, (sb_fitU hfa_5 (k_fitN _))⟩
        · exact absurd (by decide) c_7
      · refine lv_aload_n hx hb dJ6_getChars_ba4f3_91 rfl (lv_at hl 3 rfl) ?_
        refine lv_iinc (v := ((v_4 + (-1)) + (-1))) (lv' := [(5, .int ((v_4 + (-1)) + (-1))), (0, .int v_3), (1, .int a1), (2, .ref v), (6, .int 0)]) hx hb dJ6_getChars_ba4f3_92 hl (k := 0) rfl rfl (by decide) rfl (fun ls hl => ?_)
        refine lv_iload hx hb dJ6_getChars_ba4f3_95 (lv_at hl 0 rfl) ?_
        refine va_gets hx hb hZ8 hS hown (hts (.fieldLink RJ6 87 "java/lang/Integer" "DigitTens" "[B") (by decide +kernel)) (fun _ h9 => h9) dJ6_getChars_ba4f3_97 ?_
        refine lv_iload_n hx hb dJ6_getChars_ba4f3_100 rfl (lv_at hl 1 rfl) ?_
        refine lv_ineg hx hb dJ6_getChars_ba4f3_101 ?_
        refine va_tb hx hb hT8 hS (v := .int (t_D2 (-v_3).toNatClampNeg)) hT.1 rfl dJ6_getChars_ba4f3_102 ?_
        refine va_bast hx hb hK hP hD hS 0 0 rfl rfl (hT.2.2.2 c_6).1 dJ6_getChars_ba4f3_103 (fun H locs hP hD hS => ?_)
        have hP : va_P D vwCl [(v, .inl (cB, cp, .inl (upd (upd fa_5 (v_4 + (-1)).toNatClampNeg (vp_nar .byte (t_D1 (-v_3).toNatClampNeg))) ((v_4 + (-1)) + (-1)).toNatClampNeg (vp_nar .byte (t_D2 (-v_3).toNatClampNeg)))))] H := hP
        have hD : va_D A [(v, .inl (cB, cp, .inl (upd (upd fa_5 (v_4 + (-1)).toNatClampNeg (vp_nar .byte (t_D1 (-v_3).toNatClampNeg))) ((v_4 + (-1)) + (-1)).toNatClampNeg (vp_nar .byte (t_D2 (-v_3).toNatClampNeg)))))] := hD
        refine lv_iload hx hb dJ6_getChars_ba4f3_104 (lv_at hl 4 rfl) ?_
        refine lv_if_eq (tgt := 118) hx hb dJ6_getChars_ba4f3_106 (by decide) (fun c_8 => ?_) (fun c_8 => ?_)
        · refine lv_iload hx hb dJ6_getChars_ba4f3_118 (lv_at hl 0 rfl) ?_
          exact k_iret hx hb hr hlocks hS dJ6_getChars_ba4f3_120 ⟨⟨_, rfl⟩, _, hP, hD, (sb_fitU (sb_fitU hfa_5 (k_fitN _)) (k_fitN _))⟩
        · exact absurd (by decide) c_8
  · refine lv_iconst (v := 1) hx hb dJ6_getChars_ba4f3_7 (by decide) ?_
    refine lv_goto (tgt := 12) hx hb dJ6_getChars_ba4f3_8 (by decide) ?_
    refine lv_istore (lv' := [(6, .int 1), (5, .int a1), (0, .int a0), (1, .int a1), (2, .ref v)]) hx hb dJ6_getChars_ba4f3_12 hl (by decide) rfl (fun ls hl => ?_)
    refine lv_iload hx hb dJ6_getChars_ba4f3_14 (lv_at hl 0 rfl) ?_
    refine lv_if_ne (tgt := 22) hx hb dJ6_getChars_ba4f3_16 (by decide) (fun c_9 => ?_) (fun c_9 => ?_)
    · refine lp_J6_getChars_ba4f3_22 v cp a0 a1 1  hx hb hml hr hlocks hown hts hE (fun (v_10 : Int32) (v_11 : Int32) => (vp_in (-v_10) 100 ∧ (vp_in (v_11 + (-1)) cp ∧ (((-9) ≤ v_10 → (vp_in ((v_11 + (-1)) + (-1)) cp ∧ True)) ∧ (¬ ((-9) ≤ v_10) → (vp_in ((v_11 + (-1)) + (-1)) cp ∧ (vp_in (((v_11 + (-1)) + (-1)) + (-1)) cp ∧ True))))))) (fun v_10 v_11 H locs fa_12 ls hT hfa_12 hP hD hS hl => ?_) 100 a0 a1 _ _ _ _ (hT.2 c_1) hf hP hD hS (lv_sub hl [2, 3, 4, 1, 0] rfl)
      (try dsimp only at hT)
      refine lv_aload_n hx hb dJ6_getChars_ba4f3_72 rfl (lv_at hl 2 rfl) ?_
      refine lv_iinc (v := (v_11 + (-1))) (lv' := [(5, .int (v_11 + (-1))), (0, .int v_10), (1, .int a1), (2, .ref v), (6, .int 1)]) hx hb dJ6_getChars_ba4f3_73 hl (k := 3) rfl rfl (by decide) rfl (fun ls hl => ?_)
      refine lv_iload hx hb dJ6_getChars_ba4f3_76 (lv_at hl 0 rfl) ?_
      refine va_gets hx hb hZ7 hS hown (hts (.fieldLink RJ6 83 "java/lang/Integer" "DigitOnes" "[B") (by decide +kernel)) (fun _ h9 => h9) dJ6_getChars_ba4f3_78 ?_
      refine lv_iload_n hx hb dJ6_getChars_ba4f3_81 rfl (lv_at hl 1 rfl) ?_
      refine lv_ineg hx hb dJ6_getChars_ba4f3_82 ?_
      refine va_tb hx hb hT7 hS (v := .int (t_D1 (-v_10).toNatClampNeg)) hT.1 rfl dJ6_getChars_ba4f3_83 ?_
      refine va_bast hx hb hK hP hD hS 0 0 rfl rfl hT.2.1 dJ6_getChars_ba4f3_84 (fun H locs hP hD hS => ?_)
      have hP : va_P D vwCl [(v, .inl (cB, cp, .inl (upd fa_12 (v_11 + (-1)).toNatClampNeg (vp_nar .byte (t_D1 (-v_10).toNatClampNeg)))))] H := hP
      have hD : va_D A [(v, .inl (cB, cp, .inl (upd fa_12 (v_11 + (-1)).toNatClampNeg (vp_nar .byte (t_D1 (-v_10).toNatClampNeg)))))] := hD
      refine lv_iload_n hx hb dJ6_getChars_ba4f3_85 rfl (lv_at hl 1 rfl) ?_
      refine lv_bipush (v := (-9)) hx hb dJ6_getChars_ba4f3_86 (by decide) ?_
      refine lv_icmp_ge (tgt := 104) hx hb dJ6_getChars_ba4f3_88 (by decide) (fun c_13 => ?_) (fun c_13 => ?_)
      · refine lv_iload hx hb dJ6_getChars_ba4f3_104 (lv_at hl 4 rfl) ?_
        refine lv_if_eq (tgt := 118) hx hb dJ6_getChars_ba4f3_106 (by decide) (fun c_14 => ?_) (fun c_14 => ?_)
        · exact absurd c_14 (by decide)
        · refine lv_aload_n hx hb dJ6_getChars_ba4f3_109 rfl (lv_at hl 3 rfl) ?_
          refine lv_iinc (v := ((v_11 + (-1)) + (-1))) (lv' := [(5, .int ((v_11 + (-1)) + (-1))), (0, .int v_10), (1, .int a1), (2, .ref v), (6, .int 1)]) hx hb dJ6_getChars_ba4f3_110 hl (k := 0) rfl rfl (by decide) rfl (fun ls hl => ?_)
          refine lv_iload hx hb dJ6_getChars_ba4f3_113 (lv_at hl 0 rfl) ?_
          refine lv_bipush (v := 45) hx hb dJ6_getChars_ba4f3_115 (by decide) ?_
          refine va_bast hx hb hK hP hD hS 0 0 rfl rfl (hT.2.2.1 c_13).1 dJ6_getChars_ba4f3_117 (fun H locs hP hD hS => ?_)
          have hP : va_P D vwCl [(v, .inl (cB, cp, .inl (upd (upd fa_12 (v_11 + (-1)).toNatClampNeg (vp_nar .byte (t_D1 (-v_10).toNatClampNeg))) ((v_11 + (-1)) + (-1)).toNatClampNeg (vp_nar .byte 45))))] H := hP
          have hD : va_D A [(v, .inl (cB, cp, .inl (upd (upd fa_12 (v_11 + (-1)).toNatClampNeg (vp_nar .byte (t_D1 (-v_10).toNatClampNeg))) ((v_11 + (-1)) + (-1)).toNatClampNeg (vp_nar .byte 45))))] := hD
          refine lv_iload hx hb dJ6_getChars_ba4f3_118 (lv_at hl 0 rfl) ?_
          exact k_iret hx hb hr hlocks hS dJ6_getChars_ba4f3_120 ⟨⟨_, rfl⟩, _, hP, hD, (sb_fitU (sb_fitU hfa_12 (k_fitN _)) (k_fitN _))⟩
      · refine lv_aload_n hx hb dJ6_getChars_ba4f3_91 rfl (lv_at hl 3 rfl) ?_
        refine lv_iinc (v := ((v_11 + (-1)) + (-1))) (lv' := [(5, .int ((v_11 + (-1)) + (-1))), (0, .int v_10), (1, .int a1), (2, .ref v), (6, .int 1)]) hx hb dJ6_getChars_ba4f3_92 hl (k := 0) rfl rfl (by decide) rfl (fun ls hl => ?_)
        refine lv_iload hx hb dJ6_getChars_ba4f3_95 (lv_at hl 0 rfl) ?_
        refine va_gets hx hb hZ8 hS hown (hts (.fieldLink RJ6 87 "java/lang/Integer" "DigitTens" "[B") (by decide +kernel)) (fun _ h9 => h9) dJ6_getChars_ba4f3_97 ?_
        refine lv_iload_n hx hb dJ6_getChars_ba4f3_100 rfl (lv_at hl 1 rfl) ?_
        refine lv_ineg hx hb dJ6_getChars_ba4f3_101 ?_
        refine va_tb hx hb hT8 hS (v := .int (t_D2 (-v_10).toNatClampNeg)) hT.1 rfl dJ6_getChars_ba4f3_102 ?_
        refine va_bast hx hb hK hP hD hS 0 0 rfl rfl (hT.2.2.2 c_13).1 dJ6_getChars_ba4f3_103 (fun H locs hP hD hS => ?_)
        have hP : va_P D vwCl [(v, .inl (cB, cp, .inl (upd (upd fa_12 (v_11 + (-1)).toNatClampNeg (vp_nar .byte (t_D1 (-v_10).toNatClampNeg))) ((v_11 + (-1)) + (-1)).toNatClampNeg (vp_nar .byte (t_D2 (-v_10).toNatClampNeg)))))] H := hP
        have hD : va_D A [(v, .inl (cB, cp, .inl (upd (upd fa_12 (v_11 + (-1)).toNatClampNeg (vp_nar .byte (t_D1 (-v_10).toNatClampNeg))) ((v_11 + (-1)) + (-1)).toNatClampNeg (vp_nar .byte (t_D2 (-v_10).toNatClampNeg)))))] := hD
        refine lv_iload hx hb dJ6_getChars_ba4f3_104 (lv_at hl 4 rfl) ?_
        refine lv_if_eq (tgt := 118) hx hb dJ6_getChars_ba4f3_106 (by decide) (fun c_15 => ?_) (fun c_15 => ?_)
        · exact absurd c_15 (by decide)
        · refine lv_aload_n hx hb dJ6_getChars_ba4f3_109 rfl (lv_at hl 3 rfl) ?_
          refine lv_iinc (v := (((v_11 + (-1)) + (-1)) + (-1))) (lv' := [(5, .int (((v_11 + (-1)) + (-1)) + (-1))), (0, .int v_10), (1, .int a1), (2, .ref v), (6, .int 1)]) hx hb dJ6_getChars_ba4f3_110 hl (k := 0) rfl rfl (by decide) rfl (fun ls hl => ?_)
          refine lv_iload hx hb dJ6_getChars_ba4f3_113 (lv_at hl 0 rfl) ?_
          refine lv_bipush (v := 45) hx hb dJ6_getChars_ba4f3_115 (by decide) ?_
          refine va_bast hx hb hK hP hD hS 0 0 rfl rfl (hT.2.2.2 c_13).2.1 dJ6_getChars_ba4f3_117 (fun H locs hP hD hS => ?_)
          have hP : va_P D vwCl [(v, .inl (cB, cp, .inl (upd (upd (upd fa_12 (v_11 + (-1)).toNatClampNeg (vp_nar .byte (t_D1 (-v_10).toNatClampNeg))) ((v_11 + (-1)) + (-1)).toNatClampNeg (vp_nar .byte (t_D2 (-v_10).toNatClampNeg))) (((v_11 + (-1)) + (-1)) + (-1)).toNatClampNeg (vp_nar .byte 45))))] H := hP
          have hD : va_D A [(v, .inl (cB, cp, .inl (upd (upd (upd fa_12 (v_11 + (-1)).toNatClampNeg (vp_nar .byte (t_D1 (-v_10).toNatClampNeg))) ((v_11 + (-1)) + (-1)).toNatClampNeg (vp_nar .byte (t_D2 (-v_10).toNatClampNeg))) (((v_11 + (-1)) + (-1)) + (-1)).toNatClampNeg (vp_nar .byte 45))))] := hD
          refine lv_iload hx hb dJ6_getChars_ba4f3_118 (lv_at hl 0 rfl) ?_
          exact k_iret hx hb hr hlocks hS dJ6_getChars_ba4f3_120 ⟨⟨_, rfl⟩, _, hP, hD, (sb_fitU (sb_fitU (sb_fitU hfa_12 (k_fitN _)) (k_fitN _)) (k_fitN _))⟩
    · exact absurd c_9 (by decide)
abbrev rm_J13_getChars_11360 : Room := { frames := 0, cells := 0, slots := 0, locals := 0 }
def jt_J13_getChars_11360_24 (cp : Nat) (a0 : Int64) (a2 : Int32) (w8 : Int32) (t9 : Int64 → Int32 → Prop) : Nat → Int64 → Int32 → Prop
  | 0, _, _ => False
  | u9 + 1, v0, v7 => (((-2147483648) < v0 → (t9 v0 v7)) ∧ (¬ ((-2147483648) < v0) → (vp_in ((((v0 / 100) * 100) - v0).toInt32) 100 ∧ (vp_in (v7 + (-1)) cp ∧ (vp_in ((v7 + (-1)) + (-1)) cp ∧ (jt_J13_getChars_11360_24 cp a0 a2 w8 t9 u9 (v0 / 100) ((v7 + (-1)) + (-1))))))))
set_option maxHeartbeats 4000000 in
set_option maxRecDepth 100000 in
theorem lp_J13_getChars_11360_24 {p : Program} {l : Launch} {e : Env} {s : State} {m : MethodId} {args : Array Value} {below : List Frame} {meth : Method} {c : Code} {D : va_G} {cB cJ : ClassId} {A : Nat → Prop} (v cp : Nat) (a0 : Int64) (a2 : Int32) (w8 : Int32) (hx : p.tables.exec = Jvm.exec) (hb : c.code = cJ13_getChars_11360) (hml : c.maxLocals = 11) (hr : meth.sig.returnType = (some .int)) (hlocks : meth.locks = false) (hown : s.vm.findClass RJ13 = some m.cls) (hts : ∀ w ∈ wsJ13_getChars_11360, w.before args s = true) (hE : kE D cB cJ A s s.heap)  (t9 : Int64 → Int32 → Prop) (kk : ∀ (v0 : Int64) (v7 : Int32) (H : Heap) (locs : List Loc) (fa : Nat → Int32) (ls : Array Slot), t9 v0 v7 → sb_Fit fa → va_P D vwCl [(v, .inl (cB, cp, .inl fa))] H → va_D A [(v, .inl (cB, cp, .inl fa))] → va_S A s.heap H locs → lv_has ls 11 [(0, .long v0), (2, .int a2), (3, .ref v), (7, .int v7), (8, .int w8)] → W p l e rm_J13_getChars_11360 s m args below meth c H locs 0 0 (MQ below (kQ (kFit D cB A v cp) A) args s 0 0 A) (F0 m 82 ls [])) : ∀ (u9 : Nat) (v0 : Int64) (v7 : Int32) (H : Heap) (locs : List Loc) (fa : Nat → Int32) (ls : Array Slot), jt_J13_getChars_11360_24 cp a0 a2 w8 t9 u9 v0 v7 → sb_Fit fa → va_P D vwCl [(v, .inl (cB, cp, .inl fa))] H → va_D A [(v, .inl (cB, cp, .inl fa))] → va_S A s.heap H locs → lv_has ls 11 [(0, .long v0), (2, .int a2), (3, .ref v), (7, .int v7), (8, .int w8)] → W p l e rm_J13_getChars_11360 s m args below meth c H locs 0 0 (MQ below (kQ (kFit D cB A v cp) A) args s 0 0 A) (F0 m 24 ls []) := by
  have hK := hE.1
  obtain ⟨t7, hZ7, hT7⟩ := hE.2.1.2.2.2.2.2.2.1
  obtain ⟨t8, hZ8, hT8⟩ := hE.2.1.2.2.2.2.2.2.2.1
  intro u9
  induction u9 with
  | zero =>
    intro v0 v7 H locs fa ls hT
    exact hT.elim
  | succ u9 ih =>
    intro v0 v7 H locs fa ls hT hfa hP hD hS hl
    rw [jt_J13_getChars_11360_24] at hT
    refine lv_lload_n hx hb dJ13_getChars_11360_24 rfl (lv_at hl 0 rfl) ?_
    refine lv_ldc2 (v := (-2147483648)) hx hb hown (hts (.constantLong RJ13 129 (-2147483648)) (by decide +kernel)) dJ13_getChars_11360_25 ?_
    refine kl_gt (tgt := 82) hx hb dJ13_getChars_11360_28 dJ13_getChars_11360_29 (by decide) (fun c_1003 => ?_) (fun c_1003 => ?_)
    · exact kk v0 v7 _ _ _ _ (hT.1 c_1003) hfa hP hD hS (lv_sub hl [0, 1, 2, 3, 4] rfl)
    · refine lv_lload_n hx hb dJ13_getChars_11360_32 rfl (lv_at hl 0 rfl) ?_
      refine lv_ldc2 (v := 100) hx hb hown (hts (.constantLong RJ13 131 (100)) (by decide +kernel)) dJ13_getChars_11360_33 ?_
      refine lv_ldiv hx hb dJ13_getChars_11360_36 (by decide) ?_
      refine lv_lstore (lv' := [(4, .long (v0 / 100)), (0, .long v0), (2, .int a2), (3, .ref v), (7, .int v7), (8, .int w8)]) hx hb dJ13_getChars_11360_37 hl (by decide) rfl (fun ls hl => ?_)
      refine lv_lload hx hb dJ13_getChars_11360_39 (lv_at hl 0 rfl) ?_
      refine lv_ldc2 (v := 100) hx hb hown (hts (.constantLong RJ13 131 (100)) (by decide +kernel)) dJ13_getChars_11360_41 ?_
      refine lv_lmul hx hb dJ13_getChars_11360_44 ?_
      refine lv_lload_n hx hb dJ13_getChars_11360_45 rfl (lv_at hl 1 rfl) ?_
      refine lv_lsub hx hb dJ13_getChars_11360_46 ?_
      refine lv_l2i (v := (((v0 / 100) * 100) - v0).toInt32) hx hb dJ13_getChars_11360_47 rfl ?_
      refine lv_istore (lv' := [(6, .int ((((v0 / 100) * 100) - v0).toInt32)), (4, .long (v0 / 100)), (0, .long v0), (2, .int a2), (3, .ref v), (7, .int v7), (8, .int w8)]) hx hb dJ13_getChars_11360_48 hl (by decide) rfl (fun ls hl => ?_)
      refine lv_lload hx hb dJ13_getChars_11360_50 (lv_at hl 1 rfl) ?_
      refine lv_lstore_n (lv' := [(0, .long (v0 / 100)), (6, .int ((((v0 / 100) * 100) - v0).toInt32)), (4, .long (v0 / 100)), (2, .int a2), (3, .ref v), (7, .int v7), (8, .int w8)]) hx hb dJ13_getChars_11360_52 rfl hl (by decide) rfl (fun ls hl => ?_)
      refine lv_aload_n hx hb dJ13_getChars_11360_53 rfl (lv_at hl 4 rfl) ?_
      refine lv_iinc (v := (v7 + (-1))) (lv' := [(7, .int (v7 + (-1))), (0, .long (v0 / 100)), (6, .int ((((v0 / 100) * 100) - v0).toInt32)), (4, .long (v0 / 100)), (2, .int a2), (3, .ref v), (8, .int w8)]) hx hb dJ13_getChars_11360_54 hl (k := 5) rfl rfl (by decide) rfl (fun ls hl => ?_)
      refine lv_iload hx hb dJ13_getChars_11360_57 (lv_at hl 0 rfl) ?_
      refine va_gets hx hb hZ7 hS hown (hts (.fieldLink RJ13 133 "java/lang/Integer" "DigitOnes" "[B") (by decide +kernel)) (fun _ h9 => h9) dJ13_getChars_11360_59 ?_
      refine lv_iload hx hb dJ13_getChars_11360_62 (lv_at hl 2 rfl) ?_
      refine va_tb hx hb hT7 hS (v := .int (t_D1 ((((v0 / 100) * 100) - v0).toInt32).toNatClampNeg)) (hT.2 c_1003).1 rfl dJ13_getChars_11360_64 ?_
      refine va_bast hx hb hK hP hD hS 0 0 rfl rfl (hT.2 c_1003).2.1 dJ13_getChars_11360_65 (fun H locs hP hD hS => ?_)
      have hP : va_P D vwCl [(v, .inl (cB, cp, .inl (upd fa (v7 + (-1)).toNatClampNeg (vp_nar .byte (t_D1 ((((v0 / 100) * 100) - v0).toInt32).toNatClampNeg)))))] H := hP
      have hD : va_D A [(v, .inl (cB, cp, .inl (upd fa (v7 + (-1)).toNatClampNeg (vp_nar .byte (t_D1 ((((v0 / 100) * 100) - v0).toInt32).toNatClampNeg)))))] := hD
      refine lv_aload_n hx hb dJ13_getChars_11360_66 rfl (lv_at hl 5 rfl) ?_
      refine lv_iinc (v := ((v7 + (-1)) + (-1))) (lv' := [(7, .int ((v7 + (-1)) + (-1))), (0, .long (v0 / 100)), (6, .int ((((v0 / 100) * 100) - v0).toInt32)), (4, .long (v0 / 100)), (2, .int a2), (3, .ref v), (8, .int w8)]) hx hb dJ13_getChars_11360_67 hl (k := 0) rfl rfl (by decide) rfl (fun ls hl => ?_)
      refine lv_iload hx hb dJ13_getChars_11360_70 (lv_at hl 0 rfl) ?_
      refine va_gets hx hb hZ8 hS hown (hts (.fieldLink RJ13 137 "java/lang/Integer" "DigitTens" "[B") (by decide +kernel)) (fun _ h9 => h9) dJ13_getChars_11360_72 ?_
      refine lv_iload hx hb dJ13_getChars_11360_75 (lv_at hl 2 rfl) ?_
      refine va_tb hx hb hT8 hS (v := .int (t_D2 ((((v0 / 100) * 100) - v0).toInt32).toNatClampNeg)) (hT.2 c_1003).1 rfl dJ13_getChars_11360_77 ?_
      refine va_bast hx hb hK hP hD hS 0 0 rfl rfl (hT.2 c_1003).2.2.1 dJ13_getChars_11360_78 (fun H locs hP hD hS => ?_)
      have hP : va_P D vwCl [(v, .inl (cB, cp, .inl (upd (upd fa (v7 + (-1)).toNatClampNeg (vp_nar .byte (t_D1 ((((v0 / 100) * 100) - v0).toInt32).toNatClampNeg))) ((v7 + (-1)) + (-1)).toNatClampNeg (vp_nar .byte (t_D2 ((((v0 / 100) * 100) - v0).toInt32).toNatClampNeg)))))] H := hP
      have hD : va_D A [(v, .inl (cB, cp, .inl (upd (upd fa (v7 + (-1)).toNatClampNeg (vp_nar .byte (t_D1 ((((v0 / 100) * 100) - v0).toInt32).toNatClampNeg))) ((v7 + (-1)) + (-1)).toNatClampNeg (vp_nar .byte (t_D2 ((((v0 / 100) * 100) - v0).toInt32).toNatClampNeg)))))] := hD
      refine lv_goto (tgt := 24) hx hb dJ13_getChars_11360_79 (by decide) ?_
      exact ih (v0 / 100) ((v7 + (-1)) + (-1)) _ _ _ _ (hT.2 c_1003).2.2.2 (sb_fitU (sb_fitU hfa (k_fitN _)) (k_fitN _)) hP hD hS (lv_sub hl [1, 4, 5, 0, 6] rfl)
def jt_J13_getChars_11360_86 (cp : Nat) (a0 : Int64) (a2 : Int32) (w0 : Int64) (w8 : Int32) (t9 : Int32 → Int32 → Prop) : Nat → Int32 → Int32 → Prop
  | 0, _, _ => False
  | u9 + 1, v7, v10 => (((-100) < v10 → (t9 v7 v10)) ∧ (¬ ((-100) < v10) → (vp_in (((v10 / 100) * 100) - v10) 100 ∧ (vp_in (v7 + (-1)) cp ∧ (vp_in ((v7 + (-1)) + (-1)) cp ∧ (jt_J13_getChars_11360_86 cp a0 a2 w0 w8 t9 u9 ((v7 + (-1)) + (-1)) (v10 / 100)))))))
set_option maxHeartbeats 4000000 in
set_option maxRecDepth 100000 in
theorem lp_J13_getChars_11360_86 {p : Program} {l : Launch} {e : Env} {s : State} {m : MethodId} {args : Array Value} {below : List Frame} {meth : Method} {c : Code} {D : va_G} {cB cJ : ClassId} {A : Nat → Prop} (v cp : Nat) (a0 : Int64) (a2 : Int32) (w0 : Int64) (w8 : Int32) (hx : p.tables.exec = Jvm.exec) (hb : c.code = cJ13_getChars_11360) (hml : c.maxLocals = 11) (hr : meth.sig.returnType = (some .int)) (hlocks : meth.locks = false) (hown : s.vm.findClass RJ13 = some m.cls) (hts : ∀ w ∈ wsJ13_getChars_11360, w.before args s = true) (hE : kE D cB cJ A s s.heap)  (t9 : Int32 → Int32 → Prop) (kk : ∀ (v7 : Int32) (v10 : Int32) (H : Heap) (locs : List Loc) (fa : Nat → Int32) (ls : Array Slot), t9 v7 v10 → sb_Fit fa → va_P D vwCl [(v, .inl (cB, cp, .inl fa))] H → va_D A [(v, .inl (cB, cp, .inl fa))] → va_S A s.heap H locs → lv_has ls 11 [(0, .long w0), (2, .int a2), (3, .ref v), (7, .int v7), (8, .int w8), (10, .int v10)] → W p l e rm_J13_getChars_11360 s m args below meth c H locs 0 0 (MQ below (kQ (kFit D cB A v cp) A) args s 0 0 A) (F0 m 143 ls [])) : ∀ (u9 : Nat) (v7 : Int32) (v10 : Int32) (H : Heap) (locs : List Loc) (fa : Nat → Int32) (ls : Array Slot), jt_J13_getChars_11360_86 cp a0 a2 w0 w8 t9 u9 v7 v10 → sb_Fit fa → va_P D vwCl [(v, .inl (cB, cp, .inl fa))] H → va_D A [(v, .inl (cB, cp, .inl fa))] → va_S A s.heap H locs → lv_has ls 11 [(0, .long w0), (2, .int a2), (3, .ref v), (7, .int v7), (8, .int w8), (10, .int v10)] → W p l e rm_J13_getChars_11360 s m args below meth c H locs 0 0 (MQ below (kQ (kFit D cB A v cp) A) args s 0 0 A) (F0 m 86 ls []) := by
  have hK := hE.1
  obtain ⟨t7, hZ7, hT7⟩ := hE.2.1.2.2.2.2.2.2.1
  obtain ⟨t8, hZ8, hT8⟩ := hE.2.1.2.2.2.2.2.2.2.1
  intro u9
  induction u9 with
  | zero =>
    intro v7 v10 H locs fa ls hT
    exact hT.elim
  | succ u9 ih =>
    intro v7 v10 H locs fa ls hT hfa hP hD hS hl
    rw [jt_J13_getChars_11360_86] at hT
    refine lv_iload hx hb dJ13_getChars_11360_86 (lv_at hl 5 rfl) ?_
    refine lv_bipush (v := (-100)) hx hb dJ13_getChars_11360_88 (by decide) ?_
    refine lv_icmp_gt (tgt := 143) hx hb dJ13_getChars_11360_90 (by decide) (fun c_1006 => ?_) (fun c_1006 => ?_)
    · exact kk v7 v10 _ _ _ _ (hT.1 c_1006) hfa hP hD hS (lv_sub hl [0, 1, 2, 3, 4, 5] rfl)
    · refine lv_iload hx hb dJ13_getChars_11360_93 (lv_at hl 5 rfl) ?_
      refine lv_bipush (v := 100) hx hb dJ13_getChars_11360_95 (by decide) ?_
      refine lv_idiv hx hb dJ13_getChars_11360_97 (by decide) ?_
      refine lv_istore (lv' := [(9, .int (v10 / 100)), (0, .long w0), (2, .int a2), (3, .ref v), (7, .int v7), (8, .int w8), (10, .int v10)]) hx hb dJ13_getChars_11360_98 hl (by decide) rfl (fun ls hl => ?_)
      refine lv_iload hx hb dJ13_getChars_11360_100 (lv_at hl 0 rfl) ?_
      refine lv_bipush (v := 100) hx hb dJ13_getChars_11360_102 (by decide) ?_
      refine lv_imul hx hb dJ13_getChars_11360_104 ?_
      refine lv_iload hx hb dJ13_getChars_11360_105 (lv_at hl 6 rfl) ?_
      refine lv_isub hx hb dJ13_getChars_11360_107 ?_
      refine lv_istore (lv' := [(6, .int (((v10 / 100) * 100) - v10)), (9, .int (v10 / 100)), (0, .long w0), (2, .int a2), (3, .ref v), (7, .int v7), (8, .int w8), (10, .int v10)]) hx hb dJ13_getChars_11360_108 hl (by decide) rfl (fun ls hl => ?_)
      refine lv_iload hx hb dJ13_getChars_11360_110 (lv_at hl 1 rfl) ?_
      refine lv_istore (lv' := [(10, .int (v10 / 100)), (6, .int (((v10 / 100) * 100) - v10)), (9, .int (v10 / 100)), (0, .long w0), (2, .int a2), (3, .ref v), (7, .int v7), (8, .int w8)]) hx hb dJ13_getChars_11360_112 hl (by decide) rfl (fun ls hl => ?_)
      refine lv_aload_n hx hb dJ13_getChars_11360_114 rfl (lv_at hl 5 rfl) ?_
      refine lv_iinc (v := (v7 + (-1))) (lv' := [(7, .int (v7 + (-1))), (10, .int (v10 / 100)), (6, .int (((v10 / 100) * 100) - v10)), (9, .int (v10 / 100)), (0, .long w0), (2, .int a2), (3, .ref v), (8, .int w8)]) hx hb dJ13_getChars_11360_115 hl (k := 6) rfl rfl (by decide) rfl (fun ls hl => ?_)
      refine lv_iload hx hb dJ13_getChars_11360_118 (lv_at hl 0 rfl) ?_
      refine va_gets hx hb hZ7 hS hown (hts (.fieldLink RJ13 133 "java/lang/Integer" "DigitOnes" "[B") (by decide +kernel)) (fun _ h9 => h9) dJ13_getChars_11360_120 ?_
      refine lv_iload hx hb dJ13_getChars_11360_123 (lv_at hl 2 rfl) ?_
      refine va_tb hx hb hT7 hS (v := .int (t_D1 (((v10 / 100) * 100) - v10).toNatClampNeg)) (hT.2 c_1006).1 rfl dJ13_getChars_11360_125 ?_
      refine va_bast hx hb hK hP hD hS 0 0 rfl rfl (hT.2 c_1006).2.1 dJ13_getChars_11360_126 (fun H locs hP hD hS => ?_)
      have hP : va_P D vwCl [(v, .inl (cB, cp, .inl (upd fa (v7 + (-1)).toNatClampNeg (vp_nar .byte (t_D1 (((v10 / 100) * 100) - v10).toNatClampNeg)))))] H := hP
      have hD : va_D A [(v, .inl (cB, cp, .inl (upd fa (v7 + (-1)).toNatClampNeg (vp_nar .byte (t_D1 (((v10 / 100) * 100) - v10).toNatClampNeg)))))] := hD
      refine lv_aload_n hx hb dJ13_getChars_11360_127 rfl (lv_at hl 6 rfl) ?_
      refine lv_iinc (v := ((v7 + (-1)) + (-1))) (lv' := [(7, .int ((v7 + (-1)) + (-1))), (10, .int (v10 / 100)), (6, .int (((v10 / 100) * 100) - v10)), (9, .int (v10 / 100)), (0, .long w0), (2, .int a2), (3, .ref v), (8, .int w8)]) hx hb dJ13_getChars_11360_128 hl (k := 0) rfl rfl (by decide) rfl (fun ls hl => ?_)
      refine lv_iload hx hb dJ13_getChars_11360_131 (lv_at hl 0 rfl) ?_
      refine va_gets hx hb hZ8 hS hown (hts (.fieldLink RJ13 137 "java/lang/Integer" "DigitTens" "[B") (by decide +kernel)) (fun _ h9 => h9) dJ13_getChars_11360_133 ?_
      refine lv_iload hx hb dJ13_getChars_11360_136 (lv_at hl 2 rfl) ?_
      refine va_tb hx hb hT8 hS (v := .int (t_D2 (((v10 / 100) * 100) - v10).toNatClampNeg)) (hT.2 c_1006).1 rfl dJ13_getChars_11360_138 ?_
      refine va_bast hx hb hK hP hD hS 0 0 rfl rfl (hT.2 c_1006).2.2.1 dJ13_getChars_11360_139 (fun H locs hP hD hS => ?_)
      have hP : va_P D vwCl [(v, .inl (cB, cp, .inl (upd (upd fa (v7 + (-1)).toNatClampNeg (vp_nar .byte (t_D1 (((v10 / 100) * 100) - v10).toNatClampNeg))) ((v7 + (-1)) + (-1)).toNatClampNeg (vp_nar .byte (t_D2 (((v10 / 100) * 100) - v10).toNatClampNeg)))))] H := hP
      have hD : va_D A [(v, .inl (cB, cp, .inl (upd (upd fa (v7 + (-1)).toNatClampNeg (vp_nar .byte (t_D1 (((v10 / 100) * 100) - v10).toNatClampNeg))) ((v7 + (-1)) + (-1)).toNatClampNeg (vp_nar .byte (t_D2 (((v10 / 100) * 100) - v10).toNatClampNeg)))))] := hD
      refine lv_goto (tgt := 86) hx hb dJ13_getChars_11360_140 (by decide) ?_
      exact ih ((v7 + (-1)) + (-1)) (v10 / 100) _ _ _ _ (hT.2 c_1006).2.2.2 (sb_fitU (sb_fitU hfa (k_fitN _)) (k_fitN _)) hP hD hS (lv_sub hl [4, 5, 6, 0, 7, 1] rfl)
def T_J13_getChars_11360 (cp : Nat) (a0 : Int64) (a2 : Int32) : Prop := ((0 ≤ a0 → (jt_J13_getChars_11360_24 cp a0 a2 0 (fun (v_3 : Int64) (v_4 : Int32) => (jt_J13_getChars_11360_86 cp a0 a2 v_3 0 (fun (v_6 : Int32) (v_7 : Int32) => (vp_in (-v_7) 100 ∧ (vp_in (v_6 + (-1)) cp ∧ (((-9) ≤ v_7 → True) ∧ (¬ ((-9) ≤ v_7) → (vp_in ((v_6 + (-1)) + (-1)) cp ∧ True)))))) 100 v_4 v_3.toInt32)) 100 (-a0) a2)) ∧ (¬ (0 ≤ a0) → (jt_J13_getChars_11360_24 cp a0 a2 1 (fun (v_13 : Int64) (v_14 : Int32) => (jt_J13_getChars_11360_86 cp a0 a2 v_13 1 (fun (v_16 : Int32) (v_17 : Int32) => (vp_in (-v_17) 100 ∧ (vp_in (v_16 + (-1)) cp ∧ (((-9) ≤ v_17 → (vp_in ((v_16 + (-1)) + (-1)) cp ∧ True)) ∧ (¬ ((-9) ≤ v_17) → (vp_in ((v_16 + (-1)) + (-1)) cp ∧ (vp_in (((v_16 + (-1)) + (-1)) + (-1)) cp ∧ True))))))) 100 v_14 v_13.toInt32)) 100 a0 a2)))
set_option maxHeartbeats 4000000 in
set_option maxRecDepth 100000 in
theorem c_J13_getChars_11360 (l : Launch) (D : va_G) (cB cJ : ClassId) (Hp : Heap) (v cp : Nat) (ar : Nat → Int32) (hP : va_P D vwCl [(v, .inl (cB, cp, .inl ar))] Hp) (hD9 : va_D (fun _ => True) [(v, .inl (cB, cp, .inl ar))]) (hf : sb_Fit ar) (a0 : Int64) (a2 : Int32) (hT9 : T_J13_getChars_11360 cp a0 a2) : kM l D cB cJ yJ13_getChars_11360 wsJ13_getChars_11360 rm_J13_getChars_11360 (va_A [(v, .inl (cB, cp, .inl ar))] Hp.size) Hp [.long a0, .int a2, .ref v] (kFit D cB (va_A [(v, .inl (cB, cp, .inl ar))] Hp.size) v cp) 0 0 := by
  refine Met.ofW (cc := cJ13_getChars_11360) (maxL := 11) (ret := (some .int)) (by decide) rfl ?_
  intro p e s m args below meth c s₁ B hml hv
  obtain ⟨rfl, hHp, hE⟩ := hv
  subst hHp
  have hx := B.exec
  have hb := B.bytes
  have hr := B.returns
  have hts := atoms_spec (ws := wsJ13_getChars_11360) B.pre
  have hown : s.vm.findClass RJ13 = some m.cls := findClass_of_methodNamed B.named
  have hlocks := B.notSynchronized
  have hK := hE.1
  have hD := hD9.self (sz := s.heap.size)
  generalize hAe : va_A [(v, .inl (cB, cp, .inl ar))] s.heap.size = A at hE hD ⊢
  have hA : ∀ q : Nat, s.heap.size ≤ q → A q := fun q h => by rw [← hAe]; exact Or.inr h
  have hS : va_S A s.heap s.heap [] := va_S.rf
  have hl := lv_entry ([.long a0, .int a2, .ref v]) (n := 11) (Nat.le_of_ble_eq_true rfl)
  rw [lg_entry_eq]
  generalize (lg_sl ([.long a0, .int a2, .ref v]) ++ List.replicate (11 - (lg_sl ([.long a0, .int a2, .ref v])).length) Slot.unset).toArray = ls at hl ⊢
  have hl : lv_has ls 11 [(0, .long a0), (2, .int a2), (3, .ref v)] := hl
  obtain ⟨t7, hZ7, hT7⟩ := hE.2.1.2.2.2.2.2.2.1
  obtain ⟨t8, hZ8, hT8⟩ := hE.2.1.2.2.2.2.2.2.2.1
  have hT : ((0 ≤ a0 → (jt_J13_getChars_11360_24 cp a0 a2 0 (fun (v_3 : Int64) (v_4 : Int32) => (jt_J13_getChars_11360_86 cp a0 a2 v_3 0 (fun (v_6 : Int32) (v_7 : Int32) => (vp_in (-v_7) 100 ∧ (vp_in (v_6 + (-1)) cp ∧ (((-9) ≤ v_7 → True) ∧ (¬ ((-9) ≤ v_7) → (vp_in ((v_6 + (-1)) + (-1)) cp ∧ True)))))) 100 v_4 v_3.toInt32)) 100 (-a0) a2)) ∧ (¬ (0 ≤ a0) → (jt_J13_getChars_11360_24 cp a0 a2 1 (fun (v_13 : Int64) (v_14 : Int32) => (jt_J13_getChars_11360_86 cp a0 a2 v_13 1 (fun (v_16 : Int32) (v_17 : Int32) => (vp_in (-v_17) 100 ∧ (vp_in (v_16 + (-1)) cp ∧ (((-9) ≤ v_17 → (vp_in ((v_16 + (-1)) + (-1)) cp ∧ True)) ∧ (¬ ((-9) ≤ v_17) → (vp_in ((v_16 + (-1)) + (-1)) cp ∧ (vp_in (((v_16 + (-1)) + (-1)) + (-1)) cp ∧ True))))))) 100 v_14 v_13.toInt32)) 100 a0 a2))) := hT9
  refine lv_iload_n hx hb dJ13_getChars_11360_0 rfl (lv_at hl 1 rfl) ?_
  refine lv_istore (lv' := [(7, .int a2), (0, .long a0), (2, .int a2), (3, .ref v)]) hx hb dJ13_getChars_11360_1 hl (by decide) rfl (fun ls hl => ?_)
  refine lv_lload_n hx hb dJ13_getChars_11360_3 rfl (lv_at hl 1 rfl) ?_
  refine lv_lconst (v := 0) hx hb dJ13_getChars_11360_4 (by decide) ?_
  refine kl_ge (tgt := 13) hx hb dJ13_getChars_11360_5 dJ13_getChars_11360_6 (by decide) (fun c_1 => ?_) (fun c_1 => ?_)
  · refine lv_iconst (v := 0) hx hb dJ13_getChars_11360_13 (by decide) ?_
    refine lv_istore (lv' := [(8, .int 0), (7, .int a2), (0, .long a0), (2, .int a2), (3, .ref v)]) hx hb dJ13_getChars_11360_14 hl (by decide) rfl (fun ls hl => ?_)
    refine lv_iload hx hb dJ13_getChars_11360_16 (lv_at hl 0 rfl) ?_
    refine lv_if_ne (tgt := 24) hx hb dJ13_getChars_11360_18 (by decide) (fun c_2 => ?_) (fun c_2 => ?_)
    · exact absurd (by decide) c_2
    · refine lv_lload_n hx hb dJ13_getChars_11360_21 rfl (lv_at hl 2 rfl) ?_
      refine lv_lneg hx hb dJ13_getChars_11360_22 ?_
      refine lv_lstore_n (lv' := [(0, .long (-a0)), (8, .int 0), (7, .int a2), (2, .int a2), (3, .ref v)]) hx hb dJ13_getChars_11360_23 rfl hl (by decide) rfl (fun ls hl => ?_)
      refine lp_J13_getChars_11360_24 v cp a0 a2 0  hx hb hml hr hlocks hown hts hE (fun (v_3 : Int64) (v_4 : Int32) => (jt_J13_getChars_11360_86 cp a0 a2 v_3 0 (fun (v_6 : Int32) (v_7 : Int32) => (vp_in (-v_7) 100 ∧ (vp_in (v_6 + (-1)) cp ∧ (((-9) ≤ v_7 → True) ∧ (¬ ((-9) ≤ v_7) → (vp_in ((v_6 + (-1)) + (-1)) cp ∧ True)))))) 100 v_4 v_3.toInt32)) (fun v_3 v_4 H locs fa_5 ls hT hfa_5 hP hD hS hl => ?_) 100 (-a0) a2 _ _ _ _ (hT.1 c_1) hf hP hD hS (lv_sub hl [0, 3, 4, 2, 1] rfl)
      (try dsimp only at hT)
      refine lv_lload_n hx hb dJ13_getChars_11360_82 rfl (lv_at hl 0 rfl) ?_
      refine lv_l2i (v := v_3.toInt32) hx hb dJ13_getChars_11360_83 rfl ?_
      refine lv_istore (lv' := [(10, .int v_3.toInt32), (0, .long v_3), (2, .int a2), (3, .ref v), (7, .int v_4), (8, .int 0)]) hx hb dJ13_getChars_11360_84 hl (by decide) rfl (fun ls hl => ?_)
      refine lp_J13_getChars_11360_86 v cp a0 a2 v_3 0  hx hb hml hr hlocks hown hts hE (fun (v_6 : Int32) (v_7 : Int32) => (vp_in (-v_7) 100 ∧ (vp_in (v_6 + (-1)) cp ∧ (((-9) ≤ v_7 → True) ∧ (¬ ((-9) ≤ v_7) → (vp_in ((v_6 + (-1)) + (-1)) cp ∧ True)))))) (fun v_6 v_7 H locs fa_8 ls hT hfa_8 hP hD hS hl => ?_) 100 v_4 v_3.toInt32 _ _ _ _ hT hfa_5 hP hD hS (lv_sub hl [1, 2, 3, 4, 5, 0] rfl)
      (try dsimp only at hT)
      refine lv_aload_n hx hb dJ13_getChars_11360_143 rfl (lv_at hl 2 rfl) ?_
      refine lv_iinc (v := (v_6 + (-1))) (lv' := [(7, .int (v_6 + (-1))), (0, .long v_3), (2, .int a2), (3, .ref v), (8, .int 0), (10, .int v_7)]) hx hb dJ13_getChars_11360_144 hl (k := 3) rfl rfl (by decide) rfl (fun ls hl => ?_)
      refine lv_iload hx hb dJ13_getChars_11360_147 (lv_at hl 0 rfl) ?_
      refine va_gets hx hb hZ7 hS hown (hts (.fieldLink RJ13 133 "java/lang/Integer" "DigitOnes" "[B") (by decide +kernel)) (fun _ h9 => h9) dJ13_getChars_11360_149 ?_
      refine lv_iload hx hb dJ13_getChars_11360_152 (lv_at hl 5 rfl) ?_
      refine lv_ineg hx hb dJ13_getChars_11360_154 ?_
      refine va_tb hx hb hT7 hS (v := .int (t_D1 (-v_7).toNatClampNeg)) hT.1 rfl dJ13_getChars_11360_155 ?_
      refine va_bast hx hb hK hP hD hS 0 0 rfl rfl hT.2.1 dJ13_getChars_11360_156 (fun H locs hP hD hS => ?_)
      have hP : va_P D vwCl [(v, .inl (cB, cp, .inl (upd fa_8 (v_6 + (-1)).toNatClampNeg (vp_nar .byte (t_D1 (-v_7).toNatClampNeg)))))] H := hP
      have hD : va_D A [(v, .inl (cB, cp, .inl (upd fa_8 (v_6 + (-1)).toNatClampNeg (vp_nar .byte (t_D1 (-v_7).toNatClampNeg)))))] := hD
      refine lv_iload hx hb dJ13_getChars_11360_157 (lv_at hl 5 rfl) ?_
      refine lv_bipush (v := (-9)) hx hb dJ13_getChars_11360_159 (by decide) ?_
      refine lv_icmp_ge (tgt := 178) hx hb dJ13_getChars_11360_161 (by decide) (fun c_9 => ?_) (fun c_9 => ?_)
      · refine lv_iload hx hb dJ13_getChars_11360_178 (lv_at hl 4 rfl) ?_
        refine lv_if_eq (tgt := 192) hx hb dJ13_getChars_11360_180 (by decide) (fun c_10 => ?_) (fun c_10 => ?_)
        · refine lv_iload hx hb dJ13_getChars_11360_192 (lv_at hl 0 rfl) ?_
          exact k_iret hx hb hr hlocks hS dJ13_getChars_11360_194 ⟨⟨_, rfl⟩, _, hP, hD, (sb_fitU hfa_8 (k_fitN _))⟩
        · exact absurd (by decide) c_10
      · refine lv_aload_n hx hb dJ13_getChars_11360_164 rfl (lv_at hl 3 rfl) ?_
        refine lv_iinc (v := ((v_6 + (-1)) + (-1))) (lv' := [(7, .int ((v_6 + (-1)) + (-1))), (0, .long v_3), (2, .int a2), (3, .ref v), (8, .int 0), (10, .int v_7)]) hx hb dJ13_getChars_11360_165 hl (k := 0) rfl rfl (by decide) rfl (fun ls hl => ?_)
        refine lv_iload hx hb dJ13_getChars_11360_168 (lv_at hl 0 rfl) ?_
        refine va_gets hx hb hZ8 hS hown (hts (.fieldLink RJ13 137 "java/lang/Integer" "DigitTens" "[B") (by decide +kernel)) (fun _ h9 => h9) dJ13_getChars_11360_170 ?_
        refine lv_iload hx hb dJ13_getChars_11360_173 (lv_at hl 5 rfl) ?_
        refine lv_ineg hx hb dJ13_getChars_11360_175 ?_
        refine va_tb hx hb hT8 hS (v := .int (t_D2 (-v_7).toNatClampNeg)) hT.1 rfl dJ13_getChars_11360_176 ?_
        refine va_bast hx hb hK hP hD hS 0 0 rfl rfl (hT.2.2.2 c_9).1 dJ13_getChars_11360_177 (fun H locs hP hD hS => ?_)
        have hP : va_P D vwCl [(v, .inl (cB, cp, .inl (upd (upd fa_8 (v_6 + (-1)).toNatClampNeg (vp_nar .byte (t_D1 (-v_7).toNatClampNeg))) ((v_6 + (-1)) + (-1)).toNatClampNeg (vp_nar .byte (t_D2 (-v_7).toNatClampNeg)))))] H := hP
        have hD : va_D A [(v, .inl (cB, cp, .inl (upd (upd fa_8 (v_6 + (-1)).toNatClampNeg (vp_nar .byte (t_D1 (-v_7).toNatClampNeg))) ((v_6 + (-1)) + (-1)).toNatClampNeg (vp_nar .byte (t_D2 (-v_7).toNatClampNeg)))))] := hD
        refine lv_iload hx hb dJ13_getChars_11360_178 (lv_at hl 4 rfl) ?_
        refine lv_if_eq (tgt := 192) hx hb dJ13_getChars_11360_180 (by decide) (fun c_11 => ?_) (fun c_11 => ?_)
        · refine lv_iload hx hb dJ13_getChars_11360_192 (lv_at hl 0 rfl) ?_
          exact k_iret hx hb hr hlocks hS dJ13_getChars_11360_194 ⟨⟨_, rfl⟩, _, hP, hD, (sb_fitU (sb_fitU hfa_8 (k_fitN _)) (k_fitN _))⟩
        · exact absurd (by decide) c_11
  · refine lv_iconst (v := 1) hx hb dJ13_getChars_11360_9 (by decide) ?_
    refine lv_goto (tgt := 14) hx hb dJ13_getChars_11360_10 (by decide) ?_
    refine lv_istore (lv' := [(8, .int 1), (7, .int a2), (0, .long a0), (2, .int a2), (3, .ref v)]) hx hb dJ13_getChars_11360_14 hl (by decide) rfl (fun ls hl => ?_)
    refine lv_iload hx hb dJ13_getChars_11360_16 (lv_at hl 0 rfl) ?_
    refine lv_if_ne (tgt := 24) hx hb dJ13_getChars_11360_18 (by decide) (fun c_12 => ?_) (fun c_12 => ?_)
    · refine lp_J13_getChars_11360_24 v cp a0 a2 1  hx hb hml hr hlocks hown hts hE (fun (v_13 : Int64) (v_14 : Int32) => (jt_J13_getChars_11360_86 cp a0 a2 v_13 1 (fun (v_16 : Int32) (v_17 : Int32) => (vp_in (-v_17) 100 ∧ (vp_in (v_16 + (-1)) cp ∧ (((-9) ≤ v_17 → (vp_in ((v_16 + (-1)) + (-1)) cp ∧ True)) ∧ (¬ ((-9) ≤ v_17) → (vp_in ((v_16 + (-1)) + (-1)) cp ∧ (vp_in (((v_16 + (-1)) + (-1)) + (-1)) cp ∧ True))))))) 100 v_14 v_13.toInt32)) (fun v_13 v_14 H locs fa_15 ls hT hfa_15 hP hD hS hl => ?_) 100 a0 a2 _ _ _ _ (hT.2 c_1) hf hP hD hS (lv_sub hl [2, 3, 4, 1, 0] rfl)
      (try dsimp only at hT)
      refine lv_lload_n hx hb dJ13_getChars_11360_82 rfl (lv_at hl 0 rfl) ?_
      refine lv_l2i (v := v_13.toInt32) hx hb dJ13_getChars_11360_83 rfl ?_
      refine lv_istore (lv' := [(10, .int v_13.toInt32), (0, .long v_13), (2, .int a2), (3, .ref v), (7, .int v_14), (8, .int 1)]) hx hb dJ13_getChars_11360_84 hl (by decide) rfl (fun ls hl => ?_)
      refine lp_J13_getChars_11360_86 v cp a0 a2 v_13 1  hx hb hml hr hlocks hown hts hE (fun (v_16 : Int32) (v_17 : Int32) => (vp_in (-v_17) 100 ∧ (vp_in (v_16 + (-1)) cp ∧ (((-9) ≤ v_17 → (vp_in ((v_16 + (-1)) + (-1)) cp ∧ True)) ∧ (¬ ((-9) ≤ v_17) → (vp_in ((v_16 + (-1)) + (-1)) cp ∧ (vp_in (((v_16 + (-1)) + (-1)) + (-1)) cp ∧ True))))))) (fun v_16 v_17 H locs fa_18 ls hT hfa_18 hP hD hS hl => ?_) 100 v_14 v_13.toInt32 _ _ _ _ hT hfa_15 hP hD hS (lv_sub hl [1, 2, 3, 4, 5, 0] rfl)
      (try dsimp only at hT)
      refine lv_aload_n hx hb dJ13_getChars_11360_143 rfl (lv_at hl 2 rfl) ?_
      refine lv_iinc (v := (v_16 + (-1))) (lv' := [(7, .int (v_16 + (-1))), (0, .long v_13), (2, .int a2), (3, .ref v), (8, .int 1), (10, .int v_17)]) hx hb dJ13_getChars_11360_144 hl (k := 3) rfl rfl (by decide) rfl (fun ls hl => ?_)
      refine lv_iload hx hb dJ13_getChars_11360_147 (lv_at hl 0 rfl) ?_
      refine va_gets hx hb hZ7 hS hown (hts (.fieldLink RJ13 133 "java/lang/Integer" "DigitOnes" "[B") (by decide +kernel)) (fun _ h9 => h9) dJ13_getChars_11360_149 ?_
      refine lv_iload hx hb dJ13_getChars_11360_152 (lv_at hl 5 rfl) ?_
      refine lv_ineg hx hb dJ13_getChars_11360_154 ?_
      refine va_tb hx hb hT7 hS (v := .int (t_D1 (-v_17).toNatClampNeg)) hT.1 rfl dJ13_getChars_11360_155 ?_
      refine va_bast hx hb hK hP hD hS 0 0 rfl rfl hT.2.1 dJ13_getChars_11360_156 (fun H locs hP hD hS => ?_)
      have hP : va_P D vwCl [(v, .inl (cB, cp, .inl (upd fa_18 (v_16 + (-1)).toNatClampNeg (vp_nar .byte (t_D1 (-v_17).toNatClampNeg)))))] H := hP
      have hD : va_D A [(v, .inl (cB, cp, .inl (upd fa_18 (v_16 + (-1)).toNatClampNeg (vp_nar .byte (t_D1 (-v_17).toNatClampNeg)))))] := hD
      refine lv_iload hx hb dJ13_getChars_11360_157 (lv_at hl 5 rfl) ?_
      refine lv_bipush (v := (-9)) hx hb dJ13_getChars_11360_159 (by decide) ?_
      refine lv_icmp_ge (tgt := 178) hx hb dJ13_getChars_11360_161 (by decide) (fun c_19 => ?_) (fun c_19 => ?_)
      · refine lv_iload hx hb dJ13_getChars_11360_178 (lv_at hl 4 rfl) ?_
        refine lv_if_eq (tgt := 192) hx hb dJ13_getChars_11360_180 (by decide) (fun c_20 => ?_) (fun c_20 => ?_)
        · exact absurd c_20 (by decide)
        · refine lv_aload_n hx hb dJ13_getChars_11360_183 rfl (lv_at hl 3 rfl) ?_
          refine lv_iinc (v := ((v_16 + (-1)) + (-1))) (lv' := [(7, .int ((v_16 + (-1)) + (-1))), (0, .long v_13), (2, .int a2), (3, .ref v), (8, .int 1), (10, .int v_17)]) hx hb dJ13_getChars_11360_184 hl (k := 0) rfl rfl (by decide) rfl (fun ls hl => ?_)
          refine lv_iload hx hb dJ13_getChars_11360_187 (lv_at hl 0 rfl) ?_
          refine lv_bipush (v := 45) hx hb dJ13_getChars_11360_189 (by decide) ?_
          refine va_bast hx hb hK hP hD hS 0 0 rfl rfl (hT.2.2.1 c_19).1 dJ13_getChars_11360_191 (fun H locs hP hD hS => ?_)
          have hP : va_P D vwCl [(v, .inl (cB, cp, .inl (upd (upd fa_18 (v_16 + (-1)).toNatClampNeg (vp_nar .byte (t_D1 (-v_17).toNatClampNeg))) ((v_16 + (-1)) + (-1)).toNatClampNeg (vp_nar .byte 45))))] H := hP
          have hD : va_D A [(v, .inl (cB, cp, .inl (upd (upd fa_18 (v_16 + (-1)).toNatClampNeg (vp_nar .byte (t_D1 (-v_17).toNatClampNeg))) ((v_16 + (-1)) + (-1)).toNatClampNeg (vp_nar .byte 45))))] := hD
          refine lv_iload hx hb dJ13_getChars_11360_192 (lv_at hl 0 rfl) ?_
          exact k_iret hx hb hr hlocks hS dJ13_getChars_11360_194 ⟨⟨_, rfl⟩, _, hP, hD, (sb_fitU (sb_fitU hfa_18 (k_fitN _)) (k_fitN _))⟩
      · refine lv_aload_n hx hb dJ13_getChars_11360_164 rfl (lv_at hl 3 rfl) ?_
        refine lv_iinc (v := ((v_16 + (-1)) + (-1))) (lv' := [(7, .int ((v_16 + (-1)) + (-1))), (0, .long v_13), (2, .int a2), (3, .ref v), (8, .int 1), (10, .int v_17)]) hx hb dJ13_getChars_11360_165 hl (k := 0) rfl rfl (by decide) rfl (fun ls hl => ?_)
        refine lv_iload hx hb dJ13_getChars_11360_168 (lv_at hl 0 rfl) ?_
        refine va_gets hx hb hZ8 hS hown (hts (.fieldLink RJ13 137 "java/lang/Integer" "DigitTens" "[B") (by decide +kernel)) (fun _ h9 => h9) dJ13_getChars_11360_170 ?_
        refine lv_iload hx hb dJ13_getChars_11360_173 (lv_at hl 5 rfl) ?_
        refine lv_ineg hx hb dJ13_getChars_11360_175 ?_
        refine va_tb hx hb hT8 hS (v := .int (t_D2 (-v_17).toNatClampNeg)) hT.1 rfl dJ13_getChars_11360_176 ?_
        refine va_bast hx hb hK hP hD hS 0 0 rfl rfl (hT.2.2.2 c_19).1 dJ13_getChars_11360_177 (fun H locs hP hD hS => ?_)
        have hP : va_P D vwCl [(v, .inl (cB, cp, .inl (upd (upd fa_18 (v_16 + (-1)).toNatClampNeg (vp_nar .byte (t_D1 (-v_17).toNatClampNeg))) ((v_16 + (-1)) + (-1)).toNatClampNeg (vp_nar .byte (t_D2 (-v_17).toNatClampNeg)))))] H := hP
        have hD : va_D A [(v, .inl (cB, cp, .inl (upd (upd fa_18 (v_16 + (-1)).toNatClampNeg (vp_nar .byte (t_D1 (-v_17).toNatClampNeg))) ((v_16 + (-1)) + (-1)).toNatClampNeg (vp_nar .byte (t_D2 (-v_17).toNatClampNeg)))))] := hD
        refine lv_iload hx hb dJ13_getChars_11360_178 (lv_at hl 4 rfl) ?_
        refine lv_if_eq (tgt := 192) hx hb dJ13_getChars_11360_180 (by decide) (fun c_21 => ?_) (fun c_21 => ?_)
        · exact absurd c_21 (by decide)
        · refine lv_aload_n hx hb dJ13_getChars_11360_183 rfl (lv_at hl 3 rfl) ?_
          refine lv_iinc (v := (((v_16 + (-1)) + (-1)) + (-1))) (lv' := [(7, .int (((v_16 + (-1)) + (-1)) + (-1))), (0, .long v_13), (2, .int a2), (3, .ref v), (8, .int 1), (10, .int v_17)]) hx hb dJ13_getChars_11360_184 hl (k := 0) rfl rfl (by decide) rfl (fun ls hl => ?_)
          refine lv_iload hx hb dJ13_getChars_11360_187 (lv_at hl 0 rfl) ?_
          refine lv_bipush (v := 45) hx hb dJ13_getChars_11360_189 (by decide) ?_
          refine va_bast hx hb hK hP hD hS 0 0 rfl rfl (hT.2.2.2 c_19).2.1 dJ13_getChars_11360_191 (fun H locs hP hD hS => ?_)
          have hP : va_P D vwCl [(v, .inl (cB, cp, .inl (upd (upd (upd fa_18 (v_16 + (-1)).toNatClampNeg (vp_nar .byte (t_D1 (-v_17).toNatClampNeg))) ((v_16 + (-1)) + (-1)).toNatClampNeg (vp_nar .byte (t_D2 (-v_17).toNatClampNeg))) (((v_16 + (-1)) + (-1)) + (-1)).toNatClampNeg (vp_nar .byte 45))))] H := hP
          have hD : va_D A [(v, .inl (cB, cp, .inl (upd (upd (upd fa_18 (v_16 + (-1)).toNatClampNeg (vp_nar .byte (t_D1 (-v_17).toNatClampNeg))) ((v_16 + (-1)) + (-1)).toNatClampNeg (vp_nar .byte (t_D2 (-v_17).toNatClampNeg))) (((v_16 + (-1)) + (-1)) + (-1)).toNatClampNeg (vp_nar .byte 45))))] := hD
          refine lv_iload hx hb dJ13_getChars_11360_192 (lv_at hl 0 rfl) ?_
          exact k_iret hx hb hr hlocks hS dJ13_getChars_11360_194 ⟨⟨_, rfl⟩, _, hP, hD, (sb_fitU (sb_fitU (sb_fitU hfa_18 (k_fitN _)) (k_fitN _)) (k_fitN _))⟩
    · exact absurd c_12 (by decide)
