def j_X0_betweenHolds (a0 : Int64) (a2 : Int64) (a4 : Int64) : Int32 := (if 0 ≤ a0 then (if a2 < 0 then 0 else (if (a0 - (a2 * a4)) < 0 then 0 else (if a4 ≤ (if 0 < (a0 - (a2 * a4)) then (a0 - (a2 * a4)) else -(a0 - (a2 * a4))) then 0 else 1))) else (if 0 < a2 then 0 else (if 0 < (a0 - (a2 * a4)) then 0 else (if a4 ≤ (if 0 < (a0 - (a2 * a4)) then (a0 - (a2 * a4)) else -(a0 - (a2 * a4))) then 0 else 1))))
set_option maxHeartbeats 4000000 in
set_option maxRecDepth 100000 in
theorem c_X0_betweenHolds (l : Launch) (D : va_G) (cB cJ : ClassId) (Hp : Heap) (a0 : Int64) (a2 : Int64) (a4 : Int64) : kM l D cB cJ yX0_betweenHolds wsX0_betweenHolds ({ frames := 1, cells := 0, slots := 0, locals := 30 }) kF Hp [.long a0, .long a2, .long a4] (kP (some (.int (j_X0_betweenHolds a0 a2 a4))) Hp) 0 0 := by
  refine Met.ofW (cc := cX0_betweenHolds) (maxL := 9) (ret := (some .boolean)) (by decide) rfl ?_
  intro p e s m args below meth c s₁ B hml hv
  obtain ⟨rfl, hHp, hE⟩ := hv
  subst hHp
  have hx := B.exec
  have hb := B.bytes
  have hr := B.returns
  have hts := atoms_spec (ws := wsX0_betweenHolds) B.pre
  have hown : s.vm.findClass RX0 = some m.cls := findClass_of_methodNamed B.named
  have hlocks := B.notSynchronized
  have hK := hE.1
  have hS : va_S kF s.heap s.heap [] := va_S.rf
  have hl := lv_entry ([.long a0, .long a2, .long a4]) (n := 9) (Nat.le_of_ble_eq_true rfl)
  rw [lg_entry_eq]
  generalize (lg_sl ([.long a0, .long a2, .long a4]) ++ List.replicate (9 - (lg_sl ([.long a0, .long a2, .long a4])).length) Slot.unset).toArray = ls at hl ⊢
  have hl : lv_has ls 9 [(0, .long a0), (2, .long a2), (4, .long a4)] := hl
  refine lv_lload_n hx hb dX0_betweenHolds_0 rfl (lv_at hl 0 rfl) ?_
  refine lv_lload_n hx hb dX0_betweenHolds_1 rfl (lv_at hl 1 rfl) ?_
  refine lv_lload hx hb dX0_betweenHolds_2 (lv_at hl 2 rfl) ?_
  refine lv_lmul hx hb dX0_betweenHolds_4 ?_
  refine lv_lsub hx hb dX0_betweenHolds_5 ?_
  refine lv_lstore (lv' := [(6, .long (a0 - (a2 * a4))), (0, .long a0), (2, .long a2), (4, .long a4)]) hx hb dX0_betweenHolds_6 hl (by decide) rfl (fun ls hl => ?_)
  refine lv_lload_n hx hb dX0_betweenHolds_8 rfl (lv_at hl 1 rfl) ?_
  refine lv_lconst (v := 0) hx hb dX0_betweenHolds_9 (by decide) ?_
  refine kl_ge (tgt := 35) hx hb dX0_betweenHolds_10 dX0_betweenHolds_11 (by decide) (fun c_1 => ?_) (fun c_1 => ?_)
  · refine lv_lload_n hx hb dX0_betweenHolds_35 rfl (lv_at hl 2 rfl) ?_
    refine lv_lconst (v := 0) hx hb dX0_betweenHolds_36 (by decide) ?_
    refine kl_lt (tgt := 52) hx hb dX0_betweenHolds_37 dX0_betweenHolds_38 (by decide) (fun c_2 => ?_) (fun c_2 => ?_)
    · refine lv_iconst (v := 0) hx hb dX0_betweenHolds_52 (by decide) ?_
      refine lv_istore (lv' := [(8, .int 0), (6, .long (a0 - (a2 * a4))), (0, .long a0), (2, .long a2), (4, .long a4)]) hx hb dX0_betweenHolds_53 hl (by decide) rfl (fun ls hl => ?_)
      refine lv_iload hx hb dX0_betweenHolds_55 (lv_at hl 0 rfl) ?_
      refine lv_if_eq (tgt := 75) hx hb dX0_betweenHolds_57 (by decide) (fun c_3 => ?_) (fun c_3 => ?_)
      · refine lv_iconst (v := 0) hx hb dX0_betweenHolds_75 (by decide) ?_
        exact k_zret hx hb hr (Or.inl rfl) hlocks hS dX0_betweenHolds_76 ⟨by rw [j_X0_betweenHolds, if_pos c_1, if_pos c_2], rfl⟩
      · exact absurd (by decide) c_3
    · refine lv_lload hx hb dX0_betweenHolds_41 (lv_at hl 0 rfl) ?_
      refine lv_lconst (v := 0) hx hb dX0_betweenHolds_43 (by decide) ?_
      refine kl_lt (tgt := 52) hx hb dX0_betweenHolds_44 dX0_betweenHolds_45 (by decide) (fun c_4 => ?_) (fun c_4 => ?_)
      · refine lv_iconst (v := 0) hx hb dX0_betweenHolds_52 (by decide) ?_
        refine lv_istore (lv' := [(8, .int 0), (6, .long (a0 - (a2 * a4))), (0, .long a0), (2, .long a2), (4, .long a4)]) hx hb dX0_betweenHolds_53 hl (by decide) rfl (fun ls hl => ?_)
        refine lv_iload hx hb dX0_betweenHolds_55 (lv_at hl 0 rfl) ?_
        refine lv_if_eq (tgt := 75) hx hb dX0_betweenHolds_57 (by decide) (fun c_5 => ?_) (fun c_5 => ?_)
        · refine lv_iconst (v := 0) hx hb dX0_betweenHolds_75 (by decide) ?_
          exact k_zret hx hb hr (Or.inl rfl) hlocks hS dX0_betweenHolds_76 ⟨by rw [j_X0_betweenHolds, if_pos c_1, if_neg c_2, if_pos c_4], rfl⟩
        · exact absurd (by decide) c_5
      · refine lv_iconst (v := 1) hx hb dX0_betweenHolds_48 (by decide) ?_
        refine lv_goto (tgt := 53) hx hb dX0_betweenHolds_49 (by decide) ?_
        refine lv_istore (lv' := [(8, .int 1), (6, .long (a0 - (a2 * a4))), (0, .long a0), (2, .long a2), (4, .long a4)]) hx hb dX0_betweenHolds_53 hl (by decide) rfl (fun ls hl => ?_)
        refine lv_iload hx hb dX0_betweenHolds_55 (lv_at hl 0 rfl) ?_
        refine lv_if_eq (tgt := 75) hx hb dX0_betweenHolds_57 (by decide) (fun c_6 => ?_) (fun c_6 => ?_)
        · exact absurd c_6 (by decide)
        · refine lv_lload hx hb dX0_betweenHolds_60 (lv_at hl 1 rfl) ?_
          refine va_mabs_long hx hb (hml.trans hl.1.symm) hown (hts (.methodLink RX0 208 Lib.MathLoose.abs_long.x) (by decide +kernel)) (hts (.static Lib.MathLoose.abs_long.x) (by decide +kernel)) (hts (.initialized "java/lang/Math") (by decide +kernel)) (hts (.code Lib.MathLoose.abs_long.x Lib.MathLoose.abs_long.code 2 (some .long)) (by decide +kernel)) (Nat.le_of_ble_eq_true rfl) (Nat.le_of_ble_eq_true rfl) (Nat.le_of_ble_eq_true rfl) (Nat.le_of_ble_eq_true rfl) dX0_betweenHolds_62 ?_
          refine lv_lload hx hb dX0_betweenHolds_65 (lv_at hl 4 rfl) ?_
          refine kl_ge (tgt := 75) hx hb dX0_betweenHolds_67 dX0_betweenHolds_68 (by decide) (fun c_7 => ?_) (fun c_7 => ?_)
          · refine lv_iconst (v := 0) hx hb dX0_betweenHolds_75 (by decide) ?_
            exact k_zret hx hb hr (Or.inl rfl) hlocks hS dX0_betweenHolds_76 ⟨by rw [j_X0_betweenHolds, if_pos c_1, if_neg c_2, if_neg c_4, if_pos c_7], rfl⟩
          · refine lv_iconst (v := 1) hx hb dX0_betweenHolds_71 (by decide) ?_
            refine lv_goto (tgt := 76) hx hb dX0_betweenHolds_72 (by decide) ?_
            exact k_zret hx hb hr (Or.inr rfl) hlocks hS dX0_betweenHolds_76 ⟨by rw [j_X0_betweenHolds, if_pos c_1, if_neg c_2, if_neg c_4, if_neg c_7], rfl⟩
  · refine lv_lload_n hx hb dX0_betweenHolds_14 rfl (lv_at hl 2 rfl) ?_
    refine lv_lconst (v := 0) hx hb dX0_betweenHolds_15 (by decide) ?_
    refine kl_gt (tgt := 31) hx hb dX0_betweenHolds_16 dX0_betweenHolds_17 (by decide) (fun c_8 => ?_) (fun c_8 => ?_)
    · refine lv_iconst (v := 0) hx hb dX0_betweenHolds_31 (by decide) ?_
      refine lv_goto (tgt := 53) hx hb dX0_betweenHolds_32 (by decide) ?_
      refine lv_istore (lv' := [(8, .int 0), (6, .long (a0 - (a2 * a4))), (0, .long a0), (2, .long a2), (4, .long a4)]) hx hb dX0_betweenHolds_53 hl (by decide) rfl (fun ls hl => ?_)
      refine lv_iload hx hb dX0_betweenHolds_55 (lv_at hl 0 rfl) ?_
      refine lv_if_eq (tgt := 75) hx hb dX0_betweenHolds_57 (by decide) (fun c_9 => ?_) (fun c_9 => ?_)
      · refine lv_iconst (v := 0) hx hb dX0_betweenHolds_75 (by decide) ?_
        exact k_zret hx hb hr (Or.inl rfl) hlocks hS dX0_betweenHolds_76 ⟨by rw [j_X0_betweenHolds, if_neg c_1, if_pos c_8], rfl⟩
      · exact absurd (by decide) c_9
    · refine lv_lload hx hb dX0_betweenHolds_20 (lv_at hl 0 rfl) ?_
      refine lv_lconst (v := 0) hx hb dX0_betweenHolds_22 (by decide) ?_
      refine kl_gt (tgt := 31) hx hb dX0_betweenHolds_23 dX0_betweenHolds_24 (by decide) (fun c_10 => ?_) (fun c_10 => ?_)
      · refine lv_iconst (v := 0) hx hb dX0_betweenHolds_31 (by decide) ?_
        refine lv_goto (tgt := 53) hx hb dX0_betweenHolds_32 (by decide) ?_
        refine lv_istore (lv' := [(8, .int 0), (6, .long (a0 - (a2 * a4))), (0, .long a0), (2, .long a2), (4, .long a4)]) hx hb dX0_betweenHolds_53 hl (by decide) rfl (fun ls hl => ?_)
        refine lv_iload hx hb dX0_betweenHolds_55 (lv_at hl 0 rfl) ?_
        refine lv_if_eq (tgt := 75) hx hb dX0_betweenHolds_57 (by decide) (fun c_11 => ?_) (fun c_11 => ?_)
        · refine lv_iconst (v := 0) hx hb dX0_betweenHolds_75 (by decide) ?_
          exact k_zret hx hb hr (Or.inl rfl) hlocks hS dX0_betweenHolds_76 ⟨by rw [j_X0_betweenHolds, if_neg c_1, if_neg c_8, if_pos c_10], rfl⟩
        · exact absurd (by decide) c_11
      · refine lv_iconst (v := 1) hx hb dX0_betweenHolds_27 (by decide) ?_
        refine lv_goto (tgt := 53) hx hb dX0_betweenHolds_28 (by decide) ?_
        refine lv_istore (lv' := [(8, .int 1), (6, .long (a0 - (a2 * a4))), (0, .long a0), (2, .long a2), (4, .long a4)]) hx hb dX0_betweenHolds_53 hl (by decide) rfl (fun ls hl => ?_)
        refine lv_iload hx hb dX0_betweenHolds_55 (lv_at hl 0 rfl) ?_
        refine lv_if_eq (tgt := 75) hx hb dX0_betweenHolds_57 (by decide) (fun c_12 => ?_) (fun c_12 => ?_)
        · exact absurd c_12 (by decide)
        · refine lv_lload hx hb dX0_betweenHolds_60 (lv_at hl 1 rfl) ?_
          refine va_mabs_long hx hb (hml.trans hl.1.symm) hown (hts (.methodLink RX0 208 Lib.MathLoose.abs_long.x) (by decide +kernel)) (hts (.static Lib.MathLoose.abs_long.x) (by decide +kernel)) (hts (.initialized "java/lang/Math") (by decide +kernel)) (hts (.code Lib.MathLoose.abs_long.x Lib.MathLoose.abs_long.code 2 (some .long)) (by decide +kernel)) (Nat.le_of_ble_eq_true rfl) (Nat.le_of_ble_eq_true rfl) (Nat.le_of_ble_eq_true rfl) (Nat.le_of_ble_eq_true rfl) dX0_betweenHolds_62 ?_
          refine lv_lload hx hb dX0_betweenHolds_65 (lv_at hl 4 rfl) ?_
          refine kl_ge (tgt := 75) hx hb dX0_betweenHolds_67 dX0_betweenHolds_68 (by decide) (fun c_13 => ?_) (fun c_13 => ?_)
          · refine lv_iconst (v := 0) hx hb dX0_betweenHolds_75 (by decide) ?_
            exact k_zret hx hb hr (Or.inl rfl) hlocks hS dX0_betweenHolds_76 ⟨by rw [j_X0_betweenHolds, if_neg c_1, if_neg c_8, if_neg c_10, if_pos c_13], rfl⟩
          · refine lv_iconst (v := 1) hx hb dX0_betweenHolds_71 (by decide) ?_
            refine lv_goto (tgt := 76) hx hb dX0_betweenHolds_72 (by decide) ?_
            exact k_zret hx hb hr (Or.inr rfl) hlocks hS dX0_betweenHolds_76 ⟨by rw [j_X0_betweenHolds, if_neg c_1, if_neg c_8, if_neg c_10, if_neg c_13], rfl⟩
abbrev rm_X0_partsBelong : Room := { frames := 2, cells := 0, slots := 0, locals := 44 }
def jl_X0_partsBelong_2 (a0 : Int64)  (k9 : Int32 → Int32) : Nat → Int32 → Int32
  | 0, _ => 0
  | u9 + 1, v2 => (if 4 ≤ v2 then (k9 v2) else (if (j_X0_partOf a0 v2) < 0 then 0 else (if (j_X0_partOf a0 v2) < (t_PE v2.toNatClampNeg) then (jl_X0_partsBelong_2 a0  k9 u9 (v2 + 1)) else 0)))
def jt_X0_partsBelong_2 (a0 : Int64)  (t9 : Int32 → Prop) : Nat → Int32 → Prop
  | 0, _ => False
  | u9 + 1, v2 => ¬ v2 < 0 ∧ ((4 ≤ v2 → (t9 v2)) ∧ (¬ (4 ≤ v2) → (((j_X0_partOf a0 v2) < 0 → True) ∧ (¬ ((j_X0_partOf a0 v2) < 0) → (((j_X0_partOf a0 v2) < (t_PE v2.toNatClampNeg) → (jt_X0_partsBelong_2 a0  t9 u9 (v2 + 1))) ∧ (¬ ((j_X0_partOf a0 v2) < (t_PE v2.toNatClampNeg)) → True))))))
set_option maxHeartbeats 4000000 in
set_option maxRecDepth 100000 in
theorem lp_X0_partsBelong_2 {p : Program} {l : Launch} {e : Env} {s : State} {m : MethodId} {args : Array Value} {below : List Frame} {meth : Method} {c : Code} {D : va_G} {cB cJ : ClassId} (a0 : Int64)  (J : Int32) (hx : p.tables.exec = Jvm.exec) (hb : c.code = cX0_partsBelong) (hml : c.maxLocals = 4) (hr : meth.sig.returnType = (some .boolean)) (hlocks : meth.locks = false) (hown : s.vm.findClass RX0 = some m.cls) (hts : ∀ w ∈ wsX0_partsBelong, w.before args s = true) (hE : kE D cB cJ kF s s.heap)  (k9 : Int32 → Int32) (t9 : Int32 → Prop) (kk : ∀ (v2 : Int32) (locs : List Loc) (ls : Array Slot), J = k9 v2 → t9 v2 → va_S kF s.heap s.heap locs → lv_has ls 4 [(0, .long a0), (2, .int v2)] → W p l e rm_X0_partsBelong s m args below meth c s.heap locs 0 0 (MQ below (kQ (kP (some (.int J)) s.heap) kF) args s 0 0 kF) (F0 m 37 ls [])) : ∀ (u9 : Nat) (v2 : Int32) (locs : List Loc) (ls : Array Slot), J = jl_X0_partsBelong_2 a0  k9 u9 v2 → jt_X0_partsBelong_2 a0  t9 u9 v2 → va_S kF s.heap s.heap locs → lv_has ls 4 [(0, .long a0), (2, .int v2)] → W p l e rm_X0_partsBelong s m args below meth c s.heap locs 0 0 (MQ below (kQ (kP (some (.int J)) s.heap) kF) args s 0 0 kF) (F0 m 2 ls []) := by
  have hK := hE.1
  obtain ⟨t2, hZ2, hT2⟩ := hE.2.1.2.1
  intro u9
  induction u9 with
  | zero =>
    intro v2 locs ls hJ hT
    exact hT.elim
  | succ u9 ih =>
    intro v2 locs ls hJ hT hS hl
    rw [jl_X0_partsBelong_2] at hJ
    rw [jt_X0_partsBelong_2] at hT
    obtain ⟨hi0, hT⟩ := hT
    refine lv_iload_n hx hb dX0_partsBelong_2 rfl (lv_at hl 1 rfl) ?_
    refine va_gets hx hb hZ2 hS hown (hts (.fieldLink RX0 167 "Clocksolo" "PART_ENDS" "[I") (by decide +kernel)) (fun _ h9 => h9) dX0_partsBelong_3 ?_
    refine va_tlen hx hb hT2 hS (v := 4) rfl dX0_partsBelong_6 ?_
    refine lv_icmp_ge (tgt := 37) hx hb dX0_partsBelong_7 (by decide) (fun c_1001 => ?_) (fun c_1001 => ?_)
    · exact kk v2 _ _ (hJ.trans (by rw [if_pos c_1001])) (hT.1 c_1001) hS (lv_sub hl [0, 1] rfl)
    · refine lv_lload_n hx hb dX0_partsBelong_10 rfl (lv_at hl 0 rfl) ?_
      refine lv_iload_n hx hb dX0_partsBelong_11 rfl (lv_at hl 1 rfl) ?_
      refine k_pS [.long a0, .int v2] (rest := []) ⟨hx, hb, hml, hown, hts⟩ (c_X0_partOf l D cB cJ _ a0 v2) (va_cwS 2 hts gX0_partsBelong_X0_partOf rfl rfl rfl (by decide +kernel) ⟨(Nat.le_of_ble_eq_true rfl), (Nat.le_of_ble_eq_true rfl)⟩) hE hS rfl rfl hl.1 (Nat.le_of_ble_eq_true rfl) dX0_partsBelong_12 ⟨(Nat.le_of_ble_eq_true rfl), (Nat.le_of_ble_eq_true rfl)⟩ (fun locs hS => ?_)
      refine W.eq (g2 := F0 m 15 ls [.int (j_X0_partOf a0 v2)]) rfl ?_
      refine lv_istore_n (lv' := [(3, .int (j_X0_partOf a0 v2)), (0, .long a0), (2, .int v2)]) hx hb dX0_partsBelong_15 rfl hl (by decide) rfl (fun ls hl => ?_)
      refine lv_iload_n hx hb dX0_partsBelong_16 rfl (lv_at hl 0 rfl) ?_
      refine lv_if_lt (tgt := 29) hx hb dX0_partsBelong_17 (by decide) (fun c_1002 => ?_) (fun c_1002 => ?_)
      · refine lv_iconst (v := 0) hx hb dX0_partsBelong_29 (by decide) ?_
        exact k_zret hx hb hr (Or.inl rfl) hlocks hS dX0_partsBelong_30 ⟨by rw [hJ, if_neg c_1001, if_pos c_1002], rfl⟩
      · refine lv_iload_n hx hb dX0_partsBelong_20 rfl (lv_at hl 0 rfl) ?_
        refine va_gets hx hb hZ2 hS hown (hts (.fieldLink RX0 167 "Clocksolo" "PART_ENDS" "[I") (by decide +kernel)) (fun _ h9 => h9) dX0_partsBelong_21 ?_
        refine lv_iload_n hx hb dX0_partsBelong_24 rfl (lv_at hl 2 rfl) ?_
        refine va_ti hx hb hT2 hS (v := .int (t_PE v2.toNatClampNeg)) (k_in hi0 c_1001 (by decide) (by decide)) rfl dX0_partsBelong_25 ?_
        refine lv_icmp_lt (tgt := 31) hx hb dX0_partsBelong_26 (by decide) (fun c_1003 => ?_) (fun c_1003 => ?_)
        · refine lv_iinc (v := (v2 + 1)) (lv' := [(2, .int (v2 + 1)), (3, .int (j_X0_partOf a0 v2)), (0, .long a0)]) hx hb dX0_partsBelong_31 hl (k := 2) rfl rfl (by decide) rfl (fun ls hl => ?_)
          refine lv_goto (tgt := 2) hx hb dX0_partsBelong_34 (by decide) ?_
          exact ih (v2 + 1) _ _ (hJ.trans (by rw [if_neg c_1001, if_neg c_1002, if_pos c_1003])) (((hT.2 c_1001).2 c_1002).1 c_1003) hS (lv_sub hl [2, 0] rfl)
        · refine lv_iconst (v := 0) hx hb dX0_partsBelong_29 (by decide) ?_
          exact k_zret hx hb hr (Or.inl rfl) hlocks hS dX0_partsBelong_30 ⟨by rw [hJ, if_neg c_1001, if_neg c_1002, if_neg c_1003], rfl⟩
def j_X0_partsBelong (a0 : Int64) : Int32 := (jl_X0_partsBelong_2 a0  (fun (v_1 : Int32) => (if (j_X0_numberOfParts (j_X0_partOf a0 0) (j_X0_partOf a0 1) (j_X0_partOf a0 2) (j_X0_partOf a0 3)) = a0 then (if ((j_X0_partOf a0 4).toInt64) = ((j_X0_cutNumber a0 3) / 1000000000) then 1 else 0) else 0)) 100 0)
def T_X0_partsBelong (a0 : Int64) : Prop := (jt_X0_partsBelong_2 a0  (fun (v_1 : Int32) => (((j_X0_numberOfParts (j_X0_partOf a0 0) (j_X0_partOf a0 1) (j_X0_partOf a0 2) (j_X0_partOf a0 3)) = a0 → ((((j_X0_partOf a0 4).toInt64) = ((j_X0_cutNumber a0 3) / 1000000000) → True) ∧ (¬ (((j_X0_partOf a0 4).toInt64) = ((j_X0_cutNumber a0 3) / 1000000000)) → True))) ∧ (¬ ((j_X0_numberOfParts (j_X0_partOf a0 0) (j_X0_partOf a0 1) (j_X0_partOf a0 2) (j_X0_partOf a0 3)) = a0) → True))) 100 0)
set_option maxHeartbeats 4000000 in
set_option maxRecDepth 100000 in
theorem c_X0_partsBelong (l : Launch) (D : va_G) (cB cJ : ClassId) (Hp : Heap)  (a0 : Int64) (hT9 : T_X0_partsBelong a0) : kM l D cB cJ yX0_partsBelong wsX0_partsBelong rm_X0_partsBelong kF Hp [.long a0] (kP (some (.int (j_X0_partsBelong a0))) Hp) 0 0 := by
  refine Met.ofW (cc := cX0_partsBelong) (maxL := 4) (ret := (some .boolean)) (by decide) rfl ?_
  intro p e s m args below meth c s₁ B hml hv
  obtain ⟨rfl, hHp, hE⟩ := hv
  subst hHp
  have hx := B.exec
  have hb := B.bytes
  have hr := B.returns
  have hts := atoms_spec (ws := wsX0_partsBelong) B.pre
  have hown : s.vm.findClass RX0 = some m.cls := findClass_of_methodNamed B.named
  have hlocks := B.notSynchronized
  have hK := hE.1
  have hS : va_S kF s.heap s.heap [] := va_S.rf
  have hl := lv_entry ([.long a0]) (n := 4) (Nat.le_of_ble_eq_true rfl)
  rw [lg_entry_eq]
  generalize (lg_sl ([.long a0]) ++ List.replicate (4 - (lg_sl ([.long a0])).length) Slot.unset).toArray = ls at hl ⊢
  have hl : lv_has ls 4 [(0, .long a0)] := hl
  obtain ⟨t2, hZ2, hT2⟩ := hE.2.1.2.1
  have hJ : (j_X0_partsBelong a0) = (jl_X0_partsBelong_2 a0  (fun (v_1 : Int32) => (if (j_X0_numberOfParts (j_X0_partOf a0 0) (j_X0_partOf a0 1) (j_X0_partOf a0 2) (j_X0_partOf a0 3)) = a0 then (if ((j_X0_partOf a0 4).toInt64) = ((j_X0_cutNumber a0 3) / 1000000000) then 1 else 0) else 0)) 100 0) := rfl
  have hT : (jt_X0_partsBelong_2 a0  (fun (v_1 : Int32) => (((j_X0_numberOfParts (j_X0_partOf a0 0) (j_X0_partOf a0 1) (j_X0_partOf a0 2) (j_X0_partOf a0 3)) = a0 → ((((j_X0_partOf a0 4).toInt64) = ((j_X0_cutNumber a0 3) / 1000000000) → True) ∧ (¬ (((j_X0_partOf a0 4).toInt64) = ((j_X0_cutNumber a0 3) / 1000000000)) → True))) ∧ (¬ ((j_X0_numberOfParts (j_X0_partOf a0 0) (j_X0_partOf a0 1) (j_X0_partOf a0 2) (j_X0_partOf a0 3)) = a0) → True))) 100 0) := hT9
  refine lv_iconst (v := 0) hx hb dX0_partsBelong_0 (by decide) ?_
  refine lv_istore_n (lv' := [(2, .int 0), (0, .long a0)]) hx hb dX0_partsBelong_1 rfl hl (by decide) rfl (fun ls hl => ?_)
  refine lp_X0_partsBelong_2 a0  (j_X0_partsBelong a0) hx hb hml hr hlocks hown hts hE  (fun (v_1 : Int32) => (if (j_X0_numberOfParts (j_X0_partOf a0 0) (j_X0_partOf a0 1) (j_X0_partOf a0 2) (j_X0_partOf a0 3)) = a0 then (if ((j_X0_partOf a0 4).toInt64) = ((j_X0_cutNumber a0 3) / 1000000000) then 1 else 0) else 0)) (fun (v_1 : Int32) => (((j_X0_numberOfParts (j_X0_partOf a0 0) (j_X0_partOf a0 1) (j_X0_partOf a0 2) (j_X0_partOf a0 3)) = a0 → ((((j_X0_partOf a0 4).toInt64) = ((j_X0_cutNumber a0 3) / 1000000000) → True) ∧ (¬ (((j_X0_partOf a0 4).toInt64) = ((j_X0_cutNumber a0 3) / 1000000000)) → True))) ∧ (¬ ((j_X0_numberOfParts (j_X0_partOf a0 0) (j_X0_partOf a0 1) (j_X0_partOf a0 2) (j_X0_partOf a0 3)) = a0) → True))) (fun v_1 locs ls hJ hT hS hl => ?_) 100 0 _ _ hJ hT hS (lv_sub hl [1, 0] rfl)
  (try dsimp only at hJ); (try dsimp only at hT)
  refine lv_lload_n hx hb dX0_partsBelong_37 rfl (lv_at hl 0 rfl) ?_
  refine lv_iconst (v := 0) hx hb dX0_partsBelong_38 (by decide) ?_
  refine k_pS [.long a0, .int 0] (rest := []) ⟨hx, hb, hml, hown, hts⟩ (c_X0_partOf l D cB cJ _ a0 0) (va_cwS 2 hts gX0_partsBelong_X0_partOf rfl rfl rfl (by decide +kernel) ⟨(Nat.le_of_ble_eq_true rfl), (Nat.le_of_ble_eq_true rfl)⟩) hE hS rfl rfl hl.1 (Nat.le_of_ble_eq_true rfl) dX0_partsBelong_39 ⟨(Nat.le_of_ble_eq_true rfl), (Nat.le_of_ble_eq_true rfl)⟩ (fun locs hS => ?_)
  refine W.eq (g2 := F0 m 42 ls [.int (j_X0_partOf a0 0)]) rfl ?_
  refine lv_lload_n hx hb dX0_partsBelong_42 rfl (lv_at hl 0 rfl) ?_
  refine lv_iconst (v := 1) hx hb dX0_partsBelong_43 (by decide) ?_
  refine k_pS [.long a0, .int 1] (rest := [.int (j_X0_partOf a0 0)]) ⟨hx, hb, hml, hown, hts⟩ (c_X0_partOf l D cB cJ _ a0 1) (va_cwS 2 hts gX0_partsBelong_X0_partOf rfl rfl rfl (by decide +kernel) ⟨(Nat.le_of_ble_eq_true rfl), (Nat.le_of_ble_eq_true rfl)⟩) hE hS rfl rfl hl.1 (Nat.le_of_ble_eq_true rfl) dX0_partsBelong_44 ⟨(Nat.le_of_ble_eq_true rfl), (Nat.le_of_ble_eq_true rfl)⟩ (fun locs hS => ?_)
  refine W.eq (g2 := F0 m 47 ls [.int (j_X0_partOf a0 1), .int (j_X0_partOf a0 0)]) rfl ?_
  refine lv_lload_n hx hb dX0_partsBelong_47 rfl (lv_at hl 0 rfl) ?_
  refine lv_iconst (v := 2) hx hb dX0_partsBelong_48 (by decide) ?_
  refine k_pS [.long a0, .int 2] (rest := [.int (j_X0_partOf a0 1), .int (j_X0_partOf a0 0)]) ⟨hx, hb, hml, hown, hts⟩ (c_X0_partOf l D cB cJ _ a0 2) (va_cwS 2 hts gX0_partsBelong_X0_partOf rfl rfl rfl (by decide +kernel) ⟨(Nat.le_of_ble_eq_true rfl), (Nat.le_of_ble_eq_true rfl)⟩) hE hS rfl rfl hl.1 (Nat.le_of_ble_eq_true rfl) dX0_partsBelong_49 ⟨(Nat.le_of_ble_eq_true rfl), (Nat.le_of_ble_eq_true rfl)⟩ (fun locs hS => ?_)
  refine W.eq (g2 := F0 m 52 ls [.int (j_X0_partOf a0 2), .int (j_X0_partOf a0 1), .int (j_X0_partOf a0 0)]) rfl ?_
  refine lv_lload_n hx hb dX0_partsBelong_52 rfl (lv_at hl 0 rfl) ?_
  refine lv_iconst (v := 3) hx hb dX0_partsBelong_53 (by decide) ?_
  refine k_pS [.long a0, .int 3] (rest := [.int (j_X0_partOf a0 2), .int (j_X0_partOf a0 1), .int (j_X0_partOf a0 0)]) ⟨hx, hb, hml, hown, hts⟩ (c_X0_partOf l D cB cJ _ a0 3) (va_cwS 2 hts gX0_partsBelong_X0_partOf rfl rfl rfl (by decide +kernel) ⟨(Nat.le_of_ble_eq_true rfl), (Nat.le_of_ble_eq_true rfl)⟩) hE hS rfl rfl hl.1 (Nat.le_of_ble_eq_true rfl) dX0_partsBelong_54 ⟨(Nat.le_of_ble_eq_true rfl), (Nat.le_of_ble_eq_true rfl)⟩ (fun locs hS => ?_)
  refine W.eq (g2 := F0 m 57 ls [.int (j_X0_partOf a0 3), .int (j_X0_partOf a0 2), .int (j_X0_partOf a0 1), .int (j_X0_partOf a0 0)]) rfl ?_
  refine k_pS [.int (j_X0_partOf a0 0), .int (j_X0_partOf a0 1), .int (j_X0_partOf a0 2), .int (j_X0_partOf a0 3)] (rest := []) ⟨hx, hb, hml, hown, hts⟩ (c_X0_numberOfParts l D cB cJ _ (j_X0_partOf a0 0) (j_X0_partOf a0 1) (j_X0_partOf a0 2) (j_X0_partOf a0 3)) (va_cwS 4 hts gX0_partsBelong_X0_numberOfParts rfl rfl rfl (by decide +kernel) ⟨(Nat.le_of_ble_eq_true rfl), (Nat.le_of_ble_eq_true rfl)⟩) hE hS rfl rfl hl.1 (Nat.le_of_ble_eq_true rfl) dX0_partsBelong_57 ⟨(Nat.le_of_ble_eq_true rfl), (Nat.le_of_ble_eq_true rfl)⟩ (fun locs hS => ?_)
  refine W.eq (g2 := F0 m 60 ls [.long (j_X0_numberOfParts (j_X0_partOf a0 0) (j_X0_partOf a0 1) (j_X0_partOf a0 2) (j_X0_partOf a0 3))]) rfl ?_
  refine lv_lstore_n (lv' := [(2, .long (j_X0_numberOfParts (j_X0_partOf a0 0) (j_X0_partOf a0 1) (j_X0_partOf a0 2) (j_X0_partOf a0 3))), (0, .long a0)]) hx hb dX0_partsBelong_60 rfl hl (by decide) rfl (fun ls hl => ?_)
  refine lv_lload_n hx hb dX0_partsBelong_61 rfl (lv_at hl 0 rfl) ?_
  refine lv_lload_n hx hb dX0_partsBelong_62 rfl (lv_at hl 1 rfl) ?_
  refine kl_ne (tgt := 90) hx hb dX0_partsBelong_63 dX0_partsBelong_64 (by decide) (fun c_2 => ?_) (fun c_2 => ?_)
  · refine lv_iconst (v := 0) hx hb dX0_partsBelong_90 (by decide) ?_
    exact k_zret hx hb hr (Or.inl rfl) hlocks hS dX0_partsBelong_91 ⟨by rw [hJ, if_neg c_2], rfl⟩
  · refine lv_lload_n hx hb dX0_partsBelong_67 rfl (lv_at hl 1 rfl) ?_
    refine lv_iconst (v := 4) hx hb dX0_partsBelong_68 (by decide) ?_
    refine k_pS [.long a0, .int 4] (rest := []) ⟨hx, hb, hml, hown, hts⟩ (c_X0_partOf l D cB cJ _ a0 4) (va_cwS 2 hts gX0_partsBelong_X0_partOf rfl rfl rfl (by decide +kernel) ⟨(Nat.le_of_ble_eq_true rfl), (Nat.le_of_ble_eq_true rfl)⟩) hE hS rfl rfl hl.1 (Nat.le_of_ble_eq_true rfl) dX0_partsBelong_69 ⟨(Nat.le_of_ble_eq_true rfl), (Nat.le_of_ble_eq_true rfl)⟩ (fun locs hS => ?_)
    refine W.eq (g2 := F0 m 72 ls [.int (j_X0_partOf a0 4)]) rfl ?_
    refine lv_i2l (v := (j_X0_partOf a0 4).toInt64) hx hb dX0_partsBelong_72 rfl ?_
    refine lv_lload_n hx hb dX0_partsBelong_73 rfl (lv_at hl 1 rfl) ?_
    refine lv_iconst (v := 3) hx hb dX0_partsBelong_74 (by decide) ?_
    refine k_pS [.long a0, .int 3] (rest := [.long ((j_X0_partOf a0 4).toInt64)]) ⟨hx, hb, hml, hown, hts⟩ (c_X0_cutNumber l D cB cJ _ a0 3) (va_cwS 2 hts gX0_partsBelong_X0_cutNumber rfl rfl rfl (by decide +kernel) ⟨(Nat.le_of_ble_eq_true rfl), (Nat.le_of_ble_eq_true rfl)⟩) hE hS rfl rfl hl.1 (Nat.le_of_ble_eq_true rfl) dX0_partsBelong_75 ⟨(Nat.le_of_ble_eq_true rfl), (Nat.le_of_ble_eq_true rfl)⟩ (fun locs hS => ?_)
    refine W.eq (g2 := F0 m 78 ls [.long (j_X0_cutNumber a0 3), .long ((j_X0_partOf a0 4).toInt64)]) rfl ?_
    refine lv_ldc2 (v := 1000000000) hx hb hown (hts (.constantLong RX0 39 (1000000000)) (by decide +kernel)) dX0_partsBelong_78 ?_
    refine lv_ldiv hx hb dX0_partsBelong_81 (by decide) ?_
    refine kl_ne (tgt := 90) hx hb dX0_partsBelong_82 dX0_partsBelong_83 (by decide) (fun c_3 => ?_) (fun c_3 => ?_)
    · refine lv_iconst (v := 0) hx hb dX0_partsBelong_90 (by decide) ?_
      exact k_zret hx hb hr (Or.inl rfl) hlocks hS dX0_partsBelong_91 ⟨by rw [hJ, if_pos c_2, if_neg c_3], rfl⟩
    · refine lv_iconst (v := 1) hx hb dX0_partsBelong_86 (by decide) ?_
      refine lv_goto (tgt := 91) hx hb dX0_partsBelong_87 (by decide) ?_
      exact k_zret hx hb hr (Or.inr rfl) hlocks hS dX0_partsBelong_91 ⟨by rw [hJ, if_pos c_2, if_pos c_3], rfl⟩
theorem jtk_X0_partsBelong_2 (a0 : Int64)  (t9 : Int32 → Prop) (h9 : ∀ (v2 : Int32), t9 v2) : ∀ (n k : Nat) (v2 : Int32), v2 = nI k → k ≤ 4 → 4 < n + k → jt_X0_partsBelong_2 a0  t9 n v2 := by
  intro n
  induction n with
  | zero => intro k v2 e h1 h2; exact absurd h2 (by omega)
  | succ n ih =>
    intro k v2 e h1 h2
    subst e
    rw [jt_X0_partsBelong_2]
    rcases Nat.lt_or_ge k 4 with hk | hk
    · repeat' (first | with_reducible exact trivial | with_reducible exact h9 _ | with_reducible exact nI_pos (by omega) | with_reducible exact ih (k + 1) _ (nI_1 k) (by omega) (by omega) | with_reducible refine ⟨?_, ?_⟩ | (with_reducible intro _))
    · obtain rfl : k = 4 := by omega
      repeat' (first | with_reducible exact trivial | with_reducible exact h9 _ | with_reducible exact nI_pos (by omega) | with_reducible refine ⟨?_, ?_⟩ | (with_reducible intro hc; exact absurd (by decide) hc) | (with_reducible intro _))
theorem tk_X0_partsBelong (a0 : Int64) : T_X0_partsBelong a0 := jtk_X0_partsBelong_2 a0  _ (fun _ => by repeat' (first | with_reducible exact trivial | with_reducible refine ⟨?_, ?_⟩ | (with_reducible intro _))) 100 0 _ nI_0.symm (by omega) (by omega)
abbrev rm_X0_stepsHold : Room := { frames := 3, cells := 0, slots := 0, locals := 81 }
def jl_X0_stepsHold_10 (a0 : Int64) (w2 : Int32) (k9 : Int32 → Int32) : Nat → Int32 → Int32
  | 0, _ => 0
  | u9 + 1, v3 => (if 3 ≤ v3 then (k9 v3) else (if (j_X0_isStepUnit w2) = 0 then (jl_X0_stepsHold_10 a0 w2 k9 u9 (v3 + 1)) else (if (j_X0_stepHolds a0 w2 ((t_TA v3.toNatClampNeg).toInt64)) = 0 then 0 else (jl_X0_stepsHold_10 a0 w2 k9 u9 (v3 + 1)))))
def jt_X0_stepsHold_10 (a0 : Int64) (w2 : Int32) (t9 : Int32 → Prop) : Nat → Int32 → Prop
  | 0, _ => False
  | u9 + 1, v3 => ¬ v3 < 0 ∧ ((3 ≤ v3 → (t9 v3)) ∧ (¬ (3 ≤ v3) → (((j_X0_isStepUnit w2) = 0 → (jt_X0_stepsHold_10 a0 w2 t9 u9 (v3 + 1))) ∧ (¬ ((j_X0_isStepUnit w2) = 0) → (((j_X0_stepHolds a0 w2 ((t_TA v3.toNatClampNeg).toInt64)) = 0 → True) ∧ (¬ ((j_X0_stepHolds a0 w2 ((t_TA v3.toNatClampNeg).toInt64)) = 0) → (jt_X0_stepsHold_10 a0 w2 t9 u9 (v3 + 1))))))))
set_option maxHeartbeats 4000000 in
set_option maxRecDepth 100000 in
theorem lp_X0_stepsHold_10 {p : Program} {l : Launch} {e : Env} {s : State} {m : MethodId} {args : Array Value} {below : List Frame} {meth : Method} {c : Code} {D : va_G} {cB cJ : ClassId} (a0 : Int64) (w2 : Int32) (J : Int32) (hx : p.tables.exec = Jvm.exec) (hb : c.code = cX0_stepsHold) (hml : c.maxLocals = 4) (hr : meth.sig.returnType = (some .boolean)) (hlocks : meth.locks = false) (hown : s.vm.findClass RX0 = some m.cls) (hts : ∀ w ∈ wsX0_stepsHold, w.before args s = true) (hE : kE D cB cJ kF s s.heap)  (k9 : Int32 → Int32) (t9 : Int32 → Prop) (kk : ∀ (v3 : Int32) (locs : List Loc) (ls : Array Slot), J = k9 v3 → t9 v3 → va_S kF s.heap s.heap locs → lv_has ls 4 [(0, .long a0), (2, .int w2), (3, .int v3)] → W p l e rm_X0_stepsHold s m args below meth c s.heap locs 0 0 (MQ below (kQ (kP (some (.int J)) s.heap) kF) args s 0 0 kF) (F0 m 47 ls [])) : ∀ (u9 : Nat) (v3 : Int32) (locs : List Loc) (ls : Array Slot), J = jl_X0_stepsHold_10 a0 w2 k9 u9 v3 → jt_X0_stepsHold_10 a0 w2 t9 u9 v3 → va_S kF s.heap s.heap locs → lv_has ls 4 [(0, .long a0), (2, .int w2), (3, .int v3)] → W p l e rm_X0_stepsHold s m args below meth c s.heap locs 0 0 (MQ below (kQ (kP (some (.int J)) s.heap) kF) args s 0 0 kF) (F0 m 10 ls []) := by
  have hK := hE.1
  obtain ⟨t3, hZ3, hT3⟩ := hE.2.1.2.2.1
  intro u9
  induction u9 with
  | zero =>
    intro v3 locs ls hJ hT
    exact hT.elim
  | succ u9 ih =>
    intro v3 locs ls hJ hT hS hl
    rw [jl_X0_stepsHold_10] at hJ
    rw [jt_X0_stepsHold_10] at hT
    obtain ⟨hi0, hT⟩ := hT
    refine lv_iload_n hx hb dX0_stepsHold_10 rfl (lv_at hl 2 rfl) ?_
    refine va_gets hx hb hZ3 hS hown (hts (.fieldLink RX0 220 "Clocksolo" "TRIAL_AMOUNTS" "[I") (by decide +kernel)) (fun _ h9 => h9) dX0_stepsHold_11 ?_
    refine va_tlen hx hb hT3 hS (v := 3) rfl dX0_stepsHold_14 ?_
    refine lv_icmp_ge (tgt := 47) hx hb dX0_stepsHold_15 (by decide) (fun c_2002 => ?_) (fun c_2002 => ?_)
    · exact kk v3 _ _ (hJ.trans (by rw [if_pos c_2002])) (hT.1 c_2002) hS (lv_sub hl [0, 1, 2] rfl)
    · refine lv_iload_n hx hb dX0_stepsHold_18 rfl (lv_at hl 1 rfl) ?_
      refine k_pS [.int w2] (rest := []) ⟨hx, hb, hml, hown, hts⟩ (c_X0_isStepUnit l D cB cJ _ w2) (va_cwS 1 hts gX0_stepsHold_X0_isStepUnit rfl rfl rfl (by decide +kernel) ⟨(Nat.le_of_ble_eq_true rfl), (Nat.le_of_ble_eq_true rfl)⟩) hE hS rfl rfl hl.1 (Nat.le_of_ble_eq_true rfl) dX0_stepsHold_19 ⟨(Nat.le_of_ble_eq_true rfl), (Nat.le_of_ble_eq_true rfl)⟩ (fun locs hS => ?_)
      refine W.eq (g2 := F0 m 22 ls [.int (j_X0_isStepUnit w2)]) rfl ?_
      refine lv_if_eq (tgt := 41) hx hb dX0_stepsHold_22 (by decide) (fun c_2003 => ?_) (fun c_2003 => ?_)
      · refine lv_iinc (v := (v3 + 1)) (lv' := [(3, .int (v3 + 1)), (0, .long a0), (2, .int w2)]) hx hb dX0_stepsHold_41 hl (k := 2) rfl rfl (by decide) rfl (fun ls hl => ?_)
        refine lv_goto (tgt := 10) hx hb dX0_stepsHold_44 (by decide) ?_
        exact ih (v3 + 1) _ _ (hJ.trans (by rw [if_neg c_2002, if_pos c_2003])) ((hT.2 c_2002).1 c_2003) hS (lv_sub hl [1, 2, 0] rfl)
      · refine lv_lload_n hx hb dX0_stepsHold_25 rfl (lv_at hl 0 rfl) ?_
        refine lv_iload_n hx hb dX0_stepsHold_26 rfl (lv_at hl 1 rfl) ?_
        refine va_gets hx hb hZ3 hS hown (hts (.fieldLink RX0 220 "Clocksolo" "TRIAL_AMOUNTS" "[I") (by decide +kernel)) (fun _ h9 => h9) dX0_stepsHold_27 ?_
        refine lv_iload_n hx hb dX0_stepsHold_30 rfl (lv_at hl 2 rfl) ?_
        refine va_ti hx hb hT3 hS (v := .int (t_TA v3.toNatClampNeg)) (k_in hi0 c_2002 (by decide) (by decide)) rfl dX0_stepsHold_31 ?_
        refine lv_i2l (v := (t_TA v3.toNatClampNeg).toInt64) hx hb dX0_stepsHold_32 rfl ?_
        refine k_pS [.long a0, .int w2, .long ((t_TA v3.toNatClampNeg).toInt64)] (rest := []) ⟨hx, hb, hml, hown, hts⟩ (c_X0_stepHolds l D cB cJ _ a0 w2 ((t_TA v3.toNatClampNeg).toInt64)) (va_cwS 3 hts gX0_stepsHold_X0_stepHolds rfl rfl rfl (by decide +kernel) ⟨(Nat.le_of_ble_eq_true rfl), (Nat.le_of_ble_eq_true rfl)⟩) hE hS rfl rfl hl.1 (Nat.le_of_ble_eq_true rfl) dX0_stepsHold_33 ⟨(Nat.le_of_ble_eq_true rfl), (Nat.le_of_ble_eq_true rfl)⟩ (fun locs hS => ?_)
        refine W.eq (g2 := F0 m 36 ls [.int (j_X0_stepHolds a0 w2 ((t_TA v3.toNatClampNeg).toInt64))]) rfl ?_
        refine lv_if_ne (tgt := 41) hx hb dX0_stepsHold_36 (by decide) (fun c_2004 => ?_) (fun c_2004 => ?_)
        · refine lv_iinc (v := (v3 + 1)) (lv' := [(3, .int (v3 + 1)), (0, .long a0), (2, .int w2)]) hx hb dX0_stepsHold_41 hl (k := 2) rfl rfl (by decide) rfl (fun ls hl => ?_)
          refine lv_goto (tgt := 10) hx hb dX0_stepsHold_44 (by decide) ?_
          exact ih (v3 + 1) _ _ (hJ.trans (by rw [if_neg c_2002, if_neg c_2003, if_neg c_2004])) (((hT.2 c_2002).2 c_2003).2 c_2004) hS (lv_sub hl [1, 2, 0] rfl)
        · refine lv_iconst (v := 0) hx hb dX0_stepsHold_39 (by decide) ?_
          exact k_zret hx hb hr (Or.inl rfl) hlocks hS dX0_stepsHold_40 ⟨by rw [hJ, if_neg c_2002, if_neg c_2003, if_pos c_2004], rfl⟩
def jl_X0_stepsHold_2 (a0 : Int64)  (k9 : Int32 → Int32) : Nat → Int32 → Int32
  | 0, _ => 0
  | u9 + 1, v2 => (if 7 ≤ v2 then (k9 v2) else (jl_X0_stepsHold_10 a0 v2 (fun (v_1002 : Int32) => (jl_X0_stepsHold_2 a0  k9 u9 (v2 + 1))) 100 0))
def jt_X0_stepsHold_2 (a0 : Int64)  (t9 : Int32 → Prop) : Nat → Int32 → Prop
  | 0, _ => False
  | u9 + 1, v2 => ¬ v2 < 0 ∧ ((7 ≤ v2 → (t9 v2)) ∧ (¬ (7 ≤ v2) → (jt_X0_stepsHold_10 a0 v2 (fun (v_1002 : Int32) => (jt_X0_stepsHold_2 a0  t9 u9 (v2 + 1))) 100 0)))
set_option maxHeartbeats 4000000 in
set_option maxRecDepth 100000 in
theorem lp_X0_stepsHold_2 {p : Program} {l : Launch} {e : Env} {s : State} {m : MethodId} {args : Array Value} {below : List Frame} {meth : Method} {c : Code} {D : va_G} {cB cJ : ClassId} (a0 : Int64)  (J : Int32) (hx : p.tables.exec = Jvm.exec) (hb : c.code = cX0_stepsHold) (hml : c.maxLocals = 4) (hr : meth.sig.returnType = (some .boolean)) (hlocks : meth.locks = false) (hown : s.vm.findClass RX0 = some m.cls) (hts : ∀ w ∈ wsX0_stepsHold, w.before args s = true) (hE : kE D cB cJ kF s s.heap)  (k9 : Int32 → Int32) (t9 : Int32 → Prop) (kk : ∀ (v2 : Int32) (locs : List Loc) (ls : Array Slot), J = k9 v2 → t9 v2 → va_S kF s.heap s.heap locs → lv_has ls 4 [(0, .long a0), (2, .int v2)] → W p l e rm_X0_stepsHold s m args below meth c s.heap locs 0 0 (MQ below (kQ (kP (some (.int J)) s.heap) kF) args s 0 0 kF) (F0 m 53 ls [])) : ∀ (u9 : Nat) (v2 : Int32) (locs : List Loc) (ls : Array Slot), J = jl_X0_stepsHold_2 a0  k9 u9 v2 → jt_X0_stepsHold_2 a0  t9 u9 v2 → va_S kF s.heap s.heap locs → lv_has ls 4 [(0, .long a0), (2, .int v2)] → W p l e rm_X0_stepsHold s m args below meth c s.heap locs 0 0 (MQ below (kQ (kP (some (.int J)) s.heap) kF) args s 0 0 kF) (F0 m 2 ls []) := by
  have hK := hE.1
  obtain ⟨t3, hZ3, hT3⟩ := hE.2.1.2.2.1
  intro u9
  induction u9 with
  | zero =>
    intro v2 locs ls hJ hT
    exact hT.elim
  | succ u9 ih =>
    intro v2 locs ls hJ hT hS hl
    rw [jl_X0_stepsHold_2] at hJ
    rw [jt_X0_stepsHold_2] at hT
    obtain ⟨hi0, hT⟩ := hT
    refine lv_iload_n hx hb dX0_stepsHold_2 rfl (lv_at hl 1 rfl) ?_
    refine lv_bipush (v := 7) hx hb dX0_stepsHold_3 (by decide) ?_
    refine lv_icmp_ge (tgt := 53) hx hb dX0_stepsHold_5 (by decide) (fun c_1001 => ?_) (fun c_1001 => ?_)
    · exact kk v2 _ _ (hJ.trans (by rw [if_pos c_1001])) (hT.1 c_1001) hS (lv_sub hl [0, 1] rfl)
    · refine lv_iconst (v := 0) hx hb dX0_stepsHold_8 (by decide) ?_
      refine lv_istore_n (lv' := [(3, .int 0), (0, .long a0), (2, .int v2)]) hx hb dX0_stepsHold_9 rfl hl (by decide) rfl (fun ls hl => ?_)
      refine lp_X0_stepsHold_10 a0 v2 J hx hb hml hr hlocks hown hts hE  (fun (v_1002 : Int32) => (jl_X0_stepsHold_2 a0  k9 u9 (v2 + 1))) (fun (v_1002 : Int32) => (jt_X0_stepsHold_2 a0  t9 u9 (v2 + 1))) (fun v_1002 locs ls hJ hT hS hl => ?_) 100 0 _ _ (hJ.trans (by rw [if_neg c_1001])) (hT.2 c_1001) hS (lv_sub hl [1, 2, 0] rfl)
      (try dsimp only at hJ); (try dsimp only at hT)
      refine lv_iinc (v := (v2 + 1)) (lv' := [(2, .int (v2 + 1)), (0, .long a0), (3, .int v_1002)]) hx hb dX0_stepsHold_47 hl (k := 1) rfl rfl (by decide) rfl (fun ls hl => ?_)
      refine lv_goto (tgt := 2) hx hb dX0_stepsHold_50 (by decide) ?_
      exact ih (v2 + 1) _ _ hJ hT hS (lv_sub hl [1, 0] rfl)
def j_X0_stepsHold (a0 : Int64) : Int32 := (jl_X0_stepsHold_2 a0  (fun (v_1 : Int32) => 1) 100 0)
def T_X0_stepsHold (a0 : Int64) : Prop := (jt_X0_stepsHold_2 a0  (fun (v_1 : Int32) => True) 100 0)
set_option maxHeartbeats 4000000 in
set_option maxRecDepth 100000 in
theorem c_X0_stepsHold (l : Launch) (D : va_G) (cB cJ : ClassId) (Hp : Heap)  (a0 : Int64) (hT9 : T_X0_stepsHold a0) : kM l D cB cJ yX0_stepsHold wsX0_stepsHold rm_X0_stepsHold kF Hp [.long a0] (kP (some (.int (j_X0_stepsHold a0))) Hp) 0 0 := by
  refine Met.ofW (cc := cX0_stepsHold) (maxL := 4) (ret := (some .boolean)) (by decide) rfl ?_
  intro p e s m args below meth c s₁ B hml hv
  obtain ⟨rfl, hHp, hE⟩ := hv
  subst hHp
  have hx := B.exec
  have hb := B.bytes
  have hr := B.returns
  have hts := atoms_spec (ws := wsX0_stepsHold) B.pre
  have hown : s.vm.findClass RX0 = some m.cls := findClass_of_methodNamed B.named
  have hlocks := B.notSynchronized
  have hK := hE.1
  have hS : va_S kF s.heap s.heap [] := va_S.rf
  have hl := lv_entry ([.long a0]) (n := 4) (Nat.le_of_ble_eq_true rfl)
  rw [lg_entry_eq]
  generalize (lg_sl ([.long a0]) ++ List.replicate (4 - (lg_sl ([.long a0])).length) Slot.unset).toArray = ls at hl ⊢
  have hl : lv_has ls 4 [(0, .long a0)] := hl
  obtain ⟨t3, hZ3, hT3⟩ := hE.2.1.2.2.1
  have hJ : (j_X0_stepsHold a0) = (jl_X0_stepsHold_2 a0  (fun (v_1 : Int32) => 1) 100 0) := rfl
  have hT : (jt_X0_stepsHold_2 a0  (fun (v_1 : Int32) => True) 100 0) := hT9
  refine lv_iconst (v := 0) hx hb dX0_stepsHold_0 (by decide) ?_
  refine lv_istore_n (lv' := [(2, .int 0), (0, .long a0)]) hx hb dX0_stepsHold_1 rfl hl (by decide) rfl (fun ls hl => ?_)
  refine lp_X0_stepsHold_2 a0  (j_X0_stepsHold a0) hx hb hml hr hlocks hown hts hE  (fun (v_1 : Int32) => 1) (fun (v_1 : Int32) => True) (fun v_1 locs ls hJ hT hS hl => ?_) 100 0 _ _ hJ hT hS (lv_sub hl [1, 0] rfl)
  (try dsimp only at hJ); (try dsimp only at hT)
  refine lv_iconst (v := 1) hx hb dX0_stepsHold_53 (by decide) ?_
  exact k_zret hx hb hr (Or.inr rfl) hlocks hS dX0_stepsHold_54 ⟨by rw [hJ], rfl⟩
theorem jtk_X0_stepsHold_10 (a0 : Int64) (w2 : Int32) (t9 : Int32 → Prop) (h9 : ∀ (v3 : Int32), t9 v3) : ∀ (n k : Nat) (v3 : Int32), v3 = nI k → k ≤ 3 → 3 < n + k → jt_X0_stepsHold_10 a0 w2 t9 n v3 := by
  intro n
  induction n with
  | zero => intro k v3 e h1 h2; exact absurd h2 (by omega)
  | succ n ih =>
    intro k v3 e h1 h2
    subst e
    rw [jt_X0_stepsHold_10]
    rcases Nat.lt_or_ge k 3 with hk | hk
    · repeat' (first | with_reducible exact trivial | with_reducible exact h9 _ | with_reducible exact nI_pos (by omega) | with_reducible exact ih (k + 1) _ (nI_1 k) (by omega) (by omega) | with_reducible refine ⟨?_, ?_⟩ | (with_reducible intro _))
    · obtain rfl : k = 3 := by omega
      repeat' (first | with_reducible exact trivial | with_reducible exact h9 _ | with_reducible exact nI_pos (by omega) | with_reducible refine ⟨?_, ?_⟩ | (with_reducible intro hc; exact absurd (by decide) hc) | (with_reducible intro _))
theorem jtk_X0_stepsHold_2 (a0 : Int64)  (t9 : Int32 → Prop) (h9 : ∀ (v2 : Int32), t9 v2) : ∀ (n k : Nat) (v2 : Int32), v2 = nI k → k ≤ 7 → 7 < n + k → jt_X0_stepsHold_2 a0  t9 n v2 := by
  intro n
  induction n with
  | zero => intro k v2 e h1 h2; exact absurd h2 (by omega)
  | succ n ih =>
    intro k v2 e h1 h2
    subst e
    rw [jt_X0_stepsHold_2]
    rcases Nat.lt_or_ge k 7 with hk | hk
    · repeat' (first | with_reducible exact trivial | with_reducible exact h9 _ | with_reducible exact nI_pos (by omega) | with_reducible exact ih (k + 1) _ (nI_1 k) (by omega) (by omega) | with_reducible refine jtk_X0_stepsHold_10 _ _ _ (fun _ => ?_) 100 0 _ nI_0.symm (by omega) (by omega) | with_reducible refine ⟨?_, ?_⟩ | (with_reducible intro _))
    · obtain rfl : k = 7 := by omega
      repeat' (first | with_reducible exact trivial | with_reducible exact h9 _ | with_reducible exact nI_pos (by omega) | with_reducible refine ⟨?_, ?_⟩ | (with_reducible intro hc; exact absurd (by decide) hc) | (with_reducible intro _))
theorem tk_X0_stepsHold (a0 : Int64) : T_X0_stepsHold a0 := jtk_X0_stepsHold_2 a0  _ (fun _ => by repeat' (first | with_reducible exact trivial | with_reducible refine ⟨?_, ?_⟩ | (with_reducible intro _))) 100 0 _ nI_0.symm (by omega) (by omega)
abbrev rm_X0_cutsHold : Room := { frames := 2, cells := 0, slots := 0, locals := 44 }
def jl_X0_cutsHold_2 (a0 : Int64)  (k9 : Int32 → Int32) : Nat → Int32 → Int32
  | 0, _ => 0
  | u9 + 1, v2 => (if 7 < v2 then (k9 v2) else (if a0 < (j_X0_cutNumber a0 v2) then 0 else (if (j_X0_unitNanos v2) ≤ (a0 - (j_X0_cutNumber a0 v2)) then 0 else (if (j_X0_unitNanos v2) ≤ 0 then 0 else (if ((j_X0_cutNumber a0 v2) - ((j_X0_cutNumber a0 v2) / (j_X0_unitNanos v2)) * (j_X0_unitNanos v2)) = 0 then (jl_X0_cutsHold_2 a0  k9 u9 (v2 + 1)) else 0)))))
def jt_X0_cutsHold_2 (a0 : Int64)  (t9 : Int32 → Prop) : Nat → Int32 → Prop
  | 0, _ => False
  | u9 + 1, v2 => ¬ v2 < 0 ∧ ((7 < v2 → (t9 v2)) ∧ (¬ (7 < v2) → ((a0 < (j_X0_cutNumber a0 v2) → True) ∧ (¬ (a0 < (j_X0_cutNumber a0 v2)) → (((j_X0_unitNanos v2) ≤ (a0 - (j_X0_cutNumber a0 v2)) → True) ∧ (¬ ((j_X0_unitNanos v2) ≤ (a0 - (j_X0_cutNumber a0 v2))) → (((j_X0_unitNanos v2) ≤ 0 → True) ∧ (¬ ((j_X0_unitNanos v2) ≤ 0) → ((((j_X0_cutNumber a0 v2) - ((j_X0_cutNumber a0 v2) / (j_X0_unitNanos v2)) * (j_X0_unitNanos v2)) = 0 → (jt_X0_cutsHold_2 a0  t9 u9 (v2 + 1))) ∧ (¬ (((j_X0_cutNumber a0 v2) - ((j_X0_cutNumber a0 v2) / (j_X0_unitNanos v2)) * (j_X0_unitNanos v2)) = 0) → True))))))))))
set_option maxHeartbeats 4000000 in
set_option maxRecDepth 100000 in
theorem lp_X0_cutsHold_2 {p : Program} {l : Launch} {e : Env} {s : State} {m : MethodId} {args : Array Value} {below : List Frame} {meth : Method} {c : Code} {D : va_G} {cB cJ : ClassId} (a0 : Int64)  (J : Int32) (hx : p.tables.exec = Jvm.exec) (hb : c.code = cX0_cutsHold) (hml : c.maxLocals = 7) (hr : meth.sig.returnType = (some .boolean)) (hlocks : meth.locks = false) (hown : s.vm.findClass RX0 = some m.cls) (hts : ∀ w ∈ wsX0_cutsHold, w.before args s = true) (hE : kE D cB cJ kF s s.heap)  (k9 : Int32 → Int32) (t9 : Int32 → Prop) (kk : ∀ (v2 : Int32) (locs : List Loc) (ls : Array Slot), J = k9 v2 → t9 v2 → va_S kF s.heap s.heap locs → lv_has ls 7 [(0, .long a0), (2, .int v2)] → W p l e rm_X0_cutsHold s m args below meth c s.heap locs 0 0 (MQ below (kQ (kP (some (.int J)) s.heap) kF) args s 0 0 kF) (F0 m 59 ls [])) : ∀ (u9 : Nat) (v2 : Int32) (locs : List Loc) (ls : Array Slot), J = jl_X0_cutsHold_2 a0  k9 u9 v2 → jt_X0_cutsHold_2 a0  t9 u9 v2 → va_S kF s.heap s.heap locs → lv_has ls 7 [(0, .long a0), (2, .int v2)] → W p l e rm_X0_cutsHold s m args below meth c s.heap locs 0 0 (MQ below (kQ (kP (some (.int J)) s.heap) kF) args s 0 0 kF) (F0 m 2 ls []) := by
  have hK := hE.1
  intro u9
  induction u9 with
  | zero =>
    intro v2 locs ls hJ hT
    exact hT.elim
  | succ u9 ih =>
    intro v2 locs ls hJ hT hS hl
    rw [jl_X0_cutsHold_2] at hJ
    rw [jt_X0_cutsHold_2] at hT
    obtain ⟨hi0, hT⟩ := hT
    refine lv_iload_n hx hb dX0_cutsHold_2 rfl (lv_at hl 1 rfl) ?_
    refine lv_bipush (v := 7) hx hb dX0_cutsHold_3 (by decide) ?_
    refine lv_icmp_gt (tgt := 59) hx hb dX0_cutsHold_5 (by decide) (fun c_1001 => ?_) (fun c_1001 => ?_)
    · exact kk v2 _ _ (hJ.trans (by rw [if_pos c_1001])) (hT.1 c_1001) hS (lv_sub hl [0, 1] rfl)
    · refine lv_iload_n hx hb dX0_cutsHold_8 rfl (lv_at hl 1 rfl) ?_
      refine k_pS [.int v2] (rest := []) ⟨hx, hb, hml, hown, hts⟩ (c_X0_unitNanos l D cB cJ _ v2) (va_cwS 1 hts gX0_cutsHold_X0_unitNanos rfl rfl rfl (by decide +kernel) ⟨(Nat.le_of_ble_eq_true rfl), (Nat.le_of_ble_eq_true rfl)⟩) hE hS rfl rfl hl.1 (Nat.le_of_ble_eq_true rfl) dX0_cutsHold_9 ⟨(Nat.le_of_ble_eq_true rfl), (Nat.le_of_ble_eq_true rfl)⟩ (fun locs hS => ?_)
      refine W.eq (g2 := F0 m 12 ls [.long (j_X0_unitNanos v2)]) rfl ?_
      refine lv_lstore_n (lv' := [(3, .long (j_X0_unitNanos v2)), (0, .long a0), (2, .int v2)]) hx hb dX0_cutsHold_12 rfl hl (by decide) rfl (fun ls hl => ?_)
      refine lv_lload_n hx hb dX0_cutsHold_13 rfl (lv_at hl 1 rfl) ?_
      refine lv_iload_n hx hb dX0_cutsHold_14 rfl (lv_at hl 2 rfl) ?_
      refine k_pS [.long a0, .int v2] (rest := []) ⟨hx, hb, hml, hown, hts⟩ (c_X0_cutNumber l D cB cJ _ a0 v2) (va_cwS 2 hts gX0_cutsHold_X0_cutNumber rfl rfl rfl (by decide +kernel) ⟨(Nat.le_of_ble_eq_true rfl), (Nat.le_of_ble_eq_true rfl)⟩) hE hS rfl rfl hl.1 (Nat.le_of_ble_eq_true rfl) dX0_cutsHold_15 ⟨(Nat.le_of_ble_eq_true rfl), (Nat.le_of_ble_eq_true rfl)⟩ (fun locs hS => ?_)
      refine W.eq (g2 := F0 m 18 ls [.long (j_X0_cutNumber a0 v2)]) rfl ?_
      refine lv_lstore (lv' := [(5, .long (j_X0_cutNumber a0 v2)), (3, .long (j_X0_unitNanos v2)), (0, .long a0), (2, .int v2)]) hx hb dX0_cutsHold_18 hl (by decide) rfl (fun ls hl => ?_)
      refine lv_lload hx hb dX0_cutsHold_20 (lv_at hl 0 rfl) ?_
      refine lv_lload_n hx hb dX0_cutsHold_22 rfl (lv_at hl 2 rfl) ?_
      refine kl_gt (tgt := 51) hx hb dX0_cutsHold_23 dX0_cutsHold_24 (by decide) (fun c_1002 => ?_) (fun c_1002 => ?_)
      · refine lv_iconst (v := 0) hx hb dX0_cutsHold_51 (by decide) ?_
        exact k_zret hx hb hr (Or.inl rfl) hlocks hS dX0_cutsHold_52 ⟨by rw [hJ, if_neg c_1001, if_pos c_1002], rfl⟩
      · refine lv_lload_n hx hb dX0_cutsHold_27 rfl (lv_at hl 2 rfl) ?_
        refine lv_lload hx hb dX0_cutsHold_28 (lv_at hl 0 rfl) ?_
        refine lv_lsub hx hb dX0_cutsHold_30 ?_
        refine lv_lload_n hx hb dX0_cutsHold_31 rfl (lv_at hl 1 rfl) ?_
        refine kl_ge (tgt := 51) hx hb dX0_cutsHold_32 dX0_cutsHold_33 (by decide) (fun c_1003 => ?_) (fun c_1003 => ?_)
        · refine lv_iconst (v := 0) hx hb dX0_cutsHold_51 (by decide) ?_
          exact k_zret hx hb hr (Or.inl rfl) hlocks hS dX0_cutsHold_52 ⟨by rw [hJ, if_neg c_1001, if_neg c_1002, if_pos c_1003], rfl⟩
        · refine lv_lload_n hx hb dX0_cutsHold_36 rfl (lv_at hl 1 rfl) ?_
          refine lv_lconst (v := 0) hx hb dX0_cutsHold_37 (by decide) ?_
          refine kl_le (tgt := 51) hx hb dX0_cutsHold_38 dX0_cutsHold_39 (by decide) (fun c_1004 => ?_) (fun c_1004 => ?_)
          · refine lv_iconst (v := 0) hx hb dX0_cutsHold_51 (by decide) ?_
            exact k_zret hx hb hr (Or.inl rfl) hlocks hS dX0_cutsHold_52 ⟨by rw [hJ, if_neg c_1001, if_neg c_1002, if_neg c_1003, if_pos c_1004], rfl⟩
          · refine lv_lload hx hb dX0_cutsHold_42 (lv_at hl 0 rfl) ?_
            refine lv_lload_n hx hb dX0_cutsHold_44 rfl (lv_at hl 1 rfl) ?_
            refine lv_lrem hx hb dX0_cutsHold_45 (k_nz2 c_1004) ?_
            refine lv_lconst (v := 0) hx hb dX0_cutsHold_46 (by decide) ?_
            refine kl_eq (tgt := 53) hx hb dX0_cutsHold_47 dX0_cutsHold_48 (by decide) (fun c_1005 => ?_) (fun c_1005 => ?_)
            · refine lv_iinc (v := (v2 + 1)) (lv' := [(2, .int (v2 + 1)), (5, .long (j_X0_cutNumber a0 v2)), (3, .long (j_X0_unitNanos v2)), (0, .long a0)]) hx hb dX0_cutsHold_53 hl (k := 3) rfl rfl (by decide) rfl (fun ls hl => ?_)
              refine lv_goto (tgt := 2) hx hb dX0_cutsHold_56 (by decide) ?_
              exact ih (v2 + 1) _ _ (hJ.trans (by rw [if_neg c_1001, if_neg c_1002, if_neg c_1003, if_neg c_1004, if_pos c_1005])) (((((hT.2 c_1001).2 c_1002).2 c_1003).2 c_1004).1 c_1005) hS (lv_sub hl [3, 0] rfl)
            · refine lv_iconst (v := 0) hx hb dX0_cutsHold_51 (by decide) ?_
              exact k_zret hx hb hr (Or.inl rfl) hlocks hS dX0_cutsHold_52 ⟨by rw [hJ, if_neg c_1001, if_neg c_1002, if_neg c_1003, if_neg c_1004, if_neg c_1005], rfl⟩
def j_X0_cutsHold (a0 : Int64) : Int32 := (jl_X0_cutsHold_2 a0  (fun (v_1 : Int32) => 1) 100 0)
def T_X0_cutsHold (a0 : Int64) : Prop := (jt_X0_cutsHold_2 a0  (fun (v_1 : Int32) => True) 100 0)
set_option maxHeartbeats 4000000 in
set_option maxRecDepth 100000 in
theorem c_X0_cutsHold (l : Launch) (D : va_G) (cB cJ : ClassId) (Hp : Heap)  (a0 : Int64) (hT9 : T_X0_cutsHold a0) : kM l D cB cJ yX0_cutsHold wsX0_cutsHold rm_X0_cutsHold kF Hp [.long a0] (kP (some (.int (j_X0_cutsHold a0))) Hp) 0 0 := by
  refine Met.ofW (cc := cX0_cutsHold) (maxL := 7) (ret := (some .boolean)) (by decide) rfl ?_
  intro p e s m args below meth c s₁ B hml hv
  obtain ⟨rfl, hHp, hE⟩ := hv
  subst hHp
  have hx := B.exec
  have hb := B.bytes
  have hr := B.returns
  have hts := atoms_spec (ws := wsX0_cutsHold) B.pre
  have hown : s.vm.findClass RX0 = some m.cls := findClass_of_methodNamed B.named
  have hlocks := B.notSynchronized
  have hK := hE.1
  have hS : va_S kF s.heap s.heap [] := va_S.rf
  have hl := lv_entry ([.long a0]) (n := 7) (Nat.le_of_ble_eq_true rfl)
  rw [lg_entry_eq]
  generalize (lg_sl ([.long a0]) ++ List.replicate (7 - (lg_sl ([.long a0])).length) Slot.unset).toArray = ls at hl ⊢
  have hl : lv_has ls 7 [(0, .long a0)] := hl
  have hJ : (j_X0_cutsHold a0) = (jl_X0_cutsHold_2 a0  (fun (v_1 : Int32) => 1) 100 0) := rfl
  have hT : (jt_X0_cutsHold_2 a0  (fun (v_1 : Int32) => True) 100 0) := hT9
  refine lv_iconst (v := 0) hx hb dX0_cutsHold_0 (by decide) ?_
  refine lv_istore_n (lv' := [(2, .int 0), (0, .long a0)]) hx hb dX0_cutsHold_1 rfl hl (by decide) rfl (fun ls hl => ?_)
  refine lp_X0_cutsHold_2 a0  (j_X0_cutsHold a0) hx hb hml hr hlocks hown hts hE  (fun (v_1 : Int32) => 1) (fun (v_1 : Int32) => True) (fun v_1 locs ls hJ hT hS hl => ?_) 100 0 _ _ hJ hT hS (lv_sub hl [1, 0] rfl)
  (try dsimp only at hJ); (try dsimp only at hT)
  refine lv_iconst (v := 1) hx hb dX0_cutsHold_59 (by decide) ?_
  exact k_zret hx hb hr (Or.inr rfl) hlocks hS dX0_cutsHold_60 ⟨by rw [hJ], rfl⟩
theorem jtk_X0_cutsHold_2 (a0 : Int64)  (t9 : Int32 → Prop) (h9 : ∀ (v2 : Int32), t9 v2) : ∀ (n k : Nat) (v2 : Int32), v2 = nI k → k ≤ 8 → 8 < n + k → jt_X0_cutsHold_2 a0  t9 n v2 := by
  intro n
  induction n with
  | zero => intro k v2 e h1 h2; exact absurd h2 (by omega)
  | succ n ih =>
    intro k v2 e h1 h2
    subst e
    rw [jt_X0_cutsHold_2]
    rcases Nat.lt_or_ge k 8 with hk | hk
    · repeat' (first | with_reducible exact trivial | with_reducible exact h9 _ | with_reducible exact nI_pos (by omega) | with_reducible exact ih (k + 1) _ (nI_1 k) (by omega) (by omega) | with_reducible refine ⟨?_, ?_⟩ | (with_reducible intro _))
    · obtain rfl : k = 8 := by omega
      repeat' (first | with_reducible exact trivial | with_reducible exact h9 _ | with_reducible exact nI_pos (by omega) | with_reducible refine ⟨?_, ?_⟩ | (with_reducible intro hc; exact absurd (by decide) hc) | (with_reducible intro _))
theorem tk_X0_cutsHold (a0 : Int64) : T_X0_cutsHold a0 := jtk_X0_cutsHold_2 a0  _ (fun _ => by repeat' (first | with_reducible exact trivial | with_reducible refine ⟨?_, ?_⟩ | (with_reducible intro _))) 100 0 _ nI_0.symm (by omega) (by omega)
abbrev rm_X0_comparedByParts : Room := { frames := 1, cells := 0, slots := 0, locals := 23 }
def jl_X0_comparedByParts_3 (a0 : Int64) (a2 : Int64)  (k9 : Int32 → Int32) : Nat → Int32 → Int32
  | 0, _ => 0
  | u9 + 1, v4 => (if 3 < v4 then (k9 v4) else (if (j_X0_sideOf ((j_X0_partOf a0 v4).toInt64) ((j_X0_partOf a2 v4).toInt64)) = 0 then (jl_X0_comparedByParts_3 a0 a2  k9 u9 (v4 + 1)) else (j_X0_sideOf ((j_X0_partOf a0 v4).toInt64) ((j_X0_partOf a2 v4).toInt64))))
def jt_X0_comparedByParts_3 (a0 : Int64) (a2 : Int64)  (t9 : Int32 → Prop) : Nat → Int32 → Prop
  | 0, _ => False
  | u9 + 1, v4 => ((3 < v4 → (t9 v4)) ∧ (¬ (3 < v4) → (((j_X0_sideOf ((j_X0_partOf a0 v4).toInt64) ((j_X0_partOf a2 v4).toInt64)) = 0 → (jt_X0_comparedByParts_3 a0 a2  t9 u9 (v4 + 1))) ∧ (¬ ((j_X0_sideOf ((j_X0_partOf a0 v4).toInt64) ((j_X0_partOf a2 v4).toInt64)) = 0) → True))))
set_option maxHeartbeats 4000000 in
set_option maxRecDepth 100000 in
theorem lp_X0_comparedByParts_3 {p : Program} {l : Launch} {e : Env} {s : State} {m : MethodId} {args : Array Value} {below : List Frame} {meth : Method} {c : Code} {D : va_G} {cB cJ : ClassId} (a0 : Int64) (a2 : Int64)  (J : Int32) (hx : p.tables.exec = Jvm.exec) (hb : c.code = cX0_comparedByParts) (hml : c.maxLocals = 6) (hr : meth.sig.returnType = (some .int)) (hlocks : meth.locks = false) (hown : s.vm.findClass RX0 = some m.cls) (hts : ∀ w ∈ wsX0_comparedByParts, w.before args s = true) (hE : kE D cB cJ kF s s.heap)  (k9 : Int32 → Int32) (t9 : Int32 → Prop) (kk : ∀ (v4 : Int32) (locs : List Loc) (ls : Array Slot), J = k9 v4 → t9 v4 → va_S kF s.heap s.heap locs → lv_has ls 6 [(0, .long a0), (2, .long a2), (4, .int v4)] → W p l e rm_X0_comparedByParts s m args below meth c s.heap locs 0 0 (MQ below (kQ (kP (some (.int J)) s.heap) kF) args s 0 0 kF) (F0 m 42 ls [])) : ∀ (u9 : Nat) (v4 : Int32) (locs : List Loc) (ls : Array Slot), J = jl_X0_comparedByParts_3 a0 a2  k9 u9 v4 → jt_X0_comparedByParts_3 a0 a2  t9 u9 v4 → va_S kF s.heap s.heap locs → lv_has ls 6 [(0, .long a0), (2, .long a2), (4, .int v4)] → W p l e rm_X0_comparedByParts s m args below meth c s.heap locs 0 0 (MQ below (kQ (kP (some (.int J)) s.heap) kF) args s 0 0 kF) (F0 m 3 ls []) := by
  have hK := hE.1
  intro u9
  induction u9 with
  | zero =>
    intro v4 locs ls hJ hT
    exact hT.elim
  | succ u9 ih =>
    intro v4 locs ls hJ hT hS hl
    rw [jl_X0_comparedByParts_3] at hJ
    rw [jt_X0_comparedByParts_3] at hT
    refine lv_iload hx hb dX0_comparedByParts_3 (lv_at hl 2 rfl) ?_
    refine lv_iconst (v := 3) hx hb dX0_comparedByParts_5 (by decide) ?_
    refine lv_icmp_gt (tgt := 42) hx hb dX0_comparedByParts_6 (by decide) (fun c_1001 => ?_) (fun c_1001 => ?_)
    · exact kk v4 _ _ (hJ.trans (by rw [if_pos c_1001])) (hT.1 c_1001) hS (lv_sub hl [0, 1, 2] rfl)
    · refine lv_lload_n hx hb dX0_comparedByParts_9 rfl (lv_at hl 0 rfl) ?_
      refine lv_iload hx hb dX0_comparedByParts_10 (lv_at hl 2 rfl) ?_
      refine k_pS [.long a0, .int v4] (rest := []) ⟨hx, hb, hml, hown, hts⟩ (c_X0_partOf l D cB cJ _ a0 v4) (va_cwS 2 hts gX0_comparedByParts_X0_partOf rfl rfl rfl (by decide +kernel) ⟨(Nat.le_of_ble_eq_true rfl), (Nat.le_of_ble_eq_true rfl)⟩) hE hS rfl rfl hl.1 (Nat.le_of_ble_eq_true rfl) dX0_comparedByParts_12 ⟨(Nat.le_of_ble_eq_true rfl), (Nat.le_of_ble_eq_true rfl)⟩ (fun locs hS => ?_)
      refine W.eq (g2 := F0 m 15 ls [.int (j_X0_partOf a0 v4)]) rfl ?_
      refine lv_i2l (v := (j_X0_partOf a0 v4).toInt64) hx hb dX0_comparedByParts_15 rfl ?_
      refine lv_lload_n hx hb dX0_comparedByParts_16 rfl (lv_at hl 1 rfl) ?_
      refine lv_iload hx hb dX0_comparedByParts_17 (lv_at hl 2 rfl) ?_
      refine k_pS [.long a2, .int v4] (rest := [.long ((j_X0_partOf a0 v4).toInt64)]) ⟨hx, hb, hml, hown, hts⟩ (c_X0_partOf l D cB cJ _ a2 v4) (va_cwS 2 hts gX0_comparedByParts_X0_partOf rfl rfl rfl (by decide +kernel) ⟨(Nat.le_of_ble_eq_true rfl), (Nat.le_of_ble_eq_true rfl)⟩) hE hS rfl rfl hl.1 (Nat.le_of_ble_eq_true rfl) dX0_comparedByParts_19 ⟨(Nat.le_of_ble_eq_true rfl), (Nat.le_of_ble_eq_true rfl)⟩ (fun locs hS => ?_)
      refine W.eq (g2 := F0 m 22 ls [.int (j_X0_partOf a2 v4), .long ((j_X0_partOf a0 v4).toInt64)]) rfl ?_
      refine lv_i2l (v := (j_X0_partOf a2 v4).toInt64) hx hb dX0_comparedByParts_22 rfl ?_
      refine k_pS [.long ((j_X0_partOf a0 v4).toInt64), .long ((j_X0_partOf a2 v4).toInt64)] (rest := []) ⟨hx, hb, hml, hown, hts⟩ (c_X0_sideOf l D cB cJ _ ((j_X0_partOf a0 v4).toInt64) ((j_X0_partOf a2 v4).toInt64)) (va_cwS 2 hts gX0_comparedByParts_X0_sideOf rfl rfl rfl (by decide +kernel) ⟨(Nat.le_of_ble_eq_true rfl), (Nat.le_of_ble_eq_true rfl)⟩) hE hS rfl rfl hl.1 (Nat.le_of_ble_eq_true rfl) dX0_comparedByParts_23 ⟨(Nat.le_of_ble_eq_true rfl), (Nat.le_of_ble_eq_true rfl)⟩ (fun locs hS => ?_)
      refine W.eq (g2 := F0 m 26 ls [.int (j_X0_sideOf ((j_X0_partOf a0 v4).toInt64) ((j_X0_partOf a2 v4).toInt64))]) rfl ?_
      refine lv_istore (lv' := [(5, .int (j_X0_sideOf ((j_X0_partOf a0 v4).toInt64) ((j_X0_partOf a2 v4).toInt64))), (0, .long a0), (2, .long a2), (4, .int v4)]) hx hb dX0_comparedByParts_26 hl (by decide) rfl (fun ls hl => ?_)
      refine lv_iload hx hb dX0_comparedByParts_28 (lv_at hl 0 rfl) ?_
      refine lv_if_eq (tgt := 36) hx hb dX0_comparedByParts_30 (by decide) (fun c_1002 => ?_) (fun c_1002 => ?_)
      · refine lv_iinc (v := (v4 + 1)) (lv' := [(4, .int (v4 + 1)), (5, .int (j_X0_sideOf ((j_X0_partOf a0 v4).toInt64) ((j_X0_partOf a2 v4).toInt64))), (0, .long a0), (2, .long a2)]) hx hb dX0_comparedByParts_36 hl (k := 3) rfl rfl (by decide) rfl (fun ls hl => ?_)
        refine lv_goto (tgt := 3) hx hb dX0_comparedByParts_39 (by decide) ?_
        exact ih (v4 + 1) _ _ (hJ.trans (by rw [if_neg c_1001, if_pos c_1002])) ((hT.2 c_1001).1 c_1002) hS (lv_sub hl [2, 3, 0] rfl)
      · refine lv_iload hx hb dX0_comparedByParts_33 (lv_at hl 0 rfl) ?_
        exact k_iret hx hb hr hlocks hS dX0_comparedByParts_35 ⟨by rw [hJ, if_neg c_1001, if_neg c_1002], rfl⟩
def j_X0_comparedByParts (a0 : Int64) (a2 : Int64) : Int32 := (jl_X0_comparedByParts_3 a0 a2  (fun (v_1 : Int32) => 0) 100 0)
def T_X0_comparedByParts (a0 : Int64) (a2 : Int64) : Prop := (jt_X0_comparedByParts_3 a0 a2  (fun (v_1 : Int32) => True) 100 0)
set_option maxHeartbeats 4000000 in
set_option maxRecDepth 100000 in
theorem c_X0_comparedByParts (l : Launch) (D : va_G) (cB cJ : ClassId) (Hp : Heap)  (a0 : Int64) (a2 : Int64) (hT9 : T_X0_comparedByParts a0 a2) : kM l D cB cJ yX0_comparedByParts wsX0_comparedByParts rm_X0_comparedByParts kF Hp [.long a0, .long a2] (kP (some (.int (j_X0_comparedByParts a0 a2))) Hp) 0 0 := by
  refine Met.ofW (cc := cX0_comparedByParts) (maxL := 6) (ret := (some .int)) (by decide) rfl ?_
  intro p e s m args below meth c s₁ B hml hv
  obtain ⟨rfl, hHp, hE⟩ := hv
  subst hHp
  have hx := B.exec
  have hb := B.bytes
  have hr := B.returns
  have hts := atoms_spec (ws := wsX0_comparedByParts) B.pre
  have hown : s.vm.findClass RX0 = some m.cls := findClass_of_methodNamed B.named
  have hlocks := B.notSynchronized
  have hK := hE.1
  have hS : va_S kF s.heap s.heap [] := va_S.rf
  have hl := lv_entry ([.long a0, .long a2]) (n := 6) (Nat.le_of_ble_eq_true rfl)
  rw [lg_entry_eq]
  generalize (lg_sl ([.long a0, .long a2]) ++ List.replicate (6 - (lg_sl ([.long a0, .long a2])).length) Slot.unset).toArray = ls at hl ⊢
  have hl : lv_has ls 6 [(0, .long a0), (2, .long a2)] := hl
  have hJ : (j_X0_comparedByParts a0 a2) = (jl_X0_comparedByParts_3 a0 a2  (fun (v_1 : Int32) => 0) 100 0) := rfl
  have hT : (jt_X0_comparedByParts_3 a0 a2  (fun (v_1 : Int32) => True) 100 0) := hT9
  refine lv_iconst (v := 0) hx hb dX0_comparedByParts_0 (by decide) ?_
  refine lv_istore (lv' := [(4, .int 0), (0, .long a0), (2, .long a2)]) hx hb dX0_comparedByParts_1 hl (by decide) rfl (fun ls hl => ?_)
  refine lp_X0_comparedByParts_3 a0 a2  (j_X0_comparedByParts a0 a2) hx hb hml hr hlocks hown hts hE  (fun (v_1 : Int32) => 0) (fun (v_1 : Int32) => True) (fun v_1 locs ls hJ hT hS hl => ?_) 100 0 _ _ hJ hT hS (lv_sub hl [1, 2, 0] rfl)
  (try dsimp only at hJ); (try dsimp only at hT)
  refine lv_iconst (v := 0) hx hb dX0_comparedByParts_42 (by decide) ?_
  exact k_iret hx hb hr hlocks hS dX0_comparedByParts_43 ⟨by rw [hJ], rfl⟩
theorem jtk_X0_comparedByParts_3 (a0 : Int64) (a2 : Int64)  (t9 : Int32 → Prop) (h9 : ∀ (v4 : Int32), t9 v4) : ∀ (n k : Nat) (v4 : Int32), v4 = nI k → k ≤ 4 → 4 < n + k → jt_X0_comparedByParts_3 a0 a2  t9 n v4 := by
  intro n
  induction n with
  | zero => intro k v4 e h1 h2; exact absurd h2 (by omega)
  | succ n ih =>
    intro k v4 e h1 h2
    subst e
    rw [jt_X0_comparedByParts_3]
    rcases Nat.lt_or_ge k 4 with hk | hk
    · repeat' (first | with_reducible exact trivial | with_reducible exact h9 _ | with_reducible exact nI_pos (by omega) | with_reducible exact ih (k + 1) _ (nI_1 k) (by omega) (by omega) | with_reducible refine ⟨?_, ?_⟩ | (with_reducible intro _))
    · obtain rfl : k = 4 := by omega
      repeat' (first | with_reducible exact trivial | with_reducible exact h9 _ | with_reducible exact nI_pos (by omega) | with_reducible refine ⟨?_, ?_⟩ | (with_reducible intro hc; exact absurd (by decide) hc) | (with_reducible intro _))
theorem tk_X0_comparedByParts (a0 : Int64) (a2 : Int64) : T_X0_comparedByParts a0 a2 := jtk_X0_comparedByParts_3 a0 a2  _ (fun _ => by repeat' (first | with_reducible exact trivial | with_reducible refine ⟨?_, ?_⟩ | (with_reducible intro _))) 100 0 _ nI_0.symm (by omega) (by omega)
abbrev rm_X0_pairHolds : Room := { frames := 2, cells := 0, slots := 0, locals := 58 }
def jl_X0_pairHolds_18 (a0 : Int64) (a2 : Int64)  (k9 : Int32 → Int32) : Nat → Int32 → Int32
  | 0, _ => 0
  | u9 + 1, v4 => (if 7 ≤ v4 then (k9 v4) else (if (j_X0_betweenHolds (a2 - a0) (j_X0_unitsBetween a0 a2 v4) (j_X0_unitNanos v4)) = 0 then 0 else (jl_X0_pairHolds_18 a0 a2  k9 u9 (v4 + 1))))
def jt_X0_pairHolds_18 (a0 : Int64) (a2 : Int64)  (t9 : Int32 → Prop) : Nat → Int32 → Prop
  | 0, _ => False
  | u9 + 1, v4 => ¬ v4 < 0 ∧ ((7 ≤ v4 → (t9 v4)) ∧ (¬ (7 ≤ v4) → (((j_X0_betweenHolds (a2 - a0) (j_X0_unitsBetween a0 a2 v4) (j_X0_unitNanos v4)) = 0 → True) ∧ (¬ ((j_X0_betweenHolds (a2 - a0) (j_X0_unitsBetween a0 a2 v4) (j_X0_unitNanos v4)) = 0) → (jt_X0_pairHolds_18 a0 a2  t9 u9 (v4 + 1))))))
set_option maxHeartbeats 4000000 in
set_option maxRecDepth 100000 in
theorem lp_X0_pairHolds_18 {p : Program} {l : Launch} {e : Env} {s : State} {m : MethodId} {args : Array Value} {below : List Frame} {meth : Method} {c : Code} {D : va_G} {cB cJ : ClassId} (a0 : Int64) (a2 : Int64)  (J : Int32) (hx : p.tables.exec = Jvm.exec) (hb : c.code = cX0_pairHolds) (hml : c.maxLocals = 5) (hr : meth.sig.returnType = (some .boolean)) (hlocks : meth.locks = false) (hown : s.vm.findClass RX0 = some m.cls) (hts : ∀ w ∈ wsX0_pairHolds, w.before args s = true) (hE : kE D cB cJ kF s s.heap)  (k9 : Int32 → Int32) (t9 : Int32 → Prop) (kk : ∀ (v4 : Int32) (locs : List Loc) (ls : Array Slot), J = k9 v4 → t9 v4 → va_S kF s.heap s.heap locs → lv_has ls 5 [(0, .long a0), (2, .long a2), (4, .int v4)] → W p l e rm_X0_pairHolds s m args below meth c s.heap locs 0 0 (MQ below (kQ (kP (some (.int J)) s.heap) kF) args s 0 0 kF) (F0 m 54 ls [])) : ∀ (u9 : Nat) (v4 : Int32) (locs : List Loc) (ls : Array Slot), J = jl_X0_pairHolds_18 a0 a2  k9 u9 v4 → jt_X0_pairHolds_18 a0 a2  t9 u9 v4 → va_S kF s.heap s.heap locs → lv_has ls 5 [(0, .long a0), (2, .long a2), (4, .int v4)] → W p l e rm_X0_pairHolds s m args below meth c s.heap locs 0 0 (MQ below (kQ (kP (some (.int J)) s.heap) kF) args s 0 0 kF) (F0 m 18 ls []) := by
  have hK := hE.1
  intro u9
  induction u9 with
  | zero =>
    intro v4 locs ls hJ hT
    exact hT.elim
  | succ u9 ih =>
    intro v4 locs ls hJ hT hS hl
    rw [jl_X0_pairHolds_18] at hJ
    rw [jt_X0_pairHolds_18] at hT
    obtain ⟨hi0, hT⟩ := hT
    refine lv_iload hx hb dX0_pairHolds_18 (lv_at hl 2 rfl) ?_
    refine lv_bipush (v := 7) hx hb dX0_pairHolds_20 (by decide) ?_
    refine lv_icmp_ge (tgt := 54) hx hb dX0_pairHolds_22 (by decide) (fun c_1002 => ?_) (fun c_1002 => ?_)
    · exact kk v4 _ _ (hJ.trans (by rw [if_pos c_1002])) (hT.1 c_1002) hS (lv_sub hl [0, 1, 2] rfl)
    · refine lv_lload_n hx hb dX0_pairHolds_25 rfl (lv_at hl 1 rfl) ?_
      refine lv_lload_n hx hb dX0_pairHolds_26 rfl (lv_at hl 0 rfl) ?_
      refine lv_lsub hx hb dX0_pairHolds_27 ?_
      refine lv_lload_n hx hb dX0_pairHolds_28 rfl (lv_at hl 0 rfl) ?_
      refine lv_lload_n hx hb dX0_pairHolds_29 rfl (lv_at hl 1 rfl) ?_
      refine lv_iload hx hb dX0_pairHolds_30 (lv_at hl 2 rfl) ?_
      refine k_pS [.long a0, .long a2, .int v4] (rest := [.long (a2 - a0)]) ⟨hx, hb, hml, hown, hts⟩ (c_X0_unitsBetween l D cB cJ _ a0 a2 v4) (va_cwS 3 hts gX0_pairHolds_X0_unitsBetween rfl rfl rfl (by decide +kernel) ⟨(Nat.le_of_ble_eq_true rfl), (Nat.le_of_ble_eq_true rfl)⟩) hE hS rfl rfl hl.1 (Nat.le_of_ble_eq_true rfl) dX0_pairHolds_32 ⟨(Nat.le_of_ble_eq_true rfl), (Nat.le_of_ble_eq_true rfl)⟩ (fun locs hS => ?_)
      refine W.eq (g2 := F0 m 35 ls [.long (j_X0_unitsBetween a0 a2 v4), .long (a2 - a0)]) rfl ?_
      refine lv_iload hx hb dX0_pairHolds_35 (lv_at hl 2 rfl) ?_
      refine k_pS [.int v4] (rest := [.long (j_X0_unitsBetween a0 a2 v4), .long (a2 - a0)]) ⟨hx, hb, hml, hown, hts⟩ (c_X0_unitNanos l D cB cJ _ v4) (va_cwS 1 hts gX0_pairHolds_X0_unitNanos rfl rfl rfl (by decide +kernel) ⟨(Nat.le_of_ble_eq_true rfl), (Nat.le_of_ble_eq_true rfl)⟩) hE hS rfl rfl hl.1 (Nat.le_of_ble_eq_true rfl) dX0_pairHolds_37 ⟨(Nat.le_of_ble_eq_true rfl), (Nat.le_of_ble_eq_true rfl)⟩ (fun locs hS => ?_)
      refine W.eq (g2 := F0 m 40 ls [.long (j_X0_unitNanos v4), .long (j_X0_unitsBetween a0 a2 v4), .long (a2 - a0)]) rfl ?_
      refine k_pS [.long (a2 - a0), .long (j_X0_unitsBetween a0 a2 v4), .long (j_X0_unitNanos v4)] (rest := []) ⟨hx, hb, hml, hown, hts⟩ (c_X0_betweenHolds l D cB cJ _ (a2 - a0) (j_X0_unitsBetween a0 a2 v4) (j_X0_unitNanos v4)) (va_cwS 3 hts gX0_pairHolds_X0_betweenHolds rfl rfl rfl (by decide +kernel) ⟨(Nat.le_of_ble_eq_true rfl), (Nat.le_of_ble_eq_true rfl)⟩) hE hS rfl rfl hl.1 (Nat.le_of_ble_eq_true rfl) dX0_pairHolds_40 ⟨(Nat.le_of_ble_eq_true rfl), (Nat.le_of_ble_eq_true rfl)⟩ (fun locs hS => ?_)
      refine W.eq (g2 := F0 m 43 ls [.int (j_X0_betweenHolds (a2 - a0) (j_X0_unitsBetween a0 a2 v4) (j_X0_unitNanos v4))]) rfl ?_
      refine lv_if_ne (tgt := 48) hx hb dX0_pairHolds_43 (by decide) (fun c_1003 => ?_) (fun c_1003 => ?_)
      · refine lv_iinc (v := (v4 + 1)) (lv' := [(4, .int (v4 + 1)), (0, .long a0), (2, .long a2)]) hx hb dX0_pairHolds_48 hl (k := 2) rfl rfl (by decide) rfl (fun ls hl => ?_)
        refine lv_goto (tgt := 18) hx hb dX0_pairHolds_51 (by decide) ?_
        exact ih (v4 + 1) _ _ (hJ.trans (by rw [if_neg c_1002, if_neg c_1003])) ((hT.2 c_1002).2 c_1003) hS (lv_sub hl [1, 2, 0] rfl)
      · refine lv_iconst (v := 0) hx hb dX0_pairHolds_46 (by decide) ?_
        exact k_zret hx hb hr (Or.inl rfl) hlocks hS dX0_pairHolds_47 ⟨by rw [hJ, if_neg c_1002, if_pos c_1003], rfl⟩
def j_X0_pairHolds (a0 : Int64) (a2 : Int64) : Int32 := (if (j_X0_comparedByParts a0 a2) = (j_X0_sideOf a0 a2) then (jl_X0_pairHolds_18 a0 a2  (fun (v_2 : Int32) => (if (j_X0_putOn a0 0 (j_X0_unitsBetween a0 a2 0)) = a2 then 1 else 0)) 100 0) else 0)
def T_X0_pairHolds (a0 : Int64) (a2 : Int64) : Prop := (((j_X0_comparedByParts a0 a2) = (j_X0_sideOf a0 a2) → (jt_X0_pairHolds_18 a0 a2  (fun (v_2 : Int32) => (((j_X0_putOn a0 0 (j_X0_unitsBetween a0 a2 0)) = a2 → True) ∧ (¬ ((j_X0_putOn a0 0 (j_X0_unitsBetween a0 a2 0)) = a2) → True))) 100 0)) ∧ (¬ ((j_X0_comparedByParts a0 a2) = (j_X0_sideOf a0 a2)) → True))
set_option maxHeartbeats 4000000 in
set_option maxRecDepth 100000 in
theorem c_X0_pairHolds (l : Launch) (D : va_G) (cB cJ : ClassId) (Hp : Heap)  (a0 : Int64) (a2 : Int64) (hT9 : T_X0_pairHolds a0 a2) : kM l D cB cJ yX0_pairHolds wsX0_pairHolds rm_X0_pairHolds kF Hp [.long a0, .long a2] (kP (some (.int (j_X0_pairHolds a0 a2))) Hp) 0 0 := by
  refine Met.ofW (cc := cX0_pairHolds) (maxL := 5) (ret := (some .boolean)) (by decide) rfl ?_
  intro p e s m args below meth c s₁ B hml hv
  obtain ⟨rfl, hHp, hE⟩ := hv
  subst hHp
  have hx := B.exec
  have hb := B.bytes
  have hr := B.returns
  have hts := atoms_spec (ws := wsX0_pairHolds) B.pre
  have hown : s.vm.findClass RX0 = some m.cls := findClass_of_methodNamed B.named
  have hlocks := B.notSynchronized
  have hK := hE.1
  have hS : va_S kF s.heap s.heap [] := va_S.rf
  have hl := lv_entry ([.long a0, .long a2]) (n := 5) (Nat.le_of_ble_eq_true rfl)
  rw [lg_entry_eq]
  generalize (lg_sl ([.long a0, .long a2]) ++ List.replicate (5 - (lg_sl ([.long a0, .long a2])).length) Slot.unset).toArray = ls at hl ⊢
  have hl : lv_has ls 5 [(0, .long a0), (2, .long a2)] := hl
  have hJ : (j_X0_pairHolds a0 a2) = (if (j_X0_comparedByParts a0 a2) = (j_X0_sideOf a0 a2) then (jl_X0_pairHolds_18 a0 a2  (fun (v_2 : Int32) => (if (j_X0_putOn a0 0 (j_X0_unitsBetween a0 a2 0)) = a2 then 1 else 0)) 100 0) else 0) := rfl
  have hT : (((j_X0_comparedByParts a0 a2) = (j_X0_sideOf a0 a2) → (jt_X0_pairHolds_18 a0 a2  (fun (v_2 : Int32) => (((j_X0_putOn a0 0 (j_X0_unitsBetween a0 a2 0)) = a2 → True) ∧ (¬ ((j_X0_putOn a0 0 (j_X0_unitsBetween a0 a2 0)) = a2) → True))) 100 0)) ∧ (¬ ((j_X0_comparedByParts a0 a2) = (j_X0_sideOf a0 a2)) → True)) := hT9
  refine lv_lload_n hx hb dX0_pairHolds_0 rfl (lv_at hl 0 rfl) ?_
  refine lv_lload_n hx hb dX0_pairHolds_1 rfl (lv_at hl 1 rfl) ?_
  refine k_pS [.long a0, .long a2] (rest := []) ⟨hx, hb, hml, hown, hts⟩ (c_X0_comparedByParts l D cB cJ _ a0 a2 (tk_X0_comparedByParts a0 a2)) (va_cwS 2 hts gX0_pairHolds_X0_comparedByParts rfl rfl rfl (by decide +kernel) ⟨(Nat.le_of_ble_eq_true rfl), (Nat.le_of_ble_eq_true rfl)⟩) hE hS rfl rfl hl.1 (Nat.le_of_ble_eq_true rfl) dX0_pairHolds_2 ⟨(Nat.le_of_ble_eq_true rfl), (Nat.le_of_ble_eq_true rfl)⟩ (fun locs hS => ?_)
  refine W.eq (g2 := F0 m 5 ls [.int (j_X0_comparedByParts a0 a2)]) rfl ?_
  refine lv_lload_n hx hb dX0_pairHolds_5 rfl (lv_at hl 0 rfl) ?_
  refine lv_lload_n hx hb dX0_pairHolds_6 rfl (lv_at hl 1 rfl) ?_
  refine k_pS [.long a0, .long a2] (rest := [.int (j_X0_comparedByParts a0 a2)]) ⟨hx, hb, hml, hown, hts⟩ (c_X0_sideOf l D cB cJ _ a0 a2) (va_cwS 2 hts gX0_pairHolds_X0_sideOf rfl rfl rfl (by decide +kernel) ⟨(Nat.le_of_ble_eq_true rfl), (Nat.le_of_ble_eq_true rfl)⟩) hE hS rfl rfl hl.1 (Nat.le_of_ble_eq_true rfl) dX0_pairHolds_7 ⟨(Nat.le_of_ble_eq_true rfl), (Nat.le_of_ble_eq_true rfl)⟩ (fun locs hS => ?_)
  refine W.eq (g2 := F0 m 10 ls [.int (j_X0_sideOf a0 a2), .int (j_X0_comparedByParts a0 a2)]) rfl ?_
  refine lv_icmp_eq (tgt := 15) hx hb dX0_pairHolds_10 (by decide) (fun c_1 => ?_) (fun c_1 => ?_)
  · refine lv_iconst (v := 0) hx hb dX0_pairHolds_15 (by decide) ?_
    refine lv_istore (lv' := [(4, .int 0), (0, .long a0), (2, .long a2)]) hx hb dX0_pairHolds_16 hl (by decide) rfl (fun ls hl => ?_)
    refine lp_X0_pairHolds_18 a0 a2  (j_X0_pairHolds a0 a2) hx hb hml hr hlocks hown hts hE  (fun (v_2 : Int32) => (if (j_X0_putOn a0 0 (j_X0_unitsBetween a0 a2 0)) = a2 then 1 else 0)) (fun (v_2 : Int32) => (((j_X0_putOn a0 0 (j_X0_unitsBetween a0 a2 0)) = a2 → True) ∧ (¬ ((j_X0_putOn a0 0 (j_X0_unitsBetween a0 a2 0)) = a2) → True))) (fun v_2 locs ls hJ hT hS hl => ?_) 100 0 _ _ (hJ.trans (by rw [if_pos c_1])) (hT.1 c_1) hS (lv_sub hl [1, 2, 0] rfl)
    (try dsimp only at hJ); (try dsimp only at hT)
    refine lv_lload_n hx hb dX0_pairHolds_54 rfl (lv_at hl 0 rfl) ?_
    refine lv_iconst (v := 0) hx hb dX0_pairHolds_55 (by decide) ?_
    refine lv_lload_n hx hb dX0_pairHolds_56 rfl (lv_at hl 0 rfl) ?_
    refine lv_lload_n hx hb dX0_pairHolds_57 rfl (lv_at hl 1 rfl) ?_
    refine lv_iconst (v := 0) hx hb dX0_pairHolds_58 (by decide) ?_
    refine k_pS [.long a0, .long a2, .int 0] (rest := [.int 0, .long a0]) ⟨hx, hb, hml, hown, hts⟩ (c_X0_unitsBetween l D cB cJ _ a0 a2 0) (va_cwS 3 hts gX0_pairHolds_X0_unitsBetween rfl rfl rfl (by decide +kernel) ⟨(Nat.le_of_ble_eq_true rfl), (Nat.le_of_ble_eq_true rfl)⟩) hE hS rfl rfl hl.1 (Nat.le_of_ble_eq_true rfl) dX0_pairHolds_59 ⟨(Nat.le_of_ble_eq_true rfl), (Nat.le_of_ble_eq_true rfl)⟩ (fun locs hS => ?_)
    refine W.eq (g2 := F0 m 62 ls [.long (j_X0_unitsBetween a0 a2 0), .int 0, .long a0]) rfl ?_
    refine k_pS [.long a0, .int 0, .long (j_X0_unitsBetween a0 a2 0)] (rest := []) ⟨hx, hb, hml, hown, hts⟩ (c_X0_putOn l D cB cJ _ a0 0 (j_X0_unitsBetween a0 a2 0)) (va_cwS 3 hts gX0_pairHolds_X0_putOn rfl rfl rfl (by decide +kernel) ⟨(Nat.le_of_ble_eq_true rfl), (Nat.le_of_ble_eq_true rfl)⟩) hE hS rfl rfl hl.1 (Nat.le_of_ble_eq_true rfl) dX0_pairHolds_62 ⟨(Nat.le_of_ble_eq_true rfl), (Nat.le_of_ble_eq_true rfl)⟩ (fun locs hS => ?_)
    refine W.eq (g2 := F0 m 65 ls [.long (j_X0_putOn a0 0 (j_X0_unitsBetween a0 a2 0))]) rfl ?_
    refine lv_lload_n hx hb dX0_pairHolds_65 rfl (lv_at hl 1 rfl) ?_
    refine kl_ne (tgt := 74) hx hb dX0_pairHolds_66 dX0_pairHolds_67 (by decide) (fun c_3 => ?_) (fun c_3 => ?_)
    · refine lv_iconst (v := 0) hx hb dX0_pairHolds_74 (by decide) ?_
      exact k_zret hx hb hr (Or.inl rfl) hlocks hS dX0_pairHolds_75 ⟨by rw [hJ, if_neg c_3], rfl⟩
    · refine lv_iconst (v := 1) hx hb dX0_pairHolds_70 (by decide) ?_
      refine lv_goto (tgt := 75) hx hb dX0_pairHolds_71 (by decide) ?_
      exact k_zret hx hb hr (Or.inr rfl) hlocks hS dX0_pairHolds_75 ⟨by rw [hJ, if_pos c_3], rfl⟩
  · refine lv_iconst (v := 0) hx hb dX0_pairHolds_13 (by decide) ?_
    exact k_zret hx hb hr (Or.inl rfl) hlocks hS dX0_pairHolds_14 ⟨by rw [hJ, if_neg c_1], rfl⟩
theorem jtk_X0_pairHolds_18 (a0 : Int64) (a2 : Int64)  (t9 : Int32 → Prop) (h9 : ∀ (v4 : Int32), t9 v4) : ∀ (n k : Nat) (v4 : Int32), v4 = nI k → k ≤ 7 → 7 < n + k → jt_X0_pairHolds_18 a0 a2  t9 n v4 := by
  intro n
  induction n with
  | zero => intro k v4 e h1 h2; exact absurd h2 (by omega)
  | succ n ih =>
    intro k v4 e h1 h2
    subst e
    rw [jt_X0_pairHolds_18]
    rcases Nat.lt_or_ge k 7 with hk | hk
    · repeat' (first | with_reducible exact trivial | with_reducible exact h9 _ | with_reducible exact nI_pos (by omega) | with_reducible exact ih (k + 1) _ (nI_1 k) (by omega) (by omega) | with_reducible refine ⟨?_, ?_⟩ | (with_reducible intro _))
    · obtain rfl : k = 7 := by omega
      repeat' (first | with_reducible exact trivial | with_reducible exact h9 _ | with_reducible exact nI_pos (by omega) | with_reducible refine ⟨?_, ?_⟩ | (with_reducible intro hc; exact absurd (by decide) hc) | (with_reducible intro _))
theorem tk_X0_pairHolds (a0 : Int64) (a2 : Int64) : T_X0_pairHolds a0 a2 := ⟨fun _ => jtk_X0_pairHolds_18 _ _ _ (fun _ => by repeat' (first | with_reducible exact trivial | with_reducible refine ⟨?_, ?_⟩ | (with_reducible intro _))) 100 0 _ nI_0.symm (by omega) (by omega), fun _ => trivial⟩
abbrev rm_X0_digestClock : Room := { frames := 1, cells := 0, slots := 0, locals := 23 }
def jl_X0_digestClock_6 (a0 : Int64) (a2 : Int64)  (k9 : Int64 → Int32 → Int64) : Nat → Int64 → Int32 → Int64
  | 0, _, _ => 0
  | u9 + 1, v4, v6 => (if 4 < v6 then (k9 v4 v6) else (jl_X0_digestClock_6 a0 a2  k9 u9 ((v4 * 31) + ((j_X0_partOf a2 v6).toInt64)) (v6 + 1)))
def jt_X0_digestClock_6 (a0 : Int64) (a2 : Int64)  (t9 : Int64 → Int32 → Prop) : Nat → Int64 → Int32 → Prop
  | 0, _, _ => False
  | u9 + 1, v4, v6 => ((4 < v6 → (t9 v4 v6)) ∧ (¬ (4 < v6) → (jt_X0_digestClock_6 a0 a2  t9 u9 ((v4 * 31) + ((j_X0_partOf a2 v6).toInt64)) (v6 + 1))))
set_option maxHeartbeats 4000000 in
set_option maxRecDepth 100000 in
theorem lp_X0_digestClock_6 {p : Program} {l : Launch} {e : Env} {s : State} {m : MethodId} {args : Array Value} {below : List Frame} {meth : Method} {c : Code} {D : va_G} {cB cJ : ClassId} (a0 : Int64) (a2 : Int64)  (J : Int64) (hx : p.tables.exec = Jvm.exec) (hb : c.code = cX0_digestClock) (hml : c.maxLocals = 7) (hr : meth.sig.returnType = (some .long)) (hlocks : meth.locks = false) (hown : s.vm.findClass RX0 = some m.cls) (hts : ∀ w ∈ wsX0_digestClock, w.before args s = true) (hE : kE D cB cJ kF s s.heap)  (k9 : Int64 → Int32 → Int64) (t9 : Int64 → Int32 → Prop) (kk : ∀ (v4 : Int64) (v6 : Int32) (locs : List Loc) (ls : Array Slot), J = k9 v4 v6 → t9 v4 v6 → va_S kF s.heap s.heap locs → lv_has ls 7 [(0, .long a0), (2, .long a2), (4, .long v4), (6, .int v6)] → W p l e rm_X0_digestClock s m args below meth c s.heap locs 0 0 (MQ below (kQ (kP (some (.long J)) s.heap) kF) args s 0 0 kF) (F0 m 34 ls [])) : ∀ (u9 : Nat) (v4 : Int64) (v6 : Int32) (locs : List Loc) (ls : Array Slot), J = jl_X0_digestClock_6 a0 a2  k9 u9 v4 v6 → jt_X0_digestClock_6 a0 a2  t9 u9 v4 v6 → va_S kF s.heap s.heap locs → lv_has ls 7 [(0, .long a0), (2, .long a2), (4, .long v4), (6, .int v6)] → W p l e rm_X0_digestClock s m args below meth c s.heap locs 0 0 (MQ below (kQ (kP (some (.long J)) s.heap) kF) args s 0 0 kF) (F0 m 6 ls []) := by
  have hK := hE.1
  intro u9
  induction u9 with
  | zero =>
    intro v4 v6 locs ls hJ hT
    exact hT.elim
  | succ u9 ih =>
    intro v4 v6 locs ls hJ hT hS hl
    rw [jl_X0_digestClock_6] at hJ
    rw [jt_X0_digestClock_6] at hT
    refine lv_iload hx hb dX0_digestClock_6 (lv_at hl 3 rfl) ?_
    refine lv_iconst (v := 4) hx hb dX0_digestClock_8 (by decide) ?_
    refine lv_icmp_gt (tgt := 34) hx hb dX0_digestClock_9 (by decide) (fun c_1001 => ?_) (fun c_1001 => ?_)
    · exact kk v4 v6 _ _ (hJ.trans (by rw [if_pos c_1001])) (hT.1 c_1001) hS (lv_sub hl [0, 1, 2, 3] rfl)
    · refine lv_lload hx hb dX0_digestClock_12 (lv_at hl 2 rfl) ?_
      refine lv_ldc2 (v := 31) hx hb hown (hts (.constantLong RX0 132 (31)) (by decide +kernel)) dX0_digestClock_14 ?_
      refine lv_lmul hx hb dX0_digestClock_17 ?_
      refine lv_lload_n hx hb dX0_digestClock_18 rfl (lv_at hl 1 rfl) ?_
      refine lv_iload hx hb dX0_digestClock_19 (lv_at hl 3 rfl) ?_
      refine k_pS [.long a2, .int v6] (rest := [.long (v4 * 31)]) ⟨hx, hb, hml, hown, hts⟩ (c_X0_partOf l D cB cJ _ a2 v6) (va_cwS 2 hts gX0_digestClock_X0_partOf rfl rfl rfl (by decide +kernel) ⟨(Nat.le_of_ble_eq_true rfl), (Nat.le_of_ble_eq_true rfl)⟩) hE hS rfl rfl hl.1 (Nat.le_of_ble_eq_true rfl) dX0_digestClock_21 ⟨(Nat.le_of_ble_eq_true rfl), (Nat.le_of_ble_eq_true rfl)⟩ (fun locs hS => ?_)
      refine W.eq (g2 := F0 m 24 ls [.int (j_X0_partOf a2 v6), .long (v4 * 31)]) rfl ?_
      refine lv_i2l (v := (j_X0_partOf a2 v6).toInt64) hx hb dX0_digestClock_24 rfl ?_
      refine lv_ladd hx hb dX0_digestClock_25 ?_
      refine lv_lstore (lv' := [(4, .long ((v4 * 31) + ((j_X0_partOf a2 v6).toInt64))), (0, .long a0), (2, .long a2), (6, .int v6)]) hx hb dX0_digestClock_26 hl (by decide) rfl (fun ls hl => ?_)
      refine lv_iinc (v := (v6 + 1)) (lv' := [(6, .int (v6 + 1)), (4, .long ((v4 * 31) + ((j_X0_partOf a2 v6).toInt64))), (0, .long a0), (2, .long a2)]) hx hb dX0_digestClock_28 hl (k := 3) rfl rfl (by decide) rfl (fun ls hl => ?_)
      refine lv_goto (tgt := 6) hx hb dX0_digestClock_31 (by decide) ?_
      exact ih ((v4 * 31) + ((j_X0_partOf a2 v6).toInt64)) (v6 + 1) _ _ (hJ.trans (by rw [if_neg c_1001])) (hT.2 c_1001) hS (lv_sub hl [2, 3, 1, 0] rfl)
def j_X0_digestClock (a0 : Int64) (a2 : Int64) : Int64 := (jl_X0_digestClock_6 a0 a2  (fun (v_1 : Int64) (v_2 : Int32) => ((v_1 * 31) + a2)) 100 a0 0)
def T_X0_digestClock (a0 : Int64) (a2 : Int64) : Prop := (jt_X0_digestClock_6 a0 a2  (fun (v_1 : Int64) (v_2 : Int32) => True) 100 a0 0)
set_option maxHeartbeats 4000000 in
set_option maxRecDepth 100000 in
theorem c_X0_digestClock (l : Launch) (D : va_G) (cB cJ : ClassId) (Hp : Heap)  (a0 : Int64) (a2 : Int64) (hT9 : T_X0_digestClock a0 a2) : kM l D cB cJ yX0_digestClock wsX0_digestClock rm_X0_digestClock kF Hp [.long a0, .long a2] (kP (some (.long (j_X0_digestClock a0 a2))) Hp) 0 0 := by
  refine Met.ofW (cc := cX0_digestClock) (maxL := 7) (ret := (some .long)) (by decide) rfl ?_
  intro p e s m args below meth c s₁ B hml hv
  obtain ⟨rfl, hHp, hE⟩ := hv
  subst hHp
  have hx := B.exec
  have hb := B.bytes
  have hr := B.returns
  have hts := atoms_spec (ws := wsX0_digestClock) B.pre
  have hown : s.vm.findClass RX0 = some m.cls := findClass_of_methodNamed B.named
  have hlocks := B.notSynchronized
  have hK := hE.1
  have hS : va_S kF s.heap s.heap [] := va_S.rf
  have hl := lv_entry ([.long a0, .long a2]) (n := 7) (Nat.le_of_ble_eq_true rfl)
  rw [lg_entry_eq]
  generalize (lg_sl ([.long a0, .long a2]) ++ List.replicate (7 - (lg_sl ([.long a0, .long a2])).length) Slot.unset).toArray = ls at hl ⊢
  have hl : lv_has ls 7 [(0, .long a0), (2, .long a2)] := hl
  have hJ : (j_X0_digestClock a0 a2) = (jl_X0_digestClock_6 a0 a2  (fun (v_1 : Int64) (v_2 : Int32) => ((v_1 * 31) + a2)) 100 a0 0) := rfl
  have hT : (jt_X0_digestClock_6 a0 a2  (fun (v_1 : Int64) (v_2 : Int32) => True) 100 a0 0) := hT9
  refine lv_lload_n hx hb dX0_digestClock_0 rfl (lv_at hl 0 rfl) ?_
  refine lv_lstore (lv' := [(4, .long a0), (0, .long a0), (2, .long a2)]) hx hb dX0_digestClock_1 hl (by decide) rfl (fun ls hl => ?_)
  refine lv_iconst (v := 0) hx hb dX0_digestClock_3 (by decide) ?_
  refine lv_istore (lv' := [(6, .int 0), (4, .long a0), (0, .long a0), (2, .long a2)]) hx hb dX0_digestClock_4 hl (by decide) rfl (fun ls hl => ?_)
  refine lp_X0_digestClock_6 a0 a2  (j_X0_digestClock a0 a2) hx hb hml hr hlocks hown hts hE  (fun (v_1 : Int64) (v_2 : Int32) => ((v_1 * 31) + a2)) (fun (v_1 : Int64) (v_2 : Int32) => True) (fun v_1 v_2 locs ls hJ hT hS hl => ?_) 100 a0 0 _ _ hJ hT hS (lv_sub hl [2, 3, 1, 0] rfl)
  (try dsimp only at hJ); (try dsimp only at hT)
  refine lv_lload hx hb dX0_digestClock_34 (lv_at hl 2 rfl) ?_
  refine lv_ldc2 (v := 31) hx hb hown (hts (.constantLong RX0 132 (31)) (by decide +kernel)) dX0_digestClock_36 ?_
  refine lv_lmul hx hb dX0_digestClock_39 ?_
  refine lv_lload_n hx hb dX0_digestClock_40 rfl (lv_at hl 1 rfl) ?_
  refine lv_ladd hx hb dX0_digestClock_41 ?_
  exact k_lret hx hb hr hlocks hS dX0_digestClock_42 ⟨by rw [hJ], rfl⟩
theorem jtk_X0_digestClock_6 (a0 : Int64) (a2 : Int64)  (t9 : Int64 → Int32 → Prop) (h9 : ∀ (v4 : Int64) (v6 : Int32), t9 v4 v6) : ∀ (n k : Nat) (v4 : Int64) (v6 : Int32), v6 = nI k → k ≤ 5 → 5 < n + k → jt_X0_digestClock_6 a0 a2  t9 n v4 v6 := by
  intro n
  induction n with
  | zero => intro k v4 v6 e h1 h2; exact absurd h2 (by omega)
  | succ n ih =>
    intro k v4 v6 e h1 h2
    subst e
    rw [jt_X0_digestClock_6]
    rcases Nat.lt_or_ge k 5 with hk | hk
    · repeat' (first | with_reducible exact trivial | with_reducible exact h9 _ _ | with_reducible exact nI_pos (by omega) | with_reducible exact ih (k + 1) _ _ (nI_1 k) (by omega) (by omega) | with_reducible refine ⟨?_, ?_⟩ | (with_reducible intro _))
    · obtain rfl : k = 5 := by omega
      repeat' (first | with_reducible exact trivial | with_reducible exact h9 _ _ | with_reducible exact nI_pos (by omega) | with_reducible refine ⟨?_, ?_⟩ | (with_reducible intro hc; exact absurd (by decide) hc) | (with_reducible intro _))
theorem tk_X0_digestClock (a0 : Int64) (a2 : Int64) : T_X0_digestClock a0 a2 := jtk_X0_digestClock_6 a0 a2  _ (fun _ _ => by repeat' (first | with_reducible exact trivial | with_reducible refine ⟨?_, ?_⟩ | (with_reducible intro _))) 100 0 _ _ nI_0.symm (by omega) (by omega)
abbrev rm_X0_digestPair : Room := { frames := 2, cells := 0, slots := 0, locals := 46 }
def jl_X0_digestPair_18 (a0 : Int64) (a2 : Int64) (a4 : Int64)  (k9 : Int64 → Int32 → Int64) : Nat → Int64 → Int32 → Int64
  | 0, _, _ => 0
  | u9 + 1, v6, v8 => (if 7 ≤ v8 then (k9 v6 v8) else (jl_X0_digestPair_18 a0 a2 a4  k9 u9 ((v6 * 31) + (j_X0_unitsBetween a2 a4 v8)) (v8 + 1)))
def jt_X0_digestPair_18 (a0 : Int64) (a2 : Int64) (a4 : Int64)  (t9 : Int64 → Int32 → Prop) : Nat → Int64 → Int32 → Prop
  | 0, _, _ => False
  | u9 + 1, v6, v8 => ((7 ≤ v8 → (t9 v6 v8)) ∧ (¬ (7 ≤ v8) → (jt_X0_digestPair_18 a0 a2 a4  t9 u9 ((v6 * 31) + (j_X0_unitsBetween a2 a4 v8)) (v8 + 1))))
set_option maxHeartbeats 4000000 in
set_option maxRecDepth 100000 in
theorem lp_X0_digestPair_18 {p : Program} {l : Launch} {e : Env} {s : State} {m : MethodId} {args : Array Value} {below : List Frame} {meth : Method} {c : Code} {D : va_G} {cB cJ : ClassId} (a0 : Int64) (a2 : Int64) (a4 : Int64)  (J : Int64) (hx : p.tables.exec = Jvm.exec) (hb : c.code = cX0_digestPair) (hml : c.maxLocals = 9) (hr : meth.sig.returnType = (some .long)) (hlocks : meth.locks = false) (hown : s.vm.findClass RX0 = some m.cls) (hts : ∀ w ∈ wsX0_digestPair, w.before args s = true) (hE : kE D cB cJ kF s s.heap)  (k9 : Int64 → Int32 → Int64) (t9 : Int64 → Int32 → Prop) (kk : ∀ (v6 : Int64) (v8 : Int32) (locs : List Loc) (ls : Array Slot), J = k9 v6 v8 → t9 v6 v8 → va_S kF s.heap s.heap locs → lv_has ls 9 [(0, .long a0), (2, .long a2), (4, .long a4), (6, .long v6), (8, .int v8)] → W p l e rm_X0_digestPair s m args below meth c s.heap locs 0 0 (MQ below (kQ (kP (some (.long J)) s.heap) kF) args s 0 0 kF) (F0 m 48 ls [])) : ∀ (u9 : Nat) (v6 : Int64) (v8 : Int32) (locs : List Loc) (ls : Array Slot), J = jl_X0_digestPair_18 a0 a2 a4  k9 u9 v6 v8 → jt_X0_digestPair_18 a0 a2 a4  t9 u9 v6 v8 → va_S kF s.heap s.heap locs → lv_has ls 9 [(0, .long a0), (2, .long a2), (4, .long a4), (6, .long v6), (8, .int v8)] → W p l e rm_X0_digestPair s m args below meth c s.heap locs 0 0 (MQ below (kQ (kP (some (.long J)) s.heap) kF) args s 0 0 kF) (F0 m 18 ls []) := by
  have hK := hE.1
  intro u9
  induction u9 with
  | zero =>
    intro v6 v8 locs ls hJ hT
    exact hT.elim
  | succ u9 ih =>
    intro v6 v8 locs ls hJ hT hS hl
    rw [jl_X0_digestPair_18] at hJ
    rw [jt_X0_digestPair_18] at hT
    refine lv_iload hx hb dX0_digestPair_18 (lv_at hl 4 rfl) ?_
    refine lv_bipush (v := 7) hx hb dX0_digestPair_20 (by decide) ?_
    refine lv_icmp_ge (tgt := 48) hx hb dX0_digestPair_22 (by decide) (fun c_1001 => ?_) (fun c_1001 => ?_)
    · exact kk v6 v8 _ _ (hJ.trans (by rw [if_pos c_1001])) (hT.1 c_1001) hS (lv_sub hl [0, 1, 2, 3, 4] rfl)
    · refine lv_lload hx hb dX0_digestPair_25 (lv_at hl 3 rfl) ?_
      refine lv_ldc2 (v := 31) hx hb hown (hts (.constantLong RX0 132 (31)) (by decide +kernel)) dX0_digestPair_27 ?_
      refine lv_lmul hx hb dX0_digestPair_30 ?_
      refine lv_lload_n hx hb dX0_digestPair_31 rfl (lv_at hl 1 rfl) ?_
      refine lv_lload hx hb dX0_digestPair_32 (lv_at hl 2 rfl) ?_
      refine lv_iload hx hb dX0_digestPair_34 (lv_at hl 4 rfl) ?_
      refine k_pS [.long a2, .long a4, .int v8] (rest := [.long (v6 * 31)]) ⟨hx, hb, hml, hown, hts⟩ (c_X0_unitsBetween l D cB cJ _ a2 a4 v8) (va_cwS 3 hts gX0_digestPair_X0_unitsBetween rfl rfl rfl (by decide +kernel) ⟨(Nat.le_of_ble_eq_true rfl), (Nat.le_of_ble_eq_true rfl)⟩) hE hS rfl rfl hl.1 (Nat.le_of_ble_eq_true rfl) dX0_digestPair_36 ⟨(Nat.le_of_ble_eq_true rfl), (Nat.le_of_ble_eq_true rfl)⟩ (fun locs hS => ?_)
      refine W.eq (g2 := F0 m 39 ls [.long (j_X0_unitsBetween a2 a4 v8), .long (v6 * 31)]) rfl ?_
      refine lv_ladd hx hb dX0_digestPair_39 ?_
      refine lv_lstore (lv' := [(6, .long ((v6 * 31) + (j_X0_unitsBetween a2 a4 v8))), (0, .long a0), (2, .long a2), (4, .long a4), (8, .int v8)]) hx hb dX0_digestPair_40 hl (by decide) rfl (fun ls hl => ?_)
      refine lv_iinc (v := (v8 + 1)) (lv' := [(8, .int (v8 + 1)), (6, .long ((v6 * 31) + (j_X0_unitsBetween a2 a4 v8))), (0, .long a0), (2, .long a2), (4, .long a4)]) hx hb dX0_digestPair_42 hl (k := 4) rfl rfl (by decide) rfl (fun ls hl => ?_)
      refine lv_goto (tgt := 18) hx hb dX0_digestPair_45 (by decide) ?_
      exact ih ((v6 * 31) + (j_X0_unitsBetween a2 a4 v8)) (v8 + 1) _ _ (hJ.trans (by rw [if_neg c_1001])) (hT.2 c_1001) hS (lv_sub hl [2, 3, 4, 1, 0] rfl)
def j_X0_digestPair (a0 : Int64) (a2 : Int64) (a4 : Int64) : Int64 := (jl_X0_digestPair_18 a0 a2 a4  (fun (v_1 : Int64) (v_2 : Int32) => v_1) 100 ((a0 * 31) + ((j_X0_sideOf a2 a4).toInt64)) 0)
def T_X0_digestPair (a0 : Int64) (a2 : Int64) (a4 : Int64) : Prop := (jt_X0_digestPair_18 a0 a2 a4  (fun (v_1 : Int64) (v_2 : Int32) => True) 100 ((a0 * 31) + ((j_X0_sideOf a2 a4).toInt64)) 0)
set_option maxHeartbeats 4000000 in
set_option maxRecDepth 100000 in
theorem c_X0_digestPair (l : Launch) (D : va_G) (cB cJ : ClassId) (Hp : Heap)  (a0 : Int64) (a2 : Int64) (a4 : Int64) (hT9 : T_X0_digestPair a0 a2 a4) : kM l D cB cJ yX0_digestPair wsX0_digestPair rm_X0_digestPair kF Hp [.long a0, .long a2, .long a4] (kP (some (.long (j_X0_digestPair a0 a2 a4))) Hp) 0 0 := by
  refine Met.ofW (cc := cX0_digestPair) (maxL := 9) (ret := (some .long)) (by decide) rfl ?_
  intro p e s m args below meth c s₁ B hml hv
  obtain ⟨rfl, hHp, hE⟩ := hv
  subst hHp
  have hx := B.exec
  have hb := B.bytes
  have hr := B.returns
  have hts := atoms_spec (ws := wsX0_digestPair) B.pre
  have hown : s.vm.findClass RX0 = some m.cls := findClass_of_methodNamed B.named
  have hlocks := B.notSynchronized
  have hK := hE.1
  have hS : va_S kF s.heap s.heap [] := va_S.rf
  have hl := lv_entry ([.long a0, .long a2, .long a4]) (n := 9) (Nat.le_of_ble_eq_true rfl)
  rw [lg_entry_eq]
  generalize (lg_sl ([.long a0, .long a2, .long a4]) ++ List.replicate (9 - (lg_sl ([.long a0, .long a2, .long a4])).length) Slot.unset).toArray = ls at hl ⊢
  have hl : lv_has ls 9 [(0, .long a0), (2, .long a2), (4, .long a4)] := hl
  have hJ : (j_X0_digestPair a0 a2 a4) = (jl_X0_digestPair_18 a0 a2 a4  (fun (v_1 : Int64) (v_2 : Int32) => v_1) 100 ((a0 * 31) + ((j_X0_sideOf a2 a4).toInt64)) 0) := rfl
  have hT : (jt_X0_digestPair_18 a0 a2 a4  (fun (v_1 : Int64) (v_2 : Int32) => True) 100 ((a0 * 31) + ((j_X0_sideOf a2 a4).toInt64)) 0) := hT9
  refine lv_lload_n hx hb dX0_digestPair_0 rfl (lv_at hl 0 rfl) ?_
  refine lv_ldc2 (v := 31) hx hb hown (hts (.constantLong RX0 132 (31)) (by decide +kernel)) dX0_digestPair_1 ?_
  refine lv_lmul hx hb dX0_digestPair_4 ?_
  refine lv_lload_n hx hb dX0_digestPair_5 rfl (lv_at hl 1 rfl) ?_
  refine lv_lload hx hb dX0_digestPair_6 (lv_at hl 2 rfl) ?_
  refine k_pS [.long a2, .long a4] (rest := [.long (a0 * 31)]) ⟨hx, hb, hml, hown, hts⟩ (c_X0_sideOf l D cB cJ _ a2 a4) (va_cwS 2 hts gX0_digestPair_X0_sideOf rfl rfl rfl (by decide +kernel) ⟨(Nat.le_of_ble_eq_true rfl), (Nat.le_of_ble_eq_true rfl)⟩) hE hS rfl rfl hl.1 (Nat.le_of_ble_eq_true rfl) dX0_digestPair_8 ⟨(Nat.le_of_ble_eq_true rfl), (Nat.le_of_ble_eq_true rfl)⟩ (fun locs hS => ?_)
  refine W.eq (g2 := F0 m 11 ls [.int (j_X0_sideOf a2 a4), .long (a0 * 31)]) rfl ?_
  refine lv_i2l (v := (j_X0_sideOf a2 a4).toInt64) hx hb dX0_digestPair_11 rfl ?_
  refine lv_ladd hx hb dX0_digestPair_12 ?_
  refine lv_lstore (lv' := [(6, .long ((a0 * 31) + ((j_X0_sideOf a2 a4).toInt64))), (0, .long a0), (2, .long a2), (4, .long a4)]) hx hb dX0_digestPair_13 hl (by decide) rfl (fun ls hl => ?_)
  refine lv_iconst (v := 0) hx hb dX0_digestPair_15 (by decide) ?_
  refine lv_istore (lv' := [(8, .int 0), (6, .long ((a0 * 31) + ((j_X0_sideOf a2 a4).toInt64))), (0, .long a0), (2, .long a2), (4, .long a4)]) hx hb dX0_digestPair_16 hl (by decide) rfl (fun ls hl => ?_)
  refine lp_X0_digestPair_18 a0 a2 a4  (j_X0_digestPair a0 a2 a4) hx hb hml hr hlocks hown hts hE  (fun (v_1 : Int64) (v_2 : Int32) => v_1) (fun (v_1 : Int64) (v_2 : Int32) => True) (fun v_1 v_2 locs ls hJ hT hS hl => ?_) 100 ((a0 * 31) + ((j_X0_sideOf a2 a4).toInt64)) 0 _ _ hJ hT hS (lv_sub hl [2, 3, 4, 1, 0] rfl)
  (try dsimp only at hJ); (try dsimp only at hT)
  refine lv_lload hx hb dX0_digestPair_48 (lv_at hl 3 rfl) ?_
  exact k_lret hx hb hr hlocks hS dX0_digestPair_50 ⟨by rw [hJ], rfl⟩
theorem jtk_X0_digestPair_18 (a0 : Int64) (a2 : Int64) (a4 : Int64)  (t9 : Int64 → Int32 → Prop) (h9 : ∀ (v6 : Int64) (v8 : Int32), t9 v6 v8) : ∀ (n k : Nat) (v6 : Int64) (v8 : Int32), v8 = nI k → k ≤ 7 → 7 < n + k → jt_X0_digestPair_18 a0 a2 a4  t9 n v6 v8 := by
  intro n
  induction n with
  | zero => intro k v6 v8 e h1 h2; exact absurd h2 (by omega)
  | succ n ih =>
    intro k v6 v8 e h1 h2
    subst e
    rw [jt_X0_digestPair_18]
    rcases Nat.lt_or_ge k 7 with hk | hk
    · repeat' (first | with_reducible exact trivial | with_reducible exact h9 _ _ | with_reducible exact nI_pos (by omega) | with_reducible exact ih (k + 1) _ _ (nI_1 k) (by omega) (by omega) | with_reducible refine ⟨?_, ?_⟩ | (with_reducible intro _))
    · obtain rfl : k = 7 := by omega
      repeat' (first | with_reducible exact trivial | with_reducible exact h9 _ _ | with_reducible exact nI_pos (by omega) | with_reducible refine ⟨?_, ?_⟩ | (with_reducible intro hc; exact absurd (by decide) hc) | (with_reducible intro _))
theorem tk_X0_digestPair (a0 : Int64) (a2 : Int64) (a4 : Int64) : T_X0_digestPair a0 a2 a4 := jtk_X0_digestPair_18 a0 a2 a4  _ (fun _ _ => by repeat' (first | with_reducible exact trivial | with_reducible refine ⟨?_, ?_⟩ | (with_reducible intro _))) 100 0 _ _ nI_0.symm (by omega) (by omega)
