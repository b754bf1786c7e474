/-- a long that isn't followed; the cells as they were -/
def kPd (D : va_G) (x n : Nat) (cJ : ClassId) (A : Nat → Prop) (kn ch : Int32) (f : Nat → Int64) : Option Value → Heap → Prop := fun v1 H1 => (∃ r : Int64, v1 = some (.long r)) ∧ va_P D vwCl (wC x n cJ kn ch f) H1 ∧ va_D A (wC x n cJ kn ch f)
def kPdm (D : va_G) (y n2 : Nat) (cJ : ClassId) (A : Nat → Prop) (th : Int32) (g : Nat → Int64) (kn2 td : Int32) : Option Value → Heap → Prop := fun v1 H1 => (∃ r : Int64, v1 = some (.long r)) ∧ va_P D vwCl (wMo y n2 cJ th g kn2 td) H1 ∧ va_D A (wMo y n2 cJ th g kn2 td)
abbrev rm_X0_digest : Room := { frames := 7, cells := 20, slots := 2234, locals := 213 }
theorem iw_X0_digest_X0 : ∀ w ∈ wsX00, w ∈ wsX0_digest := by decide +kernel
set_option maxHeartbeats 4000000 in
set_option maxRecDepth 100000 in
theorem lpf_X0d1 {p : Program} {l : Launch} {e : Env} {s : State} {m : MethodId} {args : Array Value} {below : List Frame} {meth : Method} {c : Code} {D : va_G} {cB cJ : ClassId} {A : Nat → Prop} {x n : Nat} {kn ch : Int32} {f : Nat → Int64} {H : Heap} {cells slots : Nat} {Q : State → Prop} (hx : p.tables.exec = Jvm.exec) (hb : c.code = cX0_digest) (hml : c.maxLocals = 5) (hown : s.vm.findClass RX0 = some m.cls) (hts : ∀ w ∈ wsX0_digest, w.before args s = true) (hE : kE D cB cJ A s s.heap) (hP : va_P D vwCl [(x, .inr (2, [.ref n, .int kn, .int ch])), (n, .inl (cJ, 8, .inr (.inl f)))] H) (hf9 : cells ≤ rm_X0_digest.cells ∧ slots ≤ rm_X0_digest.slots)  (kk : ∀ (v1 : Int64) (locs : List Loc) (ls : Array Slot), va_S A s.heap H locs → lv_has ls 5 [(1, .long v1), (0, .ref x)] → W p l e rm_X0_digest s m args below meth c H locs cells slots Q (F0 m 52 ls [])) : ∀ (u9 k1 : Nat) (v1 : Int64) (locs : List Loc) (ls : Array Slot), k1 + u9 = 8 + 1 → k1 ≤ 8 → va_S A s.heap H locs → lv_has ls 5 [(3, .int (nI k1)), (1, .long v1), (0, .ref x)] → W p l e rm_X0_digest s m args below meth c H locs cells slots Q (F0 m 30 ls []) := by
  have hK := hE.1
  intro u9
  induction u9 with
  | zero =>
    intro k1 v1 locs ls h9 h19
    exact absurd h9 (by omega)
  | succ u9 ih =>
    intro k1 v1 locs ls h9 h8 hS hl
    refine lv_iload_n hx hb dX0_digest_30 rfl (lv_at hl 0 rfl) ?_
    refine lv_bipush (v := 8) hx hb dX0_digest_31 (by decide) ?_
    refine lv_icmp_ge (tgt := 52) hx hb dX0_digest_33 (by decide) (fun c_1 => ?_) (fun c_1 => ?_)
    · exact kk v1 _ _ hS (lv_sub hl [1, 2] rfl)
    · have hk1 : k1 < 8 := Nat.lt_of_not_le (fun q => c_1 (nI_le q (by omega)))
      refine lv_lload_n hx hb dX0_digest_36 rfl (lv_at hl 1 rfl) ?_
      refine lv_aload_n hx hb dX0_digest_37 rfl (lv_at hl 2 rfl) ?_
      refine lv_iload_n hx hb dX0_digest_38 rfl (lv_at hl 0 rfl) ?_
      refine k_pV [.int (nI k1)] (rest := [.long v1]) ⟨hx, hb, hml, hown, hts⟩ (c_X0_numberOf l D cB cJ _ x n kn ch f (hP.sub [0, 1] rfl) (nI k1)) (cwV 1 hts gX0_digest_X0_numberOf rfl rfl rfl (by decide +kernel) ⟨(Nat.le_of_ble_eq_true rfl), (Nat.le_of_ble_eq_true rfl)⟩) (va_recv hK hP (ci := 2) (q0 := 0) rfl rfl) hE hS rfl rfl hl.1 (Nat.le_of_ble_eq_true rfl) dX0_digest_39 hf9 (fun locs hS => ?_)
      refine W.eq (g2 := F0 m 42 ls [.long (j_X0_numberOf kn ch f (nI k1)), .long v1]) rfl ?_
      refine k_pS [.long v1, .long (j_X0_numberOf kn ch f (nI k1))] (rest := []) ⟨hx, hb, hml, hown, hts⟩ (c_X0_digestClock l D cB cJ _ v1 (j_X0_numberOf kn ch f (nI k1)) (tk_X0_digestClock v1 (j_X0_numberOf kn ch f (nI k1)))) (va_cwS 2 hts gX0_digest_X0_digestClock rfl rfl rfl (by decide +kernel) ⟨(Nat.le_of_ble_eq_true rfl), (Nat.le_of_ble_eq_true rfl)⟩) hE hS rfl rfl hl.1 (Nat.le_of_ble_eq_true rfl) dX0_digest_42 hf9 (fun locs hS => ?_)
      refine W.eq (g2 := F0 m 45 ls [.long (j_X0_digestClock v1 (j_X0_numberOf kn ch f (nI k1)))]) rfl ?_
      refine lv_lstore_n (lv' := [(1, .long (j_X0_digestClock v1 (j_X0_numberOf kn ch f (nI k1)))), (3, .int (nI k1)), (0, .ref x)]) hx hb dX0_digest_45 rfl hl (by decide) rfl (fun ls hl => ?_)
      refine lv_iinc (v := ((nI k1) + 1)) (lv' := [(3, .int ((nI k1) + 1)), (1, .long (j_X0_digestClock v1 (j_X0_numberOf kn ch f (nI k1)))), (0, .ref x)]) hx hb dX0_digest_46 hl (k := 1) rfl rfl (by decide) rfl (fun ls hl => ?_)
      refine lv_goto (tgt := 30) hx hb dX0_digest_49 (by decide) ?_
      rw [nI_1] at hl
      exact ih (k1 + 1) (j_X0_digestClock v1 (j_X0_numberOf kn ch f (nI k1))) _ _ (by omega) (by omega) hS (lv_sub hl [0, 1, 2] rfl)
set_option maxHeartbeats 4000000 in
set_option maxRecDepth 100000 in
theorem lpf_X0d2 {p : Program} {l : Launch} {e : Env} {s : State} {m : MethodId} {args : Array Value} {below : List Frame} {meth : Method} {c : Code} {D : va_G} {cB cJ : ClassId} {A : Nat → Prop} {x n : Nat} {kn ch : Int32} {f : Nat → Int64} {H : Heap} {cells slots : Nat} {Q : State → Prop} (hx : p.tables.exec = Jvm.exec) (hb : c.code = cX0_digest) (hml : c.maxLocals = 5) (hown : s.vm.findClass RX0 = some m.cls) (hts : ∀ w ∈ wsX0_digest, w.before args s = true) (hE : kE D cB cJ A s s.heap) (hP : va_P D vwCl [(x, .inr (2, [.ref n, .int kn, .int ch])), (n, .inl (cJ, 8, .inr (.inl f)))] H) (hf9 : cells ≤ rm_X0_digest.cells ∧ slots ≤ rm_X0_digest.slots)  (kk : ∀ (v1 : Int64) (locs : List Loc) (ls : Array Slot), va_S A s.heap H locs → lv_has ls 5 [(1, .long v1), (0, .ref x)] → W p l e rm_X0_digest s m args below meth c H locs cells slots Q (F0 m 81 ls [])) : ∀ (u9 k2 : Nat) (v1 : Int64) (locs : List Loc) (ls : Array Slot), k2 + u9 = 8 + 1 → k2 ≤ 8 → va_S A s.heap H locs → lv_has ls 5 [(3, .int (nI k2)), (1, .long v1), (0, .ref x)] → W p l e rm_X0_digest s m args below meth c H locs cells slots Q (F0 m 54 ls []) := by
  have hK := hE.1
  intro u9
  induction u9 with
  | zero =>
    intro k2 v1 locs ls h9 h19
    exact absurd h9 (by omega)
  | succ u9 ih =>
    intro k2 v1 locs ls h9 h8 hS hl
    refine lv_iload_n hx hb dX0_digest_54 rfl (lv_at hl 0 rfl) ?_
    refine lv_bipush (v := 8) hx hb dX0_digest_55 (by decide) ?_
    refine lv_icmp_ge (tgt := 81) hx hb dX0_digest_57 (by decide) (fun c_1 => ?_) (fun c_1 => ?_)
    · exact kk v1 _ _ hS (lv_sub hl [1, 2] rfl)
    · have hk2 : k2 < 8 := Nat.lt_of_not_le (fun q => c_1 (nI_le q (by omega)))
      refine lv_lload_n hx hb dX0_digest_60 rfl (lv_at hl 1 rfl) ?_
      refine lv_aload_n hx hb dX0_digest_61 rfl (lv_at hl 2 rfl) ?_
      refine lv_iconst (v := 0) hx hb dX0_digest_62 (by decide) ?_
      refine k_pV [.int 0] (rest := [.long v1]) ⟨hx, hb, hml, hown, hts⟩ (c_X0_numberOf l D cB cJ _ x n kn ch f (hP.sub [0, 1] rfl) 0) (cwV 1 hts gX0_digest_X0_numberOf rfl rfl rfl (by decide +kernel) ⟨(Nat.le_of_ble_eq_true rfl), (Nat.le_of_ble_eq_true rfl)⟩) (va_recv hK hP (ci := 2) (q0 := 0) rfl rfl) hE hS rfl rfl hl.1 (Nat.le_of_ble_eq_true rfl) dX0_digest_63 hf9 (fun locs hS => ?_)
      refine W.eq (g2 := F0 m 66 ls [.long (j_X0_numberOf kn ch f 0), .long v1]) rfl ?_
      refine lv_aload_n hx hb dX0_digest_66 rfl (lv_at hl 2 rfl) ?_
      refine lv_iload_n hx hb dX0_digest_67 rfl (lv_at hl 0 rfl) ?_
      refine k_pV [.int (nI k2)] (rest := [.long (j_X0_numberOf kn ch f 0), .long v1]) ⟨hx, hb, hml, hown, hts⟩ (c_X0_numberOf l D cB cJ _ x n kn ch f (hP.sub [0, 1] rfl) (nI k2)) (cwV 1 hts gX0_digest_X0_numberOf rfl rfl rfl (by decide +kernel) ⟨(Nat.le_of_ble_eq_true rfl), (Nat.le_of_ble_eq_true rfl)⟩) (va_recv hK hP (ci := 2) (q0 := 0) rfl rfl) hE hS rfl rfl hl.1 (Nat.le_of_ble_eq_true rfl) dX0_digest_68 hf9 (fun locs hS => ?_)
      refine W.eq (g2 := F0 m 71 ls [.long (j_X0_numberOf kn ch f (nI k2)), .long (j_X0_numberOf kn ch f 0), .long v1]) rfl ?_
      refine k_pS [.long v1, .long (j_X0_numberOf kn ch f 0), .long (j_X0_numberOf kn ch f (nI k2))] (rest := []) ⟨hx, hb, hml, hown, hts⟩ (c_X0_digestPair l D cB cJ _ v1 (j_X0_numberOf kn ch f 0) (j_X0_numberOf kn ch f (nI k2)) (tk_X0_digestPair v1 (j_X0_numberOf kn ch f 0) (j_X0_numberOf kn ch f (nI k2)))) (va_cwS 3 hts gX0_digest_X0_digestPair rfl rfl rfl (by decide +kernel) ⟨(Nat.le_of_ble_eq_true rfl), (Nat.le_of_ble_eq_true rfl)⟩) hE hS rfl rfl hl.1 (Nat.le_of_ble_eq_true rfl) dX0_digest_71 hf9 (fun locs hS => ?_)
      refine W.eq (g2 := F0 m 74 ls [.long (j_X0_digestPair v1 (j_X0_numberOf kn ch f 0) (j_X0_numberOf kn ch f (nI k2)))]) rfl ?_
      refine lv_lstore_n (lv' := [(1, .long (j_X0_digestPair v1 (j_X0_numberOf kn ch f 0) (j_X0_numberOf kn ch f (nI k2)))), (3, .int (nI k2)), (0, .ref x)]) hx hb dX0_digest_74 rfl hl (by decide) rfl (fun ls hl => ?_)
      refine lv_iinc (v := ((nI k2) + 1)) (lv' := [(3, .int ((nI k2) + 1)), (1, .long (j_X0_digestPair v1 (j_X0_numberOf kn ch f 0) (j_X0_numberOf kn ch f (nI k2)))), (0, .ref x)]) hx hb dX0_digest_75 hl (k := 1) rfl rfl (by decide) rfl (fun ls hl => ?_)
      refine lv_goto (tgt := 54) hx hb dX0_digest_78 (by decide) ?_
      rw [nI_1] at hl
      exact ih (k2 + 1) (j_X0_digestPair v1 (j_X0_numberOf kn ch f 0) (j_X0_numberOf kn ch f (nI k2))) _ _ (by omega) (by omega) hS (lv_sub hl [0, 1, 2] rfl)
set_option maxHeartbeats 4000000 in
set_option maxRecDepth 100000 in
theorem lpf_X0d3 {p : Program} {l : Launch} {e : Env} {s : State} {m : MethodId} {args : Array Value} {below : List Frame} {meth : Method} {c : Code} {D : va_G} {cB cJ : ClassId} {A : Nat → Prop} {x q u nn : Nat} {f : Nat → Int32} {H : Heap} {cells slots : Nat} {Q : State → Prop} (hx : p.tables.exec = Jvm.exec) (hb : c.code = cX0_digest) (hml : c.maxLocals = 5) (hown : s.vm.findClass RX0 = some m.cls) (hts : ∀ w ∈ wsX0_digest, w.before args s = true) (hE : kE D cB cJ A s s.heap) (hP : va_P D vwCl [(q, .inr (0, [.ref u, .int 0, .int 0, .int 0])), (u, .inl (cB, nn, .inl f))] H) (hf9 : cells ≤ rm_X0_digest.cells ∧ slots ≤ rm_X0_digest.slots) (hn60 : nn ≤ 60) (kk : ∀ (v1 : Int64) (locs : List Loc) (ls : Array Slot), va_S A s.heap H locs → lv_has ls 5 [(3, .ref q), (1, .long v1), (0, .ref x)] → W p l e rm_X0_digest s m args below meth c H locs cells slots Q (F0 m 130 ls [])) : ∀ (u9 k3 : Nat) (v1 : Int64) (locs : List Loc) (ls : Array Slot), k3 + u9 = nn + 1 → k3 ≤ nn → va_S A s.heap H locs → lv_has ls 5 [(4, .int (nI k3)), (3, .ref q), (1, .long v1), (0, .ref x)] → W p l e rm_X0_digest s m args below meth c H locs cells slots Q (F0 m 101 ls []) := by
  have hK := hE.1
  intro u9
  induction u9 with
  | zero =>
    intro k3 v1 locs ls h9 h19
    exact absurd h9 (by omega)
  | succ u9 ih =>
    intro k3 v1 locs ls h9 h8 hS hl
    refine lv_iload hx hb dX0_digest_101 (lv_at hl 0 rfl) ?_
    refine lv_aload_n hx hb dX0_digest_103 rfl (lv_at hl 1 rfl) ?_
    refine k_go (va_runV (As := []) (rest := [.int (nI k3)]) ⟨hx, hb, hml, hown, hts⟩ (cw_J0_length_8abf5 l D cB cJ _ q u nn f (hP.sub [0, 1] rfl)) (cwV 0 hts gX0_digest_J0_length_8abf5 rfl rfl rfl (by decide +kernel) ⟨(Nat.le_of_ble_eq_true rfl), (Nat.le_of_ble_eq_true rfl)⟩) (k_preV hE hS (fun _ h => h.elim) (va_recv hK hP (ci := 0) (q0 := 0) rfl rfl)) rfl rfl hl.1 rfl (lv_room (Nat.le_of_ble_eq_true rfl)) dX0_digest_104 hf9) hS (fun q _ h => h.elim) (fun q h => h.elim) (fun v9 H1 locs hp hz hk hS9_2 => ?_)
    obtain ⟨rfl, rfl⟩ := hp
    have hS := hS9_2
    refine W.eq (g2 := F0 m 107 ls [.int (nI nn), .int (nI k3)]) rfl ?_
    refine lv_icmp_ge (tgt := 130) hx hb dX0_digest_107 (by decide) (fun c_2 => ?_) (fun c_2 => ?_)
    · exact kk v1 _ _ hS (lv_sub hl [1, 2, 3] rfl)
    · have hk3 : k3 < nn := Nat.lt_of_not_le (fun q => c_2 (nI_le q (by omega)))
      refine lv_lload_n hx hb dX0_digest_110 rfl (lv_at hl 2 rfl) ?_
      refine lv_ldc2 (v := 31) hx hb hown (hts (.constantLong RX0 132 (31)) (by decide +kernel)) dX0_digest_111 ?_
      refine lv_lmul hx hb dX0_digest_114 ?_
      refine lv_aload_n hx hb dX0_digest_115 rfl (lv_at hl 1 rfl) ?_
      refine lv_iload hx hb dX0_digest_116 (lv_at hl 0 rfl) ?_
      refine k_go (va_runV (As := [.int (nI k3)]) (rest := [.long (v1 * 31)]) ⟨hx, hb, hml, hown, hts⟩ (cw_J0_charAt_5068e l D cB cJ _ q u nn f k3 (hP.sub [0, 1] rfl) hk3 (by omega)) (cwV 1 hts gX0_digest_J0_charAt_5068e rfl rfl rfl (by decide +kernel) ⟨(Nat.le_of_ble_eq_true rfl), (Nat.le_of_ble_eq_true rfl)⟩) (k_preV hE hS (fun _ h => h.elim) (va_recv hK hP (ci := 0) (q0 := 0) rfl rfl)) rfl rfl hl.1 rfl (lv_room (Nat.le_of_ble_eq_true rfl)) dX0_digest_118 hf9) hS (fun q _ h => h.elim) (fun q h => h.elim) (fun v9 H1 locs hp hz hk hS9_14 => ?_)
      obtain ⟨⟨r_3, rfl, -⟩, rfl⟩ := hp
      have hS := hS9_14
      refine W.eq (g2 := F0 m 121 ls [.int r_3, .long (v1 * 31)]) rfl ?_
      refine lv_i2l (v := r_3.toInt64) hx hb dX0_digest_121 rfl ?_
      refine lv_ladd hx hb dX0_digest_122 ?_
      refine lv_lstore_n (lv' := [(1, .long ((v1 * 31) + r_3.toInt64)), (4, .int (nI k3)), (3, .ref q), (0, .ref x)]) hx hb dX0_digest_123 rfl hl (by decide) rfl (fun ls hl => ?_)
      refine lv_iinc (v := ((nI k3) + 1)) (lv' := [(4, .int ((nI k3) + 1)), (1, .long ((v1 * 31) + r_3.toInt64)), (3, .ref q), (0, .ref x)]) hx hb dX0_digest_124 hl (k := 1) rfl rfl (by decide) rfl (fun ls hl => ?_)
      refine lv_goto (tgt := 101) hx hb dX0_digest_127 (by decide) ?_
      rw [nI_1] at hl
      exact ih (k3 + 1) ((v1 * 31) + r_3.toInt64) _ _ (by omega) (by omega) hS (lv_sub hl [0, 2, 1, 3] rfl)
set_option maxHeartbeats 4000000 in
set_option maxRecDepth 100000 in
theorem c_X0_digest (l : Launch) (D : va_G) (cB cJ : ClassId) (Hp : Heap) (x n : Nat) (kn ch : Int32) (f : Nat → Int64) (hP : va_P D vwCl (wC x n cJ kn ch f) Hp) (hD9 : va_D (fun _ => True) (wC x n cJ kn ch f)) : kM l D cB cJ yX0_digest wsX0_digest rm_X0_digest (va_A (wC x n cJ kn ch f) Hp.size) Hp [.ref x] (kPd D x n cJ (va_A (wC x n cJ kn ch f) Hp.size) kn ch f) 20 2234 := by
  refine Met.ofW (cc := cX0_digest) (maxL := 5) (ret := (some .long)) (by decide) rfl ?_
  intro p e s m args below meth c s₁ B hml hv
  obtain ⟨rfl, hHp, hE⟩ := hv
  subst hHp
  have hx := B.exec
  have hb := B.bytes
  have hr := B.returns
  have hts := atoms_spec (ws := wsX0_digest) B.pre
  have hown : s.vm.findClass RX0 = some m.cls := findClass_of_methodNamed B.named
  have hlocks := B.notSynchronized
  have hK := hE.1
  have hD := hD9.self (sz := s.heap.size)
  generalize hAe : va_A (wC x n cJ kn ch f) s.heap.size = A at hE hD ⊢
  have hA : ∀ q : Nat, s.heap.size ≤ q → A q := fun q h => by rw [← hAe]; exact Or.inr h
  have hS : va_S A s.heap s.heap [] := va_S.rf
  have hl := lv_entry ([.ref x]) (n := 5) (Nat.le_of_ble_eq_true rfl)
  rw [lg_entry_eq]
  generalize (lg_sl ([.ref x]) ++ List.replicate (5 - (lg_sl ([.ref x])).length) Slot.unset).toArray = ls at hl ⊢
  have hl : lv_has ls 5 [(0, .ref x)] := hl
  refine lv_ldc2 (v := 7788) hx hb hown (hts (.constantLong RX0 130 (7788)) (by decide +kernel)) dX0_digest_0 ?_
  refine lv_lstore_n (lv' := [(1, .long 7788), (0, .ref x)]) hx hb dX0_digest_3 rfl hl (by decide) rfl (fun ls hl => ?_)
  refine lv_lload_n hx hb dX0_digest_4 rfl (lv_at hl 0 rfl) ?_
  refine lv_ldc2 (v := 31) hx hb hown (hts (.constantLong RX0 132 (31)) (by decide +kernel)) dX0_digest_5 ?_
  refine lv_lmul hx hb dX0_digest_8 ?_
  refine lv_aload_n hx hb dX0_digest_9 rfl (lv_at hl 1 rfl) ?_
  refine va_get (D := D) (ci := 2) (v := .int kn) (C := RX0) (T := TX0) (N := 3) hx hb hts iw_X0_digest_X0 hown hK hP 0 rfl rfl 1 (by decide) (hts (.fieldLink RX0 13 "Clocksolo" "knocks" "I") (by decide +kernel)) (fun _ h9 => h9) rfl dX0_digest_10 ?_
  refine lv_i2l (v := kn.toInt64) hx hb dX0_digest_13 rfl ?_
  refine lv_ladd hx hb dX0_digest_14 ?_
  refine lv_lstore_n (lv' := [(1, .long ((7788 * 31) + kn.toInt64)), (0, .ref x)]) hx hb dX0_digest_15 rfl hl (by decide) rfl (fun ls hl => ?_)
  refine lv_lload_n hx hb dX0_digest_16 rfl (lv_at hl 0 rfl) ?_
  refine lv_ldc2 (v := 31) hx hb hown (hts (.constantLong RX0 132 (31)) (by decide +kernel)) dX0_digest_17 ?_
  refine lv_lmul hx hb dX0_digest_20 ?_
  refine lv_aload_n hx hb dX0_digest_21 rfl (lv_at hl 1 rfl) ?_
  refine va_get (D := D) (ci := 2) (v := .int ch) (C := RX0) (T := TX0) (N := 3) hx hb hts iw_X0_digest_X0 hown hK hP 0 rfl rfl 2 (by decide) (hts (.fieldLink RX0 17 "Clocksolo" "changes" "I") (by decide +kernel)) (fun _ h9 => h9) rfl dX0_digest_22 ?_
  refine lv_i2l (v := ch.toInt64) hx hb dX0_digest_25 rfl ?_
  refine lv_ladd hx hb dX0_digest_26 ?_
  refine lv_lstore_n (lv' := [(1, .long ((((7788 * 31) + kn.toInt64) * 31) + ch.toInt64)), (0, .ref x)]) hx hb dX0_digest_27 rfl hl (by decide) rfl (fun ls hl => ?_)
  refine lv_iconst (v := 0) hx hb dX0_digest_28 (by decide) ?_
  refine lv_istore_n (lv' := [(3, .int 0), (1, .long ((((7788 * 31) + kn.toInt64) * 31) + ch.toInt64)), (0, .ref x)]) hx hb dX0_digest_29 rfl hl (by decide) rfl (fun ls hl => ?_)
  refine lpf_X0d1 hx hb hml hown hts hE (hP.sub [0, 1] rfl) ⟨(Nat.le_of_ble_eq_true rfl), (Nat.le_of_ble_eq_true rfl)⟩  (fun d_1 locs ls hS hl => ?_) (8 + 1) 0 ((((7788 * 31) + kn.toInt64) * 31) + ch.toInt64) _ _ (by omega) (by omega) hS (lv_sub hl [0, 1, 2] rfl)
  refine lv_iconst (v := 0) hx hb dX0_digest_52 (by decide) ?_
  refine lv_istore_n (lv' := [(3, .int 0), (1, .long d_1), (0, .ref x)]) hx hb dX0_digest_53 rfl hl (by decide) rfl (fun ls hl => ?_)
  refine lpf_X0d2 hx hb hml hown hts hE (hP.sub [0, 1] rfl) ⟨(Nat.le_of_ble_eq_true rfl), (Nat.le_of_ble_eq_true rfl)⟩  (fun d_2 locs ls hS hl => ?_) (8 + 1) 0 d_1 _ _ (by omega) (by omega) hS (lv_sub hl [0, 1, 2] rfl)
  refine lv_lload_n hx hb dX0_digest_81 rfl (lv_at hl 0 rfl) ?_
  refine lv_ldc2 (v := 31) hx hb hown (hts (.constantLong RX0 132 (31)) (by decide +kernel)) dX0_digest_82 ?_
  refine lv_lmul hx hb dX0_digest_85 ?_
  refine lv_aload_n hx hb dX0_digest_86 rfl (lv_at hl 1 rfl) ?_
  refine k_pV [] (rest := [.long (d_2 * 31)]) ⟨hx, hb, hml, hown, hts⟩ (c_X0_kinds l D cB cJ _ x n kn ch f (hP.sub [0, 1] rfl) (tk_X0_kinds kn ch f)) (cwV 0 hts gX0_digest_X0_kinds rfl rfl rfl (by decide +kernel) ⟨(Nat.le_of_ble_eq_true rfl), (Nat.le_of_ble_eq_true rfl)⟩) (va_recv hK hP (ci := 2) (q0 := 0) rfl rfl) hE hS rfl rfl hl.1 (Nat.le_of_ble_eq_true rfl) dX0_digest_87 ⟨(Nat.le_of_ble_eq_true rfl), (Nat.le_of_ble_eq_true rfl)⟩ (fun locs hS => ?_)
  refine W.eq (g2 := F0 m 90 ls [.int (j_X0_kinds kn ch f), .long (d_2 * 31)]) rfl ?_
  refine lv_i2l (v := (j_X0_kinds kn ch f).toInt64) hx hb dX0_digest_90 rfl ?_
  refine lv_ladd hx hb dX0_digest_91 ?_
  refine lv_lstore_n (lv' := [(1, .long ((d_2 * 31) + ((j_X0_kinds kn ch f).toInt64))), (0, .ref x)]) hx hb dX0_digest_92 rfl hl (by decide) rfl (fun ls hl => ?_)
  refine lv_aload_n hx hb dX0_digest_93 rfl (lv_at hl 1 rfl) ?_
  have hFc := va_free (wc := [(x, .inr (2, [.ref n, .int kn, .int ch])), (n, .inl (cJ, 8, .inr (.inl f)))]) hD hS hA [0, 1] rfl
  refine k_go (va_runV (As := []) (rest := []) ⟨hx, hb, hml, hown, hts⟩ (c_X0_order l D cB cJ _ x n kn ch f hP (hD.weaken (fun _ _ _ _ => trivial))) (cwV 0 hts gX0_digest_X0_order rfl rfl rfl (by decide +kernel) ⟨(Nat.le_of_ble_eq_true rfl), (Nat.le_of_ble_eq_true rfl)⟩) (k_preV hE hS hFc (va_recv hK hP (ci := 2) (q0 := 0) rfl rfl)) rfl rfl hl.1 rfl (lv_room (Nat.le_of_ble_eq_true rfl)) dX0_digest_94 ⟨(Nat.le_of_ble_eq_true rfl), (Nat.le_of_ble_eq_true rfl)⟩) hS (fun q _ h => hFc q h) hFc (fun v H locs hp hz hk hS => ?_)
  obtain ⟨-, q_3, n_3, u_3, f_3, hn60_3, rfl, hP1, hD1, hf_3⟩ := hp
  have hP : va_P D vwCl [(x, .inr (2, [.ref n, .int kn, .int ch])), (n, .inl (cJ, 8, .inr (.inl f))), (q_3, .inr (0, [.ref u_3, .int 0, .int 0, .int 0])), (u_3, .inl (cB, n_3, .inl f_3))] H := hP1
  have hD : va_D A [(x, .inr (2, [.ref n, .int kn, .int ch])), (n, .inl (cJ, 8, .inr (.inl f))), (q_3, .inr (0, [.ref u_3, .int 0, .int 0, .int 0])), (u_3, .inl (cB, n_3, .inl f_3))] := hD1.weaken (fun _ q _ h => hFc q.1 h)
  refine W.eq (g2 := F0 m 97 ls [.ref q_3]) rfl ?_
  refine lv_astore_n (lv' := [(3, .ref q_3), (1, .long ((d_2 * 31) + ((j_X0_kinds kn ch f).toInt64))), (0, .ref x)]) hx hb dX0_digest_97 rfl hl (by decide) rfl (fun ls hl => ?_)
  refine lv_iconst (v := 0) hx hb dX0_digest_98 (by decide) ?_
  refine lv_istore (lv' := [(4, .int 0), (3, .ref q_3), (1, .long ((d_2 * 31) + ((j_X0_kinds kn ch f).toInt64))), (0, .ref x)]) hx hb dX0_digest_99 hl (by decide) rfl (fun ls hl => ?_)
  refine lpf_X0d3 hx hb hml hown hts hE (hP.sub [2, 3] rfl) ⟨(Nat.le_of_ble_eq_true rfl), (Nat.le_of_ble_eq_true rfl)⟩ hn60_3 (fun d_4 locs ls hS hl => ?_) (n_3 + 1) 0 ((d_2 * 31) + ((j_X0_kinds kn ch f).toInt64)) _ _ (by omega) (by omega) hS (lv_sub hl [0, 1, 2, 3] rfl)
  refine lv_lload_n hx hb dX0_digest_130 rfl (lv_at hl 1 rfl) ?_
  refine lv_ldc2 (v := 31) hx hb hown (hts (.constantLong RX0 132 (31)) (by decide +kernel)) dX0_digest_131 ?_
  refine lv_lmul hx hb dX0_digest_134 ?_
  refine lv_aload_n hx hb dX0_digest_135 rfl (lv_at hl 2 rfl) ?_
  refine k_pV [] (rest := [.long (d_4 * 31)]) ⟨hx, hb, hml, hown, hts⟩ (c_X0_isSound l D cB cJ _ x n kn ch f (hP.sub [0, 1] rfl) (tk_X0_isSound kn ch f)) (cwV 0 hts gX0_digest_X0_isSound rfl rfl rfl (by decide +kernel) ⟨(Nat.le_of_ble_eq_true rfl), (Nat.le_of_ble_eq_true rfl)⟩) (va_recv hK hP (ci := 2) (q0 := 0) rfl rfl) hE hS rfl rfl hl.1 (Nat.le_of_ble_eq_true rfl) dX0_digest_136 ⟨(Nat.le_of_ble_eq_true rfl), (Nat.le_of_ble_eq_true rfl)⟩ (fun locs hS => ?_)
  refine W.eq (g2 := F0 m 139 ls [.int (j_X0_isSound kn ch f), .long (d_4 * 31)]) rfl ?_
  refine lv_if_eq (tgt := 146) hx hb dX0_digest_139 (by decide) (fun c_5 => ?_) (fun c_5 => ?_)
  · refine lv_iconst (v := 0) hx hb dX0_digest_146 (by decide) ?_
    refine lv_i2l (v := (0 : Int32).toInt64) hx hb dX0_digest_147 rfl ?_
    refine lv_ladd hx hb dX0_digest_148 ?_
    refine W.widen (k := 20) (n := 2234) (Nat.le_of_ble_eq_true rfl) (Nat.le_of_ble_eq_true rfl) ?_
    exact k_lret hx hb hr hlocks hS dX0_digest_149 ⟨⟨_, rfl⟩, hP.sub [0, 1] rfl, hD.sub [0, 1] (by decide) rfl⟩
  · refine lv_iconst (v := 1) hx hb dX0_digest_142 (by decide) ?_
    refine lv_goto (tgt := 147) hx hb dX0_digest_143 (by decide) ?_
    refine lv_i2l (v := (1 : Int32).toInt64) hx hb dX0_digest_147 rfl ?_
    refine lv_ladd hx hb dX0_digest_148 ?_
    refine W.widen (k := 20) (n := 2234) (Nat.le_of_ble_eq_true rfl) (Nat.le_of_ble_eq_true rfl) ?_
    exact k_lret hx hb hr hlocks hS dX0_digest_149 ⟨⟨_, rfl⟩, hP.sub [0, 1] rfl, hD.sub [0, 1] (by decide) rfl⟩
abbrev rm_X2_digest : Room := { frames := 7, cells := 60, slots := 4500, locals := 216 }
theorem iw_X2_digest_X2 : ∀ w ∈ wsX20, w ∈ wsX2_digest := by decide +kernel
set_option maxHeartbeats 4000000 in
set_option maxRecDepth 100000 in
theorem lpf_X2d2 {p : Program} {l : Launch} {e : Env} {s : State} {m : MethodId} {args : Array Value} {below : List Frame} {meth : Method} {c : Code} {D : va_G} {cB cJ : ClassId} {A : Nat → Prop} {y n2 : Nat} {th kn2 td : Int32} {g : Nat → Int64} {H : Heap} {cells slots : Nat} {Q : State → Prop} (hx : p.tables.exec = Jvm.exec) (hb : c.code = cX2_digest) (hml : c.maxLocals = 9) (hown : s.vm.findClass RX2 = some m.cls) (hts : ∀ w ∈ wsX2_digest, w.before args s = true) (hE : kE D cB cJ A s s.heap) (hP : va_P D vwCl [(y, .inr (4, [.int th, .ref n2, .int kn2, .int td])), (n2, .inl (cJ, 8, .inr (.inl g)))] H) (hf9 : cells ≤ rm_X2_digest.cells ∧ slots ≤ rm_X2_digest.slots) (w6 : Int64) (w5 : Int32) (kk : ∀ (v1 : Int64) (locs : List Loc) (ls : Array Slot), va_S A s.heap H locs → lv_has ls 9 [(1, .long v1), (6, .long w6), (5, .int w5), (4, .int 8), (3, .ref n2), (0, .ref y)] → W p l e rm_X2_digest s m args below meth c H locs cells slots Q (F0 m 78 ls [])) : ∀ (u9 k2 : Nat) (v1 : Int64) (locs : List Loc) (ls : Array Slot), k2 + u9 = 5 + 1 → k2 ≤ 5 → va_S A s.heap H locs → lv_has ls 9 [(8, .int (nI k2)), (1, .long v1), (6, .long w6), (5, .int w5), (4, .int 8), (3, .ref n2), (0, .ref y)] → W p l e rm_X2_digest s m args below meth c H locs cells slots Q (F0 m 53 ls []) := by
  have hK := hE.1
  intro u9
  induction u9 with
  | zero =>
    intro k2 v1 locs ls h9 h19
    exact absurd h9 (by omega)
  | succ u9 ih =>
    intro k2 v1 locs ls h9 h8 hS hl
    refine lv_iload hx hb dX2_digest_53 (lv_at hl 0 rfl) ?_
    refine lv_iconst (v := 5) hx hb dX2_digest_55 (by decide) ?_
    refine lv_icmp_ge (tgt := 78) hx hb dX2_digest_56 (by decide) (fun c_1 => ?_) (fun c_1 => ?_)
    · exact kk v1 _ _ hS (lv_sub hl [1, 2, 3, 4, 5, 6] rfl)
    · have hk2 : k2 < 5 := Nat.lt_of_not_le (fun q => c_1 (nI_le q (by omega)))
      refine lv_lload_n hx hb dX2_digest_59 rfl (lv_at hl 1 rfl) ?_
      refine lv_lload hx hb dX2_digest_60 (lv_at hl 2 rfl) ?_
      refine lv_iload hx hb dX2_digest_62 (lv_at hl 0 rfl) ?_
      refine k_pS [.long w6, .int (nI k2)] (rest := [.long v1]) ⟨hx, hb, hml, hown, hts⟩ (c_X2_part l D cB cJ _ w6 (nI k2)) (va_cwS 2 hts gX2_digest_X2_part rfl rfl rfl (by decide +kernel) ⟨(Nat.le_of_ble_eq_true rfl), (Nat.le_of_ble_eq_true rfl)⟩) hE hS rfl rfl hl.1 (Nat.le_of_ble_eq_true rfl) dX2_digest_64 hf9 (fun locs hS => ?_)
      refine W.eq (g2 := F0 m 67 ls [.int (j_X2_part w6 (nI k2)), .long v1]) rfl ?_
      refine lv_i2l (v := (j_X2_part w6 (nI k2)).toInt64) hx hb dX2_digest_67 rfl ?_
      refine k_pS [.long v1, .long ((j_X2_part w6 (nI k2)).toInt64)] (rest := []) ⟨hx, hb, hml, hown, hts⟩ (c_X2_add l D cB cJ _ v1 ((j_X2_part w6 (nI k2)).toInt64)) (va_cwS 2 hts gX2_digest_X2_add rfl rfl rfl (by decide +kernel) ⟨(Nat.le_of_ble_eq_true rfl), (Nat.le_of_ble_eq_true rfl)⟩) hE hS rfl rfl hl.1 (Nat.le_of_ble_eq_true rfl) dX2_digest_68 hf9 (fun locs hS => ?_)
      refine W.eq (g2 := F0 m 71 ls [.long (j_X2_add v1 ((j_X2_part w6 (nI k2)).toInt64))]) rfl ?_
      refine lv_lstore_n (lv' := [(1, .long (j_X2_add v1 ((j_X2_part w6 (nI k2)).toInt64))), (8, .int (nI k2)), (6, .long w6), (5, .int w5), (4, .int 8), (3, .ref n2), (0, .ref y)]) hx hb dX2_digest_71 rfl hl (by decide) rfl (fun ls hl => ?_)
      refine lv_iinc (v := ((nI k2) + 1)) (lv' := [(8, .int ((nI k2) + 1)), (1, .long (j_X2_add v1 ((j_X2_part w6 (nI k2)).toInt64))), (6, .long w6), (5, .int w5), (4, .int 8), (3, .ref n2), (0, .ref y)]) hx hb dX2_digest_72 hl (k := 1) rfl rfl (by decide) rfl (fun ls hl => ?_)
      refine lv_goto (tgt := 53) hx hb dX2_digest_75 (by decide) ?_
      rw [nI_1] at hl
      exact ih (k2 + 1) (j_X2_add v1 ((j_X2_part w6 (nI k2)).toInt64)) _ _ (by omega) (by omega) hS (lv_sub hl [0, 1, 2, 3, 4, 5, 6] rfl)
set_option maxHeartbeats 4000000 in
set_option maxRecDepth 100000 in
theorem lpf_X2d1 {p : Program} {l : Launch} {e : Env} {s : State} {m : MethodId} {args : Array Value} {below : List Frame} {meth : Method} {c : Code} {D : va_G} {cB cJ : ClassId} {A : Nat → Prop} {y n2 : Nat} {th kn2 td : Int32} {g : Nat → Int64} {H : Heap} {cells slots : Nat} {Q : State → Prop} (hx : p.tables.exec = Jvm.exec) (hb : c.code = cX2_digest) (hml : c.maxLocals = 9) (hown : s.vm.findClass RX2 = some m.cls) (hts : ∀ w ∈ wsX2_digest, w.before args s = true) (hE : kE D cB cJ A s s.heap) (hP : va_P D vwCl [(y, .inr (4, [.int th, .ref n2, .int kn2, .int td])), (n2, .inl (cJ, 8, .inr (.inl g)))] H) (hf9 : cells ≤ rm_X2_digest.cells ∧ slots ≤ rm_X2_digest.slots)  (kk : ∀ (v1 : Int64) (locs : List Loc) (ls : Array Slot), va_S A s.heap H locs → lv_has ls 9 [(4, .int 8), (3, .ref n2), (1, .long v1), (0, .ref y)] → W p l e rm_X2_digest s m args below meth c H locs cells slots Q (F0 m 91 ls [])) : ∀ (u9 k1 : Nat) (v1 : Int64) (locs : List Loc) (ls : Array Slot), k1 + u9 = 8 + 1 → k1 ≤ 8 → va_S A s.heap H locs → lv_has ls 9 [(5, .int (nI k1)), (4, .int 8), (3, .ref n2), (1, .long v1), (0, .ref y)] → W p l e rm_X2_digest s m args below meth c H locs cells slots Q (F0 m 37 ls []) := by
  have hK := hE.1
  intro u9
  induction u9 with
  | zero =>
    intro k1 v1 locs ls h9 h19
    exact absurd h9 (by omega)
  | succ u9 ih =>
    intro k1 v1 locs ls h9 h8 hS hl
    refine lv_iload hx hb dX2_digest_37 (lv_at hl 0 rfl) ?_
    refine lv_iload hx hb dX2_digest_39 (lv_at hl 1 rfl) ?_
    refine lv_icmp_ge (tgt := 91) hx hb dX2_digest_41 (by decide) (fun c_1 => ?_) (fun c_1 => ?_)
    · exact kk v1 _ _ hS (lv_sub hl [1, 2, 3, 4] rfl)
    · have hk1 : k1 < 8 := Nat.lt_of_not_le (fun q => c_1 (nI_le q (by omega)))
      refine lv_aload_n hx hb dX2_digest_44 rfl (lv_at hl 2 rfl) ?_
      refine lv_iload hx hb dX2_digest_45 (lv_at hl 0 rfl) ?_
      refine va_lald hx hb hK hP 1 1 rfl rfl (vp_in_nI hk1 (by decide)) dX2_digest_47 ?_
      refine lv_lstore (lv' := [(6, .long (g (nI k1).toNatClampNeg)), (5, .int (nI k1)), (4, .int 8), (3, .ref n2), (1, .long v1), (0, .ref y)]) hx hb dX2_digest_48 hl (by decide) rfl (fun ls hl => ?_)
      refine lv_iconst (v := 0) hx hb dX2_digest_50 (by decide) ?_
      refine lv_istore (lv' := [(8, .int 0), (6, .long (g (nI k1).toNatClampNeg)), (5, .int (nI k1)), (4, .int 8), (3, .ref n2), (1, .long v1), (0, .ref y)]) hx hb dX2_digest_51 hl (by decide) rfl (fun ls hl => ?_)
      refine lpf_X2d2 hx hb hml hown hts hE (hP.sub [0, 1] rfl) hf9 (g (nI k1).toNatClampNeg) (nI k1) (fun d_2 locs ls hS hl => ?_) (5 + 1) 0 v1 _ _ (by omega) (by omega) hS (lv_sub hl [0, 5, 1, 2, 3, 4, 6] rfl)
      refine lv_lload_n hx hb dX2_digest_78 rfl (lv_at hl 0 rfl) ?_
      refine lv_lload hx hb dX2_digest_79 (lv_at hl 1 rfl) ?_
      refine k_pS [.long d_2, .long (g (nI k1).toNatClampNeg)] (rest := []) ⟨hx, hb, hml, hown, hts⟩ (c_X2_add l D cB cJ _ d_2 (g (nI k1).toNatClampNeg)) (va_cwS 2 hts gX2_digest_X2_add rfl rfl rfl (by decide +kernel) ⟨(Nat.le_of_ble_eq_true rfl), (Nat.le_of_ble_eq_true rfl)⟩) hE hS rfl rfl hl.1 (Nat.le_of_ble_eq_true rfl) dX2_digest_81 hf9 (fun locs hS => ?_)
      refine W.eq (g2 := F0 m 84 ls [.long (j_X2_add d_2 (g (nI k1).toNatClampNeg))]) rfl ?_
      refine lv_lstore_n (lv' := [(1, .long (j_X2_add d_2 (g (nI k1).toNatClampNeg))), (6, .long (g (nI k1).toNatClampNeg)), (5, .int (nI k1)), (4, .int 8), (3, .ref n2), (0, .ref y)]) hx hb dX2_digest_84 rfl hl (by decide) rfl (fun ls hl => ?_)
      refine lv_iinc (v := ((nI k1) + 1)) (lv' := [(5, .int ((nI k1) + 1)), (1, .long (j_X2_add d_2 (g (nI k1).toNatClampNeg))), (6, .long (g (nI k1).toNatClampNeg)), (4, .int 8), (3, .ref n2), (0, .ref y)]) hx hb dX2_digest_85 hl (k := 2) rfl rfl (by decide) rfl (fun ls hl => ?_)
      refine lv_goto (tgt := 37) hx hb dX2_digest_88 (by decide) ?_
      rw [nI_1] at hl
      exact ih (k1 + 1) (j_X2_add d_2 (g (nI k1).toNatClampNeg)) _ _ (by omega) (by omega) hS (lv_sub hl [0, 3, 4, 1, 5] rfl)
set_option maxHeartbeats 4000000 in
set_option maxRecDepth 100000 in
theorem lpf_X2d4 {p : Program} {l : Launch} {e : Env} {s : State} {m : MethodId} {args : Array Value} {below : List Frame} {meth : Method} {c : Code} {D : va_G} {cB cJ : ClassId} {A : Nat → Prop} {y n2 : Nat} {th kn2 td : Int32} {g : Nat → Int64} {H : Heap} {cells slots : Nat} {Q : State → Prop} (hx : p.tables.exec = Jvm.exec) (hb : c.code = cX2_digest) (hml : c.maxLocals = 9) (hown : s.vm.findClass RX2 = some m.cls) (hts : ∀ w ∈ wsX2_digest, w.before args s = true) (hE : kE D cB cJ A s s.heap) (hP : va_P D vwCl [(y, .inr (4, [.int th, .ref n2, .int kn2, .int td])), (n2, .inl (cJ, 8, .inr (.inl g)))] H) (hf9 : cells ≤ rm_X2_digest.cells ∧ slots ≤ rm_X2_digest.slots) {k3 : Nat} (hk3 : k3 < 8) (kk : ∀ (v1 : Int64) (locs : List Loc) (ls : Array Slot), va_S A s.heap H locs → lv_has ls 9 [(3, .int (nI k3)), (1, .long v1), (0, .ref y)] → W p l e rm_X2_digest s m args below meth c H locs cells slots Q (F0 m 149 ls [])) : ∀ (u9 k4 : Nat) (v1 : Int64) (locs : List Loc) (ls : Array Slot), k4 + u9 = 7 + 1 → k4 ≤ 7 → va_S A s.heap H locs → lv_has ls 9 [(4, .int (nI k4)), (3, .int (nI k3)), (1, .long v1), (0, .ref y)] → W p l e rm_X2_digest s m args below meth c H locs cells slots Q (F0 m 123 ls []) := by
  have hK := hE.1
  intro u9
  induction u9 with
  | zero =>
    intro k4 v1 locs ls h9 h19
    exact absurd h9 (by omega)
  | succ u9 ih =>
    intro k4 v1 locs ls h9 h8 hS hl
    refine lv_iload hx hb dX2_digest_123 (lv_at hl 0 rfl) ?_
    refine lv_bipush (v := 7) hx hb dX2_digest_125 (by decide) ?_
    refine lv_icmp_ge (tgt := 149) hx hb dX2_digest_127 (by decide) (fun c_1 => ?_) (fun c_1 => ?_)
    · exact kk v1 _ _ hS (lv_sub hl [1, 2, 3] rfl)
    · have hk4 : k4 < 7 := Nat.lt_of_not_le (fun q => c_1 (nI_le q (by omega)))
      refine lv_lload_n hx hb dX2_digest_130 rfl (lv_at hl 2 rfl) ?_
      refine lv_aload_n hx hb dX2_digest_131 rfl (lv_at hl 3 rfl) ?_
      refine lv_iconst (v := 0) hx hb dX2_digest_132 (by decide) ?_
      refine lv_iload_n hx hb dX2_digest_133 rfl (lv_at hl 1 rfl) ?_
      refine lv_iload hx hb dX2_digest_134 (lv_at hl 0 rfl) ?_
      refine k_pV [.int 0, .int (nI k3), .int (nI k4)] (rest := [.long v1]) ⟨hx, hb, hml, hown, hts⟩ (c_X2_apart l D cB cJ _ y n2 th g kn2 td (hP.sub [0, 1] rfl) 0 (nI k3) (nI k4) (tkm_apart th g kn2 td  0 (nI k3) (nI k4) 0 k3 k4 nI_0.symm rfl rfl (by decide) hk3 (by omega))) (cwV 3 hts gX2_digest_X2_apart rfl rfl rfl (by decide +kernel) ⟨(Nat.le_of_ble_eq_true rfl), (Nat.le_of_ble_eq_true rfl)⟩) (va_recv hK hP (ci := 4) (q0 := 0) rfl rfl) hE hS rfl rfl hl.1 (Nat.le_of_ble_eq_true rfl) dX2_digest_136 hf9 (fun locs hS => ?_)
      refine W.eq (g2 := F0 m 139 ls [.long (j_X2_apart th g kn2 td 0 (nI k3) (nI k4)), .long v1]) rfl ?_
      refine k_pS [.long v1, .long (j_X2_apart th g kn2 td 0 (nI k3) (nI k4))] (rest := []) ⟨hx, hb, hml, hown, hts⟩ (c_X2_add l D cB cJ _ v1 (j_X2_apart th g kn2 td 0 (nI k3) (nI k4))) (va_cwS 2 hts gX2_digest_X2_add rfl rfl rfl (by decide +kernel) ⟨(Nat.le_of_ble_eq_true rfl), (Nat.le_of_ble_eq_true rfl)⟩) hE hS rfl rfl hl.1 (Nat.le_of_ble_eq_true rfl) dX2_digest_139 hf9 (fun locs hS => ?_)
      refine W.eq (g2 := F0 m 142 ls [.long (j_X2_add v1 (j_X2_apart th g kn2 td 0 (nI k3) (nI k4)))]) rfl ?_
      refine lv_lstore_n (lv' := [(1, .long (j_X2_add v1 (j_X2_apart th g kn2 td 0 (nI k3) (nI k4)))), (4, .int (nI k4)), (3, .int (nI k3)), (0, .ref y)]) hx hb dX2_digest_142 rfl hl (by decide) rfl (fun ls hl => ?_)
      refine lv_iinc (v := ((nI k4) + 1)) (lv' := [(4, .int ((nI k4) + 1)), (1, .long (j_X2_add v1 (j_X2_apart th g kn2 td 0 (nI k3) (nI k4)))), (3, .int (nI k3)), (0, .ref y)]) hx hb dX2_digest_143 hl (k := 1) rfl rfl (by decide) rfl (fun ls hl => ?_)
      refine lv_goto (tgt := 123) hx hb dX2_digest_146 (by decide) ?_
      rw [nI_1] at hl
      exact ih (k4 + 1) (j_X2_add v1 (j_X2_apart th g kn2 td 0 (nI k3) (nI k4))) _ _ (by omega) (by omega) hS (lv_sub hl [0, 2, 1, 3] rfl)
set_option maxHeartbeats 4000000 in
set_option maxRecDepth 100000 in
theorem lpf_X2d3 {p : Program} {l : Launch} {e : Env} {s : State} {m : MethodId} {args : Array Value} {below : List Frame} {meth : Method} {c : Code} {D : va_G} {cB cJ : ClassId} {A : Nat → Prop} {y n2 : Nat} {th kn2 td : Int32} {g : Nat → Int64} {H : Heap} {cells slots : Nat} {Q : State → Prop} (hx : p.tables.exec = Jvm.exec) (hb : c.code = cX2_digest) (hml : c.maxLocals = 9) (hown : s.vm.findClass RX2 = some m.cls) (hts : ∀ w ∈ wsX2_digest, w.before args s = true) (hE : kE D cB cJ A s s.heap) (hP : va_P D vwCl [(y, .inr (4, [.int th, .ref n2, .int kn2, .int td])), (n2, .inl (cJ, 8, .inr (.inl g)))] H) (hf9 : cells ≤ rm_X2_digest.cells ∧ slots ≤ rm_X2_digest.slots)  (kk : ∀ (v1 : Int64) (locs : List Loc) (ls : Array Slot), va_S A s.heap H locs → lv_has ls 9 [(1, .long v1), (0, .ref y)] → W p l e rm_X2_digest s m args below meth c H locs cells slots Q (F0 m 155 ls [])) : ∀ (u9 k3 : Nat) (v1 : Int64) (locs : List Loc) (ls : Array Slot), k3 + u9 = 8 + 1 → k3 ≤ 8 → va_S A s.heap H locs → lv_has ls 9 [(3, .int (nI k3)), (1, .long v1), (0, .ref y)] → W p l e rm_X2_digest s m args below meth c H locs cells slots Q (F0 m 93 ls []) := by
  have hK := hE.1
  intro u9
  induction u9 with
  | zero =>
    intro k3 v1 locs ls h9 h19
    exact absurd h9 (by omega)
  | succ u9 ih =>
    intro k3 v1 locs ls h9 h8 hS hl
    refine lv_iload_n hx hb dX2_digest_93 rfl (lv_at hl 0 rfl) ?_
    refine lv_bipush (v := 8) hx hb dX2_digest_94 (by decide) ?_
    refine lv_icmp_ge (tgt := 155) hx hb dX2_digest_96 (by decide) (fun c_1 => ?_) (fun c_1 => ?_)
    · exact kk v1 _ _ hS (lv_sub hl [1, 2] rfl)
    · have hk3 : k3 < 8 := Nat.lt_of_not_le (fun q => c_1 (nI_le q (by omega)))
      refine lv_lload_n hx hb dX2_digest_99 rfl (lv_at hl 1 rfl) ?_
      refine lv_aload_n hx hb dX2_digest_100 rfl (lv_at hl 2 rfl) ?_
      refine va_get (D := D) (ci := 4) (v := .ref n2) (C := RX2) (T := TX2) (N := 4) hx hb hts iw_X2_digest_X2 hown hK hP 0 rfl rfl 1 (by decide) (hts (.fieldLink RX2 9 "ClocksoloModel" "its" "[J") (by decide +kernel)) (fun _ h9 => h9) rfl dX2_digest_101 ?_
      refine lv_iconst (v := 0) hx hb dX2_digest_104 (by decide) ?_
      refine va_lald hx hb hK hP 1 1 rfl rfl (show vp_in (nI 0) 8 from vp_in_nI (by decide) (by decide)) dX2_digest_105 ?_
      refine lv_aload_n hx hb dX2_digest_106 rfl (lv_at hl 2 rfl) ?_
      refine va_get (D := D) (ci := 4) (v := .ref n2) (C := RX2) (T := TX2) (N := 4) hx hb hts iw_X2_digest_X2 hown hK hP 0 rfl rfl 1 (by decide) (hts (.fieldLink RX2 9 "ClocksoloModel" "its" "[J") (by decide +kernel)) (fun _ h9 => h9) rfl dX2_digest_107 ?_
      refine lv_iload_n hx hb dX2_digest_110 rfl (lv_at hl 0 rfl) ?_
      refine va_lald hx hb hK hP 1 1 rfl rfl (vp_in_nI hk3 (by decide)) dX2_digest_111 ?_
      refine k_pS [.long (g (0 : Int32).toNatClampNeg), .long (g (nI k3).toNatClampNeg)] (rest := [.long v1]) ⟨hx, hb, hml, hown, hts⟩ (c_X2_order l D cB cJ _ (g (0 : Int32).toNatClampNeg) (g (nI k3).toNatClampNeg)) (va_cwS 2 hts gX2_digest_X2_order rfl rfl rfl (by decide +kernel) ⟨(Nat.le_of_ble_eq_true rfl), (Nat.le_of_ble_eq_true rfl)⟩) hE hS rfl rfl hl.1 (Nat.le_of_ble_eq_true rfl) dX2_digest_112 hf9 (fun locs hS => ?_)
      refine W.eq (g2 := F0 m 115 ls [.int (j_X2_order (g (0 : Int32).toNatClampNeg) (g (nI k3).toNatClampNeg)), .long v1]) rfl ?_
      refine lv_i2l (v := (j_X2_order (g (0 : Int32).toNatClampNeg) (g (nI k3).toNatClampNeg)).toInt64) hx hb dX2_digest_115 rfl ?_
      refine k_pS [.long v1, .long ((j_X2_order (g (0 : Int32).toNatClampNeg) (g (nI k3).toNatClampNeg)).toInt64)] (rest := []) ⟨hx, hb, hml, hown, hts⟩ (c_X2_add l D cB cJ _ v1 ((j_X2_order (g (0 : Int32).toNatClampNeg) (g (nI k3).toNatClampNeg)).toInt64)) (va_cwS 2 hts gX2_digest_X2_add rfl rfl rfl (by decide +kernel) ⟨(Nat.le_of_ble_eq_true rfl), (Nat.le_of_ble_eq_true rfl)⟩) hE hS rfl rfl hl.1 (Nat.le_of_ble_eq_true rfl) dX2_digest_116 hf9 (fun locs hS => ?_)
      refine W.eq (g2 := F0 m 119 ls [.long (j_X2_add v1 ((j_X2_order (g (0 : Int32).toNatClampNeg) (g (nI k3).toNatClampNeg)).toInt64))]) rfl ?_
      refine lv_lstore_n (lv' := [(1, .long (j_X2_add v1 ((j_X2_order (g (0 : Int32).toNatClampNeg) (g (nI k3).toNatClampNeg)).toInt64))), (3, .int (nI k3)), (0, .ref y)]) hx hb dX2_digest_119 rfl hl (by decide) rfl (fun ls hl => ?_)
      refine lv_iconst (v := 0) hx hb dX2_digest_120 (by decide) ?_
      refine lv_istore (lv' := [(4, .int 0), (1, .long (j_X2_add v1 ((j_X2_order (g (0 : Int32).toNatClampNeg) (g (nI k3).toNatClampNeg)).toInt64))), (3, .int (nI k3)), (0, .ref y)]) hx hb dX2_digest_121 hl (by decide) rfl (fun ls hl => ?_)
      refine lpf_X2d4 hx hb hml hown hts hE (hP.sub [0, 1] rfl) hf9 hk3 (fun d_2 locs ls hS hl => ?_) (7 + 1) 0 (j_X2_add v1 ((j_X2_order (g (0 : Int32).toNatClampNeg) (g (nI k3).toNatClampNeg)).toInt64)) _ _ (by omega) (by omega) hS (lv_sub hl [0, 2, 1, 3] rfl)
      refine lv_iinc (v := ((nI k3) + 1)) (lv' := [(3, .int ((nI k3) + 1)), (1, .long d_2), (0, .ref y)]) hx hb dX2_digest_149 hl (k := 0) rfl rfl (by decide) rfl (fun ls hl => ?_)
      refine lv_goto (tgt := 93) hx hb dX2_digest_152 (by decide) ?_
      rw [nI_1] at hl
      exact ih (k3 + 1) d_2 _ _ (by omega) (by omega) hS (lv_sub hl [0, 1, 2] rfl)
set_option maxHeartbeats 4000000 in
set_option maxRecDepth 100000 in
theorem lpf_X2d5 {p : Program} {l : Launch} {e : Env} {s : State} {m : MethodId} {args : Array Value} {below : List Frame} {meth : Method} {c : Code} {D : va_G} {cB cJ : ClassId} {A : Nat → Prop} {y q u nn : Nat} {f : Nat → Int32} {H : Heap} {cells slots : Nat} {Q : State → Prop} (hx : p.tables.exec = Jvm.exec) (hb : c.code = cX2_digest) (hml : c.maxLocals = 9) (hown : s.vm.findClass RX2 = some m.cls) (hts : ∀ w ∈ wsX2_digest, w.before args s = true) (hE : kE D cB cJ A s s.heap) (hP : va_P D vwCl [(q, .inr (0, [.ref u, .int 0, .int 0, .int 0])), (u, .inl (cB, nn, .inl f))] H) (hf9 : cells ≤ rm_X2_digest.cells ∧ slots ≤ rm_X2_digest.slots) (hn60 : nn ≤ 60) (kk : ∀ (v1 : Int64) (locs : List Loc) (ls : Array Slot), va_S A s.heap H locs → lv_has ls 9 [(3, .ref q), (1, .long v1), (0, .ref y)] → W p l e rm_X2_digest s m args below meth c H locs cells slots Q (F0 m 200 ls [])) : ∀ (u9 k5 : Nat) (v1 : Int64) (locs : List Loc) (ls : Array Slot), k5 + u9 = nn + 1 → k5 ≤ nn → va_S A s.heap H locs → lv_has ls 9 [(4, .int (nI k5)), (3, .ref q), (1, .long v1), (0, .ref y)] → W p l e rm_X2_digest s m args below meth c H locs cells slots Q (F0 m 173 ls []) := by
  have hK := hE.1
  intro u9
  induction u9 with
  | zero =>
    intro k5 v1 locs ls h9 h19
    exact absurd h9 (by omega)
  | succ u9 ih =>
    intro k5 v1 locs ls h9 h8 hS hl
    refine lv_iload hx hb dX2_digest_173 (lv_at hl 0 rfl) ?_
    refine lv_aload_n hx hb dX2_digest_175 rfl (lv_at hl 1 rfl) ?_
    refine k_go (va_runV (As := []) (rest := [.int (nI k5)]) ⟨hx, hb, hml, hown, hts⟩ (cw_J0_length_8abf5 l D cB cJ _ q u nn f (hP.sub [0, 1] rfl)) (cwV 0 hts gX2_digest_J0_length_8abf5 rfl rfl rfl (by decide +kernel) ⟨(Nat.le_of_ble_eq_true rfl), (Nat.le_of_ble_eq_true rfl)⟩) (k_preV hE hS (fun _ h => h.elim) (va_recv hK hP (ci := 0) (q0 := 0) rfl rfl)) rfl rfl hl.1 rfl (lv_room (Nat.le_of_ble_eq_true rfl)) dX2_digest_176 hf9) hS (fun q _ h => h.elim) (fun q h => h.elim) (fun v9 H1 locs hp hz hk hS9_2 => ?_)
    obtain ⟨rfl, rfl⟩ := hp
    have hS := hS9_2
    refine W.eq (g2 := F0 m 179 ls [.int (nI nn), .int (nI k5)]) rfl ?_
    refine lv_icmp_ge (tgt := 200) hx hb dX2_digest_179 (by decide) (fun c_2 => ?_) (fun c_2 => ?_)
    · exact kk v1 _ _ hS (lv_sub hl [1, 2, 3] rfl)
    · have hk5 : k5 < nn := Nat.lt_of_not_le (fun q => c_2 (nI_le q (by omega)))
      refine lv_lload_n hx hb dX2_digest_182 rfl (lv_at hl 2 rfl) ?_
      refine lv_aload_n hx hb dX2_digest_183 rfl (lv_at hl 1 rfl) ?_
      refine lv_iload hx hb dX2_digest_184 (lv_at hl 0 rfl) ?_
      refine k_go (va_runV (As := [.int (nI k5)]) (rest := [.long v1]) ⟨hx, hb, hml, hown, hts⟩ (cw_J0_charAt_5068e l D cB cJ _ q u nn f k5 (hP.sub [0, 1] rfl) hk5 (by omega)) (cwV 1 hts gX2_digest_J0_charAt_5068e rfl rfl rfl (by decide +kernel) ⟨(Nat.le_of_ble_eq_true rfl), (Nat.le_of_ble_eq_true rfl)⟩) (k_preV hE hS (fun _ h => h.elim) (va_recv hK hP (ci := 0) (q0 := 0) rfl rfl)) rfl rfl hl.1 rfl (lv_room (Nat.le_of_ble_eq_true rfl)) dX2_digest_186 hf9) hS (fun q _ h => h.elim) (fun q h => h.elim) (fun v9 H1 locs hp hz hk hS9_12 => ?_)
      obtain ⟨⟨r_3, rfl, -⟩, rfl⟩ := hp
      have hS := hS9_12
      refine W.eq (g2 := F0 m 189 ls [.int r_3, .long v1]) rfl ?_
      refine lv_i2l (v := r_3.toInt64) hx hb dX2_digest_189 rfl ?_
      refine k_pS [.long v1, .long r_3.toInt64] (rest := []) ⟨hx, hb, hml, hown, hts⟩ (c_X2_add l D cB cJ _ v1 r_3.toInt64) (va_cwS 2 hts gX2_digest_X2_add rfl rfl rfl (by decide +kernel) ⟨(Nat.le_of_ble_eq_true rfl), (Nat.le_of_ble_eq_true rfl)⟩) hE hS rfl rfl hl.1 (Nat.le_of_ble_eq_true rfl) dX2_digest_190 hf9 (fun locs hS => ?_)
      refine W.eq (g2 := F0 m 193 ls [.long (j_X2_add v1 r_3.toInt64)]) rfl ?_
      refine lv_lstore_n (lv' := [(1, .long (j_X2_add v1 r_3.toInt64)), (4, .int (nI k5)), (3, .ref q), (0, .ref y)]) hx hb dX2_digest_193 rfl hl (by decide) rfl (fun ls hl => ?_)
      refine lv_iinc (v := ((nI k5) + 1)) (lv' := [(4, .int ((nI k5) + 1)), (1, .long (j_X2_add v1 r_3.toInt64)), (3, .ref q), (0, .ref y)]) hx hb dX2_digest_194 hl (k := 1) rfl rfl (by decide) rfl (fun ls hl => ?_)
      refine lv_goto (tgt := 173) hx hb dX2_digest_197 (by decide) ?_
      rw [nI_1] at hl
      exact ih (k5 + 1) (j_X2_add v1 r_3.toInt64) _ _ (by omega) (by omega) hS (lv_sub hl [0, 2, 1, 3] rfl)
set_option maxHeartbeats 4000000 in
set_option maxRecDepth 100000 in
theorem c_X2_digest (l : Launch) (D : va_G) (cB cJ : ClassId) (Hp : Heap) (y n2 : Nat) (th : Int32) (g : Nat → Int64) (kn2 td : Int32) (hP : va_P D vwCl (wMo y n2 cJ th g kn2 td) Hp) (hD9 : va_D (fun _ => True) (wMo y n2 cJ th g kn2 td)) : kM l D cB cJ yX2_digest wsX2_digest rm_X2_digest (va_A (wMo y n2 cJ th g kn2 td) Hp.size) Hp [.ref y] (kPdm D y n2 cJ (va_A (wMo y n2 cJ th g kn2 td) Hp.size) 0 g kn2 td) 60 4500 := by
  refine Met.ofW (cc := cX2_digest) (maxL := 9) (ret := (some .long)) (by decide) rfl ?_
  intro p e s m args below meth c s₁ B hml hv
  obtain ⟨rfl, hHp, hE⟩ := hv
  subst hHp
  have hx := B.exec
  have hb := B.bytes
  have hr := B.returns
  have hts := atoms_spec (ws := wsX2_digest) B.pre
  have hown : s.vm.findClass RX2 = some m.cls := findClass_of_methodNamed B.named
  have hlocks := B.notSynchronized
  have hK := hE.1
  have hD := hD9.self (sz := s.heap.size)
  generalize hAe : va_A (wMo y n2 cJ th g kn2 td) s.heap.size = A at hE hD ⊢
  have hA : ∀ q : Nat, s.heap.size ≤ q → A q := fun q h => by rw [← hAe]; exact Or.inr h
  have hS : va_S A s.heap s.heap [] := va_S.rf
  have hl := lv_entry ([.ref y]) (n := 9) (Nat.le_of_ble_eq_true rfl)
  rw [lg_entry_eq]
  generalize (lg_sl ([.ref y]) ++ List.replicate (9 - (lg_sl ([.ref y])).length) Slot.unset).toArray = ls at hl ⊢
  have hl : lv_has ls 9 [(0, .ref y)] := hl
  refine lv_aload_n hx hb dX2_digest_0 rfl (lv_at hl 0 rfl) ?_
  refine lv_iconst (v := 0) hx hb dX2_digest_1 (by decide) ?_
  refine va_put (D := D) (ci := 4) (v := .int 0) (ty := .int) (C := RX2) (T := TX2) (N := 4) hx hb hts iw_X2_digest_X2 tyX2 tyX2_ok nmX2 hown hK hP hD hS 0 rfl rfl 0 (by decide) (hts (.fieldLink RX2 13 "ClocksoloModel" "thrown" "I") (by decide +kernel)) (fun _ h9 => h9) rfl (by decide +kernel) rfl rfl (Nat.le_of_ble_eq_true rfl) dX2_digest_2 (fun H locs hP hD hS => ?_)
  have hP : va_P D vwCl [(y, .inr (4, [.int 0, .ref n2, .int kn2, .int td])), (n2, .inl (cJ, 8, .inr (.inl g)))] H := hP
  have hD : va_D A [(y, .inr (4, [.int 0, .ref n2, .int kn2, .int td])), (n2, .inl (cJ, 8, .inr (.inl g)))] := hD
  refine lv_ldc2 (v := 7788) hx hb hown (hts (.constantLong RX2 126 (7788)) (by decide +kernel)) dX2_digest_5 ?_
  refine lv_aload_n hx hb dX2_digest_8 rfl (lv_at hl 0 rfl) ?_
  refine va_get (D := D) (ci := 4) (v := .int kn2) (C := RX2) (T := TX2) (N := 4) hx hb hts iw_X2_digest_X2 hown hK hP 0 rfl rfl 2 (by decide) (hts (.fieldLink RX2 117 "ClocksoloModel" "knocks" "I") (by decide +kernel)) (fun _ h9 => h9) rfl dX2_digest_9 ?_
  refine lv_i2l (v := kn2.toInt64) hx hb dX2_digest_12 rfl ?_
  refine k_pS [.long 7788, .long kn2.toInt64] (rest := []) ⟨hx, hb, hml, hown, hts⟩ (c_X2_add l D cB cJ _ 7788 kn2.toInt64) (va_cwS 2 hts gX2_digest_X2_add rfl rfl rfl (by decide +kernel) ⟨(Nat.le_of_ble_eq_true rfl), (Nat.le_of_ble_eq_true rfl)⟩) hE hS rfl rfl hl.1 (Nat.le_of_ble_eq_true rfl) dX2_digest_13 ⟨(Nat.le_of_ble_eq_true rfl), (Nat.le_of_ble_eq_true rfl)⟩ (fun locs hS => ?_)
  refine W.eq (g2 := F0 m 16 ls [.long (j_X2_add 7788 kn2.toInt64)]) rfl ?_
  refine lv_aload_n hx hb dX2_digest_16 rfl (lv_at hl 0 rfl) ?_
  refine va_get (D := D) (ci := 4) (v := .int td) (C := RX2) (T := TX2) (N := 4) hx hb hts iw_X2_digest_X2 hown hK hP 0 rfl rfl 3 (by decide) (hts (.fieldLink RX2 35 "ClocksoloModel" "told" "I") (by decide +kernel)) (fun _ h9 => h9) rfl dX2_digest_17 ?_
  refine lv_i2l (v := td.toInt64) hx hb dX2_digest_20 rfl ?_
  refine k_pS [.long (j_X2_add 7788 kn2.toInt64), .long td.toInt64] (rest := []) ⟨hx, hb, hml, hown, hts⟩ (c_X2_add l D cB cJ _ (j_X2_add 7788 kn2.toInt64) td.toInt64) (va_cwS 2 hts gX2_digest_X2_add rfl rfl rfl (by decide +kernel) ⟨(Nat.le_of_ble_eq_true rfl), (Nat.le_of_ble_eq_true rfl)⟩) hE hS rfl rfl hl.1 (Nat.le_of_ble_eq_true rfl) dX2_digest_21 ⟨(Nat.le_of_ble_eq_true rfl), (Nat.le_of_ble_eq_true rfl)⟩ (fun locs hS => ?_)
  refine W.eq (g2 := F0 m 24 ls [.long (j_X2_add (j_X2_add 7788 kn2.toInt64) td.toInt64)]) rfl ?_
  refine lv_lstore_n (lv' := [(1, .long (j_X2_add (j_X2_add 7788 kn2.toInt64) td.toInt64)), (0, .ref y)]) hx hb dX2_digest_24 rfl hl (by decide) rfl (fun ls hl => ?_)
  refine lv_aload_n hx hb dX2_digest_25 rfl (lv_at hl 1 rfl) ?_
  refine va_get (D := D) (ci := 4) (v := .ref n2) (C := RX2) (T := TX2) (N := 4) hx hb hts iw_X2_digest_X2 hown hK hP 0 rfl rfl 1 (by decide) (hts (.fieldLink RX2 9 "ClocksoloModel" "its" "[J") (by decide +kernel)) (fun _ h9 => h9) rfl dX2_digest_26 ?_
  refine lv_astore_n (lv' := [(3, .ref n2), (1, .long (j_X2_add (j_X2_add 7788 kn2.toInt64) td.toInt64)), (0, .ref y)]) hx hb dX2_digest_29 rfl hl (by decide) rfl (fun ls hl => ?_)
  refine lv_aload_n hx hb dX2_digest_30 rfl (lv_at hl 0 rfl) ?_
  refine va_alen hx hb hK hP 1 1 rfl rfl (v := 8) rfl dX2_digest_31 ?_
  refine lv_istore (lv' := [(4, .int 8), (3, .ref n2), (1, .long (j_X2_add (j_X2_add 7788 kn2.toInt64) td.toInt64)), (0, .ref y)]) hx hb dX2_digest_32 hl (by decide) rfl (fun ls hl => ?_)
  refine lv_iconst (v := 0) hx hb dX2_digest_34 (by decide) ?_
  refine lv_istore (lv' := [(5, .int 0), (4, .int 8), (3, .ref n2), (1, .long (j_X2_add (j_X2_add 7788 kn2.toInt64) td.toInt64)), (0, .ref y)]) hx hb dX2_digest_35 hl (by decide) rfl (fun ls hl => ?_)
  refine lpf_X2d1 hx hb hml hown hts hE (hP.sub [0, 1] rfl) ⟨(Nat.le_of_ble_eq_true rfl), (Nat.le_of_ble_eq_true rfl)⟩  (fun d_1 locs ls hS hl => ?_) (8 + 1) 0 (j_X2_add (j_X2_add 7788 kn2.toInt64) td.toInt64) _ _ (by omega) (by omega) hS (lv_sub hl [0, 1, 2, 3, 4] rfl)
  refine lv_iconst (v := 0) hx hb dX2_digest_91 (by decide) ?_
  refine lv_istore_n (lv' := [(3, .int 0), (4, .int 8), (1, .long d_1), (0, .ref y)]) hx hb dX2_digest_92 rfl hl (by decide) rfl (fun ls hl => ?_)
  refine lpf_X2d3 hx hb hml hown hts hE (hP.sub [0, 1] rfl) ⟨(Nat.le_of_ble_eq_true rfl), (Nat.le_of_ble_eq_true rfl)⟩  (fun d_2 locs ls hS hl => ?_) (8 + 1) 0 d_1 _ _ (by omega) (by omega) hS (lv_sub hl [0, 2, 3] rfl)
  refine lv_lload_n hx hb dX2_digest_155 rfl (lv_at hl 0 rfl) ?_
  refine lv_aload_n hx hb dX2_digest_156 rfl (lv_at hl 1 rfl) ?_
  refine k_pV [] (rest := [.long d_2]) ⟨hx, hb, hml, hown, hts⟩ (c_X2_unlike l D cB cJ _ y n2 0 g kn2 td (hP.sub [0, 1] rfl) (tkm_unlike 0 g kn2 td)) (cwV 0 hts gX2_digest_X2_unlike rfl rfl rfl (by decide +kernel) ⟨(Nat.le_of_ble_eq_true rfl), (Nat.le_of_ble_eq_true rfl)⟩) (va_recv hK hP (ci := 4) (q0 := 0) rfl rfl) hE hS rfl rfl hl.1 (Nat.le_of_ble_eq_true rfl) dX2_digest_157 ⟨(Nat.le_of_ble_eq_true rfl), (Nat.le_of_ble_eq_true rfl)⟩ (fun locs hS => ?_)
  refine W.eq (g2 := F0 m 160 ls [.int (j_X2_unlike 0 g kn2 td), .long d_2]) rfl ?_
  refine lv_i2l (v := (j_X2_unlike 0 g kn2 td).toInt64) hx hb dX2_digest_160 rfl ?_
  refine k_pS [.long d_2, .long ((j_X2_unlike 0 g kn2 td).toInt64)] (rest := []) ⟨hx, hb, hml, hown, hts⟩ (c_X2_add l D cB cJ _ d_2 ((j_X2_unlike 0 g kn2 td).toInt64)) (va_cwS 2 hts gX2_digest_X2_add rfl rfl rfl (by decide +kernel) ⟨(Nat.le_of_ble_eq_true rfl), (Nat.le_of_ble_eq_true rfl)⟩) hE hS rfl rfl hl.1 (Nat.le_of_ble_eq_true rfl) dX2_digest_161 ⟨(Nat.le_of_ble_eq_true rfl), (Nat.le_of_ble_eq_true rfl)⟩ (fun locs hS => ?_)
  refine W.eq (g2 := F0 m 164 ls [.long (j_X2_add d_2 ((j_X2_unlike 0 g kn2 td).toInt64))]) rfl ?_
  refine lv_lstore_n (lv' := [(1, .long (j_X2_add d_2 ((j_X2_unlike 0 g kn2 td).toInt64))), (0, .ref y)]) hx hb dX2_digest_164 rfl hl (by decide) rfl (fun ls hl => ?_)
  refine lv_aload_n hx hb dX2_digest_165 rfl (lv_at hl 1 rfl) ?_
  have hFc := va_free (wc := [(y, .inr (4, [.int 0, .ref n2, .int kn2, .int td])), (n2, .inl (cJ, 8, .inr (.inl g)))]) hD hS hA [0, 1] rfl
  refine k_go (va_runV (As := []) (rest := []) ⟨hx, hb, hml, hown, hts⟩ (c_X2_ordered l D cB cJ _ y n2 0 g kn2 td hP (hD.weaken (fun _ _ _ _ => trivial))) (cwV 0 hts gX2_digest_X2_ordered rfl rfl rfl (by decide +kernel) ⟨(Nat.le_of_ble_eq_true rfl), (Nat.le_of_ble_eq_true rfl)⟩) (k_preV hE hS hFc (va_recv hK hP (ci := 4) (q0 := 0) rfl rfl)) rfl rfl hl.1 rfl (lv_room (Nat.le_of_ble_eq_true rfl)) dX2_digest_166 ⟨(Nat.le_of_ble_eq_true rfl), (Nat.le_of_ble_eq_true rfl)⟩) hS (fun q _ h => hFc q h) hFc (fun v H locs hp hz hk hS => ?_)
  obtain ⟨q_3, n_3, u_3, f_3, hn60_3, rfl, hP1, hD1, hf_3⟩ := hp
  have hP : va_P D vwCl [(y, .inr (4, [.int 0, .ref n2, .int kn2, .int td])), (n2, .inl (cJ, 8, .inr (.inl g))), (q_3, .inr (0, [.ref u_3, .int 0, .int 0, .int 0])), (u_3, .inl (cB, n_3, .inl f_3))] H := hP1
  have hD : va_D A [(y, .inr (4, [.int 0, .ref n2, .int kn2, .int td])), (n2, .inl (cJ, 8, .inr (.inl g))), (q_3, .inr (0, [.ref u_3, .int 0, .int 0, .int 0])), (u_3, .inl (cB, n_3, .inl f_3))] := hD1.weaken (fun _ q _ h => hFc q.1 h)
  refine W.eq (g2 := F0 m 169 ls [.ref q_3]) rfl ?_
  refine lv_astore_n (lv' := [(3, .ref q_3), (1, .long (j_X2_add d_2 ((j_X2_unlike 0 g kn2 td).toInt64))), (0, .ref y)]) hx hb dX2_digest_169 rfl hl (by decide) rfl (fun ls hl => ?_)
  refine lv_iconst (v := 0) hx hb dX2_digest_170 (by decide) ?_
  refine lv_istore (lv' := [(4, .int 0), (3, .ref q_3), (1, .long (j_X2_add d_2 ((j_X2_unlike 0 g kn2 td).toInt64))), (0, .ref y)]) hx hb dX2_digest_171 hl (by decide) rfl (fun ls hl => ?_)
  refine lpf_X2d5 hx hb hml hown hts hE (hP.sub [2, 3] rfl) ⟨(Nat.le_of_ble_eq_true rfl), (Nat.le_of_ble_eq_true rfl)⟩ hn60_3 (fun d_4 locs ls hS hl => ?_) (n_3 + 1) 0 (j_X2_add d_2 ((j_X2_unlike 0 g kn2 td).toInt64)) _ _ (by omega) (by omega) hS (lv_sub hl [0, 1, 2, 3] rfl)
  refine lv_lload_n hx hb dX2_digest_200 rfl (lv_at hl 1 rfl) ?_
  refine lv_lconst (v := 1) hx hb dX2_digest_201 (by decide) ?_
  refine k_pS [.long d_4, .long 1] (rest := []) ⟨hx, hb, hml, hown, hts⟩ (c_X2_add l D cB cJ _ d_4 1) (va_cwS 2 hts gX2_digest_X2_add rfl rfl rfl (by decide +kernel) ⟨(Nat.le_of_ble_eq_true rfl), (Nat.le_of_ble_eq_true rfl)⟩) hE hS rfl rfl hl.1 (Nat.le_of_ble_eq_true rfl) dX2_digest_202 ⟨(Nat.le_of_ble_eq_true rfl), (Nat.le_of_ble_eq_true rfl)⟩ (fun locs hS => ?_)
  refine W.eq (g2 := F0 m 205 ls [.long (j_X2_add d_4 1)]) rfl ?_
  refine W.widen (k := 60) (n := 4500) (Nat.le_of_ble_eq_true rfl) (Nat.le_of_ble_eq_true rfl) ?_
  exact k_lret hx hb hr hlocks hS dX2_digest_205 ⟨⟨_, rfl⟩, hP.sub [0, 1] rfl, hD.sub [0, 1] (by decide) rfl⟩
abbrev rm_X2_order_ : Room := { frames := 7, cells := 60, slots := 4500, locals := 216 }
theorem iw_X2_order__X2 : ∀ w ∈ wsX20, w ∈ wsX2_order_ := by decide +kernel
set_option maxHeartbeats 4000000 in
set_option maxRecDepth 100000 in
theorem c_X2_order_ (l : Launch) (D : va_G) (cB cJ : ClassId) (Hp : Heap) (y n2 : Nat) (th : Int32) (g : Nat → Int64) (kn2 td : Int32) (hP : va_P D vwCl (wMo y n2 cJ th g kn2 td) Hp) (hD9 : va_D (fun _ => True) (wMo y n2 cJ th g kn2 td)) : kM l D cB cJ yX2_order_ wsX2_order_ rm_X2_order_ (va_A (wMo y n2 cJ th g kn2 td) Hp.size) Hp [.ref y] (kPmr D y n2 cJ (va_A (wMo y n2 cJ th g kn2 td) Hp.size) 0 g kn2 td) 60 4500 := by
  refine Met.ofW (cc := cX2_order_) (maxL := 1) (ret := (some (.object "java/lang/String"))) (by decide) rfl ?_
  intro p e s m args below meth c s₁ B hml hv
  obtain ⟨rfl, hHp, hE⟩ := hv
  subst hHp
  have hx := B.exec
  have hb := B.bytes
  have hr := B.returns
  have hts := atoms_spec (ws := wsX2_order_) B.pre
  have hown : s.vm.findClass RX2 = some m.cls := findClass_of_methodNamed B.named
  have hlocks := B.notSynchronized
  have hK := hE.1
  have hD := hD9.self (sz := s.heap.size)
  generalize hAe : va_A (wMo y n2 cJ th g kn2 td) s.heap.size = A at hE hD ⊢
  have hA : ∀ q : Nat, s.heap.size ≤ q → A q := fun q h => by rw [← hAe]; exact Or.inr h
  have hS : va_S A s.heap s.heap [] := va_S.rf
  have hl := lv_entry ([.ref y]) (n := 1) (Nat.le_of_ble_eq_true rfl)
  rw [lg_entry_eq]
  generalize (lg_sl ([.ref y]) ++ List.replicate (1 - (lg_sl ([.ref y])).length) Slot.unset).toArray = ls at hl ⊢
  have hl : lv_has ls 1 [(0, .ref y)] := hl
  refine lv_aload_n hx hb dX2_order__0 rfl (lv_at hl 0 rfl) ?_
  refine lv_iconst (v := 0) hx hb dX2_order__1 (by decide) ?_
  refine va_put (D := D) (ci := 4) (v := .int 0) (ty := .int) (C := RX2) (T := TX2) (N := 4) hx hb hts iw_X2_order__X2 tyX2 tyX2_ok nmX2 hown hK hP hD hS 0 rfl rfl 0 (by decide) (hts (.fieldLink RX2 13 "ClocksoloModel" "thrown" "I") (by decide +kernel)) (fun _ h9 => h9) rfl (by decide +kernel) rfl rfl (Nat.le_of_ble_eq_true rfl) dX2_order__2 (fun H locs hP hD hS => ?_)
  have hP : va_P D vwCl [(y, .inr (4, [.int 0, .ref n2, .int kn2, .int td])), (n2, .inl (cJ, 8, .inr (.inl g)))] H := hP
  have hD : va_D A [(y, .inr (4, [.int 0, .ref n2, .int kn2, .int td])), (n2, .inl (cJ, 8, .inr (.inl g)))] := hD
  refine lv_aload_n hx hb dX2_order__5 rfl (lv_at hl 0 rfl) ?_
  have hFc := va_free (wc := [(y, .inr (4, [.int 0, .ref n2, .int kn2, .int td])), (n2, .inl (cJ, 8, .inr (.inl g)))]) hD hS hA [0, 1] rfl
  refine k_go (va_runV (As := []) (rest := []) ⟨hx, hb, hml, hown, hts⟩ (c_X2_ordered l D cB cJ _ y n2 0 g kn2 td hP (hD.weaken (fun _ _ _ _ => trivial))) (cwV 0 hts gX2_order__X2_ordered rfl rfl rfl (by decide +kernel) ⟨(Nat.le_of_ble_eq_true rfl), (Nat.le_of_ble_eq_true rfl)⟩) (k_preV hE hS hFc (va_recv hK hP (ci := 4) (q0 := 0) rfl rfl)) rfl rfl hl.1 rfl (lv_room (Nat.le_of_ble_eq_true rfl)) dX2_order__6 ⟨(Nat.le_of_ble_eq_true rfl), (Nat.le_of_ble_eq_true rfl)⟩) hS (fun q _ h => hFc q h) hFc (fun v H locs hp hz hk hS => ?_)
  obtain ⟨q_1, n_1, u_1, f_1, hn60_1, rfl, hP1, hD1, hf_1⟩ := hp
  have hP : va_P D vwCl [(y, .inr (4, [.int 0, .ref n2, .int kn2, .int td])), (n2, .inl (cJ, 8, .inr (.inl g))), (q_1, .inr (0, [.ref u_1, .int 0, .int 0, .int 0])), (u_1, .inl (cB, n_1, .inl f_1))] H := hP1
  have hD : va_D A [(y, .inr (4, [.int 0, .ref n2, .int kn2, .int td])), (n2, .inl (cJ, 8, .inr (.inl g))), (q_1, .inr (0, [.ref u_1, .int 0, .int 0, .int 0])), (u_1, .inl (cB, n_1, .inl f_1))] := hD1.weaken (fun _ q _ h => hFc q.1 h)
  refine W.eq (g2 := F0 m 9 ls [.ref q_1]) rfl ?_
  refine W.widen (k := 60) (n := 4500) (Nat.le_of_ble_eq_true rfl) (Nat.le_of_ble_eq_true rfl) ?_
  exact k_aret hx hb hr (Or.inl ⟨_, rfl⟩) hlocks hS dX2_order__9 ⟨⟨_, rfl⟩, hP.sub [0, 1] rfl, hD.sub [0, 1] (by decide) rfl⟩
