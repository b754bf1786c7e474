set_option maxHeartbeats 4000000 in
set_option maxRecDepth 100000 in
theorem lc_tell {p : Program} {l : Launch} {e : Env} {s : State} {m : MethodId} {below : List Frame} {meth : Method} {c : Code} {D : va_G} {cB cJ : ClassId} {A : Nat → Prop} {Q : State → Prop} {b L x n y n2 o : Nat} {xs : Nat → Int32} (hl9 : l.stackTraces = false) (hx : p.tables.exec = Jvm.exec) (hb : c.code = code) (hml : c.maxLocals = 7) (hown : s.vm.findClass RL = some m.cls) (hts : ∀ w ∈ wsL_law, w.before #[Value.ref b] s = true) (hE : kE D cB cJ A s s.heap) (hN : kN s) (hA : ∀ q : Nat, s.heap.size ≤ q → A q) (hX : va_X b L xs s s.heap) (hbl : b < s.heap.size) (hbA : ¬ A b) {i : Int32} {a1 : Int32} (hi1 : vp_in (i + 1) L) (ha1 : xs (i + 1).toNatClampNeg = a1) {a2 : Int32} (hi2 : vp_in (i + 2) L) (ha2 : xs (i + 2).toNatClampNeg = a2) {a3 : Int32} (hi3 : vp_in (i + 3) L) (ha3 : xs (i + 3).toNatClampNeg = a3) {a4 : Int32} (hi4 : vp_in (i + 4) L) (ha4 : xs (i + 4).toNatClampNeg = a4) {a5 : Int32} (hi5 : vp_in (i + 5) L) (ha5 : xs (i + 5).toNatClampNeg = a5) {kn ch kn2 td th : Int32} {f g : Nat → Int64} {vn : Int64} {sr : Value} {H : Heap} {locs : List Loc} {cells slots : Nat} {ls : Array Slot} (hc9 : cells + 100 ≤ 747762) (hs9 : slots + 8000 ≤ 6852817) (hI : kInv kn ch f kn2 td g) (hP : va_P D vwCl [(x, .inr (2, [.ref n, .int kn, .int ch])), (n, .inl (cJ, 8, .inr (.inl f))), (y, .inr (4, [.int th, .ref n2, .int kn2, .int td])), (n2, .inl (cJ, 8, .inr (.inl g))), (o, .inr (3, [.long vn, sr]))] H) (hD : va_D A [(x, .inr (2, [.ref n, .int kn, .int ch])), (n, .inl (cJ, 8, .inr (.inl f))), (y, .inr (4, [.int th, .ref n2, .int kn2, .int td])), (n2, .inl (cJ, 8, .inr (.inl g))), (o, .inr (3, [.long vn, sr]))]) (hS : va_S A s.heap H locs) (hl : lv_has ls 7 [(4, .int i), (3, .ref o), (2, .ref y), (1, .ref x), (0, .ref b)]) (kk : ∀ (kn ch kn2 td th : Int32) (f g : Nat → Int64) (vn : Int64) (sr : Value) (H : Heap) (locs : List Loc) (ls : Array Slot), kInv kn ch f kn2 td g → va_P D vwCl [(x, .inr (2, [.ref n, .int kn, .int ch])), (n, .inl (cJ, 8, .inr (.inl f))), (y, .inr (4, [.int th, .ref n2, .int kn2, .int td])), (n2, .inl (cJ, 8, .inr (.inl g))), (o, .inr (3, [.long vn, sr]))] H → va_D A [(x, .inr (2, [.ref n, .int kn, .int ch])), (n, .inl (cJ, 8, .inr (.inl f))), (y, .inr (4, [.int th, .ref n2, .int kn2, .int td])), (n2, .inl (cJ, 8, .inr (.inl g))), (o, .inr (3, [.long vn, sr]))] → va_S A s.heap H locs → lv_has ls 7 [(4, .int i), (3, .ref o), (2, .ref y), (1, .ref x), (0, .ref b)] → W p l e room_1 s m #[Value.ref b] below meth c H locs (cells + 100) (slots + 8000) Q (F0 m 1162 ls [])) : W p l e room_1 s m #[Value.ref b] below meth c H locs cells slots Q (F0 m 160 ls []) := by
  have hK := hE.1
  refine lv_aload_n hx hb dL_law_160 rfl (lv_at hl 3 rfl) ?_
  refine lv_aload_n hx hb dL_law_161 rfl (lv_at hl 4 rfl) ?_
  refine lv_iload hx hb dL_law_162 (lv_at hl 0 rfl) ?_
  refine lv_iconst (v := 1) hx hb dL_law_164 (by decide) ?_
  refine lv_iadd hx hb dL_law_165 ?_
  refine va_sld hx hb hX hbl hbA hS hi1 dL_law_166 ?_
  rw [ha1]
  refine lv_aload_n hx hb dL_law_167 rfl (lv_at hl 4 rfl) ?_
  refine lv_iload hx hb dL_law_168 (lv_at hl 0 rfl) ?_
  refine lv_iconst (v := 2) hx hb dL_law_170 (by decide) ?_
  refine lv_iadd hx hb dL_law_171 ?_
  refine va_sld hx hb hX hbl hbA hS hi2 dL_law_172 ?_
  rw [ha2]
  refine lv_aload_n hx hb dL_law_173 rfl (lv_at hl 4 rfl) ?_
  refine lv_iload hx hb dL_law_174 (lv_at hl 0 rfl) ?_
  refine lv_iconst (v := 3) hx hb dL_law_176 (by decide) ?_
  refine lv_iadd hx hb dL_law_177 ?_
  refine va_sld hx hb hX hbl hbA hS hi3 dL_law_178 ?_
  rw [ha3]
  refine lv_aload_n hx hb dL_law_179 rfl (lv_at hl 4 rfl) ?_
  refine lv_iload hx hb dL_law_180 (lv_at hl 0 rfl) ?_
  refine lv_iconst (v := 4) hx hb dL_law_182 (by decide) ?_
  refine lv_iadd hx hb dL_law_183 ?_
  refine va_sld hx hb hX hbl hbA hS hi4 dL_law_184 ?_
  rw [ha4]
  refine lv_aload_n hx hb dL_law_185 rfl (lv_at hl 4 rfl) ?_
  refine lv_iload hx hb dL_law_186 (lv_at hl 0 rfl) ?_
  refine lv_iconst (v := 5) hx hb dL_law_188 (by decide) ?_
  refine lv_iadd hx hb dL_law_189 ?_
  refine va_sld hx hb hX hbl hbA hS hi5 dL_law_190 ?_
  rw [ha5]
  refine lv_aload_n hx hb dL_law_191 rfl (lv_at hl 1 rfl) ?_
  have hFc := va_free (wc := [(x, .inr (2, [.ref n, .int kn, .int ch])), (n, .inl (cJ, 8, .inr (.inl f))), (o, .inr (3, [.long vn, sr]))]) hD hS hA [0, 1, 4] rfl
  refine kx_go (vx_runSX (As := [.ref x, .int a1, .int a2, .int a3, .int a4, .int a5, .ref o]) (rest := []) ⟨hx, hb, hml, hown, hts⟩ (c_L_tell l hl9 D cB cJ _ x n o kn ch f vn sr a1 a2 a3 a4 a5 (hP.sub [0, 1, 4] rfl) ((hD.sub [0, 1, 4] (by decide) rfl).weaken (fun _ _ _ _ => trivial))) (vx_cwSW 7 hts gL_law_L_tell rfl rfl rfl (by decide +kernel) ⟨(Nat.le_of_ble_eq_true rfl), (Nat.le_of_ble_eq_true rfl)⟩) (k_preSN hE hN hS hFc) rfl rfl hl.1 rfl (lv_room (Nat.le_of_ble_eq_true rfl)) dL_law_192 ⟨by show _ ≤ (747762 : Nat); omega, by show _ ≤ (6852817 : Nat); omega⟩) hS (fun q _ h => hFc q h) hFc (fun E ce q9 H locs hp hz hk hS hce hcv hcl => hp.elim) (fun v H locs hp hz hk hS => ?_)
  rcases hp with ⟨r9, hJ9, rfl, hP1, hD1⟩ | ⟨E9, hJ9, rfl, hP1, hD1⟩
  · have hP1 : va_P D vwCl [(x, .inr (2, [.ref n, .int r9.2.1, .int r9.2.2.1])), (n, .inl (cJ, 8, .inr (.inl r9.2.2.2))), (o, .inr (3, [.long ((fun z : Int32 => z.toInt64) r9.1), sr]))] H := hP1
    have hD1 : va_D _ [(x, .inr (2, [.ref n, .int r9.2.1, .int r9.2.2.1])), (n, .inl (cJ, 8, .inr (.inl r9.2.2.2))), (o, .inr (3, [.long ((fun z : Int32 => z.toInt64) r9.1), sr]))] := hD1
    obtain ⟨hP, hD⟩ := va_join (wr := [(y, .inr (4, [.int th, .ref n2, .int kn2, .int td])), (n2, .inl (cJ, 8, .inr (.inl g)))]) (wc := [(x, .inr (2, [.ref n, .int kn, .int ch])), (n, .inl (cJ, 8, .inr (.inl f))), (o, .inr (3, [.long vn, sr]))]) (w1 := [(x, .inr (2, [.ref n, .int r9.2.1, .int r9.2.2.1])), (n, .inl (cJ, 8, .inr (.inl r9.2.2.2))), (o, .inr (3, [.long ((fun z : Int32 => z.toInt64) r9.1), sr]))]) hP hD [0, 1, 4] [2, 3] rfl rfl (by decide) (by decide) hk hFc hP1 hD1
    have hP : va_P D vwCl [(y, .inr (4, [.int th, .ref n2, .int kn2, .int td])), (n2, .inl (cJ, 8, .inr (.inl g))), (x, .inr (2, [.ref n, .int r9.2.1, .int r9.2.2.1])), (n, .inl (cJ, 8, .inr (.inl r9.2.2.2))), (o, .inr (3, [.long ((fun z : Int32 => z.toInt64) r9.1), sr]))] H := hP
    have hD : va_D A [(y, .inr (4, [.int th, .ref n2, .int kn2, .int td])), (n2, .inl (cJ, 8, .inr (.inl g))), (x, .inr (2, [.ref n, .int r9.2.1, .int r9.2.2.1])), (n, .inl (cJ, 8, .inr (.inl r9.2.2.2))), (o, .inr (3, [.long ((fun z : Int32 => z.toInt64) r9.1), sr]))] := hD
    refine W.eq (g2 := F0 m 195 ls [.int 0]) rfl ?_
    refine lv_istore (lv' := [(5, .int 0), (4, .int i), (3, .ref o), (2, .ref y), (1, .ref x), (0, .ref b)]) hx hb dL_law_195 hl (by decide) rfl (fun ls hl => ?_)
    refine lv_aload_n hx hb dL_law_197 rfl (lv_at hl 3 rfl) ?_
    refine lv_aload_n hx hb dL_law_198 rfl (lv_at hl 5 rfl) ?_
    refine lv_iload hx hb dL_law_199 (lv_at hl 1 rfl) ?_
    refine lv_iconst (v := 1) hx hb dL_law_201 (by decide) ?_
    refine lv_iadd hx hb dL_law_202 ?_
    refine va_sld hx hb hX hbl hbA hS hi1 dL_law_203 ?_
    rw [ha1]
    refine lv_aload_n hx hb dL_law_204 rfl (lv_at hl 5 rfl) ?_
    refine lv_iload hx hb dL_law_205 (lv_at hl 1 rfl) ?_
    refine lv_iconst (v := 2) hx hb dL_law_207 (by decide) ?_
    refine lv_iadd hx hb dL_law_208 ?_
    refine va_sld hx hb hX hbl hbA hS hi2 dL_law_209 ?_
    rw [ha2]
    refine lv_aload_n hx hb dL_law_210 rfl (lv_at hl 5 rfl) ?_
    refine lv_iload hx hb dL_law_211 (lv_at hl 1 rfl) ?_
    refine lv_iconst (v := 3) hx hb dL_law_213 (by decide) ?_
    refine lv_iadd hx hb dL_law_214 ?_
    refine va_sld hx hb hX hbl hbA hS hi3 dL_law_215 ?_
    rw [ha3]
    refine lv_aload_n hx hb dL_law_216 rfl (lv_at hl 5 rfl) ?_
    refine lv_iload hx hb dL_law_217 (lv_at hl 1 rfl) ?_
    refine lv_iconst (v := 4) hx hb dL_law_219 (by decide) ?_
    refine lv_iadd hx hb dL_law_220 ?_
    refine va_sld hx hb hX hbl hbA hS hi4 dL_law_221 ?_
    rw [ha4]
    refine lv_aload_n hx hb dL_law_222 rfl (lv_at hl 5 rfl) ?_
    refine lv_iload hx hb dL_law_223 (lv_at hl 1 rfl) ?_
    refine lv_iconst (v := 5) hx hb dL_law_225 (by decide) ?_
    refine lv_iadd hx hb dL_law_226 ?_
    refine va_sld hx hb hX hbl hbA hS hi5 dL_law_227 ?_
    rw [ha5]
    have hFc := va_free (wc := [(y, .inr (4, [.int th, .ref n2, .int kn2, .int td])), (n2, .inl (cJ, 8, .inr (.inl g)))]) hD hS hA [0, 1] rfl
    have hT9 := tm_tell hI th a1 a2 a3 a4 a5
    refine k_go (va_runV (As := [.int a1, .int a2, .int a3, .int a4, .int a5]) (rest := []) ⟨hx, hb, hml, hown, hts⟩ (c_X2_tell l D cB cJ _ y n2 th g kn2 td (hP.sub [0, 1] rfl) ((hD.sub [0, 1] (by decide) rfl).weaken (fun _ _ _ _ => trivial)) a1 a2 a3 a4 a5 hT9) (cwV 5 hts gL_law_X2_tell rfl rfl rfl (by decide +kernel) ⟨(Nat.le_of_ble_eq_true rfl), (Nat.le_of_ble_eq_true rfl)⟩) (k_preV hE hS hFc (va_recv hK hP (ci := 4) (q0 := 0) rfl rfl)) rfl rfl hl.1 rfl (lv_room (Nat.le_of_ble_eq_true rfl)) dL_law_228 ⟨by show _ ≤ (747762 : Nat); omega, by show _ ≤ (6852817 : Nat); omega⟩) hS (fun q _ h => hFc q h) hFc (fun v H locs hp hz hk hS => ?_)
    obtain ⟨rfl, hP1, hD1⟩ := hp
    have hP1 : va_P D vwCl [(y, .inr (4, [.int ((j_X2_tell th g kn2 td a1 a2 a3 a4 a5).2.1), .ref n2, .int ((j_X2_tell th g kn2 td a1 a2 a3 a4 a5).2.2.2.1), .int ((j_X2_tell th g kn2 td a1 a2 a3 a4 a5).2.2.2.2)])), (n2, .inl (cJ, 8, .inr (.inl ((j_X2_tell th g kn2 td a1 a2 a3 a4 a5).2.2.1))))] H := hP1
    have hD1 : va_D _ [(y, .inr (4, [.int ((j_X2_tell th g kn2 td a1 a2 a3 a4 a5).2.1), .ref n2, .int ((j_X2_tell th g kn2 td a1 a2 a3 a4 a5).2.2.2.1), .int ((j_X2_tell th g kn2 td a1 a2 a3 a4 a5).2.2.2.2)])), (n2, .inl (cJ, 8, .inr (.inl ((j_X2_tell th g kn2 td a1 a2 a3 a4 a5).2.2.1))))] := hD1
    obtain ⟨hP, hD⟩ := va_join (wr := [(x, .inr (2, [.ref n, .int r9.2.1, .int r9.2.2.1])), (n, .inl (cJ, 8, .inr (.inl r9.2.2.2))), (o, .inr (3, [.long ((fun z : Int32 => z.toInt64) r9.1), sr]))]) (wc := [(y, .inr (4, [.int th, .ref n2, .int kn2, .int td])), (n2, .inl (cJ, 8, .inr (.inl g)))]) (w1 := [(y, .inr (4, [.int ((j_X2_tell th g kn2 td a1 a2 a3 a4 a5).2.1), .ref n2, .int ((j_X2_tell th g kn2 td a1 a2 a3 a4 a5).2.2.2.1), .int ((j_X2_tell th g kn2 td a1 a2 a3 a4 a5).2.2.2.2)])), (n2, .inl (cJ, 8, .inr (.inl ((j_X2_tell th g kn2 td a1 a2 a3 a4 a5).2.2.1))))]) hP hD [0, 1] [2, 3, 4] rfl rfl (by decide) (by decide) hk hFc hP1 hD1
    have hP : va_P D vwCl [(x, .inr (2, [.ref n, .int r9.2.1, .int r9.2.2.1])), (n, .inl (cJ, 8, .inr (.inl r9.2.2.2))), (o, .inr (3, [.long ((fun z : Int32 => z.toInt64) r9.1), sr])), (y, .inr (4, [.int ((j_X2_tell th g kn2 td a1 a2 a3 a4 a5).2.1), .ref n2, .int ((j_X2_tell th g kn2 td a1 a2 a3 a4 a5).2.2.2.1), .int ((j_X2_tell th g kn2 td a1 a2 a3 a4 a5).2.2.2.2)])), (n2, .inl (cJ, 8, .inr (.inl ((j_X2_tell th g kn2 td a1 a2 a3 a4 a5).2.2.1))))] H := hP
    have hD : va_D A [(x, .inr (2, [.ref n, .int r9.2.1, .int r9.2.2.1])), (n, .inl (cJ, 8, .inr (.inl r9.2.2.2))), (o, .inr (3, [.long ((fun z : Int32 => z.toInt64) r9.1), sr])), (y, .inr (4, [.int ((j_X2_tell th g kn2 td a1 a2 a3 a4 a5).2.1), .ref n2, .int ((j_X2_tell th g kn2 td a1 a2 a3 a4 a5).2.2.2.1), .int ((j_X2_tell th g kn2 td a1 a2 a3 a4 a5).2.2.2.2)])), (n2, .inl (cJ, 8, .inr (.inl ((j_X2_tell th g kn2 td a1 a2 a3 a4 a5).2.2.1))))] := hD
    obtain ⟨hth, hrv, hI⟩ := (st_tell hI th a1 a2 a3 a4 a5).1 _ hJ9
    refine W.eq (g2 := F0 m 231 ls [.int ((j_X2_tell th g kn2 td a1 a2 a3 a4 a5).1)]) rfl ?_
    refine lv_istore (lv' := [(6, .int ((j_X2_tell th g kn2 td a1 a2 a3 a4 a5).1)), (5, .int 0), (4, .int i), (3, .ref o), (2, .ref y), (1, .ref x), (0, .ref b)]) hx hb dL_law_231 hl (by decide) rfl (fun ls hl => ?_)
    refine lv_goto (tgt := 1162) hx hb dL_law_233 (by decide) ?_
    refine W.widen (k := cells + 100) (n := slots + 8000) (by omega) (by omega) ?_
    exact kk _ _ _ _ _ _ _ _ _ _ _ _ hI (hP.sub [0, 1, 3, 4, 2] rfl) (hD.sub [0, 1, 3, 4, 2] (by decide) rfl) hS (lv_sub hl [2, 3, 4, 5, 6] rfl)
  · have hP1 : va_P D vwCl [(x, .inr (2, [.ref n, .int kn, .int ch])), (n, .inl (cJ, 8, .inr (.inl f))), (o, .inr (3, [.long vn, sr]))] H := hP1
    have hD1 : va_D _ [(x, .inr (2, [.ref n, .int kn, .int ch])), (n, .inl (cJ, 8, .inr (.inl f))), (o, .inr (3, [.long vn, sr]))] := hD1
    obtain ⟨hP, hD⟩ := va_join (wr := [(y, .inr (4, [.int th, .ref n2, .int kn2, .int td])), (n2, .inl (cJ, 8, .inr (.inl g)))]) (wc := [(x, .inr (2, [.ref n, .int kn, .int ch])), (n, .inl (cJ, 8, .inr (.inl f))), (o, .inr (3, [.long vn, sr]))]) (w1 := [(x, .inr (2, [.ref n, .int kn, .int ch])), (n, .inl (cJ, 8, .inr (.inl f))), (o, .inr (3, [.long vn, sr]))]) hP hD [0, 1, 4] [2, 3] rfl rfl (by decide) (by decide) hk hFc hP1 hD1
    have hP : va_P D vwCl [(y, .inr (4, [.int th, .ref n2, .int kn2, .int td])), (n2, .inl (cJ, 8, .inr (.inl g))), (x, .inr (2, [.ref n, .int kn, .int ch])), (n, .inl (cJ, 8, .inr (.inl f))), (o, .inr (3, [.long vn, sr]))] H := hP
    have hD : va_D A [(y, .inr (4, [.int th, .ref n2, .int kn2, .int td])), (n2, .inl (cJ, 8, .inr (.inl g))), (x, .inr (2, [.ref n, .int kn, .int ch])), (n, .inl (cJ, 8, .inr (.inl f))), (o, .inr (3, [.long vn, sr]))] := hD
    refine W.eq (g2 := F0 m 195 ls [.int (k_cd E9)]) rfl ?_
    refine lv_istore (lv' := [(5, .int (k_cd E9)), (4, .int i), (3, .ref o), (2, .ref y), (1, .ref x), (0, .ref b)]) hx hb dL_law_195 hl (by decide) rfl (fun ls hl => ?_)
    refine lv_aload_n hx hb dL_law_197 rfl (lv_at hl 3 rfl) ?_
    refine lv_aload_n hx hb dL_law_198 rfl (lv_at hl 5 rfl) ?_
    refine lv_iload hx hb dL_law_199 (lv_at hl 1 rfl) ?_
    refine lv_iconst (v := 1) hx hb dL_law_201 (by decide) ?_
    refine lv_iadd hx hb dL_law_202 ?_
    refine va_sld hx hb hX hbl hbA hS hi1 dL_law_203 ?_
    rw [ha1]
    refine lv_aload_n hx hb dL_law_204 rfl (lv_at hl 5 rfl) ?_
    refine lv_iload hx hb dL_law_205 (lv_at hl 1 rfl) ?_
    refine lv_iconst (v := 2) hx hb dL_law_207 (by decide) ?_
    refine lv_iadd hx hb dL_law_208 ?_
    refine va_sld hx hb hX hbl hbA hS hi2 dL_law_209 ?_
    rw [ha2]
    refine lv_aload_n hx hb dL_law_210 rfl (lv_at hl 5 rfl) ?_
    refine lv_iload hx hb dL_law_211 (lv_at hl 1 rfl) ?_
    refine lv_iconst (v := 3) hx hb dL_law_213 (by decide) ?_
    refine lv_iadd hx hb dL_law_214 ?_
    refine va_sld hx hb hX hbl hbA hS hi3 dL_law_215 ?_
    rw [ha3]
    refine lv_aload_n hx hb dL_law_216 rfl (lv_at hl 5 rfl) ?_
    refine lv_iload hx hb dL_law_217 (lv_at hl 1 rfl) ?_
    refine lv_iconst (v := 4) hx hb dL_law_219 (by decide) ?_
    refine lv_iadd hx hb dL_law_220 ?_
    refine va_sld hx hb hX hbl hbA hS hi4 dL_law_221 ?_
    rw [ha4]
    refine lv_aload_n hx hb dL_law_222 rfl (lv_at hl 5 rfl) ?_
    refine lv_iload hx hb dL_law_223 (lv_at hl 1 rfl) ?_
    refine lv_iconst (v := 5) hx hb dL_law_225 (by decide) ?_
    refine lv_iadd hx hb dL_law_226 ?_
    refine va_sld hx hb hX hbl hbA hS hi5 dL_law_227 ?_
    rw [ha5]
    have hFc := va_free (wc := [(y, .inr (4, [.int th, .ref n2, .int kn2, .int td])), (n2, .inl (cJ, 8, .inr (.inl g)))]) hD hS hA [0, 1] rfl
    have hT9 := tm_tell hI th a1 a2 a3 a4 a5
    refine k_go (va_runV (As := [.int a1, .int a2, .int a3, .int a4, .int a5]) (rest := []) ⟨hx, hb, hml, hown, hts⟩ (c_X2_tell l D cB cJ _ y n2 th g kn2 td (hP.sub [0, 1] rfl) ((hD.sub [0, 1] (by decide) rfl).weaken (fun _ _ _ _ => trivial)) a1 a2 a3 a4 a5 hT9) (cwV 5 hts gL_law_X2_tell rfl rfl rfl (by decide +kernel) ⟨(Nat.le_of_ble_eq_true rfl), (Nat.le_of_ble_eq_true rfl)⟩) (k_preV hE hS hFc (va_recv hK hP (ci := 4) (q0 := 0) rfl rfl)) rfl rfl hl.1 rfl (lv_room (Nat.le_of_ble_eq_true rfl)) dL_law_228 ⟨by show _ ≤ (747762 : Nat); omega, by show _ ≤ (6852817 : Nat); omega⟩) hS (fun q _ h => hFc q h) hFc (fun v H locs hp hz hk hS => ?_)
    obtain ⟨rfl, hP1, hD1⟩ := hp
    have hP1 : va_P D vwCl [(y, .inr (4, [.int ((j_X2_tell th g kn2 td a1 a2 a3 a4 a5).2.1), .ref n2, .int ((j_X2_tell th g kn2 td a1 a2 a3 a4 a5).2.2.2.1), .int ((j_X2_tell th g kn2 td a1 a2 a3 a4 a5).2.2.2.2)])), (n2, .inl (cJ, 8, .inr (.inl ((j_X2_tell th g kn2 td a1 a2 a3 a4 a5).2.2.1))))] H := hP1
    have hD1 : va_D _ [(y, .inr (4, [.int ((j_X2_tell th g kn2 td a1 a2 a3 a4 a5).2.1), .ref n2, .int ((j_X2_tell th g kn2 td a1 a2 a3 a4 a5).2.2.2.1), .int ((j_X2_tell th g kn2 td a1 a2 a3 a4 a5).2.2.2.2)])), (n2, .inl (cJ, 8, .inr (.inl ((j_X2_tell th g kn2 td a1 a2 a3 a4 a5).2.2.1))))] := hD1
    obtain ⟨hP, hD⟩ := va_join (wr := [(x, .inr (2, [.ref n, .int kn, .int ch])), (n, .inl (cJ, 8, .inr (.inl f))), (o, .inr (3, [.long vn, sr]))]) (wc := [(y, .inr (4, [.int th, .ref n2, .int kn2, .int td])), (n2, .inl (cJ, 8, .inr (.inl g)))]) (w1 := [(y, .inr (4, [.int ((j_X2_tell th g kn2 td a1 a2 a3 a4 a5).2.1), .ref n2, .int ((j_X2_tell th g kn2 td a1 a2 a3 a4 a5).2.2.2.1), .int ((j_X2_tell th g kn2 td a1 a2 a3 a4 a5).2.2.2.2)])), (n2, .inl (cJ, 8, .inr (.inl ((j_X2_tell th g kn2 td a1 a2 a3 a4 a5).2.2.1))))]) hP hD [0, 1] [2, 3, 4] rfl rfl (by decide) (by decide) hk hFc hP1 hD1
    have hP : va_P D vwCl [(x, .inr (2, [.ref n, .int kn, .int ch])), (n, .inl (cJ, 8, .inr (.inl f))), (o, .inr (3, [.long vn, sr])), (y, .inr (4, [.int ((j_X2_tell th g kn2 td a1 a2 a3 a4 a5).2.1), .ref n2, .int ((j_X2_tell th g kn2 td a1 a2 a3 a4 a5).2.2.2.1), .int ((j_X2_tell th g kn2 td a1 a2 a3 a4 a5).2.2.2.2)])), (n2, .inl (cJ, 8, .inr (.inl ((j_X2_tell th g kn2 td a1 a2 a3 a4 a5).2.2.1))))] H := hP
    have hD : va_D A [(x, .inr (2, [.ref n, .int kn, .int ch])), (n, .inl (cJ, 8, .inr (.inl f))), (o, .inr (3, [.long vn, sr])), (y, .inr (4, [.int ((j_X2_tell th g kn2 td a1 a2 a3 a4 a5).2.1), .ref n2, .int ((j_X2_tell th g kn2 td a1 a2 a3 a4 a5).2.2.2.1), .int ((j_X2_tell th g kn2 td a1 a2 a3 a4 a5).2.2.2.2)])), (n2, .inl (cJ, 8, .inr (.inl ((j_X2_tell th g kn2 td a1 a2 a3 a4 a5).2.2.1))))] := hD
    obtain ⟨hth, hI⟩ := (st_tell hI th a1 a2 a3 a4 a5).2 _ hJ9
    refine W.eq (g2 := F0 m 231 ls [.int ((j_X2_tell th g kn2 td a1 a2 a3 a4 a5).1)]) rfl ?_
    refine lv_istore (lv' := [(6, .int ((j_X2_tell th g kn2 td a1 a2 a3 a4 a5).1)), (5, .int (k_cd E9)), (4, .int i), (3, .ref o), (2, .ref y), (1, .ref x), (0, .ref b)]) hx hb dL_law_231 hl (by decide) rfl (fun ls hl => ?_)
    refine lv_goto (tgt := 1162) hx hb dL_law_233 (by decide) ?_
    refine W.widen (k := cells + 100) (n := slots + 8000) (by omega) (by omega) ?_
    exact kk _ _ _ _ _ _ _ _ _ _ _ _ hI (hP.sub [0, 1, 3, 4, 2] rfl) (hD.sub [0, 1, 3, 4, 2] (by decide) rfl) hS (lv_sub hl [2, 3, 4, 5, 6] rfl)
set_option maxHeartbeats 4000000 in
set_option maxRecDepth 100000 in
theorem lc_tellSecond {p : Program} {l : Launch} {e : Env} {s : State} {m : MethodId} {below : List Frame} {meth : Method} {c : Code} {D : va_G} {cB cJ : ClassId} {A : Nat → Prop} {Q : State → Prop} {b L x n y n2 o : Nat} {xs : Nat → Int32} (hl9 : l.stackTraces = false) (hx : p.tables.exec = Jvm.exec) (hb : c.code = code) (hml : c.maxLocals = 7) (hown : s.vm.findClass RL = some m.cls) (hts : ∀ w ∈ wsL_law, w.before #[Value.ref b] s = true) (hE : kE D cB cJ A s s.heap) (hN : kN s) (hA : ∀ q : Nat, s.heap.size ≤ q → A q) (hX : va_X b L xs s s.heap) (hbl : b < s.heap.size) (hbA : ¬ A b) {i : Int32} {a1 : Int32} (hi1 : vp_in (i + 1) L) (ha1 : xs (i + 1).toNatClampNeg = a1) {a2 : Int32} (hi2 : vp_in (i + 2) L) (ha2 : xs (i + 2).toNatClampNeg = a2) {a3 : Int32} (hi3 : vp_in (i + 3) L) (ha3 : xs (i + 3).toNatClampNeg = a3) {a4 : Int32} (hi4 : vp_in (i + 4) L) (ha4 : xs (i + 4).toNatClampNeg = a4) {a5 : Int32} (hi5 : vp_in (i + 5) L) (ha5 : xs (i + 5).toNatClampNeg = a5) {kn ch kn2 td th : Int32} {f g : Nat → Int64} {vn : Int64} {sr : Value} {H : Heap} {locs : List Loc} {cells slots : Nat} {ls : Array Slot} (hc9 : cells + 100 ≤ 747762) (hs9 : slots + 8000 ≤ 6852817) (hI : kInv kn ch f kn2 td g) (hP : va_P D vwCl [(x, .inr (2, [.ref n, .int kn, .int ch])), (n, .inl (cJ, 8, .inr (.inl f))), (y, .inr (4, [.int th, .ref n2, .int kn2, .int td])), (n2, .inl (cJ, 8, .inr (.inl g))), (o, .inr (3, [.long vn, sr]))] H) (hD : va_D A [(x, .inr (2, [.ref n, .int kn, .int ch])), (n, .inl (cJ, 8, .inr (.inl f))), (y, .inr (4, [.int th, .ref n2, .int kn2, .int td])), (n2, .inl (cJ, 8, .inr (.inl g))), (o, .inr (3, [.long vn, sr]))]) (hS : va_S A s.heap H locs) (hl : lv_has ls 7 [(4, .int i), (3, .ref o), (2, .ref y), (1, .ref x), (0, .ref b)]) (kk : ∀ (kn ch kn2 td th : Int32) (f g : Nat → Int64) (vn : Int64) (sr : Value) (H : Heap) (locs : List Loc) (ls : Array Slot), kInv kn ch f kn2 td g → va_P D vwCl [(x, .inr (2, [.ref n, .int kn, .int ch])), (n, .inl (cJ, 8, .inr (.inl f))), (y, .inr (4, [.int th, .ref n2, .int kn2, .int td])), (n2, .inl (cJ, 8, .inr (.inl g))), (o, .inr (3, [.long vn, sr]))] H → va_D A [(x, .inr (2, [.ref n, .int kn, .int ch])), (n, .inl (cJ, 8, .inr (.inl f))), (y, .inr (4, [.int th, .ref n2, .int kn2, .int td])), (n2, .inl (cJ, 8, .inr (.inl g))), (o, .inr (3, [.long vn, sr]))] → va_S A s.heap H locs → lv_has ls 7 [(4, .int i), (3, .ref o), (2, .ref y), (1, .ref x), (0, .ref b)] → W p l e room_1 s m #[Value.ref b] below meth c H locs (cells + 100) (slots + 8000) Q (F0 m 1162 ls [])) : W p l e room_1 s m #[Value.ref b] below meth c H locs cells slots Q (F0 m 236 ls []) := by
  have hK := hE.1
  refine lv_aload_n hx hb dL_law_236 rfl (lv_at hl 3 rfl) ?_
  refine lv_aload_n hx hb dL_law_237 rfl (lv_at hl 4 rfl) ?_
  refine lv_iload hx hb dL_law_238 (lv_at hl 0 rfl) ?_
  refine lv_iconst (v := 1) hx hb dL_law_240 (by decide) ?_
  refine lv_iadd hx hb dL_law_241 ?_
  refine va_sld hx hb hX hbl hbA hS hi1 dL_law_242 ?_
  rw [ha1]
  refine lv_aload_n hx hb dL_law_243 rfl (lv_at hl 4 rfl) ?_
  refine lv_iload hx hb dL_law_244 (lv_at hl 0 rfl) ?_
  refine lv_iconst (v := 2) hx hb dL_law_246 (by decide) ?_
  refine lv_iadd hx hb dL_law_247 ?_
  refine va_sld hx hb hX hbl hbA hS hi2 dL_law_248 ?_
  rw [ha2]
  refine lv_aload_n hx hb dL_law_249 rfl (lv_at hl 1 rfl) ?_
  have hFc := va_free (wc := [(x, .inr (2, [.ref n, .int kn, .int ch])), (n, .inl (cJ, 8, .inr (.inl f))), (o, .inr (3, [.long vn, sr]))]) hD hS hA [0, 1, 4] rfl
  refine kx_go (vx_runSX (As := [.ref x, .int a1, .int a2, .ref o]) (rest := []) ⟨hx, hb, hml, hown, hts⟩ (c_L_tellSecond l hl9 D cB cJ _ x n o kn ch f vn sr a1 a2 (hP.sub [0, 1, 4] rfl) ((hD.sub [0, 1, 4] (by decide) rfl).weaken (fun _ _ _ _ => trivial))) (vx_cwSW 4 hts gL_law_L_tellSecond rfl rfl rfl (by decide +kernel) ⟨(Nat.le_of_ble_eq_true rfl), (Nat.le_of_ble_eq_true rfl)⟩) (k_preSN hE hN hS hFc) rfl rfl hl.1 rfl (lv_room (Nat.le_of_ble_eq_true rfl)) dL_law_250 ⟨by show _ ≤ (747762 : Nat); omega, by show _ ≤ (6852817 : Nat); omega⟩) hS (fun q _ h => hFc q h) hFc (fun E ce q9 H locs hp hz hk hS hce hcv hcl => hp.elim) (fun v H locs hp hz hk hS => ?_)
  rcases hp with ⟨r9, hJ9, rfl, hP1, hD1⟩ | ⟨E9, hJ9, rfl, hP1, hD1⟩
  · have hP1 : va_P D vwCl [(x, .inr (2, [.ref n, .int r9.2.1, .int r9.2.2.1])), (n, .inl (cJ, 8, .inr (.inl r9.2.2.2))), (o, .inr (3, [.long ((fun z : Int32 => z.toInt64) r9.1), sr]))] H := hP1
    have hD1 : va_D _ [(x, .inr (2, [.ref n, .int r9.2.1, .int r9.2.2.1])), (n, .inl (cJ, 8, .inr (.inl r9.2.2.2))), (o, .inr (3, [.long ((fun z : Int32 => z.toInt64) r9.1), sr]))] := hD1
    obtain ⟨hP, hD⟩ := va_join (wr := [(y, .inr (4, [.int th, .ref n2, .int kn2, .int td])), (n2, .inl (cJ, 8, .inr (.inl g)))]) (wc := [(x, .inr (2, [.ref n, .int kn, .int ch])), (n, .inl (cJ, 8, .inr (.inl f))), (o, .inr (3, [.long vn, sr]))]) (w1 := [(x, .inr (2, [.ref n, .int r9.2.1, .int r9.2.2.1])), (n, .inl (cJ, 8, .inr (.inl r9.2.2.2))), (o, .inr (3, [.long ((fun z : Int32 => z.toInt64) r9.1), sr]))]) hP hD [0, 1, 4] [2, 3] rfl rfl (by decide) (by decide) hk hFc hP1 hD1
    have hP : va_P D vwCl [(y, .inr (4, [.int th, .ref n2, .int kn2, .int td])), (n2, .inl (cJ, 8, .inr (.inl g))), (x, .inr (2, [.ref n, .int r9.2.1, .int r9.2.2.1])), (n, .inl (cJ, 8, .inr (.inl r9.2.2.2))), (o, .inr (3, [.long ((fun z : Int32 => z.toInt64) r9.1), sr]))] H := hP
    have hD : va_D A [(y, .inr (4, [.int th, .ref n2, .int kn2, .int td])), (n2, .inl (cJ, 8, .inr (.inl g))), (x, .inr (2, [.ref n, .int r9.2.1, .int r9.2.2.1])), (n, .inl (cJ, 8, .inr (.inl r9.2.2.2))), (o, .inr (3, [.long ((fun z : Int32 => z.toInt64) r9.1), sr]))] := hD
    refine W.eq (g2 := F0 m 253 ls [.int 0]) rfl ?_
    refine lv_istore (lv' := [(5, .int 0), (4, .int i), (3, .ref o), (2, .ref y), (1, .ref x), (0, .ref b)]) hx hb dL_law_253 hl (by decide) rfl (fun ls hl => ?_)
    refine lv_aload_n hx hb dL_law_255 rfl (lv_at hl 3 rfl) ?_
    refine lv_aload_n hx hb dL_law_256 rfl (lv_at hl 5 rfl) ?_
    refine lv_iload hx hb dL_law_257 (lv_at hl 1 rfl) ?_
    refine lv_iconst (v := 1) hx hb dL_law_259 (by decide) ?_
    refine lv_iadd hx hb dL_law_260 ?_
    refine va_sld hx hb hX hbl hbA hS hi1 dL_law_261 ?_
    rw [ha1]
    refine lv_aload_n hx hb dL_law_262 rfl (lv_at hl 5 rfl) ?_
    refine lv_iload hx hb dL_law_263 (lv_at hl 1 rfl) ?_
    refine lv_iconst (v := 2) hx hb dL_law_265 (by decide) ?_
    refine lv_iadd hx hb dL_law_266 ?_
    refine va_sld hx hb hX hbl hbA hS hi2 dL_law_267 ?_
    rw [ha2]
    have hFc := va_free (wc := [(y, .inr (4, [.int th, .ref n2, .int kn2, .int td])), (n2, .inl (cJ, 8, .inr (.inl g)))]) hD hS hA [0, 1] rfl
    have hT9 := tm_tellSecond hI th a1 a2
    refine k_go (va_runV (As := [.int a1, .int a2]) (rest := []) ⟨hx, hb, hml, hown, hts⟩ (c_X2_tellSecond l D cB cJ _ y n2 th g kn2 td (hP.sub [0, 1] rfl) ((hD.sub [0, 1] (by decide) rfl).weaken (fun _ _ _ _ => trivial)) a1 a2 hT9) (cwV 2 hts gL_law_X2_tellSecond rfl rfl rfl (by decide +kernel) ⟨(Nat.le_of_ble_eq_true rfl), (Nat.le_of_ble_eq_true rfl)⟩) (k_preV hE hS hFc (va_recv hK hP (ci := 4) (q0 := 0) rfl rfl)) rfl rfl hl.1 rfl (lv_room (Nat.le_of_ble_eq_true rfl)) dL_law_268 ⟨by show _ ≤ (747762 : Nat); omega, by show _ ≤ (6852817 : Nat); omega⟩) hS (fun q _ h => hFc q h) hFc (fun v H locs hp hz hk hS => ?_)
    obtain ⟨rfl, hP1, hD1⟩ := hp
    have hP1 : va_P D vwCl [(y, .inr (4, [.int ((j_X2_tellSecond th g kn2 td a1 a2).2.1), .ref n2, .int ((j_X2_tellSecond th g kn2 td a1 a2).2.2.2.1), .int ((j_X2_tellSecond th g kn2 td a1 a2).2.2.2.2)])), (n2, .inl (cJ, 8, .inr (.inl ((j_X2_tellSecond th g kn2 td a1 a2).2.2.1))))] H := hP1
    have hD1 : va_D _ [(y, .inr (4, [.int ((j_X2_tellSecond th g kn2 td a1 a2).2.1), .ref n2, .int ((j_X2_tellSecond th g kn2 td a1 a2).2.2.2.1), .int ((j_X2_tellSecond th g kn2 td a1 a2).2.2.2.2)])), (n2, .inl (cJ, 8, .inr (.inl ((j_X2_tellSecond th g kn2 td a1 a2).2.2.1))))] := hD1
    obtain ⟨hP, hD⟩ := va_join (wr := [(x, .inr (2, [.ref n, .int r9.2.1, .int r9.2.2.1])), (n, .inl (cJ, 8, .inr (.inl r9.2.2.2))), (o, .inr (3, [.long ((fun z : Int32 => z.toInt64) r9.1), sr]))]) (wc := [(y, .inr (4, [.int th, .ref n2, .int kn2, .int td])), (n2, .inl (cJ, 8, .inr (.inl g)))]) (w1 := [(y, .inr (4, [.int ((j_X2_tellSecond th g kn2 td a1 a2).2.1), .ref n2, .int ((j_X2_tellSecond th g kn2 td a1 a2).2.2.2.1), .int ((j_X2_tellSecond th g kn2 td a1 a2).2.2.2.2)])), (n2, .inl (cJ, 8, .inr (.inl ((j_X2_tellSecond th g kn2 td a1 a2).2.2.1))))]) hP hD [0, 1] [2, 3, 4] rfl rfl (by decide) (by decide) hk hFc hP1 hD1
    have hP : va_P D vwCl [(x, .inr (2, [.ref n, .int r9.2.1, .int r9.2.2.1])), (n, .inl (cJ, 8, .inr (.inl r9.2.2.2))), (o, .inr (3, [.long ((fun z : Int32 => z.toInt64) r9.1), sr])), (y, .inr (4, [.int ((j_X2_tellSecond th g kn2 td a1 a2).2.1), .ref n2, .int ((j_X2_tellSecond th g kn2 td a1 a2).2.2.2.1), .int ((j_X2_tellSecond th g kn2 td a1 a2).2.2.2.2)])), (n2, .inl (cJ, 8, .inr (.inl ((j_X2_tellSecond th g kn2 td a1 a2).2.2.1))))] H := hP
    have hD : va_D A [(x, .inr (2, [.ref n, .int r9.2.1, .int r9.2.2.1])), (n, .inl (cJ, 8, .inr (.inl r9.2.2.2))), (o, .inr (3, [.long ((fun z : Int32 => z.toInt64) r9.1), sr])), (y, .inr (4, [.int ((j_X2_tellSecond th g kn2 td a1 a2).2.1), .ref n2, .int ((j_X2_tellSecond th g kn2 td a1 a2).2.2.2.1), .int ((j_X2_tellSecond th g kn2 td a1 a2).2.2.2.2)])), (n2, .inl (cJ, 8, .inr (.inl ((j_X2_tellSecond th g kn2 td a1 a2).2.2.1))))] := hD
    obtain ⟨hth, hrv, hI⟩ := (st_tellSecond hI th a1 a2).1 _ hJ9
    refine W.eq (g2 := F0 m 271 ls [.int ((j_X2_tellSecond th g kn2 td a1 a2).1)]) rfl ?_
    refine lv_istore (lv' := [(6, .int ((j_X2_tellSecond th g kn2 td a1 a2).1)), (5, .int 0), (4, .int i), (3, .ref o), (2, .ref y), (1, .ref x), (0, .ref b)]) hx hb dL_law_271 hl (by decide) rfl (fun ls hl => ?_)
    refine lv_goto (tgt := 1162) hx hb dL_law_273 (by decide) ?_
    refine W.widen (k := cells + 100) (n := slots + 8000) (by omega) (by omega) ?_
    exact kk _ _ _ _ _ _ _ _ _ _ _ _ hI (hP.sub [0, 1, 3, 4, 2] rfl) (hD.sub [0, 1, 3, 4, 2] (by decide) rfl) hS (lv_sub hl [2, 3, 4, 5, 6] rfl)
  · have hP1 : va_P D vwCl [(x, .inr (2, [.ref n, .int kn, .int ch])), (n, .inl (cJ, 8, .inr (.inl f))), (o, .inr (3, [.long vn, sr]))] H := hP1
    have hD1 : va_D _ [(x, .inr (2, [.ref n, .int kn, .int ch])), (n, .inl (cJ, 8, .inr (.inl f))), (o, .inr (3, [.long vn, sr]))] := hD1
    obtain ⟨hP, hD⟩ := va_join (wr := [(y, .inr (4, [.int th, .ref n2, .int kn2, .int td])), (n2, .inl (cJ, 8, .inr (.inl g)))]) (wc := [(x, .inr (2, [.ref n, .int kn, .int ch])), (n, .inl (cJ, 8, .inr (.inl f))), (o, .inr (3, [.long vn, sr]))]) (w1 := [(x, .inr (2, [.ref n, .int kn, .int ch])), (n, .inl (cJ, 8, .inr (.inl f))), (o, .inr (3, [.long vn, sr]))]) hP hD [0, 1, 4] [2, 3] rfl rfl (by decide) (by decide) hk hFc hP1 hD1
    have hP : va_P D vwCl [(y, .inr (4, [.int th, .ref n2, .int kn2, .int td])), (n2, .inl (cJ, 8, .inr (.inl g))), (x, .inr (2, [.ref n, .int kn, .int ch])), (n, .inl (cJ, 8, .inr (.inl f))), (o, .inr (3, [.long vn, sr]))] H := hP
    have hD : va_D A [(y, .inr (4, [.int th, .ref n2, .int kn2, .int td])), (n2, .inl (cJ, 8, .inr (.inl g))), (x, .inr (2, [.ref n, .int kn, .int ch])), (n, .inl (cJ, 8, .inr (.inl f))), (o, .inr (3, [.long vn, sr]))] := hD
    refine W.eq (g2 := F0 m 253 ls [.int (k_cd E9)]) rfl ?_
    refine lv_istore (lv' := [(5, .int (k_cd E9)), (4, .int i), (3, .ref o), (2, .ref y), (1, .ref x), (0, .ref b)]) hx hb dL_law_253 hl (by decide) rfl (fun ls hl => ?_)
    refine lv_aload_n hx hb dL_law_255 rfl (lv_at hl 3 rfl) ?_
    refine lv_aload_n hx hb dL_law_256 rfl (lv_at hl 5 rfl) ?_
    refine lv_iload hx hb dL_law_257 (lv_at hl 1 rfl) ?_
    refine lv_iconst (v := 1) hx hb dL_law_259 (by decide) ?_
    refine lv_iadd hx hb dL_law_260 ?_
    refine va_sld hx hb hX hbl hbA hS hi1 dL_law_261 ?_
    rw [ha1]
    refine lv_aload_n hx hb dL_law_262 rfl (lv_at hl 5 rfl) ?_
    refine lv_iload hx hb dL_law_263 (lv_at hl 1 rfl) ?_
    refine lv_iconst (v := 2) hx hb dL_law_265 (by decide) ?_
    refine lv_iadd hx hb dL_law_266 ?_
    refine va_sld hx hb hX hbl hbA hS hi2 dL_law_267 ?_
    rw [ha2]
    have hFc := va_free (wc := [(y, .inr (4, [.int th, .ref n2, .int kn2, .int td])), (n2, .inl (cJ, 8, .inr (.inl g)))]) hD hS hA [0, 1] rfl
    have hT9 := tm_tellSecond hI th a1 a2
    refine k_go (va_runV (As := [.int a1, .int a2]) (rest := []) ⟨hx, hb, hml, hown, hts⟩ (c_X2_tellSecond l D cB cJ _ y n2 th g kn2 td (hP.sub [0, 1] rfl) ((hD.sub [0, 1] (by decide) rfl).weaken (fun _ _ _ _ => trivial)) a1 a2 hT9) (cwV 2 hts gL_law_X2_tellSecond rfl rfl rfl (by decide +kernel) ⟨(Nat.le_of_ble_eq_true rfl), (Nat.le_of_ble_eq_true rfl)⟩) (k_preV hE hS hFc (va_recv hK hP (ci := 4) (q0 := 0) rfl rfl)) rfl rfl hl.1 rfl (lv_room (Nat.le_of_ble_eq_true rfl)) dL_law_268 ⟨by show _ ≤ (747762 : Nat); omega, by show _ ≤ (6852817 : Nat); omega⟩) hS (fun q _ h => hFc q h) hFc (fun v H locs hp hz hk hS => ?_)
    obtain ⟨rfl, hP1, hD1⟩ := hp
    have hP1 : va_P D vwCl [(y, .inr (4, [.int ((j_X2_tellSecond th g kn2 td a1 a2).2.1), .ref n2, .int ((j_X2_tellSecond th g kn2 td a1 a2).2.2.2.1), .int ((j_X2_tellSecond th g kn2 td a1 a2).2.2.2.2)])), (n2, .inl (cJ, 8, .inr (.inl ((j_X2_tellSecond th g kn2 td a1 a2).2.2.1))))] H := hP1
    have hD1 : va_D _ [(y, .inr (4, [.int ((j_X2_tellSecond th g kn2 td a1 a2).2.1), .ref n2, .int ((j_X2_tellSecond th g kn2 td a1 a2).2.2.2.1), .int ((j_X2_tellSecond th g kn2 td a1 a2).2.2.2.2)])), (n2, .inl (cJ, 8, .inr (.inl ((j_X2_tellSecond th g kn2 td a1 a2).2.2.1))))] := hD1
    obtain ⟨hP, hD⟩ := va_join (wr := [(x, .inr (2, [.ref n, .int kn, .int ch])), (n, .inl (cJ, 8, .inr (.inl f))), (o, .inr (3, [.long vn, sr]))]) (wc := [(y, .inr (4, [.int th, .ref n2, .int kn2, .int td])), (n2, .inl (cJ, 8, .inr (.inl g)))]) (w1 := [(y, .inr (4, [.int ((j_X2_tellSecond th g kn2 td a1 a2).2.1), .ref n2, .int ((j_X2_tellSecond th g kn2 td a1 a2).2.2.2.1), .int ((j_X2_tellSecond th g kn2 td a1 a2).2.2.2.2)])), (n2, .inl (cJ, 8, .inr (.inl ((j_X2_tellSecond th g kn2 td a1 a2).2.2.1))))]) hP hD [0, 1] [2, 3, 4] rfl rfl (by decide) (by decide) hk hFc hP1 hD1
    have hP : va_P D vwCl [(x, .inr (2, [.ref n, .int kn, .int ch])), (n, .inl (cJ, 8, .inr (.inl f))), (o, .inr (3, [.long vn, sr])), (y, .inr (4, [.int ((j_X2_tellSecond th g kn2 td a1 a2).2.1), .ref n2, .int ((j_X2_tellSecond th g kn2 td a1 a2).2.2.2.1), .int ((j_X2_tellSecond th g kn2 td a1 a2).2.2.2.2)])), (n2, .inl (cJ, 8, .inr (.inl ((j_X2_tellSecond th g kn2 td a1 a2).2.2.1))))] H := hP
    have hD : va_D A [(x, .inr (2, [.ref n, .int kn, .int ch])), (n, .inl (cJ, 8, .inr (.inl f))), (o, .inr (3, [.long vn, sr])), (y, .inr (4, [.int ((j_X2_tellSecond th g kn2 td a1 a2).2.1), .ref n2, .int ((j_X2_tellSecond th g kn2 td a1 a2).2.2.2.1), .int ((j_X2_tellSecond th g kn2 td a1 a2).2.2.2.2)])), (n2, .inl (cJ, 8, .inr (.inl ((j_X2_tellSecond th g kn2 td a1 a2).2.2.1))))] := hD
    obtain ⟨hth, hI⟩ := (st_tellSecond hI th a1 a2).2 _ hJ9
    refine W.eq (g2 := F0 m 271 ls [.int ((j_X2_tellSecond th g kn2 td a1 a2).1)]) rfl ?_
    refine lv_istore (lv' := [(6, .int ((j_X2_tellSecond th g kn2 td a1 a2).1)), (5, .int (k_cd E9)), (4, .int i), (3, .ref o), (2, .ref y), (1, .ref x), (0, .ref b)]) hx hb dL_law_271 hl (by decide) rfl (fun ls hl => ?_)
    refine lv_goto (tgt := 1162) hx hb dL_law_273 (by decide) ?_
    refine W.widen (k := cells + 100) (n := slots + 8000) (by omega) (by omega) ?_
    exact kk _ _ _ _ _ _ _ _ _ _ _ _ hI (hP.sub [0, 1, 3, 4, 2] rfl) (hD.sub [0, 1, 3, 4, 2] (by decide) rfl) hS (lv_sub hl [2, 3, 4, 5, 6] rfl)
set_option maxHeartbeats 4000000 in
set_option maxRecDepth 100000 in
theorem lc_tellNumber {p : Program} {l : Launch} {e : Env} {s : State} {m : MethodId} {below : List Frame} {meth : Method} {c : Code} {D : va_G} {cB cJ : ClassId} {A : Nat → Prop} {Q : State → Prop} {b L x n y n2 o : Nat} {xs : Nat → Int32} (hl9 : l.stackTraces = false) (hx : p.tables.exec = Jvm.exec) (hb : c.code = code) (hml : c.maxLocals = 7) (hown : s.vm.findClass RL = some m.cls) (hts : ∀ w ∈ wsL_law, w.before #[Value.ref b] s = true) (hE : kE D cB cJ A s s.heap) (hN : kN s) (hA : ∀ q : Nat, s.heap.size ≤ q → A q) (hX : va_X b L xs s s.heap) (hbl : b < s.heap.size) (hbA : ¬ A b) {i : Int32} {a1 : Int32} (hi1 : vp_in (i + 1) L) (ha1 : xs (i + 1).toNatClampNeg = a1) {a2 : Int32} (hi2 : vp_in (i + 2) L) (ha2 : xs (i + 2).toNatClampNeg = a2) {a3 : Int32} (hi3 : vp_in (i + 3) L) (ha3 : xs (i + 3).toNatClampNeg = a3) {a4 : Int32} (hi4 : vp_in (i + 4) L) (ha4 : xs (i + 4).toNatClampNeg = a4) {a5 : Int32} (hi5 : vp_in (i + 5) L) (ha5 : xs (i + 5).toNatClampNeg = a5) {kn ch kn2 td th : Int32} {f g : Nat → Int64} {vn : Int64} {sr : Value} {H : Heap} {locs : List Loc} {cells slots : Nat} {ls : Array Slot} (hc9 : cells + 100 ≤ 747762) (hs9 : slots + 8000 ≤ 6852817) (hI : kInv kn ch f kn2 td g) (hP : va_P D vwCl [(x, .inr (2, [.ref n, .int kn, .int ch])), (n, .inl (cJ, 8, .inr (.inl f))), (y, .inr (4, [.int th, .ref n2, .int kn2, .int td])), (n2, .inl (cJ, 8, .inr (.inl g))), (o, .inr (3, [.long vn, sr]))] H) (hD : va_D A [(x, .inr (2, [.ref n, .int kn, .int ch])), (n, .inl (cJ, 8, .inr (.inl f))), (y, .inr (4, [.int th, .ref n2, .int kn2, .int td])), (n2, .inl (cJ, 8, .inr (.inl g))), (o, .inr (3, [.long vn, sr]))]) (hS : va_S A s.heap H locs) (hl : lv_has ls 7 [(4, .int i), (3, .ref o), (2, .ref y), (1, .ref x), (0, .ref b)]) (kk : ∀ (kn ch kn2 td th : Int32) (f g : Nat → Int64) (vn : Int64) (sr : Value) (H : Heap) (locs : List Loc) (ls : Array Slot), kInv kn ch f kn2 td g → va_P D vwCl [(x, .inr (2, [.ref n, .int kn, .int ch])), (n, .inl (cJ, 8, .inr (.inl f))), (y, .inr (4, [.int th, .ref n2, .int kn2, .int td])), (n2, .inl (cJ, 8, .inr (.inl g))), (o, .inr (3, [.long vn, sr]))] H → va_D A [(x, .inr (2, [.ref n, .int kn, .int ch])), (n, .inl (cJ, 8, .inr (.inl f))), (y, .inr (4, [.int th, .ref n2, .int kn2, .int td])), (n2, .inl (cJ, 8, .inr (.inl g))), (o, .inr (3, [.long vn, sr]))] → va_S A s.heap H locs → lv_has ls 7 [(4, .int i), (3, .ref o), (2, .ref y), (1, .ref x), (0, .ref b)] → W p l e room_1 s m #[Value.ref b] below meth c H locs (cells + 100) (slots + 8000) Q (F0 m 1162 ls [])) : W p l e room_1 s m #[Value.ref b] below meth c H locs cells slots Q (F0 m 276 ls []) := by
  have hK := hE.1
  refine lv_aload_n hx hb dL_law_276 rfl (lv_at hl 3 rfl) ?_
  refine lv_aload_n hx hb dL_law_277 rfl (lv_at hl 4 rfl) ?_
  refine lv_iload hx hb dL_law_278 (lv_at hl 0 rfl) ?_
  refine lv_iconst (v := 1) hx hb dL_law_280 (by decide) ?_
  refine lv_iadd hx hb dL_law_281 ?_
  refine va_sld hx hb hX hbl hbA hS hi1 dL_law_282 ?_
  rw [ha1]
  refine lv_aload_n hx hb dL_law_283 rfl (lv_at hl 4 rfl) ?_
  refine lv_iload hx hb dL_law_284 (lv_at hl 0 rfl) ?_
  refine lv_iconst (v := 2) hx hb dL_law_286 (by decide) ?_
  refine lv_iadd hx hb dL_law_287 ?_
  refine va_sld hx hb hX hbl hbA hS hi2 dL_law_288 ?_
  rw [ha2]
  refine lv_aload_n hx hb dL_law_289 rfl (lv_at hl 4 rfl) ?_
  refine lv_iload hx hb dL_law_290 (lv_at hl 0 rfl) ?_
  refine lv_iconst (v := 3) hx hb dL_law_292 (by decide) ?_
  refine lv_iadd hx hb dL_law_293 ?_
  refine va_sld hx hb hX hbl hbA hS hi3 dL_law_294 ?_
  rw [ha3]
  refine lv_aload_n hx hb dL_law_295 rfl (lv_at hl 1 rfl) ?_
  have hFc := va_free (wc := [(x, .inr (2, [.ref n, .int kn, .int ch])), (n, .inl (cJ, 8, .inr (.inl f))), (o, .inr (3, [.long vn, sr]))]) hD hS hA [0, 1, 4] rfl
  refine kx_go (vx_runSX (As := [.ref x, .int a1, .int a2, .int a3, .ref o]) (rest := []) ⟨hx, hb, hml, hown, hts⟩ (c_L_tellNumber l hl9 D cB cJ _ x n o kn ch f vn sr a1 a2 a3 (hP.sub [0, 1, 4] rfl) ((hD.sub [0, 1, 4] (by decide) rfl).weaken (fun _ _ _ _ => trivial))) (vx_cwSW 5 hts gL_law_L_tellNumber rfl rfl rfl (by decide +kernel) ⟨(Nat.le_of_ble_eq_true rfl), (Nat.le_of_ble_eq_true rfl)⟩) (k_preSN hE hN hS hFc) rfl rfl hl.1 rfl (lv_room (Nat.le_of_ble_eq_true rfl)) dL_law_296 ⟨by show _ ≤ (747762 : Nat); omega, by show _ ≤ (6852817 : Nat); omega⟩) hS (fun q _ h => hFc q h) hFc (fun E ce q9 H locs hp hz hk hS hce hcv hcl => hp.elim) (fun v H locs hp hz hk hS => ?_)
  rcases hp with ⟨r9, hJ9, rfl, hP1, hD1⟩ | ⟨E9, hJ9, rfl, hP1, hD1⟩
  · have hP1 : va_P D vwCl [(x, .inr (2, [.ref n, .int r9.2.1, .int r9.2.2.1])), (n, .inl (cJ, 8, .inr (.inl r9.2.2.2))), (o, .inr (3, [.long ((fun z : Int32 => z.toInt64) r9.1), sr]))] H := hP1
    have hD1 : va_D _ [(x, .inr (2, [.ref n, .int r9.2.1, .int r9.2.2.1])), (n, .inl (cJ, 8, .inr (.inl r9.2.2.2))), (o, .inr (3, [.long ((fun z : Int32 => z.toInt64) r9.1), sr]))] := hD1
    obtain ⟨hP, hD⟩ := va_join (wr := [(y, .inr (4, [.int th, .ref n2, .int kn2, .int td])), (n2, .inl (cJ, 8, .inr (.inl g)))]) (wc := [(x, .inr (2, [.ref n, .int kn, .int ch])), (n, .inl (cJ, 8, .inr (.inl f))), (o, .inr (3, [.long vn, sr]))]) (w1 := [(x, .inr (2, [.ref n, .int r9.2.1, .int r9.2.2.1])), (n, .inl (cJ, 8, .inr (.inl r9.2.2.2))), (o, .inr (3, [.long ((fun z : Int32 => z.toInt64) r9.1), sr]))]) hP hD [0, 1, 4] [2, 3] rfl rfl (by decide) (by decide) hk hFc hP1 hD1
    have hP : va_P D vwCl [(y, .inr (4, [.int th, .ref n2, .int kn2, .int td])), (n2, .inl (cJ, 8, .inr (.inl g))), (x, .inr (2, [.ref n, .int r9.2.1, .int r9.2.2.1])), (n, .inl (cJ, 8, .inr (.inl r9.2.2.2))), (o, .inr (3, [.long ((fun z : Int32 => z.toInt64) r9.1), sr]))] H := hP
    have hD : va_D A [(y, .inr (4, [.int th, .ref n2, .int kn2, .int td])), (n2, .inl (cJ, 8, .inr (.inl g))), (x, .inr (2, [.ref n, .int r9.2.1, .int r9.2.2.1])), (n, .inl (cJ, 8, .inr (.inl r9.2.2.2))), (o, .inr (3, [.long ((fun z : Int32 => z.toInt64) r9.1), sr]))] := hD
    refine W.eq (g2 := F0 m 299 ls [.int 0]) rfl ?_
    refine lv_istore (lv' := [(5, .int 0), (4, .int i), (3, .ref o), (2, .ref y), (1, .ref x), (0, .ref b)]) hx hb dL_law_299 hl (by decide) rfl (fun ls hl => ?_)
    refine lv_aload_n hx hb dL_law_301 rfl (lv_at hl 3 rfl) ?_
    refine lv_aload_n hx hb dL_law_302 rfl (lv_at hl 5 rfl) ?_
    refine lv_iload hx hb dL_law_303 (lv_at hl 1 rfl) ?_
    refine lv_iconst (v := 1) hx hb dL_law_305 (by decide) ?_
    refine lv_iadd hx hb dL_law_306 ?_
    refine va_sld hx hb hX hbl hbA hS hi1 dL_law_307 ?_
    rw [ha1]
    refine lv_aload_n hx hb dL_law_308 rfl (lv_at hl 5 rfl) ?_
    refine lv_iload hx hb dL_law_309 (lv_at hl 1 rfl) ?_
    refine lv_iconst (v := 2) hx hb dL_law_311 (by decide) ?_
    refine lv_iadd hx hb dL_law_312 ?_
    refine va_sld hx hb hX hbl hbA hS hi2 dL_law_313 ?_
    rw [ha2]
    refine lv_aload_n hx hb dL_law_314 rfl (lv_at hl 5 rfl) ?_
    refine lv_iload hx hb dL_law_315 (lv_at hl 1 rfl) ?_
    refine lv_iconst (v := 3) hx hb dL_law_317 (by decide) ?_
    refine lv_iadd hx hb dL_law_318 ?_
    refine va_sld hx hb hX hbl hbA hS hi3 dL_law_319 ?_
    rw [ha3]
    have hFc := va_free (wc := [(y, .inr (4, [.int th, .ref n2, .int kn2, .int td])), (n2, .inl (cJ, 8, .inr (.inl g)))]) hD hS hA [0, 1] rfl
    have hT9 := tm_tellNumber hI th a1 a2 a3
    refine k_go (va_runV (As := [.int a1, .int a2, .int a3]) (rest := []) ⟨hx, hb, hml, hown, hts⟩ (c_X2_tellNumber l D cB cJ _ y n2 th g kn2 td (hP.sub [0, 1] rfl) ((hD.sub [0, 1] (by decide) rfl).weaken (fun _ _ _ _ => trivial)) a1 a2 a3 hT9) (cwV 3 hts gL_law_X2_tellNumber rfl rfl rfl (by decide +kernel) ⟨(Nat.le_of_ble_eq_true rfl), (Nat.le_of_ble_eq_true rfl)⟩) (k_preV hE hS hFc (va_recv hK hP (ci := 4) (q0 := 0) rfl rfl)) rfl rfl hl.1 rfl (lv_room (Nat.le_of_ble_eq_true rfl)) dL_law_320 ⟨by show _ ≤ (747762 : Nat); omega, by show _ ≤ (6852817 : Nat); omega⟩) hS (fun q _ h => hFc q h) hFc (fun v H locs hp hz hk hS => ?_)
    obtain ⟨rfl, hP1, hD1⟩ := hp
    have hP1 : va_P D vwCl [(y, .inr (4, [.int ((j_X2_tellNumber th g kn2 td a1 a2 a3).2.1), .ref n2, .int ((j_X2_tellNumber th g kn2 td a1 a2 a3).2.2.2.1), .int ((j_X2_tellNumber th g kn2 td a1 a2 a3).2.2.2.2)])), (n2, .inl (cJ, 8, .inr (.inl ((j_X2_tellNumber th g kn2 td a1 a2 a3).2.2.1))))] H := hP1
    have hD1 : va_D _ [(y, .inr (4, [.int ((j_X2_tellNumber th g kn2 td a1 a2 a3).2.1), .ref n2, .int ((j_X2_tellNumber th g kn2 td a1 a2 a3).2.2.2.1), .int ((j_X2_tellNumber th g kn2 td a1 a2 a3).2.2.2.2)])), (n2, .inl (cJ, 8, .inr (.inl ((j_X2_tellNumber th g kn2 td a1 a2 a3).2.2.1))))] := hD1
    obtain ⟨hP, hD⟩ := va_join (wr := [(x, .inr (2, [.ref n, .int r9.2.1, .int r9.2.2.1])), (n, .inl (cJ, 8, .inr (.inl r9.2.2.2))), (o, .inr (3, [.long ((fun z : Int32 => z.toInt64) r9.1), sr]))]) (wc := [(y, .inr (4, [.int th, .ref n2, .int kn2, .int td])), (n2, .inl (cJ, 8, .inr (.inl g)))]) (w1 := [(y, .inr (4, [.int ((j_X2_tellNumber th g kn2 td a1 a2 a3).2.1), .ref n2, .int ((j_X2_tellNumber th g kn2 td a1 a2 a3).2.2.2.1), .int ((j_X2_tellNumber th g kn2 td a1 a2 a3).2.2.2.2)])), (n2, .inl (cJ, 8, .inr (.inl ((j_X2_tellNumber th g kn2 td a1 a2 a3).2.2.1))))]) hP hD [0, 1] [2, 3, 4] rfl rfl (by decide) (by decide) hk hFc hP1 hD1
    have hP : va_P D vwCl [(x, .inr (2, [.ref n, .int r9.2.1, .int r9.2.2.1])), (n, .inl (cJ, 8, .inr (.inl r9.2.2.2))), (o, .inr (3, [.long ((fun z : Int32 => z.toInt64) r9.1), sr])), (y, .inr (4, [.int ((j_X2_tellNumber th g kn2 td a1 a2 a3).2.1), .ref n2, .int ((j_X2_tellNumber th g kn2 td a1 a2 a3).2.2.2.1), .int ((j_X2_tellNumber th g kn2 td a1 a2 a3).2.2.2.2)])), (n2, .inl (cJ, 8, .inr (.inl ((j_X2_tellNumber th g kn2 td a1 a2 a3).2.2.1))))] H := hP
    have hD : va_D A [(x, .inr (2, [.ref n, .int r9.2.1, .int r9.2.2.1])), (n, .inl (cJ, 8, .inr (.inl r9.2.2.2))), (o, .inr (3, [.long ((fun z : Int32 => z.toInt64) r9.1), sr])), (y, .inr (4, [.int ((j_X2_tellNumber th g kn2 td a1 a2 a3).2.1), .ref n2, .int ((j_X2_tellNumber th g kn2 td a1 a2 a3).2.2.2.1), .int ((j_X2_tellNumber th g kn2 td a1 a2 a3).2.2.2.2)])), (n2, .inl (cJ, 8, .inr (.inl ((j_X2_tellNumber th g kn2 td a1 a2 a3).2.2.1))))] := hD
    obtain ⟨hth, hrv, hI⟩ := (st_tellNumber hI th a1 a2 a3).1 _ hJ9
    refine W.eq (g2 := F0 m 323 ls [.int ((j_X2_tellNumber th g kn2 td a1 a2 a3).1)]) rfl ?_
    refine lv_istore (lv' := [(6, .int ((j_X2_tellNumber th g kn2 td a1 a2 a3).1)), (5, .int 0), (4, .int i), (3, .ref o), (2, .ref y), (1, .ref x), (0, .ref b)]) hx hb dL_law_323 hl (by decide) rfl (fun ls hl => ?_)
    refine lv_goto (tgt := 1162) hx hb dL_law_325 (by decide) ?_
    refine W.widen (k := cells + 100) (n := slots + 8000) (by omega) (by omega) ?_
    exact kk _ _ _ _ _ _ _ _ _ _ _ _ hI (hP.sub [0, 1, 3, 4, 2] rfl) (hD.sub [0, 1, 3, 4, 2] (by decide) rfl) hS (lv_sub hl [2, 3, 4, 5, 6] rfl)
  · have hP1 : va_P D vwCl [(x, .inr (2, [.ref n, .int kn, .int ch])), (n, .inl (cJ, 8, .inr (.inl f))), (o, .inr (3, [.long vn, sr]))] H := hP1
    have hD1 : va_D _ [(x, .inr (2, [.ref n, .int kn, .int ch])), (n, .inl (cJ, 8, .inr (.inl f))), (o, .inr (3, [.long vn, sr]))] := hD1
    obtain ⟨hP, hD⟩ := va_join (wr := [(y, .inr (4, [.int th, .ref n2, .int kn2, .int td])), (n2, .inl (cJ, 8, .inr (.inl g)))]) (wc := [(x, .inr (2, [.ref n, .int kn, .int ch])), (n, .inl (cJ, 8, .inr (.inl f))), (o, .inr (3, [.long vn, sr]))]) (w1 := [(x, .inr (2, [.ref n, .int kn, .int ch])), (n, .inl (cJ, 8, .inr (.inl f))), (o, .inr (3, [.long vn, sr]))]) hP hD [0, 1, 4] [2, 3] rfl rfl (by decide) (by decide) hk hFc hP1 hD1
    have hP : va_P D vwCl [(y, .inr (4, [.int th, .ref n2, .int kn2, .int td])), (n2, .inl (cJ, 8, .inr (.inl g))), (x, .inr (2, [.ref n, .int kn, .int ch])), (n, .inl (cJ, 8, .inr (.inl f))), (o, .inr (3, [.long vn, sr]))] H := hP
    have hD : va_D A [(y, .inr (4, [.int th, .ref n2, .int kn2, .int td])), (n2, .inl (cJ, 8, .inr (.inl g))), (x, .inr (2, [.ref n, .int kn, .int ch])), (n, .inl (cJ, 8, .inr (.inl f))), (o, .inr (3, [.long vn, sr]))] := hD
    refine W.eq (g2 := F0 m 299 ls [.int (k_cd E9)]) rfl ?_
    refine lv_istore (lv' := [(5, .int (k_cd E9)), (4, .int i), (3, .ref o), (2, .ref y), (1, .ref x), (0, .ref b)]) hx hb dL_law_299 hl (by decide) rfl (fun ls hl => ?_)
    refine lv_aload_n hx hb dL_law_301 rfl (lv_at hl 3 rfl) ?_
    refine lv_aload_n hx hb dL_law_302 rfl (lv_at hl 5 rfl) ?_
    refine lv_iload hx hb dL_law_303 (lv_at hl 1 rfl) ?_
    refine lv_iconst (v := 1) hx hb dL_law_305 (by decide) ?_
    refine lv_iadd hx hb dL_law_306 ?_
    refine va_sld hx hb hX hbl hbA hS hi1 dL_law_307 ?_
    rw [ha1]
    refine lv_aload_n hx hb dL_law_308 rfl (lv_at hl 5 rfl) ?_
    refine lv_iload hx hb dL_law_309 (lv_at hl 1 rfl) ?_
    refine lv_iconst (v := 2) hx hb dL_law_311 (by decide) ?_
    refine lv_iadd hx hb dL_law_312 ?_
    refine va_sld hx hb hX hbl hbA hS hi2 dL_law_313 ?_
    rw [ha2]
    refine lv_aload_n hx hb dL_law_314 rfl (lv_at hl 5 rfl) ?_
    refine lv_iload hx hb dL_law_315 (lv_at hl 1 rfl) ?_
    refine lv_iconst (v := 3) hx hb dL_law_317 (by decide) ?_
    refine lv_iadd hx hb dL_law_318 ?_
    refine va_sld hx hb hX hbl hbA hS hi3 dL_law_319 ?_
    rw [ha3]
    have hFc := va_free (wc := [(y, .inr (4, [.int th, .ref n2, .int kn2, .int td])), (n2, .inl (cJ, 8, .inr (.inl g)))]) hD hS hA [0, 1] rfl
    have hT9 := tm_tellNumber hI th a1 a2 a3
    refine k_go (va_runV (As := [.int a1, .int a2, .int a3]) (rest := []) ⟨hx, hb, hml, hown, hts⟩ (c_X2_tellNumber l D cB cJ _ y n2 th g kn2 td (hP.sub [0, 1] rfl) ((hD.sub [0, 1] (by decide) rfl).weaken (fun _ _ _ _ => trivial)) a1 a2 a3 hT9) (cwV 3 hts gL_law_X2_tellNumber rfl rfl rfl (by decide +kernel) ⟨(Nat.le_of_ble_eq_true rfl), (Nat.le_of_ble_eq_true rfl)⟩) (k_preV hE hS hFc (va_recv hK hP (ci := 4) (q0 := 0) rfl rfl)) rfl rfl hl.1 rfl (lv_room (Nat.le_of_ble_eq_true rfl)) dL_law_320 ⟨by show _ ≤ (747762 : Nat); omega, by show _ ≤ (6852817 : Nat); omega⟩) hS (fun q _ h => hFc q h) hFc (fun v H locs hp hz hk hS => ?_)
    obtain ⟨rfl, hP1, hD1⟩ := hp
    have hP1 : va_P D vwCl [(y, .inr (4, [.int ((j_X2_tellNumber th g kn2 td a1 a2 a3).2.1), .ref n2, .int ((j_X2_tellNumber th g kn2 td a1 a2 a3).2.2.2.1), .int ((j_X2_tellNumber th g kn2 td a1 a2 a3).2.2.2.2)])), (n2, .inl (cJ, 8, .inr (.inl ((j_X2_tellNumber th g kn2 td a1 a2 a3).2.2.1))))] H := hP1
    have hD1 : va_D _ [(y, .inr (4, [.int ((j_X2_tellNumber th g kn2 td a1 a2 a3).2.1), .ref n2, .int ((j_X2_tellNumber th g kn2 td a1 a2 a3).2.2.2.1), .int ((j_X2_tellNumber th g kn2 td a1 a2 a3).2.2.2.2)])), (n2, .inl (cJ, 8, .inr (.inl ((j_X2_tellNumber th g kn2 td a1 a2 a3).2.2.1))))] := hD1
    obtain ⟨hP, hD⟩ := va_join (wr := [(x, .inr (2, [.ref n, .int kn, .int ch])), (n, .inl (cJ, 8, .inr (.inl f))), (o, .inr (3, [.long vn, sr]))]) (wc := [(y, .inr (4, [.int th, .ref n2, .int kn2, .int td])), (n2, .inl (cJ, 8, .inr (.inl g)))]) (w1 := [(y, .inr (4, [.int ((j_X2_tellNumber th g kn2 td a1 a2 a3).2.1), .ref n2, .int ((j_X2_tellNumber th g kn2 td a1 a2 a3).2.2.2.1), .int ((j_X2_tellNumber th g kn2 td a1 a2 a3).2.2.2.2)])), (n2, .inl (cJ, 8, .inr (.inl ((j_X2_tellNumber th g kn2 td a1 a2 a3).2.2.1))))]) hP hD [0, 1] [2, 3, 4] rfl rfl (by decide) (by decide) hk hFc hP1 hD1
    have hP : va_P D vwCl [(x, .inr (2, [.ref n, .int kn, .int ch])), (n, .inl (cJ, 8, .inr (.inl f))), (o, .inr (3, [.long vn, sr])), (y, .inr (4, [.int ((j_X2_tellNumber th g kn2 td a1 a2 a3).2.1), .ref n2, .int ((j_X2_tellNumber th g kn2 td a1 a2 a3).2.2.2.1), .int ((j_X2_tellNumber th g kn2 td a1 a2 a3).2.2.2.2)])), (n2, .inl (cJ, 8, .inr (.inl ((j_X2_tellNumber th g kn2 td a1 a2 a3).2.2.1))))] H := hP
    have hD : va_D A [(x, .inr (2, [.ref n, .int kn, .int ch])), (n, .inl (cJ, 8, .inr (.inl f))), (o, .inr (3, [.long vn, sr])), (y, .inr (4, [.int ((j_X2_tellNumber th g kn2 td a1 a2 a3).2.1), .ref n2, .int ((j_X2_tellNumber th g kn2 td a1 a2 a3).2.2.2.1), .int ((j_X2_tellNumber th g kn2 td a1 a2 a3).2.2.2.2)])), (n2, .inl (cJ, 8, .inr (.inl ((j_X2_tellNumber th g kn2 td a1 a2 a3).2.2.1))))] := hD
    obtain ⟨hth, hI⟩ := (st_tellNumber hI th a1 a2 a3).2 _ hJ9
    refine W.eq (g2 := F0 m 323 ls [.int ((j_X2_tellNumber th g kn2 td a1 a2 a3).1)]) rfl ?_
    refine lv_istore (lv' := [(6, .int ((j_X2_tellNumber th g kn2 td a1 a2 a3).1)), (5, .int (k_cd E9)), (4, .int i), (3, .ref o), (2, .ref y), (1, .ref x), (0, .ref b)]) hx hb dL_law_323 hl (by decide) rfl (fun ls hl => ?_)
    refine lv_goto (tgt := 1162) hx hb dL_law_325 (by decide) ?_
    refine W.widen (k := cells + 100) (n := slots + 8000) (by omega) (by omega) ?_
    exact kk _ _ _ _ _ _ _ _ _ _ _ _ hI (hP.sub [0, 1, 3, 4, 2] rfl) (hD.sub [0, 1, 3, 4, 2] (by decide) rfl) hS (lv_sub hl [2, 3, 4, 5, 6] rfl)
set_option maxHeartbeats 4000000 in
set_option maxRecDepth 100000 in
theorem lc_tellKnown {p : Program} {l : Launch} {e : Env} {s : State} {m : MethodId} {below : List Frame} {meth : Method} {c : Code} {D : va_G} {cB cJ : ClassId} {A : Nat → Prop} {Q : State → Prop} {b L x n y n2 o : Nat} {xs : Nat → Int32} (hl9 : l.stackTraces = false) (hx : p.tables.exec = Jvm.exec) (hb : c.code = code) (hml : c.maxLocals = 7) (hown : s.vm.findClass RL = some m.cls) (hts : ∀ w ∈ wsL_law, w.before #[Value.ref b] s = true) (hE : kE D cB cJ A s s.heap) (hN : kN s) (hA : ∀ q : Nat, s.heap.size ≤ q → A q) (hX : va_X b L xs s s.heap) (hbl : b < s.heap.size) (hbA : ¬ A b) {i : Int32} {a1 : Int32} (hi1 : vp_in (i + 1) L) (ha1 : xs (i + 1).toNatClampNeg = a1) {a2 : Int32} (hi2 : vp_in (i + 2) L) (ha2 : xs (i + 2).toNatClampNeg = a2) {a3 : Int32} (hi3 : vp_in (i + 3) L) (ha3 : xs (i + 3).toNatClampNeg = a3) {a4 : Int32} (hi4 : vp_in (i + 4) L) (ha4 : xs (i + 4).toNatClampNeg = a4) {a5 : Int32} (hi5 : vp_in (i + 5) L) (ha5 : xs (i + 5).toNatClampNeg = a5) {kn ch kn2 td th : Int32} {f g : Nat → Int64} {vn : Int64} {sr : Value} {H : Heap} {locs : List Loc} {cells slots : Nat} {ls : Array Slot} (hc9 : cells + 100 ≤ 747762) (hs9 : slots + 8000 ≤ 6852817) (hI : kInv kn ch f kn2 td g) (hP : va_P D vwCl [(x, .inr (2, [.ref n, .int kn, .int ch])), (n, .inl (cJ, 8, .inr (.inl f))), (y, .inr (4, [.int th, .ref n2, .int kn2, .int td])), (n2, .inl (cJ, 8, .inr (.inl g))), (o, .inr (3, [.long vn, sr]))] H) (hD : va_D A [(x, .inr (2, [.ref n, .int kn, .int ch])), (n, .inl (cJ, 8, .inr (.inl f))), (y, .inr (4, [.int th, .ref n2, .int kn2, .int td])), (n2, .inl (cJ, 8, .inr (.inl g))), (o, .inr (3, [.long vn, sr]))]) (hS : va_S A s.heap H locs) (hl : lv_has ls 7 [(4, .int i), (3, .ref o), (2, .ref y), (1, .ref x), (0, .ref b)]) (kk : ∀ (kn ch kn2 td th : Int32) (f g : Nat → Int64) (vn : Int64) (sr : Value) (H : Heap) (locs : List Loc) (ls : Array Slot), kInv kn ch f kn2 td g → va_P D vwCl [(x, .inr (2, [.ref n, .int kn, .int ch])), (n, .inl (cJ, 8, .inr (.inl f))), (y, .inr (4, [.int th, .ref n2, .int kn2, .int td])), (n2, .inl (cJ, 8, .inr (.inl g))), (o, .inr (3, [.long vn, sr]))] H → va_D A [(x, .inr (2, [.ref n, .int kn, .int ch])), (n, .inl (cJ, 8, .inr (.inl f))), (y, .inr (4, [.int th, .ref n2, .int kn2, .int td])), (n2, .inl (cJ, 8, .inr (.inl g))), (o, .inr (3, [.long vn, sr]))] → va_S A s.heap H locs → lv_has ls 7 [(4, .int i), (3, .ref o), (2, .ref y), (1, .ref x), (0, .ref b)] → W p l e room_1 s m #[Value.ref b] below meth c H locs (cells + 100) (slots + 8000) Q (F0 m 1162 ls [])) : W p l e room_1 s m #[Value.ref b] below meth c H locs cells slots Q (F0 m 328 ls []) := by
  have hK := hE.1
  refine lv_aload_n hx hb dL_law_328 rfl (lv_at hl 3 rfl) ?_
  refine lv_aload_n hx hb dL_law_329 rfl (lv_at hl 4 rfl) ?_
  refine lv_iload hx hb dL_law_330 (lv_at hl 0 rfl) ?_
  refine lv_iconst (v := 1) hx hb dL_law_332 (by decide) ?_
  refine lv_iadd hx hb dL_law_333 ?_
  refine va_sld hx hb hX hbl hbA hS hi1 dL_law_334 ?_
  rw [ha1]
  refine lv_aload_n hx hb dL_law_335 rfl (lv_at hl 4 rfl) ?_
  refine lv_iload hx hb dL_law_336 (lv_at hl 0 rfl) ?_
  refine lv_iconst (v := 2) hx hb dL_law_338 (by decide) ?_
  refine lv_iadd hx hb dL_law_339 ?_
  refine va_sld hx hb hX hbl hbA hS hi2 dL_law_340 ?_
  rw [ha2]
  refine lv_aload_n hx hb dL_law_341 rfl (lv_at hl 1 rfl) ?_
  have hFc := va_free (wc := [(x, .inr (2, [.ref n, .int kn, .int ch])), (n, .inl (cJ, 8, .inr (.inl f))), (o, .inr (3, [.long vn, sr]))]) hD hS hA [0, 1, 4] rfl
  refine kx_go (vx_runSX (As := [.ref x, .int a1, .int a2, .ref o]) (rest := []) ⟨hx, hb, hml, hown, hts⟩ (c_L_tellKnown l hl9 D cB cJ _ x n o kn ch f vn sr a1 a2 (hP.sub [0, 1, 4] rfl) ((hD.sub [0, 1, 4] (by decide) rfl).weaken (fun _ _ _ _ => trivial))) (vx_cwSW 4 hts gL_law_L_tellKnown rfl rfl rfl (by decide +kernel) ⟨(Nat.le_of_ble_eq_true rfl), (Nat.le_of_ble_eq_true rfl)⟩) (k_preSN hE hN hS hFc) rfl rfl hl.1 rfl (lv_room (Nat.le_of_ble_eq_true rfl)) dL_law_342 ⟨by show _ ≤ (747762 : Nat); omega, by show _ ≤ (6852817 : Nat); omega⟩) hS (fun q _ h => hFc q h) hFc (fun E ce q9 H locs hp hz hk hS hce hcv hcl => hp.elim) (fun v H locs hp hz hk hS => ?_)
  rcases hp with ⟨r9, hJ9, rfl, hP1, hD1⟩ | ⟨E9, hJ9, rfl, hP1, hD1⟩
  · have hP1 : va_P D vwCl [(x, .inr (2, [.ref n, .int r9.2.1, .int r9.2.2.1])), (n, .inl (cJ, 8, .inr (.inl r9.2.2.2))), (o, .inr (3, [.long ((fun z : Int32 => z.toInt64) r9.1), sr]))] H := hP1
    have hD1 : va_D _ [(x, .inr (2, [.ref n, .int r9.2.1, .int r9.2.2.1])), (n, .inl (cJ, 8, .inr (.inl r9.2.2.2))), (o, .inr (3, [.long ((fun z : Int32 => z.toInt64) r9.1), sr]))] := hD1
    obtain ⟨hP, hD⟩ := va_join (wr := [(y, .inr (4, [.int th, .ref n2, .int kn2, .int td])), (n2, .inl (cJ, 8, .inr (.inl g)))]) (wc := [(x, .inr (2, [.ref n, .int kn, .int ch])), (n, .inl (cJ, 8, .inr (.inl f))), (o, .inr (3, [.long vn, sr]))]) (w1 := [(x, .inr (2, [.ref n, .int r9.2.1, .int r9.2.2.1])), (n, .inl (cJ, 8, .inr (.inl r9.2.2.2))), (o, .inr (3, [.long ((fun z : Int32 => z.toInt64) r9.1), sr]))]) hP hD [0, 1, 4] [2, 3] rfl rfl (by decide) (by decide) hk hFc hP1 hD1
    have hP : va_P D vwCl [(y, .inr (4, [.int th, .ref n2, .int kn2, .int td])), (n2, .inl (cJ, 8, .inr (.inl g))), (x, .inr (2, [.ref n, .int r9.2.1, .int r9.2.2.1])), (n, .inl (cJ, 8, .inr (.inl r9.2.2.2))), (o, .inr (3, [.long ((fun z : Int32 => z.toInt64) r9.1), sr]))] H := hP
    have hD : va_D A [(y, .inr (4, [.int th, .ref n2, .int kn2, .int td])), (n2, .inl (cJ, 8, .inr (.inl g))), (x, .inr (2, [.ref n, .int r9.2.1, .int r9.2.2.1])), (n, .inl (cJ, 8, .inr (.inl r9.2.2.2))), (o, .inr (3, [.long ((fun z : Int32 => z.toInt64) r9.1), sr]))] := hD
    refine W.eq (g2 := F0 m 345 ls [.int 0]) rfl ?_
    refine lv_istore (lv' := [(5, .int 0), (4, .int i), (3, .ref o), (2, .ref y), (1, .ref x), (0, .ref b)]) hx hb dL_law_345 hl (by decide) rfl (fun ls hl => ?_)
    refine lv_aload_n hx hb dL_law_347 rfl (lv_at hl 3 rfl) ?_
    refine lv_aload_n hx hb dL_law_348 rfl (lv_at hl 5 rfl) ?_
    refine lv_iload hx hb dL_law_349 (lv_at hl 1 rfl) ?_
    refine lv_iconst (v := 1) hx hb dL_law_351 (by decide) ?_
    refine lv_iadd hx hb dL_law_352 ?_
    refine va_sld hx hb hX hbl hbA hS hi1 dL_law_353 ?_
    rw [ha1]
    refine lv_aload_n hx hb dL_law_354 rfl (lv_at hl 5 rfl) ?_
    refine lv_iload hx hb dL_law_355 (lv_at hl 1 rfl) ?_
    refine lv_iconst (v := 2) hx hb dL_law_357 (by decide) ?_
    refine lv_iadd hx hb dL_law_358 ?_
    refine va_sld hx hb hX hbl hbA hS hi2 dL_law_359 ?_
    rw [ha2]
    have hFc := va_free (wc := [(y, .inr (4, [.int th, .ref n2, .int kn2, .int td])), (n2, .inl (cJ, 8, .inr (.inl g)))]) hD hS hA [0, 1] rfl
    have hT9 := tm_tellKnown hI th a1 a2
    refine k_go (va_runV (As := [.int a1, .int a2]) (rest := []) ⟨hx, hb, hml, hown, hts⟩ (c_X2_tellKnown l D cB cJ _ y n2 th g kn2 td (hP.sub [0, 1] rfl) ((hD.sub [0, 1] (by decide) rfl).weaken (fun _ _ _ _ => trivial)) a1 a2 hT9) (cwV 2 hts gL_law_X2_tellKnown rfl rfl rfl (by decide +kernel) ⟨(Nat.le_of_ble_eq_true rfl), (Nat.le_of_ble_eq_true rfl)⟩) (k_preV hE hS hFc (va_recv hK hP (ci := 4) (q0 := 0) rfl rfl)) rfl rfl hl.1 rfl (lv_room (Nat.le_of_ble_eq_true rfl)) dL_law_360 ⟨by show _ ≤ (747762 : Nat); omega, by show _ ≤ (6852817 : Nat); omega⟩) hS (fun q _ h => hFc q h) hFc (fun v H locs hp hz hk hS => ?_)
    obtain ⟨rfl, hP1, hD1⟩ := hp
    have hP1 : va_P D vwCl [(y, .inr (4, [.int ((j_X2_tellKnown th g kn2 td a1 a2).2.1), .ref n2, .int ((j_X2_tellKnown th g kn2 td a1 a2).2.2.2.1), .int ((j_X2_tellKnown th g kn2 td a1 a2).2.2.2.2)])), (n2, .inl (cJ, 8, .inr (.inl ((j_X2_tellKnown th g kn2 td a1 a2).2.2.1))))] H := hP1
    have hD1 : va_D _ [(y, .inr (4, [.int ((j_X2_tellKnown th g kn2 td a1 a2).2.1), .ref n2, .int ((j_X2_tellKnown th g kn2 td a1 a2).2.2.2.1), .int ((j_X2_tellKnown th g kn2 td a1 a2).2.2.2.2)])), (n2, .inl (cJ, 8, .inr (.inl ((j_X2_tellKnown th g kn2 td a1 a2).2.2.1))))] := hD1
    obtain ⟨hP, hD⟩ := va_join (wr := [(x, .inr (2, [.ref n, .int r9.2.1, .int r9.2.2.1])), (n, .inl (cJ, 8, .inr (.inl r9.2.2.2))), (o, .inr (3, [.long ((fun z : Int32 => z.toInt64) r9.1), sr]))]) (wc := [(y, .inr (4, [.int th, .ref n2, .int kn2, .int td])), (n2, .inl (cJ, 8, .inr (.inl g)))]) (w1 := [(y, .inr (4, [.int ((j_X2_tellKnown th g kn2 td a1 a2).2.1), .ref n2, .int ((j_X2_tellKnown th g kn2 td a1 a2).2.2.2.1), .int ((j_X2_tellKnown th g kn2 td a1 a2).2.2.2.2)])), (n2, .inl (cJ, 8, .inr (.inl ((j_X2_tellKnown th g kn2 td a1 a2).2.2.1))))]) hP hD [0, 1] [2, 3, 4] rfl rfl (by decide) (by decide) hk hFc hP1 hD1
    have hP : va_P D vwCl [(x, .inr (2, [.ref n, .int r9.2.1, .int r9.2.2.1])), (n, .inl (cJ, 8, .inr (.inl r9.2.2.2))), (o, .inr (3, [.long ((fun z : Int32 => z.toInt64) r9.1), sr])), (y, .inr (4, [.int ((j_X2_tellKnown th g kn2 td a1 a2).2.1), .ref n2, .int ((j_X2_tellKnown th g kn2 td a1 a2).2.2.2.1), .int ((j_X2_tellKnown th g kn2 td a1 a2).2.2.2.2)])), (n2, .inl (cJ, 8, .inr (.inl ((j_X2_tellKnown th g kn2 td a1 a2).2.2.1))))] H := hP
    have hD : va_D A [(x, .inr (2, [.ref n, .int r9.2.1, .int r9.2.2.1])), (n, .inl (cJ, 8, .inr (.inl r9.2.2.2))), (o, .inr (3, [.long ((fun z : Int32 => z.toInt64) r9.1), sr])), (y, .inr (4, [.int ((j_X2_tellKnown th g kn2 td a1 a2).2.1), .ref n2, .int ((j_X2_tellKnown th g kn2 td a1 a2).2.2.2.1), .int ((j_X2_tellKnown th g kn2 td a1 a2).2.2.2.2)])), (n2, .inl (cJ, 8, .inr (.inl ((j_X2_tellKnown th g kn2 td a1 a2).2.2.1))))] := hD
    obtain ⟨hth, hrv, hI⟩ := (st_tellKnown hI th a1 a2).1 _ hJ9
    refine W.eq (g2 := F0 m 363 ls [.int ((j_X2_tellKnown th g kn2 td a1 a2).1)]) rfl ?_
    refine lv_istore (lv' := [(6, .int ((j_X2_tellKnown th g kn2 td a1 a2).1)), (5, .int 0), (4, .int i), (3, .ref o), (2, .ref y), (1, .ref x), (0, .ref b)]) hx hb dL_law_363 hl (by decide) rfl (fun ls hl => ?_)
    refine lv_goto (tgt := 1162) hx hb dL_law_365 (by decide) ?_
    refine W.widen (k := cells + 100) (n := slots + 8000) (by omega) (by omega) ?_
    exact kk _ _ _ _ _ _ _ _ _ _ _ _ hI (hP.sub [0, 1, 3, 4, 2] rfl) (hD.sub [0, 1, 3, 4, 2] (by decide) rfl) hS (lv_sub hl [2, 3, 4, 5, 6] rfl)
  · have hP1 : va_P D vwCl [(x, .inr (2, [.ref n, .int kn, .int ch])), (n, .inl (cJ, 8, .inr (.inl f))), (o, .inr (3, [.long vn, sr]))] H := hP1
    have hD1 : va_D _ [(x, .inr (2, [.ref n, .int kn, .int ch])), (n, .inl (cJ, 8, .inr (.inl f))), (o, .inr (3, [.long vn, sr]))] := hD1
    obtain ⟨hP, hD⟩ := va_join (wr := [(y, .inr (4, [.int th, .ref n2, .int kn2, .int td])), (n2, .inl (cJ, 8, .inr (.inl g)))]) (wc := [(x, .inr (2, [.ref n, .int kn, .int ch])), (n, .inl (cJ, 8, .inr (.inl f))), (o, .inr (3, [.long vn, sr]))]) (w1 := [(x, .inr (2, [.ref n, .int kn, .int ch])), (n, .inl (cJ, 8, .inr (.inl f))), (o, .inr (3, [.long vn, sr]))]) hP hD [0, 1, 4] [2, 3] rfl rfl (by decide) (by decide) hk hFc hP1 hD1
    have hP : va_P D vwCl [(y, .inr (4, [.int th, .ref n2, .int kn2, .int td])), (n2, .inl (cJ, 8, .inr (.inl g))), (x, .inr (2, [.ref n, .int kn, .int ch])), (n, .inl (cJ, 8, .inr (.inl f))), (o, .inr (3, [.long vn, sr]))] H := hP
    have hD : va_D A [(y, .inr (4, [.int th, .ref n2, .int kn2, .int td])), (n2, .inl (cJ, 8, .inr (.inl g))), (x, .inr (2, [.ref n, .int kn, .int ch])), (n, .inl (cJ, 8, .inr (.inl f))), (o, .inr (3, [.long vn, sr]))] := hD
    refine W.eq (g2 := F0 m 345 ls [.int (k_cd E9)]) rfl ?_
    refine lv_istore (lv' := [(5, .int (k_cd E9)), (4, .int i), (3, .ref o), (2, .ref y), (1, .ref x), (0, .ref b)]) hx hb dL_law_345 hl (by decide) rfl (fun ls hl => ?_)
    refine lv_aload_n hx hb dL_law_347 rfl (lv_at hl 3 rfl) ?_
    refine lv_aload_n hx hb dL_law_348 rfl (lv_at hl 5 rfl) ?_
    refine lv_iload hx hb dL_law_349 (lv_at hl 1 rfl) ?_
    refine lv_iconst (v := 1) hx hb dL_law_351 (by decide) ?_
    refine lv_iadd hx hb dL_law_352 ?_
    refine va_sld hx hb hX hbl hbA hS hi1 dL_law_353 ?_
    rw [ha1]
    refine lv_aload_n hx hb dL_law_354 rfl (lv_at hl 5 rfl) ?_
    refine lv_iload hx hb dL_law_355 (lv_at hl 1 rfl) ?_
    refine lv_iconst (v := 2) hx hb dL_law_357 (by decide) ?_
    refine lv_iadd hx hb dL_law_358 ?_
    refine va_sld hx hb hX hbl hbA hS hi2 dL_law_359 ?_
    rw [ha2]
    have hFc := va_free (wc := [(y, .inr (4, [.int th, .ref n2, .int kn2, .int td])), (n2, .inl (cJ, 8, .inr (.inl g)))]) hD hS hA [0, 1] rfl
    have hT9 := tm_tellKnown hI th a1 a2
    refine k_go (va_runV (As := [.int a1, .int a2]) (rest := []) ⟨hx, hb, hml, hown, hts⟩ (c_X2_tellKnown l D cB cJ _ y n2 th g kn2 td (hP.sub [0, 1] rfl) ((hD.sub [0, 1] (by decide) rfl).weaken (fun _ _ _ _ => trivial)) a1 a2 hT9) (cwV 2 hts gL_law_X2_tellKnown rfl rfl rfl (by decide +kernel) ⟨(Nat.le_of_ble_eq_true rfl), (Nat.le_of_ble_eq_true rfl)⟩) (k_preV hE hS hFc (va_recv hK hP (ci := 4) (q0 := 0) rfl rfl)) rfl rfl hl.1 rfl (lv_room (Nat.le_of_ble_eq_true rfl)) dL_law_360 ⟨by show _ ≤ (747762 : Nat); omega, by show _ ≤ (6852817 : Nat); omega⟩) hS (fun q _ h => hFc q h) hFc (fun v H locs hp hz hk hS => ?_)
    obtain ⟨rfl, hP1, hD1⟩ := hp
    have hP1 : va_P D vwCl [(y, .inr (4, [.int ((j_X2_tellKnown th g kn2 td a1 a2).2.1), .ref n2, .int ((j_X2_tellKnown th g kn2 td a1 a2).2.2.2.1), .int ((j_X2_tellKnown th g kn2 td a1 a2).2.2.2.2)])), (n2, .inl (cJ, 8, .inr (.inl ((j_X2_tellKnown th g kn2 td a1 a2).2.2.1))))] H := hP1
    have hD1 : va_D _ [(y, .inr (4, [.int ((j_X2_tellKnown th g kn2 td a1 a2).2.1), .ref n2, .int ((j_X2_tellKnown th g kn2 td a1 a2).2.2.2.1), .int ((j_X2_tellKnown th g kn2 td a1 a2).2.2.2.2)])), (n2, .inl (cJ, 8, .inr (.inl ((j_X2_tellKnown th g kn2 td a1 a2).2.2.1))))] := hD1
    obtain ⟨hP, hD⟩ := va_join (wr := [(x, .inr (2, [.ref n, .int kn, .int ch])), (n, .inl (cJ, 8, .inr (.inl f))), (o, .inr (3, [.long vn, sr]))]) (wc := [(y, .inr (4, [.int th, .ref n2, .int kn2, .int td])), (n2, .inl (cJ, 8, .inr (.inl g)))]) (w1 := [(y, .inr (4, [.int ((j_X2_tellKnown th g kn2 td a1 a2).2.1), .ref n2, .int ((j_X2_tellKnown th g kn2 td a1 a2).2.2.2.1), .int ((j_X2_tellKnown th g kn2 td a1 a2).2.2.2.2)])), (n2, .inl (cJ, 8, .inr (.inl ((j_X2_tellKnown th g kn2 td a1 a2).2.2.1))))]) hP hD [0, 1] [2, 3, 4] rfl rfl (by decide) (by decide) hk hFc hP1 hD1
    have hP : va_P D vwCl [(x, .inr (2, [.ref n, .int kn, .int ch])), (n, .inl (cJ, 8, .inr (.inl f))), (o, .inr (3, [.long vn, sr])), (y, .inr (4, [.int ((j_X2_tellKnown th g kn2 td a1 a2).2.1), .ref n2, .int ((j_X2_tellKnown th g kn2 td a1 a2).2.2.2.1), .int ((j_X2_tellKnown th g kn2 td a1 a2).2.2.2.2)])), (n2, .inl (cJ, 8, .inr (.inl ((j_X2_tellKnown th g kn2 td a1 a2).2.2.1))))] H := hP
    have hD : va_D A [(x, .inr (2, [.ref n, .int kn, .int ch])), (n, .inl (cJ, 8, .inr (.inl f))), (o, .inr (3, [.long vn, sr])), (y, .inr (4, [.int ((j_X2_tellKnown th g kn2 td a1 a2).2.1), .ref n2, .int ((j_X2_tellKnown th g kn2 td a1 a2).2.2.2.1), .int ((j_X2_tellKnown th g kn2 td a1 a2).2.2.2.2)])), (n2, .inl (cJ, 8, .inr (.inl ((j_X2_tellKnown th g kn2 td a1 a2).2.2.1))))] := hD
    obtain ⟨hth, hI⟩ := (st_tellKnown hI th a1 a2).2 _ hJ9
    refine W.eq (g2 := F0 m 363 ls [.int ((j_X2_tellKnown th g kn2 td a1 a2).1)]) rfl ?_
    refine lv_istore (lv' := [(6, .int ((j_X2_tellKnown th g kn2 td a1 a2).1)), (5, .int (k_cd E9)), (4, .int i), (3, .ref o), (2, .ref y), (1, .ref x), (0, .ref b)]) hx hb dL_law_363 hl (by decide) rfl (fun ls hl => ?_)
    refine lv_goto (tgt := 1162) hx hb dL_law_365 (by decide) ?_
    refine W.widen (k := cells + 100) (n := slots + 8000) (by omega) (by omega) ?_
    exact kk _ _ _ _ _ _ _ _ _ _ _ _ hI (hP.sub [0, 1, 3, 4, 2] rfl) (hD.sub [0, 1, 3, 4, 2] (by decide) rfl) hS (lv_sub hl [2, 3, 4, 5, 6] rfl)
set_option maxHeartbeats 4000000 in
set_option maxRecDepth 100000 in
theorem lc_take {p : Program} {l : Launch} {e : Env} {s : State} {m : MethodId} {below : List Frame} {meth : Method} {c : Code} {D : va_G} {cB cJ : ClassId} {A : Nat → Prop} {Q : State → Prop} {b L x n y n2 o : Nat} {xs : Nat → Int32} (hl9 : l.stackTraces = false) (hx : p.tables.exec = Jvm.exec) (hb : c.code = code) (hml : c.maxLocals = 7) (hown : s.vm.findClass RL = some m.cls) (hts : ∀ w ∈ wsL_law, w.before #[Value.ref b] s = true) (hE : kE D cB cJ A s s.heap) (hN : kN s) (hA : ∀ q : Nat, s.heap.size ≤ q → A q) (hX : va_X b L xs s s.heap) (hbl : b < s.heap.size) (hbA : ¬ A b) {i : Int32} {a1 : Int32} (hi1 : vp_in (i + 1) L) (ha1 : xs (i + 1).toNatClampNeg = a1) {a2 : Int32} (hi2 : vp_in (i + 2) L) (ha2 : xs (i + 2).toNatClampNeg = a2) {a3 : Int32} (hi3 : vp_in (i + 3) L) (ha3 : xs (i + 3).toNatClampNeg = a3) {a4 : Int32} (hi4 : vp_in (i + 4) L) (ha4 : xs (i + 4).toNatClampNeg = a4) {a5 : Int32} (hi5 : vp_in (i + 5) L) (ha5 : xs (i + 5).toNatClampNeg = a5) {kn ch kn2 td th : Int32} {f g : Nat → Int64} {vn : Int64} {sr : Value} {H : Heap} {locs : List Loc} {cells slots : Nat} {ls : Array Slot} (hc9 : cells + 100 ≤ 747762) (hs9 : slots + 8000 ≤ 6852817) (hI : kInv kn ch f kn2 td g) (hP : va_P D vwCl [(x, .inr (2, [.ref n, .int kn, .int ch])), (n, .inl (cJ, 8, .inr (.inl f))), (y, .inr (4, [.int th, .ref n2, .int kn2, .int td])), (n2, .inl (cJ, 8, .inr (.inl g))), (o, .inr (3, [.long vn, sr]))] H) (hD : va_D A [(x, .inr (2, [.ref n, .int kn, .int ch])), (n, .inl (cJ, 8, .inr (.inl f))), (y, .inr (4, [.int th, .ref n2, .int kn2, .int td])), (n2, .inl (cJ, 8, .inr (.inl g))), (o, .inr (3, [.long vn, sr]))]) (hS : va_S A s.heap H locs) (hl : lv_has ls 7 [(4, .int i), (3, .ref o), (2, .ref y), (1, .ref x), (0, .ref b)]) (kk : ∀ (kn ch kn2 td th : Int32) (f g : Nat → Int64) (vn : Int64) (sr : Value) (H : Heap) (locs : List Loc) (ls : Array Slot), kInv kn ch f kn2 td g → va_P D vwCl [(x, .inr (2, [.ref n, .int kn, .int ch])), (n, .inl (cJ, 8, .inr (.inl f))), (y, .inr (4, [.int th, .ref n2, .int kn2, .int td])), (n2, .inl (cJ, 8, .inr (.inl g))), (o, .inr (3, [.long vn, sr]))] H → va_D A [(x, .inr (2, [.ref n, .int kn, .int ch])), (n, .inl (cJ, 8, .inr (.inl f))), (y, .inr (4, [.int th, .ref n2, .int kn2, .int td])), (n2, .inl (cJ, 8, .inr (.inl g))), (o, .inr (3, [.long vn, sr]))] → va_S A s.heap H locs → lv_has ls 7 [(4, .int i), (3, .ref o), (2, .ref y), (1, .ref x), (0, .ref b)] → W p l e room_1 s m #[Value.ref b] below meth c H locs (cells + 100) (slots + 8000) Q (F0 m 1162 ls [])) : W p l e room_1 s m #[Value.ref b] below meth c H locs cells slots Q (F0 m 368 ls []) := by
  have hK := hE.1
  refine lv_aload_n hx hb dL_law_368 rfl (lv_at hl 3 rfl) ?_
  refine lv_aload_n hx hb dL_law_369 rfl (lv_at hl 4 rfl) ?_
  refine lv_iload hx hb dL_law_370 (lv_at hl 0 rfl) ?_
  refine lv_iconst (v := 1) hx hb dL_law_372 (by decide) ?_
  refine lv_iadd hx hb dL_law_373 ?_
  refine va_sld hx hb hX hbl hbA hS hi1 dL_law_374 ?_
  rw [ha1]
  refine lv_aload_n hx hb dL_law_375 rfl (lv_at hl 4 rfl) ?_
  refine lv_iload hx hb dL_law_376 (lv_at hl 0 rfl) ?_
  refine lv_iconst (v := 2) hx hb dL_law_378 (by decide) ?_
  refine lv_iadd hx hb dL_law_379 ?_
  refine va_sld hx hb hX hbl hbA hS hi2 dL_law_380 ?_
  rw [ha2]
  refine lv_aload_n hx hb dL_law_381 rfl (lv_at hl 1 rfl) ?_
  have hFc := va_free (wc := [(x, .inr (2, [.ref n, .int kn, .int ch])), (n, .inl (cJ, 8, .inr (.inl f))), (o, .inr (3, [.long vn, sr]))]) hD hS hA [0, 1, 4] rfl
  refine kx_go (vx_runSX (As := [.ref x, .int a1, .int a2, .ref o]) (rest := []) ⟨hx, hb, hml, hown, hts⟩ (c_L_take l hl9 D cB cJ _ x n o kn ch f vn sr a1 a2 (hP.sub [0, 1, 4] rfl) ((hD.sub [0, 1, 4] (by decide) rfl).weaken (fun _ _ _ _ => trivial))) (vx_cwSW 4 hts gL_law_L_take rfl rfl rfl (by decide +kernel) ⟨(Nat.le_of_ble_eq_true rfl), (Nat.le_of_ble_eq_true rfl)⟩) (k_preSN hE hN hS hFc) rfl rfl hl.1 rfl (lv_room (Nat.le_of_ble_eq_true rfl)) dL_law_382 ⟨by show _ ≤ (747762 : Nat); omega, by show _ ≤ (6852817 : Nat); omega⟩) hS (fun q _ h => hFc q h) hFc (fun E ce q9 H locs hp hz hk hS hce hcv hcl => hp.elim) (fun v H locs hp hz hk hS => ?_)
  rcases hp with ⟨r9, hJ9, rfl, hP1, hD1⟩ | ⟨E9, hJ9, rfl, hP1, hD1⟩
  · have hP1 : va_P D vwCl [(x, .inr (2, [.ref n, .int r9.2.1, .int r9.2.2.1])), (n, .inl (cJ, 8, .inr (.inl r9.2.2.2))), (o, .inr (3, [.long ((fun z : Int32 => z.toInt64) r9.1), sr]))] H := hP1
    have hD1 : va_D _ [(x, .inr (2, [.ref n, .int r9.2.1, .int r9.2.2.1])), (n, .inl (cJ, 8, .inr (.inl r9.2.2.2))), (o, .inr (3, [.long ((fun z : Int32 => z.toInt64) r9.1), sr]))] := hD1
    obtain ⟨hP, hD⟩ := va_join (wr := [(y, .inr (4, [.int th, .ref n2, .int kn2, .int td])), (n2, .inl (cJ, 8, .inr (.inl g)))]) (wc := [(x, .inr (2, [.ref n, .int kn, .int ch])), (n, .inl (cJ, 8, .inr (.inl f))), (o, .inr (3, [.long vn, sr]))]) (w1 := [(x, .inr (2, [.ref n, .int r9.2.1, .int r9.2.2.1])), (n, .inl (cJ, 8, .inr (.inl r9.2.2.2))), (o, .inr (3, [.long ((fun z : Int32 => z.toInt64) r9.1), sr]))]) hP hD [0, 1, 4] [2, 3] rfl rfl (by decide) (by decide) hk hFc hP1 hD1
    have hP : va_P D vwCl [(y, .inr (4, [.int th, .ref n2, .int kn2, .int td])), (n2, .inl (cJ, 8, .inr (.inl g))), (x, .inr (2, [.ref n, .int r9.2.1, .int r9.2.2.1])), (n, .inl (cJ, 8, .inr (.inl r9.2.2.2))), (o, .inr (3, [.long ((fun z : Int32 => z.toInt64) r9.1), sr]))] H := hP
    have hD : va_D A [(y, .inr (4, [.int th, .ref n2, .int kn2, .int td])), (n2, .inl (cJ, 8, .inr (.inl g))), (x, .inr (2, [.ref n, .int r9.2.1, .int r9.2.2.1])), (n, .inl (cJ, 8, .inr (.inl r9.2.2.2))), (o, .inr (3, [.long ((fun z : Int32 => z.toInt64) r9.1), sr]))] := hD
    refine W.eq (g2 := F0 m 385 ls [.int 0]) rfl ?_
    refine lv_istore (lv' := [(5, .int 0), (4, .int i), (3, .ref o), (2, .ref y), (1, .ref x), (0, .ref b)]) hx hb dL_law_385 hl (by decide) rfl (fun ls hl => ?_)
    refine lv_aload_n hx hb dL_law_387 rfl (lv_at hl 3 rfl) ?_
    refine lv_aload_n hx hb dL_law_388 rfl (lv_at hl 5 rfl) ?_
    refine lv_iload hx hb dL_law_389 (lv_at hl 1 rfl) ?_
    refine lv_iconst (v := 1) hx hb dL_law_391 (by decide) ?_
    refine lv_iadd hx hb dL_law_392 ?_
    refine va_sld hx hb hX hbl hbA hS hi1 dL_law_393 ?_
    rw [ha1]
    refine lv_aload_n hx hb dL_law_394 rfl (lv_at hl 5 rfl) ?_
    refine lv_iload hx hb dL_law_395 (lv_at hl 1 rfl) ?_
    refine lv_iconst (v := 2) hx hb dL_law_397 (by decide) ?_
    refine lv_iadd hx hb dL_law_398 ?_
    refine va_sld hx hb hX hbl hbA hS hi2 dL_law_399 ?_
    rw [ha2]
    have hFc := va_free (wc := [(y, .inr (4, [.int th, .ref n2, .int kn2, .int td])), (n2, .inl (cJ, 8, .inr (.inl g)))]) hD hS hA [0, 1] rfl
    have hT9 := tm_take hI th a1 a2
    refine k_go (va_runV (As := [.int a1, .int a2]) (rest := []) ⟨hx, hb, hml, hown, hts⟩ (c_X2_take l D cB cJ _ y n2 th g kn2 td (hP.sub [0, 1] rfl) ((hD.sub [0, 1] (by decide) rfl).weaken (fun _ _ _ _ => trivial)) a1 a2 hT9) (cwV 2 hts gL_law_X2_take rfl rfl rfl (by decide +kernel) ⟨(Nat.le_of_ble_eq_true rfl), (Nat.le_of_ble_eq_true rfl)⟩) (k_preV hE hS hFc (va_recv hK hP (ci := 4) (q0 := 0) rfl rfl)) rfl rfl hl.1 rfl (lv_room (Nat.le_of_ble_eq_true rfl)) dL_law_400 ⟨by show _ ≤ (747762 : Nat); omega, by show _ ≤ (6852817 : Nat); omega⟩) hS (fun q _ h => hFc q h) hFc (fun v H locs hp hz hk hS => ?_)
    obtain ⟨rfl, hP1, hD1⟩ := hp
    have hP1 : va_P D vwCl [(y, .inr (4, [.int ((j_X2_take th g kn2 td a1 a2).2.1), .ref n2, .int ((j_X2_take th g kn2 td a1 a2).2.2.2.1), .int ((j_X2_take th g kn2 td a1 a2).2.2.2.2)])), (n2, .inl (cJ, 8, .inr (.inl ((j_X2_take th g kn2 td a1 a2).2.2.1))))] H := hP1
    have hD1 : va_D _ [(y, .inr (4, [.int ((j_X2_take th g kn2 td a1 a2).2.1), .ref n2, .int ((j_X2_take th g kn2 td a1 a2).2.2.2.1), .int ((j_X2_take th g kn2 td a1 a2).2.2.2.2)])), (n2, .inl (cJ, 8, .inr (.inl ((j_X2_take th g kn2 td a1 a2).2.2.1))))] := hD1
    obtain ⟨hP, hD⟩ := va_join (wr := [(x, .inr (2, [.ref n, .int r9.2.1, .int r9.2.2.1])), (n, .inl (cJ, 8, .inr (.inl r9.2.2.2))), (o, .inr (3, [.long ((fun z : Int32 => z.toInt64) r9.1), sr]))]) (wc := [(y, .inr (4, [.int th, .ref n2, .int kn2, .int td])), (n2, .inl (cJ, 8, .inr (.inl g)))]) (w1 := [(y, .inr (4, [.int ((j_X2_take th g kn2 td a1 a2).2.1), .ref n2, .int ((j_X2_take th g kn2 td a1 a2).2.2.2.1), .int ((j_X2_take th g kn2 td a1 a2).2.2.2.2)])), (n2, .inl (cJ, 8, .inr (.inl ((j_X2_take th g kn2 td a1 a2).2.2.1))))]) hP hD [0, 1] [2, 3, 4] rfl rfl (by decide) (by decide) hk hFc hP1 hD1
    have hP : va_P D vwCl [(x, .inr (2, [.ref n, .int r9.2.1, .int r9.2.2.1])), (n, .inl (cJ, 8, .inr (.inl r9.2.2.2))), (o, .inr (3, [.long ((fun z : Int32 => z.toInt64) r9.1), sr])), (y, .inr (4, [.int ((j_X2_take th g kn2 td a1 a2).2.1), .ref n2, .int ((j_X2_take th g kn2 td a1 a2).2.2.2.1), .int ((j_X2_take th g kn2 td a1 a2).2.2.2.2)])), (n2, .inl (cJ, 8, .inr (.inl ((j_X2_take th g kn2 td a1 a2).2.2.1))))] H := hP
    have hD : va_D A [(x, .inr (2, [.ref n, .int r9.2.1, .int r9.2.2.1])), (n, .inl (cJ, 8, .inr (.inl r9.2.2.2))), (o, .inr (3, [.long ((fun z : Int32 => z.toInt64) r9.1), sr])), (y, .inr (4, [.int ((j_X2_take th g kn2 td a1 a2).2.1), .ref n2, .int ((j_X2_take th g kn2 td a1 a2).2.2.2.1), .int ((j_X2_take th g kn2 td a1 a2).2.2.2.2)])), (n2, .inl (cJ, 8, .inr (.inl ((j_X2_take th g kn2 td a1 a2).2.2.1))))] := hD
    obtain ⟨hth, hrv, hI⟩ := (st_take hI th a1 a2).1 _ hJ9
    refine W.eq (g2 := F0 m 403 ls [.int ((j_X2_take th g kn2 td a1 a2).1)]) rfl ?_
    refine lv_istore (lv' := [(6, .int ((j_X2_take th g kn2 td a1 a2).1)), (5, .int 0), (4, .int i), (3, .ref o), (2, .ref y), (1, .ref x), (0, .ref b)]) hx hb dL_law_403 hl (by decide) rfl (fun ls hl => ?_)
    refine lv_goto (tgt := 1162) hx hb dL_law_405 (by decide) ?_
    refine W.widen (k := cells + 100) (n := slots + 8000) (by omega) (by omega) ?_
    exact kk _ _ _ _ _ _ _ _ _ _ _ _ hI (hP.sub [0, 1, 3, 4, 2] rfl) (hD.sub [0, 1, 3, 4, 2] (by decide) rfl) hS (lv_sub hl [2, 3, 4, 5, 6] rfl)
  · have hP1 : va_P D vwCl [(x, .inr (2, [.ref n, .int kn, .int ch])), (n, .inl (cJ, 8, .inr (.inl f))), (o, .inr (3, [.long vn, sr]))] H := hP1
    have hD1 : va_D _ [(x, .inr (2, [.ref n, .int kn, .int ch])), (n, .inl (cJ, 8, .inr (.inl f))), (o, .inr (3, [.long vn, sr]))] := hD1
    obtain ⟨hP, hD⟩ := va_join (wr := [(y, .inr (4, [.int th, .ref n2, .int kn2, .int td])), (n2, .inl (cJ, 8, .inr (.inl g)))]) (wc := [(x, .inr (2, [.ref n, .int kn, .int ch])), (n, .inl (cJ, 8, .inr (.inl f))), (o, .inr (3, [.long vn, sr]))]) (w1 := [(x, .inr (2, [.ref n, .int kn, .int ch])), (n, .inl (cJ, 8, .inr (.inl f))), (o, .inr (3, [.long vn, sr]))]) hP hD [0, 1, 4] [2, 3] rfl rfl (by decide) (by decide) hk hFc hP1 hD1
    have hP : va_P D vwCl [(y, .inr (4, [.int th, .ref n2, .int kn2, .int td])), (n2, .inl (cJ, 8, .inr (.inl g))), (x, .inr (2, [.ref n, .int kn, .int ch])), (n, .inl (cJ, 8, .inr (.inl f))), (o, .inr (3, [.long vn, sr]))] H := hP
    have hD : va_D A [(y, .inr (4, [.int th, .ref n2, .int kn2, .int td])), (n2, .inl (cJ, 8, .inr (.inl g))), (x, .inr (2, [.ref n, .int kn, .int ch])), (n, .inl (cJ, 8, .inr (.inl f))), (o, .inr (3, [.long vn, sr]))] := hD
    refine W.eq (g2 := F0 m 385 ls [.int (k_cd E9)]) rfl ?_
    refine lv_istore (lv' := [(5, .int (k_cd E9)), (4, .int i), (3, .ref o), (2, .ref y), (1, .ref x), (0, .ref b)]) hx hb dL_law_385 hl (by decide) rfl (fun ls hl => ?_)
    refine lv_aload_n hx hb dL_law_387 rfl (lv_at hl 3 rfl) ?_
    refine lv_aload_n hx hb dL_law_388 rfl (lv_at hl 5 rfl) ?_
    refine lv_iload hx hb dL_law_389 (lv_at hl 1 rfl) ?_
    refine lv_iconst (v := 1) hx hb dL_law_391 (by decide) ?_
    refine lv_iadd hx hb dL_law_392 ?_
    refine va_sld hx hb hX hbl hbA hS hi1 dL_law_393 ?_
    rw [ha1]
    refine lv_aload_n hx hb dL_law_394 rfl (lv_at hl 5 rfl) ?_
    refine lv_iload hx hb dL_law_395 (lv_at hl 1 rfl) ?_
    refine lv_iconst (v := 2) hx hb dL_law_397 (by decide) ?_
    refine lv_iadd hx hb dL_law_398 ?_
    refine va_sld hx hb hX hbl hbA hS hi2 dL_law_399 ?_
    rw [ha2]
    have hFc := va_free (wc := [(y, .inr (4, [.int th, .ref n2, .int kn2, .int td])), (n2, .inl (cJ, 8, .inr (.inl g)))]) hD hS hA [0, 1] rfl
    have hT9 := tm_take hI th a1 a2
    refine k_go (va_runV (As := [.int a1, .int a2]) (rest := []) ⟨hx, hb, hml, hown, hts⟩ (c_X2_take l D cB cJ _ y n2 th g kn2 td (hP.sub [0, 1] rfl) ((hD.sub [0, 1] (by decide) rfl).weaken (fun _ _ _ _ => trivial)) a1 a2 hT9) (cwV 2 hts gL_law_X2_take rfl rfl rfl (by decide +kernel) ⟨(Nat.le_of_ble_eq_true rfl), (Nat.le_of_ble_eq_true rfl)⟩) (k_preV hE hS hFc (va_recv hK hP (ci := 4) (q0 := 0) rfl rfl)) rfl rfl hl.1 rfl (lv_room (Nat.le_of_ble_eq_true rfl)) dL_law_400 ⟨by show _ ≤ (747762 : Nat); omega, by show _ ≤ (6852817 : Nat); omega⟩) hS (fun q _ h => hFc q h) hFc (fun v H locs hp hz hk hS => ?_)
    obtain ⟨rfl, hP1, hD1⟩ := hp
    have hP1 : va_P D vwCl [(y, .inr (4, [.int ((j_X2_take th g kn2 td a1 a2).2.1), .ref n2, .int ((j_X2_take th g kn2 td a1 a2).2.2.2.1), .int ((j_X2_take th g kn2 td a1 a2).2.2.2.2)])), (n2, .inl (cJ, 8, .inr (.inl ((j_X2_take th g kn2 td a1 a2).2.2.1))))] H := hP1
    have hD1 : va_D _ [(y, .inr (4, [.int ((j_X2_take th g kn2 td a1 a2).2.1), .ref n2, .int ((j_X2_take th g kn2 td a1 a2).2.2.2.1), .int ((j_X2_take th g kn2 td a1 a2).2.2.2.2)])), (n2, .inl (cJ, 8, .inr (.inl ((j_X2_take th g kn2 td a1 a2).2.2.1))))] := hD1
    obtain ⟨hP, hD⟩ := va_join (wr := [(x, .inr (2, [.ref n, .int kn, .int ch])), (n, .inl (cJ, 8, .inr (.inl f))), (o, .inr (3, [.long vn, sr]))]) (wc := [(y, .inr (4, [.int th, .ref n2, .int kn2, .int td])), (n2, .inl (cJ, 8, .inr (.inl g)))]) (w1 := [(y, .inr (4, [.int ((j_X2_take th g kn2 td a1 a2).2.1), .ref n2, .int ((j_X2_take th g kn2 td a1 a2).2.2.2.1), .int ((j_X2_take th g kn2 td a1 a2).2.2.2.2)])), (n2, .inl (cJ, 8, .inr (.inl ((j_X2_take th g kn2 td a1 a2).2.2.1))))]) hP hD [0, 1] [2, 3, 4] rfl rfl (by decide) (by decide) hk hFc hP1 hD1
    have hP : va_P D vwCl [(x, .inr (2, [.ref n, .int kn, .int ch])), (n, .inl (cJ, 8, .inr (.inl f))), (o, .inr (3, [.long vn, sr])), (y, .inr (4, [.int ((j_X2_take th g kn2 td a1 a2).2.1), .ref n2, .int ((j_X2_take th g kn2 td a1 a2).2.2.2.1), .int ((j_X2_take th g kn2 td a1 a2).2.2.2.2)])), (n2, .inl (cJ, 8, .inr (.inl ((j_X2_take th g kn2 td a1 a2).2.2.1))))] H := hP
    have hD : va_D A [(x, .inr (2, [.ref n, .int kn, .int ch])), (n, .inl (cJ, 8, .inr (.inl f))), (o, .inr (3, [.long vn, sr])), (y, .inr (4, [.int ((j_X2_take th g kn2 td a1 a2).2.1), .ref n2, .int ((j_X2_take th g kn2 td a1 a2).2.2.2.1), .int ((j_X2_take th g kn2 td a1 a2).2.2.2.2)])), (n2, .inl (cJ, 8, .inr (.inl ((j_X2_take th g kn2 td a1 a2).2.2.1))))] := hD
    obtain ⟨hth, hI⟩ := (st_take hI th a1 a2).2 _ hJ9
    refine W.eq (g2 := F0 m 403 ls [.int ((j_X2_take th g kn2 td a1 a2).1)]) rfl ?_
    refine lv_istore (lv' := [(6, .int ((j_X2_take th g kn2 td a1 a2).1)), (5, .int (k_cd E9)), (4, .int i), (3, .ref o), (2, .ref y), (1, .ref x), (0, .ref b)]) hx hb dL_law_403 hl (by decide) rfl (fun ls hl => ?_)
    refine lv_goto (tgt := 1162) hx hb dL_law_405 (by decide) ?_
    refine W.widen (k := cells + 100) (n := slots + 8000) (by omega) (by omega) ?_
    exact kk _ _ _ _ _ _ _ _ _ _ _ _ hI (hP.sub [0, 1, 3, 4, 2] rfl) (hD.sub [0, 1, 3, 4, 2] (by decide) rfl) hS (lv_sub hl [2, 3, 4, 5, 6] rfl)
set_option maxHeartbeats 4000000 in
set_option maxRecDepth 100000 in
theorem lc_with {p : Program} {l : Launch} {e : Env} {s : State} {m : MethodId} {below : List Frame} {meth : Method} {c : Code} {D : va_G} {cB cJ : ClassId} {A : Nat → Prop} {Q : State → Prop} {b L x n y n2 o : Nat} {xs : Nat → Int32} (hl9 : l.stackTraces = false) (hx : p.tables.exec = Jvm.exec) (hb : c.code = code) (hml : c.maxLocals = 7) (hown : s.vm.findClass RL = some m.cls) (hts : ∀ w ∈ wsL_law, w.before #[Value.ref b] s = true) (hE : kE D cB cJ A s s.heap) (hN : kN s) (hA : ∀ q : Nat, s.heap.size ≤ q → A q) (hX : va_X b L xs s s.heap) (hbl : b < s.heap.size) (hbA : ¬ A b) {i : Int32} {a1 : Int32} (hi1 : vp_in (i + 1) L) (ha1 : xs (i + 1).toNatClampNeg = a1) {a2 : Int32} (hi2 : vp_in (i + 2) L) (ha2 : xs (i + 2).toNatClampNeg = a2) {a3 : Int32} (hi3 : vp_in (i + 3) L) (ha3 : xs (i + 3).toNatClampNeg = a3) {a4 : Int32} (hi4 : vp_in (i + 4) L) (ha4 : xs (i + 4).toNatClampNeg = a4) {a5 : Int32} (hi5 : vp_in (i + 5) L) (ha5 : xs (i + 5).toNatClampNeg = a5) {kn ch kn2 td th : Int32} {f g : Nat → Int64} {vn : Int64} {sr : Value} {H : Heap} {locs : List Loc} {cells slots : Nat} {ls : Array Slot} (hc9 : cells + 100 ≤ 747762) (hs9 : slots + 8000 ≤ 6852817) (hI : kInv kn ch f kn2 td g) (hP : va_P D vwCl [(x, .inr (2, [.ref n, .int kn, .int ch])), (n, .inl (cJ, 8, .inr (.inl f))), (y, .inr (4, [.int th, .ref n2, .int kn2, .int td])), (n2, .inl (cJ, 8, .inr (.inl g))), (o, .inr (3, [.long vn, sr]))] H) (hD : va_D A [(x, .inr (2, [.ref n, .int kn, .int ch])), (n, .inl (cJ, 8, .inr (.inl f))), (y, .inr (4, [.int th, .ref n2, .int kn2, .int td])), (n2, .inl (cJ, 8, .inr (.inl g))), (o, .inr (3, [.long vn, sr]))]) (hS : va_S A s.heap H locs) (hl : lv_has ls 7 [(4, .int i), (3, .ref o), (2, .ref y), (1, .ref x), (0, .ref b)]) (kk : ∀ (kn ch kn2 td th : Int32) (f g : Nat → Int64) (vn : Int64) (sr : Value) (H : Heap) (locs : List Loc) (ls : Array Slot), kInv kn ch f kn2 td g → va_P D vwCl [(x, .inr (2, [.ref n, .int kn, .int ch])), (n, .inl (cJ, 8, .inr (.inl f))), (y, .inr (4, [.int th, .ref n2, .int kn2, .int td])), (n2, .inl (cJ, 8, .inr (.inl g))), (o, .inr (3, [.long vn, sr]))] H → va_D A [(x, .inr (2, [.ref n, .int kn, .int ch])), (n, .inl (cJ, 8, .inr (.inl f))), (y, .inr (4, [.int th, .ref n2, .int kn2, .int td])), (n2, .inl (cJ, 8, .inr (.inl g))), (o, .inr (3, [.long vn, sr]))] → va_S A s.heap H locs → lv_has ls 7 [(4, .int i), (3, .ref o), (2, .ref y), (1, .ref x), (0, .ref b)] → W p l e room_1 s m #[Value.ref b] below meth c H locs (cells + 100) (slots + 8000) Q (F0 m 1162 ls [])) : W p l e room_1 s m #[Value.ref b] below meth c H locs cells slots Q (F0 m 408 ls []) := by
  have hK := hE.1
  refine lv_aload_n hx hb dL_law_408 rfl (lv_at hl 3 rfl) ?_
  refine lv_aload_n hx hb dL_law_409 rfl (lv_at hl 4 rfl) ?_
  refine lv_iload hx hb dL_law_410 (lv_at hl 0 rfl) ?_
  refine lv_iconst (v := 1) hx hb dL_law_412 (by decide) ?_
  refine lv_iadd hx hb dL_law_413 ?_
  refine va_sld hx hb hX hbl hbA hS hi1 dL_law_414 ?_
  rw [ha1]
  refine lv_aload_n hx hb dL_law_415 rfl (lv_at hl 4 rfl) ?_
  refine lv_iload hx hb dL_law_416 (lv_at hl 0 rfl) ?_
  refine lv_iconst (v := 2) hx hb dL_law_418 (by decide) ?_
  refine lv_iadd hx hb dL_law_419 ?_
  refine va_sld hx hb hX hbl hbA hS hi2 dL_law_420 ?_
  rw [ha2]
  refine lv_aload_n hx hb dL_law_421 rfl (lv_at hl 4 rfl) ?_
  refine lv_iload hx hb dL_law_422 (lv_at hl 0 rfl) ?_
  refine lv_iconst (v := 3) hx hb dL_law_424 (by decide) ?_
  refine lv_iadd hx hb dL_law_425 ?_
  refine va_sld hx hb hX hbl hbA hS hi3 dL_law_426 ?_
  rw [ha3]
  refine lv_aload_n hx hb dL_law_427 rfl (lv_at hl 1 rfl) ?_
  have hFc := va_free (wc := [(x, .inr (2, [.ref n, .int kn, .int ch])), (n, .inl (cJ, 8, .inr (.inl f))), (o, .inr (3, [.long vn, sr]))]) hD hS hA [0, 1, 4] rfl
  refine kx_go (vx_runSX (As := [.ref x, .int a1, .int a2, .int a3, .ref o]) (rest := []) ⟨hx, hb, hml, hown, hts⟩ (c_L_with l hl9 D cB cJ _ x n o kn ch f vn sr a1 a2 a3 (hP.sub [0, 1, 4] rfl) ((hD.sub [0, 1, 4] (by decide) rfl).weaken (fun _ _ _ _ => trivial))) (vx_cwSW 5 hts gL_law_L_with rfl rfl rfl (by decide +kernel) ⟨(Nat.le_of_ble_eq_true rfl), (Nat.le_of_ble_eq_true rfl)⟩) (k_preSN hE hN hS hFc) rfl rfl hl.1 rfl (lv_room (Nat.le_of_ble_eq_true rfl)) dL_law_428 ⟨by show _ ≤ (747762 : Nat); omega, by show _ ≤ (6852817 : Nat); omega⟩) hS (fun q _ h => hFc q h) hFc (fun E ce q9 H locs hp hz hk hS hce hcv hcl => hp.elim) (fun v H locs hp hz hk hS => ?_)
  rcases hp with ⟨r9, hJ9, rfl, hP1, hD1⟩ | ⟨E9, hJ9, rfl, hP1, hD1⟩
  · have hP1 : va_P D vwCl [(x, .inr (2, [.ref n, .int r9.2.1, .int r9.2.2.1])), (n, .inl (cJ, 8, .inr (.inl r9.2.2.2))), (o, .inr (3, [.long ((fun z : Int32 => z.toInt64) r9.1), sr]))] H := hP1
    have hD1 : va_D _ [(x, .inr (2, [.ref n, .int r9.2.1, .int r9.2.2.1])), (n, .inl (cJ, 8, .inr (.inl r9.2.2.2))), (o, .inr (3, [.long ((fun z : Int32 => z.toInt64) r9.1), sr]))] := hD1
    obtain ⟨hP, hD⟩ := va_join (wr := [(y, .inr (4, [.int th, .ref n2, .int kn2, .int td])), (n2, .inl (cJ, 8, .inr (.inl g)))]) (wc := [(x, .inr (2, [.ref n, .int kn, .int ch])), (n, .inl (cJ, 8, .inr (.inl f))), (o, .inr (3, [.long vn, sr]))]) (w1 := [(x, .inr (2, [.ref n, .int r9.2.1, .int r9.2.2.1])), (n, .inl (cJ, 8, .inr (.inl r9.2.2.2))), (o, .inr (3, [.long ((fun z : Int32 => z.toInt64) r9.1), sr]))]) hP hD [0, 1, 4] [2, 3] rfl rfl (by decide) (by decide) hk hFc hP1 hD1
    have hP : va_P D vwCl [(y, .inr (4, [.int th, .ref n2, .int kn2, .int td])), (n2, .inl (cJ, 8, .inr (.inl g))), (x, .inr (2, [.ref n, .int r9.2.1, .int r9.2.2.1])), (n, .inl (cJ, 8, .inr (.inl r9.2.2.2))), (o, .inr (3, [.long ((fun z : Int32 => z.toInt64) r9.1), sr]))] H := hP
    have hD : va_D A [(y, .inr (4, [.int th, .ref n2, .int kn2, .int td])), (n2, .inl (cJ, 8, .inr (.inl g))), (x, .inr (2, [.ref n, .int r9.2.1, .int r9.2.2.1])), (n, .inl (cJ, 8, .inr (.inl r9.2.2.2))), (o, .inr (3, [.long ((fun z : Int32 => z.toInt64) r9.1), sr]))] := hD
    refine W.eq (g2 := F0 m 431 ls [.int 0]) rfl ?_
    refine lv_istore (lv' := [(5, .int 0), (4, .int i), (3, .ref o), (2, .ref y), (1, .ref x), (0, .ref b)]) hx hb dL_law_431 hl (by decide) rfl (fun ls hl => ?_)
    refine lv_aload_n hx hb dL_law_433 rfl (lv_at hl 3 rfl) ?_
    refine lv_aload_n hx hb dL_law_434 rfl (lv_at hl 5 rfl) ?_
    refine lv_iload hx hb dL_law_435 (lv_at hl 1 rfl) ?_
    refine lv_iconst (v := 1) hx hb dL_law_437 (by decide) ?_
    refine lv_iadd hx hb dL_law_438 ?_
    refine va_sld hx hb hX hbl hbA hS hi1 dL_law_439 ?_
    rw [ha1]
    refine lv_aload_n hx hb dL_law_440 rfl (lv_at hl 5 rfl) ?_
    refine lv_iload hx hb dL_law_441 (lv_at hl 1 rfl) ?_
    refine lv_iconst (v := 2) hx hb dL_law_443 (by decide) ?_
    refine lv_iadd hx hb dL_law_444 ?_
    refine va_sld hx hb hX hbl hbA hS hi2 dL_law_445 ?_
    rw [ha2]
    refine lv_aload_n hx hb dL_law_446 rfl (lv_at hl 5 rfl) ?_
    refine lv_iload hx hb dL_law_447 (lv_at hl 1 rfl) ?_
    refine lv_iconst (v := 3) hx hb dL_law_449 (by decide) ?_
    refine lv_iadd hx hb dL_law_450 ?_
    refine va_sld hx hb hX hbl hbA hS hi3 dL_law_451 ?_
    rw [ha3]
    have hFc := va_free (wc := [(y, .inr (4, [.int th, .ref n2, .int kn2, .int td])), (n2, .inl (cJ, 8, .inr (.inl g)))]) hD hS hA [0, 1] rfl
    have hT9 := tm_with hI th a1 a2 a3
    refine k_go (va_runV (As := [.int a1, .int a2, .int a3]) (rest := []) ⟨hx, hb, hml, hown, hts⟩ (c_X2_with l D cB cJ _ y n2 th g kn2 td (hP.sub [0, 1] rfl) ((hD.sub [0, 1] (by decide) rfl).weaken (fun _ _ _ _ => trivial)) a1 a2 a3 hT9) (cwV 3 hts gL_law_X2_with rfl rfl rfl (by decide +kernel) ⟨(Nat.le_of_ble_eq_true rfl), (Nat.le_of_ble_eq_true rfl)⟩) (k_preV hE hS hFc (va_recv hK hP (ci := 4) (q0 := 0) rfl rfl)) rfl rfl hl.1 rfl (lv_room (Nat.le_of_ble_eq_true rfl)) dL_law_452 ⟨by show _ ≤ (747762 : Nat); omega, by show _ ≤ (6852817 : Nat); omega⟩) hS (fun q _ h => hFc q h) hFc (fun v H locs hp hz hk hS => ?_)
    obtain ⟨rfl, hP1, hD1⟩ := hp
    have hP1 : va_P D vwCl [(y, .inr (4, [.int ((j_X2_with th g kn2 td a1 a2 a3).2.1), .ref n2, .int ((j_X2_with th g kn2 td a1 a2 a3).2.2.2.1), .int ((j_X2_with th g kn2 td a1 a2 a3).2.2.2.2)])), (n2, .inl (cJ, 8, .inr (.inl ((j_X2_with th g kn2 td a1 a2 a3).2.2.1))))] H := hP1
    have hD1 : va_D _ [(y, .inr (4, [.int ((j_X2_with th g kn2 td a1 a2 a3).2.1), .ref n2, .int ((j_X2_with th g kn2 td a1 a2 a3).2.2.2.1), .int ((j_X2_with th g kn2 td a1 a2 a3).2.2.2.2)])), (n2, .inl (cJ, 8, .inr (.inl ((j_X2_with th g kn2 td a1 a2 a3).2.2.1))))] := hD1
    obtain ⟨hP, hD⟩ := va_join (wr := [(x, .inr (2, [.ref n, .int r9.2.1, .int r9.2.2.1])), (n, .inl (cJ, 8, .inr (.inl r9.2.2.2))), (o, .inr (3, [.long ((fun z : Int32 => z.toInt64) r9.1), sr]))]) (wc := [(y, .inr (4, [.int th, .ref n2, .int kn2, .int td])), (n2, .inl (cJ, 8, .inr (.inl g)))]) (w1 := [(y, .inr (4, [.int ((j_X2_with th g kn2 td a1 a2 a3).2.1), .ref n2, .int ((j_X2_with th g kn2 td a1 a2 a3).2.2.2.1), .int ((j_X2_with th g kn2 td a1 a2 a3).2.2.2.2)])), (n2, .inl (cJ, 8, .inr (.inl ((j_X2_with th g kn2 td a1 a2 a3).2.2.1))))]) hP hD [0, 1] [2, 3, 4] rfl rfl (by decide) (by decide) hk hFc hP1 hD1
    have hP : va_P D vwCl [(x, .inr (2, [.ref n, .int r9.2.1, .int r9.2.2.1])), (n, .inl (cJ, 8, .inr (.inl r9.2.2.2))), (o, .inr (3, [.long ((fun z : Int32 => z.toInt64) r9.1), sr])), (y, .inr (4, [.int ((j_X2_with th g kn2 td a1 a2 a3).2.1), .ref n2, .int ((j_X2_with th g kn2 td a1 a2 a3).2.2.2.1), .int ((j_X2_with th g kn2 td a1 a2 a3).2.2.2.2)])), (n2, .inl (cJ, 8, .inr (.inl ((j_X2_with th g kn2 td a1 a2 a3).2.2.1))))] H := hP
    have hD : va_D A [(x, .inr (2, [.ref n, .int r9.2.1, .int r9.2.2.1])), (n, .inl (cJ, 8, .inr (.inl r9.2.2.2))), (o, .inr (3, [.long ((fun z : Int32 => z.toInt64) r9.1), sr])), (y, .inr (4, [.int ((j_X2_with th g kn2 td a1 a2 a3).2.1), .ref n2, .int ((j_X2_with th g kn2 td a1 a2 a3).2.2.2.1), .int ((j_X2_with th g kn2 td a1 a2 a3).2.2.2.2)])), (n2, .inl (cJ, 8, .inr (.inl ((j_X2_with th g kn2 td a1 a2 a3).2.2.1))))] := hD
    obtain ⟨hth, hrv, hI⟩ := (st_with hI th a1 a2 a3).1 _ hJ9
    refine W.eq (g2 := F0 m 455 ls [.int ((j_X2_with th g kn2 td a1 a2 a3).1)]) rfl ?_
    refine lv_istore (lv' := [(6, .int ((j_X2_with th g kn2 td a1 a2 a3).1)), (5, .int 0), (4, .int i), (3, .ref o), (2, .ref y), (1, .ref x), (0, .ref b)]) hx hb dL_law_455 hl (by decide) rfl (fun ls hl => ?_)
    refine lv_goto (tgt := 1162) hx hb dL_law_457 (by decide) ?_
    refine W.widen (k := cells + 100) (n := slots + 8000) (by omega) (by omega) ?_
    exact kk _ _ _ _ _ _ _ _ _ _ _ _ hI (hP.sub [0, 1, 3, 4, 2] rfl) (hD.sub [0, 1, 3, 4, 2] (by decide) rfl) hS (lv_sub hl [2, 3, 4, 5, 6] rfl)
  · have hP1 : va_P D vwCl [(x, .inr (2, [.ref n, .int kn, .int ch])), (n, .inl (cJ, 8, .inr (.inl f))), (o, .inr (3, [.long vn, sr]))] H := hP1
    have hD1 : va_D _ [(x, .inr (2, [.ref n, .int kn, .int ch])), (n, .inl (cJ, 8, .inr (.inl f))), (o, .inr (3, [.long vn, sr]))] := hD1
    obtain ⟨hP, hD⟩ := va_join (wr := [(y, .inr (4, [.int th, .ref n2, .int kn2, .int td])), (n2, .inl (cJ, 8, .inr (.inl g)))]) (wc := [(x, .inr (2, [.ref n, .int kn, .int ch])), (n, .inl (cJ, 8, .inr (.inl f))), (o, .inr (3, [.long vn, sr]))]) (w1 := [(x, .inr (2, [.ref n, .int kn, .int ch])), (n, .inl (cJ, 8, .inr (.inl f))), (o, .inr (3, [.long vn, sr]))]) hP hD [0, 1, 4] [2, 3] rfl rfl (by decide) (by decide) hk hFc hP1 hD1
    have hP : va_P D vwCl [(y, .inr (4, [.int th, .ref n2, .int kn2, .int td])), (n2, .inl (cJ, 8, .inr (.inl g))), (x, .inr (2, [.ref n, .int kn, .int ch])), (n, .inl (cJ, 8, .inr (.inl f))), (o, .inr (3, [.long vn, sr]))] H := hP
    have hD : va_D A [(y, .inr (4, [.int th, .ref n2, .int kn2, .int td])), (n2, .inl (cJ, 8, .inr (.inl g))), (x, .inr (2, [.ref n, .int kn, .int ch])), (n, .inl (cJ, 8, .inr (.inl f))), (o, .inr (3, [.long vn, sr]))] := hD
    refine W.eq (g2 := F0 m 431 ls [.int (k_cd E9)]) rfl ?_
    refine lv_istore (lv' := [(5, .int (k_cd E9)), (4, .int i), (3, .ref o), (2, .ref y), (1, .ref x), (0, .ref b)]) hx hb dL_law_431 hl (by decide) rfl (fun ls hl => ?_)
    refine lv_aload_n hx hb dL_law_433 rfl (lv_at hl 3 rfl) ?_
    refine lv_aload_n hx hb dL_law_434 rfl (lv_at hl 5 rfl) ?_
    refine lv_iload hx hb dL_law_435 (lv_at hl 1 rfl) ?_
    refine lv_iconst (v := 1) hx hb dL_law_437 (by decide) ?_
    refine lv_iadd hx hb dL_law_438 ?_
    refine va_sld hx hb hX hbl hbA hS hi1 dL_law_439 ?_
    rw [ha1]
    refine lv_aload_n hx hb dL_law_440 rfl (lv_at hl 5 rfl) ?_
    refine lv_iload hx hb dL_law_441 (lv_at hl 1 rfl) ?_
    refine lv_iconst (v := 2) hx hb dL_law_443 (by decide) ?_
    refine lv_iadd hx hb dL_law_444 ?_
    refine va_sld hx hb hX hbl hbA hS hi2 dL_law_445 ?_
    rw [ha2]
    refine lv_aload_n hx hb dL_law_446 rfl (lv_at hl 5 rfl) ?_
    refine lv_iload hx hb dL_law_447 (lv_at hl 1 rfl) ?_
    refine lv_iconst (v := 3) hx hb dL_law_449 (by decide) ?_
    refine lv_iadd hx hb dL_law_450 ?_
    refine va_sld hx hb hX hbl hbA hS hi3 dL_law_451 ?_
    rw [ha3]
    have hFc := va_free (wc := [(y, .inr (4, [.int th, .ref n2, .int kn2, .int td])), (n2, .inl (cJ, 8, .inr (.inl g)))]) hD hS hA [0, 1] rfl
    have hT9 := tm_with hI th a1 a2 a3
    refine k_go (va_runV (As := [.int a1, .int a2, .int a3]) (rest := []) ⟨hx, hb, hml, hown, hts⟩ (c_X2_with l D cB cJ _ y n2 th g kn2 td (hP.sub [0, 1] rfl) ((hD.sub [0, 1] (by decide) rfl).weaken (fun _ _ _ _ => trivial)) a1 a2 a3 hT9) (cwV 3 hts gL_law_X2_with rfl rfl rfl (by decide +kernel) ⟨(Nat.le_of_ble_eq_true rfl), (Nat.le_of_ble_eq_true rfl)⟩) (k_preV hE hS hFc (va_recv hK hP (ci := 4) (q0 := 0) rfl rfl)) rfl rfl hl.1 rfl (lv_room (Nat.le_of_ble_eq_true rfl)) dL_law_452 ⟨by show _ ≤ (747762 : Nat); omega, by show _ ≤ (6852817 : Nat); omega⟩) hS (fun q _ h => hFc q h) hFc (fun v H locs hp hz hk hS => ?_)
    obtain ⟨rfl, hP1, hD1⟩ := hp
    have hP1 : va_P D vwCl [(y, .inr (4, [.int ((j_X2_with th g kn2 td a1 a2 a3).2.1), .ref n2, .int ((j_X2_with th g kn2 td a1 a2 a3).2.2.2.1), .int ((j_X2_with th g kn2 td a1 a2 a3).2.2.2.2)])), (n2, .inl (cJ, 8, .inr (.inl ((j_X2_with th g kn2 td a1 a2 a3).2.2.1))))] H := hP1
    have hD1 : va_D _ [(y, .inr (4, [.int ((j_X2_with th g kn2 td a1 a2 a3).2.1), .ref n2, .int ((j_X2_with th g kn2 td a1 a2 a3).2.2.2.1), .int ((j_X2_with th g kn2 td a1 a2 a3).2.2.2.2)])), (n2, .inl (cJ, 8, .inr (.inl ((j_X2_with th g kn2 td a1 a2 a3).2.2.1))))] := hD1
    obtain ⟨hP, hD⟩ := va_join (wr := [(x, .inr (2, [.ref n, .int kn, .int ch])), (n, .inl (cJ, 8, .inr (.inl f))), (o, .inr (3, [.long vn, sr]))]) (wc := [(y, .inr (4, [.int th, .ref n2, .int kn2, .int td])), (n2, .inl (cJ, 8, .inr (.inl g)))]) (w1 := [(y, .inr (4, [.int ((j_X2_with th g kn2 td a1 a2 a3).2.1), .ref n2, .int ((j_X2_with th g kn2 td a1 a2 a3).2.2.2.1), .int ((j_X2_with th g kn2 td a1 a2 a3).2.2.2.2)])), (n2, .inl (cJ, 8, .inr (.inl ((j_X2_with th g kn2 td a1 a2 a3).2.2.1))))]) hP hD [0, 1] [2, 3, 4] rfl rfl (by decide) (by decide) hk hFc hP1 hD1
    have hP : va_P D vwCl [(x, .inr (2, [.ref n, .int kn, .int ch])), (n, .inl (cJ, 8, .inr (.inl f))), (o, .inr (3, [.long vn, sr])), (y, .inr (4, [.int ((j_X2_with th g kn2 td a1 a2 a3).2.1), .ref n2, .int ((j_X2_with th g kn2 td a1 a2 a3).2.2.2.1), .int ((j_X2_with th g kn2 td a1 a2 a3).2.2.2.2)])), (n2, .inl (cJ, 8, .inr (.inl ((j_X2_with th g kn2 td a1 a2 a3).2.2.1))))] H := hP
    have hD : va_D A [(x, .inr (2, [.ref n, .int kn, .int ch])), (n, .inl (cJ, 8, .inr (.inl f))), (o, .inr (3, [.long vn, sr])), (y, .inr (4, [.int ((j_X2_with th g kn2 td a1 a2 a3).2.1), .ref n2, .int ((j_X2_with th g kn2 td a1 a2 a3).2.2.2.1), .int ((j_X2_with th g kn2 td a1 a2 a3).2.2.2.2)])), (n2, .inl (cJ, 8, .inr (.inl ((j_X2_with th g kn2 td a1 a2 a3).2.2.1))))] := hD
    obtain ⟨hth, hI⟩ := (st_with hI th a1 a2 a3).2 _ hJ9
    refine W.eq (g2 := F0 m 455 ls [.int ((j_X2_with th g kn2 td a1 a2 a3).1)]) rfl ?_
    refine lv_istore (lv' := [(6, .int ((j_X2_with th g kn2 td a1 a2 a3).1)), (5, .int (k_cd E9)), (4, .int i), (3, .ref o), (2, .ref y), (1, .ref x), (0, .ref b)]) hx hb dL_law_455 hl (by decide) rfl (fun ls hl => ?_)
    refine lv_goto (tgt := 1162) hx hb dL_law_457 (by decide) ?_
    refine W.widen (k := cells + 100) (n := slots + 8000) (by omega) (by omega) ?_
    exact kk _ _ _ _ _ _ _ _ _ _ _ _ hI (hP.sub [0, 1, 3, 4, 2] rfl) (hD.sub [0, 1, 3, 4, 2] (by decide) rfl) hS (lv_sub hl [2, 3, 4, 5, 6] rfl)
set_option maxHeartbeats 4000000 in
set_option maxRecDepth 100000 in
theorem lc_plus {p : Program} {l : Launch} {e : Env} {s : State} {m : MethodId} {below : List Frame} {meth : Method} {c : Code} {D : va_G} {cB cJ : ClassId} {A : Nat → Prop} {Q : State → Prop} {b L x n y n2 o : Nat} {xs : Nat → Int32} (hl9 : l.stackTraces = false) (hx : p.tables.exec = Jvm.exec) (hb : c.code = code) (hml : c.maxLocals = 7) (hown : s.vm.findClass RL = some m.cls) (hts : ∀ w ∈ wsL_law, w.before #[Value.ref b] s = true) (hE : kE D cB cJ A s s.heap) (hN : kN s) (hA : ∀ q : Nat, s.heap.size ≤ q → A q) (hX : va_X b L xs s s.heap) (hbl : b < s.heap.size) (hbA : ¬ A b) {i : Int32} {a1 : Int32} (hi1 : vp_in (i + 1) L) (ha1 : xs (i + 1).toNatClampNeg = a1) {a2 : Int32} (hi2 : vp_in (i + 2) L) (ha2 : xs (i + 2).toNatClampNeg = a2) {a3 : Int32} (hi3 : vp_in (i + 3) L) (ha3 : xs (i + 3).toNatClampNeg = a3) {a4 : Int32} (hi4 : vp_in (i + 4) L) (ha4 : xs (i + 4).toNatClampNeg = a4) {a5 : Int32} (hi5 : vp_in (i + 5) L) (ha5 : xs (i + 5).toNatClampNeg = a5) {kn ch kn2 td th : Int32} {f g : Nat → Int64} {vn : Int64} {sr : Value} {H : Heap} {locs : List Loc} {cells slots : Nat} {ls : Array Slot} (hc9 : cells + 100 ≤ 747762) (hs9 : slots + 8000 ≤ 6852817) (hI : kInv kn ch f kn2 td g) (hP : va_P D vwCl [(x, .inr (2, [.ref n, .int kn, .int ch])), (n, .inl (cJ, 8, .inr (.inl f))), (y, .inr (4, [.int th, .ref n2, .int kn2, .int td])), (n2, .inl (cJ, 8, .inr (.inl g))), (o, .inr (3, [.long vn, sr]))] H) (hD : va_D A [(x, .inr (2, [.ref n, .int kn, .int ch])), (n, .inl (cJ, 8, .inr (.inl f))), (y, .inr (4, [.int th, .ref n2, .int kn2, .int td])), (n2, .inl (cJ, 8, .inr (.inl g))), (o, .inr (3, [.long vn, sr]))]) (hS : va_S A s.heap H locs) (hl : lv_has ls 7 [(4, .int i), (3, .ref o), (2, .ref y), (1, .ref x), (0, .ref b)]) (kk : ∀ (kn ch kn2 td th : Int32) (f g : Nat → Int64) (vn : Int64) (sr : Value) (H : Heap) (locs : List Loc) (ls : Array Slot), kInv kn ch f kn2 td g → va_P D vwCl [(x, .inr (2, [.ref n, .int kn, .int ch])), (n, .inl (cJ, 8, .inr (.inl f))), (y, .inr (4, [.int th, .ref n2, .int kn2, .int td])), (n2, .inl (cJ, 8, .inr (.inl g))), (o, .inr (3, [.long vn, sr]))] H → va_D A [(x, .inr (2, [.ref n, .int kn, .int ch])), (n, .inl (cJ, 8, .inr (.inl f))), (y, .inr (4, [.int th, .ref n2, .int kn2, .int td])), (n2, .inl (cJ, 8, .inr (.inl g))), (o, .inr (3, [.long vn, sr]))] → va_S A s.heap H locs → lv_has ls 7 [(4, .int i), (3, .ref o), (2, .ref y), (1, .ref x), (0, .ref b)] → W p l e room_1 s m #[Value.ref b] below meth c H locs (cells + 100) (slots + 8000) Q (F0 m 1162 ls [])) : W p l e room_1 s m #[Value.ref b] below meth c H locs cells slots Q (F0 m 460 ls []) := by
  have hK := hE.1
  refine lv_aload_n hx hb dL_law_460 rfl (lv_at hl 3 rfl) ?_
  refine lv_aload_n hx hb dL_law_461 rfl (lv_at hl 4 rfl) ?_
  refine lv_iload hx hb dL_law_462 (lv_at hl 0 rfl) ?_
  refine lv_iconst (v := 1) hx hb dL_law_464 (by decide) ?_
  refine lv_iadd hx hb dL_law_465 ?_
  refine va_sld hx hb hX hbl hbA hS hi1 dL_law_466 ?_
  rw [ha1]
  refine lv_aload_n hx hb dL_law_467 rfl (lv_at hl 4 rfl) ?_
  refine lv_iload hx hb dL_law_468 (lv_at hl 0 rfl) ?_
  refine lv_iconst (v := 2) hx hb dL_law_470 (by decide) ?_
  refine lv_iadd hx hb dL_law_471 ?_
  refine va_sld hx hb hX hbl hbA hS hi2 dL_law_472 ?_
  rw [ha2]
  refine lv_aload_n hx hb dL_law_473 rfl (lv_at hl 4 rfl) ?_
  refine lv_iload hx hb dL_law_474 (lv_at hl 0 rfl) ?_
  refine lv_iconst (v := 3) hx hb dL_law_476 (by decide) ?_
  refine lv_iadd hx hb dL_law_477 ?_
  refine va_sld hx hb hX hbl hbA hS hi3 dL_law_478 ?_
  rw [ha3]
  refine lv_aload_n hx hb dL_law_479 rfl (lv_at hl 4 rfl) ?_
  refine lv_iload hx hb dL_law_480 (lv_at hl 0 rfl) ?_
  refine lv_iconst (v := 4) hx hb dL_law_482 (by decide) ?_
  refine lv_iadd hx hb dL_law_483 ?_
  refine va_sld hx hb hX hbl hbA hS hi4 dL_law_484 ?_
  rw [ha4]
  refine lv_aload_n hx hb dL_law_485 rfl (lv_at hl 1 rfl) ?_
  have hFc := va_free (wc := [(x, .inr (2, [.ref n, .int kn, .int ch])), (n, .inl (cJ, 8, .inr (.inl f))), (o, .inr (3, [.long vn, sr]))]) hD hS hA [0, 1, 4] rfl
  refine kx_go (vx_runSX (As := [.ref x, .int a1, .int a2, .int a3, .int a4, .ref o]) (rest := []) ⟨hx, hb, hml, hown, hts⟩ (c_L_plus l hl9 D cB cJ _ x n o kn ch f vn sr a1 a2 a3 a4 (hP.sub [0, 1, 4] rfl) ((hD.sub [0, 1, 4] (by decide) rfl).weaken (fun _ _ _ _ => trivial))) (vx_cwSW 6 hts gL_law_L_plus rfl rfl rfl (by decide +kernel) ⟨(Nat.le_of_ble_eq_true rfl), (Nat.le_of_ble_eq_true rfl)⟩) (k_preSN hE hN hS hFc) rfl rfl hl.1 rfl (lv_room (Nat.le_of_ble_eq_true rfl)) dL_law_486 ⟨by show _ ≤ (747762 : Nat); omega, by show _ ≤ (6852817 : Nat); omega⟩) hS (fun q _ h => hFc q h) hFc (fun E ce q9 H locs hp hz hk hS hce hcv hcl => hp.elim) (fun v H locs hp hz hk hS => ?_)
  rcases hp with ⟨r9, hJ9, rfl, hP1, hD1⟩ | ⟨E9, hJ9, rfl, hP1, hD1⟩
  · have hP1 : va_P D vwCl [(x, .inr (2, [.ref n, .int r9.2.1, .int r9.2.2.1])), (n, .inl (cJ, 8, .inr (.inl r9.2.2.2))), (o, .inr (3, [.long ((fun z : Int32 => z.toInt64) r9.1), sr]))] H := hP1
    have hD1 : va_D _ [(x, .inr (2, [.ref n, .int r9.2.1, .int r9.2.2.1])), (n, .inl (cJ, 8, .inr (.inl r9.2.2.2))), (o, .inr (3, [.long ((fun z : Int32 => z.toInt64) r9.1), sr]))] := hD1
    obtain ⟨hP, hD⟩ := va_join (wr := [(y, .inr (4, [.int th, .ref n2, .int kn2, .int td])), (n2, .inl (cJ, 8, .inr (.inl g)))]) (wc := [(x, .inr (2, [.ref n, .int kn, .int ch])), (n, .inl (cJ, 8, .inr (.inl f))), (o, .inr (3, [.long vn, sr]))]) (w1 := [(x, .inr (2, [.ref n, .int r9.2.1, .int r9.2.2.1])), (n, .inl (cJ, 8, .inr (.inl r9.2.2.2))), (o, .inr (3, [.long ((fun z : Int32 => z.toInt64) r9.1), sr]))]) hP hD [0, 1, 4] [2, 3] rfl rfl (by decide) (by decide) hk hFc hP1 hD1
    have hP : va_P D vwCl [(y, .inr (4, [.int th, .ref n2, .int kn2, .int td])), (n2, .inl (cJ, 8, .inr (.inl g))), (x, .inr (2, [.ref n, .int r9.2.1, .int r9.2.2.1])), (n, .inl (cJ, 8, .inr (.inl r9.2.2.2))), (o, .inr (3, [.long ((fun z : Int32 => z.toInt64) r9.1), sr]))] H := hP
    have hD : va_D A [(y, .inr (4, [.int th, .ref n2, .int kn2, .int td])), (n2, .inl (cJ, 8, .inr (.inl g))), (x, .inr (2, [.ref n, .int r9.2.1, .int r9.2.2.1])), (n, .inl (cJ, 8, .inr (.inl r9.2.2.2))), (o, .inr (3, [.long ((fun z : Int32 => z.toInt64) r9.1), sr]))] := hD
    refine W.eq (g2 := F0 m 489 ls [.int 0]) rfl ?_
    refine lv_istore (lv' := [(5, .int 0), (4, .int i), (3, .ref o), (2, .ref y), (1, .ref x), (0, .ref b)]) hx hb dL_law_489 hl (by decide) rfl (fun ls hl => ?_)
    refine lv_aload_n hx hb dL_law_491 rfl (lv_at hl 3 rfl) ?_
    refine lv_aload_n hx hb dL_law_492 rfl (lv_at hl 5 rfl) ?_
    refine lv_iload hx hb dL_law_493 (lv_at hl 1 rfl) ?_
    refine lv_iconst (v := 1) hx hb dL_law_495 (by decide) ?_
    refine lv_iadd hx hb dL_law_496 ?_
    refine va_sld hx hb hX hbl hbA hS hi1 dL_law_497 ?_
    rw [ha1]
    refine lv_aload_n hx hb dL_law_498 rfl (lv_at hl 5 rfl) ?_
    refine lv_iload hx hb dL_law_499 (lv_at hl 1 rfl) ?_
    refine lv_iconst (v := 2) hx hb dL_law_501 (by decide) ?_
    refine lv_iadd hx hb dL_law_502 ?_
    refine va_sld hx hb hX hbl hbA hS hi2 dL_law_503 ?_
    rw [ha2]
    refine lv_aload_n hx hb dL_law_504 rfl (lv_at hl 5 rfl) ?_
    refine lv_iload hx hb dL_law_505 (lv_at hl 1 rfl) ?_
    refine lv_iconst (v := 3) hx hb dL_law_507 (by decide) ?_
    refine lv_iadd hx hb dL_law_508 ?_
    refine va_sld hx hb hX hbl hbA hS hi3 dL_law_509 ?_
    rw [ha3]
    refine lv_aload_n hx hb dL_law_510 rfl (lv_at hl 5 rfl) ?_
    refine lv_iload hx hb dL_law_511 (lv_at hl 1 rfl) ?_
    refine lv_iconst (v := 4) hx hb dL_law_513 (by decide) ?_
    refine lv_iadd hx hb dL_law_514 ?_
    refine va_sld hx hb hX hbl hbA hS hi4 dL_law_515 ?_
    rw [ha4]
    have hFc := va_free (wc := [(y, .inr (4, [.int th, .ref n2, .int kn2, .int td])), (n2, .inl (cJ, 8, .inr (.inl g)))]) hD hS hA [0, 1] rfl
    have hT9 := tm_plus hI th a1 a2 a3 a4
    refine k_go (va_runV (As := [.int a1, .int a2, .int a3, .int a4]) (rest := []) ⟨hx, hb, hml, hown, hts⟩ (c_X2_plus l D cB cJ _ y n2 th g kn2 td (hP.sub [0, 1] rfl) ((hD.sub [0, 1] (by decide) rfl).weaken (fun _ _ _ _ => trivial)) a1 a2 a3 a4 hT9) (cwV 4 hts gL_law_X2_plus rfl rfl rfl (by decide +kernel) ⟨(Nat.le_of_ble_eq_true rfl), (Nat.le_of_ble_eq_true rfl)⟩) (k_preV hE hS hFc (va_recv hK hP (ci := 4) (q0 := 0) rfl rfl)) rfl rfl hl.1 rfl (lv_room (Nat.le_of_ble_eq_true rfl)) dL_law_516 ⟨by show _ ≤ (747762 : Nat); omega, by show _ ≤ (6852817 : Nat); omega⟩) hS (fun q _ h => hFc q h) hFc (fun v H locs hp hz hk hS => ?_)
    obtain ⟨rfl, hP1, hD1⟩ := hp
    have hP1 : va_P D vwCl [(y, .inr (4, [.int ((j_X2_plus th g kn2 td a1 a2 a3 a4).2.1), .ref n2, .int ((j_X2_plus th g kn2 td a1 a2 a3 a4).2.2.2.1), .int ((j_X2_plus th g kn2 td a1 a2 a3 a4).2.2.2.2)])), (n2, .inl (cJ, 8, .inr (.inl ((j_X2_plus th g kn2 td a1 a2 a3 a4).2.2.1))))] H := hP1
    have hD1 : va_D _ [(y, .inr (4, [.int ((j_X2_plus th g kn2 td a1 a2 a3 a4).2.1), .ref n2, .int ((j_X2_plus th g kn2 td a1 a2 a3 a4).2.2.2.1), .int ((j_X2_plus th g kn2 td a1 a2 a3 a4).2.2.2.2)])), (n2, .inl (cJ, 8, .inr (.inl ((j_X2_plus th g kn2 td a1 a2 a3 a4).2.2.1))))] := hD1
    obtain ⟨hP, hD⟩ := va_join (wr := [(x, .inr (2, [.ref n, .int r9.2.1, .int r9.2.2.1])), (n, .inl (cJ, 8, .inr (.inl r9.2.2.2))), (o, .inr (3, [.long ((fun z : Int32 => z.toInt64) r9.1), sr]))]) (wc := [(y, .inr (4, [.int th, .ref n2, .int kn2, .int td])), (n2, .inl (cJ, 8, .inr (.inl g)))]) (w1 := [(y, .inr (4, [.int ((j_X2_plus th g kn2 td a1 a2 a3 a4).2.1), .ref n2, .int ((j_X2_plus th g kn2 td a1 a2 a3 a4).2.2.2.1), .int ((j_X2_plus th g kn2 td a1 a2 a3 a4).2.2.2.2)])), (n2, .inl (cJ, 8, .inr (.inl ((j_X2_plus th g kn2 td a1 a2 a3 a4).2.2.1))))]) hP hD [0, 1] [2, 3, 4] rfl rfl (by decide) (by decide) hk hFc hP1 hD1
    have hP : va_P D vwCl [(x, .inr (2, [.ref n, .int r9.2.1, .int r9.2.2.1])), (n, .inl (cJ, 8, .inr (.inl r9.2.2.2))), (o, .inr (3, [.long ((fun z : Int32 => z.toInt64) r9.1), sr])), (y, .inr (4, [.int ((j_X2_plus th g kn2 td a1 a2 a3 a4).2.1), .ref n2, .int ((j_X2_plus th g kn2 td a1 a2 a3 a4).2.2.2.1), .int ((j_X2_plus th g kn2 td a1 a2 a3 a4).2.2.2.2)])), (n2, .inl (cJ, 8, .inr (.inl ((j_X2_plus th g kn2 td a1 a2 a3 a4).2.2.1))))] H := hP
    have hD : va_D A [(x, .inr (2, [.ref n, .int r9.2.1, .int r9.2.2.1])), (n, .inl (cJ, 8, .inr (.inl r9.2.2.2))), (o, .inr (3, [.long ((fun z : Int32 => z.toInt64) r9.1), sr])), (y, .inr (4, [.int ((j_X2_plus th g kn2 td a1 a2 a3 a4).2.1), .ref n2, .int ((j_X2_plus th g kn2 td a1 a2 a3 a4).2.2.2.1), .int ((j_X2_plus th g kn2 td a1 a2 a3 a4).2.2.2.2)])), (n2, .inl (cJ, 8, .inr (.inl ((j_X2_plus th g kn2 td a1 a2 a3 a4).2.2.1))))] := hD
    obtain ⟨hth, hrv, hI⟩ := (st_plus hI th a1 a2 a3 a4).1 _ hJ9
    refine W.eq (g2 := F0 m 519 ls [.int ((j_X2_plus th g kn2 td a1 a2 a3 a4).1)]) rfl ?_
    refine lv_istore (lv' := [(6, .int ((j_X2_plus th g kn2 td a1 a2 a3 a4).1)), (5, .int 0), (4, .int i), (3, .ref o), (2, .ref y), (1, .ref x), (0, .ref b)]) hx hb dL_law_519 hl (by decide) rfl (fun ls hl => ?_)
    refine lv_goto (tgt := 1162) hx hb dL_law_521 (by decide) ?_
    refine W.widen (k := cells + 100) (n := slots + 8000) (by omega) (by omega) ?_
    exact kk _ _ _ _ _ _ _ _ _ _ _ _ hI (hP.sub [0, 1, 3, 4, 2] rfl) (hD.sub [0, 1, 3, 4, 2] (by decide) rfl) hS (lv_sub hl [2, 3, 4, 5, 6] rfl)
  · have hP1 : va_P D vwCl [(x, .inr (2, [.ref n, .int kn, .int ch])), (n, .inl (cJ, 8, .inr (.inl f))), (o, .inr (3, [.long vn, sr]))] H := hP1
    have hD1 : va_D _ [(x, .inr (2, [.ref n, .int kn, .int ch])), (n, .inl (cJ, 8, .inr (.inl f))), (o, .inr (3, [.long vn, sr]))] := hD1
    obtain ⟨hP, hD⟩ := va_join (wr := [(y, .inr (4, [.int th, .ref n2, .int kn2, .int td])), (n2, .inl (cJ, 8, .inr (.inl g)))]) (wc := [(x, .inr (2, [.ref n, .int kn, .int ch])), (n, .inl (cJ, 8, .inr (.inl f))), (o, .inr (3, [.long vn, sr]))]) (w1 := [(x, .inr (2, [.ref n, .int kn, .int ch])), (n, .inl (cJ, 8, .inr (.inl f))), (o, .inr (3, [.long vn, sr]))]) hP hD [0, 1, 4] [2, 3] rfl rfl (by decide) (by decide) hk hFc hP1 hD1
    have hP : va_P D vwCl [(y, .inr (4, [.int th, .ref n2, .int kn2, .int td])), (n2, .inl (cJ, 8, .inr (.inl g))), (x, .inr (2, [.ref n, .int kn, .int ch])), (n, .inl (cJ, 8, .inr (.inl f))), (o, .inr (3, [.long vn, sr]))] H := hP
    have hD : va_D A [(y, .inr (4, [.int th, .ref n2, .int kn2, .int td])), (n2, .inl (cJ, 8, .inr (.inl g))), (x, .inr (2, [.ref n, .int kn, .int ch])), (n, .inl (cJ, 8, .inr (.inl f))), (o, .inr (3, [.long vn, sr]))] := hD
    refine W.eq (g2 := F0 m 489 ls [.int (k_cd E9)]) rfl ?_
    refine lv_istore (lv' := [(5, .int (k_cd E9)), (4, .int i), (3, .ref o), (2, .ref y), (1, .ref x), (0, .ref b)]) hx hb dL_law_489 hl (by decide) rfl (fun ls hl => ?_)
    refine lv_aload_n hx hb dL_law_491 rfl (lv_at hl 3 rfl) ?_
    refine lv_aload_n hx hb dL_law_492 rfl (lv_at hl 5 rfl) ?_
    refine lv_iload hx hb dL_law_493 (lv_at hl 1 rfl) ?_
    refine lv_iconst (v := 1) hx hb dL_law_495 (by decide) ?_
    refine lv_iadd hx hb dL_law_496 ?_
    refine va_sld hx hb hX hbl hbA hS hi1 dL_law_497 ?_
    rw [ha1]
    refine lv_aload_n hx hb dL_law_498 rfl (lv_at hl 5 rfl) ?_
    refine lv_iload hx hb dL_law_499 (lv_at hl 1 rfl) ?_
    refine lv_iconst (v := 2) hx hb dL_law_501 (by decide) ?_
    refine lv_iadd hx hb dL_law_502 ?_
    refine va_sld hx hb hX hbl hbA hS hi2 dL_law_503 ?_
    rw [ha2]
    refine lv_aload_n hx hb dL_law_504 rfl (lv_at hl 5 rfl) ?_
    refine lv_iload hx hb dL_law_505 (lv_at hl 1 rfl) ?_
    refine lv_iconst (v := 3) hx hb dL_law_507 (by decide) ?_
    refine lv_iadd hx hb dL_law_508 ?_
    refine va_sld hx hb hX hbl hbA hS hi3 dL_law_509 ?_
    rw [ha3]
    refine lv_aload_n hx hb dL_law_510 rfl (lv_at hl 5 rfl) ?_
    refine lv_iload hx hb dL_law_511 (lv_at hl 1 rfl) ?_
    refine lv_iconst (v := 4) hx hb dL_law_513 (by decide) ?_
    refine lv_iadd hx hb dL_law_514 ?_
    refine va_sld hx hb hX hbl hbA hS hi4 dL_law_515 ?_
    rw [ha4]
    have hFc := va_free (wc := [(y, .inr (4, [.int th, .ref n2, .int kn2, .int td])), (n2, .inl (cJ, 8, .inr (.inl g)))]) hD hS hA [0, 1] rfl
    have hT9 := tm_plus hI th a1 a2 a3 a4
    refine k_go (va_runV (As := [.int a1, .int a2, .int a3, .int a4]) (rest := []) ⟨hx, hb, hml, hown, hts⟩ (c_X2_plus l D cB cJ _ y n2 th g kn2 td (hP.sub [0, 1] rfl) ((hD.sub [0, 1] (by decide) rfl).weaken (fun _ _ _ _ => trivial)) a1 a2 a3 a4 hT9) (cwV 4 hts gL_law_X2_plus rfl rfl rfl (by decide +kernel) ⟨(Nat.le_of_ble_eq_true rfl), (Nat.le_of_ble_eq_true rfl)⟩) (k_preV hE hS hFc (va_recv hK hP (ci := 4) (q0 := 0) rfl rfl)) rfl rfl hl.1 rfl (lv_room (Nat.le_of_ble_eq_true rfl)) dL_law_516 ⟨by show _ ≤ (747762 : Nat); omega, by show _ ≤ (6852817 : Nat); omega⟩) hS (fun q _ h => hFc q h) hFc (fun v H locs hp hz hk hS => ?_)
    obtain ⟨rfl, hP1, hD1⟩ := hp
    have hP1 : va_P D vwCl [(y, .inr (4, [.int ((j_X2_plus th g kn2 td a1 a2 a3 a4).2.1), .ref n2, .int ((j_X2_plus th g kn2 td a1 a2 a3 a4).2.2.2.1), .int ((j_X2_plus th g kn2 td a1 a2 a3 a4).2.2.2.2)])), (n2, .inl (cJ, 8, .inr (.inl ((j_X2_plus th g kn2 td a1 a2 a3 a4).2.2.1))))] H := hP1
    have hD1 : va_D _ [(y, .inr (4, [.int ((j_X2_plus th g kn2 td a1 a2 a3 a4).2.1), .ref n2, .int ((j_X2_plus th g kn2 td a1 a2 a3 a4).2.2.2.1), .int ((j_X2_plus th g kn2 td a1 a2 a3 a4).2.2.2.2)])), (n2, .inl (cJ, 8, .inr (.inl ((j_X2_plus th g kn2 td a1 a2 a3 a4).2.2.1))))] := hD1
    obtain ⟨hP, hD⟩ := va_join (wr := [(x, .inr (2, [.ref n, .int kn, .int ch])), (n, .inl (cJ, 8, .inr (.inl f))), (o, .inr (3, [.long vn, sr]))]) (wc := [(y, .inr (4, [.int th, .ref n2, .int kn2, .int td])), (n2, .inl (cJ, 8, .inr (.inl g)))]) (w1 := [(y, .inr (4, [.int ((j_X2_plus th g kn2 td a1 a2 a3 a4).2.1), .ref n2, .int ((j_X2_plus th g kn2 td a1 a2 a3 a4).2.2.2.1), .int ((j_X2_plus th g kn2 td a1 a2 a3 a4).2.2.2.2)])), (n2, .inl (cJ, 8, .inr (.inl ((j_X2_plus th g kn2 td a1 a2 a3 a4).2.2.1))))]) hP hD [0, 1] [2, 3, 4] rfl rfl (by decide) (by decide) hk hFc hP1 hD1
    have hP : va_P D vwCl [(x, .inr (2, [.ref n, .int kn, .int ch])), (n, .inl (cJ, 8, .inr (.inl f))), (o, .inr (3, [.long vn, sr])), (y, .inr (4, [.int ((j_X2_plus th g kn2 td a1 a2 a3 a4).2.1), .ref n2, .int ((j_X2_plus th g kn2 td a1 a2 a3 a4).2.2.2.1), .int ((j_X2_plus th g kn2 td a1 a2 a3 a4).2.2.2.2)])), (n2, .inl (cJ, 8, .inr (.inl ((j_X2_plus th g kn2 td a1 a2 a3 a4).2.2.1))))] H := hP
    have hD : va_D A [(x, .inr (2, [.ref n, .int kn, .int ch])), (n, .inl (cJ, 8, .inr (.inl f))), (o, .inr (3, [.long vn, sr])), (y, .inr (4, [.int ((j_X2_plus th g kn2 td a1 a2 a3 a4).2.1), .ref n2, .int ((j_X2_plus th g kn2 td a1 a2 a3 a4).2.2.2.1), .int ((j_X2_plus th g kn2 td a1 a2 a3 a4).2.2.2.2)])), (n2, .inl (cJ, 8, .inr (.inl ((j_X2_plus th g kn2 td a1 a2 a3 a4).2.2.1))))] := hD
    obtain ⟨hth, hI⟩ := (st_plus hI th a1 a2 a3 a4).2 _ hJ9
    refine W.eq (g2 := F0 m 519 ls [.int ((j_X2_plus th g kn2 td a1 a2 a3 a4).1)]) rfl ?_
    refine lv_istore (lv' := [(6, .int ((j_X2_plus th g kn2 td a1 a2 a3 a4).1)), (5, .int (k_cd E9)), (4, .int i), (3, .ref o), (2, .ref y), (1, .ref x), (0, .ref b)]) hx hb dL_law_519 hl (by decide) rfl (fun ls hl => ?_)
    refine lv_goto (tgt := 1162) hx hb dL_law_521 (by decide) ?_
    refine W.widen (k := cells + 100) (n := slots + 8000) (by omega) (by omega) ?_
    exact kk _ _ _ _ _ _ _ _ _ _ _ _ hI (hP.sub [0, 1, 3, 4, 2] rfl) (hD.sub [0, 1, 3, 4, 2] (by decide) rfl) hS (lv_sub hl [2, 3, 4, 5, 6] rfl)
set_option maxHeartbeats 4000000 in
set_option maxRecDepth 100000 in
theorem lc_minus {p : Program} {l : Launch} {e : Env} {s : State} {m : MethodId} {below : List Frame} {meth : Method} {c : Code} {D : va_G} {cB cJ : ClassId} {A : Nat → Prop} {Q : State → Prop} {b L x n y n2 o : Nat} {xs : Nat → Int32} (hl9 : l.stackTraces = false) (hx : p.tables.exec = Jvm.exec) (hb : c.code = code) (hml : c.maxLocals = 7) (hown : s.vm.findClass RL = some m.cls) (hts : ∀ w ∈ wsL_law, w.before #[Value.ref b] s = true) (hE : kE D cB cJ A s s.heap) (hN : kN s) (hA : ∀ q : Nat, s.heap.size ≤ q → A q) (hX : va_X b L xs s s.heap) (hbl : b < s.heap.size) (hbA : ¬ A b) {i : Int32} {a1 : Int32} (hi1 : vp_in (i + 1) L) (ha1 : xs (i + 1).toNatClampNeg = a1) {a2 : Int32} (hi2 : vp_in (i + 2) L) (ha2 : xs (i + 2).toNatClampNeg = a2) {a3 : Int32} (hi3 : vp_in (i + 3) L) (ha3 : xs (i + 3).toNatClampNeg = a3) {a4 : Int32} (hi4 : vp_in (i + 4) L) (ha4 : xs (i + 4).toNatClampNeg = a4) {a5 : Int32} (hi5 : vp_in (i + 5) L) (ha5 : xs (i + 5).toNatClampNeg = a5) {kn ch kn2 td th : Int32} {f g : Nat → Int64} {vn : Int64} {sr : Value} {H : Heap} {locs : List Loc} {cells slots : Nat} {ls : Array Slot} (hc9 : cells + 100 ≤ 747762) (hs9 : slots + 8000 ≤ 6852817) (hI : kInv kn ch f kn2 td g) (hP : va_P D vwCl [(x, .inr (2, [.ref n, .int kn, .int ch])), (n, .inl (cJ, 8, .inr (.inl f))), (y, .inr (4, [.int th, .ref n2, .int kn2, .int td])), (n2, .inl (cJ, 8, .inr (.inl g))), (o, .inr (3, [.long vn, sr]))] H) (hD : va_D A [(x, .inr (2, [.ref n, .int kn, .int ch])), (n, .inl (cJ, 8, .inr (.inl f))), (y, .inr (4, [.int th, .ref n2, .int kn2, .int td])), (n2, .inl (cJ, 8, .inr (.inl g))), (o, .inr (3, [.long vn, sr]))]) (hS : va_S A s.heap H locs) (hl : lv_has ls 7 [(4, .int i), (3, .ref o), (2, .ref y), (1, .ref x), (0, .ref b)]) (kk : ∀ (kn ch kn2 td th : Int32) (f g : Nat → Int64) (vn : Int64) (sr : Value) (H : Heap) (locs : List Loc) (ls : Array Slot), kInv kn ch f kn2 td g → va_P D vwCl [(x, .inr (2, [.ref n, .int kn, .int ch])), (n, .inl (cJ, 8, .inr (.inl f))), (y, .inr (4, [.int th, .ref n2, .int kn2, .int td])), (n2, .inl (cJ, 8, .inr (.inl g))), (o, .inr (3, [.long vn, sr]))] H → va_D A [(x, .inr (2, [.ref n, .int kn, .int ch])), (n, .inl (cJ, 8, .inr (.inl f))), (y, .inr (4, [.int th, .ref n2, .int kn2, .int td])), (n2, .inl (cJ, 8, .inr (.inl g))), (o, .inr (3, [.long vn, sr]))] → va_S A s.heap H locs → lv_has ls 7 [(4, .int i), (3, .ref o), (2, .ref y), (1, .ref x), (0, .ref b)] → W p l e room_1 s m #[Value.ref b] below meth c H locs (cells + 100) (slots + 8000) Q (F0 m 1162 ls [])) : W p l e room_1 s m #[Value.ref b] below meth c H locs cells slots Q (F0 m 524 ls []) := by
  have hK := hE.1
  refine lv_aload_n hx hb dL_law_524 rfl (lv_at hl 3 rfl) ?_
  refine lv_aload_n hx hb dL_law_525 rfl (lv_at hl 4 rfl) ?_
  refine lv_iload hx hb dL_law_526 (lv_at hl 0 rfl) ?_
  refine lv_iconst (v := 1) hx hb dL_law_528 (by decide) ?_
  refine lv_iadd hx hb dL_law_529 ?_
  refine va_sld hx hb hX hbl hbA hS hi1 dL_law_530 ?_
  rw [ha1]
  refine lv_aload_n hx hb dL_law_531 rfl (lv_at hl 4 rfl) ?_
  refine lv_iload hx hb dL_law_532 (lv_at hl 0 rfl) ?_
  refine lv_iconst (v := 2) hx hb dL_law_534 (by decide) ?_
  refine lv_iadd hx hb dL_law_535 ?_
  refine va_sld hx hb hX hbl hbA hS hi2 dL_law_536 ?_
  rw [ha2]
  refine lv_aload_n hx hb dL_law_537 rfl (lv_at hl 4 rfl) ?_
  refine lv_iload hx hb dL_law_538 (lv_at hl 0 rfl) ?_
  refine lv_iconst (v := 3) hx hb dL_law_540 (by decide) ?_
  refine lv_iadd hx hb dL_law_541 ?_
  refine va_sld hx hb hX hbl hbA hS hi3 dL_law_542 ?_
  rw [ha3]
  refine lv_aload_n hx hb dL_law_543 rfl (lv_at hl 4 rfl) ?_
  refine lv_iload hx hb dL_law_544 (lv_at hl 0 rfl) ?_
  refine lv_iconst (v := 4) hx hb dL_law_546 (by decide) ?_
  refine lv_iadd hx hb dL_law_547 ?_
  refine va_sld hx hb hX hbl hbA hS hi4 dL_law_548 ?_
  rw [ha4]
  refine lv_aload_n hx hb dL_law_549 rfl (lv_at hl 1 rfl) ?_
  have hFc := va_free (wc := [(x, .inr (2, [.ref n, .int kn, .int ch])), (n, .inl (cJ, 8, .inr (.inl f))), (o, .inr (3, [.long vn, sr]))]) hD hS hA [0, 1, 4] rfl
  refine kx_go (vx_runSX (As := [.ref x, .int a1, .int a2, .int a3, .int a4, .ref o]) (rest := []) ⟨hx, hb, hml, hown, hts⟩ (c_L_minus l hl9 D cB cJ _ x n o kn ch f vn sr a1 a2 a3 a4 (hP.sub [0, 1, 4] rfl) ((hD.sub [0, 1, 4] (by decide) rfl).weaken (fun _ _ _ _ => trivial))) (vx_cwSW 6 hts gL_law_L_minus rfl rfl rfl (by decide +kernel) ⟨(Nat.le_of_ble_eq_true rfl), (Nat.le_of_ble_eq_true rfl)⟩) (k_preSN hE hN hS hFc) rfl rfl hl.1 rfl (lv_room (Nat.le_of_ble_eq_true rfl)) dL_law_550 ⟨by show _ ≤ (747762 : Nat); omega, by show _ ≤ (6852817 : Nat); omega⟩) hS (fun q _ h => hFc q h) hFc (fun E ce q9 H locs hp hz hk hS hce hcv hcl => hp.elim) (fun v H locs hp hz hk hS => ?_)
  rcases hp with ⟨r9, hJ9, rfl, hP1, hD1⟩ | ⟨E9, hJ9, rfl, hP1, hD1⟩
  · have hP1 : va_P D vwCl [(x, .inr (2, [.ref n, .int r9.2.1, .int r9.2.2.1])), (n, .inl (cJ, 8, .inr (.inl r9.2.2.2))), (o, .inr (3, [.long ((fun z : Int32 => z.toInt64) r9.1), sr]))] H := hP1
    have hD1 : va_D _ [(x, .inr (2, [.ref n, .int r9.2.1, .int r9.2.2.1])), (n, .inl (cJ, 8, .inr (.inl r9.2.2.2))), (o, .inr (3, [.long ((fun z : Int32 => z.toInt64) r9.1), sr]))] := hD1
    obtain ⟨hP, hD⟩ := va_join (wr := [(y, .inr (4, [.int th, .ref n2, .int kn2, .int td])), (n2, .inl (cJ, 8, .inr (.inl g)))]) (wc := [(x, .inr (2, [.ref n, .int kn, .int ch])), (n, .inl (cJ, 8, .inr (.inl f))), (o, .inr (3, [.long vn, sr]))]) (w1 := [(x, .inr (2, [.ref n, .int r9.2.1, .int r9.2.2.1])), (n, .inl (cJ, 8, .inr (.inl r9.2.2.2))), (o, .inr (3, [.long ((fun z : Int32 => z.toInt64) r9.1), sr]))]) hP hD [0, 1, 4] [2, 3] rfl rfl (by decide) (by decide) hk hFc hP1 hD1
    have hP : va_P D vwCl [(y, .inr (4, [.int th, .ref n2, .int kn2, .int td])), (n2, .inl (cJ, 8, .inr (.inl g))), (x, .inr (2, [.ref n, .int r9.2.1, .int r9.2.2.1])), (n, .inl (cJ, 8, .inr (.inl r9.2.2.2))), (o, .inr (3, [.long ((fun z : Int32 => z.toInt64) r9.1), sr]))] H := hP
    have hD : va_D A [(y, .inr (4, [.int th, .ref n2, .int kn2, .int td])), (n2, .inl (cJ, 8, .inr (.inl g))), (x, .inr (2, [.ref n, .int r9.2.1, .int r9.2.2.1])), (n, .inl (cJ, 8, .inr (.inl r9.2.2.2))), (o, .inr (3, [.long ((fun z : Int32 => z.toInt64) r9.1), sr]))] := hD
    refine W.eq (g2 := F0 m 553 ls [.int 0]) rfl ?_
    refine lv_istore (lv' := [(5, .int 0), (4, .int i), (3, .ref o), (2, .ref y), (1, .ref x), (0, .ref b)]) hx hb dL_law_553 hl (by decide) rfl (fun ls hl => ?_)
    refine lv_aload_n hx hb dL_law_555 rfl (lv_at hl 3 rfl) ?_
    refine lv_aload_n hx hb dL_law_556 rfl (lv_at hl 5 rfl) ?_
    refine lv_iload hx hb dL_law_557 (lv_at hl 1 rfl) ?_
    refine lv_iconst (v := 1) hx hb dL_law_559 (by decide) ?_
    refine lv_iadd hx hb dL_law_560 ?_
    refine va_sld hx hb hX hbl hbA hS hi1 dL_law_561 ?_
    rw [ha1]
    refine lv_aload_n hx hb dL_law_562 rfl (lv_at hl 5 rfl) ?_
    refine lv_iload hx hb dL_law_563 (lv_at hl 1 rfl) ?_
    refine lv_iconst (v := 2) hx hb dL_law_565 (by decide) ?_
    refine lv_iadd hx hb dL_law_566 ?_
    refine va_sld hx hb hX hbl hbA hS hi2 dL_law_567 ?_
    rw [ha2]
    refine lv_aload_n hx hb dL_law_568 rfl (lv_at hl 5 rfl) ?_
    refine lv_iload hx hb dL_law_569 (lv_at hl 1 rfl) ?_
    refine lv_iconst (v := 3) hx hb dL_law_571 (by decide) ?_
    refine lv_iadd hx hb dL_law_572 ?_
    refine va_sld hx hb hX hbl hbA hS hi3 dL_law_573 ?_
    rw [ha3]
    refine lv_aload_n hx hb dL_law_574 rfl (lv_at hl 5 rfl) ?_
    refine lv_iload hx hb dL_law_575 (lv_at hl 1 rfl) ?_
    refine lv_iconst (v := 4) hx hb dL_law_577 (by decide) ?_
    refine lv_iadd hx hb dL_law_578 ?_
    refine va_sld hx hb hX hbl hbA hS hi4 dL_law_579 ?_
    rw [ha4]
    have hFc := va_free (wc := [(y, .inr (4, [.int th, .ref n2, .int kn2, .int td])), (n2, .inl (cJ, 8, .inr (.inl g)))]) hD hS hA [0, 1] rfl
    have hT9 := tm_minus hI th a1 a2 a3 a4
    refine k_go (va_runV (As := [.int a1, .int a2, .int a3, .int a4]) (rest := []) ⟨hx, hb, hml, hown, hts⟩ (c_X2_minus l D cB cJ _ y n2 th g kn2 td (hP.sub [0, 1] rfl) ((hD.sub [0, 1] (by decide) rfl).weaken (fun _ _ _ _ => trivial)) a1 a2 a3 a4 hT9) (cwV 4 hts gL_law_X2_minus rfl rfl rfl (by decide +kernel) ⟨(Nat.le_of_ble_eq_true rfl), (Nat.le_of_ble_eq_true rfl)⟩) (k_preV hE hS hFc (va_recv hK hP (ci := 4) (q0 := 0) rfl rfl)) rfl rfl hl.1 rfl (lv_room (Nat.le_of_ble_eq_true rfl)) dL_law_580 ⟨by show _ ≤ (747762 : Nat); omega, by show _ ≤ (6852817 : Nat); omega⟩) hS (fun q _ h => hFc q h) hFc (fun v H locs hp hz hk hS => ?_)
    obtain ⟨rfl, hP1, hD1⟩ := hp
    have hP1 : va_P D vwCl [(y, .inr (4, [.int ((j_X2_minus th g kn2 td a1 a2 a3 a4).2.1), .ref n2, .int ((j_X2_minus th g kn2 td a1 a2 a3 a4).2.2.2.1), .int ((j_X2_minus th g kn2 td a1 a2 a3 a4).2.2.2.2)])), (n2, .inl (cJ, 8, .inr (.inl ((j_X2_minus th g kn2 td a1 a2 a3 a4).2.2.1))))] H := hP1
    have hD1 : va_D _ [(y, .inr (4, [.int ((j_X2_minus th g kn2 td a1 a2 a3 a4).2.1), .ref n2, .int ((j_X2_minus th g kn2 td a1 a2 a3 a4).2.2.2.1), .int ((j_X2_minus th g kn2 td a1 a2 a3 a4).2.2.2.2)])), (n2, .inl (cJ, 8, .inr (.inl ((j_X2_minus th g kn2 td a1 a2 a3 a4).2.2.1))))] := hD1
    obtain ⟨hP, hD⟩ := va_join (wr := [(x, .inr (2, [.ref n, .int r9.2.1, .int r9.2.2.1])), (n, .inl (cJ, 8, .inr (.inl r9.2.2.2))), (o, .inr (3, [.long ((fun z : Int32 => z.toInt64) r9.1), sr]))]) (wc := [(y, .inr (4, [.int th, .ref n2, .int kn2, .int td])), (n2, .inl (cJ, 8, .inr (.inl g)))]) (w1 := [(y, .inr (4, [.int ((j_X2_minus th g kn2 td a1 a2 a3 a4).2.1), .ref n2, .int ((j_X2_minus th g kn2 td a1 a2 a3 a4).2.2.2.1), .int ((j_X2_minus th g kn2 td a1 a2 a3 a4).2.2.2.2)])), (n2, .inl (cJ, 8, .inr (.inl ((j_X2_minus th g kn2 td a1 a2 a3 a4).2.2.1))))]) hP hD [0, 1] [2, 3, 4] rfl rfl (by decide) (by decide) hk hFc hP1 hD1
    have hP : va_P D vwCl [(x, .inr (2, [.ref n, .int r9.2.1, .int r9.2.2.1])), (n, .inl (cJ, 8, .inr (.inl r9.2.2.2))), (o, .inr (3, [.long ((fun z : Int32 => z.toInt64) r9.1), sr])), (y, .inr (4, [.int ((j_X2_minus th g kn2 td a1 a2 a3 a4).2.1), .ref n2, .int ((j_X2_minus th g kn2 td a1 a2 a3 a4).2.2.2.1), .int ((j_X2_minus th g kn2 td a1 a2 a3 a4).2.2.2.2)])), (n2, .inl (cJ, 8, .inr (.inl ((j_X2_minus th g kn2 td a1 a2 a3 a4).2.2.1))))] H := hP
    have hD : va_D A [(x, .inr (2, [.ref n, .int r9.2.1, .int r9.2.2.1])), (n, .inl (cJ, 8, .inr (.inl r9.2.2.2))), (o, .inr (3, [.long ((fun z : Int32 => z.toInt64) r9.1), sr])), (y, .inr (4, [.int ((j_X2_minus th g kn2 td a1 a2 a3 a4).2.1), .ref n2, .int ((j_X2_minus th g kn2 td a1 a2 a3 a4).2.2.2.1), .int ((j_X2_minus th g kn2 td a1 a2 a3 a4).2.2.2.2)])), (n2, .inl (cJ, 8, .inr (.inl ((j_X2_minus th g kn2 td a1 a2 a3 a4).2.2.1))))] := hD
    obtain ⟨hth, hrv, hI⟩ := (st_minus hI th a1 a2 a3 a4).1 _ hJ9
    refine W.eq (g2 := F0 m 583 ls [.int ((j_X2_minus th g kn2 td a1 a2 a3 a4).1)]) rfl ?_
    refine lv_istore (lv' := [(6, .int ((j_X2_minus th g kn2 td a1 a2 a3 a4).1)), (5, .int 0), (4, .int i), (3, .ref o), (2, .ref y), (1, .ref x), (0, .ref b)]) hx hb dL_law_583 hl (by decide) rfl (fun ls hl => ?_)
    refine lv_goto (tgt := 1162) hx hb dL_law_585 (by decide) ?_
    refine W.widen (k := cells + 100) (n := slots + 8000) (by omega) (by omega) ?_
    exact kk _ _ _ _ _ _ _ _ _ _ _ _ hI (hP.sub [0, 1, 3, 4, 2] rfl) (hD.sub [0, 1, 3, 4, 2] (by decide) rfl) hS (lv_sub hl [2, 3, 4, 5, 6] rfl)
  · have hP1 : va_P D vwCl [(x, .inr (2, [.ref n, .int kn, .int ch])), (n, .inl (cJ, 8, .inr (.inl f))), (o, .inr (3, [.long vn, sr]))] H := hP1
    have hD1 : va_D _ [(x, .inr (2, [.ref n, .int kn, .int ch])), (n, .inl (cJ, 8, .inr (.inl f))), (o, .inr (3, [.long vn, sr]))] := hD1
    obtain ⟨hP, hD⟩ := va_join (wr := [(y, .inr (4, [.int th, .ref n2, .int kn2, .int td])), (n2, .inl (cJ, 8, .inr (.inl g)))]) (wc := [(x, .inr (2, [.ref n, .int kn, .int ch])), (n, .inl (cJ, 8, .inr (.inl f))), (o, .inr (3, [.long vn, sr]))]) (w1 := [(x, .inr (2, [.ref n, .int kn, .int ch])), (n, .inl (cJ, 8, .inr (.inl f))), (o, .inr (3, [.long vn, sr]))]) hP hD [0, 1, 4] [2, 3] rfl rfl (by decide) (by decide) hk hFc hP1 hD1
    have hP : va_P D vwCl [(y, .inr (4, [.int th, .ref n2, .int kn2, .int td])), (n2, .inl (cJ, 8, .inr (.inl g))), (x, .inr (2, [.ref n, .int kn, .int ch])), (n, .inl (cJ, 8, .inr (.inl f))), (o, .inr (3, [.long vn, sr]))] H := hP
    have hD : va_D A [(y, .inr (4, [.int th, .ref n2, .int kn2, .int td])), (n2, .inl (cJ, 8, .inr (.inl g))), (x, .inr (2, [.ref n, .int kn, .int ch])), (n, .inl (cJ, 8, .inr (.inl f))), (o, .inr (3, [.long vn, sr]))] := hD
    refine W.eq (g2 := F0 m 553 ls [.int (k_cd E9)]) rfl ?_
    refine lv_istore (lv' := [(5, .int (k_cd E9)), (4, .int i), (3, .ref o), (2, .ref y), (1, .ref x), (0, .ref b)]) hx hb dL_law_553 hl (by decide) rfl (fun ls hl => ?_)
    refine lv_aload_n hx hb dL_law_555 rfl (lv_at hl 3 rfl) ?_
    refine lv_aload_n hx hb dL_law_556 rfl (lv_at hl 5 rfl) ?_
    refine lv_iload hx hb dL_law_557 (lv_at hl 1 rfl) ?_
    refine lv_iconst (v := 1) hx hb dL_law_559 (by decide) ?_
    refine lv_iadd hx hb dL_law_560 ?_
    refine va_sld hx hb hX hbl hbA hS hi1 dL_law_561 ?_
    rw [ha1]
    refine lv_aload_n hx hb dL_law_562 rfl (lv_at hl 5 rfl) ?_
    refine lv_iload hx hb dL_law_563 (lv_at hl 1 rfl) ?_
    refine lv_iconst (v := 2) hx hb dL_law_565 (by decide) ?_
    refine lv_iadd hx hb dL_law_566 ?_
    refine va_sld hx hb hX hbl hbA hS hi2 dL_law_567 ?_
    rw [ha2]
    refine lv_aload_n hx hb dL_law_568 rfl (lv_at hl 5 rfl) ?_
    refine lv_iload hx hb dL_law_569 (lv_at hl 1 rfl) ?_
    refine lv_iconst (v := 3) hx hb dL_law_571 (by decide) ?_
    refine lv_iadd hx hb dL_law_572 ?_
    refine va_sld hx hb hX hbl hbA hS hi3 dL_law_573 ?_
    rw [ha3]
    refine lv_aload_n hx hb dL_law_574 rfl (lv_at hl 5 rfl) ?_
    refine lv_iload hx hb dL_law_575 (lv_at hl 1 rfl) ?_
    refine lv_iconst (v := 4) hx hb dL_law_577 (by decide) ?_
    refine lv_iadd hx hb dL_law_578 ?_
    refine va_sld hx hb hX hbl hbA hS hi4 dL_law_579 ?_
    rw [ha4]
    have hFc := va_free (wc := [(y, .inr (4, [.int th, .ref n2, .int kn2, .int td])), (n2, .inl (cJ, 8, .inr (.inl g)))]) hD hS hA [0, 1] rfl
    have hT9 := tm_minus hI th a1 a2 a3 a4
    refine k_go (va_runV (As := [.int a1, .int a2, .int a3, .int a4]) (rest := []) ⟨hx, hb, hml, hown, hts⟩ (c_X2_minus l D cB cJ _ y n2 th g kn2 td (hP.sub [0, 1] rfl) ((hD.sub [0, 1] (by decide) rfl).weaken (fun _ _ _ _ => trivial)) a1 a2 a3 a4 hT9) (cwV 4 hts gL_law_X2_minus rfl rfl rfl (by decide +kernel) ⟨(Nat.le_of_ble_eq_true rfl), (Nat.le_of_ble_eq_true rfl)⟩) (k_preV hE hS hFc (va_recv hK hP (ci := 4) (q0 := 0) rfl rfl)) rfl rfl hl.1 rfl (lv_room (Nat.le_of_ble_eq_true rfl)) dL_law_580 ⟨by show _ ≤ (747762 : Nat); omega, by show _ ≤ (6852817 : Nat); omega⟩) hS (fun q _ h => hFc q h) hFc (fun v H locs hp hz hk hS => ?_)
    obtain ⟨rfl, hP1, hD1⟩ := hp
    have hP1 : va_P D vwCl [(y, .inr (4, [.int ((j_X2_minus th g kn2 td a1 a2 a3 a4).2.1), .ref n2, .int ((j_X2_minus th g kn2 td a1 a2 a3 a4).2.2.2.1), .int ((j_X2_minus th g kn2 td a1 a2 a3 a4).2.2.2.2)])), (n2, .inl (cJ, 8, .inr (.inl ((j_X2_minus th g kn2 td a1 a2 a3 a4).2.2.1))))] H := hP1
    have hD1 : va_D _ [(y, .inr (4, [.int ((j_X2_minus th g kn2 td a1 a2 a3 a4).2.1), .ref n2, .int ((j_X2_minus th g kn2 td a1 a2 a3 a4).2.2.2.1), .int ((j_X2_minus th g kn2 td a1 a2 a3 a4).2.2.2.2)])), (n2, .inl (cJ, 8, .inr (.inl ((j_X2_minus th g kn2 td a1 a2 a3 a4).2.2.1))))] := hD1
    obtain ⟨hP, hD⟩ := va_join (wr := [(x, .inr (2, [.ref n, .int kn, .int ch])), (n, .inl (cJ, 8, .inr (.inl f))), (o, .inr (3, [.long vn, sr]))]) (wc := [(y, .inr (4, [.int th, .ref n2, .int kn2, .int td])), (n2, .inl (cJ, 8, .inr (.inl g)))]) (w1 := [(y, .inr (4, [.int ((j_X2_minus th g kn2 td a1 a2 a3 a4).2.1), .ref n2, .int ((j_X2_minus th g kn2 td a1 a2 a3 a4).2.2.2.1), .int ((j_X2_minus th g kn2 td a1 a2 a3 a4).2.2.2.2)])), (n2, .inl (cJ, 8, .inr (.inl ((j_X2_minus th g kn2 td a1 a2 a3 a4).2.2.1))))]) hP hD [0, 1] [2, 3, 4] rfl rfl (by decide) (by decide) hk hFc hP1 hD1
    have hP : va_P D vwCl [(x, .inr (2, [.ref n, .int kn, .int ch])), (n, .inl (cJ, 8, .inr (.inl f))), (o, .inr (3, [.long vn, sr])), (y, .inr (4, [.int ((j_X2_minus th g kn2 td a1 a2 a3 a4).2.1), .ref n2, .int ((j_X2_minus th g kn2 td a1 a2 a3 a4).2.2.2.1), .int ((j_X2_minus th g kn2 td a1 a2 a3 a4).2.2.2.2)])), (n2, .inl (cJ, 8, .inr (.inl ((j_X2_minus th g kn2 td a1 a2 a3 a4).2.2.1))))] H := hP
    have hD : va_D A [(x, .inr (2, [.ref n, .int kn, .int ch])), (n, .inl (cJ, 8, .inr (.inl f))), (o, .inr (3, [.long vn, sr])), (y, .inr (4, [.int ((j_X2_minus th g kn2 td a1 a2 a3 a4).2.1), .ref n2, .int ((j_X2_minus th g kn2 td a1 a2 a3 a4).2.2.2.1), .int ((j_X2_minus th g kn2 td a1 a2 a3 a4).2.2.2.2)])), (n2, .inl (cJ, 8, .inr (.inl ((j_X2_minus th g kn2 td a1 a2 a3 a4).2.2.1))))] := hD
    obtain ⟨hth, hI⟩ := (st_minus hI th a1 a2 a3 a4).2 _ hJ9
    refine W.eq (g2 := F0 m 583 ls [.int ((j_X2_minus th g kn2 td a1 a2 a3 a4).1)]) rfl ?_
    refine lv_istore (lv' := [(6, .int ((j_X2_minus th g kn2 td a1 a2 a3 a4).1)), (5, .int (k_cd E9)), (4, .int i), (3, .ref o), (2, .ref y), (1, .ref x), (0, .ref b)]) hx hb dL_law_583 hl (by decide) rfl (fun ls hl => ?_)
    refine lv_goto (tgt := 1162) hx hb dL_law_585 (by decide) ?_
    refine W.widen (k := cells + 100) (n := slots + 8000) (by omega) (by omega) ?_
    exact kk _ _ _ _ _ _ _ _ _ _ _ _ hI (hP.sub [0, 1, 3, 4, 2] rfl) (hD.sub [0, 1, 3, 4, 2] (by decide) rfl) hS (lv_sub hl [2, 3, 4, 5, 6] rfl)
set_option maxHeartbeats 4000000 in
set_option maxRecDepth 100000 in
theorem lc_walk {p : Program} {l : Launch} {e : Env} {s : State} {m : MethodId} {below : List Frame} {meth : Method} {c : Code} {D : va_G} {cB cJ : ClassId} {A : Nat → Prop} {Q : State → Prop} {b L x n y n2 o : Nat} {xs : Nat → Int32} (hl9 : l.stackTraces = false) (hx : p.tables.exec = Jvm.exec) (hb : c.code = code) (hml : c.maxLocals = 7) (hown : s.vm.findClass RL = some m.cls) (hts : ∀ w ∈ wsL_law, w.before #[Value.ref b] s = true) (hE : kE D cB cJ A s s.heap) (hN : kN s) (hA : ∀ q : Nat, s.heap.size ≤ q → A q) (hX : va_X b L xs s s.heap) (hbl : b < s.heap.size) (hbA : ¬ A b) {i : Int32} {a1 : Int32} (hi1 : vp_in (i + 1) L) (ha1 : xs (i + 1).toNatClampNeg = a1) {a2 : Int32} (hi2 : vp_in (i + 2) L) (ha2 : xs (i + 2).toNatClampNeg = a2) {a3 : Int32} (hi3 : vp_in (i + 3) L) (ha3 : xs (i + 3).toNatClampNeg = a3) {a4 : Int32} (hi4 : vp_in (i + 4) L) (ha4 : xs (i + 4).toNatClampNeg = a4) {a5 : Int32} (hi5 : vp_in (i + 5) L) (ha5 : xs (i + 5).toNatClampNeg = a5) {kn ch kn2 td th : Int32} {f g : Nat → Int64} {vn : Int64} {sr : Value} {H : Heap} {locs : List Loc} {cells slots : Nat} {ls : Array Slot} (hc9 : cells + 100 ≤ 747762) (hs9 : slots + 8000 ≤ 6852817) (hI : kInv kn ch f kn2 td g) (hP : va_P D vwCl [(x, .inr (2, [.ref n, .int kn, .int ch])), (n, .inl (cJ, 8, .inr (.inl f))), (y, .inr (4, [.int th, .ref n2, .int kn2, .int td])), (n2, .inl (cJ, 8, .inr (.inl g))), (o, .inr (3, [.long vn, sr]))] H) (hD : va_D A [(x, .inr (2, [.ref n, .int kn, .int ch])), (n, .inl (cJ, 8, .inr (.inl f))), (y, .inr (4, [.int th, .ref n2, .int kn2, .int td])), (n2, .inl (cJ, 8, .inr (.inl g))), (o, .inr (3, [.long vn, sr]))]) (hS : va_S A s.heap H locs) (hl : lv_has ls 7 [(4, .int i), (3, .ref o), (2, .ref y), (1, .ref x), (0, .ref b)]) (kk : ∀ (kn ch kn2 td th : Int32) (f g : Nat → Int64) (vn : Int64) (sr : Value) (H : Heap) (locs : List Loc) (ls : Array Slot), kInv kn ch f kn2 td g → va_P D vwCl [(x, .inr (2, [.ref n, .int kn, .int ch])), (n, .inl (cJ, 8, .inr (.inl f))), (y, .inr (4, [.int th, .ref n2, .int kn2, .int td])), (n2, .inl (cJ, 8, .inr (.inl g))), (o, .inr (3, [.long vn, sr]))] H → va_D A [(x, .inr (2, [.ref n, .int kn, .int ch])), (n, .inl (cJ, 8, .inr (.inl f))), (y, .inr (4, [.int th, .ref n2, .int kn2, .int td])), (n2, .inl (cJ, 8, .inr (.inl g))), (o, .inr (3, [.long vn, sr]))] → va_S A s.heap H locs → lv_has ls 7 [(4, .int i), (3, .ref o), (2, .ref y), (1, .ref x), (0, .ref b)] → W p l e room_1 s m #[Value.ref b] below meth c H locs (cells + 100) (slots + 8000) Q (F0 m 1162 ls [])) : W p l e room_1 s m #[Value.ref b] below meth c H locs cells slots Q (F0 m 588 ls []) := by
  have hK := hE.1
  refine lv_aload_n hx hb dL_law_588 rfl (lv_at hl 3 rfl) ?_
  refine lv_aload_n hx hb dL_law_589 rfl (lv_at hl 4 rfl) ?_
  refine lv_iload hx hb dL_law_590 (lv_at hl 0 rfl) ?_
  refine lv_iconst (v := 1) hx hb dL_law_592 (by decide) ?_
  refine lv_iadd hx hb dL_law_593 ?_
  refine va_sld hx hb hX hbl hbA hS hi1 dL_law_594 ?_
  rw [ha1]
  refine lv_aload_n hx hb dL_law_595 rfl (lv_at hl 4 rfl) ?_
  refine lv_iload hx hb dL_law_596 (lv_at hl 0 rfl) ?_
  refine lv_iconst (v := 2) hx hb dL_law_598 (by decide) ?_
  refine lv_iadd hx hb dL_law_599 ?_
  refine va_sld hx hb hX hbl hbA hS hi2 dL_law_600 ?_
  rw [ha2]
  refine lv_aload_n hx hb dL_law_601 rfl (lv_at hl 4 rfl) ?_
  refine lv_iload hx hb dL_law_602 (lv_at hl 0 rfl) ?_
  refine lv_iconst (v := 3) hx hb dL_law_604 (by decide) ?_
  refine lv_iadd hx hb dL_law_605 ?_
  refine va_sld hx hb hX hbl hbA hS hi3 dL_law_606 ?_
  rw [ha3]
  refine lv_aload_n hx hb dL_law_607 rfl (lv_at hl 4 rfl) ?_
  refine lv_iload hx hb dL_law_608 (lv_at hl 0 rfl) ?_
  refine lv_iconst (v := 4) hx hb dL_law_610 (by decide) ?_
  refine lv_iadd hx hb dL_law_611 ?_
  refine va_sld hx hb hX hbl hbA hS hi4 dL_law_612 ?_
  rw [ha4]
  refine lv_aload_n hx hb dL_law_613 rfl (lv_at hl 1 rfl) ?_
  have hFc := va_free (wc := [(x, .inr (2, [.ref n, .int kn, .int ch])), (n, .inl (cJ, 8, .inr (.inl f))), (o, .inr (3, [.long vn, sr]))]) hD hS hA [0, 1, 4] rfl
  refine kx_go (vx_runSX (As := [.ref x, .int a1, .int a2, .int a3, .int a4, .ref o]) (rest := []) ⟨hx, hb, hml, hown, hts⟩ (c_L_walk l hl9 D cB cJ _ x n o kn ch f vn sr a1 a2 a3 a4 (hP.sub [0, 1, 4] rfl) ((hD.sub [0, 1, 4] (by decide) rfl).weaken (fun _ _ _ _ => trivial))) (vx_cwSW 6 hts gL_law_L_walk rfl rfl rfl (by decide +kernel) ⟨(Nat.le_of_ble_eq_true rfl), (Nat.le_of_ble_eq_true rfl)⟩) (k_preSN hE hN hS hFc) rfl rfl hl.1 rfl (lv_room (Nat.le_of_ble_eq_true rfl)) dL_law_614 ⟨by show _ ≤ (747762 : Nat); omega, by show _ ≤ (6852817 : Nat); omega⟩) hS (fun q _ h => hFc q h) hFc (fun E ce q9 H locs hp hz hk hS hce hcv hcl => hp.elim) (fun v H locs hp hz hk hS => ?_)
  rcases hp with ⟨r9, hJ9, rfl, hP1, hD1⟩ | ⟨E9, hJ9, rfl, hP1, hD1⟩
  · have hP1 : va_P D vwCl [(x, .inr (2, [.ref n, .int r9.2.1, .int r9.2.2.1])), (n, .inl (cJ, 8, .inr (.inl r9.2.2.2))), (o, .inr (3, [.long ((fun z : Int32 => z.toInt64) r9.1), sr]))] H := hP1
    have hD1 : va_D _ [(x, .inr (2, [.ref n, .int r9.2.1, .int r9.2.2.1])), (n, .inl (cJ, 8, .inr (.inl r9.2.2.2))), (o, .inr (3, [.long ((fun z : Int32 => z.toInt64) r9.1), sr]))] := hD1
    obtain ⟨hP, hD⟩ := va_join (wr := [(y, .inr (4, [.int th, .ref n2, .int kn2, .int td])), (n2, .inl (cJ, 8, .inr (.inl g)))]) (wc := [(x, .inr (2, [.ref n, .int kn, .int ch])), (n, .inl (cJ, 8, .inr (.inl f))), (o, .inr (3, [.long vn, sr]))]) (w1 := [(x, .inr (2, [.ref n, .int r9.2.1, .int r9.2.2.1])), (n, .inl (cJ, 8, .inr (.inl r9.2.2.2))), (o, .inr (3, [.long ((fun z : Int32 => z.toInt64) r9.1), sr]))]) hP hD [0, 1, 4] [2, 3] rfl rfl (by decide) (by decide) hk hFc hP1 hD1
    have hP : va_P D vwCl [(y, .inr (4, [.int th, .ref n2, .int kn2, .int td])), (n2, .inl (cJ, 8, .inr (.inl g))), (x, .inr (2, [.ref n, .int r9.2.1, .int r9.2.2.1])), (n, .inl (cJ, 8, .inr (.inl r9.2.2.2))), (o, .inr (3, [.long ((fun z : Int32 => z.toInt64) r9.1), sr]))] H := hP
    have hD : va_D A [(y, .inr (4, [.int th, .ref n2, .int kn2, .int td])), (n2, .inl (cJ, 8, .inr (.inl g))), (x, .inr (2, [.ref n, .int r9.2.1, .int r9.2.2.1])), (n, .inl (cJ, 8, .inr (.inl r9.2.2.2))), (o, .inr (3, [.long ((fun z : Int32 => z.toInt64) r9.1), sr]))] := hD
    refine W.eq (g2 := F0 m 617 ls [.int 0]) rfl ?_
    refine lv_istore (lv' := [(5, .int 0), (4, .int i), (3, .ref o), (2, .ref y), (1, .ref x), (0, .ref b)]) hx hb dL_law_617 hl (by decide) rfl (fun ls hl => ?_)
    refine lv_aload_n hx hb dL_law_619 rfl (lv_at hl 3 rfl) ?_
    refine lv_aload_n hx hb dL_law_620 rfl (lv_at hl 5 rfl) ?_
    refine lv_iload hx hb dL_law_621 (lv_at hl 1 rfl) ?_
    refine lv_iconst (v := 1) hx hb dL_law_623 (by decide) ?_
    refine lv_iadd hx hb dL_law_624 ?_
    refine va_sld hx hb hX hbl hbA hS hi1 dL_law_625 ?_
    rw [ha1]
    refine lv_aload_n hx hb dL_law_626 rfl (lv_at hl 5 rfl) ?_
    refine lv_iload hx hb dL_law_627 (lv_at hl 1 rfl) ?_
    refine lv_iconst (v := 2) hx hb dL_law_629 (by decide) ?_
    refine lv_iadd hx hb dL_law_630 ?_
    refine va_sld hx hb hX hbl hbA hS hi2 dL_law_631 ?_
    rw [ha2]
    refine lv_aload_n hx hb dL_law_632 rfl (lv_at hl 5 rfl) ?_
    refine lv_iload hx hb dL_law_633 (lv_at hl 1 rfl) ?_
    refine lv_iconst (v := 3) hx hb dL_law_635 (by decide) ?_
    refine lv_iadd hx hb dL_law_636 ?_
    refine va_sld hx hb hX hbl hbA hS hi3 dL_law_637 ?_
    rw [ha3]
    refine lv_aload_n hx hb dL_law_638 rfl (lv_at hl 5 rfl) ?_
    refine lv_iload hx hb dL_law_639 (lv_at hl 1 rfl) ?_
    refine lv_iconst (v := 4) hx hb dL_law_641 (by decide) ?_
    refine lv_iadd hx hb dL_law_642 ?_
    refine va_sld hx hb hX hbl hbA hS hi4 dL_law_643 ?_
    rw [ha4]
    have hFc := va_free (wc := [(y, .inr (4, [.int th, .ref n2, .int kn2, .int td])), (n2, .inl (cJ, 8, .inr (.inl g)))]) hD hS hA [0, 1] rfl
    have hT9 := tm_walk hI th a1 a2 a3 a4
    refine k_go (va_runV (As := [.int a1, .int a2, .int a3, .int a4]) (rest := []) ⟨hx, hb, hml, hown, hts⟩ (c_X2_walk l D cB cJ _ y n2 th g kn2 td (hP.sub [0, 1] rfl) ((hD.sub [0, 1] (by decide) rfl).weaken (fun _ _ _ _ => trivial)) a1 a2 a3 a4 hT9) (cwV 4 hts gL_law_X2_walk rfl rfl rfl (by decide +kernel) ⟨(Nat.le_of_ble_eq_true rfl), (Nat.le_of_ble_eq_true rfl)⟩) (k_preV hE hS hFc (va_recv hK hP (ci := 4) (q0 := 0) rfl rfl)) rfl rfl hl.1 rfl (lv_room (Nat.le_of_ble_eq_true rfl)) dL_law_644 ⟨by show _ ≤ (747762 : Nat); omega, by show _ ≤ (6852817 : Nat); omega⟩) hS (fun q _ h => hFc q h) hFc (fun v H locs hp hz hk hS => ?_)
    obtain ⟨rfl, hP1, hD1⟩ := hp
    have hP1 : va_P D vwCl [(y, .inr (4, [.int ((j_X2_walk th g kn2 td a1 a2 a3 a4).2.1), .ref n2, .int ((j_X2_walk th g kn2 td a1 a2 a3 a4).2.2.2.1), .int ((j_X2_walk th g kn2 td a1 a2 a3 a4).2.2.2.2)])), (n2, .inl (cJ, 8, .inr (.inl ((j_X2_walk th g kn2 td a1 a2 a3 a4).2.2.1))))] H := hP1
    have hD1 : va_D _ [(y, .inr (4, [.int ((j_X2_walk th g kn2 td a1 a2 a3 a4).2.1), .ref n2, .int ((j_X2_walk th g kn2 td a1 a2 a3 a4).2.2.2.1), .int ((j_X2_walk th g kn2 td a1 a2 a3 a4).2.2.2.2)])), (n2, .inl (cJ, 8, .inr (.inl ((j_X2_walk th g kn2 td a1 a2 a3 a4).2.2.1))))] := hD1
    obtain ⟨hP, hD⟩ := va_join (wr := [(x, .inr (2, [.ref n, .int r9.2.1, .int r9.2.2.1])), (n, .inl (cJ, 8, .inr (.inl r9.2.2.2))), (o, .inr (3, [.long ((fun z : Int32 => z.toInt64) r9.1), sr]))]) (wc := [(y, .inr (4, [.int th, .ref n2, .int kn2, .int td])), (n2, .inl (cJ, 8, .inr (.inl g)))]) (w1 := [(y, .inr (4, [.int ((j_X2_walk th g kn2 td a1 a2 a3 a4).2.1), .ref n2, .int ((j_X2_walk th g kn2 td a1 a2 a3 a4).2.2.2.1), .int ((j_X2_walk th g kn2 td a1 a2 a3 a4).2.2.2.2)])), (n2, .inl (cJ, 8, .inr (.inl ((j_X2_walk th g kn2 td a1 a2 a3 a4).2.2.1))))]) hP hD [0, 1] [2, 3, 4] rfl rfl (by decide) (by decide) hk hFc hP1 hD1
    have hP : va_P D vwCl [(x, .inr (2, [.ref n, .int r9.2.1, .int r9.2.2.1])), (n, .inl (cJ, 8, .inr (.inl r9.2.2.2))), (o, .inr (3, [.long ((fun z : Int32 => z.toInt64) r9.1), sr])), (y, .inr (4, [.int ((j_X2_walk th g kn2 td a1 a2 a3 a4).2.1), .ref n2, .int ((j_X2_walk th g kn2 td a1 a2 a3 a4).2.2.2.1), .int ((j_X2_walk th g kn2 td a1 a2 a3 a4).2.2.2.2)])), (n2, .inl (cJ, 8, .inr (.inl ((j_X2_walk th g kn2 td a1 a2 a3 a4).2.2.1))))] H := hP
    have hD : va_D A [(x, .inr (2, [.ref n, .int r9.2.1, .int r9.2.2.1])), (n, .inl (cJ, 8, .inr (.inl r9.2.2.2))), (o, .inr (3, [.long ((fun z : Int32 => z.toInt64) r9.1), sr])), (y, .inr (4, [.int ((j_X2_walk th g kn2 td a1 a2 a3 a4).2.1), .ref n2, .int ((j_X2_walk th g kn2 td a1 a2 a3 a4).2.2.2.1), .int ((j_X2_walk th g kn2 td a1 a2 a3 a4).2.2.2.2)])), (n2, .inl (cJ, 8, .inr (.inl ((j_X2_walk th g kn2 td a1 a2 a3 a4).2.2.1))))] := hD
    obtain ⟨hth, hrv, hI⟩ := (st_walk hI th a1 a2 a3 a4).1 _ hJ9
    refine W.eq (g2 := F0 m 647 ls [.int ((j_X2_walk th g kn2 td a1 a2 a3 a4).1)]) rfl ?_
    refine lv_istore (lv' := [(6, .int ((j_X2_walk th g kn2 td a1 a2 a3 a4).1)), (5, .int 0), (4, .int i), (3, .ref o), (2, .ref y), (1, .ref x), (0, .ref b)]) hx hb dL_law_647 hl (by decide) rfl (fun ls hl => ?_)
    refine lv_goto (tgt := 1162) hx hb dL_law_649 (by decide) ?_
    refine W.widen (k := cells + 100) (n := slots + 8000) (by omega) (by omega) ?_
    exact kk _ _ _ _ _ _ _ _ _ _ _ _ hI (hP.sub [0, 1, 3, 4, 2] rfl) (hD.sub [0, 1, 3, 4, 2] (by decide) rfl) hS (lv_sub hl [2, 3, 4, 5, 6] rfl)
  · have hP1 : va_P D vwCl [(x, .inr (2, [.ref n, .int kn, .int ch])), (n, .inl (cJ, 8, .inr (.inl f))), (o, .inr (3, [.long vn, sr]))] H := hP1
    have hD1 : va_D _ [(x, .inr (2, [.ref n, .int kn, .int ch])), (n, .inl (cJ, 8, .inr (.inl f))), (o, .inr (3, [.long vn, sr]))] := hD1
    obtain ⟨hP, hD⟩ := va_join (wr := [(y, .inr (4, [.int th, .ref n2, .int kn2, .int td])), (n2, .inl (cJ, 8, .inr (.inl g)))]) (wc := [(x, .inr (2, [.ref n, .int kn, .int ch])), (n, .inl (cJ, 8, .inr (.inl f))), (o, .inr (3, [.long vn, sr]))]) (w1 := [(x, .inr (2, [.ref n, .int kn, .int ch])), (n, .inl (cJ, 8, .inr (.inl f))), (o, .inr (3, [.long vn, sr]))]) hP hD [0, 1, 4] [2, 3] rfl rfl (by decide) (by decide) hk hFc hP1 hD1
    have hP : va_P D vwCl [(y, .inr (4, [.int th, .ref n2, .int kn2, .int td])), (n2, .inl (cJ, 8, .inr (.inl g))), (x, .inr (2, [.ref n, .int kn, .int ch])), (n, .inl (cJ, 8, .inr (.inl f))), (o, .inr (3, [.long vn, sr]))] H := hP
    have hD : va_D A [(y, .inr (4, [.int th, .ref n2, .int kn2, .int td])), (n2, .inl (cJ, 8, .inr (.inl g))), (x, .inr (2, [.ref n, .int kn, .int ch])), (n, .inl (cJ, 8, .inr (.inl f))), (o, .inr (3, [.long vn, sr]))] := hD
    refine W.eq (g2 := F0 m 617 ls [.int (k_cd E9)]) rfl ?_
    refine lv_istore (lv' := [(5, .int (k_cd E9)), (4, .int i), (3, .ref o), (2, .ref y), (1, .ref x), (0, .ref b)]) hx hb dL_law_617 hl (by decide) rfl (fun ls hl => ?_)
    refine lv_aload_n hx hb dL_law_619 rfl (lv_at hl 3 rfl) ?_
    refine lv_aload_n hx hb dL_law_620 rfl (lv_at hl 5 rfl) ?_
    refine lv_iload hx hb dL_law_621 (lv_at hl 1 rfl) ?_
    refine lv_iconst (v := 1) hx hb dL_law_623 (by decide) ?_
    refine lv_iadd hx hb dL_law_624 ?_
    refine va_sld hx hb hX hbl hbA hS hi1 dL_law_625 ?_
    rw [ha1]
    refine lv_aload_n hx hb dL_law_626 rfl (lv_at hl 5 rfl) ?_
    refine lv_iload hx hb dL_law_627 (lv_at hl 1 rfl) ?_
    refine lv_iconst (v := 2) hx hb dL_law_629 (by decide) ?_
    refine lv_iadd hx hb dL_law_630 ?_
    refine va_sld hx hb hX hbl hbA hS hi2 dL_law_631 ?_
    rw [ha2]
    refine lv_aload_n hx hb dL_law_632 rfl (lv_at hl 5 rfl) ?_
    refine lv_iload hx hb dL_law_633 (lv_at hl 1 rfl) ?_
    refine lv_iconst (v := 3) hx hb dL_law_635 (by decide) ?_
    refine lv_iadd hx hb dL_law_636 ?_
    refine va_sld hx hb hX hbl hbA hS hi3 dL_law_637 ?_
    rw [ha3]
    refine lv_aload_n hx hb dL_law_638 rfl (lv_at hl 5 rfl) ?_
    refine lv_iload hx hb dL_law_639 (lv_at hl 1 rfl) ?_
    refine lv_iconst (v := 4) hx hb dL_law_641 (by decide) ?_
    refine lv_iadd hx hb dL_law_642 ?_
    refine va_sld hx hb hX hbl hbA hS hi4 dL_law_643 ?_
    rw [ha4]
    have hFc := va_free (wc := [(y, .inr (4, [.int th, .ref n2, .int kn2, .int td])), (n2, .inl (cJ, 8, .inr (.inl g)))]) hD hS hA [0, 1] rfl
    have hT9 := tm_walk hI th a1 a2 a3 a4
    refine k_go (va_runV (As := [.int a1, .int a2, .int a3, .int a4]) (rest := []) ⟨hx, hb, hml, hown, hts⟩ (c_X2_walk l D cB cJ _ y n2 th g kn2 td (hP.sub [0, 1] rfl) ((hD.sub [0, 1] (by decide) rfl).weaken (fun _ _ _ _ => trivial)) a1 a2 a3 a4 hT9) (cwV 4 hts gL_law_X2_walk rfl rfl rfl (by decide +kernel) ⟨(Nat.le_of_ble_eq_true rfl), (Nat.le_of_ble_eq_true rfl)⟩) (k_preV hE hS hFc (va_recv hK hP (ci := 4) (q0 := 0) rfl rfl)) rfl rfl hl.1 rfl (lv_room (Nat.le_of_ble_eq_true rfl)) dL_law_644 ⟨by show _ ≤ (747762 : Nat); omega, by show _ ≤ (6852817 : Nat); omega⟩) hS (fun q _ h => hFc q h) hFc (fun v H locs hp hz hk hS => ?_)
    obtain ⟨rfl, hP1, hD1⟩ := hp
    have hP1 : va_P D vwCl [(y, .inr (4, [.int ((j_X2_walk th g kn2 td a1 a2 a3 a4).2.1), .ref n2, .int ((j_X2_walk th g kn2 td a1 a2 a3 a4).2.2.2.1), .int ((j_X2_walk th g kn2 td a1 a2 a3 a4).2.2.2.2)])), (n2, .inl (cJ, 8, .inr (.inl ((j_X2_walk th g kn2 td a1 a2 a3 a4).2.2.1))))] H := hP1
    have hD1 : va_D _ [(y, .inr (4, [.int ((j_X2_walk th g kn2 td a1 a2 a3 a4).2.1), .ref n2, .int ((j_X2_walk th g kn2 td a1 a2 a3 a4).2.2.2.1), .int ((j_X2_walk th g kn2 td a1 a2 a3 a4).2.2.2.2)])), (n2, .inl (cJ, 8, .inr (.inl ((j_X2_walk th g kn2 td a1 a2 a3 a4).2.2.1))))] := hD1
    obtain ⟨hP, hD⟩ := va_join (wr := [(x, .inr (2, [.ref n, .int kn, .int ch])), (n, .inl (cJ, 8, .inr (.inl f))), (o, .inr (3, [.long vn, sr]))]) (wc := [(y, .inr (4, [.int th, .ref n2, .int kn2, .int td])), (n2, .inl (cJ, 8, .inr (.inl g)))]) (w1 := [(y, .inr (4, [.int ((j_X2_walk th g kn2 td a1 a2 a3 a4).2.1), .ref n2, .int ((j_X2_walk th g kn2 td a1 a2 a3 a4).2.2.2.1), .int ((j_X2_walk th g kn2 td a1 a2 a3 a4).2.2.2.2)])), (n2, .inl (cJ, 8, .inr (.inl ((j_X2_walk th g kn2 td a1 a2 a3 a4).2.2.1))))]) hP hD [0, 1] [2, 3, 4] rfl rfl (by decide) (by decide) hk hFc hP1 hD1
    have hP : va_P D vwCl [(x, .inr (2, [.ref n, .int kn, .int ch])), (n, .inl (cJ, 8, .inr (.inl f))), (o, .inr (3, [.long vn, sr])), (y, .inr (4, [.int ((j_X2_walk th g kn2 td a1 a2 a3 a4).2.1), .ref n2, .int ((j_X2_walk th g kn2 td a1 a2 a3 a4).2.2.2.1), .int ((j_X2_walk th g kn2 td a1 a2 a3 a4).2.2.2.2)])), (n2, .inl (cJ, 8, .inr (.inl ((j_X2_walk th g kn2 td a1 a2 a3 a4).2.2.1))))] H := hP
    have hD : va_D A [(x, .inr (2, [.ref n, .int kn, .int ch])), (n, .inl (cJ, 8, .inr (.inl f))), (o, .inr (3, [.long vn, sr])), (y, .inr (4, [.int ((j_X2_walk th g kn2 td a1 a2 a3 a4).2.1), .ref n2, .int ((j_X2_walk th g kn2 td a1 a2 a3 a4).2.2.2.1), .int ((j_X2_walk th g kn2 td a1 a2 a3 a4).2.2.2.2)])), (n2, .inl (cJ, 8, .inr (.inl ((j_X2_walk th g kn2 td a1 a2 a3 a4).2.2.1))))] := hD
    obtain ⟨hth, hI⟩ := (st_walk hI th a1 a2 a3 a4).2 _ hJ9
    refine W.eq (g2 := F0 m 647 ls [.int ((j_X2_walk th g kn2 td a1 a2 a3 a4).1)]) rfl ?_
    refine lv_istore (lv' := [(6, .int ((j_X2_walk th g kn2 td a1 a2 a3 a4).1)), (5, .int (k_cd E9)), (4, .int i), (3, .ref o), (2, .ref y), (1, .ref x), (0, .ref b)]) hx hb dL_law_647 hl (by decide) rfl (fun ls hl => ?_)
    refine lv_goto (tgt := 1162) hx hb dL_law_649 (by decide) ?_
    refine W.widen (k := cells + 100) (n := slots + 8000) (by omega) (by omega) ?_
    exact kk _ _ _ _ _ _ _ _ _ _ _ _ hI (hP.sub [0, 1, 3, 4, 2] rfl) (hD.sub [0, 1, 3, 4, 2] (by decide) rfl) hS (lv_sub hl [2, 3, 4, 5, 6] rfl)
set_option maxHeartbeats 4000000 in
set_option maxRecDepth 100000 in
theorem lc_cut {p : Program} {l : Launch} {e : Env} {s : State} {m : MethodId} {below : List Frame} {meth : Method} {c : Code} {D : va_G} {cB cJ : ClassId} {A : Nat → Prop} {Q : State → Prop} {b L x n y n2 o : Nat} {xs : Nat → Int32} (hl9 : l.stackTraces = false) (hx : p.tables.exec = Jvm.exec) (hb : c.code = code) (hml : c.maxLocals = 7) (hown : s.vm.findClass RL = some m.cls) (hts : ∀ w ∈ wsL_law, w.before #[Value.ref b] s = true) (hE : kE D cB cJ A s s.heap) (hN : kN s) (hA : ∀ q : Nat, s.heap.size ≤ q → A q) (hX : va_X b L xs s s.heap) (hbl : b < s.heap.size) (hbA : ¬ A b) {i : Int32} {a1 : Int32} (hi1 : vp_in (i + 1) L) (ha1 : xs (i + 1).toNatClampNeg = a1) {a2 : Int32} (hi2 : vp_in (i + 2) L) (ha2 : xs (i + 2).toNatClampNeg = a2) {a3 : Int32} (hi3 : vp_in (i + 3) L) (ha3 : xs (i + 3).toNatClampNeg = a3) {a4 : Int32} (hi4 : vp_in (i + 4) L) (ha4 : xs (i + 4).toNatClampNeg = a4) {a5 : Int32} (hi5 : vp_in (i + 5) L) (ha5 : xs (i + 5).toNatClampNeg = a5) {kn ch kn2 td th : Int32} {f g : Nat → Int64} {vn : Int64} {sr : Value} {H : Heap} {locs : List Loc} {cells slots : Nat} {ls : Array Slot} (hc9 : cells + 100 ≤ 747762) (hs9 : slots + 8000 ≤ 6852817) (hI : kInv kn ch f kn2 td g) (hP : va_P D vwCl [(x, .inr (2, [.ref n, .int kn, .int ch])), (n, .inl (cJ, 8, .inr (.inl f))), (y, .inr (4, [.int th, .ref n2, .int kn2, .int td])), (n2, .inl (cJ, 8, .inr (.inl g))), (o, .inr (3, [.long vn, sr]))] H) (hD : va_D A [(x, .inr (2, [.ref n, .int kn, .int ch])), (n, .inl (cJ, 8, .inr (.inl f))), (y, .inr (4, [.int th, .ref n2, .int kn2, .int td])), (n2, .inl (cJ, 8, .inr (.inl g))), (o, .inr (3, [.long vn, sr]))]) (hS : va_S A s.heap H locs) (hl : lv_has ls 7 [(4, .int i), (3, .ref o), (2, .ref y), (1, .ref x), (0, .ref b)]) (kk : ∀ (kn ch kn2 td th : Int32) (f g : Nat → Int64) (vn : Int64) (sr : Value) (H : Heap) (locs : List Loc) (ls : Array Slot), kInv kn ch f kn2 td g → va_P D vwCl [(x, .inr (2, [.ref n, .int kn, .int ch])), (n, .inl (cJ, 8, .inr (.inl f))), (y, .inr (4, [.int th, .ref n2, .int kn2, .int td])), (n2, .inl (cJ, 8, .inr (.inl g))), (o, .inr (3, [.long vn, sr]))] H → va_D A [(x, .inr (2, [.ref n, .int kn, .int ch])), (n, .inl (cJ, 8, .inr (.inl f))), (y, .inr (4, [.int th, .ref n2, .int kn2, .int td])), (n2, .inl (cJ, 8, .inr (.inl g))), (o, .inr (3, [.long vn, sr]))] → va_S A s.heap H locs → lv_has ls 7 [(4, .int i), (3, .ref o), (2, .ref y), (1, .ref x), (0, .ref b)] → W p l e room_1 s m #[Value.ref b] below meth c H locs (cells + 100) (slots + 8000) Q (F0 m 1162 ls [])) : W p l e room_1 s m #[Value.ref b] below meth c H locs cells slots Q (F0 m 652 ls []) := by
  have hK := hE.1
  refine lv_aload_n hx hb dL_law_652 rfl (lv_at hl 3 rfl) ?_
  refine lv_aload_n hx hb dL_law_653 rfl (lv_at hl 4 rfl) ?_
  refine lv_iload hx hb dL_law_654 (lv_at hl 0 rfl) ?_
  refine lv_iconst (v := 1) hx hb dL_law_656 (by decide) ?_
  refine lv_iadd hx hb dL_law_657 ?_
  refine va_sld hx hb hX hbl hbA hS hi1 dL_law_658 ?_
  rw [ha1]
  refine lv_aload_n hx hb dL_law_659 rfl (lv_at hl 4 rfl) ?_
  refine lv_iload hx hb dL_law_660 (lv_at hl 0 rfl) ?_
  refine lv_iconst (v := 2) hx hb dL_law_662 (by decide) ?_
  refine lv_iadd hx hb dL_law_663 ?_
  refine va_sld hx hb hX hbl hbA hS hi2 dL_law_664 ?_
  rw [ha2]
  refine lv_aload_n hx hb dL_law_665 rfl (lv_at hl 1 rfl) ?_
  have hFc := va_free (wc := [(x, .inr (2, [.ref n, .int kn, .int ch])), (n, .inl (cJ, 8, .inr (.inl f))), (o, .inr (3, [.long vn, sr]))]) hD hS hA [0, 1, 4] rfl
  refine kx_go (vx_runSX (As := [.ref x, .int a1, .int a2, .ref o]) (rest := []) ⟨hx, hb, hml, hown, hts⟩ (c_L_cut l hl9 D cB cJ _ x n o kn ch f vn sr a1 a2 (hP.sub [0, 1, 4] rfl) ((hD.sub [0, 1, 4] (by decide) rfl).weaken (fun _ _ _ _ => trivial))) (vx_cwSW 4 hts gL_law_L_cut rfl rfl rfl (by decide +kernel) ⟨(Nat.le_of_ble_eq_true rfl), (Nat.le_of_ble_eq_true rfl)⟩) (k_preSN hE hN hS hFc) rfl rfl hl.1 rfl (lv_room (Nat.le_of_ble_eq_true rfl)) dL_law_666 ⟨by show _ ≤ (747762 : Nat); omega, by show _ ≤ (6852817 : Nat); omega⟩) hS (fun q _ h => hFc q h) hFc (fun E ce q9 H locs hp hz hk hS hce hcv hcl => hp.elim) (fun v H locs hp hz hk hS => ?_)
  rcases hp with ⟨r9, hJ9, rfl, hP1, hD1⟩ | ⟨E9, hJ9, rfl, hP1, hD1⟩
  · have hP1 : va_P D vwCl [(x, .inr (2, [.ref n, .int r9.2.1, .int r9.2.2.1])), (n, .inl (cJ, 8, .inr (.inl r9.2.2.2))), (o, .inr (3, [.long ((fun z : Int32 => z.toInt64) r9.1), sr]))] H := hP1
    have hD1 : va_D _ [(x, .inr (2, [.ref n, .int r9.2.1, .int r9.2.2.1])), (n, .inl (cJ, 8, .inr (.inl r9.2.2.2))), (o, .inr (3, [.long ((fun z : Int32 => z.toInt64) r9.1), sr]))] := hD1
    obtain ⟨hP, hD⟩ := va_join (wr := [(y, .inr (4, [.int th, .ref n2, .int kn2, .int td])), (n2, .inl (cJ, 8, .inr (.inl g)))]) (wc := [(x, .inr (2, [.ref n, .int kn, .int ch])), (n, .inl (cJ, 8, .inr (.inl f))), (o, .inr (3, [.long vn, sr]))]) (w1 := [(x, .inr (2, [.ref n, .int r9.2.1, .int r9.2.2.1])), (n, .inl (cJ, 8, .inr (.inl r9.2.2.2))), (o, .inr (3, [.long ((fun z : Int32 => z.toInt64) r9.1), sr]))]) hP hD [0, 1, 4] [2, 3] rfl rfl (by decide) (by decide) hk hFc hP1 hD1
    have hP : va_P D vwCl [(y, .inr (4, [.int th, .ref n2, .int kn2, .int td])), (n2, .inl (cJ, 8, .inr (.inl g))), (x, .inr (2, [.ref n, .int r9.2.1, .int r9.2.2.1])), (n, .inl (cJ, 8, .inr (.inl r9.2.2.2))), (o, .inr (3, [.long ((fun z : Int32 => z.toInt64) r9.1), sr]))] H := hP
    have hD : va_D A [(y, .inr (4, [.int th, .ref n2, .int kn2, .int td])), (n2, .inl (cJ, 8, .inr (.inl g))), (x, .inr (2, [.ref n, .int r9.2.1, .int r9.2.2.1])), (n, .inl (cJ, 8, .inr (.inl r9.2.2.2))), (o, .inr (3, [.long ((fun z : Int32 => z.toInt64) r9.1), sr]))] := hD
    refine W.eq (g2 := F0 m 669 ls [.int 0]) rfl ?_
    refine lv_istore (lv' := [(5, .int 0), (4, .int i), (3, .ref o), (2, .ref y), (1, .ref x), (0, .ref b)]) hx hb dL_law_669 hl (by decide) rfl (fun ls hl => ?_)
    refine lv_aload_n hx hb dL_law_671 rfl (lv_at hl 3 rfl) ?_
    refine lv_aload_n hx hb dL_law_672 rfl (lv_at hl 5 rfl) ?_
    refine lv_iload hx hb dL_law_673 (lv_at hl 1 rfl) ?_
    refine lv_iconst (v := 1) hx hb dL_law_675 (by decide) ?_
    refine lv_iadd hx hb dL_law_676 ?_
    refine va_sld hx hb hX hbl hbA hS hi1 dL_law_677 ?_
    rw [ha1]
    refine lv_aload_n hx hb dL_law_678 rfl (lv_at hl 5 rfl) ?_
    refine lv_iload hx hb dL_law_679 (lv_at hl 1 rfl) ?_
    refine lv_iconst (v := 2) hx hb dL_law_681 (by decide) ?_
    refine lv_iadd hx hb dL_law_682 ?_
    refine va_sld hx hb hX hbl hbA hS hi2 dL_law_683 ?_
    rw [ha2]
    have hFc := va_free (wc := [(y, .inr (4, [.int th, .ref n2, .int kn2, .int td])), (n2, .inl (cJ, 8, .inr (.inl g)))]) hD hS hA [0, 1] rfl
    have hT9 := tm_cut hI th a1 a2
    refine k_go (va_runV (As := [.int a1, .int a2]) (rest := []) ⟨hx, hb, hml, hown, hts⟩ (c_X2_cut l D cB cJ _ y n2 th g kn2 td (hP.sub [0, 1] rfl) ((hD.sub [0, 1] (by decide) rfl).weaken (fun _ _ _ _ => trivial)) a1 a2 hT9) (cwV 2 hts gL_law_X2_cut rfl rfl rfl (by decide +kernel) ⟨(Nat.le_of_ble_eq_true rfl), (Nat.le_of_ble_eq_true rfl)⟩) (k_preV hE hS hFc (va_recv hK hP (ci := 4) (q0 := 0) rfl rfl)) rfl rfl hl.1 rfl (lv_room (Nat.le_of_ble_eq_true rfl)) dL_law_684 ⟨by show _ ≤ (747762 : Nat); omega, by show _ ≤ (6852817 : Nat); omega⟩) hS (fun q _ h => hFc q h) hFc (fun v H locs hp hz hk hS => ?_)
    obtain ⟨rfl, hP1, hD1⟩ := hp
    have hP1 : va_P D vwCl [(y, .inr (4, [.int ((j_X2_cut th g kn2 td a1 a2).2.1), .ref n2, .int ((j_X2_cut th g kn2 td a1 a2).2.2.2.1), .int ((j_X2_cut th g kn2 td a1 a2).2.2.2.2)])), (n2, .inl (cJ, 8, .inr (.inl ((j_X2_cut th g kn2 td a1 a2).2.2.1))))] H := hP1
    have hD1 : va_D _ [(y, .inr (4, [.int ((j_X2_cut th g kn2 td a1 a2).2.1), .ref n2, .int ((j_X2_cut th g kn2 td a1 a2).2.2.2.1), .int ((j_X2_cut th g kn2 td a1 a2).2.2.2.2)])), (n2, .inl (cJ, 8, .inr (.inl ((j_X2_cut th g kn2 td a1 a2).2.2.1))))] := hD1
    obtain ⟨hP, hD⟩ := va_join (wr := [(x, .inr (2, [.ref n, .int r9.2.1, .int r9.2.2.1])), (n, .inl (cJ, 8, .inr (.inl r9.2.2.2))), (o, .inr (3, [.long ((fun z : Int32 => z.toInt64) r9.1), sr]))]) (wc := [(y, .inr (4, [.int th, .ref n2, .int kn2, .int td])), (n2, .inl (cJ, 8, .inr (.inl g)))]) (w1 := [(y, .inr (4, [.int ((j_X2_cut th g kn2 td a1 a2).2.1), .ref n2, .int ((j_X2_cut th g kn2 td a1 a2).2.2.2.1), .int ((j_X2_cut th g kn2 td a1 a2).2.2.2.2)])), (n2, .inl (cJ, 8, .inr (.inl ((j_X2_cut th g kn2 td a1 a2).2.2.1))))]) hP hD [0, 1] [2, 3, 4] rfl rfl (by decide) (by decide) hk hFc hP1 hD1
    have hP : va_P D vwCl [(x, .inr (2, [.ref n, .int r9.2.1, .int r9.2.2.1])), (n, .inl (cJ, 8, .inr (.inl r9.2.2.2))), (o, .inr (3, [.long ((fun z : Int32 => z.toInt64) r9.1), sr])), (y, .inr (4, [.int ((j_X2_cut th g kn2 td a1 a2).2.1), .ref n2, .int ((j_X2_cut th g kn2 td a1 a2).2.2.2.1), .int ((j_X2_cut th g kn2 td a1 a2).2.2.2.2)])), (n2, .inl (cJ, 8, .inr (.inl ((j_X2_cut th g kn2 td a1 a2).2.2.1))))] H := hP
    have hD : va_D A [(x, .inr (2, [.ref n, .int r9.2.1, .int r9.2.2.1])), (n, .inl (cJ, 8, .inr (.inl r9.2.2.2))), (o, .inr (3, [.long ((fun z : Int32 => z.toInt64) r9.1), sr])), (y, .inr (4, [.int ((j_X2_cut th g kn2 td a1 a2).2.1), .ref n2, .int ((j_X2_cut th g kn2 td a1 a2).2.2.2.1), .int ((j_X2_cut th g kn2 td a1 a2).2.2.2.2)])), (n2, .inl (cJ, 8, .inr (.inl ((j_X2_cut th g kn2 td a1 a2).2.2.1))))] := hD
    obtain ⟨hth, hrv, hI⟩ := (st_cut hI th a1 a2).1 _ hJ9
    refine W.eq (g2 := F0 m 687 ls [.int ((j_X2_cut th g kn2 td a1 a2).1)]) rfl ?_
    refine lv_istore (lv' := [(6, .int ((j_X2_cut th g kn2 td a1 a2).1)), (5, .int 0), (4, .int i), (3, .ref o), (2, .ref y), (1, .ref x), (0, .ref b)]) hx hb dL_law_687 hl (by decide) rfl (fun ls hl => ?_)
    refine lv_goto (tgt := 1162) hx hb dL_law_689 (by decide) ?_
    refine W.widen (k := cells + 100) (n := slots + 8000) (by omega) (by omega) ?_
    exact kk _ _ _ _ _ _ _ _ _ _ _ _ hI (hP.sub [0, 1, 3, 4, 2] rfl) (hD.sub [0, 1, 3, 4, 2] (by decide) rfl) hS (lv_sub hl [2, 3, 4, 5, 6] rfl)
  · have hP1 : va_P D vwCl [(x, .inr (2, [.ref n, .int kn, .int ch])), (n, .inl (cJ, 8, .inr (.inl f))), (o, .inr (3, [.long vn, sr]))] H := hP1
    have hD1 : va_D _ [(x, .inr (2, [.ref n, .int kn, .int ch])), (n, .inl (cJ, 8, .inr (.inl f))), (o, .inr (3, [.long vn, sr]))] := hD1
    obtain ⟨hP, hD⟩ := va_join (wr := [(y, .inr (4, [.int th, .ref n2, .int kn2, .int td])), (n2, .inl (cJ, 8, .inr (.inl g)))]) (wc := [(x, .inr (2, [.ref n, .int kn, .int ch])), (n, .inl (cJ, 8, .inr (.inl f))), (o, .inr (3, [.long vn, sr]))]) (w1 := [(x, .inr (2, [.ref n, .int kn, .int ch])), (n, .inl (cJ, 8, .inr (.inl f))), (o, .inr (3, [.long vn, sr]))]) hP hD [0, 1, 4] [2, 3] rfl rfl (by decide) (by decide) hk hFc hP1 hD1
    have hP : va_P D vwCl [(y, .inr (4, [.int th, .ref n2, .int kn2, .int td])), (n2, .inl (cJ, 8, .inr (.inl g))), (x, .inr (2, [.ref n, .int kn, .int ch])), (n, .inl (cJ, 8, .inr (.inl f))), (o, .inr (3, [.long vn, sr]))] H := hP
    have hD : va_D A [(y, .inr (4, [.int th, .ref n2, .int kn2, .int td])), (n2, .inl (cJ, 8, .inr (.inl g))), (x, .inr (2, [.ref n, .int kn, .int ch])), (n, .inl (cJ, 8, .inr (.inl f))), (o, .inr (3, [.long vn, sr]))] := hD
    refine W.eq (g2 := F0 m 669 ls [.int (k_cd E9)]) rfl ?_
    refine lv_istore (lv' := [(5, .int (k_cd E9)), (4, .int i), (3, .ref o), (2, .ref y), (1, .ref x), (0, .ref b)]) hx hb dL_law_669 hl (by decide) rfl (fun ls hl => ?_)
    refine lv_aload_n hx hb dL_law_671 rfl (lv_at hl 3 rfl) ?_
    refine lv_aload_n hx hb dL_law_672 rfl (lv_at hl 5 rfl) ?_
    refine lv_iload hx hb dL_law_673 (lv_at hl 1 rfl) ?_
    refine lv_iconst (v := 1) hx hb dL_law_675 (by decide) ?_
    refine lv_iadd hx hb dL_law_676 ?_
    refine va_sld hx hb hX hbl hbA hS hi1 dL_law_677 ?_
    rw [ha1]
    refine lv_aload_n hx hb dL_law_678 rfl (lv_at hl 5 rfl) ?_
    refine lv_iload hx hb dL_law_679 (lv_at hl 1 rfl) ?_
    refine lv_iconst (v := 2) hx hb dL_law_681 (by decide) ?_
    refine lv_iadd hx hb dL_law_682 ?_
    refine va_sld hx hb hX hbl hbA hS hi2 dL_law_683 ?_
    rw [ha2]
    have hFc := va_free (wc := [(y, .inr (4, [.int th, .ref n2, .int kn2, .int td])), (n2, .inl (cJ, 8, .inr (.inl g)))]) hD hS hA [0, 1] rfl
    have hT9 := tm_cut hI th a1 a2
    refine k_go (va_runV (As := [.int a1, .int a2]) (rest := []) ⟨hx, hb, hml, hown, hts⟩ (c_X2_cut l D cB cJ _ y n2 th g kn2 td (hP.sub [0, 1] rfl) ((hD.sub [0, 1] (by decide) rfl).weaken (fun _ _ _ _ => trivial)) a1 a2 hT9) (cwV 2 hts gL_law_X2_cut rfl rfl rfl (by decide +kernel) ⟨(Nat.le_of_ble_eq_true rfl), (Nat.le_of_ble_eq_true rfl)⟩) (k_preV hE hS hFc (va_recv hK hP (ci := 4) (q0 := 0) rfl rfl)) rfl rfl hl.1 rfl (lv_room (Nat.le_of_ble_eq_true rfl)) dL_law_684 ⟨by show _ ≤ (747762 : Nat); omega, by show _ ≤ (6852817 : Nat); omega⟩) hS (fun q _ h => hFc q h) hFc (fun v H locs hp hz hk hS => ?_)
    obtain ⟨rfl, hP1, hD1⟩ := hp
    have hP1 : va_P D vwCl [(y, .inr (4, [.int ((j_X2_cut th g kn2 td a1 a2).2.1), .ref n2, .int ((j_X2_cut th g kn2 td a1 a2).2.2.2.1), .int ((j_X2_cut th g kn2 td a1 a2).2.2.2.2)])), (n2, .inl (cJ, 8, .inr (.inl ((j_X2_cut th g kn2 td a1 a2).2.2.1))))] H := hP1
    have hD1 : va_D _ [(y, .inr (4, [.int ((j_X2_cut th g kn2 td a1 a2).2.1), .ref n2, .int ((j_X2_cut th g kn2 td a1 a2).2.2.2.1), .int ((j_X2_cut th g kn2 td a1 a2).2.2.2.2)])), (n2, .inl (cJ, 8, .inr (.inl ((j_X2_cut th g kn2 td a1 a2).2.2.1))))] := hD1
    obtain ⟨hP, hD⟩ := va_join (wr := [(x, .inr (2, [.ref n, .int kn, .int ch])), (n, .inl (cJ, 8, .inr (.inl f))), (o, .inr (3, [.long vn, sr]))]) (wc := [(y, .inr (4, [.int th, .ref n2, .int kn2, .int td])), (n2, .inl (cJ, 8, .inr (.inl g)))]) (w1 := [(y, .inr (4, [.int ((j_X2_cut th g kn2 td a1 a2).2.1), .ref n2, .int ((j_X2_cut th g kn2 td a1 a2).2.2.2.1), .int ((j_X2_cut th g kn2 td a1 a2).2.2.2.2)])), (n2, .inl (cJ, 8, .inr (.inl ((j_X2_cut th g kn2 td a1 a2).2.2.1))))]) hP hD [0, 1] [2, 3, 4] rfl rfl (by decide) (by decide) hk hFc hP1 hD1
    have hP : va_P D vwCl [(x, .inr (2, [.ref n, .int kn, .int ch])), (n, .inl (cJ, 8, .inr (.inl f))), (o, .inr (3, [.long vn, sr])), (y, .inr (4, [.int ((j_X2_cut th g kn2 td a1 a2).2.1), .ref n2, .int ((j_X2_cut th g kn2 td a1 a2).2.2.2.1), .int ((j_X2_cut th g kn2 td a1 a2).2.2.2.2)])), (n2, .inl (cJ, 8, .inr (.inl ((j_X2_cut th g kn2 td a1 a2).2.2.1))))] H := hP
    have hD : va_D A [(x, .inr (2, [.ref n, .int kn, .int ch])), (n, .inl (cJ, 8, .inr (.inl f))), (o, .inr (3, [.long vn, sr])), (y, .inr (4, [.int ((j_X2_cut th g kn2 td a1 a2).2.1), .ref n2, .int ((j_X2_cut th g kn2 td a1 a2).2.2.2.1), .int ((j_X2_cut th g kn2 td a1 a2).2.2.2.2)])), (n2, .inl (cJ, 8, .inr (.inl ((j_X2_cut th g kn2 td a1 a2).2.2.1))))] := hD
    obtain ⟨hth, hI⟩ := (st_cut hI th a1 a2).2 _ hJ9
    refine W.eq (g2 := F0 m 687 ls [.int ((j_X2_cut th g kn2 td a1 a2).1)]) rfl ?_
    refine lv_istore (lv' := [(6, .int ((j_X2_cut th g kn2 td a1 a2).1)), (5, .int (k_cd E9)), (4, .int i), (3, .ref o), (2, .ref y), (1, .ref x), (0, .ref b)]) hx hb dL_law_687 hl (by decide) rfl (fun ls hl => ?_)
    refine lv_goto (tgt := 1162) hx hb dL_law_689 (by decide) ?_
    refine W.widen (k := cells + 100) (n := slots + 8000) (by omega) (by omega) ?_
    exact kk _ _ _ _ _ _ _ _ _ _ _ _ hI (hP.sub [0, 1, 3, 4, 2] rfl) (hD.sub [0, 1, 3, 4, 2] (by decide) rfl) hS (lv_sub hl [2, 3, 4, 5, 6] rfl)
set_option maxHeartbeats 4000000 in
set_option maxRecDepth 100000 in
theorem lc_of {p : Program} {l : Launch} {e : Env} {s : State} {m : MethodId} {below : List Frame} {meth : Method} {c : Code} {D : va_G} {cB cJ : ClassId} {A : Nat → Prop} {Q : State → Prop} {b L x n y n2 o : Nat} {xs : Nat → Int32} (hl9 : l.stackTraces = false) (hx : p.tables.exec = Jvm.exec) (hb : c.code = code) (hml : c.maxLocals = 7) (hown : s.vm.findClass RL = some m.cls) (hts : ∀ w ∈ wsL_law, w.before #[Value.ref b] s = true) (hE : kE D cB cJ A s s.heap) (hN : kN s) (hA : ∀ q : Nat, s.heap.size ≤ q → A q) (hX : va_X b L xs s s.heap) (hbl : b < s.heap.size) (hbA : ¬ A b) {i : Int32} {a1 : Int32} (hi1 : vp_in (i + 1) L) (ha1 : xs (i + 1).toNatClampNeg = a1) {a2 : Int32} (hi2 : vp_in (i + 2) L) (ha2 : xs (i + 2).toNatClampNeg = a2) {a3 : Int32} (hi3 : vp_in (i + 3) L) (ha3 : xs (i + 3).toNatClampNeg = a3) {a4 : Int32} (hi4 : vp_in (i + 4) L) (ha4 : xs (i + 4).toNatClampNeg = a4) {a5 : Int32} (hi5 : vp_in (i + 5) L) (ha5 : xs (i + 5).toNatClampNeg = a5) {kn ch kn2 td th : Int32} {f g : Nat → Int64} {vn : Int64} {sr : Value} {H : Heap} {locs : List Loc} {cells slots : Nat} {ls : Array Slot} (hc9 : cells + 100 ≤ 747762) (hs9 : slots + 8000 ≤ 6852817) (hI : kInv kn ch f kn2 td g) (hP : va_P D vwCl [(x, .inr (2, [.ref n, .int kn, .int ch])), (n, .inl (cJ, 8, .inr (.inl f))), (y, .inr (4, [.int th, .ref n2, .int kn2, .int td])), (n2, .inl (cJ, 8, .inr (.inl g))), (o, .inr (3, [.long vn, sr]))] H) (hD : va_D A [(x, .inr (2, [.ref n, .int kn, .int ch])), (n, .inl (cJ, 8, .inr (.inl f))), (y, .inr (4, [.int th, .ref n2, .int kn2, .int td])), (n2, .inl (cJ, 8, .inr (.inl g))), (o, .inr (3, [.long vn, sr]))]) (hS : va_S A s.heap H locs) (hl : lv_has ls 7 [(4, .int i), (3, .ref o), (2, .ref y), (1, .ref x), (0, .ref b)]) (kk : ∀ (kn ch kn2 td th : Int32) (f g : Nat → Int64) (vn : Int64) (sr : Value) (H : Heap) (locs : List Loc) (ls : Array Slot), kInv kn ch f kn2 td g → va_P D vwCl [(x, .inr (2, [.ref n, .int kn, .int ch])), (n, .inl (cJ, 8, .inr (.inl f))), (y, .inr (4, [.int th, .ref n2, .int kn2, .int td])), (n2, .inl (cJ, 8, .inr (.inl g))), (o, .inr (3, [.long vn, sr]))] H → va_D A [(x, .inr (2, [.ref n, .int kn, .int ch])), (n, .inl (cJ, 8, .inr (.inl f))), (y, .inr (4, [.int th, .ref n2, .int kn2, .int td])), (n2, .inl (cJ, 8, .inr (.inl g))), (o, .inr (3, [.long vn, sr]))] → va_S A s.heap H locs → lv_has ls 7 [(4, .int i), (3, .ref o), (2, .ref y), (1, .ref x), (0, .ref b)] → W p l e room_1 s m #[Value.ref b] below meth c H locs (cells + 100) (slots + 8000) Q (F0 m 1162 ls [])) : W p l e room_1 s m #[Value.ref b] below meth c H locs cells slots Q (F0 m 692 ls []) := by
  have hK := hE.1
  refine lv_aload_n hx hb dL_law_692 rfl (lv_at hl 3 rfl) ?_
  refine lv_aload_n hx hb dL_law_693 rfl (lv_at hl 4 rfl) ?_
  refine lv_iload hx hb dL_law_694 (lv_at hl 0 rfl) ?_
  refine lv_iconst (v := 1) hx hb dL_law_696 (by decide) ?_
  refine lv_iadd hx hb dL_law_697 ?_
  refine va_sld hx hb hX hbl hbA hS hi1 dL_law_698 ?_
  rw [ha1]
  refine lv_aload_n hx hb dL_law_699 rfl (lv_at hl 4 rfl) ?_
  refine lv_iload hx hb dL_law_700 (lv_at hl 0 rfl) ?_
  refine lv_iconst (v := 2) hx hb dL_law_702 (by decide) ?_
  refine lv_iadd hx hb dL_law_703 ?_
  refine va_sld hx hb hX hbl hbA hS hi2 dL_law_704 ?_
  rw [ha2]
  refine lv_aload_n hx hb dL_law_705 rfl (lv_at hl 1 rfl) ?_
  have hFc := va_free (wc := [(x, .inr (2, [.ref n, .int kn, .int ch])), (n, .inl (cJ, 8, .inr (.inl f))), (o, .inr (3, [.long vn, sr]))]) hD hS hA [0, 1, 4] rfl
  refine kx_go (vx_runSX (As := [.ref x, .int a1, .int a2, .ref o]) (rest := []) ⟨hx, hb, hml, hown, hts⟩ (c_L_of l hl9 D cB cJ _ x n o kn ch f vn sr a1 a2 (hP.sub [0, 1, 4] rfl) ((hD.sub [0, 1, 4] (by decide) rfl).weaken (fun _ _ _ _ => trivial))) (vx_cwSW 4 hts gL_law_L_of rfl rfl rfl (by decide +kernel) ⟨(Nat.le_of_ble_eq_true rfl), (Nat.le_of_ble_eq_true rfl)⟩) (k_preSN hE hN hS hFc) rfl rfl hl.1 rfl (lv_room (Nat.le_of_ble_eq_true rfl)) dL_law_706 ⟨by show _ ≤ (747762 : Nat); omega, by show _ ≤ (6852817 : Nat); omega⟩) hS (fun q _ h => hFc q h) hFc (fun E ce q9 H locs hp hz hk hS hce hcv hcl => hp.elim) (fun v H locs hp hz hk hS => ?_)
  rcases hp with ⟨r9, hJ9, rfl, hP1, hD1⟩ | ⟨E9, hJ9, rfl, hP1, hD1⟩
  · have hP1 : va_P D vwCl [(x, .inr (2, [.ref n, .int r9.2.1, .int r9.2.2.1])), (n, .inl (cJ, 8, .inr (.inl r9.2.2.2))), (o, .inr (3, [.long ((fun z : Int32 => z.toInt64) r9.1), sr]))] H := hP1
    have hD1 : va_D _ [(x, .inr (2, [.ref n, .int r9.2.1, .int r9.2.2.1])), (n, .inl (cJ, 8, .inr (.inl r9.2.2.2))), (o, .inr (3, [.long ((fun z : Int32 => z.toInt64) r9.1), sr]))] := hD1
    obtain ⟨hP, hD⟩ := va_join (wr := [(y, .inr (4, [.int th, .ref n2, .int kn2, .int td])), (n2, .inl (cJ, 8, .inr (.inl g)))]) (wc := [(x, .inr (2, [.ref n, .int kn, .int ch])), (n, .inl (cJ, 8, .inr (.inl f))), (o, .inr (3, [.long vn, sr]))]) (w1 := [(x, .inr (2, [.ref n, .int r9.2.1, .int r9.2.2.1])), (n, .inl (cJ, 8, .inr (.inl r9.2.2.2))), (o, .inr (3, [.long ((fun z : Int32 => z.toInt64) r9.1), sr]))]) hP hD [0, 1, 4] [2, 3] rfl rfl (by decide) (by decide) hk hFc hP1 hD1
    have hP : va_P D vwCl [(y, .inr (4, [.int th, .ref n2, .int kn2, .int td])), (n2, .inl (cJ, 8, .inr (.inl g))), (x, .inr (2, [.ref n, .int r9.2.1, .int r9.2.2.1])), (n, .inl (cJ, 8, .inr (.inl r9.2.2.2))), (o, .inr (3, [.long ((fun z : Int32 => z.toInt64) r9.1), sr]))] H := hP
    have hD : va_D A [(y, .inr (4, [.int th, .ref n2, .int kn2, .int td])), (n2, .inl (cJ, 8, .inr (.inl g))), (x, .inr (2, [.ref n, .int r9.2.1, .int r9.2.2.1])), (n, .inl (cJ, 8, .inr (.inl r9.2.2.2))), (o, .inr (3, [.long ((fun z : Int32 => z.toInt64) r9.1), sr]))] := hD
    refine W.eq (g2 := F0 m 709 ls [.int 0]) rfl ?_
    refine lv_istore (lv' := [(5, .int 0), (4, .int i), (3, .ref o), (2, .ref y), (1, .ref x), (0, .ref b)]) hx hb dL_law_709 hl (by decide) rfl (fun ls hl => ?_)
    refine lv_aload_n hx hb dL_law_711 rfl (lv_at hl 3 rfl) ?_
    refine lv_aload_n hx hb dL_law_712 rfl (lv_at hl 5 rfl) ?_
    refine lv_iload hx hb dL_law_713 (lv_at hl 1 rfl) ?_
    refine lv_iconst (v := 1) hx hb dL_law_715 (by decide) ?_
    refine lv_iadd hx hb dL_law_716 ?_
    refine va_sld hx hb hX hbl hbA hS hi1 dL_law_717 ?_
    rw [ha1]
    refine lv_aload_n hx hb dL_law_718 rfl (lv_at hl 5 rfl) ?_
    refine lv_iload hx hb dL_law_719 (lv_at hl 1 rfl) ?_
    refine lv_iconst (v := 2) hx hb dL_law_721 (by decide) ?_
    refine lv_iadd hx hb dL_law_722 ?_
    refine va_sld hx hb hX hbl hbA hS hi2 dL_law_723 ?_
    rw [ha2]
    have hFc := va_free (wc := [(y, .inr (4, [.int th, .ref n2, .int kn2, .int td])), (n2, .inl (cJ, 8, .inr (.inl g)))]) hD hS hA [0, 1] rfl
    have hT9 := tm_of hI th a1 a2
    refine k_go (va_runV (As := [.int a1, .int a2]) (rest := []) ⟨hx, hb, hml, hown, hts⟩ (c_X2_of l D cB cJ _ y n2 th g kn2 td (hP.sub [0, 1] rfl) ((hD.sub [0, 1] (by decide) rfl).weaken (fun _ _ _ _ => trivial)) a1 a2 hT9) (cwV 2 hts gL_law_X2_of rfl rfl rfl (by decide +kernel) ⟨(Nat.le_of_ble_eq_true rfl), (Nat.le_of_ble_eq_true rfl)⟩) (k_preV hE hS hFc (va_recv hK hP (ci := 4) (q0 := 0) rfl rfl)) rfl rfl hl.1 rfl (lv_room (Nat.le_of_ble_eq_true rfl)) dL_law_724 ⟨by show _ ≤ (747762 : Nat); omega, by show _ ≤ (6852817 : Nat); omega⟩) hS (fun q _ h => hFc q h) hFc (fun v H locs hp hz hk hS => ?_)
    obtain ⟨rfl, hP1, hD1⟩ := hp
    have hP1 : va_P D vwCl [(y, .inr (4, [.int ((j_X2_of th g kn2 td a1 a2).2.1), .ref n2, .int ((j_X2_of th g kn2 td a1 a2).2.2.2.1), .int ((j_X2_of th g kn2 td a1 a2).2.2.2.2)])), (n2, .inl (cJ, 8, .inr (.inl ((j_X2_of th g kn2 td a1 a2).2.2.1))))] H := hP1
    have hD1 : va_D _ [(y, .inr (4, [.int ((j_X2_of th g kn2 td a1 a2).2.1), .ref n2, .int ((j_X2_of th g kn2 td a1 a2).2.2.2.1), .int ((j_X2_of th g kn2 td a1 a2).2.2.2.2)])), (n2, .inl (cJ, 8, .inr (.inl ((j_X2_of th g kn2 td a1 a2).2.2.1))))] := hD1
    obtain ⟨hP, hD⟩ := va_join (wr := [(x, .inr (2, [.ref n, .int r9.2.1, .int r9.2.2.1])), (n, .inl (cJ, 8, .inr (.inl r9.2.2.2))), (o, .inr (3, [.long ((fun z : Int32 => z.toInt64) r9.1), sr]))]) (wc := [(y, .inr (4, [.int th, .ref n2, .int kn2, .int td])), (n2, .inl (cJ, 8, .inr (.inl g)))]) (w1 := [(y, .inr (4, [.int ((j_X2_of th g kn2 td a1 a2).2.1), .ref n2, .int ((j_X2_of th g kn2 td a1 a2).2.2.2.1), .int ((j_X2_of th g kn2 td a1 a2).2.2.2.2)])), (n2, .inl (cJ, 8, .inr (.inl ((j_X2_of th g kn2 td a1 a2).2.2.1))))]) hP hD [0, 1] [2, 3, 4] rfl rfl (by decide) (by decide) hk hFc hP1 hD1
    have hP : va_P D vwCl [(x, .inr (2, [.ref n, .int r9.2.1, .int r9.2.2.1])), (n, .inl (cJ, 8, .inr (.inl r9.2.2.2))), (o, .inr (3, [.long ((fun z : Int32 => z.toInt64) r9.1), sr])), (y, .inr (4, [.int ((j_X2_of th g kn2 td a1 a2).2.1), .ref n2, .int ((j_X2_of th g kn2 td a1 a2).2.2.2.1), .int ((j_X2_of th g kn2 td a1 a2).2.2.2.2)])), (n2, .inl (cJ, 8, .inr (.inl ((j_X2_of th g kn2 td a1 a2).2.2.1))))] H := hP
    have hD : va_D A [(x, .inr (2, [.ref n, .int r9.2.1, .int r9.2.2.1])), (n, .inl (cJ, 8, .inr (.inl r9.2.2.2))), (o, .inr (3, [.long ((fun z : Int32 => z.toInt64) r9.1), sr])), (y, .inr (4, [.int ((j_X2_of th g kn2 td a1 a2).2.1), .ref n2, .int ((j_X2_of th g kn2 td a1 a2).2.2.2.1), .int ((j_X2_of th g kn2 td a1 a2).2.2.2.2)])), (n2, .inl (cJ, 8, .inr (.inl ((j_X2_of th g kn2 td a1 a2).2.2.1))))] := hD
    obtain ⟨hth, hrv, hI⟩ := (st_of hI th a1 a2).1 _ hJ9
    refine W.eq (g2 := F0 m 727 ls [.int ((j_X2_of th g kn2 td a1 a2).1)]) rfl ?_
    refine lv_istore (lv' := [(6, .int ((j_X2_of th g kn2 td a1 a2).1)), (5, .int 0), (4, .int i), (3, .ref o), (2, .ref y), (1, .ref x), (0, .ref b)]) hx hb dL_law_727 hl (by decide) rfl (fun ls hl => ?_)
    refine lv_goto (tgt := 1162) hx hb dL_law_729 (by decide) ?_
    refine W.widen (k := cells + 100) (n := slots + 8000) (by omega) (by omega) ?_
    exact kk _ _ _ _ _ _ _ _ _ _ _ _ hI (hP.sub [0, 1, 3, 4, 2] rfl) (hD.sub [0, 1, 3, 4, 2] (by decide) rfl) hS (lv_sub hl [2, 3, 4, 5, 6] rfl)
  · have hP1 : va_P D vwCl [(x, .inr (2, [.ref n, .int kn, .int ch])), (n, .inl (cJ, 8, .inr (.inl f))), (o, .inr (3, [.long vn, sr]))] H := hP1
    have hD1 : va_D _ [(x, .inr (2, [.ref n, .int kn, .int ch])), (n, .inl (cJ, 8, .inr (.inl f))), (o, .inr (3, [.long vn, sr]))] := hD1
    obtain ⟨hP, hD⟩ := va_join (wr := [(y, .inr (4, [.int th, .ref n2, .int kn2, .int td])), (n2, .inl (cJ, 8, .inr (.inl g)))]) (wc := [(x, .inr (2, [.ref n, .int kn, .int ch])), (n, .inl (cJ, 8, .inr (.inl f))), (o, .inr (3, [.long vn, sr]))]) (w1 := [(x, .inr (2, [.ref n, .int kn, .int ch])), (n, .inl (cJ, 8, .inr (.inl f))), (o, .inr (3, [.long vn, sr]))]) hP hD [0, 1, 4] [2, 3] rfl rfl (by decide) (by decide) hk hFc hP1 hD1
    have hP : va_P D vwCl [(y, .inr (4, [.int th, .ref n2, .int kn2, .int td])), (n2, .inl (cJ, 8, .inr (.inl g))), (x, .inr (2, [.ref n, .int kn, .int ch])), (n, .inl (cJ, 8, .inr (.inl f))), (o, .inr (3, [.long vn, sr]))] H := hP
    have hD : va_D A [(y, .inr (4, [.int th, .ref n2, .int kn2, .int td])), (n2, .inl (cJ, 8, .inr (.inl g))), (x, .inr (2, [.ref n, .int kn, .int ch])), (n, .inl (cJ, 8, .inr (.inl f))), (o, .inr (3, [.long vn, sr]))] := hD
    refine W.eq (g2 := F0 m 709 ls [.int (k_cd E9)]) rfl ?_
    refine lv_istore (lv' := [(5, .int (k_cd E9)), (4, .int i), (3, .ref o), (2, .ref y), (1, .ref x), (0, .ref b)]) hx hb dL_law_709 hl (by decide) rfl (fun ls hl => ?_)
    refine lv_aload_n hx hb dL_law_711 rfl (lv_at hl 3 rfl) ?_
    refine lv_aload_n hx hb dL_law_712 rfl (lv_at hl 5 rfl) ?_
    refine lv_iload hx hb dL_law_713 (lv_at hl 1 rfl) ?_
    refine lv_iconst (v := 1) hx hb dL_law_715 (by decide) ?_
    refine lv_iadd hx hb dL_law_716 ?_
    refine va_sld hx hb hX hbl hbA hS hi1 dL_law_717 ?_
    rw [ha1]
    refine lv_aload_n hx hb dL_law_718 rfl (lv_at hl 5 rfl) ?_
    refine lv_iload hx hb dL_law_719 (lv_at hl 1 rfl) ?_
    refine lv_iconst (v := 2) hx hb dL_law_721 (by decide) ?_
    refine lv_iadd hx hb dL_law_722 ?_
    refine va_sld hx hb hX hbl hbA hS hi2 dL_law_723 ?_
    rw [ha2]
    have hFc := va_free (wc := [(y, .inr (4, [.int th, .ref n2, .int kn2, .int td])), (n2, .inl (cJ, 8, .inr (.inl g)))]) hD hS hA [0, 1] rfl
    have hT9 := tm_of hI th a1 a2
    refine k_go (va_runV (As := [.int a1, .int a2]) (rest := []) ⟨hx, hb, hml, hown, hts⟩ (c_X2_of l D cB cJ _ y n2 th g kn2 td (hP.sub [0, 1] rfl) ((hD.sub [0, 1] (by decide) rfl).weaken (fun _ _ _ _ => trivial)) a1 a2 hT9) (cwV 2 hts gL_law_X2_of rfl rfl rfl (by decide +kernel) ⟨(Nat.le_of_ble_eq_true rfl), (Nat.le_of_ble_eq_true rfl)⟩) (k_preV hE hS hFc (va_recv hK hP (ci := 4) (q0 := 0) rfl rfl)) rfl rfl hl.1 rfl (lv_room (Nat.le_of_ble_eq_true rfl)) dL_law_724 ⟨by show _ ≤ (747762 : Nat); omega, by show _ ≤ (6852817 : Nat); omega⟩) hS (fun q _ h => hFc q h) hFc (fun v H locs hp hz hk hS => ?_)
    obtain ⟨rfl, hP1, hD1⟩ := hp
    have hP1 : va_P D vwCl [(y, .inr (4, [.int ((j_X2_of th g kn2 td a1 a2).2.1), .ref n2, .int ((j_X2_of th g kn2 td a1 a2).2.2.2.1), .int ((j_X2_of th g kn2 td a1 a2).2.2.2.2)])), (n2, .inl (cJ, 8, .inr (.inl ((j_X2_of th g kn2 td a1 a2).2.2.1))))] H := hP1
    have hD1 : va_D _ [(y, .inr (4, [.int ((j_X2_of th g kn2 td a1 a2).2.1), .ref n2, .int ((j_X2_of th g kn2 td a1 a2).2.2.2.1), .int ((j_X2_of th g kn2 td a1 a2).2.2.2.2)])), (n2, .inl (cJ, 8, .inr (.inl ((j_X2_of th g kn2 td a1 a2).2.2.1))))] := hD1
    obtain ⟨hP, hD⟩ := va_join (wr := [(x, .inr (2, [.ref n, .int kn, .int ch])), (n, .inl (cJ, 8, .inr (.inl f))), (o, .inr (3, [.long vn, sr]))]) (wc := [(y, .inr (4, [.int th, .ref n2, .int kn2, .int td])), (n2, .inl (cJ, 8, .inr (.inl g)))]) (w1 := [(y, .inr (4, [.int ((j_X2_of th g kn2 td a1 a2).2.1), .ref n2, .int ((j_X2_of th g kn2 td a1 a2).2.2.2.1), .int ((j_X2_of th g kn2 td a1 a2).2.2.2.2)])), (n2, .inl (cJ, 8, .inr (.inl ((j_X2_of th g kn2 td a1 a2).2.2.1))))]) hP hD [0, 1] [2, 3, 4] rfl rfl (by decide) (by decide) hk hFc hP1 hD1
    have hP : va_P D vwCl [(x, .inr (2, [.ref n, .int kn, .int ch])), (n, .inl (cJ, 8, .inr (.inl f))), (o, .inr (3, [.long vn, sr])), (y, .inr (4, [.int ((j_X2_of th g kn2 td a1 a2).2.1), .ref n2, .int ((j_X2_of th g kn2 td a1 a2).2.2.2.1), .int ((j_X2_of th g kn2 td a1 a2).2.2.2.2)])), (n2, .inl (cJ, 8, .inr (.inl ((j_X2_of th g kn2 td a1 a2).2.2.1))))] H := hP
    have hD : va_D A [(x, .inr (2, [.ref n, .int kn, .int ch])), (n, .inl (cJ, 8, .inr (.inl f))), (o, .inr (3, [.long vn, sr])), (y, .inr (4, [.int ((j_X2_of th g kn2 td a1 a2).2.1), .ref n2, .int ((j_X2_of th g kn2 td a1 a2).2.2.2.1), .int ((j_X2_of th g kn2 td a1 a2).2.2.2.2)])), (n2, .inl (cJ, 8, .inr (.inl ((j_X2_of th g kn2 td a1 a2).2.2.1))))] := hD
    obtain ⟨hth, hI⟩ := (st_of hI th a1 a2).2 _ hJ9
    refine W.eq (g2 := F0 m 727 ls [.int ((j_X2_of th g kn2 td a1 a2).1)]) rfl ?_
    refine lv_istore (lv' := [(6, .int ((j_X2_of th g kn2 td a1 a2).1)), (5, .int (k_cd E9)), (4, .int i), (3, .ref o), (2, .ref y), (1, .ref x), (0, .ref b)]) hx hb dL_law_727 hl (by decide) rfl (fun ls hl => ?_)
    refine lv_goto (tgt := 1162) hx hb dL_law_729 (by decide) ?_
    refine W.widen (k := cells + 100) (n := slots + 8000) (by omega) (by omega) ?_
    exact kk _ _ _ _ _ _ _ _ _ _ _ _ hI (hP.sub [0, 1, 3, 4, 2] rfl) (hD.sub [0, 1, 3, 4, 2] (by decide) rfl) hS (lv_sub hl [2, 3, 4, 5, 6] rfl)
set_option maxHeartbeats 4000000 in
set_option maxRecDepth 100000 in
theorem lc_number {p : Program} {l : Launch} {e : Env} {s : State} {m : MethodId} {below : List Frame} {meth : Method} {c : Code} {D : va_G} {cB cJ : ClassId} {A : Nat → Prop} {Q : State → Prop} {b L x n y n2 o : Nat} {xs : Nat → Int32} (hl9 : l.stackTraces = false) (hx : p.tables.exec = Jvm.exec) (hb : c.code = code) (hml : c.maxLocals = 7) (hown : s.vm.findClass RL = some m.cls) (hts : ∀ w ∈ wsL_law, w.before #[Value.ref b] s = true) (hE : kE D cB cJ A s s.heap) (hN : kN s) (hA : ∀ q : Nat, s.heap.size ≤ q → A q) (hX : va_X b L xs s s.heap) (hbl : b < s.heap.size) (hbA : ¬ A b) {i : Int32} {a1 : Int32} (hi1 : vp_in (i + 1) L) (ha1 : xs (i + 1).toNatClampNeg = a1) {a2 : Int32} (hi2 : vp_in (i + 2) L) (ha2 : xs (i + 2).toNatClampNeg = a2) {a3 : Int32} (hi3 : vp_in (i + 3) L) (ha3 : xs (i + 3).toNatClampNeg = a3) {a4 : Int32} (hi4 : vp_in (i + 4) L) (ha4 : xs (i + 4).toNatClampNeg = a4) {a5 : Int32} (hi5 : vp_in (i + 5) L) (ha5 : xs (i + 5).toNatClampNeg = a5) {kn ch kn2 td th : Int32} {f g : Nat → Int64} {vn : Int64} {sr : Value} {H : Heap} {locs : List Loc} {cells slots : Nat} {ls : Array Slot} (hc9 : cells + 100 ≤ 747762) (hs9 : slots + 8000 ≤ 6852817) (hI : kInv kn ch f kn2 td g) (hP : va_P D vwCl [(x, .inr (2, [.ref n, .int kn, .int ch])), (n, .inl (cJ, 8, .inr (.inl f))), (y, .inr (4, [.int th, .ref n2, .int kn2, .int td])), (n2, .inl (cJ, 8, .inr (.inl g))), (o, .inr (3, [.long vn, sr]))] H) (hD : va_D A [(x, .inr (2, [.ref n, .int kn, .int ch])), (n, .inl (cJ, 8, .inr (.inl f))), (y, .inr (4, [.int th, .ref n2, .int kn2, .int td])), (n2, .inl (cJ, 8, .inr (.inl g))), (o, .inr (3, [.long vn, sr]))]) (hS : va_S A s.heap H locs) (hl : lv_has ls 7 [(4, .int i), (3, .ref o), (2, .ref y), (1, .ref x), (0, .ref b)]) (kk : ∀ (kn ch kn2 td th : Int32) (f g : Nat → Int64) (vn : Int64) (sr : Value) (H : Heap) (locs : List Loc) (ls : Array Slot), kInv kn ch f kn2 td g → va_P D vwCl [(x, .inr (2, [.ref n, .int kn, .int ch])), (n, .inl (cJ, 8, .inr (.inl f))), (y, .inr (4, [.int th, .ref n2, .int kn2, .int td])), (n2, .inl (cJ, 8, .inr (.inl g))), (o, .inr (3, [.long vn, sr]))] H → va_D A [(x, .inr (2, [.ref n, .int kn, .int ch])), (n, .inl (cJ, 8, .inr (.inl f))), (y, .inr (4, [.int th, .ref n2, .int kn2, .int td])), (n2, .inl (cJ, 8, .inr (.inl g))), (o, .inr (3, [.long vn, sr]))] → va_S A s.heap H locs → lv_has ls 7 [(4, .int i), (3, .ref o), (2, .ref y), (1, .ref x), (0, .ref b)] → W p l e room_1 s m #[Value.ref b] below meth c H locs (cells + 100) (slots + 8000) Q (F0 m 1162 ls [])) : W p l e room_1 s m #[Value.ref b] below meth c H locs cells slots Q (F0 m 732 ls []) := by
  have hK := hE.1
  refine lv_aload_n hx hb dL_law_732 rfl (lv_at hl 3 rfl) ?_
  refine lv_aload_n hx hb dL_law_733 rfl (lv_at hl 4 rfl) ?_
  refine lv_iload hx hb dL_law_734 (lv_at hl 0 rfl) ?_
  refine lv_iconst (v := 1) hx hb dL_law_736 (by decide) ?_
  refine lv_iadd hx hb dL_law_737 ?_
  refine va_sld hx hb hX hbl hbA hS hi1 dL_law_738 ?_
  rw [ha1]
  refine lv_aload_n hx hb dL_law_739 rfl (lv_at hl 1 rfl) ?_
  have hFc := va_free (wc := [(x, .inr (2, [.ref n, .int kn, .int ch])), (n, .inl (cJ, 8, .inr (.inl f))), (o, .inr (3, [.long vn, sr]))]) hD hS hA [0, 1, 4] rfl
  refine kx_go (vx_runSX (As := [.ref x, .int a1, .ref o]) (rest := []) ⟨hx, hb, hml, hown, hts⟩ (c_L_number l hl9 D cB cJ _ x n o kn ch f vn sr a1 (hP.sub [0, 1, 4] rfl) ((hD.sub [0, 1, 4] (by decide) rfl).weaken (fun _ _ _ _ => trivial))) (vx_cwSW 3 hts gL_law_L_number rfl rfl rfl (by decide +kernel) ⟨(Nat.le_of_ble_eq_true rfl), (Nat.le_of_ble_eq_true rfl)⟩) (k_preSN hE hN hS hFc) rfl rfl hl.1 rfl (lv_room (Nat.le_of_ble_eq_true rfl)) dL_law_740 ⟨by show _ ≤ (747762 : Nat); omega, by show _ ≤ (6852817 : Nat); omega⟩) hS (fun q _ h => hFc q h) hFc (fun E ce q9 H locs hp hz hk hS hce hcv hcl => hp.elim) (fun v H locs hp hz hk hS => ?_)
  rcases hp with ⟨hJ9, rfl, sq9, hP1, hD1⟩ | ⟨E9, hJ9, rfl, hP1, hD1⟩
  · have hP1 : va_P D vwCl [(x, .inr (2, [.ref n, .int kn, .int ch])), (n, .inl (cJ, 8, .inr (.inl f))), (o, .inr (3, [.long vn, .ref sq9]))] H := hP1
    have hD1 : va_D _ [(x, .inr (2, [.ref n, .int kn, .int ch])), (n, .inl (cJ, 8, .inr (.inl f))), (o, .inr (3, [.long vn, .ref sq9]))] := hD1
    obtain ⟨hP, hD⟩ := va_join (wr := [(y, .inr (4, [.int th, .ref n2, .int kn2, .int td])), (n2, .inl (cJ, 8, .inr (.inl g)))]) (wc := [(x, .inr (2, [.ref n, .int kn, .int ch])), (n, .inl (cJ, 8, .inr (.inl f))), (o, .inr (3, [.long vn, sr]))]) (w1 := [(x, .inr (2, [.ref n, .int kn, .int ch])), (n, .inl (cJ, 8, .inr (.inl f))), (o, .inr (3, [.long vn, .ref sq9]))]) hP hD [0, 1, 4] [2, 3] rfl rfl (by decide) (by decide) hk hFc hP1 hD1
    have hP : va_P D vwCl [(y, .inr (4, [.int th, .ref n2, .int kn2, .int td])), (n2, .inl (cJ, 8, .inr (.inl g))), (x, .inr (2, [.ref n, .int kn, .int ch])), (n, .inl (cJ, 8, .inr (.inl f))), (o, .inr (3, [.long vn, .ref sq9]))] H := hP
    have hD : va_D A [(y, .inr (4, [.int th, .ref n2, .int kn2, .int td])), (n2, .inl (cJ, 8, .inr (.inl g))), (x, .inr (2, [.ref n, .int kn, .int ch])), (n, .inl (cJ, 8, .inr (.inl f))), (o, .inr (3, [.long vn, .ref sq9]))] := hD
    refine W.eq (g2 := F0 m 743 ls [.int 0]) rfl ?_
    refine lv_istore (lv' := [(5, .int 0), (4, .int i), (3, .ref o), (2, .ref y), (1, .ref x), (0, .ref b)]) hx hb dL_law_743 hl (by decide) rfl (fun ls hl => ?_)
    refine lv_aload_n hx hb dL_law_745 rfl (lv_at hl 3 rfl) ?_
    refine lv_aload_n hx hb dL_law_746 rfl (lv_at hl 5 rfl) ?_
    refine lv_iload hx hb dL_law_747 (lv_at hl 1 rfl) ?_
    refine lv_iconst (v := 1) hx hb dL_law_749 (by decide) ?_
    refine lv_iadd hx hb dL_law_750 ?_
    refine va_sld hx hb hX hbl hbA hS hi1 dL_law_751 ?_
    rw [ha1]
    have hFc := va_free (wc := [(y, .inr (4, [.int th, .ref n2, .int kn2, .int td])), (n2, .inl (cJ, 8, .inr (.inl g)))]) hD hS hA [0, 1] rfl
    have hT9 := tm_number hI th a1
    refine k_go (va_runV (As := [.int a1]) (rest := []) ⟨hx, hb, hml, hown, hts⟩ (c_X2_number l D cB cJ _ y n2 th g kn2 td a1 (hP.sub [0, 1] rfl) ((hD.sub [0, 1] (by decide) rfl).weaken (fun _ _ _ _ => trivial)) (kInv.inG hI) hT9) (cwV 1 hts gL_law_X2_number rfl rfl rfl (by decide +kernel) ⟨(Nat.le_of_ble_eq_true rfl), (Nat.le_of_ble_eq_true rfl)⟩) (k_preV hE hS hFc (va_recv hK hP (ci := 4) (q0 := 0) rfl rfl)) rfl rfl hl.1 rfl (lv_room (Nat.le_of_ble_eq_true rfl)) dL_law_752 ⟨by show _ ≤ (747762 : Nat); omega, by show _ ≤ (6852817 : Nat); omega⟩) hS (fun q _ h => hFc q h) hFc (fun v H locs hp hz hk hS => ?_)
    obtain ⟨⟨t9, rfl⟩, hP1, hD1⟩ := hp
    have hP1 : va_P D vwCl [(y, .inr (4, [.int (j_X2_number th g kn2 td a1), .ref n2, .int kn2, .int td])), (n2, .inl (cJ, 8, .inr (.inl g)))] H := hP1
    have hD1 : va_D _ [(y, .inr (4, [.int (j_X2_number th g kn2 td a1), .ref n2, .int kn2, .int td])), (n2, .inl (cJ, 8, .inr (.inl g)))] := hD1
    obtain ⟨hP, hD⟩ := va_join (wr := [(x, .inr (2, [.ref n, .int kn, .int ch])), (n, .inl (cJ, 8, .inr (.inl f))), (o, .inr (3, [.long vn, .ref sq9]))]) (wc := [(y, .inr (4, [.int th, .ref n2, .int kn2, .int td])), (n2, .inl (cJ, 8, .inr (.inl g)))]) (w1 := [(y, .inr (4, [.int (j_X2_number th g kn2 td a1), .ref n2, .int kn2, .int td])), (n2, .inl (cJ, 8, .inr (.inl g)))]) hP hD [0, 1] [2, 3, 4] rfl rfl (by decide) (by decide) hk hFc hP1 hD1
    have hP : va_P D vwCl [(x, .inr (2, [.ref n, .int kn, .int ch])), (n, .inl (cJ, 8, .inr (.inl f))), (o, .inr (3, [.long vn, .ref sq9])), (y, .inr (4, [.int (j_X2_number th g kn2 td a1), .ref n2, .int kn2, .int td])), (n2, .inl (cJ, 8, .inr (.inl g)))] H := hP
    have hD : va_D A [(x, .inr (2, [.ref n, .int kn, .int ch])), (n, .inl (cJ, 8, .inr (.inl f))), (o, .inr (3, [.long vn, .ref sq9])), (y, .inr (4, [.int (j_X2_number th g kn2 td a1), .ref n2, .int kn2, .int td])), (n2, .inl (cJ, 8, .inr (.inl g)))] := hD
    have hth := (st_number hI th a1).1 hJ9
    refine W.eq (g2 := F0 m 755 ls [.ref t9]) rfl ?_
    refine lv_astore (lv' := [(6, .ref t9), (5, .int 0), (4, .int i), (3, .ref o), (2, .ref y), (1, .ref x), (0, .ref b)]) hx hb dL_law_755 hl (by decide) rfl (fun ls hl => ?_)
    refine lv_goto (tgt := 1162) hx hb dL_law_757 (by decide) ?_
    refine W.widen (k := cells + 100) (n := slots + 8000) (by omega) (by omega) ?_
    exact kk _ _ _ _ _ _ _ _ _ _ _ _ hI (hP.sub [0, 1, 3, 4, 2] rfl) (hD.sub [0, 1, 3, 4, 2] (by decide) rfl) hS (lv_sub hl [2, 3, 4, 5, 6] rfl)
  · have hP1 : va_P D vwCl [(x, .inr (2, [.ref n, .int kn, .int ch])), (n, .inl (cJ, 8, .inr (.inl f))), (o, .inr (3, [.long vn, sr]))] H := hP1
    have hD1 : va_D _ [(x, .inr (2, [.ref n, .int kn, .int ch])), (n, .inl (cJ, 8, .inr (.inl f))), (o, .inr (3, [.long vn, sr]))] := hD1
    obtain ⟨hP, hD⟩ := va_join (wr := [(y, .inr (4, [.int th, .ref n2, .int kn2, .int td])), (n2, .inl (cJ, 8, .inr (.inl g)))]) (wc := [(x, .inr (2, [.ref n, .int kn, .int ch])), (n, .inl (cJ, 8, .inr (.inl f))), (o, .inr (3, [.long vn, sr]))]) (w1 := [(x, .inr (2, [.ref n, .int kn, .int ch])), (n, .inl (cJ, 8, .inr (.inl f))), (o, .inr (3, [.long vn, sr]))]) hP hD [0, 1, 4] [2, 3] rfl rfl (by decide) (by decide) hk hFc hP1 hD1
    have hP : va_P D vwCl [(y, .inr (4, [.int th, .ref n2, .int kn2, .int td])), (n2, .inl (cJ, 8, .inr (.inl g))), (x, .inr (2, [.ref n, .int kn, .int ch])), (n, .inl (cJ, 8, .inr (.inl f))), (o, .inr (3, [.long vn, sr]))] H := hP
    have hD : va_D A [(y, .inr (4, [.int th, .ref n2, .int kn2, .int td])), (n2, .inl (cJ, 8, .inr (.inl g))), (x, .inr (2, [.ref n, .int kn, .int ch])), (n, .inl (cJ, 8, .inr (.inl f))), (o, .inr (3, [.long vn, sr]))] := hD
    refine W.eq (g2 := F0 m 743 ls [.int (k_cd E9)]) rfl ?_
    refine lv_istore (lv' := [(5, .int (k_cd E9)), (4, .int i), (3, .ref o), (2, .ref y), (1, .ref x), (0, .ref b)]) hx hb dL_law_743 hl (by decide) rfl (fun ls hl => ?_)
    refine lv_aload_n hx hb dL_law_745 rfl (lv_at hl 3 rfl) ?_
    refine lv_aload_n hx hb dL_law_746 rfl (lv_at hl 5 rfl) ?_
    refine lv_iload hx hb dL_law_747 (lv_at hl 1 rfl) ?_
    refine lv_iconst (v := 1) hx hb dL_law_749 (by decide) ?_
    refine lv_iadd hx hb dL_law_750 ?_
    refine va_sld hx hb hX hbl hbA hS hi1 dL_law_751 ?_
    rw [ha1]
    have hFc := va_free (wc := [(y, .inr (4, [.int th, .ref n2, .int kn2, .int td])), (n2, .inl (cJ, 8, .inr (.inl g)))]) hD hS hA [0, 1] rfl
    have hT9 := tm_number hI th a1
    refine k_go (va_runV (As := [.int a1]) (rest := []) ⟨hx, hb, hml, hown, hts⟩ (c_X2_number l D cB cJ _ y n2 th g kn2 td a1 (hP.sub [0, 1] rfl) ((hD.sub [0, 1] (by decide) rfl).weaken (fun _ _ _ _ => trivial)) (kInv.inG hI) hT9) (cwV 1 hts gL_law_X2_number rfl rfl rfl (by decide +kernel) ⟨(Nat.le_of_ble_eq_true rfl), (Nat.le_of_ble_eq_true rfl)⟩) (k_preV hE hS hFc (va_recv hK hP (ci := 4) (q0 := 0) rfl rfl)) rfl rfl hl.1 rfl (lv_room (Nat.le_of_ble_eq_true rfl)) dL_law_752 ⟨by show _ ≤ (747762 : Nat); omega, by show _ ≤ (6852817 : Nat); omega⟩) hS (fun q _ h => hFc q h) hFc (fun v H locs hp hz hk hS => ?_)
    obtain ⟨⟨t9, rfl⟩, hP1, hD1⟩ := hp
    have hP1 : va_P D vwCl [(y, .inr (4, [.int (j_X2_number th g kn2 td a1), .ref n2, .int kn2, .int td])), (n2, .inl (cJ, 8, .inr (.inl g)))] H := hP1
    have hD1 : va_D _ [(y, .inr (4, [.int (j_X2_number th g kn2 td a1), .ref n2, .int kn2, .int td])), (n2, .inl (cJ, 8, .inr (.inl g)))] := hD1
    obtain ⟨hP, hD⟩ := va_join (wr := [(x, .inr (2, [.ref n, .int kn, .int ch])), (n, .inl (cJ, 8, .inr (.inl f))), (o, .inr (3, [.long vn, sr]))]) (wc := [(y, .inr (4, [.int th, .ref n2, .int kn2, .int td])), (n2, .inl (cJ, 8, .inr (.inl g)))]) (w1 := [(y, .inr (4, [.int (j_X2_number th g kn2 td a1), .ref n2, .int kn2, .int td])), (n2, .inl (cJ, 8, .inr (.inl g)))]) hP hD [0, 1] [2, 3, 4] rfl rfl (by decide) (by decide) hk hFc hP1 hD1
    have hP : va_P D vwCl [(x, .inr (2, [.ref n, .int kn, .int ch])), (n, .inl (cJ, 8, .inr (.inl f))), (o, .inr (3, [.long vn, sr])), (y, .inr (4, [.int (j_X2_number th g kn2 td a1), .ref n2, .int kn2, .int td])), (n2, .inl (cJ, 8, .inr (.inl g)))] H := hP
    have hD : va_D A [(x, .inr (2, [.ref n, .int kn, .int ch])), (n, .inl (cJ, 8, .inr (.inl f))), (o, .inr (3, [.long vn, sr])), (y, .inr (4, [.int (j_X2_number th g kn2 td a1), .ref n2, .int kn2, .int td])), (n2, .inl (cJ, 8, .inr (.inl g)))] := hD
    have hth := (st_number hI th a1).2 _ hJ9
    refine W.eq (g2 := F0 m 755 ls [.ref t9]) rfl ?_
    refine lv_astore (lv' := [(6, .ref t9), (5, .int (k_cd E9)), (4, .int i), (3, .ref o), (2, .ref y), (1, .ref x), (0, .ref b)]) hx hb dL_law_755 hl (by decide) rfl (fun ls hl => ?_)
    refine lv_goto (tgt := 1162) hx hb dL_law_757 (by decide) ?_
    refine W.widen (k := cells + 100) (n := slots + 8000) (by omega) (by omega) ?_
    exact kk _ _ _ _ _ _ _ _ _ _ _ _ hI (hP.sub [0, 1, 3, 4, 2] rfl) (hD.sub [0, 1, 3, 4, 2] (by decide) rfl) hS (lv_sub hl [2, 3, 4, 5, 6] rfl)
set_option maxHeartbeats 4000000 in
set_option maxRecDepth 100000 in
theorem lc_text {p : Program} {l : Launch} {e : Env} {s : State} {m : MethodId} {below : List Frame} {meth : Method} {c : Code} {D : va_G} {cB cJ : ClassId} {A : Nat → Prop} {Q : State → Prop} {b L x n y n2 o : Nat} {xs : Nat → Int32} (hl9 : l.stackTraces = false) (hx : p.tables.exec = Jvm.exec) (hb : c.code = code) (hml : c.maxLocals = 7) (hown : s.vm.findClass RL = some m.cls) (hts : ∀ w ∈ wsL_law, w.before #[Value.ref b] s = true) (hE : kE D cB cJ A s s.heap) (hN : kN s) (hA : ∀ q : Nat, s.heap.size ≤ q → A q) (hX : va_X b L xs s s.heap) (hbl : b < s.heap.size) (hbA : ¬ A b) {i : Int32} {a1 : Int32} (hi1 : vp_in (i + 1) L) (ha1 : xs (i + 1).toNatClampNeg = a1) {a2 : Int32} (hi2 : vp_in (i + 2) L) (ha2 : xs (i + 2).toNatClampNeg = a2) {a3 : Int32} (hi3 : vp_in (i + 3) L) (ha3 : xs (i + 3).toNatClampNeg = a3) {a4 : Int32} (hi4 : vp_in (i + 4) L) (ha4 : xs (i + 4).toNatClampNeg = a4) {a5 : Int32} (hi5 : vp_in (i + 5) L) (ha5 : xs (i + 5).toNatClampNeg = a5) {kn ch kn2 td th : Int32} {f g : Nat → Int64} {vn : Int64} {sr : Value} {H : Heap} {locs : List Loc} {cells slots : Nat} {ls : Array Slot} (hc9 : cells + 100 ≤ 747762) (hs9 : slots + 8000 ≤ 6852817) (hI : kInv kn ch f kn2 td g) (hP : va_P D vwCl [(x, .inr (2, [.ref n, .int kn, .int ch])), (n, .inl (cJ, 8, .inr (.inl f))), (y, .inr (4, [.int th, .ref n2, .int kn2, .int td])), (n2, .inl (cJ, 8, .inr (.inl g))), (o, .inr (3, [.long vn, sr]))] H) (hD : va_D A [(x, .inr (2, [.ref n, .int kn, .int ch])), (n, .inl (cJ, 8, .inr (.inl f))), (y, .inr (4, [.int th, .ref n2, .int kn2, .int td])), (n2, .inl (cJ, 8, .inr (.inl g))), (o, .inr (3, [.long vn, sr]))]) (hS : va_S A s.heap H locs) (hl : lv_has ls 7 [(4, .int i), (3, .ref o), (2, .ref y), (1, .ref x), (0, .ref b)]) (kk : ∀ (kn ch kn2 td th : Int32) (f g : Nat → Int64) (vn : Int64) (sr : Value) (H : Heap) (locs : List Loc) (ls : Array Slot), kInv kn ch f kn2 td g → va_P D vwCl [(x, .inr (2, [.ref n, .int kn, .int ch])), (n, .inl (cJ, 8, .inr (.inl f))), (y, .inr (4, [.int th, .ref n2, .int kn2, .int td])), (n2, .inl (cJ, 8, .inr (.inl g))), (o, .inr (3, [.long vn, sr]))] H → va_D A [(x, .inr (2, [.ref n, .int kn, .int ch])), (n, .inl (cJ, 8, .inr (.inl f))), (y, .inr (4, [.int th, .ref n2, .int kn2, .int td])), (n2, .inl (cJ, 8, .inr (.inl g))), (o, .inr (3, [.long vn, sr]))] → va_S A s.heap H locs → lv_has ls 7 [(4, .int i), (3, .ref o), (2, .ref y), (1, .ref x), (0, .ref b)] → W p l e room_1 s m #[Value.ref b] below meth c H locs (cells + 100) (slots + 8000) Q (F0 m 1162 ls [])) : W p l e room_1 s m #[Value.ref b] below meth c H locs cells slots Q (F0 m 760 ls []) := by
  have hK := hE.1
  refine lv_aload_n hx hb dL_law_760 rfl (lv_at hl 3 rfl) ?_
  refine lv_aload_n hx hb dL_law_761 rfl (lv_at hl 4 rfl) ?_
  refine lv_iload hx hb dL_law_762 (lv_at hl 0 rfl) ?_
  refine lv_iconst (v := 1) hx hb dL_law_764 (by decide) ?_
  refine lv_iadd hx hb dL_law_765 ?_
  refine va_sld hx hb hX hbl hbA hS hi1 dL_law_766 ?_
  rw [ha1]
  refine lv_aload_n hx hb dL_law_767 rfl (lv_at hl 1 rfl) ?_
  have hFc := va_free (wc := [(x, .inr (2, [.ref n, .int kn, .int ch])), (n, .inl (cJ, 8, .inr (.inl f))), (o, .inr (3, [.long vn, sr]))]) hD hS hA [0, 1, 4] rfl
  refine kx_go (vx_runSX (As := [.ref x, .int a1, .ref o]) (rest := []) ⟨hx, hb, hml, hown, hts⟩ (c_L_text l hl9 D cB cJ _ x n o kn ch f vn sr a1 (hP.sub [0, 1, 4] rfl) ((hD.sub [0, 1, 4] (by decide) rfl).weaken (fun _ _ _ _ => trivial)) hI.2.2.2) (vx_cwSW 3 hts gL_law_L_text rfl rfl rfl (by decide +kernel) ⟨(Nat.le_of_ble_eq_true rfl), (Nat.le_of_ble_eq_true rfl)⟩) (k_preSN hE hN hS hFc) rfl rfl hl.1 rfl (lv_room (Nat.le_of_ble_eq_true rfl)) dL_law_768 ⟨by show _ ≤ (747762 : Nat); omega, by show _ ≤ (6852817 : Nat); omega⟩) hS (fun q _ h => hFc q h) hFc (fun E ce q9 H locs hp hz hk hS hce hcv hcl => hp.elim) (fun v H locs hp hz hk hS => ?_)
  rcases hp with ⟨hJ9, rfl, sq9, hP1, hD1⟩ | ⟨E9, hJ9, rfl, hP1, hD1⟩
  · have hP1 : va_P D vwCl [(x, .inr (2, [.ref n, .int kn, .int ch])), (n, .inl (cJ, 8, .inr (.inl f))), (o, .inr (3, [.long vn, .ref sq9]))] H := hP1
    have hD1 : va_D _ [(x, .inr (2, [.ref n, .int kn, .int ch])), (n, .inl (cJ, 8, .inr (.inl f))), (o, .inr (3, [.long vn, .ref sq9]))] := hD1
    obtain ⟨hP, hD⟩ := va_join (wr := [(y, .inr (4, [.int th, .ref n2, .int kn2, .int td])), (n2, .inl (cJ, 8, .inr (.inl g)))]) (wc := [(x, .inr (2, [.ref n, .int kn, .int ch])), (n, .inl (cJ, 8, .inr (.inl f))), (o, .inr (3, [.long vn, sr]))]) (w1 := [(x, .inr (2, [.ref n, .int kn, .int ch])), (n, .inl (cJ, 8, .inr (.inl f))), (o, .inr (3, [.long vn, .ref sq9]))]) hP hD [0, 1, 4] [2, 3] rfl rfl (by decide) (by decide) hk hFc hP1 hD1
    have hP : va_P D vwCl [(y, .inr (4, [.int th, .ref n2, .int kn2, .int td])), (n2, .inl (cJ, 8, .inr (.inl g))), (x, .inr (2, [.ref n, .int kn, .int ch])), (n, .inl (cJ, 8, .inr (.inl f))), (o, .inr (3, [.long vn, .ref sq9]))] H := hP
    have hD : va_D A [(y, .inr (4, [.int th, .ref n2, .int kn2, .int td])), (n2, .inl (cJ, 8, .inr (.inl g))), (x, .inr (2, [.ref n, .int kn, .int ch])), (n, .inl (cJ, 8, .inr (.inl f))), (o, .inr (3, [.long vn, .ref sq9]))] := hD
    refine W.eq (g2 := F0 m 771 ls [.int 0]) rfl ?_
    refine lv_istore (lv' := [(5, .int 0), (4, .int i), (3, .ref o), (2, .ref y), (1, .ref x), (0, .ref b)]) hx hb dL_law_771 hl (by decide) rfl (fun ls hl => ?_)
    refine lv_aload_n hx hb dL_law_773 rfl (lv_at hl 3 rfl) ?_
    refine lv_aload_n hx hb dL_law_774 rfl (lv_at hl 5 rfl) ?_
    refine lv_iload hx hb dL_law_775 (lv_at hl 1 rfl) ?_
    refine lv_iconst (v := 1) hx hb dL_law_777 (by decide) ?_
    refine lv_iadd hx hb dL_law_778 ?_
    refine va_sld hx hb hX hbl hbA hS hi1 dL_law_779 ?_
    rw [ha1]
    have hFc := va_free (wc := [(y, .inr (4, [.int th, .ref n2, .int kn2, .int td])), (n2, .inl (cJ, 8, .inr (.inl g)))]) hD hS hA [0, 1] rfl
    have hT9 := tm_text hI th a1
    refine k_go (va_runV (As := [.int a1]) (rest := []) ⟨hx, hb, hml, hown, hts⟩ (c_X2_text l D cB cJ _ y n2 th g kn2 td a1 (hP.sub [0, 1] rfl) ((hD.sub [0, 1] (by decide) rfl).weaken (fun _ _ _ _ => trivial)) (kInv.inG hI) hT9) (cwV 1 hts gL_law_X2_text rfl rfl rfl (by decide +kernel) ⟨(Nat.le_of_ble_eq_true rfl), (Nat.le_of_ble_eq_true rfl)⟩) (k_preV hE hS hFc (va_recv hK hP (ci := 4) (q0 := 0) rfl rfl)) rfl rfl hl.1 rfl (lv_room (Nat.le_of_ble_eq_true rfl)) dL_law_780 ⟨by show _ ≤ (747762 : Nat); omega, by show _ ≤ (6852817 : Nat); omega⟩) hS (fun q _ h => hFc q h) hFc (fun v H locs hp hz hk hS => ?_)
    obtain ⟨⟨t9, rfl⟩, hP1, hD1⟩ := hp
    have hP1 : va_P D vwCl [(y, .inr (4, [.int (j_X2_text th g kn2 td a1), .ref n2, .int kn2, .int td])), (n2, .inl (cJ, 8, .inr (.inl g)))] H := hP1
    have hD1 : va_D _ [(y, .inr (4, [.int (j_X2_text th g kn2 td a1), .ref n2, .int kn2, .int td])), (n2, .inl (cJ, 8, .inr (.inl g)))] := hD1
    obtain ⟨hP, hD⟩ := va_join (wr := [(x, .inr (2, [.ref n, .int kn, .int ch])), (n, .inl (cJ, 8, .inr (.inl f))), (o, .inr (3, [.long vn, .ref sq9]))]) (wc := [(y, .inr (4, [.int th, .ref n2, .int kn2, .int td])), (n2, .inl (cJ, 8, .inr (.inl g)))]) (w1 := [(y, .inr (4, [.int (j_X2_text th g kn2 td a1), .ref n2, .int kn2, .int td])), (n2, .inl (cJ, 8, .inr (.inl g)))]) hP hD [0, 1] [2, 3, 4] rfl rfl (by decide) (by decide) hk hFc hP1 hD1
    have hP : va_P D vwCl [(x, .inr (2, [.ref n, .int kn, .int ch])), (n, .inl (cJ, 8, .inr (.inl f))), (o, .inr (3, [.long vn, .ref sq9])), (y, .inr (4, [.int (j_X2_text th g kn2 td a1), .ref n2, .int kn2, .int td])), (n2, .inl (cJ, 8, .inr (.inl g)))] H := hP
    have hD : va_D A [(x, .inr (2, [.ref n, .int kn, .int ch])), (n, .inl (cJ, 8, .inr (.inl f))), (o, .inr (3, [.long vn, .ref sq9])), (y, .inr (4, [.int (j_X2_text th g kn2 td a1), .ref n2, .int kn2, .int td])), (n2, .inl (cJ, 8, .inr (.inl g)))] := hD
    have hth := (st_text hI th a1).1 hJ9
    refine W.eq (g2 := F0 m 783 ls [.ref t9]) rfl ?_
    refine lv_astore (lv' := [(6, .ref t9), (5, .int 0), (4, .int i), (3, .ref o), (2, .ref y), (1, .ref x), (0, .ref b)]) hx hb dL_law_783 hl (by decide) rfl (fun ls hl => ?_)
    refine lv_goto (tgt := 1162) hx hb dL_law_785 (by decide) ?_
    refine W.widen (k := cells + 100) (n := slots + 8000) (by omega) (by omega) ?_
    exact kk _ _ _ _ _ _ _ _ _ _ _ _ hI (hP.sub [0, 1, 3, 4, 2] rfl) (hD.sub [0, 1, 3, 4, 2] (by decide) rfl) hS (lv_sub hl [2, 3, 4, 5, 6] rfl)
  · have hP1 : va_P D vwCl [(x, .inr (2, [.ref n, .int kn, .int ch])), (n, .inl (cJ, 8, .inr (.inl f))), (o, .inr (3, [.long vn, sr]))] H := hP1
    have hD1 : va_D _ [(x, .inr (2, [.ref n, .int kn, .int ch])), (n, .inl (cJ, 8, .inr (.inl f))), (o, .inr (3, [.long vn, sr]))] := hD1
    obtain ⟨hP, hD⟩ := va_join (wr := [(y, .inr (4, [.int th, .ref n2, .int kn2, .int td])), (n2, .inl (cJ, 8, .inr (.inl g)))]) (wc := [(x, .inr (2, [.ref n, .int kn, .int ch])), (n, .inl (cJ, 8, .inr (.inl f))), (o, .inr (3, [.long vn, sr]))]) (w1 := [(x, .inr (2, [.ref n, .int kn, .int ch])), (n, .inl (cJ, 8, .inr (.inl f))), (o, .inr (3, [.long vn, sr]))]) hP hD [0, 1, 4] [2, 3] rfl rfl (by decide) (by decide) hk hFc hP1 hD1
    have hP : va_P D vwCl [(y, .inr (4, [.int th, .ref n2, .int kn2, .int td])), (n2, .inl (cJ, 8, .inr (.inl g))), (x, .inr (2, [.ref n, .int kn, .int ch])), (n, .inl (cJ, 8, .inr (.inl f))), (o, .inr (3, [.long vn, sr]))] H := hP
    have hD : va_D A [(y, .inr (4, [.int th, .ref n2, .int kn2, .int td])), (n2, .inl (cJ, 8, .inr (.inl g))), (x, .inr (2, [.ref n, .int kn, .int ch])), (n, .inl (cJ, 8, .inr (.inl f))), (o, .inr (3, [.long vn, sr]))] := hD
    refine W.eq (g2 := F0 m 771 ls [.int (k_cd E9)]) rfl ?_
    refine lv_istore (lv' := [(5, .int (k_cd E9)), (4, .int i), (3, .ref o), (2, .ref y), (1, .ref x), (0, .ref b)]) hx hb dL_law_771 hl (by decide) rfl (fun ls hl => ?_)
    refine lv_aload_n hx hb dL_law_773 rfl (lv_at hl 3 rfl) ?_
    refine lv_aload_n hx hb dL_law_774 rfl (lv_at hl 5 rfl) ?_
    refine lv_iload hx hb dL_law_775 (lv_at hl 1 rfl) ?_
    refine lv_iconst (v := 1) hx hb dL_law_777 (by decide) ?_
    refine lv_iadd hx hb dL_law_778 ?_
    refine va_sld hx hb hX hbl hbA hS hi1 dL_law_779 ?_
    rw [ha1]
    have hFc := va_free (wc := [(y, .inr (4, [.int th, .ref n2, .int kn2, .int td])), (n2, .inl (cJ, 8, .inr (.inl g)))]) hD hS hA [0, 1] rfl
    have hT9 := tm_text hI th a1
    refine k_go (va_runV (As := [.int a1]) (rest := []) ⟨hx, hb, hml, hown, hts⟩ (c_X2_text l D cB cJ _ y n2 th g kn2 td a1 (hP.sub [0, 1] rfl) ((hD.sub [0, 1] (by decide) rfl).weaken (fun _ _ _ _ => trivial)) (kInv.inG hI) hT9) (cwV 1 hts gL_law_X2_text rfl rfl rfl (by decide +kernel) ⟨(Nat.le_of_ble_eq_true rfl), (Nat.le_of_ble_eq_true rfl)⟩) (k_preV hE hS hFc (va_recv hK hP (ci := 4) (q0 := 0) rfl rfl)) rfl rfl hl.1 rfl (lv_room (Nat.le_of_ble_eq_true rfl)) dL_law_780 ⟨by show _ ≤ (747762 : Nat); omega, by show _ ≤ (6852817 : Nat); omega⟩) hS (fun q _ h => hFc q h) hFc (fun v H locs hp hz hk hS => ?_)
    obtain ⟨⟨t9, rfl⟩, hP1, hD1⟩ := hp
    have hP1 : va_P D vwCl [(y, .inr (4, [.int (j_X2_text th g kn2 td a1), .ref n2, .int kn2, .int td])), (n2, .inl (cJ, 8, .inr (.inl g)))] H := hP1
    have hD1 : va_D _ [(y, .inr (4, [.int (j_X2_text th g kn2 td a1), .ref n2, .int kn2, .int td])), (n2, .inl (cJ, 8, .inr (.inl g)))] := hD1
    obtain ⟨hP, hD⟩ := va_join (wr := [(x, .inr (2, [.ref n, .int kn, .int ch])), (n, .inl (cJ, 8, .inr (.inl f))), (o, .inr (3, [.long vn, sr]))]) (wc := [(y, .inr (4, [.int th, .ref n2, .int kn2, .int td])), (n2, .inl (cJ, 8, .inr (.inl g)))]) (w1 := [(y, .inr (4, [.int (j_X2_text th g kn2 td a1), .ref n2, .int kn2, .int td])), (n2, .inl (cJ, 8, .inr (.inl g)))]) hP hD [0, 1] [2, 3, 4] rfl rfl (by decide) (by decide) hk hFc hP1 hD1
    have hP : va_P D vwCl [(x, .inr (2, [.ref n, .int kn, .int ch])), (n, .inl (cJ, 8, .inr (.inl f))), (o, .inr (3, [.long vn, sr])), (y, .inr (4, [.int (j_X2_text th g kn2 td a1), .ref n2, .int kn2, .int td])), (n2, .inl (cJ, 8, .inr (.inl g)))] H := hP
    have hD : va_D A [(x, .inr (2, [.ref n, .int kn, .int ch])), (n, .inl (cJ, 8, .inr (.inl f))), (o, .inr (3, [.long vn, sr])), (y, .inr (4, [.int (j_X2_text th g kn2 td a1), .ref n2, .int kn2, .int td])), (n2, .inl (cJ, 8, .inr (.inl g)))] := hD
    have hth := (st_text hI th a1).2 _ hJ9
    refine W.eq (g2 := F0 m 783 ls [.ref t9]) rfl ?_
    refine lv_astore (lv' := [(6, .ref t9), (5, .int (k_cd E9)), (4, .int i), (3, .ref o), (2, .ref y), (1, .ref x), (0, .ref b)]) hx hb dL_law_783 hl (by decide) rfl (fun ls hl => ?_)
    refine lv_goto (tgt := 1162) hx hb dL_law_785 (by decide) ?_
    refine W.widen (k := cells + 100) (n := slots + 8000) (by omega) (by omega) ?_
    exact kk _ _ _ _ _ _ _ _ _ _ _ _ hI (hP.sub [0, 1, 3, 4, 2] rfl) (hD.sub [0, 1, 3, 4, 2] (by decide) rfl) hS (lv_sub hl [2, 3, 4, 5, 6] rfl)
set_option maxHeartbeats 4000000 in
set_option maxRecDepth 100000 in
theorem lc_beyond {p : Program} {l : Launch} {e : Env} {s : State} {m : MethodId} {below : List Frame} {meth : Method} {c : Code} {D : va_G} {cB cJ : ClassId} {A : Nat → Prop} {Q : State → Prop} {b L x n y n2 o : Nat} {xs : Nat → Int32} (hl9 : l.stackTraces = false) (hx : p.tables.exec = Jvm.exec) (hb : c.code = code) (hml : c.maxLocals = 7) (hown : s.vm.findClass RL = some m.cls) (hts : ∀ w ∈ wsL_law, w.before #[Value.ref b] s = true) (hE : kE D cB cJ A s s.heap) (hN : kN s) (hA : ∀ q : Nat, s.heap.size ≤ q → A q) (hX : va_X b L xs s s.heap) (hbl : b < s.heap.size) (hbA : ¬ A b) {i : Int32} {a1 : Int32} (hi1 : vp_in (i + 1) L) (ha1 : xs (i + 1).toNatClampNeg = a1) {a2 : Int32} (hi2 : vp_in (i + 2) L) (ha2 : xs (i + 2).toNatClampNeg = a2) {a3 : Int32} (hi3 : vp_in (i + 3) L) (ha3 : xs (i + 3).toNatClampNeg = a3) {a4 : Int32} (hi4 : vp_in (i + 4) L) (ha4 : xs (i + 4).toNatClampNeg = a4) {a5 : Int32} (hi5 : vp_in (i + 5) L) (ha5 : xs (i + 5).toNatClampNeg = a5) {kn ch kn2 td th : Int32} {f g : Nat → Int64} {vn : Int64} {sr : Value} {H : Heap} {locs : List Loc} {cells slots : Nat} {ls : Array Slot} (hc9 : cells + 100 ≤ 747762) (hs9 : slots + 8000 ≤ 6852817) (hI : kInv kn ch f kn2 td g) (hP : va_P D vwCl [(x, .inr (2, [.ref n, .int kn, .int ch])), (n, .inl (cJ, 8, .inr (.inl f))), (y, .inr (4, [.int th, .ref n2, .int kn2, .int td])), (n2, .inl (cJ, 8, .inr (.inl g))), (o, .inr (3, [.long vn, sr]))] H) (hD : va_D A [(x, .inr (2, [.ref n, .int kn, .int ch])), (n, .inl (cJ, 8, .inr (.inl f))), (y, .inr (4, [.int th, .ref n2, .int kn2, .int td])), (n2, .inl (cJ, 8, .inr (.inl g))), (o, .inr (3, [.long vn, sr]))]) (hS : va_S A s.heap H locs) (hl : lv_has ls 7 [(4, .int i), (3, .ref o), (2, .ref y), (1, .ref x), (0, .ref b)]) (kk : ∀ (kn ch kn2 td th : Int32) (f g : Nat → Int64) (vn : Int64) (sr : Value) (H : Heap) (locs : List Loc) (ls : Array Slot), kInv kn ch f kn2 td g → va_P D vwCl [(x, .inr (2, [.ref n, .int kn, .int ch])), (n, .inl (cJ, 8, .inr (.inl f))), (y, .inr (4, [.int th, .ref n2, .int kn2, .int td])), (n2, .inl (cJ, 8, .inr (.inl g))), (o, .inr (3, [.long vn, sr]))] H → va_D A [(x, .inr (2, [.ref n, .int kn, .int ch])), (n, .inl (cJ, 8, .inr (.inl f))), (y, .inr (4, [.int th, .ref n2, .int kn2, .int td])), (n2, .inl (cJ, 8, .inr (.inl g))), (o, .inr (3, [.long vn, sr]))] → va_S A s.heap H locs → lv_has ls 7 [(4, .int i), (3, .ref o), (2, .ref y), (1, .ref x), (0, .ref b)] → W p l e room_1 s m #[Value.ref b] below meth c H locs (cells + 100) (slots + 8000) Q (F0 m 1162 ls [])) : W p l e room_1 s m #[Value.ref b] below meth c H locs cells slots Q (F0 m 788 ls []) := by
  have hK := hE.1
  refine lv_aload_n hx hb dL_law_788 rfl (lv_at hl 3 rfl) ?_
  refine lv_aload_n hx hb dL_law_789 rfl (lv_at hl 4 rfl) ?_
  refine lv_iload hx hb dL_law_790 (lv_at hl 0 rfl) ?_
  refine lv_iconst (v := 1) hx hb dL_law_792 (by decide) ?_
  refine lv_iadd hx hb dL_law_793 ?_
  refine va_sld hx hb hX hbl hbA hS hi1 dL_law_794 ?_
  rw [ha1]
  refine lv_aload_n hx hb dL_law_795 rfl (lv_at hl 4 rfl) ?_
  refine lv_iload hx hb dL_law_796 (lv_at hl 0 rfl) ?_
  refine lv_iconst (v := 2) hx hb dL_law_798 (by decide) ?_
  refine lv_iadd hx hb dL_law_799 ?_
  refine va_sld hx hb hX hbl hbA hS hi2 dL_law_800 ?_
  rw [ha2]
  refine lv_aload_n hx hb dL_law_801 rfl (lv_at hl 1 rfl) ?_
  have hFc := va_free (wc := [(x, .inr (2, [.ref n, .int kn, .int ch])), (n, .inl (cJ, 8, .inr (.inl f))), (o, .inr (3, [.long vn, sr]))]) hD hS hA [0, 1, 4] rfl
  refine kx_go (vx_runSX (As := [.ref x, .int a1, .int a2, .ref o]) (rest := []) ⟨hx, hb, hml, hown, hts⟩ (c_L_beyond l hl9 D cB cJ _ x n o kn ch f vn sr a1 a2 (hP.sub [0, 1, 4] rfl) ((hD.sub [0, 1, 4] (by decide) rfl).weaken (fun _ _ _ _ => trivial))) (vx_cwSW 4 hts gL_law_L_beyond rfl rfl rfl (by decide +kernel) ⟨(Nat.le_of_ble_eq_true rfl), (Nat.le_of_ble_eq_true rfl)⟩) (k_preSN hE hN hS hFc) rfl rfl hl.1 rfl (lv_room (Nat.le_of_ble_eq_true rfl)) dL_law_802 ⟨by show _ ≤ (747762 : Nat); omega, by show _ ≤ (6852817 : Nat); omega⟩) hS (fun q _ h => hFc q h) hFc (fun E ce q9 H locs hp hz hk hS hce hcv hcl => hp.elim) (fun v H locs hp hz hk hS => ?_)
  rcases hp with ⟨hJ9, rfl, sq9, hP1, hD1⟩ | ⟨E9, hJ9, rfl, hP1, hD1⟩
  · have hP1 : va_P D vwCl [(x, .inr (2, [.ref n, .int kn, .int ch])), (n, .inl (cJ, 8, .inr (.inl f))), (o, .inr (3, [.long vn, .ref sq9]))] H := hP1
    have hD1 : va_D _ [(x, .inr (2, [.ref n, .int kn, .int ch])), (n, .inl (cJ, 8, .inr (.inl f))), (o, .inr (3, [.long vn, .ref sq9]))] := hD1
    obtain ⟨hP, hD⟩ := va_join (wr := [(y, .inr (4, [.int th, .ref n2, .int kn2, .int td])), (n2, .inl (cJ, 8, .inr (.inl g)))]) (wc := [(x, .inr (2, [.ref n, .int kn, .int ch])), (n, .inl (cJ, 8, .inr (.inl f))), (o, .inr (3, [.long vn, sr]))]) (w1 := [(x, .inr (2, [.ref n, .int kn, .int ch])), (n, .inl (cJ, 8, .inr (.inl f))), (o, .inr (3, [.long vn, .ref sq9]))]) hP hD [0, 1, 4] [2, 3] rfl rfl (by decide) (by decide) hk hFc hP1 hD1
    have hP : va_P D vwCl [(y, .inr (4, [.int th, .ref n2, .int kn2, .int td])), (n2, .inl (cJ, 8, .inr (.inl g))), (x, .inr (2, [.ref n, .int kn, .int ch])), (n, .inl (cJ, 8, .inr (.inl f))), (o, .inr (3, [.long vn, .ref sq9]))] H := hP
    have hD : va_D A [(y, .inr (4, [.int th, .ref n2, .int kn2, .int td])), (n2, .inl (cJ, 8, .inr (.inl g))), (x, .inr (2, [.ref n, .int kn, .int ch])), (n, .inl (cJ, 8, .inr (.inl f))), (o, .inr (3, [.long vn, .ref sq9]))] := hD
    refine W.eq (g2 := F0 m 805 ls [.int 0]) rfl ?_
    refine lv_istore (lv' := [(5, .int 0), (4, .int i), (3, .ref o), (2, .ref y), (1, .ref x), (0, .ref b)]) hx hb dL_law_805 hl (by decide) rfl (fun ls hl => ?_)
    refine lv_aload_n hx hb dL_law_807 rfl (lv_at hl 3 rfl) ?_
    refine lv_aload_n hx hb dL_law_808 rfl (lv_at hl 5 rfl) ?_
    refine lv_iload hx hb dL_law_809 (lv_at hl 1 rfl) ?_
    refine lv_iconst (v := 1) hx hb dL_law_811 (by decide) ?_
    refine lv_iadd hx hb dL_law_812 ?_
    refine va_sld hx hb hX hbl hbA hS hi1 dL_law_813 ?_
    rw [ha1]
    refine lv_aload_n hx hb dL_law_814 rfl (lv_at hl 5 rfl) ?_
    refine lv_iload hx hb dL_law_815 (lv_at hl 1 rfl) ?_
    refine lv_iconst (v := 2) hx hb dL_law_817 (by decide) ?_
    refine lv_iadd hx hb dL_law_818 ?_
    refine va_sld hx hb hX hbl hbA hS hi2 dL_law_819 ?_
    rw [ha2]
    have hFc := va_free (wc := [(y, .inr (4, [.int th, .ref n2, .int kn2, .int td])), (n2, .inl (cJ, 8, .inr (.inl g)))]) hD hS hA [0, 1] rfl
    have hT9 := tm_beyond hI th a1 a2
    refine k_go (va_runV (As := [.int a1, .int a2]) (rest := []) ⟨hx, hb, hml, hown, hts⟩ (c_X2_beyond l D cB cJ _ y n2 th g kn2 td a1 a2 (hP.sub [0, 1] rfl) ((hD.sub [0, 1] (by decide) rfl).weaken (fun _ _ _ _ => trivial)) (kInv.inG hI) hT9) (cwV 2 hts gL_law_X2_beyond rfl rfl rfl (by decide +kernel) ⟨(Nat.le_of_ble_eq_true rfl), (Nat.le_of_ble_eq_true rfl)⟩) (k_preV hE hS hFc (va_recv hK hP (ci := 4) (q0 := 0) rfl rfl)) rfl rfl hl.1 rfl (lv_room (Nat.le_of_ble_eq_true rfl)) dL_law_820 ⟨by show _ ≤ (747762 : Nat); omega, by show _ ≤ (6852817 : Nat); omega⟩) hS (fun q _ h => hFc q h) hFc (fun v H locs hp hz hk hS => ?_)
    obtain ⟨⟨t9, rfl⟩, hP1, hD1⟩ := hp
    have hP1 : va_P D vwCl [(y, .inr (4, [.int (j_X2_beyond th g kn2 td a1 a2), .ref n2, .int kn2, .int td])), (n2, .inl (cJ, 8, .inr (.inl g)))] H := hP1
    have hD1 : va_D _ [(y, .inr (4, [.int (j_X2_beyond th g kn2 td a1 a2), .ref n2, .int kn2, .int td])), (n2, .inl (cJ, 8, .inr (.inl g)))] := hD1
    obtain ⟨hP, hD⟩ := va_join (wr := [(x, .inr (2, [.ref n, .int kn, .int ch])), (n, .inl (cJ, 8, .inr (.inl f))), (o, .inr (3, [.long vn, .ref sq9]))]) (wc := [(y, .inr (4, [.int th, .ref n2, .int kn2, .int td])), (n2, .inl (cJ, 8, .inr (.inl g)))]) (w1 := [(y, .inr (4, [.int (j_X2_beyond th g kn2 td a1 a2), .ref n2, .int kn2, .int td])), (n2, .inl (cJ, 8, .inr (.inl g)))]) hP hD [0, 1] [2, 3, 4] rfl rfl (by decide) (by decide) hk hFc hP1 hD1
    have hP : va_P D vwCl [(x, .inr (2, [.ref n, .int kn, .int ch])), (n, .inl (cJ, 8, .inr (.inl f))), (o, .inr (3, [.long vn, .ref sq9])), (y, .inr (4, [.int (j_X2_beyond th g kn2 td a1 a2), .ref n2, .int kn2, .int td])), (n2, .inl (cJ, 8, .inr (.inl g)))] H := hP
    have hD : va_D A [(x, .inr (2, [.ref n, .int kn, .int ch])), (n, .inl (cJ, 8, .inr (.inl f))), (o, .inr (3, [.long vn, .ref sq9])), (y, .inr (4, [.int (j_X2_beyond th g kn2 td a1 a2), .ref n2, .int kn2, .int td])), (n2, .inl (cJ, 8, .inr (.inl g)))] := hD
    have hth := (st_beyond hI th a1 a2).1 hJ9
    refine W.eq (g2 := F0 m 823 ls [.ref t9]) rfl ?_
    refine lv_astore (lv' := [(6, .ref t9), (5, .int 0), (4, .int i), (3, .ref o), (2, .ref y), (1, .ref x), (0, .ref b)]) hx hb dL_law_823 hl (by decide) rfl (fun ls hl => ?_)
    refine lv_goto (tgt := 1162) hx hb dL_law_825 (by decide) ?_
    refine W.widen (k := cells + 100) (n := slots + 8000) (by omega) (by omega) ?_
    exact kk _ _ _ _ _ _ _ _ _ _ _ _ hI (hP.sub [0, 1, 3, 4, 2] rfl) (hD.sub [0, 1, 3, 4, 2] (by decide) rfl) hS (lv_sub hl [2, 3, 4, 5, 6] rfl)
  · have hP1 : va_P D vwCl [(x, .inr (2, [.ref n, .int kn, .int ch])), (n, .inl (cJ, 8, .inr (.inl f))), (o, .inr (3, [.long vn, sr]))] H := hP1
    have hD1 : va_D _ [(x, .inr (2, [.ref n, .int kn, .int ch])), (n, .inl (cJ, 8, .inr (.inl f))), (o, .inr (3, [.long vn, sr]))] := hD1
    obtain ⟨hP, hD⟩ := va_join (wr := [(y, .inr (4, [.int th, .ref n2, .int kn2, .int td])), (n2, .inl (cJ, 8, .inr (.inl g)))]) (wc := [(x, .inr (2, [.ref n, .int kn, .int ch])), (n, .inl (cJ, 8, .inr (.inl f))), (o, .inr (3, [.long vn, sr]))]) (w1 := [(x, .inr (2, [.ref n, .int kn, .int ch])), (n, .inl (cJ, 8, .inr (.inl f))), (o, .inr (3, [.long vn, sr]))]) hP hD [0, 1, 4] [2, 3] rfl rfl (by decide) (by decide) hk hFc hP1 hD1
    have hP : va_P D vwCl [(y, .inr (4, [.int th, .ref n2, .int kn2, .int td])), (n2, .inl (cJ, 8, .inr (.inl g))), (x, .inr (2, [.ref n, .int kn, .int ch])), (n, .inl (cJ, 8, .inr (.inl f))), (o, .inr (3, [.long vn, sr]))] H := hP
    have hD : va_D A [(y, .inr (4, [.int th, .ref n2, .int kn2, .int td])), (n2, .inl (cJ, 8, .inr (.inl g))), (x, .inr (2, [.ref n, .int kn, .int ch])), (n, .inl (cJ, 8, .inr (.inl f))), (o, .inr (3, [.long vn, sr]))] := hD
    refine W.eq (g2 := F0 m 805 ls [.int (k_cd E9)]) rfl ?_
    refine lv_istore (lv' := [(5, .int (k_cd E9)), (4, .int i), (3, .ref o), (2, .ref y), (1, .ref x), (0, .ref b)]) hx hb dL_law_805 hl (by decide) rfl (fun ls hl => ?_)
    refine lv_aload_n hx hb dL_law_807 rfl (lv_at hl 3 rfl) ?_
    refine lv_aload_n hx hb dL_law_808 rfl (lv_at hl 5 rfl) ?_
    refine lv_iload hx hb dL_law_809 (lv_at hl 1 rfl) ?_
    refine lv_iconst (v := 1) hx hb dL_law_811 (by decide) ?_
    refine lv_iadd hx hb dL_law_812 ?_
    refine va_sld hx hb hX hbl hbA hS hi1 dL_law_813 ?_
    rw [ha1]
    refine lv_aload_n hx hb dL_law_814 rfl (lv_at hl 5 rfl) ?_
    refine lv_iload hx hb dL_law_815 (lv_at hl 1 rfl) ?_
    refine lv_iconst (v := 2) hx hb dL_law_817 (by decide) ?_
    refine lv_iadd hx hb dL_law_818 ?_
    refine va_sld hx hb hX hbl hbA hS hi2 dL_law_819 ?_
    rw [ha2]
    have hFc := va_free (wc := [(y, .inr (4, [.int th, .ref n2, .int kn2, .int td])), (n2, .inl (cJ, 8, .inr (.inl g)))]) hD hS hA [0, 1] rfl
    have hT9 := tm_beyond hI th a1 a2
    refine k_go (va_runV (As := [.int a1, .int a2]) (rest := []) ⟨hx, hb, hml, hown, hts⟩ (c_X2_beyond l D cB cJ _ y n2 th g kn2 td a1 a2 (hP.sub [0, 1] rfl) ((hD.sub [0, 1] (by decide) rfl).weaken (fun _ _ _ _ => trivial)) (kInv.inG hI) hT9) (cwV 2 hts gL_law_X2_beyond rfl rfl rfl (by decide +kernel) ⟨(Nat.le_of_ble_eq_true rfl), (Nat.le_of_ble_eq_true rfl)⟩) (k_preV hE hS hFc (va_recv hK hP (ci := 4) (q0 := 0) rfl rfl)) rfl rfl hl.1 rfl (lv_room (Nat.le_of_ble_eq_true rfl)) dL_law_820 ⟨by show _ ≤ (747762 : Nat); omega, by show _ ≤ (6852817 : Nat); omega⟩) hS (fun q _ h => hFc q h) hFc (fun v H locs hp hz hk hS => ?_)
    obtain ⟨⟨t9, rfl⟩, hP1, hD1⟩ := hp
    have hP1 : va_P D vwCl [(y, .inr (4, [.int (j_X2_beyond th g kn2 td a1 a2), .ref n2, .int kn2, .int td])), (n2, .inl (cJ, 8, .inr (.inl g)))] H := hP1
    have hD1 : va_D _ [(y, .inr (4, [.int (j_X2_beyond th g kn2 td a1 a2), .ref n2, .int kn2, .int td])), (n2, .inl (cJ, 8, .inr (.inl g)))] := hD1
    obtain ⟨hP, hD⟩ := va_join (wr := [(x, .inr (2, [.ref n, .int kn, .int ch])), (n, .inl (cJ, 8, .inr (.inl f))), (o, .inr (3, [.long vn, sr]))]) (wc := [(y, .inr (4, [.int th, .ref n2, .int kn2, .int td])), (n2, .inl (cJ, 8, .inr (.inl g)))]) (w1 := [(y, .inr (4, [.int (j_X2_beyond th g kn2 td a1 a2), .ref n2, .int kn2, .int td])), (n2, .inl (cJ, 8, .inr (.inl g)))]) hP hD [0, 1] [2, 3, 4] rfl rfl (by decide) (by decide) hk hFc hP1 hD1
    have hP : va_P D vwCl [(x, .inr (2, [.ref n, .int kn, .int ch])), (n, .inl (cJ, 8, .inr (.inl f))), (o, .inr (3, [.long vn, sr])), (y, .inr (4, [.int (j_X2_beyond th g kn2 td a1 a2), .ref n2, .int kn2, .int td])), (n2, .inl (cJ, 8, .inr (.inl g)))] H := hP
    have hD : va_D A [(x, .inr (2, [.ref n, .int kn, .int ch])), (n, .inl (cJ, 8, .inr (.inl f))), (o, .inr (3, [.long vn, sr])), (y, .inr (4, [.int (j_X2_beyond th g kn2 td a1 a2), .ref n2, .int kn2, .int td])), (n2, .inl (cJ, 8, .inr (.inl g)))] := hD
    have hth := (st_beyond hI th a1 a2).2 _ hJ9
    refine W.eq (g2 := F0 m 823 ls [.ref t9]) rfl ?_
    refine lv_astore (lv' := [(6, .ref t9), (5, .int (k_cd E9)), (4, .int i), (3, .ref o), (2, .ref y), (1, .ref x), (0, .ref b)]) hx hb dL_law_823 hl (by decide) rfl (fun ls hl => ?_)
    refine lv_goto (tgt := 1162) hx hb dL_law_825 (by decide) ?_
    refine W.widen (k := cells + 100) (n := slots + 8000) (by omega) (by omega) ?_
    exact kk _ _ _ _ _ _ _ _ _ _ _ _ hI (hP.sub [0, 1, 3, 4, 2] rfl) (hD.sub [0, 1, 3, 4, 2] (by decide) rfl) hS (lv_sub hl [2, 3, 4, 5, 6] rfl)
set_option maxHeartbeats 4000000 in
set_option maxRecDepth 100000 in
theorem lc_compare {p : Program} {l : Launch} {e : Env} {s : State} {m : MethodId} {below : List Frame} {meth : Method} {c : Code} {D : va_G} {cB cJ : ClassId} {A : Nat → Prop} {Q : State → Prop} {b L x n y n2 o : Nat} {xs : Nat → Int32} (hl9 : l.stackTraces = false) (hx : p.tables.exec = Jvm.exec) (hb : c.code = code) (hml : c.maxLocals = 7) (hown : s.vm.findClass RL = some m.cls) (hts : ∀ w ∈ wsL_law, w.before #[Value.ref b] s = true) (hE : kE D cB cJ A s s.heap) (hN : kN s) (hA : ∀ q : Nat, s.heap.size ≤ q → A q) (hX : va_X b L xs s s.heap) (hbl : b < s.heap.size) (hbA : ¬ A b) {i : Int32} {a1 : Int32} (hi1 : vp_in (i + 1) L) (ha1 : xs (i + 1).toNatClampNeg = a1) {a2 : Int32} (hi2 : vp_in (i + 2) L) (ha2 : xs (i + 2).toNatClampNeg = a2) {a3 : Int32} (hi3 : vp_in (i + 3) L) (ha3 : xs (i + 3).toNatClampNeg = a3) {a4 : Int32} (hi4 : vp_in (i + 4) L) (ha4 : xs (i + 4).toNatClampNeg = a4) {a5 : Int32} (hi5 : vp_in (i + 5) L) (ha5 : xs (i + 5).toNatClampNeg = a5) {kn ch kn2 td th : Int32} {f g : Nat → Int64} {vn : Int64} {sr : Value} {H : Heap} {locs : List Loc} {cells slots : Nat} {ls : Array Slot} (hc9 : cells + 100 ≤ 747762) (hs9 : slots + 8000 ≤ 6852817) (hI : kInv kn ch f kn2 td g) (hP : va_P D vwCl [(x, .inr (2, [.ref n, .int kn, .int ch])), (n, .inl (cJ, 8, .inr (.inl f))), (y, .inr (4, [.int th, .ref n2, .int kn2, .int td])), (n2, .inl (cJ, 8, .inr (.inl g))), (o, .inr (3, [.long vn, sr]))] H) (hD : va_D A [(x, .inr (2, [.ref n, .int kn, .int ch])), (n, .inl (cJ, 8, .inr (.inl f))), (y, .inr (4, [.int th, .ref n2, .int kn2, .int td])), (n2, .inl (cJ, 8, .inr (.inl g))), (o, .inr (3, [.long vn, sr]))]) (hS : va_S A s.heap H locs) (hl : lv_has ls 7 [(4, .int i), (3, .ref o), (2, .ref y), (1, .ref x), (0, .ref b)]) (kk : ∀ (kn ch kn2 td th : Int32) (f g : Nat → Int64) (vn : Int64) (sr : Value) (H : Heap) (locs : List Loc) (ls : Array Slot), kInv kn ch f kn2 td g → va_P D vwCl [(x, .inr (2, [.ref n, .int kn, .int ch])), (n, .inl (cJ, 8, .inr (.inl f))), (y, .inr (4, [.int th, .ref n2, .int kn2, .int td])), (n2, .inl (cJ, 8, .inr (.inl g))), (o, .inr (3, [.long vn, sr]))] H → va_D A [(x, .inr (2, [.ref n, .int kn, .int ch])), (n, .inl (cJ, 8, .inr (.inl f))), (y, .inr (4, [.int th, .ref n2, .int kn2, .int td])), (n2, .inl (cJ, 8, .inr (.inl g))), (o, .inr (3, [.long vn, sr]))] → va_S A s.heap H locs → lv_has ls 7 [(4, .int i), (3, .ref o), (2, .ref y), (1, .ref x), (0, .ref b)] → W p l e room_1 s m #[Value.ref b] below meth c H locs (cells + 100) (slots + 8000) Q (F0 m 1162 ls [])) : W p l e room_1 s m #[Value.ref b] below meth c H locs cells slots Q (F0 m 828 ls []) := by
  have hK := hE.1
  refine lv_aload_n hx hb dL_law_828 rfl (lv_at hl 3 rfl) ?_
  refine lv_aload_n hx hb dL_law_829 rfl (lv_at hl 4 rfl) ?_
  refine lv_iload hx hb dL_law_830 (lv_at hl 0 rfl) ?_
  refine lv_iconst (v := 1) hx hb dL_law_832 (by decide) ?_
  refine lv_iadd hx hb dL_law_833 ?_
  refine va_sld hx hb hX hbl hbA hS hi1 dL_law_834 ?_
  rw [ha1]
  refine lv_aload_n hx hb dL_law_835 rfl (lv_at hl 4 rfl) ?_
  refine lv_iload hx hb dL_law_836 (lv_at hl 0 rfl) ?_
  refine lv_iconst (v := 2) hx hb dL_law_838 (by decide) ?_
  refine lv_iadd hx hb dL_law_839 ?_
  refine va_sld hx hb hX hbl hbA hS hi2 dL_law_840 ?_
  rw [ha2]
  refine lv_aload_n hx hb dL_law_841 rfl (lv_at hl 1 rfl) ?_
  have hFc := va_free (wc := [(x, .inr (2, [.ref n, .int kn, .int ch])), (n, .inl (cJ, 8, .inr (.inl f))), (o, .inr (3, [.long vn, sr]))]) hD hS hA [0, 1, 4] rfl
  refine kx_go (vx_runSX (As := [.ref x, .int a1, .int a2, .ref o]) (rest := []) ⟨hx, hb, hml, hown, hts⟩ (c_L_compare l hl9 D cB cJ _ x n o kn ch f vn sr a1 a2 (hP.sub [0, 1, 4] rfl) ((hD.sub [0, 1, 4] (by decide) rfl).weaken (fun _ _ _ _ => trivial))) (vx_cwSW 4 hts gL_law_L_compare rfl rfl rfl (by decide +kernel) ⟨(Nat.le_of_ble_eq_true rfl), (Nat.le_of_ble_eq_true rfl)⟩) (k_preSN hE hN hS hFc) rfl rfl hl.1 rfl (lv_room (Nat.le_of_ble_eq_true rfl)) dL_law_842 ⟨by show _ ≤ (747762 : Nat); omega, by show _ ≤ (6852817 : Nat); omega⟩) hS (fun q _ h => hFc q h) hFc (fun E ce q9 H locs hp hz hk hS hce hcv hcl => hp.elim) (fun v H locs hp hz hk hS => ?_)
  rcases hp with ⟨r9, hJ9, rfl, hP1, hD1⟩ | ⟨E9, hJ9, rfl, hP1, hD1⟩
  · have hP1 : va_P D vwCl [(x, .inr (2, [.ref n, .int r9.2.1, .int r9.2.2.1])), (n, .inl (cJ, 8, .inr (.inl r9.2.2.2))), (o, .inr (3, [.long ((fun z : Int32 => z.toInt64) r9.1), sr]))] H := hP1
    have hD1 : va_D _ [(x, .inr (2, [.ref n, .int r9.2.1, .int r9.2.2.1])), (n, .inl (cJ, 8, .inr (.inl r9.2.2.2))), (o, .inr (3, [.long ((fun z : Int32 => z.toInt64) r9.1), sr]))] := hD1
    obtain ⟨hP, hD⟩ := va_join (wr := [(y, .inr (4, [.int th, .ref n2, .int kn2, .int td])), (n2, .inl (cJ, 8, .inr (.inl g)))]) (wc := [(x, .inr (2, [.ref n, .int kn, .int ch])), (n, .inl (cJ, 8, .inr (.inl f))), (o, .inr (3, [.long vn, sr]))]) (w1 := [(x, .inr (2, [.ref n, .int r9.2.1, .int r9.2.2.1])), (n, .inl (cJ, 8, .inr (.inl r9.2.2.2))), (o, .inr (3, [.long ((fun z : Int32 => z.toInt64) r9.1), sr]))]) hP hD [0, 1, 4] [2, 3] rfl rfl (by decide) (by decide) hk hFc hP1 hD1
    have hP : va_P D vwCl [(y, .inr (4, [.int th, .ref n2, .int kn2, .int td])), (n2, .inl (cJ, 8, .inr (.inl g))), (x, .inr (2, [.ref n, .int r9.2.1, .int r9.2.2.1])), (n, .inl (cJ, 8, .inr (.inl r9.2.2.2))), (o, .inr (3, [.long ((fun z : Int32 => z.toInt64) r9.1), sr]))] H := hP
    have hD : va_D A [(y, .inr (4, [.int th, .ref n2, .int kn2, .int td])), (n2, .inl (cJ, 8, .inr (.inl g))), (x, .inr (2, [.ref n, .int r9.2.1, .int r9.2.2.1])), (n, .inl (cJ, 8, .inr (.inl r9.2.2.2))), (o, .inr (3, [.long ((fun z : Int32 => z.toInt64) r9.1), sr]))] := hD
    refine W.eq (g2 := F0 m 845 ls [.int 0]) rfl ?_
    refine lv_istore (lv' := [(5, .int 0), (4, .int i), (3, .ref o), (2, .ref y), (1, .ref x), (0, .ref b)]) hx hb dL_law_845 hl (by decide) rfl (fun ls hl => ?_)
    refine lv_aload_n hx hb dL_law_847 rfl (lv_at hl 3 rfl) ?_
    refine lv_aload_n hx hb dL_law_848 rfl (lv_at hl 5 rfl) ?_
    refine lv_iload hx hb dL_law_849 (lv_at hl 1 rfl) ?_
    refine lv_iconst (v := 1) hx hb dL_law_851 (by decide) ?_
    refine lv_iadd hx hb dL_law_852 ?_
    refine va_sld hx hb hX hbl hbA hS hi1 dL_law_853 ?_
    rw [ha1]
    refine lv_aload_n hx hb dL_law_854 rfl (lv_at hl 5 rfl) ?_
    refine lv_iload hx hb dL_law_855 (lv_at hl 1 rfl) ?_
    refine lv_iconst (v := 2) hx hb dL_law_857 (by decide) ?_
    refine lv_iadd hx hb dL_law_858 ?_
    refine va_sld hx hb hX hbl hbA hS hi2 dL_law_859 ?_
    rw [ha2]
    have hFc := va_free (wc := [(y, .inr (4, [.int th, .ref n2, .int kn2, .int td])), (n2, .inl (cJ, 8, .inr (.inl g)))]) hD hS hA [0, 1] rfl
    have hT9 := tm_compare hI th a1 a2
    refine k_go (va_runV (As := [.int a1, .int a2]) (rest := []) ⟨hx, hb, hml, hown, hts⟩ (c_X2_compare l D cB cJ _ y n2 th g kn2 td (hP.sub [0, 1] rfl) ((hD.sub [0, 1] (by decide) rfl).weaken (fun _ _ _ _ => trivial)) a1 a2 hT9) (cwV 2 hts gL_law_X2_compare rfl rfl rfl (by decide +kernel) ⟨(Nat.le_of_ble_eq_true rfl), (Nat.le_of_ble_eq_true rfl)⟩) (k_preV hE hS hFc (va_recv hK hP (ci := 4) (q0 := 0) rfl rfl)) rfl rfl hl.1 rfl (lv_room (Nat.le_of_ble_eq_true rfl)) dL_law_860 ⟨by show _ ≤ (747762 : Nat); omega, by show _ ≤ (6852817 : Nat); omega⟩) hS (fun q _ h => hFc q h) hFc (fun v H locs hp hz hk hS => ?_)
    obtain ⟨rfl, hP1, hD1⟩ := hp
    have hP1 : va_P D vwCl [(y, .inr (4, [.int ((j_X2_compare th g kn2 td a1 a2).2.1), .ref n2, .int ((j_X2_compare th g kn2 td a1 a2).2.2.2.1), .int ((j_X2_compare th g kn2 td a1 a2).2.2.2.2)])), (n2, .inl (cJ, 8, .inr (.inl ((j_X2_compare th g kn2 td a1 a2).2.2.1))))] H := hP1
    have hD1 : va_D _ [(y, .inr (4, [.int ((j_X2_compare th g kn2 td a1 a2).2.1), .ref n2, .int ((j_X2_compare th g kn2 td a1 a2).2.2.2.1), .int ((j_X2_compare th g kn2 td a1 a2).2.2.2.2)])), (n2, .inl (cJ, 8, .inr (.inl ((j_X2_compare th g kn2 td a1 a2).2.2.1))))] := hD1
    obtain ⟨hP, hD⟩ := va_join (wr := [(x, .inr (2, [.ref n, .int r9.2.1, .int r9.2.2.1])), (n, .inl (cJ, 8, .inr (.inl r9.2.2.2))), (o, .inr (3, [.long ((fun z : Int32 => z.toInt64) r9.1), sr]))]) (wc := [(y, .inr (4, [.int th, .ref n2, .int kn2, .int td])), (n2, .inl (cJ, 8, .inr (.inl g)))]) (w1 := [(y, .inr (4, [.int ((j_X2_compare th g kn2 td a1 a2).2.1), .ref n2, .int ((j_X2_compare th g kn2 td a1 a2).2.2.2.1), .int ((j_X2_compare th g kn2 td a1 a2).2.2.2.2)])), (n2, .inl (cJ, 8, .inr (.inl ((j_X2_compare th g kn2 td a1 a2).2.2.1))))]) hP hD [0, 1] [2, 3, 4] rfl rfl (by decide) (by decide) hk hFc hP1 hD1
    have hP : va_P D vwCl [(x, .inr (2, [.ref n, .int r9.2.1, .int r9.2.2.1])), (n, .inl (cJ, 8, .inr (.inl r9.2.2.2))), (o, .inr (3, [.long ((fun z : Int32 => z.toInt64) r9.1), sr])), (y, .inr (4, [.int ((j_X2_compare th g kn2 td a1 a2).2.1), .ref n2, .int ((j_X2_compare th g kn2 td a1 a2).2.2.2.1), .int ((j_X2_compare th g kn2 td a1 a2).2.2.2.2)])), (n2, .inl (cJ, 8, .inr (.inl ((j_X2_compare th g kn2 td a1 a2).2.2.1))))] H := hP
    have hD : va_D A [(x, .inr (2, [.ref n, .int r9.2.1, .int r9.2.2.1])), (n, .inl (cJ, 8, .inr (.inl r9.2.2.2))), (o, .inr (3, [.long ((fun z : Int32 => z.toInt64) r9.1), sr])), (y, .inr (4, [.int ((j_X2_compare th g kn2 td a1 a2).2.1), .ref n2, .int ((j_X2_compare th g kn2 td a1 a2).2.2.2.1), .int ((j_X2_compare th g kn2 td a1 a2).2.2.2.2)])), (n2, .inl (cJ, 8, .inr (.inl ((j_X2_compare th g kn2 td a1 a2).2.2.1))))] := hD
    obtain ⟨hth, hrv, hI⟩ := (st_compare hI th a1 a2).1 _ hJ9
    refine W.eq (g2 := F0 m 863 ls [.int ((j_X2_compare th g kn2 td a1 a2).1)]) rfl ?_
    refine lv_istore (lv' := [(6, .int ((j_X2_compare th g kn2 td a1 a2).1)), (5, .int 0), (4, .int i), (3, .ref o), (2, .ref y), (1, .ref x), (0, .ref b)]) hx hb dL_law_863 hl (by decide) rfl (fun ls hl => ?_)
    refine lv_goto (tgt := 1162) hx hb dL_law_865 (by decide) ?_
    refine W.widen (k := cells + 100) (n := slots + 8000) (by omega) (by omega) ?_
    exact kk _ _ _ _ _ _ _ _ _ _ _ _ hI (hP.sub [0, 1, 3, 4, 2] rfl) (hD.sub [0, 1, 3, 4, 2] (by decide) rfl) hS (lv_sub hl [2, 3, 4, 5, 6] rfl)
  · have hP1 : va_P D vwCl [(x, .inr (2, [.ref n, .int kn, .int ch])), (n, .inl (cJ, 8, .inr (.inl f))), (o, .inr (3, [.long vn, sr]))] H := hP1
    have hD1 : va_D _ [(x, .inr (2, [.ref n, .int kn, .int ch])), (n, .inl (cJ, 8, .inr (.inl f))), (o, .inr (3, [.long vn, sr]))] := hD1
    obtain ⟨hP, hD⟩ := va_join (wr := [(y, .inr (4, [.int th, .ref n2, .int kn2, .int td])), (n2, .inl (cJ, 8, .inr (.inl g)))]) (wc := [(x, .inr (2, [.ref n, .int kn, .int ch])), (n, .inl (cJ, 8, .inr (.inl f))), (o, .inr (3, [.long vn, sr]))]) (w1 := [(x, .inr (2, [.ref n, .int kn, .int ch])), (n, .inl (cJ, 8, .inr (.inl f))), (o, .inr (3, [.long vn, sr]))]) hP hD [0, 1, 4] [2, 3] rfl rfl (by decide) (by decide) hk hFc hP1 hD1
    have hP : va_P D vwCl [(y, .inr (4, [.int th, .ref n2, .int kn2, .int td])), (n2, .inl (cJ, 8, .inr (.inl g))), (x, .inr (2, [.ref n, .int kn, .int ch])), (n, .inl (cJ, 8, .inr (.inl f))), (o, .inr (3, [.long vn, sr]))] H := hP
    have hD : va_D A [(y, .inr (4, [.int th, .ref n2, .int kn2, .int td])), (n2, .inl (cJ, 8, .inr (.inl g))), (x, .inr (2, [.ref n, .int kn, .int ch])), (n, .inl (cJ, 8, .inr (.inl f))), (o, .inr (3, [.long vn, sr]))] := hD
    refine W.eq (g2 := F0 m 845 ls [.int (k_cd E9)]) rfl ?_
    refine lv_istore (lv' := [(5, .int (k_cd E9)), (4, .int i), (3, .ref o), (2, .ref y), (1, .ref x), (0, .ref b)]) hx hb dL_law_845 hl (by decide) rfl (fun ls hl => ?_)
    refine lv_aload_n hx hb dL_law_847 rfl (lv_at hl 3 rfl) ?_
    refine lv_aload_n hx hb dL_law_848 rfl (lv_at hl 5 rfl) ?_
    refine lv_iload hx hb dL_law_849 (lv_at hl 1 rfl) ?_
    refine lv_iconst (v := 1) hx hb dL_law_851 (by decide) ?_
    refine lv_iadd hx hb dL_law_852 ?_
    refine va_sld hx hb hX hbl hbA hS hi1 dL_law_853 ?_
    rw [ha1]
    refine lv_aload_n hx hb dL_law_854 rfl (lv_at hl 5 rfl) ?_
    refine lv_iload hx hb dL_law_855 (lv_at hl 1 rfl) ?_
    refine lv_iconst (v := 2) hx hb dL_law_857 (by decide) ?_
    refine lv_iadd hx hb dL_law_858 ?_
    refine va_sld hx hb hX hbl hbA hS hi2 dL_law_859 ?_
    rw [ha2]
    have hFc := va_free (wc := [(y, .inr (4, [.int th, .ref n2, .int kn2, .int td])), (n2, .inl (cJ, 8, .inr (.inl g)))]) hD hS hA [0, 1] rfl
    have hT9 := tm_compare hI th a1 a2
    refine k_go (va_runV (As := [.int a1, .int a2]) (rest := []) ⟨hx, hb, hml, hown, hts⟩ (c_X2_compare l D cB cJ _ y n2 th g kn2 td (hP.sub [0, 1] rfl) ((hD.sub [0, 1] (by decide) rfl).weaken (fun _ _ _ _ => trivial)) a1 a2 hT9) (cwV 2 hts gL_law_X2_compare rfl rfl rfl (by decide +kernel) ⟨(Nat.le_of_ble_eq_true rfl), (Nat.le_of_ble_eq_true rfl)⟩) (k_preV hE hS hFc (va_recv hK hP (ci := 4) (q0 := 0) rfl rfl)) rfl rfl hl.1 rfl (lv_room (Nat.le_of_ble_eq_true rfl)) dL_law_860 ⟨by show _ ≤ (747762 : Nat); omega, by show _ ≤ (6852817 : Nat); omega⟩) hS (fun q _ h => hFc q h) hFc (fun v H locs hp hz hk hS => ?_)
    obtain ⟨rfl, hP1, hD1⟩ := hp
    have hP1 : va_P D vwCl [(y, .inr (4, [.int ((j_X2_compare th g kn2 td a1 a2).2.1), .ref n2, .int ((j_X2_compare th g kn2 td a1 a2).2.2.2.1), .int ((j_X2_compare th g kn2 td a1 a2).2.2.2.2)])), (n2, .inl (cJ, 8, .inr (.inl ((j_X2_compare th g kn2 td a1 a2).2.2.1))))] H := hP1
    have hD1 : va_D _ [(y, .inr (4, [.int ((j_X2_compare th g kn2 td a1 a2).2.1), .ref n2, .int ((j_X2_compare th g kn2 td a1 a2).2.2.2.1), .int ((j_X2_compare th g kn2 td a1 a2).2.2.2.2)])), (n2, .inl (cJ, 8, .inr (.inl ((j_X2_compare th g kn2 td a1 a2).2.2.1))))] := hD1
    obtain ⟨hP, hD⟩ := va_join (wr := [(x, .inr (2, [.ref n, .int kn, .int ch])), (n, .inl (cJ, 8, .inr (.inl f))), (o, .inr (3, [.long vn, sr]))]) (wc := [(y, .inr (4, [.int th, .ref n2, .int kn2, .int td])), (n2, .inl (cJ, 8, .inr (.inl g)))]) (w1 := [(y, .inr (4, [.int ((j_X2_compare th g kn2 td a1 a2).2.1), .ref n2, .int ((j_X2_compare th g kn2 td a1 a2).2.2.2.1), .int ((j_X2_compare th g kn2 td a1 a2).2.2.2.2)])), (n2, .inl (cJ, 8, .inr (.inl ((j_X2_compare th g kn2 td a1 a2).2.2.1))))]) hP hD [0, 1] [2, 3, 4] rfl rfl (by decide) (by decide) hk hFc hP1 hD1
    have hP : va_P D vwCl [(x, .inr (2, [.ref n, .int kn, .int ch])), (n, .inl (cJ, 8, .inr (.inl f))), (o, .inr (3, [.long vn, sr])), (y, .inr (4, [.int ((j_X2_compare th g kn2 td a1 a2).2.1), .ref n2, .int ((j_X2_compare th g kn2 td a1 a2).2.2.2.1), .int ((j_X2_compare th g kn2 td a1 a2).2.2.2.2)])), (n2, .inl (cJ, 8, .inr (.inl ((j_X2_compare th g kn2 td a1 a2).2.2.1))))] H := hP
    have hD : va_D A [(x, .inr (2, [.ref n, .int kn, .int ch])), (n, .inl (cJ, 8, .inr (.inl f))), (o, .inr (3, [.long vn, sr])), (y, .inr (4, [.int ((j_X2_compare th g kn2 td a1 a2).2.1), .ref n2, .int ((j_X2_compare th g kn2 td a1 a2).2.2.2.1), .int ((j_X2_compare th g kn2 td a1 a2).2.2.2.2)])), (n2, .inl (cJ, 8, .inr (.inl ((j_X2_compare th g kn2 td a1 a2).2.2.1))))] := hD
    obtain ⟨hth, hI⟩ := (st_compare hI th a1 a2).2 _ hJ9
    refine W.eq (g2 := F0 m 863 ls [.int ((j_X2_compare th g kn2 td a1 a2).1)]) rfl ?_
    refine lv_istore (lv' := [(6, .int ((j_X2_compare th g kn2 td a1 a2).1)), (5, .int (k_cd E9)), (4, .int i), (3, .ref o), (2, .ref y), (1, .ref x), (0, .ref b)]) hx hb dL_law_863 hl (by decide) rfl (fun ls hl => ?_)
    refine lv_goto (tgt := 1162) hx hb dL_law_865 (by decide) ?_
    refine W.widen (k := cells + 100) (n := slots + 8000) (by omega) (by omega) ?_
    exact kk _ _ _ _ _ _ _ _ _ _ _ _ hI (hP.sub [0, 1, 3, 4, 2] rfl) (hD.sub [0, 1, 3, 4, 2] (by decide) rfl) hS (lv_sub hl [2, 3, 4, 5, 6] rfl)
set_option maxHeartbeats 4000000 in
set_option maxRecDepth 100000 in
theorem lc_isAhead {p : Program} {l : Launch} {e : Env} {s : State} {m : MethodId} {below : List Frame} {meth : Method} {c : Code} {D : va_G} {cB cJ : ClassId} {A : Nat → Prop} {Q : State → Prop} {b L x n y n2 o : Nat} {xs : Nat → Int32} (hl9 : l.stackTraces = false) (hx : p.tables.exec = Jvm.exec) (hb : c.code = code) (hml : c.maxLocals = 7) (hown : s.vm.findClass RL = some m.cls) (hts : ∀ w ∈ wsL_law, w.before #[Value.ref b] s = true) (hE : kE D cB cJ A s s.heap) (hN : kN s) (hA : ∀ q : Nat, s.heap.size ≤ q → A q) (hX : va_X b L xs s s.heap) (hbl : b < s.heap.size) (hbA : ¬ A b) {i : Int32} {a1 : Int32} (hi1 : vp_in (i + 1) L) (ha1 : xs (i + 1).toNatClampNeg = a1) {a2 : Int32} (hi2 : vp_in (i + 2) L) (ha2 : xs (i + 2).toNatClampNeg = a2) {a3 : Int32} (hi3 : vp_in (i + 3) L) (ha3 : xs (i + 3).toNatClampNeg = a3) {a4 : Int32} (hi4 : vp_in (i + 4) L) (ha4 : xs (i + 4).toNatClampNeg = a4) {a5 : Int32} (hi5 : vp_in (i + 5) L) (ha5 : xs (i + 5).toNatClampNeg = a5) {kn ch kn2 td th : Int32} {f g : Nat → Int64} {vn : Int64} {sr : Value} {H : Heap} {locs : List Loc} {cells slots : Nat} {ls : Array Slot} (hc9 : cells + 100 ≤ 747762) (hs9 : slots + 8000 ≤ 6852817) (hI : kInv kn ch f kn2 td g) (hP : va_P D vwCl [(x, .inr (2, [.ref n, .int kn, .int ch])), (n, .inl (cJ, 8, .inr (.inl f))), (y, .inr (4, [.int th, .ref n2, .int kn2, .int td])), (n2, .inl (cJ, 8, .inr (.inl g))), (o, .inr (3, [.long vn, sr]))] H) (hD : va_D A [(x, .inr (2, [.ref n, .int kn, .int ch])), (n, .inl (cJ, 8, .inr (.inl f))), (y, .inr (4, [.int th, .ref n2, .int kn2, .int td])), (n2, .inl (cJ, 8, .inr (.inl g))), (o, .inr (3, [.long vn, sr]))]) (hS : va_S A s.heap H locs) (hl : lv_has ls 7 [(4, .int i), (3, .ref o), (2, .ref y), (1, .ref x), (0, .ref b)]) (kk : ∀ (kn ch kn2 td th : Int32) (f g : Nat → Int64) (vn : Int64) (sr : Value) (H : Heap) (locs : List Loc) (ls : Array Slot), kInv kn ch f kn2 td g → va_P D vwCl [(x, .inr (2, [.ref n, .int kn, .int ch])), (n, .inl (cJ, 8, .inr (.inl f))), (y, .inr (4, [.int th, .ref n2, .int kn2, .int td])), (n2, .inl (cJ, 8, .inr (.inl g))), (o, .inr (3, [.long vn, sr]))] H → va_D A [(x, .inr (2, [.ref n, .int kn, .int ch])), (n, .inl (cJ, 8, .inr (.inl f))), (y, .inr (4, [.int th, .ref n2, .int kn2, .int td])), (n2, .inl (cJ, 8, .inr (.inl g))), (o, .inr (3, [.long vn, sr]))] → va_S A s.heap H locs → lv_has ls 7 [(4, .int i), (3, .ref o), (2, .ref y), (1, .ref x), (0, .ref b)] → W p l e room_1 s m #[Value.ref b] below meth c H locs (cells + 100) (slots + 8000) Q (F0 m 1162 ls [])) : W p l e room_1 s m #[Value.ref b] below meth c H locs cells slots Q (F0 m 868 ls []) := by
  have hK := hE.1
  refine lv_aload_n hx hb dL_law_868 rfl (lv_at hl 3 rfl) ?_
  refine lv_aload_n hx hb dL_law_869 rfl (lv_at hl 4 rfl) ?_
  refine lv_iload hx hb dL_law_870 (lv_at hl 0 rfl) ?_
  refine lv_iconst (v := 1) hx hb dL_law_872 (by decide) ?_
  refine lv_iadd hx hb dL_law_873 ?_
  refine va_sld hx hb hX hbl hbA hS hi1 dL_law_874 ?_
  rw [ha1]
  refine lv_aload_n hx hb dL_law_875 rfl (lv_at hl 4 rfl) ?_
  refine lv_iload hx hb dL_law_876 (lv_at hl 0 rfl) ?_
  refine lv_iconst (v := 2) hx hb dL_law_878 (by decide) ?_
  refine lv_iadd hx hb dL_law_879 ?_
  refine va_sld hx hb hX hbl hbA hS hi2 dL_law_880 ?_
  rw [ha2]
  refine lv_aload_n hx hb dL_law_881 rfl (lv_at hl 1 rfl) ?_
  have hFc := va_free (wc := [(x, .inr (2, [.ref n, .int kn, .int ch])), (n, .inl (cJ, 8, .inr (.inl f))), (o, .inr (3, [.long vn, sr]))]) hD hS hA [0, 1, 4] rfl
  refine kx_go (vx_runSX (As := [.ref x, .int a1, .int a2, .ref o]) (rest := []) ⟨hx, hb, hml, hown, hts⟩ (c_L_isAhead l hl9 D cB cJ _ x n o kn ch f vn sr a1 a2 (hP.sub [0, 1, 4] rfl) ((hD.sub [0, 1, 4] (by decide) rfl).weaken (fun _ _ _ _ => trivial))) (vx_cwSW 4 hts gL_law_L_isAhead rfl rfl rfl (by decide +kernel) ⟨(Nat.le_of_ble_eq_true rfl), (Nat.le_of_ble_eq_true rfl)⟩) (k_preSN hE hN hS hFc) rfl rfl hl.1 rfl (lv_room (Nat.le_of_ble_eq_true rfl)) dL_law_882 ⟨by show _ ≤ (747762 : Nat); omega, by show _ ≤ (6852817 : Nat); omega⟩) hS (fun q _ h => hFc q h) hFc (fun E ce q9 H locs hp hz hk hS hce hcv hcl => hp.elim) (fun v H locs hp hz hk hS => ?_)
  rcases hp with ⟨r9, hJ9, rfl, hP1, hD1⟩ | ⟨E9, hJ9, rfl, hP1, hD1⟩
  · have hP1 : va_P D vwCl [(x, .inr (2, [.ref n, .int r9.2.1, .int r9.2.2.1])), (n, .inl (cJ, 8, .inr (.inl r9.2.2.2))), (o, .inr (3, [.long ((fun z : Int32 => if z = 0 then (0 : Int64) else 1) r9.1), sr]))] H := hP1
    have hD1 : va_D _ [(x, .inr (2, [.ref n, .int r9.2.1, .int r9.2.2.1])), (n, .inl (cJ, 8, .inr (.inl r9.2.2.2))), (o, .inr (3, [.long ((fun z : Int32 => if z = 0 then (0 : Int64) else 1) r9.1), sr]))] := hD1
    obtain ⟨hP, hD⟩ := va_join (wr := [(y, .inr (4, [.int th, .ref n2, .int kn2, .int td])), (n2, .inl (cJ, 8, .inr (.inl g)))]) (wc := [(x, .inr (2, [.ref n, .int kn, .int ch])), (n, .inl (cJ, 8, .inr (.inl f))), (o, .inr (3, [.long vn, sr]))]) (w1 := [(x, .inr (2, [.ref n, .int r9.2.1, .int r9.2.2.1])), (n, .inl (cJ, 8, .inr (.inl r9.2.2.2))), (o, .inr (3, [.long ((fun z : Int32 => if z = 0 then (0 : Int64) else 1) r9.1), sr]))]) hP hD [0, 1, 4] [2, 3] rfl rfl (by decide) (by decide) hk hFc hP1 hD1
    have hP : va_P D vwCl [(y, .inr (4, [.int th, .ref n2, .int kn2, .int td])), (n2, .inl (cJ, 8, .inr (.inl g))), (x, .inr (2, [.ref n, .int r9.2.1, .int r9.2.2.1])), (n, .inl (cJ, 8, .inr (.inl r9.2.2.2))), (o, .inr (3, [.long ((fun z : Int32 => if z = 0 then (0 : Int64) else 1) r9.1), sr]))] H := hP
    have hD : va_D A [(y, .inr (4, [.int th, .ref n2, .int kn2, .int td])), (n2, .inl (cJ, 8, .inr (.inl g))), (x, .inr (2, [.ref n, .int r9.2.1, .int r9.2.2.1])), (n, .inl (cJ, 8, .inr (.inl r9.2.2.2))), (o, .inr (3, [.long ((fun z : Int32 => if z = 0 then (0 : Int64) else 1) r9.1), sr]))] := hD
    refine W.eq (g2 := F0 m 885 ls [.int 0]) rfl ?_
    refine lv_istore (lv' := [(5, .int 0), (4, .int i), (3, .ref o), (2, .ref y), (1, .ref x), (0, .ref b)]) hx hb dL_law_885 hl (by decide) rfl (fun ls hl => ?_)
    refine lv_aload_n hx hb dL_law_887 rfl (lv_at hl 3 rfl) ?_
    refine lv_aload_n hx hb dL_law_888 rfl (lv_at hl 5 rfl) ?_
    refine lv_iload hx hb dL_law_889 (lv_at hl 1 rfl) ?_
    refine lv_iconst (v := 1) hx hb dL_law_891 (by decide) ?_
    refine lv_iadd hx hb dL_law_892 ?_
    refine va_sld hx hb hX hbl hbA hS hi1 dL_law_893 ?_
    rw [ha1]
    refine lv_aload_n hx hb dL_law_894 rfl (lv_at hl 5 rfl) ?_
    refine lv_iload hx hb dL_law_895 (lv_at hl 1 rfl) ?_
    refine lv_iconst (v := 2) hx hb dL_law_897 (by decide) ?_
    refine lv_iadd hx hb dL_law_898 ?_
    refine va_sld hx hb hX hbl hbA hS hi2 dL_law_899 ?_
    rw [ha2]
    have hFc := va_free (wc := [(y, .inr (4, [.int th, .ref n2, .int kn2, .int td])), (n2, .inl (cJ, 8, .inr (.inl g)))]) hD hS hA [0, 1] rfl
    have hT9 := tm_isAhead hI th a1 a2
    refine k_go (va_runV (As := [.int a1, .int a2]) (rest := []) ⟨hx, hb, hml, hown, hts⟩ (c_X2_isAhead l D cB cJ _ y n2 th g kn2 td (hP.sub [0, 1] rfl) ((hD.sub [0, 1] (by decide) rfl).weaken (fun _ _ _ _ => trivial)) a1 a2 hT9) (cwV 2 hts gL_law_X2_isAhead rfl rfl rfl (by decide +kernel) ⟨(Nat.le_of_ble_eq_true rfl), (Nat.le_of_ble_eq_true rfl)⟩) (k_preV hE hS hFc (va_recv hK hP (ci := 4) (q0 := 0) rfl rfl)) rfl rfl hl.1 rfl (lv_room (Nat.le_of_ble_eq_true rfl)) dL_law_900 ⟨by show _ ≤ (747762 : Nat); omega, by show _ ≤ (6852817 : Nat); omega⟩) hS (fun q _ h => hFc q h) hFc (fun v H locs hp hz hk hS => ?_)
    obtain ⟨rfl, hP1, hD1⟩ := hp
    have hP1 : va_P D vwCl [(y, .inr (4, [.int ((j_X2_isAhead th g kn2 td a1 a2).2.1), .ref n2, .int ((j_X2_isAhead th g kn2 td a1 a2).2.2.2.1), .int ((j_X2_isAhead th g kn2 td a1 a2).2.2.2.2)])), (n2, .inl (cJ, 8, .inr (.inl ((j_X2_isAhead th g kn2 td a1 a2).2.2.1))))] H := hP1
    have hD1 : va_D _ [(y, .inr (4, [.int ((j_X2_isAhead th g kn2 td a1 a2).2.1), .ref n2, .int ((j_X2_isAhead th g kn2 td a1 a2).2.2.2.1), .int ((j_X2_isAhead th g kn2 td a1 a2).2.2.2.2)])), (n2, .inl (cJ, 8, .inr (.inl ((j_X2_isAhead th g kn2 td a1 a2).2.2.1))))] := hD1
    obtain ⟨hP, hD⟩ := va_join (wr := [(x, .inr (2, [.ref n, .int r9.2.1, .int r9.2.2.1])), (n, .inl (cJ, 8, .inr (.inl r9.2.2.2))), (o, .inr (3, [.long ((fun z : Int32 => if z = 0 then (0 : Int64) else 1) r9.1), sr]))]) (wc := [(y, .inr (4, [.int th, .ref n2, .int kn2, .int td])), (n2, .inl (cJ, 8, .inr (.inl g)))]) (w1 := [(y, .inr (4, [.int ((j_X2_isAhead th g kn2 td a1 a2).2.1), .ref n2, .int ((j_X2_isAhead th g kn2 td a1 a2).2.2.2.1), .int ((j_X2_isAhead th g kn2 td a1 a2).2.2.2.2)])), (n2, .inl (cJ, 8, .inr (.inl ((j_X2_isAhead th g kn2 td a1 a2).2.2.1))))]) hP hD [0, 1] [2, 3, 4] rfl rfl (by decide) (by decide) hk hFc hP1 hD1
    have hP : va_P D vwCl [(x, .inr (2, [.ref n, .int r9.2.1, .int r9.2.2.1])), (n, .inl (cJ, 8, .inr (.inl r9.2.2.2))), (o, .inr (3, [.long ((fun z : Int32 => if z = 0 then (0 : Int64) else 1) r9.1), sr])), (y, .inr (4, [.int ((j_X2_isAhead th g kn2 td a1 a2).2.1), .ref n2, .int ((j_X2_isAhead th g kn2 td a1 a2).2.2.2.1), .int ((j_X2_isAhead th g kn2 td a1 a2).2.2.2.2)])), (n2, .inl (cJ, 8, .inr (.inl ((j_X2_isAhead th g kn2 td a1 a2).2.2.1))))] H := hP
    have hD : va_D A [(x, .inr (2, [.ref n, .int r9.2.1, .int r9.2.2.1])), (n, .inl (cJ, 8, .inr (.inl r9.2.2.2))), (o, .inr (3, [.long ((fun z : Int32 => if z = 0 then (0 : Int64) else 1) r9.1), sr])), (y, .inr (4, [.int ((j_X2_isAhead th g kn2 td a1 a2).2.1), .ref n2, .int ((j_X2_isAhead th g kn2 td a1 a2).2.2.2.1), .int ((j_X2_isAhead th g kn2 td a1 a2).2.2.2.2)])), (n2, .inl (cJ, 8, .inr (.inl ((j_X2_isAhead th g kn2 td a1 a2).2.2.1))))] := hD
    obtain ⟨hth, hrv, hI⟩ := (st_isAhead hI th a1 a2).1 _ hJ9
    refine W.eq (g2 := F0 m 903 ls [.int ((j_X2_isAhead th g kn2 td a1 a2).1)]) rfl ?_
    refine lv_istore (lv' := [(6, .int ((j_X2_isAhead th g kn2 td a1 a2).1)), (5, .int 0), (4, .int i), (3, .ref o), (2, .ref y), (1, .ref x), (0, .ref b)]) hx hb dL_law_903 hl (by decide) rfl (fun ls hl => ?_)
    refine lv_goto (tgt := 1162) hx hb dL_law_905 (by decide) ?_
    refine W.widen (k := cells + 100) (n := slots + 8000) (by omega) (by omega) ?_
    exact kk _ _ _ _ _ _ _ _ _ _ _ _ hI (hP.sub [0, 1, 3, 4, 2] rfl) (hD.sub [0, 1, 3, 4, 2] (by decide) rfl) hS (lv_sub hl [2, 3, 4, 5, 6] rfl)
  · have hP1 : va_P D vwCl [(x, .inr (2, [.ref n, .int kn, .int ch])), (n, .inl (cJ, 8, .inr (.inl f))), (o, .inr (3, [.long vn, sr]))] H := hP1
    have hD1 : va_D _ [(x, .inr (2, [.ref n, .int kn, .int ch])), (n, .inl (cJ, 8, .inr (.inl f))), (o, .inr (3, [.long vn, sr]))] := hD1
    obtain ⟨hP, hD⟩ := va_join (wr := [(y, .inr (4, [.int th, .ref n2, .int kn2, .int td])), (n2, .inl (cJ, 8, .inr (.inl g)))]) (wc := [(x, .inr (2, [.ref n, .int kn, .int ch])), (n, .inl (cJ, 8, .inr (.inl f))), (o, .inr (3, [.long vn, sr]))]) (w1 := [(x, .inr (2, [.ref n, .int kn, .int ch])), (n, .inl (cJ, 8, .inr (.inl f))), (o, .inr (3, [.long vn, sr]))]) hP hD [0, 1, 4] [2, 3] rfl rfl (by decide) (by decide) hk hFc hP1 hD1
    have hP : va_P D vwCl [(y, .inr (4, [.int th, .ref n2, .int kn2, .int td])), (n2, .inl (cJ, 8, .inr (.inl g))), (x, .inr (2, [.ref n, .int kn, .int ch])), (n, .inl (cJ, 8, .inr (.inl f))), (o, .inr (3, [.long vn, sr]))] H := hP
    have hD : va_D A [(y, .inr (4, [.int th, .ref n2, .int kn2, .int td])), (n2, .inl (cJ, 8, .inr (.inl g))), (x, .inr (2, [.ref n, .int kn, .int ch])), (n, .inl (cJ, 8, .inr (.inl f))), (o, .inr (3, [.long vn, sr]))] := hD
    refine W.eq (g2 := F0 m 885 ls [.int (k_cd E9)]) rfl ?_
    refine lv_istore (lv' := [(5, .int (k_cd E9)), (4, .int i), (3, .ref o), (2, .ref y), (1, .ref x), (0, .ref b)]) hx hb dL_law_885 hl (by decide) rfl (fun ls hl => ?_)
    refine lv_aload_n hx hb dL_law_887 rfl (lv_at hl 3 rfl) ?_
    refine lv_aload_n hx hb dL_law_888 rfl (lv_at hl 5 rfl) ?_
    refine lv_iload hx hb dL_law_889 (lv_at hl 1 rfl) ?_
    refine lv_iconst (v := 1) hx hb dL_law_891 (by decide) ?_
    refine lv_iadd hx hb dL_law_892 ?_
    refine va_sld hx hb hX hbl hbA hS hi1 dL_law_893 ?_
    rw [ha1]
    refine lv_aload_n hx hb dL_law_894 rfl (lv_at hl 5 rfl) ?_
    refine lv_iload hx hb dL_law_895 (lv_at hl 1 rfl) ?_
    refine lv_iconst (v := 2) hx hb dL_law_897 (by decide) ?_
    refine lv_iadd hx hb dL_law_898 ?_
    refine va_sld hx hb hX hbl hbA hS hi2 dL_law_899 ?_
    rw [ha2]
    have hFc := va_free (wc := [(y, .inr (4, [.int th, .ref n2, .int kn2, .int td])), (n2, .inl (cJ, 8, .inr (.inl g)))]) hD hS hA [0, 1] rfl
    have hT9 := tm_isAhead hI th a1 a2
    refine k_go (va_runV (As := [.int a1, .int a2]) (rest := []) ⟨hx, hb, hml, hown, hts⟩ (c_X2_isAhead l D cB cJ _ y n2 th g kn2 td (hP.sub [0, 1] rfl) ((hD.sub [0, 1] (by decide) rfl).weaken (fun _ _ _ _ => trivial)) a1 a2 hT9) (cwV 2 hts gL_law_X2_isAhead rfl rfl rfl (by decide +kernel) ⟨(Nat.le_of_ble_eq_true rfl), (Nat.le_of_ble_eq_true rfl)⟩) (k_preV hE hS hFc (va_recv hK hP (ci := 4) (q0 := 0) rfl rfl)) rfl rfl hl.1 rfl (lv_room (Nat.le_of_ble_eq_true rfl)) dL_law_900 ⟨by show _ ≤ (747762 : Nat); omega, by show _ ≤ (6852817 : Nat); omega⟩) hS (fun q _ h => hFc q h) hFc (fun v H locs hp hz hk hS => ?_)
    obtain ⟨rfl, hP1, hD1⟩ := hp
    have hP1 : va_P D vwCl [(y, .inr (4, [.int ((j_X2_isAhead th g kn2 td a1 a2).2.1), .ref n2, .int ((j_X2_isAhead th g kn2 td a1 a2).2.2.2.1), .int ((j_X2_isAhead th g kn2 td a1 a2).2.2.2.2)])), (n2, .inl (cJ, 8, .inr (.inl ((j_X2_isAhead th g kn2 td a1 a2).2.2.1))))] H := hP1
    have hD1 : va_D _ [(y, .inr (4, [.int ((j_X2_isAhead th g kn2 td a1 a2).2.1), .ref n2, .int ((j_X2_isAhead th g kn2 td a1 a2).2.2.2.1), .int ((j_X2_isAhead th g kn2 td a1 a2).2.2.2.2)])), (n2, .inl (cJ, 8, .inr (.inl ((j_X2_isAhead th g kn2 td a1 a2).2.2.1))))] := hD1
    obtain ⟨hP, hD⟩ := va_join (wr := [(x, .inr (2, [.ref n, .int kn, .int ch])), (n, .inl (cJ, 8, .inr (.inl f))), (o, .inr (3, [.long vn, sr]))]) (wc := [(y, .inr (4, [.int th, .ref n2, .int kn2, .int td])), (n2, .inl (cJ, 8, .inr (.inl g)))]) (w1 := [(y, .inr (4, [.int ((j_X2_isAhead th g kn2 td a1 a2).2.1), .ref n2, .int ((j_X2_isAhead th g kn2 td a1 a2).2.2.2.1), .int ((j_X2_isAhead th g kn2 td a1 a2).2.2.2.2)])), (n2, .inl (cJ, 8, .inr (.inl ((j_X2_isAhead th g kn2 td a1 a2).2.2.1))))]) hP hD [0, 1] [2, 3, 4] rfl rfl (by decide) (by decide) hk hFc hP1 hD1
    have hP : va_P D vwCl [(x, .inr (2, [.ref n, .int kn, .int ch])), (n, .inl (cJ, 8, .inr (.inl f))), (o, .inr (3, [.long vn, sr])), (y, .inr (4, [.int ((j_X2_isAhead th g kn2 td a1 a2).2.1), .ref n2, .int ((j_X2_isAhead th g kn2 td a1 a2).2.2.2.1), .int ((j_X2_isAhead th g kn2 td a1 a2).2.2.2.2)])), (n2, .inl (cJ, 8, .inr (.inl ((j_X2_isAhead th g kn2 td a1 a2).2.2.1))))] H := hP
    have hD : va_D A [(x, .inr (2, [.ref n, .int kn, .int ch])), (n, .inl (cJ, 8, .inr (.inl f))), (o, .inr (3, [.long vn, sr])), (y, .inr (4, [.int ((j_X2_isAhead th g kn2 td a1 a2).2.1), .ref n2, .int ((j_X2_isAhead th g kn2 td a1 a2).2.2.2.1), .int ((j_X2_isAhead th g kn2 td a1 a2).2.2.2.2)])), (n2, .inl (cJ, 8, .inr (.inl ((j_X2_isAhead th g kn2 td a1 a2).2.2.1))))] := hD
    obtain ⟨hth, hI⟩ := (st_isAhead hI th a1 a2).2 _ hJ9
    refine W.eq (g2 := F0 m 903 ls [.int ((j_X2_isAhead th g kn2 td a1 a2).1)]) rfl ?_
    refine lv_istore (lv' := [(6, .int ((j_X2_isAhead th g kn2 td a1 a2).1)), (5, .int (k_cd E9)), (4, .int i), (3, .ref o), (2, .ref y), (1, .ref x), (0, .ref b)]) hx hb dL_law_903 hl (by decide) rfl (fun ls hl => ?_)
    refine lv_goto (tgt := 1162) hx hb dL_law_905 (by decide) ?_
    refine W.widen (k := cells + 100) (n := slots + 8000) (by omega) (by omega) ?_
    exact kk _ _ _ _ _ _ _ _ _ _ _ _ hI (hP.sub [0, 1, 3, 4, 2] rfl) (hD.sub [0, 1, 3, 4, 2] (by decide) rfl) hS (lv_sub hl [2, 3, 4, 5, 6] rfl)
set_option maxHeartbeats 4000000 in
set_option maxRecDepth 100000 in
theorem lc_isBehind {p : Program} {l : Launch} {e : Env} {s : State} {m : MethodId} {below : List Frame} {meth : Method} {c : Code} {D : va_G} {cB cJ : ClassId} {A : Nat → Prop} {Q : State → Prop} {b L x n y n2 o : Nat} {xs : Nat → Int32} (hl9 : l.stackTraces = false) (hx : p.tables.exec = Jvm.exec) (hb : c.code = code) (hml : c.maxLocals = 7) (hown : s.vm.findClass RL = some m.cls) (hts : ∀ w ∈ wsL_law, w.before #[Value.ref b] s = true) (hE : kE D cB cJ A s s.heap) (hN : kN s) (hA : ∀ q : Nat, s.heap.size ≤ q → A q) (hX : va_X b L xs s s.heap) (hbl : b < s.heap.size) (hbA : ¬ A b) {i : Int32} {a1 : Int32} (hi1 : vp_in (i + 1) L) (ha1 : xs (i + 1).toNatClampNeg = a1) {a2 : Int32} (hi2 : vp_in (i + 2) L) (ha2 : xs (i + 2).toNatClampNeg = a2) {a3 : Int32} (hi3 : vp_in (i + 3) L) (ha3 : xs (i + 3).toNatClampNeg = a3) {a4 : Int32} (hi4 : vp_in (i + 4) L) (ha4 : xs (i + 4).toNatClampNeg = a4) {a5 : Int32} (hi5 : vp_in (i + 5) L) (ha5 : xs (i + 5).toNatClampNeg = a5) {kn ch kn2 td th : Int32} {f g : Nat → Int64} {vn : Int64} {sr : Value} {H : Heap} {locs : List Loc} {cells slots : Nat} {ls : Array Slot} (hc9 : cells + 100 ≤ 747762) (hs9 : slots + 8000 ≤ 6852817) (hI : kInv kn ch f kn2 td g) (hP : va_P D vwCl [(x, .inr (2, [.ref n, .int kn, .int ch])), (n, .inl (cJ, 8, .inr (.inl f))), (y, .inr (4, [.int th, .ref n2, .int kn2, .int td])), (n2, .inl (cJ, 8, .inr (.inl g))), (o, .inr (3, [.long vn, sr]))] H) (hD : va_D A [(x, .inr (2, [.ref n, .int kn, .int ch])), (n, .inl (cJ, 8, .inr (.inl f))), (y, .inr (4, [.int th, .ref n2, .int kn2, .int td])), (n2, .inl (cJ, 8, .inr (.inl g))), (o, .inr (3, [.long vn, sr]))]) (hS : va_S A s.heap H locs) (hl : lv_has ls 7 [(4, .int i), (3, .ref o), (2, .ref y), (1, .ref x), (0, .ref b)]) (kk : ∀ (kn ch kn2 td th : Int32) (f g : Nat → Int64) (vn : Int64) (sr : Value) (H : Heap) (locs : List Loc) (ls : Array Slot), kInv kn ch f kn2 td g → va_P D vwCl [(x, .inr (2, [.ref n, .int kn, .int ch])), (n, .inl (cJ, 8, .inr (.inl f))), (y, .inr (4, [.int th, .ref n2, .int kn2, .int td])), (n2, .inl (cJ, 8, .inr (.inl g))), (o, .inr (3, [.long vn, sr]))] H → va_D A [(x, .inr (2, [.ref n, .int kn, .int ch])), (n, .inl (cJ, 8, .inr (.inl f))), (y, .inr (4, [.int th, .ref n2, .int kn2, .int td])), (n2, .inl (cJ, 8, .inr (.inl g))), (o, .inr (3, [.long vn, sr]))] → va_S A s.heap H locs → lv_has ls 7 [(4, .int i), (3, .ref o), (2, .ref y), (1, .ref x), (0, .ref b)] → W p l e room_1 s m #[Value.ref b] below meth c H locs (cells + 100) (slots + 8000) Q (F0 m 1162 ls [])) : W p l e room_1 s m #[Value.ref b] below meth c H locs cells slots Q (F0 m 908 ls []) := by
  have hK := hE.1
  refine lv_aload_n hx hb dL_law_908 rfl (lv_at hl 3 rfl) ?_
  refine lv_aload_n hx hb dL_law_909 rfl (lv_at hl 4 rfl) ?_
  refine lv_iload hx hb dL_law_910 (lv_at hl 0 rfl) ?_
  refine lv_iconst (v := 1) hx hb dL_law_912 (by decide) ?_
  refine lv_iadd hx hb dL_law_913 ?_
  refine va_sld hx hb hX hbl hbA hS hi1 dL_law_914 ?_
  rw [ha1]
  refine lv_aload_n hx hb dL_law_915 rfl (lv_at hl 4 rfl) ?_
  refine lv_iload hx hb dL_law_916 (lv_at hl 0 rfl) ?_
  refine lv_iconst (v := 2) hx hb dL_law_918 (by decide) ?_
  refine lv_iadd hx hb dL_law_919 ?_
  refine va_sld hx hb hX hbl hbA hS hi2 dL_law_920 ?_
  rw [ha2]
  refine lv_aload_n hx hb dL_law_921 rfl (lv_at hl 1 rfl) ?_
  have hFc := va_free (wc := [(x, .inr (2, [.ref n, .int kn, .int ch])), (n, .inl (cJ, 8, .inr (.inl f))), (o, .inr (3, [.long vn, sr]))]) hD hS hA [0, 1, 4] rfl
  refine kx_go (vx_runSX (As := [.ref x, .int a1, .int a2, .ref o]) (rest := []) ⟨hx, hb, hml, hown, hts⟩ (c_L_isBehind l hl9 D cB cJ _ x n o kn ch f vn sr a1 a2 (hP.sub [0, 1, 4] rfl) ((hD.sub [0, 1, 4] (by decide) rfl).weaken (fun _ _ _ _ => trivial))) (vx_cwSW 4 hts gL_law_L_isBehind rfl rfl rfl (by decide +kernel) ⟨(Nat.le_of_ble_eq_true rfl), (Nat.le_of_ble_eq_true rfl)⟩) (k_preSN hE hN hS hFc) rfl rfl hl.1 rfl (lv_room (Nat.le_of_ble_eq_true rfl)) dL_law_922 ⟨by show _ ≤ (747762 : Nat); omega, by show _ ≤ (6852817 : Nat); omega⟩) hS (fun q _ h => hFc q h) hFc (fun E ce q9 H locs hp hz hk hS hce hcv hcl => hp.elim) (fun v H locs hp hz hk hS => ?_)
  rcases hp with ⟨r9, hJ9, rfl, hP1, hD1⟩ | ⟨E9, hJ9, rfl, hP1, hD1⟩
  · have hP1 : va_P D vwCl [(x, .inr (2, [.ref n, .int r9.2.1, .int r9.2.2.1])), (n, .inl (cJ, 8, .inr (.inl r9.2.2.2))), (o, .inr (3, [.long ((fun z : Int32 => if z = 0 then (0 : Int64) else 1) r9.1), sr]))] H := hP1
    have hD1 : va_D _ [(x, .inr (2, [.ref n, .int r9.2.1, .int r9.2.2.1])), (n, .inl (cJ, 8, .inr (.inl r9.2.2.2))), (o, .inr (3, [.long ((fun z : Int32 => if z = 0 then (0 : Int64) else 1) r9.1), sr]))] := hD1
    obtain ⟨hP, hD⟩ := va_join (wr := [(y, .inr (4, [.int th, .ref n2, .int kn2, .int td])), (n2, .inl (cJ, 8, .inr (.inl g)))]) (wc := [(x, .inr (2, [.ref n, .int kn, .int ch])), (n, .inl (cJ, 8, .inr (.inl f))), (o, .inr (3, [.long vn, sr]))]) (w1 := [(x, .inr (2, [.ref n, .int r9.2.1, .int r9.2.2.1])), (n, .inl (cJ, 8, .inr (.inl r9.2.2.2))), (o, .inr (3, [.long ((fun z : Int32 => if z = 0 then (0 : Int64) else 1) r9.1), sr]))]) hP hD [0, 1, 4] [2, 3] rfl rfl (by decide) (by decide) hk hFc hP1 hD1
    have hP : va_P D vwCl [(y, .inr (4, [.int th, .ref n2, .int kn2, .int td])), (n2, .inl (cJ, 8, .inr (.inl g))), (x, .inr (2, [.ref n, .int r9.2.1, .int r9.2.2.1])), (n, .inl (cJ, 8, .inr (.inl r9.2.2.2))), (o, .inr (3, [.long ((fun z : Int32 => if z = 0 then (0 : Int64) else 1) r9.1), sr]))] H := hP
    have hD : va_D A [(y, .inr (4, [.int th, .ref n2, .int kn2, .int td])), (n2, .inl (cJ, 8, .inr (.inl g))), (x, .inr (2, [.ref n, .int r9.2.1, .int r9.2.2.1])), (n, .inl (cJ, 8, .inr (.inl r9.2.2.2))), (o, .inr (3, [.long ((fun z : Int32 => if z = 0 then (0 : Int64) else 1) r9.1), sr]))] := hD
    refine W.eq (g2 := F0 m 925 ls [.int 0]) rfl ?_
    refine lv_istore (lv' := [(5, .int 0), (4, .int i), (3, .ref o), (2, .ref y), (1, .ref x), (0, .ref b)]) hx hb dL_law_925 hl (by decide) rfl (fun ls hl => ?_)
    refine lv_aload_n hx hb dL_law_927 rfl (lv_at hl 3 rfl) ?_
    refine lv_aload_n hx hb dL_law_928 rfl (lv_at hl 5 rfl) ?_
    refine lv_iload hx hb dL_law_929 (lv_at hl 1 rfl) ?_
    refine lv_iconst (v := 1) hx hb dL_law_931 (by decide) ?_
    refine lv_iadd hx hb dL_law_932 ?_
    refine va_sld hx hb hX hbl hbA hS hi1 dL_law_933 ?_
    rw [ha1]
    refine lv_aload_n hx hb dL_law_934 rfl (lv_at hl 5 rfl) ?_
    refine lv_iload hx hb dL_law_935 (lv_at hl 1 rfl) ?_
    refine lv_iconst (v := 2) hx hb dL_law_937 (by decide) ?_
    refine lv_iadd hx hb dL_law_938 ?_
    refine va_sld hx hb hX hbl hbA hS hi2 dL_law_939 ?_
    rw [ha2]
    have hFc := va_free (wc := [(y, .inr (4, [.int th, .ref n2, .int kn2, .int td])), (n2, .inl (cJ, 8, .inr (.inl g)))]) hD hS hA [0, 1] rfl
    have hT9 := tm_isBehind hI th a1 a2
    refine k_go (va_runV (As := [.int a1, .int a2]) (rest := []) ⟨hx, hb, hml, hown, hts⟩ (c_X2_isBehind l D cB cJ _ y n2 th g kn2 td (hP.sub [0, 1] rfl) ((hD.sub [0, 1] (by decide) rfl).weaken (fun _ _ _ _ => trivial)) a1 a2 hT9) (cwV 2 hts gL_law_X2_isBehind rfl rfl rfl (by decide +kernel) ⟨(Nat.le_of_ble_eq_true rfl), (Nat.le_of_ble_eq_true rfl)⟩) (k_preV hE hS hFc (va_recv hK hP (ci := 4) (q0 := 0) rfl rfl)) rfl rfl hl.1 rfl (lv_room (Nat.le_of_ble_eq_true rfl)) dL_law_940 ⟨by show _ ≤ (747762 : Nat); omega, by show _ ≤ (6852817 : Nat); omega⟩) hS (fun q _ h => hFc q h) hFc (fun v H locs hp hz hk hS => ?_)
    obtain ⟨rfl, hP1, hD1⟩ := hp
    have hP1 : va_P D vwCl [(y, .inr (4, [.int ((j_X2_isBehind th g kn2 td a1 a2).2.1), .ref n2, .int ((j_X2_isBehind th g kn2 td a1 a2).2.2.2.1), .int ((j_X2_isBehind th g kn2 td a1 a2).2.2.2.2)])), (n2, .inl (cJ, 8, .inr (.inl ((j_X2_isBehind th g kn2 td a1 a2).2.2.1))))] H := hP1
    have hD1 : va_D _ [(y, .inr (4, [.int ((j_X2_isBehind th g kn2 td a1 a2).2.1), .ref n2, .int ((j_X2_isBehind th g kn2 td a1 a2).2.2.2.1), .int ((j_X2_isBehind th g kn2 td a1 a2).2.2.2.2)])), (n2, .inl (cJ, 8, .inr (.inl ((j_X2_isBehind th g kn2 td a1 a2).2.2.1))))] := hD1
    obtain ⟨hP, hD⟩ := va_join (wr := [(x, .inr (2, [.ref n, .int r9.2.1, .int r9.2.2.1])), (n, .inl (cJ, 8, .inr (.inl r9.2.2.2))), (o, .inr (3, [.long ((fun z : Int32 => if z = 0 then (0 : Int64) else 1) r9.1), sr]))]) (wc := [(y, .inr (4, [.int th, .ref n2, .int kn2, .int td])), (n2, .inl (cJ, 8, .inr (.inl g)))]) (w1 := [(y, .inr (4, [.int ((j_X2_isBehind th g kn2 td a1 a2).2.1), .ref n2, .int ((j_X2_isBehind th g kn2 td a1 a2).2.2.2.1), .int ((j_X2_isBehind th g kn2 td a1 a2).2.2.2.2)])), (n2, .inl (cJ, 8, .inr (.inl ((j_X2_isBehind th g kn2 td a1 a2).2.2.1))))]) hP hD [0, 1] [2, 3, 4] rfl rfl (by decide) (by decide) hk hFc hP1 hD1
    have hP : va_P D vwCl [(x, .inr (2, [.ref n, .int r9.2.1, .int r9.2.2.1])), (n, .inl (cJ, 8, .inr (.inl r9.2.2.2))), (o, .inr (3, [.long ((fun z : Int32 => if z = 0 then (0 : Int64) else 1) r9.1), sr])), (y, .inr (4, [.int ((j_X2_isBehind th g kn2 td a1 a2).2.1), .ref n2, .int ((j_X2_isBehind th g kn2 td a1 a2).2.2.2.1), .int ((j_X2_isBehind th g kn2 td a1 a2).2.2.2.2)])), (n2, .inl (cJ, 8, .inr (.inl ((j_X2_isBehind th g kn2 td a1 a2).2.2.1))))] H := hP
    have hD : va_D A [(x, .inr (2, [.ref n, .int r9.2.1, .int r9.2.2.1])), (n, .inl (cJ, 8, .inr (.inl r9.2.2.2))), (o, .inr (3, [.long ((fun z : Int32 => if z = 0 then (0 : Int64) else 1) r9.1), sr])), (y, .inr (4, [.int ((j_X2_isBehind th g kn2 td a1 a2).2.1), .ref n2, .int ((j_X2_isBehind th g kn2 td a1 a2).2.2.2.1), .int ((j_X2_isBehind th g kn2 td a1 a2).2.2.2.2)])), (n2, .inl (cJ, 8, .inr (.inl ((j_X2_isBehind th g kn2 td a1 a2).2.2.1))))] := hD
    obtain ⟨hth, hrv, hI⟩ := (st_isBehind hI th a1 a2).1 _ hJ9
    refine W.eq (g2 := F0 m 943 ls [.int ((j_X2_isBehind th g kn2 td a1 a2).1)]) rfl ?_
    refine lv_istore (lv' := [(6, .int ((j_X2_isBehind th g kn2 td a1 a2).1)), (5, .int 0), (4, .int i), (3, .ref o), (2, .ref y), (1, .ref x), (0, .ref b)]) hx hb dL_law_943 hl (by decide) rfl (fun ls hl => ?_)
    refine lv_goto (tgt := 1162) hx hb dL_law_945 (by decide) ?_
    refine W.widen (k := cells + 100) (n := slots + 8000) (by omega) (by omega) ?_
    exact kk _ _ _ _ _ _ _ _ _ _ _ _ hI (hP.sub [0, 1, 3, 4, 2] rfl) (hD.sub [0, 1, 3, 4, 2] (by decide) rfl) hS (lv_sub hl [2, 3, 4, 5, 6] rfl)
  · have hP1 : va_P D vwCl [(x, .inr (2, [.ref n, .int kn, .int ch])), (n, .inl (cJ, 8, .inr (.inl f))), (o, .inr (3, [.long vn, sr]))] H := hP1
    have hD1 : va_D _ [(x, .inr (2, [.ref n, .int kn, .int ch])), (n, .inl (cJ, 8, .inr (.inl f))), (o, .inr (3, [.long vn, sr]))] := hD1
    obtain ⟨hP, hD⟩ := va_join (wr := [(y, .inr (4, [.int th, .ref n2, .int kn2, .int td])), (n2, .inl (cJ, 8, .inr (.inl g)))]) (wc := [(x, .inr (2, [.ref n, .int kn, .int ch])), (n, .inl (cJ, 8, .inr (.inl f))), (o, .inr (3, [.long vn, sr]))]) (w1 := [(x, .inr (2, [.ref n, .int kn, .int ch])), (n, .inl (cJ, 8, .inr (.inl f))), (o, .inr (3, [.long vn, sr]))]) hP hD [0, 1, 4] [2, 3] rfl rfl (by decide) (by decide) hk hFc hP1 hD1
    have hP : va_P D vwCl [(y, .inr (4, [.int th, .ref n2, .int kn2, .int td])), (n2, .inl (cJ, 8, .inr (.inl g))), (x, .inr (2, [.ref n, .int kn, .int ch])), (n, .inl (cJ, 8, .inr (.inl f))), (o, .inr (3, [.long vn, sr]))] H := hP
    have hD : va_D A [(y, .inr (4, [.int th, .ref n2, .int kn2, .int td])), (n2, .inl (cJ, 8, .inr (.inl g))), (x, .inr (2, [.ref n, .int kn, .int ch])), (n, .inl (cJ, 8, .inr (.inl f))), (o, .inr (3, [.long vn, sr]))] := hD
    refine W.eq (g2 := F0 m 925 ls [.int (k_cd E9)]) rfl ?_
    refine lv_istore (lv' := [(5, .int (k_cd E9)), (4, .int i), (3, .ref o), (2, .ref y), (1, .ref x), (0, .ref b)]) hx hb dL_law_925 hl (by decide) rfl (fun ls hl => ?_)
    refine lv_aload_n hx hb dL_law_927 rfl (lv_at hl 3 rfl) ?_
    refine lv_aload_n hx hb dL_law_928 rfl (lv_at hl 5 rfl) ?_
    refine lv_iload hx hb dL_law_929 (lv_at hl 1 rfl) ?_
    refine lv_iconst (v := 1) hx hb dL_law_931 (by decide) ?_
    refine lv_iadd hx hb dL_law_932 ?_
    refine va_sld hx hb hX hbl hbA hS hi1 dL_law_933 ?_
    rw [ha1]
    refine lv_aload_n hx hb dL_law_934 rfl (lv_at hl 5 rfl) ?_
    refine lv_iload hx hb dL_law_935 (lv_at hl 1 rfl) ?_
    refine lv_iconst (v := 2) hx hb dL_law_937 (by decide) ?_
    refine lv_iadd hx hb dL_law_938 ?_
    refine va_sld hx hb hX hbl hbA hS hi2 dL_law_939 ?_
    rw [ha2]
    have hFc := va_free (wc := [(y, .inr (4, [.int th, .ref n2, .int kn2, .int td])), (n2, .inl (cJ, 8, .inr (.inl g)))]) hD hS hA [0, 1] rfl
    have hT9 := tm_isBehind hI th a1 a2
    refine k_go (va_runV (As := [.int a1, .int a2]) (rest := []) ⟨hx, hb, hml, hown, hts⟩ (c_X2_isBehind l D cB cJ _ y n2 th g kn2 td (hP.sub [0, 1] rfl) ((hD.sub [0, 1] (by decide) rfl).weaken (fun _ _ _ _ => trivial)) a1 a2 hT9) (cwV 2 hts gL_law_X2_isBehind rfl rfl rfl (by decide +kernel) ⟨(Nat.le_of_ble_eq_true rfl), (Nat.le_of_ble_eq_true rfl)⟩) (k_preV hE hS hFc (va_recv hK hP (ci := 4) (q0 := 0) rfl rfl)) rfl rfl hl.1 rfl (lv_room (Nat.le_of_ble_eq_true rfl)) dL_law_940 ⟨by show _ ≤ (747762 : Nat); omega, by show _ ≤ (6852817 : Nat); omega⟩) hS (fun q _ h => hFc q h) hFc (fun v H locs hp hz hk hS => ?_)
    obtain ⟨rfl, hP1, hD1⟩ := hp
    have hP1 : va_P D vwCl [(y, .inr (4, [.int ((j_X2_isBehind th g kn2 td a1 a2).2.1), .ref n2, .int ((j_X2_isBehind th g kn2 td a1 a2).2.2.2.1), .int ((j_X2_isBehind th g kn2 td a1 a2).2.2.2.2)])), (n2, .inl (cJ, 8, .inr (.inl ((j_X2_isBehind th g kn2 td a1 a2).2.2.1))))] H := hP1
    have hD1 : va_D _ [(y, .inr (4, [.int ((j_X2_isBehind th g kn2 td a1 a2).2.1), .ref n2, .int ((j_X2_isBehind th g kn2 td a1 a2).2.2.2.1), .int ((j_X2_isBehind th g kn2 td a1 a2).2.2.2.2)])), (n2, .inl (cJ, 8, .inr (.inl ((j_X2_isBehind th g kn2 td a1 a2).2.2.1))))] := hD1
    obtain ⟨hP, hD⟩ := va_join (wr := [(x, .inr (2, [.ref n, .int kn, .int ch])), (n, .inl (cJ, 8, .inr (.inl f))), (o, .inr (3, [.long vn, sr]))]) (wc := [(y, .inr (4, [.int th, .ref n2, .int kn2, .int td])), (n2, .inl (cJ, 8, .inr (.inl g)))]) (w1 := [(y, .inr (4, [.int ((j_X2_isBehind th g kn2 td a1 a2).2.1), .ref n2, .int ((j_X2_isBehind th g kn2 td a1 a2).2.2.2.1), .int ((j_X2_isBehind th g kn2 td a1 a2).2.2.2.2)])), (n2, .inl (cJ, 8, .inr (.inl ((j_X2_isBehind th g kn2 td a1 a2).2.2.1))))]) hP hD [0, 1] [2, 3, 4] rfl rfl (by decide) (by decide) hk hFc hP1 hD1
    have hP : va_P D vwCl [(x, .inr (2, [.ref n, .int kn, .int ch])), (n, .inl (cJ, 8, .inr (.inl f))), (o, .inr (3, [.long vn, sr])), (y, .inr (4, [.int ((j_X2_isBehind th g kn2 td a1 a2).2.1), .ref n2, .int ((j_X2_isBehind th g kn2 td a1 a2).2.2.2.1), .int ((j_X2_isBehind th g kn2 td a1 a2).2.2.2.2)])), (n2, .inl (cJ, 8, .inr (.inl ((j_X2_isBehind th g kn2 td a1 a2).2.2.1))))] H := hP
    have hD : va_D A [(x, .inr (2, [.ref n, .int kn, .int ch])), (n, .inl (cJ, 8, .inr (.inl f))), (o, .inr (3, [.long vn, sr])), (y, .inr (4, [.int ((j_X2_isBehind th g kn2 td a1 a2).2.1), .ref n2, .int ((j_X2_isBehind th g kn2 td a1 a2).2.2.2.1), .int ((j_X2_isBehind th g kn2 td a1 a2).2.2.2.2)])), (n2, .inl (cJ, 8, .inr (.inl ((j_X2_isBehind th g kn2 td a1 a2).2.2.1))))] := hD
    obtain ⟨hth, hI⟩ := (st_isBehind hI th a1 a2).2 _ hJ9
    refine W.eq (g2 := F0 m 943 ls [.int ((j_X2_isBehind th g kn2 td a1 a2).1)]) rfl ?_
    refine lv_istore (lv' := [(6, .int ((j_X2_isBehind th g kn2 td a1 a2).1)), (5, .int (k_cd E9)), (4, .int i), (3, .ref o), (2, .ref y), (1, .ref x), (0, .ref b)]) hx hb dL_law_943 hl (by decide) rfl (fun ls hl => ?_)
    refine lv_goto (tgt := 1162) hx hb dL_law_945 (by decide) ?_
    refine W.widen (k := cells + 100) (n := slots + 8000) (by omega) (by omega) ?_
    exact kk _ _ _ _ _ _ _ _ _ _ _ _ hI (hP.sub [0, 1, 3, 4, 2] rfl) (hD.sub [0, 1, 3, 4, 2] (by decide) rfl) hS (lv_sub hl [2, 3, 4, 5, 6] rfl)
set_option maxHeartbeats 4000000 in
set_option maxRecDepth 100000 in
theorem lc_areAlike {p : Program} {l : Launch} {e : Env} {s : State} {m : MethodId} {below : List Frame} {meth : Method} {c : Code} {D : va_G} {cB cJ : ClassId} {A : Nat → Prop} {Q : State → Prop} {b L x n y n2 o : Nat} {xs : Nat → Int32} (hl9 : l.stackTraces = false) (hx : p.tables.exec = Jvm.exec) (hb : c.code = code) (hml : c.maxLocals = 7) (hown : s.vm.findClass RL = some m.cls) (hts : ∀ w ∈ wsL_law, w.before #[Value.ref b] s = true) (hE : kE D cB cJ A s s.heap) (hN : kN s) (hA : ∀ q : Nat, s.heap.size ≤ q → A q) (hX : va_X b L xs s s.heap) (hbl : b < s.heap.size) (hbA : ¬ A b) {i : Int32} {a1 : Int32} (hi1 : vp_in (i + 1) L) (ha1 : xs (i + 1).toNatClampNeg = a1) {a2 : Int32} (hi2 : vp_in (i + 2) L) (ha2 : xs (i + 2).toNatClampNeg = a2) {a3 : Int32} (hi3 : vp_in (i + 3) L) (ha3 : xs (i + 3).toNatClampNeg = a3) {a4 : Int32} (hi4 : vp_in (i + 4) L) (ha4 : xs (i + 4).toNatClampNeg = a4) {a5 : Int32} (hi5 : vp_in (i + 5) L) (ha5 : xs (i + 5).toNatClampNeg = a5) {kn ch kn2 td th : Int32} {f g : Nat → Int64} {vn : Int64} {sr : Value} {H : Heap} {locs : List Loc} {cells slots : Nat} {ls : Array Slot} (hc9 : cells + 100 ≤ 747762) (hs9 : slots + 8000 ≤ 6852817) (hI : kInv kn ch f kn2 td g) (hP : va_P D vwCl [(x, .inr (2, [.ref n, .int kn, .int ch])), (n, .inl (cJ, 8, .inr (.inl f))), (y, .inr (4, [.int th, .ref n2, .int kn2, .int td])), (n2, .inl (cJ, 8, .inr (.inl g))), (o, .inr (3, [.long vn, sr]))] H) (hD : va_D A [(x, .inr (2, [.ref n, .int kn, .int ch])), (n, .inl (cJ, 8, .inr (.inl f))), (y, .inr (4, [.int th, .ref n2, .int kn2, .int td])), (n2, .inl (cJ, 8, .inr (.inl g))), (o, .inr (3, [.long vn, sr]))]) (hS : va_S A s.heap H locs) (hl : lv_has ls 7 [(4, .int i), (3, .ref o), (2, .ref y), (1, .ref x), (0, .ref b)]) (kk : ∀ (kn ch kn2 td th : Int32) (f g : Nat → Int64) (vn : Int64) (sr : Value) (H : Heap) (locs : List Loc) (ls : Array Slot), kInv kn ch f kn2 td g → va_P D vwCl [(x, .inr (2, [.ref n, .int kn, .int ch])), (n, .inl (cJ, 8, .inr (.inl f))), (y, .inr (4, [.int th, .ref n2, .int kn2, .int td])), (n2, .inl (cJ, 8, .inr (.inl g))), (o, .inr (3, [.long vn, sr]))] H → va_D A [(x, .inr (2, [.ref n, .int kn, .int ch])), (n, .inl (cJ, 8, .inr (.inl f))), (y, .inr (4, [.int th, .ref n2, .int kn2, .int td])), (n2, .inl (cJ, 8, .inr (.inl g))), (o, .inr (3, [.long vn, sr]))] → va_S A s.heap H locs → lv_has ls 7 [(4, .int i), (3, .ref o), (2, .ref y), (1, .ref x), (0, .ref b)] → W p l e room_1 s m #[Value.ref b] below meth c H locs (cells + 100) (slots + 8000) Q (F0 m 1162 ls [])) : W p l e room_1 s m #[Value.ref b] below meth c H locs cells slots Q (F0 m 948 ls []) := by
  have hK := hE.1
  refine lv_aload_n hx hb dL_law_948 rfl (lv_at hl 3 rfl) ?_
  refine lv_aload_n hx hb dL_law_949 rfl (lv_at hl 4 rfl) ?_
  refine lv_iload hx hb dL_law_950 (lv_at hl 0 rfl) ?_
  refine lv_iconst (v := 1) hx hb dL_law_952 (by decide) ?_
  refine lv_iadd hx hb dL_law_953 ?_
  refine va_sld hx hb hX hbl hbA hS hi1 dL_law_954 ?_
  rw [ha1]
  refine lv_aload_n hx hb dL_law_955 rfl (lv_at hl 4 rfl) ?_
  refine lv_iload hx hb dL_law_956 (lv_at hl 0 rfl) ?_
  refine lv_iconst (v := 2) hx hb dL_law_958 (by decide) ?_
  refine lv_iadd hx hb dL_law_959 ?_
  refine va_sld hx hb hX hbl hbA hS hi2 dL_law_960 ?_
  rw [ha2]
  refine lv_aload_n hx hb dL_law_961 rfl (lv_at hl 1 rfl) ?_
  have hFc := va_free (wc := [(x, .inr (2, [.ref n, .int kn, .int ch])), (n, .inl (cJ, 8, .inr (.inl f))), (o, .inr (3, [.long vn, sr]))]) hD hS hA [0, 1, 4] rfl
  refine kx_go (vx_runSX (As := [.ref x, .int a1, .int a2, .ref o]) (rest := []) ⟨hx, hb, hml, hown, hts⟩ (c_L_areAlike l hl9 D cB cJ _ x n o kn ch f vn sr a1 a2 (hP.sub [0, 1, 4] rfl) ((hD.sub [0, 1, 4] (by decide) rfl).weaken (fun _ _ _ _ => trivial))) (vx_cwSW 4 hts gL_law_L_areAlike rfl rfl rfl (by decide +kernel) ⟨(Nat.le_of_ble_eq_true rfl), (Nat.le_of_ble_eq_true rfl)⟩) (k_preSN hE hN hS hFc) rfl rfl hl.1 rfl (lv_room (Nat.le_of_ble_eq_true rfl)) dL_law_962 ⟨by show _ ≤ (747762 : Nat); omega, by show _ ≤ (6852817 : Nat); omega⟩) hS (fun q _ h => hFc q h) hFc (fun E ce q9 H locs hp hz hk hS hce hcv hcl => hp.elim) (fun v H locs hp hz hk hS => ?_)
  rcases hp with ⟨r9, hJ9, rfl, hP1, hD1⟩ | ⟨E9, hJ9, rfl, hP1, hD1⟩
  · have hP1 : va_P D vwCl [(x, .inr (2, [.ref n, .int r9.2.1, .int r9.2.2.1])), (n, .inl (cJ, 8, .inr (.inl r9.2.2.2))), (o, .inr (3, [.long ((fun z : Int32 => if z = 0 then (0 : Int64) else 1) r9.1), sr]))] H := hP1
    have hD1 : va_D _ [(x, .inr (2, [.ref n, .int r9.2.1, .int r9.2.2.1])), (n, .inl (cJ, 8, .inr (.inl r9.2.2.2))), (o, .inr (3, [.long ((fun z : Int32 => if z = 0 then (0 : Int64) else 1) r9.1), sr]))] := hD1
    obtain ⟨hP, hD⟩ := va_join (wr := [(y, .inr (4, [.int th, .ref n2, .int kn2, .int td])), (n2, .inl (cJ, 8, .inr (.inl g)))]) (wc := [(x, .inr (2, [.ref n, .int kn, .int ch])), (n, .inl (cJ, 8, .inr (.inl f))), (o, .inr (3, [.long vn, sr]))]) (w1 := [(x, .inr (2, [.ref n, .int r9.2.1, .int r9.2.2.1])), (n, .inl (cJ, 8, .inr (.inl r9.2.2.2))), (o, .inr (3, [.long ((fun z : Int32 => if z = 0 then (0 : Int64) else 1) r9.1), sr]))]) hP hD [0, 1, 4] [2, 3] rfl rfl (by decide) (by decide) hk hFc hP1 hD1
    have hP : va_P D vwCl [(y, .inr (4, [.int th, .ref n2, .int kn2, .int td])), (n2, .inl (cJ, 8, .inr (.inl g))), (x, .inr (2, [.ref n, .int r9.2.1, .int r9.2.2.1])), (n, .inl (cJ, 8, .inr (.inl r9.2.2.2))), (o, .inr (3, [.long ((fun z : Int32 => if z = 0 then (0 : Int64) else 1) r9.1), sr]))] H := hP
    have hD : va_D A [(y, .inr (4, [.int th, .ref n2, .int kn2, .int td])), (n2, .inl (cJ, 8, .inr (.inl g))), (x, .inr (2, [.ref n, .int r9.2.1, .int r9.2.2.1])), (n, .inl (cJ, 8, .inr (.inl r9.2.2.2))), (o, .inr (3, [.long ((fun z : Int32 => if z = 0 then (0 : Int64) else 1) r9.1), sr]))] := hD
    refine W.eq (g2 := F0 m 965 ls [.int 0]) rfl ?_
    refine lv_istore (lv' := [(5, .int 0), (4, .int i), (3, .ref o), (2, .ref y), (1, .ref x), (0, .ref b)]) hx hb dL_law_965 hl (by decide) rfl (fun ls hl => ?_)
    refine lv_aload_n hx hb dL_law_967 rfl (lv_at hl 3 rfl) ?_
    refine lv_aload_n hx hb dL_law_968 rfl (lv_at hl 5 rfl) ?_
    refine lv_iload hx hb dL_law_969 (lv_at hl 1 rfl) ?_
    refine lv_iconst (v := 1) hx hb dL_law_971 (by decide) ?_
    refine lv_iadd hx hb dL_law_972 ?_
    refine va_sld hx hb hX hbl hbA hS hi1 dL_law_973 ?_
    rw [ha1]
    refine lv_aload_n hx hb dL_law_974 rfl (lv_at hl 5 rfl) ?_
    refine lv_iload hx hb dL_law_975 (lv_at hl 1 rfl) ?_
    refine lv_iconst (v := 2) hx hb dL_law_977 (by decide) ?_
    refine lv_iadd hx hb dL_law_978 ?_
    refine va_sld hx hb hX hbl hbA hS hi2 dL_law_979 ?_
    rw [ha2]
    have hFc := va_free (wc := [(y, .inr (4, [.int th, .ref n2, .int kn2, .int td])), (n2, .inl (cJ, 8, .inr (.inl g)))]) hD hS hA [0, 1] rfl
    have hT9 := tm_areAlike hI th a1 a2
    refine k_go (va_runV (As := [.int a1, .int a2]) (rest := []) ⟨hx, hb, hml, hown, hts⟩ (c_X2_areAlike l D cB cJ _ y n2 th g kn2 td (hP.sub [0, 1] rfl) ((hD.sub [0, 1] (by decide) rfl).weaken (fun _ _ _ _ => trivial)) a1 a2 hT9) (cwV 2 hts gL_law_X2_areAlike rfl rfl rfl (by decide +kernel) ⟨(Nat.le_of_ble_eq_true rfl), (Nat.le_of_ble_eq_true rfl)⟩) (k_preV hE hS hFc (va_recv hK hP (ci := 4) (q0 := 0) rfl rfl)) rfl rfl hl.1 rfl (lv_room (Nat.le_of_ble_eq_true rfl)) dL_law_980 ⟨by show _ ≤ (747762 : Nat); omega, by show _ ≤ (6852817 : Nat); omega⟩) hS (fun q _ h => hFc q h) hFc (fun v H locs hp hz hk hS => ?_)
    obtain ⟨rfl, hP1, hD1⟩ := hp
    have hP1 : va_P D vwCl [(y, .inr (4, [.int ((j_X2_areAlike th g kn2 td a1 a2).2.1), .ref n2, .int ((j_X2_areAlike th g kn2 td a1 a2).2.2.2.1), .int ((j_X2_areAlike th g kn2 td a1 a2).2.2.2.2)])), (n2, .inl (cJ, 8, .inr (.inl ((j_X2_areAlike th g kn2 td a1 a2).2.2.1))))] H := hP1
    have hD1 : va_D _ [(y, .inr (4, [.int ((j_X2_areAlike th g kn2 td a1 a2).2.1), .ref n2, .int ((j_X2_areAlike th g kn2 td a1 a2).2.2.2.1), .int ((j_X2_areAlike th g kn2 td a1 a2).2.2.2.2)])), (n2, .inl (cJ, 8, .inr (.inl ((j_X2_areAlike th g kn2 td a1 a2).2.2.1))))] := hD1
    obtain ⟨hP, hD⟩ := va_join (wr := [(x, .inr (2, [.ref n, .int r9.2.1, .int r9.2.2.1])), (n, .inl (cJ, 8, .inr (.inl r9.2.2.2))), (o, .inr (3, [.long ((fun z : Int32 => if z = 0 then (0 : Int64) else 1) r9.1), sr]))]) (wc := [(y, .inr (4, [.int th, .ref n2, .int kn2, .int td])), (n2, .inl (cJ, 8, .inr (.inl g)))]) (w1 := [(y, .inr (4, [.int ((j_X2_areAlike th g kn2 td a1 a2).2.1), .ref n2, .int ((j_X2_areAlike th g kn2 td a1 a2).2.2.2.1), .int ((j_X2_areAlike th g kn2 td a1 a2).2.2.2.2)])), (n2, .inl (cJ, 8, .inr (.inl ((j_X2_areAlike th g kn2 td a1 a2).2.2.1))))]) hP hD [0, 1] [2, 3, 4] rfl rfl (by decide) (by decide) hk hFc hP1 hD1
    have hP : va_P D vwCl [(x, .inr (2, [.ref n, .int r9.2.1, .int r9.2.2.1])), (n, .inl (cJ, 8, .inr (.inl r9.2.2.2))), (o, .inr (3, [.long ((fun z : Int32 => if z = 0 then (0 : Int64) else 1) r9.1), sr])), (y, .inr (4, [.int ((j_X2_areAlike th g kn2 td a1 a2).2.1), .ref n2, .int ((j_X2_areAlike th g kn2 td a1 a2).2.2.2.1), .int ((j_X2_areAlike th g kn2 td a1 a2).2.2.2.2)])), (n2, .inl (cJ, 8, .inr (.inl ((j_X2_areAlike th g kn2 td a1 a2).2.2.1))))] H := hP
    have hD : va_D A [(x, .inr (2, [.ref n, .int r9.2.1, .int r9.2.2.1])), (n, .inl (cJ, 8, .inr (.inl r9.2.2.2))), (o, .inr (3, [.long ((fun z : Int32 => if z = 0 then (0 : Int64) else 1) r9.1), sr])), (y, .inr (4, [.int ((j_X2_areAlike th g kn2 td a1 a2).2.1), .ref n2, .int ((j_X2_areAlike th g kn2 td a1 a2).2.2.2.1), .int ((j_X2_areAlike th g kn2 td a1 a2).2.2.2.2)])), (n2, .inl (cJ, 8, .inr (.inl ((j_X2_areAlike th g kn2 td a1 a2).2.2.1))))] := hD
    obtain ⟨hth, hrv, hI⟩ := (st_areAlike hI th a1 a2).1 _ hJ9
    refine W.eq (g2 := F0 m 983 ls [.int ((j_X2_areAlike th g kn2 td a1 a2).1)]) rfl ?_
    refine lv_istore (lv' := [(6, .int ((j_X2_areAlike th g kn2 td a1 a2).1)), (5, .int 0), (4, .int i), (3, .ref o), (2, .ref y), (1, .ref x), (0, .ref b)]) hx hb dL_law_983 hl (by decide) rfl (fun ls hl => ?_)
    refine lv_goto (tgt := 1162) hx hb dL_law_985 (by decide) ?_
    refine W.widen (k := cells + 100) (n := slots + 8000) (by omega) (by omega) ?_
    exact kk _ _ _ _ _ _ _ _ _ _ _ _ hI (hP.sub [0, 1, 3, 4, 2] rfl) (hD.sub [0, 1, 3, 4, 2] (by decide) rfl) hS (lv_sub hl [2, 3, 4, 5, 6] rfl)
  · have hP1 : va_P D vwCl [(x, .inr (2, [.ref n, .int kn, .int ch])), (n, .inl (cJ, 8, .inr (.inl f))), (o, .inr (3, [.long vn, sr]))] H := hP1
    have hD1 : va_D _ [(x, .inr (2, [.ref n, .int kn, .int ch])), (n, .inl (cJ, 8, .inr (.inl f))), (o, .inr (3, [.long vn, sr]))] := hD1
    obtain ⟨hP, hD⟩ := va_join (wr := [(y, .inr (4, [.int th, .ref n2, .int kn2, .int td])), (n2, .inl (cJ, 8, .inr (.inl g)))]) (wc := [(x, .inr (2, [.ref n, .int kn, .int ch])), (n, .inl (cJ, 8, .inr (.inl f))), (o, .inr (3, [.long vn, sr]))]) (w1 := [(x, .inr (2, [.ref n, .int kn, .int ch])), (n, .inl (cJ, 8, .inr (.inl f))), (o, .inr (3, [.long vn, sr]))]) hP hD [0, 1, 4] [2, 3] rfl rfl (by decide) (by decide) hk hFc hP1 hD1
    have hP : va_P D vwCl [(y, .inr (4, [.int th, .ref n2, .int kn2, .int td])), (n2, .inl (cJ, 8, .inr (.inl g))), (x, .inr (2, [.ref n, .int kn, .int ch])), (n, .inl (cJ, 8, .inr (.inl f))), (o, .inr (3, [.long vn, sr]))] H := hP
    have hD : va_D A [(y, .inr (4, [.int th, .ref n2, .int kn2, .int td])), (n2, .inl (cJ, 8, .inr (.inl g))), (x, .inr (2, [.ref n, .int kn, .int ch])), (n, .inl (cJ, 8, .inr (.inl f))), (o, .inr (3, [.long vn, sr]))] := hD
    refine W.eq (g2 := F0 m 965 ls [.int (k_cd E9)]) rfl ?_
    refine lv_istore (lv' := [(5, .int (k_cd E9)), (4, .int i), (3, .ref o), (2, .ref y), (1, .ref x), (0, .ref b)]) hx hb dL_law_965 hl (by decide) rfl (fun ls hl => ?_)
    refine lv_aload_n hx hb dL_law_967 rfl (lv_at hl 3 rfl) ?_
    refine lv_aload_n hx hb dL_law_968 rfl (lv_at hl 5 rfl) ?_
    refine lv_iload hx hb dL_law_969 (lv_at hl 1 rfl) ?_
    refine lv_iconst (v := 1) hx hb dL_law_971 (by decide) ?_
    refine lv_iadd hx hb dL_law_972 ?_
    refine va_sld hx hb hX hbl hbA hS hi1 dL_law_973 ?_
    rw [ha1]
    refine lv_aload_n hx hb dL_law_974 rfl (lv_at hl 5 rfl) ?_
    refine lv_iload hx hb dL_law_975 (lv_at hl 1 rfl) ?_
    refine lv_iconst (v := 2) hx hb dL_law_977 (by decide) ?_
    refine lv_iadd hx hb dL_law_978 ?_
    refine va_sld hx hb hX hbl hbA hS hi2 dL_law_979 ?_
    rw [ha2]
    have hFc := va_free (wc := [(y, .inr (4, [.int th, .ref n2, .int kn2, .int td])), (n2, .inl (cJ, 8, .inr (.inl g)))]) hD hS hA [0, 1] rfl
    have hT9 := tm_areAlike hI th a1 a2
    refine k_go (va_runV (As := [.int a1, .int a2]) (rest := []) ⟨hx, hb, hml, hown, hts⟩ (c_X2_areAlike l D cB cJ _ y n2 th g kn2 td (hP.sub [0, 1] rfl) ((hD.sub [0, 1] (by decide) rfl).weaken (fun _ _ _ _ => trivial)) a1 a2 hT9) (cwV 2 hts gL_law_X2_areAlike rfl rfl rfl (by decide +kernel) ⟨(Nat.le_of_ble_eq_true rfl), (Nat.le_of_ble_eq_true rfl)⟩) (k_preV hE hS hFc (va_recv hK hP (ci := 4) (q0 := 0) rfl rfl)) rfl rfl hl.1 rfl (lv_room (Nat.le_of_ble_eq_true rfl)) dL_law_980 ⟨by show _ ≤ (747762 : Nat); omega, by show _ ≤ (6852817 : Nat); omega⟩) hS (fun q _ h => hFc q h) hFc (fun v H locs hp hz hk hS => ?_)
    obtain ⟨rfl, hP1, hD1⟩ := hp
    have hP1 : va_P D vwCl [(y, .inr (4, [.int ((j_X2_areAlike th g kn2 td a1 a2).2.1), .ref n2, .int ((j_X2_areAlike th g kn2 td a1 a2).2.2.2.1), .int ((j_X2_areAlike th g kn2 td a1 a2).2.2.2.2)])), (n2, .inl (cJ, 8, .inr (.inl ((j_X2_areAlike th g kn2 td a1 a2).2.2.1))))] H := hP1
    have hD1 : va_D _ [(y, .inr (4, [.int ((j_X2_areAlike th g kn2 td a1 a2).2.1), .ref n2, .int ((j_X2_areAlike th g kn2 td a1 a2).2.2.2.1), .int ((j_X2_areAlike th g kn2 td a1 a2).2.2.2.2)])), (n2, .inl (cJ, 8, .inr (.inl ((j_X2_areAlike th g kn2 td a1 a2).2.2.1))))] := hD1
    obtain ⟨hP, hD⟩ := va_join (wr := [(x, .inr (2, [.ref n, .int kn, .int ch])), (n, .inl (cJ, 8, .inr (.inl f))), (o, .inr (3, [.long vn, sr]))]) (wc := [(y, .inr (4, [.int th, .ref n2, .int kn2, .int td])), (n2, .inl (cJ, 8, .inr (.inl g)))]) (w1 := [(y, .inr (4, [.int ((j_X2_areAlike th g kn2 td a1 a2).2.1), .ref n2, .int ((j_X2_areAlike th g kn2 td a1 a2).2.2.2.1), .int ((j_X2_areAlike th g kn2 td a1 a2).2.2.2.2)])), (n2, .inl (cJ, 8, .inr (.inl ((j_X2_areAlike th g kn2 td a1 a2).2.2.1))))]) hP hD [0, 1] [2, 3, 4] rfl rfl (by decide) (by decide) hk hFc hP1 hD1
    have hP : va_P D vwCl [(x, .inr (2, [.ref n, .int kn, .int ch])), (n, .inl (cJ, 8, .inr (.inl f))), (o, .inr (3, [.long vn, sr])), (y, .inr (4, [.int ((j_X2_areAlike th g kn2 td a1 a2).2.1), .ref n2, .int ((j_X2_areAlike th g kn2 td a1 a2).2.2.2.1), .int ((j_X2_areAlike th g kn2 td a1 a2).2.2.2.2)])), (n2, .inl (cJ, 8, .inr (.inl ((j_X2_areAlike th g kn2 td a1 a2).2.2.1))))] H := hP
    have hD : va_D A [(x, .inr (2, [.ref n, .int kn, .int ch])), (n, .inl (cJ, 8, .inr (.inl f))), (o, .inr (3, [.long vn, sr])), (y, .inr (4, [.int ((j_X2_areAlike th g kn2 td a1 a2).2.1), .ref n2, .int ((j_X2_areAlike th g kn2 td a1 a2).2.2.2.1), .int ((j_X2_areAlike th g kn2 td a1 a2).2.2.2.2)])), (n2, .inl (cJ, 8, .inr (.inl ((j_X2_areAlike th g kn2 td a1 a2).2.2.1))))] := hD
    obtain ⟨hth, hI⟩ := (st_areAlike hI th a1 a2).2 _ hJ9
    refine W.eq (g2 := F0 m 983 ls [.int ((j_X2_areAlike th g kn2 td a1 a2).1)]) rfl ?_
    refine lv_istore (lv' := [(6, .int ((j_X2_areAlike th g kn2 td a1 a2).1)), (5, .int (k_cd E9)), (4, .int i), (3, .ref o), (2, .ref y), (1, .ref x), (0, .ref b)]) hx hb dL_law_983 hl (by decide) rfl (fun ls hl => ?_)
    refine lv_goto (tgt := 1162) hx hb dL_law_985 (by decide) ?_
    refine W.widen (k := cells + 100) (n := slots + 8000) (by omega) (by omega) ?_
    exact kk _ _ _ _ _ _ _ _ _ _ _ _ hI (hP.sub [0, 1, 3, 4, 2] rfl) (hD.sub [0, 1, 3, 4, 2] (by decide) rfl) hS (lv_sub hl [2, 3, 4, 5, 6] rfl)
set_option maxHeartbeats 4000000 in
set_option maxRecDepth 100000 in
theorem lc_between {p : Program} {l : Launch} {e : Env} {s : State} {m : MethodId} {below : List Frame} {meth : Method} {c : Code} {D : va_G} {cB cJ : ClassId} {A : Nat → Prop} {Q : State → Prop} {b L x n y n2 o : Nat} {xs : Nat → Int32} (hl9 : l.stackTraces = false) (hx : p.tables.exec = Jvm.exec) (hb : c.code = code) (hml : c.maxLocals = 7) (hown : s.vm.findClass RL = some m.cls) (hts : ∀ w ∈ wsL_law, w.before #[Value.ref b] s = true) (hE : kE D cB cJ A s s.heap) (hN : kN s) (hA : ∀ q : Nat, s.heap.size ≤ q → A q) (hX : va_X b L xs s s.heap) (hbl : b < s.heap.size) (hbA : ¬ A b) {i : Int32} {a1 : Int32} (hi1 : vp_in (i + 1) L) (ha1 : xs (i + 1).toNatClampNeg = a1) {a2 : Int32} (hi2 : vp_in (i + 2) L) (ha2 : xs (i + 2).toNatClampNeg = a2) {a3 : Int32} (hi3 : vp_in (i + 3) L) (ha3 : xs (i + 3).toNatClampNeg = a3) {a4 : Int32} (hi4 : vp_in (i + 4) L) (ha4 : xs (i + 4).toNatClampNeg = a4) {a5 : Int32} (hi5 : vp_in (i + 5) L) (ha5 : xs (i + 5).toNatClampNeg = a5) {kn ch kn2 td th : Int32} {f g : Nat → Int64} {vn : Int64} {sr : Value} {H : Heap} {locs : List Loc} {cells slots : Nat} {ls : Array Slot} (hc9 : cells + 100 ≤ 747762) (hs9 : slots + 8000 ≤ 6852817) (hI : kInv kn ch f kn2 td g) (hP : va_P D vwCl [(x, .inr (2, [.ref n, .int kn, .int ch])), (n, .inl (cJ, 8, .inr (.inl f))), (y, .inr (4, [.int th, .ref n2, .int kn2, .int td])), (n2, .inl (cJ, 8, .inr (.inl g))), (o, .inr (3, [.long vn, sr]))] H) (hD : va_D A [(x, .inr (2, [.ref n, .int kn, .int ch])), (n, .inl (cJ, 8, .inr (.inl f))), (y, .inr (4, [.int th, .ref n2, .int kn2, .int td])), (n2, .inl (cJ, 8, .inr (.inl g))), (o, .inr (3, [.long vn, sr]))]) (hS : va_S A s.heap H locs) (hl : lv_has ls 7 [(4, .int i), (3, .ref o), (2, .ref y), (1, .ref x), (0, .ref b)]) (kk : ∀ (kn ch kn2 td th : Int32) (f g : Nat → Int64) (vn : Int64) (sr : Value) (H : Heap) (locs : List Loc) (ls : Array Slot), kInv kn ch f kn2 td g → va_P D vwCl [(x, .inr (2, [.ref n, .int kn, .int ch])), (n, .inl (cJ, 8, .inr (.inl f))), (y, .inr (4, [.int th, .ref n2, .int kn2, .int td])), (n2, .inl (cJ, 8, .inr (.inl g))), (o, .inr (3, [.long vn, sr]))] H → va_D A [(x, .inr (2, [.ref n, .int kn, .int ch])), (n, .inl (cJ, 8, .inr (.inl f))), (y, .inr (4, [.int th, .ref n2, .int kn2, .int td])), (n2, .inl (cJ, 8, .inr (.inl g))), (o, .inr (3, [.long vn, sr]))] → va_S A s.heap H locs → lv_has ls 7 [(4, .int i), (3, .ref o), (2, .ref y), (1, .ref x), (0, .ref b)] → W p l e room_1 s m #[Value.ref b] below meth c H locs (cells + 100) (slots + 8000) Q (F0 m 1162 ls [])) : W p l e room_1 s m #[Value.ref b] below meth c H locs cells slots Q (F0 m 988 ls []) := by
  have hK := hE.1
  refine lv_aload_n hx hb dL_law_988 rfl (lv_at hl 3 rfl) ?_
  refine lv_aload_n hx hb dL_law_989 rfl (lv_at hl 4 rfl) ?_
  refine lv_iload hx hb dL_law_990 (lv_at hl 0 rfl) ?_
  refine lv_iconst (v := 1) hx hb dL_law_992 (by decide) ?_
  refine lv_iadd hx hb dL_law_993 ?_
  refine va_sld hx hb hX hbl hbA hS hi1 dL_law_994 ?_
  rw [ha1]
  refine lv_aload_n hx hb dL_law_995 rfl (lv_at hl 4 rfl) ?_
  refine lv_iload hx hb dL_law_996 (lv_at hl 0 rfl) ?_
  refine lv_iconst (v := 2) hx hb dL_law_998 (by decide) ?_
  refine lv_iadd hx hb dL_law_999 ?_
  refine va_sld hx hb hX hbl hbA hS hi2 dL_law_1000 ?_
  rw [ha2]
  refine lv_aload_n hx hb dL_law_1001 rfl (lv_at hl 4 rfl) ?_
  refine lv_iload hx hb dL_law_1002 (lv_at hl 0 rfl) ?_
  refine lv_iconst (v := 3) hx hb dL_law_1004 (by decide) ?_
  refine lv_iadd hx hb dL_law_1005 ?_
  refine va_sld hx hb hX hbl hbA hS hi3 dL_law_1006 ?_
  rw [ha3]
  refine lv_aload_n hx hb dL_law_1007 rfl (lv_at hl 1 rfl) ?_
  have hFc := va_free (wc := [(x, .inr (2, [.ref n, .int kn, .int ch])), (n, .inl (cJ, 8, .inr (.inl f))), (o, .inr (3, [.long vn, sr]))]) hD hS hA [0, 1, 4] rfl
  refine kx_go (vx_runSX (As := [.ref x, .int a1, .int a2, .int a3, .ref o]) (rest := []) ⟨hx, hb, hml, hown, hts⟩ (c_L_between l hl9 D cB cJ _ x n o kn ch f vn sr a1 a2 a3 (hP.sub [0, 1, 4] rfl) ((hD.sub [0, 1, 4] (by decide) rfl).weaken (fun _ _ _ _ => trivial))) (vx_cwSW 5 hts gL_law_L_between rfl rfl rfl (by decide +kernel) ⟨(Nat.le_of_ble_eq_true rfl), (Nat.le_of_ble_eq_true rfl)⟩) (k_preSN hE hN hS hFc) rfl rfl hl.1 rfl (lv_room (Nat.le_of_ble_eq_true rfl)) dL_law_1008 ⟨by show _ ≤ (747762 : Nat); omega, by show _ ≤ (6852817 : Nat); omega⟩) hS (fun q _ h => hFc q h) hFc (fun E ce q9 H locs hp hz hk hS hce hcv hcl => hp.elim) (fun v H locs hp hz hk hS => ?_)
  rcases hp with ⟨hJ9, rfl, sq9, hP1, hD1⟩ | ⟨E9, hJ9, rfl, hP1, hD1⟩
  · have hP1 : va_P D vwCl [(x, .inr (2, [.ref n, .int kn, .int ch])), (n, .inl (cJ, 8, .inr (.inl f))), (o, .inr (3, [.long vn, .ref sq9]))] H := hP1
    have hD1 : va_D _ [(x, .inr (2, [.ref n, .int kn, .int ch])), (n, .inl (cJ, 8, .inr (.inl f))), (o, .inr (3, [.long vn, .ref sq9]))] := hD1
    obtain ⟨hP, hD⟩ := va_join (wr := [(y, .inr (4, [.int th, .ref n2, .int kn2, .int td])), (n2, .inl (cJ, 8, .inr (.inl g)))]) (wc := [(x, .inr (2, [.ref n, .int kn, .int ch])), (n, .inl (cJ, 8, .inr (.inl f))), (o, .inr (3, [.long vn, sr]))]) (w1 := [(x, .inr (2, [.ref n, .int kn, .int ch])), (n, .inl (cJ, 8, .inr (.inl f))), (o, .inr (3, [.long vn, .ref sq9]))]) hP hD [0, 1, 4] [2, 3] rfl rfl (by decide) (by decide) hk hFc hP1 hD1
    have hP : va_P D vwCl [(y, .inr (4, [.int th, .ref n2, .int kn2, .int td])), (n2, .inl (cJ, 8, .inr (.inl g))), (x, .inr (2, [.ref n, .int kn, .int ch])), (n, .inl (cJ, 8, .inr (.inl f))), (o, .inr (3, [.long vn, .ref sq9]))] H := hP
    have hD : va_D A [(y, .inr (4, [.int th, .ref n2, .int kn2, .int td])), (n2, .inl (cJ, 8, .inr (.inl g))), (x, .inr (2, [.ref n, .int kn, .int ch])), (n, .inl (cJ, 8, .inr (.inl f))), (o, .inr (3, [.long vn, .ref sq9]))] := hD
    refine W.eq (g2 := F0 m 1011 ls [.int 0]) rfl ?_
    refine lv_istore (lv' := [(5, .int 0), (4, .int i), (3, .ref o), (2, .ref y), (1, .ref x), (0, .ref b)]) hx hb dL_law_1011 hl (by decide) rfl (fun ls hl => ?_)
    refine lv_aload_n hx hb dL_law_1013 rfl (lv_at hl 3 rfl) ?_
    refine lv_aload_n hx hb dL_law_1014 rfl (lv_at hl 5 rfl) ?_
    refine lv_iload hx hb dL_law_1015 (lv_at hl 1 rfl) ?_
    refine lv_iconst (v := 1) hx hb dL_law_1017 (by decide) ?_
    refine lv_iadd hx hb dL_law_1018 ?_
    refine va_sld hx hb hX hbl hbA hS hi1 dL_law_1019 ?_
    rw [ha1]
    refine lv_aload_n hx hb dL_law_1020 rfl (lv_at hl 5 rfl) ?_
    refine lv_iload hx hb dL_law_1021 (lv_at hl 1 rfl) ?_
    refine lv_iconst (v := 2) hx hb dL_law_1023 (by decide) ?_
    refine lv_iadd hx hb dL_law_1024 ?_
    refine va_sld hx hb hX hbl hbA hS hi2 dL_law_1025 ?_
    rw [ha2]
    refine lv_aload_n hx hb dL_law_1026 rfl (lv_at hl 5 rfl) ?_
    refine lv_iload hx hb dL_law_1027 (lv_at hl 1 rfl) ?_
    refine lv_iconst (v := 3) hx hb dL_law_1029 (by decide) ?_
    refine lv_iadd hx hb dL_law_1030 ?_
    refine va_sld hx hb hX hbl hbA hS hi3 dL_law_1031 ?_
    rw [ha3]
    have hFc := va_free (wc := [(y, .inr (4, [.int th, .ref n2, .int kn2, .int td])), (n2, .inl (cJ, 8, .inr (.inl g)))]) hD hS hA [0, 1] rfl
    have hT9 := tm_between hI th a1 a2 a3
    refine k_go (va_runV (As := [.int a1, .int a2, .int a3]) (rest := []) ⟨hx, hb, hml, hown, hts⟩ (c_X2_between l D cB cJ _ y n2 th g kn2 td a1 a2 a3 (hP.sub [0, 1] rfl) ((hD.sub [0, 1] (by decide) rfl).weaken (fun _ _ _ _ => trivial)) (kInv.inG hI) hT9) (cwV 3 hts gL_law_X2_between rfl rfl rfl (by decide +kernel) ⟨(Nat.le_of_ble_eq_true rfl), (Nat.le_of_ble_eq_true rfl)⟩) (k_preV hE hS hFc (va_recv hK hP (ci := 4) (q0 := 0) rfl rfl)) rfl rfl hl.1 rfl (lv_room (Nat.le_of_ble_eq_true rfl)) dL_law_1032 ⟨by show _ ≤ (747762 : Nat); omega, by show _ ≤ (6852817 : Nat); omega⟩) hS (fun q _ h => hFc q h) hFc (fun v H locs hp hz hk hS => ?_)
    obtain ⟨⟨t9, rfl⟩, hP1, hD1⟩ := hp
    have hP1 : va_P D vwCl [(y, .inr (4, [.int (j_X2_between th g kn2 td a1 a2 a3), .ref n2, .int kn2, .int td])), (n2, .inl (cJ, 8, .inr (.inl g)))] H := hP1
    have hD1 : va_D _ [(y, .inr (4, [.int (j_X2_between th g kn2 td a1 a2 a3), .ref n2, .int kn2, .int td])), (n2, .inl (cJ, 8, .inr (.inl g)))] := hD1
    obtain ⟨hP, hD⟩ := va_join (wr := [(x, .inr (2, [.ref n, .int kn, .int ch])), (n, .inl (cJ, 8, .inr (.inl f))), (o, .inr (3, [.long vn, .ref sq9]))]) (wc := [(y, .inr (4, [.int th, .ref n2, .int kn2, .int td])), (n2, .inl (cJ, 8, .inr (.inl g)))]) (w1 := [(y, .inr (4, [.int (j_X2_between th g kn2 td a1 a2 a3), .ref n2, .int kn2, .int td])), (n2, .inl (cJ, 8, .inr (.inl g)))]) hP hD [0, 1] [2, 3, 4] rfl rfl (by decide) (by decide) hk hFc hP1 hD1
    have hP : va_P D vwCl [(x, .inr (2, [.ref n, .int kn, .int ch])), (n, .inl (cJ, 8, .inr (.inl f))), (o, .inr (3, [.long vn, .ref sq9])), (y, .inr (4, [.int (j_X2_between th g kn2 td a1 a2 a3), .ref n2, .int kn2, .int td])), (n2, .inl (cJ, 8, .inr (.inl g)))] H := hP
    have hD : va_D A [(x, .inr (2, [.ref n, .int kn, .int ch])), (n, .inl (cJ, 8, .inr (.inl f))), (o, .inr (3, [.long vn, .ref sq9])), (y, .inr (4, [.int (j_X2_between th g kn2 td a1 a2 a3), .ref n2, .int kn2, .int td])), (n2, .inl (cJ, 8, .inr (.inl g)))] := hD
    have hth := (st_between hI th a1 a2 a3).1 hJ9
    refine W.eq (g2 := F0 m 1035 ls [.ref t9]) rfl ?_
    refine lv_astore (lv' := [(6, .ref t9), (5, .int 0), (4, .int i), (3, .ref o), (2, .ref y), (1, .ref x), (0, .ref b)]) hx hb dL_law_1035 hl (by decide) rfl (fun ls hl => ?_)
    refine lv_goto (tgt := 1162) hx hb dL_law_1037 (by decide) ?_
    refine W.widen (k := cells + 100) (n := slots + 8000) (by omega) (by omega) ?_
    exact kk _ _ _ _ _ _ _ _ _ _ _ _ hI (hP.sub [0, 1, 3, 4, 2] rfl) (hD.sub [0, 1, 3, 4, 2] (by decide) rfl) hS (lv_sub hl [2, 3, 4, 5, 6] rfl)
  · have hP1 : va_P D vwCl [(x, .inr (2, [.ref n, .int kn, .int ch])), (n, .inl (cJ, 8, .inr (.inl f))), (o, .inr (3, [.long vn, sr]))] H := hP1
    have hD1 : va_D _ [(x, .inr (2, [.ref n, .int kn, .int ch])), (n, .inl (cJ, 8, .inr (.inl f))), (o, .inr (3, [.long vn, sr]))] := hD1
    obtain ⟨hP, hD⟩ := va_join (wr := [(y, .inr (4, [.int th, .ref n2, .int kn2, .int td])), (n2, .inl (cJ, 8, .inr (.inl g)))]) (wc := [(x, .inr (2, [.ref n, .int kn, .int ch])), (n, .inl (cJ, 8, .inr (.inl f))), (o, .inr (3, [.long vn, sr]))]) (w1 := [(x, .inr (2, [.ref n, .int kn, .int ch])), (n, .inl (cJ, 8, .inr (.inl f))), (o, .inr (3, [.long vn, sr]))]) hP hD [0, 1, 4] [2, 3] rfl rfl (by decide) (by decide) hk hFc hP1 hD1
    have hP : va_P D vwCl [(y, .inr (4, [.int th, .ref n2, .int kn2, .int td])), (n2, .inl (cJ, 8, .inr (.inl g))), (x, .inr (2, [.ref n, .int kn, .int ch])), (n, .inl (cJ, 8, .inr (.inl f))), (o, .inr (3, [.long vn, sr]))] H := hP
    have hD : va_D A [(y, .inr (4, [.int th, .ref n2, .int kn2, .int td])), (n2, .inl (cJ, 8, .inr (.inl g))), (x, .inr (2, [.ref n, .int kn, .int ch])), (n, .inl (cJ, 8, .inr (.inl f))), (o, .inr (3, [.long vn, sr]))] := hD
    refine W.eq (g2 := F0 m 1011 ls [.int (k_cd E9)]) rfl ?_
    refine lv_istore (lv' := [(5, .int (k_cd E9)), (4, .int i), (3, .ref o), (2, .ref y), (1, .ref x), (0, .ref b)]) hx hb dL_law_1011 hl (by decide) rfl (fun ls hl => ?_)
    refine lv_aload_n hx hb dL_law_1013 rfl (lv_at hl 3 rfl) ?_
    refine lv_aload_n hx hb dL_law_1014 rfl (lv_at hl 5 rfl) ?_
    refine lv_iload hx hb dL_law_1015 (lv_at hl 1 rfl) ?_
    refine lv_iconst (v := 1) hx hb dL_law_1017 (by decide) ?_
    refine lv_iadd hx hb dL_law_1018 ?_
    refine va_sld hx hb hX hbl hbA hS hi1 dL_law_1019 ?_
    rw [ha1]
    refine lv_aload_n hx hb dL_law_1020 rfl (lv_at hl 5 rfl) ?_
    refine lv_iload hx hb dL_law_1021 (lv_at hl 1 rfl) ?_
    refine lv_iconst (v := 2) hx hb dL_law_1023 (by decide) ?_
    refine lv_iadd hx hb dL_law_1024 ?_
    refine va_sld hx hb hX hbl hbA hS hi2 dL_law_1025 ?_
    rw [ha2]
    refine lv_aload_n hx hb dL_law_1026 rfl (lv_at hl 5 rfl) ?_
    refine lv_iload hx hb dL_law_1027 (lv_at hl 1 rfl) ?_
    refine lv_iconst (v := 3) hx hb dL_law_1029 (by decide) ?_
    refine lv_iadd hx hb dL_law_1030 ?_
    refine va_sld hx hb hX hbl hbA hS hi3 dL_law_1031 ?_
    rw [ha3]
    have hFc := va_free (wc := [(y, .inr (4, [.int th, .ref n2, .int kn2, .int td])), (n2, .inl (cJ, 8, .inr (.inl g)))]) hD hS hA [0, 1] rfl
    have hT9 := tm_between hI th a1 a2 a3
    refine k_go (va_runV (As := [.int a1, .int a2, .int a3]) (rest := []) ⟨hx, hb, hml, hown, hts⟩ (c_X2_between l D cB cJ _ y n2 th g kn2 td a1 a2 a3 (hP.sub [0, 1] rfl) ((hD.sub [0, 1] (by decide) rfl).weaken (fun _ _ _ _ => trivial)) (kInv.inG hI) hT9) (cwV 3 hts gL_law_X2_between rfl rfl rfl (by decide +kernel) ⟨(Nat.le_of_ble_eq_true rfl), (Nat.le_of_ble_eq_true rfl)⟩) (k_preV hE hS hFc (va_recv hK hP (ci := 4) (q0 := 0) rfl rfl)) rfl rfl hl.1 rfl (lv_room (Nat.le_of_ble_eq_true rfl)) dL_law_1032 ⟨by show _ ≤ (747762 : Nat); omega, by show _ ≤ (6852817 : Nat); omega⟩) hS (fun q _ h => hFc q h) hFc (fun v H locs hp hz hk hS => ?_)
    obtain ⟨⟨t9, rfl⟩, hP1, hD1⟩ := hp
    have hP1 : va_P D vwCl [(y, .inr (4, [.int (j_X2_between th g kn2 td a1 a2 a3), .ref n2, .int kn2, .int td])), (n2, .inl (cJ, 8, .inr (.inl g)))] H := hP1
    have hD1 : va_D _ [(y, .inr (4, [.int (j_X2_between th g kn2 td a1 a2 a3), .ref n2, .int kn2, .int td])), (n2, .inl (cJ, 8, .inr (.inl g)))] := hD1
    obtain ⟨hP, hD⟩ := va_join (wr := [(x, .inr (2, [.ref n, .int kn, .int ch])), (n, .inl (cJ, 8, .inr (.inl f))), (o, .inr (3, [.long vn, sr]))]) (wc := [(y, .inr (4, [.int th, .ref n2, .int kn2, .int td])), (n2, .inl (cJ, 8, .inr (.inl g)))]) (w1 := [(y, .inr (4, [.int (j_X2_between th g kn2 td a1 a2 a3), .ref n2, .int kn2, .int td])), (n2, .inl (cJ, 8, .inr (.inl g)))]) hP hD [0, 1] [2, 3, 4] rfl rfl (by decide) (by decide) hk hFc hP1 hD1
    have hP : va_P D vwCl [(x, .inr (2, [.ref n, .int kn, .int ch])), (n, .inl (cJ, 8, .inr (.inl f))), (o, .inr (3, [.long vn, sr])), (y, .inr (4, [.int (j_X2_between th g kn2 td a1 a2 a3), .ref n2, .int kn2, .int td])), (n2, .inl (cJ, 8, .inr (.inl g)))] H := hP
    have hD : va_D A [(x, .inr (2, [.ref n, .int kn, .int ch])), (n, .inl (cJ, 8, .inr (.inl f))), (o, .inr (3, [.long vn, sr])), (y, .inr (4, [.int (j_X2_between th g kn2 td a1 a2 a3), .ref n2, .int kn2, .int td])), (n2, .inl (cJ, 8, .inr (.inl g)))] := hD
    have hth := (st_between hI th a1 a2 a3).2 _ hJ9
    refine W.eq (g2 := F0 m 1035 ls [.ref t9]) rfl ?_
    refine lv_astore (lv' := [(6, .ref t9), (5, .int (k_cd E9)), (4, .int i), (3, .ref o), (2, .ref y), (1, .ref x), (0, .ref b)]) hx hb dL_law_1035 hl (by decide) rfl (fun ls hl => ?_)
    refine lv_goto (tgt := 1162) hx hb dL_law_1037 (by decide) ?_
    refine W.widen (k := cells + 100) (n := slots + 8000) (by omega) (by omega) ?_
    exact kk _ _ _ _ _ _ _ _ _ _ _ _ hI (hP.sub [0, 1, 3, 4, 2] rfl) (hD.sub [0, 1, 3, 4, 2] (by decide) rfl) hS (lv_sub hl [2, 3, 4, 5, 6] rfl)
set_option maxHeartbeats 4000000 in
set_option maxRecDepth 100000 in
theorem lc_order {p : Program} {l : Launch} {e : Env} {s : State} {m : MethodId} {below : List Frame} {meth : Method} {c : Code} {D : va_G} {cB cJ : ClassId} {A : Nat → Prop} {Q : State → Prop} {b L x n y n2 o : Nat} {xs : Nat → Int32} (hl9 : l.stackTraces = false) (hx : p.tables.exec = Jvm.exec) (hb : c.code = code) (hml : c.maxLocals = 7) (hown : s.vm.findClass RL = some m.cls) (hts : ∀ w ∈ wsL_law, w.before #[Value.ref b] s = true) (hE : kE D cB cJ A s s.heap) (hN : kN s) (hA : ∀ q : Nat, s.heap.size ≤ q → A q) (hX : va_X b L xs s s.heap) (hbl : b < s.heap.size) (hbA : ¬ A b) {i : Int32} {a1 : Int32} (hi1 : vp_in (i + 1) L) (ha1 : xs (i + 1).toNatClampNeg = a1) {a2 : Int32} (hi2 : vp_in (i + 2) L) (ha2 : xs (i + 2).toNatClampNeg = a2) {a3 : Int32} (hi3 : vp_in (i + 3) L) (ha3 : xs (i + 3).toNatClampNeg = a3) {a4 : Int32} (hi4 : vp_in (i + 4) L) (ha4 : xs (i + 4).toNatClampNeg = a4) {a5 : Int32} (hi5 : vp_in (i + 5) L) (ha5 : xs (i + 5).toNatClampNeg = a5) {kn ch kn2 td th : Int32} {f g : Nat → Int64} {vn : Int64} {sr : Value} {H : Heap} {locs : List Loc} {cells slots : Nat} {ls : Array Slot} (hc9 : cells + 100 ≤ 747762) (hs9 : slots + 8000 ≤ 6852817) (hI : kInv kn ch f kn2 td g) (hP : va_P D vwCl [(x, .inr (2, [.ref n, .int kn, .int ch])), (n, .inl (cJ, 8, .inr (.inl f))), (y, .inr (4, [.int th, .ref n2, .int kn2, .int td])), (n2, .inl (cJ, 8, .inr (.inl g))), (o, .inr (3, [.long vn, sr]))] H) (hD : va_D A [(x, .inr (2, [.ref n, .int kn, .int ch])), (n, .inl (cJ, 8, .inr (.inl f))), (y, .inr (4, [.int th, .ref n2, .int kn2, .int td])), (n2, .inl (cJ, 8, .inr (.inl g))), (o, .inr (3, [.long vn, sr]))]) (hS : va_S A s.heap H locs) (hl : lv_has ls 7 [(4, .int i), (3, .ref o), (2, .ref y), (1, .ref x), (0, .ref b)]) (kk : ∀ (kn ch kn2 td th : Int32) (f g : Nat → Int64) (vn : Int64) (sr : Value) (H : Heap) (locs : List Loc) (ls : Array Slot), kInv kn ch f kn2 td g → va_P D vwCl [(x, .inr (2, [.ref n, .int kn, .int ch])), (n, .inl (cJ, 8, .inr (.inl f))), (y, .inr (4, [.int th, .ref n2, .int kn2, .int td])), (n2, .inl (cJ, 8, .inr (.inl g))), (o, .inr (3, [.long vn, sr]))] H → va_D A [(x, .inr (2, [.ref n, .int kn, .int ch])), (n, .inl (cJ, 8, .inr (.inl f))), (y, .inr (4, [.int th, .ref n2, .int kn2, .int td])), (n2, .inl (cJ, 8, .inr (.inl g))), (o, .inr (3, [.long vn, sr]))] → va_S A s.heap H locs → lv_has ls 7 [(4, .int i), (3, .ref o), (2, .ref y), (1, .ref x), (0, .ref b)] → W p l e room_1 s m #[Value.ref b] below meth c H locs (cells + 100) (slots + 8000) Q (F0 m 1162 ls [])) : W p l e room_1 s m #[Value.ref b] below meth c H locs cells slots Q (F0 m 1040 ls []) := by
  have hK := hE.1
  refine lv_aload_n hx hb dL_law_1040 rfl (lv_at hl 3 rfl) ?_
  have hFc := va_free (wc := [(x, .inr (2, [.ref n, .int kn, .int ch])), (n, .inl (cJ, 8, .inr (.inl f)))]) hD hS hA [0, 1] rfl
  refine k_go (va_runV (As := []) (rest := []) ⟨hx, hb, hml, hown, hts⟩ (c_X0_order l D cB cJ _ x n kn ch f (hP.sub [0, 1] rfl) ((hD.sub [0, 1] (by decide) rfl).weaken (fun _ _ _ _ => trivial))) (cwV 0 hts gL_law_X0_order rfl rfl rfl (by decide +kernel) ⟨(Nat.le_of_ble_eq_true rfl), (Nat.le_of_ble_eq_true rfl)⟩) (k_preV hE hS hFc (va_recv hK hP (ci := 2) (q0 := 0) rfl rfl)) rfl rfl hl.1 rfl (lv_room (Nat.le_of_ble_eq_true rfl)) dL_law_1041 ⟨by show _ ≤ (747762 : Nat); omega, by show _ ≤ (6852817 : Nat); omega⟩) hS (fun q _ h => hFc q h) hFc (fun v H locs hp hz hk hS => ?_)
  obtain ⟨-, t8, n8, u8, f8, -, rfl, hP1, hD1, -⟩ := hp
  have hP1 : va_P D vwCl [(x, .inr (2, [.ref n, .int kn, .int ch])), (n, .inl (cJ, 8, .inr (.inl f)))] H := hP1.sub [0, 1] rfl
  have hD1 : va_D _ [(x, .inr (2, [.ref n, .int kn, .int ch])), (n, .inl (cJ, 8, .inr (.inl f)))] := hD1.sub [0, 1] (by decide) rfl
  obtain ⟨hP, hD⟩ := va_join (wr := [(y, .inr (4, [.int th, .ref n2, .int kn2, .int td])), (n2, .inl (cJ, 8, .inr (.inl g))), (o, .inr (3, [.long vn, sr]))]) (wc := [(x, .inr (2, [.ref n, .int kn, .int ch])), (n, .inl (cJ, 8, .inr (.inl f)))]) (w1 := [(x, .inr (2, [.ref n, .int kn, .int ch])), (n, .inl (cJ, 8, .inr (.inl f)))]) hP hD [0, 1] [2, 3, 4] rfl rfl (by decide) (by decide) hk hFc hP1 hD1
  have hP : va_P D vwCl [(y, .inr (4, [.int th, .ref n2, .int kn2, .int td])), (n2, .inl (cJ, 8, .inr (.inl g))), (o, .inr (3, [.long vn, sr])), (x, .inr (2, [.ref n, .int kn, .int ch])), (n, .inl (cJ, 8, .inr (.inl f)))] H := hP
  have hD : va_D A [(y, .inr (4, [.int th, .ref n2, .int kn2, .int td])), (n2, .inl (cJ, 8, .inr (.inl g))), (o, .inr (3, [.long vn, sr])), (x, .inr (2, [.ref n, .int kn, .int ch])), (n, .inl (cJ, 8, .inr (.inl f)))] := hD
  refine W.eq (g2 := F0 m 1044 ls [.ref t8]) rfl ?_
  refine lv_pop hx hb dL_law_1044 rfl ?_
  refine lv_aload_n hx hb dL_law_1045 rfl (lv_at hl 2 rfl) ?_
  have hFc := va_free (wc := [(y, .inr (4, [.int th, .ref n2, .int kn2, .int td])), (n2, .inl (cJ, 8, .inr (.inl g)))]) hD hS hA [0, 1] rfl
  refine k_go (va_runV (As := []) (rest := []) ⟨hx, hb, hml, hown, hts⟩ (c_X2_order_ l D cB cJ _ y n2 th g kn2 td (hP.sub [0, 1] rfl) ((hD.sub [0, 1] (by decide) rfl).weaken (fun _ _ _ _ => trivial))) (cwV 0 hts gL_law_X2_order_ rfl rfl rfl (by decide +kernel) ⟨(Nat.le_of_ble_eq_true rfl), (Nat.le_of_ble_eq_true rfl)⟩) (k_preV hE hS hFc (va_recv hK hP (ci := 4) (q0 := 0) rfl rfl)) rfl rfl hl.1 rfl (lv_room (Nat.le_of_ble_eq_true rfl)) dL_law_1046 ⟨by show _ ≤ (747762 : Nat); omega, by show _ ≤ (6852817 : Nat); omega⟩) hS (fun q _ h => hFc q h) hFc (fun v H locs hp hz hk hS => ?_)
  obtain ⟨⟨t9, rfl⟩, hP1, hD1⟩ := hp
  have hP1 : va_P D vwCl [(y, .inr (4, [.int 0, .ref n2, .int kn2, .int td])), (n2, .inl (cJ, 8, .inr (.inl g)))] H := hP1
  have hD1 : va_D _ [(y, .inr (4, [.int 0, .ref n2, .int kn2, .int td])), (n2, .inl (cJ, 8, .inr (.inl g)))] := hD1
  obtain ⟨hP, hD⟩ := va_join (wr := [(o, .inr (3, [.long vn, sr])), (x, .inr (2, [.ref n, .int kn, .int ch])), (n, .inl (cJ, 8, .inr (.inl f)))]) (wc := [(y, .inr (4, [.int th, .ref n2, .int kn2, .int td])), (n2, .inl (cJ, 8, .inr (.inl g)))]) (w1 := [(y, .inr (4, [.int 0, .ref n2, .int kn2, .int td])), (n2, .inl (cJ, 8, .inr (.inl g)))]) hP hD [0, 1] [2, 3, 4] rfl rfl (by decide) (by decide) hk hFc hP1 hD1
  have hP : va_P D vwCl [(o, .inr (3, [.long vn, sr])), (x, .inr (2, [.ref n, .int kn, .int ch])), (n, .inl (cJ, 8, .inr (.inl f))), (y, .inr (4, [.int 0, .ref n2, .int kn2, .int td])), (n2, .inl (cJ, 8, .inr (.inl g)))] H := hP
  have hD : va_D A [(o, .inr (3, [.long vn, sr])), (x, .inr (2, [.ref n, .int kn, .int ch])), (n, .inl (cJ, 8, .inr (.inl f))), (y, .inr (4, [.int 0, .ref n2, .int kn2, .int td])), (n2, .inl (cJ, 8, .inr (.inl g)))] := hD
  refine W.eq (g2 := F0 m 1049 ls [.ref t9]) rfl ?_
  refine lv_pop hx hb dL_law_1049 rfl ?_
  refine lv_goto (tgt := 1162) hx hb dL_law_1050 (by decide) ?_
  refine W.widen (k := cells + 100) (n := slots + 8000) (by omega) (by omega) ?_
  exact kk _ _ _ _ _ _ _ _ _ _ _ _ hI (hP.sub [1, 2, 3, 4, 0] rfl) (hD.sub [1, 2, 3, 4, 0] (by decide) rfl) hS (lv_sub hl [0, 1, 2, 3, 4] rfl)
set_option maxHeartbeats 4000000 in
set_option maxRecDepth 100000 in
theorem lc_kinds {p : Program} {l : Launch} {e : Env} {s : State} {m : MethodId} {below : List Frame} {meth : Method} {c : Code} {D : va_G} {cB cJ : ClassId} {A : Nat → Prop} {Q : State → Prop} {b L x n y n2 o : Nat} {xs : Nat → Int32} (hl9 : l.stackTraces = false) (hx : p.tables.exec = Jvm.exec) (hb : c.code = code) (hml : c.maxLocals = 7) (hown : s.vm.findClass RL = some m.cls) (hts : ∀ w ∈ wsL_law, w.before #[Value.ref b] s = true) (hE : kE D cB cJ A s s.heap) (hN : kN s) (hA : ∀ q : Nat, s.heap.size ≤ q → A q) (hX : va_X b L xs s s.heap) (hbl : b < s.heap.size) (hbA : ¬ A b) {i : Int32} {a1 : Int32} (hi1 : vp_in (i + 1) L) (ha1 : xs (i + 1).toNatClampNeg = a1) {a2 : Int32} (hi2 : vp_in (i + 2) L) (ha2 : xs (i + 2).toNatClampNeg = a2) {a3 : Int32} (hi3 : vp_in (i + 3) L) (ha3 : xs (i + 3).toNatClampNeg = a3) {a4 : Int32} (hi4 : vp_in (i + 4) L) (ha4 : xs (i + 4).toNatClampNeg = a4) {a5 : Int32} (hi5 : vp_in (i + 5) L) (ha5 : xs (i + 5).toNatClampNeg = a5) {kn ch kn2 td th : Int32} {f g : Nat → Int64} {vn : Int64} {sr : Value} {H : Heap} {locs : List Loc} {cells slots : Nat} {ls : Array Slot} (hc9 : cells + 100 ≤ 747762) (hs9 : slots + 8000 ≤ 6852817) (hI : kInv kn ch f kn2 td g) (hP : va_P D vwCl [(x, .inr (2, [.ref n, .int kn, .int ch])), (n, .inl (cJ, 8, .inr (.inl f))), (y, .inr (4, [.int th, .ref n2, .int kn2, .int td])), (n2, .inl (cJ, 8, .inr (.inl g))), (o, .inr (3, [.long vn, sr]))] H) (hD : va_D A [(x, .inr (2, [.ref n, .int kn, .int ch])), (n, .inl (cJ, 8, .inr (.inl f))), (y, .inr (4, [.int th, .ref n2, .int kn2, .int td])), (n2, .inl (cJ, 8, .inr (.inl g))), (o, .inr (3, [.long vn, sr]))]) (hS : va_S A s.heap H locs) (hl : lv_has ls 7 [(4, .int i), (3, .ref o), (2, .ref y), (1, .ref x), (0, .ref b)]) (kk : ∀ (kn ch kn2 td th : Int32) (f g : Nat → Int64) (vn : Int64) (sr : Value) (H : Heap) (locs : List Loc) (ls : Array Slot), kInv kn ch f kn2 td g → va_P D vwCl [(x, .inr (2, [.ref n, .int kn, .int ch])), (n, .inl (cJ, 8, .inr (.inl f))), (y, .inr (4, [.int th, .ref n2, .int kn2, .int td])), (n2, .inl (cJ, 8, .inr (.inl g))), (o, .inr (3, [.long vn, sr]))] H → va_D A [(x, .inr (2, [.ref n, .int kn, .int ch])), (n, .inl (cJ, 8, .inr (.inl f))), (y, .inr (4, [.int th, .ref n2, .int kn2, .int td])), (n2, .inl (cJ, 8, .inr (.inl g))), (o, .inr (3, [.long vn, sr]))] → va_S A s.heap H locs → lv_has ls 7 [(4, .int i), (3, .ref o), (2, .ref y), (1, .ref x), (0, .ref b)] → W p l e room_1 s m #[Value.ref b] below meth c H locs (cells + 100) (slots + 8000) Q (F0 m 1162 ls [])) : W p l e room_1 s m #[Value.ref b] below meth c H locs cells slots Q (F0 m 1053 ls []) := by
  have hK := hE.1
  refine lv_aload_n hx hb dL_law_1053 rfl (lv_at hl 3 rfl) ?_
  refine k_pV [] (rest := []) ⟨hx, hb, hml, hown, hts⟩ (c_X0_kinds l D cB cJ _ x n kn ch f (hP.sub [0, 1] rfl) (tk_X0_kinds kn ch f)) (cwV 0 hts gL_law_X0_kinds rfl rfl rfl (by decide +kernel) ⟨(Nat.le_of_ble_eq_true rfl), (Nat.le_of_ble_eq_true rfl)⟩) (va_recv hK hP (ci := 2) (q0 := 0) rfl rfl) hE hS rfl rfl hl.1 (Nat.le_of_ble_eq_true rfl) dL_law_1054 ⟨by show _ ≤ (747762 : Nat); omega, by show _ ≤ (6852817 : Nat); omega⟩ (fun locs hS => ?_)
  refine W.eq (g2 := F0 m 1057 ls [.int (j_X0_kinds kn ch f)]) rfl ?_
  refine lv_pop hx hb dL_law_1057 rfl ?_
  refine lv_aload_n hx hb dL_law_1058 rfl (lv_at hl 2 rfl) ?_
  have hFc := va_free (wc := [(y, .inr (4, [.int th, .ref n2, .int kn2, .int td])), (n2, .inl (cJ, 8, .inr (.inl g)))]) hD hS hA [2, 3] rfl
  have hT9 := tm_kinds hI th
  refine k_go (va_runV (As := []) (rest := []) ⟨hx, hb, hml, hown, hts⟩ (c_X2_kinds l D cB cJ _ y n2 th g kn2 td (hP.sub [2, 3] rfl) ((hD.sub [2, 3] (by decide) rfl).weaken (fun _ _ _ _ => trivial)) hT9) (cwV 0 hts gL_law_X2_kinds rfl rfl rfl (by decide +kernel) ⟨(Nat.le_of_ble_eq_true rfl), (Nat.le_of_ble_eq_true rfl)⟩) (k_preV hE hS hFc (va_recv hK hP (ci := 4) (q0 := 2) rfl rfl)) rfl rfl hl.1 rfl (lv_room (Nat.le_of_ble_eq_true rfl)) dL_law_1059 ⟨by show _ ≤ (747762 : Nat); omega, by show _ ≤ (6852817 : Nat); omega⟩) hS (fun q _ h => hFc q h) hFc (fun v H locs hp hz hk hS => ?_)
  obtain ⟨rfl, hP1, hD1⟩ := hp
  have hP1 : va_P D vwCl [(y, .inr (4, [.int ((j_X2_kinds th g kn2 td).2.1), .ref n2, .int ((j_X2_kinds th g kn2 td).2.2.2.1), .int ((j_X2_kinds th g kn2 td).2.2.2.2)])), (n2, .inl (cJ, 8, .inr (.inl ((j_X2_kinds th g kn2 td).2.2.1))))] H := hP1
  have hD1 : va_D _ [(y, .inr (4, [.int ((j_X2_kinds th g kn2 td).2.1), .ref n2, .int ((j_X2_kinds th g kn2 td).2.2.2.1), .int ((j_X2_kinds th g kn2 td).2.2.2.2)])), (n2, .inl (cJ, 8, .inr (.inl ((j_X2_kinds th g kn2 td).2.2.1))))] := hD1
  obtain ⟨hP, hD⟩ := va_join (wr := [(x, .inr (2, [.ref n, .int kn, .int ch])), (n, .inl (cJ, 8, .inr (.inl f))), (o, .inr (3, [.long vn, sr]))]) (wc := [(y, .inr (4, [.int th, .ref n2, .int kn2, .int td])), (n2, .inl (cJ, 8, .inr (.inl g)))]) (w1 := [(y, .inr (4, [.int ((j_X2_kinds th g kn2 td).2.1), .ref n2, .int ((j_X2_kinds th g kn2 td).2.2.2.1), .int ((j_X2_kinds th g kn2 td).2.2.2.2)])), (n2, .inl (cJ, 8, .inr (.inl ((j_X2_kinds th g kn2 td).2.2.1))))]) hP hD [2, 3] [0, 1, 4] rfl rfl (by decide) (by decide) hk hFc hP1 hD1
  have hP : va_P D vwCl [(x, .inr (2, [.ref n, .int kn, .int ch])), (n, .inl (cJ, 8, .inr (.inl f))), (o, .inr (3, [.long vn, sr])), (y, .inr (4, [.int ((j_X2_kinds th g kn2 td).2.1), .ref n2, .int ((j_X2_kinds th g kn2 td).2.2.2.1), .int ((j_X2_kinds th g kn2 td).2.2.2.2)])), (n2, .inl (cJ, 8, .inr (.inl ((j_X2_kinds th g kn2 td).2.2.1))))] H := hP
  have hD : va_D A [(x, .inr (2, [.ref n, .int kn, .int ch])), (n, .inl (cJ, 8, .inr (.inl f))), (o, .inr (3, [.long vn, sr])), (y, .inr (4, [.int ((j_X2_kinds th g kn2 td).2.1), .ref n2, .int ((j_X2_kinds th g kn2 td).2.2.2.1), .int ((j_X2_kinds th g kn2 td).2.2.2.2)])), (n2, .inl (cJ, 8, .inr (.inl ((j_X2_kinds th g kn2 td).2.2.1))))] := hD
  obtain ⟨hrv, hI⟩ := st_kinds hI th
  refine W.eq (g2 := F0 m 1062 ls [.int ((j_X2_kinds th g kn2 td).1)]) rfl ?_
  refine lv_pop hx hb dL_law_1062 rfl ?_
  refine lv_goto (tgt := 1162) hx hb dL_law_1063 (by decide) ?_
  refine W.widen (k := cells + 100) (n := slots + 8000) (by omega) (by omega) ?_
  exact kk _ _ _ _ _ _ _ _ _ _ _ _ hI (hP.sub [0, 1, 3, 4, 2] rfl) (hD.sub [0, 1, 3, 4, 2] (by decide) rfl) hS (lv_sub hl [0, 1, 2, 3, 4] rfl)
set_option maxHeartbeats 4000000 in
set_option maxRecDepth 100000 in
theorem lc_knock {p : Program} {l : Launch} {e : Env} {s : State} {m : MethodId} {below : List Frame} {meth : Method} {c : Code} {D : va_G} {cB cJ : ClassId} {A : Nat → Prop} {Q : State → Prop} {b L x n y n2 o : Nat} {xs : Nat → Int32} (hl9 : l.stackTraces = false) (hx : p.tables.exec = Jvm.exec) (hb : c.code = code) (hml : c.maxLocals = 7) (hown : s.vm.findClass RL = some m.cls) (hts : ∀ w ∈ wsL_law, w.before #[Value.ref b] s = true) (hE : kE D cB cJ A s s.heap) (hN : kN s) (hA : ∀ q : Nat, s.heap.size ≤ q → A q) (hX : va_X b L xs s s.heap) (hbl : b < s.heap.size) (hbA : ¬ A b) {i : Int32} {a1 : Int32} (hi1 : vp_in (i + 1) L) (ha1 : xs (i + 1).toNatClampNeg = a1) {a2 : Int32} (hi2 : vp_in (i + 2) L) (ha2 : xs (i + 2).toNatClampNeg = a2) {a3 : Int32} (hi3 : vp_in (i + 3) L) (ha3 : xs (i + 3).toNatClampNeg = a3) {a4 : Int32} (hi4 : vp_in (i + 4) L) (ha4 : xs (i + 4).toNatClampNeg = a4) {a5 : Int32} (hi5 : vp_in (i + 5) L) (ha5 : xs (i + 5).toNatClampNeg = a5) {kn ch kn2 td th : Int32} {f g : Nat → Int64} {vn : Int64} {sr : Value} {H : Heap} {locs : List Loc} {cells slots : Nat} {ls : Array Slot} (hc9 : cells + 100 ≤ 747762) (hs9 : slots + 8000 ≤ 6852817) (hI : kInv kn ch f kn2 td g) (hP : va_P D vwCl [(x, .inr (2, [.ref n, .int kn, .int ch])), (n, .inl (cJ, 8, .inr (.inl f))), (y, .inr (4, [.int th, .ref n2, .int kn2, .int td])), (n2, .inl (cJ, 8, .inr (.inl g))), (o, .inr (3, [.long vn, sr]))] H) (hD : va_D A [(x, .inr (2, [.ref n, .int kn, .int ch])), (n, .inl (cJ, 8, .inr (.inl f))), (y, .inr (4, [.int th, .ref n2, .int kn2, .int td])), (n2, .inl (cJ, 8, .inr (.inl g))), (o, .inr (3, [.long vn, sr]))]) (hS : va_S A s.heap H locs) (hl : lv_has ls 7 [(4, .int i), (3, .ref o), (2, .ref y), (1, .ref x), (0, .ref b)]) (kk : ∀ (kn ch kn2 td th : Int32) (f g : Nat → Int64) (vn : Int64) (sr : Value) (H : Heap) (locs : List Loc) (ls : Array Slot), kInv kn ch f kn2 td g → va_P D vwCl [(x, .inr (2, [.ref n, .int kn, .int ch])), (n, .inl (cJ, 8, .inr (.inl f))), (y, .inr (4, [.int th, .ref n2, .int kn2, .int td])), (n2, .inl (cJ, 8, .inr (.inl g))), (o, .inr (3, [.long vn, sr]))] H → va_D A [(x, .inr (2, [.ref n, .int kn, .int ch])), (n, .inl (cJ, 8, .inr (.inl f))), (y, .inr (4, [.int th, .ref n2, .int kn2, .int td])), (n2, .inl (cJ, 8, .inr (.inl g))), (o, .inr (3, [.long vn, sr]))] → va_S A s.heap H locs → lv_has ls 7 [(4, .int i), (3, .ref o), (2, .ref y), (1, .ref x), (0, .ref b)] → W p l e room_1 s m #[Value.ref b] below meth c H locs (cells + 100) (slots + 8000) Q (F0 m 1162 ls [])) : W p l e room_1 s m #[Value.ref b] below meth c H locs cells slots Q (F0 m 1066 ls []) := by
  have hK := hE.1
  refine lv_aload_n hx hb dL_law_1066 rfl (lv_at hl 3 rfl) ?_
  have hFc := va_free (wc := [(x, .inr (2, [.ref n, .int kn, .int ch])), (n, .inl (cJ, 8, .inr (.inl f)))]) hD hS hA [0, 1] rfl
  refine kx_go (vx_runV (As := []) (rest := []) ⟨hx, hb, hml, hown, hts⟩ (c_X0_knock l hl9 D cB cJ _ x n kn ch f (hP.sub [0, 1] rfl) ((hD.sub [0, 1] (by decide) rfl).weaken (fun _ _ _ _ => trivial))) (cwV 0 hts gL_law_X0_knock rfl rfl rfl (by decide +kernel) ⟨(Nat.le_of_ble_eq_true rfl), (Nat.le_of_ble_eq_true rfl)⟩) (k_preV hE hS hFc (va_recv hK hP (ci := 2) (q0 := 0) rfl rfl)) rfl rfl hl.1 rfl (lv_room (Nat.le_of_ble_eq_true rfl)) dL_law_1067 ⟨by show _ ≤ (747762 : Nat); omega, by show _ ≤ (6852817 : Nat); omega⟩) hS (fun q _ h => hFc q h) hFc (fun E ce q9 H locs hp hz hk hS hce hcv hcl => by obtain ⟨hJ9, -⟩ := hp; cases hJ9) (fun v H locs hp hz hk hS => ?_)
  obtain ⟨r9, hJ9, rfl, hP1, hD1⟩ := hp
  obtain rfl := Except.ok.inj hJ9
  have hP1 : va_P D vwCl [(x, .inr (2, [.ref n, .int (kn + 1), .int ch])), (n, .inl (cJ, 8, .inr (.inl f)))] H := hP1
  have hD1 : va_D _ [(x, .inr (2, [.ref n, .int (kn + 1), .int ch])), (n, .inl (cJ, 8, .inr (.inl f)))] := hD1
  obtain ⟨hP, hD⟩ := va_join (wr := [(y, .inr (4, [.int th, .ref n2, .int kn2, .int td])), (n2, .inl (cJ, 8, .inr (.inl g))), (o, .inr (3, [.long vn, sr]))]) (wc := [(x, .inr (2, [.ref n, .int kn, .int ch])), (n, .inl (cJ, 8, .inr (.inl f)))]) (w1 := [(x, .inr (2, [.ref n, .int (kn + 1), .int ch])), (n, .inl (cJ, 8, .inr (.inl f)))]) hP hD [0, 1] [2, 3, 4] rfl rfl (by decide) (by decide) hk hFc hP1 hD1
  have hP : va_P D vwCl [(y, .inr (4, [.int th, .ref n2, .int kn2, .int td])), (n2, .inl (cJ, 8, .inr (.inl g))), (o, .inr (3, [.long vn, sr])), (x, .inr (2, [.ref n, .int (kn + 1), .int ch])), (n, .inl (cJ, 8, .inr (.inl f)))] H := hP
  have hD : va_D A [(y, .inr (4, [.int th, .ref n2, .int kn2, .int td])), (n2, .inl (cJ, 8, .inr (.inl g))), (o, .inr (3, [.long vn, sr])), (x, .inr (2, [.ref n, .int (kn + 1), .int ch])), (n, .inl (cJ, 8, .inr (.inl f)))] := hD
  refine W.eq (g2 := F0 m 1070 ls [.int (kn + 1)]) rfl ?_
  refine lv_pop hx hb dL_law_1070 rfl ?_
  refine lv_aload_n hx hb dL_law_1071 rfl (lv_at hl 2 rfl) ?_
  have hFc := va_free (wc := [(y, .inr (4, [.int th, .ref n2, .int kn2, .int td])), (n2, .inl (cJ, 8, .inr (.inl g)))]) hD hS hA [0, 1] rfl
  refine k_go (va_runV (As := []) (rest := []) ⟨hx, hb, hml, hown, hts⟩ (c_X2_knock l D cB cJ _ y n2 th g kn2 td (hP.sub [0, 1] rfl) ((hD.sub [0, 1] (by decide) rfl).weaken (fun _ _ _ _ => trivial))) (cwV 0 hts gL_law_X2_knock rfl rfl rfl (by decide +kernel) ⟨(Nat.le_of_ble_eq_true rfl), (Nat.le_of_ble_eq_true rfl)⟩) (k_preV hE hS hFc (va_recv hK hP (ci := 4) (q0 := 0) rfl rfl)) rfl rfl hl.1 rfl (lv_room (Nat.le_of_ble_eq_true rfl)) dL_law_1072 ⟨by show _ ≤ (747762 : Nat); omega, by show _ ≤ (6852817 : Nat); omega⟩) hS (fun q _ h => hFc q h) hFc (fun v H locs hp hz hk hS => ?_)
  obtain ⟨rfl, hP1, hD1⟩ := hp
  have hP1 : va_P D vwCl [(y, .inr (4, [.int ((j_X2_knock th g kn2 td).2.1), .ref n2, .int ((j_X2_knock th g kn2 td).2.2.2.1), .int ((j_X2_knock th g kn2 td).2.2.2.2)])), (n2, .inl (cJ, 8, .inr (.inl ((j_X2_knock th g kn2 td).2.2.1))))] H := hP1
  have hD1 : va_D _ [(y, .inr (4, [.int ((j_X2_knock th g kn2 td).2.1), .ref n2, .int ((j_X2_knock th g kn2 td).2.2.2.1), .int ((j_X2_knock th g kn2 td).2.2.2.2)])), (n2, .inl (cJ, 8, .inr (.inl ((j_X2_knock th g kn2 td).2.2.1))))] := hD1
  obtain ⟨hP, hD⟩ := va_join (wr := [(o, .inr (3, [.long vn, sr])), (x, .inr (2, [.ref n, .int (kn + 1), .int ch])), (n, .inl (cJ, 8, .inr (.inl f)))]) (wc := [(y, .inr (4, [.int th, .ref n2, .int kn2, .int td])), (n2, .inl (cJ, 8, .inr (.inl g)))]) (w1 := [(y, .inr (4, [.int ((j_X2_knock th g kn2 td).2.1), .ref n2, .int ((j_X2_knock th g kn2 td).2.2.2.1), .int ((j_X2_knock th g kn2 td).2.2.2.2)])), (n2, .inl (cJ, 8, .inr (.inl ((j_X2_knock th g kn2 td).2.2.1))))]) hP hD [0, 1] [2, 3, 4] rfl rfl (by decide) (by decide) hk hFc hP1 hD1
  have hP : va_P D vwCl [(o, .inr (3, [.long vn, sr])), (x, .inr (2, [.ref n, .int (kn + 1), .int ch])), (n, .inl (cJ, 8, .inr (.inl f))), (y, .inr (4, [.int ((j_X2_knock th g kn2 td).2.1), .ref n2, .int ((j_X2_knock th g kn2 td).2.2.2.1), .int ((j_X2_knock th g kn2 td).2.2.2.2)])), (n2, .inl (cJ, 8, .inr (.inl ((j_X2_knock th g kn2 td).2.2.1))))] H := hP
  have hD : va_D A [(o, .inr (3, [.long vn, sr])), (x, .inr (2, [.ref n, .int (kn + 1), .int ch])), (n, .inl (cJ, 8, .inr (.inl f))), (y, .inr (4, [.int ((j_X2_knock th g kn2 td).2.1), .ref n2, .int ((j_X2_knock th g kn2 td).2.2.2.1), .int ((j_X2_knock th g kn2 td).2.2.2.2)])), (n2, .inl (cJ, 8, .inr (.inl ((j_X2_knock th g kn2 td).2.2.1))))] := hD
  obtain ⟨hrv, hI⟩ := st_knock hI th
  refine W.eq (g2 := F0 m 1075 ls [.int ((j_X2_knock th g kn2 td).1)]) rfl ?_
  refine lv_pop hx hb dL_law_1075 rfl ?_
  refine lv_goto (tgt := 1162) hx hb dL_law_1076 (by decide) ?_
  refine W.widen (k := cells + 100) (n := slots + 8000) (by omega) (by omega) ?_
  exact kk _ _ _ _ _ _ _ _ _ _ _ _ hI (hP.sub [1, 2, 3, 4, 0] rfl) (hD.sub [1, 2, 3, 4, 0] (by decide) rfl) hS (lv_sub hl [0, 1, 2, 3, 4] rfl)
set_option maxHeartbeats 4000000 in
set_option maxRecDepth 100000 in
theorem lc_house {p : Program} {l : Launch} {e : Env} {s : State} {m : MethodId} {below : List Frame} {meth : Method} {c : Code} {D : va_G} {cB cJ : ClassId} {A : Nat → Prop} {Q : State → Prop} {b L x n y n2 o : Nat} {xs : Nat → Int32} (hl9 : l.stackTraces = false) (hx : p.tables.exec = Jvm.exec) (hb : c.code = code) (hml : c.maxLocals = 7) (hown : s.vm.findClass RL = some m.cls) (hts : ∀ w ∈ wsL_law, w.before #[Value.ref b] s = true) (hE : kE D cB cJ A s s.heap) (hN : kN s) (hA : ∀ q : Nat, s.heap.size ≤ q → A q) (hX : va_X b L xs s s.heap) (hbl : b < s.heap.size) (hbA : ¬ A b) {i : Int32} {a1 : Int32} (hi1 : vp_in (i + 1) L) (ha1 : xs (i + 1).toNatClampNeg = a1) {a2 : Int32} (hi2 : vp_in (i + 2) L) (ha2 : xs (i + 2).toNatClampNeg = a2) {a3 : Int32} (hi3 : vp_in (i + 3) L) (ha3 : xs (i + 3).toNatClampNeg = a3) {a4 : Int32} (hi4 : vp_in (i + 4) L) (ha4 : xs (i + 4).toNatClampNeg = a4) {a5 : Int32} (hi5 : vp_in (i + 5) L) (ha5 : xs (i + 5).toNatClampNeg = a5) {kn ch kn2 td th : Int32} {f g : Nat → Int64} {vn : Int64} {sr : Value} {H : Heap} {locs : List Loc} {cells slots : Nat} {ls : Array Slot} (hc9 : cells + 100 ≤ 747762) (hs9 : slots + 8000 ≤ 6852817) (hI : kInv kn ch f kn2 td g) (hP : va_P D vwCl [(x, .inr (2, [.ref n, .int kn, .int ch])), (n, .inl (cJ, 8, .inr (.inl f))), (y, .inr (4, [.int th, .ref n2, .int kn2, .int td])), (n2, .inl (cJ, 8, .inr (.inl g))), (o, .inr (3, [.long vn, sr]))] H) (hD : va_D A [(x, .inr (2, [.ref n, .int kn, .int ch])), (n, .inl (cJ, 8, .inr (.inl f))), (y, .inr (4, [.int th, .ref n2, .int kn2, .int td])), (n2, .inl (cJ, 8, .inr (.inl g))), (o, .inr (3, [.long vn, sr]))]) (hS : va_S A s.heap H locs) (hl : lv_has ls 7 [(4, .int i), (3, .ref o), (2, .ref y), (1, .ref x), (0, .ref b)]) (kk : ∀ (kn ch kn2 td th : Int32) (f g : Nat → Int64) (vn : Int64) (sr : Value) (H : Heap) (locs : List Loc) (ls : Array Slot), kInv kn ch f kn2 td g → va_P D vwCl [(x, .inr (2, [.ref n, .int kn, .int ch])), (n, .inl (cJ, 8, .inr (.inl f))), (y, .inr (4, [.int th, .ref n2, .int kn2, .int td])), (n2, .inl (cJ, 8, .inr (.inl g))), (o, .inr (3, [.long vn, sr]))] H → va_D A [(x, .inr (2, [.ref n, .int kn, .int ch])), (n, .inl (cJ, 8, .inr (.inl f))), (y, .inr (4, [.int th, .ref n2, .int kn2, .int td])), (n2, .inl (cJ, 8, .inr (.inl g))), (o, .inr (3, [.long vn, sr]))] → va_S A s.heap H locs → lv_has ls 7 [(4, .int i), (3, .ref o), (2, .ref y), (1, .ref x), (0, .ref b)] → W p l e room_1 s m #[Value.ref b] below meth c H locs (cells + 100) (slots + 8000) Q (F0 m 1162 ls [])) : W p l e room_1 s m #[Value.ref b] below meth c H locs cells slots Q (F0 m 1079 ls []) := by
  have hK := hE.1
  refine lv_aload_n hx hb dL_law_1079 rfl (lv_at hl 3 rfl) ?_
  refine lv_aload_n hx hb dL_law_1080 rfl (lv_at hl 4 rfl) ?_
  refine lv_iload hx hb dL_law_1081 (lv_at hl 0 rfl) ?_
  refine lv_iconst (v := 1) hx hb dL_law_1083 (by decide) ?_
  refine lv_iadd hx hb dL_law_1084 ?_
  refine va_sld hx hb hX hbl hbA hS hi1 dL_law_1085 ?_
  rw [ha1]
  refine lv_aload_n hx hb dL_law_1086 rfl (lv_at hl 1 rfl) ?_
  have hFc := va_free (wc := [(x, .inr (2, [.ref n, .int kn, .int ch])), (n, .inl (cJ, 8, .inr (.inl f))), (o, .inr (3, [.long vn, sr]))]) hD hS hA [0, 1, 4] rfl
  refine kx_go (vx_runSX (As := [.ref x, .int a1, .ref o]) (rest := []) ⟨hx, hb, hml, hown, hts⟩ (c_L_house l hl9 D cB cJ _ x n o kn ch f vn sr a1 (hP.sub [0, 1, 4] rfl) ((hD.sub [0, 1, 4] (by decide) rfl).weaken (fun _ _ _ _ => trivial))) (vx_cwSW 3 hts gL_law_L_house rfl rfl rfl (by decide +kernel) ⟨(Nat.le_of_ble_eq_true rfl), (Nat.le_of_ble_eq_true rfl)⟩) (k_preSN hE hN hS hFc) rfl rfl hl.1 rfl (lv_room (Nat.le_of_ble_eq_true rfl)) dL_law_1087 ⟨by show _ ≤ (747762 : Nat); omega, by show _ ≤ (6852817 : Nat); omega⟩) hS (fun q _ h => hFc q h) hFc (fun E ce q9 H locs hp hz hk hS hce hcv hcl => hp.elim) (fun v H locs hp hz hk hS => ?_)
  rcases hp with ⟨r9, hJ9, rfl, hP1, hD1⟩ | ⟨E9, hJ9, rfl, hP1, hD1⟩
  · have hP1 : va_P D vwCl [(x, .inr (2, [.ref n, .int r9.2.1, .int r9.2.2.1])), (n, .inl (cJ, 8, .inr (.inl r9.2.2.2))), (o, .inr (3, [.long ((fun z : Int32 => z.toInt64) r9.1), sr]))] H := hP1
    have hD1 : va_D _ [(x, .inr (2, [.ref n, .int r9.2.1, .int r9.2.2.1])), (n, .inl (cJ, 8, .inr (.inl r9.2.2.2))), (o, .inr (3, [.long ((fun z : Int32 => z.toInt64) r9.1), sr]))] := hD1
    obtain ⟨hP, hD⟩ := va_join (wr := [(y, .inr (4, [.int th, .ref n2, .int kn2, .int td])), (n2, .inl (cJ, 8, .inr (.inl g)))]) (wc := [(x, .inr (2, [.ref n, .int kn, .int ch])), (n, .inl (cJ, 8, .inr (.inl f))), (o, .inr (3, [.long vn, sr]))]) (w1 := [(x, .inr (2, [.ref n, .int r9.2.1, .int r9.2.2.1])), (n, .inl (cJ, 8, .inr (.inl r9.2.2.2))), (o, .inr (3, [.long ((fun z : Int32 => z.toInt64) r9.1), sr]))]) hP hD [0, 1, 4] [2, 3] rfl rfl (by decide) (by decide) hk hFc hP1 hD1
    have hP : va_P D vwCl [(y, .inr (4, [.int th, .ref n2, .int kn2, .int td])), (n2, .inl (cJ, 8, .inr (.inl g))), (x, .inr (2, [.ref n, .int r9.2.1, .int r9.2.2.1])), (n, .inl (cJ, 8, .inr (.inl r9.2.2.2))), (o, .inr (3, [.long ((fun z : Int32 => z.toInt64) r9.1), sr]))] H := hP
    have hD : va_D A [(y, .inr (4, [.int th, .ref n2, .int kn2, .int td])), (n2, .inl (cJ, 8, .inr (.inl g))), (x, .inr (2, [.ref n, .int r9.2.1, .int r9.2.2.1])), (n, .inl (cJ, 8, .inr (.inl r9.2.2.2))), (o, .inr (3, [.long ((fun z : Int32 => z.toInt64) r9.1), sr]))] := hD
    refine W.eq (g2 := F0 m 1090 ls [.int 0]) rfl ?_
    refine lv_istore (lv' := [(5, .int 0), (4, .int i), (3, .ref o), (2, .ref y), (1, .ref x), (0, .ref b)]) hx hb dL_law_1090 hl (by decide) rfl (fun ls hl => ?_)
    refine lv_aload_n hx hb dL_law_1092 rfl (lv_at hl 3 rfl) ?_
    refine lv_aload_n hx hb dL_law_1093 rfl (lv_at hl 5 rfl) ?_
    refine lv_iload hx hb dL_law_1094 (lv_at hl 1 rfl) ?_
    refine lv_iconst (v := 1) hx hb dL_law_1096 (by decide) ?_
    refine lv_iadd hx hb dL_law_1097 ?_
    refine va_sld hx hb hX hbl hbA hS hi1 dL_law_1098 ?_
    rw [ha1]
    have hFc := va_free (wc := [(y, .inr (4, [.int th, .ref n2, .int kn2, .int td])), (n2, .inl (cJ, 8, .inr (.inl g)))]) hD hS hA [0, 1] rfl
    refine k_go (va_runV (As := [.int a1]) (rest := []) ⟨hx, hb, hml, hown, hts⟩ (c_X2_house l D cB cJ _ y n2 th g kn2 td (hP.sub [0, 1] rfl) ((hD.sub [0, 1] (by decide) rfl).weaken (fun _ _ _ _ => trivial)) a1) (cwV 1 hts gL_law_X2_house rfl rfl rfl (by decide +kernel) ⟨(Nat.le_of_ble_eq_true rfl), (Nat.le_of_ble_eq_true rfl)⟩) (k_preV hE hS hFc (va_recv hK hP (ci := 4) (q0 := 0) rfl rfl)) rfl rfl hl.1 rfl (lv_room (Nat.le_of_ble_eq_true rfl)) dL_law_1099 ⟨by show _ ≤ (747762 : Nat); omega, by show _ ≤ (6852817 : Nat); omega⟩) hS (fun q _ h => hFc q h) hFc (fun v H locs hp hz hk hS => ?_)
    obtain ⟨rfl, hP1, hD1⟩ := hp
    have hP1 : va_P D vwCl [(y, .inr (4, [.int ((j_X2_house th g kn2 td a1).2.1), .ref n2, .int ((j_X2_house th g kn2 td a1).2.2.2.1), .int ((j_X2_house th g kn2 td a1).2.2.2.2)])), (n2, .inl (cJ, 8, .inr (.inl ((j_X2_house th g kn2 td a1).2.2.1))))] H := hP1
    have hD1 : va_D _ [(y, .inr (4, [.int ((j_X2_house th g kn2 td a1).2.1), .ref n2, .int ((j_X2_house th g kn2 td a1).2.2.2.1), .int ((j_X2_house th g kn2 td a1).2.2.2.2)])), (n2, .inl (cJ, 8, .inr (.inl ((j_X2_house th g kn2 td a1).2.2.1))))] := hD1
    obtain ⟨hP, hD⟩ := va_join (wr := [(x, .inr (2, [.ref n, .int r9.2.1, .int r9.2.2.1])), (n, .inl (cJ, 8, .inr (.inl r9.2.2.2))), (o, .inr (3, [.long ((fun z : Int32 => z.toInt64) r9.1), sr]))]) (wc := [(y, .inr (4, [.int th, .ref n2, .int kn2, .int td])), (n2, .inl (cJ, 8, .inr (.inl g)))]) (w1 := [(y, .inr (4, [.int ((j_X2_house th g kn2 td a1).2.1), .ref n2, .int ((j_X2_house th g kn2 td a1).2.2.2.1), .int ((j_X2_house th g kn2 td a1).2.2.2.2)])), (n2, .inl (cJ, 8, .inr (.inl ((j_X2_house th g kn2 td a1).2.2.1))))]) hP hD [0, 1] [2, 3, 4] rfl rfl (by decide) (by decide) hk hFc hP1 hD1
    have hP : va_P D vwCl [(x, .inr (2, [.ref n, .int r9.2.1, .int r9.2.2.1])), (n, .inl (cJ, 8, .inr (.inl r9.2.2.2))), (o, .inr (3, [.long ((fun z : Int32 => z.toInt64) r9.1), sr])), (y, .inr (4, [.int ((j_X2_house th g kn2 td a1).2.1), .ref n2, .int ((j_X2_house th g kn2 td a1).2.2.2.1), .int ((j_X2_house th g kn2 td a1).2.2.2.2)])), (n2, .inl (cJ, 8, .inr (.inl ((j_X2_house th g kn2 td a1).2.2.1))))] H := hP
    have hD : va_D A [(x, .inr (2, [.ref n, .int r9.2.1, .int r9.2.2.1])), (n, .inl (cJ, 8, .inr (.inl r9.2.2.2))), (o, .inr (3, [.long ((fun z : Int32 => z.toInt64) r9.1), sr])), (y, .inr (4, [.int ((j_X2_house th g kn2 td a1).2.1), .ref n2, .int ((j_X2_house th g kn2 td a1).2.2.2.1), .int ((j_X2_house th g kn2 td a1).2.2.2.2)])), (n2, .inl (cJ, 8, .inr (.inl ((j_X2_house th g kn2 td a1).2.2.1))))] := hD
    obtain ⟨hth, hrv, hI⟩ := (st_house hI th a1).1 _ hJ9
    refine W.eq (g2 := F0 m 1102 ls [.int ((j_X2_house th g kn2 td a1).1)]) rfl ?_
    refine lv_istore (lv' := [(6, .int ((j_X2_house th g kn2 td a1).1)), (5, .int 0), (4, .int i), (3, .ref o), (2, .ref y), (1, .ref x), (0, .ref b)]) hx hb dL_law_1102 hl (by decide) rfl (fun ls hl => ?_)
    refine lv_aload_n hx hb dL_law_1104 rfl (lv_at hl 4 rfl) ?_
    refine k_pV [] (rest := []) ⟨hx, hb, hml, hown, hts⟩ (c_X2_thrown l D cB cJ _ y n2 ((j_X2_house th g kn2 td a1).2.1) ((j_X2_house th g kn2 td a1).2.2.1) ((j_X2_house th g kn2 td a1).2.2.2.1) ((j_X2_house th g kn2 td a1).2.2.2.2) (hP.sub [3, 4] rfl)) (cwV 0 hts gL_law_X2_thrown rfl rfl rfl (by decide +kernel) ⟨(Nat.le_of_ble_eq_true rfl), (Nat.le_of_ble_eq_true rfl)⟩) (va_recv hK hP (ci := 4) (q0 := 3) rfl rfl) hE hS rfl rfl hl.1 (Nat.le_of_ble_eq_true rfl) dL_law_1105 ⟨by show _ ≤ (747762 : Nat); omega, by show _ ≤ (6852817 : Nat); omega⟩ (fun locs hS => ?_)
    refine W.eq (g2 := F0 m 1108 ls [.int (j_X2_thrown ((j_X2_house th g kn2 td a1).2.1) ((j_X2_house th g kn2 td a1).2.2.1) ((j_X2_house th g kn2 td a1).2.2.2.1) ((j_X2_house th g kn2 td a1).2.2.2.2))]) rfl ?_
    refine lv_iload hx hb dL_law_1108 (lv_at hl 1 rfl) ?_
    refine lv_icmp_eq (tgt := 1115) hx hb dL_law_1110 (by decide) (fun c_3 => ?_) (fun c_3 => ?_)
    · refine lv_iload hx hb dL_law_1115 (lv_at hl 1 rfl) ?_
      refine lv_if_ne (tgt := 1133) hx hb dL_law_1117 (by decide) (fun c_4 => ?_) (fun c_4 => ?_)
      · exact absurd (by decide) c_4
      · refine lv_aload_n hx hb dL_law_1120 rfl (lv_at hl 3 rfl) ?_
        refine va_getN (D := D) (ci := 3) (v := .long ((fun z : Int32 => z.toInt64) r9.1)) (C := RX1) (T := TX1) (N := 2) hx hb hts inlX1 hown hK hP 2 rfl rfl 0 (by decide) (va_Nw.use rfl hN.2.1) (fun _ h9 => h9) rfl dL_law_1121 ?_
        refine lv_iload hx hb dL_law_1124 (lv_at hl 0 rfl) ?_
        refine lv_i2l (v := ((j_X2_house th g kn2 td a1).1).toInt64) hx hb dL_law_1126 rfl ?_
        refine kl_eq (tgt := 1133) hx hb dL_law_1127 dL_law_1128 (by decide) (fun c_5 => ?_) (fun c_5 => ?_)
        · refine lv_goto (tgt := 1162) hx hb dL_law_1133 (by decide) ?_
          refine W.widen (k := cells + 100) (n := slots + 8000) (by omega) (by omega) ?_
          exact kk _ _ _ _ _ _ _ _ _ _ _ _ hI (hP.sub [0, 1, 3, 4, 2] rfl) (hD.sub [0, 1, 3, 4, 2] (by decide) rfl) hS (lv_sub hl [2, 3, 4, 5, 6] rfl)
        · exact absurd (by rw [hrv]) c_5
    · exact absurd hth c_3
  · have hP1 : va_P D vwCl [(x, .inr (2, [.ref n, .int kn, .int ch])), (n, .inl (cJ, 8, .inr (.inl f))), (o, .inr (3, [.long vn, sr]))] H := hP1
    have hD1 : va_D _ [(x, .inr (2, [.ref n, .int kn, .int ch])), (n, .inl (cJ, 8, .inr (.inl f))), (o, .inr (3, [.long vn, sr]))] := hD1
    obtain ⟨hP, hD⟩ := va_join (wr := [(y, .inr (4, [.int th, .ref n2, .int kn2, .int td])), (n2, .inl (cJ, 8, .inr (.inl g)))]) (wc := [(x, .inr (2, [.ref n, .int kn, .int ch])), (n, .inl (cJ, 8, .inr (.inl f))), (o, .inr (3, [.long vn, sr]))]) (w1 := [(x, .inr (2, [.ref n, .int kn, .int ch])), (n, .inl (cJ, 8, .inr (.inl f))), (o, .inr (3, [.long vn, sr]))]) hP hD [0, 1, 4] [2, 3] rfl rfl (by decide) (by decide) hk hFc hP1 hD1
    have hP : va_P D vwCl [(y, .inr (4, [.int th, .ref n2, .int kn2, .int td])), (n2, .inl (cJ, 8, .inr (.inl g))), (x, .inr (2, [.ref n, .int kn, .int ch])), (n, .inl (cJ, 8, .inr (.inl f))), (o, .inr (3, [.long vn, sr]))] H := hP
    have hD : va_D A [(y, .inr (4, [.int th, .ref n2, .int kn2, .int td])), (n2, .inl (cJ, 8, .inr (.inl g))), (x, .inr (2, [.ref n, .int kn, .int ch])), (n, .inl (cJ, 8, .inr (.inl f))), (o, .inr (3, [.long vn, sr]))] := hD
    refine W.eq (g2 := F0 m 1090 ls [.int (k_c1 E9)]) rfl ?_
    refine lv_istore (lv' := [(5, .int (k_c1 E9)), (4, .int i), (3, .ref o), (2, .ref y), (1, .ref x), (0, .ref b)]) hx hb dL_law_1090 hl (by decide) rfl (fun ls hl => ?_)
    refine lv_aload_n hx hb dL_law_1092 rfl (lv_at hl 3 rfl) ?_
    refine lv_aload_n hx hb dL_law_1093 rfl (lv_at hl 5 rfl) ?_
    refine lv_iload hx hb dL_law_1094 (lv_at hl 1 rfl) ?_
    refine lv_iconst (v := 1) hx hb dL_law_1096 (by decide) ?_
    refine lv_iadd hx hb dL_law_1097 ?_
    refine va_sld hx hb hX hbl hbA hS hi1 dL_law_1098 ?_
    rw [ha1]
    have hFc := va_free (wc := [(y, .inr (4, [.int th, .ref n2, .int kn2, .int td])), (n2, .inl (cJ, 8, .inr (.inl g)))]) hD hS hA [0, 1] rfl
    refine k_go (va_runV (As := [.int a1]) (rest := []) ⟨hx, hb, hml, hown, hts⟩ (c_X2_house l D cB cJ _ y n2 th g kn2 td (hP.sub [0, 1] rfl) ((hD.sub [0, 1] (by decide) rfl).weaken (fun _ _ _ _ => trivial)) a1) (cwV 1 hts gL_law_X2_house rfl rfl rfl (by decide +kernel) ⟨(Nat.le_of_ble_eq_true rfl), (Nat.le_of_ble_eq_true rfl)⟩) (k_preV hE hS hFc (va_recv hK hP (ci := 4) (q0 := 0) rfl rfl)) rfl rfl hl.1 rfl (lv_room (Nat.le_of_ble_eq_true rfl)) dL_law_1099 ⟨by show _ ≤ (747762 : Nat); omega, by show _ ≤ (6852817 : Nat); omega⟩) hS (fun q _ h => hFc q h) hFc (fun v H locs hp hz hk hS => ?_)
    obtain ⟨rfl, hP1, hD1⟩ := hp
    have hP1 : va_P D vwCl [(y, .inr (4, [.int ((j_X2_house th g kn2 td a1).2.1), .ref n2, .int ((j_X2_house th g kn2 td a1).2.2.2.1), .int ((j_X2_house th g kn2 td a1).2.2.2.2)])), (n2, .inl (cJ, 8, .inr (.inl ((j_X2_house th g kn2 td a1).2.2.1))))] H := hP1
    have hD1 : va_D _ [(y, .inr (4, [.int ((j_X2_house th g kn2 td a1).2.1), .ref n2, .int ((j_X2_house th g kn2 td a1).2.2.2.1), .int ((j_X2_house th g kn2 td a1).2.2.2.2)])), (n2, .inl (cJ, 8, .inr (.inl ((j_X2_house th g kn2 td a1).2.2.1))))] := hD1
    obtain ⟨hP, hD⟩ := va_join (wr := [(x, .inr (2, [.ref n, .int kn, .int ch])), (n, .inl (cJ, 8, .inr (.inl f))), (o, .inr (3, [.long vn, sr]))]) (wc := [(y, .inr (4, [.int th, .ref n2, .int kn2, .int td])), (n2, .inl (cJ, 8, .inr (.inl g)))]) (w1 := [(y, .inr (4, [.int ((j_X2_house th g kn2 td a1).2.1), .ref n2, .int ((j_X2_house th g kn2 td a1).2.2.2.1), .int ((j_X2_house th g kn2 td a1).2.2.2.2)])), (n2, .inl (cJ, 8, .inr (.inl ((j_X2_house th g kn2 td a1).2.2.1))))]) hP hD [0, 1] [2, 3, 4] rfl rfl (by decide) (by decide) hk hFc hP1 hD1
    have hP : va_P D vwCl [(x, .inr (2, [.ref n, .int kn, .int ch])), (n, .inl (cJ, 8, .inr (.inl f))), (o, .inr (3, [.long vn, sr])), (y, .inr (4, [.int ((j_X2_house th g kn2 td a1).2.1), .ref n2, .int ((j_X2_house th g kn2 td a1).2.2.2.1), .int ((j_X2_house th g kn2 td a1).2.2.2.2)])), (n2, .inl (cJ, 8, .inr (.inl ((j_X2_house th g kn2 td a1).2.2.1))))] H := hP
    have hD : va_D A [(x, .inr (2, [.ref n, .int kn, .int ch])), (n, .inl (cJ, 8, .inr (.inl f))), (o, .inr (3, [.long vn, sr])), (y, .inr (4, [.int ((j_X2_house th g kn2 td a1).2.1), .ref n2, .int ((j_X2_house th g kn2 td a1).2.2.2.1), .int ((j_X2_house th g kn2 td a1).2.2.2.2)])), (n2, .inl (cJ, 8, .inr (.inl ((j_X2_house th g kn2 td a1).2.2.1))))] := hD
    obtain ⟨hth, hI⟩ := (st_house hI th a1).2 _ hJ9
    refine W.eq (g2 := F0 m 1102 ls [.int ((j_X2_house th g kn2 td a1).1)]) rfl ?_
    refine lv_istore (lv' := [(6, .int ((j_X2_house th g kn2 td a1).1)), (5, .int (k_c1 E9)), (4, .int i), (3, .ref o), (2, .ref y), (1, .ref x), (0, .ref b)]) hx hb dL_law_1102 hl (by decide) rfl (fun ls hl => ?_)
    refine lv_aload_n hx hb dL_law_1104 rfl (lv_at hl 4 rfl) ?_
    refine k_pV [] (rest := []) ⟨hx, hb, hml, hown, hts⟩ (c_X2_thrown l D cB cJ _ y n2 ((j_X2_house th g kn2 td a1).2.1) ((j_X2_house th g kn2 td a1).2.2.1) ((j_X2_house th g kn2 td a1).2.2.2.1) ((j_X2_house th g kn2 td a1).2.2.2.2) (hP.sub [3, 4] rfl)) (cwV 0 hts gL_law_X2_thrown rfl rfl rfl (by decide +kernel) ⟨(Nat.le_of_ble_eq_true rfl), (Nat.le_of_ble_eq_true rfl)⟩) (va_recv hK hP (ci := 4) (q0 := 3) rfl rfl) hE hS rfl rfl hl.1 (Nat.le_of_ble_eq_true rfl) dL_law_1105 ⟨by show _ ≤ (747762 : Nat); omega, by show _ ≤ (6852817 : Nat); omega⟩ (fun locs hS => ?_)
    refine W.eq (g2 := F0 m 1108 ls [.int (j_X2_thrown ((j_X2_house th g kn2 td a1).2.1) ((j_X2_house th g kn2 td a1).2.2.1) ((j_X2_house th g kn2 td a1).2.2.2.1) ((j_X2_house th g kn2 td a1).2.2.2.2))]) rfl ?_
    refine lv_iload hx hb dL_law_1108 (lv_at hl 1 rfl) ?_
    refine lv_icmp_eq (tgt := 1115) hx hb dL_law_1110 (by decide) (fun c_7 => ?_) (fun c_7 => ?_)
    · refine lv_iload hx hb dL_law_1115 (lv_at hl 1 rfl) ?_
      refine lv_if_ne (tgt := 1133) hx hb dL_law_1117 (by decide) (fun c_8 => ?_) (fun c_8 => ?_)
      · refine lv_goto (tgt := 1162) hx hb dL_law_1133 (by decide) ?_
        refine W.widen (k := cells + 100) (n := slots + 8000) (by omega) (by omega) ?_
        exact kk _ _ _ _ _ _ _ _ _ _ _ _ hI (hP.sub [0, 1, 3, 4, 2] rfl) (hD.sub [0, 1, 3, 4, 2] (by decide) rfl) hS (lv_sub hl [2, 3, 4, 5, 6] rfl)
      · exact absurd c_8 (k_c1_ne E9)
    · exact absurd hth c_7
set_option maxHeartbeats 4000000 in
set_option maxRecDepth 100000 in
theorem lc_isSound {p : Program} {l : Launch} {e : Env} {s : State} {m : MethodId} {below : List Frame} {meth : Method} {c : Code} {D : va_G} {cB cJ : ClassId} {A : Nat → Prop} {Q : State → Prop} {b L x n y n2 o : Nat} {xs : Nat → Int32} (hl9 : l.stackTraces = false) (hx : p.tables.exec = Jvm.exec) (hb : c.code = code) (hml : c.maxLocals = 7) (hown : s.vm.findClass RL = some m.cls) (hts : ∀ w ∈ wsL_law, w.before #[Value.ref b] s = true) (hE : kE D cB cJ A s s.heap) (hN : kN s) (hA : ∀ q : Nat, s.heap.size ≤ q → A q) (hX : va_X b L xs s s.heap) (hbl : b < s.heap.size) (hbA : ¬ A b) {i : Int32} {a1 : Int32} (hi1 : vp_in (i + 1) L) (ha1 : xs (i + 1).toNatClampNeg = a1) {a2 : Int32} (hi2 : vp_in (i + 2) L) (ha2 : xs (i + 2).toNatClampNeg = a2) {a3 : Int32} (hi3 : vp_in (i + 3) L) (ha3 : xs (i + 3).toNatClampNeg = a3) {a4 : Int32} (hi4 : vp_in (i + 4) L) (ha4 : xs (i + 4).toNatClampNeg = a4) {a5 : Int32} (hi5 : vp_in (i + 5) L) (ha5 : xs (i + 5).toNatClampNeg = a5) {kn ch kn2 td th : Int32} {f g : Nat → Int64} {vn : Int64} {sr : Value} {H : Heap} {locs : List Loc} {cells slots : Nat} {ls : Array Slot} (hc9 : cells + 100 ≤ 747762) (hs9 : slots + 8000 ≤ 6852817) (hI : kInv kn ch f kn2 td g) (hP : va_P D vwCl [(x, .inr (2, [.ref n, .int kn, .int ch])), (n, .inl (cJ, 8, .inr (.inl f))), (y, .inr (4, [.int th, .ref n2, .int kn2, .int td])), (n2, .inl (cJ, 8, .inr (.inl g))), (o, .inr (3, [.long vn, sr]))] H) (hD : va_D A [(x, .inr (2, [.ref n, .int kn, .int ch])), (n, .inl (cJ, 8, .inr (.inl f))), (y, .inr (4, [.int th, .ref n2, .int kn2, .int td])), (n2, .inl (cJ, 8, .inr (.inl g))), (o, .inr (3, [.long vn, sr]))]) (hS : va_S A s.heap H locs) (hl : lv_has ls 7 [(4, .int i), (3, .ref o), (2, .ref y), (1, .ref x), (0, .ref b)]) (kk : ∀ (kn ch kn2 td th : Int32) (f g : Nat → Int64) (vn : Int64) (sr : Value) (H : Heap) (locs : List Loc) (ls : Array Slot), kInv kn ch f kn2 td g → va_P D vwCl [(x, .inr (2, [.ref n, .int kn, .int ch])), (n, .inl (cJ, 8, .inr (.inl f))), (y, .inr (4, [.int th, .ref n2, .int kn2, .int td])), (n2, .inl (cJ, 8, .inr (.inl g))), (o, .inr (3, [.long vn, sr]))] H → va_D A [(x, .inr (2, [.ref n, .int kn, .int ch])), (n, .inl (cJ, 8, .inr (.inl f))), (y, .inr (4, [.int th, .ref n2, .int kn2, .int td])), (n2, .inl (cJ, 8, .inr (.inl g))), (o, .inr (3, [.long vn, sr]))] → va_S A s.heap H locs → lv_has ls 7 [(4, .int i), (3, .ref o), (2, .ref y), (1, .ref x), (0, .ref b)] → W p l e room_1 s m #[Value.ref b] below meth c H locs (cells + 100) (slots + 8000) Q (F0 m 1162 ls [])) : W p l e room_1 s m #[Value.ref b] below meth c H locs cells slots Q (F0 m 1136 ls []) := by
  have hK := hE.1
  refine lv_aload_n hx hb dL_law_1136 rfl (lv_at hl 3 rfl) ?_
  refine k_pV [] (rest := []) ⟨hx, hb, hml, hown, hts⟩ (c_X0_isSound l D cB cJ _ x n kn ch f (hP.sub [0, 1] rfl) (tk_X0_isSound kn ch f)) (cwV 0 hts gL_law_X0_isSound rfl rfl rfl (by decide +kernel) ⟨(Nat.le_of_ble_eq_true rfl), (Nat.le_of_ble_eq_true rfl)⟩) (va_recv hK hP (ci := 2) (q0 := 0) rfl rfl) hE hS rfl rfl hl.1 (Nat.le_of_ble_eq_true rfl) dL_law_1137 ⟨by show _ ≤ (747762 : Nat); omega, by show _ ≤ (6852817 : Nat); omega⟩ (fun locs hS => ?_)
  refine W.eq (g2 := F0 m 1140 ls [.int (j_X0_isSound kn ch f)]) rfl ?_
  refine lv_pop hx hb dL_law_1140 rfl ?_
  refine lv_aload_n hx hb dL_law_1141 rfl (lv_at hl 2 rfl) ?_
  have hFc := va_free (wc := [(y, .inr (4, [.int th, .ref n2, .int kn2, .int td])), (n2, .inl (cJ, 8, .inr (.inl g)))]) hD hS hA [2, 3] rfl
  refine k_go (va_runV (As := []) (rest := []) ⟨hx, hb, hml, hown, hts⟩ (c_X2_isSound l D cB cJ _ y n2 th g kn2 td (hP.sub [2, 3] rfl) ((hD.sub [2, 3] (by decide) rfl).weaken (fun _ _ _ _ => trivial))) (cwV 0 hts gL_law_X2_isSound rfl rfl rfl (by decide +kernel) ⟨(Nat.le_of_ble_eq_true rfl), (Nat.le_of_ble_eq_true rfl)⟩) (k_preV hE hS hFc (va_recv hK hP (ci := 4) (q0 := 2) rfl rfl)) rfl rfl hl.1 rfl (lv_room (Nat.le_of_ble_eq_true rfl)) dL_law_1142 ⟨by show _ ≤ (747762 : Nat); omega, by show _ ≤ (6852817 : Nat); omega⟩) hS (fun q _ h => hFc q h) hFc (fun v H locs hp hz hk hS => ?_)
  obtain ⟨rfl, hP1, hD1⟩ := hp
  have hP1 : va_P D vwCl [(y, .inr (4, [.int ((j_X2_isSound th g kn2 td).2.1), .ref n2, .int ((j_X2_isSound th g kn2 td).2.2.2.1), .int ((j_X2_isSound th g kn2 td).2.2.2.2)])), (n2, .inl (cJ, 8, .inr (.inl ((j_X2_isSound th g kn2 td).2.2.1))))] H := hP1
  have hD1 : va_D _ [(y, .inr (4, [.int ((j_X2_isSound th g kn2 td).2.1), .ref n2, .int ((j_X2_isSound th g kn2 td).2.2.2.1), .int ((j_X2_isSound th g kn2 td).2.2.2.2)])), (n2, .inl (cJ, 8, .inr (.inl ((j_X2_isSound th g kn2 td).2.2.1))))] := hD1
  obtain ⟨hP, hD⟩ := va_join (wr := [(x, .inr (2, [.ref n, .int kn, .int ch])), (n, .inl (cJ, 8, .inr (.inl f))), (o, .inr (3, [.long vn, sr]))]) (wc := [(y, .inr (4, [.int th, .ref n2, .int kn2, .int td])), (n2, .inl (cJ, 8, .inr (.inl g)))]) (w1 := [(y, .inr (4, [.int ((j_X2_isSound th g kn2 td).2.1), .ref n2, .int ((j_X2_isSound th g kn2 td).2.2.2.1), .int ((j_X2_isSound th g kn2 td).2.2.2.2)])), (n2, .inl (cJ, 8, .inr (.inl ((j_X2_isSound th g kn2 td).2.2.1))))]) hP hD [2, 3] [0, 1, 4] rfl rfl (by decide) (by decide) hk hFc hP1 hD1
  have hP : va_P D vwCl [(x, .inr (2, [.ref n, .int kn, .int ch])), (n, .inl (cJ, 8, .inr (.inl f))), (o, .inr (3, [.long vn, sr])), (y, .inr (4, [.int ((j_X2_isSound th g kn2 td).2.1), .ref n2, .int ((j_X2_isSound th g kn2 td).2.2.2.1), .int ((j_X2_isSound th g kn2 td).2.2.2.2)])), (n2, .inl (cJ, 8, .inr (.inl ((j_X2_isSound th g kn2 td).2.2.1))))] H := hP
  have hD : va_D A [(x, .inr (2, [.ref n, .int kn, .int ch])), (n, .inl (cJ, 8, .inr (.inl f))), (o, .inr (3, [.long vn, sr])), (y, .inr (4, [.int ((j_X2_isSound th g kn2 td).2.1), .ref n2, .int ((j_X2_isSound th g kn2 td).2.2.2.1), .int ((j_X2_isSound th g kn2 td).2.2.2.2)])), (n2, .inl (cJ, 8, .inr (.inl ((j_X2_isSound th g kn2 td).2.2.1))))] := hD
  obtain ⟨hrv, hI⟩ := st_isSound hI th
  refine W.eq (g2 := F0 m 1145 ls [.int ((j_X2_isSound th g kn2 td).1)]) rfl ?_
  refine lv_pop hx hb dL_law_1145 rfl ?_
  refine lv_goto (tgt := 1162) hx hb dL_law_1146 (by decide) ?_
  refine W.widen (k := cells + 100) (n := slots + 8000) (by omega) (by omega) ?_
  exact kk _ _ _ _ _ _ _ _ _ _ _ _ hI (hP.sub [0, 1, 3, 4, 2] rfl) (hD.sub [0, 1, 3, 4, 2] (by decide) rfl) hS (lv_sub hl [0, 1, 2, 3, 4] rfl)
set_option maxHeartbeats 4000000 in
set_option maxRecDepth 100000 in
theorem lc_digest {p : Program} {l : Launch} {e : Env} {s : State} {m : MethodId} {below : List Frame} {meth : Method} {c : Code} {D : va_G} {cB cJ : ClassId} {A : Nat → Prop} {Q : State → Prop} {b L x n y n2 o : Nat} {xs : Nat → Int32} (hl9 : l.stackTraces = false) (hx : p.tables.exec = Jvm.exec) (hb : c.code = code) (hml : c.maxLocals = 7) (hown : s.vm.findClass RL = some m.cls) (hts : ∀ w ∈ wsL_law, w.before #[Value.ref b] s = true) (hE : kE D cB cJ A s s.heap) (hN : kN s) (hA : ∀ q : Nat, s.heap.size ≤ q → A q) (hX : va_X b L xs s s.heap) (hbl : b < s.heap.size) (hbA : ¬ A b) {i : Int32} {a1 : Int32} (hi1 : vp_in (i + 1) L) (ha1 : xs (i + 1).toNatClampNeg = a1) {a2 : Int32} (hi2 : vp_in (i + 2) L) (ha2 : xs (i + 2).toNatClampNeg = a2) {a3 : Int32} (hi3 : vp_in (i + 3) L) (ha3 : xs (i + 3).toNatClampNeg = a3) {a4 : Int32} (hi4 : vp_in (i + 4) L) (ha4 : xs (i + 4).toNatClampNeg = a4) {a5 : Int32} (hi5 : vp_in (i + 5) L) (ha5 : xs (i + 5).toNatClampNeg = a5) {kn ch kn2 td th : Int32} {f g : Nat → Int64} {vn : Int64} {sr : Value} {H : Heap} {locs : List Loc} {cells slots : Nat} {ls : Array Slot} (hc9 : cells + 100 ≤ 747762) (hs9 : slots + 8000 ≤ 6852817) (hI : kInv kn ch f kn2 td g) (hP : va_P D vwCl [(x, .inr (2, [.ref n, .int kn, .int ch])), (n, .inl (cJ, 8, .inr (.inl f))), (y, .inr (4, [.int th, .ref n2, .int kn2, .int td])), (n2, .inl (cJ, 8, .inr (.inl g))), (o, .inr (3, [.long vn, sr]))] H) (hD : va_D A [(x, .inr (2, [.ref n, .int kn, .int ch])), (n, .inl (cJ, 8, .inr (.inl f))), (y, .inr (4, [.int th, .ref n2, .int kn2, .int td])), (n2, .inl (cJ, 8, .inr (.inl g))), (o, .inr (3, [.long vn, sr]))]) (hS : va_S A s.heap H locs) (hl : lv_has ls 7 [(4, .int i), (3, .ref o), (2, .ref y), (1, .ref x), (0, .ref b)]) (kk : ∀ (kn ch kn2 td th : Int32) (f g : Nat → Int64) (vn : Int64) (sr : Value) (H : Heap) (locs : List Loc) (ls : Array Slot), kInv kn ch f kn2 td g → va_P D vwCl [(x, .inr (2, [.ref n, .int kn, .int ch])), (n, .inl (cJ, 8, .inr (.inl f))), (y, .inr (4, [.int th, .ref n2, .int kn2, .int td])), (n2, .inl (cJ, 8, .inr (.inl g))), (o, .inr (3, [.long vn, sr]))] H → va_D A [(x, .inr (2, [.ref n, .int kn, .int ch])), (n, .inl (cJ, 8, .inr (.inl f))), (y, .inr (4, [.int th, .ref n2, .int kn2, .int td])), (n2, .inl (cJ, 8, .inr (.inl g))), (o, .inr (3, [.long vn, sr]))] → va_S A s.heap H locs → lv_has ls 7 [(4, .int i), (3, .ref o), (2, .ref y), (1, .ref x), (0, .ref b)] → W p l e room_1 s m #[Value.ref b] below meth c H locs (cells + 100) (slots + 8000) Q (F0 m 1162 ls [])) : W p l e room_1 s m #[Value.ref b] below meth c H locs cells slots Q (F0 m 1149 ls []) := by
  have hK := hE.1
  refine lv_aload_n hx hb dL_law_1149 rfl (lv_at hl 3 rfl) ?_
  have hFc := va_free (wc := [(x, .inr (2, [.ref n, .int kn, .int ch])), (n, .inl (cJ, 8, .inr (.inl f)))]) hD hS hA [0, 1] rfl
  refine k_go (va_runV (As := []) (rest := []) ⟨hx, hb, hml, hown, hts⟩ (c_X0_digest l D cB cJ _ x n kn ch f (hP.sub [0, 1] rfl) ((hD.sub [0, 1] (by decide) rfl).weaken (fun _ _ _ _ => trivial))) (cwV 0 hts gL_law_X0_digest rfl rfl rfl (by decide +kernel) ⟨(Nat.le_of_ble_eq_true rfl), (Nat.le_of_ble_eq_true rfl)⟩) (k_preV hE hS hFc (va_recv hK hP (ci := 2) (q0 := 0) rfl rfl)) rfl rfl hl.1 rfl (lv_room (Nat.le_of_ble_eq_true rfl)) dL_law_1150 ⟨by show _ ≤ (747762 : Nat); omega, by show _ ≤ (6852817 : Nat); omega⟩) hS (fun q _ h => hFc q h) hFc (fun v H locs hp hz hk hS => ?_)
  obtain ⟨⟨t8, rfl⟩, hP1, hD1⟩ := hp
  have hP1 : va_P D vwCl [(x, .inr (2, [.ref n, .int kn, .int ch])), (n, .inl (cJ, 8, .inr (.inl f)))] H := hP1.sub [0, 1] rfl
  have hD1 : va_D _ [(x, .inr (2, [.ref n, .int kn, .int ch])), (n, .inl (cJ, 8, .inr (.inl f)))] := hD1.sub [0, 1] (by decide) rfl
  obtain ⟨hP, hD⟩ := va_join (wr := [(y, .inr (4, [.int th, .ref n2, .int kn2, .int td])), (n2, .inl (cJ, 8, .inr (.inl g))), (o, .inr (3, [.long vn, sr]))]) (wc := [(x, .inr (2, [.ref n, .int kn, .int ch])), (n, .inl (cJ, 8, .inr (.inl f)))]) (w1 := [(x, .inr (2, [.ref n, .int kn, .int ch])), (n, .inl (cJ, 8, .inr (.inl f)))]) hP hD [0, 1] [2, 3, 4] rfl rfl (by decide) (by decide) hk hFc hP1 hD1
  have hP : va_P D vwCl [(y, .inr (4, [.int th, .ref n2, .int kn2, .int td])), (n2, .inl (cJ, 8, .inr (.inl g))), (o, .inr (3, [.long vn, sr])), (x, .inr (2, [.ref n, .int kn, .int ch])), (n, .inl (cJ, 8, .inr (.inl f)))] H := hP
  have hD : va_D A [(y, .inr (4, [.int th, .ref n2, .int kn2, .int td])), (n2, .inl (cJ, 8, .inr (.inl g))), (o, .inr (3, [.long vn, sr])), (x, .inr (2, [.ref n, .int kn, .int ch])), (n, .inl (cJ, 8, .inr (.inl f)))] := hD
  refine W.eq (g2 := F0 m 1153 ls [.long t8]) rfl ?_
  refine lv_pop2_2 hx hb dL_law_1153 rfl ?_
  refine lv_aload_n hx hb dL_law_1154 rfl (lv_at hl 2 rfl) ?_
  have hFc := va_free (wc := [(y, .inr (4, [.int th, .ref n2, .int kn2, .int td])), (n2, .inl (cJ, 8, .inr (.inl g)))]) hD hS hA [0, 1] rfl
  refine k_go (va_runV (As := []) (rest := []) ⟨hx, hb, hml, hown, hts⟩ (c_X2_digest l D cB cJ _ y n2 th g kn2 td (hP.sub [0, 1] rfl) ((hD.sub [0, 1] (by decide) rfl).weaken (fun _ _ _ _ => trivial))) (cwV 0 hts gL_law_X2_digest rfl rfl rfl (by decide +kernel) ⟨(Nat.le_of_ble_eq_true rfl), (Nat.le_of_ble_eq_true rfl)⟩) (k_preV hE hS hFc (va_recv hK hP (ci := 4) (q0 := 0) rfl rfl)) rfl rfl hl.1 rfl (lv_room (Nat.le_of_ble_eq_true rfl)) dL_law_1155 ⟨by show _ ≤ (747762 : Nat); omega, by show _ ≤ (6852817 : Nat); omega⟩) hS (fun q _ h => hFc q h) hFc (fun v H locs hp hz hk hS => ?_)
  obtain ⟨⟨t9, rfl⟩, hP1, hD1⟩ := hp
  have hP1 : va_P D vwCl [(y, .inr (4, [.int 0, .ref n2, .int kn2, .int td])), (n2, .inl (cJ, 8, .inr (.inl g)))] H := hP1
  have hD1 : va_D _ [(y, .inr (4, [.int 0, .ref n2, .int kn2, .int td])), (n2, .inl (cJ, 8, .inr (.inl g)))] := hD1
  obtain ⟨hP, hD⟩ := va_join (wr := [(o, .inr (3, [.long vn, sr])), (x, .inr (2, [.ref n, .int kn, .int ch])), (n, .inl (cJ, 8, .inr (.inl f)))]) (wc := [(y, .inr (4, [.int th, .ref n2, .int kn2, .int td])), (n2, .inl (cJ, 8, .inr (.inl g)))]) (w1 := [(y, .inr (4, [.int 0, .ref n2, .int kn2, .int td])), (n2, .inl (cJ, 8, .inr (.inl g)))]) hP hD [0, 1] [2, 3, 4] rfl rfl (by decide) (by decide) hk hFc hP1 hD1
  have hP : va_P D vwCl [(o, .inr (3, [.long vn, sr])), (x, .inr (2, [.ref n, .int kn, .int ch])), (n, .inl (cJ, 8, .inr (.inl f))), (y, .inr (4, [.int 0, .ref n2, .int kn2, .int td])), (n2, .inl (cJ, 8, .inr (.inl g)))] H := hP
  have hD : va_D A [(o, .inr (3, [.long vn, sr])), (x, .inr (2, [.ref n, .int kn, .int ch])), (n, .inl (cJ, 8, .inr (.inl f))), (y, .inr (4, [.int 0, .ref n2, .int kn2, .int td])), (n2, .inl (cJ, 8, .inr (.inl g)))] := hD
  refine W.eq (g2 := F0 m 1158 ls [.long t9]) rfl ?_
  refine lv_pop2_2 hx hb dL_law_1158 rfl ?_
  refine lv_goto (tgt := 1162) hx hb dL_law_1159 (by decide) ?_
  refine W.widen (k := cells + 100) (n := slots + 8000) (by omega) (by omega) ?_
  exact kk _ _ _ _ _ _ _ _ _ _ _ _ hI (hP.sub [1, 2, 3, 4, 0] rfl) (hD.sub [1, 2, 3, 4, 0] (by decide) rfl) hS (lv_sub hl [0, 1, 2, 3, 4] rfl)
