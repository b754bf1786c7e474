set_option maxHeartbeats 4000000 in
set_option maxRecDepth 100000 in
theorem law_loop {p : Program} {l : Launch} {e : Env} {s : State} {m : MethodId} {below : List Frame} {meth : Method} {c : Code} {D : va_G} {cB cJ : ClassId} {A : Nat → Prop} {Q : State → Prop} {b L x n y n2 o : Nat} {xs : Nat → Int32} (hl9 : l.stackTraces = false) (hx : p.tables.exec = Jvm.exec) (hb : c.code = code) (hml : c.maxLocals = 7) (hown : s.vm.findClass RL = some m.cls) (hts : ∀ w ∈ wsL_law, w.before #[Value.ref b] s = true) (hE : kE D cB cJ A s s.heap) (hN : kN s) (hA : ∀ q : Nat, s.heap.size ≤ q → A q) (hX : va_X b L xs s s.heap) (hbl : b < s.heap.size) (hbA : ¬ A b) (hr : meth.sig.returnType = ret) (hlocks : meth.locks = false) (hAe : ∀ q : Nat, A q → s.heap.size ≤ q) (hL : L ≤ 3072) (hQ : Q = lw_Z below #[Value.ref b] s) : ∀ (u9 k : Nat) (kn ch kn2 td th : Int32) (f g : Nat → Int64) (vn : Int64) (sr : Value) (H : Heap) (locs : List Loc) (ls : Array Slot), k + u9 = 513 → k ≤ 512 → kInv kn ch f kn2 td g → va_P D vwCl [(x, .inr (2, [.ref n, .int kn, .int ch])), (n, .inl (cJ, 8, .inr (.inl f))), (y, .inr (4, [.int th, .ref n2, .int kn2, .int td])), (n2, .inl (cJ, 8, .inr (.inl g))), (o, .inr (3, [.long vn, sr]))] H → va_D A [(x, .inr (2, [.ref n, .int kn, .int ch])), (n, .inl (cJ, 8, .inr (.inl f))), (y, .inr (4, [.int th, .ref n2, .int kn2, .int td])), (n2, .inl (cJ, 8, .inr (.inl g))), (o, .inr (3, [.long vn, sr]))] → va_S A s.heap H locs → lv_has ls 7 [(4, .int (nI (6 * k))), (3, .ref o), (2, .ref y), (1, .ref x), (0, .ref b)] → W p l e room_1 s m #[Value.ref b] below meth c H locs (20 + 100 * k) (60 + 8000 * k) Q (F0 m 27 ls []) := by
  intro u9
  induction u9 with
  | zero =>
    intro k kn ch kn2 td th f g vn sr H locs ls h9 h8
    exact absurd h9 (by omega)
  | succ u9 ih =>
    intro k kn ch kn2 td th f g vn sr H locs ls h9 h8 hI hP hD hS hl
    refine lv_iload hx hb dL_law_27 (lv_at hl 0 rfl) ?_
    refine lv_aload_n hx hb dL_law_29 rfl (lv_at hl 4 rfl) ?_
    refine va_slen hx hb hX hbl hbA hS dL_law_30 ?_
    refine lv_bipush (v := 6) hx hb dL_law_31 (by decide) ?_
    refine lv_isub hx hb dL_law_33 ?_
    refine lv_icmp_gt (tgt := 1168) hx hb dL_law_34 (by decide) (fun c_1 => ?_) (fun c_1 => ?_)
    · refine lv_iconst (v := 1) hx hb dL_law_1168 (by decide) ?_
      subst hQ
      refine va_forget (fun q hq => hAe _ (hS.2.2 q hq)) ?_
      refine W.widen (k := 747762) (n := 6852817) (by omega) (by omega) ?_
      exact lw_ret hx hb hr hlocks dL_law_1169
    · have h6 : 6 * k + 6 ≤ L := q_lw6 hL (by omega) c_1
      have hi : ∀ j : Nat, j < 6 → vp_in (nI (6 * k) + nI j) L := fun j hj => by rw [nI_add]; exact vp_in_nI (by omega) (by omega)
      refine lv_aload_n hx hb dL_law_37 rfl (lv_at hl 4 rfl) ?_
      refine lv_iload hx hb dL_law_38 (lv_at hl 0 rfl) ?_
      refine va_sld hx hb hX hbl hbA hS (vp_in_nI (by omega) (by omega)) dL_law_40 ?_
      refine lv_bipush (v := 31) hx hb dL_law_41 (by decide) ?_
      refine lv_iand hx hb dL_law_43 ?_
      obtain ⟨j, hj, ej⟩ := pk_andE (xs (nI (6 * k)).toNatClampNeg) (m := 31) 5 rfl
      rw [ej]
      have hc9 : 20 + 100 * k + 100 ≤ 747762 := by omega
      have hs9 : 60 + 8000 * k + 8000 ≤ 6852817 := by omega
      have KK : ∀ (kn ch kn2 td th : Int32) (f g : Nat → Int64) (vn : Int64) (sr : Value) (H : Heap) (locs : List Loc) (ls : Array Slot), kInv kn ch f kn2 td g → va_P D vwCl [(x, .inr (2, [.ref n, .int kn, .int ch])), (n, .inl (cJ, 8, .inr (.inl f))), (y, .inr (4, [.int th, .ref n2, .int kn2, .int td])), (n2, .inl (cJ, 8, .inr (.inl g))), (o, .inr (3, [.long vn, sr]))] H → va_D A [(x, .inr (2, [.ref n, .int kn, .int ch])), (n, .inl (cJ, 8, .inr (.inl f))), (y, .inr (4, [.int th, .ref n2, .int kn2, .int td])), (n2, .inl (cJ, 8, .inr (.inl g))), (o, .inr (3, [.long vn, sr]))] → va_S A s.heap H locs → lv_has ls 7 [(4, .int (nI (6 * k))), (3, .ref o), (2, .ref y), (1, .ref x), (0, .ref b)] → W p l e room_1 s m #[Value.ref b] below meth c H locs (20 + 100 * k + 100) (60 + 8000 * k + 8000) Q (F0 m 1162 ls []) := by
        intro kn ch kn2 td th f g vn sr H locs ls hI hP hD hS hl
        refine lv_iinc (v := (nI (6 * k) + 6)) (lv' := [(4, .int (nI (6 * k) + 6)), (3, .ref o), (2, .ref y), (1, .ref x), (0, .ref b)]) hx hb dL_law_1162 hl (k := 0) rfl rfl (by decide) rfl (fun ls hl => ?_)
        refine lv_goto (tgt := 27) hx hb dL_law_1165 (by decide) ?_
        rw [show nI (6 * k) + 6 = nI (6 * (k + 1)) from nI_add (6 * k) 6] at hl
        refine W.widen (k := 20 + 100 * (k + 1)) (n := 60 + 8000 * (k + 1)) (by omega) (by omega) ?_
        exact ih (k + 1) _ _ _ _ _ _ _ _ _ _ _ _ (by omega) (by omega) hI hP hD hS hl
      rcases (show j = 0 ∨ j = 1 ∨ j = 2 ∨ j = 3 ∨ j = 4 ∨ j = 5 ∨ j = 6 ∨ j = 7 ∨ j = 8 ∨ j = 9 ∨ j = 10 ∨ j = 11 ∨ j = 12 ∨ j = 13 ∨ j = 14 ∨ j = 15 ∨ j = 16 ∨ j = 17 ∨ j = 18 ∨ j = 19 ∨ j = 20 ∨ j = 21 ∨ j = 22 ∨ j = 23 ∨ j = 24 ∨ 25 ≤ j by omega) with rfl | rfl | rfl | rfl | rfl | rfl | rfl | rfl | rfl | rfl | rfl | rfl | rfl | rfl | rfl | rfl | rfl | rfl | rfl | rfl | rfl | rfl | rfl | rfl | rfl | h25
      · refine lv_tableIn (tgt := 160) hx hb dL_law_44 (by decide) (by decide) (off := 116) (by decide) (by decide) ?_
        exact lc_tell hl9 hx hb hml hown hts hE hN hA hX hbl hbA (hi 1 (by decide)) rfl (hi 2 (by decide)) rfl (hi 3 (by decide)) rfl (hi 4 (by decide)) rfl (hi 5 (by decide)) rfl hc9 hs9 hI hP hD hS hl KK
      · refine lv_tableIn (tgt := 236) hx hb dL_law_44 (by decide) (by decide) (off := 192) (by decide) (by decide) ?_
        exact lc_tellSecond hl9 hx hb hml hown hts hE hN hA hX hbl hbA (hi 1 (by decide)) rfl (hi 2 (by decide)) rfl (hi 3 (by decide)) rfl (hi 4 (by decide)) rfl (hi 5 (by decide)) rfl hc9 hs9 hI hP hD hS hl KK
      · refine lv_tableIn (tgt := 276) hx hb dL_law_44 (by decide) (by decide) (off := 232) (by decide) (by decide) ?_
        exact lc_tellNumber hl9 hx hb hml hown hts hE hN hA hX hbl hbA (hi 1 (by decide)) rfl (hi 2 (by decide)) rfl (hi 3 (by decide)) rfl (hi 4 (by decide)) rfl (hi 5 (by decide)) rfl hc9 hs9 hI hP hD hS hl KK
      · refine lv_tableIn (tgt := 328) hx hb dL_law_44 (by decide) (by decide) (off := 284) (by decide) (by decide) ?_
        exact lc_tellKnown hl9 hx hb hml hown hts hE hN hA hX hbl hbA (hi 1 (by decide)) rfl (hi 2 (by decide)) rfl (hi 3 (by decide)) rfl (hi 4 (by decide)) rfl (hi 5 (by decide)) rfl hc9 hs9 hI hP hD hS hl KK
      · refine lv_tableIn (tgt := 368) hx hb dL_law_44 (by decide) (by decide) (off := 324) (by decide) (by decide) ?_
        exact lc_take hl9 hx hb hml hown hts hE hN hA hX hbl hbA (hi 1 (by decide)) rfl (hi 2 (by decide)) rfl (hi 3 (by decide)) rfl (hi 4 (by decide)) rfl (hi 5 (by decide)) rfl hc9 hs9 hI hP hD hS hl KK
      · refine lv_tableIn (tgt := 408) hx hb dL_law_44 (by decide) (by decide) (off := 364) (by decide) (by decide) ?_
        exact lc_with hl9 hx hb hml hown hts hE hN hA hX hbl hbA (hi 1 (by decide)) rfl (hi 2 (by decide)) rfl (hi 3 (by decide)) rfl (hi 4 (by decide)) rfl (hi 5 (by decide)) rfl hc9 hs9 hI hP hD hS hl KK
      · refine lv_tableIn (tgt := 460) hx hb dL_law_44 (by decide) (by decide) (off := 416) (by decide) (by decide) ?_
        exact lc_plus hl9 hx hb hml hown hts hE hN hA hX hbl hbA (hi 1 (by decide)) rfl (hi 2 (by decide)) rfl (hi 3 (by decide)) rfl (hi 4 (by decide)) rfl (hi 5 (by decide)) rfl hc9 hs9 hI hP hD hS hl KK
      · refine lv_tableIn (tgt := 524) hx hb dL_law_44 (by decide) (by decide) (off := 480) (by decide) (by decide) ?_
        exact lc_minus hl9 hx hb hml hown hts hE hN hA hX hbl hbA (hi 1 (by decide)) rfl (hi 2 (by decide)) rfl (hi 3 (by decide)) rfl (hi 4 (by decide)) rfl (hi 5 (by decide)) rfl hc9 hs9 hI hP hD hS hl KK
      · refine lv_tableIn (tgt := 588) hx hb dL_law_44 (by decide) (by decide) (off := 544) (by decide) (by decide) ?_
        exact lc_walk hl9 hx hb hml hown hts hE hN hA hX hbl hbA (hi 1 (by decide)) rfl (hi 2 (by decide)) rfl (hi 3 (by decide)) rfl (hi 4 (by decide)) rfl (hi 5 (by decide)) rfl hc9 hs9 hI hP hD hS hl KK
      · refine lv_tableIn (tgt := 652) hx hb dL_law_44 (by decide) (by decide) (off := 608) (by decide) (by decide) ?_
        exact lc_cut hl9 hx hb hml hown hts hE hN hA hX hbl hbA (hi 1 (by decide)) rfl (hi 2 (by decide)) rfl (hi 3 (by decide)) rfl (hi 4 (by decide)) rfl (hi 5 (by decide)) rfl hc9 hs9 hI hP hD hS hl KK
      · refine lv_tableIn (tgt := 692) hx hb dL_law_44 (by decide) (by decide) (off := 648) (by decide) (by decide) ?_
        exact lc_of hl9 hx hb hml hown hts hE hN hA hX hbl hbA (hi 1 (by decide)) rfl (hi 2 (by decide)) rfl (hi 3 (by decide)) rfl (hi 4 (by decide)) rfl (hi 5 (by decide)) rfl hc9 hs9 hI hP hD hS hl KK
      · refine lv_tableIn (tgt := 732) hx hb dL_law_44 (by decide) (by decide) (off := 688) (by decide) (by decide) ?_
        exact lc_number hl9 hx hb hml hown hts hE hN hA hX hbl hbA (hi 1 (by decide)) rfl (hi 2 (by decide)) rfl (hi 3 (by decide)) rfl (hi 4 (by decide)) rfl (hi 5 (by decide)) rfl hc9 hs9 hI hP hD hS hl KK
      · refine lv_tableIn (tgt := 760) hx hb dL_law_44 (by decide) (by decide) (off := 716) (by decide) (by decide) ?_
        exact lc_text hl9 hx hb hml hown hts hE hN hA hX hbl hbA (hi 1 (by decide)) rfl (hi 2 (by decide)) rfl (hi 3 (by decide)) rfl (hi 4 (by decide)) rfl (hi 5 (by decide)) rfl hc9 hs9 hI hP hD hS hl KK
      · refine lv_tableIn (tgt := 788) hx hb dL_law_44 (by decide) (by decide) (off := 744) (by decide) (by decide) ?_
        exact lc_beyond hl9 hx hb hml hown hts hE hN hA hX hbl hbA (hi 1 (by decide)) rfl (hi 2 (by decide)) rfl (hi 3 (by decide)) rfl (hi 4 (by decide)) rfl (hi 5 (by decide)) rfl hc9 hs9 hI hP hD hS hl KK
      · refine lv_tableIn (tgt := 828) hx hb dL_law_44 (by decide) (by decide) (off := 784) (by decide) (by decide) ?_
        exact lc_compare hl9 hx hb hml hown hts hE hN hA hX hbl hbA (hi 1 (by decide)) rfl (hi 2 (by decide)) rfl (hi 3 (by decide)) rfl (hi 4 (by decide)) rfl (hi 5 (by decide)) rfl hc9 hs9 hI hP hD hS hl KK
      · refine lv_tableIn (tgt := 868) hx hb dL_law_44 (by decide) (by decide) (off := 824) (by decide) (by decide) ?_
        exact lc_isAhead hl9 hx hb hml hown hts hE hN hA hX hbl hbA (hi 1 (by decide)) rfl (hi 2 (by decide)) rfl (hi 3 (by decide)) rfl (hi 4 (by decide)) rfl (hi 5 (by decide)) rfl hc9 hs9 hI hP hD hS hl KK
      · refine lv_tableIn (tgt := 908) hx hb dL_law_44 (by decide) (by decide) (off := 864) (by decide) (by decide) ?_
        exact lc_isBehind hl9 hx hb hml hown hts hE hN hA hX hbl hbA (hi 1 (by decide)) rfl (hi 2 (by decide)) rfl (hi 3 (by decide)) rfl (hi 4 (by decide)) rfl (hi 5 (by decide)) rfl hc9 hs9 hI hP hD hS hl KK
      · refine lv_tableIn (tgt := 948) hx hb dL_law_44 (by decide) (by decide) (off := 904) (by decide) (by decide) ?_
        exact lc_areAlike hl9 hx hb hml hown hts hE hN hA hX hbl hbA (hi 1 (by decide)) rfl (hi 2 (by decide)) rfl (hi 3 (by decide)) rfl (hi 4 (by decide)) rfl (hi 5 (by decide)) rfl hc9 hs9 hI hP hD hS hl KK
      · refine lv_tableIn (tgt := 988) hx hb dL_law_44 (by decide) (by decide) (off := 944) (by decide) (by decide) ?_
        exact lc_between hl9 hx hb hml hown hts hE hN hA hX hbl hbA (hi 1 (by decide)) rfl (hi 2 (by decide)) rfl (hi 3 (by decide)) rfl (hi 4 (by decide)) rfl (hi 5 (by decide)) rfl hc9 hs9 hI hP hD hS hl KK
      · refine lv_tableIn (tgt := 1040) hx hb dL_law_44 (by decide) (by decide) (off := 996) (by decide) (by decide) ?_
        exact lc_order hl9 hx hb hml hown hts hE hN hA hX hbl hbA (hi 1 (by decide)) rfl (hi 2 (by decide)) rfl (hi 3 (by decide)) rfl (hi 4 (by decide)) rfl (hi 5 (by decide)) rfl hc9 hs9 hI hP hD hS hl KK
      · refine lv_tableIn (tgt := 1053) hx hb dL_law_44 (by decide) (by decide) (off := 1009) (by decide) (by decide) ?_
        exact lc_kinds hl9 hx hb hml hown hts hE hN hA hX hbl hbA (hi 1 (by decide)) rfl (hi 2 (by decide)) rfl (hi 3 (by decide)) rfl (hi 4 (by decide)) rfl (hi 5 (by decide)) rfl hc9 hs9 hI hP hD hS hl KK
      · refine lv_tableIn (tgt := 1066) hx hb dL_law_44 (by decide) (by decide) (off := 1022) (by decide) (by decide) ?_
        exact lc_knock hl9 hx hb hml hown hts hE hN hA hX hbl hbA (hi 1 (by decide)) rfl (hi 2 (by decide)) rfl (hi 3 (by decide)) rfl (hi 4 (by decide)) rfl (hi 5 (by decide)) rfl hc9 hs9 hI hP hD hS hl KK
      · refine lv_tableIn (tgt := 1079) hx hb dL_law_44 (by decide) (by decide) (off := 1035) (by decide) (by decide) ?_
        exact lc_house hl9 hx hb hml hown hts hE hN hA hX hbl hbA (hi 1 (by decide)) rfl (hi 2 (by decide)) rfl (hi 3 (by decide)) rfl (hi 4 (by decide)) rfl (hi 5 (by decide)) rfl hc9 hs9 hI hP hD hS hl KK
      · refine lv_tableIn (tgt := 1136) hx hb dL_law_44 (by decide) (by decide) (off := 1092) (by decide) (by decide) ?_
        exact lc_isSound hl9 hx hb hml hown hts hE hN hA hX hbl hbA (hi 1 (by decide)) rfl (hi 2 (by decide)) rfl (hi 3 (by decide)) rfl (hi 4 (by decide)) rfl (hi 5 (by decide)) rfl hc9 hs9 hI hP hD hS hl KK
      · refine lv_tableIn (tgt := 1149) hx hb dL_law_44 (by decide) (by decide) (off := 1105) (by decide) (by decide) ?_
        exact lc_digest hl9 hx hb hml hown hts hE hN hA hX hbl hbA (hi 1 (by decide)) rfl (hi 2 (by decide)) rfl (hi 3 (by decide)) rfl (hi 4 (by decide)) rfl (hi 5 (by decide)) rfl hc9 hs9 hI hP hD hS hl KK
      · refine lv_tableOut (tgt := 1162) hx hb dL_law_44 (Or.inr (by rw [nI_toInt (by omega)]; omega)) (by decide) ?_
        refine W.widen (k := 20 + 100 * k + 100) (n := 60 + 8000 * k + 8000) (by omega) (by omega) ?_
        exact KK _ _ _ _ _ _ _ _ _ _ _ _ hI hP hD hS hl
