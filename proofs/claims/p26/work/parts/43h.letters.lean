/-! the strings' letters -/
theorem q_cpy0 {ar z : Nat → Int32} {n i : Nat} (hi : i < n) : va_cpy ar z (0 : Int32).toNatClampNeg (0 : Int32).toNatClampNeg n i = ar i := by
  show (if 0 ≤ i ∧ i < 0 + n then ar (0 + (i - 0)) else z i) = ar i
  rw [if_pos ⟨by omega, by omega⟩]
  congr 1
  omega
theorem q_updL {a b : Nat → Int32} {n : Nat} {x : Int32} (h : ∀ i, i < n → a i = b i) : ∀ i, i < n + 1 → upd a n x i = upd b n x i := by
  intro i hi
  show (if i = n then x else a i) = (if i = n then x else b i)
  by_cases c : i = n
  · rw [if_pos c, if_pos c]
  · rw [if_neg c, if_neg c]
    exact h i (by omega)
theorem q_cpyL {a b sf : Nat → Int32} {n k : Nat} (h : ∀ i, i < n → a i = b i) : ∀ i, i < n + k → va_cpy sf a 0 n k i = va_cpy sf b 0 n k i := by
  intro i hi
  show (if n ≤ i ∧ i < n + k then sf (0 + (i - n)) else a i) = (if n ≤ i ∧ i < n + k then sf (0 + (i - n)) else b i)
  by_cases c : n ≤ i ∧ i < n + k
  · rw [if_pos c, if_pos c]
  · rw [if_neg c, if_neg c]
    exact h i (by omega)
def kRowV (D : va_G) (cB : ClassId) (A : Nat → Prop) (q n : Nat) (L : Nat → Int32) : Option Value → Heap → Prop := fun v1 H1 => ∃ (u : Nat) (f : Nat → Int32), v1 = some (.ref u) ∧ va_P D vwCl [(u, .inl (cB, q, .inl f))] H1 ∧ va_D A [(u, .inl (cB, q, .inl f))] ∧ sb_Fit f ∧ ∀ i, i < n → f i = L i
def kRow2V (D : va_G) (cB : ClassId) (A : Nat → Prop) (v cp n : Nat) (ar : Nat → Int32) : Option Value → Heap → Prop := fun v1 H1 => ∃ (u : Nat) (f : Nat → Int32), v1 = some (.ref u) ∧ va_P D vwCl [(v, .inl (cB, cp, .inl ar)), (u, .inl (cB, n, .inl f))] H1 ∧ va_D A [(v, .inl (cB, cp, .inl ar)), (u, .inl (cB, n, .inl f))] ∧ sb_Fit f ∧ ∀ i, i < n → f i = ar i
def sbEV (D : va_G) (cB : ClassId) (A : Nat → Prop) (b nn k : Nat) (L : Nat → Int32) : Option Value → Heap → Prop := fun v1 H1 => v1 = none ∧ ∃ (v m : Nat) (a : Nat → Int32), va_P D vwCl (wSB b v cB nn m a) H1 ∧ va_D A (wSB b v cB nn m a) ∧ sb_Fit a ∧ nn ≤ m ∧ k ≤ m ∧ m ≤ 130 ∧ ∀ i, i < nn → a i = L i
def sbOV (D : va_G) (cB : ClassId) (A : Nat → Prop) (b n : Nat) (L : Nat → Int32) (H : Heap) : Prop := ∃ (v m : Nat) (a : Nat → Int32), va_P D vwCl (wSB b v cB n m a) H ∧ va_D A (wSB b v cB n m a) ∧ sb_Fit a ∧ n ≤ m ∧ m ≤ 130 ∧ ∀ i, i < n → a i = L i
def sbRV (D : va_G) (cB : ClassId) (A : Nat → Prop) (b n : Nat) (L : Nat → Int32) : Option Value → Heap → Prop := fun v1 H1 => v1 = some (.ref b) ∧ sbOV D cB A b n L H1
def kFitX (D : va_G) (cB : ClassId) (A : Nat → Prop) (v cp : Nat) (F : Nat → Int32) : Option Value → Heap → Prop := fun v1 H1 => (∃ r : Int32, v1 = some (.int r)) ∧ va_P D vwCl [(v, .inl (cB, cp, .inl F))] H1 ∧ va_D A [(v, .inl (cB, cp, .inl F))] ∧ sb_Fit F
def kFitVX (D : va_G) (cB : ClassId) (A : Nat → Prop) (v cp : Nat) (F : Nat → Int32) : Option Value → Heap → Prop := fun v1 H1 => v1 = none ∧ va_P D vwCl [(v, .inl (cB, cp, .inl F))] H1 ∧ va_D A [(v, .inl (cB, cp, .inl F))] ∧ sb_Fit F
def sbWX (D : va_G) (cB : ClassId) (A : Nat → Prop) (b v nn cp : Nat) (F : Nat → Int32) : Option Value → Heap → Prop := fun v1 H1 => v1 = none ∧ va_P D vwCl (wSB b v cB nn cp F) H1 ∧ va_D A (wSB b v cB nn cp F) ∧ sb_Fit F
def kSTV (D : va_G) (cB : ClassId) (A : Nat → Prop) (n : Nat) (L : Nat → Int32) : Option Value → Heap → Prop := fun v1 H1 => ∃ (q u : Nat) (f : Nat → Int32), v1 = some (.ref q) ∧ va_P D vwCl (wST q u cB n f) H1 ∧ va_D A (wST q u cB n f) ∧ sb_Fit f ∧ ∀ i, i < n → f i = L i
def kSIV (D : va_G) (cB : ClassId) (A : Nat → Prop) (q n : Nat) (L : Nat → Int32) : Option Value → Heap → Prop := fun v1 H1 => v1 = none ∧ ∃ (u : Nat) (f : Nat → Int32), va_P D vwCl (wST q u cB n f) H1 ∧ va_D A (wST q u cB n f) ∧ sb_Fit f ∧ ∀ i, i < n → f i = L i
set_option maxHeartbeats 4000000 in
set_option maxRecDepth 100000 in
theorem cv_J7_copyOf_9075b (l : Launch) (D : va_G) (cB cJ : ClassId) (Hp : Heap) (v cp q : Nat) (ar : Nat → Int32) (hPr : va_P D vwCl [(v, .inl (cB, cp, .inl ar))] Hp) (hf : sb_Fit ar) (hc : cp ≤ 1000) (hq0 : q ≤ 130) (hne : ¬ q = cp) : kM l D cB cJ yJ7_copyOf_9075b wsJ7_copyOf_9075b ({ frames := 1, cells := 1, slots := 130, locals := 80 }) (va_A [] Hp.size) Hp [.ref v, .int (nI q)] (kRowV D cB (va_A [] Hp.size) q (if q < cp then q else cp) ar) 1 130 := by
  refine Met.ofW (cc := cJ7_copyOf_9075b) (maxL := 3) (ret := (some (.array .byte))) (by decide) rfl ?_
  intro p e s m args below meth c s₁ B hml hv
  obtain ⟨rfl, hHp, hE⟩ := hv
  subst hHp
  have hx := B.exec
  have hb := B.bytes
  have hr := B.returns
  have hts := atoms_spec (ws := wsJ7_copyOf_9075b) B.pre
  have hown : s.vm.findClass RJ7 = some m.cls := findClass_of_methodNamed B.named
  have hlocks := B.notSynchronized
  have hK := hE.1
  have hq : q ≤ 1000 := by omega
  have hvl : v < s.heap.size := (hPr 0 _ rfl).lt
  have hP : va_P D vwCl [] s.heap := fun k q h => by simp at h
  have hD0 : va_D (fun _ => True) [] := ⟨fun i j p q h => by simp at h, fun k q h => by simp at h⟩
  have hD := hD0.self (sz := s.heap.size)
  have hvA : ¬ va_A [] s.heap.size v := fun h => h.elim (fun ⟨k, e, h⟩ => by simp at h) (fun h => absurd hvl (Nat.not_lt.mpr h))
  generalize hAe : va_A [] s.heap.size = A at hE hD hvA ⊢
  have hA : ∀ q : Nat, s.heap.size ≤ q → A q := fun q h => by rw [← hAe]; exact Or.inr h
  have hTv := k_tab (A := A) hE.1 hPr 0 rfl (by omega) hvA
  have hS : va_S A s.heap s.heap [] := va_S.rf
  have hl := lv_entry ([.ref v, .int (nI q)]) (n := 3) (Nat.le_of_ble_eq_true rfl)
  rw [lg_entry_eq]
  generalize (lg_sl ([.ref v, .int (nI q)]) ++ List.replicate (3 - (lg_sl ([.ref v, .int (nI q)])).length) Slot.unset).toArray = ls at hl ⊢
  have hl : lv_has ls 3 [(0, .ref v), (1, .int (nI q))] := hl
  refine lv_iload_n hx hb dJ7_copyOf_9075b_0 rfl (lv_at hl 1 rfl) ?_
  refine lv_aload_n hx hb dJ7_copyOf_9075b_1 rfl (lv_at hl 0 rfl) ?_
  refine va_tlen hx hb hTv hS (v := (nI cp)) rfl dJ7_copyOf_9075b_2 ?_
  refine lv_icmp_ne (tgt := 14) hx hb dJ7_copyOf_9075b_3 (by decide) (fun c_1 => ?_) (fun c_1 => ?_)
  · refine lv_iload_n hx hb dJ7_copyOf_9075b_14 rfl (lv_at hl 1 rfl) ?_
    refine k_newB hx hb (hts (.arrayClass .byte) (by decide +kernel)) hK hP hD hS hA (q) (nI_pos (by omega)) (nI_clamp (by omega)) (by omega) (Nat.le_of_ble_eq_true rfl) (by show 0 + q ≤ 130; omega) dJ7_copyOf_9075b_15 (fun q_2 H hP hD hS => ?_)
    have hP : va_P D vwCl [(q_2, .inl (cB, q, .inl (fun _ => 0)))] H := hP
    have hD : va_D A [(q_2, .inl (cB, q, .inl (fun _ => 0)))] := hD
    refine lv_astore_n (lv' := [(2, .ref q_2), (0, .ref v), (1, .int (nI q))]) hx hb dJ7_copyOf_9075b_17 rfl hl (by decide) rfl (fun ls hl => ?_)
    refine lv_aload_n hx hb dJ7_copyOf_9075b_18 rfl (lv_at hl 1 rfl) ?_
    refine lv_iconst (v := 0) hx hb dJ7_copyOf_9075b_19 (by decide) ?_
    refine lv_aload_n hx hb dJ7_copyOf_9075b_20 rfl (lv_at hl 0 rfl) ?_
    refine lv_iconst (v := 0) hx hb dJ7_copyOf_9075b_21 (by decide) ?_
    refine lv_aload_n hx hb dJ7_copyOf_9075b_22 rfl (lv_at hl 1 rfl) ?_
    refine va_tlen hx hb hTv hS (v := (nI cp)) rfl dJ7_copyOf_9075b_23 ?_
    refine lv_iload_n hx hb dJ7_copyOf_9075b_24 rfl (lv_at hl 2 rfl) ?_
    refine va_mmin hx hb (hml.trans hl.1.symm) hown (hts (.methodLink RJ7 304 Lib.Math.min.name) (by decide +kernel)) (hts (.static Lib.Math.min.name) (by decide +kernel)) (hts (.initialized "java/lang/Math") (by decide +kernel)) (hts (.code Lib.Math.min.name Lib.Math.min.code 2 (some .int)) (by decide +kernel)) (Nat.le_of_ble_eq_true rfl) (Nat.le_of_ble_eq_true rfl) (Nat.le_of_ble_eq_true rfl) (by show 0 + q ≤ 130; omega) dJ7_copyOf_9075b_25 ?_
    refine lv_topi (fun z_3 ez_3 => ?_)
    rw [q_min cp q hc hq] at ez_3
    have hz : z_3.toNatClampNeg = (if q < cp then q else cp) := by rw [ez_3]; exact nI_clamp (by split <;> omega)
    refine vk_copyt hx hb (hml.trans hl.1.symm) hown (hts (.methodLink RJ7 150 arraycopyName) (by decide +kernel)) (hts (.native arraycopyName) (by decide +kernel)) (hts (.static arraycopyName) (by decide +kernel)) (hts (.initialized "java/lang/System") (by decide +kernel)) hK hP hD hS hTv 0 0 rfl rfl (by decide) (by decide) (by rw [ez_3]; exact nI_pos (by split <;> omega)) (by rw [hz]; show 0 + _ ≤ cp; split <;> omega) (by rw [hz]; show 0 + _ ≤ q; split <;> omega) (fun i _ => hf _) (Nat.le_of_ble_eq_true rfl) (Nat.le_of_ble_eq_true rfl) dJ7_copyOf_9075b_28 (fun H locs hP hD hS => ?_)
    have hP : va_P D vwCl [(q_2, .inl (cB, q, .inl (va_cpy ar (fun _ => 0) (0 : Int32).toNatClampNeg (0 : Int32).toNatClampNeg z_3.toNatClampNeg)))] H := hP
    have hD : va_D A [(q_2, .inl (cB, q, .inl (va_cpy ar (fun _ => 0) (0 : Int32).toNatClampNeg (0 : Int32).toNatClampNeg z_3.toNatClampNeg)))] := hD
    refine lv_aload_n hx hb dJ7_copyOf_9075b_31 rfl (lv_at hl 0 rfl) ?_
    refine W.widen (k := 1) (n := 130) (Nat.le_of_ble_eq_true rfl) (by omega) ?_
    exact k_aret hx hb hr (Or.inr ⟨_, rfl⟩) hlocks hS dJ7_copyOf_9075b_32 ⟨_, _, rfl, hP.sub [0] rfl, hD.sub [0] (by decide) rfl, sb_fitC hf sb_fit0, fun i hi => by rw [hz]; exact q_cpy0 hi⟩
  · exact absurd (show nI q = nI cp from c_1) (fun z => hne ((nI_eq (by omega) (by omega)).mp z))
set_option maxHeartbeats 4000000 in
set_option maxRecDepth 100000 in
theorem cv_J5_ensureCapacityInternal_d00df (l : Launch) (D : va_G) (cB cJ : ClassId) (Hp : Heap) (b v nn cp k : Nat) (ar : Nat → Int32) (hP : va_P D vwCl (wSB b v cB nn cp ar) Hp) (hD9 : va_D (fun _ => True) (wSB b v cB nn cp ar)) (hf : sb_Fit ar) (hnm : nn ≤ cp) (hm : cp ≤ 130) (hk60 : k ≤ 60) : kM l D cB cJ yJ5_ensureCapacityInternal_d00df wsJ5_ensureCapacityInternal_d00df ({ frames := 3, cells := 1, slots := 130, locals := 102 }) (va_A (wSB b v cB nn cp ar) Hp.size) Hp [.ref b, .int (nI k)] (sbEV D cB (va_A (wSB b v cB nn cp ar) Hp.size) b nn k ar) 1 130 := by
  refine Met.ofW (cc := cJ5_ensureCapacityInternal_d00df) (maxL := 3) (ret := none) (by decide) rfl ?_
  intro p e s m args below meth c s₁ B hml hv
  obtain ⟨rfl, hHp, hE⟩ := hv
  subst hHp
  have hx := B.exec
  have hb := B.bytes
  have hr := B.returns
  have hts := atoms_spec (ws := wsJ5_ensureCapacityInternal_d00df) B.pre
  have hown : s.vm.findClass RJ5 = some m.cls := findClass_of_methodNamed B.named
  have hlocks := B.notSynchronized
  have hK := hE.1
  have hD := hD9.self (sz := s.heap.size)
  generalize hAe : va_A (wSB b v cB nn cp ar) s.heap.size = A at hE hD ⊢
  have hA : ∀ q : Nat, s.heap.size ≤ q → A q := fun q h => by rw [← hAe]; exact Or.inr h
  have hS : va_S A s.heap s.heap [] := va_S.rf
  have hl := lv_entry ([.ref b, .int (nI k)]) (n := 3) (Nat.le_of_ble_eq_true rfl)
  rw [lg_entry_eq]
  generalize (lg_sl ([.ref b, .int (nI k)]) ++ List.replicate (3 - (lg_sl ([.ref b, .int (nI k)])).length) Slot.unset).toArray = ls at hl ⊢
  have hl : lv_has ls 3 [(0, .ref b), (1, .int (nI k))] := hl
  refine lv_aload_n hx hb dJ5_ensureCapacityInternal_d00df_0 rfl (lv_at hl 0 rfl) ?_
  refine va_get (D := D) (ci := 1) (v := .ref v) (C := RJ4) (T := TJ4) (N := 4) hx hb hts iw_J5_ensureCapacityInternal_d00df_J4 hown hK hP 0 rfl rfl 0 (by decide) (hts (.fieldLink RJ5 15 "java/lang/AbstractStringBuilder" "value" "[B") (by decide +kernel)) (fun _ h9 => h9) rfl dJ5_ensureCapacityInternal_d00df_1 ?_
  refine va_alen hx hb hK hP 1 0 rfl rfl (v := (nI cp)) rfl dJ5_ensureCapacityInternal_d00df_4 ?_
  refine lv_aload_n hx hb dJ5_ensureCapacityInternal_d00df_5 rfl (lv_at hl 0 rfl) ?_
  refine va_get (D := D) (ci := 1) (v := .int 0) (C := RJ4) (T := TJ4) (N := 4) hx hb hts iw_J5_ensureCapacityInternal_d00df_J4 hown hK hP 0 rfl rfl 1 (by decide) (hts (.fieldLink RJ5 22 "java/lang/AbstractStringBuilder" "coder" "B") (by decide +kernel)) (fun _ h9 => h9) rfl dJ5_ensureCapacityInternal_d00df_6 ?_
  refine lv_ishr hx hb dJ5_ensureCapacityInternal_d00df_9 ?_
  rw [sb_shr0]
  refine lv_istore_n (lv' := [(2, .int (nI cp)), (0, .ref b), (1, .int (nI k))]) hx hb dJ5_ensureCapacityInternal_d00df_10 rfl hl (by decide) rfl (fun ls hl => ?_)
  refine lv_iload_n hx hb dJ5_ensureCapacityInternal_d00df_11 rfl (lv_at hl 2 rfl) ?_
  refine lv_iload_n hx hb dJ5_ensureCapacityInternal_d00df_12 rfl (lv_at hl 0 rfl) ?_
  refine lv_isub hx hb dJ5_ensureCapacityInternal_d00df_13 ?_
  refine lv_if_le (tgt := 38) hx hb dJ5_ensureCapacityInternal_d00df_14 (by decide) (fun c_1 => ?_) (fun c_1 => ?_)
  · have hkc : k ≤ cp := by
      rcases Nat.lt_or_ge cp k with q | q
      · exact absurd c_1 (by rw [pk_sub (by omega)]; exact nI_nle (by omega) (by omega))
      · exact q
    refine W.widen (k := 1) (n := 130) (Nat.le_of_ble_eq_true rfl) (Nat.le_of_ble_eq_true rfl) ?_
    exact k_vret hx hb hr hlocks hS dJ5_ensureCapacityInternal_d00df_38 ⟨rfl, v, cp, ar, hP, hD, hf, hnm, by omega, hm, fun _ _ => rfl⟩
  · have hkc : cp < k := by
      rcases Nat.lt_or_ge cp k with q | q
      · exact q
      · exact absurd (show nI k - nI cp ≤ 0 by rw [Int32.le_iff_toInt_le, pk_sub_toInt (by omega) (by omega), Int32.toInt_zero]; omega) c_1
    have hcap := q_newCap nn cp ar k hkc hk60
    have hcle := q_cap_le hkc hk60
    refine lv_aload_n hx hb dJ5_ensureCapacityInternal_d00df_17 rfl (lv_at hl 1 rfl) ?_
    refine lv_aload_n hx hb dJ5_ensureCapacityInternal_d00df_18 rfl (lv_at hl 1 rfl) ?_
    refine va_get (D := D) (ci := 1) (v := .ref v) (C := RJ4) (T := TJ4) (N := 4) hx hb hts iw_J5_ensureCapacityInternal_d00df_J4 hown hK hP 0 rfl rfl 0 (by decide) (hts (.fieldLink RJ5 15 "java/lang/AbstractStringBuilder" "value" "[B") (by decide +kernel)) (fun _ h9 => h9) rfl dJ5_ensureCapacityInternal_d00df_19 ?_
    refine lv_aload_n hx hb dJ5_ensureCapacityInternal_d00df_22 rfl (lv_at hl 1 rfl) ?_
    refine lv_iload_n hx hb dJ5_ensureCapacityInternal_d00df_23 rfl (lv_at hl 2 rfl) ?_
    refine k_pU [.int (nI k)] (rest := [.ref v, .ref b]) ⟨hx, hb, hml, hown, hts⟩ (c_J5_newCapacity_0f7a4 l D cB cJ _ b v nn cp ar (hP.sub [0, 1] rfl) (nI k) hcap.1) (va_cwU 1 hts gJ5_ensureCapacityInternal_d00df_J5_newCapacity_0f7a4_u104J4 rfl rfl rfl rfl (by decide +kernel) ⟨(Nat.le_of_ble_eq_true rfl), (Nat.le_of_ble_eq_true rfl)⟩) (va_recv hK hP (ci := 1) (q0 := 0) rfl rfl) hE hS rfl rfl hl.1 (Nat.le_of_ble_eq_true rfl) dJ5_ensureCapacityInternal_d00df_24 ⟨(Nat.le_of_ble_eq_true rfl), (Nat.le_of_ble_eq_true rfl)⟩ (fun locs hS => ?_)
    refine W.eq (g2 := F0 m 27 ls [.int (j_J5_newCapacity_0f7a4 nn cp ar (nI k)), .ref v, .ref b]) rfl ?_
    refine W.eq (g2 := F0 m 27 ls [.int (nI (q_cap cp k)), .ref v, .ref b]) (by rw [hcap.2]) ?_
    refine lv_aload_n hx hb dJ5_ensureCapacityInternal_d00df_27 rfl (lv_at hl 1 rfl) ?_
    refine va_get (D := D) (ci := 1) (v := .int 0) (C := RJ4) (T := TJ4) (N := 4) hx hb hts iw_J5_ensureCapacityInternal_d00df_J4 hown hK hP 0 rfl rfl 1 (by decide) (hts (.fieldLink RJ5 22 "java/lang/AbstractStringBuilder" "coder" "B") (by decide +kernel)) (fun _ h9 => h9) rfl dJ5_ensureCapacityInternal_d00df_28 ?_
    refine lv_ishl hx hb dJ5_ensureCapacityInternal_d00df_31 ?_
    rw [sb_shl0]
    have hFc : ∀ q : Nat, va_A [] s.heap.size q → A q := fun q h => h.elim (fun ⟨k, e, h⟩ => by simp at h) (fun h => hA q h)
    refine k_go (va_runS (As := [.ref v, .int (nI (q_cap cp k))]) (rest := [.ref b]) ⟨hx, hb, hml, hown, hts⟩ (cv_J7_copyOf_9075b l D cB cJ _ v cp (q_cap cp k) ar (hP.sub [1] rfl) hf (by omega) (by omega) (by omega)) (va_cwS 2 hts gJ5_ensureCapacityInternal_d00df_J7_copyOf_9075b rfl rfl rfl (by decide +kernel) ⟨(Nat.le_of_ble_eq_true rfl), (Nat.le_of_ble_eq_true rfl)⟩) (k_preS hE hS hFc) rfl rfl hl.1 rfl (lv_room (Nat.le_of_ble_eq_true rfl)) dJ5_ensureCapacityInternal_d00df_32 ⟨(Nat.le_of_ble_eq_true rfl), (Nat.le_of_ble_eq_true rfl)⟩) hS (fun q _ h => hFc q h) hFc (fun v9 H locs hp hz hk hS => ?_)
    obtain ⟨u, fu, rfl, hP1, hD1, hfu, hLu⟩ := hp
    obtain ⟨hP, hD⟩ := va_join (wr := [(b, .inr (1, [.ref v, .int 0, .int 0, .int (nI nn)])), (v, .inl (cB, cp, .inl ar))]) (wc := []) (w1 := [(u, .inl (cB, q_cap cp k, .inl fu))]) hP hD [] [0, 1] rfl rfl (by decide) (by decide) hk hFc hP1 hD1
    have hP : va_P D vwCl [(b, .inr (1, [.ref v, .int 0, .int 0, .int (nI nn)])), (v, .inl (cB, cp, .inl ar)), (u, .inl (cB, (q_cap cp k), .inl fu))] H := hP
    have hD : va_D A [(b, .inr (1, [.ref v, .int 0, .int 0, .int (nI nn)])), (v, .inl (cB, cp, .inl ar)), (u, .inl (cB, (q_cap cp k), .inl fu))] := hD
    refine W.eq (g2 := F0 m 35 ls [.ref u, .ref b]) rfl ?_
    refine va_put (D := D) (ci := 1) (v := .ref u) (ty := (.array .byte)) (C := RJ4) (T := TJ4) (N := 4) hx hb hts iw_J5_ensureCapacityInternal_d00df_J4 tyJ4 tyJ4_ok nmJ4 hown hK hP hD hS 0 rfl rfl 0 (by decide) (hts (.fieldLink RJ5 15 "java/lang/AbstractStringBuilder" "value" "[B") (by decide +kernel)) (fun _ h9 => h9) rfl (by decide +kernel) rfl rfl (Nat.le_of_ble_eq_true rfl) dJ5_ensureCapacityInternal_d00df_35 (fun H locs hP hD hS => ?_)
    have hP : va_P D vwCl [(b, .inr (1, [.ref u, .int 0, .int 0, .int (nI nn)])), (v, .inl (cB, cp, .inl ar)), (u, .inl (cB, (q_cap cp k), .inl fu))] H := hP
    have hD : va_D A [(b, .inr (1, [.ref u, .int 0, .int 0, .int (nI nn)])), (v, .inl (cB, cp, .inl ar)), (u, .inl (cB, (q_cap cp k), .inl fu))] := hD
    refine W.widen (k := 1) (n := 130) (Nat.le_of_ble_eq_true rfl) (Nat.le_of_ble_eq_true rfl) ?_
    have hP9 := hP.sub (ws' := wSB b u cB nn (q_cap cp k) fu) [0, 2] rfl
    have hD9 := hD.sub (ws' := wSB b u cB nn (q_cap cp k) fu) [0, 2] (by decide) rfl
    exact k_vret hx hb hr hlocks hS dJ5_ensureCapacityInternal_d00df_38 ⟨rfl, _, _, _, hP9, hD9, hfu, by omega, by omega, by omega, fun i hi => hLu i (by split <;> omega)⟩
set_option maxHeartbeats 4000000 in
set_option maxRecDepth 100000 in
theorem cv_J5_append_3fe6f (l : Launch) (D : va_G) (cB cJ : ClassId) (Hp : Heap) (b v nn cp : Nat) (ar : Nat → Int32) (hP : va_P D vwCl (wSB b v cB nn cp ar) Hp) (hD9 : va_D (fun _ => True) (wSB b v cB nn cp ar)) (a1 : Int32) (hf : sb_Fit ar) (hnm : nn ≤ cp) (hm : cp ≤ 130) (hc : ¬ 255 < a1) (h60 : nn + 1 ≤ 60) : kM l D cB cJ yJ5_append_3fe6f wsJ5_append_3fe6f ({ frames := 4, cells := 1, slots := 130, locals := 124 }) (va_A (wSB b v cB nn cp ar) Hp.size) Hp [.ref b, .int a1] (sbRV D cB (va_A (wSB b v cB nn cp ar) Hp.size) b (nn + 1) (upd ar nn (vp_nar .byte a1.toInt8.toInt32))) 1 130 := by
  refine Met.ofW (cc := cJ5_append_3fe6f) (maxL := 2) (ret := (some (.object "java/lang/AbstractStringBuilder"))) (by decide) rfl ?_
  intro p e s m args below meth c s₁ B hml hv
  obtain ⟨rfl, hHp, hE⟩ := hv
  subst hHp
  have hx := B.exec
  have hb := B.bytes
  have hr := B.returns
  have hts := atoms_spec (ws := wsJ5_append_3fe6f) B.pre
  have hown : s.vm.findClass RJ5 = some m.cls := findClass_of_methodNamed B.named
  have hlocks := B.notSynchronized
  have hK := hE.1
  have hD := hD9.self (sz := s.heap.size)
  generalize hAe : va_A (wSB b v cB nn cp ar) s.heap.size = A at hE hD ⊢
  have hA : ∀ q : Nat, s.heap.size ≤ q → A q := fun q h => by rw [← hAe]; exact Or.inr h
  have hS : va_S A s.heap s.heap [] := va_S.rf
  have hl := lv_entry ([.ref b, .int a1]) (n := 2) (Nat.le_of_ble_eq_true rfl)
  rw [lg_entry_eq]
  generalize (lg_sl ([.ref b, .int a1]) ++ List.replicate (2 - (lg_sl ([.ref b, .int a1])).length) Slot.unset).toArray = ls at hl ⊢
  have hl : lv_has ls 2 [(0, .ref b), (1, .int a1)] := hl
  refine lv_aload_n hx hb dJ5_append_3fe6f_0 rfl (lv_at hl 0 rfl) ?_
  refine lv_aload_n hx hb dJ5_append_3fe6f_1 rfl (lv_at hl 0 rfl) ?_
  refine va_get (D := D) (ci := 1) (v := .int (nI nn)) (C := RJ4) (T := TJ4) (N := 4) hx hb hts iw_J5_append_3fe6f_J4 hown hK hP 0 rfl rfl 3 (by decide) (hts (.fieldLink RJ5 79 "java/lang/AbstractStringBuilder" "count" "I") (by decide +kernel)) (fun _ h9 => h9) rfl dJ5_append_3fe6f_2 ?_
  refine lv_iconst (v := 1) hx hb dJ5_append_3fe6f_5 (by decide) ?_
  refine lv_iadd hx hb dJ5_append_3fe6f_6 ?_
  rw [nI_1]
  have hFc := va_free (wc := [(b, .inr (1, [.ref v, .int 0, .int 0, .int (nI nn)])), (v, .inl (cB, cp, .inl ar))]) hD hS hA [0, 1] rfl
  refine k_go (va_runU (As := [.int (nI (nn + 1))]) (rest := []) ⟨hx, hb, hml, hown, hts⟩ (cv_J5_ensureCapacityInternal_d00df l D cB cJ _ b v nn cp ar (hP.sub [0, 1] rfl) ((hD.sub [0, 1] (by decide) rfl).weaken (fun _ _ _ _ => trivial)) hf hnm hm (k := nn + 1) h60) (va_cwU 1 hts gJ5_append_3fe6f_J5_ensureCapacityInternal_d00df_u100J4 rfl rfl rfl rfl (by decide +kernel) ⟨(Nat.le_of_ble_eq_true rfl), (Nat.le_of_ble_eq_true rfl)⟩) (k_preV hE hS hFc (va_recv hK hP (ci := 1) (q0 := 0) rfl rfl)) rfl rfl hl.1 rfl (lv_room (Nat.le_of_ble_eq_true rfl)) dJ5_append_3fe6f_7 ⟨(Nat.le_of_ble_eq_true rfl), (Nat.le_of_ble_eq_true rfl)⟩) hS (fun q _ h => hFc q h) hFc (fun v9 H locs hp hz hk hS => ?_)
  obtain ⟨rfl, v_1, m_1, a_1, hP1, hD1, hf_1, hn_1, hk_1, hm_1, hL_1⟩ := hp
  obtain ⟨hP, hD⟩ := va_join (wr := []) (wc := [(b, .inr (1, [.ref v, .int 0, .int 0, .int (nI nn)])), (v, .inl (cB, cp, .inl ar))]) (w1 := [(b, .inr (1, [.ref v_1, .int 0, .int 0, .int (nI nn)])), (v_1, .inl (cB, m_1, .inl a_1))]) hP hD [0, 1] [] rfl rfl (by decide) (by decide) hk hFc hP1 hD1
  have hP : va_P D vwCl [(b, .inr (1, [.ref v_1, .int 0, .int 0, .int (nI nn)])), (v_1, .inl (cB, m_1, .inl a_1))] H := hP
  have hD : va_D A [(b, .inr (1, [.ref v_1, .int 0, .int 0, .int (nI nn)])), (v_1, .inl (cB, m_1, .inl a_1))] := hD
  refine W.eq (g2 := F0 m 10 ls []) rfl ?_
  refine lv_aload_n hx hb dJ5_append_3fe6f_10 rfl (lv_at hl 0 rfl) ?_
  refine k_pU [] (rest := []) ⟨hx, hb, hml, hown, hts⟩ (c_J5_isLatin1_aae02 l D cB cJ _ b v_1 nn m_1 a_1 (hP.sub [0, 1] rfl)) (va_cwU 0 hts gJ5_append_3fe6f_J5_isLatin1_aae02_u83J4 rfl rfl rfl rfl (by decide +kernel) ⟨(Nat.le_of_ble_eq_true rfl), (Nat.le_of_ble_eq_true rfl)⟩) (va_recv hK hP (ci := 1) (q0 := 0) rfl rfl) hE hS rfl rfl hl.1 (Nat.le_of_ble_eq_true rfl) dJ5_append_3fe6f_11 ⟨(Nat.le_of_ble_eq_true rfl), (Nat.le_of_ble_eq_true rfl)⟩ (fun locs hS => ?_)
  refine W.eq (g2 := F0 m 14 ls [.int (j_J5_isLatin1_aae02 nn m_1 a_1)]) rfl ?_
  refine lv_if_eq (tgt := 45) hx hb dJ5_append_3fe6f_14 (by decide) (fun c_2 => ?_) (fun c_2 => ?_)
  · exact absurd c_2 (show ¬ (1 : Int32) = 0 by decide)
  · refine lv_iload_n hx hb dJ5_append_3fe6f_17 rfl (lv_at hl 1 rfl) ?_
    refine k_pS [.int a1] (rest := []) ⟨hx, hb, hml, hown, hts⟩ (c_J1_canEncode_fc78d l D cB cJ _ a1) (va_cwS 1 hts gJ5_append_3fe6f_J1_canEncode_fc78d rfl rfl rfl (by decide +kernel) ⟨(Nat.le_of_ble_eq_true rfl), (Nat.le_of_ble_eq_true rfl)⟩) hE hS rfl rfl hl.1 (Nat.le_of_ble_eq_true rfl) dJ5_append_3fe6f_18 ⟨(Nat.le_of_ble_eq_true rfl), (Nat.le_of_ble_eq_true rfl)⟩ (fun locs hS => ?_)
    refine W.eq (g2 := F0 m 21 ls [.int (j_J1_canEncode_fc78d a1)]) rfl ?_
    refine lv_if_eq (tgt := 45) hx hb dJ5_append_3fe6f_21 (by decide) (fun c_3 => ?_) (fun c_3 => ?_)
    · exact absurd c_3 (by rw [j_J1_canEncode_fc78d, if_neg hc]; decide)
    · refine lv_aload_n hx hb dJ5_append_3fe6f_24 rfl (lv_at hl 0 rfl) ?_
      refine va_get (D := D) (ci := 1) (v := .ref v_1) (C := RJ4) (T := TJ4) (N := 4) hx hb hts iw_J5_append_3fe6f_J4 hown hK hP 0 rfl rfl 0 (by decide) (hts (.fieldLink RJ5 15 "java/lang/AbstractStringBuilder" "value" "[B") (by decide +kernel)) (fun _ h9 => h9) rfl dJ5_append_3fe6f_25 ?_
      refine lv_aload_n hx hb dJ5_append_3fe6f_28 rfl (lv_at hl 0 rfl) ?_
      refine lv_dup hx hb dJ5_append_3fe6f_29 rfl ?_
      refine va_get (D := D) (ci := 1) (v := .int (nI nn)) (C := RJ4) (T := TJ4) (N := 4) hx hb hts iw_J5_append_3fe6f_J4 hown hK hP 0 rfl rfl 3 (by decide) (hts (.fieldLink RJ5 79 "java/lang/AbstractStringBuilder" "count" "I") (by decide +kernel)) (fun _ h9 => h9) rfl dJ5_append_3fe6f_30 ?_
      refine lv_dup_x1 hx hb dJ5_append_3fe6f_33 rfl rfl ?_
      refine lv_iconst (v := 1) hx hb dJ5_append_3fe6f_34 (by decide) ?_
      refine lv_iadd hx hb dJ5_append_3fe6f_35 ?_
      rw [nI_1]
      refine va_put (D := D) (ci := 1) (v := .int (nI (nn + 1))) (ty := .int) (C := RJ4) (T := TJ4) (N := 4) hx hb hts iw_J5_append_3fe6f_J4 tyJ4 tyJ4_ok nmJ4 hown hK hP hD hS 0 rfl rfl 3 (by decide) (hts (.fieldLink RJ5 79 "java/lang/AbstractStringBuilder" "count" "I") (by decide +kernel)) (fun _ h9 => h9) rfl (by decide +kernel) rfl rfl (Nat.le_of_ble_eq_true rfl) dJ5_append_3fe6f_36 (fun H locs hP hD hS => ?_)
      have hP : va_P D vwCl [(b, .inr (1, [.ref v_1, .int 0, .int 0, .int (nI (nn + 1))])), (v_1, .inl (cB, m_1, .inl a_1))] H := hP
      have hD : va_D A [(b, .inr (1, [.ref v_1, .int 0, .int 0, .int (nI (nn + 1))])), (v_1, .inl (cB, m_1, .inl a_1))] := hD
      refine lv_iload_n hx hb dJ5_append_3fe6f_39 rfl (lv_at hl 1 rfl) ?_
      refine lv_i2b (v := a1.toInt8.toInt32) hx hb dJ5_append_3fe6f_40 rfl ?_
      refine va_bast hx hb hK hP hD hS 1 0 rfl rfl (vp_in_nI (by omega) (by omega)) dJ5_append_3fe6f_41 (fun H locs hP hD hS => ?_)
      have hP : va_P D vwCl [(b, .inr (1, [.ref v_1, .int 0, .int 0, .int (nI (nn + 1))])), (v_1, .inl (cB, m_1, .inl (upd a_1 (nI nn).toNatClampNeg (vp_nar .byte a1.toInt8.toInt32))))] H := hP
      have hD : va_D A [(b, .inr (1, [.ref v_1, .int 0, .int 0, .int (nI (nn + 1))])), (v_1, .inl (cB, m_1, .inl (upd a_1 (nI nn).toNatClampNeg (vp_nar .byte a1.toInt8.toInt32))))] := hD
      refine lv_goto (tgt := 75) hx hb dJ5_append_3fe6f_42 (by decide) ?_
      refine lv_aload_n hx hb dJ5_append_3fe6f_75 rfl (lv_at hl 0 rfl) ?_
      exact k_aret hx hb hr (Or.inl ⟨_, rfl⟩) hlocks hS dJ5_append_3fe6f_76 ⟨rfl, _, _, _, hP.sub [0, 1] rfl, hD.sub [0, 1] (by decide) rfl, (sb_fitU hf_1 (by rw [pk_vb]; exact pk_fb _)), hk_1, hm_1, by rw [nI_clamp (by omega)]; exact q_updL hL_1⟩
set_option maxHeartbeats 4000000 in
set_option maxRecDepth 100000 in
theorem cv_J4_append_cf468 (l : Launch) (D : va_G) (cB cJ : ClassId) (Hp : Heap) (b v nn cp : Nat) (ar : Nat → Int32) (hP : va_P D vwCl (wSB b v cB nn cp ar) Hp) (hD9 : va_D (fun _ => True) (wSB b v cB nn cp ar)) (a1 : Int32) (hf : sb_Fit ar) (hnm : nn ≤ cp) (hm : cp ≤ 130) (hc : ¬ 255 < a1) (h60 : nn + 1 ≤ 60) : kM l D cB cJ yJ4_append_cf468 wsJ4_append_cf468 ({ frames := 5, cells := 1, slots := 130, locals := 145 }) (va_A (wSB b v cB nn cp ar) Hp.size) Hp [.ref b, .int a1] (sbRV D cB (va_A (wSB b v cB nn cp ar) Hp.size) b (nn + 1) (upd ar nn (vp_nar .byte a1.toInt8.toInt32))) 1 130 := by
  refine Met.ofW (cc := cJ4_append_cf468) (maxL := 2) (ret := (some (.object "java/lang/StringBuilder"))) (by decide) rfl ?_
  intro p e s m args below meth c s₁ B hml hv
  obtain ⟨rfl, hHp, hE⟩ := hv
  subst hHp
  have hx := B.exec
  have hb := B.bytes
  have hr := B.returns
  have hts := atoms_spec (ws := wsJ4_append_cf468) B.pre
  have hown : s.vm.findClass RJ4 = some m.cls := findClass_of_methodNamed B.named
  have hlocks := B.notSynchronized
  have hK := hE.1
  have hD := hD9.self (sz := s.heap.size)
  generalize hAe : va_A (wSB b v cB nn cp ar) s.heap.size = A at hE hD ⊢
  have hA : ∀ q : Nat, s.heap.size ≤ q → A q := fun q h => by rw [← hAe]; exact Or.inr h
  have hS : va_S A s.heap s.heap [] := va_S.rf
  have hl := lv_entry ([.ref b, .int a1]) (n := 2) (Nat.le_of_ble_eq_true rfl)
  rw [lg_entry_eq]
  generalize (lg_sl ([.ref b, .int a1]) ++ List.replicate (2 - (lg_sl ([.ref b, .int a1])).length) Slot.unset).toArray = ls at hl ⊢
  have hl : lv_has ls 2 [(0, .ref b), (1, .int a1)] := hl
  refine lv_aload_n hx hb dJ4_append_cf468_0 rfl (lv_at hl 0 rfl) ?_
  refine lv_iload_n hx hb dJ4_append_cf468_1 rfl (lv_at hl 1 rfl) ?_
  have hFc := va_free (wc := [(b, .inr (1, [.ref v, .int 0, .int 0, .int (nI nn)])), (v, .inl (cB, cp, .inl ar))]) hD hS hA [0, 1] rfl
  refine k_go (va_runSU (As := [.int a1]) (rest := []) (hK.1 1 _ rfl).2 ⟨hx, hb, hml, hown, hts⟩ (cv_J5_append_3fe6f l D cB cJ _ b v nn cp ar (hP.sub [0, 1] rfl) ((hD.sub [0, 1] (by decide) rfl).weaken (fun _ _ _ _ => trivial)) a1 hf hnm hm hc h60) (va_cwSU 1 hts gJ4_append_cf468_J5_append_3fe6f_s50 rfl rfl rfl (by decide +kernel) ⟨(Nat.le_of_ble_eq_true rfl), (Nat.le_of_ble_eq_true rfl)⟩) (k_preV hE hS hFc (va_recv hK hP (ci := 1) (q0 := 0) rfl rfl)) rfl rfl hl.1 rfl (lv_room (Nat.le_of_ble_eq_true rfl)) dJ4_append_cf468_2 ⟨(Nat.le_of_ble_eq_true rfl), (Nat.le_of_ble_eq_true rfl)⟩) hS (fun q _ h => hFc q h) hFc (fun v9 H locs hp hz hk hS => ?_)
  obtain ⟨rfl, v_1, m_1, a_1, hP1, hD1, hf_1, hn_1, hm_1, hL_1⟩ := hp
  obtain ⟨hP, hD⟩ := va_join (wr := []) (wc := [(b, .inr (1, [.ref v, .int 0, .int 0, .int (nI nn)])), (v, .inl (cB, cp, .inl ar))]) (w1 := [(b, .inr (1, [.ref v_1, .int 0, .int 0, .int (nI (nn + 1))])), (v_1, .inl (cB, m_1, .inl a_1))]) hP hD [0, 1] [] rfl rfl (by decide) (by decide) hk hFc hP1 hD1
  have hP : va_P D vwCl [(b, .inr (1, [.ref v_1, .int 0, .int 0, .int (nI (nn + 1))])), (v_1, .inl (cB, m_1, .inl a_1))] H := hP
  have hD : va_D A [(b, .inr (1, [.ref v_1, .int 0, .int 0, .int (nI (nn + 1))])), (v_1, .inl (cB, m_1, .inl a_1))] := hD
  refine W.eq (g2 := F0 m 5 ls [.ref b]) rfl ?_
  refine lv_pop hx hb dJ4_append_cf468_5 rfl ?_
  refine lv_aload_n hx hb dJ4_append_cf468_6 rfl (lv_at hl 0 rfl) ?_
  exact k_aret hx hb hr (Or.inl ⟨_, rfl⟩) hlocks hS dJ4_append_cf468_7 ⟨rfl, _, _, _, hP.sub [0, 1] rfl, hD.sub [0, 1] (by decide) rfl, hf_1, hn_1, hm_1, hL_1⟩
set_option maxHeartbeats 4000000 in
set_option maxRecDepth 100000 in
theorem cv_J6_getChars_ba4f3 (l : Launch) (D : va_G) (cB cJ : ClassId) (Hp : Heap) (v cp : Nat) (ar : Nat → Int32) (hP : va_P D vwCl [(v, .inl (cB, cp, .inl ar))] Hp) (hD9 : va_D (fun _ => True) [(v, .inl (cB, cp, .inl ar))]) (hf : sb_Fit ar) (w pz : Nat) (hw : w < 8) (hp1 : 1 ≤ pz) (hpc : pz ≤ cp) (hcp : cp ≤ 130) : kM l D cB cJ yJ6_getChars_ba4f3 wsJ6_getChars_ba4f3 rm_J6_getChars_ba4f3 (va_A [(v, .inl (cB, cp, .inl ar))] Hp.size) Hp [.int (nI w), .int (nI pz), .ref v] (kFitX D cB (va_A [(v, .inl (cB, cp, .inl ar))] Hp.size) v cp (upd ar (pz - 1) (nI (48 + w)))) 0 0 := by
  refine Met.ofW (cc := cJ6_getChars_ba4f3) (maxL := 7) (ret := (some .int)) (by decide) rfl ?_
  intro p e s m args below meth c s₁ B hml hv
  obtain ⟨rfl, hHp, hE⟩ := hv
  subst hHp
  have hx := B.exec
  have hb := B.bytes
  have hr := B.returns
  have hts := atoms_spec (ws := wsJ6_getChars_ba4f3) B.pre
  have hown : s.vm.findClass RJ6 = some m.cls := findClass_of_methodNamed B.named
  have hlocks := B.notSynchronized
  have hK := hE.1
  have hD := hD9.self (sz := s.heap.size)
  generalize hAe : va_A [(v, .inl (cB, cp, .inl ar))] s.heap.size = A at hE hD ⊢
  have hA : ∀ q : Nat, s.heap.size ≤ q → A q := fun q h => by rw [← hAe]; exact Or.inr h
  have hS : va_S A s.heap s.heap [] := va_S.rf
  have hl := lv_entry ([.int (nI w), .int (nI pz), .ref v]) (n := 7) (Nat.le_of_ble_eq_true rfl)
  rw [lg_entry_eq]
  generalize (lg_sl ([.int (nI w), .int (nI pz), .ref v]) ++ List.replicate (7 - (lg_sl ([.int (nI w), .int (nI pz), .ref v])).length) Slot.unset).toArray = ls at hl ⊢
  have hl : lv_has ls 7 [(0, .int (nI w)), (1, .int (nI pz)), (2, .ref v)] := hl
  obtain ⟨t7, hZ7, hT7⟩ := hE.2.1.2.2.2.2.2.2.1
  obtain ⟨t8, hZ8, hT8⟩ := hE.2.1.2.2.2.2.2.2.2.1
  have hd9 : ∀ w, w < 8 → (-100 : Int32) < -nI w ∧ (-9 : Int32) ≤ -nI w ∧ vp_nar .byte (t_D1 w) = nI (48 + w) := by decide
  refine lv_iload_n hx hb dJ6_getChars_ba4f3_0 rfl (lv_at hl 1 rfl) ?_
  refine lv_istore (lv' := [(5, .int (nI pz)), (0, .int (nI w)), (1, .int (nI pz)), (2, .ref v)]) hx hb dJ6_getChars_ba4f3_1 hl (by decide) rfl (fun ls hl => ?_)
  refine lv_iload_n hx hb dJ6_getChars_ba4f3_3 rfl (lv_at hl 1 rfl) ?_
  refine lv_if_ge (tgt := 11) hx hb dJ6_getChars_ba4f3_4 (by decide) (fun c_1 => ?_) (fun c_1 => ?_)
  · refine lv_iconst (v := 0) hx hb dJ6_getChars_ba4f3_11 (by decide) ?_
    refine lv_istore (lv' := [(6, .int 0), (5, .int (nI pz)), (0, .int (nI w)), (1, .int (nI pz)), (2, .ref v)]) hx hb dJ6_getChars_ba4f3_12 hl (by decide) rfl (fun ls hl => ?_)
    refine lv_iload hx hb dJ6_getChars_ba4f3_14 (lv_at hl 0 rfl) ?_
    refine lv_if_ne (tgt := 22) hx hb dJ6_getChars_ba4f3_16 (by decide) (fun c_2 => ?_) (fun c_2 => ?_)
    · exact absurd (by decide) c_2
    · refine lv_iload_n hx hb dJ6_getChars_ba4f3_19 rfl (lv_at hl 2 rfl) ?_
      refine lv_ineg hx hb dJ6_getChars_ba4f3_20 ?_
      refine lv_istore_n (lv' := [(0, .int (-(nI w))), (6, .int 0), (5, .int (nI pz)), (1, .int (nI pz)), (2, .ref v)]) hx hb dJ6_getChars_ba4f3_21 rfl hl (by decide) rfl (fun ls hl => ?_)
      refine lv_iload_n hx hb dJ6_getChars_ba4f3_22 rfl (lv_at hl 0 rfl) ?_
      refine lv_bipush (v := (-100)) hx hb dJ6_getChars_ba4f3_23 (by decide) ?_
      refine lv_icmp_gt (tgt := 72) hx hb dJ6_getChars_ba4f3_25 (by decide) (fun c_1003 => ?_) (fun c_1003 => absurd (hd9 w hw).1 c_1003)
      have hl := lv_sub (l' := [(0, .int (-nI w)), (1, .int (nI pz)), (2, .ref v), (5, .int (nI pz)), (6, .int 0)]) hl [0, 3, 4, 2, 1] rfl
      refine lv_aload_n hx hb dJ6_getChars_ba4f3_72 rfl (lv_at hl 2 rfl) ?_
      refine lv_iinc (v := ((nI pz) + (-1))) (lv' := [(5, .int ((nI pz) + (-1))), (0, .int (-nI w)), (1, .int (nI pz)), (2, .ref v), (6, .int 0)]) hx hb dJ6_getChars_ba4f3_73 hl (k := 3) rfl rfl (by decide) rfl (fun ls hl => ?_)
      rw [q_dm1 pz hp1] at hl
      refine lv_iload hx hb dJ6_getChars_ba4f3_76 (lv_at hl 0 rfl) ?_
      refine va_gets hx hb hZ7 hS hown (hts (.fieldLink RJ6 83 "java/lang/Integer" "DigitOnes" "[B") (by decide +kernel)) (fun _ h9 => h9) dJ6_getChars_ba4f3_78 ?_
      refine lv_iload_n hx hb dJ6_getChars_ba4f3_81 rfl (lv_at hl 1 rfl) ?_
      refine lv_ineg hx hb dJ6_getChars_ba4f3_82 ?_
      rw [Int32.neg_neg]
      refine va_tb hx hb hT7 hS (v := .int (t_D1 (nI w).toNatClampNeg)) (vp_in_nI (by omega) (by omega)) rfl dJ6_getChars_ba4f3_83 ?_
      refine va_bast hx hb hK hP hD hS 0 0 rfl rfl (vp_in_nI (by omega) (by omega)) dJ6_getChars_ba4f3_84 (fun H locs hP hD hS => ?_)
      have hP : va_P D vwCl [(v, .inl (cB, cp, .inl (upd ar (nI (pz - 1)).toNatClampNeg (vp_nar .byte (t_D1 (nI w).toNatClampNeg)))))] H := hP
      have hD : va_D A [(v, .inl (cB, cp, .inl (upd ar (nI (pz - 1)).toNatClampNeg (vp_nar .byte (t_D1 (nI w).toNatClampNeg)))))] := hD
      have eF : upd ar (nI (pz - 1)).toNatClampNeg (vp_nar .byte (t_D1 (nI w).toNatClampNeg)) = upd ar (pz - 1) (nI (48 + w)) := by rw [nI_clamp (by omega), nI_clamp (by omega), (hd9 w hw).2.2]
      refine lv_iload_n hx hb dJ6_getChars_ba4f3_85 rfl (lv_at hl 1 rfl) ?_
      refine lv_bipush (v := (-9)) hx hb dJ6_getChars_ba4f3_86 (by decide) ?_
      refine lv_icmp_ge (tgt := 104) hx hb dJ6_getChars_ba4f3_88 (by decide) (fun c_6 => ?_) (fun c_6 => ?_)
      · refine lv_iload hx hb dJ6_getChars_ba4f3_104 (lv_at hl 4 rfl) ?_
        refine lv_if_eq (tgt := 118) hx hb dJ6_getChars_ba4f3_106 (by decide) (fun c_7 => ?_) (fun c_7 => ?_)
        · refine lv_iload hx hb dJ6_getChars_ba4f3_118 (lv_at hl 0 rfl) ?_
          exact k_iret hx hb hr hlocks hS dJ6_getChars_ba4f3_120 ⟨⟨_, rfl⟩, eF ▸ hP, eF ▸ hD, eF ▸ sb_fitU hf (k_fitN _)⟩
        · exact absurd (by decide) c_7
      · exact absurd (hd9 w hw).2.1 c_6
  · exact absurd (show (0 : Int32) ≤ nI w from by have h := nI_le (Nat.zero_le w) (by omega); rwa [nI_0] at h) c_1
theorem q_ss8v : ∀ w, w < 8 → j_J6_stringSize_0f7a4 (nI w) = nI 1 := by decide
theorem q_ss8 (w : Nat) (hw : w < 8) : T_J6_stringSize_0f7a4 (nI w) ∧ j_J6_stringSize_0f7a4 (nI w) = nI 1 := ⟨(q_ssize w (by omega)).1, q_ss8v w hw⟩
set_option maxHeartbeats 4000000 in
set_option maxRecDepth 100000 in
theorem cv_J5_append_c97b9 (l : Launch) (D : va_G) (cB cJ : ClassId) (Hp : Heap) (b v nn cp : Nat) (ar : Nat → Int32) (hP : va_P D vwCl (wSB b v cB nn cp ar) Hp) (hD9 : va_D (fun _ => True) (wSB b v cB nn cp ar)) (w : Nat) (hf : sb_Fit ar) (hnm : nn ≤ cp) (hm : cp ≤ 130) (hw : w < 8) (h60 : nn + 1 ≤ 60) : kM l D cB cJ yJ5_append_c97b9 wsJ5_append_c97b9 ({ frames := 4, cells := 1, slots := 130, locals := 124 }) (va_A (wSB b v cB nn cp ar) Hp.size) Hp [.ref b, .int (nI w)] (sbRV D cB (va_A (wSB b v cB nn cp ar) Hp.size) b (nn + 1) (upd ar nn (nI (48 + w)))) 1 130 := by
  refine Met.ofW (cc := cJ5_append_c97b9) (maxL := 4) (ret := (some (.object "java/lang/AbstractStringBuilder"))) (by decide) rfl ?_
  intro p e s m args below meth c s₁ B hml hv
  obtain ⟨rfl, hHp, hE⟩ := hv
  subst hHp
  have hx := B.exec
  have hb := B.bytes
  have hr := B.returns
  have hts := atoms_spec (ws := wsJ5_append_c97b9) B.pre
  have hown : s.vm.findClass RJ5 = some m.cls := findClass_of_methodNamed B.named
  have hlocks := B.notSynchronized
  have hK := hE.1
  have hD := hD9.self (sz := s.heap.size)
  generalize hAe : va_A (wSB b v cB nn cp ar) s.heap.size = A at hE hD ⊢
  have hA : ∀ q : Nat, s.heap.size ≤ q → A q := fun q h => by rw [← hAe]; exact Or.inr h
  have hsT := (q_ss8 w hw).1
  have hss := (q_ss8 w hw).2
  have hS : va_S A s.heap s.heap [] := va_S.rf
  have hl := lv_entry ([.ref b, .int (nI w)]) (n := 4) (Nat.le_of_ble_eq_true rfl)
  rw [lg_entry_eq]
  generalize (lg_sl ([.ref b, .int (nI w)]) ++ List.replicate (4 - (lg_sl ([.ref b, .int (nI w)])).length) Slot.unset).toArray = ls at hl ⊢
  have hl : lv_has ls 4 [(0, .ref b), (1, .int (nI w))] := hl
  refine lv_aload_n hx hb dJ5_append_c97b9_0 rfl (lv_at hl 0 rfl) ?_
  refine va_get (D := D) (ci := 1) (v := .int (nI nn)) (C := RJ4) (T := TJ4) (N := 4) hx hb hts iw_J5_append_c97b9_J4 hown hK hP 0 rfl rfl 3 (by decide) (hts (.fieldLink RJ5 79 "java/lang/AbstractStringBuilder" "count" "I") (by decide +kernel)) (fun _ h9 => h9) rfl dJ5_append_c97b9_1 ?_
  refine lv_istore_n (lv' := [(2, .int (nI nn)), (0, .ref b), (1, .int (nI w))]) hx hb dJ5_append_c97b9_4 rfl hl (by decide) rfl (fun ls hl => ?_)
  refine lv_iload_n hx hb dJ5_append_c97b9_5 rfl (lv_at hl 0 rfl) ?_
  refine lv_iload_n hx hb dJ5_append_c97b9_6 rfl (lv_at hl 2 rfl) ?_
  refine k_pS [.int (nI w)] (rest := [.int (nI nn)]) ⟨hx, hb, hml, hown, hts⟩ (c_J6_stringSize_0f7a4 l D cB cJ _ (nI w) hsT) (va_cwS 1 hts gJ5_append_c97b9_J6_stringSize_0f7a4 rfl rfl rfl (by decide +kernel) ⟨(Nat.le_of_ble_eq_true rfl), (Nat.le_of_ble_eq_true rfl)⟩) hE hS rfl rfl hl.1 (Nat.le_of_ble_eq_true rfl) dJ5_append_c97b9_7 ⟨(Nat.le_of_ble_eq_true rfl), (Nat.le_of_ble_eq_true rfl)⟩ (fun locs hS => ?_)
  refine W.eq (g2 := F0 m 10 ls [.int (j_J6_stringSize_0f7a4 (nI w)), .int (nI nn)]) rfl ?_
  rw [hss]
  refine lv_iadd hx hb dJ5_append_c97b9_10 ?_
  rw [nI_add]
  refine lv_istore_n (lv' := [(3, .int (nI (nn + 1))), (2, .int (nI nn)), (0, .ref b), (1, .int (nI w))]) hx hb dJ5_append_c97b9_11 rfl hl (by decide) rfl (fun ls hl => ?_)
  refine lv_aload_n hx hb dJ5_append_c97b9_12 rfl (lv_at hl 2 rfl) ?_
  refine lv_iload_n hx hb dJ5_append_c97b9_13 rfl (lv_at hl 0 rfl) ?_
  have hFc := va_free (wc := [(b, .inr (1, [.ref v, .int 0, .int 0, .int (nI nn)])), (v, .inl (cB, cp, .inl ar))]) hD hS hA [0, 1] rfl
  refine k_go (va_runU (As := [.int (nI (nn + 1))]) (rest := []) ⟨hx, hb, hml, hown, hts⟩ (cv_J5_ensureCapacityInternal_d00df l D cB cJ _ b v nn cp ar (hP.sub [0, 1] rfl) ((hD.sub [0, 1] (by decide) rfl).weaken (fun _ _ _ _ => trivial)) hf hnm hm (k := nn + 1) h60) (va_cwU 1 hts gJ5_append_c97b9_J5_ensureCapacityInternal_d00df_u100J4 rfl rfl rfl rfl (by decide +kernel) ⟨(Nat.le_of_ble_eq_true rfl), (Nat.le_of_ble_eq_true rfl)⟩) (k_preV hE hS hFc (va_recv hK hP (ci := 1) (q0 := 0) rfl rfl)) rfl rfl hl.1 rfl (lv_room (Nat.le_of_ble_eq_true rfl)) dJ5_append_c97b9_14 ⟨(Nat.le_of_ble_eq_true rfl), (Nat.le_of_ble_eq_true rfl)⟩) hS (fun q _ h => hFc q h) hFc (fun v9 H locs hp hz hk hS => ?_)
  obtain ⟨rfl, v_1, m_1, a_1, hP1, hD1, hf_1, hn_1, hk_1, hm_1, hL_1⟩ := hp
  obtain ⟨hP, hD⟩ := va_join (wr := []) (wc := [(b, .inr (1, [.ref v, .int 0, .int 0, .int (nI nn)])), (v, .inl (cB, cp, .inl ar))]) (w1 := [(b, .inr (1, [.ref v_1, .int 0, .int 0, .int (nI nn)])), (v_1, .inl (cB, m_1, .inl a_1))]) hP hD [0, 1] [] rfl rfl (by decide) (by decide) hk hFc hP1 hD1
  have hP : va_P D vwCl [(b, .inr (1, [.ref v_1, .int 0, .int 0, .int (nI nn)])), (v_1, .inl (cB, m_1, .inl a_1))] H := hP
  have hD : va_D A [(b, .inr (1, [.ref v_1, .int 0, .int 0, .int (nI nn)])), (v_1, .inl (cB, m_1, .inl a_1))] := hD
  refine W.eq (g2 := F0 m 17 ls []) rfl ?_
  refine lv_aload_n hx hb dJ5_append_c97b9_17 rfl (lv_at hl 2 rfl) ?_
  refine k_pU [] (rest := []) ⟨hx, hb, hml, hown, hts⟩ (c_J5_isLatin1_aae02 l D cB cJ _ b v_1 nn m_1 a_1 (hP.sub [0, 1] rfl)) (va_cwU 0 hts gJ5_append_c97b9_J5_isLatin1_aae02_u83J4 rfl rfl rfl rfl (by decide +kernel) ⟨(Nat.le_of_ble_eq_true rfl), (Nat.le_of_ble_eq_true rfl)⟩) (va_recv hK hP (ci := 1) (q0 := 0) rfl rfl) hE hS rfl rfl hl.1 (Nat.le_of_ble_eq_true rfl) dJ5_append_c97b9_18 ⟨(Nat.le_of_ble_eq_true rfl), (Nat.le_of_ble_eq_true rfl)⟩ (fun locs hS => ?_)
  refine W.eq (g2 := F0 m 21 ls [.int (j_J5_isLatin1_aae02 nn m_1 a_1)]) rfl ?_
  refine lv_if_eq (tgt := 37) hx hb dJ5_append_c97b9_21 (by decide) (fun c_2 => ?_) (fun c_2 => ?_)
  · exact absurd c_2 (show ¬ (1 : Int32) = 0 by decide)
  · refine lv_iload_n hx hb dJ5_append_c97b9_24 rfl (lv_at hl 3 rfl) ?_
    refine lv_iload_n hx hb dJ5_append_c97b9_25 rfl (lv_at hl 0 rfl) ?_
    refine lv_aload_n hx hb dJ5_append_c97b9_26 rfl (lv_at hl 2 rfl) ?_
    refine va_get (D := D) (ci := 1) (v := .ref v_1) (C := RJ4) (T := TJ4) (N := 4) hx hb hts iw_J5_append_c97b9_J4 hown hK hP 0 rfl rfl 0 (by decide) (hts (.fieldLink RJ5 15 "java/lang/AbstractStringBuilder" "value" "[B") (by decide +kernel)) (fun _ h9 => h9) rfl dJ5_append_c97b9_27 ?_
    have hFc := va_free (wc := [(v_1, .inl (cB, m_1, .inl a_1))]) hD hS hA [1] rfl
    refine k_go (va_runS (As := [.int (nI w), .int (nI (nn + 1)), .ref v_1]) (rest := []) ⟨hx, hb, hml, hown, hts⟩ (cv_J6_getChars_ba4f3 l D cB cJ _ v_1 m_1 a_1 (hP.sub [1] rfl) ((hD.sub [1] (by decide) rfl).weaken (fun _ _ _ _ => trivial)) hf_1 w (nn + 1) hw (by omega) (by omega) (by omega)) (va_cwS 3 hts gJ5_append_c97b9_J6_getChars_ba4f3 rfl rfl rfl (by decide +kernel) ⟨(Nat.le_of_ble_eq_true rfl), (Nat.le_of_ble_eq_true rfl)⟩) (k_preS hE hS hFc) rfl rfl hl.1 rfl (lv_room (Nat.le_of_ble_eq_true rfl)) dJ5_append_c97b9_30 ⟨(Nat.le_of_ble_eq_true rfl), (Nat.le_of_ble_eq_true rfl)⟩) hS (fun q _ h => hFc q h) hFc (fun v9 H locs hp hz hk hS => ?_)
    obtain ⟨⟨r_3, rfl⟩, hP1, hD1, hf_3⟩ := hp
    have eq9 : nn + 1 - 1 = nn := rfl
    rw [eq9] at hP1 hD1 hf_3
    generalize ef_3 : upd a_1 nn (nI (48 + w)) = f_3 at hP1 hD1 hf_3
    obtain ⟨hP, hD⟩ := va_join (wr := [(b, .inr (1, [.ref v_1, .int 0, .int 0, .int (nI nn)]))]) (wc := [(v_1, .inl (cB, m_1, .inl a_1))]) (w1 := [(v_1, .inl (cB, m_1, .inl f_3))]) hP hD [1] [0] rfl rfl (by decide) (by decide) hk hFc hP1 hD1
    have hP : va_P D vwCl [(b, .inr (1, [.ref v_1, .int 0, .int 0, .int (nI nn)])), (v_1, .inl (cB, m_1, .inl f_3))] H := hP
    have hD : va_D A [(b, .inr (1, [.ref v_1, .int 0, .int 0, .int (nI nn)])), (v_1, .inl (cB, m_1, .inl f_3))] := hD
    refine W.eq (g2 := F0 m 33 ls [.int r_3]) rfl ?_
    refine lv_pop hx hb dJ5_append_c97b9_33 rfl ?_
    refine lv_goto (tgt := 48) hx hb dJ5_append_c97b9_34 (by decide) ?_
    refine lv_aload_n hx hb dJ5_append_c97b9_48 rfl (lv_at hl 2 rfl) ?_
    refine lv_iload_n hx hb dJ5_append_c97b9_49 rfl (lv_at hl 0 rfl) ?_
    refine va_put (D := D) (ci := 1) (v := .int (nI (nn + 1))) (ty := .int) (C := RJ4) (T := TJ4) (N := 4) hx hb hts iw_J5_append_c97b9_J4 tyJ4 tyJ4_ok nmJ4 hown hK hP hD hS 0 rfl rfl 3 (by decide) (hts (.fieldLink RJ5 79 "java/lang/AbstractStringBuilder" "count" "I") (by decide +kernel)) (fun _ h9 => h9) rfl (by decide +kernel) rfl rfl (Nat.le_of_ble_eq_true rfl) dJ5_append_c97b9_50 (fun H locs hP hD hS => ?_)
    have hP : va_P D vwCl [(b, .inr (1, [.ref v_1, .int 0, .int 0, .int (nI (nn + 1))])), (v_1, .inl (cB, m_1, .inl f_3))] H := hP
    have hD : va_D A [(b, .inr (1, [.ref v_1, .int 0, .int 0, .int (nI (nn + 1))])), (v_1, .inl (cB, m_1, .inl f_3))] := hD
    refine lv_aload_n hx hb dJ5_append_c97b9_53 rfl (lv_at hl 2 rfl) ?_
    exact k_aret hx hb hr (Or.inl ⟨_, rfl⟩) hlocks hS dJ5_append_c97b9_54 ⟨rfl, _, _, _, hP.sub [0, 1] rfl, hD.sub [0, 1] (by decide) rfl, hf_3, hk_1, hm_1, by rw [← ef_3]; exact q_updL hL_1⟩
set_option maxHeartbeats 4000000 in
set_option maxRecDepth 100000 in
theorem cv_J4_append_bf812 (l : Launch) (D : va_G) (cB cJ : ClassId) (Hp : Heap) (b v nn cp : Nat) (ar : Nat → Int32) (hP : va_P D vwCl (wSB b v cB nn cp ar) Hp) (hD9 : va_D (fun _ => True) (wSB b v cB nn cp ar)) (w : Nat) (hf : sb_Fit ar) (hnm : nn ≤ cp) (hm : cp ≤ 130) (hw : w < 8) (h60 : nn + 1 ≤ 60) : kM l D cB cJ yJ4_append_bf812 wsJ4_append_bf812 ({ frames := 5, cells := 1, slots := 130, locals := 147 }) (va_A (wSB b v cB nn cp ar) Hp.size) Hp [.ref b, .int (nI w)] (sbRV D cB (va_A (wSB b v cB nn cp ar) Hp.size) b (nn + 1) (upd ar nn (nI (48 + w)))) 1 130 := by
  refine Met.ofW (cc := cJ4_append_bf812) (maxL := 2) (ret := (some (.object "java/lang/StringBuilder"))) (by decide) rfl ?_
  intro p e s m args below meth c s₁ B hml hv
  obtain ⟨rfl, hHp, hE⟩ := hv
  subst hHp
  have hx := B.exec
  have hb := B.bytes
  have hr := B.returns
  have hts := atoms_spec (ws := wsJ4_append_bf812) B.pre
  have hown : s.vm.findClass RJ4 = some m.cls := findClass_of_methodNamed B.named
  have hlocks := B.notSynchronized
  have hK := hE.1
  have hD := hD9.self (sz := s.heap.size)
  generalize hAe : va_A (wSB b v cB nn cp ar) s.heap.size = A at hE hD ⊢
  have hA : ∀ q : Nat, s.heap.size ≤ q → A q := fun q h => by rw [← hAe]; exact Or.inr h
  have hS : va_S A s.heap s.heap [] := va_S.rf
  have hl := lv_entry ([.ref b, .int (nI w)]) (n := 2) (Nat.le_of_ble_eq_true rfl)
  rw [lg_entry_eq]
  generalize (lg_sl ([.ref b, .int (nI w)]) ++ List.replicate (2 - (lg_sl ([.ref b, .int (nI w)])).length) Slot.unset).toArray = ls at hl ⊢
  have hl : lv_has ls 2 [(0, .ref b), (1, .int (nI w))] := hl
  refine lv_aload_n hx hb dJ4_append_bf812_0 rfl (lv_at hl 0 rfl) ?_
  refine lv_iload_n hx hb dJ4_append_bf812_1 rfl (lv_at hl 1 rfl) ?_
  have hFc := va_free (wc := [(b, .inr (1, [.ref v, .int 0, .int 0, .int (nI nn)])), (v, .inl (cB, cp, .inl ar))]) hD hS hA [0, 1] rfl
  refine k_go (va_runSU (As := [.int (nI w)]) (rest := []) (hK.1 1 _ rfl).2 ⟨hx, hb, hml, hown, hts⟩ (cv_J5_append_c97b9 l D cB cJ _ b v nn cp ar (hP.sub [0, 1] rfl) ((hD.sub [0, 1] (by decide) rfl).weaken (fun _ _ _ _ => trivial)) w hf hnm hm hw h60) (va_cwSU 1 hts gJ4_append_bf812_J5_append_c97b9_s53 rfl rfl rfl (by decide +kernel) ⟨(Nat.le_of_ble_eq_true rfl), (Nat.le_of_ble_eq_true rfl)⟩) (k_preV hE hS hFc (va_recv hK hP (ci := 1) (q0 := 0) rfl rfl)) rfl rfl hl.1 rfl (lv_room (Nat.le_of_ble_eq_true rfl)) dJ4_append_bf812_2 ⟨(Nat.le_of_ble_eq_true rfl), (Nat.le_of_ble_eq_true rfl)⟩) hS (fun q _ h => hFc q h) hFc (fun v9 H locs hp hz hk hS => ?_)
  obtain ⟨rfl, v_1, m_1, a_1, hP1, hD1, hf_1, hn_1, hm_1, hL_1⟩ := hp
  obtain ⟨hP, hD⟩ := va_join (wr := []) (wc := [(b, .inr (1, [.ref v, .int 0, .int 0, .int (nI nn)])), (v, .inl (cB, cp, .inl ar))]) (w1 := [(b, .inr (1, [.ref v_1, .int 0, .int 0, .int (nI (nn + 1))])), (v_1, .inl (cB, m_1, .inl a_1))]) hP hD [0, 1] [] rfl rfl (by decide) (by decide) hk hFc hP1 hD1
  have hP : va_P D vwCl [(b, .inr (1, [.ref v_1, .int 0, .int 0, .int (nI (nn + 1))])), (v_1, .inl (cB, m_1, .inl a_1))] H := hP
  have hD : va_D A [(b, .inr (1, [.ref v_1, .int 0, .int 0, .int (nI (nn + 1))])), (v_1, .inl (cB, m_1, .inl a_1))] := hD
  refine W.eq (g2 := F0 m 5 ls [.ref b]) rfl ?_
  refine lv_pop hx hb dJ4_append_bf812_5 rfl ?_
  refine lv_aload_n hx hb dJ4_append_bf812_6 rfl (lv_at hl 0 rfl) ?_
  exact k_aret hx hb hr (Or.inl ⟨_, rfl⟩) hlocks hS dJ4_append_bf812_7 ⟨rfl, _, _, _, hP.sub [0, 1] rfl, hD.sub [0, 1] (by decide) rfl, hf_1, hn_1, hm_1, hL_1⟩
set_option maxHeartbeats 4000000 in
set_option maxRecDepth 100000 in
theorem cv_J0_getBytes_840e7 (l : Launch) (D : va_G) (cB cJ : ClassId) (Hp : Heap) (v cp nd : Nat) (ar : Nat → Int32) (hP : va_P D vwCl ([(v, .inl (cB, cp, .inl ar))]) Hp) (hD9 : va_D (fun _ => True) ([(v, .inl (cB, cp, .inl ar))])) (sq sk : Nat) (sf : Nat → Int32) (hsf : sb_Fit sf) (hf : sb_Fit ar) (hdk : nd + sk ≤ cp) (hm : cp ≤ 130) : kMR l D cB cJ yJ0_getBytes_840e7 wsJ0_getBytes_840e7 ({ frames := 1, cells := 0, slots := 0, locals := 80 }) (va_A ([(v, .inl (cB, cp, .inl ar))]) Hp.size) Hp [.ref sq, .ref v, .int (nI nd), .int 0] sq sk sf (kFitVX D cB (va_A ([(v, .inl (cB, cp, .inl ar))]) Hp.size) v cp (va_cpy sf ar 0 nd sk)) 0 0 := by
  refine Met.ofW (cc := cJ0_getBytes_840e7) (maxL := 4) (ret := none) (by decide) rfl ?_
  intro p e s m args below meth c s₁ B hml hv
  obtain ⟨rfl, hHp, hE, hR⟩ := hv
  subst hHp
  have hx := B.exec
  have hb := B.bytes
  have hr := B.returns
  have hts := atoms_spec (ws := wsJ0_getBytes_840e7) B.pre
  have hown : s.vm.findClass RJ0 = some m.cls := findClass_of_methodNamed B.named
  have hlocks := B.notSynchronized
  have hK := hE.1
  have hD := hD9.self (sz := s.heap.size)
  generalize hAe : va_A ([(v, .inl (cB, cp, .inl ar))]) s.heap.size = A at hE hR hD ⊢
  have hA : ∀ q : Nat, s.heap.size ≤ q → A q := fun q h => by rw [← hAe]; exact Or.inr h
  obtain ⟨sv, hRv, hRt⟩ := hR.2.2
  have hS : va_S A s.heap s.heap [] := va_S.rf
  have hl := lv_entry ([.ref sq, .ref v, .int (nI nd), .int 0]) (n := 4) (Nat.le_of_ble_eq_true rfl)
  rw [lg_entry_eq]
  generalize (lg_sl ([.ref sq, .ref v, .int (nI nd), .int 0]) ++ List.replicate (4 - (lg_sl ([.ref sq, .ref v, .int (nI nd), .int 0])).length) Slot.unset).toArray = ls at hl ⊢
  have hl : lv_has ls 4 [(0, .ref sq), (1, .ref v), (2, .int (nI nd)), (3, .int 0)] := hl
  refine lv_aload_n hx hb dJ0_getBytes_840e7_0 rfl (lv_at hl 0 rfl) ?_
  refine k_pVR [] (rest := []) ⟨hx, hb, hml, hown, hts⟩ (c_J0_coder_7d493 l D cB cJ _ sq sk sf) (cwV 0 hts gJ0_getBytes_840e7_J0_coder_7d493 rfl rfl rfl (by decide +kernel) ⟨(Nat.le_of_ble_eq_true rfl), (Nat.le_of_ble_eq_true rfl)⟩) (va_Orecv hR.1 hS) hE hR hS rfl rfl hl.1 (Nat.le_of_ble_eq_true rfl) dJ0_getBytes_840e7_1 ⟨(Nat.le_of_ble_eq_true rfl), (Nat.le_of_ble_eq_true rfl)⟩ (fun locs hS => ?_)
  refine W.eq (g2 := F0 m 4 ls [.int 0]) rfl ?_
  refine lv_iload_n hx hb dJ0_getBytes_840e7_4 rfl (lv_at hl 3 rfl) ?_
  refine lv_icmp_ne (tgt := 28) hx hb dJ0_getBytes_840e7_5 (by decide) (fun c_1 => ?_) (fun c_1 => ?_)
  · exact absurd (by decide) c_1
  · refine lv_aload_n hx hb dJ0_getBytes_840e7_8 rfl (lv_at hl 0 rfl) ?_
    refine vk_getf hx hb hRv hS hown (hts (.fieldLink RJ0 9 "java/lang/String" "value" "[B") (by decide +kernel)) (fun _ h9 => h9) dJ0_getBytes_840e7_9 ?_
    refine lv_iconst (v := 0) hx hb dJ0_getBytes_840e7_12 (by decide) ?_
    refine lv_aload_n hx hb dJ0_getBytes_840e7_13 rfl (lv_at hl 1 rfl) ?_
    refine lv_iload_n hx hb dJ0_getBytes_840e7_14 rfl (lv_at hl 2 rfl) ?_
    refine lv_iload_n hx hb dJ0_getBytes_840e7_15 rfl (lv_at hl 3 rfl) ?_
    refine lv_ishl hx hb dJ0_getBytes_840e7_16 ?_
    rw [sb_shl0]
    refine lv_aload_n hx hb dJ0_getBytes_840e7_17 rfl (lv_at hl 0 rfl) ?_
    refine vk_getf hx hb hRv hS hown (hts (.fieldLink RJ0 9 "java/lang/String" "value" "[B") (by decide +kernel)) (fun _ h9 => h9) dJ0_getBytes_840e7_18 ?_
    refine va_tlen hx hb hRt hS (v := (nI sk)) rfl dJ0_getBytes_840e7_21 ?_
    refine lv_topi (fun z_2 ez_2 => ?_)
    have hz : z_2.toNatClampNeg = sk := by rw [ez_2]; exact nI_clamp (by omega)
    refine vk_copyt hx hb (hml.trans hl.1.symm) hown (hts (.methodLink RJ0 212 arraycopyName) (by decide +kernel)) (hts (.native arraycopyName) (by decide +kernel)) (hts (.static arraycopyName) (by decide +kernel)) (hts (.initialized "java/lang/System") (by decide +kernel)) hK hP hD hS hRt 0 0 rfl rfl (by decide) (nI_pos (by omega)) (by rw [ez_2]; exact nI_pos (by omega)) (by rw [hz]; show 0 + sk ≤ sk; omega) (by rw [hz, nI_clamp (by omega)]; omega) (fun i _ => hsf _) (Nat.le_of_ble_eq_true rfl) (Nat.le_of_ble_eq_true rfl) dJ0_getBytes_840e7_22 (fun H locs hP hD hS => ?_)
    have hP : va_P D vwCl [(v, .inl (cB, cp, .inl (va_cpy sf ar (0 : Int32).toNatClampNeg (nI nd).toNatClampNeg z_2.toNatClampNeg)))] H := hP
    have hD : va_D A [(v, .inl (cB, cp, .inl (va_cpy sf ar (0 : Int32).toNatClampNeg (nI nd).toNatClampNeg z_2.toNatClampNeg)))] := hD
    refine lv_goto (tgt := 43) hx hb dJ0_getBytes_840e7_25 (by decide) ?_
    have eF : va_cpy sf ar (0 : Int32).toNatClampNeg (nI nd).toNatClampNeg z_2.toNatClampNeg = va_cpy sf ar 0 nd sk := by rw [hz, nI_clamp (by omega)]; rfl
    exact k_vret hx hb hr hlocks hS dJ0_getBytes_840e7_43 ⟨rfl, eF ▸ hP, eF ▸ hD, sb_fitC hsf hf⟩
set_option maxHeartbeats 4000000 in
set_option maxRecDepth 100000 in
theorem cv_J5_putStringAt_47b60 (l : Launch) (D : va_G) (cB cJ : ClassId) (Hp : Heap) (b v nn cp nd : Nat) (ar : Nat → Int32) (hP : va_P D vwCl (wSB b v cB nn cp ar) Hp) (hD9 : va_D (fun _ => True) (wSB b v cB nn cp ar)) (sq sk : Nat) (sf : Nat → Int32) (hsf : sb_Fit sf) (hf : sb_Fit ar) (hdk : nd + sk ≤ cp) (hm : cp ≤ 130) : kMR l D cB cJ yJ5_putStringAt_47b60 wsJ5_putStringAt_47b60 ({ frames := 2, cells := 0, slots := 0, locals := 103 }) (va_A (wSB b v cB nn cp ar) Hp.size) Hp [.ref b, .int (nI nd), .ref sq] sq sk sf (sbWX D cB (va_A (wSB b v cB nn cp ar) Hp.size) b v nn cp (va_cpy sf ar 0 nd sk)) 0 0 := by
  refine Met.ofW (cc := cJ5_putStringAt_47b60) (maxL := 3) (ret := none) (by decide) rfl ?_
  intro p e s m args below meth c s₁ B hml hv
  obtain ⟨rfl, hHp, hE, hR⟩ := hv
  subst hHp
  have hx := B.exec
  have hb := B.bytes
  have hr := B.returns
  have hts := atoms_spec (ws := wsJ5_putStringAt_47b60) B.pre
  have hown : s.vm.findClass RJ5 = some m.cls := findClass_of_methodNamed B.named
  have hlocks := B.notSynchronized
  have hK := hE.1
  have hD := hD9.self (sz := s.heap.size)
  generalize hAe : va_A (wSB b v cB nn cp ar) s.heap.size = A at hE hR hD ⊢
  have hA : ∀ q : Nat, s.heap.size ≤ q → A q := fun q h => by rw [← hAe]; exact Or.inr h
  obtain ⟨sv, hRv, hRt⟩ := hR.2.2
  have hS : va_S A s.heap s.heap [] := va_S.rf
  have hl := lv_entry ([.ref b, .int (nI nd), .ref sq]) (n := 3) (Nat.le_of_ble_eq_true rfl)
  rw [lg_entry_eq]
  generalize (lg_sl ([.ref b, .int (nI nd), .ref sq]) ++ List.replicate (3 - (lg_sl ([.ref b, .int (nI nd), .ref sq])).length) Slot.unset).toArray = ls at hl ⊢
  have hl : lv_has ls 3 [(0, .ref b), (1, .int (nI nd)), (2, .ref sq)] := hl
  refine lv_aload_n hx hb dJ5_putStringAt_47b60_0 rfl (lv_at hl 0 rfl) ?_
  refine lv_aload_n hx hb dJ5_putStringAt_47b60_1 rfl (lv_at hl 2 rfl) ?_
  refine k_pUR [.ref sq] (rest := []) ⟨hx, hb, hml, hown, hts⟩ (c_J5_inflateIfNeededFor_a7421 l D cB cJ _ b v nn cp ar sq sk sf (hP.sub [0, 1] rfl)) (va_cwU 1 hts gJ5_putStringAt_47b60_J5_inflateIfNeededFor_a7421_u397J4 rfl rfl rfl rfl (by decide +kernel) ⟨(Nat.le_of_ble_eq_true rfl), (Nat.le_of_ble_eq_true rfl)⟩) (va_recv hK hP (ci := 1) (q0 := 0) rfl rfl) hE hR hS rfl rfl hl.1 (Nat.le_of_ble_eq_true rfl) dJ5_putStringAt_47b60_2 ⟨(Nat.le_of_ble_eq_true rfl), (Nat.le_of_ble_eq_true rfl)⟩ (fun locs hS => ?_)
  refine W.eq (g2 := F0 m 5 ls []) rfl ?_
  refine lv_aload_n hx hb dJ5_putStringAt_47b60_5 rfl (lv_at hl 2 rfl) ?_
  refine lv_aload_n hx hb dJ5_putStringAt_47b60_6 rfl (lv_at hl 0 rfl) ?_
  refine va_get (D := D) (ci := 1) (v := .ref v) (C := RJ4) (T := TJ4) (N := 4) hx hb hts iw_J5_putStringAt_47b60_J4 hown hK hP 0 rfl rfl 0 (by decide) (hts (.fieldLink RJ5 15 "java/lang/AbstractStringBuilder" "value" "[B") (by decide +kernel)) (fun _ h9 => h9) rfl dJ5_putStringAt_47b60_7 ?_
  refine lv_iload_n hx hb dJ5_putStringAt_47b60_10 rfl (lv_at hl 1 rfl) ?_
  refine lv_aload_n hx hb dJ5_putStringAt_47b60_11 rfl (lv_at hl 0 rfl) ?_
  refine va_get (D := D) (ci := 1) (v := .int 0) (C := RJ4) (T := TJ4) (N := 4) hx hb hts iw_J5_putStringAt_47b60_J4 hown hK hP 0 rfl rfl 1 (by decide) (hts (.fieldLink RJ5 22 "java/lang/AbstractStringBuilder" "coder" "B") (by decide +kernel)) (fun _ h9 => h9) rfl dJ5_putStringAt_47b60_12 ?_
  have hFc := va_free (wc := [(v, .inl (cB, cp, .inl ar))]) hD hS hA [1] rfl
  refine k_go (va_runV (As := [.ref v, .int (nI nd), .int 0]) (rest := []) ⟨hx, hb, hml, hown, hts⟩ (cv_J0_getBytes_840e7 l D cB cJ _ v cp nd ar (hP.sub [1] rfl) ((hD.sub [1] (by decide) rfl).weaken (fun _ _ _ _ => trivial)) sq sk sf hsf hf (by omega) hm) (cwV 3 hts gJ5_putStringAt_47b60_J0_getBytes_840e7 rfl rfl rfl (by decide +kernel) ⟨(Nat.le_of_ble_eq_true rfl), (Nat.le_of_ble_eq_true rfl)⟩) (k_preRV hE hR hS hFc (va_Orecv hR.1 hS)) rfl rfl hl.1 rfl (lv_room (Nat.le_of_ble_eq_true rfl)) dJ5_putStringAt_47b60_15 ⟨(Nat.le_of_ble_eq_true rfl), (Nat.le_of_ble_eq_true rfl)⟩) hS (fun q _ h => hFc q h) hFc (fun v9 H locs hp hz hk hS => ?_)
  obtain ⟨rfl, hP1, hD1, hf_1⟩ := hp
  generalize va_cpy sf ar 0 nd sk = f_1 at hP1 hD1 hf_1 ⊢
  obtain ⟨hP, hD⟩ := va_join (wr := [(b, .inr (1, [.ref v, .int 0, .int 0, .int (nI nn)]))]) (wc := [(v, .inl (cB, cp, .inl ar))]) (w1 := [(v, .inl (cB, cp, .inl f_1))]) hP hD [1] [0] rfl rfl (by decide) (by decide) hk hFc hP1 hD1
  have hP : va_P D vwCl [(b, .inr (1, [.ref v, .int 0, .int 0, .int (nI nn)])), (v, .inl (cB, cp, .inl f_1))] H := hP
  have hD : va_D A [(b, .inr (1, [.ref v, .int 0, .int 0, .int (nI nn)])), (v, .inl (cB, cp, .inl f_1))] := hD
  refine W.eq (g2 := F0 m 18 ls []) rfl ?_
  exact k_vret hx hb hr hlocks hS dJ5_putStringAt_47b60_18 ⟨rfl, hP.sub [0, 1] rfl, hD.sub [0, 1] (by decide) rfl, hf_1⟩
set_option maxHeartbeats 4000000 in
set_option maxRecDepth 100000 in
theorem cv_J5_append_cf1ce (l : Launch) (D : va_G) (cB cJ : ClassId) (Hp : Heap) (b v nn cp : Nat) (ar : Nat → Int32) (hP : va_P D vwCl (wSB b v cB nn cp ar) Hp) (hD9 : va_D (fun _ => True) (wSB b v cB nn cp ar)) (sq sk : Nat) (sf : Nat → Int32) (hsf : sb_Fit sf) (hf : sb_Fit ar) (hnm : nn ≤ cp) (hm : cp ≤ 130) (h60 : nn + sk ≤ 60) : kMR l D cB cJ yJ5_append_cf1ce wsJ5_append_cf1ce ({ frames := 4, cells := 1, slots := 130, locals := 125 }) (va_A (wSB b v cB nn cp ar) Hp.size) Hp [.ref b, .ref sq] sq sk sf (sbRV D cB (va_A (wSB b v cB nn cp ar) Hp.size) b (nn + sk) (va_cpy sf ar 0 nn sk)) 1 130 := by
  refine Met.ofW (cc := cJ5_append_cf1ce) (maxL := 3) (ret := (some (.object "java/lang/AbstractStringBuilder"))) (by decide) rfl ?_
  intro p e s m args below meth c s₁ B hml hv
  obtain ⟨rfl, hHp, hE, hR⟩ := hv
  subst hHp
  have hx := B.exec
  have hb := B.bytes
  have hr := B.returns
  have hts := atoms_spec (ws := wsJ5_append_cf1ce) B.pre
  have hown : s.vm.findClass RJ5 = some m.cls := findClass_of_methodNamed B.named
  have hlocks := B.notSynchronized
  have hK := hE.1
  have hD := hD9.self (sz := s.heap.size)
  generalize hAe : va_A (wSB b v cB nn cp ar) s.heap.size = A at hE hR hD ⊢
  have hA : ∀ q : Nat, s.heap.size ≤ q → A q := fun q h => by rw [← hAe]; exact Or.inr h
  obtain ⟨sv, hRv, hRt⟩ := hR.2.2
  have hS : va_S A s.heap s.heap [] := va_S.rf
  have hl := lv_entry ([.ref b, .ref sq]) (n := 3) (Nat.le_of_ble_eq_true rfl)
  rw [lg_entry_eq]
  generalize (lg_sl ([.ref b, .ref sq]) ++ List.replicate (3 - (lg_sl ([.ref b, .ref sq])).length) Slot.unset).toArray = ls at hl ⊢
  have hl : lv_has ls 3 [(0, .ref b), (1, .ref sq)] := hl
  refine lv_aload_n hx hb dJ5_append_cf1ce_0 rfl (lv_at hl 1 rfl) ?_
  refine lv_ifnonnull (tgt := 9) hx hb dJ5_append_cf1ce_1 (by decide) ?_
  refine lv_aload_n hx hb dJ5_append_cf1ce_9 rfl (lv_at hl 1 rfl) ?_
  refine k_pVR [] (rest := []) ⟨hx, hb, hml, hown, hts⟩ (c_J0_length_8abf5 l D cB cJ _ sq sk sf) (cwV 0 hts gJ5_append_cf1ce_J0_length_8abf5 rfl rfl rfl (by decide +kernel) ⟨(Nat.le_of_ble_eq_true rfl), (Nat.le_of_ble_eq_true rfl)⟩) (va_Orecv hR.1 hS) hE hR hS rfl rfl hl.1 (Nat.le_of_ble_eq_true rfl) dJ5_append_cf1ce_10 ⟨(Nat.le_of_ble_eq_true rfl), (Nat.le_of_ble_eq_true rfl)⟩ (fun locs hS => ?_)
  refine W.eq (g2 := F0 m 13 ls [.int (nI sk)]) rfl ?_
  refine lv_istore_n (lv' := [(2, .int (nI sk)), (0, .ref b), (1, .ref sq)]) hx hb dJ5_append_cf1ce_13 rfl hl (by decide) rfl (fun ls hl => ?_)
  refine lv_aload_n hx hb dJ5_append_cf1ce_14 rfl (lv_at hl 1 rfl) ?_
  refine lv_aload_n hx hb dJ5_append_cf1ce_15 rfl (lv_at hl 1 rfl) ?_
  refine va_get (D := D) (ci := 1) (v := .int (nI nn)) (C := RJ4) (T := TJ4) (N := 4) hx hb hts iw_J5_append_cf1ce_J4 hown hK hP 0 rfl rfl 3 (by decide) (hts (.fieldLink RJ5 79 "java/lang/AbstractStringBuilder" "count" "I") (by decide +kernel)) (fun _ h9 => h9) rfl dJ5_append_cf1ce_16 ?_
  refine lv_iload_n hx hb dJ5_append_cf1ce_19 rfl (lv_at hl 0 rfl) ?_
  refine lv_iadd hx hb dJ5_append_cf1ce_20 ?_
  rw [nI_add]
  have hFc := va_free (wc := [(b, .inr (1, [.ref v, .int 0, .int 0, .int (nI nn)])), (v, .inl (cB, cp, .inl ar))]) hD hS hA [0, 1] rfl
  refine k_go (va_runU (As := [.int (nI (nn + sk))]) (rest := []) ⟨hx, hb, hml, hown, hts⟩ (cv_J5_ensureCapacityInternal_d00df l D cB cJ _ b v nn cp ar (hP.sub [0, 1] rfl) ((hD.sub [0, 1] (by decide) rfl).weaken (fun _ _ _ _ => trivial)) hf hnm hm (k := nn + sk) h60) (va_cwU 1 hts gJ5_append_cf1ce_J5_ensureCapacityInternal_d00df_u100J4 rfl rfl rfl rfl (by decide +kernel) ⟨(Nat.le_of_ble_eq_true rfl), (Nat.le_of_ble_eq_true rfl)⟩) (k_preV hE hS hFc (va_recv hK hP (ci := 1) (q0 := 0) rfl rfl)) rfl rfl hl.1 rfl (lv_room (Nat.le_of_ble_eq_true rfl)) dJ5_append_cf1ce_21 ⟨(Nat.le_of_ble_eq_true rfl), (Nat.le_of_ble_eq_true rfl)⟩) hS (fun q _ h => hFc q h) hFc (fun v9 H locs hp hz hk hS => ?_)
  obtain ⟨rfl, v_1, m_1, a_1, hP1, hD1, hf_1, hn_1, hk_1, hm_1, hL_1⟩ := hp
  obtain ⟨hP, hD⟩ := va_join (wr := []) (wc := [(b, .inr (1, [.ref v, .int 0, .int 0, .int (nI nn)])), (v, .inl (cB, cp, .inl ar))]) (w1 := [(b, .inr (1, [.ref v_1, .int 0, .int 0, .int (nI nn)])), (v_1, .inl (cB, m_1, .inl a_1))]) hP hD [0, 1] [] rfl rfl (by decide) (by decide) hk hFc hP1 hD1
  have hP : va_P D vwCl [(b, .inr (1, [.ref v_1, .int 0, .int 0, .int (nI nn)])), (v_1, .inl (cB, m_1, .inl a_1))] H := hP
  have hD : va_D A [(b, .inr (1, [.ref v_1, .int 0, .int 0, .int (nI nn)])), (v_1, .inl (cB, m_1, .inl a_1))] := hD
  refine W.eq (g2 := F0 m 24 ls []) rfl ?_
  refine lv_aload_n hx hb dJ5_append_cf1ce_24 rfl (lv_at hl 1 rfl) ?_
  refine lv_aload_n hx hb dJ5_append_cf1ce_25 rfl (lv_at hl 1 rfl) ?_
  refine va_get (D := D) (ci := 1) (v := .int (nI nn)) (C := RJ4) (T := TJ4) (N := 4) hx hb hts iw_J5_append_cf1ce_J4 hown hK hP 0 rfl rfl 3 (by decide) (hts (.fieldLink RJ5 79 "java/lang/AbstractStringBuilder" "count" "I") (by decide +kernel)) (fun _ h9 => h9) rfl dJ5_append_cf1ce_26 ?_
  refine lv_aload_n hx hb dJ5_append_cf1ce_29 rfl (lv_at hl 2 rfl) ?_
  have hFc := va_free (wc := [(b, .inr (1, [.ref v_1, .int 0, .int 0, .int (nI nn)])), (v_1, .inl (cB, m_1, .inl a_1))]) hD hS hA [0, 1] rfl
  refine k_go (va_runU (As := [.int (nI nn), .ref sq]) (rest := []) ⟨hx, hb, hml, hown, hts⟩ (cv_J5_putStringAt_47b60 l D cB cJ _ b v_1 nn m_1 nn a_1 (hP.sub [0, 1] rfl) ((hD.sub [0, 1] (by decide) rfl).weaken (fun _ _ _ _ => trivial)) sq sk sf hsf hf_1 (by omega) hm_1) (va_cwU 2 hts gJ5_append_cf1ce_J5_putStringAt_47b60_u208J4 rfl rfl rfl rfl (by decide +kernel) ⟨(Nat.le_of_ble_eq_true rfl), (Nat.le_of_ble_eq_true rfl)⟩) (k_preRV hE hR hS hFc (va_recv hK hP (ci := 1) (q0 := 0) rfl rfl)) rfl rfl hl.1 rfl (lv_room (Nat.le_of_ble_eq_true rfl)) dJ5_append_cf1ce_30 ⟨(Nat.le_of_ble_eq_true rfl), (Nat.le_of_ble_eq_true rfl)⟩) hS (fun q _ h => hFc q h) hFc (fun v9 H locs hp hz hk hS => ?_)
  obtain ⟨rfl, hP1, hD1, hf_2⟩ := hp
  generalize ef_2 : va_cpy sf a_1 0 nn sk = f_2 at hP1 hD1 hf_2
  obtain ⟨hP, hD⟩ := va_join (wr := []) (wc := [(b, .inr (1, [.ref v_1, .int 0, .int 0, .int (nI nn)])), (v_1, .inl (cB, m_1, .inl a_1))]) (w1 := [(b, .inr (1, [.ref v_1, .int 0, .int 0, .int (nI nn)])), (v_1, .inl (cB, m_1, .inl f_2))]) hP hD [0, 1] [] rfl rfl (by decide) (by decide) hk hFc hP1 hD1
  have hP : va_P D vwCl [(b, .inr (1, [.ref v_1, .int 0, .int 0, .int (nI nn)])), (v_1, .inl (cB, m_1, .inl f_2))] H := hP
  have hD : va_D A [(b, .inr (1, [.ref v_1, .int 0, .int 0, .int (nI nn)])), (v_1, .inl (cB, m_1, .inl f_2))] := hD
  refine W.eq (g2 := F0 m 33 ls []) rfl ?_
  refine lv_aload_n hx hb dJ5_append_cf1ce_33 rfl (lv_at hl 1 rfl) ?_
  refine lv_dup hx hb dJ5_append_cf1ce_34 rfl ?_
  refine va_get (D := D) (ci := 1) (v := .int (nI nn)) (C := RJ4) (T := TJ4) (N := 4) hx hb hts iw_J5_append_cf1ce_J4 hown hK hP 0 rfl rfl 3 (by decide) (hts (.fieldLink RJ5 79 "java/lang/AbstractStringBuilder" "count" "I") (by decide +kernel)) (fun _ h9 => h9) rfl dJ5_append_cf1ce_35 ?_
  refine lv_iload_n hx hb dJ5_append_cf1ce_38 rfl (lv_at hl 0 rfl) ?_
  refine lv_iadd hx hb dJ5_append_cf1ce_39 ?_
  rw [nI_add]
  refine va_put (D := D) (ci := 1) (v := .int (nI (nn + sk))) (ty := .int) (C := RJ4) (T := TJ4) (N := 4) hx hb hts iw_J5_append_cf1ce_J4 tyJ4 tyJ4_ok nmJ4 hown hK hP hD hS 0 rfl rfl 3 (by decide) (hts (.fieldLink RJ5 79 "java/lang/AbstractStringBuilder" "count" "I") (by decide +kernel)) (fun _ h9 => h9) rfl (by decide +kernel) rfl rfl (Nat.le_of_ble_eq_true rfl) dJ5_append_cf1ce_40 (fun H locs hP hD hS => ?_)
  have hP : va_P D vwCl [(b, .inr (1, [.ref v_1, .int 0, .int 0, .int (nI (nn + sk))])), (v_1, .inl (cB, m_1, .inl f_2))] H := hP
  have hD : va_D A [(b, .inr (1, [.ref v_1, .int 0, .int 0, .int (nI (nn + sk))])), (v_1, .inl (cB, m_1, .inl f_2))] := hD
  refine lv_aload_n hx hb dJ5_append_cf1ce_43 rfl (lv_at hl 1 rfl) ?_
  exact k_aret hx hb hr (Or.inl ⟨_, rfl⟩) hlocks hS dJ5_append_cf1ce_44 ⟨rfl, _, _, _, hP.sub [0, 1] rfl, hD.sub [0, 1] (by decide) rfl, hf_2, hk_1, hm_1, by rw [← ef_2]; exact q_cpyL hL_1⟩
set_option maxHeartbeats 4000000 in
set_option maxRecDepth 100000 in
theorem cv_J4_append_15ec4 (l : Launch) (D : va_G) (cB cJ : ClassId) (Hp : Heap) (b v nn cp : Nat) (ar : Nat → Int32) (hP : va_P D vwCl (wSB b v cB nn cp ar) Hp) (hD9 : va_D (fun _ => True) (wSB b v cB nn cp ar)) (sq sk : Nat) (sf : Nat → Int32) (hsf : sb_Fit sf) (hf : sb_Fit ar) (hnm : nn ≤ cp) (hm : cp ≤ 130) (h60 : nn + sk ≤ 60) : kMR l D cB cJ yJ4_append_15ec4 wsJ4_append_15ec4 ({ frames := 5, cells := 1, slots := 130, locals := 147 }) (va_A (wSB b v cB nn cp ar) Hp.size) Hp [.ref b, .ref sq] sq sk sf (sbRV D cB (va_A (wSB b v cB nn cp ar) Hp.size) b (nn + sk) (va_cpy sf ar 0 nn sk)) 1 130 := by
  refine Met.ofW (cc := cJ4_append_15ec4) (maxL := 2) (ret := (some (.object "java/lang/StringBuilder"))) (by decide) rfl ?_
  intro p e s m args below meth c s₁ B hml hv
  obtain ⟨rfl, hHp, hE, hR⟩ := hv
  subst hHp
  have hx := B.exec
  have hb := B.bytes
  have hr := B.returns
  have hts := atoms_spec (ws := wsJ4_append_15ec4) B.pre
  have hown : s.vm.findClass RJ4 = some m.cls := findClass_of_methodNamed B.named
  have hlocks := B.notSynchronized
  have hK := hE.1
  have hD := hD9.self (sz := s.heap.size)
  generalize hAe : va_A (wSB b v cB nn cp ar) s.heap.size = A at hE hR hD ⊢
  have hA : ∀ q : Nat, s.heap.size ≤ q → A q := fun q h => by rw [← hAe]; exact Or.inr h
  obtain ⟨sv, hRv, hRt⟩ := hR.2.2
  have hS : va_S A s.heap s.heap [] := va_S.rf
  have hl := lv_entry ([.ref b, .ref sq]) (n := 2) (Nat.le_of_ble_eq_true rfl)
  rw [lg_entry_eq]
  generalize (lg_sl ([.ref b, .ref sq]) ++ List.replicate (2 - (lg_sl ([.ref b, .ref sq])).length) Slot.unset).toArray = ls at hl ⊢
  have hl : lv_has ls 2 [(0, .ref b), (1, .ref sq)] := hl
  refine lv_aload_n hx hb dJ4_append_15ec4_0 rfl (lv_at hl 0 rfl) ?_
  refine lv_aload_n hx hb dJ4_append_15ec4_1 rfl (lv_at hl 1 rfl) ?_
  have hFc := va_free (wc := [(b, .inr (1, [.ref v, .int 0, .int 0, .int (nI nn)])), (v, .inl (cB, cp, .inl ar))]) hD hS hA [0, 1] rfl
  refine k_go (va_runSU (As := [.ref sq]) (rest := []) (hK.1 1 _ rfl).2 ⟨hx, hb, hml, hown, hts⟩ (cv_J5_append_cf1ce l D cB cJ _ b v nn cp ar (hP.sub [0, 1] rfl) ((hD.sub [0, 1] (by decide) rfl).weaken (fun _ _ _ _ => trivial)) sq sk sf hsf hf hnm hm h60) (va_cwSU 1 hts gJ4_append_15ec4_J5_append_cf1ce_s29 rfl rfl rfl (by decide +kernel) ⟨(Nat.le_of_ble_eq_true rfl), (Nat.le_of_ble_eq_true rfl)⟩) (k_preRV hE hR hS hFc (va_recv hK hP (ci := 1) (q0 := 0) rfl rfl)) rfl rfl hl.1 rfl (lv_room (Nat.le_of_ble_eq_true rfl)) dJ4_append_15ec4_2 ⟨(Nat.le_of_ble_eq_true rfl), (Nat.le_of_ble_eq_true rfl)⟩) hS (fun q _ h => hFc q h) hFc (fun v9 H locs hp hz hk hS => ?_)
  obtain ⟨rfl, v_1, m_1, a_1, hP1, hD1, hf_1, hn_1, hm_1, hL_1⟩ := hp
  obtain ⟨hP, hD⟩ := va_join (wr := []) (wc := [(b, .inr (1, [.ref v, .int 0, .int 0, .int (nI nn)])), (v, .inl (cB, cp, .inl ar))]) (w1 := [(b, .inr (1, [.ref v_1, .int 0, .int 0, .int (nI (nn + sk))])), (v_1, .inl (cB, m_1, .inl a_1))]) hP hD [0, 1] [] rfl rfl (by decide) (by decide) hk hFc hP1 hD1
  have hP : va_P D vwCl [(b, .inr (1, [.ref v_1, .int 0, .int 0, .int (nI (nn + sk))])), (v_1, .inl (cB, m_1, .inl a_1))] H := hP
  have hD : va_D A [(b, .inr (1, [.ref v_1, .int 0, .int 0, .int (nI (nn + sk))])), (v_1, .inl (cB, m_1, .inl a_1))] := hD
  refine W.eq (g2 := F0 m 5 ls [.ref b]) rfl ?_
  refine lv_pop hx hb dJ4_append_15ec4_5 rfl ?_
  refine lv_aload_n hx hb dJ4_append_15ec4_6 rfl (lv_at hl 0 rfl) ?_
  exact k_aret hx hb hr (Or.inl ⟨_, rfl⟩) hlocks hS dJ4_append_15ec4_7 ⟨rfl, _, _, _, hP.sub [0, 1] rfl, hD.sub [0, 1] (by decide) rfl, hf_1, hn_1, hm_1, hL_1⟩
set_option maxHeartbeats 4000000 in
set_option maxRecDepth 100000 in
theorem cv_J7_copyOfRangeByte_39247 (l : Launch) (D : va_G) (cB cJ : ClassId) (Hp : Heap) (v cp n : Nat) (ar : Nat → Int32) (hP : va_P D vwCl [(v, .inl (cB, cp, .inl ar))] Hp) (hD9 : va_D (fun _ => True) [(v, .inl (cB, cp, .inl ar))]) (hf : sb_Fit ar) (hn : n ≤ cp) (hc : cp ≤ 130) : kM l D cB cJ yJ7_copyOfRangeByte_39247 wsJ7_copyOfRangeByte_39247 ({ frames := 1, cells := 1, slots := 130, locals := 80 }) (va_A [(v, .inl (cB, cp, .inl ar))] Hp.size) Hp [.ref v, .int 0, .int (nI n)] (kRow2V D cB (va_A [(v, .inl (cB, cp, .inl ar))] Hp.size) v cp n ar) 1 130 := by
  refine Met.ofW (cc := cJ7_copyOfRangeByte_39247) (maxL := 5) (ret := (some (.array .byte))) (by decide) rfl ?_
  intro p e s m args below meth c s₁ B hml hv
  obtain ⟨rfl, hHp, hE⟩ := hv
  subst hHp
  have hx := B.exec
  have hb := B.bytes
  have hr := B.returns
  have hts := atoms_spec (ws := wsJ7_copyOfRangeByte_39247) B.pre
  have hown : s.vm.findClass RJ7 = some m.cls := findClass_of_methodNamed B.named
  have hlocks := B.notSynchronized
  have hK := hE.1
  have hD := hD9.self (sz := s.heap.size)
  generalize hAe : va_A [(v, .inl (cB, cp, .inl ar))] s.heap.size = A at hE hD ⊢
  have hA : ∀ q : Nat, s.heap.size ≤ q → A q := fun q h => by rw [← hAe]; exact Or.inr h
  have hS : va_S A s.heap s.heap [] := va_S.rf
  have hl := lv_entry ([.ref v, .int 0, .int (nI n)]) (n := 5) (Nat.le_of_ble_eq_true rfl)
  rw [lg_entry_eq]
  generalize (lg_sl ([.ref v, .int 0, .int (nI n)]) ++ List.replicate (5 - (lg_sl ([.ref v, .int 0, .int (nI n)])).length) Slot.unset).toArray = ls at hl ⊢
  have hl : lv_has ls 5 [(0, .ref v), (1, .int 0), (2, .int (nI n))] := hl
  refine lv_iload_n hx hb dJ7_copyOfRangeByte_39247_0 rfl (lv_at hl 1 rfl) ?_
  refine lv_iload_n hx hb dJ7_copyOfRangeByte_39247_1 rfl (lv_at hl 2 rfl) ?_
  refine k_pS [.int 0, .int (nI n)] (rest := []) ⟨hx, hb, hml, hown, hts⟩ (c_J7_checkLength_df160 l D cB cJ _ (0 : Int32) (nI n) (nI_pos' (by omega))) (va_cwS 2 hts gJ7_copyOfRangeByte_39247_J7_checkLength_df160 rfl rfl rfl (by decide +kernel) ⟨(Nat.le_of_ble_eq_true rfl), (Nat.le_of_ble_eq_true rfl)⟩) hE hS rfl rfl hl.1 (Nat.le_of_ble_eq_true rfl) dJ7_copyOfRangeByte_39247_2 ⟨(Nat.le_of_ble_eq_true rfl), (Nat.le_of_ble_eq_true rfl)⟩ (fun locs hS => ?_)
  refine W.eq (g2 := F0 m 5 ls []) rfl ?_
  refine lv_iload_n hx hb dJ7_copyOfRangeByte_39247_5 rfl (lv_at hl 2 rfl) ?_
  refine lv_iload_n hx hb dJ7_copyOfRangeByte_39247_6 rfl (lv_at hl 1 rfl) ?_
  refine lv_isub hx hb dJ7_copyOfRangeByte_39247_7 ?_
  rw [Int32.sub_zero]
  refine lv_istore_n (lv' := [(3, .int (nI n)), (0, .ref v), (1, .int 0), (2, .int (nI n))]) hx hb dJ7_copyOfRangeByte_39247_8 rfl hl (by decide) rfl (fun ls hl => ?_)
  refine lv_iload_n hx hb dJ7_copyOfRangeByte_39247_9 rfl (lv_at hl 0 rfl) ?_
  refine k_newB hx hb (hts (.arrayClass .byte) (by decide +kernel)) hK hP hD hS hA (n) (nI_pos (by omega)) (nI_clamp (by omega)) (by omega) (Nat.le_of_ble_eq_true rfl) (by show 0 + n ≤ 130; omega) dJ7_copyOfRangeByte_39247_10 (fun q_1 H hP hD hS => ?_)
  have hP : va_P D vwCl [(v, .inl (cB, cp, .inl ar)), (q_1, .inl (cB, n, .inl (fun _ => 0)))] H := hP
  have hD : va_D A [(v, .inl (cB, cp, .inl ar)), (q_1, .inl (cB, n, .inl (fun _ => 0)))] := hD
  refine lv_astore (lv' := [(4, .ref q_1), (3, .int (nI n)), (0, .ref v), (1, .int 0), (2, .int (nI n))]) hx hb dJ7_copyOfRangeByte_39247_12 hl (by decide) rfl (fun ls hl => ?_)
  refine lv_aload_n hx hb dJ7_copyOfRangeByte_39247_14 rfl (lv_at hl 2 rfl) ?_
  refine lv_iload_n hx hb dJ7_copyOfRangeByte_39247_15 rfl (lv_at hl 3 rfl) ?_
  refine lv_aload hx hb dJ7_copyOfRangeByte_39247_16 (lv_at hl 0 rfl) ?_
  refine lv_iconst (v := 0) hx hb dJ7_copyOfRangeByte_39247_18 (by decide) ?_
  refine lv_aload_n hx hb dJ7_copyOfRangeByte_39247_19 rfl (lv_at hl 2 rfl) ?_
  refine va_alen hx hb hK hP 0 0 rfl rfl (v := (nI cp)) rfl dJ7_copyOfRangeByte_39247_20 ?_
  refine lv_iload_n hx hb dJ7_copyOfRangeByte_39247_21 rfl (lv_at hl 3 rfl) ?_
  refine lv_isub hx hb dJ7_copyOfRangeByte_39247_22 ?_
  rw [Int32.sub_zero]
  refine lv_iload_n hx hb dJ7_copyOfRangeByte_39247_23 rfl (lv_at hl 1 rfl) ?_
  refine va_mmin hx hb (hml.trans hl.1.symm) hown (hts (.methodLink RJ7 304 Lib.Math.min.name) (by decide +kernel)) (hts (.static Lib.Math.min.name) (by decide +kernel)) (hts (.initialized "java/lang/Math") (by decide +kernel)) (hts (.code Lib.Math.min.name Lib.Math.min.code 2 (some .int)) (by decide +kernel)) (Nat.le_of_ble_eq_true rfl) (Nat.le_of_ble_eq_true rfl) (Nat.le_of_ble_eq_true rfl) (by show 0 + n ≤ 130; omega) dJ7_copyOfRangeByte_39247_24 ?_
  refine lv_topi (fun z_2 ez_2 => ?_)
  rw [show (if nI n < nI cp then nI n else nI cp) = nI n from by (rcases Nat.lt_or_ge n cp with q | q; exact if_pos (nI_lt q (by omega)); exact (if_neg (nI_nlt q (by omega))).trans (congrArg nI (by omega)))] at ez_2
  have hz : z_2.toNatClampNeg = n := by rw [ez_2]; exact nI_clamp (by omega)
  refine va_copyi hx hb (hml.trans hl.1.symm) hown (hts (.methodLink RJ7 150 arraycopyName) (by decide +kernel)) (hts (.native arraycopyName) (by decide +kernel)) (hts (.static arraycopyName) (by decide +kernel)) (hts (.initialized "java/lang/System") (by decide +kernel)) hK hP hD hS 0 1 0 0 rfl rfl rfl rfl rfl (by decide) (by decide) (by rw [ez_2]; exact nI_pos (by omega)) (by rw [hz]; show 0 + n ≤ cp; omega) (by rw [hz]; show 0 + n ≤ n; omega) (fun i _ => hf _) (Nat.le_of_ble_eq_true rfl) (Nat.le_of_ble_eq_true rfl) dJ7_copyOfRangeByte_39247_27 (fun H locs hP hD hS => ?_)
  have hP : va_P D vwCl [(v, .inl (cB, cp, .inl ar)), (q_1, .inl (cB, n, .inl (va_cpy ar (fun _ => 0) (0 : Int32).toNatClampNeg (0 : Int32).toNatClampNeg z_2.toNatClampNeg)))] H := hP
  have hD : va_D A [(v, .inl (cB, cp, .inl ar)), (q_1, .inl (cB, n, .inl (va_cpy ar (fun _ => 0) (0 : Int32).toNatClampNeg (0 : Int32).toNatClampNeg z_2.toNatClampNeg)))] := hD
  refine lv_aload hx hb dJ7_copyOfRangeByte_39247_30 (lv_at hl 0 rfl) ?_
  refine W.widen (k := 1) (n := 130) (Nat.le_of_ble_eq_true rfl) (by omega) ?_
  exact k_aret hx hb hr (Or.inr ⟨_, rfl⟩) hlocks hS dJ7_copyOfRangeByte_39247_32 ⟨_, _, rfl, hP.sub [0, 1] rfl, hD.sub [0, 1] (by decide) rfl, (sb_fitC hf sb_fit0), fun i hi => by rw [hz]; exact q_cpy0 hi⟩
set_option maxHeartbeats 4000000 in
set_option maxRecDepth 100000 in
theorem cv_J7_copyOfRange_39247 (l : Launch) (D : va_G) (cB cJ : ClassId) (Hp : Heap) (v cp n : Nat) (ar : Nat → Int32) (hP : va_P D vwCl [(v, .inl (cB, cp, .inl ar))] Hp) (hD9 : va_D (fun _ => True) [(v, .inl (cB, cp, .inl ar))]) (hf : sb_Fit ar) (hn : n ≤ cp) (hc : cp ≤ 130) : kM l D cB cJ yJ7_copyOfRange_39247 wsJ7_copyOfRange_39247 ({ frames := 2, cells := 1, slots := 130, locals := 104 }) (va_A [(v, .inl (cB, cp, .inl ar))] Hp.size) Hp [.ref v, .int 0, .int (nI n)] (kRow2V D cB (va_A [(v, .inl (cB, cp, .inl ar))] Hp.size) v cp n ar) 1 130 := by
  refine Met.ofW (cc := cJ7_copyOfRange_39247) (maxL := 3) (ret := (some (.array .byte))) (by decide) rfl ?_
  intro p e s m args below meth c s₁ B hml hv
  obtain ⟨rfl, hHp, hE⟩ := hv
  subst hHp
  have hx := B.exec
  have hb := B.bytes
  have hr := B.returns
  have hts := atoms_spec (ws := wsJ7_copyOfRange_39247) B.pre
  have hown : s.vm.findClass RJ7 = some m.cls := findClass_of_methodNamed B.named
  have hlocks := B.notSynchronized
  have hK := hE.1
  have hD := hD9.self (sz := s.heap.size)
  generalize hAe : va_A [(v, .inl (cB, cp, .inl ar))] s.heap.size = A at hE hD ⊢
  have hA : ∀ q : Nat, s.heap.size ≤ q → A q := fun q h => by rw [← hAe]; exact Or.inr h
  have hS : va_S A s.heap s.heap [] := va_S.rf
  have hl := lv_entry ([.ref v, .int 0, .int (nI n)]) (n := 3) (Nat.le_of_ble_eq_true rfl)
  rw [lg_entry_eq]
  generalize (lg_sl ([.ref v, .int 0, .int (nI n)]) ++ List.replicate (3 - (lg_sl ([.ref v, .int 0, .int (nI n)])).length) Slot.unset).toArray = ls at hl ⊢
  have hl : lv_has ls 3 [(0, .ref v), (1, .int 0), (2, .int (nI n))] := hl
  refine lv_iload_n hx hb dJ7_copyOfRange_39247_0 rfl (lv_at hl 1 rfl) ?_
  refine lv_if_ne (tgt := 10) hx hb dJ7_copyOfRange_39247_1 (by decide) (fun c_1 => ?_) (fun c_1 => ?_)
  · exact absurd (by decide) c_1
  · refine lv_iload_n hx hb dJ7_copyOfRange_39247_4 rfl (lv_at hl 2 rfl) ?_
    refine lv_aload_n hx hb dJ7_copyOfRange_39247_5 rfl (lv_at hl 0 rfl) ?_
    refine va_alen hx hb hK hP 0 0 rfl rfl (v := (nI cp)) rfl dJ7_copyOfRange_39247_6 ?_
    refine lv_icmp_eq (tgt := 17) hx hb dJ7_copyOfRange_39247_7 (by decide) (fun c_2 => ?_) (fun c_2 => ?_)
    · refine lv_aload_n hx hb dJ7_copyOfRange_39247_17 rfl (lv_at hl 0 rfl) ?_
      have hcB : s.vm.findClass "[B" = some cB := (hK.2 0 _ rfl).2
      refine va_clone hx hb (hml.trans hl.1.symm) hown (hts (.methodLink RJ7 310 ⟨"[B", "clone", "()Ljava/lang/Object;"⟩) (by decide +kernel)) (hts (.sameMethod "[B" "java/lang/Object" "clone" "()Ljava/lang/Object;") (by decide +kernel)) (hts (.native ⟨"java/lang/Object", "clone", "()Ljava/lang/Object;"⟩) (by decide +kernel)) (hts (.instanceMethod ⟨"java/lang/Object", "clone", "()Ljava/lang/Object;"⟩) (by decide +kernel)) (hts (.selects "[B" ⟨"[B", "clone", "()Ljava/lang/Object;"⟩ ⟨"java/lang/Object", "clone", "()Ljava/lang/Object;"⟩) (by decide +kernel)) hE.2.2.2.1.2.2.2.2.2 hK hP hD hS hA 0 0 rfl rfl hcB (k_fitR hf) (Nat.le_of_ble_eq_true rfl) (Nat.le_of_ble_eq_true rfl) (Nat.le_of_ble_eq_true rfl) (by show 0 + cp ≤ 130; omega) dJ7_copyOfRange_39247_18 (fun u H hK2 hP hD hS => ?_)
      have hP : va_P D vwCl [(v, .inl (cB, cp, .inl ar)), (u, .inl (cB, cp, .inl ar))] H := hP
      have hD : va_D A [(v, .inl (cB, cp, .inl ar)), (u, .inl (cB, cp, .inl ar))] := hD
      refine va_castA hx hb hown (hts (.classLink RJ7 311 "[B") (by decide +kernel)) hP 1 rfl hcB dJ7_copyOfRange_39247_21 ?_
      obtain rfl : cp = n := ((nI_eq (by omega) (by omega)).mp c_2).symm
      refine W.widen (k := 1) (n := 130) (Nat.le_of_ble_eq_true rfl) (by show 0 + cp ≤ 130; omega) ?_
      exact k_aret hx hb hr (Or.inr ⟨_, rfl⟩) hlocks hS dJ7_copyOfRange_39247_24 ⟨_, _, rfl, hP.sub [0, 1] rfl, hD.sub [0, 1] (by decide) rfl, hf, fun _ _ => rfl⟩
    · refine lv_aload_n hx hb dJ7_copyOfRange_39247_10 rfl (lv_at hl 0 rfl) ?_
      refine lv_iload_n hx hb dJ7_copyOfRange_39247_11 rfl (lv_at hl 1 rfl) ?_
      refine lv_iload_n hx hb dJ7_copyOfRange_39247_12 rfl (lv_at hl 2 rfl) ?_
      have hFc := va_free (wc := [(v, .inl (cB, cp, .inl ar))]) hD hS hA [0] rfl
      refine k_go (va_runS (As := [.ref v, .int 0, .int (nI n)]) (rest := []) ⟨hx, hb, hml, hown, hts⟩ (cv_J7_copyOfRangeByte_39247 l D cB cJ _ v cp n ar (hP.sub [0] rfl) ((hD.sub [0] (by decide) rfl).weaken (fun _ _ _ _ => trivial)) hf hn hc) (va_cwS 3 hts gJ7_copyOfRange_39247_J7_copyOfRangeByte_39247 rfl rfl rfl (by decide +kernel) ⟨(Nat.le_of_ble_eq_true rfl), (Nat.le_of_ble_eq_true rfl)⟩) (k_preS hE hS hFc) rfl rfl hl.1 rfl (lv_room (Nat.le_of_ble_eq_true rfl)) dJ7_copyOfRange_39247_13 ⟨(Nat.le_of_ble_eq_true rfl), (Nat.le_of_ble_eq_true rfl)⟩) hS (fun q _ h => hFc q h) hFc (fun v9 H locs hp hz hk hS => ?_)
      obtain ⟨u, fu, rfl, hP1, hD1, hfu, hLu⟩ := hp
      obtain ⟨hP, hD⟩ := va_join (wr := []) (wc := [(v, .inl (cB, cp, .inl ar))]) (w1 := [(v, .inl (cB, cp, .inl ar)), (u, .inl (cB, n, .inl fu))]) hP hD [0] [] rfl rfl (by decide) (by decide) hk hFc hP1 hD1
      have hP : va_P D vwCl [(v, .inl (cB, cp, .inl ar)), (u, .inl (cB, n, .inl fu))] H := hP
      have hD : va_D A [(v, .inl (cB, cp, .inl ar)), (u, .inl (cB, n, .inl fu))] := hD
      refine W.eq (g2 := F0 m 16 ls [.ref u]) rfl ?_
      refine W.widen (k := 1) (n := 130) (Nat.le_of_ble_eq_true rfl) (Nat.le_of_ble_eq_true rfl) ?_
      exact k_aret hx hb hr (Or.inr ⟨_, rfl⟩) hlocks hS dJ7_copyOfRange_39247_16 ⟨_, _, rfl, hP.sub [0, 1] rfl, hD.sub [0, 1] (by decide) rfl, hfu, hLu⟩
set_option maxHeartbeats 4000000 in
set_option maxRecDepth 100000 in
theorem cv_J0_init_db425 (l : Launch) (D : va_G) (cB cJ : ClassId) (Hp : Heap) (q b v nn cp : Nat) (ar : Nat → Int32) (hP : va_P D vwCl ([(q, .inr (0, [.null, .int 0, .int 0, .int 0])), (b, .inr (1, [.ref v, .int 0, .int 0, .int (nI nn)])), (v, .inl (cB, cp, .inl ar))]) Hp) (hD9 : va_D (fun _ => True) ([(q, .inr (0, [.null, .int 0, .int 0, .int 0])), (b, .inr (1, [.ref v, .int 0, .int 0, .int (nI nn)])), (v, .inl (cB, cp, .inl ar))])) (hf : sb_Fit ar) (hnm : nn ≤ cp) (hm : cp ≤ 130) : kM l D cB cJ yJ0_init_db425 wsJ0_init_db425 ({ frames := 3, cells := 1, slots := 130, locals := 126 }) (va_A ([(q, .inr (0, [.null, .int 0, .int 0, .int 0])), (b, .inr (1, [.ref v, .int 0, .int 0, .int (nI nn)])), (v, .inl (cB, cp, .inl ar))]) Hp.size) Hp [.ref q, .ref b, .null] (kSIV D cB (va_A ([(q, .inr (0, [.null, .int 0, .int 0, .int 0])), (b, .inr (1, [.ref v, .int 0, .int 0, .int (nI nn)])), (v, .inl (cB, cp, .inl ar))]) Hp.size) q nn ar) 1 130 := by
  refine Met.ofW (cc := cJ0_init_db425) (maxL := 5) (ret := none) (by decide) rfl ?_
  intro p e s m args below meth c s₁ B hml hv
  obtain ⟨rfl, hHp, hE⟩ := hv
  subst hHp
  have hx := B.exec
  have hb := B.bytes
  have hr := B.returns
  have hts := atoms_spec (ws := wsJ0_init_db425) B.pre
  have hown : s.vm.findClass RJ0 = some m.cls := findClass_of_methodNamed B.named
  have hlocks := B.notSynchronized
  have hin : meth.name = "<init>" := (name_of_methodNamed B.named B.method).1
  have hK := hE.1
  have hD := hD9.self (sz := s.heap.size)
  generalize hAe : va_A ([(q, .inr (0, [.null, .int 0, .int 0, .int 0])), (b, .inr (1, [.ref v, .int 0, .int 0, .int (nI nn)])), (v, .inl (cB, cp, .inl ar))]) s.heap.size = A at hE hD ⊢
  have hA : ∀ q : Nat, s.heap.size ≤ q → A q := fun q h => by rw [← hAe]; exact Or.inr h
  have hS : va_S A s.heap s.heap [] := va_S.rf
  have hl := lv_entry ([.ref q, .ref b, .null]) (n := 5) (Nat.le_of_ble_eq_true rfl)
  rw [lg_entry_eq]
  generalize (lg_sl ([.ref q, .ref b, .null]) ++ List.replicate (5 - (lg_sl ([.ref q, .ref b, .null])).length) Slot.unset).toArray = ls at hl ⊢
  have hl : lv_has ls 5 [(0, .ref q), (1, .ref b), (2, .null)] := hl
  have hZ1 := hE.2.1.1
  refine lv_aload_n hx hb dJ0_init_db425_0 rfl (lv_at hl 0 rfl) ?_
  refine W.objInit hx hb hown (hts (.methodLink RJ0 1 objectInit) (by decide +kernel)) (hts (.instanceMethod objectInit) (by decide +kernel)) (hts (.code objectInit ⟨#[0xb1]⟩ 1 none) (by decide +kernel)) rfl (by rw [hml]; exact hl.1) rfl dJ0_init_db425_1 (Nat.le_of_ble_eq_true rfl) (Nat.le_of_ble_eq_true rfl) ?_
  refine W.eq (g2 := F0 m 4 ls []) rfl ?_
  refine lv_aload_n hx hb dJ0_init_db425_4 rfl (lv_at hl 1 rfl) ?_
  refine k_pU [] (rest := []) ⟨hx, hb, hml, hown, hts⟩ (c_J5_getValue_6d5f1 l D cB cJ _ b v nn cp ar (hP.sub [1, 2] rfl)) (va_cwU 0 hts gJ0_init_db425_J5_getValue_6d5f1_u552J4 rfl rfl rfl rfl (by decide +kernel) ⟨(Nat.le_of_ble_eq_true rfl), (Nat.le_of_ble_eq_true rfl)⟩) (va_recv hK hP (ci := 1) (q0 := 1) rfl rfl) hE hS rfl rfl hl.1 (Nat.le_of_ble_eq_true rfl) dJ0_init_db425_5 ⟨(Nat.le_of_ble_eq_true rfl), (Nat.le_of_ble_eq_true rfl)⟩ (fun locs hS => ?_)
  refine W.eq (g2 := F0 m 8 ls [.ref v]) rfl ?_
  refine lv_astore_n (lv' := [(3, .ref v), (0, .ref q), (1, .ref b), (2, .null)]) hx hb dJ0_init_db425_8 rfl hl (by decide) rfl (fun ls hl => ?_)
  refine lv_aload_n hx hb dJ0_init_db425_9 rfl (lv_at hl 2 rfl) ?_
  refine k_pU [] (rest := []) ⟨hx, hb, hml, hown, hts⟩ (c_J4_length_8abf5 l D cB cJ _ b v nn cp ar (hP.sub [1, 2] rfl)) (va_cwO 0 hts gJ0_init_db425_J4_length_8abf5_u549J4 rfl rfl rfl (show Cond.code yJ5_length_8abf5 cJ5_length_8abf5 1 (some .int) ∈ wsJ0_init_db425 from by decide +kernel) (by decide +kernel) ⟨(Nat.le_of_ble_eq_true rfl), (Nat.le_of_ble_eq_true rfl)⟩) (va_recv hK hP (ci := 1) (q0 := 1) rfl rfl) hE hS rfl rfl hl.1 (Nat.le_of_ble_eq_true rfl) dJ0_init_db425_10 ⟨(Nat.le_of_ble_eq_true rfl), (Nat.le_of_ble_eq_true rfl)⟩ (fun locs hS => ?_)
  refine W.eq (g2 := F0 m 13 ls [.int (j_J4_length_8abf5 nn cp ar)]) rfl ?_
  refine W.eq (g2 := F0 m 13 ls [.int (nI nn)]) rfl ?_
  refine lv_istore (lv' := [(4, .int (nI nn)), (3, .ref v), (0, .ref q), (1, .ref b), (2, .null)]) hx hb dJ0_init_db425_13 hl (by decide) rfl (fun ls hl => ?_)
  refine lv_aload_n hx hb dJ0_init_db425_15 rfl (lv_at hl 3 rfl) ?_
  refine k_pU [] (rest := []) ⟨hx, hb, hml, hown, hts⟩ (c_J5_isLatin1_aae02 l D cB cJ _ b v nn cp ar (hP.sub [1, 2] rfl)) (va_cwU 0 hts gJ0_init_db425_J5_isLatin1_aae02_u1047J4 rfl rfl rfl rfl (by decide +kernel) ⟨(Nat.le_of_ble_eq_true rfl), (Nat.le_of_ble_eq_true rfl)⟩) (va_recv hK hP (ci := 1) (q0 := 1) rfl rfl) hE hS rfl rfl hl.1 (Nat.le_of_ble_eq_true rfl) dJ0_init_db425_16 ⟨(Nat.le_of_ble_eq_true rfl), (Nat.le_of_ble_eq_true rfl)⟩ (fun locs hS => ?_)
  refine W.eq (g2 := F0 m 19 ls [.int (j_J5_isLatin1_aae02 nn cp ar)]) rfl ?_
  refine lv_if_eq (tgt := 41) hx hb dJ0_init_db425_19 (by decide) (fun c_1 => ?_) (fun c_1 => ?_)
  · exact absurd c_1 (show ¬ (1 : Int32) = 0 by decide)
  · refine lv_aload_n hx hb dJ0_init_db425_22 rfl (lv_at hl 2 rfl) ?_
    refine lv_iconst (v := 0) hx hb dJ0_init_db425_23 (by decide) ?_
    refine va_putF (D := D) (ci := 0) (v := .int 0) (ty := .byte) (C := RJ0) (T := TJ0) (N := 4) hx hb hts iw_J0_init_db425_J0 tyJ0 tyJ0_ok nmJ0 hown hK hP hD hS 0 rfl rfl 1 (by decide) (hts (.fieldLink RJ0 15 "java/lang/String" "coder" "B") (by decide +kernel)) (fun _ h9 => h9) rfl hin rfl (by decide +kernel) (by decide +kernel) (by decide +kernel) (Nat.le_of_ble_eq_true rfl) dJ0_init_db425_24 (fun H locs hP hD hS => ?_)
    have hP : va_P D vwCl [(q, .inr (0, [.null, .int 0, .int 0, .int 0])), (b, .inr (1, [.ref v, .int 0, .int 0, .int (nI nn)])), (v, .inl (cB, cp, .inl ar))] H := hP
    have hD : va_D A [(q, .inr (0, [.null, .int 0, .int 0, .int 0])), (b, .inr (1, [.ref v, .int 0, .int 0, .int (nI nn)])), (v, .inl (cB, cp, .inl ar))] := hD
    refine lv_aload_n hx hb dJ0_init_db425_27 rfl (lv_at hl 2 rfl) ?_
    refine lv_aload_n hx hb dJ0_init_db425_28 rfl (lv_at hl 1 rfl) ?_
    refine lv_iconst (v := 0) hx hb dJ0_init_db425_29 (by decide) ?_
    refine lv_iload hx hb dJ0_init_db425_30 (lv_at hl 0 rfl) ?_
    have hFc := va_free (wc := [(v, .inl (cB, cp, .inl ar))]) hD hS hA [2] rfl
    refine k_go (va_runS (As := [.ref v, .int 0, .int (nI nn)]) (rest := [.ref q]) ⟨hx, hb, hml, hown, hts⟩ (cv_J7_copyOfRange_39247 l D cB cJ _ v cp nn ar (hP.sub [2] rfl) ((hD.sub [2] (by decide) rfl).weaken (fun _ _ _ _ => trivial)) hf hnm hm) (va_cwS 3 hts gJ0_init_db425_J7_copyOfRange_39247 rfl rfl rfl (by decide +kernel) ⟨(Nat.le_of_ble_eq_true rfl), (Nat.le_of_ble_eq_true rfl)⟩) (k_preS hE hS hFc) rfl rfl hl.1 rfl (lv_room (Nat.le_of_ble_eq_true rfl)) dJ0_init_db425_32 ⟨(Nat.le_of_ble_eq_true rfl), (Nat.le_of_ble_eq_true rfl)⟩) hS (fun q _ h => hFc q h) hFc (fun v9 H locs hp hz hk hS => ?_)
    obtain ⟨u, fu, rfl, hP1, hD1, hfu, hLu⟩ := hp
    obtain ⟨hP, hD⟩ := va_join (wr := [(q, .inr (0, [.null, .int 0, .int 0, .int 0])), (b, .inr (1, [.ref v, .int 0, .int 0, .int (nI nn)]))]) (wc := [(v, .inl (cB, cp, .inl ar))]) (w1 := [(v, .inl (cB, cp, .inl ar)), (u, .inl (cB, nn, .inl fu))]) hP hD [2] [0, 1] rfl rfl (by decide) (by decide) hk hFc hP1 hD1
    have hP : va_P D vwCl [(q, .inr (0, [.null, .int 0, .int 0, .int 0])), (b, .inr (1, [.ref v, .int 0, .int 0, .int (nI nn)])), (v, .inl (cB, cp, .inl ar)), (u, .inl (cB, nn, .inl fu))] H := hP
    have hD : va_D A [(q, .inr (0, [.null, .int 0, .int 0, .int 0])), (b, .inr (1, [.ref v, .int 0, .int 0, .int (nI nn)])), (v, .inl (cB, cp, .inl ar)), (u, .inl (cB, nn, .inl fu))] := hD
    refine W.eq (g2 := F0 m 35 ls [.ref u, .ref q]) rfl ?_
    refine va_putF (D := D) (ci := 0) (v := .ref u) (ty := (.array .byte)) (C := RJ0) (T := TJ0) (N := 4) hx hb hts iw_J0_init_db425_J0 tyJ0 tyJ0_ok nmJ0 hown hK hP hD hS 0 rfl rfl 0 (by decide) (hts (.fieldLink RJ0 9 "java/lang/String" "value" "[B") (by decide +kernel)) (fun _ h9 => h9) rfl hin rfl (by decide +kernel) rfl rfl (Nat.le_of_ble_eq_true rfl) dJ0_init_db425_35 (fun H locs hP hD hS => ?_)
    have hP : va_P D vwCl [(q, .inr (0, [.ref u, .int 0, .int 0, .int 0])), (b, .inr (1, [.ref v, .int 0, .int 0, .int (nI nn)])), (v, .inl (cB, cp, .inl ar)), (u, .inl (cB, nn, .inl fu))] H := hP
    have hD : va_D A [(q, .inr (0, [.ref u, .int 0, .int 0, .int 0])), (b, .inr (1, [.ref v, .int 0, .int 0, .int (nI nn)])), (v, .inl (cB, cp, .inl ar)), (u, .inl (cB, nn, .inl fu))] := hD
    refine lv_goto (tgt := 97) hx hb dJ0_init_db425_38 (by decide) ?_
    exact k_vret hx hb hr hlocks hS dJ0_init_db425_97 ⟨rfl, _, _, hP.sub [0, 3] rfl, hD.sub [0, 3] (by decide) rfl, hfu, hLu⟩
set_option maxHeartbeats 4000000 in
set_option maxRecDepth 100000 in
theorem cv_J0_init_81219 (l : Launch) (D : va_G) (cB cJ : ClassId) (Hp : Heap) (q b v nn cp : Nat) (ar : Nat → Int32) (hP : va_P D vwCl ([(q, .inr (0, [.null, .int 0, .int 0, .int 0])), (b, .inr (1, [.ref v, .int 0, .int 0, .int (nI nn)])), (v, .inl (cB, cp, .inl ar))]) Hp) (hD9 : va_D (fun _ => True) ([(q, .inr (0, [.null, .int 0, .int 0, .int 0])), (b, .inr (1, [.ref v, .int 0, .int 0, .int (nI nn)])), (v, .inl (cB, cp, .inl ar))])) (hf : sb_Fit ar) (hnm : nn ≤ cp) (hm : cp ≤ 130) : kM l D cB cJ yJ0_init_81219 wsJ0_init_81219 ({ frames := 4, cells := 1, slots := 130, locals := 150 }) (va_A ([(q, .inr (0, [.null, .int 0, .int 0, .int 0])), (b, .inr (1, [.ref v, .int 0, .int 0, .int (nI nn)])), (v, .inl (cB, cp, .inl ar))]) Hp.size) Hp [.ref q, .ref b] (kSIV D cB (va_A ([(q, .inr (0, [.null, .int 0, .int 0, .int 0])), (b, .inr (1, [.ref v, .int 0, .int 0, .int (nI nn)])), (v, .inl (cB, cp, .inl ar))]) Hp.size) q nn ar) 1 130 := by
  refine Met.ofW (cc := cJ0_init_81219) (maxL := 2) (ret := none) (by decide) rfl ?_
  intro p e s m args below meth c s₁ B hml hv
  obtain ⟨rfl, hHp, hE⟩ := hv
  subst hHp
  have hx := B.exec
  have hb := B.bytes
  have hr := B.returns
  have hts := atoms_spec (ws := wsJ0_init_81219) B.pre
  have hown : s.vm.findClass RJ0 = some m.cls := findClass_of_methodNamed B.named
  have hlocks := B.notSynchronized
  have hin : meth.name = "<init>" := (name_of_methodNamed B.named B.method).1
  have hK := hE.1
  have hD := hD9.self (sz := s.heap.size)
  generalize hAe : va_A ([(q, .inr (0, [.null, .int 0, .int 0, .int 0])), (b, .inr (1, [.ref v, .int 0, .int 0, .int (nI nn)])), (v, .inl (cB, cp, .inl ar))]) s.heap.size = A at hE hD ⊢
  have hA : ∀ q : Nat, s.heap.size ≤ q → A q := fun q h => by rw [← hAe]; exact Or.inr h
  have hS : va_S A s.heap s.heap [] := va_S.rf
  have hl := lv_entry ([.ref q, .ref b]) (n := 2) (Nat.le_of_ble_eq_true rfl)
  rw [lg_entry_eq]
  generalize (lg_sl ([.ref q, .ref b]) ++ List.replicate (2 - (lg_sl ([.ref q, .ref b])).length) Slot.unset).toArray = ls at hl ⊢
  have hl : lv_has ls 2 [(0, .ref q), (1, .ref b)] := hl
  refine lv_aload_n hx hb dJ0_init_81219_0 rfl (lv_at hl 0 rfl) ?_
  refine lv_aload_n hx hb dJ0_init_81219_1 rfl (lv_at hl 1 rfl) ?_
  refine lv_null hx hb dJ0_init_81219_2 ?_
  have hFc := va_free (wc := [(q, .inr (0, [.null, .int 0, .int 0, .int 0])), (b, .inr (1, [.ref v, .int 0, .int 0, .int (nI nn)])), (v, .inl (cB, cp, .inl ar))]) hD hS hA [0, 1, 2] rfl
  refine k_go (va_runI (As := [.ref b, .null]) (rest := []) ⟨hx, hb, hml, hown, hts⟩ (cv_J0_init_db425 l D cB cJ _ q b v nn cp ar (hP.sub [0, 1, 2] rfl) ((hD.sub [0, 1, 2] (by decide) rfl).weaken (fun _ _ _ _ => trivial)) hf hnm hm) (cwI 2 hts gJ0_init_81219_J0_init_db425 rfl rfl rfl (hts (.initialized RJ0) (by decide +kernel)) (hts (.methodLink RJ0 489 yJ0_init_db425) (by decide +kernel)) (hts (.instanceMethod yJ0_init_db425) (by decide +kernel)) rfl (by decide +kernel) ⟨(Nat.le_of_ble_eq_true rfl), (Nat.le_of_ble_eq_true rfl)⟩) (k_preS hE hS hFc) rfl rfl hl.1 rfl (lv_room (Nat.le_of_ble_eq_true rfl)) dJ0_init_81219_3 ⟨(Nat.le_of_ble_eq_true rfl), (Nat.le_of_ble_eq_true rfl)⟩) hS (fun q _ h => hFc q h) hFc (fun v9 H locs hp hz hk hS => ?_)
  obtain ⟨rfl, u_1, f_1, hP1, hD1, hf_1, hL_1⟩ := hp
  obtain ⟨hP, hD⟩ := va_join (wr := []) (wc := [(q, .inr (0, [.null, .int 0, .int 0, .int 0])), (b, .inr (1, [.ref v, .int 0, .int 0, .int (nI nn)])), (v, .inl (cB, cp, .inl ar))]) (w1 := [(q, .inr (0, [.ref u_1, .int 0, .int 0, .int 0])), (u_1, .inl (cB, nn, .inl f_1))]) hP hD [0, 1, 2] [] rfl rfl (by decide) (by decide) hk hFc hP1 hD1
  have hP : va_P D vwCl [(q, .inr (0, [.ref u_1, .int 0, .int 0, .int 0])), (u_1, .inl (cB, nn, .inl f_1))] H := hP
  have hD : va_D A [(q, .inr (0, [.ref u_1, .int 0, .int 0, .int 0])), (u_1, .inl (cB, nn, .inl f_1))] := hD
  refine W.eq (g2 := F0 m 6 ls []) rfl ?_
  exact k_vret hx hb hr hlocks hS dJ0_init_81219_6 ⟨rfl, _, _, hP.sub [0, 1] rfl, hD.sub [0, 1] (by decide) rfl, hf_1, hL_1⟩
set_option maxHeartbeats 4000000 in
set_option maxRecDepth 100000 in
theorem cv_J4_toString_0e30d (l : Launch) (D : va_G) (cB cJ : ClassId) (Hp : Heap) (b v nn cp : Nat) (ar : Nat → Int32) (hP : va_P D vwCl (wSB b v cB nn cp ar) Hp) (hD9 : va_D (fun _ => True) (wSB b v cB nn cp ar)) (hf : sb_Fit ar) (hnm : nn ≤ cp) (hm : cp ≤ 130) : kM l D cB cJ yJ4_toString_0e30d wsJ4_toString_0e30d ({ frames := 5, cells := 2, slots := 134, locals := 171 }) (va_A (wSB b v cB nn cp ar) Hp.size) Hp [.ref b] (kSTV D cB (va_A (wSB b v cB nn cp ar) Hp.size) nn ar) 2 134 := by
  refine Met.ofW (cc := cJ4_toString_0e30d) (maxL := 1) (ret := (some (.object "java/lang/String"))) (by decide) rfl ?_
  intro p e s m args below meth c s₁ B hml hv
  obtain ⟨rfl, hHp, hE⟩ := hv
  subst hHp
  have hx := B.exec
  have hb := B.bytes
  have hr := B.returns
  have hts := atoms_spec (ws := wsJ4_toString_0e30d) B.pre
  have hown : s.vm.findClass RJ4 = some m.cls := findClass_of_methodNamed B.named
  have hlocks := B.notSynchronized
  have hK := hE.1
  have hD := hD9.self (sz := s.heap.size)
  generalize hAe : va_A (wSB b v cB nn cp ar) s.heap.size = A at hE hD ⊢
  have hA : ∀ q : Nat, s.heap.size ≤ q → A q := fun q h => by rw [← hAe]; exact Or.inr h
  have hS : va_S A s.heap s.heap [] := va_S.rf
  have hl := lv_entry ([.ref b]) (n := 1) (Nat.le_of_ble_eq_true rfl)
  rw [lg_entry_eq]
  generalize (lg_sl ([.ref b]) ++ List.replicate (1 - (lg_sl ([.ref b])).length) Slot.unset).toArray = ls at hl ⊢
  have hl : lv_has ls 1 [(0, .ref b)] := hl
  refine va_new (ci := 0) (fs := [.null, .int 0, .int 0, .int 0]) (C := RJ0) (T := TJ0) (N := 4) hx hb hts iw_J4_toString_0e30d_J0 tyJ0 tyJ0_ok hown (hts (.classLink RJ4 18 RJ0) (by decide +kernel)) (hts (.instantiable RJ0 4) (by decide +kernel)) (hts (.initialized RJ0) (by decide +kernel)) hK hP hD hS hA rfl (fun j hj => by rcases (show j = 0 ∨ j = 1 ∨ j = 2 ∨ j = 3 by omega) with rfl | rfl | rfl | rfl <;> rfl) (Nat.le_of_ble_eq_true rfl) (Nat.le_of_ble_eq_true rfl) dJ4_toString_0e30d_0 (fun q_1 H hP hD hS => ?_)
  have hP : va_P D vwCl [(b, .inr (1, [.ref v, .int 0, .int 0, .int (nI nn)])), (v, .inl (cB, cp, .inl ar)), (q_1, .inr (0, [.null, .int 0, .int 0, .int 0]))] H := hP
  have hD : va_D A [(b, .inr (1, [.ref v, .int 0, .int 0, .int (nI nn)])), (v, .inl (cB, cp, .inl ar)), (q_1, .inr (0, [.null, .int 0, .int 0, .int 0]))] := hD
  refine lv_dup hx hb dJ4_toString_0e30d_3 rfl ?_
  refine lv_aload_n hx hb dJ4_toString_0e30d_4 rfl (lv_at hl 0 rfl) ?_
  have hFc := va_free (wc := [(q_1, .inr (0, [.null, .int 0, .int 0, .int 0])), (b, .inr (1, [.ref v, .int 0, .int 0, .int (nI nn)])), (v, .inl (cB, cp, .inl ar))]) hD hS hA [2, 0, 1] rfl
  refine k_go (va_runI (As := [.ref b]) (rest := [.ref q_1]) ⟨hx, hb, hml, hown, hts⟩ (cv_J0_init_81219 l D cB cJ _ q_1 b v nn cp ar (hP.sub [2, 0, 1] rfl) ((hD.sub [2, 0, 1] (by decide) rfl).weaken (fun _ _ _ _ => trivial)) hf hnm hm) (cwI 1 hts gJ4_toString_0e30d_J0_init_81219 rfl rfl rfl (hts (.initialized RJ0) (by decide +kernel)) (hts (.methodLink RJ4 137 yJ0_init_81219) (by decide +kernel)) (hts (.instanceMethod yJ0_init_81219) (by decide +kernel)) rfl (by decide +kernel) ⟨(Nat.le_of_ble_eq_true rfl), (Nat.le_of_ble_eq_true rfl)⟩) (k_preS hE hS hFc) rfl rfl hl.1 rfl (lv_room (Nat.le_of_ble_eq_true rfl)) dJ4_toString_0e30d_5 ⟨(Nat.le_of_ble_eq_true rfl), (Nat.le_of_ble_eq_true rfl)⟩) hS (fun q _ h => hFc q h) hFc (fun v9 H locs hp hz hk hS => ?_)
  obtain ⟨rfl, u_2, f_2, hP1, hD1, hf_2, hL_2⟩ := hp
  obtain ⟨hP, hD⟩ := va_join (wr := []) (wc := [(q_1, .inr (0, [.null, .int 0, .int 0, .int 0])), (b, .inr (1, [.ref v, .int 0, .int 0, .int (nI nn)])), (v, .inl (cB, cp, .inl ar))]) (w1 := [(q_1, .inr (0, [.ref u_2, .int 0, .int 0, .int 0])), (u_2, .inl (cB, nn, .inl f_2))]) hP hD [2, 0, 1] [] rfl rfl (by decide) (by decide) hk hFc hP1 hD1
  have hP : va_P D vwCl [(q_1, .inr (0, [.ref u_2, .int 0, .int 0, .int 0])), (u_2, .inl (cB, nn, .inl f_2))] H := hP
  have hD : va_D A [(q_1, .inr (0, [.ref u_2, .int 0, .int 0, .int 0])), (u_2, .inl (cB, nn, .inl f_2))] := hD
  refine W.eq (g2 := F0 m 8 ls [.ref q_1]) rfl ?_
  exact k_aret hx hb hr (Or.inl ⟨_, rfl⟩) hlocks hS dJ4_toString_0e30d_8 ⟨_, _, _, rfl, hP.sub [0, 1] rfl, hD.sub [0, 1] (by decide) rfl, hf_2, hL_2⟩
def q_chr (x : Int32) : Int32 := ((x &&& 255).toUInt32 % 65536).toInt32
def kSomeX (Hp : Heap) (x : Int32) : Option Value → Heap → Prop := fun v1 H1 => (v1 = some (.int x) ∧ narrow .char (.int x) = .int x) ∧ H1 = Hp
set_option maxHeartbeats 4000000 in
set_option maxRecDepth 100000 in
theorem cv_J1_charAt_3b067 (l : Launch) (D : va_G) (cB cJ : ClassId) (Hp : Heap) (u i nn : Nat) (f : Nat → Int32) (hP : va_P D vwCl [(u, .inl (cB, nn, .inl f))] Hp) (hi : i < nn) (hn : nn < 2 ^ 31) : kM l D cB cJ yJ1_charAt_3b067 wsJ1_charAt_3b067 ({ frames := 2, cells := 0, slots := 0, locals := 43 }) kF Hp [.ref u, .int (nI i)] (kSomeX Hp (q_chr (f i))) 0 0 := by
  refine Met.ofW (cc := cJ1_charAt_3b067) (maxL := 2) (ret := (some .char)) (by decide) rfl ?_
  intro p e s m args below meth c s₁ B hml hv
  obtain ⟨rfl, hHp, hE⟩ := hv
  subst hHp
  have hx := B.exec
  have hb := B.bytes
  have hr := B.returns
  have hts := atoms_spec (ws := wsJ1_charAt_3b067) B.pre
  have hown : s.vm.findClass RJ1 = some m.cls := findClass_of_methodNamed B.named
  have hlocks := B.notSynchronized
  have hK := hE.1
  have hS : va_S kF s.heap s.heap [] := va_S.rf
  have hl := lv_entry ([.ref u, .int (nI i)]) (n := 2) (Nat.le_of_ble_eq_true rfl)
  rw [lg_entry_eq]
  generalize (lg_sl ([.ref u, .int (nI i)]) ++ List.replicate (2 - (lg_sl ([.ref u, .int (nI i)])).length) Slot.unset).toArray = ls at hl ⊢
  have hl : lv_has ls 2 [(0, .ref u), (1, .int (nI i))] := hl
  refine lv_iload_n hx hb dJ1_charAt_3b067_0 rfl (lv_at hl 1 rfl) ?_
  refine lv_aload_n hx hb dJ1_charAt_3b067_1 rfl (lv_at hl 0 rfl) ?_
  refine va_alen hx hb hK hP 0 0 rfl rfl (v := (nI nn)) rfl dJ1_charAt_3b067_2 ?_
  refine k_pS [.int (nI i), .int (nI nn)] (rest := []) ⟨hx, hb, hml, hown, hts⟩ (c_J0_checkIndex_df160 l D cB cJ _ i nn hi hn) (va_cwS 2 hts gJ1_charAt_3b067_J0_checkIndex_df160 rfl rfl rfl (by decide +kernel) ⟨(Nat.le_of_ble_eq_true rfl), (Nat.le_of_ble_eq_true rfl)⟩) hE hS rfl rfl hl.1 (Nat.le_of_ble_eq_true rfl) dJ1_charAt_3b067_3 ⟨(Nat.le_of_ble_eq_true rfl), (Nat.le_of_ble_eq_true rfl)⟩ (fun locs hS => ?_)
  refine W.eq (g2 := F0 m 6 ls []) rfl ?_
  refine lv_aload_n hx hb dJ1_charAt_3b067_6 rfl (lv_at hl 0 rfl) ?_
  refine lv_iload_n hx hb dJ1_charAt_3b067_7 rfl (lv_at hl 1 rfl) ?_
  refine va_bald hx hb hK hP 0 0 rfl rfl (vp_in_nI hi (by omega)) dJ1_charAt_3b067_8 ?_
  refine lv_sipush (v := 255) hx hb dJ1_charAt_3b067_9 (by decide) ?_
  refine lv_iand hx hb dJ1_charAt_3b067_12 ?_
  refine lv_i2c (v := (((f (nI i).toNatClampNeg) &&& 255).toUInt32 % 65536).toInt32) hx hb dJ1_charAt_3b067_13 rfl ?_
  rw [nI_clamp (by omega)]
  exact W.zret hx hb hr (pk_nc _) (fun t ht _ => ⟨⟨_, rfl, ⟨rfl, pk_nc _⟩, ht⟩, hS.F ht⟩) hS.2.2 dJ1_charAt_3b067_14 hlocks
set_option maxHeartbeats 4000000 in
set_option maxRecDepth 100000 in
theorem cwv_J0_charAt_5068e (l : Launch) (D : va_G) (cB cJ : ClassId) (Hp : Heap) (q u nn : Nat) (f : Nat → Int32) (i : Nat) (hP : va_P D vwCl (wST q u cB nn f) Hp) (hi : i < nn) (hn : nn < 2 ^ 31) : kM l D cB cJ yJ0_charAt_5068e wsJ0_charAt_5068e ({ frames := 3, cells := 0, slots := 0, locals := 64 }) kF Hp [.ref q, .int (nI i)] (kSomeX Hp (q_chr (f i))) 0 0 := by
  refine Met.ofW (cc := cJ0_charAt_5068e) (maxL := 2) (ret := (some .char)) (by decide) rfl ?_
  intro p e s m args below meth c s₁ B hml hv
  obtain ⟨rfl, hHp, hE⟩ := hv
  subst hHp
  have hx := B.exec
  have hb := B.bytes
  have hr := B.returns
  have hts := atoms_spec (ws := wsJ0_charAt_5068e) B.pre
  have hown : s.vm.findClass RJ0 = some m.cls := findClass_of_methodNamed B.named
  have hlocks := B.notSynchronized
  have hK := hE.1
  have hS : va_S kF s.heap s.heap [] := va_S.rf
  have hl := lv_entry ([.ref q, .int (nI i)]) (n := 2) (Nat.le_of_ble_eq_true rfl)
  rw [lg_entry_eq]
  generalize (lg_sl ([.ref q, .int (nI i)]) ++ List.replicate (2 - (lg_sl ([.ref q, .int (nI i)])).length) Slot.unset).toArray = ls at hl ⊢
  have hl : lv_has ls 2 [(0, .ref q), (1, .int (nI i))] := hl
  refine lv_aload_n hx hb dJ0_charAt_5068e_0 rfl (lv_at hl 0 rfl) ?_
  refine k_go (va_runV (As := []) (rest := []) ⟨hx, hb, hml, hown, hts⟩ (cw_J0_isLatin1_aae02 l D cB cJ _ q u nn f (hP.sub [0, 1] rfl)) (cwV 0 hts gJ0_charAt_5068e_J0_isLatin1_aae02 rfl rfl rfl (by decide +kernel) ⟨(Nat.le_of_ble_eq_true rfl), (Nat.le_of_ble_eq_true rfl)⟩) (k_preV hE hS (fun _ h => h.elim) (va_recv hK hP (ci := 0) (q0 := 0) rfl rfl)) rfl rfl hl.1 rfl (lv_room (Nat.le_of_ble_eq_true rfl)) dJ0_charAt_5068e_1 ⟨(Nat.le_of_ble_eq_true rfl), (Nat.le_of_ble_eq_true rfl)⟩) hS (fun q _ h => h.elim) (fun q h => h.elim) (fun v9 H1 locs hp hz hk hS => ?_)
  obtain ⟨rfl, rfl⟩ := hp
  refine W.eq (g2 := F0 m 4 ls [.int 1]) rfl ?_
  refine lv_if_eq (tgt := 16) hx hb dJ0_charAt_5068e_4 (by decide) (fun c_2 => ?_) (fun c_2 => ?_)
  · exact absurd c_2 (by decide)
  · refine lv_aload_n hx hb dJ0_charAt_5068e_7 rfl (lv_at hl 0 rfl) ?_
    refine va_get (D := D) (ci := 0) (v := .ref u) (C := RJ0) (T := TJ0) (N := 4) hx hb hts iw_J0_charAt_5068e_J0 hown hK hP 0 rfl rfl 0 (by decide) (hts (.fieldLink RJ0 9 "java/lang/String" "value" "[B") (by decide +kernel)) (fun _ h9 => h9) rfl dJ0_charAt_5068e_8 ?_
    refine lv_iload_n hx hb dJ0_charAt_5068e_11 rfl (lv_at hl 1 rfl) ?_
    refine k_go (va_runS (As := [.ref u, .int (nI i)]) (rest := []) ⟨hx, hb, hml, hown, hts⟩ (cv_J1_charAt_3b067 l D cB cJ _ u i nn f (hP.sub [1] rfl) hi hn) (va_cwS 2 hts gJ0_charAt_5068e_J1_charAt_3b067 rfl rfl rfl (by decide +kernel) ⟨(Nat.le_of_ble_eq_true rfl), (Nat.le_of_ble_eq_true rfl)⟩) (k_preS hE hS (fun _ h => h.elim)) rfl rfl hl.1 rfl (lv_room (Nat.le_of_ble_eq_true rfl)) dJ0_charAt_5068e_12 ⟨(Nat.le_of_ble_eq_true rfl), (Nat.le_of_ble_eq_true rfl)⟩) hS (fun q _ h => h.elim) (fun q h => h.elim) (fun v9 H1 locs hp hz hk hS => ?_)
    obtain ⟨⟨rfl, hn_9⟩, rfl⟩ := hp
    refine W.eq (g2 := F0 m 15 ls [.int (q_chr (f i))]) rfl ?_
    exact W.zret hx hb hr hn_9 (fun t ht _ => ⟨⟨_, rfl, ⟨rfl, hn_9⟩, ht⟩, hS.F ht⟩) hS.2.2 dJ0_charAt_5068e_15 hlocks
/-! the order's letters: each rank has one clock -/
theorem o_ltA (g : Nat → Int64) {c d o : Nat} (h : g c < g d ∨ (g c = g d ∧ c < d)) : o_lt g c o ≤ o_lt g d o := by
  unfold o_lt
  by_cases p : g o < g c ∨ (g o = g c ∧ o < c)
  · rw [if_pos p, if_pos]
    · exact Nat.le_refl _
    · simp only [Int64.lt_iff_toInt_lt, ← Int64.toInt_inj] at p h ⊢
      omega
  · rw [if_neg p]; exact Nat.zero_le _
theorem o_ahA (g : Nat → Int64) {c d : Nat} (h : g c < g d ∨ (g c = g d ∧ c < d)) : ∀ o, o_ah g c o ≤ o_ah g d o ∧ (c < o → o_ah g c o < o_ah g d o) := by
  intro o
  induction o with
  | zero => exact ⟨Nat.le_refl _, fun q => by omega⟩
  | succ o ih =>
    have h1 := o_ltA g (o := o) h
    refine ⟨?_, fun q => ?_⟩
    · show o_ah g c o + o_lt g c o ≤ o_ah g d o + o_lt g d o
      omega
    · show o_ah g c o + o_lt g c o < o_ah g d o + o_lt g d o
      rcases Nat.lt_or_ge c o with z | z
      · have := ih.2 z; omega
      · obtain rfl : c = o := by omega
        have h2 : o_lt g c c = 0 := o_lt_self g c
        have h3 : o_lt g d c = 1 := by unfold o_lt; rw [if_pos h]
        have := ih.1
        omega
theorem o_inj (g : Nat → Int64) {c d : Nat} (hc : c < 8) (hd : d < 8) (h : o_ah g c 8 = o_ah g d 8) : c = d := by
  have h1 : (g c < g d ∨ (g c = g d ∧ c < d)) ∨ c = d ∨ (g d < g c ∨ (g d = g c ∧ d < c)) := by
    simp only [Int64.lt_iff_toInt_lt, ← Int64.toInt_inj]
    omega
  rcases h1 with z | z | z
  · have := (o_ahA g z 8).2 hc; omega
  · exact z
  · have := (o_ahA g z 8).2 hd; omega
def o_rk (g : Nat → Int64) (c : Nat) : Nat := o_ah g c 8
theorem o_one {ah : Nat → Nat} (hi : ∀ c d, c < 8 → d < 8 → ah c = ah d → c = d) (rk : Nat) : ∀ c, c ≤ 8 → (o_cnt ah rk c = o_cnt ah rk 0 ∧ ∀ k, k < c → ah k ≠ rk) ∨ (o_cnt ah rk c = o_cnt ah rk 0 + 1 ∧ ∃ k, k < c ∧ ah k = rk) := by
  intro c
  induction c with
  | zero => intro _; exact Or.inl ⟨rfl, fun k h => by omega⟩
  | succ c ih =>
    intro hc
    rw [o_cnt_step ah rk c (by omega)]
    rcases ih (by omega) with ⟨h1, h2⟩ | ⟨h1, k, hk, h2⟩
    · by_cases e : ah c = rk
      · exact Or.inr ⟨by rw [if_pos e, h1], c, by omega, e⟩
      · refine Or.inl ⟨by rw [if_neg e, h1, Nat.add_zero], fun k hk => ?_⟩
        rcases Nat.lt_or_ge k c with z | z
        · exact h2 k z
        · obtain rfl : k = c := by omega
          exact e
    · have e : ¬ ah c = rk := fun e => by have := hi k c (by omega) (by omega) (by rw [h2, e]); omega
      exact Or.inr ⟨by rw [if_neg e, h1], k, by omega, h2⟩
theorem o_all {ah : Nat → Nat} (hi : ∀ c d, c < 8 → d < 8 → ah c = ah d → c = d) (h8 : ∀ k, k < 8 → ah k < 8) (rk : Nat) (hr : rk ≤ 8) : o_cnt ah rk 0 = rk := by
  have h1 : ∀ r, o_cnt ah r 0 ≤ r := by
    intro r
    induction r with
    | zero => rw [o_cnt_0]; exact Nat.le_refl _
    | succ r ih => rw [o_cnt_rank]; rcases o_one hi r 8 (by omega) with ⟨h, -⟩ | ⟨h, -⟩ <;> omega
  have h2 : ∀ d r, r + d = 8 → r ≤ o_cnt ah r 0 := by
    intro d
    induction d with
    | zero => intro r h; obtain rfl : r = 8 := by omega
              rw [o_cnt_8 ah h8]; exact Nat.le_refl _
    | succ d ih =>
      intro r h
      have h3 := ih (r + 1) (by omega)
      rw [o_cnt_rank] at h3
      rcases o_one hi r 8 (by omega) with ⟨h, -⟩ | ⟨h, -⟩ <;> omega
  have := h1 rk
  have := h2 (8 - rk) rk (by omega)
  omega
theorem o_ex {ah : Nat → Nat} (hi : ∀ c d, c < 8 → d < 8 → ah c = ah d → c = d) (h8 : ∀ k, k < 8 → ah k < 8) {rk : Nat} (hr : rk < 8) : ∃ c, c < 8 ∧ ah c = rk := by
  have h1 := o_all hi h8 rk (by omega)
  have h2 := o_all hi h8 (rk + 1) (by omega)
  rw [o_cnt_rank] at h2
  rcases o_one hi rk 8 (by omega) with ⟨h, -⟩ | ⟨h, h3⟩
  · omega
  · exact h3
/-- the clock of a rank -/
def o_at (g : Nat → Int64) (r : Nat) : Nat := if o_rk g 0 = r then 0 else if o_rk g 1 = r then 1 else if o_rk g 2 = r then 2 else if o_rk g 3 = r then 3 else if o_rk g 4 = r then 4 else if o_rk g 5 = r then 5 else if o_rk g 6 = r then 6 else 7
theorem o_rkinj (g : Nat → Int64) : ∀ c d, c < 8 → d < 8 → o_rk g c = o_rk g d → c = d := fun _ _ hc hd h => o_inj g hc hd h
theorem o_rk8 (g : Nat → Int64) : ∀ k, k < 8 → o_rk g k < 8 := fun k hk => o_ah_lt g k 8 hk
theorem o_at_rk (g : Nat → Int64) {c : Nat} (hc : c < 8) : o_at g (o_rk g c) = c := by
  have h := o_rkinj g
  unfold o_at
  rcases (show c = 0 ∨ c = 1 ∨ c = 2 ∨ c = 3 ∨ c = 4 ∨ c = 5 ∨ c = 6 ∨ c = 7 by omega) with rfl | rfl | rfl | rfl | rfl | rfl | rfl | rfl
  all_goals
    repeat' (first | rfl | (rw [if_pos rfl]) | (rw [if_neg (fun e => absurd (h _ _ (by decide) (by decide) e) (by decide))]))
theorem o_at_lt (g : Nat → Int64) (r : Nat) : o_at g r < 8 := by
  unfold o_at
  repeat' split
  all_goals decide
theorem o_rk_at (g : Nat → Int64) {r : Nat} (hr : r < 8) : o_rk g (o_at g r) = r := by
  obtain ⟨c, hc, e⟩ := o_ex (o_rkinj g) (o_rk8 g) hr
  rw [← e, o_at_rk g hc]
def o_L (g : Nat → Int64) (i : Nat) : Int32 := if i % 2 = 0 then nI (48 + o_at g (i / 2)) else 32
theorem o_L0 (g : Nat → Int64) (k : Nat) : o_L g (2 * k) = nI (48 + o_at g k) := by
  unfold o_L
  rw [if_pos (by omega), show 2 * k / 2 = k by omega]
theorem o_L1 (g : Nat → Int64) (k : Nat) : o_L g (2 * k + 1) = 32 := by
  unfold o_L
  rw [if_neg (by omega)]
/-- k clocks' letters stand -/
def o_S (L : Nat → Int32) (k nn : Nat) (a : Nat → Int32) : Prop := nn = 2 * k - 1 ∧ ∀ i, i < nn → a i = L i
theorem o_S1 {g : Nat → Int64} {nn c : Nat} {a b : Nat → Int32} (h : o_S (o_L g) 0 nn a) (hc : c = o_at g 0) (hb : ∀ i, i < nn + 1 → b i = upd a nn (nI (48 + c)) i) : o_S (o_L g) 1 (nn + 1) b := by
  obtain ⟨h1, -⟩ := h
  subst hc
  refine ⟨by omega, fun i hi => ?_⟩
  rw [hb i hi]
  obtain rfl : i = 0 := by omega
  obtain rfl : nn = 0 := by omega
  show (if 0 = 0 then nI (48 + o_at g 0) else a 0) = _
  rw [if_pos rfl]
  exact (o_L0 g 0).symm
theorem o_S2 {g : Nat → Int64} {k nn c : Nat} {a b d : Nat → Int32} (h : o_S (o_L g) k nn a) (hk : 0 < k) (hc : c = o_at g k) (hb : ∀ i, i < nn + 1 → b i = upd a nn 32 i) (hd : ∀ i, i < nn + 1 + 1 → d i = upd b (nn + 1) (nI (48 + c)) i) : o_S (o_L g) (k + 1) (nn + 1 + 1) d := by
  obtain ⟨h1, h2⟩ := h
  subst hc
  refine ⟨by omega, fun i hi => ?_⟩
  rw [hd i hi]
  show (if i = nn + 1 then nI (48 + o_at g k) else b i) = _
  by_cases e : i = nn + 1
  · rw [if_pos e, e, show nn + 1 = 2 * k by omega]
    exact (o_L0 g k).symm
  · rw [if_neg e, hb i (by omega)]
    show (if i = nn then (32 : Int32) else a i) = _
    by_cases e2 : i = nn
    · rw [if_pos e2, e2, show nn = 2 * (k - 1) + 1 by omega]
      exact (o_L1 g (k - 1)).symm
    · rw [if_neg e2]
      exact h2 i (by omega)
theorem q_plE (kn ch : Int32) (f : Nat → Int64) {c : Nat} (hc : c < 8) : ∀ (u k : Nat), k ≤ 8 → 8 < u + k → jl_X0_placeOf_12 kn ch f (nI c) (j_X0_numberOf kn ch f (nI c)) (fun (v_1 : Int32) (v_2 : Int32) => v_1) u (nI (o_ah f c k)) (nI k) = nI (o_ah f c 8) := by
  intro u
  induction u with
  | zero => intro k h1 h2; omega
  | succ u ih =>
    intro k h1 h2
    rw [jl_X0_placeOf_12]
    by_cases h : 8 ≤ nI k
    · rw [if_pos h]
      obtain rfl : k = 8 := by
        have := (nI_leI (a := 8) (b := k) (by decide) (by omega)).mp h
        omega
      rfl
    · have hk8 : k < 8 := Nat.lt_of_not_le (fun q => h (nI_le q (by omega)))
      have ih := ih (k + 1) (by omega) (by omega)
      rw [if_neg h, q_numC kn ch f hc, q_numC kn ch f hk8, nI_1]
      rw [q_numC kn ch f hc] at ih
      have e : o_ah f c (k + 1) = o_ah f c k + o_lt f c k := rfl
      by_cases a1 : f k < f c
      · rw [if_pos a1, nI_1, ← ih, e, show o_lt f c k = 1 from by unfold o_lt; rw [if_pos (Or.inl a1)]]
      · rw [if_neg a1]
        by_cases a2 : f k = f c
        · rw [if_pos a2]
          by_cases a3 : nI c ≤ nI k
          · have a4 := (nI_leI (by omega) (by omega)).mp a3
            have e0 : o_ah f c (k + 1) = o_ah f c k := by rw [e]; unfold o_lt; rw [if_neg (by rintro (z | ⟨-, z⟩); exact a1 z; omega)]; rfl
            rw [if_pos a3, nI_1, ← ih, e0]
          · have a4 : k < c := Nat.lt_of_not_le (fun q => a3 (nI_le q (by omega)))
            rw [if_neg a3, nI_1, ← ih, e, show o_lt f c k = 1 from by unfold o_lt; rw [if_pos (Or.inr ⟨a2, a4⟩)]]
        · have e0 : o_ah f c (k + 1) = o_ah f c k := by rw [e]; unfold o_lt; rw [if_neg (by rintro (z | ⟨z, -⟩); exact a1 z; exact a2 z)]; rfl
          rw [if_neg a2, nI_1, ← ih, e0]
theorem q_pl (kn ch : Int32) (f : Nat → Int64) {c : Nat} (hc : c < 8) : j_X0_placeOf kn ch f (nI c) = nI (o_rk f c) := q_plE kn ch f hc 100 0 (by omega) (by omega)
theorem q_clE (kn ch : Int32) (f : Nat → Int64) {r : Nat} (hr : r < 8) : ∀ (u k : Nat), k ≤ o_at f r → 8 < u + k → jl_X0_clockAtPlace_2 kn ch f (nI r) (fun _ => 0) u (nI k) = nI (o_at f r) := by
  have h8 := o_at_lt f r
  intro u
  induction u with
  | zero => intro k h1 h2; omega
  | succ u ih =>
    intro k h1 h2
    rw [jl_X0_clockAtPlace_2, if_neg (show ¬ (8 : Int32) ≤ nI k from nI_ge (a := k) (b := 8) (by omega) (by decide)), q_pl kn ch f (by omega)]
    by_cases e : o_rk f k = r
    · rw [if_pos (by rw [e])]
      rw [← e, o_at_rk f (by omega)]
    · rw [if_neg (fun z => e ((nI_eq (by have := o_rk8 f k (by omega); omega) (by omega)).mp z)), nI_1]
      refine ih (k + 1) ?_ (by omega)
      rcases Nat.lt_or_ge k (o_at f r) with z | z
      · omega
      · obtain rfl : k = o_at f r := by omega
        exact absurd (o_rk_at f hr) e
theorem q_cl (kn ch : Int32) (f : Nat → Int64) {r : Nat} (hr : r < 8) : j_X0_clockAtPlace kn ch f (nI r) = nI (o_at f r) := q_clE kn ch f hr 100 0 (Nat.zero_le _) (by omega)
theorem q_c8v (kn ch : Int32) (f : Nat → Int64) {r : Nat} (hr : r < 8) : ∃ c : Nat, (c < 8 ∧ c = o_at f r) ∧ j_X0_clockAtPlace kn ch f (nI r) = nI c := ⟨_, ⟨o_at_lt f r, rfl⟩, q_cl kn ch f hr⟩
theorem q_at8 {k : Nat} (c : (8 : Int32) ≤ nI k) (h8 : k ≤ 8) : k = 8 := by
  have := (nI_leI (a := 8) (b := k) (by decide) (by omega)).mp c
  omega
def kPtV (D : va_G) (x n : Nat) (cB cJ : ClassId) (A : Nat → Prop) (kn ch : Int32) (f : Nat → Int64) : Option Value → Heap → Prop := fun v1 H1 => ∃ (q u : Nat) (g : Nat → Int32), v1 = some (.ref q) ∧ va_P D vwCl (wC x n cJ kn ch f ++ wST q u cB 15 g) H1 ∧ va_D A (wC x n cJ kn ch f ++ wST q u cB 15 g) ∧ sb_Fit g ∧ ∀ i, i < 15 → g i = o_L f i
set_option maxHeartbeats 4000000 in
set_option maxRecDepth 100000 in
theorem lpv_order {p : Program} {l : Launch} {e : Env} {s : State} {m : MethodId} {args : Array Value} {below : List Frame} {meth : Method} {c : Code} {D : va_G} {cB cJ : ClassId} {A : Nat → Prop} {x n b : Nat} {kn ch : Int32} {f : Nat → Int64} (hx : p.tables.exec = Jvm.exec) (hb : c.code = cX0_order) (hml : c.maxLocals = 3) (hown : s.vm.findClass RX0 = some m.cls) (hts : ∀ w ∈ wsX0_order, w.before args s = true) (hE : kE D cB cJ A s s.heap) (hA : ∀ q : Nat, s.heap.size ≤ q → A q) (kk : ∀ (k : Nat) (nn : Nat) (H : Heap) (locs : List Loc) (v cp : Nat) (ar : Nat → Int32) (ls : Array Slot), k = 8 → o_S (o_L f) k nn ar → sb_Fit ar → nn ≤ cp → cp ≤ 130 → va_P D vwCl ([(x, .inr (2, [.ref n, .int kn, .int ch])), (n, .inl (cJ, 8, .inr (.inl f))), (b, .inr (1, [.ref v, .int 0, .int 0, .int (nI nn)])), (v, .inl (cB, cp, .inl ar))]) H → va_D A ([(x, .inr (2, [.ref n, .int kn, .int ch])), (n, .inl (cJ, 8, .inr (.inl f))), (b, .inr (1, [.ref v, .int 0, .int 0, .int (nI nn)])), (v, .inl (cB, cp, .inl ar))]) → va_S A s.heap H locs → lv_has ls 3 [(2, .int (nI k)), (1, .ref b), (0, .ref x)] → W p l e rm_X0_order s m args below meth c H locs 18 2100 (MQ below (kQ (kPtV D x n cB cJ A kn ch f) A) args s 20 2234 A) (F0 m 43 ls [])) : ∀ (u9 : Nat) (k : Nat) (nn : Nat) (H : Heap) (locs : List Loc) (v cp : Nat) (ar : Nat → Int32) (ls : Array Slot), k + u9 = 9 → k ≤ 8 → o_S (o_L f) k nn ar → sb_Fit ar → nn ≤ cp → cp ≤ 130 → va_P D vwCl ([(x, .inr (2, [.ref n, .int kn, .int ch])), (n, .inl (cJ, 8, .inr (.inl f))), (b, .inr (1, [.ref v, .int 0, .int 0, .int (nI nn)])), (v, .inl (cB, cp, .inl ar))]) H → va_D A ([(x, .inr (2, [.ref n, .int kn, .int ch])), (n, .inl (cJ, 8, .inr (.inl f))), (b, .inr (1, [.ref v, .int 0, .int 0, .int (nI nn)])), (v, .inl (cB, cp, .inl ar))]) → va_S A s.heap H locs → lv_has ls 3 [(2, .int (nI k)), (1, .ref b), (0, .ref x)] → W p l e rm_X0_order s m args below meth c H locs (2 + 2 * k) (20 + 260 * k) (MQ below (kQ (kPtV D x n cB cJ A kn ch f) A) args s 20 2234 A) (F0 m 10 ls []) := by
  have hK := hE.1
  intro u9
  induction u9 with
  | zero =>
    intro k nn H locs v cp ar ls h9 h19
    exact absurd h9 (by omega)
  | succ u9 ih =>
    intro k nn H locs v cp ar ls h9 hk9 hkS hf hnm hm hP hD hS hl
    have hnk := hkS.1
    refine lv_iload_n hx hb dX0_order_10 rfl (lv_at hl 0 rfl) ?_
    refine lv_bipush (v := 8) hx hb dX0_order_11 (by decide) ?_
    refine lv_icmp_ge (tgt := 43) hx hb dX0_order_13 (by decide) (fun c_1 => ?_) (fun c_1 => ?_)
    · refine W.widen (k := 18) (n := 2100) (by omega) (by omega) ?_
      exact kk k nn _ _ _ _ _ _ (q_at8 c_1 hk9) hkS hf hnm hm hP hD hS (lv_sub hl [0, 1, 2] rfl)
    · have hk8 : k < 8 := Nat.lt_of_not_le (fun q => c_1 (nI_le q (by omega)))
      refine lv_iload_n hx hb dX0_order_16 rfl (lv_at hl 0 rfl) ?_
      refine lv_if_le (tgt := 27) hx hb dX0_order_17 (by decide) (fun c_2 => ?_) (fun c_2 => ?_)
      · refine lv_aload_n hx hb dX0_order_27 rfl (lv_at hl 1 rfl) ?_
        refine lv_aload_n hx hb dX0_order_28 rfl (lv_at hl 2 rfl) ?_
        refine lv_iload_n hx hb dX0_order_29 rfl (lv_at hl 0 rfl) ?_
        refine k_pV [.int (nI k)] (rest := [.ref b]) ⟨hx, hb, hml, hown, hts⟩ (c_X0_clockAtPlace l D cB cJ _ x n kn ch f (hP.sub [0, 1] rfl) (nI k) (tk_X0_clockAtPlace kn ch f (nI k))) (cwV 1 hts gX0_order_X0_clockAtPlace rfl rfl rfl (by decide +kernel) ⟨(Nat.le_of_ble_eq_true rfl), (Nat.le_of_ble_eq_true rfl)⟩) (va_recv hK hP (ci := 2) (q0 := 0) rfl rfl) hE hS rfl rfl hl.1 (Nat.le_of_ble_eq_true rfl) dX0_order_30 ⟨by show _ ≤ (20 : Nat); omega, by show _ ≤ (2234 : Nat); omega⟩ (fun locs hS => ?_)
        refine W.eq (g2 := F0 m 33 ls [.int (j_X0_clockAtPlace kn ch f (nI k)), .ref b]) rfl ?_
        obtain ⟨c_3, ⟨hc_3, eo_9⟩, ec_3⟩ := q_c8v kn ch f hk8
        rw [ec_3]
        have hFc := va_free (wc := [(b, .inr (1, [.ref v, .int 0, .int 0, .int (nI nn)])), (v, .inl (cB, cp, .inl ar))]) hD hS hA [2, 3] rfl
        refine k_go (va_runV (As := [.int (nI c_3)]) (rest := []) ⟨hx, hb, hml, hown, hts⟩ (cv_J4_append_bf812 l D cB cJ _ b v nn cp ar (hP.sub [2, 3] rfl) ((hD.sub [2, 3] (by decide) rfl).weaken (fun _ _ _ _ => trivial)) c_3 hf hnm hm (by omega) (by omega)) (cwV 1 hts gX0_order_J4_append_bf812 rfl rfl rfl (by decide +kernel) ⟨(Nat.le_of_ble_eq_true rfl), (Nat.le_of_ble_eq_true rfl)⟩) (k_preV hE hS hFc (va_recv hK hP (ci := 1) (q0 := 2) rfl rfl)) rfl rfl hl.1 rfl (lv_room (Nat.le_of_ble_eq_true rfl)) dX0_order_33 ⟨by show _ ≤ (20 : Nat); omega, by show _ ≤ (2234 : Nat); omega⟩) hS (fun q _ h => hFc q h) hFc (fun v9 H locs hp hz hk hS => ?_)
        obtain ⟨rfl, v_4, m_4, a_4, hP1, hD1, hf_4, hn_4, hm_4, hL_4⟩ := hp
        obtain ⟨hP, hD⟩ := va_join (wr := [(x, .inr (2, [.ref n, .int kn, .int ch])), (n, .inl (cJ, 8, .inr (.inl f)))]) (wc := [(b, .inr (1, [.ref v, .int 0, .int 0, .int (nI nn)])), (v, .inl (cB, cp, .inl ar))]) (w1 := [(b, .inr (1, [.ref v_4, .int 0, .int 0, .int (nI (nn + 1))])), (v_4, .inl (cB, m_4, .inl a_4))]) hP hD [2, 3] [0, 1] rfl rfl (by decide) (by decide) hk hFc hP1 hD1
        have hP : va_P D vwCl [(x, .inr (2, [.ref n, .int kn, .int ch])), (n, .inl (cJ, 8, .inr (.inl f))), (b, .inr (1, [.ref v_4, .int 0, .int 0, .int (nI (nn + 1))])), (v_4, .inl (cB, m_4, .inl a_4))] H := hP
        have hD : va_D A [(x, .inr (2, [.ref n, .int kn, .int ch])), (n, .inl (cJ, 8, .inr (.inl f))), (b, .inr (1, [.ref v_4, .int 0, .int 0, .int (nI (nn + 1))])), (v_4, .inl (cB, m_4, .inl a_4))] := hD
        refine W.eq (g2 := F0 m 36 ls [.ref b]) rfl ?_
        refine lv_pop hx hb dX0_order_36 rfl ?_
        refine lv_iinc (v := ((nI k) + 1)) (lv' := [(2, .int ((nI k) + 1)), (1, .ref b), (0, .ref x)]) hx hb dX0_order_37 hl (k := 0) rfl rfl (by decide) rfl (fun ls hl => ?_)
        refine lv_goto (tgt := 10) hx hb dX0_order_40 (by decide) ?_
        rw [nI_1] at hl
        refine W.widen (k := 2 + 2 * (k + 1)) (n := 20 + 260 * (k + 1)) (by omega) (by omega) ?_
        have hk0 : k = 0 := by
          rcases Nat.eq_zero_or_pos k with z | z
          · exact z
          · exact absurd c_2 (nI_nle z (by omega))
        subst hk0
        exact ih (0 + 1) _ _ _ _ _ _ _ (by omega) (by omega) (o_S1 hkS eo_9 hL_4) hf_4 hn_4 hm_4 (hP.sub [0, 1, 2, 3] rfl) (hD.sub [0, 1, 2, 3] (by decide) rfl) hS (lv_sub hl [0, 1, 2] rfl)
      · refine lv_aload_n hx hb dX0_order_20 rfl (lv_at hl 1 rfl) ?_
        refine lv_bipush (v := 32) hx hb dX0_order_21 (by decide) ?_
        have hFc := va_free (wc := [(b, .inr (1, [.ref v, .int 0, .int 0, .int (nI nn)])), (v, .inl (cB, cp, .inl ar))]) hD hS hA [2, 3] rfl
        refine k_go (va_runV (As := [.int 32]) (rest := []) ⟨hx, hb, hml, hown, hts⟩ (cv_J4_append_cf468 l D cB cJ _ b v nn cp ar (hP.sub [2, 3] rfl) ((hD.sub [2, 3] (by decide) rfl).weaken (fun _ _ _ _ => trivial)) 32 hf hnm hm (by decide) (by omega)) (cwV 1 hts gX0_order_J4_append_cf468 rfl rfl rfl (by decide +kernel) ⟨(Nat.le_of_ble_eq_true rfl), (Nat.le_of_ble_eq_true rfl)⟩) (k_preV hE hS hFc (va_recv hK hP (ci := 1) (q0 := 2) rfl rfl)) rfl rfl hl.1 rfl (lv_room (Nat.le_of_ble_eq_true rfl)) dX0_order_23 ⟨by show _ ≤ (20 : Nat); omega, by show _ ≤ (2234 : Nat); omega⟩) hS (fun q _ h => hFc q h) hFc (fun v9 H locs hp hz hk hS => ?_)
        obtain ⟨rfl, v_5, m_5, a_5, hP1, hD1, hf_5, hn_5, hm_5, hL_5⟩ := hp
        rw [show vp_nar .byte (32 : Int32).toInt8.toInt32 = 32 from by decide] at hL_5
        obtain ⟨hP, hD⟩ := va_join (wr := [(x, .inr (2, [.ref n, .int kn, .int ch])), (n, .inl (cJ, 8, .inr (.inl f)))]) (wc := [(b, .inr (1, [.ref v, .int 0, .int 0, .int (nI nn)])), (v, .inl (cB, cp, .inl ar))]) (w1 := [(b, .inr (1, [.ref v_5, .int 0, .int 0, .int (nI (nn + 1))])), (v_5, .inl (cB, m_5, .inl a_5))]) hP hD [2, 3] [0, 1] rfl rfl (by decide) (by decide) hk hFc hP1 hD1
        have hP : va_P D vwCl [(x, .inr (2, [.ref n, .int kn, .int ch])), (n, .inl (cJ, 8, .inr (.inl f))), (b, .inr (1, [.ref v_5, .int 0, .int 0, .int (nI (nn + 1))])), (v_5, .inl (cB, m_5, .inl a_5))] H := hP
        have hD : va_D A [(x, .inr (2, [.ref n, .int kn, .int ch])), (n, .inl (cJ, 8, .inr (.inl f))), (b, .inr (1, [.ref v_5, .int 0, .int 0, .int (nI (nn + 1))])), (v_5, .inl (cB, m_5, .inl a_5))] := hD
        refine W.eq (g2 := F0 m 26 ls [.ref b]) rfl ?_
        refine lv_pop hx hb dX0_order_26 rfl ?_
        refine lv_aload_n hx hb dX0_order_27 rfl (lv_at hl 1 rfl) ?_
        refine lv_aload_n hx hb dX0_order_28 rfl (lv_at hl 2 rfl) ?_
        refine lv_iload_n hx hb dX0_order_29 rfl (lv_at hl 0 rfl) ?_
        refine k_pV [.int (nI k)] (rest := [.ref b]) ⟨hx, hb, hml, hown, hts⟩ (c_X0_clockAtPlace l D cB cJ _ x n kn ch f (hP.sub [0, 1] rfl) (nI k) (tk_X0_clockAtPlace kn ch f (nI k))) (cwV 1 hts gX0_order_X0_clockAtPlace rfl rfl rfl (by decide +kernel) ⟨(Nat.le_of_ble_eq_true rfl), (Nat.le_of_ble_eq_true rfl)⟩) (va_recv hK hP (ci := 2) (q0 := 0) rfl rfl) hE hS rfl rfl hl.1 (Nat.le_of_ble_eq_true rfl) dX0_order_30 ⟨by show _ ≤ (20 : Nat); omega, by show _ ≤ (2234 : Nat); omega⟩ (fun locs hS => ?_)
        refine W.eq (g2 := F0 m 33 ls [.int (j_X0_clockAtPlace kn ch f (nI k)), .ref b]) rfl ?_
        obtain ⟨c_6, ⟨hc_6, eo_9⟩, ec_6⟩ := q_c8v kn ch f hk8
        rw [ec_6]
        have hFc := va_free (wc := [(b, .inr (1, [.ref v_5, .int 0, .int 0, .int (nI (nn + 1))])), (v_5, .inl (cB, m_5, .inl a_5))]) hD hS hA [2, 3] rfl
        refine k_go (va_runV (As := [.int (nI c_6)]) (rest := []) ⟨hx, hb, hml, hown, hts⟩ (cv_J4_append_bf812 l D cB cJ _ b v_5 (nn + 1) m_5 a_5 (hP.sub [2, 3] rfl) ((hD.sub [2, 3] (by decide) rfl).weaken (fun _ _ _ _ => trivial)) c_6 hf_5 hn_5 hm_5 (by omega) (by omega)) (cwV 1 hts gX0_order_J4_append_bf812 rfl rfl rfl (by decide +kernel) ⟨(Nat.le_of_ble_eq_true rfl), (Nat.le_of_ble_eq_true rfl)⟩) (k_preV hE hS hFc (va_recv hK hP (ci := 1) (q0 := 2) rfl rfl)) rfl rfl hl.1 rfl (lv_room (Nat.le_of_ble_eq_true rfl)) dX0_order_33 ⟨by show _ ≤ (20 : Nat); omega, by show _ ≤ (2234 : Nat); omega⟩) hS (fun q _ h => hFc q h) hFc (fun v9 H locs hp hz hk hS => ?_)
        obtain ⟨rfl, v_7, m_7, a_7, hP1, hD1, hf_7, hn_7, hm_7, hL_7⟩ := hp
        obtain ⟨hP, hD⟩ := va_join (wr := [(x, .inr (2, [.ref n, .int kn, .int ch])), (n, .inl (cJ, 8, .inr (.inl f)))]) (wc := [(b, .inr (1, [.ref v_5, .int 0, .int 0, .int (nI (nn + 1))])), (v_5, .inl (cB, m_5, .inl a_5))]) (w1 := [(b, .inr (1, [.ref v_7, .int 0, .int 0, .int (nI ((nn + 1) + 1))])), (v_7, .inl (cB, m_7, .inl a_7))]) hP hD [2, 3] [0, 1] rfl rfl (by decide) (by decide) hk hFc hP1 hD1
        have hP : va_P D vwCl [(x, .inr (2, [.ref n, .int kn, .int ch])), (n, .inl (cJ, 8, .inr (.inl f))), (b, .inr (1, [.ref v_7, .int 0, .int 0, .int (nI ((nn + 1) + 1))])), (v_7, .inl (cB, m_7, .inl a_7))] H := hP
        have hD : va_D A [(x, .inr (2, [.ref n, .int kn, .int ch])), (n, .inl (cJ, 8, .inr (.inl f))), (b, .inr (1, [.ref v_7, .int 0, .int 0, .int (nI ((nn + 1) + 1))])), (v_7, .inl (cB, m_7, .inl a_7))] := hD
        refine W.eq (g2 := F0 m 36 ls [.ref b]) rfl ?_
        refine lv_pop hx hb dX0_order_36 rfl ?_
        refine lv_iinc (v := ((nI k) + 1)) (lv' := [(2, .int ((nI k) + 1)), (1, .ref b), (0, .ref x)]) hx hb dX0_order_37 hl (k := 0) rfl rfl (by decide) rfl (fun ls hl => ?_)
        refine lv_goto (tgt := 10) hx hb dX0_order_40 (by decide) ?_
        rw [nI_1] at hl
        refine W.widen (k := 2 + 2 * (k + 1)) (n := 20 + 260 * (k + 1)) (by omega) (by omega) ?_
        have hk0 : 0 < k := by
          rcases Nat.eq_zero_or_pos k with z | z
          · exact absurd (by rw [z]; decide) c_2
          · exact z
        exact ih (k + 1) _ _ _ _ _ _ _ (by omega) (by omega) (o_S2 hkS hk0 eo_9 hL_5 hL_7) hf_7 hn_7 hm_7 (hP.sub [0, 1, 2, 3] rfl) (hD.sub [0, 1, 2, 3] (by decide) rfl) hS (lv_sub hl [0, 1, 2] rfl)
set_option maxHeartbeats 4000000 in
set_option maxRecDepth 100000 in
theorem cv_X0_order (l : Launch) (D : va_G) (cB cJ : ClassId) (Hp : Heap) (x n : Nat) (kn ch : Int32) (f : Nat → Int64) (hP : va_P D vwCl (wC x n cJ kn ch f) Hp) (hD9 : va_D (fun _ => True) (wC x n cJ kn ch f)) : kM l D cB cJ yX0_order wsX0_order rm_X0_order (va_A (wC x n cJ kn ch f) Hp.size) Hp [.ref x] (kPtV D x n cB cJ (va_A (wC x n cJ kn ch f) Hp.size) kn ch f) 20 2234 := by
  refine Met.ofW (cc := cX0_order) (maxL := 3) (ret := (some (.object "java/lang/String"))) (by decide) rfl ?_
  intro p e s m args below meth c s₁ B hml hv
  obtain ⟨rfl, hHp, hE⟩ := hv
  subst hHp
  have hx := B.exec
  have hb := B.bytes
  have hr := B.returns
  have hts := atoms_spec (ws := wsX0_order) B.pre
  have hown : s.vm.findClass RX0 = some m.cls := findClass_of_methodNamed B.named
  have hlocks := B.notSynchronized
  have hK := hE.1
  have hD := hD9.self (sz := s.heap.size)
  generalize hAe : va_A (wC x n cJ kn ch f) s.heap.size = A at hE hD ⊢
  have hA : ∀ q : Nat, s.heap.size ≤ q → A q := fun q h => by rw [← hAe]; exact Or.inr h
  have hS : va_S A s.heap s.heap [] := va_S.rf
  have hl := lv_entry ([.ref x]) (n := 3) (Nat.le_of_ble_eq_true rfl)
  rw [lg_entry_eq]
  generalize (lg_sl ([.ref x]) ++ List.replicate (3 - (lg_sl ([.ref x])).length) Slot.unset).toArray = ls at hl ⊢
  have hl : lv_has ls 3 [(0, .ref x)] := hl
  refine va_new (ci := 1) (fs := [.null, .int 0, .int 0, .int 0]) (C := RJ4) (T := TJ4) (N := 4) hx hb hts iw_X0_order_J4 tyJ4 tyJ4_ok hown (hts (.classLink RX0 84 RJ4) (by decide +kernel)) (hts (.instantiable RJ4 4) (by decide +kernel)) (hts (.initialized RJ4) (by decide +kernel)) hK hP hD hS hA rfl (fun j hj => by rcases (show j = 0 ∨ j = 1 ∨ j = 2 ∨ j = 3 by omega) with rfl | rfl | rfl | rfl <;> rfl) (Nat.le_of_ble_eq_true rfl) (Nat.le_of_ble_eq_true rfl) dX0_order_0 (fun q_1 H hP hD hS => ?_)
  have hP : va_P D vwCl [(x, .inr (2, [.ref n, .int kn, .int ch])), (n, .inl (cJ, 8, .inr (.inl f))), (q_1, .inr (1, [.null, .int 0, .int 0, .int 0]))] H := hP
  have hD : va_D A [(x, .inr (2, [.ref n, .int kn, .int ch])), (n, .inl (cJ, 8, .inr (.inl f))), (q_1, .inr (1, [.null, .int 0, .int 0, .int 0]))] := hD
  refine lv_dup hx hb dX0_order_3 rfl ?_
  have hFc := va_free (wc := [(q_1, .inr (1, [.null, .int 0, .int 0, .int 0]))]) hD hS hA [2] rfl
  refine k_go (va_runI (As := []) (rest := [.ref q_1]) ⟨hx, hb, hml, hown, hts⟩ (c_J4_init_da8c8 l D cB cJ _ q_1 (hP.sub [2] rfl) ((hD.sub [2] (by decide) rfl).weaken (fun _ _ _ _ => trivial))) (cwI 0 hts gX0_order_J4_init_da8c8 rfl rfl rfl (hts (.initialized RJ4) (by decide +kernel)) (hts (.methodLink RX0 86 yJ4_init_da8c8) (by decide +kernel)) (hts (.instanceMethod yJ4_init_da8c8) (by decide +kernel)) rfl (by decide +kernel) ⟨(Nat.le_of_ble_eq_true rfl), (Nat.le_of_ble_eq_true rfl)⟩) (k_preS hE hS hFc) rfl rfl hl.1 rfl (lv_room (Nat.le_of_ble_eq_true rfl)) dX0_order_4 ⟨(Nat.le_of_ble_eq_true rfl), (Nat.le_of_ble_eq_true rfl)⟩) hS (fun q _ h => hFc q h) hFc (fun v9 H locs hp hz hk hS => ?_)
  obtain ⟨rfl, v_2, m_2, a_2, hP1, hD1, hf_2, hn_2, hk_2, hm_2⟩ := hp
  obtain ⟨hP, hD⟩ := va_join (wr := [(x, .inr (2, [.ref n, .int kn, .int ch])), (n, .inl (cJ, 8, .inr (.inl f)))]) (wc := [(q_1, .inr (1, [.null, .int 0, .int 0, .int 0]))]) (w1 := [(q_1, .inr (1, [.ref v_2, .int 0, .int 0, .int (nI 0)])), (v_2, .inl (cB, m_2, .inl a_2))]) hP hD [2] [0, 1] rfl rfl (by decide) (by decide) hk hFc hP1 hD1
  have hP : va_P D vwCl [(x, .inr (2, [.ref n, .int kn, .int ch])), (n, .inl (cJ, 8, .inr (.inl f))), (q_1, .inr (1, [.ref v_2, .int 0, .int 0, .int (nI 0)])), (v_2, .inl (cB, m_2, .inl a_2))] H := hP
  have hD : va_D A [(x, .inr (2, [.ref n, .int kn, .int ch])), (n, .inl (cJ, 8, .inr (.inl f))), (q_1, .inr (1, [.ref v_2, .int 0, .int 0, .int (nI 0)])), (v_2, .inl (cB, m_2, .inl a_2))] := hD
  refine W.eq (g2 := F0 m 7 ls [.ref q_1]) rfl ?_
  refine lv_astore_n (lv' := [(1, .ref q_1), (0, .ref x)]) hx hb dX0_order_7 rfl hl (by decide) rfl (fun ls hl => ?_)
  refine lv_iconst (v := 0) hx hb dX0_order_8 (by decide) ?_
  refine lv_istore_n (lv' := [(2, .int 0), (1, .ref q_1), (0, .ref x)]) hx hb dX0_order_9 rfl hl (by decide) rfl (fun ls hl => ?_)
  refine lpv_order hx hb hml hown hts hE hA (fun k nn H locs v cp ar ls hk8 hkS hf hnm hm hP hD hS hl => ?_) 9 0 _ _ _ _ _ _ _ rfl (by decide) ⟨rfl, fun i hi => by omega⟩ hf_2 hn_2 hm_2 (hP.sub [0, 1, 2, 3] rfl) (hD.sub [0, 1, 2, 3] (by decide) rfl) hS (lv_sub hl [0, 1, 2] rfl)
  obtain ⟨hnk, hLk⟩ := hkS
  subst hk8
  obtain rfl : nn = 15 := hnk
  refine lv_aload_n hx hb dX0_order_43 rfl (lv_at hl 1 rfl) ?_
  have hFc := va_free (wc := [(q_1, .inr (1, [.ref v, .int 0, .int 0, .int (nI 15)])), (v, .inl (cB, cp, .inl ar))]) hD hS hA [2, 3] rfl
  refine k_go (va_runV (As := []) (rest := []) ⟨hx, hb, hml, hown, hts⟩ (cv_J4_toString_0e30d l D cB cJ _ q_1 v 15 cp ar (hP.sub [2, 3] rfl) ((hD.sub [2, 3] (by decide) rfl).weaken (fun _ _ _ _ => trivial)) hf hnm hm) (cwV 0 hts gX0_order_J4_toString_0e30d rfl rfl rfl (by decide +kernel) ⟨(Nat.le_of_ble_eq_true rfl), (Nat.le_of_ble_eq_true rfl)⟩) (k_preV hE hS hFc (va_recv hK hP (ci := 1) (q0 := 2) rfl rfl)) rfl rfl hl.1 rfl (lv_room (Nat.le_of_ble_eq_true rfl)) dX0_order_44 ⟨(Nat.le_of_ble_eq_true rfl), (Nat.le_of_ble_eq_true rfl)⟩) hS (fun q _ h => hFc q h) hFc (fun v9 H locs hp hz hk hS => ?_)
  obtain ⟨q_3, u_3, f_3, rfl, hP1, hD1, hf_3, hL_3⟩ := hp
  obtain ⟨hP, hD⟩ := va_join (wr := [(x, .inr (2, [.ref n, .int kn, .int ch])), (n, .inl (cJ, 8, .inr (.inl f)))]) (wc := [(q_1, .inr (1, [.ref v, .int 0, .int 0, .int (nI 15)])), (v, .inl (cB, cp, .inl ar))]) (w1 := [(q_3, .inr (0, [.ref u_3, .int 0, .int 0, .int 0])), (u_3, .inl (cB, 15, .inl f_3))]) hP hD [2, 3] [0, 1] rfl rfl (by decide) (by decide) hk hFc hP1 hD1
  have hP : va_P D vwCl [(x, .inr (2, [.ref n, .int kn, .int ch])), (n, .inl (cJ, 8, .inr (.inl f))), (q_3, .inr (0, [.ref u_3, .int 0, .int 0, .int 0])), (u_3, .inl (cB, 15, .inl f_3))] H := hP
  have hD : va_D A [(x, .inr (2, [.ref n, .int kn, .int ch])), (n, .inl (cJ, 8, .inr (.inl f))), (q_3, .inr (0, [.ref u_3, .int 0, .int 0, .int 0])), (u_3, .inl (cB, 15, .inl f_3))] := hD
  refine W.eq (g2 := F0 m 47 ls [.ref q_3]) rfl ?_
  refine W.widen (k := 20) (n := 2234) (Nat.le_of_ble_eq_true rfl) (Nat.le_of_ble_eq_true rfl) ?_
  exact k_aret hx hb hr (Or.inl ⟨_, rfl⟩) hlocks hS dX0_order_47 ⟨_, _, _, rfl, hP.sub [0, 1, 2, 3] rfl, hD.sub [0, 1, 2, 3] (by decide) rfl, hf_3, fun i hi => (hL_3 i hi).trans (hLk i hi)⟩
theorem o_rc {g : Nat → Int64} {rk ck : Nat} (hck : ck < 8) (hrk : rk < 8) (h : nI (o_ah g ck 8) = nI rk) : o_cnt (fun k => o_ah g k 8) rk ck = rk ∧ ck = o_at g rk := by
  have h8 := o_rk8 g ck hck
  have e : o_rk g ck = rk := (nI_eq (by show o_rk g ck < 2 ^ 31; omega) (by omega)).mp h
  refine ⟨?_, by rw [← e, o_at_rk g hck]⟩
  rcases o_one (ah := o_rk g) (o_rkinj g) rk ck (by omega) with ⟨h1, -⟩ | ⟨-, k, hk, h2⟩
  · exact h1.trans (o_all (o_rkinj g) (o_rk8 g) rk (by omega))
  · have := o_rkinj g k ck (by omega) hck (by rw [h2, e])
    omega
theorem o_B {g : Nat → Int64} {rk ck cn cn' N : Nat} {a10 a11 f12 : Nat → Int32} (h0 : rk = 0) (hN : N = 0) (hcn : cn' = cn + 1) (hrc : cn = rk ∧ ck = o_at g rk) (h11 : ∀ i, i < N + 1 → a11 i = upd a10 N (nI (48 + ck)) i) (h12 : ∀ i, i < N + 1 → f12 i = a11 i) : o_S (o_L g) cn' (N + 1) f12 := by
  obtain ⟨e1, e2⟩ := hrc
  subst h0
  subst e1
  subst hcn
  subst hN
  exact o_S1 (a := a10) ⟨rfl, fun i hi => by omega⟩ e2 (fun i hi => (h12 i hi).trans (h11 i hi))
theorem o_C {g : Nat → Int64} {rk ck cn cn' nn N : Nat} {f a4 a5 a7 a8 f9 : Nat → Int32} (h0 : rk ≠ 0) (hN : N = nn) (hS : o_S (o_L g) cn nn f) (hcn : cn' = cn + 1) (hrc : cn = rk ∧ ck = o_at g rk) (h5 : ∀ i, i < N → a5 i = va_cpy f a4 0 0 nn i) (h7 : ∀ i, i < N + 1 → a7 i = va_cpy (fun j => ([32] : List Int32).getD j 0) a5 0 N 1 i) (h8 : ∀ i, i < N + 1 + 1 → a8 i = upd a7 (N + 1) (nI (48 + ck)) i) (h9 : ∀ i, i < N + 1 + 1 → f9 i = a8 i) : o_S (o_L g) cn' (N + 1 + 1) f9 := by
  obtain ⟨e1, e2⟩ := hrc
  subst hN
  subst hcn
  subst e1
  refine o_S2 (a := f) (b := a7) hS (by omega) e2 (fun i hi => ?_) (fun i hi => (h9 i hi).trans (h8 i hi))
  rw [h7 i hi]
  show (if N ≤ i ∧ i < N + 1 then ([32] : List Int32).getD (0 + (i - N)) 0 else a5 i) = (if i = N then (32 : Int32) else f i)
  by_cases c : i = N
  · rw [if_pos ⟨by omega, by omega⟩, if_pos c, c, Nat.sub_self]
    rfl
  · rw [if_neg (by omega), if_neg c, h5 i (by omega)]
    show (if 0 ≤ i ∧ i < 0 + N then f (0 + (i - 0)) else a4 i) = f i
    rw [if_pos ⟨by omega, by omega⟩]
    congr 1
    omega
def kMdV (D : va_G) (y n2 : Nat) (cJ cB : ClassId) (A : Nat → Prop) (k0 : Nat) (th : Int32) (g : Nat → Int64) (kn2 td : Int32) (cn mq : Nat) (H : Heap) : Prop := (mq = k0 ∧ cn = 0 ∧ va_P D vwCl (wMo y n2 cJ th g kn2 td) H ∧ va_D A (wMo y n2 cJ th g kn2 td)) ∨ ∃ (nn u : Nat) (f : Nat → Int32), o_S (o_L g) cn nn f ∧ va_P D vwCl (wMo y n2 cJ th g kn2 td ++ wST mq u cB nn f) H ∧ va_D A (wMo y n2 cJ th g kn2 td ++ wST mq u cB nn f) ∧ sb_Fit f
def kPmoV (D : va_G) (y n2 : Nat) (cJ cB : ClassId) (A : Nat → Prop) (th : Int32) (g : Nat → Int64) (kn2 td : Int32) : Option Value → Heap → Prop := fun v1 H1 => ∃ (q u : Nat) (f : Nat → Int32), v1 = some (.ref q) ∧ va_P D vwCl (wMo y n2 cJ th g kn2 td ++ wST q u cB 15 f) H1 ∧ va_D A (wMo y n2 cJ th g kn2 td ++ wST q u cB 15 f) ∧ sb_Fit f ∧ ∀ i, i < 15 → f i = o_L g i
set_option maxHeartbeats 4000000 in
set_option maxRecDepth 100000 in
theorem lpv_ck {p : Program} {l : Launch} {e : Env} {s : State} {m : MethodId} {args : Array Value} {below : List Frame} {meth : Method} {c : Code} {D : va_G} {cB cJ : ClassId} {A : Nat → Prop} {y n2 : Nat} {th kn2 td : Int32} {g : Nat → Int64} {Q : State → Prop} {rk : Nat} {k8 : Nat → Nat} (hx : p.tables.exec = Jvm.exec) (hb : c.code = cX2_ordered) (hml : c.maxLocals = 6) (hown : s.vm.findClass RX2 = some m.cls) (hts : ∀ w ∈ wsX2_ordered, w.before args s = true) (hE : kE D cB cJ A s s.heap) (hA : ∀ q : Nat, s.heap.size ≤ q → A q) (hL : ∀ (i : Nat) (q : Nat × String × List Int32), t_MS[i]? = some q → vk_R RX2 q.1 q.2.1 (k8 i) s ∧ kRS A s s.heap (k8 i) q.2.2.length (fun j => q.2.2.getD j 0)) (hrk : rk < 8) (kk : ∀ (mq : Nat) (H : Heap) (locs : List Loc) (ls : Array Slot), kMdV D y n2 cJ cB A (k8 0) th g kn2 td (o_cnt (fun k => o_ah g k 8) rk 8) mq H → va_S A s.heap H locs → lv_has ls 6 [(2, .int (nI rk)), (1, .ref mq), (0, .ref y)] → W p l e rm_X2_ordered s m args below meth c H locs (7 * o_cnt (fun k => o_ah g k 8) rk 8) (544 * o_cnt (fun k => o_ah g k 8) rk 8) Q (F0 m 133 ls [])) : ∀ (u9 : Nat) (ck : Nat) (mq : Nat) (H : Heap) (locs : List Loc) (ls : Array Slot), ck + u9 = 9 → ck ≤ 8 → kMdV D y n2 cJ cB A (k8 0) th g kn2 td (o_cnt (fun k => o_ah g k 8) rk ck) mq H → va_S A s.heap H locs → lv_has ls 6 [(3, .int (nI ck)), (2, .int (nI rk)), (1, .ref mq), (0, .ref y)] → W p l e rm_X2_ordered s m args below meth c H locs (7 * o_cnt (fun k => o_ah g k 8) rk ck) (544 * o_cnt (fun k => o_ah g k 8) rk ck) Q (F0 m 13 ls []) := by
  have hK := hE.1
  intro u9
  induction u9 with
  | zero =>
    intro ck mq H locs ls h9 h19
    exact absurd h9 (by omega)
  | succ u9 ih =>
    intro ck mq H locs ls h9 hc9 hM hS hl
    have hcle := o_cnt_le (fun k => o_ah g k 8) rk ck
    rcases hM with ⟨rfl, h00, hP, hD⟩ | ⟨nn, u, f, hnS, hP, hD, hfq⟩
    · have hP : va_P D vwCl [(y, .inr (4, [.int th, .ref n2, .int kn2, .int td])), (n2, .inl (cJ, 8, .inr (.inl g)))] H := hP
      have hD : va_D A [(y, .inr (4, [.int th, .ref n2, .int kn2, .int td])), (n2, .inl (cJ, 8, .inr (.inl g)))] := hD
      refine lv_iload_n hx hb dX2_ordered_13 rfl (lv_at hl 0 rfl) ?_
      refine lv_bipush (v := 8) hx hb dX2_ordered_14 (by decide) ?_
      refine lv_icmp_ge (tgt := 133) hx hb dX2_ordered_16 (by decide) (fun c_1 => ?_) (fun c_1 => ?_)
      · obtain rfl : ck = 8 := by have h9 := c_1; rcases Nat.lt_or_ge ck 8 with z | z; exact absurd ((nI_leI (by decide) (by omega)).mp (show nI 8 ≤ nI ck from h9)) (by omega); omega
        exact kk _ _ _ _ (Or.inl ⟨rfl, h00, hP, hD⟩) hS (lv_sub hl [1, 2, 3] rfl)
      · have hck : ck < 8 := Nat.lt_of_not_le (fun q => c_1 (nI_le q (by omega)))
        refine lv_iconst (v := 0) hx hb dX2_ordered_19 (by decide) ?_
        refine lv_istore (lv' := [(4, .int 0), (3, .int (nI ck)), (2, .int (nI rk)), (1, .ref (k8 0)), (0, .ref y)]) hx hb dX2_ordered_20 hl (by decide) rfl (fun ls hl => ?_)
        refine lv_iconst (v := 0) hx hb dX2_ordered_22 (by decide) ?_
        refine lv_istore (lv' := [(5, .int 0), (4, .int 0), (3, .int (nI ck)), (2, .int (nI rk)), (1, .ref (k8 0)), (0, .ref y)]) hx hb dX2_ordered_23 hl (by decide) rfl (fun ls hl => ?_)
        refine lpo_in hx hb hml hown hts hE (hP.sub [0, 1] rfl) hS (by omega) (fun ls hl => ?_) 9 0 _ _ rfl (by decide) nI_0.symm (lv_sub hl [1, 0, 2, 3, 4, 5] rfl)
        refine lv_iload hx hb dX2_ordered_88 (lv_at hl 0 rfl) ?_
        refine lv_iload_n hx hb dX2_ordered_90 rfl (lv_at hl 2 rfl) ?_
        refine lv_icmp_ne (tgt := 127) hx hb dX2_ordered_91 (by decide) (fun c_2 => ?_) (fun c_2 => ?_)
        · have hcn := q_cntN (fun k => o_ah g k 8) (rk := rk) hck c_2
          refine lv_iinc (v := ((nI ck) + 1)) (lv' := [(3, .int ((nI ck) + 1)), (4, .int (nI (o_ah g ck 8))), (2, .int (nI rk)), (1, .ref (k8 0)), (0, .ref y)]) hx hb dX2_ordered_127 hl (k := 1) rfl rfl (by decide) rfl (fun ls hl => ?_)
          refine lv_goto (tgt := 13) hx hb dX2_ordered_130 (by decide) ?_
          rw [nI_1] at hl
          refine W.widen (k := 7 * o_cnt (fun k => o_ah g k 8) rk (ck + 1)) (n := 544 * o_cnt (fun k => o_ah g k 8) rk (ck + 1)) (by omega) (by omega) ?_
          exact ih (ck + 1) _ _ _ _ (by omega) (by omega) (Or.inl ⟨rfl, by omega, hP.sub [0, 1] rfl, hD.sub [0, 1] (by decide) rfl⟩) hS (lv_sub hl [0, 2, 3, 4] rfl)
        · have hcn := q_cntE (fun k => o_ah g k 8) (fun k _ => o_ah_le g k 8) (rk := rk) (by omega) hck c_2
          have hrc := o_rc hck hrk c_2
          have hcle2 := o_cnt_le (fun k => o_ah g k 8) rk (ck + 1)
          refine va_new (ci := 1) (fs := [.null, .int 0, .int 0, .int 0]) (C := RJ4) (T := TJ4) (N := 4) hx hb hts iw_X2_ordered_J4 tyJ4 tyJ4_ok hown (hts (.classLink RX2 79 RJ4) (by decide +kernel)) (hts (.instantiable RJ4 4) (by decide +kernel)) (hts (.initialized RJ4) (by decide +kernel)) hK hP hD hS hA rfl (fun j hj => by rcases (show j = 0 ∨ j = 1 ∨ j = 2 ∨ j = 3 by omega) with rfl | rfl | rfl | rfl <;> rfl) (by show _ ≤ (60 : Nat); omega) (by show _ ≤ (4500 : Nat); omega) dX2_ordered_94 (fun q_3 H hP hD hS => ?_)
          have hP : va_P D vwCl [(y, .inr (4, [.int th, .ref n2, .int kn2, .int td])), (n2, .inl (cJ, 8, .inr (.inl g))), (q_3, .inr (1, [.null, .int 0, .int 0, .int 0]))] H := hP
          have hD : va_D A [(y, .inr (4, [.int th, .ref n2, .int kn2, .int td])), (n2, .inl (cJ, 8, .inr (.inl g))), (q_3, .inr (1, [.null, .int 0, .int 0, .int 0]))] := hD
          refine lv_dup hx hb dX2_ordered_97 rfl ?_
          have hFc := va_free (wc := [(q_3, .inr (1, [.null, .int 0, .int 0, .int 0]))]) hD hS hA [2] rfl
          refine k_go (va_runI (As := []) (rest := [.ref q_3]) ⟨hx, hb, hml, hown, hts⟩ (c_J4_init_da8c8 l D cB cJ _ q_3 (hP.sub [2] rfl) ((hD.sub [2] (by decide) rfl).weaken (fun _ _ _ _ => trivial))) (cwI 0 hts gX2_ordered_J4_init_da8c8 rfl rfl rfl (hts (.initialized RJ4) (by decide +kernel)) (hts (.methodLink RX2 81 yJ4_init_da8c8) (by decide +kernel)) (hts (.instanceMethod yJ4_init_da8c8) (by decide +kernel)) rfl (by decide +kernel) ⟨(Nat.le_of_ble_eq_true rfl), (Nat.le_of_ble_eq_true rfl)⟩) (k_preS hE hS hFc) rfl rfl hl.1 rfl (lv_room (Nat.le_of_ble_eq_true rfl)) dX2_ordered_98 ⟨by show _ ≤ (60 : Nat); omega, by show _ ≤ (4500 : Nat); omega⟩) hS (fun q _ h => hFc q h) hFc (fun v9 H locs hp hz hk hS => ?_)
          obtain ⟨rfl, v_4, m_4, a_4, hP1, hD1, hf_4, hn_4, hk_4, hm_4⟩ := hp
          obtain ⟨hP, hD⟩ := va_join (wr := [(y, .inr (4, [.int th, .ref n2, .int kn2, .int td])), (n2, .inl (cJ, 8, .inr (.inl g)))]) (wc := [(q_3, .inr (1, [.null, .int 0, .int 0, .int 0]))]) (w1 := [(q_3, .inr (1, [.ref v_4, .int 0, .int 0, .int (nI 0)])), (v_4, .inl (cB, m_4, .inl a_4))]) hP hD [2] [0, 1] rfl rfl (by decide) (by decide) hk hFc hP1 hD1
          have hP : va_P D vwCl [(y, .inr (4, [.int th, .ref n2, .int kn2, .int td])), (n2, .inl (cJ, 8, .inr (.inl g))), (q_3, .inr (1, [.ref v_4, .int 0, .int 0, .int (nI 0)])), (v_4, .inl (cB, m_4, .inl a_4))] H := hP
          have hD : va_D A [(y, .inr (4, [.int th, .ref n2, .int kn2, .int td])), (n2, .inl (cJ, 8, .inr (.inl g))), (q_3, .inr (1, [.ref v_4, .int 0, .int 0, .int (nI 0)])), (v_4, .inl (cB, m_4, .inl a_4))] := hD
          refine W.eq (g2 := F0 m 101 ls [.ref q_3]) rfl ?_
          refine lv_aload_n hx hb dX2_ordered_101 rfl (lv_at hl 3 rfl) ?_
          have hFc := va_free (wc := [(q_3, .inr (1, [.ref v_4, .int 0, .int 0, .int (nI 0)])), (v_4, .inl (cB, m_4, .inl a_4))]) hD hS hA [2, 3] rfl
          refine k_go (va_runV (As := [.ref (k8 0)]) (rest := []) ⟨hx, hb, hml, hown, hts⟩ (cv_J4_append_15ec4 l D cB cJ _ q_3 v_4 0 m_4 a_4 (hP.sub [2, 3] rfl) ((hD.sub [2, 3] (by decide) rfl).weaken (fun _ _ _ _ => trivial)) (k8 0) 0 (fun j => ([] : List Int32).getD j 0) q_msf0 hf_4 hn_4 hm_4 (by omega)) (cwV 1 hts gX2_ordered_J4_append_15ec4 rfl rfl rfl (by decide +kernel) ⟨(Nat.le_of_ble_eq_true rfl), (Nat.le_of_ble_eq_true rfl)⟩) (k_preRV hE (hL 0 _ rfl).2 hS hFc (va_recv hK hP (ci := 1) (q0 := 2) rfl rfl)) rfl rfl hl.1 rfl (lv_room (Nat.le_of_ble_eq_true rfl)) dX2_ordered_102 ⟨by show _ ≤ (60 : Nat); omega, by show _ ≤ (4500 : Nat); omega⟩) hS (fun q _ h => hFc q h) hFc (fun v9 H locs hp hz hk hS => ?_)
          obtain ⟨rfl, v_5, m_5, a_5, hP1, hD1, hf_5, hn_5, hm_5, hL_5⟩ := hp
          obtain ⟨hP, hD⟩ := va_join (wr := [(y, .inr (4, [.int th, .ref n2, .int kn2, .int td])), (n2, .inl (cJ, 8, .inr (.inl g)))]) (wc := [(q_3, .inr (1, [.ref v_4, .int 0, .int 0, .int (nI 0)])), (v_4, .inl (cB, m_4, .inl a_4))]) (w1 := [(q_3, .inr (1, [.ref v_5, .int 0, .int 0, .int (nI (0 + 0))])), (v_5, .inl (cB, m_5, .inl a_5))]) hP hD [2, 3] [0, 1] rfl rfl (by decide) (by decide) hk hFc hP1 hD1
          have hP : va_P D vwCl [(y, .inr (4, [.int th, .ref n2, .int kn2, .int td])), (n2, .inl (cJ, 8, .inr (.inl g))), (q_3, .inr (1, [.ref v_5, .int 0, .int 0, .int (nI (0 + 0))])), (v_5, .inl (cB, m_5, .inl a_5))] H := hP
          have hD : va_D A [(y, .inr (4, [.int th, .ref n2, .int kn2, .int td])), (n2, .inl (cJ, 8, .inr (.inl g))), (q_3, .inr (1, [.ref v_5, .int 0, .int 0, .int (nI (0 + 0))])), (v_5, .inl (cB, m_5, .inl a_5))] := hD
          refine W.eq (g2 := F0 m 105 ls [.ref q_3]) rfl ?_
          refine lv_iload_n hx hb dX2_ordered_105 rfl (lv_at hl 2 rfl) ?_
          refine lv_if_ne (tgt := 114) hx hb dX2_ordered_106 (by decide) (fun c_6 => ?_) (fun c_6 => ?_)
          · refine va_ldcS hx hb hown (hL 1 _ rfl).1 dX2_ordered_114 ?_
            have hFc := va_free (wc := [(q_3, .inr (1, [.ref v_5, .int 0, .int 0, .int (nI (0 + 0))])), (v_5, .inl (cB, m_5, .inl a_5))]) hD hS hA [2, 3] rfl
            refine k_go (va_runV (As := [.ref (k8 1)]) (rest := []) ⟨hx, hb, hml, hown, hts⟩ (cv_J4_append_15ec4 l D cB cJ _ q_3 v_5 (0 + 0) m_5 a_5 (hP.sub [2, 3] rfl) ((hD.sub [2, 3] (by decide) rfl).weaken (fun _ _ _ _ => trivial)) (k8 1) 1 (fun j => ([32] : List Int32).getD j 0) (q_msf1 _ (by decide)) hf_5 hn_5 hm_5 (by omega)) (cwV 1 hts gX2_ordered_J4_append_15ec4 rfl rfl rfl (by decide +kernel) ⟨(Nat.le_of_ble_eq_true rfl), (Nat.le_of_ble_eq_true rfl)⟩) (k_preRV hE (hL 1 _ rfl).2 hS hFc (va_recv hK hP (ci := 1) (q0 := 2) rfl rfl)) rfl rfl hl.1 rfl (lv_room (Nat.le_of_ble_eq_true rfl)) dX2_ordered_116 ⟨by show _ ≤ (60 : Nat); omega, by show _ ≤ (4500 : Nat); omega⟩) hS (fun q _ h => hFc q h) hFc (fun v9 H locs hp hz hk hS => ?_)
            obtain ⟨rfl, v_7, m_7, a_7, hP1, hD1, hf_7, hn_7, hm_7, hL_7⟩ := hp
            obtain ⟨hP, hD⟩ := va_join (wr := [(y, .inr (4, [.int th, .ref n2, .int kn2, .int td])), (n2, .inl (cJ, 8, .inr (.inl g)))]) (wc := [(q_3, .inr (1, [.ref v_5, .int 0, .int 0, .int (nI (0 + 0))])), (v_5, .inl (cB, m_5, .inl a_5))]) (w1 := [(q_3, .inr (1, [.ref v_7, .int 0, .int 0, .int (nI ((0 + 0) + 1))])), (v_7, .inl (cB, m_7, .inl a_7))]) hP hD [2, 3] [0, 1] rfl rfl (by decide) (by decide) hk hFc hP1 hD1
            have hP : va_P D vwCl [(y, .inr (4, [.int th, .ref n2, .int kn2, .int td])), (n2, .inl (cJ, 8, .inr (.inl g))), (q_3, .inr (1, [.ref v_7, .int 0, .int 0, .int (nI ((0 + 0) + 1))])), (v_7, .inl (cB, m_7, .inl a_7))] H := hP
            have hD : va_D A [(y, .inr (4, [.int th, .ref n2, .int kn2, .int td])), (n2, .inl (cJ, 8, .inr (.inl g))), (q_3, .inr (1, [.ref v_7, .int 0, .int 0, .int (nI ((0 + 0) + 1))])), (v_7, .inl (cB, m_7, .inl a_7))] := hD
            refine W.eq (g2 := F0 m 119 ls [.ref q_3]) rfl ?_
            refine lv_iload_n hx hb dX2_ordered_119 rfl (lv_at hl 1 rfl) ?_
            have hFc := va_free (wc := [(q_3, .inr (1, [.ref v_7, .int 0, .int 0, .int (nI ((0 + 0) + 1))])), (v_7, .inl (cB, m_7, .inl a_7))]) hD hS hA [2, 3] rfl
            refine k_go (va_runV (As := [.int (nI ck)]) (rest := []) ⟨hx, hb, hml, hown, hts⟩ (cv_J4_append_bf812 l D cB cJ _ q_3 v_7 ((0 + 0) + 1) m_7 a_7 (hP.sub [2, 3] rfl) ((hD.sub [2, 3] (by decide) rfl).weaken (fun _ _ _ _ => trivial)) ck hf_7 hn_7 hm_7 (by omega) (by omega)) (cwV 1 hts gX2_ordered_J4_append_bf812 rfl rfl rfl (by decide +kernel) ⟨(Nat.le_of_ble_eq_true rfl), (Nat.le_of_ble_eq_true rfl)⟩) (k_preV hE hS hFc (va_recv hK hP (ci := 1) (q0 := 2) rfl rfl)) rfl rfl hl.1 rfl (lv_room (Nat.le_of_ble_eq_true rfl)) dX2_ordered_120 ⟨by show _ ≤ (60 : Nat); omega, by show _ ≤ (4500 : Nat); omega⟩) hS (fun q _ h => hFc q h) hFc (fun v9 H locs hp hz hk hS => ?_)
            obtain ⟨rfl, v_8, m_8, a_8, hP1, hD1, hf_8, hn_8, hm_8, hL_8⟩ := hp
            obtain ⟨hP, hD⟩ := va_join (wr := [(y, .inr (4, [.int th, .ref n2, .int kn2, .int td])), (n2, .inl (cJ, 8, .inr (.inl g)))]) (wc := [(q_3, .inr (1, [.ref v_7, .int 0, .int 0, .int (nI ((0 + 0) + 1))])), (v_7, .inl (cB, m_7, .inl a_7))]) (w1 := [(q_3, .inr (1, [.ref v_8, .int 0, .int 0, .int (nI (((0 + 0) + 1) + 1))])), (v_8, .inl (cB, m_8, .inl a_8))]) hP hD [2, 3] [0, 1] rfl rfl (by decide) (by decide) hk hFc hP1 hD1
            have hP : va_P D vwCl [(y, .inr (4, [.int th, .ref n2, .int kn2, .int td])), (n2, .inl (cJ, 8, .inr (.inl g))), (q_3, .inr (1, [.ref v_8, .int 0, .int 0, .int (nI (((0 + 0) + 1) + 1))])), (v_8, .inl (cB, m_8, .inl a_8))] H := hP
            have hD : va_D A [(y, .inr (4, [.int th, .ref n2, .int kn2, .int td])), (n2, .inl (cJ, 8, .inr (.inl g))), (q_3, .inr (1, [.ref v_8, .int 0, .int 0, .int (nI (((0 + 0) + 1) + 1))])), (v_8, .inl (cB, m_8, .inl a_8))] := hD
            refine W.eq (g2 := F0 m 123 ls [.ref q_3]) rfl ?_
            have hFc := va_free (wc := [(q_3, .inr (1, [.ref v_8, .int 0, .int 0, .int (nI (((0 + 0) + 1) + 1))])), (v_8, .inl (cB, m_8, .inl a_8))]) hD hS hA [2, 3] rfl
            refine k_go (va_runV (As := []) (rest := []) ⟨hx, hb, hml, hown, hts⟩ (cv_J4_toString_0e30d l D cB cJ _ q_3 v_8 (((0 + 0) + 1) + 1) m_8 a_8 (hP.sub [2, 3] rfl) ((hD.sub [2, 3] (by decide) rfl).weaken (fun _ _ _ _ => trivial)) hf_8 hn_8 hm_8) (cwV 0 hts gX2_ordered_J4_toString_0e30d rfl rfl rfl (by decide +kernel) ⟨(Nat.le_of_ble_eq_true rfl), (Nat.le_of_ble_eq_true rfl)⟩) (k_preV hE hS hFc (va_recv hK hP (ci := 1) (q0 := 2) rfl rfl)) rfl rfl hl.1 rfl (lv_room (Nat.le_of_ble_eq_true rfl)) dX2_ordered_123 ⟨by show _ ≤ (60 : Nat); omega, by show _ ≤ (4500 : Nat); omega⟩) hS (fun q _ h => hFc q h) hFc (fun v9 H locs hp hz hk hS => ?_)
            obtain ⟨q_9, u_9, f_9, rfl, hP1, hD1, hf_9, hL_9⟩ := hp
            obtain ⟨hP, hD⟩ := va_join (wr := [(y, .inr (4, [.int th, .ref n2, .int kn2, .int td])), (n2, .inl (cJ, 8, .inr (.inl g)))]) (wc := [(q_3, .inr (1, [.ref v_8, .int 0, .int 0, .int (nI (((0 + 0) + 1) + 1))])), (v_8, .inl (cB, m_8, .inl a_8))]) (w1 := [(q_9, .inr (0, [.ref u_9, .int 0, .int 0, .int 0])), (u_9, .inl (cB, (((0 + 0) + 1) + 1), .inl f_9))]) hP hD [2, 3] [0, 1] rfl rfl (by decide) (by decide) hk hFc hP1 hD1
            have hP : va_P D vwCl [(y, .inr (4, [.int th, .ref n2, .int kn2, .int td])), (n2, .inl (cJ, 8, .inr (.inl g))), (q_9, .inr (0, [.ref u_9, .int 0, .int 0, .int 0])), (u_9, .inl (cB, (((0 + 0) + 1) + 1), .inl f_9))] H := hP
            have hD : va_D A [(y, .inr (4, [.int th, .ref n2, .int kn2, .int td])), (n2, .inl (cJ, 8, .inr (.inl g))), (q_9, .inr (0, [.ref u_9, .int 0, .int 0, .int 0])), (u_9, .inl (cB, (((0 + 0) + 1) + 1), .inl f_9))] := hD
            refine W.eq (g2 := F0 m 126 ls [.ref q_9]) rfl ?_
            refine lv_astore_n (lv' := [(1, .ref q_9), (4, .int (nI (o_ah g ck 8))), (3, .int (nI ck)), (2, .int (nI rk)), (0, .ref y)]) hx hb dX2_ordered_126 rfl hl (by decide) rfl (fun ls hl => ?_)
            refine lv_iinc (v := ((nI ck) + 1)) (lv' := [(3, .int ((nI ck) + 1)), (1, .ref q_9), (4, .int (nI (o_ah g ck 8))), (2, .int (nI rk)), (0, .ref y)]) hx hb dX2_ordered_127 hl (k := 2) rfl rfl (by decide) rfl (fun ls hl => ?_)
            refine lv_goto (tgt := 13) hx hb dX2_ordered_130 (by decide) ?_
            rw [nI_1] at hl
            refine W.widen (k := 7 * o_cnt (fun k => o_ah g k 8) rk (ck + 1)) (n := 544 * o_cnt (fun k => o_ah g k 8) rk (ck + 1)) (by omega) (by omega) ?_
            have h60 : rk ≠ 0 := fun z => c_6 (by rw [z]; decide)
            have h9S : o_S (o_L g) (o_cnt (fun k => o_ah g k 8) rk (ck + 1)) (((0 + 0) + 1) + 1) f_9 := absurd (by omega) h60
            exact ih (ck + 1) _ _ _ _ (by omega) (by omega) (Or.inr ⟨_, _, _, h9S, hP.sub [0, 1, 2, 3] rfl, hD.sub [0, 1, 2, 3] (by decide) rfl, hf_9⟩) hS (lv_sub hl [0, 3, 1, 4] rfl)
          · refine va_ldcS hx hb hown (hL 0 _ rfl).1 dX2_ordered_109 ?_
            refine lv_goto (tgt := 116) hx hb dX2_ordered_111 (by decide) ?_
            have hFc := va_free (wc := [(q_3, .inr (1, [.ref v_5, .int 0, .int 0, .int (nI (0 + 0))])), (v_5, .inl (cB, m_5, .inl a_5))]) hD hS hA [2, 3] rfl
            refine k_go (va_runV (As := [.ref (k8 0)]) (rest := []) ⟨hx, hb, hml, hown, hts⟩ (cv_J4_append_15ec4 l D cB cJ _ q_3 v_5 (0 + 0) m_5 a_5 (hP.sub [2, 3] rfl) ((hD.sub [2, 3] (by decide) rfl).weaken (fun _ _ _ _ => trivial)) (k8 0) 0 (fun j => ([] : List Int32).getD j 0) q_msf0 hf_5 hn_5 hm_5 (by omega)) (cwV 1 hts gX2_ordered_J4_append_15ec4 rfl rfl rfl (by decide +kernel) ⟨(Nat.le_of_ble_eq_true rfl), (Nat.le_of_ble_eq_true rfl)⟩) (k_preRV hE (hL 0 _ rfl).2 hS hFc (va_recv hK hP (ci := 1) (q0 := 2) rfl rfl)) rfl rfl hl.1 rfl (lv_room (Nat.le_of_ble_eq_true rfl)) dX2_ordered_116 ⟨by show _ ≤ (60 : Nat); omega, by show _ ≤ (4500 : Nat); omega⟩) hS (fun q _ h => hFc q h) hFc (fun v9 H locs hp hz hk hS => ?_)
            obtain ⟨rfl, v_10, m_10, a_10, hP1, hD1, hf_10, hn_10, hm_10, hL_10⟩ := hp
            obtain ⟨hP, hD⟩ := va_join (wr := [(y, .inr (4, [.int th, .ref n2, .int kn2, .int td])), (n2, .inl (cJ, 8, .inr (.inl g)))]) (wc := [(q_3, .inr (1, [.ref v_5, .int 0, .int 0, .int (nI (0 + 0))])), (v_5, .inl (cB, m_5, .inl a_5))]) (w1 := [(q_3, .inr (1, [.ref v_10, .int 0, .int 0, .int (nI ((0 + 0) + 0))])), (v_10, .inl (cB, m_10, .inl a_10))]) hP hD [2, 3] [0, 1] rfl rfl (by decide) (by decide) hk hFc hP1 hD1
            have hP : va_P D vwCl [(y, .inr (4, [.int th, .ref n2, .int kn2, .int td])), (n2, .inl (cJ, 8, .inr (.inl g))), (q_3, .inr (1, [.ref v_10, .int 0, .int 0, .int (nI ((0 + 0) + 0))])), (v_10, .inl (cB, m_10, .inl a_10))] H := hP
            have hD : va_D A [(y, .inr (4, [.int th, .ref n2, .int kn2, .int td])), (n2, .inl (cJ, 8, .inr (.inl g))), (q_3, .inr (1, [.ref v_10, .int 0, .int 0, .int (nI ((0 + 0) + 0))])), (v_10, .inl (cB, m_10, .inl a_10))] := hD
            refine W.eq (g2 := F0 m 119 ls [.ref q_3]) rfl ?_
            refine lv_iload_n hx hb dX2_ordered_119 rfl (lv_at hl 1 rfl) ?_
            have hFc := va_free (wc := [(q_3, .inr (1, [.ref v_10, .int 0, .int 0, .int (nI ((0 + 0) + 0))])), (v_10, .inl (cB, m_10, .inl a_10))]) hD hS hA [2, 3] rfl
            refine k_go (va_runV (As := [.int (nI ck)]) (rest := []) ⟨hx, hb, hml, hown, hts⟩ (cv_J4_append_bf812 l D cB cJ _ q_3 v_10 ((0 + 0) + 0) m_10 a_10 (hP.sub [2, 3] rfl) ((hD.sub [2, 3] (by decide) rfl).weaken (fun _ _ _ _ => trivial)) ck hf_10 hn_10 hm_10 (by omega) (by omega)) (cwV 1 hts gX2_ordered_J4_append_bf812 rfl rfl rfl (by decide +kernel) ⟨(Nat.le_of_ble_eq_true rfl), (Nat.le_of_ble_eq_true rfl)⟩) (k_preV hE hS hFc (va_recv hK hP (ci := 1) (q0 := 2) rfl rfl)) rfl rfl hl.1 rfl (lv_room (Nat.le_of_ble_eq_true rfl)) dX2_ordered_120 ⟨by show _ ≤ (60 : Nat); omega, by show _ ≤ (4500 : Nat); omega⟩) hS (fun q _ h => hFc q h) hFc (fun v9 H locs hp hz hk hS => ?_)
            obtain ⟨rfl, v_11, m_11, a_11, hP1, hD1, hf_11, hn_11, hm_11, hL_11⟩ := hp
            obtain ⟨hP, hD⟩ := va_join (wr := [(y, .inr (4, [.int th, .ref n2, .int kn2, .int td])), (n2, .inl (cJ, 8, .inr (.inl g)))]) (wc := [(q_3, .inr (1, [.ref v_10, .int 0, .int 0, .int (nI ((0 + 0) + 0))])), (v_10, .inl (cB, m_10, .inl a_10))]) (w1 := [(q_3, .inr (1, [.ref v_11, .int 0, .int 0, .int (nI (((0 + 0) + 0) + 1))])), (v_11, .inl (cB, m_11, .inl a_11))]) hP hD [2, 3] [0, 1] rfl rfl (by decide) (by decide) hk hFc hP1 hD1
            have hP : va_P D vwCl [(y, .inr (4, [.int th, .ref n2, .int kn2, .int td])), (n2, .inl (cJ, 8, .inr (.inl g))), (q_3, .inr (1, [.ref v_11, .int 0, .int 0, .int (nI (((0 + 0) + 0) + 1))])), (v_11, .inl (cB, m_11, .inl a_11))] H := hP
            have hD : va_D A [(y, .inr (4, [.int th, .ref n2, .int kn2, .int td])), (n2, .inl (cJ, 8, .inr (.inl g))), (q_3, .inr (1, [.ref v_11, .int 0, .int 0, .int (nI (((0 + 0) + 0) + 1))])), (v_11, .inl (cB, m_11, .inl a_11))] := hD
            refine W.eq (g2 := F0 m 123 ls [.ref q_3]) rfl ?_
            have hFc := va_free (wc := [(q_3, .inr (1, [.ref v_11, .int 0, .int 0, .int (nI (((0 + 0) + 0) + 1))])), (v_11, .inl (cB, m_11, .inl a_11))]) hD hS hA [2, 3] rfl
            refine k_go (va_runV (As := []) (rest := []) ⟨hx, hb, hml, hown, hts⟩ (cv_J4_toString_0e30d l D cB cJ _ q_3 v_11 (((0 + 0) + 0) + 1) m_11 a_11 (hP.sub [2, 3] rfl) ((hD.sub [2, 3] (by decide) rfl).weaken (fun _ _ _ _ => trivial)) hf_11 hn_11 hm_11) (cwV 0 hts gX2_ordered_J4_toString_0e30d rfl rfl rfl (by decide +kernel) ⟨(Nat.le_of_ble_eq_true rfl), (Nat.le_of_ble_eq_true rfl)⟩) (k_preV hE hS hFc (va_recv hK hP (ci := 1) (q0 := 2) rfl rfl)) rfl rfl hl.1 rfl (lv_room (Nat.le_of_ble_eq_true rfl)) dX2_ordered_123 ⟨by show _ ≤ (60 : Nat); omega, by show _ ≤ (4500 : Nat); omega⟩) hS (fun q _ h => hFc q h) hFc (fun v9 H locs hp hz hk hS => ?_)
            obtain ⟨q_12, u_12, f_12, rfl, hP1, hD1, hf_12, hL_12⟩ := hp
            obtain ⟨hP, hD⟩ := va_join (wr := [(y, .inr (4, [.int th, .ref n2, .int kn2, .int td])), (n2, .inl (cJ, 8, .inr (.inl g)))]) (wc := [(q_3, .inr (1, [.ref v_11, .int 0, .int 0, .int (nI (((0 + 0) + 0) + 1))])), (v_11, .inl (cB, m_11, .inl a_11))]) (w1 := [(q_12, .inr (0, [.ref u_12, .int 0, .int 0, .int 0])), (u_12, .inl (cB, (((0 + 0) + 0) + 1), .inl f_12))]) hP hD [2, 3] [0, 1] rfl rfl (by decide) (by decide) hk hFc hP1 hD1
            have hP : va_P D vwCl [(y, .inr (4, [.int th, .ref n2, .int kn2, .int td])), (n2, .inl (cJ, 8, .inr (.inl g))), (q_12, .inr (0, [.ref u_12, .int 0, .int 0, .int 0])), (u_12, .inl (cB, (((0 + 0) + 0) + 1), .inl f_12))] H := hP
            have hD : va_D A [(y, .inr (4, [.int th, .ref n2, .int kn2, .int td])), (n2, .inl (cJ, 8, .inr (.inl g))), (q_12, .inr (0, [.ref u_12, .int 0, .int 0, .int 0])), (u_12, .inl (cB, (((0 + 0) + 0) + 1), .inl f_12))] := hD
            refine W.eq (g2 := F0 m 126 ls [.ref q_12]) rfl ?_
            refine lv_astore_n (lv' := [(1, .ref q_12), (4, .int (nI (o_ah g ck 8))), (3, .int (nI ck)), (2, .int (nI rk)), (0, .ref y)]) hx hb dX2_ordered_126 rfl hl (by decide) rfl (fun ls hl => ?_)
            refine lv_iinc (v := ((nI ck) + 1)) (lv' := [(3, .int ((nI ck) + 1)), (1, .ref q_12), (4, .int (nI (o_ah g ck 8))), (2, .int (nI rk)), (0, .ref y)]) hx hb dX2_ordered_127 hl (k := 2) rfl rfl (by decide) rfl (fun ls hl => ?_)
            refine lv_goto (tgt := 13) hx hb dX2_ordered_130 (by decide) ?_
            rw [nI_1] at hl
            refine W.widen (k := 7 * o_cnt (fun k => o_ah g k 8) rk (ck + 1)) (n := 544 * o_cnt (fun k => o_ah g k 8) rk (ck + 1)) (by omega) (by omega) ?_
            have h60 : rk = 0 := by
              rcases Nat.eq_zero_or_pos rk with z | z
              · exact z
              · exact absurd c_6 (nI_ne0 z (by omega))
            have h9S : o_S (o_L g) (o_cnt (fun k => o_ah g k 8) rk (ck + 1)) (((0 + 0) + 0) + 1) f_12 := o_B h60 rfl hcn hrc hL_11 hL_12
            exact ih (ck + 1) _ _ _ _ (by omega) (by omega) (Or.inr ⟨_, _, _, h9S, hP.sub [0, 1, 2, 3] rfl, hD.sub [0, 1, 2, 3] (by decide) rfl, hf_12⟩) hS (lv_sub hl [0, 3, 1, 4] rfl)
    · have hn2c := hnS.1
      have hP : va_P D vwCl [(y, .inr (4, [.int th, .ref n2, .int kn2, .int td])), (n2, .inl (cJ, 8, .inr (.inl g))), (mq, .inr (0, [.ref u, .int 0, .int 0, .int 0])), (u, .inl (cB, nn, .inl f))] H := hP
      have hD : va_D A [(y, .inr (4, [.int th, .ref n2, .int kn2, .int td])), (n2, .inl (cJ, 8, .inr (.inl g))), (mq, .inr (0, [.ref u, .int 0, .int 0, .int 0])), (u, .inl (cB, nn, .inl f))] := hD
      refine lv_iload_n hx hb dX2_ordered_13 rfl (lv_at hl 0 rfl) ?_
      refine lv_bipush (v := 8) hx hb dX2_ordered_14 (by decide) ?_
      refine lv_icmp_ge (tgt := 133) hx hb dX2_ordered_16 (by decide) (fun c_1 => ?_) (fun c_1 => ?_)
      · obtain rfl : ck = 8 := by have h9 := c_1; rcases Nat.lt_or_ge ck 8 with z | z; exact absurd ((nI_leI (by decide) (by omega)).mp (show nI 8 ≤ nI ck from h9)) (by omega); omega
        exact kk _ _ _ _ (Or.inr ⟨_, _, _, hnS, hP, hD, hfq⟩) hS (lv_sub hl [1, 2, 3] rfl)
      · have hck : ck < 8 := Nat.lt_of_not_le (fun q => c_1 (nI_le q (by omega)))
        refine lv_iconst (v := 0) hx hb dX2_ordered_19 (by decide) ?_
        refine lv_istore (lv' := [(4, .int 0), (3, .int (nI ck)), (2, .int (nI rk)), (1, .ref mq), (0, .ref y)]) hx hb dX2_ordered_20 hl (by decide) rfl (fun ls hl => ?_)
        refine lv_iconst (v := 0) hx hb dX2_ordered_22 (by decide) ?_
        refine lv_istore (lv' := [(5, .int 0), (4, .int 0), (3, .int (nI ck)), (2, .int (nI rk)), (1, .ref mq), (0, .ref y)]) hx hb dX2_ordered_23 hl (by decide) rfl (fun ls hl => ?_)
        refine lpo_in hx hb hml hown hts hE (hP.sub [0, 1] rfl) hS (by omega) (fun ls hl => ?_) 9 0 _ _ rfl (by decide) nI_0.symm (lv_sub hl [1, 0, 2, 3, 4, 5] rfl)
        refine lv_iload hx hb dX2_ordered_88 (lv_at hl 0 rfl) ?_
        refine lv_iload_n hx hb dX2_ordered_90 rfl (lv_at hl 2 rfl) ?_
        refine lv_icmp_ne (tgt := 127) hx hb dX2_ordered_91 (by decide) (fun c_2 => ?_) (fun c_2 => ?_)
        · have hcn := q_cntN (fun k => o_ah g k 8) (rk := rk) hck c_2
          refine lv_iinc (v := ((nI ck) + 1)) (lv' := [(3, .int ((nI ck) + 1)), (4, .int (nI (o_ah g ck 8))), (2, .int (nI rk)), (1, .ref mq), (0, .ref y)]) hx hb dX2_ordered_127 hl (k := 1) rfl rfl (by decide) rfl (fun ls hl => ?_)
          refine lv_goto (tgt := 13) hx hb dX2_ordered_130 (by decide) ?_
          rw [nI_1] at hl
          refine W.widen (k := 7 * o_cnt (fun k => o_ah g k 8) rk (ck + 1)) (n := 544 * o_cnt (fun k => o_ah g k 8) rk (ck + 1)) (by omega) (by omega) ?_
          exact ih (ck + 1) _ _ _ _ (by omega) (by omega) (Or.inr ⟨_, _, _, by rw [hcn]; exact hnS, hP.sub [0, 1, 2, 3] rfl, hD.sub [0, 1, 2, 3] (by decide) rfl, hfq⟩) hS (lv_sub hl [0, 2, 3, 4] rfl)
        · have hcn := q_cntE (fun k => o_ah g k 8) (fun k _ => o_ah_le g k 8) (rk := rk) (by omega) hck c_2
          have hrc := o_rc hck hrk c_2
          have hcle2 := o_cnt_le (fun k => o_ah g k 8) rk (ck + 1)
          refine va_new (ci := 1) (fs := [.null, .int 0, .int 0, .int 0]) (C := RJ4) (T := TJ4) (N := 4) hx hb hts iw_X2_ordered_J4 tyJ4 tyJ4_ok hown (hts (.classLink RX2 79 RJ4) (by decide +kernel)) (hts (.instantiable RJ4 4) (by decide +kernel)) (hts (.initialized RJ4) (by decide +kernel)) hK hP hD hS hA rfl (fun j hj => by rcases (show j = 0 ∨ j = 1 ∨ j = 2 ∨ j = 3 by omega) with rfl | rfl | rfl | rfl <;> rfl) (by show _ ≤ (60 : Nat); omega) (by show _ ≤ (4500 : Nat); omega) dX2_ordered_94 (fun q_3 H hP hD hS => ?_)
          have hP : va_P D vwCl [(y, .inr (4, [.int th, .ref n2, .int kn2, .int td])), (n2, .inl (cJ, 8, .inr (.inl g))), (mq, .inr (0, [.ref u, .int 0, .int 0, .int 0])), (u, .inl (cB, nn, .inl f)), (q_3, .inr (1, [.null, .int 0, .int 0, .int 0]))] H := hP
          have hD : va_D A [(y, .inr (4, [.int th, .ref n2, .int kn2, .int td])), (n2, .inl (cJ, 8, .inr (.inl g))), (mq, .inr (0, [.ref u, .int 0, .int 0, .int 0])), (u, .inl (cB, nn, .inl f)), (q_3, .inr (1, [.null, .int 0, .int 0, .int 0]))] := hD
          refine lv_dup hx hb dX2_ordered_97 rfl ?_
          have hFc := va_free (wc := [(q_3, .inr (1, [.null, .int 0, .int 0, .int 0]))]) hD hS hA [4] rfl
          refine k_go (va_runI (As := []) (rest := [.ref q_3]) ⟨hx, hb, hml, hown, hts⟩ (c_J4_init_da8c8 l D cB cJ _ q_3 (hP.sub [4] rfl) ((hD.sub [4] (by decide) rfl).weaken (fun _ _ _ _ => trivial))) (cwI 0 hts gX2_ordered_J4_init_da8c8 rfl rfl rfl (hts (.initialized RJ4) (by decide +kernel)) (hts (.methodLink RX2 81 yJ4_init_da8c8) (by decide +kernel)) (hts (.instanceMethod yJ4_init_da8c8) (by decide +kernel)) rfl (by decide +kernel) ⟨(Nat.le_of_ble_eq_true rfl), (Nat.le_of_ble_eq_true rfl)⟩) (k_preS hE hS hFc) rfl rfl hl.1 rfl (lv_room (Nat.le_of_ble_eq_true rfl)) dX2_ordered_98 ⟨by show _ ≤ (60 : Nat); omega, by show _ ≤ (4500 : Nat); omega⟩) hS (fun q _ h => hFc q h) hFc (fun v9 H locs hp hz hk hS => ?_)
          obtain ⟨rfl, v_4, m_4, a_4, hP1, hD1, hf_4, hn_4, hk_4, hm_4⟩ := hp
          obtain ⟨hP, hD⟩ := va_join (wr := [(y, .inr (4, [.int th, .ref n2, .int kn2, .int td])), (n2, .inl (cJ, 8, .inr (.inl g))), (mq, .inr (0, [.ref u, .int 0, .int 0, .int 0])), (u, .inl (cB, nn, .inl f))]) (wc := [(q_3, .inr (1, [.null, .int 0, .int 0, .int 0]))]) (w1 := [(q_3, .inr (1, [.ref v_4, .int 0, .int 0, .int (nI 0)])), (v_4, .inl (cB, m_4, .inl a_4))]) hP hD [4] [0, 1, 2, 3] rfl rfl (by decide) (by decide) hk hFc hP1 hD1
          have hP : va_P D vwCl [(y, .inr (4, [.int th, .ref n2, .int kn2, .int td])), (n2, .inl (cJ, 8, .inr (.inl g))), (mq, .inr (0, [.ref u, .int 0, .int 0, .int 0])), (u, .inl (cB, nn, .inl f)), (q_3, .inr (1, [.ref v_4, .int 0, .int 0, .int (nI 0)])), (v_4, .inl (cB, m_4, .inl a_4))] H := hP
          have hD : va_D A [(y, .inr (4, [.int th, .ref n2, .int kn2, .int td])), (n2, .inl (cJ, 8, .inr (.inl g))), (mq, .inr (0, [.ref u, .int 0, .int 0, .int 0])), (u, .inl (cB, nn, .inl f)), (q_3, .inr (1, [.ref v_4, .int 0, .int 0, .int (nI 0)])), (v_4, .inl (cB, m_4, .inl a_4))] := hD
          refine W.eq (g2 := F0 m 101 ls [.ref q_3]) rfl ?_
          refine lv_aload_n hx hb dX2_ordered_101 rfl (lv_at hl 3 rfl) ?_
          have hFc := va_free (wc := [(q_3, .inr (1, [.ref v_4, .int 0, .int 0, .int (nI 0)])), (v_4, .inl (cB, m_4, .inl a_4))]) hD hS hA [4, 5] rfl
          refine k_go (va_runV (As := [.ref mq]) (rest := []) ⟨hx, hb, hml, hown, hts⟩ (cv_J4_append_15ec4 l D cB cJ _ q_3 v_4 0 m_4 a_4 (hP.sub [4, 5] rfl) ((hD.sub [4, 5] (by decide) rfl).weaken (fun _ _ _ _ => trivial)) mq nn f hfq hf_4 hn_4 hm_4 (by omega)) (cwV 1 hts gX2_ordered_J4_append_15ec4 rfl rfl rfl (by decide +kernel) ⟨(Nat.le_of_ble_eq_true rfl), (Nat.le_of_ble_eq_true rfl)⟩) (k_preRVw hE (k_RSw hts iw_X2_ordered_J0 hK hP 2 3 rfl rfl (by omega) (k_nA hP hD [4, 5] rfl 2 rfl (by decide)) (k_nA hP hD [4, 5] rfl 3 rfl (by decide))) hS hFc (va_recv hK hP (ci := 1) (q0 := 4) rfl rfl)) rfl rfl hl.1 rfl (lv_room (Nat.le_of_ble_eq_true rfl)) dX2_ordered_102 ⟨by show _ ≤ (60 : Nat); omega, by show _ ≤ (4500 : Nat); omega⟩) hS (fun q _ h => hFc q h) hFc (fun v9 H locs hp hz hk hS => ?_)
          obtain ⟨rfl, v_5, m_5, a_5, hP1, hD1, hf_5, hn_5, hm_5, hL_5⟩ := hp
          obtain ⟨hP, hD⟩ := va_join (wr := [(y, .inr (4, [.int th, .ref n2, .int kn2, .int td])), (n2, .inl (cJ, 8, .inr (.inl g))), (mq, .inr (0, [.ref u, .int 0, .int 0, .int 0])), (u, .inl (cB, nn, .inl f))]) (wc := [(q_3, .inr (1, [.ref v_4, .int 0, .int 0, .int (nI 0)])), (v_4, .inl (cB, m_4, .inl a_4))]) (w1 := [(q_3, .inr (1, [.ref v_5, .int 0, .int 0, .int (nI (0 + nn))])), (v_5, .inl (cB, m_5, .inl a_5))]) hP hD [4, 5] [0, 1, 2, 3] rfl rfl (by decide) (by decide) hk hFc hP1 hD1
          have hP : va_P D vwCl [(y, .inr (4, [.int th, .ref n2, .int kn2, .int td])), (n2, .inl (cJ, 8, .inr (.inl g))), (mq, .inr (0, [.ref u, .int 0, .int 0, .int 0])), (u, .inl (cB, nn, .inl f)), (q_3, .inr (1, [.ref v_5, .int 0, .int 0, .int (nI (0 + nn))])), (v_5, .inl (cB, m_5, .inl a_5))] H := hP
          have hD : va_D A [(y, .inr (4, [.int th, .ref n2, .int kn2, .int td])), (n2, .inl (cJ, 8, .inr (.inl g))), (mq, .inr (0, [.ref u, .int 0, .int 0, .int 0])), (u, .inl (cB, nn, .inl f)), (q_3, .inr (1, [.ref v_5, .int 0, .int 0, .int (nI (0 + nn))])), (v_5, .inl (cB, m_5, .inl a_5))] := hD
          refine W.eq (g2 := F0 m 105 ls [.ref q_3]) rfl ?_
          refine lv_iload_n hx hb dX2_ordered_105 rfl (lv_at hl 2 rfl) ?_
          refine lv_if_ne (tgt := 114) hx hb dX2_ordered_106 (by decide) (fun c_6 => ?_) (fun c_6 => ?_)
          · refine va_ldcS hx hb hown (hL 1 _ rfl).1 dX2_ordered_114 ?_
            have hFc := va_free (wc := [(q_3, .inr (1, [.ref v_5, .int 0, .int 0, .int (nI (0 + nn))])), (v_5, .inl (cB, m_5, .inl a_5))]) hD hS hA [4, 5] rfl
            refine k_go (va_runV (As := [.ref (k8 1)]) (rest := []) ⟨hx, hb, hml, hown, hts⟩ (cv_J4_append_15ec4 l D cB cJ _ q_3 v_5 (0 + nn) m_5 a_5 (hP.sub [4, 5] rfl) ((hD.sub [4, 5] (by decide) rfl).weaken (fun _ _ _ _ => trivial)) (k8 1) 1 (fun j => ([32] : List Int32).getD j 0) (q_msf1 _ (by decide)) hf_5 hn_5 hm_5 (by omega)) (cwV 1 hts gX2_ordered_J4_append_15ec4 rfl rfl rfl (by decide +kernel) ⟨(Nat.le_of_ble_eq_true rfl), (Nat.le_of_ble_eq_true rfl)⟩) (k_preRV hE (hL 1 _ rfl).2 hS hFc (va_recv hK hP (ci := 1) (q0 := 4) rfl rfl)) rfl rfl hl.1 rfl (lv_room (Nat.le_of_ble_eq_true rfl)) dX2_ordered_116 ⟨by show _ ≤ (60 : Nat); omega, by show _ ≤ (4500 : Nat); omega⟩) hS (fun q _ h => hFc q h) hFc (fun v9 H locs hp hz hk hS => ?_)
            obtain ⟨rfl, v_7, m_7, a_7, hP1, hD1, hf_7, hn_7, hm_7, hL_7⟩ := hp
            obtain ⟨hP, hD⟩ := va_join (wr := [(y, .inr (4, [.int th, .ref n2, .int kn2, .int td])), (n2, .inl (cJ, 8, .inr (.inl g))), (mq, .inr (0, [.ref u, .int 0, .int 0, .int 0])), (u, .inl (cB, nn, .inl f))]) (wc := [(q_3, .inr (1, [.ref v_5, .int 0, .int 0, .int (nI (0 + nn))])), (v_5, .inl (cB, m_5, .inl a_5))]) (w1 := [(q_3, .inr (1, [.ref v_7, .int 0, .int 0, .int (nI ((0 + nn) + 1))])), (v_7, .inl (cB, m_7, .inl a_7))]) hP hD [4, 5] [0, 1, 2, 3] rfl rfl (by decide) (by decide) hk hFc hP1 hD1
            have hP : va_P D vwCl [(y, .inr (4, [.int th, .ref n2, .int kn2, .int td])), (n2, .inl (cJ, 8, .inr (.inl g))), (mq, .inr (0, [.ref u, .int 0, .int 0, .int 0])), (u, .inl (cB, nn, .inl f)), (q_3, .inr (1, [.ref v_7, .int 0, .int 0, .int (nI ((0 + nn) + 1))])), (v_7, .inl (cB, m_7, .inl a_7))] H := hP
            have hD : va_D A [(y, .inr (4, [.int th, .ref n2, .int kn2, .int td])), (n2, .inl (cJ, 8, .inr (.inl g))), (mq, .inr (0, [.ref u, .int 0, .int 0, .int 0])), (u, .inl (cB, nn, .inl f)), (q_3, .inr (1, [.ref v_7, .int 0, .int 0, .int (nI ((0 + nn) + 1))])), (v_7, .inl (cB, m_7, .inl a_7))] := hD
            refine W.eq (g2 := F0 m 119 ls [.ref q_3]) rfl ?_
            refine lv_iload_n hx hb dX2_ordered_119 rfl (lv_at hl 1 rfl) ?_
            have hFc := va_free (wc := [(q_3, .inr (1, [.ref v_7, .int 0, .int 0, .int (nI ((0 + nn) + 1))])), (v_7, .inl (cB, m_7, .inl a_7))]) hD hS hA [4, 5] rfl
            refine k_go (va_runV (As := [.int (nI ck)]) (rest := []) ⟨hx, hb, hml, hown, hts⟩ (cv_J4_append_bf812 l D cB cJ _ q_3 v_7 ((0 + nn) + 1) m_7 a_7 (hP.sub [4, 5] rfl) ((hD.sub [4, 5] (by decide) rfl).weaken (fun _ _ _ _ => trivial)) ck hf_7 hn_7 hm_7 (by omega) (by omega)) (cwV 1 hts gX2_ordered_J4_append_bf812 rfl rfl rfl (by decide +kernel) ⟨(Nat.le_of_ble_eq_true rfl), (Nat.le_of_ble_eq_true rfl)⟩) (k_preV hE hS hFc (va_recv hK hP (ci := 1) (q0 := 4) rfl rfl)) rfl rfl hl.1 rfl (lv_room (Nat.le_of_ble_eq_true rfl)) dX2_ordered_120 ⟨by show _ ≤ (60 : Nat); omega, by show _ ≤ (4500 : Nat); omega⟩) hS (fun q _ h => hFc q h) hFc (fun v9 H locs hp hz hk hS => ?_)
            obtain ⟨rfl, v_8, m_8, a_8, hP1, hD1, hf_8, hn_8, hm_8, hL_8⟩ := hp
            obtain ⟨hP, hD⟩ := va_join (wr := [(y, .inr (4, [.int th, .ref n2, .int kn2, .int td])), (n2, .inl (cJ, 8, .inr (.inl g))), (mq, .inr (0, [.ref u, .int 0, .int 0, .int 0])), (u, .inl (cB, nn, .inl f))]) (wc := [(q_3, .inr (1, [.ref v_7, .int 0, .int 0, .int (nI ((0 + nn) + 1))])), (v_7, .inl (cB, m_7, .inl a_7))]) (w1 := [(q_3, .inr (1, [.ref v_8, .int 0, .int 0, .int (nI (((0 + nn) + 1) + 1))])), (v_8, .inl (cB, m_8, .inl a_8))]) hP hD [4, 5] [0, 1, 2, 3] rfl rfl (by decide) (by decide) hk hFc hP1 hD1
            have hP : va_P D vwCl [(y, .inr (4, [.int th, .ref n2, .int kn2, .int td])), (n2, .inl (cJ, 8, .inr (.inl g))), (mq, .inr (0, [.ref u, .int 0, .int 0, .int 0])), (u, .inl (cB, nn, .inl f)), (q_3, .inr (1, [.ref v_8, .int 0, .int 0, .int (nI (((0 + nn) + 1) + 1))])), (v_8, .inl (cB, m_8, .inl a_8))] H := hP
            have hD : va_D A [(y, .inr (4, [.int th, .ref n2, .int kn2, .int td])), (n2, .inl (cJ, 8, .inr (.inl g))), (mq, .inr (0, [.ref u, .int 0, .int 0, .int 0])), (u, .inl (cB, nn, .inl f)), (q_3, .inr (1, [.ref v_8, .int 0, .int 0, .int (nI (((0 + nn) + 1) + 1))])), (v_8, .inl (cB, m_8, .inl a_8))] := hD
            refine W.eq (g2 := F0 m 123 ls [.ref q_3]) rfl ?_
            have hFc := va_free (wc := [(q_3, .inr (1, [.ref v_8, .int 0, .int 0, .int (nI (((0 + nn) + 1) + 1))])), (v_8, .inl (cB, m_8, .inl a_8))]) hD hS hA [4, 5] rfl
            refine k_go (va_runV (As := []) (rest := []) ⟨hx, hb, hml, hown, hts⟩ (cv_J4_toString_0e30d l D cB cJ _ q_3 v_8 (((0 + nn) + 1) + 1) m_8 a_8 (hP.sub [4, 5] rfl) ((hD.sub [4, 5] (by decide) rfl).weaken (fun _ _ _ _ => trivial)) hf_8 hn_8 hm_8) (cwV 0 hts gX2_ordered_J4_toString_0e30d rfl rfl rfl (by decide +kernel) ⟨(Nat.le_of_ble_eq_true rfl), (Nat.le_of_ble_eq_true rfl)⟩) (k_preV hE hS hFc (va_recv hK hP (ci := 1) (q0 := 4) rfl rfl)) rfl rfl hl.1 rfl (lv_room (Nat.le_of_ble_eq_true rfl)) dX2_ordered_123 ⟨by show _ ≤ (60 : Nat); omega, by show _ ≤ (4500 : Nat); omega⟩) hS (fun q _ h => hFc q h) hFc (fun v9 H locs hp hz hk hS => ?_)
            obtain ⟨q_9, u_9, f_9, rfl, hP1, hD1, hf_9, hL_9⟩ := hp
            obtain ⟨hP, hD⟩ := va_join (wr := [(y, .inr (4, [.int th, .ref n2, .int kn2, .int td])), (n2, .inl (cJ, 8, .inr (.inl g))), (mq, .inr (0, [.ref u, .int 0, .int 0, .int 0])), (u, .inl (cB, nn, .inl f))]) (wc := [(q_3, .inr (1, [.ref v_8, .int 0, .int 0, .int (nI (((0 + nn) + 1) + 1))])), (v_8, .inl (cB, m_8, .inl a_8))]) (w1 := [(q_9, .inr (0, [.ref u_9, .int 0, .int 0, .int 0])), (u_9, .inl (cB, (((0 + nn) + 1) + 1), .inl f_9))]) hP hD [4, 5] [0, 1, 2, 3] rfl rfl (by decide) (by decide) hk hFc hP1 hD1
            have hP : va_P D vwCl [(y, .inr (4, [.int th, .ref n2, .int kn2, .int td])), (n2, .inl (cJ, 8, .inr (.inl g))), (mq, .inr (0, [.ref u, .int 0, .int 0, .int 0])), (u, .inl (cB, nn, .inl f)), (q_9, .inr (0, [.ref u_9, .int 0, .int 0, .int 0])), (u_9, .inl (cB, (((0 + nn) + 1) + 1), .inl f_9))] H := hP
            have hD : va_D A [(y, .inr (4, [.int th, .ref n2, .int kn2, .int td])), (n2, .inl (cJ, 8, .inr (.inl g))), (mq, .inr (0, [.ref u, .int 0, .int 0, .int 0])), (u, .inl (cB, nn, .inl f)), (q_9, .inr (0, [.ref u_9, .int 0, .int 0, .int 0])), (u_9, .inl (cB, (((0 + nn) + 1) + 1), .inl f_9))] := hD
            refine W.eq (g2 := F0 m 126 ls [.ref q_9]) rfl ?_
            refine lv_astore_n (lv' := [(1, .ref q_9), (4, .int (nI (o_ah g ck 8))), (3, .int (nI ck)), (2, .int (nI rk)), (0, .ref y)]) hx hb dX2_ordered_126 rfl hl (by decide) rfl (fun ls hl => ?_)
            refine lv_iinc (v := ((nI ck) + 1)) (lv' := [(3, .int ((nI ck) + 1)), (1, .ref q_9), (4, .int (nI (o_ah g ck 8))), (2, .int (nI rk)), (0, .ref y)]) hx hb dX2_ordered_127 hl (k := 2) rfl rfl (by decide) rfl (fun ls hl => ?_)
            refine lv_goto (tgt := 13) hx hb dX2_ordered_130 (by decide) ?_
            rw [nI_1] at hl
            refine W.widen (k := 7 * o_cnt (fun k => o_ah g k 8) rk (ck + 1)) (n := 544 * o_cnt (fun k => o_ah g k 8) rk (ck + 1)) (by omega) (by omega) ?_
            have h60 : rk ≠ 0 := fun z => c_6 (by rw [z]; decide)
            have h9S : o_S (o_L g) (o_cnt (fun k => o_ah g k 8) rk (ck + 1)) (((0 + nn) + 1) + 1) f_9 := o_C h60 (by omega) hnS hcn hrc hL_5 hL_7 hL_8 hL_9
            exact ih (ck + 1) _ _ _ _ (by omega) (by omega) (Or.inr ⟨_, _, _, h9S, hP.sub [0, 1, 4, 5] rfl, hD.sub [0, 1, 4, 5] (by decide) rfl, hf_9⟩) hS (lv_sub hl [0, 3, 1, 4] rfl)
          · refine va_ldcS hx hb hown (hL 0 _ rfl).1 dX2_ordered_109 ?_
            refine lv_goto (tgt := 116) hx hb dX2_ordered_111 (by decide) ?_
            have hFc := va_free (wc := [(q_3, .inr (1, [.ref v_5, .int 0, .int 0, .int (nI (0 + nn))])), (v_5, .inl (cB, m_5, .inl a_5))]) hD hS hA [4, 5] rfl
            refine k_go (va_runV (As := [.ref (k8 0)]) (rest := []) ⟨hx, hb, hml, hown, hts⟩ (cv_J4_append_15ec4 l D cB cJ _ q_3 v_5 (0 + nn) m_5 a_5 (hP.sub [4, 5] rfl) ((hD.sub [4, 5] (by decide) rfl).weaken (fun _ _ _ _ => trivial)) (k8 0) 0 (fun j => ([] : List Int32).getD j 0) q_msf0 hf_5 hn_5 hm_5 (by omega)) (cwV 1 hts gX2_ordered_J4_append_15ec4 rfl rfl rfl (by decide +kernel) ⟨(Nat.le_of_ble_eq_true rfl), (Nat.le_of_ble_eq_true rfl)⟩) (k_preRV hE (hL 0 _ rfl).2 hS hFc (va_recv hK hP (ci := 1) (q0 := 4) rfl rfl)) rfl rfl hl.1 rfl (lv_room (Nat.le_of_ble_eq_true rfl)) dX2_ordered_116 ⟨by show _ ≤ (60 : Nat); omega, by show _ ≤ (4500 : Nat); omega⟩) hS (fun q _ h => hFc q h) hFc (fun v9 H locs hp hz hk hS => ?_)
            obtain ⟨rfl, v_10, m_10, a_10, hP1, hD1, hf_10, hn_10, hm_10, hL_10⟩ := hp
            obtain ⟨hP, hD⟩ := va_join (wr := [(y, .inr (4, [.int th, .ref n2, .int kn2, .int td])), (n2, .inl (cJ, 8, .inr (.inl g))), (mq, .inr (0, [.ref u, .int 0, .int 0, .int 0])), (u, .inl (cB, nn, .inl f))]) (wc := [(q_3, .inr (1, [.ref v_5, .int 0, .int 0, .int (nI (0 + nn))])), (v_5, .inl (cB, m_5, .inl a_5))]) (w1 := [(q_3, .inr (1, [.ref v_10, .int 0, .int 0, .int (nI ((0 + nn) + 0))])), (v_10, .inl (cB, m_10, .inl a_10))]) hP hD [4, 5] [0, 1, 2, 3] rfl rfl (by decide) (by decide) hk hFc hP1 hD1
            have hP : va_P D vwCl [(y, .inr (4, [.int th, .ref n2, .int kn2, .int td])), (n2, .inl (cJ, 8, .inr (.inl g))), (mq, .inr (0, [.ref u, .int 0, .int 0, .int 0])), (u, .inl (cB, nn, .inl f)), (q_3, .inr (1, [.ref v_10, .int 0, .int 0, .int (nI ((0 + nn) + 0))])), (v_10, .inl (cB, m_10, .inl a_10))] H := hP
            have hD : va_D A [(y, .inr (4, [.int th, .ref n2, .int kn2, .int td])), (n2, .inl (cJ, 8, .inr (.inl g))), (mq, .inr (0, [.ref u, .int 0, .int 0, .int 0])), (u, .inl (cB, nn, .inl f)), (q_3, .inr (1, [.ref v_10, .int 0, .int 0, .int (nI ((0 + nn) + 0))])), (v_10, .inl (cB, m_10, .inl a_10))] := hD
            refine W.eq (g2 := F0 m 119 ls [.ref q_3]) rfl ?_
            refine lv_iload_n hx hb dX2_ordered_119 rfl (lv_at hl 1 rfl) ?_
            have hFc := va_free (wc := [(q_3, .inr (1, [.ref v_10, .int 0, .int 0, .int (nI ((0 + nn) + 0))])), (v_10, .inl (cB, m_10, .inl a_10))]) hD hS hA [4, 5] rfl
            refine k_go (va_runV (As := [.int (nI ck)]) (rest := []) ⟨hx, hb, hml, hown, hts⟩ (cv_J4_append_bf812 l D cB cJ _ q_3 v_10 ((0 + nn) + 0) m_10 a_10 (hP.sub [4, 5] rfl) ((hD.sub [4, 5] (by decide) rfl).weaken (fun _ _ _ _ => trivial)) ck hf_10 hn_10 hm_10 (by omega) (by omega)) (cwV 1 hts gX2_ordered_J4_append_bf812 rfl rfl rfl (by decide +kernel) ⟨(Nat.le_of_ble_eq_true rfl), (Nat.le_of_ble_eq_true rfl)⟩) (k_preV hE hS hFc (va_recv hK hP (ci := 1) (q0 := 4) rfl rfl)) rfl rfl hl.1 rfl (lv_room (Nat.le_of_ble_eq_true rfl)) dX2_ordered_120 ⟨by show _ ≤ (60 : Nat); omega, by show _ ≤ (4500 : Nat); omega⟩) hS (fun q _ h => hFc q h) hFc (fun v9 H locs hp hz hk hS => ?_)
            obtain ⟨rfl, v_11, m_11, a_11, hP1, hD1, hf_11, hn_11, hm_11, hL_11⟩ := hp
            obtain ⟨hP, hD⟩ := va_join (wr := [(y, .inr (4, [.int th, .ref n2, .int kn2, .int td])), (n2, .inl (cJ, 8, .inr (.inl g))), (mq, .inr (0, [.ref u, .int 0, .int 0, .int 0])), (u, .inl (cB, nn, .inl f))]) (wc := [(q_3, .inr (1, [.ref v_10, .int 0, .int 0, .int (nI ((0 + nn) + 0))])), (v_10, .inl (cB, m_10, .inl a_10))]) (w1 := [(q_3, .inr (1, [.ref v_11, .int 0, .int 0, .int (nI (((0 + nn) + 0) + 1))])), (v_11, .inl (cB, m_11, .inl a_11))]) hP hD [4, 5] [0, 1, 2, 3] rfl rfl (by decide) (by decide) hk hFc hP1 hD1
            have hP : va_P D vwCl [(y, .inr (4, [.int th, .ref n2, .int kn2, .int td])), (n2, .inl (cJ, 8, .inr (.inl g))), (mq, .inr (0, [.ref u, .int 0, .int 0, .int 0])), (u, .inl (cB, nn, .inl f)), (q_3, .inr (1, [.ref v_11, .int 0, .int 0, .int (nI (((0 + nn) + 0) + 1))])), (v_11, .inl (cB, m_11, .inl a_11))] H := hP
            have hD : va_D A [(y, .inr (4, [.int th, .ref n2, .int kn2, .int td])), (n2, .inl (cJ, 8, .inr (.inl g))), (mq, .inr (0, [.ref u, .int 0, .int 0, .int 0])), (u, .inl (cB, nn, .inl f)), (q_3, .inr (1, [.ref v_11, .int 0, .int 0, .int (nI (((0 + nn) + 0) + 1))])), (v_11, .inl (cB, m_11, .inl a_11))] := hD
            refine W.eq (g2 := F0 m 123 ls [.ref q_3]) rfl ?_
            have hFc := va_free (wc := [(q_3, .inr (1, [.ref v_11, .int 0, .int 0, .int (nI (((0 + nn) + 0) + 1))])), (v_11, .inl (cB, m_11, .inl a_11))]) hD hS hA [4, 5] rfl
            refine k_go (va_runV (As := []) (rest := []) ⟨hx, hb, hml, hown, hts⟩ (cv_J4_toString_0e30d l D cB cJ _ q_3 v_11 (((0 + nn) + 0) + 1) m_11 a_11 (hP.sub [4, 5] rfl) ((hD.sub [4, 5] (by decide) rfl).weaken (fun _ _ _ _ => trivial)) hf_11 hn_11 hm_11) (cwV 0 hts gX2_ordered_J4_toString_0e30d rfl rfl rfl (by decide +kernel) ⟨(Nat.le_of_ble_eq_true rfl), (Nat.le_of_ble_eq_true rfl)⟩) (k_preV hE hS hFc (va_recv hK hP (ci := 1) (q0 := 4) rfl rfl)) rfl rfl hl.1 rfl (lv_room (Nat.le_of_ble_eq_true rfl)) dX2_ordered_123 ⟨by show _ ≤ (60 : Nat); omega, by show _ ≤ (4500 : Nat); omega⟩) hS (fun q _ h => hFc q h) hFc (fun v9 H locs hp hz hk hS => ?_)
            obtain ⟨q_12, u_12, f_12, rfl, hP1, hD1, hf_12, hL_12⟩ := hp
            obtain ⟨hP, hD⟩ := va_join (wr := [(y, .inr (4, [.int th, .ref n2, .int kn2, .int td])), (n2, .inl (cJ, 8, .inr (.inl g))), (mq, .inr (0, [.ref u, .int 0, .int 0, .int 0])), (u, .inl (cB, nn, .inl f))]) (wc := [(q_3, .inr (1, [.ref v_11, .int 0, .int 0, .int (nI (((0 + nn) + 0) + 1))])), (v_11, .inl (cB, m_11, .inl a_11))]) (w1 := [(q_12, .inr (0, [.ref u_12, .int 0, .int 0, .int 0])), (u_12, .inl (cB, (((0 + nn) + 0) + 1), .inl f_12))]) hP hD [4, 5] [0, 1, 2, 3] rfl rfl (by decide) (by decide) hk hFc hP1 hD1
            have hP : va_P D vwCl [(y, .inr (4, [.int th, .ref n2, .int kn2, .int td])), (n2, .inl (cJ, 8, .inr (.inl g))), (mq, .inr (0, [.ref u, .int 0, .int 0, .int 0])), (u, .inl (cB, nn, .inl f)), (q_12, .inr (0, [.ref u_12, .int 0, .int 0, .int 0])), (u_12, .inl (cB, (((0 + nn) + 0) + 1), .inl f_12))] H := hP
            have hD : va_D A [(y, .inr (4, [.int th, .ref n2, .int kn2, .int td])), (n2, .inl (cJ, 8, .inr (.inl g))), (mq, .inr (0, [.ref u, .int 0, .int 0, .int 0])), (u, .inl (cB, nn, .inl f)), (q_12, .inr (0, [.ref u_12, .int 0, .int 0, .int 0])), (u_12, .inl (cB, (((0 + nn) + 0) + 1), .inl f_12))] := hD
            refine W.eq (g2 := F0 m 126 ls [.ref q_12]) rfl ?_
            refine lv_astore_n (lv' := [(1, .ref q_12), (4, .int (nI (o_ah g ck 8))), (3, .int (nI ck)), (2, .int (nI rk)), (0, .ref y)]) hx hb dX2_ordered_126 rfl hl (by decide) rfl (fun ls hl => ?_)
            refine lv_iinc (v := ((nI ck) + 1)) (lv' := [(3, .int ((nI ck) + 1)), (1, .ref q_12), (4, .int (nI (o_ah g ck 8))), (2, .int (nI rk)), (0, .ref y)]) hx hb dX2_ordered_127 hl (k := 2) rfl rfl (by decide) rfl (fun ls hl => ?_)
            refine lv_goto (tgt := 13) hx hb dX2_ordered_130 (by decide) ?_
            rw [nI_1] at hl
            refine W.widen (k := 7 * o_cnt (fun k => o_ah g k 8) rk (ck + 1)) (n := 544 * o_cnt (fun k => o_ah g k 8) rk (ck + 1)) (by omega) (by omega) ?_
            have h60 : rk = 0 := by
              rcases Nat.eq_zero_or_pos rk with z | z
              · exact z
              · exact absurd c_6 (nI_ne0 z (by omega))
            have h9S : o_S (o_L g) (o_cnt (fun k => o_ah g k 8) rk (ck + 1)) (((0 + nn) + 0) + 1) f_12 := o_B h60 (by omega) hcn hrc hL_11 hL_12
            exact ih (ck + 1) _ _ _ _ (by omega) (by omega) (Or.inr ⟨_, _, _, h9S, hP.sub [0, 1, 4, 5] rfl, hD.sub [0, 1, 4, 5] (by decide) rfl, hf_12⟩) hS (lv_sub hl [0, 3, 1, 4] rfl)
set_option maxHeartbeats 4000000 in
set_option maxRecDepth 100000 in
theorem lpv_rk {p : Program} {l : Launch} {e : Env} {s : State} {m : MethodId} {args : Array Value} {below : List Frame} {meth : Method} {c : Code} {D : va_G} {cB cJ : ClassId} {A : Nat → Prop} {y n2 : Nat} {th kn2 td : Int32} {g : Nat → Int64} {Q : State → Prop} {k8 : Nat → Nat} (hx : p.tables.exec = Jvm.exec) (hb : c.code = cX2_ordered) (hml : c.maxLocals = 6) (hown : s.vm.findClass RX2 = some m.cls) (hts : ∀ w ∈ wsX2_ordered, w.before args s = true) (hE : kE D cB cJ A s s.heap) (hA : ∀ q : Nat, s.heap.size ≤ q → A q) (hL : ∀ (i : Nat) (q : Nat × String × List Int32), t_MS[i]? = some q → vk_R RX2 q.1 q.2.1 (k8 i) s ∧ kRS A s s.heap (k8 i) q.2.2.length (fun j => q.2.2.getD j 0)) (kk : ∀ (mq : Nat) (H : Heap) (locs : List Loc) (ls : Array Slot), kMdV D y n2 cJ cB A (k8 0) th g kn2 td (o_cnt (fun k => o_ah g k 8) 8 0) mq H → va_S A s.heap H locs → lv_has ls 6 [(1, .ref mq), (0, .ref y)] → W p l e rm_X2_ordered s m args below meth c H locs (7 * o_cnt (fun k => o_ah g k 8) 8 0) (544 * o_cnt (fun k => o_ah g k 8) 8 0) Q (F0 m 139 ls [])) : ∀ (u9 : Nat) (rk : Nat) (mq : Nat) (H : Heap) (locs : List Loc) (ls : Array Slot), rk + u9 = 9 → rk ≤ 8 → kMdV D y n2 cJ cB A (k8 0) th g kn2 td (o_cnt (fun k => o_ah g k 8) rk 0) mq H → va_S A s.heap H locs → lv_has ls 6 [(2, .int (nI rk)), (1, .ref mq), (0, .ref y)] → W p l e rm_X2_ordered s m args below meth c H locs (7 * o_cnt (fun k => o_ah g k 8) rk 0) (544 * o_cnt (fun k => o_ah g k 8) rk 0) Q (F0 m 5 ls []) := by
  have hK := hE.1
  intro u9
  induction u9 with
  | zero =>
    intro rk mq H locs ls h9 h19
    exact absurd h9 (by omega)
  | succ u9 ih =>
    intro rk mq H locs ls h9 hr9 hM hS hl
    refine lv_iload_n hx hb dX2_ordered_5 rfl (lv_at hl 0 rfl) ?_
    refine lv_bipush (v := 8) hx hb dX2_ordered_6 (by decide) ?_
    refine lv_icmp_ge (tgt := 139) hx hb dX2_ordered_8 (by decide) (fun c_1 => ?_) (fun c_1 => ?_)
    · obtain rfl : rk = 8 := by have h9 := c_1; rcases Nat.lt_or_ge rk 8 with z | z; exact absurd ((nI_leI (by decide) (by omega)).mp (show nI 8 ≤ nI rk from h9)) (by omega); omega
      exact kk _ _ _ _ hM hS (lv_sub hl [1, 2] rfl)
    · have hrk : rk < 8 := Nat.lt_of_not_le (fun q => c_1 (nI_le q (by omega)))
      refine lv_iconst (v := 0) hx hb dX2_ordered_11 (by decide) ?_
      refine lv_istore_n (lv' := [(3, .int 0), (2, .int (nI rk)), (1, .ref mq), (0, .ref y)]) hx hb dX2_ordered_12 rfl hl (by decide) rfl (fun ls hl => ?_)
      refine lpv_ck hx hb hml hown hts hE hA hL hrk (fun mq H locs ls hM hS hl => ?_) 9 0 _ _ _ _ rfl (by decide) hM hS (lv_sub hl [0, 1, 2, 3] rfl)
      rw [← o_cnt_rank] at hM ⊢
      refine lv_iinc (v := ((nI rk) + 1)) (lv' := [(2, .int ((nI rk) + 1)), (1, .ref mq), (0, .ref y)]) hx hb dX2_ordered_133 hl (k := 0) rfl rfl (by decide) rfl (fun ls hl => ?_)
      refine lv_goto (tgt := 5) hx hb dX2_ordered_136 (by decide) ?_
      rw [nI_1] at hl
      exact ih (rk + 1) _ _ _ _ (by omega) (by omega) hM hS (lv_sub hl [0, 1, 2] rfl)
set_option maxHeartbeats 4000000 in
set_option maxRecDepth 100000 in
theorem cv_X2_ordered (l : Launch) (D : va_G) (cB cJ : ClassId) (Hp : Heap) (y n2 : Nat) (th : Int32) (g : Nat → Int64) (kn2 td : Int32) (hP : va_P D vwCl (wMo y n2 cJ th g kn2 td) Hp) (hD9 : va_D (fun _ => True) (wMo y n2 cJ th g kn2 td)) : kM l D cB cJ yX2_ordered wsX2_ordered rm_X2_ordered (va_A (wMo y n2 cJ th g kn2 td) Hp.size) Hp [.ref y] (kPmoV D y n2 cJ cB (va_A (wMo y n2 cJ th g kn2 td) Hp.size) th g kn2 td) 60 4500 := by
  refine Met.ofW (cc := cX2_ordered) (maxL := 6) (ret := (some (.object "java/lang/String"))) (by decide) rfl ?_
  intro p e s m args below meth c s₁ B hml hv
  obtain ⟨rfl, hHp, hE⟩ := hv
  subst hHp
  have hx := B.exec
  have hb := B.bytes
  have hr := B.returns
  have hts := atoms_spec (ws := wsX2_ordered) B.pre
  have hown : s.vm.findClass RX2 = some m.cls := findClass_of_methodNamed B.named
  have hlocks := B.notSynchronized
  have hK := hE.1
  have hD := hD9.self (sz := s.heap.size)
  generalize hAe : va_A (wMo y n2 cJ th g kn2 td) s.heap.size = A at hE hD ⊢
  have hA : ∀ q : Nat, s.heap.size ≤ q → A q := fun q h => by rw [← hAe]; exact Or.inr h
  obtain ⟨k8, hL⟩ := hE.2.2.2.2.1
  have hS : va_S A s.heap s.heap [] := va_S.rf
  have hl := lv_entry ([.ref y]) (n := 6) (Nat.le_of_ble_eq_true rfl)
  rw [lg_entry_eq]
  generalize (lg_sl ([.ref y]) ++ List.replicate (6 - (lg_sl ([.ref y])).length) Slot.unset).toArray = ls at hl ⊢
  have hl : lv_has ls 6 [(0, .ref y)] := hl
  refine va_ldcS hx hb hown (hL 0 _ rfl).1 dX2_ordered_0 ?_
  refine lv_astore_n (lv' := [(1, .ref (k8 0)), (0, .ref y)]) hx hb dX2_ordered_2 rfl hl (by decide) rfl (fun ls hl => ?_)
  refine lv_iconst (v := 0) hx hb dX2_ordered_3 (by decide) ?_
  refine lv_istore_n (lv' := [(2, .int 0), (1, .ref (k8 0)), (0, .ref y)]) hx hb dX2_ordered_4 rfl hl (by decide) rfl (fun ls hl => ?_)
  refine W.widen (k := 7 * o_cnt (fun k => o_ah g k 8) 0 0) (n := 544 * o_cnt (fun k => o_ah g k 8) 0 0) (by omega) (by omega) ?_
  refine lpv_rk hx hb hml hown hts hE hA hL (fun mq H locs ls hM hS hl => ?_) 9 0 _ _ _ _ rfl (by decide) (Or.inl ⟨rfl, o_cnt_0 _, hP, hD⟩) hS (lv_sub hl [0, 1, 2] rfl)
  rw [o_cnt_8 _ (fun k hk => o_ah_lt g k 8 hk)] at hM ⊢
  rcases hM with ⟨-, h00, -, -⟩ | ⟨nn, u, f, hnS, hP, hD, hfq⟩
  · exact absurd h00 (by decide)
  · obtain ⟨hn2c, hL9⟩ := hnS
    obtain rfl : nn = 15 := hn2c
    refine lv_aload_n hx hb dX2_ordered_139 rfl (lv_at hl 0 rfl) ?_
    refine W.widen (k := 60) (n := 4500) (by omega) (by omega) ?_
    exact k_aret hx hb hr (Or.inl ⟨_, rfl⟩) hlocks hS dX2_ordered_140 ⟨_, _, _, rfl, hP, hD, hfq, hL9⟩
def q_it (st : Nat → Int64 → Int64) : Nat → Int64 → Int64
  | 0, d => d
  | k + 1, d => st k (q_it st k d)
theorem q_itS {st : Nat → Int64 → Int64} {k : Nat} {v d0 : Int64} (h : v = q_it st k d0) : st k v = q_it st (k + 1) d0 := by rw [h]; rfl
theorem q_itC {st st' : Nat → Int64 → Int64} : ∀ n, (∀ k, k < n → ∀ d, st k d = st' k d) → ∀ d, q_it st n d = q_it st' n d := by
  intro n
  induction n with
  | zero => intro _ d; rfl
  | succ n ih =>
    intro h d
    show st n (q_it st n d) = st' n (q_it st' n d)
    rw [ih (fun k hk => h k (by omega)) d]
    exact h n (by omega) _
theorem q_atN {N k : Nat} (c : nI N ≤ nI k) (h8 : k ≤ N) (hN : N < 2 ^ 31) : k = N := by
  have := (nI_leI (a := N) (b := k) hN (by omega)).mp c
  omega
set_option maxHeartbeats 4000000 in
set_option maxRecDepth 100000 in
theorem lpfv_X0d1 {p : Program} {l : Launch} {e : Env} {s : State} {m : MethodId} {args : Array Value} {below : List Frame} {meth : Method} {c : Code} {D : va_G} {cB cJ : ClassId} {A : Nat → Prop} {x n : Nat} {kn ch : Int32} {f : Nat → Int64} {H : Heap} {cells slots : Nat} {Q : State → Prop} (hx : p.tables.exec = Jvm.exec) (hb : c.code = cX0_digest) (hml : c.maxLocals = 5) (hown : s.vm.findClass RX0 = some m.cls) (hts : ∀ w ∈ wsX0_digest, w.before args s = true) (hE : kE D cB cJ A s s.heap) (hP : va_P D vwCl [(x, .inr (2, [.ref n, .int kn, .int ch])), (n, .inl (cJ, 8, .inr (.inl f)))] H) (hf9 : cells ≤ rm_X0_digest.cells ∧ slots ≤ rm_X0_digest.slots)  (d0 : Int64) (kk : ∀ (v1 : Int64) (locs : List Loc) (ls : Array Slot), v1 = q_it (fun k d => j_X0_digestClock d (j_X0_numberOf kn ch f (nI k))) 8 d0 → va_S A s.heap H locs → lv_has ls 5 [(1, .long v1), (0, .ref x)] → W p l e rm_X0_digest s m args below meth c H locs cells slots Q (F0 m 52 ls [])) : ∀ (u9 k1 : Nat) (v1 : Int64) (locs : List Loc) (ls : Array Slot), k1 + u9 = 8 + 1 → k1 ≤ 8 → v1 = q_it (fun k d => j_X0_digestClock d (j_X0_numberOf kn ch f (nI k))) k1 d0 → va_S A s.heap H locs → lv_has ls 5 [(3, .int (nI k1)), (1, .long v1), (0, .ref x)] → W p l e rm_X0_digest s m args below meth c H locs cells slots Q (F0 m 30 ls []) := by
  have hK := hE.1
  intro u9
  induction u9 with
  | zero =>
    intro k1 v1 locs ls h9 h19
    exact absurd h9 (by omega)
  | succ u9 ih =>
    intro k1 v1 locs ls h9 h8 hR1 hS hl
    refine lv_iload_n hx hb dX0_digest_30 rfl (lv_at hl 0 rfl) ?_
    refine lv_bipush (v := 8) hx hb dX0_digest_31 (by decide) ?_
    refine lv_icmp_ge (tgt := 52) hx hb dX0_digest_33 (by decide) (fun c_1 => ?_) (fun c_1 => ?_)
    · exact kk v1 _ _ (by rw [hR1, q_atN (N := 8) c_1 h8 (by omega)]) hS (lv_sub hl [1, 2] rfl)
    · have hk1 : k1 < 8 := Nat.lt_of_not_le (fun q => c_1 (nI_le q (by omega)))
      refine lv_lload_n hx hb dX0_digest_36 rfl (lv_at hl 1 rfl) ?_
      refine lv_aload_n hx hb dX0_digest_37 rfl (lv_at hl 2 rfl) ?_
      refine lv_iload_n hx hb dX0_digest_38 rfl (lv_at hl 0 rfl) ?_
      refine k_pV [.int (nI k1)] (rest := [.long v1]) ⟨hx, hb, hml, hown, hts⟩ (c_X0_numberOf l D cB cJ _ x n kn ch f (hP.sub [0, 1] rfl) (nI k1)) (cwV 1 hts gX0_digest_X0_numberOf rfl rfl rfl (by decide +kernel) ⟨(Nat.le_of_ble_eq_true rfl), (Nat.le_of_ble_eq_true rfl)⟩) (va_recv hK hP (ci := 2) (q0 := 0) rfl rfl) hE hS rfl rfl hl.1 (Nat.le_of_ble_eq_true rfl) dX0_digest_39 hf9 (fun locs hS => ?_)
      refine W.eq (g2 := F0 m 42 ls [.long (j_X0_numberOf kn ch f (nI k1)), .long v1]) rfl ?_
      refine k_pS [.long v1, .long (j_X0_numberOf kn ch f (nI k1))] (rest := []) ⟨hx, hb, hml, hown, hts⟩ (c_X0_digestClock l D cB cJ _ v1 (j_X0_numberOf kn ch f (nI k1)) (tk_X0_digestClock v1 (j_X0_numberOf kn ch f (nI k1)))) (va_cwS 2 hts gX0_digest_X0_digestClock rfl rfl rfl (by decide +kernel) ⟨(Nat.le_of_ble_eq_true rfl), (Nat.le_of_ble_eq_true rfl)⟩) hE hS rfl rfl hl.1 (Nat.le_of_ble_eq_true rfl) dX0_digest_42 hf9 (fun locs hS => ?_)
      refine W.eq (g2 := F0 m 45 ls [.long (j_X0_digestClock v1 (j_X0_numberOf kn ch f (nI k1)))]) rfl ?_
      refine lv_lstore_n (lv' := [(1, .long (j_X0_digestClock v1 (j_X0_numberOf kn ch f (nI k1)))), (3, .int (nI k1)), (0, .ref x)]) hx hb dX0_digest_45 rfl hl (by decide) rfl (fun ls hl => ?_)
      refine lv_iinc (v := ((nI k1) + 1)) (lv' := [(3, .int ((nI k1) + 1)), (1, .long (j_X0_digestClock v1 (j_X0_numberOf kn ch f (nI k1)))), (0, .ref x)]) hx hb dX0_digest_46 hl (k := 1) rfl rfl (by decide) rfl (fun ls hl => ?_)
      refine lv_goto (tgt := 30) hx hb dX0_digest_49 (by decide) ?_
      rw [nI_1] at hl
      exact ih (k1 + 1) (j_X0_digestClock v1 (j_X0_numberOf kn ch f (nI k1))) _ _ (by omega) (by omega) (q_itS (st := fun k d => j_X0_digestClock d (j_X0_numberOf kn ch f (nI k))) (k := k1) hR1) hS (lv_sub hl [0, 1, 2] rfl)
set_option maxHeartbeats 4000000 in
set_option maxRecDepth 100000 in
theorem lpfv_X0d2 {p : Program} {l : Launch} {e : Env} {s : State} {m : MethodId} {args : Array Value} {below : List Frame} {meth : Method} {c : Code} {D : va_G} {cB cJ : ClassId} {A : Nat → Prop} {x n : Nat} {kn ch : Int32} {f : Nat → Int64} {H : Heap} {cells slots : Nat} {Q : State → Prop} (hx : p.tables.exec = Jvm.exec) (hb : c.code = cX0_digest) (hml : c.maxLocals = 5) (hown : s.vm.findClass RX0 = some m.cls) (hts : ∀ w ∈ wsX0_digest, w.before args s = true) (hE : kE D cB cJ A s s.heap) (hP : va_P D vwCl [(x, .inr (2, [.ref n, .int kn, .int ch])), (n, .inl (cJ, 8, .inr (.inl f)))] H) (hf9 : cells ≤ rm_X0_digest.cells ∧ slots ≤ rm_X0_digest.slots)  (d0 : Int64) (kk : ∀ (v1 : Int64) (locs : List Loc) (ls : Array Slot), v1 = q_it (fun k d => j_X0_digestPair d (j_X0_numberOf kn ch f 0) (j_X0_numberOf kn ch f (nI k))) 8 d0 → va_S A s.heap H locs → lv_has ls 5 [(1, .long v1), (0, .ref x)] → W p l e rm_X0_digest s m args below meth c H locs cells slots Q (F0 m 81 ls [])) : ∀ (u9 k2 : Nat) (v1 : Int64) (locs : List Loc) (ls : Array Slot), k2 + u9 = 8 + 1 → k2 ≤ 8 → v1 = q_it (fun k d => j_X0_digestPair d (j_X0_numberOf kn ch f 0) (j_X0_numberOf kn ch f (nI k))) k2 d0 → va_S A s.heap H locs → lv_has ls 5 [(3, .int (nI k2)), (1, .long v1), (0, .ref x)] → W p l e rm_X0_digest s m args below meth c H locs cells slots Q (F0 m 54 ls []) := by
  have hK := hE.1
  intro u9
  induction u9 with
  | zero =>
    intro k2 v1 locs ls h9 h19
    exact absurd h9 (by omega)
  | succ u9 ih =>
    intro k2 v1 locs ls h9 h8 hR1 hS hl
    refine lv_iload_n hx hb dX0_digest_54 rfl (lv_at hl 0 rfl) ?_
    refine lv_bipush (v := 8) hx hb dX0_digest_55 (by decide) ?_
    refine lv_icmp_ge (tgt := 81) hx hb dX0_digest_57 (by decide) (fun c_1 => ?_) (fun c_1 => ?_)
    · exact kk v1 _ _ (by rw [hR1, q_atN (N := 8) c_1 h8 (by omega)]) hS (lv_sub hl [1, 2] rfl)
    · have hk2 : k2 < 8 := Nat.lt_of_not_le (fun q => c_1 (nI_le q (by omega)))
      refine lv_lload_n hx hb dX0_digest_60 rfl (lv_at hl 1 rfl) ?_
      refine lv_aload_n hx hb dX0_digest_61 rfl (lv_at hl 2 rfl) ?_
      refine lv_iconst (v := 0) hx hb dX0_digest_62 (by decide) ?_
      refine k_pV [.int 0] (rest := [.long v1]) ⟨hx, hb, hml, hown, hts⟩ (c_X0_numberOf l D cB cJ _ x n kn ch f (hP.sub [0, 1] rfl) 0) (cwV 1 hts gX0_digest_X0_numberOf rfl rfl rfl (by decide +kernel) ⟨(Nat.le_of_ble_eq_true rfl), (Nat.le_of_ble_eq_true rfl)⟩) (va_recv hK hP (ci := 2) (q0 := 0) rfl rfl) hE hS rfl rfl hl.1 (Nat.le_of_ble_eq_true rfl) dX0_digest_63 hf9 (fun locs hS => ?_)
      refine W.eq (g2 := F0 m 66 ls [.long (j_X0_numberOf kn ch f 0), .long v1]) rfl ?_
      refine lv_aload_n hx hb dX0_digest_66 rfl (lv_at hl 2 rfl) ?_
      refine lv_iload_n hx hb dX0_digest_67 rfl (lv_at hl 0 rfl) ?_
      refine k_pV [.int (nI k2)] (rest := [.long (j_X0_numberOf kn ch f 0), .long v1]) ⟨hx, hb, hml, hown, hts⟩ (c_X0_numberOf l D cB cJ _ x n kn ch f (hP.sub [0, 1] rfl) (nI k2)) (cwV 1 hts gX0_digest_X0_numberOf rfl rfl rfl (by decide +kernel) ⟨(Nat.le_of_ble_eq_true rfl), (Nat.le_of_ble_eq_true rfl)⟩) (va_recv hK hP (ci := 2) (q0 := 0) rfl rfl) hE hS rfl rfl hl.1 (Nat.le_of_ble_eq_true rfl) dX0_digest_68 hf9 (fun locs hS => ?_)
      refine W.eq (g2 := F0 m 71 ls [.long (j_X0_numberOf kn ch f (nI k2)), .long (j_X0_numberOf kn ch f 0), .long v1]) rfl ?_
      refine k_pS [.long v1, .long (j_X0_numberOf kn ch f 0), .long (j_X0_numberOf kn ch f (nI k2))] (rest := []) ⟨hx, hb, hml, hown, hts⟩ (c_X0_digestPair l D cB cJ _ v1 (j_X0_numberOf kn ch f 0) (j_X0_numberOf kn ch f (nI k2)) (tk_X0_digestPair v1 (j_X0_numberOf kn ch f 0) (j_X0_numberOf kn ch f (nI k2)))) (va_cwS 3 hts gX0_digest_X0_digestPair rfl rfl rfl (by decide +kernel) ⟨(Nat.le_of_ble_eq_true rfl), (Nat.le_of_ble_eq_true rfl)⟩) hE hS rfl rfl hl.1 (Nat.le_of_ble_eq_true rfl) dX0_digest_71 hf9 (fun locs hS => ?_)
      refine W.eq (g2 := F0 m 74 ls [.long (j_X0_digestPair v1 (j_X0_numberOf kn ch f 0) (j_X0_numberOf kn ch f (nI k2)))]) rfl ?_
      refine lv_lstore_n (lv' := [(1, .long (j_X0_digestPair v1 (j_X0_numberOf kn ch f 0) (j_X0_numberOf kn ch f (nI k2)))), (3, .int (nI k2)), (0, .ref x)]) hx hb dX0_digest_74 rfl hl (by decide) rfl (fun ls hl => ?_)
      refine lv_iinc (v := ((nI k2) + 1)) (lv' := [(3, .int ((nI k2) + 1)), (1, .long (j_X0_digestPair v1 (j_X0_numberOf kn ch f 0) (j_X0_numberOf kn ch f (nI k2)))), (0, .ref x)]) hx hb dX0_digest_75 hl (k := 1) rfl rfl (by decide) rfl (fun ls hl => ?_)
      refine lv_goto (tgt := 54) hx hb dX0_digest_78 (by decide) ?_
      rw [nI_1] at hl
      exact ih (k2 + 1) (j_X0_digestPair v1 (j_X0_numberOf kn ch f 0) (j_X0_numberOf kn ch f (nI k2))) _ _ (by omega) (by omega) (q_itS (st := fun k d => j_X0_digestPair d (j_X0_numberOf kn ch f 0) (j_X0_numberOf kn ch f (nI k))) (k := k2) hR1) hS (lv_sub hl [0, 1, 2] rfl)
set_option maxHeartbeats 4000000 in
set_option maxRecDepth 100000 in
theorem lpfv_X0d3 {p : Program} {l : Launch} {e : Env} {s : State} {m : MethodId} {args : Array Value} {below : List Frame} {meth : Method} {c : Code} {D : va_G} {cB cJ : ClassId} {A : Nat → Prop} {x q u nn : Nat} {f : Nat → Int32} {H : Heap} {cells slots : Nat} {Q : State → Prop} (hx : p.tables.exec = Jvm.exec) (hb : c.code = cX0_digest) (hml : c.maxLocals = 5) (hown : s.vm.findClass RX0 = some m.cls) (hts : ∀ w ∈ wsX0_digest, w.before args s = true) (hE : kE D cB cJ A s s.heap) (hP : va_P D vwCl [(q, .inr (0, [.ref u, .int 0, .int 0, .int 0])), (u, .inl (cB, nn, .inl f))] H) (hf9 : cells ≤ rm_X0_digest.cells ∧ slots ≤ rm_X0_digest.slots) (hn60 : nn ≤ 60) (d0 : Int64) (kk : ∀ (v1 : Int64) (locs : List Loc) (ls : Array Slot), v1 = q_it (fun k d => (d * 31) + (q_chr (f k)).toInt64) nn d0 → va_S A s.heap H locs → lv_has ls 5 [(3, .ref q), (1, .long v1), (0, .ref x)] → W p l e rm_X0_digest s m args below meth c H locs cells slots Q (F0 m 130 ls [])) : ∀ (u9 k3 : Nat) (v1 : Int64) (locs : List Loc) (ls : Array Slot), k3 + u9 = nn + 1 → k3 ≤ nn → v1 = q_it (fun k d => (d * 31) + (q_chr (f k)).toInt64) k3 d0 → va_S A s.heap H locs → lv_has ls 5 [(4, .int (nI k3)), (3, .ref q), (1, .long v1), (0, .ref x)] → W p l e rm_X0_digest s m args below meth c H locs cells slots Q (F0 m 101 ls []) := by
  have hK := hE.1
  intro u9
  induction u9 with
  | zero =>
    intro k3 v1 locs ls h9 h19
    exact absurd h9 (by omega)
  | succ u9 ih =>
    intro k3 v1 locs ls h9 h8 hR1 hS hl
    refine lv_iload hx hb dX0_digest_101 (lv_at hl 0 rfl) ?_
    refine lv_aload_n hx hb dX0_digest_103 rfl (lv_at hl 1 rfl) ?_
    refine k_go (va_runV (As := []) (rest := [.int (nI k3)]) ⟨hx, hb, hml, hown, hts⟩ (cw_J0_length_8abf5 l D cB cJ _ q u nn f (hP.sub [0, 1] rfl)) (cwV 0 hts gX0_digest_J0_length_8abf5 rfl rfl rfl (by decide +kernel) ⟨(Nat.le_of_ble_eq_true rfl), (Nat.le_of_ble_eq_true rfl)⟩) (k_preV hE hS (fun _ h => h.elim) (va_recv hK hP (ci := 0) (q0 := 0) rfl rfl)) rfl rfl hl.1 rfl (lv_room (Nat.le_of_ble_eq_true rfl)) dX0_digest_104 hf9) hS (fun q _ h => h.elim) (fun q h => h.elim) (fun v9 H1 locs hp hz hk hS9_2 => ?_)
    obtain ⟨rfl, rfl⟩ := hp
    have hS := hS9_2
    refine W.eq (g2 := F0 m 107 ls [.int (nI nn), .int (nI k3)]) rfl ?_
    refine lv_icmp_ge (tgt := 130) hx hb dX0_digest_107 (by decide) (fun c_2 => ?_) (fun c_2 => ?_)
    · exact kk v1 _ _ (by rw [hR1, q_atN (N := nn) c_2 h8 (by omega)]) hS (lv_sub hl [1, 2, 3] rfl)
    · have hk3 : k3 < nn := Nat.lt_of_not_le (fun q => c_2 (nI_le q (by omega)))
      refine lv_lload_n hx hb dX0_digest_110 rfl (lv_at hl 2 rfl) ?_
      refine lv_ldc2 (v := 31) hx hb hown (hts (.constantLong RX0 132 (31)) (by decide +kernel)) dX0_digest_111 ?_
      refine lv_lmul hx hb dX0_digest_114 ?_
      refine lv_aload_n hx hb dX0_digest_115 rfl (lv_at hl 1 rfl) ?_
      refine lv_iload hx hb dX0_digest_116 (lv_at hl 0 rfl) ?_
      refine k_go (va_runV (As := [.int (nI k3)]) (rest := [.long (v1 * 31)]) ⟨hx, hb, hml, hown, hts⟩ (cwv_J0_charAt_5068e l D cB cJ _ q u nn f k3 (hP.sub [0, 1] rfl) hk3 (by omega)) (cwV 1 hts gX0_digest_J0_charAt_5068e rfl rfl rfl (by decide +kernel) ⟨(Nat.le_of_ble_eq_true rfl), (Nat.le_of_ble_eq_true rfl)⟩) (k_preV hE hS (fun _ h => h.elim) (va_recv hK hP (ci := 0) (q0 := 0) rfl rfl)) rfl rfl hl.1 rfl (lv_room (Nat.le_of_ble_eq_true rfl)) dX0_digest_118 hf9) hS (fun q _ h => h.elim) (fun q h => h.elim) (fun v9 H1 locs hp hz hk hS9_14 => ?_)
      obtain ⟨⟨rfl, -⟩, rfl⟩ := hp
      have hS := hS9_14
      refine W.eq (g2 := F0 m 121 ls [.int (q_chr (f k3)), .long (v1 * 31)]) rfl ?_
      refine lv_i2l (v := (q_chr (f k3)).toInt64) hx hb dX0_digest_121 rfl ?_
      refine lv_ladd hx hb dX0_digest_122 ?_
      refine lv_lstore_n (lv' := [(1, .long ((v1 * 31) + (q_chr (f k3)).toInt64)), (4, .int (nI k3)), (3, .ref q), (0, .ref x)]) hx hb dX0_digest_123 rfl hl (by decide) rfl (fun ls hl => ?_)
      refine lv_iinc (v := ((nI k3) + 1)) (lv' := [(4, .int ((nI k3) + 1)), (1, .long ((v1 * 31) + (q_chr (f k3)).toInt64)), (3, .ref q), (0, .ref x)]) hx hb dX0_digest_124 hl (k := 1) rfl rfl (by decide) rfl (fun ls hl => ?_)
      refine lv_goto (tgt := 101) hx hb dX0_digest_127 (by decide) ?_
      rw [nI_1] at hl
      exact ih (k3 + 1) ((v1 * 31) + (q_chr (f k3)).toInt64) _ _ (by omega) (by omega) (q_itS (st := fun k d => (d * 31) + (q_chr (f k)).toInt64) (k := k3) hR1) hS (lv_sub hl [0, 2, 1, 3] rfl)
def jv_X0_digest (kn ch : Int32) (f : Nat → Int64) : Int64 := (q_it (fun k d => (d * 31) + (q_chr (o_L f k)).toInt64) 15 ((q_it (fun k d => j_X0_digestPair d (j_X0_numberOf kn ch f 0) (j_X0_numberOf kn ch f (nI k))) 8 (q_it (fun k d => j_X0_digestClock d (j_X0_numberOf kn ch f (nI k))) 8 ((((7788 * 31) + kn.toInt64) * 31) + ch.toInt64))) * 31 + (j_X0_kinds kn ch f).toInt64)) * 31 + (if j_X0_isSound kn ch f = 0 then (0 : Int32) else 1).toInt64
def kPdV (D : va_G) (x n : Nat) (cJ : ClassId) (A : Nat → Prop) (kn ch : Int32) (f : Nat → Int64) (z : Int64) : Option Value → Heap → Prop := fun v1 H1 => v1 = some (.long z) ∧ va_P D vwCl (wC x n cJ kn ch f) H1 ∧ va_D A (wC x n cJ kn ch f)
set_option maxHeartbeats 4000000 in
set_option maxRecDepth 100000 in
theorem cv_X0_digest (l : Launch) (D : va_G) (cB cJ : ClassId) (Hp : Heap) (x n : Nat) (kn ch : Int32) (f : Nat → Int64) (hP : va_P D vwCl (wC x n cJ kn ch f) Hp) (hD9 : va_D (fun _ => True) (wC x n cJ kn ch f)) : kM l D cB cJ yX0_digest wsX0_digest rm_X0_digest (va_A (wC x n cJ kn ch f) Hp.size) Hp [.ref x] (kPdV D x n cJ (va_A (wC x n cJ kn ch f) Hp.size) kn ch f (jv_X0_digest kn ch f)) 20 2234 := by
  refine Met.ofW (cc := cX0_digest) (maxL := 5) (ret := (some .long)) (by decide) rfl ?_
  intro p e s m args below meth c s₁ B hml hv
  obtain ⟨rfl, hHp, hE⟩ := hv
  subst hHp
  have hx := B.exec
  have hb := B.bytes
  have hr := B.returns
  have hts := atoms_spec (ws := wsX0_digest) B.pre
  have hown : s.vm.findClass RX0 = some m.cls := findClass_of_methodNamed B.named
  have hlocks := B.notSynchronized
  have hK := hE.1
  have hD := hD9.self (sz := s.heap.size)
  generalize hAe : va_A (wC x n cJ kn ch f) s.heap.size = A at hE hD ⊢
  have hA : ∀ q : Nat, s.heap.size ≤ q → A q := fun q h => by rw [← hAe]; exact Or.inr h
  have hS : va_S A s.heap s.heap [] := va_S.rf
  have hl := lv_entry ([.ref x]) (n := 5) (Nat.le_of_ble_eq_true rfl)
  rw [lg_entry_eq]
  generalize (lg_sl ([.ref x]) ++ List.replicate (5 - (lg_sl ([.ref x])).length) Slot.unset).toArray = ls at hl ⊢
  have hl : lv_has ls 5 [(0, .ref x)] := hl
  refine lv_ldc2 (v := 7788) hx hb hown (hts (.constantLong RX0 130 (7788)) (by decide +kernel)) dX0_digest_0 ?_
  refine lv_lstore_n (lv' := [(1, .long 7788), (0, .ref x)]) hx hb dX0_digest_3 rfl hl (by decide) rfl (fun ls hl => ?_)
  refine lv_lload_n hx hb dX0_digest_4 rfl (lv_at hl 0 rfl) ?_
  refine lv_ldc2 (v := 31) hx hb hown (hts (.constantLong RX0 132 (31)) (by decide +kernel)) dX0_digest_5 ?_
  refine lv_lmul hx hb dX0_digest_8 ?_
  refine lv_aload_n hx hb dX0_digest_9 rfl (lv_at hl 1 rfl) ?_
  refine va_get (D := D) (ci := 2) (v := .int kn) (C := RX0) (T := TX0) (N := 3) hx hb hts iw_X0_digest_X0 hown hK hP 0 rfl rfl 1 (by decide) (hts (.fieldLink RX0 13 "Clocksolo" "knocks" "I") (by decide +kernel)) (fun _ h9 => h9) rfl dX0_digest_10 ?_
  refine lv_i2l (v := kn.toInt64) hx hb dX0_digest_13 rfl ?_
  refine lv_ladd hx hb dX0_digest_14 ?_
  refine lv_lstore_n (lv' := [(1, .long ((7788 * 31) + kn.toInt64)), (0, .ref x)]) hx hb dX0_digest_15 rfl hl (by decide) rfl (fun ls hl => ?_)
  refine lv_lload_n hx hb dX0_digest_16 rfl (lv_at hl 0 rfl) ?_
  refine lv_ldc2 (v := 31) hx hb hown (hts (.constantLong RX0 132 (31)) (by decide +kernel)) dX0_digest_17 ?_
  refine lv_lmul hx hb dX0_digest_20 ?_
  refine lv_aload_n hx hb dX0_digest_21 rfl (lv_at hl 1 rfl) ?_
  refine va_get (D := D) (ci := 2) (v := .int ch) (C := RX0) (T := TX0) (N := 3) hx hb hts iw_X0_digest_X0 hown hK hP 0 rfl rfl 2 (by decide) (hts (.fieldLink RX0 17 "Clocksolo" "changes" "I") (by decide +kernel)) (fun _ h9 => h9) rfl dX0_digest_22 ?_
  refine lv_i2l (v := ch.toInt64) hx hb dX0_digest_25 rfl ?_
  refine lv_ladd hx hb dX0_digest_26 ?_
  refine lv_lstore_n (lv' := [(1, .long ((((7788 * 31) + kn.toInt64) * 31) + ch.toInt64)), (0, .ref x)]) hx hb dX0_digest_27 rfl hl (by decide) rfl (fun ls hl => ?_)
  refine lv_iconst (v := 0) hx hb dX0_digest_28 (by decide) ?_
  refine lv_istore_n (lv' := [(3, .int 0), (1, .long ((((7788 * 31) + kn.toInt64) * 31) + ch.toInt64)), (0, .ref x)]) hx hb dX0_digest_29 rfl hl (by decide) rfl (fun ls hl => ?_)
  refine lpfv_X0d1 hx hb hml hown hts hE (hP.sub [0, 1] rfl) ⟨(Nat.le_of_ble_eq_true rfl), (Nat.le_of_ble_eq_true rfl)⟩  ((((7788 * 31) + kn.toInt64) * 31) + ch.toInt64) (fun d_1 locs ls e_1 hS hl => ?_) (8 + 1) 0 ((((7788 * 31) + kn.toInt64) * 31) + ch.toInt64) _ _ (by omega) (by omega) rfl hS (lv_sub hl [0, 1, 2] rfl)
  refine lv_iconst (v := 0) hx hb dX0_digest_52 (by decide) ?_
  refine lv_istore_n (lv' := [(3, .int 0), (1, .long d_1), (0, .ref x)]) hx hb dX0_digest_53 rfl hl (by decide) rfl (fun ls hl => ?_)
  refine lpfv_X0d2 hx hb hml hown hts hE (hP.sub [0, 1] rfl) ⟨(Nat.le_of_ble_eq_true rfl), (Nat.le_of_ble_eq_true rfl)⟩  d_1 (fun d_2 locs ls e_2 hS hl => ?_) (8 + 1) 0 d_1 _ _ (by omega) (by omega) rfl hS (lv_sub hl [0, 1, 2] rfl)
  refine lv_lload_n hx hb dX0_digest_81 rfl (lv_at hl 0 rfl) ?_
  refine lv_ldc2 (v := 31) hx hb hown (hts (.constantLong RX0 132 (31)) (by decide +kernel)) dX0_digest_82 ?_
  refine lv_lmul hx hb dX0_digest_85 ?_
  refine lv_aload_n hx hb dX0_digest_86 rfl (lv_at hl 1 rfl) ?_
  refine k_pV [] (rest := [.long (d_2 * 31)]) ⟨hx, hb, hml, hown, hts⟩ (c_X0_kinds l D cB cJ _ x n kn ch f (hP.sub [0, 1] rfl) (tk_X0_kinds kn ch f)) (cwV 0 hts gX0_digest_X0_kinds rfl rfl rfl (by decide +kernel) ⟨(Nat.le_of_ble_eq_true rfl), (Nat.le_of_ble_eq_true rfl)⟩) (va_recv hK hP (ci := 2) (q0 := 0) rfl rfl) hE hS rfl rfl hl.1 (Nat.le_of_ble_eq_true rfl) dX0_digest_87 ⟨(Nat.le_of_ble_eq_true rfl), (Nat.le_of_ble_eq_true rfl)⟩ (fun locs hS => ?_)
  refine W.eq (g2 := F0 m 90 ls [.int (j_X0_kinds kn ch f), .long (d_2 * 31)]) rfl ?_
  refine lv_i2l (v := (j_X0_kinds kn ch f).toInt64) hx hb dX0_digest_90 rfl ?_
  refine lv_ladd hx hb dX0_digest_91 ?_
  refine lv_lstore_n (lv' := [(1, .long ((d_2 * 31) + ((j_X0_kinds kn ch f).toInt64))), (0, .ref x)]) hx hb dX0_digest_92 rfl hl (by decide) rfl (fun ls hl => ?_)
  refine lv_aload_n hx hb dX0_digest_93 rfl (lv_at hl 1 rfl) ?_
  have hFc := va_free (wc := [(x, .inr (2, [.ref n, .int kn, .int ch])), (n, .inl (cJ, 8, .inr (.inl f)))]) hD hS hA [0, 1] rfl
  refine k_go (va_runV (As := []) (rest := []) ⟨hx, hb, hml, hown, hts⟩ (cv_X0_order l D cB cJ _ x n kn ch f hP (hD.weaken (fun _ _ _ _ => trivial))) (cwV 0 hts gX0_digest_X0_order rfl rfl rfl (by decide +kernel) ⟨(Nat.le_of_ble_eq_true rfl), (Nat.le_of_ble_eq_true rfl)⟩) (k_preV hE hS hFc (va_recv hK hP (ci := 2) (q0 := 0) rfl rfl)) rfl rfl hl.1 rfl (lv_room (Nat.le_of_ble_eq_true rfl)) dX0_digest_94 ⟨(Nat.le_of_ble_eq_true rfl), (Nat.le_of_ble_eq_true rfl)⟩) hS (fun q _ h => hFc q h) hFc (fun v H locs hp hz hk hS => ?_)
  obtain ⟨q_3, u_3, f_3, rfl, hP1, hD1, hf_3, hL_3⟩ := hp
  have hP : va_P D vwCl [(x, .inr (2, [.ref n, .int kn, .int ch])), (n, .inl (cJ, 8, .inr (.inl f))), (q_3, .inr (0, [.ref u_3, .int 0, .int 0, .int 0])), (u_3, .inl (cB, 15, .inl f_3))] H := hP1
  have hD : va_D A [(x, .inr (2, [.ref n, .int kn, .int ch])), (n, .inl (cJ, 8, .inr (.inl f))), (q_3, .inr (0, [.ref u_3, .int 0, .int 0, .int 0])), (u_3, .inl (cB, 15, .inl f_3))] := hD1.weaken (fun _ q _ h => hFc q.1 h)
  refine W.eq (g2 := F0 m 97 ls [.ref q_3]) rfl ?_
  refine lv_astore_n (lv' := [(3, .ref q_3), (1, .long ((d_2 * 31) + ((j_X0_kinds kn ch f).toInt64))), (0, .ref x)]) hx hb dX0_digest_97 rfl hl (by decide) rfl (fun ls hl => ?_)
  refine lv_iconst (v := 0) hx hb dX0_digest_98 (by decide) ?_
  refine lv_istore (lv' := [(4, .int 0), (3, .ref q_3), (1, .long ((d_2 * 31) + ((j_X0_kinds kn ch f).toInt64))), (0, .ref x)]) hx hb dX0_digest_99 hl (by decide) rfl (fun ls hl => ?_)
  refine lpfv_X0d3 hx hb hml hown hts hE (hP.sub [2, 3] rfl) ⟨(Nat.le_of_ble_eq_true rfl), (Nat.le_of_ble_eq_true rfl)⟩ (by decide) ((d_2 * 31) + ((j_X0_kinds kn ch f).toInt64)) (fun d_4 locs ls e_4 hS hl => ?_) (15 + 1) 0 ((d_2 * 31) + ((j_X0_kinds kn ch f).toInt64)) _ _ (by omega) (by omega) rfl hS (lv_sub hl [0, 1, 2, 3] rfl)
  refine lv_lload_n hx hb dX0_digest_130 rfl (lv_at hl 1 rfl) ?_
  refine lv_ldc2 (v := 31) hx hb hown (hts (.constantLong RX0 132 (31)) (by decide +kernel)) dX0_digest_131 ?_
  refine lv_lmul hx hb dX0_digest_134 ?_
  refine lv_aload_n hx hb dX0_digest_135 rfl (lv_at hl 2 rfl) ?_
  refine k_pV [] (rest := [.long (d_4 * 31)]) ⟨hx, hb, hml, hown, hts⟩ (c_X0_isSound l D cB cJ _ x n kn ch f (hP.sub [0, 1] rfl) (tk_X0_isSound kn ch f)) (cwV 0 hts gX0_digest_X0_isSound rfl rfl rfl (by decide +kernel) ⟨(Nat.le_of_ble_eq_true rfl), (Nat.le_of_ble_eq_true rfl)⟩) (va_recv hK hP (ci := 2) (q0 := 0) rfl rfl) hE hS rfl rfl hl.1 (Nat.le_of_ble_eq_true rfl) dX0_digest_136 ⟨(Nat.le_of_ble_eq_true rfl), (Nat.le_of_ble_eq_true rfl)⟩ (fun locs hS => ?_)
  refine W.eq (g2 := F0 m 139 ls [.int (j_X0_isSound kn ch f), .long (d_4 * 31)]) rfl ?_
  refine lv_if_eq (tgt := 146) hx hb dX0_digest_139 (by decide) (fun c_5 => ?_) (fun c_5 => ?_)
  · refine lv_iconst (v := 0) hx hb dX0_digest_146 (by decide) ?_
    refine lv_i2l (v := (0 : Int32).toInt64) hx hb dX0_digest_147 rfl ?_
    refine lv_ladd hx hb dX0_digest_148 ?_
    refine W.widen (k := 20) (n := 2234) (Nat.le_of_ble_eq_true rfl) (Nat.le_of_ble_eq_true rfl) ?_
    have E9 : (d_4 * 31) + (0 : Int32).toInt64 = jv_X0_digest kn ch f := by
      rw [e_4, q_itC (st' := fun k d => (d * 31) + (q_chr (o_L f k)).toInt64) 15 (fun k hk d => by rw [hL_3 k hk]), e_2, e_1, jv_X0_digest, if_pos c_5]
    exact k_lret hx hb hr hlocks hS dX0_digest_149 ⟨congrArg (fun z => some (Value.long z)) E9, hP.sub [0, 1] rfl, hD.sub [0, 1] (by decide) rfl⟩
  · refine lv_iconst (v := 1) hx hb dX0_digest_142 (by decide) ?_
    refine lv_goto (tgt := 147) hx hb dX0_digest_143 (by decide) ?_
    refine lv_i2l (v := (1 : Int32).toInt64) hx hb dX0_digest_147 rfl ?_
    refine lv_ladd hx hb dX0_digest_148 ?_
    refine W.widen (k := 20) (n := 2234) (Nat.le_of_ble_eq_true rfl) (Nat.le_of_ble_eq_true rfl) ?_
    have E9 : (d_4 * 31) + (1 : Int32).toInt64 = jv_X0_digest kn ch f := by
      rw [e_4, q_itC (st' := fun k d => (d * 31) + (q_chr (o_L f k)).toInt64) 15 (fun k hk d => by rw [hL_3 k hk]), e_2, e_1, jv_X0_digest, if_neg c_5]
    exact k_lret hx hb hr hlocks hS dX0_digest_149 ⟨congrArg (fun z => some (Value.long z)) E9, hP.sub [0, 1] rfl, hD.sub [0, 1] (by decide) rfl⟩
set_option maxHeartbeats 4000000 in
set_option maxRecDepth 100000 in
theorem lpfv_X2d2 {p : Program} {l : Launch} {e : Env} {s : State} {m : MethodId} {args : Array Value} {below : List Frame} {meth : Method} {c : Code} {D : va_G} {cB cJ : ClassId} {A : Nat → Prop} {y n2 : Nat} {th kn2 td : Int32} {g : Nat → Int64} {H : Heap} {cells slots : Nat} {Q : State → Prop} (hx : p.tables.exec = Jvm.exec) (hb : c.code = cX2_digest) (hml : c.maxLocals = 9) (hown : s.vm.findClass RX2 = some m.cls) (hts : ∀ w ∈ wsX2_digest, w.before args s = true) (hE : kE D cB cJ A s s.heap) (hP : va_P D vwCl [(y, .inr (4, [.int th, .ref n2, .int kn2, .int td])), (n2, .inl (cJ, 8, .inr (.inl g)))] H) (hf9 : cells ≤ rm_X2_digest.cells ∧ slots ≤ rm_X2_digest.slots) (w6 : Int64) (w5 : Int32) (d0 : Int64) (kk : ∀ (v1 : Int64) (locs : List Loc) (ls : Array Slot), v1 = q_it (fun k d => j_X2_add d ((j_X2_part w6 (nI k)).toInt64)) 5 d0 → va_S A s.heap H locs → lv_has ls 9 [(1, .long v1), (6, .long w6), (5, .int w5), (4, .int 8), (3, .ref n2), (0, .ref y)] → W p l e rm_X2_digest s m args below meth c H locs cells slots Q (F0 m 78 ls [])) : ∀ (u9 k2 : Nat) (v1 : Int64) (locs : List Loc) (ls : Array Slot), k2 + u9 = 5 + 1 → k2 ≤ 5 → v1 = q_it (fun k d => j_X2_add d ((j_X2_part w6 (nI k)).toInt64)) k2 d0 → va_S A s.heap H locs → lv_has ls 9 [(8, .int (nI k2)), (1, .long v1), (6, .long w6), (5, .int w5), (4, .int 8), (3, .ref n2), (0, .ref y)] → W p l e rm_X2_digest s m args below meth c H locs cells slots Q (F0 m 53 ls []) := by
  have hK := hE.1
  intro u9
  induction u9 with
  | zero =>
    intro k2 v1 locs ls h9 h19
    exact absurd h9 (by omega)
  | succ u9 ih =>
    intro k2 v1 locs ls h9 h8 hR1 hS hl
    refine lv_iload hx hb dX2_digest_53 (lv_at hl 0 rfl) ?_
    refine lv_iconst (v := 5) hx hb dX2_digest_55 (by decide) ?_
    refine lv_icmp_ge (tgt := 78) hx hb dX2_digest_56 (by decide) (fun c_1 => ?_) (fun c_1 => ?_)
    · exact kk v1 _ _ (by rw [hR1, q_atN (N := 5) c_1 h8 (by omega)]) hS (lv_sub hl [1, 2, 3, 4, 5, 6] rfl)
    · have hk2 : k2 < 5 := Nat.lt_of_not_le (fun q => c_1 (nI_le q (by omega)))
      refine lv_lload_n hx hb dX2_digest_59 rfl (lv_at hl 1 rfl) ?_
      refine lv_lload hx hb dX2_digest_60 (lv_at hl 2 rfl) ?_
      refine lv_iload hx hb dX2_digest_62 (lv_at hl 0 rfl) ?_
      refine k_pS [.long w6, .int (nI k2)] (rest := [.long v1]) ⟨hx, hb, hml, hown, hts⟩ (c_X2_part l D cB cJ _ w6 (nI k2)) (va_cwS 2 hts gX2_digest_X2_part rfl rfl rfl (by decide +kernel) ⟨(Nat.le_of_ble_eq_true rfl), (Nat.le_of_ble_eq_true rfl)⟩) hE hS rfl rfl hl.1 (Nat.le_of_ble_eq_true rfl) dX2_digest_64 hf9 (fun locs hS => ?_)
      refine W.eq (g2 := F0 m 67 ls [.int (j_X2_part w6 (nI k2)), .long v1]) rfl ?_
      refine lv_i2l (v := (j_X2_part w6 (nI k2)).toInt64) hx hb dX2_digest_67 rfl ?_
      refine k_pS [.long v1, .long ((j_X2_part w6 (nI k2)).toInt64)] (rest := []) ⟨hx, hb, hml, hown, hts⟩ (c_X2_add l D cB cJ _ v1 ((j_X2_part w6 (nI k2)).toInt64)) (va_cwS 2 hts gX2_digest_X2_add rfl rfl rfl (by decide +kernel) ⟨(Nat.le_of_ble_eq_true rfl), (Nat.le_of_ble_eq_true rfl)⟩) hE hS rfl rfl hl.1 (Nat.le_of_ble_eq_true rfl) dX2_digest_68 hf9 (fun locs hS => ?_)
      refine W.eq (g2 := F0 m 71 ls [.long (j_X2_add v1 ((j_X2_part w6 (nI k2)).toInt64))]) rfl ?_
      refine lv_lstore_n (lv' := [(1, .long (j_X2_add v1 ((j_X2_part w6 (nI k2)).toInt64))), (8, .int (nI k2)), (6, .long w6), (5, .int w5), (4, .int 8), (3, .ref n2), (0, .ref y)]) hx hb dX2_digest_71 rfl hl (by decide) rfl (fun ls hl => ?_)
      refine lv_iinc (v := ((nI k2) + 1)) (lv' := [(8, .int ((nI k2) + 1)), (1, .long (j_X2_add v1 ((j_X2_part w6 (nI k2)).toInt64))), (6, .long w6), (5, .int w5), (4, .int 8), (3, .ref n2), (0, .ref y)]) hx hb dX2_digest_72 hl (k := 1) rfl rfl (by decide) rfl (fun ls hl => ?_)
      refine lv_goto (tgt := 53) hx hb dX2_digest_75 (by decide) ?_
      rw [nI_1] at hl
      exact ih (k2 + 1) (j_X2_add v1 ((j_X2_part w6 (nI k2)).toInt64)) _ _ (by omega) (by omega) (q_itS (st := fun k d => j_X2_add d ((j_X2_part w6 (nI k)).toInt64)) (k := k2) hR1) hS (lv_sub hl [0, 1, 2, 3, 4, 5, 6] rfl)
set_option maxHeartbeats 4000000 in
set_option maxRecDepth 100000 in
theorem lpfv_X2d1 {p : Program} {l : Launch} {e : Env} {s : State} {m : MethodId} {args : Array Value} {below : List Frame} {meth : Method} {c : Code} {D : va_G} {cB cJ : ClassId} {A : Nat → Prop} {y n2 : Nat} {th kn2 td : Int32} {g : Nat → Int64} {H : Heap} {cells slots : Nat} {Q : State → Prop} (hx : p.tables.exec = Jvm.exec) (hb : c.code = cX2_digest) (hml : c.maxLocals = 9) (hown : s.vm.findClass RX2 = some m.cls) (hts : ∀ w ∈ wsX2_digest, w.before args s = true) (hE : kE D cB cJ A s s.heap) (hP : va_P D vwCl [(y, .inr (4, [.int th, .ref n2, .int kn2, .int td])), (n2, .inl (cJ, 8, .inr (.inl g)))] H) (hf9 : cells ≤ rm_X2_digest.cells ∧ slots ≤ rm_X2_digest.slots)  (d0 : Int64) (kk : ∀ (v1 : Int64) (locs : List Loc) (ls : Array Slot), v1 = q_it (fun k d => j_X2_add (q_it (fun w d => j_X2_add d ((j_X2_part (g (nI k).toNatClampNeg) (nI w)).toInt64)) 5 d) (g (nI k).toNatClampNeg)) 8 d0 → va_S A s.heap H locs → lv_has ls 9 [(4, .int 8), (3, .ref n2), (1, .long v1), (0, .ref y)] → W p l e rm_X2_digest s m args below meth c H locs cells slots Q (F0 m 91 ls [])) : ∀ (u9 k1 : Nat) (v1 : Int64) (locs : List Loc) (ls : Array Slot), k1 + u9 = 8 + 1 → k1 ≤ 8 → v1 = q_it (fun k d => j_X2_add (q_it (fun w d => j_X2_add d ((j_X2_part (g (nI k).toNatClampNeg) (nI w)).toInt64)) 5 d) (g (nI k).toNatClampNeg)) k1 d0 → va_S A s.heap H locs → lv_has ls 9 [(5, .int (nI k1)), (4, .int 8), (3, .ref n2), (1, .long v1), (0, .ref y)] → W p l e rm_X2_digest s m args below meth c H locs cells slots Q (F0 m 37 ls []) := by
  have hK := hE.1
  intro u9
  induction u9 with
  | zero =>
    intro k1 v1 locs ls h9 h19
    exact absurd h9 (by omega)
  | succ u9 ih =>
    intro k1 v1 locs ls h9 h8 hR1 hS hl
    refine lv_iload hx hb dX2_digest_37 (lv_at hl 0 rfl) ?_
    refine lv_iload hx hb dX2_digest_39 (lv_at hl 1 rfl) ?_
    refine lv_icmp_ge (tgt := 91) hx hb dX2_digest_41 (by decide) (fun c_1 => ?_) (fun c_1 => ?_)
    · exact kk v1 _ _ (by rw [hR1, q_atN (N := 8) c_1 h8 (by omega)]) hS (lv_sub hl [1, 2, 3, 4] rfl)
    · have hk1 : k1 < 8 := Nat.lt_of_not_le (fun q => c_1 (nI_le q (by omega)))
      refine lv_aload_n hx hb dX2_digest_44 rfl (lv_at hl 2 rfl) ?_
      refine lv_iload hx hb dX2_digest_45 (lv_at hl 0 rfl) ?_
      refine va_lald hx hb hK hP 1 1 rfl rfl (vp_in_nI hk1 (by decide)) dX2_digest_47 ?_
      refine lv_lstore (lv' := [(6, .long (g (nI k1).toNatClampNeg)), (5, .int (nI k1)), (4, .int 8), (3, .ref n2), (1, .long v1), (0, .ref y)]) hx hb dX2_digest_48 hl (by decide) rfl (fun ls hl => ?_)
      refine lv_iconst (v := 0) hx hb dX2_digest_50 (by decide) ?_
      refine lv_istore (lv' := [(8, .int 0), (6, .long (g (nI k1).toNatClampNeg)), (5, .int (nI k1)), (4, .int 8), (3, .ref n2), (1, .long v1), (0, .ref y)]) hx hb dX2_digest_51 hl (by decide) rfl (fun ls hl => ?_)
      refine lpfv_X2d2 hx hb hml hown hts hE (hP.sub [0, 1] rfl) hf9 (g (nI k1).toNatClampNeg) (nI k1) v1 (fun d_2 locs ls e_2 hS hl => ?_) (5 + 1) 0 v1 _ _ (by omega) (by omega) rfl hS (lv_sub hl [0, 5, 1, 2, 3, 4, 6] rfl)
      refine lv_lload_n hx hb dX2_digest_78 rfl (lv_at hl 0 rfl) ?_
      refine lv_lload hx hb dX2_digest_79 (lv_at hl 1 rfl) ?_
      refine k_pS [.long d_2, .long (g (nI k1).toNatClampNeg)] (rest := []) ⟨hx, hb, hml, hown, hts⟩ (c_X2_add l D cB cJ _ d_2 (g (nI k1).toNatClampNeg)) (va_cwS 2 hts gX2_digest_X2_add rfl rfl rfl (by decide +kernel) ⟨(Nat.le_of_ble_eq_true rfl), (Nat.le_of_ble_eq_true rfl)⟩) hE hS rfl rfl hl.1 (Nat.le_of_ble_eq_true rfl) dX2_digest_81 hf9 (fun locs hS => ?_)
      refine W.eq (g2 := F0 m 84 ls [.long (j_X2_add d_2 (g (nI k1).toNatClampNeg))]) rfl ?_
      refine lv_lstore_n (lv' := [(1, .long (j_X2_add d_2 (g (nI k1).toNatClampNeg))), (6, .long (g (nI k1).toNatClampNeg)), (5, .int (nI k1)), (4, .int 8), (3, .ref n2), (0, .ref y)]) hx hb dX2_digest_84 rfl hl (by decide) rfl (fun ls hl => ?_)
      refine lv_iinc (v := ((nI k1) + 1)) (lv' := [(5, .int ((nI k1) + 1)), (1, .long (j_X2_add d_2 (g (nI k1).toNatClampNeg))), (6, .long (g (nI k1).toNatClampNeg)), (4, .int 8), (3, .ref n2), (0, .ref y)]) hx hb dX2_digest_85 hl (k := 2) rfl rfl (by decide) rfl (fun ls hl => ?_)
      refine lv_goto (tgt := 37) hx hb dX2_digest_88 (by decide) ?_
      rw [nI_1] at hl
      exact ih (k1 + 1) (j_X2_add d_2 (g (nI k1).toNatClampNeg)) _ _ (by omega) (by omega) (by rw [e_2]; exact q_itS (st := fun k d => j_X2_add (q_it (fun w d => j_X2_add d ((j_X2_part (g (nI k).toNatClampNeg) (nI w)).toInt64)) 5 d) (g (nI k).toNatClampNeg)) (k := k1) hR1) hS (lv_sub hl [0, 3, 4, 1, 5] rfl)
set_option maxHeartbeats 4000000 in
set_option maxRecDepth 100000 in
theorem lpfv_X2d4 {p : Program} {l : Launch} {e : Env} {s : State} {m : MethodId} {args : Array Value} {below : List Frame} {meth : Method} {c : Code} {D : va_G} {cB cJ : ClassId} {A : Nat → Prop} {y n2 : Nat} {th kn2 td : Int32} {g : Nat → Int64} {H : Heap} {cells slots : Nat} {Q : State → Prop} (hx : p.tables.exec = Jvm.exec) (hb : c.code = cX2_digest) (hml : c.maxLocals = 9) (hown : s.vm.findClass RX2 = some m.cls) (hts : ∀ w ∈ wsX2_digest, w.before args s = true) (hE : kE D cB cJ A s s.heap) (hP : va_P D vwCl [(y, .inr (4, [.int th, .ref n2, .int kn2, .int td])), (n2, .inl (cJ, 8, .inr (.inl g)))] H) (hf9 : cells ≤ rm_X2_digest.cells ∧ slots ≤ rm_X2_digest.slots) {k3 : Nat} (hk3 : k3 < 8) (d0 : Int64) (kk : ∀ (v1 : Int64) (locs : List Loc) (ls : Array Slot), v1 = q_it (fun k d => j_X2_add d (j_X2_apart th g kn2 td 0 (nI k3) (nI k))) 7 d0 → va_S A s.heap H locs → lv_has ls 9 [(3, .int (nI k3)), (1, .long v1), (0, .ref y)] → W p l e rm_X2_digest s m args below meth c H locs cells slots Q (F0 m 149 ls [])) : ∀ (u9 k4 : Nat) (v1 : Int64) (locs : List Loc) (ls : Array Slot), k4 + u9 = 7 + 1 → k4 ≤ 7 → v1 = q_it (fun k d => j_X2_add d (j_X2_apart th g kn2 td 0 (nI k3) (nI k))) k4 d0 → va_S A s.heap H locs → lv_has ls 9 [(4, .int (nI k4)), (3, .int (nI k3)), (1, .long v1), (0, .ref y)] → W p l e rm_X2_digest s m args below meth c H locs cells slots Q (F0 m 123 ls []) := by
  have hK := hE.1
  intro u9
  induction u9 with
  | zero =>
    intro k4 v1 locs ls h9 h19
    exact absurd h9 (by omega)
  | succ u9 ih =>
    intro k4 v1 locs ls h9 h8 hR1 hS hl
    refine lv_iload hx hb dX2_digest_123 (lv_at hl 0 rfl) ?_
    refine lv_bipush (v := 7) hx hb dX2_digest_125 (by decide) ?_
    refine lv_icmp_ge (tgt := 149) hx hb dX2_digest_127 (by decide) (fun c_1 => ?_) (fun c_1 => ?_)
    · exact kk v1 _ _ (by rw [hR1, q_atN (N := 7) c_1 h8 (by omega)]) hS (lv_sub hl [1, 2, 3] rfl)
    · have hk4 : k4 < 7 := Nat.lt_of_not_le (fun q => c_1 (nI_le q (by omega)))
      refine lv_lload_n hx hb dX2_digest_130 rfl (lv_at hl 2 rfl) ?_
      refine lv_aload_n hx hb dX2_digest_131 rfl (lv_at hl 3 rfl) ?_
      refine lv_iconst (v := 0) hx hb dX2_digest_132 (by decide) ?_
      refine lv_iload_n hx hb dX2_digest_133 rfl (lv_at hl 1 rfl) ?_
      refine lv_iload hx hb dX2_digest_134 (lv_at hl 0 rfl) ?_
      refine k_pV [.int 0, .int (nI k3), .int (nI k4)] (rest := [.long v1]) ⟨hx, hb, hml, hown, hts⟩ (c_X2_apart l D cB cJ _ y n2 th g kn2 td (hP.sub [0, 1] rfl) 0 (nI k3) (nI k4) (tkm_apart th g kn2 td  0 (nI k3) (nI k4) 0 k3 k4 nI_0.symm rfl rfl (by decide) hk3 (by omega))) (cwV 3 hts gX2_digest_X2_apart rfl rfl rfl (by decide +kernel) ⟨(Nat.le_of_ble_eq_true rfl), (Nat.le_of_ble_eq_true rfl)⟩) (va_recv hK hP (ci := 4) (q0 := 0) rfl rfl) hE hS rfl rfl hl.1 (Nat.le_of_ble_eq_true rfl) dX2_digest_136 hf9 (fun locs hS => ?_)
      refine W.eq (g2 := F0 m 139 ls [.long (j_X2_apart th g kn2 td 0 (nI k3) (nI k4)), .long v1]) rfl ?_
      refine k_pS [.long v1, .long (j_X2_apart th g kn2 td 0 (nI k3) (nI k4))] (rest := []) ⟨hx, hb, hml, hown, hts⟩ (c_X2_add l D cB cJ _ v1 (j_X2_apart th g kn2 td 0 (nI k3) (nI k4))) (va_cwS 2 hts gX2_digest_X2_add rfl rfl rfl (by decide +kernel) ⟨(Nat.le_of_ble_eq_true rfl), (Nat.le_of_ble_eq_true rfl)⟩) hE hS rfl rfl hl.1 (Nat.le_of_ble_eq_true rfl) dX2_digest_139 hf9 (fun locs hS => ?_)
      refine W.eq (g2 := F0 m 142 ls [.long (j_X2_add v1 (j_X2_apart th g kn2 td 0 (nI k3) (nI k4)))]) rfl ?_
      refine lv_lstore_n (lv' := [(1, .long (j_X2_add v1 (j_X2_apart th g kn2 td 0 (nI k3) (nI k4)))), (4, .int (nI k4)), (3, .int (nI k3)), (0, .ref y)]) hx hb dX2_digest_142 rfl hl (by decide) rfl (fun ls hl => ?_)
      refine lv_iinc (v := ((nI k4) + 1)) (lv' := [(4, .int ((nI k4) + 1)), (1, .long (j_X2_add v1 (j_X2_apart th g kn2 td 0 (nI k3) (nI k4)))), (3, .int (nI k3)), (0, .ref y)]) hx hb dX2_digest_143 hl (k := 1) rfl rfl (by decide) rfl (fun ls hl => ?_)
      refine lv_goto (tgt := 123) hx hb dX2_digest_146 (by decide) ?_
      rw [nI_1] at hl
      exact ih (k4 + 1) (j_X2_add v1 (j_X2_apart th g kn2 td 0 (nI k3) (nI k4))) _ _ (by omega) (by omega) (q_itS (st := fun k d => j_X2_add d (j_X2_apart th g kn2 td 0 (nI k3) (nI k))) (k := k4) hR1) hS (lv_sub hl [0, 2, 1, 3] rfl)
set_option maxHeartbeats 4000000 in
set_option maxRecDepth 100000 in
theorem lpfv_X2d3 {p : Program} {l : Launch} {e : Env} {s : State} {m : MethodId} {args : Array Value} {below : List Frame} {meth : Method} {c : Code} {D : va_G} {cB cJ : ClassId} {A : Nat → Prop} {y n2 : Nat} {th kn2 td : Int32} {g : Nat → Int64} {H : Heap} {cells slots : Nat} {Q : State → Prop} (hx : p.tables.exec = Jvm.exec) (hb : c.code = cX2_digest) (hml : c.maxLocals = 9) (hown : s.vm.findClass RX2 = some m.cls) (hts : ∀ w ∈ wsX2_digest, w.before args s = true) (hE : kE D cB cJ A s s.heap) (hP : va_P D vwCl [(y, .inr (4, [.int th, .ref n2, .int kn2, .int td])), (n2, .inl (cJ, 8, .inr (.inl g)))] H) (hf9 : cells ≤ rm_X2_digest.cells ∧ slots ≤ rm_X2_digest.slots)  (d0 : Int64) (kk : ∀ (v1 : Int64) (locs : List Loc) (ls : Array Slot), v1 = q_it (fun k d => q_it (fun w d => j_X2_add d (j_X2_apart th g kn2 td 0 (nI k) (nI w))) 7 (j_X2_add d ((j_X2_order (g (0 : Int32).toNatClampNeg) (g (nI k).toNatClampNeg)).toInt64))) 8 d0 → va_S A s.heap H locs → lv_has ls 9 [(1, .long v1), (0, .ref y)] → W p l e rm_X2_digest s m args below meth c H locs cells slots Q (F0 m 155 ls [])) : ∀ (u9 k3 : Nat) (v1 : Int64) (locs : List Loc) (ls : Array Slot), k3 + u9 = 8 + 1 → k3 ≤ 8 → v1 = q_it (fun k d => q_it (fun w d => j_X2_add d (j_X2_apart th g kn2 td 0 (nI k) (nI w))) 7 (j_X2_add d ((j_X2_order (g (0 : Int32).toNatClampNeg) (g (nI k).toNatClampNeg)).toInt64))) k3 d0 → va_S A s.heap H locs → lv_has ls 9 [(3, .int (nI k3)), (1, .long v1), (0, .ref y)] → W p l e rm_X2_digest s m args below meth c H locs cells slots Q (F0 m 93 ls []) := by
  have hK := hE.1
  intro u9
  induction u9 with
  | zero =>
    intro k3 v1 locs ls h9 h19
    exact absurd h9 (by omega)
  | succ u9 ih =>
    intro k3 v1 locs ls h9 h8 hR1 hS hl
    refine lv_iload_n hx hb dX2_digest_93 rfl (lv_at hl 0 rfl) ?_
    refine lv_bipush (v := 8) hx hb dX2_digest_94 (by decide) ?_
    refine lv_icmp_ge (tgt := 155) hx hb dX2_digest_96 (by decide) (fun c_1 => ?_) (fun c_1 => ?_)
    · exact kk v1 _ _ (by rw [hR1, q_atN (N := 8) c_1 h8 (by omega)]) hS (lv_sub hl [1, 2] rfl)
    · have hk3 : k3 < 8 := Nat.lt_of_not_le (fun q => c_1 (nI_le q (by omega)))
      refine lv_lload_n hx hb dX2_digest_99 rfl (lv_at hl 1 rfl) ?_
      refine lv_aload_n hx hb dX2_digest_100 rfl (lv_at hl 2 rfl) ?_
      refine va_get (D := D) (ci := 4) (v := .ref n2) (C := RX2) (T := TX2) (N := 4) hx hb hts iw_X2_digest_X2 hown hK hP 0 rfl rfl 1 (by decide) (hts (.fieldLink RX2 9 "ClocksoloModel" "its" "[J") (by decide +kernel)) (fun _ h9 => h9) rfl dX2_digest_101 ?_
      refine lv_iconst (v := 0) hx hb dX2_digest_104 (by decide) ?_
      refine va_lald hx hb hK hP 1 1 rfl rfl (show vp_in (nI 0) 8 from vp_in_nI (by decide) (by decide)) dX2_digest_105 ?_
      refine lv_aload_n hx hb dX2_digest_106 rfl (lv_at hl 2 rfl) ?_
      refine va_get (D := D) (ci := 4) (v := .ref n2) (C := RX2) (T := TX2) (N := 4) hx hb hts iw_X2_digest_X2 hown hK hP 0 rfl rfl 1 (by decide) (hts (.fieldLink RX2 9 "ClocksoloModel" "its" "[J") (by decide +kernel)) (fun _ h9 => h9) rfl dX2_digest_107 ?_
      refine lv_iload_n hx hb dX2_digest_110 rfl (lv_at hl 0 rfl) ?_
      refine va_lald hx hb hK hP 1 1 rfl rfl (vp_in_nI hk3 (by decide)) dX2_digest_111 ?_
      refine k_pS [.long (g (0 : Int32).toNatClampNeg), .long (g (nI k3).toNatClampNeg)] (rest := [.long v1]) ⟨hx, hb, hml, hown, hts⟩ (c_X2_order l D cB cJ _ (g (0 : Int32).toNatClampNeg) (g (nI k3).toNatClampNeg)) (va_cwS 2 hts gX2_digest_X2_order rfl rfl rfl (by decide +kernel) ⟨(Nat.le_of_ble_eq_true rfl), (Nat.le_of_ble_eq_true rfl)⟩) hE hS rfl rfl hl.1 (Nat.le_of_ble_eq_true rfl) dX2_digest_112 hf9 (fun locs hS => ?_)
      refine W.eq (g2 := F0 m 115 ls [.int (j_X2_order (g (0 : Int32).toNatClampNeg) (g (nI k3).toNatClampNeg)), .long v1]) rfl ?_
      refine lv_i2l (v := (j_X2_order (g (0 : Int32).toNatClampNeg) (g (nI k3).toNatClampNeg)).toInt64) hx hb dX2_digest_115 rfl ?_
      refine k_pS [.long v1, .long ((j_X2_order (g (0 : Int32).toNatClampNeg) (g (nI k3).toNatClampNeg)).toInt64)] (rest := []) ⟨hx, hb, hml, hown, hts⟩ (c_X2_add l D cB cJ _ v1 ((j_X2_order (g (0 : Int32).toNatClampNeg) (g (nI k3).toNatClampNeg)).toInt64)) (va_cwS 2 hts gX2_digest_X2_add rfl rfl rfl (by decide +kernel) ⟨(Nat.le_of_ble_eq_true rfl), (Nat.le_of_ble_eq_true rfl)⟩) hE hS rfl rfl hl.1 (Nat.le_of_ble_eq_true rfl) dX2_digest_116 hf9 (fun locs hS => ?_)
      refine W.eq (g2 := F0 m 119 ls [.long (j_X2_add v1 ((j_X2_order (g (0 : Int32).toNatClampNeg) (g (nI k3).toNatClampNeg)).toInt64))]) rfl ?_
      refine lv_lstore_n (lv' := [(1, .long (j_X2_add v1 ((j_X2_order (g (0 : Int32).toNatClampNeg) (g (nI k3).toNatClampNeg)).toInt64))), (3, .int (nI k3)), (0, .ref y)]) hx hb dX2_digest_119 rfl hl (by decide) rfl (fun ls hl => ?_)
      refine lv_iconst (v := 0) hx hb dX2_digest_120 (by decide) ?_
      refine lv_istore (lv' := [(4, .int 0), (1, .long (j_X2_add v1 ((j_X2_order (g (0 : Int32).toNatClampNeg) (g (nI k3).toNatClampNeg)).toInt64))), (3, .int (nI k3)), (0, .ref y)]) hx hb dX2_digest_121 hl (by decide) rfl (fun ls hl => ?_)
      refine lpfv_X2d4 hx hb hml hown hts hE (hP.sub [0, 1] rfl) hf9 hk3 (j_X2_add v1 ((j_X2_order (g (0 : Int32).toNatClampNeg) (g (nI k3).toNatClampNeg)).toInt64)) (fun d_2 locs ls e_2 hS hl => ?_) (7 + 1) 0 (j_X2_add v1 ((j_X2_order (g (0 : Int32).toNatClampNeg) (g (nI k3).toNatClampNeg)).toInt64)) _ _ (by omega) (by omega) rfl hS (lv_sub hl [0, 2, 1, 3] rfl)
      refine lv_iinc (v := ((nI k3) + 1)) (lv' := [(3, .int ((nI k3) + 1)), (1, .long d_2), (0, .ref y)]) hx hb dX2_digest_149 hl (k := 0) rfl rfl (by decide) rfl (fun ls hl => ?_)
      refine lv_goto (tgt := 93) hx hb dX2_digest_152 (by decide) ?_
      rw [nI_1] at hl
      exact ih (k3 + 1) d_2 _ _ (by omega) (by omega) (by rw [e_2]; exact q_itS (st := fun k d => q_it (fun w d => j_X2_add d (j_X2_apart th g kn2 td 0 (nI k) (nI w))) 7 (j_X2_add d ((j_X2_order (g (0 : Int32).toNatClampNeg) (g (nI k).toNatClampNeg)).toInt64))) (k := k3) hR1) hS (lv_sub hl [0, 1, 2] rfl)
set_option maxHeartbeats 4000000 in
set_option maxRecDepth 100000 in
theorem lpfv_X2d5 {p : Program} {l : Launch} {e : Env} {s : State} {m : MethodId} {args : Array Value} {below : List Frame} {meth : Method} {c : Code} {D : va_G} {cB cJ : ClassId} {A : Nat → Prop} {y q u nn : Nat} {f : Nat → Int32} {H : Heap} {cells slots : Nat} {Q : State → Prop} (hx : p.tables.exec = Jvm.exec) (hb : c.code = cX2_digest) (hml : c.maxLocals = 9) (hown : s.vm.findClass RX2 = some m.cls) (hts : ∀ w ∈ wsX2_digest, w.before args s = true) (hE : kE D cB cJ A s s.heap) (hP : va_P D vwCl [(q, .inr (0, [.ref u, .int 0, .int 0, .int 0])), (u, .inl (cB, nn, .inl f))] H) (hf9 : cells ≤ rm_X2_digest.cells ∧ slots ≤ rm_X2_digest.slots) (hn60 : nn ≤ 60) (d0 : Int64) (kk : ∀ (v1 : Int64) (locs : List Loc) (ls : Array Slot), v1 = q_it (fun k d => j_X2_add d (q_chr (f k)).toInt64) nn d0 → va_S A s.heap H locs → lv_has ls 9 [(3, .ref q), (1, .long v1), (0, .ref y)] → W p l e rm_X2_digest s m args below meth c H locs cells slots Q (F0 m 200 ls [])) : ∀ (u9 k5 : Nat) (v1 : Int64) (locs : List Loc) (ls : Array Slot), k5 + u9 = nn + 1 → k5 ≤ nn → v1 = q_it (fun k d => j_X2_add d (q_chr (f k)).toInt64) k5 d0 → va_S A s.heap H locs → lv_has ls 9 [(4, .int (nI k5)), (3, .ref q), (1, .long v1), (0, .ref y)] → W p l e rm_X2_digest s m args below meth c H locs cells slots Q (F0 m 173 ls []) := by
  have hK := hE.1
  intro u9
  induction u9 with
  | zero =>
    intro k5 v1 locs ls h9 h19
    exact absurd h9 (by omega)
  | succ u9 ih =>
    intro k5 v1 locs ls h9 h8 hR1 hS hl
    refine lv_iload hx hb dX2_digest_173 (lv_at hl 0 rfl) ?_
    refine lv_aload_n hx hb dX2_digest_175 rfl (lv_at hl 1 rfl) ?_
    refine k_go (va_runV (As := []) (rest := [.int (nI k5)]) ⟨hx, hb, hml, hown, hts⟩ (cw_J0_length_8abf5 l D cB cJ _ q u nn f (hP.sub [0, 1] rfl)) (cwV 0 hts gX2_digest_J0_length_8abf5 rfl rfl rfl (by decide +kernel) ⟨(Nat.le_of_ble_eq_true rfl), (Nat.le_of_ble_eq_true rfl)⟩) (k_preV hE hS (fun _ h => h.elim) (va_recv hK hP (ci := 0) (q0 := 0) rfl rfl)) rfl rfl hl.1 rfl (lv_room (Nat.le_of_ble_eq_true rfl)) dX2_digest_176 hf9) hS (fun q _ h => h.elim) (fun q h => h.elim) (fun v9 H1 locs hp hz hk hS9_2 => ?_)
    obtain ⟨rfl, rfl⟩ := hp
    have hS := hS9_2
    refine W.eq (g2 := F0 m 179 ls [.int (nI nn), .int (nI k5)]) rfl ?_
    refine lv_icmp_ge (tgt := 200) hx hb dX2_digest_179 (by decide) (fun c_2 => ?_) (fun c_2 => ?_)
    · exact kk v1 _ _ (by rw [hR1, q_atN (N := nn) c_2 h8 (by omega)]) hS (lv_sub hl [1, 2, 3] rfl)
    · have hk5 : k5 < nn := Nat.lt_of_not_le (fun q => c_2 (nI_le q (by omega)))
      refine lv_lload_n hx hb dX2_digest_182 rfl (lv_at hl 2 rfl) ?_
      refine lv_aload_n hx hb dX2_digest_183 rfl (lv_at hl 1 rfl) ?_
      refine lv_iload hx hb dX2_digest_184 (lv_at hl 0 rfl) ?_
      refine k_go (va_runV (As := [.int (nI k5)]) (rest := [.long v1]) ⟨hx, hb, hml, hown, hts⟩ (cwv_J0_charAt_5068e l D cB cJ _ q u nn f k5 (hP.sub [0, 1] rfl) hk5 (by omega)) (cwV 1 hts gX2_digest_J0_charAt_5068e rfl rfl rfl (by decide +kernel) ⟨(Nat.le_of_ble_eq_true rfl), (Nat.le_of_ble_eq_true rfl)⟩) (k_preV hE hS (fun _ h => h.elim) (va_recv hK hP (ci := 0) (q0 := 0) rfl rfl)) rfl rfl hl.1 rfl (lv_room (Nat.le_of_ble_eq_true rfl)) dX2_digest_186 hf9) hS (fun q _ h => h.elim) (fun q h => h.elim) (fun v9 H1 locs hp hz hk hS9_12 => ?_)
      obtain ⟨⟨rfl, -⟩, rfl⟩ := hp
      have hS := hS9_12
      refine W.eq (g2 := F0 m 189 ls [.int (q_chr (f k5)), .long v1]) rfl ?_
      refine lv_i2l (v := (q_chr (f k5)).toInt64) hx hb dX2_digest_189 rfl ?_
      refine k_pS [.long v1, .long (q_chr (f k5)).toInt64] (rest := []) ⟨hx, hb, hml, hown, hts⟩ (c_X2_add l D cB cJ _ v1 (q_chr (f k5)).toInt64) (va_cwS 2 hts gX2_digest_X2_add rfl rfl rfl (by decide +kernel) ⟨(Nat.le_of_ble_eq_true rfl), (Nat.le_of_ble_eq_true rfl)⟩) hE hS rfl rfl hl.1 (Nat.le_of_ble_eq_true rfl) dX2_digest_190 hf9 (fun locs hS => ?_)
      refine W.eq (g2 := F0 m 193 ls [.long (j_X2_add v1 (q_chr (f k5)).toInt64)]) rfl ?_
      refine lv_lstore_n (lv' := [(1, .long (j_X2_add v1 (q_chr (f k5)).toInt64)), (4, .int (nI k5)), (3, .ref q), (0, .ref y)]) hx hb dX2_digest_193 rfl hl (by decide) rfl (fun ls hl => ?_)
      refine lv_iinc (v := ((nI k5) + 1)) (lv' := [(4, .int ((nI k5) + 1)), (1, .long (j_X2_add v1 (q_chr (f k5)).toInt64)), (3, .ref q), (0, .ref y)]) hx hb dX2_digest_194 hl (k := 1) rfl rfl (by decide) rfl (fun ls hl => ?_)
      refine lv_goto (tgt := 173) hx hb dX2_digest_197 (by decide) ?_
      rw [nI_1] at hl
      exact ih (k5 + 1) (j_X2_add v1 (q_chr (f k5)).toInt64) _ _ (by omega) (by omega) (q_itS (st := fun k d => j_X2_add d (q_chr (f k)).toInt64) (k := k5) hR1) hS (lv_sub hl [0, 2, 1, 3] rfl)
def jv_X2_digest (g : Nat → Int64) (kn2 td : Int32) : Int64 := j_X2_add (q_it (fun k d => j_X2_add d (q_chr (o_L g k)).toInt64) 15 (j_X2_add (q_it (fun k d => q_it (fun w d => j_X2_add d (j_X2_apart 0 g kn2 td 0 (nI k) (nI w))) 7 (j_X2_add d ((j_X2_order (g (0 : Int32).toNatClampNeg) (g (nI k).toNatClampNeg)).toInt64))) 8 (q_it (fun k d => j_X2_add (q_it (fun w d => j_X2_add d ((j_X2_part (g (nI k).toNatClampNeg) (nI w)).toInt64)) 5 d) (g (nI k).toNatClampNeg)) 8 (j_X2_add (j_X2_add 7788 kn2.toInt64) td.toInt64))) ((j_X2_unlike 0 g kn2 td).toInt64))) 1
def kPdmV (D : va_G) (y n2 : Nat) (cJ : ClassId) (A : Nat → Prop) (th : Int32) (g : Nat → Int64) (kn2 td : Int32) (z : Int64) : Option Value → Heap → Prop := fun v1 H1 => v1 = some (.long z) ∧ va_P D vwCl (wMo y n2 cJ th g kn2 td) H1 ∧ va_D A (wMo y n2 cJ th g kn2 td)
set_option maxHeartbeats 4000000 in
set_option maxRecDepth 100000 in
theorem cv_X2_digest (l : Launch) (D : va_G) (cB cJ : ClassId) (Hp : Heap) (y n2 : Nat) (th : Int32) (g : Nat → Int64) (kn2 td : Int32) (hP : va_P D vwCl (wMo y n2 cJ th g kn2 td) Hp) (hD9 : va_D (fun _ => True) (wMo y n2 cJ th g kn2 td)) : kM l D cB cJ yX2_digest wsX2_digest rm_X2_digest (va_A (wMo y n2 cJ th g kn2 td) Hp.size) Hp [.ref y] (kPdmV D y n2 cJ (va_A (wMo y n2 cJ th g kn2 td) Hp.size) 0 g kn2 td (jv_X2_digest g kn2 td)) 60 4500 := by
  refine Met.ofW (cc := cX2_digest) (maxL := 9) (ret := (some .long)) (by decide) rfl ?_
  intro p e s m args below meth c s₁ B hml hv
  obtain ⟨rfl, hHp, hE⟩ := hv
  subst hHp
  have hx := B.exec
  have hb := B.bytes
  have hr := B.returns
  have hts := atoms_spec (ws := wsX2_digest) B.pre
  have hown : s.vm.findClass RX2 = some m.cls := findClass_of_methodNamed B.named
  have hlocks := B.notSynchronized
  have hK := hE.1
  have hD := hD9.self (sz := s.heap.size)
  generalize hAe : va_A (wMo y n2 cJ th g kn2 td) s.heap.size = A at hE hD ⊢
  have hA : ∀ q : Nat, s.heap.size ≤ q → A q := fun q h => by rw [← hAe]; exact Or.inr h
  have hS : va_S A s.heap s.heap [] := va_S.rf
  have hl := lv_entry ([.ref y]) (n := 9) (Nat.le_of_ble_eq_true rfl)
  rw [lg_entry_eq]
  generalize (lg_sl ([.ref y]) ++ List.replicate (9 - (lg_sl ([.ref y])).length) Slot.unset).toArray = ls at hl ⊢
  have hl : lv_has ls 9 [(0, .ref y)] := hl
  refine lv_aload_n hx hb dX2_digest_0 rfl (lv_at hl 0 rfl) ?_
  refine lv_iconst (v := 0) hx hb dX2_digest_1 (by decide) ?_
  refine va_put (D := D) (ci := 4) (v := .int 0) (ty := .int) (C := RX2) (T := TX2) (N := 4) hx hb hts iw_X2_digest_X2 tyX2 tyX2_ok nmX2 hown hK hP hD hS 0 rfl rfl 0 (by decide) (hts (.fieldLink RX2 13 "ClocksoloModel" "thrown" "I") (by decide +kernel)) (fun _ h9 => h9) rfl (by decide +kernel) rfl rfl (Nat.le_of_ble_eq_true rfl) dX2_digest_2 (fun H locs hP hD hS => ?_)
  have hP : va_P D vwCl [(y, .inr (4, [.int 0, .ref n2, .int kn2, .int td])), (n2, .inl (cJ, 8, .inr (.inl g)))] H := hP
  have hD : va_D A [(y, .inr (4, [.int 0, .ref n2, .int kn2, .int td])), (n2, .inl (cJ, 8, .inr (.inl g)))] := hD
  refine lv_ldc2 (v := 7788) hx hb hown (hts (.constantLong RX2 126 (7788)) (by decide +kernel)) dX2_digest_5 ?_
  refine lv_aload_n hx hb dX2_digest_8 rfl (lv_at hl 0 rfl) ?_
  refine va_get (D := D) (ci := 4) (v := .int kn2) (C := RX2) (T := TX2) (N := 4) hx hb hts iw_X2_digest_X2 hown hK hP 0 rfl rfl 2 (by decide) (hts (.fieldLink RX2 117 "ClocksoloModel" "knocks" "I") (by decide +kernel)) (fun _ h9 => h9) rfl dX2_digest_9 ?_
  refine lv_i2l (v := kn2.toInt64) hx hb dX2_digest_12 rfl ?_
  refine k_pS [.long 7788, .long kn2.toInt64] (rest := []) ⟨hx, hb, hml, hown, hts⟩ (c_X2_add l D cB cJ _ 7788 kn2.toInt64) (va_cwS 2 hts gX2_digest_X2_add rfl rfl rfl (by decide +kernel) ⟨(Nat.le_of_ble_eq_true rfl), (Nat.le_of_ble_eq_true rfl)⟩) hE hS rfl rfl hl.1 (Nat.le_of_ble_eq_true rfl) dX2_digest_13 ⟨(Nat.le_of_ble_eq_true rfl), (Nat.le_of_ble_eq_true rfl)⟩ (fun locs hS => ?_)
  refine W.eq (g2 := F0 m 16 ls [.long (j_X2_add 7788 kn2.toInt64)]) rfl ?_
  refine lv_aload_n hx hb dX2_digest_16 rfl (lv_at hl 0 rfl) ?_
  refine va_get (D := D) (ci := 4) (v := .int td) (C := RX2) (T := TX2) (N := 4) hx hb hts iw_X2_digest_X2 hown hK hP 0 rfl rfl 3 (by decide) (hts (.fieldLink RX2 35 "ClocksoloModel" "told" "I") (by decide +kernel)) (fun _ h9 => h9) rfl dX2_digest_17 ?_
  refine lv_i2l (v := td.toInt64) hx hb dX2_digest_20 rfl ?_
  refine k_pS [.long (j_X2_add 7788 kn2.toInt64), .long td.toInt64] (rest := []) ⟨hx, hb, hml, hown, hts⟩ (c_X2_add l D cB cJ _ (j_X2_add 7788 kn2.toInt64) td.toInt64) (va_cwS 2 hts gX2_digest_X2_add rfl rfl rfl (by decide +kernel) ⟨(Nat.le_of_ble_eq_true rfl), (Nat.le_of_ble_eq_true rfl)⟩) hE hS rfl rfl hl.1 (Nat.le_of_ble_eq_true rfl) dX2_digest_21 ⟨(Nat.le_of_ble_eq_true rfl), (Nat.le_of_ble_eq_true rfl)⟩ (fun locs hS => ?_)
  refine W.eq (g2 := F0 m 24 ls [.long (j_X2_add (j_X2_add 7788 kn2.toInt64) td.toInt64)]) rfl ?_
  refine lv_lstore_n (lv' := [(1, .long (j_X2_add (j_X2_add 7788 kn2.toInt64) td.toInt64)), (0, .ref y)]) hx hb dX2_digest_24 rfl hl (by decide) rfl (fun ls hl => ?_)
  refine lv_aload_n hx hb dX2_digest_25 rfl (lv_at hl 1 rfl) ?_
  refine va_get (D := D) (ci := 4) (v := .ref n2) (C := RX2) (T := TX2) (N := 4) hx hb hts iw_X2_digest_X2 hown hK hP 0 rfl rfl 1 (by decide) (hts (.fieldLink RX2 9 "ClocksoloModel" "its" "[J") (by decide +kernel)) (fun _ h9 => h9) rfl dX2_digest_26 ?_
  refine lv_astore_n (lv' := [(3, .ref n2), (1, .long (j_X2_add (j_X2_add 7788 kn2.toInt64) td.toInt64)), (0, .ref y)]) hx hb dX2_digest_29 rfl hl (by decide) rfl (fun ls hl => ?_)
  refine lv_aload_n hx hb dX2_digest_30 rfl (lv_at hl 0 rfl) ?_
  refine va_alen hx hb hK hP 1 1 rfl rfl (v := 8) rfl dX2_digest_31 ?_
  refine lv_istore (lv' := [(4, .int 8), (3, .ref n2), (1, .long (j_X2_add (j_X2_add 7788 kn2.toInt64) td.toInt64)), (0, .ref y)]) hx hb dX2_digest_32 hl (by decide) rfl (fun ls hl => ?_)
  refine lv_iconst (v := 0) hx hb dX2_digest_34 (by decide) ?_
  refine lv_istore (lv' := [(5, .int 0), (4, .int 8), (3, .ref n2), (1, .long (j_X2_add (j_X2_add 7788 kn2.toInt64) td.toInt64)), (0, .ref y)]) hx hb dX2_digest_35 hl (by decide) rfl (fun ls hl => ?_)
  refine lpfv_X2d1 hx hb hml hown hts hE (hP.sub [0, 1] rfl) ⟨(Nat.le_of_ble_eq_true rfl), (Nat.le_of_ble_eq_true rfl)⟩  (j_X2_add (j_X2_add 7788 kn2.toInt64) td.toInt64) (fun d_1 locs ls e_1 hS hl => ?_) (8 + 1) 0 (j_X2_add (j_X2_add 7788 kn2.toInt64) td.toInt64) _ _ (by omega) (by omega) rfl hS (lv_sub hl [0, 1, 2, 3, 4] rfl)
  refine lv_iconst (v := 0) hx hb dX2_digest_91 (by decide) ?_
  refine lv_istore_n (lv' := [(3, .int 0), (4, .int 8), (1, .long d_1), (0, .ref y)]) hx hb dX2_digest_92 rfl hl (by decide) rfl (fun ls hl => ?_)
  refine lpfv_X2d3 hx hb hml hown hts hE (hP.sub [0, 1] rfl) ⟨(Nat.le_of_ble_eq_true rfl), (Nat.le_of_ble_eq_true rfl)⟩  d_1 (fun d_2 locs ls e_2 hS hl => ?_) (8 + 1) 0 d_1 _ _ (by omega) (by omega) rfl hS (lv_sub hl [0, 2, 3] rfl)
  refine lv_lload_n hx hb dX2_digest_155 rfl (lv_at hl 0 rfl) ?_
  refine lv_aload_n hx hb dX2_digest_156 rfl (lv_at hl 1 rfl) ?_
  refine k_pV [] (rest := [.long d_2]) ⟨hx, hb, hml, hown, hts⟩ (c_X2_unlike l D cB cJ _ y n2 0 g kn2 td (hP.sub [0, 1] rfl) (tkm_unlike 0 g kn2 td)) (cwV 0 hts gX2_digest_X2_unlike rfl rfl rfl (by decide +kernel) ⟨(Nat.le_of_ble_eq_true rfl), (Nat.le_of_ble_eq_true rfl)⟩) (va_recv hK hP (ci := 4) (q0 := 0) rfl rfl) hE hS rfl rfl hl.1 (Nat.le_of_ble_eq_true rfl) dX2_digest_157 ⟨(Nat.le_of_ble_eq_true rfl), (Nat.le_of_ble_eq_true rfl)⟩ (fun locs hS => ?_)
  refine W.eq (g2 := F0 m 160 ls [.int (j_X2_unlike 0 g kn2 td), .long d_2]) rfl ?_
  refine lv_i2l (v := (j_X2_unlike 0 g kn2 td).toInt64) hx hb dX2_digest_160 rfl ?_
  refine k_pS [.long d_2, .long ((j_X2_unlike 0 g kn2 td).toInt64)] (rest := []) ⟨hx, hb, hml, hown, hts⟩ (c_X2_add l D cB cJ _ d_2 ((j_X2_unlike 0 g kn2 td).toInt64)) (va_cwS 2 hts gX2_digest_X2_add rfl rfl rfl (by decide +kernel) ⟨(Nat.le_of_ble_eq_true rfl), (Nat.le_of_ble_eq_true rfl)⟩) hE hS rfl rfl hl.1 (Nat.le_of_ble_eq_true rfl) dX2_digest_161 ⟨(Nat.le_of_ble_eq_true rfl), (Nat.le_of_ble_eq_true rfl)⟩ (fun locs hS => ?_)
  refine W.eq (g2 := F0 m 164 ls [.long (j_X2_add d_2 ((j_X2_unlike 0 g kn2 td).toInt64))]) rfl ?_
  refine lv_lstore_n (lv' := [(1, .long (j_X2_add d_2 ((j_X2_unlike 0 g kn2 td).toInt64))), (0, .ref y)]) hx hb dX2_digest_164 rfl hl (by decide) rfl (fun ls hl => ?_)
  refine lv_aload_n hx hb dX2_digest_165 rfl (lv_at hl 1 rfl) ?_
  have hFc := va_free (wc := [(y, .inr (4, [.int 0, .ref n2, .int kn2, .int td])), (n2, .inl (cJ, 8, .inr (.inl g)))]) hD hS hA [0, 1] rfl
  refine k_go (va_runV (As := []) (rest := []) ⟨hx, hb, hml, hown, hts⟩ (cv_X2_ordered l D cB cJ _ y n2 0 g kn2 td hP (hD.weaken (fun _ _ _ _ => trivial))) (cwV 0 hts gX2_digest_X2_ordered rfl rfl rfl (by decide +kernel) ⟨(Nat.le_of_ble_eq_true rfl), (Nat.le_of_ble_eq_true rfl)⟩) (k_preV hE hS hFc (va_recv hK hP (ci := 4) (q0 := 0) rfl rfl)) rfl rfl hl.1 rfl (lv_room (Nat.le_of_ble_eq_true rfl)) dX2_digest_166 ⟨(Nat.le_of_ble_eq_true rfl), (Nat.le_of_ble_eq_true rfl)⟩) hS (fun q _ h => hFc q h) hFc (fun v H locs hp hz hk hS => ?_)
  obtain ⟨q_3, u_3, f_3, rfl, hP1, hD1, hf_3, hL_3⟩ := hp
  have hP : va_P D vwCl [(y, .inr (4, [.int 0, .ref n2, .int kn2, .int td])), (n2, .inl (cJ, 8, .inr (.inl g))), (q_3, .inr (0, [.ref u_3, .int 0, .int 0, .int 0])), (u_3, .inl (cB, 15, .inl f_3))] H := hP1
  have hD : va_D A [(y, .inr (4, [.int 0, .ref n2, .int kn2, .int td])), (n2, .inl (cJ, 8, .inr (.inl g))), (q_3, .inr (0, [.ref u_3, .int 0, .int 0, .int 0])), (u_3, .inl (cB, 15, .inl f_3))] := hD1.weaken (fun _ q _ h => hFc q.1 h)
  refine W.eq (g2 := F0 m 169 ls [.ref q_3]) rfl ?_
  refine lv_astore_n (lv' := [(3, .ref q_3), (1, .long (j_X2_add d_2 ((j_X2_unlike 0 g kn2 td).toInt64))), (0, .ref y)]) hx hb dX2_digest_169 rfl hl (by decide) rfl (fun ls hl => ?_)
  refine lv_iconst (v := 0) hx hb dX2_digest_170 (by decide) ?_
  refine lv_istore (lv' := [(4, .int 0), (3, .ref q_3), (1, .long (j_X2_add d_2 ((j_X2_unlike 0 g kn2 td).toInt64))), (0, .ref y)]) hx hb dX2_digest_171 hl (by decide) rfl (fun ls hl => ?_)
  refine lpfv_X2d5 hx hb hml hown hts hE (hP.sub [2, 3] rfl) ⟨(Nat.le_of_ble_eq_true rfl), (Nat.le_of_ble_eq_true rfl)⟩ (by decide) (j_X2_add d_2 ((j_X2_unlike 0 g kn2 td).toInt64)) (fun d_4 locs ls e_4 hS hl => ?_) (15 + 1) 0 (j_X2_add d_2 ((j_X2_unlike 0 g kn2 td).toInt64)) _ _ (by omega) (by omega) rfl hS (lv_sub hl [0, 1, 2, 3] rfl)
  refine lv_lload_n hx hb dX2_digest_200 rfl (lv_at hl 1 rfl) ?_
  refine lv_lconst (v := 1) hx hb dX2_digest_201 (by decide) ?_
  refine k_pS [.long d_4, .long 1] (rest := []) ⟨hx, hb, hml, hown, hts⟩ (c_X2_add l D cB cJ _ d_4 1) (va_cwS 2 hts gX2_digest_X2_add rfl rfl rfl (by decide +kernel) ⟨(Nat.le_of_ble_eq_true rfl), (Nat.le_of_ble_eq_true rfl)⟩) hE hS rfl rfl hl.1 (Nat.le_of_ble_eq_true rfl) dX2_digest_202 ⟨(Nat.le_of_ble_eq_true rfl), (Nat.le_of_ble_eq_true rfl)⟩ (fun locs hS => ?_)
  refine W.eq (g2 := F0 m 205 ls [.long (j_X2_add d_4 1)]) rfl ?_
  refine W.widen (k := 60) (n := 4500) (Nat.le_of_ble_eq_true rfl) (Nat.le_of_ble_eq_true rfl) ?_
  have E9 : j_X2_add d_4 1 = jv_X2_digest g kn2 td := by
    rw [e_4, q_itC (st' := fun k d => j_X2_add d (q_chr (o_L g k)).toInt64) 15 (fun k hk d => by rw [hL_3 k hk]), e_2, e_1, jv_X2_digest]
  exact k_lret hx hb hr hlocks hS dX2_digest_205 ⟨congrArg (fun z => some (Value.long z)) E9, hP.sub [0, 1] rfl, hD.sub [0, 1] (by decide) rfl⟩
