/-! what the strings' methods need: fresh cells, a string of the world as one that nobody writes, numbers in their range -/
theorem k_free0 {A : Nat → Prop} {s : State} {H : Heap} {locs : List Loc} (hS : va_S A s.heap H locs) (hA : ∀ q : Nat, s.heap.size ≤ q → A q) : ∀ q : Nat, va_A [] H.size q → A q :=
  fun q h => h.elim (fun ⟨k, e, h⟩ => by simp at h) (fun h => hA q (Nat.le_trans hS.1 h))
theorem k_nA {A : Nat → Prop} {D : va_G} {cl : List vw_C} {ws wc : va_W} {H : Heap} (hP : va_P D cl ws H) (hD : va_D A ws) (isC : List Nat) (hC : isC.map (fun i => ws[i]?) = wc.map some) (i : Nat) {p : Nat × va_E} (hi : ws[i]? = some p) (hni : i ∉ isC) : ¬ va_A wc H.size p.1 := by
  intro h
  rcases h with ⟨k, e, hk⟩ | h
  · have e1 : (wc.map some)[k]? = some (some (p.1, e)) := by rw [List.getElem?_map, hk]; rfl
    rw [← hC, List.getElem?_map] at e1
    cases hj : isC[k]? with
    | none => rw [hj] at e1; simp at e1
    | some j =>
      rw [hj] at e1
      have e2 : ws[j]? = some (p.1, e) := by simpa using e1
      have e3 : j = i := hD.1 j i _ _ e2 hi rfl
      subst e3
      exact hni (List.mem_of_getElem? hj)
  · exact absurd (hP i p hi).lt (Nat.not_lt.mpr h)
/-- a string of the world as one that nobody in B writes -/
theorem k_RSw {D : va_G} {cB cJ : ClassId} {B : Nat → Prop} {s : State} {args : Array Value} {Ts : List Cond} {ws : va_W} {H : Heap} {q u nn : Nat} {f : Nat → Int32} (hts : ∀ w ∈ Ts, w.before args s = true) (hin : ∀ w ∈ wsJ00, w ∈ Ts) (hK : va_K D vwCl [(cB, .byte), (cJ, .long)] s) (hP : va_P D vwCl ws H) (i j : Nat) (hi : ws[i]? = some (q, .inr (0, [.ref u, .int 0, .int 0, .int 0]))) (hj : ws[j]? = some (u, .inl (cB, nn, .inl f))) (hn : nn < 2 ^ 31) (hq : ¬ B q) (hu : ¬ B u) : kRS B s H q nn f := by
  obtain ⟨r, hr, cell, h1, h2, h3, h4⟩ := hP i _ hi
  obtain rfl : (RJ0, TJ0, 4) = r := Option.some.inj hr
  obtain ⟨hS, hfc, kC, hkC, hkind⟩ := hK.1 0 _ rfl
  have hv : cell.vm ≠ .unknown := by rw [h3]; exact fun z => by cases z
  refine ⟨⟨cell, h1, by rw [h3]; rfl, by rw [h2]; exact hfc, hq⟩, ?_, u, ?_, k_tab hK hP j hj hn hu⟩
  · obtain ⟨cf, kf, fi, fd, hf, hsl⟩ := hS 1 (by decide)
    exact ⟨cf, kf, fi, fd, cell, hf, (u_facts hfc hkC (u_lays hts hin (k := 1) (by decide)) hf).1, h1, hv, by rw [hsl]; exact h4 1 (by decide), hq⟩
  · obtain ⟨cf, kf, fi, fd, hf, hsl⟩ := hS 0 (by decide)
    exact ⟨cf, kf, fi, fd, cell, hf, (u_facts hfc hkC (u_lays hts hin (k := 0) (by decide)) hf).1, h1, hv, by rw [hsl]; exact h4 0 (by decide), hq⟩
theorem k_preRVw {D : va_G} {cB cJ : ClassId} {A B : Nat → Prop} {s : State} {H : Heap} {locs : List Loc} {C : String} {b sq sk : Nat} {sf : Nat → Int32} {As : List Value} (hE : kE D cB cJ A s s.heap) (hR : kRS B s H sq sk sf) (hS : va_S A s.heap H locs) (hB : ∀ q, B q → A q) (hr : ∃ cellB : Cell, H[b]? = some cellB ∧ cellB.vm.isStatics = false ∧ s.vm.findClass C = some cellB.cls) : PreV s H C b (kPreR D cB cJ B H (.ref b :: As) sq sk sf) As :=
  ⟨kPreR.blind, hr, fun U hU hW => ⟨rfl, hU, hE.warm hS hB hW hU, by rw [hU]; exact hR.pass hW.alike (fun _ _ _ => rfl) (fun _ h => h)⟩⟩
/-- the numbers of a run: below a day -/
def kIn (f : Nat → Int64) : Prop := ∀ j : Nat, j < 8 → ∃ k : Nat, k < 86400000000000 ∧ f j = lN k
theorem q_sec {k : Nat} (hk : k < 86400000000000) : (lN k / 1000000000).toInt32 = nI (k / 1000000000) := by
  rw [show (1000000000 : Int64) = lN 1000000000 from rfl, pk_lDiv (by omega) (by decide) (by decide), lN_i]
theorem q_rem9 {k : Nat} (hk : k < 86400000000000) : lN k - lN k / 1000000000 * 1000000000 = lN (k % 1000000000) := by
  rw [show (1000000000 : Int64) = lN 1000000000 from rfl, pk_lRem (by omega) (by decide) (by decide)]
/-- a part of a number, counted -/
def q_pt (k : Nat) (a : Int32) : Nat := if a = 0 then k / 1000000000 / 3600 else if a = 1 then k / 1000000000 / 60 % 60 else if a = 2 then k / 1000000000 % 60 else if a = 3 then k % 1000000000 else k / 1000000000
theorem q_pt_lt {k : Nat} (hk : k < 86400000000000) (a : Int32) : q_pt k a < 2 ^ 31 := by
  unfold q_pt
  repeat' split
  all_goals omega
theorem q_partX {k : Nat} (hk : k < 86400000000000) (a : Int32) : j_X0_partOf (lN k) a = nI (q_pt k a) := by
  unfold j_X0_partOf q_pt
  rw [q_sec hk, q_rem9 hk]
  have h1 : k / 1000000000 < 2 ^ 31 := by omega
  have h2 : k / 1000000000 / 60 < 2 ^ 31 := by omega
  by_cases c0 : a = 0
  · rw [if_pos c0, if_pos c0]; exact pk_div h1 (by decide) (by decide)
  rw [if_neg c0, if_neg c0]
  by_cases c1 : a = 1
  · rw [if_pos c1, if_pos c1, show (60 : Int32) = nI 60 from rfl, pk_div h1 (by decide) (by decide)]; exact pk_rem h2 (by decide) (by decide)
  rw [if_neg c1, if_neg c1]
  by_cases c2 : a = 2
  · rw [if_pos c2, if_pos c2]; exact pk_rem h1 (by decide) (by decide)
  rw [if_neg c2, if_neg c2]
  by_cases c3 : a = 3
  · rw [if_pos c3, if_pos c3, lN_i]
  · rw [if_neg c3, if_neg c3]
theorem q_app (w : Nat) (hw : w < 2 ^ 31) : ∃ zz : Nat, (T_J6_stringSize_0f7a4 (nI w) ∧ j_J6_stringSize_0f7a4 (nI w) = nI zz) ∧ 1 ≤ zz ∧ zz ≤ 10 ∧ w < 10 ^ zz := by
  obtain ⟨t, z, h1, h2, h3, h4⟩ := q_ssize w hw
  exact ⟨z, ⟨t, h4⟩, h1, h2, h3⟩
theorem q_ss1j : ∀ w, w < 10 → j_J6_stringSize_0f7a4 (nI w) = nI 1 := by decide +kernel
theorem q_ss1 (w : Nat) (hw : w < 10) : T_J6_stringSize_0f7a4 (nI w) ∧ j_J6_stringSize_0f7a4 (nI w) = nI 1 := ⟨(q_ssize w (by omega)).1, q_ss1j w hw⟩
theorem q_clk {a : Int32} (h : j_X0_needClock a = none) : ∃ c : Nat, c < 8 ∧ a = nI c := by
  unfold j_X0_needClock at h
  by_cases c0 : a < 0
  · rw [if_pos c0] at h; cases h
  rw [if_neg c0] at h
  by_cases c1 : a < 8
  · obtain ⟨j, hj, rfl⟩ := nI_of c0
    exact ⟨j, (nI_ltI hj (by decide)).mp c1, rfl⟩
  · rw [if_neg c1] at h; cases h
theorem q_numC (kn ch : Int32) (f : Nat → Int64) {c : Nat} (hc : c < 8) : j_X0_numberOf kn ch f (nI c) = f c := by
  unfold j_X0_numberOf
  rw [if_neg (nI_pos (by omega)), if_neg (fun h : 8 ≤ nI c => absurd ((nI_leI (by decide) (by omega)).mp (show nI 8 ≤ nI c from h)) (by omega)), nI_clamp (by omega)]
theorem q_num {f : Nat → Int64} (hF : kIn f) (kn ch : Int32) {a : Int32} (h : j_X0_needClock a = none) : ∃ k : Nat, k < 86400000000000 ∧ j_X0_numberOf kn ch f a = lN k := by
  obtain ⟨c, hc, rfl⟩ := q_clk h
  obtain ⟨k, hk, e⟩ := hF c hc
  exact ⟨k, hk, by rw [q_numC kn ch f hc, e]⟩
theorem q_c8l (kn ch : Int32) (f : Nat → Int64) (a : Int32) : ∀ (u k : Nat), k ≤ 8 → ∃ c : Nat, c < 8 ∧ jl_X0_clockAtPlace_2 kn ch f a (fun _ => 0) u (nI k) = nI c := by
  intro u
  induction u with
  | zero => intro k _; exact ⟨0, by decide, rfl⟩
  | succ u ih =>
    intro k hk
    rw [jl_X0_clockAtPlace_2]
    by_cases h : 8 ≤ nI k
    · rw [if_pos h]; exact ⟨0, by decide, rfl⟩
    · rw [if_neg h]
      have hk8 : k < 8 := Nat.lt_of_not_le (fun q => h (nI_le q (by omega)))
      split
      · exact ⟨k, hk8, rfl⟩
      · rw [nI_1]; exact ih (k + 1) (by omega)
theorem q_c8 (kn ch : Int32) (f : Nat → Int64) (a : Int32) : ∃ c : Nat, c < 8 ∧ j_X0_clockAtPlace kn ch f a = nI c := q_c8l kn ch f a 100 0 (by omega)
/-- any long below 10 ^ 18 in size, as append(long) takes it -/
theorem q_appL {v : Int64} (h1 : -1000000000000000000 < v.toInt) (h2 : v.toInt < 1000000000000000000) : ∃ zz : Nat, zz ≤ 20 ∧ (T_J13_stringSize_95d88 v ∧ j_J13_stringSize_95d88 v = nI zz) ∧ (∀ cp p : Nat, cp < 2 ^ 30 → zz ≤ p → p ≤ cp → T_J13_getChars_11360 cp v (nI p)) := by
  by_cases h : v < 0
  · rw [Int64.lt_iff_toInt_lt] at h
    have h0 : (0 : Int64).toInt = 0 := rfl
    have e : v = -lN v.toInt.natAbs := by
      rw [← Int64.toInt_inj, q_negTL (by omega)]
      omega
    obtain ⟨t, z, z1, z2, z3, z4⟩ := q_ssizeN v.toInt.natAbs (by omega) (by omega)
    rw [← e] at t z4
    refine ⟨z + 1, by omega, ⟨t, z4⟩, fun cp p hcp hzp hpc => ?_⟩
    rw [e]
    exact q_gcTN cp _ z p hcp (by omega) (by omega) z3 z1 hzp hpc
  · obtain ⟨k, hk, rfl⟩ := pk_lOf h
    rw [pk_lT hk] at h2
    obtain ⟨t, z, z1, z2, z3, z4⟩ := q_ssizeL k (by omega)
    exact ⟨z, by omega, ⟨t, z4⟩, fun cp p hcp hzp hpc => q_gcTL cp k z p hcp (by omega) z3 z1 hzp hpc⟩
/-- the rest of a division, each long by each long -/
theorem lq_rem (a b : Int64) : (a - a / b * b).toInt = a.toInt.tmod b.toInt := by
  have h1 := Int64.le_toInt (a % b)
  have h2 := Int64.toInt_lt (a % b)
  rw [Int64.toInt_mod] at h1 h2
  rw [Int64.toInt_sub, Int64.toInt_mul, Int64.toInt_div, Int.bmod_mul_bmod, Int.sub_bmod_bmod, show a.toInt - a.toInt.tdiv b.toInt * b.toInt = a.toInt.tmod b.toInt from by rw [Int.tmod_def, Int.mul_comm b.toInt]]
  exact Int.bmod_eq_of_le (by omega) (by omega)
theorem q_Lrem (a b : Int64) (h1 : -1000000000000000000 < a.toInt) (h2 : a.toInt < 1000000000000000000) : -1000000000000000000 < (a - a / b * b).toInt ∧ (a - a / b * b).toInt < 1000000000000000000 := by
  rw [lq_rem]
  have h3 := Int.natAbs_tmod a.toInt b.toInt
  have h4 := Nat.mod_le a.toInt.natAbs b.toInt.natAbs
  omega
theorem q_Ldiv (a b : Int64) (h1 : -1000000000000000000 < a.toInt) (h2 : a.toInt < 1000000000000000000) : -1000000000000000000 < (a / b).toInt ∧ (a / b).toInt < 1000000000000000000 := by
  have e : (a / b).toInt = (a.toInt.tdiv b.toInt).bmod (2 ^ 64) := Int64.toInt_div a b
  have h3 := Int.natAbs_tdiv_le_natAbs a.toInt b.toInt
  have e2 : (a.toInt.tdiv b.toInt).bmod (2 ^ 64) = a.toInt.tdiv b.toInt := Int.bmod_eq_of_le (by omega) (by omega)
  rw [e, e2]
  omega
theorem q_inG {g : Nat → Int64} (hG : kIn g) {a : Int32} (h : vp_in a 8) : ∃ k : Nat, k < 86400000000000 ∧ g a.toNatClampNeg = lN k := hG _ (by unfold vp_in at h; omega)
theorem q_partM {k : Nat} (hk : k < 86400000000000) (a : Int32) : j_X2_part (lN k) a = nI (q_pt k a) := by
  unfold j_X2_part q_pt j_X2_secondOf
  rw [q_sec hk, q_rem9 hk]
  have h1 : k / 1000000000 < 2 ^ 31 := by omega
  have h2 : k / 1000000000 % 3600 < 2 ^ 31 := by omega
  by_cases c0 : a = 0
  · rw [if_pos c0, if_pos c0]; exact pk_div h1 (by decide) (by decide)
  rw [if_neg c0, if_neg c0]
  by_cases c1 : a = 1
  · rw [if_pos c1, if_pos c1, show (3600 : Int32) = nI 3600 from rfl, pk_rem h1 (by decide) (by decide), show (60 : Int32) = nI 60 from rfl, pk_div h2 (by decide) (by decide)]
    exact congrArg nI (by omega)
  rw [if_neg c1, if_neg c1]
  by_cases c2 : a = 2
  · rw [if_pos c2, if_pos c2]; exact pk_rem h1 (by decide) (by decide)
  rw [if_neg c2, if_neg c2]
  by_cases c3 : a = 3
  · rw [if_pos c3, if_pos c3, lN_i]
  · rw [if_neg c3, if_neg c3]
theorem q_bnd {k : Nat} (hk : k < 86400000000000) : -1000000000000000000 < (lN k).toInt ∧ (lN k).toInt < 1000000000000000000 := by
  rw [pk_lT (by omega)]; omega
theorem q_bndS {a b : Nat} (ha : a < 86400000000000) (hb : b < 86400000000000) : -1000000000000000000 < (lN a - lN b).toInt ∧ (lN a - lN b).toInt < 1000000000000000000 := by
  rw [Int64.toInt_sub, pk_lT (by omega), pk_lT (by omega), Int.bmod_eq_of_le (by omega) (by omega)]; omega
theorem q_msf0 : sb_Fit (fun j => ([] : List Int32).getD j 0) := fun j => by show fits .byte (.int 0) = true; decide
theorem q_msf1 (z : Int32) (hz : fits .byte (.int z) = true) : sb_Fit (fun j => ([z] : List Int32).getD j 0) := fun j => by
  cases j with
  | zero => exact hz
  | succ j => show fits .byte (.int 0) = true; decide
/-! the order of the reference: how many are ahead, how many are told so far -/
def o_lt (g : Nat → Int64) (c k : Nat) : Nat := if g k < g c ∨ (g k = g c ∧ k < c) then 1 else 0
def o_ah (g : Nat → Int64) (c : Nat) : Nat → Nat
  | 0 => 0
  | o + 1 => o_ah g c o + o_lt g c o
theorem o_ah_le (g : Nat → Int64) (c : Nat) : ∀ o, o_ah g c o ≤ o := by
  intro o
  induction o with
  | zero => exact Nat.le_refl _
  | succ o ih => unfold o_ah o_lt; split <;> omega
theorem o_lt_self (g : Nat → Int64) (c : Nat) : o_lt g c c = 0 := by
  unfold o_lt
  rw [if_neg]
  rintro (h | ⟨-, h⟩)
  · rw [Int64.lt_iff_toInt_lt] at h; omega
  · omega
theorem o_ah_lt (g : Nat → Int64) (c : Nat) : ∀ o, c < o → o_ah g c o < o := by
  intro o
  induction o with
  | zero => intro h; omega
  | succ o ih =>
    intro h
    unfold o_ah
    rcases Nat.lt_or_ge c o with q | q
    · have := ih q
      have : o_lt g c o ≤ 1 := by unfold o_lt; split <;> omega
      omega
    · obtain rfl : c = o := by omega
      have := o_ah_le g c c
      rw [o_lt_self]
      omega
theorem q_ahL {g : Nat → Int64} {ck ot : Nat} (ho : ot < 8) (hc : ck < 8) (h : g (nI ot).toNatClampNeg < g (nI ck).toNatClampNeg) : nI (o_ah g ck ot) + 1 = nI (o_ah g ck (ot + 1)) := by
  rw [nI_clamp (by omega), nI_clamp (by omega)] at h
  rw [nI_1]
  unfold o_ah o_lt
  rw [if_pos (Or.inl h)]
  cases ot <;> rfl
theorem q_ahE {g : Nat → Int64} {ck ot : Nat} (ho : ot < 8) (hc : ck < 8) (h : g (nI ot).toNatClampNeg = g (nI ck).toNatClampNeg) (h2 : ¬ nI ck ≤ nI ot) : nI (o_ah g ck ot) + 1 = nI (o_ah g ck (ot + 1)) := by
  rw [nI_clamp (by omega), nI_clamp (by omega)] at h
  rw [nI_1]
  have h3 : ot < ck := Nat.lt_of_not_le (fun q => h2 (nI_le q (by omega)))
  unfold o_ah o_lt
  rw [if_pos (Or.inr ⟨h, h3⟩)]
  cases ot <;> rfl
theorem q_ahN {g : Nat → Int64} {ck ot : Nat} (ho : ot < 8) (hc : ck < 8) (h1 : ¬ g (nI ot).toNatClampNeg < g (nI ck).toNatClampNeg) (h : ¬ g (nI ot).toNatClampNeg = g (nI ck).toNatClampNeg ∨ nI ck ≤ nI ot) : nI (o_ah g ck ot) + 0 = nI (o_ah g ck (ot + 1)) := by
  rw [nI_clamp (by omega), nI_clamp (by omega)] at h1 h
  rw [Int32.add_zero]
  have h3 : ¬ (g ot < g ck ∨ (g ot = g ck ∧ ot < ck)) := by
    rintro (q | ⟨q1, q2⟩)
    · exact h1 q
    · rcases h with h | h
      · exact h q1
      · exact absurd ((nI_leI (by omega) (by omega)).mp h) (by omega)
  have e : o_ah g ck (ot + 1) = o_ah g ck ot + o_lt g ck ot := rfl
  rw [e, show o_lt g ck ot = 0 from if_neg h3, Nat.add_zero]
def o_t (a rk ck k : Nat) : Nat := if a < rk ∨ (a = rk ∧ k < ck) then 1 else 0
def o_cnt (ah : Nat → Nat) (rk ck : Nat) : Nat := o_t (ah 0) rk ck 0 + o_t (ah 1) rk ck 1 + o_t (ah 2) rk ck 2 + o_t (ah 3) rk ck 3 + o_t (ah 4) rk ck 4 + o_t (ah 5) rk ck 5 + o_t (ah 6) rk ck 6 + o_t (ah 7) rk ck 7
theorem o_t_le (a rk ck k : Nat) : o_t a rk ck k ≤ 1 := by unfold o_t; split <;> omega
theorem o_cnt_le (ah : Nat → Nat) (rk ck : Nat) : o_cnt ah rk ck ≤ 8 := by
  have h := fun a k => o_t_le a rk ck k
  have h0 := h (ah 0) 0
  have h1 := h (ah 1) 1
  have h2 := h (ah 2) 2
  have h3 := h (ah 3) 3
  have h4 := h (ah 4) 4
  have h5 := h (ah 5) 5
  have h6 := h (ah 6) 6
  have h7 := h (ah 7) 7
  unfold o_cnt
  omega
theorem o_t_step (a rk ck k : Nat) : o_t a rk (ck + 1) k = o_t a rk ck k + (if k = ck ∧ a = rk then 1 else 0) := by
  unfold o_t
  repeat' split
  all_goals omega
theorem o_t_rank (a rk k : Nat) (hk : k < 8) : o_t a (rk + 1) 0 k = o_t a rk 8 k := by
  unfold o_t
  repeat' split
  all_goals omega
theorem o_cnt_rank (ah : Nat → Nat) (rk : Nat) : o_cnt ah (rk + 1) 0 = o_cnt ah rk 8 := by
  unfold o_cnt
  rw [o_t_rank _ _ 0 (by decide), o_t_rank _ _ 1 (by decide), o_t_rank _ _ 2 (by decide), o_t_rank _ _ 3 (by decide), o_t_rank _ _ 4 (by decide), o_t_rank _ _ 5 (by decide), o_t_rank _ _ 6 (by decide), o_t_rank _ _ 7 (by decide)]
theorem o_cnt_step (ah : Nat → Nat) (rk ck : Nat) (hc : ck < 8) : o_cnt ah rk (ck + 1) = o_cnt ah rk ck + (if ah ck = rk then 1 else 0) := by
  unfold o_cnt
  simp only [o_t_step]
  rcases (show ck = 0 ∨ ck = 1 ∨ ck = 2 ∨ ck = 3 ∨ ck = 4 ∨ ck = 5 ∨ ck = 6 ∨ ck = 7 by omega) with rfl | rfl | rfl | rfl | rfl | rfl | rfl | rfl <;> simp <;> omega
theorem o_cnt_0 (ah : Nat → Nat) : o_cnt ah 0 0 = 0 := by
  have h : ∀ a k, o_t a 0 0 k = 0 := fun a k => by unfold o_t; rw [if_neg (by omega)]
  unfold o_cnt
  simp only [h]
theorem o_cnt_8 (ah : Nat → Nat) (h : ∀ k, k < 8 → ah k < 8) : o_cnt ah 8 0 = 8 := by
  have h1 : ∀ k, k < 8 → o_t (ah k) 8 0 k = 1 := fun k hk => by unfold o_t; rw [if_pos (Or.inl (h k hk))]
  unfold o_cnt
  rw [h1 0 (by decide), h1 1 (by decide), h1 2 (by decide), h1 3 (by decide), h1 4 (by decide), h1 5 (by decide), h1 6 (by decide), h1 7 (by decide)]
theorem q_cntE (ah : Nat → Nat) (hah : ∀ k, k < 8 → ah k ≤ 8) {rk ck : Nat} (hr : rk ≤ 8) (hc : ck < 8) (h : nI (ah ck) = nI rk) : o_cnt ah rk (ck + 1) = o_cnt ah rk ck + 1 := by
  rw [o_cnt_step ah rk ck hc, if_pos ((nI_eq (by have := hah ck hc; omega) (by omega)).mp h)]
theorem q_cntN (ah : Nat → Nat) {rk ck : Nat} (hc : ck < 8) (h : ¬ nI (ah ck) = nI rk) : o_cnt ah rk (ck + 1) = o_cnt ah rk ck := by
  rw [o_cnt_step ah rk ck hc, if_neg (fun e => h (by rw [e])), Nat.add_zero]
