/-! the law's words, by their places; what a builder selects of its superclass' private methods -/
theorem k_sel_sup {C : String} {y z z' : MethodName} {s : State} {args : Array Value} (hy : y.cls ≠ "java/lang/invoke/MethodHandle" ∧ y.cls ≠ "java/lang/invoke/VarHandle") (hC : (Cond.selects C z z').before args s = true) (hz : z'.cls = y.cls) (hpriv : (Cond.privateMethod y).before args s = true) (hinst : (Cond.instanceMethod y).before args s = true) : (Cond.selects C y y).before args s = true := by
  obtain ⟨c, r, m, hc, -, hm, -, mk0, hk, hni⟩ := Cond.selects_spec hC
  obtain ⟨mk, methM, hnamed, hmethM, -, -⟩ := Cond.instanceMethod_spec hinst
  have hfound : s.methodFound? y.cls y.name y.desc = some mk := State.methodFound?_of_named hnamed hy
  have hcls : mk.cls = m.cls := Option.some.inj ((findClass_of_methodNamed hnamed).symm.trans (by rw [← hz]; exact findClass_of_methodNamed hm))
  have hsel : selectMethod {} s.vm c mk = .method mk := selectMethod_private hmethM (Cond.privateMethod_at hpriv mk methM hnamed hmethM)
  simp only [Cond.before, Cond.holds, Cond.value, hc, hfound, hnamed, hsel, hcls, hk]
  simp
  exact hni
def k_sups : List Cond := [.selects "java/lang/StringBuilder" ⟨"java/lang/AbstractStringBuilder", "ensureCapacityInternal", "(I)V"⟩ ⟨"java/lang/AbstractStringBuilder", "ensureCapacityInternal", "(I)V"⟩, .selects "java/lang/StringBuilder" ⟨"java/lang/AbstractStringBuilder", "newCapacity", "(I)I"⟩ ⟨"java/lang/AbstractStringBuilder", "newCapacity", "(I)I"⟩, .selects "java/lang/StringBuilder" ⟨"java/lang/AbstractStringBuilder", "inflate", "()V"⟩ ⟨"java/lang/AbstractStringBuilder", "inflate", "()V"⟩, .selects "java/lang/StringBuilder" ⟨"java/lang/AbstractStringBuilder", "appendNull", "()Ljava/lang/AbstractStringBuilder;"⟩ ⟨"java/lang/AbstractStringBuilder", "appendNull", "()Ljava/lang/AbstractStringBuilder;"⟩, .selects "java/lang/StringBuilder" ⟨"java/lang/AbstractStringBuilder", "putStringAt", "(ILjava/lang/String;)V"⟩ ⟨"java/lang/AbstractStringBuilder", "putStringAt", "(ILjava/lang/String;)V"⟩, .selects "java/lang/StringBuilder" ⟨"java/lang/AbstractStringBuilder", "inflateIfNeededFor", "(Ljava/lang/String;)V"⟩ ⟨"java/lang/AbstractStringBuilder", "inflateIfNeededFor", "(Ljava/lang/String;)V"⟩]
def lw_tbl2 : List Cond := lw_tbl ++ k_sups
theorem k_sup0 {args : Array Value} {s : State} (hts : ∀ w ∈ lw_tbl, w.before args s = true) : (Cond.selects "java/lang/StringBuilder" ⟨"java/lang/AbstractStringBuilder", "ensureCapacityInternal", "(I)V"⟩ ⟨"java/lang/AbstractStringBuilder", "ensureCapacityInternal", "(I)V"⟩).before args s = true := k_sel_sup (z := ⟨"java/lang/AbstractStringBuilder", "isLatin1", "()Z"⟩) (z' := ⟨"java/lang/AbstractStringBuilder", "isLatin1", "()Z"⟩) ⟨by decide +kernel, by decide +kernel⟩ (hts _ (List.mem_of_getElem? (i := 134) (by decide +kernel))) rfl (hts _ (List.mem_of_getElem? (i := 97) (by decide +kernel))) (hts _ (List.mem_of_getElem? (i := 98) (by decide +kernel)))
theorem k_sup1 {args : Array Value} {s : State} (hts : ∀ w ∈ lw_tbl, w.before args s = true) : (Cond.selects "java/lang/StringBuilder" ⟨"java/lang/AbstractStringBuilder", "newCapacity", "(I)I"⟩ ⟨"java/lang/AbstractStringBuilder", "newCapacity", "(I)I"⟩).before args s = true := k_sel_sup (z := ⟨"java/lang/AbstractStringBuilder", "isLatin1", "()Z"⟩) (z' := ⟨"java/lang/AbstractStringBuilder", "isLatin1", "()Z"⟩) ⟨by decide +kernel, by decide +kernel⟩ (hts _ (List.mem_of_getElem? (i := 134) (by decide +kernel))) rfl (hts _ (List.mem_of_getElem? (i := 101) (by decide +kernel))) (hts _ (List.mem_of_getElem? (i := 102) (by decide +kernel)))
theorem k_sup2 {args : Array Value} {s : State} (hts : ∀ w ∈ lw_tbl, w.before args s = true) : (Cond.selects "java/lang/StringBuilder" ⟨"java/lang/AbstractStringBuilder", "inflate", "()V"⟩ ⟨"java/lang/AbstractStringBuilder", "inflate", "()V"⟩).before args s = true := k_sel_sup (z := ⟨"java/lang/AbstractStringBuilder", "isLatin1", "()Z"⟩) (z' := ⟨"java/lang/AbstractStringBuilder", "isLatin1", "()Z"⟩) ⟨by decide +kernel, by decide +kernel⟩ (hts _ (List.mem_of_getElem? (i := 134) (by decide +kernel))) rfl (hts _ (List.mem_of_getElem? (i := 140) (by decide +kernel))) (hts _ (List.mem_of_getElem? (i := 141) (by decide +kernel)))
theorem k_sup3 {args : Array Value} {s : State} (hts : ∀ w ∈ lw_tbl, w.before args s = true) : (Cond.selects "java/lang/StringBuilder" ⟨"java/lang/AbstractStringBuilder", "appendNull", "()Ljava/lang/AbstractStringBuilder;"⟩ ⟨"java/lang/AbstractStringBuilder", "appendNull", "()Ljava/lang/AbstractStringBuilder;"⟩).before args s = true := k_sel_sup (z := ⟨"java/lang/AbstractStringBuilder", "isLatin1", "()Z"⟩) (z' := ⟨"java/lang/AbstractStringBuilder", "isLatin1", "()Z"⟩) ⟨by decide +kernel, by decide +kernel⟩ (hts _ (List.mem_of_getElem? (i := 134) (by decide +kernel))) rfl (hts _ (List.mem_of_getElem? (i := 318) (by decide +kernel))) (hts _ (List.mem_of_getElem? (i := 319) (by decide +kernel)))
theorem k_sup4 {args : Array Value} {s : State} (hts : ∀ w ∈ lw_tbl, w.before args s = true) : (Cond.selects "java/lang/StringBuilder" ⟨"java/lang/AbstractStringBuilder", "putStringAt", "(ILjava/lang/String;)V"⟩ ⟨"java/lang/AbstractStringBuilder", "putStringAt", "(ILjava/lang/String;)V"⟩).before args s = true := k_sel_sup (z := ⟨"java/lang/AbstractStringBuilder", "isLatin1", "()Z"⟩) (z' := ⟨"java/lang/AbstractStringBuilder", "isLatin1", "()Z"⟩) ⟨by decide +kernel, by decide +kernel⟩ (hts _ (List.mem_of_getElem? (i := 134) (by decide +kernel))) rfl (hts _ (List.mem_of_getElem? (i := 334) (by decide +kernel))) (hts _ (List.mem_of_getElem? (i := 335) (by decide +kernel)))
theorem k_sup5 {args : Array Value} {s : State} (hts : ∀ w ∈ lw_tbl, w.before args s = true) : (Cond.selects "java/lang/StringBuilder" ⟨"java/lang/AbstractStringBuilder", "inflateIfNeededFor", "(Ljava/lang/String;)V"⟩ ⟨"java/lang/AbstractStringBuilder", "inflateIfNeededFor", "(Ljava/lang/String;)V"⟩).before args s = true := k_sel_sup (z := ⟨"java/lang/AbstractStringBuilder", "isLatin1", "()Z"⟩) (z' := ⟨"java/lang/AbstractStringBuilder", "isLatin1", "()Z"⟩) ⟨by decide +kernel, by decide +kernel⟩ (hts _ (List.mem_of_getElem? (i := 134) (by decide +kernel))) rfl (hts _ (List.mem_of_getElem? (i := 338) (by decide +kernel))) (hts _ (List.mem_of_getElem? (i := 339) (by decide +kernel)))
theorem lw_tbl2_ok {args : Array Value} {s : State} (hts : ∀ w ∈ lw_tbl, w.before args s = true) : ∀ w ∈ lw_tbl2, w.before args s = true := by
  intro w h
  rcases List.mem_append.mp h with h | h
  · exact hts w h
  · exact (show ∀ w ∈ k_sups, w.before args s = true from (List.forall_mem_cons.mpr ⟨k_sup0 hts, (List.forall_mem_cons.mpr ⟨k_sup1 hts, (List.forall_mem_cons.mpr ⟨k_sup2 hts, (List.forall_mem_cons.mpr ⟨k_sup3 hts, (List.forall_mem_cons.mpr ⟨k_sup4 hts, (List.forall_mem_cons.mpr ⟨k_sup5 hts, (fun _ h => absurd h List.not_mem_nil)⟩)⟩)⟩)⟩)⟩)⟩)) w h
theorem lw_tbl2_of : ∀ w ∈ lw_tbl, w ∈ lw_tbl2 := fun _ h => List.mem_append_left _ h
def lwD : List (List Cond) := [k2_sels lw_privs, tables_1_1, tables_1_2, tables_1_3, tables_1_4, tables_1_5, k_sups]
theorem lwD_eq : lw_tbl2 = lwD.flatten := by simp only [lw_tbl2, lw_tbl, tables_1, lwD, List.flatten_cons, List.flatten_nil, List.append_assoc, List.append_nil]
theorem lwD_in {ws : List Cond} (ps : List (Nat × Nat)) (hp : ws = ps.filterMap (fun q => (lwD[q.1]?).bind (fun C => C[q.2]?))) : ∀ w ∈ ws, w ∈ lw_tbl2 := by
  intro w hw
  rw [hp] at hw
  obtain ⟨q, -, hi⟩ := List.mem_filterMap.mp hw
  obtain ⟨C, h1, h2⟩ := Option.bind_eq_some_iff.mp hi
  rw [lwD_eq]
  exact List.mem_flatten.mpr ⟨C, List.mem_of_getElem? h1, List.mem_of_getElem? h2⟩
set_option maxRecDepth 20000 in
theorem in_wsL_law0_r1 : ∀ w ∈ wsL_law0_r1, w ∈ lw_tbl2 := lwD_in [(1, 22), (1, 23), (1, 1), (4, 23), (4, 24), (1, 2), (3, 18), (3, 19), (1, 3), (1, 24), (1, 25), (1, 26), (1, 27), (1, 28), (1, 29), (1, 40), (1, 30), (1, 31), (1, 32), (4, 25), (4, 26), (4, 27), (4, 28), (4, 30)] rfl
set_option maxRecDepth 20000 in
theorem in_wsL_law0_r2 : ∀ w ∈ wsL_law0_r2, w ∈ lw_tbl2 := lwD_in [(3, 21), (3, 22), (3, 23), (3, 31), (3, 32), (1, 0), (3, 33), (3, 34), (3, 35), (3, 36), (3, 37), (3, 38), (3, 39), (3, 40), (3, 41), (3, 42), (3, 43), (1, 7), (3, 59), (3, 60), (3, 61), (3, 62), (1, 8), (2, 165)] rfl
set_option maxRecDepth 20000 in
theorem in_wsL_law0_r3 : ∀ w ∈ wsL_law0_r3, w ∈ lw_tbl2 := lwD_in [(2, 171), (2, 172), (2, 173), (2, 174), (2, 175), (2, 170), (3, 66), (3, 68), (0, 5), (3, 69), (2, 167), (2, 168), (2, 169), (4, 46), (4, 47), (4, 48), (4, 49), (4, 56), (4, 61), (4, 50), (4, 51), (4, 52), (4, 53), (4, 54)] rfl
set_option maxRecDepth 20000 in
theorem in_wsL_law0_r4 : ∀ w ∈ wsL_law0_r4, w ∈ lw_tbl2 := lwD_in [(4, 55), (4, 57), (4, 59), (0, 6), (4, 60), (4, 29), (4, 62), (4, 64), (0, 7), (4, 65), (4, 32), (4, 66), (4, 67), (4, 68), (3, 70), (3, 71), (3, 72), (3, 73), (3, 74), (3, 75), (3, 76), (3, 77), (3, 78), (3, 79)] rfl
set_option maxRecDepth 20000 in
theorem in_wsL_law0_r5 : ∀ w ∈ wsL_law0_r5, w ∈ lw_tbl2 := lwD_in [(3, 80), (1, 180), (1, 182), (0, 2), (1, 183), (4, 69), (4, 70), (4, 71), (4, 72), (4, 73), (3, 82), (3, 83), (3, 84), (3, 85), (3, 86), (3, 87), (3, 88), (4, 74), (4, 75), (4, 76), (4, 77), (3, 89), (3, 90), (3, 91)] rfl
set_option maxRecDepth 20000 in
theorem in_wsL_law0_r6 : ∀ w ∈ wsL_law0_r6, w ∈ lw_tbl2 := lwD_in [(3, 92), (3, 93), (3, 94), (3, 95), (3, 96), (4, 78), (4, 79), (4, 80), (4, 81), (4, 82), (4, 83), (3, 99), (3, 100), (3, 101), (3, 102), (3, 103), (3, 104), (3, 105), (4, 84), (4, 85), (4, 86), (4, 87), (3, 106), (3, 107)] rfl
set_option maxRecDepth 20000 in
theorem in_wsL_law0_r7 : ∀ w ∈ wsL_law0_r7, w ∈ lw_tbl2 := lwD_in [(3, 108), (3, 109), (3, 110), (3, 111), (3, 112), (3, 113), (3, 114), (3, 115), (3, 116), (4, 88), (4, 89), (4, 90), (4, 91), (4, 95), (4, 96), (4, 92), (4, 93), (4, 94), (3, 118), (3, 119), (3, 120), (3, 121), (3, 122), (3, 123)] rfl
set_option maxRecDepth 20000 in
theorem in_wsL_law0_r8 : ∀ w ∈ wsL_law0_r8, w ∈ lw_tbl2 := lwD_in [(3, 124), (3, 125), (3, 126), (3, 127), (2, 189), (2, 190), (2, 191), (2, 195), (2, 196), (2, 197), (2, 198), (2, 179), (2, 180), (2, 181), (2, 182), (2, 199), (2, 200), (1, 9), (2, 201), (4, 97), (4, 98), (4, 99), (4, 100), (4, 101)] rfl
set_option maxRecDepth 20000 in
theorem in_wsL_law0_r9 : ∀ w ∈ wsL_law0_r9, w ∈ lw_tbl2 := lwD_in [(4, 102), (4, 103), (4, 104), (4, 105), (4, 106), (4, 107), (4, 108), (4, 109), (4, 110), (4, 111), (4, 112), (4, 113), (4, 114), (3, 129), (3, 130), (3, 131), (3, 132), (3, 133), (3, 134), (3, 135), (4, 115), (4, 116), (4, 117), (4, 118)] rfl
set_option maxRecDepth 20000 in
theorem in_wsL_law0_r10 : ∀ w ∈ wsL_law0_r10, w ∈ lw_tbl2 := lwD_in [(3, 136), (3, 137), (3, 138), (3, 139), (3, 140), (3, 141), (3, 142), (4, 119), (4, 120), (4, 121), (4, 122), (3, 144), (3, 145), (3, 146), (3, 147), (3, 148), (3, 149), (3, 150), (3, 151), (3, 152), (3, 153), (2, 176), (2, 177), (2, 178)] rfl
set_option maxRecDepth 20000 in
theorem in_wsL_law0_r11 : ∀ w ∈ wsL_law0_r11, w ∈ lw_tbl2 := lwD_in [(4, 123), (4, 124), (4, 125), (4, 126), (3, 155), (3, 156), (3, 157), (3, 158), (3, 159), (3, 160), (3, 161), (4, 127), (4, 128), (4, 129), (4, 130), (3, 163), (3, 164), (3, 165), (3, 166), (3, 167), (3, 168), (3, 169), (3, 170), (3, 171)] rfl
set_option maxRecDepth 20000 in
theorem in_wsL_law0_r12 : ∀ w ∈ wsL_law0_r12, w ∈ lw_tbl2 := lwD_in [(3, 172), (1, 45), (1, 46), (1, 11), (2, 224), (2, 225), (1, 9), (2, 226), (3, 173), (3, 174), (1, 47), (1, 48), (1, 49), (1, 50), (1, 51), (1, 10), (1, 52), (1, 53), (1, 54), (1, 76), (1, 63), (1, 64), (1, 56), (1, 57)] rfl
set_option maxRecDepth 20000 in
theorem in_wsL_law0_r13 : ∀ w ∈ wsL_law0_r13, w ∈ lw_tbl2 := lwD_in [(1, 13), (1, 58), (1, 59), (1, 60), (1, 61), (1, 62), (1, 77), (1, 78), (1, 79), (1, 80), (1, 81), (5, 9), (1, 75), (1, 82), (1, 83), (1, 66), (1, 84), (5, 10), (6, 0), (1, 86), (1, 87), (1, 88), (5, 11), (6, 1)] rfl
set_option maxRecDepth 20000 in
theorem in_wsL_law0_r14 : ∀ w ∈ wsL_law0_r14, w ∈ lw_tbl2 := lwD_in [(1, 90), (1, 91), (1, 102), (1, 92), (1, 93), (1, 14), (1, 94), (1, 95), (1, 96), (1, 97), (1, 98), (1, 99), (1, 100), (1, 101), (1, 103), (1, 104), (1, 15), (1, 105), (1, 106), (1, 107), (1, 108), (1, 109), (1, 110), (1, 112)] rfl
set_option maxRecDepth 20000 in
theorem in_wsL_law0_r15 : ∀ w ∈ wsL_law0_r15, w ∈ lw_tbl2 := lwD_in [(1, 113), (1, 114), (1, 115), (1, 116), (1, 118), (1, 117), (1, 16), (1, 119), (1, 121), (1, 122), (1, 120), (1, 123), (1, 124), (1, 125), (1, 17), (1, 126), (1, 127), (5, 12), (6, 2), (1, 129), (1, 130), (1, 131), (1, 132), (1, 133)] rfl
set_option maxRecDepth 20000 in
theorem in_wsL_law0_r16 : ∀ w ∈ wsL_law0_r16, w ∈ lw_tbl2 := lwD_in [(1, 134), (1, 135), (1, 136), (1, 137), (1, 138), (1, 139), (1, 140), (1, 141), (1, 142), (1, 143), (1, 144), (1, 12), (1, 145), (1, 146), (1, 148), (1, 149), (1, 18), (1, 150), (1, 151), (1, 152), (1, 153), (1, 154), (1, 156), (1, 158)] rfl
set_option maxRecDepth 20000 in
theorem in_wsL_law0_r17 : ∀ w ∈ wsL_law0_r17, w ∈ lw_tbl2 := lwD_in [(1, 160), (1, 161), (1, 162), (1, 163), (1, 164), (1, 165), (1, 166), (1, 167), (1, 168), (1, 169), (1, 170), (1, 171), (3, 175), (3, 176), (3, 177), (3, 178), (3, 179), (5, 19), (3, 180), (3, 181), (3, 182), (3, 183), (3, 184), (3, 185)] rfl
set_option maxRecDepth 20000 in
theorem in_wsL_law0_r18 : ∀ w ∈ wsL_law0_r18, w ∈ lw_tbl2 := lwD_in [(3, 186), (3, 187), (3, 188), (3, 189), (3, 190), (1, 210), (1, 211), (1, 212), (2, 128), (2, 129), (2, 130), (3, 191), (3, 192), (1, 19), (3, 193), (3, 194), (3, 195), (3, 196), (3, 197), (3, 198), (3, 199), (3, 200), (3, 201), (3, 202)] rfl
set_option maxRecDepth 20000 in
theorem in_wsL_law0_r19 : ∀ w ∈ wsL_law0_r19, w ∈ lw_tbl2 := lwD_in [(3, 203), (3, 204), (3, 205), (1, 218), (1, 219), (1, 220), (1, 221), (1, 222), (1, 223), (1, 224), (1, 225), (1, 226), (1, 227), (1, 228), (1, 229), (1, 230), (2, 136), (2, 135), (2, 80), (1, 65), (1, 231), (1, 233), (1, 234), (1, 232)] rfl
set_option maxRecDepth 20000 in
theorem in_wsL_law0_r20 : ∀ w ∈ wsL_law0_r20, w ∈ lw_tbl2 := lwD_in [(1, 235), (1, 236), (1, 238), (1, 237), (1, 239), (2, 0), (2, 1), (2, 2), (1, 237), (2, 3), (2, 4), (2, 5), (2, 6), (2, 7), (2, 8), (2, 9), (2, 10), (2, 11), (2, 12), (2, 13), (2, 54), (2, 122), (2, 123), (2, 124)] rfl
set_option maxRecDepth 20000 in
theorem in_wsL_law0_r21 : ∀ w ∈ wsL_law0_r21, w ∈ lw_tbl2 := lwD_in [(2, 125), (2, 126), (2, 127), (2, 131), (2, 132), (2, 133), (2, 134), (4, 131), (4, 132), (4, 133), (4, 134), (4, 136), (4, 137), (4, 138), (2, 59), (2, 60), (2, 61), (2, 62), (5, 15), (2, 63), (2, 64), (2, 65), (5, 16), (6, 3)] rfl
set_option maxRecDepth 20000 in
theorem in_wsL_law0_r22 : ∀ w ∈ wsL_law0_r22, w ∈ lw_tbl2 := lwD_in [(2, 67), (2, 68), (2, 69), (2, 70), (2, 71), (1, 204), (1, 205), (1, 206), (1, 207), (1, 208), (1, 209), (2, 72), (2, 73), (2, 74), (2, 75), (2, 76), (2, 77), (2, 78), (2, 79), (2, 81), (5, 17), (6, 4), (2, 83), (2, 84)] rfl
set_option maxRecDepth 20000 in
theorem in_wsL_law0_r23 : ∀ w ∈ wsL_law0_r23, w ∈ lw_tbl2 := lwD_in [(2, 85), (5, 18), (6, 5), (2, 87), (2, 88), (2, 89), (2, 90), (2, 91), (2, 92), (2, 93), (2, 94), (2, 95), (4, 139), (4, 140), (4, 141), (4, 142), (4, 143), (5, 20), (4, 144), (4, 145), (4, 146), (4, 147), (1, 21), (4, 148)] rfl
set_option maxRecDepth 20000 in
theorem in_wsL_law0_r24 : ∀ w ∈ wsL_law0_r24, w ∈ lw_tbl2 := lwD_in [(4, 149), (4, 150), (4, 151), (4, 152), (4, 153), (4, 154), (4, 155), (4, 156), (4, 157), (4, 158), (4, 159), (4, 160), (4, 161), (4, 162), (4, 163), (4, 164), (4, 165), (1, 216), (1, 217), (4, 166), (3, 206), (3, 207), (3, 208), (3, 209)] rfl
set_option maxRecDepth 20000 in
theorem in_wsL_law0_r25 : ∀ w ∈ wsL_law0_r25, w ∈ lw_tbl2 := lwD_in [(3, 210), (3, 211), (3, 212), (1, 184), (1, 185), (1, 186), (1, 187), (1, 188), (5, 13), (1, 189), (1, 190), (1, 191), (1, 192), (1, 20), (1, 193), (1, 194), (1, 195), (1, 196), (1, 197), (1, 199), (1, 201), (1, 202), (1, 203), (1, 213)] rfl
set_option maxRecDepth 20000 in
theorem in_wsL_law0_r26 : ∀ w ∈ wsL_law0_r26, w ∈ lw_tbl2 := lwD_in [(1, 214), (1, 215), (4, 167), (4, 168), (4, 169), (4, 170), (4, 171), (3, 213), (3, 214), (3, 215), (3, 216), (3, 217), (3, 218), (3, 219), (4, 174), (4, 175), (4, 176), (4, 177), (3, 220), (3, 221), (3, 222), (3, 223), (3, 224), (3, 225)] rfl
set_option maxRecDepth 20000 in
theorem in_wsL_law0_r27 : ∀ w ∈ wsL_law0_r27, w ∈ lw_tbl2 := lwD_in [(3, 226), (2, 215), (2, 216), (2, 217), (4, 178), (4, 179), (4, 180), (4, 181), (4, 182), (4, 183), (4, 184), (3, 227), (3, 228), (3, 229), (3, 230), (3, 231), (3, 232), (3, 233), (4, 185), (4, 186), (4, 187), (4, 188), (3, 234), (3, 235)] rfl
set_option maxRecDepth 20000 in
theorem in_wsL_law0_r28 : ∀ w ∈ wsL_law0_r28, w ∈ lw_tbl2 := lwD_in [(3, 236), (3, 237), (3, 238), (3, 239), (4, 0), (4, 189), (4, 190), (4, 191), (4, 192), (4, 1), (4, 2), (4, 3), (4, 4), (4, 5), (4, 6), (4, 7), (4, 193), (4, 194), (4, 195), (4, 196), (4, 8), (4, 9), (4, 10), (4, 11)] rfl
set_option maxRecDepth 20000 in
theorem in_wsL_law0_r29 : ∀ w ∈ wsL_law0_r29, w ∈ lw_tbl2 := lwD_in [(4, 12), (4, 13), (4, 14), (2, 218), (2, 219), (2, 220), (4, 197), (4, 198), (4, 199), (4, 200), (4, 201), (4, 203), (0, 8), (4, 204), (1, 41), (1, 42), (1, 43), (1, 44), (1, 172), (1, 174), (0, 0), (1, 175), (1, 176), (1, 178)] rfl
set_option maxRecDepth 20000 in
theorem in_wsL_law0_r30 : ∀ w ∈ wsL_law0_r30, w ∈ lw_tbl2 := lwD_in [(0, 1), (1, 179), (4, 205), (4, 206), (4, 207), (4, 208), (4, 209), (4, 211), (0, 9), (4, 212), (2, 146), (2, 147), (2, 148), (2, 149), (2, 150), (2, 152), (0, 4), (2, 153), (4, 214), (4, 215), (4, 216), (4, 217), (4, 218), (4, 220)] rfl
set_option maxRecDepth 20000 in
theorem in_wsL_law0_r31 : ∀ w ∈ wsL_law0_r31, w ∈ lw_tbl2 := lwD_in [(0, 10), (4, 221), (2, 154), (2, 155), (2, 156), (2, 157), (4, 222), (4, 223), (4, 224), (4, 225), (4, 31), (4, 15), (4, 16), (4, 17), (4, 18), (4, 19), (4, 20), (4, 21), (4, 226), (4, 227), (4, 228), (4, 229), (4, 230), (4, 232)] rfl
set_option maxRecDepth 20000 in
theorem in_wsL_law0_r32 : ∀ w ∈ wsL_law0_r32, w ∈ lw_tbl2 := lwD_in [(0, 11), (4, 233), (4, 42), (4, 43), (4, 44), (4, 45), (2, 158), (2, 159), (2, 160), (2, 161), (2, 162), (2, 163), (2, 164), (2, 184), (2, 185), (2, 186), (2, 187), (2, 192), (2, 193), (2, 194), (2, 202), (2, 203), (2, 204), (2, 205)] rfl
set_option maxRecDepth 20000 in
theorem in_wsL_law0_r33 : ∀ w ∈ wsL_law0_r33, w ∈ lw_tbl2 := lwD_in [(2, 206), (2, 207), (2, 208), (2, 209), (2, 210), (2, 211), (2, 212), (2, 213), (2, 214), (2, 221), (2, 222), (2, 223), (4, 234), (4, 235), (4, 236), (4, 237), (2, 227), (2, 228), (2, 229), (2, 230), (2, 231), (2, 232), (2, 233), (2, 234)] rfl
set_option maxRecDepth 20000 in
theorem in_wsL_law0_r34 : ∀ w ∈ wsL_law0_r34, w ∈ lw_tbl2 := lwD_in [(2, 235), (2, 236), (2, 237), (2, 238), (2, 239), (3, 0), (3, 1), (3, 2), (3, 3), (3, 4), (3, 5), (3, 6), (3, 7), (3, 8), (3, 9), (3, 10), (3, 11), (3, 12), (3, 13), (3, 14), (3, 15), (3, 16), (3, 17), (4, 238)] rfl
set_option maxRecDepth 20000 in
theorem in_wsL_law0_r35 : ∀ w ∈ wsL_law0_r35, w ∈ lw_tbl2 := lwD_in [(4, 239), (5, 0), (5, 1), (5, 2), (5, 3), (5, 4), (5, 5), (5, 6), (5, 7), (5, 8)] rfl
theorem in_wsX00 : ∀ w ∈ wsX00, w ∈ lw_tbl2 := by decide +kernel
theorem in_wsX20 : ∀ w ∈ wsX20, w ∈ lw_tbl2 := by decide +kernel
theorem in_wsX10 : ∀ w ∈ wsX10, w ∈ lw_tbl2 := by decide +kernel
theorem in_wsJ40 : ∀ w ∈ wsJ40, w ∈ lw_tbl2 := by decide +kernel
theorem in_wsJ00 : ∀ w ∈ wsJ00, w ∈ lw_tbl2 := by decide +kernel
theorem wsL_law_in0 : ∀ w ∈ wsL_law0, w ∈ lw_tbl2 := fun w h => ((List.mem_append.mp h).elim (fun h => ((List.mem_append.mp h).elim (fun h => ((List.mem_append.mp h).elim (fun h => ((List.mem_append.mp h).elim (fun h => ((List.mem_append.mp h).elim (fun h => ((List.mem_append.mp h).elim (fun h => ((List.mem_append.mp h).elim (fun h => (in_wsL_law0_r1 w h)) (fun h => ((List.mem_append.mp h).elim (fun h => (in_wsL_law0_r2 w h)) (fun h => ((List.mem_append.mp h).elim (fun h => (in_wsL_law0_r3 w h)) (fun h => ((List.mem_append.mp h).elim (fun h => (in_wsL_law0_r4 w h)) (fun h => ((List.mem_append.mp h).elim (fun h => (in_wsL_law0_r5 w h)) (fun h => ((List.mem_append.mp h).elim (fun h => (in_wsL_law0_r6 w h)) (fun h => ((List.mem_append.mp h).elim (fun h => (in_wsL_law0_r7 w h)) (fun h => ((List.mem_append.mp h).elim (fun h => (in_wsL_law0_r8 w h)) (fun h => ((List.mem_append.mp h).elim (fun h => (in_wsL_law0_r9 w h)) (fun h => ((List.mem_append.mp h).elim (fun h => (in_wsL_law0_r10 w h)) (fun h => ((List.mem_append.mp h).elim (fun h => (in_wsL_law0_r11 w h)) (fun h => ((List.mem_append.mp h).elim (fun h => (in_wsL_law0_r12 w h)) (fun h => ((List.mem_append.mp h).elim (fun h => (in_wsL_law0_r13 w h)) (fun h => ((List.mem_append.mp h).elim (fun h => (in_wsL_law0_r14 w h)) (fun h => ((List.mem_append.mp h).elim (fun h => (in_wsL_law0_r15 w h)) (fun h => ((List.mem_append.mp h).elim (fun h => (in_wsL_law0_r16 w h)) (fun h => ((List.mem_append.mp h).elim (fun h => (in_wsL_law0_r17 w h)) (fun h => ((List.mem_append.mp h).elim (fun h => (in_wsL_law0_r18 w h)) (fun h => ((List.mem_append.mp h).elim (fun h => (in_wsL_law0_r19 w h)) (fun h => ((List.mem_append.mp h).elim (fun h => (in_wsL_law0_r20 w h)) (fun h => ((List.mem_append.mp h).elim (fun h => (in_wsL_law0_r21 w h)) (fun h => ((List.mem_append.mp h).elim (fun h => (in_wsL_law0_r22 w h)) (fun h => ((List.mem_append.mp h).elim (fun h => (in_wsL_law0_r23 w h)) (fun h => ((List.mem_append.mp h).elim (fun h => (in_wsL_law0_r24 w h)) (fun h => ((List.mem_append.mp h).elim (fun h => (in_wsL_law0_r25 w h)) (fun h => ((List.mem_append.mp h).elim (fun h => (in_wsL_law0_r26 w h)) (fun h => ((List.mem_append.mp h).elim (fun h => (in_wsL_law0_r27 w h)) (fun h => ((List.mem_append.mp h).elim (fun h => (in_wsL_law0_r28 w h)) (fun h => ((List.mem_append.mp h).elim (fun h => (in_wsL_law0_r29 w h)) (fun h => ((List.mem_append.mp h).elim (fun h => (in_wsL_law0_r30 w h)) (fun h => ((List.mem_append.mp h).elim (fun h => (in_wsL_law0_r31 w h)) (fun h => ((List.mem_append.mp h).elim (fun h => (in_wsL_law0_r32 w h)) (fun h => ((List.mem_append.mp h).elim (fun h => (in_wsL_law0_r33 w h)) (fun h => ((List.mem_append.mp h).elim (fun h => (in_wsL_law0_r34 w h)) (fun h => (in_wsL_law0_r35 w h)))))))))))))))))))))))))))))))))))))))))))))))))))))))))))))))))))))) (fun h => (in_wsX00 w h)))) (fun h => (in_wsX20 w h)))) (fun h => (in_wsX10 w h)))) (fun h => (in_wsJ40 w h)))) (fun h => (in_wsJ00 w h)))) (fun h => (absurd h List.not_mem_nil)))
theorem wsL_law_x0 : ∀ w ∈ (vx_atS RX0 166 "java/lang/IndexOutOfBoundsException" ["java/lang/RuntimeException", "java/lang/Exception"]).filter goodWord, w ∈ lw_tbl := by decide +kernel
theorem wsL_law_x1 : ∀ w ∈ (vx_atS RX0 56 "java/lang/IllegalArgumentException" ["java/lang/RuntimeException", "java/lang/Exception"]).filter goodWord, w ∈ lw_tbl := by decide +kernel
theorem wsL_law_in : ∀ w ∈ wsL_law, w ∈ lw_tbl2 := fun w h => (List.mem_append.mp h).elim (fun h => (List.mem_append.mp h).elim (fun h => wsL_law_in0 w h) (fun h => lw_tbl2_of w (wsL_law_x0 w h))) (fun h => lw_tbl2_of w (wsL_law_x1 w h))
theorem inlX0 : ∀ w ∈ wsX00, w ∈ wsL_law := fun _ h => List.mem_append_left _ (List.mem_append_left _ (List.mem_append_left _ (List.mem_append_left _ (List.mem_append_left _ (List.mem_append_left _ (List.mem_append_left _ (List.mem_append_right _ h)))))))
theorem inX0 : ∀ w ∈ wsX00, w ∈ lw_tbl2 := fun w h => wsL_law_in w (inlX0 w h)
theorem inlX1 : ∀ w ∈ wsX10, w ∈ wsL_law := fun _ h => List.mem_append_left _ (List.mem_append_left _ (List.mem_append_left _ (List.mem_append_left _ (List.mem_append_left _ (List.mem_append_right _ h)))))
theorem inX1 : ∀ w ∈ wsX10, w ∈ lw_tbl2 := fun w h => wsL_law_in w (inlX1 w h)
theorem inlX2 : ∀ w ∈ wsX20, w ∈ wsL_law := fun _ h => List.mem_append_left _ (List.mem_append_left _ (List.mem_append_left _ (List.mem_append_left _ (List.mem_append_left _ (List.mem_append_left _ (List.mem_append_right _ h))))))
theorem inX2 : ∀ w ∈ wsX20, w ∈ lw_tbl2 := fun w h => wsL_law_in w (inlX2 w h)
theorem inJ5 : ∀ w ∈ wsJ50, w ∈ lw_tbl := by decide +kernel
theorem inJ11 : ∀ w ∈ wsJ110, w ∈ lw_tbl := by decide +kernel
theorem inJx8e188 : ∀ w ∈ wsJx8e1880, w ∈ lw_tbl := by decide +kernel
theorem inJ6 : ∀ w ∈ wsJ60, w ∈ lw_tbl := by decide +kernel
theorem inJ13 : ∀ w ∈ wsJ130, w ∈ lw_tbl := by decide +kernel
theorem inJ9 : ∀ w ∈ wsJ90, w ∈ lw_tbl := by decide +kernel
theorem inlJ0 : ∀ w ∈ wsJ00, w ∈ wsL_law := fun _ h => List.mem_append_left _ (List.mem_append_left _ (List.mem_append_left _ (List.mem_append_right _ h)))
theorem inJ0 : ∀ w ∈ wsJ00, w ∈ lw_tbl2 := fun w h => wsL_law_in w (inlJ0 w h)
theorem inlJ4 : ∀ w ∈ wsJ40, w ∈ wsL_law := fun _ h => List.mem_append_left _ (List.mem_append_left _ (List.mem_append_left _ (List.mem_append_left _ (List.mem_append_right _ h))))
theorem inJ4 : ∀ w ∈ wsJ40, w ∈ lw_tbl2 := fun w h => wsL_law_in w (inlJ4 w h)
theorem inJ1 : ∀ w ∈ wsJ10, w ∈ lw_tbl := by decide +kernel
theorem inJ2 : ∀ w ∈ wsJ20, w ∈ lw_tbl := by decide +kernel
theorem inJ10 : ∀ w ∈ wsJ100, w ∈ lw_tbl := by decide +kernel
theorem inJ7 : ∀ w ∈ wsJ70, w ∈ lw_tbl := by decide +kernel
theorem inJ8 : ∀ w ∈ wsJ80, w ∈ lw_tbl := by decide +kernel
theorem inJ3 : ∀ w ∈ wsJ30, w ∈ lw_tbl := by decide +kernel
