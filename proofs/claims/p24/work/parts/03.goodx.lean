theorem goodIn_k {big : List Cond} (C : List (List Cond)) (hC : big = C.flatten) {ws : List Cond} (ps : List (Nat × Nat)) (hp : ws = ps.filterMap (fun q => (C[q.1]?).bind (fun B => B[q.2]?))) (h : ws.all goodWord = true) : GoodIn big ws := by
  intro w hw
  have h1 := List.all_eq_true.mp h w hw
  rw [hp] at hw
  obtain ⟨q, -, hi⟩ := List.mem_filterMap.mp hw
  obtain ⟨B, h2, h3⟩ := Option.bind_eq_some_iff.mp hi
  refine ⟨?_, good_of_word h1⟩
  rw [hC]
  exact List.mem_flatten.mpr ⟨B, List.mem_of_getElem? h2, List.mem_of_getElem? h3⟩
set_option maxRecDepth 20000 in
theorem ggX0_tell_X0_needClock : GoodIn wsX0_tell wsX0_needClock := goodIn_ca (goodIn_r _ [4, 5, 6] rfl (by decide +kernel)) (goodIn_sub (fun _ h => List.mem_cons_of_mem _ (List.mem_append_left _ (List.mem_append_right _ h))) (by decide +kernel))
set_option maxRecDepth 20000 in
theorem gX0_tell_X0_needClock : GoodIn wsX0_tell (va_wsS RX0 20 yX0_needClock wsX0_needClock) := goodIn_app (goodIn_r _ [1, 2, 3] rfl (by decide +kernel)) ggX0_tell_X0_needClock
set_option maxRecDepth 20000 in
theorem ggX0_tell_X0_needPart : GoodIn wsX0_tell wsX0_needPart := goodIn_ca (goodIn_r _ [9, 10, 11, 12] rfl (by decide +kernel)) (goodIn_sub (fun _ h => List.mem_cons_of_mem _ (List.mem_append_right _ h)) (by decide +kernel))
set_option maxRecDepth 20000 in
theorem gX0_tell_X0_needPart : GoodIn wsX0_tell (va_wsS RX0 24 yX0_needPart wsX0_needPart) := goodIn_app (goodIn_r _ [7, 8, 3] rfl (by decide +kernel)) ggX0_tell_X0_needPart
set_option maxRecDepth 20000 in
theorem gw_wsX0_numberOfParts : wsX0_numberOfParts.all goodWord = true := by decide +kernel
set_option maxRecDepth 20000 in
theorem ggX0_tell_X0_numberOfParts : GoodIn wsX0_tell wsX0_numberOfParts := goodIn_r _ [15, 16, 17, 18] rfl gw_wsX0_numberOfParts
set_option maxRecDepth 20000 in
theorem gX0_tell_X0_numberOfParts : GoodIn wsX0_tell (va_wsS RX0 28 yX0_numberOfParts wsX0_numberOfParts) := goodIn_app (goodIn_r _ [13, 14, 3] rfl (by decide +kernel)) ggX0_tell_X0_numberOfParts
set_option maxRecDepth 20000 in
theorem gw_wsX0_settle : wsX0_settle.all goodWord = true := by decide +kernel
set_option maxRecDepth 20000 in
theorem ggX0_tell_X0_settle : GoodIn wsX0_tell wsX0_settle := goodIn_r _ [22, 23, 24, 25, 26, 3, 27, 18, 28, 29, 30] rfl gw_wsX0_settle
set_option maxRecDepth 20000 in
theorem gX0_tell_X0_settle : GoodIn wsX0_tell (wsV RX0 32 RX0 yX0_settle wsX0_settle) := goodIn_app (goodIn_r _ [19, 20, 21, 3] rfl (by decide +kernel)) ggX0_tell_X0_settle
set_option maxRecDepth 20000 in
theorem ggX0_tellSecond_X0_needClock : GoodIn wsX0_tellSecond wsX0_needClock := goodIn_ca (goodIn_r _ [5, 6, 7] rfl (by decide +kernel)) (goodIn_sub (fun _ h => List.mem_cons_of_mem _ (List.mem_append_left _ (List.mem_append_right _ h))) (by decide +kernel))
set_option maxRecDepth 20000 in
theorem gX0_tellSecond_X0_needClock : GoodIn wsX0_tellSecond (va_wsS RX0 20 yX0_needClock wsX0_needClock) := goodIn_app (goodIn_r _ [2, 3, 4] rfl (by decide +kernel)) ggX0_tellSecond_X0_needClock
set_option maxRecDepth 20000 in
theorem ggX0_tellSecond_X0_needSecondOfDay : GoodIn wsX0_tellSecond wsX0_needSecondOfDay := goodIn_ca (goodIn_r _ [10, 11, 12, 13] rfl (by decide +kernel)) (goodIn_sub (fun _ h => List.mem_cons_of_mem _ (List.mem_append_right _ h)) (by decide +kernel))
set_option maxRecDepth 20000 in
theorem gX0_tellSecond_X0_needSecondOfDay : GoodIn wsX0_tellSecond (va_wsS RX0 36 yX0_needSecondOfDay wsX0_needSecondOfDay) := goodIn_app (goodIn_r _ [8, 9, 4] rfl (by decide +kernel)) ggX0_tellSecond_X0_needSecondOfDay
set_option maxRecDepth 20000 in
theorem ggX0_tellSecond_X0_settle : GoodIn wsX0_tellSecond wsX0_settle := goodIn_r _ [17, 18, 19, 20, 21, 4, 22, 1, 27, 28, 29] rfl gw_wsX0_settle
set_option maxRecDepth 20000 in
theorem gX0_tellSecond_X0_settle : GoodIn wsX0_tellSecond (wsV RX0 32 RX0 yX0_settle wsX0_settle) := goodIn_app (goodIn_r _ [14, 15, 16, 4] rfl (by decide +kernel)) ggX0_tellSecond_X0_settle
set_option maxRecDepth 20000 in
theorem gw_wsX0_numberOf : wsX0_numberOf.all goodWord = true := by decide +kernel
set_option maxRecDepth 20000 in
theorem ggX0_tellSecond_X0_numberOf : GoodIn wsX0_tellSecond wsX0_numberOf := goodIn_r _ [26, 18, 27, 28, 29] rfl gw_wsX0_numberOf
set_option maxRecDepth 20000 in
theorem gX0_tellSecond_X0_numberOf : GoodIn wsX0_tellSecond (wsV RX0 41 RX0 yX0_numberOf wsX0_numberOf) := goodIn_app (goodIn_r _ [23, 24, 25, 4] rfl (by decide +kernel)) ggX0_tellSecond_X0_numberOf
set_option maxRecDepth 20000 in
theorem gw_wsX0_partOf : wsX0_partOf.all goodWord = true := by decide +kernel
set_option maxRecDepth 20000 in
theorem ggX0_tellSecond_X0_partOf : GoodIn wsX0_tellSecond wsX0_partOf := goodIn_r _ [22, 1] rfl gw_wsX0_partOf
set_option maxRecDepth 20000 in
theorem gX0_tellSecond_X0_partOf : GoodIn wsX0_tellSecond (va_wsS RX0 45 yX0_partOf wsX0_partOf) := goodIn_app (goodIn_r _ [20, 21, 4] rfl (by decide +kernel)) ggX0_tellSecond_X0_partOf
set_option maxRecDepth 20000 in
theorem ggX0_tellNumber_X0_needClock : GoodIn wsX0_tellNumber wsX0_needClock := goodIn_ca (goodIn_r _ [5, 6, 7] rfl (by decide +kernel)) (goodIn_sub (fun _ h => List.mem_cons_of_mem _ (List.mem_append_left _ (List.mem_append_right _ h))) (by decide +kernel))
set_option maxRecDepth 20000 in
theorem gX0_tellNumber_X0_needClock : GoodIn wsX0_tellNumber (va_wsS RX0 20 yX0_needClock wsX0_needClock) := goodIn_app (goodIn_r _ [2, 3, 4] rfl (by decide +kernel)) ggX0_tellNumber_X0_needClock
set_option maxRecDepth 20000 in
theorem ggX0_tellNumber_X0_needSecondOfDay : GoodIn wsX0_tellNumber wsX0_needSecondOfDay := goodIn_ca (goodIn_r _ [10, 11, 12, 13] rfl (by decide +kernel)) (goodIn_sub (fun _ h => List.mem_cons_of_mem _ (List.mem_append_right _ h)) (by decide +kernel))
set_option maxRecDepth 20000 in
theorem gX0_tellNumber_X0_needSecondOfDay : GoodIn wsX0_tellNumber (va_wsS RX0 36 yX0_needSecondOfDay wsX0_needSecondOfDay) := goodIn_app (goodIn_r _ [8, 9, 4] rfl (by decide +kernel)) ggX0_tellNumber_X0_needSecondOfDay
set_option maxRecDepth 20000 in
theorem ggX0_tellNumber_X0_needPart : GoodIn wsX0_tellNumber wsX0_needPart := goodIn_ca (goodIn_r _ [16, 11, 12, 17] rfl (by decide +kernel)) (goodIn_sub (fun _ h => List.mem_cons_of_mem _ (List.mem_append_right _ h)) (by decide +kernel))
set_option maxRecDepth 20000 in
theorem gX0_tellNumber_X0_needPart : GoodIn wsX0_tellNumber (va_wsS RX0 24 yX0_needPart wsX0_needPart) := goodIn_app (goodIn_r _ [14, 15, 4] rfl (by decide +kernel)) ggX0_tellNumber_X0_needPart
set_option maxRecDepth 20000 in
theorem ggX0_tellNumber_X0_settle : GoodIn wsX0_tellNumber wsX0_settle := goodIn_r _ [21, 22, 23, 24, 25, 4, 26, 1, 31, 32, 33] rfl gw_wsX0_settle
set_option maxRecDepth 20000 in
theorem gX0_tellNumber_X0_settle : GoodIn wsX0_tellNumber (wsV RX0 32 RX0 yX0_settle wsX0_settle) := goodIn_app (goodIn_r _ [18, 19, 20, 4] rfl (by decide +kernel)) ggX0_tellNumber_X0_settle
set_option maxRecDepth 20000 in
theorem ggX0_tellNumber_X0_numberOf : GoodIn wsX0_tellNumber wsX0_numberOf := goodIn_r _ [30, 22, 31, 32, 33] rfl gw_wsX0_numberOf
set_option maxRecDepth 20000 in
theorem gX0_tellNumber_X0_numberOf : GoodIn wsX0_tellNumber (wsV RX0 41 RX0 yX0_numberOf wsX0_numberOf) := goodIn_app (goodIn_r _ [27, 28, 29, 4] rfl (by decide +kernel)) ggX0_tellNumber_X0_numberOf
set_option maxRecDepth 20000 in
theorem ggX0_tellNumber_X0_partOf : GoodIn wsX0_tellNumber wsX0_partOf := goodIn_r _ [26, 1] rfl gw_wsX0_partOf
set_option maxRecDepth 20000 in
theorem gX0_tellNumber_X0_partOf : GoodIn wsX0_tellNumber (va_wsS RX0 45 yX0_partOf wsX0_partOf) := goodIn_app (goodIn_r _ [24, 25, 4] rfl (by decide +kernel)) ggX0_tellNumber_X0_partOf
set_option maxRecDepth 20000 in
theorem ggX0_tellKnown_X0_needClock : GoodIn wsX0_tellKnown wsX0_needClock := goodIn_ca (goodIn_r _ [7, 8, 9] rfl (by decide +kernel)) (goodIn_sub (fun _ h => List.mem_cons_of_mem _ (List.mem_append_right _ h)) (by decide +kernel))
set_option maxRecDepth 20000 in
theorem gX0_tellKnown_X0_needClock : GoodIn wsX0_tellKnown (va_wsS RX0 20 yX0_needClock wsX0_needClock) := goodIn_app (goodIn_r _ [4, 5, 6] rfl (by decide +kernel)) ggX0_tellKnown_X0_needClock
set_option maxRecDepth 20000 in
theorem ggX0_tellKnown_X0_settle : GoodIn wsX0_tellKnown wsX0_settle := goodIn_r _ [13, 14, 15, 16, 17, 6, 18, 19, 20, 21, 22] rfl gw_wsX0_settle
set_option maxRecDepth 20000 in
theorem gX0_tellKnown_X0_settle : GoodIn wsX0_tellKnown (wsV RX0 32 RX0 yX0_settle wsX0_settle) := goodIn_app (goodIn_r _ [10, 11, 12, 6] rfl (by decide +kernel)) ggX0_tellKnown_X0_settle
set_option maxRecDepth 20000 in
theorem ggX0_take_X0_needClock : GoodIn wsX0_take wsX0_needClock := goodIn_ca (goodIn_r _ [4, 5, 6] rfl (by decide +kernel)) (goodIn_sub (fun _ h => List.mem_cons_of_mem _ (List.mem_append_right _ h)) (by decide +kernel))
set_option maxRecDepth 20000 in
theorem gX0_take_X0_needClock : GoodIn wsX0_take (va_wsS RX0 20 yX0_needClock wsX0_needClock) := goodIn_app (goodIn_r _ [1, 2, 3] rfl (by decide +kernel)) ggX0_take_X0_needClock
set_option maxRecDepth 20000 in
theorem ggX0_take_X0_numberOf : GoodIn wsX0_take wsX0_numberOf := goodIn_r _ [10, 11, 21, 22, 23] rfl gw_wsX0_numberOf
set_option maxRecDepth 20000 in
theorem gX0_take_X0_numberOf : GoodIn wsX0_take (wsV RX0 41 RX0 yX0_numberOf wsX0_numberOf) := goodIn_app (goodIn_r _ [7, 8, 9, 3] rfl (by decide +kernel)) ggX0_take_X0_numberOf
set_option maxRecDepth 20000 in
theorem ggX0_take_X0_settle : GoodIn wsX0_take wsX0_settle := goodIn_r _ [15, 11, 16, 17, 18, 3, 19, 20, 21, 22, 23] rfl gw_wsX0_settle
set_option maxRecDepth 20000 in
theorem gX0_take_X0_settle : GoodIn wsX0_take (wsV RX0 32 RX0 yX0_settle wsX0_settle) := goodIn_app (goodIn_r _ [12, 13, 14, 3] rfl (by decide +kernel)) ggX0_take_X0_settle
set_option maxRecDepth 20000 in
theorem ggX0_with_X0_needClock : GoodIn wsX0_with wsX0_needClock := goodIn_ca (goodIn_r _ [4, 5, 6] rfl (by decide +kernel)) (goodIn_sub (fun _ h => List.mem_cons_of_mem _ (List.mem_append_left _ (List.mem_append_right _ h))) (by decide +kernel))
set_option maxRecDepth 20000 in
theorem gX0_with_X0_needClock : GoodIn wsX0_with (va_wsS RX0 20 yX0_needClock wsX0_needClock) := goodIn_app (goodIn_r _ [1, 2, 3] rfl (by decide +kernel)) ggX0_with_X0_needClock
set_option maxRecDepth 20000 in
theorem ggX0_with_X0_needPart : GoodIn wsX0_with wsX0_needPart := goodIn_ca (goodIn_r _ [9, 10, 11, 12] rfl (by decide +kernel)) (goodIn_sub (fun _ h => List.mem_cons_of_mem _ (List.mem_append_right _ h)) (by decide +kernel))
set_option maxRecDepth 20000 in
theorem gX0_with_X0_needPart : GoodIn wsX0_with (va_wsS RX0 24 yX0_needPart wsX0_needPart) := goodIn_app (goodIn_r _ [7, 8, 3] rfl (by decide +kernel)) ggX0_with_X0_needPart
set_option maxRecDepth 20000 in
theorem ggX0_with_X0_numberOf : GoodIn wsX0_with wsX0_numberOf := goodIn_r _ [16, 17, 31, 32, 33] rfl gw_wsX0_numberOf
set_option maxRecDepth 20000 in
theorem gX0_with_X0_numberOf : GoodIn wsX0_with (wsV RX0 41 RX0 yX0_numberOf wsX0_numberOf) := goodIn_app (goodIn_r _ [13, 14, 15, 3] rfl (by decide +kernel)) ggX0_with_X0_numberOf
set_option maxRecDepth 20000 in
theorem ggX0_with_X0_partOf : GoodIn wsX0_with wsX0_partOf := goodIn_r _ [20, 21] rfl gw_wsX0_partOf
set_option maxRecDepth 20000 in
theorem gX0_with_X0_partOf : GoodIn wsX0_with (va_wsS RX0 45 yX0_partOf wsX0_partOf) := goodIn_app (goodIn_r _ [18, 19, 3] rfl (by decide +kernel)) ggX0_with_X0_partOf
set_option maxRecDepth 20000 in
theorem gw_wsX0_partNanos : wsX0_partNanos.all goodWord = true := by decide +kernel
set_option maxRecDepth 20000 in
theorem ggX0_with_X0_partNanos : GoodIn wsX0_with wsX0_partNanos := goodIn_r _ [24, 25] rfl gw_wsX0_partNanos
set_option maxRecDepth 20000 in
theorem gX0_with_X0_partNanos : GoodIn wsX0_with (va_wsS RX0 59 yX0_partNanos wsX0_partNanos) := goodIn_app (goodIn_r _ [22, 23, 3] rfl (by decide +kernel)) ggX0_with_X0_partNanos
set_option maxRecDepth 20000 in
theorem ggX0_with_X0_settle : GoodIn wsX0_with wsX0_settle := goodIn_r _ [29, 17, 30, 18, 19, 3, 20, 21, 31, 32, 33] rfl gw_wsX0_settle
set_option maxRecDepth 20000 in
theorem gX0_with_X0_settle : GoodIn wsX0_with (wsV RX0 32 RX0 yX0_settle wsX0_settle) := goodIn_app (goodIn_r _ [26, 27, 28, 3] rfl (by decide +kernel)) ggX0_with_X0_settle
set_option maxRecDepth 20000 in
theorem ggX0_plus_X0_needClock : GoodIn wsX0_plus wsX0_needClock := goodIn_ca (goodIn_r _ [4, 5, 6] rfl (by decide +kernel)) (goodIn_sub (fun _ h => List.mem_cons_of_mem _ (List.mem_append_left _ (List.mem_append_right _ h))) (by decide +kernel))
set_option maxRecDepth 20000 in
theorem gX0_plus_X0_needClock : GoodIn wsX0_plus (va_wsS RX0 20 yX0_needClock wsX0_needClock) := goodIn_app (goodIn_r _ [1, 2, 3] rfl (by decide +kernel)) ggX0_plus_X0_needClock
set_option maxRecDepth 20000 in
theorem ggX0_plus_X0_needStepUnit : GoodIn wsX0_plus wsX0_needStepUnit := goodIn_ca (goodIn_r _ [9, 10, 11, 12, 13, 3, 14] rfl (by decide +kernel)) (goodIn_sub (fun _ h => List.mem_cons_of_mem _ (List.mem_append_right _ h)) (by decide +kernel))
set_option maxRecDepth 20000 in
theorem gX0_plus_X0_needStepUnit : GoodIn wsX0_plus (va_wsS RX0 62 yX0_needStepUnit wsX0_needStepUnit) := goodIn_app (goodIn_r _ [7, 8, 3] rfl (by decide +kernel)) ggX0_plus_X0_needStepUnit
set_option maxRecDepth 20000 in
theorem ggX0_plus_X0_numberOf : GoodIn wsX0_plus wsX0_numberOf := goodIn_r _ [18, 19, 41, 42, 43] rfl gw_wsX0_numberOf
set_option maxRecDepth 20000 in
theorem gX0_plus_X0_numberOf : GoodIn wsX0_plus (wsV RX0 41 RX0 yX0_numberOf wsX0_numberOf) := goodIn_app (goodIn_r _ [15, 16, 17, 3] rfl (by decide +kernel)) ggX0_plus_X0_numberOf
set_option maxRecDepth 20000 in
theorem gw_wsX0_putOn : wsX0_putOn.all goodWord = true := by decide +kernel
set_option maxRecDepth 20000 in
theorem ggX0_plus_X0_putOn : GoodIn wsX0_plus wsX0_putOn := goodIn_r _ [22, 23, 24, 25, 3, 26, 27, 28, 29, 30, 31] rfl gw_wsX0_putOn
set_option maxRecDepth 20000 in
theorem gX0_plus_X0_putOn : GoodIn wsX0_plus (va_wsS RX0 65 yX0_putOn wsX0_putOn) := goodIn_app (goodIn_r _ [20, 21, 3] rfl (by decide +kernel)) ggX0_plus_X0_putOn
set_option maxRecDepth 20000 in
theorem ggX0_plus_X0_settle : GoodIn wsX0_plus wsX0_settle := goodIn_r _ [35, 19, 36, 37, 38, 3, 39, 40, 41, 42, 43] rfl gw_wsX0_settle
set_option maxRecDepth 20000 in
theorem gX0_plus_X0_settle : GoodIn wsX0_plus (wsV RX0 32 RX0 yX0_settle wsX0_settle) := goodIn_app (goodIn_r _ [32, 33, 34, 3] rfl (by decide +kernel)) ggX0_plus_X0_settle
set_option maxRecDepth 20000 in
theorem ggX0_minus_X0_needClock : GoodIn wsX0_minus wsX0_needClock := goodIn_ca (goodIn_r _ [4, 5, 6] rfl (by decide +kernel)) (goodIn_sub (fun _ h => List.mem_cons_of_mem _ (List.mem_append_left _ (List.mem_append_right _ h))) (by decide +kernel))
set_option maxRecDepth 20000 in
theorem gX0_minus_X0_needClock : GoodIn wsX0_minus (va_wsS RX0 20 yX0_needClock wsX0_needClock) := goodIn_app (goodIn_r _ [1, 2, 3] rfl (by decide +kernel)) ggX0_minus_X0_needClock
set_option maxRecDepth 20000 in
theorem ggX0_minus_X0_needStepUnit : GoodIn wsX0_minus wsX0_needStepUnit := goodIn_ca (goodIn_r _ [9, 10, 11, 12, 13, 3, 14] rfl (by decide +kernel)) (goodIn_sub (fun _ h => List.mem_cons_of_mem _ (List.mem_append_right _ h)) (by decide +kernel))
set_option maxRecDepth 20000 in
theorem gX0_minus_X0_needStepUnit : GoodIn wsX0_minus (va_wsS RX0 62 yX0_needStepUnit wsX0_needStepUnit) := goodIn_app (goodIn_r _ [7, 8, 3] rfl (by decide +kernel)) ggX0_minus_X0_needStepUnit
set_option maxRecDepth 20000 in
theorem ggX0_minus_X0_numberOf : GoodIn wsX0_minus wsX0_numberOf := goodIn_r _ [18, 19, 41, 42, 43] rfl gw_wsX0_numberOf
set_option maxRecDepth 20000 in
theorem gX0_minus_X0_numberOf : GoodIn wsX0_minus (wsV RX0 41 RX0 yX0_numberOf wsX0_numberOf) := goodIn_app (goodIn_r _ [15, 16, 17, 3] rfl (by decide +kernel)) ggX0_minus_X0_numberOf
set_option maxRecDepth 20000 in
theorem ggX0_minus_X0_putOn : GoodIn wsX0_minus wsX0_putOn := goodIn_r _ [22, 23, 24, 25, 3, 26, 27, 28, 29, 30, 31] rfl gw_wsX0_putOn
set_option maxRecDepth 20000 in
theorem gX0_minus_X0_putOn : GoodIn wsX0_minus (va_wsS RX0 65 yX0_putOn wsX0_putOn) := goodIn_app (goodIn_r _ [20, 21, 3] rfl (by decide +kernel)) ggX0_minus_X0_putOn
set_option maxRecDepth 20000 in
theorem ggX0_minus_X0_settle : GoodIn wsX0_minus wsX0_settle := goodIn_r _ [35, 19, 36, 37, 38, 3, 39, 40, 41, 42, 43] rfl gw_wsX0_settle
set_option maxRecDepth 20000 in
theorem gX0_minus_X0_settle : GoodIn wsX0_minus (wsV RX0 32 RX0 yX0_settle wsX0_settle) := goodIn_app (goodIn_r _ [32, 33, 34, 3] rfl (by decide +kernel)) ggX0_minus_X0_settle
set_option maxRecDepth 20000 in
theorem ggX0_walk_X0_needClock : GoodIn wsX0_walk wsX0_needClock := goodIn_ca (goodIn_r _ [6, 7, 8] rfl (by decide +kernel)) (goodIn_sub (fun _ h => List.mem_cons_of_mem _ (List.mem_append_right _ h)) (by decide +kernel))
set_option maxRecDepth 20000 in
theorem gX0_walk_X0_needClock : GoodIn wsX0_walk (va_wsS RX0 20 yX0_needClock wsX0_needClock) := goodIn_app (goodIn_r _ [3, 4, 5] rfl (by decide +kernel)) ggX0_walk_X0_needClock
set_option maxRecDepth 20000 in
theorem ggX0_walk_X0_needStepUnit : GoodIn wsX0_walk wsX0_needStepUnit := goodIn_ca (goodIn_r _ [11, 1, 2, 12, 13, 5, 14] rfl (by decide +kernel)) (goodIn_sub (fun _ h => List.mem_cons_of_mem _ (List.mem_append_left _ (List.mem_append_right _ h))) (by decide +kernel))
set_option maxRecDepth 20000 in
theorem gX0_walk_X0_needStepUnit : GoodIn wsX0_walk (va_wsS RX0 62 yX0_needStepUnit wsX0_needStepUnit) := goodIn_app (goodIn_r _ [9, 10, 5] rfl (by decide +kernel)) ggX0_walk_X0_needStepUnit
set_option maxRecDepth 20000 in
theorem ggX0_walk_X0_numberOf : GoodIn wsX0_walk wsX0_numberOf := goodIn_r _ [18, 19, 41, 42, 43] rfl gw_wsX0_numberOf
set_option maxRecDepth 20000 in
theorem gX0_walk_X0_numberOf : GoodIn wsX0_walk (wsV RX0 41 RX0 yX0_numberOf wsX0_numberOf) := goodIn_app (goodIn_r _ [15, 16, 17, 5] rfl (by decide +kernel)) ggX0_walk_X0_numberOf
set_option maxRecDepth 20000 in
theorem ggX0_walk_X0_putOn : GoodIn wsX0_walk wsX0_putOn := goodIn_r _ [22, 23, 24, 25, 5, 26, 27, 28, 29, 30, 31] rfl gw_wsX0_putOn
set_option maxRecDepth 20000 in
theorem gX0_walk_X0_putOn : GoodIn wsX0_walk (va_wsS RX0 65 yX0_putOn wsX0_putOn) := goodIn_app (goodIn_r _ [20, 21, 5] rfl (by decide +kernel)) ggX0_walk_X0_putOn
set_option maxRecDepth 20000 in
theorem ggX0_walk_X0_settle : GoodIn wsX0_walk wsX0_settle := goodIn_r _ [35, 19, 36, 37, 38, 5, 39, 40, 41, 42, 43] rfl gw_wsX0_settle
set_option maxRecDepth 20000 in
theorem gX0_walk_X0_settle : GoodIn wsX0_walk (wsV RX0 32 RX0 yX0_settle wsX0_settle) := goodIn_app (goodIn_r _ [32, 33, 34, 5] rfl (by decide +kernel)) ggX0_walk_X0_settle
set_option maxRecDepth 20000 in
theorem ggX0_cut_X0_needClock : GoodIn wsX0_cut wsX0_needClock := goodIn_ca (goodIn_r _ [4, 5, 6] rfl (by decide +kernel)) (goodIn_sub (fun _ h => List.mem_cons_of_mem _ (List.mem_append_left _ (List.mem_append_right _ h))) (by decide +kernel))
set_option maxRecDepth 20000 in
theorem gX0_cut_X0_needClock : GoodIn wsX0_cut (va_wsS RX0 20 yX0_needClock wsX0_needClock) := goodIn_app (goodIn_r _ [1, 2, 3] rfl (by decide +kernel)) ggX0_cut_X0_needClock
set_option maxRecDepth 20000 in
theorem ggX0_cut_X0_needUnit : GoodIn wsX0_cut wsX0_needUnit := goodIn_ca (goodIn_r _ [9, 10, 11] rfl (by decide +kernel)) (goodIn_sub (fun _ h => List.mem_cons_of_mem _ (List.mem_append_right _ h)) (by decide +kernel))
set_option maxRecDepth 20000 in
theorem gX0_cut_X0_needUnit : GoodIn wsX0_cut (va_wsS RX0 71 yX0_needUnit wsX0_needUnit) := goodIn_app (goodIn_r _ [7, 8, 3] rfl (by decide +kernel)) ggX0_cut_X0_needUnit
set_option maxRecDepth 20000 in
theorem ggX0_cut_X0_numberOf : GoodIn wsX0_cut wsX0_numberOf := goodIn_r _ [15, 16, 33, 34, 35] rfl gw_wsX0_numberOf
set_option maxRecDepth 20000 in
theorem gX0_cut_X0_numberOf : GoodIn wsX0_cut (wsV RX0 41 RX0 yX0_numberOf wsX0_numberOf) := goodIn_app (goodIn_r _ [12, 13, 14, 3] rfl (by decide +kernel)) ggX0_cut_X0_numberOf
set_option maxRecDepth 20000 in
theorem gw_wsX0_cutNumber : wsX0_cutNumber.all goodWord = true := by decide +kernel
set_option maxRecDepth 20000 in
theorem ggX0_cut_X0_cutNumber : GoodIn wsX0_cut wsX0_cutNumber := goodIn_r _ [19, 20, 21, 3, 22, 23] rfl gw_wsX0_cutNumber
set_option maxRecDepth 20000 in
theorem gX0_cut_X0_cutNumber : GoodIn wsX0_cut (va_wsS RX0 74 yX0_cutNumber wsX0_cutNumber) := goodIn_app (goodIn_r _ [17, 18, 3] rfl (by decide +kernel)) ggX0_cut_X0_cutNumber
set_option maxRecDepth 20000 in
theorem ggX0_cut_X0_settle : GoodIn wsX0_cut wsX0_settle := goodIn_r _ [27, 16, 28, 29, 30, 3, 31, 32, 33, 34, 35] rfl gw_wsX0_settle
set_option maxRecDepth 20000 in
theorem gX0_cut_X0_settle : GoodIn wsX0_cut (wsV RX0 32 RX0 yX0_settle wsX0_settle) := goodIn_app (goodIn_r _ [24, 25, 26, 3] rfl (by decide +kernel)) ggX0_cut_X0_settle
set_option maxRecDepth 20000 in
theorem ggX0_of_X0_needClock : GoodIn wsX0_of wsX0_needClock := goodIn_ca (goodIn_r _ [6, 7, 8] rfl (by decide +kernel)) (goodIn_sub (fun _ h => List.mem_cons_of_mem _ (List.mem_append_right _ h)) (by decide +kernel))
set_option maxRecDepth 20000 in
theorem gX0_of_X0_needClock : GoodIn wsX0_of (va_wsS RX0 20 yX0_needClock wsX0_needClock) := goodIn_app (goodIn_r _ [3, 4, 5] rfl (by decide +kernel)) ggX0_of_X0_needClock
set_option maxRecDepth 20000 in
theorem ggX0_of_X0_numberOf : GoodIn wsX0_of wsX0_numberOf := goodIn_r _ [12, 13, 18, 19, 20] rfl gw_wsX0_numberOf
set_option maxRecDepth 20000 in
theorem gX0_of_X0_numberOf : GoodIn wsX0_of (wsV RX0 41 RX0 yX0_numberOf wsX0_numberOf) := goodIn_app (goodIn_r _ [9, 10, 11, 5] rfl (by decide +kernel)) ggX0_of_X0_numberOf
set_option maxRecDepth 20000 in
theorem ggX0_of_X0_partOf : GoodIn wsX0_of wsX0_partOf := goodIn_r _ [16, 17] rfl gw_wsX0_partOf
set_option maxRecDepth 20000 in
theorem gX0_of_X0_partOf : GoodIn wsX0_of (va_wsS RX0 45 yX0_partOf wsX0_partOf) := goodIn_app (goodIn_r _ [14, 15, 5] rfl (by decide +kernel)) ggX0_of_X0_partOf
def wcX0_number : List (List Cond) := [[.code yX0_number cX0_number 2 (some (.object "java/lang/String"))], wsX0_number_r1, wsX0_number_r2, wsX0_number_r3, wsX0_number_r4, wsX0_number_r5, wsX0_number_r6, wsX0_number_r7, wsX0_number_r8, wsX0_number_r9, wsX0_number_r10, (wsX00 ++ wsJ40 ++ wsJ00 ++ (vx_atS RX0 166 "java/lang/IndexOutOfBoundsException" ["java/lang/RuntimeException", "java/lang/Exception"]).filter goodWord : List Cond)]
theorem wcX0_number_eq : wsX0_number = wcX0_number.flatten := by simp only [wsX0_number, wcX0_number, List.flatten_cons, List.flatten_nil, List.append_assoc, List.append_nil, List.cons_append, List.nil_append]
set_option maxRecDepth 20000 in
theorem ggX0_number_X0_needClock : GoodIn wsX0_number wsX0_needClock := goodIn_ca (goodIn_k _ wcX0_number_eq [(1, 3), (1, 4), (1, 5)] rfl (by decide +kernel)) (goodIn_sub (fun _ h => List.mem_cons_of_mem _ (List.mem_append_right _ h)) (by decide +kernel))
set_option maxRecDepth 20000 in
theorem gX0_number_X0_needClock : GoodIn wsX0_number (va_wsS RX0 20 yX0_needClock wsX0_needClock) := goodIn_app (goodIn_k _ wcX0_number_eq [(1, 0), (1, 1), (1, 2)] rfl (by decide +kernel)) ggX0_number_X0_needClock
set_option maxRecDepth 20000 in
theorem ggX0_number_X0_numberOf : GoodIn wsX0_number wsX0_numberOf := goodIn_k _ wcX0_number_eq [(1, 9), (1, 10), (11, 0), (11, 1), (11, 2)] rfl gw_wsX0_numberOf
set_option maxRecDepth 20000 in
theorem gX0_number_X0_numberOf : GoodIn wsX0_number (wsV RX0 41 RX0 yX0_numberOf wsX0_numberOf) := goodIn_app (goodIn_k _ wcX0_number_eq [(1, 6), (1, 7), (1, 8), (1, 2)] rfl (by decide +kernel)) ggX0_number_X0_numberOf
set_option maxRecDepth 20000 in
theorem gw_wsX0_digits : wsX0_digits.all goodWord = true := by decide +kernel
set_option maxRecDepth 20000 in
theorem ggX0_number_X0_digits : GoodIn wsX0_number wsX0_digits := goodIn_k _ wcX0_number_eq [(1, 13), (1, 14), (1, 15), (1, 16), (1, 17), (1, 18), (1, 19), (1, 20), (1, 21), (1, 22), (1, 23), (2, 0), (2, 1), (2, 2), (2, 3), (2, 4), (2, 5), (2, 6), (2, 7), (2, 8), (2, 9), (2, 10), (2, 11), (2, 12), (2, 13), (2, 14), (2, 15), (2, 16), (2, 17), (2, 18), (2, 19), (2, 20), (2, 21), (2, 22), (2, 23), (3, 0), (3, 1), (3, 2), (3, 3), (3, 4), (3, 5), (3, 6), (3, 7), (3, 8), (3, 9), (3, 10), (3, 11), (3, 12), (3, 13), (3, 14), (3, 15), (3, 16), (3, 17), (3, 18), (3, 19), (3, 20), (3, 21), (3, 22), (3, 23), (4, 0), (4, 1), (4, 2), (4, 3), (4, 4), (4, 5), (4, 6), (4, 7), (4, 8), (4, 9), (4, 10), (4, 11), (4, 12), (4, 13), (4, 14), (4, 15), (4, 16), (4, 17), (4, 18), (4, 19), (4, 20), (4, 21), (4, 22), (4, 23), (5, 0), (5, 1), (5, 2), (5, 3), (5, 4), (5, 5), (5, 6), (5, 7), (5, 8), (5, 9), (5, 10), (5, 11), (5, 12), (5, 13), (5, 14), (5, 15), (5, 16), (5, 17), (5, 18), (5, 19), (5, 20), (5, 21), (5, 22), (5, 23), (6, 0), (6, 1), (6, 2), (6, 3), (6, 4), (6, 5), (6, 6), (6, 7), (6, 8), (6, 9), (6, 10), (6, 11), (6, 12), (6, 13), (6, 14), (6, 15), (6, 16), (6, 17), (6, 18), (6, 19), (6, 20), (6, 21), (6, 22), (6, 23), (7, 0), (7, 1), (7, 2), (7, 3), (7, 4), (7, 5), (7, 6), (7, 7), (7, 8), (7, 9), (7, 10), (7, 11), (7, 12), (7, 13), (7, 14), (7, 15), (7, 16), (7, 17), (7, 18), (7, 19), (7, 20), (7, 21), (7, 22), (7, 23), (8, 0), (8, 1), (8, 2), (8, 3), (8, 4), (8, 5), (8, 6), (8, 7), (8, 8), (8, 9), (8, 10), (8, 11), (8, 12), (8, 13), (8, 14), (8, 15), (8, 16), (8, 17), (8, 18), (8, 19), (8, 20), (8, 21), (8, 22), (8, 23), (9, 0), (9, 1), (9, 2), (9, 3), (9, 4), (9, 5), (9, 6), (9, 7), (9, 8), (9, 9), (9, 10), (9, 11), (9, 12), (9, 13), (9, 14), (9, 15), (9, 16), (9, 17), (9, 18), (9, 19), (9, 20), (9, 21), (9, 22), (9, 23), (10, 0), (10, 1), (10, 2), (10, 3), (10, 4), (10, 5), (10, 6), (10, 7), (10, 8), (10, 9), (10, 10), (10, 11), (10, 12), (10, 13), (10, 14), (10, 15), (10, 16), (10, 17), (10, 18), (10, 19), (10, 20), (10, 21), (11, 3), (11, 4), (11, 5), (11, 6), (11, 7), (11, 8), (11, 9), (11, 10)] rfl gw_wsX0_digits
set_option maxRecDepth 20000 in
theorem gX0_number_X0_digits : GoodIn wsX0_number (va_wsS RX0 80 yX0_digits wsX0_digits) := goodIn_app (goodIn_k _ wcX0_number_eq [(1, 11), (1, 12), (1, 2)] rfl (by decide +kernel)) ggX0_number_X0_digits
def wcX0_text : List (List Cond) := [[.code yX0_text cX0_text 5 (some (.object "java/lang/String"))], wsX0_text_r1, wsX0_text_r2, wsX0_text_r3, wsX0_text_r4, wsX0_text_r5, wsX0_text_r6, wsX0_text_r7, wsX0_text_r8, wsX0_text_r9, wsX0_text_r10, (wsJ40 ++ wsX00 ++ wsJ00 ++ (vx_atS RX0 166 "java/lang/IndexOutOfBoundsException" ["java/lang/RuntimeException", "java/lang/Exception"]).filter goodWord : List Cond)]
theorem wcX0_text_eq : wsX0_text = wcX0_text.flatten := by simp only [wsX0_text, wcX0_text, List.flatten_cons, List.flatten_nil, List.append_assoc, List.append_nil, List.cons_append, List.nil_append]
set_option maxRecDepth 20000 in
theorem ggX0_text_X0_needClock : GoodIn wsX0_text wsX0_needClock := goodIn_ca (goodIn_k _ wcX0_text_eq [(1, 6), (1, 7), (1, 8)] rfl (by decide +kernel)) (goodIn_sub (fun _ h => List.mem_cons_of_mem _ (List.mem_append_right _ h)) (by decide +kernel))
set_option maxRecDepth 20000 in
theorem gX0_text_X0_needClock : GoodIn wsX0_text (va_wsS RX0 20 yX0_needClock wsX0_needClock) := goodIn_app (goodIn_k _ wcX0_text_eq [(1, 3), (1, 4), (1, 5)] rfl (by decide +kernel)) ggX0_text_X0_needClock
set_option maxRecDepth 20000 in
theorem ggX0_text_X0_numberOf : GoodIn wsX0_text wsX0_numberOf := goodIn_k _ wcX0_text_eq [(1, 12), (1, 13), (11, 4), (11, 5), (11, 6)] rfl gw_wsX0_numberOf
set_option maxRecDepth 20000 in
theorem gX0_text_X0_numberOf : GoodIn wsX0_text (wsV RX0 41 RX0 yX0_numberOf wsX0_numberOf) := goodIn_app (goodIn_k _ wcX0_text_eq [(1, 9), (1, 10), (1, 11), (1, 5)] rfl (by decide +kernel)) ggX0_text_X0_numberOf
set_option maxRecDepth 20000 in
theorem gw_wsJ4_init_da8c8 : wsJ4_init_da8c8.all goodWord = true := by decide +kernel
set_option maxRecDepth 20000 in
theorem ggX0_text_J4_init_da8c8 : GoodIn wsX0_text wsJ4_init_da8c8 := goodIn_k _ wcX0_text_eq [(1, 16), (1, 17), (1, 18), (1, 19), (1, 20), (1, 21), (1, 22), (1, 23), (2, 0), (2, 1), (2, 2), (2, 3), (2, 4), (2, 5), (2, 6), (2, 7), (2, 8), (2, 9), (2, 10), (2, 11), (11, 0), (11, 1), (11, 2), (11, 3)] rfl gw_wsJ4_init_da8c8
set_option maxRecDepth 20000 in
theorem gX0_text_J4_init_da8c8 : GoodIn wsX0_text (wsJ4_init_da8c8) := ggX0_text_J4_init_da8c8
set_option maxRecDepth 20000 in
theorem ggX0_text_X0_partOf : GoodIn wsX0_text wsX0_partOf := goodIn_k _ wcX0_text_eq [(2, 14), (2, 15)] rfl gw_wsX0_partOf
set_option maxRecDepth 20000 in
theorem gX0_text_X0_partOf : GoodIn wsX0_text (va_wsS RX0 45 yX0_partOf wsX0_partOf) := goodIn_app (goodIn_k _ wcX0_text_eq [(2, 12), (2, 13), (1, 5)] rfl (by decide +kernel)) ggX0_text_X0_partOf
set_option maxRecDepth 20000 in
theorem gw_wsJ4_append_bf812 : wsJ4_append_bf812.all goodWord = true := by decide +kernel
set_option maxRecDepth 20000 in
theorem ggX0_text_J4_append_bf812 : GoodIn wsX0_text wsJ4_append_bf812 := goodIn_k _ wcX0_text_eq [(2, 19), (2, 20), (2, 21), (2, 22), (2, 23), (1, 19), (3, 0), (3, 1), (2, 2), (3, 2), (3, 3), (3, 4), (3, 5), (3, 6), (3, 7), (3, 8), (3, 9), (3, 10), (2, 3), (3, 11), (3, 12), (3, 13), (3, 14), (3, 15), (3, 16), (3, 17), (3, 18), (3, 19), (3, 20), (3, 21), (3, 22), (3, 23), (4, 0), (4, 1), (4, 2), (4, 3), (4, 4), (4, 5), (4, 6), (4, 7), (4, 8), (4, 9), (4, 10), (4, 11), (4, 12), (4, 13), (4, 14), (2, 1), (4, 15), (4, 16), (4, 17), (4, 18), (4, 19), (4, 20), (4, 21), (4, 22), (4, 23), (5, 0), (5, 1), (5, 2), (2, 0), (5, 3), (5, 4), (5, 5), (5, 6), (5, 7), (5, 8), (5, 9), (2, 6), (5, 10), (5, 11), (5, 12), (5, 13), (5, 14), (5, 15), (5, 16), (5, 17), (5, 18), (5, 19), (5, 20), (5, 21), (5, 22), (5, 23), (6, 0), (6, 1), (6, 2), (6, 3), (6, 4), (6, 5), (6, 6), (6, 7), (6, 8), (6, 9), (6, 10), (6, 11), (6, 12), (11, 0), (11, 1), (11, 2), (11, 3)] rfl gw_wsJ4_append_bf812
set_option maxRecDepth 20000 in
theorem gX0_text_J4_append_bf812 : GoodIn wsX0_text (wsV RX0 87 RJ4 yJ4_append_bf812 wsJ4_append_bf812) := goodIn_app (goodIn_k _ wcX0_text_eq [(2, 16), (2, 17), (2, 18), (1, 2)] rfl (by decide +kernel)) ggX0_text_J4_append_bf812
set_option maxRecDepth 20000 in
theorem gw_wsJ4_append_cf468 : wsJ4_append_cf468.all goodWord = true := by decide +kernel
set_option maxRecDepth 20000 in
theorem ggX0_text_J4_append_cf468 : GoodIn wsX0_text wsJ4_append_cf468 := goodIn_k _ wcX0_text_eq [(6, 16), (6, 17), (6, 18), (2, 22), (6, 19), (1, 19), (6, 20), (3, 1), (2, 2), (3, 6), (3, 7), (3, 8), (3, 9), (3, 10), (2, 3), (3, 11), (3, 12), (3, 13), (3, 14), (3, 15), (3, 16), (3, 17), (3, 18), (3, 19), (3, 20), (3, 21), (3, 22), (3, 23), (4, 0), (4, 1), (4, 2), (4, 3), (4, 4), (4, 5), (4, 6), (4, 7), (4, 8), (4, 9), (4, 10), (4, 11), (4, 12), (4, 13), (4, 14), (2, 1), (4, 15), (4, 16), (4, 17), (4, 18), (4, 19), (4, 20), (4, 21), (4, 22), (4, 23), (5, 0), (5, 1), (5, 2), (2, 0), (6, 21), (6, 22), (6, 23), (7, 0), (7, 1), (7, 2), (7, 3), (7, 4), (7, 5), (2, 4), (2, 5), (2, 6), (2, 7), (2, 8), (2, 9), (2, 10), (2, 11), (7, 6), (7, 7), (7, 8), (7, 9), (7, 10), (7, 11), (7, 12), (7, 13), (7, 14), (5, 15), (5, 16), (5, 17), (7, 15), (7, 16), (5, 20), (7, 17), (5, 22), (7, 18), (7, 19), (6, 1), (7, 20), (6, 8), (6, 9), (6, 10), (5, 11), (6, 11), (6, 12), (7, 21), (7, 22), (7, 23), (8, 0), (8, 1), (8, 2), (8, 3), (8, 4), (8, 5), (8, 6), (8, 7), (8, 8), (11, 0), (11, 1), (11, 2), (11, 3)] rfl gw_wsJ4_append_cf468
set_option maxRecDepth 20000 in
theorem gX0_text_J4_append_cf468 : GoodIn wsX0_text (wsV RX0 91 RJ4 yJ4_append_cf468 wsJ4_append_cf468) := goodIn_app (goodIn_k _ wcX0_text_eq [(6, 13), (6, 14), (6, 15), (1, 2)] rfl (by decide +kernel)) ggX0_text_J4_append_cf468
set_option maxRecDepth 20000 in
theorem gw_wsJ4_toString_0e30d : wsJ4_toString_0e30d.all goodWord = true := by decide +kernel
set_option maxRecDepth 20000 in
theorem ggX0_text_J4_toString_0e30d : GoodIn wsX0_text wsJ4_toString_0e30d := goodIn_k _ wcX0_text_eq [(8, 12), (8, 13), (8, 14), (5, 20), (8, 15), (8, 16), (8, 17), (8, 18), (8, 19), (8, 20), (8, 21), (1, 22), (1, 23), (8, 22), (8, 23), (9, 0), (9, 1), (9, 2), (9, 3), (9, 4), (9, 5), (1, 19), (9, 6), (2, 2), (9, 7), (9, 8), (9, 9), (9, 10), (9, 11), (1, 2), (9, 12), (9, 13), (2, 22), (9, 14), (9, 15), (3, 1), (9, 16), (4, 23), (5, 0), (5, 1), (5, 2), (2, 0), (2, 3), (9, 17), (9, 18), (4, 7), (9, 19), (4, 9), (4, 10), (4, 11), (4, 12), (4, 13), (4, 14), (9, 20), (9, 21), (9, 22), (2, 1), (4, 15), (4, 16), (3, 23), (4, 17), (4, 18), (4, 19), (4, 20), (4, 21), (9, 23), (10, 0), (10, 1), (10, 2), (1, 1), (10, 3), (10, 4), (2, 6), (10, 5), (10, 6), (10, 7), (10, 8), (7, 12), (7, 13), (7, 14), (5, 15), (5, 16), (5, 17), (7, 15), (7, 16), (7, 17), (5, 22), (7, 18), (7, 19), (6, 1), (7, 20), (10, 9), (10, 10), (10, 11), (5, 11), (6, 11), (6, 12), (2, 8), (2, 9), (2, 10), (2, 11), (10, 12), (10, 13), (10, 14), (10, 15), (11, 7), (11, 8), (11, 9), (11, 10), (11, 0), (11, 1), (11, 2), (11, 3)] rfl gw_wsJ4_toString_0e30d
set_option maxRecDepth 20000 in
theorem gX0_text_J4_toString_0e30d : GoodIn wsX0_text (wsV RX0 94 RJ4 yJ4_toString_0e30d wsJ4_toString_0e30d) := goodIn_app (goodIn_k _ wcX0_text_eq [(8, 9), (8, 10), (8, 11), (1, 2)] rfl (by decide +kernel)) ggX0_text_J4_toString_0e30d
def wcX0_beyond : List (List Cond) := [[.code yX0_beyond cX0_beyond 5 (some (.object "java/lang/String"))], wsX0_beyond_r1, wsX0_beyond_r2, wsX0_beyond_r3, wsX0_beyond_r4, wsX0_beyond_r5, wsX0_beyond_r6, wsX0_beyond_r7, wsX0_beyond_r8, wsX0_beyond_r9, wsX0_beyond_r10, wsX0_beyond_r11, (wsX00 ++ wsJ40 ++ wsJ00 ++ (vx_atS RX0 166 "java/lang/IndexOutOfBoundsException" ["java/lang/RuntimeException", "java/lang/Exception"]).filter goodWord ++ (vx_atS RX0 56 "java/lang/IllegalArgumentException" ["java/lang/RuntimeException", "java/lang/Exception"]).filter goodWord : List Cond)]
theorem wcX0_beyond_eq : wsX0_beyond = wcX0_beyond.flatten := by simp only [wsX0_beyond, wcX0_beyond, List.flatten_cons, List.flatten_nil, List.append_assoc, List.append_nil, List.cons_append, List.nil_append]
set_option maxRecDepth 20000 in
theorem ggX0_beyond_X0_needClock : GoodIn wsX0_beyond wsX0_needClock := goodIn_ca (goodIn_k _ wcX0_beyond_eq [(1, 3), (1, 4), (1, 5)] rfl (by decide +kernel)) (goodIn_sub (fun _ h => List.mem_cons_of_mem _ (List.mem_append_left _ (List.mem_append_right _ h))) (by decide +kernel))
set_option maxRecDepth 20000 in
theorem gX0_beyond_X0_needClock : GoodIn wsX0_beyond (va_wsS RX0 20 yX0_needClock wsX0_needClock) := goodIn_app (goodIn_k _ wcX0_beyond_eq [(1, 0), (1, 1), (1, 2)] rfl (by decide +kernel)) ggX0_beyond_X0_needClock
set_option maxRecDepth 20000 in
theorem ggX0_beyond_X0_needUnit : GoodIn wsX0_beyond wsX0_needUnit := goodIn_ca (goodIn_k _ wcX0_beyond_eq [(1, 8), (1, 9), (1, 10)] rfl (by decide +kernel)) (goodIn_sub (fun _ h => List.mem_cons_of_mem _ (List.mem_append_right _ h)) (by decide +kernel))
set_option maxRecDepth 20000 in
theorem gX0_beyond_X0_needUnit : GoodIn wsX0_beyond (va_wsS RX0 71 yX0_needUnit wsX0_needUnit) := goodIn_app (goodIn_k _ wcX0_beyond_eq [(1, 6), (1, 7), (1, 2)] rfl (by decide +kernel)) ggX0_beyond_X0_needUnit
set_option maxRecDepth 20000 in
theorem ggX0_beyond_X0_numberOf : GoodIn wsX0_beyond wsX0_numberOf := goodIn_k _ wcX0_beyond_eq [(1, 14), (1, 15), (12, 0), (12, 1), (12, 2)] rfl gw_wsX0_numberOf
set_option maxRecDepth 20000 in
theorem gX0_beyond_X0_numberOf : GoodIn wsX0_beyond (wsV RX0 41 RX0 yX0_numberOf wsX0_numberOf) := goodIn_app (goodIn_k _ wcX0_beyond_eq [(1, 11), (1, 12), (1, 13), (1, 2)] rfl (by decide +kernel)) ggX0_beyond_X0_numberOf
set_option maxRecDepth 20000 in
theorem ggX0_beyond_X0_cutNumber : GoodIn wsX0_beyond wsX0_cutNumber := goodIn_k _ wcX0_beyond_eq [(1, 18), (1, 19), (1, 20), (1, 2), (1, 21), (1, 22)] rfl gw_wsX0_cutNumber
set_option maxRecDepth 20000 in
theorem gX0_beyond_X0_cutNumber : GoodIn wsX0_beyond (va_wsS RX0 74 yX0_cutNumber wsX0_cutNumber) := goodIn_app (goodIn_k _ wcX0_beyond_eq [(1, 16), (1, 17), (1, 2)] rfl (by decide +kernel)) ggX0_beyond_X0_cutNumber
set_option maxRecDepth 20000 in
theorem ggX0_beyond_X0_digits : GoodIn wsX0_beyond wsX0_digits := goodIn_k _ wcX0_beyond_eq [(2, 1), (2, 2), (2, 3), (2, 4), (2, 5), (2, 6), (2, 7), (2, 8), (2, 9), (2, 10), (2, 11), (2, 12), (2, 13), (2, 14), (2, 15), (2, 16), (2, 17), (2, 18), (2, 19), (2, 20), (2, 21), (2, 22), (2, 23), (3, 0), (3, 1), (3, 2), (3, 3), (3, 4), (3, 5), (3, 6), (3, 7), (3, 8), (3, 9), (3, 10), (3, 11), (3, 12), (3, 13), (3, 14), (3, 15), (3, 16), (3, 17), (3, 18), (3, 19), (3, 20), (3, 21), (3, 22), (3, 23), (4, 0), (4, 1), (4, 2), (4, 3), (4, 4), (4, 5), (4, 6), (4, 7), (4, 8), (4, 9), (4, 10), (4, 11), (4, 12), (4, 13), (4, 14), (4, 15), (4, 16), (4, 17), (4, 18), (4, 19), (4, 20), (4, 21), (4, 22), (4, 23), (5, 0), (5, 1), (5, 2), (5, 3), (5, 4), (5, 5), (5, 6), (5, 7), (5, 8), (5, 9), (5, 10), (5, 11), (5, 12), (5, 13), (5, 14), (5, 15), (5, 16), (5, 17), (5, 18), (5, 19), (5, 20), (5, 21), (5, 22), (5, 23), (6, 0), (6, 1), (6, 2), (6, 3), (6, 4), (6, 5), (6, 6), (6, 7), (6, 8), (6, 9), (6, 10), (6, 11), (6, 12), (6, 13), (6, 14), (6, 15), (6, 16), (6, 17), (6, 18), (6, 19), (6, 20), (6, 21), (6, 22), (6, 23), (7, 0), (7, 1), (7, 2), (7, 3), (7, 4), (7, 5), (7, 6), (7, 7), (7, 8), (7, 9), (7, 10), (7, 11), (7, 12), (7, 13), (7, 14), (7, 15), (7, 16), (7, 17), (7, 18), (7, 19), (7, 20), (7, 21), (7, 22), (7, 23), (8, 0), (8, 1), (8, 2), (8, 3), (8, 4), (8, 5), (8, 6), (8, 7), (8, 8), (8, 9), (8, 10), (8, 11), (8, 12), (8, 13), (8, 14), (8, 15), (8, 16), (8, 17), (8, 18), (8, 19), (8, 20), (8, 21), (8, 22), (8, 23), (9, 0), (9, 1), (9, 2), (9, 3), (9, 4), (9, 5), (9, 6), (9, 7), (9, 8), (9, 9), (9, 10), (9, 11), (9, 12), (9, 13), (9, 14), (9, 15), (9, 16), (9, 17), (9, 18), (9, 19), (9, 20), (9, 21), (9, 22), (9, 23), (10, 0), (10, 1), (10, 2), (10, 3), (10, 4), (10, 5), (10, 6), (10, 7), (10, 8), (10, 9), (10, 10), (10, 11), (10, 12), (10, 13), (10, 14), (10, 15), (10, 16), (10, 17), (10, 18), (10, 19), (10, 20), (10, 21), (10, 22), (10, 23), (11, 0), (11, 1), (11, 2), (11, 3), (11, 4), (11, 5), (11, 6), (11, 7), (11, 8), (11, 9), (12, 3), (12, 4), (12, 5), (12, 6), (12, 7), (12, 8), (12, 9), (12, 10)] rfl gw_wsX0_digits
set_option maxRecDepth 20000 in
theorem gX0_beyond_X0_digits : GoodIn wsX0_beyond (va_wsS RX0 80 yX0_digits wsX0_digits) := goodIn_app (goodIn_k _ wcX0_beyond_eq [(1, 23), (2, 0), (1, 2)] rfl (by decide +kernel)) ggX0_beyond_X0_digits
set_option maxRecDepth 20000 in
theorem ggX0_compare_X0_needClock : GoodIn wsX0_compare wsX0_needClock := goodIn_ca (goodIn_r _ [4, 5, 6] rfl (by decide +kernel)) (goodIn_sub (fun _ h => List.mem_cons_of_mem _ (List.mem_append_right _ h)) (by decide +kernel))
set_option maxRecDepth 20000 in
theorem gX0_compare_X0_needClock : GoodIn wsX0_compare (va_wsS RX0 20 yX0_needClock wsX0_needClock) := goodIn_app (goodIn_r _ [1, 2, 3] rfl (by decide +kernel)) ggX0_compare_X0_needClock
set_option maxRecDepth 20000 in
theorem ggX0_compare_X0_numberOf : GoodIn wsX0_compare wsX0_numberOf := goodIn_r _ [10, 11, 15, 16, 17] rfl gw_wsX0_numberOf
set_option maxRecDepth 20000 in
theorem gX0_compare_X0_numberOf : GoodIn wsX0_compare (wsV RX0 41 RX0 yX0_numberOf wsX0_numberOf) := goodIn_app (goodIn_r _ [7, 8, 9, 3] rfl (by decide +kernel)) ggX0_compare_X0_numberOf
set_option maxRecDepth 20000 in
theorem gw_wsX0_sideOf : wsX0_sideOf.all goodWord = true := by decide +kernel
set_option maxRecDepth 20000 in
theorem ggX0_compare_X0_sideOf : GoodIn wsX0_compare wsX0_sideOf := goodIn_r _ [14] rfl gw_wsX0_sideOf
set_option maxRecDepth 20000 in
theorem gX0_compare_X0_sideOf : GoodIn wsX0_compare (va_wsS RX0 98 yX0_sideOf wsX0_sideOf) := goodIn_app (goodIn_r _ [12, 13, 3] rfl (by decide +kernel)) ggX0_compare_X0_sideOf
set_option maxRecDepth 20000 in
theorem ggX0_isAhead_X0_needClock : GoodIn wsX0_isAhead wsX0_needClock := goodIn_ca (goodIn_r _ [4, 5, 6] rfl (by decide +kernel)) (goodIn_sub (fun _ h => List.mem_cons_of_mem _ (List.mem_append_right _ h)) (by decide +kernel))
set_option maxRecDepth 20000 in
theorem gX0_isAhead_X0_needClock : GoodIn wsX0_isAhead (va_wsS RX0 20 yX0_needClock wsX0_needClock) := goodIn_app (goodIn_r _ [1, 2, 3] rfl (by decide +kernel)) ggX0_isAhead_X0_needClock
set_option maxRecDepth 20000 in
theorem ggX0_isAhead_X0_numberOf : GoodIn wsX0_isAhead wsX0_numberOf := goodIn_r _ [10, 11, 12, 13, 14] rfl gw_wsX0_numberOf
set_option maxRecDepth 20000 in
theorem gX0_isAhead_X0_numberOf : GoodIn wsX0_isAhead (wsV RX0 41 RX0 yX0_numberOf wsX0_numberOf) := goodIn_app (goodIn_r _ [7, 8, 9, 3] rfl (by decide +kernel)) ggX0_isAhead_X0_numberOf
set_option maxRecDepth 20000 in
theorem ggX0_isBehind_X0_needClock : GoodIn wsX0_isBehind wsX0_needClock := goodIn_ca (goodIn_r _ [4, 5, 6] rfl (by decide +kernel)) (goodIn_sub (fun _ h => List.mem_cons_of_mem _ (List.mem_append_right _ h)) (by decide +kernel))
set_option maxRecDepth 20000 in
theorem gX0_isBehind_X0_needClock : GoodIn wsX0_isBehind (va_wsS RX0 20 yX0_needClock wsX0_needClock) := goodIn_app (goodIn_r _ [1, 2, 3] rfl (by decide +kernel)) ggX0_isBehind_X0_needClock
set_option maxRecDepth 20000 in
theorem ggX0_isBehind_X0_numberOf : GoodIn wsX0_isBehind wsX0_numberOf := goodIn_r _ [10, 11, 12, 13, 14] rfl gw_wsX0_numberOf
set_option maxRecDepth 20000 in
theorem gX0_isBehind_X0_numberOf : GoodIn wsX0_isBehind (wsV RX0 41 RX0 yX0_numberOf wsX0_numberOf) := goodIn_app (goodIn_r _ [7, 8, 9, 3] rfl (by decide +kernel)) ggX0_isBehind_X0_numberOf
set_option maxRecDepth 20000 in
theorem ggX0_areAlike_X0_needClock : GoodIn wsX0_areAlike wsX0_needClock := goodIn_ca (goodIn_r _ [4, 5, 6] rfl (by decide +kernel)) (goodIn_sub (fun _ h => List.mem_cons_of_mem _ (List.mem_append_right _ h)) (by decide +kernel))
set_option maxRecDepth 20000 in
theorem gX0_areAlike_X0_needClock : GoodIn wsX0_areAlike (va_wsS RX0 20 yX0_needClock wsX0_needClock) := goodIn_app (goodIn_r _ [1, 2, 3] rfl (by decide +kernel)) ggX0_areAlike_X0_needClock
set_option maxRecDepth 20000 in
theorem ggX0_areAlike_X0_numberOf : GoodIn wsX0_areAlike wsX0_numberOf := goodIn_r _ [10, 11, 12, 13, 14] rfl gw_wsX0_numberOf
set_option maxRecDepth 20000 in
theorem gX0_areAlike_X0_numberOf : GoodIn wsX0_areAlike (wsV RX0 41 RX0 yX0_numberOf wsX0_numberOf) := goodIn_app (goodIn_r _ [7, 8, 9, 3] rfl (by decide +kernel)) ggX0_areAlike_X0_numberOf
def wcX0_between : List (List Cond) := [[.code yX0_between cX0_between 4 (some (.object "java/lang/String"))], wsX0_between_r1, wsX0_between_r2, wsX0_between_r3, wsX0_between_r4, wsX0_between_r5, wsX0_between_r6, wsX0_between_r7, wsX0_between_r8, wsX0_between_r9, wsX0_between_r10, wsX0_between_r11, (wsX00 ++ wsJ40 ++ wsJ00 ++ (vx_atS RX0 166 "java/lang/IndexOutOfBoundsException" ["java/lang/RuntimeException", "java/lang/Exception"]).filter goodWord ++ (vx_atS RX0 56 "java/lang/IllegalArgumentException" ["java/lang/RuntimeException", "java/lang/Exception"]).filter goodWord : List Cond)]
theorem wcX0_between_eq : wsX0_between = wcX0_between.flatten := by simp only [wsX0_between, wcX0_between, List.flatten_cons, List.flatten_nil, List.append_assoc, List.append_nil, List.cons_append, List.nil_append]
set_option maxRecDepth 20000 in
theorem ggX0_between_X0_needClock : GoodIn wsX0_between wsX0_needClock := goodIn_ca (goodIn_k _ wcX0_between_eq [(1, 3), (1, 4), (1, 5)] rfl (by decide +kernel)) (goodIn_sub (fun _ h => List.mem_cons_of_mem _ (List.mem_append_left _ (List.mem_append_right _ h))) (by decide +kernel))
set_option maxRecDepth 20000 in
theorem gX0_between_X0_needClock : GoodIn wsX0_between (va_wsS RX0 20 yX0_needClock wsX0_needClock) := goodIn_app (goodIn_k _ wcX0_between_eq [(1, 0), (1, 1), (1, 2)] rfl (by decide +kernel)) ggX0_between_X0_needClock
set_option maxRecDepth 20000 in
theorem ggX0_between_X0_needUnit : GoodIn wsX0_between wsX0_needUnit := goodIn_ca (goodIn_k _ wcX0_between_eq [(1, 8), (1, 9), (1, 10)] rfl (by decide +kernel)) (goodIn_sub (fun _ h => List.mem_cons_of_mem _ (List.mem_append_right _ h)) (by decide +kernel))
set_option maxRecDepth 20000 in
theorem gX0_between_X0_needUnit : GoodIn wsX0_between (va_wsS RX0 71 yX0_needUnit wsX0_needUnit) := goodIn_app (goodIn_k _ wcX0_between_eq [(1, 6), (1, 7), (1, 2)] rfl (by decide +kernel)) ggX0_between_X0_needUnit
set_option maxRecDepth 20000 in
theorem ggX0_between_X0_numberOf : GoodIn wsX0_between wsX0_numberOf := goodIn_k _ wcX0_between_eq [(1, 14), (1, 15), (12, 0), (12, 1), (12, 2)] rfl gw_wsX0_numberOf
set_option maxRecDepth 20000 in
theorem gX0_between_X0_numberOf : GoodIn wsX0_between (wsV RX0 41 RX0 yX0_numberOf wsX0_numberOf) := goodIn_app (goodIn_k _ wcX0_between_eq [(1, 11), (1, 12), (1, 13), (1, 2)] rfl (by decide +kernel)) ggX0_between_X0_numberOf
set_option maxRecDepth 20000 in
theorem gw_wsX0_unitsBetween : wsX0_unitsBetween.all goodWord = true := by decide +kernel
set_option maxRecDepth 20000 in
theorem ggX0_between_X0_unitsBetween : GoodIn wsX0_between wsX0_unitsBetween := goodIn_k _ wcX0_between_eq [(1, 18), (1, 19), (1, 20), (1, 2), (1, 21), (1, 22)] rfl gw_wsX0_unitsBetween
set_option maxRecDepth 20000 in
theorem gX0_between_X0_unitsBetween : GoodIn wsX0_between (va_wsS RX0 102 yX0_unitsBetween wsX0_unitsBetween) := goodIn_app (goodIn_k _ wcX0_between_eq [(1, 16), (1, 17), (1, 2)] rfl (by decide +kernel)) ggX0_between_X0_unitsBetween
set_option maxRecDepth 20000 in
theorem ggX0_between_X0_digits : GoodIn wsX0_between wsX0_digits := goodIn_k _ wcX0_between_eq [(2, 1), (2, 2), (2, 3), (2, 4), (2, 5), (2, 6), (2, 7), (2, 8), (2, 9), (2, 10), (2, 11), (2, 12), (2, 13), (2, 14), (2, 15), (2, 16), (2, 17), (2, 18), (2, 19), (2, 20), (2, 21), (2, 22), (2, 23), (3, 0), (3, 1), (3, 2), (3, 3), (3, 4), (3, 5), (3, 6), (3, 7), (3, 8), (3, 9), (3, 10), (3, 11), (3, 12), (3, 13), (3, 14), (3, 15), (3, 16), (3, 17), (3, 18), (3, 19), (3, 20), (3, 21), (3, 22), (3, 23), (4, 0), (4, 1), (4, 2), (4, 3), (4, 4), (4, 5), (4, 6), (4, 7), (4, 8), (4, 9), (4, 10), (4, 11), (4, 12), (4, 13), (4, 14), (4, 15), (4, 16), (4, 17), (4, 18), (4, 19), (4, 20), (4, 21), (4, 22), (4, 23), (5, 0), (5, 1), (5, 2), (5, 3), (5, 4), (5, 5), (5, 6), (5, 7), (5, 8), (5, 9), (5, 10), (5, 11), (5, 12), (5, 13), (5, 14), (5, 15), (5, 16), (5, 17), (5, 18), (5, 19), (5, 20), (5, 21), (5, 22), (5, 23), (6, 0), (6, 1), (6, 2), (6, 3), (6, 4), (6, 5), (6, 6), (6, 7), (6, 8), (6, 9), (6, 10), (6, 11), (6, 12), (6, 13), (6, 14), (6, 15), (6, 16), (6, 17), (6, 18), (6, 19), (6, 20), (6, 21), (6, 22), (6, 23), (7, 0), (7, 1), (7, 2), (7, 3), (7, 4), (7, 5), (7, 6), (7, 7), (7, 8), (7, 9), (7, 10), (7, 11), (7, 12), (7, 13), (7, 14), (7, 15), (7, 16), (7, 17), (7, 18), (7, 19), (7, 20), (7, 21), (7, 22), (7, 23), (8, 0), (8, 1), (8, 2), (8, 3), (8, 4), (8, 5), (8, 6), (8, 7), (8, 8), (8, 9), (8, 10), (8, 11), (8, 12), (8, 13), (8, 14), (8, 15), (8, 16), (8, 17), (8, 18), (8, 19), (8, 20), (8, 21), (8, 22), (8, 23), (9, 0), (9, 1), (9, 2), (9, 3), (9, 4), (9, 5), (9, 6), (9, 7), (9, 8), (9, 9), (9, 10), (9, 11), (9, 12), (9, 13), (9, 14), (9, 15), (9, 16), (9, 17), (9, 18), (9, 19), (9, 20), (9, 21), (9, 22), (9, 23), (10, 0), (10, 1), (10, 2), (10, 3), (10, 4), (10, 5), (10, 6), (10, 7), (10, 8), (10, 9), (10, 10), (10, 11), (10, 12), (10, 13), (10, 14), (10, 15), (10, 16), (10, 17), (10, 18), (10, 19), (10, 20), (10, 21), (10, 22), (10, 23), (11, 0), (11, 1), (11, 2), (11, 3), (11, 4), (11, 5), (11, 6), (11, 7), (11, 8), (11, 9), (12, 3), (12, 4), (12, 5), (12, 6), (12, 7), (12, 8), (12, 9), (12, 10)] rfl gw_wsX0_digits
set_option maxRecDepth 20000 in
theorem gX0_between_X0_digits : GoodIn wsX0_between (va_wsS RX0 80 yX0_digits wsX0_digits) := goodIn_app (goodIn_k _ wcX0_between_eq [(1, 23), (2, 0), (1, 2)] rfl (by decide +kernel)) ggX0_between_X0_digits
def wcX0_order : List (List Cond) := [[.code yX0_order cX0_order 3 (some (.object "java/lang/String"))], wsX0_order_r1, wsX0_order_r2, wsX0_order_r3, wsX0_order_r4, wsX0_order_r5, wsX0_order_r6, wsX0_order_r7, wsX0_order_r8, wsX0_order_r9, wsX0_order_r10, (wsJ40 ++ wsX00 ++ wsJ00 : List Cond)]
theorem wcX0_order_eq : wsX0_order = wcX0_order.flatten := by simp only [wsX0_order, wcX0_order, List.flatten_cons, List.flatten_nil, List.append_assoc, List.append_nil, List.cons_append, List.nil_append]
set_option maxRecDepth 20000 in
theorem ggX0_order_J4_init_da8c8 : GoodIn wsX0_order wsJ4_init_da8c8 := goodIn_k _ wcX0_order_eq [(1, 5), (1, 6), (1, 7), (1, 8), (1, 9), (1, 10), (1, 11), (1, 12), (1, 13), (1, 14), (1, 15), (1, 16), (1, 17), (1, 18), (1, 19), (1, 20), (1, 21), (1, 22), (1, 23), (2, 0), (11, 0), (11, 1), (11, 2), (11, 3)] rfl gw_wsJ4_init_da8c8
set_option maxRecDepth 20000 in
theorem gX0_order_J4_init_da8c8 : GoodIn wsX0_order (wsJ4_init_da8c8) := ggX0_order_J4_init_da8c8
set_option maxRecDepth 20000 in
theorem ggX0_order_J4_append_cf468 : GoodIn wsX0_order wsJ4_append_cf468 := goodIn_k _ wcX0_order_eq [(2, 4), (2, 5), (2, 6), (2, 7), (2, 8), (1, 8), (2, 9), (2, 10), (1, 15), (2, 11), (2, 12), (2, 13), (2, 14), (2, 15), (1, 16), (2, 16), (2, 17), (2, 18), (2, 19), (2, 20), (2, 21), (2, 22), (2, 23), (3, 0), (3, 1), (3, 2), (3, 3), (3, 4), (3, 5), (3, 6), (3, 7), (3, 8), (3, 9), (3, 10), (3, 11), (3, 12), (3, 13), (3, 14), (3, 15), (3, 16), (3, 17), (3, 18), (3, 19), (1, 14), (3, 20), (3, 21), (3, 22), (3, 23), (4, 0), (4, 1), (4, 2), (4, 3), (4, 4), (4, 5), (4, 6), (4, 7), (1, 13), (4, 8), (4, 9), (4, 10), (4, 11), (4, 12), (4, 13), (4, 14), (4, 15), (4, 16), (1, 17), (1, 18), (1, 19), (1, 20), (1, 21), (1, 22), (1, 23), (2, 0), (4, 17), (4, 18), (4, 19), (4, 20), (4, 21), (4, 22), (4, 23), (5, 0), (5, 1), (5, 2), (5, 3), (5, 4), (5, 5), (5, 6), (5, 7), (5, 8), (5, 9), (5, 10), (5, 11), (5, 12), (5, 13), (5, 14), (5, 15), (5, 16), (5, 17), (5, 18), (5, 19), (5, 20), (5, 21), (5, 22), (5, 23), (6, 0), (6, 1), (6, 2), (6, 3), (6, 4), (6, 5), (6, 6), (6, 7), (11, 0), (11, 1), (11, 2), (11, 3)] rfl gw_wsJ4_append_cf468
set_option maxRecDepth 20000 in
theorem gX0_order_J4_append_cf468 : GoodIn wsX0_order (wsV RX0 91 RJ4 yJ4_append_cf468 wsJ4_append_cf468) := goodIn_app (goodIn_k _ wcX0_order_eq [(2, 1), (2, 2), (2, 3), (1, 2)] rfl (by decide +kernel)) ggX0_order_J4_append_cf468
set_option maxRecDepth 20000 in
theorem gw_wsX0_clockAtPlace : wsX0_clockAtPlace.all goodWord = true := by decide +kernel
set_option maxRecDepth 20000 in
theorem ggX0_order_X0_clockAtPlace : GoodIn wsX0_order wsX0_clockAtPlace := goodIn_k _ wcX0_order_eq [(6, 12), (6, 13), (6, 14), (6, 15), (6, 11), (6, 16), (6, 17), (6, 18), (6, 19), (6, 20), (6, 21), (11, 4), (11, 5), (11, 6)] rfl gw_wsX0_clockAtPlace
set_option maxRecDepth 20000 in
theorem gX0_order_X0_clockAtPlace : GoodIn wsX0_order (wsV RX0 106 RX0 yX0_clockAtPlace wsX0_clockAtPlace) := goodIn_app (goodIn_k _ wcX0_order_eq [(6, 8), (6, 9), (6, 10), (6, 11)] rfl (by decide +kernel)) ggX0_order_X0_clockAtPlace
set_option maxRecDepth 20000 in
theorem ggX0_order_J4_append_bf812 : GoodIn wsX0_order wsJ4_append_bf812 := goodIn_k _ wcX0_order_eq [(7, 1), (7, 2), (7, 3), (2, 7), (7, 4), (1, 8), (7, 5), (2, 10), (1, 15), (7, 6), (7, 7), (7, 8), (7, 9), (2, 11), (2, 12), (2, 13), (2, 14), (2, 15), (1, 16), (2, 16), (2, 17), (2, 18), (2, 19), (2, 20), (2, 21), (2, 22), (2, 23), (3, 0), (3, 1), (3, 2), (3, 3), (3, 4), (3, 5), (3, 6), (3, 7), (3, 8), (3, 9), (3, 10), (3, 11), (3, 12), (3, 13), (3, 14), (3, 15), (3, 16), (3, 17), (3, 18), (3, 19), (1, 14), (3, 20), (3, 21), (3, 22), (3, 23), (4, 0), (4, 1), (4, 2), (4, 3), (4, 4), (4, 5), (4, 6), (4, 7), (1, 13), (7, 10), (7, 11), (7, 12), (7, 13), (7, 14), (7, 15), (7, 16), (1, 19), (7, 17), (5, 17), (7, 18), (7, 19), (7, 20), (5, 2), (5, 3), (5, 4), (7, 21), (7, 22), (5, 7), (7, 23), (5, 9), (8, 0), (8, 1), (5, 12), (8, 2), (8, 3), (8, 4), (8, 5), (8, 6), (8, 7), (5, 14), (5, 15), (5, 16), (5, 18), (5, 19), (11, 0), (11, 1), (11, 2), (11, 3)] rfl gw_wsJ4_append_bf812
set_option maxRecDepth 20000 in
theorem gX0_order_J4_append_bf812 : GoodIn wsX0_order (wsV RX0 87 RJ4 yJ4_append_bf812 wsJ4_append_bf812) := goodIn_app (goodIn_k _ wcX0_order_eq [(6, 22), (6, 23), (7, 0), (1, 2)] rfl (by decide +kernel)) ggX0_order_J4_append_bf812
set_option maxRecDepth 20000 in
theorem ggX0_order_J4_toString_0e30d : GoodIn wsX0_order wsJ4_toString_0e30d := goodIn_k _ wcX0_order_eq [(8, 11), (8, 12), (8, 13), (5, 7), (8, 14), (8, 15), (8, 16), (8, 17), (8, 18), (8, 19), (8, 20), (1, 11), (1, 12), (8, 21), (8, 22), (8, 23), (9, 0), (9, 1), (9, 2), (9, 3), (9, 4), (1, 8), (9, 5), (1, 15), (9, 6), (9, 7), (9, 8), (9, 9), (9, 10), (1, 2), (9, 11), (9, 12), (2, 7), (9, 13), (9, 14), (2, 10), (9, 15), (4, 4), (4, 5), (4, 6), (4, 7), (1, 13), (1, 16), (9, 16), (9, 17), (3, 12), (9, 18), (3, 14), (3, 15), (3, 16), (3, 17), (3, 18), (3, 19), (9, 19), (9, 20), (9, 21), (1, 14), (3, 20), (3, 21), (3, 4), (3, 22), (3, 23), (4, 0), (4, 1), (4, 2), (9, 22), (9, 23), (10, 0), (10, 1), (1, 1), (10, 2), (10, 3), (1, 19), (10, 4), (10, 5), (10, 6), (10, 7), (4, 23), (5, 0), (5, 1), (5, 2), (5, 3), (5, 4), (5, 5), (5, 6), (5, 8), (5, 9), (5, 10), (5, 11), (5, 12), (5, 13), (10, 8), (10, 9), (10, 10), (5, 17), (5, 18), (5, 19), (1, 21), (1, 22), (1, 23), (2, 0), (10, 11), (10, 12), (10, 13), (10, 14), (11, 7), (11, 8), (11, 9), (11, 10), (11, 0), (11, 1), (11, 2), (11, 3)] rfl gw_wsJ4_toString_0e30d
set_option maxRecDepth 20000 in
theorem gX0_order_J4_toString_0e30d : GoodIn wsX0_order (wsV RX0 94 RJ4 yJ4_toString_0e30d wsJ4_toString_0e30d) := goodIn_app (goodIn_k _ wcX0_order_eq [(8, 8), (8, 9), (8, 10), (1, 2)] rfl (by decide +kernel)) ggX0_order_J4_toString_0e30d
set_option maxRecDepth 20000 in
theorem gw_wsX0_isUnlikeEarlier : wsX0_isUnlikeEarlier.all goodWord = true := by decide +kernel
set_option maxRecDepth 20000 in
theorem ggX0_kinds_X0_isUnlikeEarlier : GoodIn wsX0_kinds wsX0_isUnlikeEarlier := goodIn_r _ [5, 6, 7, 8, 4, 9, 10, 11, 12, 13] rfl gw_wsX0_isUnlikeEarlier
set_option maxRecDepth 20000 in
theorem gX0_kinds_X0_isUnlikeEarlier : GoodIn wsX0_kinds (wsV RX0 110 RX0 yX0_isUnlikeEarlier wsX0_isUnlikeEarlier) := goodIn_app (goodIn_r _ [1, 2, 3, 4] rfl (by decide +kernel)) ggX0_kinds_X0_isUnlikeEarlier
def wcX0_isSound : List (List Cond) := [[.code yX0_isSound cX0_isSound 5 (some .boolean)], wsX0_isSound_r1, wsX0_isSound_r2, wsX0_isSound_r3, (wsX00 : List Cond)]
theorem wcX0_isSound_eq : wsX0_isSound = wcX0_isSound.flatten := by simp only [wsX0_isSound, wcX0_isSound, List.flatten_cons, List.flatten_nil, List.append_assoc, List.append_nil, List.cons_append, List.nil_append]
set_option maxRecDepth 20000 in
theorem ggX0_isSound_X0_numberOf : GoodIn wsX0_isSound wsX0_numberOf := goodIn_k _ wcX0_isSound_eq [(1, 4), (1, 5), (4, 0), (4, 1), (4, 2)] rfl gw_wsX0_numberOf
set_option maxRecDepth 20000 in
theorem gX0_isSound_X0_numberOf : GoodIn wsX0_isSound (wsV RX0 41 RX0 yX0_numberOf wsX0_numberOf) := goodIn_app (goodIn_k _ wcX0_isSound_eq [(1, 0), (1, 1), (1, 2), (1, 3)] rfl (by decide +kernel)) ggX0_isSound_X0_numberOf
set_option maxRecDepth 20000 in
theorem gw_wsX0_partsBelong : wsX0_partsBelong.all goodWord = true := by decide +kernel
set_option maxRecDepth 20000 in
theorem ggX0_isSound_X0_partsBelong : GoodIn wsX0_isSound wsX0_partsBelong := goodIn_k _ wcX0_isSound_eq [(1, 8), (1, 9), (1, 10), (1, 11), (1, 12), (1, 3), (1, 13), (1, 14), (1, 15), (1, 16), (1, 17), (1, 18), (1, 19), (1, 20), (1, 21), (1, 22), (1, 23), (2, 0), (2, 1)] rfl gw_wsX0_partsBelong
set_option maxRecDepth 20000 in
theorem gX0_isSound_X0_partsBelong : GoodIn wsX0_isSound (va_wsS RX0 116 yX0_partsBelong wsX0_partsBelong) := goodIn_app (goodIn_k _ wcX0_isSound_eq [(1, 6), (1, 7), (1, 3)] rfl (by decide +kernel)) ggX0_isSound_X0_partsBelong
set_option maxRecDepth 20000 in
theorem gw_wsX0_stepsHold : wsX0_stepsHold.all goodWord = true := by decide +kernel
set_option maxRecDepth 20000 in
theorem ggX0_isSound_X0_stepsHold : GoodIn wsX0_isSound wsX0_stepsHold := goodIn_k _ wcX0_isSound_eq [(2, 4), (2, 5), (2, 6), (2, 7), (1, 3), (2, 8), (2, 9), (2, 10), (2, 11), (2, 12), (2, 13), (2, 14), (2, 15), (1, 22), (1, 23), (2, 0), (2, 1), (2, 16), (2, 17), (2, 18), (2, 19), (2, 20), (2, 21), (2, 22), (1, 10), (2, 23)] rfl gw_wsX0_stepsHold
set_option maxRecDepth 20000 in
theorem gX0_isSound_X0_stepsHold : GoodIn wsX0_isSound (va_wsS RX0 120 yX0_stepsHold wsX0_stepsHold) := goodIn_app (goodIn_k _ wcX0_isSound_eq [(2, 2), (2, 3), (1, 3)] rfl (by decide +kernel)) ggX0_isSound_X0_stepsHold
set_option maxRecDepth 20000 in
theorem gw_wsX0_cutsHold : wsX0_cutsHold.all goodWord = true := by decide +kernel
set_option maxRecDepth 20000 in
theorem ggX0_isSound_X0_cutsHold : GoodIn wsX0_isSound wsX0_cutsHold := goodIn_k _ wcX0_isSound_eq [(3, 2), (1, 22), (1, 23), (1, 3), (2, 0), (2, 1), (1, 19), (1, 20), (1, 21)] rfl gw_wsX0_cutsHold
set_option maxRecDepth 20000 in
theorem gX0_isSound_X0_cutsHold : GoodIn wsX0_isSound (va_wsS RX0 123 yX0_cutsHold wsX0_cutsHold) := goodIn_app (goodIn_k _ wcX0_isSound_eq [(3, 0), (3, 1), (1, 3)] rfl (by decide +kernel)) ggX0_isSound_X0_cutsHold
set_option maxRecDepth 20000 in
theorem gw_wsX0_pairHolds : wsX0_pairHolds.all goodWord = true := by decide +kernel
set_option maxRecDepth 20000 in
theorem ggX0_isSound_X0_pairHolds : GoodIn wsX0_isSound wsX0_pairHolds := goodIn_k _ wcX0_isSound_eq [(3, 5), (3, 6), (3, 7), (1, 3), (3, 8), (1, 11), (1, 12), (1, 13), (1, 10), (3, 9), (3, 10), (3, 11), (3, 12), (3, 13), (3, 14), (1, 22), (1, 23), (2, 0), (2, 1), (3, 15), (3, 16), (3, 17), (3, 18), (3, 19), (3, 20), (3, 21), (2, 12), (2, 13), (2, 14), (2, 15), (2, 16), (2, 17), (2, 18), (2, 19)] rfl gw_wsX0_pairHolds
set_option maxRecDepth 20000 in
theorem gX0_isSound_X0_pairHolds : GoodIn wsX0_isSound (va_wsS RX0 126 yX0_pairHolds wsX0_pairHolds) := goodIn_app (goodIn_k _ wcX0_isSound_eq [(3, 3), (3, 4), (1, 3)] rfl (by decide +kernel)) ggX0_isSound_X0_pairHolds
def wcX0_digest : List (List Cond) := [[.code yX0_digest cX0_digest 5 (some .long)], wsX0_digest_r1, wsX0_digest_r2, wsX0_digest_r3, wsX0_digest_r4, wsX0_digest_r5, wsX0_digest_r6, wsX0_digest_r7, wsX0_digest_r8, wsX0_digest_r9, wsX0_digest_r10, wsX0_digest_r11, wsX0_digest_r12, wsX0_digest_r13, wsX0_digest_r14, wsX0_digest_r15, (wsX00 ++ wsJ40 ++ wsJ00 : List Cond)]
theorem wcX0_digest_eq : wsX0_digest = wcX0_digest.flatten := by simp only [wsX0_digest, wcX0_digest, List.flatten_cons, List.flatten_nil, List.append_assoc, List.append_nil, List.cons_append, List.nil_append]
set_option maxRecDepth 20000 in
theorem ggX0_digest_X0_numberOf : GoodIn wsX0_digest wsX0_numberOf := goodIn_k _ wcX0_digest_eq [(1, 8), (1, 9), (16, 0), (16, 1), (16, 2)] rfl gw_wsX0_numberOf
set_option maxRecDepth 20000 in
theorem gX0_digest_X0_numberOf : GoodIn wsX0_digest (wsV RX0 41 RX0 yX0_numberOf wsX0_numberOf) := goodIn_app (goodIn_k _ wcX0_digest_eq [(1, 4), (1, 5), (1, 6), (1, 7)] rfl (by decide +kernel)) ggX0_digest_X0_numberOf
set_option maxRecDepth 20000 in
theorem gw_wsX0_digestClock : wsX0_digestClock.all goodWord = true := by decide +kernel
set_option maxRecDepth 20000 in
theorem ggX0_digest_X0_digestClock : GoodIn wsX0_digest wsX0_digestClock := goodIn_k _ wcX0_digest_eq [(1, 12), (1, 1), (1, 13), (1, 14), (1, 7), (1, 15), (1, 16)] rfl gw_wsX0_digestClock
set_option maxRecDepth 20000 in
theorem gX0_digest_X0_digestClock : GoodIn wsX0_digest (va_wsS RX0 134 yX0_digestClock wsX0_digestClock) := goodIn_app (goodIn_k _ wcX0_digest_eq [(1, 10), (1, 11), (1, 7)] rfl (by decide +kernel)) ggX0_digest_X0_digestClock
set_option maxRecDepth 20000 in
theorem gw_wsX0_digestPair : wsX0_digestPair.all goodWord = true := by decide +kernel
set_option maxRecDepth 20000 in
theorem ggX0_digest_X0_digestPair : GoodIn wsX0_digest wsX0_digestPair := goodIn_k _ wcX0_digest_eq [(1, 19), (1, 1), (1, 20), (1, 21), (1, 7), (1, 22), (1, 23), (2, 0), (2, 1), (2, 2), (2, 3), (2, 4), (2, 5)] rfl gw_wsX0_digestPair
set_option maxRecDepth 20000 in
theorem gX0_digest_X0_digestPair : GoodIn wsX0_digest (va_wsS RX0 138 yX0_digestPair wsX0_digestPair) := goodIn_app (goodIn_k _ wcX0_digest_eq [(1, 17), (1, 18), (1, 7)] rfl (by decide +kernel)) ggX0_digest_X0_digestPair
set_option maxRecDepth 20000 in
theorem gw_wsX0_kinds : wsX0_kinds.all goodWord = true := by decide +kernel
set_option maxRecDepth 20000 in
theorem ggX0_digest_X0_kinds : GoodIn wsX0_digest wsX0_kinds := goodIn_k _ wcX0_digest_eq [(2, 9), (2, 10), (2, 11), (2, 12), (1, 7), (2, 13), (1, 4), (1, 5), (1, 6), (1, 8), (1, 9), (16, 0), (16, 1), (16, 2)] rfl gw_wsX0_kinds
set_option maxRecDepth 20000 in
theorem gX0_digest_X0_kinds : GoodIn wsX0_digest (wsV RX0 142 RX0 yX0_kinds wsX0_kinds) := goodIn_app (goodIn_k _ wcX0_digest_eq [(2, 6), (2, 7), (2, 8), (1, 7)] rfl (by decide +kernel)) ggX0_digest_X0_kinds
set_option maxRecDepth 20000 in
theorem gw_wsX0_order : wsX0_order.all goodWord = true := by decide +kernel
set_option maxRecDepth 20000 in
theorem ggX0_digest_X0_order : GoodIn wsX0_digest wsX0_order := goodIn_k _ wcX0_digest_eq [(2, 17), (2, 18), (2, 19), (2, 20), (2, 21), (2, 22), (2, 23), (3, 0), (3, 1), (3, 2), (3, 3), (3, 4), (3, 5), (3, 6), (3, 7), (3, 8), (3, 9), (3, 10), (3, 11), (3, 12), (3, 13), (3, 14), (3, 15), (3, 16), (3, 17), (3, 18), (3, 19), (3, 20), (3, 21), (3, 22), (3, 23), (4, 0), (4, 1), (4, 2), (4, 3), (4, 4), (4, 5), (4, 6), (4, 7), (4, 8), (4, 9), (4, 10), (4, 11), (4, 12), (4, 13), (4, 14), (4, 15), (4, 16), (4, 17), (4, 18), (4, 19), (4, 20), (4, 21), (4, 22), (4, 23), (5, 0), (5, 1), (5, 2), (5, 3), (5, 4), (5, 5), (5, 6), (5, 7), (5, 8), (5, 9), (5, 10), (5, 11), (5, 12), (5, 13), (5, 14), (5, 15), (5, 16), (5, 17), (5, 18), (5, 19), (5, 20), (5, 21), (5, 22), (5, 23), (6, 0), (6, 1), (6, 2), (6, 3), (6, 4), (6, 5), (6, 6), (6, 7), (6, 8), (6, 9), (6, 10), (6, 11), (6, 12), (6, 13), (6, 14), (6, 15), (6, 16), (6, 17), (6, 18), (6, 19), (6, 20), (6, 21), (6, 22), (6, 23), (7, 0), (7, 1), (7, 2), (7, 3), (7, 4), (7, 5), (7, 6), (7, 7), (7, 8), (7, 9), (7, 10), (7, 11), (7, 12), (7, 13), (7, 14), (7, 15), (7, 16), (7, 17), (7, 18), (7, 19), (7, 20), (7, 21), (7, 22), (7, 23), (8, 0), (8, 1), (8, 2), (8, 3), (8, 4), (1, 7), (8, 5), (8, 6), (8, 7), (8, 8), (8, 9), (1, 4), (1, 5), (1, 6), (1, 8), (1, 9), (8, 10), (8, 11), (8, 12), (8, 13), (8, 14), (8, 15), (8, 16), (8, 17), (8, 18), (8, 19), (8, 20), (8, 21), (8, 22), (8, 23), (9, 0), (9, 1), (9, 2), (9, 3), (9, 4), (9, 5), (9, 6), (9, 7), (9, 8), (9, 9), (9, 10), (9, 11), (9, 12), (9, 13), (9, 14), (9, 15), (9, 16), (9, 17), (9, 18), (9, 19), (9, 20), (9, 21), (9, 22), (9, 23), (10, 0), (10, 1), (10, 2), (10, 3), (10, 4), (10, 5), (10, 6), (10, 7), (10, 8), (10, 9), (10, 10), (10, 11), (10, 12), (10, 13), (10, 14), (10, 15), (10, 16), (10, 17), (10, 18), (10, 19), (10, 20), (10, 21), (10, 22), (10, 23), (11, 0), (11, 1), (11, 2), (11, 3), (11, 4), (11, 5), (11, 6), (11, 7), (11, 8), (11, 9), (11, 10), (11, 11), (11, 12), (11, 13), (11, 14), (11, 15), (11, 16), (11, 17), (11, 18), (11, 19), (11, 20), (11, 21), (11, 22), (11, 23), (12, 0), (12, 1), (12, 2), (16, 3), (16, 4), (16, 5), (16, 6), (16, 0), (16, 1), (16, 2), (16, 7), (16, 8), (16, 9), (16, 10)] rfl gw_wsX0_order
set_option maxRecDepth 20000 in
theorem gX0_digest_X0_order : GoodIn wsX0_digest (wsV RX0 146 RX0 yX0_order wsX0_order) := goodIn_app (goodIn_k _ wcX0_digest_eq [(2, 14), (2, 15), (2, 16), (1, 7)] rfl (by decide +kernel)) ggX0_digest_X0_order
set_option maxRecDepth 20000 in
theorem gw_wsJ0_length_8abf5 : wsJ0_length_8abf5.all goodWord = true := by decide +kernel
set_option maxRecDepth 20000 in
theorem ggX0_digest_J0_length_8abf5 : GoodIn wsX0_digest wsJ0_length_8abf5 := goodIn_k _ wcX0_digest_eq [(12, 6), (10, 10), (12, 7), (12, 8), (12, 9), (7, 1), (12, 10), (10, 11), (10, 9), (16, 7), (16, 8), (16, 9), (16, 10)] rfl gw_wsJ0_length_8abf5
set_option maxRecDepth 20000 in
theorem gX0_digest_J0_length_8abf5 : GoodIn wsX0_digest (wsV RX0 149 RJ0 yJ0_length_8abf5 wsJ0_length_8abf5) := goodIn_app (goodIn_k _ wcX0_digest_eq [(12, 3), (12, 4), (12, 5), (7, 1)] rfl (by decide +kernel)) ggX0_digest_J0_length_8abf5
set_option maxRecDepth 20000 in
theorem gw_wsJ0_charAt_5068e : wsJ0_charAt_5068e.all goodWord = true := by decide +kernel
set_option maxRecDepth 20000 in
theorem ggX0_digest_J0_charAt_5068e : GoodIn wsX0_digest wsJ0_charAt_5068e := goodIn_k _ wcX0_digest_eq [(12, 14), (10, 10), (12, 15), (12, 16), (12, 17), (7, 1), (12, 18), (10, 11), (10, 9), (12, 19), (12, 20), (6, 4), (12, 21), (12, 22), (7, 21), (7, 22), (7, 3), (7, 23), (8, 0), (7, 6), (8, 1), (12, 23), (13, 0), (3, 13), (13, 1), (7, 17), (7, 18), (7, 19), (6, 20), (6, 21), (6, 22), (7, 20), (11, 20), (11, 21), (11, 22), (7, 11), (7, 12), (7, 13), (16, 7), (16, 8), (16, 9), (16, 10)] rfl gw_wsJ0_charAt_5068e
set_option maxRecDepth 20000 in
theorem gX0_digest_J0_charAt_5068e : GoodIn wsX0_digest (wsV RX0 154 RJ0 yJ0_charAt_5068e wsJ0_charAt_5068e) := goodIn_app (goodIn_k _ wcX0_digest_eq [(12, 11), (12, 12), (12, 13), (7, 1)] rfl (by decide +kernel)) ggX0_digest_J0_charAt_5068e
set_option maxRecDepth 20000 in
theorem gw_wsX0_isSound : wsX0_isSound.all goodWord = true := by decide +kernel
set_option maxRecDepth 20000 in
theorem ggX0_digest_X0_isSound : GoodIn wsX0_digest wsX0_isSound := goodIn_k _ wcX0_digest_eq [(13, 5), (1, 4), (1, 5), (1, 6), (1, 7), (1, 8), (1, 9), (13, 6), (13, 7), (13, 8), (13, 9), (1, 16), (1, 13), (1, 14), (1, 15), (13, 10), (13, 11), (13, 12), (13, 13), (13, 14), (13, 15), (13, 16), (13, 17), (2, 2), (2, 3), (2, 4), (2, 5), (13, 18), (13, 19), (13, 20), (13, 21), (13, 22), (13, 23), (14, 0), (14, 1), (14, 2), (14, 3), (14, 4), (14, 5), (14, 6), (14, 7), (14, 8), (14, 9), (14, 10), (14, 11), (14, 12), (14, 13), (14, 14), (14, 15), (14, 16), (14, 17), (14, 18), (14, 19), (14, 20), (14, 21), (14, 22), (14, 23), (15, 0), (1, 20), (1, 21), (1, 22), (1, 23), (2, 0), (2, 1), (15, 1), (15, 2), (15, 3), (15, 4), (15, 5), (4, 22), (15, 6), (16, 0), (16, 1), (16, 2)] rfl gw_wsX0_isSound
set_option maxRecDepth 20000 in
theorem gX0_digest_X0_isSound : GoodIn wsX0_digest (wsV RX0 158 RX0 yX0_isSound wsX0_isSound) := goodIn_app (goodIn_k _ wcX0_digest_eq [(13, 2), (13, 3), (13, 4), (1, 7)] rfl (by decide +kernel)) ggX0_digest_X0_isSound
set_option maxRecDepth 20000 in
theorem gw_wsX0_isStepUnit : wsX0_isStepUnit.all goodWord = true := by decide +kernel
set_option maxRecDepth 20000 in
theorem ggX0_needStepUnit_X0_isStepUnit : GoodIn wsX0_needStepUnit wsX0_isStepUnit := goodIn_r _ [6] rfl gw_wsX0_isStepUnit
set_option maxRecDepth 20000 in
theorem gX0_needStepUnit_X0_isStepUnit : GoodIn wsX0_needStepUnit (va_wsS RX0 180 yX0_isStepUnit wsX0_isStepUnit) := goodIn_app (goodIn_r _ [3, 4, 5] rfl (by decide +kernel)) ggX0_needStepUnit_X0_isStepUnit
set_option maxRecDepth 20000 in
theorem ggX0_settle_X0_partOf : GoodIn wsX0_settle wsX0_partOf := goodIn_r _ [6, 7] rfl gw_wsX0_partOf
set_option maxRecDepth 20000 in
theorem gX0_settle_X0_partOf : GoodIn wsX0_settle (va_wsS RX0 45 yX0_partOf wsX0_partOf) := goodIn_app (goodIn_r _ [3, 4, 5] rfl (by decide +kernel)) ggX0_settle_X0_partOf
set_option maxRecDepth 20000 in
theorem gw_wsX0_placeOf : wsX0_placeOf.all goodWord = true := by decide +kernel
set_option maxRecDepth 20000 in
theorem ggX0_clockAtPlace_X0_placeOf : GoodIn wsX0_clockAtPlace wsX0_placeOf := goodIn_r _ [5, 6, 7, 8, 4, 9, 10, 11, 12, 13] rfl gw_wsX0_placeOf
set_option maxRecDepth 20000 in
theorem gX0_clockAtPlace_X0_placeOf : GoodIn wsX0_clockAtPlace (wsV RX0 185 RX0 yX0_placeOf wsX0_placeOf) := goodIn_app (goodIn_r _ [1, 2, 3, 4] rfl (by decide +kernel)) ggX0_clockAtPlace_X0_placeOf
set_option maxRecDepth 20000 in
theorem ggX0_placeOf_X0_numberOf : GoodIn wsX0_placeOf wsX0_numberOf := goodIn_r _ [5, 6, 7, 8, 9] rfl gw_wsX0_numberOf
set_option maxRecDepth 20000 in
theorem gX0_placeOf_X0_numberOf : GoodIn wsX0_placeOf (wsV RX0 41 RX0 yX0_numberOf wsX0_numberOf) := goodIn_app (goodIn_r _ [1, 2, 3, 4] rfl (by decide +kernel)) ggX0_placeOf_X0_numberOf
set_option maxRecDepth 20000 in
theorem ggX0_isUnlikeEarlier_X0_numberOf : GoodIn wsX0_isUnlikeEarlier wsX0_numberOf := goodIn_r _ [5, 6, 7, 8, 9] rfl gw_wsX0_numberOf
set_option maxRecDepth 20000 in
theorem gX0_isUnlikeEarlier_X0_numberOf : GoodIn wsX0_isUnlikeEarlier (wsV RX0 41 RX0 yX0_numberOf wsX0_numberOf) := goodIn_app (goodIn_r _ [1, 2, 3, 4] rfl (by decide +kernel)) ggX0_isUnlikeEarlier_X0_numberOf
set_option maxRecDepth 20000 in
theorem gw_wsX0_unitNanos : wsX0_unitNanos.all goodWord = true := by decide +kernel
set_option maxRecDepth 20000 in
theorem ggX0_putOn_X0_unitNanos : GoodIn wsX0_putOn wsX0_unitNanos := goodIn_r _ [5, 6] rfl gw_wsX0_unitNanos
set_option maxRecDepth 20000 in
theorem gX0_putOn_X0_unitNanos : GoodIn wsX0_putOn (va_wsS RX0 198 yX0_unitNanos wsX0_unitNanos) := goodIn_app (goodIn_r _ [2, 3, 4] rfl (by decide +kernel)) ggX0_putOn_X0_unitNanos
set_option maxRecDepth 20000 in
theorem gw_wsJ9_floorMod_f86c9 : wsJ9_floorMod_f86c9.all goodWord = true := by decide +kernel
set_option maxRecDepth 20000 in
theorem ggX0_putOn_J9_floorMod_f86c9 : GoodIn wsX0_putOn wsJ9_floorMod_f86c9 := goodIn_r _ [10] rfl gw_wsJ9_floorMod_f86c9
set_option maxRecDepth 20000 in
theorem gX0_putOn_J9_floorMod_f86c9 : GoodIn wsX0_putOn (va_wsS RX0 203 yJ9_floorMod_f86c9 wsJ9_floorMod_f86c9) := goodIn_app (goodIn_r _ [7, 8, 9] rfl (by decide +kernel)) ggX0_putOn_J9_floorMod_f86c9
set_option maxRecDepth 20000 in
theorem ggX0_cutNumber_X0_unitNanos : GoodIn wsX0_cutNumber wsX0_unitNanos := goodIn_r _ [4, 5] rfl gw_wsX0_unitNanos
set_option maxRecDepth 20000 in
theorem gX0_cutNumber_X0_unitNanos : GoodIn wsX0_cutNumber (va_wsS RX0 198 yX0_unitNanos wsX0_unitNanos) := goodIn_app (goodIn_r _ [1, 2, 3] rfl (by decide +kernel)) ggX0_cutNumber_X0_unitNanos
set_option maxRecDepth 20000 in
theorem ggX0_unitsBetween_X0_unitNanos : GoodIn wsX0_unitsBetween wsX0_unitNanos := goodIn_r _ [4, 5] rfl gw_wsX0_unitNanos
set_option maxRecDepth 20000 in
theorem gX0_unitsBetween_X0_unitNanos : GoodIn wsX0_unitsBetween (va_wsS RX0 198 yX0_unitNanos wsX0_unitNanos) := goodIn_app (goodIn_r _ [1, 2, 3] rfl (by decide +kernel)) ggX0_unitsBetween_X0_unitNanos
def wcX0_digits : List (List Cond) := [[.code yX0_digits cX0_digits 6 (some (.object "java/lang/String"))], wsX0_digits_r1, wsX0_digits_r2, wsX0_digits_r3, wsX0_digits_r4, wsX0_digits_r5, wsX0_digits_r6, wsX0_digits_r7, wsX0_digits_r8, wsX0_digits_r9, wsX0_digits_r10, (wsJ40 ++ wsJ00 : List Cond)]
theorem wcX0_digits_eq : wsX0_digits = wcX0_digits.flatten := by simp only [wsX0_digits, wcX0_digits, List.flatten_cons, List.flatten_nil, List.append_assoc, List.append_nil, List.cons_append, List.nil_append]
set_option maxRecDepth 20000 in
theorem ggX0_digits_J4_init_da8c8 : GoodIn wsX0_digits wsJ4_init_da8c8 := goodIn_k _ wcX0_digits_eq [(1, 11), (1, 12), (1, 13), (1, 14), (1, 15), (1, 16), (1, 17), (1, 18), (1, 19), (1, 20), (1, 21), (1, 22), (1, 23), (2, 0), (2, 1), (2, 2), (2, 3), (2, 4), (2, 5), (2, 6), (11, 0), (11, 1), (11, 2), (11, 3)] rfl gw_wsJ4_init_da8c8
set_option maxRecDepth 20000 in
theorem gX0_digits_J4_init_da8c8 : GoodIn wsX0_digits (wsJ4_init_da8c8) := ggX0_digits_J4_init_da8c8
set_option maxRecDepth 20000 in
theorem ggX0_digits_J4_append_cf468 : GoodIn wsX0_digits wsJ4_append_cf468 := goodIn_k _ wcX0_digits_eq [(2, 10), (2, 11), (2, 12), (2, 13), (2, 14), (1, 14), (2, 15), (2, 16), (1, 21), (2, 17), (2, 18), (2, 19), (2, 20), (2, 21), (1, 22), (2, 22), (2, 23), (3, 0), (3, 1), (3, 2), (3, 3), (3, 4), (3, 5), (3, 6), (3, 7), (3, 8), (3, 9), (1, 5), (3, 10), (3, 11), (3, 12), (3, 13), (3, 14), (3, 15), (3, 16), (3, 17), (3, 18), (3, 19), (3, 20), (3, 21), (3, 22), (3, 23), (4, 0), (1, 20), (4, 1), (4, 2), (4, 3), (4, 4), (4, 5), (4, 6), (4, 7), (4, 8), (4, 9), (4, 10), (4, 11), (4, 12), (1, 19), (4, 13), (4, 14), (4, 15), (4, 16), (4, 17), (4, 18), (4, 19), (4, 20), (4, 21), (1, 23), (2, 0), (2, 1), (2, 2), (2, 3), (2, 4), (2, 5), (2, 6), (4, 22), (4, 23), (5, 0), (5, 1), (5, 2), (5, 3), (5, 4), (5, 5), (5, 6), (5, 7), (5, 8), (5, 9), (5, 10), (5, 11), (5, 12), (5, 13), (5, 14), (5, 15), (5, 16), (5, 17), (5, 18), (5, 19), (5, 20), (5, 21), (5, 22), (5, 23), (6, 0), (6, 1), (6, 2), (6, 3), (6, 4), (6, 5), (6, 6), (6, 7), (6, 8), (6, 9), (6, 10), (6, 11), (6, 12), (11, 0), (11, 1), (11, 2), (11, 3)] rfl gw_wsJ4_append_cf468
set_option maxRecDepth 20000 in
theorem gX0_digits_J4_append_cf468 : GoodIn wsX0_digits (wsV RX0 91 RJ4 yJ4_append_cf468 wsJ4_append_cf468) := goodIn_app (goodIn_k _ wcX0_digits_eq [(2, 7), (2, 8), (2, 9), (1, 2)] rfl (by decide +kernel)) ggX0_digits_J4_append_cf468
set_option maxRecDepth 20000 in
theorem gw_wsJ4_reverse_43fcb : wsJ4_reverse_43fcb.all goodWord = true := by decide +kernel
set_option maxRecDepth 20000 in
theorem ggX0_digits_J4_reverse_43fcb : GoodIn wsX0_digits wsJ4_reverse_43fcb := goodIn_k _ wcX0_digits_eq [(6, 16), (6, 17), (6, 18), (2, 13), (6, 19), (1, 14), (6, 20), (1, 21), (2, 16), (4, 8), (4, 9), (4, 10), (4, 11), (4, 12), (1, 19), (1, 22), (6, 21), (6, 22), (2, 1), (6, 23), (7, 0), (7, 1), (7, 2), (5, 7), (5, 8), (5, 9), (7, 3), (7, 4), (5, 12), (7, 5), (5, 14), (7, 6), (7, 7), (5, 17), (7, 8), (7, 9), (7, 10), (7, 11), (5, 22), (5, 23), (6, 0), (5, 19), (5, 20), (5, 21), (7, 12), (7, 13), (7, 14), (7, 15), (7, 16), (7, 17), (7, 18), (7, 19), (7, 20), (7, 21), (7, 22), (7, 23), (8, 0), (8, 1), (8, 2), (8, 3), (11, 0), (11, 1), (11, 2), (11, 3)] rfl gw_wsJ4_reverse_43fcb
set_option maxRecDepth 20000 in
theorem gX0_digits_J4_reverse_43fcb : GoodIn wsX0_digits (wsV RX0 216 RJ4 yJ4_reverse_43fcb wsJ4_reverse_43fcb) := goodIn_app (goodIn_k _ wcX0_digits_eq [(6, 13), (6, 14), (6, 15), (1, 2)] rfl (by decide +kernel)) ggX0_digits_J4_reverse_43fcb
set_option maxRecDepth 20000 in
theorem ggX0_digits_J4_toString_0e30d : GoodIn wsX0_digits wsJ4_toString_0e30d := goodIn_k _ wcX0_digits_eq [(8, 7), (8, 8), (8, 9), (5, 12), (8, 10), (8, 11), (8, 12), (8, 13), (8, 14), (8, 15), (8, 16), (1, 17), (1, 18), (8, 17), (8, 18), (8, 19), (8, 20), (8, 21), (8, 22), (8, 23), (9, 0), (1, 14), (9, 1), (1, 21), (9, 2), (9, 3), (9, 4), (9, 5), (9, 6), (1, 2), (9, 7), (9, 8), (2, 13), (9, 9), (9, 10), (2, 16), (9, 11), (4, 9), (4, 10), (4, 11), (4, 12), (1, 19), (1, 22), (9, 12), (9, 13), (3, 17), (9, 14), (3, 19), (3, 20), (3, 21), (3, 22), (3, 23), (4, 0), (9, 15), (9, 16), (9, 17), (1, 20), (4, 1), (4, 2), (1, 5), (4, 3), (4, 4), (4, 5), (4, 6), (4, 7), (9, 18), (9, 19), (9, 20), (9, 21), (1, 1), (9, 22), (9, 23), (2, 1), (10, 0), (10, 1), (10, 2), (10, 3), (5, 4), (5, 5), (5, 6), (5, 7), (5, 8), (5, 9), (5, 10), (5, 11), (5, 13), (5, 14), (5, 15), (5, 16), (5, 17), (5, 18), (7, 9), (7, 10), (7, 11), (5, 22), (5, 23), (6, 0), (2, 3), (2, 4), (2, 5), (2, 6), (10, 4), (10, 5), (10, 6), (10, 7), (11, 4), (11, 5), (11, 6), (11, 7), (11, 0), (11, 1), (11, 2), (11, 3)] rfl gw_wsJ4_toString_0e30d
set_option maxRecDepth 20000 in
theorem gX0_digits_J4_toString_0e30d : GoodIn wsX0_digits (wsV RX0 94 RJ4 yJ4_toString_0e30d wsJ4_toString_0e30d) := goodIn_app (goodIn_k _ wcX0_digits_eq [(8, 4), (8, 5), (8, 6), (1, 2)] rfl (by decide +kernel)) ggX0_digits_J4_toString_0e30d
set_option maxRecDepth 20000 in
theorem ggX0_partsBelong_X0_partOf : GoodIn wsX0_partsBelong wsX0_partOf := goodIn_r _ [6, 2] rfl gw_wsX0_partOf
set_option maxRecDepth 20000 in
theorem gX0_partsBelong_X0_partOf : GoodIn wsX0_partsBelong (va_wsS RX0 45 yX0_partOf wsX0_partOf) := goodIn_app (goodIn_r _ [3, 4, 5] rfl (by decide +kernel)) ggX0_partsBelong_X0_partOf
set_option maxRecDepth 20000 in
theorem ggX0_partsBelong_X0_numberOfParts : GoodIn wsX0_partsBelong wsX0_numberOfParts := goodIn_r _ [9, 10, 11, 2] rfl gw_wsX0_numberOfParts
set_option maxRecDepth 20000 in
theorem gX0_partsBelong_X0_numberOfParts : GoodIn wsX0_partsBelong (va_wsS RX0 28 yX0_numberOfParts wsX0_numberOfParts) := goodIn_app (goodIn_r _ [7, 8, 5] rfl (by decide +kernel)) ggX0_partsBelong_X0_numberOfParts
set_option maxRecDepth 20000 in
theorem ggX0_partsBelong_X0_cutNumber : GoodIn wsX0_partsBelong wsX0_cutNumber := goodIn_r _ [14, 15, 16, 5, 17, 18] rfl gw_wsX0_cutNumber
set_option maxRecDepth 20000 in
theorem gX0_partsBelong_X0_cutNumber : GoodIn wsX0_partsBelong (va_wsS RX0 74 yX0_cutNumber wsX0_cutNumber) := goodIn_app (goodIn_r _ [12, 13, 5] rfl (by decide +kernel)) ggX0_partsBelong_X0_cutNumber
set_option maxRecDepth 20000 in
theorem ggX0_stepsHold_X0_isStepUnit : GoodIn wsX0_stepsHold wsX0_isStepUnit := goodIn_r _ [5] rfl gw_wsX0_isStepUnit
set_option maxRecDepth 20000 in
theorem gX0_stepsHold_X0_isStepUnit : GoodIn wsX0_stepsHold (va_wsS RX0 180 yX0_isStepUnit wsX0_isStepUnit) := goodIn_app (goodIn_r _ [2, 3, 4] rfl (by decide +kernel)) ggX0_stepsHold_X0_isStepUnit
set_option maxRecDepth 20000 in
theorem gw_wsX0_stepHolds : wsX0_stepHolds.all goodWord = true := by decide +kernel
set_option maxRecDepth 20000 in
theorem ggX0_stepsHold_X0_stepHolds : GoodIn wsX0_stepsHold wsX0_stepHolds := goodIn_r _ [8, 9, 10, 4, 11, 12, 13, 14, 15, 16, 17, 18, 19, 20, 21, 22, 23, 24, 25] rfl gw_wsX0_stepHolds
set_option maxRecDepth 20000 in
theorem gX0_stepsHold_X0_stepHolds : GoodIn wsX0_stepsHold (va_wsS RX0 223 yX0_stepHolds wsX0_stepHolds) := goodIn_app (goodIn_r _ [6, 7, 4] rfl (by decide +kernel)) ggX0_stepsHold_X0_stepHolds
set_option maxRecDepth 20000 in
theorem ggX0_stepHolds_X0_putOn : GoodIn wsX0_stepHolds wsX0_putOn := goodIn_r _ [4, 5, 6, 7, 3, 8, 9, 10, 11, 12, 13] rfl gw_wsX0_putOn
set_option maxRecDepth 20000 in
theorem gX0_stepHolds_X0_putOn : GoodIn wsX0_stepHolds (va_wsS RX0 65 yX0_putOn wsX0_putOn) := goodIn_app (goodIn_r _ [1, 2, 3] rfl (by decide +kernel)) ggX0_stepHolds_X0_putOn
set_option maxRecDepth 20000 in
theorem gw_wsX0_reckonedOn : wsX0_reckonedOn.all goodWord = true := by decide +kernel
set_option maxRecDepth 20000 in
theorem ggX0_stepHolds_X0_reckonedOn : GoodIn wsX0_stepHolds wsX0_reckonedOn := goodIn_r _ [16, 17, 5, 18, 6, 7, 3, 8, 9] rfl gw_wsX0_reckonedOn
set_option maxRecDepth 20000 in
theorem gX0_stepHolds_X0_reckonedOn : GoodIn wsX0_stepHolds (va_wsS RX0 227 yX0_reckonedOn wsX0_reckonedOn) := goodIn_app (goodIn_r _ [14, 15, 3] rfl (by decide +kernel)) ggX0_stepHolds_X0_reckonedOn
set_option maxRecDepth 20000 in
theorem ggX0_reckonedOn_X0_unitNanos : GoodIn wsX0_reckonedOn wsX0_unitNanos := goodIn_r _ [7, 8] rfl gw_wsX0_unitNanos
set_option maxRecDepth 20000 in
theorem gX0_reckonedOn_X0_unitNanos : GoodIn wsX0_reckonedOn (va_wsS RX0 198 yX0_unitNanos wsX0_unitNanos) := goodIn_app (goodIn_r _ [4, 5, 6] rfl (by decide +kernel)) ggX0_reckonedOn_X0_unitNanos
set_option maxRecDepth 20000 in
theorem ggX0_cutsHold_X0_unitNanos : GoodIn wsX0_cutsHold wsX0_unitNanos := goodIn_r _ [4, 5] rfl gw_wsX0_unitNanos
set_option maxRecDepth 20000 in
theorem gX0_cutsHold_X0_unitNanos : GoodIn wsX0_cutsHold (va_wsS RX0 198 yX0_unitNanos wsX0_unitNanos) := goodIn_app (goodIn_r _ [1, 2, 3] rfl (by decide +kernel)) ggX0_cutsHold_X0_unitNanos
set_option maxRecDepth 20000 in
theorem ggX0_cutsHold_X0_cutNumber : GoodIn wsX0_cutsHold wsX0_cutNumber := goodIn_r _ [8, 1, 2, 3, 4, 5] rfl gw_wsX0_cutNumber
set_option maxRecDepth 20000 in
theorem gX0_cutsHold_X0_cutNumber : GoodIn wsX0_cutsHold (va_wsS RX0 74 yX0_cutNumber wsX0_cutNumber) := goodIn_app (goodIn_r _ [6, 7, 3] rfl (by decide +kernel)) ggX0_cutsHold_X0_cutNumber
set_option maxRecDepth 20000 in
theorem gw_wsX0_comparedByParts : wsX0_comparedByParts.all goodWord = true := by decide +kernel
set_option maxRecDepth 20000 in
theorem ggX0_pairHolds_X0_comparedByParts : GoodIn wsX0_pairHolds wsX0_comparedByParts := goodIn_r _ [4, 5, 6, 3, 7, 8, 9, 10, 11] rfl gw_wsX0_comparedByParts
set_option maxRecDepth 20000 in
theorem gX0_pairHolds_X0_comparedByParts : GoodIn wsX0_pairHolds (va_wsS RX0 232 yX0_comparedByParts wsX0_comparedByParts) := goodIn_app (goodIn_r _ [1, 2, 3] rfl (by decide +kernel)) ggX0_pairHolds_X0_comparedByParts
set_option maxRecDepth 20000 in
theorem ggX0_pairHolds_X0_sideOf : GoodIn wsX0_pairHolds wsX0_sideOf := goodIn_r _ [11] rfl gw_wsX0_sideOf
set_option maxRecDepth 20000 in
theorem gX0_pairHolds_X0_sideOf : GoodIn wsX0_pairHolds (va_wsS RX0 98 yX0_sideOf wsX0_sideOf) := goodIn_app (goodIn_r _ [9, 10, 3] rfl (by decide +kernel)) ggX0_pairHolds_X0_sideOf
set_option maxRecDepth 20000 in
theorem ggX0_pairHolds_X0_unitsBetween : GoodIn wsX0_pairHolds wsX0_unitsBetween := goodIn_r _ [14, 15, 16, 3, 17, 18] rfl gw_wsX0_unitsBetween
set_option maxRecDepth 20000 in
theorem gX0_pairHolds_X0_unitsBetween : GoodIn wsX0_pairHolds (va_wsS RX0 102 yX0_unitsBetween wsX0_unitsBetween) := goodIn_app (goodIn_r _ [12, 13, 3] rfl (by decide +kernel)) ggX0_pairHolds_X0_unitsBetween
set_option maxRecDepth 20000 in
theorem ggX0_pairHolds_X0_unitNanos : GoodIn wsX0_pairHolds wsX0_unitNanos := goodIn_r _ [17, 18] rfl gw_wsX0_unitNanos
set_option maxRecDepth 20000 in
theorem gX0_pairHolds_X0_unitNanos : GoodIn wsX0_pairHolds (va_wsS RX0 198 yX0_unitNanos wsX0_unitNanos) := goodIn_app (goodIn_r _ [15, 16, 3] rfl (by decide +kernel)) ggX0_pairHolds_X0_unitNanos
set_option maxRecDepth 20000 in
theorem gw_wsX0_betweenHolds : wsX0_betweenHolds.all goodWord = true := by decide +kernel
set_option maxRecDepth 20000 in
theorem ggX0_pairHolds_X0_betweenHolds : GoodIn wsX0_pairHolds wsX0_betweenHolds := goodIn_r _ [21, 22, 23, 24, 25] rfl gw_wsX0_betweenHolds
set_option maxRecDepth 20000 in
theorem gX0_pairHolds_X0_betweenHolds : GoodIn wsX0_pairHolds (va_wsS RX0 235 yX0_betweenHolds wsX0_betweenHolds) := goodIn_app (goodIn_r _ [19, 20, 3] rfl (by decide +kernel)) ggX0_pairHolds_X0_betweenHolds
set_option maxRecDepth 20000 in
theorem ggX0_pairHolds_X0_putOn : GoodIn wsX0_pairHolds wsX0_putOn := goodIn_r _ [28, 29, 15, 16, 3, 17, 18, 30, 31, 32, 33] rfl gw_wsX0_putOn
set_option maxRecDepth 20000 in
theorem gX0_pairHolds_X0_putOn : GoodIn wsX0_pairHolds (va_wsS RX0 65 yX0_putOn wsX0_putOn) := goodIn_app (goodIn_r _ [26, 27, 3] rfl (by decide +kernel)) ggX0_pairHolds_X0_putOn
set_option maxRecDepth 20000 in
theorem ggX0_comparedByParts_X0_partOf : GoodIn wsX0_comparedByParts wsX0_partOf := goodIn_r _ [4, 5] rfl gw_wsX0_partOf
set_option maxRecDepth 20000 in
theorem gX0_comparedByParts_X0_partOf : GoodIn wsX0_comparedByParts (va_wsS RX0 45 yX0_partOf wsX0_partOf) := goodIn_app (goodIn_r _ [1, 2, 3] rfl (by decide +kernel)) ggX0_comparedByParts_X0_partOf
set_option maxRecDepth 20000 in
theorem ggX0_comparedByParts_X0_sideOf : GoodIn wsX0_comparedByParts wsX0_sideOf := goodIn_r _ [8] rfl gw_wsX0_sideOf
set_option maxRecDepth 20000 in
theorem gX0_comparedByParts_X0_sideOf : GoodIn wsX0_comparedByParts (va_wsS RX0 98 yX0_sideOf wsX0_sideOf) := goodIn_app (goodIn_r _ [6, 7, 3] rfl (by decide +kernel)) ggX0_comparedByParts_X0_sideOf
set_option maxRecDepth 20000 in
theorem ggX0_digestClock_X0_partOf : GoodIn wsX0_digestClock wsX0_partOf := goodIn_r _ [5, 6] rfl gw_wsX0_partOf
set_option maxRecDepth 20000 in
theorem gX0_digestClock_X0_partOf : GoodIn wsX0_digestClock (va_wsS RX0 45 yX0_partOf wsX0_partOf) := goodIn_app (goodIn_r _ [2, 3, 4] rfl (by decide +kernel)) ggX0_digestClock_X0_partOf
set_option maxRecDepth 20000 in
theorem ggX0_digestPair_X0_sideOf : GoodIn wsX0_digestPair wsX0_sideOf := goodIn_r _ [5] rfl gw_wsX0_sideOf
set_option maxRecDepth 20000 in
theorem gX0_digestPair_X0_sideOf : GoodIn wsX0_digestPair (va_wsS RX0 98 yX0_sideOf wsX0_sideOf) := goodIn_app (goodIn_r _ [2, 3, 4] rfl (by decide +kernel)) ggX0_digestPair_X0_sideOf
set_option maxRecDepth 20000 in
theorem ggX0_digestPair_X0_unitsBetween : GoodIn wsX0_digestPair wsX0_unitsBetween := goodIn_r _ [8, 9, 10, 4, 11, 12] rfl gw_wsX0_unitsBetween
set_option maxRecDepth 20000 in
theorem gX0_digestPair_X0_unitsBetween : GoodIn wsX0_digestPair (va_wsS RX0 102 yX0_unitsBetween wsX0_unitsBetween) := goodIn_app (goodIn_r _ [6, 7, 4] rfl (by decide +kernel)) ggX0_digestPair_X0_unitsBetween
set_option maxRecDepth 20000 in
theorem gw_wsX2_isIn : wsX2_isIn.all goodWord = true := by decide +kernel
set_option maxRecDepth 20000 in
theorem ggX2_isNone_X2_isIn : GoodIn wsX2_isNone wsX2_isIn := goodIn_r _ [4] rfl gw_wsX2_isIn
set_option maxRecDepth 20000 in
theorem gX2_isNone_X2_isIn : GoodIn wsX2_isNone (va_wsS RX2 17 yX2_isIn wsX2_isIn) := goodIn_app (goodIn_r _ [1, 2, 3] rfl (by decide +kernel)) ggX2_isNone_X2_isIn
set_option maxRecDepth 20000 in
theorem gw_wsX2_secondOf : wsX2_secondOf.all goodWord = true := by decide +kernel
set_option maxRecDepth 20000 in
theorem ggX2_part_X2_secondOf : GoodIn wsX2_part wsX2_secondOf := goodIn_r _ [5, 1] rfl gw_wsX2_secondOf
set_option maxRecDepth 20000 in
theorem gX2_part_X2_secondOf : GoodIn wsX2_part (va_wsS RX2 31 yX2_secondOf wsX2_secondOf) := goodIn_app (goodIn_r _ [2, 3, 4] rfl (by decide +kernel)) ggX2_part_X2_secondOf
set_option maxRecDepth 20000 in
theorem ggX2_set_X2_secondOf : GoodIn wsX2_set wsX2_secondOf := goodIn_r _ [6, 7] rfl gw_wsX2_secondOf
set_option maxRecDepth 20000 in
theorem gX2_set_X2_secondOf : GoodIn wsX2_set (va_wsS RX2 31 yX2_secondOf wsX2_secondOf) := goodIn_app (goodIn_r _ [3, 4, 5] rfl (by decide +kernel)) ggX2_set_X2_secondOf
set_option maxRecDepth 20000 in
theorem gw_wsX2_isNone : wsX2_isNone.all goodWord = true := by decide +kernel
set_option maxRecDepth 20000 in
theorem ggX2_tell_X2_isNone : GoodIn wsX2_tell wsX2_isNone := goodIn_r _ [6, 7, 8, 5, 9] rfl gw_wsX2_isNone
set_option maxRecDepth 20000 in
theorem gX2_tell_X2_isNone : GoodIn wsX2_tell (va_wsS RX2 38 yX2_isNone wsX2_isNone) := goodIn_app (goodIn_r _ [3, 4, 5] rfl (by decide +kernel)) ggX2_tell_X2_isNone
set_option maxRecDepth 20000 in
theorem ggX2_tell_X2_isIn : GoodIn wsX2_tell wsX2_isIn := goodIn_r _ [9] rfl gw_wsX2_isIn
set_option maxRecDepth 20000 in
theorem gX2_tell_X2_isIn : GoodIn wsX2_tell (va_wsS RX2 17 yX2_isIn wsX2_isIn) := goodIn_app (goodIn_r _ [7, 8, 5] rfl (by decide +kernel)) ggX2_tell_X2_isIn
set_option maxRecDepth 20000 in
theorem gw_wsX2_isStopped : wsX2_isStopped.all goodWord = true := by decide +kernel
set_option maxRecDepth 20000 in
theorem ggX2_tell_X2_isStopped : GoodIn wsX2_tell wsX2_isStopped := goodIn_r _ [13, 14, 24, 25, 26, 27] rfl gw_wsX2_isStopped
set_option maxRecDepth 20000 in
theorem gX2_tell_X2_isStopped : GoodIn wsX2_tell (wsV RX2 43 RX2 yX2_isStopped wsX2_isStopped) := goodIn_app (goodIn_r _ [10, 11, 12, 5] rfl (by decide +kernel)) ggX2_tell_X2_isStopped
set_option maxRecDepth 20000 in
theorem gw_wsX2_set : wsX2_set.all goodWord = true := by decide +kernel
set_option maxRecDepth 20000 in
theorem ggX2_tell_X2_set : GoodIn wsX2_tell wsX2_set := goodIn_r _ [18, 19, 20, 21, 22, 5, 23, 2, 24, 25, 26, 27] rfl gw_wsX2_set
set_option maxRecDepth 20000 in
theorem gX2_tell_X2_set : GoodIn wsX2_tell (wsV RX2 47 RX2 yX2_set wsX2_set) := goodIn_app (goodIn_r _ [15, 16, 17, 5] rfl (by decide +kernel)) ggX2_tell_X2_set
set_option maxRecDepth 20000 in
theorem ggX2_tellSecond_X2_isNone : GoodIn wsX2_tellSecond wsX2_isNone := goodIn_r _ [6, 7, 8, 5, 9] rfl gw_wsX2_isNone
set_option maxRecDepth 20000 in
theorem gX2_tellSecond_X2_isNone : GoodIn wsX2_tellSecond (va_wsS RX2 38 yX2_isNone wsX2_isNone) := goodIn_app (goodIn_r _ [3, 4, 5] rfl (by decide +kernel)) ggX2_tellSecond_X2_isNone
set_option maxRecDepth 20000 in
theorem ggX2_tellSecond_X2_isIn : GoodIn wsX2_tellSecond wsX2_isIn := goodIn_r _ [9] rfl gw_wsX2_isIn
set_option maxRecDepth 20000 in
theorem gX2_tellSecond_X2_isIn : GoodIn wsX2_tellSecond (va_wsS RX2 17 yX2_isIn wsX2_isIn) := goodIn_app (goodIn_r _ [7, 8, 5] rfl (by decide +kernel)) ggX2_tellSecond_X2_isIn
set_option maxRecDepth 20000 in
theorem ggX2_tellSecond_X2_isStopped : GoodIn wsX2_tellSecond wsX2_isStopped := goodIn_r _ [13, 14, 24, 25, 26, 27] rfl gw_wsX2_isStopped
set_option maxRecDepth 20000 in
theorem gX2_tellSecond_X2_isStopped : GoodIn wsX2_tellSecond (wsV RX2 43 RX2 yX2_isStopped wsX2_isStopped) := goodIn_app (goodIn_r _ [10, 11, 12, 5] rfl (by decide +kernel)) ggX2_tellSecond_X2_isStopped
set_option maxRecDepth 20000 in
theorem ggX2_tellSecond_X2_set : GoodIn wsX2_tellSecond wsX2_set := goodIn_r _ [18, 19, 20, 21, 22, 5, 23, 2, 24, 25, 26, 27] rfl gw_wsX2_set
set_option maxRecDepth 20000 in
theorem gX2_tellSecond_X2_set : GoodIn wsX2_tellSecond (wsV RX2 47 RX2 yX2_set wsX2_set) := goodIn_app (goodIn_r _ [15, 16, 17, 5] rfl (by decide +kernel)) ggX2_tellSecond_X2_set
set_option maxRecDepth 20000 in
theorem ggX2_tellNumber_X2_isNone : GoodIn wsX2_tellNumber wsX2_isNone := goodIn_r _ [7, 8, 9, 6, 10] rfl gw_wsX2_isNone
set_option maxRecDepth 20000 in
theorem gX2_tellNumber_X2_isNone : GoodIn wsX2_tellNumber (va_wsS RX2 38 yX2_isNone wsX2_isNone) := goodIn_app (goodIn_r _ [4, 5, 6] rfl (by decide +kernel)) ggX2_tellNumber_X2_isNone
set_option maxRecDepth 20000 in
theorem ggX2_tellNumber_X2_isIn : GoodIn wsX2_tellNumber wsX2_isIn := goodIn_r _ [10] rfl gw_wsX2_isIn
set_option maxRecDepth 20000 in
theorem gX2_tellNumber_X2_isIn : GoodIn wsX2_tellNumber (va_wsS RX2 17 yX2_isIn wsX2_isIn) := goodIn_app (goodIn_r _ [8, 9, 6] rfl (by decide +kernel)) ggX2_tellNumber_X2_isIn
set_option maxRecDepth 20000 in
theorem ggX2_tellNumber_X2_isStopped : GoodIn wsX2_tellNumber wsX2_isStopped := goodIn_r _ [14, 15, 25, 26, 27, 28] rfl gw_wsX2_isStopped
set_option maxRecDepth 20000 in
theorem gX2_tellNumber_X2_isStopped : GoodIn wsX2_tellNumber (wsV RX2 43 RX2 yX2_isStopped wsX2_isStopped) := goodIn_app (goodIn_r _ [11, 12, 13, 6] rfl (by decide +kernel)) ggX2_tellNumber_X2_isStopped
set_option maxRecDepth 20000 in
theorem ggX2_tellNumber_X2_set : GoodIn wsX2_tellNumber wsX2_set := goodIn_r _ [19, 20, 21, 22, 23, 6, 24, 3, 25, 26, 27, 28] rfl gw_wsX2_set
set_option maxRecDepth 20000 in
theorem gX2_tellNumber_X2_set : GoodIn wsX2_tellNumber (wsV RX2 47 RX2 yX2_set wsX2_set) := goodIn_app (goodIn_r _ [16, 17, 18, 6] rfl (by decide +kernel)) ggX2_tellNumber_X2_set
set_option maxRecDepth 20000 in
theorem ggX2_tellKnown_X2_isNone : GoodIn wsX2_tellKnown wsX2_isNone := goodIn_r _ [6, 7, 8, 5, 9] rfl gw_wsX2_isNone
set_option maxRecDepth 20000 in
theorem gX2_tellKnown_X2_isNone : GoodIn wsX2_tellKnown (va_wsS RX2 38 yX2_isNone wsX2_isNone) := goodIn_app (goodIn_r _ [3, 4, 5] rfl (by decide +kernel)) ggX2_tellKnown_X2_isNone
set_option maxRecDepth 20000 in
theorem ggX2_tellKnown_X2_isIn : GoodIn wsX2_tellKnown wsX2_isIn := goodIn_r _ [9] rfl gw_wsX2_isIn
set_option maxRecDepth 20000 in
theorem gX2_tellKnown_X2_isIn : GoodIn wsX2_tellKnown (va_wsS RX2 17 yX2_isIn wsX2_isIn) := goodIn_app (goodIn_r _ [7, 8, 5] rfl (by decide +kernel)) ggX2_tellKnown_X2_isIn
set_option maxRecDepth 20000 in
theorem ggX2_tellKnown_X2_isStopped : GoodIn wsX2_tellKnown wsX2_isStopped := goodIn_r _ [13, 14, 25, 26, 27, 28] rfl gw_wsX2_isStopped
set_option maxRecDepth 20000 in
theorem gX2_tellKnown_X2_isStopped : GoodIn wsX2_tellKnown (wsV RX2 43 RX2 yX2_isStopped wsX2_isStopped) := goodIn_app (goodIn_r _ [10, 11, 12, 5] rfl (by decide +kernel)) ggX2_tellKnown_X2_isStopped
set_option maxRecDepth 20000 in
theorem ggX2_tellKnown_X2_set : GoodIn wsX2_tellKnown wsX2_set := goodIn_r _ [18, 19, 20, 21, 22, 5, 23, 24, 25, 26, 27, 28] rfl gw_wsX2_set
set_option maxRecDepth 20000 in
theorem gX2_tellKnown_X2_set : GoodIn wsX2_tellKnown (wsV RX2 47 RX2 yX2_set wsX2_set) := goodIn_app (goodIn_r _ [15, 16, 17, 5] rfl (by decide +kernel)) ggX2_tellKnown_X2_set
set_option maxRecDepth 20000 in
theorem ggX2_take_X2_isNone : GoodIn wsX2_take wsX2_isNone := goodIn_r _ [5, 6, 7, 4, 8] rfl gw_wsX2_isNone
set_option maxRecDepth 20000 in
theorem gX2_take_X2_isNone : GoodIn wsX2_take (va_wsS RX2 38 yX2_isNone wsX2_isNone) := goodIn_app (goodIn_r _ [2, 3, 4] rfl (by decide +kernel)) ggX2_take_X2_isNone
set_option maxRecDepth 20000 in
theorem ggX2_take_X2_isStopped : GoodIn wsX2_take wsX2_isStopped := goodIn_r _ [12, 13, 23, 24, 25, 26] rfl gw_wsX2_isStopped
set_option maxRecDepth 20000 in
theorem gX2_take_X2_isStopped : GoodIn wsX2_take (wsV RX2 43 RX2 yX2_isStopped wsX2_isStopped) := goodIn_app (goodIn_r _ [9, 10, 11, 4] rfl (by decide +kernel)) ggX2_take_X2_isStopped
set_option maxRecDepth 20000 in
theorem ggX2_take_X2_set : GoodIn wsX2_take wsX2_set := goodIn_r _ [17, 1, 18, 19, 20, 4, 21, 22, 23, 24, 25, 26] rfl gw_wsX2_set
set_option maxRecDepth 20000 in
theorem gX2_take_X2_set : GoodIn wsX2_take (wsV RX2 47 RX2 yX2_set wsX2_set) := goodIn_app (goodIn_r _ [14, 15, 16, 4] rfl (by decide +kernel)) ggX2_take_X2_set
set_option maxRecDepth 20000 in
theorem ggX2_with_X2_isNone : GoodIn wsX2_with wsX2_isNone := goodIn_r _ [9, 10, 11, 8, 12] rfl gw_wsX2_isNone
set_option maxRecDepth 20000 in
theorem gX2_with_X2_isNone : GoodIn wsX2_with (va_wsS RX2 38 yX2_isNone wsX2_isNone) := goodIn_app (goodIn_r _ [6, 7, 8] rfl (by decide +kernel)) ggX2_with_X2_isNone
set_option maxRecDepth 20000 in
theorem ggX2_with_X2_isIn : GoodIn wsX2_with wsX2_isIn := goodIn_r _ [12] rfl gw_wsX2_isIn
set_option maxRecDepth 20000 in
theorem gX2_with_X2_isIn : GoodIn wsX2_with (va_wsS RX2 17 yX2_isIn wsX2_isIn) := goodIn_app (goodIn_r _ [10, 11, 8] rfl (by decide +kernel)) ggX2_with_X2_isIn
set_option maxRecDepth 20000 in
theorem ggX2_with_X2_isStopped : GoodIn wsX2_with wsX2_isStopped := goodIn_r _ [16, 17, 29, 30, 31, 32] rfl gw_wsX2_isStopped
set_option maxRecDepth 20000 in
theorem gX2_with_X2_isStopped : GoodIn wsX2_with (wsV RX2 43 RX2 yX2_isStopped wsX2_isStopped) := goodIn_app (goodIn_r _ [13, 14, 15, 8] rfl (by decide +kernel)) ggX2_with_X2_isStopped
set_option maxRecDepth 20000 in
theorem gw_wsX2_part : wsX2_part.all goodWord = true := by decide +kernel
set_option maxRecDepth 20000 in
theorem ggX2_with_X2_part : GoodIn wsX2_with wsX2_part := goodIn_r _ [20, 5, 21, 22, 8, 23] rfl gw_wsX2_part
set_option maxRecDepth 20000 in
theorem gX2_with_X2_part : GoodIn wsX2_with (va_wsS RX2 56 yX2_part wsX2_part) := goodIn_app (goodIn_r _ [18, 19, 8] rfl (by decide +kernel)) ggX2_with_X2_part
set_option maxRecDepth 20000 in
theorem ggX2_with_X2_set : GoodIn wsX2_with wsX2_set := goodIn_r _ [27, 2, 28, 21, 22, 8, 23, 5, 29, 30, 31, 32] rfl gw_wsX2_set
set_option maxRecDepth 20000 in
theorem gX2_with_X2_set : GoodIn wsX2_with (wsV RX2 47 RX2 yX2_set wsX2_set) := goodIn_app (goodIn_r _ [24, 25, 26, 8] rfl (by decide +kernel)) ggX2_with_X2_set
set_option maxRecDepth 20000 in
theorem ggX2_isNoStep_X2_isIn : GoodIn wsX2_isNoStep wsX2_isIn := goodIn_r _ [4] rfl gw_wsX2_isIn
set_option maxRecDepth 20000 in
theorem gX2_isNoStep_X2_isIn : GoodIn wsX2_isNoStep (va_wsS RX2 17 yX2_isIn wsX2_isIn) := goodIn_app (goodIn_r _ [1, 2, 3] rfl (by decide +kernel)) ggX2_isNoStep_X2_isIn
set_option maxRecDepth 20000 in
theorem gw_wsX2_size : wsX2_size.all goodWord = true := by decide +kernel
set_option maxRecDepth 20000 in
theorem ggX2_on_X2_size : GoodIn wsX2_on wsX2_size := goodIn_r _ [5, 6, 7, 8, 9] rfl gw_wsX2_size
set_option maxRecDepth 20000 in
theorem gX2_on_X2_size : GoodIn wsX2_on (va_wsS RX2 66 yX2_size wsX2_size) := goodIn_app (goodIn_r _ [2, 3, 4] rfl (by decide +kernel)) ggX2_on_X2_size
set_option maxRecDepth 20000 in
theorem ggX2_plus_X2_isNone : GoodIn wsX2_plus wsX2_isNone := goodIn_r _ [5, 6, 7, 4, 8] rfl gw_wsX2_isNone
set_option maxRecDepth 20000 in
theorem gX2_plus_X2_isNone : GoodIn wsX2_plus (va_wsS RX2 38 yX2_isNone wsX2_isNone) := goodIn_app (goodIn_r _ [2, 3, 4] rfl (by decide +kernel)) ggX2_plus_X2_isNone
set_option maxRecDepth 20000 in
theorem gw_wsX2_isNoStep : wsX2_isNoStep.all goodWord = true := by decide +kernel
set_option maxRecDepth 20000 in
theorem ggX2_plus_X2_isNoStep : GoodIn wsX2_plus wsX2_isNoStep := goodIn_r _ [11, 6, 7, 4, 8] rfl gw_wsX2_isNoStep
set_option maxRecDepth 20000 in
theorem gX2_plus_X2_isNoStep : GoodIn wsX2_plus (va_wsS RX2 70 yX2_isNoStep wsX2_isNoStep) := goodIn_app (goodIn_r _ [9, 10, 4] rfl (by decide +kernel)) ggX2_plus_X2_isNoStep
set_option maxRecDepth 20000 in
theorem ggX2_plus_X2_isStopped : GoodIn wsX2_plus wsX2_isStopped := goodIn_r _ [15, 16, 37, 38, 39, 40] rfl gw_wsX2_isStopped
set_option maxRecDepth 20000 in
theorem gX2_plus_X2_isStopped : GoodIn wsX2_plus (wsV RX2 43 RX2 yX2_isStopped wsX2_isStopped) := goodIn_app (goodIn_r _ [12, 13, 14, 4] rfl (by decide +kernel)) ggX2_plus_X2_isStopped
set_option maxRecDepth 20000 in
theorem gw_wsX2_on : wsX2_on.all goodWord = true := by decide +kernel
set_option maxRecDepth 20000 in
theorem ggX2_plus_X2_on : GoodIn wsX2_plus wsX2_on := goodIn_r _ [19, 20, 21, 22, 4, 23, 24, 25, 26, 27] rfl gw_wsX2_on
set_option maxRecDepth 20000 in
theorem gX2_plus_X2_on : GoodIn wsX2_plus (va_wsS RX2 73 yX2_on wsX2_on) := goodIn_app (goodIn_r _ [17, 18, 4] rfl (by decide +kernel)) ggX2_plus_X2_on
set_option maxRecDepth 20000 in
theorem ggX2_plus_X2_set : GoodIn wsX2_plus wsX2_set := goodIn_r _ [31, 1, 32, 33, 34, 4, 35, 36, 37, 38, 39, 40] rfl gw_wsX2_set
set_option maxRecDepth 20000 in
theorem gX2_plus_X2_set : GoodIn wsX2_plus (wsV RX2 47 RX2 yX2_set wsX2_set) := goodIn_app (goodIn_r _ [28, 29, 30, 4] rfl (by decide +kernel)) ggX2_plus_X2_set
set_option maxRecDepth 20000 in
theorem ggX2_minus_X2_isNone : GoodIn wsX2_minus wsX2_isNone := goodIn_r _ [5, 6, 7, 4, 8] rfl gw_wsX2_isNone
set_option maxRecDepth 20000 in
theorem gX2_minus_X2_isNone : GoodIn wsX2_minus (va_wsS RX2 38 yX2_isNone wsX2_isNone) := goodIn_app (goodIn_r _ [2, 3, 4] rfl (by decide +kernel)) ggX2_minus_X2_isNone
set_option maxRecDepth 20000 in
theorem ggX2_minus_X2_isNoStep : GoodIn wsX2_minus wsX2_isNoStep := goodIn_r _ [11, 6, 7, 4, 8] rfl gw_wsX2_isNoStep
set_option maxRecDepth 20000 in
theorem gX2_minus_X2_isNoStep : GoodIn wsX2_minus (va_wsS RX2 70 yX2_isNoStep wsX2_isNoStep) := goodIn_app (goodIn_r _ [9, 10, 4] rfl (by decide +kernel)) ggX2_minus_X2_isNoStep
set_option maxRecDepth 20000 in
theorem ggX2_minus_X2_isStopped : GoodIn wsX2_minus wsX2_isStopped := goodIn_r _ [15, 16, 37, 38, 39, 40] rfl gw_wsX2_isStopped
set_option maxRecDepth 20000 in
theorem gX2_minus_X2_isStopped : GoodIn wsX2_minus (wsV RX2 43 RX2 yX2_isStopped wsX2_isStopped) := goodIn_app (goodIn_r _ [12, 13, 14, 4] rfl (by decide +kernel)) ggX2_minus_X2_isStopped
set_option maxRecDepth 20000 in
theorem ggX2_minus_X2_on : GoodIn wsX2_minus wsX2_on := goodIn_r _ [19, 20, 21, 22, 4, 23, 24, 25, 26, 27] rfl gw_wsX2_on
set_option maxRecDepth 20000 in
theorem gX2_minus_X2_on : GoodIn wsX2_minus (va_wsS RX2 73 yX2_on wsX2_on) := goodIn_app (goodIn_r _ [17, 18, 4] rfl (by decide +kernel)) ggX2_minus_X2_on
set_option maxRecDepth 20000 in
theorem ggX2_minus_X2_set : GoodIn wsX2_minus wsX2_set := goodIn_r _ [31, 1, 32, 33, 34, 4, 35, 36, 37, 38, 39, 40] rfl gw_wsX2_set
set_option maxRecDepth 20000 in
theorem gX2_minus_X2_set : GoodIn wsX2_minus (wsV RX2 47 RX2 yX2_set wsX2_set) := goodIn_app (goodIn_r _ [28, 29, 30, 4] rfl (by decide +kernel)) ggX2_minus_X2_set
set_option maxRecDepth 20000 in
theorem ggX2_walk_X2_isNone : GoodIn wsX2_walk wsX2_isNone := goodIn_r _ [5, 6, 7, 4, 8] rfl gw_wsX2_isNone
set_option maxRecDepth 20000 in
theorem gX2_walk_X2_isNone : GoodIn wsX2_walk (va_wsS RX2 38 yX2_isNone wsX2_isNone) := goodIn_app (goodIn_r _ [2, 3, 4] rfl (by decide +kernel)) ggX2_walk_X2_isNone
set_option maxRecDepth 20000 in
theorem ggX2_walk_X2_isNoStep : GoodIn wsX2_walk wsX2_isNoStep := goodIn_r _ [11, 6, 7, 4, 8] rfl gw_wsX2_isNoStep
set_option maxRecDepth 20000 in
theorem gX2_walk_X2_isNoStep : GoodIn wsX2_walk (va_wsS RX2 70 yX2_isNoStep wsX2_isNoStep) := goodIn_app (goodIn_r _ [9, 10, 4] rfl (by decide +kernel)) ggX2_walk_X2_isNoStep
set_option maxRecDepth 20000 in
theorem ggX2_walk_X2_isIn : GoodIn wsX2_walk wsX2_isIn := goodIn_r _ [8] rfl gw_wsX2_isIn
set_option maxRecDepth 20000 in
theorem gX2_walk_X2_isIn : GoodIn wsX2_walk (va_wsS RX2 17 yX2_isIn wsX2_isIn) := goodIn_app (goodIn_r _ [6, 7, 4] rfl (by decide +kernel)) ggX2_walk_X2_isIn
set_option maxRecDepth 20000 in
theorem ggX2_walk_X2_isStopped : GoodIn wsX2_walk wsX2_isStopped := goodIn_r _ [15, 16, 37, 38, 39, 40] rfl gw_wsX2_isStopped
set_option maxRecDepth 20000 in
theorem gX2_walk_X2_isStopped : GoodIn wsX2_walk (wsV RX2 43 RX2 yX2_isStopped wsX2_isStopped) := goodIn_app (goodIn_r _ [12, 13, 14, 4] rfl (by decide +kernel)) ggX2_walk_X2_isStopped
set_option maxRecDepth 20000 in
theorem ggX2_walk_X2_on : GoodIn wsX2_walk wsX2_on := goodIn_r _ [19, 20, 21, 22, 4, 23, 24, 25, 26, 27] rfl gw_wsX2_on
set_option maxRecDepth 20000 in
theorem gX2_walk_X2_on : GoodIn wsX2_walk (va_wsS RX2 73 yX2_on wsX2_on) := goodIn_app (goodIn_r _ [17, 18, 4] rfl (by decide +kernel)) ggX2_walk_X2_on
set_option maxRecDepth 20000 in
theorem ggX2_walk_X2_set : GoodIn wsX2_walk wsX2_set := goodIn_r _ [31, 1, 32, 33, 34, 4, 35, 36, 37, 38, 39, 40] rfl gw_wsX2_set
set_option maxRecDepth 20000 in
theorem gX2_walk_X2_set : GoodIn wsX2_walk (wsV RX2 47 RX2 yX2_set wsX2_set) := goodIn_app (goodIn_r _ [28, 29, 30, 4] rfl (by decide +kernel)) ggX2_walk_X2_set
set_option maxRecDepth 20000 in
theorem ggX2_cut_X2_isNone : GoodIn wsX2_cut wsX2_isNone := goodIn_r _ [5, 6, 7, 4, 8] rfl gw_wsX2_isNone
set_option maxRecDepth 20000 in
theorem gX2_cut_X2_isNone : GoodIn wsX2_cut (va_wsS RX2 38 yX2_isNone wsX2_isNone) := goodIn_app (goodIn_r _ [2, 3, 4] rfl (by decide +kernel)) ggX2_cut_X2_isNone
set_option maxRecDepth 20000 in
theorem ggX2_cut_X2_isIn : GoodIn wsX2_cut wsX2_isIn := goodIn_r _ [8] rfl gw_wsX2_isIn
set_option maxRecDepth 20000 in
theorem gX2_cut_X2_isIn : GoodIn wsX2_cut (va_wsS RX2 17 yX2_isIn wsX2_isIn) := goodIn_app (goodIn_r _ [6, 7, 4] rfl (by decide +kernel)) ggX2_cut_X2_isIn
set_option maxRecDepth 20000 in
theorem ggX2_cut_X2_isStopped : GoodIn wsX2_cut wsX2_isStopped := goodIn_r _ [12, 13, 30, 31, 32, 33] rfl gw_wsX2_isStopped
set_option maxRecDepth 20000 in
theorem gX2_cut_X2_isStopped : GoodIn wsX2_cut (wsV RX2 43 RX2 yX2_isStopped wsX2_isStopped) := goodIn_app (goodIn_r _ [9, 10, 11, 4] rfl (by decide +kernel)) ggX2_cut_X2_isStopped
set_option maxRecDepth 20000 in
theorem ggX2_cut_X2_size : GoodIn wsX2_cut wsX2_size := goodIn_r _ [16, 17, 18, 19, 20] rfl gw_wsX2_size
set_option maxRecDepth 20000 in
theorem gX2_cut_X2_size : GoodIn wsX2_cut (va_wsS RX2 66 yX2_size wsX2_size) := goodIn_app (goodIn_r _ [14, 15, 4] rfl (by decide +kernel)) ggX2_cut_X2_size
set_option maxRecDepth 20000 in
theorem ggX2_cut_X2_set : GoodIn wsX2_cut wsX2_set := goodIn_r _ [24, 1, 25, 26, 27, 4, 28, 29, 30, 31, 32, 33] rfl gw_wsX2_set
set_option maxRecDepth 20000 in
theorem gX2_cut_X2_set : GoodIn wsX2_cut (wsV RX2 47 RX2 yX2_set wsX2_set) := goodIn_app (goodIn_r _ [21, 22, 23, 4] rfl (by decide +kernel)) ggX2_cut_X2_set
set_option maxRecDepth 20000 in
theorem ggX2_of_X2_isNone : GoodIn wsX2_of wsX2_isNone := goodIn_r _ [5, 6, 7, 4, 8] rfl gw_wsX2_isNone
set_option maxRecDepth 20000 in
theorem gX2_of_X2_isNone : GoodIn wsX2_of (va_wsS RX2 38 yX2_isNone wsX2_isNone) := goodIn_app (goodIn_r _ [2, 3, 4] rfl (by decide +kernel)) ggX2_of_X2_isNone
set_option maxRecDepth 20000 in
theorem ggX2_of_X2_isIn : GoodIn wsX2_of wsX2_isIn := goodIn_r _ [8] rfl gw_wsX2_isIn
set_option maxRecDepth 20000 in
theorem gX2_of_X2_isIn : GoodIn wsX2_of (va_wsS RX2 17 yX2_isIn wsX2_isIn) := goodIn_app (goodIn_r _ [6, 7, 4] rfl (by decide +kernel)) ggX2_of_X2_isIn
set_option maxRecDepth 20000 in
theorem ggX2_of_X2_isStopped : GoodIn wsX2_of wsX2_isStopped := goodIn_r _ [12, 13, 21, 22, 23, 24] rfl gw_wsX2_isStopped
set_option maxRecDepth 20000 in
theorem gX2_of_X2_isStopped : GoodIn wsX2_of (wsV RX2 43 RX2 yX2_isStopped wsX2_isStopped) := goodIn_app (goodIn_r _ [9, 10, 11, 4] rfl (by decide +kernel)) ggX2_of_X2_isStopped
set_option maxRecDepth 20000 in
theorem ggX2_of_X2_part : GoodIn wsX2_of wsX2_part := goodIn_r _ [16, 17, 18, 19, 4, 20] rfl gw_wsX2_part
set_option maxRecDepth 20000 in
theorem gX2_of_X2_part : GoodIn wsX2_of (va_wsS RX2 56 yX2_part wsX2_part) := goodIn_app (goodIn_r _ [14, 15, 4] rfl (by decide +kernel)) ggX2_of_X2_part
def wcX2_number : List (List Cond) := [[.code yX2_number cX2_number 2 (some (.object "java/lang/String"))], wsX2_number_r1, wsX2_number_r2, wsX2_number_r3, wsX2_number_r4, wsX2_number_r5, wsX2_number_r6, wsX2_number_r7, wsX2_number_r8, wsX2_number_r9, wsX2_number_r10, wsX2_number_r11, (wsJ40 ++ wsX20 ++ wsJ00 : List Cond)]
theorem wcX2_number_eq : wsX2_number = wcX2_number.flatten := by simp only [wsX2_number, wcX2_number, List.flatten_cons, List.flatten_nil, List.append_assoc, List.append_nil, List.cons_append, List.nil_append]
set_option maxRecDepth 20000 in
theorem ggX2_number_X2_isNone : GoodIn wsX2_number wsX2_isNone := goodIn_k _ wcX2_number_eq [(1, 7), (1, 8), (1, 9), (1, 6), (1, 10)] rfl gw_wsX2_isNone
set_option maxRecDepth 20000 in
theorem gX2_number_X2_isNone : GoodIn wsX2_number (va_wsS RX2 38 yX2_isNone wsX2_isNone) := goodIn_app (goodIn_k _ wcX2_number_eq [(1, 4), (1, 5), (1, 6)] rfl (by decide +kernel)) ggX2_number_X2_isNone
set_option maxRecDepth 20000 in
theorem ggX2_number_X2_isStopped : GoodIn wsX2_number wsX2_isStopped := goodIn_k _ wcX2_number_eq [(1, 14), (1, 15), (12, 4), (12, 5), (12, 6), (12, 7)] rfl gw_wsX2_isStopped
set_option maxRecDepth 20000 in
theorem gX2_number_X2_isStopped : GoodIn wsX2_number (wsV RX2 43 RX2 yX2_isStopped wsX2_isStopped) := goodIn_app (goodIn_k _ wcX2_number_eq [(1, 11), (1, 12), (1, 13), (1, 6)] rfl (by decide +kernel)) ggX2_number_X2_isStopped
set_option maxRecDepth 20000 in
theorem ggX2_number_J4_init_da8c8 : GoodIn wsX2_number wsJ4_init_da8c8 := goodIn_k _ wcX2_number_eq [(1, 18), (1, 19), (1, 20), (1, 21), (1, 22), (1, 23), (2, 0), (2, 1), (2, 2), (2, 3), (2, 4), (2, 5), (2, 6), (2, 7), (2, 8), (2, 9), (2, 10), (2, 11), (2, 12), (2, 13), (12, 0), (12, 1), (12, 2), (12, 3)] rfl gw_wsJ4_init_da8c8
set_option maxRecDepth 20000 in
theorem gX2_number_J4_init_da8c8 : GoodIn wsX2_number (wsJ4_init_da8c8) := ggX2_number_J4_init_da8c8
set_option maxRecDepth 20000 in
theorem gw_wsJ4_append_15ec4 : wsJ4_append_15ec4.all goodWord = true := by decide +kernel
set_option maxRecDepth 20000 in
theorem ggX2_number_J4_append_15ec4 : GoodIn wsX2_number wsJ4_append_15ec4 := goodIn_k _ wcX2_number_eq [(2, 17), (2, 18), (2, 19), (2, 20), (2, 21), (1, 21), (2, 22), (2, 23), (3, 0), (3, 1), (3, 2), (3, 3), (3, 4), (2, 4), (3, 5), (3, 6), (3, 7), (3, 8), (3, 9), (2, 5), (3, 10), (3, 11), (3, 12), (3, 13), (3, 14), (3, 15), (3, 16), (3, 17), (3, 18), (3, 19), (3, 20), (3, 21), (3, 22), (3, 23), (4, 0), (4, 1), (4, 2), (4, 3), (4, 4), (4, 5), (4, 6), (4, 7), (4, 8), (4, 9), (4, 10), (4, 11), (4, 12), (4, 13), (2, 3), (4, 14), (4, 15), (4, 16), (4, 17), (4, 18), (4, 19), (4, 20), (4, 21), (4, 22), (4, 23), (5, 0), (5, 1), (2, 2), (5, 2), (5, 3), (2, 8), (5, 4), (5, 5), (5, 6), (5, 7), (5, 8), (5, 9), (5, 10), (5, 11), (5, 12), (5, 13), (5, 14), (5, 15), (5, 16), (5, 17), (5, 18), (5, 19), (5, 20), (5, 21), (5, 22), (5, 23), (6, 0), (6, 1), (6, 2), (6, 3), (6, 4), (6, 5), (6, 6), (6, 7), (6, 8), (6, 9), (6, 10), (6, 11), (6, 12), (6, 13), (6, 14), (6, 15), (6, 16), (6, 17), (6, 18), (6, 19), (6, 20), (6, 21), (6, 22), (6, 23), (7, 0), (7, 1), (7, 2), (7, 3), (7, 4), (2, 6), (2, 7), (2, 9), (2, 10), (2, 11), (2, 12), (2, 13), (7, 5), (7, 6), (7, 7), (7, 8), (7, 9), (7, 10), (7, 11), (7, 12), (7, 13), (7, 14), (7, 15), (7, 16), (7, 17), (7, 18), (7, 19), (7, 20), (7, 21), (7, 22), (7, 23), (8, 0), (8, 1), (8, 2), (12, 0), (12, 1), (12, 2), (12, 3), (12, 8), (12, 9), (12, 10), (12, 11)] rfl gw_wsJ4_append_15ec4
set_option maxRecDepth 20000 in
theorem gX2_number_J4_append_15ec4 : GoodIn wsX2_number (wsV RX2 82 RJ4 yJ4_append_15ec4 wsJ4_append_15ec4) := goodIn_app (goodIn_k _ wcX2_number_eq [(2, 14), (2, 15), (2, 16), (1, 2)] rfl (by decide +kernel)) ggX2_number_J4_append_15ec4
set_option maxRecDepth 20000 in
theorem gw_wsJ4_append_f7089 : wsJ4_append_f7089.all goodWord = true := by decide +kernel
set_option maxRecDepth 20000 in
theorem ggX2_number_J4_append_f7089 : GoodIn wsX2_number wsJ4_append_f7089 := goodIn_k _ wcX2_number_eq [(8, 6), (8, 7), (8, 8), (2, 20), (8, 9), (1, 21), (8, 10), (2, 23), (2, 4), (8, 11), (8, 12), (8, 13), (8, 14), (8, 15), (8, 16), (3, 5), (3, 6), (3, 7), (3, 8), (3, 9), (2, 5), (3, 10), (3, 11), (3, 12), (3, 13), (3, 14), (3, 15), (3, 16), (3, 17), (3, 18), (3, 19), (3, 20), (3, 21), (3, 22), (3, 23), (4, 0), (4, 1), (4, 2), (4, 3), (4, 4), (4, 5), (4, 6), (4, 7), (4, 8), (4, 9), (4, 10), (4, 11), (4, 12), (4, 13), (2, 3), (4, 14), (4, 15), (4, 16), (4, 17), (4, 18), (4, 19), (4, 20), (4, 21), (4, 22), (4, 23), (5, 0), (5, 1), (2, 2), (8, 17), (8, 18), (8, 19), (8, 20), (8, 21), (8, 22), (8, 23), (9, 0), (9, 1), (2, 8), (9, 2), (5, 5), (5, 6), (5, 7), (5, 8), (5, 9), (5, 10), (5, 11), (5, 12), (5, 13), (5, 14), (5, 15), (5, 16), (5, 17), (5, 18), (5, 19), (5, 20), (9, 3), (9, 4), (9, 5), (9, 6), (9, 7), (9, 8), (9, 9), (5, 21), (5, 22), (5, 23), (6, 0), (6, 1), (12, 0), (12, 1), (12, 2), (12, 3)] rfl gw_wsJ4_append_f7089
set_option maxRecDepth 20000 in
theorem gX2_number_J4_append_f7089 : GoodIn wsX2_number (wsV RX2 86 RJ4 yJ4_append_f7089 wsJ4_append_f7089) := goodIn_app (goodIn_k _ wcX2_number_eq [(8, 3), (8, 4), (8, 5), (1, 2)] rfl (by decide +kernel)) ggX2_number_J4_append_f7089
set_option maxRecDepth 20000 in
theorem ggX2_number_J4_toString_0e30d : GoodIn wsX2_number wsJ4_toString_0e30d := goodIn_k _ wcX2_number_eq [(9, 13), (9, 14), (9, 15), (5, 14), (9, 16), (9, 17), (9, 18), (9, 19), (9, 20), (9, 21), (9, 22), (2, 0), (2, 1), (6, 12), (6, 6), (6, 11), (9, 23), (10, 0), (10, 1), (10, 2), (10, 3), (1, 21), (10, 4), (2, 4), (10, 5), (10, 6), (10, 7), (10, 8), (10, 9), (1, 2), (10, 10), (10, 11), (2, 20), (10, 12), (10, 13), (2, 23), (10, 14), (4, 22), (4, 23), (5, 0), (5, 1), (2, 2), (2, 5), (10, 15), (10, 16), (4, 6), (10, 17), (4, 8), (4, 9), (4, 10), (4, 11), (4, 12), (4, 13), (10, 18), (10, 19), (10, 20), (2, 3), (4, 14), (4, 15), (3, 22), (4, 16), (4, 17), (4, 18), (4, 19), (4, 20), (10, 21), (10, 22), (10, 23), (11, 0), (1, 1), (11, 1), (11, 2), (2, 8), (11, 3), (11, 4), (11, 5), (11, 6), (7, 12), (7, 13), (7, 14), (5, 9), (5, 10), (5, 11), (7, 15), (7, 16), (7, 17), (5, 16), (7, 18), (7, 19), (5, 19), (7, 20), (11, 7), (11, 8), (11, 9), (5, 5), (6, 0), (6, 1), (2, 10), (2, 11), (2, 12), (2, 13), (11, 10), (11, 11), (11, 12), (11, 13), (12, 8), (12, 9), (12, 10), (12, 11), (12, 0), (12, 1), (12, 2), (12, 3)] rfl gw_wsJ4_toString_0e30d
set_option maxRecDepth 20000 in
theorem gX2_number_J4_toString_0e30d : GoodIn wsX2_number (wsV RX2 89 RJ4 yJ4_toString_0e30d wsJ4_toString_0e30d) := goodIn_app (goodIn_k _ wcX2_number_eq [(9, 10), (9, 11), (9, 12), (1, 2)] rfl (by decide +kernel)) ggX2_number_J4_toString_0e30d
def wcX2_text : List (List Cond) := [[.code yX2_text cX2_text 2 (some (.object "java/lang/String"))], wsX2_text_r1, wsX2_text_r2, wsX2_text_r3, wsX2_text_r4, wsX2_text_r5, wsX2_text_r6, wsX2_text_r7, wsX2_text_r8, wsX2_text_r9, wsX2_text_r10, wsX2_text_r11, (wsJ40 ++ wsX20 ++ wsJ00 : List Cond)]
theorem wcX2_text_eq : wsX2_text = wcX2_text.flatten := by simp only [wsX2_text, wcX2_text, List.flatten_cons, List.flatten_nil, List.append_assoc, List.append_nil, List.cons_append, List.nil_append]
set_option maxRecDepth 20000 in
theorem ggX2_text_X2_isNone : GoodIn wsX2_text wsX2_isNone := goodIn_k _ wcX2_text_eq [(1, 7), (1, 8), (1, 9), (1, 6), (1, 10)] rfl gw_wsX2_isNone
set_option maxRecDepth 20000 in
theorem gX2_text_X2_isNone : GoodIn wsX2_text (va_wsS RX2 38 yX2_isNone wsX2_isNone) := goodIn_app (goodIn_k _ wcX2_text_eq [(1, 4), (1, 5), (1, 6)] rfl (by decide +kernel)) ggX2_text_X2_isNone
set_option maxRecDepth 20000 in
theorem ggX2_text_X2_isStopped : GoodIn wsX2_text wsX2_isStopped := goodIn_k _ wcX2_text_eq [(1, 14), (1, 15), (12, 4), (12, 5), (12, 6), (12, 7)] rfl gw_wsX2_isStopped
set_option maxRecDepth 20000 in
theorem gX2_text_X2_isStopped : GoodIn wsX2_text (wsV RX2 43 RX2 yX2_isStopped wsX2_isStopped) := goodIn_app (goodIn_k _ wcX2_text_eq [(1, 11), (1, 12), (1, 13), (1, 6)] rfl (by decide +kernel)) ggX2_text_X2_isStopped
set_option maxRecDepth 20000 in
theorem ggX2_text_J4_init_da8c8 : GoodIn wsX2_text wsJ4_init_da8c8 := goodIn_k _ wcX2_text_eq [(1, 18), (1, 19), (1, 20), (1, 21), (1, 22), (1, 23), (2, 0), (2, 1), (2, 2), (2, 3), (2, 4), (2, 5), (2, 6), (2, 7), (2, 8), (2, 9), (2, 10), (2, 11), (2, 12), (2, 13), (12, 0), (12, 1), (12, 2), (12, 3)] rfl gw_wsJ4_init_da8c8
set_option maxRecDepth 20000 in
theorem gX2_text_J4_init_da8c8 : GoodIn wsX2_text (wsJ4_init_da8c8) := ggX2_text_J4_init_da8c8
set_option maxRecDepth 20000 in
theorem ggX2_text_X2_part : GoodIn wsX2_text wsX2_part := goodIn_k _ wcX2_text_eq [(2, 16), (2, 17), (2, 18), (2, 19), (1, 6), (2, 20)] rfl gw_wsX2_part
set_option maxRecDepth 20000 in
theorem gX2_text_X2_part : GoodIn wsX2_text (va_wsS RX2 56 yX2_part wsX2_part) := goodIn_app (goodIn_k _ wcX2_text_eq [(2, 14), (2, 15), (1, 6)] rfl (by decide +kernel)) ggX2_text_X2_part
set_option maxRecDepth 20000 in
theorem ggX2_text_J4_append_bf812 : GoodIn wsX2_text wsJ4_append_bf812 := goodIn_k _ wcX2_text_eq [(3, 0), (3, 1), (3, 2), (3, 3), (3, 4), (1, 21), (3, 5), (3, 6), (2, 4), (3, 7), (3, 8), (3, 9), (3, 10), (3, 11), (3, 12), (3, 13), (3, 14), (3, 15), (2, 5), (3, 16), (3, 17), (3, 18), (3, 19), (3, 20), (3, 21), (3, 22), (3, 23), (4, 0), (4, 1), (4, 2), (4, 3), (4, 4), (4, 5), (4, 6), (4, 7), (4, 8), (4, 9), (4, 10), (4, 11), (4, 12), (4, 13), (4, 14), (4, 15), (4, 16), (4, 17), (4, 18), (4, 19), (2, 3), (4, 20), (4, 21), (4, 22), (4, 23), (5, 0), (5, 1), (5, 2), (5, 3), (5, 4), (5, 5), (5, 6), (5, 7), (2, 2), (5, 8), (5, 9), (5, 10), (5, 11), (5, 12), (5, 13), (5, 14), (2, 8), (5, 15), (5, 16), (5, 17), (5, 18), (5, 19), (5, 20), (5, 21), (5, 22), (5, 23), (6, 0), (6, 1), (6, 2), (6, 3), (6, 4), (6, 5), (6, 6), (6, 7), (6, 8), (6, 9), (6, 10), (6, 11), (6, 12), (6, 13), (6, 14), (6, 15), (6, 16), (6, 17), (12, 0), (12, 1), (12, 2), (12, 3)] rfl gw_wsJ4_append_bf812
set_option maxRecDepth 20000 in
theorem gX2_text_J4_append_bf812 : GoodIn wsX2_text (wsV RX2 93 RJ4 yJ4_append_bf812 wsJ4_append_bf812) := goodIn_app (goodIn_k _ wcX2_text_eq [(2, 21), (2, 22), (2, 23), (1, 2)] rfl (by decide +kernel)) ggX2_text_J4_append_bf812
set_option maxRecDepth 20000 in
theorem ggX2_text_J4_append_15ec4 : GoodIn wsX2_text wsJ4_append_15ec4 := goodIn_k _ wcX2_text_eq [(6, 21), (6, 22), (6, 23), (3, 3), (7, 0), (1, 21), (7, 1), (3, 6), (7, 2), (7, 3), (7, 4), (7, 5), (7, 6), (2, 4), (3, 11), (3, 12), (3, 13), (3, 14), (3, 15), (2, 5), (3, 16), (3, 17), (3, 18), (3, 19), (3, 20), (3, 21), (3, 22), (3, 23), (4, 0), (4, 1), (4, 2), (4, 3), (4, 4), (4, 5), (4, 6), (4, 7), (4, 8), (4, 9), (4, 10), (4, 11), (4, 12), (4, 13), (4, 14), (4, 15), (4, 16), (4, 17), (4, 18), (4, 19), (2, 3), (4, 20), (4, 21), (4, 22), (4, 23), (5, 0), (5, 1), (5, 2), (5, 3), (5, 4), (5, 5), (5, 6), (5, 7), (2, 2), (7, 7), (7, 8), (2, 8), (7, 9), (5, 16), (5, 17), (5, 18), (5, 19), (5, 20), (5, 21), (5, 22), (5, 23), (6, 0), (6, 1), (6, 2), (6, 3), (6, 4), (6, 5), (6, 6), (6, 7), (6, 13), (6, 14), (6, 15), (6, 16), (6, 17), (7, 10), (7, 11), (7, 12), (7, 13), (7, 14), (7, 15), (7, 16), (7, 17), (7, 18), (7, 19), (7, 20), (7, 21), (7, 22), (7, 23), (8, 0), (8, 1), (8, 2), (8, 3), (8, 4), (8, 5), (8, 6), (8, 7), (8, 8), (8, 9), (8, 10), (8, 11), (8, 12), (2, 6), (2, 7), (2, 9), (2, 10), (2, 11), (2, 12), (2, 13), (8, 13), (8, 14), (8, 15), (8, 16), (8, 17), (8, 18), (8, 19), (8, 20), (8, 21), (8, 22), (8, 23), (9, 0), (9, 1), (9, 2), (9, 3), (9, 4), (9, 5), (9, 6), (9, 7), (9, 8), (9, 9), (9, 10), (12, 0), (12, 1), (12, 2), (12, 3), (12, 8), (12, 9), (12, 10), (12, 11)] rfl gw_wsJ4_append_15ec4
set_option maxRecDepth 20000 in
theorem gX2_text_J4_append_15ec4 : GoodIn wsX2_text (wsV RX2 82 RJ4 yJ4_append_15ec4 wsJ4_append_15ec4) := goodIn_app (goodIn_k _ wcX2_text_eq [(6, 18), (6, 19), (6, 20), (1, 2)] rfl (by decide +kernel)) ggX2_text_J4_append_15ec4
set_option maxRecDepth 20000 in
theorem ggX2_text_J4_toString_0e30d : GoodIn wsX2_text wsJ4_toString_0e30d := goodIn_k _ wcX2_text_eq [(9, 14), (9, 15), (9, 16), (6, 1), (9, 17), (9, 18), (9, 19), (9, 20), (9, 21), (9, 22), (9, 23), (2, 0), (2, 1), (7, 20), (7, 14), (7, 19), (10, 0), (10, 1), (10, 2), (10, 3), (10, 4), (1, 21), (10, 5), (2, 4), (10, 6), (10, 7), (10, 8), (10, 9), (10, 10), (1, 2), (10, 11), (10, 12), (3, 3), (10, 13), (10, 14), (3, 6), (10, 15), (5, 4), (5, 5), (5, 6), (5, 7), (2, 2), (2, 5), (10, 16), (10, 17), (4, 12), (10, 18), (4, 14), (4, 15), (4, 16), (4, 17), (4, 18), (4, 19), (10, 19), (10, 20), (10, 21), (2, 3), (4, 20), (4, 21), (4, 4), (4, 22), (4, 23), (5, 0), (5, 1), (5, 2), (10, 22), (10, 23), (11, 0), (11, 1), (1, 1), (11, 2), (11, 3), (2, 8), (11, 4), (11, 5), (11, 6), (11, 7), (8, 20), (8, 21), (8, 22), (5, 20), (5, 21), (5, 22), (8, 23), (9, 0), (9, 1), (6, 3), (9, 2), (9, 3), (6, 6), (9, 4), (11, 8), (11, 9), (11, 10), (5, 16), (6, 16), (6, 17), (2, 10), (2, 11), (2, 12), (2, 13), (11, 11), (11, 12), (11, 13), (11, 14), (12, 8), (12, 9), (12, 10), (12, 11), (12, 0), (12, 1), (12, 2), (12, 3)] rfl gw_wsJ4_toString_0e30d
set_option maxRecDepth 20000 in
theorem gX2_text_J4_toString_0e30d : GoodIn wsX2_text (wsV RX2 89 RJ4 yJ4_toString_0e30d wsJ4_toString_0e30d) := goodIn_app (goodIn_k _ wcX2_text_eq [(9, 11), (9, 12), (9, 13), (1, 2)] rfl (by decide +kernel)) ggX2_text_J4_toString_0e30d
def wcX2_beyond : List (List Cond) := [[.code yX2_beyond cX2_beyond 3 (some (.object "java/lang/String"))], wsX2_beyond_r1, wsX2_beyond_r2, wsX2_beyond_r3, wsX2_beyond_r4, wsX2_beyond_r5, wsX2_beyond_r6, wsX2_beyond_r7, wsX2_beyond_r8, wsX2_beyond_r9, wsX2_beyond_r10, wsX2_beyond_r11, (wsJ40 ++ wsX20 ++ wsJ00 : List Cond)]
theorem wcX2_beyond_eq : wsX2_beyond = wcX2_beyond.flatten := by simp only [wsX2_beyond, wcX2_beyond, List.flatten_cons, List.flatten_nil, List.append_assoc, List.append_nil, List.cons_append, List.nil_append]
set_option maxRecDepth 20000 in
theorem ggX2_beyond_X2_isNone : GoodIn wsX2_beyond wsX2_isNone := goodIn_k _ wcX2_beyond_eq [(1, 7), (1, 8), (1, 9), (1, 6), (1, 10)] rfl gw_wsX2_isNone
set_option maxRecDepth 20000 in
theorem gX2_beyond_X2_isNone : GoodIn wsX2_beyond (va_wsS RX2 38 yX2_isNone wsX2_isNone) := goodIn_app (goodIn_k _ wcX2_beyond_eq [(1, 4), (1, 5), (1, 6)] rfl (by decide +kernel)) ggX2_beyond_X2_isNone
set_option maxRecDepth 20000 in
theorem ggX2_beyond_X2_isIn : GoodIn wsX2_beyond wsX2_isIn := goodIn_k _ wcX2_beyond_eq [(1, 10)] rfl gw_wsX2_isIn
set_option maxRecDepth 20000 in
theorem gX2_beyond_X2_isIn : GoodIn wsX2_beyond (va_wsS RX2 17 yX2_isIn wsX2_isIn) := goodIn_app (goodIn_k _ wcX2_beyond_eq [(1, 8), (1, 9), (1, 6)] rfl (by decide +kernel)) ggX2_beyond_X2_isIn
set_option maxRecDepth 20000 in
theorem ggX2_beyond_X2_isStopped : GoodIn wsX2_beyond wsX2_isStopped := goodIn_k _ wcX2_beyond_eq [(1, 14), (1, 15), (12, 4), (12, 5), (12, 6), (12, 7)] rfl gw_wsX2_isStopped
set_option maxRecDepth 20000 in
theorem gX2_beyond_X2_isStopped : GoodIn wsX2_beyond (wsV RX2 43 RX2 yX2_isStopped wsX2_isStopped) := goodIn_app (goodIn_k _ wcX2_beyond_eq [(1, 11), (1, 12), (1, 13), (1, 6)] rfl (by decide +kernel)) ggX2_beyond_X2_isStopped
set_option maxRecDepth 20000 in
theorem ggX2_beyond_J4_init_da8c8 : GoodIn wsX2_beyond wsJ4_init_da8c8 := goodIn_k _ wcX2_beyond_eq [(1, 18), (1, 19), (1, 20), (1, 21), (1, 22), (1, 23), (2, 0), (2, 1), (2, 2), (2, 3), (2, 4), (2, 5), (2, 6), (2, 7), (2, 8), (2, 9), (2, 10), (2, 11), (2, 12), (2, 13), (12, 0), (12, 1), (12, 2), (12, 3)] rfl gw_wsJ4_init_da8c8
set_option maxRecDepth 20000 in
theorem gX2_beyond_J4_init_da8c8 : GoodIn wsX2_beyond (wsJ4_init_da8c8) := ggX2_beyond_J4_init_da8c8
set_option maxRecDepth 20000 in
theorem ggX2_beyond_J4_append_15ec4 : GoodIn wsX2_beyond wsJ4_append_15ec4 := goodIn_k _ wcX2_beyond_eq [(2, 17), (2, 18), (2, 19), (2, 20), (2, 21), (1, 21), (2, 22), (2, 23), (3, 0), (3, 1), (3, 2), (3, 3), (3, 4), (2, 4), (3, 5), (3, 6), (3, 7), (3, 8), (3, 9), (2, 5), (3, 10), (3, 11), (3, 12), (3, 13), (3, 14), (3, 15), (3, 16), (3, 17), (3, 18), (3, 19), (3, 20), (3, 21), (3, 22), (3, 23), (4, 0), (4, 1), (4, 2), (4, 3), (4, 4), (4, 5), (4, 6), (4, 7), (4, 8), (4, 9), (4, 10), (4, 11), (4, 12), (4, 13), (2, 3), (4, 14), (4, 15), (4, 16), (4, 17), (4, 18), (4, 19), (4, 20), (4, 21), (4, 22), (4, 23), (5, 0), (5, 1), (2, 2), (5, 2), (5, 3), (2, 8), (5, 4), (5, 5), (5, 6), (5, 7), (5, 8), (5, 9), (5, 10), (5, 11), (5, 12), (5, 13), (5, 14), (5, 15), (5, 16), (5, 17), (5, 18), (5, 19), (5, 20), (5, 21), (5, 22), (5, 23), (6, 0), (6, 1), (6, 2), (6, 3), (6, 4), (6, 5), (6, 6), (6, 7), (6, 8), (6, 9), (6, 10), (6, 11), (6, 12), (6, 13), (6, 14), (6, 15), (6, 16), (6, 17), (6, 18), (6, 19), (6, 20), (6, 21), (6, 22), (6, 23), (7, 0), (7, 1), (7, 2), (7, 3), (7, 4), (2, 6), (2, 7), (2, 9), (2, 10), (2, 11), (2, 12), (2, 13), (7, 5), (7, 6), (7, 7), (7, 8), (7, 9), (7, 10), (7, 11), (7, 12), (7, 13), (7, 14), (7, 15), (7, 16), (7, 17), (7, 18), (7, 19), (7, 20), (7, 21), (7, 22), (7, 23), (8, 0), (8, 1), (8, 2), (12, 0), (12, 1), (12, 2), (12, 3), (12, 8), (12, 9), (12, 10), (12, 11)] rfl gw_wsJ4_append_15ec4
set_option maxRecDepth 20000 in
theorem gX2_beyond_J4_append_15ec4 : GoodIn wsX2_beyond (wsV RX2 82 RJ4 yJ4_append_15ec4 wsJ4_append_15ec4) := goodIn_app (goodIn_k _ wcX2_beyond_eq [(2, 14), (2, 15), (2, 16), (1, 2)] rfl (by decide +kernel)) ggX2_beyond_J4_append_15ec4
set_option maxRecDepth 20000 in
theorem ggX2_beyond_X2_size : GoodIn wsX2_beyond wsX2_size := goodIn_k _ wcX2_beyond_eq [(8, 5), (8, 6), (8, 7), (8, 8), (8, 9)] rfl gw_wsX2_size
set_option maxRecDepth 20000 in
theorem gX2_beyond_X2_size : GoodIn wsX2_beyond (va_wsS RX2 66 yX2_size wsX2_size) := goodIn_app (goodIn_k _ wcX2_beyond_eq [(8, 3), (8, 4), (1, 6)] rfl (by decide +kernel)) ggX2_beyond_X2_size
set_option maxRecDepth 20000 in
theorem ggX2_beyond_J4_append_f7089 : GoodIn wsX2_beyond wsJ4_append_f7089 := goodIn_k _ wcX2_beyond_eq [(8, 13), (8, 14), (8, 15), (2, 20), (8, 16), (1, 21), (8, 17), (2, 23), (2, 4), (8, 18), (8, 19), (8, 20), (8, 21), (8, 22), (8, 23), (3, 5), (3, 6), (3, 7), (3, 8), (3, 9), (2, 5), (3, 10), (3, 11), (3, 12), (3, 13), (3, 14), (3, 15), (3, 16), (3, 17), (3, 18), (3, 19), (3, 20), (3, 21), (3, 22), (3, 23), (4, 0), (4, 1), (4, 2), (4, 3), (4, 4), (4, 5), (4, 6), (4, 7), (4, 8), (4, 9), (4, 10), (4, 11), (4, 12), (4, 13), (2, 3), (4, 14), (4, 15), (4, 16), (4, 17), (4, 18), (4, 19), (4, 20), (4, 21), (4, 22), (4, 23), (5, 0), (5, 1), (2, 2), (9, 0), (9, 1), (9, 2), (9, 3), (9, 4), (9, 5), (9, 6), (9, 7), (9, 8), (2, 8), (9, 9), (5, 5), (5, 6), (5, 7), (5, 8), (5, 9), (5, 10), (5, 11), (5, 12), (5, 13), (5, 14), (5, 15), (5, 16), (5, 17), (5, 18), (5, 19), (5, 20), (9, 10), (9, 11), (9, 12), (9, 13), (9, 14), (9, 15), (9, 16), (5, 21), (5, 22), (5, 23), (6, 0), (6, 1), (12, 0), (12, 1), (12, 2), (12, 3)] rfl gw_wsJ4_append_f7089
set_option maxRecDepth 20000 in
theorem gX2_beyond_J4_append_f7089 : GoodIn wsX2_beyond (wsV RX2 86 RJ4 yJ4_append_f7089 wsJ4_append_f7089) := goodIn_app (goodIn_k _ wcX2_beyond_eq [(8, 10), (8, 11), (8, 12), (1, 2)] rfl (by decide +kernel)) ggX2_beyond_J4_append_f7089
set_option maxRecDepth 20000 in
theorem ggX2_beyond_J4_toString_0e30d : GoodIn wsX2_beyond wsJ4_toString_0e30d := goodIn_k _ wcX2_beyond_eq [(9, 20), (9, 21), (9, 22), (5, 14), (9, 23), (10, 0), (10, 1), (10, 2), (10, 3), (10, 4), (10, 5), (2, 0), (2, 1), (6, 12), (6, 6), (6, 11), (10, 6), (10, 7), (10, 8), (10, 9), (10, 10), (1, 21), (10, 11), (2, 4), (10, 12), (10, 13), (10, 14), (10, 15), (10, 16), (1, 2), (10, 17), (10, 18), (2, 20), (10, 19), (10, 20), (2, 23), (10, 21), (4, 22), (4, 23), (5, 0), (5, 1), (2, 2), (2, 5), (10, 22), (10, 23), (4, 6), (11, 0), (4, 8), (4, 9), (4, 10), (4, 11), (4, 12), (4, 13), (11, 1), (11, 2), (11, 3), (2, 3), (4, 14), (4, 15), (3, 22), (4, 16), (4, 17), (4, 18), (4, 19), (4, 20), (11, 4), (11, 5), (11, 6), (11, 7), (1, 1), (11, 8), (11, 9), (2, 8), (11, 10), (11, 11), (11, 12), (11, 13), (7, 12), (7, 13), (7, 14), (5, 9), (5, 10), (5, 11), (7, 15), (7, 16), (7, 17), (5, 16), (7, 18), (7, 19), (5, 19), (7, 20), (11, 14), (11, 15), (11, 16), (5, 5), (6, 0), (6, 1), (2, 10), (2, 11), (2, 12), (2, 13), (11, 17), (11, 18), (11, 19), (11, 20), (12, 8), (12, 9), (12, 10), (12, 11), (12, 0), (12, 1), (12, 2), (12, 3)] rfl gw_wsJ4_toString_0e30d
set_option maxRecDepth 20000 in
theorem gX2_beyond_J4_toString_0e30d : GoodIn wsX2_beyond (wsV RX2 89 RJ4 yJ4_toString_0e30d wsJ4_toString_0e30d) := goodIn_app (goodIn_k _ wcX2_beyond_eq [(9, 17), (9, 18), (9, 19), (1, 2)] rfl (by decide +kernel)) ggX2_beyond_J4_toString_0e30d
set_option maxRecDepth 20000 in
theorem ggX2_compare_X2_isNone : GoodIn wsX2_compare wsX2_isNone := goodIn_r _ [5, 6, 7, 4, 8] rfl gw_wsX2_isNone
set_option maxRecDepth 20000 in
theorem gX2_compare_X2_isNone : GoodIn wsX2_compare (va_wsS RX2 38 yX2_isNone wsX2_isNone) := goodIn_app (goodIn_r _ [2, 3, 4] rfl (by decide +kernel)) ggX2_compare_X2_isNone
set_option maxRecDepth 20000 in
theorem ggX2_compare_X2_isStopped : GoodIn wsX2_compare wsX2_isStopped := goodIn_r _ [12, 13, 17, 18, 19, 20] rfl gw_wsX2_isStopped
set_option maxRecDepth 20000 in
theorem gX2_compare_X2_isStopped : GoodIn wsX2_compare (wsV RX2 43 RX2 yX2_isStopped wsX2_isStopped) := goodIn_app (goodIn_r _ [9, 10, 11, 4] rfl (by decide +kernel)) ggX2_compare_X2_isStopped
set_option maxRecDepth 20000 in
theorem gw_wsX2_order : wsX2_order.all goodWord = true := by decide +kernel
set_option maxRecDepth 20000 in
theorem ggX2_compare_X2_order : GoodIn wsX2_compare wsX2_order := goodIn_r _ [16] rfl gw_wsX2_order
set_option maxRecDepth 20000 in
theorem gX2_compare_X2_order : GoodIn wsX2_compare (va_wsS RX2 100 yX2_order wsX2_order) := goodIn_app (goodIn_r _ [14, 15, 4] rfl (by decide +kernel)) ggX2_compare_X2_order
set_option maxRecDepth 20000 in
theorem ggX2_isAhead_X2_isNone : GoodIn wsX2_isAhead wsX2_isNone := goodIn_r _ [5, 6, 7, 4, 8] rfl gw_wsX2_isNone
set_option maxRecDepth 20000 in
theorem gX2_isAhead_X2_isNone : GoodIn wsX2_isAhead (va_wsS RX2 38 yX2_isNone wsX2_isNone) := goodIn_app (goodIn_r _ [2, 3, 4] rfl (by decide +kernel)) ggX2_isAhead_X2_isNone
set_option maxRecDepth 20000 in
theorem ggX2_isAhead_X2_isStopped : GoodIn wsX2_isAhead wsX2_isStopped := goodIn_r _ [12, 13, 14, 15, 16, 17] rfl gw_wsX2_isStopped
set_option maxRecDepth 20000 in
theorem gX2_isAhead_X2_isStopped : GoodIn wsX2_isAhead (wsV RX2 43 RX2 yX2_isStopped wsX2_isStopped) := goodIn_app (goodIn_r _ [9, 10, 11, 4] rfl (by decide +kernel)) ggX2_isAhead_X2_isStopped
set_option maxRecDepth 20000 in
theorem ggX2_isBehind_X2_isNone : GoodIn wsX2_isBehind wsX2_isNone := goodIn_r _ [5, 6, 7, 4, 8] rfl gw_wsX2_isNone
set_option maxRecDepth 20000 in
theorem gX2_isBehind_X2_isNone : GoodIn wsX2_isBehind (va_wsS RX2 38 yX2_isNone wsX2_isNone) := goodIn_app (goodIn_r _ [2, 3, 4] rfl (by decide +kernel)) ggX2_isBehind_X2_isNone
set_option maxRecDepth 20000 in
theorem ggX2_isBehind_X2_isStopped : GoodIn wsX2_isBehind wsX2_isStopped := goodIn_r _ [12, 13, 14, 15, 16, 17] rfl gw_wsX2_isStopped
set_option maxRecDepth 20000 in
theorem gX2_isBehind_X2_isStopped : GoodIn wsX2_isBehind (wsV RX2 43 RX2 yX2_isStopped wsX2_isStopped) := goodIn_app (goodIn_r _ [9, 10, 11, 4] rfl (by decide +kernel)) ggX2_isBehind_X2_isStopped
set_option maxRecDepth 20000 in
theorem ggX2_areAlike_X2_isNone : GoodIn wsX2_areAlike wsX2_isNone := goodIn_r _ [5, 6, 7, 4, 8] rfl gw_wsX2_isNone
set_option maxRecDepth 20000 in
theorem gX2_areAlike_X2_isNone : GoodIn wsX2_areAlike (va_wsS RX2 38 yX2_isNone wsX2_isNone) := goodIn_app (goodIn_r _ [2, 3, 4] rfl (by decide +kernel)) ggX2_areAlike_X2_isNone
set_option maxRecDepth 20000 in
theorem ggX2_areAlike_X2_isStopped : GoodIn wsX2_areAlike wsX2_isStopped := goodIn_r _ [12, 13, 14, 15, 16, 17] rfl gw_wsX2_isStopped
set_option maxRecDepth 20000 in
theorem gX2_areAlike_X2_isStopped : GoodIn wsX2_areAlike (wsV RX2 43 RX2 yX2_isStopped wsX2_isStopped) := goodIn_app (goodIn_r _ [9, 10, 11, 4] rfl (by decide +kernel)) ggX2_areAlike_X2_isStopped
set_option maxRecDepth 20000 in
theorem ggX2_apart_X2_size : GoodIn wsX2_apart wsX2_size := goodIn_r _ [5, 6, 7, 8, 9] rfl gw_wsX2_size
set_option maxRecDepth 20000 in
theorem gX2_apart_X2_size : GoodIn wsX2_apart (va_wsS RX2 66 yX2_size wsX2_size) := goodIn_app (goodIn_r _ [2, 3, 4] rfl (by decide +kernel)) ggX2_apart_X2_size
def wcX2_between : List (List Cond) := [[.code yX2_between cX2_between 4 (some (.object "java/lang/String"))], wsX2_between_r1, wsX2_between_r2, wsX2_between_r3, wsX2_between_r4, wsX2_between_r5, wsX2_between_r6, wsX2_between_r7, wsX2_between_r8, wsX2_between_r9, wsX2_between_r10, wsX2_between_r11, wsX2_between_r12, (wsJ40 ++ wsX20 ++ wsJ00 : List Cond)]
theorem wcX2_between_eq : wsX2_between = wcX2_between.flatten := by simp only [wsX2_between, wcX2_between, List.flatten_cons, List.flatten_nil, List.append_assoc, List.append_nil, List.cons_append, List.nil_append]
set_option maxRecDepth 20000 in
theorem ggX2_between_X2_isNone : GoodIn wsX2_between wsX2_isNone := goodIn_k _ wcX2_between_eq [(1, 6), (1, 7), (1, 8), (1, 5), (1, 9)] rfl gw_wsX2_isNone
set_option maxRecDepth 20000 in
theorem gX2_between_X2_isNone : GoodIn wsX2_between (va_wsS RX2 38 yX2_isNone wsX2_isNone) := goodIn_app (goodIn_k _ wcX2_between_eq [(1, 3), (1, 4), (1, 5)] rfl (by decide +kernel)) ggX2_between_X2_isNone
set_option maxRecDepth 20000 in
theorem ggX2_between_X2_isIn : GoodIn wsX2_between wsX2_isIn := goodIn_k _ wcX2_between_eq [(1, 9)] rfl gw_wsX2_isIn
set_option maxRecDepth 20000 in
theorem gX2_between_X2_isIn : GoodIn wsX2_between (va_wsS RX2 17 yX2_isIn wsX2_isIn) := goodIn_app (goodIn_k _ wcX2_between_eq [(1, 7), (1, 8), (1, 5)] rfl (by decide +kernel)) ggX2_between_X2_isIn
set_option maxRecDepth 20000 in
theorem ggX2_between_X2_isStopped : GoodIn wsX2_between wsX2_isStopped := goodIn_k _ wcX2_between_eq [(1, 13), (1, 14), (13, 4), (13, 5), (13, 6), (13, 7)] rfl gw_wsX2_isStopped
set_option maxRecDepth 20000 in
theorem gX2_between_X2_isStopped : GoodIn wsX2_between (wsV RX2 43 RX2 yX2_isStopped wsX2_isStopped) := goodIn_app (goodIn_k _ wcX2_between_eq [(1, 10), (1, 11), (1, 12), (1, 5)] rfl (by decide +kernel)) ggX2_between_X2_isStopped
set_option maxRecDepth 20000 in
theorem ggX2_between_J4_init_da8c8 : GoodIn wsX2_between wsJ4_init_da8c8 := goodIn_k _ wcX2_between_eq [(1, 17), (1, 18), (1, 19), (1, 20), (1, 21), (1, 22), (1, 23), (2, 0), (2, 1), (2, 2), (2, 3), (2, 4), (2, 5), (2, 6), (2, 7), (2, 8), (2, 9), (2, 10), (2, 11), (2, 12), (13, 0), (13, 1), (13, 2), (13, 3)] rfl gw_wsJ4_init_da8c8
set_option maxRecDepth 20000 in
theorem gX2_between_J4_init_da8c8 : GoodIn wsX2_between (wsJ4_init_da8c8) := ggX2_between_J4_init_da8c8
set_option maxRecDepth 20000 in
theorem ggX2_between_J4_append_15ec4 : GoodIn wsX2_between wsJ4_append_15ec4 := goodIn_k _ wcX2_between_eq [(2, 16), (2, 17), (2, 18), (2, 19), (2, 20), (1, 20), (2, 21), (2, 22), (2, 23), (3, 0), (3, 1), (3, 2), (3, 3), (2, 3), (3, 4), (3, 5), (3, 6), (3, 7), (3, 8), (2, 4), (3, 9), (3, 10), (3, 11), (3, 12), (3, 13), (3, 14), (3, 15), (3, 16), (3, 17), (3, 18), (3, 19), (3, 20), (3, 21), (3, 22), (3, 23), (4, 0), (4, 1), (4, 2), (4, 3), (4, 4), (4, 5), (4, 6), (4, 7), (4, 8), (4, 9), (4, 10), (4, 11), (4, 12), (2, 2), (4, 13), (4, 14), (4, 15), (4, 16), (4, 17), (4, 18), (4, 19), (4, 20), (4, 21), (4, 22), (4, 23), (5, 0), (2, 1), (5, 1), (5, 2), (2, 7), (5, 3), (5, 4), (5, 5), (5, 6), (5, 7), (5, 8), (5, 9), (5, 10), (5, 11), (5, 12), (5, 13), (5, 14), (5, 15), (5, 16), (5, 17), (5, 18), (5, 19), (5, 20), (5, 21), (5, 22), (5, 23), (6, 0), (6, 1), (6, 2), (6, 3), (6, 4), (6, 5), (6, 6), (6, 7), (6, 8), (6, 9), (6, 10), (6, 11), (6, 12), (6, 13), (6, 14), (6, 15), (6, 16), (6, 17), (6, 18), (6, 19), (6, 20), (6, 21), (6, 22), (6, 23), (7, 0), (7, 1), (7, 2), (7, 3), (2, 5), (2, 6), (2, 8), (2, 9), (2, 10), (2, 11), (2, 12), (7, 4), (7, 5), (7, 6), (7, 7), (7, 8), (7, 9), (7, 10), (7, 11), (7, 12), (7, 13), (7, 14), (7, 15), (7, 16), (7, 17), (7, 18), (7, 19), (7, 20), (7, 21), (7, 22), (7, 23), (8, 0), (8, 1), (13, 0), (13, 1), (13, 2), (13, 3), (13, 8), (13, 9), (13, 10), (13, 11)] rfl gw_wsJ4_append_15ec4
set_option maxRecDepth 20000 in
theorem gX2_between_J4_append_15ec4 : GoodIn wsX2_between (wsV RX2 82 RJ4 yJ4_append_15ec4 wsJ4_append_15ec4) := goodIn_app (goodIn_k _ wcX2_between_eq [(2, 13), (2, 14), (2, 15), (1, 2)] rfl (by decide +kernel)) ggX2_between_J4_append_15ec4
set_option maxRecDepth 20000 in
theorem gw_wsX2_apart : wsX2_apart.all goodWord = true := by decide +kernel
set_option maxRecDepth 20000 in
theorem ggX2_between_X2_apart : GoodIn wsX2_between wsX2_apart := goodIn_k _ wcX2_between_eq [(8, 5), (8, 6), (8, 7), (8, 8), (1, 5), (8, 9), (8, 10), (8, 11), (8, 12), (8, 13), (13, 4), (13, 5), (13, 6), (13, 7)] rfl gw_wsX2_apart
set_option maxRecDepth 20000 in
theorem gX2_between_X2_apart : GoodIn wsX2_between (wsV RX2 104 RX2 yX2_apart wsX2_apart) := goodIn_app (goodIn_k _ wcX2_between_eq [(8, 2), (8, 3), (8, 4), (1, 5)] rfl (by decide +kernel)) ggX2_between_X2_apart
set_option maxRecDepth 20000 in
theorem ggX2_between_J4_append_f7089 : GoodIn wsX2_between wsJ4_append_f7089 := goodIn_k _ wcX2_between_eq [(8, 17), (8, 18), (8, 19), (2, 19), (8, 20), (1, 20), (8, 21), (2, 22), (2, 3), (8, 22), (8, 23), (9, 0), (9, 1), (9, 2), (9, 3), (3, 4), (3, 5), (3, 6), (3, 7), (3, 8), (2, 4), (3, 9), (3, 10), (3, 11), (3, 12), (3, 13), (3, 14), (3, 15), (3, 16), (3, 17), (3, 18), (3, 19), (3, 20), (3, 21), (3, 22), (3, 23), (4, 0), (4, 1), (4, 2), (4, 3), (4, 4), (4, 5), (4, 6), (4, 7), (4, 8), (4, 9), (4, 10), (4, 11), (4, 12), (2, 2), (4, 13), (4, 14), (4, 15), (4, 16), (4, 17), (4, 18), (4, 19), (4, 20), (4, 21), (4, 22), (4, 23), (5, 0), (2, 1), (9, 4), (9, 5), (9, 6), (9, 7), (9, 8), (9, 9), (9, 10), (9, 11), (9, 12), (2, 7), (9, 13), (5, 4), (5, 5), (5, 6), (5, 7), (5, 8), (5, 9), (5, 10), (5, 11), (5, 12), (5, 13), (5, 14), (5, 15), (5, 16), (5, 17), (5, 18), (5, 19), (9, 14), (9, 15), (9, 16), (9, 17), (9, 18), (9, 19), (9, 20), (5, 20), (5, 21), (5, 22), (5, 23), (6, 0), (13, 0), (13, 1), (13, 2), (13, 3)] rfl gw_wsJ4_append_f7089
set_option maxRecDepth 20000 in
theorem gX2_between_J4_append_f7089 : GoodIn wsX2_between (wsV RX2 86 RJ4 yJ4_append_f7089 wsJ4_append_f7089) := goodIn_app (goodIn_k _ wcX2_between_eq [(8, 14), (8, 15), (8, 16), (1, 2)] rfl (by decide +kernel)) ggX2_between_J4_append_f7089
set_option maxRecDepth 20000 in
theorem ggX2_between_J4_toString_0e30d : GoodIn wsX2_between wsJ4_toString_0e30d := goodIn_k _ wcX2_between_eq [(10, 0), (10, 1), (10, 2), (5, 13), (10, 3), (10, 4), (10, 5), (10, 6), (10, 7), (10, 8), (10, 9), (1, 23), (2, 0), (6, 11), (6, 5), (6, 10), (10, 10), (10, 11), (10, 12), (10, 13), (10, 14), (1, 20), (10, 15), (2, 3), (10, 16), (10, 17), (10, 18), (10, 19), (10, 20), (1, 2), (10, 21), (10, 22), (2, 19), (10, 23), (11, 0), (2, 22), (11, 1), (4, 21), (4, 22), (4, 23), (5, 0), (2, 1), (2, 4), (11, 2), (11, 3), (4, 5), (11, 4), (4, 7), (4, 8), (4, 9), (4, 10), (4, 11), (4, 12), (11, 5), (11, 6), (11, 7), (2, 2), (4, 13), (4, 14), (3, 21), (4, 15), (4, 16), (4, 17), (4, 18), (4, 19), (11, 8), (11, 9), (11, 10), (11, 11), (1, 1), (11, 12), (11, 13), (2, 7), (11, 14), (11, 15), (11, 16), (11, 17), (7, 11), (7, 12), (7, 13), (5, 8), (5, 9), (5, 10), (7, 14), (7, 15), (7, 16), (5, 15), (7, 17), (7, 18), (5, 18), (7, 19), (11, 18), (11, 19), (11, 20), (5, 4), (5, 23), (6, 0), (2, 9), (2, 10), (2, 11), (2, 12), (11, 21), (11, 22), (11, 23), (12, 0), (13, 8), (13, 9), (13, 10), (13, 11), (13, 0), (13, 1), (13, 2), (13, 3)] rfl gw_wsJ4_toString_0e30d
set_option maxRecDepth 20000 in
theorem gX2_between_J4_toString_0e30d : GoodIn wsX2_between (wsV RX2 89 RJ4 yJ4_toString_0e30d wsJ4_toString_0e30d) := goodIn_app (goodIn_k _ wcX2_between_eq [(9, 21), (9, 22), (9, 23), (1, 2)] rfl (by decide +kernel)) ggX2_between_J4_toString_0e30d
def wcX2_ordered : List (List Cond) := [[.code yX2_ordered cX2_ordered 6 (some (.object "java/lang/String"))], wsX2_ordered_r1, wsX2_ordered_r2, wsX2_ordered_r3, wsX2_ordered_r4, wsX2_ordered_r5, wsX2_ordered_r6, wsX2_ordered_r7, wsX2_ordered_r8, wsX2_ordered_r9, wsX2_ordered_r10, (wsX20 ++ wsJ40 ++ wsJ00 : List Cond)]
theorem wcX2_ordered_eq : wsX2_ordered = wcX2_ordered.flatten := by simp only [wsX2_ordered, wcX2_ordered, List.flatten_cons, List.flatten_nil, List.append_assoc, List.append_nil, List.cons_append, List.nil_append]
set_option maxRecDepth 20000 in
theorem ggX2_ordered_J4_init_da8c8 : GoodIn wsX2_ordered wsJ4_init_da8c8 := goodIn_k _ wcX2_ordered_eq [(1, 6), (1, 7), (1, 8), (1, 9), (1, 10), (1, 11), (1, 12), (1, 13), (1, 14), (1, 15), (1, 16), (1, 17), (1, 18), (1, 19), (1, 20), (1, 21), (1, 22), (1, 23), (2, 0), (2, 1), (11, 4), (11, 5), (11, 6), (11, 7)] rfl gw_wsJ4_init_da8c8
set_option maxRecDepth 20000 in
theorem gX2_ordered_J4_init_da8c8 : GoodIn wsX2_ordered (wsJ4_init_da8c8) := ggX2_ordered_J4_init_da8c8
set_option maxRecDepth 20000 in
theorem ggX2_ordered_J4_append_15ec4 : GoodIn wsX2_ordered wsJ4_append_15ec4 := goodIn_k _ wcX2_ordered_eq [(2, 5), (2, 6), (2, 7), (2, 8), (2, 9), (1, 9), (2, 10), (2, 11), (2, 12), (2, 13), (2, 14), (2, 15), (2, 16), (1, 16), (2, 17), (2, 18), (2, 19), (2, 20), (2, 21), (1, 17), (2, 22), (2, 23), (3, 0), (3, 1), (3, 2), (3, 3), (3, 4), (3, 5), (3, 6), (3, 7), (3, 8), (3, 9), (3, 10), (3, 11), (3, 12), (3, 13), (3, 14), (3, 15), (3, 16), (3, 17), (3, 18), (3, 19), (3, 20), (3, 21), (3, 22), (3, 23), (4, 0), (4, 1), (1, 15), (4, 2), (4, 3), (4, 4), (4, 5), (4, 6), (4, 7), (4, 8), (4, 9), (4, 10), (4, 11), (4, 12), (4, 13), (1, 14), (4, 14), (4, 15), (1, 20), (4, 16), (4, 17), (4, 18), (4, 19), (4, 20), (4, 21), (4, 22), (4, 23), (5, 0), (5, 1), (5, 2), (5, 3), (5, 4), (5, 5), (5, 6), (5, 7), (5, 8), (5, 9), (5, 10), (5, 11), (5, 12), (5, 13), (5, 14), (5, 15), (5, 16), (5, 17), (5, 18), (5, 19), (5, 20), (5, 21), (5, 22), (5, 23), (6, 0), (6, 1), (6, 2), (6, 3), (6, 4), (6, 5), (6, 6), (6, 7), (6, 8), (6, 9), (6, 10), (6, 11), (6, 12), (6, 13), (6, 14), (6, 15), (6, 16), (1, 18), (1, 19), (1, 21), (1, 22), (1, 23), (2, 0), (2, 1), (6, 17), (6, 18), (6, 19), (6, 20), (6, 21), (6, 22), (6, 23), (7, 0), (7, 1), (7, 2), (7, 3), (7, 4), (7, 5), (7, 6), (7, 7), (7, 8), (7, 9), (7, 10), (7, 11), (7, 12), (7, 13), (7, 14), (11, 4), (11, 5), (11, 6), (11, 7), (11, 8), (11, 9), (11, 10), (11, 11)] rfl gw_wsJ4_append_15ec4
set_option maxRecDepth 20000 in
theorem gX2_ordered_J4_append_15ec4 : GoodIn wsX2_ordered (wsV RX2 82 RJ4 yJ4_append_15ec4 wsJ4_append_15ec4) := goodIn_app (goodIn_k _ wcX2_ordered_eq [(2, 2), (2, 3), (2, 4), (1, 3)] rfl (by decide +kernel)) ggX2_ordered_J4_append_15ec4
set_option maxRecDepth 20000 in
theorem ggX2_ordered_J4_append_bf812 : GoodIn wsX2_ordered wsJ4_append_bf812 := goodIn_k _ wcX2_ordered_eq [(7, 18), (7, 19), (7, 20), (2, 8), (7, 21), (1, 9), (7, 22), (2, 11), (1, 16), (7, 23), (8, 0), (8, 1), (8, 2), (2, 17), (2, 18), (2, 19), (2, 20), (2, 21), (1, 17), (2, 22), (2, 23), (3, 0), (3, 1), (3, 2), (3, 3), (3, 4), (3, 5), (3, 6), (3, 7), (3, 8), (3, 9), (3, 10), (3, 11), (3, 12), (3, 13), (3, 14), (3, 15), (3, 16), (3, 17), (3, 18), (3, 19), (3, 20), (3, 21), (3, 22), (3, 23), (4, 0), (4, 1), (1, 15), (4, 2), (4, 3), (4, 4), (4, 5), (4, 6), (4, 7), (4, 8), (4, 9), (4, 10), (4, 11), (4, 12), (4, 13), (1, 14), (8, 3), (8, 4), (8, 5), (8, 6), (8, 7), (8, 8), (8, 9), (1, 20), (8, 10), (4, 17), (4, 18), (4, 19), (4, 20), (4, 21), (4, 22), (4, 23), (5, 0), (5, 1), (5, 2), (5, 3), (5, 4), (5, 5), (5, 6), (5, 7), (5, 8), (8, 11), (8, 12), (8, 13), (8, 14), (8, 15), (5, 9), (5, 10), (5, 11), (5, 12), (5, 13), (11, 4), (11, 5), (11, 6), (11, 7)] rfl gw_wsJ4_append_bf812
set_option maxRecDepth 20000 in
theorem gX2_ordered_J4_append_bf812 : GoodIn wsX2_ordered (wsV RX2 93 RJ4 yJ4_append_bf812 wsJ4_append_bf812) := goodIn_app (goodIn_k _ wcX2_ordered_eq [(7, 15), (7, 16), (7, 17), (1, 3)] rfl (by decide +kernel)) ggX2_ordered_J4_append_bf812
set_option maxRecDepth 20000 in
theorem ggX2_ordered_J4_toString_0e30d : GoodIn wsX2_ordered wsJ4_toString_0e30d := goodIn_k _ wcX2_ordered_eq [(8, 19), (8, 20), (8, 21), (5, 2), (8, 22), (8, 23), (9, 0), (9, 1), (9, 2), (9, 3), (9, 4), (1, 12), (1, 13), (6, 0), (5, 18), (5, 23), (9, 5), (9, 6), (9, 7), (9, 8), (9, 9), (1, 9), (9, 10), (1, 16), (9, 11), (9, 12), (9, 13), (9, 14), (9, 15), (1, 3), (9, 16), (9, 17), (2, 8), (9, 18), (9, 19), (2, 11), (9, 20), (4, 10), (4, 11), (4, 12), (4, 13), (1, 14), (1, 17), (9, 21), (9, 22), (3, 18), (9, 23), (3, 20), (3, 21), (3, 22), (3, 23), (4, 0), (4, 1), (10, 0), (10, 1), (10, 2), (1, 15), (4, 2), (4, 3), (3, 10), (4, 4), (4, 5), (4, 6), (4, 7), (4, 8), (10, 3), (10, 4), (10, 5), (10, 6), (1, 2), (10, 7), (10, 8), (1, 20), (10, 9), (10, 10), (10, 11), (10, 12), (7, 0), (7, 1), (7, 2), (4, 21), (4, 22), (4, 23), (7, 3), (7, 4), (7, 5), (5, 4), (7, 6), (7, 7), (5, 7), (7, 8), (10, 13), (10, 14), (10, 15), (4, 17), (5, 12), (5, 13), (1, 22), (1, 23), (2, 0), (2, 1), (10, 16), (10, 17), (10, 18), (10, 19), (11, 8), (11, 9), (11, 10), (11, 11), (11, 4), (11, 5), (11, 6), (11, 7)] rfl gw_wsJ4_toString_0e30d
set_option maxRecDepth 20000 in
theorem gX2_ordered_J4_toString_0e30d : GoodIn wsX2_ordered (wsV RX2 89 RJ4 yJ4_toString_0e30d wsJ4_toString_0e30d) := goodIn_app (goodIn_k _ wcX2_ordered_eq [(8, 16), (8, 17), (8, 18), (1, 3)] rfl (by decide +kernel)) ggX2_ordered_J4_toString_0e30d
set_option maxRecDepth 20000 in
theorem gw_wsX2_ordered : wsX2_ordered.all goodWord = true := by decide +kernel
def wcX2_order_ : List (List Cond) := [[.code yX2_order_ cX2_order_ 1 (some (.object "java/lang/String"))], wsX2_order__r1, wsX2_order__r2, wsX2_order__r3, wsX2_order__r4, wsX2_order__r5, wsX2_order__r6, wsX2_order__r7, wsX2_order__r8, wsX2_order__r9, wsX2_order__r10, wsX2_order__r11, (wsX20 ++ wsJ40 ++ wsJ00 : List Cond)]
theorem wcX2_order__eq : wsX2_order_ = wcX2_order_.flatten := by simp only [wsX2_order_, wcX2_order_, List.flatten_cons, List.flatten_nil, List.append_assoc, List.append_nil, List.cons_append, List.nil_append]
set_option maxRecDepth 20000 in
theorem ggX2_order__X2_ordered : GoodIn wsX2_order_ wsX2_ordered := goodIn_k _ wcX2_order__eq [(1, 5), (1, 6), (1, 7), (1, 8), (1, 9), (1, 10), (1, 11), (1, 12), (1, 13), (1, 14), (1, 15), (1, 16), (1, 17), (1, 18), (1, 19), (1, 20), (1, 21), (1, 22), (1, 23), (2, 0), (2, 1), (2, 2), (2, 3), (2, 4), (2, 5), (2, 6), (2, 7), (2, 8), (2, 9), (2, 10), (2, 11), (2, 12), (2, 13), (2, 14), (2, 15), (2, 16), (2, 17), (2, 18), (2, 19), (2, 20), (2, 21), (2, 22), (2, 23), (3, 0), (3, 1), (3, 2), (3, 3), (3, 4), (3, 5), (3, 6), (3, 7), (3, 8), (3, 9), (3, 10), (3, 11), (3, 12), (3, 13), (3, 14), (3, 15), (3, 16), (3, 17), (3, 18), (3, 19), (3, 20), (3, 21), (3, 22), (3, 23), (4, 0), (4, 1), (4, 2), (4, 3), (4, 4), (4, 5), (4, 6), (4, 7), (4, 8), (4, 9), (4, 10), (4, 11), (4, 12), (4, 13), (4, 14), (4, 15), (4, 16), (4, 17), (4, 18), (4, 19), (4, 20), (4, 21), (4, 22), (4, 23), (5, 0), (5, 1), (5, 2), (5, 3), (5, 4), (5, 5), (5, 6), (5, 7), (5, 8), (5, 9), (5, 10), (5, 11), (5, 12), (5, 13), (5, 14), (5, 15), (5, 16), (5, 17), (5, 18), (5, 19), (5, 20), (5, 21), (5, 22), (5, 23), (6, 0), (6, 1), (6, 2), (6, 3), (6, 4), (6, 5), (6, 6), (6, 7), (6, 8), (6, 9), (6, 10), (6, 11), (6, 12), (6, 13), (6, 14), (6, 15), (6, 16), (6, 17), (6, 18), (6, 19), (6, 20), (6, 21), (6, 22), (6, 23), (7, 0), (7, 1), (7, 2), (7, 3), (7, 4), (7, 5), (7, 6), (7, 7), (7, 8), (7, 9), (7, 10), (7, 11), (7, 12), (7, 13), (7, 14), (7, 15), (7, 16), (7, 17), (7, 18), (7, 19), (7, 20), (7, 21), (7, 22), (7, 23), (8, 0), (8, 1), (8, 2), (8, 3), (8, 4), (8, 5), (8, 6), (8, 7), (8, 8), (8, 9), (8, 10), (8, 11), (8, 12), (8, 13), (8, 14), (8, 15), (8, 16), (8, 17), (8, 18), (8, 19), (8, 20), (8, 21), (8, 22), (8, 23), (9, 0), (9, 1), (9, 2), (9, 3), (9, 4), (9, 5), (9, 6), (9, 7), (9, 8), (9, 9), (9, 10), (9, 11), (9, 12), (9, 13), (9, 14), (9, 15), (9, 16), (9, 17), (9, 18), (9, 19), (9, 20), (9, 21), (9, 22), (9, 23), (10, 0), (10, 1), (10, 2), (10, 3), (10, 4), (10, 5), (10, 6), (10, 7), (10, 8), (10, 9), (10, 10), (10, 11), (10, 12), (10, 13), (10, 14), (10, 15), (10, 16), (10, 17), (10, 18), (10, 19), (10, 20), (10, 21), (10, 22), (10, 23), (11, 0), (11, 1), (12, 0), (12, 1), (12, 2), (12, 3), (12, 4), (12, 5), (12, 6), (12, 7), (12, 8), (12, 9), (12, 10), (12, 11)] rfl gw_wsX2_ordered
set_option maxRecDepth 20000 in
theorem gX2_order__X2_ordered : GoodIn wsX2_order_ (wsV RX2 110 RX2 yX2_ordered wsX2_ordered) := goodIn_app (goodIn_k _ wcX2_order__eq [(1, 1), (1, 2), (1, 3), (1, 4)] rfl (by decide +kernel)) ggX2_order__X2_ordered
set_option maxRecDepth 20000 in
theorem gw_wsX2_unlike : wsX2_unlike.all goodWord = true := by decide +kernel
set_option maxRecDepth 20000 in
theorem ggX2_kinds_X2_unlike : GoodIn wsX2_kinds wsX2_unlike := goodIn_r _ [6, 7, 8, 9, 10, 11] rfl gw_wsX2_unlike
set_option maxRecDepth 20000 in
theorem gX2_kinds_X2_unlike : GoodIn wsX2_kinds (wsV RX2 113 RX2 yX2_unlike wsX2_unlike) := goodIn_app (goodIn_r _ [2, 3, 4, 5] rfl (by decide +kernel)) ggX2_kinds_X2_unlike
set_option maxRecDepth 20000 in
theorem ggX2_house_X2_isStopped : GoodIn wsX2_house wsX2_isStopped := goodIn_r _ [7, 8, 16, 17, 18, 19] rfl gw_wsX2_isStopped
set_option maxRecDepth 20000 in
theorem gX2_house_X2_isStopped : GoodIn wsX2_house (wsV RX2 43 RX2 yX2_isStopped wsX2_isStopped) := goodIn_app (goodIn_r _ [3, 4, 5, 6] rfl (by decide +kernel)) ggX2_house_X2_isStopped
set_option maxRecDepth 20000 in
theorem ggX2_house_X2_isIn : GoodIn wsX2_house wsX2_isIn := goodIn_r _ [11] rfl gw_wsX2_isIn
set_option maxRecDepth 20000 in
theorem gX2_house_X2_isIn : GoodIn wsX2_house (va_wsS RX2 17 yX2_isIn wsX2_isIn) := goodIn_app (goodIn_r _ [9, 10, 6] rfl (by decide +kernel)) ggX2_house_X2_isIn
set_option maxRecDepth 20000 in
theorem gw_wsX2_refused : wsX2_refused.all goodWord = true := by decide +kernel
set_option maxRecDepth 20000 in
theorem ggX2_house_X2_refused : GoodIn wsX2_house wsX2_refused := goodIn_r _ [15, 8, 16, 17, 18, 19] rfl gw_wsX2_refused
set_option maxRecDepth 20000 in
theorem gX2_house_X2_refused : GoodIn wsX2_house (wsV RX2 120 RX2 yX2_refused wsX2_refused) := goodIn_app (goodIn_r _ [12, 13, 14, 6] rfl (by decide +kernel)) ggX2_house_X2_refused
set_option maxRecDepth 20000 in
theorem gw_wsX2_add : wsX2_add.all goodWord = true := by decide +kernel
def wcX2_digest : List (List Cond) := [[.code yX2_digest cX2_digest 9 (some .long)], wsX2_digest_r1, wsX2_digest_r2, wsX2_digest_r3, wsX2_digest_r4, wsX2_digest_r5, wsX2_digest_r6, wsX2_digest_r7, wsX2_digest_r8, wsX2_digest_r9, wsX2_digest_r10, wsX2_digest_r11, wsX2_digest_r12, wsX2_digest_r13, (wsX20 ++ wsJ40 ++ wsJ00 : List Cond)]
theorem wcX2_digest_eq : wsX2_digest = wcX2_digest.flatten := by simp only [wsX2_digest, wcX2_digest, List.flatten_cons, List.flatten_nil, List.append_assoc, List.append_nil, List.cons_append, List.nil_append]
set_option maxRecDepth 20000 in
theorem ggX2_digest_X2_add : GoodIn wsX2_digest wsX2_add := goodIn_k _ wcX2_digest_eq [(1, 8), (1, 9)] rfl gw_wsX2_add
set_option maxRecDepth 20000 in
theorem gX2_digest_X2_add : GoodIn wsX2_digest (va_wsS RX2 128 yX2_add wsX2_add) := goodIn_app (goodIn_k _ wcX2_digest_eq [(1, 5), (1, 6), (1, 7)] rfl (by decide +kernel)) ggX2_digest_X2_add
set_option maxRecDepth 20000 in
theorem ggX2_digest_X2_part : GoodIn wsX2_digest wsX2_part := goodIn_k _ wcX2_digest_eq [(1, 12), (1, 13), (1, 14), (1, 15), (1, 7), (1, 16)] rfl gw_wsX2_part
set_option maxRecDepth 20000 in
theorem gX2_digest_X2_part : GoodIn wsX2_digest (va_wsS RX2 56 yX2_part wsX2_part) := goodIn_app (goodIn_k _ wcX2_digest_eq [(1, 10), (1, 11), (1, 7)] rfl (by decide +kernel)) ggX2_digest_X2_part
set_option maxRecDepth 20000 in
theorem ggX2_digest_X2_order : GoodIn wsX2_digest wsX2_order := goodIn_k _ wcX2_digest_eq [(1, 19)] rfl gw_wsX2_order
set_option maxRecDepth 20000 in
theorem gX2_digest_X2_order : GoodIn wsX2_digest (va_wsS RX2 100 yX2_order wsX2_order) := goodIn_app (goodIn_k _ wcX2_digest_eq [(1, 17), (1, 18), (1, 7)] rfl (by decide +kernel)) ggX2_digest_X2_order
set_option maxRecDepth 20000 in
theorem ggX2_digest_X2_apart : GoodIn wsX2_digest wsX2_apart := goodIn_k _ wcX2_digest_eq [(1, 23), (1, 4), (2, 0), (2, 1), (1, 7), (2, 2), (2, 3), (2, 4), (2, 5), (2, 6), (14, 0), (14, 1), (14, 2), (14, 3)] rfl gw_wsX2_apart
set_option maxRecDepth 20000 in
theorem gX2_digest_X2_apart : GoodIn wsX2_digest (wsV RX2 104 RX2 yX2_apart wsX2_apart) := goodIn_app (goodIn_k _ wcX2_digest_eq [(1, 20), (1, 21), (1, 22), (1, 7)] rfl (by decide +kernel)) ggX2_digest_X2_apart
set_option maxRecDepth 20000 in
theorem ggX2_digest_X2_unlike : GoodIn wsX2_digest wsX2_unlike := goodIn_k _ wcX2_digest_eq [(2, 10), (1, 4), (14, 0), (14, 1), (14, 2), (14, 3)] rfl gw_wsX2_unlike
set_option maxRecDepth 20000 in
theorem gX2_digest_X2_unlike : GoodIn wsX2_digest (wsV RX2 113 RX2 yX2_unlike wsX2_unlike) := goodIn_app (goodIn_k _ wcX2_digest_eq [(2, 7), (2, 8), (2, 9), (1, 7)] rfl (by decide +kernel)) ggX2_digest_X2_unlike
set_option maxRecDepth 20000 in
theorem ggX2_digest_X2_ordered : GoodIn wsX2_digest wsX2_ordered := goodIn_k _ wcX2_digest_eq [(2, 14), (1, 4), (2, 15), (2, 16), (2, 17), (2, 18), (2, 19), (2, 20), (2, 21), (2, 22), (2, 23), (3, 0), (3, 1), (3, 2), (3, 3), (3, 4), (3, 5), (3, 6), (3, 7), (3, 8), (3, 9), (3, 10), (3, 11), (3, 12), (3, 13), (3, 14), (3, 15), (3, 16), (3, 17), (3, 18), (3, 19), (3, 20), (3, 21), (3, 22), (3, 23), (4, 0), (4, 1), (4, 2), (4, 3), (4, 4), (4, 5), (4, 6), (4, 7), (4, 8), (4, 9), (4, 10), (4, 11), (4, 12), (4, 13), (4, 14), (4, 15), (4, 16), (4, 17), (4, 18), (4, 19), (4, 20), (4, 21), (4, 22), (4, 23), (5, 0), (5, 1), (5, 2), (5, 3), (5, 4), (5, 5), (5, 6), (5, 7), (5, 8), (5, 9), (5, 10), (5, 11), (5, 12), (5, 13), (5, 14), (5, 15), (5, 16), (5, 17), (5, 18), (5, 19), (5, 20), (5, 21), (5, 22), (5, 23), (6, 0), (6, 1), (6, 2), (6, 3), (6, 4), (6, 5), (6, 6), (6, 7), (6, 8), (6, 9), (6, 10), (6, 11), (6, 12), (6, 13), (6, 14), (6, 15), (6, 16), (6, 17), (6, 18), (6, 19), (6, 20), (6, 21), (6, 22), (6, 23), (7, 0), (7, 1), (7, 2), (7, 3), (7, 4), (7, 5), (7, 6), (7, 7), (7, 8), (7, 9), (7, 10), (7, 11), (7, 12), (7, 13), (7, 14), (7, 15), (7, 16), (7, 17), (7, 18), (7, 19), (7, 20), (7, 21), (7, 22), (7, 23), (8, 0), (8, 1), (8, 2), (8, 3), (8, 4), (8, 5), (8, 6), (8, 7), (8, 8), (8, 9), (8, 10), (8, 11), (8, 12), (8, 13), (8, 14), (8, 15), (8, 16), (8, 17), (8, 18), (8, 19), (8, 20), (8, 21), (8, 22), (8, 23), (9, 0), (9, 1), (9, 2), (9, 3), (9, 4), (9, 5), (9, 6), (9, 7), (9, 8), (9, 9), (9, 10), (9, 11), (9, 12), (9, 13), (9, 14), (9, 15), (9, 16), (9, 17), (9, 18), (9, 19), (9, 20), (9, 21), (9, 22), (9, 23), (10, 0), (10, 1), (10, 2), (10, 3), (10, 4), (10, 5), (10, 6), (10, 7), (10, 8), (10, 9), (10, 10), (10, 11), (10, 12), (10, 13), (10, 14), (10, 15), (10, 16), (10, 17), (10, 18), (10, 19), (10, 20), (10, 21), (10, 22), (10, 23), (11, 0), (11, 1), (11, 2), (11, 3), (11, 4), (11, 5), (11, 6), (11, 7), (11, 8), (11, 9), (11, 10), (11, 11), (11, 12), (11, 13), (11, 14), (11, 15), (11, 16), (11, 17), (11, 18), (11, 19), (11, 20), (11, 21), (11, 22), (11, 23), (12, 0), (12, 1), (12, 2), (12, 3), (12, 4), (12, 5), (12, 6), (12, 7), (12, 8), (12, 9), (14, 0), (14, 1), (14, 2), (14, 3), (14, 4), (14, 5), (14, 6), (14, 7), (14, 8), (14, 9), (14, 10), (14, 11)] rfl gw_wsX2_ordered
set_option maxRecDepth 20000 in
theorem gX2_digest_X2_ordered : GoodIn wsX2_digest (wsV RX2 110 RX2 yX2_ordered wsX2_ordered) := goodIn_app (goodIn_k _ wcX2_digest_eq [(2, 11), (2, 12), (2, 13), (1, 7)] rfl (by decide +kernel)) ggX2_digest_X2_ordered
set_option maxRecDepth 20000 in
theorem ggX2_digest_J0_length_8abf5 : GoodIn wsX2_digest wsJ0_length_8abf5 := goodIn_k _ wcX2_digest_eq [(7, 7), (7, 8), (7, 9), (7, 10), (7, 11), (6, 16), (7, 12), (7, 13), (7, 14), (14, 8), (14, 9), (14, 10), (14, 11)] rfl gw_wsJ0_length_8abf5
set_option maxRecDepth 20000 in
theorem gX2_digest_J0_length_8abf5 : GoodIn wsX2_digest (wsV RX2 132 RJ0 yJ0_length_8abf5 wsJ0_length_8abf5) := goodIn_app (goodIn_k _ wcX2_digest_eq [(12, 10), (7, 5), (7, 6), (6, 16)] rfl (by decide +kernel)) ggX2_digest_J0_length_8abf5
set_option maxRecDepth 20000 in
theorem ggX2_digest_J0_charAt_5068e : GoodIn wsX2_digest wsJ0_charAt_5068e := goodIn_k _ wcX2_digest_eq [(12, 14), (7, 8), (12, 15), (12, 16), (12, 17), (6, 16), (12, 18), (7, 13), (7, 14), (12, 19), (12, 20), (8, 9), (12, 21), (12, 22), (12, 23), (13, 0), (6, 18), (13, 1), (13, 2), (6, 21), (13, 3), (13, 4), (13, 5), (3, 10), (13, 6), (13, 7), (13, 8), (13, 9), (6, 11), (6, 12), (6, 13), (13, 10), (12, 3), (12, 4), (12, 5), (6, 7), (7, 2), (7, 3), (14, 8), (14, 9), (14, 10), (14, 11)] rfl gw_wsJ0_charAt_5068e
set_option maxRecDepth 20000 in
theorem gX2_digest_J0_charAt_5068e : GoodIn wsX2_digest (wsV RX2 137 RJ0 yJ0_charAt_5068e wsJ0_charAt_5068e) := goodIn_app (goodIn_k _ wcX2_digest_eq [(12, 11), (12, 12), (12, 13), (6, 16)] rfl (by decide +kernel)) ggX2_digest_J0_charAt_5068e
