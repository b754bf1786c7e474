set_option maxRecDepth 20000 in
theorem ggX0_tell_X0_needClock : GoodIn wsX0_tell wsX0_needClock := goodIn_ca (goodIn_r _ [4, 5, 6] rfl (by decide +kernel)) (goodIn_sub (fun _ h => List.mem_cons_of_mem _ (List.mem_append_left _ (List.mem_append_right _ h))) (by decide +kernel))
set_option maxRecDepth 20000 in
theorem gX0_tell_X0_needClock : GoodIn wsX0_tell (va_wsS RX0 20 yX0_needClock wsX0_needClock) := goodIn_app (goodIn_of _ (by decide +kernel)) ggX0_tell_X0_needClock
set_option maxRecDepth 20000 in
theorem ggX0_tell_X0_needPart : GoodIn wsX0_tell wsX0_needPart := goodIn_ca (goodIn_r _ [9, 10, 11, 12] rfl (by decide +kernel)) (goodIn_sub (fun _ h => List.mem_cons_of_mem _ (List.mem_append_right _ h)) (by decide +kernel))
set_option maxRecDepth 20000 in
theorem gX0_tell_X0_needPart : GoodIn wsX0_tell (va_wsS RX0 24 yX0_needPart wsX0_needPart) := goodIn_app (goodIn_of _ (by decide +kernel)) ggX0_tell_X0_needPart
set_option maxRecDepth 20000 in
theorem ggX0_tell_X0_numberOfParts : GoodIn wsX0_tell wsX0_numberOfParts := goodIn_r _ [15, 16, 17, 18] rfl (by decide +kernel)
set_option maxRecDepth 20000 in
theorem gX0_tell_X0_numberOfParts : GoodIn wsX0_tell (va_wsS RX0 28 yX0_numberOfParts wsX0_numberOfParts) := goodIn_app (goodIn_of _ (by decide +kernel)) ggX0_tell_X0_numberOfParts
set_option maxRecDepth 20000 in
theorem ggX0_tell_X0_settle : GoodIn wsX0_tell wsX0_settle := goodIn_r _ [22, 23, 24, 25, 26, 3, 27, 18, 28, 29, 30] rfl (by decide +kernel)
set_option maxRecDepth 20000 in
theorem gX0_tell_X0_settle : GoodIn wsX0_tell (wsV RX0 32 RX0 yX0_settle wsX0_settle) := goodIn_app (goodIn_of _ (by decide +kernel)) ggX0_tell_X0_settle
set_option maxRecDepth 20000 in
theorem ggX0_tellSecond_X0_needClock : GoodIn wsX0_tellSecond wsX0_needClock := goodIn_ca (goodIn_r _ [5, 6, 7] rfl (by decide +kernel)) (goodIn_sub (fun _ h => List.mem_cons_of_mem _ (List.mem_append_left _ (List.mem_append_right _ h))) (by decide +kernel))
set_option maxRecDepth 20000 in
theorem gX0_tellSecond_X0_needClock : GoodIn wsX0_tellSecond (va_wsS RX0 20 yX0_needClock wsX0_needClock) := goodIn_app (goodIn_of _ (by decide +kernel)) ggX0_tellSecond_X0_needClock
set_option maxRecDepth 20000 in
theorem ggX0_tellSecond_X0_needSecondOfDay : GoodIn wsX0_tellSecond wsX0_needSecondOfDay := goodIn_ca (goodIn_r _ [10, 11, 12, 13] rfl (by decide +kernel)) (goodIn_sub (fun _ h => List.mem_cons_of_mem _ (List.mem_append_right _ h)) (by decide +kernel))
set_option maxRecDepth 20000 in
theorem gX0_tellSecond_X0_needSecondOfDay : GoodIn wsX0_tellSecond (va_wsS RX0 36 yX0_needSecondOfDay wsX0_needSecondOfDay) := goodIn_app (goodIn_of _ (by decide +kernel)) ggX0_tellSecond_X0_needSecondOfDay
set_option maxRecDepth 20000 in
theorem ggX0_tellSecond_X0_settle : GoodIn wsX0_tellSecond wsX0_settle := goodIn_r _ [17, 18, 19, 20, 21, 4, 22, 1, 27, 28, 29] rfl (by decide +kernel)
set_option maxRecDepth 20000 in
theorem gX0_tellSecond_X0_settle : GoodIn wsX0_tellSecond (wsV RX0 32 RX0 yX0_settle wsX0_settle) := goodIn_app (goodIn_of _ (by decide +kernel)) ggX0_tellSecond_X0_settle
set_option maxRecDepth 20000 in
theorem ggX0_tellSecond_X0_numberOf : GoodIn wsX0_tellSecond wsX0_numberOf := goodIn_r _ [26, 18, 27, 28, 29] rfl (by decide +kernel)
set_option maxRecDepth 20000 in
theorem gX0_tellSecond_X0_numberOf : GoodIn wsX0_tellSecond (wsV RX0 41 RX0 yX0_numberOf wsX0_numberOf) := goodIn_app (goodIn_of _ (by decide +kernel)) ggX0_tellSecond_X0_numberOf
set_option maxRecDepth 20000 in
theorem ggX0_tellSecond_X0_partOf : GoodIn wsX0_tellSecond wsX0_partOf := goodIn_r _ [22, 1] rfl (by decide +kernel)
set_option maxRecDepth 20000 in
theorem gX0_tellSecond_X0_partOf : GoodIn wsX0_tellSecond (va_wsS RX0 45 yX0_partOf wsX0_partOf) := goodIn_app (goodIn_of _ (by decide +kernel)) ggX0_tellSecond_X0_partOf
set_option maxRecDepth 20000 in
theorem ggX0_tellNumber_X0_needClock : GoodIn wsX0_tellNumber wsX0_needClock := goodIn_ca (goodIn_r _ [5, 6, 7] rfl (by decide +kernel)) (goodIn_sub (fun _ h => List.mem_cons_of_mem _ (List.mem_append_left _ (List.mem_append_right _ h))) (by decide +kernel))
set_option maxRecDepth 20000 in
theorem gX0_tellNumber_X0_needClock : GoodIn wsX0_tellNumber (va_wsS RX0 20 yX0_needClock wsX0_needClock) := goodIn_app (goodIn_of _ (by decide +kernel)) ggX0_tellNumber_X0_needClock
set_option maxRecDepth 20000 in
theorem ggX0_tellNumber_X0_needSecondOfDay : GoodIn wsX0_tellNumber wsX0_needSecondOfDay := goodIn_ca (goodIn_r _ [10, 11, 12, 13] rfl (by decide +kernel)) (goodIn_sub (fun _ h => List.mem_cons_of_mem _ (List.mem_append_right _ h)) (by decide +kernel))
set_option maxRecDepth 20000 in
theorem gX0_tellNumber_X0_needSecondOfDay : GoodIn wsX0_tellNumber (va_wsS RX0 36 yX0_needSecondOfDay wsX0_needSecondOfDay) := goodIn_app (goodIn_of _ (by decide +kernel)) ggX0_tellNumber_X0_needSecondOfDay
set_option maxRecDepth 20000 in
theorem ggX0_tellNumber_X0_needPart : GoodIn wsX0_tellNumber wsX0_needPart := goodIn_ca (goodIn_r _ [16, 11, 12, 17] rfl (by decide +kernel)) (goodIn_sub (fun _ h => List.mem_cons_of_mem _ (List.mem_append_right _ h)) (by decide +kernel))
set_option maxRecDepth 20000 in
theorem gX0_tellNumber_X0_needPart : GoodIn wsX0_tellNumber (va_wsS RX0 24 yX0_needPart wsX0_needPart) := goodIn_app (goodIn_of _ (by decide +kernel)) ggX0_tellNumber_X0_needPart
set_option maxRecDepth 20000 in
theorem ggX0_tellNumber_X0_settle : GoodIn wsX0_tellNumber wsX0_settle := goodIn_r _ [21, 22, 23, 24, 25, 4, 26, 1, 31, 32, 33] rfl (by decide +kernel)
set_option maxRecDepth 20000 in
theorem gX0_tellNumber_X0_settle : GoodIn wsX0_tellNumber (wsV RX0 32 RX0 yX0_settle wsX0_settle) := goodIn_app (goodIn_of _ (by decide +kernel)) ggX0_tellNumber_X0_settle
set_option maxRecDepth 20000 in
theorem ggX0_tellNumber_X0_numberOf : GoodIn wsX0_tellNumber wsX0_numberOf := goodIn_r _ [30, 22, 31, 32, 33] rfl (by decide +kernel)
set_option maxRecDepth 20000 in
theorem gX0_tellNumber_X0_numberOf : GoodIn wsX0_tellNumber (wsV RX0 41 RX0 yX0_numberOf wsX0_numberOf) := goodIn_app (goodIn_of _ (by decide +kernel)) ggX0_tellNumber_X0_numberOf
set_option maxRecDepth 20000 in
theorem ggX0_tellNumber_X0_partOf : GoodIn wsX0_tellNumber wsX0_partOf := goodIn_r _ [26, 1] rfl (by decide +kernel)
set_option maxRecDepth 20000 in
theorem gX0_tellNumber_X0_partOf : GoodIn wsX0_tellNumber (va_wsS RX0 45 yX0_partOf wsX0_partOf) := goodIn_app (goodIn_of _ (by decide +kernel)) ggX0_tellNumber_X0_partOf
set_option maxRecDepth 20000 in
theorem ggX0_tellKnown_X0_needClock : GoodIn wsX0_tellKnown wsX0_needClock := goodIn_ca (goodIn_r _ [7, 8, 9] rfl (by decide +kernel)) (goodIn_sub (fun _ h => List.mem_cons_of_mem _ (List.mem_append_right _ h)) (by decide +kernel))
set_option maxRecDepth 20000 in
theorem gX0_tellKnown_X0_needClock : GoodIn wsX0_tellKnown (va_wsS RX0 20 yX0_needClock wsX0_needClock) := goodIn_app (goodIn_of _ (by decide +kernel)) ggX0_tellKnown_X0_needClock
set_option maxRecDepth 20000 in
theorem ggX0_tellKnown_X0_settle : GoodIn wsX0_tellKnown wsX0_settle := goodIn_r _ [13, 14, 15, 16, 17, 6, 18, 19, 20, 21, 22] rfl (by decide +kernel)
set_option maxRecDepth 20000 in
theorem gX0_tellKnown_X0_settle : GoodIn wsX0_tellKnown (wsV RX0 32 RX0 yX0_settle wsX0_settle) := goodIn_app (goodIn_of _ (by decide +kernel)) ggX0_tellKnown_X0_settle
set_option maxRecDepth 20000 in
theorem ggX0_take_X0_needClock : GoodIn wsX0_take wsX0_needClock := goodIn_ca (goodIn_r _ [4, 5, 6] rfl (by decide +kernel)) (goodIn_sub (fun _ h => List.mem_cons_of_mem _ (List.mem_append_right _ h)) (by decide +kernel))
set_option maxRecDepth 20000 in
theorem gX0_take_X0_needClock : GoodIn wsX0_take (va_wsS RX0 20 yX0_needClock wsX0_needClock) := goodIn_app (goodIn_of _ (by decide +kernel)) ggX0_take_X0_needClock
set_option maxRecDepth 20000 in
theorem ggX0_take_X0_numberOf : GoodIn wsX0_take wsX0_numberOf := goodIn_r _ [10, 11, 21, 22, 23] rfl (by decide +kernel)
set_option maxRecDepth 20000 in
theorem gX0_take_X0_numberOf : GoodIn wsX0_take (wsV RX0 41 RX0 yX0_numberOf wsX0_numberOf) := goodIn_app (goodIn_of _ (by decide +kernel)) ggX0_take_X0_numberOf
set_option maxRecDepth 20000 in
theorem ggX0_take_X0_settle : GoodIn wsX0_take wsX0_settle := goodIn_r _ [15, 11, 16, 17, 18, 3, 19, 20, 21, 22, 23] rfl (by decide +kernel)
set_option maxRecDepth 20000 in
theorem gX0_take_X0_settle : GoodIn wsX0_take (wsV RX0 32 RX0 yX0_settle wsX0_settle) := goodIn_app (goodIn_of _ (by decide +kernel)) ggX0_take_X0_settle
set_option maxRecDepth 20000 in
theorem ggX0_with_X0_needClock : GoodIn wsX0_with wsX0_needClock := goodIn_ca (goodIn_r _ [4, 5, 6] rfl (by decide +kernel)) (goodIn_sub (fun _ h => List.mem_cons_of_mem _ (List.mem_append_left _ (List.mem_append_right _ h))) (by decide +kernel))
set_option maxRecDepth 20000 in
theorem gX0_with_X0_needClock : GoodIn wsX0_with (va_wsS RX0 20 yX0_needClock wsX0_needClock) := goodIn_app (goodIn_of _ (by decide +kernel)) ggX0_with_X0_needClock
set_option maxRecDepth 20000 in
theorem ggX0_with_X0_needPart : GoodIn wsX0_with wsX0_needPart := goodIn_ca (goodIn_r _ [9, 10, 11, 12] rfl (by decide +kernel)) (goodIn_sub (fun _ h => List.mem_cons_of_mem _ (List.mem_append_right _ h)) (by decide +kernel))
set_option maxRecDepth 20000 in
theorem gX0_with_X0_needPart : GoodIn wsX0_with (va_wsS RX0 24 yX0_needPart wsX0_needPart) := goodIn_app (goodIn_of _ (by decide +kernel)) ggX0_with_X0_needPart
set_option maxRecDepth 20000 in
theorem ggX0_with_X0_numberOf : GoodIn wsX0_with wsX0_numberOf := goodIn_r _ [16, 17, 31, 32, 33] rfl (by decide +kernel)
set_option maxRecDepth 20000 in
theorem gX0_with_X0_numberOf : GoodIn wsX0_with (wsV RX0 41 RX0 yX0_numberOf wsX0_numberOf) := goodIn_app (goodIn_of _ (by decide +kernel)) ggX0_with_X0_numberOf
set_option maxRecDepth 20000 in
theorem ggX0_with_X0_partOf : GoodIn wsX0_with wsX0_partOf := goodIn_r _ [20, 21] rfl (by decide +kernel)
set_option maxRecDepth 20000 in
theorem gX0_with_X0_partOf : GoodIn wsX0_with (va_wsS RX0 45 yX0_partOf wsX0_partOf) := goodIn_app (goodIn_of _ (by decide +kernel)) ggX0_with_X0_partOf
set_option maxRecDepth 20000 in
theorem ggX0_with_X0_partNanos : GoodIn wsX0_with wsX0_partNanos := goodIn_r _ [24, 25] rfl (by decide +kernel)
set_option maxRecDepth 20000 in
theorem gX0_with_X0_partNanos : GoodIn wsX0_with (va_wsS RX0 59 yX0_partNanos wsX0_partNanos) := goodIn_app (goodIn_of _ (by decide +kernel)) ggX0_with_X0_partNanos
set_option maxRecDepth 20000 in
theorem ggX0_with_X0_settle : GoodIn wsX0_with wsX0_settle := goodIn_r _ [29, 17, 30, 18, 19, 3, 20, 21, 31, 32, 33] rfl (by decide +kernel)
set_option maxRecDepth 20000 in
theorem gX0_with_X0_settle : GoodIn wsX0_with (wsV RX0 32 RX0 yX0_settle wsX0_settle) := goodIn_app (goodIn_of _ (by decide +kernel)) ggX0_with_X0_settle
set_option maxRecDepth 20000 in
theorem ggX0_plus_X0_needClock : GoodIn wsX0_plus wsX0_needClock := goodIn_ca (goodIn_r _ [4, 5, 6] rfl (by decide +kernel)) (goodIn_sub (fun _ h => List.mem_cons_of_mem _ (List.mem_append_left _ (List.mem_append_right _ h))) (by decide +kernel))
set_option maxRecDepth 20000 in
theorem gX0_plus_X0_needClock : GoodIn wsX0_plus (va_wsS RX0 20 yX0_needClock wsX0_needClock) := goodIn_app (goodIn_of _ (by decide +kernel)) ggX0_plus_X0_needClock
set_option maxRecDepth 20000 in
theorem ggX0_plus_X0_needStepUnit : GoodIn wsX0_plus wsX0_needStepUnit := goodIn_ca (goodIn_r _ [9, 10, 11, 12, 13, 3, 14] rfl (by decide +kernel)) (goodIn_sub (fun _ h => List.mem_cons_of_mem _ (List.mem_append_right _ h)) (by decide +kernel))
set_option maxRecDepth 20000 in
theorem gX0_plus_X0_needStepUnit : GoodIn wsX0_plus (va_wsS RX0 62 yX0_needStepUnit wsX0_needStepUnit) := goodIn_app (goodIn_of _ (by decide +kernel)) ggX0_plus_X0_needStepUnit
set_option maxRecDepth 20000 in
theorem ggX0_plus_X0_numberOf : GoodIn wsX0_plus wsX0_numberOf := goodIn_r _ [18, 19, 41, 42, 43] rfl (by decide +kernel)
set_option maxRecDepth 20000 in
theorem gX0_plus_X0_numberOf : GoodIn wsX0_plus (wsV RX0 41 RX0 yX0_numberOf wsX0_numberOf) := goodIn_app (goodIn_of _ (by decide +kernel)) ggX0_plus_X0_numberOf
set_option maxRecDepth 20000 in
theorem ggX0_plus_X0_putOn : GoodIn wsX0_plus wsX0_putOn := goodIn_r _ [22, 23, 24, 25, 3, 26, 27, 28, 29, 30, 31] rfl (by decide +kernel)
set_option maxRecDepth 20000 in
theorem gX0_plus_X0_putOn : GoodIn wsX0_plus (va_wsS RX0 65 yX0_putOn wsX0_putOn) := goodIn_app (goodIn_of _ (by decide +kernel)) ggX0_plus_X0_putOn
set_option maxRecDepth 20000 in
theorem ggX0_plus_X0_settle : GoodIn wsX0_plus wsX0_settle := goodIn_r _ [35, 19, 36, 37, 38, 3, 39, 40, 41, 42, 43] rfl (by decide +kernel)
set_option maxRecDepth 20000 in
theorem gX0_plus_X0_settle : GoodIn wsX0_plus (wsV RX0 32 RX0 yX0_settle wsX0_settle) := goodIn_app (goodIn_of _ (by decide +kernel)) ggX0_plus_X0_settle
set_option maxRecDepth 20000 in
theorem ggX0_minus_X0_needClock : GoodIn wsX0_minus wsX0_needClock := goodIn_ca (goodIn_r _ [4, 5, 6] rfl (by decide +kernel)) (goodIn_sub (fun _ h => List.mem_cons_of_mem _ (List.mem_append_left _ (List.mem_append_right _ h))) (by decide +kernel))
set_option maxRecDepth 20000 in
theorem gX0_minus_X0_needClock : GoodIn wsX0_minus (va_wsS RX0 20 yX0_needClock wsX0_needClock) := goodIn_app (goodIn_of _ (by decide +kernel)) ggX0_minus_X0_needClock
set_option maxRecDepth 20000 in
theorem ggX0_minus_X0_needStepUnit : GoodIn wsX0_minus wsX0_needStepUnit := goodIn_ca (goodIn_r _ [9, 10, 11, 12, 13, 3, 14] rfl (by decide +kernel)) (goodIn_sub (fun _ h => List.mem_cons_of_mem _ (List.mem_append_right _ h)) (by decide +kernel))
set_option maxRecDepth 20000 in
theorem gX0_minus_X0_needStepUnit : GoodIn wsX0_minus (va_wsS RX0 62 yX0_needStepUnit wsX0_needStepUnit) := goodIn_app (goodIn_of _ (by decide +kernel)) ggX0_minus_X0_needStepUnit
set_option maxRecDepth 20000 in
theorem ggX0_minus_X0_numberOf : GoodIn wsX0_minus wsX0_numberOf := goodIn_r _ [18, 19, 41, 42, 43] rfl (by decide +kernel)
set_option maxRecDepth 20000 in
theorem gX0_minus_X0_numberOf : GoodIn wsX0_minus (wsV RX0 41 RX0 yX0_numberOf wsX0_numberOf) := goodIn_app (goodIn_of _ (by decide +kernel)) ggX0_minus_X0_numberOf
set_option maxRecDepth 20000 in
theorem ggX0_minus_X0_putOn : GoodIn wsX0_minus wsX0_putOn := goodIn_r _ [22, 23, 24, 25, 3, 26, 27, 28, 29, 30, 31] rfl (by decide +kernel)
set_option maxRecDepth 20000 in
theorem gX0_minus_X0_putOn : GoodIn wsX0_minus (va_wsS RX0 65 yX0_putOn wsX0_putOn) := goodIn_app (goodIn_of _ (by decide +kernel)) ggX0_minus_X0_putOn
set_option maxRecDepth 20000 in
theorem ggX0_minus_X0_settle : GoodIn wsX0_minus wsX0_settle := goodIn_r _ [35, 19, 36, 37, 38, 3, 39, 40, 41, 42, 43] rfl (by decide +kernel)
set_option maxRecDepth 20000 in
theorem gX0_minus_X0_settle : GoodIn wsX0_minus (wsV RX0 32 RX0 yX0_settle wsX0_settle) := goodIn_app (goodIn_of _ (by decide +kernel)) ggX0_minus_X0_settle
set_option maxRecDepth 20000 in
theorem ggX0_walk_X0_needClock : GoodIn wsX0_walk wsX0_needClock := goodIn_ca (goodIn_r _ [6, 7, 8] rfl (by decide +kernel)) (goodIn_sub (fun _ h => List.mem_cons_of_mem _ (List.mem_append_right _ h)) (by decide +kernel))
set_option maxRecDepth 20000 in
theorem gX0_walk_X0_needClock : GoodIn wsX0_walk (va_wsS RX0 20 yX0_needClock wsX0_needClock) := goodIn_app (goodIn_of _ (by decide +kernel)) ggX0_walk_X0_needClock
set_option maxRecDepth 20000 in
theorem ggX0_walk_X0_needStepUnit : GoodIn wsX0_walk wsX0_needStepUnit := goodIn_ca (goodIn_r _ [11, 1, 2, 12, 13, 5, 14] rfl (by decide +kernel)) (goodIn_sub (fun _ h => List.mem_cons_of_mem _ (List.mem_append_left _ (List.mem_append_right _ h))) (by decide +kernel))
set_option maxRecDepth 20000 in
theorem gX0_walk_X0_needStepUnit : GoodIn wsX0_walk (va_wsS RX0 62 yX0_needStepUnit wsX0_needStepUnit) := goodIn_app (goodIn_of _ (by decide +kernel)) ggX0_walk_X0_needStepUnit
set_option maxRecDepth 20000 in
theorem ggX0_walk_X0_numberOf : GoodIn wsX0_walk wsX0_numberOf := goodIn_r _ [18, 19, 41, 42, 43] rfl (by decide +kernel)
set_option maxRecDepth 20000 in
theorem gX0_walk_X0_numberOf : GoodIn wsX0_walk (wsV RX0 41 RX0 yX0_numberOf wsX0_numberOf) := goodIn_app (goodIn_of _ (by decide +kernel)) ggX0_walk_X0_numberOf
set_option maxRecDepth 20000 in
theorem ggX0_walk_X0_putOn : GoodIn wsX0_walk wsX0_putOn := goodIn_r _ [22, 23, 24, 25, 5, 26, 27, 28, 29, 30, 31] rfl (by decide +kernel)
set_option maxRecDepth 20000 in
theorem gX0_walk_X0_putOn : GoodIn wsX0_walk (va_wsS RX0 65 yX0_putOn wsX0_putOn) := goodIn_app (goodIn_of _ (by decide +kernel)) ggX0_walk_X0_putOn
set_option maxRecDepth 20000 in
theorem ggX0_walk_X0_settle : GoodIn wsX0_walk wsX0_settle := goodIn_r _ [35, 19, 36, 37, 38, 5, 39, 40, 41, 42, 43] rfl (by decide +kernel)
set_option maxRecDepth 20000 in
theorem gX0_walk_X0_settle : GoodIn wsX0_walk (wsV RX0 32 RX0 yX0_settle wsX0_settle) := goodIn_app (goodIn_of _ (by decide +kernel)) ggX0_walk_X0_settle
set_option maxRecDepth 20000 in
theorem ggX0_cut_X0_needClock : GoodIn wsX0_cut wsX0_needClock := goodIn_ca (goodIn_r _ [4, 5, 6] rfl (by decide +kernel)) (goodIn_sub (fun _ h => List.mem_cons_of_mem _ (List.mem_append_left _ (List.mem_append_right _ h))) (by decide +kernel))
set_option maxRecDepth 20000 in
theorem gX0_cut_X0_needClock : GoodIn wsX0_cut (va_wsS RX0 20 yX0_needClock wsX0_needClock) := goodIn_app (goodIn_of _ (by decide +kernel)) ggX0_cut_X0_needClock
set_option maxRecDepth 20000 in
theorem ggX0_cut_X0_needUnit : GoodIn wsX0_cut wsX0_needUnit := goodIn_ca (goodIn_r _ [9, 10, 11] rfl (by decide +kernel)) (goodIn_sub (fun _ h => List.mem_cons_of_mem _ (List.mem_append_right _ h)) (by decide +kernel))
set_option maxRecDepth 20000 in
theorem gX0_cut_X0_needUnit : GoodIn wsX0_cut (va_wsS RX0 71 yX0_needUnit wsX0_needUnit) := goodIn_app (goodIn_of _ (by decide +kernel)) ggX0_cut_X0_needUnit
set_option maxRecDepth 20000 in
theorem ggX0_cut_X0_numberOf : GoodIn wsX0_cut wsX0_numberOf := goodIn_r _ [15, 16, 33, 34, 35] rfl (by decide +kernel)
set_option maxRecDepth 20000 in
theorem gX0_cut_X0_numberOf : GoodIn wsX0_cut (wsV RX0 41 RX0 yX0_numberOf wsX0_numberOf) := goodIn_app (goodIn_of _ (by decide +kernel)) ggX0_cut_X0_numberOf
set_option maxRecDepth 20000 in
theorem ggX0_cut_X0_cutNumber : GoodIn wsX0_cut wsX0_cutNumber := goodIn_r _ [19, 20, 21, 3, 22, 23] rfl (by decide +kernel)
set_option maxRecDepth 20000 in
theorem gX0_cut_X0_cutNumber : GoodIn wsX0_cut (va_wsS RX0 74 yX0_cutNumber wsX0_cutNumber) := goodIn_app (goodIn_of _ (by decide +kernel)) ggX0_cut_X0_cutNumber
set_option maxRecDepth 20000 in
theorem ggX0_cut_X0_settle : GoodIn wsX0_cut wsX0_settle := goodIn_r _ [27, 16, 28, 29, 30, 3, 31, 32, 33, 34, 35] rfl (by decide +kernel)
set_option maxRecDepth 20000 in
theorem gX0_cut_X0_settle : GoodIn wsX0_cut (wsV RX0 32 RX0 yX0_settle wsX0_settle) := goodIn_app (goodIn_of _ (by decide +kernel)) ggX0_cut_X0_settle
set_option maxRecDepth 20000 in
theorem ggX0_of_X0_needClock : GoodIn wsX0_of wsX0_needClock := goodIn_ca (goodIn_r _ [6, 7, 8] rfl (by decide +kernel)) (goodIn_sub (fun _ h => List.mem_cons_of_mem _ (List.mem_append_right _ h)) (by decide +kernel))
set_option maxRecDepth 20000 in
theorem gX0_of_X0_needClock : GoodIn wsX0_of (va_wsS RX0 20 yX0_needClock wsX0_needClock) := goodIn_app (goodIn_of _ (by decide +kernel)) ggX0_of_X0_needClock
set_option maxRecDepth 20000 in
theorem ggX0_of_X0_numberOf : GoodIn wsX0_of wsX0_numberOf := goodIn_r _ [12, 13, 18, 19, 20] rfl (by decide +kernel)
set_option maxRecDepth 20000 in
theorem gX0_of_X0_numberOf : GoodIn wsX0_of (wsV RX0 41 RX0 yX0_numberOf wsX0_numberOf) := goodIn_app (goodIn_of _ (by decide +kernel)) ggX0_of_X0_numberOf
set_option maxRecDepth 20000 in
theorem ggX0_of_X0_partOf : GoodIn wsX0_of wsX0_partOf := goodIn_r _ [16, 17] rfl (by decide +kernel)
set_option maxRecDepth 20000 in
theorem gX0_of_X0_partOf : GoodIn wsX0_of (va_wsS RX0 45 yX0_partOf wsX0_partOf) := goodIn_app (goodIn_of _ (by decide +kernel)) ggX0_of_X0_partOf
set_option maxRecDepth 20000 in
theorem ggX0_number_X0_needClock : GoodIn wsX0_number wsX0_needClock := goodIn_ca (goodIn_r _ [4, 5, 6] rfl (by decide +kernel)) (goodIn_sub (fun _ h => List.mem_cons_of_mem _ (List.mem_append_right _ h)) (by decide +kernel))
set_option maxRecDepth 20000 in
theorem gX0_number_X0_needClock : GoodIn wsX0_number (va_wsS RX0 20 yX0_needClock wsX0_needClock) := goodIn_app (goodIn_of _ (by decide +kernel)) ggX0_number_X0_needClock
set_option maxRecDepth 20000 in
theorem ggX0_number_X0_numberOf : GoodIn wsX0_number wsX0_numberOf := goodIn_r _ [10, 11, 239, 240, 241] rfl (by decide +kernel)
set_option maxRecDepth 20000 in
theorem gX0_number_X0_numberOf : GoodIn wsX0_number (wsV RX0 41 RX0 yX0_numberOf wsX0_numberOf) := goodIn_app (goodIn_of _ (by decide +kernel)) ggX0_number_X0_numberOf
set_option maxRecDepth 20000 in
theorem ggX0_number_X0_digits : GoodIn wsX0_number wsX0_digits := goodIn_r _ [14, 15, 16, 17, 18, 19, 20, 21, 22, 23, 24, 25, 26, 27, 28, 29, 30, 31, 32, 33, 34, 35, 36, 37, 38, 39, 40, 41, 42, 43, 44, 45, 46, 47, 48, 49, 50, 51, 52, 53, 54, 55, 56, 57, 58, 59, 60, 61, 62, 63, 64, 65, 66, 67, 68, 69, 70, 71, 72, 73, 74, 75, 76, 77, 78, 79, 80, 81, 82, 83, 84, 85, 86, 87, 88, 89, 90, 91, 92, 93, 94, 95, 96, 97, 98, 99, 100, 101, 102, 103, 104, 105, 106, 107, 108, 109, 110, 111, 112, 113, 114, 115, 116, 117, 118, 119, 120, 121, 122, 123, 124, 125, 126, 127, 128, 129, 130, 131, 132, 133, 134, 135, 136, 137, 138, 139, 140, 141, 142, 143, 144, 145, 146, 147, 148, 149, 150, 151, 152, 153, 154, 155, 156, 157, 158, 159, 160, 161, 162, 163, 164, 165, 166, 167, 168, 169, 170, 171, 172, 173, 174, 175, 176, 177, 178, 179, 180, 181, 182, 183, 184, 185, 186, 187, 188, 189, 190, 191, 192, 193, 194, 195, 196, 197, 198, 199, 200, 201, 202, 203, 204, 205, 206, 207, 208, 209, 210, 211, 212, 213, 214, 215, 216, 217, 218, 219, 220, 221, 222, 223, 224, 225, 226, 227, 228, 229, 230, 231, 232, 233, 234, 235, 236, 237, 238, 242, 243, 244, 245, 246, 247, 248, 249] rfl (by decide +kernel)
set_option maxRecDepth 20000 in
theorem gX0_number_X0_digits : GoodIn wsX0_number (va_wsS RX0 80 yX0_digits wsX0_digits) := goodIn_app (goodIn_of _ (by decide +kernel)) ggX0_number_X0_digits
set_option maxRecDepth 20000 in
theorem ggX0_text_X0_needClock : GoodIn wsX0_text wsX0_needClock := goodIn_ca (goodIn_r _ [7, 8, 9] rfl (by decide +kernel)) (goodIn_sub (fun _ h => List.mem_cons_of_mem _ (List.mem_append_right _ h)) (by decide +kernel))
set_option maxRecDepth 20000 in
theorem gX0_text_X0_needClock : GoodIn wsX0_text (va_wsS RX0 20 yX0_needClock wsX0_needClock) := goodIn_app (goodIn_of _ (by decide +kernel)) ggX0_text_X0_needClock
set_option maxRecDepth 20000 in
theorem ggX0_text_X0_numberOf : GoodIn wsX0_text wsX0_numberOf := goodIn_r _ [13, 14, 237, 238, 239] rfl (by decide +kernel)
set_option maxRecDepth 20000 in
theorem gX0_text_X0_numberOf : GoodIn wsX0_text (wsV RX0 41 RX0 yX0_numberOf wsX0_numberOf) := goodIn_app (goodIn_of _ (by decide +kernel)) ggX0_text_X0_numberOf
set_option maxRecDepth 20000 in
theorem ggX0_text_J4_init_da8c8 : GoodIn wsX0_text wsJ4_init_da8c8 := goodIn_r _ [17, 18, 19, 20, 21, 22, 23, 24, 25, 26, 27, 28, 29, 30, 31, 32, 33, 34, 35, 36, 233, 234, 235, 236] rfl (by decide +kernel)
set_option maxRecDepth 20000 in
theorem gX0_text_J4_init_da8c8 : GoodIn wsX0_text (wsJ4_init_da8c8) := ggX0_text_J4_init_da8c8
set_option maxRecDepth 20000 in
theorem ggX0_text_X0_partOf : GoodIn wsX0_text wsX0_partOf := goodIn_r _ [39, 40] rfl (by decide +kernel)
set_option maxRecDepth 20000 in
theorem gX0_text_X0_partOf : GoodIn wsX0_text (va_wsS RX0 45 yX0_partOf wsX0_partOf) := goodIn_app (goodIn_of _ (by decide +kernel)) ggX0_text_X0_partOf
set_option maxRecDepth 20000 in
theorem ggX0_text_J4_append_bf812 : GoodIn wsX0_text wsJ4_append_bf812 := goodIn_r _ [44, 45, 46, 47, 48, 20, 49, 50, 27, 51, 52, 53, 54, 55, 56, 57, 58, 59, 28, 60, 61, 62, 63, 64, 65, 66, 67, 68, 69, 70, 71, 72, 73, 74, 75, 76, 77, 78, 79, 80, 81, 82, 83, 84, 85, 86, 87, 26, 88, 89, 90, 91, 92, 93, 94, 95, 96, 97, 98, 99, 25, 100, 101, 102, 103, 104, 105, 106, 31, 107, 108, 109, 110, 111, 112, 113, 114, 115, 116, 117, 118, 119, 120, 121, 122, 123, 124, 125, 126, 127, 128, 129, 130, 131, 132, 133, 233, 234, 235, 236] rfl (by decide +kernel)
set_option maxRecDepth 20000 in
theorem gX0_text_J4_append_bf812 : GoodIn wsX0_text (wsV RX0 87 RJ4 yJ4_append_bf812 wsJ4_append_bf812) := goodIn_app (goodIn_of _ (by decide +kernel)) ggX0_text_J4_append_bf812
set_option maxRecDepth 20000 in
theorem ggX0_text_J4_append_cf468 : GoodIn wsX0_text wsJ4_append_cf468 := goodIn_r _ [137, 138, 139, 47, 140, 20, 141, 50, 27, 55, 56, 57, 58, 59, 28, 60, 61, 62, 63, 64, 65, 66, 67, 68, 69, 70, 71, 72, 73, 74, 75, 76, 77, 78, 79, 80, 81, 82, 83, 84, 85, 86, 87, 26, 88, 89, 90, 91, 92, 93, 94, 95, 96, 97, 98, 99, 25, 142, 143, 144, 145, 146, 147, 148, 149, 150, 29, 30, 31, 32, 33, 34, 35, 36, 151, 152, 153, 154, 155, 156, 157, 158, 159, 112, 113, 114, 160, 161, 117, 162, 119, 163, 164, 122, 165, 129, 130, 131, 108, 132, 133, 166, 167, 168, 169, 170, 171, 172, 173, 174, 175, 176, 177, 233, 234, 235, 236] rfl (by decide +kernel)
set_option maxRecDepth 20000 in
theorem gX0_text_J4_append_cf468 : GoodIn wsX0_text (wsV RX0 91 RJ4 yJ4_append_cf468 wsJ4_append_cf468) := goodIn_app (goodIn_of _ (by decide +kernel)) ggX0_text_J4_append_cf468
set_option maxRecDepth 20000 in
theorem ggX0_text_J4_toString_0e30d : GoodIn wsX0_text wsJ4_toString_0e30d := goodIn_r _ [181, 182, 183, 117, 184, 185, 186, 187, 188, 189, 190, 23, 24, 191, 192, 193, 194, 195, 196, 197, 198, 20, 199, 27, 200, 201, 202, 203, 204, 3, 205, 206, 47, 207, 208, 50, 209, 96, 97, 98, 99, 25, 28, 210, 211, 80, 212, 82, 83, 84, 85, 86, 87, 213, 214, 215, 26, 88, 89, 72, 90, 91, 92, 93, 94, 216, 217, 218, 219, 2, 220, 221, 31, 222, 223, 224, 225, 157, 158, 159, 112, 113, 114, 160, 161, 162, 119, 163, 164, 122, 165, 226, 227, 228, 108, 132, 133, 33, 34, 35, 36, 229, 230, 231, 232, 240, 241, 242, 243, 233, 234, 235, 236] rfl (by decide +kernel)
set_option maxRecDepth 20000 in
theorem gX0_text_J4_toString_0e30d : GoodIn wsX0_text (wsV RX0 94 RJ4 yJ4_toString_0e30d wsJ4_toString_0e30d) := goodIn_app (goodIn_of _ (by decide +kernel)) ggX0_text_J4_toString_0e30d
set_option maxRecDepth 20000 in
theorem ggX0_beyond_X0_needClock : GoodIn wsX0_beyond wsX0_needClock := goodIn_ca (goodIn_r _ [4, 5, 6] rfl (by decide +kernel)) (goodIn_sub (fun _ h => List.mem_cons_of_mem _ (List.mem_append_left _ (List.mem_append_right _ h))) (by decide +kernel))
set_option maxRecDepth 20000 in
theorem gX0_beyond_X0_needClock : GoodIn wsX0_beyond (va_wsS RX0 20 yX0_needClock wsX0_needClock) := goodIn_app (goodIn_of _ (by decide +kernel)) ggX0_beyond_X0_needClock
set_option maxRecDepth 20000 in
theorem ggX0_beyond_X0_needUnit : GoodIn wsX0_beyond wsX0_needUnit := goodIn_ca (goodIn_r _ [9, 10, 11] rfl (by decide +kernel)) (goodIn_sub (fun _ h => List.mem_cons_of_mem _ (List.mem_append_right _ h)) (by decide +kernel))
set_option maxRecDepth 20000 in
theorem gX0_beyond_X0_needUnit : GoodIn wsX0_beyond (va_wsS RX0 71 yX0_needUnit wsX0_needUnit) := goodIn_app (goodIn_of _ (by decide +kernel)) ggX0_beyond_X0_needUnit
set_option maxRecDepth 20000 in
theorem ggX0_beyond_X0_numberOf : GoodIn wsX0_beyond wsX0_numberOf := goodIn_r _ [15, 16, 251, 252, 253] rfl (by decide +kernel)
set_option maxRecDepth 20000 in
theorem gX0_beyond_X0_numberOf : GoodIn wsX0_beyond (wsV RX0 41 RX0 yX0_numberOf wsX0_numberOf) := goodIn_app (goodIn_of _ (by decide +kernel)) ggX0_beyond_X0_numberOf
set_option maxRecDepth 20000 in
theorem ggX0_beyond_X0_cutNumber : GoodIn wsX0_beyond wsX0_cutNumber := goodIn_r _ [19, 20, 21, 3, 22, 23] rfl (by decide +kernel)
set_option maxRecDepth 20000 in
theorem gX0_beyond_X0_cutNumber : GoodIn wsX0_beyond (va_wsS RX0 74 yX0_cutNumber wsX0_cutNumber) := goodIn_app (goodIn_of _ (by decide +kernel)) ggX0_beyond_X0_cutNumber
set_option maxRecDepth 20000 in
theorem ggX0_beyond_X0_digits : GoodIn wsX0_beyond wsX0_digits := goodIn_r _ [26, 27, 28, 29, 30, 31, 32, 33, 34, 35, 36, 37, 38, 39, 40, 41, 42, 43, 44, 45, 46, 47, 48, 49, 50, 51, 52, 53, 54, 55, 56, 57, 58, 59, 60, 61, 62, 63, 64, 65, 66, 67, 68, 69, 70, 71, 72, 73, 74, 75, 76, 77, 78, 79, 80, 81, 82, 83, 84, 85, 86, 87, 88, 89, 90, 91, 92, 93, 94, 95, 96, 97, 98, 99, 100, 101, 102, 103, 104, 105, 106, 107, 108, 109, 110, 111, 112, 113, 114, 115, 116, 117, 118, 119, 120, 121, 122, 123, 124, 125, 126, 127, 128, 129, 130, 131, 132, 133, 134, 135, 136, 137, 138, 139, 140, 141, 142, 143, 144, 145, 146, 147, 148, 149, 150, 151, 152, 153, 154, 155, 156, 157, 158, 159, 160, 161, 162, 163, 164, 165, 166, 167, 168, 169, 170, 171, 172, 173, 174, 175, 176, 177, 178, 179, 180, 181, 182, 183, 184, 185, 186, 187, 188, 189, 190, 191, 192, 193, 194, 195, 196, 197, 198, 199, 200, 201, 202, 203, 204, 205, 206, 207, 208, 209, 210, 211, 212, 213, 214, 215, 216, 217, 218, 219, 220, 221, 222, 223, 224, 225, 226, 227, 228, 229, 230, 231, 232, 233, 234, 235, 236, 237, 238, 239, 240, 241, 242, 243, 244, 245, 246, 247, 248, 249, 250, 254, 255, 256, 257, 258, 259, 260, 261] rfl (by decide +kernel)
set_option maxRecDepth 20000 in
theorem gX0_beyond_X0_digits : GoodIn wsX0_beyond (va_wsS RX0 80 yX0_digits wsX0_digits) := goodIn_app (goodIn_of _ (by decide +kernel)) ggX0_beyond_X0_digits
set_option maxRecDepth 20000 in
theorem ggX0_compare_X0_needClock : GoodIn wsX0_compare wsX0_needClock := goodIn_ca (goodIn_r _ [4, 5, 6] rfl (by decide +kernel)) (goodIn_sub (fun _ h => List.mem_cons_of_mem _ (List.mem_append_right _ h)) (by decide +kernel))
set_option maxRecDepth 20000 in
theorem gX0_compare_X0_needClock : GoodIn wsX0_compare (va_wsS RX0 20 yX0_needClock wsX0_needClock) := goodIn_app (goodIn_of _ (by decide +kernel)) ggX0_compare_X0_needClock
set_option maxRecDepth 20000 in
theorem ggX0_compare_X0_numberOf : GoodIn wsX0_compare wsX0_numberOf := goodIn_r _ [10, 11, 15, 16, 17] rfl (by decide +kernel)
set_option maxRecDepth 20000 in
theorem gX0_compare_X0_numberOf : GoodIn wsX0_compare (wsV RX0 41 RX0 yX0_numberOf wsX0_numberOf) := goodIn_app (goodIn_of _ (by decide +kernel)) ggX0_compare_X0_numberOf
set_option maxRecDepth 20000 in
theorem ggX0_compare_X0_sideOf : GoodIn wsX0_compare wsX0_sideOf := goodIn_r _ [14] rfl (by decide +kernel)
set_option maxRecDepth 20000 in
theorem gX0_compare_X0_sideOf : GoodIn wsX0_compare (va_wsS RX0 98 yX0_sideOf wsX0_sideOf) := goodIn_app (goodIn_of _ (by decide +kernel)) ggX0_compare_X0_sideOf
set_option maxRecDepth 20000 in
theorem ggX0_isAhead_X0_needClock : GoodIn wsX0_isAhead wsX0_needClock := goodIn_ca (goodIn_r _ [4, 5, 6] rfl (by decide +kernel)) (goodIn_sub (fun _ h => List.mem_cons_of_mem _ (List.mem_append_right _ h)) (by decide +kernel))
set_option maxRecDepth 20000 in
theorem gX0_isAhead_X0_needClock : GoodIn wsX0_isAhead (va_wsS RX0 20 yX0_needClock wsX0_needClock) := goodIn_app (goodIn_of _ (by decide +kernel)) ggX0_isAhead_X0_needClock
set_option maxRecDepth 20000 in
theorem ggX0_isAhead_X0_numberOf : GoodIn wsX0_isAhead wsX0_numberOf := goodIn_r _ [10, 11, 12, 13, 14] rfl (by decide +kernel)
set_option maxRecDepth 20000 in
theorem gX0_isAhead_X0_numberOf : GoodIn wsX0_isAhead (wsV RX0 41 RX0 yX0_numberOf wsX0_numberOf) := goodIn_app (goodIn_of _ (by decide +kernel)) ggX0_isAhead_X0_numberOf
set_option maxRecDepth 20000 in
theorem ggX0_isBehind_X0_needClock : GoodIn wsX0_isBehind wsX0_needClock := goodIn_ca (goodIn_r _ [4, 5, 6] rfl (by decide +kernel)) (goodIn_sub (fun _ h => List.mem_cons_of_mem _ (List.mem_append_right _ h)) (by decide +kernel))
set_option maxRecDepth 20000 in
theorem gX0_isBehind_X0_needClock : GoodIn wsX0_isBehind (va_wsS RX0 20 yX0_needClock wsX0_needClock) := goodIn_app (goodIn_of _ (by decide +kernel)) ggX0_isBehind_X0_needClock
set_option maxRecDepth 20000 in
theorem ggX0_isBehind_X0_numberOf : GoodIn wsX0_isBehind wsX0_numberOf := goodIn_r _ [10, 11, 12, 13, 14] rfl (by decide +kernel)
set_option maxRecDepth 20000 in
theorem gX0_isBehind_X0_numberOf : GoodIn wsX0_isBehind (wsV RX0 41 RX0 yX0_numberOf wsX0_numberOf) := goodIn_app (goodIn_of _ (by decide +kernel)) ggX0_isBehind_X0_numberOf
set_option maxRecDepth 20000 in
theorem ggX0_areAlike_X0_needClock : GoodIn wsX0_areAlike wsX0_needClock := goodIn_ca (goodIn_r _ [4, 5, 6] rfl (by decide +kernel)) (goodIn_sub (fun _ h => List.mem_cons_of_mem _ (List.mem_append_right _ h)) (by decide +kernel))
set_option maxRecDepth 20000 in
theorem gX0_areAlike_X0_needClock : GoodIn wsX0_areAlike (va_wsS RX0 20 yX0_needClock wsX0_needClock) := goodIn_app (goodIn_of _ (by decide +kernel)) ggX0_areAlike_X0_needClock
set_option maxRecDepth 20000 in
theorem ggX0_areAlike_X0_numberOf : GoodIn wsX0_areAlike wsX0_numberOf := goodIn_r _ [10, 11, 12, 13, 14] rfl (by decide +kernel)
set_option maxRecDepth 20000 in
theorem gX0_areAlike_X0_numberOf : GoodIn wsX0_areAlike (wsV RX0 41 RX0 yX0_numberOf wsX0_numberOf) := goodIn_app (goodIn_of _ (by decide +kernel)) ggX0_areAlike_X0_numberOf
set_option maxRecDepth 20000 in
theorem ggX0_between_X0_needClock : GoodIn wsX0_between wsX0_needClock := goodIn_ca (goodIn_r _ [4, 5, 6] rfl (by decide +kernel)) (goodIn_sub (fun _ h => List.mem_cons_of_mem _ (List.mem_append_left _ (List.mem_append_right _ h))) (by decide +kernel))
set_option maxRecDepth 20000 in
theorem gX0_between_X0_needClock : GoodIn wsX0_between (va_wsS RX0 20 yX0_needClock wsX0_needClock) := goodIn_app (goodIn_of _ (by decide +kernel)) ggX0_between_X0_needClock
set_option maxRecDepth 20000 in
theorem ggX0_between_X0_needUnit : GoodIn wsX0_between wsX0_needUnit := goodIn_ca (goodIn_r _ [9, 10, 11] rfl (by decide +kernel)) (goodIn_sub (fun _ h => List.mem_cons_of_mem _ (List.mem_append_right _ h)) (by decide +kernel))
set_option maxRecDepth 20000 in
theorem gX0_between_X0_needUnit : GoodIn wsX0_between (va_wsS RX0 71 yX0_needUnit wsX0_needUnit) := goodIn_app (goodIn_of _ (by decide +kernel)) ggX0_between_X0_needUnit
set_option maxRecDepth 20000 in
theorem ggX0_between_X0_numberOf : GoodIn wsX0_between wsX0_numberOf := goodIn_r _ [15, 16, 251, 252, 253] rfl (by decide +kernel)
set_option maxRecDepth 20000 in
theorem gX0_between_X0_numberOf : GoodIn wsX0_between (wsV RX0 41 RX0 yX0_numberOf wsX0_numberOf) := goodIn_app (goodIn_of _ (by decide +kernel)) ggX0_between_X0_numberOf
set_option maxRecDepth 20000 in
theorem ggX0_between_X0_unitsBetween : GoodIn wsX0_between wsX0_unitsBetween := goodIn_r _ [19, 20, 21, 3, 22, 23] rfl (by decide +kernel)
set_option maxRecDepth 20000 in
theorem gX0_between_X0_unitsBetween : GoodIn wsX0_between (va_wsS RX0 102 yX0_unitsBetween wsX0_unitsBetween) := goodIn_app (goodIn_of _ (by decide +kernel)) ggX0_between_X0_unitsBetween
set_option maxRecDepth 20000 in
theorem ggX0_between_X0_digits : GoodIn wsX0_between wsX0_digits := goodIn_r _ [26, 27, 28, 29, 30, 31, 32, 33, 34, 35, 36, 37, 38, 39, 40, 41, 42, 43, 44, 45, 46, 47, 48, 49, 50, 51, 52, 53, 54, 55, 56, 57, 58, 59, 60, 61, 62, 63, 64, 65, 66, 67, 68, 69, 70, 71, 72, 73, 74, 75, 76, 77, 78, 79, 80, 81, 82, 83, 84, 85, 86, 87, 88, 89, 90, 91, 92, 93, 94, 95, 96, 97, 98, 99, 100, 101, 102, 103, 104, 105, 106, 107, 108, 109, 110, 111, 112, 113, 114, 115, 116, 117, 118, 119, 120, 121, 122, 123, 124, 125, 126, 127, 128, 129, 130, 131, 132, 133, 134, 135, 136, 137, 138, 139, 140, 141, 142, 143, 144, 145, 146, 147, 148, 149, 150, 151, 152, 153, 154, 155, 156, 157, 158, 159, 160, 161, 162, 163, 164, 165, 166, 167, 168, 169, 170, 171, 172, 173, 174, 175, 176, 177, 178, 179, 180, 181, 182, 183, 184, 185, 186, 187, 188, 189, 190, 191, 192, 193, 194, 195, 196, 197, 198, 199, 200, 201, 202, 203, 204, 205, 206, 207, 208, 209, 210, 211, 212, 213, 214, 215, 216, 217, 218, 219, 220, 221, 222, 223, 224, 225, 226, 227, 228, 229, 230, 231, 232, 233, 234, 235, 236, 237, 238, 239, 240, 241, 242, 243, 244, 245, 246, 247, 248, 249, 250, 254, 255, 256, 257, 258, 259, 260, 261] rfl (by decide +kernel)
set_option maxRecDepth 20000 in
theorem gX0_between_X0_digits : GoodIn wsX0_between (va_wsS RX0 80 yX0_digits wsX0_digits) := goodIn_app (goodIn_of _ (by decide +kernel)) ggX0_between_X0_digits
set_option maxRecDepth 20000 in
theorem ggX0_order_J4_init_da8c8 : GoodIn wsX0_order wsJ4_init_da8c8 := goodIn_r _ [6, 7, 8, 9, 10, 11, 12, 13, 14, 15, 16, 17, 18, 19, 20, 21, 22, 23, 24, 25, 232, 233, 234, 235] rfl (by decide +kernel)
set_option maxRecDepth 20000 in
theorem gX0_order_J4_init_da8c8 : GoodIn wsX0_order (wsJ4_init_da8c8) := ggX0_order_J4_init_da8c8
set_option maxRecDepth 20000 in
theorem ggX0_order_J4_append_cf468 : GoodIn wsX0_order wsJ4_append_cf468 := goodIn_r _ [29, 30, 31, 32, 33, 9, 34, 35, 16, 36, 37, 38, 39, 40, 17, 41, 42, 43, 44, 45, 46, 47, 48, 49, 50, 51, 52, 53, 54, 55, 56, 57, 58, 59, 60, 61, 62, 63, 64, 65, 66, 67, 68, 15, 69, 70, 71, 72, 73, 74, 75, 76, 77, 78, 79, 80, 14, 81, 82, 83, 84, 85, 86, 87, 88, 89, 18, 19, 20, 21, 22, 23, 24, 25, 90, 91, 92, 93, 94, 95, 96, 97, 98, 99, 100, 101, 102, 103, 104, 105, 106, 107, 108, 109, 110, 111, 112, 113, 114, 115, 116, 117, 118, 119, 120, 121, 122, 123, 124, 125, 126, 127, 128, 232, 233, 234, 235] rfl (by decide +kernel)
set_option maxRecDepth 20000 in
theorem gX0_order_J4_append_cf468 : GoodIn wsX0_order (wsV RX0 91 RJ4 yJ4_append_cf468 wsJ4_append_cf468) := goodIn_app (goodIn_of _ (by decide +kernel)) ggX0_order_J4_append_cf468
set_option maxRecDepth 20000 in
theorem ggX0_order_X0_clockAtPlace : GoodIn wsX0_order wsX0_clockAtPlace := goodIn_r _ [133, 134, 135, 136, 132, 137, 138, 139, 140, 141, 142, 236, 237, 238] rfl (by decide +kernel)
set_option maxRecDepth 20000 in
theorem gX0_order_X0_clockAtPlace : GoodIn wsX0_order (wsV RX0 106 RX0 yX0_clockAtPlace wsX0_clockAtPlace) := goodIn_app (goodIn_of _ (by decide +kernel)) ggX0_order_X0_clockAtPlace
set_option maxRecDepth 20000 in
theorem ggX0_order_J4_append_bf812 : GoodIn wsX0_order wsJ4_append_bf812 := goodIn_r _ [146, 147, 148, 32, 149, 9, 150, 35, 16, 151, 152, 153, 154, 36, 37, 38, 39, 40, 17, 41, 42, 43, 44, 45, 46, 47, 48, 49, 50, 51, 52, 53, 54, 55, 56, 57, 58, 59, 60, 61, 62, 63, 64, 65, 66, 67, 68, 15, 69, 70, 71, 72, 73, 74, 75, 76, 77, 78, 79, 80, 14, 155, 156, 157, 158, 159, 160, 161, 20, 162, 114, 163, 164, 165, 99, 100, 101, 166, 167, 104, 168, 106, 169, 170, 109, 171, 172, 173, 174, 175, 176, 111, 112, 113, 115, 116, 232, 233, 234, 235] rfl (by decide +kernel)
set_option maxRecDepth 20000 in
theorem gX0_order_J4_append_bf812 : GoodIn wsX0_order (wsV RX0 87 RJ4 yJ4_append_bf812 wsJ4_append_bf812) := goodIn_app (goodIn_of _ (by decide +kernel)) ggX0_order_J4_append_bf812
set_option maxRecDepth 20000 in
theorem ggX0_order_J4_toString_0e30d : GoodIn wsX0_order wsJ4_toString_0e30d := goodIn_r _ [180, 181, 182, 104, 183, 184, 185, 186, 187, 188, 189, 12, 13, 190, 191, 192, 193, 194, 195, 196, 197, 9, 198, 16, 199, 200, 201, 202, 203, 3, 204, 205, 32, 206, 207, 35, 208, 77, 78, 79, 80, 14, 17, 209, 210, 61, 211, 63, 64, 65, 66, 67, 68, 212, 213, 214, 15, 69, 70, 53, 71, 72, 73, 74, 75, 215, 216, 217, 218, 2, 219, 220, 20, 221, 222, 223, 224, 96, 97, 98, 99, 100, 101, 102, 103, 105, 106, 107, 108, 109, 110, 225, 226, 227, 114, 115, 116, 22, 23, 24, 25, 228, 229, 230, 231, 239, 240, 241, 242, 232, 233, 234, 235] rfl (by decide +kernel)
set_option maxRecDepth 20000 in
theorem gX0_order_J4_toString_0e30d : GoodIn wsX0_order (wsV RX0 94 RJ4 yJ4_toString_0e30d wsJ4_toString_0e30d) := goodIn_app (goodIn_of _ (by decide +kernel)) ggX0_order_J4_toString_0e30d
set_option maxRecDepth 20000 in
theorem ggX0_kinds_X0_isUnlikeEarlier : GoodIn wsX0_kinds wsX0_isUnlikeEarlier := goodIn_r _ [5, 6, 7, 8, 4, 9, 10, 11, 12, 13] rfl (by decide +kernel)
set_option maxRecDepth 20000 in
theorem gX0_kinds_X0_isUnlikeEarlier : GoodIn wsX0_kinds (wsV RX0 110 RX0 yX0_isUnlikeEarlier wsX0_isUnlikeEarlier) := goodIn_app (goodIn_of _ (by decide +kernel)) ggX0_kinds_X0_isUnlikeEarlier
set_option maxRecDepth 20000 in
theorem ggX0_isSound_X0_numberOf : GoodIn wsX0_isSound wsX0_numberOf := goodIn_r _ [5, 6, 71, 72, 73] rfl (by decide +kernel)
set_option maxRecDepth 20000 in
theorem gX0_isSound_X0_numberOf : GoodIn wsX0_isSound (wsV RX0 41 RX0 yX0_numberOf wsX0_numberOf) := goodIn_app (goodIn_of _ (by decide +kernel)) ggX0_isSound_X0_numberOf
set_option maxRecDepth 20000 in
theorem ggX0_isSound_X0_partsBelong : GoodIn wsX0_isSound wsX0_partsBelong := goodIn_r _ [9, 10, 11, 12, 13, 4, 14, 15, 16, 17, 18, 19, 20, 21, 22, 23, 24, 25, 26] rfl (by decide +kernel)
set_option maxRecDepth 20000 in
theorem gX0_isSound_X0_partsBelong : GoodIn wsX0_isSound (va_wsS RX0 116 yX0_partsBelong wsX0_partsBelong) := goodIn_app (goodIn_of _ (by decide +kernel)) ggX0_isSound_X0_partsBelong
set_option maxRecDepth 20000 in
theorem ggX0_isSound_X0_stepsHold : GoodIn wsX0_isSound wsX0_stepsHold := goodIn_r _ [29, 30, 31, 32, 4, 33, 34, 35, 36, 37, 38, 39, 40, 23, 24, 25, 26, 41, 42, 43, 44, 45, 46, 47, 11, 48] rfl (by decide +kernel)
set_option maxRecDepth 20000 in
theorem gX0_isSound_X0_stepsHold : GoodIn wsX0_isSound (va_wsS RX0 120 yX0_stepsHold wsX0_stepsHold) := goodIn_app (goodIn_of _ (by decide +kernel)) ggX0_isSound_X0_stepsHold
set_option maxRecDepth 20000 in
theorem ggX0_isSound_X0_cutsHold : GoodIn wsX0_isSound wsX0_cutsHold := goodIn_r _ [51, 23, 24, 4, 25, 26, 20, 21, 22] rfl (by decide +kernel)
set_option maxRecDepth 20000 in
theorem gX0_isSound_X0_cutsHold : GoodIn wsX0_isSound (va_wsS RX0 123 yX0_cutsHold wsX0_cutsHold) := goodIn_app (goodIn_of _ (by decide +kernel)) ggX0_isSound_X0_cutsHold
set_option maxRecDepth 20000 in
theorem ggX0_isSound_X0_pairHolds : GoodIn wsX0_isSound wsX0_pairHolds := goodIn_r _ [54, 55, 56, 4, 57, 12, 13, 14, 11, 58, 59, 60, 61, 62, 63, 23, 24, 25, 26, 64, 65, 66, 67, 68, 69, 70, 37, 38, 39, 40, 41, 42, 43, 44] rfl (by decide +kernel)
set_option maxRecDepth 20000 in
theorem gX0_isSound_X0_pairHolds : GoodIn wsX0_isSound (va_wsS RX0 126 yX0_pairHolds wsX0_pairHolds) := goodIn_app (goodIn_of _ (by decide +kernel)) ggX0_isSound_X0_pairHolds
set_option maxRecDepth 20000 in
theorem ggX0_digest_X0_numberOf : GoodIn wsX0_digest wsX0_numberOf := goodIn_r _ [9, 10, 344, 345, 346] rfl (by decide +kernel)
set_option maxRecDepth 20000 in
theorem gX0_digest_X0_numberOf : GoodIn wsX0_digest (wsV RX0 41 RX0 yX0_numberOf wsX0_numberOf) := goodIn_app (goodIn_of _ (by decide +kernel)) ggX0_digest_X0_numberOf
set_option maxRecDepth 20000 in
theorem ggX0_digest_X0_digestClock : GoodIn wsX0_digest wsX0_digestClock := goodIn_r _ [13, 2, 14, 15, 8, 16, 17] rfl (by decide +kernel)
set_option maxRecDepth 20000 in
theorem gX0_digest_X0_digestClock : GoodIn wsX0_digest (va_wsS RX0 134 yX0_digestClock wsX0_digestClock) := goodIn_app (goodIn_of _ (by decide +kernel)) ggX0_digest_X0_digestClock
set_option maxRecDepth 20000 in
theorem ggX0_digest_X0_digestPair : GoodIn wsX0_digest wsX0_digestPair := goodIn_r _ [20, 2, 21, 22, 8, 23, 24, 25, 26, 27, 28, 29, 30] rfl (by decide +kernel)
set_option maxRecDepth 20000 in
theorem gX0_digest_X0_digestPair : GoodIn wsX0_digest (va_wsS RX0 138 yX0_digestPair wsX0_digestPair) := goodIn_app (goodIn_of _ (by decide +kernel)) ggX0_digest_X0_digestPair
set_option maxRecDepth 20000 in
theorem ggX0_digest_X0_kinds : GoodIn wsX0_digest wsX0_kinds := goodIn_r _ [34, 35, 36, 37, 8, 38, 5, 6, 7, 9, 10, 344, 345, 346] rfl (by decide +kernel)
set_option maxRecDepth 20000 in
theorem gX0_digest_X0_kinds : GoodIn wsX0_digest (wsV RX0 142 RX0 yX0_kinds wsX0_kinds) := goodIn_app (goodIn_of _ (by decide +kernel)) ggX0_digest_X0_kinds
set_option maxRecDepth 20000 in
theorem ggX0_digest_X0_order : GoodIn wsX0_digest wsX0_order := goodIn_r _ [42, 43, 44, 45, 46, 47, 48, 49, 50, 51, 52, 53, 54, 55, 56, 57, 58, 59, 60, 61, 62, 63, 64, 65, 66, 67, 68, 69, 70, 71, 72, 73, 74, 75, 76, 77, 78, 79, 80, 81, 82, 83, 84, 85, 86, 87, 88, 89, 90, 91, 92, 93, 94, 95, 96, 97, 98, 99, 100, 101, 102, 103, 104, 105, 106, 107, 108, 109, 110, 111, 112, 113, 114, 115, 116, 117, 118, 119, 120, 121, 122, 123, 124, 125, 126, 127, 128, 129, 130, 131, 132, 133, 134, 135, 136, 137, 138, 139, 140, 141, 142, 143, 144, 145, 146, 147, 148, 149, 150, 151, 152, 153, 154, 155, 156, 157, 158, 159, 160, 161, 162, 163, 164, 165, 166, 167, 168, 169, 170, 171, 172, 173, 8, 174, 175, 176, 177, 178, 5, 6, 7, 9, 10, 179, 180, 181, 182, 183, 184, 185, 186, 187, 188, 189, 190, 191, 192, 193, 194, 195, 196, 197, 198, 199, 200, 201, 202, 203, 204, 205, 206, 207, 208, 209, 210, 211, 212, 213, 214, 215, 216, 217, 218, 219, 220, 221, 222, 223, 224, 225, 226, 227, 228, 229, 230, 231, 232, 233, 234, 235, 236, 237, 238, 239, 240, 241, 242, 243, 244, 245, 246, 247, 248, 249, 250, 251, 252, 253, 254, 255, 256, 257, 258, 259, 260, 261, 262, 263, 264, 265, 266, 267, 347, 348, 349, 350, 344, 345, 346, 351, 352, 353, 354] rfl (by decide +kernel)
set_option maxRecDepth 20000 in
theorem gX0_digest_X0_order : GoodIn wsX0_digest (wsV RX0 146 RX0 yX0_order wsX0_order) := goodIn_app (goodIn_of _ (by decide +kernel)) ggX0_digest_X0_order
set_option maxRecDepth 20000 in
theorem ggX0_digest_J0_length_8abf5 : GoodIn wsX0_digest wsJ0_length_8abf5 := goodIn_r _ [271, 227, 272, 273, 274, 146, 275, 228, 226, 351, 352, 353, 354] rfl (by decide +kernel)
set_option maxRecDepth 20000 in
theorem gX0_digest_J0_length_8abf5 : GoodIn wsX0_digest (wsV RX0 149 RJ0 yJ0_length_8abf5 wsJ0_length_8abf5) := goodIn_app (goodIn_of _ (by decide +kernel)) ggX0_digest_J0_length_8abf5
set_option maxRecDepth 20000 in
theorem ggX0_digest_J0_charAt_5068e : GoodIn wsX0_digest wsJ0_charAt_5068e := goodIn_r _ [279, 227, 280, 281, 282, 146, 283, 228, 226, 284, 285, 125, 286, 287, 166, 167, 148, 168, 169, 151, 170, 288, 289, 62, 290, 162, 163, 164, 141, 142, 143, 165, 261, 262, 263, 156, 157, 158, 351, 352, 353, 354] rfl (by decide +kernel)
set_option maxRecDepth 20000 in
theorem gX0_digest_J0_charAt_5068e : GoodIn wsX0_digest (wsV RX0 154 RJ0 yJ0_charAt_5068e wsJ0_charAt_5068e) := goodIn_app (goodIn_of _ (by decide +kernel)) ggX0_digest_J0_charAt_5068e
set_option maxRecDepth 20000 in
theorem ggX0_digest_X0_isSound : GoodIn wsX0_digest wsX0_isSound := goodIn_r _ [294, 5, 6, 7, 8, 9, 10, 295, 296, 297, 298, 17, 14, 15, 16, 299, 300, 301, 302, 303, 304, 305, 306, 27, 28, 29, 30, 307, 308, 309, 310, 311, 312, 313, 314, 315, 316, 317, 318, 319, 320, 321, 322, 323, 324, 325, 326, 327, 328, 329, 330, 331, 332, 333, 334, 335, 336, 337, 21, 22, 23, 24, 25, 26, 338, 339, 340, 341, 342, 95, 343, 344, 345, 346] rfl (by decide +kernel)
set_option maxRecDepth 20000 in
theorem gX0_digest_X0_isSound : GoodIn wsX0_digest (wsV RX0 158 RX0 yX0_isSound wsX0_isSound) := goodIn_app (goodIn_of _ (by decide +kernel)) ggX0_digest_X0_isSound
set_option maxRecDepth 20000 in
theorem ggX0_needStepUnit_X0_isStepUnit : GoodIn wsX0_needStepUnit wsX0_isStepUnit := goodIn_r _ [6] rfl (by decide +kernel)
set_option maxRecDepth 20000 in
theorem gX0_needStepUnit_X0_isStepUnit : GoodIn wsX0_needStepUnit (va_wsS RX0 180 yX0_isStepUnit wsX0_isStepUnit) := goodIn_app (goodIn_of _ (by decide +kernel)) ggX0_needStepUnit_X0_isStepUnit
set_option maxRecDepth 20000 in
theorem ggX0_settle_X0_partOf : GoodIn wsX0_settle wsX0_partOf := goodIn_r _ [6, 7] rfl (by decide +kernel)
set_option maxRecDepth 20000 in
theorem gX0_settle_X0_partOf : GoodIn wsX0_settle (va_wsS RX0 45 yX0_partOf wsX0_partOf) := goodIn_app (goodIn_of _ (by decide +kernel)) ggX0_settle_X0_partOf
set_option maxRecDepth 20000 in
theorem ggX0_clockAtPlace_X0_placeOf : GoodIn wsX0_clockAtPlace wsX0_placeOf := goodIn_r _ [5, 6, 7, 8, 4, 9, 10, 11, 12, 13] rfl (by decide +kernel)
set_option maxRecDepth 20000 in
theorem gX0_clockAtPlace_X0_placeOf : GoodIn wsX0_clockAtPlace (wsV RX0 185 RX0 yX0_placeOf wsX0_placeOf) := goodIn_app (goodIn_of _ (by decide +kernel)) ggX0_clockAtPlace_X0_placeOf
set_option maxRecDepth 20000 in
theorem ggX0_placeOf_X0_numberOf : GoodIn wsX0_placeOf wsX0_numberOf := goodIn_r _ [5, 6, 7, 8, 9] rfl (by decide +kernel)
set_option maxRecDepth 20000 in
theorem gX0_placeOf_X0_numberOf : GoodIn wsX0_placeOf (wsV RX0 41 RX0 yX0_numberOf wsX0_numberOf) := goodIn_app (goodIn_of _ (by decide +kernel)) ggX0_placeOf_X0_numberOf
set_option maxRecDepth 20000 in
theorem ggX0_isUnlikeEarlier_X0_numberOf : GoodIn wsX0_isUnlikeEarlier wsX0_numberOf := goodIn_r _ [5, 6, 7, 8, 9] rfl (by decide +kernel)
set_option maxRecDepth 20000 in
theorem gX0_isUnlikeEarlier_X0_numberOf : GoodIn wsX0_isUnlikeEarlier (wsV RX0 41 RX0 yX0_numberOf wsX0_numberOf) := goodIn_app (goodIn_of _ (by decide +kernel)) ggX0_isUnlikeEarlier_X0_numberOf
set_option maxRecDepth 20000 in
theorem ggX0_putOn_X0_unitNanos : GoodIn wsX0_putOn wsX0_unitNanos := goodIn_r _ [5, 6] rfl (by decide +kernel)
set_option maxRecDepth 20000 in
theorem gX0_putOn_X0_unitNanos : GoodIn wsX0_putOn (va_wsS RX0 198 yX0_unitNanos wsX0_unitNanos) := goodIn_app (goodIn_of _ (by decide +kernel)) ggX0_putOn_X0_unitNanos
set_option maxRecDepth 20000 in
theorem ggX0_putOn_J9_floorMod_f86c9 : GoodIn wsX0_putOn wsJ9_floorMod_f86c9 := goodIn_r _ [10] rfl (by decide +kernel)
set_option maxRecDepth 20000 in
theorem gX0_putOn_J9_floorMod_f86c9 : GoodIn wsX0_putOn (va_wsS RX0 203 yJ9_floorMod_f86c9 wsJ9_floorMod_f86c9) := goodIn_app (goodIn_of _ (by decide +kernel)) ggX0_putOn_J9_floorMod_f86c9
set_option maxRecDepth 20000 in
theorem ggX0_cutNumber_X0_unitNanos : GoodIn wsX0_cutNumber wsX0_unitNanos := goodIn_r _ [4, 5] rfl (by decide +kernel)
set_option maxRecDepth 20000 in
theorem gX0_cutNumber_X0_unitNanos : GoodIn wsX0_cutNumber (va_wsS RX0 198 yX0_unitNanos wsX0_unitNanos) := goodIn_app (goodIn_of _ (by decide +kernel)) ggX0_cutNumber_X0_unitNanos
set_option maxRecDepth 20000 in
theorem ggX0_unitsBetween_X0_unitNanos : GoodIn wsX0_unitsBetween wsX0_unitNanos := goodIn_r _ [4, 5] rfl (by decide +kernel)
set_option maxRecDepth 20000 in
theorem gX0_unitsBetween_X0_unitNanos : GoodIn wsX0_unitsBetween (va_wsS RX0 198 yX0_unitNanos wsX0_unitNanos) := goodIn_app (goodIn_of _ (by decide +kernel)) ggX0_unitsBetween_X0_unitNanos
set_option maxRecDepth 20000 in
theorem ggX0_digits_J4_init_da8c8 : GoodIn wsX0_digits wsJ4_init_da8c8 := goodIn_r _ [12, 13, 14, 15, 16, 17, 18, 19, 20, 21, 22, 23, 24, 25, 26, 27, 28, 29, 30, 31, 225, 226, 227, 228] rfl (by decide +kernel)
set_option maxRecDepth 20000 in
theorem gX0_digits_J4_init_da8c8 : GoodIn wsX0_digits (wsJ4_init_da8c8) := ggX0_digits_J4_init_da8c8
set_option maxRecDepth 20000 in
theorem ggX0_digits_J4_append_cf468 : GoodIn wsX0_digits wsJ4_append_cf468 := goodIn_r _ [35, 36, 37, 38, 39, 15, 40, 41, 22, 42, 43, 44, 45, 46, 23, 47, 48, 49, 50, 51, 52, 53, 54, 55, 56, 57, 58, 6, 59, 60, 61, 62, 63, 64, 65, 66, 67, 68, 69, 70, 71, 72, 73, 21, 74, 75, 76, 77, 78, 79, 80, 81, 82, 83, 84, 85, 20, 86, 87, 88, 89, 90, 91, 92, 93, 94, 24, 25, 26, 27, 28, 29, 30, 31, 95, 96, 97, 98, 99, 100, 101, 102, 103, 104, 105, 106, 107, 108, 109, 110, 111, 112, 113, 114, 115, 116, 117, 118, 119, 120, 121, 122, 123, 124, 125, 126, 127, 128, 129, 130, 131, 132, 133, 225, 226, 227, 228] rfl (by decide +kernel)
set_option maxRecDepth 20000 in
theorem gX0_digits_J4_append_cf468 : GoodIn wsX0_digits (wsV RX0 91 RJ4 yJ4_append_cf468 wsJ4_append_cf468) := goodIn_app (goodIn_of _ (by decide +kernel)) ggX0_digits_J4_append_cf468
set_option maxRecDepth 20000 in
theorem ggX0_digits_J4_reverse_43fcb : GoodIn wsX0_digits wsJ4_reverse_43fcb := goodIn_r _ [137, 138, 139, 38, 140, 15, 141, 22, 41, 81, 82, 83, 84, 85, 20, 23, 142, 143, 26, 144, 145, 146, 147, 104, 105, 106, 148, 149, 109, 150, 111, 151, 152, 114, 153, 154, 155, 156, 119, 120, 121, 116, 117, 118, 157, 158, 159, 160, 161, 162, 163, 164, 165, 166, 167, 168, 169, 170, 171, 172, 225, 226, 227, 228] rfl (by decide +kernel)
set_option maxRecDepth 20000 in
theorem gX0_digits_J4_reverse_43fcb : GoodIn wsX0_digits (wsV RX0 216 RJ4 yJ4_reverse_43fcb wsJ4_reverse_43fcb) := goodIn_app (goodIn_of _ (by decide +kernel)) ggX0_digits_J4_reverse_43fcb
set_option maxRecDepth 20000 in
theorem ggX0_digits_J4_toString_0e30d : GoodIn wsX0_digits wsJ4_toString_0e30d := goodIn_r _ [176, 177, 178, 109, 179, 180, 181, 182, 183, 184, 185, 18, 19, 186, 187, 188, 189, 190, 191, 192, 193, 15, 194, 22, 195, 196, 197, 198, 199, 3, 200, 201, 38, 202, 203, 41, 204, 82, 83, 84, 85, 20, 23, 205, 206, 66, 207, 68, 69, 70, 71, 72, 73, 208, 209, 210, 21, 74, 75, 6, 76, 77, 78, 79, 80, 211, 212, 213, 214, 2, 215, 216, 26, 217, 218, 219, 220, 101, 102, 103, 104, 105, 106, 107, 108, 110, 111, 112, 113, 114, 115, 154, 155, 156, 119, 120, 121, 28, 29, 30, 31, 221, 222, 223, 224, 229, 230, 231, 232, 225, 226, 227, 228] rfl (by decide +kernel)
set_option maxRecDepth 20000 in
theorem gX0_digits_J4_toString_0e30d : GoodIn wsX0_digits (wsV RX0 94 RJ4 yJ4_toString_0e30d wsJ4_toString_0e30d) := goodIn_app (goodIn_of _ (by decide +kernel)) ggX0_digits_J4_toString_0e30d
set_option maxRecDepth 20000 in
theorem ggX0_partsBelong_X0_partOf : GoodIn wsX0_partsBelong wsX0_partOf := goodIn_r _ [6, 2] rfl (by decide +kernel)
set_option maxRecDepth 20000 in
theorem gX0_partsBelong_X0_partOf : GoodIn wsX0_partsBelong (va_wsS RX0 45 yX0_partOf wsX0_partOf) := goodIn_app (goodIn_of _ (by decide +kernel)) ggX0_partsBelong_X0_partOf
set_option maxRecDepth 20000 in
theorem ggX0_partsBelong_X0_numberOfParts : GoodIn wsX0_partsBelong wsX0_numberOfParts := goodIn_r _ [9, 10, 11, 2] rfl (by decide +kernel)
set_option maxRecDepth 20000 in
theorem gX0_partsBelong_X0_numberOfParts : GoodIn wsX0_partsBelong (va_wsS RX0 28 yX0_numberOfParts wsX0_numberOfParts) := goodIn_app (goodIn_of _ (by decide +kernel)) ggX0_partsBelong_X0_numberOfParts
set_option maxRecDepth 20000 in
theorem ggX0_partsBelong_X0_cutNumber : GoodIn wsX0_partsBelong wsX0_cutNumber := goodIn_r _ [14, 15, 16, 5, 17, 18] rfl (by decide +kernel)
set_option maxRecDepth 20000 in
theorem gX0_partsBelong_X0_cutNumber : GoodIn wsX0_partsBelong (va_wsS RX0 74 yX0_cutNumber wsX0_cutNumber) := goodIn_app (goodIn_of _ (by decide +kernel)) ggX0_partsBelong_X0_cutNumber
set_option maxRecDepth 20000 in
theorem ggX0_stepsHold_X0_isStepUnit : GoodIn wsX0_stepsHold wsX0_isStepUnit := goodIn_r _ [5] rfl (by decide +kernel)
set_option maxRecDepth 20000 in
theorem gX0_stepsHold_X0_isStepUnit : GoodIn wsX0_stepsHold (va_wsS RX0 180 yX0_isStepUnit wsX0_isStepUnit) := goodIn_app (goodIn_of _ (by decide +kernel)) ggX0_stepsHold_X0_isStepUnit
set_option maxRecDepth 20000 in
theorem ggX0_stepsHold_X0_stepHolds : GoodIn wsX0_stepsHold wsX0_stepHolds := goodIn_r _ [8, 9, 10, 4, 11, 12, 13, 14, 15, 16, 17, 18, 19, 20, 21, 22, 23, 24, 25] rfl (by decide +kernel)
set_option maxRecDepth 20000 in
theorem gX0_stepsHold_X0_stepHolds : GoodIn wsX0_stepsHold (va_wsS RX0 223 yX0_stepHolds wsX0_stepHolds) := goodIn_app (goodIn_of _ (by decide +kernel)) ggX0_stepsHold_X0_stepHolds
set_option maxRecDepth 20000 in
theorem ggX0_stepHolds_X0_putOn : GoodIn wsX0_stepHolds wsX0_putOn := goodIn_r _ [4, 5, 6, 7, 3, 8, 9, 10, 11, 12, 13] rfl (by decide +kernel)
set_option maxRecDepth 20000 in
theorem gX0_stepHolds_X0_putOn : GoodIn wsX0_stepHolds (va_wsS RX0 65 yX0_putOn wsX0_putOn) := goodIn_app (goodIn_of _ (by decide +kernel)) ggX0_stepHolds_X0_putOn
set_option maxRecDepth 20000 in
theorem ggX0_stepHolds_X0_reckonedOn : GoodIn wsX0_stepHolds wsX0_reckonedOn := goodIn_r _ [16, 17, 5, 18, 6, 7, 3, 8, 9] rfl (by decide +kernel)
set_option maxRecDepth 20000 in
theorem gX0_stepHolds_X0_reckonedOn : GoodIn wsX0_stepHolds (va_wsS RX0 227 yX0_reckonedOn wsX0_reckonedOn) := goodIn_app (goodIn_of _ (by decide +kernel)) ggX0_stepHolds_X0_reckonedOn
set_option maxRecDepth 20000 in
theorem ggX0_reckonedOn_X0_unitNanos : GoodIn wsX0_reckonedOn wsX0_unitNanos := goodIn_r _ [7, 8] rfl (by decide +kernel)
set_option maxRecDepth 20000 in
theorem gX0_reckonedOn_X0_unitNanos : GoodIn wsX0_reckonedOn (va_wsS RX0 198 yX0_unitNanos wsX0_unitNanos) := goodIn_app (goodIn_of _ (by decide +kernel)) ggX0_reckonedOn_X0_unitNanos
set_option maxRecDepth 20000 in
theorem ggX0_cutsHold_X0_unitNanos : GoodIn wsX0_cutsHold wsX0_unitNanos := goodIn_r _ [4, 5] rfl (by decide +kernel)
set_option maxRecDepth 20000 in
theorem gX0_cutsHold_X0_unitNanos : GoodIn wsX0_cutsHold (va_wsS RX0 198 yX0_unitNanos wsX0_unitNanos) := goodIn_app (goodIn_of _ (by decide +kernel)) ggX0_cutsHold_X0_unitNanos
set_option maxRecDepth 20000 in
theorem ggX0_cutsHold_X0_cutNumber : GoodIn wsX0_cutsHold wsX0_cutNumber := goodIn_r _ [8, 1, 2, 3, 4, 5] rfl (by decide +kernel)
set_option maxRecDepth 20000 in
theorem gX0_cutsHold_X0_cutNumber : GoodIn wsX0_cutsHold (va_wsS RX0 74 yX0_cutNumber wsX0_cutNumber) := goodIn_app (goodIn_of _ (by decide +kernel)) ggX0_cutsHold_X0_cutNumber
set_option maxRecDepth 20000 in
theorem ggX0_pairHolds_X0_comparedByParts : GoodIn wsX0_pairHolds wsX0_comparedByParts := goodIn_r _ [4, 5, 6, 3, 7, 8, 9, 10, 11] rfl (by decide +kernel)
set_option maxRecDepth 20000 in
theorem gX0_pairHolds_X0_comparedByParts : GoodIn wsX0_pairHolds (va_wsS RX0 232 yX0_comparedByParts wsX0_comparedByParts) := goodIn_app (goodIn_of _ (by decide +kernel)) ggX0_pairHolds_X0_comparedByParts
set_option maxRecDepth 20000 in
theorem ggX0_pairHolds_X0_sideOf : GoodIn wsX0_pairHolds wsX0_sideOf := goodIn_r _ [11] rfl (by decide +kernel)
set_option maxRecDepth 20000 in
theorem gX0_pairHolds_X0_sideOf : GoodIn wsX0_pairHolds (va_wsS RX0 98 yX0_sideOf wsX0_sideOf) := goodIn_app (goodIn_of _ (by decide +kernel)) ggX0_pairHolds_X0_sideOf
set_option maxRecDepth 20000 in
theorem ggX0_pairHolds_X0_unitsBetween : GoodIn wsX0_pairHolds wsX0_unitsBetween := goodIn_r _ [14, 15, 16, 3, 17, 18] rfl (by decide +kernel)
set_option maxRecDepth 20000 in
theorem gX0_pairHolds_X0_unitsBetween : GoodIn wsX0_pairHolds (va_wsS RX0 102 yX0_unitsBetween wsX0_unitsBetween) := goodIn_app (goodIn_of _ (by decide +kernel)) ggX0_pairHolds_X0_unitsBetween
set_option maxRecDepth 20000 in
theorem ggX0_pairHolds_X0_unitNanos : GoodIn wsX0_pairHolds wsX0_unitNanos := goodIn_r _ [17, 18] rfl (by decide +kernel)
set_option maxRecDepth 20000 in
theorem gX0_pairHolds_X0_unitNanos : GoodIn wsX0_pairHolds (va_wsS RX0 198 yX0_unitNanos wsX0_unitNanos) := goodIn_app (goodIn_of _ (by decide +kernel)) ggX0_pairHolds_X0_unitNanos
set_option maxRecDepth 20000 in
theorem ggX0_pairHolds_X0_betweenHolds : GoodIn wsX0_pairHolds wsX0_betweenHolds := goodIn_r _ [21, 22, 23, 24, 25] rfl (by decide +kernel)
set_option maxRecDepth 20000 in
theorem gX0_pairHolds_X0_betweenHolds : GoodIn wsX0_pairHolds (va_wsS RX0 235 yX0_betweenHolds wsX0_betweenHolds) := goodIn_app (goodIn_of _ (by decide +kernel)) ggX0_pairHolds_X0_betweenHolds
set_option maxRecDepth 20000 in
theorem ggX0_pairHolds_X0_putOn : GoodIn wsX0_pairHolds wsX0_putOn := goodIn_r _ [28, 29, 15, 16, 3, 17, 18, 30, 31, 32, 33] rfl (by decide +kernel)
set_option maxRecDepth 20000 in
theorem gX0_pairHolds_X0_putOn : GoodIn wsX0_pairHolds (va_wsS RX0 65 yX0_putOn wsX0_putOn) := goodIn_app (goodIn_of _ (by decide +kernel)) ggX0_pairHolds_X0_putOn
set_option maxRecDepth 20000 in
theorem ggX0_comparedByParts_X0_partOf : GoodIn wsX0_comparedByParts wsX0_partOf := goodIn_r _ [4, 5] rfl (by decide +kernel)
set_option maxRecDepth 20000 in
theorem gX0_comparedByParts_X0_partOf : GoodIn wsX0_comparedByParts (va_wsS RX0 45 yX0_partOf wsX0_partOf) := goodIn_app (goodIn_of _ (by decide +kernel)) ggX0_comparedByParts_X0_partOf
set_option maxRecDepth 20000 in
theorem ggX0_comparedByParts_X0_sideOf : GoodIn wsX0_comparedByParts wsX0_sideOf := goodIn_r _ [8] rfl (by decide +kernel)
set_option maxRecDepth 20000 in
theorem gX0_comparedByParts_X0_sideOf : GoodIn wsX0_comparedByParts (va_wsS RX0 98 yX0_sideOf wsX0_sideOf) := goodIn_app (goodIn_of _ (by decide +kernel)) ggX0_comparedByParts_X0_sideOf
set_option maxRecDepth 20000 in
theorem ggX0_digestClock_X0_partOf : GoodIn wsX0_digestClock wsX0_partOf := goodIn_r _ [5, 6] rfl (by decide +kernel)
set_option maxRecDepth 20000 in
theorem gX0_digestClock_X0_partOf : GoodIn wsX0_digestClock (va_wsS RX0 45 yX0_partOf wsX0_partOf) := goodIn_app (goodIn_of _ (by decide +kernel)) ggX0_digestClock_X0_partOf
set_option maxRecDepth 20000 in
theorem ggX0_digestPair_X0_sideOf : GoodIn wsX0_digestPair wsX0_sideOf := goodIn_r _ [5] rfl (by decide +kernel)
set_option maxRecDepth 20000 in
theorem gX0_digestPair_X0_sideOf : GoodIn wsX0_digestPair (va_wsS RX0 98 yX0_sideOf wsX0_sideOf) := goodIn_app (goodIn_of _ (by decide +kernel)) ggX0_digestPair_X0_sideOf
set_option maxRecDepth 20000 in
theorem ggX0_digestPair_X0_unitsBetween : GoodIn wsX0_digestPair wsX0_unitsBetween := goodIn_r _ [8, 9, 10, 4, 11, 12] rfl (by decide +kernel)
set_option maxRecDepth 20000 in
theorem gX0_digestPair_X0_unitsBetween : GoodIn wsX0_digestPair (va_wsS RX0 102 yX0_unitsBetween wsX0_unitsBetween) := goodIn_app (goodIn_of _ (by decide +kernel)) ggX0_digestPair_X0_unitsBetween
set_option maxRecDepth 20000 in
theorem ggX2_isNone_X2_isIn : GoodIn wsX2_isNone wsX2_isIn := goodIn_r _ [4] rfl (by decide +kernel)
set_option maxRecDepth 20000 in
theorem gX2_isNone_X2_isIn : GoodIn wsX2_isNone (va_wsS RX2 17 yX2_isIn wsX2_isIn) := goodIn_app (goodIn_of _ (by decide +kernel)) ggX2_isNone_X2_isIn
set_option maxRecDepth 20000 in
theorem ggX2_part_X2_secondOf : GoodIn wsX2_part wsX2_secondOf := goodIn_r _ [5, 1] rfl (by decide +kernel)
set_option maxRecDepth 20000 in
theorem gX2_part_X2_secondOf : GoodIn wsX2_part (va_wsS RX2 31 yX2_secondOf wsX2_secondOf) := goodIn_app (goodIn_of _ (by decide +kernel)) ggX2_part_X2_secondOf
set_option maxRecDepth 20000 in
theorem ggX2_set_X2_secondOf : GoodIn wsX2_set wsX2_secondOf := goodIn_r _ [6, 7] rfl (by decide +kernel)
set_option maxRecDepth 20000 in
theorem gX2_set_X2_secondOf : GoodIn wsX2_set (va_wsS RX2 31 yX2_secondOf wsX2_secondOf) := goodIn_app (goodIn_of _ (by decide +kernel)) ggX2_set_X2_secondOf
set_option maxRecDepth 20000 in
theorem ggX2_tell_X2_isNone : GoodIn wsX2_tell wsX2_isNone := goodIn_r _ [6, 7, 8, 5, 9] rfl (by decide +kernel)
set_option maxRecDepth 20000 in
theorem gX2_tell_X2_isNone : GoodIn wsX2_tell (va_wsS RX2 38 yX2_isNone wsX2_isNone) := goodIn_app (goodIn_of _ (by decide +kernel)) ggX2_tell_X2_isNone
set_option maxRecDepth 20000 in
theorem ggX2_tell_X2_isIn : GoodIn wsX2_tell wsX2_isIn := goodIn_r _ [9] rfl (by decide +kernel)
set_option maxRecDepth 20000 in
theorem gX2_tell_X2_isIn : GoodIn wsX2_tell (va_wsS RX2 17 yX2_isIn wsX2_isIn) := goodIn_app (goodIn_of _ (by decide +kernel)) ggX2_tell_X2_isIn
set_option maxRecDepth 20000 in
theorem ggX2_tell_X2_isStopped : GoodIn wsX2_tell wsX2_isStopped := goodIn_r _ [13, 14, 24, 25, 26, 27] rfl (by decide +kernel)
set_option maxRecDepth 20000 in
theorem gX2_tell_X2_isStopped : GoodIn wsX2_tell (wsV RX2 43 RX2 yX2_isStopped wsX2_isStopped) := goodIn_app (goodIn_of _ (by decide +kernel)) ggX2_tell_X2_isStopped
set_option maxRecDepth 20000 in
theorem ggX2_tell_X2_set : GoodIn wsX2_tell wsX2_set := goodIn_r _ [18, 19, 20, 21, 22, 5, 23, 2, 24, 25, 26, 27] rfl (by decide +kernel)
set_option maxRecDepth 20000 in
theorem gX2_tell_X2_set : GoodIn wsX2_tell (wsV RX2 47 RX2 yX2_set wsX2_set) := goodIn_app (goodIn_of _ (by decide +kernel)) ggX2_tell_X2_set
set_option maxRecDepth 20000 in
theorem ggX2_tellSecond_X2_isNone : GoodIn wsX2_tellSecond wsX2_isNone := goodIn_r _ [6, 7, 8, 5, 9] rfl (by decide +kernel)
set_option maxRecDepth 20000 in
theorem gX2_tellSecond_X2_isNone : GoodIn wsX2_tellSecond (va_wsS RX2 38 yX2_isNone wsX2_isNone) := goodIn_app (goodIn_of _ (by decide +kernel)) ggX2_tellSecond_X2_isNone
set_option maxRecDepth 20000 in
theorem ggX2_tellSecond_X2_isIn : GoodIn wsX2_tellSecond wsX2_isIn := goodIn_r _ [9] rfl (by decide +kernel)
set_option maxRecDepth 20000 in
theorem gX2_tellSecond_X2_isIn : GoodIn wsX2_tellSecond (va_wsS RX2 17 yX2_isIn wsX2_isIn) := goodIn_app (goodIn_of _ (by decide +kernel)) ggX2_tellSecond_X2_isIn
set_option maxRecDepth 20000 in
theorem ggX2_tellSecond_X2_isStopped : GoodIn wsX2_tellSecond wsX2_isStopped := goodIn_r _ [13, 14, 24, 25, 26, 27] rfl (by decide +kernel)
set_option maxRecDepth 20000 in
theorem gX2_tellSecond_X2_isStopped : GoodIn wsX2_tellSecond (wsV RX2 43 RX2 yX2_isStopped wsX2_isStopped) := goodIn_app (goodIn_of _ (by decide +kernel)) ggX2_tellSecond_X2_isStopped
set_option maxRecDepth 20000 in
theorem ggX2_tellSecond_X2_set : GoodIn wsX2_tellSecond wsX2_set := goodIn_r _ [18, 19, 20, 21, 22, 5, 23, 2, 24, 25, 26, 27] rfl (by decide +kernel)
set_option maxRecDepth 20000 in
theorem gX2_tellSecond_X2_set : GoodIn wsX2_tellSecond (wsV RX2 47 RX2 yX2_set wsX2_set) := goodIn_app (goodIn_of _ (by decide +kernel)) ggX2_tellSecond_X2_set
set_option maxRecDepth 20000 in
theorem ggX2_tellNumber_X2_isNone : GoodIn wsX2_tellNumber wsX2_isNone := goodIn_r _ [7, 8, 9, 6, 10] rfl (by decide +kernel)
set_option maxRecDepth 20000 in
theorem gX2_tellNumber_X2_isNone : GoodIn wsX2_tellNumber (va_wsS RX2 38 yX2_isNone wsX2_isNone) := goodIn_app (goodIn_of _ (by decide +kernel)) ggX2_tellNumber_X2_isNone
set_option maxRecDepth 20000 in
theorem ggX2_tellNumber_X2_isIn : GoodIn wsX2_tellNumber wsX2_isIn := goodIn_r _ [10] rfl (by decide +kernel)
set_option maxRecDepth 20000 in
theorem gX2_tellNumber_X2_isIn : GoodIn wsX2_tellNumber (va_wsS RX2 17 yX2_isIn wsX2_isIn) := goodIn_app (goodIn_of _ (by decide +kernel)) ggX2_tellNumber_X2_isIn
set_option maxRecDepth 20000 in
theorem ggX2_tellNumber_X2_isStopped : GoodIn wsX2_tellNumber wsX2_isStopped := goodIn_r _ [14, 15, 25, 26, 27, 28] rfl (by decide +kernel)
set_option maxRecDepth 20000 in
theorem gX2_tellNumber_X2_isStopped : GoodIn wsX2_tellNumber (wsV RX2 43 RX2 yX2_isStopped wsX2_isStopped) := goodIn_app (goodIn_of _ (by decide +kernel)) ggX2_tellNumber_X2_isStopped
set_option maxRecDepth 20000 in
theorem ggX2_tellNumber_X2_set : GoodIn wsX2_tellNumber wsX2_set := goodIn_r _ [19, 20, 21, 22, 23, 6, 24, 3, 25, 26, 27, 28] rfl (by decide +kernel)
set_option maxRecDepth 20000 in
theorem gX2_tellNumber_X2_set : GoodIn wsX2_tellNumber (wsV RX2 47 RX2 yX2_set wsX2_set) := goodIn_app (goodIn_of _ (by decide +kernel)) ggX2_tellNumber_X2_set
set_option maxRecDepth 20000 in
theorem ggX2_tellKnown_X2_isNone : GoodIn wsX2_tellKnown wsX2_isNone := goodIn_r _ [6, 7, 8, 5, 9] rfl (by decide +kernel)
set_option maxRecDepth 20000 in
theorem gX2_tellKnown_X2_isNone : GoodIn wsX2_tellKnown (va_wsS RX2 38 yX2_isNone wsX2_isNone) := goodIn_app (goodIn_of _ (by decide +kernel)) ggX2_tellKnown_X2_isNone
set_option maxRecDepth 20000 in
theorem ggX2_tellKnown_X2_isIn : GoodIn wsX2_tellKnown wsX2_isIn := goodIn_r _ [9] rfl (by decide +kernel)
set_option maxRecDepth 20000 in
theorem gX2_tellKnown_X2_isIn : GoodIn wsX2_tellKnown (va_wsS RX2 17 yX2_isIn wsX2_isIn) := goodIn_app (goodIn_of _ (by decide +kernel)) ggX2_tellKnown_X2_isIn
set_option maxRecDepth 20000 in
theorem ggX2_tellKnown_X2_isStopped : GoodIn wsX2_tellKnown wsX2_isStopped := goodIn_r _ [13, 14, 25, 26, 27, 28] rfl (by decide +kernel)
set_option maxRecDepth 20000 in
theorem gX2_tellKnown_X2_isStopped : GoodIn wsX2_tellKnown (wsV RX2 43 RX2 yX2_isStopped wsX2_isStopped) := goodIn_app (goodIn_of _ (by decide +kernel)) ggX2_tellKnown_X2_isStopped
set_option maxRecDepth 20000 in
theorem ggX2_tellKnown_X2_set : GoodIn wsX2_tellKnown wsX2_set := goodIn_r _ [18, 19, 20, 21, 22, 5, 23, 24, 25, 26, 27, 28] rfl (by decide +kernel)
set_option maxRecDepth 20000 in
theorem gX2_tellKnown_X2_set : GoodIn wsX2_tellKnown (wsV RX2 47 RX2 yX2_set wsX2_set) := goodIn_app (goodIn_of _ (by decide +kernel)) ggX2_tellKnown_X2_set
set_option maxRecDepth 20000 in
theorem ggX2_take_X2_isNone : GoodIn wsX2_take wsX2_isNone := goodIn_r _ [5, 6, 7, 4, 8] rfl (by decide +kernel)
set_option maxRecDepth 20000 in
theorem gX2_take_X2_isNone : GoodIn wsX2_take (va_wsS RX2 38 yX2_isNone wsX2_isNone) := goodIn_app (goodIn_of _ (by decide +kernel)) ggX2_take_X2_isNone
set_option maxRecDepth 20000 in
theorem ggX2_take_X2_isStopped : GoodIn wsX2_take wsX2_isStopped := goodIn_r _ [12, 13, 23, 24, 25, 26] rfl (by decide +kernel)
set_option maxRecDepth 20000 in
theorem gX2_take_X2_isStopped : GoodIn wsX2_take (wsV RX2 43 RX2 yX2_isStopped wsX2_isStopped) := goodIn_app (goodIn_of _ (by decide +kernel)) ggX2_take_X2_isStopped
set_option maxRecDepth 20000 in
theorem ggX2_take_X2_set : GoodIn wsX2_take wsX2_set := goodIn_r _ [17, 1, 18, 19, 20, 4, 21, 22, 23, 24, 25, 26] rfl (by decide +kernel)
set_option maxRecDepth 20000 in
theorem gX2_take_X2_set : GoodIn wsX2_take (wsV RX2 47 RX2 yX2_set wsX2_set) := goodIn_app (goodIn_of _ (by decide +kernel)) ggX2_take_X2_set
set_option maxRecDepth 20000 in
theorem ggX2_with_X2_isNone : GoodIn wsX2_with wsX2_isNone := goodIn_r _ [9, 10, 11, 8, 12] rfl (by decide +kernel)
set_option maxRecDepth 20000 in
theorem gX2_with_X2_isNone : GoodIn wsX2_with (va_wsS RX2 38 yX2_isNone wsX2_isNone) := goodIn_app (goodIn_of _ (by decide +kernel)) ggX2_with_X2_isNone
set_option maxRecDepth 20000 in
theorem ggX2_with_X2_isIn : GoodIn wsX2_with wsX2_isIn := goodIn_r _ [12] rfl (by decide +kernel)
set_option maxRecDepth 20000 in
theorem gX2_with_X2_isIn : GoodIn wsX2_with (va_wsS RX2 17 yX2_isIn wsX2_isIn) := goodIn_app (goodIn_of _ (by decide +kernel)) ggX2_with_X2_isIn
set_option maxRecDepth 20000 in
theorem ggX2_with_X2_isStopped : GoodIn wsX2_with wsX2_isStopped := goodIn_r _ [16, 17, 29, 30, 31, 32] rfl (by decide +kernel)
set_option maxRecDepth 20000 in
theorem gX2_with_X2_isStopped : GoodIn wsX2_with (wsV RX2 43 RX2 yX2_isStopped wsX2_isStopped) := goodIn_app (goodIn_of _ (by decide +kernel)) ggX2_with_X2_isStopped
set_option maxRecDepth 20000 in
theorem ggX2_with_X2_part : GoodIn wsX2_with wsX2_part := goodIn_r _ [20, 5, 21, 22, 8, 23] rfl (by decide +kernel)
set_option maxRecDepth 20000 in
theorem gX2_with_X2_part : GoodIn wsX2_with (va_wsS RX2 56 yX2_part wsX2_part) := goodIn_app (goodIn_of _ (by decide +kernel)) ggX2_with_X2_part
set_option maxRecDepth 20000 in
theorem ggX2_with_X2_set : GoodIn wsX2_with wsX2_set := goodIn_r _ [27, 2, 28, 21, 22, 8, 23, 5, 29, 30, 31, 32] rfl (by decide +kernel)
set_option maxRecDepth 20000 in
theorem gX2_with_X2_set : GoodIn wsX2_with (wsV RX2 47 RX2 yX2_set wsX2_set) := goodIn_app (goodIn_of _ (by decide +kernel)) ggX2_with_X2_set
set_option maxRecDepth 20000 in
theorem ggX2_isNoStep_X2_isIn : GoodIn wsX2_isNoStep wsX2_isIn := goodIn_r _ [4] rfl (by decide +kernel)
set_option maxRecDepth 20000 in
theorem gX2_isNoStep_X2_isIn : GoodIn wsX2_isNoStep (va_wsS RX2 17 yX2_isIn wsX2_isIn) := goodIn_app (goodIn_of _ (by decide +kernel)) ggX2_isNoStep_X2_isIn
set_option maxRecDepth 20000 in
theorem ggX2_on_X2_size : GoodIn wsX2_on wsX2_size := goodIn_r _ [5, 6, 7, 8, 9] rfl (by decide +kernel)
set_option maxRecDepth 20000 in
theorem gX2_on_X2_size : GoodIn wsX2_on (va_wsS RX2 66 yX2_size wsX2_size) := goodIn_app (goodIn_of _ (by decide +kernel)) ggX2_on_X2_size
set_option maxRecDepth 20000 in
theorem ggX2_plus_X2_isNone : GoodIn wsX2_plus wsX2_isNone := goodIn_r _ [5, 6, 7, 4, 8] rfl (by decide +kernel)
set_option maxRecDepth 20000 in
theorem gX2_plus_X2_isNone : GoodIn wsX2_plus (va_wsS RX2 38 yX2_isNone wsX2_isNone) := goodIn_app (goodIn_of _ (by decide +kernel)) ggX2_plus_X2_isNone
set_option maxRecDepth 20000 in
theorem ggX2_plus_X2_isNoStep : GoodIn wsX2_plus wsX2_isNoStep := goodIn_r _ [11, 6, 7, 4, 8] rfl (by decide +kernel)
set_option maxRecDepth 20000 in
theorem gX2_plus_X2_isNoStep : GoodIn wsX2_plus (va_wsS RX2 70 yX2_isNoStep wsX2_isNoStep) := goodIn_app (goodIn_of _ (by decide +kernel)) ggX2_plus_X2_isNoStep
set_option maxRecDepth 20000 in
theorem ggX2_plus_X2_isStopped : GoodIn wsX2_plus wsX2_isStopped := goodIn_r _ [15, 16, 37, 38, 39, 40] rfl (by decide +kernel)
set_option maxRecDepth 20000 in
theorem gX2_plus_X2_isStopped : GoodIn wsX2_plus (wsV RX2 43 RX2 yX2_isStopped wsX2_isStopped) := goodIn_app (goodIn_of _ (by decide +kernel)) ggX2_plus_X2_isStopped
set_option maxRecDepth 20000 in
theorem ggX2_plus_X2_on : GoodIn wsX2_plus wsX2_on := goodIn_r _ [19, 20, 21, 22, 4, 23, 24, 25, 26, 27] rfl (by decide +kernel)
set_option maxRecDepth 20000 in
theorem gX2_plus_X2_on : GoodIn wsX2_plus (va_wsS RX2 73 yX2_on wsX2_on) := goodIn_app (goodIn_of _ (by decide +kernel)) ggX2_plus_X2_on
set_option maxRecDepth 20000 in
theorem ggX2_plus_X2_set : GoodIn wsX2_plus wsX2_set := goodIn_r _ [31, 1, 32, 33, 34, 4, 35, 36, 37, 38, 39, 40] rfl (by decide +kernel)
set_option maxRecDepth 20000 in
theorem gX2_plus_X2_set : GoodIn wsX2_plus (wsV RX2 47 RX2 yX2_set wsX2_set) := goodIn_app (goodIn_of _ (by decide +kernel)) ggX2_plus_X2_set
set_option maxRecDepth 20000 in
theorem ggX2_minus_X2_isNone : GoodIn wsX2_minus wsX2_isNone := goodIn_r _ [5, 6, 7, 4, 8] rfl (by decide +kernel)
set_option maxRecDepth 20000 in
theorem gX2_minus_X2_isNone : GoodIn wsX2_minus (va_wsS RX2 38 yX2_isNone wsX2_isNone) := goodIn_app (goodIn_of _ (by decide +kernel)) ggX2_minus_X2_isNone
set_option maxRecDepth 20000 in
theorem ggX2_minus_X2_isNoStep : GoodIn wsX2_minus wsX2_isNoStep := goodIn_r _ [11, 6, 7, 4, 8] rfl (by decide +kernel)
set_option maxRecDepth 20000 in
theorem gX2_minus_X2_isNoStep : GoodIn wsX2_minus (va_wsS RX2 70 yX2_isNoStep wsX2_isNoStep) := goodIn_app (goodIn_of _ (by decide +kernel)) ggX2_minus_X2_isNoStep
set_option maxRecDepth 20000 in
theorem ggX2_minus_X2_isStopped : GoodIn wsX2_minus wsX2_isStopped := goodIn_r _ [15, 16, 37, 38, 39, 40] rfl (by decide +kernel)
set_option maxRecDepth 20000 in
theorem gX2_minus_X2_isStopped : GoodIn wsX2_minus (wsV RX2 43 RX2 yX2_isStopped wsX2_isStopped) := goodIn_app (goodIn_of _ (by decide +kernel)) ggX2_minus_X2_isStopped
set_option maxRecDepth 20000 in
theorem ggX2_minus_X2_on : GoodIn wsX2_minus wsX2_on := goodIn_r _ [19, 20, 21, 22, 4, 23, 24, 25, 26, 27] rfl (by decide +kernel)
set_option maxRecDepth 20000 in
theorem gX2_minus_X2_on : GoodIn wsX2_minus (va_wsS RX2 73 yX2_on wsX2_on) := goodIn_app (goodIn_of _ (by decide +kernel)) ggX2_minus_X2_on
set_option maxRecDepth 20000 in
theorem ggX2_minus_X2_set : GoodIn wsX2_minus wsX2_set := goodIn_r _ [31, 1, 32, 33, 34, 4, 35, 36, 37, 38, 39, 40] rfl (by decide +kernel)
set_option maxRecDepth 20000 in
theorem gX2_minus_X2_set : GoodIn wsX2_minus (wsV RX2 47 RX2 yX2_set wsX2_set) := goodIn_app (goodIn_of _ (by decide +kernel)) ggX2_minus_X2_set
set_option maxRecDepth 20000 in
theorem ggX2_walk_X2_isNone : GoodIn wsX2_walk wsX2_isNone := goodIn_r _ [5, 6, 7, 4, 8] rfl (by decide +kernel)
set_option maxRecDepth 20000 in
theorem gX2_walk_X2_isNone : GoodIn wsX2_walk (va_wsS RX2 38 yX2_isNone wsX2_isNone) := goodIn_app (goodIn_of _ (by decide +kernel)) ggX2_walk_X2_isNone
set_option maxRecDepth 20000 in
theorem ggX2_walk_X2_isNoStep : GoodIn wsX2_walk wsX2_isNoStep := goodIn_r _ [11, 6, 7, 4, 8] rfl (by decide +kernel)
set_option maxRecDepth 20000 in
theorem gX2_walk_X2_isNoStep : GoodIn wsX2_walk (va_wsS RX2 70 yX2_isNoStep wsX2_isNoStep) := goodIn_app (goodIn_of _ (by decide +kernel)) ggX2_walk_X2_isNoStep
set_option maxRecDepth 20000 in
theorem ggX2_walk_X2_isIn : GoodIn wsX2_walk wsX2_isIn := goodIn_r _ [8] rfl (by decide +kernel)
set_option maxRecDepth 20000 in
theorem gX2_walk_X2_isIn : GoodIn wsX2_walk (va_wsS RX2 17 yX2_isIn wsX2_isIn) := goodIn_app (goodIn_of _ (by decide +kernel)) ggX2_walk_X2_isIn
set_option maxRecDepth 20000 in
theorem ggX2_walk_X2_isStopped : GoodIn wsX2_walk wsX2_isStopped := goodIn_r _ [15, 16, 37, 38, 39, 40] rfl (by decide +kernel)
set_option maxRecDepth 20000 in
theorem gX2_walk_X2_isStopped : GoodIn wsX2_walk (wsV RX2 43 RX2 yX2_isStopped wsX2_isStopped) := goodIn_app (goodIn_of _ (by decide +kernel)) ggX2_walk_X2_isStopped
set_option maxRecDepth 20000 in
theorem ggX2_walk_X2_on : GoodIn wsX2_walk wsX2_on := goodIn_r _ [19, 20, 21, 22, 4, 23, 24, 25, 26, 27] rfl (by decide +kernel)
set_option maxRecDepth 20000 in
theorem gX2_walk_X2_on : GoodIn wsX2_walk (va_wsS RX2 73 yX2_on wsX2_on) := goodIn_app (goodIn_of _ (by decide +kernel)) ggX2_walk_X2_on
set_option maxRecDepth 20000 in
theorem ggX2_walk_X2_set : GoodIn wsX2_walk wsX2_set := goodIn_r _ [31, 1, 32, 33, 34, 4, 35, 36, 37, 38, 39, 40] rfl (by decide +kernel)
set_option maxRecDepth 20000 in
theorem gX2_walk_X2_set : GoodIn wsX2_walk (wsV RX2 47 RX2 yX2_set wsX2_set) := goodIn_app (goodIn_of _ (by decide +kernel)) ggX2_walk_X2_set
set_option maxRecDepth 20000 in
theorem ggX2_cut_X2_isNone : GoodIn wsX2_cut wsX2_isNone := goodIn_r _ [5, 6, 7, 4, 8] rfl (by decide +kernel)
set_option maxRecDepth 20000 in
theorem gX2_cut_X2_isNone : GoodIn wsX2_cut (va_wsS RX2 38 yX2_isNone wsX2_isNone) := goodIn_app (goodIn_of _ (by decide +kernel)) ggX2_cut_X2_isNone
set_option maxRecDepth 20000 in
theorem ggX2_cut_X2_isIn : GoodIn wsX2_cut wsX2_isIn := goodIn_r _ [8] rfl (by decide +kernel)
set_option maxRecDepth 20000 in
theorem gX2_cut_X2_isIn : GoodIn wsX2_cut (va_wsS RX2 17 yX2_isIn wsX2_isIn) := goodIn_app (goodIn_of _ (by decide +kernel)) ggX2_cut_X2_isIn
set_option maxRecDepth 20000 in
theorem ggX2_cut_X2_isStopped : GoodIn wsX2_cut wsX2_isStopped := goodIn_r _ [12, 13, 30, 31, 32, 33] rfl (by decide +kernel)
set_option maxRecDepth 20000 in
theorem gX2_cut_X2_isStopped : GoodIn wsX2_cut (wsV RX2 43 RX2 yX2_isStopped wsX2_isStopped) := goodIn_app (goodIn_of _ (by decide +kernel)) ggX2_cut_X2_isStopped
set_option maxRecDepth 20000 in
theorem ggX2_cut_X2_size : GoodIn wsX2_cut wsX2_size := goodIn_r _ [16, 17, 18, 19, 20] rfl (by decide +kernel)
set_option maxRecDepth 20000 in
theorem gX2_cut_X2_size : GoodIn wsX2_cut (va_wsS RX2 66 yX2_size wsX2_size) := goodIn_app (goodIn_of _ (by decide +kernel)) ggX2_cut_X2_size
set_option maxRecDepth 20000 in
theorem ggX2_cut_X2_set : GoodIn wsX2_cut wsX2_set := goodIn_r _ [24, 1, 25, 26, 27, 4, 28, 29, 30, 31, 32, 33] rfl (by decide +kernel)
set_option maxRecDepth 20000 in
theorem gX2_cut_X2_set : GoodIn wsX2_cut (wsV RX2 47 RX2 yX2_set wsX2_set) := goodIn_app (goodIn_of _ (by decide +kernel)) ggX2_cut_X2_set
set_option maxRecDepth 20000 in
theorem ggX2_of_X2_isNone : GoodIn wsX2_of wsX2_isNone := goodIn_r _ [5, 6, 7, 4, 8] rfl (by decide +kernel)
set_option maxRecDepth 20000 in
theorem gX2_of_X2_isNone : GoodIn wsX2_of (va_wsS RX2 38 yX2_isNone wsX2_isNone) := goodIn_app (goodIn_of _ (by decide +kernel)) ggX2_of_X2_isNone
set_option maxRecDepth 20000 in
theorem ggX2_of_X2_isIn : GoodIn wsX2_of wsX2_isIn := goodIn_r _ [8] rfl (by decide +kernel)
set_option maxRecDepth 20000 in
theorem gX2_of_X2_isIn : GoodIn wsX2_of (va_wsS RX2 17 yX2_isIn wsX2_isIn) := goodIn_app (goodIn_of _ (by decide +kernel)) ggX2_of_X2_isIn
set_option maxRecDepth 20000 in
theorem ggX2_of_X2_isStopped : GoodIn wsX2_of wsX2_isStopped := goodIn_r _ [12, 13, 21, 22, 23, 24] rfl (by decide +kernel)
set_option maxRecDepth 20000 in
theorem gX2_of_X2_isStopped : GoodIn wsX2_of (wsV RX2 43 RX2 yX2_isStopped wsX2_isStopped) := goodIn_app (goodIn_of _ (by decide +kernel)) ggX2_of_X2_isStopped
set_option maxRecDepth 20000 in
theorem ggX2_of_X2_part : GoodIn wsX2_of wsX2_part := goodIn_r _ [16, 17, 18, 19, 4, 20] rfl (by decide +kernel)
set_option maxRecDepth 20000 in
theorem gX2_of_X2_part : GoodIn wsX2_of (va_wsS RX2 56 yX2_part wsX2_part) := goodIn_app (goodIn_of _ (by decide +kernel)) ggX2_of_X2_part
set_option maxRecDepth 20000 in
theorem ggX2_number_X2_isNone : GoodIn wsX2_number wsX2_isNone := goodIn_r _ [8, 9, 10, 7, 11] rfl (by decide +kernel)
set_option maxRecDepth 20000 in
theorem gX2_number_X2_isNone : GoodIn wsX2_number (va_wsS RX2 38 yX2_isNone wsX2_isNone) := goodIn_app (goodIn_of _ (by decide +kernel)) ggX2_number_X2_isNone
set_option maxRecDepth 20000 in
theorem ggX2_number_X2_isStopped : GoodIn wsX2_number wsX2_isStopped := goodIn_r _ [15, 16, 259, 260, 261, 262] rfl (by decide +kernel)
set_option maxRecDepth 20000 in
theorem gX2_number_X2_isStopped : GoodIn wsX2_number (wsV RX2 43 RX2 yX2_isStopped wsX2_isStopped) := goodIn_app (goodIn_of _ (by decide +kernel)) ggX2_number_X2_isStopped
set_option maxRecDepth 20000 in
theorem ggX2_number_J4_init_da8c8 : GoodIn wsX2_number wsJ4_init_da8c8 := goodIn_r _ [19, 20, 21, 22, 23, 24, 25, 26, 27, 28, 29, 30, 31, 32, 33, 34, 35, 36, 37, 38, 255, 256, 257, 258] rfl (by decide +kernel)
set_option maxRecDepth 20000 in
theorem gX2_number_J4_init_da8c8 : GoodIn wsX2_number (wsJ4_init_da8c8) := ggX2_number_J4_init_da8c8
set_option maxRecDepth 20000 in
theorem ggX2_number_J4_append_15ec4 : GoodIn wsX2_number wsJ4_append_15ec4 := goodIn_r _ [42, 43, 44, 45, 46, 22, 47, 48, 49, 50, 51, 52, 53, 29, 54, 55, 56, 57, 58, 30, 59, 60, 61, 62, 63, 64, 65, 66, 67, 68, 69, 70, 71, 72, 73, 74, 75, 76, 77, 78, 79, 80, 81, 82, 83, 84, 85, 86, 28, 87, 88, 89, 90, 91, 92, 93, 94, 95, 96, 97, 98, 27, 99, 100, 33, 101, 102, 103, 104, 105, 106, 107, 108, 109, 110, 111, 112, 113, 114, 115, 116, 117, 118, 119, 120, 121, 122, 123, 124, 125, 126, 127, 128, 129, 130, 131, 132, 133, 134, 135, 136, 137, 138, 139, 140, 141, 142, 143, 144, 145, 146, 147, 148, 149, 31, 32, 34, 35, 36, 37, 38, 150, 151, 152, 153, 154, 155, 156, 157, 158, 159, 160, 161, 162, 163, 164, 165, 166, 167, 168, 169, 170, 171, 255, 256, 257, 258, 263, 264, 265, 266] rfl (by decide +kernel)
set_option maxRecDepth 20000 in
theorem gX2_number_J4_append_15ec4 : GoodIn wsX2_number (wsV RX2 82 RJ4 yJ4_append_15ec4 wsJ4_append_15ec4) := goodIn_app (goodIn_of _ (by decide +kernel)) ggX2_number_J4_append_15ec4
set_option maxRecDepth 20000 in
theorem ggX2_number_J4_append_f7089 : GoodIn wsX2_number wsJ4_append_f7089 := goodIn_r _ [175, 176, 177, 45, 178, 22, 179, 48, 29, 180, 181, 182, 183, 184, 185, 54, 55, 56, 57, 58, 30, 59, 60, 61, 62, 63, 64, 65, 66, 67, 68, 69, 70, 71, 72, 73, 74, 75, 76, 77, 78, 79, 80, 81, 82, 83, 84, 85, 86, 28, 87, 88, 89, 90, 91, 92, 93, 94, 95, 96, 97, 98, 27, 186, 187, 188, 189, 190, 191, 192, 193, 194, 33, 195, 102, 103, 104, 105, 106, 107, 108, 109, 110, 111, 112, 113, 114, 115, 116, 117, 196, 197, 198, 199, 200, 201, 202, 118, 119, 120, 121, 122, 255, 256, 257, 258] rfl (by decide +kernel)
set_option maxRecDepth 20000 in
theorem gX2_number_J4_append_f7089 : GoodIn wsX2_number (wsV RX2 86 RJ4 yJ4_append_f7089 wsJ4_append_f7089) := goodIn_app (goodIn_of _ (by decide +kernel)) ggX2_number_J4_append_f7089
set_option maxRecDepth 20000 in
theorem ggX2_number_J4_toString_0e30d : GoodIn wsX2_number wsJ4_toString_0e30d := goodIn_r _ [206, 207, 208, 111, 209, 210, 211, 212, 213, 214, 215, 25, 26, 133, 127, 132, 216, 217, 218, 219, 220, 22, 221, 29, 222, 223, 224, 225, 226, 3, 227, 228, 45, 229, 230, 48, 231, 95, 96, 97, 98, 27, 30, 232, 233, 79, 234, 81, 82, 83, 84, 85, 86, 235, 236, 237, 28, 87, 88, 71, 89, 90, 91, 92, 93, 238, 239, 240, 241, 2, 242, 243, 33, 244, 245, 246, 247, 157, 158, 159, 106, 107, 108, 160, 161, 162, 113, 163, 164, 116, 165, 248, 249, 250, 102, 121, 122, 35, 36, 37, 38, 251, 252, 253, 254, 263, 264, 265, 266, 255, 256, 257, 258] rfl (by decide +kernel)
set_option maxRecDepth 20000 in
theorem gX2_number_J4_toString_0e30d : GoodIn wsX2_number (wsV RX2 89 RJ4 yJ4_toString_0e30d wsJ4_toString_0e30d) := goodIn_app (goodIn_of _ (by decide +kernel)) ggX2_number_J4_toString_0e30d
set_option maxRecDepth 20000 in
theorem ggX2_text_X2_isNone : GoodIn wsX2_text wsX2_isNone := goodIn_r _ [8, 9, 10, 7, 11] rfl (by decide +kernel)
set_option maxRecDepth 20000 in
theorem gX2_text_X2_isNone : GoodIn wsX2_text (va_wsS RX2 38 yX2_isNone wsX2_isNone) := goodIn_app (goodIn_of _ (by decide +kernel)) ggX2_text_X2_isNone
set_option maxRecDepth 20000 in
theorem ggX2_text_X2_isStopped : GoodIn wsX2_text wsX2_isStopped := goodIn_r _ [15, 16, 260, 261, 262, 263] rfl (by decide +kernel)
set_option maxRecDepth 20000 in
theorem gX2_text_X2_isStopped : GoodIn wsX2_text (wsV RX2 43 RX2 yX2_isStopped wsX2_isStopped) := goodIn_app (goodIn_of _ (by decide +kernel)) ggX2_text_X2_isStopped
set_option maxRecDepth 20000 in
theorem ggX2_text_J4_init_da8c8 : GoodIn wsX2_text wsJ4_init_da8c8 := goodIn_r _ [19, 20, 21, 22, 23, 24, 25, 26, 27, 28, 29, 30, 31, 32, 33, 34, 35, 36, 37, 38, 256, 257, 258, 259] rfl (by decide +kernel)
set_option maxRecDepth 20000 in
theorem gX2_text_J4_init_da8c8 : GoodIn wsX2_text (wsJ4_init_da8c8) := ggX2_text_J4_init_da8c8
set_option maxRecDepth 20000 in
theorem ggX2_text_X2_part : GoodIn wsX2_text wsX2_part := goodIn_r _ [41, 42, 43, 44, 7, 45] rfl (by decide +kernel)
set_option maxRecDepth 20000 in
theorem gX2_text_X2_part : GoodIn wsX2_text (va_wsS RX2 56 yX2_part wsX2_part) := goodIn_app (goodIn_of _ (by decide +kernel)) ggX2_text_X2_part
set_option maxRecDepth 20000 in
theorem ggX2_text_J4_append_bf812 : GoodIn wsX2_text wsJ4_append_bf812 := goodIn_r _ [49, 50, 51, 52, 53, 22, 54, 55, 29, 56, 57, 58, 59, 60, 61, 62, 63, 64, 30, 65, 66, 67, 68, 69, 70, 71, 72, 73, 74, 75, 76, 77, 78, 79, 80, 81, 82, 83, 84, 85, 86, 87, 88, 89, 90, 91, 92, 28, 93, 94, 95, 96, 97, 98, 99, 100, 101, 102, 103, 104, 27, 105, 106, 107, 108, 109, 110, 111, 33, 112, 113, 114, 115, 116, 117, 118, 119, 120, 121, 122, 123, 124, 125, 126, 127, 128, 129, 130, 131, 132, 133, 134, 135, 136, 137, 138, 256, 257, 258, 259] rfl (by decide +kernel)
set_option maxRecDepth 20000 in
theorem gX2_text_J4_append_bf812 : GoodIn wsX2_text (wsV RX2 93 RJ4 yJ4_append_bf812 wsJ4_append_bf812) := goodIn_app (goodIn_of _ (by decide +kernel)) ggX2_text_J4_append_bf812
set_option maxRecDepth 20000 in
theorem ggX2_text_J4_append_15ec4 : GoodIn wsX2_text wsJ4_append_15ec4 := goodIn_r _ [142, 143, 144, 52, 145, 22, 146, 55, 147, 148, 149, 150, 151, 29, 60, 61, 62, 63, 64, 30, 65, 66, 67, 68, 69, 70, 71, 72, 73, 74, 75, 76, 77, 78, 79, 80, 81, 82, 83, 84, 85, 86, 87, 88, 89, 90, 91, 92, 28, 93, 94, 95, 96, 97, 98, 99, 100, 101, 102, 103, 104, 27, 152, 153, 33, 154, 113, 114, 115, 116, 117, 118, 119, 120, 121, 122, 123, 124, 125, 126, 127, 128, 134, 135, 136, 137, 138, 155, 156, 157, 158, 159, 160, 161, 162, 163, 164, 165, 166, 167, 168, 169, 170, 171, 172, 173, 174, 175, 176, 177, 178, 179, 180, 181, 31, 32, 34, 35, 36, 37, 38, 182, 183, 184, 185, 186, 187, 188, 189, 190, 191, 192, 193, 194, 195, 196, 197, 198, 199, 200, 201, 202, 203, 256, 257, 258, 259, 264, 265, 266, 267] rfl (by decide +kernel)
set_option maxRecDepth 20000 in
theorem gX2_text_J4_append_15ec4 : GoodIn wsX2_text (wsV RX2 82 RJ4 yJ4_append_15ec4 wsJ4_append_15ec4) := goodIn_app (goodIn_of _ (by decide +kernel)) ggX2_text_J4_append_15ec4
set_option maxRecDepth 20000 in
theorem ggX2_text_J4_toString_0e30d : GoodIn wsX2_text wsJ4_toString_0e30d := goodIn_r _ [207, 208, 209, 122, 210, 211, 212, 213, 214, 215, 216, 25, 26, 165, 159, 164, 217, 218, 219, 220, 221, 22, 222, 29, 223, 224, 225, 226, 227, 3, 228, 229, 52, 230, 231, 55, 232, 101, 102, 103, 104, 27, 30, 233, 234, 85, 235, 87, 88, 89, 90, 91, 92, 236, 237, 238, 28, 93, 94, 77, 95, 96, 97, 98, 99, 239, 240, 241, 242, 2, 243, 244, 33, 245, 246, 247, 248, 189, 190, 191, 117, 118, 119, 192, 193, 194, 124, 195, 196, 127, 197, 249, 250, 251, 113, 137, 138, 35, 36, 37, 38, 252, 253, 254, 255, 264, 265, 266, 267, 256, 257, 258, 259] rfl (by decide +kernel)
set_option maxRecDepth 20000 in
theorem gX2_text_J4_toString_0e30d : GoodIn wsX2_text (wsV RX2 89 RJ4 yJ4_toString_0e30d wsJ4_toString_0e30d) := goodIn_app (goodIn_of _ (by decide +kernel)) ggX2_text_J4_toString_0e30d
set_option maxRecDepth 20000 in
theorem ggX2_beyond_X2_isNone : GoodIn wsX2_beyond wsX2_isNone := goodIn_r _ [8, 9, 10, 7, 11] rfl (by decide +kernel)
set_option maxRecDepth 20000 in
theorem gX2_beyond_X2_isNone : GoodIn wsX2_beyond (va_wsS RX2 38 yX2_isNone wsX2_isNone) := goodIn_app (goodIn_of _ (by decide +kernel)) ggX2_beyond_X2_isNone
set_option maxRecDepth 20000 in
theorem ggX2_beyond_X2_isIn : GoodIn wsX2_beyond wsX2_isIn := goodIn_r _ [11] rfl (by decide +kernel)
set_option maxRecDepth 20000 in
theorem gX2_beyond_X2_isIn : GoodIn wsX2_beyond (va_wsS RX2 17 yX2_isIn wsX2_isIn) := goodIn_app (goodIn_of _ (by decide +kernel)) ggX2_beyond_X2_isIn
set_option maxRecDepth 20000 in
theorem ggX2_beyond_X2_isStopped : GoodIn wsX2_beyond wsX2_isStopped := goodIn_r _ [15, 16, 266, 267, 268, 269] rfl (by decide +kernel)
set_option maxRecDepth 20000 in
theorem gX2_beyond_X2_isStopped : GoodIn wsX2_beyond (wsV RX2 43 RX2 yX2_isStopped wsX2_isStopped) := goodIn_app (goodIn_of _ (by decide +kernel)) ggX2_beyond_X2_isStopped
set_option maxRecDepth 20000 in
theorem ggX2_beyond_J4_init_da8c8 : GoodIn wsX2_beyond wsJ4_init_da8c8 := goodIn_r _ [19, 20, 21, 22, 23, 24, 25, 26, 27, 28, 29, 30, 31, 32, 33, 34, 35, 36, 37, 38, 262, 263, 264, 265] rfl (by decide +kernel)
set_option maxRecDepth 20000 in
theorem gX2_beyond_J4_init_da8c8 : GoodIn wsX2_beyond (wsJ4_init_da8c8) := ggX2_beyond_J4_init_da8c8
set_option maxRecDepth 20000 in
theorem ggX2_beyond_J4_append_15ec4 : GoodIn wsX2_beyond wsJ4_append_15ec4 := goodIn_r _ [42, 43, 44, 45, 46, 22, 47, 48, 49, 50, 51, 52, 53, 29, 54, 55, 56, 57, 58, 30, 59, 60, 61, 62, 63, 64, 65, 66, 67, 68, 69, 70, 71, 72, 73, 74, 75, 76, 77, 78, 79, 80, 81, 82, 83, 84, 85, 86, 28, 87, 88, 89, 90, 91, 92, 93, 94, 95, 96, 97, 98, 27, 99, 100, 33, 101, 102, 103, 104, 105, 106, 107, 108, 109, 110, 111, 112, 113, 114, 115, 116, 117, 118, 119, 120, 121, 122, 123, 124, 125, 126, 127, 128, 129, 130, 131, 132, 133, 134, 135, 136, 137, 138, 139, 140, 141, 142, 143, 144, 145, 146, 147, 148, 149, 31, 32, 34, 35, 36, 37, 38, 150, 151, 152, 153, 154, 155, 156, 157, 158, 159, 160, 161, 162, 163, 164, 165, 166, 167, 168, 169, 170, 171, 262, 263, 264, 265, 270, 271, 272, 273] rfl (by decide +kernel)
set_option maxRecDepth 20000 in
theorem gX2_beyond_J4_append_15ec4 : GoodIn wsX2_beyond (wsV RX2 82 RJ4 yJ4_append_15ec4 wsJ4_append_15ec4) := goodIn_app (goodIn_of _ (by decide +kernel)) ggX2_beyond_J4_append_15ec4
set_option maxRecDepth 20000 in
theorem ggX2_beyond_X2_size : GoodIn wsX2_beyond wsX2_size := goodIn_r _ [174, 175, 176, 177, 178] rfl (by decide +kernel)
set_option maxRecDepth 20000 in
theorem gX2_beyond_X2_size : GoodIn wsX2_beyond (va_wsS RX2 66 yX2_size wsX2_size) := goodIn_app (goodIn_of _ (by decide +kernel)) ggX2_beyond_X2_size
set_option maxRecDepth 20000 in
theorem ggX2_beyond_J4_append_f7089 : GoodIn wsX2_beyond wsJ4_append_f7089 := goodIn_r _ [182, 183, 184, 45, 185, 22, 186, 48, 29, 187, 188, 189, 190, 191, 192, 54, 55, 56, 57, 58, 30, 59, 60, 61, 62, 63, 64, 65, 66, 67, 68, 69, 70, 71, 72, 73, 74, 75, 76, 77, 78, 79, 80, 81, 82, 83, 84, 85, 86, 28, 87, 88, 89, 90, 91, 92, 93, 94, 95, 96, 97, 98, 27, 193, 194, 195, 196, 197, 198, 199, 200, 201, 33, 202, 102, 103, 104, 105, 106, 107, 108, 109, 110, 111, 112, 113, 114, 115, 116, 117, 203, 204, 205, 206, 207, 208, 209, 118, 119, 120, 121, 122, 262, 263, 264, 265] rfl (by decide +kernel)
set_option maxRecDepth 20000 in
theorem gX2_beyond_J4_append_f7089 : GoodIn wsX2_beyond (wsV RX2 86 RJ4 yJ4_append_f7089 wsJ4_append_f7089) := goodIn_app (goodIn_of _ (by decide +kernel)) ggX2_beyond_J4_append_f7089
set_option maxRecDepth 20000 in
theorem ggX2_beyond_J4_toString_0e30d : GoodIn wsX2_beyond wsJ4_toString_0e30d := goodIn_r _ [213, 214, 215, 111, 216, 217, 218, 219, 220, 221, 222, 25, 26, 133, 127, 132, 223, 224, 225, 226, 227, 22, 228, 29, 229, 230, 231, 232, 233, 3, 234, 235, 45, 236, 237, 48, 238, 95, 96, 97, 98, 27, 30, 239, 240, 79, 241, 81, 82, 83, 84, 85, 86, 242, 243, 244, 28, 87, 88, 71, 89, 90, 91, 92, 93, 245, 246, 247, 248, 2, 249, 250, 33, 251, 252, 253, 254, 157, 158, 159, 106, 107, 108, 160, 161, 162, 113, 163, 164, 116, 165, 255, 256, 257, 102, 121, 122, 35, 36, 37, 38, 258, 259, 260, 261, 270, 271, 272, 273, 262, 263, 264, 265] rfl (by decide +kernel)
set_option maxRecDepth 20000 in
theorem gX2_beyond_J4_toString_0e30d : GoodIn wsX2_beyond (wsV RX2 89 RJ4 yJ4_toString_0e30d wsJ4_toString_0e30d) := goodIn_app (goodIn_of _ (by decide +kernel)) ggX2_beyond_J4_toString_0e30d
set_option maxRecDepth 20000 in
theorem ggX2_compare_X2_isNone : GoodIn wsX2_compare wsX2_isNone := goodIn_r _ [5, 6, 7, 4, 8] rfl (by decide +kernel)
set_option maxRecDepth 20000 in
theorem gX2_compare_X2_isNone : GoodIn wsX2_compare (va_wsS RX2 38 yX2_isNone wsX2_isNone) := goodIn_app (goodIn_of _ (by decide +kernel)) ggX2_compare_X2_isNone
set_option maxRecDepth 20000 in
theorem ggX2_compare_X2_isStopped : GoodIn wsX2_compare wsX2_isStopped := goodIn_r _ [12, 13, 17, 18, 19, 20] rfl (by decide +kernel)
set_option maxRecDepth 20000 in
theorem gX2_compare_X2_isStopped : GoodIn wsX2_compare (wsV RX2 43 RX2 yX2_isStopped wsX2_isStopped) := goodIn_app (goodIn_of _ (by decide +kernel)) ggX2_compare_X2_isStopped
set_option maxRecDepth 20000 in
theorem ggX2_compare_X2_order : GoodIn wsX2_compare wsX2_order := goodIn_r _ [16] rfl (by decide +kernel)
set_option maxRecDepth 20000 in
theorem gX2_compare_X2_order : GoodIn wsX2_compare (va_wsS RX2 100 yX2_order wsX2_order) := goodIn_app (goodIn_of _ (by decide +kernel)) ggX2_compare_X2_order
set_option maxRecDepth 20000 in
theorem ggX2_isAhead_X2_isNone : GoodIn wsX2_isAhead wsX2_isNone := goodIn_r _ [5, 6, 7, 4, 8] rfl (by decide +kernel)
set_option maxRecDepth 20000 in
theorem gX2_isAhead_X2_isNone : GoodIn wsX2_isAhead (va_wsS RX2 38 yX2_isNone wsX2_isNone) := goodIn_app (goodIn_of _ (by decide +kernel)) ggX2_isAhead_X2_isNone
set_option maxRecDepth 20000 in
theorem ggX2_isAhead_X2_isStopped : GoodIn wsX2_isAhead wsX2_isStopped := goodIn_r _ [12, 13, 14, 15, 16, 17] rfl (by decide +kernel)
set_option maxRecDepth 20000 in
theorem gX2_isAhead_X2_isStopped : GoodIn wsX2_isAhead (wsV RX2 43 RX2 yX2_isStopped wsX2_isStopped) := goodIn_app (goodIn_of _ (by decide +kernel)) ggX2_isAhead_X2_isStopped
set_option maxRecDepth 20000 in
theorem ggX2_isBehind_X2_isNone : GoodIn wsX2_isBehind wsX2_isNone := goodIn_r _ [5, 6, 7, 4, 8] rfl (by decide +kernel)
set_option maxRecDepth 20000 in
theorem gX2_isBehind_X2_isNone : GoodIn wsX2_isBehind (va_wsS RX2 38 yX2_isNone wsX2_isNone) := goodIn_app (goodIn_of _ (by decide +kernel)) ggX2_isBehind_X2_isNone
set_option maxRecDepth 20000 in
theorem ggX2_isBehind_X2_isStopped : GoodIn wsX2_isBehind wsX2_isStopped := goodIn_r _ [12, 13, 14, 15, 16, 17] rfl (by decide +kernel)
set_option maxRecDepth 20000 in
theorem gX2_isBehind_X2_isStopped : GoodIn wsX2_isBehind (wsV RX2 43 RX2 yX2_isStopped wsX2_isStopped) := goodIn_app (goodIn_of _ (by decide +kernel)) ggX2_isBehind_X2_isStopped
set_option maxRecDepth 20000 in
theorem ggX2_areAlike_X2_isNone : GoodIn wsX2_areAlike wsX2_isNone := goodIn_r _ [5, 6, 7, 4, 8] rfl (by decide +kernel)
set_option maxRecDepth 20000 in
theorem gX2_areAlike_X2_isNone : GoodIn wsX2_areAlike (va_wsS RX2 38 yX2_isNone wsX2_isNone) := goodIn_app (goodIn_of _ (by decide +kernel)) ggX2_areAlike_X2_isNone
set_option maxRecDepth 20000 in
theorem ggX2_areAlike_X2_isStopped : GoodIn wsX2_areAlike wsX2_isStopped := goodIn_r _ [12, 13, 14, 15, 16, 17] rfl (by decide +kernel)
set_option maxRecDepth 20000 in
theorem gX2_areAlike_X2_isStopped : GoodIn wsX2_areAlike (wsV RX2 43 RX2 yX2_isStopped wsX2_isStopped) := goodIn_app (goodIn_of _ (by decide +kernel)) ggX2_areAlike_X2_isStopped
set_option maxRecDepth 20000 in
theorem ggX2_apart_X2_size : GoodIn wsX2_apart wsX2_size := goodIn_r _ [5, 6, 7, 8, 9] rfl (by decide +kernel)
set_option maxRecDepth 20000 in
theorem gX2_apart_X2_size : GoodIn wsX2_apart (va_wsS RX2 66 yX2_size wsX2_size) := goodIn_app (goodIn_of _ (by decide +kernel)) ggX2_apart_X2_size
set_option maxRecDepth 20000 in
theorem ggX2_between_X2_isNone : GoodIn wsX2_between wsX2_isNone := goodIn_r _ [7, 8, 9, 6, 10] rfl (by decide +kernel)
set_option maxRecDepth 20000 in
theorem gX2_between_X2_isNone : GoodIn wsX2_between (va_wsS RX2 38 yX2_isNone wsX2_isNone) := goodIn_app (goodIn_of _ (by decide +kernel)) ggX2_between_X2_isNone
set_option maxRecDepth 20000 in
theorem ggX2_between_X2_isIn : GoodIn wsX2_between wsX2_isIn := goodIn_r _ [10] rfl (by decide +kernel)
set_option maxRecDepth 20000 in
theorem gX2_between_X2_isIn : GoodIn wsX2_between (va_wsS RX2 17 yX2_isIn wsX2_isIn) := goodIn_app (goodIn_of _ (by decide +kernel)) ggX2_between_X2_isIn
set_option maxRecDepth 20000 in
theorem ggX2_between_X2_isStopped : GoodIn wsX2_between wsX2_isStopped := goodIn_r _ [14, 15, 270, 271, 272, 273] rfl (by decide +kernel)
set_option maxRecDepth 20000 in
theorem gX2_between_X2_isStopped : GoodIn wsX2_between (wsV RX2 43 RX2 yX2_isStopped wsX2_isStopped) := goodIn_app (goodIn_of _ (by decide +kernel)) ggX2_between_X2_isStopped
set_option maxRecDepth 20000 in
theorem ggX2_between_J4_init_da8c8 : GoodIn wsX2_between wsJ4_init_da8c8 := goodIn_r _ [18, 19, 20, 21, 22, 23, 24, 25, 26, 27, 28, 29, 30, 31, 32, 33, 34, 35, 36, 37, 266, 267, 268, 269] rfl (by decide +kernel)
set_option maxRecDepth 20000 in
theorem gX2_between_J4_init_da8c8 : GoodIn wsX2_between (wsJ4_init_da8c8) := ggX2_between_J4_init_da8c8
set_option maxRecDepth 20000 in
theorem ggX2_between_J4_append_15ec4 : GoodIn wsX2_between wsJ4_append_15ec4 := goodIn_r _ [41, 42, 43, 44, 45, 21, 46, 47, 48, 49, 50, 51, 52, 28, 53, 54, 55, 56, 57, 29, 58, 59, 60, 61, 62, 63, 64, 65, 66, 67, 68, 69, 70, 71, 72, 73, 74, 75, 76, 77, 78, 79, 80, 81, 82, 83, 84, 85, 27, 86, 87, 88, 89, 90, 91, 92, 93, 94, 95, 96, 97, 26, 98, 99, 32, 100, 101, 102, 103, 104, 105, 106, 107, 108, 109, 110, 111, 112, 113, 114, 115, 116, 117, 118, 119, 120, 121, 122, 123, 124, 125, 126, 127, 128, 129, 130, 131, 132, 133, 134, 135, 136, 137, 138, 139, 140, 141, 142, 143, 144, 145, 146, 147, 148, 30, 31, 33, 34, 35, 36, 37, 149, 150, 151, 152, 153, 154, 155, 156, 157, 158, 159, 160, 161, 162, 163, 164, 165, 166, 167, 168, 169, 170, 266, 267, 268, 269, 274, 275, 276, 277] rfl (by decide +kernel)
set_option maxRecDepth 20000 in
theorem gX2_between_J4_append_15ec4 : GoodIn wsX2_between (wsV RX2 82 RJ4 yJ4_append_15ec4 wsJ4_append_15ec4) := goodIn_app (goodIn_of _ (by decide +kernel)) ggX2_between_J4_append_15ec4
set_option maxRecDepth 20000 in
theorem ggX2_between_X2_apart : GoodIn wsX2_between wsX2_apart := goodIn_r _ [174, 175, 176, 177, 6, 178, 179, 180, 181, 182, 270, 271, 272, 273] rfl (by decide +kernel)
set_option maxRecDepth 20000 in
theorem gX2_between_X2_apart : GoodIn wsX2_between (wsV RX2 104 RX2 yX2_apart wsX2_apart) := goodIn_app (goodIn_of _ (by decide +kernel)) ggX2_between_X2_apart
set_option maxRecDepth 20000 in
theorem ggX2_between_J4_append_f7089 : GoodIn wsX2_between wsJ4_append_f7089 := goodIn_r _ [186, 187, 188, 44, 189, 21, 190, 47, 28, 191, 192, 193, 194, 195, 196, 53, 54, 55, 56, 57, 29, 58, 59, 60, 61, 62, 63, 64, 65, 66, 67, 68, 69, 70, 71, 72, 73, 74, 75, 76, 77, 78, 79, 80, 81, 82, 83, 84, 85, 27, 86, 87, 88, 89, 90, 91, 92, 93, 94, 95, 96, 97, 26, 197, 198, 199, 200, 201, 202, 203, 204, 205, 32, 206, 101, 102, 103, 104, 105, 106, 107, 108, 109, 110, 111, 112, 113, 114, 115, 116, 207, 208, 209, 210, 211, 212, 213, 117, 118, 119, 120, 121, 266, 267, 268, 269] rfl (by decide +kernel)
set_option maxRecDepth 20000 in
theorem gX2_between_J4_append_f7089 : GoodIn wsX2_between (wsV RX2 86 RJ4 yJ4_append_f7089 wsJ4_append_f7089) := goodIn_app (goodIn_of _ (by decide +kernel)) ggX2_between_J4_append_f7089
set_option maxRecDepth 20000 in
theorem ggX2_between_J4_toString_0e30d : GoodIn wsX2_between wsJ4_toString_0e30d := goodIn_r _ [217, 218, 219, 110, 220, 221, 222, 223, 224, 225, 226, 24, 25, 132, 126, 131, 227, 228, 229, 230, 231, 21, 232, 28, 233, 234, 235, 236, 237, 3, 238, 239, 44, 240, 241, 47, 242, 94, 95, 96, 97, 26, 29, 243, 244, 78, 245, 80, 81, 82, 83, 84, 85, 246, 247, 248, 27, 86, 87, 70, 88, 89, 90, 91, 92, 249, 250, 251, 252, 2, 253, 254, 32, 255, 256, 257, 258, 156, 157, 158, 105, 106, 107, 159, 160, 161, 112, 162, 163, 115, 164, 259, 260, 261, 101, 120, 121, 34, 35, 36, 37, 262, 263, 264, 265, 274, 275, 276, 277, 266, 267, 268, 269] rfl (by decide +kernel)
set_option maxRecDepth 20000 in
theorem gX2_between_J4_toString_0e30d : GoodIn wsX2_between (wsV RX2 89 RJ4 yJ4_toString_0e30d wsJ4_toString_0e30d) := goodIn_app (goodIn_of _ (by decide +kernel)) ggX2_between_J4_toString_0e30d
set_option maxRecDepth 20000 in
theorem ggX2_ordered_J4_init_da8c8 : GoodIn wsX2_ordered wsJ4_init_da8c8 := goodIn_r _ [7, 8, 9, 10, 11, 12, 13, 14, 15, 16, 17, 18, 19, 20, 21, 22, 23, 24, 25, 26, 241, 242, 243, 244] rfl (by decide +kernel)
set_option maxRecDepth 20000 in
theorem gX2_ordered_J4_init_da8c8 : GoodIn wsX2_ordered (wsJ4_init_da8c8) := ggX2_ordered_J4_init_da8c8
set_option maxRecDepth 20000 in
theorem ggX2_ordered_J4_append_15ec4 : GoodIn wsX2_ordered wsJ4_append_15ec4 := goodIn_r _ [30, 31, 32, 33, 34, 10, 35, 36, 37, 38, 39, 40, 41, 17, 42, 43, 44, 45, 46, 18, 47, 48, 49, 50, 51, 52, 53, 54, 55, 56, 57, 58, 59, 60, 61, 62, 63, 64, 65, 66, 67, 68, 69, 70, 71, 72, 73, 74, 16, 75, 76, 77, 78, 79, 80, 81, 82, 83, 84, 85, 86, 15, 87, 88, 21, 89, 90, 91, 92, 93, 94, 95, 96, 97, 98, 99, 100, 101, 102, 103, 104, 105, 106, 107, 108, 109, 110, 111, 112, 113, 114, 115, 116, 117, 118, 119, 120, 121, 122, 123, 124, 125, 126, 127, 128, 129, 130, 131, 132, 133, 134, 135, 136, 137, 19, 20, 22, 23, 24, 25, 26, 138, 139, 140, 141, 142, 143, 144, 145, 146, 147, 148, 149, 150, 151, 152, 153, 154, 155, 156, 157, 158, 159, 241, 242, 243, 244, 245, 246, 247, 248] rfl (by decide +kernel)
set_option maxRecDepth 20000 in
theorem gX2_ordered_J4_append_15ec4 : GoodIn wsX2_ordered (wsV RX2 82 RJ4 yJ4_append_15ec4 wsJ4_append_15ec4) := goodIn_app (goodIn_of _ (by decide +kernel)) ggX2_ordered_J4_append_15ec4
set_option maxRecDepth 20000 in
theorem ggX2_ordered_J4_append_bf812 : GoodIn wsX2_ordered wsJ4_append_bf812 := goodIn_r _ [163, 164, 165, 33, 166, 10, 167, 36, 17, 168, 169, 170, 171, 42, 43, 44, 45, 46, 18, 47, 48, 49, 50, 51, 52, 53, 54, 55, 56, 57, 58, 59, 60, 61, 62, 63, 64, 65, 66, 67, 68, 69, 70, 71, 72, 73, 74, 16, 75, 76, 77, 78, 79, 80, 81, 82, 83, 84, 85, 86, 15, 172, 173, 174, 175, 176, 177, 178, 21, 179, 90, 91, 92, 93, 94, 95, 96, 97, 98, 99, 100, 101, 102, 103, 104, 105, 180, 181, 182, 183, 184, 106, 107, 108, 109, 110, 241, 242, 243, 244] rfl (by decide +kernel)
set_option maxRecDepth 20000 in
theorem gX2_ordered_J4_append_bf812 : GoodIn wsX2_ordered (wsV RX2 93 RJ4 yJ4_append_bf812 wsJ4_append_bf812) := goodIn_app (goodIn_of _ (by decide +kernel)) ggX2_ordered_J4_append_bf812
set_option maxRecDepth 20000 in
theorem ggX2_ordered_J4_toString_0e30d : GoodIn wsX2_ordered wsJ4_toString_0e30d := goodIn_r _ [188, 189, 190, 99, 191, 192, 193, 194, 195, 196, 197, 13, 14, 121, 115, 120, 198, 199, 200, 201, 202, 10, 203, 17, 204, 205, 206, 207, 208, 4, 209, 210, 33, 211, 212, 36, 213, 83, 84, 85, 86, 15, 18, 214, 215, 67, 216, 69, 70, 71, 72, 73, 74, 217, 218, 219, 16, 75, 76, 59, 77, 78, 79, 80, 81, 220, 221, 222, 223, 3, 224, 225, 21, 226, 227, 228, 229, 145, 146, 147, 94, 95, 96, 148, 149, 150, 101, 151, 152, 104, 153, 230, 231, 232, 90, 109, 110, 23, 24, 25, 26, 233, 234, 235, 236, 245, 246, 247, 248, 241, 242, 243, 244] rfl (by decide +kernel)
set_option maxRecDepth 20000 in
theorem gX2_ordered_J4_toString_0e30d : GoodIn wsX2_ordered (wsV RX2 89 RJ4 yJ4_toString_0e30d wsJ4_toString_0e30d) := goodIn_app (goodIn_of _ (by decide +kernel)) ggX2_ordered_J4_toString_0e30d
set_option maxRecDepth 20000 in
theorem ggX2_order__X2_ordered : GoodIn wsX2_order_ wsX2_ordered := goodIn_r _ [6, 7, 8, 9, 10, 11, 12, 13, 14, 15, 16, 17, 18, 19, 20, 21, 22, 23, 24, 25, 26, 27, 28, 29, 30, 31, 32, 33, 34, 35, 36, 37, 38, 39, 40, 41, 42, 43, 44, 45, 46, 47, 48, 49, 50, 51, 52, 53, 54, 55, 56, 57, 58, 59, 60, 61, 62, 63, 64, 65, 66, 67, 68, 69, 70, 71, 72, 73, 74, 75, 76, 77, 78, 79, 80, 81, 82, 83, 84, 85, 86, 87, 88, 89, 90, 91, 92, 93, 94, 95, 96, 97, 98, 99, 100, 101, 102, 103, 104, 105, 106, 107, 108, 109, 110, 111, 112, 113, 114, 115, 116, 117, 118, 119, 120, 121, 122, 123, 124, 125, 126, 127, 128, 129, 130, 131, 132, 133, 134, 135, 136, 137, 138, 139, 140, 141, 142, 143, 144, 145, 146, 147, 148, 149, 150, 151, 152, 153, 154, 155, 156, 157, 158, 159, 160, 161, 162, 163, 164, 165, 166, 167, 168, 169, 170, 171, 172, 173, 174, 175, 176, 177, 178, 179, 180, 181, 182, 183, 184, 185, 186, 187, 188, 189, 190, 191, 192, 193, 194, 195, 196, 197, 198, 199, 200, 201, 202, 203, 204, 205, 206, 207, 208, 209, 210, 211, 212, 213, 214, 215, 216, 217, 218, 219, 220, 221, 222, 223, 224, 225, 226, 227, 228, 229, 230, 231, 232, 233, 234, 235, 236, 237, 238, 239, 240, 241, 242, 243, 244, 245, 246, 247, 248, 249, 250, 251, 252, 253, 254] rfl (by decide +kernel)
set_option maxRecDepth 20000 in
theorem gX2_order__X2_ordered : GoodIn wsX2_order_ (wsV RX2 110 RX2 yX2_ordered wsX2_ordered) := goodIn_app (goodIn_of _ (by decide +kernel)) ggX2_order__X2_ordered
set_option maxRecDepth 20000 in
theorem ggX2_kinds_X2_unlike : GoodIn wsX2_kinds wsX2_unlike := goodIn_r _ [6, 7, 8, 9, 10, 11] rfl (by decide +kernel)
set_option maxRecDepth 20000 in
theorem gX2_kinds_X2_unlike : GoodIn wsX2_kinds (wsV RX2 113 RX2 yX2_unlike wsX2_unlike) := goodIn_app (goodIn_of _ (by decide +kernel)) ggX2_kinds_X2_unlike
set_option maxRecDepth 20000 in
theorem ggX2_house_X2_isStopped : GoodIn wsX2_house wsX2_isStopped := goodIn_r _ [7, 8, 16, 17, 18, 19] rfl (by decide +kernel)
set_option maxRecDepth 20000 in
theorem gX2_house_X2_isStopped : GoodIn wsX2_house (wsV RX2 43 RX2 yX2_isStopped wsX2_isStopped) := goodIn_app (goodIn_of _ (by decide +kernel)) ggX2_house_X2_isStopped
set_option maxRecDepth 20000 in
theorem ggX2_house_X2_isIn : GoodIn wsX2_house wsX2_isIn := goodIn_r _ [11] rfl (by decide +kernel)
set_option maxRecDepth 20000 in
theorem gX2_house_X2_isIn : GoodIn wsX2_house (va_wsS RX2 17 yX2_isIn wsX2_isIn) := goodIn_app (goodIn_of _ (by decide +kernel)) ggX2_house_X2_isIn
set_option maxRecDepth 20000 in
theorem ggX2_house_X2_refused : GoodIn wsX2_house wsX2_refused := goodIn_r _ [15, 8, 16, 17, 18, 19] rfl (by decide +kernel)
set_option maxRecDepth 20000 in
theorem gX2_house_X2_refused : GoodIn wsX2_house (wsV RX2 120 RX2 yX2_refused wsX2_refused) := goodIn_app (goodIn_of _ (by decide +kernel)) ggX2_house_X2_refused
set_option maxRecDepth 20000 in
theorem ggX2_digest_X2_add : GoodIn wsX2_digest wsX2_add := goodIn_r _ [9, 10] rfl (by decide +kernel)
set_option maxRecDepth 20000 in
theorem gX2_digest_X2_add : GoodIn wsX2_digest (va_wsS RX2 128 yX2_add wsX2_add) := goodIn_app (goodIn_of _ (by decide +kernel)) ggX2_digest_X2_add
set_option maxRecDepth 20000 in
theorem ggX2_digest_X2_part : GoodIn wsX2_digest wsX2_part := goodIn_r _ [13, 14, 15, 16, 8, 17] rfl (by decide +kernel)
set_option maxRecDepth 20000 in
theorem gX2_digest_X2_part : GoodIn wsX2_digest (va_wsS RX2 56 yX2_part wsX2_part) := goodIn_app (goodIn_of _ (by decide +kernel)) ggX2_digest_X2_part
set_option maxRecDepth 20000 in
theorem ggX2_digest_X2_order : GoodIn wsX2_digest wsX2_order := goodIn_r _ [20] rfl (by decide +kernel)
set_option maxRecDepth 20000 in
theorem gX2_digest_X2_order : GoodIn wsX2_digest (va_wsS RX2 100 yX2_order wsX2_order) := goodIn_app (goodIn_of _ (by decide +kernel)) ggX2_digest_X2_order
set_option maxRecDepth 20000 in
theorem ggX2_digest_X2_apart : GoodIn wsX2_digest wsX2_apart := goodIn_r _ [24, 5, 25, 26, 8, 27, 28, 29, 30, 31, 300, 301, 302, 303] rfl (by decide +kernel)
set_option maxRecDepth 20000 in
theorem gX2_digest_X2_apart : GoodIn wsX2_digest (wsV RX2 104 RX2 yX2_apart wsX2_apart) := goodIn_app (goodIn_of _ (by decide +kernel)) ggX2_digest_X2_apart
set_option maxRecDepth 20000 in
theorem ggX2_digest_X2_unlike : GoodIn wsX2_digest wsX2_unlike := goodIn_r _ [35, 5, 300, 301, 302, 303] rfl (by decide +kernel)
set_option maxRecDepth 20000 in
theorem gX2_digest_X2_unlike : GoodIn wsX2_digest (wsV RX2 113 RX2 yX2_unlike wsX2_unlike) := goodIn_app (goodIn_of _ (by decide +kernel)) ggX2_digest_X2_unlike
set_option maxRecDepth 20000 in
theorem ggX2_digest_X2_ordered : GoodIn wsX2_digest wsX2_ordered := goodIn_r _ [39, 5, 40, 41, 42, 43, 44, 45, 46, 47, 48, 49, 50, 51, 52, 53, 54, 55, 56, 57, 58, 59, 60, 61, 62, 63, 64, 65, 66, 67, 68, 69, 70, 71, 72, 73, 74, 75, 76, 77, 78, 79, 80, 81, 82, 83, 84, 85, 86, 87, 88, 89, 90, 91, 92, 93, 94, 95, 96, 97, 98, 99, 100, 101, 102, 103, 104, 105, 106, 107, 108, 109, 110, 111, 112, 113, 114, 115, 116, 117, 118, 119, 120, 121, 122, 123, 124, 125, 126, 127, 128, 129, 130, 131, 132, 133, 134, 135, 136, 137, 138, 139, 140, 141, 142, 143, 144, 145, 146, 147, 148, 149, 150, 151, 152, 153, 154, 155, 156, 157, 158, 159, 160, 161, 162, 163, 164, 165, 166, 167, 168, 169, 170, 171, 172, 173, 174, 175, 176, 177, 178, 179, 180, 181, 182, 183, 184, 185, 186, 187, 188, 189, 190, 191, 192, 193, 194, 195, 196, 197, 198, 199, 200, 201, 202, 203, 204, 205, 206, 207, 208, 209, 210, 211, 212, 213, 214, 215, 216, 217, 218, 219, 220, 221, 222, 223, 224, 225, 226, 227, 228, 229, 230, 231, 232, 233, 234, 235, 236, 237, 238, 239, 240, 241, 242, 243, 244, 245, 246, 247, 248, 249, 250, 251, 252, 253, 254, 255, 256, 257, 258, 259, 260, 261, 262, 263, 264, 265, 266, 267, 268, 269, 270, 271, 272, 273, 274, 300, 301, 302, 303, 304, 305, 306, 307, 308, 309, 310, 311] rfl (by decide +kernel)
set_option maxRecDepth 20000 in
theorem gX2_digest_X2_ordered : GoodIn wsX2_digest (wsV RX2 110 RX2 yX2_ordered wsX2_ordered) := goodIn_app (goodIn_of _ (by decide +kernel)) ggX2_digest_X2_ordered
set_option maxRecDepth 20000 in
theorem ggX2_digest_J0_length_8abf5 : GoodIn wsX2_digest wsJ0_length_8abf5 := goodIn_r _ [152, 153, 154, 155, 156, 137, 157, 158, 159, 308, 309, 310, 311] rfl (by decide +kernel)
set_option maxRecDepth 20000 in
theorem gX2_digest_J0_length_8abf5 : GoodIn wsX2_digest (wsV RX2 132 RJ0 yJ0_length_8abf5 wsJ0_length_8abf5) := goodIn_app (goodIn_of _ (by decide +kernel)) ggX2_digest_J0_length_8abf5
set_option maxRecDepth 20000 in
theorem ggX2_digest_J0_charAt_5068e : GoodIn wsX2_digest wsJ0_charAt_5068e := goodIn_r _ [279, 153, 280, 281, 282, 137, 283, 158, 159, 284, 285, 178, 286, 287, 288, 289, 139, 290, 291, 142, 292, 293, 294, 59, 295, 296, 297, 298, 132, 133, 134, 299, 268, 269, 270, 128, 147, 148, 308, 309, 310, 311] rfl (by decide +kernel)
set_option maxRecDepth 20000 in
theorem gX2_digest_J0_charAt_5068e : GoodIn wsX2_digest (wsV RX2 137 RJ0 yJ0_charAt_5068e wsJ0_charAt_5068e) := goodIn_app (goodIn_of _ (by decide +kernel)) ggX2_digest_J0_charAt_5068e
