set_option maxRecDepth 20000 in
theorem ggL_tell_X0_tell : GoodIn wsL_tell wsX0_tell := goodIn_ca (goodIn_ca (goodIn_r _ [7, 8, 9, 6, 10, 11, 12, 13, 14, 15, 16, 17, 18, 19, 20, 21, 22, 23, 24, 25, 26, 27, 28, 29, 30, 31, 32, 33, 36, 37, 38] rfl (by decide +kernel)) (goodIn_sub (fun _ h => List.mem_cons_of_mem _ (List.mem_append_left _ (List.mem_append_right _ h))) (by decide +kernel))) (goodIn_sub (fun _ h => List.mem_cons_of_mem _ (List.mem_append_right _ h)) (by decide +kernel))
set_option maxRecDepth 20000 in
theorem gL_tell_X0_tell : GoodIn wsL_tell (wsV RL 7 RX0 yX0_tell wsX0_tell) := goodIn_app (goodIn_of _ (by decide +kernel)) ggL_tell_X0_tell
set_option maxRecDepth 20000 in
theorem ggL_tellSecond_X0_tellSecond : GoodIn wsL_tellSecond wsX0_tellSecond := goodIn_ca (goodIn_ca (goodIn_r _ [7, 8, 9, 10, 6, 11, 12, 13, 14, 15, 16, 17, 18, 19, 20, 21, 22, 23, 24, 25, 26, 27, 28, 29, 30, 31, 32, 35, 36, 37] rfl (by decide +kernel)) (goodIn_sub (fun _ h => List.mem_cons_of_mem _ (List.mem_append_left _ (List.mem_append_right _ h))) (by decide +kernel))) (goodIn_sub (fun _ h => List.mem_cons_of_mem _ (List.mem_append_right _ h)) (by decide +kernel))
set_option maxRecDepth 20000 in
theorem gL_tellSecond_X0_tellSecond : GoodIn wsL_tellSecond (wsV RL 23 RX0 yX0_tellSecond wsX0_tellSecond) := goodIn_app (goodIn_of _ (by decide +kernel)) ggL_tellSecond_X0_tellSecond
set_option maxRecDepth 20000 in
theorem ggL_tellNumber_X0_tellNumber : GoodIn wsL_tellNumber wsX0_tellNumber := goodIn_ca (goodIn_ca (goodIn_r _ [7, 8, 9, 10, 6, 11, 12, 13, 14, 15, 16, 17, 18, 19, 20, 21, 22, 23, 24, 25, 26, 27, 28, 29, 30, 31, 32, 33, 34, 35, 36, 39, 40, 41] rfl (by decide +kernel)) (goodIn_sub (fun _ h => List.mem_cons_of_mem _ (List.mem_append_left _ (List.mem_append_right _ h))) (by decide +kernel))) (goodIn_sub (fun _ h => List.mem_cons_of_mem _ (List.mem_append_right _ h)) (by decide +kernel))
set_option maxRecDepth 20000 in
theorem gL_tellNumber_X0_tellNumber : GoodIn wsL_tellNumber (wsV RL 27 RX0 yX0_tellNumber wsX0_tellNumber) := goodIn_app (goodIn_of _ (by decide +kernel)) ggL_tellNumber_X0_tellNumber
set_option maxRecDepth 20000 in
theorem ggL_tellKnown_X0_tellKnown : GoodIn wsL_tellKnown wsX0_tellKnown := goodIn_ca (goodIn_ca (goodIn_r _ [7, 8, 9, 10, 11, 12, 6, 13, 14, 15, 16, 17, 18, 19, 20, 21, 22, 23, 24, 25, 28, 29, 30] rfl (by decide +kernel)) (goodIn_sub (fun _ h => List.mem_cons_of_mem _ (List.mem_append_left _ (List.mem_append_right _ h))) (by decide +kernel))) (goodIn_sub (fun _ h => List.mem_cons_of_mem _ (List.mem_append_right _ h)) (by decide +kernel))
set_option maxRecDepth 20000 in
theorem gL_tellKnown_X0_tellKnown : GoodIn wsL_tellKnown (wsV RL 31 RX0 yX0_tellKnown wsX0_tellKnown) := goodIn_app (goodIn_of _ (by decide +kernel)) ggL_tellKnown_X0_tellKnown
set_option maxRecDepth 20000 in
theorem ggL_take_X0_take : GoodIn wsL_take wsX0_take := goodIn_ca (goodIn_r _ [6, 7, 8, 5, 9, 10, 11, 12, 13, 14, 15, 16, 17, 18, 19, 20, 21, 22, 23, 24, 25, 28, 29, 30] rfl (by decide +kernel)) (goodIn_sub (fun _ h => List.mem_cons_of_mem _ (List.mem_append_right _ h)) (by decide +kernel))
set_option maxRecDepth 20000 in
theorem gL_take_X0_take : GoodIn wsL_take (wsV RL 34 RX0 yX0_take wsX0_take) := goodIn_app (goodIn_of _ (by decide +kernel)) ggL_take_X0_take
set_option maxRecDepth 20000 in
theorem ggL_with_X0_with : GoodIn wsL_with wsX0_with := goodIn_ca (goodIn_ca (goodIn_r _ [7, 8, 9, 6, 10, 11, 12, 13, 14, 15, 16, 17, 18, 19, 20, 21, 22, 23, 24, 25, 26, 27, 28, 29, 30, 31, 32, 33, 34, 35, 36, 39, 40, 41] rfl (by decide +kernel)) (goodIn_sub (fun _ h => List.mem_cons_of_mem _ (List.mem_append_left _ (List.mem_append_right _ h))) (by decide +kernel))) (goodIn_sub (fun _ h => List.mem_cons_of_mem _ (List.mem_append_right _ h)) (by decide +kernel))
set_option maxRecDepth 20000 in
theorem gL_with_X0_with : GoodIn wsL_with (wsV RL 37 RX0 yX0_with wsX0_with) := goodIn_app (goodIn_of _ (by decide +kernel)) ggL_with_X0_with
set_option maxRecDepth 20000 in
theorem ggL_plus_X0_plus : GoodIn wsL_plus wsX0_plus := goodIn_ca (goodIn_ca (goodIn_r _ [7, 8, 9, 6, 10, 11, 12, 13, 14, 15, 16, 17, 18, 19, 20, 21, 22, 23, 24, 25, 26, 27, 28, 29, 30, 31, 32, 33, 34, 35, 36, 37, 38, 39, 40, 41, 42, 43, 44, 45, 46, 49, 50, 51] rfl (by decide +kernel)) (goodIn_sub (fun _ h => List.mem_cons_of_mem _ (List.mem_append_left _ (List.mem_append_right _ h))) (by decide +kernel))) (goodIn_sub (fun _ h => List.mem_cons_of_mem _ (List.mem_append_right _ h)) (by decide +kernel))
set_option maxRecDepth 20000 in
theorem gL_plus_X0_plus : GoodIn wsL_plus (wsV RL 40 RX0 yX0_plus wsX0_plus) := goodIn_app (goodIn_of _ (by decide +kernel)) ggL_plus_X0_plus
set_option maxRecDepth 20000 in
theorem ggL_minus_X0_minus : GoodIn wsL_minus wsX0_minus := goodIn_ca (goodIn_ca (goodIn_r _ [7, 8, 9, 6, 10, 11, 12, 13, 14, 15, 16, 17, 18, 19, 20, 21, 22, 23, 24, 25, 26, 27, 28, 29, 30, 31, 32, 33, 34, 35, 36, 37, 38, 39, 40, 41, 42, 43, 44, 45, 46, 49, 50, 51] rfl (by decide +kernel)) (goodIn_sub (fun _ h => List.mem_cons_of_mem _ (List.mem_append_left _ (List.mem_append_right _ h))) (by decide +kernel))) (goodIn_sub (fun _ h => List.mem_cons_of_mem _ (List.mem_append_right _ h)) (by decide +kernel))
set_option maxRecDepth 20000 in
theorem gL_minus_X0_minus : GoodIn wsL_minus (wsV RL 44 RX0 yX0_minus wsX0_minus) := goodIn_app (goodIn_of _ (by decide +kernel)) ggL_minus_X0_minus
set_option maxRecDepth 20000 in
theorem ggL_walk_X0_walk : GoodIn wsL_walk wsX0_walk := goodIn_ca (goodIn_ca (goodIn_r _ [7, 8, 9, 10, 11, 6, 12, 13, 14, 15, 16, 17, 18, 19, 20, 21, 22, 23, 24, 25, 26, 27, 28, 29, 30, 31, 32, 33, 34, 35, 36, 37, 38, 39, 40, 41, 42, 43, 44, 45, 46, 49, 50, 51] rfl (by decide +kernel)) (goodIn_sub (fun _ h => List.mem_cons_of_mem _ (List.mem_append_left _ (List.mem_append_right _ h))) (by decide +kernel))) (goodIn_sub (fun _ h => List.mem_cons_of_mem _ (List.mem_append_right _ h)) (by decide +kernel))
set_option maxRecDepth 20000 in
theorem gL_walk_X0_walk : GoodIn wsL_walk (wsV RL 47 RX0 yX0_walk wsX0_walk) := goodIn_app (goodIn_of _ (by decide +kernel)) ggL_walk_X0_walk
set_option maxRecDepth 20000 in
theorem ggL_cut_X0_cut : GoodIn wsL_cut wsX0_cut := goodIn_ca (goodIn_ca (goodIn_r _ [7, 8, 9, 6, 10, 11, 12, 13, 14, 15, 16, 17, 18, 19, 20, 21, 22, 23, 24, 25, 26, 27, 28, 29, 30, 31, 32, 33, 34, 35, 36, 37, 38, 41, 42, 43] rfl (by decide +kernel)) (goodIn_sub (fun _ h => List.mem_cons_of_mem _ (List.mem_append_left _ (List.mem_append_right _ h))) (by decide +kernel))) (goodIn_sub (fun _ h => List.mem_cons_of_mem _ (List.mem_append_right _ h)) (by decide +kernel))
set_option maxRecDepth 20000 in
theorem gL_cut_X0_cut : GoodIn wsL_cut (wsV RL 50 RX0 yX0_cut wsX0_cut) := goodIn_app (goodIn_of _ (by decide +kernel)) ggL_cut_X0_cut
set_option maxRecDepth 20000 in
theorem ggL_of_X0_of : GoodIn wsL_of wsX0_of := goodIn_ca (goodIn_ca (goodIn_r _ [7, 8, 9, 10, 11, 6, 12, 13, 14, 15, 16, 17, 18, 19, 20, 21, 22, 23, 26, 27, 28] rfl (by decide +kernel)) (goodIn_sub (fun _ h => List.mem_cons_of_mem _ (List.mem_append_left _ (List.mem_append_right _ h))) (by decide +kernel))) (goodIn_sub (fun _ h => List.mem_cons_of_mem _ (List.mem_append_right _ h)) (by decide +kernel))
set_option maxRecDepth 20000 in
theorem gL_of_X0_of : GoodIn wsL_of (wsV RL 53 RX0 yX0_of wsX0_of) := goodIn_app (goodIn_of _ (by decide +kernel)) ggL_of_X0_of
set_option maxRecDepth 20000 in
theorem ggL_number_X0_number : GoodIn wsL_number wsX0_number := goodIn_ca (goodIn_r _ [6, 7, 8, 5, 9, 10, 11, 12, 13, 14, 15, 16, 17, 18, 19, 20, 21, 22, 23, 24, 25, 26, 27, 28, 29, 30, 31, 32, 33, 34, 35, 36, 37, 38, 39, 40, 41, 42, 43, 44, 45, 46, 47, 48, 49, 50, 51, 52, 53, 54, 55, 56, 57, 58, 59, 60, 61, 62, 63, 64, 65, 66, 67, 68, 69, 70, 71, 72, 73, 74, 75, 76, 77, 78, 79, 80, 81, 82, 83, 84, 85, 86, 87, 88, 89, 90, 91, 92, 93, 94, 95, 96, 97, 98, 99, 100, 101, 102, 103, 104, 105, 106, 107, 108, 109, 110, 111, 112, 113, 114, 115, 116, 117, 118, 119, 120, 121, 122, 123, 124, 125, 126, 127, 128, 129, 130, 131, 132, 133, 134, 135, 136, 137, 138, 139, 140, 141, 142, 143, 144, 145, 146, 147, 148, 149, 150, 151, 152, 153, 154, 155, 156, 157, 158, 159, 160, 161, 162, 163, 164, 165, 166, 167, 168, 169, 170, 171, 172, 173, 174, 175, 176, 177, 178, 179, 180, 181, 182, 183, 184, 185, 186, 187, 188, 189, 190, 191, 192, 193, 194, 195, 196, 197, 198, 199, 200, 201, 202, 203, 204, 205, 206, 207, 208, 209, 210, 211, 212, 213, 214, 215, 216, 217, 218, 219, 220, 221, 222, 223, 224, 225, 226, 227, 228, 229, 230, 231, 232, 233, 234, 235, 236, 237, 238, 239, 240, 241, 242, 243, 246, 247, 248, 249, 250, 251, 252, 253, 254, 255, 256] rfl (by decide +kernel)) (goodIn_sub (fun _ h => List.mem_cons_of_mem _ (List.mem_append_right _ h)) (by decide +kernel))
set_option maxRecDepth 20000 in
theorem gL_number_X0_number : GoodIn wsL_number (wsV RL 56 RX0 yX0_number wsX0_number) := goodIn_app (goodIn_of _ (by decide +kernel)) ggL_number_X0_number
set_option maxRecDepth 20000 in
theorem ggL_text_X0_text : GoodIn wsL_text wsX0_text := goodIn_ca (goodIn_r _ [6, 7, 8, 9, 10, 11, 5, 12, 13, 14, 15, 16, 17, 18, 19, 20, 21, 22, 23, 24, 25, 26, 27, 28, 29, 30, 31, 32, 33, 34, 35, 36, 37, 38, 39, 40, 41, 42, 43, 44, 45, 46, 47, 48, 49, 50, 51, 52, 53, 54, 55, 56, 57, 58, 59, 60, 61, 62, 63, 64, 65, 66, 67, 68, 69, 70, 71, 72, 73, 74, 75, 76, 77, 78, 79, 80, 81, 82, 83, 84, 85, 86, 87, 88, 89, 90, 91, 92, 93, 94, 95, 96, 97, 98, 99, 100, 101, 102, 103, 104, 105, 106, 107, 108, 109, 110, 111, 112, 113, 114, 115, 116, 117, 118, 119, 120, 121, 122, 123, 124, 125, 126, 127, 128, 129, 130, 131, 132, 133, 134, 135, 136, 137, 138, 139, 140, 141, 142, 143, 144, 145, 146, 147, 148, 149, 150, 151, 152, 153, 154, 155, 156, 157, 158, 159, 160, 161, 162, 163, 164, 165, 166, 167, 168, 169, 170, 171, 172, 173, 174, 175, 176, 177, 178, 179, 180, 181, 182, 183, 184, 185, 186, 187, 188, 189, 190, 191, 192, 193, 194, 195, 196, 197, 198, 199, 200, 201, 202, 203, 204, 205, 206, 207, 208, 209, 210, 211, 212, 213, 214, 215, 216, 217, 218, 219, 220, 221, 222, 223, 224, 225, 226, 227, 228, 229, 230, 231, 232, 233, 234, 235, 236, 237, 240, 241, 242, 243, 244, 245, 246, 247, 248, 249, 250] rfl (by decide +kernel)) (goodIn_sub (fun _ h => List.mem_cons_of_mem _ (List.mem_append_right _ h)) (by decide +kernel))
set_option maxRecDepth 20000 in
theorem gL_text_X0_text : GoodIn wsL_text (wsV RL 64 RX0 yX0_text wsX0_text) := goodIn_app (goodIn_of _ (by decide +kernel)) ggL_text_X0_text
set_option maxRecDepth 20000 in
theorem ggL_beyond_X0_beyond : GoodIn wsL_beyond wsX0_beyond := goodIn_ca (goodIn_ca (goodIn_r _ [7, 8, 9, 6, 10, 11, 12, 13, 14, 15, 16, 17, 18, 19, 20, 21, 22, 23, 24, 25, 26, 27, 28, 29, 30, 31, 32, 33, 34, 35, 36, 37, 38, 39, 40, 41, 42, 43, 44, 45, 46, 47, 48, 49, 50, 51, 52, 53, 54, 55, 56, 57, 58, 59, 60, 61, 62, 63, 64, 65, 66, 67, 68, 69, 70, 71, 72, 73, 74, 75, 76, 77, 78, 79, 80, 81, 82, 83, 84, 85, 86, 87, 88, 89, 90, 91, 92, 93, 94, 95, 96, 97, 98, 99, 100, 101, 102, 103, 104, 105, 106, 107, 108, 109, 110, 111, 112, 113, 114, 115, 116, 117, 118, 119, 120, 121, 122, 123, 124, 125, 126, 127, 128, 129, 130, 131, 132, 133, 134, 135, 136, 137, 138, 139, 140, 141, 142, 143, 144, 145, 146, 147, 148, 149, 150, 151, 152, 153, 154, 155, 156, 157, 158, 159, 160, 161, 162, 163, 164, 165, 166, 167, 168, 169, 170, 171, 172, 173, 174, 175, 176, 177, 178, 179, 180, 181, 182, 183, 184, 185, 186, 187, 188, 189, 190, 191, 192, 193, 194, 195, 196, 197, 198, 199, 200, 201, 202, 203, 204, 205, 206, 207, 208, 209, 210, 211, 212, 213, 214, 215, 216, 217, 218, 219, 220, 221, 222, 223, 224, 225, 226, 227, 228, 229, 230, 231, 232, 233, 234, 235, 236, 237, 238, 239, 240, 241, 242, 243, 244, 245, 246, 247, 248, 249, 250, 251, 252, 253, 254, 255, 256, 259, 260, 261, 262, 263, 264, 265, 266, 267, 268, 269] rfl (by decide +kernel)) (goodIn_sub (fun _ h => List.mem_cons_of_mem _ (List.mem_append_left _ (List.mem_append_right _ h))) (by decide +kernel))) (goodIn_sub (fun _ h => List.mem_cons_of_mem _ (List.mem_append_right _ h)) (by decide +kernel))
set_option maxRecDepth 20000 in
theorem gL_beyond_X0_beyond : GoodIn wsL_beyond (wsV RL 67 RX0 yX0_beyond wsX0_beyond) := goodIn_app (goodIn_of _ (by decide +kernel)) ggL_beyond_X0_beyond
set_option maxRecDepth 20000 in
theorem ggL_compare_X0_compare : GoodIn wsL_compare wsX0_compare := goodIn_ca (goodIn_r _ [6, 7, 8, 5, 9, 10, 11, 12, 13, 14, 15, 16, 17, 18, 19, 22, 23, 24] rfl (by decide +kernel)) (goodIn_sub (fun _ h => List.mem_cons_of_mem _ (List.mem_append_right _ h)) (by decide +kernel))
set_option maxRecDepth 20000 in
theorem gL_compare_X0_compare : GoodIn wsL_compare (wsV RL 71 RX0 yX0_compare wsX0_compare) := goodIn_app (goodIn_of _ (by decide +kernel)) ggL_compare_X0_compare
set_option maxRecDepth 20000 in
theorem ggL_isAhead_X0_isAhead : GoodIn wsL_isAhead wsX0_isAhead := goodIn_ca (goodIn_r _ [6, 7, 8, 5, 9, 10, 11, 12, 13, 14, 15, 16, 19, 20, 21] rfl (by decide +kernel)) (goodIn_sub (fun _ h => List.mem_cons_of_mem _ (List.mem_append_right _ h)) (by decide +kernel))
set_option maxRecDepth 20000 in
theorem gL_isAhead_X0_isAhead : GoodIn wsL_isAhead (wsV RL 74 RX0 yX0_isAhead wsX0_isAhead) := goodIn_app (goodIn_of _ (by decide +kernel)) ggL_isAhead_X0_isAhead
set_option maxRecDepth 20000 in
theorem ggL_isBehind_X0_isBehind : GoodIn wsL_isBehind wsX0_isBehind := goodIn_ca (goodIn_r _ [6, 7, 8, 5, 9, 10, 11, 12, 13, 14, 15, 16, 19, 20, 21] rfl (by decide +kernel)) (goodIn_sub (fun _ h => List.mem_cons_of_mem _ (List.mem_append_right _ h)) (by decide +kernel))
set_option maxRecDepth 20000 in
theorem gL_isBehind_X0_isBehind : GoodIn wsL_isBehind (wsV RL 78 RX0 yX0_isBehind wsX0_isBehind) := goodIn_app (goodIn_of _ (by decide +kernel)) ggL_isBehind_X0_isBehind
set_option maxRecDepth 20000 in
theorem ggL_areAlike_X0_areAlike : GoodIn wsL_areAlike wsX0_areAlike := goodIn_ca (goodIn_r _ [6, 7, 8, 5, 9, 10, 11, 12, 13, 14, 15, 16, 19, 20, 21] rfl (by decide +kernel)) (goodIn_sub (fun _ h => List.mem_cons_of_mem _ (List.mem_append_right _ h)) (by decide +kernel))
set_option maxRecDepth 20000 in
theorem gL_areAlike_X0_areAlike : GoodIn wsL_areAlike (wsV RL 81 RX0 yX0_areAlike wsX0_areAlike) := goodIn_app (goodIn_of _ (by decide +kernel)) ggL_areAlike_X0_areAlike
set_option maxRecDepth 20000 in
theorem ggL_between_X0_between : GoodIn wsL_between wsX0_between := goodIn_ca (goodIn_ca (goodIn_r _ [7, 8, 9, 6, 10, 11, 12, 13, 14, 15, 16, 17, 18, 19, 20, 21, 22, 23, 24, 25, 26, 27, 28, 29, 30, 31, 32, 33, 34, 35, 36, 37, 38, 39, 40, 41, 42, 43, 44, 45, 46, 47, 48, 49, 50, 51, 52, 53, 54, 55, 56, 57, 58, 59, 60, 61, 62, 63, 64, 65, 66, 67, 68, 69, 70, 71, 72, 73, 74, 75, 76, 77, 78, 79, 80, 81, 82, 83, 84, 85, 86, 87, 88, 89, 90, 91, 92, 93, 94, 95, 96, 97, 98, 99, 100, 101, 102, 103, 104, 105, 106, 107, 108, 109, 110, 111, 112, 113, 114, 115, 116, 117, 118, 119, 120, 121, 122, 123, 124, 125, 126, 127, 128, 129, 130, 131, 132, 133, 134, 135, 136, 137, 138, 139, 140, 141, 142, 143, 144, 145, 146, 147, 148, 149, 150, 151, 152, 153, 154, 155, 156, 157, 158, 159, 160, 161, 162, 163, 164, 165, 166, 167, 168, 169, 170, 171, 172, 173, 174, 175, 176, 177, 178, 179, 180, 181, 182, 183, 184, 185, 186, 187, 188, 189, 190, 191, 192, 193, 194, 195, 196, 197, 198, 199, 200, 201, 202, 203, 204, 205, 206, 207, 208, 209, 210, 211, 212, 213, 214, 215, 216, 217, 218, 219, 220, 221, 222, 223, 224, 225, 226, 227, 228, 229, 230, 231, 232, 233, 234, 235, 236, 237, 238, 239, 240, 241, 242, 243, 244, 245, 246, 247, 248, 249, 250, 251, 252, 253, 254, 255, 256, 259, 260, 261, 262, 263, 264, 265, 266, 267, 268, 269] rfl (by decide +kernel)) (goodIn_sub (fun _ h => List.mem_cons_of_mem _ (List.mem_append_left _ (List.mem_append_right _ h))) (by decide +kernel))) (goodIn_sub (fun _ h => List.mem_cons_of_mem _ (List.mem_append_right _ h)) (by decide +kernel))
set_option maxRecDepth 20000 in
theorem gL_between_X0_between : GoodIn wsL_between (wsV RL 84 RX0 yX0_between wsX0_between) := goodIn_app (goodIn_of _ (by decide +kernel)) ggL_between_X0_between
set_option maxRecDepth 20000 in
theorem ggL_house_X0_house : GoodIn wsL_house wsX0_house := goodIn_ca (goodIn_r _ [6, 7, 8, 9, 10, 13, 14, 15] rfl (by decide +kernel)) (goodIn_sub (fun _ h => List.mem_cons_of_mem _ (List.mem_append_right _ h)) (by decide +kernel))
set_option maxRecDepth 20000 in
theorem gL_house_X0_house : GoodIn wsL_house (wsV RL 88 RX0 yX0_house wsX0_house) := goodIn_app (goodIn_of _ (by decide +kernel)) ggL_house_X0_house
set_option maxRecDepth 20000 in
theorem ggL_law_X0_init : GoodIn wsL_law wsX0_init := goodIn_r _ [11, 12, 13, 14, 15, 16, 17, 18, 826, 827, 828] rfl (by decide +kernel)
set_option maxRecDepth 20000 in
theorem gL_law_X0_init : GoodIn wsL_law (wsX0_init) := ggL_law_X0_init
set_option maxRecDepth 20000 in
theorem ggL_law_X2_init : GoodIn wsL_law wsX2_init := goodIn_r _ [21, 22, 13, 14, 15, 23, 829, 830, 831, 832] rfl (by decide +kernel)
set_option maxRecDepth 20000 in
theorem gL_law_X2_init : GoodIn wsL_law (wsX2_init) := ggL_law_X2_init
set_option maxRecDepth 20000 in
theorem ggL_law_X1_init : GoodIn wsL_law wsX1_init := goodIn_r _ [25, 26, 13, 14] rfl (by decide +kernel)
set_option maxRecDepth 20000 in
theorem gL_law_X1_init_n96 : GoodIn wsL_law (wsX1_init) := ggL_law_X1_init
set_option maxRecDepth 20000 in
theorem ggL_law_L_tell : GoodIn wsL_law wsL_tell := goodIn_ca (goodIn_ca (goodIn_r _ [30, 31, 32, 33, 34, 35, 2, 36, 37, 38, 39, 40, 41, 42, 43, 44, 45, 46, 47, 48, 49, 50, 51, 52, 53, 54, 55, 56, 57, 16, 18, 58, 59, 60, 833, 834, 826, 827, 828] rfl (by decide +kernel)) (goodIn_sub (fun _ h => List.mem_append_left _ (List.mem_append_right _ h)) (by decide +kernel))) (goodIn_sub (fun _ h => List.mem_append_right _ h) (by decide +kernel))
set_option maxRecDepth 20000 in
theorem gL_law_L_tell : GoodIn wsL_law (va_wsS RL 97 yL_tell wsL_tell) := goodIn_app (goodIn_of _ (by decide +kernel)) ggL_law_L_tell
set_option maxRecDepth 20000 in
theorem ggL_law_X2_tell : GoodIn wsL_law wsX2_tell := goodIn_r _ [64, 65, 66, 67, 68, 5, 69, 70, 71, 72, 73, 74, 75, 76, 77, 78, 79, 80, 81, 23, 82, 83, 84, 85, 829, 830, 831, 832] rfl (by decide +kernel)
set_option maxRecDepth 20000 in
theorem gL_law_X2_tell : GoodIn wsL_law (wsV RL 102 RX2 yX2_tell wsX2_tell) := goodIn_app (goodIn_of _ (by decide +kernel)) ggL_law_X2_tell
set_option maxRecDepth 20000 in
theorem ggL_law_L_tellSecond : GoodIn wsL_law wsL_tellSecond := goodIn_ca (goodIn_ca (goodIn_r _ [88, 31, 32, 89, 90, 91, 2, 92, 53, 37, 38, 39, 40, 41, 93, 94, 95, 45, 46, 96, 54, 55, 56, 57, 16, 18, 58, 59, 60, 97, 98, 99, 100, 833, 834, 826, 827, 828] rfl (by decide +kernel)) (goodIn_sub (fun _ h => List.mem_append_left _ (List.mem_append_right _ h)) (by decide +kernel))) (goodIn_sub (fun _ h => List.mem_append_right _ h) (by decide +kernel))
set_option maxRecDepth 20000 in
theorem gL_law_L_tellSecond : GoodIn wsL_law (va_wsS RL 103 yL_tellSecond wsL_tellSecond) := goodIn_app (goodIn_of _ (by decide +kernel)) ggL_law_L_tellSecond
set_option maxRecDepth 20000 in
theorem ggL_law_X2_tellSecond : GoodIn wsL_law wsX2_tellSecond := goodIn_r _ [104, 105, 66, 67, 68, 5, 69, 70, 71, 72, 73, 74, 75, 76, 77, 78, 79, 80, 81, 23, 82, 83, 84, 85, 829, 830, 831, 832] rfl (by decide +kernel)
set_option maxRecDepth 20000 in
theorem gL_law_X2_tellSecond : GoodIn wsL_law (wsV RL 106 RX2 yX2_tellSecond wsX2_tellSecond) := goodIn_app (goodIn_of _ (by decide +kernel)) ggL_law_X2_tellSecond
set_option maxRecDepth 20000 in
theorem ggL_law_L_tellNumber : GoodIn wsL_law wsL_tellNumber := goodIn_ca (goodIn_ca (goodIn_r _ [108, 31, 32, 109, 110, 111, 2, 112, 53, 37, 38, 39, 40, 41, 93, 94, 95, 45, 46, 96, 42, 43, 44, 47, 54, 55, 56, 57, 16, 18, 58, 59, 60, 97, 98, 99, 100, 833, 834, 826, 827, 828] rfl (by decide +kernel)) (goodIn_sub (fun _ h => List.mem_append_left _ (List.mem_append_right _ h)) (by decide +kernel))) (goodIn_sub (fun _ h => List.mem_append_right _ h) (by decide +kernel))
set_option maxRecDepth 20000 in
theorem gL_law_L_tellNumber : GoodIn wsL_law (va_wsS RL 107 yL_tellNumber wsL_tellNumber) := goodIn_app (goodIn_of _ (by decide +kernel)) ggL_law_L_tellNumber
set_option maxRecDepth 20000 in
theorem ggL_law_X2_tellNumber : GoodIn wsL_law wsX2_tellNumber := goodIn_r _ [116, 105, 65, 66, 67, 68, 5, 69, 70, 71, 72, 73, 74, 75, 76, 77, 78, 79, 80, 81, 23, 82, 83, 84, 85, 829, 830, 831, 832] rfl (by decide +kernel)
set_option maxRecDepth 20000 in
theorem gL_law_X2_tellNumber : GoodIn wsL_law (wsV RL 110 RX2 yX2_tellNumber wsX2_tellNumber) := goodIn_app (goodIn_of _ (by decide +kernel)) ggL_law_X2_tellNumber
set_option maxRecDepth 20000 in
theorem ggL_law_L_tellKnown : GoodIn wsL_law wsL_tellKnown := goodIn_ca (goodIn_ca (goodIn_r _ [119, 31, 32, 120, 121, 122, 2, 123, 45, 46, 124, 37, 38, 39, 40, 41, 54, 55, 56, 57, 16, 18, 58, 59, 60, 53, 833, 834, 826, 827, 828] rfl (by decide +kernel)) (goodIn_sub (fun _ h => List.mem_append_right _ h) (by decide +kernel))) (goodIn_sub (fun _ h => List.mem_append_left _ (List.mem_append_right _ h)) (by decide +kernel))
set_option maxRecDepth 20000 in
theorem gL_law_L_tellKnown : GoodIn wsL_law (va_wsS RL 111 yL_tellKnown wsL_tellKnown) := goodIn_app (goodIn_of _ (by decide +kernel)) ggL_law_L_tellKnown
set_option maxRecDepth 20000 in
theorem ggL_law_X2_tellKnown : GoodIn wsL_law wsX2_tellKnown := goodIn_r _ [128, 129, 130, 67, 68, 5, 69, 70, 71, 72, 73, 74, 75, 76, 77, 78, 79, 80, 81, 23, 82, 83, 84, 85, 66, 829, 830, 831, 832] rfl (by decide +kernel)
set_option maxRecDepth 20000 in
theorem gL_law_X2_tellKnown : GoodIn wsL_law (wsV RL 113 RX2 yX2_tellKnown wsX2_tellKnown) := goodIn_app (goodIn_of _ (by decide +kernel)) ggL_law_X2_tellKnown
set_option maxRecDepth 20000 in
theorem ggL_law_X2_thrown : GoodIn wsL_law wsX2_thrown := goodIn_r _ [134, 77, 829, 830, 831, 832] rfl (by decide +kernel)
set_option maxRecDepth 20000 in
theorem gL_law_X2_thrown : GoodIn wsL_law (wsV RL 114 RX2 yX2_thrown wsX2_thrown) := goodIn_app (goodIn_of _ (by decide +kernel)) ggL_law_X2_thrown
set_option maxRecDepth 20000 in
theorem ggL_law_L_take : GoodIn wsL_law wsL_take := goodIn_ca (goodIn_r _ [137, 31, 138, 139, 140, 2, 141, 37, 38, 39, 40, 41, 97, 98, 99, 100, 16, 54, 55, 56, 57, 18, 58, 59, 60, 53, 833, 834, 826, 827, 828] rfl (by decide +kernel)) (goodIn_sub (fun _ h => List.mem_append_left _ (List.mem_append_right _ h)) (by decide +kernel))
set_option maxRecDepth 20000 in
theorem gL_law_L_take : GoodIn wsL_law (va_wsS RL 118 yL_take wsL_take) := goodIn_app (goodIn_of _ (by decide +kernel)) ggL_law_L_take
set_option maxRecDepth 20000 in
theorem ggL_law_X2_take : GoodIn wsL_law wsX2_take := goodIn_r _ [145, 23, 67, 68, 5, 69, 70, 71, 72, 73, 74, 75, 76, 77, 78, 79, 80, 81, 82, 83, 84, 85, 66, 829, 830, 831, 832] rfl (by decide +kernel)
set_option maxRecDepth 20000 in
theorem gL_law_X2_take : GoodIn wsL_law (wsV RL 120 RX2 yX2_take wsX2_take) := goodIn_app (goodIn_of _ (by decide +kernel)) ggL_law_X2_take
set_option maxRecDepth 20000 in
theorem ggL_law_L_with : GoodIn wsL_law wsL_with := goodIn_ca (goodIn_ca (goodIn_r _ [148, 31, 32, 149, 150, 151, 2, 152, 37, 38, 39, 40, 41, 42, 43, 44, 45, 46, 47, 97, 98, 99, 100, 16, 58, 59, 60, 53, 153, 154, 155, 156, 54, 55, 56, 57, 18, 833, 834, 826, 827, 828] rfl (by decide +kernel)) (goodIn_sub (fun _ h => List.mem_append_left _ (List.mem_append_right _ h)) (by decide +kernel))) (goodIn_sub (fun _ h => List.mem_append_right _ h) (by decide +kernel))
set_option maxRecDepth 20000 in
theorem gL_law_L_with : GoodIn wsL_law (va_wsS RL 121 yL_with wsL_with) := goodIn_app (goodIn_of _ (by decide +kernel)) ggL_law_L_with
set_option maxRecDepth 20000 in
theorem ggL_law_X2_with : GoodIn wsL_law wsX2_with := goodIn_r _ [160, 65, 23, 161, 162, 66, 67, 68, 5, 69, 70, 71, 72, 73, 74, 75, 76, 77, 163, 164, 165, 83, 84, 85, 78, 79, 80, 81, 82, 829, 830, 831, 832] rfl (by decide +kernel)
set_option maxRecDepth 20000 in
theorem gL_law_X2_with : GoodIn wsL_law (wsV RL 123 RX2 yX2_with wsX2_with) := goodIn_app (goodIn_of _ (by decide +kernel)) ggL_law_X2_with
set_option maxRecDepth 20000 in
theorem ggL_law_L_plus : GoodIn wsL_law wsL_plus := goodIn_ca (goodIn_ca (goodIn_r _ [168, 31, 32, 169, 170, 171, 2, 172, 37, 38, 39, 40, 41, 173, 174, 175, 45, 46, 176, 177, 178, 97, 98, 99, 100, 16, 179, 180, 181, 182, 183, 184, 185, 186, 187, 188, 189, 190, 54, 55, 56, 57, 18, 58, 59, 60, 53, 833, 834, 826, 827, 828] rfl (by decide +kernel)) (goodIn_sub (fun _ h => List.mem_append_left _ (List.mem_append_right _ h)) (by decide +kernel))) (goodIn_sub (fun _ h => List.mem_append_right _ h) (by decide +kernel))
set_option maxRecDepth 20000 in
theorem gL_law_L_plus : GoodIn wsL_law (va_wsS RL 124 yL_plus wsL_plus) := goodIn_app (goodIn_of _ (by decide +kernel)) ggL_law_L_plus
set_option maxRecDepth 20000 in
theorem ggL_law_X2_plus : GoodIn wsL_law wsX2_plus := goodIn_r _ [194, 23, 67, 68, 5, 69, 70, 71, 72, 195, 196, 197, 73, 74, 75, 76, 77, 198, 199, 200, 201, 202, 203, 204, 205, 206, 207, 208, 78, 79, 80, 81, 82, 83, 84, 85, 66, 829, 830, 831, 832] rfl (by decide +kernel)
set_option maxRecDepth 20000 in
theorem gL_law_X2_plus : GoodIn wsL_law (wsV RL 127 RX2 yX2_plus wsX2_plus) := goodIn_app (goodIn_of _ (by decide +kernel)) ggL_law_X2_plus
set_option maxRecDepth 20000 in
theorem ggL_law_L_minus : GoodIn wsL_law wsL_minus := goodIn_ca (goodIn_ca (goodIn_r _ [211, 31, 32, 212, 213, 214, 2, 215, 37, 38, 39, 40, 41, 173, 174, 175, 45, 46, 176, 177, 178, 97, 98, 99, 100, 16, 179, 180, 181, 182, 183, 184, 185, 186, 187, 188, 189, 190, 54, 55, 56, 57, 18, 58, 59, 60, 53, 833, 834, 826, 827, 828] rfl (by decide +kernel)) (goodIn_sub (fun _ h => List.mem_append_left _ (List.mem_append_right _ h)) (by decide +kernel))) (goodIn_sub (fun _ h => List.mem_append_right _ h) (by decide +kernel))
set_option maxRecDepth 20000 in
theorem gL_law_L_minus : GoodIn wsL_law (va_wsS RL 128 yL_minus wsL_minus) := goodIn_app (goodIn_of _ (by decide +kernel)) ggL_law_L_minus
set_option maxRecDepth 20000 in
theorem ggL_law_X2_minus : GoodIn wsL_law wsX2_minus := goodIn_r _ [219, 23, 67, 68, 5, 69, 70, 71, 72, 195, 196, 197, 73, 74, 75, 76, 77, 198, 199, 200, 201, 202, 203, 204, 205, 206, 207, 208, 78, 79, 80, 81, 82, 83, 84, 85, 66, 829, 830, 831, 832] rfl (by decide +kernel)
set_option maxRecDepth 20000 in
theorem gL_law_X2_minus : GoodIn wsL_law (wsV RL 130 RX2 yX2_minus wsX2_minus) := goodIn_app (goodIn_of _ (by decide +kernel)) ggL_law_X2_minus
set_option maxRecDepth 20000 in
theorem ggL_law_L_walk : GoodIn wsL_law wsL_walk := goodIn_ca (goodIn_ca (goodIn_r _ [222, 31, 32, 223, 224, 225, 2, 226, 45, 46, 37, 38, 39, 40, 41, 173, 174, 175, 176, 177, 178, 97, 98, 99, 100, 16, 179, 180, 181, 182, 183, 184, 185, 186, 187, 188, 189, 190, 54, 55, 56, 57, 18, 58, 59, 60, 53, 833, 834, 826, 827, 828] rfl (by decide +kernel)) (goodIn_sub (fun _ h => List.mem_append_right _ h) (by decide +kernel))) (goodIn_sub (fun _ h => List.mem_append_left _ (List.mem_append_right _ h)) (by decide +kernel))
set_option maxRecDepth 20000 in
theorem gL_law_L_walk : GoodIn wsL_law (va_wsS RL 131 yL_walk wsL_walk) := goodIn_app (goodIn_of _ (by decide +kernel)) ggL_law_L_walk
set_option maxRecDepth 20000 in
theorem ggL_law_X2_walk : GoodIn wsL_law wsX2_walk := goodIn_r _ [230, 23, 67, 68, 5, 69, 70, 71, 72, 195, 196, 197, 73, 74, 75, 76, 77, 198, 199, 200, 201, 202, 203, 204, 205, 206, 207, 208, 78, 79, 80, 81, 82, 83, 84, 85, 66, 829, 830, 831, 832] rfl (by decide +kernel)
set_option maxRecDepth 20000 in
theorem gL_law_X2_walk : GoodIn wsL_law (wsV RL 133 RX2 yX2_walk wsX2_walk) := goodIn_app (goodIn_of _ (by decide +kernel)) ggL_law_X2_walk
set_option maxRecDepth 20000 in
theorem ggL_law_L_cut : GoodIn wsL_law wsL_cut := goodIn_ca (goodIn_ca (goodIn_r _ [233, 31, 32, 234, 235, 236, 2, 237, 37, 38, 39, 40, 41, 238, 239, 240, 45, 46, 97, 98, 99, 100, 16, 241, 242, 243, 183, 184, 185, 186, 54, 55, 56, 57, 18, 58, 59, 60, 53, 833, 834, 826, 827, 828] rfl (by decide +kernel)) (goodIn_sub (fun _ h => List.mem_append_left _ (List.mem_append_right _ h)) (by decide +kernel))) (goodIn_sub (fun _ h => List.mem_append_right _ h) (by decide +kernel))
set_option maxRecDepth 20000 in
theorem gL_law_L_cut : GoodIn wsL_law (va_wsS RL 134 yL_cut wsL_cut) := goodIn_app (goodIn_of _ (by decide +kernel)) ggL_law_L_cut
set_option maxRecDepth 20000 in
theorem ggL_law_X2_cut : GoodIn wsL_law wsX2_cut := goodIn_r _ [247, 23, 67, 68, 5, 69, 70, 71, 72, 73, 74, 75, 76, 77, 202, 203, 204, 205, 206, 207, 208, 78, 79, 80, 81, 82, 83, 84, 85, 66, 829, 830, 831, 832] rfl (by decide +kernel)
set_option maxRecDepth 20000 in
theorem gL_law_X2_cut : GoodIn wsL_law (wsV RL 136 RX2 yX2_cut wsX2_cut) := goodIn_app (goodIn_of _ (by decide +kernel)) ggL_law_X2_cut
set_option maxRecDepth 20000 in
theorem ggL_law_L_of : GoodIn wsL_law wsL_of := goodIn_ca (goodIn_ca (goodIn_r _ [250, 31, 32, 251, 252, 253, 2, 254, 45, 46, 37, 38, 39, 40, 41, 97, 98, 99, 100, 16, 58, 59, 60, 53, 833, 834, 826, 827, 828] rfl (by decide +kernel)) (goodIn_sub (fun _ h => List.mem_append_right _ h) (by decide +kernel))) (goodIn_sub (fun _ h => List.mem_append_left _ (List.mem_append_right _ h)) (by decide +kernel))
set_option maxRecDepth 20000 in
theorem gL_law_L_of : GoodIn wsL_law (va_wsS RL 137 yL_of wsL_of) := goodIn_app (goodIn_of _ (by decide +kernel)) ggL_law_L_of
set_option maxRecDepth 20000 in
theorem ggL_law_X2_of : GoodIn wsL_law wsX2_of := goodIn_r _ [258, 23, 67, 68, 5, 69, 70, 71, 72, 73, 74, 75, 76, 77, 163, 164, 165, 66, 83, 84, 85, 829, 830, 831, 832] rfl (by decide +kernel)
set_option maxRecDepth 20000 in
theorem gL_law_X2_of : GoodIn wsL_law (wsV RL 139 RX2 yX2_of wsX2_of) := goodIn_app (goodIn_of _ (by decide +kernel)) ggL_law_X2_of
set_option maxRecDepth 20000 in
theorem ggL_law_L_number : GoodIn wsL_law wsL_number := goodIn_ca (goodIn_r _ [261, 31, 262, 263, 264, 2, 265, 37, 38, 39, 40, 41, 97, 98, 99, 100, 16, 266, 267, 268, 269, 270, 271, 272, 273, 274, 275, 276, 277, 278, 279, 280, 281, 282, 283, 284, 285, 13, 14, 286, 287, 288, 289, 290, 291, 292, 293, 294, 295, 296, 297, 298, 299, 300, 301, 302, 303, 304, 305, 306, 307, 308, 309, 310, 311, 312, 313, 314, 315, 316, 317, 318, 319, 320, 321, 322, 323, 324, 325, 326, 327, 328, 329, 330, 331, 332, 333, 334, 335, 336, 337, 338, 339, 340, 341, 342, 343, 344, 345, 346, 347, 348, 349, 350, 351, 352, 353, 354, 355, 356, 357, 358, 359, 360, 361, 362, 363, 364, 365, 366, 367, 368, 369, 370, 371, 372, 373, 374, 375, 376, 377, 378, 379, 380, 381, 382, 383, 384, 385, 386, 387, 388, 389, 390, 391, 392, 393, 394, 395, 396, 397, 398, 399, 400, 401, 402, 403, 404, 405, 406, 407, 408, 409, 410, 411, 412, 413, 414, 415, 416, 417, 418, 419, 420, 421, 422, 423, 424, 425, 426, 427, 428, 429, 430, 431, 432, 433, 434, 435, 436, 437, 438, 439, 440, 441, 442, 443, 444, 445, 446, 447, 448, 449, 450, 451, 452, 453, 454, 455, 456, 457, 458, 459, 460, 461, 462, 463, 464, 465, 466, 467, 468, 469, 470, 471, 472, 473, 474, 475, 476, 477, 478, 479, 480, 481, 482, 483, 484, 485, 486, 487, 488, 489, 490, 833, 834, 826, 827, 828, 835, 836, 837, 838, 839, 840, 841, 842] rfl (by decide +kernel)) (goodIn_sub (fun _ h => List.mem_append_left _ (List.mem_append_right _ h)) (by decide +kernel))
set_option maxRecDepth 20000 in
theorem gL_law_L_number : GoodIn wsL_law (va_wsS RL 140 yL_number wsL_number) := goodIn_app (goodIn_of _ (by decide +kernel)) ggL_law_L_number
set_option maxRecDepth 20000 in
theorem ggL_law_X2_number : GoodIn wsL_law wsX2_number := goodIn_r _ [494, 495, 270, 271, 23, 67, 68, 5, 69, 70, 71, 72, 73, 74, 75, 76, 77, 496, 279, 280, 281, 282, 283, 284, 285, 13, 14, 286, 287, 288, 289, 290, 291, 292, 293, 294, 295, 296, 297, 497, 498, 499, 500, 501, 502, 304, 503, 504, 307, 505, 506, 507, 508, 509, 308, 309, 310, 311, 312, 313, 314, 315, 316, 317, 318, 319, 320, 321, 322, 323, 324, 274, 325, 326, 327, 328, 329, 330, 331, 332, 333, 334, 335, 336, 337, 338, 339, 340, 341, 342, 343, 344, 345, 346, 347, 348, 349, 350, 351, 510, 511, 512, 385, 513, 514, 515, 370, 371, 372, 516, 517, 375, 518, 377, 417, 418, 380, 419, 382, 383, 384, 386, 387, 519, 520, 521, 522, 453, 523, 524, 525, 526, 454, 452, 527, 528, 529, 530, 531, 532, 533, 534, 535, 536, 537, 356, 357, 358, 359, 360, 361, 362, 354, 363, 364, 365, 366, 367, 368, 369, 373, 374, 376, 378, 379, 381, 538, 539, 540, 541, 542, 543, 544, 545, 546, 547, 548, 549, 550, 551, 552, 553, 554, 555, 556, 557, 558, 559, 560, 561, 562, 563, 564, 565, 566, 567, 568, 569, 570, 571, 572, 573, 574, 575, 440, 441, 442, 443, 444, 445, 446, 447, 448, 449, 450, 451, 455, 456, 457, 458, 459, 460, 461, 462, 463, 464, 465, 466, 467, 468, 469, 470, 471, 472, 473, 474, 475, 476, 477, 478, 479, 480, 481, 482, 483, 484, 485, 486, 420, 421, 422, 487, 488, 489, 490, 835, 836, 837, 838, 829, 830, 831, 832, 839, 840, 841, 842] rfl (by decide +kernel)
set_option maxRecDepth 20000 in
theorem gL_law_X2_number : GoodIn wsL_law (wsV RL 143 RX2 yX2_number wsX2_number) := goodIn_app (goodIn_of _ (by decide +kernel)) ggL_law_X2_number
set_option maxRecDepth 20000 in
theorem ggL_law_L_text : GoodIn wsL_law wsL_text := goodIn_ca (goodIn_r _ [578, 31, 579, 580, 581, 2, 582, 269, 270, 271, 37, 38, 39, 40, 41, 97, 98, 99, 100, 16, 278, 279, 280, 281, 282, 283, 284, 285, 13, 14, 286, 287, 288, 289, 290, 291, 292, 293, 294, 295, 296, 297, 58, 59, 60, 53, 583, 584, 585, 586, 587, 588, 304, 589, 590, 307, 591, 592, 593, 594, 308, 309, 310, 311, 312, 313, 314, 315, 316, 317, 318, 319, 320, 321, 322, 323, 324, 274, 325, 326, 327, 328, 329, 330, 331, 332, 333, 334, 335, 336, 337, 338, 339, 340, 341, 342, 343, 344, 345, 346, 347, 348, 349, 350, 351, 595, 596, 597, 598, 599, 600, 601, 602, 385, 513, 514, 515, 370, 371, 372, 516, 517, 375, 518, 377, 417, 418, 380, 419, 603, 604, 605, 573, 574, 382, 383, 384, 386, 387, 298, 299, 300, 301, 302, 303, 305, 306, 352, 353, 354, 355, 356, 357, 358, 359, 360, 361, 362, 363, 364, 365, 366, 367, 368, 369, 373, 374, 376, 378, 379, 381, 388, 389, 390, 391, 392, 393, 394, 395, 396, 397, 398, 399, 439, 440, 441, 442, 443, 444, 445, 446, 447, 448, 449, 450, 451, 452, 453, 454, 455, 456, 457, 458, 459, 460, 461, 462, 463, 464, 465, 466, 467, 468, 469, 470, 471, 472, 473, 474, 475, 476, 477, 478, 479, 480, 481, 482, 483, 484, 485, 486, 420, 421, 422, 487, 488, 489, 490, 833, 834, 835, 836, 837, 838, 826, 827, 828, 839, 840, 841, 842] rfl (by decide +kernel)) (goodIn_sub (fun _ h => List.mem_append_left _ (List.mem_append_right _ h)) (by decide +kernel))
set_option maxRecDepth 20000 in
theorem gL_law_L_text : GoodIn wsL_law (va_wsS RL 144 yL_text wsL_text) := goodIn_app (goodIn_of _ (by decide +kernel)) ggL_law_L_text
set_option maxRecDepth 20000 in
theorem ggL_law_X2_text : GoodIn wsL_law wsX2_text := goodIn_r _ [609, 495, 270, 271, 23, 67, 68, 5, 69, 70, 71, 72, 73, 74, 75, 76, 77, 496, 279, 280, 281, 282, 283, 284, 285, 13, 14, 286, 287, 288, 289, 290, 291, 292, 293, 294, 295, 296, 297, 163, 164, 165, 66, 83, 84, 85, 610, 584, 585, 586, 587, 588, 304, 589, 590, 307, 591, 592, 593, 594, 308, 309, 310, 311, 312, 313, 314, 315, 316, 317, 318, 319, 320, 321, 322, 323, 324, 274, 325, 326, 327, 328, 329, 330, 331, 332, 333, 334, 335, 336, 337, 338, 339, 340, 341, 342, 343, 344, 345, 346, 347, 348, 349, 350, 351, 595, 596, 597, 598, 599, 600, 601, 602, 385, 513, 514, 515, 370, 371, 372, 516, 517, 375, 518, 377, 417, 418, 380, 419, 603, 604, 605, 573, 574, 382, 383, 384, 386, 387, 497, 498, 499, 500, 501, 502, 503, 504, 505, 506, 507, 508, 509, 510, 511, 512, 519, 520, 521, 522, 453, 523, 524, 525, 526, 454, 452, 527, 528, 529, 530, 531, 532, 533, 534, 535, 536, 537, 356, 357, 358, 359, 360, 361, 362, 354, 363, 364, 365, 366, 367, 368, 369, 373, 374, 376, 378, 379, 381, 538, 539, 540, 541, 542, 543, 575, 440, 441, 442, 443, 444, 445, 446, 447, 448, 449, 450, 451, 455, 456, 457, 458, 459, 460, 461, 462, 463, 464, 465, 466, 467, 468, 469, 470, 471, 472, 473, 474, 475, 476, 477, 478, 479, 480, 481, 482, 483, 484, 485, 486, 420, 421, 422, 487, 488, 489, 490, 835, 836, 837, 838, 829, 830, 831, 832, 839, 840, 841, 842] rfl (by decide +kernel)
set_option maxRecDepth 20000 in
theorem gL_law_X2_text : GoodIn wsL_law (wsV RL 146 RX2 yX2_text wsX2_text) := goodIn_app (goodIn_of _ (by decide +kernel)) ggL_law_X2_text
set_option maxRecDepth 20000 in
theorem ggL_law_L_beyond : GoodIn wsL_law wsL_beyond := goodIn_ca (goodIn_ca (goodIn_r _ [613, 31, 32, 614, 615, 616, 2, 617, 37, 38, 39, 40, 41, 238, 239, 240, 45, 46, 97, 98, 99, 100, 16, 241, 242, 243, 183, 184, 185, 186, 266, 267, 268, 269, 270, 271, 272, 273, 274, 275, 276, 277, 278, 279, 280, 281, 282, 283, 284, 285, 13, 14, 286, 287, 288, 289, 290, 291, 292, 293, 294, 295, 296, 297, 298, 299, 300, 301, 302, 303, 304, 305, 306, 307, 308, 309, 310, 311, 312, 313, 314, 315, 316, 317, 318, 319, 320, 321, 322, 323, 324, 325, 326, 327, 328, 329, 330, 331, 332, 333, 334, 335, 336, 337, 338, 339, 340, 341, 342, 343, 344, 345, 346, 347, 348, 349, 350, 351, 352, 353, 354, 355, 356, 357, 358, 359, 360, 361, 362, 363, 364, 365, 366, 367, 368, 369, 370, 371, 372, 373, 374, 375, 376, 377, 378, 379, 380, 381, 382, 383, 384, 385, 386, 387, 388, 389, 390, 391, 392, 393, 394, 395, 396, 397, 398, 399, 400, 401, 402, 403, 404, 405, 406, 407, 408, 409, 410, 411, 412, 413, 414, 415, 416, 417, 418, 419, 420, 421, 422, 423, 424, 425, 426, 427, 428, 429, 430, 431, 432, 433, 434, 435, 436, 437, 438, 439, 440, 441, 442, 443, 444, 445, 446, 447, 448, 449, 450, 451, 452, 453, 454, 455, 456, 457, 458, 459, 460, 461, 462, 463, 464, 465, 466, 467, 468, 469, 470, 471, 472, 473, 474, 475, 476, 477, 478, 479, 480, 481, 482, 483, 484, 485, 486, 487, 488, 489, 490, 833, 834, 826, 827, 828, 835, 836, 837, 838, 839, 840, 841, 842] rfl (by decide +kernel)) (goodIn_sub (fun _ h => List.mem_append_left _ (List.mem_append_right _ h)) (by decide +kernel))) (goodIn_sub (fun _ h => List.mem_append_right _ h) (by decide +kernel))
set_option maxRecDepth 20000 in
theorem gL_law_L_beyond : GoodIn wsL_law (va_wsS RL 147 yL_beyond wsL_beyond) := goodIn_app (goodIn_of _ (by decide +kernel)) ggL_law_L_beyond
set_option maxRecDepth 20000 in
theorem ggL_law_X2_beyond : GoodIn wsL_law wsX2_beyond := goodIn_r _ [621, 495, 270, 271, 23, 67, 68, 5, 69, 70, 71, 72, 73, 74, 75, 76, 77, 496, 279, 280, 281, 282, 283, 284, 285, 13, 14, 286, 287, 288, 289, 290, 291, 292, 293, 294, 295, 296, 297, 497, 498, 499, 500, 501, 502, 304, 503, 504, 307, 505, 506, 507, 508, 509, 308, 309, 310, 311, 312, 313, 314, 315, 316, 317, 318, 319, 320, 321, 322, 323, 324, 274, 325, 326, 327, 328, 329, 330, 331, 332, 333, 334, 335, 336, 337, 338, 339, 340, 341, 342, 343, 344, 345, 346, 347, 348, 349, 350, 351, 510, 511, 512, 385, 513, 514, 515, 370, 371, 372, 516, 517, 375, 518, 377, 417, 418, 380, 419, 382, 383, 384, 386, 387, 519, 520, 521, 522, 453, 523, 524, 525, 526, 454, 452, 527, 528, 529, 530, 531, 532, 533, 534, 535, 536, 537, 356, 357, 358, 359, 360, 361, 362, 354, 363, 364, 365, 366, 367, 368, 369, 373, 374, 376, 378, 379, 381, 538, 539, 540, 541, 542, 543, 202, 203, 204, 205, 206, 207, 208, 544, 545, 546, 547, 548, 549, 550, 551, 552, 553, 554, 555, 556, 557, 558, 559, 560, 561, 562, 563, 564, 565, 566, 567, 568, 569, 570, 571, 572, 573, 574, 575, 440, 441, 442, 443, 444, 445, 446, 447, 448, 449, 450, 451, 455, 456, 457, 458, 459, 460, 461, 462, 463, 464, 465, 466, 467, 468, 469, 470, 471, 472, 473, 474, 475, 476, 477, 478, 479, 480, 481, 482, 483, 484, 485, 486, 420, 421, 422, 487, 488, 489, 490, 835, 836, 837, 838, 829, 830, 831, 832, 839, 840, 841, 842] rfl (by decide +kernel)
set_option maxRecDepth 20000 in
theorem gL_law_X2_beyond : GoodIn wsL_law (wsV RL 149 RX2 yX2_beyond wsX2_beyond) := goodIn_app (goodIn_of _ (by decide +kernel)) ggL_law_X2_beyond
set_option maxRecDepth 20000 in
theorem ggL_law_L_compare : GoodIn wsL_law wsL_compare := goodIn_ca (goodIn_r _ [624, 31, 625, 626, 627, 2, 628, 37, 38, 39, 40, 41, 97, 98, 99, 100, 16, 629, 630, 631, 833, 834, 826, 827, 828] rfl (by decide +kernel)) (goodIn_sub (fun _ h => List.mem_append_left _ (List.mem_append_right _ h)) (by decide +kernel))
set_option maxRecDepth 20000 in
theorem gL_law_L_compare : GoodIn wsL_law (va_wsS RL 150 yL_compare wsL_compare) := goodIn_app (goodIn_of _ (by decide +kernel)) ggL_law_L_compare
set_option maxRecDepth 20000 in
theorem ggL_law_X2_compare : GoodIn wsL_law wsX2_compare := goodIn_r _ [635, 23, 67, 68, 5, 69, 70, 71, 72, 73, 74, 75, 76, 77, 636, 637, 638, 829, 830, 831, 832] rfl (by decide +kernel)
set_option maxRecDepth 20000 in
theorem gL_law_X2_compare : GoodIn wsL_law (wsV RL 152 RX2 yX2_compare wsX2_compare) := goodIn_app (goodIn_of _ (by decide +kernel)) ggL_law_X2_compare
set_option maxRecDepth 20000 in
theorem ggL_law_L_isAhead : GoodIn wsL_law wsL_isAhead := goodIn_ca (goodIn_r _ [641, 31, 642, 643, 644, 2, 645, 37, 38, 39, 40, 41, 97, 98, 99, 100, 16, 833, 834, 826, 827, 828] rfl (by decide +kernel)) (goodIn_sub (fun _ h => List.mem_append_left _ (List.mem_append_right _ h)) (by decide +kernel))
set_option maxRecDepth 20000 in
theorem gL_law_L_isAhead : GoodIn wsL_law (va_wsS RL 153 yL_isAhead wsL_isAhead) := goodIn_app (goodIn_of _ (by decide +kernel)) ggL_law_L_isAhead
set_option maxRecDepth 20000 in
theorem ggL_law_X2_isAhead : GoodIn wsL_law wsX2_isAhead := goodIn_r _ [649, 23, 67, 68, 5, 69, 70, 71, 72, 73, 74, 75, 76, 77, 829, 830, 831, 832] rfl (by decide +kernel)
set_option maxRecDepth 20000 in
theorem gL_law_X2_isAhead : GoodIn wsL_law (wsV RL 155 RX2 yX2_isAhead wsX2_isAhead) := goodIn_app (goodIn_of _ (by decide +kernel)) ggL_law_X2_isAhead
set_option maxRecDepth 20000 in
theorem ggL_law_L_isBehind : GoodIn wsL_law wsL_isBehind := goodIn_ca (goodIn_r _ [652, 31, 653, 654, 655, 2, 656, 37, 38, 39, 40, 41, 97, 98, 99, 100, 16, 833, 834, 826, 827, 828] rfl (by decide +kernel)) (goodIn_sub (fun _ h => List.mem_append_left _ (List.mem_append_right _ h)) (by decide +kernel))
set_option maxRecDepth 20000 in
theorem gL_law_L_isBehind : GoodIn wsL_law (va_wsS RL 156 yL_isBehind wsL_isBehind) := goodIn_app (goodIn_of _ (by decide +kernel)) ggL_law_L_isBehind
set_option maxRecDepth 20000 in
theorem ggL_law_X2_isBehind : GoodIn wsL_law wsX2_isBehind := goodIn_r _ [660, 23, 67, 68, 5, 69, 70, 71, 72, 73, 74, 75, 76, 77, 829, 830, 831, 832] rfl (by decide +kernel)
set_option maxRecDepth 20000 in
theorem gL_law_X2_isBehind : GoodIn wsL_law (wsV RL 158 RX2 yX2_isBehind wsX2_isBehind) := goodIn_app (goodIn_of _ (by decide +kernel)) ggL_law_X2_isBehind
set_option maxRecDepth 20000 in
theorem ggL_law_L_areAlike : GoodIn wsL_law wsL_areAlike := goodIn_ca (goodIn_r _ [663, 31, 664, 665, 666, 2, 667, 37, 38, 39, 40, 41, 97, 98, 99, 100, 16, 833, 834, 826, 827, 828] rfl (by decide +kernel)) (goodIn_sub (fun _ h => List.mem_append_left _ (List.mem_append_right _ h)) (by decide +kernel))
set_option maxRecDepth 20000 in
theorem gL_law_L_areAlike : GoodIn wsL_law (va_wsS RL 159 yL_areAlike wsL_areAlike) := goodIn_app (goodIn_of _ (by decide +kernel)) ggL_law_L_areAlike
set_option maxRecDepth 20000 in
theorem ggL_law_X2_areAlike : GoodIn wsL_law wsX2_areAlike := goodIn_r _ [671, 23, 67, 68, 5, 69, 70, 71, 72, 73, 74, 75, 76, 77, 829, 830, 831, 832] rfl (by decide +kernel)
set_option maxRecDepth 20000 in
theorem gL_law_X2_areAlike : GoodIn wsL_law (wsV RL 161 RX2 yX2_areAlike wsX2_areAlike) := goodIn_app (goodIn_of _ (by decide +kernel)) ggL_law_X2_areAlike
set_option maxRecDepth 20000 in
theorem ggL_law_L_between : GoodIn wsL_law wsL_between := goodIn_ca (goodIn_ca (goodIn_r _ [674, 31, 32, 675, 676, 677, 2, 678, 37, 38, 39, 40, 41, 238, 239, 240, 45, 46, 97, 98, 99, 100, 16, 679, 680, 681, 183, 184, 185, 186, 266, 267, 268, 269, 270, 271, 272, 273, 274, 275, 276, 277, 278, 279, 280, 281, 282, 283, 284, 285, 13, 14, 286, 287, 288, 289, 290, 291, 292, 293, 294, 295, 296, 297, 298, 299, 300, 301, 302, 303, 304, 305, 306, 307, 308, 309, 310, 311, 312, 313, 314, 315, 316, 317, 318, 319, 320, 321, 322, 323, 324, 325, 326, 327, 328, 329, 330, 331, 332, 333, 334, 335, 336, 337, 338, 339, 340, 341, 342, 343, 344, 345, 346, 347, 348, 349, 350, 351, 352, 353, 354, 355, 356, 357, 358, 359, 360, 361, 362, 363, 364, 365, 366, 367, 368, 369, 370, 371, 372, 373, 374, 375, 376, 377, 378, 379, 380, 381, 382, 383, 384, 385, 386, 387, 388, 389, 390, 391, 392, 393, 394, 395, 396, 397, 398, 399, 400, 401, 402, 403, 404, 405, 406, 407, 408, 409, 410, 411, 412, 413, 414, 415, 416, 417, 418, 419, 420, 421, 422, 423, 424, 425, 426, 427, 428, 429, 430, 431, 432, 433, 434, 435, 436, 437, 438, 439, 440, 441, 442, 443, 444, 445, 446, 447, 448, 449, 450, 451, 452, 453, 454, 455, 456, 457, 458, 459, 460, 461, 462, 463, 464, 465, 466, 467, 468, 469, 470, 471, 472, 473, 474, 475, 476, 477, 478, 479, 480, 481, 482, 483, 484, 485, 486, 487, 488, 489, 490, 833, 834, 826, 827, 828, 835, 836, 837, 838, 839, 840, 841, 842] rfl (by decide +kernel)) (goodIn_sub (fun _ h => List.mem_append_left _ (List.mem_append_right _ h)) (by decide +kernel))) (goodIn_sub (fun _ h => List.mem_append_right _ h) (by decide +kernel))
set_option maxRecDepth 20000 in
theorem gL_law_L_between : GoodIn wsL_law (va_wsS RL 162 yL_between wsL_between) := goodIn_app (goodIn_of _ (by decide +kernel)) ggL_law_L_between
set_option maxRecDepth 20000 in
theorem ggL_law_X2_between : GoodIn wsL_law wsX2_between := goodIn_r _ [685, 495, 270, 271, 67, 68, 5, 69, 70, 71, 72, 73, 74, 75, 76, 77, 496, 279, 280, 281, 282, 283, 284, 285, 13, 14, 286, 287, 288, 289, 290, 291, 292, 293, 294, 295, 296, 297, 497, 498, 499, 500, 501, 502, 304, 503, 504, 307, 505, 506, 507, 508, 509, 308, 309, 310, 311, 312, 313, 314, 315, 316, 317, 318, 319, 320, 321, 322, 323, 324, 274, 325, 326, 327, 328, 329, 330, 331, 332, 333, 334, 335, 336, 337, 338, 339, 340, 341, 342, 343, 344, 345, 346, 347, 348, 349, 350, 351, 510, 511, 512, 385, 513, 514, 515, 370, 371, 372, 516, 517, 375, 518, 377, 417, 418, 380, 419, 382, 383, 384, 386, 387, 519, 520, 521, 522, 453, 523, 524, 525, 526, 454, 452, 527, 528, 529, 530, 531, 532, 533, 534, 535, 536, 537, 356, 357, 358, 359, 360, 361, 362, 354, 363, 364, 365, 366, 367, 368, 369, 373, 374, 376, 378, 379, 381, 538, 539, 540, 541, 542, 543, 686, 687, 688, 689, 23, 202, 203, 204, 205, 206, 207, 208, 544, 545, 546, 547, 548, 549, 550, 551, 552, 553, 554, 555, 556, 557, 558, 559, 560, 561, 562, 563, 564, 565, 566, 567, 568, 569, 570, 571, 572, 573, 574, 575, 440, 441, 442, 443, 444, 445, 446, 447, 448, 449, 450, 451, 455, 456, 457, 458, 459, 460, 461, 462, 463, 464, 465, 466, 467, 468, 469, 470, 471, 472, 473, 474, 475, 476, 477, 478, 479, 480, 481, 482, 483, 484, 485, 486, 420, 421, 422, 487, 488, 489, 490, 835, 836, 837, 838, 829, 830, 831, 832, 839, 840, 841, 842] rfl (by decide +kernel)
set_option maxRecDepth 20000 in
theorem gL_law_X2_between : GoodIn wsL_law (wsV RL 164 RX2 yX2_between wsX2_between) := goodIn_app (goodIn_of _ (by decide +kernel)) ggL_law_X2_between
set_option maxRecDepth 20000 in
theorem ggL_law_X0_order : GoodIn wsL_law wsX0_order := goodIn_r _ [693, 269, 270, 271, 278, 279, 280, 281, 282, 283, 284, 285, 13, 14, 286, 287, 288, 289, 290, 291, 292, 293, 294, 295, 296, 297, 298, 299, 300, 301, 302, 303, 304, 305, 306, 307, 308, 309, 310, 311, 312, 313, 314, 315, 316, 317, 318, 319, 320, 321, 322, 323, 324, 274, 325, 326, 327, 328, 329, 330, 331, 332, 333, 334, 335, 336, 337, 338, 339, 340, 341, 342, 343, 344, 345, 346, 347, 348, 349, 350, 351, 352, 353, 354, 355, 356, 357, 358, 359, 360, 361, 362, 363, 364, 365, 366, 367, 368, 369, 370, 371, 372, 373, 374, 375, 376, 377, 378, 379, 380, 381, 382, 383, 384, 385, 386, 387, 388, 389, 390, 391, 392, 393, 394, 395, 396, 397, 398, 399, 694, 695, 696, 2, 697, 698, 699, 700, 701, 97, 98, 99, 100, 16, 583, 584, 585, 586, 587, 588, 589, 590, 591, 592, 593, 594, 595, 596, 597, 598, 599, 600, 601, 602, 513, 514, 515, 516, 517, 518, 417, 418, 419, 603, 604, 605, 573, 574, 439, 440, 441, 442, 443, 444, 445, 446, 447, 448, 449, 450, 451, 452, 453, 454, 455, 456, 457, 458, 459, 460, 461, 462, 463, 464, 465, 466, 467, 468, 469, 470, 471, 472, 473, 474, 475, 476, 477, 478, 479, 480, 481, 482, 483, 484, 485, 486, 420, 421, 422, 487, 488, 489, 490, 835, 836, 837, 838, 826, 827, 828, 839, 840, 841, 842] rfl (by decide +kernel)
set_option maxRecDepth 20000 in
theorem gL_law_X0_order : GoodIn wsL_law (wsV RL 165 RX0 yX0_order wsX0_order) := goodIn_app (goodIn_of _ (by decide +kernel)) ggL_law_X0_order
set_option maxRecDepth 20000 in
theorem ggL_law_X2_order_ : GoodIn wsL_law wsX2_order_ := goodIn_r _ [705, 77, 706, 707, 708, 5, 709, 23, 495, 270, 271, 496, 279, 280, 281, 282, 283, 284, 285, 13, 14, 286, 287, 288, 289, 290, 291, 292, 293, 294, 295, 296, 297, 497, 498, 499, 500, 501, 502, 304, 503, 504, 307, 505, 506, 507, 508, 509, 308, 309, 310, 311, 312, 313, 314, 315, 316, 317, 318, 319, 320, 321, 322, 323, 324, 274, 325, 326, 327, 328, 329, 330, 331, 332, 333, 334, 335, 336, 337, 338, 339, 340, 341, 342, 343, 344, 345, 346, 347, 348, 349, 350, 351, 510, 511, 512, 385, 513, 514, 515, 370, 371, 372, 516, 517, 375, 518, 377, 417, 418, 380, 419, 382, 383, 384, 386, 387, 519, 520, 521, 522, 453, 523, 524, 525, 526, 454, 452, 527, 528, 529, 530, 531, 532, 533, 534, 535, 536, 537, 356, 357, 358, 359, 360, 361, 362, 354, 363, 364, 365, 366, 367, 368, 369, 373, 374, 376, 378, 379, 381, 538, 539, 540, 541, 542, 543, 610, 584, 585, 586, 587, 588, 589, 590, 591, 592, 593, 594, 595, 596, 597, 598, 599, 600, 601, 602, 603, 604, 605, 573, 574, 575, 440, 441, 442, 443, 444, 445, 446, 447, 448, 449, 450, 451, 455, 456, 457, 458, 459, 460, 461, 462, 463, 464, 465, 466, 467, 468, 469, 470, 471, 472, 473, 474, 475, 476, 477, 478, 479, 480, 481, 482, 483, 484, 485, 486, 420, 421, 422, 487, 488, 489, 490, 829, 830, 831, 832, 835, 836, 837, 838, 839, 840, 841, 842] rfl (by decide +kernel)
set_option maxRecDepth 20000 in
theorem gL_law_X2_order_ : GoodIn wsL_law (wsV RL 169 RX2 yX2_order_ wsX2_order_) := goodIn_app (goodIn_of _ (by decide +kernel)) ggL_law_X2_order_
set_option maxRecDepth 20000 in
theorem ggL_law_X0_kinds : GoodIn wsL_law wsX0_kinds := goodIn_r _ [713, 714, 715, 716, 2, 717, 97, 98, 99, 100, 16, 826, 827, 828] rfl (by decide +kernel)
set_option maxRecDepth 20000 in
theorem gL_law_X0_kinds : GoodIn wsL_law (wsV RL 170 RX0 yX0_kinds wsX0_kinds) := goodIn_app (goodIn_of _ (by decide +kernel)) ggL_law_X0_kinds
set_option maxRecDepth 20000 in
theorem ggL_law_X2_kinds : GoodIn wsL_law wsX2_kinds := goodIn_r _ [721, 77, 722, 723, 724, 5, 725, 23, 829, 830, 831, 832] rfl (by decide +kernel)
set_option maxRecDepth 20000 in
theorem gL_law_X2_kinds : GoodIn wsL_law (wsV RL 173 RX2 yX2_kinds wsX2_kinds) := goodIn_app (goodIn_of _ (by decide +kernel)) ggL_law_X2_kinds
set_option maxRecDepth 20000 in
theorem ggL_law_X0_knock : GoodIn wsL_law wsX0_knock := goodIn_r _ [729, 17, 826, 827, 828] rfl (by decide +kernel)
set_option maxRecDepth 20000 in
theorem gL_law_X0_knock : GoodIn wsL_law (wsV RL 174 RX0 yX0_knock wsX0_knock) := goodIn_app (goodIn_of _ (by decide +kernel)) ggL_law_X0_knock
set_option maxRecDepth 20000 in
theorem ggL_law_X2_knock : GoodIn wsL_law wsX2_knock := goodIn_r _ [733, 77, 734, 829, 830, 831, 832] rfl (by decide +kernel)
set_option maxRecDepth 20000 in
theorem gL_law_X2_knock : GoodIn wsL_law (wsV RL 177 RX2 yX2_knock wsX2_knock) := goodIn_app (goodIn_of _ (by decide +kernel)) ggL_law_X2_knock
set_option maxRecDepth 20000 in
theorem ggL_law_L_house : GoodIn wsL_law wsL_house := goodIn_ca (goodIn_r _ [737, 32, 738, 739, 740, 2, 741, 45, 46, 17, 18, 833, 834, 826, 827, 828] rfl (by decide +kernel)) (goodIn_sub (fun _ h => List.mem_append_right _ h) (by decide +kernel))
set_option maxRecDepth 20000 in
theorem gL_law_L_house : GoodIn wsL_law (va_wsS RL 178 yL_house wsL_house) := goodIn_app (goodIn_of _ (by decide +kernel)) ggL_law_L_house
set_option maxRecDepth 20000 in
theorem ggL_law_X2_house : GoodIn wsL_law wsX2_house := goodIn_r _ [745, 734, 82, 73, 74, 75, 5, 76, 77, 70, 71, 72, 746, 747, 748, 749, 829, 830, 831, 832] rfl (by decide +kernel)
set_option maxRecDepth 20000 in
theorem gL_law_X2_house : GoodIn wsL_law (wsV RL 180 RX2 yX2_house wsX2_house) := goodIn_app (goodIn_of _ (by decide +kernel)) ggL_law_X2_house
set_option maxRecDepth 20000 in
theorem ggL_law_X0_isSound : GoodIn wsL_law wsX0_isSound := goodIn_r _ [753, 97, 98, 99, 2, 100, 16, 754, 755, 756, 47, 53, 58, 59, 60, 48, 49, 50, 51, 52, 241, 242, 243, 183, 184, 185, 186, 757, 758, 759, 760, 176, 177, 178, 761, 762, 763, 179, 180, 181, 182, 187, 188, 189, 190, 764, 765, 766, 767, 768, 769, 770, 771, 772, 773, 774, 775, 776, 629, 630, 631, 679, 680, 681, 777, 778, 779, 272, 273, 274, 275, 826, 827, 828] rfl (by decide +kernel)
set_option maxRecDepth 20000 in
theorem gL_law_X0_isSound : GoodIn wsL_law (wsV RL 181 RX0 yX0_isSound wsX0_isSound) := goodIn_app (goodIn_of _ (by decide +kernel)) ggL_law_X0_isSound
set_option maxRecDepth 20000 in
theorem ggL_law_X2_isSound : GoodIn wsL_law wsX2_isSound := goodIn_r _ [783, 77, 829, 830, 831, 832] rfl (by decide +kernel)
set_option maxRecDepth 20000 in
theorem gL_law_X2_isSound : GoodIn wsL_law (wsV RL 185 RX2 yX2_isSound wsX2_isSound) := goodIn_app (goodIn_of _ (by decide +kernel)) ggL_law_X2_isSound
set_option maxRecDepth 20000 in
theorem ggL_law_X0_digest : GoodIn wsL_law wsX0_digest := goodIn_r _ [787, 788, 789, 17, 18, 97, 98, 99, 2, 100, 16, 790, 791, 792, 58, 59, 60, 53, 793, 794, 795, 629, 630, 631, 679, 680, 681, 183, 184, 185, 186, 796, 711, 712, 713, 714, 715, 716, 717, 797, 691, 692, 693, 269, 270, 271, 278, 279, 280, 281, 282, 283, 284, 285, 13, 14, 286, 287, 288, 289, 290, 291, 292, 293, 294, 295, 296, 297, 298, 299, 300, 301, 302, 303, 304, 305, 306, 307, 308, 309, 310, 311, 312, 313, 314, 315, 316, 317, 318, 319, 320, 321, 322, 323, 324, 274, 325, 326, 327, 328, 329, 330, 331, 332, 333, 334, 335, 336, 337, 338, 339, 340, 341, 342, 343, 344, 345, 346, 347, 348, 349, 350, 351, 352, 353, 354, 355, 356, 357, 358, 359, 360, 361, 362, 363, 364, 365, 366, 367, 368, 369, 370, 371, 372, 373, 374, 375, 376, 377, 378, 379, 380, 381, 382, 383, 384, 385, 386, 387, 388, 389, 390, 391, 392, 393, 394, 395, 396, 397, 398, 399, 694, 695, 696, 697, 698, 699, 700, 701, 583, 584, 585, 586, 587, 588, 589, 590, 591, 592, 593, 594, 595, 596, 597, 598, 599, 600, 601, 602, 513, 514, 515, 516, 517, 518, 417, 418, 419, 603, 604, 605, 573, 574, 439, 440, 441, 442, 443, 444, 445, 446, 447, 448, 449, 450, 451, 452, 453, 454, 455, 456, 457, 458, 459, 460, 461, 462, 463, 464, 465, 466, 467, 468, 469, 470, 471, 472, 473, 474, 475, 476, 477, 478, 479, 480, 481, 482, 483, 484, 485, 486, 420, 421, 422, 487, 488, 489, 490, 798, 520, 521, 522, 523, 524, 525, 526, 799, 800, 801, 802, 803, 804, 805, 806, 807, 808, 809, 810, 811, 812, 813, 814, 751, 752, 753, 754, 755, 756, 47, 48, 49, 50, 51, 52, 241, 242, 243, 757, 758, 759, 760, 176, 177, 178, 761, 762, 763, 179, 180, 181, 182, 187, 188, 189, 190, 764, 765, 766, 767, 768, 769, 770, 771, 772, 773, 774, 775, 776, 777, 778, 779, 272, 273, 275, 826, 827, 828, 835, 836, 837, 838, 839, 840, 841, 842] rfl (by decide +kernel)
set_option maxRecDepth 20000 in
theorem gL_law_X0_digest : GoodIn wsL_law (wsV RL 186 RX0 yX0_digest wsX0_digest) := goodIn_app (goodIn_of _ (by decide +kernel)) ggL_law_X0_digest
set_option maxRecDepth 20000 in
theorem ggL_law_X2_digest : GoodIn wsL_law wsX2_digest := goodIn_r _ [818, 77, 819, 734, 82, 23, 820, 821, 5, 822, 823, 163, 164, 165, 66, 83, 84, 85, 636, 637, 638, 686, 687, 688, 689, 202, 203, 204, 205, 206, 207, 208, 722, 723, 724, 725, 706, 707, 708, 709, 495, 270, 271, 496, 279, 280, 281, 282, 283, 284, 285, 13, 14, 286, 287, 288, 289, 290, 291, 292, 293, 294, 295, 296, 297, 497, 498, 499, 500, 501, 502, 304, 503, 504, 307, 505, 506, 507, 508, 509, 308, 309, 310, 311, 312, 313, 314, 315, 316, 317, 318, 319, 320, 321, 322, 323, 324, 274, 325, 326, 327, 328, 329, 330, 331, 332, 333, 334, 335, 336, 337, 338, 339, 340, 341, 342, 343, 344, 345, 346, 347, 348, 349, 350, 351, 510, 511, 512, 385, 513, 514, 515, 370, 371, 372, 516, 517, 375, 518, 377, 417, 418, 380, 419, 382, 383, 384, 386, 387, 519, 520, 521, 522, 453, 523, 524, 525, 526, 454, 452, 527, 528, 529, 530, 531, 532, 533, 534, 535, 536, 537, 356, 357, 358, 359, 360, 361, 362, 354, 363, 364, 365, 366, 367, 368, 369, 373, 374, 376, 378, 379, 381, 538, 539, 540, 541, 542, 543, 610, 584, 585, 586, 587, 588, 589, 590, 591, 592, 593, 594, 595, 596, 597, 598, 599, 600, 601, 602, 603, 604, 605, 573, 574, 575, 440, 441, 442, 443, 444, 445, 446, 447, 448, 449, 450, 451, 455, 456, 457, 458, 459, 460, 461, 462, 463, 464, 465, 466, 467, 468, 469, 470, 471, 472, 473, 474, 475, 476, 477, 478, 479, 480, 481, 482, 483, 484, 485, 486, 420, 421, 422, 487, 488, 489, 490, 824, 825, 800, 801, 802, 803, 804, 805, 806, 807, 808, 809, 810, 395, 396, 397, 398, 399, 811, 812, 813, 391, 392, 393, 394, 829, 830, 831, 832, 835, 836, 837, 838, 839, 840, 841, 842] rfl (by decide +kernel)
set_option maxRecDepth 20000 in
theorem gL_law_X2_digest : GoodIn wsL_law (wsV RL 190 RX2 yX2_digest wsX2_digest) := goodIn_app (goodIn_of _ (by decide +kernel)) ggL_law_X2_digest
