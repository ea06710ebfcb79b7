theorem goodIn_cons {big ws : List Cond} {c : Cond} (h1 : GoodIn big [c]) (h2 : GoodIn big ws) : GoodIn big (c :: ws) := fun w h => (List.mem_cons.mp h).elim (fun e => h1 w (by rw [e]; exact List.mem_singleton.mpr rfl)) (h2 w)
set_option maxRecDepth 20000 in
theorem ggL_law_X3_init : GoodIn wsL_law wsX3_init := goodIn_r _ [6, 7, 8, 9, 10, 11, 12, 13, 14, 15, 16, 17, 18, 19, 20, 3, 21, 22, 353, 354, 355, 356, 357, 358, 359, 360, 361, 362, 363, 364, 365, 366, 367, 368, 369, 370, 371] (by decide +kernel) (by decide +kernel)
set_option maxRecDepth 20000 in
theorem gL_law_X3_init : GoodIn wsL_law (wsX3_init) := ggL_law_X3_init
set_option maxRecDepth 20000 in
theorem ggL_law_L_cell : GoodIn wsL_law wsL_cell := goodIn_r _ [26, 27, 28] (by decide +kernel) (by decide +kernel)
set_option maxRecDepth 20000 in
theorem gL_law_L_cell : GoodIn wsL_law (va_wsS RL 110 yL_cell wsL_cell) := goodIn_app (goodIn_of _ (by decide +kernel)) ggL_law_L_cell
set_option maxRecDepth 20000 in
theorem ggL_law_L_low : GoodIn wsL_law wsL_low := goodIn_r _ [31, 32] (by decide +kernel) (by decide +kernel)
set_option maxRecDepth 20000 in
theorem gL_law_L_low : GoodIn wsL_law (va_wsS RL 102 yL_low wsL_low) := goodIn_app (goodIn_of _ (by decide +kernel)) ggL_law_L_low
set_option maxRecDepth 20000 in
theorem ggL_law_X3_addPerson : GoodIn wsL_law wsX3_addPerson := goodIn_ca (goodIn_ca (goodIn_r _ [36, 37, 38, 39, 40, 41, 11, 10, 42, 43, 44, 45, 46, 2, 47, 48, 49, 50, 51, 8, 9, 3, 52, 53, 54, 55, 56, 57, 58, 59, 60, 61, 62, 63, 353, 354, 355, 356, 357, 358, 359, 360, 372, 373, 374, 375, 376, 377, 378, 379, 380, 381, 382, 383, 384, 385, 386] (by decide +kernel) (by decide +kernel)) (goodIn_sub (fun _ h => List.mem_append_left _ (List.mem_append_left _ (List.mem_append_right _ h))) (by decide +kernel))) (goodIn_sub (fun _ h => List.mem_append_left _ (List.mem_append_right _ h)) (by decide +kernel))
set_option maxRecDepth 20000 in
theorem gL_law_X3_addPerson : GoodIn wsL_law (wsV RL 114 RX3 yX3_addPerson wsX3_addPerson) := goodIn_app (goodIn_of _ (by decide +kernel)) ggL_law_X3_addPerson
set_option maxRecDepth 20000 in
theorem ggL_law_L_go : GoodIn wsL_law wsL_go := goodIn_r _ [258, 253, 254, 25, 255, 259, 260, 261, 262, 263, 264, 265, 266, 267, 268, 269, 270] (by decide +kernel) (by decide +kernel)
set_option maxRecDepth 20000 in
theorem gL_law_L_go : GoodIn wsL_law (va_wsS RL 62 yL_go wsL_go) := goodIn_app (goodIn_of _ (by decide +kernel)) ggL_law_L_go
set_option maxRecDepth 20000 in
theorem ggL_law_L_sum : GoodIn wsL_law wsL_sum := goodIn_r _ [267] (by decide +kernel) (by decide +kernel)
set_option maxRecDepth 20000 in
theorem gL_law_L_sum : GoodIn wsL_law (va_wsS RL 54 yL_sum wsL_sum) := goodIn_app (goodIn_of _ (by decide +kernel)) ggL_law_L_sum
set_option maxRecDepth 20000 in
theorem ggL_law_X3_pass : GoodIn wsL_law wsX3_pass := goodIn_ca (goodIn_ca (goodIn_r _ [274, 37, 38, 39, 40, 44, 353, 354, 355, 356, 357, 358, 359, 360] (by decide +kernel) (by decide +kernel)) (goodIn_sub (fun _ h => List.mem_append_left _ (List.mem_append_left _ (List.mem_append_right _ h))) (by decide +kernel))) (goodIn_sub (fun _ h => List.mem_append_left _ (List.mem_append_right _ h)) (by decide +kernel))
set_option maxRecDepth 20000 in
theorem gL_law_X3_pass : GoodIn wsL_law (wsV RL 125 RX3 yX3_pass wsX3_pass) := goodIn_app (goodIn_of _ (by decide +kernel)) ggL_law_X3_pass
set_option maxRecDepth 20000 in
theorem ggL_law_X3_today : GoodIn wsL_law wsX3_today := goodIn_r _ [278, 44, 353, 354, 355, 356, 357, 358, 359, 360] (by decide +kernel) (by decide +kernel)
set_option maxRecDepth 20000 in
theorem gL_law_X3_today : GoodIn wsL_law (wsV RL 128 RX3 yX3_today wsX3_today) := goodIn_app (goodIn_of _ (by decide +kernel)) ggL_law_X3_today
set_option maxRecDepth 20000 in
theorem ggL_law_X3_people : GoodIn wsL_law wsX3_people := goodIn_r _ [282, 41, 353, 354, 355, 356, 357, 358, 359, 360] (by decide +kernel) (by decide +kernel)
set_option maxRecDepth 20000 in
theorem gL_law_X3_people : GoodIn wsL_law (wsV RL 132 RX3 yX3_people wsX3_people) := goodIn_app (goodIn_of _ (by decide +kernel)) ggL_law_X3_people
set_option maxRecDepth 20000 in
theorem ggL_law_X3_workingDays : GoodIn wsL_law wsX3_workingDays := goodIn_ca (goodIn_r _ [348, 87, 88, 2, 89, 37, 38, 349, 350, 351, 352, 182, 111, 183] (by decide +kernel) (by decide +kernel)) (goodIn_sub (fun _ h => List.mem_append_left _ (List.mem_append_left _ (List.mem_append_right _ h))) (by decide +kernel))
set_option maxRecDepth 20000 in
theorem gL_law_X3_workingDays : GoodIn wsL_law (wsV RL 139 RX3 yX3_workingDays wsX3_workingDays) := goodIn_app (goodIn_of _ (by decide +kernel)) ggL_law_X3_workingDays
