set_option maxRecDepth 20000 in
theorem hh_calls_0 : GoodIn wsL_law [.codeWith yL_calls cL_calls 7 (some .int) [(0, 71, 72, 30), (0, 71, 77, 32), (0, 71, 82, 34)]] := goodIn_r _ [69] (by decide +kernel) (by decide +kernel)
set_option maxRecDepth 20000 in
theorem hh_calls_1 : GoodIn wsL_law wsL_calls_r1 := goodIn_r _ [70, 71, 72, 73, 74, 75, 2, 76, 39, 40, 77, 78, 13, 12, 79, 80, 81, 82, 83, 84, 85, 86, 11, 87] (by decide +kernel) (by decide +kernel)
set_option maxRecDepth 20000 in
theorem hh_calls_2 : GoodIn wsL_law wsL_calls_r2 := goodIn_r _ [88, 89, 37, 38, 90, 91, 92, 93, 8, 9, 94, 95, 96, 97, 98, 99, 100, 43, 101, 102, 55, 103, 104, 105] (by decide +kernel) (by decide +kernel)
set_option maxRecDepth 20000 in
theorem hh_calls_3 : GoodIn wsL_law wsL_calls_r3 := goodIn_r _ [106, 107, 108, 109, 110, 111, 112, 60, 113, 114, 115, 116, 117, 118, 119, 120, 121, 122, 123, 124, 56, 57, 125, 126] (by decide +kernel) (by decide +kernel)
set_option maxRecDepth 20000 in
theorem hh_calls_4 : GoodIn wsL_law wsL_calls_r4 := goodIn_r _ [127, 128, 129, 130, 131, 132, 133, 134, 135, 136, 137, 138, 139, 140, 141, 142, 143, 144, 145, 146, 147, 148, 149, 150] (by decide +kernel) (by decide +kernel)
set_option maxRecDepth 20000 in
theorem hh_calls_5 : GoodIn wsL_law wsL_calls_r5 := goodIn_r _ [151, 152, 153, 154, 155, 156, 17, 44, 157, 158, 159, 16, 160, 161, 162, 163, 164, 165, 166, 167, 168, 169, 170, 171] (by decide +kernel) (by decide +kernel)
set_option maxRecDepth 20000 in
theorem hh_calls_6 : GoodIn wsL_law wsL_calls_r6 := goodIn_r _ [172, 173, 174, 175, 176, 177, 178, 179, 180, 181, 182, 183, 184, 185, 186, 187, 188, 63, 189, 52, 53, 190, 191, 192] (by decide +kernel) (by decide +kernel)
set_option maxRecDepth 20000 in
theorem hh_calls_7 : GoodIn wsL_law wsL_calls_r7 := goodIn_r _ [193, 194, 195, 196, 21, 22, 197, 198, 199, 200, 201, 202, 203, 204, 205, 206, 207, 208, 209, 210, 211, 212, 213, 214] (by decide +kernel) (by decide +kernel)
set_option maxRecDepth 20000 in
theorem hh_calls_8 : GoodIn wsL_law wsL_calls_r8 := goodIn_r _ [215, 216, 217, 218, 219, 220, 221, 222, 223, 224, 225, 226, 227, 228, 229, 230, 58, 59, 231, 232, 233, 234, 235, 236] (by decide +kernel) (by decide +kernel)
set_option maxRecDepth 20000 in
theorem hh_calls_9 : GoodIn wsL_law wsL_calls_r9 := goodIn_r _ [237, 45, 46, 47, 238, 239, 240, 241, 242] (by decide +kernel) (by decide +kernel)
set_option maxRecDepth 20000 in
theorem ggL_law_L_calls : GoodIn wsL_law wsL_calls := goodIn_ca (goodIn_ca (goodIn_ca (goodIn_cons hh_calls_0 (goodIn_app (goodIn_app (goodIn_app (goodIn_app (goodIn_app hh_calls_1 (goodIn_app hh_calls_2 (goodIn_app hh_calls_3 (goodIn_app hh_calls_4 (goodIn_app hh_calls_5 (goodIn_app hh_calls_6 (goodIn_app hh_calls_7 (goodIn_app hh_calls_8 hh_calls_9)))))))) (goodIn_sub inlX1 (by decide +kernel))) (goodIn_sub inlX3 (by decide +kernel))) (goodIn_sub inlX2 (by decide +kernel))) (goodIn_sub inlX0 (by decide +kernel)))) (goodIn_sub (fun _ h => List.mem_append_left _ (List.mem_append_right _ h)) (by decide +kernel))) (goodIn_sub (fun _ h => List.mem_append_right _ h) (by decide +kernel))) (goodIn_sub (fun _ h => List.mem_append_left _ (List.mem_append_left _ (List.mem_append_right _ h))) (by decide +kernel))
set_option maxRecDepth 20000 in
theorem gL_law_L_calls : GoodIn wsL_law (va_wsS RL 98 yL_calls wsL_calls) := goodIn_app (goodIn_of _ (by decide +kernel)) ggL_law_L_calls
