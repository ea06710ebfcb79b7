set_option maxRecDepth 20000 in
theorem hh_hoursSet_0 : GoodIn wsL_law [.code yL_hoursSet cL_hoursSet 9 (some .boolean)] := goodIn_r _ [252] (by decide +kernel) (by decide +kernel)
set_option maxRecDepth 20000 in
theorem hh_hoursSet_1 : GoodIn wsL_law wsL_hoursSet_r1 := goodIn_r _ [253, 254, 25, 255, 67, 68, 69, 70, 71, 72, 73, 74, 75, 2, 76, 39, 40, 77, 78, 13, 12, 79, 80, 81] (by decide +kernel) (by decide +kernel)
set_option maxRecDepth 20000 in
theorem hh_hoursSet_2 : GoodIn wsL_law wsL_hoursSet_r2 := goodIn_r _ [82, 83, 84, 85, 86, 11, 87, 88, 89, 37, 38, 90, 91, 92, 93, 8, 9, 94, 95, 96, 97, 98, 99, 100] (by decide +kernel) (by decide +kernel)
set_option maxRecDepth 20000 in
theorem hh_hoursSet_3 : GoodIn wsL_law wsL_hoursSet_r3 := goodIn_r _ [43, 101, 102, 55, 103, 104, 105, 106, 107, 108, 109, 110, 111, 112, 60, 113, 114, 115, 116, 117, 118, 119, 120, 121] (by decide +kernel) (by decide +kernel)
set_option maxRecDepth 20000 in
theorem hh_hoursSet_4 : GoodIn wsL_law wsL_hoursSet_r4 := goodIn_r _ [122, 123, 124, 56, 57, 125, 126, 127, 128, 129, 130, 131, 132, 133, 134, 135, 136, 137, 138, 139, 140, 141, 142, 143] (by decide +kernel) (by decide +kernel)
set_option maxRecDepth 20000 in
theorem hh_hoursSet_5 : GoodIn wsL_law wsL_hoursSet_r5 := goodIn_r _ [144, 145, 146, 147, 148, 149, 150, 151, 152, 153, 154, 155, 156, 17, 44, 157, 158, 159, 16, 160, 161, 162, 163, 164] (by decide +kernel) (by decide +kernel)
set_option maxRecDepth 20000 in
theorem hh_hoursSet_6 : GoodIn wsL_law wsL_hoursSet_r6 := goodIn_r _ [165, 166, 167, 168, 169, 170, 171, 172, 173, 174, 175, 176, 177, 178, 179, 180, 181, 182, 183, 184, 185, 186, 187, 188] (by decide +kernel) (by decide +kernel)
set_option maxRecDepth 20000 in
theorem hh_hoursSet_7 : GoodIn wsL_law wsL_hoursSet_r7 := goodIn_r _ [63, 189, 52, 53, 190, 191, 192, 193, 194, 195, 196, 21, 22, 197, 198, 199, 200, 201, 202, 203, 204, 205, 206, 207] (by decide +kernel) (by decide +kernel)
set_option maxRecDepth 20000 in
theorem hh_hoursSet_8 : GoodIn wsL_law wsL_hoursSet_r8 := goodIn_r _ [208, 209, 210, 211, 212, 213, 214, 215, 216, 217, 218, 219, 220, 221, 222, 223, 224, 225, 226, 227, 228, 229, 230, 58] (by decide +kernel) (by decide +kernel)
set_option maxRecDepth 20000 in
theorem hh_hoursSet_9 : GoodIn wsL_law wsL_hoursSet_r9 := goodIn_r _ [59, 231, 232, 233, 234, 235, 236, 237, 45, 46, 47, 238, 239, 240, 241, 242] (by decide +kernel) (by decide +kernel)
set_option maxRecDepth 20000 in
theorem ggL_law_L_hoursSet : GoodIn wsL_law wsL_hoursSet := goodIn_ca (goodIn_ca (goodIn_ca (goodIn_cons hh_hoursSet_0 (goodIn_app (goodIn_app (goodIn_app (goodIn_app (goodIn_app hh_hoursSet_1 (goodIn_app hh_hoursSet_2 (goodIn_app hh_hoursSet_3 (goodIn_app hh_hoursSet_4 (goodIn_app hh_hoursSet_5 (goodIn_app hh_hoursSet_6 (goodIn_app hh_hoursSet_7 (goodIn_app hh_hoursSet_8 hh_hoursSet_9)))))))) (goodIn_sub inlX1 (by decide +kernel))) (goodIn_sub inlX3 (by decide +kernel))) (goodIn_sub inlX2 (by decide +kernel))) (goodIn_sub inlX0 (by decide +kernel)))) (goodIn_sub (fun _ h => List.mem_append_left _ (List.mem_append_right _ h)) (by decide +kernel))) (goodIn_sub (fun _ h => List.mem_append_right _ h) (by decide +kernel))) (goodIn_sub (fun _ h => List.mem_append_left _ (List.mem_append_left _ (List.mem_append_right _ h))) (by decide +kernel))
set_option maxRecDepth 20000 in
theorem gL_law_L_hoursSet : GoodIn wsL_law (va_wsS RL 121 yL_hoursSet wsL_hoursSet) := goodIn_app (goodIn_of _ (by decide +kernel)) ggL_law_L_hoursSet
