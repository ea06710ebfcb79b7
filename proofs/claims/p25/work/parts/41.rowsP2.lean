set_option maxRecDepth 20000 in
theorem hh_enters_0 : GoodIn wsL_law [.code yL_enters cL_enters 13 (some .boolean)] := goodIn_r _ [66] (by decide +kernel) (by decide +kernel)
set_option maxRecDepth 20000 in
theorem hh_enters_1 : GoodIn wsL_law wsL_enters_r1 := goodIn_r _ [29, 30, 25, 31, 32, 67, 68, 69, 70, 71, 72, 73, 74, 75, 2, 76, 39, 40, 77, 78, 13, 12, 79, 80] (by decide +kernel) (by decide +kernel)
set_option maxRecDepth 20000 in
theorem hh_enters_2 : GoodIn wsL_law wsL_enters_r2 := goodIn_r _ [81, 82, 83, 84, 85, 86, 11, 87, 88, 89, 37, 38, 90, 91, 92, 93, 8, 9, 94, 95, 96, 97, 98, 99] (by decide +kernel) (by decide +kernel)
set_option maxRecDepth 20000 in
theorem hh_enters_3 : GoodIn wsL_law wsL_enters_r3 := goodIn_r _ [100, 43, 101, 102, 55, 103, 104, 105, 106, 107, 108, 109, 110, 111, 112, 60, 113, 114, 115, 116, 117, 118, 119, 120] (by decide +kernel) (by decide +kernel)
set_option maxRecDepth 20000 in
theorem hh_enters_4 : GoodIn wsL_law wsL_enters_r4 := goodIn_r _ [121, 122, 123, 124, 56, 57, 125, 126, 127, 128, 129, 130, 131, 132, 133, 134, 135, 136, 137, 138, 139, 140, 141, 142] (by decide +kernel) (by decide +kernel)
set_option maxRecDepth 20000 in
theorem hh_enters_5 : GoodIn wsL_law wsL_enters_r5 := goodIn_r _ [143, 144, 145, 146, 147, 148, 149, 150, 151, 152, 153, 154, 155, 156, 17, 44, 157, 158, 159, 16, 160, 161, 162, 163] (by decide +kernel) (by decide +kernel)
set_option maxRecDepth 20000 in
theorem hh_enters_6 : GoodIn wsL_law wsL_enters_r6 := goodIn_r _ [164, 165, 166, 167, 168, 169, 170, 171, 172, 173, 174, 175, 176, 177, 178, 179, 180, 181, 182, 183, 184, 185, 186, 187] (by decide +kernel) (by decide +kernel)
set_option maxRecDepth 20000 in
theorem hh_enters_7 : GoodIn wsL_law wsL_enters_r7 := goodIn_r _ [188, 63, 189, 52, 53, 190, 191, 192, 193, 194, 195, 196, 21, 22, 197, 198, 199, 200, 201, 202, 203, 204, 205, 206] (by decide +kernel) (by decide +kernel)
set_option maxRecDepth 20000 in
theorem hh_enters_8 : GoodIn wsL_law wsL_enters_r8 := goodIn_r _ [207, 208, 209, 210, 211, 212, 213, 214, 215, 216, 217, 218, 219, 220, 221, 222, 223, 224, 225, 226, 227, 228, 229, 230] (by decide +kernel) (by decide +kernel)
set_option maxRecDepth 20000 in
theorem hh_enters_9 : GoodIn wsL_law wsL_enters_r9 := goodIn_r _ [58, 59, 231, 232, 233, 234, 235, 236, 237, 45, 46, 47, 238, 239, 240, 241, 242, 243, 244, 245, 246, 247, 248, 249] (by decide +kernel) (by decide +kernel)
set_option maxRecDepth 20000 in
theorem ggL_law_L_enters : GoodIn wsL_law wsL_enters := goodIn_ca (goodIn_ca (goodIn_ca (goodIn_cons hh_enters_0 (goodIn_app (goodIn_app (goodIn_app (goodIn_app (goodIn_app hh_enters_1 (goodIn_app hh_enters_2 (goodIn_app hh_enters_3 (goodIn_app hh_enters_4 (goodIn_app hh_enters_5 (goodIn_app hh_enters_6 (goodIn_app hh_enters_7 (goodIn_app hh_enters_8 hh_enters_9)))))))) (goodIn_sub inlX1 (by decide +kernel))) (goodIn_sub inlX3 (by decide +kernel))) (goodIn_sub inlX2 (by decide +kernel))) (goodIn_sub inlX0 (by decide +kernel)))) (goodIn_sub (fun _ h => List.mem_append_left _ (List.mem_append_right _ h)) (by decide +kernel))) (goodIn_sub (fun _ h => List.mem_append_right _ h) (by decide +kernel))) (goodIn_sub (fun _ h => List.mem_append_left _ (List.mem_append_left _ (List.mem_append_right _ h))) (by decide +kernel))
set_option maxRecDepth 20000 in
theorem gL_law_L_enters : GoodIn wsL_law (va_wsS RL 117 yL_enters wsL_enters) := goodIn_app (goodIn_of _ (by decide +kernel)) ggL_law_L_enters
