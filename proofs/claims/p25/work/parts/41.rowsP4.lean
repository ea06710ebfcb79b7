set_option maxRecDepth 20000 in
theorem hh_isSo_0 : GoodIn wsL_law [.code yL_isSo cL_isSo 12 (some .boolean)] := goodIn_r _ [285] (by decide +kernel) (by decide +kernel)
set_option maxRecDepth 20000 in
theorem hh_isSo_1 : GoodIn wsL_law wsL_isSo_r1 := goodIn_r _ [256, 257, 25, 258, 253, 254, 255, 259, 260, 261, 262, 263, 264, 265, 266, 267, 268, 269, 270, 286, 287, 288, 2, 289] (by decide +kernel) (by decide +kernel)
set_option maxRecDepth 20000 in
theorem hh_isSo_2 : GoodIn wsL_law wsL_isSo_r2 := goodIn_r _ [290, 291, 292, 293, 294, 17, 81, 82, 83, 84, 85, 86, 11, 235, 236, 237, 37, 38, 157, 158, 159, 16, 160, 161] (by decide +kernel) (by decide +kernel)
set_option maxRecDepth 20000 in
theorem hh_isSo_3 : GoodIn wsL_law wsL_isSo_r3 := goodIn_r _ [162, 163, 164, 165, 166, 167, 168, 169, 170, 171, 172, 173, 174, 175, 176, 177, 178, 179, 180, 181, 182, 111, 183, 184] (by decide +kernel) (by decide +kernel)
set_option maxRecDepth 20000 in
theorem hh_isSo_4 : GoodIn wsL_law wsL_isSo_r4 := goodIn_r _ [185, 186, 187, 43, 188, 63, 189, 52, 53, 190, 191, 192, 193, 194, 195, 196, 21, 22, 197, 198, 199, 200, 201, 202] (by decide +kernel) (by decide +kernel)
set_option maxRecDepth 20000 in
theorem hh_isSo_5 : GoodIn wsL_law wsL_isSo_r5 := goodIn_r _ [203, 204, 60, 205, 206, 207, 208, 209, 110, 112, 210, 211, 212, 213, 214, 215, 216, 217, 218, 219, 220, 221, 222, 223] (by decide +kernel) (by decide +kernel)
set_option maxRecDepth 20000 in
theorem hh_isSo_6 : GoodIn wsL_law wsL_isSo_r6 := goodIn_r _ [224, 225, 295, 296, 297, 298, 299, 300, 301, 302, 303, 304, 305, 306, 307, 308, 309, 310, 311, 312, 313, 314, 315, 316] (by decide +kernel) (by decide +kernel)
set_option maxRecDepth 20000 in
theorem hh_isSo_7 : GoodIn wsL_law wsL_isSo_r7 := goodIn_r _ [317, 318, 319, 320, 321, 322, 323, 324, 325, 326, 327, 328, 329, 330, 331, 332, 333, 334, 335, 336, 337, 338, 339, 340] (by decide +kernel) (by decide +kernel)
set_option maxRecDepth 20000 in
theorem hh_isSo_8 : GoodIn wsL_law wsL_isSo_r8 := goodIn_r _ [341, 342, 343, 344, 77, 238] (by decide +kernel) (by decide +kernel)
set_option maxRecDepth 20000 in
theorem ggL_law_L_isSo : GoodIn wsL_law wsL_isSo := goodIn_ca (goodIn_ca (goodIn_cons hh_isSo_0 (goodIn_app (goodIn_app (goodIn_app (goodIn_app hh_isSo_1 (goodIn_app hh_isSo_2 (goodIn_app hh_isSo_3 (goodIn_app hh_isSo_4 (goodIn_app hh_isSo_5 (goodIn_app hh_isSo_6 (goodIn_app hh_isSo_7 hh_isSo_8))))))) (goodIn_sub inlX0 (by decide +kernel))) (goodIn_sub inlX3 (by decide +kernel))) (goodIn_sub inlX1 (by decide +kernel)))) (goodIn_sub (fun _ h => List.mem_append_right _ h) (by decide +kernel))) (goodIn_sub (fun _ h => List.mem_append_left _ (List.mem_append_left _ (List.mem_append_right _ h))) (by decide +kernel))
set_option maxRecDepth 20000 in
theorem gL_law_L_isSo : GoodIn wsL_law (va_wsS RL 135 yL_isSo wsL_isSo) := goodIn_app (goodIn_of _ (by decide +kernel)) ggL_law_L_isSo
