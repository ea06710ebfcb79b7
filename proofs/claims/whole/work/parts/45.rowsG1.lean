set_option maxRecDepth 20000 in
theorem ggL_law_X3_init : GoodIn wsL_law wsX3_init := goodIn_r _ [9, 10, 11, 12, 13, 14, 15, 16, 17, 18, 19, 20, 21, 22, 23, 24, 25, 26, 564, 565, 566, 567, 568, 569, 570, 571, 602, 603, 604, 605, 606, 607, 608, 609, 610, 611, 612] (by decide +kernel) (by decide +kernel)
set_option maxRecDepth 20000 in
theorem gL_law_X3_init : GoodIn wsL_law (wsX3_init) := ggL_law_X3_init
set_option maxRecDepth 20000 in
theorem ggL_law_X4_init : GoodIn wsL_law wsX4_init := goodIn_r _ [29, 30, 11, 12, 24, 31, 32, 33, 34, 35, 36, 37, 38, 39, 40, 41, 42, 43, 44, 45, 46, 47, 48, 49, 572, 573, 574, 575, 576, 577, 578, 579, 580, 581, 582, 583, 584, 585, 586, 587, 588, 589, 590, 591, 592, 593, 594, 595, 596, 597, 598, 599, 600, 601] (by decide +kernel) (by decide +kernel)
set_option maxRecDepth 20000 in
theorem gL_law_X4_init : GoodIn wsL_law (wsX4_init) := ggL_law_X4_init
set_option maxRecDepth 20000 in
theorem ggL_law_L_addPerson : GoodIn wsL_law wsL_addPerson := goodIn_ca (goodIn_ca (goodIn_r _ [53, 54, 55, 56, 57, 58, 2, 59, 60, 61, 62, 63, 64, 14, 13, 65, 66, 67, 68, 69, 70, 71, 72, 73, 74, 11, 12, 24, 75, 76, 77, 78, 79, 80, 81, 82, 83, 84, 85, 86, 564, 565, 566, 567, 568, 569, 570, 571, 613, 614, 615, 616, 617, 618, 619, 620, 621, 622, 623, 624, 625, 626, 627] (by decide +kernel) (by decide +kernel)) (goodIn_sub (fun _ h => List.mem_append_left _ (List.mem_append_left _ (List.mem_append_right _ h))) (by decide +kernel))) (goodIn_sub (fun _ h => List.mem_append_left _ (List.mem_append_right _ h)) (by decide +kernel))
set_option maxRecDepth 20000 in
theorem gL_law_L_addPerson : GoodIn wsL_law (va_wsS RL 84 yL_addPerson wsL_addPerson) := goodIn_app (goodIn_of _ (by decide +kernel)) ggL_law_L_addPerson
set_option maxRecDepth 20000 in
theorem ggL_law_X4_addPerson : GoodIn wsL_law wsX4_addPerson := goodIn_r _ [90, 91, 92, 31, 93, 32, 33, 94, 95, 5, 96, 97, 98, 99, 100, 572, 573, 574, 575, 576, 577, 578, 579, 580, 581, 582, 583, 584, 585, 586, 587, 588, 589, 590, 591, 592, 593, 594, 595, 596, 597, 598, 599, 600, 601] (by decide +kernel) (by decide +kernel)
set_option maxRecDepth 20000 in
theorem gL_law_X4_addPerson : GoodIn wsL_law (wsV RL 89 RX4 yX4_addPerson wsX4_addPerson) := goodIn_app (goodIn_of _ (by decide +kernel)) ggL_law_X4_addPerson
set_option maxRecDepth 20000 in
theorem ggL_law_X4_thrown : GoodIn wsL_law wsX4_thrown := goodIn_r _ [104, 91, 572, 573, 574, 575, 576, 577, 578, 579, 580, 581, 582, 583, 584, 585, 586, 587, 588, 589, 590, 591, 592, 593, 594, 595, 596, 597, 598, 599, 600, 601] (by decide +kernel) (by decide +kernel)
set_option maxRecDepth 20000 in
theorem gL_law_X4_thrown : GoodIn wsL_law (wsV RL 90 RX4 yX4_thrown wsX4_thrown) := goodIn_app (goodIn_of _ (by decide +kernel)) ggL_law_X4_thrown
set_option maxRecDepth 20000 in
theorem ggL_law_L_setHours : GoodIn wsL_law wsL_setHours := goodIn_ca (goodIn_ca (goodIn_ca (goodIn_r _ [107, 108, 54, 55, 109, 110, 111, 2, 112, 62, 63, 113, 114, 115, 116, 117, 118, 119, 14, 120, 121, 122, 60, 61, 68, 69, 70, 123, 124, 125, 66, 126, 86, 127, 75, 76, 128, 129, 130, 131, 132, 133, 134, 135, 613, 614, 615, 616, 617, 618, 619, 620, 621, 622, 623, 624, 625, 626, 627, 564, 565, 566, 567, 568, 569, 570, 571] (by decide +kernel) (by decide +kernel)) (goodIn_sub (fun _ h => List.mem_append_left _ (List.mem_append_right _ h)) (by decide +kernel))) (goodIn_sub (fun _ h => List.mem_append_right _ h) (by decide +kernel))) (goodIn_sub (fun _ h => List.mem_append_left _ (List.mem_append_left _ (List.mem_append_right _ h))) (by decide +kernel))
set_option maxRecDepth 20000 in
theorem gL_law_L_setHours : GoodIn wsL_law (va_wsS RL 94 yL_setHours wsL_setHours) := goodIn_app (goodIn_of _ (by decide +kernel)) ggL_law_L_setHours
set_option maxRecDepth 20000 in
theorem ggL_law_X4_setHours : GoodIn wsL_law wsX4_setHours := goodIn_r _ [139, 91, 31, 34, 35, 36, 140, 141, 142, 5, 143, 92, 94, 95, 96, 97, 98, 99, 100, 144, 145, 146, 147, 33, 572, 573, 574, 575, 576, 577, 578, 579, 580, 581, 582, 583, 584, 585, 586, 587, 588, 589, 590, 591, 592, 593, 594, 595, 596, 597, 598, 599, 600, 601] (by decide +kernel) (by decide +kernel)
set_option maxRecDepth 20000 in
theorem gL_law_X4_setHours : GoodIn wsL_law (wsV RL 97 RX4 yX4_setHours wsX4_setHours) := goodIn_app (goodIn_of _ (by decide +kernel)) ggL_law_X4_setHours
set_option maxRecDepth 20000 in
theorem ggL_law_L_request : GoodIn wsL_law wsL_request := goodIn_ca (goodIn_ca (goodIn_ca (goodIn_r _ [150, 108, 54, 55, 151, 152, 153, 2, 154, 62, 63, 113, 155, 16, 15, 156, 157, 114, 115, 116, 117, 118, 119, 14, 158, 159, 160, 60, 61, 161, 162, 163, 164, 11, 12, 165, 166, 167, 168, 169, 170, 171, 66, 172, 173, 78, 174, 175, 176, 177, 178, 179, 132, 133, 134, 135, 83, 180, 181, 182, 183, 184, 185, 186, 187, 188, 189, 190, 191, 79, 80, 192, 193, 194, 195, 196, 613, 614, 615, 616, 617, 618, 619, 620, 621, 622, 623, 624, 625, 626, 627, 564, 565, 566, 567, 568, 569, 570, 571, 628, 629, 630, 631, 632] (by decide +kernel) (by decide +kernel)) (goodIn_sub (fun _ h => List.mem_append_left _ (List.mem_append_right _ h)) (by decide +kernel))) (goodIn_sub (fun _ h => List.mem_append_right _ h) (by decide +kernel))) (goodIn_sub (fun _ h => List.mem_append_left _ (List.mem_append_left _ (List.mem_append_right _ h))) (by decide +kernel))
set_option maxRecDepth 20000 in
theorem gL_law_L_request : GoodIn wsL_law (va_wsS RL 98 yL_request wsL_request) := goodIn_app (goodIn_of _ (by decide +kernel)) ggL_law_L_request
set_option maxRecDepth 20000 in
theorem ggL_law_X4_request : GoodIn wsL_law wsX4_request := goodIn_r _ [200, 91, 201, 37, 38, 39, 41, 42, 140, 141, 142, 5, 143, 92, 94, 95, 96, 97, 98, 99, 100, 202, 203, 204, 205, 31, 572, 573, 574, 575, 576, 577, 578, 579, 580, 581, 582, 583, 584, 585, 586, 587, 588, 589, 590, 591, 592, 593, 594, 595, 596, 597, 598, 599, 600, 601] (by decide +kernel) (by decide +kernel)
set_option maxRecDepth 20000 in
theorem gL_law_X4_request : GoodIn wsL_law (wsV RL 101 RX4 yX4_request wsX4_request) := goodIn_app (goodIn_of _ (by decide +kernel)) ggL_law_X4_request
set_option maxRecDepth 20000 in
theorem ggL_law_L_change : GoodIn wsL_law wsL_change := goodIn_ca (goodIn_ca (goodIn_ca (goodIn_r _ [208, 108, 54, 55, 209, 210, 211, 2, 212, 62, 63, 213, 113, 214, 215, 216, 217, 218, 219, 220, 118, 119, 16, 158, 159, 160, 60, 61, 221, 177, 178, 66, 179, 132, 133, 134, 135, 83, 180, 181, 182, 183, 173, 78, 184, 185, 186, 187, 188, 189, 190, 191, 79, 80, 192, 193, 194, 157, 195, 196, 167, 168, 628, 629, 630, 631, 632, 613, 614, 615, 616, 617, 618, 619, 620, 621, 622, 623, 624, 625, 626, 627, 564, 565, 566, 567, 568, 569, 570, 571] (by decide +kernel) (by decide +kernel)) (goodIn_sub (fun _ h => List.mem_append_left _ (List.mem_append_right _ h)) (by decide +kernel))) (goodIn_sub (fun _ h => List.mem_append_right _ h) (by decide +kernel))) (goodIn_sub (fun _ h => List.mem_append_left _ (List.mem_append_left _ (List.mem_append_right _ h))) (by decide +kernel))
set_option maxRecDepth 20000 in
theorem gL_law_L_change : GoodIn wsL_law (va_wsS RL 102 yL_change wsL_change) := goodIn_app (goodIn_of _ (by decide +kernel)) ggL_law_L_change
set_option maxRecDepth 20000 in
theorem ggL_law_X4_change : GoodIn wsL_law wsX4_change := goodIn_r _ [225, 91, 201, 37, 42, 39, 38, 94, 95, 5, 96, 97, 98, 99, 100, 202, 203, 204, 205, 31, 572, 573, 574, 575, 576, 577, 578, 579, 580, 581, 582, 583, 584, 585, 586, 587, 588, 589, 590, 591, 592, 593, 594, 595, 596, 597, 598, 599, 600, 601] (by decide +kernel) (by decide +kernel)
set_option maxRecDepth 20000 in
theorem gL_law_X4_change : GoodIn wsL_law (wsV RL 104 RX4 yX4_change wsX4_change) := goodIn_app (goodIn_of _ (by decide +kernel)) ggL_law_X4_change
set_option maxRecDepth 20000 in
theorem ggL_law_L_cancel : GoodIn wsL_law wsL_cancel := goodIn_ca (goodIn_ca (goodIn_r _ [228, 108, 55, 229, 230, 231, 2, 232, 62, 63, 214, 213, 215, 216, 217, 218, 219, 220, 118, 119, 16, 221, 177, 178, 66, 179, 132, 133, 134, 135, 83, 180, 181, 182, 183, 173, 78, 184, 185, 186, 187, 188, 189, 190, 191, 79, 80, 192, 193, 194, 157, 195, 196, 167, 168, 628, 629, 630, 631, 632, 564, 565, 566, 567, 568, 569, 570, 571, 613, 614, 615, 616, 617, 618, 619, 620, 621, 622, 623, 624, 625, 626, 627] (by decide +kernel) (by decide +kernel)) (goodIn_sub (fun _ h => List.mem_append_left _ (List.mem_append_right _ h)) (by decide +kernel))) (goodIn_sub (fun _ h => List.mem_append_right _ h) (by decide +kernel))
set_option maxRecDepth 20000 in
theorem gL_law_L_cancel : GoodIn wsL_law (va_wsS RL 105 yL_cancel wsL_cancel) := goodIn_app (goodIn_of _ (by decide +kernel)) ggL_law_L_cancel
set_option maxRecDepth 20000 in
theorem ggL_law_X4_cancel : GoodIn wsL_law wsX4_cancel := goodIn_r _ [236, 201, 42, 91, 94, 95, 5, 96, 572, 573, 574, 575, 576, 577, 578, 579, 580, 581, 582, 583, 584, 585, 586, 587, 588, 589, 590, 591, 592, 593, 594, 595, 596, 597, 598, 599, 600, 601] (by decide +kernel) (by decide +kernel)
set_option maxRecDepth 20000 in
theorem gL_law_X4_cancel : GoodIn wsL_law (wsV RL 108 RX4 yX4_cancel wsX4_cancel) := goodIn_app (goodIn_of _ (by decide +kernel)) ggL_law_X4_cancel
set_option maxRecDepth 20000 in
theorem ggL_law_L_sick : GoodIn wsL_law wsL_sick := goodIn_ca (goodIn_ca (goodIn_ca (goodIn_r _ [239, 108, 54, 55, 240, 241, 242, 2, 243, 62, 63, 113, 244, 114, 115, 116, 117, 118, 119, 14, 158, 159, 160, 60, 61, 245, 246, 247, 66, 248, 191, 79, 80, 176, 177, 178, 179, 132, 133, 134, 135, 83, 180, 181, 182, 183, 173, 78, 184, 185, 186, 187, 188, 189, 190, 192, 193, 194, 157, 195, 196, 167, 168, 613, 614, 615, 616, 617, 618, 619, 620, 621, 622, 623, 624, 625, 626, 627, 564, 565, 566, 567, 568, 569, 570, 571, 628, 629, 630, 631, 632] (by decide +kernel) (by decide +kernel)) (goodIn_sub (fun _ h => List.mem_append_left _ (List.mem_append_right _ h)) (by decide +kernel))) (goodIn_sub (fun _ h => List.mem_append_right _ h) (by decide +kernel))) (goodIn_sub (fun _ h => List.mem_append_left _ (List.mem_append_left _ (List.mem_append_right _ h))) (by decide +kernel))
set_option maxRecDepth 20000 in
theorem gL_law_L_sick : GoodIn wsL_law (va_wsS RL 109 yL_sick wsL_sick) := goodIn_app (goodIn_of _ (by decide +kernel)) ggL_law_L_sick
set_option maxRecDepth 20000 in
theorem ggL_law_X4_sick : GoodIn wsL_law wsX4_sick := goodIn_r _ [252, 91, 253, 43, 44, 45, 140, 141, 142, 5, 143, 92, 94, 95, 96, 97, 98, 99, 100, 202, 203, 204, 205, 31, 572, 573, 574, 575, 576, 577, 578, 579, 580, 581, 582, 583, 584, 585, 586, 587, 588, 589, 590, 591, 592, 593, 594, 595, 596, 597, 598, 599, 600, 601] (by decide +kernel) (by decide +kernel)
set_option maxRecDepth 20000 in
theorem gL_law_X4_sick : GoodIn wsL_law (wsV RL 111 RX4 yX4_sick wsX4_sick) := goodIn_app (goodIn_of _ (by decide +kernel)) ggL_law_X4_sick
set_option maxRecDepth 20000 in
theorem ggL_law_L_payOut : GoodIn wsL_law wsL_payOut := goodIn_ca (goodIn_ca (goodIn_ca (goodIn_r _ [256, 108, 54, 55, 257, 258, 259, 2, 260, 60, 61, 62, 63, 261, 20, 67, 114, 115, 116, 117, 118, 119, 14, 262, 263, 264, 19, 265, 266, 267, 268, 269, 270, 271, 272, 273, 274, 275, 276, 277, 278, 279, 280, 281, 282, 283, 284, 285, 286, 287, 134, 288, 289, 290, 124, 125, 66, 126, 86, 127, 75, 76, 291, 292, 293, 294, 295, 296, 297, 25, 26, 298, 299, 300, 301, 302, 303, 304, 305, 83, 306, 307, 308, 309, 310, 133, 135, 311, 312, 313, 314, 315, 316, 317, 318, 319, 320, 321, 322, 323, 324, 325, 326, 327, 328, 329, 330, 331, 81, 82, 564, 565, 566, 567, 568, 569, 570, 571, 613, 614, 615, 616, 617, 618, 619, 620, 621, 622, 623, 624, 625, 626, 627, 602, 603, 604, 605, 606, 607, 608, 609, 610, 611, 612] (by decide +kernel) (by decide +kernel)) (goodIn_sub (fun _ h => List.mem_append_left _ (List.mem_append_left _ (List.mem_append_right _ h))) (by decide +kernel))) (goodIn_sub (fun _ h => List.mem_append_left _ (List.mem_append_right _ h)) (by decide +kernel))) (goodIn_sub (fun _ h => List.mem_append_right _ h) (by decide +kernel))
set_option maxRecDepth 20000 in
theorem gL_law_L_payOut : GoodIn wsL_law (va_wsS RL 112 yL_payOut wsL_payOut) := goodIn_app (goodIn_of _ (by decide +kernel)) ggL_law_L_payOut
set_option maxRecDepth 20000 in
theorem ggL_law_X4_payOut : GoodIn wsL_law wsX4_payOut := goodIn_r _ [335, 91, 93, 336, 46, 47, 48, 140, 141, 142, 5, 143, 92, 94, 95, 96, 97, 98, 99, 100, 337, 338, 339, 340, 49, 341, 342, 343, 344, 345, 346, 31, 347, 348, 349, 350, 351, 352, 353, 354, 32, 144, 145, 146, 147, 33, 34, 35, 36, 355, 356, 357, 358, 359, 360, 361, 362, 201, 37, 42, 38, 39, 41, 363, 364, 365, 366, 367, 368, 369, 253, 43, 44, 45, 370, 371, 372, 373, 374, 375, 376, 377, 572, 573, 574, 575, 576, 577, 578, 579, 580, 581, 582, 583, 584, 585, 586, 587, 588, 589, 590, 591, 592, 593, 594, 595, 596, 597, 598, 599, 600, 601] (by decide +kernel) (by decide +kernel)
set_option maxRecDepth 20000 in
theorem gL_law_X4_payOut : GoodIn wsL_law (wsV RL 114 RX4 yX4_payOut wsX4_payOut) := goodIn_app (goodIn_of _ (by decide +kernel)) ggL_law_X4_payOut
set_option maxRecDepth 20000 in
theorem ggL_law_L_pass : GoodIn wsL_law wsL_pass := goodIn_ca (goodIn_ca (goodIn_r _ [380, 54, 55, 381, 382, 383, 2, 384, 60, 61, 62, 63, 67, 564, 565, 566, 567, 568, 569, 570, 571] (by decide +kernel) (by decide +kernel)) (goodIn_sub (fun _ h => List.mem_append_left _ (List.mem_append_left _ (List.mem_append_right _ h))) (by decide +kernel))) (goodIn_sub (fun _ h => List.mem_append_left _ (List.mem_append_right _ h)) (by decide +kernel))
set_option maxRecDepth 20000 in
theorem gL_law_L_pass : GoodIn wsL_law (va_wsS RL 115 yL_pass wsL_pass) := goodIn_app (goodIn_of _ (by decide +kernel)) ggL_law_L_pass
set_option maxRecDepth 20000 in
theorem ggL_law_X4_pass : GoodIn wsL_law wsX4_pass := goodIn_r _ [388, 91, 93, 94, 95, 5, 96, 97, 98, 99, 100, 572, 573, 574, 575, 576, 577, 578, 579, 580, 581, 582, 583, 584, 585, 586, 587, 588, 589, 590, 591, 592, 593, 594, 595, 596, 597, 598, 599, 600, 601] (by decide +kernel) (by decide +kernel)
set_option maxRecDepth 20000 in
theorem gL_law_X4_pass : GoodIn wsL_law (wsV RL 118 RX4 yX4_pass wsX4_pass) := goodIn_app (goodIn_of _ (by decide +kernel)) ggL_law_X4_pass
set_option maxRecDepth 20000 in
theorem ggL_law_X3_today : GoodIn wsL_law wsX3_today := goodIn_r _ [392, 67, 564, 565, 566, 567, 568, 569, 570, 571] (by decide +kernel) (by decide +kernel)
set_option maxRecDepth 20000 in
theorem gL_law_X3_today : GoodIn wsL_law (wsV RL 119 RX3 yX3_today wsX3_today) := goodIn_app (goodIn_of _ (by decide +kernel)) ggL_law_X3_today
set_option maxRecDepth 20000 in
theorem ggL_law_X4_today : GoodIn wsL_law wsX4_today := goodIn_r _ [396, 91, 93, 572, 573, 574, 575, 576, 577, 578, 579, 580, 581, 582, 583, 584, 585, 586, 587, 588, 589, 590, 591, 592, 593, 594, 595, 596, 597, 598, 599, 600, 601] (by decide +kernel) (by decide +kernel)
set_option maxRecDepth 20000 in
theorem gL_law_X4_today : GoodIn wsL_law (wsV RL 122 RX4 yX4_today wsX4_today) := goodIn_app (goodIn_of _ (by decide +kernel)) ggL_law_X4_today
set_option maxRecDepth 20000 in
theorem ggL_law_X3_people : GoodIn wsL_law wsX3_people := goodIn_r _ [400, 64, 564, 565, 566, 567, 568, 569, 570, 571] (by decide +kernel) (by decide +kernel)
set_option maxRecDepth 20000 in
theorem gL_law_X3_people : GoodIn wsL_law (wsV RL 123 RX3 yX3_people wsX3_people) := goodIn_app (goodIn_of _ (by decide +kernel)) ggL_law_X3_people
set_option maxRecDepth 20000 in
theorem ggL_law_X4_people : GoodIn wsL_law wsX4_people := goodIn_r _ [404, 91, 92, 572, 573, 574, 575, 576, 577, 578, 579, 580, 581, 582, 583, 584, 585, 586, 587, 588, 589, 590, 591, 592, 593, 594, 595, 596, 597, 598, 599, 600, 601] (by decide +kernel) (by decide +kernel)
set_option maxRecDepth 20000 in
theorem gL_law_X4_people : GoodIn wsL_law (wsV RL 126 RX4 yX4_people wsX4_people) := goodIn_app (goodIn_of _ (by decide +kernel)) ggL_law_X4_people
set_option maxRecDepth 20000 in
theorem ggL_law_L_workingDays : GoodIn wsL_law wsL_workingDays := goodIn_ca (goodIn_r _ [407, 54, 408, 409, 410, 2, 411, 158, 159, 160, 60, 61, 412, 413, 414, 415, 287, 134, 288] (by decide +kernel) (by decide +kernel)) (goodIn_sub (fun _ h => List.mem_append_left _ (List.mem_append_left _ (List.mem_append_right _ h))) (by decide +kernel))
set_option maxRecDepth 20000 in
theorem gL_law_L_workingDays : GoodIn wsL_law (va_wsS RL 127 yL_workingDays wsL_workingDays) := goodIn_app (goodIn_of _ (by decide +kernel)) ggL_law_L_workingDays
