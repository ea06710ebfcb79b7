set_option maxRecDepth 20000 in
theorem ggL_addPerson_X3_addPerson : GoodIn wsL_addPerson wsX3_addPerson := goodIn_ca (goodIn_ca (goodIn_r _ [7, 8, 9, 10, 11, 12, 13, 14, 15, 16, 17, 18, 19, 6, 20, 21, 22, 23, 24, 25, 26, 27, 28, 29, 30, 31, 32, 33, 34, 35, 36, 37, 38, 39, 40, 41, 42, 43, 44, 45, 46, 47, 48, 49, 50, 51, 52, 53, 54, 55, 56, 57, 58, 59, 60, 61, 62] (by decide +kernel) (by decide +kernel)) (goodIn_sub (fun _ h => List.mem_cons_of_mem _ (List.mem_append_left _ (List.mem_append_right _ h))) (by decide +kernel))) (goodIn_sub (fun _ h => List.mem_cons_of_mem _ (List.mem_append_right _ h)) (by decide +kernel))
set_option maxRecDepth 20000 in
theorem gL_addPerson_X3_addPerson : GoodIn wsL_addPerson (wsV RL 7 RX3 yX3_addPerson wsX3_addPerson) := goodIn_app (goodIn_of _ (by decide +kernel)) ggL_addPerson_X3_addPerson
theorem dL_addPerson_0 : decode cL_addPerson 0 = .ok (.aload_n 3, 1) := by decide +kernel
theorem dL_addPerson_1 : decode cL_addPerson 1 = .ok (.iconst 0, 1) := by decide +kernel
theorem dL_addPerson_2 : decode cL_addPerson 2 = .ok (.aload_n 0, 1) := by decide +kernel
theorem dL_addPerson_3 : decode cL_addPerson 3 = .ok (.iload_n 1, 1) := by decide +kernel
theorem dL_addPerson_4 : decode cL_addPerson 4 = .ok (.iload_n 2, 1) := by decide +kernel
theorem dL_addPerson_5 : decode cL_addPerson 5 = .ok (.invokevirtual 7, 3) := by decide +kernel
theorem dL_addPerson_8 : decode cL_addPerson 8 = .ok (.i2l, 1) := by decide +kernel
theorem dL_addPerson_9 : decode cL_addPerson 9 = .ok (.lastore, 1) := by decide +kernel
theorem dL_addPerson_10 : decode cL_addPerson 10 = .ok (.goto 11, 3) := by decide +kernel
theorem dL_addPerson_13 : decode cL_addPerson 13 = .ok (.astore 4, 2) := by decide +kernel
theorem dL_addPerson_15 : decode cL_addPerson 15 = .ok (.iconst 1, 1) := by decide +kernel
theorem dL_addPerson_16 : decode cL_addPerson 16 = .ok (.ireturn, 1) := by decide +kernel
theorem dL_addPerson_17 : decode cL_addPerson 17 = .ok (.astore 4, 2) := by decide +kernel
theorem dL_addPerson_19 : decode cL_addPerson 19 = .ok (.iconst 2, 1) := by decide +kernel
theorem dL_addPerson_20 : decode cL_addPerson 20 = .ok (.ireturn, 1) := by decide +kernel
theorem dL_addPerson_21 : decode cL_addPerson 21 = .ok (.iconst 0, 1) := by decide +kernel
theorem dL_addPerson_22 : decode cL_addPerson 22 = .ok (.ireturn, 1) := by decide +kernel
set_option maxRecDepth 20000 in
theorem ggL_setHours_X3_setHours : GoodIn wsL_setHours wsX3_setHours := goodIn_ca (goodIn_ca (goodIn_ca (goodIn_r _ [8, 9, 10, 11, 12, 13, 14, 7, 15, 16, 17, 18, 19, 20, 21, 22, 23, 24, 25, 26, 27, 28, 29, 30, 31, 32, 33, 34, 35, 36, 37, 38, 39, 40, 41, 42, 43, 44, 45, 46, 47, 48, 49, 50, 51, 52, 53, 54, 55, 56, 57, 58, 59, 60, 61, 62, 63, 64, 65, 66] (by decide +kernel) (by decide +kernel)) (goodIn_sub (fun _ h => List.mem_cons_of_mem _ (List.mem_append_left _ (List.mem_append_left _ (List.mem_append_right _ h)))) (by decide +kernel))) (goodIn_sub (fun _ h => List.mem_cons_of_mem _ (List.mem_append_left _ (List.mem_append_right _ h))) (by decide +kernel))) (goodIn_sub (fun _ h => List.mem_cons_of_mem _ (List.mem_append_right _ h)) (by decide +kernel))
set_option maxRecDepth 20000 in
theorem gL_setHours_X3_setHours : GoodIn wsL_setHours (wsV RL 17 RX3 yX3_setHours wsX3_setHours) := goodIn_app (goodIn_of _ (by decide +kernel)) ggL_setHours_X3_setHours
theorem dL_setHours_0 : decode cL_setHours 0 = .ok (.aload 4, 2) := by decide +kernel
theorem dL_setHours_2 : decode cL_setHours 2 = .ok (.iconst 0, 1) := by decide +kernel
theorem dL_setHours_3 : decode cL_setHours 3 = .ok (.aload_n 0, 1) := by decide +kernel
theorem dL_setHours_4 : decode cL_setHours 4 = .ok (.iload_n 1, 1) := by decide +kernel
theorem dL_setHours_5 : decode cL_setHours 5 = .ok (.iload_n 2, 1) := by decide +kernel
theorem dL_setHours_6 : decode cL_setHours 6 = .ok (.iload_n 3, 1) := by decide +kernel
theorem dL_setHours_7 : decode cL_setHours 7 = .ok (.invokevirtual 17, 3) := by decide +kernel
theorem dL_setHours_10 : decode cL_setHours 10 = .ok (.i2l, 1) := by decide +kernel
theorem dL_setHours_11 : decode cL_setHours 11 = .ok (.lastore, 1) := by decide +kernel
theorem dL_setHours_12 : decode cL_setHours 12 = .ok (.goto 15, 3) := by decide +kernel
theorem dL_setHours_15 : decode cL_setHours 15 = .ok (.astore 5, 2) := by decide +kernel
theorem dL_setHours_17 : decode cL_setHours 17 = .ok (.iconst 1, 1) := by decide +kernel
theorem dL_setHours_18 : decode cL_setHours 18 = .ok (.ireturn, 1) := by decide +kernel
theorem dL_setHours_19 : decode cL_setHours 19 = .ok (.astore 5, 2) := by decide +kernel
theorem dL_setHours_21 : decode cL_setHours 21 = .ok (.iconst 2, 1) := by decide +kernel
theorem dL_setHours_22 : decode cL_setHours 22 = .ok (.ireturn, 1) := by decide +kernel
theorem dL_setHours_23 : decode cL_setHours 23 = .ok (.astore 5, 2) := by decide +kernel
theorem dL_setHours_25 : decode cL_setHours 25 = .ok (.iconst 3, 1) := by decide +kernel
theorem dL_setHours_26 : decode cL_setHours 26 = .ok (.ireturn, 1) := by decide +kernel
theorem dL_setHours_27 : decode cL_setHours 27 = .ok (.iconst 0, 1) := by decide +kernel
theorem dL_setHours_28 : decode cL_setHours 28 = .ok (.ireturn, 1) := by decide +kernel
set_option maxRecDepth 20000 in
theorem ggL_request_X3_request : GoodIn wsL_request wsX3_request := goodIn_ca (goodIn_ca (goodIn_ca (goodIn_r _ [8, 9, 10, 11, 12, 13, 14, 15, 16, 17, 18, 19, 7, 20, 21, 22, 23, 24, 25, 26, 27, 28, 29, 30, 31, 32, 33, 34, 35, 36, 37, 38, 39, 40, 41, 42, 43, 44, 45, 46, 47, 48, 49, 50, 51, 52, 53, 54, 55, 56, 57, 58, 59, 60, 61, 62, 63, 64, 65, 66, 67, 68, 69, 70, 71, 72, 73, 74, 75, 76, 77, 78, 79, 80, 81, 82, 83, 84, 85, 86, 87, 88, 89, 90, 91, 92, 93, 94, 95, 96, 97, 98, 99, 100, 101, 102, 103] (by decide +kernel) (by decide +kernel)) (goodIn_sub (fun _ h => List.mem_cons_of_mem _ (List.mem_append_left _ (List.mem_append_left _ (List.mem_append_right _ h)))) (by decide +kernel))) (goodIn_sub (fun _ h => List.mem_cons_of_mem _ (List.mem_append_left _ (List.mem_append_right _ h))) (by decide +kernel))) (goodIn_sub (fun _ h => List.mem_cons_of_mem _ (List.mem_append_right _ h)) (by decide +kernel))
set_option maxRecDepth 20000 in
theorem gL_request_X3_request : GoodIn wsL_request (wsV RL 23 RX3 yX3_request wsX3_request) := goodIn_app (goodIn_of _ (by decide +kernel)) ggL_request_X3_request
theorem dL_request_0 : decode cL_request 0 = .ok (.aload 5, 2) := by decide +kernel
theorem dL_request_2 : decode cL_request 2 = .ok (.iconst 0, 1) := by decide +kernel
theorem dL_request_3 : decode cL_request 3 = .ok (.aload_n 0, 1) := by decide +kernel
theorem dL_request_4 : decode cL_request 4 = .ok (.iload_n 1, 1) := by decide +kernel
theorem dL_request_5 : decode cL_request 5 = .ok (.iload_n 2, 1) := by decide +kernel
theorem dL_request_6 : decode cL_request 6 = .ok (.iload_n 3, 1) := by decide +kernel
theorem dL_request_7 : decode cL_request 7 = .ok (.iload 4, 2) := by decide +kernel
theorem dL_request_9 : decode cL_request 9 = .ok (.invokevirtual 23, 3) := by decide +kernel
theorem dL_request_12 : decode cL_request 12 = .ok (.i2l, 1) := by decide +kernel
theorem dL_request_13 : decode cL_request 13 = .ok (.lastore, 1) := by decide +kernel
theorem dL_request_14 : decode cL_request 14 = .ok (.goto 15, 3) := by decide +kernel
theorem dL_request_17 : decode cL_request 17 = .ok (.astore 6, 2) := by decide +kernel
theorem dL_request_19 : decode cL_request 19 = .ok (.iconst 1, 1) := by decide +kernel
theorem dL_request_20 : decode cL_request 20 = .ok (.ireturn, 1) := by decide +kernel
theorem dL_request_21 : decode cL_request 21 = .ok (.astore 6, 2) := by decide +kernel
theorem dL_request_23 : decode cL_request 23 = .ok (.iconst 2, 1) := by decide +kernel
theorem dL_request_24 : decode cL_request 24 = .ok (.ireturn, 1) := by decide +kernel
theorem dL_request_25 : decode cL_request 25 = .ok (.astore 6, 2) := by decide +kernel
theorem dL_request_27 : decode cL_request 27 = .ok (.iconst 3, 1) := by decide +kernel
theorem dL_request_28 : decode cL_request 28 = .ok (.ireturn, 1) := by decide +kernel
theorem dL_request_29 : decode cL_request 29 = .ok (.iconst 0, 1) := by decide +kernel
theorem dL_request_30 : decode cL_request 30 = .ok (.ireturn, 1) := by decide +kernel
set_option maxRecDepth 20000 in
theorem ggL_change_X3_change : GoodIn wsL_change wsX3_change := goodIn_ca (goodIn_ca (goodIn_ca (goodIn_r _ [8, 9, 10, 11, 12, 13, 14, 15, 16, 17, 18, 7, 19, 20, 21, 22, 23, 24, 25, 26, 27, 28, 29, 30, 31, 32, 33, 34, 35, 36, 37, 38, 39, 40, 41, 42, 43, 44, 45, 46, 47, 48, 49, 50, 51, 52, 53, 54, 55, 56, 57, 58, 59, 60, 61, 62, 63, 64, 65, 66, 67, 68, 69, 70, 71, 72, 73, 74, 75, 76, 77, 78, 79, 80, 81, 82, 83, 84, 85, 86, 87, 88, 89] (by decide +kernel) (by decide +kernel)) (goodIn_sub (fun _ h => List.mem_cons_of_mem _ (List.mem_append_left _ (List.mem_append_left _ (List.mem_append_right _ h)))) (by decide +kernel))) (goodIn_sub (fun _ h => List.mem_cons_of_mem _ (List.mem_append_left _ (List.mem_append_right _ h))) (by decide +kernel))) (goodIn_sub (fun _ h => List.mem_cons_of_mem _ (List.mem_append_right _ h)) (by decide +kernel))
set_option maxRecDepth 20000 in
theorem gL_change_X3_change : GoodIn wsL_change (wsV RL 27 RX3 yX3_change wsX3_change) := goodIn_app (goodIn_of _ (by decide +kernel)) ggL_change_X3_change
theorem dL_change_0 : decode cL_change 0 = .ok (.aload 4, 2) := by decide +kernel
theorem dL_change_2 : decode cL_change 2 = .ok (.iconst 0, 1) := by decide +kernel
theorem dL_change_3 : decode cL_change 3 = .ok (.aload_n 0, 1) := by decide +kernel
theorem dL_change_4 : decode cL_change 4 = .ok (.iload_n 1, 1) := by decide +kernel
theorem dL_change_5 : decode cL_change 5 = .ok (.iload_n 2, 1) := by decide +kernel
theorem dL_change_6 : decode cL_change 6 = .ok (.iload_n 3, 1) := by decide +kernel
theorem dL_change_7 : decode cL_change 7 = .ok (.invokevirtual 27, 3) := by decide +kernel
theorem dL_change_10 : decode cL_change 10 = .ok (.i2l, 1) := by decide +kernel
theorem dL_change_11 : decode cL_change 11 = .ok (.lastore, 1) := by decide +kernel
theorem dL_change_12 : decode cL_change 12 = .ok (.goto 15, 3) := by decide +kernel
theorem dL_change_15 : decode cL_change 15 = .ok (.astore 5, 2) := by decide +kernel
theorem dL_change_17 : decode cL_change 17 = .ok (.iconst 1, 1) := by decide +kernel
theorem dL_change_18 : decode cL_change 18 = .ok (.ireturn, 1) := by decide +kernel
theorem dL_change_19 : decode cL_change 19 = .ok (.astore 5, 2) := by decide +kernel
theorem dL_change_21 : decode cL_change 21 = .ok (.iconst 2, 1) := by decide +kernel
theorem dL_change_22 : decode cL_change 22 = .ok (.ireturn, 1) := by decide +kernel
theorem dL_change_23 : decode cL_change 23 = .ok (.astore 5, 2) := by decide +kernel
theorem dL_change_25 : decode cL_change 25 = .ok (.iconst 3, 1) := by decide +kernel
theorem dL_change_26 : decode cL_change 26 = .ok (.ireturn, 1) := by decide +kernel
theorem dL_change_27 : decode cL_change 27 = .ok (.iconst 0, 1) := by decide +kernel
theorem dL_change_28 : decode cL_change 28 = .ok (.ireturn, 1) := by decide +kernel
set_option maxRecDepth 20000 in
theorem ggL_cancel_X3_cancel : GoodIn wsL_cancel wsX3_cancel := goodIn_ca (goodIn_ca (goodIn_r _ [7, 8, 9, 10, 11, 12, 13, 14, 15, 16, 6, 17, 18, 19, 20, 21, 22, 23, 24, 25, 26, 27, 28, 29, 30, 31, 32, 33, 34, 35, 36, 37, 38, 39, 40, 41, 42, 43, 44, 45, 46, 47, 48, 49, 50, 51, 52, 53, 54, 55, 56, 57, 58, 59, 60, 61, 62, 63, 64, 65, 66, 67, 68, 69, 70, 71, 72, 73, 74, 75, 76, 77, 78, 79, 80, 81, 82] (by decide +kernel) (by decide +kernel)) (goodIn_sub (fun _ h => List.mem_cons_of_mem _ (List.mem_append_left _ (List.mem_append_right _ h))) (by decide +kernel))) (goodIn_sub (fun _ h => List.mem_cons_of_mem _ (List.mem_append_right _ h)) (by decide +kernel))
set_option maxRecDepth 20000 in
theorem gL_cancel_X3_cancel : GoodIn wsL_cancel (wsV RL 30 RX3 yX3_cancel wsX3_cancel) := goodIn_app (goodIn_of _ (by decide +kernel)) ggL_cancel_X3_cancel
theorem dL_cancel_0 : decode cL_cancel 0 = .ok (.aload_n 0, 1) := by decide +kernel
theorem dL_cancel_1 : decode cL_cancel 1 = .ok (.iload_n 1, 1) := by decide +kernel
theorem dL_cancel_2 : decode cL_cancel 2 = .ok (.invokevirtual 30, 3) := by decide +kernel
theorem dL_cancel_5 : decode cL_cancel 5 = .ok (.goto 9, 3) := by decide +kernel
theorem dL_cancel_8 : decode cL_cancel 8 = .ok (.astore_n 2, 1) := by decide +kernel
theorem dL_cancel_9 : decode cL_cancel 9 = .ok (.iconst 1, 1) := by decide +kernel
theorem dL_cancel_10 : decode cL_cancel 10 = .ok (.ireturn, 1) := by decide +kernel
theorem dL_cancel_11 : decode cL_cancel 11 = .ok (.astore_n 2, 1) := by decide +kernel
theorem dL_cancel_12 : decode cL_cancel 12 = .ok (.iconst 2, 1) := by decide +kernel
theorem dL_cancel_13 : decode cL_cancel 13 = .ok (.ireturn, 1) := by decide +kernel
theorem dL_cancel_14 : decode cL_cancel 14 = .ok (.iconst 0, 1) := by decide +kernel
theorem dL_cancel_15 : decode cL_cancel 15 = .ok (.ireturn, 1) := by decide +kernel
set_option maxRecDepth 20000 in
theorem ggL_sick_X3_sick : GoodIn wsL_sick wsX3_sick := goodIn_ca (goodIn_ca (goodIn_ca (goodIn_r _ [8, 9, 10, 11, 12, 13, 14, 15, 7, 16, 17, 18, 19, 20, 21, 22, 23, 24, 25, 26, 27, 28, 29, 30, 31, 32, 33, 34, 35, 36, 37, 38, 39, 40, 41, 42, 43, 44, 45, 46, 47, 48, 49, 50, 51, 52, 53, 54, 55, 56, 57, 58, 59, 60, 61, 62, 63, 64, 65, 66, 67, 68, 69, 70, 71, 72, 73, 74, 75, 76, 77, 78, 79, 80, 81, 82, 83, 84, 85, 86, 87, 88, 89, 90] (by decide +kernel) (by decide +kernel)) (goodIn_sub (fun _ h => List.mem_cons_of_mem _ (List.mem_append_left _ (List.mem_append_left _ (List.mem_append_right _ h)))) (by decide +kernel))) (goodIn_sub (fun _ h => List.mem_cons_of_mem _ (List.mem_append_left _ (List.mem_append_right _ h))) (by decide +kernel))) (goodIn_sub (fun _ h => List.mem_cons_of_mem _ (List.mem_append_right _ h)) (by decide +kernel))
set_option maxRecDepth 20000 in
theorem gL_sick_X3_sick : GoodIn wsL_sick (wsV RL 34 RX3 yX3_sick wsX3_sick) := goodIn_app (goodIn_of _ (by decide +kernel)) ggL_sick_X3_sick
theorem dL_sick_0 : decode cL_sick 0 = .ok (.aload 4, 2) := by decide +kernel
theorem dL_sick_2 : decode cL_sick 2 = .ok (.iconst 0, 1) := by decide +kernel
theorem dL_sick_3 : decode cL_sick 3 = .ok (.aload_n 0, 1) := by decide +kernel
theorem dL_sick_4 : decode cL_sick 4 = .ok (.iload_n 1, 1) := by decide +kernel
theorem dL_sick_5 : decode cL_sick 5 = .ok (.iload_n 2, 1) := by decide +kernel
theorem dL_sick_6 : decode cL_sick 6 = .ok (.iload_n 3, 1) := by decide +kernel
theorem dL_sick_7 : decode cL_sick 7 = .ok (.invokevirtual 34, 3) := by decide +kernel
theorem dL_sick_10 : decode cL_sick 10 = .ok (.i2l, 1) := by decide +kernel
theorem dL_sick_11 : decode cL_sick 11 = .ok (.lastore, 1) := by decide +kernel
theorem dL_sick_12 : decode cL_sick 12 = .ok (.goto 15, 3) := by decide +kernel
theorem dL_sick_15 : decode cL_sick 15 = .ok (.astore 5, 2) := by decide +kernel
theorem dL_sick_17 : decode cL_sick 17 = .ok (.iconst 1, 1) := by decide +kernel
theorem dL_sick_18 : decode cL_sick 18 = .ok (.ireturn, 1) := by decide +kernel
theorem dL_sick_19 : decode cL_sick 19 = .ok (.astore 5, 2) := by decide +kernel
theorem dL_sick_21 : decode cL_sick 21 = .ok (.iconst 2, 1) := by decide +kernel
theorem dL_sick_22 : decode cL_sick 22 = .ok (.ireturn, 1) := by decide +kernel
theorem dL_sick_23 : decode cL_sick 23 = .ok (.astore 5, 2) := by decide +kernel
theorem dL_sick_25 : decode cL_sick 25 = .ok (.iconst 3, 1) := by decide +kernel
theorem dL_sick_26 : decode cL_sick 26 = .ok (.ireturn, 1) := by decide +kernel
theorem dL_sick_27 : decode cL_sick 27 = .ok (.iconst 0, 1) := by decide +kernel
theorem dL_sick_28 : decode cL_sick 28 = .ok (.ireturn, 1) := by decide +kernel
set_option maxRecDepth 20000 in
theorem ggL_payOut_X3_payOut : GoodIn wsL_payOut wsX3_payOut := goodIn_ca (goodIn_ca (goodIn_ca (goodIn_r _ [8, 9, 10, 11, 12, 13, 14, 15, 16, 17, 18, 7, 19, 20, 21, 22, 23, 24, 25, 26, 27, 28, 29, 30, 31, 32, 33, 34, 35, 36, 37, 38, 39, 40, 41, 42, 43, 44, 45, 46, 47, 48, 49, 50, 51, 52, 53, 54, 55, 56, 57, 58, 59, 60, 61, 62, 63, 64, 65, 66, 67, 68, 69, 70, 71, 72, 73, 74, 75, 76, 77, 78, 79, 80, 81, 82, 83, 84, 85, 86, 87, 88, 89, 90, 91, 92, 93, 94, 95, 96, 97, 98, 99, 100, 101, 102, 103, 104, 105, 106, 107, 108, 109, 110, 111, 112, 113, 114, 115, 116, 117, 118, 119, 120, 121, 122, 123, 124, 125, 126, 127, 128, 129, 130, 131, 132, 133, 134, 135, 136, 137, 138, 139, 140, 141, 142, 143] (by decide +kernel) (by decide +kernel)) (goodIn_sub (fun _ h => List.mem_cons_of_mem _ (List.mem_append_left _ (List.mem_append_left _ (List.mem_append_right _ h)))) (by decide +kernel))) (goodIn_sub (fun _ h => List.mem_cons_of_mem _ (List.mem_append_left _ (List.mem_append_right _ h))) (by decide +kernel))) (goodIn_sub (fun _ h => List.mem_cons_of_mem _ (List.mem_append_right _ h)) (by decide +kernel))
set_option maxRecDepth 20000 in
theorem gL_payOut_X3_payOut : GoodIn wsL_payOut (wsV RL 37 RX3 yX3_payOut wsX3_payOut) := goodIn_app (goodIn_of _ (by decide +kernel)) ggL_payOut_X3_payOut
theorem dL_payOut_0 : decode cL_payOut 0 = .ok (.aload_n 3, 1) := by decide +kernel
theorem dL_payOut_1 : decode cL_payOut 1 = .ok (.iconst 0, 1) := by decide +kernel
theorem dL_payOut_2 : decode cL_payOut 2 = .ok (.aload_n 0, 1) := by decide +kernel
theorem dL_payOut_3 : decode cL_payOut 3 = .ok (.iload_n 1, 1) := by decide +kernel
theorem dL_payOut_4 : decode cL_payOut 4 = .ok (.iload_n 2, 1) := by decide +kernel
theorem dL_payOut_5 : decode cL_payOut 5 = .ok (.invokevirtual 37, 3) := by decide +kernel
theorem dL_payOut_8 : decode cL_payOut 8 = .ok (.i2l, 1) := by decide +kernel
theorem dL_payOut_9 : decode cL_payOut 9 = .ok (.lastore, 1) := by decide +kernel
theorem dL_payOut_10 : decode cL_payOut 10 = .ok (.goto 15, 3) := by decide +kernel
theorem dL_payOut_13 : decode cL_payOut 13 = .ok (.astore 4, 2) := by decide +kernel
theorem dL_payOut_15 : decode cL_payOut 15 = .ok (.iconst 1, 1) := by decide +kernel
theorem dL_payOut_16 : decode cL_payOut 16 = .ok (.ireturn, 1) := by decide +kernel
theorem dL_payOut_17 : decode cL_payOut 17 = .ok (.astore 4, 2) := by decide +kernel
theorem dL_payOut_19 : decode cL_payOut 19 = .ok (.iconst 2, 1) := by decide +kernel
theorem dL_payOut_20 : decode cL_payOut 20 = .ok (.ireturn, 1) := by decide +kernel
theorem dL_payOut_21 : decode cL_payOut 21 = .ok (.astore 4, 2) := by decide +kernel
theorem dL_payOut_23 : decode cL_payOut 23 = .ok (.iconst 3, 1) := by decide +kernel
theorem dL_payOut_24 : decode cL_payOut 24 = .ok (.ireturn, 1) := by decide +kernel
theorem dL_payOut_25 : decode cL_payOut 25 = .ok (.iconst 0, 1) := by decide +kernel
theorem dL_payOut_26 : decode cL_payOut 26 = .ok (.ireturn, 1) := by decide +kernel
set_option maxRecDepth 20000 in
theorem ggL_pass_X3_pass : GoodIn wsL_pass wsX3_pass := goodIn_ca (goodIn_ca (goodIn_r _ [7, 8, 9, 10, 11, 12, 13, 14, 15, 16, 17, 18, 19, 20] (by decide +kernel) (by decide +kernel)) (goodIn_sub (fun _ h => List.mem_cons_of_mem _ (List.mem_append_left _ (List.mem_append_right _ h))) (by decide +kernel))) (goodIn_sub (fun _ h => List.mem_cons_of_mem _ (List.mem_append_right _ h)) (by decide +kernel))
set_option maxRecDepth 20000 in
theorem gL_pass_X3_pass : GoodIn wsL_pass (wsV RL 40 RX3 yX3_pass wsX3_pass) := goodIn_app (goodIn_of _ (by decide +kernel)) ggL_pass_X3_pass
theorem dL_pass_0 : decode cL_pass 0 = .ok (.aload_n 2, 1) := by decide +kernel
theorem dL_pass_1 : decode cL_pass 1 = .ok (.iconst 0, 1) := by decide +kernel
theorem dL_pass_2 : decode cL_pass 2 = .ok (.aload_n 0, 1) := by decide +kernel
theorem dL_pass_3 : decode cL_pass 3 = .ok (.iload_n 1, 1) := by decide +kernel
theorem dL_pass_4 : decode cL_pass 4 = .ok (.invokevirtual 40, 3) := by decide +kernel
theorem dL_pass_7 : decode cL_pass 7 = .ok (.i2l, 1) := by decide +kernel
theorem dL_pass_8 : decode cL_pass 8 = .ok (.lastore, 1) := by decide +kernel
theorem dL_pass_9 : decode cL_pass 9 = .ok (.goto 9, 3) := by decide +kernel
theorem dL_pass_12 : decode cL_pass 12 = .ok (.astore_n 3, 1) := by decide +kernel
theorem dL_pass_13 : decode cL_pass 13 = .ok (.iconst 1, 1) := by decide +kernel
theorem dL_pass_14 : decode cL_pass 14 = .ok (.ireturn, 1) := by decide +kernel
theorem dL_pass_15 : decode cL_pass 15 = .ok (.astore_n 3, 1) := by decide +kernel
theorem dL_pass_16 : decode cL_pass 16 = .ok (.iconst 2, 1) := by decide +kernel
theorem dL_pass_17 : decode cL_pass 17 = .ok (.ireturn, 1) := by decide +kernel
theorem dL_pass_18 : decode cL_pass 18 = .ok (.iconst 0, 1) := by decide +kernel
theorem dL_pass_19 : decode cL_pass 19 = .ok (.ireturn, 1) := by decide +kernel
set_option maxRecDepth 20000 in
theorem ggL_workingDays_X3_workingDays : GoodIn wsL_workingDays wsX3_workingDays := goodIn_ca (goodIn_r _ [6, 7, 8, 5, 9, 10, 11, 12, 13, 14, 15, 16, 17, 18] (by decide +kernel) (by decide +kernel)) (goodIn_sub (fun _ h => List.mem_cons_of_mem _ (List.mem_append_right _ h)) (by decide +kernel))
set_option maxRecDepth 20000 in
theorem gL_workingDays_X3_workingDays : GoodIn wsL_workingDays (wsV RL 44 RX3 yX3_workingDays wsX3_workingDays) := goodIn_app (goodIn_of _ (by decide +kernel)) ggL_workingDays_X3_workingDays
theorem dL_workingDays_0 : decode cL_workingDays 0 = .ok (.aload_n 3, 1) := by decide +kernel
theorem dL_workingDays_1 : decode cL_workingDays 1 = .ok (.iconst 0, 1) := by decide +kernel
theorem dL_workingDays_2 : decode cL_workingDays 2 = .ok (.aload_n 0, 1) := by decide +kernel
theorem dL_workingDays_3 : decode cL_workingDays 3 = .ok (.iload_n 1, 1) := by decide +kernel
theorem dL_workingDays_4 : decode cL_workingDays 4 = .ok (.iload_n 2, 1) := by decide +kernel
theorem dL_workingDays_5 : decode cL_workingDays 5 = .ok (.invokevirtual 44, 3) := by decide +kernel
theorem dL_workingDays_8 : decode cL_workingDays 8 = .ok (.i2l, 1) := by decide +kernel
theorem dL_workingDays_9 : decode cL_workingDays 9 = .ok (.lastore, 1) := by decide +kernel
theorem dL_workingDays_10 : decode cL_workingDays 10 = .ok (.goto 7, 3) := by decide +kernel
theorem dL_workingDays_13 : decode cL_workingDays 13 = .ok (.astore 4, 2) := by decide +kernel
theorem dL_workingDays_15 : decode cL_workingDays 15 = .ok (.iconst 1, 1) := by decide +kernel
theorem dL_workingDays_16 : decode cL_workingDays 16 = .ok (.ireturn, 1) := by decide +kernel
theorem dL_workingDays_17 : decode cL_workingDays 17 = .ok (.iconst 0, 1) := by decide +kernel
theorem dL_workingDays_18 : decode cL_workingDays 18 = .ok (.ireturn, 1) := by decide +kernel
set_option maxRecDepth 20000 in
theorem ggL_hours_X3_hours : GoodIn wsL_hours wsX3_hours := goodIn_ca (goodIn_ca (goodIn_r _ [7, 8, 9, 10, 11, 6, 12, 13, 14, 15, 16, 17, 18, 19, 20, 21, 22, 23, 24, 25, 26, 27, 28, 29, 30, 31, 32, 33, 34, 35, 36, 37, 38, 39, 40, 41, 42, 43, 44, 45, 46, 47, 48, 49, 50, 51, 52] (by decide +kernel) (by decide +kernel)) (goodIn_sub (fun _ h => List.mem_cons_of_mem _ (List.mem_append_left _ (List.mem_append_right _ h))) (by decide +kernel))) (goodIn_sub (fun _ h => List.mem_cons_of_mem _ (List.mem_append_right _ h)) (by decide +kernel))
set_option maxRecDepth 20000 in
theorem gL_hours_X3_hours : GoodIn wsL_hours (wsV RL 47 RX3 yX3_hours wsX3_hours) := goodIn_app (goodIn_of _ (by decide +kernel)) ggL_hours_X3_hours
theorem dL_hours_0 : decode cL_hours 0 = .ok (.aload_n 3, 1) := by decide +kernel
theorem dL_hours_1 : decode cL_hours 1 = .ok (.iconst 0, 1) := by decide +kernel
theorem dL_hours_2 : decode cL_hours 2 = .ok (.aload_n 0, 1) := by decide +kernel
theorem dL_hours_3 : decode cL_hours 3 = .ok (.iload_n 1, 1) := by decide +kernel
theorem dL_hours_4 : decode cL_hours 4 = .ok (.iload_n 2, 1) := by decide +kernel
theorem dL_hours_5 : decode cL_hours 5 = .ok (.invokevirtual 47, 3) := by decide +kernel
theorem dL_hours_8 : decode cL_hours 8 = .ok (.i2l, 1) := by decide +kernel
theorem dL_hours_9 : decode cL_hours 9 = .ok (.lastore, 1) := by decide +kernel
theorem dL_hours_10 : decode cL_hours 10 = .ok (.goto 11, 3) := by decide +kernel
theorem dL_hours_13 : decode cL_hours 13 = .ok (.astore 4, 2) := by decide +kernel
theorem dL_hours_15 : decode cL_hours 15 = .ok (.iconst 1, 1) := by decide +kernel
theorem dL_hours_16 : decode cL_hours 16 = .ok (.ireturn, 1) := by decide +kernel
theorem dL_hours_17 : decode cL_hours 17 = .ok (.astore 4, 2) := by decide +kernel
theorem dL_hours_19 : decode cL_hours 19 = .ok (.iconst 2, 1) := by decide +kernel
theorem dL_hours_20 : decode cL_hours 20 = .ok (.ireturn, 1) := by decide +kernel
theorem dL_hours_21 : decode cL_hours 21 = .ok (.iconst 0, 1) := by decide +kernel
theorem dL_hours_22 : decode cL_hours 22 = .ok (.ireturn, 1) := by decide +kernel
set_option maxRecDepth 20000 in
theorem ggL_onLeave_X3_onLeave : GoodIn wsL_onLeave wsX3_onLeave := goodIn_ca (goodIn_ca (goodIn_r _ [7, 8, 9, 10, 6, 11, 12, 13, 14, 15, 16, 17, 18, 19, 20, 21, 22, 23, 24, 25, 26, 27, 28, 29, 30, 31, 32, 33, 34, 35, 36, 37, 38, 39, 40, 41, 42, 43, 44, 45, 46, 47, 48] (by decide +kernel) (by decide +kernel)) (goodIn_sub (fun _ h => List.mem_cons_of_mem _ (List.mem_append_left _ (List.mem_append_right _ h))) (by decide +kernel))) (goodIn_sub (fun _ h => List.mem_cons_of_mem _ (List.mem_append_right _ h)) (by decide +kernel))
set_option maxRecDepth 20000 in
theorem gL_onLeave_X3_onLeave : GoodIn wsL_onLeave (wsV RL 50 RX3 yX3_onLeave wsX3_onLeave) := goodIn_app (goodIn_of _ (by decide +kernel)) ggL_onLeave_X3_onLeave
theorem dL_onLeave_0 : decode cL_onLeave 0 = .ok (.aload_n 3, 1) := by decide +kernel
theorem dL_onLeave_1 : decode cL_onLeave 1 = .ok (.iconst 0, 1) := by decide +kernel
theorem dL_onLeave_2 : decode cL_onLeave 2 = .ok (.aload_n 0, 1) := by decide +kernel
theorem dL_onLeave_3 : decode cL_onLeave 3 = .ok (.iload_n 1, 1) := by decide +kernel
theorem dL_onLeave_4 : decode cL_onLeave 4 = .ok (.iload_n 2, 1) := by decide +kernel
theorem dL_onLeave_5 : decode cL_onLeave 5 = .ok (.invokevirtual 50, 3) := by decide +kernel
theorem dL_onLeave_8 : decode cL_onLeave 8 = .ok (.i2l, 1) := by decide +kernel
theorem dL_onLeave_9 : decode cL_onLeave 9 = .ok (.lastore, 1) := by decide +kernel
theorem dL_onLeave_10 : decode cL_onLeave 10 = .ok (.goto 11, 3) := by decide +kernel
theorem dL_onLeave_13 : decode cL_onLeave 13 = .ok (.astore 4, 2) := by decide +kernel
theorem dL_onLeave_15 : decode cL_onLeave 15 = .ok (.iconst 1, 1) := by decide +kernel
theorem dL_onLeave_16 : decode cL_onLeave 16 = .ok (.ireturn, 1) := by decide +kernel
theorem dL_onLeave_17 : decode cL_onLeave 17 = .ok (.astore 4, 2) := by decide +kernel
theorem dL_onLeave_19 : decode cL_onLeave 19 = .ok (.iconst 2, 1) := by decide +kernel
theorem dL_onLeave_20 : decode cL_onLeave 20 = .ok (.ireturn, 1) := by decide +kernel
theorem dL_onLeave_21 : decode cL_onLeave 21 = .ok (.iconst 0, 1) := by decide +kernel
theorem dL_onLeave_22 : decode cL_onLeave 22 = .ok (.ireturn, 1) := by decide +kernel
set_option maxRecDepth 20000 in
theorem ggL_balance_X3_balance : GoodIn wsL_balance wsX3_balance := goodIn_ca (goodIn_ca (goodIn_r _ [7, 8, 9, 10, 11, 6, 12, 13, 14, 15, 16, 17, 18, 19, 20, 21, 22, 23, 24, 25, 26, 27, 28, 29, 30, 31, 32, 33, 34, 35, 36, 37, 38, 39, 40, 41, 42, 43, 44, 45, 46, 47, 48, 49, 50, 51, 52, 53, 54, 55, 56, 57, 58, 59, 60, 61, 62, 63, 64, 65, 66, 67, 68, 69, 70, 71, 72, 73, 74, 75, 76, 77, 78, 79, 80, 81, 82, 83, 84, 85, 86, 87, 88, 89, 90, 91, 92, 93, 94, 95, 96, 97, 98, 99, 100, 101, 102, 103, 104, 105, 106, 107, 108, 109, 110, 111, 112, 113, 114, 115, 116, 117, 118, 119, 120, 121, 122, 123, 124, 125, 126, 127, 128, 129, 130, 131, 132, 133, 134, 135, 136, 137, 138, 139] (by decide +kernel) (by decide +kernel)) (goodIn_sub (fun _ h => List.mem_cons_of_mem _ (List.mem_append_left _ (List.mem_append_right _ h))) (by decide +kernel))) (goodIn_sub (fun _ h => List.mem_cons_of_mem _ (List.mem_append_right _ h)) (by decide +kernel))
set_option maxRecDepth 20000 in
theorem gL_balance_X3_balance : GoodIn wsL_balance (wsV RL 53 RX3 yX3_balance wsX3_balance) := goodIn_app (goodIn_of _ (by decide +kernel)) ggL_balance_X3_balance
theorem dL_balance_0 : decode cL_balance 0 = .ok (.aload_n 3, 1) := by decide +kernel
theorem dL_balance_1 : decode cL_balance 1 = .ok (.iconst 0, 1) := by decide +kernel
theorem dL_balance_2 : decode cL_balance 2 = .ok (.aload_n 0, 1) := by decide +kernel
theorem dL_balance_3 : decode cL_balance 3 = .ok (.iload_n 1, 1) := by decide +kernel
theorem dL_balance_4 : decode cL_balance 4 = .ok (.iload_n 2, 1) := by decide +kernel
theorem dL_balance_5 : decode cL_balance 5 = .ok (.invokevirtual 53, 3) := by decide +kernel
theorem dL_balance_8 : decode cL_balance 8 = .ok (.i2l, 1) := by decide +kernel
theorem dL_balance_9 : decode cL_balance 9 = .ok (.lastore, 1) := by decide +kernel
theorem dL_balance_10 : decode cL_balance 10 = .ok (.goto 11, 3) := by decide +kernel
theorem dL_balance_13 : decode cL_balance 13 = .ok (.astore 4, 2) := by decide +kernel
theorem dL_balance_15 : decode cL_balance 15 = .ok (.iconst 1, 1) := by decide +kernel
theorem dL_balance_16 : decode cL_balance 16 = .ok (.ireturn, 1) := by decide +kernel
theorem dL_balance_17 : decode cL_balance 17 = .ok (.astore 4, 2) := by decide +kernel
theorem dL_balance_19 : decode cL_balance 19 = .ok (.iconst 2, 1) := by decide +kernel
theorem dL_balance_20 : decode cL_balance 20 = .ok (.ireturn, 1) := by decide +kernel
theorem dL_balance_21 : decode cL_balance 21 = .ok (.iconst 0, 1) := by decide +kernel
theorem dL_balance_22 : decode cL_balance 22 = .ok (.ireturn, 1) := by decide +kernel
set_option maxRecDepth 20000 in
theorem ggL_balanceBySums_X3_balanceBySums : GoodIn wsL_balanceBySums wsX3_balanceBySums := goodIn_ca (goodIn_ca (goodIn_r _ [7, 8, 9, 10, 11, 12, 13, 14, 6, 15, 16, 17, 18, 19, 20, 21, 22, 23, 24, 25, 26, 27, 28, 29, 30, 31, 32, 33, 34, 35, 36, 37, 38, 39, 40, 41, 42, 43, 44, 45, 46, 47, 48, 49, 50, 51, 52, 53, 54, 55, 56, 57, 58, 59, 60, 61, 62, 63, 64, 65, 66, 67, 68, 69, 70, 71, 72, 73, 74, 75, 76, 77, 78, 79, 80, 81, 82, 83, 84, 85, 86, 87, 88, 89, 90, 91, 92, 93, 94, 95, 96, 97, 98, 99, 100, 101, 102, 103, 104, 105, 106, 107, 108, 109, 110, 111, 112, 113, 114, 115, 116, 117, 118, 119, 120, 121, 122, 123, 124, 125, 126, 127, 128, 129, 130, 131, 132, 133, 134, 135, 136, 137, 138, 139, 140, 141] (by decide +kernel) (by decide +kernel)) (goodIn_sub (fun _ h => List.mem_cons_of_mem _ (List.mem_append_left _ (List.mem_append_right _ h))) (by decide +kernel))) (goodIn_sub (fun _ h => List.mem_cons_of_mem _ (List.mem_append_right _ h)) (by decide +kernel))
set_option maxRecDepth 20000 in
theorem gL_balanceBySums_X3_balanceBySums : GoodIn wsL_balanceBySums (wsV RL 56 RX3 yX3_balanceBySums wsX3_balanceBySums) := goodIn_app (goodIn_of _ (by decide +kernel)) ggL_balanceBySums_X3_balanceBySums
theorem dL_balanceBySums_0 : decode cL_balanceBySums 0 = .ok (.aload_n 3, 1) := by decide +kernel
theorem dL_balanceBySums_1 : decode cL_balanceBySums 1 = .ok (.iconst 0, 1) := by decide +kernel
theorem dL_balanceBySums_2 : decode cL_balanceBySums 2 = .ok (.aload_n 0, 1) := by decide +kernel
theorem dL_balanceBySums_3 : decode cL_balanceBySums 3 = .ok (.iload_n 1, 1) := by decide +kernel
theorem dL_balanceBySums_4 : decode cL_balanceBySums 4 = .ok (.iload_n 2, 1) := by decide +kernel
theorem dL_balanceBySums_5 : decode cL_balanceBySums 5 = .ok (.invokevirtual 56, 3) := by decide +kernel
theorem dL_balanceBySums_8 : decode cL_balanceBySums 8 = .ok (.i2l, 1) := by decide +kernel
theorem dL_balanceBySums_9 : decode cL_balanceBySums 9 = .ok (.lastore, 1) := by decide +kernel
theorem dL_balanceBySums_10 : decode cL_balanceBySums 10 = .ok (.goto 11, 3) := by decide +kernel
theorem dL_balanceBySums_13 : decode cL_balanceBySums 13 = .ok (.astore 4, 2) := by decide +kernel
theorem dL_balanceBySums_15 : decode cL_balanceBySums 15 = .ok (.iconst 1, 1) := by decide +kernel
theorem dL_balanceBySums_16 : decode cL_balanceBySums 16 = .ok (.ireturn, 1) := by decide +kernel
theorem dL_balanceBySums_17 : decode cL_balanceBySums 17 = .ok (.astore 4, 2) := by decide +kernel
theorem dL_balanceBySums_19 : decode cL_balanceBySums 19 = .ok (.iconst 2, 1) := by decide +kernel
theorem dL_balanceBySums_20 : decode cL_balanceBySums 20 = .ok (.ireturn, 1) := by decide +kernel
theorem dL_balanceBySums_21 : decode cL_balanceBySums 21 = .ok (.iconst 0, 1) := by decide +kernel
theorem dL_balanceBySums_22 : decode cL_balanceBySums 22 = .ok (.ireturn, 1) := by decide +kernel
set_option maxRecDepth 20000 in
theorem ggL_earned_X3_earned : GoodIn wsL_earned wsX3_earned := goodIn_ca (goodIn_ca (goodIn_r _ [7, 8, 9, 10, 11, 6, 12, 13, 14, 15, 16, 17, 18, 19, 20, 21, 22, 23, 24, 25, 26, 27, 28, 29, 30, 31, 32, 33, 34, 35, 36, 37, 38, 39, 40, 41, 42, 43, 44, 45, 46, 47, 48, 49, 50, 51, 52, 53, 54, 55, 56, 57, 58, 59, 60, 61, 62, 63, 64, 65, 66, 67, 68, 69, 70, 71, 72, 73, 74, 75, 76, 77, 78, 79, 80, 81, 82, 83, 84, 85, 86, 87, 88, 89, 90, 91, 92, 93, 94, 95, 96, 97, 98, 99, 100, 101, 102, 103, 104, 105, 106, 107, 108, 109, 110, 111, 112, 113, 114, 115, 116, 117, 118, 119, 120, 121, 122, 123, 124, 125, 126, 127, 128, 129, 130, 131, 132, 133, 134, 135, 136, 137, 138] (by decide +kernel) (by decide +kernel)) (goodIn_sub (fun _ h => List.mem_cons_of_mem _ (List.mem_append_left _ (List.mem_append_right _ h))) (by decide +kernel))) (goodIn_sub (fun _ h => List.mem_cons_of_mem _ (List.mem_append_right _ h)) (by decide +kernel))
set_option maxRecDepth 20000 in
theorem gL_earned_X3_earned : GoodIn wsL_earned (wsV RL 59 RX3 yX3_earned wsX3_earned) := goodIn_app (goodIn_of _ (by decide +kernel)) ggL_earned_X3_earned
theorem dL_earned_0 : decode cL_earned 0 = .ok (.aload_n 3, 1) := by decide +kernel
theorem dL_earned_1 : decode cL_earned 1 = .ok (.iconst 0, 1) := by decide +kernel
theorem dL_earned_2 : decode cL_earned 2 = .ok (.aload_n 0, 1) := by decide +kernel
theorem dL_earned_3 : decode cL_earned 3 = .ok (.iload_n 1, 1) := by decide +kernel
theorem dL_earned_4 : decode cL_earned 4 = .ok (.iload_n 2, 1) := by decide +kernel
theorem dL_earned_5 : decode cL_earned 5 = .ok (.invokevirtual 59, 3) := by decide +kernel
theorem dL_earned_8 : decode cL_earned 8 = .ok (.i2l, 1) := by decide +kernel
theorem dL_earned_9 : decode cL_earned 9 = .ok (.lastore, 1) := by decide +kernel
theorem dL_earned_10 : decode cL_earned 10 = .ok (.goto 11, 3) := by decide +kernel
theorem dL_earned_13 : decode cL_earned 13 = .ok (.astore 4, 2) := by decide +kernel
theorem dL_earned_15 : decode cL_earned 15 = .ok (.iconst 1, 1) := by decide +kernel
theorem dL_earned_16 : decode cL_earned 16 = .ok (.ireturn, 1) := by decide +kernel
theorem dL_earned_17 : decode cL_earned 17 = .ok (.astore 4, 2) := by decide +kernel
theorem dL_earned_19 : decode cL_earned 19 = .ok (.iconst 2, 1) := by decide +kernel
theorem dL_earned_20 : decode cL_earned 20 = .ok (.ireturn, 1) := by decide +kernel
theorem dL_earned_21 : decode cL_earned 21 = .ok (.iconst 0, 1) := by decide +kernel
theorem dL_earned_22 : decode cL_earned 22 = .ok (.ireturn, 1) := by decide +kernel
set_option maxRecDepth 20000 in
theorem ggL_taken_X3_taken : GoodIn wsL_taken wsX3_taken := goodIn_ca (goodIn_ca (goodIn_r _ [7, 8, 9, 10, 11, 6, 12, 13, 14, 15, 16, 17, 18, 19, 20, 21, 22, 23, 24, 25, 26, 27, 28, 29, 30, 31, 32, 33, 34, 35, 36, 37, 38, 39, 40, 41, 42, 43, 44, 45, 46, 47, 48, 49, 50, 51, 52, 53, 54, 55, 56, 57, 58, 59, 60, 61, 62, 63, 64, 65, 66, 67, 68, 69, 70, 71, 72, 73, 74, 75, 76, 77, 78, 79, 80, 81, 82, 83, 84, 85, 86, 87, 88, 89, 90, 91, 92, 93, 94, 95, 96, 97, 98, 99, 100, 101, 102, 103, 104, 105, 106, 107, 108, 109, 110, 111, 112, 113, 114, 115, 116, 117, 118, 119, 120, 121, 122, 123, 124, 125, 126, 127, 128, 129, 130, 131, 132, 133, 134, 135, 136, 137, 138] (by decide +kernel) (by decide +kernel)) (goodIn_sub (fun _ h => List.mem_cons_of_mem _ (List.mem_append_left _ (List.mem_append_right _ h))) (by decide +kernel))) (goodIn_sub (fun _ h => List.mem_cons_of_mem _ (List.mem_append_right _ h)) (by decide +kernel))
set_option maxRecDepth 20000 in
theorem gL_taken_X3_taken : GoodIn wsL_taken (wsV RL 62 RX3 yX3_taken wsX3_taken) := goodIn_app (goodIn_of _ (by decide +kernel)) ggL_taken_X3_taken
theorem dL_taken_0 : decode cL_taken 0 = .ok (.aload_n 3, 1) := by decide +kernel
theorem dL_taken_1 : decode cL_taken 1 = .ok (.iconst 0, 1) := by decide +kernel
theorem dL_taken_2 : decode cL_taken 2 = .ok (.aload_n 0, 1) := by decide +kernel
theorem dL_taken_3 : decode cL_taken 3 = .ok (.iload_n 1, 1) := by decide +kernel
theorem dL_taken_4 : decode cL_taken 4 = .ok (.iload_n 2, 1) := by decide +kernel
theorem dL_taken_5 : decode cL_taken 5 = .ok (.invokevirtual 62, 3) := by decide +kernel
theorem dL_taken_8 : decode cL_taken 8 = .ok (.i2l, 1) := by decide +kernel
theorem dL_taken_9 : decode cL_taken 9 = .ok (.lastore, 1) := by decide +kernel
theorem dL_taken_10 : decode cL_taken 10 = .ok (.goto 11, 3) := by decide +kernel
theorem dL_taken_13 : decode cL_taken 13 = .ok (.astore 4, 2) := by decide +kernel
theorem dL_taken_15 : decode cL_taken 15 = .ok (.iconst 1, 1) := by decide +kernel
theorem dL_taken_16 : decode cL_taken 16 = .ok (.ireturn, 1) := by decide +kernel
theorem dL_taken_17 : decode cL_taken 17 = .ok (.astore 4, 2) := by decide +kernel
theorem dL_taken_19 : decode cL_taken 19 = .ok (.iconst 2, 1) := by decide +kernel
theorem dL_taken_20 : decode cL_taken 20 = .ok (.ireturn, 1) := by decide +kernel
theorem dL_taken_21 : decode cL_taken 21 = .ok (.iconst 0, 1) := by decide +kernel
theorem dL_taken_22 : decode cL_taken 22 = .ok (.ireturn, 1) := by decide +kernel
set_option maxRecDepth 20000 in
theorem ggL_expired_X3_expired : GoodIn wsL_expired wsX3_expired := goodIn_ca (goodIn_ca (goodIn_r _ [7, 8, 9, 10, 11, 6, 12, 13, 14, 15, 16, 17, 18, 19, 20, 21, 22, 23, 24, 25, 26, 27, 28, 29, 30, 31, 32, 33, 34, 35, 36, 37, 38, 39, 40, 41, 42, 43, 44, 45, 46, 47, 48, 49, 50, 51, 52, 53, 54, 55, 56, 57, 58, 59, 60, 61, 62, 63, 64, 65, 66, 67, 68, 69, 70, 71, 72, 73, 74, 75, 76, 77, 78, 79, 80, 81, 82, 83, 84, 85, 86, 87, 88, 89, 90, 91, 92, 93, 94, 95, 96, 97, 98, 99, 100, 101, 102, 103, 104, 105, 106, 107, 108, 109, 110, 111, 112, 113, 114, 115, 116, 117, 118, 119, 120, 121, 122, 123, 124, 125, 126, 127, 128, 129, 130, 131, 132, 133, 134, 135, 136, 137, 138] (by decide +kernel) (by decide +kernel)) (goodIn_sub (fun _ h => List.mem_cons_of_mem _ (List.mem_append_left _ (List.mem_append_right _ h))) (by decide +kernel))) (goodIn_sub (fun _ h => List.mem_cons_of_mem _ (List.mem_append_right _ h)) (by decide +kernel))
set_option maxRecDepth 20000 in
theorem gL_expired_X3_expired : GoodIn wsL_expired (wsV RL 65 RX3 yX3_expired wsX3_expired) := goodIn_app (goodIn_of _ (by decide +kernel)) ggL_expired_X3_expired
theorem dL_expired_0 : decode cL_expired 0 = .ok (.aload_n 3, 1) := by decide +kernel
theorem dL_expired_1 : decode cL_expired 1 = .ok (.iconst 0, 1) := by decide +kernel
theorem dL_expired_2 : decode cL_expired 2 = .ok (.aload_n 0, 1) := by decide +kernel
theorem dL_expired_3 : decode cL_expired 3 = .ok (.iload_n 1, 1) := by decide +kernel
theorem dL_expired_4 : decode cL_expired 4 = .ok (.iload_n 2, 1) := by decide +kernel
theorem dL_expired_5 : decode cL_expired 5 = .ok (.invokevirtual 65, 3) := by decide +kernel
theorem dL_expired_8 : decode cL_expired 8 = .ok (.i2l, 1) := by decide +kernel
theorem dL_expired_9 : decode cL_expired 9 = .ok (.lastore, 1) := by decide +kernel
theorem dL_expired_10 : decode cL_expired 10 = .ok (.goto 11, 3) := by decide +kernel
theorem dL_expired_13 : decode cL_expired 13 = .ok (.astore 4, 2) := by decide +kernel
theorem dL_expired_15 : decode cL_expired 15 = .ok (.iconst 1, 1) := by decide +kernel
theorem dL_expired_16 : decode cL_expired 16 = .ok (.ireturn, 1) := by decide +kernel
theorem dL_expired_17 : decode cL_expired 17 = .ok (.astore 4, 2) := by decide +kernel
theorem dL_expired_19 : decode cL_expired 19 = .ok (.iconst 2, 1) := by decide +kernel
theorem dL_expired_20 : decode cL_expired 20 = .ok (.ireturn, 1) := by decide +kernel
theorem dL_expired_21 : decode cL_expired 21 = .ok (.iconst 0, 1) := by decide +kernel
theorem dL_expired_22 : decode cL_expired 22 = .ok (.ireturn, 1) := by decide +kernel
set_option maxRecDepth 20000 in
theorem ggL_paid_X3_paid : GoodIn wsL_paid wsX3_paid := goodIn_ca (goodIn_ca (goodIn_r _ [7, 8, 9, 10, 11, 6, 12, 13, 14, 15, 16, 17, 18, 19, 20, 21, 22, 23, 24, 25, 26, 27, 28, 29, 30, 31, 32, 33, 34, 35, 36, 37, 38, 39, 40, 41, 42, 43, 44, 45, 46, 47, 48, 49, 50, 51, 52, 53, 54, 55, 56, 57, 58, 59, 60, 61, 62, 63, 64, 65, 66, 67, 68, 69, 70, 71, 72, 73, 74, 75, 76, 77, 78, 79, 80, 81, 82, 83, 84, 85, 86, 87, 88, 89, 90, 91, 92, 93, 94, 95, 96, 97, 98, 99, 100, 101, 102, 103, 104, 105, 106, 107, 108, 109, 110, 111, 112, 113, 114, 115, 116, 117, 118, 119, 120, 121, 122, 123, 124, 125, 126, 127, 128, 129, 130, 131, 132, 133, 134, 135, 136, 137, 138] (by decide +kernel) (by decide +kernel)) (goodIn_sub (fun _ h => List.mem_cons_of_mem _ (List.mem_append_left _ (List.mem_append_right _ h))) (by decide +kernel))) (goodIn_sub (fun _ h => List.mem_cons_of_mem _ (List.mem_append_right _ h)) (by decide +kernel))
set_option maxRecDepth 20000 in
theorem gL_paid_X3_paid : GoodIn wsL_paid (wsV RL 68 RX3 yX3_paid wsX3_paid) := goodIn_app (goodIn_of _ (by decide +kernel)) ggL_paid_X3_paid
theorem dL_paid_0 : decode cL_paid 0 = .ok (.aload_n 3, 1) := by decide +kernel
theorem dL_paid_1 : decode cL_paid 1 = .ok (.iconst 0, 1) := by decide +kernel
theorem dL_paid_2 : decode cL_paid 2 = .ok (.aload_n 0, 1) := by decide +kernel
theorem dL_paid_3 : decode cL_paid 3 = .ok (.iload_n 1, 1) := by decide +kernel
theorem dL_paid_4 : decode cL_paid 4 = .ok (.iload_n 2, 1) := by decide +kernel
theorem dL_paid_5 : decode cL_paid 5 = .ok (.invokevirtual 68, 3) := by decide +kernel
theorem dL_paid_8 : decode cL_paid 8 = .ok (.i2l, 1) := by decide +kernel
theorem dL_paid_9 : decode cL_paid 9 = .ok (.lastore, 1) := by decide +kernel
theorem dL_paid_10 : decode cL_paid 10 = .ok (.goto 11, 3) := by decide +kernel
theorem dL_paid_13 : decode cL_paid 13 = .ok (.astore 4, 2) := by decide +kernel
theorem dL_paid_15 : decode cL_paid 15 = .ok (.iconst 1, 1) := by decide +kernel
theorem dL_paid_16 : decode cL_paid 16 = .ok (.ireturn, 1) := by decide +kernel
theorem dL_paid_17 : decode cL_paid 17 = .ok (.astore 4, 2) := by decide +kernel
theorem dL_paid_19 : decode cL_paid 19 = .ok (.iconst 2, 1) := by decide +kernel
theorem dL_paid_20 : decode cL_paid 20 = .ok (.ireturn, 1) := by decide +kernel
theorem dL_paid_21 : decode cL_paid 21 = .ok (.iconst 0, 1) := by decide +kernel
theorem dL_paid_22 : decode cL_paid 22 = .ok (.ireturn, 1) := by decide +kernel
set_option maxRecDepth 20000 in
theorem ggL_borrowed_X3_borrowed : GoodIn wsL_borrowed wsX3_borrowed := goodIn_ca (goodIn_ca (goodIn_r _ [7, 8, 9, 10, 11, 6, 12, 13, 14, 15, 16, 17, 18, 19, 20, 21, 22, 23, 24, 25, 26, 27, 28, 29, 30, 31, 32, 33, 34, 35, 36, 37, 38, 39, 40, 41, 42, 43, 44, 45, 46, 47, 48, 49, 50, 51, 52, 53, 54, 55, 56, 57, 58, 59, 60, 61, 62, 63, 64, 65, 66, 67, 68, 69, 70, 71, 72, 73, 74, 75, 76, 77, 78, 79, 80, 81, 82, 83, 84, 85, 86, 87, 88, 89, 90, 91, 92, 93, 94, 95, 96, 97, 98, 99, 100, 101, 102, 103, 104, 105, 106, 107, 108, 109, 110, 111, 112, 113, 114, 115, 116, 117, 118, 119, 120, 121, 122, 123, 124, 125, 126, 127, 128, 129, 130, 131, 132, 133, 134, 135, 136, 137, 138] (by decide +kernel) (by decide +kernel)) (goodIn_sub (fun _ h => List.mem_cons_of_mem _ (List.mem_append_left _ (List.mem_append_right _ h))) (by decide +kernel))) (goodIn_sub (fun _ h => List.mem_cons_of_mem _ (List.mem_append_right _ h)) (by decide +kernel))
set_option maxRecDepth 20000 in
theorem gL_borrowed_X3_borrowed : GoodIn wsL_borrowed (wsV RL 71 RX3 yX3_borrowed wsX3_borrowed) := goodIn_app (goodIn_of _ (by decide +kernel)) ggL_borrowed_X3_borrowed
theorem dL_borrowed_0 : decode cL_borrowed 0 = .ok (.aload_n 3, 1) := by decide +kernel
theorem dL_borrowed_1 : decode cL_borrowed 1 = .ok (.iconst 0, 1) := by decide +kernel
theorem dL_borrowed_2 : decode cL_borrowed 2 = .ok (.aload_n 0, 1) := by decide +kernel
theorem dL_borrowed_3 : decode cL_borrowed 3 = .ok (.iload_n 1, 1) := by decide +kernel
theorem dL_borrowed_4 : decode cL_borrowed 4 = .ok (.iload_n 2, 1) := by decide +kernel
theorem dL_borrowed_5 : decode cL_borrowed 5 = .ok (.invokevirtual 71, 3) := by decide +kernel
theorem dL_borrowed_8 : decode cL_borrowed 8 = .ok (.i2l, 1) := by decide +kernel
theorem dL_borrowed_9 : decode cL_borrowed 9 = .ok (.lastore, 1) := by decide +kernel
theorem dL_borrowed_10 : decode cL_borrowed 10 = .ok (.goto 11, 3) := by decide +kernel
theorem dL_borrowed_13 : decode cL_borrowed 13 = .ok (.astore 4, 2) := by decide +kernel
theorem dL_borrowed_15 : decode cL_borrowed 15 = .ok (.iconst 1, 1) := by decide +kernel
theorem dL_borrowed_16 : decode cL_borrowed 16 = .ok (.ireturn, 1) := by decide +kernel
theorem dL_borrowed_17 : decode cL_borrowed 17 = .ok (.astore 4, 2) := by decide +kernel
theorem dL_borrowed_19 : decode cL_borrowed 19 = .ok (.iconst 2, 1) := by decide +kernel
theorem dL_borrowed_20 : decode cL_borrowed 20 = .ok (.ireturn, 1) := by decide +kernel
theorem dL_borrowed_21 : decode cL_borrowed 21 = .ok (.iconst 0, 1) := by decide +kernel
theorem dL_borrowed_22 : decode cL_borrowed 22 = .ok (.ireturn, 1) := by decide +kernel
set_option maxRecDepth 20000 in
theorem ggL_unpaid_X3_unpaid : GoodIn wsL_unpaid wsX3_unpaid := goodIn_ca (goodIn_ca (goodIn_r _ [7, 8, 9, 10, 11, 6, 12, 13, 14, 15, 16, 17, 18, 19, 20, 21, 22, 23, 24, 25, 26, 27, 28, 29, 30, 31, 32, 33, 34, 35, 36, 37, 38, 39, 40, 41, 42, 43, 44, 45, 46, 47, 48, 49, 50, 51, 52, 53, 54, 55, 56, 57, 58, 59, 60, 61, 62, 63, 64, 65, 66, 67, 68, 69, 70, 71, 72, 73, 74, 75, 76, 77, 78, 79, 80, 81, 82, 83, 84, 85, 86, 87, 88, 89, 90, 91, 92, 93, 94, 95, 96, 97, 98, 99, 100, 101, 102, 103, 104, 105, 106, 107, 108, 109, 110, 111, 112, 113, 114, 115, 116, 117, 118, 119, 120, 121, 122, 123, 124, 125, 126, 127, 128, 129, 130, 131, 132, 133, 134, 135, 136, 137, 138] (by decide +kernel) (by decide +kernel)) (goodIn_sub (fun _ h => List.mem_cons_of_mem _ (List.mem_append_left _ (List.mem_append_right _ h))) (by decide +kernel))) (goodIn_sub (fun _ h => List.mem_cons_of_mem _ (List.mem_append_right _ h)) (by decide +kernel))
set_option maxRecDepth 20000 in
theorem gL_unpaid_X3_unpaid : GoodIn wsL_unpaid (wsV RL 74 RX3 yX3_unpaid wsX3_unpaid) := goodIn_app (goodIn_of _ (by decide +kernel)) ggL_unpaid_X3_unpaid
theorem dL_unpaid_0 : decode cL_unpaid 0 = .ok (.aload_n 3, 1) := by decide +kernel
theorem dL_unpaid_1 : decode cL_unpaid 1 = .ok (.iconst 0, 1) := by decide +kernel
theorem dL_unpaid_2 : decode cL_unpaid 2 = .ok (.aload_n 0, 1) := by decide +kernel
theorem dL_unpaid_3 : decode cL_unpaid 3 = .ok (.iload_n 1, 1) := by decide +kernel
theorem dL_unpaid_4 : decode cL_unpaid 4 = .ok (.iload_n 2, 1) := by decide +kernel
theorem dL_unpaid_5 : decode cL_unpaid 5 = .ok (.invokevirtual 74, 3) := by decide +kernel
theorem dL_unpaid_8 : decode cL_unpaid 8 = .ok (.i2l, 1) := by decide +kernel
theorem dL_unpaid_9 : decode cL_unpaid 9 = .ok (.lastore, 1) := by decide +kernel
theorem dL_unpaid_10 : decode cL_unpaid 10 = .ok (.goto 11, 3) := by decide +kernel
theorem dL_unpaid_13 : decode cL_unpaid 13 = .ok (.astore 4, 2) := by decide +kernel
theorem dL_unpaid_15 : decode cL_unpaid 15 = .ok (.iconst 1, 1) := by decide +kernel
theorem dL_unpaid_16 : decode cL_unpaid 16 = .ok (.ireturn, 1) := by decide +kernel
theorem dL_unpaid_17 : decode cL_unpaid 17 = .ok (.astore 4, 2) := by decide +kernel
theorem dL_unpaid_19 : decode cL_unpaid 19 = .ok (.iconst 2, 1) := by decide +kernel
theorem dL_unpaid_20 : decode cL_unpaid 20 = .ok (.ireturn, 1) := by decide +kernel
theorem dL_unpaid_21 : decode cL_unpaid 21 = .ok (.iconst 0, 1) := by decide +kernel
theorem dL_unpaid_22 : decode cL_unpaid 22 = .ok (.ireturn, 1) := by decide +kernel
set_option maxRecDepth 20000 in
theorem ggL_nextExpiry_X3_nextExpiry : GoodIn wsL_nextExpiry wsX3_nextExpiry := goodIn_ca (goodIn_ca (goodIn_r _ [7, 8, 9, 10, 6, 11, 12, 13, 14, 15, 16, 17, 18, 19, 20, 21, 22, 23, 24, 25, 26, 27, 28, 29, 30, 31, 32, 33, 34, 35, 36, 37, 38, 39, 40, 41, 42, 43, 44, 45, 46, 47, 48, 49, 50, 51, 52, 53, 54, 55, 56, 57, 58, 59, 60, 61, 62, 63, 64, 65, 66, 67, 68, 69, 70, 71, 72, 73, 74, 75, 76, 77, 78, 79, 80, 81, 82, 83, 84, 85, 86, 87, 88, 89, 90, 91, 92, 93, 94, 95, 96, 97, 98, 99, 100, 101, 102, 103, 104, 105, 106, 107, 108, 109, 110, 111, 112, 113, 114, 115, 116, 117, 118, 119, 120, 121, 122, 123, 124, 125, 126, 127, 128, 129, 130, 131, 132, 133, 134, 135, 136, 137, 138, 139, 140, 141] (by decide +kernel) (by decide +kernel)) (goodIn_sub (fun _ h => List.mem_cons_of_mem _ (List.mem_append_left _ (List.mem_append_right _ h))) (by decide +kernel))) (goodIn_sub (fun _ h => List.mem_cons_of_mem _ (List.mem_append_right _ h)) (by decide +kernel))
set_option maxRecDepth 20000 in
theorem gL_nextExpiry_X3_nextExpiry : GoodIn wsL_nextExpiry (wsV RL 77 RX3 yX3_nextExpiry wsX3_nextExpiry) := goodIn_app (goodIn_of _ (by decide +kernel)) ggL_nextExpiry_X3_nextExpiry
theorem dL_nextExpiry_0 : decode cL_nextExpiry 0 = .ok (.aload_n 3, 1) := by decide +kernel
theorem dL_nextExpiry_1 : decode cL_nextExpiry 1 = .ok (.iconst 0, 1) := by decide +kernel
theorem dL_nextExpiry_2 : decode cL_nextExpiry 2 = .ok (.aload_n 0, 1) := by decide +kernel
theorem dL_nextExpiry_3 : decode cL_nextExpiry 3 = .ok (.iload_n 1, 1) := by decide +kernel
theorem dL_nextExpiry_4 : decode cL_nextExpiry 4 = .ok (.iload_n 2, 1) := by decide +kernel
theorem dL_nextExpiry_5 : decode cL_nextExpiry 5 = .ok (.invokevirtual 77, 3) := by decide +kernel
theorem dL_nextExpiry_8 : decode cL_nextExpiry 8 = .ok (.i2l, 1) := by decide +kernel
theorem dL_nextExpiry_9 : decode cL_nextExpiry 9 = .ok (.lastore, 1) := by decide +kernel
theorem dL_nextExpiry_10 : decode cL_nextExpiry 10 = .ok (.goto 11, 3) := by decide +kernel
theorem dL_nextExpiry_13 : decode cL_nextExpiry 13 = .ok (.astore 4, 2) := by decide +kernel
theorem dL_nextExpiry_15 : decode cL_nextExpiry 15 = .ok (.iconst 1, 1) := by decide +kernel
theorem dL_nextExpiry_16 : decode cL_nextExpiry 16 = .ok (.ireturn, 1) := by decide +kernel
theorem dL_nextExpiry_17 : decode cL_nextExpiry 17 = .ok (.astore 4, 2) := by decide +kernel
theorem dL_nextExpiry_19 : decode cL_nextExpiry 19 = .ok (.iconst 2, 1) := by decide +kernel
theorem dL_nextExpiry_20 : decode cL_nextExpiry 20 = .ok (.ireturn, 1) := by decide +kernel
theorem dL_nextExpiry_21 : decode cL_nextExpiry 21 = .ok (.iconst 0, 1) := by decide +kernel
theorem dL_nextExpiry_22 : decode cL_nextExpiry 22 = .ok (.ireturn, 1) := by decide +kernel
