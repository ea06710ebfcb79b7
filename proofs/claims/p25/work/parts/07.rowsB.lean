theorem dX3_init_0 : decode cX3_init 0 = .ok (.aload_n 0, 1) := by decide +kernel
theorem dX3_init_1 : decode cX3_init 1 = .ok (.invokespecial 3, 3) := by decide +kernel
theorem dX3_init_4 : decode cX3_init 4 = .ok (.aload_n 0, 1) := by decide +kernel
theorem dX3_init_5 : decode cX3_init 5 = .ok (.bipush 8, 2) := by decide +kernel
theorem dX3_init_7 : decode cX3_init 7 = .ok (.anewarray 9, 3) := by decide +kernel
theorem dX3_init_10 : decode cX3_init 10 = .ok (.putfield 11, 3) := by decide +kernel
theorem dX3_init_13 : decode cX3_init 13 = .ok (.aload_n 0, 1) := by decide +kernel
theorem dX3_init_14 : decode cX3_init 14 = .ok (.bipush 40, 2) := by decide +kernel
theorem dX3_init_16 : decode cX3_init 16 = .ok (.anewarray 15, 3) := by decide +kernel
theorem dX3_init_19 : decode cX3_init 19 = .ok (.putfield 17, 3) := by decide +kernel
theorem dX3_init_22 : decode cX3_init 22 = .ok (.aload_n 0, 1) := by decide +kernel
theorem dX3_init_23 : decode cX3_init 23 = .ok (.new 21, 3) := by decide +kernel
theorem dX3_init_26 : decode cX3_init 26 = .ok (.dup, 1) := by decide +kernel
theorem dX3_init_27 : decode cX3_init 27 = .ok (.invokespecial 23, 3) := by decide +kernel
theorem dX3_init_30 : decode cX3_init 30 = .ok (.putfield 24, 3) := by decide +kernel
theorem dX3_init_33 : decode cX3_init 33 = .ok (.return_, 1) := by decide +kernel
set_option maxRecDepth 20000 in
theorem ggX3_addPerson_X3_checkHours : GoodIn wsX3_addPerson wsX3_checkHours := goodIn_ca (goodIn_r _ [14, 1, 2] (by decide +kernel) (by decide +kernel)) (goodIn_sub (fun _ h => List.mem_cons_of_mem _ (List.mem_append_left _ (List.mem_append_right _ h))) (by decide +kernel))
set_option maxRecDepth 20000 in
theorem gX3_addPerson_X3_checkHours : GoodIn wsX3_addPerson (va_wsS RX3 35 yX3_checkHours wsX3_checkHours) := goodIn_app (goodIn_of _ (by decide +kernel)) ggX3_addPerson_X3_checkHours
set_option maxRecDepth 20000 in
theorem ggX3_addPerson_X1_init : GoodIn wsX3_addPerson wsX1_init := goodIn_r _ [17, 18, 19, 20, 21, 22, 23, 24, 25, 26, 27, 28, 29, 30, 31, 32, 33, 42, 43, 44, 45, 46, 47, 48, 49, 50, 51, 52, 53, 54, 55, 56] (by decide +kernel) (by decide +kernel)
set_option maxRecDepth 20000 in
theorem gX3_addPerson_X1_init : GoodIn wsX3_addPerson (wsX1_init) := ggX3_addPerson_X1_init
theorem dX3_addPerson_0 : decode cX3_addPerson 0 = .ok (.iload_n 1, 1) := by decide +kernel
theorem dX3_addPerson_1 : decode cX3_addPerson 1 = .ok (.bipush 20, 2) := by decide +kernel
theorem dX3_addPerson_3 : decode cX3_addPerson 3 = .ok (.if_icmp .lt 9, 3) := by decide +kernel
theorem dX3_addPerson_6 : decode cX3_addPerson 6 = .ok (.iload_n 1, 1) := by decide +kernel
theorem dX3_addPerson_7 : decode cX3_addPerson 7 = .ok (.bipush 80, 2) := by decide +kernel
theorem dX3_addPerson_9 : decode cX3_addPerson 9 = .ok (.if_icmp .le 13, 3) := by decide +kernel
theorem dX3_addPerson_12 : decode cX3_addPerson 12 = .ok (.new 28, 3) := by decide +kernel
theorem dX3_addPerson_15 : decode cX3_addPerson 15 = .ok (.dup, 1) := by decide +kernel
theorem dX3_addPerson_16 : decode cX3_addPerson 16 = .ok (.ldc 30, 2) := by decide +kernel
theorem dX3_addPerson_18 : decode cX3_addPerson 18 = .ok (.invokespecial 32, 3) := by decide +kernel
theorem dX3_addPerson_21 : decode cX3_addPerson 21 = .ok (.athrow, 1) := by decide +kernel
theorem dX3_addPerson_22 : decode cX3_addPerson 22 = .ok (.iload_n 2, 1) := by decide +kernel
theorem dX3_addPerson_23 : decode cX3_addPerson 23 = .ok (.invokestatic 35, 3) := by decide +kernel
theorem dX3_addPerson_26 : decode cX3_addPerson 26 = .ok (.aload_n 0, 1) := by decide +kernel
theorem dX3_addPerson_27 : decode cX3_addPerson 27 = .ok (.getfield 39, 3) := by decide +kernel
theorem dX3_addPerson_30 : decode cX3_addPerson 30 = .ok (.aload_n 0, 1) := by decide +kernel
theorem dX3_addPerson_31 : decode cX3_addPerson 31 = .ok (.getfield 11, 3) := by decide +kernel
theorem dX3_addPerson_34 : decode cX3_addPerson 34 = .ok (.arraylength, 1) := by decide +kernel
theorem dX3_addPerson_35 : decode cX3_addPerson 35 = .ok (.if_icmp .lt 13, 3) := by decide +kernel
theorem dX3_addPerson_38 : decode cX3_addPerson 38 = .ok (.new 43, 3) := by decide +kernel
theorem dX3_addPerson_41 : decode cX3_addPerson 41 = .ok (.dup, 1) := by decide +kernel
theorem dX3_addPerson_42 : decode cX3_addPerson 42 = .ok (.ldc 45, 2) := by decide +kernel
theorem dX3_addPerson_44 : decode cX3_addPerson 44 = .ok (.invokespecial 47, 3) := by decide +kernel
theorem dX3_addPerson_47 : decode cX3_addPerson 47 = .ok (.athrow, 1) := by decide +kernel
theorem dX3_addPerson_48 : decode cX3_addPerson 48 = .ok (.aload_n 0, 1) := by decide +kernel
theorem dX3_addPerson_49 : decode cX3_addPerson 49 = .ok (.getfield 39, 3) := by decide +kernel
theorem dX3_addPerson_52 : decode cX3_addPerson 52 = .ok (.istore_n 3, 1) := by decide +kernel
theorem dX3_addPerson_53 : decode cX3_addPerson 53 = .ok (.aload_n 0, 1) := by decide +kernel
theorem dX3_addPerson_54 : decode cX3_addPerson 54 = .ok (.getfield 11, 3) := by decide +kernel
theorem dX3_addPerson_57 : decode cX3_addPerson 57 = .ok (.iload_n 3, 1) := by decide +kernel
theorem dX3_addPerson_58 : decode cX3_addPerson 58 = .ok (.new 9, 3) := by decide +kernel
theorem dX3_addPerson_61 : decode cX3_addPerson 61 = .ok (.dup, 1) := by decide +kernel
theorem dX3_addPerson_62 : decode cX3_addPerson 62 = .ok (.aload_n 0, 1) := by decide +kernel
theorem dX3_addPerson_63 : decode cX3_addPerson 63 = .ok (.getfield 48, 3) := by decide +kernel
theorem dX3_addPerson_66 : decode cX3_addPerson 66 = .ok (.iload_n 1, 1) := by decide +kernel
theorem dX3_addPerson_67 : decode cX3_addPerson 67 = .ok (.iload_n 2, 1) := by decide +kernel
theorem dX3_addPerson_68 : decode cX3_addPerson 68 = .ok (.invokespecial 51, 3) := by decide +kernel
theorem dX3_addPerson_71 : decode cX3_addPerson 71 = .ok (.aastore, 1) := by decide +kernel
theorem dX3_addPerson_72 : decode cX3_addPerson 72 = .ok (.aload_n 0, 1) := by decide +kernel
theorem dX3_addPerson_73 : decode cX3_addPerson 73 = .ok (.iload_n 3, 1) := by decide +kernel
theorem dX3_addPerson_74 : decode cX3_addPerson 74 = .ok (.iconst 1, 1) := by decide +kernel
theorem dX3_addPerson_75 : decode cX3_addPerson 75 = .ok (.iadd, 1) := by decide +kernel
theorem dX3_addPerson_76 : decode cX3_addPerson 76 = .ok (.putfield 39, 3) := by decide +kernel
theorem dX3_addPerson_79 : decode cX3_addPerson 79 = .ok (.iload_n 3, 1) := by decide +kernel
theorem dX3_addPerson_80 : decode cX3_addPerson 80 = .ok (.ireturn, 1) := by decide +kernel
set_option maxRecDepth 20000 in
theorem ggX3_setHours_X3_personAt : GoodIn wsX3_setHours wsX3_personAt := goodIn_ca (goodIn_r _ [8, 9, 10, 11, 52, 53, 54, 55, 56, 57, 58, 59] (by decide +kernel) (by decide +kernel)) (goodIn_sub (fun _ h => List.mem_cons_of_mem _ (List.mem_append_left _ (List.mem_append_right _ h))) (by decide +kernel))
set_option maxRecDepth 20000 in
theorem gX3_setHours_X3_personAt : GoodIn wsX3_setHours (wsV RX3 54 RX3 yX3_personAt wsX3_personAt) := goodIn_app (goodIn_of _ (by decide +kernel)) ggX3_setHours_X3_personAt
set_option maxRecDepth 20000 in
theorem ggX3_setHours_X3_checkDay : GoodIn wsX3_setHours wsX3_checkDay := goodIn_ca (goodIn_r _ [14, 15, 16] (by decide +kernel) (by decide +kernel)) (goodIn_sub (fun _ h => List.mem_cons_of_mem _ (List.mem_append_right _ h)) (by decide +kernel))
set_option maxRecDepth 20000 in
theorem gX3_setHours_X3_checkDay : GoodIn wsX3_setHours (va_wsS RX3 61 yX3_checkDay wsX3_checkDay) := goodIn_app (goodIn_of _ (by decide +kernel)) ggX3_setHours_X3_checkDay
set_option maxRecDepth 20000 in
theorem ggX3_setHours_X3_checkHours : GoodIn wsX3_setHours wsX3_checkHours := goodIn_ca (goodIn_r _ [19, 15, 16] (by decide +kernel) (by decide +kernel)) (goodIn_sub (fun _ h => List.mem_cons_of_mem _ (List.mem_append_right _ h)) (by decide +kernel))
set_option maxRecDepth 20000 in
theorem gX3_setHours_X3_checkHours : GoodIn wsX3_setHours (va_wsS RX3 35 yX3_checkHours wsX3_checkHours) := goodIn_app (goodIn_of _ (by decide +kernel)) ggX3_setHours_X3_checkHours
set_option maxRecDepth 20000 in
theorem ggX3_setHours_X1_hoursOn : GoodIn wsX3_setHours wsX1_hoursOn := goodIn_r _ [24, 25, 26, 27, 28, 37, 38, 39, 40, 41, 42, 43, 44, 45, 46, 47, 48, 49, 50, 51] (by decide +kernel) (by decide +kernel)
set_option maxRecDepth 20000 in
theorem gX3_setHours_X1_hoursOn : GoodIn wsX3_setHours (wsV RX3 65 RX1 yX1_hoursOn wsX1_hoursOn) := goodIn_app (goodIn_of _ (by decide +kernel)) ggX3_setHours_X1_hoursOn
set_option maxRecDepth 20000 in
theorem ggX3_setHours_X1_enterHours : GoodIn wsX3_setHours wsX1_enterHours := goodIn_r _ [32, 26, 27, 28, 33, 34, 35, 36, 37, 38, 39, 40, 41, 42, 43, 44, 45, 46, 47, 48, 49, 50, 51] (by decide +kernel) (by decide +kernel)
set_option maxRecDepth 20000 in
theorem gX3_setHours_X1_enterHours : GoodIn wsX3_setHours (wsV RX3 69 RX1 yX1_enterHours wsX1_enterHours) := goodIn_app (goodIn_of _ (by decide +kernel)) ggX3_setHours_X1_enterHours
theorem dX3_setHours_0 : decode cX3_setHours 0 = .ok (.aload_n 0, 1) := by decide +kernel
theorem dX3_setHours_1 : decode cX3_setHours 1 = .ok (.iload_n 1, 1) := by decide +kernel
theorem dX3_setHours_2 : decode cX3_setHours 2 = .ok (.invokevirtual 54, 3) := by decide +kernel
theorem dX3_setHours_5 : decode cX3_setHours 5 = .ok (.astore 4, 2) := by decide +kernel
theorem dX3_setHours_7 : decode cX3_setHours 7 = .ok (.aload 4, 2) := by decide +kernel
theorem dX3_setHours_9 : decode cX3_setHours 9 = .ok (.getfield 58, 3) := by decide +kernel
theorem dX3_setHours_12 : decode cX3_setHours 12 = .ok (.iload_n 2, 1) := by decide +kernel
theorem dX3_setHours_13 : decode cX3_setHours 13 = .ok (.invokestatic 61, 3) := by decide +kernel
theorem dX3_setHours_16 : decode cX3_setHours 16 = .ok (.iload_n 3, 1) := by decide +kernel
theorem dX3_setHours_17 : decode cX3_setHours 17 = .ok (.invokestatic 35, 3) := by decide +kernel
theorem dX3_setHours_20 : decode cX3_setHours 20 = .ok (.aload 4, 2) := by decide +kernel
theorem dX3_setHours_22 : decode cX3_setHours 22 = .ok (.iload_n 2, 1) := by decide +kernel
theorem dX3_setHours_23 : decode cX3_setHours 23 = .ok (.invokevirtual 65, 3) := by decide +kernel
theorem dX3_setHours_26 : decode cX3_setHours 26 = .ok (.istore 5, 2) := by decide +kernel
theorem dX3_setHours_28 : decode cX3_setHours 28 = .ok (.aload 4, 2) := by decide +kernel
theorem dX3_setHours_30 : decode cX3_setHours 30 = .ok (.iload_n 2, 1) := by decide +kernel
theorem dX3_setHours_31 : decode cX3_setHours 31 = .ok (.iload_n 3, 1) := by decide +kernel
theorem dX3_setHours_32 : decode cX3_setHours 32 = .ok (.invokevirtual 69, 3) := by decide +kernel
theorem dX3_setHours_35 : decode cX3_setHours 35 = .ok (.ifCond .ne 13, 3) := by decide +kernel
theorem dX3_setHours_38 : decode cX3_setHours 38 = .ok (.new 43, 3) := by decide +kernel
theorem dX3_setHours_41 : decode cX3_setHours 41 = .ok (.dup, 1) := by decide +kernel
theorem dX3_setHours_42 : decode cX3_setHours 42 = .ok (.ldc 73, 2) := by decide +kernel
theorem dX3_setHours_44 : decode cX3_setHours 44 = .ok (.invokespecial 47, 3) := by decide +kernel
theorem dX3_setHours_47 : decode cX3_setHours 47 = .ok (.athrow, 1) := by decide +kernel
theorem dX3_setHours_48 : decode cX3_setHours 48 = .ok (.iload 5, 2) := by decide +kernel
theorem dX3_setHours_50 : decode cX3_setHours 50 = .ok (.ireturn, 1) := by decide +kernel
set_option maxRecDepth 20000 in
theorem ggX3_request_X3_personAt : GoodIn wsX3_request wsX3_personAt := goodIn_ca (goodIn_r _ [13, 14, 15, 16, 84, 85, 86, 87, 88, 89, 90, 91] (by decide +kernel) (by decide +kernel)) (goodIn_sub (fun _ h => List.mem_cons_of_mem _ (List.mem_append_left _ (List.mem_append_right _ h))) (by decide +kernel))
set_option maxRecDepth 20000 in
theorem gX3_request_X3_personAt : GoodIn wsX3_request (wsV RX3 54 RX3 yX3_personAt wsX3_personAt) := goodIn_app (goodIn_of _ (by decide +kernel)) ggX3_request_X3_personAt
set_option maxRecDepth 20000 in
theorem ggX3_request_X3_checkDays : GoodIn wsX3_request wsX3_checkDays := goodIn_ca (goodIn_r _ [19, 20, 21] (by decide +kernel) (by decide +kernel)) (goodIn_sub (fun _ h => List.mem_cons_of_mem _ (List.mem_append_right _ h)) (by decide +kernel))
set_option maxRecDepth 20000 in
theorem gX3_request_X3_checkDays : GoodIn wsX3_request (va_wsS RX3 75 yX3_checkDays wsX3_checkDays) := goodIn_app (goodIn_of _ (by decide +kernel)) ggX3_request_X3_checkDays
set_option maxRecDepth 20000 in
theorem ggX3_request_X2_init : GoodIn wsX3_request wsX2_init := goodIn_r _ [24, 25, 26, 27, 28, 29, 30, 31, 92, 93, 94, 95, 96] (by decide +kernel) (by decide +kernel)
set_option maxRecDepth 20000 in
theorem gX3_request_X2_init : GoodIn wsX3_request (wsX2_init) := ggX3_request_X2_init
set_option maxRecDepth 20000 in
theorem ggX3_request_X1_enterRequest : GoodIn wsX3_request wsX1_enterRequest := goodIn_r _ [36, 37, 38, 39, 40, 41, 42, 43, 35, 44, 45, 46, 47, 48, 49, 50, 51, 52, 53, 54, 55, 12, 56, 57, 58, 59, 60, 61, 62, 63, 64, 65, 66, 8, 67, 68, 30, 31, 69, 70, 71, 72, 73, 74, 75, 76, 77, 78, 79, 80, 81, 82, 83, 92, 93, 94, 95, 96] (by decide +kernel) (by decide +kernel)
set_option maxRecDepth 20000 in
theorem gX3_request_X1_enterRequest : GoodIn wsX3_request (wsV RX3 86 RX1 yX1_enterRequest wsX1_enterRequest) := goodIn_app (goodIn_of _ (by decide +kernel)) ggX3_request_X1_enterRequest
theorem dX3_request_0 : decode cX3_request 0 = .ok (.aload_n 0, 1) := by decide +kernel
theorem dX3_request_1 : decode cX3_request 1 = .ok (.iload_n 1, 1) := by decide +kernel
theorem dX3_request_2 : decode cX3_request 2 = .ok (.invokevirtual 54, 3) := by decide +kernel
theorem dX3_request_5 : decode cX3_request 5 = .ok (.astore 5, 2) := by decide +kernel
theorem dX3_request_7 : decode cX3_request 7 = .ok (.aload 5, 2) := by decide +kernel
theorem dX3_request_9 : decode cX3_request 9 = .ok (.getfield 58, 3) := by decide +kernel
theorem dX3_request_12 : decode cX3_request 12 = .ok (.iload_n 2, 1) := by decide +kernel
theorem dX3_request_13 : decode cX3_request 13 = .ok (.iload_n 3, 1) := by decide +kernel
theorem dX3_request_14 : decode cX3_request 14 = .ok (.invokestatic 75, 3) := by decide +kernel
theorem dX3_request_17 : decode cX3_request 17 = .ok (.aload_n 0, 1) := by decide +kernel
theorem dX3_request_18 : decode cX3_request 18 = .ok (.getfield 78, 3) := by decide +kernel
theorem dX3_request_21 : decode cX3_request 21 = .ok (.aload_n 0, 1) := by decide +kernel
theorem dX3_request_22 : decode cX3_request 22 = .ok (.getfield 17, 3) := by decide +kernel
theorem dX3_request_25 : decode cX3_request 25 = .ok (.arraylength, 1) := by decide +kernel
theorem dX3_request_26 : decode cX3_request 26 = .ok (.if_icmp .lt 13, 3) := by decide +kernel
theorem dX3_request_29 : decode cX3_request 29 = .ok (.new 43, 3) := by decide +kernel
theorem dX3_request_32 : decode cX3_request 32 = .ok (.dup, 1) := by decide +kernel
theorem dX3_request_33 : decode cX3_request 33 = .ok (.ldc 81, 2) := by decide +kernel
theorem dX3_request_35 : decode cX3_request 35 = .ok (.invokespecial 47, 3) := by decide +kernel
theorem dX3_request_38 : decode cX3_request 38 = .ok (.athrow, 1) := by decide +kernel
theorem dX3_request_39 : decode cX3_request 39 = .ok (.new 15, 3) := by decide +kernel
theorem dX3_request_42 : decode cX3_request 42 = .ok (.dup, 1) := by decide +kernel
theorem dX3_request_43 : decode cX3_request 43 = .ok (.aload 5, 2) := by decide +kernel
theorem dX3_request_45 : decode cX3_request 45 = .ok (.iload_n 2, 1) := by decide +kernel
theorem dX3_request_46 : decode cX3_request 46 = .ok (.iload_n 3, 1) := by decide +kernel
theorem dX3_request_47 : decode cX3_request 47 = .ok (.iload 4, 2) := by decide +kernel
theorem dX3_request_49 : decode cX3_request 49 = .ok (.invokespecial 83, 3) := by decide +kernel
theorem dX3_request_52 : decode cX3_request 52 = .ok (.astore 6, 2) := by decide +kernel
theorem dX3_request_54 : decode cX3_request 54 = .ok (.aload 5, 2) := by decide +kernel
theorem dX3_request_56 : decode cX3_request 56 = .ok (.aload 6, 2) := by decide +kernel
theorem dX3_request_58 : decode cX3_request 58 = .ok (.invokevirtual 86, 3) := by decide +kernel
theorem dX3_request_61 : decode cX3_request 61 = .ok (.aload_n 0, 1) := by decide +kernel
theorem dX3_request_62 : decode cX3_request 62 = .ok (.getfield 78, 3) := by decide +kernel
theorem dX3_request_65 : decode cX3_request 65 = .ok (.istore 7, 2) := by decide +kernel
theorem dX3_request_67 : decode cX3_request 67 = .ok (.aload_n 0, 1) := by decide +kernel
theorem dX3_request_68 : decode cX3_request 68 = .ok (.getfield 17, 3) := by decide +kernel
theorem dX3_request_71 : decode cX3_request 71 = .ok (.iload 7, 2) := by decide +kernel
theorem dX3_request_73 : decode cX3_request 73 = .ok (.aload 6, 2) := by decide +kernel
theorem dX3_request_75 : decode cX3_request 75 = .ok (.aastore, 1) := by decide +kernel
theorem dX3_request_76 : decode cX3_request 76 = .ok (.aload_n 0, 1) := by decide +kernel
theorem dX3_request_77 : decode cX3_request 77 = .ok (.iload 7, 2) := by decide +kernel
theorem dX3_request_79 : decode cX3_request 79 = .ok (.iconst 1, 1) := by decide +kernel
theorem dX3_request_80 : decode cX3_request 80 = .ok (.iadd, 1) := by decide +kernel
theorem dX3_request_81 : decode cX3_request 81 = .ok (.putfield 78, 3) := by decide +kernel
theorem dX3_request_84 : decode cX3_request 84 = .ok (.iload 7, 2) := by decide +kernel
theorem dX3_request_86 : decode cX3_request 86 = .ok (.ireturn, 1) := by decide +kernel
set_option maxRecDepth 20000 in
theorem ggX3_change_X3_requestAt : GoodIn wsX3_change wsX3_requestAt := goodIn_ca (goodIn_r _ [12, 13, 14, 15, 75, 76, 77, 78, 79, 80, 81, 82] (by decide +kernel) (by decide +kernel)) (goodIn_sub (fun _ h => List.mem_cons_of_mem _ (List.mem_append_left _ (List.mem_append_right _ h))) (by decide +kernel))
set_option maxRecDepth 20000 in
theorem gX3_change_X3_requestAt : GoodIn wsX3_change (wsV RX3 90 RX3 yX3_requestAt wsX3_requestAt) := goodIn_app (goodIn_of _ (by decide +kernel)) ggX3_change_X3_requestAt
set_option maxRecDepth 20000 in
theorem ggX3_change_X3_checkDays : GoodIn wsX3_change wsX3_checkDays := goodIn_ca (goodIn_r _ [18, 19, 20] (by decide +kernel) (by decide +kernel)) (goodIn_sub (fun _ h => List.mem_cons_of_mem _ (List.mem_append_right _ h)) (by decide +kernel))
set_option maxRecDepth 20000 in
theorem gX3_change_X3_checkDays : GoodIn wsX3_change (va_wsS RX3 75 yX3_checkDays wsX3_checkDays) := goodIn_app (goodIn_of _ (by decide +kernel)) ggX3_change_X3_checkDays
set_option maxRecDepth 20000 in
theorem ggX3_change_X1_markLeave : GoodIn wsX3_change wsX1_markLeave := goodIn_r _ [25, 26, 27, 28, 29, 30, 31, 32, 33, 24, 34, 35, 36, 37, 38, 11, 39, 40, 41, 42, 43, 44, 45, 46, 47, 48, 49, 50, 51, 52, 53, 54, 60, 61, 62, 63, 64, 65, 66, 67, 68, 69, 70, 71, 72, 73, 74, 55, 56, 57, 58, 59] (by decide +kernel) (by decide +kernel)
set_option maxRecDepth 20000 in
theorem gX3_change_X1_markLeave : GoodIn wsX3_change (wsV RX3 108 RX1 yX1_markLeave wsX1_markLeave) := goodIn_app (goodIn_of _ (by decide +kernel)) ggX3_change_X1_markLeave
theorem dX3_change_0 : decode cX3_change 0 = .ok (.aload_n 0, 1) := by decide +kernel
theorem dX3_change_1 : decode cX3_change 1 = .ok (.iload_n 1, 1) := by decide +kernel
theorem dX3_change_2 : decode cX3_change 2 = .ok (.invokevirtual 90, 3) := by decide +kernel
theorem dX3_change_5 : decode cX3_change 5 = .ok (.astore 4, 2) := by decide +kernel
theorem dX3_change_7 : decode cX3_change 7 = .ok (.aload 4, 2) := by decide +kernel
theorem dX3_change_9 : decode cX3_change 9 = .ok (.getfield 94, 3) := by decide +kernel
theorem dX3_change_12 : decode cX3_change 12 = .ok (.getfield 58, 3) := by decide +kernel
theorem dX3_change_15 : decode cX3_change 15 = .ok (.iload_n 2, 1) := by decide +kernel
theorem dX3_change_16 : decode cX3_change 16 = .ok (.iload_n 3, 1) := by decide +kernel
theorem dX3_change_17 : decode cX3_change 17 = .ok (.invokestatic 75, 3) := by decide +kernel
theorem dX3_change_20 : decode cX3_change 20 = .ok (.aload 4, 2) := by decide +kernel
theorem dX3_change_22 : decode cX3_change 22 = .ok (.getfield 98, 3) := by decide +kernel
theorem dX3_change_25 : decode cX3_change 25 = .ok (.ifCond .eq 13, 3) := by decide +kernel
theorem dX3_change_28 : decode cX3_change 28 = .ok (.new 43, 3) := by decide +kernel
theorem dX3_change_31 : decode cX3_change 31 = .ok (.dup, 1) := by decide +kernel
theorem dX3_change_32 : decode cX3_change 32 = .ok (.ldc 102, 2) := by decide +kernel
theorem dX3_change_34 : decode cX3_change 34 = .ok (.invokespecial 47, 3) := by decide +kernel
theorem dX3_change_37 : decode cX3_change 37 = .ok (.athrow, 1) := by decide +kernel
theorem dX3_change_38 : decode cX3_change 38 = .ok (.aload 4, 2) := by decide +kernel
theorem dX3_change_40 : decode cX3_change 40 = .ok (.getfield 104, 3) := by decide +kernel
theorem dX3_change_43 : decode cX3_change 43 = .ok (.istore 5, 2) := by decide +kernel
theorem dX3_change_45 : decode cX3_change 45 = .ok (.aload 4, 2) := by decide +kernel
theorem dX3_change_47 : decode cX3_change 47 = .ok (.getfield 105, 3) := by decide +kernel
theorem dX3_change_50 : decode cX3_change 50 = .ok (.istore 6, 2) := by decide +kernel
theorem dX3_change_52 : decode cX3_change 52 = .ok (.aload 4, 2) := by decide +kernel
theorem dX3_change_54 : decode cX3_change 54 = .ok (.iload_n 2, 1) := by decide +kernel
theorem dX3_change_55 : decode cX3_change 55 = .ok (.putfield 104, 3) := by decide +kernel
theorem dX3_change_58 : decode cX3_change 58 = .ok (.aload 4, 2) := by decide +kernel
theorem dX3_change_60 : decode cX3_change 60 = .ok (.iload_n 3, 1) := by decide +kernel
theorem dX3_change_61 : decode cX3_change 61 = .ok (.putfield 105, 3) := by decide +kernel
theorem dX3_change_64 : decode cX3_change 64 = .ok (.aload 4, 2) := by decide +kernel
theorem dX3_change_66 : decode cX3_change 66 = .ok (.getfield 94, 3) := by decide +kernel
theorem dX3_change_69 : decode cX3_change 69 = .ok (.iload 5, 2) := by decide +kernel
theorem dX3_change_71 : decode cX3_change 71 = .ok (.iload 6, 2) := by decide +kernel
theorem dX3_change_73 : decode cX3_change 73 = .ok (.invokevirtual 108, 3) := by decide +kernel
theorem dX3_change_76 : decode cX3_change 76 = .ok (.aload 4, 2) := by decide +kernel
theorem dX3_change_78 : decode cX3_change 78 = .ok (.getfield 94, 3) := by decide +kernel
theorem dX3_change_81 : decode cX3_change 81 = .ok (.iload_n 2, 1) := by decide +kernel
theorem dX3_change_82 : decode cX3_change 82 = .ok (.iload_n 3, 1) := by decide +kernel
theorem dX3_change_83 : decode cX3_change 83 = .ok (.invokevirtual 108, 3) := by decide +kernel
theorem dX3_change_86 : decode cX3_change 86 = .ok (.iload 6, 2) := by decide +kernel
theorem dX3_change_88 : decode cX3_change 88 = .ok (.iload 5, 2) := by decide +kernel
theorem dX3_change_90 : decode cX3_change 90 = .ok (.isub, 1) := by decide +kernel
theorem dX3_change_91 : decode cX3_change 91 = .ok (.iconst 1, 1) := by decide +kernel
theorem dX3_change_92 : decode cX3_change 92 = .ok (.iadd, 1) := by decide +kernel
theorem dX3_change_93 : decode cX3_change 93 = .ok (.ireturn, 1) := by decide +kernel
set_option maxRecDepth 20000 in
theorem ggX3_cancel_X3_requestAt : GoodIn wsX3_cancel wsX3_requestAt := goodIn_ca (goodIn_r _ [11, 12, 13, 14, 54, 55, 56, 57, 58, 59, 60, 61] (by decide +kernel) (by decide +kernel)) (goodIn_sub (fun _ h => List.mem_cons_of_mem _ (List.mem_append_right _ h)) (by decide +kernel))
set_option maxRecDepth 20000 in
theorem gX3_cancel_X3_requestAt : GoodIn wsX3_cancel (wsV RX3 90 RX3 yX3_requestAt wsX3_requestAt) := goodIn_app (goodIn_of _ (by decide +kernel)) ggX3_cancel_X3_requestAt
set_option maxRecDepth 20000 in
theorem ggX3_cancel_X1_markLeave : GoodIn wsX3_cancel wsX1_markLeave := goodIn_r _ [19, 20, 21, 22, 23, 24, 25, 26, 27, 18, 28, 29, 30, 31, 32, 10, 33, 34, 35, 36, 37, 38, 39, 40, 41, 42, 43, 44, 45, 46, 47, 48, 62, 63, 64, 65, 66, 67, 68, 69, 70, 71, 72, 73, 74, 75, 76, 49, 50, 51, 52, 53] (by decide +kernel) (by decide +kernel)
set_option maxRecDepth 20000 in
theorem gX3_cancel_X1_markLeave : GoodIn wsX3_cancel (wsV RX3 108 RX1 yX1_markLeave wsX1_markLeave) := goodIn_app (goodIn_of _ (by decide +kernel)) ggX3_cancel_X1_markLeave
theorem dX3_cancel_0 : decode cX3_cancel 0 = .ok (.aload_n 0, 1) := by decide +kernel
theorem dX3_cancel_1 : decode cX3_cancel 1 = .ok (.iload_n 1, 1) := by decide +kernel
theorem dX3_cancel_2 : decode cX3_cancel 2 = .ok (.invokevirtual 90, 3) := by decide +kernel
theorem dX3_cancel_5 : decode cX3_cancel 5 = .ok (.astore_n 2, 1) := by decide +kernel
theorem dX3_cancel_6 : decode cX3_cancel 6 = .ok (.aload_n 2, 1) := by decide +kernel
theorem dX3_cancel_7 : decode cX3_cancel 7 = .ok (.getfield 98, 3) := by decide +kernel
theorem dX3_cancel_10 : decode cX3_cancel 10 = .ok (.ifCond .eq 13, 3) := by decide +kernel
theorem dX3_cancel_13 : decode cX3_cancel 13 = .ok (.new 43, 3) := by decide +kernel
theorem dX3_cancel_16 : decode cX3_cancel 16 = .ok (.dup, 1) := by decide +kernel
theorem dX3_cancel_17 : decode cX3_cancel 17 = .ok (.ldc 102, 2) := by decide +kernel
theorem dX3_cancel_19 : decode cX3_cancel 19 = .ok (.invokespecial 47, 3) := by decide +kernel
theorem dX3_cancel_22 : decode cX3_cancel 22 = .ok (.athrow, 1) := by decide +kernel
theorem dX3_cancel_23 : decode cX3_cancel 23 = .ok (.aload_n 2, 1) := by decide +kernel
theorem dX3_cancel_24 : decode cX3_cancel 24 = .ok (.iconst 1, 1) := by decide +kernel
theorem dX3_cancel_25 : decode cX3_cancel 25 = .ok (.putfield 98, 3) := by decide +kernel
theorem dX3_cancel_28 : decode cX3_cancel 28 = .ok (.aload_n 2, 1) := by decide +kernel
theorem dX3_cancel_29 : decode cX3_cancel 29 = .ok (.getfield 94, 3) := by decide +kernel
theorem dX3_cancel_32 : decode cX3_cancel 32 = .ok (.aload_n 2, 1) := by decide +kernel
theorem dX3_cancel_33 : decode cX3_cancel 33 = .ok (.getfield 104, 3) := by decide +kernel
theorem dX3_cancel_36 : decode cX3_cancel 36 = .ok (.aload_n 2, 1) := by decide +kernel
theorem dX3_cancel_37 : decode cX3_cancel 37 = .ok (.getfield 105, 3) := by decide +kernel
theorem dX3_cancel_40 : decode cX3_cancel 40 = .ok (.invokevirtual 108, 3) := by decide +kernel
theorem dX3_cancel_43 : decode cX3_cancel 43 = .ok (.return_, 1) := by decide +kernel
set_option maxRecDepth 20000 in
theorem ggX3_sick_X3_personAt : GoodIn wsX3_sick wsX3_personAt := goodIn_ca (goodIn_r _ [9, 10, 11, 12, 71, 72, 73, 74, 75, 76, 77, 78] (by decide +kernel) (by decide +kernel)) (goodIn_sub (fun _ h => List.mem_cons_of_mem _ (List.mem_append_left _ (List.mem_append_right _ h))) (by decide +kernel))
set_option maxRecDepth 20000 in
theorem gX3_sick_X3_personAt : GoodIn wsX3_sick (wsV RX3 54 RX3 yX3_personAt wsX3_personAt) := goodIn_app (goodIn_of _ (by decide +kernel)) ggX3_sick_X3_personAt
set_option maxRecDepth 20000 in
theorem ggX3_sick_X3_checkDays : GoodIn wsX3_sick wsX3_checkDays := goodIn_ca (goodIn_r _ [15, 16, 17] (by decide +kernel) (by decide +kernel)) (goodIn_sub (fun _ h => List.mem_cons_of_mem _ (List.mem_append_right _ h)) (by decide +kernel))
set_option maxRecDepth 20000 in
theorem gX3_sick_X3_checkDays : GoodIn wsX3_sick (va_wsS RX3 75 yX3_checkDays wsX3_checkDays) := goodIn_app (goodIn_of _ (by decide +kernel)) ggX3_sick_X3_checkDays
set_option maxRecDepth 20000 in
theorem ggX3_sick_X1_enterSpell : GoodIn wsX3_sick wsX1_enterSpell := goodIn_r _ [22, 23, 24, 25, 26, 27, 28, 21, 29, 30, 31, 32, 33, 34, 35, 36, 37, 38, 39, 40, 41, 42, 8, 43, 44, 45, 46, 47, 48, 49, 50, 51, 52, 53, 54, 55, 56, 57, 58, 59, 60, 61, 62, 63, 64, 65, 66, 67, 68, 69, 70, 79, 80, 81, 82, 83] (by decide +kernel) (by decide +kernel)
set_option maxRecDepth 20000 in
theorem gX3_sick_X1_enterSpell : GoodIn wsX3_sick (wsV RX3 116 RX1 yX1_enterSpell wsX1_enterSpell) := goodIn_app (goodIn_of _ (by decide +kernel)) ggX3_sick_X1_enterSpell
theorem dX3_sick_0 : decode cX3_sick 0 = .ok (.aload_n 0, 1) := by decide +kernel
theorem dX3_sick_1 : decode cX3_sick 1 = .ok (.iload_n 1, 1) := by decide +kernel
theorem dX3_sick_2 : decode cX3_sick 2 = .ok (.invokevirtual 54, 3) := by decide +kernel
theorem dX3_sick_5 : decode cX3_sick 5 = .ok (.astore 4, 2) := by decide +kernel
theorem dX3_sick_7 : decode cX3_sick 7 = .ok (.aload 4, 2) := by decide +kernel
theorem dX3_sick_9 : decode cX3_sick 9 = .ok (.getfield 58, 3) := by decide +kernel
theorem dX3_sick_12 : decode cX3_sick 12 = .ok (.iload_n 2, 1) := by decide +kernel
theorem dX3_sick_13 : decode cX3_sick 13 = .ok (.iload_n 3, 1) := by decide +kernel
theorem dX3_sick_14 : decode cX3_sick 14 = .ok (.invokestatic 75, 3) := by decide +kernel
theorem dX3_sick_17 : decode cX3_sick 17 = .ok (.aload_n 0, 1) := by decide +kernel
theorem dX3_sick_18 : decode cX3_sick 18 = .ok (.getfield 111, 3) := by decide +kernel
theorem dX3_sick_21 : decode cX3_sick 21 = .ok (.bipush 30, 2) := by decide +kernel
theorem dX3_sick_23 : decode cX3_sick 23 = .ok (.if_icmp .lt 13, 3) := by decide +kernel
theorem dX3_sick_26 : decode cX3_sick 26 = .ok (.new 43, 3) := by decide +kernel
theorem dX3_sick_29 : decode cX3_sick 29 = .ok (.dup, 1) := by decide +kernel
theorem dX3_sick_30 : decode cX3_sick 30 = .ok (.ldc 114, 2) := by decide +kernel
theorem dX3_sick_32 : decode cX3_sick 32 = .ok (.invokespecial 47, 3) := by decide +kernel
theorem dX3_sick_35 : decode cX3_sick 35 = .ok (.athrow, 1) := by decide +kernel
theorem dX3_sick_36 : decode cX3_sick 36 = .ok (.aload 4, 2) := by decide +kernel
theorem dX3_sick_38 : decode cX3_sick 38 = .ok (.iload_n 2, 1) := by decide +kernel
theorem dX3_sick_39 : decode cX3_sick 39 = .ok (.iload_n 3, 1) := by decide +kernel
theorem dX3_sick_40 : decode cX3_sick 40 = .ok (.invokevirtual 116, 3) := by decide +kernel
theorem dX3_sick_43 : decode cX3_sick 43 = .ok (.aload_n 0, 1) := by decide +kernel
theorem dX3_sick_44 : decode cX3_sick 44 = .ok (.dup, 1) := by decide +kernel
theorem dX3_sick_45 : decode cX3_sick 45 = .ok (.getfield 111, 3) := by decide +kernel
theorem dX3_sick_48 : decode cX3_sick 48 = .ok (.iconst 1, 1) := by decide +kernel
theorem dX3_sick_49 : decode cX3_sick 49 = .ok (.iadd, 1) := by decide +kernel
theorem dX3_sick_50 : decode cX3_sick 50 = .ok (.putfield 111, 3) := by decide +kernel
theorem dX3_sick_53 : decode cX3_sick 53 = .ok (.aload_n 0, 1) := by decide +kernel
theorem dX3_sick_54 : decode cX3_sick 54 = .ok (.getfield 111, 3) := by decide +kernel
theorem dX3_sick_57 : decode cX3_sick 57 = .ok (.ireturn, 1) := by decide +kernel
set_option maxRecDepth 20000 in
theorem ggX3_payOut_X3_personAt : GoodIn wsX3_payOut wsX3_personAt := goodIn_ca (goodIn_r _ [12, 13, 14, 15, 103, 104, 105, 106, 107, 108, 109, 110] (by decide +kernel) (by decide +kernel)) (goodIn_sub (fun _ h => List.mem_cons_of_mem _ (List.mem_append_right _ h)) (by decide +kernel))
set_option maxRecDepth 20000 in
theorem gX3_payOut_X3_personAt : GoodIn wsX3_payOut (wsV RX3 54 RX3 yX3_personAt wsX3_personAt) := goodIn_app (goodIn_of _ (by decide +kernel)) ggX3_payOut_X3_personAt
set_option maxRecDepth 20000 in
theorem ggX3_payOut_X0_goThrough : GoodIn wsX3_payOut wsX0_goThrough := goodIn_r _ [20, 21, 22, 23, 24, 19, 25, 26, 27, 28, 29, 30, 31, 32, 33, 34, 35, 36, 37, 38, 39, 40, 41, 42, 43, 44, 45, 46, 47, 48, 49, 50, 51, 52, 53, 54, 55, 56, 57, 58, 59, 60, 61, 62, 63, 64, 65, 66, 67, 68, 69, 70, 71, 72, 73, 74, 75, 76, 77, 78, 79, 80, 81, 82, 83, 84, 85, 86, 87, 88, 89, 90, 91, 92, 93, 94, 111, 112, 113, 114, 115, 116, 117, 118, 119, 120, 121, 122, 123, 124, 125, 126, 127, 128, 129, 130, 131, 132, 133, 134, 135, 136] (by decide +kernel) (by decide +kernel)
set_option maxRecDepth 20000 in
theorem gX3_payOut_X0_goThrough : GoodIn wsX3_payOut (wsV RX3 126 RX0 yX0_goThrough wsX0_goThrough) := goodIn_app (goodIn_of _ (by decide +kernel)) ggX3_payOut_X0_goThrough
set_option maxRecDepth 20000 in
theorem ggX3_payOut_X0_pointsInLots : GoodIn wsX3_payOut wsX0_pointsInLots := goodIn_r _ [83, 27, 26, 62, 126, 127, 128, 129, 130, 131, 132, 133, 134, 135, 136] (by decide +kernel) (by decide +kernel)
set_option maxRecDepth 20000 in
theorem gX3_payOut_X0_pointsInLots : GoodIn wsX3_payOut (wsV RX3 130 RX0 yX0_pointsInLots wsX0_pointsInLots) := goodIn_app (goodIn_of _ (by decide +kernel)) ggX3_payOut_X0_pointsInLots
set_option maxRecDepth 20000 in
theorem ggX3_payOut_X1_enterPayout : GoodIn wsX3_payOut wsX1_enterPayout := goodIn_r _ [99, 100, 101, 102, 111, 112, 113, 114, 115, 116, 117, 118, 119, 120, 121, 122, 123, 124, 125] (by decide +kernel) (by decide +kernel)
set_option maxRecDepth 20000 in
theorem gX3_payOut_X1_enterPayout : GoodIn wsX3_payOut (wsV RX3 136 RX1 yX1_enterPayout wsX1_enterPayout) := goodIn_app (goodIn_of _ (by decide +kernel)) ggX3_payOut_X1_enterPayout
theorem dX3_payOut_0 : decode cX3_payOut 0 = .ok (.aload_n 0, 1) := by decide +kernel
theorem dX3_payOut_1 : decode cX3_payOut 1 = .ok (.iload_n 1, 1) := by decide +kernel
theorem dX3_payOut_2 : decode cX3_payOut 2 = .ok (.invokevirtual 54, 3) := by decide +kernel
theorem dX3_payOut_5 : decode cX3_payOut 5 = .ok (.astore_n 3, 1) := by decide +kernel
theorem dX3_payOut_6 : decode cX3_payOut 6 = .ok (.iload_n 2, 1) := by decide +kernel
theorem dX3_payOut_7 : decode cX3_payOut 7 = .ok (.iconst 1, 1) := by decide +kernel
theorem dX3_payOut_8 : decode cX3_payOut 8 = .ok (.if_icmp .lt 10, 3) := by decide +kernel
theorem dX3_payOut_11 : decode cX3_payOut 11 = .ok (.iload_n 2, 1) := by decide +kernel
theorem dX3_payOut_12 : decode cX3_payOut 12 = .ok (.sipush 20000, 3) := by decide +kernel
theorem dX3_payOut_15 : decode cX3_payOut 15 = .ok (.if_icmp .le 13, 3) := by decide +kernel
theorem dX3_payOut_18 : decode cX3_payOut 18 = .ok (.new 28, 3) := by decide +kernel
theorem dX3_payOut_21 : decode cX3_payOut 21 = .ok (.dup, 1) := by decide +kernel
theorem dX3_payOut_22 : decode cX3_payOut 22 = .ok (.ldc 119, 2) := by decide +kernel
theorem dX3_payOut_24 : decode cX3_payOut 24 = .ok (.invokespecial 32, 3) := by decide +kernel
theorem dX3_payOut_27 : decode cX3_payOut 27 = .ok (.athrow, 1) := by decide +kernel
theorem dX3_payOut_28 : decode cX3_payOut 28 = .ok (.aload_n 0, 1) := by decide +kernel
theorem dX3_payOut_29 : decode cX3_payOut 29 = .ok (.getfield 121, 3) := by decide +kernel
theorem dX3_payOut_32 : decode cX3_payOut 32 = .ok (.bipush 20, 2) := by decide +kernel
theorem dX3_payOut_34 : decode cX3_payOut 34 = .ok (.if_icmp .lt 13, 3) := by decide +kernel
theorem dX3_payOut_37 : decode cX3_payOut 37 = .ok (.new 43, 3) := by decide +kernel
theorem dX3_payOut_40 : decode cX3_payOut 40 = .ok (.dup, 1) := by decide +kernel
theorem dX3_payOut_41 : decode cX3_payOut 41 = .ok (.ldc 124, 2) := by decide +kernel
theorem dX3_payOut_43 : decode cX3_payOut 43 = .ok (.invokespecial 47, 3) := by decide +kernel
theorem dX3_payOut_46 : decode cX3_payOut 46 = .ok (.athrow, 1) := by decide +kernel
theorem dX3_payOut_47 : decode cX3_payOut 47 = .ok (.aload_n 0, 1) := by decide +kernel
theorem dX3_payOut_48 : decode cX3_payOut 48 = .ok (.getfield 24, 3) := by decide +kernel
theorem dX3_payOut_51 : decode cX3_payOut 51 = .ok (.aload_n 3, 1) := by decide +kernel
theorem dX3_payOut_52 : decode cX3_payOut 52 = .ok (.aload_n 0, 1) := by decide +kernel
theorem dX3_payOut_53 : decode cX3_payOut 53 = .ok (.getfield 48, 3) := by decide +kernel
theorem dX3_payOut_56 : decode cX3_payOut 56 = .ok (.invokevirtual 126, 3) := by decide +kernel
theorem dX3_payOut_59 : decode cX3_payOut 59 = .ok (.aload_n 0, 1) := by decide +kernel
theorem dX3_payOut_60 : decode cX3_payOut 60 = .ok (.getfield 24, 3) := by decide +kernel
theorem dX3_payOut_63 : decode cX3_payOut 63 = .ok (.invokevirtual 130, 3) := by decide +kernel
theorem dX3_payOut_66 : decode cX3_payOut 66 = .ok (.iload_n 2, 1) := by decide +kernel
theorem dX3_payOut_67 : decode cX3_payOut 67 = .ok (.if_icmp .ge 13, 3) := by decide +kernel
theorem dX3_payOut_70 : decode cX3_payOut 70 = .ok (.new 43, 3) := by decide +kernel
theorem dX3_payOut_73 : decode cX3_payOut 73 = .ok (.dup, 1) := by decide +kernel
theorem dX3_payOut_74 : decode cX3_payOut 74 = .ok (.ldc 134, 2) := by decide +kernel
theorem dX3_payOut_76 : decode cX3_payOut 76 = .ok (.invokespecial 47, 3) := by decide +kernel
theorem dX3_payOut_79 : decode cX3_payOut 79 = .ok (.athrow, 1) := by decide +kernel
theorem dX3_payOut_80 : decode cX3_payOut 80 = .ok (.aload_n 3, 1) := by decide +kernel
theorem dX3_payOut_81 : decode cX3_payOut 81 = .ok (.aload_n 0, 1) := by decide +kernel
theorem dX3_payOut_82 : decode cX3_payOut 82 = .ok (.getfield 48, 3) := by decide +kernel
theorem dX3_payOut_85 : decode cX3_payOut 85 = .ok (.iload_n 2, 1) := by decide +kernel
theorem dX3_payOut_86 : decode cX3_payOut 86 = .ok (.invokevirtual 136, 3) := by decide +kernel
theorem dX3_payOut_89 : decode cX3_payOut 89 = .ok (.aload_n 0, 1) := by decide +kernel
theorem dX3_payOut_90 : decode cX3_payOut 90 = .ok (.getfield 121, 3) := by decide +kernel
theorem dX3_payOut_93 : decode cX3_payOut 93 = .ok (.istore 4, 2) := by decide +kernel
theorem dX3_payOut_95 : decode cX3_payOut 95 = .ok (.aload_n 0, 1) := by decide +kernel
theorem dX3_payOut_96 : decode cX3_payOut 96 = .ok (.iload 4, 2) := by decide +kernel
theorem dX3_payOut_98 : decode cX3_payOut 98 = .ok (.iconst 1, 1) := by decide +kernel
theorem dX3_payOut_99 : decode cX3_payOut 99 = .ok (.iadd, 1) := by decide +kernel
theorem dX3_payOut_100 : decode cX3_payOut 100 = .ok (.putfield 121, 3) := by decide +kernel
theorem dX3_payOut_103 : decode cX3_payOut 103 = .ok (.iload 4, 2) := by decide +kernel
theorem dX3_payOut_105 : decode cX3_payOut 105 = .ok (.ireturn, 1) := by decide +kernel
theorem dX3_pass_0 : decode cX3_pass 0 = .ok (.iload_n 1, 1) := by decide +kernel
theorem dX3_pass_1 : decode cX3_pass 1 = .ok (.iconst 1, 1) := by decide +kernel
theorem dX3_pass_2 : decode cX3_pass 2 = .ok (.if_icmp .lt 10, 3) := by decide +kernel
theorem dX3_pass_5 : decode cX3_pass 5 = .ok (.iload_n 1, 1) := by decide +kernel
theorem dX3_pass_6 : decode cX3_pass 6 = .ok (.sipush 400, 3) := by decide +kernel
theorem dX3_pass_9 : decode cX3_pass 9 = .ok (.if_icmp .le 13, 3) := by decide +kernel
theorem dX3_pass_12 : decode cX3_pass 12 = .ok (.new 28, 3) := by decide +kernel
theorem dX3_pass_15 : decode cX3_pass 15 = .ok (.dup, 1) := by decide +kernel
theorem dX3_pass_16 : decode cX3_pass 16 = .ok (.ldc 139, 2) := by decide +kernel
theorem dX3_pass_18 : decode cX3_pass 18 = .ok (.invokespecial 32, 3) := by decide +kernel
theorem dX3_pass_21 : decode cX3_pass 21 = .ok (.athrow, 1) := by decide +kernel
theorem dX3_pass_22 : decode cX3_pass 22 = .ok (.aload_n 0, 1) := by decide +kernel
theorem dX3_pass_23 : decode cX3_pass 23 = .ok (.getfield 48, 3) := by decide +kernel
theorem dX3_pass_26 : decode cX3_pass 26 = .ok (.iload_n 1, 1) := by decide +kernel
theorem dX3_pass_27 : decode cX3_pass 27 = .ok (.iadd, 1) := by decide +kernel
theorem dX3_pass_28 : decode cX3_pass 28 = .ok (.sipush 3600, 3) := by decide +kernel
theorem dX3_pass_31 : decode cX3_pass 31 = .ok (.if_icmp .le 13, 3) := by decide +kernel
theorem dX3_pass_34 : decode cX3_pass 34 = .ok (.new 43, 3) := by decide +kernel
theorem dX3_pass_37 : decode cX3_pass 37 = .ok (.dup, 1) := by decide +kernel
theorem dX3_pass_38 : decode cX3_pass 38 = .ok (.ldc 141, 2) := by decide +kernel
theorem dX3_pass_40 : decode cX3_pass 40 = .ok (.invokespecial 47, 3) := by decide +kernel
theorem dX3_pass_43 : decode cX3_pass 43 = .ok (.athrow, 1) := by decide +kernel
theorem dX3_pass_44 : decode cX3_pass 44 = .ok (.aload_n 0, 1) := by decide +kernel
theorem dX3_pass_45 : decode cX3_pass 45 = .ok (.dup, 1) := by decide +kernel
theorem dX3_pass_46 : decode cX3_pass 46 = .ok (.getfield 48, 3) := by decide +kernel
theorem dX3_pass_49 : decode cX3_pass 49 = .ok (.iload_n 1, 1) := by decide +kernel
theorem dX3_pass_50 : decode cX3_pass 50 = .ok (.iadd, 1) := by decide +kernel
theorem dX3_pass_51 : decode cX3_pass 51 = .ok (.putfield 48, 3) := by decide +kernel
theorem dX3_pass_54 : decode cX3_pass 54 = .ok (.aload_n 0, 1) := by decide +kernel
theorem dX3_pass_55 : decode cX3_pass 55 = .ok (.getfield 48, 3) := by decide +kernel
theorem dX3_pass_58 : decode cX3_pass 58 = .ok (.ireturn, 1) := by decide +kernel
theorem dX3_today_0 : decode cX3_today 0 = .ok (.aload_n 0, 1) := by decide +kernel
theorem dX3_today_1 : decode cX3_today 1 = .ok (.getfield 48, 3) := by decide +kernel
theorem dX3_today_4 : decode cX3_today 4 = .ok (.ireturn, 1) := by decide +kernel
theorem dX3_people_0 : decode cX3_people 0 = .ok (.aload_n 0, 1) := by decide +kernel
theorem dX3_people_1 : decode cX3_people 1 = .ok (.getfield 39, 3) := by decide +kernel
theorem dX3_people_4 : decode cX3_people 4 = .ok (.ireturn, 1) := by decide +kernel
set_option maxRecDepth 20000 in
theorem ggX3_workingDays_X3_checkDays : GoodIn wsX3_workingDays wsX3_checkDays := goodIn_ca (goodIn_r _ [4, 5, 6] (by decide +kernel) (by decide +kernel)) (goodIn_sub (fun _ h => List.mem_cons_of_mem _ (List.mem_append_right _ h)) (by decide +kernel))
set_option maxRecDepth 20000 in
theorem gX3_workingDays_X3_checkDays : GoodIn wsX3_workingDays (va_wsS RX3 75 yX3_checkDays wsX3_checkDays) := goodIn_app (goodIn_of _ (by decide +kernel)) ggX3_workingDays_X3_checkDays
set_option maxRecDepth 20000 in
theorem ggX3_workingDays_X3_workingDaysAheadOf : GoodIn wsX3_workingDays wsX3_workingDaysAheadOf := goodIn_r _ [9, 10, 11, 12, 13] (by decide +kernel) (by decide +kernel)
set_option maxRecDepth 20000 in
theorem gX3_workingDays_X3_workingDaysAheadOf : GoodIn wsX3_workingDays (va_wsS RX3 143 yX3_workingDaysAheadOf wsX3_workingDaysAheadOf) := goodIn_app (goodIn_of _ (by decide +kernel)) ggX3_workingDays_X3_workingDaysAheadOf
theorem dX3_workingDays_0 : decode cX3_workingDays 0 = .ok (.iconst 0, 1) := by decide +kernel
theorem dX3_workingDays_1 : decode cX3_workingDays 1 = .ok (.iload_n 1, 1) := by decide +kernel
theorem dX3_workingDays_2 : decode cX3_workingDays 2 = .ok (.iload_n 2, 1) := by decide +kernel
theorem dX3_workingDays_3 : decode cX3_workingDays 3 = .ok (.invokestatic 75, 3) := by decide +kernel
theorem dX3_workingDays_6 : decode cX3_workingDays 6 = .ok (.iload_n 2, 1) := by decide +kernel
theorem dX3_workingDays_7 : decode cX3_workingDays 7 = .ok (.iconst 1, 1) := by decide +kernel
theorem dX3_workingDays_8 : decode cX3_workingDays 8 = .ok (.iadd, 1) := by decide +kernel
theorem dX3_workingDays_9 : decode cX3_workingDays 9 = .ok (.invokestatic 143, 3) := by decide +kernel
theorem dX3_workingDays_12 : decode cX3_workingDays 12 = .ok (.iload_n 1, 1) := by decide +kernel
theorem dX3_workingDays_13 : decode cX3_workingDays 13 = .ok (.invokestatic 143, 3) := by decide +kernel
theorem dX3_workingDays_16 : decode cX3_workingDays 16 = .ok (.isub, 1) := by decide +kernel
theorem dX3_workingDays_17 : decode cX3_workingDays 17 = .ok (.ireturn, 1) := by decide +kernel
set_option maxRecDepth 20000 in
theorem ggX3_hours_X3_personAt : GoodIn wsX3_hours wsX3_personAt := goodIn_ca (goodIn_r _ [6, 7, 8, 9, 39, 40, 41, 42, 43, 44, 45, 46] (by decide +kernel) (by decide +kernel)) (goodIn_sub (fun _ h => List.mem_cons_of_mem _ (List.mem_append_left _ (List.mem_append_right _ h))) (by decide +kernel))
set_option maxRecDepth 20000 in
theorem gX3_hours_X3_personAt : GoodIn wsX3_hours (wsV RX3 54 RX3 yX3_personAt wsX3_personAt) := goodIn_app (goodIn_of _ (by decide +kernel)) ggX3_hours_X3_personAt
set_option maxRecDepth 20000 in
theorem ggX3_hours_X3_checkDay : GoodIn wsX3_hours wsX3_checkDay := goodIn_ca (goodIn_r _ [12, 13, 14] (by decide +kernel) (by decide +kernel)) (goodIn_sub (fun _ h => List.mem_cons_of_mem _ (List.mem_append_right _ h)) (by decide +kernel))
set_option maxRecDepth 20000 in
theorem gX3_hours_X3_checkDay : GoodIn wsX3_hours (va_wsS RX3 61 yX3_checkDay wsX3_checkDay) := goodIn_app (goodIn_of _ (by decide +kernel)) ggX3_hours_X3_checkDay
set_option maxRecDepth 20000 in
theorem ggX3_hours_X1_hoursOn : GoodIn wsX3_hours wsX1_hoursOn := goodIn_r _ [19, 20, 21, 22, 23, 24, 25, 26, 27, 28, 29, 30, 31, 32, 33, 34, 35, 36, 37, 38] (by decide +kernel) (by decide +kernel)
set_option maxRecDepth 20000 in
theorem gX3_hours_X1_hoursOn : GoodIn wsX3_hours (wsV RX3 65 RX1 yX1_hoursOn wsX1_hoursOn) := goodIn_app (goodIn_of _ (by decide +kernel)) ggX3_hours_X1_hoursOn
theorem dX3_hours_0 : decode cX3_hours 0 = .ok (.aload_n 0, 1) := by decide +kernel
theorem dX3_hours_1 : decode cX3_hours 1 = .ok (.iload_n 1, 1) := by decide +kernel
theorem dX3_hours_2 : decode cX3_hours 2 = .ok (.invokevirtual 54, 3) := by decide +kernel
theorem dX3_hours_5 : decode cX3_hours 5 = .ok (.astore_n 3, 1) := by decide +kernel
theorem dX3_hours_6 : decode cX3_hours 6 = .ok (.aload_n 3, 1) := by decide +kernel
theorem dX3_hours_7 : decode cX3_hours 7 = .ok (.getfield 58, 3) := by decide +kernel
theorem dX3_hours_10 : decode cX3_hours 10 = .ok (.iload_n 2, 1) := by decide +kernel
theorem dX3_hours_11 : decode cX3_hours 11 = .ok (.invokestatic 61, 3) := by decide +kernel
theorem dX3_hours_14 : decode cX3_hours 14 = .ok (.aload_n 3, 1) := by decide +kernel
theorem dX3_hours_15 : decode cX3_hours 15 = .ok (.iload_n 2, 1) := by decide +kernel
theorem dX3_hours_16 : decode cX3_hours 16 = .ok (.invokevirtual 65, 3) := by decide +kernel
theorem dX3_hours_19 : decode cX3_hours 19 = .ok (.ireturn, 1) := by decide +kernel
set_option maxRecDepth 20000 in
theorem ggX3_onLeave_X3_personAt : GoodIn wsX3_onLeave wsX3_personAt := goodIn_ca (goodIn_r _ [5, 6, 7, 8, 20, 21, 22, 23, 24, 25, 26, 27] (by decide +kernel) (by decide +kernel)) (goodIn_sub (fun _ h => List.mem_cons_of_mem _ (List.mem_append_left _ (List.mem_append_right _ h))) (by decide +kernel))
set_option maxRecDepth 20000 in
theorem gX3_onLeave_X3_personAt : GoodIn wsX3_onLeave (wsV RX3 54 RX3 yX3_personAt wsX3_personAt) := goodIn_app (goodIn_of _ (by decide +kernel)) ggX3_onLeave_X3_personAt
set_option maxRecDepth 20000 in
theorem ggX3_onLeave_X3_checkDay : GoodIn wsX3_onLeave wsX3_checkDay := goodIn_ca (goodIn_r _ [11, 12, 13] (by decide +kernel) (by decide +kernel)) (goodIn_sub (fun _ h => List.mem_cons_of_mem _ (List.mem_append_right _ h)) (by decide +kernel))
set_option maxRecDepth 20000 in
theorem gX3_onLeave_X3_checkDay : GoodIn wsX3_onLeave (va_wsS RX3 61 yX3_checkDay wsX3_checkDay) := goodIn_app (goodIn_of _ (by decide +kernel)) ggX3_onLeave_X3_checkDay
set_option maxRecDepth 20000 in
theorem ggX3_onLeave_X1_leaveOn : GoodIn wsX3_onLeave wsX1_leaveOn := goodIn_r _ [18, 19, 28, 29, 30, 31, 32, 33, 34, 35, 36, 37, 38, 39, 40, 41, 42] (by decide +kernel) (by decide +kernel)
set_option maxRecDepth 20000 in
theorem gX3_onLeave_X1_leaveOn : GoodIn wsX3_onLeave (wsV RX3 146 RX1 yX1_leaveOn wsX1_leaveOn) := goodIn_app (goodIn_of _ (by decide +kernel)) ggX3_onLeave_X1_leaveOn
theorem dX3_onLeave_0 : decode cX3_onLeave 0 = .ok (.aload_n 0, 1) := by decide +kernel
theorem dX3_onLeave_1 : decode cX3_onLeave 1 = .ok (.iload_n 1, 1) := by decide +kernel
theorem dX3_onLeave_2 : decode cX3_onLeave 2 = .ok (.invokevirtual 54, 3) := by decide +kernel
theorem dX3_onLeave_5 : decode cX3_onLeave 5 = .ok (.astore_n 3, 1) := by decide +kernel
theorem dX3_onLeave_6 : decode cX3_onLeave 6 = .ok (.iconst 0, 1) := by decide +kernel
theorem dX3_onLeave_7 : decode cX3_onLeave 7 = .ok (.iload_n 2, 1) := by decide +kernel
theorem dX3_onLeave_8 : decode cX3_onLeave 8 = .ok (.invokestatic 61, 3) := by decide +kernel
theorem dX3_onLeave_11 : decode cX3_onLeave 11 = .ok (.aload_n 3, 1) := by decide +kernel
theorem dX3_onLeave_12 : decode cX3_onLeave 12 = .ok (.iload_n 2, 1) := by decide +kernel
theorem dX3_onLeave_13 : decode cX3_onLeave 13 = .ok (.invokevirtual 146, 3) := by decide +kernel
theorem dX3_onLeave_16 : decode cX3_onLeave 16 = .ok (.ireturn, 1) := by decide +kernel
set_option maxRecDepth 20000 in
theorem ggX3_balance_X3_ledgerBehind : GoodIn wsX3_balance wsX3_ledgerBehind := goodIn_ca (goodIn_ca (goodIn_r _ [6, 7, 8, 9, 10, 5, 11, 12, 13, 14, 15, 16, 17, 18, 19, 20, 21, 22, 23, 24, 25, 26, 27, 28, 29, 30, 31, 32, 33, 34, 35, 36, 37, 38, 39, 40, 41, 42, 43, 44, 45, 46, 47, 48, 49, 50, 51, 52, 53, 54, 55, 56, 57, 58, 59, 60, 61, 62, 63, 64, 65, 66, 67, 68, 69, 70, 71, 72, 73, 74, 75, 76, 77, 78, 79, 80, 81, 82, 83, 84, 85, 86, 87, 88, 89, 90, 91, 92, 93, 94, 95, 96, 97, 98, 111, 112, 113, 114, 115, 116, 117, 118, 119, 120, 121, 122, 123, 124, 125, 126, 127, 128, 129, 130, 131, 132, 133, 100, 101, 102, 103, 104, 105, 106, 107, 108, 109, 110] (by decide +kernel) (by decide +kernel)) (goodIn_sub (fun _ h => List.mem_cons_of_mem _ (List.mem_append_left _ (List.mem_append_right _ h))) (by decide +kernel))) (goodIn_sub (fun _ h => List.mem_cons_of_mem _ (List.mem_append_right _ h)) (by decide +kernel))
set_option maxRecDepth 20000 in
theorem gX3_balance_X3_ledgerBehind : GoodIn wsX3_balance (wsV RX3 149 RX3 yX3_ledgerBehind wsX3_ledgerBehind) := goodIn_app (goodIn_of _ (by decide +kernel)) ggX3_balance_X3_ledgerBehind
set_option maxRecDepth 20000 in
theorem ggX3_balance_X0_pointsInLots : GoodIn wsX3_balance wsX0_pointsInLots := goodIn_r _ [87, 31, 30, 66, 100, 101, 102, 103, 104, 105, 106, 107, 108, 109, 110] (by decide +kernel) (by decide +kernel)
set_option maxRecDepth 20000 in
theorem gX3_balance_X0_pointsInLots : GoodIn wsX3_balance (wsV RX3 130 RX0 yX0_pointsInLots wsX0_pointsInLots) := goodIn_app (goodIn_of _ (by decide +kernel)) ggX3_balance_X0_pointsInLots
theorem dX3_balance_0 : decode cX3_balance 0 = .ok (.aload_n 0, 1) := by decide +kernel
theorem dX3_balance_1 : decode cX3_balance 1 = .ok (.iload_n 1, 1) := by decide +kernel
theorem dX3_balance_2 : decode cX3_balance 2 = .ok (.iload_n 2, 1) := by decide +kernel
theorem dX3_balance_3 : decode cX3_balance 3 = .ok (.invokevirtual 149, 3) := by decide +kernel
theorem dX3_balance_6 : decode cX3_balance 6 = .ok (.astore_n 3, 1) := by decide +kernel
theorem dX3_balance_7 : decode cX3_balance 7 = .ok (.aload_n 3, 1) := by decide +kernel
theorem dX3_balance_8 : decode cX3_balance 8 = .ok (.invokevirtual 130, 3) := by decide +kernel
theorem dX3_balance_11 : decode cX3_balance 11 = .ok (.aload_n 3, 1) := by decide +kernel
theorem dX3_balance_12 : decode cX3_balance 12 = .ok (.getfield 153, 3) := by decide +kernel
theorem dX3_balance_15 : decode cX3_balance 15 = .ok (.isub, 1) := by decide +kernel
theorem dX3_balance_16 : decode cX3_balance 16 = .ok (.ireturn, 1) := by decide +kernel
set_option maxRecDepth 20000 in
theorem ggX3_balanceBySums_X3_ledgerBehind : GoodIn wsX3_balanceBySums wsX3_ledgerBehind := goodIn_ca (goodIn_ca (goodIn_r _ [9, 10, 11, 12, 13, 8, 14, 15, 16, 17, 18, 19, 20, 21, 22, 23, 24, 25, 26, 27, 28, 29, 30, 31, 32, 33, 34, 35, 36, 37, 38, 39, 40, 41, 42, 43, 44, 45, 46, 47, 48, 49, 50, 51, 52, 53, 54, 55, 56, 57, 58, 59, 60, 61, 62, 63, 64, 65, 66, 67, 68, 69, 70, 71, 72, 73, 74, 75, 76, 77, 78, 79, 80, 81, 82, 83, 84, 85, 86, 87, 88, 89, 90, 91, 92, 93, 94, 95, 96, 97, 98, 99, 100, 101, 113, 114, 115, 116, 117, 118, 119, 120, 121, 122, 123, 124, 125, 126, 127, 128, 129, 130, 131, 132, 133, 134, 135, 102, 103, 104, 105, 106, 107, 108, 109, 110, 111, 112] (by decide +kernel) (by decide +kernel)) (goodIn_sub (fun _ h => List.mem_cons_of_mem _ (List.mem_append_left _ (List.mem_append_right _ h))) (by decide +kernel))) (goodIn_sub (fun _ h => List.mem_cons_of_mem _ (List.mem_append_right _ h)) (by decide +kernel))
set_option maxRecDepth 20000 in
theorem gX3_balanceBySums_X3_ledgerBehind : GoodIn wsX3_balanceBySums (wsV RX3 149 RX3 yX3_ledgerBehind wsX3_ledgerBehind) := goodIn_app (goodIn_of _ (by decide +kernel)) ggX3_balanceBySums_X3_ledgerBehind
theorem dX3_balanceBySums_0 : decode cX3_balanceBySums 0 = .ok (.aload_n 0, 1) := by decide +kernel
theorem dX3_balanceBySums_1 : decode cX3_balanceBySums 1 = .ok (.iload_n 1, 1) := by decide +kernel
theorem dX3_balanceBySums_2 : decode cX3_balanceBySums 2 = .ok (.iload_n 2, 1) := by decide +kernel
theorem dX3_balanceBySums_3 : decode cX3_balanceBySums 3 = .ok (.invokevirtual 149, 3) := by decide +kernel
theorem dX3_balanceBySums_6 : decode cX3_balanceBySums 6 = .ok (.astore_n 3, 1) := by decide +kernel
theorem dX3_balanceBySums_7 : decode cX3_balanceBySums 7 = .ok (.aload_n 3, 1) := by decide +kernel
theorem dX3_balanceBySums_8 : decode cX3_balanceBySums 8 = .ok (.getfield 156, 3) := by decide +kernel
theorem dX3_balanceBySums_11 : decode cX3_balanceBySums 11 = .ok (.aload_n 3, 1) := by decide +kernel
theorem dX3_balanceBySums_12 : decode cX3_balanceBySums 12 = .ok (.getfield 159, 3) := by decide +kernel
theorem dX3_balanceBySums_15 : decode cX3_balanceBySums 15 = .ok (.isub, 1) := by decide +kernel
theorem dX3_balanceBySums_16 : decode cX3_balanceBySums 16 = .ok (.aload_n 3, 1) := by decide +kernel
theorem dX3_balanceBySums_17 : decode cX3_balanceBySums 17 = .ok (.getfield 162, 3) := by decide +kernel
theorem dX3_balanceBySums_20 : decode cX3_balanceBySums 20 = .ok (.isub, 1) := by decide +kernel
theorem dX3_balanceBySums_21 : decode cX3_balanceBySums 21 = .ok (.aload_n 3, 1) := by decide +kernel
theorem dX3_balanceBySums_22 : decode cX3_balanceBySums 22 = .ok (.getfield 165, 3) := by decide +kernel
theorem dX3_balanceBySums_25 : decode cX3_balanceBySums 25 = .ok (.isub, 1) := by decide +kernel
theorem dX3_balanceBySums_26 : decode cX3_balanceBySums 26 = .ok (.ireturn, 1) := by decide +kernel
set_option maxRecDepth 20000 in
theorem ggX3_earned_X3_ledgerBehind : GoodIn wsX3_earned wsX3_ledgerBehind := goodIn_ca (goodIn_ca (goodIn_r _ [6, 7, 8, 9, 10, 5, 11, 12, 13, 14, 15, 16, 17, 18, 19, 20, 21, 22, 23, 24, 25, 26, 27, 28, 29, 30, 31, 32, 33, 34, 35, 36, 37, 38, 39, 40, 41, 42, 43, 44, 45, 46, 47, 48, 49, 50, 51, 52, 53, 54, 55, 56, 57, 58, 59, 60, 61, 62, 63, 64, 65, 66, 67, 68, 69, 70, 71, 72, 73, 74, 75, 76, 77, 78, 79, 80, 81, 82, 83, 84, 85, 86, 87, 88, 89, 90, 91, 92, 93, 94, 95, 96, 97, 98, 110, 111, 112, 113, 114, 115, 116, 117, 118, 119, 120, 121, 122, 123, 124, 125, 126, 127, 128, 129, 130, 131, 132, 99, 100, 101, 102, 103, 104, 105, 106, 107, 108, 109] (by decide +kernel) (by decide +kernel)) (goodIn_sub (fun _ h => List.mem_cons_of_mem _ (List.mem_append_left _ (List.mem_append_right _ h))) (by decide +kernel))) (goodIn_sub (fun _ h => List.mem_cons_of_mem _ (List.mem_append_right _ h)) (by decide +kernel))
set_option maxRecDepth 20000 in
theorem gX3_earned_X3_ledgerBehind : GoodIn wsX3_earned (wsV RX3 149 RX3 yX3_ledgerBehind wsX3_ledgerBehind) := goodIn_app (goodIn_of _ (by decide +kernel)) ggX3_earned_X3_ledgerBehind
theorem dX3_earned_0 : decode cX3_earned 0 = .ok (.aload_n 0, 1) := by decide +kernel
theorem dX3_earned_1 : decode cX3_earned 1 = .ok (.iload_n 1, 1) := by decide +kernel
theorem dX3_earned_2 : decode cX3_earned 2 = .ok (.iload_n 2, 1) := by decide +kernel
theorem dX3_earned_3 : decode cX3_earned 3 = .ok (.invokevirtual 149, 3) := by decide +kernel
theorem dX3_earned_6 : decode cX3_earned 6 = .ok (.getfield 156, 3) := by decide +kernel
theorem dX3_earned_9 : decode cX3_earned 9 = .ok (.ireturn, 1) := by decide +kernel
set_option maxRecDepth 20000 in
theorem ggX3_taken_X3_ledgerBehind : GoodIn wsX3_taken wsX3_ledgerBehind := goodIn_ca (goodIn_ca (goodIn_r _ [6, 7, 8, 9, 10, 5, 11, 12, 13, 14, 15, 16, 17, 18, 19, 20, 21, 22, 23, 24, 25, 26, 27, 28, 29, 30, 31, 32, 33, 34, 35, 36, 37, 38, 39, 40, 41, 42, 43, 44, 45, 46, 47, 48, 49, 50, 51, 52, 53, 54, 55, 56, 57, 58, 59, 60, 61, 62, 63, 64, 65, 66, 67, 68, 69, 70, 71, 72, 73, 74, 75, 76, 77, 78, 79, 80, 81, 82, 83, 84, 85, 86, 87, 88, 89, 90, 91, 92, 93, 94, 95, 96, 97, 98, 110, 111, 112, 113, 114, 115, 116, 117, 118, 119, 120, 121, 122, 123, 124, 125, 126, 127, 128, 129, 130, 131, 132, 99, 100, 101, 102, 103, 104, 105, 106, 107, 108, 109] (by decide +kernel) (by decide +kernel)) (goodIn_sub (fun _ h => List.mem_cons_of_mem _ (List.mem_append_left _ (List.mem_append_right _ h))) (by decide +kernel))) (goodIn_sub (fun _ h => List.mem_cons_of_mem _ (List.mem_append_right _ h)) (by decide +kernel))
set_option maxRecDepth 20000 in
theorem gX3_taken_X3_ledgerBehind : GoodIn wsX3_taken (wsV RX3 149 RX3 yX3_ledgerBehind wsX3_ledgerBehind) := goodIn_app (goodIn_of _ (by decide +kernel)) ggX3_taken_X3_ledgerBehind
theorem dX3_taken_0 : decode cX3_taken 0 = .ok (.aload_n 0, 1) := by decide +kernel
theorem dX3_taken_1 : decode cX3_taken 1 = .ok (.iload_n 1, 1) := by decide +kernel
theorem dX3_taken_2 : decode cX3_taken 2 = .ok (.iload_n 2, 1) := by decide +kernel
theorem dX3_taken_3 : decode cX3_taken 3 = .ok (.invokevirtual 149, 3) := by decide +kernel
theorem dX3_taken_6 : decode cX3_taken 6 = .ok (.getfield 159, 3) := by decide +kernel
theorem dX3_taken_9 : decode cX3_taken 9 = .ok (.ireturn, 1) := by decide +kernel
set_option maxRecDepth 20000 in
theorem ggX3_expired_X3_ledgerBehind : GoodIn wsX3_expired wsX3_ledgerBehind := goodIn_ca (goodIn_ca (goodIn_r _ [6, 7, 8, 9, 10, 5, 11, 12, 13, 14, 15, 16, 17, 18, 19, 20, 21, 22, 23, 24, 25, 26, 27, 28, 29, 30, 31, 32, 33, 34, 35, 36, 37, 38, 39, 40, 41, 42, 43, 44, 45, 46, 47, 48, 49, 50, 51, 52, 53, 54, 55, 56, 57, 58, 59, 60, 61, 62, 63, 64, 65, 66, 67, 68, 69, 70, 71, 72, 73, 74, 75, 76, 77, 78, 79, 80, 81, 82, 83, 84, 85, 86, 87, 88, 89, 90, 91, 92, 93, 94, 95, 96, 97, 98, 110, 111, 112, 113, 114, 115, 116, 117, 118, 119, 120, 121, 122, 123, 124, 125, 126, 127, 128, 129, 130, 131, 132, 99, 100, 101, 102, 103, 104, 105, 106, 107, 108, 109] (by decide +kernel) (by decide +kernel)) (goodIn_sub (fun _ h => List.mem_cons_of_mem _ (List.mem_append_left _ (List.mem_append_right _ h))) (by decide +kernel))) (goodIn_sub (fun _ h => List.mem_cons_of_mem _ (List.mem_append_right _ h)) (by decide +kernel))
set_option maxRecDepth 20000 in
theorem gX3_expired_X3_ledgerBehind : GoodIn wsX3_expired (wsV RX3 149 RX3 yX3_ledgerBehind wsX3_ledgerBehind) := goodIn_app (goodIn_of _ (by decide +kernel)) ggX3_expired_X3_ledgerBehind
theorem dX3_expired_0 : decode cX3_expired 0 = .ok (.aload_n 0, 1) := by decide +kernel
theorem dX3_expired_1 : decode cX3_expired 1 = .ok (.iload_n 1, 1) := by decide +kernel
theorem dX3_expired_2 : decode cX3_expired 2 = .ok (.iload_n 2, 1) := by decide +kernel
theorem dX3_expired_3 : decode cX3_expired 3 = .ok (.invokevirtual 149, 3) := by decide +kernel
theorem dX3_expired_6 : decode cX3_expired 6 = .ok (.getfield 162, 3) := by decide +kernel
theorem dX3_expired_9 : decode cX3_expired 9 = .ok (.ireturn, 1) := by decide +kernel
set_option maxRecDepth 20000 in
theorem ggX3_paid_X3_ledgerBehind : GoodIn wsX3_paid wsX3_ledgerBehind := goodIn_ca (goodIn_ca (goodIn_r _ [6, 7, 8, 9, 10, 5, 11, 12, 13, 14, 15, 16, 17, 18, 19, 20, 21, 22, 23, 24, 25, 26, 27, 28, 29, 30, 31, 32, 33, 34, 35, 36, 37, 38, 39, 40, 41, 42, 43, 44, 45, 46, 47, 48, 49, 50, 51, 52, 53, 54, 55, 56, 57, 58, 59, 60, 61, 62, 63, 64, 65, 66, 67, 68, 69, 70, 71, 72, 73, 74, 75, 76, 77, 78, 79, 80, 81, 82, 83, 84, 85, 86, 87, 88, 89, 90, 91, 92, 93, 94, 95, 96, 97, 98, 110, 111, 112, 113, 114, 115, 116, 117, 118, 119, 120, 121, 122, 123, 124, 125, 126, 127, 128, 129, 130, 131, 132, 99, 100, 101, 102, 103, 104, 105, 106, 107, 108, 109] (by decide +kernel) (by decide +kernel)) (goodIn_sub (fun _ h => List.mem_cons_of_mem _ (List.mem_append_left _ (List.mem_append_right _ h))) (by decide +kernel))) (goodIn_sub (fun _ h => List.mem_cons_of_mem _ (List.mem_append_right _ h)) (by decide +kernel))
set_option maxRecDepth 20000 in
theorem gX3_paid_X3_ledgerBehind : GoodIn wsX3_paid (wsV RX3 149 RX3 yX3_ledgerBehind wsX3_ledgerBehind) := goodIn_app (goodIn_of _ (by decide +kernel)) ggX3_paid_X3_ledgerBehind
theorem dX3_paid_0 : decode cX3_paid 0 = .ok (.aload_n 0, 1) := by decide +kernel
theorem dX3_paid_1 : decode cX3_paid 1 = .ok (.iload_n 1, 1) := by decide +kernel
theorem dX3_paid_2 : decode cX3_paid 2 = .ok (.iload_n 2, 1) := by decide +kernel
theorem dX3_paid_3 : decode cX3_paid 3 = .ok (.invokevirtual 149, 3) := by decide +kernel
theorem dX3_paid_6 : decode cX3_paid 6 = .ok (.getfield 165, 3) := by decide +kernel
theorem dX3_paid_9 : decode cX3_paid 9 = .ok (.ireturn, 1) := by decide +kernel
set_option maxRecDepth 20000 in
theorem ggX3_borrowed_X3_ledgerBehind : GoodIn wsX3_borrowed wsX3_ledgerBehind := goodIn_ca (goodIn_ca (goodIn_r _ [6, 7, 8, 9, 10, 5, 11, 12, 13, 14, 15, 16, 17, 18, 19, 20, 21, 22, 23, 24, 25, 26, 27, 28, 29, 30, 31, 32, 33, 34, 35, 36, 37, 38, 39, 40, 41, 42, 43, 44, 45, 46, 47, 48, 49, 50, 51, 52, 53, 54, 55, 56, 57, 58, 59, 60, 61, 62, 63, 64, 65, 66, 67, 68, 69, 70, 71, 72, 73, 74, 75, 76, 77, 78, 79, 80, 81, 82, 83, 84, 85, 86, 87, 88, 89, 90, 91, 92, 93, 94, 95, 96, 97, 98, 110, 111, 112, 113, 114, 115, 116, 117, 118, 119, 120, 121, 122, 123, 124, 125, 126, 127, 128, 129, 130, 131, 132, 99, 100, 101, 102, 103, 104, 105, 106, 107, 108, 109] (by decide +kernel) (by decide +kernel)) (goodIn_sub (fun _ h => List.mem_cons_of_mem _ (List.mem_append_left _ (List.mem_append_right _ h))) (by decide +kernel))) (goodIn_sub (fun _ h => List.mem_cons_of_mem _ (List.mem_append_right _ h)) (by decide +kernel))
set_option maxRecDepth 20000 in
theorem gX3_borrowed_X3_ledgerBehind : GoodIn wsX3_borrowed (wsV RX3 149 RX3 yX3_ledgerBehind wsX3_ledgerBehind) := goodIn_app (goodIn_of _ (by decide +kernel)) ggX3_borrowed_X3_ledgerBehind
theorem dX3_borrowed_0 : decode cX3_borrowed 0 = .ok (.aload_n 0, 1) := by decide +kernel
theorem dX3_borrowed_1 : decode cX3_borrowed 1 = .ok (.iload_n 1, 1) := by decide +kernel
theorem dX3_borrowed_2 : decode cX3_borrowed 2 = .ok (.iload_n 2, 1) := by decide +kernel
theorem dX3_borrowed_3 : decode cX3_borrowed 3 = .ok (.invokevirtual 149, 3) := by decide +kernel
theorem dX3_borrowed_6 : decode cX3_borrowed 6 = .ok (.getfield 153, 3) := by decide +kernel
theorem dX3_borrowed_9 : decode cX3_borrowed 9 = .ok (.ireturn, 1) := by decide +kernel
set_option maxRecDepth 20000 in
theorem ggX3_unpaid_X3_ledgerBehind : GoodIn wsX3_unpaid wsX3_ledgerBehind := goodIn_ca (goodIn_ca (goodIn_r _ [6, 7, 8, 9, 10, 5, 11, 12, 13, 14, 15, 16, 17, 18, 19, 20, 21, 22, 23, 24, 25, 26, 27, 28, 29, 30, 31, 32, 33, 34, 35, 36, 37, 38, 39, 40, 41, 42, 43, 44, 45, 46, 47, 48, 49, 50, 51, 52, 53, 54, 55, 56, 57, 58, 59, 60, 61, 62, 63, 64, 65, 66, 67, 68, 69, 70, 71, 72, 73, 74, 75, 76, 77, 78, 79, 80, 81, 82, 83, 84, 85, 86, 87, 88, 89, 90, 91, 92, 93, 94, 95, 96, 97, 98, 110, 111, 112, 113, 114, 115, 116, 117, 118, 119, 120, 121, 122, 123, 124, 125, 126, 127, 128, 129, 130, 131, 132, 99, 100, 101, 102, 103, 104, 105, 106, 107, 108, 109] (by decide +kernel) (by decide +kernel)) (goodIn_sub (fun _ h => List.mem_cons_of_mem _ (List.mem_append_left _ (List.mem_append_right _ h))) (by decide +kernel))) (goodIn_sub (fun _ h => List.mem_cons_of_mem _ (List.mem_append_right _ h)) (by decide +kernel))
set_option maxRecDepth 20000 in
theorem gX3_unpaid_X3_ledgerBehind : GoodIn wsX3_unpaid (wsV RX3 149 RX3 yX3_ledgerBehind wsX3_ledgerBehind) := goodIn_app (goodIn_of _ (by decide +kernel)) ggX3_unpaid_X3_ledgerBehind
theorem dX3_unpaid_0 : decode cX3_unpaid 0 = .ok (.aload_n 0, 1) := by decide +kernel
theorem dX3_unpaid_1 : decode cX3_unpaid 1 = .ok (.iload_n 1, 1) := by decide +kernel
theorem dX3_unpaid_2 : decode cX3_unpaid 2 = .ok (.iload_n 2, 1) := by decide +kernel
theorem dX3_unpaid_3 : decode cX3_unpaid 3 = .ok (.invokevirtual 149, 3) := by decide +kernel
theorem dX3_unpaid_6 : decode cX3_unpaid 6 = .ok (.getfield 168, 3) := by decide +kernel
theorem dX3_unpaid_9 : decode cX3_unpaid 9 = .ok (.ireturn, 1) := by decide +kernel
set_option maxRecDepth 20000 in
theorem ggX3_nextExpiry_X3_ledgerBehind : GoodIn wsX3_nextExpiry wsX3_ledgerBehind := goodIn_ca (goodIn_ca (goodIn_r _ [5, 6, 7, 8, 9, 4, 10, 11, 12, 13, 14, 15, 16, 17, 18, 19, 20, 21, 22, 23, 24, 25, 26, 27, 28, 29, 30, 31, 32, 33, 34, 35, 36, 37, 38, 39, 40, 41, 42, 43, 44, 45, 46, 47, 48, 49, 50, 51, 52, 53, 54, 55, 56, 57, 58, 59, 60, 61, 62, 63, 64, 65, 66, 67, 68, 69, 70, 71, 72, 73, 74, 75, 76, 77, 78, 79, 80, 81, 82, 83, 84, 85, 86, 87, 88, 89, 90, 91, 92, 93, 94, 95, 96, 97, 102, 103, 104, 105, 106, 107, 108, 109, 110, 111, 112, 113, 114, 115, 116, 117, 118, 119, 120, 121, 122, 123, 124, 125, 126, 127, 128, 129, 130, 131, 132, 133, 134, 135] (by decide +kernel) (by decide +kernel)) (goodIn_sub (fun _ h => List.mem_cons_of_mem _ (List.mem_append_left _ (List.mem_append_right _ h))) (by decide +kernel))) (goodIn_sub (fun _ h => List.mem_cons_of_mem _ (List.mem_append_right _ h)) (by decide +kernel))
set_option maxRecDepth 20000 in
theorem gX3_nextExpiry_X3_ledgerBehind : GoodIn wsX3_nextExpiry (wsV RX3 149 RX3 yX3_ledgerBehind wsX3_ledgerBehind) := goodIn_app (goodIn_of _ (by decide +kernel)) ggX3_nextExpiry_X3_ledgerBehind
set_option maxRecDepth 20000 in
theorem ggX3_nextExpiry_X0_firstExpiry : GoodIn wsX3_nextExpiry wsX0_firstExpiry := goodIn_r _ [101, 30, 29, 65, 66, 125, 126, 127, 128, 129, 130, 131, 132, 133, 134, 135] (by decide +kernel) (by decide +kernel)
set_option maxRecDepth 20000 in
theorem gX3_nextExpiry_X0_firstExpiry : GoodIn wsX3_nextExpiry (wsV RX3 171 RX0 yX0_firstExpiry wsX0_firstExpiry) := goodIn_app (goodIn_of _ (by decide +kernel)) ggX3_nextExpiry_X0_firstExpiry
theorem dX3_nextExpiry_0 : decode cX3_nextExpiry 0 = .ok (.aload_n 0, 1) := by decide +kernel
theorem dX3_nextExpiry_1 : decode cX3_nextExpiry 1 = .ok (.iload_n 1, 1) := by decide +kernel
theorem dX3_nextExpiry_2 : decode cX3_nextExpiry 2 = .ok (.iload_n 2, 1) := by decide +kernel
theorem dX3_nextExpiry_3 : decode cX3_nextExpiry 3 = .ok (.invokevirtual 149, 3) := by decide +kernel
theorem dX3_nextExpiry_6 : decode cX3_nextExpiry 6 = .ok (.invokevirtual 171, 3) := by decide +kernel
theorem dX3_nextExpiry_9 : decode cX3_nextExpiry 9 = .ok (.ireturn, 1) := by decide +kernel
theorem dX3_personAt_0 : decode cX3_personAt 0 = .ok (.iload_n 1, 1) := by decide +kernel
theorem dX3_personAt_1 : decode cX3_personAt 1 = .ok (.ifCond .lt 12, 3) := by decide +kernel
theorem dX3_personAt_4 : decode cX3_personAt 4 = .ok (.iload_n 1, 1) := by decide +kernel
theorem dX3_personAt_5 : decode cX3_personAt 5 = .ok (.aload_n 0, 1) := by decide +kernel
theorem dX3_personAt_6 : decode cX3_personAt 6 = .ok (.getfield 11, 3) := by decide +kernel
theorem dX3_personAt_9 : decode cX3_personAt 9 = .ok (.arraylength, 1) := by decide +kernel
theorem dX3_personAt_10 : decode cX3_personAt 10 = .ok (.if_icmp .lt 13, 3) := by decide +kernel
theorem dX3_personAt_13 : decode cX3_personAt 13 = .ok (.new 174, 3) := by decide +kernel
theorem dX3_personAt_16 : decode cX3_personAt 16 = .ok (.dup, 1) := by decide +kernel
theorem dX3_personAt_17 : decode cX3_personAt 17 = .ok (.ldc 176, 2) := by decide +kernel
theorem dX3_personAt_19 : decode cX3_personAt 19 = .ok (.invokespecial 178, 3) := by decide +kernel
theorem dX3_personAt_22 : decode cX3_personAt 22 = .ok (.athrow, 1) := by decide +kernel
theorem dX3_personAt_23 : decode cX3_personAt 23 = .ok (.aload_n 0, 1) := by decide +kernel
theorem dX3_personAt_24 : decode cX3_personAt 24 = .ok (.getfield 11, 3) := by decide +kernel
theorem dX3_personAt_27 : decode cX3_personAt 27 = .ok (.iload_n 1, 1) := by decide +kernel
theorem dX3_personAt_28 : decode cX3_personAt 28 = .ok (.aaload, 1) := by decide +kernel
theorem dX3_personAt_29 : decode cX3_personAt 29 = .ok (.astore_n 2, 1) := by decide +kernel
theorem dX3_personAt_30 : decode cX3_personAt 30 = .ok (.aload_n 2, 1) := by decide +kernel
theorem dX3_personAt_31 : decode cX3_personAt 31 = .ok (.ifnonnull 13, 3) := by decide +kernel
theorem dX3_personAt_34 : decode cX3_personAt 34 = .ok (.new 174, 3) := by decide +kernel
theorem dX3_personAt_37 : decode cX3_personAt 37 = .ok (.dup, 1) := by decide +kernel
theorem dX3_personAt_38 : decode cX3_personAt 38 = .ok (.ldc 176, 2) := by decide +kernel
theorem dX3_personAt_40 : decode cX3_personAt 40 = .ok (.invokespecial 178, 3) := by decide +kernel
theorem dX3_personAt_43 : decode cX3_personAt 43 = .ok (.athrow, 1) := by decide +kernel
theorem dX3_personAt_44 : decode cX3_personAt 44 = .ok (.aload_n 2, 1) := by decide +kernel
theorem dX3_personAt_45 : decode cX3_personAt 45 = .ok (.areturn, 1) := by decide +kernel
theorem dX3_requestAt_0 : decode cX3_requestAt 0 = .ok (.iload_n 1, 1) := by decide +kernel
theorem dX3_requestAt_1 : decode cX3_requestAt 1 = .ok (.ifCond .lt 12, 3) := by decide +kernel
theorem dX3_requestAt_4 : decode cX3_requestAt 4 = .ok (.iload_n 1, 1) := by decide +kernel
theorem dX3_requestAt_5 : decode cX3_requestAt 5 = .ok (.aload_n 0, 1) := by decide +kernel
theorem dX3_requestAt_6 : decode cX3_requestAt 6 = .ok (.getfield 17, 3) := by decide +kernel
theorem dX3_requestAt_9 : decode cX3_requestAt 9 = .ok (.arraylength, 1) := by decide +kernel
theorem dX3_requestAt_10 : decode cX3_requestAt 10 = .ok (.if_icmp .lt 13, 3) := by decide +kernel
theorem dX3_requestAt_13 : decode cX3_requestAt 13 = .ok (.new 174, 3) := by decide +kernel
theorem dX3_requestAt_16 : decode cX3_requestAt 16 = .ok (.dup, 1) := by decide +kernel
theorem dX3_requestAt_17 : decode cX3_requestAt 17 = .ok (.ldc 179, 2) := by decide +kernel
theorem dX3_requestAt_19 : decode cX3_requestAt 19 = .ok (.invokespecial 178, 3) := by decide +kernel
theorem dX3_requestAt_22 : decode cX3_requestAt 22 = .ok (.athrow, 1) := by decide +kernel
theorem dX3_requestAt_23 : decode cX3_requestAt 23 = .ok (.aload_n 0, 1) := by decide +kernel
theorem dX3_requestAt_24 : decode cX3_requestAt 24 = .ok (.getfield 17, 3) := by decide +kernel
theorem dX3_requestAt_27 : decode cX3_requestAt 27 = .ok (.iload_n 1, 1) := by decide +kernel
theorem dX3_requestAt_28 : decode cX3_requestAt 28 = .ok (.aaload, 1) := by decide +kernel
theorem dX3_requestAt_29 : decode cX3_requestAt 29 = .ok (.astore_n 2, 1) := by decide +kernel
theorem dX3_requestAt_30 : decode cX3_requestAt 30 = .ok (.aload_n 2, 1) := by decide +kernel
theorem dX3_requestAt_31 : decode cX3_requestAt 31 = .ok (.ifnonnull 13, 3) := by decide +kernel
theorem dX3_requestAt_34 : decode cX3_requestAt 34 = .ok (.new 174, 3) := by decide +kernel
theorem dX3_requestAt_37 : decode cX3_requestAt 37 = .ok (.dup, 1) := by decide +kernel
theorem dX3_requestAt_38 : decode cX3_requestAt 38 = .ok (.ldc 179, 2) := by decide +kernel
theorem dX3_requestAt_40 : decode cX3_requestAt 40 = .ok (.invokespecial 178, 3) := by decide +kernel
theorem dX3_requestAt_43 : decode cX3_requestAt 43 = .ok (.athrow, 1) := by decide +kernel
theorem dX3_requestAt_44 : decode cX3_requestAt 44 = .ok (.aload_n 2, 1) := by decide +kernel
theorem dX3_requestAt_45 : decode cX3_requestAt 45 = .ok (.areturn, 1) := by decide +kernel
set_option maxRecDepth 20000 in
theorem ggX3_ledgerBehind_X3_personAt : GoodIn wsX3_ledgerBehind wsX3_personAt := goodIn_ca (goodIn_r _ [6, 7, 8, 9, 94, 95, 96, 97, 98, 99, 100, 101] (by decide +kernel) (by decide +kernel)) (goodIn_sub (fun _ h => List.mem_cons_of_mem _ (List.mem_append_left _ (List.mem_append_right _ h))) (by decide +kernel))
set_option maxRecDepth 20000 in
theorem gX3_ledgerBehind_X3_personAt : GoodIn wsX3_ledgerBehind (wsV RX3 54 RX3 yX3_personAt wsX3_personAt) := goodIn_app (goodIn_of _ (by decide +kernel)) ggX3_ledgerBehind_X3_personAt
set_option maxRecDepth 20000 in
theorem ggX3_ledgerBehind_X3_checkDay : GoodIn wsX3_ledgerBehind wsX3_checkDay := goodIn_ca (goodIn_r _ [12, 13, 14] (by decide +kernel) (by decide +kernel)) (goodIn_sub (fun _ h => List.mem_cons_of_mem _ (List.mem_append_right _ h)) (by decide +kernel))
set_option maxRecDepth 20000 in
theorem gX3_ledgerBehind_X3_checkDay : GoodIn wsX3_ledgerBehind (va_wsS RX3 61 yX3_checkDay wsX3_checkDay) := goodIn_app (goodIn_of _ (by decide +kernel)) ggX3_ledgerBehind_X3_checkDay
set_option maxRecDepth 20000 in
theorem ggX3_ledgerBehind_X0_goThrough : GoodIn wsX3_ledgerBehind wsX0_goThrough := goodIn_r _ [19, 20, 21, 22, 23, 18, 24, 25, 26, 27, 28, 29, 30, 31, 32, 33, 34, 35, 36, 37, 38, 39, 40, 41, 42, 43, 44, 45, 46, 47, 48, 49, 50, 51, 52, 53, 54, 55, 56, 57, 58, 59, 60, 61, 62, 63, 64, 65, 66, 67, 68, 69, 70, 71, 72, 73, 74, 75, 76, 77, 78, 79, 80, 81, 82, 83, 84, 85, 86, 87, 88, 89, 90, 91, 92, 93, 102, 103, 104, 105, 106, 107, 108, 109, 110, 111, 112, 113, 114, 115, 116, 117, 118, 119, 120, 121, 122, 123, 124, 125, 126, 127] (by decide +kernel) (by decide +kernel)
set_option maxRecDepth 20000 in
theorem gX3_ledgerBehind_X0_goThrough : GoodIn wsX3_ledgerBehind (wsV RX3 126 RX0 yX0_goThrough wsX0_goThrough) := goodIn_app (goodIn_of _ (by decide +kernel)) ggX3_ledgerBehind_X0_goThrough
theorem dX3_ledgerBehind_0 : decode cX3_ledgerBehind 0 = .ok (.aload_n 0, 1) := by decide +kernel
theorem dX3_ledgerBehind_1 : decode cX3_ledgerBehind 1 = .ok (.iload_n 1, 1) := by decide +kernel
theorem dX3_ledgerBehind_2 : decode cX3_ledgerBehind 2 = .ok (.invokevirtual 54, 3) := by decide +kernel
theorem dX3_ledgerBehind_5 : decode cX3_ledgerBehind 5 = .ok (.astore_n 3, 1) := by decide +kernel
theorem dX3_ledgerBehind_6 : decode cX3_ledgerBehind 6 = .ok (.iconst 0, 1) := by decide +kernel
theorem dX3_ledgerBehind_7 : decode cX3_ledgerBehind 7 = .ok (.iload_n 2, 1) := by decide +kernel
theorem dX3_ledgerBehind_8 : decode cX3_ledgerBehind 8 = .ok (.invokestatic 61, 3) := by decide +kernel
theorem dX3_ledgerBehind_11 : decode cX3_ledgerBehind 11 = .ok (.aload_n 0, 1) := by decide +kernel
theorem dX3_ledgerBehind_12 : decode cX3_ledgerBehind 12 = .ok (.getfield 24, 3) := by decide +kernel
theorem dX3_ledgerBehind_15 : decode cX3_ledgerBehind 15 = .ok (.aload_n 3, 1) := by decide +kernel
theorem dX3_ledgerBehind_16 : decode cX3_ledgerBehind 16 = .ok (.iload_n 2, 1) := by decide +kernel
theorem dX3_ledgerBehind_17 : decode cX3_ledgerBehind 17 = .ok (.invokevirtual 126, 3) := by decide +kernel
theorem dX3_ledgerBehind_20 : decode cX3_ledgerBehind 20 = .ok (.aload_n 0, 1) := by decide +kernel
theorem dX3_ledgerBehind_21 : decode cX3_ledgerBehind 21 = .ok (.getfield 24, 3) := by decide +kernel
theorem dX3_ledgerBehind_24 : decode cX3_ledgerBehind 24 = .ok (.areturn, 1) := by decide +kernel
theorem dX3_checkDay_0 : decode cX3_checkDay 0 = .ok (.iload_n 1, 1) := by decide +kernel
theorem dX3_checkDay_1 : decode cX3_checkDay 1 = .ok (.iload_n 0, 1) := by decide +kernel
theorem dX3_checkDay_2 : decode cX3_checkDay 2 = .ok (.if_icmp .lt 10, 3) := by decide +kernel
theorem dX3_checkDay_5 : decode cX3_checkDay 5 = .ok (.iload_n 1, 1) := by decide +kernel
theorem dX3_checkDay_6 : decode cX3_checkDay 6 = .ok (.sipush 3600, 3) := by decide +kernel
theorem dX3_checkDay_9 : decode cX3_checkDay 9 = .ok (.if_icmp .le 13, 3) := by decide +kernel
theorem dX3_checkDay_12 : decode cX3_checkDay 12 = .ok (.new 28, 3) := by decide +kernel
theorem dX3_checkDay_15 : decode cX3_checkDay 15 = .ok (.dup, 1) := by decide +kernel
theorem dX3_checkDay_16 : decode cX3_checkDay 16 = .ok (.ldc 181, 2) := by decide +kernel
theorem dX3_checkDay_18 : decode cX3_checkDay 18 = .ok (.invokespecial 32, 3) := by decide +kernel
theorem dX3_checkDay_21 : decode cX3_checkDay 21 = .ok (.athrow, 1) := by decide +kernel
theorem dX3_checkDay_22 : decode cX3_checkDay 22 = .ok (.return_, 1) := by decide +kernel
theorem dX3_checkDays_0 : decode cX3_checkDays 0 = .ok (.iload_n 1, 1) := by decide +kernel
theorem dX3_checkDays_1 : decode cX3_checkDays 1 = .ok (.iload_n 0, 1) := by decide +kernel
theorem dX3_checkDays_2 : decode cX3_checkDays 2 = .ok (.if_icmp .lt 15, 3) := by decide +kernel
theorem dX3_checkDays_5 : decode cX3_checkDays 5 = .ok (.iload_n 2, 1) := by decide +kernel
theorem dX3_checkDays_6 : decode cX3_checkDays 6 = .ok (.iload_n 1, 1) := by decide +kernel
theorem dX3_checkDays_7 : decode cX3_checkDays 7 = .ok (.if_icmp .lt 10, 3) := by decide +kernel
theorem dX3_checkDays_10 : decode cX3_checkDays 10 = .ok (.iload_n 2, 1) := by decide +kernel
theorem dX3_checkDays_11 : decode cX3_checkDays 11 = .ok (.sipush 3600, 3) := by decide +kernel
theorem dX3_checkDays_14 : decode cX3_checkDays 14 = .ok (.if_icmp .le 13, 3) := by decide +kernel
theorem dX3_checkDays_17 : decode cX3_checkDays 17 = .ok (.new 28, 3) := by decide +kernel
theorem dX3_checkDays_20 : decode cX3_checkDays 20 = .ok (.dup, 1) := by decide +kernel
theorem dX3_checkDays_21 : decode cX3_checkDays 21 = .ok (.ldc 183, 2) := by decide +kernel
theorem dX3_checkDays_23 : decode cX3_checkDays 23 = .ok (.invokespecial 32, 3) := by decide +kernel
theorem dX3_checkDays_26 : decode cX3_checkDays 26 = .ok (.athrow, 1) := by decide +kernel
theorem dX3_checkDays_27 : decode cX3_checkDays 27 = .ok (.return_, 1) := by decide +kernel
theorem dX3_checkHours_0 : decode cX3_checkHours 0 = .ok (.iload_n 0, 1) := by decide +kernel
theorem dX3_checkHours_1 : decode cX3_checkHours 1 = .ok (.iconst 1, 1) := by decide +kernel
theorem dX3_checkHours_2 : decode cX3_checkHours 2 = .ok (.if_icmp .lt 9, 3) := by decide +kernel
theorem dX3_checkHours_5 : decode cX3_checkHours 5 = .ok (.iload_n 0, 1) := by decide +kernel
theorem dX3_checkHours_6 : decode cX3_checkHours 6 = .ok (.bipush 10, 2) := by decide +kernel
theorem dX3_checkHours_8 : decode cX3_checkHours 8 = .ok (.if_icmp .le 13, 3) := by decide +kernel
theorem dX3_checkHours_11 : decode cX3_checkHours 11 = .ok (.new 28, 3) := by decide +kernel
theorem dX3_checkHours_14 : decode cX3_checkHours 14 = .ok (.dup, 1) := by decide +kernel
theorem dX3_checkHours_15 : decode cX3_checkHours 15 = .ok (.ldc 185, 2) := by decide +kernel
theorem dX3_checkHours_17 : decode cX3_checkHours 17 = .ok (.invokespecial 32, 3) := by decide +kernel
theorem dX3_checkHours_20 : decode cX3_checkHours 20 = .ok (.athrow, 1) := by decide +kernel
theorem dX3_checkHours_21 : decode cX3_checkHours 21 = .ok (.return_, 1) := by decide +kernel
theorem dX3_isWorkingDay_0 : decode cX3_isWorkingDay 0 = .ok (.iload_n 0, 1) := by decide +kernel
theorem dX3_isWorkingDay_1 : decode cX3_isWorkingDay 1 = .ok (.bipush 7, 2) := by decide +kernel
theorem dX3_isWorkingDay_3 : decode cX3_isWorkingDay 3 = .ok (.irem, 1) := by decide +kernel
theorem dX3_isWorkingDay_4 : decode cX3_isWorkingDay 4 = .ok (.iconst 5, 1) := by decide +kernel
theorem dX3_isWorkingDay_5 : decode cX3_isWorkingDay 5 = .ok (.if_icmp .ge 7, 3) := by decide +kernel
theorem dX3_isWorkingDay_8 : decode cX3_isWorkingDay 8 = .ok (.iconst 1, 1) := by decide +kernel
theorem dX3_isWorkingDay_9 : decode cX3_isWorkingDay 9 = .ok (.goto 4, 3) := by decide +kernel
theorem dX3_isWorkingDay_12 : decode cX3_isWorkingDay 12 = .ok (.iconst 0, 1) := by decide +kernel
theorem dX3_isWorkingDay_13 : decode cX3_isWorkingDay 13 = .ok (.ireturn, 1) := by decide +kernel
theorem dX3_workingDaysAheadOf_0 : decode cX3_workingDaysAheadOf 0 = .ok (.iload_n 0, 1) := by decide +kernel
theorem dX3_workingDaysAheadOf_1 : decode cX3_workingDaysAheadOf 1 = .ok (.bipush 7, 2) := by decide +kernel
theorem dX3_workingDaysAheadOf_3 : decode cX3_workingDaysAheadOf 3 = .ok (.idiv, 1) := by decide +kernel
theorem dX3_workingDaysAheadOf_4 : decode cX3_workingDaysAheadOf 4 = .ok (.iconst 5, 1) := by decide +kernel
theorem dX3_workingDaysAheadOf_5 : decode cX3_workingDaysAheadOf 5 = .ok (.imul, 1) := by decide +kernel
theorem dX3_workingDaysAheadOf_6 : decode cX3_workingDaysAheadOf 6 = .ok (.istore_n 1, 1) := by decide +kernel
theorem dX3_workingDaysAheadOf_7 : decode cX3_workingDaysAheadOf 7 = .ok (.iload_n 1, 1) := by decide +kernel
theorem dX3_workingDaysAheadOf_8 : decode cX3_workingDaysAheadOf 8 = .ok (.iload_n 0, 1) := by decide +kernel
theorem dX3_workingDaysAheadOf_9 : decode cX3_workingDaysAheadOf 9 = .ok (.bipush 7, 2) := by decide +kernel
theorem dX3_workingDaysAheadOf_11 : decode cX3_workingDaysAheadOf 11 = .ok (.irem, 1) := by decide +kernel
theorem dX3_workingDaysAheadOf_12 : decode cX3_workingDaysAheadOf 12 = .ok (.iconst 5, 1) := by decide +kernel
theorem dX3_workingDaysAheadOf_13 : decode cX3_workingDaysAheadOf 13 = .ok (.invokestatic 187, 3) := by decide +kernel
theorem dX3_workingDaysAheadOf_16 : decode cX3_workingDaysAheadOf 16 = .ok (.iadd, 1) := by decide +kernel
theorem dX3_workingDaysAheadOf_17 : decode cX3_workingDaysAheadOf 17 = .ok (.ireturn, 1) := by decide +kernel
