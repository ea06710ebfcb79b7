theorem dX4_init_0 : decode cX4_init 0 = .ok (.aload_n 0, 1) := by decide +kernel
theorem dX4_init_1 : decode cX4_init 1 = .ok (.invokespecial 1, 3) := by decide +kernel
theorem dX4_init_4 : decode cX4_init 4 = .ok (.aload_n 0, 1) := by decide +kernel
theorem dX4_init_5 : decode cX4_init 5 = .ok (.bipush 8, 2) := by decide +kernel
theorem dX4_init_7 : decode cX4_init 7 = .ok (.newarray .int, 2) := by decide +kernel
theorem dX4_init_9 : decode cX4_init 9 = .ok (.putfield 7, 3) := by decide +kernel
theorem dX4_init_12 : decode cX4_init 12 = .ok (.aload_n 0, 1) := by decide +kernel
theorem dX4_init_13 : decode cX4_init 13 = .ok (.bipush 8, 2) := by decide +kernel
theorem dX4_init_15 : decode cX4_init 15 = .ok (.newarray .int, 2) := by decide +kernel
theorem dX4_init_17 : decode cX4_init 17 = .ok (.putfield 13, 3) := by decide +kernel
theorem dX4_init_20 : decode cX4_init 20 = .ok (.aload_n 0, 1) := by decide +kernel
theorem dX4_init_21 : decode cX4_init 21 = .ok (.bipush 8, 2) := by decide +kernel
theorem dX4_init_23 : decode cX4_init 23 = .ok (.newarray .int, 2) := by decide +kernel
theorem dX4_init_25 : decode cX4_init 25 = .ok (.putfield 16, 3) := by decide +kernel
theorem dX4_init_28 : decode cX4_init 28 = .ok (.aload_n 0, 1) := by decide +kernel
theorem dX4_init_29 : decode cX4_init 29 = .ok (.bipush 8, 2) := by decide +kernel
theorem dX4_init_31 : decode cX4_init 31 = .ok (.newarray .int, 2) := by decide +kernel
theorem dX4_init_33 : decode cX4_init 33 = .ok (.putfield 19, 3) := by decide +kernel
theorem dX4_init_36 : decode cX4_init 36 = .ok (.aload_n 0, 1) := by decide +kernel
theorem dX4_init_37 : decode cX4_init 37 = .ok (.bipush 80, 2) := by decide +kernel
theorem dX4_init_39 : decode cX4_init 39 = .ok (.newarray .int, 2) := by decide +kernel
theorem dX4_init_41 : decode cX4_init 41 = .ok (.putfield 22, 3) := by decide +kernel
theorem dX4_init_44 : decode cX4_init 44 = .ok (.aload_n 0, 1) := by decide +kernel
theorem dX4_init_45 : decode cX4_init 45 = .ok (.bipush 80, 2) := by decide +kernel
theorem dX4_init_47 : decode cX4_init 47 = .ok (.newarray .int, 2) := by decide +kernel
theorem dX4_init_49 : decode cX4_init 49 = .ok (.putfield 25, 3) := by decide +kernel
theorem dX4_init_52 : decode cX4_init 52 = .ok (.aload_n 0, 1) := by decide +kernel
theorem dX4_init_53 : decode cX4_init 53 = .ok (.bipush 40, 2) := by decide +kernel
theorem dX4_init_55 : decode cX4_init 55 = .ok (.newarray .int, 2) := by decide +kernel
theorem dX4_init_57 : decode cX4_init 57 = .ok (.putfield 28, 3) := by decide +kernel
theorem dX4_init_60 : decode cX4_init 60 = .ok (.aload_n 0, 1) := by decide +kernel
theorem dX4_init_61 : decode cX4_init 61 = .ok (.bipush 40, 2) := by decide +kernel
theorem dX4_init_63 : decode cX4_init 63 = .ok (.newarray .int, 2) := by decide +kernel
theorem dX4_init_65 : decode cX4_init 65 = .ok (.putfield 31, 3) := by decide +kernel
theorem dX4_init_68 : decode cX4_init 68 = .ok (.aload_n 0, 1) := by decide +kernel
theorem dX4_init_69 : decode cX4_init 69 = .ok (.bipush 40, 2) := by decide +kernel
theorem dX4_init_71 : decode cX4_init 71 = .ok (.newarray .int, 2) := by decide +kernel
theorem dX4_init_73 : decode cX4_init 73 = .ok (.putfield 34, 3) := by decide +kernel
theorem dX4_init_76 : decode cX4_init 76 = .ok (.aload_n 0, 1) := by decide +kernel
theorem dX4_init_77 : decode cX4_init 77 = .ok (.bipush 40, 2) := by decide +kernel
theorem dX4_init_79 : decode cX4_init 79 = .ok (.newarray .boolean, 2) := by decide +kernel
theorem dX4_init_81 : decode cX4_init 81 = .ok (.putfield 37, 3) := by decide +kernel
theorem dX4_init_84 : decode cX4_init 84 = .ok (.aload_n 0, 1) := by decide +kernel
theorem dX4_init_85 : decode cX4_init 85 = .ok (.bipush 40, 2) := by decide +kernel
theorem dX4_init_87 : decode cX4_init 87 = .ok (.newarray .boolean, 2) := by decide +kernel
theorem dX4_init_89 : decode cX4_init 89 = .ok (.putfield 41, 3) := by decide +kernel
theorem dX4_init_92 : decode cX4_init 92 = .ok (.aload_n 0, 1) := by decide +kernel
theorem dX4_init_93 : decode cX4_init 93 = .ok (.bipush 30, 2) := by decide +kernel
theorem dX4_init_95 : decode cX4_init 95 = .ok (.newarray .int, 2) := by decide +kernel
theorem dX4_init_97 : decode cX4_init 97 = .ok (.putfield 44, 3) := by decide +kernel
theorem dX4_init_100 : decode cX4_init 100 = .ok (.aload_n 0, 1) := by decide +kernel
theorem dX4_init_101 : decode cX4_init 101 = .ok (.bipush 30, 2) := by decide +kernel
theorem dX4_init_103 : decode cX4_init 103 = .ok (.newarray .int, 2) := by decide +kernel
theorem dX4_init_105 : decode cX4_init 105 = .ok (.putfield 47, 3) := by decide +kernel
theorem dX4_init_108 : decode cX4_init 108 = .ok (.aload_n 0, 1) := by decide +kernel
theorem dX4_init_109 : decode cX4_init 109 = .ok (.bipush 30, 2) := by decide +kernel
theorem dX4_init_111 : decode cX4_init 111 = .ok (.newarray .int, 2) := by decide +kernel
theorem dX4_init_113 : decode cX4_init 113 = .ok (.putfield 50, 3) := by decide +kernel
theorem dX4_init_116 : decode cX4_init 116 = .ok (.aload_n 0, 1) := by decide +kernel
theorem dX4_init_117 : decode cX4_init 117 = .ok (.bipush 20, 2) := by decide +kernel
theorem dX4_init_119 : decode cX4_init 119 = .ok (.newarray .int, 2) := by decide +kernel
theorem dX4_init_121 : decode cX4_init 121 = .ok (.putfield 53, 3) := by decide +kernel
theorem dX4_init_124 : decode cX4_init 124 = .ok (.aload_n 0, 1) := by decide +kernel
theorem dX4_init_125 : decode cX4_init 125 = .ok (.bipush 20, 2) := by decide +kernel
theorem dX4_init_127 : decode cX4_init 127 = .ok (.newarray .int, 2) := by decide +kernel
theorem dX4_init_129 : decode cX4_init 129 = .ok (.putfield 56, 3) := by decide +kernel
theorem dX4_init_132 : decode cX4_init 132 = .ok (.aload_n 0, 1) := by decide +kernel
theorem dX4_init_133 : decode cX4_init 133 = .ok (.bipush 20, 2) := by decide +kernel
theorem dX4_init_135 : decode cX4_init 135 = .ok (.newarray .int, 2) := by decide +kernel
theorem dX4_init_137 : decode cX4_init 137 = .ok (.putfield 59, 3) := by decide +kernel
theorem dX4_init_140 : decode cX4_init 140 = .ok (.aload_n 0, 1) := by decide +kernel
theorem dX4_init_141 : decode cX4_init 141 = .ok (.bipush 11, 2) := by decide +kernel
theorem dX4_init_143 : decode cX4_init 143 = .ok (.newarray .int, 2) := by decide +kernel
theorem dX4_init_145 : decode cX4_init 145 = .ok (.putfield 62, 3) := by decide +kernel
theorem dX4_init_148 : decode cX4_init 148 = .ok (.return_, 1) := by decide +kernel
theorem dX4_thrown_0 : decode cX4_thrown 0 = .ok (.aload_n 0, 1) := by decide +kernel
theorem dX4_thrown_1 : decode cX4_thrown 1 = .ok (.getfield 65, 3) := by decide +kernel
theorem dX4_thrown_4 : decode cX4_thrown 4 = .ok (.ireturn, 1) := by decide +kernel
theorem dX4_fails_0 : decode cX4_fails 0 = .ok (.aload_n 0, 1) := by decide +kernel
theorem dX4_fails_1 : decode cX4_fails 1 = .ok (.iload_n 1, 1) := by decide +kernel
theorem dX4_fails_2 : decode cX4_fails 2 = .ok (.putfield 65, 3) := by decide +kernel
theorem dX4_fails_5 : decode cX4_fails 5 = .ok (.iconst 0, 1) := by decide +kernel
theorem dX4_fails_6 : decode cX4_fails 6 = .ok (.ireturn, 1) := by decide +kernel
theorem dX4_in_0 : decode cX4_in 0 = .ok (.iload_n 0, 1) := by decide +kernel
theorem dX4_in_1 : decode cX4_in 1 = .ok (.iload_n 1, 1) := by decide +kernel
theorem dX4_in_2 : decode cX4_in 2 = .ok (.if_icmp .lt 12, 3) := by decide +kernel
theorem dX4_in_5 : decode cX4_in 5 = .ok (.iload_n 0, 1) := by decide +kernel
theorem dX4_in_6 : decode cX4_in 6 = .ok (.iload_n 2, 1) := by decide +kernel
theorem dX4_in_7 : decode cX4_in 7 = .ok (.if_icmp .gt 7, 3) := by decide +kernel
theorem dX4_in_10 : decode cX4_in 10 = .ok (.iconst 1, 1) := by decide +kernel
theorem dX4_in_11 : decode cX4_in 11 = .ok (.goto 4, 3) := by decide +kernel
theorem dX4_in_14 : decode cX4_in 14 = .ok (.iconst 0, 1) := by decide +kernel
theorem dX4_in_15 : decode cX4_in 15 = .ok (.ireturn, 1) := by decide +kernel
set_option maxRecDepth 20000 in
theorem ggX4_isPerson_X4_in : GoodIn wsX4_isPerson wsX4_in := goodIn_r _ [5] (by decide +kernel) (by decide +kernel)
set_option maxRecDepth 20000 in
theorem gX4_isPerson_X4_in : GoodIn wsX4_isPerson (va_wsS RX4 72 yX4_in wsX4_in) := goodIn_app (goodIn_of _ (by decide +kernel)) ggX4_isPerson_X4_in
theorem dX4_isPerson_0 : decode cX4_isPerson 0 = .ok (.iload_n 1, 1) := by decide +kernel
theorem dX4_isPerson_1 : decode cX4_isPerson 1 = .ok (.iconst 0, 1) := by decide +kernel
theorem dX4_isPerson_2 : decode cX4_isPerson 2 = .ok (.aload_n 0, 1) := by decide +kernel
theorem dX4_isPerson_3 : decode cX4_isPerson 3 = .ok (.getfield 69, 3) := by decide +kernel
theorem dX4_isPerson_6 : decode cX4_isPerson 6 = .ok (.iconst 1, 1) := by decide +kernel
theorem dX4_isPerson_7 : decode cX4_isPerson 7 = .ok (.isub, 1) := by decide +kernel
theorem dX4_isPerson_8 : decode cX4_isPerson 8 = .ok (.invokestatic 72, 3) := by decide +kernel
theorem dX4_isPerson_11 : decode cX4_isPerson 11 = .ok (.ireturn, 1) := by decide +kernel
set_option maxRecDepth 20000 in
theorem ggX4_areDays_X4_in : GoodIn wsX4_areDays wsX4_in := goodIn_r _ [5] (by decide +kernel) (by decide +kernel)
set_option maxRecDepth 20000 in
theorem gX4_areDays_X4_in : GoodIn wsX4_areDays (va_wsS RX4 72 yX4_in wsX4_in) := goodIn_app (goodIn_of _ (by decide +kernel)) ggX4_areDays_X4_in
theorem dX4_areDays_0 : decode cX4_areDays 0 = .ok (.iload_n 2, 1) := by decide +kernel
theorem dX4_areDays_1 : decode cX4_areDays 1 = .ok (.aload_n 0, 1) := by decide +kernel
theorem dX4_areDays_2 : decode cX4_areDays 2 = .ok (.getfield 7, 3) := by decide +kernel
theorem dX4_areDays_5 : decode cX4_areDays 5 = .ok (.iload_n 1, 1) := by decide +kernel
theorem dX4_areDays_6 : decode cX4_areDays 6 = .ok (.iaload, 1) := by decide +kernel
theorem dX4_areDays_7 : decode cX4_areDays 7 = .ok (.sipush 3600, 3) := by decide +kernel
theorem dX4_areDays_10 : decode cX4_areDays 10 = .ok (.invokestatic 72, 3) := by decide +kernel
theorem dX4_areDays_13 : decode cX4_areDays 13 = .ok (.ifCond .eq 18, 3) := by decide +kernel
theorem dX4_areDays_16 : decode cX4_areDays 16 = .ok (.iload_n 3, 1) := by decide +kernel
theorem dX4_areDays_17 : decode cX4_areDays 17 = .ok (.iload_n 2, 1) := by decide +kernel
theorem dX4_areDays_18 : decode cX4_areDays 18 = .ok (.sipush 3600, 3) := by decide +kernel
theorem dX4_areDays_21 : decode cX4_areDays 21 = .ok (.invokestatic 72, 3) := by decide +kernel
theorem dX4_areDays_24 : decode cX4_areDays 24 = .ok (.ifCond .eq 7, 3) := by decide +kernel
theorem dX4_areDays_27 : decode cX4_areDays 27 = .ok (.iconst 1, 1) := by decide +kernel
theorem dX4_areDays_28 : decode cX4_areDays 28 = .ok (.goto 4, 3) := by decide +kernel
theorem dX4_areDays_31 : decode cX4_areDays 31 = .ok (.iconst 0, 1) := by decide +kernel
theorem dX4_areDays_32 : decode cX4_areDays 32 = .ok (.ireturn, 1) := by decide +kernel
theorem dX4_isWorking_0 : decode cX4_isWorking 0 = .ok (.iload_n 0, 1) := by decide +kernel
theorem dX4_isWorking_1 : decode cX4_isWorking 1 = .ok (.bipush 7, 2) := by decide +kernel
theorem dX4_isWorking_3 : decode cX4_isWorking 3 = .ok (.irem, 1) := by decide +kernel
theorem dX4_isWorking_4 : decode cX4_isWorking 4 = .ok (.iconst 5, 1) := by decide +kernel
theorem dX4_isWorking_5 : decode cX4_isWorking 5 = .ok (.if_icmp .ge 7, 3) := by decide +kernel
theorem dX4_isWorking_8 : decode cX4_isWorking 8 = .ok (.iconst 1, 1) := by decide +kernel
theorem dX4_isWorking_9 : decode cX4_isWorking 9 = .ok (.goto 4, 3) := by decide +kernel
theorem dX4_isWorking_12 : decode cX4_isWorking 12 = .ok (.iconst 0, 1) := by decide +kernel
theorem dX4_isWorking_13 : decode cX4_isWorking 13 = .ok (.ireturn, 1) := by decide +kernel
theorem dX4_hoursOn_0 : decode cX4_hoursOn 0 = .ok (.aload_n 0, 1) := by decide +kernel
theorem dX4_hoursOn_1 : decode cX4_hoursOn 1 = .ok (.getfield 16, 3) := by decide +kernel
theorem dX4_hoursOn_4 : decode cX4_hoursOn 4 = .ok (.iload_n 1, 1) := by decide +kernel
theorem dX4_hoursOn_5 : decode cX4_hoursOn 5 = .ok (.iaload, 1) := by decide +kernel
theorem dX4_hoursOn_6 : decode cX4_hoursOn 6 = .ok (.istore_n 3, 1) := by decide +kernel
theorem dX4_hoursOn_7 : decode cX4_hoursOn 7 = .ok (.iconst (-1), 1) := by decide +kernel
theorem dX4_hoursOn_8 : decode cX4_hoursOn 8 = .ok (.istore 4, 2) := by decide +kernel
theorem dX4_hoursOn_10 : decode cX4_hoursOn 10 = .ok (.bipush 10, 2) := by decide +kernel
theorem dX4_hoursOn_12 : decode cX4_hoursOn 12 = .ok (.iload_n 1, 1) := by decide +kernel
theorem dX4_hoursOn_13 : decode cX4_hoursOn 13 = .ok (.imul, 1) := by decide +kernel
theorem dX4_hoursOn_14 : decode cX4_hoursOn 14 = .ok (.istore 5, 2) := by decide +kernel
theorem dX4_hoursOn_16 : decode cX4_hoursOn 16 = .ok (.iload 5, 2) := by decide +kernel
theorem dX4_hoursOn_18 : decode cX4_hoursOn 18 = .ok (.bipush 10, 2) := by decide +kernel
theorem dX4_hoursOn_20 : decode cX4_hoursOn 20 = .ok (.iload_n 1, 1) := by decide +kernel
theorem dX4_hoursOn_21 : decode cX4_hoursOn 21 = .ok (.imul, 1) := by decide +kernel
theorem dX4_hoursOn_22 : decode cX4_hoursOn 22 = .ok (.aload_n 0, 1) := by decide +kernel
theorem dX4_hoursOn_23 : decode cX4_hoursOn 23 = .ok (.getfield 19, 3) := by decide +kernel
theorem dX4_hoursOn_26 : decode cX4_hoursOn 26 = .ok (.iload_n 1, 1) := by decide +kernel
theorem dX4_hoursOn_27 : decode cX4_hoursOn 27 = .ok (.iaload, 1) := by decide +kernel
theorem dX4_hoursOn_28 : decode cX4_hoursOn 28 = .ok (.iadd, 1) := by decide +kernel
theorem dX4_hoursOn_29 : decode cX4_hoursOn 29 = .ok (.if_icmp .ge 75, 3) := by decide +kernel
theorem dX4_hoursOn_32 : decode cX4_hoursOn 32 = .ok (.aload_n 0, 1) := by decide +kernel
theorem dX4_hoursOn_33 : decode cX4_hoursOn 33 = .ok (.getfield 22, 3) := by decide +kernel
theorem dX4_hoursOn_36 : decode cX4_hoursOn 36 = .ok (.iload 5, 2) := by decide +kernel
theorem dX4_hoursOn_38 : decode cX4_hoursOn 38 = .ok (.iaload, 1) := by decide +kernel
theorem dX4_hoursOn_39 : decode cX4_hoursOn 39 = .ok (.iload_n 2, 1) := by decide +kernel
theorem dX4_hoursOn_40 : decode cX4_hoursOn 40 = .ok (.if_icmp .gt 19, 3) := by decide +kernel
theorem dX4_hoursOn_43 : decode cX4_hoursOn 43 = .ok (.aload_n 0, 1) := by decide +kernel
theorem dX4_hoursOn_44 : decode cX4_hoursOn 44 = .ok (.getfield 22, 3) := by decide +kernel
theorem dX4_hoursOn_47 : decode cX4_hoursOn 47 = .ok (.iload 5, 2) := by decide +kernel
theorem dX4_hoursOn_49 : decode cX4_hoursOn 49 = .ok (.iaload, 1) := by decide +kernel
theorem dX4_hoursOn_50 : decode cX4_hoursOn 50 = .ok (.iload 4, 2) := by decide +kernel
theorem dX4_hoursOn_52 : decode cX4_hoursOn 52 = .ok (.if_icmp .le 7, 3) := by decide +kernel
theorem dX4_hoursOn_55 : decode cX4_hoursOn 55 = .ok (.iconst 1, 1) := by decide +kernel
theorem dX4_hoursOn_56 : decode cX4_hoursOn 56 = .ok (.goto 4, 3) := by decide +kernel
theorem dX4_hoursOn_59 : decode cX4_hoursOn 59 = .ok (.iconst 0, 1) := by decide +kernel
theorem dX4_hoursOn_60 : decode cX4_hoursOn 60 = .ok (.istore 6, 2) := by decide +kernel
theorem dX4_hoursOn_62 : decode cX4_hoursOn 62 = .ok (.iload 6, 2) := by decide +kernel
theorem dX4_hoursOn_64 : decode cX4_hoursOn 64 = .ok (.ifCond .eq 13, 3) := by decide +kernel
theorem dX4_hoursOn_67 : decode cX4_hoursOn 67 = .ok (.aload_n 0, 1) := by decide +kernel
theorem dX4_hoursOn_68 : decode cX4_hoursOn 68 = .ok (.getfield 25, 3) := by decide +kernel
theorem dX4_hoursOn_71 : decode cX4_hoursOn 71 = .ok (.iload 5, 2) := by decide +kernel
theorem dX4_hoursOn_73 : decode cX4_hoursOn 73 = .ok (.iaload, 1) := by decide +kernel
theorem dX4_hoursOn_74 : decode cX4_hoursOn 74 = .ok (.goto 4, 3) := by decide +kernel
theorem dX4_hoursOn_77 : decode cX4_hoursOn 77 = .ok (.iload_n 3, 1) := by decide +kernel
theorem dX4_hoursOn_78 : decode cX4_hoursOn 78 = .ok (.istore_n 3, 1) := by decide +kernel
theorem dX4_hoursOn_79 : decode cX4_hoursOn 79 = .ok (.iload 6, 2) := by decide +kernel
theorem dX4_hoursOn_81 : decode cX4_hoursOn 81 = .ok (.ifCond .eq 13, 3) := by decide +kernel
theorem dX4_hoursOn_84 : decode cX4_hoursOn 84 = .ok (.aload_n 0, 1) := by decide +kernel
theorem dX4_hoursOn_85 : decode cX4_hoursOn 85 = .ok (.getfield 22, 3) := by decide +kernel
theorem dX4_hoursOn_88 : decode cX4_hoursOn 88 = .ok (.iload 5, 2) := by decide +kernel
theorem dX4_hoursOn_90 : decode cX4_hoursOn 90 = .ok (.iaload, 1) := by decide +kernel
theorem dX4_hoursOn_91 : decode cX4_hoursOn 91 = .ok (.goto 5, 3) := by decide +kernel
theorem dX4_hoursOn_94 : decode cX4_hoursOn 94 = .ok (.iload 4, 2) := by decide +kernel
theorem dX4_hoursOn_96 : decode cX4_hoursOn 96 = .ok (.istore 4, 2) := by decide +kernel
theorem dX4_hoursOn_98 : decode cX4_hoursOn 98 = .ok (.iinc 5 1, 3) := by decide +kernel
theorem dX4_hoursOn_101 : decode cX4_hoursOn 101 = .ok (.goto (-85), 3) := by decide +kernel
theorem dX4_hoursOn_104 : decode cX4_hoursOn 104 = .ok (.iload_n 3, 1) := by decide +kernel
theorem dX4_hoursOn_105 : decode cX4_hoursOn 105 = .ok (.ireturn, 1) := by decide +kernel
set_option maxRecDepth 20000 in
theorem ggX4_isIll_X4_in : GoodIn wsX4_isIll wsX4_in := goodIn_r _ [8] (by decide +kernel) (by decide +kernel)
set_option maxRecDepth 20000 in
theorem gX4_isIll_X4_in : GoodIn wsX4_isIll (va_wsS RX4 72 yX4_in wsX4_in) := goodIn_app (goodIn_of _ (by decide +kernel)) ggX4_isIll_X4_in
theorem dX4_isIll_0 : decode cX4_isIll 0 = .ok (.iconst 0, 1) := by decide +kernel
theorem dX4_isIll_1 : decode cX4_isIll 1 = .ok (.istore_n 3, 1) := by decide +kernel
theorem dX4_isIll_2 : decode cX4_isIll 2 = .ok (.iconst 0, 1) := by decide +kernel
theorem dX4_isIll_3 : decode cX4_isIll 3 = .ok (.istore 4, 2) := by decide +kernel
theorem dX4_isIll_5 : decode cX4_isIll 5 = .ok (.iload 4, 2) := by decide +kernel
theorem dX4_isIll_7 : decode cX4_isIll 7 = .ok (.aload_n 0, 1) := by decide +kernel
theorem dX4_isIll_8 : decode cX4_isIll 8 = .ok (.getfield 76, 3) := by decide +kernel
theorem dX4_isIll_11 : decode cX4_isIll 11 = .ok (.if_icmp .ge 51, 3) := by decide +kernel
theorem dX4_isIll_14 : decode cX4_isIll 14 = .ok (.iload_n 3, 1) := by decide +kernel
theorem dX4_isIll_15 : decode cX4_isIll 15 = .ok (.ifCond .ne 35, 3) := by decide +kernel
theorem dX4_isIll_18 : decode cX4_isIll 18 = .ok (.aload_n 0, 1) := by decide +kernel
theorem dX4_isIll_19 : decode cX4_isIll 19 = .ok (.getfield 44, 3) := by decide +kernel
theorem dX4_isIll_22 : decode cX4_isIll 22 = .ok (.iload 4, 2) := by decide +kernel
theorem dX4_isIll_24 : decode cX4_isIll 24 = .ok (.iaload, 1) := by decide +kernel
theorem dX4_isIll_25 : decode cX4_isIll 25 = .ok (.iload_n 1, 1) := by decide +kernel
theorem dX4_isIll_26 : decode cX4_isIll 26 = .ok (.if_icmp .ne 28, 3) := by decide +kernel
theorem dX4_isIll_29 : decode cX4_isIll 29 = .ok (.iload_n 2, 1) := by decide +kernel
theorem dX4_isIll_30 : decode cX4_isIll 30 = .ok (.aload_n 0, 1) := by decide +kernel
theorem dX4_isIll_31 : decode cX4_isIll 31 = .ok (.getfield 47, 3) := by decide +kernel
theorem dX4_isIll_34 : decode cX4_isIll 34 = .ok (.iload 4, 2) := by decide +kernel
theorem dX4_isIll_36 : decode cX4_isIll 36 = .ok (.iaload, 1) := by decide +kernel
theorem dX4_isIll_37 : decode cX4_isIll 37 = .ok (.aload_n 0, 1) := by decide +kernel
theorem dX4_isIll_38 : decode cX4_isIll 38 = .ok (.getfield 50, 3) := by decide +kernel
theorem dX4_isIll_41 : decode cX4_isIll 41 = .ok (.iload 4, 2) := by decide +kernel
theorem dX4_isIll_43 : decode cX4_isIll 43 = .ok (.iaload, 1) := by decide +kernel
theorem dX4_isIll_44 : decode cX4_isIll 44 = .ok (.invokestatic 72, 3) := by decide +kernel
theorem dX4_isIll_47 : decode cX4_isIll 47 = .ok (.ifCond .eq 7, 3) := by decide +kernel
theorem dX4_isIll_50 : decode cX4_isIll 50 = .ok (.iconst 1, 1) := by decide +kernel
theorem dX4_isIll_51 : decode cX4_isIll 51 = .ok (.goto 4, 3) := by decide +kernel
theorem dX4_isIll_54 : decode cX4_isIll 54 = .ok (.iconst 0, 1) := by decide +kernel
theorem dX4_isIll_55 : decode cX4_isIll 55 = .ok (.istore_n 3, 1) := by decide +kernel
theorem dX4_isIll_56 : decode cX4_isIll 56 = .ok (.iinc 4 1, 3) := by decide +kernel
theorem dX4_isIll_59 : decode cX4_isIll 59 = .ok (.goto (-54), 3) := by decide +kernel
theorem dX4_isIll_62 : decode cX4_isIll 62 = .ok (.iload_n 3, 1) := by decide +kernel
theorem dX4_isIll_63 : decode cX4_isIll 63 = .ok (.ireturn, 1) := by decide +kernel
set_option maxRecDepth 20000 in
theorem ggX4_leaveOn_X4_in : GoodIn wsX4_leaveOn wsX4_in := goodIn_r _ [10] (by decide +kernel) (by decide +kernel)
set_option maxRecDepth 20000 in
theorem gX4_leaveOn_X4_in : GoodIn wsX4_leaveOn (va_wsS RX4 72 yX4_in wsX4_in) := goodIn_app (goodIn_of _ (by decide +kernel)) ggX4_leaveOn_X4_in
set_option maxRecDepth 20000 in
theorem ggX4_leaveOn_X4_isWorking : GoodIn wsX4_leaveOn wsX4_isWorking := goodIn_r _ [13] (by decide +kernel) (by decide +kernel)
set_option maxRecDepth 20000 in
theorem gX4_leaveOn_X4_isWorking : GoodIn wsX4_leaveOn (va_wsS RX4 82 yX4_isWorking wsX4_isWorking) := goodIn_app (goodIn_of _ (by decide +kernel)) ggX4_leaveOn_X4_isWorking
set_option maxRecDepth 20000 in
theorem ggX4_leaveOn_X4_isIll : GoodIn wsX4_leaveOn wsX4_isIll := goodIn_r _ [17, 18, 19, 20, 21, 7, 8, 9, 10, 22, 23, 24, 25, 26, 27, 28, 29, 30, 31, 32, 33, 34, 35, 36, 37, 38, 39, 40, 41, 42, 43, 44, 45, 46, 47, 48, 49, 50, 51] (by decide +kernel) (by decide +kernel)
set_option maxRecDepth 20000 in
theorem gX4_leaveOn_X4_isIll : GoodIn wsX4_leaveOn (wsV RX4 86 RX4 yX4_isIll wsX4_isIll) := goodIn_app (goodIn_of _ (by decide +kernel)) ggX4_leaveOn_X4_isIll
theorem dX4_leaveOn_0 : decode cX4_leaveOn 0 = .ok (.iconst 0, 1) := by decide +kernel
theorem dX4_leaveOn_1 : decode cX4_leaveOn 1 = .ok (.istore_n 3, 1) := by decide +kernel
theorem dX4_leaveOn_2 : decode cX4_leaveOn 2 = .ok (.iconst 0, 1) := by decide +kernel
theorem dX4_leaveOn_3 : decode cX4_leaveOn 3 = .ok (.istore 4, 2) := by decide +kernel
theorem dX4_leaveOn_5 : decode cX4_leaveOn 5 = .ok (.iload 4, 2) := by decide +kernel
theorem dX4_leaveOn_7 : decode cX4_leaveOn 7 = .ok (.aload_n 0, 1) := by decide +kernel
theorem dX4_leaveOn_8 : decode cX4_leaveOn 8 = .ok (.getfield 79, 3) := by decide +kernel
theorem dX4_leaveOn_11 : decode cX4_leaveOn 11 = .ok (.if_icmp .ge 93, 3) := by decide +kernel
theorem dX4_leaveOn_14 : decode cX4_leaveOn 14 = .ok (.aload_n 0, 1) := by decide +kernel
theorem dX4_leaveOn_15 : decode cX4_leaveOn 15 = .ok (.getfield 28, 3) := by decide +kernel
theorem dX4_leaveOn_18 : decode cX4_leaveOn 18 = .ok (.iload 4, 2) := by decide +kernel
theorem dX4_leaveOn_20 : decode cX4_leaveOn 20 = .ok (.iaload, 1) := by decide +kernel
theorem dX4_leaveOn_21 : decode cX4_leaveOn 21 = .ok (.iload_n 1, 1) := by decide +kernel
theorem dX4_leaveOn_22 : decode cX4_leaveOn 22 = .ok (.if_icmp .ne 38, 3) := by decide +kernel
theorem dX4_leaveOn_25 : decode cX4_leaveOn 25 = .ok (.aload_n 0, 1) := by decide +kernel
theorem dX4_leaveOn_26 : decode cX4_leaveOn 26 = .ok (.getfield 41, 3) := by decide +kernel
theorem dX4_leaveOn_29 : decode cX4_leaveOn 29 = .ok (.iload 4, 2) := by decide +kernel
theorem dX4_leaveOn_31 : decode cX4_leaveOn 31 = .ok (.baload, 1) := by decide +kernel
theorem dX4_leaveOn_32 : decode cX4_leaveOn 32 = .ok (.ifCond .ne 28, 3) := by decide +kernel
theorem dX4_leaveOn_35 : decode cX4_leaveOn 35 = .ok (.iload_n 2, 1) := by decide +kernel
theorem dX4_leaveOn_36 : decode cX4_leaveOn 36 = .ok (.aload_n 0, 1) := by decide +kernel
theorem dX4_leaveOn_37 : decode cX4_leaveOn 37 = .ok (.getfield 31, 3) := by decide +kernel
theorem dX4_leaveOn_40 : decode cX4_leaveOn 40 = .ok (.iload 4, 2) := by decide +kernel
theorem dX4_leaveOn_42 : decode cX4_leaveOn 42 = .ok (.iaload, 1) := by decide +kernel
theorem dX4_leaveOn_43 : decode cX4_leaveOn 43 = .ok (.aload_n 0, 1) := by decide +kernel
theorem dX4_leaveOn_44 : decode cX4_leaveOn 44 = .ok (.getfield 34, 3) := by decide +kernel
theorem dX4_leaveOn_47 : decode cX4_leaveOn 47 = .ok (.iload 4, 2) := by decide +kernel
theorem dX4_leaveOn_49 : decode cX4_leaveOn 49 = .ok (.iaload, 1) := by decide +kernel
theorem dX4_leaveOn_50 : decode cX4_leaveOn 50 = .ok (.invokestatic 72, 3) := by decide +kernel
theorem dX4_leaveOn_53 : decode cX4_leaveOn 53 = .ok (.ifCond .eq 7, 3) := by decide +kernel
theorem dX4_leaveOn_56 : decode cX4_leaveOn 56 = .ok (.iconst 1, 1) := by decide +kernel
theorem dX4_leaveOn_57 : decode cX4_leaveOn 57 = .ok (.goto 4, 3) := by decide +kernel
theorem dX4_leaveOn_60 : decode cX4_leaveOn 60 = .ok (.iconst 0, 1) := by decide +kernel
theorem dX4_leaveOn_61 : decode cX4_leaveOn 61 = .ok (.istore 5, 2) := by decide +kernel
theorem dX4_leaveOn_63 : decode cX4_leaveOn 63 = .ok (.aload_n 0, 1) := by decide +kernel
theorem dX4_leaveOn_64 : decode cX4_leaveOn 64 = .ok (.getfield 37, 3) := by decide +kernel
theorem dX4_leaveOn_67 : decode cX4_leaveOn 67 = .ok (.iload 4, 2) := by decide +kernel
theorem dX4_leaveOn_69 : decode cX4_leaveOn 69 = .ok (.baload, 1) := by decide +kernel
theorem dX4_leaveOn_70 : decode cX4_leaveOn 70 = .ok (.ifCond .eq 7, 3) := by decide +kernel
theorem dX4_leaveOn_73 : decode cX4_leaveOn 73 = .ok (.iconst 1, 1) := by decide +kernel
theorem dX4_leaveOn_74 : decode cX4_leaveOn 74 = .ok (.goto 4, 3) := by decide +kernel
theorem dX4_leaveOn_77 : decode cX4_leaveOn 77 = .ok (.iconst 2, 1) := by decide +kernel
theorem dX4_leaveOn_78 : decode cX4_leaveOn 78 = .ok (.istore 6, 2) := by decide +kernel
theorem dX4_leaveOn_80 : decode cX4_leaveOn 80 = .ok (.iload 5, 2) := by decide +kernel
theorem dX4_leaveOn_82 : decode cX4_leaveOn 82 = .ok (.ifCond .eq 14, 3) := by decide +kernel
theorem dX4_leaveOn_85 : decode cX4_leaveOn 85 = .ok (.iload 6, 2) := by decide +kernel
theorem dX4_leaveOn_87 : decode cX4_leaveOn 87 = .ok (.iload_n 3, 1) := by decide +kernel
theorem dX4_leaveOn_88 : decode cX4_leaveOn 88 = .ok (.if_icmp .le 8, 3) := by decide +kernel
theorem dX4_leaveOn_91 : decode cX4_leaveOn 91 = .ok (.iload 6, 2) := by decide +kernel
theorem dX4_leaveOn_93 : decode cX4_leaveOn 93 = .ok (.goto 4, 3) := by decide +kernel
theorem dX4_leaveOn_96 : decode cX4_leaveOn 96 = .ok (.iload_n 3, 1) := by decide +kernel
theorem dX4_leaveOn_97 : decode cX4_leaveOn 97 = .ok (.istore_n 3, 1) := by decide +kernel
theorem dX4_leaveOn_98 : decode cX4_leaveOn 98 = .ok (.iinc 4 1, 3) := by decide +kernel
theorem dX4_leaveOn_101 : decode cX4_leaveOn 101 = .ok (.goto (-96), 3) := by decide +kernel
theorem dX4_leaveOn_104 : decode cX4_leaveOn 104 = .ok (.iload_n 2, 1) := by decide +kernel
theorem dX4_leaveOn_105 : decode cX4_leaveOn 105 = .ok (.invokestatic 82, 3) := by decide +kernel
theorem dX4_leaveOn_108 : decode cX4_leaveOn 108 = .ok (.ifCond .eq 16, 3) := by decide +kernel
theorem dX4_leaveOn_111 : decode cX4_leaveOn 111 = .ok (.aload_n 0, 1) := by decide +kernel
theorem dX4_leaveOn_112 : decode cX4_leaveOn 112 = .ok (.iload_n 1, 1) := by decide +kernel
theorem dX4_leaveOn_113 : decode cX4_leaveOn 113 = .ok (.iload_n 2, 1) := by decide +kernel
theorem dX4_leaveOn_114 : decode cX4_leaveOn 114 = .ok (.invokevirtual 86, 3) := by decide +kernel
theorem dX4_leaveOn_117 : decode cX4_leaveOn 117 = .ok (.ifCond .ne 7, 3) := by decide +kernel
theorem dX4_leaveOn_120 : decode cX4_leaveOn 120 = .ok (.iload_n 3, 1) := by decide +kernel
theorem dX4_leaveOn_121 : decode cX4_leaveOn 121 = .ok (.goto 4, 3) := by decide +kernel
theorem dX4_leaveOn_124 : decode cX4_leaveOn 124 = .ok (.iconst 0, 1) := by decide +kernel
theorem dX4_leaveOn_125 : decode cX4_leaveOn 125 = .ok (.ireturn, 1) := by decide +kernel
theorem dX4_inPools_0 : decode cX4_inPools 0 = .ok (.iconst 0, 1) := by decide +kernel
theorem dX4_inPools_1 : decode cX4_inPools 1 = .ok (.istore_n 1, 1) := by decide +kernel
theorem dX4_inPools_2 : decode cX4_inPools 2 = .ok (.iconst 0, 1) := by decide +kernel
theorem dX4_inPools_3 : decode cX4_inPools 3 = .ok (.istore_n 2, 1) := by decide +kernel
theorem dX4_inPools_4 : decode cX4_inPools 4 = .ok (.iload_n 2, 1) := by decide +kernel
theorem dX4_inPools_5 : decode cX4_inPools 5 = .ok (.bipush 11, 2) := by decide +kernel
theorem dX4_inPools_7 : decode cX4_inPools 7 = .ok (.if_icmp .ge 18, 3) := by decide +kernel
theorem dX4_inPools_10 : decode cX4_inPools 10 = .ok (.iload_n 1, 1) := by decide +kernel
theorem dX4_inPools_11 : decode cX4_inPools 11 = .ok (.aload_n 0, 1) := by decide +kernel
theorem dX4_inPools_12 : decode cX4_inPools 12 = .ok (.getfield 62, 3) := by decide +kernel
theorem dX4_inPools_15 : decode cX4_inPools 15 = .ok (.iload_n 2, 1) := by decide +kernel
theorem dX4_inPools_16 : decode cX4_inPools 16 = .ok (.iaload, 1) := by decide +kernel
theorem dX4_inPools_17 : decode cX4_inPools 17 = .ok (.iadd, 1) := by decide +kernel
theorem dX4_inPools_18 : decode cX4_inPools 18 = .ok (.istore_n 1, 1) := by decide +kernel
theorem dX4_inPools_19 : decode cX4_inPools 19 = .ok (.iinc 2 1, 3) := by decide +kernel
theorem dX4_inPools_22 : decode cX4_inPools 22 = .ok (.goto (-18), 3) := by decide +kernel
theorem dX4_inPools_25 : decode cX4_inPools 25 = .ok (.iload_n 1, 1) := by decide +kernel
theorem dX4_inPools_26 : decode cX4_inPools 26 = .ok (.ireturn, 1) := by decide +kernel
theorem dX4_draws_0 : decode cX4_draws 0 = .ok (.iload_n 1, 1) := by decide +kernel
theorem dX4_draws_1 : decode cX4_draws 1 = .ok (.istore_n 2, 1) := by decide +kernel
theorem dX4_draws_2 : decode cX4_draws 2 = .ok (.iconst 0, 1) := by decide +kernel
theorem dX4_draws_3 : decode cX4_draws 3 = .ok (.istore_n 3, 1) := by decide +kernel
theorem dX4_draws_4 : decode cX4_draws 4 = .ok (.iload_n 3, 1) := by decide +kernel
theorem dX4_draws_5 : decode cX4_draws 5 = .ok (.bipush 11, 2) := by decide +kernel
theorem dX4_draws_7 : decode cX4_draws 7 = .ok (.if_icmp .ge 47, 3) := by decide +kernel
theorem dX4_draws_10 : decode cX4_draws 10 = .ok (.aload_n 0, 1) := by decide +kernel
theorem dX4_draws_11 : decode cX4_draws 11 = .ok (.getfield 62, 3) := by decide +kernel
theorem dX4_draws_14 : decode cX4_draws 14 = .ok (.iload_n 3, 1) := by decide +kernel
theorem dX4_draws_15 : decode cX4_draws 15 = .ok (.iaload, 1) := by decide +kernel
theorem dX4_draws_16 : decode cX4_draws 16 = .ok (.iload_n 2, 1) := by decide +kernel
theorem dX4_draws_17 : decode cX4_draws 17 = .ok (.if_icmp .ge 12, 3) := by decide +kernel
theorem dX4_draws_20 : decode cX4_draws 20 = .ok (.aload_n 0, 1) := by decide +kernel
theorem dX4_draws_21 : decode cX4_draws 21 = .ok (.getfield 62, 3) := by decide +kernel
theorem dX4_draws_24 : decode cX4_draws 24 = .ok (.iload_n 3, 1) := by decide +kernel
theorem dX4_draws_25 : decode cX4_draws 25 = .ok (.iaload, 1) := by decide +kernel
theorem dX4_draws_26 : decode cX4_draws 26 = .ok (.goto 4, 3) := by decide +kernel
theorem dX4_draws_29 : decode cX4_draws 29 = .ok (.iload_n 2, 1) := by decide +kernel
theorem dX4_draws_30 : decode cX4_draws 30 = .ok (.istore 4, 2) := by decide +kernel
theorem dX4_draws_32 : decode cX4_draws 32 = .ok (.aload_n 0, 1) := by decide +kernel
theorem dX4_draws_33 : decode cX4_draws 33 = .ok (.getfield 62, 3) := by decide +kernel
theorem dX4_draws_36 : decode cX4_draws 36 = .ok (.iload_n 3, 1) := by decide +kernel
theorem dX4_draws_37 : decode cX4_draws 37 = .ok (.dup2, 1) := by decide +kernel
theorem dX4_draws_38 : decode cX4_draws 38 = .ok (.iaload, 1) := by decide +kernel
theorem dX4_draws_39 : decode cX4_draws 39 = .ok (.iload 4, 2) := by decide +kernel
theorem dX4_draws_41 : decode cX4_draws 41 = .ok (.isub, 1) := by decide +kernel
theorem dX4_draws_42 : decode cX4_draws 42 = .ok (.iastore, 1) := by decide +kernel
theorem dX4_draws_43 : decode cX4_draws 43 = .ok (.iload_n 2, 1) := by decide +kernel
theorem dX4_draws_44 : decode cX4_draws 44 = .ok (.iload 4, 2) := by decide +kernel
theorem dX4_draws_46 : decode cX4_draws 46 = .ok (.isub, 1) := by decide +kernel
theorem dX4_draws_47 : decode cX4_draws 47 = .ok (.istore_n 2, 1) := by decide +kernel
theorem dX4_draws_48 : decode cX4_draws 48 = .ok (.iinc 3 1, 3) := by decide +kernel
theorem dX4_draws_51 : decode cX4_draws 51 = .ok (.goto (-47), 3) := by decide +kernel
theorem dX4_draws_54 : decode cX4_draws 54 = .ok (.iload_n 1, 1) := by decide +kernel
theorem dX4_draws_55 : decode cX4_draws 55 = .ok (.iload_n 2, 1) := by decide +kernel
theorem dX4_draws_56 : decode cX4_draws 56 = .ok (.isub, 1) := by decide +kernel
theorem dX4_draws_57 : decode cX4_draws 57 = .ok (.ireturn, 1) := by decide +kernel
set_option maxRecDepth 20000 in
theorem ggX4_earns_X4_hoursOn : GoodIn wsX4_earns wsX4_hoursOn := goodIn_r _ [10, 11, 12, 13, 14, 15, 16, 17, 18, 19, 20, 21, 22, 23, 24, 25, 26, 27, 28, 29, 30, 31, 32, 33, 34, 35, 36, 37, 38, 39, 40, 41, 42, 43, 44] (by decide +kernel) (by decide +kernel)
set_option maxRecDepth 20000 in
theorem gX4_earns_X4_hoursOn : GoodIn wsX4_earns (wsV RX4 90 RX4 yX4_hoursOn wsX4_hoursOn) := goodIn_app (goodIn_of _ (by decide +kernel)) ggX4_earns_X4_hoursOn
theorem dX4_earns_0 : decode cX4_earns 0 = .ok (.iconst 2, 1) := by decide +kernel
theorem dX4_earns_1 : decode cX4_earns 1 = .ok (.iload_n 2, 1) := by decide +kernel
theorem dX4_earns_2 : decode cX4_earns 2 = .ok (.aload_n 0, 1) := by decide +kernel
theorem dX4_earns_3 : decode cX4_earns 3 = .ok (.getfield 7, 3) := by decide +kernel
theorem dX4_earns_6 : decode cX4_earns 6 = .ok (.iload_n 1, 1) := by decide +kernel
theorem dX4_earns_7 : decode cX4_earns 7 = .ok (.iaload, 1) := by decide +kernel
theorem dX4_earns_8 : decode cX4_earns 8 = .ok (.isub, 1) := by decide +kernel
theorem dX4_earns_9 : decode cX4_earns 9 = .ok (.sipush 360, 3) := by decide +kernel
theorem dX4_earns_12 : decode cX4_earns 12 = .ok (.idiv, 1) := by decide +kernel
theorem dX4_earns_13 : decode cX4_earns 13 = .ok (.iconst 3, 1) := by decide +kernel
theorem dX4_earns_14 : decode cX4_earns 14 = .ok (.idiv, 1) := by decide +kernel
theorem dX4_earns_15 : decode cX4_earns 15 = .ok (.imul, 1) := by decide +kernel
theorem dX4_earns_16 : decode cX4_earns 16 = .ok (.istore_n 3, 1) := by decide +kernel
theorem dX4_earns_17 : decode cX4_earns 17 = .ok (.aload_n 0, 1) := by decide +kernel
theorem dX4_earns_18 : decode cX4_earns 18 = .ok (.getfield 13, 3) := by decide +kernel
theorem dX4_earns_21 : decode cX4_earns 21 = .ok (.iload_n 1, 1) := by decide +kernel
theorem dX4_earns_22 : decode cX4_earns 22 = .ok (.iaload, 1) := by decide +kernel
theorem dX4_earns_23 : decode cX4_earns 23 = .ok (.iload_n 3, 1) := by decide +kernel
theorem dX4_earns_24 : decode cX4_earns 24 = .ok (.bipush 10, 2) := by decide +kernel
theorem dX4_earns_26 : decode cX4_earns 26 = .ok (.if_icmp .ge 7, 3) := by decide +kernel
theorem dX4_earns_29 : decode cX4_earns 29 = .ok (.iload_n 3, 1) := by decide +kernel
theorem dX4_earns_30 : decode cX4_earns 30 = .ok (.goto 5, 3) := by decide +kernel
theorem dX4_earns_33 : decode cX4_earns 33 = .ok (.bipush 10, 2) := by decide +kernel
theorem dX4_earns_35 : decode cX4_earns 35 = .ok (.iadd, 1) := by decide +kernel
theorem dX4_earns_36 : decode cX4_earns 36 = .ok (.istore 4, 2) := by decide +kernel
theorem dX4_earns_38 : decode cX4_earns 38 = .ok (.iconst 2, 1) := by decide +kernel
theorem dX4_earns_39 : decode cX4_earns 39 = .ok (.iload 4, 2) := by decide +kernel
theorem dX4_earns_41 : decode cX4_earns 41 = .ok (.imul, 1) := by decide +kernel
theorem dX4_earns_42 : decode cX4_earns 42 = .ok (.aload_n 0, 1) := by decide +kernel
theorem dX4_earns_43 : decode cX4_earns 43 = .ok (.iload_n 1, 1) := by decide +kernel
theorem dX4_earns_44 : decode cX4_earns 44 = .ok (.iload_n 2, 1) := by decide +kernel
theorem dX4_earns_45 : decode cX4_earns 45 = .ok (.iconst 1, 1) := by decide +kernel
theorem dX4_earns_46 : decode cX4_earns 46 = .ok (.isub, 1) := by decide +kernel
theorem dX4_earns_47 : decode cX4_earns 47 = .ok (.invokevirtual 90, 3) := by decide +kernel
theorem dX4_earns_50 : decode cX4_earns 50 = .ok (.imul, 1) := by decide +kernel
theorem dX4_earns_51 : decode cX4_earns 51 = .ok (.istore 5, 2) := by decide +kernel
theorem dX4_earns_53 : decode cX4_earns 53 = .ok (.aload_n 0, 1) := by decide +kernel
theorem dX4_earns_54 : decode cX4_earns 54 = .ok (.getfield 94, 3) := by decide +kernel
theorem dX4_earns_57 : decode cX4_earns 57 = .ok (.iload 5, 2) := by decide +kernel
theorem dX4_earns_59 : decode cX4_earns 59 = .ok (.if_icmp .ge 10, 3) := by decide +kernel
theorem dX4_earns_62 : decode cX4_earns 62 = .ok (.aload_n 0, 1) := by decide +kernel
theorem dX4_earns_63 : decode cX4_earns 63 = .ok (.getfield 94, 3) := by decide +kernel
theorem dX4_earns_66 : decode cX4_earns 66 = .ok (.goto 5, 3) := by decide +kernel
theorem dX4_earns_69 : decode cX4_earns 69 = .ok (.iload 5, 2) := by decide +kernel
theorem dX4_earns_71 : decode cX4_earns 71 = .ok (.istore 6, 2) := by decide +kernel
theorem dX4_earns_73 : decode cX4_earns 73 = .ok (.aload_n 0, 1) := by decide +kernel
theorem dX4_earns_74 : decode cX4_earns 74 = .ok (.dup, 1) := by decide +kernel
theorem dX4_earns_75 : decode cX4_earns 75 = .ok (.getfield 94, 3) := by decide +kernel
theorem dX4_earns_78 : decode cX4_earns 78 = .ok (.iload 6, 2) := by decide +kernel
theorem dX4_earns_80 : decode cX4_earns 80 = .ok (.isub, 1) := by decide +kernel
theorem dX4_earns_81 : decode cX4_earns 81 = .ok (.putfield 94, 3) := by decide +kernel
theorem dX4_earns_84 : decode cX4_earns 84 = .ok (.aload_n 0, 1) := by decide +kernel
theorem dX4_earns_85 : decode cX4_earns 85 = .ok (.getfield 62, 3) := by decide +kernel
theorem dX4_earns_88 : decode cX4_earns 88 = .ok (.iload_n 2, 1) := by decide +kernel
theorem dX4_earns_89 : decode cX4_earns 89 = .ok (.iconst 1, 1) := by decide +kernel
theorem dX4_earns_90 : decode cX4_earns 90 = .ok (.isub, 1) := by decide +kernel
theorem dX4_earns_91 : decode cX4_earns 91 = .ok (.sipush 360, 3) := by decide +kernel
theorem dX4_earns_94 : decode cX4_earns 94 = .ok (.idiv, 1) := by decide +kernel
theorem dX4_earns_95 : decode cX4_earns 95 = .ok (.dup2, 1) := by decide +kernel
theorem dX4_earns_96 : decode cX4_earns 96 = .ok (.iaload, 1) := by decide +kernel
theorem dX4_earns_97 : decode cX4_earns 97 = .ok (.iload 5, 2) := by decide +kernel
theorem dX4_earns_99 : decode cX4_earns 99 = .ok (.iload 6, 2) := by decide +kernel
theorem dX4_earns_101 : decode cX4_earns 101 = .ok (.isub, 1) := by decide +kernel
theorem dX4_earns_102 : decode cX4_earns 102 = .ok (.iadd, 1) := by decide +kernel
theorem dX4_earns_103 : decode cX4_earns 103 = .ok (.iastore, 1) := by decide +kernel
theorem dX4_earns_104 : decode cX4_earns 104 = .ok (.aload_n 0, 1) := by decide +kernel
theorem dX4_earns_105 : decode cX4_earns 105 = .ok (.dup, 1) := by decide +kernel
theorem dX4_earns_106 : decode cX4_earns 106 = .ok (.getfield 97, 3) := by decide +kernel
theorem dX4_earns_109 : decode cX4_earns 109 = .ok (.iload 5, 2) := by decide +kernel
theorem dX4_earns_111 : decode cX4_earns 111 = .ok (.iadd, 1) := by decide +kernel
theorem dX4_earns_112 : decode cX4_earns 112 = .ok (.putfield 97, 3) := by decide +kernel
theorem dX4_earns_115 : decode cX4_earns 115 = .ok (.return_, 1) := by decide +kernel
set_option maxRecDepth 20000 in
theorem ggX4_leaves_X4_leaveOn : GoodIn wsX4_leaves wsX4_leaveOn := goodIn_r _ [8, 9, 10, 11, 12, 13, 14, 15, 16, 7, 17, 18, 19, 20, 21, 22, 23, 24, 25, 26, 27, 28, 38, 39, 40, 41, 42, 43, 44, 45, 46, 47, 48, 49, 50, 51, 52, 53, 54, 55, 56, 57, 58, 59, 60, 61, 62, 63, 64, 65, 66, 67] (by decide +kernel) (by decide +kernel)
set_option maxRecDepth 20000 in
theorem gX4_leaves_X4_leaveOn : GoodIn wsX4_leaves (wsV RX4 100 RX4 yX4_leaveOn wsX4_leaveOn) := goodIn_app (goodIn_of _ (by decide +kernel)) ggX4_leaves_X4_leaveOn
set_option maxRecDepth 20000 in
theorem ggX4_leaves_X4_inPools : GoodIn wsX4_leaves wsX4_inPools := goodIn_r _ [32, 33, 38, 39, 40, 41, 42, 43, 44, 45, 46, 47, 48, 49, 50, 51, 52, 53, 54, 55, 56, 57, 58, 59, 60, 61, 62, 63, 64, 65, 66, 67] (by decide +kernel) (by decide +kernel)
set_option maxRecDepth 20000 in
theorem gX4_leaves_X4_inPools : GoodIn wsX4_leaves (wsV RX4 103 RX4 yX4_inPools wsX4_inPools) := goodIn_app (goodIn_of _ (by decide +kernel)) ggX4_leaves_X4_inPools
set_option maxRecDepth 20000 in
theorem ggX4_leaves_X4_draws : GoodIn wsX4_leaves wsX4_draws := goodIn_r _ [37, 33, 38, 39, 40, 41, 42, 43, 44, 45, 46, 47, 48, 49, 50, 51, 52, 53, 54, 55, 56, 57, 58, 59, 60, 61, 62, 63, 64, 65, 66, 67] (by decide +kernel) (by decide +kernel)
set_option maxRecDepth 20000 in
theorem gX4_leaves_X4_draws : GoodIn wsX4_leaves (wsV RX4 110 RX4 yX4_draws wsX4_draws) := goodIn_app (goodIn_of _ (by decide +kernel)) ggX4_leaves_X4_draws
theorem dX4_leaves_0 : decode cX4_leaves 0 = .ok (.sipush 240, 3) := by decide +kernel
theorem dX4_leaves_3 : decode cX4_leaves 3 = .ok (.aload_n 0, 1) := by decide +kernel
theorem dX4_leaves_4 : decode cX4_leaves 4 = .ok (.iload_n 1, 1) := by decide +kernel
theorem dX4_leaves_5 : decode cX4_leaves 5 = .ok (.iload_n 2, 1) := by decide +kernel
theorem dX4_leaves_6 : decode cX4_leaves 6 = .ok (.invokevirtual 100, 3) := by decide +kernel
theorem dX4_leaves_9 : decode cX4_leaves 9 = .ok (.imul, 1) := by decide +kernel
theorem dX4_leaves_10 : decode cX4_leaves 10 = .ok (.istore_n 3, 1) := by decide +kernel
theorem dX4_leaves_11 : decode cX4_leaves 11 = .ok (.aload_n 0, 1) := by decide +kernel
theorem dX4_leaves_12 : decode cX4_leaves 12 = .ok (.invokevirtual 103, 3) := by decide +kernel
theorem dX4_leaves_15 : decode cX4_leaves 15 = .ok (.istore 4, 2) := by decide +kernel
theorem dX4_leaves_17 : decode cX4_leaves 17 = .ok (.iload_n 3, 1) := by decide +kernel
theorem dX4_leaves_18 : decode cX4_leaves 18 = .ok (.iload 4, 2) := by decide +kernel
theorem dX4_leaves_20 : decode cX4_leaves 20 = .ok (.if_icmp .le 29, 3) := by decide +kernel
theorem dX4_leaves_23 : decode cX4_leaves 23 = .ok (.aload_n 0, 1) := by decide +kernel
theorem dX4_leaves_24 : decode cX4_leaves 24 = .ok (.getfield 94, 3) := by decide +kernel
theorem dX4_leaves_27 : decode cX4_leaves 27 = .ok (.iload_n 3, 1) := by decide +kernel
theorem dX4_leaves_28 : decode cX4_leaves 28 = .ok (.iadd, 1) := by decide +kernel
theorem dX4_leaves_29 : decode cX4_leaves 29 = .ok (.iload 4, 2) := by decide +kernel
theorem dX4_leaves_31 : decode cX4_leaves 31 = .ok (.isub, 1) := by decide +kernel
theorem dX4_leaves_32 : decode cX4_leaves 32 = .ok (.sipush 2400, 3) := by decide +kernel
theorem dX4_leaves_35 : decode cX4_leaves 35 = .ok (.if_icmp .le 14, 3) := by decide +kernel
theorem dX4_leaves_38 : decode cX4_leaves 38 = .ok (.aload_n 0, 1) := by decide +kernel
theorem dX4_leaves_39 : decode cX4_leaves 39 = .ok (.dup, 1) := by decide +kernel
theorem dX4_leaves_40 : decode cX4_leaves 40 = .ok (.getfield 107, 3) := by decide +kernel
theorem dX4_leaves_43 : decode cX4_leaves 43 = .ok (.iconst 1, 1) := by decide +kernel
theorem dX4_leaves_44 : decode cX4_leaves 44 = .ok (.iadd, 1) := by decide +kernel
theorem dX4_leaves_45 : decode cX4_leaves 45 = .ok (.putfield 107, 3) := by decide +kernel
theorem dX4_leaves_48 : decode cX4_leaves 48 = .ok (.return_, 1) := by decide +kernel
theorem dX4_leaves_49 : decode cX4_leaves 49 = .ok (.aload_n 0, 1) := by decide +kernel
theorem dX4_leaves_50 : decode cX4_leaves 50 = .ok (.dup, 1) := by decide +kernel
theorem dX4_leaves_51 : decode cX4_leaves 51 = .ok (.getfield 94, 3) := by decide +kernel
theorem dX4_leaves_54 : decode cX4_leaves 54 = .ok (.iload_n 3, 1) := by decide +kernel
theorem dX4_leaves_55 : decode cX4_leaves 55 = .ok (.aload_n 0, 1) := by decide +kernel
theorem dX4_leaves_56 : decode cX4_leaves 56 = .ok (.iload_n 3, 1) := by decide +kernel
theorem dX4_leaves_57 : decode cX4_leaves 57 = .ok (.invokevirtual 110, 3) := by decide +kernel
theorem dX4_leaves_60 : decode cX4_leaves 60 = .ok (.isub, 1) := by decide +kernel
theorem dX4_leaves_61 : decode cX4_leaves 61 = .ok (.iadd, 1) := by decide +kernel
theorem dX4_leaves_62 : decode cX4_leaves 62 = .ok (.putfield 94, 3) := by decide +kernel
theorem dX4_leaves_65 : decode cX4_leaves 65 = .ok (.aload_n 0, 1) := by decide +kernel
theorem dX4_leaves_66 : decode cX4_leaves 66 = .ok (.dup, 1) := by decide +kernel
theorem dX4_leaves_67 : decode cX4_leaves 67 = .ok (.getfield 114, 3) := by decide +kernel
theorem dX4_leaves_70 : decode cX4_leaves 70 = .ok (.iload_n 3, 1) := by decide +kernel
theorem dX4_leaves_71 : decode cX4_leaves 71 = .ok (.iadd, 1) := by decide +kernel
theorem dX4_leaves_72 : decode cX4_leaves 72 = .ok (.putfield 114, 3) := by decide +kernel
theorem dX4_leaves_75 : decode cX4_leaves 75 = .ok (.return_, 1) := by decide +kernel
set_option maxRecDepth 20000 in
theorem ggX4_dayOf_X4_earns : GoodIn wsX4_dayOf wsX4_earns := goodIn_r _ [13, 1, 14, 15, 3, 16, 17, 18, 19, 12, 20, 21, 22, 23, 24, 63, 64, 65, 66, 67, 68, 69, 70, 71, 72, 73, 74, 75, 76, 77, 78, 79, 80, 81, 82, 83, 84, 85, 86, 87, 88, 89, 90, 91, 92] (by decide +kernel) (by decide +kernel)
set_option maxRecDepth 20000 in
theorem gX4_dayOf_X4_earns : GoodIn wsX4_dayOf (wsV RX4 117 RX4 yX4_earns wsX4_earns) := goodIn_app (goodIn_of _ (by decide +kernel)) ggX4_dayOf_X4_earns
set_option maxRecDepth 20000 in
theorem ggX4_dayOf_X4_leaves : GoodIn wsX4_dayOf wsX4_leaves := goodIn_r _ [28, 15, 29, 30, 31, 32, 33, 12, 34, 35, 36, 37, 38, 39, 40, 41, 42, 43, 44, 45, 46, 47, 48, 49, 50, 51, 52, 53, 54, 55, 56, 57, 58, 3, 59, 60, 61, 62, 63, 64, 65, 66, 67, 68, 69, 70, 71, 72, 73, 74, 75, 76, 77, 78, 79, 80, 81, 82, 83, 84, 85, 86, 87, 88, 89, 90, 91, 92] (by decide +kernel) (by decide +kernel)
set_option maxRecDepth 20000 in
theorem gX4_dayOf_X4_leaves : GoodIn wsX4_dayOf (wsV RX4 124 RX4 yX4_leaves wsX4_leaves) := goodIn_app (goodIn_of _ (by decide +kernel)) ggX4_dayOf_X4_leaves
set_option maxRecDepth 20000 in
theorem ggX4_dayOf_X4_draws : GoodIn wsX4_dayOf wsX4_draws := goodIn_r _ [62, 3, 63, 64, 65, 66, 67, 68, 69, 70, 71, 72, 73, 74, 75, 76, 77, 78, 79, 80, 81, 82, 83, 84, 85, 86, 87, 88, 89, 90, 91, 92] (by decide +kernel) (by decide +kernel)
set_option maxRecDepth 20000 in
theorem gX4_dayOf_X4_draws : GoodIn wsX4_dayOf (wsV RX4 110 RX4 yX4_draws wsX4_draws) := goodIn_app (goodIn_of _ (by decide +kernel)) ggX4_dayOf_X4_draws
theorem dX4_dayOf_0 : decode cX4_dayOf 0 = .ok (.iload_n 2, 1) := by decide +kernel
theorem dX4_dayOf_1 : decode cX4_dayOf 1 = .ok (.bipush 30, 2) := by decide +kernel
theorem dX4_dayOf_3 : decode cX4_dayOf 3 = .ok (.irem, 1) := by decide +kernel
theorem dX4_dayOf_4 : decode cX4_dayOf 4 = .ok (.ifCond .ne 22, 3) := by decide +kernel
theorem dX4_dayOf_7 : decode cX4_dayOf 7 = .ok (.iload_n 2, 1) := by decide +kernel
theorem dX4_dayOf_8 : decode cX4_dayOf 8 = .ok (.bipush 30, 2) := by decide +kernel
theorem dX4_dayOf_10 : decode cX4_dayOf 10 = .ok (.isub, 1) := by decide +kernel
theorem dX4_dayOf_11 : decode cX4_dayOf 11 = .ok (.aload_n 0, 1) := by decide +kernel
theorem dX4_dayOf_12 : decode cX4_dayOf 12 = .ok (.getfield 7, 3) := by decide +kernel
theorem dX4_dayOf_15 : decode cX4_dayOf 15 = .ok (.iload_n 1, 1) := by decide +kernel
theorem dX4_dayOf_16 : decode cX4_dayOf 16 = .ok (.iaload, 1) := by decide +kernel
theorem dX4_dayOf_17 : decode cX4_dayOf 17 = .ok (.if_icmp .lt 9, 3) := by decide +kernel
theorem dX4_dayOf_20 : decode cX4_dayOf 20 = .ok (.aload_n 0, 1) := by decide +kernel
theorem dX4_dayOf_21 : decode cX4_dayOf 21 = .ok (.iload_n 1, 1) := by decide +kernel
theorem dX4_dayOf_22 : decode cX4_dayOf 22 = .ok (.iload_n 2, 1) := by decide +kernel
theorem dX4_dayOf_23 : decode cX4_dayOf 23 = .ok (.invokevirtual 117, 3) := by decide +kernel
theorem dX4_dayOf_26 : decode cX4_dayOf 26 = .ok (.iload_n 2, 1) := by decide +kernel
theorem dX4_dayOf_27 : decode cX4_dayOf 27 = .ok (.sipush 360, 3) := by decide +kernel
theorem dX4_dayOf_30 : decode cX4_dayOf 30 = .ok (.irem, 1) := by decide +kernel
theorem dX4_dayOf_31 : decode cX4_dayOf 31 = .ok (.bipush 90, 2) := by decide +kernel
theorem dX4_dayOf_33 : decode cX4_dayOf 33 = .ok (.if_icmp .ne 40, 3) := by decide +kernel
theorem dX4_dayOf_36 : decode cX4_dayOf 36 = .ok (.iload_n 2, 1) := by decide +kernel
theorem dX4_dayOf_37 : decode cX4_dayOf 37 = .ok (.sipush 360, 3) := by decide +kernel
theorem dX4_dayOf_40 : decode cX4_dayOf 40 = .ok (.if_icmp .le 33, 3) := by decide +kernel
theorem dX4_dayOf_43 : decode cX4_dayOf 43 = .ok (.iload_n 2, 1) := by decide +kernel
theorem dX4_dayOf_44 : decode cX4_dayOf 44 = .ok (.sipush 360, 3) := by decide +kernel
theorem dX4_dayOf_47 : decode cX4_dayOf 47 = .ok (.idiv, 1) := by decide +kernel
theorem dX4_dayOf_48 : decode cX4_dayOf 48 = .ok (.iconst 1, 1) := by decide +kernel
theorem dX4_dayOf_49 : decode cX4_dayOf 49 = .ok (.isub, 1) := by decide +kernel
theorem dX4_dayOf_50 : decode cX4_dayOf 50 = .ok (.istore_n 3, 1) := by decide +kernel
theorem dX4_dayOf_51 : decode cX4_dayOf 51 = .ok (.aload_n 0, 1) := by decide +kernel
theorem dX4_dayOf_52 : decode cX4_dayOf 52 = .ok (.dup, 1) := by decide +kernel
theorem dX4_dayOf_53 : decode cX4_dayOf 53 = .ok (.getfield 121, 3) := by decide +kernel
theorem dX4_dayOf_56 : decode cX4_dayOf 56 = .ok (.aload_n 0, 1) := by decide +kernel
theorem dX4_dayOf_57 : decode cX4_dayOf 57 = .ok (.getfield 62, 3) := by decide +kernel
theorem dX4_dayOf_60 : decode cX4_dayOf 60 = .ok (.iload_n 3, 1) := by decide +kernel
theorem dX4_dayOf_61 : decode cX4_dayOf 61 = .ok (.iaload, 1) := by decide +kernel
theorem dX4_dayOf_62 : decode cX4_dayOf 62 = .ok (.iadd, 1) := by decide +kernel
theorem dX4_dayOf_63 : decode cX4_dayOf 63 = .ok (.putfield 121, 3) := by decide +kernel
theorem dX4_dayOf_66 : decode cX4_dayOf 66 = .ok (.aload_n 0, 1) := by decide +kernel
theorem dX4_dayOf_67 : decode cX4_dayOf 67 = .ok (.getfield 62, 3) := by decide +kernel
theorem dX4_dayOf_70 : decode cX4_dayOf 70 = .ok (.iload_n 3, 1) := by decide +kernel
theorem dX4_dayOf_71 : decode cX4_dayOf 71 = .ok (.iconst 0, 1) := by decide +kernel
theorem dX4_dayOf_72 : decode cX4_dayOf 72 = .ok (.iastore, 1) := by decide +kernel
theorem dX4_dayOf_73 : decode cX4_dayOf 73 = .ok (.aload_n 0, 1) := by decide +kernel
theorem dX4_dayOf_74 : decode cX4_dayOf 74 = .ok (.iload_n 1, 1) := by decide +kernel
theorem dX4_dayOf_75 : decode cX4_dayOf 75 = .ok (.iload_n 2, 1) := by decide +kernel
theorem dX4_dayOf_76 : decode cX4_dayOf 76 = .ok (.invokevirtual 124, 3) := by decide +kernel
theorem dX4_dayOf_79 : decode cX4_dayOf 79 = .ok (.iconst 0, 1) := by decide +kernel
theorem dX4_dayOf_80 : decode cX4_dayOf 80 = .ok (.istore_n 3, 1) := by decide +kernel
theorem dX4_dayOf_81 : decode cX4_dayOf 81 = .ok (.iload_n 3, 1) := by decide +kernel
theorem dX4_dayOf_82 : decode cX4_dayOf 82 = .ok (.aload_n 0, 1) := by decide +kernel
theorem dX4_dayOf_83 : decode cX4_dayOf 83 = .ok (.getfield 127, 3) := by decide +kernel
theorem dX4_dayOf_86 : decode cX4_dayOf 86 = .ok (.if_icmp .ge 52, 3) := by decide +kernel
theorem dX4_dayOf_89 : decode cX4_dayOf 89 = .ok (.aload_n 0, 1) := by decide +kernel
theorem dX4_dayOf_90 : decode cX4_dayOf 90 = .ok (.dup, 1) := by decide +kernel
theorem dX4_dayOf_91 : decode cX4_dayOf 91 = .ok (.getfield 130, 3) := by decide +kernel
theorem dX4_dayOf_94 : decode cX4_dayOf 94 = .ok (.aload_n 0, 1) := by decide +kernel
theorem dX4_dayOf_95 : decode cX4_dayOf 95 = .ok (.getfield 53, 3) := by decide +kernel
theorem dX4_dayOf_98 : decode cX4_dayOf 98 = .ok (.iload_n 3, 1) := by decide +kernel
theorem dX4_dayOf_99 : decode cX4_dayOf 99 = .ok (.iaload, 1) := by decide +kernel
theorem dX4_dayOf_100 : decode cX4_dayOf 100 = .ok (.iload_n 1, 1) := by decide +kernel
theorem dX4_dayOf_101 : decode cX4_dayOf 101 = .ok (.if_icmp .ne 26, 3) := by decide +kernel
theorem dX4_dayOf_104 : decode cX4_dayOf 104 = .ok (.aload_n 0, 1) := by decide +kernel
theorem dX4_dayOf_105 : decode cX4_dayOf 105 = .ok (.getfield 56, 3) := by decide +kernel
theorem dX4_dayOf_108 : decode cX4_dayOf 108 = .ok (.iload_n 3, 1) := by decide +kernel
theorem dX4_dayOf_109 : decode cX4_dayOf 109 = .ok (.iaload, 1) := by decide +kernel
theorem dX4_dayOf_110 : decode cX4_dayOf 110 = .ok (.iload_n 2, 1) := by decide +kernel
theorem dX4_dayOf_111 : decode cX4_dayOf 111 = .ok (.if_icmp .ne 16, 3) := by decide +kernel
theorem dX4_dayOf_114 : decode cX4_dayOf 114 = .ok (.aload_n 0, 1) := by decide +kernel
theorem dX4_dayOf_115 : decode cX4_dayOf 115 = .ok (.aload_n 0, 1) := by decide +kernel
theorem dX4_dayOf_116 : decode cX4_dayOf 116 = .ok (.getfield 59, 3) := by decide +kernel
theorem dX4_dayOf_119 : decode cX4_dayOf 119 = .ok (.iload_n 3, 1) := by decide +kernel
theorem dX4_dayOf_120 : decode cX4_dayOf 120 = .ok (.iaload, 1) := by decide +kernel
theorem dX4_dayOf_121 : decode cX4_dayOf 121 = .ok (.invokevirtual 110, 3) := by decide +kernel
theorem dX4_dayOf_124 : decode cX4_dayOf 124 = .ok (.goto 4, 3) := by decide +kernel
theorem dX4_dayOf_127 : decode cX4_dayOf 127 = .ok (.iconst 0, 1) := by decide +kernel
theorem dX4_dayOf_128 : decode cX4_dayOf 128 = .ok (.iadd, 1) := by decide +kernel
theorem dX4_dayOf_129 : decode cX4_dayOf 129 = .ok (.putfield 130, 3) := by decide +kernel
theorem dX4_dayOf_132 : decode cX4_dayOf 132 = .ok (.iinc 3 1, 3) := by decide +kernel
theorem dX4_dayOf_135 : decode cX4_dayOf 135 = .ok (.goto (-54), 3) := by decide +kernel
theorem dX4_dayOf_138 : decode cX4_dayOf 138 = .ok (.return_, 1) := by decide +kernel
set_option maxRecDepth 20000 in
theorem ggX4_goes_X4_dayOf : GoodIn wsX4_goes wsX4_dayOf := goodIn_r _ [13, 8, 5, 1, 14, 6, 15, 16, 17, 18, 19, 20, 12, 21, 22, 2, 3, 23, 24, 25, 26, 27, 28, 29, 30, 31, 32, 33, 34, 7, 4, 35, 36, 37, 38, 39, 40, 41, 42, 43, 44, 45, 46, 47, 48, 49, 50, 51, 52, 53, 54, 55, 56, 57, 58, 59, 60, 61, 62, 63, 64, 65, 66, 67, 68, 69, 70, 71, 72, 73, 74, 75, 76, 77, 78, 79, 80, 81, 82, 83, 84, 85, 86, 87, 88, 89, 90, 91, 92, 93, 94, 95, 96] (by decide +kernel) (by decide +kernel)
set_option maxRecDepth 20000 in
theorem gX4_goes_X4_dayOf : GoodIn wsX4_goes (wsV RX4 133 RX4 yX4_dayOf wsX4_dayOf) := goodIn_app (goodIn_of _ (by decide +kernel)) ggX4_goes_X4_dayOf
theorem dX4_goes_0 : decode cX4_goes 0 = .ok (.iconst 0, 1) := by decide +kernel
theorem dX4_goes_1 : decode cX4_goes 1 = .ok (.istore_n 3, 1) := by decide +kernel
theorem dX4_goes_2 : decode cX4_goes 2 = .ok (.iload_n 3, 1) := by decide +kernel
theorem dX4_goes_3 : decode cX4_goes 3 = .ok (.bipush 11, 2) := by decide +kernel
theorem dX4_goes_5 : decode cX4_goes 5 = .ok (.if_icmp .ge 16, 3) := by decide +kernel
theorem dX4_goes_8 : decode cX4_goes 8 = .ok (.aload_n 0, 1) := by decide +kernel
theorem dX4_goes_9 : decode cX4_goes 9 = .ok (.getfield 62, 3) := by decide +kernel
theorem dX4_goes_12 : decode cX4_goes 12 = .ok (.iload_n 3, 1) := by decide +kernel
theorem dX4_goes_13 : decode cX4_goes 13 = .ok (.iconst 0, 1) := by decide +kernel
theorem dX4_goes_14 : decode cX4_goes 14 = .ok (.iastore, 1) := by decide +kernel
theorem dX4_goes_15 : decode cX4_goes 15 = .ok (.iinc 3 1, 3) := by decide +kernel
theorem dX4_goes_18 : decode cX4_goes 18 = .ok (.goto (-16), 3) := by decide +kernel
theorem dX4_goes_21 : decode cX4_goes 21 = .ok (.aload_n 0, 1) := by decide +kernel
theorem dX4_goes_22 : decode cX4_goes 22 = .ok (.iconst 0, 1) := by decide +kernel
theorem dX4_goes_23 : decode cX4_goes 23 = .ok (.putfield 94, 3) := by decide +kernel
theorem dX4_goes_26 : decode cX4_goes 26 = .ok (.aload_n 0, 1) := by decide +kernel
theorem dX4_goes_27 : decode cX4_goes 27 = .ok (.iconst 0, 1) := by decide +kernel
theorem dX4_goes_28 : decode cX4_goes 28 = .ok (.putfield 97, 3) := by decide +kernel
theorem dX4_goes_31 : decode cX4_goes 31 = .ok (.aload_n 0, 1) := by decide +kernel
theorem dX4_goes_32 : decode cX4_goes 32 = .ok (.iconst 0, 1) := by decide +kernel
theorem dX4_goes_33 : decode cX4_goes 33 = .ok (.putfield 114, 3) := by decide +kernel
theorem dX4_goes_36 : decode cX4_goes 36 = .ok (.aload_n 0, 1) := by decide +kernel
theorem dX4_goes_37 : decode cX4_goes 37 = .ok (.iconst 0, 1) := by decide +kernel
theorem dX4_goes_38 : decode cX4_goes 38 = .ok (.putfield 121, 3) := by decide +kernel
theorem dX4_goes_41 : decode cX4_goes 41 = .ok (.aload_n 0, 1) := by decide +kernel
theorem dX4_goes_42 : decode cX4_goes 42 = .ok (.iconst 0, 1) := by decide +kernel
theorem dX4_goes_43 : decode cX4_goes 43 = .ok (.putfield 130, 3) := by decide +kernel
theorem dX4_goes_46 : decode cX4_goes 46 = .ok (.aload_n 0, 1) := by decide +kernel
theorem dX4_goes_47 : decode cX4_goes 47 = .ok (.iconst 0, 1) := by decide +kernel
theorem dX4_goes_48 : decode cX4_goes 48 = .ok (.putfield 107, 3) := by decide +kernel
theorem dX4_goes_51 : decode cX4_goes 51 = .ok (.aload_n 0, 1) := by decide +kernel
theorem dX4_goes_52 : decode cX4_goes 52 = .ok (.getfield 7, 3) := by decide +kernel
theorem dX4_goes_55 : decode cX4_goes 55 = .ok (.iload_n 1, 1) := by decide +kernel
theorem dX4_goes_56 : decode cX4_goes 56 = .ok (.iaload, 1) := by decide +kernel
theorem dX4_goes_57 : decode cX4_goes 57 = .ok (.istore_n 3, 1) := by decide +kernel
theorem dX4_goes_58 : decode cX4_goes 58 = .ok (.iload_n 3, 1) := by decide +kernel
theorem dX4_goes_59 : decode cX4_goes 59 = .ok (.iload_n 2, 1) := by decide +kernel
theorem dX4_goes_60 : decode cX4_goes 60 = .ok (.if_icmp .gt 15, 3) := by decide +kernel
theorem dX4_goes_63 : decode cX4_goes 63 = .ok (.aload_n 0, 1) := by decide +kernel
theorem dX4_goes_64 : decode cX4_goes 64 = .ok (.iload_n 1, 1) := by decide +kernel
theorem dX4_goes_65 : decode cX4_goes 65 = .ok (.iload_n 3, 1) := by decide +kernel
theorem dX4_goes_66 : decode cX4_goes 66 = .ok (.invokevirtual 133, 3) := by decide +kernel
theorem dX4_goes_69 : decode cX4_goes 69 = .ok (.iinc 3 1, 3) := by decide +kernel
theorem dX4_goes_72 : decode cX4_goes 72 = .ok (.goto (-14), 3) := by decide +kernel
theorem dX4_goes_75 : decode cX4_goes 75 = .ok (.return_, 1) := by decide +kernel
set_option maxRecDepth 20000 in
theorem ggX4_addPerson_X4_in : GoodIn wsX4_addPerson wsX4_in := goodIn_r _ [10] (by decide +kernel) (by decide +kernel)
set_option maxRecDepth 20000 in
theorem gX4_addPerson_X4_in : GoodIn wsX4_addPerson (va_wsS RX4 72 yX4_in wsX4_in) := goodIn_app (goodIn_of _ (by decide +kernel)) ggX4_addPerson_X4_in
set_option maxRecDepth 20000 in
theorem ggX4_addPerson_X4_fails : GoodIn wsX4_addPerson wsX4_fails := goodIn_r _ [14, 1, 15, 16, 17, 18, 19, 20, 21, 22, 23, 24, 25, 26, 27, 28, 29, 30, 31, 32, 33, 34, 35, 36, 37, 38, 39, 40, 41, 42, 43, 44] (by decide +kernel) (by decide +kernel)
set_option maxRecDepth 20000 in
theorem gX4_addPerson_X4_fails : GoodIn wsX4_addPerson (wsV RX4 136 RX4 yX4_fails wsX4_fails) := goodIn_app (goodIn_of _ (by decide +kernel)) ggX4_addPerson_X4_fails
theorem dX4_addPerson_0 : decode cX4_addPerson 0 = .ok (.aload_n 0, 1) := by decide +kernel
theorem dX4_addPerson_1 : decode cX4_addPerson 1 = .ok (.iconst 0, 1) := by decide +kernel
theorem dX4_addPerson_2 : decode cX4_addPerson 2 = .ok (.putfield 65, 3) := by decide +kernel
theorem dX4_addPerson_5 : decode cX4_addPerson 5 = .ok (.iload_n 1, 1) := by decide +kernel
theorem dX4_addPerson_6 : decode cX4_addPerson 6 = .ok (.bipush 20, 2) := by decide +kernel
theorem dX4_addPerson_8 : decode cX4_addPerson 8 = .ok (.bipush 80, 2) := by decide +kernel
theorem dX4_addPerson_10 : decode cX4_addPerson 10 = .ok (.invokestatic 72, 3) := by decide +kernel
theorem dX4_addPerson_13 : decode cX4_addPerson 13 = .ok (.ifCond .eq 13, 3) := by decide +kernel
theorem dX4_addPerson_16 : decode cX4_addPerson 16 = .ok (.iload_n 2, 1) := by decide +kernel
theorem dX4_addPerson_17 : decode cX4_addPerson 17 = .ok (.iconst 1, 1) := by decide +kernel
theorem dX4_addPerson_18 : decode cX4_addPerson 18 = .ok (.bipush 10, 2) := by decide +kernel
theorem dX4_addPerson_20 : decode cX4_addPerson 20 = .ok (.invokestatic 72, 3) := by decide +kernel
theorem dX4_addPerson_23 : decode cX4_addPerson 23 = .ok (.ifCond .ne 9, 3) := by decide +kernel
theorem dX4_addPerson_26 : decode cX4_addPerson 26 = .ok (.aload_n 0, 1) := by decide +kernel
theorem dX4_addPerson_27 : decode cX4_addPerson 27 = .ok (.iconst 1, 1) := by decide +kernel
theorem dX4_addPerson_28 : decode cX4_addPerson 28 = .ok (.invokevirtual 136, 3) := by decide +kernel
theorem dX4_addPerson_31 : decode cX4_addPerson 31 = .ok (.ireturn, 1) := by decide +kernel
theorem dX4_addPerson_32 : decode cX4_addPerson 32 = .ok (.aload_n 0, 1) := by decide +kernel
theorem dX4_addPerson_33 : decode cX4_addPerson 33 = .ok (.getfield 69, 3) := by decide +kernel
theorem dX4_addPerson_36 : decode cX4_addPerson 36 = .ok (.bipush 8, 2) := by decide +kernel
theorem dX4_addPerson_38 : decode cX4_addPerson 38 = .ok (.if_icmp .ne 9, 3) := by decide +kernel
theorem dX4_addPerson_41 : decode cX4_addPerson 41 = .ok (.aload_n 0, 1) := by decide +kernel
theorem dX4_addPerson_42 : decode cX4_addPerson 42 = .ok (.iconst 2, 1) := by decide +kernel
theorem dX4_addPerson_43 : decode cX4_addPerson 43 = .ok (.invokevirtual 136, 3) := by decide +kernel
theorem dX4_addPerson_46 : decode cX4_addPerson 46 = .ok (.ireturn, 1) := by decide +kernel
theorem dX4_addPerson_47 : decode cX4_addPerson 47 = .ok (.aload_n 0, 1) := by decide +kernel
theorem dX4_addPerson_48 : decode cX4_addPerson 48 = .ok (.getfield 7, 3) := by decide +kernel
theorem dX4_addPerson_51 : decode cX4_addPerson 51 = .ok (.aload_n 0, 1) := by decide +kernel
theorem dX4_addPerson_52 : decode cX4_addPerson 52 = .ok (.getfield 69, 3) := by decide +kernel
theorem dX4_addPerson_55 : decode cX4_addPerson 55 = .ok (.aload_n 0, 1) := by decide +kernel
theorem dX4_addPerson_56 : decode cX4_addPerson 56 = .ok (.getfield 139, 3) := by decide +kernel
theorem dX4_addPerson_59 : decode cX4_addPerson 59 = .ok (.iastore, 1) := by decide +kernel
theorem dX4_addPerson_60 : decode cX4_addPerson 60 = .ok (.aload_n 0, 1) := by decide +kernel
theorem dX4_addPerson_61 : decode cX4_addPerson 61 = .ok (.getfield 13, 3) := by decide +kernel
theorem dX4_addPerson_64 : decode cX4_addPerson 64 = .ok (.aload_n 0, 1) := by decide +kernel
theorem dX4_addPerson_65 : decode cX4_addPerson 65 = .ok (.getfield 69, 3) := by decide +kernel
theorem dX4_addPerson_68 : decode cX4_addPerson 68 = .ok (.iload_n 1, 1) := by decide +kernel
theorem dX4_addPerson_69 : decode cX4_addPerson 69 = .ok (.iastore, 1) := by decide +kernel
theorem dX4_addPerson_70 : decode cX4_addPerson 70 = .ok (.aload_n 0, 1) := by decide +kernel
theorem dX4_addPerson_71 : decode cX4_addPerson 71 = .ok (.getfield 16, 3) := by decide +kernel
theorem dX4_addPerson_74 : decode cX4_addPerson 74 = .ok (.aload_n 0, 1) := by decide +kernel
theorem dX4_addPerson_75 : decode cX4_addPerson 75 = .ok (.getfield 69, 3) := by decide +kernel
theorem dX4_addPerson_78 : decode cX4_addPerson 78 = .ok (.iload_n 2, 1) := by decide +kernel
theorem dX4_addPerson_79 : decode cX4_addPerson 79 = .ok (.iastore, 1) := by decide +kernel
theorem dX4_addPerson_80 : decode cX4_addPerson 80 = .ok (.aload_n 0, 1) := by decide +kernel
theorem dX4_addPerson_81 : decode cX4_addPerson 81 = .ok (.dup, 1) := by decide +kernel
theorem dX4_addPerson_82 : decode cX4_addPerson 82 = .ok (.getfield 69, 3) := by decide +kernel
theorem dX4_addPerson_85 : decode cX4_addPerson 85 = .ok (.iconst 1, 1) := by decide +kernel
theorem dX4_addPerson_86 : decode cX4_addPerson 86 = .ok (.iadd, 1) := by decide +kernel
theorem dX4_addPerson_87 : decode cX4_addPerson 87 = .ok (.putfield 69, 3) := by decide +kernel
theorem dX4_addPerson_90 : decode cX4_addPerson 90 = .ok (.aload_n 0, 1) := by decide +kernel
theorem dX4_addPerson_91 : decode cX4_addPerson 91 = .ok (.getfield 69, 3) := by decide +kernel
theorem dX4_addPerson_94 : decode cX4_addPerson 94 = .ok (.iconst 1, 1) := by decide +kernel
theorem dX4_addPerson_95 : decode cX4_addPerson 95 = .ok (.isub, 1) := by decide +kernel
theorem dX4_addPerson_96 : decode cX4_addPerson 96 = .ok (.ireturn, 1) := by decide +kernel
set_option maxRecDepth 20000 in
theorem ggX4_setHours_X4_isPerson : GoodIn wsX4_setHours wsX4_isPerson := goodIn_r _ [10, 11, 12, 13, 9, 14, 24, 25, 26, 27, 28, 29, 30, 31, 32, 33, 34, 35, 36, 37, 38, 39, 40, 41, 42, 43, 44, 45, 46, 47, 48, 49, 50, 51, 52, 53] (by decide +kernel) (by decide +kernel)
set_option maxRecDepth 20000 in
theorem gX4_setHours_X4_isPerson : GoodIn wsX4_setHours (wsV RX4 142 RX4 yX4_isPerson wsX4_isPerson) := goodIn_app (goodIn_of _ (by decide +kernel)) ggX4_setHours_X4_isPerson
set_option maxRecDepth 20000 in
theorem ggX4_setHours_X4_fails : GoodIn wsX4_setHours wsX4_fails := goodIn_r _ [18, 1, 24, 25, 26, 27, 28, 29, 30, 31, 32, 33, 34, 35, 36, 37, 38, 39, 40, 41, 42, 43, 44, 45, 46, 47, 48, 49, 50, 51, 52, 53] (by decide +kernel) (by decide +kernel)
set_option maxRecDepth 20000 in
theorem gX4_setHours_X4_fails : GoodIn wsX4_setHours (wsV RX4 136 RX4 yX4_fails wsX4_fails) := goodIn_app (goodIn_of _ (by decide +kernel)) ggX4_setHours_X4_fails
set_option maxRecDepth 20000 in
theorem ggX4_setHours_X4_in : GoodIn wsX4_setHours wsX4_in := goodIn_r _ [14] (by decide +kernel) (by decide +kernel)
set_option maxRecDepth 20000 in
theorem gX4_setHours_X4_in : GoodIn wsX4_setHours (va_wsS RX4 72 yX4_in wsX4_in) := goodIn_app (goodIn_of _ (by decide +kernel)) ggX4_setHours_X4_in
set_option maxRecDepth 20000 in
theorem ggX4_setHours_X4_hoursOn : GoodIn wsX4_setHours wsX4_hoursOn := goodIn_r _ [22, 23, 3, 4, 5, 24, 25, 26, 27, 28, 29, 30, 31, 32, 33, 34, 35, 36, 37, 38, 39, 40, 41, 42, 43, 44, 45, 46, 47, 48, 49, 50, 51, 52, 53] (by decide +kernel) (by decide +kernel)
set_option maxRecDepth 20000 in
theorem gX4_setHours_X4_hoursOn : GoodIn wsX4_setHours (wsV RX4 90 RX4 yX4_hoursOn wsX4_hoursOn) := goodIn_app (goodIn_of _ (by decide +kernel)) ggX4_setHours_X4_hoursOn
theorem dX4_setHours_0 : decode cX4_setHours 0 = .ok (.aload_n 0, 1) := by decide +kernel
theorem dX4_setHours_1 : decode cX4_setHours 1 = .ok (.iconst 0, 1) := by decide +kernel
theorem dX4_setHours_2 : decode cX4_setHours 2 = .ok (.putfield 65, 3) := by decide +kernel
theorem dX4_setHours_5 : decode cX4_setHours 5 = .ok (.aload_n 0, 1) := by decide +kernel
theorem dX4_setHours_6 : decode cX4_setHours 6 = .ok (.iload_n 1, 1) := by decide +kernel
theorem dX4_setHours_7 : decode cX4_setHours 7 = .ok (.invokevirtual 142, 3) := by decide +kernel
theorem dX4_setHours_10 : decode cX4_setHours 10 = .ok (.ifCond .ne 9, 3) := by decide +kernel
theorem dX4_setHours_13 : decode cX4_setHours 13 = .ok (.aload_n 0, 1) := by decide +kernel
theorem dX4_setHours_14 : decode cX4_setHours 14 = .ok (.iconst 1, 1) := by decide +kernel
theorem dX4_setHours_15 : decode cX4_setHours 15 = .ok (.invokevirtual 136, 3) := by decide +kernel
theorem dX4_setHours_18 : decode cX4_setHours 18 = .ok (.ireturn, 1) := by decide +kernel
theorem dX4_setHours_19 : decode cX4_setHours 19 = .ok (.iload_n 2, 1) := by decide +kernel
theorem dX4_setHours_20 : decode cX4_setHours 20 = .ok (.aload_n 0, 1) := by decide +kernel
theorem dX4_setHours_21 : decode cX4_setHours 21 = .ok (.getfield 7, 3) := by decide +kernel
theorem dX4_setHours_24 : decode cX4_setHours 24 = .ok (.iload_n 1, 1) := by decide +kernel
theorem dX4_setHours_25 : decode cX4_setHours 25 = .ok (.iaload, 1) := by decide +kernel
theorem dX4_setHours_26 : decode cX4_setHours 26 = .ok (.sipush 3600, 3) := by decide +kernel
theorem dX4_setHours_29 : decode cX4_setHours 29 = .ok (.invokestatic 72, 3) := by decide +kernel
theorem dX4_setHours_32 : decode cX4_setHours 32 = .ok (.ifCond .eq 13, 3) := by decide +kernel
theorem dX4_setHours_35 : decode cX4_setHours 35 = .ok (.iload_n 3, 1) := by decide +kernel
theorem dX4_setHours_36 : decode cX4_setHours 36 = .ok (.iconst 1, 1) := by decide +kernel
theorem dX4_setHours_37 : decode cX4_setHours 37 = .ok (.bipush 10, 2) := by decide +kernel
theorem dX4_setHours_39 : decode cX4_setHours 39 = .ok (.invokestatic 72, 3) := by decide +kernel
theorem dX4_setHours_42 : decode cX4_setHours 42 = .ok (.ifCond .ne 9, 3) := by decide +kernel
theorem dX4_setHours_45 : decode cX4_setHours 45 = .ok (.aload_n 0, 1) := by decide +kernel
theorem dX4_setHours_46 : decode cX4_setHours 46 = .ok (.iconst 2, 1) := by decide +kernel
theorem dX4_setHours_47 : decode cX4_setHours 47 = .ok (.invokevirtual 136, 3) := by decide +kernel
theorem dX4_setHours_50 : decode cX4_setHours 50 = .ok (.ireturn, 1) := by decide +kernel
theorem dX4_setHours_51 : decode cX4_setHours 51 = .ok (.bipush 10, 2) := by decide +kernel
theorem dX4_setHours_53 : decode cX4_setHours 53 = .ok (.iload_n 1, 1) := by decide +kernel
theorem dX4_setHours_54 : decode cX4_setHours 54 = .ok (.imul, 1) := by decide +kernel
theorem dX4_setHours_55 : decode cX4_setHours 55 = .ok (.aload_n 0, 1) := by decide +kernel
theorem dX4_setHours_56 : decode cX4_setHours 56 = .ok (.getfield 19, 3) := by decide +kernel
theorem dX4_setHours_59 : decode cX4_setHours 59 = .ok (.iload_n 1, 1) := by decide +kernel
theorem dX4_setHours_60 : decode cX4_setHours 60 = .ok (.iaload, 1) := by decide +kernel
theorem dX4_setHours_61 : decode cX4_setHours 61 = .ok (.iadd, 1) := by decide +kernel
theorem dX4_setHours_62 : decode cX4_setHours 62 = .ok (.istore 4, 2) := by decide +kernel
theorem dX4_setHours_64 : decode cX4_setHours 64 = .ok (.bipush 10, 2) := by decide +kernel
theorem dX4_setHours_66 : decode cX4_setHours 66 = .ok (.iload_n 1, 1) := by decide +kernel
theorem dX4_setHours_67 : decode cX4_setHours 67 = .ok (.imul, 1) := by decide +kernel
theorem dX4_setHours_68 : decode cX4_setHours 68 = .ok (.istore 5, 2) := by decide +kernel
theorem dX4_setHours_70 : decode cX4_setHours 70 = .ok (.iload 5, 2) := by decide +kernel
theorem dX4_setHours_72 : decode cX4_setHours 72 = .ok (.bipush 10, 2) := by decide +kernel
theorem dX4_setHours_74 : decode cX4_setHours 74 = .ok (.iload_n 1, 1) := by decide +kernel
theorem dX4_setHours_75 : decode cX4_setHours 75 = .ok (.imul, 1) := by decide +kernel
theorem dX4_setHours_76 : decode cX4_setHours 76 = .ok (.aload_n 0, 1) := by decide +kernel
theorem dX4_setHours_77 : decode cX4_setHours 77 = .ok (.getfield 19, 3) := by decide +kernel
theorem dX4_setHours_80 : decode cX4_setHours 80 = .ok (.iload_n 1, 1) := by decide +kernel
theorem dX4_setHours_81 : decode cX4_setHours 81 = .ok (.iaload, 1) := by decide +kernel
theorem dX4_setHours_82 : decode cX4_setHours 82 = .ok (.iadd, 1) := by decide +kernel
theorem dX4_setHours_83 : decode cX4_setHours 83 = .ok (.if_icmp .ge 29, 3) := by decide +kernel
theorem dX4_setHours_86 : decode cX4_setHours 86 = .ok (.aload_n 0, 1) := by decide +kernel
theorem dX4_setHours_87 : decode cX4_setHours 87 = .ok (.getfield 22, 3) := by decide +kernel
theorem dX4_setHours_90 : decode cX4_setHours 90 = .ok (.iload 5, 2) := by decide +kernel
theorem dX4_setHours_92 : decode cX4_setHours 92 = .ok (.iaload, 1) := by decide +kernel
theorem dX4_setHours_93 : decode cX4_setHours 93 = .ok (.iload_n 2, 1) := by decide +kernel
theorem dX4_setHours_94 : decode cX4_setHours 94 = .ok (.if_icmp .ne 8, 3) := by decide +kernel
theorem dX4_setHours_97 : decode cX4_setHours 97 = .ok (.iload 5, 2) := by decide +kernel
theorem dX4_setHours_99 : decode cX4_setHours 99 = .ok (.goto 5, 3) := by decide +kernel
theorem dX4_setHours_102 : decode cX4_setHours 102 = .ok (.iload 4, 2) := by decide +kernel
theorem dX4_setHours_104 : decode cX4_setHours 104 = .ok (.istore 4, 2) := by decide +kernel
theorem dX4_setHours_106 : decode cX4_setHours 106 = .ok (.iinc 5 1, 3) := by decide +kernel
theorem dX4_setHours_109 : decode cX4_setHours 109 = .ok (.goto (-39), 3) := by decide +kernel
theorem dX4_setHours_112 : decode cX4_setHours 112 = .ok (.iload 4, 2) := by decide +kernel
theorem dX4_setHours_114 : decode cX4_setHours 114 = .ok (.bipush 10, 2) := by decide +kernel
theorem dX4_setHours_116 : decode cX4_setHours 116 = .ok (.iload_n 1, 1) := by decide +kernel
theorem dX4_setHours_117 : decode cX4_setHours 117 = .ok (.imul, 1) := by decide +kernel
theorem dX4_setHours_118 : decode cX4_setHours 118 = .ok (.aload_n 0, 1) := by decide +kernel
theorem dX4_setHours_119 : decode cX4_setHours 119 = .ok (.getfield 19, 3) := by decide +kernel
theorem dX4_setHours_122 : decode cX4_setHours 122 = .ok (.iload_n 1, 1) := by decide +kernel
theorem dX4_setHours_123 : decode cX4_setHours 123 = .ok (.iaload, 1) := by decide +kernel
theorem dX4_setHours_124 : decode cX4_setHours 124 = .ok (.iadd, 1) := by decide +kernel
theorem dX4_setHours_125 : decode cX4_setHours 125 = .ok (.if_icmp .ne 7, 3) := by decide +kernel
theorem dX4_setHours_128 : decode cX4_setHours 128 = .ok (.iconst 1, 1) := by decide +kernel
theorem dX4_setHours_129 : decode cX4_setHours 129 = .ok (.goto 4, 3) := by decide +kernel
theorem dX4_setHours_132 : decode cX4_setHours 132 = .ok (.iconst 0, 1) := by decide +kernel
theorem dX4_setHours_133 : decode cX4_setHours 133 = .ok (.istore 5, 2) := by decide +kernel
theorem dX4_setHours_135 : decode cX4_setHours 135 = .ok (.iload 5, 2) := by decide +kernel
theorem dX4_setHours_137 : decode cX4_setHours 137 = .ok (.ifCond .eq 20, 3) := by decide +kernel
theorem dX4_setHours_140 : decode cX4_setHours 140 = .ok (.aload_n 0, 1) := by decide +kernel
theorem dX4_setHours_141 : decode cX4_setHours 141 = .ok (.getfield 19, 3) := by decide +kernel
theorem dX4_setHours_144 : decode cX4_setHours 144 = .ok (.iload_n 1, 1) := by decide +kernel
theorem dX4_setHours_145 : decode cX4_setHours 145 = .ok (.iaload, 1) := by decide +kernel
theorem dX4_setHours_146 : decode cX4_setHours 146 = .ok (.bipush 10, 2) := by decide +kernel
theorem dX4_setHours_148 : decode cX4_setHours 148 = .ok (.if_icmp .ne 9, 3) := by decide +kernel
theorem dX4_setHours_151 : decode cX4_setHours 151 = .ok (.aload_n 0, 1) := by decide +kernel
theorem dX4_setHours_152 : decode cX4_setHours 152 = .ok (.iconst 3, 1) := by decide +kernel
theorem dX4_setHours_153 : decode cX4_setHours 153 = .ok (.invokevirtual 136, 3) := by decide +kernel
theorem dX4_setHours_156 : decode cX4_setHours 156 = .ok (.ireturn, 1) := by decide +kernel
theorem dX4_setHours_157 : decode cX4_setHours 157 = .ok (.aload_n 0, 1) := by decide +kernel
theorem dX4_setHours_158 : decode cX4_setHours 158 = .ok (.iload_n 1, 1) := by decide +kernel
theorem dX4_setHours_159 : decode cX4_setHours 159 = .ok (.iload_n 2, 1) := by decide +kernel
theorem dX4_setHours_160 : decode cX4_setHours 160 = .ok (.invokevirtual 90, 3) := by decide +kernel
theorem dX4_setHours_163 : decode cX4_setHours 163 = .ok (.istore 6, 2) := by decide +kernel
theorem dX4_setHours_165 : decode cX4_setHours 165 = .ok (.aload_n 0, 1) := by decide +kernel
theorem dX4_setHours_166 : decode cX4_setHours 166 = .ok (.getfield 19, 3) := by decide +kernel
theorem dX4_setHours_169 : decode cX4_setHours 169 = .ok (.iload_n 1, 1) := by decide +kernel
theorem dX4_setHours_170 : decode cX4_setHours 170 = .ok (.dup2, 1) := by decide +kernel
theorem dX4_setHours_171 : decode cX4_setHours 171 = .ok (.iaload, 1) := by decide +kernel
theorem dX4_setHours_172 : decode cX4_setHours 172 = .ok (.iload 5, 2) := by decide +kernel
theorem dX4_setHours_174 : decode cX4_setHours 174 = .ok (.ifCond .eq 7, 3) := by decide +kernel
theorem dX4_setHours_177 : decode cX4_setHours 177 = .ok (.iconst 1, 1) := by decide +kernel
theorem dX4_setHours_178 : decode cX4_setHours 178 = .ok (.goto 4, 3) := by decide +kernel
theorem dX4_setHours_181 : decode cX4_setHours 181 = .ok (.iconst 0, 1) := by decide +kernel
theorem dX4_setHours_182 : decode cX4_setHours 182 = .ok (.iadd, 1) := by decide +kernel
theorem dX4_setHours_183 : decode cX4_setHours 183 = .ok (.iastore, 1) := by decide +kernel
theorem dX4_setHours_184 : decode cX4_setHours 184 = .ok (.aload_n 0, 1) := by decide +kernel
theorem dX4_setHours_185 : decode cX4_setHours 185 = .ok (.getfield 22, 3) := by decide +kernel
theorem dX4_setHours_188 : decode cX4_setHours 188 = .ok (.iload 4, 2) := by decide +kernel
theorem dX4_setHours_190 : decode cX4_setHours 190 = .ok (.iload_n 2, 1) := by decide +kernel
theorem dX4_setHours_191 : decode cX4_setHours 191 = .ok (.iastore, 1) := by decide +kernel
theorem dX4_setHours_192 : decode cX4_setHours 192 = .ok (.aload_n 0, 1) := by decide +kernel
theorem dX4_setHours_193 : decode cX4_setHours 193 = .ok (.getfield 25, 3) := by decide +kernel
theorem dX4_setHours_196 : decode cX4_setHours 196 = .ok (.iload 4, 2) := by decide +kernel
theorem dX4_setHours_198 : decode cX4_setHours 198 = .ok (.iload_n 3, 1) := by decide +kernel
theorem dX4_setHours_199 : decode cX4_setHours 199 = .ok (.iastore, 1) := by decide +kernel
theorem dX4_setHours_200 : decode cX4_setHours 200 = .ok (.iload 6, 2) := by decide +kernel
theorem dX4_setHours_202 : decode cX4_setHours 202 = .ok (.ireturn, 1) := by decide +kernel
set_option maxRecDepth 20000 in
theorem ggX4_request_X4_isPerson : GoodIn wsX4_request wsX4_isPerson := goodIn_r _ [12, 13, 14, 15, 11, 16, 26, 27, 28, 29, 30, 31, 32, 33, 34, 35, 36, 37, 38, 39, 40, 41, 42, 43, 44, 45, 46, 47, 48, 49, 50, 51, 52, 53, 54, 55] (by decide +kernel) (by decide +kernel)
set_option maxRecDepth 20000 in
theorem gX4_request_X4_isPerson : GoodIn wsX4_request (wsV RX4 142 RX4 yX4_isPerson wsX4_isPerson) := goodIn_app (goodIn_of _ (by decide +kernel)) ggX4_request_X4_isPerson
set_option maxRecDepth 20000 in
theorem ggX4_request_X4_fails : GoodIn wsX4_request wsX4_fails := goodIn_r _ [20, 1, 26, 27, 28, 29, 30, 31, 32, 33, 34, 35, 36, 37, 38, 39, 40, 41, 42, 43, 44, 45, 46, 47, 48, 49, 50, 51, 52, 53, 54, 55] (by decide +kernel) (by decide +kernel)
set_option maxRecDepth 20000 in
theorem gX4_request_X4_fails : GoodIn wsX4_request (wsV RX4 136 RX4 yX4_fails wsX4_fails) := goodIn_app (goodIn_of _ (by decide +kernel)) ggX4_request_X4_fails
set_option maxRecDepth 20000 in
theorem ggX4_request_X4_areDays : GoodIn wsX4_request wsX4_areDays := goodIn_r _ [24, 25, 14, 15, 11, 16, 26, 27, 28, 29, 30, 31, 32, 33, 34, 35, 36, 37, 38, 39, 40, 41, 42, 43, 44, 45, 46, 47, 48, 49, 50, 51, 52, 53, 54, 55] (by decide +kernel) (by decide +kernel)
set_option maxRecDepth 20000 in
theorem gX4_request_X4_areDays : GoodIn wsX4_request (wsV RX4 145 RX4 yX4_areDays wsX4_areDays) := goodIn_app (goodIn_of _ (by decide +kernel)) ggX4_request_X4_areDays
theorem dX4_request_0 : decode cX4_request 0 = .ok (.aload_n 0, 1) := by decide +kernel
theorem dX4_request_1 : decode cX4_request 1 = .ok (.iconst 0, 1) := by decide +kernel
theorem dX4_request_2 : decode cX4_request 2 = .ok (.putfield 65, 3) := by decide +kernel
theorem dX4_request_5 : decode cX4_request 5 = .ok (.aload_n 0, 1) := by decide +kernel
theorem dX4_request_6 : decode cX4_request 6 = .ok (.iload_n 1, 1) := by decide +kernel
theorem dX4_request_7 : decode cX4_request 7 = .ok (.invokevirtual 142, 3) := by decide +kernel
theorem dX4_request_10 : decode cX4_request 10 = .ok (.ifCond .ne 9, 3) := by decide +kernel
theorem dX4_request_13 : decode cX4_request 13 = .ok (.aload_n 0, 1) := by decide +kernel
theorem dX4_request_14 : decode cX4_request 14 = .ok (.iconst 1, 1) := by decide +kernel
theorem dX4_request_15 : decode cX4_request 15 = .ok (.invokevirtual 136, 3) := by decide +kernel
theorem dX4_request_18 : decode cX4_request 18 = .ok (.ireturn, 1) := by decide +kernel
theorem dX4_request_19 : decode cX4_request 19 = .ok (.aload_n 0, 1) := by decide +kernel
theorem dX4_request_20 : decode cX4_request 20 = .ok (.iload_n 1, 1) := by decide +kernel
theorem dX4_request_21 : decode cX4_request 21 = .ok (.iload_n 2, 1) := by decide +kernel
theorem dX4_request_22 : decode cX4_request 22 = .ok (.iload_n 3, 1) := by decide +kernel
theorem dX4_request_23 : decode cX4_request 23 = .ok (.invokevirtual 145, 3) := by decide +kernel
theorem dX4_request_26 : decode cX4_request 26 = .ok (.ifCond .ne 9, 3) := by decide +kernel
theorem dX4_request_29 : decode cX4_request 29 = .ok (.aload_n 0, 1) := by decide +kernel
theorem dX4_request_30 : decode cX4_request 30 = .ok (.iconst 2, 1) := by decide +kernel
theorem dX4_request_31 : decode cX4_request 31 = .ok (.invokevirtual 136, 3) := by decide +kernel
theorem dX4_request_34 : decode cX4_request 34 = .ok (.ireturn, 1) := by decide +kernel
theorem dX4_request_35 : decode cX4_request 35 = .ok (.aload_n 0, 1) := by decide +kernel
theorem dX4_request_36 : decode cX4_request 36 = .ok (.getfield 79, 3) := by decide +kernel
theorem dX4_request_39 : decode cX4_request 39 = .ok (.bipush 40, 2) := by decide +kernel
theorem dX4_request_41 : decode cX4_request 41 = .ok (.if_icmp .ne 9, 3) := by decide +kernel
theorem dX4_request_44 : decode cX4_request 44 = .ok (.aload_n 0, 1) := by decide +kernel
theorem dX4_request_45 : decode cX4_request 45 = .ok (.iconst 3, 1) := by decide +kernel
theorem dX4_request_46 : decode cX4_request 46 = .ok (.invokevirtual 136, 3) := by decide +kernel
theorem dX4_request_49 : decode cX4_request 49 = .ok (.ireturn, 1) := by decide +kernel
theorem dX4_request_50 : decode cX4_request 50 = .ok (.aload_n 0, 1) := by decide +kernel
theorem dX4_request_51 : decode cX4_request 51 = .ok (.getfield 28, 3) := by decide +kernel
theorem dX4_request_54 : decode cX4_request 54 = .ok (.aload_n 0, 1) := by decide +kernel
theorem dX4_request_55 : decode cX4_request 55 = .ok (.getfield 79, 3) := by decide +kernel
theorem dX4_request_58 : decode cX4_request 58 = .ok (.iload_n 1, 1) := by decide +kernel
theorem dX4_request_59 : decode cX4_request 59 = .ok (.iastore, 1) := by decide +kernel
theorem dX4_request_60 : decode cX4_request 60 = .ok (.aload_n 0, 1) := by decide +kernel
theorem dX4_request_61 : decode cX4_request 61 = .ok (.getfield 31, 3) := by decide +kernel
theorem dX4_request_64 : decode cX4_request 64 = .ok (.aload_n 0, 1) := by decide +kernel
theorem dX4_request_65 : decode cX4_request 65 = .ok (.getfield 79, 3) := by decide +kernel
theorem dX4_request_68 : decode cX4_request 68 = .ok (.iload_n 2, 1) := by decide +kernel
theorem dX4_request_69 : decode cX4_request 69 = .ok (.iastore, 1) := by decide +kernel
theorem dX4_request_70 : decode cX4_request 70 = .ok (.aload_n 0, 1) := by decide +kernel
theorem dX4_request_71 : decode cX4_request 71 = .ok (.getfield 34, 3) := by decide +kernel
theorem dX4_request_74 : decode cX4_request 74 = .ok (.aload_n 0, 1) := by decide +kernel
theorem dX4_request_75 : decode cX4_request 75 = .ok (.getfield 79, 3) := by decide +kernel
theorem dX4_request_78 : decode cX4_request 78 = .ok (.iload_n 3, 1) := by decide +kernel
theorem dX4_request_79 : decode cX4_request 79 = .ok (.iastore, 1) := by decide +kernel
theorem dX4_request_80 : decode cX4_request 80 = .ok (.aload_n 0, 1) := by decide +kernel
theorem dX4_request_81 : decode cX4_request 81 = .ok (.getfield 37, 3) := by decide +kernel
theorem dX4_request_84 : decode cX4_request 84 = .ok (.aload_n 0, 1) := by decide +kernel
theorem dX4_request_85 : decode cX4_request 85 = .ok (.getfield 79, 3) := by decide +kernel
theorem dX4_request_88 : decode cX4_request 88 = .ok (.iload 4, 2) := by decide +kernel
theorem dX4_request_90 : decode cX4_request 90 = .ok (.bastore, 1) := by decide +kernel
theorem dX4_request_91 : decode cX4_request 91 = .ok (.aload_n 0, 1) := by decide +kernel
theorem dX4_request_92 : decode cX4_request 92 = .ok (.getfield 41, 3) := by decide +kernel
theorem dX4_request_95 : decode cX4_request 95 = .ok (.aload_n 0, 1) := by decide +kernel
theorem dX4_request_96 : decode cX4_request 96 = .ok (.getfield 79, 3) := by decide +kernel
theorem dX4_request_99 : decode cX4_request 99 = .ok (.iconst 0, 1) := by decide +kernel
theorem dX4_request_100 : decode cX4_request 100 = .ok (.bastore, 1) := by decide +kernel
theorem dX4_request_101 : decode cX4_request 101 = .ok (.aload_n 0, 1) := by decide +kernel
theorem dX4_request_102 : decode cX4_request 102 = .ok (.dup, 1) := by decide +kernel
theorem dX4_request_103 : decode cX4_request 103 = .ok (.getfield 79, 3) := by decide +kernel
theorem dX4_request_106 : decode cX4_request 106 = .ok (.iconst 1, 1) := by decide +kernel
theorem dX4_request_107 : decode cX4_request 107 = .ok (.iadd, 1) := by decide +kernel
theorem dX4_request_108 : decode cX4_request 108 = .ok (.putfield 79, 3) := by decide +kernel
theorem dX4_request_111 : decode cX4_request 111 = .ok (.aload_n 0, 1) := by decide +kernel
theorem dX4_request_112 : decode cX4_request 112 = .ok (.getfield 79, 3) := by decide +kernel
theorem dX4_request_115 : decode cX4_request 115 = .ok (.iconst 1, 1) := by decide +kernel
theorem dX4_request_116 : decode cX4_request 116 = .ok (.isub, 1) := by decide +kernel
theorem dX4_request_117 : decode cX4_request 117 = .ok (.ireturn, 1) := by decide +kernel
set_option maxRecDepth 20000 in
theorem ggX4_change_X4_in : GoodIn wsX4_change wsX4_in := goodIn_r _ [10] (by decide +kernel) (by decide +kernel)
set_option maxRecDepth 20000 in
theorem gX4_change_X4_in : GoodIn wsX4_change (va_wsS RX4 72 yX4_in wsX4_in) := goodIn_app (goodIn_of _ (by decide +kernel)) ggX4_change_X4_in
set_option maxRecDepth 20000 in
theorem ggX4_change_X4_fails : GoodIn wsX4_change wsX4_fails := goodIn_r _ [14, 1, 20, 21, 22, 23, 24, 25, 26, 27, 28, 29, 30, 31, 32, 33, 34, 35, 36, 37, 38, 39, 40, 41, 42, 43, 44, 45, 46, 47, 48, 49] (by decide +kernel) (by decide +kernel)
set_option maxRecDepth 20000 in
theorem gX4_change_X4_fails : GoodIn wsX4_change (wsV RX4 136 RX4 yX4_fails wsX4_fails) := goodIn_app (goodIn_of _ (by decide +kernel)) ggX4_change_X4_fails
set_option maxRecDepth 20000 in
theorem ggX4_change_X4_areDays : GoodIn wsX4_change wsX4_areDays := goodIn_r _ [18, 19, 7, 8, 9, 10, 20, 21, 22, 23, 24, 25, 26, 27, 28, 29, 30, 31, 32, 33, 34, 35, 36, 37, 38, 39, 40, 41, 42, 43, 44, 45, 46, 47, 48, 49] (by decide +kernel) (by decide +kernel)
set_option maxRecDepth 20000 in
theorem gX4_change_X4_areDays : GoodIn wsX4_change (wsV RX4 145 RX4 yX4_areDays wsX4_areDays) := goodIn_app (goodIn_of _ (by decide +kernel)) ggX4_change_X4_areDays
theorem dX4_change_0 : decode cX4_change 0 = .ok (.aload_n 0, 1) := by decide +kernel
theorem dX4_change_1 : decode cX4_change 1 = .ok (.iconst 0, 1) := by decide +kernel
theorem dX4_change_2 : decode cX4_change 2 = .ok (.putfield 65, 3) := by decide +kernel
theorem dX4_change_5 : decode cX4_change 5 = .ok (.iload_n 1, 1) := by decide +kernel
theorem dX4_change_6 : decode cX4_change 6 = .ok (.iconst 0, 1) := by decide +kernel
theorem dX4_change_7 : decode cX4_change 7 = .ok (.aload_n 0, 1) := by decide +kernel
theorem dX4_change_8 : decode cX4_change 8 = .ok (.getfield 79, 3) := by decide +kernel
theorem dX4_change_11 : decode cX4_change 11 = .ok (.iconst 1, 1) := by decide +kernel
theorem dX4_change_12 : decode cX4_change 12 = .ok (.isub, 1) := by decide +kernel
theorem dX4_change_13 : decode cX4_change 13 = .ok (.invokestatic 72, 3) := by decide +kernel
theorem dX4_change_16 : decode cX4_change 16 = .ok (.ifCond .ne 9, 3) := by decide +kernel
theorem dX4_change_19 : decode cX4_change 19 = .ok (.aload_n 0, 1) := by decide +kernel
theorem dX4_change_20 : decode cX4_change 20 = .ok (.iconst 1, 1) := by decide +kernel
theorem dX4_change_21 : decode cX4_change 21 = .ok (.invokevirtual 136, 3) := by decide +kernel
theorem dX4_change_24 : decode cX4_change 24 = .ok (.ireturn, 1) := by decide +kernel
theorem dX4_change_25 : decode cX4_change 25 = .ok (.aload_n 0, 1) := by decide +kernel
theorem dX4_change_26 : decode cX4_change 26 = .ok (.aload_n 0, 1) := by decide +kernel
theorem dX4_change_27 : decode cX4_change 27 = .ok (.getfield 28, 3) := by decide +kernel
theorem dX4_change_30 : decode cX4_change 30 = .ok (.iload_n 1, 1) := by decide +kernel
theorem dX4_change_31 : decode cX4_change 31 = .ok (.iaload, 1) := by decide +kernel
theorem dX4_change_32 : decode cX4_change 32 = .ok (.iload_n 2, 1) := by decide +kernel
theorem dX4_change_33 : decode cX4_change 33 = .ok (.iload_n 3, 1) := by decide +kernel
theorem dX4_change_34 : decode cX4_change 34 = .ok (.invokevirtual 145, 3) := by decide +kernel
theorem dX4_change_37 : decode cX4_change 37 = .ok (.ifCond .ne 9, 3) := by decide +kernel
theorem dX4_change_40 : decode cX4_change 40 = .ok (.aload_n 0, 1) := by decide +kernel
theorem dX4_change_41 : decode cX4_change 41 = .ok (.iconst 2, 1) := by decide +kernel
theorem dX4_change_42 : decode cX4_change 42 = .ok (.invokevirtual 136, 3) := by decide +kernel
theorem dX4_change_45 : decode cX4_change 45 = .ok (.ireturn, 1) := by decide +kernel
theorem dX4_change_46 : decode cX4_change 46 = .ok (.aload_n 0, 1) := by decide +kernel
theorem dX4_change_47 : decode cX4_change 47 = .ok (.getfield 41, 3) := by decide +kernel
theorem dX4_change_50 : decode cX4_change 50 = .ok (.iload_n 1, 1) := by decide +kernel
theorem dX4_change_51 : decode cX4_change 51 = .ok (.baload, 1) := by decide +kernel
theorem dX4_change_52 : decode cX4_change 52 = .ok (.ifCond .eq 9, 3) := by decide +kernel
theorem dX4_change_55 : decode cX4_change 55 = .ok (.aload_n 0, 1) := by decide +kernel
theorem dX4_change_56 : decode cX4_change 56 = .ok (.iconst 3, 1) := by decide +kernel
theorem dX4_change_57 : decode cX4_change 57 = .ok (.invokevirtual 136, 3) := by decide +kernel
theorem dX4_change_60 : decode cX4_change 60 = .ok (.ireturn, 1) := by decide +kernel
theorem dX4_change_61 : decode cX4_change 61 = .ok (.aload_n 0, 1) := by decide +kernel
theorem dX4_change_62 : decode cX4_change 62 = .ok (.getfield 34, 3) := by decide +kernel
theorem dX4_change_65 : decode cX4_change 65 = .ok (.iload_n 1, 1) := by decide +kernel
theorem dX4_change_66 : decode cX4_change 66 = .ok (.iaload, 1) := by decide +kernel
theorem dX4_change_67 : decode cX4_change 67 = .ok (.aload_n 0, 1) := by decide +kernel
theorem dX4_change_68 : decode cX4_change 68 = .ok (.getfield 31, 3) := by decide +kernel
theorem dX4_change_71 : decode cX4_change 71 = .ok (.iload_n 1, 1) := by decide +kernel
theorem dX4_change_72 : decode cX4_change 72 = .ok (.iaload, 1) := by decide +kernel
theorem dX4_change_73 : decode cX4_change 73 = .ok (.isub, 1) := by decide +kernel
theorem dX4_change_74 : decode cX4_change 74 = .ok (.iconst 1, 1) := by decide +kernel
theorem dX4_change_75 : decode cX4_change 75 = .ok (.iadd, 1) := by decide +kernel
theorem dX4_change_76 : decode cX4_change 76 = .ok (.istore 4, 2) := by decide +kernel
theorem dX4_change_78 : decode cX4_change 78 = .ok (.aload_n 0, 1) := by decide +kernel
theorem dX4_change_79 : decode cX4_change 79 = .ok (.getfield 31, 3) := by decide +kernel
theorem dX4_change_82 : decode cX4_change 82 = .ok (.iload_n 1, 1) := by decide +kernel
theorem dX4_change_83 : decode cX4_change 83 = .ok (.iload_n 2, 1) := by decide +kernel
theorem dX4_change_84 : decode cX4_change 84 = .ok (.iastore, 1) := by decide +kernel
theorem dX4_change_85 : decode cX4_change 85 = .ok (.aload_n 0, 1) := by decide +kernel
theorem dX4_change_86 : decode cX4_change 86 = .ok (.getfield 34, 3) := by decide +kernel
theorem dX4_change_89 : decode cX4_change 89 = .ok (.iload_n 1, 1) := by decide +kernel
theorem dX4_change_90 : decode cX4_change 90 = .ok (.iload_n 3, 1) := by decide +kernel
theorem dX4_change_91 : decode cX4_change 91 = .ok (.iastore, 1) := by decide +kernel
theorem dX4_change_92 : decode cX4_change 92 = .ok (.iload 4, 2) := by decide +kernel
theorem dX4_change_94 : decode cX4_change 94 = .ok (.ireturn, 1) := by decide +kernel
set_option maxRecDepth 20000 in
theorem ggX4_cancel_X4_in : GoodIn wsX4_cancel wsX4_in := goodIn_r _ [7] (by decide +kernel) (by decide +kernel)
set_option maxRecDepth 20000 in
theorem gX4_cancel_X4_in : GoodIn wsX4_cancel (va_wsS RX4 72 yX4_in wsX4_in) := goodIn_app (goodIn_of _ (by decide +kernel)) ggX4_cancel_X4_in
theorem dX4_cancel_0 : decode cX4_cancel 0 = .ok (.aload_n 0, 1) := by decide +kernel
theorem dX4_cancel_1 : decode cX4_cancel 1 = .ok (.iload_n 1, 1) := by decide +kernel
theorem dX4_cancel_2 : decode cX4_cancel 2 = .ok (.iconst 0, 1) := by decide +kernel
theorem dX4_cancel_3 : decode cX4_cancel 3 = .ok (.aload_n 0, 1) := by decide +kernel
theorem dX4_cancel_4 : decode cX4_cancel 4 = .ok (.getfield 79, 3) := by decide +kernel
theorem dX4_cancel_7 : decode cX4_cancel 7 = .ok (.iconst 1, 1) := by decide +kernel
theorem dX4_cancel_8 : decode cX4_cancel 8 = .ok (.isub, 1) := by decide +kernel
theorem dX4_cancel_9 : decode cX4_cancel 9 = .ok (.invokestatic 72, 3) := by decide +kernel
theorem dX4_cancel_12 : decode cX4_cancel 12 = .ok (.ifCond .ne 7, 3) := by decide +kernel
theorem dX4_cancel_15 : decode cX4_cancel 15 = .ok (.iconst 1, 1) := by decide +kernel
theorem dX4_cancel_16 : decode cX4_cancel 16 = .ok (.goto 17, 3) := by decide +kernel
theorem dX4_cancel_19 : decode cX4_cancel 19 = .ok (.aload_n 0, 1) := by decide +kernel
theorem dX4_cancel_20 : decode cX4_cancel 20 = .ok (.getfield 41, 3) := by decide +kernel
theorem dX4_cancel_23 : decode cX4_cancel 23 = .ok (.iload_n 1, 1) := by decide +kernel
theorem dX4_cancel_24 : decode cX4_cancel 24 = .ok (.baload, 1) := by decide +kernel
theorem dX4_cancel_25 : decode cX4_cancel 25 = .ok (.ifCond .eq 7, 3) := by decide +kernel
theorem dX4_cancel_28 : decode cX4_cancel 28 = .ok (.iconst 2, 1) := by decide +kernel
theorem dX4_cancel_29 : decode cX4_cancel 29 = .ok (.goto 4, 3) := by decide +kernel
theorem dX4_cancel_32 : decode cX4_cancel 32 = .ok (.iconst 0, 1) := by decide +kernel
theorem dX4_cancel_33 : decode cX4_cancel 33 = .ok (.putfield 65, 3) := by decide +kernel
theorem dX4_cancel_36 : decode cX4_cancel 36 = .ok (.aload_n 0, 1) := by decide +kernel
theorem dX4_cancel_37 : decode cX4_cancel 37 = .ok (.getfield 65, 3) := by decide +kernel
theorem dX4_cancel_40 : decode cX4_cancel 40 = .ok (.ifCond .ne 10, 3) := by decide +kernel
theorem dX4_cancel_43 : decode cX4_cancel 43 = .ok (.aload_n 0, 1) := by decide +kernel
theorem dX4_cancel_44 : decode cX4_cancel 44 = .ok (.getfield 41, 3) := by decide +kernel
theorem dX4_cancel_47 : decode cX4_cancel 47 = .ok (.iload_n 1, 1) := by decide +kernel
theorem dX4_cancel_48 : decode cX4_cancel 48 = .ok (.iconst 1, 1) := by decide +kernel
theorem dX4_cancel_49 : decode cX4_cancel 49 = .ok (.bastore, 1) := by decide +kernel
theorem dX4_cancel_50 : decode cX4_cancel 50 = .ok (.return_, 1) := by decide +kernel
set_option maxRecDepth 20000 in
theorem ggX4_sick_X4_isPerson : GoodIn wsX4_sick wsX4_isPerson := goodIn_r _ [10, 11, 12, 13, 9, 14, 24, 25, 26, 27, 28, 29, 30, 31, 32, 33, 34, 35, 36, 37, 38, 39, 40, 41, 42, 43, 44, 45, 46, 47, 48, 49, 50, 51, 52, 53] (by decide +kernel) (by decide +kernel)
set_option maxRecDepth 20000 in
theorem gX4_sick_X4_isPerson : GoodIn wsX4_sick (wsV RX4 142 RX4 yX4_isPerson wsX4_isPerson) := goodIn_app (goodIn_of _ (by decide +kernel)) ggX4_sick_X4_isPerson
set_option maxRecDepth 20000 in
theorem ggX4_sick_X4_fails : GoodIn wsX4_sick wsX4_fails := goodIn_r _ [18, 1, 24, 25, 26, 27, 28, 29, 30, 31, 32, 33, 34, 35, 36, 37, 38, 39, 40, 41, 42, 43, 44, 45, 46, 47, 48, 49, 50, 51, 52, 53] (by decide +kernel) (by decide +kernel)
set_option maxRecDepth 20000 in
theorem gX4_sick_X4_fails : GoodIn wsX4_sick (wsV RX4 136 RX4 yX4_fails wsX4_fails) := goodIn_app (goodIn_of _ (by decide +kernel)) ggX4_sick_X4_fails
set_option maxRecDepth 20000 in
theorem ggX4_sick_X4_areDays : GoodIn wsX4_sick wsX4_areDays := goodIn_r _ [22, 23, 12, 13, 9, 14, 24, 25, 26, 27, 28, 29, 30, 31, 32, 33, 34, 35, 36, 37, 38, 39, 40, 41, 42, 43, 44, 45, 46, 47, 48, 49, 50, 51, 52, 53] (by decide +kernel) (by decide +kernel)
set_option maxRecDepth 20000 in
theorem gX4_sick_X4_areDays : GoodIn wsX4_sick (wsV RX4 145 RX4 yX4_areDays wsX4_areDays) := goodIn_app (goodIn_of _ (by decide +kernel)) ggX4_sick_X4_areDays
theorem dX4_sick_0 : decode cX4_sick 0 = .ok (.aload_n 0, 1) := by decide +kernel
theorem dX4_sick_1 : decode cX4_sick 1 = .ok (.iconst 0, 1) := by decide +kernel
theorem dX4_sick_2 : decode cX4_sick 2 = .ok (.putfield 65, 3) := by decide +kernel
theorem dX4_sick_5 : decode cX4_sick 5 = .ok (.aload_n 0, 1) := by decide +kernel
theorem dX4_sick_6 : decode cX4_sick 6 = .ok (.iload_n 1, 1) := by decide +kernel
theorem dX4_sick_7 : decode cX4_sick 7 = .ok (.invokevirtual 142, 3) := by decide +kernel
theorem dX4_sick_10 : decode cX4_sick 10 = .ok (.ifCond .ne 9, 3) := by decide +kernel
theorem dX4_sick_13 : decode cX4_sick 13 = .ok (.aload_n 0, 1) := by decide +kernel
theorem dX4_sick_14 : decode cX4_sick 14 = .ok (.iconst 1, 1) := by decide +kernel
theorem dX4_sick_15 : decode cX4_sick 15 = .ok (.invokevirtual 136, 3) := by decide +kernel
theorem dX4_sick_18 : decode cX4_sick 18 = .ok (.ireturn, 1) := by decide +kernel
theorem dX4_sick_19 : decode cX4_sick 19 = .ok (.aload_n 0, 1) := by decide +kernel
theorem dX4_sick_20 : decode cX4_sick 20 = .ok (.iload_n 1, 1) := by decide +kernel
theorem dX4_sick_21 : decode cX4_sick 21 = .ok (.iload_n 2, 1) := by decide +kernel
theorem dX4_sick_22 : decode cX4_sick 22 = .ok (.iload_n 3, 1) := by decide +kernel
theorem dX4_sick_23 : decode cX4_sick 23 = .ok (.invokevirtual 145, 3) := by decide +kernel
theorem dX4_sick_26 : decode cX4_sick 26 = .ok (.ifCond .ne 9, 3) := by decide +kernel
theorem dX4_sick_29 : decode cX4_sick 29 = .ok (.aload_n 0, 1) := by decide +kernel
theorem dX4_sick_30 : decode cX4_sick 30 = .ok (.iconst 2, 1) := by decide +kernel
theorem dX4_sick_31 : decode cX4_sick 31 = .ok (.invokevirtual 136, 3) := by decide +kernel
theorem dX4_sick_34 : decode cX4_sick 34 = .ok (.ireturn, 1) := by decide +kernel
theorem dX4_sick_35 : decode cX4_sick 35 = .ok (.aload_n 0, 1) := by decide +kernel
theorem dX4_sick_36 : decode cX4_sick 36 = .ok (.getfield 76, 3) := by decide +kernel
theorem dX4_sick_39 : decode cX4_sick 39 = .ok (.bipush 30, 2) := by decide +kernel
theorem dX4_sick_41 : decode cX4_sick 41 = .ok (.if_icmp .ne 9, 3) := by decide +kernel
theorem dX4_sick_44 : decode cX4_sick 44 = .ok (.aload_n 0, 1) := by decide +kernel
theorem dX4_sick_45 : decode cX4_sick 45 = .ok (.iconst 3, 1) := by decide +kernel
theorem dX4_sick_46 : decode cX4_sick 46 = .ok (.invokevirtual 136, 3) := by decide +kernel
theorem dX4_sick_49 : decode cX4_sick 49 = .ok (.ireturn, 1) := by decide +kernel
theorem dX4_sick_50 : decode cX4_sick 50 = .ok (.aload_n 0, 1) := by decide +kernel
theorem dX4_sick_51 : decode cX4_sick 51 = .ok (.getfield 44, 3) := by decide +kernel
theorem dX4_sick_54 : decode cX4_sick 54 = .ok (.aload_n 0, 1) := by decide +kernel
theorem dX4_sick_55 : decode cX4_sick 55 = .ok (.getfield 76, 3) := by decide +kernel
theorem dX4_sick_58 : decode cX4_sick 58 = .ok (.iload_n 1, 1) := by decide +kernel
theorem dX4_sick_59 : decode cX4_sick 59 = .ok (.iastore, 1) := by decide +kernel
theorem dX4_sick_60 : decode cX4_sick 60 = .ok (.aload_n 0, 1) := by decide +kernel
theorem dX4_sick_61 : decode cX4_sick 61 = .ok (.getfield 47, 3) := by decide +kernel
theorem dX4_sick_64 : decode cX4_sick 64 = .ok (.aload_n 0, 1) := by decide +kernel
theorem dX4_sick_65 : decode cX4_sick 65 = .ok (.getfield 76, 3) := by decide +kernel
theorem dX4_sick_68 : decode cX4_sick 68 = .ok (.iload_n 2, 1) := by decide +kernel
theorem dX4_sick_69 : decode cX4_sick 69 = .ok (.iastore, 1) := by decide +kernel
theorem dX4_sick_70 : decode cX4_sick 70 = .ok (.aload_n 0, 1) := by decide +kernel
theorem dX4_sick_71 : decode cX4_sick 71 = .ok (.getfield 50, 3) := by decide +kernel
theorem dX4_sick_74 : decode cX4_sick 74 = .ok (.aload_n 0, 1) := by decide +kernel
theorem dX4_sick_75 : decode cX4_sick 75 = .ok (.getfield 76, 3) := by decide +kernel
theorem dX4_sick_78 : decode cX4_sick 78 = .ok (.iload_n 3, 1) := by decide +kernel
theorem dX4_sick_79 : decode cX4_sick 79 = .ok (.iastore, 1) := by decide +kernel
theorem dX4_sick_80 : decode cX4_sick 80 = .ok (.aload_n 0, 1) := by decide +kernel
theorem dX4_sick_81 : decode cX4_sick 81 = .ok (.dup, 1) := by decide +kernel
theorem dX4_sick_82 : decode cX4_sick 82 = .ok (.getfield 76, 3) := by decide +kernel
theorem dX4_sick_85 : decode cX4_sick 85 = .ok (.iconst 1, 1) := by decide +kernel
theorem dX4_sick_86 : decode cX4_sick 86 = .ok (.iadd, 1) := by decide +kernel
theorem dX4_sick_87 : decode cX4_sick 87 = .ok (.putfield 76, 3) := by decide +kernel
theorem dX4_sick_90 : decode cX4_sick 90 = .ok (.aload_n 0, 1) := by decide +kernel
theorem dX4_sick_91 : decode cX4_sick 91 = .ok (.getfield 76, 3) := by decide +kernel
theorem dX4_sick_94 : decode cX4_sick 94 = .ok (.ireturn, 1) := by decide +kernel
set_option maxRecDepth 20000 in
theorem ggX4_payOut_X4_isPerson : GoodIn wsX4_payOut wsX4_isPerson := goodIn_r _ [11, 12, 13, 14, 10, 15, 82, 83, 84, 85, 86, 87, 88, 89, 90, 91, 92, 93, 94, 95, 96, 97, 98, 99, 100, 101, 102, 103, 104, 105, 106, 107, 108, 109, 110, 111] (by decide +kernel) (by decide +kernel)
set_option maxRecDepth 20000 in
theorem gX4_payOut_X4_isPerson : GoodIn wsX4_payOut (wsV RX4 142 RX4 yX4_isPerson wsX4_isPerson) := goodIn_app (goodIn_of _ (by decide +kernel)) ggX4_payOut_X4_isPerson
set_option maxRecDepth 20000 in
theorem ggX4_payOut_X4_fails : GoodIn wsX4_payOut wsX4_fails := goodIn_r _ [19, 1, 82, 83, 84, 85, 86, 87, 88, 89, 90, 91, 92, 93, 94, 95, 96, 97, 98, 99, 100, 101, 102, 103, 104, 105, 106, 107, 108, 109, 110, 111] (by decide +kernel) (by decide +kernel)
set_option maxRecDepth 20000 in
theorem gX4_payOut_X4_fails : GoodIn wsX4_payOut (wsV RX4 136 RX4 yX4_fails wsX4_fails) := goodIn_app (goodIn_of _ (by decide +kernel)) ggX4_payOut_X4_fails
set_option maxRecDepth 20000 in
theorem ggX4_payOut_X4_in : GoodIn wsX4_payOut wsX4_in := goodIn_r _ [15] (by decide +kernel) (by decide +kernel)
set_option maxRecDepth 20000 in
theorem gX4_payOut_X4_in : GoodIn wsX4_payOut (va_wsS RX4 72 yX4_in wsX4_in) := goodIn_app (goodIn_of _ (by decide +kernel)) ggX4_payOut_X4_in
set_option maxRecDepth 20000 in
theorem ggX4_payOut_X4_goes : GoodIn wsX4_payOut wsX4_goes := goodIn_r _ [23, 24, 25, 26, 27, 28, 29, 30, 31, 32, 33, 34, 10, 35, 3, 4, 5, 6, 36, 37, 38, 39, 40, 41, 42, 43, 44, 45, 46, 47, 48, 49, 50, 51, 52, 53, 54, 55, 56, 57, 58, 59, 60, 61, 62, 13, 14, 15, 63, 64, 65, 66, 67, 68, 69, 70, 71, 72, 73, 74, 75, 76, 77, 78, 79, 80, 81, 82, 83, 84, 85, 86, 87, 88, 89, 90, 91, 92, 93, 94, 95, 96, 97, 98, 99, 100, 101, 102, 103, 104, 105, 106, 107, 108, 109, 110, 111] (by decide +kernel) (by decide +kernel)
set_option maxRecDepth 20000 in
theorem gX4_payOut_X4_goes : GoodIn wsX4_payOut (wsV RX4 148 RX4 yX4_goes wsX4_goes) := goodIn_app (goodIn_of _ (by decide +kernel)) ggX4_payOut_X4_goes
set_option maxRecDepth 20000 in
theorem ggX4_payOut_X4_inPools : GoodIn wsX4_payOut wsX4_inPools := goodIn_r _ [77, 24, 82, 83, 84, 85, 86, 87, 88, 89, 90, 91, 92, 93, 94, 95, 96, 97, 98, 99, 100, 101, 102, 103, 104, 105, 106, 107, 108, 109, 110, 111] (by decide +kernel) (by decide +kernel)
set_option maxRecDepth 20000 in
theorem gX4_payOut_X4_inPools : GoodIn wsX4_payOut (wsV RX4 103 RX4 yX4_inPools wsX4_inPools) := goodIn_app (goodIn_of _ (by decide +kernel)) ggX4_payOut_X4_inPools
theorem dX4_payOut_0 : decode cX4_payOut 0 = .ok (.aload_n 0, 1) := by decide +kernel
theorem dX4_payOut_1 : decode cX4_payOut 1 = .ok (.iconst 0, 1) := by decide +kernel
theorem dX4_payOut_2 : decode cX4_payOut 2 = .ok (.putfield 65, 3) := by decide +kernel
theorem dX4_payOut_5 : decode cX4_payOut 5 = .ok (.aload_n 0, 1) := by decide +kernel
theorem dX4_payOut_6 : decode cX4_payOut 6 = .ok (.iload_n 1, 1) := by decide +kernel
theorem dX4_payOut_7 : decode cX4_payOut 7 = .ok (.invokevirtual 142, 3) := by decide +kernel
theorem dX4_payOut_10 : decode cX4_payOut 10 = .ok (.ifCond .ne 9, 3) := by decide +kernel
theorem dX4_payOut_13 : decode cX4_payOut 13 = .ok (.aload_n 0, 1) := by decide +kernel
theorem dX4_payOut_14 : decode cX4_payOut 14 = .ok (.iconst 1, 1) := by decide +kernel
theorem dX4_payOut_15 : decode cX4_payOut 15 = .ok (.invokevirtual 136, 3) := by decide +kernel
theorem dX4_payOut_18 : decode cX4_payOut 18 = .ok (.ireturn, 1) := by decide +kernel
theorem dX4_payOut_19 : decode cX4_payOut 19 = .ok (.iload_n 2, 1) := by decide +kernel
theorem dX4_payOut_20 : decode cX4_payOut 20 = .ok (.iconst 1, 1) := by decide +kernel
theorem dX4_payOut_21 : decode cX4_payOut 21 = .ok (.sipush 20000, 3) := by decide +kernel
theorem dX4_payOut_24 : decode cX4_payOut 24 = .ok (.invokestatic 72, 3) := by decide +kernel
theorem dX4_payOut_27 : decode cX4_payOut 27 = .ok (.ifCond .ne 9, 3) := by decide +kernel
theorem dX4_payOut_30 : decode cX4_payOut 30 = .ok (.aload_n 0, 1) := by decide +kernel
theorem dX4_payOut_31 : decode cX4_payOut 31 = .ok (.iconst 2, 1) := by decide +kernel
theorem dX4_payOut_32 : decode cX4_payOut 32 = .ok (.invokevirtual 136, 3) := by decide +kernel
theorem dX4_payOut_35 : decode cX4_payOut 35 = .ok (.ireturn, 1) := by decide +kernel
theorem dX4_payOut_36 : decode cX4_payOut 36 = .ok (.aload_n 0, 1) := by decide +kernel
theorem dX4_payOut_37 : decode cX4_payOut 37 = .ok (.iload_n 1, 1) := by decide +kernel
theorem dX4_payOut_38 : decode cX4_payOut 38 = .ok (.aload_n 0, 1) := by decide +kernel
theorem dX4_payOut_39 : decode cX4_payOut 39 = .ok (.getfield 139, 3) := by decide +kernel
theorem dX4_payOut_42 : decode cX4_payOut 42 = .ok (.invokevirtual 148, 3) := by decide +kernel
theorem dX4_payOut_45 : decode cX4_payOut 45 = .ok (.aload_n 0, 1) := by decide +kernel
theorem dX4_payOut_46 : decode cX4_payOut 46 = .ok (.getfield 127, 3) := by decide +kernel
theorem dX4_payOut_49 : decode cX4_payOut 49 = .ok (.bipush 20, 2) := by decide +kernel
theorem dX4_payOut_51 : decode cX4_payOut 51 = .ok (.if_icmp .eq 11, 3) := by decide +kernel
theorem dX4_payOut_54 : decode cX4_payOut 54 = .ok (.aload_n 0, 1) := by decide +kernel
theorem dX4_payOut_55 : decode cX4_payOut 55 = .ok (.invokevirtual 103, 3) := by decide +kernel
theorem dX4_payOut_58 : decode cX4_payOut 58 = .ok (.iload_n 2, 1) := by decide +kernel
theorem dX4_payOut_59 : decode cX4_payOut 59 = .ok (.if_icmp .ge 9, 3) := by decide +kernel
theorem dX4_payOut_62 : decode cX4_payOut 62 = .ok (.aload_n 0, 1) := by decide +kernel
theorem dX4_payOut_63 : decode cX4_payOut 63 = .ok (.iconst 3, 1) := by decide +kernel
theorem dX4_payOut_64 : decode cX4_payOut 64 = .ok (.invokevirtual 136, 3) := by decide +kernel
theorem dX4_payOut_67 : decode cX4_payOut 67 = .ok (.ireturn, 1) := by decide +kernel
theorem dX4_payOut_68 : decode cX4_payOut 68 = .ok (.aload_n 0, 1) := by decide +kernel
theorem dX4_payOut_69 : decode cX4_payOut 69 = .ok (.getfield 53, 3) := by decide +kernel
theorem dX4_payOut_72 : decode cX4_payOut 72 = .ok (.aload_n 0, 1) := by decide +kernel
theorem dX4_payOut_73 : decode cX4_payOut 73 = .ok (.getfield 127, 3) := by decide +kernel
theorem dX4_payOut_76 : decode cX4_payOut 76 = .ok (.iload_n 1, 1) := by decide +kernel
theorem dX4_payOut_77 : decode cX4_payOut 77 = .ok (.iastore, 1) := by decide +kernel
theorem dX4_payOut_78 : decode cX4_payOut 78 = .ok (.aload_n 0, 1) := by decide +kernel
theorem dX4_payOut_79 : decode cX4_payOut 79 = .ok (.getfield 56, 3) := by decide +kernel
theorem dX4_payOut_82 : decode cX4_payOut 82 = .ok (.aload_n 0, 1) := by decide +kernel
theorem dX4_payOut_83 : decode cX4_payOut 83 = .ok (.getfield 127, 3) := by decide +kernel
theorem dX4_payOut_86 : decode cX4_payOut 86 = .ok (.aload_n 0, 1) := by decide +kernel
theorem dX4_payOut_87 : decode cX4_payOut 87 = .ok (.getfield 139, 3) := by decide +kernel
theorem dX4_payOut_90 : decode cX4_payOut 90 = .ok (.iastore, 1) := by decide +kernel
theorem dX4_payOut_91 : decode cX4_payOut 91 = .ok (.aload_n 0, 1) := by decide +kernel
theorem dX4_payOut_92 : decode cX4_payOut 92 = .ok (.getfield 59, 3) := by decide +kernel
theorem dX4_payOut_95 : decode cX4_payOut 95 = .ok (.aload_n 0, 1) := by decide +kernel
theorem dX4_payOut_96 : decode cX4_payOut 96 = .ok (.getfield 127, 3) := by decide +kernel
theorem dX4_payOut_99 : decode cX4_payOut 99 = .ok (.iload_n 2, 1) := by decide +kernel
theorem dX4_payOut_100 : decode cX4_payOut 100 = .ok (.iastore, 1) := by decide +kernel
theorem dX4_payOut_101 : decode cX4_payOut 101 = .ok (.aload_n 0, 1) := by decide +kernel
theorem dX4_payOut_102 : decode cX4_payOut 102 = .ok (.dup, 1) := by decide +kernel
theorem dX4_payOut_103 : decode cX4_payOut 103 = .ok (.getfield 127, 3) := by decide +kernel
theorem dX4_payOut_106 : decode cX4_payOut 106 = .ok (.iconst 1, 1) := by decide +kernel
theorem dX4_payOut_107 : decode cX4_payOut 107 = .ok (.iadd, 1) := by decide +kernel
theorem dX4_payOut_108 : decode cX4_payOut 108 = .ok (.putfield 127, 3) := by decide +kernel
theorem dX4_payOut_111 : decode cX4_payOut 111 = .ok (.aload_n 0, 1) := by decide +kernel
theorem dX4_payOut_112 : decode cX4_payOut 112 = .ok (.getfield 127, 3) := by decide +kernel
theorem dX4_payOut_115 : decode cX4_payOut 115 = .ok (.iconst 1, 1) := by decide +kernel
theorem dX4_payOut_116 : decode cX4_payOut 116 = .ok (.isub, 1) := by decide +kernel
theorem dX4_payOut_117 : decode cX4_payOut 117 = .ok (.ireturn, 1) := by decide +kernel
set_option maxRecDepth 20000 in
theorem ggX4_pass_X4_in : GoodIn wsX4_pass wsX4_in := goodIn_r _ [6] (by decide +kernel) (by decide +kernel)
set_option maxRecDepth 20000 in
theorem gX4_pass_X4_in : GoodIn wsX4_pass (va_wsS RX4 72 yX4_in wsX4_in) := goodIn_app (goodIn_of _ (by decide +kernel)) ggX4_pass_X4_in
set_option maxRecDepth 20000 in
theorem ggX4_pass_X4_fails : GoodIn wsX4_pass wsX4_fails := goodIn_r _ [10, 1, 11, 12, 13, 14, 15, 16, 17, 18, 19, 20, 21, 22, 23, 24, 25, 26, 27, 28, 29, 30, 31, 32, 33, 34, 35, 36, 37, 38, 39, 40] (by decide +kernel) (by decide +kernel)
set_option maxRecDepth 20000 in
theorem gX4_pass_X4_fails : GoodIn wsX4_pass (wsV RX4 136 RX4 yX4_fails wsX4_fails) := goodIn_app (goodIn_of _ (by decide +kernel)) ggX4_pass_X4_fails
theorem dX4_pass_0 : decode cX4_pass 0 = .ok (.aload_n 0, 1) := by decide +kernel
theorem dX4_pass_1 : decode cX4_pass 1 = .ok (.iconst 0, 1) := by decide +kernel
theorem dX4_pass_2 : decode cX4_pass 2 = .ok (.putfield 65, 3) := by decide +kernel
theorem dX4_pass_5 : decode cX4_pass 5 = .ok (.iload_n 1, 1) := by decide +kernel
theorem dX4_pass_6 : decode cX4_pass 6 = .ok (.iconst 1, 1) := by decide +kernel
theorem dX4_pass_7 : decode cX4_pass 7 = .ok (.sipush 400, 3) := by decide +kernel
theorem dX4_pass_10 : decode cX4_pass 10 = .ok (.invokestatic 72, 3) := by decide +kernel
theorem dX4_pass_13 : decode cX4_pass 13 = .ok (.ifCond .ne 9, 3) := by decide +kernel
theorem dX4_pass_16 : decode cX4_pass 16 = .ok (.aload_n 0, 1) := by decide +kernel
theorem dX4_pass_17 : decode cX4_pass 17 = .ok (.iconst 1, 1) := by decide +kernel
theorem dX4_pass_18 : decode cX4_pass 18 = .ok (.invokevirtual 136, 3) := by decide +kernel
theorem dX4_pass_21 : decode cX4_pass 21 = .ok (.ireturn, 1) := by decide +kernel
theorem dX4_pass_22 : decode cX4_pass 22 = .ok (.aload_n 0, 1) := by decide +kernel
theorem dX4_pass_23 : decode cX4_pass 23 = .ok (.getfield 139, 3) := by decide +kernel
theorem dX4_pass_26 : decode cX4_pass 26 = .ok (.iload_n 1, 1) := by decide +kernel
theorem dX4_pass_27 : decode cX4_pass 27 = .ok (.iadd, 1) := by decide +kernel
theorem dX4_pass_28 : decode cX4_pass 28 = .ok (.sipush 3600, 3) := by decide +kernel
theorem dX4_pass_31 : decode cX4_pass 31 = .ok (.if_icmp .le 9, 3) := by decide +kernel
theorem dX4_pass_34 : decode cX4_pass 34 = .ok (.aload_n 0, 1) := by decide +kernel
theorem dX4_pass_35 : decode cX4_pass 35 = .ok (.iconst 2, 1) := by decide +kernel
theorem dX4_pass_36 : decode cX4_pass 36 = .ok (.invokevirtual 136, 3) := by decide +kernel
theorem dX4_pass_39 : decode cX4_pass 39 = .ok (.ireturn, 1) := by decide +kernel
theorem dX4_pass_40 : decode cX4_pass 40 = .ok (.aload_n 0, 1) := by decide +kernel
theorem dX4_pass_41 : decode cX4_pass 41 = .ok (.dup, 1) := by decide +kernel
theorem dX4_pass_42 : decode cX4_pass 42 = .ok (.getfield 139, 3) := by decide +kernel
theorem dX4_pass_45 : decode cX4_pass 45 = .ok (.iload_n 1, 1) := by decide +kernel
theorem dX4_pass_46 : decode cX4_pass 46 = .ok (.iadd, 1) := by decide +kernel
theorem dX4_pass_47 : decode cX4_pass 47 = .ok (.putfield 139, 3) := by decide +kernel
theorem dX4_pass_50 : decode cX4_pass 50 = .ok (.aload_n 0, 1) := by decide +kernel
theorem dX4_pass_51 : decode cX4_pass 51 = .ok (.getfield 139, 3) := by decide +kernel
theorem dX4_pass_54 : decode cX4_pass 54 = .ok (.ireturn, 1) := by decide +kernel
theorem dX4_today_0 : decode cX4_today 0 = .ok (.aload_n 0, 1) := by decide +kernel
theorem dX4_today_1 : decode cX4_today 1 = .ok (.iconst 0, 1) := by decide +kernel
theorem dX4_today_2 : decode cX4_today 2 = .ok (.putfield 65, 3) := by decide +kernel
theorem dX4_today_5 : decode cX4_today 5 = .ok (.aload_n 0, 1) := by decide +kernel
theorem dX4_today_6 : decode cX4_today 6 = .ok (.getfield 139, 3) := by decide +kernel
theorem dX4_today_9 : decode cX4_today 9 = .ok (.ireturn, 1) := by decide +kernel
theorem dX4_people_0 : decode cX4_people 0 = .ok (.aload_n 0, 1) := by decide +kernel
theorem dX4_people_1 : decode cX4_people 1 = .ok (.iconst 0, 1) := by decide +kernel
theorem dX4_people_2 : decode cX4_people 2 = .ok (.putfield 65, 3) := by decide +kernel
theorem dX4_people_5 : decode cX4_people 5 = .ok (.aload_n 0, 1) := by decide +kernel
theorem dX4_people_6 : decode cX4_people 6 = .ok (.getfield 69, 3) := by decide +kernel
theorem dX4_people_9 : decode cX4_people 9 = .ok (.ireturn, 1) := by decide +kernel
set_option maxRecDepth 20000 in
theorem ggX4_workingDays_X4_in : GoodIn wsX4_workingDays wsX4_in := goodIn_r _ [5] (by decide +kernel) (by decide +kernel)
set_option maxRecDepth 20000 in
theorem gX4_workingDays_X4_in : GoodIn wsX4_workingDays (va_wsS RX4 72 yX4_in wsX4_in) := goodIn_app (goodIn_of _ (by decide +kernel)) ggX4_workingDays_X4_in
set_option maxRecDepth 20000 in
theorem ggX4_workingDays_X4_fails : GoodIn wsX4_workingDays wsX4_fails := goodIn_r _ [9, 1, 13, 14, 15, 16, 17, 18, 19, 20, 21, 22, 23, 24, 25, 26, 27, 28, 29, 30, 31, 32, 33, 34, 35, 36, 37, 38, 39, 40, 41, 42] (by decide +kernel) (by decide +kernel)
set_option maxRecDepth 20000 in
theorem gX4_workingDays_X4_fails : GoodIn wsX4_workingDays (wsV RX4 136 RX4 yX4_fails wsX4_fails) := goodIn_app (goodIn_of _ (by decide +kernel)) ggX4_workingDays_X4_fails
set_option maxRecDepth 20000 in
theorem ggX4_workingDays_X4_isWorking : GoodIn wsX4_workingDays wsX4_isWorking := goodIn_r _ [12] (by decide +kernel) (by decide +kernel)
set_option maxRecDepth 20000 in
theorem gX4_workingDays_X4_isWorking : GoodIn wsX4_workingDays (va_wsS RX4 82 yX4_isWorking wsX4_isWorking) := goodIn_app (goodIn_of _ (by decide +kernel)) ggX4_workingDays_X4_isWorking
theorem dX4_workingDays_0 : decode cX4_workingDays 0 = .ok (.aload_n 0, 1) := by decide +kernel
theorem dX4_workingDays_1 : decode cX4_workingDays 1 = .ok (.iconst 0, 1) := by decide +kernel
theorem dX4_workingDays_2 : decode cX4_workingDays 2 = .ok (.putfield 65, 3) := by decide +kernel
theorem dX4_workingDays_5 : decode cX4_workingDays 5 = .ok (.iload_n 1, 1) := by decide +kernel
theorem dX4_workingDays_6 : decode cX4_workingDays 6 = .ok (.iconst 0, 1) := by decide +kernel
theorem dX4_workingDays_7 : decode cX4_workingDays 7 = .ok (.sipush 3600, 3) := by decide +kernel
theorem dX4_workingDays_10 : decode cX4_workingDays 10 = .ok (.invokestatic 72, 3) := by decide +kernel
theorem dX4_workingDays_13 : decode cX4_workingDays 13 = .ok (.ifCond .eq 14, 3) := by decide +kernel
theorem dX4_workingDays_16 : decode cX4_workingDays 16 = .ok (.iload_n 2, 1) := by decide +kernel
theorem dX4_workingDays_17 : decode cX4_workingDays 17 = .ok (.iload_n 1, 1) := by decide +kernel
theorem dX4_workingDays_18 : decode cX4_workingDays 18 = .ok (.sipush 3600, 3) := by decide +kernel
theorem dX4_workingDays_21 : decode cX4_workingDays 21 = .ok (.invokestatic 72, 3) := by decide +kernel
theorem dX4_workingDays_24 : decode cX4_workingDays 24 = .ok (.ifCond .ne 9, 3) := by decide +kernel
theorem dX4_workingDays_27 : decode cX4_workingDays 27 = .ok (.aload_n 0, 1) := by decide +kernel
theorem dX4_workingDays_28 : decode cX4_workingDays 28 = .ok (.iconst 1, 1) := by decide +kernel
theorem dX4_workingDays_29 : decode cX4_workingDays 29 = .ok (.invokevirtual 136, 3) := by decide +kernel
theorem dX4_workingDays_32 : decode cX4_workingDays 32 = .ok (.ireturn, 1) := by decide +kernel
theorem dX4_workingDays_33 : decode cX4_workingDays 33 = .ok (.iconst 0, 1) := by decide +kernel
theorem dX4_workingDays_34 : decode cX4_workingDays 34 = .ok (.istore_n 3, 1) := by decide +kernel
theorem dX4_workingDays_35 : decode cX4_workingDays 35 = .ok (.iload_n 1, 1) := by decide +kernel
theorem dX4_workingDays_36 : decode cX4_workingDays 36 = .ok (.istore 4, 2) := by decide +kernel
theorem dX4_workingDays_38 : decode cX4_workingDays 38 = .ok (.iload 4, 2) := by decide +kernel
theorem dX4_workingDays_40 : decode cX4_workingDays 40 = .ok (.iload_n 2, 1) := by decide +kernel
theorem dX4_workingDays_41 : decode cX4_workingDays 41 = .ok (.if_icmp .gt 25, 3) := by decide +kernel
theorem dX4_workingDays_44 : decode cX4_workingDays 44 = .ok (.iload_n 3, 1) := by decide +kernel
theorem dX4_workingDays_45 : decode cX4_workingDays 45 = .ok (.iload 4, 2) := by decide +kernel
theorem dX4_workingDays_47 : decode cX4_workingDays 47 = .ok (.invokestatic 82, 3) := by decide +kernel
theorem dX4_workingDays_50 : decode cX4_workingDays 50 = .ok (.ifCond .eq 7, 3) := by decide +kernel
theorem dX4_workingDays_53 : decode cX4_workingDays 53 = .ok (.iconst 1, 1) := by decide +kernel
theorem dX4_workingDays_54 : decode cX4_workingDays 54 = .ok (.goto 4, 3) := by decide +kernel
theorem dX4_workingDays_57 : decode cX4_workingDays 57 = .ok (.iconst 0, 1) := by decide +kernel
theorem dX4_workingDays_58 : decode cX4_workingDays 58 = .ok (.iadd, 1) := by decide +kernel
theorem dX4_workingDays_59 : decode cX4_workingDays 59 = .ok (.istore_n 3, 1) := by decide +kernel
theorem dX4_workingDays_60 : decode cX4_workingDays 60 = .ok (.iinc 4 1, 3) := by decide +kernel
theorem dX4_workingDays_63 : decode cX4_workingDays 63 = .ok (.goto (-25), 3) := by decide +kernel
theorem dX4_workingDays_66 : decode cX4_workingDays 66 = .ok (.iload_n 3, 1) := by decide +kernel
theorem dX4_workingDays_67 : decode cX4_workingDays 67 = .ok (.ireturn, 1) := by decide +kernel
set_option maxRecDepth 20000 in
theorem ggX4_hours_X4_isPerson : GoodIn wsX4_hours wsX4_isPerson := goodIn_r _ [7, 8, 9, 10, 6, 11, 24, 25, 26, 27, 28, 29, 30, 31, 32, 33, 34, 35, 36, 37, 38, 39, 40, 41, 42, 43, 44, 45, 46, 47, 48, 49, 50, 51, 52, 53] (by decide +kernel) (by decide +kernel)
set_option maxRecDepth 20000 in
theorem gX4_hours_X4_isPerson : GoodIn wsX4_hours (wsV RX4 142 RX4 yX4_isPerson wsX4_isPerson) := goodIn_app (goodIn_of _ (by decide +kernel)) ggX4_hours_X4_isPerson
set_option maxRecDepth 20000 in
theorem ggX4_hours_X4_fails : GoodIn wsX4_hours wsX4_fails := goodIn_r _ [15, 1, 24, 25, 26, 27, 28, 29, 30, 31, 32, 33, 34, 35, 36, 37, 38, 39, 40, 41, 42, 43, 44, 45, 46, 47, 48, 49, 50, 51, 52, 53] (by decide +kernel) (by decide +kernel)
set_option maxRecDepth 20000 in
theorem gX4_hours_X4_fails : GoodIn wsX4_hours (wsV RX4 136 RX4 yX4_fails wsX4_fails) := goodIn_app (goodIn_of _ (by decide +kernel)) ggX4_hours_X4_fails
set_option maxRecDepth 20000 in
theorem ggX4_hours_X4_in : GoodIn wsX4_hours wsX4_in := goodIn_r _ [11] (by decide +kernel) (by decide +kernel)
set_option maxRecDepth 20000 in
theorem gX4_hours_X4_in : GoodIn wsX4_hours (va_wsS RX4 72 yX4_in wsX4_in) := goodIn_app (goodIn_of _ (by decide +kernel)) ggX4_hours_X4_in
set_option maxRecDepth 20000 in
theorem ggX4_hours_X4_hoursOn : GoodIn wsX4_hours wsX4_hoursOn := goodIn_r _ [19, 20, 21, 22, 23, 24, 25, 26, 27, 28, 29, 30, 31, 32, 33, 34, 35, 36, 37, 38, 39, 40, 41, 42, 43, 44, 45, 46, 47, 48, 49, 50, 51, 52, 53] (by decide +kernel) (by decide +kernel)
set_option maxRecDepth 20000 in
theorem gX4_hours_X4_hoursOn : GoodIn wsX4_hours (wsV RX4 90 RX4 yX4_hoursOn wsX4_hoursOn) := goodIn_app (goodIn_of _ (by decide +kernel)) ggX4_hours_X4_hoursOn
theorem dX4_hours_0 : decode cX4_hours 0 = .ok (.aload_n 0, 1) := by decide +kernel
theorem dX4_hours_1 : decode cX4_hours 1 = .ok (.iconst 0, 1) := by decide +kernel
theorem dX4_hours_2 : decode cX4_hours 2 = .ok (.putfield 65, 3) := by decide +kernel
theorem dX4_hours_5 : decode cX4_hours 5 = .ok (.aload_n 0, 1) := by decide +kernel
theorem dX4_hours_6 : decode cX4_hours 6 = .ok (.iload_n 1, 1) := by decide +kernel
theorem dX4_hours_7 : decode cX4_hours 7 = .ok (.invokevirtual 142, 3) := by decide +kernel
theorem dX4_hours_10 : decode cX4_hours 10 = .ok (.ifCond .ne 9, 3) := by decide +kernel
theorem dX4_hours_13 : decode cX4_hours 13 = .ok (.aload_n 0, 1) := by decide +kernel
theorem dX4_hours_14 : decode cX4_hours 14 = .ok (.iconst 1, 1) := by decide +kernel
theorem dX4_hours_15 : decode cX4_hours 15 = .ok (.invokevirtual 136, 3) := by decide +kernel
theorem dX4_hours_18 : decode cX4_hours 18 = .ok (.ireturn, 1) := by decide +kernel
theorem dX4_hours_19 : decode cX4_hours 19 = .ok (.iload_n 2, 1) := by decide +kernel
theorem dX4_hours_20 : decode cX4_hours 20 = .ok (.aload_n 0, 1) := by decide +kernel
theorem dX4_hours_21 : decode cX4_hours 21 = .ok (.getfield 7, 3) := by decide +kernel
theorem dX4_hours_24 : decode cX4_hours 24 = .ok (.iload_n 1, 1) := by decide +kernel
theorem dX4_hours_25 : decode cX4_hours 25 = .ok (.iaload, 1) := by decide +kernel
theorem dX4_hours_26 : decode cX4_hours 26 = .ok (.sipush 3600, 3) := by decide +kernel
theorem dX4_hours_29 : decode cX4_hours 29 = .ok (.invokestatic 72, 3) := by decide +kernel
theorem dX4_hours_32 : decode cX4_hours 32 = .ok (.ifCond .eq 12, 3) := by decide +kernel
theorem dX4_hours_35 : decode cX4_hours 35 = .ok (.aload_n 0, 1) := by decide +kernel
theorem dX4_hours_36 : decode cX4_hours 36 = .ok (.iload_n 1, 1) := by decide +kernel
theorem dX4_hours_37 : decode cX4_hours 37 = .ok (.iload_n 2, 1) := by decide +kernel
theorem dX4_hours_38 : decode cX4_hours 38 = .ok (.invokevirtual 90, 3) := by decide +kernel
theorem dX4_hours_41 : decode cX4_hours 41 = .ok (.goto 8, 3) := by decide +kernel
theorem dX4_hours_44 : decode cX4_hours 44 = .ok (.aload_n 0, 1) := by decide +kernel
theorem dX4_hours_45 : decode cX4_hours 45 = .ok (.iconst 2, 1) := by decide +kernel
theorem dX4_hours_46 : decode cX4_hours 46 = .ok (.invokevirtual 136, 3) := by decide +kernel
theorem dX4_hours_49 : decode cX4_hours 49 = .ok (.ireturn, 1) := by decide +kernel
set_option maxRecDepth 20000 in
theorem ggX4_isAsked_X4_isPerson : GoodIn wsX4_isAsked wsX4_isPerson := goodIn_r _ [6, 7, 8, 9, 5, 10, 11, 12, 13, 14, 15, 16, 17, 18, 19, 20, 21, 22, 23, 24, 25, 26, 27, 28, 29, 30, 31, 32, 33, 34, 35, 36, 37, 38, 39, 40] (by decide +kernel) (by decide +kernel)
set_option maxRecDepth 20000 in
theorem gX4_isAsked_X4_isPerson : GoodIn wsX4_isAsked (wsV RX4 142 RX4 yX4_isPerson wsX4_isPerson) := goodIn_app (goodIn_of _ (by decide +kernel)) ggX4_isAsked_X4_isPerson
set_option maxRecDepth 20000 in
theorem ggX4_isAsked_X4_in : GoodIn wsX4_isAsked wsX4_in := goodIn_r _ [10] (by decide +kernel) (by decide +kernel)
set_option maxRecDepth 20000 in
theorem gX4_isAsked_X4_in : GoodIn wsX4_isAsked (va_wsS RX4 72 yX4_in wsX4_in) := goodIn_app (goodIn_of _ (by decide +kernel)) ggX4_isAsked_X4_in
theorem dX4_isAsked_0 : decode cX4_isAsked 0 = .ok (.aload_n 0, 1) := by decide +kernel
theorem dX4_isAsked_1 : decode cX4_isAsked 1 = .ok (.aload_n 0, 1) := by decide +kernel
theorem dX4_isAsked_2 : decode cX4_isAsked 2 = .ok (.iload_n 1, 1) := by decide +kernel
theorem dX4_isAsked_3 : decode cX4_isAsked 3 = .ok (.invokevirtual 142, 3) := by decide +kernel
theorem dX4_isAsked_6 : decode cX4_isAsked 6 = .ok (.ifCond .ne 7, 3) := by decide +kernel
theorem dX4_isAsked_9 : decode cX4_isAsked 9 = .ok (.iconst 1, 1) := by decide +kernel
theorem dX4_isAsked_10 : decode cX4_isAsked 10 = .ok (.goto 19, 3) := by decide +kernel
theorem dX4_isAsked_13 : decode cX4_isAsked 13 = .ok (.iload_n 2, 1) := by decide +kernel
theorem dX4_isAsked_14 : decode cX4_isAsked 14 = .ok (.iconst 0, 1) := by decide +kernel
theorem dX4_isAsked_15 : decode cX4_isAsked 15 = .ok (.sipush 3600, 3) := by decide +kernel
theorem dX4_isAsked_18 : decode cX4_isAsked 18 = .ok (.invokestatic 72, 3) := by decide +kernel
theorem dX4_isAsked_21 : decode cX4_isAsked 21 = .ok (.ifCond .eq 7, 3) := by decide +kernel
theorem dX4_isAsked_24 : decode cX4_isAsked 24 = .ok (.iconst 0, 1) := by decide +kernel
theorem dX4_isAsked_25 : decode cX4_isAsked 25 = .ok (.goto 4, 3) := by decide +kernel
theorem dX4_isAsked_28 : decode cX4_isAsked 28 = .ok (.iconst 2, 1) := by decide +kernel
theorem dX4_isAsked_29 : decode cX4_isAsked 29 = .ok (.putfield 65, 3) := by decide +kernel
theorem dX4_isAsked_32 : decode cX4_isAsked 32 = .ok (.aload_n 0, 1) := by decide +kernel
theorem dX4_isAsked_33 : decode cX4_isAsked 33 = .ok (.getfield 65, 3) := by decide +kernel
theorem dX4_isAsked_36 : decode cX4_isAsked 36 = .ok (.ifCond .ne 7, 3) := by decide +kernel
theorem dX4_isAsked_39 : decode cX4_isAsked 39 = .ok (.iconst 1, 1) := by decide +kernel
theorem dX4_isAsked_40 : decode cX4_isAsked 40 = .ok (.goto 4, 3) := by decide +kernel
theorem dX4_isAsked_43 : decode cX4_isAsked 43 = .ok (.iconst 0, 1) := by decide +kernel
theorem dX4_isAsked_44 : decode cX4_isAsked 44 = .ok (.ireturn, 1) := by decide +kernel
set_option maxRecDepth 20000 in
theorem ggX4_onLeave_X4_isAsked : GoodIn wsX4_onLeave wsX4_isAsked := goodIn_r _ [5, 6, 7, 8, 9, 4, 10, 11, 12, 13, 14, 36, 37, 38, 39, 40, 41, 42, 43, 44, 45, 46, 47, 48, 49, 50, 51, 52, 53, 54, 55, 56, 57, 58, 59, 60, 61, 62, 63, 64, 65] (by decide +kernel) (by decide +kernel)
set_option maxRecDepth 20000 in
theorem gX4_onLeave_X4_isAsked : GoodIn wsX4_onLeave (wsV RX4 151 RX4 yX4_isAsked wsX4_isAsked) := goodIn_app (goodIn_of _ (by decide +kernel)) ggX4_onLeave_X4_isAsked
set_option maxRecDepth 20000 in
theorem ggX4_onLeave_X4_leaveOn : GoodIn wsX4_onLeave wsX4_leaveOn := goodIn_r _ [18, 19, 20, 21, 22, 23, 24, 12, 13, 4, 14, 25, 26, 27, 28, 29, 30, 31, 32, 33, 34, 35, 36, 37, 38, 39, 40, 41, 42, 43, 44, 45, 46, 47, 48, 49, 50, 51, 52, 53, 54, 55, 56, 57, 58, 59, 60, 61, 62, 63, 64, 65] (by decide +kernel) (by decide +kernel)
set_option maxRecDepth 20000 in
theorem gX4_onLeave_X4_leaveOn : GoodIn wsX4_onLeave (wsV RX4 100 RX4 yX4_leaveOn wsX4_leaveOn) := goodIn_app (goodIn_of _ (by decide +kernel)) ggX4_onLeave_X4_leaveOn
theorem dX4_onLeave_0 : decode cX4_onLeave 0 = .ok (.aload_n 0, 1) := by decide +kernel
theorem dX4_onLeave_1 : decode cX4_onLeave 1 = .ok (.iload_n 1, 1) := by decide +kernel
theorem dX4_onLeave_2 : decode cX4_onLeave 2 = .ok (.iload_n 2, 1) := by decide +kernel
theorem dX4_onLeave_3 : decode cX4_onLeave 3 = .ok (.invokevirtual 151, 3) := by decide +kernel
theorem dX4_onLeave_6 : decode cX4_onLeave 6 = .ok (.ifCond .eq 12, 3) := by decide +kernel
theorem dX4_onLeave_9 : decode cX4_onLeave 9 = .ok (.aload_n 0, 1) := by decide +kernel
theorem dX4_onLeave_10 : decode cX4_onLeave 10 = .ok (.iload_n 1, 1) := by decide +kernel
theorem dX4_onLeave_11 : decode cX4_onLeave 11 = .ok (.iload_n 2, 1) := by decide +kernel
theorem dX4_onLeave_12 : decode cX4_onLeave 12 = .ok (.invokevirtual 100, 3) := by decide +kernel
theorem dX4_onLeave_15 : decode cX4_onLeave 15 = .ok (.goto 4, 3) := by decide +kernel
theorem dX4_onLeave_18 : decode cX4_onLeave 18 = .ok (.iconst 0, 1) := by decide +kernel
theorem dX4_onLeave_19 : decode cX4_onLeave 19 = .ok (.ireturn, 1) := by decide +kernel
set_option maxRecDepth 20000 in
theorem ggX4_isGone_X4_isAsked : GoodIn wsX4_isGone wsX4_isAsked := goodIn_r _ [6, 1, 7, 8, 9, 5, 10, 11, 12, 13, 14, 81, 82, 83, 84, 85, 86, 87, 88, 89, 90, 91, 92, 93, 94, 95, 96, 97, 98, 99, 100, 101, 102, 103, 104, 105, 106, 107, 108, 109, 110] (by decide +kernel) (by decide +kernel)
set_option maxRecDepth 20000 in
theorem gX4_isGone_X4_isAsked : GoodIn wsX4_isGone (wsV RX4 151 RX4 yX4_isAsked wsX4_isAsked) := goodIn_app (goodIn_of _ (by decide +kernel)) ggX4_isGone_X4_isAsked
set_option maxRecDepth 20000 in
theorem ggX4_isGone_X4_goes : GoodIn wsX4_isGone wsX4_goes := goodIn_r _ [18, 19, 20, 21, 22, 23, 24, 25, 26, 27, 28, 29, 5, 30, 31, 32, 33, 34, 35, 36, 37, 38, 39, 40, 41, 42, 43, 44, 45, 46, 47, 48, 49, 50, 51, 52, 53, 54, 55, 56, 57, 58, 59, 60, 61, 12, 13, 14, 62, 63, 64, 65, 66, 67, 68, 69, 70, 71, 72, 73, 74, 75, 76, 77, 78, 79, 80, 81, 82, 83, 84, 85, 86, 87, 88, 89, 90, 91, 92, 93, 94, 95, 96, 97, 98, 99, 100, 101, 102, 103, 104, 105, 106, 107, 108, 109, 110] (by decide +kernel) (by decide +kernel)
set_option maxRecDepth 20000 in
theorem gX4_isGone_X4_goes : GoodIn wsX4_isGone (wsV RX4 148 RX4 yX4_goes wsX4_goes) := goodIn_app (goodIn_of _ (by decide +kernel)) ggX4_isGone_X4_goes
theorem dX4_isGone_0 : decode cX4_isGone 0 = .ok (.aload_n 0, 1) := by decide +kernel
theorem dX4_isGone_1 : decode cX4_isGone 1 = .ok (.iload_n 1, 1) := by decide +kernel
theorem dX4_isGone_2 : decode cX4_isGone 2 = .ok (.iload_n 2, 1) := by decide +kernel
theorem dX4_isGone_3 : decode cX4_isGone 3 = .ok (.invokevirtual 151, 3) := by decide +kernel
theorem dX4_isGone_6 : decode cX4_isGone 6 = .ok (.ifCond .eq 9, 3) := by decide +kernel
theorem dX4_isGone_9 : decode cX4_isGone 9 = .ok (.aload_n 0, 1) := by decide +kernel
theorem dX4_isGone_10 : decode cX4_isGone 10 = .ok (.iload_n 1, 1) := by decide +kernel
theorem dX4_isGone_11 : decode cX4_isGone 11 = .ok (.iload_n 2, 1) := by decide +kernel
theorem dX4_isGone_12 : decode cX4_isGone 12 = .ok (.invokevirtual 148, 3) := by decide +kernel
theorem dX4_isGone_15 : decode cX4_isGone 15 = .ok (.aload_n 0, 1) := by decide +kernel
theorem dX4_isGone_16 : decode cX4_isGone 16 = .ok (.getfield 65, 3) := by decide +kernel
theorem dX4_isGone_19 : decode cX4_isGone 19 = .ok (.ifCond .ne 7, 3) := by decide +kernel
theorem dX4_isGone_22 : decode cX4_isGone 22 = .ok (.iconst 1, 1) := by decide +kernel
theorem dX4_isGone_23 : decode cX4_isGone 23 = .ok (.goto 4, 3) := by decide +kernel
theorem dX4_isGone_26 : decode cX4_isGone 26 = .ok (.iconst 0, 1) := by decide +kernel
theorem dX4_isGone_27 : decode cX4_isGone 27 = .ok (.ireturn, 1) := by decide +kernel
set_option maxRecDepth 20000 in
theorem ggX4_balance_X4_isGone : GoodIn wsX4_balance wsX4_isGone := goodIn_r _ [6, 7, 8, 9, 10, 5, 11, 12, 13, 14, 15, 16, 17, 18, 19, 20, 21, 22, 23, 24, 1, 25, 26, 27, 28, 29, 30, 31, 32, 33, 34, 35, 36, 37, 38, 39, 40, 41, 42, 43, 44, 45, 46, 47, 48, 49, 50, 51, 52, 53, 54, 55, 56, 57, 58, 59, 60, 61, 62, 63, 64, 65, 66, 67, 68, 69, 70, 71, 72, 73, 74, 75, 76, 77, 78, 79, 80, 81, 82, 83, 84, 85, 86, 87, 88, 89, 90, 91, 92, 93, 94, 95, 96, 97, 98, 99, 100, 101, 102, 103, 104, 105, 106, 107, 108, 109, 110, 111, 112, 113, 114] (by decide +kernel) (by decide +kernel)
set_option maxRecDepth 20000 in
theorem gX4_balance_X4_isGone : GoodIn wsX4_balance (wsV RX4 154 RX4 yX4_isGone wsX4_isGone) := goodIn_app (goodIn_of _ (by decide +kernel)) ggX4_balance_X4_isGone
set_option maxRecDepth 20000 in
theorem ggX4_balance_X4_inPools : GoodIn wsX4_balance wsX4_inPools := goodIn_r _ [80, 24, 85, 86, 87, 88, 89, 90, 91, 92, 93, 94, 95, 96, 97, 98, 99, 100, 101, 102, 103, 104, 105, 106, 107, 108, 109, 110, 111, 112, 113, 114] (by decide +kernel) (by decide +kernel)
set_option maxRecDepth 20000 in
theorem gX4_balance_X4_inPools : GoodIn wsX4_balance (wsV RX4 103 RX4 yX4_inPools wsX4_inPools) := goodIn_app (goodIn_of _ (by decide +kernel)) ggX4_balance_X4_inPools
theorem dX4_balance_0 : decode cX4_balance 0 = .ok (.aload_n 0, 1) := by decide +kernel
theorem dX4_balance_1 : decode cX4_balance 1 = .ok (.iload_n 1, 1) := by decide +kernel
theorem dX4_balance_2 : decode cX4_balance 2 = .ok (.iload_n 2, 1) := by decide +kernel
theorem dX4_balance_3 : decode cX4_balance 3 = .ok (.invokevirtual 154, 3) := by decide +kernel
theorem dX4_balance_6 : decode cX4_balance 6 = .ok (.ifCond .eq 15, 3) := by decide +kernel
theorem dX4_balance_9 : decode cX4_balance 9 = .ok (.aload_n 0, 1) := by decide +kernel
theorem dX4_balance_10 : decode cX4_balance 10 = .ok (.invokevirtual 103, 3) := by decide +kernel
theorem dX4_balance_13 : decode cX4_balance 13 = .ok (.aload_n 0, 1) := by decide +kernel
theorem dX4_balance_14 : decode cX4_balance 14 = .ok (.getfield 94, 3) := by decide +kernel
theorem dX4_balance_17 : decode cX4_balance 17 = .ok (.isub, 1) := by decide +kernel
theorem dX4_balance_18 : decode cX4_balance 18 = .ok (.goto 4, 3) := by decide +kernel
theorem dX4_balance_21 : decode cX4_balance 21 = .ok (.iconst 0, 1) := by decide +kernel
theorem dX4_balance_22 : decode cX4_balance 22 = .ok (.ireturn, 1) := by decide +kernel
set_option maxRecDepth 20000 in
theorem ggX4_balanceBySums_X4_isGone : GoodIn wsX4_balanceBySums wsX4_isGone := goodIn_r _ [9, 10, 11, 12, 13, 8, 14, 15, 16, 17, 18, 19, 20, 21, 22, 23, 24, 25, 26, 27, 28, 1, 2, 3, 4, 29, 30, 31, 32, 33, 34, 35, 36, 37, 38, 39, 40, 41, 42, 43, 44, 45, 46, 47, 48, 49, 50, 51, 52, 53, 54, 55, 56, 57, 58, 59, 60, 61, 62, 63, 64, 65, 66, 67, 68, 69, 70, 71, 72, 73, 74, 75, 76, 77, 78, 79, 80, 81, 82, 83, 84, 85, 86, 87, 88, 89, 90, 91, 92, 93, 94, 95, 96, 97, 98, 99, 100, 101, 102, 103, 104, 105, 106, 107, 108, 109, 110, 111, 112, 113, 114] (by decide +kernel) (by decide +kernel)
set_option maxRecDepth 20000 in
theorem gX4_balanceBySums_X4_isGone : GoodIn wsX4_balanceBySums (wsV RX4 154 RX4 yX4_isGone wsX4_isGone) := goodIn_app (goodIn_of _ (by decide +kernel)) ggX4_balanceBySums_X4_isGone
theorem dX4_balanceBySums_0 : decode cX4_balanceBySums 0 = .ok (.aload_n 0, 1) := by decide +kernel
theorem dX4_balanceBySums_1 : decode cX4_balanceBySums 1 = .ok (.iload_n 1, 1) := by decide +kernel
theorem dX4_balanceBySums_2 : decode cX4_balanceBySums 2 = .ok (.iload_n 2, 1) := by decide +kernel
theorem dX4_balanceBySums_3 : decode cX4_balanceBySums 3 = .ok (.invokevirtual 154, 3) := by decide +kernel
theorem dX4_balanceBySums_6 : decode cX4_balanceBySums 6 = .ok (.ifCond .eq 25, 3) := by decide +kernel
theorem dX4_balanceBySums_9 : decode cX4_balanceBySums 9 = .ok (.aload_n 0, 1) := by decide +kernel
theorem dX4_balanceBySums_10 : decode cX4_balanceBySums 10 = .ok (.getfield 97, 3) := by decide +kernel
theorem dX4_balanceBySums_13 : decode cX4_balanceBySums 13 = .ok (.aload_n 0, 1) := by decide +kernel
theorem dX4_balanceBySums_14 : decode cX4_balanceBySums 14 = .ok (.getfield 114, 3) := by decide +kernel
theorem dX4_balanceBySums_17 : decode cX4_balanceBySums 17 = .ok (.isub, 1) := by decide +kernel
theorem dX4_balanceBySums_18 : decode cX4_balanceBySums 18 = .ok (.aload_n 0, 1) := by decide +kernel
theorem dX4_balanceBySums_19 : decode cX4_balanceBySums 19 = .ok (.getfield 121, 3) := by decide +kernel
theorem dX4_balanceBySums_22 : decode cX4_balanceBySums 22 = .ok (.isub, 1) := by decide +kernel
theorem dX4_balanceBySums_23 : decode cX4_balanceBySums 23 = .ok (.aload_n 0, 1) := by decide +kernel
theorem dX4_balanceBySums_24 : decode cX4_balanceBySums 24 = .ok (.getfield 130, 3) := by decide +kernel
theorem dX4_balanceBySums_27 : decode cX4_balanceBySums 27 = .ok (.isub, 1) := by decide +kernel
theorem dX4_balanceBySums_28 : decode cX4_balanceBySums 28 = .ok (.goto 4, 3) := by decide +kernel
theorem dX4_balanceBySums_31 : decode cX4_balanceBySums 31 = .ok (.iconst 0, 1) := by decide +kernel
theorem dX4_balanceBySums_32 : decode cX4_balanceBySums 32 = .ok (.ireturn, 1) := by decide +kernel
set_option maxRecDepth 20000 in
theorem ggX4_earned_X4_isGone : GoodIn wsX4_earned wsX4_isGone := goodIn_r _ [6, 7, 8, 9, 10, 5, 11, 12, 13, 14, 15, 16, 17, 18, 19, 20, 21, 22, 23, 24, 25, 1, 26, 27, 28, 29, 30, 31, 32, 33, 34, 35, 36, 37, 38, 39, 40, 41, 42, 43, 44, 45, 46, 47, 48, 49, 50, 51, 52, 53, 54, 55, 56, 57, 58, 59, 60, 61, 62, 63, 64, 65, 66, 67, 68, 69, 70, 71, 72, 73, 74, 75, 76, 77, 78, 79, 80, 81, 82, 83, 84, 85, 86, 87, 88, 89, 90, 91, 92, 93, 94, 95, 96, 97, 98, 99, 100, 101, 102, 103, 104, 105, 106, 107, 108, 109, 110, 111, 112, 113, 114] (by decide +kernel) (by decide +kernel)
set_option maxRecDepth 20000 in
theorem gX4_earned_X4_isGone : GoodIn wsX4_earned (wsV RX4 154 RX4 yX4_isGone wsX4_isGone) := goodIn_app (goodIn_of _ (by decide +kernel)) ggX4_earned_X4_isGone
theorem dX4_earned_0 : decode cX4_earned 0 = .ok (.aload_n 0, 1) := by decide +kernel
theorem dX4_earned_1 : decode cX4_earned 1 = .ok (.iload_n 1, 1) := by decide +kernel
theorem dX4_earned_2 : decode cX4_earned 2 = .ok (.iload_n 2, 1) := by decide +kernel
theorem dX4_earned_3 : decode cX4_earned 3 = .ok (.invokevirtual 154, 3) := by decide +kernel
theorem dX4_earned_6 : decode cX4_earned 6 = .ok (.ifCond .eq 10, 3) := by decide +kernel
theorem dX4_earned_9 : decode cX4_earned 9 = .ok (.aload_n 0, 1) := by decide +kernel
theorem dX4_earned_10 : decode cX4_earned 10 = .ok (.getfield 97, 3) := by decide +kernel
theorem dX4_earned_13 : decode cX4_earned 13 = .ok (.goto 4, 3) := by decide +kernel
theorem dX4_earned_16 : decode cX4_earned 16 = .ok (.iconst 0, 1) := by decide +kernel
theorem dX4_earned_17 : decode cX4_earned 17 = .ok (.ireturn, 1) := by decide +kernel
set_option maxRecDepth 20000 in
theorem ggX4_taken_X4_isGone : GoodIn wsX4_taken wsX4_isGone := goodIn_r _ [6, 7, 8, 9, 10, 5, 11, 12, 13, 14, 15, 16, 17, 18, 19, 20, 21, 22, 23, 24, 25, 26, 1, 27, 28, 29, 30, 31, 32, 33, 34, 35, 36, 37, 38, 39, 40, 41, 42, 43, 44, 45, 46, 47, 48, 49, 50, 51, 52, 53, 54, 55, 56, 57, 58, 59, 60, 61, 62, 63, 64, 65, 66, 67, 68, 69, 70, 71, 72, 73, 74, 75, 76, 77, 78, 79, 80, 81, 82, 83, 84, 85, 86, 87, 88, 89, 90, 91, 92, 93, 94, 95, 96, 97, 98, 99, 100, 101, 102, 103, 104, 105, 106, 107, 108, 109, 110, 111, 112, 113, 114] (by decide +kernel) (by decide +kernel)
set_option maxRecDepth 20000 in
theorem gX4_taken_X4_isGone : GoodIn wsX4_taken (wsV RX4 154 RX4 yX4_isGone wsX4_isGone) := goodIn_app (goodIn_of _ (by decide +kernel)) ggX4_taken_X4_isGone
theorem dX4_taken_0 : decode cX4_taken 0 = .ok (.aload_n 0, 1) := by decide +kernel
theorem dX4_taken_1 : decode cX4_taken 1 = .ok (.iload_n 1, 1) := by decide +kernel
theorem dX4_taken_2 : decode cX4_taken 2 = .ok (.iload_n 2, 1) := by decide +kernel
theorem dX4_taken_3 : decode cX4_taken 3 = .ok (.invokevirtual 154, 3) := by decide +kernel
theorem dX4_taken_6 : decode cX4_taken 6 = .ok (.ifCond .eq 10, 3) := by decide +kernel
theorem dX4_taken_9 : decode cX4_taken 9 = .ok (.aload_n 0, 1) := by decide +kernel
theorem dX4_taken_10 : decode cX4_taken 10 = .ok (.getfield 114, 3) := by decide +kernel
theorem dX4_taken_13 : decode cX4_taken 13 = .ok (.goto 4, 3) := by decide +kernel
theorem dX4_taken_16 : decode cX4_taken 16 = .ok (.iconst 0, 1) := by decide +kernel
theorem dX4_taken_17 : decode cX4_taken 17 = .ok (.ireturn, 1) := by decide +kernel
set_option maxRecDepth 20000 in
theorem ggX4_expired_X4_isGone : GoodIn wsX4_expired wsX4_isGone := goodIn_r _ [6, 7, 8, 9, 10, 5, 11, 12, 13, 14, 15, 16, 17, 18, 19, 20, 21, 22, 23, 24, 25, 26, 27, 1, 28, 29, 30, 31, 32, 33, 34, 35, 36, 37, 38, 39, 40, 41, 42, 43, 44, 45, 46, 47, 48, 49, 50, 51, 52, 53, 54, 55, 56, 57, 58, 59, 60, 61, 62, 63, 64, 65, 66, 67, 68, 69, 70, 71, 72, 73, 74, 75, 76, 77, 78, 79, 80, 81, 82, 83, 84, 85, 86, 87, 88, 89, 90, 91, 92, 93, 94, 95, 96, 97, 98, 99, 100, 101, 102, 103, 104, 105, 106, 107, 108, 109, 110, 111, 112, 113, 114] (by decide +kernel) (by decide +kernel)
set_option maxRecDepth 20000 in
theorem gX4_expired_X4_isGone : GoodIn wsX4_expired (wsV RX4 154 RX4 yX4_isGone wsX4_isGone) := goodIn_app (goodIn_of _ (by decide +kernel)) ggX4_expired_X4_isGone
theorem dX4_expired_0 : decode cX4_expired 0 = .ok (.aload_n 0, 1) := by decide +kernel
theorem dX4_expired_1 : decode cX4_expired 1 = .ok (.iload_n 1, 1) := by decide +kernel
theorem dX4_expired_2 : decode cX4_expired 2 = .ok (.iload_n 2, 1) := by decide +kernel
theorem dX4_expired_3 : decode cX4_expired 3 = .ok (.invokevirtual 154, 3) := by decide +kernel
theorem dX4_expired_6 : decode cX4_expired 6 = .ok (.ifCond .eq 10, 3) := by decide +kernel
theorem dX4_expired_9 : decode cX4_expired 9 = .ok (.aload_n 0, 1) := by decide +kernel
theorem dX4_expired_10 : decode cX4_expired 10 = .ok (.getfield 121, 3) := by decide +kernel
theorem dX4_expired_13 : decode cX4_expired 13 = .ok (.goto 4, 3) := by decide +kernel
theorem dX4_expired_16 : decode cX4_expired 16 = .ok (.iconst 0, 1) := by decide +kernel
theorem dX4_expired_17 : decode cX4_expired 17 = .ok (.ireturn, 1) := by decide +kernel
set_option maxRecDepth 20000 in
theorem ggX4_paid_X4_isGone : GoodIn wsX4_paid wsX4_isGone := goodIn_r _ [6, 7, 8, 9, 10, 5, 11, 12, 13, 14, 15, 16, 17, 18, 19, 20, 21, 22, 23, 24, 25, 26, 27, 28, 1, 29, 30, 31, 32, 33, 34, 35, 36, 37, 38, 39, 40, 41, 42, 43, 44, 45, 46, 47, 48, 49, 50, 51, 52, 53, 54, 55, 56, 57, 58, 59, 60, 61, 62, 63, 64, 65, 66, 67, 68, 69, 70, 71, 72, 73, 74, 75, 76, 77, 78, 79, 80, 81, 82, 83, 84, 85, 86, 87, 88, 89, 90, 91, 92, 93, 94, 95, 96, 97, 98, 99, 100, 101, 102, 103, 104, 105, 106, 107, 108, 109, 110, 111, 112, 113, 114] (by decide +kernel) (by decide +kernel)
set_option maxRecDepth 20000 in
theorem gX4_paid_X4_isGone : GoodIn wsX4_paid (wsV RX4 154 RX4 yX4_isGone wsX4_isGone) := goodIn_app (goodIn_of _ (by decide +kernel)) ggX4_paid_X4_isGone
theorem dX4_paid_0 : decode cX4_paid 0 = .ok (.aload_n 0, 1) := by decide +kernel
theorem dX4_paid_1 : decode cX4_paid 1 = .ok (.iload_n 1, 1) := by decide +kernel
theorem dX4_paid_2 : decode cX4_paid 2 = .ok (.iload_n 2, 1) := by decide +kernel
theorem dX4_paid_3 : decode cX4_paid 3 = .ok (.invokevirtual 154, 3) := by decide +kernel
theorem dX4_paid_6 : decode cX4_paid 6 = .ok (.ifCond .eq 10, 3) := by decide +kernel
theorem dX4_paid_9 : decode cX4_paid 9 = .ok (.aload_n 0, 1) := by decide +kernel
theorem dX4_paid_10 : decode cX4_paid 10 = .ok (.getfield 130, 3) := by decide +kernel
theorem dX4_paid_13 : decode cX4_paid 13 = .ok (.goto 4, 3) := by decide +kernel
theorem dX4_paid_16 : decode cX4_paid 16 = .ok (.iconst 0, 1) := by decide +kernel
theorem dX4_paid_17 : decode cX4_paid 17 = .ok (.ireturn, 1) := by decide +kernel
set_option maxRecDepth 20000 in
theorem ggX4_borrowed_X4_isGone : GoodIn wsX4_borrowed wsX4_isGone := goodIn_r _ [6, 7, 8, 9, 10, 5, 11, 12, 13, 14, 15, 16, 17, 18, 19, 20, 21, 22, 23, 24, 1, 25, 26, 27, 28, 29, 30, 31, 32, 33, 34, 35, 36, 37, 38, 39, 40, 41, 42, 43, 44, 45, 46, 47, 48, 49, 50, 51, 52, 53, 54, 55, 56, 57, 58, 59, 60, 61, 62, 63, 64, 65, 66, 67, 68, 69, 70, 71, 72, 73, 74, 75, 76, 77, 78, 79, 80, 81, 82, 83, 84, 85, 86, 87, 88, 89, 90, 91, 92, 93, 94, 95, 96, 97, 98, 99, 100, 101, 102, 103, 104, 105, 106, 107, 108, 109, 110, 111, 112, 113, 114] (by decide +kernel) (by decide +kernel)
set_option maxRecDepth 20000 in
theorem gX4_borrowed_X4_isGone : GoodIn wsX4_borrowed (wsV RX4 154 RX4 yX4_isGone wsX4_isGone) := goodIn_app (goodIn_of _ (by decide +kernel)) ggX4_borrowed_X4_isGone
theorem dX4_borrowed_0 : decode cX4_borrowed 0 = .ok (.aload_n 0, 1) := by decide +kernel
theorem dX4_borrowed_1 : decode cX4_borrowed 1 = .ok (.iload_n 1, 1) := by decide +kernel
theorem dX4_borrowed_2 : decode cX4_borrowed 2 = .ok (.iload_n 2, 1) := by decide +kernel
theorem dX4_borrowed_3 : decode cX4_borrowed 3 = .ok (.invokevirtual 154, 3) := by decide +kernel
theorem dX4_borrowed_6 : decode cX4_borrowed 6 = .ok (.ifCond .eq 10, 3) := by decide +kernel
theorem dX4_borrowed_9 : decode cX4_borrowed 9 = .ok (.aload_n 0, 1) := by decide +kernel
theorem dX4_borrowed_10 : decode cX4_borrowed 10 = .ok (.getfield 94, 3) := by decide +kernel
theorem dX4_borrowed_13 : decode cX4_borrowed 13 = .ok (.goto 4, 3) := by decide +kernel
theorem dX4_borrowed_16 : decode cX4_borrowed 16 = .ok (.iconst 0, 1) := by decide +kernel
theorem dX4_borrowed_17 : decode cX4_borrowed 17 = .ok (.ireturn, 1) := by decide +kernel
set_option maxRecDepth 20000 in
theorem ggX4_unpaid_X4_isGone : GoodIn wsX4_unpaid wsX4_isGone := goodIn_r _ [6, 7, 8, 9, 10, 5, 11, 12, 13, 14, 15, 16, 17, 18, 19, 20, 21, 22, 23, 24, 25, 26, 27, 28, 29, 1, 30, 31, 32, 33, 34, 35, 36, 37, 38, 39, 40, 41, 42, 43, 44, 45, 46, 47, 48, 49, 50, 51, 52, 53, 54, 55, 56, 57, 58, 59, 60, 61, 62, 63, 64, 65, 66, 67, 68, 69, 70, 71, 72, 73, 74, 75, 76, 77, 78, 79, 80, 81, 82, 83, 84, 85, 86, 87, 88, 89, 90, 91, 92, 93, 94, 95, 96, 97, 98, 99, 100, 101, 102, 103, 104, 105, 106, 107, 108, 109, 110, 111, 112, 113, 114] (by decide +kernel) (by decide +kernel)
set_option maxRecDepth 20000 in
theorem gX4_unpaid_X4_isGone : GoodIn wsX4_unpaid (wsV RX4 154 RX4 yX4_isGone wsX4_isGone) := goodIn_app (goodIn_of _ (by decide +kernel)) ggX4_unpaid_X4_isGone
theorem dX4_unpaid_0 : decode cX4_unpaid 0 = .ok (.aload_n 0, 1) := by decide +kernel
theorem dX4_unpaid_1 : decode cX4_unpaid 1 = .ok (.iload_n 1, 1) := by decide +kernel
theorem dX4_unpaid_2 : decode cX4_unpaid 2 = .ok (.iload_n 2, 1) := by decide +kernel
theorem dX4_unpaid_3 : decode cX4_unpaid 3 = .ok (.invokevirtual 154, 3) := by decide +kernel
theorem dX4_unpaid_6 : decode cX4_unpaid 6 = .ok (.ifCond .eq 10, 3) := by decide +kernel
theorem dX4_unpaid_9 : decode cX4_unpaid 9 = .ok (.aload_n 0, 1) := by decide +kernel
theorem dX4_unpaid_10 : decode cX4_unpaid 10 = .ok (.getfield 107, 3) := by decide +kernel
theorem dX4_unpaid_13 : decode cX4_unpaid 13 = .ok (.goto 4, 3) := by decide +kernel
theorem dX4_unpaid_16 : decode cX4_unpaid 16 = .ok (.iconst 0, 1) := by decide +kernel
theorem dX4_unpaid_17 : decode cX4_unpaid 17 = .ok (.ireturn, 1) := by decide +kernel
set_option maxRecDepth 20000 in
theorem ggX4_nextExpiry_X4_isGone : GoodIn wsX4_nextExpiry wsX4_isGone := goodIn_r _ [6, 7, 8, 9, 10, 5, 11, 12, 13, 14, 15, 16, 17, 18, 19, 20, 21, 22, 23, 1, 24, 25, 26, 27, 28, 29, 30, 31, 32, 33, 34, 35, 36, 37, 38, 39, 40, 41, 42, 43, 44, 45, 46, 47, 48, 49, 50, 51, 52, 53, 54, 55, 56, 57, 58, 59, 60, 61, 62, 63, 64, 65, 66, 67, 68, 69, 70, 71, 72, 73, 74, 75, 76, 77, 78, 79, 80, 81, 82, 83, 84, 85, 86, 87, 88, 89, 90, 91, 92, 93, 94, 95, 96, 97, 98, 99, 100, 101, 102, 103, 104, 105, 106, 107, 108, 109, 110, 111, 112, 113, 114] (by decide +kernel) (by decide +kernel)
set_option maxRecDepth 20000 in
theorem gX4_nextExpiry_X4_isGone : GoodIn wsX4_nextExpiry (wsV RX4 154 RX4 yX4_isGone wsX4_isGone) := goodIn_app (goodIn_of _ (by decide +kernel)) ggX4_nextExpiry_X4_isGone
theorem dX4_nextExpiry_0 : decode cX4_nextExpiry 0 = .ok (.aload_n 0, 1) := by decide +kernel
theorem dX4_nextExpiry_1 : decode cX4_nextExpiry 1 = .ok (.iload_n 1, 1) := by decide +kernel
theorem dX4_nextExpiry_2 : decode cX4_nextExpiry 2 = .ok (.iload_n 2, 1) := by decide +kernel
theorem dX4_nextExpiry_3 : decode cX4_nextExpiry 3 = .ok (.invokevirtual 154, 3) := by decide +kernel
theorem dX4_nextExpiry_6 : decode cX4_nextExpiry 6 = .ok (.ifCond .ne 5, 3) := by decide +kernel
theorem dX4_nextExpiry_9 : decode cX4_nextExpiry 9 = .ok (.iconst 0, 1) := by decide +kernel
theorem dX4_nextExpiry_10 : decode cX4_nextExpiry 10 = .ok (.ireturn, 1) := by decide +kernel
theorem dX4_nextExpiry_11 : decode cX4_nextExpiry 11 = .ok (.iconst (-1), 1) := by decide +kernel
theorem dX4_nextExpiry_12 : decode cX4_nextExpiry 12 = .ok (.istore_n 3, 1) := by decide +kernel
theorem dX4_nextExpiry_13 : decode cX4_nextExpiry 13 = .ok (.bipush 10, 2) := by decide +kernel
theorem dX4_nextExpiry_15 : decode cX4_nextExpiry 15 = .ok (.istore 4, 2) := by decide +kernel
theorem dX4_nextExpiry_17 : decode cX4_nextExpiry 17 = .ok (.iload 4, 2) := by decide +kernel
theorem dX4_nextExpiry_19 : decode cX4_nextExpiry 19 = .ok (.ifCond .lt 34, 3) := by decide +kernel
theorem dX4_nextExpiry_22 : decode cX4_nextExpiry 22 = .ok (.aload_n 0, 1) := by decide +kernel
theorem dX4_nextExpiry_23 : decode cX4_nextExpiry 23 = .ok (.getfield 62, 3) := by decide +kernel
theorem dX4_nextExpiry_26 : decode cX4_nextExpiry 26 = .ok (.iload 4, 2) := by decide +kernel
theorem dX4_nextExpiry_28 : decode cX4_nextExpiry 28 = .ok (.iaload, 1) := by decide +kernel
theorem dX4_nextExpiry_29 : decode cX4_nextExpiry 29 = .ok (.ifCond .le 16, 3) := by decide +kernel
theorem dX4_nextExpiry_32 : decode cX4_nextExpiry 32 = .ok (.sipush 360, 3) := by decide +kernel
theorem dX4_nextExpiry_35 : decode cX4_nextExpiry 35 = .ok (.iload 4, 2) := by decide +kernel
theorem dX4_nextExpiry_37 : decode cX4_nextExpiry 37 = .ok (.imul, 1) := by decide +kernel
theorem dX4_nextExpiry_38 : decode cX4_nextExpiry 38 = .ok (.sipush 450, 3) := by decide +kernel
theorem dX4_nextExpiry_41 : decode cX4_nextExpiry 41 = .ok (.iadd, 1) := by decide +kernel
theorem dX4_nextExpiry_42 : decode cX4_nextExpiry 42 = .ok (.goto 4, 3) := by decide +kernel
theorem dX4_nextExpiry_45 : decode cX4_nextExpiry 45 = .ok (.iload_n 3, 1) := by decide +kernel
theorem dX4_nextExpiry_46 : decode cX4_nextExpiry 46 = .ok (.istore_n 3, 1) := by decide +kernel
theorem dX4_nextExpiry_47 : decode cX4_nextExpiry 47 = .ok (.iinc 4 (-1), 3) := by decide +kernel
theorem dX4_nextExpiry_50 : decode cX4_nextExpiry 50 = .ok (.goto (-33), 3) := by decide +kernel
theorem dX4_nextExpiry_53 : decode cX4_nextExpiry 53 = .ok (.iload_n 3, 1) := by decide +kernel
theorem dX4_nextExpiry_54 : decode cX4_nextExpiry 54 = .ok (.ireturn, 1) := by decide +kernel
