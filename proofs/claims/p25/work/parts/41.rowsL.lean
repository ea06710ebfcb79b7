theorem dL_cell_0 : decode cL_cell 0 = .ok (.iload_n 1, 1) := by decide +kernel
theorem dL_cell_1 : decode cL_cell 1 = .ok (.aload_n 0, 1) := by decide +kernel
theorem dL_cell_2 : decode cL_cell 2 = .ok (.arraylength, 1) := by decide +kernel
theorem dL_cell_3 : decode cL_cell 3 = .ok (.if_icmp .ge 9, 3) := by decide +kernel
theorem dL_cell_6 : decode cL_cell 6 = .ok (.aload_n 0, 1) := by decide +kernel
theorem dL_cell_7 : decode cL_cell 7 = .ok (.iload_n 1, 1) := by decide +kernel
theorem dL_cell_8 : decode cL_cell 8 = .ok (.iaload, 1) := by decide +kernel
theorem dL_cell_9 : decode cL_cell 9 = .ok (.goto 13, 3) := by decide +kernel
theorem dL_cell_12 : decode cL_cell 12 = .ok (.ldc 7, 2) := by decide +kernel
theorem dL_cell_14 : decode cL_cell 14 = .ok (.iload_n 1, 1) := by decide +kernel
theorem dL_cell_15 : decode cL_cell 15 = .ok (.bipush 23, 2) := by decide +kernel
theorem dL_cell_17 : decode cL_cell 17 = .ok (.iadd, 1) := by decide +kernel
theorem dL_cell_18 : decode cL_cell 18 = .ok (.imul, 1) := by decide +kernel
theorem dL_cell_19 : decode cL_cell 19 = .ok (.ldc 8, 2) := by decide +kernel
theorem dL_cell_21 : decode cL_cell 21 = .ok (.iadd, 1) := by decide +kernel
theorem dL_cell_22 : decode cL_cell 22 = .ok (.ireturn, 1) := by decide +kernel
theorem dL_low_0 : decode cL_low 0 = .ok (.iload_n 0, 1) := by decide +kernel
theorem dL_low_1 : decode cL_low 1 = .ok (.ldc 9, 2) := by decide +kernel
theorem dL_low_3 : decode cL_low 3 = .ok (.iand, 1) := by decide +kernel
theorem dL_low_4 : decode cL_low 4 = .ok (.iload_n 1, 1) := by decide +kernel
theorem dL_low_5 : decode cL_low 5 = .ok (.irem, 1) := by decide +kernel
theorem dL_low_6 : decode cL_low 6 = .ok (.ireturn, 1) := by decide +kernel
theorem dL_calls_0 : decode cL_calls 0 = .ok (.iload_n 1, 1) := by decide +kernel
theorem dL_calls_1 : decode cL_calls 1 = .ok (.ifCond .ne 16, 3) := by decide +kernel
theorem dL_calls_4 : decode cL_calls 4 = .ok (.aload_n 0, 1) := by decide +kernel
theorem dL_calls_5 : decode cL_calls 5 = .ok (.iload_n 2, 1) := by decide +kernel
theorem dL_calls_6 : decode cL_calls 6 = .ok (.iload_n 3, 1) := by decide +kernel
theorem dL_calls_7 : decode cL_calls 7 = .ok (.iload 4, 2) := by decide +kernel
theorem dL_calls_9 : decode cL_calls 9 = .ok (.iload 5, 2) := by decide +kernel
theorem dL_calls_11 : decode cL_calls 11 = .ok (.invokevirtual 10, 3) := by decide +kernel
theorem dL_calls_14 : decode cL_calls 14 = .ok (.goto 57, 3) := by decide +kernel
theorem dL_calls_17 : decode cL_calls 17 = .ok (.iload_n 1, 1) := by decide +kernel
theorem dL_calls_18 : decode cL_calls 18 = .ok (.iconst 1, 1) := by decide +kernel
theorem dL_calls_19 : decode cL_calls 19 = .ok (.if_icmp .ne 14, 3) := by decide +kernel
theorem dL_calls_22 : decode cL_calls 22 = .ok (.aload_n 0, 1) := by decide +kernel
theorem dL_calls_23 : decode cL_calls 23 = .ok (.iload_n 2, 1) := by decide +kernel
theorem dL_calls_24 : decode cL_calls 24 = .ok (.iload_n 3, 1) := by decide +kernel
theorem dL_calls_25 : decode cL_calls 25 = .ok (.iload 4, 2) := by decide +kernel
theorem dL_calls_27 : decode cL_calls 27 = .ok (.invokevirtual 16, 3) := by decide +kernel
theorem dL_calls_30 : decode cL_calls 30 = .ok (.goto 41, 3) := by decide +kernel
theorem dL_calls_33 : decode cL_calls 33 = .ok (.iload_n 1, 1) := by decide +kernel
theorem dL_calls_34 : decode cL_calls 34 = .ok (.iconst 2, 1) := by decide +kernel
theorem dL_calls_35 : decode cL_calls 35 = .ok (.if_icmp .ne 14, 3) := by decide +kernel
theorem dL_calls_38 : decode cL_calls 38 = .ok (.aload_n 0, 1) := by decide +kernel
theorem dL_calls_39 : decode cL_calls 39 = .ok (.iload_n 2, 1) := by decide +kernel
theorem dL_calls_40 : decode cL_calls 40 = .ok (.iload_n 3, 1) := by decide +kernel
theorem dL_calls_41 : decode cL_calls 41 = .ok (.iload 4, 2) := by decide +kernel
theorem dL_calls_43 : decode cL_calls 43 = .ok (.invokevirtual 20, 3) := by decide +kernel
theorem dL_calls_46 : decode cL_calls 46 = .ok (.goto 25, 3) := by decide +kernel
theorem dL_calls_49 : decode cL_calls 49 = .ok (.iload_n 1, 1) := by decide +kernel
theorem dL_calls_50 : decode cL_calls 50 = .ok (.iconst 3, 1) := by decide +kernel
theorem dL_calls_51 : decode cL_calls 51 = .ok (.if_icmp .ne 12, 3) := by decide +kernel
theorem dL_calls_54 : decode cL_calls 54 = .ok (.aload_n 0, 1) := by decide +kernel
theorem dL_calls_55 : decode cL_calls 55 = .ok (.iload_n 2, 1) := by decide +kernel
theorem dL_calls_56 : decode cL_calls 56 = .ok (.iload_n 3, 1) := by decide +kernel
theorem dL_calls_57 : decode cL_calls 57 = .ok (.invokevirtual 23, 3) := by decide +kernel
theorem dL_calls_60 : decode cL_calls 60 = .ok (.goto 11, 3) := by decide +kernel
theorem dL_calls_63 : decode cL_calls 63 = .ok (.aload_n 0, 1) := by decide +kernel
theorem dL_calls_64 : decode cL_calls 64 = .ok (.iload_n 2, 1) := by decide +kernel
theorem dL_calls_65 : decode cL_calls 65 = .ok (.iload_n 3, 1) := by decide +kernel
theorem dL_calls_66 : decode cL_calls 66 = .ok (.iload 4, 2) := by decide +kernel
theorem dL_calls_68 : decode cL_calls 68 = .ok (.invokevirtual 27, 3) := by decide +kernel
theorem dL_calls_71 : decode cL_calls 71 = .ok (.ireturn, 1) := by decide +kernel
theorem dL_calls_72 : decode cL_calls 72 = .ok (.astore 6, 2) := by decide +kernel
theorem dL_calls_74 : decode cL_calls 74 = .ok (.bipush (-4), 2) := by decide +kernel
theorem dL_calls_76 : decode cL_calls 76 = .ok (.ireturn, 1) := by decide +kernel
theorem dL_calls_77 : decode cL_calls 77 = .ok (.astore 6, 2) := by decide +kernel
theorem dL_calls_79 : decode cL_calls 79 = .ok (.bipush (-2), 2) := by decide +kernel
theorem dL_calls_81 : decode cL_calls 81 = .ok (.ireturn, 1) := by decide +kernel
theorem dL_calls_82 : decode cL_calls 82 = .ok (.astore 6, 2) := by decide +kernel
theorem dL_calls_84 : decode cL_calls 84 = .ok (.bipush (-3), 2) := by decide +kernel
theorem dL_calls_86 : decode cL_calls 86 = .ok (.ireturn, 1) := by decide +kernel
theorem dL_cancels_0 : decode cL_cancels 0 = .ok (.aload_n 0, 1) := by decide +kernel
theorem dL_cancels_1 : decode cL_cancels 1 = .ok (.iload_n 1, 1) := by decide +kernel
theorem dL_cancels_2 : decode cL_cancels 2 = .ok (.invokevirtual 36, 3) := by decide +kernel
theorem dL_cancels_5 : decode cL_cancels 5 = .ok (.iconst 0, 1) := by decide +kernel
theorem dL_cancels_6 : decode cL_cancels 6 = .ok (.ireturn, 1) := by decide +kernel
theorem dL_cancels_7 : decode cL_cancels 7 = .ok (.astore_n 2, 1) := by decide +kernel
theorem dL_cancels_8 : decode cL_cancels 8 = .ok (.bipush (-3), 2) := by decide +kernel
theorem dL_cancels_10 : decode cL_cancels 10 = .ok (.ireturn, 1) := by decide +kernel
theorem dL_hours_0 : decode cL_hours 0 = .ok (.aload_n 2, 1) := by decide +kernel
theorem dL_hours_1 : decode cL_hours 1 = .ok (.iconst 4, 1) := by decide +kernel
theorem dL_hours_2 : decode cL_hours 2 = .ok (.iload_n 0, 1) := by decide +kernel
theorem dL_hours_3 : decode cL_hours 3 = .ok (.imul, 1) := by decide +kernel
theorem dL_hours_4 : decode cL_hours 4 = .ok (.iconst 2, 1) := by decide +kernel
theorem dL_hours_5 : decode cL_hours 5 = .ok (.iadd, 1) := by decide +kernel
theorem dL_hours_6 : decode cL_hours 6 = .ok (.iaload, 1) := by decide +kernel
theorem dL_hours_7 : decode cL_hours 7 = .ok (.istore_n 3, 1) := by decide +kernel
theorem dL_hours_8 : decode cL_hours 8 = .ok (.iconst (-1), 1) := by decide +kernel
theorem dL_hours_9 : decode cL_hours 9 = .ok (.istore 4, 2) := by decide +kernel
theorem dL_hours_11 : decode cL_hours 11 = .ok (.iconst 0, 1) := by decide +kernel
theorem dL_hours_12 : decode cL_hours 12 = .ok (.istore 5, 2) := by decide +kernel
theorem dL_hours_14 : decode cL_hours 14 = .ok (.iload 5, 2) := by decide +kernel
theorem dL_hours_16 : decode cL_hours 16 = .ok (.aload_n 2, 1) := by decide +kernel
theorem dL_hours_17 : decode cL_hours 17 = .ok (.iconst 4, 1) := by decide +kernel
theorem dL_hours_18 : decode cL_hours 18 = .ok (.iload_n 0, 1) := by decide +kernel
theorem dL_hours_19 : decode cL_hours 19 = .ok (.imul, 1) := by decide +kernel
theorem dL_hours_20 : decode cL_hours 20 = .ok (.iconst 3, 1) := by decide +kernel
theorem dL_hours_21 : decode cL_hours 21 = .ok (.iadd, 1) := by decide +kernel
theorem dL_hours_22 : decode cL_hours 22 = .ok (.iaload, 1) := by decide +kernel
theorem dL_hours_23 : decode cL_hours 23 = .ok (.if_icmp .ge 53, 3) := by decide +kernel
theorem dL_hours_26 : decode cL_hours 26 = .ok (.bipush 12, 2) := by decide +kernel
theorem dL_hours_28 : decode cL_hours 28 = .ok (.bipush 20, 2) := by decide +kernel
theorem dL_hours_30 : decode cL_hours 30 = .ok (.iload_n 0, 1) := by decide +kernel
theorem dL_hours_31 : decode cL_hours 31 = .ok (.imul, 1) := by decide +kernel
theorem dL_hours_32 : decode cL_hours 32 = .ok (.iadd, 1) := by decide +kernel
theorem dL_hours_33 : decode cL_hours 33 = .ok (.iconst 2, 1) := by decide +kernel
theorem dL_hours_34 : decode cL_hours 34 = .ok (.iload 5, 2) := by decide +kernel
theorem dL_hours_36 : decode cL_hours 36 = .ok (.imul, 1) := by decide +kernel
theorem dL_hours_37 : decode cL_hours 37 = .ok (.iadd, 1) := by decide +kernel
theorem dL_hours_38 : decode cL_hours 38 = .ok (.istore 6, 2) := by decide +kernel
theorem dL_hours_40 : decode cL_hours 40 = .ok (.aload_n 2, 1) := by decide +kernel
theorem dL_hours_41 : decode cL_hours 41 = .ok (.iload 6, 2) := by decide +kernel
theorem dL_hours_43 : decode cL_hours 43 = .ok (.iaload, 1) := by decide +kernel
theorem dL_hours_44 : decode cL_hours 44 = .ok (.iload_n 1, 1) := by decide +kernel
theorem dL_hours_45 : decode cL_hours 45 = .ok (.if_icmp .gt 25, 3) := by decide +kernel
theorem dL_hours_48 : decode cL_hours 48 = .ok (.aload_n 2, 1) := by decide +kernel
theorem dL_hours_49 : decode cL_hours 49 = .ok (.iload 6, 2) := by decide +kernel
theorem dL_hours_51 : decode cL_hours 51 = .ok (.iaload, 1) := by decide +kernel
theorem dL_hours_52 : decode cL_hours 52 = .ok (.iload 4, 2) := by decide +kernel
theorem dL_hours_54 : decode cL_hours 54 = .ok (.if_icmp .lt 16, 3) := by decide +kernel
theorem dL_hours_57 : decode cL_hours 57 = .ok (.aload_n 2, 1) := by decide +kernel
theorem dL_hours_58 : decode cL_hours 58 = .ok (.iload 6, 2) := by decide +kernel
theorem dL_hours_60 : decode cL_hours 60 = .ok (.iaload, 1) := by decide +kernel
theorem dL_hours_61 : decode cL_hours 61 = .ok (.istore 4, 2) := by decide +kernel
theorem dL_hours_63 : decode cL_hours 63 = .ok (.aload_n 2, 1) := by decide +kernel
theorem dL_hours_64 : decode cL_hours 64 = .ok (.iload 6, 2) := by decide +kernel
theorem dL_hours_66 : decode cL_hours 66 = .ok (.iconst 1, 1) := by decide +kernel
theorem dL_hours_67 : decode cL_hours 67 = .ok (.iadd, 1) := by decide +kernel
theorem dL_hours_68 : decode cL_hours 68 = .ok (.iaload, 1) := by decide +kernel
theorem dL_hours_69 : decode cL_hours 69 = .ok (.istore_n 3, 1) := by decide +kernel
theorem dL_hours_70 : decode cL_hours 70 = .ok (.iinc 5 1, 3) := by decide +kernel
theorem dL_hours_73 : decode cL_hours 73 = .ok (.goto (-59), 3) := by decide +kernel
theorem dL_hours_76 : decode cL_hours 76 = .ok (.iload_n 3, 1) := by decide +kernel
theorem dL_hours_77 : decode cL_hours 77 = .ok (.ireturn, 1) := by decide +kernel
theorem dL_leave_0 : decode cL_leave 0 = .ok (.iconst 0, 1) := by decide +kernel
theorem dL_leave_1 : decode cL_leave 1 = .ok (.istore 5, 2) := by decide +kernel
theorem dL_leave_3 : decode cL_leave 3 = .ok (.iconst 0, 1) := by decide +kernel
theorem dL_leave_4 : decode cL_leave 4 = .ok (.istore 6, 2) := by decide +kernel
theorem dL_leave_6 : decode cL_leave 6 = .ok (.iload_n 1, 1) := by decide +kernel
theorem dL_leave_7 : decode cL_leave 7 = .ok (.bipush 7, 2) := by decide +kernel
theorem dL_leave_9 : decode cL_leave 9 = .ok (.irem, 1) := by decide +kernel
theorem dL_leave_10 : decode cL_leave 10 = .ok (.iconst 4, 1) := by decide +kernel
theorem dL_leave_11 : decode cL_leave 11 = .ok (.if_icmp .le 7, 3) := by decide +kernel
theorem dL_leave_14 : decode cL_leave 14 = .ok (.iconst 1, 1) := by decide +kernel
theorem dL_leave_15 : decode cL_leave 15 = .ok (.goto 4, 3) := by decide +kernel
theorem dL_leave_18 : decode cL_leave 18 = .ok (.iconst 0, 1) := by decide +kernel
theorem dL_leave_19 : decode cL_leave 19 = .ok (.istore 7, 2) := by decide +kernel
theorem dL_leave_21 : decode cL_leave 21 = .ok (.iconst 0, 1) := by decide +kernel
theorem dL_leave_22 : decode cL_leave 22 = .ok (.istore 8, 2) := by decide +kernel
theorem dL_leave_24 : decode cL_leave 24 = .ok (.iload 8, 2) := by decide +kernel
theorem dL_leave_26 : decode cL_leave 26 = .ok (.aload 4, 2) := by decide +kernel
theorem dL_leave_28 : decode cL_leave 28 = .ok (.iconst 2, 1) := by decide +kernel
theorem dL_leave_29 : decode cL_leave 29 = .ok (.iaload, 1) := by decide +kernel
theorem dL_leave_30 : decode cL_leave 30 = .ok (.if_icmp .ge 118, 3) := by decide +kernel
theorem dL_leave_33 : decode cL_leave 33 = .ok (.aload_n 2, 1) := by decide +kernel
theorem dL_leave_34 : decode cL_leave 34 = .ok (.iconst 5, 1) := by decide +kernel
theorem dL_leave_35 : decode cL_leave 35 = .ok (.iload 8, 2) := by decide +kernel
theorem dL_leave_37 : decode cL_leave 37 = .ok (.imul, 1) := by decide +kernel
theorem dL_leave_38 : decode cL_leave 38 = .ok (.iaload, 1) := by decide +kernel
theorem dL_leave_39 : decode cL_leave 39 = .ok (.iload_n 0, 1) := by decide +kernel
theorem dL_leave_40 : decode cL_leave 40 = .ok (.if_icmp .ne 42, 3) := by decide +kernel
theorem dL_leave_43 : decode cL_leave 43 = .ok (.aload_n 2, 1) := by decide +kernel
theorem dL_leave_44 : decode cL_leave 44 = .ok (.iconst 5, 1) := by decide +kernel
theorem dL_leave_45 : decode cL_leave 45 = .ok (.iload 8, 2) := by decide +kernel
theorem dL_leave_47 : decode cL_leave 47 = .ok (.imul, 1) := by decide +kernel
theorem dL_leave_48 : decode cL_leave 48 = .ok (.iconst 4, 1) := by decide +kernel
theorem dL_leave_49 : decode cL_leave 49 = .ok (.iadd, 1) := by decide +kernel
theorem dL_leave_50 : decode cL_leave 50 = .ok (.iaload, 1) := by decide +kernel
theorem dL_leave_51 : decode cL_leave 51 = .ok (.ifCond .ne 31, 3) := by decide +kernel
theorem dL_leave_54 : decode cL_leave 54 = .ok (.aload_n 2, 1) := by decide +kernel
theorem dL_leave_55 : decode cL_leave 55 = .ok (.iconst 5, 1) := by decide +kernel
theorem dL_leave_56 : decode cL_leave 56 = .ok (.iload 8, 2) := by decide +kernel
theorem dL_leave_58 : decode cL_leave 58 = .ok (.imul, 1) := by decide +kernel
theorem dL_leave_59 : decode cL_leave 59 = .ok (.iconst 1, 1) := by decide +kernel
theorem dL_leave_60 : decode cL_leave 60 = .ok (.iadd, 1) := by decide +kernel
theorem dL_leave_61 : decode cL_leave 61 = .ok (.iaload, 1) := by decide +kernel
theorem dL_leave_62 : decode cL_leave 62 = .ok (.iload_n 1, 1) := by decide +kernel
theorem dL_leave_63 : decode cL_leave 63 = .ok (.if_icmp .gt 19, 3) := by decide +kernel
theorem dL_leave_66 : decode cL_leave 66 = .ok (.iload_n 1, 1) := by decide +kernel
theorem dL_leave_67 : decode cL_leave 67 = .ok (.aload_n 2, 1) := by decide +kernel
theorem dL_leave_68 : decode cL_leave 68 = .ok (.iconst 5, 1) := by decide +kernel
theorem dL_leave_69 : decode cL_leave 69 = .ok (.iload 8, 2) := by decide +kernel
theorem dL_leave_71 : decode cL_leave 71 = .ok (.imul, 1) := by decide +kernel
theorem dL_leave_72 : decode cL_leave 72 = .ok (.iconst 2, 1) := by decide +kernel
theorem dL_leave_73 : decode cL_leave 73 = .ok (.iadd, 1) := by decide +kernel
theorem dL_leave_74 : decode cL_leave 74 = .ok (.iaload, 1) := by decide +kernel
theorem dL_leave_75 : decode cL_leave 75 = .ok (.if_icmp .gt 7, 3) := by decide +kernel
theorem dL_leave_78 : decode cL_leave 78 = .ok (.iconst 1, 1) := by decide +kernel
theorem dL_leave_79 : decode cL_leave 79 = .ok (.goto 4, 3) := by decide +kernel
theorem dL_leave_82 : decode cL_leave 82 = .ok (.iconst 0, 1) := by decide +kernel
theorem dL_leave_83 : decode cL_leave 83 = .ok (.istore 9, 2) := by decide +kernel
theorem dL_leave_85 : decode cL_leave 85 = .ok (.iload 5, 2) := by decide +kernel
theorem dL_leave_87 : decode cL_leave 87 = .ok (.ifCond .ne 20, 3) := by decide +kernel
theorem dL_leave_90 : decode cL_leave 90 = .ok (.iload 9, 2) := by decide +kernel
theorem dL_leave_92 : decode cL_leave 92 = .ok (.ifCond .eq 19, 3) := by decide +kernel
theorem dL_leave_95 : decode cL_leave 95 = .ok (.aload_n 2, 1) := by decide +kernel
theorem dL_leave_96 : decode cL_leave 96 = .ok (.iconst 5, 1) := by decide +kernel
theorem dL_leave_97 : decode cL_leave 97 = .ok (.iload 8, 2) := by decide +kernel
theorem dL_leave_99 : decode cL_leave 99 = .ok (.imul, 1) := by decide +kernel
theorem dL_leave_100 : decode cL_leave 100 = .ok (.iconst 3, 1) := by decide +kernel
theorem dL_leave_101 : decode cL_leave 101 = .ok (.iadd, 1) := by decide +kernel
theorem dL_leave_102 : decode cL_leave 102 = .ok (.iaload, 1) := by decide +kernel
theorem dL_leave_103 : decode cL_leave 103 = .ok (.iconst 1, 1) := by decide +kernel
theorem dL_leave_104 : decode cL_leave 104 = .ok (.if_icmp .ne 7, 3) := by decide +kernel
theorem dL_leave_107 : decode cL_leave 107 = .ok (.iconst 1, 1) := by decide +kernel
theorem dL_leave_108 : decode cL_leave 108 = .ok (.goto 4, 3) := by decide +kernel
theorem dL_leave_111 : decode cL_leave 111 = .ok (.iconst 0, 1) := by decide +kernel
theorem dL_leave_112 : decode cL_leave 112 = .ok (.istore 5, 2) := by decide +kernel
theorem dL_leave_114 : decode cL_leave 114 = .ok (.iload 6, 2) := by decide +kernel
theorem dL_leave_116 : decode cL_leave 116 = .ok (.ifCond .ne 19, 3) := by decide +kernel
theorem dL_leave_119 : decode cL_leave 119 = .ok (.iload 9, 2) := by decide +kernel
theorem dL_leave_121 : decode cL_leave 121 = .ok (.ifCond .eq 18, 3) := by decide +kernel
theorem dL_leave_124 : decode cL_leave 124 = .ok (.aload_n 2, 1) := by decide +kernel
theorem dL_leave_125 : decode cL_leave 125 = .ok (.iconst 5, 1) := by decide +kernel
theorem dL_leave_126 : decode cL_leave 126 = .ok (.iload 8, 2) := by decide +kernel
theorem dL_leave_128 : decode cL_leave 128 = .ok (.imul, 1) := by decide +kernel
theorem dL_leave_129 : decode cL_leave 129 = .ok (.iconst 3, 1) := by decide +kernel
theorem dL_leave_130 : decode cL_leave 130 = .ok (.iadd, 1) := by decide +kernel
theorem dL_leave_131 : decode cL_leave 131 = .ok (.iaload, 1) := by decide +kernel
theorem dL_leave_132 : decode cL_leave 132 = .ok (.ifCond .ne 7, 3) := by decide +kernel
theorem dL_leave_135 : decode cL_leave 135 = .ok (.iconst 1, 1) := by decide +kernel
theorem dL_leave_136 : decode cL_leave 136 = .ok (.goto 4, 3) := by decide +kernel
theorem dL_leave_139 : decode cL_leave 139 = .ok (.iconst 0, 1) := by decide +kernel
theorem dL_leave_140 : decode cL_leave 140 = .ok (.istore 6, 2) := by decide +kernel
theorem dL_leave_142 : decode cL_leave 142 = .ok (.iinc 8 1, 3) := by decide +kernel
theorem dL_leave_145 : decode cL_leave 145 = .ok (.goto (-121), 3) := by decide +kernel
theorem dL_leave_148 : decode cL_leave 148 = .ok (.iconst 0, 1) := by decide +kernel
theorem dL_leave_149 : decode cL_leave 149 = .ok (.istore 8, 2) := by decide +kernel
theorem dL_leave_151 : decode cL_leave 151 = .ok (.iload 8, 2) := by decide +kernel
theorem dL_leave_153 : decode cL_leave 153 = .ok (.aload 4, 2) := by decide +kernel
theorem dL_leave_155 : decode cL_leave 155 = .ok (.iconst 3, 1) := by decide +kernel
theorem dL_leave_156 : decode cL_leave 156 = .ok (.iaload, 1) := by decide +kernel
theorem dL_leave_157 : decode cL_leave 157 = .ok (.if_icmp .ge 55, 3) := by decide +kernel
theorem dL_leave_160 : decode cL_leave 160 = .ok (.iload 7, 2) := by decide +kernel
theorem dL_leave_162 : decode cL_leave 162 = .ok (.ifCond .ne 37, 3) := by decide +kernel
theorem dL_leave_165 : decode cL_leave 165 = .ok (.aload_n 3, 1) := by decide +kernel
theorem dL_leave_166 : decode cL_leave 166 = .ok (.iconst 3, 1) := by decide +kernel
theorem dL_leave_167 : decode cL_leave 167 = .ok (.iload 8, 2) := by decide +kernel
theorem dL_leave_169 : decode cL_leave 169 = .ok (.imul, 1) := by decide +kernel
theorem dL_leave_170 : decode cL_leave 170 = .ok (.iaload, 1) := by decide +kernel
theorem dL_leave_171 : decode cL_leave 171 = .ok (.iload_n 0, 1) := by decide +kernel
theorem dL_leave_172 : decode cL_leave 172 = .ok (.if_icmp .ne 31, 3) := by decide +kernel
theorem dL_leave_175 : decode cL_leave 175 = .ok (.aload_n 3, 1) := by decide +kernel
theorem dL_leave_176 : decode cL_leave 176 = .ok (.iconst 3, 1) := by decide +kernel
theorem dL_leave_177 : decode cL_leave 177 = .ok (.iload 8, 2) := by decide +kernel
theorem dL_leave_179 : decode cL_leave 179 = .ok (.imul, 1) := by decide +kernel
theorem dL_leave_180 : decode cL_leave 180 = .ok (.iconst 1, 1) := by decide +kernel
theorem dL_leave_181 : decode cL_leave 181 = .ok (.iadd, 1) := by decide +kernel
theorem dL_leave_182 : decode cL_leave 182 = .ok (.iaload, 1) := by decide +kernel
theorem dL_leave_183 : decode cL_leave 183 = .ok (.iload_n 1, 1) := by decide +kernel
theorem dL_leave_184 : decode cL_leave 184 = .ok (.if_icmp .gt 19, 3) := by decide +kernel
theorem dL_leave_187 : decode cL_leave 187 = .ok (.iload_n 1, 1) := by decide +kernel
theorem dL_leave_188 : decode cL_leave 188 = .ok (.aload_n 3, 1) := by decide +kernel
theorem dL_leave_189 : decode cL_leave 189 = .ok (.iconst 3, 1) := by decide +kernel
theorem dL_leave_190 : decode cL_leave 190 = .ok (.iload 8, 2) := by decide +kernel
theorem dL_leave_192 : decode cL_leave 192 = .ok (.imul, 1) := by decide +kernel
theorem dL_leave_193 : decode cL_leave 193 = .ok (.iconst 2, 1) := by decide +kernel
theorem dL_leave_194 : decode cL_leave 194 = .ok (.iadd, 1) := by decide +kernel
theorem dL_leave_195 : decode cL_leave 195 = .ok (.iaload, 1) := by decide +kernel
theorem dL_leave_196 : decode cL_leave 196 = .ok (.if_icmp .gt 7, 3) := by decide +kernel
theorem dL_leave_199 : decode cL_leave 199 = .ok (.iconst 1, 1) := by decide +kernel
theorem dL_leave_200 : decode cL_leave 200 = .ok (.goto 4, 3) := by decide +kernel
theorem dL_leave_203 : decode cL_leave 203 = .ok (.iconst 0, 1) := by decide +kernel
theorem dL_leave_204 : decode cL_leave 204 = .ok (.istore 7, 2) := by decide +kernel
theorem dL_leave_206 : decode cL_leave 206 = .ok (.iinc 8 1, 3) := by decide +kernel
theorem dL_leave_209 : decode cL_leave 209 = .ok (.goto (-58), 3) := by decide +kernel
theorem dL_leave_212 : decode cL_leave 212 = .ok (.iload 7, 2) := by decide +kernel
theorem dL_leave_214 : decode cL_leave 214 = .ok (.ifCond .eq 7, 3) := by decide +kernel
theorem dL_leave_217 : decode cL_leave 217 = .ok (.iconst 0, 1) := by decide +kernel
theorem dL_leave_218 : decode cL_leave 218 = .ok (.goto 22, 3) := by decide +kernel
theorem dL_leave_221 : decode cL_leave 221 = .ok (.iload 6, 2) := by decide +kernel
theorem dL_leave_223 : decode cL_leave 223 = .ok (.ifCond .eq 7, 3) := by decide +kernel
theorem dL_leave_226 : decode cL_leave 226 = .ok (.iconst 2, 1) := by decide +kernel
theorem dL_leave_227 : decode cL_leave 227 = .ok (.goto 13, 3) := by decide +kernel
theorem dL_leave_230 : decode cL_leave 230 = .ok (.iload 5, 2) := by decide +kernel
theorem dL_leave_232 : decode cL_leave 232 = .ok (.ifCond .eq 7, 3) := by decide +kernel
theorem dL_leave_235 : decode cL_leave 235 = .ok (.iconst 1, 1) := by decide +kernel
theorem dL_leave_236 : decode cL_leave 236 = .ok (.goto 4, 3) := by decide +kernel
theorem dL_leave_239 : decode cL_leave 239 = .ok (.iconst 0, 1) := by decide +kernel
theorem dL_leave_240 : decode cL_leave 240 = .ok (.ireturn, 1) := by decide +kernel
theorem dL_expiry_0 : decode cL_expiry 0 = .ok (.bipush 30, 2) := by decide +kernel
theorem dL_expiry_2 : decode cL_expiry 2 = .ok (.iload_n 0, 1) := by decide +kernel
theorem dL_expiry_3 : decode cL_expiry 3 = .ok (.imul, 1) := by decide +kernel
theorem dL_expiry_4 : decode cL_expiry 4 = .ok (.iconst 1, 1) := by decide +kernel
theorem dL_expiry_5 : decode cL_expiry 5 = .ok (.isub, 1) := by decide +kernel
theorem dL_expiry_6 : decode cL_expiry 6 = .ok (.sipush 360, 3) := by decide +kernel
theorem dL_expiry_9 : decode cL_expiry 9 = .ok (.idiv, 1) := by decide +kernel
theorem dL_expiry_10 : decode cL_expiry 10 = .ok (.sipush 360, 3) := by decide +kernel
theorem dL_expiry_13 : decode cL_expiry 13 = .ok (.imul, 1) := by decide +kernel
theorem dL_expiry_14 : decode cL_expiry 14 = .ok (.sipush 450, 3) := by decide +kernel
theorem dL_expiry_17 : decode cL_expiry 17 = .ok (.iadd, 1) := by decide +kernel
theorem dL_expiry_18 : decode cL_expiry 18 = .ok (.ireturn, 1) := by decide +kernel
theorem dL_sum_0 : decode cL_sum 0 = .ok (.iconst 0, 1) := by decide +kernel
theorem dL_sum_1 : decode cL_sum 1 = .ok (.istore_n 1, 1) := by decide +kernel
theorem dL_sum_2 : decode cL_sum 2 = .ok (.iconst 0, 1) := by decide +kernel
theorem dL_sum_3 : decode cL_sum 3 = .ok (.istore_n 2, 1) := by decide +kernel
theorem dL_sum_4 : decode cL_sum 4 = .ok (.iload_n 2, 1) := by decide +kernel
theorem dL_sum_5 : decode cL_sum 5 = .ok (.bipush 64, 2) := by decide +kernel
theorem dL_sum_7 : decode cL_sum 7 = .ok (.if_icmp .ge 15, 3) := by decide +kernel
theorem dL_sum_10 : decode cL_sum 10 = .ok (.iload_n 1, 1) := by decide +kernel
theorem dL_sum_11 : decode cL_sum 11 = .ok (.aload_n 0, 1) := by decide +kernel
theorem dL_sum_12 : decode cL_sum 12 = .ok (.iload_n 2, 1) := by decide +kernel
theorem dL_sum_13 : decode cL_sum 13 = .ok (.iaload, 1) := by decide +kernel
theorem dL_sum_14 : decode cL_sum 14 = .ok (.iadd, 1) := by decide +kernel
theorem dL_sum_15 : decode cL_sum 15 = .ok (.istore_n 1, 1) := by decide +kernel
theorem dL_sum_16 : decode cL_sum 16 = .ok (.iinc 2 1, 3) := by decide +kernel
theorem dL_sum_19 : decode cL_sum 19 = .ok (.goto (-15), 3) := by decide +kernel
theorem dL_sum_22 : decode cL_sum 22 = .ok (.iload_n 1, 1) := by decide +kernel
theorem dL_sum_23 : decode cL_sum 23 = .ok (.ireturn, 1) := by decide +kernel
theorem dL_draw_0 : decode cL_draw 0 = .ok (.iload_n 0, 1) := by decide +kernel
theorem dL_draw_1 : decode cL_draw 1 = .ok (.istore_n 2, 1) := by decide +kernel
theorem dL_draw_2 : decode cL_draw 2 = .ok (.iconst 0, 1) := by decide +kernel
theorem dL_draw_3 : decode cL_draw 3 = .ok (.istore_n 3, 1) := by decide +kernel
theorem dL_draw_4 : decode cL_draw 4 = .ok (.iload_n 3, 1) := by decide +kernel
theorem dL_draw_5 : decode cL_draw 5 = .ok (.bipush 64, 2) := by decide +kernel
theorem dL_draw_7 : decode cL_draw 7 = .ok (.if_icmp .ge 42, 3) := by decide +kernel
theorem dL_draw_10 : decode cL_draw 10 = .ok (.iload_n 2, 1) := by decide +kernel
theorem dL_draw_11 : decode cL_draw 11 = .ok (.ifCond .le 38, 3) := by decide +kernel
theorem dL_draw_14 : decode cL_draw 14 = .ok (.aload_n 1, 1) := by decide +kernel
theorem dL_draw_15 : decode cL_draw 15 = .ok (.iload_n 3, 1) := by decide +kernel
theorem dL_draw_16 : decode cL_draw 16 = .ok (.iaload, 1) := by decide +kernel
theorem dL_draw_17 : decode cL_draw 17 = .ok (.iload_n 2, 1) := by decide +kernel
theorem dL_draw_18 : decode cL_draw 18 = .ok (.if_icmp .le 7, 3) := by decide +kernel
theorem dL_draw_21 : decode cL_draw 21 = .ok (.iload_n 2, 1) := by decide +kernel
theorem dL_draw_22 : decode cL_draw 22 = .ok (.goto 6, 3) := by decide +kernel
theorem dL_draw_25 : decode cL_draw 25 = .ok (.aload_n 1, 1) := by decide +kernel
theorem dL_draw_26 : decode cL_draw 26 = .ok (.iload_n 3, 1) := by decide +kernel
theorem dL_draw_27 : decode cL_draw 27 = .ok (.iaload, 1) := by decide +kernel
theorem dL_draw_28 : decode cL_draw 28 = .ok (.istore 4, 2) := by decide +kernel
theorem dL_draw_30 : decode cL_draw 30 = .ok (.aload_n 1, 1) := by decide +kernel
theorem dL_draw_31 : decode cL_draw 31 = .ok (.iload_n 3, 1) := by decide +kernel
theorem dL_draw_32 : decode cL_draw 32 = .ok (.dup2, 1) := by decide +kernel
theorem dL_draw_33 : decode cL_draw 33 = .ok (.iaload, 1) := by decide +kernel
theorem dL_draw_34 : decode cL_draw 34 = .ok (.iload 4, 2) := by decide +kernel
theorem dL_draw_36 : decode cL_draw 36 = .ok (.isub, 1) := by decide +kernel
theorem dL_draw_37 : decode cL_draw 37 = .ok (.iastore, 1) := by decide +kernel
theorem dL_draw_38 : decode cL_draw 38 = .ok (.iload_n 2, 1) := by decide +kernel
theorem dL_draw_39 : decode cL_draw 39 = .ok (.iload 4, 2) := by decide +kernel
theorem dL_draw_41 : decode cL_draw 41 = .ok (.isub, 1) := by decide +kernel
theorem dL_draw_42 : decode cL_draw 42 = .ok (.istore_n 2, 1) := by decide +kernel
theorem dL_draw_43 : decode cL_draw 43 = .ok (.iinc 3 1, 3) := by decide +kernel
theorem dL_draw_46 : decode cL_draw 46 = .ok (.goto (-42), 3) := by decide +kernel
theorem dL_draw_49 : decode cL_draw 49 = .ok (.iload_n 0, 1) := by decide +kernel
theorem dL_draw_50 : decode cL_draw 50 = .ok (.iload_n 2, 1) := by decide +kernel
theorem dL_draw_51 : decode cL_draw 51 = .ok (.isub, 1) := by decide +kernel
theorem dL_draw_52 : decode cL_draw 52 = .ok (.ireturn, 1) := by decide +kernel
theorem dL_go_0 : decode cL_go 0 = .ok (.iconst 0, 1) := by decide +kernel
theorem dL_go_1 : decode cL_go 1 = .ok (.istore 9, 2) := by decide +kernel
theorem dL_go_3 : decode cL_go 3 = .ok (.iload 9, 2) := by decide +kernel
theorem dL_go_5 : decode cL_go 5 = .ok (.bipush 64, 2) := by decide +kernel
theorem dL_go_7 : decode cL_go 7 = .ok (.if_icmp .ge 15, 3) := by decide +kernel
theorem dL_go_10 : decode cL_go 10 = .ok (.aload 6, 2) := by decide +kernel
theorem dL_go_12 : decode cL_go 12 = .ok (.iload 9, 2) := by decide +kernel
theorem dL_go_14 : decode cL_go 14 = .ok (.iconst 0, 1) := by decide +kernel
theorem dL_go_15 : decode cL_go 15 = .ok (.iastore, 1) := by decide +kernel
theorem dL_go_16 : decode cL_go 16 = .ok (.iinc 9 1, 3) := by decide +kernel
theorem dL_go_19 : decode cL_go 19 = .ok (.goto (-16), 3) := by decide +kernel
theorem dL_go_22 : decode cL_go 22 = .ok (.iconst 0, 1) := by decide +kernel
theorem dL_go_23 : decode cL_go 23 = .ok (.istore 9, 2) := by decide +kernel
theorem dL_go_25 : decode cL_go 25 = .ok (.iload 9, 2) := by decide +kernel
theorem dL_go_27 : decode cL_go 27 = .ok (.bipush 6, 2) := by decide +kernel
theorem dL_go_29 : decode cL_go 29 = .ok (.if_icmp .ge 15, 3) := by decide +kernel
theorem dL_go_32 : decode cL_go 32 = .ok (.aload 7, 2) := by decide +kernel
theorem dL_go_34 : decode cL_go 34 = .ok (.iload 9, 2) := by decide +kernel
theorem dL_go_36 : decode cL_go 36 = .ok (.iconst 0, 1) := by decide +kernel
theorem dL_go_37 : decode cL_go 37 = .ok (.iastore, 1) := by decide +kernel
theorem dL_go_38 : decode cL_go 38 = .ok (.iinc 9 1, 3) := by decide +kernel
theorem dL_go_41 : decode cL_go 41 = .ok (.goto (-16), 3) := by decide +kernel
theorem dL_go_44 : decode cL_go 44 = .ok (.aload_n 2, 1) := by decide +kernel
theorem dL_go_45 : decode cL_go 45 = .ok (.iconst 4, 1) := by decide +kernel
theorem dL_go_46 : decode cL_go 46 = .ok (.iload_n 0, 1) := by decide +kernel
theorem dL_go_47 : decode cL_go 47 = .ok (.imul, 1) := by decide +kernel
theorem dL_go_48 : decode cL_go 48 = .ok (.iaload, 1) := by decide +kernel
theorem dL_go_49 : decode cL_go 49 = .ok (.istore 9, 2) := by decide +kernel
theorem dL_go_51 : decode cL_go 51 = .ok (.iload 9, 2) := by decide +kernel
theorem dL_go_53 : decode cL_go 53 = .ok (.iload_n 1, 1) := by decide +kernel
theorem dL_go_54 : decode cL_go 54 = .ok (.if_icmp .gt 390, 3) := by decide +kernel
theorem dL_go_57 : decode cL_go 57 = .ok (.iload 9, 2) := by decide +kernel
theorem dL_go_59 : decode cL_go 59 = .ok (.bipush 30, 2) := by decide +kernel
theorem dL_go_61 : decode cL_go 61 = .ok (.idiv, 1) := by decide +kernel
theorem dL_go_62 : decode cL_go 62 = .ok (.istore 10, 2) := by decide +kernel
theorem dL_go_64 : decode cL_go 64 = .ok (.iload 9, 2) := by decide +kernel
theorem dL_go_66 : decode cL_go 66 = .ok (.bipush 30, 2) := by decide +kernel
theorem dL_go_68 : decode cL_go 68 = .ok (.iload 10, 2) := by decide +kernel
theorem dL_go_70 : decode cL_go 70 = .ok (.imul, 1) := by decide +kernel
theorem dL_go_71 : decode cL_go 71 = .ok (.if_icmp .ne 119, 3) := by decide +kernel
theorem dL_go_74 : decode cL_go 74 = .ok (.iload 9, 2) := by decide +kernel
theorem dL_go_76 : decode cL_go 76 = .ok (.aload_n 2, 1) := by decide +kernel
theorem dL_go_77 : decode cL_go 77 = .ok (.iconst 4, 1) := by decide +kernel
theorem dL_go_78 : decode cL_go 78 = .ok (.iload_n 0, 1) := by decide +kernel
theorem dL_go_79 : decode cL_go 79 = .ok (.imul, 1) := by decide +kernel
theorem dL_go_80 : decode cL_go 80 = .ok (.iaload, 1) := by decide +kernel
theorem dL_go_81 : decode cL_go 81 = .ok (.bipush 30, 2) := by decide +kernel
theorem dL_go_83 : decode cL_go 83 = .ok (.iadd, 1) := by decide +kernel
theorem dL_go_84 : decode cL_go 84 = .ok (.if_icmp .lt 106, 3) := by decide +kernel
theorem dL_go_87 : decode cL_go 87 = .ok (.iload 9, 2) := by decide +kernel
theorem dL_go_89 : decode cL_go 89 = .ok (.aload_n 2, 1) := by decide +kernel
theorem dL_go_90 : decode cL_go 90 = .ok (.iconst 4, 1) := by decide +kernel
theorem dL_go_91 : decode cL_go 91 = .ok (.iload_n 0, 1) := by decide +kernel
theorem dL_go_92 : decode cL_go 92 = .ok (.imul, 1) := by decide +kernel
theorem dL_go_93 : decode cL_go 93 = .ok (.iaload, 1) := by decide +kernel
theorem dL_go_94 : decode cL_go 94 = .ok (.isub, 1) := by decide +kernel
theorem dL_go_95 : decode cL_go 95 = .ok (.sipush 360, 3) := by decide +kernel
theorem dL_go_98 : decode cL_go 98 = .ok (.idiv, 1) := by decide +kernel
theorem dL_go_99 : decode cL_go 99 = .ok (.istore 11, 2) := by decide +kernel
theorem dL_go_101 : decode cL_go 101 = .ok (.iconst 2, 1) := by decide +kernel
theorem dL_go_102 : decode cL_go 102 = .ok (.aload_n 2, 1) := by decide +kernel
theorem dL_go_103 : decode cL_go 103 = .ok (.iconst 4, 1) := by decide +kernel
theorem dL_go_104 : decode cL_go 104 = .ok (.iload_n 0, 1) := by decide +kernel
theorem dL_go_105 : decode cL_go 105 = .ok (.imul, 1) := by decide +kernel
theorem dL_go_106 : decode cL_go 106 = .ok (.iconst 1, 1) := by decide +kernel
theorem dL_go_107 : decode cL_go 107 = .ok (.iadd, 1) := by decide +kernel
theorem dL_go_108 : decode cL_go 108 = .ok (.iaload, 1) := by decide +kernel
theorem dL_go_109 : decode cL_go 109 = .ok (.iload 11, 2) := by decide +kernel
theorem dL_go_111 : decode cL_go 111 = .ok (.iconst 3, 1) := by decide +kernel
theorem dL_go_112 : decode cL_go 112 = .ok (.idiv, 1) := by decide +kernel
theorem dL_go_113 : decode cL_go 113 = .ok (.iconst 5, 1) := by decide +kernel
theorem dL_go_114 : decode cL_go 114 = .ok (.if_icmp .le 8, 3) := by decide +kernel
theorem dL_go_117 : decode cL_go 117 = .ok (.bipush 10, 2) := by decide +kernel
theorem dL_go_119 : decode cL_go 119 = .ok (.goto 9, 3) := by decide +kernel
theorem dL_go_122 : decode cL_go 122 = .ok (.iconst 2, 1) := by decide +kernel
theorem dL_go_123 : decode cL_go 123 = .ok (.iload 11, 2) := by decide +kernel
theorem dL_go_125 : decode cL_go 125 = .ok (.iconst 3, 1) := by decide +kernel
theorem dL_go_126 : decode cL_go 126 = .ok (.idiv, 1) := by decide +kernel
theorem dL_go_127 : decode cL_go 127 = .ok (.imul, 1) := by decide +kernel
theorem dL_go_128 : decode cL_go 128 = .ok (.iadd, 1) := by decide +kernel
theorem dL_go_129 : decode cL_go 129 = .ok (.imul, 1) := by decide +kernel
theorem dL_go_130 : decode cL_go 130 = .ok (.iload_n 0, 1) := by decide +kernel
theorem dL_go_131 : decode cL_go 131 = .ok (.iload 9, 2) := by decide +kernel
theorem dL_go_133 : decode cL_go 133 = .ok (.iconst 1, 1) := by decide +kernel
theorem dL_go_134 : decode cL_go 134 = .ok (.isub, 1) := by decide +kernel
theorem dL_go_135 : decode cL_go 135 = .ok (.aload_n 2, 1) := by decide +kernel
theorem dL_go_136 : decode cL_go 136 = .ok (.invokestatic 40, 3) := by decide +kernel
theorem dL_go_139 : decode cL_go 139 = .ok (.imul, 1) := by decide +kernel
theorem dL_go_140 : decode cL_go 140 = .ok (.istore 12, 2) := by decide +kernel
theorem dL_go_142 : decode cL_go 142 = .ok (.aload 7, 2) := by decide +kernel
theorem dL_go_144 : decode cL_go 144 = .ok (.iconst 0, 1) := by decide +kernel
theorem dL_go_145 : decode cL_go 145 = .ok (.iaload, 1) := by decide +kernel
theorem dL_go_146 : decode cL_go 146 = .ok (.iload 12, 2) := by decide +kernel
theorem dL_go_148 : decode cL_go 148 = .ok (.if_icmp .le 8, 3) := by decide +kernel
theorem dL_go_151 : decode cL_go 151 = .ok (.iload 12, 2) := by decide +kernel
theorem dL_go_153 : decode cL_go 153 = .ok (.goto 7, 3) := by decide +kernel
theorem dL_go_156 : decode cL_go 156 = .ok (.aload 7, 2) := by decide +kernel
theorem dL_go_158 : decode cL_go 158 = .ok (.iconst 0, 1) := by decide +kernel
theorem dL_go_159 : decode cL_go 159 = .ok (.iaload, 1) := by decide +kernel
theorem dL_go_160 : decode cL_go 160 = .ok (.istore 13, 2) := by decide +kernel
theorem dL_go_162 : decode cL_go 162 = .ok (.aload 7, 2) := by decide +kernel
theorem dL_go_164 : decode cL_go 164 = .ok (.iconst 0, 1) := by decide +kernel
theorem dL_go_165 : decode cL_go 165 = .ok (.dup2, 1) := by decide +kernel
theorem dL_go_166 : decode cL_go 166 = .ok (.iaload, 1) := by decide +kernel
theorem dL_go_167 : decode cL_go 167 = .ok (.iload 13, 2) := by decide +kernel
theorem dL_go_169 : decode cL_go 169 = .ok (.isub, 1) := by decide +kernel
theorem dL_go_170 : decode cL_go 170 = .ok (.iastore, 1) := by decide +kernel
theorem dL_go_171 : decode cL_go 171 = .ok (.aload 6, 2) := by decide +kernel
theorem dL_go_173 : decode cL_go 173 = .ok (.iload 10, 2) := by decide +kernel
theorem dL_go_175 : decode cL_go 175 = .ok (.iload 12, 2) := by decide +kernel
theorem dL_go_177 : decode cL_go 177 = .ok (.iload 13, 2) := by decide +kernel
theorem dL_go_179 : decode cL_go 179 = .ok (.isub, 1) := by decide +kernel
theorem dL_go_180 : decode cL_go 180 = .ok (.iastore, 1) := by decide +kernel
theorem dL_go_181 : decode cL_go 181 = .ok (.aload 7, 2) := by decide +kernel
theorem dL_go_183 : decode cL_go 183 = .ok (.iconst 1, 1) := by decide +kernel
theorem dL_go_184 : decode cL_go 184 = .ok (.dup2, 1) := by decide +kernel
theorem dL_go_185 : decode cL_go 185 = .ok (.iaload, 1) := by decide +kernel
theorem dL_go_186 : decode cL_go 186 = .ok (.iload 12, 2) := by decide +kernel
theorem dL_go_188 : decode cL_go 188 = .ok (.iadd, 1) := by decide +kernel
theorem dL_go_189 : decode cL_go 189 = .ok (.iastore, 1) := by decide +kernel
theorem dL_go_190 : decode cL_go 190 = .ok (.iconst 0, 1) := by decide +kernel
theorem dL_go_191 : decode cL_go 191 = .ok (.istore 11, 2) := by decide +kernel
theorem dL_go_193 : decode cL_go 193 = .ok (.iload 11, 2) := by decide +kernel
theorem dL_go_195 : decode cL_go 195 = .ok (.bipush 64, 2) := by decide +kernel
theorem dL_go_197 : decode cL_go 197 = .ok (.if_icmp .ge 81, 3) := by decide +kernel
theorem dL_go_200 : decode cL_go 200 = .ok (.iload 9, 2) := by decide +kernel
theorem dL_go_202 : decode cL_go 202 = .ok (.bipush 30, 2) := by decide +kernel
theorem dL_go_204 : decode cL_go 204 = .ok (.iload 10, 2) := by decide +kernel
theorem dL_go_206 : decode cL_go 206 = .ok (.imul, 1) := by decide +kernel
theorem dL_go_207 : decode cL_go 207 = .ok (.if_icmp .ne 71, 3) := by decide +kernel
theorem dL_go_210 : decode cL_go 210 = .ok (.iload 11, 2) := by decide +kernel
theorem dL_go_212 : decode cL_go 212 = .ok (.ifCond .le 17, 3) := by decide +kernel
theorem dL_go_215 : decode cL_go 215 = .ok (.iload 11, 2) := by decide +kernel
theorem dL_go_217 : decode cL_go 217 = .ok (.invokestatic 46, 3) := by decide +kernel
theorem dL_go_220 : decode cL_go 220 = .ok (.iload 9, 2) := by decide +kernel
theorem dL_go_222 : decode cL_go 222 = .ok (.if_icmp .ne 7, 3) := by decide +kernel
theorem dL_go_225 : decode cL_go 225 = .ok (.iconst 1, 1) := by decide +kernel
theorem dL_go_226 : decode cL_go 226 = .ok (.goto 4, 3) := by decide +kernel
theorem dL_go_229 : decode cL_go 229 = .ok (.iconst 0, 1) := by decide +kernel
theorem dL_go_230 : decode cL_go 230 = .ok (.istore 12, 2) := by decide +kernel
theorem dL_go_232 : decode cL_go 232 = .ok (.aload 7, 2) := by decide +kernel
theorem dL_go_234 : decode cL_go 234 = .ok (.iconst 3, 1) := by decide +kernel
theorem dL_go_235 : decode cL_go 235 = .ok (.dup2, 1) := by decide +kernel
theorem dL_go_236 : decode cL_go 236 = .ok (.iaload, 1) := by decide +kernel
theorem dL_go_237 : decode cL_go 237 = .ok (.iload 12, 2) := by decide +kernel
theorem dL_go_239 : decode cL_go 239 = .ok (.ifCond .eq 11, 3) := by decide +kernel
theorem dL_go_242 : decode cL_go 242 = .ok (.aload 6, 2) := by decide +kernel
theorem dL_go_244 : decode cL_go 244 = .ok (.iload 11, 2) := by decide +kernel
theorem dL_go_246 : decode cL_go 246 = .ok (.iaload, 1) := by decide +kernel
theorem dL_go_247 : decode cL_go 247 = .ok (.goto 4, 3) := by decide +kernel
theorem dL_go_250 : decode cL_go 250 = .ok (.iconst 0, 1) := by decide +kernel
theorem dL_go_251 : decode cL_go 251 = .ok (.iadd, 1) := by decide +kernel
theorem dL_go_252 : decode cL_go 252 = .ok (.iastore, 1) := by decide +kernel
theorem dL_go_253 : decode cL_go 253 = .ok (.aload 6, 2) := by decide +kernel
theorem dL_go_255 : decode cL_go 255 = .ok (.iload 11, 2) := by decide +kernel
theorem dL_go_257 : decode cL_go 257 = .ok (.iload 12, 2) := by decide +kernel
theorem dL_go_259 : decode cL_go 259 = .ok (.ifCond .eq 7, 3) := by decide +kernel
theorem dL_go_262 : decode cL_go 262 = .ok (.iconst 0, 1) := by decide +kernel
theorem dL_go_263 : decode cL_go 263 = .ok (.goto 8, 3) := by decide +kernel
theorem dL_go_266 : decode cL_go 266 = .ok (.aload 6, 2) := by decide +kernel
theorem dL_go_268 : decode cL_go 268 = .ok (.iload 11, 2) := by decide +kernel
theorem dL_go_270 : decode cL_go 270 = .ok (.iaload, 1) := by decide +kernel
theorem dL_go_271 : decode cL_go 271 = .ok (.iastore, 1) := by decide +kernel
theorem dL_go_272 : decode cL_go 272 = .ok (.iinc 11 1, 3) := by decide +kernel
theorem dL_go_275 : decode cL_go 275 = .ok (.goto (-82), 3) := by decide +kernel
theorem dL_go_278 : decode cL_go 278 = .ok (.sipush 240, 3) := by decide +kernel
theorem dL_go_281 : decode cL_go 281 = .ok (.iload_n 0, 1) := by decide +kernel
theorem dL_go_282 : decode cL_go 282 = .ok (.iload 9, 2) := by decide +kernel
theorem dL_go_284 : decode cL_go 284 = .ok (.aload_n 3, 1) := by decide +kernel
theorem dL_go_285 : decode cL_go 285 = .ok (.aload 4, 2) := by decide +kernel
theorem dL_go_287 : decode cL_go 287 = .ok (.aload 8, 2) := by decide +kernel
theorem dL_go_289 : decode cL_go 289 = .ok (.invokestatic 50, 3) := by decide +kernel
theorem dL_go_292 : decode cL_go 292 = .ok (.imul, 1) := by decide +kernel
theorem dL_go_293 : decode cL_go 293 = .ok (.istore 11, 2) := by decide +kernel
theorem dL_go_295 : decode cL_go 295 = .ok (.iload 11, 2) := by decide +kernel
theorem dL_go_297 : decode cL_go 297 = .ok (.aload 6, 2) := by decide +kernel
theorem dL_go_299 : decode cL_go 299 = .ok (.invokestatic 54, 3) := by decide +kernel
theorem dL_go_302 : decode cL_go 302 = .ok (.isub, 1) := by decide +kernel
theorem dL_go_303 : decode cL_go 303 = .ok (.istore 12, 2) := by decide +kernel
theorem dL_go_305 : decode cL_go 305 = .ok (.iload 11, 2) := by decide +kernel
theorem dL_go_307 : decode cL_go 307 = .ok (.ifCond .le 32, 3) := by decide +kernel
theorem dL_go_310 : decode cL_go 310 = .ok (.iload 12, 2) := by decide +kernel
theorem dL_go_312 : decode cL_go 312 = .ok (.ifCond .le 27, 3) := by decide +kernel
theorem dL_go_315 : decode cL_go 315 = .ok (.aload 7, 2) := by decide +kernel
theorem dL_go_317 : decode cL_go 317 = .ok (.iconst 0, 1) := by decide +kernel
theorem dL_go_318 : decode cL_go 318 = .ok (.iaload, 1) := by decide +kernel
theorem dL_go_319 : decode cL_go 319 = .ok (.iload 12, 2) := by decide +kernel
theorem dL_go_321 : decode cL_go 321 = .ok (.iadd, 1) := by decide +kernel
theorem dL_go_322 : decode cL_go 322 = .ok (.sipush 2400, 3) := by decide +kernel
theorem dL_go_325 : decode cL_go 325 = .ok (.if_icmp .le 14, 3) := by decide +kernel
theorem dL_go_328 : decode cL_go 328 = .ok (.aload 7, 2) := by decide +kernel
theorem dL_go_330 : decode cL_go 330 = .ok (.iconst 5, 1) := by decide +kernel
theorem dL_go_331 : decode cL_go 331 = .ok (.dup2, 1) := by decide +kernel
theorem dL_go_332 : decode cL_go 332 = .ok (.iaload, 1) := by decide +kernel
theorem dL_go_333 : decode cL_go 333 = .ok (.iconst 1, 1) := by decide +kernel
theorem dL_go_334 : decode cL_go 334 = .ok (.iadd, 1) := by decide +kernel
theorem dL_go_335 : decode cL_go 335 = .ok (.iastore, 1) := by decide +kernel
theorem dL_go_336 : decode cL_go 336 = .ok (.goto 34, 3) := by decide +kernel
theorem dL_go_339 : decode cL_go 339 = .ok (.iload 11, 2) := by decide +kernel
theorem dL_go_341 : decode cL_go 341 = .ok (.ifCond .le 29, 3) := by decide +kernel
theorem dL_go_344 : decode cL_go 344 = .ok (.aload 7, 2) := by decide +kernel
theorem dL_go_346 : decode cL_go 346 = .ok (.iconst 0, 1) := by decide +kernel
theorem dL_go_347 : decode cL_go 347 = .ok (.dup2, 1) := by decide +kernel
theorem dL_go_348 : decode cL_go 348 = .ok (.iaload, 1) := by decide +kernel
theorem dL_go_349 : decode cL_go 349 = .ok (.iload 11, 2) := by decide +kernel
theorem dL_go_351 : decode cL_go 351 = .ok (.iload 11, 2) := by decide +kernel
theorem dL_go_353 : decode cL_go 353 = .ok (.aload 6, 2) := by decide +kernel
theorem dL_go_355 : decode cL_go 355 = .ok (.invokestatic 58, 3) := by decide +kernel
theorem dL_go_358 : decode cL_go 358 = .ok (.isub, 1) := by decide +kernel
theorem dL_go_359 : decode cL_go 359 = .ok (.iadd, 1) := by decide +kernel
theorem dL_go_360 : decode cL_go 360 = .ok (.iastore, 1) := by decide +kernel
theorem dL_go_361 : decode cL_go 361 = .ok (.aload 7, 2) := by decide +kernel
theorem dL_go_363 : decode cL_go 363 = .ok (.iconst 2, 1) := by decide +kernel
theorem dL_go_364 : decode cL_go 364 = .ok (.dup2, 1) := by decide +kernel
theorem dL_go_365 : decode cL_go 365 = .ok (.iaload, 1) := by decide +kernel
theorem dL_go_366 : decode cL_go 366 = .ok (.iload 11, 2) := by decide +kernel
theorem dL_go_368 : decode cL_go 368 = .ok (.iadd, 1) := by decide +kernel
theorem dL_go_369 : decode cL_go 369 = .ok (.iastore, 1) := by decide +kernel
theorem dL_go_370 : decode cL_go 370 = .ok (.iconst 0, 1) := by decide +kernel
theorem dL_go_371 : decode cL_go 371 = .ok (.istore 13, 2) := by decide +kernel
theorem dL_go_373 : decode cL_go 373 = .ok (.iload 13, 2) := by decide +kernel
theorem dL_go_375 : decode cL_go 375 = .ok (.aload 8, 2) := by decide +kernel
theorem dL_go_377 : decode cL_go 377 = .ok (.iconst 4, 1) := by decide +kernel
theorem dL_go_378 : decode cL_go 378 = .ok (.iaload, 1) := by decide +kernel
theorem dL_go_379 : decode cL_go 379 = .ok (.if_icmp .ge 59, 3) := by decide +kernel
theorem dL_go_382 : decode cL_go 382 = .ok (.aload 7, 2) := by decide +kernel
theorem dL_go_384 : decode cL_go 384 = .ok (.iconst 4, 1) := by decide +kernel
theorem dL_go_385 : decode cL_go 385 = .ok (.dup2, 1) := by decide +kernel
theorem dL_go_386 : decode cL_go 386 = .ok (.iaload, 1) := by decide +kernel
theorem dL_go_387 : decode cL_go 387 = .ok (.aload 5, 2) := by decide +kernel
theorem dL_go_389 : decode cL_go 389 = .ok (.iconst 3, 1) := by decide +kernel
theorem dL_go_390 : decode cL_go 390 = .ok (.iload 13, 2) := by decide +kernel
theorem dL_go_392 : decode cL_go 392 = .ok (.imul, 1) := by decide +kernel
theorem dL_go_393 : decode cL_go 393 = .ok (.iaload, 1) := by decide +kernel
theorem dL_go_394 : decode cL_go 394 = .ok (.iload_n 0, 1) := by decide +kernel
theorem dL_go_395 : decode cL_go 395 = .ok (.if_icmp .ne 34, 3) := by decide +kernel
theorem dL_go_398 : decode cL_go 398 = .ok (.aload 5, 2) := by decide +kernel
theorem dL_go_400 : decode cL_go 400 = .ok (.iconst 3, 1) := by decide +kernel
theorem dL_go_401 : decode cL_go 401 = .ok (.iload 13, 2) := by decide +kernel
theorem dL_go_403 : decode cL_go 403 = .ok (.imul, 1) := by decide +kernel
theorem dL_go_404 : decode cL_go 404 = .ok (.iconst 1, 1) := by decide +kernel
theorem dL_go_405 : decode cL_go 405 = .ok (.iadd, 1) := by decide +kernel
theorem dL_go_406 : decode cL_go 406 = .ok (.iaload, 1) := by decide +kernel
theorem dL_go_407 : decode cL_go 407 = .ok (.iload 9, 2) := by decide +kernel
theorem dL_go_409 : decode cL_go 409 = .ok (.if_icmp .ne 20, 3) := by decide +kernel
theorem dL_go_412 : decode cL_go 412 = .ok (.aload 5, 2) := by decide +kernel
theorem dL_go_414 : decode cL_go 414 = .ok (.iconst 3, 1) := by decide +kernel
theorem dL_go_415 : decode cL_go 415 = .ok (.iload 13, 2) := by decide +kernel
theorem dL_go_417 : decode cL_go 417 = .ok (.imul, 1) := by decide +kernel
theorem dL_go_418 : decode cL_go 418 = .ok (.iconst 2, 1) := by decide +kernel
theorem dL_go_419 : decode cL_go 419 = .ok (.iadd, 1) := by decide +kernel
theorem dL_go_420 : decode cL_go 420 = .ok (.iaload, 1) := by decide +kernel
theorem dL_go_421 : decode cL_go 421 = .ok (.aload 6, 2) := by decide +kernel
theorem dL_go_423 : decode cL_go 423 = .ok (.invokestatic 58, 3) := by decide +kernel
theorem dL_go_426 : decode cL_go 426 = .ok (.goto 4, 3) := by decide +kernel
theorem dL_go_429 : decode cL_go 429 = .ok (.iconst 0, 1) := by decide +kernel
theorem dL_go_430 : decode cL_go 430 = .ok (.iadd, 1) := by decide +kernel
theorem dL_go_431 : decode cL_go 431 = .ok (.iastore, 1) := by decide +kernel
theorem dL_go_432 : decode cL_go 432 = .ok (.iinc 13 1, 3) := by decide +kernel
theorem dL_go_435 : decode cL_go 435 = .ok (.goto (-62), 3) := by decide +kernel
theorem dL_go_438 : decode cL_go 438 = .ok (.iinc 9 1, 3) := by decide +kernel
theorem dL_go_441 : decode cL_go 441 = .ok (.goto (-390), 3) := by decide +kernel
theorem dL_go_444 : decode cL_go 444 = .ok (.return_, 1) := by decide +kernel
theorem dL_isSo_0 : decode cL_isSo 0 = .ok (.iload_n 1, 1) := by decide +kernel
theorem dL_isSo_1 : decode cL_isSo 1 = .ok (.iload_n 2, 1) := by decide +kernel
theorem dL_isSo_2 : decode cL_isSo 2 = .ok (.aload_n 3, 1) := by decide +kernel
theorem dL_isSo_3 : decode cL_isSo 3 = .ok (.aload 4, 2) := by decide +kernel
theorem dL_isSo_5 : decode cL_isSo 5 = .ok (.aload 5, 2) := by decide +kernel
theorem dL_isSo_7 : decode cL_isSo 7 = .ok (.aload 6, 2) := by decide +kernel
theorem dL_isSo_9 : decode cL_isSo 9 = .ok (.aload 7, 2) := by decide +kernel
theorem dL_isSo_11 : decode cL_isSo 11 = .ok (.aload 8, 2) := by decide +kernel
theorem dL_isSo_13 : decode cL_isSo 13 = .ok (.aload 9, 2) := by decide +kernel
theorem dL_isSo_15 : decode cL_isSo 15 = .ok (.invokestatic 62, 3) := by decide +kernel
theorem dL_isSo_18 : decode cL_isSo 18 = .ok (.iconst (-1), 1) := by decide +kernel
theorem dL_isSo_19 : decode cL_isSo 19 = .ok (.istore 10, 2) := by decide +kernel
theorem dL_isSo_21 : decode cL_isSo 21 = .ok (.bipush 63, 2) := by decide +kernel
theorem dL_isSo_23 : decode cL_isSo 23 = .ok (.istore 11, 2) := by decide +kernel
theorem dL_isSo_25 : decode cL_isSo 25 = .ok (.iload 11, 2) := by decide +kernel
theorem dL_isSo_27 : decode cL_isSo 27 = .ok (.ifCond .le 29, 3) := by decide +kernel
theorem dL_isSo_30 : decode cL_isSo 30 = .ok (.aload 7, 2) := by decide +kernel
theorem dL_isSo_32 : decode cL_isSo 32 = .ok (.iload 11, 2) := by decide +kernel
theorem dL_isSo_34 : decode cL_isSo 34 = .ok (.iaload, 1) := by decide +kernel
theorem dL_isSo_35 : decode cL_isSo 35 = .ok (.ifCond .le 11, 3) := by decide +kernel
theorem dL_isSo_38 : decode cL_isSo 38 = .ok (.iload 11, 2) := by decide +kernel
theorem dL_isSo_40 : decode cL_isSo 40 = .ok (.invokestatic 46, 3) := by decide +kernel
theorem dL_isSo_43 : decode cL_isSo 43 = .ok (.goto 5, 3) := by decide +kernel
theorem dL_isSo_46 : decode cL_isSo 46 = .ok (.iload 10, 2) := by decide +kernel
theorem dL_isSo_48 : decode cL_isSo 48 = .ok (.istore 10, 2) := by decide +kernel
theorem dL_isSo_50 : decode cL_isSo 50 = .ok (.iinc 11 (-1), 3) := by decide +kernel
theorem dL_isSo_53 : decode cL_isSo 53 = .ok (.goto (-28), 3) := by decide +kernel
theorem dL_isSo_56 : decode cL_isSo 56 = .ok (.aload 7, 2) := by decide +kernel
theorem dL_isSo_58 : decode cL_isSo 58 = .ok (.invokestatic 54, 3) := by decide +kernel
theorem dL_isSo_61 : decode cL_isSo 61 = .ok (.aload 8, 2) := by decide +kernel
theorem dL_isSo_63 : decode cL_isSo 63 = .ok (.iconst 0, 1) := by decide +kernel
theorem dL_isSo_64 : decode cL_isSo 64 = .ok (.iaload, 1) := by decide +kernel
theorem dL_isSo_65 : decode cL_isSo 65 = .ok (.isub, 1) := by decide +kernel
theorem dL_isSo_66 : decode cL_isSo 66 = .ok (.istore 11, 2) := by decide +kernel
theorem dL_isSo_68 : decode cL_isSo 68 = .ok (.aload_n 0, 1) := by decide +kernel
theorem dL_isSo_69 : decode cL_isSo 69 = .ok (.iload_n 1, 1) := by decide +kernel
theorem dL_isSo_70 : decode cL_isSo 70 = .ok (.iload_n 2, 1) := by decide +kernel
theorem dL_isSo_71 : decode cL_isSo 71 = .ok (.invokevirtual 66, 3) := by decide +kernel
theorem dL_isSo_74 : decode cL_isSo 74 = .ok (.iload 11, 2) := by decide +kernel
theorem dL_isSo_76 : decode cL_isSo 76 = .ok (.if_icmp .ne 151, 3) := by decide +kernel
theorem dL_isSo_79 : decode cL_isSo 79 = .ok (.aload_n 0, 1) := by decide +kernel
theorem dL_isSo_80 : decode cL_isSo 80 = .ok (.iload_n 1, 1) := by decide +kernel
theorem dL_isSo_81 : decode cL_isSo 81 = .ok (.iload_n 2, 1) := by decide +kernel
theorem dL_isSo_82 : decode cL_isSo 82 = .ok (.invokevirtual 69, 3) := by decide +kernel
theorem dL_isSo_85 : decode cL_isSo 85 = .ok (.iload 11, 2) := by decide +kernel
theorem dL_isSo_87 : decode cL_isSo 87 = .ok (.if_icmp .ne 140, 3) := by decide +kernel
theorem dL_isSo_90 : decode cL_isSo 90 = .ok (.aload_n 0, 1) := by decide +kernel
theorem dL_isSo_91 : decode cL_isSo 91 = .ok (.iload_n 1, 1) := by decide +kernel
theorem dL_isSo_92 : decode cL_isSo 92 = .ok (.iload_n 2, 1) := by decide +kernel
theorem dL_isSo_93 : decode cL_isSo 93 = .ok (.invokevirtual 72, 3) := by decide +kernel
theorem dL_isSo_96 : decode cL_isSo 96 = .ok (.aload 8, 2) := by decide +kernel
theorem dL_isSo_98 : decode cL_isSo 98 = .ok (.iconst 0, 1) := by decide +kernel
theorem dL_isSo_99 : decode cL_isSo 99 = .ok (.iaload, 1) := by decide +kernel
theorem dL_isSo_100 : decode cL_isSo 100 = .ok (.if_icmp .ne 127, 3) := by decide +kernel
theorem dL_isSo_103 : decode cL_isSo 103 = .ok (.aload_n 0, 1) := by decide +kernel
theorem dL_isSo_104 : decode cL_isSo 104 = .ok (.iload_n 1, 1) := by decide +kernel
theorem dL_isSo_105 : decode cL_isSo 105 = .ok (.iload_n 2, 1) := by decide +kernel
theorem dL_isSo_106 : decode cL_isSo 106 = .ok (.invokevirtual 75, 3) := by decide +kernel
theorem dL_isSo_109 : decode cL_isSo 109 = .ok (.aload 8, 2) := by decide +kernel
theorem dL_isSo_111 : decode cL_isSo 111 = .ok (.iconst 1, 1) := by decide +kernel
theorem dL_isSo_112 : decode cL_isSo 112 = .ok (.iaload, 1) := by decide +kernel
theorem dL_isSo_113 : decode cL_isSo 113 = .ok (.if_icmp .ne 114, 3) := by decide +kernel
theorem dL_isSo_116 : decode cL_isSo 116 = .ok (.aload_n 0, 1) := by decide +kernel
theorem dL_isSo_117 : decode cL_isSo 117 = .ok (.iload_n 1, 1) := by decide +kernel
theorem dL_isSo_118 : decode cL_isSo 118 = .ok (.iload_n 2, 1) := by decide +kernel
theorem dL_isSo_119 : decode cL_isSo 119 = .ok (.invokevirtual 78, 3) := by decide +kernel
theorem dL_isSo_122 : decode cL_isSo 122 = .ok (.aload 8, 2) := by decide +kernel
theorem dL_isSo_124 : decode cL_isSo 124 = .ok (.iconst 2, 1) := by decide +kernel
theorem dL_isSo_125 : decode cL_isSo 125 = .ok (.iaload, 1) := by decide +kernel
theorem dL_isSo_126 : decode cL_isSo 126 = .ok (.if_icmp .ne 101, 3) := by decide +kernel
theorem dL_isSo_129 : decode cL_isSo 129 = .ok (.aload_n 0, 1) := by decide +kernel
theorem dL_isSo_130 : decode cL_isSo 130 = .ok (.iload_n 1, 1) := by decide +kernel
theorem dL_isSo_131 : decode cL_isSo 131 = .ok (.iload_n 2, 1) := by decide +kernel
theorem dL_isSo_132 : decode cL_isSo 132 = .ok (.invokevirtual 81, 3) := by decide +kernel
theorem dL_isSo_135 : decode cL_isSo 135 = .ok (.aload 8, 2) := by decide +kernel
theorem dL_isSo_137 : decode cL_isSo 137 = .ok (.iconst 3, 1) := by decide +kernel
theorem dL_isSo_138 : decode cL_isSo 138 = .ok (.iaload, 1) := by decide +kernel
theorem dL_isSo_139 : decode cL_isSo 139 = .ok (.if_icmp .ne 88, 3) := by decide +kernel
theorem dL_isSo_142 : decode cL_isSo 142 = .ok (.aload_n 0, 1) := by decide +kernel
theorem dL_isSo_143 : decode cL_isSo 143 = .ok (.iload_n 1, 1) := by decide +kernel
theorem dL_isSo_144 : decode cL_isSo 144 = .ok (.iload_n 2, 1) := by decide +kernel
theorem dL_isSo_145 : decode cL_isSo 145 = .ok (.invokevirtual 84, 3) := by decide +kernel
theorem dL_isSo_148 : decode cL_isSo 148 = .ok (.aload 8, 2) := by decide +kernel
theorem dL_isSo_150 : decode cL_isSo 150 = .ok (.iconst 4, 1) := by decide +kernel
theorem dL_isSo_151 : decode cL_isSo 151 = .ok (.iaload, 1) := by decide +kernel
theorem dL_isSo_152 : decode cL_isSo 152 = .ok (.if_icmp .ne 75, 3) := by decide +kernel
theorem dL_isSo_155 : decode cL_isSo 155 = .ok (.aload_n 0, 1) := by decide +kernel
theorem dL_isSo_156 : decode cL_isSo 156 = .ok (.iload_n 1, 1) := by decide +kernel
theorem dL_isSo_157 : decode cL_isSo 157 = .ok (.iload_n 2, 1) := by decide +kernel
theorem dL_isSo_158 : decode cL_isSo 158 = .ok (.invokevirtual 87, 3) := by decide +kernel
theorem dL_isSo_161 : decode cL_isSo 161 = .ok (.aload 8, 2) := by decide +kernel
theorem dL_isSo_163 : decode cL_isSo 163 = .ok (.iconst 5, 1) := by decide +kernel
theorem dL_isSo_164 : decode cL_isSo 164 = .ok (.iaload, 1) := by decide +kernel
theorem dL_isSo_165 : decode cL_isSo 165 = .ok (.if_icmp .ne 62, 3) := by decide +kernel
theorem dL_isSo_168 : decode cL_isSo 168 = .ok (.aload_n 0, 1) := by decide +kernel
theorem dL_isSo_169 : decode cL_isSo 169 = .ok (.iload_n 1, 1) := by decide +kernel
theorem dL_isSo_170 : decode cL_isSo 170 = .ok (.iload_n 2, 1) := by decide +kernel
theorem dL_isSo_171 : decode cL_isSo 171 = .ok (.invokevirtual 90, 3) := by decide +kernel
theorem dL_isSo_174 : decode cL_isSo 174 = .ok (.iload 10, 2) := by decide +kernel
theorem dL_isSo_176 : decode cL_isSo 176 = .ok (.if_icmp .ne 51, 3) := by decide +kernel
theorem dL_isSo_179 : decode cL_isSo 179 = .ok (.aload_n 0, 1) := by decide +kernel
theorem dL_isSo_180 : decode cL_isSo 180 = .ok (.iload_n 1, 1) := by decide +kernel
theorem dL_isSo_181 : decode cL_isSo 181 = .ok (.iload_n 2, 1) := by decide +kernel
theorem dL_isSo_182 : decode cL_isSo 182 = .ok (.invokevirtual 93, 3) := by decide +kernel
theorem dL_isSo_185 : decode cL_isSo 185 = .ok (.iload_n 1, 1) := by decide +kernel
theorem dL_isSo_186 : decode cL_isSo 186 = .ok (.iload_n 2, 1) := by decide +kernel
theorem dL_isSo_187 : decode cL_isSo 187 = .ok (.aload 4, 2) := by decide +kernel
theorem dL_isSo_189 : decode cL_isSo 189 = .ok (.aload 5, 2) := by decide +kernel
theorem dL_isSo_191 : decode cL_isSo 191 = .ok (.aload 9, 2) := by decide +kernel
theorem dL_isSo_193 : decode cL_isSo 193 = .ok (.invokestatic 50, 3) := by decide +kernel
theorem dL_isSo_196 : decode cL_isSo 196 = .ok (.if_icmp .ne 31, 3) := by decide +kernel
theorem dL_isSo_199 : decode cL_isSo 199 = .ok (.iload_n 2, 1) := by decide +kernel
theorem dL_isSo_200 : decode cL_isSo 200 = .ok (.aload_n 3, 1) := by decide +kernel
theorem dL_isSo_201 : decode cL_isSo 201 = .ok (.iconst 4, 1) := by decide +kernel
theorem dL_isSo_202 : decode cL_isSo 202 = .ok (.iload_n 1, 1) := by decide +kernel
theorem dL_isSo_203 : decode cL_isSo 203 = .ok (.imul, 1) := by decide +kernel
theorem dL_isSo_204 : decode cL_isSo 204 = .ok (.iaload, 1) := by decide +kernel
theorem dL_isSo_205 : decode cL_isSo 205 = .ok (.if_icmp .lt 18, 3) := by decide +kernel
theorem dL_isSo_208 : decode cL_isSo 208 = .ok (.aload_n 0, 1) := by decide +kernel
theorem dL_isSo_209 : decode cL_isSo 209 = .ok (.iload_n 1, 1) := by decide +kernel
theorem dL_isSo_210 : decode cL_isSo 210 = .ok (.iload_n 2, 1) := by decide +kernel
theorem dL_isSo_211 : decode cL_isSo 211 = .ok (.invokevirtual 96, 3) := by decide +kernel
theorem dL_isSo_214 : decode cL_isSo 214 = .ok (.iload_n 1, 1) := by decide +kernel
theorem dL_isSo_215 : decode cL_isSo 215 = .ok (.iload_n 2, 1) := by decide +kernel
theorem dL_isSo_216 : decode cL_isSo 216 = .ok (.aload_n 3, 1) := by decide +kernel
theorem dL_isSo_217 : decode cL_isSo 217 = .ok (.invokestatic 40, 3) := by decide +kernel
theorem dL_isSo_220 : decode cL_isSo 220 = .ok (.if_icmp .ne 7, 3) := by decide +kernel
theorem dL_isSo_223 : decode cL_isSo 223 = .ok (.iconst 1, 1) := by decide +kernel
theorem dL_isSo_224 : decode cL_isSo 224 = .ok (.goto 4, 3) := by decide +kernel
theorem dL_isSo_227 : decode cL_isSo 227 = .ok (.iconst 0, 1) := by decide +kernel
theorem dL_isSo_228 : decode cL_isSo 228 = .ok (.ireturn, 1) := by decide +kernel
theorem dL_hoursSet_0 : decode cL_hoursSet 0 = .ok (.bipush 12, 2) := by decide +kernel
theorem dL_hoursSet_2 : decode cL_hoursSet 2 = .ok (.bipush 20, 2) := by decide +kernel
theorem dL_hoursSet_4 : decode cL_hoursSet 4 = .ok (.iload_n 1, 1) := by decide +kernel
theorem dL_hoursSet_5 : decode cL_hoursSet 5 = .ok (.imul, 1) := by decide +kernel
theorem dL_hoursSet_6 : decode cL_hoursSet 6 = .ok (.iadd, 1) := by decide +kernel
theorem dL_hoursSet_7 : decode cL_hoursSet 7 = .ok (.iconst 2, 1) := by decide +kernel
theorem dL_hoursSet_8 : decode cL_hoursSet 8 = .ok (.aload 4, 2) := by decide +kernel
theorem dL_hoursSet_10 : decode cL_hoursSet 10 = .ok (.iconst 4, 1) := by decide +kernel
theorem dL_hoursSet_11 : decode cL_hoursSet 11 = .ok (.iload_n 1, 1) := by decide +kernel
theorem dL_hoursSet_12 : decode cL_hoursSet 12 = .ok (.imul, 1) := by decide +kernel
theorem dL_hoursSet_13 : decode cL_hoursSet 13 = .ok (.iconst 3, 1) := by decide +kernel
theorem dL_hoursSet_14 : decode cL_hoursSet 14 = .ok (.iadd, 1) := by decide +kernel
theorem dL_hoursSet_15 : decode cL_hoursSet 15 = .ok (.iaload, 1) := by decide +kernel
theorem dL_hoursSet_16 : decode cL_hoursSet 16 = .ok (.imul, 1) := by decide +kernel
theorem dL_hoursSet_17 : decode cL_hoursSet 17 = .ok (.iadd, 1) := by decide +kernel
theorem dL_hoursSet_18 : decode cL_hoursSet 18 = .ok (.istore 5, 2) := by decide +kernel
theorem dL_hoursSet_20 : decode cL_hoursSet 20 = .ok (.iconst 1, 1) := by decide +kernel
theorem dL_hoursSet_21 : decode cL_hoursSet 21 = .ok (.istore 6, 2) := by decide +kernel
theorem dL_hoursSet_23 : decode cL_hoursSet 23 = .ok (.iconst 0, 1) := by decide +kernel
theorem dL_hoursSet_24 : decode cL_hoursSet 24 = .ok (.istore 7, 2) := by decide +kernel
theorem dL_hoursSet_26 : decode cL_hoursSet 26 = .ok (.iload 7, 2) := by decide +kernel
theorem dL_hoursSet_28 : decode cL_hoursSet 28 = .ok (.aload 4, 2) := by decide +kernel
theorem dL_hoursSet_30 : decode cL_hoursSet 30 = .ok (.iconst 4, 1) := by decide +kernel
theorem dL_hoursSet_31 : decode cL_hoursSet 31 = .ok (.iload_n 1, 1) := by decide +kernel
theorem dL_hoursSet_32 : decode cL_hoursSet 32 = .ok (.imul, 1) := by decide +kernel
theorem dL_hoursSet_33 : decode cL_hoursSet 33 = .ok (.iconst 3, 1) := by decide +kernel
theorem dL_hoursSet_34 : decode cL_hoursSet 34 = .ok (.iadd, 1) := by decide +kernel
theorem dL_hoursSet_35 : decode cL_hoursSet 35 = .ok (.iaload, 1) := by decide +kernel
theorem dL_hoursSet_36 : decode cL_hoursSet 36 = .ok (.if_icmp .ge 76, 3) := by decide +kernel
theorem dL_hoursSet_39 : decode cL_hoursSet 39 = .ok (.aload 4, 2) := by decide +kernel
theorem dL_hoursSet_41 : decode cL_hoursSet 41 = .ok (.bipush 12, 2) := by decide +kernel
theorem dL_hoursSet_43 : decode cL_hoursSet 43 = .ok (.bipush 20, 2) := by decide +kernel
theorem dL_hoursSet_45 : decode cL_hoursSet 45 = .ok (.iload_n 1, 1) := by decide +kernel
theorem dL_hoursSet_46 : decode cL_hoursSet 46 = .ok (.imul, 1) := by decide +kernel
theorem dL_hoursSet_47 : decode cL_hoursSet 47 = .ok (.iadd, 1) := by decide +kernel
theorem dL_hoursSet_48 : decode cL_hoursSet 48 = .ok (.iconst 2, 1) := by decide +kernel
theorem dL_hoursSet_49 : decode cL_hoursSet 49 = .ok (.iload 7, 2) := by decide +kernel
theorem dL_hoursSet_51 : decode cL_hoursSet 51 = .ok (.imul, 1) := by decide +kernel
theorem dL_hoursSet_52 : decode cL_hoursSet 52 = .ok (.iadd, 1) := by decide +kernel
theorem dL_hoursSet_53 : decode cL_hoursSet 53 = .ok (.iaload, 1) := by decide +kernel
theorem dL_hoursSet_54 : decode cL_hoursSet 54 = .ok (.iload_n 2, 1) := by decide +kernel
theorem dL_hoursSet_55 : decode cL_hoursSet 55 = .ok (.if_icmp .ne 7, 3) := by decide +kernel
theorem dL_hoursSet_58 : decode cL_hoursSet 58 = .ok (.iconst 1, 1) := by decide +kernel
theorem dL_hoursSet_59 : decode cL_hoursSet 59 = .ok (.goto 4, 3) := by decide +kernel
theorem dL_hoursSet_62 : decode cL_hoursSet 62 = .ok (.iconst 0, 1) := by decide +kernel
theorem dL_hoursSet_63 : decode cL_hoursSet 63 = .ok (.istore 8, 2) := by decide +kernel
theorem dL_hoursSet_65 : decode cL_hoursSet 65 = .ok (.iload 8, 2) := by decide +kernel
theorem dL_hoursSet_67 : decode cL_hoursSet 67 = .ok (.ifCond .eq 18, 3) := by decide +kernel
theorem dL_hoursSet_70 : decode cL_hoursSet 70 = .ok (.bipush 12, 2) := by decide +kernel
theorem dL_hoursSet_72 : decode cL_hoursSet 72 = .ok (.bipush 20, 2) := by decide +kernel
theorem dL_hoursSet_74 : decode cL_hoursSet 74 = .ok (.iload_n 1, 1) := by decide +kernel
theorem dL_hoursSet_75 : decode cL_hoursSet 75 = .ok (.imul, 1) := by decide +kernel
theorem dL_hoursSet_76 : decode cL_hoursSet 76 = .ok (.iadd, 1) := by decide +kernel
theorem dL_hoursSet_77 : decode cL_hoursSet 77 = .ok (.iconst 2, 1) := by decide +kernel
theorem dL_hoursSet_78 : decode cL_hoursSet 78 = .ok (.iload 7, 2) := by decide +kernel
theorem dL_hoursSet_80 : decode cL_hoursSet 80 = .ok (.imul, 1) := by decide +kernel
theorem dL_hoursSet_81 : decode cL_hoursSet 81 = .ok (.iadd, 1) := by decide +kernel
theorem dL_hoursSet_82 : decode cL_hoursSet 82 = .ok (.goto 5, 3) := by decide +kernel
theorem dL_hoursSet_85 : decode cL_hoursSet 85 = .ok (.iload 5, 2) := by decide +kernel
theorem dL_hoursSet_87 : decode cL_hoursSet 87 = .ok (.istore 5, 2) := by decide +kernel
theorem dL_hoursSet_89 : decode cL_hoursSet 89 = .ok (.iload 6, 2) := by decide +kernel
theorem dL_hoursSet_91 : decode cL_hoursSet 91 = .ok (.ifCond .eq 12, 3) := by decide +kernel
theorem dL_hoursSet_94 : decode cL_hoursSet 94 = .ok (.iload 8, 2) := by decide +kernel
theorem dL_hoursSet_96 : decode cL_hoursSet 96 = .ok (.ifCond .ne 7, 3) := by decide +kernel
theorem dL_hoursSet_99 : decode cL_hoursSet 99 = .ok (.iconst 1, 1) := by decide +kernel
theorem dL_hoursSet_100 : decode cL_hoursSet 100 = .ok (.goto 4, 3) := by decide +kernel
theorem dL_hoursSet_103 : decode cL_hoursSet 103 = .ok (.iconst 0, 1) := by decide +kernel
theorem dL_hoursSet_104 : decode cL_hoursSet 104 = .ok (.istore 6, 2) := by decide +kernel
theorem dL_hoursSet_106 : decode cL_hoursSet 106 = .ok (.iinc 7 1, 3) := by decide +kernel
theorem dL_hoursSet_109 : decode cL_hoursSet 109 = .ok (.goto (-83), 3) := by decide +kernel
theorem dL_hoursSet_112 : decode cL_hoursSet 112 = .ok (.iload 6, 2) := by decide +kernel
theorem dL_hoursSet_114 : decode cL_hoursSet 114 = .ok (.ifCond .eq 21, 3) := by decide +kernel
theorem dL_hoursSet_117 : decode cL_hoursSet 117 = .ok (.aload 4, 2) := by decide +kernel
theorem dL_hoursSet_119 : decode cL_hoursSet 119 = .ok (.iconst 4, 1) := by decide +kernel
theorem dL_hoursSet_120 : decode cL_hoursSet 120 = .ok (.iload_n 1, 1) := by decide +kernel
theorem dL_hoursSet_121 : decode cL_hoursSet 121 = .ok (.imul, 1) := by decide +kernel
theorem dL_hoursSet_122 : decode cL_hoursSet 122 = .ok (.iconst 3, 1) := by decide +kernel
theorem dL_hoursSet_123 : decode cL_hoursSet 123 = .ok (.iadd, 1) := by decide +kernel
theorem dL_hoursSet_124 : decode cL_hoursSet 124 = .ok (.iaload, 1) := by decide +kernel
theorem dL_hoursSet_125 : decode cL_hoursSet 125 = .ok (.bipush 10, 2) := by decide +kernel
theorem dL_hoursSet_127 : decode cL_hoursSet 127 = .ok (.if_icmp .ne 8, 3) := by decide +kernel
theorem dL_hoursSet_130 : decode cL_hoursSet 130 = .ok (.bipush (-3), 2) := by decide +kernel
theorem dL_hoursSet_132 : decode cL_hoursSet 132 = .ok (.goto 10, 3) := by decide +kernel
theorem dL_hoursSet_135 : decode cL_hoursSet 135 = .ok (.iload_n 1, 1) := by decide +kernel
theorem dL_hoursSet_136 : decode cL_hoursSet 136 = .ok (.iload_n 2, 1) := by decide +kernel
theorem dL_hoursSet_137 : decode cL_hoursSet 137 = .ok (.aload 4, 2) := by decide +kernel
theorem dL_hoursSet_139 : decode cL_hoursSet 139 = .ok (.invokestatic 40, 3) := by decide +kernel
theorem dL_hoursSet_142 : decode cL_hoursSet 142 = .ok (.istore 7, 2) := by decide +kernel
theorem dL_hoursSet_144 : decode cL_hoursSet 144 = .ok (.iload 7, 2) := by decide +kernel
theorem dL_hoursSet_146 : decode cL_hoursSet 146 = .ok (.ifCond .le 38, 3) := by decide +kernel
theorem dL_hoursSet_149 : decode cL_hoursSet 149 = .ok (.aload 4, 2) := by decide +kernel
theorem dL_hoursSet_151 : decode cL_hoursSet 151 = .ok (.iload 5, 2) := by decide +kernel
theorem dL_hoursSet_153 : decode cL_hoursSet 153 = .ok (.iload_n 2, 1) := by decide +kernel
theorem dL_hoursSet_154 : decode cL_hoursSet 154 = .ok (.iastore, 1) := by decide +kernel
theorem dL_hoursSet_155 : decode cL_hoursSet 155 = .ok (.aload 4, 2) := by decide +kernel
theorem dL_hoursSet_157 : decode cL_hoursSet 157 = .ok (.iload 5, 2) := by decide +kernel
theorem dL_hoursSet_159 : decode cL_hoursSet 159 = .ok (.iconst 1, 1) := by decide +kernel
theorem dL_hoursSet_160 : decode cL_hoursSet 160 = .ok (.iadd, 1) := by decide +kernel
theorem dL_hoursSet_161 : decode cL_hoursSet 161 = .ok (.iload_n 3, 1) := by decide +kernel
theorem dL_hoursSet_162 : decode cL_hoursSet 162 = .ok (.iastore, 1) := by decide +kernel
theorem dL_hoursSet_163 : decode cL_hoursSet 163 = .ok (.aload 4, 2) := by decide +kernel
theorem dL_hoursSet_165 : decode cL_hoursSet 165 = .ok (.iconst 4, 1) := by decide +kernel
theorem dL_hoursSet_166 : decode cL_hoursSet 166 = .ok (.iload_n 1, 1) := by decide +kernel
theorem dL_hoursSet_167 : decode cL_hoursSet 167 = .ok (.imul, 1) := by decide +kernel
theorem dL_hoursSet_168 : decode cL_hoursSet 168 = .ok (.iconst 3, 1) := by decide +kernel
theorem dL_hoursSet_169 : decode cL_hoursSet 169 = .ok (.iadd, 1) := by decide +kernel
theorem dL_hoursSet_170 : decode cL_hoursSet 170 = .ok (.dup2, 1) := by decide +kernel
theorem dL_hoursSet_171 : decode cL_hoursSet 171 = .ok (.iaload, 1) := by decide +kernel
theorem dL_hoursSet_172 : decode cL_hoursSet 172 = .ok (.iload 6, 2) := by decide +kernel
theorem dL_hoursSet_174 : decode cL_hoursSet 174 = .ok (.ifCond .eq 7, 3) := by decide +kernel
theorem dL_hoursSet_177 : decode cL_hoursSet 177 = .ok (.iconst 1, 1) := by decide +kernel
theorem dL_hoursSet_178 : decode cL_hoursSet 178 = .ok (.goto 4, 3) := by decide +kernel
theorem dL_hoursSet_181 : decode cL_hoursSet 181 = .ok (.iconst 0, 1) := by decide +kernel
theorem dL_hoursSet_182 : decode cL_hoursSet 182 = .ok (.iadd, 1) := by decide +kernel
theorem dL_hoursSet_183 : decode cL_hoursSet 183 = .ok (.iastore, 1) := by decide +kernel
theorem dL_hoursSet_184 : decode cL_hoursSet 184 = .ok (.aload_n 0, 1) := by decide +kernel
theorem dL_hoursSet_185 : decode cL_hoursSet 185 = .ok (.iconst 4, 1) := by decide +kernel
theorem dL_hoursSet_186 : decode cL_hoursSet 186 = .ok (.iload_n 1, 1) := by decide +kernel
theorem dL_hoursSet_187 : decode cL_hoursSet 187 = .ok (.iload_n 2, 1) := by decide +kernel
theorem dL_hoursSet_188 : decode cL_hoursSet 188 = .ok (.iload_n 3, 1) := by decide +kernel
theorem dL_hoursSet_189 : decode cL_hoursSet 189 = .ok (.iconst 0, 1) := by decide +kernel
theorem dL_hoursSet_190 : decode cL_hoursSet 190 = .ok (.invokestatic 98, 3) := by decide +kernel
theorem dL_hoursSet_193 : decode cL_hoursSet 193 = .ok (.iload 7, 2) := by decide +kernel
theorem dL_hoursSet_195 : decode cL_hoursSet 195 = .ok (.if_icmp .ne 7, 3) := by decide +kernel
theorem dL_hoursSet_198 : decode cL_hoursSet 198 = .ok (.iconst 1, 1) := by decide +kernel
theorem dL_hoursSet_199 : decode cL_hoursSet 199 = .ok (.goto 4, 3) := by decide +kernel
theorem dL_hoursSet_202 : decode cL_hoursSet 202 = .ok (.iconst 0, 1) := by decide +kernel
theorem dL_hoursSet_203 : decode cL_hoursSet 203 = .ok (.ireturn, 1) := by decide +kernel
theorem dL_enters_0 : decode cL_enters 0 = .ok (.iload_n 1, 1) := by decide +kernel
theorem dL_enters_1 : decode cL_enters 1 = .ok (.iconst 5, 1) := by decide +kernel
theorem dL_enters_2 : decode cL_enters 2 = .ok (.ishr, 1) := by decide +kernel
theorem dL_enters_3 : decode cL_enters 3 = .ok (.aload 5, 2) := by decide +kernel
theorem dL_enters_5 : decode cL_enters 5 = .ok (.iconst 1, 1) := by decide +kernel
theorem dL_enters_6 : decode cL_enters 6 = .ok (.iaload, 1) := by decide +kernel
theorem dL_enters_7 : decode cL_enters 7 = .ok (.invokestatic 102, 3) := by decide +kernel
theorem dL_enters_10 : decode cL_enters 10 = .ok (.istore 6, 2) := by decide +kernel
theorem dL_enters_12 : decode cL_enters 12 = .ok (.aload_n 2, 1) := by decide +kernel
theorem dL_enters_13 : decode cL_enters 13 = .ok (.iconst 4, 1) := by decide +kernel
theorem dL_enters_14 : decode cL_enters 14 = .ok (.iload 6, 2) := by decide +kernel
theorem dL_enters_16 : decode cL_enters 16 = .ok (.imul, 1) := by decide +kernel
theorem dL_enters_17 : decode cL_enters 17 = .ok (.iaload, 1) := by decide +kernel
theorem dL_enters_18 : decode cL_enters 18 = .ok (.iload_n 1, 1) := by decide +kernel
theorem dL_enters_19 : decode cL_enters 19 = .ok (.bipush 7, 2) := by decide +kernel
theorem dL_enters_21 : decode cL_enters 21 = .ok (.ishr, 1) := by decide +kernel
theorem dL_enters_22 : decode cL_enters 22 = .ok (.iload_n 1, 1) := by decide +kernel
theorem dL_enters_23 : decode cL_enters 23 = .ok (.bipush 17, 2) := by decide +kernel
theorem dL_enters_25 : decode cL_enters 25 = .ok (.ishr, 1) := by decide +kernel
theorem dL_enters_26 : decode cL_enters 26 = .ok (.iconst 2, 1) := by decide +kernel
theorem dL_enters_27 : decode cL_enters 27 = .ok (.invokestatic 102, 3) := by decide +kernel
theorem dL_enters_30 : decode cL_enters 30 = .ok (.ifCond .ne 9, 3) := by decide +kernel
theorem dL_enters_33 : decode cL_enters 33 = .ok (.sipush 1500, 3) := by decide +kernel
theorem dL_enters_36 : decode cL_enters 36 = .ok (.goto 10, 3) := by decide +kernel
theorem dL_enters_39 : decode cL_enters 39 = .ok (.aload 5, 2) := by decide +kernel
theorem dL_enters_41 : decode cL_enters 41 = .ok (.iconst 0, 1) := by decide +kernel
theorem dL_enters_42 : decode cL_enters 42 = .ok (.iaload, 1) := by decide +kernel
theorem dL_enters_43 : decode cL_enters 43 = .ok (.bipush 60, 2) := by decide +kernel
theorem dL_enters_45 : decode cL_enters 45 = .ok (.iadd, 1) := by decide +kernel
theorem dL_enters_46 : decode cL_enters 46 = .ok (.invokestatic 102, 3) := by decide +kernel
theorem dL_enters_49 : decode cL_enters 49 = .ok (.iadd, 1) := by decide +kernel
theorem dL_enters_50 : decode cL_enters 50 = .ok (.istore 7, 2) := by decide +kernel
theorem dL_enters_52 : decode cL_enters 52 = .ok (.iload 7, 2) := by decide +kernel
theorem dL_enters_54 : decode cL_enters 54 = .ok (.sipush 1800, 3) := by decide +kernel
theorem dL_enters_57 : decode cL_enters 57 = .ok (.if_icmp .le 9, 3) := by decide +kernel
theorem dL_enters_60 : decode cL_enters 60 = .ok (.sipush 1800, 3) := by decide +kernel
theorem dL_enters_63 : decode cL_enters 63 = .ok (.goto 5, 3) := by decide +kernel
theorem dL_enters_66 : decode cL_enters 66 = .ok (.iload 7, 2) := by decide +kernel
theorem dL_enters_68 : decode cL_enters 68 = .ok (.istore 7, 2) := by decide +kernel
theorem dL_enters_70 : decode cL_enters 70 = .ok (.iload 7, 2) := by decide +kernel
theorem dL_enters_72 : decode cL_enters 72 = .ok (.iload_n 1, 1) := by decide +kernel
theorem dL_enters_73 : decode cL_enters 73 = .ok (.bipush 9, 2) := by decide +kernel
theorem dL_enters_75 : decode cL_enters 75 = .ok (.ishr, 1) := by decide +kernel
theorem dL_enters_76 : decode cL_enters 76 = .ok (.iload_n 1, 1) := by decide +kernel
theorem dL_enters_77 : decode cL_enters 77 = .ok (.bipush 15, 2) := by decide +kernel
theorem dL_enters_79 : decode cL_enters 79 = .ok (.ishr, 1) := by decide +kernel
theorem dL_enters_80 : decode cL_enters 80 = .ok (.iconst 3, 1) := by decide +kernel
theorem dL_enters_81 : decode cL_enters 81 = .ok (.invokestatic 102, 3) := by decide +kernel
theorem dL_enters_84 : decode cL_enters 84 = .ok (.ifCond .ne 8, 3) := by decide +kernel
theorem dL_enters_87 : decode cL_enters 87 = .ok (.bipush 60, 2) := by decide +kernel
theorem dL_enters_89 : decode cL_enters 89 = .ok (.goto 5, 3) := by decide +kernel
theorem dL_enters_92 : decode cL_enters 92 = .ok (.bipush 9, 2) := by decide +kernel
theorem dL_enters_94 : decode cL_enters 94 = .ok (.invokestatic 102, 3) := by decide +kernel
theorem dL_enters_97 : decode cL_enters 97 = .ok (.iadd, 1) := by decide +kernel
theorem dL_enters_98 : decode cL_enters 98 = .ok (.istore 8, 2) := by decide +kernel
theorem dL_enters_100 : decode cL_enters 100 = .ok (.iload_n 1, 1) := by decide +kernel
theorem dL_enters_101 : decode cL_enters 101 = .ok (.bipush 9, 2) := by decide +kernel
theorem dL_enters_103 : decode cL_enters 103 = .ok (.invokestatic 102, 3) := by decide +kernel
theorem dL_enters_106 : decode cL_enters 106 = .ok (.istore 9, 2) := by decide +kernel
theorem dL_enters_108 : decode cL_enters 108 = .ok (.iload 9, 2) := by decide +kernel
theorem dL_enters_110 : decode cL_enters 110 = .ok (.iconst 4, 1) := by decide +kernel
theorem dL_enters_111 : decode cL_enters 111 = .ok (.if_icmp .ge 138, 3) := by decide +kernel
theorem dL_enters_114 : decode cL_enters 114 = .ok (.iload_n 1, 1) := by decide +kernel
theorem dL_enters_115 : decode cL_enters 115 = .ok (.bipush 11, 2) := by decide +kernel
theorem dL_enters_117 : decode cL_enters 117 = .ok (.ishr, 1) := by decide +kernel
theorem dL_enters_118 : decode cL_enters 118 = .ok (.iconst 3, 1) := by decide +kernel
theorem dL_enters_119 : decode cL_enters 119 = .ok (.invokestatic 102, 3) := by decide +kernel
theorem dL_enters_122 : decode cL_enters 122 = .ok (.ifCond .ne 7, 3) := by decide +kernel
theorem dL_enters_125 : decode cL_enters 125 = .ok (.iconst 1, 1) := by decide +kernel
theorem dL_enters_126 : decode cL_enters 126 = .ok (.goto 4, 3) := by decide +kernel
theorem dL_enters_129 : decode cL_enters 129 = .ok (.iconst 0, 1) := by decide +kernel
theorem dL_enters_130 : decode cL_enters 130 = .ok (.istore 10, 2) := by decide +kernel
theorem dL_enters_132 : decode cL_enters 132 = .ok (.aload 5, 2) := by decide +kernel
theorem dL_enters_134 : decode cL_enters 134 = .ok (.iconst 2, 1) := by decide +kernel
theorem dL_enters_135 : decode cL_enters 135 = .ok (.iaload, 1) := by decide +kernel
theorem dL_enters_136 : decode cL_enters 136 = .ok (.bipush 12, 2) := by decide +kernel
theorem dL_enters_138 : decode cL_enters 138 = .ok (.if_icmp .ne 8, 3) := by decide +kernel
theorem dL_enters_141 : decode cL_enters 141 = .ok (.bipush (-5), 2) := by decide +kernel
theorem dL_enters_143 : decode cL_enters 143 = .ok (.goto 7, 3) := by decide +kernel
theorem dL_enters_146 : decode cL_enters 146 = .ok (.aload 5, 2) := by decide +kernel
theorem dL_enters_148 : decode cL_enters 148 = .ok (.iconst 2, 1) := by decide +kernel
theorem dL_enters_149 : decode cL_enters 149 = .ok (.iaload, 1) := by decide +kernel
theorem dL_enters_150 : decode cL_enters 150 = .ok (.istore 11, 2) := by decide +kernel
theorem dL_enters_152 : decode cL_enters 152 = .ok (.iload 11, 2) := by decide +kernel
theorem dL_enters_154 : decode cL_enters 154 = .ok (.ifCond .lt 66, 3) := by decide +kernel
theorem dL_enters_157 : decode cL_enters 157 = .ok (.aload_n 3, 1) := by decide +kernel
theorem dL_enters_158 : decode cL_enters 158 = .ok (.iconst 5, 1) := by decide +kernel
theorem dL_enters_159 : decode cL_enters 159 = .ok (.iload 11, 2) := by decide +kernel
theorem dL_enters_161 : decode cL_enters 161 = .ok (.imul, 1) := by decide +kernel
theorem dL_enters_162 : decode cL_enters 162 = .ok (.iload 6, 2) := by decide +kernel
theorem dL_enters_164 : decode cL_enters 164 = .ok (.iastore, 1) := by decide +kernel
theorem dL_enters_165 : decode cL_enters 165 = .ok (.aload_n 3, 1) := by decide +kernel
theorem dL_enters_166 : decode cL_enters 166 = .ok (.iconst 5, 1) := by decide +kernel
theorem dL_enters_167 : decode cL_enters 167 = .ok (.iload 11, 2) := by decide +kernel
theorem dL_enters_169 : decode cL_enters 169 = .ok (.imul, 1) := by decide +kernel
theorem dL_enters_170 : decode cL_enters 170 = .ok (.iconst 1, 1) := by decide +kernel
theorem dL_enters_171 : decode cL_enters 171 = .ok (.iadd, 1) := by decide +kernel
theorem dL_enters_172 : decode cL_enters 172 = .ok (.iload 7, 2) := by decide +kernel
theorem dL_enters_174 : decode cL_enters 174 = .ok (.iastore, 1) := by decide +kernel
theorem dL_enters_175 : decode cL_enters 175 = .ok (.aload_n 3, 1) := by decide +kernel
theorem dL_enters_176 : decode cL_enters 176 = .ok (.iconst 5, 1) := by decide +kernel
theorem dL_enters_177 : decode cL_enters 177 = .ok (.iload 11, 2) := by decide +kernel
theorem dL_enters_179 : decode cL_enters 179 = .ok (.imul, 1) := by decide +kernel
theorem dL_enters_180 : decode cL_enters 180 = .ok (.iconst 2, 1) := by decide +kernel
theorem dL_enters_181 : decode cL_enters 181 = .ok (.iadd, 1) := by decide +kernel
theorem dL_enters_182 : decode cL_enters 182 = .ok (.iload 8, 2) := by decide +kernel
theorem dL_enters_184 : decode cL_enters 184 = .ok (.iastore, 1) := by decide +kernel
theorem dL_enters_185 : decode cL_enters 185 = .ok (.aload_n 3, 1) := by decide +kernel
theorem dL_enters_186 : decode cL_enters 186 = .ok (.iconst 5, 1) := by decide +kernel
theorem dL_enters_187 : decode cL_enters 187 = .ok (.iload 11, 2) := by decide +kernel
theorem dL_enters_189 : decode cL_enters 189 = .ok (.imul, 1) := by decide +kernel
theorem dL_enters_190 : decode cL_enters 190 = .ok (.iconst 3, 1) := by decide +kernel
theorem dL_enters_191 : decode cL_enters 191 = .ok (.iadd, 1) := by decide +kernel
theorem dL_enters_192 : decode cL_enters 192 = .ok (.iload 10, 2) := by decide +kernel
theorem dL_enters_194 : decode cL_enters 194 = .ok (.ifCond .eq 7, 3) := by decide +kernel
theorem dL_enters_197 : decode cL_enters 197 = .ok (.iconst 1, 1) := by decide +kernel
theorem dL_enters_198 : decode cL_enters 198 = .ok (.goto 4, 3) := by decide +kernel
theorem dL_enters_201 : decode cL_enters 201 = .ok (.iconst 0, 1) := by decide +kernel
theorem dL_enters_202 : decode cL_enters 202 = .ok (.iastore, 1) := by decide +kernel
theorem dL_enters_203 : decode cL_enters 203 = .ok (.aload_n 3, 1) := by decide +kernel
theorem dL_enters_204 : decode cL_enters 204 = .ok (.iconst 5, 1) := by decide +kernel
theorem dL_enters_205 : decode cL_enters 205 = .ok (.iload 11, 2) := by decide +kernel
theorem dL_enters_207 : decode cL_enters 207 = .ok (.imul, 1) := by decide +kernel
theorem dL_enters_208 : decode cL_enters 208 = .ok (.iconst 4, 1) := by decide +kernel
theorem dL_enters_209 : decode cL_enters 209 = .ok (.iadd, 1) := by decide +kernel
theorem dL_enters_210 : decode cL_enters 210 = .ok (.iconst 0, 1) := by decide +kernel
theorem dL_enters_211 : decode cL_enters 211 = .ok (.iastore, 1) := by decide +kernel
theorem dL_enters_212 : decode cL_enters 212 = .ok (.aload 5, 2) := by decide +kernel
theorem dL_enters_214 : decode cL_enters 214 = .ok (.iconst 2, 1) := by decide +kernel
theorem dL_enters_215 : decode cL_enters 215 = .ok (.dup2, 1) := by decide +kernel
theorem dL_enters_216 : decode cL_enters 216 = .ok (.iaload, 1) := by decide +kernel
theorem dL_enters_217 : decode cL_enters 217 = .ok (.iconst 1, 1) := by decide +kernel
theorem dL_enters_218 : decode cL_enters 218 = .ok (.iadd, 1) := by decide +kernel
theorem dL_enters_219 : decode cL_enters 219 = .ok (.iastore, 1) := by decide +kernel
theorem dL_enters_220 : decode cL_enters 220 = .ok (.iload 11, 2) := by decide +kernel
theorem dL_enters_222 : decode cL_enters 222 = .ok (.ifCond .lt 21, 3) := by decide +kernel
theorem dL_enters_225 : decode cL_enters 225 = .ok (.aload_n 0, 1) := by decide +kernel
theorem dL_enters_226 : decode cL_enters 226 = .ok (.iconst 0, 1) := by decide +kernel
theorem dL_enters_227 : decode cL_enters 227 = .ok (.iload 6, 2) := by decide +kernel
theorem dL_enters_229 : decode cL_enters 229 = .ok (.iload 7, 2) := by decide +kernel
theorem dL_enters_231 : decode cL_enters 231 = .ok (.iload 8, 2) := by decide +kernel
theorem dL_enters_233 : decode cL_enters 233 = .ok (.iload 10, 2) := by decide +kernel
theorem dL_enters_235 : decode cL_enters 235 = .ok (.invokestatic 98, 3) := by decide +kernel
theorem dL_enters_238 : decode cL_enters 238 = .ok (.iload 11, 2) := by decide +kernel
theorem dL_enters_240 : decode cL_enters 240 = .ok (.if_icmp .ne 7, 3) := by decide +kernel
theorem dL_enters_243 : decode cL_enters 243 = .ok (.iconst 1, 1) := by decide +kernel
theorem dL_enters_244 : decode cL_enters 244 = .ok (.goto 4, 3) := by decide +kernel
theorem dL_enters_247 : decode cL_enters 247 = .ok (.iconst 0, 1) := by decide +kernel
theorem dL_enters_248 : decode cL_enters 248 = .ok (.ireturn, 1) := by decide +kernel
theorem dL_enters_249 : decode cL_enters 249 = .ok (.aload 5, 2) := by decide +kernel
theorem dL_enters_251 : decode cL_enters 251 = .ok (.iconst 2, 1) := by decide +kernel
theorem dL_enters_252 : decode cL_enters 252 = .ok (.iaload, 1) := by decide +kernel
theorem dL_enters_253 : decode cL_enters 253 = .ok (.ifCond .ne 7, 3) := by decide +kernel
theorem dL_enters_256 : decode cL_enters 256 = .ok (.iconst (-1), 1) := by decide +kernel
theorem dL_enters_257 : decode cL_enters 257 = .ok (.goto 14, 3) := by decide +kernel
theorem dL_enters_260 : decode cL_enters 260 = .ok (.iload_n 1, 1) := by decide +kernel
theorem dL_enters_261 : decode cL_enters 261 = .ok (.bipush 11, 2) := by decide +kernel
theorem dL_enters_263 : decode cL_enters 263 = .ok (.ishr, 1) := by decide +kernel
theorem dL_enters_264 : decode cL_enters 264 = .ok (.aload 5, 2) := by decide +kernel
theorem dL_enters_266 : decode cL_enters 266 = .ok (.iconst 2, 1) := by decide +kernel
theorem dL_enters_267 : decode cL_enters 267 = .ok (.iaload, 1) := by decide +kernel
theorem dL_enters_268 : decode cL_enters 268 = .ok (.invokestatic 102, 3) := by decide +kernel
theorem dL_enters_271 : decode cL_enters 271 = .ok (.istore 10, 2) := by decide +kernel
theorem dL_enters_273 : decode cL_enters 273 = .ok (.iload 9, 2) := by decide +kernel
theorem dL_enters_275 : decode cL_enters 275 = .ok (.bipush 6, 2) := by decide +kernel
theorem dL_enters_277 : decode cL_enters 277 = .ok (.if_icmp .ge 126, 3) := by decide +kernel
theorem dL_enters_280 : decode cL_enters 280 = .ok (.iload 10, 2) := by decide +kernel
theorem dL_enters_282 : decode cL_enters 282 = .ok (.ifCond .lt 121, 3) := by decide +kernel
theorem dL_enters_285 : decode cL_enters 285 = .ok (.iload 7, 2) := by decide +kernel
theorem dL_enters_287 : decode cL_enters 287 = .ok (.aload_n 2, 1) := by decide +kernel
theorem dL_enters_288 : decode cL_enters 288 = .ok (.iconst 4, 1) := by decide +kernel
theorem dL_enters_289 : decode cL_enters 289 = .ok (.aload_n 3, 1) := by decide +kernel
theorem dL_enters_290 : decode cL_enters 290 = .ok (.iconst 5, 1) := by decide +kernel
theorem dL_enters_291 : decode cL_enters 291 = .ok (.iload 10, 2) := by decide +kernel
theorem dL_enters_293 : decode cL_enters 293 = .ok (.imul, 1) := by decide +kernel
theorem dL_enters_294 : decode cL_enters 294 = .ok (.iaload, 1) := by decide +kernel
theorem dL_enters_295 : decode cL_enters 295 = .ok (.imul, 1) := by decide +kernel
theorem dL_enters_296 : decode cL_enters 296 = .ok (.iaload, 1) := by decide +kernel
theorem dL_enters_297 : decode cL_enters 297 = .ok (.if_icmp .lt 7, 3) := by decide +kernel
theorem dL_enters_300 : decode cL_enters 300 = .ok (.iconst 1, 1) := by decide +kernel
theorem dL_enters_301 : decode cL_enters 301 = .ok (.goto 4, 3) := by decide +kernel
theorem dL_enters_304 : decode cL_enters 304 = .ok (.iconst 0, 1) := by decide +kernel
theorem dL_enters_305 : decode cL_enters 305 = .ok (.istore 11, 2) := by decide +kernel
theorem dL_enters_307 : decode cL_enters 307 = .ok (.iload 11, 2) := by decide +kernel
theorem dL_enters_309 : decode cL_enters 309 = .ok (.ifCond .ne 8, 3) := by decide +kernel
theorem dL_enters_312 : decode cL_enters 312 = .ok (.bipush (-2), 2) := by decide +kernel
theorem dL_enters_314 : decode cL_enters 314 = .ok (.goto 39, 3) := by decide +kernel
theorem dL_enters_317 : decode cL_enters 317 = .ok (.aload_n 3, 1) := by decide +kernel
theorem dL_enters_318 : decode cL_enters 318 = .ok (.iconst 5, 1) := by decide +kernel
theorem dL_enters_319 : decode cL_enters 319 = .ok (.iload 10, 2) := by decide +kernel
theorem dL_enters_321 : decode cL_enters 321 = .ok (.imul, 1) := by decide +kernel
theorem dL_enters_322 : decode cL_enters 322 = .ok (.iconst 4, 1) := by decide +kernel
theorem dL_enters_323 : decode cL_enters 323 = .ok (.iadd, 1) := by decide +kernel
theorem dL_enters_324 : decode cL_enters 324 = .ok (.iaload, 1) := by decide +kernel
theorem dL_enters_325 : decode cL_enters 325 = .ok (.iconst 1, 1) := by decide +kernel
theorem dL_enters_326 : decode cL_enters 326 = .ok (.if_icmp .ne 8, 3) := by decide +kernel
theorem dL_enters_329 : decode cL_enters 329 = .ok (.bipush (-3), 2) := by decide +kernel
theorem dL_enters_331 : decode cL_enters 331 = .ok (.goto 22, 3) := by decide +kernel
theorem dL_enters_334 : decode cL_enters 334 = .ok (.aload_n 3, 1) := by decide +kernel
theorem dL_enters_335 : decode cL_enters 335 = .ok (.iconst 5, 1) := by decide +kernel
theorem dL_enters_336 : decode cL_enters 336 = .ok (.iload 10, 2) := by decide +kernel
theorem dL_enters_338 : decode cL_enters 338 = .ok (.imul, 1) := by decide +kernel
theorem dL_enters_339 : decode cL_enters 339 = .ok (.iconst 2, 1) := by decide +kernel
theorem dL_enters_340 : decode cL_enters 340 = .ok (.iadd, 1) := by decide +kernel
theorem dL_enters_341 : decode cL_enters 341 = .ok (.iaload, 1) := by decide +kernel
theorem dL_enters_342 : decode cL_enters 342 = .ok (.aload_n 3, 1) := by decide +kernel
theorem dL_enters_343 : decode cL_enters 343 = .ok (.iconst 5, 1) := by decide +kernel
theorem dL_enters_344 : decode cL_enters 344 = .ok (.iload 10, 2) := by decide +kernel
theorem dL_enters_346 : decode cL_enters 346 = .ok (.imul, 1) := by decide +kernel
theorem dL_enters_347 : decode cL_enters 347 = .ok (.iconst 1, 1) := by decide +kernel
theorem dL_enters_348 : decode cL_enters 348 = .ok (.iadd, 1) := by decide +kernel
theorem dL_enters_349 : decode cL_enters 349 = .ok (.iaload, 1) := by decide +kernel
theorem dL_enters_350 : decode cL_enters 350 = .ok (.isub, 1) := by decide +kernel
theorem dL_enters_351 : decode cL_enters 351 = .ok (.iconst 1, 1) := by decide +kernel
theorem dL_enters_352 : decode cL_enters 352 = .ok (.iadd, 1) := by decide +kernel
theorem dL_enters_353 : decode cL_enters 353 = .ok (.istore 12, 2) := by decide +kernel
theorem dL_enters_355 : decode cL_enters 355 = .ok (.iload 12, 2) := by decide +kernel
theorem dL_enters_357 : decode cL_enters 357 = .ok (.ifCond .le 23, 3) := by decide +kernel
theorem dL_enters_360 : decode cL_enters 360 = .ok (.aload_n 3, 1) := by decide +kernel
theorem dL_enters_361 : decode cL_enters 361 = .ok (.iconst 5, 1) := by decide +kernel
theorem dL_enters_362 : decode cL_enters 362 = .ok (.iload 10, 2) := by decide +kernel
theorem dL_enters_364 : decode cL_enters 364 = .ok (.imul, 1) := by decide +kernel
theorem dL_enters_365 : decode cL_enters 365 = .ok (.iconst 1, 1) := by decide +kernel
theorem dL_enters_366 : decode cL_enters 366 = .ok (.iadd, 1) := by decide +kernel
theorem dL_enters_367 : decode cL_enters 367 = .ok (.iload 7, 2) := by decide +kernel
theorem dL_enters_369 : decode cL_enters 369 = .ok (.iastore, 1) := by decide +kernel
theorem dL_enters_370 : decode cL_enters 370 = .ok (.aload_n 3, 1) := by decide +kernel
theorem dL_enters_371 : decode cL_enters 371 = .ok (.iconst 5, 1) := by decide +kernel
theorem dL_enters_372 : decode cL_enters 372 = .ok (.iload 10, 2) := by decide +kernel
theorem dL_enters_374 : decode cL_enters 374 = .ok (.imul, 1) := by decide +kernel
theorem dL_enters_375 : decode cL_enters 375 = .ok (.iconst 2, 1) := by decide +kernel
theorem dL_enters_376 : decode cL_enters 376 = .ok (.iadd, 1) := by decide +kernel
theorem dL_enters_377 : decode cL_enters 377 = .ok (.iload 8, 2) := by decide +kernel
theorem dL_enters_379 : decode cL_enters 379 = .ok (.iastore, 1) := by decide +kernel
theorem dL_enters_380 : decode cL_enters 380 = .ok (.aload_n 0, 1) := by decide +kernel
theorem dL_enters_381 : decode cL_enters 381 = .ok (.iconst 1, 1) := by decide +kernel
theorem dL_enters_382 : decode cL_enters 382 = .ok (.iload 10, 2) := by decide +kernel
theorem dL_enters_384 : decode cL_enters 384 = .ok (.iload 7, 2) := by decide +kernel
theorem dL_enters_386 : decode cL_enters 386 = .ok (.iload 8, 2) := by decide +kernel
theorem dL_enters_388 : decode cL_enters 388 = .ok (.iconst 0, 1) := by decide +kernel
theorem dL_enters_389 : decode cL_enters 389 = .ok (.invokestatic 98, 3) := by decide +kernel
theorem dL_enters_392 : decode cL_enters 392 = .ok (.iload 12, 2) := by decide +kernel
theorem dL_enters_394 : decode cL_enters 394 = .ok (.if_icmp .ne 7, 3) := by decide +kernel
theorem dL_enters_397 : decode cL_enters 397 = .ok (.iconst 1, 1) := by decide +kernel
theorem dL_enters_398 : decode cL_enters 398 = .ok (.goto 4, 3) := by decide +kernel
theorem dL_enters_401 : decode cL_enters 401 = .ok (.iconst 0, 1) := by decide +kernel
theorem dL_enters_402 : decode cL_enters 402 = .ok (.ireturn, 1) := by decide +kernel
theorem dL_enters_403 : decode cL_enters 403 = .ok (.iload 9, 2) := by decide +kernel
theorem dL_enters_405 : decode cL_enters 405 = .ok (.bipush 6, 2) := by decide +kernel
theorem dL_enters_407 : decode cL_enters 407 = .ok (.if_icmp .ne 54, 3) := by decide +kernel
theorem dL_enters_410 : decode cL_enters 410 = .ok (.iload 10, 2) := by decide +kernel
theorem dL_enters_412 : decode cL_enters 412 = .ok (.ifCond .lt 49, 3) := by decide +kernel
theorem dL_enters_415 : decode cL_enters 415 = .ok (.aload_n 3, 1) := by decide +kernel
theorem dL_enters_416 : decode cL_enters 416 = .ok (.iconst 5, 1) := by decide +kernel
theorem dL_enters_417 : decode cL_enters 417 = .ok (.iload 10, 2) := by decide +kernel
theorem dL_enters_419 : decode cL_enters 419 = .ok (.imul, 1) := by decide +kernel
theorem dL_enters_420 : decode cL_enters 420 = .ok (.iconst 4, 1) := by decide +kernel
theorem dL_enters_421 : decode cL_enters 421 = .ok (.iadd, 1) := by decide +kernel
theorem dL_enters_422 : decode cL_enters 422 = .ok (.iaload, 1) := by decide +kernel
theorem dL_enters_423 : decode cL_enters 423 = .ok (.iconst 1, 1) := by decide +kernel
theorem dL_enters_424 : decode cL_enters 424 = .ok (.if_icmp .ne 8, 3) := by decide +kernel
theorem dL_enters_427 : decode cL_enters 427 = .ok (.bipush (-3), 2) := by decide +kernel
theorem dL_enters_429 : decode cL_enters 429 = .ok (.goto 4, 3) := by decide +kernel
theorem dL_enters_432 : decode cL_enters 432 = .ok (.iconst 0, 1) := by decide +kernel
theorem dL_enters_433 : decode cL_enters 433 = .ok (.istore 11, 2) := by decide +kernel
theorem dL_enters_435 : decode cL_enters 435 = .ok (.aload_n 3, 1) := by decide +kernel
theorem dL_enters_436 : decode cL_enters 436 = .ok (.iconst 5, 1) := by decide +kernel
theorem dL_enters_437 : decode cL_enters 437 = .ok (.iload 10, 2) := by decide +kernel
theorem dL_enters_439 : decode cL_enters 439 = .ok (.imul, 1) := by decide +kernel
theorem dL_enters_440 : decode cL_enters 440 = .ok (.iconst 4, 1) := by decide +kernel
theorem dL_enters_441 : decode cL_enters 441 = .ok (.iadd, 1) := by decide +kernel
theorem dL_enters_442 : decode cL_enters 442 = .ok (.iconst 1, 1) := by decide +kernel
theorem dL_enters_443 : decode cL_enters 443 = .ok (.iastore, 1) := by decide +kernel
theorem dL_enters_444 : decode cL_enters 444 = .ok (.aload_n 0, 1) := by decide +kernel
theorem dL_enters_445 : decode cL_enters 445 = .ok (.iload 10, 2) := by decide +kernel
theorem dL_enters_447 : decode cL_enters 447 = .ok (.invokestatic 105, 3) := by decide +kernel
theorem dL_enters_450 : decode cL_enters 450 = .ok (.iload 11, 2) := by decide +kernel
theorem dL_enters_452 : decode cL_enters 452 = .ok (.if_icmp .ne 7, 3) := by decide +kernel
theorem dL_enters_455 : decode cL_enters 455 = .ok (.iconst 1, 1) := by decide +kernel
theorem dL_enters_456 : decode cL_enters 456 = .ok (.goto 4, 3) := by decide +kernel
theorem dL_enters_459 : decode cL_enters 459 = .ok (.iconst 0, 1) := by decide +kernel
theorem dL_enters_460 : decode cL_enters 460 = .ok (.ireturn, 1) := by decide +kernel
theorem dL_enters_461 : decode cL_enters 461 = .ok (.aload 5, 2) := by decide +kernel
theorem dL_enters_463 : decode cL_enters 463 = .ok (.iconst 3, 1) := by decide +kernel
theorem dL_enters_464 : decode cL_enters 464 = .ok (.iaload, 1) := by decide +kernel
theorem dL_enters_465 : decode cL_enters 465 = .ok (.bipush 8, 2) := by decide +kernel
theorem dL_enters_467 : decode cL_enters 467 = .ok (.if_icmp .ge 73, 3) := by decide +kernel
theorem dL_enters_470 : decode cL_enters 470 = .ok (.aload 4, 2) := by decide +kernel
theorem dL_enters_472 : decode cL_enters 472 = .ok (.iconst 3, 1) := by decide +kernel
theorem dL_enters_473 : decode cL_enters 473 = .ok (.aload 5, 2) := by decide +kernel
theorem dL_enters_475 : decode cL_enters 475 = .ok (.iconst 3, 1) := by decide +kernel
theorem dL_enters_476 : decode cL_enters 476 = .ok (.iaload, 1) := by decide +kernel
theorem dL_enters_477 : decode cL_enters 477 = .ok (.imul, 1) := by decide +kernel
theorem dL_enters_478 : decode cL_enters 478 = .ok (.iload 6, 2) := by decide +kernel
theorem dL_enters_480 : decode cL_enters 480 = .ok (.iastore, 1) := by decide +kernel
theorem dL_enters_481 : decode cL_enters 481 = .ok (.aload 4, 2) := by decide +kernel
theorem dL_enters_483 : decode cL_enters 483 = .ok (.iconst 3, 1) := by decide +kernel
theorem dL_enters_484 : decode cL_enters 484 = .ok (.aload 5, 2) := by decide +kernel
theorem dL_enters_486 : decode cL_enters 486 = .ok (.iconst 3, 1) := by decide +kernel
theorem dL_enters_487 : decode cL_enters 487 = .ok (.iaload, 1) := by decide +kernel
theorem dL_enters_488 : decode cL_enters 488 = .ok (.imul, 1) := by decide +kernel
theorem dL_enters_489 : decode cL_enters 489 = .ok (.iconst 1, 1) := by decide +kernel
theorem dL_enters_490 : decode cL_enters 490 = .ok (.iadd, 1) := by decide +kernel
theorem dL_enters_491 : decode cL_enters 491 = .ok (.iload 7, 2) := by decide +kernel
theorem dL_enters_493 : decode cL_enters 493 = .ok (.iastore, 1) := by decide +kernel
theorem dL_enters_494 : decode cL_enters 494 = .ok (.aload 4, 2) := by decide +kernel
theorem dL_enters_496 : decode cL_enters 496 = .ok (.iconst 3, 1) := by decide +kernel
theorem dL_enters_497 : decode cL_enters 497 = .ok (.aload 5, 2) := by decide +kernel
theorem dL_enters_499 : decode cL_enters 499 = .ok (.iconst 3, 1) := by decide +kernel
theorem dL_enters_500 : decode cL_enters 500 = .ok (.iaload, 1) := by decide +kernel
theorem dL_enters_501 : decode cL_enters 501 = .ok (.imul, 1) := by decide +kernel
theorem dL_enters_502 : decode cL_enters 502 = .ok (.iconst 2, 1) := by decide +kernel
theorem dL_enters_503 : decode cL_enters 503 = .ok (.iadd, 1) := by decide +kernel
theorem dL_enters_504 : decode cL_enters 504 = .ok (.iload 8, 2) := by decide +kernel
theorem dL_enters_506 : decode cL_enters 506 = .ok (.iastore, 1) := by decide +kernel
theorem dL_enters_507 : decode cL_enters 507 = .ok (.aload 5, 2) := by decide +kernel
theorem dL_enters_509 : decode cL_enters 509 = .ok (.iconst 3, 1) := by decide +kernel
theorem dL_enters_510 : decode cL_enters 510 = .ok (.dup2, 1) := by decide +kernel
theorem dL_enters_511 : decode cL_enters 511 = .ok (.iaload, 1) := by decide +kernel
theorem dL_enters_512 : decode cL_enters 512 = .ok (.iconst 1, 1) := by decide +kernel
theorem dL_enters_513 : decode cL_enters 513 = .ok (.iadd, 1) := by decide +kernel
theorem dL_enters_514 : decode cL_enters 514 = .ok (.iastore, 1) := by decide +kernel
theorem dL_enters_515 : decode cL_enters 515 = .ok (.aload_n 0, 1) := by decide +kernel
theorem dL_enters_516 : decode cL_enters 516 = .ok (.iconst 2, 1) := by decide +kernel
theorem dL_enters_517 : decode cL_enters 517 = .ok (.iload 6, 2) := by decide +kernel
theorem dL_enters_519 : decode cL_enters 519 = .ok (.iload 7, 2) := by decide +kernel
theorem dL_enters_521 : decode cL_enters 521 = .ok (.iload 8, 2) := by decide +kernel
theorem dL_enters_523 : decode cL_enters 523 = .ok (.iconst 0, 1) := by decide +kernel
theorem dL_enters_524 : decode cL_enters 524 = .ok (.invokestatic 98, 3) := by decide +kernel
theorem dL_enters_527 : decode cL_enters 527 = .ok (.aload 5, 2) := by decide +kernel
theorem dL_enters_529 : decode cL_enters 529 = .ok (.iconst 3, 1) := by decide +kernel
theorem dL_enters_530 : decode cL_enters 530 = .ok (.iaload, 1) := by decide +kernel
theorem dL_enters_531 : decode cL_enters 531 = .ok (.if_icmp .ne 7, 3) := by decide +kernel
theorem dL_enters_534 : decode cL_enters 534 = .ok (.iconst 1, 1) := by decide +kernel
theorem dL_enters_535 : decode cL_enters 535 = .ok (.goto 4, 3) := by decide +kernel
theorem dL_enters_538 : decode cL_enters 538 = .ok (.iconst 0, 1) := by decide +kernel
theorem dL_enters_539 : decode cL_enters 539 = .ok (.ireturn, 1) := by decide +kernel
theorem dL_enters_540 : decode cL_enters 540 = .ok (.iconst 1, 1) := by decide +kernel
theorem dL_enters_541 : decode cL_enters 541 = .ok (.ireturn, 1) := by decide +kernel
