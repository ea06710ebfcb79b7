theorem dX0_init_0 : decode cX0_init 0 = .ok (.aload_n 0, 1) := by decide +kernel
theorem dX0_init_1 : decode cX0_init 1 = .ok (.invokespecial 3, 3) := by decide +kernel
theorem dX0_init_4 : decode cX0_init 4 = .ok (.aload_n 0, 1) := by decide +kernel
theorem dX0_init_5 : decode cX0_init 5 = .ok (.bipush 120, 2) := by decide +kernel
theorem dX0_init_7 : decode cX0_init 7 = .ok (.newarray .int, 2) := by decide +kernel
theorem dX0_init_9 : decode cX0_init 9 = .ok (.putfield 9, 3) := by decide +kernel
theorem dX0_init_12 : decode cX0_init 12 = .ok (.aload_n 0, 1) := by decide +kernel
theorem dX0_init_13 : decode cX0_init 13 = .ok (.bipush 120, 2) := by decide +kernel
theorem dX0_init_15 : decode cX0_init 15 = .ok (.newarray .int, 2) := by decide +kernel
theorem dX0_init_17 : decode cX0_init 17 = .ok (.putfield 15, 3) := by decide +kernel
theorem dX0_init_20 : decode cX0_init 20 = .ok (.return_, 1) := by decide +kernel
set_option maxRecDepth 20000 in
theorem ggX0_goThrough_X0_clear : GoodIn wsX0_goThrough wsX0_clear := goodIn_r _ [6, 7, 8, 9, 10, 11, 12, 13, 14, 15, 91, 92, 93, 94, 95, 96, 97, 98, 99, 100, 101] (by decide +kernel) (by decide +kernel)
set_option maxRecDepth 20000 in
theorem gX0_goThrough_X0_clear : GoodIn wsX0_goThrough (wsV RX0 18 RX0 yX0_clear wsX0_clear) := goodIn_app (goodIn_of _ (by decide +kernel)) ggX0_goThrough_X0_clear
set_option maxRecDepth 20000 in
theorem ggX0_goThrough_X0_isDayOfEarning : GoodIn wsX0_goThrough wsX0_isDayOfEarning := goodIn_r _ [18, 1, 76, 77, 78, 79, 80, 81, 82, 83, 84, 85, 86, 87, 88, 89, 90] (by decide +kernel) (by decide +kernel)
set_option maxRecDepth 20000 in
theorem gX0_goThrough_X0_isDayOfEarning : GoodIn wsX0_goThrough (va_wsS RX0 27 yX0_isDayOfEarning wsX0_isDayOfEarning) := goodIn_app (goodIn_of _ (by decide +kernel)) ggX0_goThrough_X0_isDayOfEarning
set_option maxRecDepth 20000 in
theorem ggX0_goThrough_X0_pointsOfMonth : GoodIn wsX0_goThrough wsX0_pointsOfMonth := goodIn_r _ [21, 1, 22, 23, 24, 25, 26, 27, 28, 29, 30, 31, 32, 33, 34, 35, 76, 77, 78, 79, 80, 81, 82, 83, 84, 85, 86, 87, 88, 89, 90] (by decide +kernel) (by decide +kernel)
set_option maxRecDepth 20000 in
theorem gX0_goThrough_X0_pointsOfMonth : GoodIn wsX0_goThrough (va_wsS RX0 31 yX0_pointsOfMonth wsX0_pointsOfMonth) := goodIn_app (goodIn_of _ (by decide +kernel)) ggX0_goThrough_X0_pointsOfMonth
set_option maxRecDepth 20000 in
theorem ggX0_goThrough_X0_expiryOf : GoodIn wsX0_goThrough wsX0_expiryOf := goodIn_r _ [38] (by decide +kernel) (by decide +kernel)
set_option maxRecDepth 20000 in
theorem gX0_goThrough_X0_expiryOf : GoodIn wsX0_goThrough (va_wsS RX0 35 yX0_expiryOf wsX0_expiryOf) := goodIn_app (goodIn_of _ (by decide +kernel)) ggX0_goThrough_X0_expiryOf
set_option maxRecDepth 20000 in
theorem ggX0_goThrough_X0_earn : GoodIn wsX0_goThrough wsX0_earn := goodIn_r _ [42, 10, 22, 23, 24, 25, 11, 7, 43, 44, 91, 92, 93, 94, 95, 96, 97, 98, 99, 100, 101] (by decide +kernel) (by decide +kernel)
set_option maxRecDepth 20000 in
theorem gX0_goThrough_X0_earn : GoodIn wsX0_goThrough (wsV RX0 39 RX0 yX0_earn wsX0_earn) := goodIn_app (goodIn_of _ (by decide +kernel)) ggX0_goThrough_X0_earn
set_option maxRecDepth 20000 in
theorem ggX0_goThrough_X0_expireOn : GoodIn wsX0_goThrough wsX0_expireOn := goodIn_r _ [48, 8, 7, 44, 13, 43, 91, 92, 93, 94, 95, 96, 97, 98, 99, 100, 101] (by decide +kernel) (by decide +kernel)
set_option maxRecDepth 20000 in
theorem gX0_goThrough_X0_expireOn : GoodIn wsX0_goThrough (wsV RX0 43 RX0 yX0_expireOn wsX0_expireOn) := goodIn_app (goodIn_of _ (by decide +kernel)) ggX0_goThrough_X0_expireOn
set_option maxRecDepth 20000 in
theorem ggX0_goThrough_X1_leaveOn : GoodIn wsX0_goThrough wsX1_leaveOn := goodIn_r _ [52, 53, 76, 77, 78, 79, 80, 81, 82, 83, 84, 85, 86, 87, 88, 89, 90] (by decide +kernel) (by decide +kernel)
set_option maxRecDepth 20000 in
theorem gX0_goThrough_X1_leaveOn : GoodIn wsX0_goThrough (wsV RX0 47 RX1 yX1_leaveOn wsX1_leaveOn) := goodIn_app (goodIn_of _ (by decide +kernel)) ggX0_goThrough_X1_leaveOn
set_option maxRecDepth 20000 in
theorem ggX0_goThrough_X0_take : GoodIn wsX0_goThrough wsX0_take := goodIn_r _ [57, 58, 59, 24, 60, 10, 15, 12, 61, 62, 63, 5, 64, 8, 7, 43, 65, 66, 67, 68, 22, 23, 25, 91, 92, 93, 94, 95, 96, 97, 98, 99, 100, 101] (by decide +kernel) (by decide +kernel)
set_option maxRecDepth 20000 in
theorem gX0_goThrough_X0_take : GoodIn wsX0_goThrough (wsV RX0 50 RX0 yX0_take wsX0_take) := goodIn_app (goodIn_of _ (by decide +kernel)) ggX0_goThrough_X0_take
set_option maxRecDepth 20000 in
theorem ggX0_goThrough_X0_payOn : GoodIn wsX0_goThrough wsX0_payOn := goodIn_r _ [72, 9, 73, 74, 14, 75, 65, 66, 67, 5, 68, 8, 7, 43, 22, 23, 24, 25, 91, 92, 93, 94, 95, 96, 97, 98, 99, 100, 101, 76, 77, 78, 79, 80, 81, 82, 83, 84, 85, 86, 87, 88, 89, 90] (by decide +kernel) (by decide +kernel)
set_option maxRecDepth 20000 in
theorem gX0_goThrough_X0_payOn : GoodIn wsX0_goThrough (wsV RX0 53 RX0 yX0_payOn wsX0_payOn) := goodIn_app (goodIn_of _ (by decide +kernel)) ggX0_goThrough_X0_payOn
theorem dX0_goThrough_0 : decode cX0_goThrough 0 = .ok (.aload_n 0, 1) := by decide +kernel
theorem dX0_goThrough_1 : decode cX0_goThrough 1 = .ok (.invokevirtual 18, 3) := by decide +kernel
theorem dX0_goThrough_4 : decode cX0_goThrough 4 = .ok (.aload_n 1, 1) := by decide +kernel
theorem dX0_goThrough_5 : decode cX0_goThrough 5 = .ok (.getfield 21, 3) := by decide +kernel
theorem dX0_goThrough_8 : decode cX0_goThrough 8 = .ok (.istore_n 3, 1) := by decide +kernel
theorem dX0_goThrough_9 : decode cX0_goThrough 9 = .ok (.iload_n 3, 1) := by decide +kernel
theorem dX0_goThrough_10 : decode cX0_goThrough 10 = .ok (.iload_n 2, 1) := by decide +kernel
theorem dX0_goThrough_11 : decode cX0_goThrough 11 = .ok (.if_icmp .gt 50, 3) := by decide +kernel
theorem dX0_goThrough_14 : decode cX0_goThrough 14 = .ok (.aload_n 1, 1) := by decide +kernel
theorem dX0_goThrough_15 : decode cX0_goThrough 15 = .ok (.iload_n 3, 1) := by decide +kernel
theorem dX0_goThrough_16 : decode cX0_goThrough 16 = .ok (.invokestatic 27, 3) := by decide +kernel
theorem dX0_goThrough_19 : decode cX0_goThrough 19 = .ok (.ifCond .eq 16, 3) := by decide +kernel
theorem dX0_goThrough_22 : decode cX0_goThrough 22 = .ok (.aload_n 0, 1) := by decide +kernel
theorem dX0_goThrough_23 : decode cX0_goThrough 23 = .ok (.aload_n 1, 1) := by decide +kernel
theorem dX0_goThrough_24 : decode cX0_goThrough 24 = .ok (.iload_n 3, 1) := by decide +kernel
theorem dX0_goThrough_25 : decode cX0_goThrough 25 = .ok (.invokestatic 31, 3) := by decide +kernel
theorem dX0_goThrough_28 : decode cX0_goThrough 28 = .ok (.iload_n 3, 1) := by decide +kernel
theorem dX0_goThrough_29 : decode cX0_goThrough 29 = .ok (.invokestatic 35, 3) := by decide +kernel
theorem dX0_goThrough_32 : decode cX0_goThrough 32 = .ok (.invokevirtual 39, 3) := by decide +kernel
theorem dX0_goThrough_35 : decode cX0_goThrough 35 = .ok (.aload_n 0, 1) := by decide +kernel
theorem dX0_goThrough_36 : decode cX0_goThrough 36 = .ok (.iload_n 3, 1) := by decide +kernel
theorem dX0_goThrough_37 : decode cX0_goThrough 37 = .ok (.invokevirtual 43, 3) := by decide +kernel
theorem dX0_goThrough_40 : decode cX0_goThrough 40 = .ok (.aload_n 0, 1) := by decide +kernel
theorem dX0_goThrough_41 : decode cX0_goThrough 41 = .ok (.aload_n 1, 1) := by decide +kernel
theorem dX0_goThrough_42 : decode cX0_goThrough 42 = .ok (.iload_n 3, 1) := by decide +kernel
theorem dX0_goThrough_43 : decode cX0_goThrough 43 = .ok (.invokevirtual 47, 3) := by decide +kernel
theorem dX0_goThrough_46 : decode cX0_goThrough 46 = .ok (.invokevirtual 50, 3) := by decide +kernel
theorem dX0_goThrough_49 : decode cX0_goThrough 49 = .ok (.aload_n 0, 1) := by decide +kernel
theorem dX0_goThrough_50 : decode cX0_goThrough 50 = .ok (.aload_n 1, 1) := by decide +kernel
theorem dX0_goThrough_51 : decode cX0_goThrough 51 = .ok (.iload_n 3, 1) := by decide +kernel
theorem dX0_goThrough_52 : decode cX0_goThrough 52 = .ok (.invokevirtual 53, 3) := by decide +kernel
theorem dX0_goThrough_55 : decode cX0_goThrough 55 = .ok (.iinc 3 1, 3) := by decide +kernel
theorem dX0_goThrough_58 : decode cX0_goThrough 58 = .ok (.goto (-49), 3) := by decide +kernel
theorem dX0_goThrough_61 : decode cX0_goThrough 61 = .ok (.return_, 1) := by decide +kernel
theorem dX0_pointsInLots_0 : decode cX0_pointsInLots 0 = .ok (.iconst 0, 1) := by decide +kernel
theorem dX0_pointsInLots_1 : decode cX0_pointsInLots 1 = .ok (.istore_n 1, 1) := by decide +kernel
theorem dX0_pointsInLots_2 : decode cX0_pointsInLots 2 = .ok (.aload_n 0, 1) := by decide +kernel
theorem dX0_pointsInLots_3 : decode cX0_pointsInLots 3 = .ok (.getfield 57, 3) := by decide +kernel
theorem dX0_pointsInLots_6 : decode cX0_pointsInLots 6 = .ok (.istore_n 2, 1) := by decide +kernel
theorem dX0_pointsInLots_7 : decode cX0_pointsInLots 7 = .ok (.iload_n 2, 1) := by decide +kernel
theorem dX0_pointsInLots_8 : decode cX0_pointsInLots 8 = .ok (.aload_n 0, 1) := by decide +kernel
theorem dX0_pointsInLots_9 : decode cX0_pointsInLots 9 = .ok (.getfield 60, 3) := by decide +kernel
theorem dX0_pointsInLots_12 : decode cX0_pointsInLots 12 = .ok (.if_icmp .ge 18, 3) := by decide +kernel
theorem dX0_pointsInLots_15 : decode cX0_pointsInLots 15 = .ok (.iload_n 1, 1) := by decide +kernel
theorem dX0_pointsInLots_16 : decode cX0_pointsInLots 16 = .ok (.aload_n 0, 1) := by decide +kernel
theorem dX0_pointsInLots_17 : decode cX0_pointsInLots 17 = .ok (.getfield 9, 3) := by decide +kernel
theorem dX0_pointsInLots_20 : decode cX0_pointsInLots 20 = .ok (.iload_n 2, 1) := by decide +kernel
theorem dX0_pointsInLots_21 : decode cX0_pointsInLots 21 = .ok (.iaload, 1) := by decide +kernel
theorem dX0_pointsInLots_22 : decode cX0_pointsInLots 22 = .ok (.iadd, 1) := by decide +kernel
theorem dX0_pointsInLots_23 : decode cX0_pointsInLots 23 = .ok (.istore_n 1, 1) := by decide +kernel
theorem dX0_pointsInLots_24 : decode cX0_pointsInLots 24 = .ok (.iinc 2 1, 3) := by decide +kernel
theorem dX0_pointsInLots_27 : decode cX0_pointsInLots 27 = .ok (.goto (-20), 3) := by decide +kernel
theorem dX0_pointsInLots_30 : decode cX0_pointsInLots 30 = .ok (.iload_n 1, 1) := by decide +kernel
theorem dX0_pointsInLots_31 : decode cX0_pointsInLots 31 = .ok (.ireturn, 1) := by decide +kernel
theorem dX0_firstExpiry_0 : decode cX0_firstExpiry 0 = .ok (.aload_n 0, 1) := by decide +kernel
theorem dX0_firstExpiry_1 : decode cX0_firstExpiry 1 = .ok (.getfield 57, 3) := by decide +kernel
theorem dX0_firstExpiry_4 : decode cX0_firstExpiry 4 = .ok (.istore_n 1, 1) := by decide +kernel
theorem dX0_firstExpiry_5 : decode cX0_firstExpiry 5 = .ok (.iload_n 1, 1) := by decide +kernel
theorem dX0_firstExpiry_6 : decode cX0_firstExpiry 6 = .ok (.aload_n 0, 1) := by decide +kernel
theorem dX0_firstExpiry_7 : decode cX0_firstExpiry 7 = .ok (.getfield 60, 3) := by decide +kernel
theorem dX0_firstExpiry_10 : decode cX0_firstExpiry 10 = .ok (.if_icmp .ge 25, 3) := by decide +kernel
theorem dX0_firstExpiry_13 : decode cX0_firstExpiry 13 = .ok (.aload_n 0, 1) := by decide +kernel
theorem dX0_firstExpiry_14 : decode cX0_firstExpiry 14 = .ok (.getfield 9, 3) := by decide +kernel
theorem dX0_firstExpiry_17 : decode cX0_firstExpiry 17 = .ok (.iload_n 1, 1) := by decide +kernel
theorem dX0_firstExpiry_18 : decode cX0_firstExpiry 18 = .ok (.iaload, 1) := by decide +kernel
theorem dX0_firstExpiry_19 : decode cX0_firstExpiry 19 = .ok (.ifCond .le 10, 3) := by decide +kernel
theorem dX0_firstExpiry_22 : decode cX0_firstExpiry 22 = .ok (.aload_n 0, 1) := by decide +kernel
theorem dX0_firstExpiry_23 : decode cX0_firstExpiry 23 = .ok (.getfield 15, 3) := by decide +kernel
theorem dX0_firstExpiry_26 : decode cX0_firstExpiry 26 = .ok (.iload_n 1, 1) := by decide +kernel
theorem dX0_firstExpiry_27 : decode cX0_firstExpiry 27 = .ok (.iaload, 1) := by decide +kernel
theorem dX0_firstExpiry_28 : decode cX0_firstExpiry 28 = .ok (.ireturn, 1) := by decide +kernel
theorem dX0_firstExpiry_29 : decode cX0_firstExpiry 29 = .ok (.iinc 1 1, 3) := by decide +kernel
theorem dX0_firstExpiry_32 : decode cX0_firstExpiry 32 = .ok (.goto (-27), 3) := by decide +kernel
theorem dX0_firstExpiry_35 : decode cX0_firstExpiry 35 = .ok (.iconst (-1), 1) := by decide +kernel
theorem dX0_firstExpiry_36 : decode cX0_firstExpiry 36 = .ok (.ireturn, 1) := by decide +kernel
theorem dX0_clear_0 : decode cX0_clear 0 = .ok (.aload_n 0, 1) := by decide +kernel
theorem dX0_clear_1 : decode cX0_clear 1 = .ok (.iconst 0, 1) := by decide +kernel
theorem dX0_clear_2 : decode cX0_clear 2 = .ok (.putfield 60, 3) := by decide +kernel
theorem dX0_clear_5 : decode cX0_clear 5 = .ok (.aload_n 0, 1) := by decide +kernel
theorem dX0_clear_6 : decode cX0_clear 6 = .ok (.iconst 0, 1) := by decide +kernel
theorem dX0_clear_7 : decode cX0_clear 7 = .ok (.putfield 57, 3) := by decide +kernel
theorem dX0_clear_10 : decode cX0_clear 10 = .ok (.aload_n 0, 1) := by decide +kernel
theorem dX0_clear_11 : decode cX0_clear 11 = .ok (.iconst 0, 1) := by decide +kernel
theorem dX0_clear_12 : decode cX0_clear 12 = .ok (.putfield 63, 3) := by decide +kernel
theorem dX0_clear_15 : decode cX0_clear 15 = .ok (.aload_n 0, 1) := by decide +kernel
theorem dX0_clear_16 : decode cX0_clear 16 = .ok (.iconst 0, 1) := by decide +kernel
theorem dX0_clear_17 : decode cX0_clear 17 = .ok (.putfield 66, 3) := by decide +kernel
theorem dX0_clear_20 : decode cX0_clear 20 = .ok (.aload_n 0, 1) := by decide +kernel
theorem dX0_clear_21 : decode cX0_clear 21 = .ok (.iconst 0, 1) := by decide +kernel
theorem dX0_clear_22 : decode cX0_clear 22 = .ok (.putfield 69, 3) := by decide +kernel
theorem dX0_clear_25 : decode cX0_clear 25 = .ok (.aload_n 0, 1) := by decide +kernel
theorem dX0_clear_26 : decode cX0_clear 26 = .ok (.iconst 0, 1) := by decide +kernel
theorem dX0_clear_27 : decode cX0_clear 27 = .ok (.putfield 72, 3) := by decide +kernel
theorem dX0_clear_30 : decode cX0_clear 30 = .ok (.aload_n 0, 1) := by decide +kernel
theorem dX0_clear_31 : decode cX0_clear 31 = .ok (.iconst 0, 1) := by decide +kernel
theorem dX0_clear_32 : decode cX0_clear 32 = .ok (.putfield 75, 3) := by decide +kernel
theorem dX0_clear_35 : decode cX0_clear 35 = .ok (.aload_n 0, 1) := by decide +kernel
theorem dX0_clear_36 : decode cX0_clear 36 = .ok (.iconst 0, 1) := by decide +kernel
theorem dX0_clear_37 : decode cX0_clear 37 = .ok (.putfield 78, 3) := by decide +kernel
theorem dX0_clear_40 : decode cX0_clear 40 = .ok (.aload_n 0, 1) := by decide +kernel
theorem dX0_clear_41 : decode cX0_clear 41 = .ok (.iconst 0, 1) := by decide +kernel
theorem dX0_clear_42 : decode cX0_clear 42 = .ok (.putfield 81, 3) := by decide +kernel
theorem dX0_clear_45 : decode cX0_clear 45 = .ok (.return_, 1) := by decide +kernel
theorem dX0_isDayOfEarning_0 : decode cX0_isDayOfEarning 0 = .ok (.iload_n 1, 1) := by decide +kernel
theorem dX0_isDayOfEarning_1 : decode cX0_isDayOfEarning 1 = .ok (.bipush 30, 2) := by decide +kernel
theorem dX0_isDayOfEarning_3 : decode cX0_isDayOfEarning 3 = .ok (.irem, 1) := by decide +kernel
theorem dX0_isDayOfEarning_4 : decode cX0_isDayOfEarning 4 = .ok (.ifCond .ne 18, 3) := by decide +kernel
theorem dX0_isDayOfEarning_7 : decode cX0_isDayOfEarning 7 = .ok (.iload_n 1, 1) := by decide +kernel
theorem dX0_isDayOfEarning_8 : decode cX0_isDayOfEarning 8 = .ok (.bipush 30, 2) := by decide +kernel
theorem dX0_isDayOfEarning_10 : decode cX0_isDayOfEarning 10 = .ok (.isub, 1) := by decide +kernel
theorem dX0_isDayOfEarning_11 : decode cX0_isDayOfEarning 11 = .ok (.aload_n 0, 1) := by decide +kernel
theorem dX0_isDayOfEarning_12 : decode cX0_isDayOfEarning 12 = .ok (.getfield 21, 3) := by decide +kernel
theorem dX0_isDayOfEarning_15 : decode cX0_isDayOfEarning 15 = .ok (.if_icmp .lt 7, 3) := by decide +kernel
theorem dX0_isDayOfEarning_18 : decode cX0_isDayOfEarning 18 = .ok (.iconst 1, 1) := by decide +kernel
theorem dX0_isDayOfEarning_19 : decode cX0_isDayOfEarning 19 = .ok (.goto 4, 3) := by decide +kernel
theorem dX0_isDayOfEarning_22 : decode cX0_isDayOfEarning 22 = .ok (.iconst 0, 1) := by decide +kernel
theorem dX0_isDayOfEarning_23 : decode cX0_isDayOfEarning 23 = .ok (.ireturn, 1) := by decide +kernel
set_option maxRecDepth 20000 in
theorem ggX0_pointsOfMonth_X1_hoursOn : GoodIn wsX0_pointsOfMonth wsX1_hoursOn := goodIn_r _ [11, 12, 13, 14, 15, 16, 17, 18, 19, 20, 21, 22, 23, 24, 25, 26, 27, 28, 29, 30] (by decide +kernel) (by decide +kernel)
set_option maxRecDepth 20000 in
theorem gX0_pointsOfMonth_X1_hoursOn : GoodIn wsX0_pointsOfMonth (wsV RX0 93 RX1 yX1_hoursOn wsX1_hoursOn) := goodIn_app (goodIn_of _ (by decide +kernel)) ggX0_pointsOfMonth_X1_hoursOn
theorem dX0_pointsOfMonth_0 : decode cX0_pointsOfMonth 0 = .ok (.iload_n 1, 1) := by decide +kernel
theorem dX0_pointsOfMonth_1 : decode cX0_pointsOfMonth 1 = .ok (.aload_n 0, 1) := by decide +kernel
theorem dX0_pointsOfMonth_2 : decode cX0_pointsOfMonth 2 = .ok (.getfield 21, 3) := by decide +kernel
theorem dX0_pointsOfMonth_5 : decode cX0_pointsOfMonth 5 = .ok (.isub, 1) := by decide +kernel
theorem dX0_pointsOfMonth_6 : decode cX0_pointsOfMonth 6 = .ok (.sipush 360, 3) := by decide +kernel
theorem dX0_pointsOfMonth_9 : decode cX0_pointsOfMonth 9 = .ok (.idiv, 1) := by decide +kernel
theorem dX0_pointsOfMonth_10 : decode cX0_pointsOfMonth 10 = .ok (.istore_n 2, 1) := by decide +kernel
theorem dX0_pointsOfMonth_11 : decode cX0_pointsOfMonth 11 = .ok (.iload_n 2, 1) := by decide +kernel
theorem dX0_pointsOfMonth_12 : decode cX0_pointsOfMonth 12 = .ok (.iconst 3, 1) := by decide +kernel
theorem dX0_pointsOfMonth_13 : decode cX0_pointsOfMonth 13 = .ok (.idiv, 1) := by decide +kernel
theorem dX0_pointsOfMonth_14 : decode cX0_pointsOfMonth 14 = .ok (.iconst 2, 1) := by decide +kernel
theorem dX0_pointsOfMonth_15 : decode cX0_pointsOfMonth 15 = .ok (.imul, 1) := by decide +kernel
theorem dX0_pointsOfMonth_16 : decode cX0_pointsOfMonth 16 = .ok (.bipush 10, 2) := by decide +kernel
theorem dX0_pointsOfMonth_18 : decode cX0_pointsOfMonth 18 = .ok (.invokestatic 84, 3) := by decide +kernel
theorem dX0_pointsOfMonth_21 : decode cX0_pointsOfMonth 21 = .ok (.istore_n 3, 1) := by decide +kernel
theorem dX0_pointsOfMonth_22 : decode cX0_pointsOfMonth 22 = .ok (.iconst 2, 1) := by decide +kernel
theorem dX0_pointsOfMonth_23 : decode cX0_pointsOfMonth 23 = .ok (.aload_n 0, 1) := by decide +kernel
theorem dX0_pointsOfMonth_24 : decode cX0_pointsOfMonth 24 = .ok (.getfield 90, 3) := by decide +kernel
theorem dX0_pointsOfMonth_27 : decode cX0_pointsOfMonth 27 = .ok (.iload_n 3, 1) := by decide +kernel
theorem dX0_pointsOfMonth_28 : decode cX0_pointsOfMonth 28 = .ok (.iadd, 1) := by decide +kernel
theorem dX0_pointsOfMonth_29 : decode cX0_pointsOfMonth 29 = .ok (.imul, 1) := by decide +kernel
theorem dX0_pointsOfMonth_30 : decode cX0_pointsOfMonth 30 = .ok (.aload_n 0, 1) := by decide +kernel
theorem dX0_pointsOfMonth_31 : decode cX0_pointsOfMonth 31 = .ok (.iload_n 1, 1) := by decide +kernel
theorem dX0_pointsOfMonth_32 : decode cX0_pointsOfMonth 32 = .ok (.iconst 1, 1) := by decide +kernel
theorem dX0_pointsOfMonth_33 : decode cX0_pointsOfMonth 33 = .ok (.isub, 1) := by decide +kernel
theorem dX0_pointsOfMonth_34 : decode cX0_pointsOfMonth 34 = .ok (.invokevirtual 93, 3) := by decide +kernel
theorem dX0_pointsOfMonth_37 : decode cX0_pointsOfMonth 37 = .ok (.imul, 1) := by decide +kernel
theorem dX0_pointsOfMonth_38 : decode cX0_pointsOfMonth 38 = .ok (.ireturn, 1) := by decide +kernel
theorem dX0_expiryOf_0 : decode cX0_expiryOf 0 = .ok (.iload_n 0, 1) := by decide +kernel
theorem dX0_expiryOf_1 : decode cX0_expiryOf 1 = .ok (.iconst 1, 1) := by decide +kernel
theorem dX0_expiryOf_2 : decode cX0_expiryOf 2 = .ok (.isub, 1) := by decide +kernel
theorem dX0_expiryOf_3 : decode cX0_expiryOf 3 = .ok (.sipush 360, 3) := by decide +kernel
theorem dX0_expiryOf_6 : decode cX0_expiryOf 6 = .ok (.idiv, 1) := by decide +kernel
theorem dX0_expiryOf_7 : decode cX0_expiryOf 7 = .ok (.istore_n 1, 1) := by decide +kernel
theorem dX0_expiryOf_8 : decode cX0_expiryOf 8 = .ok (.iload_n 1, 1) := by decide +kernel
theorem dX0_expiryOf_9 : decode cX0_expiryOf 9 = .ok (.iconst 1, 1) := by decide +kernel
theorem dX0_expiryOf_10 : decode cX0_expiryOf 10 = .ok (.iadd, 1) := by decide +kernel
theorem dX0_expiryOf_11 : decode cX0_expiryOf 11 = .ok (.sipush 360, 3) := by decide +kernel
theorem dX0_expiryOf_14 : decode cX0_expiryOf 14 = .ok (.imul, 1) := by decide +kernel
theorem dX0_expiryOf_15 : decode cX0_expiryOf 15 = .ok (.bipush 90, 2) := by decide +kernel
theorem dX0_expiryOf_17 : decode cX0_expiryOf 17 = .ok (.iadd, 1) := by decide +kernel
theorem dX0_expiryOf_18 : decode cX0_expiryOf 18 = .ok (.ireturn, 1) := by decide +kernel
theorem dX0_earn_0 : decode cX0_earn 0 = .ok (.iload_n 1, 1) := by decide +kernel
theorem dX0_earn_1 : decode cX0_earn 1 = .ok (.aload_n 0, 1) := by decide +kernel
theorem dX0_earn_2 : decode cX0_earn 2 = .ok (.getfield 66, 3) := by decide +kernel
theorem dX0_earn_5 : decode cX0_earn 5 = .ok (.invokestatic 84, 3) := by decide +kernel
theorem dX0_earn_8 : decode cX0_earn 8 = .ok (.istore_n 3, 1) := by decide +kernel
theorem dX0_earn_9 : decode cX0_earn 9 = .ok (.aload_n 0, 1) := by decide +kernel
theorem dX0_earn_10 : decode cX0_earn 10 = .ok (.dup, 1) := by decide +kernel
theorem dX0_earn_11 : decode cX0_earn 11 = .ok (.getfield 66, 3) := by decide +kernel
theorem dX0_earn_14 : decode cX0_earn 14 = .ok (.iload_n 3, 1) := by decide +kernel
theorem dX0_earn_15 : decode cX0_earn 15 = .ok (.isub, 1) := by decide +kernel
theorem dX0_earn_16 : decode cX0_earn 16 = .ok (.putfield 66, 3) := by decide +kernel
theorem dX0_earn_19 : decode cX0_earn 19 = .ok (.aload_n 0, 1) := by decide +kernel
theorem dX0_earn_20 : decode cX0_earn 20 = .ok (.dup, 1) := by decide +kernel
theorem dX0_earn_21 : decode cX0_earn 21 = .ok (.getfield 69, 3) := by decide +kernel
theorem dX0_earn_24 : decode cX0_earn 24 = .ok (.iload_n 1, 1) := by decide +kernel
theorem dX0_earn_25 : decode cX0_earn 25 = .ok (.iadd, 1) := by decide +kernel
theorem dX0_earn_26 : decode cX0_earn 26 = .ok (.putfield 69, 3) := by decide +kernel
theorem dX0_earn_29 : decode cX0_earn 29 = .ok (.aload_n 0, 1) := by decide +kernel
theorem dX0_earn_30 : decode cX0_earn 30 = .ok (.getfield 60, 3) := by decide +kernel
theorem dX0_earn_33 : decode cX0_earn 33 = .ok (.aload_n 0, 1) := by decide +kernel
theorem dX0_earn_34 : decode cX0_earn 34 = .ok (.getfield 9, 3) := by decide +kernel
theorem dX0_earn_37 : decode cX0_earn 37 = .ok (.arraylength, 1) := by decide +kernel
theorem dX0_earn_38 : decode cX0_earn 38 = .ok (.if_icmp .ge 35, 3) := by decide +kernel
theorem dX0_earn_41 : decode cX0_earn 41 = .ok (.aload_n 0, 1) := by decide +kernel
theorem dX0_earn_42 : decode cX0_earn 42 = .ok (.getfield 9, 3) := by decide +kernel
theorem dX0_earn_45 : decode cX0_earn 45 = .ok (.aload_n 0, 1) := by decide +kernel
theorem dX0_earn_46 : decode cX0_earn 46 = .ok (.getfield 60, 3) := by decide +kernel
theorem dX0_earn_49 : decode cX0_earn 49 = .ok (.iload_n 1, 1) := by decide +kernel
theorem dX0_earn_50 : decode cX0_earn 50 = .ok (.iload_n 3, 1) := by decide +kernel
theorem dX0_earn_51 : decode cX0_earn 51 = .ok (.isub, 1) := by decide +kernel
theorem dX0_earn_52 : decode cX0_earn 52 = .ok (.iastore, 1) := by decide +kernel
theorem dX0_earn_53 : decode cX0_earn 53 = .ok (.aload_n 0, 1) := by decide +kernel
theorem dX0_earn_54 : decode cX0_earn 54 = .ok (.getfield 15, 3) := by decide +kernel
theorem dX0_earn_57 : decode cX0_earn 57 = .ok (.aload_n 0, 1) := by decide +kernel
theorem dX0_earn_58 : decode cX0_earn 58 = .ok (.getfield 60, 3) := by decide +kernel
theorem dX0_earn_61 : decode cX0_earn 61 = .ok (.iload_n 2, 1) := by decide +kernel
theorem dX0_earn_62 : decode cX0_earn 62 = .ok (.iastore, 1) := by decide +kernel
theorem dX0_earn_63 : decode cX0_earn 63 = .ok (.aload_n 0, 1) := by decide +kernel
theorem dX0_earn_64 : decode cX0_earn 64 = .ok (.dup, 1) := by decide +kernel
theorem dX0_earn_65 : decode cX0_earn 65 = .ok (.getfield 60, 3) := by decide +kernel
theorem dX0_earn_68 : decode cX0_earn 68 = .ok (.iconst 1, 1) := by decide +kernel
theorem dX0_earn_69 : decode cX0_earn 69 = .ok (.iadd, 1) := by decide +kernel
theorem dX0_earn_70 : decode cX0_earn 70 = .ok (.putfield 60, 3) := by decide +kernel
theorem dX0_earn_73 : decode cX0_earn 73 = .ok (.return_, 1) := by decide +kernel
theorem dX0_expireOn_0 : decode cX0_expireOn 0 = .ok (.aload_n 0, 1) := by decide +kernel
theorem dX0_expireOn_1 : decode cX0_expireOn 1 = .ok (.getfield 57, 3) := by decide +kernel
theorem dX0_expireOn_4 : decode cX0_expireOn 4 = .ok (.aload_n 0, 1) := by decide +kernel
theorem dX0_expireOn_5 : decode cX0_expireOn 5 = .ok (.getfield 60, 3) := by decide +kernel
theorem dX0_expireOn_8 : decode cX0_expireOn 8 = .ok (.if_icmp .ge 47, 3) := by decide +kernel
theorem dX0_expireOn_11 : decode cX0_expireOn 11 = .ok (.aload_n 0, 1) := by decide +kernel
theorem dX0_expireOn_12 : decode cX0_expireOn 12 = .ok (.getfield 15, 3) := by decide +kernel
theorem dX0_expireOn_15 : decode cX0_expireOn 15 = .ok (.aload_n 0, 1) := by decide +kernel
theorem dX0_expireOn_16 : decode cX0_expireOn 16 = .ok (.getfield 57, 3) := by decide +kernel
theorem dX0_expireOn_19 : decode cX0_expireOn 19 = .ok (.iaload, 1) := by decide +kernel
theorem dX0_expireOn_20 : decode cX0_expireOn 20 = .ok (.iload_n 1, 1) := by decide +kernel
theorem dX0_expireOn_21 : decode cX0_expireOn 21 = .ok (.if_icmp .gt 34, 3) := by decide +kernel
theorem dX0_expireOn_24 : decode cX0_expireOn 24 = .ok (.aload_n 0, 1) := by decide +kernel
theorem dX0_expireOn_25 : decode cX0_expireOn 25 = .ok (.dup, 1) := by decide +kernel
theorem dX0_expireOn_26 : decode cX0_expireOn 26 = .ok (.getfield 75, 3) := by decide +kernel
theorem dX0_expireOn_29 : decode cX0_expireOn 29 = .ok (.aload_n 0, 1) := by decide +kernel
theorem dX0_expireOn_30 : decode cX0_expireOn 30 = .ok (.getfield 9, 3) := by decide +kernel
theorem dX0_expireOn_33 : decode cX0_expireOn 33 = .ok (.aload_n 0, 1) := by decide +kernel
theorem dX0_expireOn_34 : decode cX0_expireOn 34 = .ok (.getfield 57, 3) := by decide +kernel
theorem dX0_expireOn_37 : decode cX0_expireOn 37 = .ok (.iaload, 1) := by decide +kernel
theorem dX0_expireOn_38 : decode cX0_expireOn 38 = .ok (.iadd, 1) := by decide +kernel
theorem dX0_expireOn_39 : decode cX0_expireOn 39 = .ok (.putfield 75, 3) := by decide +kernel
theorem dX0_expireOn_42 : decode cX0_expireOn 42 = .ok (.aload_n 0, 1) := by decide +kernel
theorem dX0_expireOn_43 : decode cX0_expireOn 43 = .ok (.dup, 1) := by decide +kernel
theorem dX0_expireOn_44 : decode cX0_expireOn 44 = .ok (.getfield 57, 3) := by decide +kernel
theorem dX0_expireOn_47 : decode cX0_expireOn 47 = .ok (.iconst 1, 1) := by decide +kernel
theorem dX0_expireOn_48 : decode cX0_expireOn 48 = .ok (.iadd, 1) := by decide +kernel
theorem dX0_expireOn_49 : decode cX0_expireOn 49 = .ok (.putfield 57, 3) := by decide +kernel
theorem dX0_expireOn_52 : decode cX0_expireOn 52 = .ok (.goto (-52), 3) := by decide +kernel
theorem dX0_expireOn_55 : decode cX0_expireOn 55 = .ok (.return_, 1) := by decide +kernel
set_option maxRecDepth 20000 in
theorem ggX0_take_X0_pointsInLots : GoodIn wsX0_take wsX0_pointsInLots := goodIn_r _ [12, 13, 14, 15, 23, 24, 25, 26, 27, 28, 29, 30, 31, 32, 33] (by decide +kernel) (by decide +kernel)
set_option maxRecDepth 20000 in
theorem gX0_take_X0_pointsInLots : GoodIn wsX0_take (wsV RX0 96 RX0 yX0_pointsInLots wsX0_pointsInLots) := goodIn_app (goodIn_of _ (by decide +kernel)) ggX0_take_X0_pointsInLots
set_option maxRecDepth 20000 in
theorem ggX0_take_X0_drawFromLots : GoodIn wsX0_take wsX0_drawFromLots := goodIn_r _ [19, 13, 14, 15, 20, 21, 3, 22, 23, 24, 25, 26, 27, 28, 29, 30, 31, 32, 33] (by decide +kernel) (by decide +kernel)
set_option maxRecDepth 20000 in
theorem gX0_take_X0_drawFromLots : GoodIn wsX0_take (wsV RX0 103 RX0 yX0_drawFromLots wsX0_drawFromLots) := goodIn_app (goodIn_of _ (by decide +kernel)) ggX0_take_X0_drawFromLots
theorem dX0_take_0 : decode cX0_take 0 = .ok (.iload_n 1, 1) := by decide +kernel
theorem dX0_take_1 : decode cX0_take 1 = .ok (.ifCond .ne 4, 3) := by decide +kernel
theorem dX0_take_4 : decode cX0_take 4 = .ok (.return_, 1) := by decide +kernel
theorem dX0_take_5 : decode cX0_take 5 = .ok (.iload_n 1, 1) := by decide +kernel
theorem dX0_take_6 : decode cX0_take 6 = .ok (.iconst 2, 1) := by decide +kernel
theorem dX0_take_7 : decode cX0_take 7 = .ok (.if_icmp .ne 9, 3) := by decide +kernel
theorem dX0_take_10 : decode cX0_take 10 = .ok (.sipush 480, 3) := by decide +kernel
theorem dX0_take_13 : decode cX0_take 13 = .ok (.goto 6, 3) := by decide +kernel
theorem dX0_take_16 : decode cX0_take 16 = .ok (.sipush 240, 3) := by decide +kernel
theorem dX0_take_19 : decode cX0_take 19 = .ok (.istore_n 2, 1) := by decide +kernel
theorem dX0_take_20 : decode cX0_take 20 = .ok (.iload_n 2, 1) := by decide +kernel
theorem dX0_take_21 : decode cX0_take 21 = .ok (.aload_n 0, 1) := by decide +kernel
theorem dX0_take_22 : decode cX0_take 22 = .ok (.invokevirtual 96, 3) := by decide +kernel
theorem dX0_take_25 : decode cX0_take 25 = .ok (.isub, 1) := by decide +kernel
theorem dX0_take_26 : decode cX0_take 26 = .ok (.iconst 0, 1) := by decide +kernel
theorem dX0_take_27 : decode cX0_take 27 = .ok (.invokestatic 100, 3) := by decide +kernel
theorem dX0_take_30 : decode cX0_take 30 = .ok (.istore_n 3, 1) := by decide +kernel
theorem dX0_take_31 : decode cX0_take 31 = .ok (.aload_n 0, 1) := by decide +kernel
theorem dX0_take_32 : decode cX0_take 32 = .ok (.getfield 66, 3) := by decide +kernel
theorem dX0_take_35 : decode cX0_take 35 = .ok (.iload_n 3, 1) := by decide +kernel
theorem dX0_take_36 : decode cX0_take 36 = .ok (.iadd, 1) := by decide +kernel
theorem dX0_take_37 : decode cX0_take 37 = .ok (.sipush 2400, 3) := by decide +kernel
theorem dX0_take_40 : decode cX0_take 40 = .ok (.if_icmp .le 14, 3) := by decide +kernel
theorem dX0_take_43 : decode cX0_take 43 = .ok (.aload_n 0, 1) := by decide +kernel
theorem dX0_take_44 : decode cX0_take 44 = .ok (.dup, 1) := by decide +kernel
theorem dX0_take_45 : decode cX0_take 45 = .ok (.getfield 81, 3) := by decide +kernel
theorem dX0_take_48 : decode cX0_take 48 = .ok (.iconst 1, 1) := by decide +kernel
theorem dX0_take_49 : decode cX0_take 49 = .ok (.iadd, 1) := by decide +kernel
theorem dX0_take_50 : decode cX0_take 50 = .ok (.putfield 81, 3) := by decide +kernel
theorem dX0_take_53 : decode cX0_take 53 = .ok (.return_, 1) := by decide +kernel
theorem dX0_take_54 : decode cX0_take 54 = .ok (.aload_n 0, 1) := by decide +kernel
theorem dX0_take_55 : decode cX0_take 55 = .ok (.iload_n 2, 1) := by decide +kernel
theorem dX0_take_56 : decode cX0_take 56 = .ok (.invokevirtual 103, 3) := by decide +kernel
theorem dX0_take_59 : decode cX0_take 59 = .ok (.pop, 1) := by decide +kernel
theorem dX0_take_60 : decode cX0_take 60 = .ok (.aload_n 0, 1) := by decide +kernel
theorem dX0_take_61 : decode cX0_take 61 = .ok (.dup, 1) := by decide +kernel
theorem dX0_take_62 : decode cX0_take 62 = .ok (.getfield 66, 3) := by decide +kernel
theorem dX0_take_65 : decode cX0_take 65 = .ok (.iload_n 3, 1) := by decide +kernel
theorem dX0_take_66 : decode cX0_take 66 = .ok (.iadd, 1) := by decide +kernel
theorem dX0_take_67 : decode cX0_take 67 = .ok (.putfield 66, 3) := by decide +kernel
theorem dX0_take_70 : decode cX0_take 70 = .ok (.aload_n 0, 1) := by decide +kernel
theorem dX0_take_71 : decode cX0_take 71 = .ok (.dup, 1) := by decide +kernel
theorem dX0_take_72 : decode cX0_take 72 = .ok (.getfield 72, 3) := by decide +kernel
theorem dX0_take_75 : decode cX0_take 75 = .ok (.iload_n 2, 1) := by decide +kernel
theorem dX0_take_76 : decode cX0_take 76 = .ok (.iadd, 1) := by decide +kernel
theorem dX0_take_77 : decode cX0_take 77 = .ok (.putfield 72, 3) := by decide +kernel
theorem dX0_take_80 : decode cX0_take 80 = .ok (.return_, 1) := by decide +kernel
set_option maxRecDepth 20000 in
theorem ggX0_payOn_X0_drawFromLots : GoodIn wsX0_payOn wsX0_drawFromLots := goodIn_r _ [10, 11, 12, 13, 14, 15, 16, 17, 18, 19, 20, 21, 22, 23, 24, 25, 26, 27, 28] (by decide +kernel) (by decide +kernel)
set_option maxRecDepth 20000 in
theorem gX0_payOn_X0_drawFromLots : GoodIn wsX0_payOn (wsV RX0 103 RX0 yX0_drawFromLots wsX0_drawFromLots) := goodIn_app (goodIn_of _ (by decide +kernel)) ggX0_payOn_X0_drawFromLots
theorem dX0_payOn_0 : decode cX0_payOn 0 = .ok (.aload_n 0, 1) := by decide +kernel
theorem dX0_payOn_1 : decode cX0_payOn 1 = .ok (.getfield 63, 3) := by decide +kernel
theorem dX0_payOn_4 : decode cX0_payOn 4 = .ok (.aload_n 1, 1) := by decide +kernel
theorem dX0_payOn_5 : decode cX0_payOn 5 = .ok (.getfield 106, 3) := by decide +kernel
theorem dX0_payOn_8 : decode cX0_payOn 8 = .ok (.if_icmp .ge 51, 3) := by decide +kernel
theorem dX0_payOn_11 : decode cX0_payOn 11 = .ok (.aload_n 1, 1) := by decide +kernel
theorem dX0_payOn_12 : decode cX0_payOn 12 = .ok (.getfield 109, 3) := by decide +kernel
theorem dX0_payOn_15 : decode cX0_payOn 15 = .ok (.aload_n 0, 1) := by decide +kernel
theorem dX0_payOn_16 : decode cX0_payOn 16 = .ok (.getfield 63, 3) := by decide +kernel
theorem dX0_payOn_19 : decode cX0_payOn 19 = .ok (.iaload, 1) := by decide +kernel
theorem dX0_payOn_20 : decode cX0_payOn 20 = .ok (.iload_n 2, 1) := by decide +kernel
theorem dX0_payOn_21 : decode cX0_payOn 21 = .ok (.if_icmp .gt 38, 3) := by decide +kernel
theorem dX0_payOn_24 : decode cX0_payOn 24 = .ok (.aload_n 0, 1) := by decide +kernel
theorem dX0_payOn_25 : decode cX0_payOn 25 = .ok (.dup, 1) := by decide +kernel
theorem dX0_payOn_26 : decode cX0_payOn 26 = .ok (.getfield 78, 3) := by decide +kernel
theorem dX0_payOn_29 : decode cX0_payOn 29 = .ok (.aload_n 0, 1) := by decide +kernel
theorem dX0_payOn_30 : decode cX0_payOn 30 = .ok (.aload_n 1, 1) := by decide +kernel
theorem dX0_payOn_31 : decode cX0_payOn 31 = .ok (.getfield 112, 3) := by decide +kernel
theorem dX0_payOn_34 : decode cX0_payOn 34 = .ok (.aload_n 0, 1) := by decide +kernel
theorem dX0_payOn_35 : decode cX0_payOn 35 = .ok (.getfield 63, 3) := by decide +kernel
theorem dX0_payOn_38 : decode cX0_payOn 38 = .ok (.iaload, 1) := by decide +kernel
theorem dX0_payOn_39 : decode cX0_payOn 39 = .ok (.invokevirtual 103, 3) := by decide +kernel
theorem dX0_payOn_42 : decode cX0_payOn 42 = .ok (.iadd, 1) := by decide +kernel
theorem dX0_payOn_43 : decode cX0_payOn 43 = .ok (.putfield 78, 3) := by decide +kernel
theorem dX0_payOn_46 : decode cX0_payOn 46 = .ok (.aload_n 0, 1) := by decide +kernel
theorem dX0_payOn_47 : decode cX0_payOn 47 = .ok (.dup, 1) := by decide +kernel
theorem dX0_payOn_48 : decode cX0_payOn 48 = .ok (.getfield 63, 3) := by decide +kernel
theorem dX0_payOn_51 : decode cX0_payOn 51 = .ok (.iconst 1, 1) := by decide +kernel
theorem dX0_payOn_52 : decode cX0_payOn 52 = .ok (.iadd, 1) := by decide +kernel
theorem dX0_payOn_53 : decode cX0_payOn 53 = .ok (.putfield 63, 3) := by decide +kernel
theorem dX0_payOn_56 : decode cX0_payOn 56 = .ok (.goto (-56), 3) := by decide +kernel
theorem dX0_payOn_59 : decode cX0_payOn 59 = .ok (.return_, 1) := by decide +kernel
theorem dX0_drawFromLots_0 : decode cX0_drawFromLots 0 = .ok (.iload_n 1, 1) := by decide +kernel
theorem dX0_drawFromLots_1 : decode cX0_drawFromLots 1 = .ok (.istore_n 2, 1) := by decide +kernel
theorem dX0_drawFromLots_2 : decode cX0_drawFromLots 2 = .ok (.aload_n 0, 1) := by decide +kernel
theorem dX0_drawFromLots_3 : decode cX0_drawFromLots 3 = .ok (.getfield 57, 3) := by decide +kernel
theorem dX0_drawFromLots_6 : decode cX0_drawFromLots 6 = .ok (.istore_n 3, 1) := by decide +kernel
theorem dX0_drawFromLots_7 : decode cX0_drawFromLots 7 = .ok (.iload_n 3, 1) := by decide +kernel
theorem dX0_drawFromLots_8 : decode cX0_drawFromLots 8 = .ok (.aload_n 0, 1) := by decide +kernel
theorem dX0_drawFromLots_9 : decode cX0_drawFromLots 9 = .ok (.getfield 60, 3) := by decide +kernel
theorem dX0_drawFromLots_12 : decode cX0_drawFromLots 12 = .ok (.if_icmp .ge 41, 3) := by decide +kernel
theorem dX0_drawFromLots_15 : decode cX0_drawFromLots 15 = .ok (.iload_n 2, 1) := by decide +kernel
theorem dX0_drawFromLots_16 : decode cX0_drawFromLots 16 = .ok (.ifCond .le 37, 3) := by decide +kernel
theorem dX0_drawFromLots_19 : decode cX0_drawFromLots 19 = .ok (.iload_n 2, 1) := by decide +kernel
theorem dX0_drawFromLots_20 : decode cX0_drawFromLots 20 = .ok (.aload_n 0, 1) := by decide +kernel
theorem dX0_drawFromLots_21 : decode cX0_drawFromLots 21 = .ok (.getfield 9, 3) := by decide +kernel
theorem dX0_drawFromLots_24 : decode cX0_drawFromLots 24 = .ok (.iload_n 3, 1) := by decide +kernel
theorem dX0_drawFromLots_25 : decode cX0_drawFromLots 25 = .ok (.iaload, 1) := by decide +kernel
theorem dX0_drawFromLots_26 : decode cX0_drawFromLots 26 = .ok (.invokestatic 84, 3) := by decide +kernel
theorem dX0_drawFromLots_29 : decode cX0_drawFromLots 29 = .ok (.istore 4, 2) := by decide +kernel
theorem dX0_drawFromLots_31 : decode cX0_drawFromLots 31 = .ok (.aload_n 0, 1) := by decide +kernel
theorem dX0_drawFromLots_32 : decode cX0_drawFromLots 32 = .ok (.getfield 9, 3) := by decide +kernel
theorem dX0_drawFromLots_35 : decode cX0_drawFromLots 35 = .ok (.iload_n 3, 1) := by decide +kernel
theorem dX0_drawFromLots_36 : decode cX0_drawFromLots 36 = .ok (.dup2, 1) := by decide +kernel
theorem dX0_drawFromLots_37 : decode cX0_drawFromLots 37 = .ok (.iaload, 1) := by decide +kernel
theorem dX0_drawFromLots_38 : decode cX0_drawFromLots 38 = .ok (.iload 4, 2) := by decide +kernel
theorem dX0_drawFromLots_40 : decode cX0_drawFromLots 40 = .ok (.isub, 1) := by decide +kernel
theorem dX0_drawFromLots_41 : decode cX0_drawFromLots 41 = .ok (.iastore, 1) := by decide +kernel
theorem dX0_drawFromLots_42 : decode cX0_drawFromLots 42 = .ok (.iload_n 2, 1) := by decide +kernel
theorem dX0_drawFromLots_43 : decode cX0_drawFromLots 43 = .ok (.iload 4, 2) := by decide +kernel
theorem dX0_drawFromLots_45 : decode cX0_drawFromLots 45 = .ok (.isub, 1) := by decide +kernel
theorem dX0_drawFromLots_46 : decode cX0_drawFromLots 46 = .ok (.istore_n 2, 1) := by decide +kernel
theorem dX0_drawFromLots_47 : decode cX0_drawFromLots 47 = .ok (.iinc 3 1, 3) := by decide +kernel
theorem dX0_drawFromLots_50 : decode cX0_drawFromLots 50 = .ok (.goto (-43), 3) := by decide +kernel
theorem dX0_drawFromLots_53 : decode cX0_drawFromLots 53 = .ok (.iload_n 1, 1) := by decide +kernel
theorem dX0_drawFromLots_54 : decode cX0_drawFromLots 54 = .ok (.iload_n 2, 1) := by decide +kernel
theorem dX0_drawFromLots_55 : decode cX0_drawFromLots 55 = .ok (.isub, 1) := by decide +kernel
theorem dX0_drawFromLots_56 : decode cX0_drawFromLots 56 = .ok (.ireturn, 1) := by decide +kernel
theorem dX1_init_0 : decode cX1_init 0 = .ok (.aload_n 0, 1) := by decide +kernel
theorem dX1_init_1 : decode cX1_init 1 = .ok (.invokespecial 3, 3) := by decide +kernel
theorem dX1_init_4 : decode cX1_init 4 = .ok (.aload_n 0, 1) := by decide +kernel
theorem dX1_init_5 : decode cX1_init 5 = .ok (.bipush 10, 2) := by decide +kernel
theorem dX1_init_7 : decode cX1_init 7 = .ok (.newarray .int, 2) := by decide +kernel
theorem dX1_init_9 : decode cX1_init 9 = .ok (.putfield 9, 3) := by decide +kernel
theorem dX1_init_12 : decode cX1_init 12 = .ok (.aload_n 0, 1) := by decide +kernel
theorem dX1_init_13 : decode cX1_init 13 = .ok (.bipush 10, 2) := by decide +kernel
theorem dX1_init_15 : decode cX1_init 15 = .ok (.newarray .int, 2) := by decide +kernel
theorem dX1_init_17 : decode cX1_init 17 = .ok (.putfield 15, 3) := by decide +kernel
theorem dX1_init_20 : decode cX1_init 20 = .ok (.aload_n 0, 1) := by decide +kernel
theorem dX1_init_21 : decode cX1_init 21 = .ok (.bipush 40, 2) := by decide +kernel
theorem dX1_init_23 : decode cX1_init 23 = .ok (.anewarray 18, 3) := by decide +kernel
theorem dX1_init_26 : decode cX1_init 26 = .ok (.putfield 20, 3) := by decide +kernel
theorem dX1_init_29 : decode cX1_init 29 = .ok (.aload_n 0, 1) := by decide +kernel
theorem dX1_init_30 : decode cX1_init 30 = .ok (.bipush 30, 2) := by decide +kernel
theorem dX1_init_32 : decode cX1_init 32 = .ok (.newarray .int, 2) := by decide +kernel
theorem dX1_init_34 : decode cX1_init 34 = .ok (.putfield 24, 3) := by decide +kernel
theorem dX1_init_37 : decode cX1_init 37 = .ok (.aload_n 0, 1) := by decide +kernel
theorem dX1_init_38 : decode cX1_init 38 = .ok (.bipush 30, 2) := by decide +kernel
theorem dX1_init_40 : decode cX1_init 40 = .ok (.newarray .int, 2) := by decide +kernel
theorem dX1_init_42 : decode cX1_init 42 = .ok (.putfield 27, 3) := by decide +kernel
theorem dX1_init_45 : decode cX1_init 45 = .ok (.aload_n 0, 1) := by decide +kernel
theorem dX1_init_46 : decode cX1_init 46 = .ok (.bipush 20, 2) := by decide +kernel
theorem dX1_init_48 : decode cX1_init 48 = .ok (.newarray .int, 2) := by decide +kernel
theorem dX1_init_50 : decode cX1_init 50 = .ok (.putfield 30, 3) := by decide +kernel
theorem dX1_init_53 : decode cX1_init 53 = .ok (.aload_n 0, 1) := by decide +kernel
theorem dX1_init_54 : decode cX1_init 54 = .ok (.bipush 20, 2) := by decide +kernel
theorem dX1_init_56 : decode cX1_init 56 = .ok (.newarray .int, 2) := by decide +kernel
theorem dX1_init_58 : decode cX1_init 58 = .ok (.putfield 33, 3) := by decide +kernel
theorem dX1_init_61 : decode cX1_init 61 = .ok (.aload_n 0, 1) := by decide +kernel
theorem dX1_init_62 : decode cX1_init 62 = .ok (.sipush 3601, 3) := by decide +kernel
theorem dX1_init_65 : decode cX1_init 65 = .ok (.newarray .int, 2) := by decide +kernel
theorem dX1_init_67 : decode cX1_init 67 = .ok (.putfield 36, 3) := by decide +kernel
theorem dX1_init_70 : decode cX1_init 70 = .ok (.aload_n 0, 1) := by decide +kernel
theorem dX1_init_71 : decode cX1_init 71 = .ok (.iload_n 1, 1) := by decide +kernel
theorem dX1_init_72 : decode cX1_init 72 = .ok (.putfield 39, 3) := by decide +kernel
theorem dX1_init_75 : decode cX1_init 75 = .ok (.aload_n 0, 1) := by decide +kernel
theorem dX1_init_76 : decode cX1_init 76 = .ok (.iload_n 2, 1) := by decide +kernel
theorem dX1_init_77 : decode cX1_init 77 = .ok (.putfield 43, 3) := by decide +kernel
theorem dX1_init_80 : decode cX1_init 80 = .ok (.aload_n 0, 1) := by decide +kernel
theorem dX1_init_81 : decode cX1_init 81 = .ok (.iload_n 3, 1) := by decide +kernel
theorem dX1_init_82 : decode cX1_init 82 = .ok (.putfield 46, 3) := by decide +kernel
theorem dX1_init_85 : decode cX1_init 85 = .ok (.return_, 1) := by decide +kernel
theorem dX1_hoursOn_0 : decode cX1_hoursOn 0 = .ok (.iconst (-1), 1) := by decide +kernel
theorem dX1_hoursOn_1 : decode cX1_hoursOn 1 = .ok (.istore_n 2, 1) := by decide +kernel
theorem dX1_hoursOn_2 : decode cX1_hoursOn 2 = .ok (.aload_n 0, 1) := by decide +kernel
theorem dX1_hoursOn_3 : decode cX1_hoursOn 3 = .ok (.getfield 46, 3) := by decide +kernel
theorem dX1_hoursOn_6 : decode cX1_hoursOn 6 = .ok (.istore_n 3, 1) := by decide +kernel
theorem dX1_hoursOn_7 : decode cX1_hoursOn 7 = .ok (.iconst 0, 1) := by decide +kernel
theorem dX1_hoursOn_8 : decode cX1_hoursOn 8 = .ok (.istore 4, 2) := by decide +kernel
theorem dX1_hoursOn_10 : decode cX1_hoursOn 10 = .ok (.iload 4, 2) := by decide +kernel
theorem dX1_hoursOn_12 : decode cX1_hoursOn 12 = .ok (.aload_n 0, 1) := by decide +kernel
theorem dX1_hoursOn_13 : decode cX1_hoursOn 13 = .ok (.getfield 49, 3) := by decide +kernel
theorem dX1_hoursOn_16 : decode cX1_hoursOn 16 = .ok (.if_icmp .ge 47, 3) := by decide +kernel
theorem dX1_hoursOn_19 : decode cX1_hoursOn 19 = .ok (.aload_n 0, 1) := by decide +kernel
theorem dX1_hoursOn_20 : decode cX1_hoursOn 20 = .ok (.getfield 9, 3) := by decide +kernel
theorem dX1_hoursOn_23 : decode cX1_hoursOn 23 = .ok (.iload 4, 2) := by decide +kernel
theorem dX1_hoursOn_25 : decode cX1_hoursOn 25 = .ok (.iaload, 1) := by decide +kernel
theorem dX1_hoursOn_26 : decode cX1_hoursOn 26 = .ok (.iload_n 1, 1) := by decide +kernel
theorem dX1_hoursOn_27 : decode cX1_hoursOn 27 = .ok (.if_icmp .gt 30, 3) := by decide +kernel
theorem dX1_hoursOn_30 : decode cX1_hoursOn 30 = .ok (.aload_n 0, 1) := by decide +kernel
theorem dX1_hoursOn_31 : decode cX1_hoursOn 31 = .ok (.getfield 9, 3) := by decide +kernel
theorem dX1_hoursOn_34 : decode cX1_hoursOn 34 = .ok (.iload 4, 2) := by decide +kernel
theorem dX1_hoursOn_36 : decode cX1_hoursOn 36 = .ok (.iaload, 1) := by decide +kernel
theorem dX1_hoursOn_37 : decode cX1_hoursOn 37 = .ok (.iload_n 2, 1) := by decide +kernel
theorem dX1_hoursOn_38 : decode cX1_hoursOn 38 = .ok (.if_icmp .le 19, 3) := by decide +kernel
theorem dX1_hoursOn_41 : decode cX1_hoursOn 41 = .ok (.aload_n 0, 1) := by decide +kernel
theorem dX1_hoursOn_42 : decode cX1_hoursOn 42 = .ok (.getfield 9, 3) := by decide +kernel
theorem dX1_hoursOn_45 : decode cX1_hoursOn 45 = .ok (.iload 4, 2) := by decide +kernel
theorem dX1_hoursOn_47 : decode cX1_hoursOn 47 = .ok (.iaload, 1) := by decide +kernel
theorem dX1_hoursOn_48 : decode cX1_hoursOn 48 = .ok (.istore_n 2, 1) := by decide +kernel
theorem dX1_hoursOn_49 : decode cX1_hoursOn 49 = .ok (.aload_n 0, 1) := by decide +kernel
theorem dX1_hoursOn_50 : decode cX1_hoursOn 50 = .ok (.getfield 15, 3) := by decide +kernel
theorem dX1_hoursOn_53 : decode cX1_hoursOn 53 = .ok (.iload 4, 2) := by decide +kernel
theorem dX1_hoursOn_55 : decode cX1_hoursOn 55 = .ok (.iaload, 1) := by decide +kernel
theorem dX1_hoursOn_56 : decode cX1_hoursOn 56 = .ok (.istore_n 3, 1) := by decide +kernel
theorem dX1_hoursOn_57 : decode cX1_hoursOn 57 = .ok (.iinc 4 1, 3) := by decide +kernel
theorem dX1_hoursOn_60 : decode cX1_hoursOn 60 = .ok (.goto (-50), 3) := by decide +kernel
theorem dX1_hoursOn_63 : decode cX1_hoursOn 63 = .ok (.iload_n 3, 1) := by decide +kernel
theorem dX1_hoursOn_64 : decode cX1_hoursOn 64 = .ok (.ireturn, 1) := by decide +kernel
theorem dX1_enterHours_0 : decode cX1_enterHours 0 = .ok (.iconst 0, 1) := by decide +kernel
theorem dX1_enterHours_1 : decode cX1_enterHours 1 = .ok (.istore_n 3, 1) := by decide +kernel
theorem dX1_enterHours_2 : decode cX1_enterHours 2 = .ok (.iload_n 3, 1) := by decide +kernel
theorem dX1_enterHours_3 : decode cX1_enterHours 3 = .ok (.aload_n 0, 1) := by decide +kernel
theorem dX1_enterHours_4 : decode cX1_enterHours 4 = .ok (.getfield 49, 3) := by decide +kernel
theorem dX1_enterHours_7 : decode cX1_enterHours 7 = .ok (.if_icmp .ge 19, 3) := by decide +kernel
theorem dX1_enterHours_10 : decode cX1_enterHours 10 = .ok (.aload_n 0, 1) := by decide +kernel
theorem dX1_enterHours_11 : decode cX1_enterHours 11 = .ok (.getfield 9, 3) := by decide +kernel
theorem dX1_enterHours_14 : decode cX1_enterHours 14 = .ok (.iload_n 3, 1) := by decide +kernel
theorem dX1_enterHours_15 : decode cX1_enterHours 15 = .ok (.iaload, 1) := by decide +kernel
theorem dX1_enterHours_16 : decode cX1_enterHours 16 = .ok (.iload_n 1, 1) := by decide +kernel
theorem dX1_enterHours_17 : decode cX1_enterHours 17 = .ok (.if_icmp .eq 9, 3) := by decide +kernel
theorem dX1_enterHours_20 : decode cX1_enterHours 20 = .ok (.iinc 3 1, 3) := by decide +kernel
theorem dX1_enterHours_23 : decode cX1_enterHours 23 = .ok (.goto (-21), 3) := by decide +kernel
theorem dX1_enterHours_26 : decode cX1_enterHours 26 = .ok (.iload_n 3, 1) := by decide +kernel
theorem dX1_enterHours_27 : decode cX1_enterHours 27 = .ok (.aload_n 0, 1) := by decide +kernel
theorem dX1_enterHours_28 : decode cX1_enterHours 28 = .ok (.getfield 9, 3) := by decide +kernel
theorem dX1_enterHours_31 : decode cX1_enterHours 31 = .ok (.arraylength, 1) := by decide +kernel
theorem dX1_enterHours_32 : decode cX1_enterHours 32 = .ok (.if_icmp .lt 5, 3) := by decide +kernel
theorem dX1_enterHours_35 : decode cX1_enterHours 35 = .ok (.iconst 0, 1) := by decide +kernel
theorem dX1_enterHours_36 : decode cX1_enterHours 36 = .ok (.ireturn, 1) := by decide +kernel
theorem dX1_enterHours_37 : decode cX1_enterHours 37 = .ok (.aload_n 0, 1) := by decide +kernel
theorem dX1_enterHours_38 : decode cX1_enterHours 38 = .ok (.getfield 9, 3) := by decide +kernel
theorem dX1_enterHours_41 : decode cX1_enterHours 41 = .ok (.iload_n 3, 1) := by decide +kernel
theorem dX1_enterHours_42 : decode cX1_enterHours 42 = .ok (.iload_n 1, 1) := by decide +kernel
theorem dX1_enterHours_43 : decode cX1_enterHours 43 = .ok (.iastore, 1) := by decide +kernel
theorem dX1_enterHours_44 : decode cX1_enterHours 44 = .ok (.aload_n 0, 1) := by decide +kernel
theorem dX1_enterHours_45 : decode cX1_enterHours 45 = .ok (.getfield 15, 3) := by decide +kernel
theorem dX1_enterHours_48 : decode cX1_enterHours 48 = .ok (.iload_n 3, 1) := by decide +kernel
theorem dX1_enterHours_49 : decode cX1_enterHours 49 = .ok (.iload_n 2, 1) := by decide +kernel
theorem dX1_enterHours_50 : decode cX1_enterHours 50 = .ok (.iastore, 1) := by decide +kernel
theorem dX1_enterHours_51 : decode cX1_enterHours 51 = .ok (.aload_n 0, 1) := by decide +kernel
theorem dX1_enterHours_52 : decode cX1_enterHours 52 = .ok (.aload_n 0, 1) := by decide +kernel
theorem dX1_enterHours_53 : decode cX1_enterHours 53 = .ok (.getfield 49, 3) := by decide +kernel
theorem dX1_enterHours_56 : decode cX1_enterHours 56 = .ok (.iload_n 3, 1) := by decide +kernel
theorem dX1_enterHours_57 : decode cX1_enterHours 57 = .ok (.iconst 1, 1) := by decide +kernel
theorem dX1_enterHours_58 : decode cX1_enterHours 58 = .ok (.iadd, 1) := by decide +kernel
theorem dX1_enterHours_59 : decode cX1_enterHours 59 = .ok (.invokestatic 52, 3) := by decide +kernel
theorem dX1_enterHours_62 : decode cX1_enterHours 62 = .ok (.putfield 49, 3) := by decide +kernel
theorem dX1_enterHours_65 : decode cX1_enterHours 65 = .ok (.iconst 1, 1) := by decide +kernel
theorem dX1_enterHours_66 : decode cX1_enterHours 66 = .ok (.ireturn, 1) := by decide +kernel
set_option maxRecDepth 20000 in
theorem ggX1_enterRequest_X1_markLeave : GoodIn wsX1_enterRequest wsX1_markLeave := goodIn_r _ [9, 10, 11, 12, 13, 14, 15, 16, 17, 8, 18, 1, 2, 19, 20, 21, 22, 23, 24, 25, 26, 27, 28, 29, 30, 31, 32, 33, 34, 35, 36, 37, 38, 39, 40, 41, 42, 43, 44, 45, 46, 47, 48, 49, 50, 51, 52, 53, 54, 55, 56, 57] (by decide +kernel) (by decide +kernel)
set_option maxRecDepth 20000 in
theorem gX1_enterRequest_X1_markLeave : GoodIn wsX1_enterRequest (wsV RX1 65 RX1 yX1_markLeave wsX1_markLeave) := goodIn_app (goodIn_of _ (by decide +kernel)) ggX1_enterRequest_X1_markLeave
theorem dX1_enterRequest_0 : decode cX1_enterRequest 0 = .ok (.aload_n 0, 1) := by decide +kernel
theorem dX1_enterRequest_1 : decode cX1_enterRequest 1 = .ok (.getfield 58, 3) := by decide +kernel
theorem dX1_enterRequest_4 : decode cX1_enterRequest 4 = .ok (.aload_n 0, 1) := by decide +kernel
theorem dX1_enterRequest_5 : decode cX1_enterRequest 5 = .ok (.getfield 20, 3) := by decide +kernel
theorem dX1_enterRequest_8 : decode cX1_enterRequest 8 = .ok (.arraylength, 1) := by decide +kernel
theorem dX1_enterRequest_9 : decode cX1_enterRequest 9 = .ok (.if_icmp .ge 35, 3) := by decide +kernel
theorem dX1_enterRequest_12 : decode cX1_enterRequest 12 = .ok (.aload_n 0, 1) := by decide +kernel
theorem dX1_enterRequest_13 : decode cX1_enterRequest 13 = .ok (.getfield 20, 3) := by decide +kernel
theorem dX1_enterRequest_16 : decode cX1_enterRequest 16 = .ok (.aload_n 0, 1) := by decide +kernel
theorem dX1_enterRequest_17 : decode cX1_enterRequest 17 = .ok (.getfield 58, 3) := by decide +kernel
theorem dX1_enterRequest_20 : decode cX1_enterRequest 20 = .ok (.aload_n 1, 1) := by decide +kernel
theorem dX1_enterRequest_21 : decode cX1_enterRequest 21 = .ok (.aastore, 1) := by decide +kernel
theorem dX1_enterRequest_22 : decode cX1_enterRequest 22 = .ok (.aload_n 0, 1) := by decide +kernel
theorem dX1_enterRequest_23 : decode cX1_enterRequest 23 = .ok (.dup, 1) := by decide +kernel
theorem dX1_enterRequest_24 : decode cX1_enterRequest 24 = .ok (.getfield 58, 3) := by decide +kernel
theorem dX1_enterRequest_27 : decode cX1_enterRequest 27 = .ok (.iconst 1, 1) := by decide +kernel
theorem dX1_enterRequest_28 : decode cX1_enterRequest 28 = .ok (.iadd, 1) := by decide +kernel
theorem dX1_enterRequest_29 : decode cX1_enterRequest 29 = .ok (.putfield 58, 3) := by decide +kernel
theorem dX1_enterRequest_32 : decode cX1_enterRequest 32 = .ok (.aload_n 0, 1) := by decide +kernel
theorem dX1_enterRequest_33 : decode cX1_enterRequest 33 = .ok (.aload_n 1, 1) := by decide +kernel
theorem dX1_enterRequest_34 : decode cX1_enterRequest 34 = .ok (.getfield 61, 3) := by decide +kernel
theorem dX1_enterRequest_37 : decode cX1_enterRequest 37 = .ok (.aload_n 1, 1) := by decide +kernel
theorem dX1_enterRequest_38 : decode cX1_enterRequest 38 = .ok (.getfield 62, 3) := by decide +kernel
theorem dX1_enterRequest_41 : decode cX1_enterRequest 41 = .ok (.invokevirtual 65, 3) := by decide +kernel
theorem dX1_enterRequest_44 : decode cX1_enterRequest 44 = .ok (.return_, 1) := by decide +kernel
set_option maxRecDepth 20000 in
theorem ggX1_enterSpell_X1_markLeave : GoodIn wsX1_enterSpell wsX1_markLeave := goodIn_r _ [8, 9, 10, 11, 12, 13, 14, 15, 16, 7, 17, 18, 19, 20, 21, 22, 23, 24, 25, 26, 27, 1, 2, 3, 28, 29, 30, 31, 32, 33, 34, 35, 36, 37, 38, 39, 40, 41, 42, 43, 44, 45, 46, 47, 48, 49, 50, 51, 52, 53, 54, 55] (by decide +kernel) (by decide +kernel)
set_option maxRecDepth 20000 in
theorem gX1_enterSpell_X1_markLeave : GoodIn wsX1_enterSpell (wsV RX1 65 RX1 yX1_markLeave wsX1_markLeave) := goodIn_app (goodIn_of _ (by decide +kernel)) ggX1_enterSpell_X1_markLeave
theorem dX1_enterSpell_0 : decode cX1_enterSpell 0 = .ok (.aload_n 0, 1) := by decide +kernel
theorem dX1_enterSpell_1 : decode cX1_enterSpell 1 = .ok (.getfield 69, 3) := by decide +kernel
theorem dX1_enterSpell_4 : decode cX1_enterSpell 4 = .ok (.aload_n 0, 1) := by decide +kernel
theorem dX1_enterSpell_5 : decode cX1_enterSpell 5 = .ok (.getfield 24, 3) := by decide +kernel
theorem dX1_enterSpell_8 : decode cX1_enterSpell 8 = .ok (.arraylength, 1) := by decide +kernel
theorem dX1_enterSpell_9 : decode cX1_enterSpell 9 = .ok (.if_icmp .ge 39, 3) := by decide +kernel
theorem dX1_enterSpell_12 : decode cX1_enterSpell 12 = .ok (.aload_n 0, 1) := by decide +kernel
theorem dX1_enterSpell_13 : decode cX1_enterSpell 13 = .ok (.getfield 24, 3) := by decide +kernel
theorem dX1_enterSpell_16 : decode cX1_enterSpell 16 = .ok (.aload_n 0, 1) := by decide +kernel
theorem dX1_enterSpell_17 : decode cX1_enterSpell 17 = .ok (.getfield 69, 3) := by decide +kernel
theorem dX1_enterSpell_20 : decode cX1_enterSpell 20 = .ok (.iload_n 1, 1) := by decide +kernel
theorem dX1_enterSpell_21 : decode cX1_enterSpell 21 = .ok (.iastore, 1) := by decide +kernel
theorem dX1_enterSpell_22 : decode cX1_enterSpell 22 = .ok (.aload_n 0, 1) := by decide +kernel
theorem dX1_enterSpell_23 : decode cX1_enterSpell 23 = .ok (.getfield 27, 3) := by decide +kernel
theorem dX1_enterSpell_26 : decode cX1_enterSpell 26 = .ok (.aload_n 0, 1) := by decide +kernel
theorem dX1_enterSpell_27 : decode cX1_enterSpell 27 = .ok (.getfield 69, 3) := by decide +kernel
theorem dX1_enterSpell_30 : decode cX1_enterSpell 30 = .ok (.iload_n 2, 1) := by decide +kernel
theorem dX1_enterSpell_31 : decode cX1_enterSpell 31 = .ok (.iastore, 1) := by decide +kernel
theorem dX1_enterSpell_32 : decode cX1_enterSpell 32 = .ok (.aload_n 0, 1) := by decide +kernel
theorem dX1_enterSpell_33 : decode cX1_enterSpell 33 = .ok (.dup, 1) := by decide +kernel
theorem dX1_enterSpell_34 : decode cX1_enterSpell 34 = .ok (.getfield 69, 3) := by decide +kernel
theorem dX1_enterSpell_37 : decode cX1_enterSpell 37 = .ok (.iconst 1, 1) := by decide +kernel
theorem dX1_enterSpell_38 : decode cX1_enterSpell 38 = .ok (.iadd, 1) := by decide +kernel
theorem dX1_enterSpell_39 : decode cX1_enterSpell 39 = .ok (.putfield 69, 3) := by decide +kernel
theorem dX1_enterSpell_42 : decode cX1_enterSpell 42 = .ok (.aload_n 0, 1) := by decide +kernel
theorem dX1_enterSpell_43 : decode cX1_enterSpell 43 = .ok (.iload_n 1, 1) := by decide +kernel
theorem dX1_enterSpell_44 : decode cX1_enterSpell 44 = .ok (.iload_n 2, 1) := by decide +kernel
theorem dX1_enterSpell_45 : decode cX1_enterSpell 45 = .ok (.invokevirtual 65, 3) := by decide +kernel
theorem dX1_enterSpell_48 : decode cX1_enterSpell 48 = .ok (.return_, 1) := by decide +kernel
theorem dX1_enterPayout_0 : decode cX1_enterPayout 0 = .ok (.aload_n 0, 1) := by decide +kernel
theorem dX1_enterPayout_1 : decode cX1_enterPayout 1 = .ok (.getfield 72, 3) := by decide +kernel
theorem dX1_enterPayout_4 : decode cX1_enterPayout 4 = .ok (.aload_n 0, 1) := by decide +kernel
theorem dX1_enterPayout_5 : decode cX1_enterPayout 5 = .ok (.getfield 30, 3) := by decide +kernel
theorem dX1_enterPayout_8 : decode cX1_enterPayout 8 = .ok (.arraylength, 1) := by decide +kernel
theorem dX1_enterPayout_9 : decode cX1_enterPayout 9 = .ok (.if_icmp .ge 33, 3) := by decide +kernel
theorem dX1_enterPayout_12 : decode cX1_enterPayout 12 = .ok (.aload_n 0, 1) := by decide +kernel
theorem dX1_enterPayout_13 : decode cX1_enterPayout 13 = .ok (.getfield 30, 3) := by decide +kernel
theorem dX1_enterPayout_16 : decode cX1_enterPayout 16 = .ok (.aload_n 0, 1) := by decide +kernel
theorem dX1_enterPayout_17 : decode cX1_enterPayout 17 = .ok (.getfield 72, 3) := by decide +kernel
theorem dX1_enterPayout_20 : decode cX1_enterPayout 20 = .ok (.iload_n 1, 1) := by decide +kernel
theorem dX1_enterPayout_21 : decode cX1_enterPayout 21 = .ok (.iastore, 1) := by decide +kernel
theorem dX1_enterPayout_22 : decode cX1_enterPayout 22 = .ok (.aload_n 0, 1) := by decide +kernel
theorem dX1_enterPayout_23 : decode cX1_enterPayout 23 = .ok (.getfield 33, 3) := by decide +kernel
theorem dX1_enterPayout_26 : decode cX1_enterPayout 26 = .ok (.aload_n 0, 1) := by decide +kernel
theorem dX1_enterPayout_27 : decode cX1_enterPayout 27 = .ok (.getfield 72, 3) := by decide +kernel
theorem dX1_enterPayout_30 : decode cX1_enterPayout 30 = .ok (.iload_n 2, 1) := by decide +kernel
theorem dX1_enterPayout_31 : decode cX1_enterPayout 31 = .ok (.iastore, 1) := by decide +kernel
theorem dX1_enterPayout_32 : decode cX1_enterPayout 32 = .ok (.aload_n 0, 1) := by decide +kernel
theorem dX1_enterPayout_33 : decode cX1_enterPayout 33 = .ok (.dup, 1) := by decide +kernel
theorem dX1_enterPayout_34 : decode cX1_enterPayout 34 = .ok (.getfield 72, 3) := by decide +kernel
theorem dX1_enterPayout_37 : decode cX1_enterPayout 37 = .ok (.iconst 1, 1) := by decide +kernel
theorem dX1_enterPayout_38 : decode cX1_enterPayout 38 = .ok (.iadd, 1) := by decide +kernel
theorem dX1_enterPayout_39 : decode cX1_enterPayout 39 = .ok (.putfield 72, 3) := by decide +kernel
theorem dX1_enterPayout_42 : decode cX1_enterPayout 42 = .ok (.return_, 1) := by decide +kernel
theorem dX1_leaveOn_0 : decode cX1_leaveOn 0 = .ok (.iload_n 1, 1) := by decide +kernel
theorem dX1_leaveOn_1 : decode cX1_leaveOn 1 = .ok (.ifCond .lt 21, 3) := by decide +kernel
theorem dX1_leaveOn_4 : decode cX1_leaveOn 4 = .ok (.iload_n 1, 1) := by decide +kernel
theorem dX1_leaveOn_5 : decode cX1_leaveOn 5 = .ok (.aload_n 0, 1) := by decide +kernel
theorem dX1_leaveOn_6 : decode cX1_leaveOn 6 = .ok (.getfield 36, 3) := by decide +kernel
theorem dX1_leaveOn_9 : decode cX1_leaveOn 9 = .ok (.arraylength, 1) := by decide +kernel
theorem dX1_leaveOn_10 : decode cX1_leaveOn 10 = .ok (.if_icmp .ge 12, 3) := by decide +kernel
theorem dX1_leaveOn_13 : decode cX1_leaveOn 13 = .ok (.aload_n 0, 1) := by decide +kernel
theorem dX1_leaveOn_14 : decode cX1_leaveOn 14 = .ok (.getfield 36, 3) := by decide +kernel
theorem dX1_leaveOn_17 : decode cX1_leaveOn 17 = .ok (.iload_n 1, 1) := by decide +kernel
theorem dX1_leaveOn_18 : decode cX1_leaveOn 18 = .ok (.iaload, 1) := by decide +kernel
theorem dX1_leaveOn_19 : decode cX1_leaveOn 19 = .ok (.goto 4, 3) := by decide +kernel
theorem dX1_leaveOn_22 : decode cX1_leaveOn 22 = .ok (.iconst 0, 1) := by decide +kernel
theorem dX1_leaveOn_23 : decode cX1_leaveOn 23 = .ok (.ireturn, 1) := by decide +kernel
set_option maxRecDepth 20000 in
theorem ggX1_markLeave_X1_findLeave : GoodIn wsX1_markLeave wsX1_findLeave := goodIn_r _ [10, 11, 12, 13, 1, 2, 3, 4, 14, 15, 16, 17, 18, 19, 9, 20, 21, 22, 23, 24, 25, 26, 27, 28, 29, 30, 31, 32, 33, 34, 35, 36, 37, 38, 39, 40, 41, 42, 43, 44, 45, 46, 47, 48, 49, 50, 51] (by decide +kernel) (by decide +kernel)
set_option maxRecDepth 20000 in
theorem gX1_markLeave_X1_findLeave : GoodIn wsX1_markLeave (wsV RX1 75 RX1 yX1_findLeave wsX1_findLeave) := goodIn_app (goodIn_of _ (by decide +kernel)) ggX1_markLeave_X1_findLeave
theorem dX1_markLeave_0 : decode cX1_markLeave 0 = .ok (.iload_n 1, 1) := by decide +kernel
theorem dX1_markLeave_1 : decode cX1_markLeave 1 = .ok (.iconst 0, 1) := by decide +kernel
theorem dX1_markLeave_2 : decode cX1_markLeave 2 = .ok (.invokestatic 52, 3) := by decide +kernel
theorem dX1_markLeave_5 : decode cX1_markLeave 5 = .ok (.istore_n 3, 1) := by decide +kernel
theorem dX1_markLeave_6 : decode cX1_markLeave 6 = .ok (.iload_n 3, 1) := by decide +kernel
theorem dX1_markLeave_7 : decode cX1_markLeave 7 = .ok (.iload_n 2, 1) := by decide +kernel
theorem dX1_markLeave_8 : decode cX1_markLeave 8 = .ok (.if_icmp .gt 29, 3) := by decide +kernel
theorem dX1_markLeave_11 : decode cX1_markLeave 11 = .ok (.iload_n 3, 1) := by decide +kernel
theorem dX1_markLeave_12 : decode cX1_markLeave 12 = .ok (.aload_n 0, 1) := by decide +kernel
theorem dX1_markLeave_13 : decode cX1_markLeave 13 = .ok (.getfield 36, 3) := by decide +kernel
theorem dX1_markLeave_16 : decode cX1_markLeave 16 = .ok (.arraylength, 1) := by decide +kernel
theorem dX1_markLeave_17 : decode cX1_markLeave 17 = .ok (.if_icmp .ge 20, 3) := by decide +kernel
theorem dX1_markLeave_20 : decode cX1_markLeave 20 = .ok (.aload_n 0, 1) := by decide +kernel
theorem dX1_markLeave_21 : decode cX1_markLeave 21 = .ok (.getfield 36, 3) := by decide +kernel
theorem dX1_markLeave_24 : decode cX1_markLeave 24 = .ok (.iload_n 3, 1) := by decide +kernel
theorem dX1_markLeave_25 : decode cX1_markLeave 25 = .ok (.aload_n 0, 1) := by decide +kernel
theorem dX1_markLeave_26 : decode cX1_markLeave 26 = .ok (.iload_n 3, 1) := by decide +kernel
theorem dX1_markLeave_27 : decode cX1_markLeave 27 = .ok (.invokevirtual 75, 3) := by decide +kernel
theorem dX1_markLeave_30 : decode cX1_markLeave 30 = .ok (.iastore, 1) := by decide +kernel
theorem dX1_markLeave_31 : decode cX1_markLeave 31 = .ok (.iinc 3 1, 3) := by decide +kernel
theorem dX1_markLeave_34 : decode cX1_markLeave 34 = .ok (.goto (-28), 3) := by decide +kernel
theorem dX1_markLeave_37 : decode cX1_markLeave 37 = .ok (.return_, 1) := by decide +kernel
set_option maxRecDepth 20000 in
theorem ggX1_findLeave_X3_isWorkingDay : GoodIn wsX1_findLeave wsX3_isWorkingDay := goodIn_r _ [10] (by decide +kernel) (by decide +kernel)
set_option maxRecDepth 20000 in
theorem gX1_findLeave_X3_isWorkingDay_n79 : GoodIn wsX1_findLeave (wsX3_isWorkingDay) := ggX1_findLeave_X3_isWorkingDay
set_option maxRecDepth 20000 in
theorem ggX1_findLeave_X1_isSickOn : GoodIn wsX1_findLeave wsX1_isSickOn := goodIn_r _ [15, 16, 17, 18, 27, 28, 29, 30, 31, 32, 33, 34, 35, 36, 37, 38, 39, 40, 41] (by decide +kernel) (by decide +kernel)
set_option maxRecDepth 20000 in
theorem gX1_findLeave_X1_isSickOn : GoodIn wsX1_findLeave (wsV RX1 83 RX1 yX1_isSickOn wsX1_isSickOn) := goodIn_app (goodIn_of _ (by decide +kernel)) ggX1_findLeave_X1_isSickOn
set_option maxRecDepth 20000 in
theorem ggX1_findLeave_X2_holdsOn : GoodIn wsX1_findLeave wsX2_holdsOn := goodIn_r _ [23, 24, 25, 26, 42, 43, 44, 45, 46] (by decide +kernel) (by decide +kernel)
set_option maxRecDepth 20000 in
theorem gX1_findLeave_X2_holdsOn : GoodIn wsX1_findLeave (wsV RX1 86 RX2 yX2_holdsOn wsX2_holdsOn) := goodIn_app (goodIn_of _ (by decide +kernel)) ggX1_findLeave_X2_holdsOn
theorem dX1_findLeave_0 : decode cX1_findLeave 0 = .ok (.iload_n 1, 1) := by decide +kernel
theorem dX1_findLeave_1 : decode cX1_findLeave 1 = .ok (.invokestatic 79, 3) := by decide +kernel
theorem dX1_findLeave_4 : decode cX1_findLeave 4 = .ok (.ifCond .eq 11, 3) := by decide +kernel
theorem dX1_findLeave_7 : decode cX1_findLeave 7 = .ok (.aload_n 0, 1) := by decide +kernel
theorem dX1_findLeave_8 : decode cX1_findLeave 8 = .ok (.iload_n 1, 1) := by decide +kernel
theorem dX1_findLeave_9 : decode cX1_findLeave 9 = .ok (.invokevirtual 83, 3) := by decide +kernel
theorem dX1_findLeave_12 : decode cX1_findLeave 12 = .ok (.ifCond .eq 5, 3) := by decide +kernel
theorem dX1_findLeave_15 : decode cX1_findLeave 15 = .ok (.iconst 0, 1) := by decide +kernel
theorem dX1_findLeave_16 : decode cX1_findLeave 16 = .ok (.ireturn, 1) := by decide +kernel
theorem dX1_findLeave_17 : decode cX1_findLeave 17 = .ok (.iconst 0, 1) := by decide +kernel
theorem dX1_findLeave_18 : decode cX1_findLeave 18 = .ok (.istore_n 2, 1) := by decide +kernel
theorem dX1_findLeave_19 : decode cX1_findLeave 19 = .ok (.iconst 0, 1) := by decide +kernel
theorem dX1_findLeave_20 : decode cX1_findLeave 20 = .ok (.istore_n 3, 1) := by decide +kernel
theorem dX1_findLeave_21 : decode cX1_findLeave 21 = .ok (.iload_n 3, 1) := by decide +kernel
theorem dX1_findLeave_22 : decode cX1_findLeave 22 = .ok (.aload_n 0, 1) := by decide +kernel
theorem dX1_findLeave_23 : decode cX1_findLeave 23 = .ok (.getfield 58, 3) := by decide +kernel
theorem dX1_findLeave_26 : decode cX1_findLeave 26 = .ok (.if_icmp .ge 41, 3) := by decide +kernel
theorem dX1_findLeave_29 : decode cX1_findLeave 29 = .ok (.aload_n 0, 1) := by decide +kernel
theorem dX1_findLeave_30 : decode cX1_findLeave 30 = .ok (.getfield 20, 3) := by decide +kernel
theorem dX1_findLeave_33 : decode cX1_findLeave 33 = .ok (.iload_n 3, 1) := by decide +kernel
theorem dX1_findLeave_34 : decode cX1_findLeave 34 = .ok (.aaload, 1) := by decide +kernel
theorem dX1_findLeave_35 : decode cX1_findLeave 35 = .ok (.astore 4, 2) := by decide +kernel
theorem dX1_findLeave_37 : decode cX1_findLeave 37 = .ok (.aload 4, 2) := by decide +kernel
theorem dX1_findLeave_39 : decode cX1_findLeave 39 = .ok (.ifnull 22, 3) := by decide +kernel
theorem dX1_findLeave_42 : decode cX1_findLeave 42 = .ok (.aload 4, 2) := by decide +kernel
theorem dX1_findLeave_44 : decode cX1_findLeave 44 = .ok (.iload_n 1, 1) := by decide +kernel
theorem dX1_findLeave_45 : decode cX1_findLeave 45 = .ok (.invokevirtual 86, 3) := by decide +kernel
theorem dX1_findLeave_48 : decode cX1_findLeave 48 = .ok (.ifCond .eq 13, 3) := by decide +kernel
theorem dX1_findLeave_51 : decode cX1_findLeave 51 = .ok (.iload_n 2, 1) := by decide +kernel
theorem dX1_findLeave_52 : decode cX1_findLeave 52 = .ok (.aload 4, 2) := by decide +kernel
theorem dX1_findLeave_54 : decode cX1_findLeave 54 = .ok (.getfield 89, 3) := by decide +kernel
theorem dX1_findLeave_57 : decode cX1_findLeave 57 = .ok (.invokestatic 52, 3) := by decide +kernel
theorem dX1_findLeave_60 : decode cX1_findLeave 60 = .ok (.istore_n 2, 1) := by decide +kernel
theorem dX1_findLeave_61 : decode cX1_findLeave 61 = .ok (.iinc 3 1, 3) := by decide +kernel
theorem dX1_findLeave_64 : decode cX1_findLeave 64 = .ok (.goto (-43), 3) := by decide +kernel
theorem dX1_findLeave_67 : decode cX1_findLeave 67 = .ok (.iload_n 2, 1) := by decide +kernel
theorem dX1_findLeave_68 : decode cX1_findLeave 68 = .ok (.ireturn, 1) := by decide +kernel
theorem dX1_isSickOn_0 : decode cX1_isSickOn 0 = .ok (.iconst 0, 1) := by decide +kernel
theorem dX1_isSickOn_1 : decode cX1_isSickOn 1 = .ok (.istore_n 2, 1) := by decide +kernel
theorem dX1_isSickOn_2 : decode cX1_isSickOn 2 = .ok (.iload_n 2, 1) := by decide +kernel
theorem dX1_isSickOn_3 : decode cX1_isSickOn 3 = .ok (.aload_n 0, 1) := by decide +kernel
theorem dX1_isSickOn_4 : decode cX1_isSickOn 4 = .ok (.getfield 69, 3) := by decide +kernel
theorem dX1_isSickOn_7 : decode cX1_isSickOn 7 = .ok (.if_icmp .ge 31, 3) := by decide +kernel
theorem dX1_isSickOn_10 : decode cX1_isSickOn 10 = .ok (.aload_n 0, 1) := by decide +kernel
theorem dX1_isSickOn_11 : decode cX1_isSickOn 11 = .ok (.getfield 24, 3) := by decide +kernel
theorem dX1_isSickOn_14 : decode cX1_isSickOn 14 = .ok (.iload_n 2, 1) := by decide +kernel
theorem dX1_isSickOn_15 : decode cX1_isSickOn 15 = .ok (.iaload, 1) := by decide +kernel
theorem dX1_isSickOn_16 : decode cX1_isSickOn 16 = .ok (.iload_n 1, 1) := by decide +kernel
theorem dX1_isSickOn_17 : decode cX1_isSickOn 17 = .ok (.if_icmp .gt 15, 3) := by decide +kernel
theorem dX1_isSickOn_20 : decode cX1_isSickOn 20 = .ok (.iload_n 1, 1) := by decide +kernel
theorem dX1_isSickOn_21 : decode cX1_isSickOn 21 = .ok (.aload_n 0, 1) := by decide +kernel
theorem dX1_isSickOn_22 : decode cX1_isSickOn 22 = .ok (.getfield 27, 3) := by decide +kernel
theorem dX1_isSickOn_25 : decode cX1_isSickOn 25 = .ok (.iload_n 2, 1) := by decide +kernel
theorem dX1_isSickOn_26 : decode cX1_isSickOn 26 = .ok (.iaload, 1) := by decide +kernel
theorem dX1_isSickOn_27 : decode cX1_isSickOn 27 = .ok (.if_icmp .gt 5, 3) := by decide +kernel
theorem dX1_isSickOn_30 : decode cX1_isSickOn 30 = .ok (.iconst 1, 1) := by decide +kernel
theorem dX1_isSickOn_31 : decode cX1_isSickOn 31 = .ok (.ireturn, 1) := by decide +kernel
theorem dX1_isSickOn_32 : decode cX1_isSickOn 32 = .ok (.iinc 2 1, 3) := by decide +kernel
theorem dX1_isSickOn_35 : decode cX1_isSickOn 35 = .ok (.goto (-33), 3) := by decide +kernel
theorem dX1_isSickOn_38 : decode cX1_isSickOn 38 = .ok (.iconst 0, 1) := by decide +kernel
theorem dX1_isSickOn_39 : decode cX1_isSickOn 39 = .ok (.ireturn, 1) := by decide +kernel
theorem dX2_init_0 : decode cX2_init 0 = .ok (.aload_n 0, 1) := by decide +kernel
theorem dX2_init_1 : decode cX2_init 1 = .ok (.invokespecial 3, 3) := by decide +kernel
theorem dX2_init_4 : decode cX2_init 4 = .ok (.aload_n 0, 1) := by decide +kernel
theorem dX2_init_5 : decode cX2_init 5 = .ok (.aload_n 1, 1) := by decide +kernel
theorem dX2_init_6 : decode cX2_init 6 = .ok (.putfield 9, 3) := by decide +kernel
theorem dX2_init_9 : decode cX2_init 9 = .ok (.aload_n 0, 1) := by decide +kernel
theorem dX2_init_10 : decode cX2_init 10 = .ok (.iload 4, 2) := by decide +kernel
theorem dX2_init_12 : decode cX2_init 12 = .ok (.ifCond .eq 7, 3) := by decide +kernel
theorem dX2_init_15 : decode cX2_init 15 = .ok (.iconst 1, 1) := by decide +kernel
theorem dX2_init_16 : decode cX2_init 16 = .ok (.goto 4, 3) := by decide +kernel
theorem dX2_init_19 : decode cX2_init 19 = .ok (.iconst 2, 1) := by decide +kernel
theorem dX2_init_20 : decode cX2_init 20 = .ok (.putfield 15, 3) := by decide +kernel
theorem dX2_init_23 : decode cX2_init 23 = .ok (.aload_n 0, 1) := by decide +kernel
theorem dX2_init_24 : decode cX2_init 24 = .ok (.iload_n 2, 1) := by decide +kernel
theorem dX2_init_25 : decode cX2_init 25 = .ok (.putfield 19, 3) := by decide +kernel
theorem dX2_init_28 : decode cX2_init 28 = .ok (.aload_n 0, 1) := by decide +kernel
theorem dX2_init_29 : decode cX2_init 29 = .ok (.iload_n 3, 1) := by decide +kernel
theorem dX2_init_30 : decode cX2_init 30 = .ok (.putfield 22, 3) := by decide +kernel
theorem dX2_init_33 : decode cX2_init 33 = .ok (.return_, 1) := by decide +kernel
theorem dX2_holdsOn_0 : decode cX2_holdsOn 0 = .ok (.aload_n 0, 1) := by decide +kernel
theorem dX2_holdsOn_1 : decode cX2_holdsOn 1 = .ok (.getfield 25, 3) := by decide +kernel
theorem dX2_holdsOn_4 : decode cX2_holdsOn 4 = .ok (.ifCond .ne 23, 3) := by decide +kernel
theorem dX2_holdsOn_7 : decode cX2_holdsOn 7 = .ok (.aload_n 0, 1) := by decide +kernel
theorem dX2_holdsOn_8 : decode cX2_holdsOn 8 = .ok (.getfield 19, 3) := by decide +kernel
theorem dX2_holdsOn_11 : decode cX2_holdsOn 11 = .ok (.iload_n 1, 1) := by decide +kernel
theorem dX2_holdsOn_12 : decode cX2_holdsOn 12 = .ok (.if_icmp .gt 15, 3) := by decide +kernel
theorem dX2_holdsOn_15 : decode cX2_holdsOn 15 = .ok (.iload_n 1, 1) := by decide +kernel
theorem dX2_holdsOn_16 : decode cX2_holdsOn 16 = .ok (.aload_n 0, 1) := by decide +kernel
theorem dX2_holdsOn_17 : decode cX2_holdsOn 17 = .ok (.getfield 22, 3) := by decide +kernel
theorem dX2_holdsOn_20 : decode cX2_holdsOn 20 = .ok (.if_icmp .gt 7, 3) := by decide +kernel
theorem dX2_holdsOn_23 : decode cX2_holdsOn 23 = .ok (.iconst 1, 1) := by decide +kernel
theorem dX2_holdsOn_24 : decode cX2_holdsOn 24 = .ok (.goto 4, 3) := by decide +kernel
theorem dX2_holdsOn_27 : decode cX2_holdsOn 27 = .ok (.iconst 0, 1) := by decide +kernel
theorem dX2_holdsOn_28 : decode cX2_holdsOn 28 = .ok (.ireturn, 1) := by decide +kernel
set_option maxRecDepth 20000 in
theorem ggX3_init_X0_init : GoodIn wsX3_init wsX0_init := goodIn_r _ [13, 14, 2, 3, 15, 16, 17, 26, 27, 28, 29, 30, 31, 32, 33, 34, 35, 36] (by decide +kernel) (by decide +kernel)
set_option maxRecDepth 20000 in
theorem gX3_init_X0_init_n23 : GoodIn wsX3_init (wsX0_init) := ggX3_init_X0_init
