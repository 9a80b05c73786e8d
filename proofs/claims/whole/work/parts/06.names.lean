theorem dX10_sumOf_3 : decode cX10_sumOf 3 = .ok (.istore 4, 2) := by decide +kernel
theorem dX10_sumOf_5 : decode cX10_sumOf 5 = .ok (.iload 4, 2) := by decide +kernel
theorem dX10_sumOf_7 : decode cX10_sumOf 7 = .ok (.aload_n 0, 1) := by decide +kernel
theorem dX10_sumOf_8 : decode cX10_sumOf 8 = .ok (.getfield 59, 3) := by decide +kernel
theorem dX10_sumOf_11 : decode cX10_sumOf 11 = .ok (.if_icmp .ge 23, 3) := by decide +kernel
theorem dX10_sumOf_14 : decode cX10_sumOf 14 = .ok (.iload_n 3, 1) := by decide +kernel
theorem dX10_sumOf_15 : decode cX10_sumOf 15 = .ok (.aload_n 0, 1) := by decide +kernel
theorem dX10_sumOf_16 : decode cX10_sumOf 16 = .ok (.getfield 22, 3) := by decide +kernel
theorem dX10_sumOf_19 : decode cX10_sumOf 19 = .ok (.iload_n 1, 1) := by decide +kernel
theorem dX10_sumOf_20 : decode cX10_sumOf 20 = .ok (.iload_n 2, 1) := by decide +kernel
theorem dX10_sumOf_21 : decode cX10_sumOf 21 = .ok (.iadd, 1) := by decide +kernel
theorem dX10_sumOf_22 : decode cX10_sumOf 22 = .ok (.iload 4, 2) := by decide +kernel
theorem dX10_sumOf_24 : decode cX10_sumOf 24 = .ok (.iadd, 1) := by decide +kernel
theorem dX10_sumOf_25 : decode cX10_sumOf 25 = .ok (.iaload, 1) := by decide +kernel
theorem dX10_sumOf_26 : decode cX10_sumOf 26 = .ok (.iadd, 1) := by decide +kernel
theorem dX10_sumOf_27 : decode cX10_sumOf 27 = .ok (.istore_n 3, 1) := by decide +kernel
theorem dX10_sumOf_28 : decode cX10_sumOf 28 = .ok (.iinc 4 1, 3) := by decide +kernel
theorem dX10_sumOf_31 : decode cX10_sumOf 31 = .ok (.goto (-26), 3) := by decide +kernel
theorem dX10_sumOf_34 : decode cX10_sumOf 34 = .ok (.iload_n 3, 1) := by decide +kernel
theorem dX10_sumOf_35 : decode cX10_sumOf 35 = .ok (.ireturn, 1) := by decide +kernel
set_option maxRecDepth 20000 in
theorem ggX10_balanceOf_X10_sumOf : GoodIn wsX10_balanceOf wsX10_sumOf := goodIn_r _ [5, 6, 7, 8, 9, 10, 11, 12, 13, 14, 15, 16, 17, 18, 19, 20, 21, 22, 23, 24, 25, 26, 27, 28, 29, 30] (by decide +kernel) (by decide +kernel)
set_option maxRecDepth 20000 in
theorem gX10_balanceOf_X10_sumOf : GoodIn wsX10_balanceOf (wsV RX10 165 RX10 yX10_sumOf wsX10_sumOf) := goodIn_app (goodIn_of _ (by decide +kernel)) ggX10_balanceOf_X10_sumOf
theorem dX10_balanceOf_0 : decode cX10_balanceOf 0 = .ok (.aload_n 0, 1) := by decide +kernel
theorem dX10_balanceOf_1 : decode cX10_balanceOf 1 = .ok (.iload_n 1, 1) := by decide +kernel
theorem dX10_balanceOf_2 : decode cX10_balanceOf 2 = .ok (.bipush 32, 2) := by decide +kernel
theorem dX10_balanceOf_4 : decode cX10_balanceOf 4 = .ok (.invokevirtual 165, 3) := by decide +kernel
theorem dX10_balanceOf_7 : decode cX10_balanceOf 7 = .ok (.aload_n 0, 1) := by decide +kernel
theorem dX10_balanceOf_8 : decode cX10_balanceOf 8 = .ok (.iload_n 1, 1) := by decide +kernel
theorem dX10_balanceOf_9 : decode cX10_balanceOf 9 = .ok (.bipush 38, 2) := by decide +kernel
theorem dX10_balanceOf_11 : decode cX10_balanceOf 11 = .ok (.invokevirtual 165, 3) := by decide +kernel
theorem dX10_balanceOf_14 : decode cX10_balanceOf 14 = .ok (.isub, 1) := by decide +kernel
theorem dX10_balanceOf_15 : decode cX10_balanceOf 15 = .ok (.ireturn, 1) := by decide +kernel
set_option maxRecDepth 20000 in
theorem ggX10_layTried_X10_copyDesk : GoodIn wsX10_layTried wsX10_copyDesk := goodIn_r _ [5, 6, 41, 42, 43, 44, 45, 46, 47, 48, 49, 50, 51, 52, 53, 54, 55, 56, 57, 58, 59, 60, 61, 62, 63] (by decide +kernel) (by decide +kernel)
set_option maxRecDepth 20000 in
theorem gX10_layTried_X10_copyDesk : GoodIn wsX10_layTried (wsV RX10 152 RX10 yX10_copyDesk wsX10_copyDesk) := goodIn_app (goodIn_of _ (by decide +kernel)) ggX10_layTried_X10_copyDesk
set_option maxRecDepth 20000 in
theorem ggX10_layTried_X10_pass : GoodIn wsX10_layTried wsX10_pass := goodIn_r _ [10, 11, 6, 12, 13, 14, 4, 15, 16, 17, 18, 19, 20, 21, 22, 23, 24, 25, 26, 27, 28, 29, 30, 31, 32, 33, 34, 35, 36, 37, 38, 39, 40, 41, 42, 43, 44, 45, 46, 47, 48, 49, 50, 51, 52, 53, 54, 55, 56, 57, 58, 59, 60, 61, 62, 63] (by decide +kernel) (by decide +kernel)
set_option maxRecDepth 20000 in
theorem gX10_layTried_X10_pass : GoodIn wsX10_layTried (wsV RX10 158 RX10 yX10_pass wsX10_pass) := goodIn_app (goodIn_of _ (by decide +kernel)) ggX10_layTried_X10_pass
theorem dX10_layTried_0 : decode cX10_layTried 0 = .ok (.aload_n 0, 1) := by decide +kernel
theorem dX10_layTried_1 : decode cX10_layTried 1 = .ok (.iconst 0, 1) := by decide +kernel
theorem dX10_layTried_2 : decode cX10_layTried 2 = .ok (.sipush 616, 3) := by decide +kernel
theorem dX10_layTried_5 : decode cX10_layTried 5 = .ok (.invokevirtual 152, 3) := by decide +kernel
theorem dX10_layTried_8 : decode cX10_layTried 8 = .ok (.iconst 0, 1) := by decide +kernel
theorem dX10_layTried_9 : decode cX10_layTried 9 = .ok (.istore_n 2, 1) := by decide +kernel
theorem dX10_layTried_10 : decode cX10_layTried 10 = .ok (.iload_n 2, 1) := by decide +kernel
theorem dX10_layTried_11 : decode cX10_layTried 11 = .ok (.iload_n 1, 1) := by decide +kernel
theorem dX10_layTried_12 : decode cX10_layTried 12 = .ok (.if_icmp .ge 17, 3) := by decide +kernel
theorem dX10_layTried_15 : decode cX10_layTried 15 = .ok (.aload_n 0, 1) := by decide +kernel
theorem dX10_layTried_16 : decode cX10_layTried 16 = .ok (.sipush 616, 3) := by decide +kernel
theorem dX10_layTried_19 : decode cX10_layTried 19 = .ok (.invokevirtual 158, 3) := by decide +kernel
theorem dX10_layTried_22 : decode cX10_layTried 22 = .ok (.pop, 1) := by decide +kernel
theorem dX10_layTried_23 : decode cX10_layTried 23 = .ok (.iinc 2 1, 3) := by decide +kernel
theorem dX10_layTried_26 : decode cX10_layTried 26 = .ok (.goto (-16), 3) := by decide +kernel
theorem dX10_layTried_29 : decode cX10_layTried 29 = .ok (.return_, 1) := by decide +kernel
set_option maxRecDepth 20000 in
theorem ggX10_balance_X10_in : GoodIn wsX10_balance wsX10_in := goodIn_r _ [5] (by decide +kernel) (by decide +kernel)
set_option maxRecDepth 20000 in
theorem gX10_balance_X10_in : GoodIn wsX10_balance (va_wsS RX10 69 yX10_in wsX10_in) := goodIn_app (goodIn_of _ (by decide +kernel)) ggX10_balance_X10_in
set_option maxRecDepth 20000 in
theorem ggX10_balance_X10_layTried : GoodIn wsX10_balance wsX10_layTried := goodIn_r _ [9, 10, 11, 12, 4, 13, 14, 15, 16, 17, 18, 19, 20, 21, 22, 23, 24, 25, 26, 27, 28, 29, 30, 31, 32, 33, 34, 35, 36, 37, 38, 39, 40, 41, 42, 43, 44, 45, 46, 47, 48, 57, 58, 59, 60, 61, 62, 63, 64, 65, 66, 67, 68, 69, 70, 71, 72, 73, 74, 75, 76, 77, 78, 79] (by decide +kernel) (by decide +kernel)
set_option maxRecDepth 20000 in
theorem gX10_balance_X10_layTried : GoodIn wsX10_balance (wsV RX10 168 RX10 yX10_layTried wsX10_layTried) := goodIn_app (goodIn_of _ (by decide +kernel)) ggX10_balance_X10_layTried
set_option maxRecDepth 20000 in
theorem ggX10_balance_X10_balanceOf : GoodIn wsX10_balance wsX10_balanceOf := goodIn_r _ [52, 53, 54, 55, 4, 56, 19, 14, 57, 58, 59, 60, 61, 62, 63, 64, 65, 66, 67, 68, 69, 70, 71, 72, 73, 74, 75, 76, 77, 78, 79] (by decide +kernel) (by decide +kernel)
set_option maxRecDepth 20000 in
theorem gX10_balance_X10_balanceOf : GoodIn wsX10_balance (wsV RX10 172 RX10 yX10_balanceOf wsX10_balanceOf) := goodIn_app (goodIn_of _ (by decide +kernel)) ggX10_balance_X10_balanceOf
theorem dX10_balance_0 : decode cX10_balance 0 = .ok (.iload_n 1, 1) := by decide +kernel
theorem dX10_balance_1 : decode cX10_balance 1 = .ok (.iconst 0, 1) := by decide +kernel
theorem dX10_balance_2 : decode cX10_balance 2 = .ok (.bipush 60, 2) := by decide +kernel
theorem dX10_balance_4 : decode cX10_balance 4 = .ok (.invokestatic 69, 3) := by decide +kernel
theorem dX10_balance_7 : decode cX10_balance 7 = .ok (.ifCond .ne 6, 3) := by decide +kernel
theorem dX10_balance_10 : decode cX10_balance 10 = .ok (.bipush (-3), 2) := by decide +kernel
theorem dX10_balance_12 : decode cX10_balance 12 = .ok (.ireturn, 1) := by decide +kernel
theorem dX10_balance_13 : decode cX10_balance 13 = .ok (.aload_n 0, 1) := by decide +kernel
theorem dX10_balance_14 : decode cX10_balance 14 = .ok (.iload_n 1, 1) := by decide +kernel
theorem dX10_balance_15 : decode cX10_balance 15 = .ok (.invokevirtual 168, 3) := by decide +kernel
theorem dX10_balance_18 : decode cX10_balance 18 = .ok (.aload_n 0, 1) := by decide +kernel
theorem dX10_balance_19 : decode cX10_balance 19 = .ok (.sipush 616, 3) := by decide +kernel
theorem dX10_balance_22 : decode cX10_balance 22 = .ok (.invokevirtual 172, 3) := by decide +kernel
theorem dX10_balance_25 : decode cX10_balance 25 = .ok (.ldc 175, 2) := by decide +kernel
theorem dX10_balance_27 : decode cX10_balance 27 = .ok (.iadd, 1) := by decide +kernel
theorem dX10_balance_28 : decode cX10_balance 28 = .ok (.ireturn, 1) := by decide +kernel
set_option maxRecDepth 20000 in
theorem ggX10_strain_X10_isCouple : GoodIn wsX10_strain wsX10_isCouple := goodIn_r _ [6, 7, 8, 9, 5, 10, 52, 53, 54, 55, 56, 57, 58, 59, 60, 61, 62, 63, 64, 65, 66, 67, 68, 69, 70, 71, 72, 73, 74] (by decide +kernel) (by decide +kernel)
set_option maxRecDepth 20000 in
theorem gX10_strain_X10_isCouple : GoodIn wsX10_strain (wsV RX10 125 RX10 yX10_isCouple wsX10_isCouple) := goodIn_app (goodIn_of _ (by decide +kernel)) ggX10_strain_X10_isCouple
set_option maxRecDepth 20000 in
theorem ggX10_strain_X10_in : GoodIn wsX10_strain wsX10_in := goodIn_r _ [10] (by decide +kernel) (by decide +kernel)
set_option maxRecDepth 20000 in
theorem gX10_strain_X10_in : GoodIn wsX10_strain (va_wsS RX10 69 yX10_in wsX10_in) := goodIn_app (goodIn_of _ (by decide +kernel)) ggX10_strain_X10_in
set_option maxRecDepth 20000 in
theorem ggX10_strain_X10_layTried : GoodIn wsX10_strain wsX10_layTried := goodIn_r _ [14, 15, 16, 17, 5, 18, 1, 19, 20, 21, 22, 7, 23, 24, 25, 26, 27, 28, 29, 30, 31, 32, 33, 34, 35, 36, 37, 38, 39, 40, 41, 42, 43, 44, 45, 46, 47, 48, 49, 50, 51, 52, 53, 54, 55, 56, 57, 58, 59, 60, 61, 62, 63, 64, 65, 66, 67, 68, 69, 70, 71, 72, 73, 74] (by decide +kernel) (by decide +kernel)
set_option maxRecDepth 20000 in
theorem gX10_strain_X10_layTried : GoodIn wsX10_strain (wsV RX10 168 RX10 yX10_layTried wsX10_layTried) := goodIn_app (goodIn_of _ (by decide +kernel)) ggX10_strain_X10_layTried
theorem dX10_strain_0 : decode cX10_strain 0 = .ok (.aload_n 0, 1) := by decide +kernel
theorem dX10_strain_1 : decode cX10_strain 1 = .ok (.iload_n 1, 1) := by decide +kernel
theorem dX10_strain_2 : decode cX10_strain 2 = .ok (.invokevirtual 125, 3) := by decide +kernel
theorem dX10_strain_5 : decode cX10_strain 5 = .ok (.ifCond .ne 6, 3) := by decide +kernel
theorem dX10_strain_8 : decode cX10_strain 8 = .ok (.bipush (-2), 2) := by decide +kernel
theorem dX10_strain_10 : decode cX10_strain 10 = .ok (.ireturn, 1) := by decide +kernel
theorem dX10_strain_11 : decode cX10_strain 11 = .ok (.iload_n 2, 1) := by decide +kernel
theorem dX10_strain_12 : decode cX10_strain 12 = .ok (.iconst 0, 1) := by decide +kernel
theorem dX10_strain_13 : decode cX10_strain 13 = .ok (.bipush 60, 2) := by decide +kernel
theorem dX10_strain_15 : decode cX10_strain 15 = .ok (.invokestatic 69, 3) := by decide +kernel
theorem dX10_strain_18 : decode cX10_strain 18 = .ok (.ifCond .ne 6, 3) := by decide +kernel
theorem dX10_strain_21 : decode cX10_strain 21 = .ok (.bipush (-3), 2) := by decide +kernel
theorem dX10_strain_23 : decode cX10_strain 23 = .ok (.ireturn, 1) := by decide +kernel
theorem dX10_strain_24 : decode cX10_strain 24 = .ok (.aload_n 0, 1) := by decide +kernel
theorem dX10_strain_25 : decode cX10_strain 25 = .ok (.iload_n 2, 1) := by decide +kernel
theorem dX10_strain_26 : decode cX10_strain 26 = .ok (.invokevirtual 168, 3) := by decide +kernel
theorem dX10_strain_29 : decode cX10_strain 29 = .ok (.aload_n 0, 1) := by decide +kernel
theorem dX10_strain_30 : decode cX10_strain 30 = .ok (.getfield 22, 3) := by decide +kernel
theorem dX10_strain_33 : decode cX10_strain 33 = .ok (.sipush 623, 3) := by decide +kernel
theorem dX10_strain_36 : decode cX10_strain 36 = .ok (.iload_n 1, 1) := by decide +kernel
theorem dX10_strain_37 : decode cX10_strain 37 = .ok (.iadd, 1) := by decide +kernel
theorem dX10_strain_38 : decode cX10_strain 38 = .ok (.iaload, 1) := by decide +kernel
theorem dX10_strain_39 : decode cX10_strain 39 = .ok (.ireturn, 1) := by decide +kernel
set_option maxRecDepth 20000 in
theorem ggX10_first_X10_isCouple : GoodIn wsX10_first wsX10_isCouple := goodIn_r _ [5, 6, 7, 8, 4, 9, 52, 53, 54, 55, 56, 57, 58, 59, 60, 61, 62, 63, 64, 65, 66, 67, 68, 69, 70, 71, 72, 73, 74] (by decide +kernel) (by decide +kernel)
set_option maxRecDepth 20000 in
theorem gX10_first_X10_isCouple : GoodIn wsX10_first (wsV RX10 125 RX10 yX10_isCouple wsX10_isCouple) := goodIn_app (goodIn_of _ (by decide +kernel)) ggX10_first_X10_isCouple
set_option maxRecDepth 20000 in
theorem ggX10_first_X10_layTried : GoodIn wsX10_first wsX10_layTried := goodIn_r _ [13, 14, 15, 16, 4, 17, 18, 19, 20, 21, 22, 6, 23, 24, 25, 26, 27, 28, 29, 30, 31, 32, 33, 34, 35, 36, 37, 38, 39, 40, 41, 42, 43, 44, 45, 46, 47, 48, 49, 50, 51, 52, 53, 54, 55, 56, 57, 58, 59, 60, 61, 62, 63, 64, 65, 66, 67, 68, 69, 70, 71, 72, 73, 74] (by decide +kernel) (by decide +kernel)
set_option maxRecDepth 20000 in
theorem gX10_first_X10_layTried : GoodIn wsX10_first (wsV RX10 168 RX10 yX10_layTried wsX10_layTried) := goodIn_app (goodIn_of _ (by decide +kernel)) ggX10_first_X10_layTried
set_option maxRecDepth 20000 in
theorem ggX10_first_X10_pass : GoodIn wsX10_first wsX10_pass := goodIn_r _ [22, 6, 18, 23, 24, 25, 4, 26, 27, 28, 29, 30, 31, 32, 33, 34, 35, 36, 37, 38, 39, 40, 41, 42, 43, 44, 45, 46, 47, 48, 49, 50, 51, 52, 53, 54, 55, 56, 57, 58, 59, 60, 61, 62, 63, 64, 65, 66, 67, 68, 69, 70, 71, 72, 73, 74] (by decide +kernel) (by decide +kernel)
set_option maxRecDepth 20000 in
theorem gX10_first_X10_pass : GoodIn wsX10_first (wsV RX10 158 RX10 yX10_pass wsX10_pass) := goodIn_app (goodIn_of _ (by decide +kernel)) ggX10_first_X10_pass
set_option maxRecDepth 20000 in
theorem ggX10_first_X10_has : GoodIn wsX10_first wsX10_has := goodIn_r _ [47] (by decide +kernel) (by decide +kernel)
set_option maxRecDepth 20000 in
theorem gX10_first_X10_has : GoodIn wsX10_first (va_wsS RX10 131 yX10_has wsX10_has) := goodIn_app (goodIn_of _ (by decide +kernel)) ggX10_first_X10_has
theorem dX10_first_0 : decode cX10_first 0 = .ok (.aload_n 0, 1) := by decide +kernel
theorem dX10_first_1 : decode cX10_first 1 = .ok (.iload_n 1, 1) := by decide +kernel
theorem dX10_first_2 : decode cX10_first 2 = .ok (.invokevirtual 125, 3) := by decide +kernel
theorem dX10_first_5 : decode cX10_first 5 = .ok (.ifCond .ne 6, 3) := by decide +kernel
theorem dX10_first_8 : decode cX10_first 8 = .ok (.bipush (-2), 2) := by decide +kernel
theorem dX10_first_10 : decode cX10_first 10 = .ok (.ireturn, 1) := by decide +kernel
theorem dX10_first_11 : decode cX10_first 11 = .ok (.aload_n 0, 1) := by decide +kernel
theorem dX10_first_12 : decode cX10_first 12 = .ok (.iconst 0, 1) := by decide +kernel
theorem dX10_first_13 : decode cX10_first 13 = .ok (.invokevirtual 168, 3) := by decide +kernel
theorem dX10_first_16 : decode cX10_first 16 = .ok (.iconst 1, 1) := by decide +kernel
theorem dX10_first_17 : decode cX10_first 17 = .ok (.istore_n 2, 1) := by decide +kernel
theorem dX10_first_18 : decode cX10_first 18 = .ok (.iload_n 2, 1) := by decide +kernel
theorem dX10_first_19 : decode cX10_first 19 = .ok (.bipush 61, 2) := by decide +kernel
theorem dX10_first_21 : decode cX10_first 21 = .ok (.if_icmp .ge 25, 3) := by decide +kernel
theorem dX10_first_24 : decode cX10_first 24 = .ok (.aload_n 0, 1) := by decide +kernel
theorem dX10_first_25 : decode cX10_first 25 = .ok (.sipush 616, 3) := by decide +kernel
theorem dX10_first_28 : decode cX10_first 28 = .ok (.invokevirtual 158, 3) := by decide +kernel
theorem dX10_first_31 : decode cX10_first 31 = .ok (.iload_n 1, 1) := by decide +kernel
theorem dX10_first_32 : decode cX10_first 32 = .ok (.invokestatic 131, 3) := by decide +kernel
theorem dX10_first_35 : decode cX10_first 35 = .ok (.ifCond .eq 5, 3) := by decide +kernel
theorem dX10_first_38 : decode cX10_first 38 = .ok (.iload_n 2, 1) := by decide +kernel
theorem dX10_first_39 : decode cX10_first 39 = .ok (.ireturn, 1) := by decide +kernel
theorem dX10_first_40 : decode cX10_first 40 = .ok (.iinc 2 1, 3) := by decide +kernel
theorem dX10_first_43 : decode cX10_first 43 = .ok (.goto (-25), 3) := by decide +kernel
theorem dX10_first_46 : decode cX10_first 46 = .ok (.iconst (-1), 1) := by decide +kernel
theorem dX10_first_47 : decode cX10_first 47 = .ok (.ireturn, 1) := by decide +kernel
set_option maxRecDepth 20000 in
theorem ggX10_level_X10_in : GoodIn wsX10_level wsX10_in := goodIn_r _ [5] (by decide +kernel) (by decide +kernel)
set_option maxRecDepth 20000 in
theorem gX10_level_X10_in : GoodIn wsX10_level (va_wsS RX10 69 yX10_in wsX10_in) := goodIn_app (goodIn_of _ (by decide +kernel)) ggX10_level_X10_in
set_option maxRecDepth 20000 in
theorem ggX10_level_X10_layTried : GoodIn wsX10_level wsX10_layTried := goodIn_r _ [9, 10, 11, 12, 4, 13, 1, 14, 15, 16, 17, 18, 19, 20, 21, 22, 23, 24, 25, 26, 27, 28, 29, 30, 31, 32, 33, 34, 35, 36, 37, 38, 39, 40, 41, 42, 43, 44, 45, 46, 47, 56, 57, 58, 59, 60, 61, 62, 63, 64, 65, 66, 67, 68, 69, 70, 71, 72, 73, 74, 75, 76, 77, 78] (by decide +kernel) (by decide +kernel)
set_option maxRecDepth 20000 in
theorem gX10_level_X10_layTried : GoodIn wsX10_level (wsV RX10 168 RX10 yX10_layTried wsX10_layTried) := goodIn_app (goodIn_of _ (by decide +kernel)) ggX10_level_X10_layTried
set_option maxRecDepth 20000 in
theorem ggX10_level_X10_pass : GoodIn wsX10_level wsX10_pass := goodIn_r _ [17, 18, 1, 19, 20, 21, 4, 22, 23, 24, 25, 26, 27, 28, 29, 30, 31, 32, 33, 34, 35, 36, 37, 38, 39, 40, 41, 42, 43, 44, 45, 46, 47, 56, 57, 58, 59, 60, 61, 62, 63, 64, 65, 66, 67, 68, 69, 70, 71, 72, 73, 74, 75, 76, 77, 78] (by decide +kernel) (by decide +kernel)
set_option maxRecDepth 20000 in
theorem gX10_level_X10_pass : GoodIn wsX10_level (wsV RX10 158 RX10 yX10_pass wsX10_pass) := goodIn_app (goodIn_of _ (by decide +kernel)) ggX10_level_X10_pass
set_option maxRecDepth 20000 in
theorem ggX10_level_X10_balanceOf : GoodIn wsX10_level wsX10_balanceOf := goodIn_r _ [51, 52, 53, 54, 4, 55, 18, 1, 56, 57, 58, 59, 60, 61, 62, 63, 64, 65, 66, 67, 68, 69, 70, 71, 72, 73, 74, 75, 76, 77, 78] (by decide +kernel) (by decide +kernel)
set_option maxRecDepth 20000 in
theorem gX10_level_X10_balanceOf : GoodIn wsX10_level (wsV RX10 172 RX10 yX10_balanceOf wsX10_balanceOf) := goodIn_app (goodIn_of _ (by decide +kernel)) ggX10_level_X10_balanceOf
theorem dX10_level_0 : decode cX10_level 0 = .ok (.iload_n 1, 1) := by decide +kernel
theorem dX10_level_1 : decode cX10_level 1 = .ok (.iconst 1, 1) := by decide +kernel
theorem dX10_level_2 : decode cX10_level 2 = .ok (.bipush 60, 2) := by decide +kernel
theorem dX10_level_4 : decode cX10_level 4 = .ok (.invokestatic 69, 3) := by decide +kernel
theorem dX10_level_7 : decode cX10_level 7 = .ok (.ifCond .ne 6, 3) := by decide +kernel
theorem dX10_level_10 : decode cX10_level 10 = .ok (.bipush (-3), 2) := by decide +kernel
theorem dX10_level_12 : decode cX10_level 12 = .ok (.ireturn, 1) := by decide +kernel
theorem dX10_level_13 : decode cX10_level 13 = .ok (.iconst 0, 1) := by decide +kernel
theorem dX10_level_14 : decode cX10_level 14 = .ok (.istore_n 2, 1) := by decide +kernel
theorem dX10_level_15 : decode cX10_level 15 = .ok (.iload_n 2, 1) := by decide +kernel
theorem dX10_level_16 : decode cX10_level 16 = .ok (.bipush 51, 2) := by decide +kernel
theorem dX10_level_18 : decode cX10_level 18 = .ok (.if_icmp .ge 61, 3) := by decide +kernel
theorem dX10_level_21 : decode cX10_level 21 = .ok (.aload_n 0, 1) := by decide +kernel
theorem dX10_level_22 : decode cX10_level 22 = .ok (.iconst 0, 1) := by decide +kernel
theorem dX10_level_23 : decode cX10_level 23 = .ok (.invokevirtual 168, 3) := by decide +kernel
theorem dX10_level_26 : decode cX10_level 26 = .ok (.aload_n 0, 1) := by decide +kernel
theorem dX10_level_27 : decode cX10_level 27 = .ok (.getfield 22, 3) := by decide +kernel
theorem dX10_level_30 : decode cX10_level 30 = .ok (.sipush 619, 3) := by decide +kernel
theorem dX10_level_33 : decode cX10_level 33 = .ok (.iload_n 2, 1) := by decide +kernel
theorem dX10_level_34 : decode cX10_level 34 = .ok (.iastore, 1) := by decide +kernel
theorem dX10_level_35 : decode cX10_level 35 = .ok (.iconst 0, 1) := by decide +kernel
theorem dX10_level_36 : decode cX10_level 36 = .ok (.istore_n 3, 1) := by decide +kernel
theorem dX10_level_37 : decode cX10_level 37 = .ok (.iload_n 3, 1) := by decide +kernel
theorem dX10_level_38 : decode cX10_level 38 = .ok (.iload_n 1, 1) := by decide +kernel
theorem dX10_level_39 : decode cX10_level 39 = .ok (.if_icmp .ge 17, 3) := by decide +kernel
theorem dX10_level_42 : decode cX10_level 42 = .ok (.aload_n 0, 1) := by decide +kernel
theorem dX10_level_43 : decode cX10_level 43 = .ok (.sipush 616, 3) := by decide +kernel
theorem dX10_level_46 : decode cX10_level 46 = .ok (.invokevirtual 158, 3) := by decide +kernel
theorem dX10_level_49 : decode cX10_level 49 = .ok (.pop, 1) := by decide +kernel
theorem dX10_level_50 : decode cX10_level 50 = .ok (.iinc 3 1, 3) := by decide +kernel
theorem dX10_level_53 : decode cX10_level 53 = .ok (.goto (-16), 3) := by decide +kernel
theorem dX10_level_56 : decode cX10_level 56 = .ok (.aload_n 0, 1) := by decide +kernel
theorem dX10_level_57 : decode cX10_level 57 = .ok (.sipush 616, 3) := by decide +kernel
theorem dX10_level_60 : decode cX10_level 60 = .ok (.invokevirtual 172, 3) := by decide +kernel
theorem dX10_level_63 : decode cX10_level 63 = .ok (.aload_n 0, 1) := by decide +kernel
theorem dX10_level_64 : decode cX10_level 64 = .ok (.iconst 0, 1) := by decide +kernel
theorem dX10_level_65 : decode cX10_level 65 = .ok (.invokevirtual 172, 3) := by decide +kernel
theorem dX10_level_68 : decode cX10_level 68 = .ok (.if_icmp .lt 5, 3) := by decide +kernel
theorem dX10_level_71 : decode cX10_level 71 = .ok (.iload_n 2, 1) := by decide +kernel
theorem dX10_level_72 : decode cX10_level 72 = .ok (.ireturn, 1) := by decide +kernel
theorem dX10_level_73 : decode cX10_level 73 = .ok (.iinc 2 1, 3) := by decide +kernel
theorem dX10_level_76 : decode cX10_level 76 = .ok (.goto (-61), 3) := by decide +kernel
theorem dX10_level_79 : decode cX10_level 79 = .ok (.iconst (-1), 1) := by decide +kernel
theorem dX10_level_80 : decode cX10_level 80 = .ok (.ireturn, 1) := by decide +kernel
set_option maxRecDepth 20000 in
theorem ggX10_claimedBy_X10_layTried : GoodIn wsX10_claimedBy wsX10_layTried := goodIn_r _ [5, 6, 7, 8, 4, 9, 10, 11, 12, 13, 14, 15, 16, 17, 18, 19, 20, 21, 22, 23, 24, 25, 26, 27, 28, 29, 30, 31, 32, 33, 34, 35, 36, 37, 38, 39, 40, 41, 42, 43, 44, 53, 54, 55, 56, 57, 58, 59, 60, 61, 62, 63, 64, 65, 66, 67, 68, 69, 70, 71, 72, 73, 74, 75] (by decide +kernel) (by decide +kernel)
set_option maxRecDepth 20000 in
theorem gX10_claimedBy_X10_layTried : GoodIn wsX10_claimedBy (wsV RX10 168 RX10 yX10_layTried wsX10_layTried) := goodIn_app (goodIn_of _ (by decide +kernel)) ggX10_claimedBy_X10_layTried
set_option maxRecDepth 20000 in
theorem ggX10_claimedBy_X10_doKiss : GoodIn wsX10_claimedBy wsX10_doKiss := goodIn_r _ [48, 10, 53, 54, 55, 56, 57, 58, 59, 60, 61, 62, 63, 64, 65, 66, 67, 68, 69, 70, 71, 72, 73, 74, 75] (by decide +kernel) (by decide +kernel)
set_option maxRecDepth 20000 in
theorem gX10_claimedBy_X10_doKiss : GoodIn wsX10_claimedBy (wsV RX10 162 RX10 yX10_doKiss wsX10_doKiss) := goodIn_app (goodIn_of _ (by decide +kernel)) ggX10_claimedBy_X10_doKiss
set_option maxRecDepth 20000 in
theorem ggX10_claimedBy_X10_pass : GoodIn wsX10_claimedBy wsX10_pass := goodIn_r _ [14, 15, 10, 16, 17, 18, 4, 19, 20, 21, 22, 23, 24, 25, 26, 27, 28, 29, 30, 31, 32, 33, 34, 35, 36, 37, 38, 39, 40, 41, 42, 43, 44, 53, 54, 55, 56, 57, 58, 59, 60, 61, 62, 63, 64, 65, 66, 67, 68, 69, 70, 71, 72, 73, 74, 75] (by decide +kernel) (by decide +kernel)
set_option maxRecDepth 20000 in
theorem gX10_claimedBy_X10_pass : GoodIn wsX10_claimedBy (wsV RX10 158 RX10 yX10_pass wsX10_pass) := goodIn_app (goodIn_of _ (by decide +kernel)) ggX10_claimedBy_X10_pass
set_option maxRecDepth 20000 in
theorem ggX10_claimedBy_X10_sumOf : GoodIn wsX10_claimedBy wsX10_sumOf := goodIn_r _ [52, 15, 10, 53, 54, 55, 56, 57, 58, 59, 60, 61, 62, 63, 64, 65, 66, 67, 68, 69, 70, 71, 72, 73, 74, 75] (by decide +kernel) (by decide +kernel)
set_option maxRecDepth 20000 in
theorem gX10_claimedBy_X10_sumOf : GoodIn wsX10_claimedBy (wsV RX10 165 RX10 yX10_sumOf wsX10_sumOf) := goodIn_app (goodIn_of _ (by decide +kernel)) ggX10_claimedBy_X10_sumOf
theorem dX10_claimedBy_0 : decode cX10_claimedBy 0 = .ok (.aload_n 0, 1) := by decide +kernel
theorem dX10_claimedBy_1 : decode cX10_claimedBy 1 = .ok (.iconst 0, 1) := by decide +kernel
theorem dX10_claimedBy_2 : decode cX10_claimedBy 2 = .ok (.invokevirtual 168, 3) := by decide +kernel
theorem dX10_claimedBy_5 : decode cX10_claimedBy 5 = .ok (.iconst 0, 1) := by decide +kernel
theorem dX10_claimedBy_6 : decode cX10_claimedBy 6 = .ok (.istore 4, 2) := by decide +kernel
theorem dX10_claimedBy_8 : decode cX10_claimedBy 8 = .ok (.iload 4, 2) := by decide +kernel
theorem dX10_claimedBy_10 : decode cX10_claimedBy 10 = .ok (.iload_n 3, 1) := by decide +kernel
theorem dX10_claimedBy_11 : decode cX10_claimedBy 11 = .ok (.if_icmp .ge 31, 3) := by decide +kernel
theorem dX10_claimedBy_14 : decode cX10_claimedBy 14 = .ok (.iload 4, 2) := by decide +kernel
theorem dX10_claimedBy_16 : decode cX10_claimedBy 16 = .ok (.iload_n 2, 1) := by decide +kernel
theorem dX10_claimedBy_17 : decode cX10_claimedBy 17 = .ok (.if_icmp .ne 11, 3) := by decide +kernel
theorem dX10_claimedBy_20 : decode cX10_claimedBy 20 = .ok (.aload_n 0, 1) := by decide +kernel
theorem dX10_claimedBy_21 : decode cX10_claimedBy 21 = .ok (.sipush 616, 3) := by decide +kernel
theorem dX10_claimedBy_24 : decode cX10_claimedBy 24 = .ok (.iload_n 1, 1) := by decide +kernel
theorem dX10_claimedBy_25 : decode cX10_claimedBy 25 = .ok (.invokevirtual 162, 3) := by decide +kernel
theorem dX10_claimedBy_28 : decode cX10_claimedBy 28 = .ok (.aload_n 0, 1) := by decide +kernel
theorem dX10_claimedBy_29 : decode cX10_claimedBy 29 = .ok (.sipush 616, 3) := by decide +kernel
theorem dX10_claimedBy_32 : decode cX10_claimedBy 32 = .ok (.invokevirtual 158, 3) := by decide +kernel
theorem dX10_claimedBy_35 : decode cX10_claimedBy 35 = .ok (.pop, 1) := by decide +kernel
theorem dX10_claimedBy_36 : decode cX10_claimedBy 36 = .ok (.iinc 4 1, 3) := by decide +kernel
theorem dX10_claimedBy_39 : decode cX10_claimedBy 39 = .ok (.goto (-31), 3) := by decide +kernel
theorem dX10_claimedBy_42 : decode cX10_claimedBy 42 = .ok (.aload_n 0, 1) := by decide +kernel
theorem dX10_claimedBy_43 : decode cX10_claimedBy 43 = .ok (.sipush 616, 3) := by decide +kernel
theorem dX10_claimedBy_46 : decode cX10_claimedBy 46 = .ok (.bipush 38, 2) := by decide +kernel
theorem dX10_claimedBy_48 : decode cX10_claimedBy 48 = .ok (.invokevirtual 165, 3) := by decide +kernel
theorem dX10_claimedBy_51 : decode cX10_claimedBy 51 = .ok (.ireturn, 1) := by decide +kernel
set_option maxRecDepth 20000 in
theorem ggX10_kissOn_X10_isCouple : GoodIn wsX10_kissOn wsX10_isCouple := goodIn_r _ [5, 6, 7, 8, 4, 9, 64, 65, 66, 67, 68, 69, 70, 71, 72, 73, 74, 75, 76, 77, 78, 79, 80, 81, 82, 83, 84, 85, 86] (by decide +kernel) (by decide +kernel)
set_option maxRecDepth 20000 in
theorem gX10_kissOn_X10_isCouple : GoodIn wsX10_kissOn (wsV RX10 125 RX10 yX10_isCouple wsX10_isCouple) := goodIn_app (goodIn_of _ (by decide +kernel)) ggX10_kissOn_X10_isCouple
set_option maxRecDepth 20000 in
theorem ggX10_kissOn_X10_in : GoodIn wsX10_kissOn wsX10_in := goodIn_r _ [9] (by decide +kernel) (by decide +kernel)
set_option maxRecDepth 20000 in
theorem gX10_kissOn_X10_in : GoodIn wsX10_kissOn (va_wsS RX10 69 yX10_in wsX10_in) := goodIn_app (goodIn_of _ (by decide +kernel)) ggX10_kissOn_X10_in
set_option maxRecDepth 20000 in
theorem ggX10_kissOn_X10_claimedBy : GoodIn wsX10_kissOn wsX10_claimedBy := goodIn_r _ [13, 14, 15, 16, 4, 17, 18, 19, 20, 21, 22, 23, 24, 25, 26, 6, 27, 28, 29, 30, 31, 32, 33, 34, 35, 36, 37, 38, 39, 40, 41, 42, 43, 44, 45, 46, 47, 48, 49, 50, 51, 52, 53, 54, 55, 56, 57, 58, 59, 60, 61, 62, 63, 64, 65, 66, 67, 68, 69, 70, 71, 72, 73, 74, 75, 76, 77, 78, 79, 80, 81, 82, 83, 84, 85, 86] (by decide +kernel) (by decide +kernel)
set_option maxRecDepth 20000 in
theorem gX10_kissOn_X10_claimedBy : GoodIn wsX10_kissOn (wsV RX10 176 RX10 yX10_claimedBy wsX10_claimedBy) := goodIn_app (goodIn_of _ (by decide +kernel)) ggX10_kissOn_X10_claimedBy
theorem dX10_kissOn_0 : decode cX10_kissOn 0 = .ok (.aload_n 0, 1) := by decide +kernel
theorem dX10_kissOn_1 : decode cX10_kissOn 1 = .ok (.iload_n 1, 1) := by decide +kernel
theorem dX10_kissOn_2 : decode cX10_kissOn 2 = .ok (.invokevirtual 125, 3) := by decide +kernel
theorem dX10_kissOn_5 : decode cX10_kissOn 5 = .ok (.ifCond .ne 6, 3) := by decide +kernel
theorem dX10_kissOn_8 : decode cX10_kissOn 8 = .ok (.bipush (-2), 2) := by decide +kernel
theorem dX10_kissOn_10 : decode cX10_kissOn 10 = .ok (.ireturn, 1) := by decide +kernel
theorem dX10_kissOn_11 : decode cX10_kissOn 11 = .ok (.iload_n 2, 1) := by decide +kernel
theorem dX10_kissOn_12 : decode cX10_kissOn 12 = .ok (.iconst 1, 1) := by decide +kernel
theorem dX10_kissOn_13 : decode cX10_kissOn 13 = .ok (.bipush 30, 2) := by decide +kernel
theorem dX10_kissOn_15 : decode cX10_kissOn 15 = .ok (.invokestatic 69, 3) := by decide +kernel
theorem dX10_kissOn_18 : decode cX10_kissOn 18 = .ok (.ifCond .ne 6, 3) := by decide +kernel
theorem dX10_kissOn_21 : decode cX10_kissOn 21 = .ok (.bipush (-3), 2) := by decide +kernel
theorem dX10_kissOn_23 : decode cX10_kissOn 23 = .ok (.ireturn, 1) := by decide +kernel
theorem dX10_kissOn_24 : decode cX10_kissOn 24 = .ok (.iconst (-1), 1) := by decide +kernel
theorem dX10_kissOn_25 : decode cX10_kissOn 25 = .ok (.istore_n 3, 1) := by decide +kernel
theorem dX10_kissOn_26 : decode cX10_kissOn 26 = .ok (.aload_n 0, 1) := by decide +kernel
theorem dX10_kissOn_27 : decode cX10_kissOn 27 = .ok (.iload_n 1, 1) := by decide +kernel
theorem dX10_kissOn_28 : decode cX10_kissOn 28 = .ok (.iconst (-1), 1) := by decide +kernel
theorem dX10_kissOn_29 : decode cX10_kissOn 29 = .ok (.iload_n 2, 1) := by decide +kernel
theorem dX10_kissOn_30 : decode cX10_kissOn 30 = .ok (.invokevirtual 176, 3) := by decide +kernel
theorem dX10_kissOn_33 : decode cX10_kissOn 33 = .ok (.istore 4, 2) := by decide +kernel
theorem dX10_kissOn_35 : decode cX10_kissOn 35 = .ok (.iconst 0, 1) := by decide +kernel
theorem dX10_kissOn_36 : decode cX10_kissOn 36 = .ok (.istore 5, 2) := by decide +kernel
theorem dX10_kissOn_38 : decode cX10_kissOn 38 = .ok (.iload 5, 2) := by decide +kernel
theorem dX10_kissOn_40 : decode cX10_kissOn 40 = .ok (.iload_n 2, 1) := by decide +kernel
theorem dX10_kissOn_41 : decode cX10_kissOn 41 = .ok (.if_icmp .ge 49, 3) := by decide +kernel
theorem dX10_kissOn_44 : decode cX10_kissOn 44 = .ok (.aload_n 0, 1) := by decide +kernel
theorem dX10_kissOn_45 : decode cX10_kissOn 45 = .ok (.iload_n 1, 1) := by decide +kernel
theorem dX10_kissOn_46 : decode cX10_kissOn 46 = .ok (.iload 5, 2) := by decide +kernel
theorem dX10_kissOn_48 : decode cX10_kissOn 48 = .ok (.iload_n 2, 1) := by decide +kernel
theorem dX10_kissOn_49 : decode cX10_kissOn 49 = .ok (.invokevirtual 176, 3) := by decide +kernel
theorem dX10_kissOn_52 : decode cX10_kissOn 52 = .ok (.istore 6, 2) := by decide +kernel
theorem dX10_kissOn_54 : decode cX10_kissOn 54 = .ok (.iload 6, 2) := by decide +kernel
theorem dX10_kissOn_56 : decode cX10_kissOn 56 = .ok (.iload 4, 2) := by decide +kernel
theorem dX10_kissOn_58 : decode cX10_kissOn 58 = .ok (.if_icmp .ge 8, 3) := by decide +kernel
theorem dX10_kissOn_61 : decode cX10_kissOn 61 = .ok (.iload 5, 2) := by decide +kernel
theorem dX10_kissOn_63 : decode cX10_kissOn 63 = .ok (.goto 4, 3) := by decide +kernel
theorem dX10_kissOn_66 : decode cX10_kissOn 66 = .ok (.iload_n 3, 1) := by decide +kernel
theorem dX10_kissOn_67 : decode cX10_kissOn 67 = .ok (.istore_n 3, 1) := by decide +kernel
theorem dX10_kissOn_68 : decode cX10_kissOn 68 = .ok (.iload 6, 2) := by decide +kernel
theorem dX10_kissOn_70 : decode cX10_kissOn 70 = .ok (.iload 4, 2) := by decide +kernel
theorem dX10_kissOn_72 : decode cX10_kissOn 72 = .ok (.if_icmp .ge 8, 3) := by decide +kernel
theorem dX10_kissOn_75 : decode cX10_kissOn 75 = .ok (.iload 6, 2) := by decide +kernel
theorem dX10_kissOn_77 : decode cX10_kissOn 77 = .ok (.goto 5, 3) := by decide +kernel
theorem dX10_kissOn_80 : decode cX10_kissOn 80 = .ok (.iload 4, 2) := by decide +kernel
theorem dX10_kissOn_82 : decode cX10_kissOn 82 = .ok (.istore 4, 2) := by decide +kernel
theorem dX10_kissOn_84 : decode cX10_kissOn 84 = .ok (.iinc 5 1, 3) := by decide +kernel
theorem dX10_kissOn_87 : decode cX10_kissOn 87 = .ok (.goto (-49), 3) := by decide +kernel
theorem dX10_kissOn_90 : decode cX10_kissOn 90 = .ok (.iload_n 3, 1) := by decide +kernel
theorem dX10_kissOn_91 : decode cX10_kissOn 91 = .ok (.ireturn, 1) := by decide +kernel
set_option maxRecDepth 20000 in
theorem ggX10_take_X10_in : GoodIn wsX10_take wsX10_in := goodIn_r _ [6] (by decide +kernel) (by decide +kernel)
set_option maxRecDepth 20000 in
theorem gX10_take_X10_in : GoodIn wsX10_take (va_wsS RX10 69 yX10_in wsX10_in) := goodIn_app (goodIn_of _ (by decide +kernel)) ggX10_take_X10_in
set_option maxRecDepth 20000 in
theorem ggX10_take_X10_layTried : GoodIn wsX10_take wsX10_layTried := goodIn_r _ [10, 11, 12, 13, 5, 14, 15, 16, 17, 18, 19, 1, 20, 21, 22, 23, 24, 25, 26, 27, 28, 29, 30, 31, 32, 33, 34, 35, 36, 37, 38, 39, 40, 41, 42, 43, 44, 45, 46, 47, 48, 52, 53, 54, 55, 56, 57, 58, 59, 60, 61, 62, 63, 64, 65, 66, 67, 68, 69, 70, 71, 72, 73, 74] (by decide +kernel) (by decide +kernel)
set_option maxRecDepth 20000 in
theorem gX10_take_X10_layTried : GoodIn wsX10_take (wsV RX10 168 RX10 yX10_layTried wsX10_layTried) := goodIn_app (goodIn_of _ (by decide +kernel)) ggX10_take_X10_layTried
set_option maxRecDepth 20000 in
theorem ggX10_take_X10_pass : GoodIn wsX10_take wsX10_pass := goodIn_r _ [19, 1, 15, 20, 21, 22, 5, 23, 24, 25, 26, 27, 28, 29, 30, 31, 32, 33, 34, 35, 36, 37, 38, 39, 40, 41, 42, 43, 44, 45, 46, 47, 48, 52, 53, 54, 55, 56, 57, 58, 59, 60, 61, 62, 63, 64, 65, 66, 67, 68, 69, 70, 71, 72, 73, 74] (by decide +kernel) (by decide +kernel)
set_option maxRecDepth 20000 in
theorem gX10_take_X10_pass : GoodIn wsX10_take (wsV RX10 158 RX10 yX10_pass wsX10_pass) := goodIn_app (goodIn_of _ (by decide +kernel)) ggX10_take_X10_pass
set_option maxRecDepth 20000 in
theorem ggX10_take_X10_bits : GoodIn wsX10_take wsX10_bits := goodIn_r _ [51] (by decide +kernel) (by decide +kernel)
set_option maxRecDepth 20000 in
theorem gX10_take_X10_bits : GoodIn wsX10_take (va_wsS RX10 180 yX10_bits wsX10_bits) := goodIn_app (goodIn_of _ (by decide +kernel)) ggX10_take_X10_bits
theorem dX10_take_0 : decode cX10_take 0 = .ok (.iload_n 1, 1) := by decide +kernel
theorem dX10_take_1 : decode cX10_take 1 = .ok (.iconst 0, 1) := by decide +kernel
theorem dX10_take_2 : decode cX10_take 2 = .ok (.bipush 6, 2) := by decide +kernel
theorem dX10_take_4 : decode cX10_take 4 = .ok (.invokestatic 69, 3) := by decide +kernel
theorem dX10_take_7 : decode cX10_take 7 = .ok (.ifCond .eq 22, 3) := by decide +kernel
theorem dX10_take_10 : decode cX10_take 10 = .ok (.iload_n 2, 1) := by decide +kernel
theorem dX10_take_11 : decode cX10_take 11 = .ok (.iconst 1, 1) := by decide +kernel
theorem dX10_take_12 : decode cX10_take 12 = .ok (.bipush 60, 2) := by decide +kernel
theorem dX10_take_14 : decode cX10_take 14 = .ok (.invokestatic 69, 3) := by decide +kernel
theorem dX10_take_17 : decode cX10_take 17 = .ok (.ifCond .eq 12, 3) := by decide +kernel
theorem dX10_take_20 : decode cX10_take 20 = .ok (.iload_n 3, 1) := by decide +kernel
theorem dX10_take_21 : decode cX10_take 21 = .ok (.iconst 0, 1) := by decide +kernel
theorem dX10_take_22 : decode cX10_take 22 = .ok (.iconst 1, 1) := by decide +kernel
theorem dX10_take_23 : decode cX10_take 23 = .ok (.invokestatic 69, 3) := by decide +kernel
theorem dX10_take_26 : decode cX10_take 26 = .ok (.ifCond .ne 6, 3) := by decide +kernel
theorem dX10_take_29 : decode cX10_take 29 = .ok (.bipush (-3), 2) := by decide +kernel
theorem dX10_take_31 : decode cX10_take 31 = .ok (.ireturn, 1) := by decide +kernel
theorem dX10_take_32 : decode cX10_take 32 = .ok (.iload_n 1, 1) := by decide +kernel
theorem dX10_take_33 : decode cX10_take 33 = .ok (.aload_n 0, 1) := by decide +kernel
theorem dX10_take_34 : decode cX10_take 34 = .ok (.getfield 59, 3) := by decide +kernel
theorem dX10_take_37 : decode cX10_take 37 = .ok (.if_icmp .le 5, 3) := by decide +kernel
theorem dX10_take_40 : decode cX10_take 40 = .ok (.iconst (-1), 1) := by decide +kernel
theorem dX10_take_41 : decode cX10_take 41 = .ok (.ireturn, 1) := by decide +kernel
theorem dX10_take_42 : decode cX10_take 42 = .ok (.aload_n 0, 1) := by decide +kernel
theorem dX10_take_43 : decode cX10_take 43 = .ok (.iconst 0, 1) := by decide +kernel
theorem dX10_take_44 : decode cX10_take 44 = .ok (.invokevirtual 168, 3) := by decide +kernel
theorem dX10_take_47 : decode cX10_take 47 = .ok (.iconst 0, 1) := by decide +kernel
theorem dX10_take_48 : decode cX10_take 48 = .ok (.istore 4, 2) := by decide +kernel
theorem dX10_take_50 : decode cX10_take 50 = .ok (.iload 4, 2) := by decide +kernel
theorem dX10_take_52 : decode cX10_take 52 = .ok (.iload_n 2, 1) := by decide +kernel
theorem dX10_take_53 : decode cX10_take 53 = .ok (.if_icmp .ge 23, 3) := by decide +kernel
theorem dX10_take_56 : decode cX10_take 56 = .ok (.aload_n 0, 1) := by decide +kernel
theorem dX10_take_57 : decode cX10_take 57 = .ok (.getfield 53, 3) := by decide +kernel
theorem dX10_take_60 : decode cX10_take 60 = .ok (.iload 4, 2) := by decide +kernel
theorem dX10_take_62 : decode cX10_take 62 = .ok (.aload_n 0, 1) := by decide +kernel
theorem dX10_take_63 : decode cX10_take 63 = .ok (.sipush 616, 3) := by decide +kernel
theorem dX10_take_66 : decode cX10_take 66 = .ok (.invokevirtual 158, 3) := by decide +kernel
theorem dX10_take_69 : decode cX10_take 69 = .ok (.iastore, 1) := by decide +kernel
theorem dX10_take_70 : decode cX10_take 70 = .ok (.iinc 4 1, 3) := by decide +kernel
theorem dX10_take_73 : decode cX10_take 73 = .ok (.goto (-23), 3) := by decide +kernel
theorem dX10_take_76 : decode cX10_take 76 = .ok (.iconst (-1), 1) := by decide +kernel
theorem dX10_take_77 : decode cX10_take 77 = .ok (.istore 4, 2) := by decide +kernel
theorem dX10_take_79 : decode cX10_take 79 = .ok (.bipush 9, 2) := by decide +kernel
theorem dX10_take_81 : decode cX10_take 81 = .ok (.istore 5, 2) := by decide +kernel
theorem dX10_take_83 : decode cX10_take 83 = .ok (.iconst 0, 1) := by decide +kernel
theorem dX10_take_84 : decode cX10_take 84 = .ok (.istore 6, 2) := by decide +kernel
theorem dX10_take_86 : decode cX10_take 86 = .ok (.iload 6, 2) := by decide +kernel
theorem dX10_take_88 : decode cX10_take 88 = .ok (.iconst 1, 1) := by decide +kernel
theorem dX10_take_89 : decode cX10_take 89 = .ok (.aload_n 0, 1) := by decide +kernel
theorem dX10_take_90 : decode cX10_take 90 = .ok (.getfield 59, 3) := by decide +kernel
theorem dX10_take_93 : decode cX10_take 93 = .ok (.ishl, 1) := by decide +kernel
theorem dX10_take_94 : decode cX10_take 94 = .ok (.if_icmp .ge 109, 3) := by decide +kernel
theorem dX10_take_97 : decode cX10_take 97 = .ok (.iconst 0, 1) := by decide +kernel
theorem dX10_take_98 : decode cX10_take 98 = .ok (.istore 7, 2) := by decide +kernel
theorem dX10_take_100 : decode cX10_take 100 = .ok (.iconst 0, 1) := by decide +kernel
theorem dX10_take_101 : decode cX10_take 101 = .ok (.istore 8, 2) := by decide +kernel
theorem dX10_take_103 : decode cX10_take 103 = .ok (.iload 8, 2) := by decide +kernel
theorem dX10_take_105 : decode cX10_take 105 = .ok (.iload_n 2, 1) := by decide +kernel
theorem dX10_take_106 : decode cX10_take 106 = .ok (.if_icmp .ge 40, 3) := by decide +kernel
theorem dX10_take_109 : decode cX10_take 109 = .ok (.aload_n 0, 1) := by decide +kernel
theorem dX10_take_110 : decode cX10_take 110 = .ok (.getfield 53, 3) := by decide +kernel
theorem dX10_take_113 : decode cX10_take 113 = .ok (.iload 8, 2) := by decide +kernel
theorem dX10_take_115 : decode cX10_take 115 = .ok (.iaload, 1) := by decide +kernel
theorem dX10_take_116 : decode cX10_take 116 = .ok (.iload 6, 2) := by decide +kernel
theorem dX10_take_118 : decode cX10_take 118 = .ok (.iand, 1) := by decide +kernel
theorem dX10_take_119 : decode cX10_take 119 = .ok (.invokestatic 180, 3) := by decide +kernel
theorem dX10_take_122 : decode cX10_take 122 = .ok (.istore 9, 2) := by decide +kernel
theorem dX10_take_124 : decode cX10_take 124 = .ok (.iload 9, 2) := by decide +kernel
theorem dX10_take_126 : decode cX10_take 126 = .ok (.iload 7, 2) := by decide +kernel
theorem dX10_take_128 : decode cX10_take 128 = .ok (.if_icmp .le 8, 3) := by decide +kernel
theorem dX10_take_131 : decode cX10_take 131 = .ok (.iload 9, 2) := by decide +kernel
theorem dX10_take_133 : decode cX10_take 133 = .ok (.goto 5, 3) := by decide +kernel
theorem dX10_take_136 : decode cX10_take 136 = .ok (.iload 7, 2) := by decide +kernel
theorem dX10_take_138 : decode cX10_take 138 = .ok (.istore 7, 2) := by decide +kernel
theorem dX10_take_140 : decode cX10_take 140 = .ok (.iinc 8 1, 3) := by decide +kernel
theorem dX10_take_143 : decode cX10_take 143 = .ok (.goto (-40), 3) := by decide +kernel
theorem dX10_take_146 : decode cX10_take 146 = .ok (.iload 6, 2) := by decide +kernel
theorem dX10_take_148 : decode cX10_take 148 = .ok (.invokestatic 180, 3) := by decide +kernel
theorem dX10_take_151 : decode cX10_take 151 = .ok (.iload_n 1, 1) := by decide +kernel
theorem dX10_take_152 : decode cX10_take 152 = .ok (.if_icmp .ne 14, 3) := by decide +kernel
theorem dX10_take_155 : decode cX10_take 155 = .ok (.iload 7, 2) := by decide +kernel
theorem dX10_take_157 : decode cX10_take 157 = .ok (.iload 5, 2) := by decide +kernel
theorem dX10_take_159 : decode cX10_take 159 = .ok (.if_icmp .ge 7, 3) := by decide +kernel
theorem dX10_take_162 : decode cX10_take 162 = .ok (.iconst 1, 1) := by decide +kernel
theorem dX10_take_163 : decode cX10_take 163 = .ok (.goto 4, 3) := by decide +kernel
theorem dX10_take_166 : decode cX10_take 166 = .ok (.iconst 0, 1) := by decide +kernel
theorem dX10_take_167 : decode cX10_take 167 = .ok (.istore 8, 2) := by decide +kernel
theorem dX10_take_169 : decode cX10_take 169 = .ok (.iload 8, 2) := by decide +kernel
theorem dX10_take_171 : decode cX10_take 171 = .ok (.ifCond .eq 8, 3) := by decide +kernel
theorem dX10_take_174 : decode cX10_take 174 = .ok (.iload 6, 2) := by decide +kernel
theorem dX10_take_176 : decode cX10_take 176 = .ok (.goto 5, 3) := by decide +kernel
theorem dX10_take_179 : decode cX10_take 179 = .ok (.iload 4, 2) := by decide +kernel
theorem dX10_take_181 : decode cX10_take 181 = .ok (.istore 4, 2) := by decide +kernel
theorem dX10_take_183 : decode cX10_take 183 = .ok (.iload 8, 2) := by decide +kernel
theorem dX10_take_185 : decode cX10_take 185 = .ok (.ifCond .eq 8, 3) := by decide +kernel
theorem dX10_take_188 : decode cX10_take 188 = .ok (.iload 7, 2) := by decide +kernel
theorem dX10_take_190 : decode cX10_take 190 = .ok (.goto 5, 3) := by decide +kernel
theorem dX10_take_193 : decode cX10_take 193 = .ok (.iload 5, 2) := by decide +kernel
theorem dX10_take_195 : decode cX10_take 195 = .ok (.istore 5, 2) := by decide +kernel
theorem dX10_take_197 : decode cX10_take 197 = .ok (.iinc 6 1, 3) := by decide +kernel
theorem dX10_take_200 : decode cX10_take 200 = .ok (.goto (-114), 3) := by decide +kernel
theorem dX10_take_203 : decode cX10_take 203 = .ok (.iload_n 3, 1) := by decide +kernel
theorem dX10_take_204 : decode cX10_take 204 = .ok (.ifCond .ne 8, 3) := by decide +kernel
theorem dX10_take_207 : decode cX10_take 207 = .ok (.iload 4, 2) := by decide +kernel
theorem dX10_take_209 : decode cX10_take 209 = .ok (.goto 5, 3) := by decide +kernel
theorem dX10_take_212 : decode cX10_take 212 = .ok (.iload 5, 2) := by decide +kernel
theorem dX10_take_214 : decode cX10_take 214 = .ok (.ireturn, 1) := by decide +kernel
set_option maxRecDepth 20000 in
theorem ggX10_seen_X10_isCouple : GoodIn wsX10_seen wsX10_isCouple := goodIn_r _ [7, 8, 9, 10, 6, 11, 12, 13, 14, 15, 16, 17, 18, 19, 20, 21, 22, 23, 24, 25, 26, 27, 28, 29, 30, 31, 32, 33, 34] (by decide +kernel) (by decide +kernel)
set_option maxRecDepth 20000 in
theorem gX10_seen_X10_isCouple : GoodIn wsX10_seen (wsV RX10 125 RX10 yX10_isCouple wsX10_isCouple) := goodIn_app (goodIn_of _ (by decide +kernel)) ggX10_seen_X10_isCouple
set_option maxRecDepth 20000 in
theorem ggX10_seen_X10_in : GoodIn wsX10_seen wsX10_in := goodIn_r _ [11] (by decide +kernel) (by decide +kernel)
set_option maxRecDepth 20000 in
theorem gX10_seen_X10_in : GoodIn wsX10_seen (va_wsS RX10 69 yX10_in wsX10_in) := goodIn_app (goodIn_of _ (by decide +kernel)) ggX10_seen_X10_in
theorem dX10_seen_0 : decode cX10_seen 0 = .ok (.aload_n 0, 1) := by decide +kernel
theorem dX10_seen_1 : decode cX10_seen 1 = .ok (.iload_n 1, 1) := by decide +kernel
theorem dX10_seen_2 : decode cX10_seen 2 = .ok (.invokevirtual 125, 3) := by decide +kernel
theorem dX10_seen_5 : decode cX10_seen 5 = .ok (.ifCond .ne 6, 3) := by decide +kernel
theorem dX10_seen_8 : decode cX10_seen 8 = .ok (.bipush (-2), 2) := by decide +kernel
theorem dX10_seen_10 : decode cX10_seen 10 = .ok (.ireturn, 1) := by decide +kernel
theorem dX10_seen_11 : decode cX10_seen 11 = .ok (.iload_n 2, 1) := by decide +kernel
theorem dX10_seen_12 : decode cX10_seen 12 = .ok (.iconst 1, 1) := by decide +kernel
theorem dX10_seen_13 : decode cX10_seen 13 = .ok (.bipush 30, 2) := by decide +kernel
theorem dX10_seen_15 : decode cX10_seen 15 = .ok (.invokestatic 69, 3) := by decide +kernel
theorem dX10_seen_18 : decode cX10_seen 18 = .ok (.ifCond .eq 13, 3) := by decide +kernel
theorem dX10_seen_21 : decode cX10_seen 21 = .ok (.iload_n 3, 1) := by decide +kernel
theorem dX10_seen_22 : decode cX10_seen 22 = .ok (.iconst 0, 1) := by decide +kernel
theorem dX10_seen_23 : decode cX10_seen 23 = .ok (.bipush 99, 2) := by decide +kernel
theorem dX10_seen_25 : decode cX10_seen 25 = .ok (.invokestatic 69, 3) := by decide +kernel
theorem dX10_seen_28 : decode cX10_seen 28 = .ok (.ifCond .ne 6, 3) := by decide +kernel
theorem dX10_seen_31 : decode cX10_seen 31 = .ok (.bipush (-3), 2) := by decide +kernel
theorem dX10_seen_33 : decode cX10_seen 33 = .ok (.ireturn, 1) := by decide +kernel
theorem dX10_seen_34 : decode cX10_seen 34 = .ok (.aload_n 0, 1) := by decide +kernel
theorem dX10_seen_35 : decode cX10_seen 35 = .ok (.getfield 66, 3) := by decide +kernel
theorem dX10_seen_38 : decode cX10_seen 38 = .ok (.bipush 6, 2) := by decide +kernel
theorem dX10_seen_40 : decode cX10_seen 40 = .ok (.if_icmp .ne 6, 3) := by decide +kernel
theorem dX10_seen_43 : decode cX10_seen 43 = .ok (.bipush (-5), 2) := by decide +kernel
theorem dX10_seen_45 : decode cX10_seen 45 = .ok (.ireturn, 1) := by decide +kernel
theorem dX10_seen_46 : decode cX10_seen 46 = .ok (.aload_n 0, 1) := by decide +kernel
theorem dX10_seen_47 : decode cX10_seen 47 = .ok (.getfield 44, 3) := by decide +kernel
theorem dX10_seen_50 : decode cX10_seen 50 = .ok (.iconst 3, 1) := by decide +kernel
theorem dX10_seen_51 : decode cX10_seen 51 = .ok (.aload_n 0, 1) := by decide +kernel
theorem dX10_seen_52 : decode cX10_seen 52 = .ok (.getfield 66, 3) := by decide +kernel
theorem dX10_seen_55 : decode cX10_seen 55 = .ok (.imul, 1) := by decide +kernel
theorem dX10_seen_56 : decode cX10_seen 56 = .ok (.iload_n 1, 1) := by decide +kernel
theorem dX10_seen_57 : decode cX10_seen 57 = .ok (.iastore, 1) := by decide +kernel
theorem dX10_seen_58 : decode cX10_seen 58 = .ok (.aload_n 0, 1) := by decide +kernel
theorem dX10_seen_59 : decode cX10_seen 59 = .ok (.getfield 44, 3) := by decide +kernel
theorem dX10_seen_62 : decode cX10_seen 62 = .ok (.iconst 3, 1) := by decide +kernel
theorem dX10_seen_63 : decode cX10_seen 63 = .ok (.aload_n 0, 1) := by decide +kernel
theorem dX10_seen_64 : decode cX10_seen 64 = .ok (.getfield 66, 3) := by decide +kernel
theorem dX10_seen_67 : decode cX10_seen 67 = .ok (.imul, 1) := by decide +kernel
theorem dX10_seen_68 : decode cX10_seen 68 = .ok (.iconst 1, 1) := by decide +kernel
theorem dX10_seen_69 : decode cX10_seen 69 = .ok (.iadd, 1) := by decide +kernel
theorem dX10_seen_70 : decode cX10_seen 70 = .ok (.iload_n 2, 1) := by decide +kernel
theorem dX10_seen_71 : decode cX10_seen 71 = .ok (.iastore, 1) := by decide +kernel
theorem dX10_seen_72 : decode cX10_seen 72 = .ok (.aload_n 0, 1) := by decide +kernel
theorem dX10_seen_73 : decode cX10_seen 73 = .ok (.getfield 44, 3) := by decide +kernel
theorem dX10_seen_76 : decode cX10_seen 76 = .ok (.iconst 3, 1) := by decide +kernel
theorem dX10_seen_77 : decode cX10_seen 77 = .ok (.aload_n 0, 1) := by decide +kernel
theorem dX10_seen_78 : decode cX10_seen 78 = .ok (.getfield 66, 3) := by decide +kernel
theorem dX10_seen_81 : decode cX10_seen 81 = .ok (.imul, 1) := by decide +kernel
theorem dX10_seen_82 : decode cX10_seen 82 = .ok (.iconst 2, 1) := by decide +kernel
theorem dX10_seen_83 : decode cX10_seen 83 = .ok (.iadd, 1) := by decide +kernel
theorem dX10_seen_84 : decode cX10_seen 84 = .ok (.iload_n 3, 1) := by decide +kernel
theorem dX10_seen_85 : decode cX10_seen 85 = .ok (.iastore, 1) := by decide +kernel
theorem dX10_seen_86 : decode cX10_seen 86 = .ok (.aload_n 0, 1) := by decide +kernel
theorem dX10_seen_87 : decode cX10_seen 87 = .ok (.dup, 1) := by decide +kernel
theorem dX10_seen_88 : decode cX10_seen 88 = .ok (.getfield 66, 3) := by decide +kernel
theorem dX10_seen_91 : decode cX10_seen 91 = .ok (.iconst 1, 1) := by decide +kernel
theorem dX10_seen_92 : decode cX10_seen 92 = .ok (.iadd, 1) := by decide +kernel
theorem dX10_seen_93 : decode cX10_seen 93 = .ok (.putfield 66, 3) := by decide +kernel
theorem dX10_seen_96 : decode cX10_seen 96 = .ok (.aload_n 0, 1) := by decide +kernel
theorem dX10_seen_97 : decode cX10_seen 97 = .ok (.getfield 66, 3) := by decide +kernel
theorem dX10_seen_100 : decode cX10_seen 100 = .ok (.ireturn, 1) := by decide +kernel
theorem dX10_forget_0 : decode cX10_forget 0 = .ok (.aload_n 0, 1) := by decide +kernel
theorem dX10_forget_1 : decode cX10_forget 1 = .ok (.getfield 66, 3) := by decide +kernel
theorem dX10_forget_4 : decode cX10_forget 4 = .ok (.istore_n 1, 1) := by decide +kernel
theorem dX10_forget_5 : decode cX10_forget 5 = .ok (.aload_n 0, 1) := by decide +kernel
theorem dX10_forget_6 : decode cX10_forget 6 = .ok (.iconst 0, 1) := by decide +kernel
theorem dX10_forget_7 : decode cX10_forget 7 = .ok (.putfield 66, 3) := by decide +kernel
theorem dX10_forget_10 : decode cX10_forget 10 = .ok (.iload_n 1, 1) := by decide +kernel
theorem dX10_forget_11 : decode cX10_forget 11 = .ok (.ireturn, 1) := by decide +kernel
set_option maxRecDepth 20000 in
theorem ggX10_isSeenSo_X10_layTried : GoodIn wsX10_isSeenSo wsX10_layTried := goodIn_r _ [8, 9, 10, 11, 7, 12, 3, 13, 14, 15, 16, 17, 18, 19, 20, 21, 22, 23, 24, 25, 26, 27, 28, 29, 30, 31, 32, 33, 34, 35, 36, 37, 38, 39, 40, 41, 42, 43, 44, 45, 46, 47, 48, 49, 50, 51, 52, 53, 54, 55, 56, 57, 58, 59, 60, 61, 62, 63, 64, 65, 66, 67, 68, 69] (by decide +kernel) (by decide +kernel)
set_option maxRecDepth 20000 in
theorem gX10_isSeenSo_X10_layTried : GoodIn wsX10_isSeenSo (wsV RX10 168 RX10 yX10_layTried wsX10_layTried) := goodIn_app (goodIn_of _ (by decide +kernel)) ggX10_isSeenSo_X10_layTried
theorem dX10_isSeenSo_0 : decode cX10_isSeenSo 0 = .ok (.iconst 1, 1) := by decide +kernel
theorem dX10_isSeenSo_1 : decode cX10_isSeenSo 1 = .ok (.istore_n 2, 1) := by decide +kernel
theorem dX10_isSeenSo_2 : decode cX10_isSeenSo 2 = .ok (.iconst 0, 1) := by decide +kernel
theorem dX10_isSeenSo_3 : decode cX10_isSeenSo 3 = .ok (.istore_n 3, 1) := by decide +kernel
theorem dX10_isSeenSo_4 : decode cX10_isSeenSo 4 = .ok (.iload_n 3, 1) := by decide +kernel
theorem dX10_isSeenSo_5 : decode cX10_isSeenSo 5 = .ok (.aload_n 0, 1) := by decide +kernel
theorem dX10_isSeenSo_6 : decode cX10_isSeenSo 6 = .ok (.getfield 66, 3) := by decide +kernel
theorem dX10_isSeenSo_9 : decode cX10_isSeenSo 9 = .ok (.if_icmp .ge 68, 3) := by decide +kernel
theorem dX10_isSeenSo_12 : decode cX10_isSeenSo 12 = .ok (.iload_n 2, 1) := by decide +kernel
theorem dX10_isSeenSo_13 : decode cX10_isSeenSo 13 = .ok (.ifCond .eq 64, 3) := by decide +kernel
theorem dX10_isSeenSo_16 : decode cX10_isSeenSo 16 = .ok (.aload_n 0, 1) := by decide +kernel
theorem dX10_isSeenSo_17 : decode cX10_isSeenSo 17 = .ok (.getfield 44, 3) := by decide +kernel
theorem dX10_isSeenSo_20 : decode cX10_isSeenSo 20 = .ok (.iconst 3, 1) := by decide +kernel
theorem dX10_isSeenSo_21 : decode cX10_isSeenSo 21 = .ok (.iload_n 3, 1) := by decide +kernel
theorem dX10_isSeenSo_22 : decode cX10_isSeenSo 22 = .ok (.imul, 1) := by decide +kernel
theorem dX10_isSeenSo_23 : decode cX10_isSeenSo 23 = .ok (.iaload, 1) := by decide +kernel
theorem dX10_isSeenSo_24 : decode cX10_isSeenSo 24 = .ok (.iload_n 1, 1) := by decide +kernel
theorem dX10_isSeenSo_25 : decode cX10_isSeenSo 25 = .ok (.if_icmp .ne 46, 3) := by decide +kernel
theorem dX10_isSeenSo_28 : decode cX10_isSeenSo 28 = .ok (.aload_n 0, 1) := by decide +kernel
theorem dX10_isSeenSo_29 : decode cX10_isSeenSo 29 = .ok (.aload_n 0, 1) := by decide +kernel
theorem dX10_isSeenSo_30 : decode cX10_isSeenSo 30 = .ok (.getfield 44, 3) := by decide +kernel
theorem dX10_isSeenSo_33 : decode cX10_isSeenSo 33 = .ok (.iconst 3, 1) := by decide +kernel
theorem dX10_isSeenSo_34 : decode cX10_isSeenSo 34 = .ok (.iload_n 3, 1) := by decide +kernel
theorem dX10_isSeenSo_35 : decode cX10_isSeenSo 35 = .ok (.imul, 1) := by decide +kernel
theorem dX10_isSeenSo_36 : decode cX10_isSeenSo 36 = .ok (.iconst 1, 1) := by decide +kernel
theorem dX10_isSeenSo_37 : decode cX10_isSeenSo 37 = .ok (.iadd, 1) := by decide +kernel
theorem dX10_isSeenSo_38 : decode cX10_isSeenSo 38 = .ok (.iaload, 1) := by decide +kernel
theorem dX10_isSeenSo_39 : decode cX10_isSeenSo 39 = .ok (.invokevirtual 168, 3) := by decide +kernel
theorem dX10_isSeenSo_42 : decode cX10_isSeenSo 42 = .ok (.aload_n 0, 1) := by decide +kernel
theorem dX10_isSeenSo_43 : decode cX10_isSeenSo 43 = .ok (.getfield 22, 3) := by decide +kernel
theorem dX10_isSeenSo_46 : decode cX10_isSeenSo 46 = .ok (.sipush 623, 3) := by decide +kernel
theorem dX10_isSeenSo_49 : decode cX10_isSeenSo 49 = .ok (.iload_n 1, 1) := by decide +kernel
theorem dX10_isSeenSo_50 : decode cX10_isSeenSo 50 = .ok (.iadd, 1) := by decide +kernel
theorem dX10_isSeenSo_51 : decode cX10_isSeenSo 51 = .ok (.iaload, 1) := by decide +kernel
theorem dX10_isSeenSo_52 : decode cX10_isSeenSo 52 = .ok (.aload_n 0, 1) := by decide +kernel
theorem dX10_isSeenSo_53 : decode cX10_isSeenSo 53 = .ok (.getfield 44, 3) := by decide +kernel
theorem dX10_isSeenSo_56 : decode cX10_isSeenSo 56 = .ok (.iconst 3, 1) := by decide +kernel
theorem dX10_isSeenSo_57 : decode cX10_isSeenSo 57 = .ok (.iload_n 3, 1) := by decide +kernel
theorem dX10_isSeenSo_58 : decode cX10_isSeenSo 58 = .ok (.imul, 1) := by decide +kernel
theorem dX10_isSeenSo_59 : decode cX10_isSeenSo 59 = .ok (.iconst 2, 1) := by decide +kernel
theorem dX10_isSeenSo_60 : decode cX10_isSeenSo 60 = .ok (.iadd, 1) := by decide +kernel
theorem dX10_isSeenSo_61 : decode cX10_isSeenSo 61 = .ok (.iaload, 1) := by decide +kernel
theorem dX10_isSeenSo_62 : decode cX10_isSeenSo 62 = .ok (.if_icmp .ne 7, 3) := by decide +kernel
theorem dX10_isSeenSo_65 : decode cX10_isSeenSo 65 = .ok (.iconst 1, 1) := by decide +kernel
theorem dX10_isSeenSo_66 : decode cX10_isSeenSo 66 = .ok (.goto 4, 3) := by decide +kernel
theorem dX10_isSeenSo_69 : decode cX10_isSeenSo 69 = .ok (.iconst 0, 1) := by decide +kernel
theorem dX10_isSeenSo_70 : decode cX10_isSeenSo 70 = .ok (.istore_n 2, 1) := by decide +kernel
theorem dX10_isSeenSo_71 : decode cX10_isSeenSo 71 = .ok (.iinc 3 1, 3) := by decide +kernel
theorem dX10_isSeenSo_74 : decode cX10_isSeenSo 74 = .ok (.goto (-70), 3) := by decide +kernel
theorem dX10_isSeenSo_77 : decode cX10_isSeenSo 77 = .ok (.iload_n 2, 1) := by decide +kernel
theorem dX10_isSeenSo_78 : decode cX10_isSeenSo 78 = .ok (.ireturn, 1) := by decide +kernel
set_option maxRecDepth 20000 in
theorem ggX10_tempers_X10_isCouple : GoodIn wsX10_tempers wsX10_isCouple := goodIn_r _ [6, 7, 8, 9, 5, 10, 58, 59, 60, 61, 62, 63, 64, 65, 66, 67, 68, 69, 70, 71, 72, 73, 74, 75, 76, 77, 78, 79, 80] (by decide +kernel) (by decide +kernel)
set_option maxRecDepth 20000 in
theorem gX10_tempers_X10_isCouple : GoodIn wsX10_tempers (wsV RX10 125 RX10 yX10_isCouple wsX10_isCouple) := goodIn_app (goodIn_of _ (by decide +kernel)) ggX10_tempers_X10_isCouple
set_option maxRecDepth 20000 in
theorem ggX10_tempers_X10_isSeenSo : GoodIn wsX10_tempers wsX10_isSeenSo := goodIn_r _ [14, 15, 16, 17, 18, 19, 20, 5, 21, 22, 23, 24, 25, 26, 27, 28, 29, 7, 30, 31, 32, 33, 1, 34, 35, 36, 37, 38, 39, 40, 41, 42, 43, 44, 45, 46, 47, 48, 49, 50, 51, 52, 53, 54, 55, 56, 57, 58, 59, 60, 61, 62, 63, 64, 65, 66, 67, 68, 69, 70, 71, 72, 73, 74, 75, 76, 77, 78, 79, 80] (by decide +kernel) (by decide +kernel)
set_option maxRecDepth 20000 in
theorem gX10_tempers_X10_isSeenSo : GoodIn wsX10_tempers (wsV RX10 183 RX10 yX10_isSeenSo wsX10_isSeenSo) := goodIn_app (goodIn_of _ (by decide +kernel)) ggX10_tempers_X10_isSeenSo
theorem dX10_tempers_0 : decode cX10_tempers 0 = .ok (.aload_n 0, 1) := by decide +kernel
theorem dX10_tempers_1 : decode cX10_tempers 1 = .ok (.iload_n 1, 1) := by decide +kernel
theorem dX10_tempers_2 : decode cX10_tempers 2 = .ok (.invokevirtual 125, 3) := by decide +kernel
theorem dX10_tempers_5 : decode cX10_tempers 5 = .ok (.ifCond .ne 6, 3) := by decide +kernel
theorem dX10_tempers_8 : decode cX10_tempers 8 = .ok (.bipush (-2), 2) := by decide +kernel
theorem dX10_tempers_10 : decode cX10_tempers 10 = .ok (.ireturn, 1) := by decide +kernel
theorem dX10_tempers_11 : decode cX10_tempers 11 = .ok (.aload_n 0, 1) := by decide +kernel
theorem dX10_tempers_12 : decode cX10_tempers 12 = .ok (.getfield 32, 3) := by decide +kernel
theorem dX10_tempers_15 : decode cX10_tempers 15 = .ok (.iload_n 1, 1) := by decide +kernel
theorem dX10_tempers_16 : decode cX10_tempers 16 = .ok (.iaload, 1) := by decide +kernel
theorem dX10_tempers_17 : decode cX10_tempers 17 = .ok (.istore_n 2, 1) := by decide +kernel
theorem dX10_tempers_18 : decode cX10_tempers 18 = .ok (.iconst 0, 1) := by decide +kernel
theorem dX10_tempers_19 : decode cX10_tempers 19 = .ok (.istore_n 3, 1) := by decide +kernel
theorem dX10_tempers_20 : decode cX10_tempers 20 = .ok (.iconst 1, 1) := by decide +kernel
theorem dX10_tempers_21 : decode cX10_tempers 21 = .ok (.istore 4, 2) := by decide +kernel
theorem dX10_tempers_23 : decode cX10_tempers 23 = .ok (.iload 4, 2) := by decide +kernel
theorem dX10_tempers_25 : decode cX10_tempers 25 = .ok (.bipush 10, 2) := by decide +kernel
theorem dX10_tempers_27 : decode cX10_tempers 27 = .ok (.if_icmp .ge 36, 3) := by decide +kernel
theorem dX10_tempers_30 : decode cX10_tempers 30 = .ok (.aload_n 0, 1) := by decide +kernel
theorem dX10_tempers_31 : decode cX10_tempers 31 = .ok (.getfield 32, 3) := by decide +kernel
theorem dX10_tempers_34 : decode cX10_tempers 34 = .ok (.iload_n 1, 1) := by decide +kernel
theorem dX10_tempers_35 : decode cX10_tempers 35 = .ok (.iload 4, 2) := by decide +kernel
theorem dX10_tempers_37 : decode cX10_tempers 37 = .ok (.iastore, 1) := by decide +kernel
theorem dX10_tempers_38 : decode cX10_tempers 38 = .ok (.iload_n 3, 1) := by decide +kernel
theorem dX10_tempers_39 : decode cX10_tempers 39 = .ok (.aload_n 0, 1) := by decide +kernel
theorem dX10_tempers_40 : decode cX10_tempers 40 = .ok (.iload_n 1, 1) := by decide +kernel
theorem dX10_tempers_41 : decode cX10_tempers 41 = .ok (.invokevirtual 183, 3) := by decide +kernel
theorem dX10_tempers_44 : decode cX10_tempers 44 = .ok (.ifCond .eq 10, 3) := by decide +kernel
theorem dX10_tempers_47 : decode cX10_tempers 47 = .ok (.iconst 1, 1) := by decide +kernel
theorem dX10_tempers_48 : decode cX10_tempers 48 = .ok (.iload 4, 2) := by decide +kernel
theorem dX10_tempers_50 : decode cX10_tempers 50 = .ok (.ishl, 1) := by decide +kernel
theorem dX10_tempers_51 : decode cX10_tempers 51 = .ok (.goto 4, 3) := by decide +kernel
theorem dX10_tempers_54 : decode cX10_tempers 54 = .ok (.iconst 0, 1) := by decide +kernel
theorem dX10_tempers_55 : decode cX10_tempers 55 = .ok (.ior, 1) := by decide +kernel
theorem dX10_tempers_56 : decode cX10_tempers 56 = .ok (.istore_n 3, 1) := by decide +kernel
theorem dX10_tempers_57 : decode cX10_tempers 57 = .ok (.iinc 4 1, 3) := by decide +kernel
theorem dX10_tempers_60 : decode cX10_tempers 60 = .ok (.goto (-37), 3) := by decide +kernel
theorem dX10_tempers_63 : decode cX10_tempers 63 = .ok (.aload_n 0, 1) := by decide +kernel
theorem dX10_tempers_64 : decode cX10_tempers 64 = .ok (.getfield 32, 3) := by decide +kernel
theorem dX10_tempers_67 : decode cX10_tempers 67 = .ok (.iload_n 1, 1) := by decide +kernel
theorem dX10_tempers_68 : decode cX10_tempers 68 = .ok (.iload_n 2, 1) := by decide +kernel
theorem dX10_tempers_69 : decode cX10_tempers 69 = .ok (.iastore, 1) := by decide +kernel
theorem dX10_tempers_70 : decode cX10_tempers 70 = .ok (.iload_n 3, 1) := by decide +kernel
theorem dX10_tempers_71 : decode cX10_tempers 71 = .ok (.ireturn, 1) := by decide +kernel
set_option maxRecDepth 20000 in
theorem ggX10_mothers_X10_isCouple : GoodIn wsX10_mothers wsX10_isCouple := goodIn_r _ [5, 6, 7, 8, 4, 9, 52, 53, 54, 55, 56, 57, 58, 59, 60, 61, 62, 63, 64, 65, 66, 67, 68, 69, 70, 71, 72, 73, 74] (by decide +kernel) (by decide +kernel)
set_option maxRecDepth 20000 in
theorem gX10_mothers_X10_isCouple : GoodIn wsX10_mothers (wsV RX10 125 RX10 yX10_isCouple wsX10_isCouple) := goodIn_app (goodIn_of _ (by decide +kernel)) ggX10_mothers_X10_isCouple
set_option maxRecDepth 20000 in
theorem ggX10_mothers_X10_in : GoodIn wsX10_mothers wsX10_in := goodIn_r _ [9] (by decide +kernel) (by decide +kernel)
set_option maxRecDepth 20000 in
theorem gX10_mothers_X10_in : GoodIn wsX10_mothers (va_wsS RX10 69 yX10_in wsX10_in) := goodIn_app (goodIn_of _ (by decide +kernel)) ggX10_mothers_X10_in
set_option maxRecDepth 20000 in
theorem ggX10_mothers_X10_layTried : GoodIn wsX10_mothers wsX10_layTried := goodIn_r _ [13, 14, 15, 16, 4, 17, 18, 19, 20, 21, 22, 6, 23, 24, 25, 26, 27, 28, 29, 30, 31, 32, 33, 34, 35, 36, 37, 38, 39, 40, 41, 42, 43, 44, 45, 46, 47, 48, 49, 50, 51, 52, 53, 54, 55, 56, 57, 58, 59, 60, 61, 62, 63, 64, 65, 66, 67, 68, 69, 70, 71, 72, 73, 74] (by decide +kernel) (by decide +kernel)
set_option maxRecDepth 20000 in
theorem gX10_mothers_X10_layTried : GoodIn wsX10_mothers (wsV RX10 168 RX10 yX10_layTried wsX10_layTried) := goodIn_app (goodIn_of _ (by decide +kernel)) ggX10_mothers_X10_layTried
set_option maxRecDepth 20000 in
theorem ggX10_mothers_X10_has : GoodIn wsX10_mothers wsX10_has := goodIn_r _ [47] (by decide +kernel) (by decide +kernel)
set_option maxRecDepth 20000 in
theorem gX10_mothers_X10_has : GoodIn wsX10_mothers (va_wsS RX10 131 yX10_has wsX10_has) := goodIn_app (goodIn_of _ (by decide +kernel)) ggX10_mothers_X10_has
set_option maxRecDepth 20000 in
theorem ggX10_mothers_X10_strainMore : GoodIn wsX10_mothers wsX10_strainMore := goodIn_r _ [32, 18, 52, 53, 54, 55, 56, 57, 58, 59, 60, 61, 62, 63, 64, 65, 66, 67, 68, 69, 70, 71, 72, 73, 74] (by decide +kernel) (by decide +kernel)
set_option maxRecDepth 20000 in
theorem gX10_mothers_X10_strainMore : GoodIn wsX10_mothers (wsV RX10 141 RX10 yX10_strainMore wsX10_strainMore) := goodIn_app (goodIn_of _ (by decide +kernel)) ggX10_mothers_X10_strainMore
set_option maxRecDepth 20000 in
theorem ggX10_mothers_X10_pass : GoodIn wsX10_mothers wsX10_pass := goodIn_r _ [22, 6, 18, 23, 24, 25, 4, 26, 27, 28, 29, 30, 31, 32, 33, 34, 35, 36, 37, 38, 39, 40, 41, 42, 43, 44, 45, 46, 47, 48, 49, 50, 51, 52, 53, 54, 55, 56, 57, 58, 59, 60, 61, 62, 63, 64, 65, 66, 67, 68, 69, 70, 71, 72, 73, 74] (by decide +kernel) (by decide +kernel)
set_option maxRecDepth 20000 in
theorem gX10_mothers_X10_pass : GoodIn wsX10_mothers (wsV RX10 158 RX10 yX10_pass wsX10_pass) := goodIn_app (goodIn_of _ (by decide +kernel)) ggX10_mothers_X10_pass
theorem dX10_mothers_0 : decode cX10_mothers 0 = .ok (.aload_n 0, 1) := by decide +kernel
theorem dX10_mothers_1 : decode cX10_mothers 1 = .ok (.iload_n 1, 1) := by decide +kernel
theorem dX10_mothers_2 : decode cX10_mothers 2 = .ok (.invokevirtual 125, 3) := by decide +kernel
theorem dX10_mothers_5 : decode cX10_mothers 5 = .ok (.ifCond .ne 6, 3) := by decide +kernel
theorem dX10_mothers_8 : decode cX10_mothers 8 = .ok (.bipush (-2), 2) := by decide +kernel
theorem dX10_mothers_10 : decode cX10_mothers 10 = .ok (.ireturn, 1) := by decide +kernel
theorem dX10_mothers_11 : decode cX10_mothers 11 = .ok (.iload_n 2, 1) := by decide +kernel
theorem dX10_mothers_12 : decode cX10_mothers 12 = .ok (.iconst 0, 1) := by decide +kernel
theorem dX10_mothers_13 : decode cX10_mothers 13 = .ok (.bipush 6, 2) := by decide +kernel
theorem dX10_mothers_15 : decode cX10_mothers 15 = .ok (.invokestatic 69, 3) := by decide +kernel
theorem dX10_mothers_18 : decode cX10_mothers 18 = .ok (.ifCond .eq 23, 3) := by decide +kernel
theorem dX10_mothers_21 : decode cX10_mothers 21 = .ok (.iload_n 3, 1) := by decide +kernel
theorem dX10_mothers_22 : decode cX10_mothers 22 = .ok (.iconst 0, 1) := by decide +kernel
theorem dX10_mothers_23 : decode cX10_mothers 23 = .ok (.bipush 10, 2) := by decide +kernel
theorem dX10_mothers_25 : decode cX10_mothers 25 = .ok (.invokestatic 69, 3) := by decide +kernel
theorem dX10_mothers_28 : decode cX10_mothers 28 = .ok (.ifCond .eq 13, 3) := by decide +kernel
theorem dX10_mothers_31 : decode cX10_mothers 31 = .ok (.iload 4, 2) := by decide +kernel
theorem dX10_mothers_33 : decode cX10_mothers 33 = .ok (.iconst 0, 1) := by decide +kernel
theorem dX10_mothers_34 : decode cX10_mothers 34 = .ok (.iconst 1, 1) := by decide +kernel
theorem dX10_mothers_35 : decode cX10_mothers 35 = .ok (.invokestatic 69, 3) := by decide +kernel
theorem dX10_mothers_38 : decode cX10_mothers 38 = .ok (.ifCond .ne 6, 3) := by decide +kernel
theorem dX10_mothers_41 : decode cX10_mothers 41 = .ok (.bipush (-3), 2) := by decide +kernel
theorem dX10_mothers_43 : decode cX10_mothers 43 = .ok (.ireturn, 1) := by decide +kernel
theorem dX10_mothers_44 : decode cX10_mothers 44 = .ok (.iconst 0, 1) := by decide +kernel
theorem dX10_mothers_45 : decode cX10_mothers 45 = .ok (.istore 5, 2) := by decide +kernel
theorem dX10_mothers_47 : decode cX10_mothers 47 = .ok (.iconst 0, 1) := by decide +kernel
theorem dX10_mothers_48 : decode cX10_mothers 48 = .ok (.istore 6, 2) := by decide +kernel
theorem dX10_mothers_50 : decode cX10_mothers 50 = .ok (.iconst 0, 1) := by decide +kernel
theorem dX10_mothers_51 : decode cX10_mothers 51 = .ok (.istore 7, 2) := by decide +kernel
theorem dX10_mothers_53 : decode cX10_mothers 53 = .ok (.iload 7, 2) := by decide +kernel
theorem dX10_mothers_55 : decode cX10_mothers 55 = .ok (.iconst 1, 1) := by decide +kernel
theorem dX10_mothers_56 : decode cX10_mothers 56 = .ok (.iload_n 2, 1) := by decide +kernel
theorem dX10_mothers_57 : decode cX10_mothers 57 = .ok (.ishl, 1) := by decide +kernel
theorem dX10_mothers_58 : decode cX10_mothers 58 = .ok (.if_icmp .ge 131, 3) := by decide +kernel
theorem dX10_mothers_61 : decode cX10_mothers 61 = .ok (.iconst 1, 1) := by decide +kernel
theorem dX10_mothers_62 : decode cX10_mothers 62 = .ok (.istore 8, 2) := by decide +kernel
theorem dX10_mothers_64 : decode cX10_mothers 64 = .ok (.iconst 0, 1) := by decide +kernel
theorem dX10_mothers_65 : decode cX10_mothers 65 = .ok (.istore 9, 2) := by decide +kernel
theorem dX10_mothers_67 : decode cX10_mothers 67 = .ok (.aload_n 0, 1) := by decide +kernel
theorem dX10_mothers_68 : decode cX10_mothers 68 = .ok (.iconst 0, 1) := by decide +kernel
theorem dX10_mothers_69 : decode cX10_mothers 69 = .ok (.invokevirtual 168, 3) := by decide +kernel
theorem dX10_mothers_72 : decode cX10_mothers 72 = .ok (.iconst 0, 1) := by decide +kernel
theorem dX10_mothers_73 : decode cX10_mothers 73 = .ok (.istore 10, 2) := by decide +kernel
theorem dX10_mothers_75 : decode cX10_mothers 75 = .ok (.iload 10, 2) := by decide +kernel
theorem dX10_mothers_77 : decode cX10_mothers 77 = .ok (.iload_n 2, 1) := by decide +kernel
theorem dX10_mothers_78 : decode cX10_mothers 78 = .ok (.if_icmp .ge 82, 3) := by decide +kernel
theorem dX10_mothers_81 : decode cX10_mothers 81 = .ok (.iload 8, 2) := by decide +kernel
theorem dX10_mothers_83 : decode cX10_mothers 83 = .ok (.iload 7, 2) := by decide +kernel
theorem dX10_mothers_85 : decode cX10_mothers 85 = .ok (.iload 10, 2) := by decide +kernel
theorem dX10_mothers_87 : decode cX10_mothers 87 = .ok (.invokestatic 131, 3) := by decide +kernel
theorem dX10_mothers_90 : decode cX10_mothers 90 = .ok (.ifCond .eq 7, 3) := by decide +kernel
theorem dX10_mothers_93 : decode cX10_mothers 93 = .ok (.iload_n 3, 1) := by decide +kernel
theorem dX10_mothers_94 : decode cX10_mothers 94 = .ok (.goto 7, 3) := by decide +kernel
theorem dX10_mothers_97 : decode cX10_mothers 97 = .ok (.bipush 10, 2) := by decide +kernel
theorem dX10_mothers_99 : decode cX10_mothers 99 = .ok (.iload_n 3, 1) := by decide +kernel
theorem dX10_mothers_100 : decode cX10_mothers 100 = .ok (.isub, 1) := by decide +kernel
theorem dX10_mothers_101 : decode cX10_mothers 101 = .ok (.imul, 1) := by decide +kernel
theorem dX10_mothers_102 : decode cX10_mothers 102 = .ok (.istore 8, 2) := by decide +kernel
theorem dX10_mothers_104 : decode cX10_mothers 104 = .ok (.aload_n 0, 1) := by decide +kernel
theorem dX10_mothers_105 : decode cX10_mothers 105 = .ok (.sipush 616, 3) := by decide +kernel
theorem dX10_mothers_108 : decode cX10_mothers 108 = .ok (.iload_n 1, 1) := by decide +kernel
theorem dX10_mothers_109 : decode cX10_mothers 109 = .ok (.iload 7, 2) := by decide +kernel
theorem dX10_mothers_111 : decode cX10_mothers 111 = .ok (.iload 10, 2) := by decide +kernel
theorem dX10_mothers_113 : decode cX10_mothers 113 = .ok (.invokestatic 131, 3) := by decide +kernel
theorem dX10_mothers_116 : decode cX10_mothers 116 = .ok (.ifCond .eq 8, 3) := by decide +kernel
theorem dX10_mothers_119 : decode cX10_mothers 119 = .ok (.bipush 10, 2) := by decide +kernel
theorem dX10_mothers_121 : decode cX10_mothers 121 = .ok (.goto 4, 3) := by decide +kernel
theorem dX10_mothers_124 : decode cX10_mothers 124 = .ok (.iconst 0, 1) := by decide +kernel
theorem dX10_mothers_125 : decode cX10_mothers 125 = .ok (.invokevirtual 141, 3) := by decide +kernel
theorem dX10_mothers_128 : decode cX10_mothers 128 = .ok (.aload_n 0, 1) := by decide +kernel
theorem dX10_mothers_129 : decode cX10_mothers 129 = .ok (.sipush 616, 3) := by decide +kernel
theorem dX10_mothers_132 : decode cX10_mothers 132 = .ok (.invokevirtual 158, 3) := by decide +kernel
theorem dX10_mothers_135 : decode cX10_mothers 135 = .ok (.iload_n 1, 1) := by decide +kernel
theorem dX10_mothers_136 : decode cX10_mothers 136 = .ok (.invokestatic 131, 3) := by decide +kernel
theorem dX10_mothers_139 : decode cX10_mothers 139 = .ok (.ifCond .ne 8, 3) := by decide +kernel
theorem dX10_mothers_142 : decode cX10_mothers 142 = .ok (.iload 9, 2) := by decide +kernel
theorem dX10_mothers_144 : decode cX10_mothers 144 = .ok (.ifCond .eq 7, 3) := by decide +kernel
theorem dX10_mothers_147 : decode cX10_mothers 147 = .ok (.iconst 1, 1) := by decide +kernel
theorem dX10_mothers_148 : decode cX10_mothers 148 = .ok (.goto 4, 3) := by decide +kernel
theorem dX10_mothers_151 : decode cX10_mothers 151 = .ok (.iconst 0, 1) := by decide +kernel
theorem dX10_mothers_152 : decode cX10_mothers 152 = .ok (.istore 9, 2) := by decide +kernel
theorem dX10_mothers_154 : decode cX10_mothers 154 = .ok (.iinc 10 1, 3) := by decide +kernel
theorem dX10_mothers_157 : decode cX10_mothers 157 = .ok (.goto (-82), 3) := by decide +kernel
theorem dX10_mothers_160 : decode cX10_mothers 160 = .ok (.iload 5, 2) := by decide +kernel
theorem dX10_mothers_162 : decode cX10_mothers 162 = .ok (.iload 9, 2) := by decide +kernel
theorem dX10_mothers_164 : decode cX10_mothers 164 = .ok (.ifCond .eq 8, 3) := by decide +kernel
theorem dX10_mothers_167 : decode cX10_mothers 167 = .ok (.iload 8, 2) := by decide +kernel
theorem dX10_mothers_169 : decode cX10_mothers 169 = .ok (.goto 4, 3) := by decide +kernel
theorem dX10_mothers_172 : decode cX10_mothers 172 = .ok (.iconst 0, 1) := by decide +kernel
theorem dX10_mothers_173 : decode cX10_mothers 173 = .ok (.iadd, 1) := by decide +kernel
theorem dX10_mothers_174 : decode cX10_mothers 174 = .ok (.istore 5, 2) := by decide +kernel
theorem dX10_mothers_176 : decode cX10_mothers 176 = .ok (.iload 6, 2) := by decide +kernel
theorem dX10_mothers_178 : decode cX10_mothers 178 = .ok (.iload 8, 2) := by decide +kernel
theorem dX10_mothers_180 : decode cX10_mothers 180 = .ok (.iadd, 1) := by decide +kernel
theorem dX10_mothers_181 : decode cX10_mothers 181 = .ok (.istore 6, 2) := by decide +kernel
theorem dX10_mothers_183 : decode cX10_mothers 183 = .ok (.iinc 7 1, 3) := by decide +kernel
theorem dX10_mothers_186 : decode cX10_mothers 186 = .ok (.goto (-133), 3) := by decide +kernel
theorem dX10_mothers_189 : decode cX10_mothers 189 = .ok (.iload 5, 2) := by decide +kernel
theorem dX10_mothers_191 : decode cX10_mothers 191 = .ok (.istore 7, 2) := by decide +kernel
theorem dX10_mothers_193 : decode cX10_mothers 193 = .ok (.iload 6, 2) := by decide +kernel
theorem dX10_mothers_195 : decode cX10_mothers 195 = .ok (.istore 8, 2) := by decide +kernel
theorem dX10_mothers_197 : decode cX10_mothers 197 = .ok (.iload 8, 2) := by decide +kernel
theorem dX10_mothers_199 : decode cX10_mothers 199 = .ok (.ifCond .eq 21, 3) := by decide +kernel
theorem dX10_mothers_202 : decode cX10_mothers 202 = .ok (.iload 7, 2) := by decide +kernel
theorem dX10_mothers_204 : decode cX10_mothers 204 = .ok (.iload 8, 2) := by decide +kernel
theorem dX10_mothers_206 : decode cX10_mothers 206 = .ok (.irem, 1) := by decide +kernel
theorem dX10_mothers_207 : decode cX10_mothers 207 = .ok (.istore 9, 2) := by decide +kernel
theorem dX10_mothers_209 : decode cX10_mothers 209 = .ok (.iload 8, 2) := by decide +kernel
theorem dX10_mothers_211 : decode cX10_mothers 211 = .ok (.istore 7, 2) := by decide +kernel
theorem dX10_mothers_213 : decode cX10_mothers 213 = .ok (.iload 9, 2) := by decide +kernel
theorem dX10_mothers_215 : decode cX10_mothers 215 = .ok (.istore 8, 2) := by decide +kernel
theorem dX10_mothers_217 : decode cX10_mothers 217 = .ok (.goto (-20), 3) := by decide +kernel
theorem dX10_mothers_220 : decode cX10_mothers 220 = .ok (.iload 4, 2) := by decide +kernel
theorem dX10_mothers_222 : decode cX10_mothers 222 = .ok (.ifCond .ne 11, 3) := by decide +kernel
theorem dX10_mothers_225 : decode cX10_mothers 225 = .ok (.iload 5, 2) := by decide +kernel
theorem dX10_mothers_227 : decode cX10_mothers 227 = .ok (.iload 7, 2) := by decide +kernel
theorem dX10_mothers_229 : decode cX10_mothers 229 = .ok (.idiv, 1) := by decide +kernel
theorem dX10_mothers_230 : decode cX10_mothers 230 = .ok (.goto 8, 3) := by decide +kernel
theorem dX10_mothers_233 : decode cX10_mothers 233 = .ok (.iload 6, 2) := by decide +kernel
theorem dX10_mothers_235 : decode cX10_mothers 235 = .ok (.iload 7, 2) := by decide +kernel
theorem dX10_mothers_237 : decode cX10_mothers 237 = .ok (.idiv, 1) := by decide +kernel
theorem dX10_mothers_238 : decode cX10_mothers 238 = .ok (.ireturn, 1) := by decide +kernel
set_option maxRecDepth 20000 in
theorem ggX10_count_X10_balanceOf : GoodIn wsX10_count wsX10_balanceOf := goodIn_r _ [11, 12, 13, 14, 10, 15, 1, 2, 16, 17, 18, 19, 20, 21, 22, 23, 24, 25, 26, 27, 28, 29, 30, 31, 32, 33, 34, 35, 36, 37, 38] (by decide +kernel) (by decide +kernel)
set_option maxRecDepth 20000 in
theorem gX10_count_X10_balanceOf : GoodIn wsX10_count (wsV RX10 172 RX10 yX10_balanceOf wsX10_balanceOf) := goodIn_app (goodIn_of _ (by decide +kernel)) ggX10_count_X10_balanceOf
set_option maxRecDepth 20000 in
theorem ggX10_count_X10_sumOf : GoodIn wsX10_count wsX10_sumOf := goodIn_r _ [15, 1, 2, 16, 17, 18, 19, 20, 21, 22, 23, 24, 25, 26, 27, 28, 29, 30, 31, 32, 33, 34, 35, 36, 37, 38] (by decide +kernel) (by decide +kernel)
set_option maxRecDepth 20000 in
theorem gX10_count_X10_sumOf : GoodIn wsX10_count (wsV RX10 165 RX10 yX10_sumOf wsX10_sumOf) := goodIn_app (goodIn_of _ (by decide +kernel)) ggX10_count_X10_sumOf
theorem dX10_count_0 : decode cX10_count 0 = .ok (.iload_n 1, 1) := by decide +kernel
theorem dX10_count_1 : decode cX10_count 1 = .ok (.tableswitch 111 0 8 #[51, 56, 63, 72, 80, 88, 96, 101, 106], 51) := by decide +kernel
theorem dX10_count_52 : decode cX10_count 52 = .ok (.aload_n 0, 1) := by decide +kernel
theorem dX10_count_53 : decode cX10_count 53 = .ok (.getfield 59, 3) := by decide +kernel
theorem dX10_count_56 : decode cX10_count 56 = .ok (.ireturn, 1) := by decide +kernel
theorem dX10_count_57 : decode cX10_count 57 = .ok (.aload_n 0, 1) := by decide +kernel
theorem dX10_count_58 : decode cX10_count 58 = .ok (.getfield 22, 3) := by decide +kernel
theorem dX10_count_61 : decode cX10_count 61 = .ok (.iconst 0, 1) := by decide +kernel
theorem dX10_count_62 : decode cX10_count 62 = .ok (.iaload, 1) := by decide +kernel
theorem dX10_count_63 : decode cX10_count 63 = .ok (.ireturn, 1) := by decide +kernel
theorem dX10_count_64 : decode cX10_count 64 = .ok (.aload_n 0, 1) := by decide +kernel
theorem dX10_count_65 : decode cX10_count 65 = .ok (.iconst 0, 1) := by decide +kernel
theorem dX10_count_66 : decode cX10_count 66 = .ok (.invokevirtual 172, 3) := by decide +kernel
theorem dX10_count_69 : decode cX10_count 69 = .ok (.ldc 175, 2) := by decide +kernel
theorem dX10_count_71 : decode cX10_count 71 = .ok (.iadd, 1) := by decide +kernel
theorem dX10_count_72 : decode cX10_count 72 = .ok (.ireturn, 1) := by decide +kernel
theorem dX10_count_73 : decode cX10_count 73 = .ok (.aload_n 0, 1) := by decide +kernel
theorem dX10_count_74 : decode cX10_count 74 = .ok (.iconst 0, 1) := by decide +kernel
theorem dX10_count_75 : decode cX10_count 75 = .ok (.bipush 20, 2) := by decide +kernel
theorem dX10_count_77 : decode cX10_count 77 = .ok (.invokevirtual 165, 3) := by decide +kernel
theorem dX10_count_80 : decode cX10_count 80 = .ok (.ireturn, 1) := by decide +kernel
theorem dX10_count_81 : decode cX10_count 81 = .ok (.aload_n 0, 1) := by decide +kernel
theorem dX10_count_82 : decode cX10_count 82 = .ok (.iconst 0, 1) := by decide +kernel
theorem dX10_count_83 : decode cX10_count 83 = .ok (.bipush 26, 2) := by decide +kernel
theorem dX10_count_85 : decode cX10_count 85 = .ok (.invokevirtual 165, 3) := by decide +kernel
theorem dX10_count_88 : decode cX10_count 88 = .ok (.ireturn, 1) := by decide +kernel
theorem dX10_count_89 : decode cX10_count 89 = .ok (.aload_n 0, 1) := by decide +kernel
theorem dX10_count_90 : decode cX10_count 90 = .ok (.getfield 22, 3) := by decide +kernel
theorem dX10_count_93 : decode cX10_count 93 = .ok (.bipush 19, 2) := by decide +kernel
theorem dX10_count_95 : decode cX10_count 95 = .ok (.iaload, 1) := by decide +kernel
theorem dX10_count_96 : decode cX10_count 96 = .ok (.ireturn, 1) := by decide +kernel
theorem dX10_count_97 : decode cX10_count 97 = .ok (.aload_n 0, 1) := by decide +kernel
theorem dX10_count_98 : decode cX10_count 98 = .ok (.getfield 66, 3) := by decide +kernel
theorem dX10_count_101 : decode cX10_count 101 = .ok (.ireturn, 1) := by decide +kernel
theorem dX10_count_102 : decode cX10_count 102 = .ok (.aload_n 0, 1) := by decide +kernel
theorem dX10_count_103 : decode cX10_count 103 = .ok (.getfield 63, 3) := by decide +kernel
theorem dX10_count_106 : decode cX10_count 106 = .ok (.ireturn, 1) := by decide +kernel
theorem dX10_count_107 : decode cX10_count 107 = .ok (.aload_n 0, 1) := by decide +kernel
theorem dX10_count_108 : decode cX10_count 108 = .ok (.getfield 73, 3) := by decide +kernel
theorem dX10_count_111 : decode cX10_count 111 = .ok (.ireturn, 1) := by decide +kernel
theorem dX10_count_112 : decode cX10_count 112 = .ok (.bipush (-3), 2) := by decide +kernel
theorem dX10_count_114 : decode cX10_count 114 = .ok (.ireturn, 1) := by decide +kernel
theorem dJ6_bitCount_0f7a4_0 : decode cJ6_bitCount_0f7a4 0 = .ok (.iload_n 0, 1) := by decide +kernel
theorem dJ6_bitCount_0f7a4_1 : decode cJ6_bitCount_0f7a4 1 = .ok (.iload_n 0, 1) := by decide +kernel
theorem dJ6_bitCount_0f7a4_2 : decode cJ6_bitCount_0f7a4 2 = .ok (.iconst 1, 1) := by decide +kernel
theorem dJ6_bitCount_0f7a4_3 : decode cJ6_bitCount_0f7a4 3 = .ok (.iushr, 1) := by decide +kernel
theorem dJ6_bitCount_0f7a4_4 : decode cJ6_bitCount_0f7a4 4 = .ok (.ldc_w 265, 3) := by decide +kernel
theorem dJ6_bitCount_0f7a4_7 : decode cJ6_bitCount_0f7a4 7 = .ok (.iand, 1) := by decide +kernel
theorem dJ6_bitCount_0f7a4_8 : decode cJ6_bitCount_0f7a4 8 = .ok (.isub, 1) := by decide +kernel
theorem dJ6_bitCount_0f7a4_9 : decode cJ6_bitCount_0f7a4 9 = .ok (.istore_n 0, 1) := by decide +kernel
theorem dJ6_bitCount_0f7a4_10 : decode cJ6_bitCount_0f7a4 10 = .ok (.iload_n 0, 1) := by decide +kernel
theorem dJ6_bitCount_0f7a4_11 : decode cJ6_bitCount_0f7a4 11 = .ok (.ldc_w 266, 3) := by decide +kernel
theorem dJ6_bitCount_0f7a4_14 : decode cJ6_bitCount_0f7a4 14 = .ok (.iand, 1) := by decide +kernel
theorem dJ6_bitCount_0f7a4_15 : decode cJ6_bitCount_0f7a4 15 = .ok (.iload_n 0, 1) := by decide +kernel
theorem dJ6_bitCount_0f7a4_16 : decode cJ6_bitCount_0f7a4 16 = .ok (.iconst 2, 1) := by decide +kernel
theorem dJ6_bitCount_0f7a4_17 : decode cJ6_bitCount_0f7a4 17 = .ok (.iushr, 1) := by decide +kernel
theorem dJ6_bitCount_0f7a4_18 : decode cJ6_bitCount_0f7a4 18 = .ok (.ldc_w 266, 3) := by decide +kernel
theorem dJ6_bitCount_0f7a4_21 : decode cJ6_bitCount_0f7a4 21 = .ok (.iand, 1) := by decide +kernel
theorem dJ6_bitCount_0f7a4_22 : decode cJ6_bitCount_0f7a4 22 = .ok (.iadd, 1) := by decide +kernel
theorem dJ6_bitCount_0f7a4_23 : decode cJ6_bitCount_0f7a4 23 = .ok (.istore_n 0, 1) := by decide +kernel
theorem dJ6_bitCount_0f7a4_24 : decode cJ6_bitCount_0f7a4 24 = .ok (.iload_n 0, 1) := by decide +kernel
theorem dJ6_bitCount_0f7a4_25 : decode cJ6_bitCount_0f7a4 25 = .ok (.iload_n 0, 1) := by decide +kernel
theorem dJ6_bitCount_0f7a4_26 : decode cJ6_bitCount_0f7a4 26 = .ok (.iconst 4, 1) := by decide +kernel
theorem dJ6_bitCount_0f7a4_27 : decode cJ6_bitCount_0f7a4 27 = .ok (.iushr, 1) := by decide +kernel
theorem dJ6_bitCount_0f7a4_28 : decode cJ6_bitCount_0f7a4 28 = .ok (.iadd, 1) := by decide +kernel
theorem dJ6_bitCount_0f7a4_29 : decode cJ6_bitCount_0f7a4 29 = .ok (.ldc_w 267, 3) := by decide +kernel
theorem dJ6_bitCount_0f7a4_32 : decode cJ6_bitCount_0f7a4 32 = .ok (.iand, 1) := by decide +kernel
theorem dJ6_bitCount_0f7a4_33 : decode cJ6_bitCount_0f7a4 33 = .ok (.istore_n 0, 1) := by decide +kernel
theorem dJ6_bitCount_0f7a4_34 : decode cJ6_bitCount_0f7a4 34 = .ok (.iload_n 0, 1) := by decide +kernel
theorem dJ6_bitCount_0f7a4_35 : decode cJ6_bitCount_0f7a4 35 = .ok (.iload_n 0, 1) := by decide +kernel
theorem dJ6_bitCount_0f7a4_36 : decode cJ6_bitCount_0f7a4 36 = .ok (.bipush 8, 2) := by decide +kernel
theorem dJ6_bitCount_0f7a4_38 : decode cJ6_bitCount_0f7a4 38 = .ok (.iushr, 1) := by decide +kernel
theorem dJ6_bitCount_0f7a4_39 : decode cJ6_bitCount_0f7a4 39 = .ok (.iadd, 1) := by decide +kernel
theorem dJ6_bitCount_0f7a4_40 : decode cJ6_bitCount_0f7a4 40 = .ok (.istore_n 0, 1) := by decide +kernel
theorem dJ6_bitCount_0f7a4_41 : decode cJ6_bitCount_0f7a4 41 = .ok (.iload_n 0, 1) := by decide +kernel
theorem dJ6_bitCount_0f7a4_42 : decode cJ6_bitCount_0f7a4 42 = .ok (.iload_n 0, 1) := by decide +kernel
theorem dJ6_bitCount_0f7a4_43 : decode cJ6_bitCount_0f7a4 43 = .ok (.bipush 16, 2) := by decide +kernel
theorem dJ6_bitCount_0f7a4_45 : decode cJ6_bitCount_0f7a4 45 = .ok (.iushr, 1) := by decide +kernel
theorem dJ6_bitCount_0f7a4_46 : decode cJ6_bitCount_0f7a4 46 = .ok (.iadd, 1) := by decide +kernel
theorem dJ6_bitCount_0f7a4_47 : decode cJ6_bitCount_0f7a4 47 = .ok (.istore_n 0, 1) := by decide +kernel
theorem dJ6_bitCount_0f7a4_48 : decode cJ6_bitCount_0f7a4 48 = .ok (.iload_n 0, 1) := by decide +kernel
theorem dJ6_bitCount_0f7a4_49 : decode cJ6_bitCount_0f7a4 49 = .ok (.bipush 63, 2) := by decide +kernel
theorem dJ6_bitCount_0f7a4_51 : decode cJ6_bitCount_0f7a4 51 = .ok (.iand, 1) := by decide +kernel
theorem dJ6_bitCount_0f7a4_52 : decode cJ6_bitCount_0f7a4 52 = .ok (.ireturn, 1) := by decide +kernel
theorem dJ9_floorMod_7cf53_0 : decode cJ9_floorMod_7cf53 0 = .ok (.iload_n 0, 1) := by decide +kernel
theorem dJ9_floorMod_7cf53_1 : decode cJ9_floorMod_7cf53 1 = .ok (.iload_n 1, 1) := by decide +kernel
theorem dJ9_floorMod_7cf53_2 : decode cJ9_floorMod_7cf53 2 = .ok (.irem, 1) := by decide +kernel
theorem dJ9_floorMod_7cf53_3 : decode cJ9_floorMod_7cf53 3 = .ok (.istore_n 2, 1) := by decide +kernel
theorem dJ9_floorMod_7cf53_4 : decode cJ9_floorMod_7cf53 4 = .ok (.iload_n 0, 1) := by decide +kernel
theorem dJ9_floorMod_7cf53_5 : decode cJ9_floorMod_7cf53 5 = .ok (.iload_n 1, 1) := by decide +kernel
theorem dJ9_floorMod_7cf53_6 : decode cJ9_floorMod_7cf53 6 = .ok (.ixor, 1) := by decide +kernel
theorem dJ9_floorMod_7cf53_7 : decode cJ9_floorMod_7cf53 7 = .ok (.ifCond .ge 11, 3) := by decide +kernel
theorem dJ9_floorMod_7cf53_10 : decode cJ9_floorMod_7cf53 10 = .ok (.iload_n 2, 1) := by decide +kernel
theorem dJ9_floorMod_7cf53_11 : decode cJ9_floorMod_7cf53 11 = .ok (.ifCond .eq 7, 3) := by decide +kernel
theorem dJ9_floorMod_7cf53_14 : decode cJ9_floorMod_7cf53 14 = .ok (.iload_n 2, 1) := by decide +kernel
theorem dJ9_floorMod_7cf53_15 : decode cJ9_floorMod_7cf53 15 = .ok (.iload_n 1, 1) := by decide +kernel
theorem dJ9_floorMod_7cf53_16 : decode cJ9_floorMod_7cf53 16 = .ok (.iadd, 1) := by decide +kernel
theorem dJ9_floorMod_7cf53_17 : decode cJ9_floorMod_7cf53 17 = .ok (.ireturn, 1) := by decide +kernel
theorem dJ9_floorMod_7cf53_18 : decode cJ9_floorMod_7cf53 18 = .ok (.iload_n 2, 1) := by decide +kernel
theorem dJ9_floorMod_7cf53_19 : decode cJ9_floorMod_7cf53 19 = .ok (.ireturn, 1) := by decide +kernel
theorem dJ9_max_7cf53_0 : decode cJ9_max_7cf53 0 = .ok (.iload_n 0, 1) := by decide +kernel
theorem dJ9_max_7cf53_1 : decode cJ9_max_7cf53 1 = .ok (.iload_n 1, 1) := by decide +kernel
theorem dJ9_max_7cf53_2 : decode cJ9_max_7cf53 2 = .ok (.if_icmp .lt 7, 3) := by decide +kernel
theorem dJ9_max_7cf53_5 : decode cJ9_max_7cf53 5 = .ok (.iload_n 0, 1) := by decide +kernel
theorem dJ9_max_7cf53_6 : decode cJ9_max_7cf53 6 = .ok (.goto 4, 3) := by decide +kernel
theorem dJ9_max_7cf53_9 : decode cJ9_max_7cf53 9 = .ok (.iload_n 1, 1) := by decide +kernel
theorem dJ9_max_7cf53_10 : decode cJ9_max_7cf53 10 = .ok (.ireturn, 1) := by decide +kernel
theorem dJ9_min_7cf53_0 : decode cJ9_min_7cf53 0 = .ok (.iload_n 0, 1) := by decide +kernel
theorem dJ9_min_7cf53_1 : decode cJ9_min_7cf53 1 = .ok (.iload_n 1, 1) := by decide +kernel
theorem dJ9_min_7cf53_2 : decode cJ9_min_7cf53 2 = .ok (.if_icmp .gt 7, 3) := by decide +kernel
theorem dJ9_min_7cf53_5 : decode cJ9_min_7cf53 5 = .ok (.iload_n 0, 1) := by decide +kernel
theorem dJ9_min_7cf53_6 : decode cJ9_min_7cf53 6 = .ok (.goto 4, 3) := by decide +kernel
theorem dJ9_min_7cf53_9 : decode cJ9_min_7cf53 9 = .ok (.iload_n 1, 1) := by decide +kernel
theorem dJ9_min_7cf53_10 : decode cJ9_min_7cf53 10 = .ok (.ireturn, 1) := by decide +kernel
set_option maxRecDepth 20000 in
theorem ggJ0_length_8abf5_J0_coder_7d493 : GoodIn wsJ0_length_8abf5 wsJ0_coder_7d493 := goodIn_r _ [6, 7, 8] (by decide +kernel) (by decide +kernel)
set_option maxRecDepth 20000 in
theorem gJ0_length_8abf5_J0_coder_7d493 : GoodIn wsJ0_length_8abf5 (wsV RJ0 335 RJ0 yJ0_coder_7d493 wsJ0_coder_7d493) := goodIn_app (goodIn_of _ (by decide +kernel)) ggJ0_length_8abf5_J0_coder_7d493
theorem dJ0_length_8abf5_0 : decode cJ0_length_8abf5 0 = .ok (.aload_n 0, 1) := by decide +kernel
theorem dJ0_length_8abf5_1 : decode cJ0_length_8abf5 1 = .ok (.getfield 9, 3) := by decide +kernel
theorem dJ0_length_8abf5_4 : decode cJ0_length_8abf5 4 = .ok (.arraylength, 1) := by decide +kernel
theorem dJ0_length_8abf5_5 : decode cJ0_length_8abf5 5 = .ok (.aload_n 0, 1) := by decide +kernel
theorem dJ0_length_8abf5_6 : decode cJ0_length_8abf5 6 = .ok (.invokevirtual 335, 3) := by decide +kernel
theorem dJ0_length_8abf5_9 : decode cJ0_length_8abf5 9 = .ok (.ishr, 1) := by decide +kernel
theorem dJ0_length_8abf5_10 : decode cJ0_length_8abf5 10 = .ok (.ireturn, 1) := by decide +kernel
set_option maxRecDepth 20000 in
theorem ggJ0_charAt_5068e_J0_isLatin1_aae02 : GoodIn wsJ0_charAt_5068e wsJ0_isLatin1_aae02 := goodIn_r _ [6, 7, 8] (by decide +kernel) (by decide +kernel)
set_option maxRecDepth 20000 in
theorem gJ0_charAt_5068e_J0_isLatin1_aae02 : GoodIn wsJ0_charAt_5068e (wsV RJ0 492 RJ0 yJ0_isLatin1_aae02 wsJ0_isLatin1_aae02) := goodIn_app (goodIn_of _ (by decide +kernel)) ggJ0_charAt_5068e_J0_isLatin1_aae02
set_option maxRecDepth 20000 in
theorem ggJ0_charAt_5068e_J1_charAt_3b067 : GoodIn wsJ0_charAt_5068e wsJ1_charAt_3b067 := goodIn_r _ [12, 13, 14, 5, 15, 16, 17, 18, 19, 20] (by decide +kernel) (by decide +kernel)
set_option maxRecDepth 20000 in
theorem gJ0_charAt_5068e_J1_charAt_3b067 : GoodIn wsJ0_charAt_5068e (va_wsS RJ0 495 yJ1_charAt_3b067 wsJ1_charAt_3b067) := goodIn_app (goodIn_of _ (by decide +kernel)) ggJ0_charAt_5068e_J1_charAt_3b067
set_option maxRecDepth 20000 in
theorem ggJ0_charAt_5068e_J2_charAt_3b067 : GoodIn wsJ0_charAt_5068e wsJ2_charAt_3b067 := goodIn_r _ [24, 25, 26, 23, 27, 28, 29, 30, 31, 14, 5, 15, 16, 17, 18, 19, 20, 32, 33, 34, 35, 36, 37] (by decide +kernel) (by decide +kernel)
set_option maxRecDepth 20000 in
theorem gJ0_charAt_5068e_J2_charAt_3b067 : GoodIn wsJ0_charAt_5068e (va_wsS RJ0 498 yJ2_charAt_3b067 wsJ2_charAt_3b067) := goodIn_app (goodIn_of _ (by decide +kernel)) ggJ0_charAt_5068e_J2_charAt_3b067
theorem dJ0_charAt_5068e_0 : decode cJ0_charAt_5068e 0 = .ok (.aload_n 0, 1) := by decide +kernel
theorem dJ0_charAt_5068e_1 : decode cJ0_charAt_5068e 1 = .ok (.invokevirtual 492, 3) := by decide +kernel
theorem dJ0_charAt_5068e_4 : decode cJ0_charAt_5068e 4 = .ok (.ifCond .eq 12, 3) := by decide +kernel
theorem dJ0_charAt_5068e_7 : decode cJ0_charAt_5068e 7 = .ok (.aload_n 0, 1) := by decide +kernel
theorem dJ0_charAt_5068e_8 : decode cJ0_charAt_5068e 8 = .ok (.getfield 9, 3) := by decide +kernel
theorem dJ0_charAt_5068e_11 : decode cJ0_charAt_5068e 11 = .ok (.iload_n 1, 1) := by decide +kernel
theorem dJ0_charAt_5068e_12 : decode cJ0_charAt_5068e 12 = .ok (.invokestatic 495, 3) := by decide +kernel
theorem dJ0_charAt_5068e_15 : decode cJ0_charAt_5068e 15 = .ok (.ireturn, 1) := by decide +kernel
theorem dJ0_charAt_5068e_16 : decode cJ0_charAt_5068e 16 = .ok (.aload_n 0, 1) := by decide +kernel
theorem dJ0_charAt_5068e_17 : decode cJ0_charAt_5068e 17 = .ok (.getfield 9, 3) := by decide +kernel
theorem dJ0_charAt_5068e_20 : decode cJ0_charAt_5068e 20 = .ok (.iload_n 1, 1) := by decide +kernel
theorem dJ0_charAt_5068e_21 : decode cJ0_charAt_5068e 21 = .ok (.invokestatic 498, 3) := by decide +kernel
theorem dJ0_charAt_5068e_24 : decode cJ0_charAt_5068e 24 = .ok (.ireturn, 1) := by decide +kernel
theorem dJ0_coder_7d493_0 : decode cJ0_coder_7d493 0 = .ok (.getstatic 38, 3) := by decide +kernel
theorem dJ0_coder_7d493_3 : decode cJ0_coder_7d493 3 = .ok (.ifCond .eq 10, 3) := by decide +kernel
theorem dJ0_coder_7d493_6 : decode cJ0_coder_7d493 6 = .ok (.aload_n 0, 1) := by decide +kernel
theorem dJ0_coder_7d493_7 : decode cJ0_coder_7d493 7 = .ok (.getfield 15, 3) := by decide +kernel
theorem dJ0_coder_7d493_10 : decode cJ0_coder_7d493 10 = .ok (.goto 4, 3) := by decide +kernel
theorem dJ0_coder_7d493_13 : decode cJ0_coder_7d493 13 = .ok (.iconst 1, 1) := by decide +kernel
theorem dJ0_coder_7d493_14 : decode cJ0_coder_7d493 14 = .ok (.ireturn, 1) := by decide +kernel
theorem dJ0_isLatin1_aae02_0 : decode cJ0_isLatin1_aae02 0 = .ok (.getstatic 38, 3) := by decide +kernel
theorem dJ0_isLatin1_aae02_3 : decode cJ0_isLatin1_aae02 3 = .ok (.ifCond .eq 14, 3) := by decide +kernel
theorem dJ0_isLatin1_aae02_6 : decode cJ0_isLatin1_aae02 6 = .ok (.aload_n 0, 1) := by decide +kernel
theorem dJ0_isLatin1_aae02_7 : decode cJ0_isLatin1_aae02 7 = .ok (.getfield 15, 3) := by decide +kernel
theorem dJ0_isLatin1_aae02_10 : decode cJ0_isLatin1_aae02 10 = .ok (.ifCond .ne 7, 3) := by decide +kernel
theorem dJ0_isLatin1_aae02_13 : decode cJ0_isLatin1_aae02 13 = .ok (.iconst 1, 1) := by decide +kernel
theorem dJ0_isLatin1_aae02_14 : decode cJ0_isLatin1_aae02 14 = .ok (.goto 4, 3) := by decide +kernel
theorem dJ0_isLatin1_aae02_17 : decode cJ0_isLatin1_aae02 17 = .ok (.iconst 0, 1) := by decide +kernel
theorem dJ0_isLatin1_aae02_18 : decode cJ0_isLatin1_aae02 18 = .ok (.ireturn, 1) := by decide +kernel
set_option maxRecDepth 20000 in
theorem ggJ0_checkIndex_df160_J3_checkIndex_8e157 : GoodIn wsJ0_checkIndex_df160 wsJ3_checkIndex_8e157 := goodIn_r _ [5] (by decide +kernel) (by decide +kernel)
set_option maxRecDepth 20000 in
theorem gJ0_checkIndex_df160_J3_checkIndex_8e157 : GoodIn wsJ0_checkIndex_df160 (va_wsS RJ0 1059 yJ3_checkIndex_8e157 wsJ3_checkIndex_8e157) := goodIn_app (goodIn_of _ (by decide +kernel)) ggJ0_checkIndex_df160_J3_checkIndex_8e157
theorem dJ0_checkIndex_df160_0 : decode cJ0_checkIndex_df160 0 = .ok (.iload_n 0, 1) := by decide +kernel
theorem dJ0_checkIndex_df160_1 : decode cJ0_checkIndex_df160 1 = .ok (.iload_n 1, 1) := by decide +kernel
theorem dJ0_checkIndex_df160_2 : decode cJ0_checkIndex_df160 2 = .ok (.getstatic 1053, 3) := by decide +kernel
theorem dJ0_checkIndex_df160_5 : decode cJ0_checkIndex_df160 5 = .ok (.invokestatic 1059, 3) := by decide +kernel
theorem dJ0_checkIndex_df160_8 : decode cJ0_checkIndex_df160 8 = .ok (.pop, 1) := by decide +kernel
theorem dJ0_checkIndex_df160_9 : decode cJ0_checkIndex_df160 9 = .ok (.return_, 1) := by decide +kernel
set_option maxRecDepth 20000 in
theorem ggJ1_charAt_3b067_J0_checkIndex_df160 : GoodIn wsJ1_charAt_3b067 wsJ0_checkIndex_df160 := goodIn_r _ [4, 5, 6, 7, 8, 9] (by decide +kernel) (by decide +kernel)
set_option maxRecDepth 20000 in
theorem gJ1_charAt_3b067_J0_checkIndex_df160 : GoodIn wsJ1_charAt_3b067 (va_wsS RJ1 9 yJ0_checkIndex_df160 wsJ0_checkIndex_df160) := goodIn_app (goodIn_of _ (by decide +kernel)) ggJ1_charAt_3b067_J0_checkIndex_df160
theorem dJ1_charAt_3b067_0 : decode cJ1_charAt_3b067 0 = .ok (.iload_n 1, 1) := by decide +kernel
theorem dJ1_charAt_3b067_1 : decode cJ1_charAt_3b067 1 = .ok (.aload_n 0, 1) := by decide +kernel
theorem dJ1_charAt_3b067_2 : decode cJ1_charAt_3b067 2 = .ok (.arraylength, 1) := by decide +kernel
theorem dJ1_charAt_3b067_3 : decode cJ1_charAt_3b067 3 = .ok (.invokestatic 9, 3) := by decide +kernel
theorem dJ1_charAt_3b067_6 : decode cJ1_charAt_3b067 6 = .ok (.aload_n 0, 1) := by decide +kernel
theorem dJ1_charAt_3b067_7 : decode cJ1_charAt_3b067 7 = .ok (.iload_n 1, 1) := by decide +kernel
theorem dJ1_charAt_3b067_8 : decode cJ1_charAt_3b067 8 = .ok (.baload, 1) := by decide +kernel
theorem dJ1_charAt_3b067_9 : decode cJ1_charAt_3b067 9 = .ok (.sipush 255, 3) := by decide +kernel
theorem dJ1_charAt_3b067_12 : decode cJ1_charAt_3b067 12 = .ok (.iand, 1) := by decide +kernel
theorem dJ1_charAt_3b067_13 : decode cJ1_charAt_3b067 13 = .ok (.i2c, 1) := by decide +kernel
theorem dJ1_charAt_3b067_14 : decode cJ1_charAt_3b067 14 = .ok (.ireturn, 1) := by decide +kernel
set_option maxRecDepth 20000 in
theorem ggJ2_getChar_3b067_J2_length_9d52b : GoodIn wsJ2_getChar_3b067 wsJ2_length_9d52b := goodIn_r _ [7] (by decide +kernel) (by decide +kernel)
set_option maxRecDepth 20000 in
theorem gJ2_getChar_3b067_J2_length_9d52b : GoodIn wsJ2_getChar_3b067 (va_wsS RJ2 48 yJ2_length_9d52b wsJ2_length_9d52b) := goodIn_app (goodIn_of _ (by decide +kernel)) ggJ2_getChar_3b067_J2_length_9d52b
theorem dJ2_getChar_3b067_0 : decode cJ2_getChar_3b067 0 = .ok (.getstatic 44, 3) := by decide +kernel
theorem dJ2_getChar_3b067_3 : decode cJ2_getChar_3b067 3 = .ok (.ifCond .ne 25, 3) := by decide +kernel
theorem dJ2_getChar_3b067_6 : decode cJ2_getChar_3b067 6 = .ok (.iload_n 1, 1) := by decide +kernel
theorem dJ2_getChar_3b067_7 : decode cJ2_getChar_3b067 7 = .ok (.ifCond .lt 11, 3) := by decide +kernel
theorem dJ2_getChar_3b067_10 : decode cJ2_getChar_3b067 10 = .ok (.iload_n 1, 1) := by decide +kernel
theorem dJ2_getChar_3b067_11 : decode cJ2_getChar_3b067 11 = .ok (.aload_n 0, 1) := by decide +kernel
theorem dJ2_getChar_3b067_12 : decode cJ2_getChar_3b067 12 = .ok (.invokestatic 48, 3) := by decide +kernel
theorem dJ2_getChar_3b067_15 : decode cJ2_getChar_3b067 15 = .ok (.if_icmp .lt 13, 3) := by decide +kernel
theorem dJ2_getChar_3b067_18 : decode cJ2_getChar_3b067 18 = .ok (.new 52, 3) := by decide +kernel
theorem dJ2_getChar_3b067_21 : decode cJ2_getChar_3b067 21 = .ok (.dup, 1) := by decide +kernel
theorem dJ2_getChar_3b067_22 : decode cJ2_getChar_3b067 22 = .ok (.ldc 54, 2) := by decide +kernel
theorem dJ2_getChar_3b067_24 : decode cJ2_getChar_3b067 24 = .ok (.invokespecial 56, 3) := by decide +kernel
theorem dJ2_getChar_3b067_27 : decode cJ2_getChar_3b067 27 = .ok (.athrow, 1) := by decide +kernel
theorem dJ2_getChar_3b067_28 : decode cJ2_getChar_3b067 28 = .ok (.iload_n 1, 1) := by decide +kernel
theorem dJ2_getChar_3b067_29 : decode cJ2_getChar_3b067 29 = .ok (.iconst 1, 1) := by decide +kernel
theorem dJ2_getChar_3b067_30 : decode cJ2_getChar_3b067 30 = .ok (.ishl, 1) := by decide +kernel
theorem dJ2_getChar_3b067_31 : decode cJ2_getChar_3b067 31 = .ok (.istore_n 1, 1) := by decide +kernel
theorem dJ2_getChar_3b067_32 : decode cJ2_getChar_3b067 32 = .ok (.aload_n 0, 1) := by decide +kernel
theorem dJ2_getChar_3b067_33 : decode cJ2_getChar_3b067 33 = .ok (.iload_n 1, 1) := by decide +kernel
theorem dJ2_getChar_3b067_34 : decode cJ2_getChar_3b067 34 = .ok (.iinc 1 1, 3) := by decide +kernel
theorem dJ2_getChar_3b067_37 : decode cJ2_getChar_3b067 37 = .ok (.baload, 1) := by decide +kernel
theorem dJ2_getChar_3b067_38 : decode cJ2_getChar_3b067 38 = .ok (.sipush 255, 3) := by decide +kernel
theorem dJ2_getChar_3b067_41 : decode cJ2_getChar_3b067 41 = .ok (.iand, 1) := by decide +kernel
theorem dJ2_getChar_3b067_42 : decode cJ2_getChar_3b067 42 = .ok (.getstatic 59, 3) := by decide +kernel
theorem dJ2_getChar_3b067_45 : decode cJ2_getChar_3b067 45 = .ok (.ishl, 1) := by decide +kernel
theorem dJ2_getChar_3b067_46 : decode cJ2_getChar_3b067 46 = .ok (.aload_n 0, 1) := by decide +kernel
theorem dJ2_getChar_3b067_47 : decode cJ2_getChar_3b067 47 = .ok (.iload_n 1, 1) := by decide +kernel
theorem dJ2_getChar_3b067_48 : decode cJ2_getChar_3b067 48 = .ok (.baload, 1) := by decide +kernel
theorem dJ2_getChar_3b067_49 : decode cJ2_getChar_3b067 49 = .ok (.sipush 255, 3) := by decide +kernel
theorem dJ2_getChar_3b067_52 : decode cJ2_getChar_3b067 52 = .ok (.iand, 1) := by decide +kernel
theorem dJ2_getChar_3b067_53 : decode cJ2_getChar_3b067 53 = .ok (.getstatic 63, 3) := by decide +kernel
theorem dJ2_getChar_3b067_56 : decode cJ2_getChar_3b067 56 = .ok (.ishl, 1) := by decide +kernel
theorem dJ2_getChar_3b067_57 : decode cJ2_getChar_3b067 57 = .ok (.ior, 1) := by decide +kernel
theorem dJ2_getChar_3b067_58 : decode cJ2_getChar_3b067 58 = .ok (.i2c, 1) := by decide +kernel
theorem dJ2_getChar_3b067_59 : decode cJ2_getChar_3b067 59 = .ok (.ireturn, 1) := by decide +kernel
theorem dJ2_length_9d52b_0 : decode cJ2_length_9d52b 0 = .ok (.aload_n 0, 1) := by decide +kernel
theorem dJ2_length_9d52b_1 : decode cJ2_length_9d52b 1 = .ok (.arraylength, 1) := by decide +kernel
theorem dJ2_length_9d52b_2 : decode cJ2_length_9d52b 2 = .ok (.iconst 1, 1) := by decide +kernel
theorem dJ2_length_9d52b_3 : decode cJ2_length_9d52b 3 = .ok (.ishr, 1) := by decide +kernel
theorem dJ2_length_9d52b_4 : decode cJ2_length_9d52b 4 = .ok (.ireturn, 1) := by decide +kernel
set_option maxRecDepth 20000 in
theorem ggJ2_charAt_3b067_J2_checkIndex_2214a : GoodIn wsJ2_charAt_3b067 wsJ2_checkIndex_2214a := goodIn_r _ [4, 5, 6, 3, 7, 8, 9, 10, 11, 12, 13, 14, 15, 16] (by decide +kernel) (by decide +kernel)
set_option maxRecDepth 20000 in
theorem gJ2_charAt_3b067_J2_checkIndex_2214a : GoodIn wsJ2_charAt_3b067 (va_wsS RJ2 67 yJ2_checkIndex_2214a wsJ2_checkIndex_2214a) := goodIn_app (goodIn_of _ (by decide +kernel)) ggJ2_charAt_3b067_J2_checkIndex_2214a
set_option maxRecDepth 20000 in
theorem ggJ2_charAt_3b067_J2_getChar_3b067 : GoodIn wsJ2_charAt_3b067 wsJ2_getChar_3b067 := goodIn_r _ [19, 20, 21, 22, 5, 6, 3, 7] (by decide +kernel) (by decide +kernel)
set_option maxRecDepth 20000 in
theorem gJ2_charAt_3b067_J2_getChar_3b067 : GoodIn wsJ2_charAt_3b067 (va_wsS RJ2 71 yJ2_getChar_3b067 wsJ2_getChar_3b067) := goodIn_app (goodIn_of _ (by decide +kernel)) ggJ2_charAt_3b067_J2_getChar_3b067
theorem dJ2_charAt_3b067_0 : decode cJ2_charAt_3b067 0 = .ok (.iload_n 1, 1) := by decide +kernel
theorem dJ2_charAt_3b067_1 : decode cJ2_charAt_3b067 1 = .ok (.aload_n 0, 1) := by decide +kernel
theorem dJ2_charAt_3b067_2 : decode cJ2_charAt_3b067 2 = .ok (.invokestatic 67, 3) := by decide +kernel
theorem dJ2_charAt_3b067_5 : decode cJ2_charAt_3b067 5 = .ok (.aload_n 0, 1) := by decide +kernel
theorem dJ2_charAt_3b067_6 : decode cJ2_charAt_3b067 6 = .ok (.iload_n 1, 1) := by decide +kernel
theorem dJ2_charAt_3b067_7 : decode cJ2_charAt_3b067 7 = .ok (.invokestatic 71, 3) := by decide +kernel
theorem dJ2_charAt_3b067_10 : decode cJ2_charAt_3b067 10 = .ok (.ireturn, 1) := by decide +kernel
set_option maxRecDepth 20000 in
theorem ggJ2_checkIndex_2214a_J2_length_9d52b : GoodIn wsJ2_checkIndex_2214a wsJ2_length_9d52b := goodIn_r _ [4] (by decide +kernel) (by decide +kernel)
set_option maxRecDepth 20000 in
theorem gJ2_checkIndex_2214a_J2_length_9d52b : GoodIn wsJ2_checkIndex_2214a (va_wsS RJ2 48 yJ2_length_9d52b wsJ2_length_9d52b) := goodIn_app (goodIn_of _ (by decide +kernel)) ggJ2_checkIndex_2214a_J2_length_9d52b
set_option maxRecDepth 20000 in
theorem ggJ2_checkIndex_2214a_J0_checkIndex_df160 : GoodIn wsJ2_checkIndex_2214a wsJ0_checkIndex_df160 := goodIn_r _ [8, 9, 10, 11, 12, 13] (by decide +kernel) (by decide +kernel)
set_option maxRecDepth 20000 in
theorem gJ2_checkIndex_2214a_J0_checkIndex_df160 : GoodIn wsJ2_checkIndex_2214a (va_wsS RJ2 414 yJ0_checkIndex_df160 wsJ0_checkIndex_df160) := goodIn_app (goodIn_of _ (by decide +kernel)) ggJ2_checkIndex_2214a_J0_checkIndex_df160
theorem dJ2_checkIndex_2214a_0 : decode cJ2_checkIndex_2214a 0 = .ok (.iload_n 0, 1) := by decide +kernel
theorem dJ2_checkIndex_2214a_1 : decode cJ2_checkIndex_2214a 1 = .ok (.aload_n 1, 1) := by decide +kernel
theorem dJ2_checkIndex_2214a_2 : decode cJ2_checkIndex_2214a 2 = .ok (.invokestatic 48, 3) := by decide +kernel
theorem dJ2_checkIndex_2214a_5 : decode cJ2_checkIndex_2214a 5 = .ok (.invokestatic 414, 3) := by decide +kernel
theorem dJ2_checkIndex_2214a_8 : decode cJ2_checkIndex_2214a 8 = .ok (.return_, 1) := by decide +kernel
theorem dJ3_checkIndex_8e157_0 : decode cJ3_checkIndex_8e157 0 = .ok (.iload_n 0, 1) := by decide +kernel
theorem dJ3_checkIndex_8e157_1 : decode cJ3_checkIndex_8e157 1 = .ok (.ifCond .lt 8, 3) := by decide +kernel
theorem dJ3_checkIndex_8e157_4 : decode cJ3_checkIndex_8e157 4 = .ok (.iload_n 0, 1) := by decide +kernel
theorem dJ3_checkIndex_8e157_5 : decode cJ3_checkIndex_8e157 5 = .ok (.iload_n 1, 1) := by decide +kernel
theorem dJ3_checkIndex_8e157_6 : decode cJ3_checkIndex_8e157 6 = .ok (.if_icmp .lt 10, 3) := by decide +kernel
theorem dJ3_checkIndex_8e157_9 : decode cJ3_checkIndex_8e157 9 = .ok (.aload_n 2, 1) := by decide +kernel
theorem dJ3_checkIndex_8e157_10 : decode cJ3_checkIndex_8e157 10 = .ok (.iload_n 0, 1) := by decide +kernel
theorem dJ3_checkIndex_8e157_11 : decode cJ3_checkIndex_8e157 11 = .ok (.iload_n 1, 1) := by decide +kernel
theorem dJ3_checkIndex_8e157_12 : decode cJ3_checkIndex_8e157 12 = .ok (.invokestatic 95, 3) := by decide +kernel
theorem dJ3_checkIndex_8e157_15 : decode cJ3_checkIndex_8e157 15 = .ok (.athrow, 1) := by decide +kernel
theorem dJ3_checkIndex_8e157_16 : decode cJ3_checkIndex_8e157 16 = .ok (.iload_n 0, 1) := by decide +kernel
theorem dJ3_checkIndex_8e157_17 : decode cJ3_checkIndex_8e157 17 = .ok (.ireturn, 1) := by decide +kernel
set_option maxRecDepth 20000 in
theorem ggL_law_X9_init : GoodIn wsL_law wsX9_init := goodIn_r _ [8, 9, 10, 11, 12, 13, 14, 15, 16, 17, 18, 19, 20, 21, 22, 23, 24, 25, 26, 27, 28, 29, 30, 31, 32, 33, 34, 35, 36, 37, 38, 39, 40, 41, 42, 43, 44, 45, 46, 47, 48, 49, 50, 51, 52, 53, 54, 55, 56, 57, 58, 59, 60, 61, 62, 63, 64, 65, 66, 67, 68, 69, 70, 71, 72, 73, 74, 75, 76, 77, 78, 79, 80, 81, 82, 83, 84, 85, 86, 87, 88, 89, 90, 91, 92, 93, 94, 95, 96, 97, 98, 99, 100, 101, 102, 103, 104, 105, 106, 107, 108, 109, 110, 111, 112, 852, 853, 854, 855, 856, 857, 858, 859, 814, 815, 816, 817, 818, 819, 820, 821, 822, 823, 824, 825, 826, 827, 828, 860, 861, 862, 863, 864, 865, 866, 867, 868, 869, 870, 871, 872, 873, 874, 875, 876, 877, 878, 879, 880, 881] (by decide +kernel) (by decide +kernel)
set_option maxRecDepth 20000 in
theorem gL_law_X9_init : GoodIn wsL_law (wsX9_init) := ggL_law_X9_init
set_option maxRecDepth 20000 in
theorem ggL_law_X10_init : GoodIn wsL_law wsX10_init := goodIn_r _ [115, 116, 10, 11, 39, 117, 118, 119, 120, 121, 36, 122, 123, 124, 125, 126, 127, 128, 129, 130, 131, 132, 133, 134, 5, 135, 136, 137, 138, 829, 830, 831, 832, 833, 834, 835, 836, 837, 838, 839, 840, 841, 842, 843, 844, 845, 846, 847, 848, 849, 850, 851] (by decide +kernel) (by decide +kernel)
set_option maxRecDepth 20000 in
theorem gL_law_X10_init : GoodIn wsL_law (wsX10_init) := ggL_law_X10_init
set_option maxRecDepth 20000 in
theorem ggL_law_X9_write : GoodIn wsL_law wsX9_write := goodIn_r _ [142, 18, 143, 144, 145, 2, 146, 147, 148, 149, 17, 150, 151, 58, 814, 815, 816, 817, 818, 819, 820, 821, 822, 823, 824, 825, 826, 827, 828, 852, 853, 854, 855, 856, 857, 858, 859] (by decide +kernel) (by decide +kernel)
set_option maxRecDepth 20000 in
theorem gL_law_X9_write : GoodIn wsL_law (wsV RL 13 RX9 yX9_write wsX9_write) := goodIn_app (goodIn_of _ (by decide +kernel)) ggL_law_X9_write
set_option maxRecDepth 20000 in
theorem ggL_law_X10_write : GoodIn wsL_law wsX10_write := goodIn_r _ [155, 156, 127, 157, 158, 5, 159, 829, 830, 831, 832, 833, 834, 835, 836, 837, 838, 839, 840, 841, 842, 843, 844, 845, 846, 847, 848, 849, 850, 851] (by decide +kernel) (by decide +kernel)
set_option maxRecDepth 20000 in
theorem gL_law_X10_write : GoodIn wsL_law (wsV RL 17 RX10 yX10_write wsX10_write) := goodIn_app (goodIn_of _ (by decide +kernel)) ggL_law_X10_write
set_option maxRecDepth 20000 in
theorem ggL_law_X9_erase : GoodIn wsL_law wsX9_erase := goodIn_r _ [163, 18, 143, 814, 815, 816, 817, 818, 819, 820, 821, 822, 823, 824, 825, 826, 827, 828, 852, 853, 854, 855, 856, 857, 858, 859] (by decide +kernel) (by decide +kernel)
set_option maxRecDepth 20000 in
theorem gL_law_X9_erase : GoodIn wsL_law (wsV RL 18 RX9 yX9_erase wsX9_erase) := goodIn_app (goodIn_of _ (by decide +kernel)) ggL_law_X9_erase
set_option maxRecDepth 20000 in
theorem ggL_law_X10_erase : GoodIn wsL_law wsX10_erase := goodIn_r _ [167, 156, 829, 830, 831, 832, 833, 834, 835, 836, 837, 838, 839, 840, 841, 842, 843, 844, 845, 846, 847, 848, 849, 850, 851] (by decide +kernel) (by decide +kernel)
set_option maxRecDepth 20000 in
theorem gL_law_X10_erase : GoodIn wsL_law (wsV RL 22 RX10 yX10_erase wsX10_erase) := goodIn_app (goodIn_of _ (by decide +kernel)) ggL_law_X10_erase
set_option maxRecDepth 20000 in
theorem ggL_law_X9_fault : GoodIn wsL_law wsX9_fault := goodIn_r _ [171, 18, 33, 172, 173, 174, 175, 17, 176, 177, 178, 179, 59, 151, 180, 181, 182, 183, 184, 185, 186, 187, 188, 189, 190, 191, 58, 192, 193, 194, 195, 196, 197, 198, 199, 200, 201, 202, 203, 204, 205, 206, 207, 208, 209, 210, 211, 212, 213, 214, 215, 216, 217, 218, 219, 220, 221, 222, 223, 224, 225, 226, 227, 228, 229, 230, 231, 232, 233, 234, 235, 236, 237, 238, 239, 240, 241, 242, 243, 244, 245, 246, 247, 248, 249, 250, 251, 252, 253, 254, 255, 256, 257, 258, 259, 60, 61, 260, 261, 262, 263, 145, 2, 146, 814, 815, 816, 817, 818, 819, 820, 821, 822, 823, 824, 825, 826, 827, 828, 860, 861, 862, 863, 852, 853, 854, 855, 856, 857, 858, 859] (by decide +kernel) (by decide +kernel)
set_option maxRecDepth 20000 in
theorem gL_law_X9_fault : GoodIn wsL_law (wsV RL 23 RX9 yX9_fault wsX9_fault) := goodIn_app (goodIn_of _ (by decide +kernel)) ggL_law_X9_fault
set_option maxRecDepth 20000 in
theorem ggL_law_X10_fault : GoodIn wsL_law wsX10_fault := goodIn_r _ [267, 268, 269, 270, 271, 5, 272, 136, 273, 129, 123, 124, 125, 130, 126, 274, 275, 156, 127, 276, 277, 278, 279, 280, 281, 282, 283, 284, 285, 286, 287, 157, 158, 159, 288, 289, 290, 291, 292, 293, 294, 295, 296, 297, 298, 299, 117, 300, 301, 302, 303, 118, 304, 305, 306, 307, 308, 309, 310, 311, 312, 313, 314, 315, 119, 120, 829, 830, 831, 832, 833, 834, 835, 836, 837, 838, 839, 840, 841, 842, 843, 844, 845, 846, 847, 848, 849, 850, 851] (by decide +kernel) (by decide +kernel)
set_option maxRecDepth 20000 in
theorem gL_law_X10_fault : GoodIn wsL_law (wsV RL 26 RX10 yX10_fault wsX10_fault) := goodIn_app (goodIn_of _ (by decide +kernel)) ggL_law_X10_fault
set_option maxRecDepth 20000 in
theorem ggL_law_X9_desk : GoodIn wsL_law wsX9_desk := goodIn_r _ [319, 18, 33, 172, 320, 321, 322, 323, 143, 173, 174, 175, 17, 176, 177, 178, 179, 59, 151, 180, 181, 182, 183, 184, 185, 186, 187, 188, 189, 190, 191, 58, 192, 193, 194, 195, 196, 197, 198, 199, 200, 201, 202, 203, 204, 205, 206, 207, 208, 209, 210, 211, 212, 213, 214, 215, 216, 217, 218, 219, 220, 221, 222, 223, 224, 225, 226, 227, 228, 229, 230, 231, 232, 233, 234, 235, 236, 237, 238, 239, 240, 241, 242, 243, 244, 245, 246, 247, 248, 249, 250, 251, 252, 253, 254, 255, 256, 257, 258, 259, 60, 61, 260, 261, 262, 263, 145, 2, 146, 324, 325, 326, 327, 29, 328, 329, 330, 331, 32, 332, 75, 333, 334, 335, 83, 84, 74, 85, 86, 87, 88, 89, 90, 91, 336, 337, 338, 339, 340, 77, 341, 97, 98, 45, 99, 100, 101, 102, 103, 104, 105, 106, 107, 108, 109, 110, 111, 342, 343, 344, 345, 346, 347, 348, 349, 34, 37, 350, 351, 352, 353, 354, 355, 356, 357, 358, 359, 360, 361, 362, 363, 814, 815, 816, 817, 818, 819, 820, 821, 822, 823, 824, 825, 826, 827, 828, 860, 861, 862, 863, 852, 853, 854, 855, 856, 857, 858, 859, 876, 877, 878, 879, 880, 881, 864, 865, 866, 867, 868, 869, 870, 871, 872, 873, 874, 875] (by decide +kernel) (by decide +kernel)
set_option maxRecDepth 20000 in
theorem gL_law_X9_desk : GoodIn wsL_law (wsV RL 27 RX9 yX9_desk wsX9_desk) := goodIn_app (goodIn_of _ (by decide +kernel)) ggL_law_X9_desk
set_option maxRecDepth 20000 in
theorem ggL_law_X10_desk : GoodIn wsL_law wsX10_desk := goodIn_r _ [367, 156, 273, 136, 123, 129, 124, 125, 126, 130, 275, 269, 270, 271, 5, 272, 274, 268, 127, 276, 277, 278, 279, 280, 281, 282, 283, 284, 285, 286, 287, 157, 158, 159, 288, 289, 290, 291, 292, 293, 294, 295, 296, 297, 298, 299, 117, 300, 301, 302, 303, 118, 304, 305, 306, 307, 308, 309, 310, 311, 312, 313, 314, 315, 119, 120, 132, 133, 134, 135, 121, 137, 138, 122, 829, 830, 831, 832, 833, 834, 835, 836, 837, 838, 839, 840, 841, 842, 843, 844, 845, 846, 847, 848, 849, 850, 851] (by decide +kernel) (by decide +kernel)
set_option maxRecDepth 20000 in
theorem gL_law_X10_desk : GoodIn wsL_law (wsV RL 30 RX10 yX10_desk wsX10_desk) := goodIn_app (goodIn_of _ (by decide +kernel)) ggL_law_X10_desk
set_option maxRecDepth 20000 in
theorem ggL_law_X9_couple : GoodIn wsL_law wsX9_couple := goodIn_r _ [371, 34, 372, 373, 374, 375, 2, 376, 172, 377, 378, 379, 45, 380, 100, 101, 102, 103, 104, 105, 106, 108, 109, 110, 381, 382, 383, 384, 14, 385, 386, 387, 22, 388, 389, 390, 28, 391, 392, 393, 25, 394, 814, 815, 816, 817, 818, 819, 820, 821, 822, 823, 824, 825, 826, 827, 828, 860, 861, 862, 863, 864, 865, 866, 867, 868, 869, 870, 871, 872, 873, 874, 875] (by decide +kernel) (by decide +kernel)
set_option maxRecDepth 20000 in
theorem gL_law_X9_couple : GoodIn wsL_law (wsV RL 31 RX9 yX9_couple wsX9_couple) := goodIn_app (goodIn_of _ (by decide +kernel)) ggL_law_X9_couple
set_option maxRecDepth 20000 in
theorem ggL_law_X10_couple : GoodIn wsL_law wsX10_couple := goodIn_r _ [398, 123, 124, 121, 399, 400, 401, 5, 402, 136, 157, 158, 159, 829, 830, 831, 832, 833, 834, 835, 836, 837, 838, 839, 840, 841, 842, 843, 844, 845, 846, 847, 848, 849, 850, 851] (by decide +kernel) (by decide +kernel)
set_option maxRecDepth 20000 in
theorem gL_law_X10_couple : GoodIn wsL_law (wsV RL 35 RX10 yX10_couple wsX10_couple) := goodIn_app (goodIn_of _ (by decide +kernel)) ggL_law_X10_couple
set_option maxRecDepth 20000 in
theorem ggL_law_X9_as : GoodIn wsL_law wsX9_as := goodIn_r _ [406, 34, 372, 407, 408, 373, 374, 375, 2, 376, 172, 144, 145, 146, 409, 410, 411, 412, 413, 414, 415, 416, 417, 418, 419, 51, 420, 421, 422, 423, 424, 22, 425, 426, 427, 428, 429, 28, 430, 431, 432, 433, 434, 25, 435, 436, 814, 815, 816, 817, 818, 819, 820, 821, 822, 823, 824, 825, 826, 827, 828, 860, 861, 862, 863, 864, 865, 866, 867, 868, 869, 870, 871, 872, 873, 874, 875] (by decide +kernel) (by decide +kernel)
set_option maxRecDepth 20000 in
theorem gL_law_X9_as : GoodIn wsL_law (wsV RL 36 RX9 yX9_as wsX9_as) := goodIn_app (goodIn_of _ (by decide +kernel)) ggL_law_X9_as
set_option maxRecDepth 20000 in
theorem ggL_law_X10_as : GoodIn wsL_law wsX10_as := goodIn_r _ [440, 123, 399, 400, 401, 5, 402, 136, 157, 158, 159, 441, 442, 443, 444, 124, 121, 829, 830, 831, 832, 833, 834, 835, 836, 837, 838, 839, 840, 841, 842, 843, 844, 845, 846, 847, 848, 849, 850, 851] (by decide +kernel) (by decide +kernel)
set_option maxRecDepth 20000 in
theorem gL_law_X10_as : GoodIn wsL_law (wsV RL 39 RX10 yX10_as wsX10_as) := goodIn_app (goodIn_of _ (by decide +kernel)) ggL_law_X10_as
set_option maxRecDepth 20000 in
theorem ggL_law_X9_term : GoodIn wsL_law wsX9_term := goodIn_r _ [448, 34, 328, 144, 145, 2, 146, 449, 450, 451, 74, 452, 86, 87, 88, 89, 90, 91, 814, 815, 816, 817, 818, 819, 820, 821, 822, 823, 824, 825, 826, 827, 828, 860, 861, 862, 863, 876, 877, 878, 879, 880, 881] (by decide +kernel) (by decide +kernel)
set_option maxRecDepth 20000 in
theorem gL_law_X9_term : GoodIn wsL_law (wsV RL 40 RX9 yX9_term wsX9_term) := goodIn_app (goodIn_of _ (by decide +kernel)) ggL_law_X9_term
set_option maxRecDepth 20000 in
theorem ggL_law_X10_term : GoodIn wsL_law wsX10_term := goodIn_r _ [456, 121, 157, 158, 5, 159, 829, 830, 831, 832, 833, 834, 835, 836, 837, 838, 839, 840, 841, 842, 843, 844, 845, 846, 847, 848, 849, 850, 851] (by decide +kernel) (by decide +kernel)
set_option maxRecDepth 20000 in
theorem gL_law_X10_term : GoodIn wsL_law (wsV RL 43 RX10 yX10_term wsX10_term) := goodIn_app (goodIn_of _ (by decide +kernel)) ggL_law_X10_term
set_option maxRecDepth 20000 in
theorem ggL_law_X9_day : GoodIn wsL_law wsX9_day := goodIn_r _ [460, 34, 408, 461, 462, 463, 2, 464, 350, 465, 38, 466, 467, 468, 469, 470, 471, 472, 473, 352, 353, 354, 32, 355, 75, 333, 77, 334, 356, 357, 358, 74, 359, 86, 87, 88, 89, 90, 91, 360, 361, 362, 45, 363, 100, 101, 102, 103, 104, 105, 106, 107, 108, 109, 110, 111, 474, 475, 476, 477, 478, 479, 480, 481, 482, 185, 186, 187, 483, 484, 485, 417, 418, 419, 51, 420, 421, 422, 423, 424, 22, 425, 426, 427, 428, 429, 28, 430, 431, 432, 433, 434, 25, 435, 436, 486, 487, 488, 489, 490, 491, 492, 493, 494, 495, 496, 497, 498, 499, 500, 501, 502, 503, 504, 505, 506, 507, 508, 509, 14, 510, 511, 512, 513, 514, 515, 516, 517, 518, 519, 520, 521, 522, 523, 524, 525, 526, 527, 528, 529, 814, 815, 816, 817, 818, 819, 820, 821, 822, 823, 824, 825, 826, 827, 828, 860, 861, 862, 863, 876, 877, 878, 879, 880, 881, 864, 865, 866, 867, 868, 869, 870, 871, 872, 873, 874, 875] (by decide +kernel) (by decide +kernel)
set_option maxRecDepth 20000 in
theorem gL_law_X9_day : GoodIn wsL_law (wsV RL 44 RX9 yX9_day wsX9_day) := goodIn_app (goodIn_of _ (by decide +kernel)) ggL_law_X9_day
set_option maxRecDepth 20000 in
theorem ggL_law_X10_day : GoodIn wsL_law wsX10_day := goodIn_r _ [533, 121, 534, 535, 536, 5, 537, 137, 538, 539, 540, 541, 542, 543, 544, 545, 136, 441, 442, 443, 444, 124, 123, 546, 547, 548, 549, 550, 551, 552, 553, 554, 555, 556, 557, 558, 559, 560, 561, 562, 563, 564, 565, 566, 567, 568, 829, 830, 831, 832, 833, 834, 835, 836, 837, 838, 839, 840, 841, 842, 843, 844, 845, 846, 847, 848, 849, 850, 851] (by decide +kernel) (by decide +kernel)
set_option maxRecDepth 20000 in
theorem gL_law_X10_day : GoodIn wsL_law (wsV RL 47 RX10 yX10_day wsX10_day) := goodIn_app (goodIn_of _ (by decide +kernel)) ggL_law_X10_day
set_option maxRecDepth 20000 in
theorem ggL_law_X9_kiss : GoodIn wsL_law wsX9_kiss := goodIn_r _ [572, 34, 372, 573, 373, 374, 375, 2, 376, 172, 461, 462, 463, 464, 350, 465, 38, 466, 467, 468, 469, 470, 471, 472, 473, 352, 353, 354, 32, 355, 75, 333, 77, 334, 356, 357, 358, 74, 359, 86, 87, 88, 89, 90, 91, 360, 361, 362, 45, 363, 100, 101, 102, 103, 104, 105, 106, 107, 108, 109, 110, 111, 574, 575, 576, 577, 814, 815, 816, 817, 818, 819, 820, 821, 822, 823, 824, 825, 826, 827, 828, 860, 861, 862, 863, 864, 865, 866, 867, 868, 869, 870, 871, 872, 873, 874, 875, 876, 877, 878, 879, 880, 881] (by decide +kernel) (by decide +kernel)
set_option maxRecDepth 20000 in
theorem gL_law_X9_kiss : GoodIn wsL_law (wsV RL 48 RX9 yX9_kiss wsX9_kiss) := goodIn_app (goodIn_of _ (by decide +kernel)) ggL_law_X9_kiss
set_option maxRecDepth 20000 in
theorem ggL_law_X10_kiss : GoodIn wsL_law wsX10_kiss := goodIn_r _ [581, 121, 399, 400, 401, 5, 402, 136, 157, 158, 159, 534, 535, 536, 537, 137, 538, 539, 540, 541, 582, 583, 584, 585, 829, 830, 831, 832, 833, 834, 835, 836, 837, 838, 839, 840, 841, 842, 843, 844, 845, 846, 847, 848, 849, 850, 851] (by decide +kernel) (by decide +kernel)
set_option maxRecDepth 20000 in
theorem gL_law_X10_kiss : GoodIn wsL_law (wsV RL 51 RX10 yX10_kiss wsX10_kiss) := goodIn_app (goodIn_of _ (by decide +kernel)) ggL_law_X10_kiss
set_option maxRecDepth 20000 in
theorem ggL_law_X9_mother : GoodIn wsL_law wsX9_mother := goodIn_r _ [589, 34, 372, 573, 373, 374, 375, 2, 376, 172, 461, 462, 463, 464, 350, 465, 38, 466, 467, 468, 469, 470, 471, 472, 473, 352, 353, 354, 32, 355, 75, 333, 77, 334, 356, 357, 358, 74, 359, 86, 87, 88, 89, 90, 91, 360, 361, 362, 45, 363, 100, 101, 102, 103, 104, 105, 106, 107, 108, 109, 110, 111, 590, 591, 592, 593, 482, 185, 186, 187, 814, 815, 816, 817, 818, 819, 820, 821, 822, 823, 824, 825, 826, 827, 828, 860, 861, 862, 863, 864, 865, 866, 867, 868, 869, 870, 871, 872, 873, 874, 875, 876, 877, 878, 879, 880, 881] (by decide +kernel) (by decide +kernel)
set_option maxRecDepth 20000 in
theorem gL_law_X9_mother : GoodIn wsL_law (wsV RL 52 RX9 yX9_mother wsX9_mother) := goodIn_app (goodIn_of _ (by decide +kernel)) ggL_law_X9_mother
set_option maxRecDepth 20000 in
theorem ggL_law_X10_mother : GoodIn wsL_law wsX10_mother := goodIn_r _ [597, 121, 399, 400, 401, 5, 402, 136, 157, 158, 159, 534, 535, 536, 537, 137, 538, 539, 540, 541, 546, 547, 548, 549, 829, 830, 831, 832, 833, 834, 835, 836, 837, 838, 839, 840, 841, 842, 843, 844, 845, 846, 847, 848, 849, 850, 851] (by decide +kernel) (by decide +kernel)
set_option maxRecDepth 20000 in
theorem gL_law_X10_mother : GoodIn wsL_law (wsV RL 55 RX10 yX10_mother wsX10_mother) := goodIn_app (goodIn_of _ (by decide +kernel)) ggL_law_X10_mother
set_option maxRecDepth 20000 in
theorem ggL_law_X9_change : GoodIn wsL_law wsX9_change := goodIn_r _ [601, 602, 603, 34, 328, 144, 145, 2, 146, 461, 462, 463, 464, 350, 465, 38, 466, 467, 468, 469, 470, 471, 472, 473, 352, 353, 354, 32, 355, 75, 333, 77, 334, 356, 357, 358, 74, 359, 86, 87, 88, 89, 90, 91, 360, 361, 362, 45, 363, 100, 101, 102, 103, 104, 105, 106, 107, 108, 109, 110, 111, 449, 450, 451, 452, 342, 343, 344, 345, 814, 815, 816, 817, 818, 819, 820, 821, 822, 823, 824, 825, 826, 827, 828, 860, 861, 862, 863, 876, 877, 878, 879, 880, 881, 864, 865, 866, 867, 868, 869, 870, 871, 872, 873, 874, 875] (by decide +kernel) (by decide +kernel)
set_option maxRecDepth 20000 in
theorem gL_law_X9_change : GoodIn wsL_law (wsV RL 56 RX9 yX9_change wsX9_change) := goodIn_app (goodIn_of _ (by decide +kernel)) ggL_law_X9_change
set_option maxRecDepth 20000 in
theorem ggL_law_X10_change : GoodIn wsL_law wsX10_change := goodIn_r _ [607, 119, 120, 121, 157, 158, 5, 159, 534, 535, 536, 537, 137, 538, 539, 540, 541, 829, 830, 831, 832, 833, 834, 835, 836, 837, 838, 839, 840, 841, 842, 843, 844, 845, 846, 847, 848, 849, 850, 851] (by decide +kernel) (by decide +kernel)
set_option maxRecDepth 20000 in
theorem gL_law_X10_change : GoodIn wsL_law (wsV RL 59 RX10 yX10_change wsX10_change) := goodIn_app (goodIn_of _ (by decide +kernel)) ggL_law_X10_change
set_option maxRecDepth 20000 in
theorem ggL_law_X9_undo : GoodIn wsL_law wsX9_undo := goodIn_r _ [611, 350, 34, 38, 466, 467, 468, 2, 469, 465, 470, 471, 472, 473, 352, 353, 354, 32, 355, 75, 333, 77, 334, 356, 357, 358, 74, 359, 86, 87, 88, 89, 90, 91, 360, 361, 362, 45, 363, 100, 101, 102, 103, 104, 105, 106, 107, 108, 109, 110, 111, 814, 815, 816, 817, 818, 819, 820, 821, 822, 823, 824, 825, 826, 827, 828, 860, 861, 862, 863, 876, 877, 878, 879, 880, 881, 864, 865, 866, 867, 868, 869, 870, 871, 872, 873, 874, 875] (by decide +kernel) (by decide +kernel)
set_option maxRecDepth 20000 in
theorem gL_law_X9_undo : GoodIn wsL_law (wsV RL 60 RX9 yX9_undo wsX9_undo) := goodIn_app (goodIn_of _ (by decide +kernel)) ggL_law_X9_undo
set_option maxRecDepth 20000 in
theorem ggL_law_X10_undo : GoodIn wsL_law wsX10_undo := goodIn_r _ [615, 137, 538, 539, 540, 5, 541, 121, 829, 830, 831, 832, 833, 834, 835, 836, 837, 838, 839, 840, 841, 842, 843, 844, 845, 846, 847, 848, 849, 850, 851] (by decide +kernel) (by decide +kernel)
set_option maxRecDepth 20000 in
theorem gL_law_X10_undo : GoodIn wsL_law (wsV RL 63 RX10 yX10_undo wsX10_undo) := goodIn_app (goodIn_of _ (by decide +kernel)) ggL_law_X10_undo
set_option maxRecDepth 20000 in
theorem ggL_law_X9_keep : GoodIn wsL_law wsX9_keep := goodIn_r _ [619, 35, 34, 37, 408, 144, 145, 2, 146, 352, 353, 354, 32, 355, 75, 333, 77, 334, 356, 357, 358, 74, 359, 86, 87, 88, 89, 90, 91, 360, 361, 362, 45, 363, 100, 101, 102, 103, 104, 105, 106, 107, 108, 109, 110, 111, 814, 815, 816, 817, 818, 819, 820, 821, 822, 823, 824, 825, 826, 827, 828, 860, 861, 862, 863, 876, 877, 878, 879, 880, 881, 864, 865, 866, 867, 868, 869, 870, 871, 872, 873, 874, 875] (by decide +kernel) (by decide +kernel)
set_option maxRecDepth 20000 in
theorem gL_law_X9_keep : GoodIn wsL_law (wsV RL 64 RX9 yX9_keep wsX9_keep) := goodIn_app (goodIn_of _ (by decide +kernel)) ggL_law_X9_keep
set_option maxRecDepth 20000 in
theorem ggL_law_X10_keep : GoodIn wsL_law wsX10_keep := goodIn_r _ [623, 122, 121, 157, 158, 5, 159, 538, 539, 540, 541, 829, 830, 831, 832, 833, 834, 835, 836, 837, 838, 839, 840, 841, 842, 843, 844, 845, 846, 847, 848, 849, 850, 851] (by decide +kernel) (by decide +kernel)
set_option maxRecDepth 20000 in
theorem gL_law_X10_keep : GoodIn wsL_law (wsV RL 67 RX10 yX10_keep wsX10_keep) := goodIn_app (goodIn_of _ (by decide +kernel)) ggL_law_X10_keep
set_option maxRecDepth 20000 in
theorem ggL_law_X9_back : GoodIn wsL_law wsX9_back := goodIn_r _ [627, 37, 34, 35, 350, 408, 144, 145, 2, 146, 352, 353, 354, 32, 355, 75, 333, 77, 334, 356, 357, 358, 74, 359, 86, 87, 88, 89, 90, 91, 360, 361, 362, 45, 363, 100, 101, 102, 103, 104, 105, 106, 107, 108, 109, 110, 111, 814, 815, 816, 817, 818, 819, 820, 821, 822, 823, 824, 825, 826, 827, 828, 860, 861, 862, 863, 876, 877, 878, 879, 880, 881, 864, 865, 866, 867, 868, 869, 870, 871, 872, 873, 874, 875] (by decide +kernel) (by decide +kernel)
set_option maxRecDepth 20000 in
theorem gL_law_X9_back : GoodIn wsL_law (wsV RL 68 RX9 yX9_back wsX9_back) := goodIn_app (goodIn_of _ (by decide +kernel)) ggL_law_X9_back
set_option maxRecDepth 20000 in
theorem ggL_law_X10_back : GoodIn wsL_law wsX10_back := goodIn_r _ [631, 122, 137, 121, 157, 158, 5, 159, 538, 539, 540, 541, 829, 830, 831, 832, 833, 834, 835, 836, 837, 838, 839, 840, 841, 842, 843, 844, 845, 846, 847, 848, 849, 850, 851] (by decide +kernel) (by decide +kernel)
set_option maxRecDepth 20000 in
theorem gL_law_X10_back : GoodIn wsL_law (wsV RL 71 RX10 yX10_back wsX10_back) := goodIn_app (goodIn_of _ (by decide +kernel)) ggL_law_X10_back
set_option maxRecDepth 20000 in
theorem ggL_law_X9_balance : GoodIn wsL_law wsX9_balance := goodIn_r _ [635, 34, 172, 46, 636, 637, 638, 144, 145, 2, 146, 639, 640, 641, 642, 372, 643, 361, 362, 45, 363, 100, 101, 102, 103, 104, 105, 106, 107, 108, 109, 110, 111, 644, 645, 646, 647, 408, 328, 648, 479, 480, 481, 482, 185, 186, 187, 483, 484, 485, 417, 418, 419, 51, 420, 421, 422, 423, 424, 22, 425, 426, 427, 428, 429, 28, 430, 431, 432, 433, 434, 25, 435, 436, 486, 487, 488, 489, 490, 491, 492, 493, 494, 495, 496, 497, 498, 499, 500, 501, 502, 503, 504, 505, 506, 507, 508, 509, 14, 510, 511, 512, 513, 514, 515, 516, 517, 518, 519, 520, 521, 522, 523, 524, 525, 526, 527, 528, 529, 814, 815, 816, 817, 818, 819, 820, 821, 822, 823, 824, 825, 826, 827, 828, 860, 861, 862, 863, 864, 865, 866, 867, 868, 869, 870, 871, 872, 873, 874, 875, 876, 877, 878, 879, 880, 881] (by decide +kernel) (by decide +kernel)
set_option maxRecDepth 20000 in
theorem gL_law_X9_balance : GoodIn wsL_law (wsV RL 72 RX9 yX9_balance wsX9_balance) := goodIn_app (goodIn_of _ (by decide +kernel)) ggL_law_X9_balance
set_option maxRecDepth 20000 in
theorem ggL_law_X10_balance : GoodIn wsL_law wsX10_balance := goodIn_r _ [652, 653, 157, 158, 5, 159, 654, 655, 656, 657, 538, 539, 540, 541, 121, 542, 543, 544, 545, 136, 441, 442, 443, 444, 124, 123, 546, 547, 548, 549, 550, 551, 552, 553, 554, 555, 556, 557, 558, 559, 560, 561, 562, 563, 564, 565, 566, 567, 568, 658, 659, 660, 661, 662, 663, 664, 665, 829, 830, 831, 832, 833, 834, 835, 836, 837, 838, 839, 840, 841, 842, 843, 844, 845, 846, 847, 848, 849, 850, 851] (by decide +kernel) (by decide +kernel)
set_option maxRecDepth 20000 in
theorem gL_law_X10_balance : GoodIn wsL_law (wsV RL 75 RX10 yX10_balance wsX10_balance) := goodIn_app (goodIn_of _ (by decide +kernel)) ggL_law_X10_balance
set_option maxRecDepth 20000 in
theorem ggL_law_X9_strain : GoodIn wsL_law wsX9_strain := goodIn_r _ [669, 46, 573, 373, 374, 375, 2, 376, 34, 172, 144, 145, 146, 639, 640, 641, 642, 372, 643, 361, 362, 45, 363, 100, 101, 102, 103, 104, 105, 106, 107, 108, 109, 110, 111, 644, 645, 646, 647, 408, 328, 648, 479, 480, 481, 482, 185, 186, 187, 483, 484, 485, 417, 418, 419, 51, 420, 421, 422, 423, 424, 22, 425, 426, 427, 428, 429, 28, 430, 431, 432, 433, 434, 25, 435, 436, 486, 487, 488, 489, 490, 491, 492, 493, 494, 495, 496, 497, 498, 499, 500, 501, 502, 503, 504, 505, 506, 507, 508, 509, 14, 510, 511, 512, 513, 514, 515, 516, 517, 518, 519, 520, 521, 522, 523, 524, 525, 526, 527, 528, 529, 814, 815, 816, 817, 818, 819, 820, 821, 822, 823, 824, 825, 826, 827, 828, 864, 865, 866, 867, 868, 869, 870, 871, 872, 873, 874, 875, 860, 861, 862, 863, 876, 877, 878, 879, 880, 881] (by decide +kernel) (by decide +kernel)
set_option maxRecDepth 20000 in
theorem gL_law_X9_strain : GoodIn wsL_law (wsV RL 76 RX9 yX9_strain wsX9_strain) := goodIn_app (goodIn_of _ (by decide +kernel)) ggL_law_X9_strain
set_option maxRecDepth 20000 in
theorem ggL_law_X10_strain : GoodIn wsL_law wsX10_strain := goodIn_r _ [673, 121, 399, 400, 401, 5, 402, 136, 157, 158, 159, 654, 655, 656, 657, 538, 539, 540, 541, 542, 543, 544, 545, 441, 442, 443, 444, 124, 123, 546, 547, 548, 549, 550, 551, 552, 553, 554, 555, 556, 557, 558, 559, 560, 561, 562, 563, 564, 565, 566, 567, 568, 829, 830, 831, 832, 833, 834, 835, 836, 837, 838, 839, 840, 841, 842, 843, 844, 845, 846, 847, 848, 849, 850, 851] (by decide +kernel) (by decide +kernel)
set_option maxRecDepth 20000 in
theorem gL_law_X10_strain : GoodIn wsL_law (wsV RL 79 RX10 yX10_strain wsX10_strain) := goodIn_app (goodIn_of _ (by decide +kernel)) ggL_law_X10_strain
set_option maxRecDepth 20000 in
theorem ggL_law_X9_first : GoodIn wsL_law wsX9_first := goodIn_r _ [677, 46, 34, 372, 408, 328, 373, 374, 375, 2, 376, 172, 643, 361, 362, 45, 363, 100, 101, 102, 103, 104, 105, 106, 107, 108, 109, 110, 111, 648, 479, 480, 481, 482, 185, 186, 187, 483, 484, 485, 417, 418, 419, 51, 420, 421, 422, 423, 424, 22, 425, 426, 427, 428, 429, 28, 430, 431, 432, 433, 434, 25, 435, 436, 486, 487, 488, 489, 490, 491, 492, 493, 494, 495, 496, 497, 498, 499, 500, 501, 502, 503, 504, 505, 506, 507, 508, 509, 14, 510, 511, 512, 513, 514, 515, 516, 517, 518, 519, 520, 521, 522, 523, 524, 525, 526, 527, 528, 529, 814, 815, 816, 817, 818, 819, 820, 821, 822, 823, 824, 825, 826, 827, 828, 860, 861, 862, 863, 864, 865, 866, 867, 868, 869, 870, 871, 872, 873, 874, 875, 876, 877, 878, 879, 880, 881] (by decide +kernel) (by decide +kernel)
set_option maxRecDepth 20000 in
theorem gL_law_X9_first : GoodIn wsL_law (wsV RL 80 RX9 yX9_first wsX9_first) := goodIn_app (goodIn_of _ (by decide +kernel)) ggL_law_X9_first
set_option maxRecDepth 20000 in
theorem ggL_law_X10_first : GoodIn wsL_law wsX10_first := goodIn_r _ [681, 399, 400, 401, 5, 402, 136, 157, 158, 159, 654, 655, 656, 657, 538, 539, 540, 541, 121, 542, 543, 544, 545, 441, 442, 443, 444, 124, 123, 546, 547, 548, 549, 550, 551, 552, 553, 554, 555, 556, 557, 558, 559, 560, 561, 562, 563, 564, 565, 566, 567, 568, 829, 830, 831, 832, 833, 834, 835, 836, 837, 838, 839, 840, 841, 842, 843, 844, 845, 846, 847, 848, 849, 850, 851] (by decide +kernel) (by decide +kernel)
set_option maxRecDepth 20000 in
theorem gL_law_X10_first : GoodIn wsL_law (wsV RL 83 RX10 yX10_first wsX10_first) := goodIn_app (goodIn_of _ (by decide +kernel)) ggL_law_X10_first
set_option maxRecDepth 20000 in
theorem ggL_law_X9_level : GoodIn wsL_law wsX9_level := goodIn_r _ [685, 34, 172, 372, 46, 686, 687, 637, 144, 145, 2, 146, 639, 640, 641, 642, 643, 361, 362, 45, 363, 100, 101, 102, 103, 104, 105, 106, 107, 108, 109, 110, 111, 644, 645, 646, 647, 408, 328, 648, 479, 480, 481, 482, 185, 186, 187, 483, 484, 485, 417, 418, 419, 51, 420, 421, 422, 423, 424, 22, 425, 426, 427, 428, 429, 28, 430, 431, 432, 433, 434, 25, 435, 436, 486, 487, 488, 489, 490, 491, 492, 493, 494, 495, 496, 497, 498, 499, 500, 501, 502, 503, 504, 505, 506, 507, 508, 509, 14, 510, 511, 512, 513, 514, 515, 516, 517, 518, 519, 520, 521, 522, 523, 524, 525, 526, 527, 528, 529, 814, 815, 816, 817, 818, 819, 820, 821, 822, 823, 824, 825, 826, 827, 828, 860, 861, 862, 863, 864, 865, 866, 867, 868, 869, 870, 871, 872, 873, 874, 875, 876, 877, 878, 879, 880, 881] (by decide +kernel) (by decide +kernel)
set_option maxRecDepth 20000 in
theorem gL_law_X9_level : GoodIn wsL_law (wsV RL 84 RX9 yX9_level wsX9_level) := goodIn_app (goodIn_of _ (by decide +kernel)) ggL_law_X9_level
set_option maxRecDepth 20000 in
theorem ggL_law_X10_level : GoodIn wsL_law wsX10_level := goodIn_r _ [691, 121, 157, 158, 5, 159, 654, 655, 656, 657, 538, 539, 540, 541, 542, 543, 544, 545, 136, 441, 442, 443, 444, 124, 123, 546, 547, 548, 549, 550, 551, 552, 553, 554, 555, 556, 557, 558, 559, 560, 561, 562, 563, 564, 565, 566, 567, 568, 658, 659, 660, 661, 662, 663, 664, 665, 829, 830, 831, 832, 833, 834, 835, 836, 837, 838, 839, 840, 841, 842, 843, 844, 845, 846, 847, 848, 849, 850, 851] (by decide +kernel) (by decide +kernel)
set_option maxRecDepth 20000 in
theorem gL_law_X10_level : GoodIn wsL_law (wsV RL 87 RX10 yX10_level wsX10_level) := goodIn_app (goodIn_of _ (by decide +kernel)) ggL_law_X10_level
set_option maxRecDepth 20000 in
theorem ggL_law_X9_kissOn : GoodIn wsL_law wsX9_kissOn := goodIn_r _ [695, 373, 374, 375, 2, 376, 34, 172, 144, 145, 146, 696, 697, 698, 699, 46, 372, 408, 328, 637, 643, 361, 362, 45, 363, 100, 101, 102, 103, 104, 105, 106, 107, 108, 109, 110, 111, 574, 575, 576, 577, 648, 479, 480, 481, 482, 185, 186, 187, 483, 484, 485, 417, 418, 419, 51, 420, 421, 422, 423, 424, 22, 425, 426, 427, 428, 429, 28, 430, 431, 432, 433, 434, 25, 435, 436, 486, 487, 488, 489, 490, 491, 492, 493, 494, 495, 496, 497, 498, 499, 500, 501, 502, 503, 504, 505, 506, 507, 508, 509, 14, 510, 511, 512, 513, 514, 515, 516, 517, 518, 519, 520, 521, 522, 523, 524, 525, 526, 527, 528, 529, 814, 815, 816, 817, 818, 819, 820, 821, 822, 823, 824, 825, 826, 827, 828, 860, 861, 862, 863, 864, 865, 866, 867, 868, 869, 870, 871, 872, 873, 874, 875, 876, 877, 878, 879, 880, 881] (by decide +kernel) (by decide +kernel)
set_option maxRecDepth 20000 in
theorem gL_law_X9_kissOn : GoodIn wsL_law (wsV RL 88 RX9 yX9_kissOn wsX9_kissOn) := goodIn_app (goodIn_of _ (by decide +kernel)) ggL_law_X9_kissOn
set_option maxRecDepth 20000 in
theorem ggL_law_X10_kissOn : GoodIn wsL_law wsX10_kissOn := goodIn_r _ [703, 399, 400, 401, 5, 402, 136, 157, 158, 159, 704, 705, 706, 707, 654, 655, 656, 657, 538, 539, 540, 541, 121, 542, 543, 544, 545, 441, 442, 443, 444, 124, 123, 546, 547, 548, 549, 550, 551, 552, 553, 554, 555, 556, 557, 558, 559, 560, 561, 562, 563, 564, 565, 566, 567, 568, 582, 583, 584, 585, 662, 663, 664, 665, 829, 830, 831, 832, 833, 834, 835, 836, 837, 838, 839, 840, 841, 842, 843, 844, 845, 846, 847, 848, 849, 850, 851] (by decide +kernel) (by decide +kernel)
set_option maxRecDepth 20000 in
theorem gL_law_X10_kissOn : GoodIn wsL_law (wsV RL 91 RX10 yX10_kissOn wsX10_kissOn) := goodIn_app (goodIn_of _ (by decide +kernel)) ggL_law_X10_kissOn
set_option maxRecDepth 20000 in
theorem ggL_law_X9_take : GoodIn wsL_law wsX9_take := goodIn_r _ [711, 34, 172, 144, 145, 2, 146, 712, 713, 714, 715, 47, 46, 372, 408, 328, 643, 361, 362, 45, 363, 100, 101, 102, 103, 104, 105, 106, 107, 108, 109, 110, 111, 648, 479, 480, 481, 482, 185, 186, 187, 483, 484, 485, 417, 418, 419, 51, 420, 421, 422, 423, 424, 22, 425, 426, 427, 428, 429, 28, 430, 431, 432, 433, 434, 25, 435, 436, 486, 487, 488, 489, 490, 491, 492, 493, 494, 495, 496, 497, 498, 499, 500, 501, 502, 503, 504, 505, 506, 507, 508, 509, 14, 510, 511, 512, 513, 514, 515, 516, 517, 518, 519, 520, 521, 522, 523, 524, 525, 526, 527, 528, 529, 716, 717, 718, 719, 720, 721, 722, 723, 724, 725, 726, 727, 814, 815, 816, 817, 818, 819, 820, 821, 822, 823, 824, 825, 826, 827, 828, 860, 861, 862, 863, 864, 865, 866, 867, 868, 869, 870, 871, 872, 873, 874, 875, 876, 877, 878, 879, 880, 881] (by decide +kernel) (by decide +kernel)
set_option maxRecDepth 20000 in
theorem gL_law_X9_take : GoodIn wsL_law (wsV RL 92 RX9 yX9_take wsX9_take) := goodIn_app (goodIn_of _ (by decide +kernel)) ggL_law_X9_take
set_option maxRecDepth 20000 in
theorem ggL_law_X10_take : GoodIn wsL_law wsX10_take := goodIn_r _ [731, 136, 131, 157, 158, 5, 159, 654, 655, 656, 657, 538, 539, 540, 541, 121, 542, 543, 544, 545, 441, 442, 443, 444, 124, 123, 546, 547, 548, 549, 550, 551, 552, 553, 554, 555, 556, 557, 558, 559, 560, 561, 562, 563, 564, 565, 566, 567, 568, 732, 733, 734, 829, 830, 831, 832, 833, 834, 835, 836, 837, 838, 839, 840, 841, 842, 843, 844, 845, 846, 847, 848, 849, 850, 851] (by decide +kernel) (by decide +kernel)
set_option maxRecDepth 20000 in
theorem gL_law_X10_take : GoodIn wsL_law (wsV RL 96 RX10 yX10_take wsX10_take) := goodIn_app (goodIn_of _ (by decide +kernel)) ggL_law_X10_take
set_option maxRecDepth 20000 in
theorem ggL_law_X9_seen : GoodIn wsL_law wsX9_seen := goodIn_r _ [738, 351, 40, 41, 42, 373, 374, 375, 2, 376, 34, 172, 144, 145, 146, 814, 815, 816, 817, 818, 819, 820, 821, 822, 823, 824, 825, 826, 827, 828, 860, 861, 862, 863] (by decide +kernel) (by decide +kernel)
set_option maxRecDepth 20000 in
theorem gL_law_X9_seen : GoodIn wsL_law (wsV RL 97 RX9 yX9_seen wsX9_seen) := goodIn_app (goodIn_of _ (by decide +kernel)) ggL_law_X9_seen
set_option maxRecDepth 20000 in
theorem ggL_law_X10_seen : GoodIn wsL_law wsX10_seen := goodIn_r _ [742, 138, 128, 399, 400, 401, 5, 402, 136, 157, 158, 159, 829, 830, 831, 832, 833, 834, 835, 836, 837, 838, 839, 840, 841, 842, 843, 844, 845, 846, 847, 848, 849, 850, 851] (by decide +kernel) (by decide +kernel)
set_option maxRecDepth 20000 in
theorem gL_law_X10_seen : GoodIn wsL_law (wsV RL 100 RX10 yX10_seen wsX10_seen) := goodIn_app (goodIn_of _ (by decide +kernel)) ggL_law_X10_seen
set_option maxRecDepth 20000 in
theorem ggL_law_X9_forget : GoodIn wsL_law wsX9_forget := goodIn_r _ [746, 351, 814, 815, 816, 817, 818, 819, 820, 821, 822, 823, 824, 825, 826, 827, 828] (by decide +kernel) (by decide +kernel)
set_option maxRecDepth 20000 in
theorem gL_law_X9_forget : GoodIn wsL_law (wsV RL 101 RX9 yX9_forget wsX9_forget) := goodIn_app (goodIn_of _ (by decide +kernel)) ggL_law_X9_forget
set_option maxRecDepth 20000 in
theorem ggL_law_X10_forget : GoodIn wsL_law wsX10_forget := goodIn_r _ [750, 138, 829, 830, 831, 832, 833, 834, 835, 836, 837, 838, 839, 840, 841, 842, 843, 844, 845, 846, 847, 848, 849, 850, 851] (by decide +kernel) (by decide +kernel)
set_option maxRecDepth 20000 in
theorem gL_law_X10_forget : GoodIn wsL_law (wsV RL 104 RX10 yX10_forget wsX10_forget) := goodIn_app (goodIn_of _ (by decide +kernel)) ggL_law_X10_forget
set_option maxRecDepth 20000 in
theorem ggL_law_X9_tempers : GoodIn wsL_law wsX9_tempers := goodIn_r _ [754, 373, 374, 375, 2, 376, 34, 172, 755, 756, 757, 758, 351, 40, 41, 42, 759, 760, 761, 762, 46, 372, 763, 573, 643, 361, 362, 45, 363, 100, 101, 102, 103, 104, 105, 106, 107, 108, 109, 110, 111, 644, 645, 646, 647, 408, 328, 648, 479, 480, 481, 482, 185, 186, 187, 483, 484, 485, 417, 418, 419, 51, 420, 421, 422, 423, 424, 22, 425, 426, 427, 428, 429, 28, 430, 431, 432, 433, 434, 25, 435, 436, 486, 487, 488, 489, 490, 491, 492, 493, 494, 495, 496, 497, 498, 499, 500, 501, 502, 503, 504, 505, 506, 507, 508, 509, 14, 510, 511, 512, 513, 514, 515, 516, 517, 518, 519, 520, 521, 522, 523, 524, 525, 526, 527, 528, 529, 814, 815, 816, 817, 818, 819, 820, 821, 822, 823, 824, 825, 826, 827, 828, 860, 861, 862, 863, 864, 865, 866, 867, 868, 869, 870, 871, 872, 873, 874, 875, 876, 877, 878, 879, 880, 881] (by decide +kernel) (by decide +kernel)
set_option maxRecDepth 20000 in
theorem gL_law_X9_tempers : GoodIn wsL_law (wsV RL 105 RX9 yX9_tempers wsX9_tempers) := goodIn_app (goodIn_of _ (by decide +kernel)) ggL_law_X9_tempers
set_option maxRecDepth 20000 in
theorem ggL_law_X10_tempers : GoodIn wsL_law wsX10_tempers := goodIn_r _ [767, 124, 399, 400, 401, 5, 402, 136, 157, 158, 159, 768, 769, 770, 771, 138, 128, 121, 654, 655, 656, 657, 538, 539, 540, 541, 542, 543, 544, 545, 441, 442, 443, 444, 123, 546, 547, 548, 549, 550, 551, 552, 553, 554, 555, 556, 557, 558, 559, 560, 561, 562, 563, 564, 565, 566, 567, 568, 829, 830, 831, 832, 833, 834, 835, 836, 837, 838, 839, 840, 841, 842, 843, 844, 845, 846, 847, 848, 849, 850, 851] (by decide +kernel) (by decide +kernel)
set_option maxRecDepth 20000 in
theorem gL_law_X10_tempers : GoodIn wsL_law (wsV RL 108 RX10 yX10_tempers wsX10_tempers) := goodIn_app (goodIn_of _ (by decide +kernel)) ggL_law_X10_tempers
set_option maxRecDepth 20000 in
theorem ggL_law_X9_mothers : GoodIn wsL_law wsX9_mothers := goodIn_r _ [775, 373, 374, 375, 2, 376, 34, 172, 144, 145, 146, 776, 777, 778, 779, 46, 372, 408, 328, 643, 361, 362, 45, 363, 100, 101, 102, 103, 104, 105, 106, 107, 108, 109, 110, 111, 590, 591, 592, 593, 482, 185, 186, 187, 648, 479, 480, 481, 483, 484, 485, 417, 418, 419, 51, 420, 421, 422, 423, 424, 22, 425, 426, 427, 428, 429, 28, 430, 431, 432, 433, 434, 25, 435, 436, 486, 487, 488, 489, 490, 491, 492, 493, 494, 495, 496, 497, 498, 499, 500, 501, 502, 503, 504, 505, 506, 507, 508, 509, 14, 510, 511, 512, 513, 514, 515, 516, 517, 518, 519, 520, 521, 522, 523, 524, 525, 526, 527, 528, 529, 780, 781, 782, 783, 784, 785, 727, 814, 815, 816, 817, 818, 819, 820, 821, 822, 823, 824, 825, 826, 827, 828, 860, 861, 862, 863, 864, 865, 866, 867, 868, 869, 870, 871, 872, 873, 874, 875, 876, 877, 878, 879, 880, 881] (by decide +kernel) (by decide +kernel)
set_option maxRecDepth 20000 in
theorem gL_law_X9_mothers : GoodIn wsL_law (wsV RL 109 RX9 yX9_mothers wsX9_mothers) := goodIn_app (goodIn_of _ (by decide +kernel)) ggL_law_X9_mothers
set_option maxRecDepth 20000 in
theorem ggL_law_X10_mothers : GoodIn wsL_law wsX10_mothers := goodIn_r _ [789, 399, 400, 401, 5, 402, 136, 157, 158, 159, 654, 655, 656, 657, 538, 539, 540, 541, 121, 542, 543, 544, 545, 441, 442, 443, 444, 124, 123, 546, 547, 548, 549, 550, 551, 552, 553, 554, 555, 556, 557, 558, 559, 560, 561, 562, 563, 564, 565, 566, 567, 568, 829, 830, 831, 832, 833, 834, 835, 836, 837, 838, 839, 840, 841, 842, 843, 844, 845, 846, 847, 848, 849, 850, 851] (by decide +kernel) (by decide +kernel)
set_option maxRecDepth 20000 in
theorem gL_law_X10_mothers : GoodIn wsL_law (wsV RL 113 RX10 yX10_mothers wsX10_mothers) := goodIn_app (goodIn_of _ (by decide +kernel)) ggL_law_X10_mothers
set_option maxRecDepth 20000 in
theorem ggL_law_X9_count : GoodIn wsL_law wsX9_count := goodIn_r _ [793, 34, 172, 408, 351, 350, 18, 143, 794, 633, 634, 2, 635, 46, 636, 637, 638, 144, 145, 146, 639, 640, 641, 642, 372, 643, 361, 362, 45, 363, 100, 101, 102, 103, 104, 105, 106, 107, 108, 109, 110, 111, 644, 645, 646, 647, 328, 648, 479, 480, 481, 482, 185, 186, 187, 483, 484, 485, 417, 418, 419, 51, 420, 421, 422, 423, 424, 22, 425, 426, 427, 428, 429, 28, 430, 431, 432, 433, 434, 25, 435, 436, 486, 487, 488, 489, 490, 491, 492, 493, 494, 495, 496, 497, 498, 499, 500, 501, 502, 503, 504, 505, 506, 507, 508, 509, 14, 510, 511, 512, 513, 514, 515, 516, 517, 518, 519, 520, 521, 522, 523, 524, 525, 526, 527, 528, 529, 795, 796, 797, 32, 798, 333, 77, 799, 800, 801, 802, 803, 804, 805, 806, 807, 808, 809, 814, 815, 816, 817, 818, 819, 820, 821, 822, 823, 824, 825, 826, 827, 828, 860, 861, 862, 863, 852, 853, 854, 855, 856, 857, 858, 859, 864, 865, 866, 867, 868, 869, 870, 871, 872, 873, 874, 875, 876, 877, 878, 879, 880, 881] (by decide +kernel) (by decide +kernel)
set_option maxRecDepth 20000 in
theorem gL_law_X9_count : GoodIn wsL_law (wsV RL 114 RX9 yX9_count wsX9_count) := goodIn_app (goodIn_of _ (by decide +kernel)) ggL_law_X9_count
set_option maxRecDepth 20000 in
theorem ggL_law_X10_count : GoodIn wsL_law wsX10_count := goodIn_r _ [813, 136, 121, 653, 138, 137, 156, 658, 659, 660, 5, 661, 662, 663, 664, 665, 829, 830, 831, 832, 833, 834, 835, 836, 837, 838, 839, 840, 841, 842, 843, 844, 845, 846, 847, 848, 849, 850, 851] (by decide +kernel) (by decide +kernel)
set_option maxRecDepth 20000 in
theorem gL_law_X10_count : GoodIn wsL_law (wsV RL 117 RX10 yX10_count wsX10_count) := goodIn_app (goodIn_of _ (by decide +kernel)) ggL_law_X10_count
theorem dL_law_0 : decode cL_law 0 = .ok (.new 7, 3) := by decide +kernel
theorem dL_law_3 : decode cL_law 3 = .ok (.dup, 1) := by decide +kernel
theorem dL_law_4 : decode cL_law 4 = .ok (.invokespecial 9, 3) := by decide +kernel
theorem dL_law_7 : decode cL_law 7 = .ok (.astore_n 1, 1) := by decide +kernel
theorem dL_law_8 : decode cL_law 8 = .ok (.new 10, 3) := by decide +kernel
theorem dL_law_11 : decode cL_law 11 = .ok (.dup, 1) := by decide +kernel
theorem dL_law_12 : decode cL_law 12 = .ok (.invokespecial 12, 3) := by decide +kernel
theorem dL_law_15 : decode cL_law 15 = .ok (.astore_n 2, 1) := by decide +kernel
theorem dL_law_16 : decode cL_law 16 = .ok (.iconst 0, 1) := by decide +kernel
theorem dL_law_17 : decode cL_law 17 = .ok (.istore_n 3, 1) := by decide +kernel
theorem dL_law_18 : decode cL_law 18 = .ok (.iload_n 3, 1) := by decide +kernel
theorem dL_law_19 : decode cL_law 19 = .ok (.aload_n 0, 1) := by decide +kernel
theorem dL_law_20 : decode cL_law 20 = .ok (.arraylength, 1) := by decide +kernel
theorem dL_law_21 : decode cL_law 21 = .ok (.iconst 5, 1) := by decide +kernel
theorem dL_law_22 : decode cL_law 22 = .ok (.isub, 1) := by decide +kernel
theorem dL_law_23 : decode cL_law 23 = .ok (.if_icmp .gt 766, 3) := by decide +kernel
theorem dL_law_26 : decode cL_law 26 = .ok (.aload_n 0, 1) := by decide +kernel
theorem dL_law_27 : decode cL_law 27 = .ok (.iload_n 3, 1) := by decide +kernel
theorem dL_law_28 : decode cL_law 28 = .ok (.iaload, 1) := by decide +kernel
theorem dL_law_29 : decode cL_law 29 = .ok (.bipush 31, 2) := by decide +kernel
theorem dL_law_31 : decode cL_law 31 = .ok (.iand, 1) := by decide +kernel
theorem dL_law_32 : decode cL_law 32 = .ok (.tableswitch 751 0 24 #[116, 139, 152, 165, 178, 211, 244, 267, 280, 303, 326, 359, 372, 395, 418, 441, 474, 497, 520, 553, 596, 639, 652, 675, 728], 116) := by decide +kernel
theorem dL_law_148 : decode cL_law 148 = .ok (.aload_n 1, 1) := by decide +kernel
theorem dL_law_149 : decode cL_law 149 = .ok (.aload_n 0, 1) := by decide +kernel
theorem dL_law_150 : decode cL_law 150 = .ok (.iload_n 3, 1) := by decide +kernel
theorem dL_law_151 : decode cL_law 151 = .ok (.iconst 1, 1) := by decide +kernel
theorem dL_law_152 : decode cL_law 152 = .ok (.iadd, 1) := by decide +kernel
theorem dL_law_153 : decode cL_law 153 = .ok (.iaload, 1) := by decide +kernel
theorem dL_law_154 : decode cL_law 154 = .ok (.invokevirtual 13, 3) := by decide +kernel
theorem dL_law_157 : decode cL_law 157 = .ok (.aload_n 2, 1) := by decide +kernel
theorem dL_law_158 : decode cL_law 158 = .ok (.aload_n 0, 1) := by decide +kernel
theorem dL_law_159 : decode cL_law 159 = .ok (.iload_n 3, 1) := by decide +kernel
theorem dL_law_160 : decode cL_law 160 = .ok (.iconst 1, 1) := by decide +kernel
theorem dL_law_161 : decode cL_law 161 = .ok (.iadd, 1) := by decide +kernel
theorem dL_law_162 : decode cL_law 162 = .ok (.iaload, 1) := by decide +kernel
theorem dL_law_163 : decode cL_law 163 = .ok (.invokevirtual 17, 3) := by decide +kernel
theorem dL_law_166 : decode cL_law 166 = .ok (.if_icmp .eq 617, 3) := by decide +kernel
theorem dL_law_169 : decode cL_law 169 = .ok (.iconst 0, 1) := by decide +kernel
theorem dL_law_170 : decode cL_law 170 = .ok (.ireturn, 1) := by decide +kernel
theorem dL_law_171 : decode cL_law 171 = .ok (.aload_n 1, 1) := by decide +kernel
theorem dL_law_172 : decode cL_law 172 = .ok (.invokevirtual 18, 3) := by decide +kernel
theorem dL_law_175 : decode cL_law 175 = .ok (.aload_n 2, 1) := by decide +kernel
theorem dL_law_176 : decode cL_law 176 = .ok (.invokevirtual 22, 3) := by decide +kernel
theorem dL_law_179 : decode cL_law 179 = .ok (.if_icmp .eq 604, 3) := by decide +kernel
theorem dL_law_182 : decode cL_law 182 = .ok (.iconst 0, 1) := by decide +kernel
theorem dL_law_183 : decode cL_law 183 = .ok (.ireturn, 1) := by decide +kernel
theorem dL_law_184 : decode cL_law 184 = .ok (.aload_n 1, 1) := by decide +kernel
theorem dL_law_185 : decode cL_law 185 = .ok (.invokevirtual 23, 3) := by decide +kernel
theorem dL_law_188 : decode cL_law 188 = .ok (.aload_n 2, 1) := by decide +kernel
theorem dL_law_189 : decode cL_law 189 = .ok (.invokevirtual 26, 3) := by decide +kernel
theorem dL_law_192 : decode cL_law 192 = .ok (.if_icmp .eq 591, 3) := by decide +kernel
theorem dL_law_195 : decode cL_law 195 = .ok (.iconst 0, 1) := by decide +kernel
theorem dL_law_196 : decode cL_law 196 = .ok (.ireturn, 1) := by decide +kernel
theorem dL_law_197 : decode cL_law 197 = .ok (.aload_n 1, 1) := by decide +kernel
theorem dL_law_198 : decode cL_law 198 = .ok (.invokevirtual 27, 3) := by decide +kernel
theorem dL_law_201 : decode cL_law 201 = .ok (.aload_n 2, 1) := by decide +kernel
theorem dL_law_202 : decode cL_law 202 = .ok (.invokevirtual 30, 3) := by decide +kernel
theorem dL_law_205 : decode cL_law 205 = .ok (.if_icmp .eq 578, 3) := by decide +kernel
theorem dL_law_208 : decode cL_law 208 = .ok (.iconst 0, 1) := by decide +kernel
theorem dL_law_209 : decode cL_law 209 = .ok (.ireturn, 1) := by decide +kernel
theorem dL_law_210 : decode cL_law 210 = .ok (.aload_n 1, 1) := by decide +kernel
theorem dL_law_211 : decode cL_law 211 = .ok (.aload_n 0, 1) := by decide +kernel
theorem dL_law_212 : decode cL_law 212 = .ok (.iload_n 3, 1) := by decide +kernel
theorem dL_law_213 : decode cL_law 213 = .ok (.iconst 1, 1) := by decide +kernel
theorem dL_law_214 : decode cL_law 214 = .ok (.iadd, 1) := by decide +kernel
theorem dL_law_215 : decode cL_law 215 = .ok (.iaload, 1) := by decide +kernel
theorem dL_law_216 : decode cL_law 216 = .ok (.aload_n 0, 1) := by decide +kernel
theorem dL_law_217 : decode cL_law 217 = .ok (.iload_n 3, 1) := by decide +kernel
theorem dL_law_218 : decode cL_law 218 = .ok (.iconst 2, 1) := by decide +kernel
theorem dL_law_219 : decode cL_law 219 = .ok (.iadd, 1) := by decide +kernel
theorem dL_law_220 : decode cL_law 220 = .ok (.iaload, 1) := by decide +kernel
theorem dL_law_221 : decode cL_law 221 = .ok (.invokevirtual 31, 3) := by decide +kernel
theorem dL_law_224 : decode cL_law 224 = .ok (.aload_n 2, 1) := by decide +kernel
theorem dL_law_225 : decode cL_law 225 = .ok (.aload_n 0, 1) := by decide +kernel
theorem dL_law_226 : decode cL_law 226 = .ok (.iload_n 3, 1) := by decide +kernel
theorem dL_law_227 : decode cL_law 227 = .ok (.iconst 1, 1) := by decide +kernel
theorem dL_law_228 : decode cL_law 228 = .ok (.iadd, 1) := by decide +kernel
theorem dL_law_229 : decode cL_law 229 = .ok (.iaload, 1) := by decide +kernel
theorem dL_law_230 : decode cL_law 230 = .ok (.aload_n 0, 1) := by decide +kernel
theorem dL_law_231 : decode cL_law 231 = .ok (.iload_n 3, 1) := by decide +kernel
theorem dL_law_232 : decode cL_law 232 = .ok (.iconst 2, 1) := by decide +kernel
theorem dL_law_233 : decode cL_law 233 = .ok (.iadd, 1) := by decide +kernel
theorem dL_law_234 : decode cL_law 234 = .ok (.iaload, 1) := by decide +kernel
theorem dL_law_235 : decode cL_law 235 = .ok (.invokevirtual 35, 3) := by decide +kernel
theorem dL_law_238 : decode cL_law 238 = .ok (.if_icmp .eq 545, 3) := by decide +kernel
theorem dL_law_241 : decode cL_law 241 = .ok (.iconst 0, 1) := by decide +kernel
theorem dL_law_242 : decode cL_law 242 = .ok (.ireturn, 1) := by decide +kernel
theorem dL_law_243 : decode cL_law 243 = .ok (.aload_n 1, 1) := by decide +kernel
theorem dL_law_244 : decode cL_law 244 = .ok (.aload_n 0, 1) := by decide +kernel
theorem dL_law_245 : decode cL_law 245 = .ok (.iload_n 3, 1) := by decide +kernel
theorem dL_law_246 : decode cL_law 246 = .ok (.iconst 1, 1) := by decide +kernel
theorem dL_law_247 : decode cL_law 247 = .ok (.iadd, 1) := by decide +kernel
theorem dL_law_248 : decode cL_law 248 = .ok (.iaload, 1) := by decide +kernel
theorem dL_law_249 : decode cL_law 249 = .ok (.aload_n 0, 1) := by decide +kernel
theorem dL_law_250 : decode cL_law 250 = .ok (.iload_n 3, 1) := by decide +kernel
theorem dL_law_251 : decode cL_law 251 = .ok (.iconst 2, 1) := by decide +kernel
theorem dL_law_252 : decode cL_law 252 = .ok (.iadd, 1) := by decide +kernel
theorem dL_law_253 : decode cL_law 253 = .ok (.iaload, 1) := by decide +kernel
theorem dL_law_254 : decode cL_law 254 = .ok (.invokevirtual 36, 3) := by decide +kernel
theorem dL_law_257 : decode cL_law 257 = .ok (.aload_n 2, 1) := by decide +kernel
theorem dL_law_258 : decode cL_law 258 = .ok (.aload_n 0, 1) := by decide +kernel
theorem dL_law_259 : decode cL_law 259 = .ok (.iload_n 3, 1) := by decide +kernel
theorem dL_law_260 : decode cL_law 260 = .ok (.iconst 1, 1) := by decide +kernel
theorem dL_law_261 : decode cL_law 261 = .ok (.iadd, 1) := by decide +kernel
theorem dL_law_262 : decode cL_law 262 = .ok (.iaload, 1) := by decide +kernel
theorem dL_law_263 : decode cL_law 263 = .ok (.aload_n 0, 1) := by decide +kernel
theorem dL_law_264 : decode cL_law 264 = .ok (.iload_n 3, 1) := by decide +kernel
theorem dL_law_265 : decode cL_law 265 = .ok (.iconst 2, 1) := by decide +kernel
theorem dL_law_266 : decode cL_law 266 = .ok (.iadd, 1) := by decide +kernel
theorem dL_law_267 : decode cL_law 267 = .ok (.iaload, 1) := by decide +kernel
theorem dL_law_268 : decode cL_law 268 = .ok (.invokevirtual 39, 3) := by decide +kernel
theorem dL_law_271 : decode cL_law 271 = .ok (.if_icmp .eq 512, 3) := by decide +kernel
theorem dL_law_274 : decode cL_law 274 = .ok (.iconst 0, 1) := by decide +kernel
theorem dL_law_275 : decode cL_law 275 = .ok (.ireturn, 1) := by decide +kernel
theorem dL_law_276 : decode cL_law 276 = .ok (.aload_n 1, 1) := by decide +kernel
theorem dL_law_277 : decode cL_law 277 = .ok (.aload_n 0, 1) := by decide +kernel
theorem dL_law_278 : decode cL_law 278 = .ok (.iload_n 3, 1) := by decide +kernel
theorem dL_law_279 : decode cL_law 279 = .ok (.iconst 1, 1) := by decide +kernel
theorem dL_law_280 : decode cL_law 280 = .ok (.iadd, 1) := by decide +kernel
theorem dL_law_281 : decode cL_law 281 = .ok (.iaload, 1) := by decide +kernel
theorem dL_law_282 : decode cL_law 282 = .ok (.invokevirtual 40, 3) := by decide +kernel
theorem dL_law_285 : decode cL_law 285 = .ok (.aload_n 2, 1) := by decide +kernel
theorem dL_law_286 : decode cL_law 286 = .ok (.aload_n 0, 1) := by decide +kernel
theorem dL_law_287 : decode cL_law 287 = .ok (.iload_n 3, 1) := by decide +kernel
theorem dL_law_288 : decode cL_law 288 = .ok (.iconst 1, 1) := by decide +kernel
theorem dL_law_289 : decode cL_law 289 = .ok (.iadd, 1) := by decide +kernel
theorem dL_law_290 : decode cL_law 290 = .ok (.iaload, 1) := by decide +kernel
theorem dL_law_291 : decode cL_law 291 = .ok (.invokevirtual 43, 3) := by decide +kernel
theorem dL_law_294 : decode cL_law 294 = .ok (.if_icmp .eq 489, 3) := by decide +kernel
theorem dL_law_297 : decode cL_law 297 = .ok (.iconst 0, 1) := by decide +kernel
theorem dL_law_298 : decode cL_law 298 = .ok (.ireturn, 1) := by decide +kernel
theorem dL_law_299 : decode cL_law 299 = .ok (.aload_n 1, 1) := by decide +kernel
theorem dL_law_300 : decode cL_law 300 = .ok (.invokevirtual 44, 3) := by decide +kernel
theorem dL_law_303 : decode cL_law 303 = .ok (.aload_n 2, 1) := by decide +kernel
theorem dL_law_304 : decode cL_law 304 = .ok (.invokevirtual 47, 3) := by decide +kernel
theorem dL_law_307 : decode cL_law 307 = .ok (.if_icmp .eq 476, 3) := by decide +kernel
theorem dL_law_310 : decode cL_law 310 = .ok (.iconst 0, 1) := by decide +kernel
theorem dL_law_311 : decode cL_law 311 = .ok (.ireturn, 1) := by decide +kernel
theorem dL_law_312 : decode cL_law 312 = .ok (.aload_n 1, 1) := by decide +kernel
theorem dL_law_313 : decode cL_law 313 = .ok (.aload_n 0, 1) := by decide +kernel
theorem dL_law_314 : decode cL_law 314 = .ok (.iload_n 3, 1) := by decide +kernel
theorem dL_law_315 : decode cL_law 315 = .ok (.iconst 1, 1) := by decide +kernel
theorem dL_law_316 : decode cL_law 316 = .ok (.iadd, 1) := by decide +kernel
theorem dL_law_317 : decode cL_law 317 = .ok (.iaload, 1) := by decide +kernel
theorem dL_law_318 : decode cL_law 318 = .ok (.invokevirtual 48, 3) := by decide +kernel
theorem dL_law_321 : decode cL_law 321 = .ok (.aload_n 2, 1) := by decide +kernel
theorem dL_law_322 : decode cL_law 322 = .ok (.aload_n 0, 1) := by decide +kernel
theorem dL_law_323 : decode cL_law 323 = .ok (.iload_n 3, 1) := by decide +kernel
theorem dL_law_324 : decode cL_law 324 = .ok (.iconst 1, 1) := by decide +kernel
theorem dL_law_325 : decode cL_law 325 = .ok (.iadd, 1) := by decide +kernel
theorem dL_law_326 : decode cL_law 326 = .ok (.iaload, 1) := by decide +kernel
theorem dL_law_327 : decode cL_law 327 = .ok (.invokevirtual 51, 3) := by decide +kernel
theorem dL_law_330 : decode cL_law 330 = .ok (.if_icmp .eq 453, 3) := by decide +kernel
theorem dL_law_333 : decode cL_law 333 = .ok (.iconst 0, 1) := by decide +kernel
theorem dL_law_334 : decode cL_law 334 = .ok (.ireturn, 1) := by decide +kernel
theorem dL_law_335 : decode cL_law 335 = .ok (.aload_n 1, 1) := by decide +kernel
theorem dL_law_336 : decode cL_law 336 = .ok (.aload_n 0, 1) := by decide +kernel
theorem dL_law_337 : decode cL_law 337 = .ok (.iload_n 3, 1) := by decide +kernel
theorem dL_law_338 : decode cL_law 338 = .ok (.iconst 1, 1) := by decide +kernel
theorem dL_law_339 : decode cL_law 339 = .ok (.iadd, 1) := by decide +kernel
theorem dL_law_340 : decode cL_law 340 = .ok (.iaload, 1) := by decide +kernel
theorem dL_law_341 : decode cL_law 341 = .ok (.invokevirtual 52, 3) := by decide +kernel
theorem dL_law_344 : decode cL_law 344 = .ok (.aload_n 2, 1) := by decide +kernel
theorem dL_law_345 : decode cL_law 345 = .ok (.aload_n 0, 1) := by decide +kernel
theorem dL_law_346 : decode cL_law 346 = .ok (.iload_n 3, 1) := by decide +kernel
theorem dL_law_347 : decode cL_law 347 = .ok (.iconst 1, 1) := by decide +kernel
theorem dL_law_348 : decode cL_law 348 = .ok (.iadd, 1) := by decide +kernel
theorem dL_law_349 : decode cL_law 349 = .ok (.iaload, 1) := by decide +kernel
theorem dL_law_350 : decode cL_law 350 = .ok (.invokevirtual 55, 3) := by decide +kernel
theorem dL_law_353 : decode cL_law 353 = .ok (.if_icmp .eq 430, 3) := by decide +kernel
theorem dL_law_356 : decode cL_law 356 = .ok (.iconst 0, 1) := by decide +kernel
theorem dL_law_357 : decode cL_law 357 = .ok (.ireturn, 1) := by decide +kernel
theorem dL_law_358 : decode cL_law 358 = .ok (.aload_n 1, 1) := by decide +kernel
theorem dL_law_359 : decode cL_law 359 = .ok (.aload_n 0, 1) := by decide +kernel
theorem dL_law_360 : decode cL_law 360 = .ok (.iload_n 3, 1) := by decide +kernel
theorem dL_law_361 : decode cL_law 361 = .ok (.iconst 1, 1) := by decide +kernel
theorem dL_law_362 : decode cL_law 362 = .ok (.iadd, 1) := by decide +kernel
theorem dL_law_363 : decode cL_law 363 = .ok (.iaload, 1) := by decide +kernel
theorem dL_law_364 : decode cL_law 364 = .ok (.aload_n 0, 1) := by decide +kernel
theorem dL_law_365 : decode cL_law 365 = .ok (.iload_n 3, 1) := by decide +kernel
theorem dL_law_366 : decode cL_law 366 = .ok (.iconst 2, 1) := by decide +kernel
theorem dL_law_367 : decode cL_law 367 = .ok (.iadd, 1) := by decide +kernel
theorem dL_law_368 : decode cL_law 368 = .ok (.iaload, 1) := by decide +kernel
theorem dL_law_369 : decode cL_law 369 = .ok (.invokevirtual 56, 3) := by decide +kernel
theorem dL_law_372 : decode cL_law 372 = .ok (.aload_n 2, 1) := by decide +kernel
theorem dL_law_373 : decode cL_law 373 = .ok (.aload_n 0, 1) := by decide +kernel
theorem dL_law_374 : decode cL_law 374 = .ok (.iload_n 3, 1) := by decide +kernel
theorem dL_law_375 : decode cL_law 375 = .ok (.iconst 1, 1) := by decide +kernel
theorem dL_law_376 : decode cL_law 376 = .ok (.iadd, 1) := by decide +kernel
theorem dL_law_377 : decode cL_law 377 = .ok (.iaload, 1) := by decide +kernel
theorem dL_law_378 : decode cL_law 378 = .ok (.aload_n 0, 1) := by decide +kernel
theorem dL_law_379 : decode cL_law 379 = .ok (.iload_n 3, 1) := by decide +kernel
theorem dL_law_380 : decode cL_law 380 = .ok (.iconst 2, 1) := by decide +kernel
theorem dL_law_381 : decode cL_law 381 = .ok (.iadd, 1) := by decide +kernel
theorem dL_law_382 : decode cL_law 382 = .ok (.iaload, 1) := by decide +kernel
theorem dL_law_383 : decode cL_law 383 = .ok (.invokevirtual 59, 3) := by decide +kernel
theorem dL_law_386 : decode cL_law 386 = .ok (.if_icmp .eq 397, 3) := by decide +kernel
theorem dL_law_389 : decode cL_law 389 = .ok (.iconst 0, 1) := by decide +kernel
theorem dL_law_390 : decode cL_law 390 = .ok (.ireturn, 1) := by decide +kernel
theorem dL_law_391 : decode cL_law 391 = .ok (.aload_n 1, 1) := by decide +kernel
theorem dL_law_392 : decode cL_law 392 = .ok (.invokevirtual 60, 3) := by decide +kernel
theorem dL_law_395 : decode cL_law 395 = .ok (.aload_n 2, 1) := by decide +kernel
theorem dL_law_396 : decode cL_law 396 = .ok (.invokevirtual 63, 3) := by decide +kernel
theorem dL_law_399 : decode cL_law 399 = .ok (.if_icmp .eq 384, 3) := by decide +kernel
theorem dL_law_402 : decode cL_law 402 = .ok (.iconst 0, 1) := by decide +kernel
theorem dL_law_403 : decode cL_law 403 = .ok (.ireturn, 1) := by decide +kernel
theorem dL_law_404 : decode cL_law 404 = .ok (.aload_n 1, 1) := by decide +kernel
theorem dL_law_405 : decode cL_law 405 = .ok (.aload_n 0, 1) := by decide +kernel
theorem dL_law_406 : decode cL_law 406 = .ok (.iload_n 3, 1) := by decide +kernel
theorem dL_law_407 : decode cL_law 407 = .ok (.iconst 1, 1) := by decide +kernel
theorem dL_law_408 : decode cL_law 408 = .ok (.iadd, 1) := by decide +kernel
theorem dL_law_409 : decode cL_law 409 = .ok (.iaload, 1) := by decide +kernel
theorem dL_law_410 : decode cL_law 410 = .ok (.invokevirtual 64, 3) := by decide +kernel
theorem dL_law_413 : decode cL_law 413 = .ok (.aload_n 2, 1) := by decide +kernel
theorem dL_law_414 : decode cL_law 414 = .ok (.aload_n 0, 1) := by decide +kernel
theorem dL_law_415 : decode cL_law 415 = .ok (.iload_n 3, 1) := by decide +kernel
theorem dL_law_416 : decode cL_law 416 = .ok (.iconst 1, 1) := by decide +kernel
theorem dL_law_417 : decode cL_law 417 = .ok (.iadd, 1) := by decide +kernel
theorem dL_law_418 : decode cL_law 418 = .ok (.iaload, 1) := by decide +kernel
theorem dL_law_419 : decode cL_law 419 = .ok (.invokevirtual 67, 3) := by decide +kernel
theorem dL_law_422 : decode cL_law 422 = .ok (.if_icmp .eq 361, 3) := by decide +kernel
theorem dL_law_425 : decode cL_law 425 = .ok (.iconst 0, 1) := by decide +kernel
theorem dL_law_426 : decode cL_law 426 = .ok (.ireturn, 1) := by decide +kernel
theorem dL_law_427 : decode cL_law 427 = .ok (.aload_n 1, 1) := by decide +kernel
theorem dL_law_428 : decode cL_law 428 = .ok (.aload_n 0, 1) := by decide +kernel
theorem dL_law_429 : decode cL_law 429 = .ok (.iload_n 3, 1) := by decide +kernel
theorem dL_law_430 : decode cL_law 430 = .ok (.iconst 1, 1) := by decide +kernel
theorem dL_law_431 : decode cL_law 431 = .ok (.iadd, 1) := by decide +kernel
theorem dL_law_432 : decode cL_law 432 = .ok (.iaload, 1) := by decide +kernel
theorem dL_law_433 : decode cL_law 433 = .ok (.invokevirtual 68, 3) := by decide +kernel
theorem dL_law_436 : decode cL_law 436 = .ok (.aload_n 2, 1) := by decide +kernel
theorem dL_law_437 : decode cL_law 437 = .ok (.aload_n 0, 1) := by decide +kernel
theorem dL_law_438 : decode cL_law 438 = .ok (.iload_n 3, 1) := by decide +kernel
theorem dL_law_439 : decode cL_law 439 = .ok (.iconst 1, 1) := by decide +kernel
theorem dL_law_440 : decode cL_law 440 = .ok (.iadd, 1) := by decide +kernel
theorem dL_law_441 : decode cL_law 441 = .ok (.iaload, 1) := by decide +kernel
theorem dL_law_442 : decode cL_law 442 = .ok (.invokevirtual 71, 3) := by decide +kernel
theorem dL_law_445 : decode cL_law 445 = .ok (.if_icmp .eq 338, 3) := by decide +kernel
theorem dL_law_448 : decode cL_law 448 = .ok (.iconst 0, 1) := by decide +kernel
theorem dL_law_449 : decode cL_law 449 = .ok (.ireturn, 1) := by decide +kernel
theorem dL_law_450 : decode cL_law 450 = .ok (.aload_n 1, 1) := by decide +kernel
theorem dL_law_451 : decode cL_law 451 = .ok (.aload_n 0, 1) := by decide +kernel
theorem dL_law_452 : decode cL_law 452 = .ok (.iload_n 3, 1) := by decide +kernel
theorem dL_law_453 : decode cL_law 453 = .ok (.iconst 1, 1) := by decide +kernel
theorem dL_law_454 : decode cL_law 454 = .ok (.iadd, 1) := by decide +kernel
theorem dL_law_455 : decode cL_law 455 = .ok (.iaload, 1) := by decide +kernel
theorem dL_law_456 : decode cL_law 456 = .ok (.invokevirtual 72, 3) := by decide +kernel
theorem dL_law_459 : decode cL_law 459 = .ok (.aload_n 2, 1) := by decide +kernel
theorem dL_law_460 : decode cL_law 460 = .ok (.aload_n 0, 1) := by decide +kernel
theorem dL_law_461 : decode cL_law 461 = .ok (.iload_n 3, 1) := by decide +kernel
theorem dL_law_462 : decode cL_law 462 = .ok (.iconst 1, 1) := by decide +kernel
theorem dL_law_463 : decode cL_law 463 = .ok (.iadd, 1) := by decide +kernel
theorem dL_law_464 : decode cL_law 464 = .ok (.iaload, 1) := by decide +kernel
theorem dL_law_465 : decode cL_law 465 = .ok (.invokevirtual 75, 3) := by decide +kernel
theorem dL_law_468 : decode cL_law 468 = .ok (.if_icmp .eq 315, 3) := by decide +kernel
theorem dL_law_471 : decode cL_law 471 = .ok (.iconst 0, 1) := by decide +kernel
theorem dL_law_472 : decode cL_law 472 = .ok (.ireturn, 1) := by decide +kernel
theorem dL_law_473 : decode cL_law 473 = .ok (.aload_n 1, 1) := by decide +kernel
theorem dL_law_474 : decode cL_law 474 = .ok (.aload_n 0, 1) := by decide +kernel
theorem dL_law_475 : decode cL_law 475 = .ok (.iload_n 3, 1) := by decide +kernel
theorem dL_law_476 : decode cL_law 476 = .ok (.iconst 1, 1) := by decide +kernel
theorem dL_law_477 : decode cL_law 477 = .ok (.iadd, 1) := by decide +kernel
theorem dL_law_478 : decode cL_law 478 = .ok (.iaload, 1) := by decide +kernel
theorem dL_law_479 : decode cL_law 479 = .ok (.aload_n 0, 1) := by decide +kernel
theorem dL_law_480 : decode cL_law 480 = .ok (.iload_n 3, 1) := by decide +kernel
theorem dL_law_481 : decode cL_law 481 = .ok (.iconst 2, 1) := by decide +kernel
theorem dL_law_482 : decode cL_law 482 = .ok (.iadd, 1) := by decide +kernel
theorem dL_law_483 : decode cL_law 483 = .ok (.iaload, 1) := by decide +kernel
theorem dL_law_484 : decode cL_law 484 = .ok (.invokevirtual 76, 3) := by decide +kernel
theorem dL_law_487 : decode cL_law 487 = .ok (.aload_n 2, 1) := by decide +kernel
theorem dL_law_488 : decode cL_law 488 = .ok (.aload_n 0, 1) := by decide +kernel
theorem dL_law_489 : decode cL_law 489 = .ok (.iload_n 3, 1) := by decide +kernel
theorem dL_law_490 : decode cL_law 490 = .ok (.iconst 1, 1) := by decide +kernel
theorem dL_law_491 : decode cL_law 491 = .ok (.iadd, 1) := by decide +kernel
theorem dL_law_492 : decode cL_law 492 = .ok (.iaload, 1) := by decide +kernel
theorem dL_law_493 : decode cL_law 493 = .ok (.aload_n 0, 1) := by decide +kernel
theorem dL_law_494 : decode cL_law 494 = .ok (.iload_n 3, 1) := by decide +kernel
theorem dL_law_495 : decode cL_law 495 = .ok (.iconst 2, 1) := by decide +kernel
theorem dL_law_496 : decode cL_law 496 = .ok (.iadd, 1) := by decide +kernel
theorem dL_law_497 : decode cL_law 497 = .ok (.iaload, 1) := by decide +kernel
theorem dL_law_498 : decode cL_law 498 = .ok (.invokevirtual 79, 3) := by decide +kernel
theorem dL_law_501 : decode cL_law 501 = .ok (.if_icmp .eq 282, 3) := by decide +kernel
theorem dL_law_504 : decode cL_law 504 = .ok (.iconst 0, 1) := by decide +kernel
theorem dL_law_505 : decode cL_law 505 = .ok (.ireturn, 1) := by decide +kernel
theorem dL_law_506 : decode cL_law 506 = .ok (.aload_n 1, 1) := by decide +kernel
theorem dL_law_507 : decode cL_law 507 = .ok (.aload_n 0, 1) := by decide +kernel
theorem dL_law_508 : decode cL_law 508 = .ok (.iload_n 3, 1) := by decide +kernel
theorem dL_law_509 : decode cL_law 509 = .ok (.iconst 1, 1) := by decide +kernel
theorem dL_law_510 : decode cL_law 510 = .ok (.iadd, 1) := by decide +kernel
theorem dL_law_511 : decode cL_law 511 = .ok (.iaload, 1) := by decide +kernel
theorem dL_law_512 : decode cL_law 512 = .ok (.invokevirtual 80, 3) := by decide +kernel
theorem dL_law_515 : decode cL_law 515 = .ok (.aload_n 2, 1) := by decide +kernel
theorem dL_law_516 : decode cL_law 516 = .ok (.aload_n 0, 1) := by decide +kernel
theorem dL_law_517 : decode cL_law 517 = .ok (.iload_n 3, 1) := by decide +kernel
theorem dL_law_518 : decode cL_law 518 = .ok (.iconst 1, 1) := by decide +kernel
theorem dL_law_519 : decode cL_law 519 = .ok (.iadd, 1) := by decide +kernel
theorem dL_law_520 : decode cL_law 520 = .ok (.iaload, 1) := by decide +kernel
theorem dL_law_521 : decode cL_law 521 = .ok (.invokevirtual 83, 3) := by decide +kernel
theorem dL_law_524 : decode cL_law 524 = .ok (.if_icmp .eq 259, 3) := by decide +kernel
theorem dL_law_527 : decode cL_law 527 = .ok (.iconst 0, 1) := by decide +kernel
theorem dL_law_528 : decode cL_law 528 = .ok (.ireturn, 1) := by decide +kernel
theorem dL_law_529 : decode cL_law 529 = .ok (.aload_n 1, 1) := by decide +kernel
theorem dL_law_530 : decode cL_law 530 = .ok (.aload_n 0, 1) := by decide +kernel
theorem dL_law_531 : decode cL_law 531 = .ok (.iload_n 3, 1) := by decide +kernel
theorem dL_law_532 : decode cL_law 532 = .ok (.iconst 1, 1) := by decide +kernel
theorem dL_law_533 : decode cL_law 533 = .ok (.iadd, 1) := by decide +kernel
theorem dL_law_534 : decode cL_law 534 = .ok (.iaload, 1) := by decide +kernel
theorem dL_law_535 : decode cL_law 535 = .ok (.invokevirtual 84, 3) := by decide +kernel
theorem dL_law_538 : decode cL_law 538 = .ok (.aload_n 2, 1) := by decide +kernel
theorem dL_law_539 : decode cL_law 539 = .ok (.aload_n 0, 1) := by decide +kernel
theorem dL_law_540 : decode cL_law 540 = .ok (.iload_n 3, 1) := by decide +kernel
theorem dL_law_541 : decode cL_law 541 = .ok (.iconst 1, 1) := by decide +kernel
theorem dL_law_542 : decode cL_law 542 = .ok (.iadd, 1) := by decide +kernel
theorem dL_law_543 : decode cL_law 543 = .ok (.iaload, 1) := by decide +kernel
theorem dL_law_544 : decode cL_law 544 = .ok (.invokevirtual 87, 3) := by decide +kernel
theorem dL_law_547 : decode cL_law 547 = .ok (.if_icmp .eq 236, 3) := by decide +kernel
theorem dL_law_550 : decode cL_law 550 = .ok (.iconst 0, 1) := by decide +kernel
theorem dL_law_551 : decode cL_law 551 = .ok (.ireturn, 1) := by decide +kernel
theorem dL_law_552 : decode cL_law 552 = .ok (.aload_n 1, 1) := by decide +kernel
theorem dL_law_553 : decode cL_law 553 = .ok (.aload_n 0, 1) := by decide +kernel
theorem dL_law_554 : decode cL_law 554 = .ok (.iload_n 3, 1) := by decide +kernel
theorem dL_law_555 : decode cL_law 555 = .ok (.iconst 1, 1) := by decide +kernel
theorem dL_law_556 : decode cL_law 556 = .ok (.iadd, 1) := by decide +kernel
theorem dL_law_557 : decode cL_law 557 = .ok (.iaload, 1) := by decide +kernel
theorem dL_law_558 : decode cL_law 558 = .ok (.aload_n 0, 1) := by decide +kernel
theorem dL_law_559 : decode cL_law 559 = .ok (.iload_n 3, 1) := by decide +kernel
theorem dL_law_560 : decode cL_law 560 = .ok (.iconst 2, 1) := by decide +kernel
theorem dL_law_561 : decode cL_law 561 = .ok (.iadd, 1) := by decide +kernel
theorem dL_law_562 : decode cL_law 562 = .ok (.iaload, 1) := by decide +kernel
theorem dL_law_563 : decode cL_law 563 = .ok (.invokevirtual 88, 3) := by decide +kernel
theorem dL_law_566 : decode cL_law 566 = .ok (.aload_n 2, 1) := by decide +kernel
theorem dL_law_567 : decode cL_law 567 = .ok (.aload_n 0, 1) := by decide +kernel
theorem dL_law_568 : decode cL_law 568 = .ok (.iload_n 3, 1) := by decide +kernel
theorem dL_law_569 : decode cL_law 569 = .ok (.iconst 1, 1) := by decide +kernel
theorem dL_law_570 : decode cL_law 570 = .ok (.iadd, 1) := by decide +kernel
theorem dL_law_571 : decode cL_law 571 = .ok (.iaload, 1) := by decide +kernel
theorem dL_law_572 : decode cL_law 572 = .ok (.aload_n 0, 1) := by decide +kernel
theorem dL_law_573 : decode cL_law 573 = .ok (.iload_n 3, 1) := by decide +kernel
theorem dL_law_574 : decode cL_law 574 = .ok (.iconst 2, 1) := by decide +kernel
theorem dL_law_575 : decode cL_law 575 = .ok (.iadd, 1) := by decide +kernel
theorem dL_law_576 : decode cL_law 576 = .ok (.iaload, 1) := by decide +kernel
theorem dL_law_577 : decode cL_law 577 = .ok (.invokevirtual 91, 3) := by decide +kernel
theorem dL_law_580 : decode cL_law 580 = .ok (.if_icmp .eq 203, 3) := by decide +kernel
theorem dL_law_583 : decode cL_law 583 = .ok (.iconst 0, 1) := by decide +kernel
theorem dL_law_584 : decode cL_law 584 = .ok (.ireturn, 1) := by decide +kernel
theorem dL_law_585 : decode cL_law 585 = .ok (.aload_n 1, 1) := by decide +kernel
theorem dL_law_586 : decode cL_law 586 = .ok (.aload_n 0, 1) := by decide +kernel
theorem dL_law_587 : decode cL_law 587 = .ok (.iload_n 3, 1) := by decide +kernel
theorem dL_law_588 : decode cL_law 588 = .ok (.iconst 1, 1) := by decide +kernel
theorem dL_law_589 : decode cL_law 589 = .ok (.iadd, 1) := by decide +kernel
theorem dL_law_590 : decode cL_law 590 = .ok (.iaload, 1) := by decide +kernel
theorem dL_law_591 : decode cL_law 591 = .ok (.aload_n 0, 1) := by decide +kernel
theorem dL_law_592 : decode cL_law 592 = .ok (.iload_n 3, 1) := by decide +kernel
theorem dL_law_593 : decode cL_law 593 = .ok (.iconst 2, 1) := by decide +kernel
theorem dL_law_594 : decode cL_law 594 = .ok (.iadd, 1) := by decide +kernel
theorem dL_law_595 : decode cL_law 595 = .ok (.iaload, 1) := by decide +kernel
theorem dL_law_596 : decode cL_law 596 = .ok (.aload_n 0, 1) := by decide +kernel
theorem dL_law_597 : decode cL_law 597 = .ok (.iload_n 3, 1) := by decide +kernel
theorem dL_law_598 : decode cL_law 598 = .ok (.iconst 3, 1) := by decide +kernel
theorem dL_law_599 : decode cL_law 599 = .ok (.iadd, 1) := by decide +kernel
theorem dL_law_600 : decode cL_law 600 = .ok (.iaload, 1) := by decide +kernel
theorem dL_law_601 : decode cL_law 601 = .ok (.invokevirtual 92, 3) := by decide +kernel
theorem dL_law_604 : decode cL_law 604 = .ok (.aload_n 2, 1) := by decide +kernel
theorem dL_law_605 : decode cL_law 605 = .ok (.aload_n 0, 1) := by decide +kernel
theorem dL_law_606 : decode cL_law 606 = .ok (.iload_n 3, 1) := by decide +kernel
theorem dL_law_607 : decode cL_law 607 = .ok (.iconst 1, 1) := by decide +kernel
theorem dL_law_608 : decode cL_law 608 = .ok (.iadd, 1) := by decide +kernel
theorem dL_law_609 : decode cL_law 609 = .ok (.iaload, 1) := by decide +kernel
theorem dL_law_610 : decode cL_law 610 = .ok (.aload_n 0, 1) := by decide +kernel
theorem dL_law_611 : decode cL_law 611 = .ok (.iload_n 3, 1) := by decide +kernel
theorem dL_law_612 : decode cL_law 612 = .ok (.iconst 2, 1) := by decide +kernel
theorem dL_law_613 : decode cL_law 613 = .ok (.iadd, 1) := by decide +kernel
theorem dL_law_614 : decode cL_law 614 = .ok (.iaload, 1) := by decide +kernel
theorem dL_law_615 : decode cL_law 615 = .ok (.aload_n 0, 1) := by decide +kernel
theorem dL_law_616 : decode cL_law 616 = .ok (.iload_n 3, 1) := by decide +kernel
theorem dL_law_617 : decode cL_law 617 = .ok (.iconst 3, 1) := by decide +kernel
theorem dL_law_618 : decode cL_law 618 = .ok (.iadd, 1) := by decide +kernel
theorem dL_law_619 : decode cL_law 619 = .ok (.iaload, 1) := by decide +kernel
theorem dL_law_620 : decode cL_law 620 = .ok (.invokevirtual 96, 3) := by decide +kernel
theorem dL_law_623 : decode cL_law 623 = .ok (.if_icmp .eq 160, 3) := by decide +kernel
theorem dL_law_626 : decode cL_law 626 = .ok (.iconst 0, 1) := by decide +kernel
theorem dL_law_627 : decode cL_law 627 = .ok (.ireturn, 1) := by decide +kernel
theorem dL_law_628 : decode cL_law 628 = .ok (.aload_n 1, 1) := by decide +kernel
theorem dL_law_629 : decode cL_law 629 = .ok (.aload_n 0, 1) := by decide +kernel
theorem dL_law_630 : decode cL_law 630 = .ok (.iload_n 3, 1) := by decide +kernel
theorem dL_law_631 : decode cL_law 631 = .ok (.iconst 1, 1) := by decide +kernel
theorem dL_law_632 : decode cL_law 632 = .ok (.iadd, 1) := by decide +kernel
theorem dL_law_633 : decode cL_law 633 = .ok (.iaload, 1) := by decide +kernel
theorem dL_law_634 : decode cL_law 634 = .ok (.aload_n 0, 1) := by decide +kernel
theorem dL_law_635 : decode cL_law 635 = .ok (.iload_n 3, 1) := by decide +kernel
theorem dL_law_636 : decode cL_law 636 = .ok (.iconst 2, 1) := by decide +kernel
theorem dL_law_637 : decode cL_law 637 = .ok (.iadd, 1) := by decide +kernel
theorem dL_law_638 : decode cL_law 638 = .ok (.iaload, 1) := by decide +kernel
theorem dL_law_639 : decode cL_law 639 = .ok (.aload_n 0, 1) := by decide +kernel
theorem dL_law_640 : decode cL_law 640 = .ok (.iload_n 3, 1) := by decide +kernel
theorem dL_law_641 : decode cL_law 641 = .ok (.iconst 3, 1) := by decide +kernel
theorem dL_law_642 : decode cL_law 642 = .ok (.iadd, 1) := by decide +kernel
theorem dL_law_643 : decode cL_law 643 = .ok (.iaload, 1) := by decide +kernel
theorem dL_law_644 : decode cL_law 644 = .ok (.invokevirtual 97, 3) := by decide +kernel
theorem dL_law_647 : decode cL_law 647 = .ok (.aload_n 2, 1) := by decide +kernel
theorem dL_law_648 : decode cL_law 648 = .ok (.aload_n 0, 1) := by decide +kernel
theorem dL_law_649 : decode cL_law 649 = .ok (.iload_n 3, 1) := by decide +kernel
theorem dL_law_650 : decode cL_law 650 = .ok (.iconst 1, 1) := by decide +kernel
theorem dL_law_651 : decode cL_law 651 = .ok (.iadd, 1) := by decide +kernel
theorem dL_law_652 : decode cL_law 652 = .ok (.iaload, 1) := by decide +kernel
theorem dL_law_653 : decode cL_law 653 = .ok (.aload_n 0, 1) := by decide +kernel
theorem dL_law_654 : decode cL_law 654 = .ok (.iload_n 3, 1) := by decide +kernel
theorem dL_law_655 : decode cL_law 655 = .ok (.iconst 2, 1) := by decide +kernel
theorem dL_law_656 : decode cL_law 656 = .ok (.iadd, 1) := by decide +kernel
theorem dL_law_657 : decode cL_law 657 = .ok (.iaload, 1) := by decide +kernel
theorem dL_law_658 : decode cL_law 658 = .ok (.aload_n 0, 1) := by decide +kernel
theorem dL_law_659 : decode cL_law 659 = .ok (.iload_n 3, 1) := by decide +kernel
theorem dL_law_660 : decode cL_law 660 = .ok (.iconst 3, 1) := by decide +kernel
theorem dL_law_661 : decode cL_law 661 = .ok (.iadd, 1) := by decide +kernel
theorem dL_law_662 : decode cL_law 662 = .ok (.iaload, 1) := by decide +kernel
theorem dL_law_663 : decode cL_law 663 = .ok (.invokevirtual 100, 3) := by decide +kernel
theorem dL_law_666 : decode cL_law 666 = .ok (.if_icmp .eq 117, 3) := by decide +kernel
theorem dL_law_669 : decode cL_law 669 = .ok (.iconst 0, 1) := by decide +kernel
theorem dL_law_670 : decode cL_law 670 = .ok (.ireturn, 1) := by decide +kernel
theorem dL_law_671 : decode cL_law 671 = .ok (.aload_n 1, 1) := by decide +kernel
theorem dL_law_672 : decode cL_law 672 = .ok (.invokevirtual 101, 3) := by decide +kernel
theorem dL_law_675 : decode cL_law 675 = .ok (.aload_n 2, 1) := by decide +kernel
theorem dL_law_676 : decode cL_law 676 = .ok (.invokevirtual 104, 3) := by decide +kernel
theorem dL_law_679 : decode cL_law 679 = .ok (.if_icmp .eq 104, 3) := by decide +kernel
theorem dL_law_682 : decode cL_law 682 = .ok (.iconst 0, 1) := by decide +kernel
theorem dL_law_683 : decode cL_law 683 = .ok (.ireturn, 1) := by decide +kernel
theorem dL_law_684 : decode cL_law 684 = .ok (.aload_n 1, 1) := by decide +kernel
theorem dL_law_685 : decode cL_law 685 = .ok (.aload_n 0, 1) := by decide +kernel
theorem dL_law_686 : decode cL_law 686 = .ok (.iload_n 3, 1) := by decide +kernel
theorem dL_law_687 : decode cL_law 687 = .ok (.iconst 1, 1) := by decide +kernel
theorem dL_law_688 : decode cL_law 688 = .ok (.iadd, 1) := by decide +kernel
theorem dL_law_689 : decode cL_law 689 = .ok (.iaload, 1) := by decide +kernel
theorem dL_law_690 : decode cL_law 690 = .ok (.invokevirtual 105, 3) := by decide +kernel
theorem dL_law_693 : decode cL_law 693 = .ok (.aload_n 2, 1) := by decide +kernel
theorem dL_law_694 : decode cL_law 694 = .ok (.aload_n 0, 1) := by decide +kernel
theorem dL_law_695 : decode cL_law 695 = .ok (.iload_n 3, 1) := by decide +kernel
theorem dL_law_696 : decode cL_law 696 = .ok (.iconst 1, 1) := by decide +kernel
theorem dL_law_697 : decode cL_law 697 = .ok (.iadd, 1) := by decide +kernel
theorem dL_law_698 : decode cL_law 698 = .ok (.iaload, 1) := by decide +kernel
theorem dL_law_699 : decode cL_law 699 = .ok (.invokevirtual 108, 3) := by decide +kernel
theorem dL_law_702 : decode cL_law 702 = .ok (.if_icmp .eq 81, 3) := by decide +kernel
theorem dL_law_705 : decode cL_law 705 = .ok (.iconst 0, 1) := by decide +kernel
theorem dL_law_706 : decode cL_law 706 = .ok (.ireturn, 1) := by decide +kernel
theorem dL_law_707 : decode cL_law 707 = .ok (.aload_n 1, 1) := by decide +kernel
theorem dL_law_708 : decode cL_law 708 = .ok (.aload_n 0, 1) := by decide +kernel
theorem dL_law_709 : decode cL_law 709 = .ok (.iload_n 3, 1) := by decide +kernel
theorem dL_law_710 : decode cL_law 710 = .ok (.iconst 1, 1) := by decide +kernel
theorem dL_law_711 : decode cL_law 711 = .ok (.iadd, 1) := by decide +kernel
theorem dL_law_712 : decode cL_law 712 = .ok (.iaload, 1) := by decide +kernel
theorem dL_law_713 : decode cL_law 713 = .ok (.aload_n 0, 1) := by decide +kernel
theorem dL_law_714 : decode cL_law 714 = .ok (.iload_n 3, 1) := by decide +kernel
theorem dL_law_715 : decode cL_law 715 = .ok (.iconst 2, 1) := by decide +kernel
theorem dL_law_716 : decode cL_law 716 = .ok (.iadd, 1) := by decide +kernel
theorem dL_law_717 : decode cL_law 717 = .ok (.iaload, 1) := by decide +kernel
theorem dL_law_718 : decode cL_law 718 = .ok (.aload_n 0, 1) := by decide +kernel
theorem dL_law_719 : decode cL_law 719 = .ok (.iload_n 3, 1) := by decide +kernel
theorem dL_law_720 : decode cL_law 720 = .ok (.iconst 3, 1) := by decide +kernel
theorem dL_law_721 : decode cL_law 721 = .ok (.iadd, 1) := by decide +kernel
theorem dL_law_722 : decode cL_law 722 = .ok (.iaload, 1) := by decide +kernel
theorem dL_law_723 : decode cL_law 723 = .ok (.aload_n 0, 1) := by decide +kernel
theorem dL_law_724 : decode cL_law 724 = .ok (.iload_n 3, 1) := by decide +kernel
theorem dL_law_725 : decode cL_law 725 = .ok (.iconst 4, 1) := by decide +kernel
theorem dL_law_726 : decode cL_law 726 = .ok (.iadd, 1) := by decide +kernel
theorem dL_law_727 : decode cL_law 727 = .ok (.iaload, 1) := by decide +kernel
theorem dL_law_728 : decode cL_law 728 = .ok (.invokevirtual 109, 3) := by decide +kernel
theorem dL_law_731 : decode cL_law 731 = .ok (.aload_n 2, 1) := by decide +kernel
theorem dL_law_732 : decode cL_law 732 = .ok (.aload_n 0, 1) := by decide +kernel
theorem dL_law_733 : decode cL_law 733 = .ok (.iload_n 3, 1) := by decide +kernel
theorem dL_law_734 : decode cL_law 734 = .ok (.iconst 1, 1) := by decide +kernel
theorem dL_law_735 : decode cL_law 735 = .ok (.iadd, 1) := by decide +kernel
theorem dL_law_736 : decode cL_law 736 = .ok (.iaload, 1) := by decide +kernel
theorem dL_law_737 : decode cL_law 737 = .ok (.aload_n 0, 1) := by decide +kernel
theorem dL_law_738 : decode cL_law 738 = .ok (.iload_n 3, 1) := by decide +kernel
theorem dL_law_739 : decode cL_law 739 = .ok (.iconst 2, 1) := by decide +kernel
theorem dL_law_740 : decode cL_law 740 = .ok (.iadd, 1) := by decide +kernel
theorem dL_law_741 : decode cL_law 741 = .ok (.iaload, 1) := by decide +kernel
theorem dL_law_742 : decode cL_law 742 = .ok (.aload_n 0, 1) := by decide +kernel
theorem dL_law_743 : decode cL_law 743 = .ok (.iload_n 3, 1) := by decide +kernel
theorem dL_law_744 : decode cL_law 744 = .ok (.iconst 3, 1) := by decide +kernel
theorem dL_law_745 : decode cL_law 745 = .ok (.iadd, 1) := by decide +kernel
theorem dL_law_746 : decode cL_law 746 = .ok (.iaload, 1) := by decide +kernel
theorem dL_law_747 : decode cL_law 747 = .ok (.aload_n 0, 1) := by decide +kernel
theorem dL_law_748 : decode cL_law 748 = .ok (.iload_n 3, 1) := by decide +kernel
theorem dL_law_749 : decode cL_law 749 = .ok (.iconst 4, 1) := by decide +kernel
theorem dL_law_750 : decode cL_law 750 = .ok (.iadd, 1) := by decide +kernel
theorem dL_law_751 : decode cL_law 751 = .ok (.iaload, 1) := by decide +kernel
theorem dL_law_752 : decode cL_law 752 = .ok (.invokevirtual 113, 3) := by decide +kernel
theorem dL_law_755 : decode cL_law 755 = .ok (.if_icmp .eq 28, 3) := by decide +kernel
theorem dL_law_758 : decode cL_law 758 = .ok (.iconst 0, 1) := by decide +kernel
theorem dL_law_759 : decode cL_law 759 = .ok (.ireturn, 1) := by decide +kernel
theorem dL_law_760 : decode cL_law 760 = .ok (.aload_n 1, 1) := by decide +kernel
theorem dL_law_761 : decode cL_law 761 = .ok (.aload_n 0, 1) := by decide +kernel
theorem dL_law_762 : decode cL_law 762 = .ok (.iload_n 3, 1) := by decide +kernel
theorem dL_law_763 : decode cL_law 763 = .ok (.iconst 1, 1) := by decide +kernel
theorem dL_law_764 : decode cL_law 764 = .ok (.iadd, 1) := by decide +kernel
theorem dL_law_765 : decode cL_law 765 = .ok (.iaload, 1) := by decide +kernel
theorem dL_law_766 : decode cL_law 766 = .ok (.invokevirtual 114, 3) := by decide +kernel
theorem dL_law_769 : decode cL_law 769 = .ok (.aload_n 2, 1) := by decide +kernel
theorem dL_law_770 : decode cL_law 770 = .ok (.aload_n 0, 1) := by decide +kernel
theorem dL_law_771 : decode cL_law 771 = .ok (.iload_n 3, 1) := by decide +kernel
theorem dL_law_772 : decode cL_law 772 = .ok (.iconst 1, 1) := by decide +kernel
theorem dL_law_773 : decode cL_law 773 = .ok (.iadd, 1) := by decide +kernel
theorem dL_law_774 : decode cL_law 774 = .ok (.iaload, 1) := by decide +kernel
theorem dL_law_775 : decode cL_law 775 = .ok (.invokevirtual 117, 3) := by decide +kernel
theorem dL_law_778 : decode cL_law 778 = .ok (.if_icmp .eq 5, 3) := by decide +kernel
theorem dL_law_781 : decode cL_law 781 = .ok (.iconst 0, 1) := by decide +kernel
theorem dL_law_782 : decode cL_law 782 = .ok (.ireturn, 1) := by decide +kernel
theorem dL_law_783 : decode cL_law 783 = .ok (.iinc 3 5, 3) := by decide +kernel
theorem dL_law_786 : decode cL_law 786 = .ok (.goto (-768), 3) := by decide +kernel
theorem dL_law_789 : decode cL_law 789 = .ok (.iconst 1, 1) := by decide +kernel
theorem dL_law_790 : decode cL_law 790 = .ok (.ireturn, 1) := by decide +kernel
abbrev vwCl : List vw_C := [(RX1, TX1, 12), (RX2, TX2, 0), (RX3, TX3, 0), (RX4, TX4, 0), (RX5, TX5, 0), (RX6, TX6, 6), (RX7, TX7, 8), (RX8, TX8, 4), (RX9, TX9, 15), (RX10, TX10, 23)]
