theorem dX10_sumOf_3 : decode cX10_sumOf 3 = .ok (.istore 4, 2) := by decide +kernel
theorem dX10_sumOf_5 : decode cX10_sumOf 5 = .ok (.iload 4, 2) := by decide +kernel
theorem dX10_sumOf_7 : decode cX10_sumOf 7 = .ok (.aload_n 0, 1) := by decide +kernel
theorem dX10_sumOf_8 : decode cX10_sumOf 8 = .ok (.getfield 59, 3) := by decide +kernel
theorem dX10_sumOf_11 : decode cX10_sumOf 11 = .ok (.if_icmp .ge 23, 3) := by decide +kernel
theorem dX10_sumOf_14 : decode cX10_sumOf 14 = .ok (.iload_n 3, 1) := by decide +kernel
theorem dX10_sumOf_15 : decode cX10_sumOf 15 = .ok (.aload_n 0, 1) := by decide +kernel
theorem dX10_sumOf_16 : decode cX10_sumOf 16 = .ok (.getfield 22, 3) := by decide +kernel
theorem dX10_sumOf_19 : decode cX10_sumOf 19 = .ok (.iload_n 1, 1) := by decide +kernel
theorem dX10_sumOf_20 : decode cX10_sumOf 20 = .ok (.iload_n 2, 1) := by decide +kernel
theorem dX10_sumOf_21 : decode cX10_sumOf 21 = .ok (.iadd, 1) := by decide +kernel
theorem dX10_sumOf_22 : decode cX10_sumOf 22 = .ok (.iload 4, 2) := by decide +kernel
theorem dX10_sumOf_24 : decode cX10_sumOf 24 = .ok (.iadd, 1) := by decide +kernel
theorem dX10_sumOf_25 : decode cX10_sumOf 25 = .ok (.iaload, 1) := by decide +kernel
theorem dX10_sumOf_26 : decode cX10_sumOf 26 = .ok (.iadd, 1) := by decide +kernel
theorem dX10_sumOf_27 : decode cX10_sumOf 27 = .ok (.istore_n 3, 1) := by decide +kernel
theorem dX10_sumOf_28 : decode cX10_sumOf 28 = .ok (.iinc 4 1, 3) := by decide +kernel
theorem dX10_sumOf_31 : decode cX10_sumOf 31 = .ok (.goto (-26), 3) := by decide +kernel
theorem dX10_sumOf_34 : decode cX10_sumOf 34 = .ok (.iload_n 3, 1) := by decide +kernel
theorem dX10_sumOf_35 : decode cX10_sumOf 35 = .ok (.ireturn, 1) := by decide +kernel
set_option maxRecDepth 20000 in
theorem ggX10_balanceOf_X10_sumOf : GoodIn wsX10_balanceOf wsX10_sumOf := goodIn_r _ [5, 6, 7, 8, 9, 10, 11, 12, 13, 14, 15, 16, 17, 18, 19, 20, 21, 22, 23, 24, 25, 26, 27, 28, 29, 30] (by decide +kernel) (by decide +kernel)
set_option maxRecDepth 20000 in
theorem gX10_balanceOf_X10_sumOf : GoodIn wsX10_balanceOf (wsV RX10 165 RX10 yX10_sumOf wsX10_sumOf) := goodIn_app (goodIn_of _ (by decide +kernel)) ggX10_balanceOf_X10_sumOf
theorem dX10_balanceOf_0 : decode cX10_balanceOf 0 = .ok (.aload_n 0, 1) := by decide +kernel
theorem dX10_balanceOf_1 : decode cX10_balanceOf 1 = .ok (.iload_n 1, 1) := by decide +kernel
theorem dX10_balanceOf_2 : decode cX10_balanceOf 2 = .ok (.bipush 32, 2) := by decide +kernel
theorem dX10_balanceOf_4 : decode cX10_balanceOf 4 = .ok (.invokevirtual 165, 3) := by decide +kernel
theorem dX10_balanceOf_7 : decode cX10_balanceOf 7 = .ok (.aload_n 0, 1) := by decide +kernel
theorem dX10_balanceOf_8 : decode cX10_balanceOf 8 = .ok (.iload_n 1, 1) := by decide +kernel
theorem dX10_balanceOf_9 : decode cX10_balanceOf 9 = .ok (.bipush 38, 2) := by decide +kernel
theorem dX10_balanceOf_11 : decode cX10_balanceOf 11 = .ok (.invokevirtual 165, 3) := by decide +kernel
theorem dX10_balanceOf_14 : decode cX10_balanceOf 14 = .ok (.isub, 1) := by decide +kernel
theorem dX10_balanceOf_15 : decode cX10_balanceOf 15 = .ok (.ireturn, 1) := by decide +kernel
set_option maxRecDepth 20000 in
theorem ggX10_layTried_X10_copyDesk : GoodIn wsX10_layTried wsX10_copyDesk := goodIn_r _ [5, 6, 41, 42, 43, 44, 45, 46, 47, 48, 49, 50, 51, 52, 53, 54, 55, 56, 57, 58, 59, 60, 61, 62, 63] (by decide +kernel) (by decide +kernel)
set_option maxRecDepth 20000 in
theorem gX10_layTried_X10_copyDesk : GoodIn wsX10_layTried (wsV RX10 152 RX10 yX10_copyDesk wsX10_copyDesk) := goodIn_app (goodIn_of _ (by decide +kernel)) ggX10_layTried_X10_copyDesk
set_option maxRecDepth 20000 in
theorem ggX10_layTried_X10_pass : GoodIn wsX10_layTried wsX10_pass := goodIn_r _ [10, 11, 6, 12, 13, 14, 4, 15, 16, 17, 18, 19, 20, 21, 22, 23, 24, 25, 26, 27, 28, 29, 30, 31, 32, 33, 34, 35, 36, 37, 38, 39, 40, 41, 42, 43, 44, 45, 46, 47, 48, 49, 50, 51, 52, 53, 54, 55, 56, 57, 58, 59, 60, 61, 62, 63] (by decide +kernel) (by decide +kernel)
set_option maxRecDepth 20000 in
theorem gX10_layTried_X10_pass : GoodIn wsX10_layTried (wsV RX10 158 RX10 yX10_pass wsX10_pass) := goodIn_app (goodIn_of _ (by decide +kernel)) ggX10_layTried_X10_pass
theorem dX10_layTried_0 : decode cX10_layTried 0 = .ok (.aload_n 0, 1) := by decide +kernel
theorem dX10_layTried_1 : decode cX10_layTried 1 = .ok (.iconst 0, 1) := by decide +kernel
theorem dX10_layTried_2 : decode cX10_layTried 2 = .ok (.sipush 616, 3) := by decide +kernel
theorem dX10_layTried_5 : decode cX10_layTried 5 = .ok (.invokevirtual 152, 3) := by decide +kernel
theorem dX10_layTried_8 : decode cX10_layTried 8 = .ok (.iconst 0, 1) := by decide +kernel
theorem dX10_layTried_9 : decode cX10_layTried 9 = .ok (.istore_n 2, 1) := by decide +kernel
theorem dX10_layTried_10 : decode cX10_layTried 10 = .ok (.iload_n 2, 1) := by decide +kernel
theorem dX10_layTried_11 : decode cX10_layTried 11 = .ok (.iload_n 1, 1) := by decide +kernel
theorem dX10_layTried_12 : decode cX10_layTried 12 = .ok (.if_icmp .ge 17, 3) := by decide +kernel
theorem dX10_layTried_15 : decode cX10_layTried 15 = .ok (.aload_n 0, 1) := by decide +kernel
theorem dX10_layTried_16 : decode cX10_layTried 16 = .ok (.sipush 616, 3) := by decide +kernel
theorem dX10_layTried_19 : decode cX10_layTried 19 = .ok (.invokevirtual 158, 3) := by decide +kernel
theorem dX10_layTried_22 : decode cX10_layTried 22 = .ok (.pop, 1) := by decide +kernel
theorem dX10_layTried_23 : decode cX10_layTried 23 = .ok (.iinc 2 1, 3) := by decide +kernel
theorem dX10_layTried_26 : decode cX10_layTried 26 = .ok (.goto (-16), 3) := by decide +kernel
theorem dX10_layTried_29 : decode cX10_layTried 29 = .ok (.return_, 1) := by decide +kernel
set_option maxRecDepth 20000 in
theorem ggX10_balance_X10_in : GoodIn wsX10_balance wsX10_in := goodIn_r _ [5] (by decide +kernel) (by decide +kernel)
set_option maxRecDepth 20000 in
theorem gX10_balance_X10_in : GoodIn wsX10_balance (va_wsS RX10 69 yX10_in wsX10_in) := goodIn_app (goodIn_of _ (by decide +kernel)) ggX10_balance_X10_in
set_option maxRecDepth 20000 in
theorem ggX10_balance_X10_layTried : GoodIn wsX10_balance wsX10_layTried := goodIn_r _ [9, 10, 11, 12, 4, 13, 14, 15, 16, 17, 18, 19, 20, 21, 22, 23, 24, 25, 26, 27, 28, 29, 30, 31, 32, 33, 34, 35, 36, 37, 38, 39, 40, 41, 42, 43, 44, 45, 46, 47, 48, 57, 58, 59, 60, 61, 62, 63, 64, 65, 66, 67, 68, 69, 70, 71, 72, 73, 74, 75, 76, 77, 78, 79] (by decide +kernel) (by decide +kernel)
set_option maxRecDepth 20000 in
theorem gX10_balance_X10_layTried : GoodIn wsX10_balance (wsV RX10 168 RX10 yX10_layTried wsX10_layTried) := goodIn_app (goodIn_of _ (by decide +kernel)) ggX10_balance_X10_layTried
set_option maxRecDepth 20000 in
theorem ggX10_balance_X10_balanceOf : GoodIn wsX10_balance wsX10_balanceOf := goodIn_r _ [52, 53, 54, 55, 4, 56, 19, 14, 57, 58, 59, 60, 61, 62, 63, 64, 65, 66, 67, 68, 69, 70, 71, 72, 73, 74, 75, 76, 77, 78, 79] (by decide +kernel) (by decide +kernel)
set_option maxRecDepth 20000 in
theorem gX10_balance_X10_balanceOf : GoodIn wsX10_balance (wsV RX10 172 RX10 yX10_balanceOf wsX10_balanceOf) := goodIn_app (goodIn_of _ (by decide +kernel)) ggX10_balance_X10_balanceOf
theorem dX10_balance_0 : decode cX10_balance 0 = .ok (.iload_n 1, 1) := by decide +kernel
theorem dX10_balance_1 : decode cX10_balance 1 = .ok (.iconst 0, 1) := by decide +kernel
theorem dX10_balance_2 : decode cX10_balance 2 = .ok (.bipush 60, 2) := by decide +kernel
theorem dX10_balance_4 : decode cX10_balance 4 = .ok (.invokestatic 69, 3) := by decide +kernel
theorem dX10_balance_7 : decode cX10_balance 7 = .ok (.ifCond .ne 6, 3) := by decide +kernel
theorem dX10_balance_10 : decode cX10_balance 10 = .ok (.bipush (-3), 2) := by decide +kernel
theorem dX10_balance_12 : decode cX10_balance 12 = .ok (.ireturn, 1) := by decide +kernel
theorem dX10_balance_13 : decode cX10_balance 13 = .ok (.aload_n 0, 1) := by decide +kernel
theorem dX10_balance_14 : decode cX10_balance 14 = .ok (.iload_n 1, 1) := by decide +kernel
theorem dX10_balance_15 : decode cX10_balance 15 = .ok (.invokevirtual 168, 3) := by decide +kernel
theorem dX10_balance_18 : decode cX10_balance 18 = .ok (.aload_n 0, 1) := by decide +kernel
theorem dX10_balance_19 : decode cX10_balance 19 = .ok (.sipush 616, 3) := by decide +kernel
theorem dX10_balance_22 : decode cX10_balance 22 = .ok (.invokevirtual 172, 3) := by decide +kernel
theorem dX10_balance_25 : decode cX10_balance 25 = .ok (.ldc 175, 2) := by decide +kernel
theorem dX10_balance_27 : decode cX10_balance 27 = .ok (.iadd, 1) := by decide +kernel
theorem dX10_balance_28 : decode cX10_balance 28 = .ok (.ireturn, 1) := by decide +kernel
set_option maxRecDepth 20000 in
theorem ggX10_strain_X10_isCouple : GoodIn wsX10_strain wsX10_isCouple := goodIn_r _ [6, 7, 8, 9, 5, 10, 52, 53, 54, 55, 56, 57, 58, 59, 60, 61, 62, 63, 64, 65, 66, 67, 68, 69, 70, 71, 72, 73, 74] (by decide +kernel) (by decide +kernel)
set_option maxRecDepth 20000 in
theorem gX10_strain_X10_isCouple : GoodIn wsX10_strain (wsV RX10 125 RX10 yX10_isCouple wsX10_isCouple) := goodIn_app (goodIn_of _ (by decide +kernel)) ggX10_strain_X10_isCouple
set_option maxRecDepth 20000 in
theorem ggX10_strain_X10_in : GoodIn wsX10_strain wsX10_in := goodIn_r _ [10] (by decide +kernel) (by decide +kernel)
set_option maxRecDepth 20000 in
theorem gX10_strain_X10_in : GoodIn wsX10_strain (va_wsS RX10 69 yX10_in wsX10_in) := goodIn_app (goodIn_of _ (by decide +kernel)) ggX10_strain_X10_in
set_option maxRecDepth 20000 in
theorem ggX10_strain_X10_layTried : GoodIn wsX10_strain wsX10_layTried := goodIn_r _ [14, 15, 16, 17, 5, 18, 1, 19, 20, 21, 22, 7, 23, 24, 25, 26, 27, 28, 29, 30, 31, 32, 33, 34, 35, 36, 37, 38, 39, 40, 41, 42, 43, 44, 45, 46, 47, 48, 49, 50, 51, 52, 53, 54, 55, 56, 57, 58, 59, 60, 61, 62, 63, 64, 65, 66, 67, 68, 69, 70, 71, 72, 73, 74] (by decide +kernel) (by decide +kernel)
set_option maxRecDepth 20000 in
theorem gX10_strain_X10_layTried : GoodIn wsX10_strain (wsV RX10 168 RX10 yX10_layTried wsX10_layTried) := goodIn_app (goodIn_of _ (by decide +kernel)) ggX10_strain_X10_layTried
theorem dX10_strain_0 : decode cX10_strain 0 = .ok (.aload_n 0, 1) := by decide +kernel
theorem dX10_strain_1 : decode cX10_strain 1 = .ok (.iload_n 1, 1) := by decide +kernel
theorem dX10_strain_2 : decode cX10_strain 2 = .ok (.invokevirtual 125, 3) := by decide +kernel
theorem dX10_strain_5 : decode cX10_strain 5 = .ok (.ifCond .ne 6, 3) := by decide +kernel
theorem dX10_strain_8 : decode cX10_strain 8 = .ok (.bipush (-2), 2) := by decide +kernel
theorem dX10_strain_10 : decode cX10_strain 10 = .ok (.ireturn, 1) := by decide +kernel
theorem dX10_strain_11 : decode cX10_strain 11 = .ok (.iload_n 2, 1) := by decide +kernel
theorem dX10_strain_12 : decode cX10_strain 12 = .ok (.iconst 0, 1) := by decide +kernel
theorem dX10_strain_13 : decode cX10_strain 13 = .ok (.bipush 60, 2) := by decide +kernel
theorem dX10_strain_15 : decode cX10_strain 15 = .ok (.invokestatic 69, 3) := by decide +kernel
theorem dX10_strain_18 : decode cX10_strain 18 = .ok (.ifCond .ne 6, 3) := by decide +kernel
theorem dX10_strain_21 : decode cX10_strain 21 = .ok (.bipush (-3), 2) := by decide +kernel
theorem dX10_strain_23 : decode cX10_strain 23 = .ok (.ireturn, 1) := by decide +kernel
theorem dX10_strain_24 : decode cX10_strain 24 = .ok (.aload_n 0, 1) := by decide +kernel
theorem dX10_strain_25 : decode cX10_strain 25 = .ok (.iload_n 2, 1) := by decide +kernel
theorem dX10_strain_26 : decode cX10_strain 26 = .ok (.invokevirtual 168, 3) := by decide +kernel
theorem dX10_strain_29 : decode cX10_strain 29 = .ok (.aload_n 0, 1) := by decide +kernel
theorem dX10_strain_30 : decode cX10_strain 30 = .ok (.getfield 22, 3) := by decide +kernel
theorem dX10_strain_33 : decode cX10_strain 33 = .ok (.sipush 623, 3) := by decide +kernel
theorem dX10_strain_36 : decode cX10_strain 36 = .ok (.iload_n 1, 1) := by decide +kernel
theorem dX10_strain_37 : decode cX10_strain 37 = .ok (.iadd, 1) := by decide +kernel
theorem dX10_strain_38 : decode cX10_strain 38 = .ok (.iaload, 1) := by decide +kernel
theorem dX10_strain_39 : decode cX10_strain 39 = .ok (.ireturn, 1) := by decide +kernel
set_option maxRecDepth 20000 in
theorem ggX10_first_X10_isCouple : GoodIn wsX10_first wsX10_isCouple := goodIn_r _ [5, 6, 7, 8, 4, 9, 52, 53, 54, 55, 56, 57, 58, 59, 60, 61, 62, 63, 64, 65, 66, 67, 68, 69, 70, 71, 72, 73, 74] (by decide +kernel) (by decide +kernel)
set_option maxRecDepth 20000 in
theorem gX10_first_X10_isCouple : GoodIn wsX10_first (wsV RX10 125 RX10 yX10_isCouple wsX10_isCouple) := goodIn_app (goodIn_of _ (by decide +kernel)) ggX10_first_X10_isCouple
set_option maxRecDepth 20000 in
theorem ggX10_first_X10_layTried : GoodIn wsX10_first wsX10_layTried := goodIn_r _ [13, 14, 15, 16, 4, 17, 18, 19, 20, 21, 22, 6, 23, 24, 25, 26, 27, 28, 29, 30, 31, 32, 33, 34, 35, 36, 37, 38, 39, 40, 41, 42, 43, 44, 45, 46, 47, 48, 49, 50, 51, 52, 53, 54, 55, 56, 57, 58, 59, 60, 61, 62, 63, 64, 65, 66, 67, 68, 69, 70, 71, 72, 73, 74] (by decide +kernel) (by decide +kernel)
set_option maxRecDepth 20000 in
theorem gX10_first_X10_layTried : GoodIn wsX10_first (wsV RX10 168 RX10 yX10_layTried wsX10_layTried) := goodIn_app (goodIn_of _ (by decide +kernel)) ggX10_first_X10_layTried
set_option maxRecDepth 20000 in
theorem ggX10_first_X10_pass : GoodIn wsX10_first wsX10_pass := goodIn_r _ [22, 6, 18, 23, 24, 25, 4, 26, 27, 28, 29, 30, 31, 32, 33, 34, 35, 36, 37, 38, 39, 40, 41, 42, 43, 44, 45, 46, 47, 48, 49, 50, 51, 52, 53, 54, 55, 56, 57, 58, 59, 60, 61, 62, 63, 64, 65, 66, 67, 68, 69, 70, 71, 72, 73, 74] (by decide +kernel) (by decide +kernel)
set_option maxRecDepth 20000 in
theorem gX10_first_X10_pass : GoodIn wsX10_first (wsV RX10 158 RX10 yX10_pass wsX10_pass) := goodIn_app (goodIn_of _ (by decide +kernel)) ggX10_first_X10_pass
set_option maxRecDepth 20000 in
theorem ggX10_first_X10_has : GoodIn wsX10_first wsX10_has := goodIn_r _ [47] (by decide +kernel) (by decide +kernel)
set_option maxRecDepth 20000 in
theorem gX10_first_X10_has : GoodIn wsX10_first (va_wsS RX10 131 yX10_has wsX10_has) := goodIn_app (goodIn_of _ (by decide +kernel)) ggX10_first_X10_has
theorem dX10_first_0 : decode cX10_first 0 = .ok (.aload_n 0, 1) := by decide +kernel
theorem dX10_first_1 : decode cX10_first 1 = .ok (.iload_n 1, 1) := by decide +kernel
theorem dX10_first_2 : decode cX10_first 2 = .ok (.invokevirtual 125, 3) := by decide +kernel
theorem dX10_first_5 : decode cX10_first 5 = .ok (.ifCond .ne 6, 3) := by decide +kernel
theorem dX10_first_8 : decode cX10_first 8 = .ok (.bipush (-2), 2) := by decide +kernel
theorem dX10_first_10 : decode cX10_first 10 = .ok (.ireturn, 1) := by decide +kernel
theorem dX10_first_11 : decode cX10_first 11 = .ok (.aload_n 0, 1) := by decide +kernel
theorem dX10_first_12 : decode cX10_first 12 = .ok (.iconst 0, 1) := by decide +kernel
theorem dX10_first_13 : decode cX10_first 13 = .ok (.invokevirtual 168, 3) := by decide +kernel
theorem dX10_first_16 : decode cX10_first 16 = .ok (.iconst 1, 1) := by decide +kernel
theorem dX10_first_17 : decode cX10_first 17 = .ok (.istore_n 2, 1) := by decide +kernel
theorem dX10_first_18 : decode cX10_first 18 = .ok (.iload_n 2, 1) := by decide +kernel
theorem dX10_first_19 : decode cX10_first 19 = .ok (.bipush 61, 2) := by decide +kernel
theorem dX10_first_21 : decode cX10_first 21 = .ok (.if_icmp .ge 25, 3) := by decide +kernel
theorem dX10_first_24 : decode cX10_first 24 = .ok (.aload_n 0, 1) := by decide +kernel
theorem dX10_first_25 : decode cX10_first 25 = .ok (.sipush 616, 3) := by decide +kernel
theorem dX10_first_28 : decode cX10_first 28 = .ok (.invokevirtual 158, 3) := by decide +kernel
theorem dX10_first_31 : decode cX10_first 31 = .ok (.iload_n 1, 1) := by decide +kernel
theorem dX10_first_32 : decode cX10_first 32 = .ok (.invokestatic 131, 3) := by decide +kernel
theorem dX10_first_35 : decode cX10_first 35 = .ok (.ifCond .eq 5, 3) := by decide +kernel
theorem dX10_first_38 : decode cX10_first 38 = .ok (.iload_n 2, 1) := by decide +kernel
theorem dX10_first_39 : decode cX10_first 39 = .ok (.ireturn, 1) := by decide +kernel
theorem dX10_first_40 : decode cX10_first 40 = .ok (.iinc 2 1, 3) := by decide +kernel
theorem dX10_first_43 : decode cX10_first 43 = .ok (.goto (-25), 3) := by decide +kernel
theorem dX10_first_46 : decode cX10_first 46 = .ok (.iconst (-1), 1) := by decide +kernel
theorem dX10_first_47 : decode cX10_first 47 = .ok (.ireturn, 1) := by decide +kernel
set_option maxRecDepth 20000 in
theorem ggX10_level_X10_in : GoodIn wsX10_level wsX10_in := goodIn_r _ [5] (by decide +kernel) (by decide +kernel)
set_option maxRecDepth 20000 in
theorem gX10_level_X10_in : GoodIn wsX10_level (va_wsS RX10 69 yX10_in wsX10_in) := goodIn_app (goodIn_of _ (by decide +kernel)) ggX10_level_X10_in
set_option maxRecDepth 20000 in
theorem ggX10_level_X10_layTried : GoodIn wsX10_level wsX10_layTried := goodIn_r _ [9, 10, 11, 12, 4, 13, 1, 14, 15, 16, 17, 18, 19, 20, 21, 22, 23, 24, 25, 26, 27, 28, 29, 30, 31, 32, 33, 34, 35, 36, 37, 38, 39, 40, 41, 42, 43, 44, 45, 46, 47, 56, 57, 58, 59, 60, 61, 62, 63, 64, 65, 66, 67, 68, 69, 70, 71, 72, 73, 74, 75, 76, 77, 78] (by decide +kernel) (by decide +kernel)
set_option maxRecDepth 20000 in
theorem gX10_level_X10_layTried : GoodIn wsX10_level (wsV RX10 168 RX10 yX10_layTried wsX10_layTried) := goodIn_app (goodIn_of _ (by decide +kernel)) ggX10_level_X10_layTried
set_option maxRecDepth 20000 in
theorem ggX10_level_X10_pass : GoodIn wsX10_level wsX10_pass := goodIn_r _ [17, 18, 1, 19, 20, 21, 4, 22, 23, 24, 25, 26, 27, 28, 29, 30, 31, 32, 33, 34, 35, 36, 37, 38, 39, 40, 41, 42, 43, 44, 45, 46, 47, 56, 57, 58, 59, 60, 61, 62, 63, 64, 65, 66, 67, 68, 69, 70, 71, 72, 73, 74, 75, 76, 77, 78] (by decide +kernel) (by decide +kernel)
set_option maxRecDepth 20000 in
theorem gX10_level_X10_pass : GoodIn wsX10_level (wsV RX10 158 RX10 yX10_pass wsX10_pass) := goodIn_app (goodIn_of _ (by decide +kernel)) ggX10_level_X10_pass
set_option maxRecDepth 20000 in
theorem ggX10_level_X10_balanceOf : GoodIn wsX10_level wsX10_balanceOf := goodIn_r _ [51, 52, 53, 54, 4, 55, 18, 1, 56, 57, 58, 59, 60, 61, 62, 63, 64, 65, 66, 67, 68, 69, 70, 71, 72, 73, 74, 75, 76, 77, 78] (by decide +kernel) (by decide +kernel)
set_option maxRecDepth 20000 in
theorem gX10_level_X10_balanceOf : GoodIn wsX10_level (wsV RX10 172 RX10 yX10_balanceOf wsX10_balanceOf) := goodIn_app (goodIn_of _ (by decide +kernel)) ggX10_level_X10_balanceOf
theorem dX10_level_0 : decode cX10_level 0 = .ok (.iload_n 1, 1) := by decide +kernel
theorem dX10_level_1 : decode cX10_level 1 = .ok (.iconst 1, 1) := by decide +kernel
theorem dX10_level_2 : decode cX10_level 2 = .ok (.bipush 60, 2) := by decide +kernel
theorem dX10_level_4 : decode cX10_level 4 = .ok (.invokestatic 69, 3) := by decide +kernel
theorem dX10_level_7 : decode cX10_level 7 = .ok (.ifCond .ne 6, 3) := by decide +kernel
theorem dX10_level_10 : decode cX10_level 10 = .ok (.bipush (-3), 2) := by decide +kernel
theorem dX10_level_12 : decode cX10_level 12 = .ok (.ireturn, 1) := by decide +kernel
theorem dX10_level_13 : decode cX10_level 13 = .ok (.iconst 0, 1) := by decide +kernel
theorem dX10_level_14 : decode cX10_level 14 = .ok (.istore_n 2, 1) := by decide +kernel
theorem dX10_level_15 : decode cX10_level 15 = .ok (.iload_n 2, 1) := by decide +kernel
theorem dX10_level_16 : decode cX10_level 16 = .ok (.bipush 51, 2) := by decide +kernel
theorem dX10_level_18 : decode cX10_level 18 = .ok (.if_icmp .ge 61, 3) := by decide +kernel
theorem dX10_level_21 : decode cX10_level 21 = .ok (.aload_n 0, 1) := by decide +kernel
theorem dX10_level_22 : decode cX10_level 22 = .ok (.iconst 0, 1) := by decide +kernel
theorem dX10_level_23 : decode cX10_level 23 = .ok (.invokevirtual 168, 3) := by decide +kernel
theorem dX10_level_26 : decode cX10_level 26 = .ok (.aload_n 0, 1) := by decide +kernel
theorem dX10_level_27 : decode cX10_level 27 = .ok (.getfield 22, 3) := by decide +kernel
theorem dX10_level_30 : decode cX10_level 30 = .ok (.sipush 619, 3) := by decide +kernel
theorem dX10_level_33 : decode cX10_level 33 = .ok (.iload_n 2, 1) := by decide +kernel
theorem dX10_level_34 : decode cX10_level 34 = .ok (.iastore, 1) := by decide +kernel
theorem dX10_level_35 : decode cX10_level 35 = .ok (.iconst 0, 1) := by decide +kernel
theorem dX10_level_36 : decode cX10_level 36 = .ok (.istore_n 3, 1) := by decide +kernel
theorem dX10_level_37 : decode cX10_level 37 = .ok (.iload_n 3, 1) := by decide +kernel
theorem dX10_level_38 : decode cX10_level 38 = .ok (.iload_n 1, 1) := by decide +kernel
theorem dX10_level_39 : decode cX10_level 39 = .ok (.if_icmp .ge 17, 3) := by decide +kernel
theorem dX10_level_42 : decode cX10_level 42 = .ok (.aload_n 0, 1) := by decide +kernel
theorem dX10_level_43 : decode cX10_level 43 = .ok (.sipush 616, 3) := by decide +kernel
theorem dX10_level_46 : decode cX10_level 46 = .ok (.invokevirtual 158, 3) := by decide +kernel
theorem dX10_level_49 : decode cX10_level 49 = .ok (.pop, 1) := by decide +kernel
theorem dX10_level_50 : decode cX10_level 50 = .ok (.iinc 3 1, 3) := by decide +kernel
theorem dX10_level_53 : decode cX10_level 53 = .ok (.goto (-16), 3) := by decide +kernel
theorem dX10_level_56 : decode cX10_level 56 = .ok (.aload_n 0, 1) := by decide +kernel
theorem dX10_level_57 : decode cX10_level 57 = .ok (.sipush 616, 3) := by decide +kernel
theorem dX10_level_60 : decode cX10_level 60 = .ok (.invokevirtual 172, 3) := by decide +kernel
theorem dX10_level_63 : decode cX10_level 63 = .ok (.aload_n 0, 1) := by decide +kernel
theorem dX10_level_64 : decode cX10_level 64 = .ok (.iconst 0, 1) := by decide +kernel
theorem dX10_level_65 : decode cX10_level 65 = .ok (.invokevirtual 172, 3) := by decide +kernel
theorem dX10_level_68 : decode cX10_level 68 = .ok (.if_icmp .lt 5, 3) := by decide +kernel
theorem dX10_level_71 : decode cX10_level 71 = .ok (.iload_n 2, 1) := by decide +kernel
theorem dX10_level_72 : decode cX10_level 72 = .ok (.ireturn, 1) := by decide +kernel
theorem dX10_level_73 : decode cX10_level 73 = .ok (.iinc 2 1, 3) := by decide +kernel
theorem dX10_level_76 : decode cX10_level 76 = .ok (.goto (-61), 3) := by decide +kernel
theorem dX10_level_79 : decode cX10_level 79 = .ok (.iconst (-1), 1) := by decide +kernel
theorem dX10_level_80 : decode cX10_level 80 = .ok (.ireturn, 1) := by decide +kernel
set_option maxRecDepth 20000 in
theorem ggX10_claimedBy_X10_layTried : GoodIn wsX10_claimedBy wsX10_layTried := goodIn_r _ [5, 6, 7, 8, 4, 9, 10, 11, 12, 13, 14, 15, 16, 17, 18, 19, 20, 21, 22, 23, 24, 25, 26, 27, 28, 29, 30, 31, 32, 33, 34, 35, 36, 37, 38, 39, 40, 41, 42, 43, 44, 53, 54, 55, 56, 57, 58, 59, 60, 61, 62, 63, 64, 65, 66, 67, 68, 69, 70, 71, 72, 73, 74, 75] (by decide +kernel) (by decide +kernel)
set_option maxRecDepth 20000 in
theorem gX10_claimedBy_X10_layTried : GoodIn wsX10_claimedBy (wsV RX10 168 RX10 yX10_layTried wsX10_layTried) := goodIn_app (goodIn_of _ (by decide +kernel)) ggX10_claimedBy_X10_layTried
set_option maxRecDepth 20000 in
theorem ggX10_claimedBy_X10_doKiss : GoodIn wsX10_claimedBy wsX10_doKiss := goodIn_r _ [48, 10, 53, 54, 55, 56, 57, 58, 59, 60, 61, 62, 63, 64, 65, 66, 67, 68, 69, 70, 71, 72, 73, 74, 75] (by decide +kernel) (by decide +kernel)
set_option maxRecDepth 20000 in
theorem gX10_claimedBy_X10_doKiss : GoodIn wsX10_claimedBy (wsV RX10 162 RX10 yX10_doKiss wsX10_doKiss) := goodIn_app (goodIn_of _ (by decide +kernel)) ggX10_claimedBy_X10_doKiss
set_option maxRecDepth 20000 in
theorem ggX10_claimedBy_X10_pass : GoodIn wsX10_claimedBy wsX10_pass := goodIn_r _ [14, 15, 10, 16, 17, 18, 4, 19, 20, 21, 22, 23, 24, 25, 26, 27, 28, 29, 30, 31, 32, 33, 34, 35, 36, 37, 38, 39, 40, 41, 42, 43, 44, 53, 54, 55, 56, 57, 58, 59, 60, 61, 62, 63, 64, 65, 66, 67, 68, 69, 70, 71, 72, 73, 74, 75] (by decide +kernel) (by decide +kernel)
set_option maxRecDepth 20000 in
theorem gX10_claimedBy_X10_pass : GoodIn wsX10_claimedBy (wsV RX10 158 RX10 yX10_pass wsX10_pass) := goodIn_app (goodIn_of _ (by decide +kernel)) ggX10_claimedBy_X10_pass
set_option maxRecDepth 20000 in
theorem ggX10_claimedBy_X10_sumOf : GoodIn wsX10_claimedBy wsX10_sumOf := goodIn_r _ [52, 15, 10, 53, 54, 55, 56, 57, 58, 59, 60, 61, 62, 63, 64, 65, 66, 67, 68, 69, 70, 71, 72, 73, 74, 75] (by decide +kernel) (by decide +kernel)
set_option maxRecDepth 20000 in
theorem gX10_claimedBy_X10_sumOf : GoodIn wsX10_claimedBy (wsV RX10 165 RX10 yX10_sumOf wsX10_sumOf) := goodIn_app (goodIn_of _ (by decide +kernel)) ggX10_claimedBy_X10_sumOf
theorem dX10_claimedBy_0 : decode cX10_claimedBy 0 = .ok (.aload_n 0, 1) := by decide +kernel
theorem dX10_claimedBy_1 : decode cX10_claimedBy 1 = .ok (.iconst 0, 1) := by decide +kernel
theorem dX10_claimedBy_2 : decode cX10_claimedBy 2 = .ok (.invokevirtual 168, 3) := by decide +kernel
theorem dX10_claimedBy_5 : decode cX10_claimedBy 5 = .ok (.iconst 0, 1) := by decide +kernel
theorem dX10_claimedBy_6 : decode cX10_claimedBy 6 = .ok (.istore 4, 2) := by decide +kernel
theorem dX10_claimedBy_8 : decode cX10_claimedBy 8 = .ok (.iload 4, 2) := by decide +kernel
theorem dX10_claimedBy_10 : decode cX10_claimedBy 10 = .ok (.iload_n 3, 1) := by decide +kernel
theorem dX10_claimedBy_11 : decode cX10_claimedBy 11 = .ok (.if_icmp .ge 31, 3) := by decide +kernel
theorem dX10_claimedBy_14 : decode cX10_claimedBy 14 = .ok (.iload 4, 2) := by decide +kernel
theorem dX10_claimedBy_16 : decode cX10_claimedBy 16 = .ok (.iload_n 2, 1) := by decide +kernel
theorem dX10_claimedBy_17 : decode cX10_claimedBy 17 = .ok (.if_icmp .ne 11, 3) := by decide +kernel
theorem dX10_claimedBy_20 : decode cX10_claimedBy 20 = .ok (.aload_n 0, 1) := by decide +kernel
theorem dX10_claimedBy_21 : decode cX10_claimedBy 21 = .ok (.sipush 616, 3) := by decide +kernel
theorem dX10_claimedBy_24 : decode cX10_claimedBy 24 = .ok (.iload_n 1, 1) := by decide +kernel
theorem dX10_claimedBy_25 : decode cX10_claimedBy 25 = .ok (.invokevirtual 162, 3) := by decide +kernel
theorem dX10_claimedBy_28 : decode cX10_claimedBy 28 = .ok (.aload_n 0, 1) := by decide +kernel
theorem dX10_claimedBy_29 : decode cX10_claimedBy 29 = .ok (.sipush 616, 3) := by decide +kernel
theorem dX10_claimedBy_32 : decode cX10_claimedBy 32 = .ok (.invokevirtual 158, 3) := by decide +kernel
theorem dX10_claimedBy_35 : decode cX10_claimedBy 35 = .ok (.pop, 1) := by decide +kernel
theorem dX10_claimedBy_36 : decode cX10_claimedBy 36 = .ok (.iinc 4 1, 3) := by decide +kernel
theorem dX10_claimedBy_39 : decode cX10_claimedBy 39 = .ok (.goto (-31), 3) := by decide +kernel
theorem dX10_claimedBy_42 : decode cX10_claimedBy 42 = .ok (.aload_n 0, 1) := by decide +kernel
theorem dX10_claimedBy_43 : decode cX10_claimedBy 43 = .ok (.sipush 616, 3) := by decide +kernel
theorem dX10_claimedBy_46 : decode cX10_claimedBy 46 = .ok (.bipush 38, 2) := by decide +kernel
theorem dX10_claimedBy_48 : decode cX10_claimedBy 48 = .ok (.invokevirtual 165, 3) := by decide +kernel
theorem dX10_claimedBy_51 : decode cX10_claimedBy 51 = .ok (.ireturn, 1) := by decide +kernel
set_option maxRecDepth 20000 in
theorem ggX10_kissOn_X10_isCouple : GoodIn wsX10_kissOn wsX10_isCouple := goodIn_r _ [5, 6, 7, 8, 4, 9, 64, 65, 66, 67, 68, 69, 70, 71, 72, 73, 74, 75, 76, 77, 78, 79, 80, 81, 82, 83, 84, 85, 86] (by decide +kernel) (by decide +kernel)
set_option maxRecDepth 20000 in
theorem gX10_kissOn_X10_isCouple : GoodIn wsX10_kissOn (wsV RX10 125 RX10 yX10_isCouple wsX10_isCouple) := goodIn_app (goodIn_of _ (by decide +kernel)) ggX10_kissOn_X10_isCouple
set_option maxRecDepth 20000 in
theorem ggX10_kissOn_X10_in : GoodIn wsX10_kissOn wsX10_in := goodIn_r _ [9] (by decide +kernel) (by decide +kernel)
set_option maxRecDepth 20000 in
theorem gX10_kissOn_X10_in : GoodIn wsX10_kissOn (va_wsS RX10 69 yX10_in wsX10_in) := goodIn_app (goodIn_of _ (by decide +kernel)) ggX10_kissOn_X10_in
set_option maxRecDepth 20000 in
theorem ggX10_kissOn_X10_claimedBy : GoodIn wsX10_kissOn wsX10_claimedBy := goodIn_r _ [13, 14, 15, 16, 4, 17, 18, 19, 20, 21, 22, 23, 24, 25, 26, 6, 27, 28, 29, 30, 31, 32, 33, 34, 35, 36, 37, 38, 39, 40, 41, 42, 43, 44, 45, 46, 47, 48, 49, 50, 51, 52, 53, 54, 55, 56, 57, 58, 59, 60, 61, 62, 63, 64, 65, 66, 67, 68, 69, 70, 71, 72, 73, 74, 75, 76, 77, 78, 79, 80, 81, 82, 83, 84, 85, 86] (by decide +kernel) (by decide +kernel)
set_option maxRecDepth 20000 in
theorem gX10_kissOn_X10_claimedBy : GoodIn wsX10_kissOn (wsV RX10 176 RX10 yX10_claimedBy wsX10_claimedBy) := goodIn_app (goodIn_of _ (by decide +kernel)) ggX10_kissOn_X10_claimedBy
theorem dX10_kissOn_0 : decode cX10_kissOn 0 = .ok (.aload_n 0, 1) := by decide +kernel
theorem dX10_kissOn_1 : decode cX10_kissOn 1 = .ok (.iload_n 1, 1) := by decide +kernel
theorem dX10_kissOn_2 : decode cX10_kissOn 2 = .ok (.invokevirtual 125, 3) := by decide +kernel
theorem dX10_kissOn_5 : decode cX10_kissOn 5 = .ok (.ifCond .ne 6, 3) := by decide +kernel
theorem dX10_kissOn_8 : decode cX10_kissOn 8 = .ok (.bipush (-2), 2) := by decide +kernel
theorem dX10_kissOn_10 : decode cX10_kissOn 10 = .ok (.ireturn, 1) := by decide +kernel
theorem dX10_kissOn_11 : decode cX10_kissOn 11 = .ok (.iload_n 2, 1) := by decide +kernel
theorem dX10_kissOn_12 : decode cX10_kissOn 12 = .ok (.iconst 1, 1) := by decide +kernel
theorem dX10_kissOn_13 : decode cX10_kissOn 13 = .ok (.bipush 30, 2) := by decide +kernel
theorem dX10_kissOn_15 : decode cX10_kissOn 15 = .ok (.invokestatic 69, 3) := by decide +kernel
theorem dX10_kissOn_18 : decode cX10_kissOn 18 = .ok (.ifCond .ne 6, 3) := by decide +kernel
theorem dX10_kissOn_21 : decode cX10_kissOn 21 = .ok (.bipush (-3), 2) := by decide +kernel
theorem dX10_kissOn_23 : decode cX10_kissOn 23 = .ok (.ireturn, 1) := by decide +kernel
theorem dX10_kissOn_24 : decode cX10_kissOn 24 = .ok (.iconst (-1), 1) := by decide +kernel
theorem dX10_kissOn_25 : decode cX10_kissOn 25 = .ok (.istore_n 3, 1) := by decide +kernel
theorem dX10_kissOn_26 : decode cX10_kissOn 26 = .ok (.aload_n 0, 1) := by decide +kernel
theorem dX10_kissOn_27 : decode cX10_kissOn 27 = .ok (.iload_n 1, 1) := by decide +kernel
theorem dX10_kissOn_28 : decode cX10_kissOn 28 = .ok (.iconst (-1), 1) := by decide +kernel
theorem dX10_kissOn_29 : decode cX10_kissOn 29 = .ok (.iload_n 2, 1) := by decide +kernel
theorem dX10_kissOn_30 : decode cX10_kissOn 30 = .ok (.invokevirtual 176, 3) := by decide +kernel
theorem dX10_kissOn_33 : decode cX10_kissOn 33 = .ok (.istore 4, 2) := by decide +kernel
theorem dX10_kissOn_35 : decode cX10_kissOn 35 = .ok (.iconst 0, 1) := by decide +kernel
theorem dX10_kissOn_36 : decode cX10_kissOn 36 = .ok (.istore 5, 2) := by decide +kernel
theorem dX10_kissOn_38 : decode cX10_kissOn 38 = .ok (.iload 5, 2) := by decide +kernel
theorem dX10_kissOn_40 : decode cX10_kissOn 40 = .ok (.iload_n 2, 1) := by decide +kernel
theorem dX10_kissOn_41 : decode cX10_kissOn 41 = .ok (.if_icmp .ge 49, 3) := by decide +kernel
theorem dX10_kissOn_44 : decode cX10_kissOn 44 = .ok (.aload_n 0, 1) := by decide +kernel
theorem dX10_kissOn_45 : decode cX10_kissOn 45 = .ok (.iload_n 1, 1) := by decide +kernel
theorem dX10_kissOn_46 : decode cX10_kissOn 46 = .ok (.iload 5, 2) := by decide +kernel
theorem dX10_kissOn_48 : decode cX10_kissOn 48 = .ok (.iload_n 2, 1) := by decide +kernel
theorem dX10_kissOn_49 : decode cX10_kissOn 49 = .ok (.invokevirtual 176, 3) := by decide +kernel
theorem dX10_kissOn_52 : decode cX10_kissOn 52 = .ok (.istore 6, 2) := by decide +kernel
theorem dX10_kissOn_54 : decode cX10_kissOn 54 = .ok (.iload 6, 2) := by decide +kernel
theorem dX10_kissOn_56 : decode cX10_kissOn 56 = .ok (.iload 4, 2) := by decide +kernel
theorem dX10_kissOn_58 : decode cX10_kissOn 58 = .ok (.if_icmp .ge 8, 3) := by decide +kernel
theorem dX10_kissOn_61 : decode cX10_kissOn 61 = .ok (.iload 5, 2) := by decide +kernel
theorem dX10_kissOn_63 : decode cX10_kissOn 63 = .ok (.goto 4, 3) := by decide +kernel
theorem dX10_kissOn_66 : decode cX10_kissOn 66 = .ok (.iload_n 3, 1) := by decide +kernel
theorem dX10_kissOn_67 : decode cX10_kissOn 67 = .ok (.istore_n 3, 1) := by decide +kernel
theorem dX10_kissOn_68 : decode cX10_kissOn 68 = .ok (.iload 6, 2) := by decide +kernel
theorem dX10_kissOn_70 : decode cX10_kissOn 70 = .ok (.iload 4, 2) := by decide +kernel
theorem dX10_kissOn_72 : decode cX10_kissOn 72 = .ok (.if_icmp .ge 8, 3) := by decide +kernel
theorem dX10_kissOn_75 : decode cX10_kissOn 75 = .ok (.iload 6, 2) := by decide +kernel
theorem dX10_kissOn_77 : decode cX10_kissOn 77 = .ok (.goto 5, 3) := by decide +kernel
theorem dX10_kissOn_80 : decode cX10_kissOn 80 = .ok (.iload 4, 2) := by decide +kernel
theorem dX10_kissOn_82 : decode cX10_kissOn 82 = .ok (.istore 4, 2) := by decide +kernel
theorem dX10_kissOn_84 : decode cX10_kissOn 84 = .ok (.iinc 5 1, 3) := by decide +kernel
theorem dX10_kissOn_87 : decode cX10_kissOn 87 = .ok (.goto (-49), 3) := by decide +kernel
theorem dX10_kissOn_90 : decode cX10_kissOn 90 = .ok (.iload_n 3, 1) := by decide +kernel
theorem dX10_kissOn_91 : decode cX10_kissOn 91 = .ok (.ireturn, 1) := by decide +kernel
set_option maxRecDepth 20000 in
theorem ggX10_take_X10_in : GoodIn wsX10_take wsX10_in := goodIn_r _ [6] (by decide +kernel) (by decide +kernel)
set_option maxRecDepth 20000 in
theorem gX10_take_X10_in : GoodIn wsX10_take (va_wsS RX10 69 yX10_in wsX10_in) := goodIn_app (goodIn_of _ (by decide +kernel)) ggX10_take_X10_in
set_option maxRecDepth 20000 in
theorem ggX10_take_X10_layTried : GoodIn wsX10_take wsX10_layTried := goodIn_r _ [10, 11, 12, 13, 5, 14, 15, 16, 17, 18, 19, 1, 20, 21, 22, 23, 24, 25, 26, 27, 28, 29, 30, 31, 32, 33, 34, 35, 36, 37, 38, 39, 40, 41, 42, 43, 44, 45, 46, 47, 48, 52, 53, 54, 55, 56, 57, 58, 59, 60, 61, 62, 63, 64, 65, 66, 67, 68, 69, 70, 71, 72, 73, 74] (by decide +kernel) (by decide +kernel)
set_option maxRecDepth 20000 in
theorem gX10_take_X10_layTried : GoodIn wsX10_take (wsV RX10 168 RX10 yX10_layTried wsX10_layTried) := goodIn_app (goodIn_of _ (by decide +kernel)) ggX10_take_X10_layTried
set_option maxRecDepth 20000 in
theorem ggX10_take_X10_pass : GoodIn wsX10_take wsX10_pass := goodIn_r _ [19, 1, 15, 20, 21, 22, 5, 23, 24, 25, 26, 27, 28, 29, 30, 31, 32, 33, 34, 35, 36, 37, 38, 39, 40, 41, 42, 43, 44, 45, 46, 47, 48, 52, 53, 54, 55, 56, 57, 58, 59, 60, 61, 62, 63, 64, 65, 66, 67, 68, 69, 70, 71, 72, 73, 74] (by decide +kernel) (by decide +kernel)
set_option maxRecDepth 20000 in
theorem gX10_take_X10_pass : GoodIn wsX10_take (wsV RX10 158 RX10 yX10_pass wsX10_pass) := goodIn_app (goodIn_of _ (by decide +kernel)) ggX10_take_X10_pass
set_option maxRecDepth 20000 in
theorem ggX10_take_X10_bits : GoodIn wsX10_take wsX10_bits := goodIn_r _ [51] (by decide +kernel) (by decide +kernel)
set_option maxRecDepth 20000 in
theorem gX10_take_X10_bits : GoodIn wsX10_take (va_wsS RX10 180 yX10_bits wsX10_bits) := goodIn_app (goodIn_of _ (by decide +kernel)) ggX10_take_X10_bits
theorem dX10_take_0 : decode cX10_take 0 = .ok (.iload_n 1, 1) := by decide +kernel
theorem dX10_take_1 : decode cX10_take 1 = .ok (.iconst 0, 1) := by decide +kernel
theorem dX10_take_2 : decode cX10_take 2 = .ok (.bipush 6, 2) := by decide +kernel
theorem dX10_take_4 : decode cX10_take 4 = .ok (.invokestatic 69, 3) := by decide +kernel
theorem dX10_take_7 : decode cX10_take 7 = .ok (.ifCond .eq 22, 3) := by decide +kernel
theorem dX10_take_10 : decode cX10_take 10 = .ok (.iload_n 2, 1) := by decide +kernel
theorem dX10_take_11 : decode cX10_take 11 = .ok (.iconst 1, 1) := by decide +kernel
theorem dX10_take_12 : decode cX10_take 12 = .ok (.bipush 60, 2) := by decide +kernel
theorem dX10_take_14 : decode cX10_take 14 = .ok (.invokestatic 69, 3) := by decide +kernel
theorem dX10_take_17 : decode cX10_take 17 = .ok (.ifCond .eq 12, 3) := by decide +kernel
theorem dX10_take_20 : decode cX10_take 20 = .ok (.iload_n 3, 1) := by decide +kernel
theorem dX10_take_21 : decode cX10_take 21 = .ok (.iconst 0, 1) := by decide +kernel
theorem dX10_take_22 : decode cX10_take 22 = .ok (.iconst 1, 1) := by decide +kernel
theorem dX10_take_23 : decode cX10_take 23 = .ok (.invokestatic 69, 3) := by decide +kernel
theorem dX10_take_26 : decode cX10_take 26 = .ok (.ifCond .ne 6, 3) := by decide +kernel
theorem dX10_take_29 : decode cX10_take 29 = .ok (.bipush (-3), 2) := by decide +kernel
theorem dX10_take_31 : decode cX10_take 31 = .ok (.ireturn, 1) := by decide +kernel
theorem dX10_take_32 : decode cX10_take 32 = .ok (.iload_n 1, 1) := by decide +kernel
theorem dX10_take_33 : decode cX10_take 33 = .ok (.aload_n 0, 1) := by decide +kernel
theorem dX10_take_34 : decode cX10_take 34 = .ok (.getfield 59, 3) := by decide +kernel
theorem dX10_take_37 : decode cX10_take 37 = .ok (.if_icmp .le 5, 3) := by decide +kernel
theorem dX10_take_40 : decode cX10_take 40 = .ok (.iconst (-1), 1) := by decide +kernel
theorem dX10_take_41 : decode cX10_take 41 = .ok (.ireturn, 1) := by decide +kernel
theorem dX10_take_42 : decode cX10_take 42 = .ok (.aload_n 0, 1) := by decide +kernel
theorem dX10_take_43 : decode cX10_take 43 = .ok (.iconst 0, 1) := by decide +kernel
theorem dX10_take_44 : decode cX10_take 44 = .ok (.invokevirtual 168, 3) := by decide +kernel
theorem dX10_take_47 : decode cX10_take 47 = .ok (.iconst 0, 1) := by decide +kernel
theorem dX10_take_48 : decode cX10_take 48 = .ok (.istore 4, 2) := by decide +kernel
theorem dX10_take_50 : decode cX10_take 50 = .ok (.iload 4, 2) := by decide +kernel
theorem dX10_take_52 : decode cX10_take 52 = .ok (.iload_n 2, 1) := by decide +kernel
theorem dX10_take_53 : decode cX10_take 53 = .ok (.if_icmp .ge 23, 3) := by decide +kernel
theorem dX10_take_56 : decode cX10_take 56 = .ok (.aload_n 0, 1) := by decide +kernel
theorem dX10_take_57 : decode cX10_take 57 = .ok (.getfield 53, 3) := by decide +kernel
theorem dX10_take_60 : decode cX10_take 60 = .ok (.iload 4, 2) := by decide +kernel
theorem dX10_take_62 : decode cX10_take 62 = .ok (.aload_n 0, 1) := by decide +kernel
theorem dX10_take_63 : decode cX10_take 63 = .ok (.sipush 616, 3) := by decide +kernel
theorem dX10_take_66 : decode cX10_take 66 = .ok (.invokevirtual 158, 3) := by decide +kernel
theorem dX10_take_69 : decode cX10_take 69 = .ok (.iastore, 1) := by decide +kernel
theorem dX10_take_70 : decode cX10_take 70 = .ok (.iinc 4 1, 3) := by decide +kernel
theorem dX10_take_73 : decode cX10_take 73 = .ok (.goto (-23), 3) := by decide +kernel
theorem dX10_take_76 : decode cX10_take 76 = .ok (.iconst (-1), 1) := by decide +kernel
theorem dX10_take_77 : decode cX10_take 77 = .ok (.istore 4, 2) := by decide +kernel
theorem dX10_take_79 : decode cX10_take 79 = .ok (.bipush 9, 2) := by decide +kernel
theorem dX10_take_81 : decode cX10_take 81 = .ok (.istore 5, 2) := by decide +kernel
theorem dX10_take_83 : decode cX10_take 83 = .ok (.iconst 0, 1) := by decide +kernel
theorem dX10_take_84 : decode cX10_take 84 = .ok (.istore 6, 2) := by decide +kernel
theorem dX10_take_86 : decode cX10_take 86 = .ok (.iload 6, 2) := by decide +kernel
theorem dX10_take_88 : decode cX10_take 88 = .ok (.iconst 1, 1) := by decide +kernel
theorem dX10_take_89 : decode cX10_take 89 = .ok (.aload_n 0, 1) := by decide +kernel
theorem dX10_take_90 : decode cX10_take 90 = .ok (.getfield 59, 3) := by decide +kernel
theorem dX10_take_93 : decode cX10_take 93 = .ok (.ishl, 1) := by decide +kernel
theorem dX10_take_94 : decode cX10_take 94 = .ok (.if_icmp .ge 109, 3) := by decide +kernel
theorem dX10_take_97 : decode cX10_take 97 = .ok (.iconst 0, 1) := by decide +kernel
theorem dX10_take_98 : decode cX10_take 98 = .ok (.istore 7, 2) := by decide +kernel
theorem dX10_take_100 : decode cX10_take 100 = .ok (.iconst 0, 1) := by decide +kernel
theorem dX10_take_101 : decode cX10_take 101 = .ok (.istore 8, 2) := by decide +kernel
theorem dX10_take_103 : decode cX10_take 103 = .ok (.iload 8, 2) := by decide +kernel
theorem dX10_take_105 : decode cX10_take 105 = .ok (.iload_n 2, 1) := by decide +kernel
theorem dX10_take_106 : decode cX10_take 106 = .ok (.if_icmp .ge 40, 3) := by decide +kernel
theorem dX10_take_109 : decode cX10_take 109 = .ok (.aload_n 0, 1) := by decide +kernel
theorem dX10_take_110 : decode cX10_take 110 = .ok (.getfield 53, 3) := by decide +kernel
theorem dX10_take_113 : decode cX10_take 113 = .ok (.iload 8, 2) := by decide +kernel
theorem dX10_take_115 : decode cX10_take 115 = .ok (.iaload, 1) := by decide +kernel
theorem dX10_take_116 : decode cX10_take 116 = .ok (.iload 6, 2) := by decide +kernel
theorem dX10_take_118 : decode cX10_take 118 = .ok (.iand, 1) := by decide +kernel
theorem dX10_take_119 : decode cX10_take 119 = .ok (.invokestatic 180, 3) := by decide +kernel
theorem dX10_take_122 : decode cX10_take 122 = .ok (.istore 9, 2) := by decide +kernel
theorem dX10_take_124 : decode cX10_take 124 = .ok (.iload 9, 2) := by decide +kernel
theorem dX10_take_126 : decode cX10_take 126 = .ok (.iload 7, 2) := by decide +kernel
theorem dX10_take_128 : decode cX10_take 128 = .ok (.if_icmp .le 8, 3) := by decide +kernel
theorem dX10_take_131 : decode cX10_take 131 = .ok (.iload 9, 2) := by decide +kernel
theorem dX10_take_133 : decode cX10_take 133 = .ok (.goto 5, 3) := by decide +kernel
theorem dX10_take_136 : decode cX10_take 136 = .ok (.iload 7, 2) := by decide +kernel
theorem dX10_take_138 : decode cX10_take 138 = .ok (.istore 7, 2) := by decide +kernel
theorem dX10_take_140 : decode cX10_take 140 = .ok (.iinc 8 1, 3) := by decide +kernel
theorem dX10_take_143 : decode cX10_take 143 = .ok (.goto (-40), 3) := by decide +kernel
theorem dX10_take_146 : decode cX10_take 146 = .ok (.iload 6, 2) := by decide +kernel
theorem dX10_take_148 : decode cX10_take 148 = .ok (.invokestatic 180, 3) := by decide +kernel
theorem dX10_take_151 : decode cX10_take 151 = .ok (.iload_n 1, 1) := by decide +kernel
theorem dX10_take_152 : decode cX10_take 152 = .ok (.if_icmp .ne 14, 3) := by decide +kernel
theorem dX10_take_155 : decode cX10_take 155 = .ok (.iload 7, 2) := by decide +kernel
theorem dX10_take_157 : decode cX10_take 157 = .ok (.iload 5, 2) := by decide +kernel
theorem dX10_take_159 : decode cX10_take 159 = .ok (.if_icmp .ge 7, 3) := by decide +kernel
theorem dX10_take_162 : decode cX10_take 162 = .ok (.iconst 1, 1) := by decide +kernel
theorem dX10_take_163 : decode cX10_take 163 = .ok (.goto 4, 3) := by decide +kernel
theorem dX10_take_166 : decode cX10_take 166 = .ok (.iconst 0, 1) := by decide +kernel
theorem dX10_take_167 : decode cX10_take 167 = .ok (.istore 8, 2) := by decide +kernel
theorem dX10_take_169 : decode cX10_take 169 = .ok (.iload 8, 2) := by decide +kernel
theorem dX10_take_171 : decode cX10_take 171 = .ok (.ifCond .eq 8, 3) := by decide +kernel
theorem dX10_take_174 : decode cX10_take 174 = .ok (.iload 6, 2) := by decide +kernel
theorem dX10_take_176 : decode cX10_take 176 = .ok (.goto 5, 3) := by decide +kernel
theorem dX10_take_179 : decode cX10_take 179 = .ok (.iload 4, 2) := by decide +kernel
theorem dX10_take_181 : decode cX10_take 181 = .ok (.istore 4, 2) := by decide +kernel
theorem dX10_take_183 : decode cX10_take 183 = .ok (.iload 8, 2) := by decide +kernel
theorem dX10_take_185 : decode cX10_take 185 = .ok (.ifCond .eq 8, 3) := by decide +kernel
theorem dX10_take_188 : decode cX10_take 188 = .ok (.iload 7, 2) := by decide +kernel
theorem dX10_take_190 : decode cX10_take 190 = .ok (.goto 5, 3) := by decide +kernel
theorem dX10_take_193 : decode cX10_take 193 = .ok (.iload 5, 2) := by decide +kernel
theorem dX10_take_195 : decode cX10_take 195 = .ok (.istore 5, 2) := by decide +kernel
theorem dX10_take_197 : decode cX10_take 197 = .ok (.iinc 6 1, 3) := by decide +kernel
theorem dX10_take_200 : decode cX10_take 200 = .ok (.goto (-114), 3) := by decide +kernel
theorem dX10_take_203 : decode cX10_take 203 = .ok (.iload_n 3, 1) := by decide +kernel
theorem dX10_take_204 : decode cX10_take 204 = .ok (.ifCond .ne 8, 3) := by decide +kernel
theorem dX10_take_207 : decode cX10_take 207 = .ok (.iload 4, 2) := by decide +kernel
theorem dX10_take_209 : decode cX10_take 209 = .ok (.goto 5, 3) := by decide +kernel
theorem dX10_take_212 : decode cX10_take 212 = .ok (.iload 5, 2) := by decide +kernel
theorem dX10_take_214 : decode cX10_take 214 = .ok (.ireturn, 1) := by decide +kernel
set_option maxRecDepth 20000 in
theorem ggX10_seen_X10_isCouple : GoodIn wsX10_seen wsX10_isCouple := goodIn_r _ [7, 8, 9, 10, 6, 11, 12, 13, 14, 15, 16, 17, 18, 19, 20, 21, 22, 23, 24, 25, 26, 27, 28, 29, 30, 31, 32, 33, 34] (by decide +kernel) (by decide +kernel)
set_option maxRecDepth 20000 in
theorem gX10_seen_X10_isCouple : GoodIn wsX10_seen (wsV RX10 125 RX10 yX10_isCouple wsX10_isCouple) := goodIn_app (goodIn_of _ (by decide +kernel)) ggX10_seen_X10_isCouple
set_option maxRecDepth 20000 in
theorem ggX10_seen_X10_in : GoodIn wsX10_seen wsX10_in := goodIn_r _ [11] (by decide +kernel) (by decide +kernel)
set_option maxRecDepth 20000 in
theorem gX10_seen_X10_in : GoodIn wsX10_seen (va_wsS RX10 69 yX10_in wsX10_in) := goodIn_app (goodIn_of _ (by decide +kernel)) ggX10_seen_X10_in
theorem dX10_seen_0 : decode cX10_seen 0 = .ok (.aload_n 0, 1) := by decide +kernel
theorem dX10_seen_1 : decode cX10_seen 1 = .ok (.iload_n 1, 1) := by decide +kernel
theorem dX10_seen_2 : decode cX10_seen 2 = .ok (.invokevirtual 125, 3) := by decide +kernel
theorem dX10_seen_5 : decode cX10_seen 5 = .ok (.ifCond .ne 6, 3) := by decide +kernel
theorem dX10_seen_8 : decode cX10_seen 8 = .ok (.bipush (-2), 2) := by decide +kernel
theorem dX10_seen_10 : decode cX10_seen 10 = .ok (.ireturn, 1) := by decide +kernel
theorem dX10_seen_11 : decode cX10_seen 11 = .ok (.iload_n 2, 1) := by decide +kernel
theorem dX10_seen_12 : decode cX10_seen 12 = .ok (.iconst 1, 1) := by decide +kernel
theorem dX10_seen_13 : decode cX10_seen 13 = .ok (.bipush 30, 2) := by decide +kernel
theorem dX10_seen_15 : decode cX10_seen 15 = .ok (.invokestatic 69, 3) := by decide +kernel
theorem dX10_seen_18 : decode cX10_seen 18 = .ok (.ifCond .eq 13, 3) := by decide +kernel
theorem dX10_seen_21 : decode cX10_seen 21 = .ok (.iload_n 3, 1) := by decide +kernel
theorem dX10_seen_22 : decode cX10_seen 22 = .ok (.iconst 0, 1) := by decide +kernel
theorem dX10_seen_23 : decode cX10_seen 23 = .ok (.bipush 99, 2) := by decide +kernel
theorem dX10_seen_25 : decode cX10_seen 25 = .ok (.invokestatic 69, 3) := by decide +kernel
theorem dX10_seen_28 : decode cX10_seen 28 = .ok (.ifCond .ne 6, 3) := by decide +kernel
theorem dX10_seen_31 : decode cX10_seen 31 = .ok (.bipush (-3), 2) := by decide +kernel
theorem dX10_seen_33 : decode cX10_seen 33 = .ok (.ireturn, 1) := by decide +kernel
theorem dX10_seen_34 : decode cX10_seen 34 = .ok (.aload_n 0, 1) := by decide +kernel
theorem dX10_seen_35 : decode cX10_seen 35 = .ok (.getfield 66, 3) := by decide +kernel
theorem dX10_seen_38 : decode cX10_seen 38 = .ok (.bipush 6, 2) := by decide +kernel
theorem dX10_seen_40 : decode cX10_seen 40 = .ok (.if_icmp .ne 6, 3) := by decide +kernel
theorem dX10_seen_43 : decode cX10_seen 43 = .ok (.bipush (-5), 2) := by decide +kernel
theorem dX10_seen_45 : decode cX10_seen 45 = .ok (.ireturn, 1) := by decide +kernel
theorem dX10_seen_46 : decode cX10_seen 46 = .ok (.aload_n 0, 1) := by decide +kernel
theorem dX10_seen_47 : decode cX10_seen 47 = .ok (.getfield 44, 3) := by decide +kernel
theorem dX10_seen_50 : decode cX10_seen 50 = .ok (.iconst 3, 1) := by decide +kernel
theorem dX10_seen_51 : decode cX10_seen 51 = .ok (.aload_n 0, 1) := by decide +kernel
theorem dX10_seen_52 : decode cX10_seen 52 = .ok (.getfield 66, 3) := by decide +kernel
theorem dX10_seen_55 : decode cX10_seen 55 = .ok (.imul, 1) := by decide +kernel
theorem dX10_seen_56 : decode cX10_seen 56 = .ok (.iload_n 1, 1) := by decide +kernel
theorem dX10_seen_57 : decode cX10_seen 57 = .ok (.iastore, 1) := by decide +kernel
theorem dX10_seen_58 : decode cX10_seen 58 = .ok (.aload_n 0, 1) := by decide +kernel
theorem dX10_seen_59 : decode cX10_seen 59 = .ok (.getfield 44, 3) := by decide +kernel
theorem dX10_seen_62 : decode cX10_seen 62 = .ok (.iconst 3, 1) := by decide +kernel
theorem dX10_seen_63 : decode cX10_seen 63 = .ok (.aload_n 0, 1) := by decide +kernel
theorem dX10_seen_64 : decode cX10_seen 64 = .ok (.getfield 66, 3) := by decide +kernel
theorem dX10_seen_67 : decode cX10_seen 67 = .ok (.imul, 1) := by decide +kernel
theorem dX10_seen_68 : decode cX10_seen 68 = .ok (.iconst 1, 1) := by decide +kernel
theorem dX10_seen_69 : decode cX10_seen 69 = .ok (.iadd, 1) := by decide +kernel
theorem dX10_seen_70 : decode cX10_seen 70 = .ok (.iload_n 2, 1) := by decide +kernel
theorem dX10_seen_71 : decode cX10_seen 71 = .ok (.iastore, 1) := by decide +kernel
theorem dX10_seen_72 : decode cX10_seen 72 = .ok (.aload_n 0, 1) := by decide +kernel
theorem dX10_seen_73 : decode cX10_seen 73 = .ok (.getfield 44, 3) := by decide +kernel
theorem dX10_seen_76 : decode cX10_seen 76 = .ok (.iconst 3, 1) := by decide +kernel
theorem dX10_seen_77 : decode cX10_seen 77 = .ok (.aload_n 0, 1) := by decide +kernel
theorem dX10_seen_78 : decode cX10_seen 78 = .ok (.getfield 66, 3) := by decide +kernel
theorem dX10_seen_81 : decode cX10_seen 81 = .ok (.imul, 1) := by decide +kernel
theorem dX10_seen_82 : decode cX10_seen 82 = .ok (.iconst 2, 1) := by decide +kernel
theorem dX10_seen_83 : decode cX10_seen 83 = .ok (.iadd, 1) := by decide +kernel
theorem dX10_seen_84 : decode cX10_seen 84 = .ok (.iload_n 3, 1) := by decide +kernel
theorem dX10_seen_85 : decode cX10_seen 85 = .ok (.iastore, 1) := by decide +kernel
theorem dX10_seen_86 : decode cX10_seen 86 = .ok (.aload_n 0, 1) := by decide +kernel
theorem dX10_seen_87 : decode cX10_seen 87 = .ok (.dup, 1) := by decide +kernel
theorem dX10_seen_88 : decode cX10_seen 88 = .ok (.getfield 66, 3) := by decide +kernel
theorem dX10_seen_91 : decode cX10_seen 91 = .ok (.iconst 1, 1) := by decide +kernel
theorem dX10_seen_92 : decode cX10_seen 92 = .ok (.iadd, 1) := by decide +kernel
theorem dX10_seen_93 : decode cX10_seen 93 = .ok (.putfield 66, 3) := by decide +kernel
theorem dX10_seen_96 : decode cX10_seen 96 = .ok (.aload_n 0, 1) := by decide +kernel
theorem dX10_seen_97 : decode cX10_seen 97 = .ok (.getfield 66, 3) := by decide +kernel
theorem dX10_seen_100 : decode cX10_seen 100 = .ok (.ireturn, 1) := by decide +kernel
theorem dX10_forget_0 : decode cX10_forget 0 = .ok (.aload_n 0, 1) := by decide +kernel
theorem dX10_forget_1 : decode cX10_forget 1 = .ok (.getfield 66, 3) := by decide +kernel
theorem dX10_forget_4 : decode cX10_forget 4 = .ok (.istore_n 1, 1) := by decide +kernel
theorem dX10_forget_5 : decode cX10_forget 5 = .ok (.aload_n 0, 1) := by decide +kernel
theorem dX10_forget_6 : decode cX10_forget 6 = .ok (.iconst 0, 1) := by decide +kernel
theorem dX10_forget_7 : decode cX10_forget 7 = .ok (.putfield 66, 3) := by decide +kernel
theorem dX10_forget_10 : decode cX10_forget 10 = .ok (.iload_n 1, 1) := by decide +kernel
theorem dX10_forget_11 : decode cX10_forget 11 = .ok (.ireturn, 1) := by decide +kernel
set_option maxRecDepth 20000 in
theorem ggX10_isSeenSo_X10_layTried : GoodIn wsX10_isSeenSo wsX10_layTried := goodIn_r _ [8, 9, 10, 11, 7, 12, 3, 13, 14, 15, 16, 17, 18, 19, 20, 21, 22, 23, 24, 25, 26, 27, 28, 29, 30, 31, 32, 33, 34, 35, 36, 37, 38, 39, 40, 41, 42, 43, 44, 45, 46, 47, 48, 49, 50, 51, 52, 53, 54, 55, 56, 57, 58, 59, 60, 61, 62, 63, 64, 65, 66, 67, 68, 69] (by decide +kernel) (by decide +kernel)
set_option maxRecDepth 20000 in
theorem gX10_isSeenSo_X10_layTried : GoodIn wsX10_isSeenSo (wsV RX10 168 RX10 yX10_layTried wsX10_layTried) := goodIn_app (goodIn_of _ (by decide +kernel)) ggX10_isSeenSo_X10_layTried
theorem dX10_isSeenSo_0 : decode cX10_isSeenSo 0 = .ok (.iconst 1, 1) := by decide +kernel
theorem dX10_isSeenSo_1 : decode cX10_isSeenSo 1 = .ok (.istore_n 2, 1) := by decide +kernel
theorem dX10_isSeenSo_2 : decode cX10_isSeenSo 2 = .ok (.iconst 0, 1) := by decide +kernel
theorem dX10_isSeenSo_3 : decode cX10_isSeenSo 3 = .ok (.istore_n 3, 1) := by decide +kernel
theorem dX10_isSeenSo_4 : decode cX10_isSeenSo 4 = .ok (.iload_n 3, 1) := by decide +kernel
theorem dX10_isSeenSo_5 : decode cX10_isSeenSo 5 = .ok (.aload_n 0, 1) := by decide +kernel
theorem dX10_isSeenSo_6 : decode cX10_isSeenSo 6 = .ok (.getfield 66, 3) := by decide +kernel
theorem dX10_isSeenSo_9 : decode cX10_isSeenSo 9 = .ok (.if_icmp .ge 68, 3) := by decide +kernel
theorem dX10_isSeenSo_12 : decode cX10_isSeenSo 12 = .ok (.iload_n 2, 1) := by decide +kernel
theorem dX10_isSeenSo_13 : decode cX10_isSeenSo 13 = .ok (.ifCond .eq 64, 3) := by decide +kernel
theorem dX10_isSeenSo_16 : decode cX10_isSeenSo 16 = .ok (.aload_n 0, 1) := by decide +kernel
theorem dX10_isSeenSo_17 : decode cX10_isSeenSo 17 = .ok (.getfield 44, 3) := by decide +kernel
theorem dX10_isSeenSo_20 : decode cX10_isSeenSo 20 = .ok (.iconst 3, 1) := by decide +kernel
theorem dX10_isSeenSo_21 : decode cX10_isSeenSo 21 = .ok (.iload_n 3, 1) := by decide +kernel
theorem dX10_isSeenSo_22 : decode cX10_isSeenSo 22 = .ok (.imul, 1) := by decide +kernel
theorem dX10_isSeenSo_23 : decode cX10_isSeenSo 23 = .ok (.iaload, 1) := by decide +kernel
theorem dX10_isSeenSo_24 : decode cX10_isSeenSo 24 = .ok (.iload_n 1, 1) := by decide +kernel
theorem dX10_isSeenSo_25 : decode cX10_isSeenSo 25 = .ok (.if_icmp .ne 46, 3) := by decide +kernel
theorem dX10_isSeenSo_28 : decode cX10_isSeenSo 28 = .ok (.aload_n 0, 1) := by decide +kernel
theorem dX10_isSeenSo_29 : decode cX10_isSeenSo 29 = .ok (.aload_n 0, 1) := by decide +kernel
theorem dX10_isSeenSo_30 : decode cX10_isSeenSo 30 = .ok (.getfield 44, 3) := by decide +kernel
theorem dX10_isSeenSo_33 : decode cX10_isSeenSo 33 = .ok (.iconst 3, 1) := by decide +kernel
theorem dX10_isSeenSo_34 : decode cX10_isSeenSo 34 = .ok (.iload_n 3, 1) := by decide +kernel
theorem dX10_isSeenSo_35 : decode cX10_isSeenSo 35 = .ok (.imul, 1) := by decide +kernel
theorem dX10_isSeenSo_36 : decode cX10_isSeenSo 36 = .ok (.iconst 1, 1) := by decide +kernel
theorem dX10_isSeenSo_37 : decode cX10_isSeenSo 37 = .ok (.iadd, 1) := by decide +kernel
theorem dX10_isSeenSo_38 : decode cX10_isSeenSo 38 = .ok (.iaload, 1) := by decide +kernel
theorem dX10_isSeenSo_39 : decode cX10_isSeenSo 39 = .ok (.invokevirtual 168, 3) := by decide +kernel
theorem dX10_isSeenSo_42 : decode cX10_isSeenSo 42 = .ok (.aload_n 0, 1) := by decide +kernel
theorem dX10_isSeenSo_43 : decode cX10_isSeenSo 43 = .ok (.getfield 22, 3) := by decide +kernel
theorem dX10_isSeenSo_46 : decode cX10_isSeenSo 46 = .ok (.sipush 623, 3) := by decide +kernel
theorem dX10_isSeenSo_49 : decode cX10_isSeenSo 49 = .ok (.iload_n 1, 1) := by decide +kernel
theorem dX10_isSeenSo_50 : decode cX10_isSeenSo 50 = .ok (.iadd, 1) := by decide +kernel
theorem dX10_isSeenSo_51 : decode cX10_isSeenSo 51 = .ok (.iaload, 1) := by decide +kernel
theorem dX10_isSeenSo_52 : decode cX10_isSeenSo 52 = .ok (.aload_n 0, 1) := by decide +kernel
theorem dX10_isSeenSo_53 : decode cX10_isSeenSo 53 = .ok (.getfield 44, 3) := by decide +kernel
theorem dX10_isSeenSo_56 : decode cX10_isSeenSo 56 = .ok (.iconst 3, 1) := by decide +kernel
theorem dX10_isSeenSo_57 : decode cX10_isSeenSo 57 = .ok (.iload_n 3, 1) := by decide +kernel
theorem dX10_isSeenSo_58 : decode cX10_isSeenSo 58 = .ok (.imul, 1) := by decide +kernel
theorem dX10_isSeenSo_59 : decode cX10_isSeenSo 59 = .ok (.iconst 2, 1) := by decide +kernel
theorem dX10_isSeenSo_60 : decode cX10_isSeenSo 60 = .ok (.iadd, 1) := by decide +kernel
theorem dX10_isSeenSo_61 : decode cX10_isSeenSo 61 = .ok (.iaload, 1) := by decide +kernel
theorem dX10_isSeenSo_62 : decode cX10_isSeenSo 62 = .ok (.if_icmp .ne 7, 3) := by decide +kernel
theorem dX10_isSeenSo_65 : decode cX10_isSeenSo 65 = .ok (.iconst 1, 1) := by decide +kernel
theorem dX10_isSeenSo_66 : decode cX10_isSeenSo 66 = .ok (.goto 4, 3) := by decide +kernel
theorem dX10_isSeenSo_69 : decode cX10_isSeenSo 69 = .ok (.iconst 0, 1) := by decide +kernel
theorem dX10_isSeenSo_70 : decode cX10_isSeenSo 70 = .ok (.istore_n 2, 1) := by decide +kernel
theorem dX10_isSeenSo_71 : decode cX10_isSeenSo 71 = .ok (.iinc 3 1, 3) := by decide +kernel
theorem dX10_isSeenSo_74 : decode cX10_isSeenSo 74 = .ok (.goto (-70), 3) := by decide +kernel
theorem dX10_isSeenSo_77 : decode cX10_isSeenSo 77 = .ok (.iload_n 2, 1) := by decide +kernel
theorem dX10_isSeenSo_78 : decode cX10_isSeenSo 78 = .ok (.ireturn, 1) := by decide +kernel
set_option maxRecDepth 20000 in
theorem ggX10_tempers_X10_isCouple : GoodIn wsX10_tempers wsX10_isCouple := goodIn_r _ [6, 7, 8, 9, 5, 10, 58, 59, 60, 61, 62, 63, 64, 65, 66, 67, 68, 69, 70, 71, 72, 73, 74, 75, 76, 77, 78, 79, 80] (by decide +kernel) (by decide +kernel)
set_option maxRecDepth 20000 in
theorem gX10_tempers_X10_isCouple : GoodIn wsX10_tempers (wsV RX10 125 RX10 yX10_isCouple wsX10_isCouple) := goodIn_app (goodIn_of _ (by decide +kernel)) ggX10_tempers_X10_isCouple
set_option maxRecDepth 20000 in
theorem ggX10_tempers_X10_isSeenSo : GoodIn wsX10_tempers wsX10_isSeenSo := goodIn_r _ [14, 15, 16, 17, 18, 19, 20, 5, 21, 22, 23, 24, 25, 26, 27, 28, 29, 7, 30, 31, 32, 33, 1, 34, 35, 36, 37, 38, 39, 40, 41, 42, 43, 44, 45, 46, 47, 48, 49, 50, 51, 52, 53, 54, 55, 56, 57, 58, 59, 60, 61, 62, 63, 64, 65, 66, 67, 68, 69, 70, 71, 72, 73, 74, 75, 76, 77, 78, 79, 80] (by decide +kernel) (by decide +kernel)
set_option maxRecDepth 20000 in
theorem gX10_tempers_X10_isSeenSo : GoodIn wsX10_tempers (wsV RX10 183 RX10 yX10_isSeenSo wsX10_isSeenSo) := goodIn_app (goodIn_of _ (by decide +kernel)) ggX10_tempers_X10_isSeenSo
theorem dX10_tempers_0 : decode cX10_tempers 0 = .ok (.aload_n 0, 1) := by decide +kernel
theorem dX10_tempers_1 : decode cX10_tempers 1 = .ok (.iload_n 1, 1) := by decide +kernel
theorem dX10_tempers_2 : decode cX10_tempers 2 = .ok (.invokevirtual 125, 3) := by decide +kernel
theorem dX10_tempers_5 : decode cX10_tempers 5 = .ok (.ifCond .ne 6, 3) := by decide +kernel
theorem dX10_tempers_8 : decode cX10_tempers 8 = .ok (.bipush (-2), 2) := by decide +kernel
theorem dX10_tempers_10 : decode cX10_tempers 10 = .ok (.ireturn, 1) := by decide +kernel
theorem dX10_tempers_11 : decode cX10_tempers 11 = .ok (.aload_n 0, 1) := by decide +kernel
theorem dX10_tempers_12 : decode cX10_tempers 12 = .ok (.getfield 32, 3) := by decide +kernel
theorem dX10_tempers_15 : decode cX10_tempers 15 = .ok (.iload_n 1, 1) := by decide +kernel
theorem dX10_tempers_16 : decode cX10_tempers 16 = .ok (.iaload, 1) := by decide +kernel
theorem dX10_tempers_17 : decode cX10_tempers 17 = .ok (.istore_n 2, 1) := by decide +kernel
theorem dX10_tempers_18 : decode cX10_tempers 18 = .ok (.iconst 0, 1) := by decide +kernel
theorem dX10_tempers_19 : decode cX10_tempers 19 = .ok (.istore_n 3, 1) := by decide +kernel
theorem dX10_tempers_20 : decode cX10_tempers 20 = .ok (.iconst 1, 1) := by decide +kernel
theorem dX10_tempers_21 : decode cX10_tempers 21 = .ok (.istore 4, 2) := by decide +kernel
theorem dX10_tempers_23 : decode cX10_tempers 23 = .ok (.iload 4, 2) := by decide +kernel
theorem dX10_tempers_25 : decode cX10_tempers 25 = .ok (.bipush 10, 2) := by decide +kernel
theorem dX10_tempers_27 : decode cX10_tempers 27 = .ok (.if_icmp .ge 36, 3) := by decide +kernel
theorem dX10_tempers_30 : decode cX10_tempers 30 = .ok (.aload_n 0, 1) := by decide +kernel
theorem dX10_tempers_31 : decode cX10_tempers 31 = .ok (.getfield 32, 3) := by decide +kernel
theorem dX10_tempers_34 : decode cX10_tempers 34 = .ok (.iload_n 1, 1) := by decide +kernel
theorem dX10_tempers_35 : decode cX10_tempers 35 = .ok (.iload 4, 2) := by decide +kernel
theorem dX10_tempers_37 : decode cX10_tempers 37 = .ok (.iastore, 1) := by decide +kernel
theorem dX10_tempers_38 : decode cX10_tempers 38 = .ok (.iload_n 3, 1) := by decide +kernel
theorem dX10_tempers_39 : decode cX10_tempers 39 = .ok (.aload_n 0, 1) := by decide +kernel
theorem dX10_tempers_40 : decode cX10_tempers 40 = .ok (.iload_n 1, 1) := by decide +kernel
theorem dX10_tempers_41 : decode cX10_tempers 41 = .ok (.invokevirtual 183, 3) := by decide +kernel
theorem dX10_tempers_44 : decode cX10_tempers 44 = .ok (.ifCond .eq 10, 3) := by decide +kernel
theorem dX10_tempers_47 : decode cX10_tempers 47 = .ok (.iconst 1, 1) := by decide +kernel
theorem dX10_tempers_48 : decode cX10_tempers 48 = .ok (.iload 4, 2) := by decide +kernel
theorem dX10_tempers_50 : decode cX10_tempers 50 = .ok (.ishl, 1) := by decide +kernel
theorem dX10_tempers_51 : decode cX10_tempers 51 = .ok (.goto 4, 3) := by decide +kernel
theorem dX10_tempers_54 : decode cX10_tempers 54 = .ok (.iconst 0, 1) := by decide +kernel
theorem dX10_tempers_55 : decode cX10_tempers 55 = .ok (.ior, 1) := by decide +kernel
theorem dX10_tempers_56 : decode cX10_tempers 56 = .ok (.istore_n 3, 1) := by decide +kernel
theorem dX10_tempers_57 : decode cX10_tempers 57 = .ok (.iinc 4 1, 3) := by decide +kernel
theorem dX10_tempers_60 : decode cX10_tempers 60 = .ok (.goto (-37), 3) := by decide +kernel
theorem dX10_tempers_63 : decode cX10_tempers 63 = .ok (.aload_n 0, 1) := by decide +kernel
theorem dX10_tempers_64 : decode cX10_tempers 64 = .ok (.getfield 32, 3) := by decide +kernel
theorem dX10_tempers_67 : decode cX10_tempers 67 = .ok (.iload_n 1, 1) := by decide +kernel
theorem dX10_tempers_68 : decode cX10_tempers 68 = .ok (.iload_n 2, 1) := by decide +kernel
theorem dX10_tempers_69 : decode cX10_tempers 69 = .ok (.iastore, 1) := by decide +kernel
theorem dX10_tempers_70 : decode cX10_tempers 70 = .ok (.iload_n 3, 1) := by decide +kernel
theorem dX10_tempers_71 : decode cX10_tempers 71 = .ok (.ireturn, 1) := by decide +kernel
set_option maxRecDepth 20000 in
theorem ggX10_mothers_X10_isCouple : GoodIn wsX10_mothers wsX10_isCouple := goodIn_r _ [5, 6, 7, 8, 4, 9, 52, 53, 54, 55, 56, 57, 58, 59, 60, 61, 62, 63, 64, 65, 66, 67, 68, 69, 70, 71, 72, 73, 74] (by decide +kernel) (by decide +kernel)
set_option maxRecDepth 20000 in
theorem gX10_mothers_X10_isCouple : GoodIn wsX10_mothers (wsV RX10 125 RX10 yX10_isCouple wsX10_isCouple) := goodIn_app (goodIn_of _ (by decide +kernel)) ggX10_mothers_X10_isCouple
set_option maxRecDepth 20000 in
theorem ggX10_mothers_X10_in : GoodIn wsX10_mothers wsX10_in := goodIn_r _ [9] (by decide +kernel) (by decide +kernel)
set_option maxRecDepth 20000 in
theorem gX10_mothers_X10_in : GoodIn wsX10_mothers (va_wsS RX10 69 yX10_in wsX10_in) := goodIn_app (goodIn_of _ (by decide +kernel)) ggX10_mothers_X10_in
set_option maxRecDepth 20000 in
theorem ggX10_mothers_X10_layTried : GoodIn wsX10_mothers wsX10_layTried := goodIn_r _ [13, 14, 15, 16, 4, 17, 18, 19, 20, 21, 22, 6, 23, 24, 25, 26, 27, 28, 29, 30, 31, 32, 33, 34, 35, 36, 37, 38, 39, 40, 41, 42, 43, 44, 45, 46, 47, 48, 49, 50, 51, 52, 53, 54, 55, 56, 57, 58, 59, 60, 61, 62, 63, 64, 65, 66, 67, 68, 69, 70, 71, 72, 73, 74] (by decide +kernel) (by decide +kernel)
set_option maxRecDepth 20000 in
theorem gX10_mothers_X10_layTried : GoodIn wsX10_mothers (wsV RX10 168 RX10 yX10_layTried wsX10_layTried) := goodIn_app (goodIn_of _ (by decide +kernel)) ggX10_mothers_X10_layTried
set_option maxRecDepth 20000 in
theorem ggX10_mothers_X10_has : GoodIn wsX10_mothers wsX10_has := goodIn_r _ [47] (by decide +kernel) (by decide +kernel)
set_option maxRecDepth 20000 in
theorem gX10_mothers_X10_has : GoodIn wsX10_mothers (va_wsS RX10 131 yX10_has wsX10_has) := goodIn_app (goodIn_of _ (by decide +kernel)) ggX10_mothers_X10_has
set_option maxRecDepth 20000 in
theorem ggX10_mothers_X10_strainMore : GoodIn wsX10_mothers wsX10_strainMore := goodIn_r _ [32, 18, 52, 53, 54, 55, 56, 57, 58, 59, 60, 61, 62, 63, 64, 65, 66, 67, 68, 69, 70, 71, 72, 73, 74] (by decide +kernel) (by decide +kernel)
set_option maxRecDepth 20000 in
theorem gX10_mothers_X10_strainMore : GoodIn wsX10_mothers (wsV RX10 141 RX10 yX10_strainMore wsX10_strainMore) := goodIn_app (goodIn_of _ (by decide +kernel)) ggX10_mothers_X10_strainMore
set_option maxRecDepth 20000 in
theorem ggX10_mothers_X10_pass : GoodIn wsX10_mothers wsX10_pass := goodIn_r _ [22, 6, 18, 23, 24, 25, 4, 26, 27, 28, 29, 30, 31, 32, 33, 34, 35, 36, 37, 38, 39, 40, 41, 42, 43, 44, 45, 46, 47, 48, 49, 50, 51, 52, 53, 54, 55, 56, 57, 58, 59, 60, 61, 62, 63, 64, 65, 66, 67, 68, 69, 70, 71, 72, 73, 74] (by decide +kernel) (by decide +kernel)
set_option maxRecDepth 20000 in
theorem gX10_mothers_X10_pass : GoodIn wsX10_mothers (wsV RX10 158 RX10 yX10_pass wsX10_pass) := goodIn_app (goodIn_of _ (by decide +kernel)) ggX10_mothers_X10_pass
theorem dX10_mothers_0 : decode cX10_mothers 0 = .ok (.aload_n 0, 1) := by decide +kernel
theorem dX10_mothers_1 : decode cX10_mothers 1 = .ok (.iload_n 1, 1) := by decide +kernel
theorem dX10_mothers_2 : decode cX10_mothers 2 = .ok (.invokevirtual 125, 3) := by decide +kernel
theorem dX10_mothers_5 : decode cX10_mothers 5 = .ok (.ifCond .ne 6, 3) := by decide +kernel
theorem dX10_mothers_8 : decode cX10_mothers 8 = .ok (.bipush (-2), 2) := by decide +kernel
theorem dX10_mothers_10 : decode cX10_mothers 10 = .ok (.ireturn, 1) := by decide +kernel
theorem dX10_mothers_11 : decode cX10_mothers 11 = .ok (.iload_n 2, 1) := by decide +kernel
theorem dX10_mothers_12 : decode cX10_mothers 12 = .ok (.iconst 0, 1) := by decide +kernel
theorem dX10_mothers_13 : decode cX10_mothers 13 = .ok (.bipush 6, 2) := by decide +kernel
theorem dX10_mothers_15 : decode cX10_mothers 15 = .ok (.invokestatic 69, 3) := by decide +kernel
theorem dX10_mothers_18 : decode cX10_mothers 18 = .ok (.ifCond .eq 23, 3) := by decide +kernel
theorem dX10_mothers_21 : decode cX10_mothers 21 = .ok (.iload_n 3, 1) := by decide +kernel
theorem dX10_mothers_22 : decode cX10_mothers 22 = .ok (.iconst 0, 1) := by decide +kernel
theorem dX10_mothers_23 : decode cX10_mothers 23 = .ok (.bipush 10, 2) := by decide +kernel
theorem dX10_mothers_25 : decode cX10_mothers 25 = .ok (.invokestatic 69, 3) := by decide +kernel
theorem dX10_mothers_28 : decode cX10_mothers 28 = .ok (.ifCond .eq 13, 3) := by decide +kernel
theorem dX10_mothers_31 : decode cX10_mothers 31 = .ok (.iload 4, 2) := by decide +kernel
theorem dX10_mothers_33 : decode cX10_mothers 33 = .ok (.iconst 0, 1) := by decide +kernel
theorem dX10_mothers_34 : decode cX10_mothers 34 = .ok (.iconst 1, 1) := by decide +kernel
theorem dX10_mothers_35 : decode cX10_mothers 35 = .ok (.invokestatic 69, 3) := by decide +kernel
theorem dX10_mothers_38 : decode cX10_mothers 38 = .ok (.ifCond .ne 6, 3) := by decide +kernel
theorem dX10_mothers_41 : decode cX10_mothers 41 = .ok (.bipush (-3), 2) := by decide +kernel
theorem dX10_mothers_43 : decode cX10_mothers 43 = .ok (.ireturn, 1) := by decide +kernel
theorem dX10_mothers_44 : decode cX10_mothers 44 = .ok (.iconst 0, 1) := by decide +kernel
theorem dX10_mothers_45 : decode cX10_mothers 45 = .ok (.istore 5, 2) := by decide +kernel
theorem dX10_mothers_47 : decode cX10_mothers 47 = .ok (.iconst 0, 1) := by decide +kernel
theorem dX10_mothers_48 : decode cX10_mothers 48 = .ok (.istore 6, 2) := by decide +kernel
theorem dX10_mothers_50 : decode cX10_mothers 50 = .ok (.iconst 0, 1) := by decide +kernel
theorem dX10_mothers_51 : decode cX10_mothers 51 = .ok (.istore 7, 2) := by decide +kernel
theorem dX10_mothers_53 : decode cX10_mothers 53 = .ok (.iload 7, 2) := by decide +kernel
theorem dX10_mothers_55 : decode cX10_mothers 55 = .ok (.iconst 1, 1) := by decide +kernel
theorem dX10_mothers_56 : decode cX10_mothers 56 = .ok (.iload_n 2, 1) := by decide +kernel
theorem dX10_mothers_57 : decode cX10_mothers 57 = .ok (.ishl, 1) := by decide +kernel
theorem dX10_mothers_58 : decode cX10_mothers 58 = .ok (.if_icmp .ge 131, 3) := by decide +kernel
theorem dX10_mothers_61 : decode cX10_mothers 61 = .ok (.iconst 1, 1) := by decide +kernel
theorem dX10_mothers_62 : decode cX10_mothers 62 = .ok (.istore 8, 2) := by decide +kernel
theorem dX10_mothers_64 : decode cX10_mothers 64 = .ok (.iconst 0, 1) := by decide +kernel
theorem dX10_mothers_65 : decode cX10_mothers 65 = .ok (.istore 9, 2) := by decide +kernel
theorem dX10_mothers_67 : decode cX10_mothers 67 = .ok (.aload_n 0, 1) := by decide +kernel
theorem dX10_mothers_68 : decode cX10_mothers 68 = .ok (.iconst 0, 1) := by decide +kernel
theorem dX10_mothers_69 : decode cX10_mothers 69 = .ok (.invokevirtual 168, 3) := by decide +kernel
theorem dX10_mothers_72 : decode cX10_mothers 72 = .ok (.iconst 0, 1) := by decide +kernel
theorem dX10_mothers_73 : decode cX10_mothers 73 = .ok (.istore 10, 2) := by decide +kernel
theorem dX10_mothers_75 : decode cX10_mothers 75 = .ok (.iload 10, 2) := by decide +kernel
theorem dX10_mothers_77 : decode cX10_mothers 77 = .ok (.iload_n 2, 1) := by decide +kernel
theorem dX10_mothers_78 : decode cX10_mothers 78 = .ok (.if_icmp .ge 82, 3) := by decide +kernel
theorem dX10_mothers_81 : decode cX10_mothers 81 = .ok (.iload 8, 2) := by decide +kernel
theorem dX10_mothers_83 : decode cX10_mothers 83 = .ok (.iload 7, 2) := by decide +kernel
theorem dX10_mothers_85 : decode cX10_mothers 85 = .ok (.iload 10, 2) := by decide +kernel
theorem dX10_mothers_87 : decode cX10_mothers 87 = .ok (.invokestatic 131, 3) := by decide +kernel
theorem dX10_mothers_90 : decode cX10_mothers 90 = .ok (.ifCond .eq 7, 3) := by decide +kernel
theorem dX10_mothers_93 : decode cX10_mothers 93 = .ok (.iload_n 3, 1) := by decide +kernel
theorem dX10_mothers_94 : decode cX10_mothers 94 = .ok (.goto 7, 3) := by decide +kernel
theorem dX10_mothers_97 : decode cX10_mothers 97 = .ok (.bipush 10, 2) := by decide +kernel
theorem dX10_mothers_99 : decode cX10_mothers 99 = .ok (.iload_n 3, 1) := by decide +kernel
theorem dX10_mothers_100 : decode cX10_mothers 100 = .ok (.isub, 1) := by decide +kernel
theorem dX10_mothers_101 : decode cX10_mothers 101 = .ok (.imul, 1) := by decide +kernel
theorem dX10_mothers_102 : decode cX10_mothers 102 = .ok (.istore 8, 2) := by decide +kernel
theorem dX10_mothers_104 : decode cX10_mothers 104 = .ok (.aload_n 0, 1) := by decide +kernel
theorem dX10_mothers_105 : decode cX10_mothers 105 = .ok (.sipush 616, 3) := by decide +kernel
theorem dX10_mothers_108 : decode cX10_mothers 108 = .ok (.iload_n 1, 1) := by decide +kernel
theorem dX10_mothers_109 : decode cX10_mothers 109 = .ok (.iload 7, 2) := by decide +kernel
theorem dX10_mothers_111 : decode cX10_mothers 111 = .ok (.iload 10, 2) := by decide +kernel
theorem dX10_mothers_113 : decode cX10_mothers 113 = .ok (.invokestatic 131, 3) := by decide +kernel
theorem dX10_mothers_116 : decode cX10_mothers 116 = .ok (.ifCond .eq 8, 3) := by decide +kernel
theorem dX10_mothers_119 : decode cX10_mothers 119 = .ok (.bipush 10, 2) := by decide +kernel
theorem dX10_mothers_121 : decode cX10_mothers 121 = .ok (.goto 4, 3) := by decide +kernel
theorem dX10_mothers_124 : decode cX10_mothers 124 = .ok (.iconst 0, 1) := by decide +kernel
theorem dX10_mothers_125 : decode cX10_mothers 125 = .ok (.invokevirtual 141, 3) := by decide +kernel
theorem dX10_mothers_128 : decode cX10_mothers 128 = .ok (.aload_n 0, 1) := by decide +kernel
theorem dX10_mothers_129 : decode cX10_mothers 129 = .ok (.sipush 616, 3) := by decide +kernel
theorem dX10_mothers_132 : decode cX10_mothers 132 = .ok (.invokevirtual 158, 3) := by decide +kernel
theorem dX10_mothers_135 : decode cX10_mothers 135 = .ok (.iload_n 1, 1) := by decide +kernel
theorem dX10_mothers_136 : decode cX10_mothers 136 = .ok (.invokestatic 131, 3) := by decide +kernel
theorem dX10_mothers_139 : decode cX10_mothers 139 = .ok (.ifCond .ne 8, 3) := by decide +kernel
theorem dX10_mothers_142 : decode cX10_mothers 142 = .ok (.iload 9, 2) := by decide +kernel
theorem dX10_mothers_144 : decode cX10_mothers 144 = .ok (.ifCond .eq 7, 3) := by decide +kernel
theorem dX10_mothers_147 : decode cX10_mothers 147 = .ok (.iconst 1, 1) := by decide +kernel
theorem dX10_mothers_148 : decode cX10_mothers 148 = .ok (.goto 4, 3) := by decide +kernel
theorem dX10_mothers_151 : decode cX10_mothers 151 = .ok (.iconst 0, 1) := by decide +kernel
theorem dX10_mothers_152 : decode cX10_mothers 152 = .ok (.istore 9, 2) := by decide +kernel
theorem dX10_mothers_154 : decode cX10_mothers 154 = .ok (.iinc 10 1, 3) := by decide +kernel
theorem dX10_mothers_157 : decode cX10_mothers 157 = .ok (.goto (-82), 3) := by decide +kernel
theorem dX10_mothers_160 : decode cX10_mothers 160 = .ok (.iload 5, 2) := by decide +kernel
theorem dX10_mothers_162 : decode cX10_mothers 162 = .ok (.iload 9, 2) := by decide +kernel
theorem dX10_mothers_164 : decode cX10_mothers 164 = .ok (.ifCond .eq 8, 3) := by decide +kernel
theorem dX10_mothers_167 : decode cX10_mothers 167 = .ok (.iload 8, 2) := by decide +kernel
theorem dX10_mothers_169 : decode cX10_mothers 169 = .ok (.goto 4, 3) := by decide +kernel
theorem dX10_mothers_172 : decode cX10_mothers 172 = .ok (.iconst 0, 1) := by decide +kernel
theorem dX10_mothers_173 : decode cX10_mothers 173 = .ok (.iadd, 1) := by decide +kernel
theorem dX10_mothers_174 : decode cX10_mothers 174 = .ok (.istore 5, 2) := by decide +kernel
theorem dX10_mothers_176 : decode cX10_mothers 176 = .ok (.iload 6, 2) := by decide +kernel
theorem dX10_mothers_178 : decode cX10_mothers 178 = .ok (.iload 8, 2) := by decide +kernel
theorem dX10_mothers_180 : decode cX10_mothers 180 = .ok (.iadd, 1) := by decide +kernel
theorem dX10_mothers_181 : decode cX10_mothers 181 = .ok (.istore 6, 2) := by decide +kernel
theorem dX10_mothers_183 : decode cX10_mothers 183 = .ok (.iinc 7 1, 3) := by decide +kernel
theorem dX10_mothers_186 : decode cX10_mothers 186 = .ok (.goto (-133), 3) := by decide +kernel
theorem dX10_mothers_189 : decode cX10_mothers 189 = .ok (.iload 5, 2) := by decide +kernel
theorem dX10_mothers_191 : decode cX10_mothers 191 = .ok (.istore 7, 2) := by decide +kernel
theorem dX10_mothers_193 : decode cX10_mothers 193 = .ok (.iload 6, 2) := by decide +kernel
theorem dX10_mothers_195 : decode cX10_mothers 195 = .ok (.istore 8, 2) := by decide +kernel
theorem dX10_mothers_197 : decode cX10_mothers 197 = .ok (.iload 8, 2) := by decide +kernel
theorem dX10_mothers_199 : decode cX10_mothers 199 = .ok (.ifCond .eq 21, 3) := by decide +kernel
theorem dX10_mothers_202 : decode cX10_mothers 202 = .ok (.iload 7, 2) := by decide +kernel
theorem dX10_mothers_204 : decode cX10_mothers 204 = .ok (.iload 8, 2) := by decide +kernel
theorem dX10_mothers_206 : decode cX10_mothers 206 = .ok (.irem, 1) := by decide +kernel
theorem dX10_mothers_207 : decode cX10_mothers 207 = .ok (.istore 9, 2) := by decide +kernel
theorem dX10_mothers_209 : decode cX10_mothers 209 = .ok (.iload 8, 2) := by decide +kernel
theorem dX10_mothers_211 : decode cX10_mothers 211 = .ok (.istore 7, 2) := by decide +kernel
theorem dX10_mothers_213 : decode cX10_mothers 213 = .ok (.iload 9, 2) := by decide +kernel
theorem dX10_mothers_215 : decode cX10_mothers 215 = .ok (.istore 8, 2) := by decide +kernel
theorem dX10_mothers_217 : decode cX10_mothers 217 = .ok (.goto (-20), 3) := by decide +kernel
theorem dX10_mothers_220 : decode cX10_mothers 220 = .ok (.iload 4, 2) := by decide +kernel
theorem dX10_mothers_222 : decode cX10_mothers 222 = .ok (.ifCond .ne 11, 3) := by decide +kernel
theorem dX10_mothers_225 : decode cX10_mothers 225 = .ok (.iload 5, 2) := by decide +kernel
theorem dX10_mothers_227 : decode cX10_mothers 227 = .ok (.iload 7, 2) := by decide +kernel
theorem dX10_mothers_229 : decode cX10_mothers 229 = .ok (.idiv, 1) := by decide +kernel
theorem dX10_mothers_230 : decode cX10_mothers 230 = .ok (.goto 8, 3) := by decide +kernel
theorem dX10_mothers_233 : decode cX10_mothers 233 = .ok (.iload 6, 2) := by decide +kernel
theorem dX10_mothers_235 : decode cX10_mothers 235 = .ok (.iload 7, 2) := by decide +kernel
theorem dX10_mothers_237 : decode cX10_mothers 237 = .ok (.idiv, 1) := by decide +kernel
theorem dX10_mothers_238 : decode cX10_mothers 238 = .ok (.ireturn, 1) := by decide +kernel
set_option maxRecDepth 20000 in
theorem ggX10_count_X10_balanceOf : GoodIn wsX10_count wsX10_balanceOf := goodIn_r _ [11, 12, 13, 14, 10, 15, 1, 2, 16, 17, 18, 19, 20, 21, 22, 23, 24, 25, 26, 27, 28, 29, 30, 31, 32, 33, 34, 35, 36, 37, 38] (by decide +kernel) (by decide +kernel)
set_option maxRecDepth 20000 in
theorem gX10_count_X10_balanceOf : GoodIn wsX10_count (wsV RX10 172 RX10 yX10_balanceOf wsX10_balanceOf) := goodIn_app (goodIn_of _ (by decide +kernel)) ggX10_count_X10_balanceOf
set_option maxRecDepth 20000 in
theorem ggX10_count_X10_sumOf : GoodIn wsX10_count wsX10_sumOf := goodIn_r _ [15, 1, 2, 16, 17, 18, 19, 20, 21, 22, 23, 24, 25, 26, 27, 28, 29, 30, 31, 32, 33, 34, 35, 36, 37, 38] (by decide +kernel) (by decide +kernel)
set_option maxRecDepth 20000 in
theorem gX10_count_X10_sumOf : GoodIn wsX10_count (wsV RX10 165 RX10 yX10_sumOf wsX10_sumOf) := goodIn_app (goodIn_of _ (by decide +kernel)) ggX10_count_X10_sumOf
theorem dX10_count_0 : decode cX10_count 0 = .ok (.iload_n 1, 1) := by decide +kernel
theorem dX10_count_1 : decode cX10_count 1 = .ok (.tableswitch 111 0 8 #[51, 56, 63, 72, 80, 88, 96, 101, 106], 51) := by decide +kernel
theorem dX10_count_52 : decode cX10_count 52 = .ok (.aload_n 0, 1) := by decide +kernel
theorem dX10_count_53 : decode cX10_count 53 = .ok (.getfield 59, 3) := by decide +kernel
theorem dX10_count_56 : decode cX10_count 56 = .ok (.ireturn, 1) := by decide +kernel
theorem dX10_count_57 : decode cX10_count 57 = .ok (.aload_n 0, 1) := by decide +kernel
theorem dX10_count_58 : decode cX10_count 58 = .ok (.getfield 22, 3) := by decide +kernel
theorem dX10_count_61 : decode cX10_count 61 = .ok (.iconst 0, 1) := by decide +kernel
theorem dX10_count_62 : decode cX10_count 62 = .ok (.iaload, 1) := by decide +kernel
theorem dX10_count_63 : decode cX10_count 63 = .ok (.ireturn, 1) := by decide +kernel
theorem dX10_count_64 : decode cX10_count 64 = .ok (.aload_n 0, 1) := by decide +kernel
theorem dX10_count_65 : decode cX10_count 65 = .ok (.iconst 0, 1) := by decide +kernel
theorem dX10_count_66 : decode cX10_count 66 = .ok (.invokevirtual 172, 3) := by decide +kernel
theorem dX10_count_69 : decode cX10_count 69 = .ok (.ldc 175, 2) := by decide +kernel
theorem dX10_count_71 : decode cX10_count 71 = .ok (.iadd, 1) := by decide +kernel
theorem dX10_count_72 : decode cX10_count 72 = .ok (.ireturn, 1) := by decide +kernel
theorem dX10_count_73 : decode cX10_count 73 = .ok (.aload_n 0, 1) := by decide +kernel
theorem dX10_count_74 : decode cX10_count 74 = .ok (.iconst 0, 1) := by decide +kernel
theorem dX10_count_75 : decode cX10_count 75 = .ok (.bipush 20, 2) := by decide +kernel
theorem dX10_count_77 : decode cX10_count 77 = .ok (.invokevirtual 165, 3) := by decide +kernel
theorem dX10_count_80 : decode cX10_count 80 = .ok (.ireturn, 1) := by decide +kernel
theorem dX10_count_81 : decode cX10_count 81 = .ok (.aload_n 0, 1) := by decide +kernel
theorem dX10_count_82 : decode cX10_count 82 = .ok (.iconst 0, 1) := by decide +kernel
theorem dX10_count_83 : decode cX10_count 83 = .ok (.bipush 26, 2) := by decide +kernel
theorem dX10_count_85 : decode cX10_count 85 = .ok (.invokevirtual 165, 3) := by decide +kernel
theorem dX10_count_88 : decode cX10_count 88 = .ok (.ireturn, 1) := by decide +kernel
theorem dX10_count_89 : decode cX10_count 89 = .ok (.aload_n 0, 1) := by decide +kernel
theorem dX10_count_90 : decode cX10_count 90 = .ok (.getfield 22, 3) := by decide +kernel
theorem dX10_count_93 : decode cX10_count 93 = .ok (.bipush 19, 2) := by decide +kernel
theorem dX10_count_95 : decode cX10_count 95 = .ok (.iaload, 1) := by decide +kernel
theorem dX10_count_96 : decode cX10_count 96 = .ok (.ireturn, 1) := by decide +kernel
theorem dX10_count_97 : decode cX10_count 97 = .ok (.aload_n 0, 1) := by decide +kernel
theorem dX10_count_98 : decode cX10_count 98 = .ok (.getfield 66, 3) := by decide +kernel
theorem dX10_count_101 : decode cX10_count 101 = .ok (.ireturn, 1) := by decide +kernel
theorem dX10_count_102 : decode cX10_count 102 = .ok (.aload_n 0, 1) := by decide +kernel
theorem dX10_count_103 : decode cX10_count 103 = .ok (.getfield 63, 3) := by decide +kernel
theorem dX10_count_106 : decode cX10_count 106 = .ok (.ireturn, 1) := by decide +kernel
theorem dX10_count_107 : decode cX10_count 107 = .ok (.aload_n 0, 1) := by decide +kernel
theorem dX10_count_108 : decode cX10_count 108 = .ok (.getfield 73, 3) := by decide +kernel
theorem dX10_count_111 : decode cX10_count 111 = .ok (.ireturn, 1) := by decide +kernel
theorem dX10_count_112 : decode cX10_count 112 = .ok (.bipush (-3), 2) := by decide +kernel
theorem dX10_count_114 : decode cX10_count 114 = .ok (.ireturn, 1) := by decide +kernel
theorem dJ6_bitCount_0f7a4_0 : decode cJ6_bitCount_0f7a4 0 = .ok (.iload_n 0, 1) := by decide +kernel
theorem dJ6_bitCount_0f7a4_1 : decode cJ6_bitCount_0f7a4 1 = .ok (.iload_n 0, 1) := by decide +kernel
theorem dJ6_bitCount_0f7a4_2 : decode cJ6_bitCount_0f7a4 2 = .ok (.iconst 1, 1) := by decide +kernel
theorem dJ6_bitCount_0f7a4_3 : decode cJ6_bitCount_0f7a4 3 = .ok (.iushr, 1) := by decide +kernel
theorem dJ6_bitCount_0f7a4_4 : decode cJ6_bitCount_0f7a4 4 = .ok (.ldc_w 265, 3) := by decide +kernel
theorem dJ6_bitCount_0f7a4_7 : decode cJ6_bitCount_0f7a4 7 = .ok (.iand, 1) := by decide +kernel
theorem dJ6_bitCount_0f7a4_8 : decode cJ6_bitCount_0f7a4 8 = .ok (.isub, 1) := by decide +kernel
theorem dJ6_bitCount_0f7a4_9 : decode cJ6_bitCount_0f7a4 9 = .ok (.istore_n 0, 1) := by decide +kernel
theorem dJ6_bitCount_0f7a4_10 : decode cJ6_bitCount_0f7a4 10 = .ok (.iload_n 0, 1) := by decide +kernel
theorem dJ6_bitCount_0f7a4_11 : decode cJ6_bitCount_0f7a4 11 = .ok (.ldc_w 266, 3) := by decide +kernel
theorem dJ6_bitCount_0f7a4_14 : decode cJ6_bitCount_0f7a4 14 = .ok (.iand, 1) := by decide +kernel
theorem dJ6_bitCount_0f7a4_15 : decode cJ6_bitCount_0f7a4 15 = .ok (.iload_n 0, 1) := by decide +kernel
theorem dJ6_bitCount_0f7a4_16 : decode cJ6_bitCount_0f7a4 16 = .ok (.iconst 2, 1) := by decide +kernel
theorem dJ6_bitCount_0f7a4_17 : decode cJ6_bitCount_0f7a4 17 = .ok (.iushr, 1) := by decide +kernel
theorem dJ6_bitCount_0f7a4_18 : decode cJ6_bitCount_0f7a4 18 = .ok (.ldc_w 266, 3) := by decide +kernel
theorem dJ6_bitCount_0f7a4_21 : decode cJ6_bitCount_0f7a4 21 = .ok (.iand, 1) := by decide +kernel
theorem dJ6_bitCount_0f7a4_22 : decode cJ6_bitCount_0f7a4 22 = .ok (.iadd, 1) := by decide +kernel
theorem dJ6_bitCount_0f7a4_23 : decode cJ6_bitCount_0f7a4 23 = .ok (.istore_n 0, 1) := by decide +kernel
theorem dJ6_bitCount_0f7a4_24 : decode cJ6_bitCount_0f7a4 24 = .ok (.iload_n 0, 1) := by decide +kernel
theorem dJ6_bitCount_0f7a4_25 : decode cJ6_bitCount_0f7a4 25 = .ok (.iload_n 0, 1) := by decide +kernel
theorem dJ6_bitCount_0f7a4_26 : decode cJ6_bitCount_0f7a4 26 = .ok (.iconst 4, 1) := by decide +kernel
theorem dJ6_bitCount_0f7a4_27 : decode cJ6_bitCount_0f7a4 27 = .ok (.iushr, 1) := by decide +kernel
theorem dJ6_bitCount_0f7a4_28 : decode cJ6_bitCount_0f7a4 28 = .ok (.iadd, 1) := by decide +kernel
theorem dJ6_bitCount_0f7a4_29 : decode cJ6_bitCount_0f7a4 29 = .ok (.ldc_w 267, 3) := by decide +kernel
theorem dJ6_bitCount_0f7a4_32 : decode cJ6_bitCount_0f7a4 32 = .ok (.iand, 1) := by decide +kernel
theorem dJ6_bitCount_0f7a4_33 : decode cJ6_bitCount_0f7a4 33 = .ok (.istore_n 0, 1) := by decide +kernel
theorem dJ6_bitCount_0f7a4_34 : decode cJ6_bitCount_0f7a4 34 = .ok (.iload_n 0, 1) := by decide +kernel
theorem dJ6_bitCount_0f7a4_35 : decode cJ6_bitCount_0f7a4 35 = .ok (.iload_n 0, 1) := by decide +kernel
theorem dJ6_bitCount_0f7a4_36 : decode cJ6_bitCount_0f7a4 36 = .ok (.bipush 8, 2) := by decide +kernel
theorem dJ6_bitCount_0f7a4_38 : decode cJ6_bitCount_0f7a4 38 = .ok (.iushr, 1) := by decide +kernel
theorem dJ6_bitCount_0f7a4_39 : decode cJ6_bitCount_0f7a4 39 = .ok (.iadd, 1) := by decide +kernel
theorem dJ6_bitCount_0f7a4_40 : decode cJ6_bitCount_0f7a4 40 = .ok (.istore_n 0, 1) := by decide +kernel
theorem dJ6_bitCount_0f7a4_41 : decode cJ6_bitCount_0f7a4 41 = .ok (.iload_n 0, 1) := by decide +kernel
theorem dJ6_bitCount_0f7a4_42 : decode cJ6_bitCount_0f7a4 42 = .ok (.iload_n 0, 1) := by decide +kernel
theorem dJ6_bitCount_0f7a4_43 : decode cJ6_bitCount_0f7a4 43 = .ok (.bipush 16, 2) := by decide +kernel
theorem dJ6_bitCount_0f7a4_45 : decode cJ6_bitCount_0f7a4 45 = .ok (.iushr, 1) := by decide +kernel
theorem dJ6_bitCount_0f7a4_46 : decode cJ6_bitCount_0f7a4 46 = .ok (.iadd, 1) := by decide +kernel
theorem dJ6_bitCount_0f7a4_47 : decode cJ6_bitCount_0f7a4 47 = .ok (.istore_n 0, 1) := by decide +kernel
theorem dJ6_bitCount_0f7a4_48 : decode cJ6_bitCount_0f7a4 48 = .ok (.iload_n 0, 1) := by decide +kernel
theorem dJ6_bitCount_0f7a4_49 : decode cJ6_bitCount_0f7a4 49 = .ok (.bipush 63, 2) := by decide +kernel
theorem dJ6_bitCount_0f7a4_51 : decode cJ6_bitCount_0f7a4 51 = .ok (.iand, 1) := by decide +kernel
theorem dJ6_bitCount_0f7a4_52 : decode cJ6_bitCount_0f7a4 52 = .ok (.ireturn, 1) := by decide +kernel
theorem dJ9_floorMod_7cf53_0 : decode cJ9_floorMod_7cf53 0 = .ok (.iload_n 0, 1) := by decide +kernel
theorem dJ9_floorMod_7cf53_1 : decode cJ9_floorMod_7cf53 1 = .ok (.iload_n 1, 1) := by decide +kernel
theorem dJ9_floorMod_7cf53_2 : decode cJ9_floorMod_7cf53 2 = .ok (.irem, 1) := by decide +kernel
theorem dJ9_floorMod_7cf53_3 : decode cJ9_floorMod_7cf53 3 = .ok (.istore_n 2, 1) := by decide +kernel
theorem dJ9_floorMod_7cf53_4 : decode cJ9_floorMod_7cf53 4 = .ok (.iload_n 0, 1) := by decide +kernel
theorem dJ9_floorMod_7cf53_5 : decode cJ9_floorMod_7cf53 5 = .ok (.iload_n 1, 1) := by decide +kernel
theorem dJ9_floorMod_7cf53_6 : decode cJ9_floorMod_7cf53 6 = .ok (.ixor, 1) := by decide +kernel
theorem dJ9_floorMod_7cf53_7 : decode cJ9_floorMod_7cf53 7 = .ok (.ifCond .ge 11, 3) := by decide +kernel
theorem dJ9_floorMod_7cf53_10 : decode cJ9_floorMod_7cf53 10 = .ok (.iload_n 2, 1) := by decide +kernel
theorem dJ9_floorMod_7cf53_11 : decode cJ9_floorMod_7cf53 11 = .ok (.ifCond .eq 7, 3) := by decide +kernel
theorem dJ9_floorMod_7cf53_14 : decode cJ9_floorMod_7cf53 14 = .ok (.iload_n 2, 1) := by decide +kernel
theorem dJ9_floorMod_7cf53_15 : decode cJ9_floorMod_7cf53 15 = .ok (.iload_n 1, 1) := by decide +kernel
theorem dJ9_floorMod_7cf53_16 : decode cJ9_floorMod_7cf53 16 = .ok (.iadd, 1) := by decide +kernel
theorem dJ9_floorMod_7cf53_17 : decode cJ9_floorMod_7cf53 17 = .ok (.ireturn, 1) := by decide +kernel
theorem dJ9_floorMod_7cf53_18 : decode cJ9_floorMod_7cf53 18 = .ok (.iload_n 2, 1) := by decide +kernel
theorem dJ9_floorMod_7cf53_19 : decode cJ9_floorMod_7cf53 19 = .ok (.ireturn, 1) := by decide +kernel
theorem dJ9_max_7cf53_0 : decode cJ9_max_7cf53 0 = .ok (.iload_n 0, 1) := by decide +kernel
theorem dJ9_max_7cf53_1 : decode cJ9_max_7cf53 1 = .ok (.iload_n 1, 1) := by decide +kernel
theorem dJ9_max_7cf53_2 : decode cJ9_max_7cf53 2 = .ok (.if_icmp .lt 7, 3) := by decide +kernel
theorem dJ9_max_7cf53_5 : decode cJ9_max_7cf53 5 = .ok (.iload_n 0, 1) := by decide +kernel
theorem dJ9_max_7cf53_6 : decode cJ9_max_7cf53 6 = .ok (.goto 4, 3) := by decide +kernel
theorem dJ9_max_7cf53_9 : decode cJ9_max_7cf53 9 = .ok (.iload_n 1, 1) := by decide +kernel
theorem dJ9_max_7cf53_10 : decode cJ9_max_7cf53 10 = .ok (.ireturn, 1) := by decide +kernel
theorem dJ9_min_7cf53_0 : decode cJ9_min_7cf53 0 = .ok (.iload_n 0, 1) := by decide +kernel
theorem dJ9_min_7cf53_1 : decode cJ9_min_7cf53 1 = .ok (.iload_n 1, 1) := by decide +kernel
theorem dJ9_min_7cf53_2 : decode cJ9_min_7cf53 2 = .ok (.if_icmp .gt 7, 3) := by decide +kernel
theorem dJ9_min_7cf53_5 : decode cJ9_min_7cf53 5 = .ok (.iload_n 0, 1) := by decide +kernel
theorem dJ9_min_7cf53_6 : decode cJ9_min_7cf53 6 = .ok (.goto 4, 3) := by decide +kernel
theorem dJ9_min_7cf53_9 : decode cJ9_min_7cf53 9 = .ok (.iload_n 1, 1) := by decide +kernel
theorem dJ9_min_7cf53_10 : decode cJ9_min_7cf53 10 = .ok (.ireturn, 1) := by decide +kernel
set_option maxRecDepth 20000 in
theorem ggJ0_length_8abf5_J0_coder_7d493 : GoodIn wsJ0_length_8abf5 wsJ0_coder_7d493 := goodIn_r _ [6, 7, 8] (by decide +kernel) (by decide +kernel)
set_option maxRecDepth 20000 in
theorem gJ0_length_8abf5_J0_coder_7d493 : GoodIn wsJ0_length_8abf5 (wsV RJ0 335 RJ0 yJ0_coder_7d493 wsJ0_coder_7d493) := goodIn_app (goodIn_of _ (by decide +kernel)) ggJ0_length_8abf5_J0_coder_7d493
theorem dJ0_length_8abf5_0 : decode cJ0_length_8abf5 0 = .ok (.aload_n 0, 1) := by decide +kernel
theorem dJ0_length_8abf5_1 : decode cJ0_length_8abf5 1 = .ok (.getfield 9, 3) := by decide +kernel
theorem dJ0_length_8abf5_4 : decode cJ0_length_8abf5 4 = .ok (.arraylength, 1) := by decide +kernel
theorem dJ0_length_8abf5_5 : decode cJ0_length_8abf5 5 = .ok (.aload_n 0, 1) := by decide +kernel
theorem dJ0_length_8abf5_6 : decode cJ0_length_8abf5 6 = .ok (.invokevirtual 335, 3) := by decide +kernel
theorem dJ0_length_8abf5_9 : decode cJ0_length_8abf5 9 = .ok (.ishr, 1) := by decide +kernel
theorem dJ0_length_8abf5_10 : decode cJ0_length_8abf5 10 = .ok (.ireturn, 1) := by decide +kernel
set_option maxRecDepth 20000 in
theorem ggJ0_charAt_5068e_J0_isLatin1_aae02 : GoodIn wsJ0_charAt_5068e wsJ0_isLatin1_aae02 := goodIn_r _ [6, 7, 8] (by decide +kernel) (by decide +kernel)
set_option maxRecDepth 20000 in
theorem gJ0_charAt_5068e_J0_isLatin1_aae02 : GoodIn wsJ0_charAt_5068e (wsV RJ0 492 RJ0 yJ0_isLatin1_aae02 wsJ0_isLatin1_aae02) := goodIn_app (goodIn_of _ (by decide +kernel)) ggJ0_charAt_5068e_J0_isLatin1_aae02
set_option maxRecDepth 20000 in
theorem ggJ0_charAt_5068e_J1_charAt_3b067 : GoodIn wsJ0_charAt_5068e wsJ1_charAt_3b067 := goodIn_r _ [12, 13, 14, 5, 15, 16, 17, 18, 19, 20] (by decide +kernel) (by decide +kernel)
set_option maxRecDepth 20000 in
theorem gJ0_charAt_5068e_J1_charAt_3b067 : GoodIn wsJ0_charAt_5068e (va_wsS RJ0 495 yJ1_charAt_3b067 wsJ1_charAt_3b067) := goodIn_app (goodIn_of _ (by decide +kernel)) ggJ0_charAt_5068e_J1_charAt_3b067
set_option maxRecDepth 20000 in
theorem ggJ0_charAt_5068e_J2_charAt_3b067 : GoodIn wsJ0_charAt_5068e wsJ2_charAt_3b067 := goodIn_r _ [24, 25, 26, 23, 27, 28, 29, 30, 31, 14, 5, 15, 16, 17, 18, 19, 20, 32, 33, 34, 35, 36, 37] (by decide +kernel) (by decide +kernel)
set_option maxRecDepth 20000 in
theorem gJ0_charAt_5068e_J2_charAt_3b067 : GoodIn wsJ0_charAt_5068e (va_wsS RJ0 498 yJ2_charAt_3b067 wsJ2_charAt_3b067) := goodIn_app (goodIn_of _ (by decide +kernel)) ggJ0_charAt_5068e_J2_charAt_3b067
theorem dJ0_charAt_5068e_0 : decode cJ0_charAt_5068e 0 = .ok (.aload_n 0, 1) := by decide +kernel
theorem dJ0_charAt_5068e_1 : decode cJ0_charAt_5068e 1 = .ok (.invokevirtual 492, 3) := by decide +kernel
theorem dJ0_charAt_5068e_4 : decode cJ0_charAt_5068e 4 = .ok (.ifCond .eq 12, 3) := by decide +kernel
theorem dJ0_charAt_5068e_7 : decode cJ0_charAt_5068e 7 = .ok (.aload_n 0, 1) := by decide +kernel
theorem dJ0_charAt_5068e_8 : decode cJ0_charAt_5068e 8 = .ok (.getfield 9, 3) := by decide +kernel
theorem dJ0_charAt_5068e_11 : decode cJ0_charAt_5068e 11 = .ok (.iload_n 1, 1) := by decide +kernel
theorem dJ0_charAt_5068e_12 : decode cJ0_charAt_5068e 12 = .ok (.invokestatic 495, 3) := by decide +kernel
theorem dJ0_charAt_5068e_15 : decode cJ0_charAt_5068e 15 = .ok (.ireturn, 1) := by decide +kernel
theorem dJ0_charAt_5068e_16 : decode cJ0_charAt_5068e 16 = .ok (.aload_n 0, 1) := by decide +kernel
theorem dJ0_charAt_5068e_17 : decode cJ0_charAt_5068e 17 = .ok (.getfield 9, 3) := by decide +kernel
theorem dJ0_charAt_5068e_20 : decode cJ0_charAt_5068e 20 = .ok (.iload_n 1, 1) := by decide +kernel
theorem dJ0_charAt_5068e_21 : decode cJ0_charAt_5068e 21 = .ok (.invokestatic 498, 3) := by decide +kernel
theorem dJ0_charAt_5068e_24 : decode cJ0_charAt_5068e 24 = .ok (.ireturn, 1) := by decide +kernel
theorem dJ0_coder_7d493_0 : decode cJ0_coder_7d493 0 = .ok (.getstatic 38, 3) := by decide +kernel
theorem dJ0_coder_7d493_3 : decode cJ0_coder_7d493 3 = .ok (.ifCond .eq 10, 3) := by decide +kernel
theorem dJ0_coder_7d493_6 : decode cJ0_coder_7d493 6 = .ok (.aload_n 0, 1) := by decide +kernel
theorem dJ0_coder_7d493_7 : decode cJ0_coder_7d493 7 = .ok (.getfield 15, 3) := by decide +kernel
theorem dJ0_coder_7d493_10 : decode cJ0_coder_7d493 10 = .ok (.goto 4, 3) := by decide +kernel
theorem dJ0_coder_7d493_13 : decode cJ0_coder_7d493 13 = .ok (.iconst 1, 1) := by decide +kernel
theorem dJ0_coder_7d493_14 : decode cJ0_coder_7d493 14 = .ok (.ireturn, 1) := by decide +kernel
theorem dJ0_isLatin1_aae02_0 : decode cJ0_isLatin1_aae02 0 = .ok (.getstatic 38, 3) := by decide +kernel
theorem dJ0_isLatin1_aae02_3 : decode cJ0_isLatin1_aae02 3 = .ok (.ifCond .eq 14, 3) := by decide +kernel
theorem dJ0_isLatin1_aae02_6 : decode cJ0_isLatin1_aae02 6 = .ok (.aload_n 0, 1) := by decide +kernel
theorem dJ0_isLatin1_aae02_7 : decode cJ0_isLatin1_aae02 7 = .ok (.getfield 15, 3) := by decide +kernel
theorem dJ0_isLatin1_aae02_10 : decode cJ0_isLatin1_aae02 10 = .ok (.ifCond .ne 7, 3) := by decide +kernel
theorem dJ0_isLatin1_aae02_13 : decode cJ0_isLatin1_aae02 13 = .ok (.iconst 1, 1) := by decide +kernel
theorem dJ0_isLatin1_aae02_14 : decode cJ0_isLatin1_aae02 14 = .ok (.goto 4, 3) := by decide +kernel
theorem dJ0_isLatin1_aae02_17 : decode cJ0_isLatin1_aae02 17 = .ok (.iconst 0, 1) := by decide +kernel
theorem dJ0_isLatin1_aae02_18 : decode cJ0_isLatin1_aae02 18 = .ok (.ireturn, 1) := by decide +kernel
set_option maxRecDepth 20000 in
theorem ggJ0_checkIndex_df160_J3_checkIndex_8e157 : GoodIn wsJ0_checkIndex_df160 wsJ3_checkIndex_8e157 := goodIn_r _ [5] (by decide +kernel) (by decide +kernel)
set_option maxRecDepth 20000 in
theorem gJ0_checkIndex_df160_J3_checkIndex_8e157 : GoodIn wsJ0_checkIndex_df160 (va_wsS RJ0 1059 yJ3_checkIndex_8e157 wsJ3_checkIndex_8e157) := goodIn_app (goodIn_of _ (by decide +kernel)) ggJ0_checkIndex_df160_J3_checkIndex_8e157
theorem dJ0_checkIndex_df160_0 : decode cJ0_checkIndex_df160 0 = .ok (.iload_n 0, 1) := by decide +kernel
theorem dJ0_checkIndex_df160_1 : decode cJ0_checkIndex_df160 1 = .ok (.iload_n 1, 1) := by decide +kernel
theorem dJ0_checkIndex_df160_2 : decode cJ0_checkIndex_df160 2 = .ok (.getstatic 1053, 3) := by decide +kernel
theorem dJ0_checkIndex_df160_5 : decode cJ0_checkIndex_df160 5 = .ok (.invokestatic 1059, 3) := by decide +kernel
theorem dJ0_checkIndex_df160_8 : decode cJ0_checkIndex_df160 8 = .ok (.pop, 1) := by decide +kernel
theorem dJ0_checkIndex_df160_9 : decode cJ0_checkIndex_df160 9 = .ok (.return_, 1) := by decide +kernel
set_option maxRecDepth 20000 in
theorem ggJ1_charAt_3b067_J0_checkIndex_df160 : GoodIn wsJ1_charAt_3b067 wsJ0_checkIndex_df160 := goodIn_r _ [4, 5, 6, 7, 8, 9] (by decide +kernel) (by decide +kernel)
set_option maxRecDepth 20000 in
theorem gJ1_charAt_3b067_J0_checkIndex_df160 : GoodIn wsJ1_charAt_3b067 (va_wsS RJ1 9 yJ0_checkIndex_df160 wsJ0_checkIndex_df160) := goodIn_app (goodIn_of _ (by decide +kernel)) ggJ1_charAt_3b067_J0_checkIndex_df160
theorem dJ1_charAt_3b067_0 : decode cJ1_charAt_3b067 0 = .ok (.iload_n 1, 1) := by decide +kernel
theorem dJ1_charAt_3b067_1 : decode cJ1_charAt_3b067 1 = .ok (.aload_n 0, 1) := by decide +kernel
theorem dJ1_charAt_3b067_2 : decode cJ1_charAt_3b067 2 = .ok (.arraylength, 1) := by decide +kernel
theorem dJ1_charAt_3b067_3 : decode cJ1_charAt_3b067 3 = .ok (.invokestatic 9, 3) := by decide +kernel
theorem dJ1_charAt_3b067_6 : decode cJ1_charAt_3b067 6 = .ok (.aload_n 0, 1) := by decide +kernel
theorem dJ1_charAt_3b067_7 : decode cJ1_charAt_3b067 7 = .ok (.iload_n 1, 1) := by decide +kernel
theorem dJ1_charAt_3b067_8 : decode cJ1_charAt_3b067 8 = .ok (.baload, 1) := by decide +kernel
theorem dJ1_charAt_3b067_9 : decode cJ1_charAt_3b067 9 = .ok (.sipush 255, 3) := by decide +kernel
theorem dJ1_charAt_3b067_12 : decode cJ1_charAt_3b067 12 = .ok (.iand, 1) := by decide +kernel
theorem dJ1_charAt_3b067_13 : decode cJ1_charAt_3b067 13 = .ok (.i2c, 1) := by decide +kernel
theorem dJ1_charAt_3b067_14 : decode cJ1_charAt_3b067 14 = .ok (.ireturn, 1) := by decide +kernel
set_option maxRecDepth 20000 in
theorem ggJ2_getChar_3b067_J2_length_9d52b : GoodIn wsJ2_getChar_3b067 wsJ2_length_9d52b := goodIn_r _ [7] (by decide +kernel) (by decide +kernel)
set_option maxRecDepth 20000 in
theorem gJ2_getChar_3b067_J2_length_9d52b : GoodIn wsJ2_getChar_3b067 (va_wsS RJ2 48 yJ2_length_9d52b wsJ2_length_9d52b) := goodIn_app (goodIn_of _ (by decide +kernel)) ggJ2_getChar_3b067_J2_length_9d52b
theorem dJ2_getChar_3b067_0 : decode cJ2_getChar_3b067 0 = .ok (.getstatic 44, 3) := by decide +kernel
theorem dJ2_getChar_3b067_3 : decode cJ2_getChar_3b067 3 = .ok (.ifCond .ne 25, 3) := by decide +kernel
theorem dJ2_getChar_3b067_6 : decode cJ2_getChar_3b067 6 = .ok (.iload_n 1, 1) := by decide +kernel
theorem dJ2_getChar_3b067_7 : decode cJ2_getChar_3b067 7 = .ok (.ifCond .lt 11, 3) := by decide +kernel
theorem dJ2_getChar_3b067_10 : decode cJ2_getChar_3b067 10 = .ok (.iload_n 1, 1) := by decide +kernel
theorem dJ2_getChar_3b067_11 : decode cJ2_getChar_3b067 11 = .ok (.aload_n 0, 1) := by decide +kernel
theorem dJ2_getChar_3b067_12 : decode cJ2_getChar_3b067 12 = .ok (.invokestatic 48, 3) := by decide +kernel
theorem dJ2_getChar_3b067_15 : decode cJ2_getChar_3b067 15 = .ok (.if_icmp .lt 13, 3) := by decide +kernel
theorem dJ2_getChar_3b067_18 : decode cJ2_getChar_3b067 18 = .ok (.new 52, 3) := by decide +kernel
theorem dJ2_getChar_3b067_21 : decode cJ2_getChar_3b067 21 = .ok (.dup, 1) := by decide +kernel
theorem dJ2_getChar_3b067_22 : decode cJ2_getChar_3b067 22 = .ok (.ldc 54, 2) := by decide +kernel
theorem dJ2_getChar_3b067_24 : decode cJ2_getChar_3b067 24 = .ok (.invokespecial 56, 3) := by decide +kernel
theorem dJ2_getChar_3b067_27 : decode cJ2_getChar_3b067 27 = .ok (.athrow, 1) := by decide +kernel
theorem dJ2_getChar_3b067_28 : decode cJ2_getChar_3b067 28 = .ok (.iload_n 1, 1) := by decide +kernel
theorem dJ2_getChar_3b067_29 : decode cJ2_getChar_3b067 29 = .ok (.iconst 1, 1) := by decide +kernel
theorem dJ2_getChar_3b067_30 : decode cJ2_getChar_3b067 30 = .ok (.ishl, 1) := by decide +kernel
theorem dJ2_getChar_3b067_31 : decode cJ2_getChar_3b067 31 = .ok (.istore_n 1, 1) := by decide +kernel
theorem dJ2_getChar_3b067_32 : decode cJ2_getChar_3b067 32 = .ok (.aload_n 0, 1) := by decide +kernel
theorem dJ2_getChar_3b067_33 : decode cJ2_getChar_3b067 33 = .ok (.iload_n 1, 1) := by decide +kernel
theorem dJ2_getChar_3b067_34 : decode cJ2_getChar_3b067 34 = .ok (.iinc 1 1, 3) := by decide +kernel
theorem dJ2_getChar_3b067_37 : decode cJ2_getChar_3b067 37 = .ok (.baload, 1) := by decide +kernel
theorem dJ2_getChar_3b067_38 : decode cJ2_getChar_3b067 38 = .ok (.sipush 255, 3) := by decide +kernel
theorem dJ2_getChar_3b067_41 : decode cJ2_getChar_3b067 41 = .ok (.iand, 1) := by decide +kernel
theorem dJ2_getChar_3b067_42 : decode cJ2_getChar_3b067 42 = .ok (.getstatic 59, 3) := by decide +kernel
theorem dJ2_getChar_3b067_45 : decode cJ2_getChar_3b067 45 = .ok (.ishl, 1) := by decide +kernel
theorem dJ2_getChar_3b067_46 : decode cJ2_getChar_3b067 46 = .ok (.aload_n 0, 1) := by decide +kernel
theorem dJ2_getChar_3b067_47 : decode cJ2_getChar_3b067 47 = .ok (.iload_n 1, 1) := by decide +kernel
theorem dJ2_getChar_3b067_48 : decode cJ2_getChar_3b067 48 = .ok (.baload, 1) := by decide +kernel
theorem dJ2_getChar_3b067_49 : decode cJ2_getChar_3b067 49 = .ok (.sipush 255, 3) := by decide +kernel
theorem dJ2_getChar_3b067_52 : decode cJ2_getChar_3b067 52 = .ok (.iand, 1) := by decide +kernel
theorem dJ2_getChar_3b067_53 : decode cJ2_getChar_3b067 53 = .ok (.getstatic 63, 3) := by decide +kernel
theorem dJ2_getChar_3b067_56 : decode cJ2_getChar_3b067 56 = .ok (.ishl, 1) := by decide +kernel
theorem dJ2_getChar_3b067_57 : decode cJ2_getChar_3b067 57 = .ok (.ior, 1) := by decide +kernel
theorem dJ2_getChar_3b067_58 : decode cJ2_getChar_3b067 58 = .ok (.i2c, 1) := by decide +kernel
theorem dJ2_getChar_3b067_59 : decode cJ2_getChar_3b067 59 = .ok (.ireturn, 1) := by decide +kernel
theorem dJ2_length_9d52b_0 : decode cJ2_length_9d52b 0 = .ok (.aload_n 0, 1) := by decide +kernel
theorem dJ2_length_9d52b_1 : decode cJ2_length_9d52b 1 = .ok (.arraylength, 1) := by decide +kernel
theorem dJ2_length_9d52b_2 : decode cJ2_length_9d52b 2 = .ok (.iconst 1, 1) := by decide +kernel
theorem dJ2_length_9d52b_3 : decode cJ2_length_9d52b 3 = .ok (.ishr, 1) := by decide +kernel
theorem dJ2_length_9d52b_4 : decode cJ2_length_9d52b 4 = .ok (.ireturn, 1) := by decide +kernel
set_option maxRecDepth 20000 in
theorem ggJ2_charAt_3b067_J2_checkIndex_2214a : GoodIn wsJ2_charAt_3b067 wsJ2_checkIndex_2214a := goodIn_r _ [4, 5, 6, 3, 7, 8, 9, 10, 11, 12, 13, 14, 15, 16] (by decide +kernel) (by decide +kernel)
set_option maxRecDepth 20000 in
theorem gJ2_charAt_3b067_J2_checkIndex_2214a : GoodIn wsJ2_charAt_3b067 (va_wsS RJ2 67 yJ2_checkIndex_2214a wsJ2_checkIndex_2214a) := goodIn_app (goodIn_of _ (by decide +kernel)) ggJ2_charAt_3b067_J2_checkIndex_2214a
set_option maxRecDepth 20000 in
theorem ggJ2_charAt_3b067_J2_getChar_3b067 : GoodIn wsJ2_charAt_3b067 wsJ2_getChar_3b067 := goodIn_r _ [19, 20, 21, 22, 5, 6, 3, 7] (by decide +kernel) (by decide +kernel)
set_option maxRecDepth 20000 in
theorem gJ2_charAt_3b067_J2_getChar_3b067 : GoodIn wsJ2_charAt_3b067 (va_wsS RJ2 71 yJ2_getChar_3b067 wsJ2_getChar_3b067) := goodIn_app (goodIn_of _ (by decide +kernel)) ggJ2_charAt_3b067_J2_getChar_3b067
theorem dJ2_charAt_3b067_0 : decode cJ2_charAt_3b067 0 = .ok (.iload_n 1, 1) := by decide +kernel
theorem dJ2_charAt_3b067_1 : decode cJ2_charAt_3b067 1 = .ok (.aload_n 0, 1) := by decide +kernel
theorem dJ2_charAt_3b067_2 : decode cJ2_charAt_3b067 2 = .ok (.invokestatic 67, 3) := by decide +kernel
theorem dJ2_charAt_3b067_5 : decode cJ2_charAt_3b067 5 = .ok (.aload_n 0, 1) := by decide +kernel
theorem dJ2_charAt_3b067_6 : decode cJ2_charAt_3b067 6 = .ok (.iload_n 1, 1) := by decide +kernel
theorem dJ2_charAt_3b067_7 : decode cJ2_charAt_3b067 7 = .ok (.invokestatic 71, 3) := by decide +kernel
theorem dJ2_charAt_3b067_10 : decode cJ2_charAt_3b067 10 = .ok (.ireturn, 1) := by decide +kernel
set_option maxRecDepth 20000 in
theorem ggJ2_checkIndex_2214a_J2_length_9d52b : GoodIn wsJ2_checkIndex_2214a wsJ2_length_9d52b := goodIn_r _ [4] (by decide +kernel) (by decide +kernel)
set_option maxRecDepth 20000 in
theorem gJ2_checkIndex_2214a_J2_length_9d52b : GoodIn wsJ2_checkIndex_2214a (va_wsS RJ2 48 yJ2_length_9d52b wsJ2_length_9d52b) := goodIn_app (goodIn_of _ (by decide +kernel)) ggJ2_checkIndex_2214a_J2_length_9d52b
set_option maxRecDepth 20000 in
theorem ggJ2_checkIndex_2214a_J0_checkIndex_df160 : GoodIn wsJ2_checkIndex_2214a wsJ0_checkIndex_df160 := goodIn_r _ [8, 9, 10, 11, 12, 13] (by decide +kernel) (by decide +kernel)
set_option maxRecDepth 20000 in
theorem gJ2_checkIndex_2214a_J0_checkIndex_df160 : GoodIn wsJ2_checkIndex_2214a (va_wsS RJ2 414 yJ0_checkIndex_df160 wsJ0_checkIndex_df160) := goodIn_app (goodIn_of _ (by decide +kernel)) ggJ2_checkIndex_2214a_J0_checkIndex_df160
theorem dJ2_checkIndex_2214a_0 : decode cJ2_checkIndex_2214a 0 = .ok (.iload_n 0, 1) := by decide +kernel
theorem dJ2_checkIndex_2214a_1 : decode cJ2_checkIndex_2214a 1 = .ok (.aload_n 1, 1) := by decide +kernel
theorem dJ2_checkIndex_2214a_2 : decode cJ2_checkIndex_2214a 2 = .ok (.invokestatic 48, 3) := by decide +kernel
theorem dJ2_checkIndex_2214a_5 : decode cJ2_checkIndex_2214a 5 = .ok (.invokestatic 414, 3) := by decide +kernel
theorem dJ2_checkIndex_2214a_8 : decode cJ2_checkIndex_2214a 8 = .ok (.return_, 1) := by decide +kernel
theorem dJ3_checkIndex_8e157_0 : decode cJ3_checkIndex_8e157 0 = .ok (.iload_n 0, 1) := by decide +kernel
theorem dJ3_checkIndex_8e157_1 : decode cJ3_checkIndex_8e157 1 = .ok (.ifCond .lt 8, 3) := by decide +kernel
theorem dJ3_checkIndex_8e157_4 : decode cJ3_checkIndex_8e157 4 = .ok (.iload_n 0, 1) := by decide +kernel
theorem dJ3_checkIndex_8e157_5 : decode cJ3_checkIndex_8e157 5 = .ok (.iload_n 1, 1) := by decide +kernel
theorem dJ3_checkIndex_8e157_6 : decode cJ3_checkIndex_8e157 6 = .ok (.if_icmp .lt 10, 3) := by decide +kernel
theorem dJ3_checkIndex_8e157_9 : decode cJ3_checkIndex_8e157 9 = .ok (.aload_n 2, 1) := by decide +kernel
theorem dJ3_checkIndex_8e157_10 : decode cJ3_checkIndex_8e157 10 = .ok (.iload_n 0, 1) := by decide +kernel
theorem dJ3_checkIndex_8e157_11 : decode cJ3_checkIndex_8e157 11 = .ok (.iload_n 1, 1) := by decide +kernel
theorem dJ3_checkIndex_8e157_12 : decode cJ3_checkIndex_8e157 12 = .ok (.invokestatic 95, 3) := by decide +kernel
theorem dJ3_checkIndex_8e157_15 : decode cJ3_checkIndex_8e157 15 = .ok (.athrow, 1) := by decide +kernel
theorem dJ3_checkIndex_8e157_16 : decode cJ3_checkIndex_8e157 16 = .ok (.iload_n 0, 1) := by decide +kernel
theorem dJ3_checkIndex_8e157_17 : decode cJ3_checkIndex_8e157 17 = .ok (.ireturn, 1) := by decide +kernel
abbrev vwCl : List vw_C := [(RX1, TX1, 12), (RX2, TX2, 0), (RX3, TX3, 0), (RX4, TX4, 0), (RX5, TX5, 0), (RX6, TX6, 6), (RX7, TX7, 8), (RX8, TX8, 4), (RX9, TX9, 15), (RX10, TX10, 23)]
