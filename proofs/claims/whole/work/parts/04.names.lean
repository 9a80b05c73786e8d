theorem dX9_change_2 : decode cX9_change 2 = .ok (.iconst 5, 1) := by decide +kernel
theorem dX9_change_3 : decode cX9_change 3 = .ok (.invokestatic 77, 3) := by decide +kernel
theorem dX9_change_6 : decode cX9_change 6 = .ok (.ifCond .ne 20, 3) := by decide +kernel
theorem dX9_change_9 : decode cX9_change 9 = .ok (.iload_n 2, 1) := by decide +kernel
theorem dX9_change_10 : decode cX9_change 10 = .ok (.getstatic 165, 3) := by decide +kernel
theorem dX9_change_13 : decode cX9_change 13 = .ok (.iload_n 1, 1) := by decide +kernel
theorem dX9_change_14 : decode cX9_change 14 = .ok (.iaload, 1) := by decide +kernel
theorem dX9_change_15 : decode cX9_change 15 = .ok (.getstatic 168, 3) := by decide +kernel
theorem dX9_change_18 : decode cX9_change 18 = .ok (.iload_n 1, 1) := by decide +kernel
theorem dX9_change_19 : decode cX9_change 19 = .ok (.iaload, 1) := by decide +kernel
theorem dX9_change_20 : decode cX9_change 20 = .ok (.invokestatic 77, 3) := by decide +kernel
theorem dX9_change_23 : decode cX9_change 23 = .ok (.ifCond .eq 6, 3) := by decide +kernel
theorem dX9_change_26 : decode cX9_change 26 = .ok (.bipush (-3), 2) := by decide +kernel
theorem dX9_change_28 : decode cX9_change 28 = .ok (.ireturn, 1) := by decide +kernel
theorem dX9_change_29 : decode cX9_change 29 = .ok (.aload_n 0, 1) := by decide +kernel
theorem dX9_change_30 : decode cX9_change 30 = .ok (.invokevirtual 149, 3) := by decide +kernel
theorem dX9_change_33 : decode cX9_change 33 = .ok (.aload_n 0, 1) := by decide +kernel
theorem dX9_change_34 : decode cX9_change 34 = .ok (.getfield 43, 3) := by decide +kernel
theorem dX9_change_37 : decode cX9_change 37 = .ok (.getfield 140, 3) := by decide +kernel
theorem dX9_change_40 : decode cX9_change 40 = .ok (.iload_n 1, 1) := by decide +kernel
theorem dX9_change_41 : decode cX9_change 41 = .ok (.invokevirtual 144, 3) := by decide +kernel
theorem dX9_change_44 : decode cX9_change 44 = .ok (.istore_n 3, 1) := by decide +kernel
theorem dX9_change_45 : decode cX9_change 45 = .ok (.aload_n 0, 1) := by decide +kernel
theorem dX9_change_46 : decode cX9_change 46 = .ok (.getfield 43, 3) := by decide +kernel
theorem dX9_change_49 : decode cX9_change 49 = .ok (.getfield 140, 3) := by decide +kernel
theorem dX9_change_52 : decode cX9_change 52 = .ok (.iload_n 1, 1) := by decide +kernel
theorem dX9_change_53 : decode cX9_change 53 = .ok (.iload_n 2, 1) := by decide +kernel
theorem dX9_change_54 : decode cX9_change 54 = .ok (.invokevirtual 171, 3) := by decide +kernel
theorem dX9_change_57 : decode cX9_change 57 = .ok (.iload_n 3, 1) := by decide +kernel
theorem dX9_change_58 : decode cX9_change 58 = .ok (.ireturn, 1) := by decide +kernel
set_option maxRecDepth 20000 in
theorem ggX9_undo_X9_pastPlace : GoodIn wsX9_undo wsX9_pastPlace := goodIn_r _ [8, 9, 10, 11, 12, 13, 51, 52, 53, 54, 55, 56, 57, 58, 59, 60, 61, 62, 63, 64, 65] (by decide +kernel) (by decide +kernel)
set_option maxRecDepth 20000 in
theorem gX9_undo_X9_pastPlace : GoodIn wsX9_undo (wsV RX9 178 RX9 yX9_pastPlace wsX9_pastPlace) := goodIn_app (goodIn_of _ (by decide +kernel)) ggX9_undo_X9_pastPlace
set_option maxRecDepth 20000 in
theorem ggX9_undo_X8_copy : GoodIn wsX9_undo wsX8_copy := goodIn_r _ [18, 19, 20, 21, 22, 23, 24, 25, 26, 27, 28, 29, 30, 31, 32, 33, 34, 35, 36, 37, 38, 39, 40, 41, 42, 43, 44, 45, 46, 47, 48, 49, 50, 66, 67, 68, 69, 70, 71, 72, 73, 74, 75, 76, 77, 78, 79, 80, 81, 82, 83, 84, 85, 86, 87] (by decide +kernel) (by decide +kernel)
set_option maxRecDepth 20000 in
theorem gX9_undo_X8_copy : GoodIn wsX9_undo (wsV RX9 181 RX8 yX8_copy wsX8_copy) := goodIn_app (goodIn_of _ (by decide +kernel)) ggX9_undo_X8_copy
theorem dX9_undo_0 : decode cX9_undo 0 = .ok (.aload_n 0, 1) := by decide +kernel
theorem dX9_undo_1 : decode cX9_undo 1 = .ok (.getfield 175, 3) := by decide +kernel
theorem dX9_undo_4 : decode cX9_undo 4 = .ok (.ifCond .gt 6, 3) := by decide +kernel
theorem dX9_undo_7 : decode cX9_undo 7 = .ok (.bipush (-4), 2) := by decide +kernel
theorem dX9_undo_9 : decode cX9_undo 9 = .ok (.ireturn, 1) := by decide +kernel
theorem dX9_undo_10 : decode cX9_undo 10 = .ok (.aload_n 0, 1) := by decide +kernel
theorem dX9_undo_11 : decode cX9_undo 11 = .ok (.dup, 1) := by decide +kernel
theorem dX9_undo_12 : decode cX9_undo 12 = .ok (.getfield 175, 3) := by decide +kernel
theorem dX9_undo_15 : decode cX9_undo 15 = .ok (.iconst 1, 1) := by decide +kernel
theorem dX9_undo_16 : decode cX9_undo 16 = .ok (.isub, 1) := by decide +kernel
theorem dX9_undo_17 : decode cX9_undo 17 = .ok (.putfield 175, 3) := by decide +kernel
theorem dX9_undo_20 : decode cX9_undo 20 = .ok (.aload_n 0, 1) := by decide +kernel
theorem dX9_undo_21 : decode cX9_undo 21 = .ok (.getfield 43, 3) := by decide +kernel
theorem dX9_undo_24 : decode cX9_undo 24 = .ok (.aload_n 0, 1) := by decide +kernel
theorem dX9_undo_25 : decode cX9_undo 25 = .ok (.getfield 54, 3) := by decide +kernel
theorem dX9_undo_28 : decode cX9_undo 28 = .ok (.aload_n 0, 1) := by decide +kernel
theorem dX9_undo_29 : decode cX9_undo 29 = .ok (.aload_n 0, 1) := by decide +kernel
theorem dX9_undo_30 : decode cX9_undo 30 = .ok (.getfield 175, 3) := by decide +kernel
theorem dX9_undo_33 : decode cX9_undo 33 = .ok (.invokevirtual 178, 3) := by decide +kernel
theorem dX9_undo_36 : decode cX9_undo 36 = .ok (.aaload, 1) := by decide +kernel
theorem dX9_undo_37 : decode cX9_undo 37 = .ok (.invokevirtual 181, 3) := by decide +kernel
theorem dX9_undo_40 : decode cX9_undo 40 = .ok (.aload_n 0, 1) := by decide +kernel
theorem dX9_undo_41 : decode cX9_undo 41 = .ok (.getfield 175, 3) := by decide +kernel
theorem dX9_undo_44 : decode cX9_undo 44 = .ok (.ireturn, 1) := by decide +kernel
set_option maxRecDepth 20000 in
theorem ggX9_keep_X9_outside : GoodIn wsX9_keep wsX9_outside := goodIn_r _ [8] (by decide +kernel) (by decide +kernel)
set_option maxRecDepth 20000 in
theorem gX9_keep_X9_outside : GoodIn wsX9_keep (va_wsS RX9 77 yX9_outside wsX9_outside) := goodIn_app (goodIn_of _ (by decide +kernel)) ggX9_keep_X9_outside
set_option maxRecDepth 20000 in
theorem ggX9_keep_X8_copy : GoodIn wsX9_keep wsX8_copy := goodIn_r _ [13, 14, 15, 16, 17, 18, 19, 20, 21, 22, 23, 24, 25, 26, 27, 28, 29, 30, 31, 32, 33, 34, 35, 36, 37, 38, 39, 40, 41, 42, 43, 44, 45, 61, 62, 63, 64, 65, 66, 67, 68, 69, 70, 71, 72, 73, 74, 75, 76, 77, 78, 79, 80, 81, 82] (by decide +kernel) (by decide +kernel)
set_option maxRecDepth 20000 in
theorem gX9_keep_X8_copy : GoodIn wsX9_keep (wsV RX9 181 RX8 yX8_copy wsX8_copy) := goodIn_app (goodIn_of _ (by decide +kernel)) ggX9_keep_X8_copy
theorem dX9_keep_0 : decode cX9_keep 0 = .ok (.iload_n 1, 1) := by decide +kernel
theorem dX9_keep_1 : decode cX9_keep 1 = .ok (.iconst 0, 1) := by decide +kernel
theorem dX9_keep_2 : decode cX9_keep 2 = .ok (.iconst 1, 1) := by decide +kernel
theorem dX9_keep_3 : decode cX9_keep 3 = .ok (.invokestatic 77, 3) := by decide +kernel
theorem dX9_keep_6 : decode cX9_keep 6 = .ok (.ifCond .eq 6, 3) := by decide +kernel
theorem dX9_keep_9 : decode cX9_keep 9 = .ok (.bipush (-2), 2) := by decide +kernel
theorem dX9_keep_11 : decode cX9_keep 11 = .ok (.ireturn, 1) := by decide +kernel
theorem dX9_keep_12 : decode cX9_keep 12 = .ok (.aload_n 0, 1) := by decide +kernel
theorem dX9_keep_13 : decode cX9_keep 13 = .ok (.getfield 46, 3) := by decide +kernel
theorem dX9_keep_16 : decode cX9_keep 16 = .ok (.iload_n 1, 1) := by decide +kernel
theorem dX9_keep_17 : decode cX9_keep 17 = .ok (.aaload, 1) := by decide +kernel
theorem dX9_keep_18 : decode cX9_keep 18 = .ok (.aload_n 0, 1) := by decide +kernel
theorem dX9_keep_19 : decode cX9_keep 19 = .ok (.getfield 43, 3) := by decide +kernel
theorem dX9_keep_22 : decode cX9_keep 22 = .ok (.invokevirtual 181, 3) := by decide +kernel
theorem dX9_keep_25 : decode cX9_keep 25 = .ok (.aload_n 0, 1) := by decide +kernel
theorem dX9_keep_26 : decode cX9_keep 26 = .ok (.getfield 50, 3) := by decide +kernel
theorem dX9_keep_29 : decode cX9_keep 29 = .ok (.iload_n 1, 1) := by decide +kernel
theorem dX9_keep_30 : decode cX9_keep 30 = .ok (.iconst 1, 1) := by decide +kernel
theorem dX9_keep_31 : decode cX9_keep 31 = .ok (.bastore, 1) := by decide +kernel
theorem dX9_keep_32 : decode cX9_keep 32 = .ok (.aload_n 0, 1) := by decide +kernel
theorem dX9_keep_33 : decode cX9_keep 33 = .ok (.getfield 43, 3) := by decide +kernel
theorem dX9_keep_36 : decode cX9_keep 36 = .ok (.getfield 133, 3) := by decide +kernel
theorem dX9_keep_39 : decode cX9_keep 39 = .ok (.ireturn, 1) := by decide +kernel
set_option maxRecDepth 20000 in
theorem ggX9_back_X9_outside : GoodIn wsX9_back wsX9_outside := goodIn_r _ [9] (by decide +kernel) (by decide +kernel)
set_option maxRecDepth 20000 in
theorem gX9_back_X9_outside : GoodIn wsX9_back (va_wsS RX9 77 yX9_outside wsX9_outside) := goodIn_app (goodIn_of _ (by decide +kernel)) ggX9_back_X9_outside
set_option maxRecDepth 20000 in
theorem ggX9_back_X8_copy : GoodIn wsX9_back wsX8_copy := goodIn_r _ [14, 15, 16, 17, 18, 19, 20, 21, 22, 23, 24, 25, 26, 27, 28, 29, 30, 31, 32, 33, 34, 35, 36, 37, 38, 39, 40, 41, 42, 43, 44, 45, 46, 62, 63, 64, 65, 66, 67, 68, 69, 70, 71, 72, 73, 74, 75, 76, 77, 78, 79, 80, 81, 82, 83] (by decide +kernel) (by decide +kernel)
set_option maxRecDepth 20000 in
theorem gX9_back_X8_copy : GoodIn wsX9_back (wsV RX9 181 RX8 yX8_copy wsX8_copy) := goodIn_app (goodIn_of _ (by decide +kernel)) ggX9_back_X8_copy
theorem dX9_back_0 : decode cX9_back 0 = .ok (.iload_n 1, 1) := by decide +kernel
theorem dX9_back_1 : decode cX9_back 1 = .ok (.iconst 0, 1) := by decide +kernel
theorem dX9_back_2 : decode cX9_back 2 = .ok (.iconst 1, 1) := by decide +kernel
theorem dX9_back_3 : decode cX9_back 3 = .ok (.invokestatic 77, 3) := by decide +kernel
theorem dX9_back_6 : decode cX9_back 6 = .ok (.ifCond .eq 6, 3) := by decide +kernel
theorem dX9_back_9 : decode cX9_back 9 = .ok (.bipush (-2), 2) := by decide +kernel
theorem dX9_back_11 : decode cX9_back 11 = .ok (.ireturn, 1) := by decide +kernel
theorem dX9_back_12 : decode cX9_back 12 = .ok (.aload_n 0, 1) := by decide +kernel
theorem dX9_back_13 : decode cX9_back 13 = .ok (.getfield 50, 3) := by decide +kernel
theorem dX9_back_16 : decode cX9_back 16 = .ok (.iload_n 1, 1) := by decide +kernel
theorem dX9_back_17 : decode cX9_back 17 = .ok (.baload, 1) := by decide +kernel
theorem dX9_back_18 : decode cX9_back 18 = .ok (.ifCond .ne 6, 3) := by decide +kernel
theorem dX9_back_21 : decode cX9_back 21 = .ok (.bipush (-4), 2) := by decide +kernel
theorem dX9_back_23 : decode cX9_back 23 = .ok (.ireturn, 1) := by decide +kernel
theorem dX9_back_24 : decode cX9_back 24 = .ok (.aload_n 0, 1) := by decide +kernel
theorem dX9_back_25 : decode cX9_back 25 = .ok (.getfield 43, 3) := by decide +kernel
theorem dX9_back_28 : decode cX9_back 28 = .ok (.aload_n 0, 1) := by decide +kernel
theorem dX9_back_29 : decode cX9_back 29 = .ok (.getfield 46, 3) := by decide +kernel
theorem dX9_back_32 : decode cX9_back 32 = .ok (.iload_n 1, 1) := by decide +kernel
theorem dX9_back_33 : decode cX9_back 33 = .ok (.aaload, 1) := by decide +kernel
theorem dX9_back_34 : decode cX9_back 34 = .ok (.invokevirtual 181, 3) := by decide +kernel
theorem dX9_back_37 : decode cX9_back 37 = .ok (.aload_n 0, 1) := by decide +kernel
theorem dX9_back_38 : decode cX9_back 38 = .ok (.iconst 0, 1) := by decide +kernel
theorem dX9_back_39 : decode cX9_back 39 = .ok (.putfield 175, 3) := by decide +kernel
theorem dX9_back_42 : decode cX9_back 42 = .ok (.aload_n 0, 1) := by decide +kernel
theorem dX9_back_43 : decode cX9_back 43 = .ok (.getfield 43, 3) := by decide +kernel
theorem dX9_back_46 : decode cX9_back 46 = .ok (.getfield 133, 3) := by decide +kernel
theorem dX9_back_49 : decode cX9_back 49 = .ok (.ireturn, 1) := by decide +kernel
set_option maxRecDepth 20000 in
theorem ggX9_balance_X9_outside : GoodIn wsX9_balance wsX9_outside := goodIn_r _ [10] (by decide +kernel) (by decide +kernel)
set_option maxRecDepth 20000 in
theorem gX9_balance_X9_outside : GoodIn wsX9_balance (va_wsS RX9 77 yX9_outside wsX9_outside) := goodIn_app (goodIn_of _ (by decide +kernel)) ggX9_balance_X9_outside
set_option maxRecDepth 20000 in
theorem ggX9_balance_X9_tryDays : GoodIn wsX9_balance wsX9_tryDays := goodIn_r _ [14, 3, 1, 15, 16, 17, 18, 19, 20, 21, 22, 23, 24, 25, 26, 27, 28, 29, 30, 31, 32, 33, 34, 35, 9, 36, 37, 38, 39, 40, 41, 42, 43, 44, 45, 46, 47, 48, 49, 50, 51, 52, 53, 54, 55, 56, 57, 58, 59, 60, 61, 62, 63, 64, 65, 66, 67, 68, 69, 70, 71, 72, 73, 74, 75, 76, 77, 78, 79, 80, 81, 82, 83, 84, 85, 86, 87, 88, 89, 90, 91, 92, 93, 94, 95, 96, 97, 98, 99, 100, 101, 102, 103, 104, 105, 106, 107, 108, 109, 110, 111, 112, 113, 114, 115, 116, 117, 118, 119, 120, 121, 122, 123, 124, 125, 126, 127, 128, 129, 130, 131, 132, 133, 134, 135, 136, 137, 138, 139, 140, 141, 142, 143, 144, 145, 146, 147, 148, 149, 150, 151, 152, 153, 154, 155] (by decide +kernel) (by decide +kernel)
set_option maxRecDepth 20000 in
theorem gX9_balance_X9_tryDays : GoodIn wsX9_balance (wsV RX9 185 RX9 yX9_tryDays wsX9_tryDays) := goodIn_app (goodIn_of _ (by decide +kernel)) ggX9_balance_X9_tryDays
theorem dX9_balance_0 : decode cX9_balance 0 = .ok (.iload_n 1, 1) := by decide +kernel
theorem dX9_balance_1 : decode cX9_balance 1 = .ok (.iconst 0, 1) := by decide +kernel
theorem dX9_balance_2 : decode cX9_balance 2 = .ok (.bipush 60, 2) := by decide +kernel
theorem dX9_balance_4 : decode cX9_balance 4 = .ok (.invokestatic 77, 3) := by decide +kernel
theorem dX9_balance_7 : decode cX9_balance 7 = .ok (.ifCond .eq 6, 3) := by decide +kernel
theorem dX9_balance_10 : decode cX9_balance 10 = .ok (.bipush (-3), 2) := by decide +kernel
theorem dX9_balance_12 : decode cX9_balance 12 = .ok (.ireturn, 1) := by decide +kernel
theorem dX9_balance_13 : decode cX9_balance 13 = .ok (.iconst 0, 1) := by decide +kernel
theorem dX9_balance_14 : decode cX9_balance 14 = .ok (.istore_n 2, 1) := by decide +kernel
theorem dX9_balance_15 : decode cX9_balance 15 = .ok (.iconst 0, 1) := by decide +kernel
theorem dX9_balance_16 : decode cX9_balance 16 = .ok (.istore_n 3, 1) := by decide +kernel
theorem dX9_balance_17 : decode cX9_balance 17 = .ok (.iload_n 3, 1) := by decide +kernel
theorem dX9_balance_18 : decode cX9_balance 18 = .ok (.aload_n 0, 1) := by decide +kernel
theorem dX9_balance_19 : decode cX9_balance 19 = .ok (.getfield 43, 3) := by decide +kernel
theorem dX9_balance_22 : decode cX9_balance 22 = .ok (.getfield 89, 3) := by decide +kernel
theorem dX9_balance_25 : decode cX9_balance 25 = .ok (.if_icmp .ge 39, 3) := by decide +kernel
theorem dX9_balance_28 : decode cX9_balance 28 = .ok (.iload_n 3, 1) := by decide +kernel
theorem dX9_balance_29 : decode cX9_balance 29 = .ok (.bipush 6, 2) := by decide +kernel
theorem dX9_balance_31 : decode cX9_balance 31 = .ok (.if_icmp .ge 33, 3) := by decide +kernel
theorem dX9_balance_34 : decode cX9_balance 34 = .ok (.aload_n 0, 1) := by decide +kernel
theorem dX9_balance_35 : decode cX9_balance 35 = .ok (.iload_n 3, 1) := by decide +kernel
theorem dX9_balance_36 : decode cX9_balance 36 = .ok (.iload_n 1, 1) := by decide +kernel
theorem dX9_balance_37 : decode cX9_balance 37 = .ok (.invokevirtual 185, 3) := by decide +kernel
theorem dX9_balance_40 : decode cX9_balance 40 = .ok (.iload_n 2, 1) := by decide +kernel
theorem dX9_balance_41 : decode cX9_balance 41 = .ok (.aload_n 0, 1) := by decide +kernel
theorem dX9_balance_42 : decode cX9_balance 42 = .ok (.getfield 70, 3) := by decide +kernel
theorem dX9_balance_45 : decode cX9_balance 45 = .ok (.getfield 188, 3) := by decide +kernel
theorem dX9_balance_48 : decode cX9_balance 48 = .ok (.aload_n 0, 1) := by decide +kernel
theorem dX9_balance_49 : decode cX9_balance 49 = .ok (.getfield 70, 3) := by decide +kernel
theorem dX9_balance_52 : decode cX9_balance 52 = .ok (.getfield 191, 3) := by decide +kernel
theorem dX9_balance_55 : decode cX9_balance 55 = .ok (.isub, 1) := by decide +kernel
theorem dX9_balance_56 : decode cX9_balance 56 = .ok (.iadd, 1) := by decide +kernel
theorem dX9_balance_57 : decode cX9_balance 57 = .ok (.istore_n 2, 1) := by decide +kernel
theorem dX9_balance_58 : decode cX9_balance 58 = .ok (.iinc 3 1, 3) := by decide +kernel
theorem dX9_balance_61 : decode cX9_balance 61 = .ok (.goto (-44), 3) := by decide +kernel
theorem dX9_balance_64 : decode cX9_balance 64 = .ok (.iload_n 2, 1) := by decide +kernel
theorem dX9_balance_65 : decode cX9_balance 65 = .ok (.ldc 194, 2) := by decide +kernel
theorem dX9_balance_67 : decode cX9_balance 67 = .ok (.iadd, 1) := by decide +kernel
theorem dX9_balance_68 : decode cX9_balance 68 = .ok (.ireturn, 1) := by decide +kernel
set_option maxRecDepth 20000 in
theorem ggX9_strain_X9_unknown : GoodIn wsX9_strain wsX9_unknown := goodIn_r _ [7, 8, 9, 121, 122, 123, 124, 125, 126, 127, 128, 129, 130, 131, 132, 133, 134, 135, 148, 149, 150, 151] (by decide +kernel) (by decide +kernel)
set_option maxRecDepth 20000 in
theorem gX9_strain_X9_unknown : GoodIn wsX9_strain (wsV RX9 115 RX9 yX9_unknown wsX9_unknown) := goodIn_app (goodIn_of _ (by decide +kernel)) ggX9_strain_X9_unknown
set_option maxRecDepth 20000 in
theorem ggX9_strain_X9_outside : GoodIn wsX9_strain wsX9_outside := goodIn_r _ [12] (by decide +kernel) (by decide +kernel)
set_option maxRecDepth 20000 in
theorem gX9_strain_X9_outside : GoodIn wsX9_strain (va_wsS RX9 77 yX9_outside wsX9_outside) := goodIn_app (goodIn_of _ (by decide +kernel)) ggX9_strain_X9_outside
set_option maxRecDepth 20000 in
theorem ggX9_strain_X9_tryDays : GoodIn wsX9_strain wsX9_tryDays := goodIn_r _ [16, 1, 8, 17, 18, 19, 20, 21, 22, 23, 24, 25, 26, 27, 28, 29, 30, 31, 32, 33, 34, 35, 36, 37, 6, 38, 39, 40, 41, 42, 43, 44, 45, 46, 47, 48, 49, 50, 51, 52, 53, 54, 55, 56, 57, 58, 59, 60, 61, 62, 63, 64, 65, 66, 67, 68, 69, 70, 71, 72, 73, 74, 75, 76, 77, 78, 79, 80, 81, 82, 83, 84, 85, 86, 87, 88, 89, 90, 91, 92, 93, 94, 95, 96, 97, 98, 99, 100, 101, 102, 103, 104, 105, 106, 107, 108, 109, 110, 111, 112, 113, 114, 115, 116, 117, 118, 119, 120, 121, 122, 123, 124, 125, 126, 127, 128, 129, 130, 131, 132, 133, 134, 135, 148, 149, 150, 151, 136, 137, 138, 139, 140, 141, 142, 143, 144, 145, 146, 147, 152, 153, 154, 155, 156, 157] (by decide +kernel) (by decide +kernel)
set_option maxRecDepth 20000 in
theorem gX9_strain_X9_tryDays : GoodIn wsX9_strain (wsV RX9 185 RX9 yX9_tryDays wsX9_tryDays) := goodIn_app (goodIn_of _ (by decide +kernel)) ggX9_strain_X9_tryDays
theorem dX9_strain_0 : decode cX9_strain 0 = .ok (.aload_n 0, 1) := by decide +kernel
theorem dX9_strain_1 : decode cX9_strain 1 = .ok (.iload_n 1, 1) := by decide +kernel
theorem dX9_strain_2 : decode cX9_strain 2 = .ok (.invokevirtual 115, 3) := by decide +kernel
theorem dX9_strain_5 : decode cX9_strain 5 = .ok (.ifCond .eq 6, 3) := by decide +kernel
theorem dX9_strain_8 : decode cX9_strain 8 = .ok (.bipush (-2), 2) := by decide +kernel
theorem dX9_strain_10 : decode cX9_strain 10 = .ok (.ireturn, 1) := by decide +kernel
theorem dX9_strain_11 : decode cX9_strain 11 = .ok (.iload_n 2, 1) := by decide +kernel
theorem dX9_strain_12 : decode cX9_strain 12 = .ok (.iconst 0, 1) := by decide +kernel
theorem dX9_strain_13 : decode cX9_strain 13 = .ok (.bipush 60, 2) := by decide +kernel
theorem dX9_strain_15 : decode cX9_strain 15 = .ok (.invokestatic 77, 3) := by decide +kernel
theorem dX9_strain_18 : decode cX9_strain 18 = .ok (.ifCond .eq 6, 3) := by decide +kernel
theorem dX9_strain_21 : decode cX9_strain 21 = .ok (.bipush (-3), 2) := by decide +kernel
theorem dX9_strain_23 : decode cX9_strain 23 = .ok (.ireturn, 1) := by decide +kernel
theorem dX9_strain_24 : decode cX9_strain 24 = .ok (.aload_n 0, 1) := by decide +kernel
theorem dX9_strain_25 : decode cX9_strain 25 = .ok (.iload_n 1, 1) := by decide +kernel
theorem dX9_strain_26 : decode cX9_strain 26 = .ok (.iload_n 2, 1) := by decide +kernel
theorem dX9_strain_27 : decode cX9_strain 27 = .ok (.invokevirtual 185, 3) := by decide +kernel
theorem dX9_strain_30 : decode cX9_strain 30 = .ok (.aload_n 0, 1) := by decide +kernel
theorem dX9_strain_31 : decode cX9_strain 31 = .ok (.getfield 70, 3) := by decide +kernel
theorem dX9_strain_34 : decode cX9_strain 34 = .ok (.getfield 159, 3) := by decide +kernel
theorem dX9_strain_37 : decode cX9_strain 37 = .ok (.ireturn, 1) := by decide +kernel
set_option maxRecDepth 20000 in
theorem ggX9_first_X9_unknown : GoodIn wsX9_first wsX9_unknown := goodIn_r _ [10, 2, 11, 109, 110, 111, 112, 113, 114, 115, 116, 117, 118, 119, 120, 121, 122, 123, 124, 125, 126, 127] (by decide +kernel) (by decide +kernel)
set_option maxRecDepth 20000 in
theorem gX9_first_X9_unknown : GoodIn wsX9_first (wsV RX9 115 RX9 yX9_unknown wsX9_unknown) := goodIn_app (goodIn_of _ (by decide +kernel)) ggX9_first_X9_unknown
set_option maxRecDepth 20000 in
theorem ggX9_first_X1_copy : GoodIn wsX9_first wsX1_copy := goodIn_r _ [16, 17, 18, 19, 20, 21, 22, 23, 24, 25, 26, 27, 28, 128, 129, 130, 131, 132, 133, 134, 135, 136, 137, 138, 139] (by decide +kernel) (by decide +kernel)
set_option maxRecDepth 20000 in
theorem gX9_first_X1_copy : GoodIn wsX9_first (wsV RX9 195 RX1 yX1_copy wsX1_copy) := goodIn_app (goodIn_of _ (by decide +kernel)) ggX9_first_X1_copy
set_option maxRecDepth 20000 in
theorem ggX9_first_X1_pass : GoodIn wsX9_first wsX1_pass := goodIn_r _ [32, 19, 17, 33, 34, 35, 36, 28, 37, 38, 20, 39, 40, 41, 42, 43, 44, 45, 46, 47, 48, 49, 50, 51, 52, 53, 54, 55, 56, 57, 58, 59, 60, 61, 62, 63, 64, 65, 66, 15, 67, 21, 26, 68, 69, 70, 71, 72, 22, 27, 73, 74, 75, 76, 77, 78, 79, 80, 81, 82, 83, 84, 85, 86, 87, 88, 89, 90, 91, 92, 93, 24, 25, 94, 23, 95, 96, 97, 98, 99, 100, 101, 102, 103, 104, 105, 106, 107, 108, 128, 129, 130, 131, 132, 133, 134, 135, 136, 137, 138, 139, 140, 141, 142, 143, 144, 145] (by decide +kernel) (by decide +kernel)
set_option maxRecDepth 20000 in
theorem gX9_first_X1_pass : GoodIn wsX9_first (wsV RX9 198 RX1 yX1_pass wsX1_pass) := goodIn_app (goodIn_of _ (by decide +kernel)) ggX9_first_X1_pass
theorem dX9_first_0 : decode cX9_first 0 = .ok (.aload_n 0, 1) := by decide +kernel
theorem dX9_first_1 : decode cX9_first 1 = .ok (.iload_n 1, 1) := by decide +kernel
theorem dX9_first_2 : decode cX9_first 2 = .ok (.invokevirtual 115, 3) := by decide +kernel
theorem dX9_first_5 : decode cX9_first 5 = .ok (.ifCond .eq 6, 3) := by decide +kernel
theorem dX9_first_8 : decode cX9_first 8 = .ok (.bipush (-2), 2) := by decide +kernel
theorem dX9_first_10 : decode cX9_first 10 = .ok (.ireturn, 1) := by decide +kernel
theorem dX9_first_11 : decode cX9_first 11 = .ok (.aload_n 0, 1) := by decide +kernel
theorem dX9_first_12 : decode cX9_first 12 = .ok (.getfield 70, 3) := by decide +kernel
theorem dX9_first_15 : decode cX9_first 15 = .ok (.aload_n 0, 1) := by decide +kernel
theorem dX9_first_16 : decode cX9_first 16 = .ok (.getfield 43, 3) := by decide +kernel
theorem dX9_first_19 : decode cX9_first 19 = .ok (.getfield 118, 3) := by decide +kernel
theorem dX9_first_22 : decode cX9_first 22 = .ok (.iload_n 1, 1) := by decide +kernel
theorem dX9_first_23 : decode cX9_first 23 = .ok (.aaload, 1) := by decide +kernel
theorem dX9_first_24 : decode cX9_first 24 = .ok (.invokevirtual 195, 3) := by decide +kernel
theorem dX9_first_27 : decode cX9_first 27 = .ok (.iconst 0, 1) := by decide +kernel
theorem dX9_first_28 : decode cX9_first 28 = .ok (.istore_n 2, 1) := by decide +kernel
theorem dX9_first_29 : decode cX9_first 29 = .ok (.iload_n 2, 1) := by decide +kernel
theorem dX9_first_30 : decode cX9_first 30 = .ok (.bipush 60, 2) := by decide +kernel
theorem dX9_first_32 : decode cX9_first 32 = .ok (.if_icmp .ge 39, 3) := by decide +kernel
theorem dX9_first_35 : decode cX9_first 35 = .ok (.aload_n 0, 1) := by decide +kernel
theorem dX9_first_36 : decode cX9_first 36 = .ok (.getfield 70, 3) := by decide +kernel
theorem dX9_first_39 : decode cX9_first 39 = .ok (.aload_n 0, 1) := by decide +kernel
theorem dX9_first_40 : decode cX9_first 40 = .ok (.getfield 43, 3) := by decide +kernel
theorem dX9_first_43 : decode cX9_first 43 = .ok (.getfield 133, 3) := by decide +kernel
theorem dX9_first_46 : decode cX9_first 46 = .ok (.iload_n 2, 1) := by decide +kernel
theorem dX9_first_47 : decode cX9_first 47 = .ok (.iadd, 1) := by decide +kernel
theorem dX9_first_48 : decode cX9_first 48 = .ok (.aload_n 0, 1) := by decide +kernel
theorem dX9_first_49 : decode cX9_first 49 = .ok (.getfield 43, 3) := by decide +kernel
theorem dX9_first_52 : decode cX9_first 52 = .ok (.getfield 140, 3) := by decide +kernel
theorem dX9_first_55 : decode cX9_first 55 = .ok (.invokevirtual 198, 3) := by decide +kernel
theorem dX9_first_58 : decode cX9_first 58 = .ok (.ifCond .eq 7, 3) := by decide +kernel
theorem dX9_first_61 : decode cX9_first 61 = .ok (.iload_n 2, 1) := by decide +kernel
theorem dX9_first_62 : decode cX9_first 62 = .ok (.iconst 1, 1) := by decide +kernel
theorem dX9_first_63 : decode cX9_first 63 = .ok (.iadd, 1) := by decide +kernel
theorem dX9_first_64 : decode cX9_first 64 = .ok (.ireturn, 1) := by decide +kernel
theorem dX9_first_65 : decode cX9_first 65 = .ok (.iinc 2 1, 3) := by decide +kernel
theorem dX9_first_68 : decode cX9_first 68 = .ok (.goto (-39), 3) := by decide +kernel
theorem dX9_first_71 : decode cX9_first 71 = .ok (.iconst (-1), 1) := by decide +kernel
theorem dX9_first_72 : decode cX9_first 72 = .ok (.ireturn, 1) := by decide +kernel
set_option maxRecDepth 20000 in
theorem ggX9_level_X9_outside : GoodIn wsX9_level wsX9_outside := goodIn_r _ [11] (by decide +kernel) (by decide +kernel)
set_option maxRecDepth 20000 in
theorem gX9_level_X9_outside : GoodIn wsX9_level (va_wsS RX9 77 yX9_outside wsX9_outside) := goodIn_app (goodIn_of _ (by decide +kernel)) ggX9_level_X9_outside
set_option maxRecDepth 20000 in
theorem ggX9_level_X9_tryDays : GoodIn wsX9_level wsX9_tryDays := goodIn_r _ [15, 4, 1, 3, 16, 17, 18, 19, 20, 21, 22, 23, 24, 25, 26, 27, 28, 29, 30, 31, 32, 33, 34, 35, 10, 36, 37, 38, 39, 40, 41, 42, 43, 44, 45, 46, 47, 48, 49, 50, 51, 52, 53, 54, 55, 56, 57, 58, 59, 60, 61, 62, 63, 64, 65, 66, 67, 68, 69, 70, 71, 72, 73, 74, 75, 76, 77, 78, 79, 80, 81, 82, 83, 84, 85, 86, 87, 88, 89, 90, 91, 92, 93, 94, 95, 96, 97, 98, 99, 100, 101, 102, 103, 104, 105, 106, 107, 108, 109, 110, 111, 112, 113, 114, 115, 116, 117, 118, 119, 120, 121, 122, 123, 124, 125, 126, 127, 128, 129, 130, 131, 132, 133, 134, 135, 136, 137, 138, 139, 140, 141, 142, 143, 144, 145, 146, 147, 148, 149, 150, 151, 152, 153, 154, 155] (by decide +kernel) (by decide +kernel)
set_option maxRecDepth 20000 in
theorem gX9_level_X9_tryDays : GoodIn wsX9_level (wsV RX9 185 RX9 yX9_tryDays wsX9_tryDays) := goodIn_app (goodIn_of _ (by decide +kernel)) ggX9_level_X9_tryDays
theorem dX9_level_0 : decode cX9_level 0 = .ok (.iload_n 1, 1) := by decide +kernel
theorem dX9_level_1 : decode cX9_level 1 = .ok (.iconst 1, 1) := by decide +kernel
theorem dX9_level_2 : decode cX9_level 2 = .ok (.bipush 60, 2) := by decide +kernel
theorem dX9_level_4 : decode cX9_level 4 = .ok (.invokestatic 77, 3) := by decide +kernel
theorem dX9_level_7 : decode cX9_level 7 = .ok (.ifCond .eq 6, 3) := by decide +kernel
theorem dX9_level_10 : decode cX9_level 10 = .ok (.bipush (-3), 2) := by decide +kernel
theorem dX9_level_12 : decode cX9_level 12 = .ok (.ireturn, 1) := by decide +kernel
theorem dX9_level_13 : decode cX9_level 13 = .ok (.iconst 0, 1) := by decide +kernel
theorem dX9_level_14 : decode cX9_level 14 = .ok (.istore_n 2, 1) := by decide +kernel
theorem dX9_level_15 : decode cX9_level 15 = .ok (.iconst 0, 1) := by decide +kernel
theorem dX9_level_16 : decode cX9_level 16 = .ok (.istore_n 3, 1) := by decide +kernel
theorem dX9_level_17 : decode cX9_level 17 = .ok (.iconst 0, 1) := by decide +kernel
theorem dX9_level_18 : decode cX9_level 18 = .ok (.istore 4, 2) := by decide +kernel
theorem dX9_level_20 : decode cX9_level 20 = .ok (.iconst 0, 1) := by decide +kernel
theorem dX9_level_21 : decode cX9_level 21 = .ok (.istore 5, 2) := by decide +kernel
theorem dX9_level_23 : decode cX9_level 23 = .ok (.iload 5, 2) := by decide +kernel
theorem dX9_level_25 : decode cX9_level 25 = .ok (.aload_n 0, 1) := by decide +kernel
theorem dX9_level_26 : decode cX9_level 26 = .ok (.getfield 43, 3) := by decide +kernel
theorem dX9_level_29 : decode cX9_level 29 = .ok (.getfield 89, 3) := by decide +kernel
theorem dX9_level_32 : decode cX9_level 32 = .ok (.if_icmp .ge 92, 3) := by decide +kernel
theorem dX9_level_35 : decode cX9_level 35 = .ok (.iload 5, 2) := by decide +kernel
theorem dX9_level_37 : decode cX9_level 37 = .ok (.bipush 6, 2) := by decide +kernel
theorem dX9_level_39 : decode cX9_level 39 = .ok (.if_icmp .ge 85, 3) := by decide +kernel
theorem dX9_level_42 : decode cX9_level 42 = .ok (.aload_n 0, 1) := by decide +kernel
theorem dX9_level_43 : decode cX9_level 43 = .ok (.getfield 43, 3) := by decide +kernel
theorem dX9_level_46 : decode cX9_level 46 = .ok (.getfield 118, 3) := by decide +kernel
theorem dX9_level_49 : decode cX9_level 49 = .ok (.iload 5, 2) := by decide +kernel
theorem dX9_level_51 : decode cX9_level 51 = .ok (.aaload, 1) := by decide +kernel
theorem dX9_level_52 : decode cX9_level 52 = .ok (.astore 6, 2) := by decide +kernel
theorem dX9_level_54 : decode cX9_level 54 = .ok (.aload_n 0, 1) := by decide +kernel
theorem dX9_level_55 : decode cX9_level 55 = .ok (.iload 5, 2) := by decide +kernel
theorem dX9_level_57 : decode cX9_level 57 = .ok (.iload_n 1, 1) := by decide +kernel
theorem dX9_level_58 : decode cX9_level 58 = .ok (.invokevirtual 185, 3) := by decide +kernel
theorem dX9_level_61 : decode cX9_level 61 = .ok (.aload_n 0, 1) := by decide +kernel
theorem dX9_level_62 : decode cX9_level 62 = .ok (.getfield 70, 3) := by decide +kernel
theorem dX9_level_65 : decode cX9_level 65 = .ok (.getfield 201, 3) := by decide +kernel
theorem dX9_level_68 : decode cX9_level 68 = .ok (.aload 6, 2) := by decide +kernel
theorem dX9_level_70 : decode cX9_level 70 = .ok (.getfield 201, 3) := by decide +kernel
theorem dX9_level_73 : decode cX9_level 73 = .ok (.isub, 1) := by decide +kernel
theorem dX9_level_74 : decode cX9_level 74 = .ok (.istore 7, 2) := by decide +kernel
theorem dX9_level_76 : decode cX9_level 76 = .ok (.iload_n 2, 1) := by decide +kernel
theorem dX9_level_77 : decode cX9_level 77 = .ok (.aload_n 0, 1) := by decide +kernel
theorem dX9_level_78 : decode cX9_level 78 = .ok (.getfield 70, 3) := by decide +kernel
theorem dX9_level_81 : decode cX9_level 81 = .ok (.getfield 204, 3) := by decide +kernel
theorem dX9_level_84 : decode cX9_level 84 = .ok (.aload 6, 2) := by decide +kernel
theorem dX9_level_86 : decode cX9_level 86 = .ok (.getfield 204, 3) := by decide +kernel
theorem dX9_level_89 : decode cX9_level 89 = .ok (.isub, 1) := by decide +kernel
theorem dX9_level_90 : decode cX9_level 90 = .ok (.iload 7, 2) := by decide +kernel
theorem dX9_level_92 : decode cX9_level 92 = .ok (.isub, 1) := by decide +kernel
theorem dX9_level_93 : decode cX9_level 93 = .ok (.iadd, 1) := by decide +kernel
theorem dX9_level_94 : decode cX9_level 94 = .ok (.istore_n 2, 1) := by decide +kernel
theorem dX9_level_95 : decode cX9_level 95 = .ok (.iload_n 3, 1) := by decide +kernel
theorem dX9_level_96 : decode cX9_level 96 = .ok (.iload 7, 2) := by decide +kernel
theorem dX9_level_98 : decode cX9_level 98 = .ok (.iadd, 1) := by decide +kernel
theorem dX9_level_99 : decode cX9_level 99 = .ok (.istore_n 3, 1) := by decide +kernel
theorem dX9_level_100 : decode cX9_level 100 = .ok (.iload 4, 2) := by decide +kernel
theorem dX9_level_102 : decode cX9_level 102 = .ok (.aload_n 0, 1) := by decide +kernel
theorem dX9_level_103 : decode cX9_level 103 = .ok (.getfield 70, 3) := by decide +kernel
theorem dX9_level_106 : decode cX9_level 106 = .ok (.getfield 191, 3) := by decide +kernel
theorem dX9_level_109 : decode cX9_level 109 = .ok (.aload 6, 2) := by decide +kernel
theorem dX9_level_111 : decode cX9_level 111 = .ok (.getfield 191, 3) := by decide +kernel
theorem dX9_level_114 : decode cX9_level 114 = .ok (.isub, 1) := by decide +kernel
theorem dX9_level_115 : decode cX9_level 115 = .ok (.iadd, 1) := by decide +kernel
theorem dX9_level_116 : decode cX9_level 116 = .ok (.istore 4, 2) := by decide +kernel
theorem dX9_level_118 : decode cX9_level 118 = .ok (.iinc 5 1, 3) := by decide +kernel
theorem dX9_level_121 : decode cX9_level 121 = .ok (.goto (-98), 3) := by decide +kernel
theorem dX9_level_124 : decode cX9_level 124 = .ok (.iconst 0, 1) := by decide +kernel
theorem dX9_level_125 : decode cX9_level 125 = .ok (.istore 5, 2) := by decide +kernel
theorem dX9_level_127 : decode cX9_level 127 = .ok (.iload 5, 2) := by decide +kernel
theorem dX9_level_129 : decode cX9_level 129 = .ok (.bipush 50, 2) := by decide +kernel
theorem dX9_level_131 : decode cX9_level 131 = .ok (.if_icmp .gt 28, 3) := by decide +kernel
theorem dX9_level_134 : decode cX9_level 134 = .ok (.iload_n 2, 1) := by decide +kernel
theorem dX9_level_135 : decode cX9_level 135 = .ok (.iload 5, 2) := by decide +kernel
theorem dX9_level_137 : decode cX9_level 137 = .ok (.imul, 1) := by decide +kernel
theorem dX9_level_138 : decode cX9_level 138 = .ok (.iload_n 3, 1) := by decide +kernel
theorem dX9_level_139 : decode cX9_level 139 = .ok (.iload 5, 2) := by decide +kernel
theorem dX9_level_141 : decode cX9_level 141 = .ok (.iconst 2, 1) := by decide +kernel
theorem dX9_level_142 : decode cX9_level 142 = .ok (.idiv, 1) := by decide +kernel
theorem dX9_level_143 : decode cX9_level 143 = .ok (.imul, 1) := by decide +kernel
theorem dX9_level_144 : decode cX9_level 144 = .ok (.iadd, 1) := by decide +kernel
theorem dX9_level_145 : decode cX9_level 145 = .ok (.iload 4, 2) := by decide +kernel
theorem dX9_level_147 : decode cX9_level 147 = .ok (.if_icmp .lt 6, 3) := by decide +kernel
theorem dX9_level_150 : decode cX9_level 150 = .ok (.iload 5, 2) := by decide +kernel
theorem dX9_level_152 : decode cX9_level 152 = .ok (.ireturn, 1) := by decide +kernel
theorem dX9_level_153 : decode cX9_level 153 = .ok (.iinc 5 1, 3) := by decide +kernel
theorem dX9_level_156 : decode cX9_level 156 = .ok (.goto (-29), 3) := by decide +kernel
theorem dX9_level_159 : decode cX9_level 159 = .ok (.iconst (-1), 1) := by decide +kernel
theorem dX9_level_160 : decode cX9_level 160 = .ok (.ireturn, 1) := by decide +kernel
set_option maxRecDepth 20000 in
theorem ggX9_kissOn_X9_unknown : GoodIn wsX9_kissOn wsX9_unknown := goodIn_r _ [5, 6, 7, 121, 122, 123, 124, 125, 126, 127, 128, 129, 130, 131, 132, 133, 134, 135, 136, 137, 138, 139] (by decide +kernel) (by decide +kernel)
set_option maxRecDepth 20000 in
theorem gX9_kissOn_X9_unknown : GoodIn wsX9_kissOn (wsV RX9 115 RX9 yX9_unknown wsX9_unknown) := goodIn_app (goodIn_of _ (by decide +kernel)) ggX9_kissOn_X9_unknown
set_option maxRecDepth 20000 in
theorem ggX9_kissOn_X9_outside : GoodIn wsX9_kissOn wsX9_outside := goodIn_r _ [10] (by decide +kernel) (by decide +kernel)
set_option maxRecDepth 20000 in
theorem gX9_kissOn_X9_outside : GoodIn wsX9_kissOn (va_wsS RX9 77 yX9_outside wsX9_outside) := goodIn_app (goodIn_of _ (by decide +kernel)) ggX9_kissOn_X9_outside
set_option maxRecDepth 20000 in
theorem ggX9_kissOn_X9_claimedIfKissed : GoodIn wsX9_kissOn wsX9_claimedIfKissed := goodIn_r _ [14, 15, 6, 16, 17, 18, 19, 20, 21, 22, 23, 24, 25, 26, 27, 28, 29, 30, 31, 32, 33, 34, 35, 36, 37, 38, 39, 40, 41, 42, 43, 44, 45, 46, 47, 48, 49, 50, 51, 52, 53, 54, 55, 56, 57, 58, 59, 60, 61, 62, 63, 64, 65, 66, 67, 68, 69, 70, 71, 72, 73, 74, 75, 76, 77, 78, 79, 80, 81, 82, 83, 84, 85, 86, 87, 88, 89, 90, 91, 92, 93, 94, 95, 96, 97, 98, 99, 100, 101, 102, 103, 104, 105, 106, 107, 108, 109, 110, 111, 112, 113, 114, 115, 116, 117, 118, 119, 120, 121, 122, 123, 124, 125, 126, 127, 128, 129, 130, 131, 132, 133, 134, 135, 136, 137, 138, 139, 140, 141, 142, 143, 144, 145, 146, 147, 148, 149, 150, 151, 152, 153, 154, 155, 156, 157] (by decide +kernel) (by decide +kernel)
set_option maxRecDepth 20000 in
theorem gX9_kissOn_X9_claimedIfKissed : GoodIn wsX9_kissOn (wsV RX9 207 RX9 yX9_claimedIfKissed wsX9_claimedIfKissed) := goodIn_app (goodIn_of _ (by decide +kernel)) ggX9_kissOn_X9_claimedIfKissed
theorem dX9_kissOn_0 : decode cX9_kissOn 0 = .ok (.aload_n 0, 1) := by decide +kernel
theorem dX9_kissOn_1 : decode cX9_kissOn 1 = .ok (.iload_n 1, 1) := by decide +kernel
theorem dX9_kissOn_2 : decode cX9_kissOn 2 = .ok (.invokevirtual 115, 3) := by decide +kernel
theorem dX9_kissOn_5 : decode cX9_kissOn 5 = .ok (.ifCond .eq 6, 3) := by decide +kernel
theorem dX9_kissOn_8 : decode cX9_kissOn 8 = .ok (.bipush (-2), 2) := by decide +kernel
theorem dX9_kissOn_10 : decode cX9_kissOn 10 = .ok (.ireturn, 1) := by decide +kernel
theorem dX9_kissOn_11 : decode cX9_kissOn 11 = .ok (.iload_n 2, 1) := by decide +kernel
theorem dX9_kissOn_12 : decode cX9_kissOn 12 = .ok (.iconst 1, 1) := by decide +kernel
theorem dX9_kissOn_13 : decode cX9_kissOn 13 = .ok (.bipush 30, 2) := by decide +kernel
theorem dX9_kissOn_15 : decode cX9_kissOn 15 = .ok (.invokestatic 77, 3) := by decide +kernel
theorem dX9_kissOn_18 : decode cX9_kissOn 18 = .ok (.ifCond .eq 6, 3) := by decide +kernel
theorem dX9_kissOn_21 : decode cX9_kissOn 21 = .ok (.bipush (-3), 2) := by decide +kernel
theorem dX9_kissOn_23 : decode cX9_kissOn 23 = .ok (.ireturn, 1) := by decide +kernel
theorem dX9_kissOn_24 : decode cX9_kissOn 24 = .ok (.iconst (-1), 1) := by decide +kernel
theorem dX9_kissOn_25 : decode cX9_kissOn 25 = .ok (.istore_n 3, 1) := by decide +kernel
theorem dX9_kissOn_26 : decode cX9_kissOn 26 = .ok (.aload_n 0, 1) := by decide +kernel
theorem dX9_kissOn_27 : decode cX9_kissOn 27 = .ok (.iload_n 1, 1) := by decide +kernel
theorem dX9_kissOn_28 : decode cX9_kissOn 28 = .ok (.iload_n 2, 1) := by decide +kernel
theorem dX9_kissOn_29 : decode cX9_kissOn 29 = .ok (.iconst (-1), 1) := by decide +kernel
theorem dX9_kissOn_30 : decode cX9_kissOn 30 = .ok (.invokevirtual 207, 3) := by decide +kernel
theorem dX9_kissOn_33 : decode cX9_kissOn 33 = .ok (.istore 4, 2) := by decide +kernel
theorem dX9_kissOn_35 : decode cX9_kissOn 35 = .ok (.iconst 0, 1) := by decide +kernel
theorem dX9_kissOn_36 : decode cX9_kissOn 36 = .ok (.istore 5, 2) := by decide +kernel
theorem dX9_kissOn_38 : decode cX9_kissOn 38 = .ok (.iload 5, 2) := by decide +kernel
theorem dX9_kissOn_40 : decode cX9_kissOn 40 = .ok (.iload_n 2, 1) := by decide +kernel
theorem dX9_kissOn_41 : decode cX9_kissOn 41 = .ok (.if_icmp .ge 33, 3) := by decide +kernel
theorem dX9_kissOn_44 : decode cX9_kissOn 44 = .ok (.aload_n 0, 1) := by decide +kernel
theorem dX9_kissOn_45 : decode cX9_kissOn 45 = .ok (.iload_n 1, 1) := by decide +kernel
theorem dX9_kissOn_46 : decode cX9_kissOn 46 = .ok (.iload_n 2, 1) := by decide +kernel
theorem dX9_kissOn_47 : decode cX9_kissOn 47 = .ok (.iload 5, 2) := by decide +kernel
theorem dX9_kissOn_49 : decode cX9_kissOn 49 = .ok (.invokevirtual 207, 3) := by decide +kernel
theorem dX9_kissOn_52 : decode cX9_kissOn 52 = .ok (.istore 6, 2) := by decide +kernel
theorem dX9_kissOn_54 : decode cX9_kissOn 54 = .ok (.iload 6, 2) := by decide +kernel
theorem dX9_kissOn_56 : decode cX9_kissOn 56 = .ok (.iload 4, 2) := by decide +kernel
theorem dX9_kissOn_58 : decode cX9_kissOn 58 = .ok (.if_icmp .ge 10, 3) := by decide +kernel
theorem dX9_kissOn_61 : decode cX9_kissOn 61 = .ok (.iload 6, 2) := by decide +kernel
theorem dX9_kissOn_63 : decode cX9_kissOn 63 = .ok (.istore 4, 2) := by decide +kernel
theorem dX9_kissOn_65 : decode cX9_kissOn 65 = .ok (.iload 5, 2) := by decide +kernel
theorem dX9_kissOn_67 : decode cX9_kissOn 67 = .ok (.istore_n 3, 1) := by decide +kernel
theorem dX9_kissOn_68 : decode cX9_kissOn 68 = .ok (.iinc 5 1, 3) := by decide +kernel
theorem dX9_kissOn_71 : decode cX9_kissOn 71 = .ok (.goto (-33), 3) := by decide +kernel
theorem dX9_kissOn_74 : decode cX9_kissOn 74 = .ok (.iload_n 3, 1) := by decide +kernel
theorem dX9_kissOn_75 : decode cX9_kissOn 75 = .ok (.ireturn, 1) := by decide +kernel
set_option maxRecDepth 20000 in
theorem ggX9_take_X9_outside : GoodIn wsX9_take wsX9_outside := goodIn_r _ [6] (by decide +kernel) (by decide +kernel)
set_option maxRecDepth 20000 in
theorem gX9_take_X9_outside : GoodIn wsX9_take (va_wsS RX9 77 yX9_outside wsX9_outside) := goodIn_app (goodIn_of _ (by decide +kernel)) ggX9_take_X9_outside
set_option maxRecDepth 20000 in
theorem ggX9_take_X9_foreseeBreaks : GoodIn wsX9_take wsX9_foreseeBreaks := goodIn_r _ [10, 11, 1, 2, 12, 13, 14, 15, 16, 17, 18, 19, 20, 21, 22, 23, 24, 25, 26, 27, 28, 29, 30, 31, 32, 33, 34, 35, 36, 37, 38, 39, 40, 41, 42, 43, 44, 45, 46, 47, 48, 49, 50, 51, 52, 53, 54, 55, 56, 57, 58, 59, 60, 61, 62, 63, 64, 65, 66, 67, 68, 69, 70, 71, 72, 73, 74, 75, 76, 77, 78, 79, 80, 81, 82, 83, 84, 85, 86, 87, 88, 89, 90, 91, 92, 93, 94, 95, 96, 97, 98, 99, 100, 101, 102, 103, 104, 105, 106, 107, 108, 109, 110, 111, 112, 125, 126, 127, 128, 129, 130, 131, 132, 133, 134, 135, 136, 137, 138, 139, 140, 141, 142, 143, 144, 145, 146, 147, 148, 149, 150, 151, 152, 153, 154, 155, 156, 157, 158, 159, 160, 161] (by decide +kernel) (by decide +kernel)
set_option maxRecDepth 20000 in
theorem gX9_take_X9_foreseeBreaks : GoodIn wsX9_take (wsV RX9 211 RX9 yX9_foreseeBreaks wsX9_foreseeBreaks) := goodIn_app (goodIn_of _ (by decide +kernel)) ggX9_take_X9_foreseeBreaks
set_option maxRecDepth 20000 in
theorem ggX9_take_J6_bitCount_0f7a4 : GoodIn wsX9_take wsJ6_bitCount_0f7a4 := goodIn_r _ [116, 117, 118, 119] (by decide +kernel) (by decide +kernel)
set_option maxRecDepth 20000 in
theorem gX9_take_J6_bitCount_0f7a4 : GoodIn wsX9_take (va_wsS RX9 215 yJ6_bitCount_0f7a4 wsJ6_bitCount_0f7a4) := goodIn_app (goodIn_of _ (by decide +kernel)) ggX9_take_J6_bitCount_0f7a4
set_option maxRecDepth 20000 in
theorem ggX9_take_X9_mostAtOnce : GoodIn wsX9_take wsX9_mostAtOnce := goodIn_r _ [123, 11, 124, 75, 39, 76, 113, 114, 115, 116, 117, 118, 119, 125, 126, 127, 128, 129, 130, 131, 132, 133, 134, 135, 136, 137, 138, 139] (by decide +kernel) (by decide +kernel)
set_option maxRecDepth 20000 in
theorem gX9_take_X9_mostAtOnce : GoodIn wsX9_take (wsV RX9 220 RX9 yX9_mostAtOnce wsX9_mostAtOnce) := goodIn_app (goodIn_of _ (by decide +kernel)) ggX9_take_X9_mostAtOnce
theorem dX9_take_0 : decode cX9_take 0 = .ok (.iload_n 1, 1) := by decide +kernel
theorem dX9_take_1 : decode cX9_take 1 = .ok (.iconst 0, 1) := by decide +kernel
theorem dX9_take_2 : decode cX9_take 2 = .ok (.bipush 6, 2) := by decide +kernel
theorem dX9_take_4 : decode cX9_take 4 = .ok (.invokestatic 77, 3) := by decide +kernel
theorem dX9_take_7 : decode cX9_take 7 = .ok (.ifCond .ne 22, 3) := by decide +kernel
theorem dX9_take_10 : decode cX9_take 10 = .ok (.iload_n 2, 1) := by decide +kernel
theorem dX9_take_11 : decode cX9_take 11 = .ok (.iconst 1, 1) := by decide +kernel
theorem dX9_take_12 : decode cX9_take 12 = .ok (.bipush 60, 2) := by decide +kernel
theorem dX9_take_14 : decode cX9_take 14 = .ok (.invokestatic 77, 3) := by decide +kernel
theorem dX9_take_17 : decode cX9_take 17 = .ok (.ifCond .ne 12, 3) := by decide +kernel
theorem dX9_take_20 : decode cX9_take 20 = .ok (.iload_n 3, 1) := by decide +kernel
theorem dX9_take_21 : decode cX9_take 21 = .ok (.iconst 0, 1) := by decide +kernel
theorem dX9_take_22 : decode cX9_take 22 = .ok (.iconst 1, 1) := by decide +kernel
theorem dX9_take_23 : decode cX9_take 23 = .ok (.invokestatic 77, 3) := by decide +kernel
theorem dX9_take_26 : decode cX9_take 26 = .ok (.ifCond .eq 6, 3) := by decide +kernel
theorem dX9_take_29 : decode cX9_take 29 = .ok (.bipush (-3), 2) := by decide +kernel
theorem dX9_take_31 : decode cX9_take 31 = .ok (.ireturn, 1) := by decide +kernel
theorem dX9_take_32 : decode cX9_take 32 = .ok (.iload_n 1, 1) := by decide +kernel
theorem dX9_take_33 : decode cX9_take 33 = .ok (.aload_n 0, 1) := by decide +kernel
theorem dX9_take_34 : decode cX9_take 34 = .ok (.getfield 43, 3) := by decide +kernel
theorem dX9_take_37 : decode cX9_take 37 = .ok (.getfield 89, 3) := by decide +kernel
theorem dX9_take_40 : decode cX9_take 40 = .ok (.if_icmp .le 5, 3) := by decide +kernel
theorem dX9_take_43 : decode cX9_take 43 = .ok (.iconst (-1), 1) := by decide +kernel
theorem dX9_take_44 : decode cX9_take 44 = .ok (.ireturn, 1) := by decide +kernel
theorem dX9_take_45 : decode cX9_take 45 = .ok (.aload_n 0, 1) := by decide +kernel
theorem dX9_take_46 : decode cX9_take 46 = .ok (.iload_n 2, 1) := by decide +kernel
theorem dX9_take_47 : decode cX9_take 47 = .ok (.invokevirtual 211, 3) := by decide +kernel
theorem dX9_take_50 : decode cX9_take 50 = .ok (.iconst 0, 1) := by decide +kernel
theorem dX9_take_51 : decode cX9_take 51 = .ok (.istore 4, 2) := by decide +kernel
theorem dX9_take_53 : decode cX9_take 53 = .ok (.bipush 7, 2) := by decide +kernel
theorem dX9_take_55 : decode cX9_take 55 = .ok (.istore 5, 2) := by decide +kernel
theorem dX9_take_57 : decode cX9_take 57 = .ok (.iconst 0, 1) := by decide +kernel
theorem dX9_take_58 : decode cX9_take 58 = .ok (.istore 6, 2) := by decide +kernel
theorem dX9_take_60 : decode cX9_take 60 = .ok (.iload 6, 2) := by decide +kernel
theorem dX9_take_62 : decode cX9_take 62 = .ok (.iconst 1, 1) := by decide +kernel
theorem dX9_take_63 : decode cX9_take 63 = .ok (.aload_n 0, 1) := by decide +kernel
theorem dX9_take_64 : decode cX9_take 64 = .ok (.getfield 43, 3) := by decide +kernel
theorem dX9_take_67 : decode cX9_take 67 = .ok (.getfield 89, 3) := by decide +kernel
theorem dX9_take_70 : decode cX9_take 70 = .ok (.ishl, 1) := by decide +kernel
theorem dX9_take_71 : decode cX9_take 71 = .ok (.if_icmp .ge 47, 3) := by decide +kernel
theorem dX9_take_74 : decode cX9_take 74 = .ok (.iload 6, 2) := by decide +kernel
theorem dX9_take_76 : decode cX9_take 76 = .ok (.invokestatic 215, 3) := by decide +kernel
theorem dX9_take_79 : decode cX9_take 79 = .ok (.iload_n 1, 1) := by decide +kernel
theorem dX9_take_80 : decode cX9_take 80 = .ok (.if_icmp .ne 13, 3) := by decide +kernel
theorem dX9_take_83 : decode cX9_take 83 = .ok (.aload_n 0, 1) := by decide +kernel
theorem dX9_take_84 : decode cX9_take 84 = .ok (.iload 6, 2) := by decide +kernel
theorem dX9_take_86 : decode cX9_take 86 = .ok (.iload_n 2, 1) := by decide +kernel
theorem dX9_take_87 : decode cX9_take 87 = .ok (.invokevirtual 220, 3) := by decide +kernel
theorem dX9_take_90 : decode cX9_take 90 = .ok (.goto 5, 3) := by decide +kernel
theorem dX9_take_93 : decode cX9_take 93 = .ok (.iload 5, 2) := by decide +kernel
theorem dX9_take_95 : decode cX9_take 95 = .ok (.istore 7, 2) := by decide +kernel
theorem dX9_take_97 : decode cX9_take 97 = .ok (.iload 7, 2) := by decide +kernel
theorem dX9_take_99 : decode cX9_take 99 = .ok (.iload 5, 2) := by decide +kernel
theorem dX9_take_101 : decode cX9_take 101 = .ok (.if_icmp .ge 11, 3) := by decide +kernel
theorem dX9_take_104 : decode cX9_take 104 = .ok (.iload 7, 2) := by decide +kernel
theorem dX9_take_106 : decode cX9_take 106 = .ok (.istore 5, 2) := by decide +kernel
theorem dX9_take_108 : decode cX9_take 108 = .ok (.iload 6, 2) := by decide +kernel
theorem dX9_take_110 : decode cX9_take 110 = .ok (.istore 4, 2) := by decide +kernel
theorem dX9_take_112 : decode cX9_take 112 = .ok (.iinc 6 1, 3) := by decide +kernel
theorem dX9_take_115 : decode cX9_take 115 = .ok (.goto (-55), 3) := by decide +kernel
theorem dX9_take_118 : decode cX9_take 118 = .ok (.iload_n 3, 1) := by decide +kernel
theorem dX9_take_119 : decode cX9_take 119 = .ok (.ifCond .ne 8, 3) := by decide +kernel
theorem dX9_take_122 : decode cX9_take 122 = .ok (.iload 4, 2) := by decide +kernel
theorem dX9_take_124 : decode cX9_take 124 = .ok (.goto 5, 3) := by decide +kernel
theorem dX9_take_127 : decode cX9_take 127 = .ok (.iload 5, 2) := by decide +kernel
theorem dX9_take_129 : decode cX9_take 129 = .ok (.ireturn, 1) := by decide +kernel
set_option maxRecDepth 20000 in
theorem ggX9_seen_X9_unknown : GoodIn wsX9_seen wsX9_unknown := goodIn_r _ [9, 10, 11, 15, 16, 17, 18, 19, 20, 21, 22, 23, 24, 25, 26, 27, 28, 29, 30, 31, 32, 33] (by decide +kernel) (by decide +kernel)
set_option maxRecDepth 20000 in
theorem gX9_seen_X9_unknown : GoodIn wsX9_seen (wsV RX9 115 RX9 yX9_unknown wsX9_unknown) := goodIn_app (goodIn_of _ (by decide +kernel)) ggX9_seen_X9_unknown
set_option maxRecDepth 20000 in
theorem ggX9_seen_X9_outside : GoodIn wsX9_seen wsX9_outside := goodIn_r _ [14] (by decide +kernel) (by decide +kernel)
set_option maxRecDepth 20000 in
theorem gX9_seen_X9_outside : GoodIn wsX9_seen (va_wsS RX9 77 yX9_outside wsX9_outside) := goodIn_app (goodIn_of _ (by decide +kernel)) ggX9_seen_X9_outside
theorem dX9_seen_0 : decode cX9_seen 0 = .ok (.aload_n 0, 1) := by decide +kernel
theorem dX9_seen_1 : decode cX9_seen 1 = .ok (.iload_n 1, 1) := by decide +kernel
theorem dX9_seen_2 : decode cX9_seen 2 = .ok (.invokevirtual 115, 3) := by decide +kernel
theorem dX9_seen_5 : decode cX9_seen 5 = .ok (.ifCond .eq 6, 3) := by decide +kernel
theorem dX9_seen_8 : decode cX9_seen 8 = .ok (.bipush (-2), 2) := by decide +kernel
theorem dX9_seen_10 : decode cX9_seen 10 = .ok (.ireturn, 1) := by decide +kernel
theorem dX9_seen_11 : decode cX9_seen 11 = .ok (.iload_n 2, 1) := by decide +kernel
theorem dX9_seen_12 : decode cX9_seen 12 = .ok (.iconst 1, 1) := by decide +kernel
theorem dX9_seen_13 : decode cX9_seen 13 = .ok (.bipush 30, 2) := by decide +kernel
theorem dX9_seen_15 : decode cX9_seen 15 = .ok (.invokestatic 77, 3) := by decide +kernel
theorem dX9_seen_18 : decode cX9_seen 18 = .ok (.ifCond .ne 13, 3) := by decide +kernel
theorem dX9_seen_21 : decode cX9_seen 21 = .ok (.iload_n 3, 1) := by decide +kernel
theorem dX9_seen_22 : decode cX9_seen 22 = .ok (.iconst 0, 1) := by decide +kernel
theorem dX9_seen_23 : decode cX9_seen 23 = .ok (.bipush 99, 2) := by decide +kernel
theorem dX9_seen_25 : decode cX9_seen 25 = .ok (.invokestatic 77, 3) := by decide +kernel
theorem dX9_seen_28 : decode cX9_seen 28 = .ok (.ifCond .eq 6, 3) := by decide +kernel
theorem dX9_seen_31 : decode cX9_seen 31 = .ok (.bipush (-3), 2) := by decide +kernel
theorem dX9_seen_33 : decode cX9_seen 33 = .ok (.ireturn, 1) := by decide +kernel
theorem dX9_seen_34 : decode cX9_seen 34 = .ok (.aload_n 0, 1) := by decide +kernel
theorem dX9_seen_35 : decode cX9_seen 35 = .ok (.getfield 224, 3) := by decide +kernel
theorem dX9_seen_38 : decode cX9_seen 38 = .ok (.bipush 6, 2) := by decide +kernel
theorem dX9_seen_40 : decode cX9_seen 40 = .ok (.if_icmp .lt 6, 3) := by decide +kernel
theorem dX9_seen_43 : decode cX9_seen 43 = .ok (.bipush (-5), 2) := by decide +kernel
theorem dX9_seen_45 : decode cX9_seen 45 = .ok (.ireturn, 1) := by decide +kernel
theorem dX9_seen_46 : decode cX9_seen 46 = .ok (.aload_n 0, 1) := by decide +kernel
theorem dX9_seen_47 : decode cX9_seen 47 = .ok (.getfield 57, 3) := by decide +kernel
theorem dX9_seen_50 : decode cX9_seen 50 = .ok (.aload_n 0, 1) := by decide +kernel
theorem dX9_seen_51 : decode cX9_seen 51 = .ok (.getfield 224, 3) := by decide +kernel
theorem dX9_seen_54 : decode cX9_seen 54 = .ok (.iload_n 1, 1) := by decide +kernel
theorem dX9_seen_55 : decode cX9_seen 55 = .ok (.iastore, 1) := by decide +kernel
theorem dX9_seen_56 : decode cX9_seen 56 = .ok (.aload_n 0, 1) := by decide +kernel
theorem dX9_seen_57 : decode cX9_seen 57 = .ok (.getfield 61, 3) := by decide +kernel
theorem dX9_seen_60 : decode cX9_seen 60 = .ok (.aload_n 0, 1) := by decide +kernel
theorem dX9_seen_61 : decode cX9_seen 61 = .ok (.getfield 224, 3) := by decide +kernel
theorem dX9_seen_64 : decode cX9_seen 64 = .ok (.iload_n 2, 1) := by decide +kernel
theorem dX9_seen_65 : decode cX9_seen 65 = .ok (.iastore, 1) := by decide +kernel
theorem dX9_seen_66 : decode cX9_seen 66 = .ok (.aload_n 0, 1) := by decide +kernel
theorem dX9_seen_67 : decode cX9_seen 67 = .ok (.getfield 64, 3) := by decide +kernel
theorem dX9_seen_70 : decode cX9_seen 70 = .ok (.aload_n 0, 1) := by decide +kernel
theorem dX9_seen_71 : decode cX9_seen 71 = .ok (.getfield 224, 3) := by decide +kernel
theorem dX9_seen_74 : decode cX9_seen 74 = .ok (.iload_n 3, 1) := by decide +kernel
theorem dX9_seen_75 : decode cX9_seen 75 = .ok (.iastore, 1) := by decide +kernel
theorem dX9_seen_76 : decode cX9_seen 76 = .ok (.aload_n 0, 1) := by decide +kernel
theorem dX9_seen_77 : decode cX9_seen 77 = .ok (.dup, 1) := by decide +kernel
theorem dX9_seen_78 : decode cX9_seen 78 = .ok (.getfield 224, 3) := by decide +kernel
theorem dX9_seen_81 : decode cX9_seen 81 = .ok (.iconst 1, 1) := by decide +kernel
theorem dX9_seen_82 : decode cX9_seen 82 = .ok (.iadd, 1) := by decide +kernel
theorem dX9_seen_83 : decode cX9_seen 83 = .ok (.putfield 224, 3) := by decide +kernel
theorem dX9_seen_86 : decode cX9_seen 86 = .ok (.aload_n 0, 1) := by decide +kernel
theorem dX9_seen_87 : decode cX9_seen 87 = .ok (.getfield 224, 3) := by decide +kernel
theorem dX9_seen_90 : decode cX9_seen 90 = .ok (.ireturn, 1) := by decide +kernel
theorem dX9_forget_0 : decode cX9_forget 0 = .ok (.aload_n 0, 1) := by decide +kernel
theorem dX9_forget_1 : decode cX9_forget 1 = .ok (.getfield 224, 3) := by decide +kernel
theorem dX9_forget_4 : decode cX9_forget 4 = .ok (.istore_n 1, 1) := by decide +kernel
theorem dX9_forget_5 : decode cX9_forget 5 = .ok (.aload_n 0, 1) := by decide +kernel
theorem dX9_forget_6 : decode cX9_forget 6 = .ok (.iconst 0, 1) := by decide +kernel
theorem dX9_forget_7 : decode cX9_forget 7 = .ok (.putfield 224, 3) := by decide +kernel
theorem dX9_forget_10 : decode cX9_forget 10 = .ok (.iload_n 1, 1) := by decide +kernel
theorem dX9_forget_11 : decode cX9_forget 11 = .ok (.ireturn, 1) := by decide +kernel
set_option maxRecDepth 20000 in
theorem ggX9_tempers_X9_unknown : GoodIn wsX9_tempers wsX9_unknown := goodIn_r _ [5, 6, 7, 127, 128, 129, 130, 131, 132, 133, 134, 135, 136, 137, 138, 139, 140, 141, 142, 143, 144, 145] (by decide +kernel) (by decide +kernel)
set_option maxRecDepth 20000 in
theorem gX9_tempers_X9_unknown : GoodIn wsX9_tempers (wsV RX9 115 RX9 yX9_unknown wsX9_unknown) := goodIn_app (goodIn_of _ (by decide +kernel)) ggX9_tempers_X9_unknown
set_option maxRecDepth 20000 in
theorem ggX9_tempers_X9_fitsAllSeen : GoodIn wsX9_tempers wsX9_fitsAllSeen := goodIn_r _ [11, 12, 13, 14, 15, 16, 17, 18, 4, 19, 20, 6, 21, 22, 23, 24, 25, 26, 27, 28, 29, 30, 31, 32, 33, 34, 35, 36, 37, 38, 39, 40, 41, 42, 43, 44, 45, 46, 47, 48, 49, 50, 51, 52, 53, 54, 55, 56, 57, 58, 59, 60, 61, 62, 63, 64, 65, 66, 67, 68, 69, 70, 71, 72, 73, 74, 75, 76, 77, 78, 79, 80, 81, 82, 83, 84, 85, 86, 87, 88, 89, 90, 91, 92, 93, 94, 95, 96, 97, 98, 99, 100, 101, 102, 103, 104, 105, 106, 107, 108, 109, 110, 111, 112, 113, 114, 115, 116, 117, 118, 119, 120, 121, 122, 123, 124, 125, 126, 127, 128, 129, 130, 131, 132, 133, 134, 135, 136, 137, 138, 139, 140, 141, 142, 143, 144, 145, 146, 147, 148, 149, 150, 151, 152, 153, 154, 155, 156, 157, 158, 159, 160, 161, 162, 163] (by decide +kernel) (by decide +kernel)
set_option maxRecDepth 20000 in
theorem gX9_tempers_X9_fitsAllSeen : GoodIn wsX9_tempers (wsV RX9 227 RX9 yX9_fitsAllSeen wsX9_fitsAllSeen) := goodIn_app (goodIn_of _ (by decide +kernel)) ggX9_tempers_X9_fitsAllSeen
theorem dX9_tempers_0 : decode cX9_tempers 0 = .ok (.aload_n 0, 1) := by decide +kernel
theorem dX9_tempers_1 : decode cX9_tempers 1 = .ok (.iload_n 1, 1) := by decide +kernel
theorem dX9_tempers_2 : decode cX9_tempers 2 = .ok (.invokevirtual 115, 3) := by decide +kernel
theorem dX9_tempers_5 : decode cX9_tempers 5 = .ok (.ifCond .eq 6, 3) := by decide +kernel
theorem dX9_tempers_8 : decode cX9_tempers 8 = .ok (.bipush (-2), 2) := by decide +kernel
theorem dX9_tempers_10 : decode cX9_tempers 10 = .ok (.ireturn, 1) := by decide +kernel
theorem dX9_tempers_11 : decode cX9_tempers 11 = .ok (.iconst 0, 1) := by decide +kernel
theorem dX9_tempers_12 : decode cX9_tempers 12 = .ok (.istore_n 2, 1) := by decide +kernel
theorem dX9_tempers_13 : decode cX9_tempers 13 = .ok (.iconst 1, 1) := by decide +kernel
theorem dX9_tempers_14 : decode cX9_tempers 14 = .ok (.istore_n 3, 1) := by decide +kernel
theorem dX9_tempers_15 : decode cX9_tempers 15 = .ok (.iload_n 3, 1) := by decide +kernel
theorem dX9_tempers_16 : decode cX9_tempers 16 = .ok (.bipush 9, 2) := by decide +kernel
theorem dX9_tempers_18 : decode cX9_tempers 18 = .ok (.if_icmp .gt 24, 3) := by decide +kernel
theorem dX9_tempers_21 : decode cX9_tempers 21 = .ok (.aload_n 0, 1) := by decide +kernel
theorem dX9_tempers_22 : decode cX9_tempers 22 = .ok (.iload_n 1, 1) := by decide +kernel
theorem dX9_tempers_23 : decode cX9_tempers 23 = .ok (.iload_n 3, 1) := by decide +kernel
theorem dX9_tempers_24 : decode cX9_tempers 24 = .ok (.invokevirtual 227, 3) := by decide +kernel
theorem dX9_tempers_27 : decode cX9_tempers 27 = .ok (.ifCond .eq 9, 3) := by decide +kernel
theorem dX9_tempers_30 : decode cX9_tempers 30 = .ok (.iload_n 2, 1) := by decide +kernel
theorem dX9_tempers_31 : decode cX9_tempers 31 = .ok (.iconst 1, 1) := by decide +kernel
theorem dX9_tempers_32 : decode cX9_tempers 32 = .ok (.iload_n 3, 1) := by decide +kernel
theorem dX9_tempers_33 : decode cX9_tempers 33 = .ok (.ishl, 1) := by decide +kernel
theorem dX9_tempers_34 : decode cX9_tempers 34 = .ok (.ior, 1) := by decide +kernel
theorem dX9_tempers_35 : decode cX9_tempers 35 = .ok (.istore_n 2, 1) := by decide +kernel
theorem dX9_tempers_36 : decode cX9_tempers 36 = .ok (.iinc 3 1, 3) := by decide +kernel
theorem dX9_tempers_39 : decode cX9_tempers 39 = .ok (.goto (-24), 3) := by decide +kernel
theorem dX9_tempers_42 : decode cX9_tempers 42 = .ok (.iload_n 2, 1) := by decide +kernel
theorem dX9_tempers_43 : decode cX9_tempers 43 = .ok (.ireturn, 1) := by decide +kernel
set_option maxRecDepth 20000 in
theorem ggX9_mothers_X9_unknown : GoodIn wsX9_mothers wsX9_unknown := goodIn_r _ [5, 6, 7, 127, 128, 129, 130, 131, 132, 133, 134, 135, 136, 137, 138, 139, 140, 141, 142, 143, 144, 145] (by decide +kernel) (by decide +kernel)
set_option maxRecDepth 20000 in
theorem gX9_mothers_X9_unknown : GoodIn wsX9_mothers (wsV RX9 115 RX9 yX9_unknown wsX9_unknown) := goodIn_app (goodIn_of _ (by decide +kernel)) ggX9_mothers_X9_unknown
set_option maxRecDepth 20000 in
theorem ggX9_mothers_X9_outside : GoodIn wsX9_mothers wsX9_outside := goodIn_r _ [10] (by decide +kernel) (by decide +kernel)
set_option maxRecDepth 20000 in
theorem gX9_mothers_X9_outside : GoodIn wsX9_mothers (va_wsS RX9 77 yX9_outside wsX9_outside) := goodIn_app (goodIn_of _ (by decide +kernel)) ggX9_mothers_X9_outside
set_option maxRecDepth 20000 in
theorem ggX9_mothers_X9_breaksByVisits : GoodIn wsX9_mothers wsX9_breaksByVisits := goodIn_r _ [14, 15, 6, 16, 17, 18, 19, 20, 21, 22, 23, 24, 25, 26, 27, 28, 29, 30, 31, 32, 33, 34, 35, 36, 37, 38, 39, 40, 41, 42, 43, 44, 45, 46, 47, 48, 49, 50, 51, 52, 53, 54, 55, 56, 57, 58, 59, 60, 61, 62, 63, 64, 65, 66, 67, 68, 69, 70, 71, 72, 73, 74, 75, 76, 77, 78, 79, 80, 81, 82, 83, 84, 85, 86, 87, 88, 89, 90, 91, 92, 93, 94, 95, 96, 97, 98, 99, 100, 101, 102, 103, 104, 105, 106, 107, 108, 109, 110, 111, 112, 113, 114, 115, 116, 117, 118, 119, 127, 128, 129, 130, 131, 132, 133, 134, 135, 136, 137, 138, 139, 140, 141, 142, 143, 144, 145, 146, 147, 148, 149, 150, 151, 152, 153, 154, 155, 156, 157, 158, 159, 160, 161, 162, 163] (by decide +kernel) (by decide +kernel)
set_option maxRecDepth 20000 in
theorem gX9_mothers_X9_breaksByVisits : GoodIn wsX9_mothers (wsV RX9 231 RX9 yX9_breaksByVisits wsX9_breaksByVisits) := goodIn_app (goodIn_of _ (by decide +kernel)) ggX9_mothers_X9_breaksByVisits
set_option maxRecDepth 20000 in
theorem ggX9_mothers_X9_oddsOfVisits : GoodIn wsX9_mothers wsX9_oddsOfVisits := goodIn_r _ [122] (by decide +kernel) (by decide +kernel)
set_option maxRecDepth 20000 in
theorem gX9_mothers_X9_oddsOfVisits : GoodIn wsX9_mothers (va_wsS RX9 234 yX9_oddsOfVisits wsX9_oddsOfVisits) := goodIn_app (goodIn_of _ (by decide +kernel)) ggX9_mothers_X9_oddsOfVisits
set_option maxRecDepth 20000 in
theorem ggX9_mothers_X9_commonDivisor : GoodIn wsX9_mothers wsX9_commonDivisor := goodIn_r _ [125, 126, 82, 42, 83] (by decide +kernel) (by decide +kernel)
set_option maxRecDepth 20000 in
theorem gX9_mothers_X9_commonDivisor : GoodIn wsX9_mothers (va_wsS RX9 237 yX9_commonDivisor wsX9_commonDivisor) := goodIn_app (goodIn_of _ (by decide +kernel)) ggX9_mothers_X9_commonDivisor
theorem dX9_mothers_0 : decode cX9_mothers 0 = .ok (.aload_n 0, 1) := by decide +kernel
theorem dX9_mothers_1 : decode cX9_mothers 1 = .ok (.iload_n 1, 1) := by decide +kernel
theorem dX9_mothers_2 : decode cX9_mothers 2 = .ok (.invokevirtual 115, 3) := by decide +kernel
theorem dX9_mothers_5 : decode cX9_mothers 5 = .ok (.ifCond .eq 6, 3) := by decide +kernel
theorem dX9_mothers_8 : decode cX9_mothers 8 = .ok (.bipush (-2), 2) := by decide +kernel
theorem dX9_mothers_10 : decode cX9_mothers 10 = .ok (.ireturn, 1) := by decide +kernel
theorem dX9_mothers_11 : decode cX9_mothers 11 = .ok (.iload_n 2, 1) := by decide +kernel
theorem dX9_mothers_12 : decode cX9_mothers 12 = .ok (.iconst 0, 1) := by decide +kernel
theorem dX9_mothers_13 : decode cX9_mothers 13 = .ok (.bipush 6, 2) := by decide +kernel
theorem dX9_mothers_15 : decode cX9_mothers 15 = .ok (.invokestatic 77, 3) := by decide +kernel
theorem dX9_mothers_18 : decode cX9_mothers 18 = .ok (.ifCond .ne 23, 3) := by decide +kernel
theorem dX9_mothers_21 : decode cX9_mothers 21 = .ok (.iload_n 3, 1) := by decide +kernel
theorem dX9_mothers_22 : decode cX9_mothers 22 = .ok (.iconst 0, 1) := by decide +kernel
theorem dX9_mothers_23 : decode cX9_mothers 23 = .ok (.bipush 10, 2) := by decide +kernel
theorem dX9_mothers_25 : decode cX9_mothers 25 = .ok (.invokestatic 77, 3) := by decide +kernel
theorem dX9_mothers_28 : decode cX9_mothers 28 = .ok (.ifCond .ne 13, 3) := by decide +kernel
theorem dX9_mothers_31 : decode cX9_mothers 31 = .ok (.iload 4, 2) := by decide +kernel
theorem dX9_mothers_33 : decode cX9_mothers 33 = .ok (.iconst 0, 1) := by decide +kernel
theorem dX9_mothers_34 : decode cX9_mothers 34 = .ok (.iconst 1, 1) := by decide +kernel
theorem dX9_mothers_35 : decode cX9_mothers 35 = .ok (.invokestatic 77, 3) := by decide +kernel
theorem dX9_mothers_38 : decode cX9_mothers 38 = .ok (.ifCond .eq 6, 3) := by decide +kernel
theorem dX9_mothers_41 : decode cX9_mothers 41 = .ok (.bipush (-3), 2) := by decide +kernel
theorem dX9_mothers_43 : decode cX9_mothers 43 = .ok (.ireturn, 1) := by decide +kernel
theorem dX9_mothers_44 : decode cX9_mothers 44 = .ok (.iconst 0, 1) := by decide +kernel
theorem dX9_mothers_45 : decode cX9_mothers 45 = .ok (.istore 5, 2) := by decide +kernel
theorem dX9_mothers_47 : decode cX9_mothers 47 = .ok (.iconst 0, 1) := by decide +kernel
theorem dX9_mothers_48 : decode cX9_mothers 48 = .ok (.istore 6, 2) := by decide +kernel
theorem dX9_mothers_50 : decode cX9_mothers 50 = .ok (.iload 6, 2) := by decide +kernel
theorem dX9_mothers_52 : decode cX9_mothers 52 = .ok (.iconst 1, 1) := by decide +kernel
theorem dX9_mothers_53 : decode cX9_mothers 53 = .ok (.iload_n 2, 1) := by decide +kernel
theorem dX9_mothers_54 : decode cX9_mothers 54 = .ok (.ishl, 1) := by decide +kernel
theorem dX9_mothers_55 : decode cX9_mothers 55 = .ok (.if_icmp .ge 32, 3) := by decide +kernel
theorem dX9_mothers_58 : decode cX9_mothers 58 = .ok (.aload_n 0, 1) := by decide +kernel
theorem dX9_mothers_59 : decode cX9_mothers 59 = .ok (.iload_n 1, 1) := by decide +kernel
theorem dX9_mothers_60 : decode cX9_mothers 60 = .ok (.iload_n 2, 1) := by decide +kernel
theorem dX9_mothers_61 : decode cX9_mothers 61 = .ok (.iload 6, 2) := by decide +kernel
theorem dX9_mothers_63 : decode cX9_mothers 63 = .ok (.invokevirtual 231, 3) := by decide +kernel
theorem dX9_mothers_66 : decode cX9_mothers 66 = .ok (.ifCond .eq 15, 3) := by decide +kernel
theorem dX9_mothers_69 : decode cX9_mothers 69 = .ok (.iload 5, 2) := by decide +kernel
theorem dX9_mothers_71 : decode cX9_mothers 71 = .ok (.iload_n 2, 1) := by decide +kernel
theorem dX9_mothers_72 : decode cX9_mothers 72 = .ok (.iload 6, 2) := by decide +kernel
theorem dX9_mothers_74 : decode cX9_mothers 74 = .ok (.iload_n 3, 1) := by decide +kernel
theorem dX9_mothers_75 : decode cX9_mothers 75 = .ok (.invokestatic 234, 3) := by decide +kernel
theorem dX9_mothers_78 : decode cX9_mothers 78 = .ok (.iadd, 1) := by decide +kernel
theorem dX9_mothers_79 : decode cX9_mothers 79 = .ok (.istore 5, 2) := by decide +kernel
theorem dX9_mothers_81 : decode cX9_mothers 81 = .ok (.iinc 6 1, 3) := by decide +kernel
theorem dX9_mothers_84 : decode cX9_mothers 84 = .ok (.goto (-34), 3) := by decide +kernel
theorem dX9_mothers_87 : decode cX9_mothers 87 = .ok (.iconst 1, 1) := by decide +kernel
theorem dX9_mothers_88 : decode cX9_mothers 88 = .ok (.istore 6, 2) := by decide +kernel
theorem dX9_mothers_90 : decode cX9_mothers 90 = .ok (.iconst 0, 1) := by decide +kernel
theorem dX9_mothers_91 : decode cX9_mothers 91 = .ok (.istore 7, 2) := by decide +kernel
theorem dX9_mothers_93 : decode cX9_mothers 93 = .ok (.iload 7, 2) := by decide +kernel
theorem dX9_mothers_95 : decode cX9_mothers 95 = .ok (.iload_n 2, 1) := by decide +kernel
theorem dX9_mothers_96 : decode cX9_mothers 96 = .ok (.if_icmp .ge 16, 3) := by decide +kernel
theorem dX9_mothers_99 : decode cX9_mothers 99 = .ok (.iload 6, 2) := by decide +kernel
theorem dX9_mothers_101 : decode cX9_mothers 101 = .ok (.bipush 10, 2) := by decide +kernel
theorem dX9_mothers_103 : decode cX9_mothers 103 = .ok (.imul, 1) := by decide +kernel
theorem dX9_mothers_104 : decode cX9_mothers 104 = .ok (.istore 6, 2) := by decide +kernel
theorem dX9_mothers_106 : decode cX9_mothers 106 = .ok (.iinc 7 1, 3) := by decide +kernel
theorem dX9_mothers_109 : decode cX9_mothers 109 = .ok (.goto (-16), 3) := by decide +kernel
theorem dX9_mothers_112 : decode cX9_mothers 112 = .ok (.iload 5, 2) := by decide +kernel
theorem dX9_mothers_114 : decode cX9_mothers 114 = .ok (.iload 6, 2) := by decide +kernel
theorem dX9_mothers_116 : decode cX9_mothers 116 = .ok (.invokestatic 237, 3) := by decide +kernel
theorem dX9_mothers_119 : decode cX9_mothers 119 = .ok (.istore 7, 2) := by decide +kernel
theorem dX9_mothers_121 : decode cX9_mothers 121 = .ok (.iload 4, 2) := by decide +kernel
theorem dX9_mothers_123 : decode cX9_mothers 123 = .ok (.ifCond .ne 8, 3) := by decide +kernel
theorem dX9_mothers_126 : decode cX9_mothers 126 = .ok (.iload 5, 2) := by decide +kernel
theorem dX9_mothers_128 : decode cX9_mothers 128 = .ok (.goto 5, 3) := by decide +kernel
theorem dX9_mothers_131 : decode cX9_mothers 131 = .ok (.iload 6, 2) := by decide +kernel
theorem dX9_mothers_133 : decode cX9_mothers 133 = .ok (.iload 7, 2) := by decide +kernel
theorem dX9_mothers_135 : decode cX9_mothers 135 = .ok (.idiv, 1) := by decide +kernel
theorem dX9_mothers_136 : decode cX9_mothers 136 = .ok (.ireturn, 1) := by decide +kernel
set_option maxRecDepth 20000 in
theorem ggX9_count_X9_balance : GoodIn wsX9_count wsX9_balance := goodIn_r _ [12, 1, 2, 13, 14, 15, 16, 17, 18, 11, 19, 20, 21, 22, 23, 24, 25, 26, 27, 28, 29, 30, 31, 32, 33, 34, 35, 36, 37, 38, 39, 40, 41, 42, 43, 44, 45, 3, 46, 47, 48, 49, 50, 51, 52, 53, 54, 55, 56, 57, 58, 59, 60, 61, 62, 63, 64, 65, 66, 67, 68, 69, 70, 71, 72, 73, 74, 75, 76, 77, 78, 79, 80, 81, 82, 83, 84, 85, 86, 87, 88, 89, 90, 91, 92, 93, 94, 95, 96, 97, 98, 99, 100, 101, 102, 103, 104, 105, 106, 107, 108, 109, 110, 111, 112, 113, 114, 115, 116, 117, 118, 119, 120, 121, 122, 123, 124, 125, 126, 145, 146, 147, 148, 149, 150, 151, 152, 153, 154, 155, 156, 157, 158, 159, 160, 161, 162, 163, 172, 173, 174, 175, 176, 177, 178, 179, 180, 181, 182, 183, 184, 185, 186, 187, 188, 189] (by decide +kernel) (by decide +kernel)
set_option maxRecDepth 20000 in
theorem gX9_count_X9_balance : GoodIn wsX9_count (wsV RX9 240 RX9 yX9_balance wsX9_balance) := goodIn_app (goodIn_of _ (by decide +kernel)) ggX9_count_X9_balance
set_option maxRecDepth 20000 in
theorem ggX9_count_X8_breaks : GoodIn wsX9_count wsX8_breaks := goodIn_r _ [131, 132, 133, 134, 160, 161, 162, 163, 172, 173, 174, 175, 176, 177, 178, 179, 180, 181, 182, 183] (by decide +kernel) (by decide +kernel)
set_option maxRecDepth 20000 in
theorem gX9_count_X8_breaks : GoodIn wsX9_count (wsV RX9 243 RX8 yX8_breaks wsX8_breaks) := goodIn_app (goodIn_of _ (by decide +kernel)) ggX9_count_X8_breaks
set_option maxRecDepth 20000 in
theorem ggX9_count_X8_tiffs : GoodIn wsX9_count wsX8_tiffs := goodIn_r _ [138, 132, 133, 139, 160, 161, 162, 163, 172, 173, 174, 175, 176, 177, 178, 179, 180, 181, 182, 183] (by decide +kernel) (by decide +kernel)
set_option maxRecDepth 20000 in
theorem gX9_count_X8_tiffs : GoodIn wsX9_count (wsV RX9 246 RX8 yX8_tiffs wsX8_tiffs) := goodIn_app (goodIn_of _ (by decide +kernel)) ggX9_count_X8_tiffs
set_option maxRecDepth 20000 in
theorem ggX9_count_X8_voids : GoodIn wsX9_count wsX8_voids := goodIn_r _ [143, 132, 133, 144, 160, 161, 162, 163, 172, 173, 174, 175, 176, 177, 178, 179, 180, 181, 182, 183] (by decide +kernel) (by decide +kernel)
set_option maxRecDepth 20000 in
theorem gX9_count_X8_voids : GoodIn wsX9_count (wsV RX9 248 RX8 yX8_voids wsX8_voids) := goodIn_app (goodIn_of _ (by decide +kernel)) ggX9_count_X8_voids
theorem dX9_count_0 : decode cX9_count 0 = .ok (.iload_n 1, 1) := by decide +kernel
theorem dX9_count_1 : decode cX9_count 1 = .ok (.tableswitch 115 0 8 #[51, 59, 67, 73, 81, 89, 97, 102, 107], 51) := by decide +kernel
theorem dX9_count_52 : decode cX9_count 52 = .ok (.aload_n 0, 1) := by decide +kernel
theorem dX9_count_53 : decode cX9_count 53 = .ok (.getfield 43, 3) := by decide +kernel
theorem dX9_count_56 : decode cX9_count 56 = .ok (.getfield 89, 3) := by decide +kernel
theorem dX9_count_59 : decode cX9_count 59 = .ok (.ireturn, 1) := by decide +kernel
theorem dX9_count_60 : decode cX9_count 60 = .ok (.aload_n 0, 1) := by decide +kernel
theorem dX9_count_61 : decode cX9_count 61 = .ok (.getfield 43, 3) := by decide +kernel
theorem dX9_count_64 : decode cX9_count 64 = .ok (.getfield 133, 3) := by decide +kernel
theorem dX9_count_67 : decode cX9_count 67 = .ok (.ireturn, 1) := by decide +kernel
theorem dX9_count_68 : decode cX9_count 68 = .ok (.aload_n 0, 1) := by decide +kernel
theorem dX9_count_69 : decode cX9_count 69 = .ok (.iconst 0, 1) := by decide +kernel
theorem dX9_count_70 : decode cX9_count 70 = .ok (.invokevirtual 240, 3) := by decide +kernel
theorem dX9_count_73 : decode cX9_count 73 = .ok (.ireturn, 1) := by decide +kernel
theorem dX9_count_74 : decode cX9_count 74 = .ok (.aload_n 0, 1) := by decide +kernel
theorem dX9_count_75 : decode cX9_count 75 = .ok (.getfield 43, 3) := by decide +kernel
theorem dX9_count_78 : decode cX9_count 78 = .ok (.invokevirtual 243, 3) := by decide +kernel
theorem dX9_count_81 : decode cX9_count 81 = .ok (.ireturn, 1) := by decide +kernel
theorem dX9_count_82 : decode cX9_count 82 = .ok (.aload_n 0, 1) := by decide +kernel
theorem dX9_count_83 : decode cX9_count 83 = .ok (.getfield 43, 3) := by decide +kernel
theorem dX9_count_86 : decode cX9_count 86 = .ok (.invokevirtual 246, 3) := by decide +kernel
theorem dX9_count_89 : decode cX9_count 89 = .ok (.ireturn, 1) := by decide +kernel
theorem dX9_count_90 : decode cX9_count 90 = .ok (.aload_n 0, 1) := by decide +kernel
theorem dX9_count_91 : decode cX9_count 91 = .ok (.getfield 43, 3) := by decide +kernel
theorem dX9_count_94 : decode cX9_count 94 = .ok (.invokevirtual 248, 3) := by decide +kernel
theorem dX9_count_97 : decode cX9_count 97 = .ok (.ireturn, 1) := by decide +kernel
theorem dX9_count_98 : decode cX9_count 98 = .ok (.aload_n 0, 1) := by decide +kernel
theorem dX9_count_99 : decode cX9_count 99 = .ok (.getfield 224, 3) := by decide +kernel
theorem dX9_count_102 : decode cX9_count 102 = .ok (.ireturn, 1) := by decide +kernel
theorem dX9_count_103 : decode cX9_count 103 = .ok (.aload_n 0, 1) := by decide +kernel
theorem dX9_count_104 : decode cX9_count 104 = .ok (.getfield 175, 3) := by decide +kernel
theorem dX9_count_107 : decode cX9_count 107 = .ok (.ireturn, 1) := by decide +kernel
theorem dX9_count_108 : decode cX9_count 108 = .ok (.aload_n 0, 1) := by decide +kernel
theorem dX9_count_109 : decode cX9_count 109 = .ok (.getfield 13, 3) := by decide +kernel
theorem dX9_count_112 : decode cX9_count 112 = .ok (.getfield 85, 3) := by decide +kernel
theorem dX9_count_115 : decode cX9_count 115 = .ok (.ireturn, 1) := by decide +kernel
theorem dX9_count_116 : decode cX9_count 116 = .ok (.bipush (-3), 2) := by decide +kernel
theorem dX9_count_118 : decode cX9_count 118 = .ok (.ireturn, 1) := by decide +kernel
theorem dX9_outside_0 : decode cX9_outside 0 = .ok (.iload_n 0, 1) := by decide +kernel
theorem dX9_outside_1 : decode cX9_outside 1 = .ok (.iload_n 1, 1) := by decide +kernel
theorem dX9_outside_2 : decode cX9_outside 2 = .ok (.if_icmp .lt 8, 3) := by decide +kernel
theorem dX9_outside_5 : decode cX9_outside 5 = .ok (.iload_n 0, 1) := by decide +kernel
theorem dX9_outside_6 : decode cX9_outside 6 = .ok (.iload_n 2, 1) := by decide +kernel
theorem dX9_outside_7 : decode cX9_outside 7 = .ok (.if_icmp .le 7, 3) := by decide +kernel
theorem dX9_outside_10 : decode cX9_outside 10 = .ok (.iconst 1, 1) := by decide +kernel
theorem dX9_outside_11 : decode cX9_outside 11 = .ok (.goto 4, 3) := by decide +kernel
theorem dX9_outside_14 : decode cX9_outside 14 = .ok (.iconst 0, 1) := by decide +kernel
theorem dX9_outside_15 : decode cX9_outside 15 = .ok (.ireturn, 1) := by decide +kernel
theorem dX9_unknown_0 : decode cX9_unknown 0 = .ok (.iload_n 1, 1) := by decide +kernel
theorem dX9_unknown_1 : decode cX9_unknown 1 = .ok (.ifCond .lt 20, 3) := by decide +kernel
theorem dX9_unknown_4 : decode cX9_unknown 4 = .ok (.iload_n 1, 1) := by decide +kernel
theorem dX9_unknown_5 : decode cX9_unknown 5 = .ok (.aload_n 0, 1) := by decide +kernel
theorem dX9_unknown_6 : decode cX9_unknown 6 = .ok (.getfield 43, 3) := by decide +kernel
theorem dX9_unknown_9 : decode cX9_unknown 9 = .ok (.getfield 89, 3) := by decide +kernel
theorem dX9_unknown_12 : decode cX9_unknown 12 = .ok (.if_icmp .ge 9, 3) := by decide +kernel
theorem dX9_unknown_15 : decode cX9_unknown 15 = .ok (.iload_n 1, 1) := by decide +kernel
theorem dX9_unknown_16 : decode cX9_unknown 16 = .ok (.bipush 6, 2) := by decide +kernel
theorem dX9_unknown_18 : decode cX9_unknown 18 = .ok (.if_icmp .lt 7, 3) := by decide +kernel
theorem dX9_unknown_21 : decode cX9_unknown 21 = .ok (.iconst 1, 1) := by decide +kernel
theorem dX9_unknown_22 : decode cX9_unknown 22 = .ok (.goto 4, 3) := by decide +kernel
theorem dX9_unknown_25 : decode cX9_unknown 25 = .ok (.iconst 0, 1) := by decide +kernel
theorem dX9_unknown_26 : decode cX9_unknown 26 = .ok (.ireturn, 1) := by decide +kernel
theorem dX9_isA_0 : decode cX9_isA 0 = .ok (.iload_n 1, 1) := by decide +kernel
theorem dX9_isA_1 : decode cX9_isA 1 = .ok (.tableswitch 57 0 4 #[35, 37, 42, 47, 52], 35) := by decide +kernel
theorem dX9_isA_36 : decode cX9_isA 36 = .ok (.iconst 1, 1) := by decide +kernel
theorem dX9_isA_37 : decode cX9_isA 37 = .ok (.ireturn, 1) := by decide +kernel
theorem dX9_isA_38 : decode cX9_isA 38 = .ok (.aload_n 0, 1) := by decide +kernel
theorem dX9_isA_39 : decode cX9_isA 39 = .ok (.instanceof 7, 3) := by decide +kernel
theorem dX9_isA_42 : decode cX9_isA 42 = .ok (.ireturn, 1) := by decide +kernel
theorem dX9_isA_43 : decode cX9_isA 43 = .ok (.aload_n 0, 1) := by decide +kernel
theorem dX9_isA_44 : decode cX9_isA 44 = .ok (.instanceof 21, 3) := by decide +kernel
theorem dX9_isA_47 : decode cX9_isA 47 = .ok (.ireturn, 1) := by decide +kernel
theorem dX9_isA_48 : decode cX9_isA 48 = .ok (.aload_n 0, 1) := by decide +kernel
theorem dX9_isA_49 : decode cX9_isA 49 = .ok (.instanceof 24, 3) := by decide +kernel
theorem dX9_isA_52 : decode cX9_isA 52 = .ok (.ireturn, 1) := by decide +kernel
theorem dX9_isA_53 : decode cX9_isA 53 = .ok (.aload_n 0, 1) := by decide +kernel
theorem dX9_isA_54 : decode cX9_isA 54 = .ok (.instanceof 27, 3) := by decide +kernel
theorem dX9_isA_57 : decode cX9_isA 57 = .ok (.ireturn, 1) := by decide +kernel
theorem dX9_isA_58 : decode cX9_isA 58 = .ok (.iconst 0, 1) := by decide +kernel
theorem dX9_isA_59 : decode cX9_isA 59 = .ok (.ireturn, 1) := by decide +kernel
set_option maxRecDepth 20000 in
theorem ggX9_tell_X8_clear : GoodIn wsX9_tell wsX8_clear := goodIn_r _ [8, 9, 10, 11, 12, 13, 14, 15, 16, 17, 18, 19, 20, 21, 22, 68, 69, 70, 71, 72, 73, 74, 75, 76, 77] (by decide +kernel) (by decide +kernel)
set_option maxRecDepth 20000 in
theorem gX9_tell_X8_clear : GoodIn wsX9_tell (wsV RX9 251 RX8 yX8_clear wsX8_clear) := goodIn_app (goodIn_of _ (by decide +kernel)) ggX9_tell_X8_clear
set_option maxRecDepth 20000 in
theorem ggX9_tell_X7_isCouple : GoodIn wsX9_tell wsX7_isCouple := goodIn_r _ [26] (by decide +kernel) (by decide +kernel)
set_option maxRecDepth 20000 in
theorem gX9_tell_X7_isCouple : GoodIn wsX9_tell (va_wsS RX9 254 yX7_isCouple wsX7_isCouple) := goodIn_app (goodIn_of _ (by decide +kernel)) ggX9_tell_X7_isCouple
set_option maxRecDepth 20000 in
theorem ggX9_tell_X8_join : GoodIn wsX9_tell wsX8_join := goodIn_r _ [30, 10, 31, 32, 33, 34, 35, 36, 37, 38, 39, 40, 41, 42, 43, 44, 45, 46, 47, 48, 68, 69, 70, 71, 78, 79, 80, 81, 82, 83, 84, 85, 86, 87, 88, 89] (by decide +kernel) (by decide +kernel)
set_option maxRecDepth 20000 in
theorem gX9_tell_X8_join : GoodIn wsX9_tell (wsV RX9 257 RX8 yX8_join wsX8_join) := goodIn_app (goodIn_of _ (by decide +kernel)) ggX9_tell_X8_join
set_option maxRecDepth 20000 in
theorem ggX9_tell_X6_set : GoodIn wsX9_tell wsX6_set := goodIn_r _ [52, 17, 18, 19, 20, 21, 22, 72, 73, 74, 75, 76, 77] (by decide +kernel) (by decide +kernel)
set_option maxRecDepth 20000 in
theorem gX9_tell_X6_set : GoodIn wsX9_tell (wsV RX9 171 RX6 yX6_set wsX6_set) := goodIn_app (goodIn_of _ (by decide +kernel)) ggX9_tell_X6_set
theorem dX9_tell_0 : decode cX9_tell 0 = .ok (.iload_n 1, 1) := by decide +kernel
theorem dX9_tell_1 : decode cX9_tell 1 = .ok (.ifCond .ne 13, 3) := by decide +kernel
theorem dX9_tell_4 : decode cX9_tell 4 = .ok (.aload_n 0, 1) := by decide +kernel
theorem dX9_tell_5 : decode cX9_tell 5 = .ok (.getfield 39, 3) := by decide +kernel
theorem dX9_tell_8 : decode cX9_tell 8 = .ok (.invokevirtual 251, 3) := by decide +kernel
theorem dX9_tell_11 : decode cX9_tell 11 = .ok (.goto 63, 3) := by decide +kernel
theorem dX9_tell_14 : decode cX9_tell 14 = .ok (.iload_n 1, 1) := by decide +kernel
theorem dX9_tell_15 : decode cX9_tell 15 = .ok (.invokestatic 254, 3) := by decide +kernel
theorem dX9_tell_18 : decode cX9_tell 18 = .ok (.ifCond .eq 42, 3) := by decide +kernel
theorem dX9_tell_21 : decode cX9_tell 21 = .ok (.iload_n 1, 1) := by decide +kernel
theorem dX9_tell_22 : decode cX9_tell 22 = .ok (.iconst 1, 1) := by decide +kernel
theorem dX9_tell_23 : decode cX9_tell 23 = .ok (.isub, 1) := by decide +kernel
theorem dX9_tell_24 : decode cX9_tell 24 = .ok (.istore 4, 2) := by decide +kernel
theorem dX9_tell_26 : decode cX9_tell 26 = .ok (.iload 4, 2) := by decide +kernel
theorem dX9_tell_28 : decode cX9_tell 28 = .ok (.ifCond .lt 29, 3) := by decide +kernel
theorem dX9_tell_31 : decode cX9_tell 31 = .ok (.iload 4, 2) := by decide +kernel
theorem dX9_tell_33 : decode cX9_tell 33 = .ok (.aload_n 0, 1) := by decide +kernel
theorem dX9_tell_34 : decode cX9_tell 34 = .ok (.getfield 30, 3) := by decide +kernel
theorem dX9_tell_37 : decode cX9_tell 37 = .ok (.arraylength, 1) := by decide +kernel
theorem dX9_tell_38 : decode cX9_tell 38 = .ok (.if_icmp .ge 19, 3) := by decide +kernel
theorem dX9_tell_41 : decode cX9_tell 41 = .ok (.aload_n 0, 1) := by decide +kernel
theorem dX9_tell_42 : decode cX9_tell 42 = .ok (.getfield 39, 3) := by decide +kernel
theorem dX9_tell_45 : decode cX9_tell 45 = .ok (.aload_n 0, 1) := by decide +kernel
theorem dX9_tell_46 : decode cX9_tell 46 = .ok (.getfield 30, 3) := by decide +kernel
theorem dX9_tell_49 : decode cX9_tell 49 = .ok (.iload 4, 2) := by decide +kernel
theorem dX9_tell_51 : decode cX9_tell 51 = .ok (.aaload, 1) := by decide +kernel
theorem dX9_tell_52 : decode cX9_tell 52 = .ok (.iload_n 2, 1) := by decide +kernel
theorem dX9_tell_53 : decode cX9_tell 53 = .ok (.iload_n 3, 1) := by decide +kernel
theorem dX9_tell_54 : decode cX9_tell 54 = .ok (.invokevirtual 257, 3) := by decide +kernel
theorem dX9_tell_57 : decode cX9_tell 57 = .ok (.goto 17, 3) := by decide +kernel
theorem dX9_tell_60 : decode cX9_tell 60 = .ok (.aload_n 0, 1) := by decide +kernel
theorem dX9_tell_61 : decode cX9_tell 61 = .ok (.getfield 39, 3) := by decide +kernel
theorem dX9_tell_64 : decode cX9_tell 64 = .ok (.getfield 140, 3) := by decide +kernel
theorem dX9_tell_67 : decode cX9_tell 67 = .ok (.iload_n 1, 1) := by decide +kernel
theorem dX9_tell_68 : decode cX9_tell 68 = .ok (.iconst 5, 1) := by decide +kernel
theorem dX9_tell_69 : decode cX9_tell 69 = .ok (.isub, 1) := by decide +kernel
theorem dX9_tell_70 : decode cX9_tell 70 = .ok (.iload_n 2, 1) := by decide +kernel
theorem dX9_tell_71 : decode cX9_tell 71 = .ok (.invokevirtual 171, 3) := by decide +kernel
theorem dX9_tell_74 : decode cX9_tell 74 = .ok (.return_, 1) := by decide +kernel
set_option maxRecDepth 20000 in
theorem ggX9_begin_X8_copy : GoodIn wsX9_begin wsX8_copy := goodIn_r _ [10, 11, 12, 13, 14, 15, 16, 17, 18, 19, 20, 21, 22, 23, 24, 25, 26, 27, 28, 29, 30, 31, 32, 33, 34, 35, 36, 37, 38, 39, 40, 41, 42, 58, 59, 60, 61, 62, 63, 64, 65, 66, 67, 68, 69, 70, 71, 72, 73, 74, 75, 76, 77, 78, 79] (by decide +kernel) (by decide +kernel)
set_option maxRecDepth 20000 in
theorem gX9_begin_X8_copy : GoodIn wsX9_begin (wsV RX9 181 RX8 yX8_copy wsX8_copy) := goodIn_app (goodIn_of _ (by decide +kernel)) ggX9_begin_X8_copy
theorem dX9_begin_0 : decode cX9_begin 0 = .ok (.aload_n 0, 1) := by decide +kernel
theorem dX9_begin_1 : decode cX9_begin 1 = .ok (.getfield 43, 3) := by decide +kernel
theorem dX9_begin_4 : decode cX9_begin 4 = .ok (.aload_n 0, 1) := by decide +kernel
theorem dX9_begin_5 : decode cX9_begin 5 = .ok (.getfield 39, 3) := by decide +kernel
theorem dX9_begin_8 : decode cX9_begin 8 = .ok (.invokevirtual 181, 3) := by decide +kernel
theorem dX9_begin_11 : decode cX9_begin 11 = .ok (.iconst 0, 1) := by decide +kernel
theorem dX9_begin_12 : decode cX9_begin 12 = .ok (.istore_n 1, 1) := by decide +kernel
theorem dX9_begin_13 : decode cX9_begin 13 = .ok (.iload_n 1, 1) := by decide +kernel
theorem dX9_begin_14 : decode cX9_begin 14 = .ok (.iconst 2, 1) := by decide +kernel
theorem dX9_begin_15 : decode cX9_begin 15 = .ok (.if_icmp .ge 16, 3) := by decide +kernel
theorem dX9_begin_18 : decode cX9_begin 18 = .ok (.aload_n 0, 1) := by decide +kernel
theorem dX9_begin_19 : decode cX9_begin 19 = .ok (.getfield 50, 3) := by decide +kernel
theorem dX9_begin_22 : decode cX9_begin 22 = .ok (.iload_n 1, 1) := by decide +kernel
theorem dX9_begin_23 : decode cX9_begin 23 = .ok (.iconst 0, 1) := by decide +kernel
theorem dX9_begin_24 : decode cX9_begin 24 = .ok (.bastore, 1) := by decide +kernel
theorem dX9_begin_25 : decode cX9_begin 25 = .ok (.iinc 1 1, 3) := by decide +kernel
theorem dX9_begin_28 : decode cX9_begin 28 = .ok (.goto (-15), 3) := by decide +kernel
theorem dX9_begin_31 : decode cX9_begin 31 = .ok (.aload_n 0, 1) := by decide +kernel
theorem dX9_begin_32 : decode cX9_begin 32 = .ok (.iconst 0, 1) := by decide +kernel
theorem dX9_begin_33 : decode cX9_begin 33 = .ok (.putfield 175, 3) := by decide +kernel
theorem dX9_begin_36 : decode cX9_begin 36 = .ok (.aload_n 0, 1) := by decide +kernel
theorem dX9_begin_37 : decode cX9_begin 37 = .ok (.iconst 0, 1) := by decide +kernel
theorem dX9_begin_38 : decode cX9_begin 38 = .ok (.putfield 224, 3) := by decide +kernel
theorem dX9_begin_41 : decode cX9_begin 41 = .ok (.return_, 1) := by decide +kernel
set_option maxRecDepth 20000 in
theorem ggX9_remember_X9_pastPlace : GoodIn wsX9_remember wsX9_pastPlace := goodIn_r _ [9, 2, 10, 11, 12, 13, 51, 52, 53, 54, 55, 56, 57, 58, 59, 60, 61, 62, 63, 64, 65] (by decide +kernel) (by decide +kernel)
set_option maxRecDepth 20000 in
theorem gX9_remember_X9_pastPlace : GoodIn wsX9_remember (wsV RX9 178 RX9 yX9_pastPlace wsX9_pastPlace) := goodIn_app (goodIn_of _ (by decide +kernel)) ggX9_remember_X9_pastPlace
set_option maxRecDepth 20000 in
theorem ggX9_remember_X8_copy : GoodIn wsX9_remember wsX8_copy := goodIn_r _ [18, 19, 20, 21, 22, 23, 24, 25, 26, 27, 28, 29, 30, 31, 32, 33, 34, 35, 36, 37, 38, 39, 40, 41, 42, 43, 44, 45, 46, 47, 48, 49, 50, 66, 67, 68, 69, 70, 71, 72, 73, 74, 75, 76, 77, 78, 79, 80, 81, 82, 83, 84, 85, 86, 87] (by decide +kernel) (by decide +kernel)
set_option maxRecDepth 20000 in
theorem gX9_remember_X8_copy : GoodIn wsX9_remember (wsV RX9 181 RX8 yX8_copy wsX8_copy) := goodIn_app (goodIn_of _ (by decide +kernel)) ggX9_remember_X8_copy
theorem dX9_remember_0 : decode cX9_remember 0 = .ok (.aload_n 0, 1) := by decide +kernel
theorem dX9_remember_1 : decode cX9_remember 1 = .ok (.getfield 175, 3) := by decide +kernel
theorem dX9_remember_4 : decode cX9_remember 4 = .ok (.bipush 8, 2) := by decide +kernel
theorem dX9_remember_6 : decode cX9_remember 6 = .ok (.if_icmp .lt 18, 3) := by decide +kernel
theorem dX9_remember_9 : decode cX9_remember 9 = .ok (.aload_n 0, 1) := by decide +kernel
theorem dX9_remember_10 : decode cX9_remember 10 = .ok (.aload_n 0, 1) := by decide +kernel
theorem dX9_remember_11 : decode cX9_remember 11 = .ok (.iconst 1, 1) := by decide +kernel
theorem dX9_remember_12 : decode cX9_remember 12 = .ok (.invokevirtual 178, 3) := by decide +kernel
theorem dX9_remember_15 : decode cX9_remember 15 = .ok (.putfield 261, 3) := by decide +kernel
theorem dX9_remember_18 : decode cX9_remember 18 = .ok (.aload_n 0, 1) := by decide +kernel
theorem dX9_remember_19 : decode cX9_remember 19 = .ok (.bipush 7, 2) := by decide +kernel
theorem dX9_remember_21 : decode cX9_remember 21 = .ok (.putfield 175, 3) := by decide +kernel
theorem dX9_remember_24 : decode cX9_remember 24 = .ok (.aload_n 0, 1) := by decide +kernel
theorem dX9_remember_25 : decode cX9_remember 25 = .ok (.getfield 54, 3) := by decide +kernel
theorem dX9_remember_28 : decode cX9_remember 28 = .ok (.aload_n 0, 1) := by decide +kernel
theorem dX9_remember_29 : decode cX9_remember 29 = .ok (.aload_n 0, 1) := by decide +kernel
theorem dX9_remember_30 : decode cX9_remember 30 = .ok (.getfield 175, 3) := by decide +kernel
theorem dX9_remember_33 : decode cX9_remember 33 = .ok (.invokevirtual 178, 3) := by decide +kernel
theorem dX9_remember_36 : decode cX9_remember 36 = .ok (.aaload, 1) := by decide +kernel
theorem dX9_remember_37 : decode cX9_remember 37 = .ok (.aload_n 0, 1) := by decide +kernel
theorem dX9_remember_38 : decode cX9_remember 38 = .ok (.getfield 43, 3) := by decide +kernel
theorem dX9_remember_41 : decode cX9_remember 41 = .ok (.invokevirtual 181, 3) := by decide +kernel
theorem dX9_remember_44 : decode cX9_remember 44 = .ok (.aload_n 0, 1) := by decide +kernel
theorem dX9_remember_45 : decode cX9_remember 45 = .ok (.dup, 1) := by decide +kernel
theorem dX9_remember_46 : decode cX9_remember 46 = .ok (.getfield 175, 3) := by decide +kernel
theorem dX9_remember_49 : decode cX9_remember 49 = .ok (.iconst 1, 1) := by decide +kernel
theorem dX9_remember_50 : decode cX9_remember 50 = .ok (.iadd, 1) := by decide +kernel
theorem dX9_remember_51 : decode cX9_remember 51 = .ok (.putfield 175, 3) := by decide +kernel
theorem dX9_remember_54 : decode cX9_remember 54 = .ok (.return_, 1) := by decide +kernel
set_option maxRecDepth 20000 in
theorem ggX9_pastPlace_J9_floorMod_7cf53 : GoodIn wsX9_pastPlace wsJ9_floorMod_7cf53 := goodIn_r _ [5] (by decide +kernel) (by decide +kernel)
set_option maxRecDepth 20000 in
theorem gX9_pastPlace_J9_floorMod_7cf53 : GoodIn wsX9_pastPlace (va_wsS RX9 264 yJ9_floorMod_7cf53 wsJ9_floorMod_7cf53) := goodIn_app (goodIn_of _ (by decide +kernel)) ggX9_pastPlace_J9_floorMod_7cf53
theorem dX9_pastPlace_0 : decode cX9_pastPlace 0 = .ok (.aload_n 0, 1) := by decide +kernel
theorem dX9_pastPlace_1 : decode cX9_pastPlace 1 = .ok (.getfield 261, 3) := by decide +kernel
theorem dX9_pastPlace_4 : decode cX9_pastPlace 4 = .ok (.iload_n 1, 1) := by decide +kernel
theorem dX9_pastPlace_5 : decode cX9_pastPlace 5 = .ok (.iadd, 1) := by decide +kernel
theorem dX9_pastPlace_6 : decode cX9_pastPlace 6 = .ok (.bipush 8, 2) := by decide +kernel
theorem dX9_pastPlace_8 : decode cX9_pastPlace 8 = .ok (.invokestatic 264, 3) := by decide +kernel
theorem dX9_pastPlace_11 : decode cX9_pastPlace 11 = .ok (.ireturn, 1) := by decide +kernel
set_option maxRecDepth 20000 in
theorem ggX9_tryDays_X1_copy : GoodIn wsX9_tryDays wsX1_copy := goodIn_r _ [8, 9, 10, 11, 12, 13, 14, 15, 16, 17, 18, 19, 20, 127, 128, 129, 130, 131, 132, 133, 134, 135, 136, 137, 138] (by decide +kernel) (by decide +kernel)
set_option maxRecDepth 20000 in
theorem gX9_tryDays_X1_copy : GoodIn wsX9_tryDays (wsV RX9 195 RX1 yX1_copy wsX1_copy) := goodIn_app (goodIn_of _ (by decide +kernel)) ggX9_tryDays_X1_copy
set_option maxRecDepth 20000 in
theorem ggX9_tryDays_X9_passTried : GoodIn wsX9_tryDays wsX9_passTried := goodIn_r _ [25, 1, 2, 26, 27, 28, 29, 30, 7, 31, 11, 9, 32, 33, 34, 35, 20, 36, 37, 12, 38, 39, 40, 41, 42, 43, 44, 45, 46, 47, 48, 49, 50, 51, 52, 53, 54, 55, 56, 57, 58, 59, 60, 61, 62, 63, 64, 65, 66, 13, 18, 67, 68, 69, 70, 71, 14, 19, 72, 73, 74, 75, 76, 77, 78, 79, 80, 81, 82, 83, 84, 85, 86, 87, 88, 89, 90, 91, 92, 16, 17, 93, 15, 94, 95, 96, 97, 98, 99, 100, 101, 102, 103, 104, 105, 106, 107, 108, 109, 110, 111, 112, 113, 114, 115, 116, 117, 118, 119, 120, 121, 122, 123, 124, 125, 126, 127, 128, 129, 130, 131, 132, 133, 134, 135, 136, 137, 138, 139, 140, 141, 142, 143, 144] (by decide +kernel) (by decide +kernel)
set_option maxRecDepth 20000 in
theorem gX9_tryDays_X9_passTried : GoodIn wsX9_tryDays (wsV RX9 269 RX9 yX9_passTried wsX9_passTried) := goodIn_app (goodIn_of _ (by decide +kernel)) ggX9_tryDays_X9_passTried
theorem dX9_tryDays_0 : decode cX9_tryDays 0 = .ok (.aload_n 0, 1) := by decide +kernel
theorem dX9_tryDays_1 : decode cX9_tryDays 1 = .ok (.getfield 70, 3) := by decide +kernel
theorem dX9_tryDays_4 : decode cX9_tryDays 4 = .ok (.aload_n 0, 1) := by decide +kernel
theorem dX9_tryDays_5 : decode cX9_tryDays 5 = .ok (.getfield 43, 3) := by decide +kernel
theorem dX9_tryDays_8 : decode cX9_tryDays 8 = .ok (.getfield 118, 3) := by decide +kernel
theorem dX9_tryDays_11 : decode cX9_tryDays 11 = .ok (.iload_n 1, 1) := by decide +kernel
theorem dX9_tryDays_12 : decode cX9_tryDays 12 = .ok (.aaload, 1) := by decide +kernel
theorem dX9_tryDays_13 : decode cX9_tryDays 13 = .ok (.invokevirtual 195, 3) := by decide +kernel
theorem dX9_tryDays_16 : decode cX9_tryDays 16 = .ok (.aload_n 0, 1) := by decide +kernel
theorem dX9_tryDays_17 : decode cX9_tryDays 17 = .ok (.iload_n 2, 1) := by decide +kernel
theorem dX9_tryDays_18 : decode cX9_tryDays 18 = .ok (.invokevirtual 269, 3) := by decide +kernel
theorem dX9_tryDays_21 : decode cX9_tryDays 21 = .ok (.return_, 1) := by decide +kernel
set_option maxRecDepth 20000 in
theorem ggX9_passTried_X1_pass : GoodIn wsX9_passTried wsX1_pass := goodIn_r _ [9, 10, 11, 12, 13, 14, 15, 16, 17, 18, 19, 20, 21, 22, 23, 24, 25, 26, 27, 28, 29, 30, 31, 32, 33, 34, 35, 36, 37, 38, 39, 40, 41, 42, 43, 44, 45, 46, 47, 8, 48, 49, 50, 51, 52, 53, 54, 55, 56, 57, 58, 59, 60, 61, 62, 63, 64, 65, 66, 67, 68, 69, 70, 71, 72, 73, 74, 75, 76, 77, 78, 79, 80, 81, 82, 83, 84, 85, 86, 87, 88, 89, 90, 91, 92, 93, 94, 95, 96, 116, 117, 118, 119, 120, 121, 122, 123, 124, 125, 126, 127, 128, 129, 130, 131, 132, 133] (by decide +kernel) (by decide +kernel)
set_option maxRecDepth 20000 in
theorem gX9_passTried_X1_pass : GoodIn wsX9_passTried (wsV RX9 198 RX1 yX1_pass wsX1_pass) := goodIn_app (goodIn_of _ (by decide +kernel)) ggX9_passTried_X1_pass
theorem dX9_passTried_0 : decode cX9_passTried 0 = .ok (.iconst 0, 1) := by decide +kernel
theorem dX9_passTried_1 : decode cX9_passTried 1 = .ok (.istore_n 2, 1) := by decide +kernel
theorem dX9_passTried_2 : decode cX9_passTried 2 = .ok (.iload_n 2, 1) := by decide +kernel
theorem dX9_passTried_3 : decode cX9_passTried 3 = .ok (.iload_n 1, 1) := by decide +kernel
theorem dX9_passTried_4 : decode cX9_passTried 4 = .ok (.if_icmp .ge 33, 3) := by decide +kernel
theorem dX9_passTried_7 : decode cX9_passTried 7 = .ok (.aload_n 0, 1) := by decide +kernel
theorem dX9_passTried_8 : decode cX9_passTried 8 = .ok (.getfield 70, 3) := by decide +kernel
theorem dX9_passTried_11 : decode cX9_passTried 11 = .ok (.aload_n 0, 1) := by decide +kernel
theorem dX9_passTried_12 : decode cX9_passTried 12 = .ok (.getfield 43, 3) := by decide +kernel
theorem dX9_passTried_15 : decode cX9_passTried 15 = .ok (.getfield 133, 3) := by decide +kernel
theorem dX9_passTried_18 : decode cX9_passTried 18 = .ok (.iload_n 2, 1) := by decide +kernel
theorem dX9_passTried_19 : decode cX9_passTried 19 = .ok (.iadd, 1) := by decide +kernel
theorem dX9_passTried_20 : decode cX9_passTried 20 = .ok (.aload_n 0, 1) := by decide +kernel
theorem dX9_passTried_21 : decode cX9_passTried 21 = .ok (.getfield 43, 3) := by decide +kernel
theorem dX9_passTried_24 : decode cX9_passTried 24 = .ok (.getfield 140, 3) := by decide +kernel
theorem dX9_passTried_27 : decode cX9_passTried 27 = .ok (.invokevirtual 198, 3) := by decide +kernel
theorem dX9_passTried_30 : decode cX9_passTried 30 = .ok (.pop, 1) := by decide +kernel
theorem dX9_passTried_31 : decode cX9_passTried 31 = .ok (.iinc 2 1, 3) := by decide +kernel
theorem dX9_passTried_34 : decode cX9_passTried 34 = .ok (.goto (-32), 3) := by decide +kernel
theorem dX9_passTried_37 : decode cX9_passTried 37 = .ok (.return_, 1) := by decide +kernel
set_option maxRecDepth 20000 in
theorem ggX9_claimedIfKissed_X1_copy : GoodIn wsX9_claimedIfKissed wsX1_copy := goodIn_r _ [11, 12, 13, 14, 15, 16, 17, 18, 19, 20, 21, 22, 23, 127, 128, 129, 130, 131, 132, 133, 134, 135, 136, 137, 138] (by decide +kernel) (by decide +kernel)
set_option maxRecDepth 20000 in
theorem gX9_claimedIfKissed_X1_copy : GoodIn wsX9_claimedIfKissed (wsV RX9 195 RX1 yX1_copy wsX1_copy) := goodIn_app (goodIn_of _ (by decide +kernel)) ggX9_claimedIfKissed_X1_copy
set_option maxRecDepth 20000 in
theorem ggX9_claimedIfKissed_X1_beKissed : GoodIn wsX9_claimedIfKissed wsX1_beKissed := goodIn_r _ [27, 14, 15, 16, 127, 128, 129, 130, 131, 132, 133, 134, 135, 136, 137, 138] (by decide +kernel) (by decide +kernel)
set_option maxRecDepth 20000 in
theorem gX9_claimedIfKissed_X1_beKissed : GoodIn wsX9_claimedIfKissed (wsV RX9 156 RX1 yX1_beKissed wsX1_beKissed) := goodIn_app (goodIn_of _ (by decide +kernel)) ggX9_claimedIfKissed_X1_beKissed
set_option maxRecDepth 20000 in
theorem ggX9_claimedIfKissed_X1_pass : GoodIn wsX9_claimedIfKissed wsX1_pass := goodIn_r _ [31, 14, 12, 32, 33, 34, 35, 23, 36, 37, 15, 38, 39, 40, 41, 42, 43, 44, 45, 46, 47, 48, 49, 50, 51, 52, 53, 54, 55, 56, 57, 58, 59, 60, 61, 62, 63, 64, 65, 10, 66, 16, 21, 67, 68, 69, 70, 71, 17, 22, 72, 73, 74, 75, 76, 77, 78, 79, 80, 81, 82, 83, 84, 85, 86, 87, 88, 89, 90, 91, 92, 19, 20, 93, 18, 94, 95, 96, 97, 98, 99, 100, 101, 102, 103, 104, 105, 106, 107, 127, 128, 129, 130, 131, 132, 133, 134, 135, 136, 137, 138, 139, 140, 141, 142, 143, 144] (by decide +kernel) (by decide +kernel)
set_option maxRecDepth 20000 in
theorem gX9_claimedIfKissed_X1_pass : GoodIn wsX9_claimedIfKissed (wsV RX9 198 RX1 yX1_pass wsX1_pass) := goodIn_app (goodIn_of _ (by decide +kernel)) ggX9_claimedIfKissed_X1_pass
theorem dX9_claimedIfKissed_0 : decode cX9_claimedIfKissed 0 = .ok (.aload_n 0, 1) := by decide +kernel
theorem dX9_claimedIfKissed_1 : decode cX9_claimedIfKissed 1 = .ok (.getfield 70, 3) := by decide +kernel
theorem dX9_claimedIfKissed_4 : decode cX9_claimedIfKissed 4 = .ok (.aload_n 0, 1) := by decide +kernel
theorem dX9_claimedIfKissed_5 : decode cX9_claimedIfKissed 5 = .ok (.getfield 43, 3) := by decide +kernel
theorem dX9_claimedIfKissed_8 : decode cX9_claimedIfKissed 8 = .ok (.getfield 118, 3) := by decide +kernel
theorem dX9_claimedIfKissed_11 : decode cX9_claimedIfKissed 11 = .ok (.iload_n 1, 1) := by decide +kernel
theorem dX9_claimedIfKissed_12 : decode cX9_claimedIfKissed 12 = .ok (.aaload, 1) := by decide +kernel
theorem dX9_claimedIfKissed_13 : decode cX9_claimedIfKissed 13 = .ok (.invokevirtual 195, 3) := by decide +kernel
theorem dX9_claimedIfKissed_16 : decode cX9_claimedIfKissed 16 = .ok (.iconst 0, 1) := by decide +kernel
theorem dX9_claimedIfKissed_17 : decode cX9_claimedIfKissed 17 = .ok (.istore 4, 2) := by decide +kernel
theorem dX9_claimedIfKissed_19 : decode cX9_claimedIfKissed 19 = .ok (.iload 4, 2) := by decide +kernel
theorem dX9_claimedIfKissed_21 : decode cX9_claimedIfKissed 21 = .ok (.iload_n 2, 1) := by decide +kernel
theorem dX9_claimedIfKissed_22 : decode cX9_claimedIfKissed 22 = .ok (.if_icmp .ge 47, 3) := by decide +kernel
theorem dX9_claimedIfKissed_25 : decode cX9_claimedIfKissed 25 = .ok (.iload 4, 2) := by decide +kernel
theorem dX9_claimedIfKissed_27 : decode cX9_claimedIfKissed 27 = .ok (.iload_n 3, 1) := by decide +kernel
theorem dX9_claimedIfKissed_28 : decode cX9_claimedIfKissed 28 = .ok (.if_icmp .ne 10, 3) := by decide +kernel
theorem dX9_claimedIfKissed_31 : decode cX9_claimedIfKissed 31 = .ok (.aload_n 0, 1) := by decide +kernel
theorem dX9_claimedIfKissed_32 : decode cX9_claimedIfKissed 32 = .ok (.getfield 70, 3) := by decide +kernel
theorem dX9_claimedIfKissed_35 : decode cX9_claimedIfKissed 35 = .ok (.invokevirtual 156, 3) := by decide +kernel
theorem dX9_claimedIfKissed_38 : decode cX9_claimedIfKissed 38 = .ok (.aload_n 0, 1) := by decide +kernel
theorem dX9_claimedIfKissed_39 : decode cX9_claimedIfKissed 39 = .ok (.getfield 70, 3) := by decide +kernel
theorem dX9_claimedIfKissed_42 : decode cX9_claimedIfKissed 42 = .ok (.aload_n 0, 1) := by decide +kernel
theorem dX9_claimedIfKissed_43 : decode cX9_claimedIfKissed 43 = .ok (.getfield 43, 3) := by decide +kernel
theorem dX9_claimedIfKissed_46 : decode cX9_claimedIfKissed 46 = .ok (.getfield 133, 3) := by decide +kernel
theorem dX9_claimedIfKissed_49 : decode cX9_claimedIfKissed 49 = .ok (.iload 4, 2) := by decide +kernel
theorem dX9_claimedIfKissed_51 : decode cX9_claimedIfKissed 51 = .ok (.iadd, 1) := by decide +kernel
theorem dX9_claimedIfKissed_52 : decode cX9_claimedIfKissed 52 = .ok (.aload_n 0, 1) := by decide +kernel
theorem dX9_claimedIfKissed_53 : decode cX9_claimedIfKissed 53 = .ok (.getfield 43, 3) := by decide +kernel
theorem dX9_claimedIfKissed_56 : decode cX9_claimedIfKissed 56 = .ok (.getfield 140, 3) := by decide +kernel
theorem dX9_claimedIfKissed_59 : decode cX9_claimedIfKissed 59 = .ok (.invokevirtual 198, 3) := by decide +kernel
theorem dX9_claimedIfKissed_62 : decode cX9_claimedIfKissed 62 = .ok (.pop, 1) := by decide +kernel
theorem dX9_claimedIfKissed_63 : decode cX9_claimedIfKissed 63 = .ok (.iinc 4 1, 3) := by decide +kernel
theorem dX9_claimedIfKissed_66 : decode cX9_claimedIfKissed 66 = .ok (.goto (-47), 3) := by decide +kernel
theorem dX9_claimedIfKissed_69 : decode cX9_claimedIfKissed 69 = .ok (.aload_n 0, 1) := by decide +kernel
theorem dX9_claimedIfKissed_70 : decode cX9_claimedIfKissed 70 = .ok (.getfield 70, 3) := by decide +kernel
theorem dX9_claimedIfKissed_73 : decode cX9_claimedIfKissed 73 = .ok (.getfield 191, 3) := by decide +kernel
theorem dX9_claimedIfKissed_76 : decode cX9_claimedIfKissed 76 = .ok (.ireturn, 1) := by decide +kernel
set_option maxRecDepth 20000 in
theorem ggX9_foreseeBreaks_X1_copy : GoodIn wsX9_foreseeBreaks wsX1_copy := goodIn_r _ [12, 13, 14, 15, 16, 17, 18, 19, 20, 21, 22, 23, 24, 124, 125, 126, 127, 128, 129, 130, 131, 132, 133, 134, 135] (by decide +kernel) (by decide +kernel)
set_option maxRecDepth 20000 in
theorem gX9_foreseeBreaks_X1_copy : GoodIn wsX9_foreseeBreaks (wsV RX9 195 RX1 yX1_copy wsX1_copy) := goodIn_app (goodIn_of _ (by decide +kernel)) ggX9_foreseeBreaks_X1_copy
set_option maxRecDepth 20000 in
theorem ggX9_foreseeBreaks_X1_pass : GoodIn wsX9_foreseeBreaks wsX1_pass := goodIn_r _ [28, 15, 13, 29, 30, 31, 32, 24, 33, 34, 16, 35, 36, 37, 38, 39, 40, 41, 42, 43, 44, 45, 46, 47, 48, 49, 50, 51, 52, 53, 54, 55, 56, 57, 58, 59, 60, 61, 62, 11, 63, 17, 22, 64, 65, 66, 67, 68, 18, 23, 69, 70, 71, 72, 73, 74, 75, 76, 77, 78, 79, 80, 81, 82, 83, 84, 85, 86, 87, 88, 89, 20, 21, 90, 19, 91, 92, 93, 94, 95, 96, 97, 98, 99, 100, 101, 102, 103, 104, 124, 125, 126, 127, 128, 129, 130, 131, 132, 133, 134, 135, 136, 137, 138, 139, 140, 141] (by decide +kernel) (by decide +kernel)
set_option maxRecDepth 20000 in
theorem gX9_foreseeBreaks_X1_pass : GoodIn wsX9_foreseeBreaks (wsV RX9 198 RX1 yX1_pass wsX1_pass) := goodIn_app (goodIn_of _ (by decide +kernel)) ggX9_foreseeBreaks_X1_pass
theorem dX9_foreseeBreaks_0 : decode cX9_foreseeBreaks 0 = .ok (.iconst 0, 1) := by decide +kernel
theorem dX9_foreseeBreaks_1 : decode cX9_foreseeBreaks 1 = .ok (.istore_n 2, 1) := by decide +kernel
theorem dX9_foreseeBreaks_2 : decode cX9_foreseeBreaks 2 = .ok (.iload_n 2, 1) := by decide +kernel
theorem dX9_foreseeBreaks_3 : decode cX9_foreseeBreaks 3 = .ok (.iload_n 1, 1) := by decide +kernel
theorem dX9_foreseeBreaks_4 : decode cX9_foreseeBreaks 4 = .ok (.if_icmp .ge 22, 3) := by decide +kernel
theorem dX9_foreseeBreaks_7 : decode cX9_foreseeBreaks 7 = .ok (.iload_n 2, 1) := by decide +kernel
theorem dX9_foreseeBreaks_8 : decode cX9_foreseeBreaks 8 = .ok (.bipush 60, 2) := by decide +kernel
theorem dX9_foreseeBreaks_10 : decode cX9_foreseeBreaks 10 = .ok (.if_icmp .ge 16, 3) := by decide +kernel
theorem dX9_foreseeBreaks_13 : decode cX9_foreseeBreaks 13 = .ok (.aload_n 0, 1) := by decide +kernel
theorem dX9_foreseeBreaks_14 : decode cX9_foreseeBreaks 14 = .ok (.getfield 74, 3) := by decide +kernel
theorem dX9_foreseeBreaks_17 : decode cX9_foreseeBreaks 17 = .ok (.iload_n 2, 1) := by decide +kernel
theorem dX9_foreseeBreaks_18 : decode cX9_foreseeBreaks 18 = .ok (.iconst 0, 1) := by decide +kernel
theorem dX9_foreseeBreaks_19 : decode cX9_foreseeBreaks 19 = .ok (.iastore, 1) := by decide +kernel
theorem dX9_foreseeBreaks_20 : decode cX9_foreseeBreaks 20 = .ok (.iinc 2 1, 3) := by decide +kernel
theorem dX9_foreseeBreaks_23 : decode cX9_foreseeBreaks 23 = .ok (.goto (-21), 3) := by decide +kernel
theorem dX9_foreseeBreaks_26 : decode cX9_foreseeBreaks 26 = .ok (.iconst 0, 1) := by decide +kernel
theorem dX9_foreseeBreaks_27 : decode cX9_foreseeBreaks 27 = .ok (.istore_n 2, 1) := by decide +kernel
theorem dX9_foreseeBreaks_28 : decode cX9_foreseeBreaks 28 = .ok (.iload_n 2, 1) := by decide +kernel
theorem dX9_foreseeBreaks_29 : decode cX9_foreseeBreaks 29 = .ok (.aload_n 0, 1) := by decide +kernel
theorem dX9_foreseeBreaks_30 : decode cX9_foreseeBreaks 30 = .ok (.getfield 43, 3) := by decide +kernel
theorem dX9_foreseeBreaks_33 : decode cX9_foreseeBreaks 33 = .ok (.getfield 89, 3) := by decide +kernel
theorem dX9_foreseeBreaks_36 : decode cX9_foreseeBreaks 36 = .ok (.if_icmp .ge 88, 3) := by decide +kernel
theorem dX9_foreseeBreaks_39 : decode cX9_foreseeBreaks 39 = .ok (.iload_n 2, 1) := by decide +kernel
theorem dX9_foreseeBreaks_40 : decode cX9_foreseeBreaks 40 = .ok (.bipush 6, 2) := by decide +kernel
theorem dX9_foreseeBreaks_42 : decode cX9_foreseeBreaks 42 = .ok (.if_icmp .ge 82, 3) := by decide +kernel
theorem dX9_foreseeBreaks_45 : decode cX9_foreseeBreaks 45 = .ok (.aload_n 0, 1) := by decide +kernel
theorem dX9_foreseeBreaks_46 : decode cX9_foreseeBreaks 46 = .ok (.getfield 70, 3) := by decide +kernel
theorem dX9_foreseeBreaks_49 : decode cX9_foreseeBreaks 49 = .ok (.aload_n 0, 1) := by decide +kernel
theorem dX9_foreseeBreaks_50 : decode cX9_foreseeBreaks 50 = .ok (.getfield 43, 3) := by decide +kernel
theorem dX9_foreseeBreaks_53 : decode cX9_foreseeBreaks 53 = .ok (.getfield 118, 3) := by decide +kernel
theorem dX9_foreseeBreaks_56 : decode cX9_foreseeBreaks 56 = .ok (.iload_n 2, 1) := by decide +kernel
theorem dX9_foreseeBreaks_57 : decode cX9_foreseeBreaks 57 = .ok (.aaload, 1) := by decide +kernel
theorem dX9_foreseeBreaks_58 : decode cX9_foreseeBreaks 58 = .ok (.invokevirtual 195, 3) := by decide +kernel
theorem dX9_foreseeBreaks_61 : decode cX9_foreseeBreaks 61 = .ok (.iconst 0, 1) := by decide +kernel
theorem dX9_foreseeBreaks_62 : decode cX9_foreseeBreaks 62 = .ok (.istore_n 3, 1) := by decide +kernel
theorem dX9_foreseeBreaks_63 : decode cX9_foreseeBreaks 63 = .ok (.iload_n 3, 1) := by decide +kernel
theorem dX9_foreseeBreaks_64 : decode cX9_foreseeBreaks 64 = .ok (.iload_n 1, 1) := by decide +kernel
theorem dX9_foreseeBreaks_65 : decode cX9_foreseeBreaks 65 = .ok (.if_icmp .ge 53, 3) := by decide +kernel
theorem dX9_foreseeBreaks_68 : decode cX9_foreseeBreaks 68 = .ok (.iload_n 3, 1) := by decide +kernel
theorem dX9_foreseeBreaks_69 : decode cX9_foreseeBreaks 69 = .ok (.bipush 60, 2) := by decide +kernel
theorem dX9_foreseeBreaks_71 : decode cX9_foreseeBreaks 71 = .ok (.if_icmp .ge 47, 3) := by decide +kernel
theorem dX9_foreseeBreaks_74 : decode cX9_foreseeBreaks 74 = .ok (.aload_n 0, 1) := by decide +kernel
theorem dX9_foreseeBreaks_75 : decode cX9_foreseeBreaks 75 = .ok (.getfield 70, 3) := by decide +kernel
theorem dX9_foreseeBreaks_78 : decode cX9_foreseeBreaks 78 = .ok (.aload_n 0, 1) := by decide +kernel
theorem dX9_foreseeBreaks_79 : decode cX9_foreseeBreaks 79 = .ok (.getfield 43, 3) := by decide +kernel
theorem dX9_foreseeBreaks_82 : decode cX9_foreseeBreaks 82 = .ok (.getfield 133, 3) := by decide +kernel
theorem dX9_foreseeBreaks_85 : decode cX9_foreseeBreaks 85 = .ok (.iload_n 3, 1) := by decide +kernel
theorem dX9_foreseeBreaks_86 : decode cX9_foreseeBreaks 86 = .ok (.iadd, 1) := by decide +kernel
theorem dX9_foreseeBreaks_87 : decode cX9_foreseeBreaks 87 = .ok (.aload_n 0, 1) := by decide +kernel
theorem dX9_foreseeBreaks_88 : decode cX9_foreseeBreaks 88 = .ok (.getfield 43, 3) := by decide +kernel
theorem dX9_foreseeBreaks_91 : decode cX9_foreseeBreaks 91 = .ok (.getfield 140, 3) := by decide +kernel
theorem dX9_foreseeBreaks_94 : decode cX9_foreseeBreaks 94 = .ok (.invokevirtual 198, 3) := by decide +kernel
theorem dX9_foreseeBreaks_97 : decode cX9_foreseeBreaks 97 = .ok (.ifCond .eq 15, 3) := by decide +kernel
theorem dX9_foreseeBreaks_100 : decode cX9_foreseeBreaks 100 = .ok (.aload_n 0, 1) := by decide +kernel
theorem dX9_foreseeBreaks_101 : decode cX9_foreseeBreaks 101 = .ok (.getfield 74, 3) := by decide +kernel
theorem dX9_foreseeBreaks_104 : decode cX9_foreseeBreaks 104 = .ok (.iload_n 3, 1) := by decide +kernel
theorem dX9_foreseeBreaks_105 : decode cX9_foreseeBreaks 105 = .ok (.dup2, 1) := by decide +kernel
theorem dX9_foreseeBreaks_106 : decode cX9_foreseeBreaks 106 = .ok (.iaload, 1) := by decide +kernel
theorem dX9_foreseeBreaks_107 : decode cX9_foreseeBreaks 107 = .ok (.iconst 1, 1) := by decide +kernel
theorem dX9_foreseeBreaks_108 : decode cX9_foreseeBreaks 108 = .ok (.iload_n 2, 1) := by decide +kernel
theorem dX9_foreseeBreaks_109 : decode cX9_foreseeBreaks 109 = .ok (.ishl, 1) := by decide +kernel
theorem dX9_foreseeBreaks_110 : decode cX9_foreseeBreaks 110 = .ok (.ior, 1) := by decide +kernel
theorem dX9_foreseeBreaks_111 : decode cX9_foreseeBreaks 111 = .ok (.iastore, 1) := by decide +kernel
theorem dX9_foreseeBreaks_112 : decode cX9_foreseeBreaks 112 = .ok (.iinc 3 1, 3) := by decide +kernel
theorem dX9_foreseeBreaks_115 : decode cX9_foreseeBreaks 115 = .ok (.goto (-52), 3) := by decide +kernel
theorem dX9_foreseeBreaks_118 : decode cX9_foreseeBreaks 118 = .ok (.iinc 2 1, 3) := by decide +kernel
theorem dX9_foreseeBreaks_121 : decode cX9_foreseeBreaks 121 = .ok (.goto (-93), 3) := by decide +kernel
theorem dX9_foreseeBreaks_124 : decode cX9_foreseeBreaks 124 = .ok (.return_, 1) := by decide +kernel
set_option maxRecDepth 20000 in
theorem ggX9_mostAtOnce_J6_bitCount_0f7a4 : GoodIn wsX9_mostAtOnce wsJ6_bitCount_0f7a4 := goodIn_r _ [9, 10, 11, 12] (by decide +kernel) (by decide +kernel)
set_option maxRecDepth 20000 in
theorem gX9_mostAtOnce_J6_bitCount_0f7a4 : GoodIn wsX9_mostAtOnce (va_wsS RX9 215 yJ6_bitCount_0f7a4 wsJ6_bitCount_0f7a4) := goodIn_app (goodIn_of _ (by decide +kernel)) ggX9_mostAtOnce_J6_bitCount_0f7a4
theorem dX9_mostAtOnce_0 : decode cX9_mostAtOnce 0 = .ok (.iconst 0, 1) := by decide +kernel
theorem dX9_mostAtOnce_1 : decode cX9_mostAtOnce 1 = .ok (.istore_n 3, 1) := by decide +kernel
theorem dX9_mostAtOnce_2 : decode cX9_mostAtOnce 2 = .ok (.iconst 0, 1) := by decide +kernel
theorem dX9_mostAtOnce_3 : decode cX9_mostAtOnce 3 = .ok (.istore 4, 2) := by decide +kernel
theorem dX9_mostAtOnce_5 : decode cX9_mostAtOnce 5 = .ok (.iload 4, 2) := by decide +kernel
theorem dX9_mostAtOnce_7 : decode cX9_mostAtOnce 7 = .ok (.iload_n 2, 1) := by decide +kernel
theorem dX9_mostAtOnce_8 : decode cX9_mostAtOnce 8 = .ok (.if_icmp .ge 33, 3) := by decide +kernel
theorem dX9_mostAtOnce_11 : decode cX9_mostAtOnce 11 = .ok (.iload 4, 2) := by decide +kernel
theorem dX9_mostAtOnce_13 : decode cX9_mostAtOnce 13 = .ok (.bipush 60, 2) := by decide +kernel
theorem dX9_mostAtOnce_15 : decode cX9_mostAtOnce 15 = .ok (.if_icmp .ge 26, 3) := by decide +kernel
theorem dX9_mostAtOnce_18 : decode cX9_mostAtOnce 18 = .ok (.iload_n 3, 1) := by decide +kernel
theorem dX9_mostAtOnce_19 : decode cX9_mostAtOnce 19 = .ok (.aload_n 0, 1) := by decide +kernel
theorem dX9_mostAtOnce_20 : decode cX9_mostAtOnce 20 = .ok (.getfield 74, 3) := by decide +kernel
theorem dX9_mostAtOnce_23 : decode cX9_mostAtOnce 23 = .ok (.iload 4, 2) := by decide +kernel
theorem dX9_mostAtOnce_25 : decode cX9_mostAtOnce 25 = .ok (.iaload, 1) := by decide +kernel
theorem dX9_mostAtOnce_26 : decode cX9_mostAtOnce 26 = .ok (.iload_n 1, 1) := by decide +kernel
theorem dX9_mostAtOnce_27 : decode cX9_mostAtOnce 27 = .ok (.iand, 1) := by decide +kernel
theorem dX9_mostAtOnce_28 : decode cX9_mostAtOnce 28 = .ok (.invokestatic 215, 3) := by decide +kernel
theorem dX9_mostAtOnce_31 : decode cX9_mostAtOnce 31 = .ok (.invokestatic 272, 3) := by decide +kernel
theorem dX9_mostAtOnce_34 : decode cX9_mostAtOnce 34 = .ok (.istore_n 3, 1) := by decide +kernel
theorem dX9_mostAtOnce_35 : decode cX9_mostAtOnce 35 = .ok (.iinc 4 1, 3) := by decide +kernel
theorem dX9_mostAtOnce_38 : decode cX9_mostAtOnce 38 = .ok (.goto (-33), 3) := by decide +kernel
theorem dX9_mostAtOnce_41 : decode cX9_mostAtOnce 41 = .ok (.iload_n 3, 1) := by decide +kernel
theorem dX9_mostAtOnce_42 : decode cX9_mostAtOnce 42 = .ok (.ireturn, 1) := by decide +kernel
set_option maxRecDepth 20000 in
theorem ggX9_fitsAllSeen_X9_fits : GoodIn wsX9_fitsAllSeen wsX9_fits := goodIn_r _ [9, 10, 11, 12, 13, 14, 15, 16, 17, 18, 19, 20, 21, 22, 23, 24, 25, 26, 27, 28, 29, 30, 31, 32, 33, 34, 8, 35, 36, 37, 38, 39, 40, 41, 42, 43, 44, 45, 46, 47, 48, 49, 50, 51, 52, 53, 54, 55, 56, 57, 58, 59, 60, 61, 62, 63, 64, 65, 66, 67, 68, 69, 70, 71, 72, 73, 74, 75, 76, 77, 78, 79, 80, 81, 82, 83, 84, 85, 86, 87, 88, 89, 90, 91, 92, 93, 94, 95, 96, 97, 98, 99, 100, 101, 102, 103, 104, 105, 106, 107, 108, 109, 110, 111, 112, 113, 114, 115, 116, 117, 118, 119, 120, 121, 122, 123, 124, 125, 126, 127, 128, 129, 130, 131, 132, 133, 134, 135, 136, 137, 138, 139, 140, 141, 142, 143, 144, 145, 146, 147, 148, 149, 150, 151, 152, 153, 154] (by decide +kernel) (by decide +kernel)
set_option maxRecDepth 20000 in
theorem gX9_fitsAllSeen_X9_fits : GoodIn wsX9_fitsAllSeen (wsV RX9 275 RX9 yX9_fits wsX9_fits) := goodIn_app (goodIn_of _ (by decide +kernel)) ggX9_fitsAllSeen_X9_fits
theorem dX9_fitsAllSeen_0 : decode cX9_fitsAllSeen 0 = .ok (.iconst 0, 1) := by decide +kernel
theorem dX9_fitsAllSeen_1 : decode cX9_fitsAllSeen 1 = .ok (.istore_n 3, 1) := by decide +kernel
theorem dX9_fitsAllSeen_2 : decode cX9_fitsAllSeen 2 = .ok (.iload_n 3, 1) := by decide +kernel
theorem dX9_fitsAllSeen_3 : decode cX9_fitsAllSeen 3 = .ok (.aload_n 0, 1) := by decide +kernel
theorem dX9_fitsAllSeen_4 : decode cX9_fitsAllSeen 4 = .ok (.getfield 224, 3) := by decide +kernel
theorem dX9_fitsAllSeen_7 : decode cX9_fitsAllSeen 7 = .ok (.if_icmp .ge 48, 3) := by decide +kernel
theorem dX9_fitsAllSeen_10 : decode cX9_fitsAllSeen 10 = .ok (.iload_n 3, 1) := by decide +kernel
theorem dX9_fitsAllSeen_11 : decode cX9_fitsAllSeen 11 = .ok (.bipush 6, 2) := by decide +kernel
theorem dX9_fitsAllSeen_13 : decode cX9_fitsAllSeen 13 = .ok (.if_icmp .ge 42, 3) := by decide +kernel
theorem dX9_fitsAllSeen_16 : decode cX9_fitsAllSeen 16 = .ok (.aload_n 0, 1) := by decide +kernel
theorem dX9_fitsAllSeen_17 : decode cX9_fitsAllSeen 17 = .ok (.getfield 57, 3) := by decide +kernel
theorem dX9_fitsAllSeen_20 : decode cX9_fitsAllSeen 20 = .ok (.iload_n 3, 1) := by decide +kernel
theorem dX9_fitsAllSeen_21 : decode cX9_fitsAllSeen 21 = .ok (.iaload, 1) := by decide +kernel
theorem dX9_fitsAllSeen_22 : decode cX9_fitsAllSeen 22 = .ok (.iload_n 1, 1) := by decide +kernel
theorem dX9_fitsAllSeen_23 : decode cX9_fitsAllSeen 23 = .ok (.if_icmp .ne 26, 3) := by decide +kernel
theorem dX9_fitsAllSeen_26 : decode cX9_fitsAllSeen 26 = .ok (.aload_n 0, 1) := by decide +kernel
theorem dX9_fitsAllSeen_27 : decode cX9_fitsAllSeen 27 = .ok (.iload_n 1, 1) := by decide +kernel
theorem dX9_fitsAllSeen_28 : decode cX9_fitsAllSeen 28 = .ok (.iload_n 2, 1) := by decide +kernel
theorem dX9_fitsAllSeen_29 : decode cX9_fitsAllSeen 29 = .ok (.aload_n 0, 1) := by decide +kernel
theorem dX9_fitsAllSeen_30 : decode cX9_fitsAllSeen 30 = .ok (.getfield 61, 3) := by decide +kernel
theorem dX9_fitsAllSeen_33 : decode cX9_fitsAllSeen 33 = .ok (.iload_n 3, 1) := by decide +kernel
theorem dX9_fitsAllSeen_34 : decode cX9_fitsAllSeen 34 = .ok (.iaload, 1) := by decide +kernel
theorem dX9_fitsAllSeen_35 : decode cX9_fitsAllSeen 35 = .ok (.aload_n 0, 1) := by decide +kernel
theorem dX9_fitsAllSeen_36 : decode cX9_fitsAllSeen 36 = .ok (.getfield 64, 3) := by decide +kernel
theorem dX9_fitsAllSeen_39 : decode cX9_fitsAllSeen 39 = .ok (.iload_n 3, 1) := by decide +kernel
theorem dX9_fitsAllSeen_40 : decode cX9_fitsAllSeen 40 = .ok (.iaload, 1) := by decide +kernel
theorem dX9_fitsAllSeen_41 : decode cX9_fitsAllSeen 41 = .ok (.invokevirtual 275, 3) := by decide +kernel
theorem dX9_fitsAllSeen_44 : decode cX9_fitsAllSeen 44 = .ok (.ifCond .ne 5, 3) := by decide +kernel
theorem dX9_fitsAllSeen_47 : decode cX9_fitsAllSeen 47 = .ok (.iconst 0, 1) := by decide +kernel
theorem dX9_fitsAllSeen_48 : decode cX9_fitsAllSeen 48 = .ok (.ireturn, 1) := by decide +kernel
theorem dX9_fitsAllSeen_49 : decode cX9_fitsAllSeen 49 = .ok (.iinc 3 1, 3) := by decide +kernel
theorem dX9_fitsAllSeen_52 : decode cX9_fitsAllSeen 52 = .ok (.goto (-50), 3) := by decide +kernel
theorem dX9_fitsAllSeen_55 : decode cX9_fitsAllSeen 55 = .ok (.iconst 1, 1) := by decide +kernel
theorem dX9_fitsAllSeen_56 : decode cX9_fitsAllSeen 56 = .ok (.ireturn, 1) := by decide +kernel
set_option maxRecDepth 20000 in
theorem ggX9_fits_X1_copy : GoodIn wsX9_fits wsX1_copy := goodIn_r _ [10, 11, 12, 13, 14, 15, 16, 17, 18, 19, 20, 21, 22, 129, 130, 131, 132, 133, 134, 135, 136, 137, 138, 139, 140] (by decide +kernel) (by decide +kernel)
set_option maxRecDepth 20000 in
theorem gX9_fits_X1_copy : GoodIn wsX9_fits (wsV RX9 195 RX1 yX1_copy wsX1_copy) := goodIn_app (goodIn_of _ (by decide +kernel)) ggX9_fits_X1_copy
set_option maxRecDepth 20000 in
theorem ggX9_fits_X9_passTried : GoodIn wsX9_fits wsX9_passTried := goodIn_r _ [27, 1, 2, 28, 29, 30, 31, 32, 9, 33, 13, 11, 34, 35, 36, 37, 22, 38, 39, 14, 40, 41, 42, 43, 44, 45, 46, 47, 48, 49, 50, 51, 52, 53, 54, 55, 56, 57, 58, 59, 60, 61, 62, 63, 64, 65, 66, 67, 68, 15, 20, 69, 70, 71, 72, 73, 16, 21, 74, 75, 76, 77, 78, 79, 80, 81, 82, 83, 84, 85, 86, 87, 88, 89, 90, 91, 92, 93, 94, 18, 19, 95, 17, 96, 97, 98, 99, 100, 101, 102, 103, 104, 105, 106, 107, 108, 109, 110, 111, 112, 113, 114, 115, 116, 117, 118, 119, 120, 121, 122, 123, 124, 125, 126, 127, 128, 129, 130, 131, 132, 133, 134, 135, 136, 137, 138, 139, 140, 141, 142, 143, 144, 145, 146] (by decide +kernel) (by decide +kernel)
set_option maxRecDepth 20000 in
theorem gX9_fits_X9_passTried : GoodIn wsX9_fits (wsV RX9 269 RX9 yX9_passTried wsX9_passTried) := goodIn_app (goodIn_of _ (by decide +kernel)) ggX9_fits_X9_passTried
theorem dX9_fits_0 : decode cX9_fits 0 = .ok (.aload_n 0, 1) := by decide +kernel
theorem dX9_fits_1 : decode cX9_fits 1 = .ok (.getfield 70, 3) := by decide +kernel
theorem dX9_fits_4 : decode cX9_fits 4 = .ok (.aload_n 0, 1) := by decide +kernel
theorem dX9_fits_5 : decode cX9_fits 5 = .ok (.getfield 43, 3) := by decide +kernel
theorem dX9_fits_8 : decode cX9_fits 8 = .ok (.getfield 118, 3) := by decide +kernel
theorem dX9_fits_11 : decode cX9_fits 11 = .ok (.iload_n 1, 1) := by decide +kernel
theorem dX9_fits_12 : decode cX9_fits 12 = .ok (.aaload, 1) := by decide +kernel
theorem dX9_fits_13 : decode cX9_fits 13 = .ok (.invokevirtual 195, 3) := by decide +kernel
theorem dX9_fits_16 : decode cX9_fits 16 = .ok (.aload_n 0, 1) := by decide +kernel
theorem dX9_fits_17 : decode cX9_fits 17 = .ok (.getfield 70, 3) := by decide +kernel
theorem dX9_fits_20 : decode cX9_fits 20 = .ok (.iload_n 2, 1) := by decide +kernel
theorem dX9_fits_21 : decode cX9_fits 21 = .ok (.putfield 279, 3) := by decide +kernel
theorem dX9_fits_24 : decode cX9_fits 24 = .ok (.aload_n 0, 1) := by decide +kernel
theorem dX9_fits_25 : decode cX9_fits 25 = .ok (.iload_n 3, 1) := by decide +kernel
theorem dX9_fits_26 : decode cX9_fits 26 = .ok (.invokevirtual 269, 3) := by decide +kernel
theorem dX9_fits_29 : decode cX9_fits 29 = .ok (.aload_n 0, 1) := by decide +kernel
theorem dX9_fits_30 : decode cX9_fits 30 = .ok (.getfield 70, 3) := by decide +kernel
theorem dX9_fits_33 : decode cX9_fits 33 = .ok (.getfield 159, 3) := by decide +kernel
theorem dX9_fits_36 : decode cX9_fits 36 = .ok (.iload 4, 2) := by decide +kernel
theorem dX9_fits_38 : decode cX9_fits 38 = .ok (.if_icmp .ne 7, 3) := by decide +kernel
theorem dX9_fits_41 : decode cX9_fits 41 = .ok (.iconst 1, 1) := by decide +kernel
theorem dX9_fits_42 : decode cX9_fits 42 = .ok (.goto 4, 3) := by decide +kernel
theorem dX9_fits_45 : decode cX9_fits 45 = .ok (.iconst 0, 1) := by decide +kernel
theorem dX9_fits_46 : decode cX9_fits 46 = .ok (.ireturn, 1) := by decide +kernel
set_option maxRecDepth 20000 in
theorem ggX9_breaksByVisits_X1_copy : GoodIn wsX9_breaksByVisits wsX1_copy := goodIn_r _ [10, 11, 12, 13, 14, 15, 16, 17, 18, 19, 20, 21, 22, 126, 127, 128, 129, 130, 131, 132, 133, 134, 135, 136, 137] (by decide +kernel) (by decide +kernel)
set_option maxRecDepth 20000 in
theorem gX9_breaksByVisits_X1_copy : GoodIn wsX9_breaksByVisits (wsV RX9 195 RX1 yX1_copy wsX1_copy) := goodIn_app (goodIn_of _ (by decide +kernel)) ggX9_breaksByVisits_X1_copy
set_option maxRecDepth 20000 in
theorem ggX9_breaksByVisits_X1_beVisited : GoodIn wsX9_breaksByVisits wsX1_beVisited := goodIn_r _ [26, 13, 27, 28, 29, 30, 126, 127, 128, 129, 130, 131, 132, 133, 134, 135, 136, 137] (by decide +kernel) (by decide +kernel)
set_option maxRecDepth 20000 in
theorem gX9_breaksByVisits_X1_beVisited : GoodIn wsX9_breaksByVisits (wsV RX9 162 RX1 yX1_beVisited wsX1_beVisited) := goodIn_app (goodIn_of _ (by decide +kernel)) ggX9_breaksByVisits_X1_beVisited
set_option maxRecDepth 20000 in
theorem ggX9_breaksByVisits_X1_pass : GoodIn wsX9_breaksByVisits wsX1_pass := goodIn_r _ [34, 13, 11, 27, 28, 29, 30, 22, 35, 36, 14, 37, 38, 39, 40, 41, 42, 43, 44, 45, 46, 47, 48, 49, 50, 51, 52, 53, 54, 55, 56, 57, 58, 59, 60, 61, 62, 63, 64, 9, 65, 15, 20, 66, 67, 68, 69, 70, 16, 21, 71, 72, 73, 74, 75, 76, 77, 78, 79, 80, 81, 82, 83, 84, 85, 86, 87, 88, 89, 90, 91, 18, 19, 92, 17, 93, 94, 95, 96, 97, 98, 99, 100, 101, 102, 103, 104, 105, 106, 126, 127, 128, 129, 130, 131, 132, 133, 134, 135, 136, 137, 138, 139, 140, 141, 142, 143] (by decide +kernel) (by decide +kernel)
set_option maxRecDepth 20000 in
theorem gX9_breaksByVisits_X1_pass : GoodIn wsX9_breaksByVisits (wsV RX9 198 RX1 yX1_pass wsX1_pass) := goodIn_app (goodIn_of _ (by decide +kernel)) ggX9_breaksByVisits_X1_pass
theorem dX9_breaksByVisits_0 : decode cX9_breaksByVisits 0 = .ok (.aload_n 0, 1) := by decide +kernel
theorem dX9_breaksByVisits_1 : decode cX9_breaksByVisits 1 = .ok (.getfield 70, 3) := by decide +kernel
theorem dX9_breaksByVisits_4 : decode cX9_breaksByVisits 4 = .ok (.aload_n 0, 1) := by decide +kernel
theorem dX9_breaksByVisits_5 : decode cX9_breaksByVisits 5 = .ok (.getfield 43, 3) := by decide +kernel
theorem dX9_breaksByVisits_8 : decode cX9_breaksByVisits 8 = .ok (.getfield 118, 3) := by decide +kernel
theorem dX9_breaksByVisits_11 : decode cX9_breaksByVisits 11 = .ok (.iload_n 1, 1) := by decide +kernel
theorem dX9_breaksByVisits_12 : decode cX9_breaksByVisits 12 = .ok (.aaload, 1) := by decide +kernel
theorem dX9_breaksByVisits_13 : decode cX9_breaksByVisits 13 = .ok (.invokevirtual 195, 3) := by decide +kernel
theorem dX9_breaksByVisits_16 : decode cX9_breaksByVisits 16 = .ok (.iconst 0, 1) := by decide +kernel
theorem dX9_breaksByVisits_17 : decode cX9_breaksByVisits 17 = .ok (.istore 4, 2) := by decide +kernel
theorem dX9_breaksByVisits_19 : decode cX9_breaksByVisits 19 = .ok (.iload 4, 2) := by decide +kernel
theorem dX9_breaksByVisits_21 : decode cX9_breaksByVisits 21 = .ok (.iload_n 2, 1) := by decide +kernel
theorem dX9_breaksByVisits_22 : decode cX9_breaksByVisits 22 = .ok (.if_icmp .ge 54, 3) := by decide +kernel
theorem dX9_breaksByVisits_25 : decode cX9_breaksByVisits 25 = .ok (.iload_n 3, 1) := by decide +kernel
theorem dX9_breaksByVisits_26 : decode cX9_breaksByVisits 26 = .ok (.iload 4, 2) := by decide +kernel
theorem dX9_breaksByVisits_28 : decode cX9_breaksByVisits 28 = .ok (.ishr, 1) := by decide +kernel
theorem dX9_breaksByVisits_29 : decode cX9_breaksByVisits 29 = .ok (.iconst 1, 1) := by decide +kernel
theorem dX9_breaksByVisits_30 : decode cX9_breaksByVisits 30 = .ok (.iand, 1) := by decide +kernel
theorem dX9_breaksByVisits_31 : decode cX9_breaksByVisits 31 = .ok (.ifCond .eq 10, 3) := by decide +kernel
theorem dX9_breaksByVisits_34 : decode cX9_breaksByVisits 34 = .ok (.aload_n 0, 1) := by decide +kernel
theorem dX9_breaksByVisits_35 : decode cX9_breaksByVisits 35 = .ok (.getfield 70, 3) := by decide +kernel
theorem dX9_breaksByVisits_38 : decode cX9_breaksByVisits 38 = .ok (.invokevirtual 162, 3) := by decide +kernel
theorem dX9_breaksByVisits_41 : decode cX9_breaksByVisits 41 = .ok (.aload_n 0, 1) := by decide +kernel
theorem dX9_breaksByVisits_42 : decode cX9_breaksByVisits 42 = .ok (.getfield 70, 3) := by decide +kernel
theorem dX9_breaksByVisits_45 : decode cX9_breaksByVisits 45 = .ok (.aload_n 0, 1) := by decide +kernel
theorem dX9_breaksByVisits_46 : decode cX9_breaksByVisits 46 = .ok (.getfield 43, 3) := by decide +kernel
theorem dX9_breaksByVisits_49 : decode cX9_breaksByVisits 49 = .ok (.getfield 133, 3) := by decide +kernel
theorem dX9_breaksByVisits_52 : decode cX9_breaksByVisits 52 = .ok (.iload 4, 2) := by decide +kernel
theorem dX9_breaksByVisits_54 : decode cX9_breaksByVisits 54 = .ok (.iadd, 1) := by decide +kernel
theorem dX9_breaksByVisits_55 : decode cX9_breaksByVisits 55 = .ok (.aload_n 0, 1) := by decide +kernel
theorem dX9_breaksByVisits_56 : decode cX9_breaksByVisits 56 = .ok (.getfield 43, 3) := by decide +kernel
theorem dX9_breaksByVisits_59 : decode cX9_breaksByVisits 59 = .ok (.getfield 140, 3) := by decide +kernel
theorem dX9_breaksByVisits_62 : decode cX9_breaksByVisits 62 = .ok (.invokevirtual 198, 3) := by decide +kernel
theorem dX9_breaksByVisits_65 : decode cX9_breaksByVisits 65 = .ok (.ifCond .eq 5, 3) := by decide +kernel
theorem dX9_breaksByVisits_68 : decode cX9_breaksByVisits 68 = .ok (.iconst 1, 1) := by decide +kernel
theorem dX9_breaksByVisits_69 : decode cX9_breaksByVisits 69 = .ok (.ireturn, 1) := by decide +kernel
theorem dX9_breaksByVisits_70 : decode cX9_breaksByVisits 70 = .ok (.iinc 4 1, 3) := by decide +kernel
theorem dX9_breaksByVisits_73 : decode cX9_breaksByVisits 73 = .ok (.goto (-54), 3) := by decide +kernel
theorem dX9_breaksByVisits_76 : decode cX9_breaksByVisits 76 = .ok (.iconst 0, 1) := by decide +kernel
theorem dX9_breaksByVisits_77 : decode cX9_breaksByVisits 77 = .ok (.ireturn, 1) := by decide +kernel
theorem dX9_oddsOfVisits_0 : decode cX9_oddsOfVisits 0 = .ok (.iconst 1, 1) := by decide +kernel
theorem dX9_oddsOfVisits_1 : decode cX9_oddsOfVisits 1 = .ok (.istore_n 3, 1) := by decide +kernel
theorem dX9_oddsOfVisits_2 : decode cX9_oddsOfVisits 2 = .ok (.iconst 0, 1) := by decide +kernel
theorem dX9_oddsOfVisits_3 : decode cX9_oddsOfVisits 3 = .ok (.istore 4, 2) := by decide +kernel
theorem dX9_oddsOfVisits_5 : decode cX9_oddsOfVisits 5 = .ok (.iload 4, 2) := by decide +kernel
theorem dX9_oddsOfVisits_7 : decode cX9_oddsOfVisits 7 = .ok (.iload_n 0, 1) := by decide +kernel
theorem dX9_oddsOfVisits_8 : decode cX9_oddsOfVisits 8 = .ok (.if_icmp .ge 29, 3) := by decide +kernel
theorem dX9_oddsOfVisits_11 : decode cX9_oddsOfVisits 11 = .ok (.iload_n 3, 1) := by decide +kernel
theorem dX9_oddsOfVisits_12 : decode cX9_oddsOfVisits 12 = .ok (.iload_n 1, 1) := by decide +kernel
theorem dX9_oddsOfVisits_13 : decode cX9_oddsOfVisits 13 = .ok (.iload 4, 2) := by decide +kernel
theorem dX9_oddsOfVisits_15 : decode cX9_oddsOfVisits 15 = .ok (.ishr, 1) := by decide +kernel
theorem dX9_oddsOfVisits_16 : decode cX9_oddsOfVisits 16 = .ok (.iconst 1, 1) := by decide +kernel
theorem dX9_oddsOfVisits_17 : decode cX9_oddsOfVisits 17 = .ok (.iand, 1) := by decide +kernel
theorem dX9_oddsOfVisits_18 : decode cX9_oddsOfVisits 18 = .ok (.ifCond .eq 7, 3) := by decide +kernel
theorem dX9_oddsOfVisits_21 : decode cX9_oddsOfVisits 21 = .ok (.iload_n 2, 1) := by decide +kernel
theorem dX9_oddsOfVisits_22 : decode cX9_oddsOfVisits 22 = .ok (.goto 7, 3) := by decide +kernel
theorem dX9_oddsOfVisits_25 : decode cX9_oddsOfVisits 25 = .ok (.bipush 10, 2) := by decide +kernel
theorem dX9_oddsOfVisits_27 : decode cX9_oddsOfVisits 27 = .ok (.iload_n 2, 1) := by decide +kernel
theorem dX9_oddsOfVisits_28 : decode cX9_oddsOfVisits 28 = .ok (.isub, 1) := by decide +kernel
theorem dX9_oddsOfVisits_29 : decode cX9_oddsOfVisits 29 = .ok (.imul, 1) := by decide +kernel
theorem dX9_oddsOfVisits_30 : decode cX9_oddsOfVisits 30 = .ok (.istore_n 3, 1) := by decide +kernel
theorem dX9_oddsOfVisits_31 : decode cX9_oddsOfVisits 31 = .ok (.iinc 4 1, 3) := by decide +kernel
theorem dX9_oddsOfVisits_34 : decode cX9_oddsOfVisits 34 = .ok (.goto (-29), 3) := by decide +kernel
theorem dX9_oddsOfVisits_37 : decode cX9_oddsOfVisits 37 = .ok (.iload_n 3, 1) := by decide +kernel
theorem dX9_oddsOfVisits_38 : decode cX9_oddsOfVisits 38 = .ok (.ireturn, 1) := by decide +kernel
theorem dX9_commonDivisor_0 : decode cX9_commonDivisor 0 = .ok (.iload_n 0, 1) := by decide +kernel
theorem dX9_commonDivisor_1 : decode cX9_commonDivisor 1 = .ok (.istore_n 2, 1) := by decide +kernel
theorem dX9_commonDivisor_2 : decode cX9_commonDivisor 2 = .ok (.iload_n 1, 1) := by decide +kernel
theorem dX9_commonDivisor_3 : decode cX9_commonDivisor 3 = .ok (.istore_n 3, 1) := by decide +kernel
theorem dX9_commonDivisor_4 : decode cX9_commonDivisor 4 = .ok (.iconst 0, 1) := by decide +kernel
theorem dX9_commonDivisor_5 : decode cX9_commonDivisor 5 = .ok (.istore 4, 2) := by decide +kernel
theorem dX9_commonDivisor_7 : decode cX9_commonDivisor 7 = .ok (.iload 4, 2) := by decide +kernel
theorem dX9_commonDivisor_9 : decode cX9_commonDivisor 9 = .ok (.bipush 64, 2) := by decide +kernel
theorem dX9_commonDivisor_11 : decode cX9_commonDivisor 11 = .ok (.if_icmp .ge 23, 3) := by decide +kernel
theorem dX9_commonDivisor_14 : decode cX9_commonDivisor 14 = .ok (.iload_n 3, 1) := by decide +kernel
theorem dX9_commonDivisor_15 : decode cX9_commonDivisor 15 = .ok (.ifCond .le 19, 3) := by decide +kernel
theorem dX9_commonDivisor_18 : decode cX9_commonDivisor 18 = .ok (.iload_n 2, 1) := by decide +kernel
theorem dX9_commonDivisor_19 : decode cX9_commonDivisor 19 = .ok (.iload_n 3, 1) := by decide +kernel
theorem dX9_commonDivisor_20 : decode cX9_commonDivisor 20 = .ok (.irem, 1) := by decide +kernel
theorem dX9_commonDivisor_21 : decode cX9_commonDivisor 21 = .ok (.istore 5, 2) := by decide +kernel
theorem dX9_commonDivisor_23 : decode cX9_commonDivisor 23 = .ok (.iload_n 3, 1) := by decide +kernel
theorem dX9_commonDivisor_24 : decode cX9_commonDivisor 24 = .ok (.istore_n 2, 1) := by decide +kernel
theorem dX9_commonDivisor_25 : decode cX9_commonDivisor 25 = .ok (.iload 5, 2) := by decide +kernel
theorem dX9_commonDivisor_27 : decode cX9_commonDivisor 27 = .ok (.istore_n 3, 1) := by decide +kernel
theorem dX9_commonDivisor_28 : decode cX9_commonDivisor 28 = .ok (.iinc 4 1, 3) := by decide +kernel
theorem dX9_commonDivisor_31 : decode cX9_commonDivisor 31 = .ok (.goto (-24), 3) := by decide +kernel
theorem dX9_commonDivisor_34 : decode cX9_commonDivisor 34 = .ok (.iconst 1, 1) := by decide +kernel
theorem dX9_commonDivisor_35 : decode cX9_commonDivisor 35 = .ok (.iload_n 2, 1) := by decide +kernel
theorem dX9_commonDivisor_36 : decode cX9_commonDivisor 36 = .ok (.invokestatic 272, 3) := by decide +kernel
theorem dX9_commonDivisor_39 : decode cX9_commonDivisor 39 = .ok (.ireturn, 1) := by decide +kernel
set_option maxRecDepth 20000 in
theorem ggX10_init_X10_layDesk : GoodIn wsX10_init wsX10_layDesk := goodIn_r _ [25, 9, 15, 26, 14, 27, 28, 11, 29, 30, 31, 32, 33, 34, 35, 36, 37, 38, 39, 40, 41, 42, 43, 44, 45, 46, 47, 48, 49, 50, 51] (by decide +kernel) (by decide +kernel)
set_option maxRecDepth 20000 in
theorem gX10_init_X10_layDesk : GoodIn wsX10_init (wsV RX10 56 RX10 yX10_layDesk wsX10_layDesk) := goodIn_app (goodIn_of _ (by decide +kernel)) ggX10_init_X10_layDesk
theorem dX10_init_0 : decode cX10_init 0 = .ok (.aload_n 0, 1) := by decide +kernel
theorem dX10_init_1 : decode cX10_init 1 = .ok (.invokespecial 1, 3) := by decide +kernel
theorem dX10_init_4 : decode cX10_init 4 = .ok (.aload_n 0, 1) := by decide +kernel
theorem dX10_init_5 : decode cX10_init 5 = .ok (.bipush 77, 2) := by decide +kernel
theorem dX10_init_7 : decode cX10_init 7 = .ok (.newarray .int, 2) := by decide +kernel
theorem dX10_init_9 : decode cX10_init 9 = .ok (.dup, 1) := by decide +kernel
theorem dX10_init_10 : decode cX10_init 10 = .ok (.iconst 0, 1) := by decide +kernel
theorem dX10_init_11 : decode cX10_init 11 = .ok (.bipush 100, 2) := by decide +kernel
theorem dX10_init_13 : decode cX10_init 13 = .ok (.iastore, 1) := by decide +kernel
theorem dX10_init_14 : decode cX10_init 14 = .ok (.dup, 1) := by decide +kernel
theorem dX10_init_15 : decode cX10_init 15 = .ok (.iconst 1, 1) := by decide +kernel
theorem dX10_init_16 : decode cX10_init 16 = .ok (.bipush 101, 2) := by decide +kernel
theorem dX10_init_18 : decode cX10_init 18 = .ok (.iastore, 1) := by decide +kernel
theorem dX10_init_19 : decode cX10_init 19 = .ok (.dup, 1) := by decide +kernel
theorem dX10_init_20 : decode cX10_init 20 = .ok (.iconst 2, 1) := by decide +kernel
theorem dX10_init_21 : decode cX10_init 21 = .ok (.bipush 115, 2) := by decide +kernel
theorem dX10_init_23 : decode cX10_init 23 = .ok (.iastore, 1) := by decide +kernel
theorem dX10_init_24 : decode cX10_init 24 = .ok (.dup, 1) := by decide +kernel
theorem dX10_init_25 : decode cX10_init 25 = .ok (.iconst 3, 1) := by decide +kernel
theorem dX10_init_26 : decode cX10_init 26 = .ok (.bipush 107, 2) := by decide +kernel
theorem dX10_init_28 : decode cX10_init 28 = .ok (.iastore, 1) := by decide +kernel
theorem dX10_init_29 : decode cX10_init 29 = .ok (.dup, 1) := by decide +kernel
theorem dX10_init_30 : decode cX10_init 30 = .ok (.iconst 4, 1) := by decide +kernel
theorem dX10_init_31 : decode cX10_init 31 = .ok (.iconst 0, 1) := by decide +kernel
theorem dX10_init_32 : decode cX10_init 32 = .ok (.iastore, 1) := by decide +kernel
theorem dX10_init_33 : decode cX10_init 33 = .ok (.dup, 1) := by decide +kernel
theorem dX10_init_34 : decode cX10_init 34 = .ok (.iconst 5, 1) := by decide +kernel
theorem dX10_init_35 : decode cX10_init 35 = .ok (.iconst 0, 1) := by decide +kernel
theorem dX10_init_36 : decode cX10_init 36 = .ok (.iastore, 1) := by decide +kernel
theorem dX10_init_37 : decode cX10_init 37 = .ok (.dup, 1) := by decide +kernel
theorem dX10_init_38 : decode cX10_init 38 = .ok (.bipush 6, 2) := by decide +kernel
theorem dX10_init_40 : decode cX10_init 40 = .ok (.iconst 0, 1) := by decide +kernel
theorem dX10_init_41 : decode cX10_init 41 = .ok (.iastore, 1) := by decide +kernel
theorem dX10_init_42 : decode cX10_init 42 = .ok (.dup, 1) := by decide +kernel
theorem dX10_init_43 : decode cX10_init 43 = .ok (.bipush 7, 2) := by decide +kernel
theorem dX10_init_45 : decode cX10_init 45 = .ok (.bipush 112, 2) := by decide +kernel
theorem dX10_init_47 : decode cX10_init 47 = .ok (.iastore, 1) := by decide +kernel
theorem dX10_init_48 : decode cX10_init 48 = .ok (.dup, 1) := by decide +kernel
theorem dX10_init_49 : decode cX10_init 49 = .ok (.bipush 8, 2) := by decide +kernel
theorem dX10_init_51 : decode cX10_init 51 = .ok (.bipush 108, 2) := by decide +kernel
theorem dX10_init_53 : decode cX10_init 53 = .ok (.iastore, 1) := by decide +kernel
theorem dX10_init_54 : decode cX10_init 54 = .ok (.dup, 1) := by decide +kernel
theorem dX10_init_55 : decode cX10_init 55 = .ok (.bipush 9, 2) := by decide +kernel
theorem dX10_init_57 : decode cX10_init 57 = .ok (.bipush 97, 2) := by decide +kernel
theorem dX10_init_59 : decode cX10_init 59 = .ok (.iastore, 1) := by decide +kernel
theorem dX10_init_60 : decode cX10_init 60 = .ok (.dup, 1) := by decide +kernel
theorem dX10_init_61 : decode cX10_init 61 = .ok (.bipush 10, 2) := by decide +kernel
theorem dX10_init_63 : decode cX10_init 63 = .ok (.bipush 105, 2) := by decide +kernel
theorem dX10_init_65 : decode cX10_init 65 = .ok (.iastore, 1) := by decide +kernel
theorem dX10_init_66 : decode cX10_init 66 = .ok (.dup, 1) := by decide +kernel
theorem dX10_init_67 : decode cX10_init 67 = .ok (.bipush 11, 2) := by decide +kernel
theorem dX10_init_69 : decode cX10_init 69 = .ok (.bipush 110, 2) := by decide +kernel
theorem dX10_init_71 : decode cX10_init 71 = .ok (.iastore, 1) := by decide +kernel
theorem dX10_init_72 : decode cX10_init 72 = .ok (.dup, 1) := by decide +kernel
theorem dX10_init_73 : decode cX10_init 73 = .ok (.bipush 12, 2) := by decide +kernel
theorem dX10_init_75 : decode cX10_init 75 = .ok (.iconst 0, 1) := by decide +kernel
theorem dX10_init_76 : decode cX10_init 76 = .ok (.iastore, 1) := by decide +kernel
theorem dX10_init_77 : decode cX10_init 77 = .ok (.dup, 1) := by decide +kernel
theorem dX10_init_78 : decode cX10_init 78 = .ok (.bipush 13, 2) := by decide +kernel
theorem dX10_init_80 : decode cX10_init 80 = .ok (.iconst 0, 1) := by decide +kernel
theorem dX10_init_81 : decode cX10_init 81 = .ok (.iastore, 1) := by decide +kernel
theorem dX10_init_82 : decode cX10_init 82 = .ok (.dup, 1) := by decide +kernel
theorem dX10_init_83 : decode cX10_init 83 = .ok (.bipush 14, 2) := by decide +kernel
theorem dX10_init_85 : decode cX10_init 85 = .ok (.bipush 112, 2) := by decide +kernel
theorem dX10_init_87 : decode cX10_init 87 = .ok (.iastore, 1) := by decide +kernel
theorem dX10_init_88 : decode cX10_init 88 = .ok (.dup, 1) := by decide +kernel
theorem dX10_init_89 : decode cX10_init 89 = .ok (.bipush 15, 2) := by decide +kernel
theorem dX10_init_91 : decode cX10_init 91 = .ok (.bipush 114, 2) := by decide +kernel
theorem dX10_init_93 : decode cX10_init 93 = .ok (.iastore, 1) := by decide +kernel
theorem dX10_init_94 : decode cX10_init 94 = .ok (.dup, 1) := by decide +kernel
theorem dX10_init_95 : decode cX10_init 95 = .ok (.bipush 16, 2) := by decide +kernel
theorem dX10_init_97 : decode cX10_init 97 = .ok (.bipush 111, 2) := by decide +kernel
theorem dX10_init_99 : decode cX10_init 99 = .ok (.iastore, 1) := by decide +kernel
theorem dX10_init_100 : decode cX10_init 100 = .ok (.dup, 1) := by decide +kernel
theorem dX10_init_101 : decode cX10_init 101 = .ok (.bipush 17, 2) := by decide +kernel
theorem dX10_init_103 : decode cX10_init 103 = .ok (.bipush 117, 2) := by decide +kernel
theorem dX10_init_105 : decode cX10_init 105 = .ok (.iastore, 1) := by decide +kernel
theorem dX10_init_106 : decode cX10_init 106 = .ok (.dup, 1) := by decide +kernel
theorem dX10_init_107 : decode cX10_init 107 = .ok (.bipush 18, 2) := by decide +kernel
theorem dX10_init_109 : decode cX10_init 109 = .ok (.bipush 100, 2) := by decide +kernel
theorem dX10_init_111 : decode cX10_init 111 = .ok (.iastore, 1) := by decide +kernel
theorem dX10_init_112 : decode cX10_init 112 = .ok (.dup, 1) := by decide +kernel
theorem dX10_init_113 : decode cX10_init 113 = .ok (.bipush 19, 2) := by decide +kernel
theorem dX10_init_115 : decode cX10_init 115 = .ok (.iconst 0, 1) := by decide +kernel
theorem dX10_init_116 : decode cX10_init 116 = .ok (.iastore, 1) := by decide +kernel
theorem dX10_init_117 : decode cX10_init 117 = .ok (.dup, 1) := by decide +kernel
theorem dX10_init_118 : decode cX10_init 118 = .ok (.bipush 20, 2) := by decide +kernel
theorem dX10_init_120 : decode cX10_init 120 = .ok (.iconst 0, 1) := by decide +kernel
theorem dX10_init_121 : decode cX10_init 121 = .ok (.iastore, 1) := by decide +kernel
theorem dX10_init_122 : decode cX10_init 122 = .ok (.dup, 1) := by decide +kernel
theorem dX10_init_123 : decode cX10_init 123 = .ok (.bipush 21, 2) := by decide +kernel
theorem dX10_init_125 : decode cX10_init 125 = .ok (.bipush 115, 2) := by decide +kernel
theorem dX10_init_127 : decode cX10_init 127 = .ok (.iastore, 1) := by decide +kernel
theorem dX10_init_128 : decode cX10_init 128 = .ok (.dup, 1) := by decide +kernel
theorem dX10_init_129 : decode cX10_init 129 = .ok (.bipush 22, 2) := by decide +kernel
theorem dX10_init_131 : decode cX10_init 131 = .ok (.bipush 117, 2) := by decide +kernel
theorem dX10_init_133 : decode cX10_init 133 = .ok (.iastore, 1) := by decide +kernel
theorem dX10_init_134 : decode cX10_init 134 = .ok (.dup, 1) := by decide +kernel
theorem dX10_init_135 : decode cX10_init 135 = .ok (.bipush 23, 2) := by decide +kernel
theorem dX10_init_137 : decode cX10_init 137 = .ok (.bipush 110, 2) := by decide +kernel
theorem dX10_init_139 : decode cX10_init 139 = .ok (.iastore, 1) := by decide +kernel
theorem dX10_init_140 : decode cX10_init 140 = .ok (.dup, 1) := by decide +kernel
theorem dX10_init_141 : decode cX10_init 141 = .ok (.bipush 24, 2) := by decide +kernel
theorem dX10_init_143 : decode cX10_init 143 = .ok (.bipush 100, 2) := by decide +kernel
theorem dX10_init_145 : decode cX10_init 145 = .ok (.iastore, 1) := by decide +kernel
theorem dX10_init_146 : decode cX10_init 146 = .ok (.dup, 1) := by decide +kernel
theorem dX10_init_147 : decode cX10_init 147 = .ok (.bipush 25, 2) := by decide +kernel
theorem dX10_init_149 : decode cX10_init 149 = .ok (.bipush 97, 2) := by decide +kernel
theorem dX10_init_151 : decode cX10_init 151 = .ok (.iastore, 1) := by decide +kernel
theorem dX10_init_152 : decode cX10_init 152 = .ok (.dup, 1) := by decide +kernel
theorem dX10_init_153 : decode cX10_init 153 = .ok (.bipush 26, 2) := by decide +kernel
theorem dX10_init_155 : decode cX10_init 155 = .ok (.bipush 121, 2) := by decide +kernel
theorem dX10_init_157 : decode cX10_init 157 = .ok (.iastore, 1) := by decide +kernel
theorem dX10_init_158 : decode cX10_init 158 = .ok (.dup, 1) := by decide +kernel
theorem dX10_init_159 : decode cX10_init 159 = .ok (.bipush 27, 2) := by decide +kernel
theorem dX10_init_161 : decode cX10_init 161 = .ok (.iconst 0, 1) := by decide +kernel
theorem dX10_init_162 : decode cX10_init 162 = .ok (.iastore, 1) := by decide +kernel
theorem dX10_init_163 : decode cX10_init 163 = .ok (.dup, 1) := by decide +kernel
theorem dX10_init_164 : decode cX10_init 164 = .ok (.bipush 28, 2) := by decide +kernel
theorem dX10_init_166 : decode cX10_init 166 = .ok (.bipush 115, 2) := by decide +kernel
theorem dX10_init_168 : decode cX10_init 168 = .ok (.iastore, 1) := by decide +kernel
theorem dX10_init_169 : decode cX10_init 169 = .ok (.dup, 1) := by decide +kernel
theorem dX10_init_170 : decode cX10_init 170 = .ok (.bipush 29, 2) := by decide +kernel
theorem dX10_init_172 : decode cX10_init 172 = .ok (.bipush 117, 2) := by decide +kernel
theorem dX10_init_174 : decode cX10_init 174 = .ok (.iastore, 1) := by decide +kernel
theorem dX10_init_175 : decode cX10_init 175 = .ok (.dup, 1) := by decide +kernel
theorem dX10_init_176 : decode cX10_init 176 = .ok (.bipush 30, 2) := by decide +kernel
theorem dX10_init_178 : decode cX10_init 178 = .ok (.bipush 108, 2) := by decide +kernel
theorem dX10_init_180 : decode cX10_init 180 = .ok (.iastore, 1) := by decide +kernel
theorem dX10_init_181 : decode cX10_init 181 = .ok (.dup, 1) := by decide +kernel
theorem dX10_init_182 : decode cX10_init 182 = .ok (.bipush 31, 2) := by decide +kernel
theorem dX10_init_184 : decode cX10_init 184 = .ok (.bipush 107, 2) := by decide +kernel
theorem dX10_init_186 : decode cX10_init 186 = .ok (.iastore, 1) := by decide +kernel
theorem dX10_init_187 : decode cX10_init 187 = .ok (.dup, 1) := by decide +kernel
theorem dX10_init_188 : decode cX10_init 188 = .ok (.bipush 32, 2) := by decide +kernel
theorem dX10_init_190 : decode cX10_init 190 = .ok (.bipush 121, 2) := by decide +kernel
theorem dX10_init_192 : decode cX10_init 192 = .ok (.iastore, 1) := by decide +kernel
theorem dX10_init_193 : decode cX10_init 193 = .ok (.dup, 1) := by decide +kernel
theorem dX10_init_194 : decode cX10_init 194 = .ok (.bipush 33, 2) := by decide +kernel
theorem dX10_init_196 : decode cX10_init 196 = .ok (.iconst 0, 1) := by decide +kernel
theorem dX10_init_197 : decode cX10_init 197 = .ok (.iastore, 1) := by decide +kernel
theorem dX10_init_198 : decode cX10_init 198 = .ok (.dup, 1) := by decide +kernel
theorem dX10_init_199 : decode cX10_init 199 = .ok (.bipush 34, 2) := by decide +kernel
theorem dX10_init_201 : decode cX10_init 201 = .ok (.iconst 0, 1) := by decide +kernel
theorem dX10_init_202 : decode cX10_init 202 = .ok (.iastore, 1) := by decide +kernel
theorem dX10_init_203 : decode cX10_init 203 = .ok (.dup, 1) := by decide +kernel
theorem dX10_init_204 : decode cX10_init 204 = .ok (.bipush 35, 2) := by decide +kernel
theorem dX10_init_206 : decode cX10_init 206 = .ok (.bipush 101, 2) := by decide +kernel
theorem dX10_init_208 : decode cX10_init 208 = .ok (.iastore, 1) := by decide +kernel
theorem dX10_init_209 : decode cX10_init 209 = .ok (.dup, 1) := by decide +kernel
theorem dX10_init_210 : decode cX10_init 210 = .ok (.bipush 36, 2) := by decide +kernel
theorem dX10_init_212 : decode cX10_init 212 = .ok (.bipush 120, 2) := by decide +kernel
theorem dX10_init_214 : decode cX10_init 214 = .ok (.iastore, 1) := by decide +kernel
theorem dX10_init_215 : decode cX10_init 215 = .ok (.dup, 1) := by decide +kernel
theorem dX10_init_216 : decode cX10_init 216 = .ok (.bipush 37, 2) := by decide +kernel
theorem dX10_init_218 : decode cX10_init 218 = .ok (.bipush 99, 2) := by decide +kernel
theorem dX10_init_220 : decode cX10_init 220 = .ok (.iastore, 1) := by decide +kernel
theorem dX10_init_221 : decode cX10_init 221 = .ok (.dup, 1) := by decide +kernel
theorem dX10_init_222 : decode cX10_init 222 = .ok (.bipush 38, 2) := by decide +kernel
theorem dX10_init_224 : decode cX10_init 224 = .ok (.bipush 101, 2) := by decide +kernel
theorem dX10_init_226 : decode cX10_init 226 = .ok (.iastore, 1) := by decide +kernel
theorem dX10_init_227 : decode cX10_init 227 = .ok (.dup, 1) := by decide +kernel
theorem dX10_init_228 : decode cX10_init 228 = .ok (.bipush 39, 2) := by decide +kernel
theorem dX10_init_230 : decode cX10_init 230 = .ok (.bipush 115, 2) := by decide +kernel
theorem dX10_init_232 : decode cX10_init 232 = .ok (.iastore, 1) := by decide +kernel
theorem dX10_init_233 : decode cX10_init 233 = .ok (.dup, 1) := by decide +kernel
theorem dX10_init_234 : decode cX10_init 234 = .ok (.bipush 40, 2) := by decide +kernel
theorem dX10_init_236 : decode cX10_init 236 = .ok (.bipush 115, 2) := by decide +kernel
theorem dX10_init_238 : decode cX10_init 238 = .ok (.iastore, 1) := by decide +kernel
theorem dX10_init_239 : decode cX10_init 239 = .ok (.dup, 1) := by decide +kernel
theorem dX10_init_240 : decode cX10_init 240 = .ok (.bipush 41, 2) := by decide +kernel
theorem dX10_init_242 : decode cX10_init 242 = .ok (.iconst 0, 1) := by decide +kernel
theorem dX10_init_243 : decode cX10_init 243 = .ok (.iastore, 1) := by decide +kernel
theorem dX10_init_244 : decode cX10_init 244 = .ok (.dup, 1) := by decide +kernel
theorem dX10_init_245 : decode cX10_init 245 = .ok (.bipush 42, 2) := by decide +kernel
theorem dX10_init_247 : decode cX10_init 247 = .ok (.bipush 99, 2) := by decide +kernel
theorem dX10_init_249 : decode cX10_init 249 = .ok (.iastore, 1) := by decide +kernel
theorem dX10_init_250 : decode cX10_init 250 = .ok (.dup, 1) := by decide +kernel
theorem dX10_init_251 : decode cX10_init 251 = .ok (.bipush 43, 2) := by decide +kernel
theorem dX10_init_253 : decode cX10_init 253 = .ok (.bipush 111, 2) := by decide +kernel
theorem dX10_init_255 : decode cX10_init 255 = .ok (.iastore, 1) := by decide +kernel
theorem dX10_init_256 : decode cX10_init 256 = .ok (.dup, 1) := by decide +kernel
theorem dX10_init_257 : decode cX10_init 257 = .ok (.bipush 44, 2) := by decide +kernel
theorem dX10_init_259 : decode cX10_init 259 = .ok (.bipush 118, 2) := by decide +kernel
theorem dX10_init_261 : decode cX10_init 261 = .ok (.iastore, 1) := by decide +kernel
theorem dX10_init_262 : decode cX10_init 262 = .ok (.dup, 1) := by decide +kernel
theorem dX10_init_263 : decode cX10_init 263 = .ok (.bipush 45, 2) := by decide +kernel
theorem dX10_init_265 : decode cX10_init 265 = .ok (.bipush 101, 2) := by decide +kernel
theorem dX10_init_267 : decode cX10_init 267 = .ok (.iastore, 1) := by decide +kernel
theorem dX10_init_268 : decode cX10_init 268 = .ok (.dup, 1) := by decide +kernel
theorem dX10_init_269 : decode cX10_init 269 = .ok (.bipush 46, 2) := by decide +kernel
theorem dX10_init_271 : decode cX10_init 271 = .ok (.bipush 114, 2) := by decide +kernel
theorem dX10_init_273 : decode cX10_init 273 = .ok (.iastore, 1) := by decide +kernel
theorem dX10_init_274 : decode cX10_init 274 = .ok (.dup, 1) := by decide +kernel
theorem dX10_init_275 : decode cX10_init 275 = .ok (.bipush 47, 2) := by decide +kernel
theorem dX10_init_277 : decode cX10_init 277 = .ok (.iconst 0, 1) := by decide +kernel
theorem dX10_init_278 : decode cX10_init 278 = .ok (.iastore, 1) := by decide +kernel
theorem dX10_init_279 : decode cX10_init 279 = .ok (.dup, 1) := by decide +kernel
theorem dX10_init_280 : decode cX10_init 280 = .ok (.bipush 48, 2) := by decide +kernel
theorem dX10_init_282 : decode cX10_init 282 = .ok (.iconst 0, 1) := by decide +kernel
theorem dX10_init_283 : decode cX10_init 283 = .ok (.iastore, 1) := by decide +kernel
theorem dX10_init_284 : decode cX10_init 284 = .ok (.dup, 1) := by decide +kernel
theorem dX10_init_285 : decode cX10_init 285 = .ok (.bipush 49, 2) := by decide +kernel
theorem dX10_init_287 : decode cX10_init 287 = .ok (.bipush 112, 2) := by decide +kernel
theorem dX10_init_289 : decode cX10_init 289 = .ok (.iastore, 1) := by decide +kernel
theorem dX10_init_290 : decode cX10_init 290 = .ok (.dup, 1) := by decide +kernel
theorem dX10_init_291 : decode cX10_init 291 = .ok (.bipush 50, 2) := by decide +kernel
theorem dX10_init_293 : decode cX10_init 293 = .ok (.bipush 114, 2) := by decide +kernel
theorem dX10_init_295 : decode cX10_init 295 = .ok (.iastore, 1) := by decide +kernel
theorem dX10_init_296 : decode cX10_init 296 = .ok (.dup, 1) := by decide +kernel
theorem dX10_init_297 : decode cX10_init 297 = .ok (.bipush 51, 2) := by decide +kernel
theorem dX10_init_299 : decode cX10_init 299 = .ok (.bipush 101, 2) := by decide +kernel
theorem dX10_init_301 : decode cX10_init 301 = .ok (.iastore, 1) := by decide +kernel
theorem dX10_init_302 : decode cX10_init 302 = .ok (.dup, 1) := by decide +kernel
theorem dX10_init_303 : decode cX10_init 303 = .ok (.bipush 52, 2) := by decide +kernel
theorem dX10_init_305 : decode cX10_init 305 = .ok (.bipush 109, 2) := by decide +kernel
theorem dX10_init_307 : decode cX10_init 307 = .ok (.iastore, 1) := by decide +kernel
theorem dX10_init_308 : decode cX10_init 308 = .ok (.dup, 1) := by decide +kernel
theorem dX10_init_309 : decode cX10_init 309 = .ok (.bipush 53, 2) := by decide +kernel
theorem dX10_init_311 : decode cX10_init 311 = .ok (.bipush 105, 2) := by decide +kernel
theorem dX10_init_313 : decode cX10_init 313 = .ok (.iastore, 1) := by decide +kernel
theorem dX10_init_314 : decode cX10_init 314 = .ok (.dup, 1) := by decide +kernel
theorem dX10_init_315 : decode cX10_init 315 = .ok (.bipush 54, 2) := by decide +kernel
theorem dX10_init_317 : decode cX10_init 317 = .ok (.bipush 117, 2) := by decide +kernel
theorem dX10_init_319 : decode cX10_init 319 = .ok (.iastore, 1) := by decide +kernel
theorem dX10_init_320 : decode cX10_init 320 = .ok (.dup, 1) := by decide +kernel
theorem dX10_init_321 : decode cX10_init 321 = .ok (.bipush 55, 2) := by decide +kernel
theorem dX10_init_323 : decode cX10_init 323 = .ok (.bipush 109, 2) := by decide +kernel
theorem dX10_init_325 : decode cX10_init 325 = .ok (.iastore, 1) := by decide +kernel
theorem dX10_init_326 : decode cX10_init 326 = .ok (.dup, 1) := by decide +kernel
theorem dX10_init_327 : decode cX10_init 327 = .ok (.bipush 56, 2) := by decide +kernel
theorem dX10_init_329 : decode cX10_init 329 = .ok (.bipush 116, 2) := by decide +kernel
theorem dX10_init_331 : decode cX10_init 331 = .ok (.iastore, 1) := by decide +kernel
theorem dX10_init_332 : decode cX10_init 332 = .ok (.dup, 1) := by decide +kernel
theorem dX10_init_333 : decode cX10_init 333 = .ok (.bipush 57, 2) := by decide +kernel
theorem dX10_init_335 : decode cX10_init 335 = .ok (.bipush 105, 2) := by decide +kernel
theorem dX10_init_337 : decode cX10_init 337 = .ok (.iastore, 1) := by decide +kernel
theorem dX10_init_338 : decode cX10_init 338 = .ok (.dup, 1) := by decide +kernel
theorem dX10_init_339 : decode cX10_init 339 = .ok (.bipush 58, 2) := by decide +kernel
theorem dX10_init_341 : decode cX10_init 341 = .ok (.bipush 102, 2) := by decide +kernel
theorem dX10_init_343 : decode cX10_init 343 = .ok (.iastore, 1) := by decide +kernel
theorem dX10_init_344 : decode cX10_init 344 = .ok (.dup, 1) := by decide +kernel
theorem dX10_init_345 : decode cX10_init 345 = .ok (.bipush 59, 2) := by decide +kernel
theorem dX10_init_347 : decode cX10_init 347 = .ok (.bipush 102, 2) := by decide +kernel
theorem dX10_init_349 : decode cX10_init 349 = .ok (.iastore, 1) := by decide +kernel
theorem dX10_init_350 : decode cX10_init 350 = .ok (.dup, 1) := by decide +kernel
theorem dX10_init_351 : decode cX10_init 351 = .ok (.bipush 60, 2) := by decide +kernel
theorem dX10_init_353 : decode cX10_init 353 = .ok (.iconst 0, 1) := by decide +kernel
theorem dX10_init_354 : decode cX10_init 354 = .ok (.iastore, 1) := by decide +kernel
theorem dX10_init_355 : decode cX10_init 355 = .ok (.dup, 1) := by decide +kernel
theorem dX10_init_356 : decode cX10_init 356 = .ok (.bipush 61, 2) := by decide +kernel
theorem dX10_init_358 : decode cX10_init 358 = .ok (.iconst 0, 1) := by decide +kernel
theorem dX10_init_359 : decode cX10_init 359 = .ok (.iastore, 1) := by decide +kernel
theorem dX10_init_360 : decode cX10_init 360 = .ok (.dup, 1) := by decide +kernel
theorem dX10_init_361 : decode cX10_init 361 = .ok (.bipush 62, 2) := by decide +kernel
theorem dX10_init_363 : decode cX10_init 363 = .ok (.iconst 0, 1) := by decide +kernel
theorem dX10_init_364 : decode cX10_init 364 = .ok (.iastore, 1) := by decide +kernel
theorem dX10_init_365 : decode cX10_init 365 = .ok (.dup, 1) := by decide +kernel
theorem dX10_init_366 : decode cX10_init 366 = .ok (.bipush 63, 2) := by decide +kernel
theorem dX10_init_368 : decode cX10_init 368 = .ok (.bipush 98, 2) := by decide +kernel
theorem dX10_init_370 : decode cX10_init 370 = .ok (.iastore, 1) := by decide +kernel
theorem dX10_init_371 : decode cX10_init 371 = .ok (.dup, 1) := by decide +kernel
theorem dX10_init_372 : decode cX10_init 372 = .ok (.bipush 64, 2) := by decide +kernel
theorem dX10_init_374 : decode cX10_init 374 = .ok (.bipush 114, 2) := by decide +kernel
theorem dX10_init_376 : decode cX10_init 376 = .ok (.iastore, 1) := by decide +kernel
theorem dX10_init_377 : decode cX10_init 377 = .ok (.dup, 1) := by decide +kernel
theorem dX10_init_378 : decode cX10_init 378 = .ok (.bipush 65, 2) := by decide +kernel
theorem dX10_init_380 : decode cX10_init 380 = .ok (.bipush 101, 2) := by decide +kernel
theorem dX10_init_382 : decode cX10_init 382 = .ok (.iastore, 1) := by decide +kernel
theorem dX10_init_383 : decode cX10_init 383 = .ok (.dup, 1) := by decide +kernel
theorem dX10_init_384 : decode cX10_init 384 = .ok (.bipush 66, 2) := by decide +kernel
theorem dX10_init_386 : decode cX10_init 386 = .ok (.bipush 97, 2) := by decide +kernel
theorem dX10_init_388 : decode cX10_init 388 = .ok (.iastore, 1) := by decide +kernel
theorem dX10_init_389 : decode cX10_init 389 = .ok (.dup, 1) := by decide +kernel
theorem dX10_init_390 : decode cX10_init 390 = .ok (.bipush 67, 2) := by decide +kernel
theorem dX10_init_392 : decode cX10_init 392 = .ok (.bipush 107, 2) := by decide +kernel
theorem dX10_init_394 : decode cX10_init 394 = .ok (.iastore, 1) := by decide +kernel
theorem dX10_init_395 : decode cX10_init 395 = .ok (.dup, 1) := by decide +kernel
theorem dX10_init_396 : decode cX10_init 396 = .ok (.bipush 68, 2) := by decide +kernel
theorem dX10_init_398 : decode cX10_init 398 = .ok (.iconst 0, 1) := by decide +kernel
theorem dX10_init_399 : decode cX10_init 399 = .ok (.iastore, 1) := by decide +kernel
theorem dX10_init_400 : decode cX10_init 400 = .ok (.dup, 1) := by decide +kernel
theorem dX10_init_401 : decode cX10_init 401 = .ok (.bipush 69, 2) := by decide +kernel
theorem dX10_init_403 : decode cX10_init 403 = .ok (.iconst 0, 1) := by decide +kernel
theorem dX10_init_404 : decode cX10_init 404 = .ok (.iastore, 1) := by decide +kernel
theorem dX10_init_405 : decode cX10_init 405 = .ok (.dup, 1) := by decide +kernel
theorem dX10_init_406 : decode cX10_init 406 = .ok (.bipush 70, 2) := by decide +kernel
theorem dX10_init_408 : decode cX10_init 408 = .ok (.bipush 114, 2) := by decide +kernel
theorem dX10_init_410 : decode cX10_init 410 = .ok (.iastore, 1) := by decide +kernel
theorem dX10_init_411 : decode cX10_init 411 = .ok (.dup, 1) := by decide +kernel
theorem dX10_init_412 : decode cX10_init 412 = .ok (.bipush 71, 2) := by decide +kernel
theorem dX10_init_414 : decode cX10_init 414 = .ok (.bipush 101, 2) := by decide +kernel
theorem dX10_init_416 : decode cX10_init 416 = .ok (.iastore, 1) := by decide +kernel
theorem dX10_init_417 : decode cX10_init 417 = .ok (.dup, 1) := by decide +kernel
theorem dX10_init_418 : decode cX10_init 418 = .ok (.bipush 72, 2) := by decide +kernel
theorem dX10_init_420 : decode cX10_init 420 = .ok (.bipush 108, 2) := by decide +kernel
theorem dX10_init_422 : decode cX10_init 422 = .ok (.iastore, 1) := by decide +kernel
theorem dX10_init_423 : decode cX10_init 423 = .ok (.dup, 1) := by decide +kernel
theorem dX10_init_424 : decode cX10_init 424 = .ok (.bipush 73, 2) := by decide +kernel
theorem dX10_init_426 : decode cX10_init 426 = .ok (.bipush 105, 2) := by decide +kernel
theorem dX10_init_428 : decode cX10_init 428 = .ok (.iastore, 1) := by decide +kernel
theorem dX10_init_429 : decode cX10_init 429 = .ok (.dup, 1) := by decide +kernel
theorem dX10_init_430 : decode cX10_init 430 = .ok (.bipush 74, 2) := by decide +kernel
theorem dX10_init_432 : decode cX10_init 432 = .ok (.bipush 101, 2) := by decide +kernel
theorem dX10_init_434 : decode cX10_init 434 = .ok (.iastore, 1) := by decide +kernel
theorem dX10_init_435 : decode cX10_init 435 = .ok (.dup, 1) := by decide +kernel
theorem dX10_init_436 : decode cX10_init 436 = .ok (.bipush 75, 2) := by decide +kernel
theorem dX10_init_438 : decode cX10_init 438 = .ok (.bipush 102, 2) := by decide +kernel
theorem dX10_init_440 : decode cX10_init 440 = .ok (.iastore, 1) := by decide +kernel
theorem dX10_init_441 : decode cX10_init 441 = .ok (.dup, 1) := by decide +kernel
theorem dX10_init_442 : decode cX10_init 442 = .ok (.bipush 76, 2) := by decide +kernel
theorem dX10_init_444 : decode cX10_init 444 = .ok (.iconst 0, 1) := by decide +kernel
theorem dX10_init_445 : decode cX10_init 445 = .ok (.iastore, 1) := by decide +kernel
theorem dX10_init_446 : decode cX10_init 446 = .ok (.putfield 7, 3) := by decide +kernel
theorem dX10_init_449 : decode cX10_init 449 = .ok (.aload_n 0, 1) := by decide +kernel
theorem dX10_init_450 : decode cX10_init 450 = .ok (.bipush 6, 2) := by decide +kernel
theorem dX10_init_452 : decode cX10_init 452 = .ok (.newarray .int, 2) := by decide +kernel
theorem dX10_init_454 : decode cX10_init 454 = .ok (.dup, 1) := by decide +kernel
theorem dX10_init_455 : decode cX10_init 455 = .ok (.iconst 0, 1) := by decide +kernel
theorem dX10_init_456 : decode cX10_init 456 = .ok (.iconst 5, 1) := by decide +kernel
theorem dX10_init_457 : decode cX10_init 457 = .ok (.iastore, 1) := by decide +kernel
theorem dX10_init_458 : decode cX10_init 458 = .ok (.dup, 1) := by decide +kernel
theorem dX10_init_459 : decode cX10_init 459 = .ok (.iconst 1, 1) := by decide +kernel
theorem dX10_init_460 : decode cX10_init 460 = .ok (.bipush 40, 2) := by decide +kernel
theorem dX10_init_462 : decode cX10_init 462 = .ok (.iastore, 1) := by decide +kernel
theorem dX10_init_463 : decode cX10_init 463 = .ok (.dup, 1) := by decide +kernel
theorem dX10_init_464 : decode cX10_init 464 = .ok (.iconst 2, 1) := by decide +kernel
theorem dX10_init_465 : decode cX10_init 465 = .ok (.iconst 2, 1) := by decide +kernel
theorem dX10_init_466 : decode cX10_init 466 = .ok (.iastore, 1) := by decide +kernel
theorem dX10_init_467 : decode cX10_init 467 = .ok (.dup, 1) := by decide +kernel
theorem dX10_init_468 : decode cX10_init 468 = .ok (.iconst 3, 1) := by decide +kernel
theorem dX10_init_469 : decode cX10_init 469 = .ok (.bipush 12, 2) := by decide +kernel
theorem dX10_init_471 : decode cX10_init 471 = .ok (.iastore, 1) := by decide +kernel
theorem dX10_init_472 : decode cX10_init 472 = .ok (.dup, 1) := by decide +kernel
theorem dX10_init_473 : decode cX10_init 473 = .ok (.iconst 4, 1) := by decide +kernel
theorem dX10_init_474 : decode cX10_init 474 = .ok (.bipush 30, 2) := by decide +kernel
theorem dX10_init_476 : decode cX10_init 476 = .ok (.iastore, 1) := by decide +kernel
theorem dX10_init_477 : decode cX10_init 477 = .ok (.dup, 1) := by decide +kernel
theorem dX10_init_478 : decode cX10_init 478 = .ok (.iconst 5, 1) := by decide +kernel
theorem dX10_init_479 : decode cX10_init 479 = .ok (.bipush 6, 2) := by decide +kernel
theorem dX10_init_481 : decode cX10_init 481 = .ok (.iastore, 1) := by decide +kernel
theorem dX10_init_482 : decode cX10_init 482 = .ok (.putfield 13, 3) := by decide +kernel
theorem dX10_init_485 : decode cX10_init 485 = .ok (.aload_n 0, 1) := by decide +kernel
theorem dX10_init_486 : decode cX10_init 486 = .ok (.bipush 6, 2) := by decide +kernel
theorem dX10_init_488 : decode cX10_init 488 = .ok (.newarray .int, 2) := by decide +kernel
theorem dX10_init_490 : decode cX10_init 490 = .ok (.dup, 1) := by decide +kernel
theorem dX10_init_491 : decode cX10_init 491 = .ok (.iconst 0, 1) := by decide +kernel
theorem dX10_init_492 : decode cX10_init 492 = .ok (.iconst 0, 1) := by decide +kernel
theorem dX10_init_493 : decode cX10_init 493 = .ok (.iastore, 1) := by decide +kernel
theorem dX10_init_494 : decode cX10_init 494 = .ok (.dup, 1) := by decide +kernel
theorem dX10_init_495 : decode cX10_init 495 = .ok (.iconst 1, 1) := by decide +kernel
theorem dX10_init_496 : decode cX10_init 496 = .ok (.iconst 0, 1) := by decide +kernel
theorem dX10_init_497 : decode cX10_init 497 = .ok (.iastore, 1) := by decide +kernel
theorem dX10_init_498 : decode cX10_init 498 = .ok (.dup, 1) := by decide +kernel
theorem dX10_init_499 : decode cX10_init 499 = .ok (.iconst 2, 1) := by decide +kernel
theorem dX10_init_500 : decode cX10_init 500 = .ok (.iconst 0, 1) := by decide +kernel
theorem dX10_init_501 : decode cX10_init 501 = .ok (.iastore, 1) := by decide +kernel
theorem dX10_init_502 : decode cX10_init 502 = .ok (.dup, 1) := by decide +kernel
theorem dX10_init_503 : decode cX10_init 503 = .ok (.iconst 3, 1) := by decide +kernel
theorem dX10_init_504 : decode cX10_init 504 = .ok (.iconst 1, 1) := by decide +kernel
theorem dX10_init_505 : decode cX10_init 505 = .ok (.iastore, 1) := by decide +kernel
theorem dX10_init_506 : decode cX10_init 506 = .ok (.dup, 1) := by decide +kernel
theorem dX10_init_507 : decode cX10_init 507 = .ok (.iconst 4, 1) := by decide +kernel
theorem dX10_init_508 : decode cX10_init 508 = .ok (.iconst 1, 1) := by decide +kernel
theorem dX10_init_509 : decode cX10_init 509 = .ok (.iastore, 1) := by decide +kernel
theorem dX10_init_510 : decode cX10_init 510 = .ok (.dup, 1) := by decide +kernel
theorem dX10_init_511 : decode cX10_init 511 = .ok (.iconst 5, 1) := by decide +kernel
theorem dX10_init_512 : decode cX10_init 512 = .ok (.iconst 0, 1) := by decide +kernel
theorem dX10_init_513 : decode cX10_init 513 = .ok (.iastore, 1) := by decide +kernel
theorem dX10_init_514 : decode cX10_init 514 = .ok (.putfield 16, 3) := by decide +kernel
theorem dX10_init_517 : decode cX10_init 517 = .ok (.aload_n 0, 1) := by decide +kernel
theorem dX10_init_518 : decode cX10_init 518 = .ok (.bipush 6, 2) := by decide +kernel
theorem dX10_init_520 : decode cX10_init 520 = .ok (.newarray .int, 2) := by decide +kernel
theorem dX10_init_522 : decode cX10_init 522 = .ok (.dup, 1) := by decide +kernel
theorem dX10_init_523 : decode cX10_init 523 = .ok (.iconst 0, 1) := by decide +kernel
theorem dX10_init_524 : decode cX10_init 524 = .ok (.bipush 50, 2) := by decide +kernel
theorem dX10_init_526 : decode cX10_init 526 = .ok (.iastore, 1) := by decide +kernel
theorem dX10_init_527 : decode cX10_init 527 = .ok (.dup, 1) := by decide +kernel
theorem dX10_init_528 : decode cX10_init 528 = .ok (.iconst 1, 1) := by decide +kernel
theorem dX10_init_529 : decode cX10_init 529 = .ok (.bipush 99, 2) := by decide +kernel
theorem dX10_init_531 : decode cX10_init 531 = .ok (.iastore, 1) := by decide +kernel
theorem dX10_init_532 : decode cX10_init 532 = .ok (.dup, 1) := by decide +kernel
theorem dX10_init_533 : decode cX10_init 533 = .ok (.iconst 2, 1) := by decide +kernel
theorem dX10_init_534 : decode cX10_init 534 = .ok (.bipush 50, 2) := by decide +kernel
theorem dX10_init_536 : decode cX10_init 536 = .ok (.iastore, 1) := by decide +kernel
theorem dX10_init_537 : decode cX10_init 537 = .ok (.dup, 1) := by decide +kernel
theorem dX10_init_538 : decode cX10_init 538 = .ok (.iconst 3, 1) := by decide +kernel
theorem dX10_init_539 : decode cX10_init 539 = .ok (.bipush 99, 2) := by decide +kernel
theorem dX10_init_541 : decode cX10_init 541 = .ok (.iastore, 1) := by decide +kernel
theorem dX10_init_542 : decode cX10_init 542 = .ok (.dup, 1) := by decide +kernel
theorem dX10_init_543 : decode cX10_init 543 = .ok (.iconst 4, 1) := by decide +kernel
theorem dX10_init_544 : decode cX10_init 544 = .ok (.bipush 99, 2) := by decide +kernel
theorem dX10_init_546 : decode cX10_init 546 = .ok (.iastore, 1) := by decide +kernel
theorem dX10_init_547 : decode cX10_init 547 = .ok (.dup, 1) := by decide +kernel
theorem dX10_init_548 : decode cX10_init 548 = .ok (.iconst 5, 1) := by decide +kernel
theorem dX10_init_549 : decode cX10_init 549 = .ok (.bipush 20, 2) := by decide +kernel
theorem dX10_init_551 : decode cX10_init 551 = .ok (.iastore, 1) := by decide +kernel
theorem dX10_init_552 : decode cX10_init 552 = .ok (.putfield 19, 3) := by decide +kernel
theorem dX10_init_555 : decode cX10_init 555 = .ok (.aload_n 0, 1) := by decide +kernel
theorem dX10_init_556 : decode cX10_init 556 = .ok (.sipush 672, 3) := by decide +kernel
theorem dX10_init_559 : decode cX10_init 559 = .ok (.newarray .int, 2) := by decide +kernel
theorem dX10_init_561 : decode cX10_init 561 = .ok (.putfield 22, 3) := by decide +kernel
theorem dX10_init_564 : decode cX10_init 564 = .ok (.aload_n 0, 1) := by decide +kernel
theorem dX10_init_565 : decode cX10_init 565 = .ok (.iconst 2, 1) := by decide +kernel
theorem dX10_init_566 : decode cX10_init 566 = .ok (.newarray .boolean, 2) := by decide +kernel
theorem dX10_init_568 : decode cX10_init 568 = .ok (.putfield 25, 3) := by decide +kernel
theorem dX10_init_571 : decode cX10_init 571 = .ok (.aload_n 0, 1) := by decide +kernel
theorem dX10_init_572 : decode cX10_init 572 = .ok (.bipush 6, 2) := by decide +kernel
theorem dX10_init_574 : decode cX10_init 574 = .ok (.newarray .int, 2) := by decide +kernel
theorem dX10_init_576 : decode cX10_init 576 = .ok (.putfield 29, 3) := by decide +kernel
theorem dX10_init_579 : decode cX10_init 579 = .ok (.aload_n 0, 1) := by decide +kernel
theorem dX10_init_580 : decode cX10_init 580 = .ok (.bipush 6, 2) := by decide +kernel
theorem dX10_init_582 : decode cX10_init 582 = .ok (.newarray .int, 2) := by decide +kernel
theorem dX10_init_584 : decode cX10_init 584 = .ok (.putfield 32, 3) := by decide +kernel
theorem dX10_init_587 : decode cX10_init 587 = .ok (.aload_n 0, 1) := by decide +kernel
theorem dX10_init_588 : decode cX10_init 588 = .ok (.bipush 6, 2) := by decide +kernel
theorem dX10_init_590 : decode cX10_init 590 = .ok (.newarray .int, 2) := by decide +kernel
theorem dX10_init_592 : decode cX10_init 592 = .ok (.putfield 35, 3) := by decide +kernel
theorem dX10_init_595 : decode cX10_init 595 = .ok (.aload_n 0, 1) := by decide +kernel
theorem dX10_init_596 : decode cX10_init 596 = .ok (.bipush 6, 2) := by decide +kernel
theorem dX10_init_598 : decode cX10_init 598 = .ok (.newarray .int, 2) := by decide +kernel
theorem dX10_init_600 : decode cX10_init 600 = .ok (.dup, 1) := by decide +kernel
theorem dX10_init_601 : decode cX10_init 601 = .ok (.iconst 0, 1) := by decide +kernel
theorem dX10_init_602 : decode cX10_init 602 = .ok (.iconst 5, 1) := by decide +kernel
theorem dX10_init_603 : decode cX10_init 603 = .ok (.iastore, 1) := by decide +kernel
theorem dX10_init_604 : decode cX10_init 604 = .ok (.dup, 1) := by decide +kernel
theorem dX10_init_605 : decode cX10_init 605 = .ok (.iconst 1, 1) := by decide +kernel
theorem dX10_init_606 : decode cX10_init 606 = .ok (.bipush 40, 2) := by decide +kernel
theorem dX10_init_608 : decode cX10_init 608 = .ok (.iastore, 1) := by decide +kernel
theorem dX10_init_609 : decode cX10_init 609 = .ok (.dup, 1) := by decide +kernel
theorem dX10_init_610 : decode cX10_init 610 = .ok (.iconst 2, 1) := by decide +kernel
theorem dX10_init_611 : decode cX10_init 611 = .ok (.iconst 2, 1) := by decide +kernel
theorem dX10_init_612 : decode cX10_init 612 = .ok (.iastore, 1) := by decide +kernel
theorem dX10_init_613 : decode cX10_init 613 = .ok (.dup, 1) := by decide +kernel
theorem dX10_init_614 : decode cX10_init 614 = .ok (.iconst 3, 1) := by decide +kernel
theorem dX10_init_615 : decode cX10_init 615 = .ok (.bipush 12, 2) := by decide +kernel
theorem dX10_init_617 : decode cX10_init 617 = .ok (.iastore, 1) := by decide +kernel
theorem dX10_init_618 : decode cX10_init 618 = .ok (.dup, 1) := by decide +kernel
theorem dX10_init_619 : decode cX10_init 619 = .ok (.iconst 4, 1) := by decide +kernel
theorem dX10_init_620 : decode cX10_init 620 = .ok (.bipush 30, 2) := by decide +kernel
theorem dX10_init_622 : decode cX10_init 622 = .ok (.iastore, 1) := by decide +kernel
theorem dX10_init_623 : decode cX10_init 623 = .ok (.dup, 1) := by decide +kernel
theorem dX10_init_624 : decode cX10_init 624 = .ok (.iconst 5, 1) := by decide +kernel
theorem dX10_init_625 : decode cX10_init 625 = .ok (.bipush 6, 2) := by decide +kernel
theorem dX10_init_627 : decode cX10_init 627 = .ok (.iastore, 1) := by decide +kernel
theorem dX10_init_628 : decode cX10_init 628 = .ok (.putfield 38, 3) := by decide +kernel
theorem dX10_init_631 : decode cX10_init 631 = .ok (.aload_n 0, 1) := by decide +kernel
theorem dX10_init_632 : decode cX10_init 632 = .ok (.sipush 160, 3) := by decide +kernel
theorem dX10_init_635 : decode cX10_init 635 = .ok (.newarray .int, 2) := by decide +kernel
theorem dX10_init_637 : decode cX10_init 637 = .ok (.putfield 41, 3) := by decide +kernel
theorem dX10_init_640 : decode cX10_init 640 = .ok (.aload_n 0, 1) := by decide +kernel
theorem dX10_init_641 : decode cX10_init 641 = .ok (.bipush 18, 2) := by decide +kernel
theorem dX10_init_643 : decode cX10_init 643 = .ok (.newarray .int, 2) := by decide +kernel
theorem dX10_init_645 : decode cX10_init 645 = .ok (.putfield 44, 3) := by decide +kernel
theorem dX10_init_648 : decode cX10_init 648 = .ok (.aload_n 0, 1) := by decide +kernel
theorem dX10_init_649 : decode cX10_init 649 = .ok (.bipush 18, 2) := by decide +kernel
theorem dX10_init_651 : decode cX10_init 651 = .ok (.newarray .int, 2) := by decide +kernel
theorem dX10_init_653 : decode cX10_init 653 = .ok (.putfield 47, 3) := by decide +kernel
theorem dX10_init_656 : decode cX10_init 656 = .ok (.aload_n 0, 1) := by decide +kernel
theorem dX10_init_657 : decode cX10_init 657 = .ok (.bipush 6, 2) := by decide +kernel
theorem dX10_init_659 : decode cX10_init 659 = .ok (.newarray .int, 2) := by decide +kernel
theorem dX10_init_661 : decode cX10_init 661 = .ok (.putfield 50, 3) := by decide +kernel
theorem dX10_init_664 : decode cX10_init 664 = .ok (.aload_n 0, 1) := by decide +kernel
theorem dX10_init_665 : decode cX10_init 665 = .ok (.bipush 60, 2) := by decide +kernel
theorem dX10_init_667 : decode cX10_init 667 = .ok (.newarray .int, 2) := by decide +kernel
theorem dX10_init_669 : decode cX10_init 669 = .ok (.putfield 53, 3) := by decide +kernel
theorem dX10_init_672 : decode cX10_init 672 = .ok (.aload_n 0, 1) := by decide +kernel
theorem dX10_init_673 : decode cX10_init 673 = .ok (.invokevirtual 56, 3) := by decide +kernel
theorem dX10_init_676 : decode cX10_init 676 = .ok (.return_, 1) := by decide +kernel
theorem dX10_in_0 : decode cX10_in 0 = .ok (.iload_n 0, 1) := by decide +kernel
theorem dX10_in_1 : decode cX10_in 1 = .ok (.iload_n 1, 1) := by decide +kernel
theorem dX10_in_2 : decode cX10_in 2 = .ok (.if_icmp .lt 12, 3) := by decide +kernel
theorem dX10_in_5 : decode cX10_in 5 = .ok (.iload_n 0, 1) := by decide +kernel
theorem dX10_in_6 : decode cX10_in 6 = .ok (.iload_n 2, 1) := by decide +kernel
theorem dX10_in_7 : decode cX10_in 7 = .ok (.if_icmp .gt 7, 3) := by decide +kernel
theorem dX10_in_10 : decode cX10_in 10 = .ok (.iconst 1, 1) := by decide +kernel
theorem dX10_in_11 : decode cX10_in 11 = .ok (.goto 4, 3) := by decide +kernel
theorem dX10_in_14 : decode cX10_in 14 = .ok (.iconst 0, 1) := by decide +kernel
theorem dX10_in_15 : decode cX10_in 15 = .ok (.ireturn, 1) := by decide +kernel
theorem dX10_has_0 : decode cX10_has 0 = .ok (.iload_n 0, 1) := by decide +kernel
theorem dX10_has_1 : decode cX10_has 1 = .ok (.iload_n 1, 1) := by decide +kernel
theorem dX10_has_2 : decode cX10_has 2 = .ok (.ishr, 1) := by decide +kernel
theorem dX10_has_3 : decode cX10_has 3 = .ok (.iconst 1, 1) := by decide +kernel
theorem dX10_has_4 : decode cX10_has 4 = .ok (.iand, 1) := by decide +kernel
theorem dX10_has_5 : decode cX10_has 5 = .ok (.iconst 1, 1) := by decide +kernel
theorem dX10_has_6 : decode cX10_has 6 = .ok (.if_icmp .ne 7, 3) := by decide +kernel
theorem dX10_has_9 : decode cX10_has 9 = .ok (.iconst 1, 1) := by decide +kernel
theorem dX10_has_10 : decode cX10_has 10 = .ok (.goto 4, 3) := by decide +kernel
theorem dX10_has_13 : decode cX10_has 13 = .ok (.iconst 0, 1) := by decide +kernel
theorem dX10_has_14 : decode cX10_has 14 = .ok (.ireturn, 1) := by decide +kernel
theorem dX10_bits_0 : decode cX10_bits 0 = .ok (.iconst 0, 1) := by decide +kernel
theorem dX10_bits_1 : decode cX10_bits 1 = .ok (.istore_n 1, 1) := by decide +kernel
theorem dX10_bits_2 : decode cX10_bits 2 = .ok (.iconst 0, 1) := by decide +kernel
theorem dX10_bits_3 : decode cX10_bits 3 = .ok (.istore_n 2, 1) := by decide +kernel
theorem dX10_bits_4 : decode cX10_bits 4 = .ok (.iload_n 2, 1) := by decide +kernel
