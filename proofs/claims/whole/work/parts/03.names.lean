theorem inJ9 : ∀ w ∈ wsJ90, w ∈ lw_tbl := by decide +kernel
theorem inJ0 : ∀ w ∈ wsJ00, w ∈ lw_tbl := by decide +kernel
theorem inJ1 : ∀ w ∈ wsJ10, w ∈ lw_tbl := by decide +kernel
theorem inJ2 : ∀ w ∈ wsJ20, w ∈ lw_tbl := by decide +kernel
theorem inJ3 : ∀ w ∈ wsJ30, w ∈ lw_tbl := by decide +kernel
theorem dX0_init_0 : decode cX0_init 0 = .ok (.aload_n 0, 1) := by decide +kernel
theorem dX0_init_1 : decode cX0_init 1 = .ok (.invokespecial 1, 3) := by decide +kernel
theorem dX0_init_4 : decode cX0_init 4 = .ok (.return_, 1) := by decide +kernel
theorem dX0_gain_0 : decode cX0_gain 0 = .ok (.aload_n 1, 1) := by decide +kernel
theorem dX0_gain_1 : decode cX0_gain 1 = .ok (.getfield 7, 3) := by decide +kernel
theorem dX0_gain_4 : decode cX0_gain 4 = .ok (.ireturn, 1) := by decide +kernel
theorem dX0_isCovered_0 : decode cX0_isCovered 0 = .ok (.iconst 1, 1) := by decide +kernel
theorem dX0_isCovered_1 : decode cX0_isCovered 1 = .ok (.ireturn, 1) := by decide +kernel
theorem dX0_isSunday_0 : decode cX0_isSunday 0 = .ok (.iload_n 0, 1) := by decide +kernel
theorem dX0_isSunday_1 : decode cX0_isSunday 1 = .ok (.bipush 7, 2) := by decide +kernel
theorem dX0_isSunday_3 : decode cX0_isSunday 3 = .ok (.irem, 1) := by decide +kernel
theorem dX0_isSunday_4 : decode cX0_isSunday 4 = .ok (.bipush 6, 2) := by decide +kernel
theorem dX0_isSunday_6 : decode cX0_isSunday 6 = .ok (.if_icmp .ne 7, 3) := by decide +kernel
theorem dX0_isSunday_9 : decode cX0_isSunday 9 = .ok (.iconst 1, 1) := by decide +kernel
theorem dX0_isSunday_10 : decode cX0_isSunday 10 = .ok (.goto 4, 3) := by decide +kernel
theorem dX0_isSunday_13 : decode cX0_isSunday 13 = .ok (.iconst 0, 1) := by decide +kernel
theorem dX0_isSunday_14 : decode cX0_isSunday 14 = .ok (.ireturn, 1) := by decide +kernel
set_option maxRecDepth 20000 in
theorem ggX1_init_X1_begin : GoodIn wsX1_init wsX1_begin := goodIn_r _ [8, 9, 10, 11, 12, 13, 14, 15, 16, 17, 18, 19, 20, 21, 22, 23, 24, 25, 26, 27, 28, 29, 30, 31, 32] (by decide +kernel) (by decide +kernel)
set_option maxRecDepth 20000 in
theorem gX1_init_X1_begin : GoodIn wsX1_init (wsV RX1 9 RX1 yX1_begin wsX1_begin) := goodIn_app (goodIn_of _ (by decide +kernel)) ggX1_init_X1_begin
theorem dX1_init_0 : decode cX1_init 0 = .ok (.aload_n 0, 1) := by decide +kernel
theorem dX1_init_1 : decode cX1_init 1 = .ok (.invokespecial 3, 3) := by decide +kernel
theorem dX1_init_4 : decode cX1_init 4 = .ok (.aload_n 0, 1) := by decide +kernel
theorem dX1_init_5 : decode cX1_init 5 = .ok (.aload_n 1, 1) := by decide +kernel
theorem dX1_init_6 : decode cX1_init 6 = .ok (.iconst 1, 1) := by decide +kernel
theorem dX1_init_7 : decode cX1_init 7 = .ok (.iconst 0, 1) := by decide +kernel
theorem dX1_init_8 : decode cX1_init 8 = .ok (.invokevirtual 9, 3) := by decide +kernel
theorem dX1_init_11 : decode cX1_init 11 = .ok (.return_, 1) := by decide +kernel
theorem dX1_begin_0 : decode cX1_begin 0 = .ok (.aload_n 0, 1) := by decide +kernel
theorem dX1_begin_1 : decode cX1_begin 1 = .ok (.aload_n 1, 1) := by decide +kernel
theorem dX1_begin_2 : decode cX1_begin 2 = .ok (.putfield 15, 3) := by decide +kernel
theorem dX1_begin_5 : decode cX1_begin 5 = .ok (.aload_n 0, 1) := by decide +kernel
theorem dX1_begin_6 : decode cX1_begin 6 = .ok (.iload_n 2, 1) := by decide +kernel
theorem dX1_begin_7 : decode cX1_begin 7 = .ok (.putfield 19, 3) := by decide +kernel
theorem dX1_begin_10 : decode cX1_begin 10 = .ok (.aload_n 0, 1) := by decide +kernel
theorem dX1_begin_11 : decode cX1_begin 11 = .ok (.iload_n 3, 1) := by decide +kernel
theorem dX1_begin_12 : decode cX1_begin 12 = .ok (.putfield 23, 3) := by decide +kernel
theorem dX1_begin_15 : decode cX1_begin 15 = .ok (.aload_n 0, 1) := by decide +kernel
theorem dX1_begin_16 : decode cX1_begin 16 = .ok (.iconst 0, 1) := by decide +kernel
theorem dX1_begin_17 : decode cX1_begin 17 = .ok (.putfield 26, 3) := by decide +kernel
theorem dX1_begin_20 : decode cX1_begin 20 = .ok (.aload_n 0, 1) := by decide +kernel
theorem dX1_begin_21 : decode cX1_begin 21 = .ok (.iconst 0, 1) := by decide +kernel
theorem dX1_begin_22 : decode cX1_begin 22 = .ok (.putfield 29, 3) := by decide +kernel
theorem dX1_begin_25 : decode cX1_begin 25 = .ok (.aload_n 0, 1) := by decide +kernel
theorem dX1_begin_26 : decode cX1_begin 26 = .ok (.iconst 0, 1) := by decide +kernel
theorem dX1_begin_27 : decode cX1_begin 27 = .ok (.putfield 33, 3) := by decide +kernel
theorem dX1_begin_30 : decode cX1_begin 30 = .ok (.aload_n 0, 1) := by decide +kernel
theorem dX1_begin_31 : decode cX1_begin 31 = .ok (.iconst 0, 1) := by decide +kernel
theorem dX1_begin_32 : decode cX1_begin 32 = .ok (.putfield 36, 3) := by decide +kernel
theorem dX1_begin_35 : decode cX1_begin 35 = .ok (.aload_n 0, 1) := by decide +kernel
theorem dX1_begin_36 : decode cX1_begin 36 = .ok (.iconst 0, 1) := by decide +kernel
theorem dX1_begin_37 : decode cX1_begin 37 = .ok (.putfield 39, 3) := by decide +kernel
theorem dX1_begin_40 : decode cX1_begin 40 = .ok (.aload_n 0, 1) := by decide +kernel
theorem dX1_begin_41 : decode cX1_begin 41 = .ok (.iconst 0, 1) := by decide +kernel
theorem dX1_begin_42 : decode cX1_begin 42 = .ok (.putfield 42, 3) := by decide +kernel
theorem dX1_begin_45 : decode cX1_begin 45 = .ok (.aload_n 0, 1) := by decide +kernel
theorem dX1_begin_46 : decode cX1_begin 46 = .ok (.iconst 0, 1) := by decide +kernel
theorem dX1_begin_47 : decode cX1_begin 47 = .ok (.putfield 45, 3) := by decide +kernel
theorem dX1_begin_50 : decode cX1_begin 50 = .ok (.aload_n 0, 1) := by decide +kernel
theorem dX1_begin_51 : decode cX1_begin 51 = .ok (.iconst (-1), 1) := by decide +kernel
theorem dX1_begin_52 : decode cX1_begin 52 = .ok (.putfield 48, 3) := by decide +kernel
theorem dX1_begin_55 : decode cX1_begin 55 = .ok (.aload_n 0, 1) := by decide +kernel
theorem dX1_begin_56 : decode cX1_begin 56 = .ok (.iconst 0, 1) := by decide +kernel
theorem dX1_begin_57 : decode cX1_begin 57 = .ok (.putfield 51, 3) := by decide +kernel
theorem dX1_begin_60 : decode cX1_begin 60 = .ok (.return_, 1) := by decide +kernel
theorem dX1_copy_0 : decode cX1_copy 0 = .ok (.aload_n 0, 1) := by decide +kernel
theorem dX1_copy_1 : decode cX1_copy 1 = .ok (.aload_n 1, 1) := by decide +kernel
theorem dX1_copy_2 : decode cX1_copy 2 = .ok (.getfield 15, 3) := by decide +kernel
theorem dX1_copy_5 : decode cX1_copy 5 = .ok (.putfield 15, 3) := by decide +kernel
theorem dX1_copy_8 : decode cX1_copy 8 = .ok (.aload_n 0, 1) := by decide +kernel
theorem dX1_copy_9 : decode cX1_copy 9 = .ok (.aload_n 1, 1) := by decide +kernel
theorem dX1_copy_10 : decode cX1_copy 10 = .ok (.getfield 19, 3) := by decide +kernel
theorem dX1_copy_13 : decode cX1_copy 13 = .ok (.putfield 19, 3) := by decide +kernel
theorem dX1_copy_16 : decode cX1_copy 16 = .ok (.aload_n 0, 1) := by decide +kernel
theorem dX1_copy_17 : decode cX1_copy 17 = .ok (.aload_n 1, 1) := by decide +kernel
theorem dX1_copy_18 : decode cX1_copy 18 = .ok (.getfield 23, 3) := by decide +kernel
theorem dX1_copy_21 : decode cX1_copy 21 = .ok (.putfield 23, 3) := by decide +kernel
theorem dX1_copy_24 : decode cX1_copy 24 = .ok (.aload_n 0, 1) := by decide +kernel
theorem dX1_copy_25 : decode cX1_copy 25 = .ok (.aload_n 1, 1) := by decide +kernel
theorem dX1_copy_26 : decode cX1_copy 26 = .ok (.getfield 26, 3) := by decide +kernel
theorem dX1_copy_29 : decode cX1_copy 29 = .ok (.putfield 26, 3) := by decide +kernel
theorem dX1_copy_32 : decode cX1_copy 32 = .ok (.aload_n 0, 1) := by decide +kernel
theorem dX1_copy_33 : decode cX1_copy 33 = .ok (.aload_n 1, 1) := by decide +kernel
theorem dX1_copy_34 : decode cX1_copy 34 = .ok (.getfield 29, 3) := by decide +kernel
theorem dX1_copy_37 : decode cX1_copy 37 = .ok (.putfield 29, 3) := by decide +kernel
theorem dX1_copy_40 : decode cX1_copy 40 = .ok (.aload_n 0, 1) := by decide +kernel
theorem dX1_copy_41 : decode cX1_copy 41 = .ok (.aload_n 1, 1) := by decide +kernel
theorem dX1_copy_42 : decode cX1_copy 42 = .ok (.getfield 33, 3) := by decide +kernel
theorem dX1_copy_45 : decode cX1_copy 45 = .ok (.putfield 33, 3) := by decide +kernel
theorem dX1_copy_48 : decode cX1_copy 48 = .ok (.aload_n 0, 1) := by decide +kernel
theorem dX1_copy_49 : decode cX1_copy 49 = .ok (.aload_n 1, 1) := by decide +kernel
theorem dX1_copy_50 : decode cX1_copy 50 = .ok (.getfield 36, 3) := by decide +kernel
theorem dX1_copy_53 : decode cX1_copy 53 = .ok (.putfield 36, 3) := by decide +kernel
theorem dX1_copy_56 : decode cX1_copy 56 = .ok (.aload_n 0, 1) := by decide +kernel
theorem dX1_copy_57 : decode cX1_copy 57 = .ok (.aload_n 1, 1) := by decide +kernel
theorem dX1_copy_58 : decode cX1_copy 58 = .ok (.getfield 39, 3) := by decide +kernel
theorem dX1_copy_61 : decode cX1_copy 61 = .ok (.putfield 39, 3) := by decide +kernel
theorem dX1_copy_64 : decode cX1_copy 64 = .ok (.aload_n 0, 1) := by decide +kernel
theorem dX1_copy_65 : decode cX1_copy 65 = .ok (.aload_n 1, 1) := by decide +kernel
theorem dX1_copy_66 : decode cX1_copy 66 = .ok (.getfield 42, 3) := by decide +kernel
theorem dX1_copy_69 : decode cX1_copy 69 = .ok (.putfield 42, 3) := by decide +kernel
theorem dX1_copy_72 : decode cX1_copy 72 = .ok (.aload_n 0, 1) := by decide +kernel
theorem dX1_copy_73 : decode cX1_copy 73 = .ok (.aload_n 1, 1) := by decide +kernel
theorem dX1_copy_74 : decode cX1_copy 74 = .ok (.getfield 45, 3) := by decide +kernel
theorem dX1_copy_77 : decode cX1_copy 77 = .ok (.putfield 45, 3) := by decide +kernel
theorem dX1_copy_80 : decode cX1_copy 80 = .ok (.aload_n 0, 1) := by decide +kernel
theorem dX1_copy_81 : decode cX1_copy 81 = .ok (.aload_n 1, 1) := by decide +kernel
theorem dX1_copy_82 : decode cX1_copy 82 = .ok (.getfield 48, 3) := by decide +kernel
theorem dX1_copy_85 : decode cX1_copy 85 = .ok (.putfield 48, 3) := by decide +kernel
theorem dX1_copy_88 : decode cX1_copy 88 = .ok (.aload_n 0, 1) := by decide +kernel
theorem dX1_copy_89 : decode cX1_copy 89 = .ok (.aload_n 1, 1) := by decide +kernel
theorem dX1_copy_90 : decode cX1_copy 90 = .ok (.getfield 51, 3) := by decide +kernel
theorem dX1_copy_93 : decode cX1_copy 93 = .ok (.putfield 51, 3) := by decide +kernel
theorem dX1_copy_96 : decode cX1_copy 96 = .ok (.return_, 1) := by decide +kernel
set_option maxRecDepth 20000 in
theorem ggX1_part_X2_number : GoodIn wsX1_part wsX2_number := goodIn_r _ [16] (by decide +kernel) (by decide +kernel)
set_option maxRecDepth 20000 in
theorem gX1_part_X2_number_u54X2 : GoodIn wsX1_part (va_wsU RX1 54 RX2 "QuarrelDesk$Couple" ⟨"QuarrelDesk$Couple", "number", "()I"⟩ yX2_number wsX2_number) := goodIn_app (goodIn_of _ (by decide +kernel)) ggX1_part_X2_number
set_option maxRecDepth 20000 in
theorem ggX1_part_X3_number : GoodIn wsX1_part wsX3_number := goodIn_r _ [20] (by decide +kernel) (by decide +kernel)
set_option maxRecDepth 20000 in
theorem gX1_part_X3_number_u54X3 : GoodIn wsX1_part (va_wsU RX1 54 RX3 "QuarrelDesk$Couple" ⟨"QuarrelDesk$Couple", "number", "()I"⟩ yX3_number wsX3_number) := goodIn_app (goodIn_of _ (by decide +kernel)) ggX1_part_X3_number
set_option maxRecDepth 20000 in
theorem ggX1_part_X4_number : GoodIn wsX1_part wsX4_number := goodIn_r _ [24] (by decide +kernel) (by decide +kernel)
set_option maxRecDepth 20000 in
theorem gX1_part_X4_number_u54X4 : GoodIn wsX1_part (va_wsU RX1 54 RX4 "QuarrelDesk$Couple" ⟨"QuarrelDesk$Couple", "number", "()I"⟩ yX4_number wsX4_number) := goodIn_app (goodIn_of _ (by decide +kernel)) ggX1_part_X4_number
set_option maxRecDepth 20000 in
theorem ggX1_part_X5_number : GoodIn wsX1_part wsX5_number := goodIn_r _ [28] (by decide +kernel) (by decide +kernel)
set_option maxRecDepth 20000 in
theorem gX1_part_X5_number_u54X5 : GoodIn wsX1_part (va_wsU RX1 54 RX5 "QuarrelDesk$Couple" ⟨"QuarrelDesk$Couple", "number", "()I"⟩ yX5_number wsX5_number) := goodIn_app (goodIn_of _ (by decide +kernel)) ggX1_part_X5_number
theorem dX1_part_0 : decode cX1_part 0 = .ok (.iload_n 1, 1) := by decide +kernel
theorem dX1_part_1 : decode cX1_part 1 = .ok (.tableswitch 116 0 9 #[55, 63, 68, 73, 78, 91, 96, 101, 106, 111], 55) := by decide +kernel
theorem dX1_part_56 : decode cX1_part 56 = .ok (.aload_n 0, 1) := by decide +kernel
theorem dX1_part_57 : decode cX1_part 57 = .ok (.getfield 15, 3) := by decide +kernel
theorem dX1_part_60 : decode cX1_part 60 = .ok (.invokevirtual 54, 3) := by decide +kernel
theorem dX1_part_63 : decode cX1_part 63 = .ok (.ireturn, 1) := by decide +kernel
theorem dX1_part_64 : decode cX1_part 64 = .ok (.aload_n 0, 1) := by decide +kernel
theorem dX1_part_65 : decode cX1_part 65 = .ok (.getfield 19, 3) := by decide +kernel
theorem dX1_part_68 : decode cX1_part 68 = .ok (.ireturn, 1) := by decide +kernel
theorem dX1_part_69 : decode cX1_part 69 = .ok (.aload_n 0, 1) := by decide +kernel
theorem dX1_part_70 : decode cX1_part 70 = .ok (.getfield 23, 3) := by decide +kernel
theorem dX1_part_73 : decode cX1_part 73 = .ok (.ireturn, 1) := by decide +kernel
theorem dX1_part_74 : decode cX1_part 74 = .ok (.aload_n 0, 1) := by decide +kernel
theorem dX1_part_75 : decode cX1_part 75 = .ok (.getfield 26, 3) := by decide +kernel
theorem dX1_part_78 : decode cX1_part 78 = .ok (.ireturn, 1) := by decide +kernel
theorem dX1_part_79 : decode cX1_part 79 = .ok (.aload_n 0, 1) := by decide +kernel
theorem dX1_part_80 : decode cX1_part 80 = .ok (.getfield 29, 3) := by decide +kernel
theorem dX1_part_83 : decode cX1_part 83 = .ok (.ifCond .eq 7, 3) := by decide +kernel
theorem dX1_part_86 : decode cX1_part 86 = .ok (.iconst 1, 1) := by decide +kernel
theorem dX1_part_87 : decode cX1_part 87 = .ok (.goto 4, 3) := by decide +kernel
theorem dX1_part_90 : decode cX1_part 90 = .ok (.iconst 0, 1) := by decide +kernel
theorem dX1_part_91 : decode cX1_part 91 = .ok (.ireturn, 1) := by decide +kernel
theorem dX1_part_92 : decode cX1_part 92 = .ok (.aload_n 0, 1) := by decide +kernel
theorem dX1_part_93 : decode cX1_part 93 = .ok (.getfield 33, 3) := by decide +kernel
theorem dX1_part_96 : decode cX1_part 96 = .ok (.ireturn, 1) := by decide +kernel
theorem dX1_part_97 : decode cX1_part 97 = .ok (.aload_n 0, 1) := by decide +kernel
theorem dX1_part_98 : decode cX1_part 98 = .ok (.getfield 36, 3) := by decide +kernel
theorem dX1_part_101 : decode cX1_part 101 = .ok (.ireturn, 1) := by decide +kernel
theorem dX1_part_102 : decode cX1_part 102 = .ok (.aload_n 0, 1) := by decide +kernel
theorem dX1_part_103 : decode cX1_part 103 = .ok (.getfield 42, 3) := by decide +kernel
theorem dX1_part_106 : decode cX1_part 106 = .ok (.ireturn, 1) := by decide +kernel
theorem dX1_part_107 : decode cX1_part 107 = .ok (.aload_n 0, 1) := by decide +kernel
theorem dX1_part_108 : decode cX1_part 108 = .ok (.getfield 45, 3) := by decide +kernel
theorem dX1_part_111 : decode cX1_part 111 = .ok (.ireturn, 1) := by decide +kernel
theorem dX1_part_112 : decode cX1_part 112 = .ok (.aload_n 0, 1) := by decide +kernel
theorem dX1_part_113 : decode cX1_part 113 = .ok (.getfield 48, 3) := by decide +kernel
theorem dX1_part_116 : decode cX1_part 116 = .ok (.ireturn, 1) := by decide +kernel
theorem dX1_part_117 : decode cX1_part 117 = .ok (.bipush (-3), 2) := by decide +kernel
theorem dX1_part_119 : decode cX1_part 119 = .ok (.ireturn, 1) := by decide +kernel
set_option maxRecDepth 20000 in
theorem ggX1_pass_X0_gain : GoodIn wsX1_pass wsX0_gain := goodIn_r _ [16, 17, 89, 90, 91, 92, 93, 94, 95, 96, 97, 98, 99, 100] (by decide +kernel) (by decide +kernel)
set_option maxRecDepth 20000 in
theorem gX1_pass_X0_gain_u60X2 : GoodIn wsX1_pass (va_wsU RX1 60 RX2 "QuarrelDesk$Couple" ⟨"QuarrelDesk$Couple", "gain", "(LQuarrelDesk$Life;I)I"⟩ yX0_gain wsX0_gain) := goodIn_app (goodIn_of _ (by decide +kernel)) ggX1_pass_X0_gain
set_option maxRecDepth 20000 in
theorem ggX1_pass_X3_gain : GoodIn wsX1_pass wsX3_gain := goodIn_r _ [22, 23, 24, 89, 90, 91, 92, 93, 94, 95, 96, 97, 98, 99, 100] (by decide +kernel) (by decide +kernel)
set_option maxRecDepth 20000 in
theorem gX1_pass_X3_gain_u60X3 : GoodIn wsX1_pass (va_wsO RX1 60 RX3 "QuarrelDesk$Couple" ⟨"QuarrelDesk$Couple", "gain", "(LQuarrelDesk$Life;I)I"⟩ yX3_gain wsX3_gain) := goodIn_app (goodIn_of _ (by decide +kernel)) ggX1_pass_X3_gain
set_option maxRecDepth 20000 in
theorem ggX1_pass_X4_gain : GoodIn wsX1_pass wsX4_gain := goodIn_r _ [28, 29, 30, 89, 90, 91, 92, 93, 94, 95, 96, 97, 98, 99, 100] (by decide +kernel) (by decide +kernel)
set_option maxRecDepth 20000 in
theorem gX1_pass_X4_gain_u60X4 : GoodIn wsX1_pass (va_wsO RX1 60 RX4 "QuarrelDesk$Couple" ⟨"QuarrelDesk$Couple", "gain", "(LQuarrelDesk$Life;I)I"⟩ yX4_gain wsX4_gain) := goodIn_app (goodIn_of _ (by decide +kernel)) ggX1_pass_X4_gain
set_option maxRecDepth 20000 in
theorem ggX1_pass_X5_gain : GoodIn wsX1_pass wsX5_gain := goodIn_r _ [34, 35, 89, 90, 91, 92, 93, 94, 95, 96, 97, 98, 99, 100] (by decide +kernel) (by decide +kernel)
set_option maxRecDepth 20000 in
theorem gX1_pass_X5_gain_u60X5 : GoodIn wsX1_pass (va_wsO RX1 60 RX5 "QuarrelDesk$Couple" ⟨"QuarrelDesk$Couple", "gain", "(LQuarrelDesk$Life;I)I"⟩ yX5_gain wsX5_gain) := goodIn_app (goodIn_of _ (by decide +kernel)) ggX1_pass_X5_gain
set_option maxRecDepth 20000 in
theorem ggX1_pass_X1_breakUp : GoodIn wsX1_pass wsX1_breakUp := goodIn_r _ [40, 41, 2, 42, 1, 43, 3, 4, 5, 6, 44, 45, 46, 47, 48, 49, 10, 50, 51, 52, 53, 15, 54, 55, 56, 57, 58, 59, 33, 60, 89, 90, 91, 92, 93, 94, 95, 96, 97, 98, 99, 100, 101, 102, 103, 104, 105, 106] (by decide +kernel) (by decide +kernel)
set_option maxRecDepth 20000 in
theorem gX1_pass_X1_breakUp : GoodIn wsX1_pass (wsV RX1 75 RX1 yX1_breakUp wsX1_breakUp) := goodIn_app (goodIn_of _ (by decide +kernel)) ggX1_pass_X1_breakUp
set_option maxRecDepth 20000 in
theorem ggX1_pass_X2_quarrel : GoodIn wsX1_pass wsX2_quarrel := goodIn_r _ [66, 67, 68, 69, 39, 70, 71, 72, 73, 74, 7, 1, 75, 45, 46, 5, 47, 76, 77, 78, 79, 49, 89, 90, 91, 92, 93, 94, 95, 96, 97, 98, 99, 100, 101, 102, 103, 104, 105, 106] (by decide +kernel) (by decide +kernel)
set_option maxRecDepth 20000 in
theorem gX1_pass_X2_quarrel_u82X2 : GoodIn wsX1_pass (va_wsU RX1 82 RX2 "QuarrelDesk$Couple" ⟨"QuarrelDesk$Couple", "quarrel", "(LQuarrelDesk$Life;ILQuarrelDesk$Terms;)V"⟩ yX2_quarrel wsX2_quarrel) := goodIn_app (goodIn_of _ (by decide +kernel)) ggX1_pass_X2_quarrel
set_option maxRecDepth 20000 in
theorem gX1_pass_X2_quarrel_u82X3 : GoodIn wsX1_pass (va_wsU RX1 82 RX3 "QuarrelDesk$Couple" ⟨"QuarrelDesk$Couple", "quarrel", "(LQuarrelDesk$Life;ILQuarrelDesk$Terms;)V"⟩ yX2_quarrel wsX2_quarrel) := goodIn_app (goodIn_of _ (by decide +kernel)) ggX1_pass_X2_quarrel
set_option maxRecDepth 20000 in
theorem ggX1_pass_X4_quarrel : GoodIn wsX1_pass wsX4_quarrel := goodIn_r _ [83, 84, 85, 86, 39, 87, 10, 41, 89, 90, 91, 92, 93, 94, 95, 96, 97, 98, 99, 100] (by decide +kernel) (by decide +kernel)
set_option maxRecDepth 20000 in
theorem gX1_pass_X4_quarrel_u82X4 : GoodIn wsX1_pass (va_wsU RX1 82 RX4 "QuarrelDesk$Couple" ⟨"QuarrelDesk$Couple", "quarrel", "(LQuarrelDesk$Life;ILQuarrelDesk$Terms;)V"⟩ yX4_quarrel wsX4_quarrel) := goodIn_app (goodIn_of _ (by decide +kernel)) ggX1_pass_X4_quarrel
set_option maxRecDepth 20000 in
theorem gX1_pass_X2_quarrel_u82X5 : GoodIn wsX1_pass (va_wsU RX1 82 RX5 "QuarrelDesk$Couple" ⟨"QuarrelDesk$Couple", "quarrel", "(LQuarrelDesk$Life;ILQuarrelDesk$Terms;)V"⟩ yX2_quarrel wsX2_quarrel) := goodIn_app (goodIn_of _ (by decide +kernel)) ggX1_pass_X2_quarrel
theorem dX1_pass_0 : decode cX1_pass 0 = .ok (.aload_n 0, 1) := by decide +kernel
theorem dX1_pass_1 : decode cX1_pass 1 = .ok (.bipush 99, 2) := by decide +kernel
theorem dX1_pass_3 : decode cX1_pass 3 = .ok (.aload_n 0, 1) := by decide +kernel
theorem dX1_pass_4 : decode cX1_pass 4 = .ok (.getfield 23, 3) := by decide +kernel
theorem dX1_pass_7 : decode cX1_pass 7 = .ok (.aload_n 0, 1) := by decide +kernel
theorem dX1_pass_8 : decode cX1_pass 8 = .ok (.getfield 15, 3) := by decide +kernel
theorem dX1_pass_11 : decode cX1_pass 11 = .ok (.aload_n 0, 1) := by decide +kernel
theorem dX1_pass_12 : decode cX1_pass 12 = .ok (.iload_n 1, 1) := by decide +kernel
theorem dX1_pass_13 : decode cX1_pass 13 = .ok (.invokevirtual 60, 3) := by decide +kernel
theorem dX1_pass_16 : decode cX1_pass 16 = .ok (.iadd, 1) := by decide +kernel
theorem dX1_pass_17 : decode cX1_pass 17 = .ok (.invokestatic 64, 3) := by decide +kernel
theorem dX1_pass_20 : decode cX1_pass 20 = .ok (.putfield 23, 3) := by decide +kernel
theorem dX1_pass_23 : decode cX1_pass 23 = .ok (.aload_n 0, 1) := by decide +kernel
theorem dX1_pass_24 : decode cX1_pass 24 = .ok (.iconst 0, 1) := by decide +kernel
theorem dX1_pass_25 : decode cX1_pass 25 = .ok (.putfield 51, 3) := by decide +kernel
theorem dX1_pass_28 : decode cX1_pass 28 = .ok (.aload_n 0, 1) := by decide +kernel
theorem dX1_pass_29 : decode cX1_pass 29 = .ok (.getfield 23, 3) := by decide +kernel
theorem dX1_pass_32 : decode cX1_pass 32 = .ok (.aload_n 2, 1) := by decide +kernel
theorem dX1_pass_33 : decode cX1_pass 33 = .ok (.getfield 70, 3) := by decide +kernel
theorem dX1_pass_36 : decode cX1_pass 36 = .ok (.if_icmp .lt 11, 3) := by decide +kernel
theorem dX1_pass_39 : decode cX1_pass 39 = .ok (.aload_n 0, 1) := by decide +kernel
theorem dX1_pass_40 : decode cX1_pass 40 = .ok (.iload_n 1, 1) := by decide +kernel
theorem dX1_pass_41 : decode cX1_pass 41 = .ok (.aload_n 2, 1) := by decide +kernel
theorem dX1_pass_42 : decode cX1_pass 42 = .ok (.invokevirtual 75, 3) := by decide +kernel
theorem dX1_pass_45 : decode cX1_pass 45 = .ok (.iconst 1, 1) := by decide +kernel
theorem dX1_pass_46 : decode cX1_pass 46 = .ok (.ireturn, 1) := by decide +kernel
theorem dX1_pass_47 : decode cX1_pass 47 = .ok (.aload_n 0, 1) := by decide +kernel
theorem dX1_pass_48 : decode cX1_pass 48 = .ok (.getfield 23, 3) := by decide +kernel
theorem dX1_pass_51 : decode cX1_pass 51 = .ok (.aload_n 2, 1) := by decide +kernel
theorem dX1_pass_52 : decode cX1_pass 52 = .ok (.getfield 79, 3) := by decide +kernel
theorem dX1_pass_55 : decode cX1_pass 55 = .ok (.if_icmp .lt 16, 3) := by decide +kernel
theorem dX1_pass_58 : decode cX1_pass 58 = .ok (.aload_n 0, 1) := by decide +kernel
theorem dX1_pass_59 : decode cX1_pass 59 = .ok (.getfield 15, 3) := by decide +kernel
theorem dX1_pass_62 : decode cX1_pass 62 = .ok (.aload_n 0, 1) := by decide +kernel
theorem dX1_pass_63 : decode cX1_pass 63 = .ok (.iload_n 1, 1) := by decide +kernel
theorem dX1_pass_64 : decode cX1_pass 64 = .ok (.aload_n 2, 1) := by decide +kernel
theorem dX1_pass_65 : decode cX1_pass 65 = .ok (.invokevirtual 82, 3) := by decide +kernel
theorem dX1_pass_68 : decode cX1_pass 68 = .ok (.goto 8, 3) := by decide +kernel
theorem dX1_pass_71 : decode cX1_pass 71 = .ok (.aload_n 0, 1) := by decide +kernel
theorem dX1_pass_72 : decode cX1_pass 72 = .ok (.iconst 0, 1) := by decide +kernel
theorem dX1_pass_73 : decode cX1_pass 73 = .ok (.putfield 26, 3) := by decide +kernel
theorem dX1_pass_76 : decode cX1_pass 76 = .ok (.iconst 0, 1) := by decide +kernel
theorem dX1_pass_77 : decode cX1_pass 77 = .ok (.ireturn, 1) := by decide +kernel
set_option maxRecDepth 20000 in
theorem ggX1_breakUp_X0_isCovered : GoodIn wsX1_breakUp wsX0_isCovered := goodIn_r _ [22] (by decide +kernel) (by decide +kernel)
set_option maxRecDepth 20000 in
theorem gX1_breakUp_X0_isCovered_u86X2 : GoodIn wsX1_breakUp (va_wsU RX1 86 RX2 "QuarrelDesk$Couple" ⟨"QuarrelDesk$Couple", "isCovered", "(I)Z"⟩ yX0_isCovered wsX0_isCovered) := goodIn_app (goodIn_of _ (by decide +kernel)) ggX1_breakUp_X0_isCovered
set_option maxRecDepth 20000 in
theorem gX1_breakUp_X0_isCovered_u86X3 : GoodIn wsX1_breakUp (va_wsU RX1 86 RX3 "QuarrelDesk$Couple" ⟨"QuarrelDesk$Couple", "isCovered", "(I)Z"⟩ yX0_isCovered wsX0_isCovered) := goodIn_app (goodIn_of _ (by decide +kernel)) ggX1_breakUp_X0_isCovered
set_option maxRecDepth 20000 in
theorem gX1_breakUp_X0_isCovered_u86X4 : GoodIn wsX1_breakUp (va_wsU RX1 86 RX4 "QuarrelDesk$Couple" ⟨"QuarrelDesk$Couple", "isCovered", "(I)Z"⟩ yX0_isCovered wsX0_isCovered) := goodIn_app (goodIn_of _ (by decide +kernel)) ggX1_breakUp_X0_isCovered
set_option maxRecDepth 20000 in
theorem ggX1_breakUp_X5_isCovered : GoodIn wsX1_breakUp wsX5_isCovered := goodIn_r _ [29] (by decide +kernel) (by decide +kernel)
set_option maxRecDepth 20000 in
theorem gX1_breakUp_X5_isCovered_u86X5 : GoodIn wsX1_breakUp (va_wsO RX1 86 RX5 "QuarrelDesk$Couple" ⟨"QuarrelDesk$Couple", "isCovered", "(I)Z"⟩ yX5_isCovered wsX5_isCovered) := goodIn_app (goodIn_of _ (by decide +kernel)) ggX1_breakUp_X5_isCovered
theorem dX1_breakUp_0 : decode cX1_breakUp 0 = .ok (.aload_n 0, 1) := by decide +kernel
theorem dX1_breakUp_1 : decode cX1_breakUp 1 = .ok (.getfield 29, 3) := by decide +kernel
theorem dX1_breakUp_4 : decode cX1_breakUp 4 = .ok (.ifCond .ne 43, 3) := by decide +kernel
theorem dX1_breakUp_7 : decode cX1_breakUp 7 = .ok (.aload_n 0, 1) := by decide +kernel
theorem dX1_breakUp_8 : decode cX1_breakUp 8 = .ok (.getfield 15, 3) := by decide +kernel
theorem dX1_breakUp_11 : decode cX1_breakUp 11 = .ok (.iload_n 1, 1) := by decide +kernel
theorem dX1_breakUp_12 : decode cX1_breakUp 12 = .ok (.invokevirtual 86, 3) := by decide +kernel
theorem dX1_breakUp_15 : decode cX1_breakUp 15 = .ok (.ifCond .eq 32, 3) := by decide +kernel
theorem dX1_breakUp_18 : decode cX1_breakUp 18 = .ok (.aload_n 0, 1) := by decide +kernel
theorem dX1_breakUp_19 : decode cX1_breakUp 19 = .ok (.dup, 1) := by decide +kernel
theorem dX1_breakUp_20 : decode cX1_breakUp 20 = .ok (.getfield 45, 3) := by decide +kernel
theorem dX1_breakUp_23 : decode cX1_breakUp 23 = .ok (.iconst 0, 1) := by decide +kernel
theorem dX1_breakUp_24 : decode cX1_breakUp 24 = .ok (.aload_n 0, 1) := by decide +kernel
theorem dX1_breakUp_25 : decode cX1_breakUp 25 = .ok (.getfield 23, 3) := by decide +kernel
theorem dX1_breakUp_28 : decode cX1_breakUp 28 = .ok (.aload_n 2, 1) := by decide +kernel
theorem dX1_breakUp_29 : decode cX1_breakUp 29 = .ok (.getfield 90, 3) := by decide +kernel
theorem dX1_breakUp_32 : decode cX1_breakUp 32 = .ok (.invokestatic 64, 3) := by decide +kernel
theorem dX1_breakUp_35 : decode cX1_breakUp 35 = .ok (.aload_n 2, 1) := by decide +kernel
theorem dX1_breakUp_36 : decode cX1_breakUp 36 = .ok (.getfield 93, 3) := by decide +kernel
theorem dX1_breakUp_39 : decode cX1_breakUp 39 = .ok (.isub, 1) := by decide +kernel
theorem dX1_breakUp_40 : decode cX1_breakUp 40 = .ok (.invokestatic 96, 3) := by decide +kernel
theorem dX1_breakUp_43 : decode cX1_breakUp 43 = .ok (.iadd, 1) := by decide +kernel
theorem dX1_breakUp_44 : decode cX1_breakUp 44 = .ok (.putfield 45, 3) := by decide +kernel
theorem dX1_breakUp_47 : decode cX1_breakUp 47 = .ok (.aload_n 0, 1) := by decide +kernel
theorem dX1_breakUp_48 : decode cX1_breakUp 48 = .ok (.dup, 1) := by decide +kernel
theorem dX1_breakUp_49 : decode cX1_breakUp 49 = .ok (.getfield 33, 3) := by decide +kernel
theorem dX1_breakUp_52 : decode cX1_breakUp 52 = .ok (.iconst 1, 1) := by decide +kernel
theorem dX1_breakUp_53 : decode cX1_breakUp 53 = .ok (.iadd, 1) := by decide +kernel
theorem dX1_breakUp_54 : decode cX1_breakUp 54 = .ok (.putfield 33, 3) := by decide +kernel
theorem dX1_breakUp_57 : decode cX1_breakUp 57 = .ok (.aload_n 0, 1) := by decide +kernel
theorem dX1_breakUp_58 : decode cX1_breakUp 58 = .ok (.iload_n 1, 1) := by decide +kernel
theorem dX1_breakUp_59 : decode cX1_breakUp 59 = .ok (.putfield 48, 3) := by decide +kernel
theorem dX1_breakUp_62 : decode cX1_breakUp 62 = .ok (.aload_n 0, 1) := by decide +kernel
theorem dX1_breakUp_63 : decode cX1_breakUp 63 = .ok (.iconst 0, 1) := by decide +kernel
theorem dX1_breakUp_64 : decode cX1_breakUp 64 = .ok (.putfield 23, 3) := by decide +kernel
theorem dX1_breakUp_67 : decode cX1_breakUp 67 = .ok (.aload_n 0, 1) := by decide +kernel
theorem dX1_breakUp_68 : decode cX1_breakUp 68 = .ok (.iconst 0, 1) := by decide +kernel
theorem dX1_breakUp_69 : decode cX1_breakUp 69 = .ok (.putfield 26, 3) := by decide +kernel
theorem dX1_breakUp_72 : decode cX1_breakUp 72 = .ok (.return_, 1) := by decide +kernel
set_option maxRecDepth 20000 in
theorem ggX1_payTiff_X1_isCalm : GoodIn wsX1_payTiff wsX1_isCalm := goodIn_r _ [16, 17, 18, 19, 20, 21, 22, 23, 24, 25, 26, 27, 28, 29] (by decide +kernel) (by decide +kernel)
set_option maxRecDepth 20000 in
theorem gX1_payTiff_X1_isCalm : GoodIn wsX1_payTiff (wsV RX1 99 RX1 yX1_isCalm wsX1_isCalm) := goodIn_app (goodIn_of _ (by decide +kernel)) ggX1_payTiff_X1_isCalm
theorem dX1_payTiff_0 : decode cX1_payTiff 0 = .ok (.aload_n 0, 1) := by decide +kernel
theorem dX1_payTiff_1 : decode cX1_payTiff 1 = .ok (.iload_n 1, 1) := by decide +kernel
theorem dX1_payTiff_2 : decode cX1_payTiff 2 = .ok (.invokevirtual 99, 3) := by decide +kernel
theorem dX1_payTiff_5 : decode cX1_payTiff 5 = .ok (.ifCond .eq 31, 3) := by decide +kernel
theorem dX1_payTiff_8 : decode cX1_payTiff 8 = .ok (.aload_n 0, 1) := by decide +kernel
theorem dX1_payTiff_9 : decode cX1_payTiff 9 = .ok (.dup, 1) := by decide +kernel
theorem dX1_payTiff_10 : decode cX1_payTiff 10 = .ok (.getfield 39, 3) := by decide +kernel
theorem dX1_payTiff_13 : decode cX1_payTiff 13 = .ok (.iconst 1, 1) := by decide +kernel
theorem dX1_payTiff_14 : decode cX1_payTiff 14 = .ok (.iadd, 1) := by decide +kernel
theorem dX1_payTiff_15 : decode cX1_payTiff 15 = .ok (.putfield 39, 3) := by decide +kernel
theorem dX1_payTiff_18 : decode cX1_payTiff 18 = .ok (.aload_n 0, 1) := by decide +kernel
theorem dX1_payTiff_19 : decode cX1_payTiff 19 = .ok (.dup, 1) := by decide +kernel
theorem dX1_payTiff_20 : decode cX1_payTiff 20 = .ok (.getfield 42, 3) := by decide +kernel
theorem dX1_payTiff_23 : decode cX1_payTiff 23 = .ok (.aload_n 2, 1) := by decide +kernel
theorem dX1_payTiff_24 : decode cX1_payTiff 24 = .ok (.getfield 102, 3) := by decide +kernel
theorem dX1_payTiff_27 : decode cX1_payTiff 27 = .ok (.iconst 2, 1) := by decide +kernel
theorem dX1_payTiff_28 : decode cX1_payTiff 28 = .ok (.idiv, 1) := by decide +kernel
theorem dX1_payTiff_29 : decode cX1_payTiff 29 = .ok (.iadd, 1) := by decide +kernel
theorem dX1_payTiff_30 : decode cX1_payTiff 30 = .ok (.putfield 42, 3) := by decide +kernel
theorem dX1_payTiff_33 : decode cX1_payTiff 33 = .ok (.goto 16, 3) := by decide +kernel
theorem dX1_payTiff_36 : decode cX1_payTiff 36 = .ok (.aload_n 0, 1) := by decide +kernel
theorem dX1_payTiff_37 : decode cX1_payTiff 37 = .ok (.dup, 1) := by decide +kernel
theorem dX1_payTiff_38 : decode cX1_payTiff 38 = .ok (.getfield 42, 3) := by decide +kernel
theorem dX1_payTiff_41 : decode cX1_payTiff 41 = .ok (.aload_n 2, 1) := by decide +kernel
theorem dX1_payTiff_42 : decode cX1_payTiff 42 = .ok (.getfield 102, 3) := by decide +kernel
theorem dX1_payTiff_45 : decode cX1_payTiff 45 = .ok (.iadd, 1) := by decide +kernel
theorem dX1_payTiff_46 : decode cX1_payTiff 46 = .ok (.putfield 42, 3) := by decide +kernel
theorem dX1_payTiff_49 : decode cX1_payTiff 49 = .ok (.aload_n 0, 1) := by decide +kernel
theorem dX1_payTiff_50 : decode cX1_payTiff 50 = .ok (.dup, 1) := by decide +kernel
theorem dX1_payTiff_51 : decode cX1_payTiff 51 = .ok (.getfield 36, 3) := by decide +kernel
theorem dX1_payTiff_54 : decode cX1_payTiff 54 = .ok (.iconst 1, 1) := by decide +kernel
theorem dX1_payTiff_55 : decode cX1_payTiff 55 = .ok (.iadd, 1) := by decide +kernel
theorem dX1_payTiff_56 : decode cX1_payTiff 56 = .ok (.putfield 36, 3) := by decide +kernel
theorem dX1_payTiff_59 : decode cX1_payTiff 59 = .ok (.aload_n 0, 1) := by decide +kernel
theorem dX1_payTiff_60 : decode cX1_payTiff 60 = .ok (.iconst 1, 1) := by decide +kernel
theorem dX1_payTiff_61 : decode cX1_payTiff 61 = .ok (.putfield 51, 3) := by decide +kernel
theorem dX1_payTiff_64 : decode cX1_payTiff 64 = .ok (.aload_n 0, 1) := by decide +kernel
theorem dX1_payTiff_65 : decode cX1_payTiff 65 = .ok (.iconst 0, 1) := by decide +kernel
theorem dX1_payTiff_66 : decode cX1_payTiff 66 = .ok (.aload_n 0, 1) := by decide +kernel
theorem dX1_payTiff_67 : decode cX1_payTiff 67 = .ok (.getfield 23, 3) := by decide +kernel
theorem dX1_payTiff_70 : decode cX1_payTiff 70 = .ok (.aload_n 2, 1) := by decide +kernel
theorem dX1_payTiff_71 : decode cX1_payTiff 71 = .ok (.getfield 105, 3) := by decide +kernel
theorem dX1_payTiff_74 : decode cX1_payTiff 74 = .ok (.isub, 1) := by decide +kernel
theorem dX1_payTiff_75 : decode cX1_payTiff 75 = .ok (.invokestatic 96, 3) := by decide +kernel
theorem dX1_payTiff_78 : decode cX1_payTiff 78 = .ok (.putfield 23, 3) := by decide +kernel
theorem dX1_payTiff_81 : decode cX1_payTiff 81 = .ok (.return_, 1) := by decide +kernel
theorem dX1_isCalm_0 : decode cX1_isCalm 0 = .ok (.aload_n 0, 1) := by decide +kernel
theorem dX1_isCalm_1 : decode cX1_isCalm 1 = .ok (.getfield 48, 3) := by decide +kernel
theorem dX1_isCalm_4 : decode cX1_isCalm 4 = .ok (.iconst (-1), 1) := by decide +kernel
theorem dX1_isCalm_5 : decode cX1_isCalm 5 = .ok (.if_icmp .ne 17, 3) := by decide +kernel
theorem dX1_isCalm_8 : decode cX1_isCalm 8 = .ok (.iload_n 1, 1) := by decide +kernel
theorem dX1_isCalm_9 : decode cX1_isCalm 9 = .ok (.bipush 10, 2) := by decide +kernel
theorem dX1_isCalm_11 : decode cX1_isCalm 11 = .ok (.if_icmp .lt 7, 3) := by decide +kernel
theorem dX1_isCalm_14 : decode cX1_isCalm 14 = .ok (.iconst 1, 1) := by decide +kernel
theorem dX1_isCalm_15 : decode cX1_isCalm 15 = .ok (.goto 23, 3) := by decide +kernel
theorem dX1_isCalm_18 : decode cX1_isCalm 18 = .ok (.iconst 0, 1) := by decide +kernel
theorem dX1_isCalm_19 : decode cX1_isCalm 19 = .ok (.goto 19, 3) := by decide +kernel
theorem dX1_isCalm_22 : decode cX1_isCalm 22 = .ok (.iload_n 1, 1) := by decide +kernel
theorem dX1_isCalm_23 : decode cX1_isCalm 23 = .ok (.aload_n 0, 1) := by decide +kernel
theorem dX1_isCalm_24 : decode cX1_isCalm 24 = .ok (.getfield 48, 3) := by decide +kernel
theorem dX1_isCalm_27 : decode cX1_isCalm 27 = .ok (.isub, 1) := by decide +kernel
theorem dX1_isCalm_28 : decode cX1_isCalm 28 = .ok (.bipush 10, 2) := by decide +kernel
theorem dX1_isCalm_30 : decode cX1_isCalm 30 = .ok (.if_icmp .lt 7, 3) := by decide +kernel
theorem dX1_isCalm_33 : decode cX1_isCalm 33 = .ok (.iconst 1, 1) := by decide +kernel
theorem dX1_isCalm_34 : decode cX1_isCalm 34 = .ok (.goto 4, 3) := by decide +kernel
theorem dX1_isCalm_37 : decode cX1_isCalm 37 = .ok (.iconst 0, 1) := by decide +kernel
theorem dX1_isCalm_38 : decode cX1_isCalm 38 = .ok (.ireturn, 1) := by decide +kernel
theorem dX1_sulk_0 : decode cX1_sulk 0 = .ok (.aload_n 0, 1) := by decide +kernel
theorem dX1_sulk_1 : decode cX1_sulk 1 = .ok (.dup, 1) := by decide +kernel
theorem dX1_sulk_2 : decode cX1_sulk 2 = .ok (.getfield 26, 3) := by decide +kernel
theorem dX1_sulk_5 : decode cX1_sulk 5 = .ok (.iconst 1, 1) := by decide +kernel
theorem dX1_sulk_6 : decode cX1_sulk 6 = .ok (.iadd, 1) := by decide +kernel
theorem dX1_sulk_7 : decode cX1_sulk 7 = .ok (.putfield 26, 3) := by decide +kernel
theorem dX1_sulk_10 : decode cX1_sulk 10 = .ok (.aload_n 0, 1) := by decide +kernel
theorem dX1_sulk_11 : decode cX1_sulk 11 = .ok (.getfield 26, 3) := by decide +kernel
theorem dX1_sulk_14 : decode cX1_sulk 14 = .ok (.iconst 3, 1) := by decide +kernel
theorem dX1_sulk_15 : decode cX1_sulk 15 = .ok (.if_icmp .lt 8, 3) := by decide +kernel
theorem dX1_sulk_18 : decode cX1_sulk 18 = .ok (.aload_n 0, 1) := by decide +kernel
theorem dX1_sulk_19 : decode cX1_sulk 19 = .ok (.iconst 1, 1) := by decide +kernel
theorem dX1_sulk_20 : decode cX1_sulk 20 = .ok (.putfield 29, 3) := by decide +kernel
theorem dX1_sulk_23 : decode cX1_sulk 23 = .ok (.return_, 1) := by decide +kernel
theorem dX1_beKissed_0 : decode cX1_beKissed 0 = .ok (.aload_n 0, 1) := by decide +kernel
theorem dX1_beKissed_1 : decode cX1_beKissed 1 = .ok (.aload_n 0, 1) := by decide +kernel
theorem dX1_beKissed_2 : decode cX1_beKissed 2 = .ok (.getfield 23, 3) := by decide +kernel
theorem dX1_beKissed_5 : decode cX1_beKissed 5 = .ok (.iconst 2, 1) := by decide +kernel
theorem dX1_beKissed_6 : decode cX1_beKissed 6 = .ok (.idiv, 1) := by decide +kernel
theorem dX1_beKissed_7 : decode cX1_beKissed 7 = .ok (.putfield 23, 3) := by decide +kernel
theorem dX1_beKissed_10 : decode cX1_beKissed 10 = .ok (.aload_n 0, 1) := by decide +kernel
theorem dX1_beKissed_11 : decode cX1_beKissed 11 = .ok (.iconst 0, 1) := by decide +kernel
theorem dX1_beKissed_12 : decode cX1_beKissed 12 = .ok (.putfield 26, 3) := by decide +kernel
theorem dX1_beKissed_15 : decode cX1_beKissed 15 = .ok (.aload_n 0, 1) := by decide +kernel
theorem dX1_beKissed_16 : decode cX1_beKissed 16 = .ok (.iconst 0, 1) := by decide +kernel
theorem dX1_beKissed_17 : decode cX1_beKissed 17 = .ok (.putfield 29, 3) := by decide +kernel
theorem dX1_beKissed_20 : decode cX1_beKissed 20 = .ok (.return_, 1) := by decide +kernel
theorem dX1_beVisited_0 : decode cX1_beVisited 0 = .ok (.aload_n 0, 1) := by decide +kernel
theorem dX1_beVisited_1 : decode cX1_beVisited 1 = .ok (.bipush 99, 2) := by decide +kernel
theorem dX1_beVisited_3 : decode cX1_beVisited 3 = .ok (.aload_n 0, 1) := by decide +kernel
theorem dX1_beVisited_4 : decode cX1_beVisited 4 = .ok (.getfield 23, 3) := by decide +kernel
theorem dX1_beVisited_7 : decode cX1_beVisited 7 = .ok (.bipush 10, 2) := by decide +kernel
theorem dX1_beVisited_9 : decode cX1_beVisited 9 = .ok (.iadd, 1) := by decide +kernel
theorem dX1_beVisited_10 : decode cX1_beVisited 10 = .ok (.invokestatic 64, 3) := by decide +kernel
theorem dX1_beVisited_13 : decode cX1_beVisited 13 = .ok (.putfield 23, 3) := by decide +kernel
theorem dX1_beVisited_16 : decode cX1_beVisited 16 = .ok (.return_, 1) := by decide +kernel
set_option maxRecDepth 20000 in
theorem ggX2_init_X0_init : GoodIn wsX2_init wsX0_init := goodIn_r _ [3, 4, 5, 6] (by decide +kernel) (by decide +kernel)
set_option maxRecDepth 20000 in
theorem gX2_init_X0_init_n1 : GoodIn wsX2_init (wsX0_init) := ggX2_init_X0_init
theorem dX2_init_0 : decode cX2_init 0 = .ok (.aload_n 0, 1) := by decide +kernel
theorem dX2_init_1 : decode cX2_init 1 = .ok (.invokespecial 1, 3) := by decide +kernel
theorem dX2_init_4 : decode cX2_init 4 = .ok (.return_, 1) := by decide +kernel
theorem dX2_number_0 : decode cX2_number 0 = .ok (.iconst 0, 1) := by decide +kernel
theorem dX2_number_1 : decode cX2_number 1 = .ok (.ireturn, 1) := by decide +kernel
set_option maxRecDepth 20000 in
theorem ggX2_quarrel_X1_payTiff : GoodIn wsX2_quarrel wsX1_payTiff := goodIn_r _ [5, 6, 7, 8, 9, 10, 11, 12, 13, 14, 15, 16, 17, 18, 19, 4, 20, 21, 22, 23, 24, 25, 26, 27, 28, 29, 30, 31, 32, 33, 34, 35, 36, 37, 38, 39] (by decide +kernel) (by decide +kernel)
set_option maxRecDepth 20000 in
theorem gX2_quarrel_X1_payTiff : GoodIn wsX2_quarrel (wsV RX2 7 RX1 yX1_payTiff wsX1_payTiff) := goodIn_app (goodIn_of _ (by decide +kernel)) ggX2_quarrel_X1_payTiff
theorem dX2_quarrel_0 : decode cX2_quarrel 0 = .ok (.aload_n 1, 1) := by decide +kernel
theorem dX2_quarrel_1 : decode cX2_quarrel 1 = .ok (.iload_n 2, 1) := by decide +kernel
theorem dX2_quarrel_2 : decode cX2_quarrel 2 = .ok (.aload_n 3, 1) := by decide +kernel
theorem dX2_quarrel_3 : decode cX2_quarrel 3 = .ok (.invokevirtual 7, 3) := by decide +kernel
theorem dX2_quarrel_6 : decode cX2_quarrel 6 = .ok (.return_, 1) := by decide +kernel
set_option maxRecDepth 20000 in
theorem ggX3_init_X2_init : GoodIn wsX3_init wsX2_init := goodIn_r _ [3, 4, 5, 6, 7, 8, 9] (by decide +kernel) (by decide +kernel)
set_option maxRecDepth 20000 in
theorem gX3_init_X2_init_n1 : GoodIn wsX3_init (wsX2_init) := ggX3_init_X2_init
theorem dX3_init_0 : decode cX3_init 0 = .ok (.aload_n 0, 1) := by decide +kernel
theorem dX3_init_1 : decode cX3_init 1 = .ok (.invokespecial 1, 3) := by decide +kernel
theorem dX3_init_4 : decode cX3_init 4 = .ok (.return_, 1) := by decide +kernel
theorem dX3_number_0 : decode cX3_number 0 = .ok (.iconst 1, 1) := by decide +kernel
theorem dX3_number_1 : decode cX3_number 1 = .ok (.ireturn, 1) := by decide +kernel
theorem dX3_gain_0 : decode cX3_gain 0 = .ok (.aload_n 1, 1) := by decide +kernel
theorem dX3_gain_1 : decode cX3_gain 1 = .ok (.getfield 7, 3) := by decide +kernel
theorem dX3_gain_4 : decode cX3_gain 4 = .ok (.ifCond .eq 12, 3) := by decide +kernel
theorem dX3_gain_7 : decode cX3_gain 7 = .ok (.aload_n 1, 1) := by decide +kernel
theorem dX3_gain_8 : decode cX3_gain 8 = .ok (.getfield 13, 3) := by decide +kernel
theorem dX3_gain_11 : decode cX3_gain 11 = .ok (.iconst 2, 1) := by decide +kernel
theorem dX3_gain_12 : decode cX3_gain 12 = .ok (.iadd, 1) := by decide +kernel
theorem dX3_gain_13 : decode cX3_gain 13 = .ok (.goto 7, 3) := by decide +kernel
theorem dX3_gain_16 : decode cX3_gain 16 = .ok (.aload_n 1, 1) := by decide +kernel
theorem dX3_gain_17 : decode cX3_gain 17 = .ok (.getfield 13, 3) := by decide +kernel
theorem dX3_gain_20 : decode cX3_gain 20 = .ok (.ireturn, 1) := by decide +kernel
set_option maxRecDepth 20000 in
theorem ggX4_init_X0_init : GoodIn wsX4_init wsX0_init := goodIn_r _ [3, 4, 5, 6] (by decide +kernel) (by decide +kernel)
set_option maxRecDepth 20000 in
theorem gX4_init_X0_init_n1 : GoodIn wsX4_init (wsX0_init) := ggX4_init_X0_init
theorem dX4_init_0 : decode cX4_init 0 = .ok (.aload_n 0, 1) := by decide +kernel
theorem dX4_init_1 : decode cX4_init 1 = .ok (.invokespecial 1, 3) := by decide +kernel
theorem dX4_init_4 : decode cX4_init 4 = .ok (.return_, 1) := by decide +kernel
theorem dX4_number_0 : decode cX4_number 0 = .ok (.iconst 3, 1) := by decide +kernel
theorem dX4_number_1 : decode cX4_number 1 = .ok (.ireturn, 1) := by decide +kernel
theorem dX4_gain_0 : decode cX4_gain 0 = .ok (.aload_n 1, 1) := by decide +kernel
theorem dX4_gain_1 : decode cX4_gain 1 = .ok (.getfield 7, 3) := by decide +kernel
theorem dX4_gain_4 : decode cX4_gain 4 = .ok (.aload_n 1, 1) := by decide +kernel
theorem dX4_gain_5 : decode cX4_gain 5 = .ok (.getfield 13, 3) := by decide +kernel
theorem dX4_gain_8 : decode cX4_gain 8 = .ok (.iadd, 1) := by decide +kernel
theorem dX4_gain_9 : decode cX4_gain 9 = .ok (.ireturn, 1) := by decide +kernel
set_option maxRecDepth 20000 in
theorem ggX4_quarrel_X1_sulk : GoodIn wsX4_quarrel wsX1_sulk := goodIn_r _ [5, 6, 7, 8, 9, 10, 11, 12, 13, 14, 15, 16, 17, 18, 19] (by decide +kernel) (by decide +kernel)
set_option maxRecDepth 20000 in
theorem gX4_quarrel_X1_sulk : GoodIn wsX4_quarrel (wsV RX4 16 RX1 yX1_sulk wsX1_sulk) := goodIn_app (goodIn_of _ (by decide +kernel)) ggX4_quarrel_X1_sulk
theorem dX4_quarrel_0 : decode cX4_quarrel 0 = .ok (.aload_n 1, 1) := by decide +kernel
theorem dX4_quarrel_1 : decode cX4_quarrel 1 = .ok (.invokevirtual 16, 3) := by decide +kernel
theorem dX4_quarrel_4 : decode cX4_quarrel 4 = .ok (.return_, 1) := by decide +kernel
set_option maxRecDepth 20000 in
theorem ggX5_init_X2_init : GoodIn wsX5_init wsX2_init := goodIn_r _ [3, 4, 5, 6, 7, 8, 9] (by decide +kernel) (by decide +kernel)
set_option maxRecDepth 20000 in
theorem gX5_init_X2_init_n1 : GoodIn wsX5_init (wsX2_init) := ggX5_init_X2_init
theorem dX5_init_0 : decode cX5_init 0 = .ok (.aload_n 0, 1) := by decide +kernel
theorem dX5_init_1 : decode cX5_init 1 = .ok (.invokespecial 1, 3) := by decide +kernel
theorem dX5_init_4 : decode cX5_init 4 = .ok (.return_, 1) := by decide +kernel
theorem dX5_number_0 : decode cX5_number 0 = .ok (.iconst 2, 1) := by decide +kernel
theorem dX5_number_1 : decode cX5_number 1 = .ok (.ireturn, 1) := by decide +kernel
theorem dX5_gain_0 : decode cX5_gain 0 = .ok (.iload_n 2, 1) := by decide +kernel
theorem dX5_gain_1 : decode cX5_gain 1 = .ok (.invokestatic 7, 3) := by decide +kernel
theorem dX5_gain_4 : decode cX5_gain 4 = .ok (.ifCond .eq 12, 3) := by decide +kernel
theorem dX5_gain_7 : decode cX5_gain 7 = .ok (.iconst 2, 1) := by decide +kernel
theorem dX5_gain_8 : decode cX5_gain 8 = .ok (.aload_n 1, 1) := by decide +kernel
theorem dX5_gain_9 : decode cX5_gain 9 = .ok (.getfield 13, 3) := by decide +kernel
theorem dX5_gain_12 : decode cX5_gain 12 = .ok (.imul, 1) := by decide +kernel
theorem dX5_gain_13 : decode cX5_gain 13 = .ok (.goto 7, 3) := by decide +kernel
theorem dX5_gain_16 : decode cX5_gain 16 = .ok (.aload_n 1, 1) := by decide +kernel
theorem dX5_gain_17 : decode cX5_gain 17 = .ok (.getfield 13, 3) := by decide +kernel
theorem dX5_gain_20 : decode cX5_gain 20 = .ok (.ireturn, 1) := by decide +kernel
theorem dX5_isCovered_0 : decode cX5_isCovered 0 = .ok (.iload_n 1, 1) := by decide +kernel
theorem dX5_isCovered_1 : decode cX5_isCovered 1 = .ok (.invokestatic 7, 3) := by decide +kernel
theorem dX5_isCovered_4 : decode cX5_isCovered 4 = .ok (.ireturn, 1) := by decide +kernel
set_option maxRecDepth 20000 in
theorem ggX6_init_X6_clear : GoodIn wsX6_init wsX6_clear := goodIn_r _ [8, 9, 10, 11, 12, 13, 14, 15, 16, 17, 18, 19, 20] (by decide +kernel) (by decide +kernel)
set_option maxRecDepth 20000 in
theorem gX6_init_X6_clear : GoodIn wsX6_init (wsV RX6 7 RX6 yX6_clear wsX6_clear) := goodIn_app (goodIn_of _ (by decide +kernel)) ggX6_init_X6_clear
theorem dX6_init_0 : decode cX6_init 0 = .ok (.aload_n 0, 1) := by decide +kernel
theorem dX6_init_1 : decode cX6_init 1 = .ok (.invokespecial 1, 3) := by decide +kernel
theorem dX6_init_4 : decode cX6_init 4 = .ok (.aload_n 0, 1) := by decide +kernel
theorem dX6_init_5 : decode cX6_init 5 = .ok (.invokevirtual 7, 3) := by decide +kernel
theorem dX6_init_8 : decode cX6_init 8 = .ok (.return_, 1) := by decide +kernel
theorem dX6_clear_0 : decode cX6_clear 0 = .ok (.aload_n 0, 1) := by decide +kernel
theorem dX6_clear_1 : decode cX6_clear 1 = .ok (.iconst 5, 1) := by decide +kernel
theorem dX6_clear_2 : decode cX6_clear 2 = .ok (.putfield 12, 3) := by decide +kernel
theorem dX6_clear_5 : decode cX6_clear 5 = .ok (.aload_n 0, 1) := by decide +kernel
theorem dX6_clear_6 : decode cX6_clear 6 = .ok (.bipush 40, 2) := by decide +kernel
theorem dX6_clear_8 : decode cX6_clear 8 = .ok (.putfield 16, 3) := by decide +kernel
theorem dX6_clear_11 : decode cX6_clear 11 = .ok (.aload_n 0, 1) := by decide +kernel
theorem dX6_clear_12 : decode cX6_clear 12 = .ok (.iconst 2, 1) := by decide +kernel
theorem dX6_clear_13 : decode cX6_clear 13 = .ok (.putfield 19, 3) := by decide +kernel
theorem dX6_clear_16 : decode cX6_clear 16 = .ok (.aload_n 0, 1) := by decide +kernel
theorem dX6_clear_17 : decode cX6_clear 17 = .ok (.bipush 12, 2) := by decide +kernel
theorem dX6_clear_19 : decode cX6_clear 19 = .ok (.putfield 22, 3) := by decide +kernel
theorem dX6_clear_22 : decode cX6_clear 22 = .ok (.aload_n 0, 1) := by decide +kernel
theorem dX6_clear_23 : decode cX6_clear 23 = .ok (.bipush 30, 2) := by decide +kernel
theorem dX6_clear_25 : decode cX6_clear 25 = .ok (.putfield 25, 3) := by decide +kernel
theorem dX6_clear_28 : decode cX6_clear 28 = .ok (.aload_n 0, 1) := by decide +kernel
theorem dX6_clear_29 : decode cX6_clear 29 = .ok (.bipush 6, 2) := by decide +kernel
theorem dX6_clear_31 : decode cX6_clear 31 = .ok (.putfield 28, 3) := by decide +kernel
theorem dX6_clear_34 : decode cX6_clear 34 = .ok (.return_, 1) := by decide +kernel
theorem dX6_copy_0 : decode cX6_copy 0 = .ok (.aload_n 0, 1) := by decide +kernel
theorem dX6_copy_1 : decode cX6_copy 1 = .ok (.aload_n 1, 1) := by decide +kernel
theorem dX6_copy_2 : decode cX6_copy 2 = .ok (.getfield 12, 3) := by decide +kernel
theorem dX6_copy_5 : decode cX6_copy 5 = .ok (.putfield 12, 3) := by decide +kernel
theorem dX6_copy_8 : decode cX6_copy 8 = .ok (.aload_n 0, 1) := by decide +kernel
theorem dX6_copy_9 : decode cX6_copy 9 = .ok (.aload_n 1, 1) := by decide +kernel
theorem dX6_copy_10 : decode cX6_copy 10 = .ok (.getfield 16, 3) := by decide +kernel
theorem dX6_copy_13 : decode cX6_copy 13 = .ok (.putfield 16, 3) := by decide +kernel
theorem dX6_copy_16 : decode cX6_copy 16 = .ok (.aload_n 0, 1) := by decide +kernel
theorem dX6_copy_17 : decode cX6_copy 17 = .ok (.aload_n 1, 1) := by decide +kernel
theorem dX6_copy_18 : decode cX6_copy 18 = .ok (.getfield 19, 3) := by decide +kernel
theorem dX6_copy_21 : decode cX6_copy 21 = .ok (.putfield 19, 3) := by decide +kernel
theorem dX6_copy_24 : decode cX6_copy 24 = .ok (.aload_n 0, 1) := by decide +kernel
theorem dX6_copy_25 : decode cX6_copy 25 = .ok (.aload_n 1, 1) := by decide +kernel
theorem dX6_copy_26 : decode cX6_copy 26 = .ok (.getfield 22, 3) := by decide +kernel
theorem dX6_copy_29 : decode cX6_copy 29 = .ok (.putfield 22, 3) := by decide +kernel
theorem dX6_copy_32 : decode cX6_copy 32 = .ok (.aload_n 0, 1) := by decide +kernel
theorem dX6_copy_33 : decode cX6_copy 33 = .ok (.aload_n 1, 1) := by decide +kernel
theorem dX6_copy_34 : decode cX6_copy 34 = .ok (.getfield 25, 3) := by decide +kernel
theorem dX6_copy_37 : decode cX6_copy 37 = .ok (.putfield 25, 3) := by decide +kernel
theorem dX6_copy_40 : decode cX6_copy 40 = .ok (.aload_n 0, 1) := by decide +kernel
theorem dX6_copy_41 : decode cX6_copy 41 = .ok (.aload_n 1, 1) := by decide +kernel
theorem dX6_copy_42 : decode cX6_copy 42 = .ok (.getfield 28, 3) := by decide +kernel
theorem dX6_copy_45 : decode cX6_copy 45 = .ok (.putfield 28, 3) := by decide +kernel
theorem dX6_copy_48 : decode cX6_copy 48 = .ok (.return_, 1) := by decide +kernel
theorem dX6_get_0 : decode cX6_get 0 = .ok (.iload_n 1, 1) := by decide +kernel
theorem dX6_get_1 : decode cX6_get 1 = .ok (.tableswitch 60 0 4 #[35, 40, 45, 50, 55], 35) := by decide +kernel
theorem dX6_get_36 : decode cX6_get 36 = .ok (.aload_n 0, 1) := by decide +kernel
theorem dX6_get_37 : decode cX6_get 37 = .ok (.getfield 12, 3) := by decide +kernel
theorem dX6_get_40 : decode cX6_get 40 = .ok (.ireturn, 1) := by decide +kernel
theorem dX6_get_41 : decode cX6_get 41 = .ok (.aload_n 0, 1) := by decide +kernel
theorem dX6_get_42 : decode cX6_get 42 = .ok (.getfield 16, 3) := by decide +kernel
theorem dX6_get_45 : decode cX6_get 45 = .ok (.ireturn, 1) := by decide +kernel
theorem dX6_get_46 : decode cX6_get 46 = .ok (.aload_n 0, 1) := by decide +kernel
theorem dX6_get_47 : decode cX6_get 47 = .ok (.getfield 19, 3) := by decide +kernel
theorem dX6_get_50 : decode cX6_get 50 = .ok (.ireturn, 1) := by decide +kernel
theorem dX6_get_51 : decode cX6_get 51 = .ok (.aload_n 0, 1) := by decide +kernel
theorem dX6_get_52 : decode cX6_get 52 = .ok (.getfield 22, 3) := by decide +kernel
theorem dX6_get_55 : decode cX6_get 55 = .ok (.ireturn, 1) := by decide +kernel
theorem dX6_get_56 : decode cX6_get 56 = .ok (.aload_n 0, 1) := by decide +kernel
theorem dX6_get_57 : decode cX6_get 57 = .ok (.getfield 25, 3) := by decide +kernel
theorem dX6_get_60 : decode cX6_get 60 = .ok (.ireturn, 1) := by decide +kernel
theorem dX6_get_61 : decode cX6_get 61 = .ok (.aload_n 0, 1) := by decide +kernel
theorem dX6_get_62 : decode cX6_get 62 = .ok (.getfield 28, 3) := by decide +kernel
theorem dX6_get_65 : decode cX6_get 65 = .ok (.ireturn, 1) := by decide +kernel
theorem dX6_set_0 : decode cX6_set 0 = .ok (.iload_n 1, 1) := by decide +kernel
theorem dX6_set_1 : decode cX6_set 1 = .ok (.tableswitch 75 0 4 #[35, 43, 51, 59, 67], 35) := by decide +kernel
theorem dX6_set_36 : decode cX6_set 36 = .ok (.aload_n 0, 1) := by decide +kernel
theorem dX6_set_37 : decode cX6_set 37 = .ok (.iload_n 2, 1) := by decide +kernel
theorem dX6_set_38 : decode cX6_set 38 = .ok (.putfield 12, 3) := by decide +kernel
theorem dX6_set_41 : decode cX6_set 41 = .ok (.goto 40, 3) := by decide +kernel
theorem dX6_set_44 : decode cX6_set 44 = .ok (.aload_n 0, 1) := by decide +kernel
theorem dX6_set_45 : decode cX6_set 45 = .ok (.iload_n 2, 1) := by decide +kernel
theorem dX6_set_46 : decode cX6_set 46 = .ok (.putfield 16, 3) := by decide +kernel
theorem dX6_set_49 : decode cX6_set 49 = .ok (.goto 32, 3) := by decide +kernel
theorem dX6_set_52 : decode cX6_set 52 = .ok (.aload_n 0, 1) := by decide +kernel
theorem dX6_set_53 : decode cX6_set 53 = .ok (.iload_n 2, 1) := by decide +kernel
theorem dX6_set_54 : decode cX6_set 54 = .ok (.putfield 19, 3) := by decide +kernel
theorem dX6_set_57 : decode cX6_set 57 = .ok (.goto 24, 3) := by decide +kernel
theorem dX6_set_60 : decode cX6_set 60 = .ok (.aload_n 0, 1) := by decide +kernel
theorem dX6_set_61 : decode cX6_set 61 = .ok (.iload_n 2, 1) := by decide +kernel
theorem dX6_set_62 : decode cX6_set 62 = .ok (.putfield 22, 3) := by decide +kernel
theorem dX6_set_65 : decode cX6_set 65 = .ok (.goto 16, 3) := by decide +kernel
theorem dX6_set_68 : decode cX6_set 68 = .ok (.aload_n 0, 1) := by decide +kernel
theorem dX6_set_69 : decode cX6_set 69 = .ok (.iload_n 2, 1) := by decide +kernel
theorem dX6_set_70 : decode cX6_set 70 = .ok (.putfield 25, 3) := by decide +kernel
theorem dX6_set_73 : decode cX6_set 73 = .ok (.goto 8, 3) := by decide +kernel
theorem dX6_set_76 : decode cX6_set 76 = .ok (.aload_n 0, 1) := by decide +kernel
theorem dX6_set_77 : decode cX6_set 77 = .ok (.iload_n 2, 1) := by decide +kernel
theorem dX6_set_78 : decode cX6_set 78 = .ok (.putfield 28, 3) := by decide +kernel
theorem dX6_set_81 : decode cX6_set 81 = .ok (.return_, 1) := by decide +kernel
theorem dX7_init_0 : decode cX7_init 0 = .ok (.aload_n 0, 1) := by decide +kernel
theorem dX7_init_1 : decode cX7_init 1 = .ok (.invokespecial 3, 3) := by decide +kernel
theorem dX7_init_4 : decode cX7_init 4 = .ok (.aload_n 0, 1) := by decide +kernel
theorem dX7_init_5 : decode cX7_init 5 = .ok (.sipush 160, 3) := by decide +kernel
theorem dX7_init_8 : decode cX7_init 8 = .ok (.newarray .int, 2) := by decide +kernel
theorem dX7_init_10 : decode cX7_init 10 = .ok (.putfield 11, 3) := by decide +kernel
theorem dX7_init_13 : decode cX7_init 13 = .ok (.aload_n 0, 1) := by decide +kernel
theorem dX7_init_14 : decode cX7_init 14 = .ok (.bipush 14, 2) := by decide +kernel
theorem dX7_init_16 : decode cX7_init 16 = .ok (.newarray .int, 2) := by decide +kernel
theorem dX7_init_18 : decode cX7_init 18 = .ok (.putfield 15, 3) := by decide +kernel
theorem dX7_init_21 : decode cX7_init 21 = .ok (.aload_n 0, 1) := by decide +kernel
theorem dX7_init_22 : decode cX7_init 22 = .ok (.bipush 14, 2) := by decide +kernel
theorem dX7_init_24 : decode cX7_init 24 = .ok (.newarray .int, 2) := by decide +kernel
theorem dX7_init_26 : decode cX7_init 26 = .ok (.putfield 18, 3) := by decide +kernel
theorem dX7_init_29 : decode cX7_init 29 = .ok (.aload_n 0, 1) := by decide +kernel
theorem dX7_init_30 : decode cX7_init 30 = .ok (.bipush 14, 2) := by decide +kernel
theorem dX7_init_32 : decode cX7_init 32 = .ok (.newarray .int, 2) := by decide +kernel
theorem dX7_init_34 : decode cX7_init 34 = .ok (.putfield 21, 3) := by decide +kernel
theorem dX7_init_37 : decode cX7_init 37 = .ok (.return_, 1) := by decide +kernel
theorem dX7_isCouple_0 : decode cX7_isCouple 0 = .ok (.iload_n 0, 1) := by decide +kernel
theorem dX7_isCouple_1 : decode cX7_isCouple 1 = .ok (.iconst 1, 1) := by decide +kernel
theorem dX7_isCouple_2 : decode cX7_isCouple 2 = .ok (.if_icmp .lt 12, 3) := by decide +kernel
theorem dX7_isCouple_5 : decode cX7_isCouple 5 = .ok (.iload_n 0, 1) := by decide +kernel
theorem dX7_isCouple_6 : decode cX7_isCouple 6 = .ok (.iconst 5, 1) := by decide +kernel
theorem dX7_isCouple_7 : decode cX7_isCouple 7 = .ok (.if_icmp .ge 7, 3) := by decide +kernel
theorem dX7_isCouple_10 : decode cX7_isCouple 10 = .ok (.iconst 1, 1) := by decide +kernel
theorem dX7_isCouple_11 : decode cX7_isCouple 11 = .ok (.goto 4, 3) := by decide +kernel
theorem dX7_isCouple_14 : decode cX7_isCouple 14 = .ok (.iconst 0, 1) := by decide +kernel
theorem dX7_isCouple_15 : decode cX7_isCouple 15 = .ok (.ireturn, 1) := by decide +kernel
theorem dX7_append_0 : decode cX7_append 0 = .ok (.aload_n 0, 1) := by decide +kernel
theorem dX7_append_1 : decode cX7_append 1 = .ok (.getfield 24, 3) := by decide +kernel
theorem dX7_append_4 : decode cX7_append 4 = .ok (.ifCond .lt 13, 3) := by decide +kernel
theorem dX7_append_7 : decode cX7_append 7 = .ok (.aload_n 0, 1) := by decide +kernel
theorem dX7_append_8 : decode cX7_append 8 = .ok (.getfield 24, 3) := by decide +kernel
theorem dX7_append_11 : decode cX7_append 11 = .ok (.sipush 160, 3) := by decide +kernel
theorem dX7_append_14 : decode cX7_append 14 = .ok (.if_icmp .lt 5, 3) := by decide +kernel
theorem dX7_append_17 : decode cX7_append 17 = .ok (.iconst 0, 1) := by decide +kernel
theorem dX7_append_18 : decode cX7_append 18 = .ok (.ireturn, 1) := by decide +kernel
theorem dX7_append_19 : decode cX7_append 19 = .ok (.aload_n 0, 1) := by decide +kernel
theorem dX7_append_20 : decode cX7_append 20 = .ok (.getfield 11, 3) := by decide +kernel
theorem dX7_append_23 : decode cX7_append 23 = .ok (.aload_n 0, 1) := by decide +kernel
theorem dX7_append_24 : decode cX7_append 24 = .ok (.getfield 24, 3) := by decide +kernel
theorem dX7_append_27 : decode cX7_append 27 = .ok (.iload_n 1, 1) := by decide +kernel
theorem dX7_append_28 : decode cX7_append 28 = .ok (.iastore, 1) := by decide +kernel
theorem dX7_append_29 : decode cX7_append 29 = .ok (.aload_n 0, 1) := by decide +kernel
theorem dX7_append_30 : decode cX7_append 30 = .ok (.dup, 1) := by decide +kernel
theorem dX7_append_31 : decode cX7_append 31 = .ok (.getfield 24, 3) := by decide +kernel
theorem dX7_append_34 : decode cX7_append 34 = .ok (.iconst 1, 1) := by decide +kernel
theorem dX7_append_35 : decode cX7_append 35 = .ok (.iadd, 1) := by decide +kernel
theorem dX7_append_36 : decode cX7_append 36 = .ok (.putfield 24, 3) := by decide +kernel
theorem dX7_append_39 : decode cX7_append 39 = .ok (.iconst 1, 1) := by decide +kernel
theorem dX7_append_40 : decode cX7_append 40 = .ok (.ireturn, 1) := by decide +kernel
set_option maxRecDepth 20000 in
theorem ggX7_read_X7_nextToken : GoodIn wsX7_read wsX7_nextToken := goodIn_r _ [10, 2, 3, 5, 11, 12, 13, 14, 15, 16, 17, 9, 18, 19, 20, 21, 22, 23, 97, 98, 99, 100, 101, 102, 103, 104] (by decide +kernel) (by decide +kernel)
set_option maxRecDepth 20000 in
theorem gX7_read_X7_nextToken : GoodIn wsX7_read (wsV RX7 34 RX7 yX7_nextToken wsX7_nextToken) := goodIn_app (goodIn_of _ (by decide +kernel)) ggX7_read_X7_nextToken
set_option maxRecDepth 20000 in
theorem ggX7_read_X7_word : GoodIn wsX7_read wsX7_word := goodIn_r _ [27, 3, 2, 20, 21, 22, 9, 23, 15, 16, 17, 18, 5, 19, 28, 29, 30, 31, 32, 33, 34, 35, 36, 37, 38, 39, 40, 41, 42, 43, 44, 45, 46, 47, 48, 49, 50, 51, 52, 53, 54, 55, 56, 57, 58, 59, 60, 61, 62, 63, 64, 65, 66, 67, 68, 69, 70, 71, 72, 73, 74, 75, 76, 77, 78, 79, 80, 97, 98, 99, 100, 101, 102, 103, 104] (by decide +kernel) (by decide +kernel)
set_option maxRecDepth 20000 in
theorem gX7_read_X7_word : GoodIn wsX7_read (wsV RX7 37 RX7 yX7_word wsX7_word) := goodIn_app (goodIn_of _ (by decide +kernel)) ggX7_read_X7_word
set_option maxRecDepth 20000 in
theorem ggX7_read_X7_isCouple : GoodIn wsX7_read wsX7_isCouple := goodIn_r _ [83] (by decide +kernel) (by decide +kernel)
set_option maxRecDepth 20000 in
theorem gX7_read_X7_isCouple : GoodIn wsX7_read (va_wsS RX7 41 yX7_isCouple wsX7_isCouple) := goodIn_app (goodIn_of _ (by decide +kernel)) ggX7_read_X7_isCouple
set_option maxRecDepth 20000 in
theorem ggX7_read_X7_readNumbers : GoodIn wsX7_read wsX7_readNumbers := goodIn_r _ [87, 88, 89, 81, 82, 9, 83, 90, 91, 92, 93, 2, 3, 6, 7, 8, 10, 5, 11, 12, 13, 14, 15, 16, 17, 18, 19, 20, 21, 22, 23, 94, 95, 96, 97, 98, 99, 100, 101, 102, 103, 104] (by decide +kernel) (by decide +kernel)
set_option maxRecDepth 20000 in
theorem gX7_read_X7_readNumbers : GoodIn wsX7_read (wsV RX7 48 RX7 yX7_readNumbers wsX7_readNumbers) := goodIn_app (goodIn_of _ (by decide +kernel)) ggX7_read_X7_readNumbers
set_option maxRecDepth 20000 in
theorem ggX7_read_X7_letterAt : GoodIn wsX7_read wsX7_letterAt := goodIn_r _ [18, 5, 19, 97, 98, 99, 100, 101, 102, 103, 104] (by decide +kernel) (by decide +kernel)
set_option maxRecDepth 20000 in
theorem gX7_read_X7_letterAt : GoodIn wsX7_read (wsV RX7 52 RX7 yX7_letterAt wsX7_letterAt) := goodIn_app (goodIn_of _ (by decide +kernel)) ggX7_read_X7_letterAt
theorem dX7_read_0 : decode cX7_read 0 = .ok (.iload_n 1, 1) := by decide +kernel
theorem dX7_read_1 : decode cX7_read 1 = .ok (.istore_n 2, 1) := by decide +kernel
theorem dX7_read_2 : decode cX7_read 2 = .ok (.aload_n 0, 1) := by decide +kernel
theorem dX7_read_3 : decode cX7_read 3 = .ok (.iconst 0, 1) := by decide +kernel
theorem dX7_read_4 : decode cX7_read 4 = .ok (.putfield 28, 3) := by decide +kernel
theorem dX7_read_7 : decode cX7_read 7 = .ok (.aload_n 0, 1) := by decide +kernel
theorem dX7_read_8 : decode cX7_read 8 = .ok (.iconst 0, 1) := by decide +kernel
theorem dX7_read_9 : decode cX7_read 9 = .ok (.putfield 31, 3) := by decide +kernel
theorem dX7_read_12 : decode cX7_read 12 = .ok (.iconst 0, 1) := by decide +kernel
theorem dX7_read_13 : decode cX7_read 13 = .ok (.istore_n 3, 1) := by decide +kernel
theorem dX7_read_14 : decode cX7_read 14 = .ok (.iload_n 3, 1) := by decide +kernel
theorem dX7_read_15 : decode cX7_read 15 = .ok (.bipush 14, 2) := by decide +kernel
theorem dX7_read_17 : decode cX7_read 17 = .ok (.if_icmp .ge 134, 3) := by decide +kernel
theorem dX7_read_20 : decode cX7_read 20 = .ok (.aload_n 0, 1) := by decide +kernel
theorem dX7_read_21 : decode cX7_read 21 = .ok (.invokevirtual 34, 3) := by decide +kernel
theorem dX7_read_24 : decode cX7_read 24 = .ok (.aload_n 0, 1) := by decide +kernel
theorem dX7_read_25 : decode cX7_read 25 = .ok (.invokevirtual 37, 3) := by decide +kernel
theorem dX7_read_28 : decode cX7_read 28 = .ok (.istore 4, 2) := by decide +kernel
theorem dX7_read_30 : decode cX7_read 30 = .ok (.iload 4, 2) := by decide +kernel
theorem dX7_read_32 : decode cX7_read 32 = .ok (.iconst (-1), 1) := by decide +kernel
theorem dX7_read_33 : decode cX7_read 33 = .ok (.if_icmp .eq 17, 3) := by decide +kernel
theorem dX7_read_36 : decode cX7_read 36 = .ok (.iload 4, 2) := by decide +kernel
theorem dX7_read_38 : decode cX7_read 38 = .ok (.invokestatic 41, 3) := by decide +kernel
theorem dX7_read_41 : decode cX7_read 41 = .ok (.ifCond .eq 14, 3) := by decide +kernel
theorem dX7_read_44 : decode cX7_read 44 = .ok (.iload_n 2, 1) := by decide +kernel
theorem dX7_read_45 : decode cX7_read 45 = .ok (.bipush 6, 2) := by decide +kernel
theorem dX7_read_47 : decode cX7_read 47 = .ok (.if_icmp .lt 8, 3) := by decide +kernel
theorem dX7_read_50 : decode cX7_read 50 = .ok (.aload_n 0, 1) := by decide +kernel
theorem dX7_read_51 : decode cX7_read 51 = .ok (.getfield 45, 3) := by decide +kernel
theorem dX7_read_54 : decode cX7_read 54 = .ok (.ireturn, 1) := by decide +kernel
theorem dX7_read_55 : decode cX7_read 55 = .ok (.aload_n 0, 1) := by decide +kernel
theorem dX7_read_56 : decode cX7_read 56 = .ok (.iload_n 3, 1) := by decide +kernel
theorem dX7_read_57 : decode cX7_read 57 = .ok (.iload 4, 2) := by decide +kernel
theorem dX7_read_59 : decode cX7_read 59 = .ok (.invokevirtual 48, 3) := by decide +kernel
theorem dX7_read_62 : decode cX7_read 62 = .ok (.ifCond .ne 8, 3) := by decide +kernel
theorem dX7_read_65 : decode cX7_read 65 = .ok (.aload_n 0, 1) := by decide +kernel
theorem dX7_read_66 : decode cX7_read 66 = .ok (.getfield 45, 3) := by decide +kernel
theorem dX7_read_69 : decode cX7_read 69 = .ok (.ireturn, 1) := by decide +kernel
theorem dX7_read_70 : decode cX7_read 70 = .ok (.aload_n 0, 1) := by decide +kernel
theorem dX7_read_71 : decode cX7_read 71 = .ok (.getfield 15, 3) := by decide +kernel
theorem dX7_read_74 : decode cX7_read 74 = .ok (.iload_n 3, 1) := by decide +kernel
theorem dX7_read_75 : decode cX7_read 75 = .ok (.iload 4, 2) := by decide +kernel
theorem dX7_read_77 : decode cX7_read 77 = .ok (.iastore, 1) := by decide +kernel
theorem dX7_read_78 : decode cX7_read 78 = .ok (.aload_n 0, 1) := by decide +kernel
theorem dX7_read_79 : decode cX7_read 79 = .ok (.iload_n 3, 1) := by decide +kernel
theorem dX7_read_80 : decode cX7_read 80 = .ok (.iconst 1, 1) := by decide +kernel
theorem dX7_read_81 : decode cX7_read 81 = .ok (.iadd, 1) := by decide +kernel
theorem dX7_read_82 : decode cX7_read 82 = .ok (.putfield 28, 3) := by decide +kernel
theorem dX7_read_85 : decode cX7_read 85 = .ok (.iload 4, 2) := by decide +kernel
theorem dX7_read_87 : decode cX7_read 87 = .ok (.ifCond .ne 7, 3) := by decide +kernel
theorem dX7_read_90 : decode cX7_read 90 = .ok (.iconst 0, 1) := by decide +kernel
theorem dX7_read_91 : decode cX7_read 91 = .ok (.goto 18, 3) := by decide +kernel
theorem dX7_read_94 : decode cX7_read 94 = .ok (.iload 4, 2) := by decide +kernel
theorem dX7_read_96 : decode cX7_read 96 = .ok (.invokestatic 41, 3) := by decide +kernel
theorem dX7_read_99 : decode cX7_read 99 = .ok (.ifCond .eq 9, 3) := by decide +kernel
theorem dX7_read_102 : decode cX7_read 102 = .ok (.iload_n 2, 1) := by decide +kernel
theorem dX7_read_103 : decode cX7_read 103 = .ok (.iconst 1, 1) := by decide +kernel
theorem dX7_read_104 : decode cX7_read 104 = .ok (.iadd, 1) := by decide +kernel
theorem dX7_read_105 : decode cX7_read 105 = .ok (.goto 4, 3) := by decide +kernel
theorem dX7_read_108 : decode cX7_read 108 = .ok (.iload_n 2, 1) := by decide +kernel
theorem dX7_read_109 : decode cX7_read 109 = .ok (.istore_n 2, 1) := by decide +kernel
theorem dX7_read_110 : decode cX7_read 110 = .ok (.aload_n 0, 1) := by decide +kernel
theorem dX7_read_111 : decode cX7_read 111 = .ok (.invokevirtual 34, 3) := by decide +kernel
theorem dX7_read_114 : decode cX7_read 114 = .ok (.aload_n 0, 1) := by decide +kernel
theorem dX7_read_115 : decode cX7_read 115 = .ok (.getfield 45, 3) := by decide +kernel
theorem dX7_read_118 : decode cX7_read 118 = .ok (.aload_n 0, 1) := by decide +kernel
theorem dX7_read_119 : decode cX7_read 119 = .ok (.getfield 24, 3) := by decide +kernel
theorem dX7_read_122 : decode cX7_read 122 = .ok (.if_icmp .lt 5, 3) := by decide +kernel
theorem dX7_read_125 : decode cX7_read 125 = .ok (.iconst (-1), 1) := by decide +kernel
theorem dX7_read_126 : decode cX7_read 126 = .ok (.ireturn, 1) := by decide +kernel
theorem dX7_read_127 : decode cX7_read 127 = .ok (.aload_n 0, 1) := by decide +kernel
theorem dX7_read_128 : decode cX7_read 128 = .ok (.aload_n 0, 1) := by decide +kernel
theorem dX7_read_129 : decode cX7_read 129 = .ok (.getfield 45, 3) := by decide +kernel
theorem dX7_read_132 : decode cX7_read 132 = .ok (.invokevirtual 52, 3) := by decide +kernel
theorem dX7_read_135 : decode cX7_read 135 = .ok (.bipush 59, 2) := by decide +kernel
theorem dX7_read_137 : decode cX7_read 137 = .ok (.if_icmp .eq 8, 3) := by decide +kernel
theorem dX7_read_140 : decode cX7_read 140 = .ok (.aload_n 0, 1) := by decide +kernel
theorem dX7_read_141 : decode cX7_read 141 = .ok (.getfield 45, 3) := by decide +kernel
theorem dX7_read_144 : decode cX7_read 144 = .ok (.ireturn, 1) := by decide +kernel
theorem dX7_read_145 : decode cX7_read 145 = .ok (.iinc 3 1, 3) := by decide +kernel
theorem dX7_read_148 : decode cX7_read 148 = .ok (.goto (-134), 3) := by decide +kernel
theorem dX7_read_151 : decode cX7_read 151 = .ok (.aload_n 0, 1) := by decide +kernel
theorem dX7_read_152 : decode cX7_read 152 = .ok (.getfield 45, 3) := by decide +kernel
theorem dX7_read_155 : decode cX7_read 155 = .ok (.ireturn, 1) := by decide +kernel
set_option maxRecDepth 20000 in
theorem ggX7_readNumbers_X7_isCouple : GoodIn wsX7_readNumbers wsX7_isCouple := goodIn_r _ [6] (by decide +kernel) (by decide +kernel)
set_option maxRecDepth 20000 in
theorem gX7_readNumbers_X7_isCouple : GoodIn wsX7_readNumbers (va_wsS RX7 41 yX7_isCouple wsX7_isCouple) := goodIn_app (goodIn_of _ (by decide +kernel)) ggX7_readNumbers_X7_isCouple
set_option maxRecDepth 20000 in
theorem ggX7_readNumbers_X7_number : GoodIn wsX7_readNumbers wsX7_number := goodIn_r _ [10, 11, 12, 13, 14, 15, 5, 16, 17, 18, 19, 20, 21, 22, 23, 24, 25, 26, 27, 28, 29, 30, 31, 32, 33, 34, 35, 36, 37, 38, 39, 40, 41] (by decide +kernel) (by decide +kernel)
set_option maxRecDepth 20000 in
theorem gX7_readNumbers_X7_number : GoodIn wsX7_readNumbers (wsV RX7 56 RX7 yX7_number wsX7_number) := goodIn_app (goodIn_of _ (by decide +kernel)) ggX7_readNumbers_X7_number
theorem dX7_readNumbers_0 : decode cX7_readNumbers 0 = .ok (.iload_n 2, 1) := by decide +kernel
theorem dX7_readNumbers_1 : decode cX7_readNumbers 1 = .ok (.ifCond .ne 5, 3) := by decide +kernel
theorem dX7_readNumbers_4 : decode cX7_readNumbers 4 = .ok (.iconst 1, 1) := by decide +kernel
theorem dX7_readNumbers_5 : decode cX7_readNumbers 5 = .ok (.ireturn, 1) := by decide +kernel
theorem dX7_readNumbers_6 : decode cX7_readNumbers 6 = .ok (.iload_n 2, 1) := by decide +kernel
theorem dX7_readNumbers_7 : decode cX7_readNumbers 7 = .ok (.invokestatic 41, 3) := by decide +kernel
theorem dX7_readNumbers_10 : decode cX7_readNumbers 10 = .ok (.ifCond .eq 57, 3) := by decide +kernel
theorem dX7_readNumbers_13 : decode cX7_readNumbers 13 = .ok (.aload_n 0, 1) := by decide +kernel
theorem dX7_readNumbers_14 : decode cX7_readNumbers 14 = .ok (.getfield 18, 3) := by decide +kernel
theorem dX7_readNumbers_17 : decode cX7_readNumbers 17 = .ok (.iload_n 1, 1) := by decide +kernel
theorem dX7_readNumbers_18 : decode cX7_readNumbers 18 = .ok (.aload_n 0, 1) := by decide +kernel
theorem dX7_readNumbers_19 : decode cX7_readNumbers 19 = .ok (.iconst 1, 1) := by decide +kernel
theorem dX7_readNumbers_20 : decode cX7_readNumbers 20 = .ok (.bipush 9, 2) := by decide +kernel
theorem dX7_readNumbers_22 : decode cX7_readNumbers 22 = .ok (.invokevirtual 56, 3) := by decide +kernel
theorem dX7_readNumbers_25 : decode cX7_readNumbers 25 = .ok (.iastore, 1) := by decide +kernel
theorem dX7_readNumbers_26 : decode cX7_readNumbers 26 = .ok (.aload_n 0, 1) := by decide +kernel
theorem dX7_readNumbers_27 : decode cX7_readNumbers 27 = .ok (.getfield 18, 3) := by decide +kernel
theorem dX7_readNumbers_30 : decode cX7_readNumbers 30 = .ok (.iload_n 1, 1) := by decide +kernel
theorem dX7_readNumbers_31 : decode cX7_readNumbers 31 = .ok (.iaload, 1) := by decide +kernel
theorem dX7_readNumbers_32 : decode cX7_readNumbers 32 = .ok (.iconst (-1), 1) := by decide +kernel
theorem dX7_readNumbers_33 : decode cX7_readNumbers 33 = .ok (.if_icmp .ne 5, 3) := by decide +kernel
theorem dX7_readNumbers_36 : decode cX7_readNumbers 36 = .ok (.iconst 0, 1) := by decide +kernel
theorem dX7_readNumbers_37 : decode cX7_readNumbers 37 = .ok (.ireturn, 1) := by decide +kernel
theorem dX7_readNumbers_38 : decode cX7_readNumbers 38 = .ok (.aload_n 0, 1) := by decide +kernel
theorem dX7_readNumbers_39 : decode cX7_readNumbers 39 = .ok (.getfield 21, 3) := by decide +kernel
theorem dX7_readNumbers_42 : decode cX7_readNumbers 42 = .ok (.iload_n 1, 1) := by decide +kernel
theorem dX7_readNumbers_43 : decode cX7_readNumbers 43 = .ok (.aload_n 0, 1) := by decide +kernel
theorem dX7_readNumbers_44 : decode cX7_readNumbers 44 = .ok (.iconst 0, 1) := by decide +kernel
theorem dX7_readNumbers_45 : decode cX7_readNumbers 45 = .ok (.bipush 99, 2) := by decide +kernel
theorem dX7_readNumbers_47 : decode cX7_readNumbers 47 = .ok (.invokevirtual 56, 3) := by decide +kernel
theorem dX7_readNumbers_50 : decode cX7_readNumbers 50 = .ok (.iastore, 1) := by decide +kernel
theorem dX7_readNumbers_51 : decode cX7_readNumbers 51 = .ok (.aload_n 0, 1) := by decide +kernel
theorem dX7_readNumbers_52 : decode cX7_readNumbers 52 = .ok (.getfield 21, 3) := by decide +kernel
theorem dX7_readNumbers_55 : decode cX7_readNumbers 55 = .ok (.iload_n 1, 1) := by decide +kernel
theorem dX7_readNumbers_56 : decode cX7_readNumbers 56 = .ok (.iaload, 1) := by decide +kernel
theorem dX7_readNumbers_57 : decode cX7_readNumbers 57 = .ok (.iconst (-1), 1) := by decide +kernel
theorem dX7_readNumbers_58 : decode cX7_readNumbers 58 = .ok (.if_icmp .eq 7, 3) := by decide +kernel
theorem dX7_readNumbers_61 : decode cX7_readNumbers 61 = .ok (.iconst 1, 1) := by decide +kernel
theorem dX7_readNumbers_62 : decode cX7_readNumbers 62 = .ok (.goto 4, 3) := by decide +kernel
theorem dX7_readNumbers_65 : decode cX7_readNumbers 65 = .ok (.iconst 0, 1) := by decide +kernel
theorem dX7_readNumbers_66 : decode cX7_readNumbers 66 = .ok (.ireturn, 1) := by decide +kernel
theorem dX7_readNumbers_67 : decode cX7_readNumbers 67 = .ok (.iload_n 2, 1) := by decide +kernel
theorem dX7_readNumbers_68 : decode cX7_readNumbers 68 = .ok (.iconst 5, 1) := by decide +kernel
theorem dX7_readNumbers_69 : decode cX7_readNumbers 69 = .ok (.isub, 1) := by decide +kernel
theorem dX7_readNumbers_70 : decode cX7_readNumbers 70 = .ok (.istore_n 3, 1) := by decide +kernel
theorem dX7_readNumbers_71 : decode cX7_readNumbers 71 = .ok (.iload_n 3, 1) := by decide +kernel
theorem dX7_readNumbers_72 : decode cX7_readNumbers 72 = .ok (.ifCond .lt 9, 3) := by decide +kernel
theorem dX7_readNumbers_75 : decode cX7_readNumbers 75 = .ok (.iload_n 3, 1) := by decide +kernel
theorem dX7_readNumbers_76 : decode cX7_readNumbers 76 = .ok (.bipush 6, 2) := by decide +kernel
theorem dX7_readNumbers_78 : decode cX7_readNumbers 78 = .ok (.if_icmp .lt 5, 3) := by decide +kernel
theorem dX7_readNumbers_81 : decode cX7_readNumbers 81 = .ok (.iconst 0, 1) := by decide +kernel
theorem dX7_readNumbers_82 : decode cX7_readNumbers 82 = .ok (.ireturn, 1) := by decide +kernel
theorem dX7_readNumbers_83 : decode cX7_readNumbers 83 = .ok (.aload_n 0, 1) := by decide +kernel
theorem dX7_readNumbers_84 : decode cX7_readNumbers 84 = .ok (.getfield 18, 3) := by decide +kernel
theorem dX7_readNumbers_87 : decode cX7_readNumbers 87 = .ok (.iload_n 1, 1) := by decide +kernel
theorem dX7_readNumbers_88 : decode cX7_readNumbers 88 = .ok (.aload_n 0, 1) := by decide +kernel
theorem dX7_readNumbers_89 : decode cX7_readNumbers 89 = .ok (.getstatic 60, 3) := by decide +kernel
theorem dX7_readNumbers_92 : decode cX7_readNumbers 92 = .ok (.iload_n 3, 1) := by decide +kernel
theorem dX7_readNumbers_93 : decode cX7_readNumbers 93 = .ok (.iaload, 1) := by decide +kernel
theorem dX7_readNumbers_94 : decode cX7_readNumbers 94 = .ok (.getstatic 63, 3) := by decide +kernel
theorem dX7_readNumbers_97 : decode cX7_readNumbers 97 = .ok (.iload_n 3, 1) := by decide +kernel
theorem dX7_readNumbers_98 : decode cX7_readNumbers 98 = .ok (.iaload, 1) := by decide +kernel
theorem dX7_readNumbers_99 : decode cX7_readNumbers 99 = .ok (.invokevirtual 56, 3) := by decide +kernel
theorem dX7_readNumbers_102 : decode cX7_readNumbers 102 = .ok (.iastore, 1) := by decide +kernel
theorem dX7_readNumbers_103 : decode cX7_readNumbers 103 = .ok (.aload_n 0, 1) := by decide +kernel
theorem dX7_readNumbers_104 : decode cX7_readNumbers 104 = .ok (.getfield 18, 3) := by decide +kernel
theorem dX7_readNumbers_107 : decode cX7_readNumbers 107 = .ok (.iload_n 1, 1) := by decide +kernel
theorem dX7_readNumbers_108 : decode cX7_readNumbers 108 = .ok (.iaload, 1) := by decide +kernel
theorem dX7_readNumbers_109 : decode cX7_readNumbers 109 = .ok (.iconst (-1), 1) := by decide +kernel
theorem dX7_readNumbers_110 : decode cX7_readNumbers 110 = .ok (.if_icmp .eq 7, 3) := by decide +kernel
theorem dX7_readNumbers_113 : decode cX7_readNumbers 113 = .ok (.iconst 1, 1) := by decide +kernel
theorem dX7_readNumbers_114 : decode cX7_readNumbers 114 = .ok (.goto 4, 3) := by decide +kernel
theorem dX7_readNumbers_117 : decode cX7_readNumbers 117 = .ok (.iconst 0, 1) := by decide +kernel
theorem dX7_readNumbers_118 : decode cX7_readNumbers 118 = .ok (.ireturn, 1) := by decide +kernel
set_option maxRecDepth 20000 in
theorem ggX7_number_X7_nextToken : GoodIn wsX7_number wsX7_nextToken := goodIn_r _ [7, 1, 2, 8, 9, 10, 11, 12, 13, 14, 15, 6, 16, 17, 18, 19, 20, 21, 25, 26, 27, 28, 29, 30, 31, 32] (by decide +kernel) (by decide +kernel)
set_option maxRecDepth 20000 in
theorem gX7_number_X7_nextToken : GoodIn wsX7_number (wsV RX7 34 RX7 yX7_nextToken wsX7_nextToken) := goodIn_app (goodIn_of _ (by decide +kernel)) ggX7_number_X7_nextToken
set_option maxRecDepth 20000 in
theorem ggX7_number_X7_sortAt : GoodIn wsX7_number wsX7_sortAt := goodIn_r _ [21, 13, 14, 15, 6, 16, 8, 17, 25, 26, 27, 28, 29, 30, 31, 32] (by decide +kernel) (by decide +kernel)
set_option maxRecDepth 20000 in
theorem gX7_number_X7_sortAt : GoodIn wsX7_number (wsV RX7 66 RX7 yX7_sortAt wsX7_sortAt) := goodIn_app (goodIn_of _ (by decide +kernel)) ggX7_number_X7_sortAt
set_option maxRecDepth 20000 in
theorem ggX7_number_X7_letterAt : GoodIn wsX7_number wsX7_letterAt := goodIn_r _ [16, 8, 17, 25, 26, 27, 28, 29, 30, 31, 32] (by decide +kernel) (by decide +kernel)
set_option maxRecDepth 20000 in
theorem gX7_number_X7_letterAt : GoodIn wsX7_number (wsV RX7 52 RX7 yX7_letterAt wsX7_letterAt) := goodIn_app (goodIn_of _ (by decide +kernel)) ggX7_number_X7_letterAt
set_option maxRecDepth 20000 in
theorem ggX7_number_X9_outside : GoodIn wsX7_number wsX9_outside := goodIn_r _ [24] (by decide +kernel) (by decide +kernel)
set_option maxRecDepth 20000 in
theorem gX7_number_X9_outside_n69 : GoodIn wsX7_number (wsX9_outside) := ggX7_number_X9_outside
theorem dX7_number_0 : decode cX7_number 0 = .ok (.aload_n 0, 1) := by decide +kernel
theorem dX7_number_1 : decode cX7_number 1 = .ok (.invokevirtual 34, 3) := by decide +kernel
theorem dX7_number_4 : decode cX7_number 4 = .ok (.aload_n 0, 1) := by decide +kernel
theorem dX7_number_5 : decode cX7_number 5 = .ok (.getfield 31, 3) := by decide +kernel
theorem dX7_number_8 : decode cX7_number 8 = .ok (.aload_n 0, 1) := by decide +kernel
theorem dX7_number_9 : decode cX7_number 9 = .ok (.getfield 45, 3) := by decide +kernel
theorem dX7_number_12 : decode cX7_number 12 = .ok (.isub, 1) := by decide +kernel
theorem dX7_number_13 : decode cX7_number 13 = .ok (.istore_n 3, 1) := by decide +kernel
theorem dX7_number_14 : decode cX7_number 14 = .ok (.aload_n 0, 1) := by decide +kernel
theorem dX7_number_15 : decode cX7_number 15 = .ok (.aload_n 0, 1) := by decide +kernel
theorem dX7_number_16 : decode cX7_number 16 = .ok (.getfield 45, 3) := by decide +kernel
theorem dX7_number_19 : decode cX7_number 19 = .ok (.invokevirtual 66, 3) := by decide +kernel
theorem dX7_number_22 : decode cX7_number 22 = .ok (.iconst 2, 1) := by decide +kernel
theorem dX7_number_23 : decode cX7_number 23 = .ok (.if_icmp .ne 8, 3) := by decide +kernel
theorem dX7_number_26 : decode cX7_number 26 = .ok (.iload_n 3, 1) := by decide +kernel
theorem dX7_number_27 : decode cX7_number 27 = .ok (.iconst 2, 1) := by decide +kernel
theorem dX7_number_28 : decode cX7_number 28 = .ok (.if_icmp .le 5, 3) := by decide +kernel
theorem dX7_number_31 : decode cX7_number 31 = .ok (.iconst (-1), 1) := by decide +kernel
theorem dX7_number_32 : decode cX7_number 32 = .ok (.ireturn, 1) := by decide +kernel
theorem dX7_number_33 : decode cX7_number 33 = .ok (.iconst 0, 1) := by decide +kernel
theorem dX7_number_34 : decode cX7_number 34 = .ok (.istore 4, 2) := by decide +kernel
theorem dX7_number_36 : decode cX7_number 36 = .ok (.aload_n 0, 1) := by decide +kernel
theorem dX7_number_37 : decode cX7_number 37 = .ok (.getfield 45, 3) := by decide +kernel
theorem dX7_number_40 : decode cX7_number 40 = .ok (.istore 5, 2) := by decide +kernel
theorem dX7_number_42 : decode cX7_number 42 = .ok (.iload 5, 2) := by decide +kernel
theorem dX7_number_44 : decode cX7_number 44 = .ok (.aload_n 0, 1) := by decide +kernel
theorem dX7_number_45 : decode cX7_number 45 = .ok (.getfield 31, 3) := by decide +kernel
theorem dX7_number_48 : decode cX7_number 48 = .ok (.if_icmp .ge 26, 3) := by decide +kernel
theorem dX7_number_51 : decode cX7_number 51 = .ok (.bipush 10, 2) := by decide +kernel
theorem dX7_number_53 : decode cX7_number 53 = .ok (.iload 4, 2) := by decide +kernel
theorem dX7_number_55 : decode cX7_number 55 = .ok (.imul, 1) := by decide +kernel
theorem dX7_number_56 : decode cX7_number 56 = .ok (.aload_n 0, 1) := by decide +kernel
theorem dX7_number_57 : decode cX7_number 57 = .ok (.iload 5, 2) := by decide +kernel
theorem dX7_number_59 : decode cX7_number 59 = .ok (.invokevirtual 52, 3) := by decide +kernel
theorem dX7_number_62 : decode cX7_number 62 = .ok (.iadd, 1) := by decide +kernel
theorem dX7_number_63 : decode cX7_number 63 = .ok (.bipush 48, 2) := by decide +kernel
theorem dX7_number_65 : decode cX7_number 65 = .ok (.isub, 1) := by decide +kernel
theorem dX7_number_66 : decode cX7_number 66 = .ok (.istore 4, 2) := by decide +kernel
theorem dX7_number_68 : decode cX7_number 68 = .ok (.iinc 5 1, 3) := by decide +kernel
theorem dX7_number_71 : decode cX7_number 71 = .ok (.goto (-29), 3) := by decide +kernel
theorem dX7_number_74 : decode cX7_number 74 = .ok (.iload 4, 2) := by decide +kernel
theorem dX7_number_76 : decode cX7_number 76 = .ok (.iload_n 1, 1) := by decide +kernel
theorem dX7_number_77 : decode cX7_number 77 = .ok (.iload_n 2, 1) := by decide +kernel
theorem dX7_number_78 : decode cX7_number 78 = .ok (.invokestatic 69, 3) := by decide +kernel
theorem dX7_number_81 : decode cX7_number 81 = .ok (.ifCond .eq 7, 3) := by decide +kernel
theorem dX7_number_84 : decode cX7_number 84 = .ok (.iconst (-1), 1) := by decide +kernel
theorem dX7_number_85 : decode cX7_number 85 = .ok (.goto 5, 3) := by decide +kernel
theorem dX7_number_88 : decode cX7_number 88 = .ok (.iload 4, 2) := by decide +kernel
theorem dX7_number_90 : decode cX7_number 90 = .ok (.ireturn, 1) := by decide +kernel
set_option maxRecDepth 20000 in
theorem ggX7_nextToken_X7_letterAt : GoodIn wsX7_nextToken wsX7_letterAt := goodIn_r _ [12, 3, 13, 18, 19, 20, 21, 22, 23, 24, 25] (by decide +kernel) (by decide +kernel)
set_option maxRecDepth 20000 in
theorem gX7_nextToken_X7_letterAt : GoodIn wsX7_nextToken (wsV RX7 52 RX7 yX7_letterAt wsX7_letterAt) := goodIn_app (goodIn_of _ (by decide +kernel)) ggX7_nextToken_X7_letterAt
set_option maxRecDepth 20000 in
theorem ggX7_nextToken_X7_sortAt : GoodIn wsX7_nextToken wsX7_sortAt := goodIn_r _ [17, 8, 9, 10, 11, 12, 3, 13, 18, 19, 20, 21, 22, 23, 24, 25] (by decide +kernel) (by decide +kernel)
set_option maxRecDepth 20000 in
theorem gX7_nextToken_X7_sortAt : GoodIn wsX7_nextToken (wsV RX7 66 RX7 yX7_sortAt wsX7_sortAt) := goodIn_app (goodIn_of _ (by decide +kernel)) ggX7_nextToken_X7_sortAt
theorem dX7_nextToken_0 : decode cX7_nextToken 0 = .ok (.aload_n 0, 1) := by decide +kernel
theorem dX7_nextToken_1 : decode cX7_nextToken 1 = .ok (.aload_n 0, 1) := by decide +kernel
theorem dX7_nextToken_2 : decode cX7_nextToken 2 = .ok (.getfield 31, 3) := by decide +kernel
theorem dX7_nextToken_5 : decode cX7_nextToken 5 = .ok (.putfield 45, 3) := by decide +kernel
theorem dX7_nextToken_8 : decode cX7_nextToken 8 = .ok (.aload_n 0, 1) := by decide +kernel
theorem dX7_nextToken_9 : decode cX7_nextToken 9 = .ok (.getfield 45, 3) := by decide +kernel
theorem dX7_nextToken_12 : decode cX7_nextToken 12 = .ok (.aload_n 0, 1) := by decide +kernel
theorem dX7_nextToken_13 : decode cX7_nextToken 13 = .ok (.getfield 24, 3) := by decide +kernel
theorem dX7_nextToken_16 : decode cX7_nextToken 16 = .ok (.if_icmp .ge 29, 3) := by decide +kernel
theorem dX7_nextToken_19 : decode cX7_nextToken 19 = .ok (.aload_n 0, 1) := by decide +kernel
theorem dX7_nextToken_20 : decode cX7_nextToken 20 = .ok (.aload_n 0, 1) := by decide +kernel
theorem dX7_nextToken_21 : decode cX7_nextToken 21 = .ok (.getfield 45, 3) := by decide +kernel
theorem dX7_nextToken_24 : decode cX7_nextToken 24 = .ok (.invokevirtual 52, 3) := by decide +kernel
theorem dX7_nextToken_27 : decode cX7_nextToken 27 = .ok (.bipush 32, 2) := by decide +kernel
theorem dX7_nextToken_29 : decode cX7_nextToken 29 = .ok (.if_icmp .ne 16, 3) := by decide +kernel
theorem dX7_nextToken_32 : decode cX7_nextToken 32 = .ok (.aload_n 0, 1) := by decide +kernel
theorem dX7_nextToken_33 : decode cX7_nextToken 33 = .ok (.dup, 1) := by decide +kernel
theorem dX7_nextToken_34 : decode cX7_nextToken 34 = .ok (.getfield 45, 3) := by decide +kernel
theorem dX7_nextToken_37 : decode cX7_nextToken 37 = .ok (.iconst 1, 1) := by decide +kernel
theorem dX7_nextToken_38 : decode cX7_nextToken 38 = .ok (.iadd, 1) := by decide +kernel
theorem dX7_nextToken_39 : decode cX7_nextToken 39 = .ok (.putfield 45, 3) := by decide +kernel
theorem dX7_nextToken_42 : decode cX7_nextToken 42 = .ok (.goto (-34), 3) := by decide +kernel
theorem dX7_nextToken_45 : decode cX7_nextToken 45 = .ok (.aload_n 0, 1) := by decide +kernel
theorem dX7_nextToken_46 : decode cX7_nextToken 46 = .ok (.aload_n 0, 1) := by decide +kernel
theorem dX7_nextToken_47 : decode cX7_nextToken 47 = .ok (.getfield 45, 3) := by decide +kernel
theorem dX7_nextToken_50 : decode cX7_nextToken 50 = .ok (.invokevirtual 66, 3) := by decide +kernel
theorem dX7_nextToken_53 : decode cX7_nextToken 53 = .ok (.istore_n 1, 1) := by decide +kernel
theorem dX7_nextToken_54 : decode cX7_nextToken 54 = .ok (.aload_n 0, 1) := by decide +kernel
theorem dX7_nextToken_55 : decode cX7_nextToken 55 = .ok (.aload_n 0, 1) := by decide +kernel
theorem dX7_nextToken_56 : decode cX7_nextToken 56 = .ok (.getfield 24, 3) := by decide +kernel
theorem dX7_nextToken_59 : decode cX7_nextToken 59 = .ok (.aload_n 0, 1) := by decide +kernel
theorem dX7_nextToken_60 : decode cX7_nextToken 60 = .ok (.getfield 45, 3) := by decide +kernel
theorem dX7_nextToken_63 : decode cX7_nextToken 63 = .ok (.iconst 1, 1) := by decide +kernel
theorem dX7_nextToken_64 : decode cX7_nextToken 64 = .ok (.iadd, 1) := by decide +kernel
theorem dX7_nextToken_65 : decode cX7_nextToken 65 = .ok (.invokestatic 73, 3) := by decide +kernel
theorem dX7_nextToken_68 : decode cX7_nextToken 68 = .ok (.putfield 31, 3) := by decide +kernel
theorem dX7_nextToken_71 : decode cX7_nextToken 71 = .ok (.iload_n 1, 1) := by decide +kernel
theorem dX7_nextToken_72 : decode cX7_nextToken 72 = .ok (.ifCond .eq 39, 3) := by decide +kernel
theorem dX7_nextToken_75 : decode cX7_nextToken 75 = .ok (.aload_n 0, 1) := by decide +kernel
theorem dX7_nextToken_76 : decode cX7_nextToken 76 = .ok (.getfield 31, 3) := by decide +kernel
theorem dX7_nextToken_79 : decode cX7_nextToken 79 = .ok (.aload_n 0, 1) := by decide +kernel
theorem dX7_nextToken_80 : decode cX7_nextToken 80 = .ok (.getfield 24, 3) := by decide +kernel
theorem dX7_nextToken_83 : decode cX7_nextToken 83 = .ok (.if_icmp .ge 28, 3) := by decide +kernel
theorem dX7_nextToken_86 : decode cX7_nextToken 86 = .ok (.aload_n 0, 1) := by decide +kernel
theorem dX7_nextToken_87 : decode cX7_nextToken 87 = .ok (.aload_n 0, 1) := by decide +kernel
theorem dX7_nextToken_88 : decode cX7_nextToken 88 = .ok (.getfield 31, 3) := by decide +kernel
theorem dX7_nextToken_91 : decode cX7_nextToken 91 = .ok (.invokevirtual 66, 3) := by decide +kernel
theorem dX7_nextToken_94 : decode cX7_nextToken 94 = .ok (.iload_n 1, 1) := by decide +kernel
theorem dX7_nextToken_95 : decode cX7_nextToken 95 = .ok (.if_icmp .ne 16, 3) := by decide +kernel
theorem dX7_nextToken_98 : decode cX7_nextToken 98 = .ok (.aload_n 0, 1) := by decide +kernel
theorem dX7_nextToken_99 : decode cX7_nextToken 99 = .ok (.dup, 1) := by decide +kernel
theorem dX7_nextToken_100 : decode cX7_nextToken 100 = .ok (.getfield 31, 3) := by decide +kernel
theorem dX7_nextToken_103 : decode cX7_nextToken 103 = .ok (.iconst 1, 1) := by decide +kernel
theorem dX7_nextToken_104 : decode cX7_nextToken 104 = .ok (.iadd, 1) := by decide +kernel
theorem dX7_nextToken_105 : decode cX7_nextToken 105 = .ok (.putfield 31, 3) := by decide +kernel
theorem dX7_nextToken_108 : decode cX7_nextToken 108 = .ok (.goto (-37), 3) := by decide +kernel
theorem dX7_nextToken_111 : decode cX7_nextToken 111 = .ok (.return_, 1) := by decide +kernel
set_option maxRecDepth 20000 in
theorem ggX7_word_X7_sortAt : GoodIn wsX7_word wsX7_sortAt := goodIn_r _ [7, 8, 9, 10, 6, 11, 12, 13, 67, 68, 69, 70, 71, 72, 73, 74] (by decide +kernel) (by decide +kernel)
set_option maxRecDepth 20000 in
theorem gX7_word_X7_sortAt : GoodIn wsX7_word (wsV RX7 66 RX7 yX7_sortAt wsX7_sortAt) := goodIn_app (goodIn_of _ (by decide +kernel)) ggX7_word_X7_sortAt
set_option maxRecDepth 20000 in
theorem ggX7_word_X7_isSpelled : GoodIn wsX7_word wsX7_isSpelled := goodIn_r _ [17, 1, 2, 8, 9, 10, 6, 11, 12, 13, 18, 19, 20, 21, 22, 23, 24, 25, 26, 27, 28, 29, 30, 31, 32, 33, 34, 35, 36, 37, 38, 39, 40, 41, 42, 43, 44, 45, 46, 47, 48, 49, 50, 51, 52, 53, 54, 55, 56, 57, 58, 59, 60, 61, 62, 63, 64, 65, 66, 67, 68, 69, 70, 71, 72, 73, 74] (by decide +kernel) (by decide +kernel)
set_option maxRecDepth 20000 in
theorem gX7_word_X7_isSpelled : GoodIn wsX7_word (wsV RX7 78 RX7 yX7_isSpelled wsX7_isSpelled) := goodIn_app (goodIn_of _ (by decide +kernel)) ggX7_word_X7_isSpelled
theorem dX7_word_0 : decode cX7_word 0 = .ok (.aload_n 0, 1) := by decide +kernel
theorem dX7_word_1 : decode cX7_word 1 = .ok (.aload_n 0, 1) := by decide +kernel
theorem dX7_word_2 : decode cX7_word 2 = .ok (.getfield 45, 3) := by decide +kernel
theorem dX7_word_5 : decode cX7_word 5 = .ok (.invokevirtual 66, 3) := by decide +kernel
theorem dX7_word_8 : decode cX7_word 8 = .ok (.iconst 1, 1) := by decide +kernel
theorem dX7_word_9 : decode cX7_word 9 = .ok (.if_icmp .ne 41, 3) := by decide +kernel
theorem dX7_word_12 : decode cX7_word 12 = .ok (.aload_n 0, 1) := by decide +kernel
theorem dX7_word_13 : decode cX7_word 13 = .ok (.getfield 31, 3) := by decide +kernel
theorem dX7_word_16 : decode cX7_word 16 = .ok (.aload_n 0, 1) := by decide +kernel
theorem dX7_word_17 : decode cX7_word 17 = .ok (.getfield 45, 3) := by decide +kernel
theorem dX7_word_20 : decode cX7_word 20 = .ok (.isub, 1) := by decide +kernel
theorem dX7_word_21 : decode cX7_word 21 = .ok (.bipush 7, 2) := by decide +kernel
theorem dX7_word_23 : decode cX7_word 23 = .ok (.if_icmp .gt 27, 3) := by decide +kernel
theorem dX7_word_26 : decode cX7_word 26 = .ok (.iconst 0, 1) := by decide +kernel
theorem dX7_word_27 : decode cX7_word 27 = .ok (.istore_n 1, 1) := by decide +kernel
theorem dX7_word_28 : decode cX7_word 28 = .ok (.iload_n 1, 1) := by decide +kernel
theorem dX7_word_29 : decode cX7_word 29 = .ok (.bipush 11, 2) := by decide +kernel
theorem dX7_word_31 : decode cX7_word 31 = .ok (.if_icmp .ge 19, 3) := by decide +kernel
theorem dX7_word_34 : decode cX7_word 34 = .ok (.aload_n 0, 1) := by decide +kernel
theorem dX7_word_35 : decode cX7_word 35 = .ok (.iload_n 1, 1) := by decide +kernel
theorem dX7_word_36 : decode cX7_word 36 = .ok (.invokevirtual 78, 3) := by decide +kernel
theorem dX7_word_39 : decode cX7_word 39 = .ok (.ifCond .eq 5, 3) := by decide +kernel
theorem dX7_word_42 : decode cX7_word 42 = .ok (.iload_n 1, 1) := by decide +kernel
theorem dX7_word_43 : decode cX7_word 43 = .ok (.ireturn, 1) := by decide +kernel
theorem dX7_word_44 : decode cX7_word 44 = .ok (.iinc 1 1, 3) := by decide +kernel
theorem dX7_word_47 : decode cX7_word 47 = .ok (.goto (-19), 3) := by decide +kernel
theorem dX7_word_50 : decode cX7_word 50 = .ok (.iconst (-1), 1) := by decide +kernel
theorem dX7_word_51 : decode cX7_word 51 = .ok (.ireturn, 1) := by decide +kernel
set_option maxRecDepth 20000 in
theorem ggX7_isSpelled_X7_letterAt : GoodIn wsX7_isSpelled wsX7_letterAt := goodIn_r _ [7, 8, 9, 59, 60, 61, 62, 63, 64, 65, 66] (by decide +kernel) (by decide +kernel)
set_option maxRecDepth 20000 in
theorem gX7_isSpelled_X7_letterAt : GoodIn wsX7_isSpelled (wsV RX7 52 RX7 yX7_letterAt wsX7_letterAt) := goodIn_app (goodIn_of _ (by decide +kernel)) ggX7_isSpelled_X7_letterAt
set_option maxRecDepth 20000 in
theorem ggX7_isSpelled_J0_length_8abf5 : GoodIn wsX7_isSpelled wsJ0_length_8abf5 := goodIn_r _ [14, 15, 16, 17, 18, 13, 19, 20, 21] (by decide +kernel) (by decide +kernel)
set_option maxRecDepth 20000 in
theorem gX7_isSpelled_J0_length_8abf5 : GoodIn wsX7_isSpelled (wsV RX7 83 RJ0 yJ0_length_8abf5 wsJ0_length_8abf5) := goodIn_app (goodIn_of _ (by decide +kernel)) ggX7_isSpelled_J0_length_8abf5
set_option maxRecDepth 20000 in
theorem ggX7_isSpelled_J0_charAt_5068e : GoodIn wsX7_isSpelled wsJ0_charAt_5068e := goodIn_r _ [25, 15, 26, 27, 28, 13, 29, 20, 21, 30, 31, 32, 33, 34, 35, 36, 37, 38, 39, 40, 41, 42, 43, 44, 45, 46, 47, 48, 49, 50, 51, 52, 53, 54, 55, 56, 57, 58] (by decide +kernel) (by decide +kernel)
set_option maxRecDepth 20000 in
theorem gX7_isSpelled_J0_charAt_5068e : GoodIn wsX7_isSpelled (wsV RX7 87 RJ0 yJ0_charAt_5068e wsJ0_charAt_5068e) := goodIn_app (goodIn_of _ (by decide +kernel)) ggX7_isSpelled_J0_charAt_5068e
theorem dX7_isSpelled_0 : decode cX7_isSpelled 0 = .ok (.iconst 0, 1) := by decide +kernel
theorem dX7_isSpelled_1 : decode cX7_isSpelled 1 = .ok (.istore_n 2, 1) := by decide +kernel
theorem dX7_isSpelled_2 : decode cX7_isSpelled 2 = .ok (.iload_n 2, 1) := by decide +kernel
theorem dX7_isSpelled_3 : decode cX7_isSpelled 3 = .ok (.bipush 7, 2) := by decide +kernel
theorem dX7_isSpelled_5 : decode cX7_isSpelled 5 = .ok (.if_icmp .ge 73, 3) := by decide +kernel
theorem dX7_isSpelled_8 : decode cX7_isSpelled 8 = .ok (.aload_n 0, 1) := by decide +kernel
theorem dX7_isSpelled_9 : decode cX7_isSpelled 9 = .ok (.getfield 45, 3) := by decide +kernel
theorem dX7_isSpelled_12 : decode cX7_isSpelled 12 = .ok (.iload_n 2, 1) := by decide +kernel
theorem dX7_isSpelled_13 : decode cX7_isSpelled 13 = .ok (.iadd, 1) := by decide +kernel
theorem dX7_isSpelled_14 : decode cX7_isSpelled 14 = .ok (.istore_n 3, 1) := by decide +kernel
theorem dX7_isSpelled_15 : decode cX7_isSpelled 15 = .ok (.iload_n 3, 1) := by decide +kernel
theorem dX7_isSpelled_16 : decode cX7_isSpelled 16 = .ok (.aload_n 0, 1) := by decide +kernel
theorem dX7_isSpelled_17 : decode cX7_isSpelled 17 = .ok (.getfield 31, 3) := by decide +kernel
theorem dX7_isSpelled_20 : decode cX7_isSpelled 20 = .ok (.if_icmp .ge 11, 3) := by decide +kernel
theorem dX7_isSpelled_23 : decode cX7_isSpelled 23 = .ok (.aload_n 0, 1) := by decide +kernel
theorem dX7_isSpelled_24 : decode cX7_isSpelled 24 = .ok (.iload_n 3, 1) := by decide +kernel
theorem dX7_isSpelled_25 : decode cX7_isSpelled 25 = .ok (.invokevirtual 52, 3) := by decide +kernel
theorem dX7_isSpelled_28 : decode cX7_isSpelled 28 = .ok (.goto 5, 3) := by decide +kernel
theorem dX7_isSpelled_31 : decode cX7_isSpelled 31 = .ok (.bipush 32, 2) := by decide +kernel
theorem dX7_isSpelled_33 : decode cX7_isSpelled 33 = .ok (.istore 4, 2) := by decide +kernel
theorem dX7_isSpelled_35 : decode cX7_isSpelled 35 = .ok (.iload_n 1, 1) := by decide +kernel
theorem dX7_isSpelled_36 : decode cX7_isSpelled 36 = .ok (.bipush 7, 2) := by decide +kernel
theorem dX7_isSpelled_38 : decode cX7_isSpelled 38 = .ok (.imul, 1) := by decide +kernel
theorem dX7_isSpelled_39 : decode cX7_isSpelled 39 = .ok (.iload_n 2, 1) := by decide +kernel
theorem dX7_isSpelled_40 : decode cX7_isSpelled 40 = .ok (.iadd, 1) := by decide +kernel
theorem dX7_isSpelled_41 : decode cX7_isSpelled 41 = .ok (.istore 5, 2) := by decide +kernel
theorem dX7_isSpelled_43 : decode cX7_isSpelled 43 = .ok (.iload 5, 2) := by decide +kernel
theorem dX7_isSpelled_45 : decode cX7_isSpelled 45 = .ok (.ifCond .lt 25, 3) := by decide +kernel
theorem dX7_isSpelled_48 : decode cX7_isSpelled 48 = .ok (.iload 5, 2) := by decide +kernel
theorem dX7_isSpelled_50 : decode cX7_isSpelled 50 = .ok (.ldc 81, 2) := by decide +kernel
theorem dX7_isSpelled_52 : decode cX7_isSpelled 52 = .ok (.invokevirtual 83, 3) := by decide +kernel
theorem dX7_isSpelled_55 : decode cX7_isSpelled 55 = .ok (.if_icmp .ge 15, 3) := by decide +kernel
theorem dX7_isSpelled_58 : decode cX7_isSpelled 58 = .ok (.iload 4, 2) := by decide +kernel
theorem dX7_isSpelled_60 : decode cX7_isSpelled 60 = .ok (.ldc 81, 2) := by decide +kernel
theorem dX7_isSpelled_62 : decode cX7_isSpelled 62 = .ok (.iload 5, 2) := by decide +kernel
theorem dX7_isSpelled_64 : decode cX7_isSpelled 64 = .ok (.invokevirtual 87, 3) := by decide +kernel
theorem dX7_isSpelled_67 : decode cX7_isSpelled 67 = .ok (.if_icmp .eq 5, 3) := by decide +kernel
theorem dX7_isSpelled_70 : decode cX7_isSpelled 70 = .ok (.iconst 0, 1) := by decide +kernel
theorem dX7_isSpelled_71 : decode cX7_isSpelled 71 = .ok (.ireturn, 1) := by decide +kernel
theorem dX7_isSpelled_72 : decode cX7_isSpelled 72 = .ok (.iinc 2 1, 3) := by decide +kernel
theorem dX7_isSpelled_75 : decode cX7_isSpelled 75 = .ok (.goto (-73), 3) := by decide +kernel
theorem dX7_isSpelled_78 : decode cX7_isSpelled 78 = .ok (.iconst 1, 1) := by decide +kernel
theorem dX7_isSpelled_79 : decode cX7_isSpelled 79 = .ok (.ireturn, 1) := by decide +kernel
set_option maxRecDepth 20000 in
theorem ggX7_sortAt_X7_letterAt : GoodIn wsX7_sortAt wsX7_letterAt := goodIn_r _ [5, 6, 7, 8, 9, 10, 11, 12, 13, 14, 15] (by decide +kernel) (by decide +kernel)
set_option maxRecDepth 20000 in
theorem gX7_sortAt_X7_letterAt : GoodIn wsX7_sortAt (wsV RX7 52 RX7 yX7_letterAt wsX7_letterAt) := goodIn_app (goodIn_of _ (by decide +kernel)) ggX7_sortAt_X7_letterAt
theorem dX7_sortAt_0 : decode cX7_sortAt 0 = .ok (.aload_n 0, 1) := by decide +kernel
theorem dX7_sortAt_1 : decode cX7_sortAt 1 = .ok (.iload_n 1, 1) := by decide +kernel
theorem dX7_sortAt_2 : decode cX7_sortAt 2 = .ok (.invokevirtual 52, 3) := by decide +kernel
theorem dX7_sortAt_5 : decode cX7_sortAt 5 = .ok (.istore_n 2, 1) := by decide +kernel
theorem dX7_sortAt_6 : decode cX7_sortAt 6 = .ok (.iload_n 2, 1) := by decide +kernel
theorem dX7_sortAt_7 : decode cX7_sortAt 7 = .ok (.bipush 97, 2) := by decide +kernel
theorem dX7_sortAt_9 : decode cX7_sortAt 9 = .ok (.if_icmp .lt 11, 3) := by decide +kernel
theorem dX7_sortAt_12 : decode cX7_sortAt 12 = .ok (.iload_n 2, 1) := by decide +kernel
theorem dX7_sortAt_13 : decode cX7_sortAt 13 = .ok (.bipush 122, 2) := by decide +kernel
theorem dX7_sortAt_15 : decode cX7_sortAt 15 = .ok (.if_icmp .gt 5, 3) := by decide +kernel
theorem dX7_sortAt_18 : decode cX7_sortAt 18 = .ok (.iconst 1, 1) := by decide +kernel
theorem dX7_sortAt_19 : decode cX7_sortAt 19 = .ok (.ireturn, 1) := by decide +kernel
theorem dX7_sortAt_20 : decode cX7_sortAt 20 = .ok (.iload_n 2, 1) := by decide +kernel
theorem dX7_sortAt_21 : decode cX7_sortAt 21 = .ok (.bipush 48, 2) := by decide +kernel
theorem dX7_sortAt_23 : decode cX7_sortAt 23 = .ok (.if_icmp .lt 13, 3) := by decide +kernel
theorem dX7_sortAt_26 : decode cX7_sortAt 26 = .ok (.iload_n 2, 1) := by decide +kernel
theorem dX7_sortAt_27 : decode cX7_sortAt 27 = .ok (.bipush 57, 2) := by decide +kernel
theorem dX7_sortAt_29 : decode cX7_sortAt 29 = .ok (.if_icmp .gt 7, 3) := by decide +kernel
theorem dX7_sortAt_32 : decode cX7_sortAt 32 = .ok (.iconst 2, 1) := by decide +kernel
theorem dX7_sortAt_33 : decode cX7_sortAt 33 = .ok (.goto 4, 3) := by decide +kernel
theorem dX7_sortAt_36 : decode cX7_sortAt 36 = .ok (.iconst 0, 1) := by decide +kernel
theorem dX7_sortAt_37 : decode cX7_sortAt 37 = .ok (.ireturn, 1) := by decide +kernel
theorem dX7_letterAt_0 : decode cX7_letterAt 0 = .ok (.iload_n 1, 1) := by decide +kernel
theorem dX7_letterAt_1 : decode cX7_letterAt 1 = .ok (.ifCond .lt 27, 3) := by decide +kernel
theorem dX7_letterAt_4 : decode cX7_letterAt 4 = .ok (.iload_n 1, 1) := by decide +kernel
theorem dX7_letterAt_5 : decode cX7_letterAt 5 = .ok (.aload_n 0, 1) := by decide +kernel
theorem dX7_letterAt_6 : decode cX7_letterAt 6 = .ok (.getfield 24, 3) := by decide +kernel
theorem dX7_letterAt_9 : decode cX7_letterAt 9 = .ok (.if_icmp .ge 19, 3) := by decide +kernel
theorem dX7_letterAt_12 : decode cX7_letterAt 12 = .ok (.iload_n 1, 1) := by decide +kernel
theorem dX7_letterAt_13 : decode cX7_letterAt 13 = .ok (.sipush 160, 3) := by decide +kernel
theorem dX7_letterAt_16 : decode cX7_letterAt 16 = .ok (.if_icmp .ge 12, 3) := by decide +kernel
theorem dX7_letterAt_19 : decode cX7_letterAt 19 = .ok (.aload_n 0, 1) := by decide +kernel
theorem dX7_letterAt_20 : decode cX7_letterAt 20 = .ok (.getfield 11, 3) := by decide +kernel
theorem dX7_letterAt_23 : decode cX7_letterAt 23 = .ok (.iload_n 1, 1) := by decide +kernel
theorem dX7_letterAt_24 : decode cX7_letterAt 24 = .ok (.iaload, 1) := by decide +kernel
theorem dX7_letterAt_25 : decode cX7_letterAt 25 = .ok (.goto 5, 3) := by decide +kernel
theorem dX7_letterAt_28 : decode cX7_letterAt 28 = .ok (.bipush 32, 2) := by decide +kernel
theorem dX7_letterAt_30 : decode cX7_letterAt 30 = .ok (.ireturn, 1) := by decide +kernel
set_option maxRecDepth 20000 in
theorem ggX8_init_X6_init : GoodIn wsX8_init wsX6_init := goodIn_r _ [14, 15, 2, 3, 16, 17, 18, 6, 19, 20, 21, 22, 23, 24, 25, 46, 47, 48, 49, 50, 51] (by decide +kernel) (by decide +kernel)
set_option maxRecDepth 20000 in
theorem gX8_init_X6_init : GoodIn wsX8_init (wsX6_init) := ggX8_init_X6_init
set_option maxRecDepth 20000 in
theorem ggX8_init_X1_init : GoodIn wsX8_init wsX1_init := goodIn_r _ [28, 29, 2, 3, 30, 31, 32, 11, 33, 34, 35, 36, 37, 38, 39, 40, 41, 42, 43, 44, 45, 56, 57, 58, 59, 60, 61, 62, 63, 64, 65, 66, 67] (by decide +kernel) (by decide +kernel)
set_option maxRecDepth 20000 in
theorem gX8_init_X1_init : GoodIn wsX8_init (wsX1_init) := ggX8_init_X1_init
theorem dX8_init_0 : decode cX8_init 0 = .ok (.aload_n 0, 1) := by decide +kernel
theorem dX8_init_1 : decode cX8_init 1 = .ok (.invokespecial 3, 3) := by decide +kernel
theorem dX8_init_4 : decode cX8_init 4 = .ok (.aload_n 0, 1) := by decide +kernel
theorem dX8_init_5 : decode cX8_init 5 = .ok (.new 9, 3) := by decide +kernel
theorem dX8_init_8 : decode cX8_init 8 = .ok (.dup, 1) := by decide +kernel
theorem dX8_init_9 : decode cX8_init 9 = .ok (.invokespecial 11, 3) := by decide +kernel
theorem dX8_init_12 : decode cX8_init 12 = .ok (.putfield 12, 3) := by decide +kernel
theorem dX8_init_15 : decode cX8_init 15 = .ok (.aload_n 0, 1) := by decide +kernel
theorem dX8_init_16 : decode cX8_init 16 = .ok (.bipush 6, 2) := by decide +kernel
theorem dX8_init_18 : decode cX8_init 18 = .ok (.anewarray 18, 3) := by decide +kernel
theorem dX8_init_21 : decode cX8_init 21 = .ok (.putfield 20, 3) := by decide +kernel
theorem dX8_init_24 : decode cX8_init 24 = .ok (.iconst 0, 1) := by decide +kernel
theorem dX8_init_25 : decode cX8_init 25 = .ok (.istore_n 2, 1) := by decide +kernel
theorem dX8_init_26 : decode cX8_init 26 = .ok (.iload_n 2, 1) := by decide +kernel
theorem dX8_init_27 : decode cX8_init 27 = .ok (.bipush 6, 2) := by decide +kernel
theorem dX8_init_29 : decode cX8_init 29 = .ok (.if_icmp .ge 23, 3) := by decide +kernel
theorem dX8_init_32 : decode cX8_init 32 = .ok (.aload_n 0, 1) := by decide +kernel
theorem dX8_init_33 : decode cX8_init 33 = .ok (.getfield 20, 3) := by decide +kernel
theorem dX8_init_36 : decode cX8_init 36 = .ok (.iload_n 2, 1) := by decide +kernel
theorem dX8_init_37 : decode cX8_init 37 = .ok (.new 18, 3) := by decide +kernel
theorem dX8_init_40 : decode cX8_init 40 = .ok (.dup, 1) := by decide +kernel
theorem dX8_init_41 : decode cX8_init 41 = .ok (.aload_n 1, 1) := by decide +kernel
theorem dX8_init_42 : decode cX8_init 42 = .ok (.invokespecial 24, 3) := by decide +kernel
theorem dX8_init_45 : decode cX8_init 45 = .ok (.aastore, 1) := by decide +kernel
theorem dX8_init_46 : decode cX8_init 46 = .ok (.iinc 2 1, 3) := by decide +kernel
theorem dX8_init_49 : decode cX8_init 49 = .ok (.goto (-23), 3) := by decide +kernel
theorem dX8_init_52 : decode cX8_init 52 = .ok (.return_, 1) := by decide +kernel
set_option maxRecDepth 20000 in
theorem ggX8_clear_X6_clear : GoodIn wsX8_clear wsX6_clear := goodIn_r _ [8, 9, 10, 11, 12, 13, 14, 19, 20, 21, 22, 23, 24] (by decide +kernel) (by decide +kernel)
set_option maxRecDepth 20000 in
theorem gX8_clear_X6_clear : GoodIn wsX8_clear (wsV RX8 27 RX6 yX6_clear wsX6_clear) := goodIn_app (goodIn_of _ (by decide +kernel)) ggX8_clear_X6_clear
theorem dX8_clear_0 : decode cX8_clear 0 = .ok (.aload_n 0, 1) := by decide +kernel
theorem dX8_clear_1 : decode cX8_clear 1 = .ok (.getfield 12, 3) := by decide +kernel
theorem dX8_clear_4 : decode cX8_clear 4 = .ok (.invokevirtual 27, 3) := by decide +kernel
theorem dX8_clear_7 : decode cX8_clear 7 = .ok (.aload_n 0, 1) := by decide +kernel
theorem dX8_clear_8 : decode cX8_clear 8 = .ok (.iconst 0, 1) := by decide +kernel
theorem dX8_clear_9 : decode cX8_clear 9 = .ok (.putfield 30, 3) := by decide +kernel
theorem dX8_clear_12 : decode cX8_clear 12 = .ok (.aload_n 0, 1) := by decide +kernel
theorem dX8_clear_13 : decode cX8_clear 13 = .ok (.iconst 0, 1) := by decide +kernel
theorem dX8_clear_14 : decode cX8_clear 14 = .ok (.putfield 34, 3) := by decide +kernel
theorem dX8_clear_17 : decode cX8_clear 17 = .ok (.return_, 1) := by decide +kernel
set_option maxRecDepth 20000 in
theorem ggX8_copy_X6_copy : GoodIn wsX8_copy wsX6_copy := goodIn_r _ [9, 10, 11, 12, 13, 14, 15, 37, 38, 39, 40, 41, 42] (by decide +kernel) (by decide +kernel)
set_option maxRecDepth 20000 in
theorem gX8_copy_X6_copy : GoodIn wsX8_copy (wsV RX8 37 RX6 yX6_copy wsX6_copy) := goodIn_app (goodIn_of _ (by decide +kernel)) ggX8_copy_X6_copy
set_option maxRecDepth 20000 in
theorem ggX8_copy_X1_copy : GoodIn wsX8_copy wsX1_copy := goodIn_r _ [20, 21, 22, 23, 24, 25, 26, 27, 28, 29, 30, 31, 32, 43, 44, 45, 46, 47, 48, 49, 50, 51, 52, 53, 54] (by decide +kernel) (by decide +kernel)
set_option maxRecDepth 20000 in
theorem gX8_copy_X1_copy : GoodIn wsX8_copy (wsV RX8 41 RX1 yX1_copy wsX1_copy) := goodIn_app (goodIn_of _ (by decide +kernel)) ggX8_copy_X1_copy
theorem dX8_copy_0 : decode cX8_copy 0 = .ok (.aload_n 0, 1) := by decide +kernel
theorem dX8_copy_1 : decode cX8_copy 1 = .ok (.getfield 12, 3) := by decide +kernel
theorem dX8_copy_4 : decode cX8_copy 4 = .ok (.aload_n 1, 1) := by decide +kernel
theorem dX8_copy_5 : decode cX8_copy 5 = .ok (.getfield 12, 3) := by decide +kernel
theorem dX8_copy_8 : decode cX8_copy 8 = .ok (.invokevirtual 37, 3) := by decide +kernel
theorem dX8_copy_11 : decode cX8_copy 11 = .ok (.iconst 0, 1) := by decide +kernel
theorem dX8_copy_12 : decode cX8_copy 12 = .ok (.istore_n 2, 1) := by decide +kernel
theorem dX8_copy_13 : decode cX8_copy 13 = .ok (.iload_n 2, 1) := by decide +kernel
theorem dX8_copy_14 : decode cX8_copy 14 = .ok (.aload_n 1, 1) := by decide +kernel
theorem dX8_copy_15 : decode cX8_copy 15 = .ok (.getfield 30, 3) := by decide +kernel
theorem dX8_copy_18 : decode cX8_copy 18 = .ok (.if_icmp .ge 30, 3) := by decide +kernel
theorem dX8_copy_21 : decode cX8_copy 21 = .ok (.iload_n 2, 1) := by decide +kernel
theorem dX8_copy_22 : decode cX8_copy 22 = .ok (.bipush 6, 2) := by decide +kernel
theorem dX8_copy_24 : decode cX8_copy 24 = .ok (.if_icmp .ge 24, 3) := by decide +kernel
theorem dX8_copy_27 : decode cX8_copy 27 = .ok (.aload_n 0, 1) := by decide +kernel
theorem dX8_copy_28 : decode cX8_copy 28 = .ok (.getfield 20, 3) := by decide +kernel
theorem dX8_copy_31 : decode cX8_copy 31 = .ok (.iload_n 2, 1) := by decide +kernel
theorem dX8_copy_32 : decode cX8_copy 32 = .ok (.aaload, 1) := by decide +kernel
theorem dX8_copy_33 : decode cX8_copy 33 = .ok (.aload_n 1, 1) := by decide +kernel
theorem dX8_copy_34 : decode cX8_copy 34 = .ok (.getfield 20, 3) := by decide +kernel
theorem dX8_copy_37 : decode cX8_copy 37 = .ok (.iload_n 2, 1) := by decide +kernel
theorem dX8_copy_38 : decode cX8_copy 38 = .ok (.aaload, 1) := by decide +kernel
theorem dX8_copy_39 : decode cX8_copy 39 = .ok (.invokevirtual 41, 3) := by decide +kernel
theorem dX8_copy_42 : decode cX8_copy 42 = .ok (.iinc 2 1, 3) := by decide +kernel
theorem dX8_copy_45 : decode cX8_copy 45 = .ok (.goto (-32), 3) := by decide +kernel
theorem dX8_copy_48 : decode cX8_copy 48 = .ok (.aload_n 0, 1) := by decide +kernel
theorem dX8_copy_49 : decode cX8_copy 49 = .ok (.aload_n 1, 1) := by decide +kernel
theorem dX8_copy_50 : decode cX8_copy 50 = .ok (.getfield 30, 3) := by decide +kernel
theorem dX8_copy_53 : decode cX8_copy 53 = .ok (.putfield 30, 3) := by decide +kernel
theorem dX8_copy_56 : decode cX8_copy 56 = .ok (.aload_n 0, 1) := by decide +kernel
theorem dX8_copy_57 : decode cX8_copy 57 = .ok (.aload_n 1, 1) := by decide +kernel
theorem dX8_copy_58 : decode cX8_copy 58 = .ok (.getfield 34, 3) := by decide +kernel
theorem dX8_copy_61 : decode cX8_copy 61 = .ok (.putfield 34, 3) := by decide +kernel
theorem dX8_copy_64 : decode cX8_copy 64 = .ok (.return_, 1) := by decide +kernel
set_option maxRecDepth 20000 in
theorem ggX8_join_X1_begin : GoodIn wsX8_join wsX1_begin := goodIn_r _ [7, 8, 9, 10, 11, 12, 13, 14, 15, 16, 17, 18, 19, 24, 25, 26, 27, 28, 29, 30, 31, 32, 33, 34, 35] (by decide +kernel) (by decide +kernel)
set_option maxRecDepth 20000 in
theorem gX8_join_X1_begin : GoodIn wsX8_join (wsV RX8 44 RX1 yX1_begin wsX1_begin) := goodIn_app (goodIn_of _ (by decide +kernel)) ggX8_join_X1_begin
theorem dX8_join_0 : decode cX8_join 0 = .ok (.aload_n 0, 1) := by decide +kernel
theorem dX8_join_1 : decode cX8_join 1 = .ok (.getfield 30, 3) := by decide +kernel
theorem dX8_join_4 : decode cX8_join 4 = .ok (.ifCond .lt 37, 3) := by decide +kernel
theorem dX8_join_7 : decode cX8_join 7 = .ok (.aload_n 0, 1) := by decide +kernel
theorem dX8_join_8 : decode cX8_join 8 = .ok (.getfield 30, 3) := by decide +kernel
theorem dX8_join_11 : decode cX8_join 11 = .ok (.bipush 6, 2) := by decide +kernel
theorem dX8_join_13 : decode cX8_join 13 = .ok (.if_icmp .ge 28, 3) := by decide +kernel
theorem dX8_join_16 : decode cX8_join 16 = .ok (.aload_n 0, 1) := by decide +kernel
theorem dX8_join_17 : decode cX8_join 17 = .ok (.getfield 20, 3) := by decide +kernel
theorem dX8_join_20 : decode cX8_join 20 = .ok (.aload_n 0, 1) := by decide +kernel
theorem dX8_join_21 : decode cX8_join 21 = .ok (.getfield 30, 3) := by decide +kernel
theorem dX8_join_24 : decode cX8_join 24 = .ok (.aaload, 1) := by decide +kernel
theorem dX8_join_25 : decode cX8_join 25 = .ok (.aload_n 1, 1) := by decide +kernel
theorem dX8_join_26 : decode cX8_join 26 = .ok (.iload_n 2, 1) := by decide +kernel
theorem dX8_join_27 : decode cX8_join 27 = .ok (.iload_n 3, 1) := by decide +kernel
theorem dX8_join_28 : decode cX8_join 28 = .ok (.invokevirtual 44, 3) := by decide +kernel
theorem dX8_join_31 : decode cX8_join 31 = .ok (.aload_n 0, 1) := by decide +kernel
theorem dX8_join_32 : decode cX8_join 32 = .ok (.dup, 1) := by decide +kernel
theorem dX8_join_33 : decode cX8_join 33 = .ok (.getfield 30, 3) := by decide +kernel
theorem dX8_join_36 : decode cX8_join 36 = .ok (.iconst 1, 1) := by decide +kernel
theorem dX8_join_37 : decode cX8_join 37 = .ok (.iadd, 1) := by decide +kernel
theorem dX8_join_38 : decode cX8_join 38 = .ok (.putfield 30, 3) := by decide +kernel
theorem dX8_join_41 : decode cX8_join 41 = .ok (.return_, 1) := by decide +kernel
set_option maxRecDepth 20000 in
theorem ggX8_pass_X1_pass : GoodIn wsX8_pass wsX1_pass := goodIn_r _ [9, 10, 11, 12, 13, 14, 15, 16, 17, 18, 19, 20, 21, 22, 23, 24, 25, 26, 27, 28, 29, 30, 31, 32, 33, 34, 35, 36, 37, 38, 39, 40, 41, 42, 43, 44, 45, 46, 47, 8, 48, 49, 50, 51, 52, 53, 54, 55, 56, 57, 58, 59, 60, 61, 62, 63, 64, 65, 66, 67, 68, 69, 70, 71, 72, 73, 74, 75, 76, 77, 78, 79, 80, 81, 82, 83, 84, 85, 86, 87, 88, 89, 90, 91, 92, 93, 94, 95, 96, 101, 102, 103, 104, 105, 106, 107, 108, 109, 110, 111, 112, 113, 114, 115, 116, 117, 118] (by decide +kernel) (by decide +kernel)
set_option maxRecDepth 20000 in
theorem gX8_pass_X1_pass : GoodIn wsX8_pass (wsV RX8 48 RX1 yX1_pass wsX1_pass) := goodIn_app (goodIn_of _ (by decide +kernel)) ggX8_pass_X1_pass
theorem dX8_pass_0 : decode cX8_pass 0 = .ok (.iconst 0, 1) := by decide +kernel
theorem dX8_pass_1 : decode cX8_pass 1 = .ok (.istore_n 1, 1) := by decide +kernel
theorem dX8_pass_2 : decode cX8_pass 2 = .ok (.iconst 0, 1) := by decide +kernel
theorem dX8_pass_3 : decode cX8_pass 3 = .ok (.istore_n 2, 1) := by decide +kernel
theorem dX8_pass_4 : decode cX8_pass 4 = .ok (.iload_n 2, 1) := by decide +kernel
theorem dX8_pass_5 : decode cX8_pass 5 = .ok (.aload_n 0, 1) := by decide +kernel
theorem dX8_pass_6 : decode cX8_pass 6 = .ok (.getfield 30, 3) := by decide +kernel
theorem dX8_pass_9 : decode cX8_pass 9 = .ok (.if_icmp .ge 41, 3) := by decide +kernel
theorem dX8_pass_12 : decode cX8_pass 12 = .ok (.iload_n 2, 1) := by decide +kernel
theorem dX8_pass_13 : decode cX8_pass 13 = .ok (.bipush 6, 2) := by decide +kernel
theorem dX8_pass_15 : decode cX8_pass 15 = .ok (.if_icmp .ge 35, 3) := by decide +kernel
theorem dX8_pass_18 : decode cX8_pass 18 = .ok (.aload_n 0, 1) := by decide +kernel
theorem dX8_pass_19 : decode cX8_pass 19 = .ok (.getfield 20, 3) := by decide +kernel
theorem dX8_pass_22 : decode cX8_pass 22 = .ok (.iload_n 2, 1) := by decide +kernel
theorem dX8_pass_23 : decode cX8_pass 23 = .ok (.aaload, 1) := by decide +kernel
theorem dX8_pass_24 : decode cX8_pass 24 = .ok (.aload_n 0, 1) := by decide +kernel
theorem dX8_pass_25 : decode cX8_pass 25 = .ok (.getfield 34, 3) := by decide +kernel
theorem dX8_pass_28 : decode cX8_pass 28 = .ok (.aload_n 0, 1) := by decide +kernel
theorem dX8_pass_29 : decode cX8_pass 29 = .ok (.getfield 12, 3) := by decide +kernel
theorem dX8_pass_32 : decode cX8_pass 32 = .ok (.invokevirtual 48, 3) := by decide +kernel
theorem dX8_pass_35 : decode cX8_pass 35 = .ok (.ifCond .eq 9, 3) := by decide +kernel
theorem dX8_pass_38 : decode cX8_pass 38 = .ok (.iload_n 1, 1) := by decide +kernel
theorem dX8_pass_39 : decode cX8_pass 39 = .ok (.iconst 1, 1) := by decide +kernel
theorem dX8_pass_40 : decode cX8_pass 40 = .ok (.iload_n 2, 1) := by decide +kernel
theorem dX8_pass_41 : decode cX8_pass 41 = .ok (.ishl, 1) := by decide +kernel
theorem dX8_pass_42 : decode cX8_pass 42 = .ok (.ior, 1) := by decide +kernel
theorem dX8_pass_43 : decode cX8_pass 43 = .ok (.istore_n 1, 1) := by decide +kernel
theorem dX8_pass_44 : decode cX8_pass 44 = .ok (.iinc 2 1, 3) := by decide +kernel
theorem dX8_pass_47 : decode cX8_pass 47 = .ok (.goto (-43), 3) := by decide +kernel
theorem dX8_pass_50 : decode cX8_pass 50 = .ok (.aload_n 0, 1) := by decide +kernel
theorem dX8_pass_51 : decode cX8_pass 51 = .ok (.dup, 1) := by decide +kernel
theorem dX8_pass_52 : decode cX8_pass 52 = .ok (.getfield 34, 3) := by decide +kernel
theorem dX8_pass_55 : decode cX8_pass 55 = .ok (.iconst 1, 1) := by decide +kernel
theorem dX8_pass_56 : decode cX8_pass 56 = .ok (.iadd, 1) := by decide +kernel
theorem dX8_pass_57 : decode cX8_pass 57 = .ok (.putfield 34, 3) := by decide +kernel
theorem dX8_pass_60 : decode cX8_pass 60 = .ok (.iload_n 1, 1) := by decide +kernel
theorem dX8_pass_61 : decode cX8_pass 61 = .ok (.ireturn, 1) := by decide +kernel
theorem dX8_breaks_0 : decode cX8_breaks 0 = .ok (.iconst 0, 1) := by decide +kernel
theorem dX8_breaks_1 : decode cX8_breaks 1 = .ok (.istore_n 1, 1) := by decide +kernel
theorem dX8_breaks_2 : decode cX8_breaks 2 = .ok (.iconst 0, 1) := by decide +kernel
theorem dX8_breaks_3 : decode cX8_breaks 3 = .ok (.istore_n 2, 1) := by decide +kernel
theorem dX8_breaks_4 : decode cX8_breaks 4 = .ok (.iload_n 2, 1) := by decide +kernel
theorem dX8_breaks_5 : decode cX8_breaks 5 = .ok (.aload_n 0, 1) := by decide +kernel
theorem dX8_breaks_6 : decode cX8_breaks 6 = .ok (.getfield 30, 3) := by decide +kernel
theorem dX8_breaks_9 : decode cX8_breaks 9 = .ok (.if_icmp .ge 27, 3) := by decide +kernel
theorem dX8_breaks_12 : decode cX8_breaks 12 = .ok (.iload_n 2, 1) := by decide +kernel
theorem dX8_breaks_13 : decode cX8_breaks 13 = .ok (.bipush 6, 2) := by decide +kernel
theorem dX8_breaks_15 : decode cX8_breaks 15 = .ok (.if_icmp .ge 21, 3) := by decide +kernel
theorem dX8_breaks_18 : decode cX8_breaks 18 = .ok (.iload_n 1, 1) := by decide +kernel
theorem dX8_breaks_19 : decode cX8_breaks 19 = .ok (.aload_n 0, 1) := by decide +kernel
theorem dX8_breaks_20 : decode cX8_breaks 20 = .ok (.getfield 20, 3) := by decide +kernel
theorem dX8_breaks_23 : decode cX8_breaks 23 = .ok (.iload_n 2, 1) := by decide +kernel
theorem dX8_breaks_24 : decode cX8_breaks 24 = .ok (.aaload, 1) := by decide +kernel
theorem dX8_breaks_25 : decode cX8_breaks 25 = .ok (.getfield 52, 3) := by decide +kernel
theorem dX8_breaks_28 : decode cX8_breaks 28 = .ok (.iadd, 1) := by decide +kernel
theorem dX8_breaks_29 : decode cX8_breaks 29 = .ok (.istore_n 1, 1) := by decide +kernel
theorem dX8_breaks_30 : decode cX8_breaks 30 = .ok (.iinc 2 1, 3) := by decide +kernel
theorem dX8_breaks_33 : decode cX8_breaks 33 = .ok (.goto (-29), 3) := by decide +kernel
theorem dX8_breaks_36 : decode cX8_breaks 36 = .ok (.iload_n 1, 1) := by decide +kernel
theorem dX8_breaks_37 : decode cX8_breaks 37 = .ok (.ireturn, 1) := by decide +kernel
theorem dX8_tiffs_0 : decode cX8_tiffs 0 = .ok (.iconst 0, 1) := by decide +kernel
theorem dX8_tiffs_1 : decode cX8_tiffs 1 = .ok (.istore_n 1, 1) := by decide +kernel
theorem dX8_tiffs_2 : decode cX8_tiffs 2 = .ok (.iconst 0, 1) := by decide +kernel
theorem dX8_tiffs_3 : decode cX8_tiffs 3 = .ok (.istore_n 2, 1) := by decide +kernel
theorem dX8_tiffs_4 : decode cX8_tiffs 4 = .ok (.iload_n 2, 1) := by decide +kernel
theorem dX8_tiffs_5 : decode cX8_tiffs 5 = .ok (.aload_n 0, 1) := by decide +kernel
theorem dX8_tiffs_6 : decode cX8_tiffs 6 = .ok (.getfield 30, 3) := by decide +kernel
theorem dX8_tiffs_9 : decode cX8_tiffs 9 = .ok (.if_icmp .ge 27, 3) := by decide +kernel
theorem dX8_tiffs_12 : decode cX8_tiffs 12 = .ok (.iload_n 2, 1) := by decide +kernel
theorem dX8_tiffs_13 : decode cX8_tiffs 13 = .ok (.bipush 6, 2) := by decide +kernel
theorem dX8_tiffs_15 : decode cX8_tiffs 15 = .ok (.if_icmp .ge 21, 3) := by decide +kernel
theorem dX8_tiffs_18 : decode cX8_tiffs 18 = .ok (.iload_n 1, 1) := by decide +kernel
theorem dX8_tiffs_19 : decode cX8_tiffs 19 = .ok (.aload_n 0, 1) := by decide +kernel
theorem dX8_tiffs_20 : decode cX8_tiffs 20 = .ok (.getfield 20, 3) := by decide +kernel
theorem dX8_tiffs_23 : decode cX8_tiffs 23 = .ok (.iload_n 2, 1) := by decide +kernel
theorem dX8_tiffs_24 : decode cX8_tiffs 24 = .ok (.aaload, 1) := by decide +kernel
theorem dX8_tiffs_25 : decode cX8_tiffs 25 = .ok (.getfield 55, 3) := by decide +kernel
theorem dX8_tiffs_28 : decode cX8_tiffs 28 = .ok (.iadd, 1) := by decide +kernel
theorem dX8_tiffs_29 : decode cX8_tiffs 29 = .ok (.istore_n 1, 1) := by decide +kernel
theorem dX8_tiffs_30 : decode cX8_tiffs 30 = .ok (.iinc 2 1, 3) := by decide +kernel
theorem dX8_tiffs_33 : decode cX8_tiffs 33 = .ok (.goto (-29), 3) := by decide +kernel
theorem dX8_tiffs_36 : decode cX8_tiffs 36 = .ok (.iload_n 1, 1) := by decide +kernel
theorem dX8_tiffs_37 : decode cX8_tiffs 37 = .ok (.ireturn, 1) := by decide +kernel
theorem dX8_voids_0 : decode cX8_voids 0 = .ok (.iconst 0, 1) := by decide +kernel
theorem dX8_voids_1 : decode cX8_voids 1 = .ok (.istore_n 1, 1) := by decide +kernel
theorem dX8_voids_2 : decode cX8_voids 2 = .ok (.iconst 0, 1) := by decide +kernel
theorem dX8_voids_3 : decode cX8_voids 3 = .ok (.istore_n 2, 1) := by decide +kernel
theorem dX8_voids_4 : decode cX8_voids 4 = .ok (.iload_n 2, 1) := by decide +kernel
theorem dX8_voids_5 : decode cX8_voids 5 = .ok (.aload_n 0, 1) := by decide +kernel
theorem dX8_voids_6 : decode cX8_voids 6 = .ok (.getfield 30, 3) := by decide +kernel
theorem dX8_voids_9 : decode cX8_voids 9 = .ok (.if_icmp .ge 33, 3) := by decide +kernel
theorem dX8_voids_12 : decode cX8_voids 12 = .ok (.iload_n 2, 1) := by decide +kernel
theorem dX8_voids_13 : decode cX8_voids 13 = .ok (.bipush 6, 2) := by decide +kernel
theorem dX8_voids_15 : decode cX8_voids 15 = .ok (.if_icmp .ge 27, 3) := by decide +kernel
theorem dX8_voids_18 : decode cX8_voids 18 = .ok (.aload_n 0, 1) := by decide +kernel
theorem dX8_voids_19 : decode cX8_voids 19 = .ok (.getfield 20, 3) := by decide +kernel
theorem dX8_voids_22 : decode cX8_voids 22 = .ok (.iload_n 2, 1) := by decide +kernel
theorem dX8_voids_23 : decode cX8_voids 23 = .ok (.aaload, 1) := by decide +kernel
theorem dX8_voids_24 : decode cX8_voids 24 = .ok (.getfield 58, 3) := by decide +kernel
theorem dX8_voids_27 : decode cX8_voids 27 = .ok (.ifCond .eq 9, 3) := by decide +kernel
theorem dX8_voids_30 : decode cX8_voids 30 = .ok (.iload_n 1, 1) := by decide +kernel
theorem dX8_voids_31 : decode cX8_voids 31 = .ok (.iconst 1, 1) := by decide +kernel
theorem dX8_voids_32 : decode cX8_voids 32 = .ok (.iload_n 2, 1) := by decide +kernel
theorem dX8_voids_33 : decode cX8_voids 33 = .ok (.ishl, 1) := by decide +kernel
theorem dX8_voids_34 : decode cX8_voids 34 = .ok (.ior, 1) := by decide +kernel
theorem dX8_voids_35 : decode cX8_voids 35 = .ok (.istore_n 1, 1) := by decide +kernel
theorem dX8_voids_36 : decode cX8_voids 36 = .ok (.iinc 2 1, 3) := by decide +kernel
theorem dX8_voids_39 : decode cX8_voids 39 = .ok (.goto (-35), 3) := by decide +kernel
theorem dX8_voids_42 : decode cX8_voids 42 = .ok (.iload_n 1, 1) := by decide +kernel
theorem dX8_voids_43 : decode cX8_voids 43 = .ok (.ireturn, 1) := by decide +kernel
set_option maxRecDepth 20000 in
theorem ggX9_init_X2_init : GoodIn wsX9_init wsX2_init := goodIn_r _ [41, 42, 43, 44, 45, 2, 3] (by decide +kernel) (by decide +kernel)
set_option maxRecDepth 20000 in
theorem gX9_init_X2_init_n9 : GoodIn wsX9_init (wsX2_init) := ggX9_init_X2_init
set_option maxRecDepth 20000 in
theorem ggX9_init_X7_init : GoodIn wsX9_init wsX7_init := goodIn_r _ [48, 49, 2, 3, 31, 50, 51, 52, 53, 105, 106, 107, 108, 109, 110, 111, 112] (by decide +kernel) (by decide +kernel)
set_option maxRecDepth 20000 in
theorem gX9_init_X7_init : GoodIn wsX9_init (wsX7_init) := ggX9_init_X7_init
set_option maxRecDepth 20000 in
theorem ggX9_init_X3_init : GoodIn wsX9_init wsX3_init := goodIn_r _ [55, 40, 6, 41, 42, 43, 44, 45, 2, 3] (by decide +kernel) (by decide +kernel)
set_option maxRecDepth 20000 in
theorem gX9_init_X3_init_n23 : GoodIn wsX9_init (wsX3_init) := ggX9_init_X3_init
set_option maxRecDepth 20000 in
theorem ggX9_init_X5_init : GoodIn wsX9_init wsX5_init := goodIn_r _ [57, 40, 6, 41, 42, 43, 44, 45, 2, 3] (by decide +kernel) (by decide +kernel)
set_option maxRecDepth 20000 in
theorem gX9_init_X5_init_n26 : GoodIn wsX9_init (wsX5_init) := ggX9_init_X5_init
set_option maxRecDepth 20000 in
theorem ggX9_init_X4_init : GoodIn wsX9_init wsX4_init := goodIn_r _ [59, 42, 43, 44, 45, 2, 3] (by decide +kernel) (by decide +kernel)
set_option maxRecDepth 20000 in
theorem gX9_init_X4_init_n29 : GoodIn wsX9_init (wsX4_init) := ggX9_init_X4_init
set_option maxRecDepth 20000 in
theorem ggX9_init_X8_init : GoodIn wsX9_init wsX8_init := goodIn_r _ [62, 63, 2, 3, 64, 65, 66, 67, 68, 69, 36, 37, 70, 71, 72, 73, 74, 75, 76, 77, 78, 79, 80, 81, 82, 83, 84, 85, 86, 87, 88, 89, 90, 91, 92, 93, 94, 95, 96, 97, 98, 99, 100, 101, 102, 103, 144, 145, 146, 147, 148, 149, 128, 129, 130, 131, 132, 133, 134, 135, 136, 137, 138, 139, 140, 141, 142, 143] (by decide +kernel) (by decide +kernel)
set_option maxRecDepth 20000 in
theorem gX9_init_X8_init : GoodIn wsX9_init (wsX8_init) := ggX9_init_X8_init
set_option maxRecDepth 20000 in
theorem ggX9_init_X1_init : GoodIn wsX9_init wsX1_init := goodIn_r _ [86, 87, 2, 3, 88, 89, 90, 37, 91, 92, 93, 94, 95, 96, 97, 98, 99, 100, 101, 102, 103, 132, 133, 134, 135, 136, 137, 138, 139, 140, 141, 142, 143] (by decide +kernel) (by decide +kernel)
set_option maxRecDepth 20000 in
theorem gX9_init_X1_init : GoodIn wsX9_init (wsX1_init) := ggX9_init_X1_init
theorem dX9_init_0 : decode cX9_init 0 = .ok (.aload_n 0, 1) := by decide +kernel
theorem dX9_init_1 : decode cX9_init 1 = .ok (.invokespecial 1, 3) := by decide +kernel
theorem dX9_init_4 : decode cX9_init 4 = .ok (.new 7, 3) := by decide +kernel
theorem dX9_init_7 : decode cX9_init 7 = .ok (.dup, 1) := by decide +kernel
theorem dX9_init_8 : decode cX9_init 8 = .ok (.invokespecial 9, 3) := by decide +kernel
theorem dX9_init_11 : decode cX9_init 11 = .ok (.astore_n 1, 1) := by decide +kernel
theorem dX9_init_12 : decode cX9_init 12 = .ok (.aload_n 0, 1) := by decide +kernel
theorem dX9_init_13 : decode cX9_init 13 = .ok (.new 10, 3) := by decide +kernel
theorem dX9_init_16 : decode cX9_init 16 = .ok (.dup, 1) := by decide +kernel
theorem dX9_init_17 : decode cX9_init 17 = .ok (.invokespecial 12, 3) := by decide +kernel
theorem dX9_init_20 : decode cX9_init 20 = .ok (.putfield 13, 3) := by decide +kernel
theorem dX9_init_23 : decode cX9_init 23 = .ok (.aload_n 0, 1) := by decide +kernel
theorem dX9_init_24 : decode cX9_init 24 = .ok (.iconst 4, 1) := by decide +kernel
theorem dX9_init_25 : decode cX9_init 25 = .ok (.anewarray 19, 3) := by decide +kernel
theorem dX9_init_28 : decode cX9_init 28 = .ok (.dup, 1) := by decide +kernel
theorem dX9_init_29 : decode cX9_init 29 = .ok (.iconst 0, 1) := by decide +kernel
theorem dX9_init_30 : decode cX9_init 30 = .ok (.aload_n 1, 1) := by decide +kernel
theorem dX9_init_31 : decode cX9_init 31 = .ok (.aastore, 1) := by decide +kernel
theorem dX9_init_32 : decode cX9_init 32 = .ok (.dup, 1) := by decide +kernel
theorem dX9_init_33 : decode cX9_init 33 = .ok (.iconst 1, 1) := by decide +kernel
theorem dX9_init_34 : decode cX9_init 34 = .ok (.new 21, 3) := by decide +kernel
theorem dX9_init_37 : decode cX9_init 37 = .ok (.dup, 1) := by decide +kernel
theorem dX9_init_38 : decode cX9_init 38 = .ok (.invokespecial 23, 3) := by decide +kernel
theorem dX9_init_41 : decode cX9_init 41 = .ok (.aastore, 1) := by decide +kernel
theorem dX9_init_42 : decode cX9_init 42 = .ok (.dup, 1) := by decide +kernel
theorem dX9_init_43 : decode cX9_init 43 = .ok (.iconst 2, 1) := by decide +kernel
theorem dX9_init_44 : decode cX9_init 44 = .ok (.new 24, 3) := by decide +kernel
theorem dX9_init_47 : decode cX9_init 47 = .ok (.dup, 1) := by decide +kernel
theorem dX9_init_48 : decode cX9_init 48 = .ok (.invokespecial 26, 3) := by decide +kernel
theorem dX9_init_51 : decode cX9_init 51 = .ok (.aastore, 1) := by decide +kernel
theorem dX9_init_52 : decode cX9_init 52 = .ok (.dup, 1) := by decide +kernel
theorem dX9_init_53 : decode cX9_init 53 = .ok (.iconst 3, 1) := by decide +kernel
theorem dX9_init_54 : decode cX9_init 54 = .ok (.new 27, 3) := by decide +kernel
theorem dX9_init_57 : decode cX9_init 57 = .ok (.dup, 1) := by decide +kernel
theorem dX9_init_58 : decode cX9_init 58 = .ok (.invokespecial 29, 3) := by decide +kernel
theorem dX9_init_61 : decode cX9_init 61 = .ok (.aastore, 1) := by decide +kernel
theorem dX9_init_62 : decode cX9_init 62 = .ok (.putfield 30, 3) := by decide +kernel
theorem dX9_init_65 : decode cX9_init 65 = .ok (.aload_n 0, 1) := by decide +kernel
theorem dX9_init_66 : decode cX9_init 66 = .ok (.new 34, 3) := by decide +kernel
theorem dX9_init_69 : decode cX9_init 69 = .ok (.dup, 1) := by decide +kernel
theorem dX9_init_70 : decode cX9_init 70 = .ok (.aload_n 1, 1) := by decide +kernel
theorem dX9_init_71 : decode cX9_init 71 = .ok (.invokespecial 36, 3) := by decide +kernel
theorem dX9_init_74 : decode cX9_init 74 = .ok (.putfield 39, 3) := by decide +kernel
theorem dX9_init_77 : decode cX9_init 77 = .ok (.aload_n 0, 1) := by decide +kernel
theorem dX9_init_78 : decode cX9_init 78 = .ok (.new 34, 3) := by decide +kernel
theorem dX9_init_81 : decode cX9_init 81 = .ok (.dup, 1) := by decide +kernel
theorem dX9_init_82 : decode cX9_init 82 = .ok (.aload_n 1, 1) := by decide +kernel
theorem dX9_init_83 : decode cX9_init 83 = .ok (.invokespecial 36, 3) := by decide +kernel
theorem dX9_init_86 : decode cX9_init 86 = .ok (.putfield 43, 3) := by decide +kernel
theorem dX9_init_89 : decode cX9_init 89 = .ok (.aload_n 0, 1) := by decide +kernel
theorem dX9_init_90 : decode cX9_init 90 = .ok (.iconst 2, 1) := by decide +kernel
theorem dX9_init_91 : decode cX9_init 91 = .ok (.anewarray 34, 3) := by decide +kernel
theorem dX9_init_94 : decode cX9_init 94 = .ok (.putfield 46, 3) := by decide +kernel
theorem dX9_init_97 : decode cX9_init 97 = .ok (.iconst 0, 1) := by decide +kernel
theorem dX9_init_98 : decode cX9_init 98 = .ok (.istore_n 2, 1) := by decide +kernel
theorem dX9_init_99 : decode cX9_init 99 = .ok (.iload_n 2, 1) := by decide +kernel
theorem dX9_init_100 : decode cX9_init 100 = .ok (.iconst 2, 1) := by decide +kernel
theorem dX9_init_101 : decode cX9_init 101 = .ok (.if_icmp .ge 23, 3) := by decide +kernel
theorem dX9_init_104 : decode cX9_init 104 = .ok (.aload_n 0, 1) := by decide +kernel
theorem dX9_init_105 : decode cX9_init 105 = .ok (.getfield 46, 3) := by decide +kernel
theorem dX9_init_108 : decode cX9_init 108 = .ok (.iload_n 2, 1) := by decide +kernel
theorem dX9_init_109 : decode cX9_init 109 = .ok (.new 34, 3) := by decide +kernel
theorem dX9_init_112 : decode cX9_init 112 = .ok (.dup, 1) := by decide +kernel
theorem dX9_init_113 : decode cX9_init 113 = .ok (.aload_n 1, 1) := by decide +kernel
theorem dX9_init_114 : decode cX9_init 114 = .ok (.invokespecial 36, 3) := by decide +kernel
theorem dX9_init_117 : decode cX9_init 117 = .ok (.aastore, 1) := by decide +kernel
theorem dX9_init_118 : decode cX9_init 118 = .ok (.iinc 2 1, 3) := by decide +kernel
theorem dX9_init_121 : decode cX9_init 121 = .ok (.goto (-22), 3) := by decide +kernel
theorem dX9_init_124 : decode cX9_init 124 = .ok (.aload_n 0, 1) := by decide +kernel
theorem dX9_init_125 : decode cX9_init 125 = .ok (.iconst 2, 1) := by decide +kernel
theorem dX9_init_126 : decode cX9_init 126 = .ok (.newarray .boolean, 2) := by decide +kernel
theorem dX9_init_128 : decode cX9_init 128 = .ok (.putfield 50, 3) := by decide +kernel
theorem dX9_init_131 : decode cX9_init 131 = .ok (.aload_n 0, 1) := by decide +kernel
theorem dX9_init_132 : decode cX9_init 132 = .ok (.bipush 8, 2) := by decide +kernel
theorem dX9_init_134 : decode cX9_init 134 = .ok (.anewarray 34, 3) := by decide +kernel
theorem dX9_init_137 : decode cX9_init 137 = .ok (.putfield 54, 3) := by decide +kernel
theorem dX9_init_140 : decode cX9_init 140 = .ok (.iconst 0, 1) := by decide +kernel
theorem dX9_init_141 : decode cX9_init 141 = .ok (.istore_n 2, 1) := by decide +kernel
theorem dX9_init_142 : decode cX9_init 142 = .ok (.iload_n 2, 1) := by decide +kernel
theorem dX9_init_143 : decode cX9_init 143 = .ok (.bipush 8, 2) := by decide +kernel
theorem dX9_init_145 : decode cX9_init 145 = .ok (.if_icmp .ge 23, 3) := by decide +kernel
theorem dX9_init_148 : decode cX9_init 148 = .ok (.aload_n 0, 1) := by decide +kernel
theorem dX9_init_149 : decode cX9_init 149 = .ok (.getfield 54, 3) := by decide +kernel
theorem dX9_init_152 : decode cX9_init 152 = .ok (.iload_n 2, 1) := by decide +kernel
theorem dX9_init_153 : decode cX9_init 153 = .ok (.new 34, 3) := by decide +kernel
theorem dX9_init_156 : decode cX9_init 156 = .ok (.dup, 1) := by decide +kernel
theorem dX9_init_157 : decode cX9_init 157 = .ok (.aload_n 1, 1) := by decide +kernel
theorem dX9_init_158 : decode cX9_init 158 = .ok (.invokespecial 36, 3) := by decide +kernel
theorem dX9_init_161 : decode cX9_init 161 = .ok (.aastore, 1) := by decide +kernel
theorem dX9_init_162 : decode cX9_init 162 = .ok (.iinc 2 1, 3) := by decide +kernel
theorem dX9_init_165 : decode cX9_init 165 = .ok (.goto (-23), 3) := by decide +kernel
theorem dX9_init_168 : decode cX9_init 168 = .ok (.aload_n 0, 1) := by decide +kernel
theorem dX9_init_169 : decode cX9_init 169 = .ok (.bipush 6, 2) := by decide +kernel
theorem dX9_init_171 : decode cX9_init 171 = .ok (.newarray .int, 2) := by decide +kernel
theorem dX9_init_173 : decode cX9_init 173 = .ok (.putfield 57, 3) := by decide +kernel
theorem dX9_init_176 : decode cX9_init 176 = .ok (.aload_n 0, 1) := by decide +kernel
theorem dX9_init_177 : decode cX9_init 177 = .ok (.bipush 6, 2) := by decide +kernel
theorem dX9_init_179 : decode cX9_init 179 = .ok (.newarray .int, 2) := by decide +kernel
theorem dX9_init_181 : decode cX9_init 181 = .ok (.putfield 61, 3) := by decide +kernel
theorem dX9_init_184 : decode cX9_init 184 = .ok (.aload_n 0, 1) := by decide +kernel
theorem dX9_init_185 : decode cX9_init 185 = .ok (.bipush 6, 2) := by decide +kernel
theorem dX9_init_187 : decode cX9_init 187 = .ok (.newarray .int, 2) := by decide +kernel
theorem dX9_init_189 : decode cX9_init 189 = .ok (.putfield 64, 3) := by decide +kernel
theorem dX9_init_192 : decode cX9_init 192 = .ok (.aload_n 0, 1) := by decide +kernel
theorem dX9_init_193 : decode cX9_init 193 = .ok (.new 67, 3) := by decide +kernel
theorem dX9_init_196 : decode cX9_init 196 = .ok (.dup, 1) := by decide +kernel
theorem dX9_init_197 : decode cX9_init 197 = .ok (.aload_n 1, 1) := by decide +kernel
theorem dX9_init_198 : decode cX9_init 198 = .ok (.invokespecial 69, 3) := by decide +kernel
theorem dX9_init_201 : decode cX9_init 201 = .ok (.putfield 70, 3) := by decide +kernel
theorem dX9_init_204 : decode cX9_init 204 = .ok (.aload_n 0, 1) := by decide +kernel
theorem dX9_init_205 : decode cX9_init 205 = .ok (.bipush 60, 2) := by decide +kernel
theorem dX9_init_207 : decode cX9_init 207 = .ok (.newarray .int, 2) := by decide +kernel
theorem dX9_init_209 : decode cX9_init 209 = .ok (.putfield 74, 3) := by decide +kernel
theorem dX9_init_212 : decode cX9_init 212 = .ok (.return_, 1) := by decide +kernel
set_option maxRecDepth 20000 in
theorem ggX9_write_X9_outside : GoodIn wsX9_write wsX9_outside := goodIn_r _ [6] (by decide +kernel) (by decide +kernel)
set_option maxRecDepth 20000 in
theorem gX9_write_X9_outside : GoodIn wsX9_write (va_wsS RX9 77 yX9_outside wsX9_outside) := goodIn_app (goodIn_of _ (by decide +kernel)) ggX9_write_X9_outside
set_option maxRecDepth 20000 in
theorem ggX9_write_X7_append : GoodIn wsX9_write wsX7_append := goodIn_r _ [11, 12, 13, 29, 30, 31, 32, 33, 34, 35, 36] (by decide +kernel) (by decide +kernel)
set_option maxRecDepth 20000 in
theorem gX9_write_X7_append : GoodIn wsX9_write (wsV RX9 81 RX7 yX7_append wsX7_append) := goodIn_app (goodIn_of _ (by decide +kernel)) ggX9_write_X7_append
theorem dX9_write_0 : decode cX9_write 0 = .ok (.iload_n 1, 1) := by decide +kernel
theorem dX9_write_1 : decode cX9_write 1 = .ok (.iconst 0, 1) := by decide +kernel
theorem dX9_write_2 : decode cX9_write 2 = .ok (.sipush 255, 3) := by decide +kernel
theorem dX9_write_5 : decode cX9_write 5 = .ok (.invokestatic 77, 3) := by decide +kernel
theorem dX9_write_8 : decode cX9_write 8 = .ok (.ifCond .eq 6, 3) := by decide +kernel
theorem dX9_write_11 : decode cX9_write 11 = .ok (.bipush (-3), 2) := by decide +kernel
theorem dX9_write_13 : decode cX9_write 13 = .ok (.ireturn, 1) := by decide +kernel
theorem dX9_write_14 : decode cX9_write 14 = .ok (.aload_n 0, 1) := by decide +kernel
theorem dX9_write_15 : decode cX9_write 15 = .ok (.getfield 13, 3) := by decide +kernel
theorem dX9_write_18 : decode cX9_write 18 = .ok (.iload_n 1, 1) := by decide +kernel
theorem dX9_write_19 : decode cX9_write 19 = .ok (.invokevirtual 81, 3) := by decide +kernel
theorem dX9_write_22 : decode cX9_write 22 = .ok (.ifCond .eq 13, 3) := by decide +kernel
theorem dX9_write_25 : decode cX9_write 25 = .ok (.aload_n 0, 1) := by decide +kernel
theorem dX9_write_26 : decode cX9_write 26 = .ok (.getfield 13, 3) := by decide +kernel
theorem dX9_write_29 : decode cX9_write 29 = .ok (.getfield 85, 3) := by decide +kernel
theorem dX9_write_32 : decode cX9_write 32 = .ok (.goto 5, 3) := by decide +kernel
theorem dX9_write_35 : decode cX9_write 35 = .ok (.bipush (-5), 2) := by decide +kernel
theorem dX9_write_37 : decode cX9_write 37 = .ok (.ireturn, 1) := by decide +kernel
theorem dX9_erase_0 : decode cX9_erase 0 = .ok (.aload_n 0, 1) := by decide +kernel
theorem dX9_erase_1 : decode cX9_erase 1 = .ok (.getfield 13, 3) := by decide +kernel
theorem dX9_erase_4 : decode cX9_erase 4 = .ok (.getfield 85, 3) := by decide +kernel
theorem dX9_erase_7 : decode cX9_erase 7 = .ok (.istore_n 1, 1) := by decide +kernel
theorem dX9_erase_8 : decode cX9_erase 8 = .ok (.aload_n 0, 1) := by decide +kernel
theorem dX9_erase_9 : decode cX9_erase 9 = .ok (.getfield 13, 3) := by decide +kernel
theorem dX9_erase_12 : decode cX9_erase 12 = .ok (.iconst 0, 1) := by decide +kernel
theorem dX9_erase_13 : decode cX9_erase 13 = .ok (.putfield 85, 3) := by decide +kernel
theorem dX9_erase_16 : decode cX9_erase 16 = .ok (.iload_n 1, 1) := by decide +kernel
theorem dX9_erase_17 : decode cX9_erase 17 = .ok (.ireturn, 1) := by decide +kernel
set_option maxRecDepth 20000 in
theorem ggX9_fault_X7_read : GoodIn wsX9_fault wsX7_read := goodIn_r _ [8, 9, 10, 11, 12, 13, 14, 15, 16, 7, 17, 18, 19, 20, 21, 22, 23, 24, 25, 26, 27, 28, 29, 30, 31, 32, 33, 34, 35, 36, 37, 38, 39, 40, 41, 42, 43, 44, 45, 46, 47, 48, 49, 50, 51, 52, 53, 54, 55, 56, 57, 58, 59, 60, 61, 62, 63, 64, 65, 66, 67, 68, 69, 70, 71, 72, 73, 74, 75, 76, 77, 78, 79, 80, 81, 82, 83, 84, 85, 86, 87, 88, 89, 90, 91, 92, 93, 94, 95, 96, 97, 98, 99, 100, 101, 102, 103, 123, 124, 125, 126, 127, 128, 129, 130] (by decide +kernel) (by decide +kernel)
set_option maxRecDepth 20000 in
theorem gX9_fault_X7_read : GoodIn wsX9_fault (wsV RX9 92 RX7 yX7_read wsX7_read) := goodIn_app (goodIn_of _ (by decide +kernel)) ggX9_fault_X7_read
theorem dX9_fault_0 : decode cX9_fault 0 = .ok (.aload_n 0, 1) := by decide +kernel
theorem dX9_fault_1 : decode cX9_fault 1 = .ok (.getfield 13, 3) := by decide +kernel
theorem dX9_fault_4 : decode cX9_fault 4 = .ok (.aload_n 0, 1) := by decide +kernel
theorem dX9_fault_5 : decode cX9_fault 5 = .ok (.getfield 39, 3) := by decide +kernel
theorem dX9_fault_8 : decode cX9_fault 8 = .ok (.getfield 89, 3) := by decide +kernel
theorem dX9_fault_11 : decode cX9_fault 11 = .ok (.invokevirtual 92, 3) := by decide +kernel
theorem dX9_fault_14 : decode cX9_fault 14 = .ok (.ireturn, 1) := by decide +kernel
set_option maxRecDepth 20000 in
theorem ggX9_desk_X7_read : GoodIn wsX9_desk wsX7_read := goodIn_r _ [13, 14, 15, 16, 17, 18, 19, 20, 21, 12, 22, 23, 24, 25, 26, 27, 28, 29, 30, 31, 32, 33, 34, 35, 36, 37, 38, 39, 40, 41, 42, 43, 44, 45, 46, 47, 48, 49, 50, 51, 52, 53, 54, 55, 56, 57, 58, 59, 60, 61, 62, 63, 64, 65, 66, 67, 68, 69, 70, 71, 72, 73, 74, 75, 76, 77, 78, 79, 80, 81, 82, 83, 84, 85, 86, 87, 88, 89, 90, 91, 92, 93, 94, 95, 96, 97, 98, 99, 100, 101, 102, 103, 104, 105, 106, 107, 108, 200, 201, 202, 203, 204, 205, 206, 207] (by decide +kernel) (by decide +kernel)
set_option maxRecDepth 20000 in
theorem gX9_desk_X7_read : GoodIn wsX9_desk (wsV RX9 92 RX7 yX7_read wsX7_read) := goodIn_app (goodIn_of _ (by decide +kernel)) ggX9_desk_X7_read
set_option maxRecDepth 20000 in
theorem ggX9_desk_X9_tell : GoodIn wsX9_desk wsX9_tell := goodIn_r _ [112, 2, 113, 114, 115, 116, 117, 118, 119, 120, 121, 122, 123, 124, 125, 126, 127, 128, 129, 130, 131, 132, 133, 134, 94, 12, 95, 135, 136, 137, 138, 139, 140, 141, 142, 143, 144, 145, 146, 147, 148, 149, 150, 151, 152, 153, 154, 155, 156, 157, 158, 159, 160, 181, 182, 183, 184, 185, 186, 187, 188, 189, 190, 191, 192, 193, 194, 195, 196, 197, 198, 199, 208, 209, 210, 211, 212, 213, 214, 215, 216, 217, 218, 219, 220, 221, 222, 223, 224, 225] (by decide +kernel) (by decide +kernel)
set_option maxRecDepth 20000 in
theorem gX9_desk_X9_tell : GoodIn wsX9_desk (wsV RX9 108 RX9 yX9_tell wsX9_tell) := goodIn_app (goodIn_of _ (by decide +kernel)) ggX9_desk_X9_tell
set_option maxRecDepth 20000 in
theorem ggX9_desk_X9_begin : GoodIn wsX9_desk wsX9_begin := goodIn_r _ [164, 165, 2, 166, 167, 168, 169, 170, 171, 118, 172, 120, 121, 139, 122, 173, 174, 175, 126, 176, 128, 129, 130, 131, 132, 133, 177, 178, 179, 143, 180, 145, 146, 147, 148, 149, 150, 151, 152, 153, 154, 155, 156, 181, 182, 183, 184, 185, 186, 187, 188, 189, 190, 191, 192, 193, 194, 195, 196, 197, 198, 199, 208, 209, 210, 211, 212, 213, 214, 215, 216, 217, 218, 219, 220, 221, 222, 223, 224, 225] (by decide +kernel) (by decide +kernel)
set_option maxRecDepth 20000 in
theorem gX9_desk_X9_begin : GoodIn wsX9_desk (wsV RX9 112 RX9 yX9_begin wsX9_begin) := goodIn_app (goodIn_of _ (by decide +kernel)) ggX9_desk_X9_begin
theorem dX9_desk_0 : decode cX9_desk 0 = .ok (.aload_n 0, 1) := by decide +kernel
theorem dX9_desk_1 : decode cX9_desk 1 = .ok (.getfield 13, 3) := by decide +kernel
theorem dX9_desk_4 : decode cX9_desk 4 = .ok (.aload_n 0, 1) := by decide +kernel
theorem dX9_desk_5 : decode cX9_desk 5 = .ok (.getfield 39, 3) := by decide +kernel
theorem dX9_desk_8 : decode cX9_desk 8 = .ok (.getfield 89, 3) := by decide +kernel
theorem dX9_desk_11 : decode cX9_desk 11 = .ok (.invokevirtual 92, 3) := by decide +kernel
theorem dX9_desk_14 : decode cX9_desk 14 = .ok (.iconst (-1), 1) := by decide +kernel
theorem dX9_desk_15 : decode cX9_desk 15 = .ok (.if_icmp .eq 6, 3) := by decide +kernel
theorem dX9_desk_18 : decode cX9_desk 18 = .ok (.bipush (-4), 2) := by decide +kernel
theorem dX9_desk_20 : decode cX9_desk 20 = .ok (.ireturn, 1) := by decide +kernel
theorem dX9_desk_21 : decode cX9_desk 21 = .ok (.aload_n 0, 1) := by decide +kernel
theorem dX9_desk_22 : decode cX9_desk 22 = .ok (.getfield 13, 3) := by decide +kernel
theorem dX9_desk_25 : decode cX9_desk 25 = .ok (.getfield 96, 3) := by decide +kernel
theorem dX9_desk_28 : decode cX9_desk 28 = .ok (.istore_n 1, 1) := by decide +kernel
theorem dX9_desk_29 : decode cX9_desk 29 = .ok (.iconst 0, 1) := by decide +kernel
theorem dX9_desk_30 : decode cX9_desk 30 = .ok (.istore_n 2, 1) := by decide +kernel
theorem dX9_desk_31 : decode cX9_desk 31 = .ok (.iload_n 2, 1) := by decide +kernel
theorem dX9_desk_32 : decode cX9_desk 32 = .ok (.iload_n 1, 1) := by decide +kernel
theorem dX9_desk_33 : decode cX9_desk 33 = .ok (.if_icmp .ge 46, 3) := by decide +kernel
theorem dX9_desk_36 : decode cX9_desk 36 = .ok (.iload_n 2, 1) := by decide +kernel
theorem dX9_desk_37 : decode cX9_desk 37 = .ok (.bipush 14, 2) := by decide +kernel
theorem dX9_desk_39 : decode cX9_desk 39 = .ok (.if_icmp .ge 40, 3) := by decide +kernel
theorem dX9_desk_42 : decode cX9_desk 42 = .ok (.aload_n 0, 1) := by decide +kernel
theorem dX9_desk_43 : decode cX9_desk 43 = .ok (.aload_n 0, 1) := by decide +kernel
theorem dX9_desk_44 : decode cX9_desk 44 = .ok (.getfield 13, 3) := by decide +kernel
theorem dX9_desk_47 : decode cX9_desk 47 = .ok (.getfield 99, 3) := by decide +kernel
theorem dX9_desk_50 : decode cX9_desk 50 = .ok (.iload_n 2, 1) := by decide +kernel
theorem dX9_desk_51 : decode cX9_desk 51 = .ok (.iaload, 1) := by decide +kernel
theorem dX9_desk_52 : decode cX9_desk 52 = .ok (.aload_n 0, 1) := by decide +kernel
theorem dX9_desk_53 : decode cX9_desk 53 = .ok (.getfield 13, 3) := by decide +kernel
theorem dX9_desk_56 : decode cX9_desk 56 = .ok (.getfield 102, 3) := by decide +kernel
theorem dX9_desk_59 : decode cX9_desk 59 = .ok (.iload_n 2, 1) := by decide +kernel
theorem dX9_desk_60 : decode cX9_desk 60 = .ok (.iaload, 1) := by decide +kernel
theorem dX9_desk_61 : decode cX9_desk 61 = .ok (.aload_n 0, 1) := by decide +kernel
theorem dX9_desk_62 : decode cX9_desk 62 = .ok (.getfield 13, 3) := by decide +kernel
theorem dX9_desk_65 : decode cX9_desk 65 = .ok (.getfield 105, 3) := by decide +kernel
theorem dX9_desk_68 : decode cX9_desk 68 = .ok (.iload_n 2, 1) := by decide +kernel
theorem dX9_desk_69 : decode cX9_desk 69 = .ok (.iaload, 1) := by decide +kernel
theorem dX9_desk_70 : decode cX9_desk 70 = .ok (.invokevirtual 108, 3) := by decide +kernel
theorem dX9_desk_73 : decode cX9_desk 73 = .ok (.iinc 2 1, 3) := by decide +kernel
theorem dX9_desk_76 : decode cX9_desk 76 = .ok (.goto (-45), 3) := by decide +kernel
theorem dX9_desk_79 : decode cX9_desk 79 = .ok (.aload_n 0, 1) := by decide +kernel
theorem dX9_desk_80 : decode cX9_desk 80 = .ok (.getfield 13, 3) := by decide +kernel
theorem dX9_desk_83 : decode cX9_desk 83 = .ok (.iconst 0, 1) := by decide +kernel
theorem dX9_desk_84 : decode cX9_desk 84 = .ok (.putfield 85, 3) := by decide +kernel
theorem dX9_desk_87 : decode cX9_desk 87 = .ok (.aload_n 0, 1) := by decide +kernel
theorem dX9_desk_88 : decode cX9_desk 88 = .ok (.invokevirtual 112, 3) := by decide +kernel
theorem dX9_desk_91 : decode cX9_desk 91 = .ok (.iload_n 1, 1) := by decide +kernel
theorem dX9_desk_92 : decode cX9_desk 92 = .ok (.ireturn, 1) := by decide +kernel
set_option maxRecDepth 20000 in
theorem ggX9_couple_X9_unknown : GoodIn wsX9_couple wsX9_unknown := goodIn_r _ [7, 1, 8, 42, 43, 44, 45, 46, 47, 48, 49, 50, 51, 52, 53, 54, 55, 56, 57, 58, 59, 60] (by decide +kernel) (by decide +kernel)
set_option maxRecDepth 20000 in
theorem gX9_couple_X9_unknown : GoodIn wsX9_couple (wsV RX9 115 RX9 yX9_unknown wsX9_unknown) := goodIn_app (goodIn_of _ (by decide +kernel)) ggX9_couple_X9_unknown
set_option maxRecDepth 20000 in
theorem ggX9_couple_X1_part : GoodIn wsX9_couple wsX1_part := goodIn_r _ [13, 14, 15, 16, 17, 18, 19, 20, 21, 22, 23, 24, 25, 26, 27, 28, 29, 30, 31, 32, 33, 34, 35, 36, 37, 38, 39, 40, 41, 61, 62, 63, 64, 65, 66, 67, 68, 69, 70, 71, 72] (by decide +kernel) (by decide +kernel)
set_option maxRecDepth 20000 in
theorem gX9_couple_X1_part : GoodIn wsX9_couple (wsV RX9 122 RX1 yX1_part wsX1_part) := goodIn_app (goodIn_of _ (by decide +kernel)) ggX9_couple_X1_part
theorem dX9_couple_0 : decode cX9_couple 0 = .ok (.aload_n 0, 1) := by decide +kernel
theorem dX9_couple_1 : decode cX9_couple 1 = .ok (.iload_n 1, 1) := by decide +kernel
theorem dX9_couple_2 : decode cX9_couple 2 = .ok (.invokevirtual 115, 3) := by decide +kernel
theorem dX9_couple_5 : decode cX9_couple 5 = .ok (.ifCond .eq 6, 3) := by decide +kernel
theorem dX9_couple_8 : decode cX9_couple 8 = .ok (.bipush (-2), 2) := by decide +kernel
theorem dX9_couple_10 : decode cX9_couple 10 = .ok (.ireturn, 1) := by decide +kernel
theorem dX9_couple_11 : decode cX9_couple 11 = .ok (.aload_n 0, 1) := by decide +kernel
theorem dX9_couple_12 : decode cX9_couple 12 = .ok (.getfield 43, 3) := by decide +kernel
theorem dX9_couple_15 : decode cX9_couple 15 = .ok (.getfield 118, 3) := by decide +kernel
theorem dX9_couple_18 : decode cX9_couple 18 = .ok (.iload_n 1, 1) := by decide +kernel
theorem dX9_couple_19 : decode cX9_couple 19 = .ok (.aaload, 1) := by decide +kernel
theorem dX9_couple_20 : decode cX9_couple 20 = .ok (.iload_n 2, 1) := by decide +kernel
theorem dX9_couple_21 : decode cX9_couple 21 = .ok (.invokevirtual 122, 3) := by decide +kernel
theorem dX9_couple_24 : decode cX9_couple 24 = .ok (.ireturn, 1) := by decide +kernel
set_option maxRecDepth 20000 in
theorem ggX9_as_X9_unknown : GoodIn wsX9_as wsX9_unknown := goodIn_r _ [9, 1, 10, 46, 47, 48, 49, 50, 51, 52, 53, 54, 55, 56, 57, 58, 59, 60, 61, 62, 63, 64] (by decide +kernel) (by decide +kernel)
set_option maxRecDepth 20000 in
theorem gX9_as_X9_unknown : GoodIn wsX9_as (wsV RX9 115 RX9 yX9_unknown wsX9_unknown) := goodIn_app (goodIn_of _ (by decide +kernel)) ggX9_as_X9_unknown
set_option maxRecDepth 20000 in
theorem ggX9_as_X9_outside : GoodIn wsX9_as wsX9_outside := goodIn_r _ [13] (by decide +kernel) (by decide +kernel)
set_option maxRecDepth 20000 in
theorem gX9_as_X9_outside : GoodIn wsX9_as (va_wsS RX9 77 yX9_outside wsX9_outside) := goodIn_app (goodIn_of _ (by decide +kernel)) ggX9_as_X9_outside
set_option maxRecDepth 20000 in
theorem ggX9_as_X9_isA : GoodIn wsX9_as wsX9_isA := goodIn_r _ [16, 17, 18, 19, 20] (by decide +kernel) (by decide +kernel)
set_option maxRecDepth 20000 in
theorem gX9_as_X9_isA : GoodIn wsX9_as (va_wsS RX9 129 yX9_isA wsX9_isA) := goodIn_app (goodIn_of _ (by decide +kernel)) ggX9_as_X9_isA
set_option maxRecDepth 20000 in
theorem ggX9_as_X0_gain : GoodIn wsX9_as wsX0_gain := goodIn_r _ [26, 27, 65, 66, 67, 68, 69, 70, 71, 72, 73, 74, 75, 76] (by decide +kernel) (by decide +kernel)
set_option maxRecDepth 20000 in
theorem gX9_as_X0_gain_u136X2 : GoodIn wsX9_as (va_wsU RX9 136 RX2 "QuarrelDesk$Couple" ⟨"QuarrelDesk$Couple", "gain", "(LQuarrelDesk$Life;I)I"⟩ yX0_gain wsX0_gain) := goodIn_app (goodIn_of _ (by decide +kernel)) ggX9_as_X0_gain
set_option maxRecDepth 20000 in
theorem ggX9_as_X3_gain : GoodIn wsX9_as wsX3_gain := goodIn_r _ [32, 33, 34, 65, 66, 67, 68, 69, 70, 71, 72, 73, 74, 75, 76] (by decide +kernel) (by decide +kernel)
set_option maxRecDepth 20000 in
theorem gX9_as_X3_gain_u136X3 : GoodIn wsX9_as (va_wsO RX9 136 RX3 "QuarrelDesk$Couple" ⟨"QuarrelDesk$Couple", "gain", "(LQuarrelDesk$Life;I)I"⟩ yX3_gain wsX3_gain) := goodIn_app (goodIn_of _ (by decide +kernel)) ggX9_as_X3_gain
set_option maxRecDepth 20000 in
theorem ggX9_as_X4_gain : GoodIn wsX9_as wsX4_gain := goodIn_r _ [38, 39, 40, 65, 66, 67, 68, 69, 70, 71, 72, 73, 74, 75, 76] (by decide +kernel) (by decide +kernel)
set_option maxRecDepth 20000 in
theorem gX9_as_X4_gain_u136X4 : GoodIn wsX9_as (va_wsO RX9 136 RX4 "QuarrelDesk$Couple" ⟨"QuarrelDesk$Couple", "gain", "(LQuarrelDesk$Life;I)I"⟩ yX4_gain wsX4_gain) := goodIn_app (goodIn_of _ (by decide +kernel)) ggX9_as_X4_gain
set_option maxRecDepth 20000 in
theorem ggX9_as_X5_gain : GoodIn wsX9_as wsX5_gain := goodIn_r _ [44, 45, 65, 66, 67, 68, 69, 70, 71, 72, 73, 74, 75, 76] (by decide +kernel) (by decide +kernel)
set_option maxRecDepth 20000 in
theorem gX9_as_X5_gain_u136X5 : GoodIn wsX9_as (va_wsO RX9 136 RX5 "QuarrelDesk$Couple" ⟨"QuarrelDesk$Couple", "gain", "(LQuarrelDesk$Life;I)I"⟩ yX5_gain wsX5_gain) := goodIn_app (goodIn_of _ (by decide +kernel)) ggX9_as_X5_gain
theorem dX9_as_0 : decode cX9_as 0 = .ok (.aload_n 0, 1) := by decide +kernel
theorem dX9_as_1 : decode cX9_as 1 = .ok (.iload_n 1, 1) := by decide +kernel
theorem dX9_as_2 : decode cX9_as 2 = .ok (.invokevirtual 115, 3) := by decide +kernel
theorem dX9_as_5 : decode cX9_as 5 = .ok (.ifCond .eq 6, 3) := by decide +kernel
theorem dX9_as_8 : decode cX9_as 8 = .ok (.bipush (-2), 2) := by decide +kernel
theorem dX9_as_10 : decode cX9_as 10 = .ok (.ireturn, 1) := by decide +kernel
theorem dX9_as_11 : decode cX9_as 11 = .ok (.iload_n 2, 1) := by decide +kernel
theorem dX9_as_12 : decode cX9_as 12 = .ok (.iconst 0, 1) := by decide +kernel
theorem dX9_as_13 : decode cX9_as 13 = .ok (.iconst 4, 1) := by decide +kernel
theorem dX9_as_14 : decode cX9_as 14 = .ok (.invokestatic 77, 3) := by decide +kernel
theorem dX9_as_17 : decode cX9_as 17 = .ok (.ifCond .eq 6, 3) := by decide +kernel
theorem dX9_as_20 : decode cX9_as 20 = .ok (.bipush (-3), 2) := by decide +kernel
theorem dX9_as_22 : decode cX9_as 22 = .ok (.ireturn, 1) := by decide +kernel
theorem dX9_as_23 : decode cX9_as 23 = .ok (.aload_n 0, 1) := by decide +kernel
theorem dX9_as_24 : decode cX9_as 24 = .ok (.getfield 43, 3) := by decide +kernel
theorem dX9_as_27 : decode cX9_as 27 = .ok (.getfield 118, 3) := by decide +kernel
theorem dX9_as_30 : decode cX9_as 30 = .ok (.iload_n 1, 1) := by decide +kernel
theorem dX9_as_31 : decode cX9_as 31 = .ok (.aaload, 1) := by decide +kernel
theorem dX9_as_32 : decode cX9_as 32 = .ok (.astore_n 3, 1) := by decide +kernel
theorem dX9_as_33 : decode cX9_as 33 = .ok (.aload_n 3, 1) := by decide +kernel
theorem dX9_as_34 : decode cX9_as 34 = .ok (.getfield 125, 3) := by decide +kernel
theorem dX9_as_37 : decode cX9_as 37 = .ok (.iload_n 2, 1) := by decide +kernel
theorem dX9_as_38 : decode cX9_as 38 = .ok (.invokestatic 129, 3) := by decide +kernel
theorem dX9_as_41 : decode cX9_as 41 = .ok (.ifCond .eq 21, 3) := by decide +kernel
theorem dX9_as_44 : decode cX9_as 44 = .ok (.aload_n 3, 1) := by decide +kernel
theorem dX9_as_45 : decode cX9_as 45 = .ok (.getfield 125, 3) := by decide +kernel
theorem dX9_as_48 : decode cX9_as 48 = .ok (.aload_n 3, 1) := by decide +kernel
theorem dX9_as_49 : decode cX9_as 49 = .ok (.aload_n 0, 1) := by decide +kernel
theorem dX9_as_50 : decode cX9_as 50 = .ok (.getfield 43, 3) := by decide +kernel
theorem dX9_as_53 : decode cX9_as 53 = .ok (.getfield 133, 3) := by decide +kernel
theorem dX9_as_56 : decode cX9_as 56 = .ok (.invokevirtual 136, 3) := by decide +kernel
theorem dX9_as_59 : decode cX9_as 59 = .ok (.goto 5, 3) := by decide +kernel
theorem dX9_as_62 : decode cX9_as 62 = .ok (.bipush (-4), 2) := by decide +kernel
theorem dX9_as_64 : decode cX9_as 64 = .ok (.ireturn, 1) := by decide +kernel
set_option maxRecDepth 20000 in
theorem ggX9_term_X9_outside : GoodIn wsX9_term wsX9_outside := goodIn_r _ [6] (by decide +kernel) (by decide +kernel)
set_option maxRecDepth 20000 in
theorem gX9_term_X9_outside : GoodIn wsX9_term (va_wsS RX9 77 yX9_outside wsX9_outside) := goodIn_app (goodIn_of _ (by decide +kernel)) ggX9_term_X9_outside
set_option maxRecDepth 20000 in
theorem ggX9_term_X6_get : GoodIn wsX9_term wsX6_get := goodIn_r _ [11, 12, 13, 14, 15, 16, 17, 37, 38, 39, 40, 41, 42] (by decide +kernel) (by decide +kernel)
set_option maxRecDepth 20000 in
theorem gX9_term_X6_get : GoodIn wsX9_term (wsV RX9 144 RX6 yX6_get wsX6_get) := goodIn_app (goodIn_of _ (by decide +kernel)) ggX9_term_X6_get
theorem dX9_term_0 : decode cX9_term 0 = .ok (.iload_n 1, 1) := by decide +kernel
theorem dX9_term_1 : decode cX9_term 1 = .ok (.iconst 0, 1) := by decide +kernel
theorem dX9_term_2 : decode cX9_term 2 = .ok (.iconst 5, 1) := by decide +kernel
theorem dX9_term_3 : decode cX9_term 3 = .ok (.invokestatic 77, 3) := by decide +kernel
theorem dX9_term_6 : decode cX9_term 6 = .ok (.ifCond .eq 8, 3) := by decide +kernel
theorem dX9_term_9 : decode cX9_term 9 = .ok (.bipush (-3), 2) := by decide +kernel
theorem dX9_term_11 : decode cX9_term 11 = .ok (.goto 14, 3) := by decide +kernel
theorem dX9_term_14 : decode cX9_term 14 = .ok (.aload_n 0, 1) := by decide +kernel
theorem dX9_term_15 : decode cX9_term 15 = .ok (.getfield 43, 3) := by decide +kernel
theorem dX9_term_18 : decode cX9_term 18 = .ok (.getfield 140, 3) := by decide +kernel
theorem dX9_term_21 : decode cX9_term 21 = .ok (.iload_n 1, 1) := by decide +kernel
theorem dX9_term_22 : decode cX9_term 22 = .ok (.invokevirtual 144, 3) := by decide +kernel
theorem dX9_term_25 : decode cX9_term 25 = .ok (.ireturn, 1) := by decide +kernel
set_option maxRecDepth 20000 in
theorem ggX9_day_X9_remember : GoodIn wsX9_day wsX9_remember := goodIn_r _ [7, 8, 9, 10, 1, 11, 12, 13, 6, 14, 15, 16, 17, 18, 19, 20, 21, 22, 23, 24, 25, 26, 27, 28, 29, 30, 31, 32, 33, 34, 35, 36, 37, 38, 39, 40, 41, 42, 43, 44, 45, 46, 47, 48, 49, 50, 51, 52, 53, 54, 55, 140, 141, 142, 143, 144, 145, 146, 147, 148, 149, 150, 151, 152, 153, 154, 155, 156, 157, 158, 159, 160, 161, 162, 163, 164, 165, 166, 167, 168, 169, 170, 171, 172, 173, 174, 175, 176] (by decide +kernel) (by decide +kernel)
set_option maxRecDepth 20000 in
theorem gX9_day_X9_remember : GoodIn wsX9_day (wsV RX9 149 RX9 yX9_remember wsX9_remember) := goodIn_app (goodIn_of _ (by decide +kernel)) ggX9_day_X9_remember
set_option maxRecDepth 20000 in
theorem ggX9_day_X8_pass : GoodIn wsX9_day wsX8_pass := goodIn_r _ [59, 25, 26, 27, 24, 60, 61, 62, 42, 63, 46, 44, 64, 65, 66, 67, 55, 68, 69, 47, 70, 71, 72, 73, 74, 75, 76, 77, 78, 79, 80, 81, 82, 83, 84, 85, 86, 87, 88, 89, 90, 91, 92, 93, 94, 95, 96, 97, 98, 48, 53, 99, 100, 101, 102, 103, 49, 54, 104, 105, 106, 107, 108, 109, 110, 111, 112, 113, 114, 115, 116, 117, 118, 119, 120, 121, 122, 123, 124, 51, 52, 125, 50, 126, 127, 128, 129, 130, 131, 132, 133, 134, 135, 136, 137, 138, 139, 155, 156, 157, 158, 165, 166, 167, 168, 169, 170, 171, 172, 173, 174, 175, 176, 159, 160, 161, 162, 163, 164] (by decide +kernel) (by decide +kernel)
set_option maxRecDepth 20000 in
theorem gX9_day_X8_pass : GoodIn wsX9_day (wsV RX9 152 RX8 yX8_pass wsX8_pass) := goodIn_app (goodIn_of _ (by decide +kernel)) ggX9_day_X8_pass
theorem dX9_day_0 : decode cX9_day 0 = .ok (.aload_n 0, 1) := by decide +kernel
theorem dX9_day_1 : decode cX9_day 1 = .ok (.getfield 43, 3) := by decide +kernel
theorem dX9_day_4 : decode cX9_day 4 = .ok (.getfield 133, 3) := by decide +kernel
theorem dX9_day_7 : decode cX9_day 7 = .ok (.sipush 999, 3) := by decide +kernel
theorem dX9_day_10 : decode cX9_day 10 = .ok (.if_icmp .lt 6, 3) := by decide +kernel
theorem dX9_day_13 : decode cX9_day 13 = .ok (.bipush (-5), 2) := by decide +kernel
theorem dX9_day_15 : decode cX9_day 15 = .ok (.ireturn, 1) := by decide +kernel
theorem dX9_day_16 : decode cX9_day 16 = .ok (.aload_n 0, 1) := by decide +kernel
theorem dX9_day_17 : decode cX9_day 17 = .ok (.invokevirtual 149, 3) := by decide +kernel
theorem dX9_day_20 : decode cX9_day 20 = .ok (.aload_n 0, 1) := by decide +kernel
theorem dX9_day_21 : decode cX9_day 21 = .ok (.getfield 43, 3) := by decide +kernel
theorem dX9_day_24 : decode cX9_day 24 = .ok (.invokevirtual 152, 3) := by decide +kernel
theorem dX9_day_27 : decode cX9_day 27 = .ok (.ireturn, 1) := by decide +kernel
set_option maxRecDepth 20000 in
theorem ggX9_kiss_X9_unknown : GoodIn wsX9_kiss wsX9_unknown := goodIn_r _ [8, 1, 9, 66, 67, 68, 69, 70, 71, 72, 73, 74, 75, 76, 77, 78, 79, 80, 81, 82, 83, 84] (by decide +kernel) (by decide +kernel)
set_option maxRecDepth 20000 in
theorem gX9_kiss_X9_unknown : GoodIn wsX9_kiss (wsV RX9 115 RX9 yX9_unknown wsX9_unknown) := goodIn_app (goodIn_of _ (by decide +kernel)) ggX9_kiss_X9_unknown
set_option maxRecDepth 20000 in
theorem ggX9_kiss_X9_remember : GoodIn wsX9_kiss wsX9_remember := goodIn_r _ [13, 14, 15, 16, 1, 17, 18, 19, 7, 20, 21, 22, 23, 24, 25, 26, 27, 28, 29, 30, 31, 32, 33, 34, 35, 36, 37, 38, 39, 40, 41, 42, 43, 44, 45, 46, 47, 48, 49, 50, 51, 52, 53, 54, 55, 56, 57, 58, 59, 60, 61, 66, 67, 68, 69, 70, 71, 72, 73, 74, 75, 76, 77, 78, 79, 80, 81, 82, 83, 84, 97, 98, 99, 100, 101, 102, 85, 86, 87, 88, 89, 90, 91, 92, 93, 94, 95, 96] (by decide +kernel) (by decide +kernel)
set_option maxRecDepth 20000 in
theorem gX9_kiss_X9_remember : GoodIn wsX9_kiss (wsV RX9 149 RX9 yX9_remember wsX9_remember) := goodIn_app (goodIn_of _ (by decide +kernel)) ggX9_kiss_X9_remember
set_option maxRecDepth 20000 in
theorem ggX9_kiss_X1_beKissed : GoodIn wsX9_kiss wsX1_beKissed := goodIn_r _ [65, 52, 53, 54, 85, 86, 87, 88, 89, 90, 91, 92, 93, 94, 95, 96] (by decide +kernel) (by decide +kernel)
set_option maxRecDepth 20000 in
theorem gX9_kiss_X1_beKissed : GoodIn wsX9_kiss (wsV RX9 156 RX1 yX1_beKissed wsX1_beKissed) := goodIn_app (goodIn_of _ (by decide +kernel)) ggX9_kiss_X1_beKissed
theorem dX9_kiss_0 : decode cX9_kiss 0 = .ok (.aload_n 0, 1) := by decide +kernel
theorem dX9_kiss_1 : decode cX9_kiss 1 = .ok (.iload_n 1, 1) := by decide +kernel
theorem dX9_kiss_2 : decode cX9_kiss 2 = .ok (.invokevirtual 115, 3) := by decide +kernel
theorem dX9_kiss_5 : decode cX9_kiss 5 = .ok (.ifCond .eq 6, 3) := by decide +kernel
theorem dX9_kiss_8 : decode cX9_kiss 8 = .ok (.bipush (-2), 2) := by decide +kernel
theorem dX9_kiss_10 : decode cX9_kiss 10 = .ok (.ireturn, 1) := by decide +kernel
theorem dX9_kiss_11 : decode cX9_kiss 11 = .ok (.aload_n 0, 1) := by decide +kernel
theorem dX9_kiss_12 : decode cX9_kiss 12 = .ok (.invokevirtual 149, 3) := by decide +kernel
theorem dX9_kiss_15 : decode cX9_kiss 15 = .ok (.aload_n 0, 1) := by decide +kernel
theorem dX9_kiss_16 : decode cX9_kiss 16 = .ok (.getfield 43, 3) := by decide +kernel
theorem dX9_kiss_19 : decode cX9_kiss 19 = .ok (.getfield 118, 3) := by decide +kernel
theorem dX9_kiss_22 : decode cX9_kiss 22 = .ok (.iload_n 1, 1) := by decide +kernel
theorem dX9_kiss_23 : decode cX9_kiss 23 = .ok (.aaload, 1) := by decide +kernel
theorem dX9_kiss_24 : decode cX9_kiss 24 = .ok (.astore_n 2, 1) := by decide +kernel
theorem dX9_kiss_25 : decode cX9_kiss 25 = .ok (.aload_n 2, 1) := by decide +kernel
theorem dX9_kiss_26 : decode cX9_kiss 26 = .ok (.invokevirtual 156, 3) := by decide +kernel
theorem dX9_kiss_29 : decode cX9_kiss 29 = .ok (.aload_n 2, 1) := by decide +kernel
theorem dX9_kiss_30 : decode cX9_kiss 30 = .ok (.getfield 159, 3) := by decide +kernel
theorem dX9_kiss_33 : decode cX9_kiss 33 = .ok (.ireturn, 1) := by decide +kernel
set_option maxRecDepth 20000 in
theorem ggX9_mother_X9_unknown : GoodIn wsX9_mother wsX9_unknown := goodIn_r _ [8, 1, 9, 70, 71, 72, 73, 74, 75, 76, 77, 78, 79, 80, 81, 82, 83, 84, 85, 86, 87, 88] (by decide +kernel) (by decide +kernel)
set_option maxRecDepth 20000 in
theorem gX9_mother_X9_unknown : GoodIn wsX9_mother (wsV RX9 115 RX9 yX9_unknown wsX9_unknown) := goodIn_app (goodIn_of _ (by decide +kernel)) ggX9_mother_X9_unknown
set_option maxRecDepth 20000 in
theorem ggX9_mother_X9_remember : GoodIn wsX9_mother wsX9_remember := goodIn_r _ [13, 14, 15, 16, 1, 17, 18, 19, 7, 20, 21, 22, 23, 24, 25, 26, 27, 28, 29, 30, 31, 32, 33, 34, 35, 36, 37, 38, 39, 40, 41, 42, 43, 44, 45, 46, 47, 48, 49, 50, 51, 52, 53, 54, 55, 56, 57, 58, 59, 60, 61, 70, 71, 72, 73, 74, 75, 76, 77, 78, 79, 80, 81, 82, 83, 84, 85, 86, 87, 88, 101, 102, 103, 104, 105, 106, 89, 90, 91, 92, 93, 94, 95, 96, 97, 98, 99, 100] (by decide +kernel) (by decide +kernel)
set_option maxRecDepth 20000 in
theorem gX9_mother_X9_remember : GoodIn wsX9_mother (wsV RX9 149 RX9 yX9_remember wsX9_remember) := goodIn_app (goodIn_of _ (by decide +kernel)) ggX9_mother_X9_remember
set_option maxRecDepth 20000 in
theorem ggX9_mother_X1_beVisited : GoodIn wsX9_mother wsX1_beVisited := goodIn_r _ [65, 52, 66, 67, 68, 69, 89, 90, 91, 92, 93, 94, 95, 96, 97, 98, 99, 100] (by decide +kernel) (by decide +kernel)
set_option maxRecDepth 20000 in
theorem gX9_mother_X1_beVisited : GoodIn wsX9_mother (wsV RX9 162 RX1 yX1_beVisited wsX1_beVisited) := goodIn_app (goodIn_of _ (by decide +kernel)) ggX9_mother_X1_beVisited
theorem dX9_mother_0 : decode cX9_mother 0 = .ok (.aload_n 0, 1) := by decide +kernel
theorem dX9_mother_1 : decode cX9_mother 1 = .ok (.iload_n 1, 1) := by decide +kernel
theorem dX9_mother_2 : decode cX9_mother 2 = .ok (.invokevirtual 115, 3) := by decide +kernel
theorem dX9_mother_5 : decode cX9_mother 5 = .ok (.ifCond .eq 6, 3) := by decide +kernel
theorem dX9_mother_8 : decode cX9_mother 8 = .ok (.bipush (-2), 2) := by decide +kernel
theorem dX9_mother_10 : decode cX9_mother 10 = .ok (.ireturn, 1) := by decide +kernel
theorem dX9_mother_11 : decode cX9_mother 11 = .ok (.aload_n 0, 1) := by decide +kernel
theorem dX9_mother_12 : decode cX9_mother 12 = .ok (.invokevirtual 149, 3) := by decide +kernel
theorem dX9_mother_15 : decode cX9_mother 15 = .ok (.aload_n 0, 1) := by decide +kernel
theorem dX9_mother_16 : decode cX9_mother 16 = .ok (.getfield 43, 3) := by decide +kernel
theorem dX9_mother_19 : decode cX9_mother 19 = .ok (.getfield 118, 3) := by decide +kernel
theorem dX9_mother_22 : decode cX9_mother 22 = .ok (.iload_n 1, 1) := by decide +kernel
theorem dX9_mother_23 : decode cX9_mother 23 = .ok (.aaload, 1) := by decide +kernel
theorem dX9_mother_24 : decode cX9_mother 24 = .ok (.astore_n 2, 1) := by decide +kernel
theorem dX9_mother_25 : decode cX9_mother 25 = .ok (.aload_n 2, 1) := by decide +kernel
theorem dX9_mother_26 : decode cX9_mother 26 = .ok (.invokevirtual 162, 3) := by decide +kernel
theorem dX9_mother_29 : decode cX9_mother 29 = .ok (.aload_n 2, 1) := by decide +kernel
theorem dX9_mother_30 : decode cX9_mother 30 = .ok (.getfield 159, 3) := by decide +kernel
theorem dX9_mother_33 : decode cX9_mother 33 = .ok (.ireturn, 1) := by decide +kernel
set_option maxRecDepth 20000 in
theorem ggX9_change_X9_outside : GoodIn wsX9_change wsX9_outside := goodIn_r _ [8] (by decide +kernel) (by decide +kernel)
set_option maxRecDepth 20000 in
theorem gX9_change_X9_outside : GoodIn wsX9_change (va_wsS RX9 77 yX9_outside wsX9_outside) := goodIn_app (goodIn_of _ (by decide +kernel)) ggX9_change_X9_outside
set_option maxRecDepth 20000 in
theorem ggX9_change_X9_remember : GoodIn wsX9_change wsX9_remember := goodIn_r _ [12, 13, 14, 15, 3, 16, 17, 18, 7, 19, 20, 21, 22, 23, 24, 25, 26, 27, 28, 29, 30, 31, 32, 33, 34, 35, 36, 37, 38, 39, 40, 41, 42, 43, 44, 45, 46, 47, 48, 49, 50, 51, 52, 53, 54, 55, 56, 57, 58, 59, 60, 69, 70, 71, 72, 73, 74, 75, 76, 77, 78, 79, 80, 81, 82, 83, 84, 85, 86, 87, 88, 89, 90, 91, 92, 93, 94, 95, 96, 97, 98, 99, 100, 101, 102, 103, 104, 105] (by decide +kernel) (by decide +kernel)
set_option maxRecDepth 20000 in
theorem gX9_change_X9_remember : GoodIn wsX9_change (wsV RX9 149 RX9 yX9_remember wsX9_remember) := goodIn_app (goodIn_of _ (by decide +kernel)) ggX9_change_X9_remember
set_option maxRecDepth 20000 in
theorem ggX9_change_X6_get : GoodIn wsX9_change wsX6_get := goodIn_r _ [64, 38, 39, 40, 41, 42, 43, 88, 89, 90, 91, 92, 93] (by decide +kernel) (by decide +kernel)
set_option maxRecDepth 20000 in
theorem gX9_change_X6_get : GoodIn wsX9_change (wsV RX9 144 RX6 yX6_get wsX6_get) := goodIn_app (goodIn_of _ (by decide +kernel)) ggX9_change_X6_get
set_option maxRecDepth 20000 in
theorem ggX9_change_X6_set : GoodIn wsX9_change wsX6_set := goodIn_r _ [68, 38, 39, 40, 41, 42, 43, 88, 89, 90, 91, 92, 93] (by decide +kernel) (by decide +kernel)
set_option maxRecDepth 20000 in
theorem gX9_change_X6_set : GoodIn wsX9_change (wsV RX9 171 RX6 yX6_set wsX6_set) := goodIn_app (goodIn_of _ (by decide +kernel)) ggX9_change_X6_set
theorem dX9_change_0 : decode cX9_change 0 = .ok (.iload_n 1, 1) := by decide +kernel
theorem dX9_change_1 : decode cX9_change 1 = .ok (.iconst 0, 1) := by decide +kernel
