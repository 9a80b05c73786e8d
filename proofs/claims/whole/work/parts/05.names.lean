theorem dX10_bits_5 : decode cX10_bits 5 = .ok (.bipush 6, 2) := by decide +kernel
theorem dX10_bits_7 : decode cX10_bits 7 = .ok (.if_icmp .ge 17, 3) := by decide +kernel
theorem dX10_bits_10 : decode cX10_bits 10 = .ok (.iload_n 1, 1) := by decide +kernel
theorem dX10_bits_11 : decode cX10_bits 11 = .ok (.iload_n 0, 1) := by decide +kernel
theorem dX10_bits_12 : decode cX10_bits 12 = .ok (.iload_n 2, 1) := by decide +kernel
theorem dX10_bits_13 : decode cX10_bits 13 = .ok (.ishr, 1) := by decide +kernel
theorem dX10_bits_14 : decode cX10_bits 14 = .ok (.iconst 1, 1) := by decide +kernel
theorem dX10_bits_15 : decode cX10_bits 15 = .ok (.iand, 1) := by decide +kernel
theorem dX10_bits_16 : decode cX10_bits 16 = .ok (.iadd, 1) := by decide +kernel
theorem dX10_bits_17 : decode cX10_bits 17 = .ok (.istore_n 1, 1) := by decide +kernel
theorem dX10_bits_18 : decode cX10_bits 18 = .ok (.iinc 2 1, 3) := by decide +kernel
theorem dX10_bits_21 : decode cX10_bits 21 = .ok (.goto (-17), 3) := by decide +kernel
theorem dX10_bits_24 : decode cX10_bits 24 = .ok (.iload_n 1, 1) := by decide +kernel
theorem dX10_bits_25 : decode cX10_bits 25 = .ok (.ireturn, 1) := by decide +kernel
theorem dX10_layDesk_0 : decode cX10_layDesk 0 = .ok (.iconst 0, 1) := by decide +kernel
theorem dX10_layDesk_1 : decode cX10_layDesk 1 = .ok (.istore_n 1, 1) := by decide +kernel
theorem dX10_layDesk_2 : decode cX10_layDesk 2 = .ok (.iload_n 1, 1) := by decide +kernel
theorem dX10_layDesk_3 : decode cX10_layDesk 3 = .ok (.bipush 56, 2) := by decide +kernel
theorem dX10_layDesk_5 : decode cX10_layDesk 5 = .ok (.if_icmp .ge 26, 3) := by decide +kernel
theorem dX10_layDesk_8 : decode cX10_layDesk 8 = .ok (.aload_n 0, 1) := by decide +kernel
theorem dX10_layDesk_9 : decode cX10_layDesk 9 = .ok (.getfield 22, 3) := by decide +kernel
theorem dX10_layDesk_12 : decode cX10_layDesk 12 = .ok (.iload_n 1, 1) := by decide +kernel
theorem dX10_layDesk_13 : decode cX10_layDesk 13 = .ok (.iload_n 1, 1) := by decide +kernel
theorem dX10_layDesk_14 : decode cX10_layDesk 14 = .ok (.bipush 44, 2) := by decide +kernel
theorem dX10_layDesk_16 : decode cX10_layDesk 16 = .ok (.if_icmp .ge 7, 3) := by decide +kernel
theorem dX10_layDesk_19 : decode cX10_layDesk 19 = .ok (.iconst 0, 1) := by decide +kernel
theorem dX10_layDesk_20 : decode cX10_layDesk 20 = .ok (.goto 4, 3) := by decide +kernel
theorem dX10_layDesk_23 : decode cX10_layDesk 23 = .ok (.iconst (-1), 1) := by decide +kernel
theorem dX10_layDesk_24 : decode cX10_layDesk 24 = .ok (.iastore, 1) := by decide +kernel
theorem dX10_layDesk_25 : decode cX10_layDesk 25 = .ok (.iinc 1 1, 3) := by decide +kernel
theorem dX10_layDesk_28 : decode cX10_layDesk 28 = .ok (.goto (-26), 3) := by decide +kernel
theorem dX10_layDesk_31 : decode cX10_layDesk 31 = .ok (.iconst 0, 1) := by decide +kernel
theorem dX10_layDesk_32 : decode cX10_layDesk 32 = .ok (.istore_n 1, 1) := by decide +kernel
theorem dX10_layDesk_33 : decode cX10_layDesk 33 = .ok (.iload_n 1, 1) := by decide +kernel
theorem dX10_layDesk_34 : decode cX10_layDesk 34 = .ok (.bipush 6, 2) := by decide +kernel
theorem dX10_layDesk_36 : decode cX10_layDesk 36 = .ok (.if_icmp .ge 50, 3) := by decide +kernel
theorem dX10_layDesk_39 : decode cX10_layDesk 39 = .ok (.aload_n 0, 1) := by decide +kernel
theorem dX10_layDesk_40 : decode cX10_layDesk 40 = .ok (.getfield 22, 3) := by decide +kernel
theorem dX10_layDesk_43 : decode cX10_layDesk 43 = .ok (.iconst 1, 1) := by decide +kernel
theorem dX10_layDesk_44 : decode cX10_layDesk 44 = .ok (.iload_n 1, 1) := by decide +kernel
theorem dX10_layDesk_45 : decode cX10_layDesk 45 = .ok (.iadd, 1) := by decide +kernel
theorem dX10_layDesk_46 : decode cX10_layDesk 46 = .ok (.aload_n 0, 1) := by decide +kernel
theorem dX10_layDesk_47 : decode cX10_layDesk 47 = .ok (.getfield 38, 3) := by decide +kernel
theorem dX10_layDesk_50 : decode cX10_layDesk 50 = .ok (.iload_n 1, 1) := by decide +kernel
theorem dX10_layDesk_51 : decode cX10_layDesk 51 = .ok (.iaload, 1) := by decide +kernel
theorem dX10_layDesk_52 : decode cX10_layDesk 52 = .ok (.iastore, 1) := by decide +kernel
theorem dX10_layDesk_53 : decode cX10_layDesk 53 = .ok (.aload_n 0, 1) := by decide +kernel
theorem dX10_layDesk_54 : decode cX10_layDesk 54 = .ok (.getfield 22, 3) := by decide +kernel
theorem dX10_layDesk_57 : decode cX10_layDesk 57 = .ok (.bipush 7, 2) := by decide +kernel
theorem dX10_layDesk_59 : decode cX10_layDesk 59 = .ok (.iload_n 1, 1) := by decide +kernel
theorem dX10_layDesk_60 : decode cX10_layDesk 60 = .ok (.iadd, 1) := by decide +kernel
theorem dX10_layDesk_61 : decode cX10_layDesk 61 = .ok (.iload_n 1, 1) := by decide +kernel
theorem dX10_layDesk_62 : decode cX10_layDesk 62 = .ok (.aload_n 0, 1) := by decide +kernel
theorem dX10_layDesk_63 : decode cX10_layDesk 63 = .ok (.getfield 59, 3) := by decide +kernel
theorem dX10_layDesk_66 : decode cX10_layDesk 66 = .ok (.if_icmp .ge 12, 3) := by decide +kernel
theorem dX10_layDesk_69 : decode cX10_layDesk 69 = .ok (.aload_n 0, 1) := by decide +kernel
theorem dX10_layDesk_70 : decode cX10_layDesk 70 = .ok (.getfield 35, 3) := by decide +kernel
theorem dX10_layDesk_73 : decode cX10_layDesk 73 = .ok (.iload_n 1, 1) := by decide +kernel
theorem dX10_layDesk_74 : decode cX10_layDesk 74 = .ok (.iaload, 1) := by decide +kernel
theorem dX10_layDesk_75 : decode cX10_layDesk 75 = .ok (.goto 4, 3) := by decide +kernel
theorem dX10_layDesk_78 : decode cX10_layDesk 78 = .ok (.iconst 0, 1) := by decide +kernel
theorem dX10_layDesk_79 : decode cX10_layDesk 79 = .ok (.iastore, 1) := by decide +kernel
theorem dX10_layDesk_80 : decode cX10_layDesk 80 = .ok (.iinc 1 1, 3) := by decide +kernel
theorem dX10_layDesk_83 : decode cX10_layDesk 83 = .ok (.goto (-50), 3) := by decide +kernel
theorem dX10_layDesk_86 : decode cX10_layDesk 86 = .ok (.aload_n 0, 1) := by decide +kernel
theorem dX10_layDesk_87 : decode cX10_layDesk 87 = .ok (.iconst 0, 1) := by decide +kernel
theorem dX10_layDesk_88 : decode cX10_layDesk 88 = .ok (.putfield 63, 3) := by decide +kernel
theorem dX10_layDesk_91 : decode cX10_layDesk 91 = .ok (.aload_n 0, 1) := by decide +kernel
theorem dX10_layDesk_92 : decode cX10_layDesk 92 = .ok (.iconst 0, 1) := by decide +kernel
theorem dX10_layDesk_93 : decode cX10_layDesk 93 = .ok (.putfield 66, 3) := by decide +kernel
theorem dX10_layDesk_96 : decode cX10_layDesk 96 = .ok (.aload_n 0, 1) := by decide +kernel
theorem dX10_layDesk_97 : decode cX10_layDesk 97 = .ok (.getfield 25, 3) := by decide +kernel
theorem dX10_layDesk_100 : decode cX10_layDesk 100 = .ok (.iconst 0, 1) := by decide +kernel
theorem dX10_layDesk_101 : decode cX10_layDesk 101 = .ok (.iconst 0, 1) := by decide +kernel
theorem dX10_layDesk_102 : decode cX10_layDesk 102 = .ok (.bastore, 1) := by decide +kernel
theorem dX10_layDesk_103 : decode cX10_layDesk 103 = .ok (.aload_n 0, 1) := by decide +kernel
theorem dX10_layDesk_104 : decode cX10_layDesk 104 = .ok (.getfield 25, 3) := by decide +kernel
theorem dX10_layDesk_107 : decode cX10_layDesk 107 = .ok (.iconst 1, 1) := by decide +kernel
theorem dX10_layDesk_108 : decode cX10_layDesk 108 = .ok (.iconst 0, 1) := by decide +kernel
theorem dX10_layDesk_109 : decode cX10_layDesk 109 = .ok (.bastore, 1) := by decide +kernel
theorem dX10_layDesk_110 : decode cX10_layDesk 110 = .ok (.return_, 1) := by decide +kernel
set_option maxRecDepth 20000 in
theorem ggX10_write_X10_in : GoodIn wsX10_write wsX10_in := goodIn_r _ [6] (by decide +kernel) (by decide +kernel)
set_option maxRecDepth 20000 in
theorem gX10_write_X10_in : GoodIn wsX10_write (va_wsS RX10 69 yX10_in wsX10_in) := goodIn_app (goodIn_of _ (by decide +kernel)) ggX10_write_X10_in
theorem dX10_write_0 : decode cX10_write 0 = .ok (.iload_n 1, 1) := by decide +kernel
theorem dX10_write_1 : decode cX10_write 1 = .ok (.iconst 0, 1) := by decide +kernel
theorem dX10_write_2 : decode cX10_write 2 = .ok (.sipush 255, 3) := by decide +kernel
theorem dX10_write_5 : decode cX10_write 5 = .ok (.invokestatic 69, 3) := by decide +kernel
theorem dX10_write_8 : decode cX10_write 8 = .ok (.ifCond .ne 6, 3) := by decide +kernel
theorem dX10_write_11 : decode cX10_write 11 = .ok (.bipush (-3), 2) := by decide +kernel
theorem dX10_write_13 : decode cX10_write 13 = .ok (.ireturn, 1) := by decide +kernel
theorem dX10_write_14 : decode cX10_write 14 = .ok (.aload_n 0, 1) := by decide +kernel
theorem dX10_write_15 : decode cX10_write 15 = .ok (.getfield 73, 3) := by decide +kernel
theorem dX10_write_18 : decode cX10_write 18 = .ok (.sipush 160, 3) := by decide +kernel
theorem dX10_write_21 : decode cX10_write 21 = .ok (.if_icmp .ne 6, 3) := by decide +kernel
theorem dX10_write_24 : decode cX10_write 24 = .ok (.bipush (-5), 2) := by decide +kernel
theorem dX10_write_26 : decode cX10_write 26 = .ok (.ireturn, 1) := by decide +kernel
theorem dX10_write_27 : decode cX10_write 27 = .ok (.aload_n 0, 1) := by decide +kernel
theorem dX10_write_28 : decode cX10_write 28 = .ok (.getfield 41, 3) := by decide +kernel
theorem dX10_write_31 : decode cX10_write 31 = .ok (.aload_n 0, 1) := by decide +kernel
theorem dX10_write_32 : decode cX10_write 32 = .ok (.getfield 73, 3) := by decide +kernel
theorem dX10_write_35 : decode cX10_write 35 = .ok (.iload_n 1, 1) := by decide +kernel
theorem dX10_write_36 : decode cX10_write 36 = .ok (.iastore, 1) := by decide +kernel
theorem dX10_write_37 : decode cX10_write 37 = .ok (.aload_n 0, 1) := by decide +kernel
theorem dX10_write_38 : decode cX10_write 38 = .ok (.dup, 1) := by decide +kernel
theorem dX10_write_39 : decode cX10_write 39 = .ok (.getfield 73, 3) := by decide +kernel
theorem dX10_write_42 : decode cX10_write 42 = .ok (.iconst 1, 1) := by decide +kernel
theorem dX10_write_43 : decode cX10_write 43 = .ok (.iadd, 1) := by decide +kernel
theorem dX10_write_44 : decode cX10_write 44 = .ok (.putfield 73, 3) := by decide +kernel
theorem dX10_write_47 : decode cX10_write 47 = .ok (.aload_n 0, 1) := by decide +kernel
theorem dX10_write_48 : decode cX10_write 48 = .ok (.getfield 73, 3) := by decide +kernel
theorem dX10_write_51 : decode cX10_write 51 = .ok (.ireturn, 1) := by decide +kernel
theorem dX10_erase_0 : decode cX10_erase 0 = .ok (.aload_n 0, 1) := by decide +kernel
theorem dX10_erase_1 : decode cX10_erase 1 = .ok (.getfield 73, 3) := by decide +kernel
theorem dX10_erase_4 : decode cX10_erase 4 = .ok (.istore_n 1, 1) := by decide +kernel
theorem dX10_erase_5 : decode cX10_erase 5 = .ok (.aload_n 0, 1) := by decide +kernel
theorem dX10_erase_6 : decode cX10_erase 6 = .ok (.iconst 0, 1) := by decide +kernel
theorem dX10_erase_7 : decode cX10_erase 7 = .ok (.putfield 73, 3) := by decide +kernel
theorem dX10_erase_10 : decode cX10_erase 10 = .ok (.iload_n 1, 1) := by decide +kernel
theorem dX10_erase_11 : decode cX10_erase 11 = .ok (.ireturn, 1) := by decide +kernel
set_option maxRecDepth 20000 in
theorem ggX10_isSmall_X10_in : GoodIn wsX10_isSmall wsX10_in := goodIn_r _ [6] (by decide +kernel) (by decide +kernel)
set_option maxRecDepth 20000 in
theorem gX10_isSmall_X10_in : GoodIn wsX10_isSmall (va_wsS RX10 69 yX10_in wsX10_in) := goodIn_app (goodIn_of _ (by decide +kernel)) ggX10_isSmall_X10_in
theorem dX10_isSmall_0 : decode cX10_isSmall 0 = .ok (.iload_n 1, 1) := by decide +kernel
theorem dX10_isSmall_1 : decode cX10_isSmall 1 = .ok (.aload_n 0, 1) := by decide +kernel
theorem dX10_isSmall_2 : decode cX10_isSmall 2 = .ok (.getfield 73, 3) := by decide +kernel
theorem dX10_isSmall_5 : decode cX10_isSmall 5 = .ok (.if_icmp .ge 23, 3) := by decide +kernel
theorem dX10_isSmall_8 : decode cX10_isSmall 8 = .ok (.aload_n 0, 1) := by decide +kernel
theorem dX10_isSmall_9 : decode cX10_isSmall 9 = .ok (.getfield 41, 3) := by decide +kernel
theorem dX10_isSmall_12 : decode cX10_isSmall 12 = .ok (.iload_n 1, 1) := by decide +kernel
theorem dX10_isSmall_13 : decode cX10_isSmall 13 = .ok (.iaload, 1) := by decide +kernel
theorem dX10_isSmall_14 : decode cX10_isSmall 14 = .ok (.bipush 97, 2) := by decide +kernel
theorem dX10_isSmall_16 : decode cX10_isSmall 16 = .ok (.bipush 122, 2) := by decide +kernel
theorem dX10_isSmall_18 : decode cX10_isSmall 18 = .ok (.invokestatic 69, 3) := by decide +kernel
theorem dX10_isSmall_21 : decode cX10_isSmall 21 = .ok (.ifCond .eq 7, 3) := by decide +kernel
theorem dX10_isSmall_24 : decode cX10_isSmall 24 = .ok (.iconst 1, 1) := by decide +kernel
theorem dX10_isSmall_25 : decode cX10_isSmall 25 = .ok (.goto 4, 3) := by decide +kernel
theorem dX10_isSmall_28 : decode cX10_isSmall 28 = .ok (.iconst 0, 1) := by decide +kernel
theorem dX10_isSmall_29 : decode cX10_isSmall 29 = .ok (.ireturn, 1) := by decide +kernel
set_option maxRecDepth 20000 in
theorem ggX10_isDigit_X10_in : GoodIn wsX10_isDigit wsX10_in := goodIn_r _ [6] (by decide +kernel) (by decide +kernel)
set_option maxRecDepth 20000 in
theorem gX10_isDigit_X10_in : GoodIn wsX10_isDigit (va_wsS RX10 69 yX10_in wsX10_in) := goodIn_app (goodIn_of _ (by decide +kernel)) ggX10_isDigit_X10_in
theorem dX10_isDigit_0 : decode cX10_isDigit 0 = .ok (.iload_n 1, 1) := by decide +kernel
theorem dX10_isDigit_1 : decode cX10_isDigit 1 = .ok (.aload_n 0, 1) := by decide +kernel
theorem dX10_isDigit_2 : decode cX10_isDigit 2 = .ok (.getfield 73, 3) := by decide +kernel
theorem dX10_isDigit_5 : decode cX10_isDigit 5 = .ok (.if_icmp .ge 23, 3) := by decide +kernel
theorem dX10_isDigit_8 : decode cX10_isDigit 8 = .ok (.aload_n 0, 1) := by decide +kernel
theorem dX10_isDigit_9 : decode cX10_isDigit 9 = .ok (.getfield 41, 3) := by decide +kernel
theorem dX10_isDigit_12 : decode cX10_isDigit 12 = .ok (.iload_n 1, 1) := by decide +kernel
theorem dX10_isDigit_13 : decode cX10_isDigit 13 = .ok (.iaload, 1) := by decide +kernel
theorem dX10_isDigit_14 : decode cX10_isDigit 14 = .ok (.bipush 48, 2) := by decide +kernel
theorem dX10_isDigit_16 : decode cX10_isDigit 16 = .ok (.bipush 57, 2) := by decide +kernel
theorem dX10_isDigit_18 : decode cX10_isDigit 18 = .ok (.invokestatic 69, 3) := by decide +kernel
theorem dX10_isDigit_21 : decode cX10_isDigit 21 = .ok (.ifCond .eq 7, 3) := by decide +kernel
theorem dX10_isDigit_24 : decode cX10_isDigit 24 = .ok (.iconst 1, 1) := by decide +kernel
theorem dX10_isDigit_25 : decode cX10_isDigit 25 = .ok (.goto 4, 3) := by decide +kernel
theorem dX10_isDigit_28 : decode cX10_isDigit 28 = .ok (.iconst 0, 1) := by decide +kernel
theorem dX10_isDigit_29 : decode cX10_isDigit 29 = .ok (.ireturn, 1) := by decide +kernel
set_option maxRecDepth 20000 in
theorem ggX10_next_X10_isSmall : GoodIn wsX10_next wsX10_isSmall := goodIn_r _ [9, 3, 4, 10, 11, 8, 12, 17, 18, 19, 20, 21, 22, 23, 24, 25, 26, 27, 28, 29, 30, 31, 32, 33, 34, 35, 36, 37, 38, 39] (by decide +kernel) (by decide +kernel)
set_option maxRecDepth 20000 in
theorem gX10_next_X10_isSmall : GoodIn wsX10_next (wsV RX10 82 RX10 yX10_isSmall wsX10_isSmall) := goodIn_app (goodIn_of _ (by decide +kernel)) ggX10_next_X10_isSmall
set_option maxRecDepth 20000 in
theorem ggX10_next_X10_isDigit : GoodIn wsX10_next wsX10_isDigit := goodIn_r _ [16, 3, 4, 10, 11, 8, 12, 17, 18, 19, 20, 21, 22, 23, 24, 25, 26, 27, 28, 29, 30, 31, 32, 33, 34, 35, 36, 37, 38, 39] (by decide +kernel) (by decide +kernel)
set_option maxRecDepth 20000 in
theorem gX10_next_X10_isDigit : GoodIn wsX10_next (wsV RX10 86 RX10 yX10_isDigit wsX10_isDigit) := goodIn_app (goodIn_of _ (by decide +kernel)) ggX10_next_X10_isDigit
theorem dX10_next_0 : decode cX10_next 0 = .ok (.aload_n 0, 1) := by decide +kernel
theorem dX10_next_1 : decode cX10_next 1 = .ok (.aload_n 0, 1) := by decide +kernel
theorem dX10_next_2 : decode cX10_next 2 = .ok (.getfield 76, 3) := by decide +kernel
theorem dX10_next_5 : decode cX10_next 5 = .ok (.putfield 79, 3) := by decide +kernel
theorem dX10_next_8 : decode cX10_next 8 = .ok (.aload_n 0, 1) := by decide +kernel
theorem dX10_next_9 : decode cX10_next 9 = .ok (.getfield 79, 3) := by decide +kernel
theorem dX10_next_12 : decode cX10_next 12 = .ok (.aload_n 0, 1) := by decide +kernel
theorem dX10_next_13 : decode cX10_next 13 = .ok (.getfield 73, 3) := by decide +kernel
theorem dX10_next_16 : decode cX10_next 16 = .ok (.if_icmp .ge 30, 3) := by decide +kernel
theorem dX10_next_19 : decode cX10_next 19 = .ok (.aload_n 0, 1) := by decide +kernel
theorem dX10_next_20 : decode cX10_next 20 = .ok (.getfield 41, 3) := by decide +kernel
theorem dX10_next_23 : decode cX10_next 23 = .ok (.aload_n 0, 1) := by decide +kernel
theorem dX10_next_24 : decode cX10_next 24 = .ok (.getfield 79, 3) := by decide +kernel
theorem dX10_next_27 : decode cX10_next 27 = .ok (.iaload, 1) := by decide +kernel
theorem dX10_next_28 : decode cX10_next 28 = .ok (.bipush 32, 2) := by decide +kernel
theorem dX10_next_30 : decode cX10_next 30 = .ok (.if_icmp .ne 16, 3) := by decide +kernel
theorem dX10_next_33 : decode cX10_next 33 = .ok (.aload_n 0, 1) := by decide +kernel
theorem dX10_next_34 : decode cX10_next 34 = .ok (.dup, 1) := by decide +kernel
theorem dX10_next_35 : decode cX10_next 35 = .ok (.getfield 79, 3) := by decide +kernel
theorem dX10_next_38 : decode cX10_next 38 = .ok (.iconst 1, 1) := by decide +kernel
theorem dX10_next_39 : decode cX10_next 39 = .ok (.iadd, 1) := by decide +kernel
theorem dX10_next_40 : decode cX10_next 40 = .ok (.putfield 79, 3) := by decide +kernel
theorem dX10_next_43 : decode cX10_next 43 = .ok (.goto (-35), 3) := by decide +kernel
theorem dX10_next_46 : decode cX10_next 46 = .ok (.aload_n 0, 1) := by decide +kernel
theorem dX10_next_47 : decode cX10_next 47 = .ok (.aload_n 0, 1) := by decide +kernel
theorem dX10_next_48 : decode cX10_next 48 = .ok (.getfield 79, 3) := by decide +kernel
theorem dX10_next_51 : decode cX10_next 51 = .ok (.aload_n 0, 1) := by decide +kernel
theorem dX10_next_52 : decode cX10_next 52 = .ok (.getfield 73, 3) := by decide +kernel
theorem dX10_next_55 : decode cX10_next 55 = .ok (.if_icmp .ge 12, 3) := by decide +kernel
theorem dX10_next_58 : decode cX10_next 58 = .ok (.aload_n 0, 1) := by decide +kernel
theorem dX10_next_59 : decode cX10_next 59 = .ok (.getfield 79, 3) := by decide +kernel
theorem dX10_next_62 : decode cX10_next 62 = .ok (.iconst 1, 1) := by decide +kernel
theorem dX10_next_63 : decode cX10_next 63 = .ok (.iadd, 1) := by decide +kernel
theorem dX10_next_64 : decode cX10_next 64 = .ok (.goto 7, 3) := by decide +kernel
theorem dX10_next_67 : decode cX10_next 67 = .ok (.aload_n 0, 1) := by decide +kernel
theorem dX10_next_68 : decode cX10_next 68 = .ok (.getfield 79, 3) := by decide +kernel
theorem dX10_next_71 : decode cX10_next 71 = .ok (.putfield 76, 3) := by decide +kernel
theorem dX10_next_74 : decode cX10_next 74 = .ok (.aload_n 0, 1) := by decide +kernel
theorem dX10_next_75 : decode cX10_next 75 = .ok (.aload_n 0, 1) := by decide +kernel
theorem dX10_next_76 : decode cX10_next 76 = .ok (.getfield 79, 3) := by decide +kernel
theorem dX10_next_79 : decode cX10_next 79 = .ok (.invokevirtual 82, 3) := by decide +kernel
theorem dX10_next_82 : decode cX10_next 82 = .ok (.ifCond .eq 14, 3) := by decide +kernel
theorem dX10_next_85 : decode cX10_next 85 = .ok (.aload_n 0, 1) := by decide +kernel
theorem dX10_next_86 : decode cX10_next 86 = .ok (.aload_n 0, 1) := by decide +kernel
theorem dX10_next_87 : decode cX10_next 87 = .ok (.getfield 76, 3) := by decide +kernel
theorem dX10_next_90 : decode cX10_next 90 = .ok (.invokevirtual 82, 3) := by decide +kernel
theorem dX10_next_93 : decode cX10_next 93 = .ok (.ifCond .ne 25, 3) := by decide +kernel
theorem dX10_next_96 : decode cX10_next 96 = .ok (.aload_n 0, 1) := by decide +kernel
theorem dX10_next_97 : decode cX10_next 97 = .ok (.aload_n 0, 1) := by decide +kernel
theorem dX10_next_98 : decode cX10_next 98 = .ok (.getfield 79, 3) := by decide +kernel
theorem dX10_next_101 : decode cX10_next 101 = .ok (.invokevirtual 86, 3) := by decide +kernel
theorem dX10_next_104 : decode cX10_next 104 = .ok (.ifCond .eq 27, 3) := by decide +kernel
theorem dX10_next_107 : decode cX10_next 107 = .ok (.aload_n 0, 1) := by decide +kernel
theorem dX10_next_108 : decode cX10_next 108 = .ok (.aload_n 0, 1) := by decide +kernel
theorem dX10_next_109 : decode cX10_next 109 = .ok (.getfield 76, 3) := by decide +kernel
theorem dX10_next_112 : decode cX10_next 112 = .ok (.invokevirtual 86, 3) := by decide +kernel
theorem dX10_next_115 : decode cX10_next 115 = .ok (.ifCond .eq 16, 3) := by decide +kernel
theorem dX10_next_118 : decode cX10_next 118 = .ok (.aload_n 0, 1) := by decide +kernel
theorem dX10_next_119 : decode cX10_next 119 = .ok (.dup, 1) := by decide +kernel
theorem dX10_next_120 : decode cX10_next 120 = .ok (.getfield 76, 3) := by decide +kernel
theorem dX10_next_123 : decode cX10_next 123 = .ok (.iconst 1, 1) := by decide +kernel
theorem dX10_next_124 : decode cX10_next 124 = .ok (.iadd, 1) := by decide +kernel
theorem dX10_next_125 : decode cX10_next 125 = .ok (.putfield 76, 3) := by decide +kernel
theorem dX10_next_128 : decode cX10_next 128 = .ok (.goto (-54), 3) := by decide +kernel
theorem dX10_next_131 : decode cX10_next 131 = .ok (.return_, 1) := by decide +kernel
theorem dX10_isWord_0 : decode cX10_isWord 0 = .ok (.aload_n 0, 1) := by decide +kernel
theorem dX10_isWord_1 : decode cX10_isWord 1 = .ok (.getfield 76, 3) := by decide +kernel
theorem dX10_isWord_4 : decode cX10_isWord 4 = .ok (.aload_n 0, 1) := by decide +kernel
theorem dX10_isWord_5 : decode cX10_isWord 5 = .ok (.getfield 79, 3) := by decide +kernel
theorem dX10_isWord_8 : decode cX10_isWord 8 = .ok (.isub, 1) := by decide +kernel
theorem dX10_isWord_9 : decode cX10_isWord 9 = .ok (.bipush 7, 2) := by decide +kernel
theorem dX10_isWord_11 : decode cX10_isWord 11 = .ok (.if_icmp .gt 7, 3) := by decide +kernel
theorem dX10_isWord_14 : decode cX10_isWord 14 = .ok (.iconst 1, 1) := by decide +kernel
theorem dX10_isWord_15 : decode cX10_isWord 15 = .ok (.goto 4, 3) := by decide +kernel
theorem dX10_isWord_18 : decode cX10_isWord 18 = .ok (.iconst 0, 1) := by decide +kernel
theorem dX10_isWord_19 : decode cX10_isWord 19 = .ok (.istore_n 2, 1) := by decide +kernel
theorem dX10_isWord_20 : decode cX10_isWord 20 = .ok (.iconst 0, 1) := by decide +kernel
theorem dX10_isWord_21 : decode cX10_isWord 21 = .ok (.istore_n 3, 1) := by decide +kernel
theorem dX10_isWord_22 : decode cX10_isWord 22 = .ok (.iload_n 3, 1) := by decide +kernel
theorem dX10_isWord_23 : decode cX10_isWord 23 = .ok (.bipush 7, 2) := by decide +kernel
theorem dX10_isWord_25 : decode cX10_isWord 25 = .ok (.if_icmp .ge 65, 3) := by decide +kernel
theorem dX10_isWord_28 : decode cX10_isWord 28 = .ok (.iload_n 2, 1) := by decide +kernel
theorem dX10_isWord_29 : decode cX10_isWord 29 = .ok (.ifCond .eq 61, 3) := by decide +kernel
theorem dX10_isWord_32 : decode cX10_isWord 32 = .ok (.aload_n 0, 1) := by decide +kernel
theorem dX10_isWord_33 : decode cX10_isWord 33 = .ok (.getfield 79, 3) := by decide +kernel
theorem dX10_isWord_36 : decode cX10_isWord 36 = .ok (.iload_n 3, 1) := by decide +kernel
theorem dX10_isWord_37 : decode cX10_isWord 37 = .ok (.iadd, 1) := by decide +kernel
theorem dX10_isWord_38 : decode cX10_isWord 38 = .ok (.aload_n 0, 1) := by decide +kernel
theorem dX10_isWord_39 : decode cX10_isWord 39 = .ok (.getfield 76, 3) := by decide +kernel
theorem dX10_isWord_42 : decode cX10_isWord 42 = .ok (.if_icmp .ge 17, 3) := by decide +kernel
theorem dX10_isWord_45 : decode cX10_isWord 45 = .ok (.aload_n 0, 1) := by decide +kernel
theorem dX10_isWord_46 : decode cX10_isWord 46 = .ok (.getfield 41, 3) := by decide +kernel
theorem dX10_isWord_49 : decode cX10_isWord 49 = .ok (.aload_n 0, 1) := by decide +kernel
theorem dX10_isWord_50 : decode cX10_isWord 50 = .ok (.getfield 79, 3) := by decide +kernel
theorem dX10_isWord_53 : decode cX10_isWord 53 = .ok (.iload_n 3, 1) := by decide +kernel
theorem dX10_isWord_54 : decode cX10_isWord 54 = .ok (.iadd, 1) := by decide +kernel
theorem dX10_isWord_55 : decode cX10_isWord 55 = .ok (.iaload, 1) := by decide +kernel
theorem dX10_isWord_56 : decode cX10_isWord 56 = .ok (.goto 4, 3) := by decide +kernel
theorem dX10_isWord_59 : decode cX10_isWord 59 = .ok (.iconst 0, 1) := by decide +kernel
theorem dX10_isWord_60 : decode cX10_isWord 60 = .ok (.istore 4, 2) := by decide +kernel
theorem dX10_isWord_62 : decode cX10_isWord 62 = .ok (.iload 4, 2) := by decide +kernel
theorem dX10_isWord_64 : decode cX10_isWord 64 = .ok (.aload_n 0, 1) := by decide +kernel
theorem dX10_isWord_65 : decode cX10_isWord 65 = .ok (.getfield 7, 3) := by decide +kernel
theorem dX10_isWord_68 : decode cX10_isWord 68 = .ok (.bipush 7, 2) := by decide +kernel
theorem dX10_isWord_70 : decode cX10_isWord 70 = .ok (.iload_n 1, 1) := by decide +kernel
theorem dX10_isWord_71 : decode cX10_isWord 71 = .ok (.imul, 1) := by decide +kernel
theorem dX10_isWord_72 : decode cX10_isWord 72 = .ok (.iload_n 3, 1) := by decide +kernel
theorem dX10_isWord_73 : decode cX10_isWord 73 = .ok (.iadd, 1) := by decide +kernel
theorem dX10_isWord_74 : decode cX10_isWord 74 = .ok (.iaload, 1) := by decide +kernel
theorem dX10_isWord_75 : decode cX10_isWord 75 = .ok (.if_icmp .ne 7, 3) := by decide +kernel
theorem dX10_isWord_78 : decode cX10_isWord 78 = .ok (.iconst 1, 1) := by decide +kernel
theorem dX10_isWord_79 : decode cX10_isWord 79 = .ok (.goto 4, 3) := by decide +kernel
theorem dX10_isWord_82 : decode cX10_isWord 82 = .ok (.iconst 0, 1) := by decide +kernel
theorem dX10_isWord_83 : decode cX10_isWord 83 = .ok (.istore_n 2, 1) := by decide +kernel
theorem dX10_isWord_84 : decode cX10_isWord 84 = .ok (.iinc 3 1, 3) := by decide +kernel
theorem dX10_isWord_87 : decode cX10_isWord 87 = .ok (.goto (-65), 3) := by decide +kernel
theorem dX10_isWord_90 : decode cX10_isWord 90 = .ok (.iload_n 2, 1) := by decide +kernel
theorem dX10_isWord_91 : decode cX10_isWord 91 = .ok (.ireturn, 1) := by decide +kernel
set_option maxRecDepth 20000 in
theorem ggX10_word_X10_isSmall : GoodIn wsX10_word wsX10_isSmall := goodIn_r _ [6, 7, 8, 9, 10, 5, 11, 18, 19, 20, 21, 22, 23, 24, 25, 26, 27, 28, 29, 30, 31, 32, 33, 34, 35, 36, 37, 38, 39, 40] (by decide +kernel) (by decide +kernel)
set_option maxRecDepth 20000 in
theorem gX10_word_X10_isSmall : GoodIn wsX10_word (wsV RX10 82 RX10 yX10_isSmall wsX10_isSmall) := goodIn_app (goodIn_of _ (by decide +kernel)) ggX10_word_X10_isSmall
set_option maxRecDepth 20000 in
theorem ggX10_word_X10_isWord : GoodIn wsX10_word wsX10_isWord := goodIn_r _ [15, 16, 1, 8, 17, 18, 19, 20, 21, 22, 23, 24, 25, 26, 27, 28, 29, 30, 31, 32, 33, 34, 35, 36, 37, 38, 39, 40] (by decide +kernel) (by decide +kernel)
set_option maxRecDepth 20000 in
theorem gX10_word_X10_isWord : GoodIn wsX10_word (wsV RX10 89 RX10 yX10_isWord wsX10_isWord) := goodIn_app (goodIn_of _ (by decide +kernel)) ggX10_word_X10_isWord
theorem dX10_word_0 : decode cX10_word 0 = .ok (.iconst 0, 1) := by decide +kernel
theorem dX10_word_1 : decode cX10_word 1 = .ok (.istore_n 1, 1) := by decide +kernel
theorem dX10_word_2 : decode cX10_word 2 = .ok (.iload_n 1, 1) := by decide +kernel
theorem dX10_word_3 : decode cX10_word 3 = .ok (.bipush 11, 2) := by decide +kernel
theorem dX10_word_5 : decode cX10_word 5 = .ok (.if_icmp .ge 30, 3) := by decide +kernel
theorem dX10_word_8 : decode cX10_word 8 = .ok (.aload_n 0, 1) := by decide +kernel
theorem dX10_word_9 : decode cX10_word 9 = .ok (.aload_n 0, 1) := by decide +kernel
theorem dX10_word_10 : decode cX10_word 10 = .ok (.getfield 79, 3) := by decide +kernel
theorem dX10_word_13 : decode cX10_word 13 = .ok (.invokevirtual 82, 3) := by decide +kernel
theorem dX10_word_16 : decode cX10_word 16 = .ok (.ifCond .eq 13, 3) := by decide +kernel
theorem dX10_word_19 : decode cX10_word 19 = .ok (.aload_n 0, 1) := by decide +kernel
theorem dX10_word_20 : decode cX10_word 20 = .ok (.iload_n 1, 1) := by decide +kernel
theorem dX10_word_21 : decode cX10_word 21 = .ok (.invokevirtual 89, 3) := by decide +kernel
theorem dX10_word_24 : decode cX10_word 24 = .ok (.ifCond .eq 5, 3) := by decide +kernel
theorem dX10_word_27 : decode cX10_word 27 = .ok (.iload_n 1, 1) := by decide +kernel
theorem dX10_word_28 : decode cX10_word 28 = .ok (.ireturn, 1) := by decide +kernel
theorem dX10_word_29 : decode cX10_word 29 = .ok (.iinc 1 1, 3) := by decide +kernel
theorem dX10_word_32 : decode cX10_word 32 = .ok (.goto (-30), 3) := by decide +kernel
theorem dX10_word_35 : decode cX10_word 35 = .ok (.iconst (-1), 1) := by decide +kernel
theorem dX10_word_36 : decode cX10_word 36 = .ok (.ireturn, 1) := by decide +kernel
set_option maxRecDepth 20000 in
theorem ggX10_number_X10_next : GoodIn wsX10_number wsX10_next := goodIn_r _ [8, 2, 1, 9, 3, 10, 11, 12, 7, 13, 14, 15, 16, 17, 18, 19, 20, 21, 22, 23, 24, 25, 26, 27, 28, 29, 30, 31, 32, 33, 34, 35, 36, 37, 38, 39, 40, 41, 42, 43] (by decide +kernel) (by decide +kernel)
set_option maxRecDepth 20000 in
theorem gX10_number_X10_next : GoodIn wsX10_number (wsV RX10 92 RX10 yX10_next wsX10_next) := goodIn_app (goodIn_of _ (by decide +kernel)) ggX10_number_X10_next
set_option maxRecDepth 20000 in
theorem ggX10_number_X10_isDigit : GoodIn wsX10_number wsX10_isDigit := goodIn_r _ [20, 9, 3, 14, 15, 7, 16, 21, 22, 23, 24, 25, 26, 27, 28, 29, 30, 31, 32, 33, 34, 35, 36, 37, 38, 39, 40, 41, 42, 43] (by decide +kernel) (by decide +kernel)
set_option maxRecDepth 20000 in
theorem gX10_number_X10_isDigit : GoodIn wsX10_number (wsV RX10 86 RX10 yX10_isDigit wsX10_isDigit) := goodIn_app (goodIn_of _ (by decide +kernel)) ggX10_number_X10_isDigit
set_option maxRecDepth 20000 in
theorem ggX10_number_X10_in : GoodIn wsX10_number wsX10_in := goodIn_r _ [16] (by decide +kernel) (by decide +kernel)
set_option maxRecDepth 20000 in
theorem gX10_number_X10_in : GoodIn wsX10_number (va_wsS RX10 69 yX10_in wsX10_in) := goodIn_app (goodIn_of _ (by decide +kernel)) ggX10_number_X10_in
theorem dX10_number_0 : decode cX10_number 0 = .ok (.aload_n 0, 1) := by decide +kernel
theorem dX10_number_1 : decode cX10_number 1 = .ok (.invokevirtual 92, 3) := by decide +kernel
theorem dX10_number_4 : decode cX10_number 4 = .ok (.aload_n 0, 1) := by decide +kernel
theorem dX10_number_5 : decode cX10_number 5 = .ok (.aload_n 0, 1) := by decide +kernel
theorem dX10_number_6 : decode cX10_number 6 = .ok (.getfield 79, 3) := by decide +kernel
theorem dX10_number_9 : decode cX10_number 9 = .ok (.invokevirtual 86, 3) := by decide +kernel
theorem dX10_number_12 : decode cX10_number 12 = .ok (.ifCond .eq 16, 3) := by decide +kernel
theorem dX10_number_15 : decode cX10_number 15 = .ok (.aload_n 0, 1) := by decide +kernel
theorem dX10_number_16 : decode cX10_number 16 = .ok (.getfield 76, 3) := by decide +kernel
theorem dX10_number_19 : decode cX10_number 19 = .ok (.aload_n 0, 1) := by decide +kernel
theorem dX10_number_20 : decode cX10_number 20 = .ok (.getfield 79, 3) := by decide +kernel
theorem dX10_number_23 : decode cX10_number 23 = .ok (.isub, 1) := by decide +kernel
theorem dX10_number_24 : decode cX10_number 24 = .ok (.iconst 2, 1) := by decide +kernel
theorem dX10_number_25 : decode cX10_number 25 = .ok (.if_icmp .le 5, 3) := by decide +kernel
theorem dX10_number_28 : decode cX10_number 28 = .ok (.iconst (-1), 1) := by decide +kernel
theorem dX10_number_29 : decode cX10_number 29 = .ok (.ireturn, 1) := by decide +kernel
theorem dX10_number_30 : decode cX10_number 30 = .ok (.aload_n 0, 1) := by decide +kernel
theorem dX10_number_31 : decode cX10_number 31 = .ok (.getfield 41, 3) := by decide +kernel
theorem dX10_number_34 : decode cX10_number 34 = .ok (.aload_n 0, 1) := by decide +kernel
theorem dX10_number_35 : decode cX10_number 35 = .ok (.getfield 79, 3) := by decide +kernel
theorem dX10_number_38 : decode cX10_number 38 = .ok (.iaload, 1) := by decide +kernel
theorem dX10_number_39 : decode cX10_number 39 = .ok (.bipush 48, 2) := by decide +kernel
theorem dX10_number_41 : decode cX10_number 41 = .ok (.isub, 1) := by decide +kernel
theorem dX10_number_42 : decode cX10_number 42 = .ok (.istore_n 3, 1) := by decide +kernel
theorem dX10_number_43 : decode cX10_number 43 = .ok (.aload_n 0, 1) := by decide +kernel
theorem dX10_number_44 : decode cX10_number 44 = .ok (.getfield 76, 3) := by decide +kernel
theorem dX10_number_47 : decode cX10_number 47 = .ok (.aload_n 0, 1) := by decide +kernel
theorem dX10_number_48 : decode cX10_number 48 = .ok (.getfield 79, 3) := by decide +kernel
theorem dX10_number_51 : decode cX10_number 51 = .ok (.isub, 1) := by decide +kernel
theorem dX10_number_52 : decode cX10_number 52 = .ok (.iconst 2, 1) := by decide +kernel
theorem dX10_number_53 : decode cX10_number 53 = .ok (.if_icmp .ne 25, 3) := by decide +kernel
theorem dX10_number_56 : decode cX10_number 56 = .ok (.bipush 10, 2) := by decide +kernel
theorem dX10_number_58 : decode cX10_number 58 = .ok (.iload_n 3, 1) := by decide +kernel
theorem dX10_number_59 : decode cX10_number 59 = .ok (.imul, 1) := by decide +kernel
theorem dX10_number_60 : decode cX10_number 60 = .ok (.aload_n 0, 1) := by decide +kernel
theorem dX10_number_61 : decode cX10_number 61 = .ok (.getfield 41, 3) := by decide +kernel
theorem dX10_number_64 : decode cX10_number 64 = .ok (.aload_n 0, 1) := by decide +kernel
theorem dX10_number_65 : decode cX10_number 65 = .ok (.getfield 79, 3) := by decide +kernel
theorem dX10_number_68 : decode cX10_number 68 = .ok (.iconst 1, 1) := by decide +kernel
theorem dX10_number_69 : decode cX10_number 69 = .ok (.iadd, 1) := by decide +kernel
theorem dX10_number_70 : decode cX10_number 70 = .ok (.iaload, 1) := by decide +kernel
theorem dX10_number_71 : decode cX10_number 71 = .ok (.iadd, 1) := by decide +kernel
theorem dX10_number_72 : decode cX10_number 72 = .ok (.bipush 48, 2) := by decide +kernel
theorem dX10_number_74 : decode cX10_number 74 = .ok (.isub, 1) := by decide +kernel
theorem dX10_number_75 : decode cX10_number 75 = .ok (.goto 4, 3) := by decide +kernel
theorem dX10_number_78 : decode cX10_number 78 = .ok (.iload_n 3, 1) := by decide +kernel
theorem dX10_number_79 : decode cX10_number 79 = .ok (.istore_n 3, 1) := by decide +kernel
theorem dX10_number_80 : decode cX10_number 80 = .ok (.iload_n 3, 1) := by decide +kernel
theorem dX10_number_81 : decode cX10_number 81 = .ok (.iload_n 1, 1) := by decide +kernel
theorem dX10_number_82 : decode cX10_number 82 = .ok (.iload_n 2, 1) := by decide +kernel
theorem dX10_number_83 : decode cX10_number 83 = .ok (.invokestatic 69, 3) := by decide +kernel
theorem dX10_number_86 : decode cX10_number 86 = .ok (.ifCond .eq 7, 3) := by decide +kernel
theorem dX10_number_89 : decode cX10_number 89 = .ok (.iload_n 3, 1) := by decide +kernel
theorem dX10_number_90 : decode cX10_number 90 = .ok (.goto 4, 3) := by decide +kernel
theorem dX10_number_93 : decode cX10_number 93 = .ok (.iconst (-1), 1) := by decide +kernel
theorem dX10_number_94 : decode cX10_number 94 = .ok (.ireturn, 1) := by decide +kernel
set_option maxRecDepth 20000 in
theorem ggX10_readsCouple_X10_number : GoodIn wsX10_readsCouple wsX10_number := goodIn_r _ [7, 8, 9, 10, 11, 12, 13, 6, 14, 15, 16, 17, 18, 19, 20, 21, 22, 23, 24, 25, 26, 27, 28, 29, 30, 31, 32, 33, 34, 35, 36, 37, 38, 39, 40, 41, 42, 43, 44, 45, 46, 47, 48, 49] (by decide +kernel) (by decide +kernel)
set_option maxRecDepth 20000 in
theorem gX10_readsCouple_X10_number : GoodIn wsX10_readsCouple (wsV RX10 98 RX10 yX10_number wsX10_number) := goodIn_app (goodIn_of _ (by decide +kernel)) ggX10_readsCouple_X10_number
theorem dX10_readsCouple_0 : decode cX10_readsCouple 0 = .ok (.aload_n 0, 1) := by decide +kernel
theorem dX10_readsCouple_1 : decode cX10_readsCouple 1 = .ok (.getfield 95, 3) := by decide +kernel
theorem dX10_readsCouple_4 : decode cX10_readsCouple 4 = .ok (.bipush 6, 2) := by decide +kernel
theorem dX10_readsCouple_6 : decode cX10_readsCouple 6 = .ok (.if_icmp .ne 5, 3) := by decide +kernel
theorem dX10_readsCouple_9 : decode cX10_readsCouple 9 = .ok (.iconst 0, 1) := by decide +kernel
theorem dX10_readsCouple_10 : decode cX10_readsCouple 10 = .ok (.ireturn, 1) := by decide +kernel
theorem dX10_readsCouple_11 : decode cX10_readsCouple 11 = .ok (.aload_n 0, 1) := by decide +kernel
theorem dX10_readsCouple_12 : decode cX10_readsCouple 12 = .ok (.iconst 1, 1) := by decide +kernel
theorem dX10_readsCouple_13 : decode cX10_readsCouple 13 = .ok (.bipush 9, 2) := by decide +kernel
theorem dX10_readsCouple_15 : decode cX10_readsCouple 15 = .ok (.invokevirtual 98, 3) := by decide +kernel
theorem dX10_readsCouple_18 : decode cX10_readsCouple 18 = .ok (.istore_n 2, 1) := by decide +kernel
theorem dX10_readsCouple_19 : decode cX10_readsCouple 19 = .ok (.iload_n 2, 1) := by decide +kernel
theorem dX10_readsCouple_20 : decode cX10_readsCouple 20 = .ok (.iconst (-1), 1) := by decide +kernel
theorem dX10_readsCouple_21 : decode cX10_readsCouple 21 = .ok (.if_icmp .ne 7, 3) := by decide +kernel
theorem dX10_readsCouple_24 : decode cX10_readsCouple 24 = .ok (.iconst (-1), 1) := by decide +kernel
theorem dX10_readsCouple_25 : decode cX10_readsCouple 25 = .ok (.goto 10, 3) := by decide +kernel
theorem dX10_readsCouple_28 : decode cX10_readsCouple 28 = .ok (.aload_n 0, 1) := by decide +kernel
theorem dX10_readsCouple_29 : decode cX10_readsCouple 29 = .ok (.iconst 0, 1) := by decide +kernel
theorem dX10_readsCouple_30 : decode cX10_readsCouple 30 = .ok (.bipush 99, 2) := by decide +kernel
theorem dX10_readsCouple_32 : decode cX10_readsCouple 32 = .ok (.invokevirtual 98, 3) := by decide +kernel
theorem dX10_readsCouple_35 : decode cX10_readsCouple 35 = .ok (.istore_n 3, 1) := by decide +kernel
theorem dX10_readsCouple_36 : decode cX10_readsCouple 36 = .ok (.iload_n 3, 1) := by decide +kernel
theorem dX10_readsCouple_37 : decode cX10_readsCouple 37 = .ok (.iconst (-1), 1) := by decide +kernel
theorem dX10_readsCouple_38 : decode cX10_readsCouple 38 = .ok (.if_icmp .ne 5, 3) := by decide +kernel
theorem dX10_readsCouple_41 : decode cX10_readsCouple 41 = .ok (.iconst 0, 1) := by decide +kernel
theorem dX10_readsCouple_42 : decode cX10_readsCouple 42 = .ok (.ireturn, 1) := by decide +kernel
theorem dX10_readsCouple_43 : decode cX10_readsCouple 43 = .ok (.aload_n 0, 1) := by decide +kernel
theorem dX10_readsCouple_44 : decode cX10_readsCouple 44 = .ok (.getfield 47, 3) := by decide +kernel
theorem dX10_readsCouple_47 : decode cX10_readsCouple 47 = .ok (.iconst 3, 1) := by decide +kernel
theorem dX10_readsCouple_48 : decode cX10_readsCouple 48 = .ok (.aload_n 0, 1) := by decide +kernel
theorem dX10_readsCouple_49 : decode cX10_readsCouple 49 = .ok (.getfield 95, 3) := by decide +kernel
theorem dX10_readsCouple_52 : decode cX10_readsCouple 52 = .ok (.imul, 1) := by decide +kernel
theorem dX10_readsCouple_53 : decode cX10_readsCouple 53 = .ok (.iload_n 1, 1) := by decide +kernel
theorem dX10_readsCouple_54 : decode cX10_readsCouple 54 = .ok (.iastore, 1) := by decide +kernel
theorem dX10_readsCouple_55 : decode cX10_readsCouple 55 = .ok (.aload_n 0, 1) := by decide +kernel
theorem dX10_readsCouple_56 : decode cX10_readsCouple 56 = .ok (.getfield 47, 3) := by decide +kernel
theorem dX10_readsCouple_59 : decode cX10_readsCouple 59 = .ok (.iconst 3, 1) := by decide +kernel
theorem dX10_readsCouple_60 : decode cX10_readsCouple 60 = .ok (.aload_n 0, 1) := by decide +kernel
theorem dX10_readsCouple_61 : decode cX10_readsCouple 61 = .ok (.getfield 95, 3) := by decide +kernel
theorem dX10_readsCouple_64 : decode cX10_readsCouple 64 = .ok (.imul, 1) := by decide +kernel
theorem dX10_readsCouple_65 : decode cX10_readsCouple 65 = .ok (.iconst 1, 1) := by decide +kernel
theorem dX10_readsCouple_66 : decode cX10_readsCouple 66 = .ok (.iadd, 1) := by decide +kernel
theorem dX10_readsCouple_67 : decode cX10_readsCouple 67 = .ok (.iload_n 2, 1) := by decide +kernel
theorem dX10_readsCouple_68 : decode cX10_readsCouple 68 = .ok (.iastore, 1) := by decide +kernel
theorem dX10_readsCouple_69 : decode cX10_readsCouple 69 = .ok (.aload_n 0, 1) := by decide +kernel
theorem dX10_readsCouple_70 : decode cX10_readsCouple 70 = .ok (.getfield 47, 3) := by decide +kernel
theorem dX10_readsCouple_73 : decode cX10_readsCouple 73 = .ok (.iconst 3, 1) := by decide +kernel
theorem dX10_readsCouple_74 : decode cX10_readsCouple 74 = .ok (.aload_n 0, 1) := by decide +kernel
theorem dX10_readsCouple_75 : decode cX10_readsCouple 75 = .ok (.getfield 95, 3) := by decide +kernel
theorem dX10_readsCouple_78 : decode cX10_readsCouple 78 = .ok (.imul, 1) := by decide +kernel
theorem dX10_readsCouple_79 : decode cX10_readsCouple 79 = .ok (.iconst 2, 1) := by decide +kernel
theorem dX10_readsCouple_80 : decode cX10_readsCouple 80 = .ok (.iadd, 1) := by decide +kernel
theorem dX10_readsCouple_81 : decode cX10_readsCouple 81 = .ok (.iload_n 3, 1) := by decide +kernel
theorem dX10_readsCouple_82 : decode cX10_readsCouple 82 = .ok (.iastore, 1) := by decide +kernel
theorem dX10_readsCouple_83 : decode cX10_readsCouple 83 = .ok (.aload_n 0, 1) := by decide +kernel
theorem dX10_readsCouple_84 : decode cX10_readsCouple 84 = .ok (.dup, 1) := by decide +kernel
theorem dX10_readsCouple_85 : decode cX10_readsCouple 85 = .ok (.getfield 95, 3) := by decide +kernel
theorem dX10_readsCouple_88 : decode cX10_readsCouple 88 = .ok (.iconst 1, 1) := by decide +kernel
theorem dX10_readsCouple_89 : decode cX10_readsCouple 89 = .ok (.iadd, 1) := by decide +kernel
theorem dX10_readsCouple_90 : decode cX10_readsCouple 90 = .ok (.putfield 95, 3) := by decide +kernel
theorem dX10_readsCouple_93 : decode cX10_readsCouple 93 = .ok (.iconst 1, 1) := by decide +kernel
theorem dX10_readsCouple_94 : decode cX10_readsCouple 94 = .ok (.ireturn, 1) := by decide +kernel
set_option maxRecDepth 20000 in
theorem ggX10_readsTerm_X10_number : GoodIn wsX10_readsTerm wsX10_number := goodIn_r _ [8, 9, 10, 11, 12, 13, 14, 7, 15, 16, 17, 18, 19, 20, 21, 22, 23, 24, 25, 26, 27, 28, 29, 30, 31, 32, 33, 34, 35, 36, 37, 38, 39, 40, 41, 42, 43, 44, 45, 46, 47, 48, 49, 50] (by decide +kernel) (by decide +kernel)
set_option maxRecDepth 20000 in
theorem gX10_readsTerm_X10_number : GoodIn wsX10_readsTerm (wsV RX10 98 RX10 yX10_number wsX10_number) := goodIn_app (goodIn_of _ (by decide +kernel)) ggX10_readsTerm_X10_number
theorem dX10_readsTerm_0 : decode cX10_readsTerm 0 = .ok (.aload_n 0, 1) := by decide +kernel
theorem dX10_readsTerm_1 : decode cX10_readsTerm 1 = .ok (.aload_n 0, 1) := by decide +kernel
theorem dX10_readsTerm_2 : decode cX10_readsTerm 2 = .ok (.getfield 16, 3) := by decide +kernel
theorem dX10_readsTerm_5 : decode cX10_readsTerm 5 = .ok (.iload_n 1, 1) := by decide +kernel
theorem dX10_readsTerm_6 : decode cX10_readsTerm 6 = .ok (.iaload, 1) := by decide +kernel
theorem dX10_readsTerm_7 : decode cX10_readsTerm 7 = .ok (.aload_n 0, 1) := by decide +kernel
theorem dX10_readsTerm_8 : decode cX10_readsTerm 8 = .ok (.getfield 19, 3) := by decide +kernel
theorem dX10_readsTerm_11 : decode cX10_readsTerm 11 = .ok (.iload_n 1, 1) := by decide +kernel
theorem dX10_readsTerm_12 : decode cX10_readsTerm 12 = .ok (.iaload, 1) := by decide +kernel
theorem dX10_readsTerm_13 : decode cX10_readsTerm 13 = .ok (.invokevirtual 98, 3) := by decide +kernel
theorem dX10_readsTerm_16 : decode cX10_readsTerm 16 = .ok (.istore_n 2, 1) := by decide +kernel
theorem dX10_readsTerm_17 : decode cX10_readsTerm 17 = .ok (.aload_n 0, 1) := by decide +kernel
theorem dX10_readsTerm_18 : decode cX10_readsTerm 18 = .ok (.getfield 50, 3) := by decide +kernel
theorem dX10_readsTerm_21 : decode cX10_readsTerm 21 = .ok (.iload_n 1, 1) := by decide +kernel
theorem dX10_readsTerm_22 : decode cX10_readsTerm 22 = .ok (.iload_n 2, 1) := by decide +kernel
theorem dX10_readsTerm_23 : decode cX10_readsTerm 23 = .ok (.iastore, 1) := by decide +kernel
theorem dX10_readsTerm_24 : decode cX10_readsTerm 24 = .ok (.iload_n 2, 1) := by decide +kernel
theorem dX10_readsTerm_25 : decode cX10_readsTerm 25 = .ok (.iconst (-1), 1) := by decide +kernel
theorem dX10_readsTerm_26 : decode cX10_readsTerm 26 = .ok (.if_icmp .eq 7, 3) := by decide +kernel
theorem dX10_readsTerm_29 : decode cX10_readsTerm 29 = .ok (.iconst 1, 1) := by decide +kernel
theorem dX10_readsTerm_30 : decode cX10_readsTerm 30 = .ok (.goto 4, 3) := by decide +kernel
theorem dX10_readsTerm_33 : decode cX10_readsTerm 33 = .ok (.iconst 0, 1) := by decide +kernel
theorem dX10_readsTerm_34 : decode cX10_readsTerm 34 = .ok (.ireturn, 1) := by decide +kernel
theorem dX10_readFirst_0 : decode cX10_readFirst 0 = .ok (.aload_n 0, 1) := by decide +kernel
theorem dX10_readFirst_1 : decode cX10_readFirst 1 = .ok (.iconst 0, 1) := by decide +kernel
theorem dX10_readFirst_2 : decode cX10_readFirst 2 = .ok (.putfield 95, 3) := by decide +kernel
theorem dX10_readFirst_5 : decode cX10_readFirst 5 = .ok (.iconst 0, 1) := by decide +kernel
theorem dX10_readFirst_6 : decode cX10_readFirst 6 = .ok (.istore_n 1, 1) := by decide +kernel
theorem dX10_readFirst_7 : decode cX10_readFirst 7 = .ok (.iload_n 1, 1) := by decide +kernel
theorem dX10_readFirst_8 : decode cX10_readFirst 8 = .ok (.bipush 6, 2) := by decide +kernel
theorem dX10_readFirst_10 : decode cX10_readFirst 10 = .ok (.if_icmp .ge 21, 3) := by decide +kernel
theorem dX10_readFirst_13 : decode cX10_readFirst 13 = .ok (.aload_n 0, 1) := by decide +kernel
theorem dX10_readFirst_14 : decode cX10_readFirst 14 = .ok (.getfield 50, 3) := by decide +kernel
theorem dX10_readFirst_17 : decode cX10_readFirst 17 = .ok (.iload_n 1, 1) := by decide +kernel
theorem dX10_readFirst_18 : decode cX10_readFirst 18 = .ok (.aload_n 0, 1) := by decide +kernel
theorem dX10_readFirst_19 : decode cX10_readFirst 19 = .ok (.getfield 13, 3) := by decide +kernel
theorem dX10_readFirst_22 : decode cX10_readFirst 22 = .ok (.iload_n 1, 1) := by decide +kernel
theorem dX10_readFirst_23 : decode cX10_readFirst 23 = .ok (.iaload, 1) := by decide +kernel
theorem dX10_readFirst_24 : decode cX10_readFirst 24 = .ok (.iastore, 1) := by decide +kernel
theorem dX10_readFirst_25 : decode cX10_readFirst 25 = .ok (.iinc 1 1, 3) := by decide +kernel
theorem dX10_readFirst_28 : decode cX10_readFirst 28 = .ok (.goto (-21), 3) := by decide +kernel
theorem dX10_readFirst_31 : decode cX10_readFirst 31 = .ok (.return_, 1) := by decide +kernel
set_option maxRecDepth 20000 in
theorem ggX10_readsClause_X10_next : GoodIn wsX10_readsClause wsX10_next := goodIn_r _ [5, 6, 7, 8, 9, 10, 11, 12, 4, 13, 14, 15, 16, 17, 18, 19, 20, 52, 53, 54, 55, 56, 57, 58, 59, 60, 61, 62, 63, 64, 65, 66, 67, 68, 69, 70, 71, 72, 73, 74] (by decide +kernel) (by decide +kernel)
set_option maxRecDepth 20000 in
theorem gX10_readsClause_X10_next : GoodIn wsX10_readsClause (wsV RX10 92 RX10 yX10_next wsX10_next) := goodIn_app (goodIn_of _ (by decide +kernel)) ggX10_readsClause_X10_next
set_option maxRecDepth 20000 in
theorem ggX10_readsClause_X10_word : GoodIn wsX10_readsClause wsX10_word := goodIn_r _ [24, 7, 10, 11, 12, 4, 13, 8, 9, 14, 15, 16, 25, 26, 27, 28, 6, 29, 52, 53, 54, 55, 56, 57, 58, 59, 60, 61, 62, 63, 64, 65, 66, 67, 68, 69, 70, 71, 72, 73, 74] (by decide +kernel) (by decide +kernel)
set_option maxRecDepth 20000 in
theorem gX10_readsClause_X10_word : GoodIn wsX10_readsClause (wsV RX10 102 RX10 yX10_word wsX10_word) := goodIn_app (goodIn_of _ (by decide +kernel)) ggX10_readsClause_X10_word
set_option maxRecDepth 20000 in
theorem ggX10_readsClause_X10_readFirst : GoodIn wsX10_readsClause wsX10_readFirst := goodIn_r _ [33, 34, 35, 36, 52, 53, 54, 55, 56, 57, 58, 59, 60, 61, 62, 63, 64, 65, 66, 67, 68, 69, 70, 71, 72, 73, 74] (by decide +kernel) (by decide +kernel)
set_option maxRecDepth 20000 in
theorem gX10_readsClause_X10_readFirst : GoodIn wsX10_readsClause (wsV RX10 106 RX10 yX10_readFirst wsX10_readFirst) := goodIn_app (goodIn_of _ (by decide +kernel)) ggX10_readsClause_X10_readFirst
set_option maxRecDepth 20000 in
theorem ggX10_readsClause_X10_readsCouple : GoodIn wsX10_readsClause wsX10_readsCouple := goodIn_r _ [40, 34, 41, 42, 43, 44, 4, 45, 7, 6, 9, 1, 2, 3, 5, 8, 10, 11, 12, 13, 14, 15, 16, 17, 18, 19, 20, 52, 53, 54, 55, 56, 57, 58, 59, 60, 61, 62, 63, 64, 65, 66, 67, 68, 69, 70, 71, 72, 73, 74] (by decide +kernel) (by decide +kernel)
set_option maxRecDepth 20000 in
theorem gX10_readsClause_X10_readsCouple : GoodIn wsX10_readsClause (wsV RX10 109 RX10 yX10_readsCouple wsX10_readsCouple) := goodIn_app (goodIn_of _ (by decide +kernel)) ggX10_readsClause_X10_readsCouple
set_option maxRecDepth 20000 in
theorem ggX10_readsClause_X10_readsTerm : GoodIn wsX10_readsClause wsX10_readsTerm := goodIn_r _ [49, 50, 51, 35, 42, 43, 44, 4, 45, 7, 6, 9, 1, 2, 3, 5, 8, 10, 11, 12, 13, 14, 15, 16, 17, 18, 19, 20, 52, 53, 54, 55, 56, 57, 58, 59, 60, 61, 62, 63, 64, 65, 66, 67, 68, 69, 70, 71, 72, 73, 74] (by decide +kernel) (by decide +kernel)
set_option maxRecDepth 20000 in
theorem gX10_readsClause_X10_readsTerm : GoodIn wsX10_readsClause (wsV RX10 112 RX10 yX10_readsTerm wsX10_readsTerm) := goodIn_app (goodIn_of _ (by decide +kernel)) ggX10_readsClause_X10_readsTerm
theorem dX10_readsClause_0 : decode cX10_readsClause 0 = .ok (.aload_n 0, 1) := by decide +kernel
theorem dX10_readsClause_1 : decode cX10_readsClause 1 = .ok (.invokevirtual 92, 3) := by decide +kernel
theorem dX10_readsClause_4 : decode cX10_readsClause 4 = .ok (.aload_n 0, 1) := by decide +kernel
theorem dX10_readsClause_5 : decode cX10_readsClause 5 = .ok (.invokevirtual 102, 3) := by decide +kernel
theorem dX10_readsClause_8 : decode cX10_readsClause 8 = .ok (.istore_n 1, 1) := by decide +kernel
theorem dX10_readsClause_9 : decode cX10_readsClause 9 = .ok (.iload_n 1, 1) := by decide +kernel
theorem dX10_readsClause_10 : decode cX10_readsClause 10 = .ok (.iconst (-1), 1) := by decide +kernel
theorem dX10_readsClause_11 : decode cX10_readsClause 11 = .ok (.if_icmp .ne 5, 3) := by decide +kernel
theorem dX10_readsClause_14 : decode cX10_readsClause 14 = .ok (.iconst 0, 1) := by decide +kernel
theorem dX10_readsClause_15 : decode cX10_readsClause 15 = .ok (.ireturn, 1) := by decide +kernel
theorem dX10_readsClause_16 : decode cX10_readsClause 16 = .ok (.iload_n 1, 1) := by decide +kernel
theorem dX10_readsClause_17 : decode cX10_readsClause 17 = .ok (.ifCond .ne 9, 3) := by decide +kernel
theorem dX10_readsClause_20 : decode cX10_readsClause 20 = .ok (.aload_n 0, 1) := by decide +kernel
theorem dX10_readsClause_21 : decode cX10_readsClause 21 = .ok (.invokevirtual 106, 3) := by decide +kernel
theorem dX10_readsClause_24 : decode cX10_readsClause 24 = .ok (.iconst 1, 1) := by decide +kernel
theorem dX10_readsClause_25 : decode cX10_readsClause 25 = .ok (.ireturn, 1) := by decide +kernel
theorem dX10_readsClause_26 : decode cX10_readsClause 26 = .ok (.iload_n 1, 1) := by decide +kernel
theorem dX10_readsClause_27 : decode cX10_readsClause 27 = .ok (.iconst 5, 1) := by decide +kernel
theorem dX10_readsClause_28 : decode cX10_readsClause 28 = .ok (.if_icmp .ge 13, 3) := by decide +kernel
theorem dX10_readsClause_31 : decode cX10_readsClause 31 = .ok (.aload_n 0, 1) := by decide +kernel
theorem dX10_readsClause_32 : decode cX10_readsClause 32 = .ok (.iload_n 1, 1) := by decide +kernel
theorem dX10_readsClause_33 : decode cX10_readsClause 33 = .ok (.iconst 1, 1) := by decide +kernel
theorem dX10_readsClause_34 : decode cX10_readsClause 34 = .ok (.isub, 1) := by decide +kernel
theorem dX10_readsClause_35 : decode cX10_readsClause 35 = .ok (.invokevirtual 109, 3) := by decide +kernel
theorem dX10_readsClause_38 : decode cX10_readsClause 38 = .ok (.goto 10, 3) := by decide +kernel
theorem dX10_readsClause_41 : decode cX10_readsClause 41 = .ok (.aload_n 0, 1) := by decide +kernel
theorem dX10_readsClause_42 : decode cX10_readsClause 42 = .ok (.iload_n 1, 1) := by decide +kernel
theorem dX10_readsClause_43 : decode cX10_readsClause 43 = .ok (.iconst 5, 1) := by decide +kernel
theorem dX10_readsClause_44 : decode cX10_readsClause 44 = .ok (.isub, 1) := by decide +kernel
theorem dX10_readsClause_45 : decode cX10_readsClause 45 = .ok (.invokevirtual 112, 3) := by decide +kernel
theorem dX10_readsClause_48 : decode cX10_readsClause 48 = .ok (.ireturn, 1) := by decide +kernel
set_option maxRecDepth 20000 in
theorem ggX10_reads_X10_readsClause : GoodIn wsX10_reads wsX10_readsClause := goodIn_r _ [18, 19, 20, 21, 17, 22, 9, 11, 12, 13, 23, 24, 25, 26, 27, 28, 29, 30, 31, 32, 33, 34, 35, 36, 37, 38, 39, 40, 41, 42, 43, 44, 45, 46, 2, 7, 47, 48, 49, 50, 51, 3, 52, 53, 54, 55, 56, 57, 58, 59, 60, 61, 62, 63, 64, 65, 66, 67, 68, 69, 70, 71, 72, 73, 74, 75, 76, 77, 78, 79, 80, 81, 82, 83, 84] (by decide +kernel) (by decide +kernel)
set_option maxRecDepth 20000 in
theorem gX10_reads_X10_readsClause : GoodIn wsX10_reads (wsV RX10 118 RX10 yX10_readsClause wsX10_readsClause) := goodIn_app (goodIn_of _ (by decide +kernel)) ggX10_reads_X10_readsClause
set_option maxRecDepth 20000 in
theorem ggX10_reads_X10_next : GoodIn wsX10_reads wsX10_next := goodIn_r _ [22, 9, 11, 12, 13, 23, 24, 25, 17, 26, 27, 28, 29, 30, 31, 32, 33, 62, 63, 64, 65, 66, 67, 68, 69, 70, 71, 72, 73, 74, 75, 76, 77, 78, 79, 80, 81, 82, 83, 84] (by decide +kernel) (by decide +kernel)
set_option maxRecDepth 20000 in
theorem gX10_reads_X10_next : GoodIn wsX10_reads (wsV RX10 92 RX10 yX10_next wsX10_next) := goodIn_app (goodIn_of _ (by decide +kernel)) ggX10_reads_X10_next
theorem dX10_reads_0 : decode cX10_reads 0 = .ok (.aload_n 0, 1) := by decide +kernel
theorem dX10_reads_1 : decode cX10_reads 1 = .ok (.aload_n 0, 1) := by decide +kernel
theorem dX10_reads_2 : decode cX10_reads 2 = .ok (.getfield 59, 3) := by decide +kernel
theorem dX10_reads_5 : decode cX10_reads 5 = .ok (.putfield 95, 3) := by decide +kernel
theorem dX10_reads_8 : decode cX10_reads 8 = .ok (.iconst 0, 1) := by decide +kernel
theorem dX10_reads_9 : decode cX10_reads 9 = .ok (.istore_n 1, 1) := by decide +kernel
theorem dX10_reads_10 : decode cX10_reads 10 = .ok (.iload_n 1, 1) := by decide +kernel
theorem dX10_reads_11 : decode cX10_reads 11 = .ok (.aload_n 0, 1) := by decide +kernel
theorem dX10_reads_12 : decode cX10_reads 12 = .ok (.getfield 59, 3) := by decide +kernel
theorem dX10_reads_15 : decode cX10_reads 15 = .ok (.if_icmp .ge 55, 3) := by decide +kernel
theorem dX10_reads_18 : decode cX10_reads 18 = .ok (.aload_n 0, 1) := by decide +kernel
theorem dX10_reads_19 : decode cX10_reads 19 = .ok (.getfield 47, 3) := by decide +kernel
theorem dX10_reads_22 : decode cX10_reads 22 = .ok (.iconst 3, 1) := by decide +kernel
theorem dX10_reads_23 : decode cX10_reads 23 = .ok (.iload_n 1, 1) := by decide +kernel
theorem dX10_reads_24 : decode cX10_reads 24 = .ok (.imul, 1) := by decide +kernel
theorem dX10_reads_25 : decode cX10_reads 25 = .ok (.aload_n 0, 1) := by decide +kernel
theorem dX10_reads_26 : decode cX10_reads 26 = .ok (.getfield 29, 3) := by decide +kernel
theorem dX10_reads_29 : decode cX10_reads 29 = .ok (.iload_n 1, 1) := by decide +kernel
theorem dX10_reads_30 : decode cX10_reads 30 = .ok (.iaload, 1) := by decide +kernel
theorem dX10_reads_31 : decode cX10_reads 31 = .ok (.iastore, 1) := by decide +kernel
theorem dX10_reads_32 : decode cX10_reads 32 = .ok (.aload_n 0, 1) := by decide +kernel
theorem dX10_reads_33 : decode cX10_reads 33 = .ok (.getfield 47, 3) := by decide +kernel
theorem dX10_reads_36 : decode cX10_reads 36 = .ok (.iconst 3, 1) := by decide +kernel
theorem dX10_reads_37 : decode cX10_reads 37 = .ok (.iload_n 1, 1) := by decide +kernel
theorem dX10_reads_38 : decode cX10_reads 38 = .ok (.imul, 1) := by decide +kernel
theorem dX10_reads_39 : decode cX10_reads 39 = .ok (.iconst 1, 1) := by decide +kernel
theorem dX10_reads_40 : decode cX10_reads 40 = .ok (.iadd, 1) := by decide +kernel
theorem dX10_reads_41 : decode cX10_reads 41 = .ok (.aload_n 0, 1) := by decide +kernel
theorem dX10_reads_42 : decode cX10_reads 42 = .ok (.getfield 32, 3) := by decide +kernel
theorem dX10_reads_45 : decode cX10_reads 45 = .ok (.iload_n 1, 1) := by decide +kernel
theorem dX10_reads_46 : decode cX10_reads 46 = .ok (.iaload, 1) := by decide +kernel
theorem dX10_reads_47 : decode cX10_reads 47 = .ok (.iastore, 1) := by decide +kernel
theorem dX10_reads_48 : decode cX10_reads 48 = .ok (.aload_n 0, 1) := by decide +kernel
theorem dX10_reads_49 : decode cX10_reads 49 = .ok (.getfield 47, 3) := by decide +kernel
theorem dX10_reads_52 : decode cX10_reads 52 = .ok (.iconst 3, 1) := by decide +kernel
theorem dX10_reads_53 : decode cX10_reads 53 = .ok (.iload_n 1, 1) := by decide +kernel
theorem dX10_reads_54 : decode cX10_reads 54 = .ok (.imul, 1) := by decide +kernel
theorem dX10_reads_55 : decode cX10_reads 55 = .ok (.iconst 2, 1) := by decide +kernel
theorem dX10_reads_56 : decode cX10_reads 56 = .ok (.iadd, 1) := by decide +kernel
theorem dX10_reads_57 : decode cX10_reads 57 = .ok (.aload_n 0, 1) := by decide +kernel
theorem dX10_reads_58 : decode cX10_reads 58 = .ok (.getfield 35, 3) := by decide +kernel
theorem dX10_reads_61 : decode cX10_reads 61 = .ok (.iload_n 1, 1) := by decide +kernel
theorem dX10_reads_62 : decode cX10_reads 62 = .ok (.iaload, 1) := by decide +kernel
theorem dX10_reads_63 : decode cX10_reads 63 = .ok (.iastore, 1) := by decide +kernel
theorem dX10_reads_64 : decode cX10_reads 64 = .ok (.iinc 1 1, 3) := by decide +kernel
theorem dX10_reads_67 : decode cX10_reads 67 = .ok (.goto (-57), 3) := by decide +kernel
theorem dX10_reads_70 : decode cX10_reads 70 = .ok (.iconst 0, 1) := by decide +kernel
theorem dX10_reads_71 : decode cX10_reads 71 = .ok (.istore_n 1, 1) := by decide +kernel
theorem dX10_reads_72 : decode cX10_reads 72 = .ok (.iload_n 1, 1) := by decide +kernel
theorem dX10_reads_73 : decode cX10_reads 73 = .ok (.bipush 6, 2) := by decide +kernel
theorem dX10_reads_75 : decode cX10_reads 75 = .ok (.if_icmp .ge 21, 3) := by decide +kernel
theorem dX10_reads_78 : decode cX10_reads 78 = .ok (.aload_n 0, 1) := by decide +kernel
theorem dX10_reads_79 : decode cX10_reads 79 = .ok (.getfield 50, 3) := by decide +kernel
theorem dX10_reads_82 : decode cX10_reads 82 = .ok (.iload_n 1, 1) := by decide +kernel
theorem dX10_reads_83 : decode cX10_reads 83 = .ok (.aload_n 0, 1) := by decide +kernel
theorem dX10_reads_84 : decode cX10_reads 84 = .ok (.getfield 38, 3) := by decide +kernel
theorem dX10_reads_87 : decode cX10_reads 87 = .ok (.iload_n 1, 1) := by decide +kernel
theorem dX10_reads_88 : decode cX10_reads 88 = .ok (.iaload, 1) := by decide +kernel
theorem dX10_reads_89 : decode cX10_reads 89 = .ok (.iastore, 1) := by decide +kernel
theorem dX10_reads_90 : decode cX10_reads 90 = .ok (.iinc 1 1, 3) := by decide +kernel
theorem dX10_reads_93 : decode cX10_reads 93 = .ok (.goto (-21), 3) := by decide +kernel
theorem dX10_reads_96 : decode cX10_reads 96 = .ok (.aload_n 0, 1) := by decide +kernel
theorem dX10_reads_97 : decode cX10_reads 97 = .ok (.iconst 0, 1) := by decide +kernel
theorem dX10_reads_98 : decode cX10_reads 98 = .ok (.putfield 76, 3) := by decide +kernel
theorem dX10_reads_101 : decode cX10_reads 101 = .ok (.aload_n 0, 1) := by decide +kernel
theorem dX10_reads_102 : decode cX10_reads 102 = .ok (.iconst 0, 1) := by decide +kernel
theorem dX10_reads_103 : decode cX10_reads 103 = .ok (.putfield 115, 3) := by decide +kernel
theorem dX10_reads_106 : decode cX10_reads 106 = .ok (.iconst 1, 1) := by decide +kernel
theorem dX10_reads_107 : decode cX10_reads 107 = .ok (.istore_n 1, 1) := by decide +kernel
theorem dX10_reads_108 : decode cX10_reads 108 = .ok (.iload_n 1, 1) := by decide +kernel
theorem dX10_reads_109 : decode cX10_reads 109 = .ok (.ifCond .eq 72, 3) := by decide +kernel
theorem dX10_reads_112 : decode cX10_reads 112 = .ok (.aload_n 0, 1) := by decide +kernel
theorem dX10_reads_113 : decode cX10_reads 113 = .ok (.invokevirtual 118, 3) := by decide +kernel
theorem dX10_reads_116 : decode cX10_reads 116 = .ok (.ifCond .ne 5, 3) := by decide +kernel
theorem dX10_reads_119 : decode cX10_reads 119 = .ok (.iconst 0, 1) := by decide +kernel
theorem dX10_reads_120 : decode cX10_reads 120 = .ok (.ireturn, 1) := by decide +kernel
theorem dX10_reads_121 : decode cX10_reads 121 = .ok (.aload_n 0, 1) := by decide +kernel
theorem dX10_reads_122 : decode cX10_reads 122 = .ok (.dup, 1) := by decide +kernel
theorem dX10_reads_123 : decode cX10_reads 123 = .ok (.getfield 115, 3) := by decide +kernel
theorem dX10_reads_126 : decode cX10_reads 126 = .ok (.iconst 1, 1) := by decide +kernel
theorem dX10_reads_127 : decode cX10_reads 127 = .ok (.iadd, 1) := by decide +kernel
theorem dX10_reads_128 : decode cX10_reads 128 = .ok (.putfield 115, 3) := by decide +kernel
theorem dX10_reads_131 : decode cX10_reads 131 = .ok (.aload_n 0, 1) := by decide +kernel
theorem dX10_reads_132 : decode cX10_reads 132 = .ok (.invokevirtual 92, 3) := by decide +kernel
theorem dX10_reads_135 : decode cX10_reads 135 = .ok (.aload_n 0, 1) := by decide +kernel
theorem dX10_reads_136 : decode cX10_reads 136 = .ok (.getfield 79, 3) := by decide +kernel
theorem dX10_reads_139 : decode cX10_reads 139 = .ok (.aload_n 0, 1) := by decide +kernel
theorem dX10_reads_140 : decode cX10_reads 140 = .ok (.getfield 73, 3) := by decide +kernel
theorem dX10_reads_143 : decode cX10_reads 143 = .ok (.if_icmp .ge 7, 3) := by decide +kernel
theorem dX10_reads_146 : decode cX10_reads 146 = .ok (.iconst 1, 1) := by decide +kernel
theorem dX10_reads_147 : decode cX10_reads 147 = .ok (.goto 4, 3) := by decide +kernel
theorem dX10_reads_150 : decode cX10_reads 150 = .ok (.iconst 0, 1) := by decide +kernel
theorem dX10_reads_151 : decode cX10_reads 151 = .ok (.istore_n 1, 1) := by decide +kernel
theorem dX10_reads_152 : decode cX10_reads 152 = .ok (.iload_n 1, 1) := by decide +kernel
theorem dX10_reads_153 : decode cX10_reads 153 = .ok (.ifCond .eq (-45), 3) := by decide +kernel
theorem dX10_reads_156 : decode cX10_reads 156 = .ok (.aload_n 0, 1) := by decide +kernel
theorem dX10_reads_157 : decode cX10_reads 157 = .ok (.getfield 41, 3) := by decide +kernel
theorem dX10_reads_160 : decode cX10_reads 160 = .ok (.aload_n 0, 1) := by decide +kernel
theorem dX10_reads_161 : decode cX10_reads 161 = .ok (.getfield 79, 3) := by decide +kernel
theorem dX10_reads_164 : decode cX10_reads 164 = .ok (.iaload, 1) := by decide +kernel
theorem dX10_reads_165 : decode cX10_reads 165 = .ok (.bipush 59, 2) := by decide +kernel
theorem dX10_reads_167 : decode cX10_reads 167 = .ok (.if_icmp .ne 12, 3) := by decide +kernel
theorem dX10_reads_170 : decode cX10_reads 170 = .ok (.aload_n 0, 1) := by decide +kernel
theorem dX10_reads_171 : decode cX10_reads 171 = .ok (.getfield 115, 3) := by decide +kernel
theorem dX10_reads_174 : decode cX10_reads 174 = .ok (.bipush 14, 2) := by decide +kernel
theorem dX10_reads_176 : decode cX10_reads 176 = .ok (.if_icmp .ne (-68), 3) := by decide +kernel
theorem dX10_reads_179 : decode cX10_reads 179 = .ok (.iconst 0, 1) := by decide +kernel
theorem dX10_reads_180 : decode cX10_reads 180 = .ok (.ireturn, 1) := by decide +kernel
theorem dX10_reads_181 : decode cX10_reads 181 = .ok (.iconst 1, 1) := by decide +kernel
theorem dX10_reads_182 : decode cX10_reads 182 = .ok (.ireturn, 1) := by decide +kernel
set_option maxRecDepth 20000 in
theorem ggX10_fault_X10_reads : GoodIn wsX10_fault wsX10_reads := goodIn_r _ [6, 7, 8, 9, 10, 11, 12, 13, 14, 15, 16, 1, 17, 18, 19, 20, 21, 5, 22, 23, 24, 25, 26, 27, 28, 29, 30, 31, 32, 33, 34, 35, 36, 37, 38, 39, 40, 41, 42, 43, 44, 45, 46, 47, 48, 49, 50, 51, 52, 53, 54, 55, 56, 57, 58, 59, 60, 61, 62, 63, 64, 65, 66, 67, 68, 69, 70, 71, 72, 73, 74, 75, 76, 77, 78, 79, 80, 81, 82, 83, 84, 85, 86, 87, 88] (by decide +kernel) (by decide +kernel)
set_option maxRecDepth 20000 in
theorem gX10_fault_X10_reads : GoodIn wsX10_fault (wsV RX10 122 RX10 yX10_reads wsX10_reads) := goodIn_app (goodIn_of _ (by decide +kernel)) ggX10_fault_X10_reads
theorem dX10_fault_0 : decode cX10_fault 0 = .ok (.aload_n 0, 1) := by decide +kernel
theorem dX10_fault_1 : decode cX10_fault 1 = .ok (.invokevirtual 122, 3) := by decide +kernel
theorem dX10_fault_4 : decode cX10_fault 4 = .ok (.ifCond .eq 7, 3) := by decide +kernel
theorem dX10_fault_7 : decode cX10_fault 7 = .ok (.iconst (-1), 1) := by decide +kernel
theorem dX10_fault_8 : decode cX10_fault 8 = .ok (.goto 7, 3) := by decide +kernel
theorem dX10_fault_11 : decode cX10_fault 11 = .ok (.aload_n 0, 1) := by decide +kernel
theorem dX10_fault_12 : decode cX10_fault 12 = .ok (.getfield 79, 3) := by decide +kernel
theorem dX10_fault_15 : decode cX10_fault 15 = .ok (.ireturn, 1) := by decide +kernel
set_option maxRecDepth 20000 in
theorem ggX10_desk_X10_reads : GoodIn wsX10_desk wsX10_reads := goodIn_r _ [15, 3, 2, 5, 4, 6, 7, 9, 8, 16, 10, 17, 1, 18, 19, 20, 21, 14, 22, 23, 24, 25, 26, 27, 28, 29, 30, 31, 32, 33, 34, 35, 36, 37, 38, 39, 40, 41, 42, 43, 44, 45, 46, 47, 48, 49, 50, 51, 52, 53, 54, 55, 56, 57, 58, 59, 60, 61, 62, 63, 64, 65, 74, 75, 76, 77, 78, 79, 80, 81, 82, 83, 84, 85, 86, 87, 88, 89, 90, 91, 92, 93, 94, 95, 96] (by decide +kernel) (by decide +kernel)
set_option maxRecDepth 20000 in
theorem gX10_desk_X10_reads : GoodIn wsX10_desk (wsV RX10 122 RX10 yX10_reads wsX10_reads) := goodIn_app (goodIn_of _ (by decide +kernel)) ggX10_desk_X10_reads
set_option maxRecDepth 20000 in
theorem ggX10_desk_X10_layDesk : GoodIn wsX10_desk wsX10_layDesk := goodIn_r _ [69, 70, 8, 3, 7, 71, 72, 73, 74, 75, 76, 77, 78, 79, 80, 81, 82, 83, 84, 85, 86, 87, 88, 89, 90, 91, 92, 93, 94, 95, 96] (by decide +kernel) (by decide +kernel)
set_option maxRecDepth 20000 in
theorem gX10_desk_X10_layDesk : GoodIn wsX10_desk (wsV RX10 56 RX10 yX10_layDesk wsX10_layDesk) := goodIn_app (goodIn_of _ (by decide +kernel)) ggX10_desk_X10_layDesk
theorem dX10_desk_0 : decode cX10_desk 0 = .ok (.aload_n 0, 1) := by decide +kernel
theorem dX10_desk_1 : decode cX10_desk 1 = .ok (.invokevirtual 122, 3) := by decide +kernel
theorem dX10_desk_4 : decode cX10_desk 4 = .ok (.ifCond .ne 6, 3) := by decide +kernel
theorem dX10_desk_7 : decode cX10_desk 7 = .ok (.bipush (-4), 2) := by decide +kernel
theorem dX10_desk_9 : decode cX10_desk 9 = .ok (.ireturn, 1) := by decide +kernel
theorem dX10_desk_10 : decode cX10_desk 10 = .ok (.aload_n 0, 1) := by decide +kernel
theorem dX10_desk_11 : decode cX10_desk 11 = .ok (.iconst 0, 1) := by decide +kernel
theorem dX10_desk_12 : decode cX10_desk 12 = .ok (.putfield 73, 3) := by decide +kernel
theorem dX10_desk_15 : decode cX10_desk 15 = .ok (.aload_n 0, 1) := by decide +kernel
theorem dX10_desk_16 : decode cX10_desk 16 = .ok (.aload_n 0, 1) := by decide +kernel
theorem dX10_desk_17 : decode cX10_desk 17 = .ok (.getfield 95, 3) := by decide +kernel
theorem dX10_desk_20 : decode cX10_desk 20 = .ok (.putfield 59, 3) := by decide +kernel
theorem dX10_desk_23 : decode cX10_desk 23 = .ok (.iconst 0, 1) := by decide +kernel
theorem dX10_desk_24 : decode cX10_desk 24 = .ok (.istore_n 1, 1) := by decide +kernel
theorem dX10_desk_25 : decode cX10_desk 25 = .ok (.iload_n 1, 1) := by decide +kernel
theorem dX10_desk_26 : decode cX10_desk 26 = .ok (.aload_n 0, 1) := by decide +kernel
theorem dX10_desk_27 : decode cX10_desk 27 = .ok (.getfield 59, 3) := by decide +kernel
theorem dX10_desk_30 : decode cX10_desk 30 = .ok (.if_icmp .ge 55, 3) := by decide +kernel
theorem dX10_desk_33 : decode cX10_desk 33 = .ok (.aload_n 0, 1) := by decide +kernel
theorem dX10_desk_34 : decode cX10_desk 34 = .ok (.getfield 29, 3) := by decide +kernel
theorem dX10_desk_37 : decode cX10_desk 37 = .ok (.iload_n 1, 1) := by decide +kernel
theorem dX10_desk_38 : decode cX10_desk 38 = .ok (.aload_n 0, 1) := by decide +kernel
theorem dX10_desk_39 : decode cX10_desk 39 = .ok (.getfield 47, 3) := by decide +kernel
theorem dX10_desk_42 : decode cX10_desk 42 = .ok (.iconst 3, 1) := by decide +kernel
theorem dX10_desk_43 : decode cX10_desk 43 = .ok (.iload_n 1, 1) := by decide +kernel
theorem dX10_desk_44 : decode cX10_desk 44 = .ok (.imul, 1) := by decide +kernel
theorem dX10_desk_45 : decode cX10_desk 45 = .ok (.iaload, 1) := by decide +kernel
theorem dX10_desk_46 : decode cX10_desk 46 = .ok (.iastore, 1) := by decide +kernel
theorem dX10_desk_47 : decode cX10_desk 47 = .ok (.aload_n 0, 1) := by decide +kernel
theorem dX10_desk_48 : decode cX10_desk 48 = .ok (.getfield 32, 3) := by decide +kernel
theorem dX10_desk_51 : decode cX10_desk 51 = .ok (.iload_n 1, 1) := by decide +kernel
theorem dX10_desk_52 : decode cX10_desk 52 = .ok (.aload_n 0, 1) := by decide +kernel
theorem dX10_desk_53 : decode cX10_desk 53 = .ok (.getfield 47, 3) := by decide +kernel
theorem dX10_desk_56 : decode cX10_desk 56 = .ok (.iconst 3, 1) := by decide +kernel
theorem dX10_desk_57 : decode cX10_desk 57 = .ok (.iload_n 1, 1) := by decide +kernel
theorem dX10_desk_58 : decode cX10_desk 58 = .ok (.imul, 1) := by decide +kernel
theorem dX10_desk_59 : decode cX10_desk 59 = .ok (.iconst 1, 1) := by decide +kernel
theorem dX10_desk_60 : decode cX10_desk 60 = .ok (.iadd, 1) := by decide +kernel
theorem dX10_desk_61 : decode cX10_desk 61 = .ok (.iaload, 1) := by decide +kernel
theorem dX10_desk_62 : decode cX10_desk 62 = .ok (.iastore, 1) := by decide +kernel
theorem dX10_desk_63 : decode cX10_desk 63 = .ok (.aload_n 0, 1) := by decide +kernel
theorem dX10_desk_64 : decode cX10_desk 64 = .ok (.getfield 35, 3) := by decide +kernel
theorem dX10_desk_67 : decode cX10_desk 67 = .ok (.iload_n 1, 1) := by decide +kernel
theorem dX10_desk_68 : decode cX10_desk 68 = .ok (.aload_n 0, 1) := by decide +kernel
theorem dX10_desk_69 : decode cX10_desk 69 = .ok (.getfield 47, 3) := by decide +kernel
theorem dX10_desk_72 : decode cX10_desk 72 = .ok (.iconst 3, 1) := by decide +kernel
theorem dX10_desk_73 : decode cX10_desk 73 = .ok (.iload_n 1, 1) := by decide +kernel
theorem dX10_desk_74 : decode cX10_desk 74 = .ok (.imul, 1) := by decide +kernel
theorem dX10_desk_75 : decode cX10_desk 75 = .ok (.iconst 2, 1) := by decide +kernel
theorem dX10_desk_76 : decode cX10_desk 76 = .ok (.iadd, 1) := by decide +kernel
theorem dX10_desk_77 : decode cX10_desk 77 = .ok (.iaload, 1) := by decide +kernel
theorem dX10_desk_78 : decode cX10_desk 78 = .ok (.iastore, 1) := by decide +kernel
theorem dX10_desk_79 : decode cX10_desk 79 = .ok (.iinc 1 1, 3) := by decide +kernel
theorem dX10_desk_82 : decode cX10_desk 82 = .ok (.goto (-57), 3) := by decide +kernel
theorem dX10_desk_85 : decode cX10_desk 85 = .ok (.iconst 0, 1) := by decide +kernel
theorem dX10_desk_86 : decode cX10_desk 86 = .ok (.istore_n 1, 1) := by decide +kernel
theorem dX10_desk_87 : decode cX10_desk 87 = .ok (.iload_n 1, 1) := by decide +kernel
theorem dX10_desk_88 : decode cX10_desk 88 = .ok (.bipush 6, 2) := by decide +kernel
theorem dX10_desk_90 : decode cX10_desk 90 = .ok (.if_icmp .ge 21, 3) := by decide +kernel
theorem dX10_desk_93 : decode cX10_desk 93 = .ok (.aload_n 0, 1) := by decide +kernel
theorem dX10_desk_94 : decode cX10_desk 94 = .ok (.getfield 38, 3) := by decide +kernel
theorem dX10_desk_97 : decode cX10_desk 97 = .ok (.iload_n 1, 1) := by decide +kernel
theorem dX10_desk_98 : decode cX10_desk 98 = .ok (.aload_n 0, 1) := by decide +kernel
theorem dX10_desk_99 : decode cX10_desk 99 = .ok (.getfield 50, 3) := by decide +kernel
theorem dX10_desk_102 : decode cX10_desk 102 = .ok (.iload_n 1, 1) := by decide +kernel
theorem dX10_desk_103 : decode cX10_desk 103 = .ok (.iaload, 1) := by decide +kernel
theorem dX10_desk_104 : decode cX10_desk 104 = .ok (.iastore, 1) := by decide +kernel
theorem dX10_desk_105 : decode cX10_desk 105 = .ok (.iinc 1 1, 3) := by decide +kernel
theorem dX10_desk_108 : decode cX10_desk 108 = .ok (.goto (-21), 3) := by decide +kernel
theorem dX10_desk_111 : decode cX10_desk 111 = .ok (.aload_n 0, 1) := by decide +kernel
theorem dX10_desk_112 : decode cX10_desk 112 = .ok (.invokevirtual 56, 3) := by decide +kernel
theorem dX10_desk_115 : decode cX10_desk 115 = .ok (.aload_n 0, 1) := by decide +kernel
theorem dX10_desk_116 : decode cX10_desk 116 = .ok (.getfield 115, 3) := by decide +kernel
theorem dX10_desk_119 : decode cX10_desk 119 = .ok (.ireturn, 1) := by decide +kernel
set_option maxRecDepth 20000 in
theorem ggX10_isCouple_X10_in : GoodIn wsX10_isCouple wsX10_in := goodIn_r _ [5] (by decide +kernel) (by decide +kernel)
set_option maxRecDepth 20000 in
theorem gX10_isCouple_X10_in : GoodIn wsX10_isCouple (va_wsS RX10 69 yX10_in wsX10_in) := goodIn_app (goodIn_of _ (by decide +kernel)) ggX10_isCouple_X10_in
theorem dX10_isCouple_0 : decode cX10_isCouple 0 = .ok (.iload_n 1, 1) := by decide +kernel
theorem dX10_isCouple_1 : decode cX10_isCouple 1 = .ok (.iconst 0, 1) := by decide +kernel
theorem dX10_isCouple_2 : decode cX10_isCouple 2 = .ok (.aload_n 0, 1) := by decide +kernel
theorem dX10_isCouple_3 : decode cX10_isCouple 3 = .ok (.getfield 59, 3) := by decide +kernel
theorem dX10_isCouple_6 : decode cX10_isCouple 6 = .ok (.iconst 1, 1) := by decide +kernel
theorem dX10_isCouple_7 : decode cX10_isCouple 7 = .ok (.isub, 1) := by decide +kernel
theorem dX10_isCouple_8 : decode cX10_isCouple 8 = .ok (.invokestatic 69, 3) := by decide +kernel
theorem dX10_isCouple_11 : decode cX10_isCouple 11 = .ok (.ireturn, 1) := by decide +kernel
theorem dX10_gainOf_0 : decode cX10_gainOf 0 = .ok (.aload_n 0, 1) := by decide +kernel
theorem dX10_gainOf_1 : decode cX10_gainOf 1 = .ok (.getfield 32, 3) := by decide +kernel
theorem dX10_gainOf_4 : decode cX10_gainOf 4 = .ok (.iload_n 2, 1) := by decide +kernel
theorem dX10_gainOf_5 : decode cX10_gainOf 5 = .ok (.iaload, 1) := by decide +kernel
theorem dX10_gainOf_6 : decode cX10_gainOf 6 = .ok (.istore_n 3, 1) := by decide +kernel
theorem dX10_gainOf_7 : decode cX10_gainOf 7 = .ok (.aload_n 0, 1) := by decide +kernel
theorem dX10_gainOf_8 : decode cX10_gainOf 8 = .ok (.getfield 29, 3) := by decide +kernel
theorem dX10_gainOf_11 : decode cX10_gainOf 11 = .ok (.iload_n 2, 1) := by decide +kernel
theorem dX10_gainOf_12 : decode cX10_gainOf 12 = .ok (.iaload, 1) := by decide +kernel
theorem dX10_gainOf_13 : decode cX10_gainOf 13 = .ok (.tableswitch 112 1 3 #[27, 74, 98], 27) := by decide +kernel
theorem dX10_gainOf_40 : decode cX10_gainOf 40 = .ok (.iload_n 3, 1) := by decide +kernel
theorem dX10_gainOf_41 : decode cX10_gainOf 41 = .ok (.aload_n 0, 1) := by decide +kernel
theorem dX10_gainOf_42 : decode cX10_gainOf 42 = .ok (.getfield 22, 3) := by decide +kernel
theorem dX10_gainOf_45 : decode cX10_gainOf 45 = .ok (.iload_n 1, 1) := by decide +kernel
theorem dX10_gainOf_46 : decode cX10_gainOf 46 = .ok (.bipush 50, 2) := by decide +kernel
theorem dX10_gainOf_48 : decode cX10_gainOf 48 = .ok (.iadd, 1) := by decide +kernel
theorem dX10_gainOf_49 : decode cX10_gainOf 49 = .ok (.iload_n 2, 1) := by decide +kernel
theorem dX10_gainOf_50 : decode cX10_gainOf 50 = .ok (.iadd, 1) := by decide +kernel
theorem dX10_gainOf_51 : decode cX10_gainOf 51 = .ok (.iaload, 1) := by decide +kernel
theorem dX10_gainOf_52 : decode cX10_gainOf 52 = .ok (.iconst (-1), 1) := by decide +kernel
theorem dX10_gainOf_53 : decode cX10_gainOf 53 = .ok (.if_icmp .eq 31, 3) := by decide +kernel
theorem dX10_gainOf_56 : decode cX10_gainOf 56 = .ok (.aload_n 0, 1) := by decide +kernel
theorem dX10_gainOf_57 : decode cX10_gainOf 57 = .ok (.getfield 22, 3) := by decide +kernel
theorem dX10_gainOf_60 : decode cX10_gainOf 60 = .ok (.iload_n 1, 1) := by decide +kernel
theorem dX10_gainOf_61 : decode cX10_gainOf 61 = .ok (.bipush 50, 2) := by decide +kernel
theorem dX10_gainOf_63 : decode cX10_gainOf 63 = .ok (.iadd, 1) := by decide +kernel
theorem dX10_gainOf_64 : decode cX10_gainOf 64 = .ok (.iload_n 2, 1) := by decide +kernel
theorem dX10_gainOf_65 : decode cX10_gainOf 65 = .ok (.iadd, 1) := by decide +kernel
theorem dX10_gainOf_66 : decode cX10_gainOf 66 = .ok (.iaload, 1) := by decide +kernel
theorem dX10_gainOf_67 : decode cX10_gainOf 67 = .ok (.aload_n 0, 1) := by decide +kernel
theorem dX10_gainOf_68 : decode cX10_gainOf 68 = .ok (.getfield 22, 3) := by decide +kernel
theorem dX10_gainOf_71 : decode cX10_gainOf 71 = .ok (.iload_n 1, 1) := by decide +kernel
theorem dX10_gainOf_72 : decode cX10_gainOf 72 = .ok (.iconst 0, 1) := by decide +kernel
theorem dX10_gainOf_73 : decode cX10_gainOf 73 = .ok (.iadd, 1) := by decide +kernel
theorem dX10_gainOf_74 : decode cX10_gainOf 74 = .ok (.iaload, 1) := by decide +kernel
theorem dX10_gainOf_75 : decode cX10_gainOf 75 = .ok (.iconst 1, 1) := by decide +kernel
theorem dX10_gainOf_76 : decode cX10_gainOf 76 = .ok (.isub, 1) := by decide +kernel
theorem dX10_gainOf_77 : decode cX10_gainOf 77 = .ok (.if_icmp .ne 7, 3) := by decide +kernel
theorem dX10_gainOf_80 : decode cX10_gainOf 80 = .ok (.iconst 2, 1) := by decide +kernel
theorem dX10_gainOf_81 : decode cX10_gainOf 81 = .ok (.goto 4, 3) := by decide +kernel
theorem dX10_gainOf_84 : decode cX10_gainOf 84 = .ok (.iconst 0, 1) := by decide +kernel
theorem dX10_gainOf_85 : decode cX10_gainOf 85 = .ok (.iadd, 1) := by decide +kernel
theorem dX10_gainOf_86 : decode cX10_gainOf 86 = .ok (.ireturn, 1) := by decide +kernel
theorem dX10_gainOf_87 : decode cX10_gainOf 87 = .ok (.aload_n 0, 1) := by decide +kernel
theorem dX10_gainOf_88 : decode cX10_gainOf 88 = .ok (.getfield 22, 3) := by decide +kernel
theorem dX10_gainOf_91 : decode cX10_gainOf 91 = .ok (.iload_n 1, 1) := by decide +kernel
theorem dX10_gainOf_92 : decode cX10_gainOf 92 = .ok (.iconst 0, 1) := by decide +kernel
theorem dX10_gainOf_93 : decode cX10_gainOf 93 = .ok (.iadd, 1) := by decide +kernel
theorem dX10_gainOf_94 : decode cX10_gainOf 94 = .ok (.iaload, 1) := by decide +kernel
theorem dX10_gainOf_95 : decode cX10_gainOf 95 = .ok (.bipush 7, 2) := by decide +kernel
theorem dX10_gainOf_97 : decode cX10_gainOf 97 = .ok (.irem, 1) := by decide +kernel
theorem dX10_gainOf_98 : decode cX10_gainOf 98 = .ok (.bipush 6, 2) := by decide +kernel
theorem dX10_gainOf_100 : decode cX10_gainOf 100 = .ok (.if_icmp .ne 9, 3) := by decide +kernel
theorem dX10_gainOf_103 : decode cX10_gainOf 103 = .ok (.iconst 2, 1) := by decide +kernel
theorem dX10_gainOf_104 : decode cX10_gainOf 104 = .ok (.iload_n 3, 1) := by decide +kernel
theorem dX10_gainOf_105 : decode cX10_gainOf 105 = .ok (.imul, 1) := by decide +kernel
theorem dX10_gainOf_106 : decode cX10_gainOf 106 = .ok (.goto 4, 3) := by decide +kernel
theorem dX10_gainOf_109 : decode cX10_gainOf 109 = .ok (.iload_n 3, 1) := by decide +kernel
theorem dX10_gainOf_110 : decode cX10_gainOf 110 = .ok (.ireturn, 1) := by decide +kernel
theorem dX10_gainOf_111 : decode cX10_gainOf 111 = .ok (.iload_n 3, 1) := by decide +kernel
theorem dX10_gainOf_112 : decode cX10_gainOf 112 = .ok (.aload_n 0, 1) := by decide +kernel
theorem dX10_gainOf_113 : decode cX10_gainOf 113 = .ok (.getfield 22, 3) := by decide +kernel
theorem dX10_gainOf_116 : decode cX10_gainOf 116 = .ok (.iload_n 1, 1) := by decide +kernel
theorem dX10_gainOf_117 : decode cX10_gainOf 117 = .ok (.bipush 13, 2) := by decide +kernel
theorem dX10_gainOf_119 : decode cX10_gainOf 119 = .ok (.iadd, 1) := by decide +kernel
theorem dX10_gainOf_120 : decode cX10_gainOf 120 = .ok (.iload_n 2, 1) := by decide +kernel
theorem dX10_gainOf_121 : decode cX10_gainOf 121 = .ok (.iadd, 1) := by decide +kernel
theorem dX10_gainOf_122 : decode cX10_gainOf 122 = .ok (.iaload, 1) := by decide +kernel
theorem dX10_gainOf_123 : decode cX10_gainOf 123 = .ok (.iadd, 1) := by decide +kernel
theorem dX10_gainOf_124 : decode cX10_gainOf 124 = .ok (.ireturn, 1) := by decide +kernel
theorem dX10_gainOf_125 : decode cX10_gainOf 125 = .ok (.iload_n 3, 1) := by decide +kernel
theorem dX10_gainOf_126 : decode cX10_gainOf 126 = .ok (.ireturn, 1) := by decide +kernel
set_option maxRecDepth 20000 in
theorem ggX10_couple_X10_isCouple : GoodIn wsX10_couple wsX10_isCouple := goodIn_r _ [8, 9, 10, 11, 7, 12, 13, 14, 15, 16, 17, 18, 19, 20, 21, 22, 23, 24, 25, 26, 27, 28, 29, 30, 31, 32, 33, 34, 35] (by decide +kernel) (by decide +kernel)
set_option maxRecDepth 20000 in
theorem gX10_couple_X10_isCouple : GoodIn wsX10_couple (wsV RX10 125 RX10 yX10_isCouple wsX10_isCouple) := goodIn_app (goodIn_of _ (by decide +kernel)) ggX10_couple_X10_isCouple
theorem dX10_couple_0 : decode cX10_couple 0 = .ok (.aload_n 0, 1) := by decide +kernel
theorem dX10_couple_1 : decode cX10_couple 1 = .ok (.iload_n 1, 1) := by decide +kernel
theorem dX10_couple_2 : decode cX10_couple 2 = .ok (.invokevirtual 125, 3) := by decide +kernel
theorem dX10_couple_5 : decode cX10_couple 5 = .ok (.ifCond .ne 6, 3) := by decide +kernel
theorem dX10_couple_8 : decode cX10_couple 8 = .ok (.bipush (-2), 2) := by decide +kernel
theorem dX10_couple_10 : decode cX10_couple 10 = .ok (.ireturn, 1) := by decide +kernel
theorem dX10_couple_11 : decode cX10_couple 11 = .ok (.iload_n 2, 1) := by decide +kernel
theorem dX10_couple_12 : decode cX10_couple 12 = .ok (.tableswitch 152 0 9 #[56, 63, 70, 80, 90, 102, 112, 122, 132, 142], 56) := by decide +kernel
theorem dX10_couple_68 : decode cX10_couple 68 = .ok (.aload_n 0, 1) := by decide +kernel
theorem dX10_couple_69 : decode cX10_couple 69 = .ok (.getfield 29, 3) := by decide +kernel
theorem dX10_couple_72 : decode cX10_couple 72 = .ok (.iload_n 1, 1) := by decide +kernel
theorem dX10_couple_73 : decode cX10_couple 73 = .ok (.iaload, 1) := by decide +kernel
theorem dX10_couple_74 : decode cX10_couple 74 = .ok (.ireturn, 1) := by decide +kernel
theorem dX10_couple_75 : decode cX10_couple 75 = .ok (.aload_n 0, 1) := by decide +kernel
theorem dX10_couple_76 : decode cX10_couple 76 = .ok (.getfield 32, 3) := by decide +kernel
theorem dX10_couple_79 : decode cX10_couple 79 = .ok (.iload_n 1, 1) := by decide +kernel
theorem dX10_couple_80 : decode cX10_couple 80 = .ok (.iaload, 1) := by decide +kernel
theorem dX10_couple_81 : decode cX10_couple 81 = .ok (.ireturn, 1) := by decide +kernel
theorem dX10_couple_82 : decode cX10_couple 82 = .ok (.aload_n 0, 1) := by decide +kernel
theorem dX10_couple_83 : decode cX10_couple 83 = .ok (.getfield 22, 3) := by decide +kernel
theorem dX10_couple_86 : decode cX10_couple 86 = .ok (.bipush 7, 2) := by decide +kernel
theorem dX10_couple_88 : decode cX10_couple 88 = .ok (.iload_n 1, 1) := by decide +kernel
theorem dX10_couple_89 : decode cX10_couple 89 = .ok (.iadd, 1) := by decide +kernel
theorem dX10_couple_90 : decode cX10_couple 90 = .ok (.iaload, 1) := by decide +kernel
theorem dX10_couple_91 : decode cX10_couple 91 = .ok (.ireturn, 1) := by decide +kernel
theorem dX10_couple_92 : decode cX10_couple 92 = .ok (.aload_n 0, 1) := by decide +kernel
theorem dX10_couple_93 : decode cX10_couple 93 = .ok (.getfield 22, 3) := by decide +kernel
theorem dX10_couple_96 : decode cX10_couple 96 = .ok (.bipush 13, 2) := by decide +kernel
theorem dX10_couple_98 : decode cX10_couple 98 = .ok (.iload_n 1, 1) := by decide +kernel
theorem dX10_couple_99 : decode cX10_couple 99 = .ok (.iadd, 1) := by decide +kernel
theorem dX10_couple_100 : decode cX10_couple 100 = .ok (.iaload, 1) := by decide +kernel
theorem dX10_couple_101 : decode cX10_couple 101 = .ok (.ireturn, 1) := by decide +kernel
theorem dX10_couple_102 : decode cX10_couple 102 = .ok (.aload_n 0, 1) := by decide +kernel
theorem dX10_couple_103 : decode cX10_couple 103 = .ok (.getfield 22, 3) := by decide +kernel
theorem dX10_couple_106 : decode cX10_couple 106 = .ok (.bipush 19, 2) := by decide +kernel
theorem dX10_couple_108 : decode cX10_couple 108 = .ok (.iaload, 1) := by decide +kernel
theorem dX10_couple_109 : decode cX10_couple 109 = .ok (.iload_n 1, 1) := by decide +kernel
theorem dX10_couple_110 : decode cX10_couple 110 = .ok (.ishr, 1) := by decide +kernel
theorem dX10_couple_111 : decode cX10_couple 111 = .ok (.iconst 1, 1) := by decide +kernel
theorem dX10_couple_112 : decode cX10_couple 112 = .ok (.iand, 1) := by decide +kernel
theorem dX10_couple_113 : decode cX10_couple 113 = .ok (.ireturn, 1) := by decide +kernel
theorem dX10_couple_114 : decode cX10_couple 114 = .ok (.aload_n 0, 1) := by decide +kernel
theorem dX10_couple_115 : decode cX10_couple 115 = .ok (.getfield 22, 3) := by decide +kernel
theorem dX10_couple_118 : decode cX10_couple 118 = .ok (.bipush 20, 2) := by decide +kernel
theorem dX10_couple_120 : decode cX10_couple 120 = .ok (.iload_n 1, 1) := by decide +kernel
theorem dX10_couple_121 : decode cX10_couple 121 = .ok (.iadd, 1) := by decide +kernel
theorem dX10_couple_122 : decode cX10_couple 122 = .ok (.iaload, 1) := by decide +kernel
theorem dX10_couple_123 : decode cX10_couple 123 = .ok (.ireturn, 1) := by decide +kernel
theorem dX10_couple_124 : decode cX10_couple 124 = .ok (.aload_n 0, 1) := by decide +kernel
theorem dX10_couple_125 : decode cX10_couple 125 = .ok (.getfield 22, 3) := by decide +kernel
theorem dX10_couple_128 : decode cX10_couple 128 = .ok (.bipush 26, 2) := by decide +kernel
theorem dX10_couple_130 : decode cX10_couple 130 = .ok (.iload_n 1, 1) := by decide +kernel
theorem dX10_couple_131 : decode cX10_couple 131 = .ok (.iadd, 1) := by decide +kernel
theorem dX10_couple_132 : decode cX10_couple 132 = .ok (.iaload, 1) := by decide +kernel
theorem dX10_couple_133 : decode cX10_couple 133 = .ok (.ireturn, 1) := by decide +kernel
theorem dX10_couple_134 : decode cX10_couple 134 = .ok (.aload_n 0, 1) := by decide +kernel
theorem dX10_couple_135 : decode cX10_couple 135 = .ok (.getfield 22, 3) := by decide +kernel
theorem dX10_couple_138 : decode cX10_couple 138 = .ok (.bipush 32, 2) := by decide +kernel
theorem dX10_couple_140 : decode cX10_couple 140 = .ok (.iload_n 1, 1) := by decide +kernel
theorem dX10_couple_141 : decode cX10_couple 141 = .ok (.iadd, 1) := by decide +kernel
theorem dX10_couple_142 : decode cX10_couple 142 = .ok (.iaload, 1) := by decide +kernel
theorem dX10_couple_143 : decode cX10_couple 143 = .ok (.ireturn, 1) := by decide +kernel
theorem dX10_couple_144 : decode cX10_couple 144 = .ok (.aload_n 0, 1) := by decide +kernel
theorem dX10_couple_145 : decode cX10_couple 145 = .ok (.getfield 22, 3) := by decide +kernel
theorem dX10_couple_148 : decode cX10_couple 148 = .ok (.bipush 38, 2) := by decide +kernel
theorem dX10_couple_150 : decode cX10_couple 150 = .ok (.iload_n 1, 1) := by decide +kernel
theorem dX10_couple_151 : decode cX10_couple 151 = .ok (.iadd, 1) := by decide +kernel
theorem dX10_couple_152 : decode cX10_couple 152 = .ok (.iaload, 1) := by decide +kernel
theorem dX10_couple_153 : decode cX10_couple 153 = .ok (.ireturn, 1) := by decide +kernel
theorem dX10_couple_154 : decode cX10_couple 154 = .ok (.aload_n 0, 1) := by decide +kernel
theorem dX10_couple_155 : decode cX10_couple 155 = .ok (.getfield 22, 3) := by decide +kernel
theorem dX10_couple_158 : decode cX10_couple 158 = .ok (.bipush 44, 2) := by decide +kernel
theorem dX10_couple_160 : decode cX10_couple 160 = .ok (.iload_n 1, 1) := by decide +kernel
theorem dX10_couple_161 : decode cX10_couple 161 = .ok (.iadd, 1) := by decide +kernel
theorem dX10_couple_162 : decode cX10_couple 162 = .ok (.iaload, 1) := by decide +kernel
theorem dX10_couple_163 : decode cX10_couple 163 = .ok (.ireturn, 1) := by decide +kernel
theorem dX10_couple_164 : decode cX10_couple 164 = .ok (.bipush (-3), 2) := by decide +kernel
theorem dX10_couple_166 : decode cX10_couple 166 = .ok (.ireturn, 1) := by decide +kernel
set_option maxRecDepth 20000 in
theorem ggX10_as_X10_isCouple : GoodIn wsX10_as wsX10_isCouple := goodIn_r _ [6, 7, 8, 9, 5, 10, 17, 18, 19, 20, 21, 22, 23, 24, 25, 26, 27, 28, 29, 30, 31, 32, 33, 34, 35, 36, 37, 38, 39] (by decide +kernel) (by decide +kernel)
set_option maxRecDepth 20000 in
theorem gX10_as_X10_isCouple : GoodIn wsX10_as (wsV RX10 125 RX10 yX10_isCouple wsX10_isCouple) := goodIn_app (goodIn_of _ (by decide +kernel)) ggX10_as_X10_isCouple
set_option maxRecDepth 20000 in
theorem ggX10_as_X10_in : GoodIn wsX10_as wsX10_in := goodIn_r _ [10] (by decide +kernel) (by decide +kernel)
set_option maxRecDepth 20000 in
theorem gX10_as_X10_in : GoodIn wsX10_as (va_wsS RX10 69 yX10_in wsX10_in) := goodIn_app (goodIn_of _ (by decide +kernel)) ggX10_as_X10_in
set_option maxRecDepth 20000 in
theorem ggX10_as_X10_gainOf : GoodIn wsX10_as wsX10_gainOf := goodIn_r _ [14, 15, 1, 16, 17, 18, 19, 20, 21, 22, 23, 24, 25, 26, 27, 28, 29, 30, 31, 32, 33, 34, 35, 36, 37, 38, 39] (by decide +kernel) (by decide +kernel)
set_option maxRecDepth 20000 in
theorem gX10_as_X10_gainOf : GoodIn wsX10_as (wsV RX10 128 RX10 yX10_gainOf wsX10_gainOf) := goodIn_app (goodIn_of _ (by decide +kernel)) ggX10_as_X10_gainOf
theorem dX10_as_0 : decode cX10_as 0 = .ok (.aload_n 0, 1) := by decide +kernel
theorem dX10_as_1 : decode cX10_as 1 = .ok (.iload_n 1, 1) := by decide +kernel
theorem dX10_as_2 : decode cX10_as 2 = .ok (.invokevirtual 125, 3) := by decide +kernel
theorem dX10_as_5 : decode cX10_as 5 = .ok (.ifCond .ne 6, 3) := by decide +kernel
theorem dX10_as_8 : decode cX10_as 8 = .ok (.bipush (-2), 2) := by decide +kernel
theorem dX10_as_10 : decode cX10_as 10 = .ok (.ireturn, 1) := by decide +kernel
theorem dX10_as_11 : decode cX10_as 11 = .ok (.iload_n 2, 1) := by decide +kernel
theorem dX10_as_12 : decode cX10_as 12 = .ok (.iconst 0, 1) := by decide +kernel
theorem dX10_as_13 : decode cX10_as 13 = .ok (.iconst 4, 1) := by decide +kernel
theorem dX10_as_14 : decode cX10_as 14 = .ok (.invokestatic 69, 3) := by decide +kernel
theorem dX10_as_17 : decode cX10_as 17 = .ok (.ifCond .ne 6, 3) := by decide +kernel
theorem dX10_as_20 : decode cX10_as 20 = .ok (.bipush (-3), 2) := by decide +kernel
theorem dX10_as_22 : decode cX10_as 22 = .ok (.ireturn, 1) := by decide +kernel
theorem dX10_as_23 : decode cX10_as 23 = .ok (.iload_n 2, 1) := by decide +kernel
theorem dX10_as_24 : decode cX10_as 24 = .ok (.ifCond .eq 63, 3) := by decide +kernel
theorem dX10_as_27 : decode cX10_as 27 = .ok (.iload_n 2, 1) := by decide +kernel
theorem dX10_as_28 : decode cX10_as 28 = .ok (.iconst 4, 1) := by decide +kernel
theorem dX10_as_29 : decode cX10_as 29 = .ok (.if_icmp .ne 13, 3) := by decide +kernel
theorem dX10_as_32 : decode cX10_as 32 = .ok (.aload_n 0, 1) := by decide +kernel
theorem dX10_as_33 : decode cX10_as 33 = .ok (.getfield 29, 3) := by decide +kernel
theorem dX10_as_36 : decode cX10_as 36 = .ok (.iload_n 1, 1) := by decide +kernel
theorem dX10_as_37 : decode cX10_as 37 = .ok (.iaload, 1) := by decide +kernel
theorem dX10_as_38 : decode cX10_as 38 = .ok (.iconst 3, 1) := by decide +kernel
theorem dX10_as_39 : decode cX10_as 39 = .ok (.if_icmp .eq 48, 3) := by decide +kernel
theorem dX10_as_42 : decode cX10_as 42 = .ok (.iload_n 2, 1) := by decide +kernel
theorem dX10_as_43 : decode cX10_as 43 = .ok (.iconst 1, 1) := by decide +kernel
theorem dX10_as_44 : decode cX10_as 44 = .ok (.if_icmp .ne 13, 3) := by decide +kernel
theorem dX10_as_47 : decode cX10_as 47 = .ok (.aload_n 0, 1) := by decide +kernel
theorem dX10_as_48 : decode cX10_as 48 = .ok (.getfield 29, 3) := by decide +kernel
theorem dX10_as_51 : decode cX10_as 51 = .ok (.iload_n 1, 1) := by decide +kernel
theorem dX10_as_52 : decode cX10_as 52 = .ok (.iaload, 1) := by decide +kernel
theorem dX10_as_53 : decode cX10_as 53 = .ok (.iconst 3, 1) := by decide +kernel
theorem dX10_as_54 : decode cX10_as 54 = .ok (.if_icmp .ne 33, 3) := by decide +kernel
theorem dX10_as_57 : decode cX10_as 57 = .ok (.iload_n 2, 1) := by decide +kernel
theorem dX10_as_58 : decode cX10_as 58 = .ok (.iconst 2, 1) := by decide +kernel
theorem dX10_as_59 : decode cX10_as 59 = .ok (.if_icmp .ne 13, 3) := by decide +kernel
theorem dX10_as_62 : decode cX10_as 62 = .ok (.aload_n 0, 1) := by decide +kernel
theorem dX10_as_63 : decode cX10_as 63 = .ok (.getfield 29, 3) := by decide +kernel
theorem dX10_as_66 : decode cX10_as 66 = .ok (.iload_n 1, 1) := by decide +kernel
theorem dX10_as_67 : decode cX10_as 67 = .ok (.iaload, 1) := by decide +kernel
theorem dX10_as_68 : decode cX10_as 68 = .ok (.iconst 1, 1) := by decide +kernel
theorem dX10_as_69 : decode cX10_as 69 = .ok (.if_icmp .eq 18, 3) := by decide +kernel
theorem dX10_as_72 : decode cX10_as 72 = .ok (.iload_n 2, 1) := by decide +kernel
theorem dX10_as_73 : decode cX10_as 73 = .ok (.iconst 3, 1) := by decide +kernel
theorem dX10_as_74 : decode cX10_as 74 = .ok (.if_icmp .ne 17, 3) := by decide +kernel
theorem dX10_as_77 : decode cX10_as 77 = .ok (.aload_n 0, 1) := by decide +kernel
theorem dX10_as_78 : decode cX10_as 78 = .ok (.getfield 29, 3) := by decide +kernel
theorem dX10_as_81 : decode cX10_as 81 = .ok (.iload_n 1, 1) := by decide +kernel
theorem dX10_as_82 : decode cX10_as 82 = .ok (.iaload, 1) := by decide +kernel
theorem dX10_as_83 : decode cX10_as 83 = .ok (.iconst 2, 1) := by decide +kernel
theorem dX10_as_84 : decode cX10_as 84 = .ok (.if_icmp .ne 7, 3) := by decide +kernel
theorem dX10_as_87 : decode cX10_as 87 = .ok (.iconst 1, 1) := by decide +kernel
theorem dX10_as_88 : decode cX10_as 88 = .ok (.goto 4, 3) := by decide +kernel
theorem dX10_as_91 : decode cX10_as 91 = .ok (.iconst 0, 1) := by decide +kernel
theorem dX10_as_92 : decode cX10_as 92 = .ok (.istore_n 3, 1) := by decide +kernel
theorem dX10_as_93 : decode cX10_as 93 = .ok (.iload_n 3, 1) := by decide +kernel
theorem dX10_as_94 : decode cX10_as 94 = .ok (.ifCond .eq 12, 3) := by decide +kernel
theorem dX10_as_97 : decode cX10_as 97 = .ok (.aload_n 0, 1) := by decide +kernel
theorem dX10_as_98 : decode cX10_as 98 = .ok (.iconst 0, 1) := by decide +kernel
theorem dX10_as_99 : decode cX10_as 99 = .ok (.iload_n 1, 1) := by decide +kernel
theorem dX10_as_100 : decode cX10_as 100 = .ok (.invokevirtual 128, 3) := by decide +kernel
theorem dX10_as_103 : decode cX10_as 103 = .ok (.goto 5, 3) := by decide +kernel
theorem dX10_as_106 : decode cX10_as 106 = .ok (.bipush (-4), 2) := by decide +kernel
theorem dX10_as_108 : decode cX10_as 108 = .ok (.ireturn, 1) := by decide +kernel
set_option maxRecDepth 20000 in
theorem ggX10_term_X10_in : GoodIn wsX10_term wsX10_in := goodIn_r _ [5] (by decide +kernel) (by decide +kernel)
set_option maxRecDepth 20000 in
theorem gX10_term_X10_in : GoodIn wsX10_term (va_wsS RX10 69 yX10_in wsX10_in) := goodIn_app (goodIn_of _ (by decide +kernel)) ggX10_term_X10_in
theorem dX10_term_0 : decode cX10_term 0 = .ok (.iload_n 1, 1) := by decide +kernel
theorem dX10_term_1 : decode cX10_term 1 = .ok (.iconst 0, 1) := by decide +kernel
theorem dX10_term_2 : decode cX10_term 2 = .ok (.iconst 5, 1) := by decide +kernel
theorem dX10_term_3 : decode cX10_term 3 = .ok (.invokestatic 69, 3) := by decide +kernel
theorem dX10_term_6 : decode cX10_term 6 = .ok (.ifCond .eq 14, 3) := by decide +kernel
theorem dX10_term_9 : decode cX10_term 9 = .ok (.aload_n 0, 1) := by decide +kernel
theorem dX10_term_10 : decode cX10_term 10 = .ok (.getfield 22, 3) := by decide +kernel
theorem dX10_term_13 : decode cX10_term 13 = .ok (.iconst 1, 1) := by decide +kernel
theorem dX10_term_14 : decode cX10_term 14 = .ok (.iload_n 1, 1) := by decide +kernel
theorem dX10_term_15 : decode cX10_term 15 = .ok (.iadd, 1) := by decide +kernel
theorem dX10_term_16 : decode cX10_term 16 = .ok (.iaload, 1) := by decide +kernel
theorem dX10_term_17 : decode cX10_term 17 = .ok (.goto 5, 3) := by decide +kernel
theorem dX10_term_20 : decode cX10_term 20 = .ok (.bipush (-3), 2) := by decide +kernel
theorem dX10_term_22 : decode cX10_term 22 = .ok (.ireturn, 1) := by decide +kernel
theorem dX10_termOf_0 : decode cX10_termOf 0 = .ok (.aload_n 0, 1) := by decide +kernel
theorem dX10_termOf_1 : decode cX10_termOf 1 = .ok (.getfield 22, 3) := by decide +kernel
theorem dX10_termOf_4 : decode cX10_termOf 4 = .ok (.iload_n 1, 1) := by decide +kernel
theorem dX10_termOf_5 : decode cX10_termOf 5 = .ok (.iconst 1, 1) := by decide +kernel
theorem dX10_termOf_6 : decode cX10_termOf 6 = .ok (.iadd, 1) := by decide +kernel
theorem dX10_termOf_7 : decode cX10_termOf 7 = .ok (.iload_n 2, 1) := by decide +kernel
theorem dX10_termOf_8 : decode cX10_termOf 8 = .ok (.iadd, 1) := by decide +kernel
theorem dX10_termOf_9 : decode cX10_termOf 9 = .ok (.iaload, 1) := by decide +kernel
theorem dX10_termOf_10 : decode cX10_termOf 10 = .ok (.ireturn, 1) := by decide +kernel
set_option maxRecDepth 20000 in
theorem ggX10_claimOf_X10_has : GoodIn wsX10_claimOf wsX10_has := goodIn_r _ [6] (by decide +kernel) (by decide +kernel)
set_option maxRecDepth 20000 in
theorem gX10_claimOf_X10_has : GoodIn wsX10_claimOf (va_wsS RX10 131 yX10_has wsX10_has) := goodIn_app (goodIn_of _ (by decide +kernel)) ggX10_claimOf_X10_has
set_option maxRecDepth 20000 in
theorem ggX10_claimOf_X10_termOf : GoodIn wsX10_claimOf wsX10_termOf := goodIn_r _ [10, 1, 11, 12, 13, 14, 15, 16, 17, 18, 19, 20, 21, 22, 23, 24, 25, 26, 27, 28, 29, 30, 31, 32, 33] (by decide +kernel) (by decide +kernel)
set_option maxRecDepth 20000 in
theorem gX10_claimOf_X10_termOf : GoodIn wsX10_claimOf (wsV RX10 135 RX10 yX10_termOf wsX10_termOf) := goodIn_app (goodIn_of _ (by decide +kernel)) ggX10_claimOf_X10_termOf
theorem dX10_claimOf_0 : decode cX10_claimOf 0 = .ok (.aload_n 0, 1) := by decide +kernel
theorem dX10_claimOf_1 : decode cX10_claimOf 1 = .ok (.getfield 22, 3) := by decide +kernel
theorem dX10_claimOf_4 : decode cX10_claimOf 4 = .ok (.iload_n 1, 1) := by decide +kernel
theorem dX10_claimOf_5 : decode cX10_claimOf 5 = .ok (.bipush 19, 2) := by decide +kernel
theorem dX10_claimOf_7 : decode cX10_claimOf 7 = .ok (.iadd, 1) := by decide +kernel
theorem dX10_claimOf_8 : decode cX10_claimOf 8 = .ok (.iaload, 1) := by decide +kernel
theorem dX10_claimOf_9 : decode cX10_claimOf 9 = .ok (.iload_n 2, 1) := by decide +kernel
theorem dX10_claimOf_10 : decode cX10_claimOf 10 = .ok (.invokestatic 131, 3) := by decide +kernel
theorem dX10_claimOf_13 : decode cX10_claimOf 13 = .ok (.ifCond .ne 29, 3) := by decide +kernel
theorem dX10_claimOf_16 : decode cX10_claimOf 16 = .ok (.aload_n 0, 1) := by decide +kernel
theorem dX10_claimOf_17 : decode cX10_claimOf 17 = .ok (.getfield 29, 3) := by decide +kernel
theorem dX10_claimOf_20 : decode cX10_claimOf 20 = .ok (.iload_n 2, 1) := by decide +kernel
theorem dX10_claimOf_21 : decode cX10_claimOf 21 = .ok (.iaload, 1) := by decide +kernel
theorem dX10_claimOf_22 : decode cX10_claimOf 22 = .ok (.iconst 2, 1) := by decide +kernel
theorem dX10_claimOf_23 : decode cX10_claimOf 23 = .ok (.if_icmp .ne 23, 3) := by decide +kernel
theorem dX10_claimOf_26 : decode cX10_claimOf 26 = .ok (.aload_n 0, 1) := by decide +kernel
theorem dX10_claimOf_27 : decode cX10_claimOf 27 = .ok (.getfield 22, 3) := by decide +kernel
theorem dX10_claimOf_30 : decode cX10_claimOf 30 = .ok (.iload_n 1, 1) := by decide +kernel
theorem dX10_claimOf_31 : decode cX10_claimOf 31 = .ok (.iconst 0, 1) := by decide +kernel
theorem dX10_claimOf_32 : decode cX10_claimOf 32 = .ok (.iadd, 1) := by decide +kernel
theorem dX10_claimOf_33 : decode cX10_claimOf 33 = .ok (.iaload, 1) := by decide +kernel
theorem dX10_claimOf_34 : decode cX10_claimOf 34 = .ok (.bipush 7, 2) := by decide +kernel
theorem dX10_claimOf_36 : decode cX10_claimOf 36 = .ok (.irem, 1) := by decide +kernel
theorem dX10_claimOf_37 : decode cX10_claimOf 37 = .ok (.bipush 6, 2) := by decide +kernel
theorem dX10_claimOf_39 : decode cX10_claimOf 39 = .ok (.if_icmp .eq 7, 3) := by decide +kernel
theorem dX10_claimOf_42 : decode cX10_claimOf 42 = .ok (.iconst 1, 1) := by decide +kernel
theorem dX10_claimOf_43 : decode cX10_claimOf 43 = .ok (.goto 4, 3) := by decide +kernel
theorem dX10_claimOf_46 : decode cX10_claimOf 46 = .ok (.iconst 0, 1) := by decide +kernel
theorem dX10_claimOf_47 : decode cX10_claimOf 47 = .ok (.istore_n 3, 1) := by decide +kernel
theorem dX10_claimOf_48 : decode cX10_claimOf 48 = .ok (.aload_n 0, 1) := by decide +kernel
theorem dX10_claimOf_49 : decode cX10_claimOf 49 = .ok (.getfield 22, 3) := by decide +kernel
theorem dX10_claimOf_52 : decode cX10_claimOf 52 = .ok (.iload_n 1, 1) := by decide +kernel
theorem dX10_claimOf_53 : decode cX10_claimOf 53 = .ok (.bipush 7, 2) := by decide +kernel
theorem dX10_claimOf_55 : decode cX10_claimOf 55 = .ok (.iadd, 1) := by decide +kernel
theorem dX10_claimOf_56 : decode cX10_claimOf 56 = .ok (.iload_n 2, 1) := by decide +kernel
theorem dX10_claimOf_57 : decode cX10_claimOf 57 = .ok (.iadd, 1) := by decide +kernel
theorem dX10_claimOf_58 : decode cX10_claimOf 58 = .ok (.iaload, 1) := by decide +kernel
theorem dX10_claimOf_59 : decode cX10_claimOf 59 = .ok (.istore 4, 2) := by decide +kernel
theorem dX10_claimOf_61 : decode cX10_claimOf 61 = .ok (.iload 4, 2) := by decide +kernel
theorem dX10_claimOf_63 : decode cX10_claimOf 63 = .ok (.aload_n 0, 1) := by decide +kernel
theorem dX10_claimOf_64 : decode cX10_claimOf 64 = .ok (.iload_n 1, 1) := by decide +kernel
theorem dX10_claimOf_65 : decode cX10_claimOf 65 = .ok (.iconst 1, 1) := by decide +kernel
theorem dX10_claimOf_66 : decode cX10_claimOf 66 = .ok (.invokevirtual 135, 3) := by decide +kernel
theorem dX10_claimOf_69 : decode cX10_claimOf 69 = .ok (.if_icmp .ge 8, 3) := by decide +kernel
theorem dX10_claimOf_72 : decode cX10_claimOf 72 = .ok (.iload 4, 2) := by decide +kernel
theorem dX10_claimOf_74 : decode cX10_claimOf 74 = .ok (.goto 9, 3) := by decide +kernel
theorem dX10_claimOf_77 : decode cX10_claimOf 77 = .ok (.aload_n 0, 1) := by decide +kernel
theorem dX10_claimOf_78 : decode cX10_claimOf 78 = .ok (.iload_n 1, 1) := by decide +kernel
theorem dX10_claimOf_79 : decode cX10_claimOf 79 = .ok (.iconst 1, 1) := by decide +kernel
theorem dX10_claimOf_80 : decode cX10_claimOf 80 = .ok (.invokevirtual 135, 3) := by decide +kernel
theorem dX10_claimOf_83 : decode cX10_claimOf 83 = .ok (.istore 5, 2) := by decide +kernel
theorem dX10_claimOf_85 : decode cX10_claimOf 85 = .ok (.iload 5, 2) := by decide +kernel
theorem dX10_claimOf_87 : decode cX10_claimOf 87 = .ok (.aload_n 0, 1) := by decide +kernel
theorem dX10_claimOf_88 : decode cX10_claimOf 88 = .ok (.iload_n 1, 1) := by decide +kernel
theorem dX10_claimOf_89 : decode cX10_claimOf 89 = .ok (.iconst 0, 1) := by decide +kernel
theorem dX10_claimOf_90 : decode cX10_claimOf 90 = .ok (.invokevirtual 135, 3) := by decide +kernel
theorem dX10_claimOf_93 : decode cX10_claimOf 93 = .ok (.isub, 1) := by decide +kernel
theorem dX10_claimOf_94 : decode cX10_claimOf 94 = .ok (.istore 5, 2) := by decide +kernel
theorem dX10_claimOf_96 : decode cX10_claimOf 96 = .ok (.iload_n 3, 1) := by decide +kernel
theorem dX10_claimOf_97 : decode cX10_claimOf 97 = .ok (.ifCond .ne 8, 3) := by decide +kernel
theorem dX10_claimOf_100 : decode cX10_claimOf 100 = .ok (.iload 5, 2) := by decide +kernel
theorem dX10_claimOf_102 : decode cX10_claimOf 102 = .ok (.ifCond .ge 7, 3) := by decide +kernel
theorem dX10_claimOf_105 : decode cX10_claimOf 105 = .ok (.iconst 0, 1) := by decide +kernel
theorem dX10_claimOf_106 : decode cX10_claimOf 106 = .ok (.goto 5, 3) := by decide +kernel
theorem dX10_claimOf_109 : decode cX10_claimOf 109 = .ok (.iload 5, 2) := by decide +kernel
theorem dX10_claimOf_111 : decode cX10_claimOf 111 = .ok (.ireturn, 1) := by decide +kernel
set_option maxRecDepth 20000 in
theorem ggX10_breakUp_X10_claimOf : GoodIn wsX10_breakUp wsX10_claimOf := goodIn_r _ [6, 1, 7, 8, 9, 5, 10, 11, 12, 13, 14, 15, 16, 17, 18, 19, 20, 21, 22, 23, 24, 25, 26, 27, 28, 29, 30, 31, 32, 33, 34, 35, 36, 37] (by decide +kernel) (by decide +kernel)
set_option maxRecDepth 20000 in
theorem gX10_breakUp_X10_claimOf : GoodIn wsX10_breakUp (wsV RX10 138 RX10 yX10_claimOf wsX10_claimOf) := goodIn_app (goodIn_of _ (by decide +kernel)) ggX10_breakUp_X10_claimOf
theorem dX10_breakUp_0 : decode cX10_breakUp 0 = .ok (.aload_n 0, 1) := by decide +kernel
theorem dX10_breakUp_1 : decode cX10_breakUp 1 = .ok (.getfield 22, 3) := by decide +kernel
theorem dX10_breakUp_4 : decode cX10_breakUp 4 = .ok (.iload_n 1, 1) := by decide +kernel
theorem dX10_breakUp_5 : decode cX10_breakUp 5 = .ok (.bipush 38, 2) := by decide +kernel
theorem dX10_breakUp_7 : decode cX10_breakUp 7 = .ok (.iadd, 1) := by decide +kernel
theorem dX10_breakUp_8 : decode cX10_breakUp 8 = .ok (.iload_n 2, 1) := by decide +kernel
theorem dX10_breakUp_9 : decode cX10_breakUp 9 = .ok (.iadd, 1) := by decide +kernel
theorem dX10_breakUp_10 : decode cX10_breakUp 10 = .ok (.dup2, 1) := by decide +kernel
theorem dX10_breakUp_11 : decode cX10_breakUp 11 = .ok (.iaload, 1) := by decide +kernel
theorem dX10_breakUp_12 : decode cX10_breakUp 12 = .ok (.aload_n 0, 1) := by decide +kernel
theorem dX10_breakUp_13 : decode cX10_breakUp 13 = .ok (.iload_n 1, 1) := by decide +kernel
theorem dX10_breakUp_14 : decode cX10_breakUp 14 = .ok (.iload_n 2, 1) := by decide +kernel
theorem dX10_breakUp_15 : decode cX10_breakUp 15 = .ok (.invokevirtual 138, 3) := by decide +kernel
theorem dX10_breakUp_18 : decode cX10_breakUp 18 = .ok (.iadd, 1) := by decide +kernel
theorem dX10_breakUp_19 : decode cX10_breakUp 19 = .ok (.iastore, 1) := by decide +kernel
theorem dX10_breakUp_20 : decode cX10_breakUp 20 = .ok (.aload_n 0, 1) := by decide +kernel
theorem dX10_breakUp_21 : decode cX10_breakUp 21 = .ok (.getfield 22, 3) := by decide +kernel
theorem dX10_breakUp_24 : decode cX10_breakUp 24 = .ok (.iload_n 1, 1) := by decide +kernel
theorem dX10_breakUp_25 : decode cX10_breakUp 25 = .ok (.bipush 20, 2) := by decide +kernel
theorem dX10_breakUp_27 : decode cX10_breakUp 27 = .ok (.iadd, 1) := by decide +kernel
theorem dX10_breakUp_28 : decode cX10_breakUp 28 = .ok (.iload_n 2, 1) := by decide +kernel
theorem dX10_breakUp_29 : decode cX10_breakUp 29 = .ok (.iadd, 1) := by decide +kernel
theorem dX10_breakUp_30 : decode cX10_breakUp 30 = .ok (.dup2, 1) := by decide +kernel
theorem dX10_breakUp_31 : decode cX10_breakUp 31 = .ok (.iaload, 1) := by decide +kernel
theorem dX10_breakUp_32 : decode cX10_breakUp 32 = .ok (.iconst 1, 1) := by decide +kernel
theorem dX10_breakUp_33 : decode cX10_breakUp 33 = .ok (.iadd, 1) := by decide +kernel
theorem dX10_breakUp_34 : decode cX10_breakUp 34 = .ok (.iastore, 1) := by decide +kernel
theorem dX10_breakUp_35 : decode cX10_breakUp 35 = .ok (.aload_n 0, 1) := by decide +kernel
theorem dX10_breakUp_36 : decode cX10_breakUp 36 = .ok (.getfield 22, 3) := by decide +kernel
theorem dX10_breakUp_39 : decode cX10_breakUp 39 = .ok (.iload_n 1, 1) := by decide +kernel
theorem dX10_breakUp_40 : decode cX10_breakUp 40 = .ok (.bipush 44, 2) := by decide +kernel
theorem dX10_breakUp_42 : decode cX10_breakUp 42 = .ok (.iadd, 1) := by decide +kernel
theorem dX10_breakUp_43 : decode cX10_breakUp 43 = .ok (.iload_n 2, 1) := by decide +kernel
theorem dX10_breakUp_44 : decode cX10_breakUp 44 = .ok (.iadd, 1) := by decide +kernel
theorem dX10_breakUp_45 : decode cX10_breakUp 45 = .ok (.aload_n 0, 1) := by decide +kernel
theorem dX10_breakUp_46 : decode cX10_breakUp 46 = .ok (.getfield 22, 3) := by decide +kernel
theorem dX10_breakUp_49 : decode cX10_breakUp 49 = .ok (.iload_n 1, 1) := by decide +kernel
theorem dX10_breakUp_50 : decode cX10_breakUp 50 = .ok (.iconst 0, 1) := by decide +kernel
theorem dX10_breakUp_51 : decode cX10_breakUp 51 = .ok (.iadd, 1) := by decide +kernel
theorem dX10_breakUp_52 : decode cX10_breakUp 52 = .ok (.iaload, 1) := by decide +kernel
theorem dX10_breakUp_53 : decode cX10_breakUp 53 = .ok (.iastore, 1) := by decide +kernel
theorem dX10_breakUp_54 : decode cX10_breakUp 54 = .ok (.aload_n 0, 1) := by decide +kernel
theorem dX10_breakUp_55 : decode cX10_breakUp 55 = .ok (.getfield 22, 3) := by decide +kernel
theorem dX10_breakUp_58 : decode cX10_breakUp 58 = .ok (.iload_n 1, 1) := by decide +kernel
theorem dX10_breakUp_59 : decode cX10_breakUp 59 = .ok (.bipush 7, 2) := by decide +kernel
theorem dX10_breakUp_61 : decode cX10_breakUp 61 = .ok (.iadd, 1) := by decide +kernel
theorem dX10_breakUp_62 : decode cX10_breakUp 62 = .ok (.iload_n 2, 1) := by decide +kernel
theorem dX10_breakUp_63 : decode cX10_breakUp 63 = .ok (.iadd, 1) := by decide +kernel
theorem dX10_breakUp_64 : decode cX10_breakUp 64 = .ok (.iconst 0, 1) := by decide +kernel
theorem dX10_breakUp_65 : decode cX10_breakUp 65 = .ok (.iastore, 1) := by decide +kernel
theorem dX10_breakUp_66 : decode cX10_breakUp 66 = .ok (.aload_n 0, 1) := by decide +kernel
theorem dX10_breakUp_67 : decode cX10_breakUp 67 = .ok (.getfield 22, 3) := by decide +kernel
theorem dX10_breakUp_70 : decode cX10_breakUp 70 = .ok (.iload_n 1, 1) := by decide +kernel
theorem dX10_breakUp_71 : decode cX10_breakUp 71 = .ok (.bipush 13, 2) := by decide +kernel
theorem dX10_breakUp_73 : decode cX10_breakUp 73 = .ok (.iadd, 1) := by decide +kernel
theorem dX10_breakUp_74 : decode cX10_breakUp 74 = .ok (.iload_n 2, 1) := by decide +kernel
theorem dX10_breakUp_75 : decode cX10_breakUp 75 = .ok (.iadd, 1) := by decide +kernel
theorem dX10_breakUp_76 : decode cX10_breakUp 76 = .ok (.iconst 0, 1) := by decide +kernel
theorem dX10_breakUp_77 : decode cX10_breakUp 77 = .ok (.iastore, 1) := by decide +kernel
theorem dX10_breakUp_78 : decode cX10_breakUp 78 = .ok (.return_, 1) := by decide +kernel
set_option maxRecDepth 20000 in
theorem ggX10_quarrel_X10_termOf : GoodIn wsX10_quarrel wsX10_termOf := goodIn_r _ [7, 2, 8, 9, 10, 11, 12, 13, 14, 15, 16, 17, 18, 19, 20, 21, 22, 23, 24, 25, 26, 27, 28, 29, 30] (by decide +kernel) (by decide +kernel)
set_option maxRecDepth 20000 in
theorem gX10_quarrel_X10_termOf : GoodIn wsX10_quarrel (wsV RX10 135 RX10 yX10_termOf wsX10_termOf) := goodIn_app (goodIn_of _ (by decide +kernel)) ggX10_quarrel_X10_termOf
theorem dX10_quarrel_0 : decode cX10_quarrel 0 = .ok (.aload_n 0, 1) := by decide +kernel
theorem dX10_quarrel_1 : decode cX10_quarrel 1 = .ok (.getfield 29, 3) := by decide +kernel
theorem dX10_quarrel_4 : decode cX10_quarrel 4 = .ok (.iload_n 2, 1) := by decide +kernel
theorem dX10_quarrel_5 : decode cX10_quarrel 5 = .ok (.iaload, 1) := by decide +kernel
theorem dX10_quarrel_6 : decode cX10_quarrel 6 = .ok (.iconst 3, 1) := by decide +kernel
theorem dX10_quarrel_7 : decode cX10_quarrel 7 = .ok (.if_icmp .ne 53, 3) := by decide +kernel
theorem dX10_quarrel_10 : decode cX10_quarrel 10 = .ok (.aload_n 0, 1) := by decide +kernel
theorem dX10_quarrel_11 : decode cX10_quarrel 11 = .ok (.getfield 22, 3) := by decide +kernel
theorem dX10_quarrel_14 : decode cX10_quarrel 14 = .ok (.iload_n 1, 1) := by decide +kernel
theorem dX10_quarrel_15 : decode cX10_quarrel 15 = .ok (.bipush 13, 2) := by decide +kernel
theorem dX10_quarrel_17 : decode cX10_quarrel 17 = .ok (.iadd, 1) := by decide +kernel
theorem dX10_quarrel_18 : decode cX10_quarrel 18 = .ok (.iload_n 2, 1) := by decide +kernel
theorem dX10_quarrel_19 : decode cX10_quarrel 19 = .ok (.iadd, 1) := by decide +kernel
theorem dX10_quarrel_20 : decode cX10_quarrel 20 = .ok (.dup2, 1) := by decide +kernel
theorem dX10_quarrel_21 : decode cX10_quarrel 21 = .ok (.iaload, 1) := by decide +kernel
theorem dX10_quarrel_22 : decode cX10_quarrel 22 = .ok (.iconst 1, 1) := by decide +kernel
theorem dX10_quarrel_23 : decode cX10_quarrel 23 = .ok (.iadd, 1) := by decide +kernel
theorem dX10_quarrel_24 : decode cX10_quarrel 24 = .ok (.iastore, 1) := by decide +kernel
theorem dX10_quarrel_25 : decode cX10_quarrel 25 = .ok (.aload_n 0, 1) := by decide +kernel
theorem dX10_quarrel_26 : decode cX10_quarrel 26 = .ok (.getfield 22, 3) := by decide +kernel
theorem dX10_quarrel_29 : decode cX10_quarrel 29 = .ok (.iload_n 1, 1) := by decide +kernel
theorem dX10_quarrel_30 : decode cX10_quarrel 30 = .ok (.bipush 19, 2) := by decide +kernel
theorem dX10_quarrel_32 : decode cX10_quarrel 32 = .ok (.iadd, 1) := by decide +kernel
theorem dX10_quarrel_33 : decode cX10_quarrel 33 = .ok (.dup2, 1) := by decide +kernel
theorem dX10_quarrel_34 : decode cX10_quarrel 34 = .ok (.iaload, 1) := by decide +kernel
theorem dX10_quarrel_35 : decode cX10_quarrel 35 = .ok (.aload_n 0, 1) := by decide +kernel
theorem dX10_quarrel_36 : decode cX10_quarrel 36 = .ok (.getfield 22, 3) := by decide +kernel
theorem dX10_quarrel_39 : decode cX10_quarrel 39 = .ok (.iload_n 1, 1) := by decide +kernel
theorem dX10_quarrel_40 : decode cX10_quarrel 40 = .ok (.bipush 13, 2) := by decide +kernel
theorem dX10_quarrel_42 : decode cX10_quarrel 42 = .ok (.iadd, 1) := by decide +kernel
theorem dX10_quarrel_43 : decode cX10_quarrel 43 = .ok (.iload_n 2, 1) := by decide +kernel
theorem dX10_quarrel_44 : decode cX10_quarrel 44 = .ok (.iadd, 1) := by decide +kernel
theorem dX10_quarrel_45 : decode cX10_quarrel 45 = .ok (.iaload, 1) := by decide +kernel
theorem dX10_quarrel_46 : decode cX10_quarrel 46 = .ok (.iconst 3, 1) := by decide +kernel
theorem dX10_quarrel_47 : decode cX10_quarrel 47 = .ok (.if_icmp .ne 9, 3) := by decide +kernel
theorem dX10_quarrel_50 : decode cX10_quarrel 50 = .ok (.iconst 1, 1) := by decide +kernel
theorem dX10_quarrel_51 : decode cX10_quarrel 51 = .ok (.iload_n 2, 1) := by decide +kernel
theorem dX10_quarrel_52 : decode cX10_quarrel 52 = .ok (.ishl, 1) := by decide +kernel
theorem dX10_quarrel_53 : decode cX10_quarrel 53 = .ok (.goto 4, 3) := by decide +kernel
theorem dX10_quarrel_56 : decode cX10_quarrel 56 = .ok (.iconst 0, 1) := by decide +kernel
theorem dX10_quarrel_57 : decode cX10_quarrel 57 = .ok (.ior, 1) := by decide +kernel
theorem dX10_quarrel_58 : decode cX10_quarrel 58 = .ok (.iastore, 1) := by decide +kernel
theorem dX10_quarrel_59 : decode cX10_quarrel 59 = .ok (.return_, 1) := by decide +kernel
theorem dX10_quarrel_60 : decode cX10_quarrel 60 = .ok (.aload_n 0, 1) := by decide +kernel
theorem dX10_quarrel_61 : decode cX10_quarrel 61 = .ok (.getfield 22, 3) := by decide +kernel
theorem dX10_quarrel_64 : decode cX10_quarrel 64 = .ok (.iload_n 1, 1) := by decide +kernel
theorem dX10_quarrel_65 : decode cX10_quarrel 65 = .ok (.bipush 44, 2) := by decide +kernel
theorem dX10_quarrel_67 : decode cX10_quarrel 67 = .ok (.iadd, 1) := by decide +kernel
theorem dX10_quarrel_68 : decode cX10_quarrel 68 = .ok (.iload_n 2, 1) := by decide +kernel
theorem dX10_quarrel_69 : decode cX10_quarrel 69 = .ok (.iadd, 1) := by decide +kernel
theorem dX10_quarrel_70 : decode cX10_quarrel 70 = .ok (.iaload, 1) := by decide +kernel
theorem dX10_quarrel_71 : decode cX10_quarrel 71 = .ok (.istore_n 3, 1) := by decide +kernel
theorem dX10_quarrel_72 : decode cX10_quarrel 72 = .ok (.aload_n 0, 1) := by decide +kernel
theorem dX10_quarrel_73 : decode cX10_quarrel 73 = .ok (.getfield 22, 3) := by decide +kernel
theorem dX10_quarrel_76 : decode cX10_quarrel 76 = .ok (.iload_n 1, 1) := by decide +kernel
theorem dX10_quarrel_77 : decode cX10_quarrel 77 = .ok (.iconst 0, 1) := by decide +kernel
theorem dX10_quarrel_78 : decode cX10_quarrel 78 = .ok (.iadd, 1) := by decide +kernel
theorem dX10_quarrel_79 : decode cX10_quarrel 79 = .ok (.iaload, 1) := by decide +kernel
theorem dX10_quarrel_80 : decode cX10_quarrel 80 = .ok (.istore 4, 2) := by decide +kernel
theorem dX10_quarrel_82 : decode cX10_quarrel 82 = .ok (.iload_n 3, 1) := by decide +kernel
theorem dX10_quarrel_83 : decode cX10_quarrel 83 = .ok (.iconst (-1), 1) := by decide +kernel
theorem dX10_quarrel_84 : decode cX10_quarrel 84 = .ok (.if_icmp .ne 18, 3) := by decide +kernel
theorem dX10_quarrel_87 : decode cX10_quarrel 87 = .ok (.iload 4, 2) := by decide +kernel
theorem dX10_quarrel_89 : decode cX10_quarrel 89 = .ok (.bipush 10, 2) := by decide +kernel
theorem dX10_quarrel_91 : decode cX10_quarrel 91 = .ok (.if_icmp .lt 7, 3) := by decide +kernel
theorem dX10_quarrel_94 : decode cX10_quarrel 94 = .ok (.iconst 1, 1) := by decide +kernel
theorem dX10_quarrel_95 : decode cX10_quarrel 95 = .ok (.goto 21, 3) := by decide +kernel
theorem dX10_quarrel_98 : decode cX10_quarrel 98 = .ok (.iconst 0, 1) := by decide +kernel
theorem dX10_quarrel_99 : decode cX10_quarrel 99 = .ok (.goto 17, 3) := by decide +kernel
theorem dX10_quarrel_102 : decode cX10_quarrel 102 = .ok (.iload 4, 2) := by decide +kernel
theorem dX10_quarrel_104 : decode cX10_quarrel 104 = .ok (.iload_n 3, 1) := by decide +kernel
theorem dX10_quarrel_105 : decode cX10_quarrel 105 = .ok (.isub, 1) := by decide +kernel
theorem dX10_quarrel_106 : decode cX10_quarrel 106 = .ok (.bipush 10, 2) := by decide +kernel
theorem dX10_quarrel_108 : decode cX10_quarrel 108 = .ok (.if_icmp .lt 7, 3) := by decide +kernel
theorem dX10_quarrel_111 : decode cX10_quarrel 111 = .ok (.iconst 1, 1) := by decide +kernel
theorem dX10_quarrel_112 : decode cX10_quarrel 112 = .ok (.goto 4, 3) := by decide +kernel
theorem dX10_quarrel_115 : decode cX10_quarrel 115 = .ok (.iconst 0, 1) := by decide +kernel
theorem dX10_quarrel_116 : decode cX10_quarrel 116 = .ok (.istore 5, 2) := by decide +kernel
theorem dX10_quarrel_118 : decode cX10_quarrel 118 = .ok (.aload_n 0, 1) := by decide +kernel
theorem dX10_quarrel_119 : decode cX10_quarrel 119 = .ok (.getfield 22, 3) := by decide +kernel
theorem dX10_quarrel_122 : decode cX10_quarrel 122 = .ok (.iload_n 1, 1) := by decide +kernel
theorem dX10_quarrel_123 : decode cX10_quarrel 123 = .ok (.bipush 32, 2) := by decide +kernel
theorem dX10_quarrel_125 : decode cX10_quarrel 125 = .ok (.iadd, 1) := by decide +kernel
theorem dX10_quarrel_126 : decode cX10_quarrel 126 = .ok (.iload_n 2, 1) := by decide +kernel
theorem dX10_quarrel_127 : decode cX10_quarrel 127 = .ok (.iadd, 1) := by decide +kernel
theorem dX10_quarrel_128 : decode cX10_quarrel 128 = .ok (.dup2, 1) := by decide +kernel
theorem dX10_quarrel_129 : decode cX10_quarrel 129 = .ok (.iaload, 1) := by decide +kernel
theorem dX10_quarrel_130 : decode cX10_quarrel 130 = .ok (.iload 5, 2) := by decide +kernel
theorem dX10_quarrel_132 : decode cX10_quarrel 132 = .ok (.ifCond .eq 14, 3) := by decide +kernel
theorem dX10_quarrel_135 : decode cX10_quarrel 135 = .ok (.aload_n 0, 1) := by decide +kernel
theorem dX10_quarrel_136 : decode cX10_quarrel 136 = .ok (.iload_n 1, 1) := by decide +kernel
theorem dX10_quarrel_137 : decode cX10_quarrel 137 = .ok (.iconst 2, 1) := by decide +kernel
theorem dX10_quarrel_138 : decode cX10_quarrel 138 = .ok (.invokevirtual 135, 3) := by decide +kernel
theorem dX10_quarrel_141 : decode cX10_quarrel 141 = .ok (.iconst 2, 1) := by decide +kernel
theorem dX10_quarrel_142 : decode cX10_quarrel 142 = .ok (.idiv, 1) := by decide +kernel
theorem dX10_quarrel_143 : decode cX10_quarrel 143 = .ok (.goto 9, 3) := by decide +kernel
theorem dX10_quarrel_146 : decode cX10_quarrel 146 = .ok (.aload_n 0, 1) := by decide +kernel
theorem dX10_quarrel_147 : decode cX10_quarrel 147 = .ok (.iload_n 1, 1) := by decide +kernel
theorem dX10_quarrel_148 : decode cX10_quarrel 148 = .ok (.iconst 2, 1) := by decide +kernel
theorem dX10_quarrel_149 : decode cX10_quarrel 149 = .ok (.invokevirtual 135, 3) := by decide +kernel
theorem dX10_quarrel_152 : decode cX10_quarrel 152 = .ok (.iadd, 1) := by decide +kernel
theorem dX10_quarrel_153 : decode cX10_quarrel 153 = .ok (.iastore, 1) := by decide +kernel
theorem dX10_quarrel_154 : decode cX10_quarrel 154 = .ok (.aload_n 0, 1) := by decide +kernel
theorem dX10_quarrel_155 : decode cX10_quarrel 155 = .ok (.getfield 22, 3) := by decide +kernel
theorem dX10_quarrel_158 : decode cX10_quarrel 158 = .ok (.iload_n 1, 1) := by decide +kernel
theorem dX10_quarrel_159 : decode cX10_quarrel 159 = .ok (.bipush 26, 2) := by decide +kernel
theorem dX10_quarrel_161 : decode cX10_quarrel 161 = .ok (.iadd, 1) := by decide +kernel
theorem dX10_quarrel_162 : decode cX10_quarrel 162 = .ok (.iload_n 2, 1) := by decide +kernel
theorem dX10_quarrel_163 : decode cX10_quarrel 163 = .ok (.iadd, 1) := by decide +kernel
theorem dX10_quarrel_164 : decode cX10_quarrel 164 = .ok (.dup2, 1) := by decide +kernel
theorem dX10_quarrel_165 : decode cX10_quarrel 165 = .ok (.iaload, 1) := by decide +kernel
theorem dX10_quarrel_166 : decode cX10_quarrel 166 = .ok (.iconst 1, 1) := by decide +kernel
theorem dX10_quarrel_167 : decode cX10_quarrel 167 = .ok (.iadd, 1) := by decide +kernel
theorem dX10_quarrel_168 : decode cX10_quarrel 168 = .ok (.iastore, 1) := by decide +kernel
theorem dX10_quarrel_169 : decode cX10_quarrel 169 = .ok (.aload_n 0, 1) := by decide +kernel
theorem dX10_quarrel_170 : decode cX10_quarrel 170 = .ok (.getfield 22, 3) := by decide +kernel
theorem dX10_quarrel_173 : decode cX10_quarrel 173 = .ok (.iload_n 1, 1) := by decide +kernel
theorem dX10_quarrel_174 : decode cX10_quarrel 174 = .ok (.bipush 50, 2) := by decide +kernel
theorem dX10_quarrel_176 : decode cX10_quarrel 176 = .ok (.iadd, 1) := by decide +kernel
theorem dX10_quarrel_177 : decode cX10_quarrel 177 = .ok (.iload_n 2, 1) := by decide +kernel
theorem dX10_quarrel_178 : decode cX10_quarrel 178 = .ok (.iadd, 1) := by decide +kernel
theorem dX10_quarrel_179 : decode cX10_quarrel 179 = .ok (.iload 4, 2) := by decide +kernel
theorem dX10_quarrel_181 : decode cX10_quarrel 181 = .ok (.iastore, 1) := by decide +kernel
theorem dX10_quarrel_182 : decode cX10_quarrel 182 = .ok (.aload_n 0, 1) := by decide +kernel
theorem dX10_quarrel_183 : decode cX10_quarrel 183 = .ok (.getfield 22, 3) := by decide +kernel
theorem dX10_quarrel_186 : decode cX10_quarrel 186 = .ok (.iload_n 1, 1) := by decide +kernel
theorem dX10_quarrel_187 : decode cX10_quarrel 187 = .ok (.bipush 7, 2) := by decide +kernel
theorem dX10_quarrel_189 : decode cX10_quarrel 189 = .ok (.iadd, 1) := by decide +kernel
theorem dX10_quarrel_190 : decode cX10_quarrel 190 = .ok (.iload_n 2, 1) := by decide +kernel
theorem dX10_quarrel_191 : decode cX10_quarrel 191 = .ok (.iadd, 1) := by decide +kernel
theorem dX10_quarrel_192 : decode cX10_quarrel 192 = .ok (.iaload, 1) := by decide +kernel
theorem dX10_quarrel_193 : decode cX10_quarrel 193 = .ok (.aload_n 0, 1) := by decide +kernel
theorem dX10_quarrel_194 : decode cX10_quarrel 194 = .ok (.iload_n 1, 1) := by decide +kernel
theorem dX10_quarrel_195 : decode cX10_quarrel 195 = .ok (.iconst 5, 1) := by decide +kernel
theorem dX10_quarrel_196 : decode cX10_quarrel 196 = .ok (.invokevirtual 135, 3) := by decide +kernel
theorem dX10_quarrel_199 : decode cX10_quarrel 199 = .ok (.isub, 1) := by decide +kernel
theorem dX10_quarrel_200 : decode cX10_quarrel 200 = .ok (.istore 6, 2) := by decide +kernel
theorem dX10_quarrel_202 : decode cX10_quarrel 202 = .ok (.aload_n 0, 1) := by decide +kernel
theorem dX10_quarrel_203 : decode cX10_quarrel 203 = .ok (.getfield 22, 3) := by decide +kernel
theorem dX10_quarrel_206 : decode cX10_quarrel 206 = .ok (.iload_n 1, 1) := by decide +kernel
theorem dX10_quarrel_207 : decode cX10_quarrel 207 = .ok (.bipush 7, 2) := by decide +kernel
theorem dX10_quarrel_209 : decode cX10_quarrel 209 = .ok (.iadd, 1) := by decide +kernel
theorem dX10_quarrel_210 : decode cX10_quarrel 210 = .ok (.iload_n 2, 1) := by decide +kernel
theorem dX10_quarrel_211 : decode cX10_quarrel 211 = .ok (.iadd, 1) := by decide +kernel
theorem dX10_quarrel_212 : decode cX10_quarrel 212 = .ok (.iload 6, 2) := by decide +kernel
theorem dX10_quarrel_214 : decode cX10_quarrel 214 = .ok (.ifCond .ge 7, 3) := by decide +kernel
theorem dX10_quarrel_217 : decode cX10_quarrel 217 = .ok (.iconst 0, 1) := by decide +kernel
theorem dX10_quarrel_218 : decode cX10_quarrel 218 = .ok (.goto 5, 3) := by decide +kernel
theorem dX10_quarrel_221 : decode cX10_quarrel 221 = .ok (.iload 6, 2) := by decide +kernel
theorem dX10_quarrel_223 : decode cX10_quarrel 223 = .ok (.iastore, 1) := by decide +kernel
theorem dX10_quarrel_224 : decode cX10_quarrel 224 = .ok (.return_, 1) := by decide +kernel
theorem dX10_strainMore_0 : decode cX10_strainMore 0 = .ok (.aload_n 0, 1) := by decide +kernel
theorem dX10_strainMore_1 : decode cX10_strainMore 1 = .ok (.getfield 22, 3) := by decide +kernel
theorem dX10_strainMore_4 : decode cX10_strainMore 4 = .ok (.iload_n 1, 1) := by decide +kernel
theorem dX10_strainMore_5 : decode cX10_strainMore 5 = .ok (.bipush 7, 2) := by decide +kernel
theorem dX10_strainMore_7 : decode cX10_strainMore 7 = .ok (.iadd, 1) := by decide +kernel
theorem dX10_strainMore_8 : decode cX10_strainMore 8 = .ok (.iload_n 2, 1) := by decide +kernel
theorem dX10_strainMore_9 : decode cX10_strainMore 9 = .ok (.iadd, 1) := by decide +kernel
theorem dX10_strainMore_10 : decode cX10_strainMore 10 = .ok (.iaload, 1) := by decide +kernel
theorem dX10_strainMore_11 : decode cX10_strainMore 11 = .ok (.iload_n 3, 1) := by decide +kernel
theorem dX10_strainMore_12 : decode cX10_strainMore 12 = .ok (.iadd, 1) := by decide +kernel
theorem dX10_strainMore_13 : decode cX10_strainMore 13 = .ok (.istore 4, 2) := by decide +kernel
theorem dX10_strainMore_15 : decode cX10_strainMore 15 = .ok (.aload_n 0, 1) := by decide +kernel
theorem dX10_strainMore_16 : decode cX10_strainMore 16 = .ok (.getfield 22, 3) := by decide +kernel
theorem dX10_strainMore_19 : decode cX10_strainMore 19 = .ok (.iload_n 1, 1) := by decide +kernel
theorem dX10_strainMore_20 : decode cX10_strainMore 20 = .ok (.bipush 7, 2) := by decide +kernel
theorem dX10_strainMore_22 : decode cX10_strainMore 22 = .ok (.iadd, 1) := by decide +kernel
theorem dX10_strainMore_23 : decode cX10_strainMore 23 = .ok (.iload_n 2, 1) := by decide +kernel
theorem dX10_strainMore_24 : decode cX10_strainMore 24 = .ok (.iadd, 1) := by decide +kernel
theorem dX10_strainMore_25 : decode cX10_strainMore 25 = .ok (.iload 4, 2) := by decide +kernel
theorem dX10_strainMore_27 : decode cX10_strainMore 27 = .ok (.bipush 99, 2) := by decide +kernel
theorem dX10_strainMore_29 : decode cX10_strainMore 29 = .ok (.if_icmp .le 8, 3) := by decide +kernel
theorem dX10_strainMore_32 : decode cX10_strainMore 32 = .ok (.bipush 99, 2) := by decide +kernel
theorem dX10_strainMore_34 : decode cX10_strainMore 34 = .ok (.goto 5, 3) := by decide +kernel
theorem dX10_strainMore_37 : decode cX10_strainMore 37 = .ok (.iload 4, 2) := by decide +kernel
theorem dX10_strainMore_39 : decode cX10_strainMore 39 = .ok (.iastore, 1) := by decide +kernel
theorem dX10_strainMore_40 : decode cX10_strainMore 40 = .ok (.return_, 1) := by decide +kernel
set_option maxRecDepth 20000 in
theorem ggX10_pass_X10_gainOf : GoodIn wsX10_pass wsX10_gainOf := goodIn_r _ [7, 8, 9, 2, 33, 34, 35, 36, 37, 38, 39, 40, 41, 42, 43, 44, 45, 46, 47, 48, 49, 50, 51, 52, 53, 54, 55] (by decide +kernel) (by decide +kernel)
set_option maxRecDepth 20000 in
theorem gX10_pass_X10_gainOf : GoodIn wsX10_pass (wsV RX10 128 RX10 yX10_gainOf wsX10_gainOf) := goodIn_app (goodIn_of _ (by decide +kernel)) ggX10_pass_X10_gainOf
set_option maxRecDepth 20000 in
theorem ggX10_pass_X10_strainMore : GoodIn wsX10_pass wsX10_strainMore := goodIn_r _ [13, 2, 33, 34, 35, 36, 37, 38, 39, 40, 41, 42, 43, 44, 45, 46, 47, 48, 49, 50, 51, 52, 53, 54, 55] (by decide +kernel) (by decide +kernel)
set_option maxRecDepth 20000 in
theorem gX10_pass_X10_strainMore : GoodIn wsX10_pass (wsV RX10 141 RX10 yX10_strainMore wsX10_strainMore) := goodIn_app (goodIn_of _ (by decide +kernel)) ggX10_pass_X10_strainMore
set_option maxRecDepth 20000 in
theorem ggX10_pass_X10_termOf : GoodIn wsX10_pass wsX10_termOf := goodIn_r _ [17, 2, 33, 34, 35, 36, 37, 38, 39, 40, 41, 42, 43, 44, 45, 46, 47, 48, 49, 50, 51, 52, 53, 54, 55] (by decide +kernel) (by decide +kernel)
set_option maxRecDepth 20000 in
theorem gX10_pass_X10_termOf : GoodIn wsX10_pass (wsV RX10 135 RX10 yX10_termOf wsX10_termOf) := goodIn_app (goodIn_of _ (by decide +kernel)) ggX10_pass_X10_termOf
set_option maxRecDepth 20000 in
theorem ggX10_pass_X10_breakUp : GoodIn wsX10_pass wsX10_breakUp := goodIn_r _ [21, 2, 22, 23, 24, 6, 25, 9, 26, 27, 28, 14, 15, 16, 17, 33, 34, 35, 36, 37, 38, 39, 40, 41, 42, 43, 44, 45, 46, 47, 48, 49, 50, 51, 52, 53, 54, 55] (by decide +kernel) (by decide +kernel)
set_option maxRecDepth 20000 in
theorem gX10_pass_X10_breakUp : GoodIn wsX10_pass (wsV RX10 145 RX10 yX10_breakUp wsX10_breakUp) := goodIn_app (goodIn_of _ (by decide +kernel)) ggX10_pass_X10_breakUp
set_option maxRecDepth 20000 in
theorem ggX10_pass_X10_quarrel : GoodIn wsX10_pass wsX10_quarrel := goodIn_r _ [32, 9, 2, 14, 15, 16, 6, 17, 33, 34, 35, 36, 37, 38, 39, 40, 41, 42, 43, 44, 45, 46, 47, 48, 49, 50, 51, 52, 53, 54, 55] (by decide +kernel) (by decide +kernel)
set_option maxRecDepth 20000 in
theorem gX10_pass_X10_quarrel : GoodIn wsX10_pass (wsV RX10 149 RX10 yX10_quarrel wsX10_quarrel) := goodIn_app (goodIn_of _ (by decide +kernel)) ggX10_pass_X10_quarrel
theorem dX10_pass_0 : decode cX10_pass 0 = .ok (.iconst 0, 1) := by decide +kernel
theorem dX10_pass_1 : decode cX10_pass 1 = .ok (.istore_n 2, 1) := by decide +kernel
theorem dX10_pass_2 : decode cX10_pass 2 = .ok (.iconst 0, 1) := by decide +kernel
theorem dX10_pass_3 : decode cX10_pass 3 = .ok (.istore_n 3, 1) := by decide +kernel
theorem dX10_pass_4 : decode cX10_pass 4 = .ok (.iload_n 3, 1) := by decide +kernel
theorem dX10_pass_5 : decode cX10_pass 5 = .ok (.aload_n 0, 1) := by decide +kernel
theorem dX10_pass_6 : decode cX10_pass 6 = .ok (.getfield 59, 3) := by decide +kernel
theorem dX10_pass_9 : decode cX10_pass 9 = .ok (.if_icmp .ge 92, 3) := by decide +kernel
theorem dX10_pass_12 : decode cX10_pass 12 = .ok (.aload_n 0, 1) := by decide +kernel
theorem dX10_pass_13 : decode cX10_pass 13 = .ok (.iload_n 1, 1) := by decide +kernel
theorem dX10_pass_14 : decode cX10_pass 14 = .ok (.iload_n 3, 1) := by decide +kernel
theorem dX10_pass_15 : decode cX10_pass 15 = .ok (.aload_n 0, 1) := by decide +kernel
theorem dX10_pass_16 : decode cX10_pass 16 = .ok (.iload_n 1, 1) := by decide +kernel
theorem dX10_pass_17 : decode cX10_pass 17 = .ok (.iload_n 3, 1) := by decide +kernel
theorem dX10_pass_18 : decode cX10_pass 18 = .ok (.invokevirtual 128, 3) := by decide +kernel
theorem dX10_pass_21 : decode cX10_pass 21 = .ok (.invokevirtual 141, 3) := by decide +kernel
theorem dX10_pass_24 : decode cX10_pass 24 = .ok (.aload_n 0, 1) := by decide +kernel
theorem dX10_pass_25 : decode cX10_pass 25 = .ok (.getfield 22, 3) := by decide +kernel
theorem dX10_pass_28 : decode cX10_pass 28 = .ok (.iload_n 1, 1) := by decide +kernel
theorem dX10_pass_29 : decode cX10_pass 29 = .ok (.bipush 7, 2) := by decide +kernel
theorem dX10_pass_31 : decode cX10_pass 31 = .ok (.iadd, 1) := by decide +kernel
theorem dX10_pass_32 : decode cX10_pass 32 = .ok (.iload_n 3, 1) := by decide +kernel
theorem dX10_pass_33 : decode cX10_pass 33 = .ok (.iadd, 1) := by decide +kernel
theorem dX10_pass_34 : decode cX10_pass 34 = .ok (.iaload, 1) := by decide +kernel
theorem dX10_pass_35 : decode cX10_pass 35 = .ok (.istore 4, 2) := by decide +kernel
theorem dX10_pass_37 : decode cX10_pass 37 = .ok (.iload 4, 2) := by decide +kernel
theorem dX10_pass_39 : decode cX10_pass 39 = .ok (.aload_n 0, 1) := by decide +kernel
theorem dX10_pass_40 : decode cX10_pass 40 = .ok (.iload_n 1, 1) := by decide +kernel
theorem dX10_pass_41 : decode cX10_pass 41 = .ok (.iconst 4, 1) := by decide +kernel
theorem dX10_pass_42 : decode cX10_pass 42 = .ok (.invokevirtual 135, 3) := by decide +kernel
theorem dX10_pass_45 : decode cX10_pass 45 = .ok (.if_icmp .lt 18, 3) := by decide +kernel
theorem dX10_pass_48 : decode cX10_pass 48 = .ok (.aload_n 0, 1) := by decide +kernel
theorem dX10_pass_49 : decode cX10_pass 49 = .ok (.iload_n 1, 1) := by decide +kernel
theorem dX10_pass_50 : decode cX10_pass 50 = .ok (.iload_n 3, 1) := by decide +kernel
theorem dX10_pass_51 : decode cX10_pass 51 = .ok (.invokevirtual 145, 3) := by decide +kernel
theorem dX10_pass_54 : decode cX10_pass 54 = .ok (.iload_n 2, 1) := by decide +kernel
theorem dX10_pass_55 : decode cX10_pass 55 = .ok (.iconst 1, 1) := by decide +kernel
theorem dX10_pass_56 : decode cX10_pass 56 = .ok (.iload_n 3, 1) := by decide +kernel
theorem dX10_pass_57 : decode cX10_pass 57 = .ok (.ishl, 1) := by decide +kernel
theorem dX10_pass_58 : decode cX10_pass 58 = .ok (.ior, 1) := by decide +kernel
theorem dX10_pass_59 : decode cX10_pass 59 = .ok (.istore_n 2, 1) := by decide +kernel
theorem dX10_pass_60 : decode cX10_pass 60 = .ok (.goto 35, 3) := by decide +kernel
theorem dX10_pass_63 : decode cX10_pass 63 = .ok (.iload 4, 2) := by decide +kernel
theorem dX10_pass_65 : decode cX10_pass 65 = .ok (.aload_n 0, 1) := by decide +kernel
theorem dX10_pass_66 : decode cX10_pass 66 = .ok (.iload_n 1, 1) := by decide +kernel
theorem dX10_pass_67 : decode cX10_pass 67 = .ok (.iconst 3, 1) := by decide +kernel
theorem dX10_pass_68 : decode cX10_pass 68 = .ok (.invokevirtual 135, 3) := by decide +kernel
theorem dX10_pass_71 : decode cX10_pass 71 = .ok (.if_icmp .lt 12, 3) := by decide +kernel
theorem dX10_pass_74 : decode cX10_pass 74 = .ok (.aload_n 0, 1) := by decide +kernel
theorem dX10_pass_75 : decode cX10_pass 75 = .ok (.iload_n 1, 1) := by decide +kernel
theorem dX10_pass_76 : decode cX10_pass 76 = .ok (.iload_n 3, 1) := by decide +kernel
theorem dX10_pass_77 : decode cX10_pass 77 = .ok (.invokevirtual 149, 3) := by decide +kernel
theorem dX10_pass_80 : decode cX10_pass 80 = .ok (.goto 15, 3) := by decide +kernel
theorem dX10_pass_83 : decode cX10_pass 83 = .ok (.aload_n 0, 1) := by decide +kernel
theorem dX10_pass_84 : decode cX10_pass 84 = .ok (.getfield 22, 3) := by decide +kernel
theorem dX10_pass_87 : decode cX10_pass 87 = .ok (.iload_n 1, 1) := by decide +kernel
theorem dX10_pass_88 : decode cX10_pass 88 = .ok (.bipush 13, 2) := by decide +kernel
theorem dX10_pass_90 : decode cX10_pass 90 = .ok (.iadd, 1) := by decide +kernel
theorem dX10_pass_91 : decode cX10_pass 91 = .ok (.iload_n 3, 1) := by decide +kernel
theorem dX10_pass_92 : decode cX10_pass 92 = .ok (.iadd, 1) := by decide +kernel
theorem dX10_pass_93 : decode cX10_pass 93 = .ok (.iconst 0, 1) := by decide +kernel
theorem dX10_pass_94 : decode cX10_pass 94 = .ok (.iastore, 1) := by decide +kernel
theorem dX10_pass_95 : decode cX10_pass 95 = .ok (.iinc 3 1, 3) := by decide +kernel
theorem dX10_pass_98 : decode cX10_pass 98 = .ok (.goto (-94), 3) := by decide +kernel
theorem dX10_pass_101 : decode cX10_pass 101 = .ok (.aload_n 0, 1) := by decide +kernel
theorem dX10_pass_102 : decode cX10_pass 102 = .ok (.getfield 22, 3) := by decide +kernel
theorem dX10_pass_105 : decode cX10_pass 105 = .ok (.iload_n 1, 1) := by decide +kernel
theorem dX10_pass_106 : decode cX10_pass 106 = .ok (.iconst 0, 1) := by decide +kernel
theorem dX10_pass_107 : decode cX10_pass 107 = .ok (.iadd, 1) := by decide +kernel
theorem dX10_pass_108 : decode cX10_pass 108 = .ok (.dup2, 1) := by decide +kernel
theorem dX10_pass_109 : decode cX10_pass 109 = .ok (.iaload, 1) := by decide +kernel
theorem dX10_pass_110 : decode cX10_pass 110 = .ok (.iconst 1, 1) := by decide +kernel
theorem dX10_pass_111 : decode cX10_pass 111 = .ok (.iadd, 1) := by decide +kernel
theorem dX10_pass_112 : decode cX10_pass 112 = .ok (.iastore, 1) := by decide +kernel
theorem dX10_pass_113 : decode cX10_pass 113 = .ok (.iload_n 2, 1) := by decide +kernel
theorem dX10_pass_114 : decode cX10_pass 114 = .ok (.ireturn, 1) := by decide +kernel
theorem dX10_copyDesk_0 : decode cX10_copyDesk 0 = .ok (.iconst 0, 1) := by decide +kernel
theorem dX10_copyDesk_1 : decode cX10_copyDesk 1 = .ok (.istore_n 3, 1) := by decide +kernel
theorem dX10_copyDesk_2 : decode cX10_copyDesk 2 = .ok (.iload_n 3, 1) := by decide +kernel
theorem dX10_copyDesk_3 : decode cX10_copyDesk 3 = .ok (.bipush 56, 2) := by decide +kernel
theorem dX10_copyDesk_5 : decode cX10_copyDesk 5 = .ok (.if_icmp .ge 25, 3) := by decide +kernel
theorem dX10_copyDesk_8 : decode cX10_copyDesk 8 = .ok (.aload_n 0, 1) := by decide +kernel
theorem dX10_copyDesk_9 : decode cX10_copyDesk 9 = .ok (.getfield 22, 3) := by decide +kernel
theorem dX10_copyDesk_12 : decode cX10_copyDesk 12 = .ok (.iload_n 2, 1) := by decide +kernel
theorem dX10_copyDesk_13 : decode cX10_copyDesk 13 = .ok (.iload_n 3, 1) := by decide +kernel
theorem dX10_copyDesk_14 : decode cX10_copyDesk 14 = .ok (.iadd, 1) := by decide +kernel
theorem dX10_copyDesk_15 : decode cX10_copyDesk 15 = .ok (.aload_n 0, 1) := by decide +kernel
theorem dX10_copyDesk_16 : decode cX10_copyDesk 16 = .ok (.getfield 22, 3) := by decide +kernel
theorem dX10_copyDesk_19 : decode cX10_copyDesk 19 = .ok (.iload_n 1, 1) := by decide +kernel
theorem dX10_copyDesk_20 : decode cX10_copyDesk 20 = .ok (.iload_n 3, 1) := by decide +kernel
theorem dX10_copyDesk_21 : decode cX10_copyDesk 21 = .ok (.iadd, 1) := by decide +kernel
theorem dX10_copyDesk_22 : decode cX10_copyDesk 22 = .ok (.iaload, 1) := by decide +kernel
theorem dX10_copyDesk_23 : decode cX10_copyDesk 23 = .ok (.iastore, 1) := by decide +kernel
theorem dX10_copyDesk_24 : decode cX10_copyDesk 24 = .ok (.iinc 3 1, 3) := by decide +kernel
theorem dX10_copyDesk_27 : decode cX10_copyDesk 27 = .ok (.goto (-25), 3) := by decide +kernel
theorem dX10_copyDesk_30 : decode cX10_copyDesk 30 = .ok (.return_, 1) := by decide +kernel
set_option maxRecDepth 20000 in
theorem ggX10_keepPast_X10_copyDesk : GoodIn wsX10_keepPast wsX10_copyDesk := goodIn_r _ [7, 2, 8, 9, 10, 11, 12, 13, 14, 15, 16, 17, 18, 19, 20, 21, 22, 23, 24, 25, 26, 27, 28, 29, 30] (by decide +kernel) (by decide +kernel)
set_option maxRecDepth 20000 in
theorem gX10_keepPast_X10_copyDesk : GoodIn wsX10_keepPast (wsV RX10 152 RX10 yX10_copyDesk wsX10_copyDesk) := goodIn_app (goodIn_of _ (by decide +kernel)) ggX10_keepPast_X10_copyDesk
theorem dX10_keepPast_0 : decode cX10_keepPast 0 = .ok (.iconst 0, 1) := by decide +kernel
theorem dX10_keepPast_1 : decode cX10_keepPast 1 = .ok (.istore_n 1, 1) := by decide +kernel
theorem dX10_keepPast_2 : decode cX10_keepPast 2 = .ok (.iload_n 1, 1) := by decide +kernel
theorem dX10_keepPast_3 : decode cX10_keepPast 3 = .ok (.sipush 392, 3) := by decide +kernel
theorem dX10_keepPast_6 : decode cX10_keepPast 6 = .ok (.if_icmp .ge 36, 3) := by decide +kernel
theorem dX10_keepPast_9 : decode cX10_keepPast 9 = .ok (.aload_n 0, 1) := by decide +kernel
theorem dX10_keepPast_10 : decode cX10_keepPast 10 = .ok (.getfield 63, 3) := by decide +kernel
theorem dX10_keepPast_13 : decode cX10_keepPast 13 = .ok (.bipush 8, 2) := by decide +kernel
theorem dX10_keepPast_15 : decode cX10_keepPast 15 = .ok (.if_icmp .ne 27, 3) := by decide +kernel
theorem dX10_keepPast_18 : decode cX10_keepPast 18 = .ok (.aload_n 0, 1) := by decide +kernel
theorem dX10_keepPast_19 : decode cX10_keepPast 19 = .ok (.getfield 22, 3) := by decide +kernel
theorem dX10_keepPast_22 : decode cX10_keepPast 22 = .ok (.bipush 56, 2) := by decide +kernel
theorem dX10_keepPast_24 : decode cX10_keepPast 24 = .ok (.iload_n 1, 1) := by decide +kernel
theorem dX10_keepPast_25 : decode cX10_keepPast 25 = .ok (.iadd, 1) := by decide +kernel
theorem dX10_keepPast_26 : decode cX10_keepPast 26 = .ok (.aload_n 0, 1) := by decide +kernel
theorem dX10_keepPast_27 : decode cX10_keepPast 27 = .ok (.getfield 22, 3) := by decide +kernel
theorem dX10_keepPast_30 : decode cX10_keepPast 30 = .ok (.bipush 112, 2) := by decide +kernel
theorem dX10_keepPast_32 : decode cX10_keepPast 32 = .ok (.iload_n 1, 1) := by decide +kernel
theorem dX10_keepPast_33 : decode cX10_keepPast 33 = .ok (.iadd, 1) := by decide +kernel
theorem dX10_keepPast_34 : decode cX10_keepPast 34 = .ok (.iaload, 1) := by decide +kernel
theorem dX10_keepPast_35 : decode cX10_keepPast 35 = .ok (.iastore, 1) := by decide +kernel
theorem dX10_keepPast_36 : decode cX10_keepPast 36 = .ok (.iinc 1 1, 3) := by decide +kernel
theorem dX10_keepPast_39 : decode cX10_keepPast 39 = .ok (.goto (-37), 3) := by decide +kernel
theorem dX10_keepPast_42 : decode cX10_keepPast 42 = .ok (.aload_n 0, 1) := by decide +kernel
theorem dX10_keepPast_43 : decode cX10_keepPast 43 = .ok (.dup, 1) := by decide +kernel
theorem dX10_keepPast_44 : decode cX10_keepPast 44 = .ok (.getfield 63, 3) := by decide +kernel
theorem dX10_keepPast_47 : decode cX10_keepPast 47 = .ok (.aload_n 0, 1) := by decide +kernel
theorem dX10_keepPast_48 : decode cX10_keepPast 48 = .ok (.getfield 63, 3) := by decide +kernel
theorem dX10_keepPast_51 : decode cX10_keepPast 51 = .ok (.bipush 8, 2) := by decide +kernel
theorem dX10_keepPast_53 : decode cX10_keepPast 53 = .ok (.if_icmp .ne 7, 3) := by decide +kernel
theorem dX10_keepPast_56 : decode cX10_keepPast 56 = .ok (.iconst 1, 1) := by decide +kernel
theorem dX10_keepPast_57 : decode cX10_keepPast 57 = .ok (.goto 4, 3) := by decide +kernel
theorem dX10_keepPast_60 : decode cX10_keepPast 60 = .ok (.iconst 0, 1) := by decide +kernel
theorem dX10_keepPast_61 : decode cX10_keepPast 61 = .ok (.isub, 1) := by decide +kernel
theorem dX10_keepPast_62 : decode cX10_keepPast 62 = .ok (.putfield 63, 3) := by decide +kernel
theorem dX10_keepPast_65 : decode cX10_keepPast 65 = .ok (.aload_n 0, 1) := by decide +kernel
theorem dX10_keepPast_66 : decode cX10_keepPast 66 = .ok (.iconst 0, 1) := by decide +kernel
theorem dX10_keepPast_67 : decode cX10_keepPast 67 = .ok (.bipush 56, 2) := by decide +kernel
theorem dX10_keepPast_69 : decode cX10_keepPast 69 = .ok (.bipush 56, 2) := by decide +kernel
theorem dX10_keepPast_71 : decode cX10_keepPast 71 = .ok (.aload_n 0, 1) := by decide +kernel
theorem dX10_keepPast_72 : decode cX10_keepPast 72 = .ok (.getfield 63, 3) := by decide +kernel
theorem dX10_keepPast_75 : decode cX10_keepPast 75 = .ok (.imul, 1) := by decide +kernel
theorem dX10_keepPast_76 : decode cX10_keepPast 76 = .ok (.iadd, 1) := by decide +kernel
theorem dX10_keepPast_77 : decode cX10_keepPast 77 = .ok (.invokevirtual 152, 3) := by decide +kernel
theorem dX10_keepPast_80 : decode cX10_keepPast 80 = .ok (.aload_n 0, 1) := by decide +kernel
theorem dX10_keepPast_81 : decode cX10_keepPast 81 = .ok (.dup, 1) := by decide +kernel
theorem dX10_keepPast_82 : decode cX10_keepPast 82 = .ok (.getfield 63, 3) := by decide +kernel
theorem dX10_keepPast_85 : decode cX10_keepPast 85 = .ok (.iconst 1, 1) := by decide +kernel
theorem dX10_keepPast_86 : decode cX10_keepPast 86 = .ok (.iadd, 1) := by decide +kernel
theorem dX10_keepPast_87 : decode cX10_keepPast 87 = .ok (.putfield 63, 3) := by decide +kernel
theorem dX10_keepPast_90 : decode cX10_keepPast 90 = .ok (.return_, 1) := by decide +kernel
set_option maxRecDepth 20000 in
theorem ggX10_day_X10_keepPast : GoodIn wsX10_day wsX10_keepPast := goodIn_r _ [6, 7, 1, 8, 9, 10, 5, 11, 46, 47, 48, 49, 50, 51, 52, 53, 54, 55, 56, 57, 58, 59, 60, 61, 62, 63, 64, 65, 66, 67, 68] (by decide +kernel) (by decide +kernel)
set_option maxRecDepth 20000 in
theorem gX10_day_X10_keepPast : GoodIn wsX10_day (wsV RX10 155 RX10 yX10_keepPast wsX10_keepPast) := goodIn_app (goodIn_of _ (by decide +kernel)) ggX10_day_X10_keepPast
set_option maxRecDepth 20000 in
theorem ggX10_day_X10_pass : GoodIn wsX10_day wsX10_pass := goodIn_r _ [15, 16, 1, 17, 18, 19, 5, 20, 21, 22, 23, 24, 25, 26, 27, 28, 29, 30, 31, 32, 33, 34, 35, 36, 37, 38, 39, 40, 41, 42, 43, 44, 45, 46, 47, 48, 49, 50, 51, 52, 53, 54, 55, 56, 57, 58, 59, 60, 61, 62, 63, 64, 65, 66, 67, 68] (by decide +kernel) (by decide +kernel)
set_option maxRecDepth 20000 in
theorem gX10_day_X10_pass : GoodIn wsX10_day (wsV RX10 158 RX10 yX10_pass wsX10_pass) := goodIn_app (goodIn_of _ (by decide +kernel)) ggX10_day_X10_pass
theorem dX10_day_0 : decode cX10_day 0 = .ok (.aload_n 0, 1) := by decide +kernel
theorem dX10_day_1 : decode cX10_day 1 = .ok (.getfield 22, 3) := by decide +kernel
theorem dX10_day_4 : decode cX10_day 4 = .ok (.iconst 0, 1) := by decide +kernel
theorem dX10_day_5 : decode cX10_day 5 = .ok (.iaload, 1) := by decide +kernel
theorem dX10_day_6 : decode cX10_day 6 = .ok (.sipush 999, 3) := by decide +kernel
theorem dX10_day_9 : decode cX10_day 9 = .ok (.if_icmp .ne 6, 3) := by decide +kernel
theorem dX10_day_12 : decode cX10_day 12 = .ok (.bipush (-5), 2) := by decide +kernel
theorem dX10_day_14 : decode cX10_day 14 = .ok (.ireturn, 1) := by decide +kernel
theorem dX10_day_15 : decode cX10_day 15 = .ok (.aload_n 0, 1) := by decide +kernel
theorem dX10_day_16 : decode cX10_day 16 = .ok (.invokevirtual 155, 3) := by decide +kernel
theorem dX10_day_19 : decode cX10_day 19 = .ok (.aload_n 0, 1) := by decide +kernel
theorem dX10_day_20 : decode cX10_day 20 = .ok (.iconst 0, 1) := by decide +kernel
theorem dX10_day_21 : decode cX10_day 21 = .ok (.invokevirtual 158, 3) := by decide +kernel
theorem dX10_day_24 : decode cX10_day 24 = .ok (.ireturn, 1) := by decide +kernel
theorem dX10_doKiss_0 : decode cX10_doKiss 0 = .ok (.aload_n 0, 1) := by decide +kernel
theorem dX10_doKiss_1 : decode cX10_doKiss 1 = .ok (.getfield 22, 3) := by decide +kernel
theorem dX10_doKiss_4 : decode cX10_doKiss 4 = .ok (.iload_n 1, 1) := by decide +kernel
theorem dX10_doKiss_5 : decode cX10_doKiss 5 = .ok (.bipush 7, 2) := by decide +kernel
theorem dX10_doKiss_7 : decode cX10_doKiss 7 = .ok (.iadd, 1) := by decide +kernel
theorem dX10_doKiss_8 : decode cX10_doKiss 8 = .ok (.iload_n 2, 1) := by decide +kernel
theorem dX10_doKiss_9 : decode cX10_doKiss 9 = .ok (.iadd, 1) := by decide +kernel
theorem dX10_doKiss_10 : decode cX10_doKiss 10 = .ok (.dup2, 1) := by decide +kernel
theorem dX10_doKiss_11 : decode cX10_doKiss 11 = .ok (.iaload, 1) := by decide +kernel
theorem dX10_doKiss_12 : decode cX10_doKiss 12 = .ok (.iconst 2, 1) := by decide +kernel
theorem dX10_doKiss_13 : decode cX10_doKiss 13 = .ok (.idiv, 1) := by decide +kernel
theorem dX10_doKiss_14 : decode cX10_doKiss 14 = .ok (.iastore, 1) := by decide +kernel
theorem dX10_doKiss_15 : decode cX10_doKiss 15 = .ok (.aload_n 0, 1) := by decide +kernel
theorem dX10_doKiss_16 : decode cX10_doKiss 16 = .ok (.getfield 22, 3) := by decide +kernel
theorem dX10_doKiss_19 : decode cX10_doKiss 19 = .ok (.iload_n 1, 1) := by decide +kernel
theorem dX10_doKiss_20 : decode cX10_doKiss 20 = .ok (.bipush 13, 2) := by decide +kernel
theorem dX10_doKiss_22 : decode cX10_doKiss 22 = .ok (.iadd, 1) := by decide +kernel
theorem dX10_doKiss_23 : decode cX10_doKiss 23 = .ok (.iload_n 2, 1) := by decide +kernel
theorem dX10_doKiss_24 : decode cX10_doKiss 24 = .ok (.iadd, 1) := by decide +kernel
theorem dX10_doKiss_25 : decode cX10_doKiss 25 = .ok (.iconst 0, 1) := by decide +kernel
theorem dX10_doKiss_26 : decode cX10_doKiss 26 = .ok (.iastore, 1) := by decide +kernel
theorem dX10_doKiss_27 : decode cX10_doKiss 27 = .ok (.aload_n 0, 1) := by decide +kernel
theorem dX10_doKiss_28 : decode cX10_doKiss 28 = .ok (.getfield 22, 3) := by decide +kernel
theorem dX10_doKiss_31 : decode cX10_doKiss 31 = .ok (.iload_n 1, 1) := by decide +kernel
theorem dX10_doKiss_32 : decode cX10_doKiss 32 = .ok (.bipush 19, 2) := by decide +kernel
theorem dX10_doKiss_34 : decode cX10_doKiss 34 = .ok (.iadd, 1) := by decide +kernel
theorem dX10_doKiss_35 : decode cX10_doKiss 35 = .ok (.dup2, 1) := by decide +kernel
theorem dX10_doKiss_36 : decode cX10_doKiss 36 = .ok (.iaload, 1) := by decide +kernel
theorem dX10_doKiss_37 : decode cX10_doKiss 37 = .ok (.iconst 1, 1) := by decide +kernel
theorem dX10_doKiss_38 : decode cX10_doKiss 38 = .ok (.iload_n 2, 1) := by decide +kernel
theorem dX10_doKiss_39 : decode cX10_doKiss 39 = .ok (.ishl, 1) := by decide +kernel
theorem dX10_doKiss_40 : decode cX10_doKiss 40 = .ok (.iconst (-1), 1) := by decide +kernel
theorem dX10_doKiss_41 : decode cX10_doKiss 41 = .ok (.ixor, 1) := by decide +kernel
theorem dX10_doKiss_42 : decode cX10_doKiss 42 = .ok (.iand, 1) := by decide +kernel
theorem dX10_doKiss_43 : decode cX10_doKiss 43 = .ok (.iastore, 1) := by decide +kernel
theorem dX10_doKiss_44 : decode cX10_doKiss 44 = .ok (.return_, 1) := by decide +kernel
set_option maxRecDepth 20000 in
theorem ggX10_kiss_X10_isCouple : GoodIn wsX10_kiss wsX10_isCouple := goodIn_r _ [6, 7, 8, 9, 5, 10, 24, 25, 26, 27, 28, 29, 30, 31, 32, 33, 34, 35, 36, 37, 38, 39, 40, 41, 42, 43, 44, 45, 46] (by decide +kernel) (by decide +kernel)
set_option maxRecDepth 20000 in
theorem gX10_kiss_X10_isCouple : GoodIn wsX10_kiss (wsV RX10 125 RX10 yX10_isCouple wsX10_isCouple) := goodIn_app (goodIn_of _ (by decide +kernel)) ggX10_kiss_X10_isCouple
set_option maxRecDepth 20000 in
theorem ggX10_kiss_X10_keepPast : GoodIn wsX10_kiss wsX10_keepPast := goodIn_r _ [14, 15, 1, 16, 17, 18, 5, 19, 24, 25, 26, 27, 28, 29, 30, 31, 32, 33, 34, 35, 36, 37, 38, 39, 40, 41, 42, 43, 44, 45, 46] (by decide +kernel) (by decide +kernel)
set_option maxRecDepth 20000 in
theorem gX10_kiss_X10_keepPast : GoodIn wsX10_kiss (wsV RX10 155 RX10 yX10_keepPast wsX10_keepPast) := goodIn_app (goodIn_of _ (by decide +kernel)) ggX10_kiss_X10_keepPast
set_option maxRecDepth 20000 in
theorem ggX10_kiss_X10_doKiss : GoodIn wsX10_kiss wsX10_doKiss := goodIn_r _ [23, 1, 24, 25, 26, 27, 28, 29, 30, 31, 32, 33, 34, 35, 36, 37, 38, 39, 40, 41, 42, 43, 44, 45, 46] (by decide +kernel) (by decide +kernel)
set_option maxRecDepth 20000 in
theorem gX10_kiss_X10_doKiss : GoodIn wsX10_kiss (wsV RX10 162 RX10 yX10_doKiss wsX10_doKiss) := goodIn_app (goodIn_of _ (by decide +kernel)) ggX10_kiss_X10_doKiss
theorem dX10_kiss_0 : decode cX10_kiss 0 = .ok (.aload_n 0, 1) := by decide +kernel
theorem dX10_kiss_1 : decode cX10_kiss 1 = .ok (.iload_n 1, 1) := by decide +kernel
theorem dX10_kiss_2 : decode cX10_kiss 2 = .ok (.invokevirtual 125, 3) := by decide +kernel
theorem dX10_kiss_5 : decode cX10_kiss 5 = .ok (.ifCond .ne 6, 3) := by decide +kernel
theorem dX10_kiss_8 : decode cX10_kiss 8 = .ok (.bipush (-2), 2) := by decide +kernel
theorem dX10_kiss_10 : decode cX10_kiss 10 = .ok (.ireturn, 1) := by decide +kernel
theorem dX10_kiss_11 : decode cX10_kiss 11 = .ok (.aload_n 0, 1) := by decide +kernel
theorem dX10_kiss_12 : decode cX10_kiss 12 = .ok (.invokevirtual 155, 3) := by decide +kernel
theorem dX10_kiss_15 : decode cX10_kiss 15 = .ok (.aload_n 0, 1) := by decide +kernel
theorem dX10_kiss_16 : decode cX10_kiss 16 = .ok (.iconst 0, 1) := by decide +kernel
theorem dX10_kiss_17 : decode cX10_kiss 17 = .ok (.iload_n 1, 1) := by decide +kernel
theorem dX10_kiss_18 : decode cX10_kiss 18 = .ok (.invokevirtual 162, 3) := by decide +kernel
theorem dX10_kiss_21 : decode cX10_kiss 21 = .ok (.aload_n 0, 1) := by decide +kernel
theorem dX10_kiss_22 : decode cX10_kiss 22 = .ok (.getfield 22, 3) := by decide +kernel
theorem dX10_kiss_25 : decode cX10_kiss 25 = .ok (.bipush 7, 2) := by decide +kernel
theorem dX10_kiss_27 : decode cX10_kiss 27 = .ok (.iload_n 1, 1) := by decide +kernel
theorem dX10_kiss_28 : decode cX10_kiss 28 = .ok (.iadd, 1) := by decide +kernel
theorem dX10_kiss_29 : decode cX10_kiss 29 = .ok (.iaload, 1) := by decide +kernel
theorem dX10_kiss_30 : decode cX10_kiss 30 = .ok (.ireturn, 1) := by decide +kernel
set_option maxRecDepth 20000 in
theorem ggX10_mother_X10_isCouple : GoodIn wsX10_mother wsX10_isCouple := goodIn_r _ [6, 7, 8, 9, 5, 10, 24, 25, 26, 27, 28, 29, 30, 31, 32, 33, 34, 35, 36, 37, 38, 39, 40, 41, 42, 43, 44, 45, 46] (by decide +kernel) (by decide +kernel)
set_option maxRecDepth 20000 in
theorem gX10_mother_X10_isCouple : GoodIn wsX10_mother (wsV RX10 125 RX10 yX10_isCouple wsX10_isCouple) := goodIn_app (goodIn_of _ (by decide +kernel)) ggX10_mother_X10_isCouple
set_option maxRecDepth 20000 in
theorem ggX10_mother_X10_keepPast : GoodIn wsX10_mother wsX10_keepPast := goodIn_r _ [14, 15, 1, 16, 17, 18, 5, 19, 24, 25, 26, 27, 28, 29, 30, 31, 32, 33, 34, 35, 36, 37, 38, 39, 40, 41, 42, 43, 44, 45, 46] (by decide +kernel) (by decide +kernel)
set_option maxRecDepth 20000 in
theorem gX10_mother_X10_keepPast : GoodIn wsX10_mother (wsV RX10 155 RX10 yX10_keepPast wsX10_keepPast) := goodIn_app (goodIn_of _ (by decide +kernel)) ggX10_mother_X10_keepPast
set_option maxRecDepth 20000 in
theorem ggX10_mother_X10_strainMore : GoodIn wsX10_mother wsX10_strainMore := goodIn_r _ [23, 1, 24, 25, 26, 27, 28, 29, 30, 31, 32, 33, 34, 35, 36, 37, 38, 39, 40, 41, 42, 43, 44, 45, 46] (by decide +kernel) (by decide +kernel)
set_option maxRecDepth 20000 in
theorem gX10_mother_X10_strainMore : GoodIn wsX10_mother (wsV RX10 141 RX10 yX10_strainMore wsX10_strainMore) := goodIn_app (goodIn_of _ (by decide +kernel)) ggX10_mother_X10_strainMore
theorem dX10_mother_0 : decode cX10_mother 0 = .ok (.aload_n 0, 1) := by decide +kernel
theorem dX10_mother_1 : decode cX10_mother 1 = .ok (.iload_n 1, 1) := by decide +kernel
theorem dX10_mother_2 : decode cX10_mother 2 = .ok (.invokevirtual 125, 3) := by decide +kernel
theorem dX10_mother_5 : decode cX10_mother 5 = .ok (.ifCond .ne 6, 3) := by decide +kernel
theorem dX10_mother_8 : decode cX10_mother 8 = .ok (.bipush (-2), 2) := by decide +kernel
theorem dX10_mother_10 : decode cX10_mother 10 = .ok (.ireturn, 1) := by decide +kernel
theorem dX10_mother_11 : decode cX10_mother 11 = .ok (.aload_n 0, 1) := by decide +kernel
theorem dX10_mother_12 : decode cX10_mother 12 = .ok (.invokevirtual 155, 3) := by decide +kernel
theorem dX10_mother_15 : decode cX10_mother 15 = .ok (.aload_n 0, 1) := by decide +kernel
theorem dX10_mother_16 : decode cX10_mother 16 = .ok (.iconst 0, 1) := by decide +kernel
theorem dX10_mother_17 : decode cX10_mother 17 = .ok (.iload_n 1, 1) := by decide +kernel
theorem dX10_mother_18 : decode cX10_mother 18 = .ok (.bipush 10, 2) := by decide +kernel
theorem dX10_mother_20 : decode cX10_mother 20 = .ok (.invokevirtual 141, 3) := by decide +kernel
theorem dX10_mother_23 : decode cX10_mother 23 = .ok (.aload_n 0, 1) := by decide +kernel
theorem dX10_mother_24 : decode cX10_mother 24 = .ok (.getfield 22, 3) := by decide +kernel
theorem dX10_mother_27 : decode cX10_mother 27 = .ok (.bipush 7, 2) := by decide +kernel
theorem dX10_mother_29 : decode cX10_mother 29 = .ok (.iload_n 1, 1) := by decide +kernel
theorem dX10_mother_30 : decode cX10_mother 30 = .ok (.iadd, 1) := by decide +kernel
theorem dX10_mother_31 : decode cX10_mother 31 = .ok (.iaload, 1) := by decide +kernel
theorem dX10_mother_32 : decode cX10_mother 32 = .ok (.ireturn, 1) := by decide +kernel
set_option maxRecDepth 20000 in
theorem ggX10_change_X10_in : GoodIn wsX10_change wsX10_in := goodIn_r _ [7] (by decide +kernel) (by decide +kernel)
set_option maxRecDepth 20000 in
theorem gX10_change_X10_in : GoodIn wsX10_change (va_wsS RX10 69 yX10_in wsX10_in) := goodIn_app (goodIn_of _ (by decide +kernel)) ggX10_change_X10_in
set_option maxRecDepth 20000 in
theorem ggX10_change_X10_keepPast : GoodIn wsX10_change wsX10_keepPast := goodIn_r _ [11, 12, 3, 13, 14, 15, 6, 16, 17, 18, 19, 20, 21, 22, 23, 24, 25, 26, 27, 28, 29, 30, 31, 32, 33, 34, 35, 36, 37, 38, 39] (by decide +kernel) (by decide +kernel)
set_option maxRecDepth 20000 in
theorem gX10_change_X10_keepPast : GoodIn wsX10_change (wsV RX10 155 RX10 yX10_keepPast wsX10_keepPast) := goodIn_app (goodIn_of _ (by decide +kernel)) ggX10_change_X10_keepPast
theorem dX10_change_0 : decode cX10_change 0 = .ok (.iload_n 1, 1) := by decide +kernel
theorem dX10_change_1 : decode cX10_change 1 = .ok (.iconst 0, 1) := by decide +kernel
theorem dX10_change_2 : decode cX10_change 2 = .ok (.iconst 5, 1) := by decide +kernel
theorem dX10_change_3 : decode cX10_change 3 = .ok (.invokestatic 69, 3) := by decide +kernel
theorem dX10_change_6 : decode cX10_change 6 = .ok (.ifCond .eq 22, 3) := by decide +kernel
theorem dX10_change_9 : decode cX10_change 9 = .ok (.iload_n 2, 1) := by decide +kernel
theorem dX10_change_10 : decode cX10_change 10 = .ok (.aload_n 0, 1) := by decide +kernel
theorem dX10_change_11 : decode cX10_change 11 = .ok (.getfield 16, 3) := by decide +kernel
theorem dX10_change_14 : decode cX10_change 14 = .ok (.iload_n 1, 1) := by decide +kernel
theorem dX10_change_15 : decode cX10_change 15 = .ok (.iaload, 1) := by decide +kernel
theorem dX10_change_16 : decode cX10_change 16 = .ok (.aload_n 0, 1) := by decide +kernel
theorem dX10_change_17 : decode cX10_change 17 = .ok (.getfield 19, 3) := by decide +kernel
theorem dX10_change_20 : decode cX10_change 20 = .ok (.iload_n 1, 1) := by decide +kernel
theorem dX10_change_21 : decode cX10_change 21 = .ok (.iaload, 1) := by decide +kernel
theorem dX10_change_22 : decode cX10_change 22 = .ok (.invokestatic 69, 3) := by decide +kernel
theorem dX10_change_25 : decode cX10_change 25 = .ok (.ifCond .ne 6, 3) := by decide +kernel
theorem dX10_change_28 : decode cX10_change 28 = .ok (.bipush (-3), 2) := by decide +kernel
theorem dX10_change_30 : decode cX10_change 30 = .ok (.ireturn, 1) := by decide +kernel
theorem dX10_change_31 : decode cX10_change 31 = .ok (.aload_n 0, 1) := by decide +kernel
theorem dX10_change_32 : decode cX10_change 32 = .ok (.invokevirtual 155, 3) := by decide +kernel
theorem dX10_change_35 : decode cX10_change 35 = .ok (.aload_n 0, 1) := by decide +kernel
theorem dX10_change_36 : decode cX10_change 36 = .ok (.getfield 22, 3) := by decide +kernel
theorem dX10_change_39 : decode cX10_change 39 = .ok (.iconst 1, 1) := by decide +kernel
theorem dX10_change_40 : decode cX10_change 40 = .ok (.iload_n 1, 1) := by decide +kernel
theorem dX10_change_41 : decode cX10_change 41 = .ok (.iadd, 1) := by decide +kernel
theorem dX10_change_42 : decode cX10_change 42 = .ok (.iaload, 1) := by decide +kernel
theorem dX10_change_43 : decode cX10_change 43 = .ok (.istore_n 3, 1) := by decide +kernel
theorem dX10_change_44 : decode cX10_change 44 = .ok (.aload_n 0, 1) := by decide +kernel
theorem dX10_change_45 : decode cX10_change 45 = .ok (.getfield 22, 3) := by decide +kernel
theorem dX10_change_48 : decode cX10_change 48 = .ok (.iconst 1, 1) := by decide +kernel
theorem dX10_change_49 : decode cX10_change 49 = .ok (.iload_n 1, 1) := by decide +kernel
theorem dX10_change_50 : decode cX10_change 50 = .ok (.iadd, 1) := by decide +kernel
theorem dX10_change_51 : decode cX10_change 51 = .ok (.iload_n 2, 1) := by decide +kernel
theorem dX10_change_52 : decode cX10_change 52 = .ok (.iastore, 1) := by decide +kernel
theorem dX10_change_53 : decode cX10_change 53 = .ok (.iload_n 3, 1) := by decide +kernel
theorem dX10_change_54 : decode cX10_change 54 = .ok (.ireturn, 1) := by decide +kernel
set_option maxRecDepth 20000 in
theorem ggX10_undo_X10_copyDesk : GoodIn wsX10_undo wsX10_copyDesk := goodIn_r _ [6, 7, 8, 9, 10, 11, 12, 13, 14, 15, 16, 17, 18, 19, 20, 21, 22, 23, 24, 25, 26, 27, 28, 29, 30] (by decide +kernel) (by decide +kernel)
set_option maxRecDepth 20000 in
theorem gX10_undo_X10_copyDesk : GoodIn wsX10_undo (wsV RX10 152 RX10 yX10_copyDesk wsX10_copyDesk) := goodIn_app (goodIn_of _ (by decide +kernel)) ggX10_undo_X10_copyDesk
theorem dX10_undo_0 : decode cX10_undo 0 = .ok (.aload_n 0, 1) := by decide +kernel
theorem dX10_undo_1 : decode cX10_undo 1 = .ok (.getfield 63, 3) := by decide +kernel
theorem dX10_undo_4 : decode cX10_undo 4 = .ok (.ifCond .ne 6, 3) := by decide +kernel
theorem dX10_undo_7 : decode cX10_undo 7 = .ok (.bipush (-4), 2) := by decide +kernel
theorem dX10_undo_9 : decode cX10_undo 9 = .ok (.ireturn, 1) := by decide +kernel
theorem dX10_undo_10 : decode cX10_undo 10 = .ok (.aload_n 0, 1) := by decide +kernel
theorem dX10_undo_11 : decode cX10_undo 11 = .ok (.dup, 1) := by decide +kernel
theorem dX10_undo_12 : decode cX10_undo 12 = .ok (.getfield 63, 3) := by decide +kernel
theorem dX10_undo_15 : decode cX10_undo 15 = .ok (.iconst 1, 1) := by decide +kernel
theorem dX10_undo_16 : decode cX10_undo 16 = .ok (.isub, 1) := by decide +kernel
theorem dX10_undo_17 : decode cX10_undo 17 = .ok (.putfield 63, 3) := by decide +kernel
theorem dX10_undo_20 : decode cX10_undo 20 = .ok (.aload_n 0, 1) := by decide +kernel
theorem dX10_undo_21 : decode cX10_undo 21 = .ok (.bipush 56, 2) := by decide +kernel
theorem dX10_undo_23 : decode cX10_undo 23 = .ok (.bipush 56, 2) := by decide +kernel
theorem dX10_undo_25 : decode cX10_undo 25 = .ok (.aload_n 0, 1) := by decide +kernel
theorem dX10_undo_26 : decode cX10_undo 26 = .ok (.getfield 63, 3) := by decide +kernel
theorem dX10_undo_29 : decode cX10_undo 29 = .ok (.imul, 1) := by decide +kernel
theorem dX10_undo_30 : decode cX10_undo 30 = .ok (.iadd, 1) := by decide +kernel
theorem dX10_undo_31 : decode cX10_undo 31 = .ok (.iconst 0, 1) := by decide +kernel
theorem dX10_undo_32 : decode cX10_undo 32 = .ok (.invokevirtual 152, 3) := by decide +kernel
theorem dX10_undo_35 : decode cX10_undo 35 = .ok (.aload_n 0, 1) := by decide +kernel
theorem dX10_undo_36 : decode cX10_undo 36 = .ok (.getfield 63, 3) := by decide +kernel
theorem dX10_undo_39 : decode cX10_undo 39 = .ok (.ireturn, 1) := by decide +kernel
set_option maxRecDepth 20000 in
theorem ggX10_keep_X10_in : GoodIn wsX10_keep wsX10_in := goodIn_r _ [6] (by decide +kernel) (by decide +kernel)
set_option maxRecDepth 20000 in
theorem gX10_keep_X10_in : GoodIn wsX10_keep (va_wsS RX10 69 yX10_in wsX10_in) := goodIn_app (goodIn_of _ (by decide +kernel)) ggX10_keep_X10_in
set_option maxRecDepth 20000 in
theorem ggX10_keep_X10_copyDesk : GoodIn wsX10_keep wsX10_copyDesk := goodIn_r _ [10, 2, 11, 12, 13, 14, 15, 16, 17, 18, 19, 20, 21, 22, 23, 24, 25, 26, 27, 28, 29, 30, 31, 32, 33] (by decide +kernel) (by decide +kernel)
set_option maxRecDepth 20000 in
theorem gX10_keep_X10_copyDesk : GoodIn wsX10_keep (wsV RX10 152 RX10 yX10_copyDesk wsX10_copyDesk) := goodIn_app (goodIn_of _ (by decide +kernel)) ggX10_keep_X10_copyDesk
theorem dX10_keep_0 : decode cX10_keep 0 = .ok (.iload_n 1, 1) := by decide +kernel
theorem dX10_keep_1 : decode cX10_keep 1 = .ok (.iconst 0, 1) := by decide +kernel
theorem dX10_keep_2 : decode cX10_keep 2 = .ok (.iconst 1, 1) := by decide +kernel
theorem dX10_keep_3 : decode cX10_keep 3 = .ok (.invokestatic 69, 3) := by decide +kernel
theorem dX10_keep_6 : decode cX10_keep 6 = .ok (.ifCond .ne 6, 3) := by decide +kernel
theorem dX10_keep_9 : decode cX10_keep 9 = .ok (.bipush (-2), 2) := by decide +kernel
theorem dX10_keep_11 : decode cX10_keep 11 = .ok (.ireturn, 1) := by decide +kernel
theorem dX10_keep_12 : decode cX10_keep 12 = .ok (.aload_n 0, 1) := by decide +kernel
theorem dX10_keep_13 : decode cX10_keep 13 = .ok (.iconst 0, 1) := by decide +kernel
theorem dX10_keep_14 : decode cX10_keep 14 = .ok (.sipush 504, 3) := by decide +kernel
theorem dX10_keep_17 : decode cX10_keep 17 = .ok (.bipush 56, 2) := by decide +kernel
theorem dX10_keep_19 : decode cX10_keep 19 = .ok (.iload_n 1, 1) := by decide +kernel
theorem dX10_keep_20 : decode cX10_keep 20 = .ok (.imul, 1) := by decide +kernel
theorem dX10_keep_21 : decode cX10_keep 21 = .ok (.iadd, 1) := by decide +kernel
theorem dX10_keep_22 : decode cX10_keep 22 = .ok (.invokevirtual 152, 3) := by decide +kernel
theorem dX10_keep_25 : decode cX10_keep 25 = .ok (.aload_n 0, 1) := by decide +kernel
theorem dX10_keep_26 : decode cX10_keep 26 = .ok (.getfield 25, 3) := by decide +kernel
theorem dX10_keep_29 : decode cX10_keep 29 = .ok (.iload_n 1, 1) := by decide +kernel
theorem dX10_keep_30 : decode cX10_keep 30 = .ok (.iconst 1, 1) := by decide +kernel
theorem dX10_keep_31 : decode cX10_keep 31 = .ok (.bastore, 1) := by decide +kernel
theorem dX10_keep_32 : decode cX10_keep 32 = .ok (.aload_n 0, 1) := by decide +kernel
theorem dX10_keep_33 : decode cX10_keep 33 = .ok (.getfield 22, 3) := by decide +kernel
theorem dX10_keep_36 : decode cX10_keep 36 = .ok (.iconst 0, 1) := by decide +kernel
theorem dX10_keep_37 : decode cX10_keep 37 = .ok (.iaload, 1) := by decide +kernel
theorem dX10_keep_38 : decode cX10_keep 38 = .ok (.ireturn, 1) := by decide +kernel
set_option maxRecDepth 20000 in
theorem ggX10_back_X10_in : GoodIn wsX10_back wsX10_in := goodIn_r _ [7] (by decide +kernel) (by decide +kernel)
set_option maxRecDepth 20000 in
theorem gX10_back_X10_in : GoodIn wsX10_back (va_wsS RX10 69 yX10_in wsX10_in) := goodIn_app (goodIn_of _ (by decide +kernel)) ggX10_back_X10_in
set_option maxRecDepth 20000 in
theorem ggX10_back_X10_copyDesk : GoodIn wsX10_back wsX10_copyDesk := goodIn_r _ [11, 3, 12, 13, 14, 15, 16, 17, 18, 19, 20, 21, 22, 23, 24, 25, 26, 27, 28, 29, 30, 31, 32, 33, 34] (by decide +kernel) (by decide +kernel)
set_option maxRecDepth 20000 in
theorem gX10_back_X10_copyDesk : GoodIn wsX10_back (wsV RX10 152 RX10 yX10_copyDesk wsX10_copyDesk) := goodIn_app (goodIn_of _ (by decide +kernel)) ggX10_back_X10_copyDesk
theorem dX10_back_0 : decode cX10_back 0 = .ok (.iload_n 1, 1) := by decide +kernel
theorem dX10_back_1 : decode cX10_back 1 = .ok (.iconst 0, 1) := by decide +kernel
theorem dX10_back_2 : decode cX10_back 2 = .ok (.iconst 1, 1) := by decide +kernel
theorem dX10_back_3 : decode cX10_back 3 = .ok (.invokestatic 69, 3) := by decide +kernel
theorem dX10_back_6 : decode cX10_back 6 = .ok (.ifCond .ne 6, 3) := by decide +kernel
theorem dX10_back_9 : decode cX10_back 9 = .ok (.bipush (-2), 2) := by decide +kernel
theorem dX10_back_11 : decode cX10_back 11 = .ok (.ireturn, 1) := by decide +kernel
theorem dX10_back_12 : decode cX10_back 12 = .ok (.aload_n 0, 1) := by decide +kernel
theorem dX10_back_13 : decode cX10_back 13 = .ok (.getfield 25, 3) := by decide +kernel
theorem dX10_back_16 : decode cX10_back 16 = .ok (.iload_n 1, 1) := by decide +kernel
theorem dX10_back_17 : decode cX10_back 17 = .ok (.baload, 1) := by decide +kernel
theorem dX10_back_18 : decode cX10_back 18 = .ok (.ifCond .ne 6, 3) := by decide +kernel
theorem dX10_back_21 : decode cX10_back 21 = .ok (.bipush (-4), 2) := by decide +kernel
theorem dX10_back_23 : decode cX10_back 23 = .ok (.ireturn, 1) := by decide +kernel
theorem dX10_back_24 : decode cX10_back 24 = .ok (.aload_n 0, 1) := by decide +kernel
theorem dX10_back_25 : decode cX10_back 25 = .ok (.sipush 504, 3) := by decide +kernel
theorem dX10_back_28 : decode cX10_back 28 = .ok (.bipush 56, 2) := by decide +kernel
theorem dX10_back_30 : decode cX10_back 30 = .ok (.iload_n 1, 1) := by decide +kernel
theorem dX10_back_31 : decode cX10_back 31 = .ok (.imul, 1) := by decide +kernel
theorem dX10_back_32 : decode cX10_back 32 = .ok (.iadd, 1) := by decide +kernel
theorem dX10_back_33 : decode cX10_back 33 = .ok (.iconst 0, 1) := by decide +kernel
theorem dX10_back_34 : decode cX10_back 34 = .ok (.invokevirtual 152, 3) := by decide +kernel
theorem dX10_back_37 : decode cX10_back 37 = .ok (.aload_n 0, 1) := by decide +kernel
theorem dX10_back_38 : decode cX10_back 38 = .ok (.iconst 0, 1) := by decide +kernel
theorem dX10_back_39 : decode cX10_back 39 = .ok (.putfield 63, 3) := by decide +kernel
theorem dX10_back_42 : decode cX10_back 42 = .ok (.aload_n 0, 1) := by decide +kernel
theorem dX10_back_43 : decode cX10_back 43 = .ok (.getfield 22, 3) := by decide +kernel
theorem dX10_back_46 : decode cX10_back 46 = .ok (.iconst 0, 1) := by decide +kernel
theorem dX10_back_47 : decode cX10_back 47 = .ok (.iaload, 1) := by decide +kernel
theorem dX10_back_48 : decode cX10_back 48 = .ok (.ireturn, 1) := by decide +kernel
theorem dX10_sumOf_0 : decode cX10_sumOf 0 = .ok (.iconst 0, 1) := by decide +kernel
theorem dX10_sumOf_1 : decode cX10_sumOf 1 = .ok (.istore_n 3, 1) := by decide +kernel
theorem dX10_sumOf_2 : decode cX10_sumOf 2 = .ok (.iconst 0, 1) := by decide +kernel
