theorem dX7_init_0 : decode cX7_init 0 = .ok (.aload_n 0, 1) := by decide +kernel
theorem dX7_init_1 : decode cX7_init 1 = .ok (.invokespecial 1, 3) := by decide +kernel
theorem dX7_init_4 : decode cX7_init 4 = .ok (.aload_n 0, 1) := by decide +kernel
theorem dX7_init_5 : decode cX7_init 5 = .ok (.sipush 286, 3) := by decide +kernel
theorem dX7_init_8 : decode cX7_init 8 = .ok (.newarray .int, 2) := by decide +kernel
theorem dX7_init_10 : decode cX7_init 10 = .ok (.putfield 7, 3) := by decide +kernel
theorem dX7_init_13 : decode cX7_init 13 = .ok (.aload_n 0, 1) := by decide +kernel
theorem dX7_init_14 : decode cX7_init 14 = .ok (.sipush 286, 3) := by decide +kernel
theorem dX7_init_17 : decode cX7_init 17 = .ok (.newarray .int, 2) := by decide +kernel
theorem dX7_init_19 : decode cX7_init 19 = .ok (.putfield 13, 3) := by decide +kernel
theorem dX7_init_22 : decode cX7_init 22 = .ok (.aload_n 0, 1) := by decide +kernel
theorem dX7_init_23 : decode cX7_init 23 = .ok (.sipush 1144, 3) := by decide +kernel
theorem dX7_init_26 : decode cX7_init 26 = .ok (.newarray .int, 2) := by decide +kernel
theorem dX7_init_28 : decode cX7_init 28 = .ok (.putfield 16, 3) := by decide +kernel
theorem dX7_init_31 : decode cX7_init 31 = .ok (.aload_n 0, 1) := by decide +kernel
theorem dX7_init_32 : decode cX7_init 32 = .ok (.sipush 286, 3) := by decide +kernel
theorem dX7_init_35 : decode cX7_init 35 = .ok (.newarray .int, 2) := by decide +kernel
theorem dX7_init_37 : decode cX7_init 37 = .ok (.putfield 19, 3) := by decide +kernel
theorem dX7_init_40 : decode cX7_init 40 = .ok (.aload_n 0, 1) := by decide +kernel
theorem dX7_init_41 : decode cX7_init 41 = .ok (.bipush 32, 2) := by decide +kernel
theorem dX7_init_43 : decode cX7_init 43 = .ok (.newarray .int, 2) := by decide +kernel
theorem dX7_init_45 : decode cX7_init 45 = .ok (.putfield 22, 3) := by decide +kernel
theorem dX7_init_48 : decode cX7_init 48 = .ok (.aload_n 0, 1) := by decide +kernel
theorem dX7_init_49 : decode cX7_init 49 = .ok (.bipush 80, 2) := by decide +kernel
theorem dX7_init_51 : decode cX7_init 51 = .ok (.newarray .int, 2) := by decide +kernel
theorem dX7_init_53 : decode cX7_init 53 = .ok (.putfield 25, 3) := by decide +kernel
theorem dX7_init_56 : decode cX7_init 56 = .ok (.aload_n 0, 1) := by decide +kernel
theorem dX7_init_57 : decode cX7_init 57 = .ok (.bipush 20, 2) := by decide +kernel
theorem dX7_init_59 : decode cX7_init 59 = .ok (.newarray .int, 2) := by decide +kernel
theorem dX7_init_61 : decode cX7_init 61 = .ok (.putfield 28, 3) := by decide +kernel
theorem dX7_init_64 : decode cX7_init 64 = .ok (.aload_n 0, 1) := by decide +kernel
theorem dX7_init_65 : decode cX7_init 65 = .ok (.bipush 20, 2) := by decide +kernel
theorem dX7_init_67 : decode cX7_init 67 = .ok (.newarray .int, 2) := by decide +kernel
theorem dX7_init_69 : decode cX7_init 69 = .ok (.putfield 31, 3) := by decide +kernel
theorem dX7_init_72 : decode cX7_init 72 = .ok (.aload_n 0, 1) := by decide +kernel
theorem dX7_init_73 : decode cX7_init 73 = .ok (.bipush 20, 2) := by decide +kernel
theorem dX7_init_75 : decode cX7_init 75 = .ok (.newarray .int, 2) := by decide +kernel
theorem dX7_init_77 : decode cX7_init 77 = .ok (.putfield 34, 3) := by decide +kernel
theorem dX7_init_80 : decode cX7_init 80 = .ok (.aload_n 0, 1) := by decide +kernel
theorem dX7_init_81 : decode cX7_init 81 = .ok (.getfield 7, 3) := by decide +kernel
theorem dX7_init_84 : decode cX7_init 84 = .ok (.iconst 1, 1) := by decide +kernel
theorem dX7_init_85 : decode cX7_init 85 = .ok (.iconst 3, 1) := by decide +kernel
theorem dX7_init_86 : decode cX7_init 86 = .ok (.iastore, 1) := by decide +kernel
theorem dX7_init_87 : decode cX7_init 87 = .ok (.iconst 0, 1) := by decide +kernel
theorem dX7_init_88 : decode cX7_init 88 = .ok (.istore_n 1, 1) := by decide +kernel
theorem dX7_init_89 : decode cX7_init 89 = .ok (.iload_n 1, 1) := by decide +kernel
theorem dX7_init_90 : decode cX7_init 90 = .ok (.bipush 10, 2) := by decide +kernel
theorem dX7_init_92 : decode cX7_init 92 = .ok (.if_icmp .ge 41, 3) := by decide +kernel
theorem dX7_init_95 : decode cX7_init 95 = .ok (.aload_n 0, 1) := by decide +kernel
theorem dX7_init_96 : decode cX7_init 96 = .ok (.getfield 7, 3) := by decide +kernel
theorem dX7_init_99 : decode cX7_init 99 = .ok (.iconst 2, 1) := by decide +kernel
theorem dX7_init_100 : decode cX7_init 100 = .ok (.iconst 2, 1) := by decide +kernel
theorem dX7_init_101 : decode cX7_init 101 = .ok (.iload_n 1, 1) := by decide +kernel
theorem dX7_init_102 : decode cX7_init 102 = .ok (.imul, 1) := by decide +kernel
theorem dX7_init_103 : decode cX7_init 103 = .ok (.iadd, 1) := by decide +kernel
theorem dX7_init_104 : decode cX7_init 104 = .ok (.iload_n 1, 1) := by decide +kernel
theorem dX7_init_105 : decode cX7_init 105 = .ok (.bipush 6, 2) := by decide +kernel
theorem dX7_init_107 : decode cX7_init 107 = .ok (.irem, 1) := by decide +kernel
theorem dX7_init_108 : decode cX7_init 108 = .ok (.iastore, 1) := by decide +kernel
theorem dX7_init_109 : decode cX7_init 109 = .ok (.aload_n 0, 1) := by decide +kernel
theorem dX7_init_110 : decode cX7_init 110 = .ok (.getfield 7, 3) := by decide +kernel
theorem dX7_init_113 : decode cX7_init 113 = .ok (.iconst 2, 1) := by decide +kernel
theorem dX7_init_114 : decode cX7_init 114 = .ok (.iconst 2, 1) := by decide +kernel
theorem dX7_init_115 : decode cX7_init 115 = .ok (.iload_n 1, 1) := by decide +kernel
theorem dX7_init_116 : decode cX7_init 116 = .ok (.imul, 1) := by decide +kernel
theorem dX7_init_117 : decode cX7_init 117 = .ok (.iadd, 1) := by decide +kernel
theorem dX7_init_118 : decode cX7_init 118 = .ok (.iconst 1, 1) := by decide +kernel
theorem dX7_init_119 : decode cX7_init 119 = .ok (.iadd, 1) := by decide +kernel
theorem dX7_init_120 : decode cX7_init 120 = .ok (.iload_n 1, 1) := by decide +kernel
theorem dX7_init_121 : decode cX7_init 121 = .ok (.iconst 1, 1) := by decide +kernel
theorem dX7_init_122 : decode cX7_init 122 = .ok (.iadd, 1) := by decide +kernel
theorem dX7_init_123 : decode cX7_init 123 = .ok (.bipush 6, 2) := by decide +kernel
theorem dX7_init_125 : decode cX7_init 125 = .ok (.irem, 1) := by decide +kernel
theorem dX7_init_126 : decode cX7_init 126 = .ok (.iastore, 1) := by decide +kernel
theorem dX7_init_127 : decode cX7_init 127 = .ok (.iinc 1 1, 3) := by decide +kernel
theorem dX7_init_130 : decode cX7_init 130 = .ok (.goto (-41), 3) := by decide +kernel
theorem dX7_init_133 : decode cX7_init 133 = .ok (.return_, 1) := by decide +kernel
theorem dX7_in_0 : decode cX7_in 0 = .ok (.lload_n 0, 1) := by decide +kernel
theorem dX7_in_1 : decode cX7_in 1 = .ok (.lload_n 2, 1) := by decide +kernel
theorem dX7_in_2 : decode cX7_in 2 = .ok (.lcmp, 1) := by decide +kernel
theorem dX7_in_3 : decode cX7_in 3 = .ok (.ifCond .lt 14, 3) := by decide +kernel
theorem dX7_in_6 : decode cX7_in 6 = .ok (.lload_n 0, 1) := by decide +kernel
theorem dX7_in_7 : decode cX7_in 7 = .ok (.lload 4, 2) := by decide +kernel
theorem dX7_in_9 : decode cX7_in 9 = .ok (.lcmp, 1) := by decide +kernel
theorem dX7_in_10 : decode cX7_in 10 = .ok (.ifCond .gt 7, 3) := by decide +kernel
theorem dX7_in_13 : decode cX7_in 13 = .ok (.iconst 1, 1) := by decide +kernel
theorem dX7_in_14 : decode cX7_in 14 = .ok (.goto 4, 3) := by decide +kernel
theorem dX7_in_17 : decode cX7_in 17 = .ok (.iconst 0, 1) := by decide +kernel
theorem dX7_in_18 : decode cX7_in 18 = .ok (.ireturn, 1) := by decide +kernel
theorem dX7_keeps_0 : decode cX7_keeps 0 = .ok (.iconst 0, 1) := by decide +kernel
theorem dX7_keeps_1 : decode cX7_keeps 1 = .ok (.istore_n 1, 1) := by decide +kernel
theorem dX7_keeps_2 : decode cX7_keeps 2 = .ok (.iload_n 1, 1) := by decide +kernel
theorem dX7_keeps_3 : decode cX7_keeps 3 = .ok (.sipush 286, 3) := by decide +kernel
theorem dX7_keeps_6 : decode cX7_keeps 6 = .ok (.if_icmp .ge 21, 3) := by decide +kernel
theorem dX7_keeps_9 : decode cX7_keeps 9 = .ok (.aload_n 0, 1) := by decide +kernel
theorem dX7_keeps_10 : decode cX7_keeps 10 = .ok (.getfield 13, 3) := by decide +kernel
theorem dX7_keeps_13 : decode cX7_keeps 13 = .ok (.iload_n 1, 1) := by decide +kernel
theorem dX7_keeps_14 : decode cX7_keeps 14 = .ok (.aload_n 0, 1) := by decide +kernel
theorem dX7_keeps_15 : decode cX7_keeps 15 = .ok (.getfield 7, 3) := by decide +kernel
theorem dX7_keeps_18 : decode cX7_keeps 18 = .ok (.iload_n 1, 1) := by decide +kernel
theorem dX7_keeps_19 : decode cX7_keeps 19 = .ok (.iaload, 1) := by decide +kernel
theorem dX7_keeps_20 : decode cX7_keeps 20 = .ok (.iastore, 1) := by decide +kernel
theorem dX7_keeps_21 : decode cX7_keeps 21 = .ok (.iinc 1 1, 3) := by decide +kernel
theorem dX7_keeps_24 : decode cX7_keeps 24 = .ok (.goto (-22), 3) := by decide +kernel
theorem dX7_keeps_27 : decode cX7_keeps 27 = .ok (.return_, 1) := by decide +kernel
theorem dX7_comesBack_0 : decode cX7_comesBack 0 = .ok (.iconst 0, 1) := by decide +kernel
theorem dX7_comesBack_1 : decode cX7_comesBack 1 = .ok (.istore_n 1, 1) := by decide +kernel
theorem dX7_comesBack_2 : decode cX7_comesBack 2 = .ok (.iload_n 1, 1) := by decide +kernel
theorem dX7_comesBack_3 : decode cX7_comesBack 3 = .ok (.sipush 286, 3) := by decide +kernel
theorem dX7_comesBack_6 : decode cX7_comesBack 6 = .ok (.if_icmp .ge 21, 3) := by decide +kernel
theorem dX7_comesBack_9 : decode cX7_comesBack 9 = .ok (.aload_n 0, 1) := by decide +kernel
theorem dX7_comesBack_10 : decode cX7_comesBack 10 = .ok (.getfield 7, 3) := by decide +kernel
theorem dX7_comesBack_13 : decode cX7_comesBack 13 = .ok (.iload_n 1, 1) := by decide +kernel
theorem dX7_comesBack_14 : decode cX7_comesBack 14 = .ok (.aload_n 0, 1) := by decide +kernel
theorem dX7_comesBack_15 : decode cX7_comesBack 15 = .ok (.getfield 13, 3) := by decide +kernel
theorem dX7_comesBack_18 : decode cX7_comesBack 18 = .ok (.iload_n 1, 1) := by decide +kernel
theorem dX7_comesBack_19 : decode cX7_comesBack 19 = .ok (.iaload, 1) := by decide +kernel
theorem dX7_comesBack_20 : decode cX7_comesBack 20 = .ok (.iastore, 1) := by decide +kernel
theorem dX7_comesBack_21 : decode cX7_comesBack 21 = .ok (.iinc 1 1, 3) := by decide +kernel
theorem dX7_comesBack_24 : decode cX7_comesBack 24 = .ok (.goto (-22), 3) := by decide +kernel
theorem dX7_comesBack_27 : decode cX7_comesBack 27 = .ok (.return_, 1) := by decide +kernel
theorem dX7_records_0 : decode cX7_records 0 = .ok (.aload_n 0, 1) := by decide +kernel
theorem dX7_records_1 : decode cX7_records 1 = .ok (.getfield 37, 3) := by decide +kernel
theorem dX7_records_4 : decode cX7_records 4 = .ok (.iconst 4, 1) := by decide +kernel
theorem dX7_records_5 : decode cX7_records 5 = .ok (.if_icmp .ne 44, 3) := by decide +kernel
theorem dX7_records_8 : decode cX7_records 8 = .ok (.iconst 0, 1) := by decide +kernel
theorem dX7_records_9 : decode cX7_records 9 = .ok (.istore_n 1, 1) := by decide +kernel
theorem dX7_records_10 : decode cX7_records 10 = .ok (.iload_n 1, 1) := by decide +kernel
theorem dX7_records_11 : decode cX7_records 11 = .ok (.sipush 858, 3) := by decide +kernel
theorem dX7_records_14 : decode cX7_records 14 = .ok (.if_icmp .ge 25, 3) := by decide +kernel
theorem dX7_records_17 : decode cX7_records 17 = .ok (.aload_n 0, 1) := by decide +kernel
theorem dX7_records_18 : decode cX7_records 18 = .ok (.getfield 16, 3) := by decide +kernel
theorem dX7_records_21 : decode cX7_records 21 = .ok (.iload_n 1, 1) := by decide +kernel
theorem dX7_records_22 : decode cX7_records 22 = .ok (.aload_n 0, 1) := by decide +kernel
theorem dX7_records_23 : decode cX7_records 23 = .ok (.getfield 16, 3) := by decide +kernel
theorem dX7_records_26 : decode cX7_records 26 = .ok (.iload_n 1, 1) := by decide +kernel
theorem dX7_records_27 : decode cX7_records 27 = .ok (.sipush 286, 3) := by decide +kernel
theorem dX7_records_30 : decode cX7_records 30 = .ok (.iadd, 1) := by decide +kernel
theorem dX7_records_31 : decode cX7_records 31 = .ok (.iaload, 1) := by decide +kernel
theorem dX7_records_32 : decode cX7_records 32 = .ok (.iastore, 1) := by decide +kernel
theorem dX7_records_33 : decode cX7_records 33 = .ok (.iinc 1 1, 3) := by decide +kernel
theorem dX7_records_36 : decode cX7_records 36 = .ok (.goto (-26), 3) := by decide +kernel
theorem dX7_records_39 : decode cX7_records 39 = .ok (.aload_n 0, 1) := by decide +kernel
theorem dX7_records_40 : decode cX7_records 40 = .ok (.dup, 1) := by decide +kernel
theorem dX7_records_41 : decode cX7_records 41 = .ok (.getfield 37, 3) := by decide +kernel
theorem dX7_records_44 : decode cX7_records 44 = .ok (.iconst 1, 1) := by decide +kernel
theorem dX7_records_45 : decode cX7_records 45 = .ok (.isub, 1) := by decide +kernel
theorem dX7_records_46 : decode cX7_records 46 = .ok (.putfield 37, 3) := by decide +kernel
theorem dX7_records_49 : decode cX7_records 49 = .ok (.iconst 0, 1) := by decide +kernel
theorem dX7_records_50 : decode cX7_records 50 = .ok (.istore_n 1, 1) := by decide +kernel
theorem dX7_records_51 : decode cX7_records 51 = .ok (.iload_n 1, 1) := by decide +kernel
theorem dX7_records_52 : decode cX7_records 52 = .ok (.sipush 286, 3) := by decide +kernel
theorem dX7_records_55 : decode cX7_records 55 = .ok (.if_icmp .ge 30, 3) := by decide +kernel
theorem dX7_records_58 : decode cX7_records 58 = .ok (.aload_n 0, 1) := by decide +kernel
theorem dX7_records_59 : decode cX7_records 59 = .ok (.getfield 16, 3) := by decide +kernel
theorem dX7_records_62 : decode cX7_records 62 = .ok (.sipush 286, 3) := by decide +kernel
theorem dX7_records_65 : decode cX7_records 65 = .ok (.aload_n 0, 1) := by decide +kernel
theorem dX7_records_66 : decode cX7_records 66 = .ok (.getfield 37, 3) := by decide +kernel
theorem dX7_records_69 : decode cX7_records 69 = .ok (.imul, 1) := by decide +kernel
theorem dX7_records_70 : decode cX7_records 70 = .ok (.iload_n 1, 1) := by decide +kernel
theorem dX7_records_71 : decode cX7_records 71 = .ok (.iadd, 1) := by decide +kernel
theorem dX7_records_72 : decode cX7_records 72 = .ok (.aload_n 0, 1) := by decide +kernel
theorem dX7_records_73 : decode cX7_records 73 = .ok (.getfield 13, 3) := by decide +kernel
theorem dX7_records_76 : decode cX7_records 76 = .ok (.iload_n 1, 1) := by decide +kernel
theorem dX7_records_77 : decode cX7_records 77 = .ok (.iaload, 1) := by decide +kernel
theorem dX7_records_78 : decode cX7_records 78 = .ok (.iastore, 1) := by decide +kernel
theorem dX7_records_79 : decode cX7_records 79 = .ok (.iinc 1 1, 3) := by decide +kernel
theorem dX7_records_82 : decode cX7_records 82 = .ok (.goto (-31), 3) := by decide +kernel
theorem dX7_records_85 : decode cX7_records 85 = .ok (.aload_n 0, 1) := by decide +kernel
theorem dX7_records_86 : decode cX7_records 86 = .ok (.dup, 1) := by decide +kernel
theorem dX7_records_87 : decode cX7_records 87 = .ok (.getfield 37, 3) := by decide +kernel
theorem dX7_records_90 : decode cX7_records 90 = .ok (.iconst 1, 1) := by decide +kernel
theorem dX7_records_91 : decode cX7_records 91 = .ok (.iadd, 1) := by decide +kernel
theorem dX7_records_92 : decode cX7_records 92 = .ok (.putfield 37, 3) := by decide +kernel
theorem dX7_records_95 : decode cX7_records 95 = .ok (.return_, 1) := by decide +kernel
set_option maxRecDepth 20000 in
theorem ggX7_ends_X7_comesBack : GoodIn wsX7_ends wsX7_comesBack := goodIn_r _ [5, 6, 7, 14, 15, 16, 17, 18, 19, 20, 21, 22, 23, 24, 25, 26, 27] (by decide +kernel) (by decide +kernel)
set_option maxRecDepth 20000 in
theorem gX7_ends_X7_comesBack : GoodIn wsX7_ends (wsV RX7 41 RX7 yX7_comesBack wsX7_comesBack) := goodIn_app (goodIn_of _ (by decide +kernel)) ggX7_ends_X7_comesBack
set_option maxRecDepth 20000 in
theorem ggX7_ends_X7_records : GoodIn wsX7_ends wsX7_records := goodIn_r _ [11, 12, 13, 7, 14, 15, 16, 17, 18, 19, 20, 21, 22, 23, 24, 25, 26, 27] (by decide +kernel) (by decide +kernel)
set_option maxRecDepth 20000 in
theorem gX7_ends_X7_records : GoodIn wsX7_ends (wsV RX7 44 RX7 yX7_records wsX7_records) := goodIn_app (goodIn_of _ (by decide +kernel)) ggX7_ends_X7_records
theorem dX7_ends_0 : decode cX7_ends 0 = .ok (.iload_n 1, 1) := by decide +kernel
theorem dX7_ends_1 : decode cX7_ends 1 = .ok (.ifCond .ge 10, 3) := by decide +kernel
theorem dX7_ends_4 : decode cX7_ends 4 = .ok (.aload_n 0, 1) := by decide +kernel
theorem dX7_ends_5 : decode cX7_ends 5 = .ok (.invokevirtual 41, 3) := by decide +kernel
theorem dX7_ends_8 : decode cX7_ends 8 = .ok (.goto 7, 3) := by decide +kernel
theorem dX7_ends_11 : decode cX7_ends 11 = .ok (.aload_n 0, 1) := by decide +kernel
theorem dX7_ends_12 : decode cX7_ends 12 = .ok (.invokevirtual 44, 3) := by decide +kernel
theorem dX7_ends_15 : decode cX7_ends 15 = .ok (.iload_n 1, 1) := by decide +kernel
theorem dX7_ends_16 : decode cX7_ends 16 = .ok (.ireturn, 1) := by decide +kernel
set_option maxRecDepth 20000 in
theorem ggX7_isKind_X7_in : GoodIn wsX7_isKind wsX7_in := goodIn_r _ [5] (by decide +kernel) (by decide +kernel)
set_option maxRecDepth 20000 in
theorem gX7_isKind_X7_in : GoodIn wsX7_isKind (va_wsS RX7 47 yX7_in wsX7_in) := goodIn_app (goodIn_of _ (by decide +kernel)) ggX7_isKind_X7_in
theorem dX7_isKind_0 : decode cX7_isKind 0 = .ok (.iload_n 1, 1) := by decide +kernel
theorem dX7_isKind_1 : decode cX7_isKind 1 = .ok (.i2l, 1) := by decide +kernel
theorem dX7_isKind_2 : decode cX7_isKind 2 = .ok (.lconst 0, 1) := by decide +kernel
theorem dX7_isKind_3 : decode cX7_isKind 3 = .ok (.aload_n 0, 1) := by decide +kernel
theorem dX7_isKind_4 : decode cX7_isKind 4 = .ok (.getfield 7, 3) := by decide +kernel
theorem dX7_isKind_7 : decode cX7_isKind 7 = .ok (.iconst 1, 1) := by decide +kernel
theorem dX7_isKind_8 : decode cX7_isKind 8 = .ok (.iaload, 1) := by decide +kernel
theorem dX7_isKind_9 : decode cX7_isKind 9 = .ok (.i2l, 1) := by decide +kernel
theorem dX7_isKind_10 : decode cX7_isKind 10 = .ok (.lconst 1, 1) := by decide +kernel
theorem dX7_isKind_11 : decode cX7_isKind 11 = .ok (.lsub, 1) := by decide +kernel
theorem dX7_isKind_12 : decode cX7_isKind 12 = .ok (.invokestatic 47, 3) := by decide +kernel
theorem dX7_isKind_15 : decode cX7_isKind 15 = .ok (.ireturn, 1) := by decide +kernel
theorem dX7_handOf_0 : decode cX7_handOf 0 = .ok (.aload_n 0, 1) := by decide +kernel
theorem dX7_handOf_1 : decode cX7_handOf 1 = .ok (.getfield 7, 3) := by decide +kernel
theorem dX7_handOf_4 : decode cX7_handOf 4 = .ok (.iconst 2, 1) := by decide +kernel
theorem dX7_handOf_5 : decode cX7_handOf 5 = .ok (.iload_n 1, 1) := by decide +kernel
theorem dX7_handOf_6 : decode cX7_handOf 6 = .ok (.iconst 2, 1) := by decide +kernel
theorem dX7_handOf_7 : decode cX7_handOf 7 = .ok (.idiv, 1) := by decide +kernel
theorem dX7_handOf_8 : decode cX7_handOf 8 = .ok (.iconst 2, 1) := by decide +kernel
theorem dX7_handOf_9 : decode cX7_handOf 9 = .ok (.imul, 1) := by decide +kernel
theorem dX7_handOf_10 : decode cX7_handOf 10 = .ok (.iadd, 1) := by decide +kernel
theorem dX7_handOf_11 : decode cX7_handOf 11 = .ok (.iload_n 2, 1) := by decide +kernel
theorem dX7_handOf_12 : decode cX7_handOf 12 = .ok (.iload_n 1, 1) := by decide +kernel
theorem dX7_handOf_13 : decode cX7_handOf 13 = .ok (.iadd, 1) := by decide +kernel
theorem dX7_handOf_14 : decode cX7_handOf 14 = .ok (.iconst 2, 1) := by decide +kernel
theorem dX7_handOf_15 : decode cX7_handOf 15 = .ok (.irem, 1) := by decide +kernel
theorem dX7_handOf_16 : decode cX7_handOf 16 = .ok (.iadd, 1) := by decide +kernel
theorem dX7_handOf_17 : decode cX7_handOf 17 = .ok (.iaload, 1) := by decide +kernel
theorem dX7_handOf_18 : decode cX7_handOf 18 = .ok (.ireturn, 1) := by decide +kernel
set_option maxRecDepth 20000 in
theorem ggX7_clash_X7_handOf : GoodIn wsX7_clash wsX7_handOf := goodIn_r _ [6, 1, 7, 8, 9, 10, 11, 12, 13, 14, 15, 16, 17, 18, 19, 20] (by decide +kernel) (by decide +kernel)
set_option maxRecDepth 20000 in
theorem gX7_clash_X7_handOf : GoodIn wsX7_clash (wsV RX7 51 RX7 yX7_handOf wsX7_handOf) := goodIn_app (goodIn_of _ (by decide +kernel)) ggX7_clash_X7_handOf
theorem dX7_clash_0 : decode cX7_clash 0 = .ok (.aload_n 0, 1) := by decide +kernel
theorem dX7_clash_1 : decode cX7_clash 1 = .ok (.iload_n 1, 1) := by decide +kernel
theorem dX7_clash_2 : decode cX7_clash 2 = .ok (.iconst 1, 1) := by decide +kernel
theorem dX7_clash_3 : decode cX7_clash 3 = .ok (.invokevirtual 51, 3) := by decide +kernel
theorem dX7_clash_6 : decode cX7_clash 6 = .ok (.istore_n 3, 1) := by decide +kernel
theorem dX7_clash_7 : decode cX7_clash 7 = .ok (.aload_n 0, 1) := by decide +kernel
theorem dX7_clash_8 : decode cX7_clash 8 = .ok (.iload_n 2, 1) := by decide +kernel
theorem dX7_clash_9 : decode cX7_clash 9 = .ok (.iconst 0, 1) := by decide +kernel
theorem dX7_clash_10 : decode cX7_clash 10 = .ok (.invokevirtual 51, 3) := by decide +kernel
theorem dX7_clash_13 : decode cX7_clash 13 = .ok (.istore 4, 2) := by decide +kernel
theorem dX7_clash_15 : decode cX7_clash 15 = .ok (.iload_n 3, 1) := by decide +kernel
theorem dX7_clash_16 : decode cX7_clash 16 = .ok (.ifCond .eq 8, 3) := by decide +kernel
theorem dX7_clash_19 : decode cX7_clash 19 = .ok (.iload 4, 2) := by decide +kernel
theorem dX7_clash_21 : decode cX7_clash 21 = .ok (.ifCond .ne 5, 3) := by decide +kernel
theorem dX7_clash_24 : decode cX7_clash 24 = .ok (.iconst 0, 1) := by decide +kernel
theorem dX7_clash_25 : decode cX7_clash 25 = .ok (.ireturn, 1) := by decide +kernel
theorem dX7_clash_26 : decode cX7_clash 26 = .ok (.aload_n 0, 1) := by decide +kernel
theorem dX7_clash_27 : decode cX7_clash 27 = .ok (.getfield 7, 3) := by decide +kernel
theorem dX7_clash_30 : decode cX7_clash 30 = .ok (.iconst 0, 1) := by decide +kernel
theorem dX7_clash_31 : decode cX7_clash 31 = .ok (.iaload, 1) := by decide +kernel
theorem dX7_clash_32 : decode cX7_clash 32 = .ok (.iconst 2, 1) := by decide +kernel
theorem dX7_clash_33 : decode cX7_clash 33 = .ok (.if_icmp .ne 17, 3) := by decide +kernel
theorem dX7_clash_36 : decode cX7_clash 36 = .ok (.iload_n 3, 1) := by decide +kernel
theorem dX7_clash_37 : decode cX7_clash 37 = .ok (.iload 4, 2) := by decide +kernel
theorem dX7_clash_39 : decode cX7_clash 39 = .ok (.if_icmp .eq 7, 3) := by decide +kernel
theorem dX7_clash_42 : decode cX7_clash 42 = .ok (.iconst 1, 1) := by decide +kernel
theorem dX7_clash_43 : decode cX7_clash 43 = .ok (.goto 37, 3) := by decide +kernel
theorem dX7_clash_46 : decode cX7_clash 46 = .ok (.iconst 0, 1) := by decide +kernel
theorem dX7_clash_47 : decode cX7_clash 47 = .ok (.goto 33, 3) := by decide +kernel
theorem dX7_clash_50 : decode cX7_clash 50 = .ok (.iload_n 3, 1) := by decide +kernel
theorem dX7_clash_51 : decode cX7_clash 51 = .ok (.iload 4, 2) := by decide +kernel
theorem dX7_clash_53 : decode cX7_clash 53 = .ok (.if_icmp .ne 26, 3) := by decide +kernel
theorem dX7_clash_56 : decode cX7_clash 56 = .ok (.aload_n 0, 1) := by decide +kernel
theorem dX7_clash_57 : decode cX7_clash 57 = .ok (.getfield 7, 3) := by decide +kernel
theorem dX7_clash_60 : decode cX7_clash 60 = .ok (.iconst 0, 1) := by decide +kernel
theorem dX7_clash_61 : decode cX7_clash 61 = .ok (.iaload, 1) := by decide +kernel
theorem dX7_clash_62 : decode cX7_clash 62 = .ok (.iconst 1, 1) := by decide +kernel
theorem dX7_clash_63 : decode cX7_clash 63 = .ok (.if_icmp .eq 12, 3) := by decide +kernel
theorem dX7_clash_66 : decode cX7_clash 66 = .ok (.iload_n 1, 1) := by decide +kernel
theorem dX7_clash_67 : decode cX7_clash 67 = .ok (.iload_n 2, 1) := by decide +kernel
theorem dX7_clash_68 : decode cX7_clash 68 = .ok (.iadd, 1) := by decide +kernel
theorem dX7_clash_69 : decode cX7_clash 69 = .ok (.iconst 2, 1) := by decide +kernel
theorem dX7_clash_70 : decode cX7_clash 70 = .ok (.irem, 1) := by decide +kernel
theorem dX7_clash_71 : decode cX7_clash 71 = .ok (.iconst 1, 1) := by decide +kernel
theorem dX7_clash_72 : decode cX7_clash 72 = .ok (.if_icmp .ne 7, 3) := by decide +kernel
theorem dX7_clash_75 : decode cX7_clash 75 = .ok (.iconst 1, 1) := by decide +kernel
theorem dX7_clash_76 : decode cX7_clash 76 = .ok (.goto 4, 3) := by decide +kernel
theorem dX7_clash_79 : decode cX7_clash 79 = .ok (.iconst 0, 1) := by decide +kernel
theorem dX7_clash_80 : decode cX7_clash 80 = .ok (.ireturn, 1) := by decide +kernel
set_option maxRecDepth 20000 in
theorem ggX7_isGarland_X7_in : GoodIn wsX7_isGarland wsX7_in := goodIn_r _ [6] (by decide +kernel) (by decide +kernel)
set_option maxRecDepth 20000 in
theorem gX7_isGarland_X7_in : GoodIn wsX7_isGarland (va_wsS RX7 47 yX7_in wsX7_in) := goodIn_app (goodIn_of _ (by decide +kernel)) ggX7_isGarland_X7_in
theorem dX7_isGarland_0 : decode cX7_isGarland 0 = .ok (.iload_n 1, 1) := by decide +kernel
theorem dX7_isGarland_1 : decode cX7_isGarland 1 = .ok (.i2l, 1) := by decide +kernel
theorem dX7_isGarland_2 : decode cX7_isGarland 2 = .ok (.lconst 0, 1) := by decide +kernel
theorem dX7_isGarland_3 : decode cX7_isGarland 3 = .ok (.ldc2_w 55, 3) := by decide +kernel
theorem dX7_isGarland_6 : decode cX7_isGarland 6 = .ok (.invokestatic 47, 3) := by decide +kernel
theorem dX7_isGarland_9 : decode cX7_isGarland 9 = .ok (.ifCond .eq 19, 3) := by decide +kernel
theorem dX7_isGarland_12 : decode cX7_isGarland 12 = .ok (.aload_n 0, 1) := by decide +kernel
theorem dX7_isGarland_13 : decode cX7_isGarland 13 = .ok (.getfield 7, 3) := by decide +kernel
theorem dX7_isGarland_16 : decode cX7_isGarland 16 = .ok (.bipush 22, 2) := by decide +kernel
theorem dX7_isGarland_18 : decode cX7_isGarland 18 = .ok (.iload_n 1, 1) := by decide +kernel
theorem dX7_isGarland_19 : decode cX7_isGarland 19 = .ok (.iadd, 1) := by decide +kernel
theorem dX7_isGarland_20 : decode cX7_isGarland 20 = .ok (.iaload, 1) := by decide +kernel
theorem dX7_isGarland_21 : decode cX7_isGarland 21 = .ok (.ifCond .le 7, 3) := by decide +kernel
theorem dX7_isGarland_24 : decode cX7_isGarland 24 = .ok (.iconst 1, 1) := by decide +kernel
theorem dX7_isGarland_25 : decode cX7_isGarland 25 = .ok (.goto 4, 3) := by decide +kernel
theorem dX7_isGarland_28 : decode cX7_isGarland 28 = .ok (.iconst 0, 1) := by decide +kernel
theorem dX7_isGarland_29 : decode cX7_isGarland 29 = .ok (.ireturn, 1) := by decide +kernel
theorem dX7_dollAt_0 : decode cX7_dollAt 0 = .ok (.aload_n 0, 1) := by decide +kernel
theorem dX7_dollAt_1 : decode cX7_dollAt 1 = .ok (.getfield 7, 3) := by decide +kernel
theorem dX7_dollAt_4 : decode cX7_dollAt 4 = .ok (.bipush 30, 2) := by decide +kernel
theorem dX7_dollAt_6 : decode cX7_dollAt 6 = .ok (.bipush 32, 2) := by decide +kernel
theorem dX7_dollAt_8 : decode cX7_dollAt 8 = .ok (.iload_n 1, 1) := by decide +kernel
theorem dX7_dollAt_9 : decode cX7_dollAt 9 = .ok (.imul, 1) := by decide +kernel
theorem dX7_dollAt_10 : decode cX7_dollAt 10 = .ok (.iadd, 1) := by decide +kernel
theorem dX7_dollAt_11 : decode cX7_dollAt 11 = .ok (.iload_n 2, 1) := by decide +kernel
theorem dX7_dollAt_12 : decode cX7_dollAt 12 = .ok (.iadd, 1) := by decide +kernel
theorem dX7_dollAt_13 : decode cX7_dollAt 13 = .ok (.iaload, 1) := by decide +kernel
theorem dX7_dollAt_14 : decode cX7_dollAt 14 = .ok (.ireturn, 1) := by decide +kernel
set_option maxRecDepth 20000 in
theorem ggX7_last_X7_dollAt : GoodIn wsX7_last wsX7_dollAt := goodIn_r _ [6, 1, 7, 8, 9, 10, 11, 12, 13, 14, 15, 16, 17, 18, 19, 20] (by decide +kernel) (by decide +kernel)
set_option maxRecDepth 20000 in
theorem gX7_last_X7_dollAt : GoodIn wsX7_last (wsV RX7 57 RX7 yX7_dollAt wsX7_dollAt) := goodIn_app (goodIn_of _ (by decide +kernel)) ggX7_last_X7_dollAt
theorem dX7_last_0 : decode cX7_last 0 = .ok (.aload_n 0, 1) := by decide +kernel
theorem dX7_last_1 : decode cX7_last 1 = .ok (.iload_n 1, 1) := by decide +kernel
theorem dX7_last_2 : decode cX7_last 2 = .ok (.aload_n 0, 1) := by decide +kernel
theorem dX7_last_3 : decode cX7_last 3 = .ok (.getfield 7, 3) := by decide +kernel
theorem dX7_last_6 : decode cX7_last 6 = .ok (.bipush 22, 2) := by decide +kernel
theorem dX7_last_8 : decode cX7_last 8 = .ok (.iload_n 1, 1) := by decide +kernel
theorem dX7_last_9 : decode cX7_last 9 = .ok (.iadd, 1) := by decide +kernel
theorem dX7_last_10 : decode cX7_last 10 = .ok (.iaload, 1) := by decide +kernel
theorem dX7_last_11 : decode cX7_last 11 = .ok (.iconst 1, 1) := by decide +kernel
theorem dX7_last_12 : decode cX7_last 12 = .ok (.isub, 1) := by decide +kernel
theorem dX7_last_13 : decode cX7_last 13 = .ok (.invokevirtual 57, 3) := by decide +kernel
theorem dX7_last_16 : decode cX7_last 16 = .ok (.ireturn, 1) := by decide +kernel
theorem dX7_lays_0 : decode cX7_lays 0 = .ok (.aload_n 0, 1) := by decide +kernel
theorem dX7_lays_1 : decode cX7_lays 1 = .ok (.getfield 7, 3) := by decide +kernel
theorem dX7_lays_4 : decode cX7_lays 4 = .ok (.bipush 30, 2) := by decide +kernel
theorem dX7_lays_6 : decode cX7_lays 6 = .ok (.bipush 32, 2) := by decide +kernel
theorem dX7_lays_8 : decode cX7_lays 8 = .ok (.iload_n 1, 1) := by decide +kernel
theorem dX7_lays_9 : decode cX7_lays 9 = .ok (.imul, 1) := by decide +kernel
theorem dX7_lays_10 : decode cX7_lays 10 = .ok (.iadd, 1) := by decide +kernel
theorem dX7_lays_11 : decode cX7_lays 11 = .ok (.iload_n 2, 1) := by decide +kernel
theorem dX7_lays_12 : decode cX7_lays 12 = .ok (.iadd, 1) := by decide +kernel
theorem dX7_lays_13 : decode cX7_lays 13 = .ok (.iload_n 3, 1) := by decide +kernel
theorem dX7_lays_14 : decode cX7_lays 14 = .ok (.iastore, 1) := by decide +kernel
theorem dX7_lays_15 : decode cX7_lays 15 = .ok (.return_, 1) := by decide +kernel
theorem dX7_freeNumber_0 : decode cX7_freeNumber 0 = .ok (.iconst 0, 1) := by decide +kernel
theorem dX7_freeNumber_1 : decode cX7_freeNumber 1 = .ok (.istore_n 1, 1) := by decide +kernel
theorem dX7_freeNumber_2 : decode cX7_freeNumber 2 = .ok (.iload_n 1, 1) := by decide +kernel
theorem dX7_freeNumber_3 : decode cX7_freeNumber 3 = .ok (.bipush 8, 2) := by decide +kernel
theorem dX7_freeNumber_5 : decode cX7_freeNumber 5 = .ok (.if_icmp .ge 23, 3) := by decide +kernel
theorem dX7_freeNumber_8 : decode cX7_freeNumber 8 = .ok (.aload_n 0, 1) := by decide +kernel
theorem dX7_freeNumber_9 : decode cX7_freeNumber 9 = .ok (.getfield 7, 3) := by decide +kernel
theorem dX7_freeNumber_12 : decode cX7_freeNumber 12 = .ok (.bipush 22, 2) := by decide +kernel
theorem dX7_freeNumber_14 : decode cX7_freeNumber 14 = .ok (.iload_n 1, 1) := by decide +kernel
theorem dX7_freeNumber_15 : decode cX7_freeNumber 15 = .ok (.iadd, 1) := by decide +kernel
theorem dX7_freeNumber_16 : decode cX7_freeNumber 16 = .ok (.iaload, 1) := by decide +kernel
theorem dX7_freeNumber_17 : decode cX7_freeNumber 17 = .ok (.ifCond .ne 5, 3) := by decide +kernel
theorem dX7_freeNumber_20 : decode cX7_freeNumber 20 = .ok (.iload_n 1, 1) := by decide +kernel
theorem dX7_freeNumber_21 : decode cX7_freeNumber 21 = .ok (.ireturn, 1) := by decide +kernel
theorem dX7_freeNumber_22 : decode cX7_freeNumber 22 = .ok (.iinc 1 1, 3) := by decide +kernel
theorem dX7_freeNumber_25 : decode cX7_freeNumber 25 = .ok (.goto (-23), 3) := by decide +kernel
theorem dX7_freeNumber_28 : decode cX7_freeNumber 28 = .ok (.bipush (-5), 2) := by decide +kernel
theorem dX7_freeNumber_30 : decode cX7_freeNumber 30 = .ok (.ireturn, 1) := by decide +kernel
set_option maxRecDepth 20000 in
theorem ggX7_anyClash_X7_dollAt : GoodIn wsX7_anyClash wsX7_dollAt := goodIn_r _ [6, 1, 15, 16, 17, 18, 19, 20, 21, 22, 23, 24, 25, 26, 27, 28] (by decide +kernel) (by decide +kernel)
set_option maxRecDepth 20000 in
theorem gX7_anyClash_X7_dollAt : GoodIn wsX7_anyClash (wsV RX7 57 RX7 yX7_dollAt wsX7_dollAt) := goodIn_app (goodIn_of _ (by decide +kernel)) ggX7_anyClash_X7_dollAt
set_option maxRecDepth 20000 in
theorem ggX7_anyClash_X7_clash : GoodIn wsX7_anyClash wsX7_clash := goodIn_r _ [10, 1, 11, 12, 13, 5, 14, 15, 16, 17, 18, 19, 20, 21, 22, 23, 24, 25, 26, 27, 28] (by decide +kernel) (by decide +kernel)
set_option maxRecDepth 20000 in
theorem gX7_anyClash_X7_clash : GoodIn wsX7_anyClash (wsV RX7 60 RX7 yX7_clash wsX7_clash) := goodIn_app (goodIn_of _ (by decide +kernel)) ggX7_anyClash_X7_clash
theorem dX7_anyClash_0 : decode cX7_anyClash 0 = .ok (.iconst 0, 1) := by decide +kernel
theorem dX7_anyClash_1 : decode cX7_anyClash 1 = .ok (.istore_n 1, 1) := by decide +kernel
theorem dX7_anyClash_2 : decode cX7_anyClash 2 = .ok (.iconst 0, 1) := by decide +kernel
theorem dX7_anyClash_3 : decode cX7_anyClash 3 = .ok (.istore_n 2, 1) := by decide +kernel
theorem dX7_anyClash_4 : decode cX7_anyClash 4 = .ok (.iload_n 2, 1) := by decide +kernel
theorem dX7_anyClash_5 : decode cX7_anyClash 5 = .ok (.bipush 8, 2) := by decide +kernel
theorem dX7_anyClash_7 : decode cX7_anyClash 7 = .ok (.if_icmp .ge 61, 3) := by decide +kernel
theorem dX7_anyClash_10 : decode cX7_anyClash 10 = .ok (.iconst 1, 1) := by decide +kernel
theorem dX7_anyClash_11 : decode cX7_anyClash 11 = .ok (.istore_n 3, 1) := by decide +kernel
theorem dX7_anyClash_12 : decode cX7_anyClash 12 = .ok (.iload_n 3, 1) := by decide +kernel
theorem dX7_anyClash_13 : decode cX7_anyClash 13 = .ok (.aload_n 0, 1) := by decide +kernel
theorem dX7_anyClash_14 : decode cX7_anyClash 14 = .ok (.getfield 7, 3) := by decide +kernel
theorem dX7_anyClash_17 : decode cX7_anyClash 17 = .ok (.bipush 22, 2) := by decide +kernel
theorem dX7_anyClash_19 : decode cX7_anyClash 19 = .ok (.iload_n 2, 1) := by decide +kernel
theorem dX7_anyClash_20 : decode cX7_anyClash 20 = .ok (.iadd, 1) := by decide +kernel
theorem dX7_anyClash_21 : decode cX7_anyClash 21 = .ok (.iaload, 1) := by decide +kernel
theorem dX7_anyClash_22 : decode cX7_anyClash 22 = .ok (.if_icmp .ge 40, 3) := by decide +kernel
theorem dX7_anyClash_25 : decode cX7_anyClash 25 = .ok (.iload_n 1, 1) := by decide +kernel
theorem dX7_anyClash_26 : decode cX7_anyClash 26 = .ok (.ifCond .ne 24, 3) := by decide +kernel
theorem dX7_anyClash_29 : decode cX7_anyClash 29 = .ok (.aload_n 0, 1) := by decide +kernel
theorem dX7_anyClash_30 : decode cX7_anyClash 30 = .ok (.aload_n 0, 1) := by decide +kernel
theorem dX7_anyClash_31 : decode cX7_anyClash 31 = .ok (.iload_n 2, 1) := by decide +kernel
theorem dX7_anyClash_32 : decode cX7_anyClash 32 = .ok (.iload_n 3, 1) := by decide +kernel
theorem dX7_anyClash_33 : decode cX7_anyClash 33 = .ok (.iconst 1, 1) := by decide +kernel
theorem dX7_anyClash_34 : decode cX7_anyClash 34 = .ok (.isub, 1) := by decide +kernel
theorem dX7_anyClash_35 : decode cX7_anyClash 35 = .ok (.invokevirtual 57, 3) := by decide +kernel
theorem dX7_anyClash_38 : decode cX7_anyClash 38 = .ok (.aload_n 0, 1) := by decide +kernel
theorem dX7_anyClash_39 : decode cX7_anyClash 39 = .ok (.iload_n 2, 1) := by decide +kernel
theorem dX7_anyClash_40 : decode cX7_anyClash 40 = .ok (.iload_n 3, 1) := by decide +kernel
theorem dX7_anyClash_41 : decode cX7_anyClash 41 = .ok (.invokevirtual 57, 3) := by decide +kernel
theorem dX7_anyClash_44 : decode cX7_anyClash 44 = .ok (.invokevirtual 60, 3) := by decide +kernel
theorem dX7_anyClash_47 : decode cX7_anyClash 47 = .ok (.ifCond .eq 7, 3) := by decide +kernel
theorem dX7_anyClash_50 : decode cX7_anyClash 50 = .ok (.iconst 1, 1) := by decide +kernel
theorem dX7_anyClash_51 : decode cX7_anyClash 51 = .ok (.goto 4, 3) := by decide +kernel
theorem dX7_anyClash_54 : decode cX7_anyClash 54 = .ok (.iconst 0, 1) := by decide +kernel
theorem dX7_anyClash_55 : decode cX7_anyClash 55 = .ok (.istore_n 1, 1) := by decide +kernel
theorem dX7_anyClash_56 : decode cX7_anyClash 56 = .ok (.iinc 3 1, 3) := by decide +kernel
theorem dX7_anyClash_59 : decode cX7_anyClash 59 = .ok (.goto (-47), 3) := by decide +kernel
theorem dX7_anyClash_62 : decode cX7_anyClash 62 = .ok (.iinc 2 1, 3) := by decide +kernel
theorem dX7_anyClash_65 : decode cX7_anyClash 65 = .ok (.goto (-61), 3) := by decide +kernel
theorem dX7_anyClash_68 : decode cX7_anyClash 68 = .ok (.iload_n 1, 1) := by decide +kernel
theorem dX7_anyClash_69 : decode cX7_anyClash 69 = .ok (.ireturn, 1) := by decide +kernel
set_option maxRecDepth 20000 in
theorem ggX7_turnedDoll_X7_dollAt : GoodIn wsX7_turnedDoll wsX7_dollAt := goodIn_r _ [6, 1, 7, 8, 9, 10, 11, 12, 13, 14, 15, 16, 17, 18, 19, 20] (by decide +kernel) (by decide +kernel)
set_option maxRecDepth 20000 in
theorem gX7_turnedDoll_X7_dollAt : GoodIn wsX7_turnedDoll (wsV RX7 57 RX7 yX7_dollAt wsX7_dollAt) := goodIn_app (goodIn_of _ (by decide +kernel)) ggX7_turnedDoll_X7_dollAt
theorem dX7_turnedDoll_0 : decode cX7_turnedDoll 0 = .ok (.aload_n 0, 1) := by decide +kernel
theorem dX7_turnedDoll_1 : decode cX7_turnedDoll 1 = .ok (.iload_n 1, 1) := by decide +kernel
theorem dX7_turnedDoll_2 : decode cX7_turnedDoll 2 = .ok (.aload_n 0, 1) := by decide +kernel
theorem dX7_turnedDoll_3 : decode cX7_turnedDoll 3 = .ok (.getfield 7, 3) := by decide +kernel
theorem dX7_turnedDoll_6 : decode cX7_turnedDoll 6 = .ok (.bipush 22, 2) := by decide +kernel
theorem dX7_turnedDoll_8 : decode cX7_turnedDoll 8 = .ok (.iload_n 1, 1) := by decide +kernel
theorem dX7_turnedDoll_9 : decode cX7_turnedDoll 9 = .ok (.iadd, 1) := by decide +kernel
theorem dX7_turnedDoll_10 : decode cX7_turnedDoll 10 = .ok (.iaload, 1) := by decide +kernel
theorem dX7_turnedDoll_11 : decode cX7_turnedDoll 11 = .ok (.iconst 1, 1) := by decide +kernel
theorem dX7_turnedDoll_12 : decode cX7_turnedDoll 12 = .ok (.isub, 1) := by decide +kernel
theorem dX7_turnedDoll_13 : decode cX7_turnedDoll 13 = .ok (.iload_n 2, 1) := by decide +kernel
theorem dX7_turnedDoll_14 : decode cX7_turnedDoll 14 = .ok (.isub, 1) := by decide +kernel
theorem dX7_turnedDoll_15 : decode cX7_turnedDoll 15 = .ok (.invokevirtual 57, 3) := by decide +kernel
theorem dX7_turnedDoll_18 : decode cX7_turnedDoll 18 = .ok (.iconst 1, 1) := by decide +kernel
theorem dX7_turnedDoll_19 : decode cX7_turnedDoll 19 = .ok (.ixor, 1) := by decide +kernel
theorem dX7_turnedDoll_20 : decode cX7_turnedDoll 20 = .ok (.ireturn, 1) := by decide +kernel
set_option maxRecDepth 20000 in
theorem ggX7_isLike_X7_dollAt : GoodIn wsX7_isLike wsX7_dollAt := goodIn_r _ [6, 1, 11, 12, 13, 14, 15, 16, 17, 18, 19, 20, 21, 22, 23, 24] (by decide +kernel) (by decide +kernel)
set_option maxRecDepth 20000 in
theorem gX7_isLike_X7_dollAt : GoodIn wsX7_isLike (wsV RX7 57 RX7 yX7_dollAt wsX7_dollAt) := goodIn_app (goodIn_of _ (by decide +kernel)) ggX7_isLike_X7_dollAt
set_option maxRecDepth 20000 in
theorem ggX7_isLike_X7_turnedDoll : GoodIn wsX7_isLike wsX7_turnedDoll := goodIn_r _ [10, 1, 2, 3, 4, 5, 6, 11, 12, 13, 14, 15, 16, 17, 18, 19, 20, 21, 22, 23, 24] (by decide +kernel) (by decide +kernel)
set_option maxRecDepth 20000 in
theorem gX7_isLike_X7_turnedDoll : GoodIn wsX7_isLike (wsV RX7 64 RX7 yX7_turnedDoll wsX7_turnedDoll) := goodIn_app (goodIn_of _ (by decide +kernel)) ggX7_isLike_X7_turnedDoll
theorem dX7_isLike_0 : decode cX7_isLike 0 = .ok (.aload_n 0, 1) := by decide +kernel
theorem dX7_isLike_1 : decode cX7_isLike 1 = .ok (.getfield 7, 3) := by decide +kernel
theorem dX7_isLike_4 : decode cX7_isLike 4 = .ok (.bipush 22, 2) := by decide +kernel
theorem dX7_isLike_6 : decode cX7_isLike 6 = .ok (.iload_n 1, 1) := by decide +kernel
theorem dX7_isLike_7 : decode cX7_isLike 7 = .ok (.iadd, 1) := by decide +kernel
theorem dX7_isLike_8 : decode cX7_isLike 8 = .ok (.iaload, 1) := by decide +kernel
theorem dX7_isLike_9 : decode cX7_isLike 9 = .ok (.aload_n 0, 1) := by decide +kernel
theorem dX7_isLike_10 : decode cX7_isLike 10 = .ok (.getfield 7, 3) := by decide +kernel
theorem dX7_isLike_13 : decode cX7_isLike 13 = .ok (.bipush 22, 2) := by decide +kernel
theorem dX7_isLike_15 : decode cX7_isLike 15 = .ok (.iload_n 2, 1) := by decide +kernel
theorem dX7_isLike_16 : decode cX7_isLike 16 = .ok (.iadd, 1) := by decide +kernel
theorem dX7_isLike_17 : decode cX7_isLike 17 = .ok (.iaload, 1) := by decide +kernel
theorem dX7_isLike_18 : decode cX7_isLike 18 = .ok (.if_icmp .ne 7, 3) := by decide +kernel
theorem dX7_isLike_21 : decode cX7_isLike 21 = .ok (.iconst 1, 1) := by decide +kernel
theorem dX7_isLike_22 : decode cX7_isLike 22 = .ok (.goto 4, 3) := by decide +kernel
theorem dX7_isLike_25 : decode cX7_isLike 25 = .ok (.iconst 0, 1) := by decide +kernel
theorem dX7_isLike_26 : decode cX7_isLike 26 = .ok (.istore 4, 2) := by decide +kernel
theorem dX7_isLike_28 : decode cX7_isLike 28 = .ok (.iconst 0, 1) := by decide +kernel
theorem dX7_isLike_29 : decode cX7_isLike 29 = .ok (.istore 5, 2) := by decide +kernel
theorem dX7_isLike_31 : decode cX7_isLike 31 = .ok (.iload 5, 2) := by decide +kernel
theorem dX7_isLike_33 : decode cX7_isLike 33 = .ok (.aload_n 0, 1) := by decide +kernel
theorem dX7_isLike_34 : decode cX7_isLike 34 = .ok (.getfield 7, 3) := by decide +kernel
theorem dX7_isLike_37 : decode cX7_isLike 37 = .ok (.bipush 22, 2) := by decide +kernel
theorem dX7_isLike_39 : decode cX7_isLike 39 = .ok (.iload_n 1, 1) := by decide +kernel
theorem dX7_isLike_40 : decode cX7_isLike 40 = .ok (.iadd, 1) := by decide +kernel
theorem dX7_isLike_41 : decode cX7_isLike 41 = .ok (.iaload, 1) := by decide +kernel
theorem dX7_isLike_42 : decode cX7_isLike 42 = .ok (.if_icmp .ge 52, 3) := by decide +kernel
theorem dX7_isLike_45 : decode cX7_isLike 45 = .ok (.iload 4, 2) := by decide +kernel
theorem dX7_isLike_47 : decode cX7_isLike 47 = .ok (.ifCond .eq 47, 3) := by decide +kernel
theorem dX7_isLike_50 : decode cX7_isLike 50 = .ok (.aload_n 0, 1) := by decide +kernel
theorem dX7_isLike_51 : decode cX7_isLike 51 = .ok (.iload_n 1, 1) := by decide +kernel
theorem dX7_isLike_52 : decode cX7_isLike 52 = .ok (.iload 5, 2) := by decide +kernel
theorem dX7_isLike_54 : decode cX7_isLike 54 = .ok (.invokevirtual 57, 3) := by decide +kernel
theorem dX7_isLike_57 : decode cX7_isLike 57 = .ok (.iload_n 3, 1) := by decide +kernel
theorem dX7_isLike_58 : decode cX7_isLike 58 = .ok (.ifCond .eq 13, 3) := by decide +kernel
theorem dX7_isLike_61 : decode cX7_isLike 61 = .ok (.aload_n 0, 1) := by decide +kernel
theorem dX7_isLike_62 : decode cX7_isLike 62 = .ok (.iload_n 2, 1) := by decide +kernel
theorem dX7_isLike_63 : decode cX7_isLike 63 = .ok (.iload 5, 2) := by decide +kernel
theorem dX7_isLike_65 : decode cX7_isLike 65 = .ok (.invokevirtual 64, 3) := by decide +kernel
theorem dX7_isLike_68 : decode cX7_isLike 68 = .ok (.goto 10, 3) := by decide +kernel
theorem dX7_isLike_71 : decode cX7_isLike 71 = .ok (.aload_n 0, 1) := by decide +kernel
theorem dX7_isLike_72 : decode cX7_isLike 72 = .ok (.iload_n 2, 1) := by decide +kernel
theorem dX7_isLike_73 : decode cX7_isLike 73 = .ok (.iload 5, 2) := by decide +kernel
theorem dX7_isLike_75 : decode cX7_isLike 75 = .ok (.invokevirtual 57, 3) := by decide +kernel
theorem dX7_isLike_78 : decode cX7_isLike 78 = .ok (.if_icmp .ne 7, 3) := by decide +kernel
theorem dX7_isLike_81 : decode cX7_isLike 81 = .ok (.iconst 1, 1) := by decide +kernel
theorem dX7_isLike_82 : decode cX7_isLike 82 = .ok (.goto 4, 3) := by decide +kernel
theorem dX7_isLike_85 : decode cX7_isLike 85 = .ok (.iconst 0, 1) := by decide +kernel
theorem dX7_isLike_86 : decode cX7_isLike 86 = .ok (.istore 4, 2) := by decide +kernel
theorem dX7_isLike_88 : decode cX7_isLike 88 = .ok (.iinc 5 1, 3) := by decide +kernel
theorem dX7_isLike_91 : decode cX7_isLike 91 = .ok (.goto (-60), 3) := by decide +kernel
theorem dX7_isLike_94 : decode cX7_isLike 94 = .ok (.iload 4, 2) := by decide +kernel
theorem dX7_isLike_96 : decode cX7_isLike 96 = .ok (.ireturn, 1) := by decide +kernel
set_option maxRecDepth 20000 in
theorem ggX7_isOwnImage_X7_isLike : GoodIn wsX7_isOwnImage wsX7_isLike := goodIn_r _ [5, 6, 7, 8, 9, 4, 10, 11, 12, 13, 14, 15, 16, 17, 18, 19, 20, 21, 22, 23, 24, 25, 26, 27, 28] (by decide +kernel) (by decide +kernel)
set_option maxRecDepth 20000 in
theorem gX7_isOwnImage_X7_isLike : GoodIn wsX7_isOwnImage (wsV RX7 67 RX7 yX7_isLike wsX7_isLike) := goodIn_app (goodIn_of _ (by decide +kernel)) ggX7_isOwnImage_X7_isLike
theorem dX7_isOwnImage_0 : decode cX7_isOwnImage 0 = .ok (.aload_n 0, 1) := by decide +kernel
theorem dX7_isOwnImage_1 : decode cX7_isOwnImage 1 = .ok (.iload_n 1, 1) := by decide +kernel
theorem dX7_isOwnImage_2 : decode cX7_isOwnImage 2 = .ok (.iload_n 1, 1) := by decide +kernel
theorem dX7_isOwnImage_3 : decode cX7_isOwnImage 3 = .ok (.iconst 1, 1) := by decide +kernel
theorem dX7_isOwnImage_4 : decode cX7_isOwnImage 4 = .ok (.invokevirtual 67, 3) := by decide +kernel
theorem dX7_isOwnImage_7 : decode cX7_isOwnImage 7 = .ok (.ireturn, 1) := by decide +kernel
set_option maxRecDepth 20000 in
theorem ggX7_mirroredIn_X7_dollAt : GoodIn wsX7_mirroredIn wsX7_dollAt := goodIn_r _ [6, 1, 7, 8, 9, 10, 11, 12, 13, 14, 15, 16, 17, 18, 19, 20] (by decide +kernel) (by decide +kernel)
set_option maxRecDepth 20000 in
theorem gX7_mirroredIn_X7_dollAt : GoodIn wsX7_mirroredIn (wsV RX7 57 RX7 yX7_dollAt wsX7_dollAt) := goodIn_app (goodIn_of _ (by decide +kernel)) ggX7_mirroredIn_X7_dollAt
theorem dX7_mirroredIn_0 : decode cX7_mirroredIn 0 = .ok (.iconst 0, 1) := by decide +kernel
theorem dX7_mirroredIn_1 : decode cX7_mirroredIn 1 = .ok (.istore_n 2, 1) := by decide +kernel
theorem dX7_mirroredIn_2 : decode cX7_mirroredIn 2 = .ok (.iconst 0, 1) := by decide +kernel
theorem dX7_mirroredIn_3 : decode cX7_mirroredIn 3 = .ok (.istore_n 3, 1) := by decide +kernel
theorem dX7_mirroredIn_4 : decode cX7_mirroredIn 4 = .ok (.iload_n 3, 1) := by decide +kernel
theorem dX7_mirroredIn_5 : decode cX7_mirroredIn 5 = .ok (.aload_n 0, 1) := by decide +kernel
theorem dX7_mirroredIn_6 : decode cX7_mirroredIn 6 = .ok (.getfield 7, 3) := by decide +kernel
theorem dX7_mirroredIn_9 : decode cX7_mirroredIn 9 = .ok (.bipush 22, 2) := by decide +kernel
theorem dX7_mirroredIn_11 : decode cX7_mirroredIn 11 = .ok (.iload_n 1, 1) := by decide +kernel
theorem dX7_mirroredIn_12 : decode cX7_mirroredIn 12 = .ok (.iadd, 1) := by decide +kernel
theorem dX7_mirroredIn_13 : decode cX7_mirroredIn 13 = .ok (.iaload, 1) := by decide +kernel
theorem dX7_mirroredIn_14 : decode cX7_mirroredIn 14 = .ok (.if_icmp .ge 20, 3) := by decide +kernel
theorem dX7_mirroredIn_17 : decode cX7_mirroredIn 17 = .ok (.iload_n 2, 1) := by decide +kernel
theorem dX7_mirroredIn_18 : decode cX7_mirroredIn 18 = .ok (.aload_n 0, 1) := by decide +kernel
theorem dX7_mirroredIn_19 : decode cX7_mirroredIn 19 = .ok (.iload_n 1, 1) := by decide +kernel
theorem dX7_mirroredIn_20 : decode cX7_mirroredIn 20 = .ok (.iload_n 3, 1) := by decide +kernel
theorem dX7_mirroredIn_21 : decode cX7_mirroredIn 21 = .ok (.invokevirtual 57, 3) := by decide +kernel
theorem dX7_mirroredIn_24 : decode cX7_mirroredIn 24 = .ok (.iconst 2, 1) := by decide +kernel
theorem dX7_mirroredIn_25 : decode cX7_mirroredIn 25 = .ok (.irem, 1) := by decide +kernel
theorem dX7_mirroredIn_26 : decode cX7_mirroredIn 26 = .ok (.iadd, 1) := by decide +kernel
theorem dX7_mirroredIn_27 : decode cX7_mirroredIn 27 = .ok (.istore_n 2, 1) := by decide +kernel
theorem dX7_mirroredIn_28 : decode cX7_mirroredIn 28 = .ok (.iinc 3 1, 3) := by decide +kernel
theorem dX7_mirroredIn_31 : decode cX7_mirroredIn 31 = .ok (.goto (-27), 3) := by decide +kernel
theorem dX7_mirroredIn_34 : decode cX7_mirroredIn 34 = .ok (.iload_n 2, 1) := by decide +kernel
theorem dX7_mirroredIn_35 : decode cX7_mirroredIn 35 = .ok (.ireturn, 1) := by decide +kernel
set_option maxRecDepth 20000 in
theorem ggX7_takes_X7_lays : GoodIn wsX7_takes wsX7_lays := goodIn_r _ [6, 1, 7, 8, 9, 10, 11, 12, 13, 14, 15, 16, 17, 18, 19, 20] (by decide +kernel) (by decide +kernel)
set_option maxRecDepth 20000 in
theorem gX7_takes_X7_lays : GoodIn wsX7_takes (wsV RX7 71 RX7 yX7_lays wsX7_lays) := goodIn_app (goodIn_of _ (by decide +kernel)) ggX7_takes_X7_lays
theorem dX7_takes_0 : decode cX7_takes 0 = .ok (.aload_n 0, 1) := by decide +kernel
theorem dX7_takes_1 : decode cX7_takes 1 = .ok (.getfield 7, 3) := by decide +kernel
theorem dX7_takes_4 : decode cX7_takes 4 = .ok (.bipush 22, 2) := by decide +kernel
theorem dX7_takes_6 : decode cX7_takes 6 = .ok (.iload_n 1, 1) := by decide +kernel
theorem dX7_takes_7 : decode cX7_takes 7 = .ok (.iadd, 1) := by decide +kernel
theorem dX7_takes_8 : decode cX7_takes 8 = .ok (.iconst 0, 1) := by decide +kernel
theorem dX7_takes_9 : decode cX7_takes 9 = .ok (.iastore, 1) := by decide +kernel
theorem dX7_takes_10 : decode cX7_takes 10 = .ok (.iconst 0, 1) := by decide +kernel
theorem dX7_takes_11 : decode cX7_takes 11 = .ok (.istore_n 2, 1) := by decide +kernel
theorem dX7_takes_12 : decode cX7_takes 12 = .ok (.iload_n 2, 1) := by decide +kernel
theorem dX7_takes_13 : decode cX7_takes 13 = .ok (.bipush 32, 2) := by decide +kernel
theorem dX7_takes_15 : decode cX7_takes 15 = .ok (.if_icmp .ge 16, 3) := by decide +kernel
theorem dX7_takes_18 : decode cX7_takes 18 = .ok (.aload_n 0, 1) := by decide +kernel
theorem dX7_takes_19 : decode cX7_takes 19 = .ok (.iload_n 1, 1) := by decide +kernel
theorem dX7_takes_20 : decode cX7_takes 20 = .ok (.iload_n 2, 1) := by decide +kernel
theorem dX7_takes_21 : decode cX7_takes 21 = .ok (.iconst 0, 1) := by decide +kernel
theorem dX7_takes_22 : decode cX7_takes 22 = .ok (.invokevirtual 71, 3) := by decide +kernel
theorem dX7_takes_25 : decode cX7_takes 25 = .ok (.iinc 2 1, 3) := by decide +kernel
theorem dX7_takes_28 : decode cX7_takes 28 = .ok (.goto (-16), 3) := by decide +kernel
theorem dX7_takes_31 : decode cX7_takes 31 = .ok (.return_, 1) := by decide +kernel
set_option maxRecDepth 20000 in
theorem ggX7_setHands_X7_isKind : GoodIn wsX7_setHands wsX7_isKind := goodIn_r _ [7, 2, 8, 9, 6, 10, 46, 47, 48, 49, 50, 51, 52, 53, 54, 55, 56, 57, 58, 59] (by decide +kernel) (by decide +kernel)
set_option maxRecDepth 20000 in
theorem gX7_setHands_X7_isKind : GoodIn wsX7_setHands (wsV RX7 75 RX7 yX7_isKind wsX7_isKind) := goodIn_app (goodIn_of _ (by decide +kernel)) ggX7_setHands_X7_isKind
set_option maxRecDepth 20000 in
theorem ggX7_setHands_X7_in : GoodIn wsX7_setHands wsX7_in := goodIn_r _ [10] (by decide +kernel) (by decide +kernel)
set_option maxRecDepth 20000 in
theorem gX7_setHands_X7_in : GoodIn wsX7_setHands (va_wsS RX7 47 yX7_in wsX7_in) := goodIn_app (goodIn_of _ (by decide +kernel)) ggX7_setHands_X7_in
set_option maxRecDepth 20000 in
theorem ggX7_setHands_X7_keeps : GoodIn wsX7_setHands wsX7_keeps := goodIn_r _ [14, 15, 2, 46, 47, 48, 49, 50, 51, 52, 53, 54, 55, 56, 57, 58, 59] (by decide +kernel) (by decide +kernel)
set_option maxRecDepth 20000 in
theorem gX7_setHands_X7_keeps : GoodIn wsX7_setHands (wsV RX7 81 RX7 yX7_keeps wsX7_keeps) := goodIn_app (goodIn_of _ (by decide +kernel)) ggX7_setHands_X7_keeps
set_option maxRecDepth 20000 in
theorem ggX7_setHands_X7_anyClash : GoodIn wsX7_setHands wsX7_anyClash := goodIn_r _ [19, 2, 20, 21, 22, 6, 23, 24, 25, 26, 27, 28, 29, 30, 31, 46, 47, 48, 49, 50, 51, 52, 53, 54, 55, 56, 57, 58, 59] (by decide +kernel) (by decide +kernel)
set_option maxRecDepth 20000 in
theorem gX7_setHands_X7_anyClash : GoodIn wsX7_setHands (wsV RX7 84 RX7 yX7_anyClash wsX7_anyClash) := goodIn_app (goodIn_of _ (by decide +kernel)) ggX7_setHands_X7_anyClash
set_option maxRecDepth 20000 in
theorem ggX7_setHands_X7_ends : GoodIn wsX7_setHands wsX7_ends := goodIn_r _ [35, 36, 37, 38, 6, 39, 2, 15, 40, 41, 42, 43, 44, 45, 46, 47, 48, 49, 50, 51, 52, 53, 54, 55, 56, 57, 58, 59] (by decide +kernel) (by decide +kernel)
set_option maxRecDepth 20000 in
theorem gX7_setHands_X7_ends : GoodIn wsX7_setHands (wsV RX7 88 RX7 yX7_ends wsX7_ends) := goodIn_app (goodIn_of _ (by decide +kernel)) ggX7_setHands_X7_ends
theorem dX7_setHands_0 : decode cX7_setHands 0 = .ok (.aload_n 0, 1) := by decide +kernel
theorem dX7_setHands_1 : decode cX7_setHands 1 = .ok (.iload_n 1, 1) := by decide +kernel
theorem dX7_setHands_2 : decode cX7_setHands 2 = .ok (.invokevirtual 75, 3) := by decide +kernel
theorem dX7_setHands_5 : decode cX7_setHands 5 = .ok (.ifCond .ne 5, 3) := by decide +kernel
theorem dX7_setHands_8 : decode cX7_setHands 8 = .ok (.iconst (-1), 1) := by decide +kernel
theorem dX7_setHands_9 : decode cX7_setHands 9 = .ok (.ireturn, 1) := by decide +kernel
theorem dX7_setHands_10 : decode cX7_setHands 10 = .ok (.iload_n 2, 1) := by decide +kernel
theorem dX7_setHands_11 : decode cX7_setHands 11 = .ok (.i2l, 1) := by decide +kernel
theorem dX7_setHands_12 : decode cX7_setHands 12 = .ok (.lconst 0, 1) := by decide +kernel
theorem dX7_setHands_13 : decode cX7_setHands 13 = .ok (.ldc2_w 79, 3) := by decide +kernel
theorem dX7_setHands_16 : decode cX7_setHands 16 = .ok (.invokestatic 47, 3) := by decide +kernel
theorem dX7_setHands_19 : decode cX7_setHands 19 = .ok (.ifCond .eq 15, 3) := by decide +kernel
theorem dX7_setHands_22 : decode cX7_setHands 22 = .ok (.iload_n 3, 1) := by decide +kernel
theorem dX7_setHands_23 : decode cX7_setHands 23 = .ok (.i2l, 1) := by decide +kernel
theorem dX7_setHands_24 : decode cX7_setHands 24 = .ok (.lconst 0, 1) := by decide +kernel
theorem dX7_setHands_25 : decode cX7_setHands 25 = .ok (.ldc2_w 79, 3) := by decide +kernel
theorem dX7_setHands_28 : decode cX7_setHands 28 = .ok (.invokestatic 47, 3) := by decide +kernel
theorem dX7_setHands_31 : decode cX7_setHands 31 = .ok (.ifCond .ne 6, 3) := by decide +kernel
theorem dX7_setHands_34 : decode cX7_setHands 34 = .ok (.bipush (-2), 2) := by decide +kernel
theorem dX7_setHands_36 : decode cX7_setHands 36 = .ok (.ireturn, 1) := by decide +kernel
theorem dX7_setHands_37 : decode cX7_setHands 37 = .ok (.aload_n 0, 1) := by decide +kernel
theorem dX7_setHands_38 : decode cX7_setHands 38 = .ok (.invokevirtual 81, 3) := by decide +kernel
theorem dX7_setHands_41 : decode cX7_setHands 41 = .ok (.iconst 2, 1) := by decide +kernel
theorem dX7_setHands_42 : decode cX7_setHands 42 = .ok (.iconst 2, 1) := by decide +kernel
theorem dX7_setHands_43 : decode cX7_setHands 43 = .ok (.iload_n 1, 1) := by decide +kernel
theorem dX7_setHands_44 : decode cX7_setHands 44 = .ok (.imul, 1) := by decide +kernel
theorem dX7_setHands_45 : decode cX7_setHands 45 = .ok (.iadd, 1) := by decide +kernel
theorem dX7_setHands_46 : decode cX7_setHands 46 = .ok (.istore 4, 2) := by decide +kernel
theorem dX7_setHands_48 : decode cX7_setHands 48 = .ok (.aload_n 0, 1) := by decide +kernel
theorem dX7_setHands_49 : decode cX7_setHands 49 = .ok (.getfield 7, 3) := by decide +kernel
theorem dX7_setHands_52 : decode cX7_setHands 52 = .ok (.iload 4, 2) := by decide +kernel
theorem dX7_setHands_54 : decode cX7_setHands 54 = .ok (.iaload, 1) := by decide +kernel
theorem dX7_setHands_55 : decode cX7_setHands 55 = .ok (.iload_n 2, 1) := by decide +kernel
theorem dX7_setHands_56 : decode cX7_setHands 56 = .ok (.if_icmp .ne 20, 3) := by decide +kernel
theorem dX7_setHands_59 : decode cX7_setHands 59 = .ok (.aload_n 0, 1) := by decide +kernel
theorem dX7_setHands_60 : decode cX7_setHands 60 = .ok (.getfield 7, 3) := by decide +kernel
theorem dX7_setHands_63 : decode cX7_setHands 63 = .ok (.iload 4, 2) := by decide +kernel
theorem dX7_setHands_65 : decode cX7_setHands 65 = .ok (.iconst 1, 1) := by decide +kernel
theorem dX7_setHands_66 : decode cX7_setHands 66 = .ok (.iadd, 1) := by decide +kernel
theorem dX7_setHands_67 : decode cX7_setHands 67 = .ok (.iaload, 1) := by decide +kernel
theorem dX7_setHands_68 : decode cX7_setHands 68 = .ok (.iload_n 3, 1) := by decide +kernel
theorem dX7_setHands_69 : decode cX7_setHands 69 = .ok (.if_icmp .ne 7, 3) := by decide +kernel
theorem dX7_setHands_72 : decode cX7_setHands 72 = .ok (.iconst 1, 1) := by decide +kernel
theorem dX7_setHands_73 : decode cX7_setHands 73 = .ok (.goto 4, 3) := by decide +kernel
theorem dX7_setHands_76 : decode cX7_setHands 76 = .ok (.iconst 0, 1) := by decide +kernel
theorem dX7_setHands_77 : decode cX7_setHands 77 = .ok (.istore 5, 2) := by decide +kernel
theorem dX7_setHands_79 : decode cX7_setHands 79 = .ok (.bipush 10, 2) := by decide +kernel
theorem dX7_setHands_81 : decode cX7_setHands 81 = .ok (.aload_n 0, 1) := by decide +kernel
theorem dX7_setHands_82 : decode cX7_setHands 82 = .ok (.getfield 7, 3) := by decide +kernel
theorem dX7_setHands_85 : decode cX7_setHands 85 = .ok (.iload 4, 2) := by decide +kernel
theorem dX7_setHands_87 : decode cX7_setHands 87 = .ok (.iaload, 1) := by decide +kernel
theorem dX7_setHands_88 : decode cX7_setHands 88 = .ok (.imul, 1) := by decide +kernel
theorem dX7_setHands_89 : decode cX7_setHands 89 = .ok (.aload_n 0, 1) := by decide +kernel
theorem dX7_setHands_90 : decode cX7_setHands 90 = .ok (.getfield 7, 3) := by decide +kernel
theorem dX7_setHands_93 : decode cX7_setHands 93 = .ok (.iload 4, 2) := by decide +kernel
theorem dX7_setHands_95 : decode cX7_setHands 95 = .ok (.iconst 1, 1) := by decide +kernel
theorem dX7_setHands_96 : decode cX7_setHands 96 = .ok (.iadd, 1) := by decide +kernel
theorem dX7_setHands_97 : decode cX7_setHands 97 = .ok (.iaload, 1) := by decide +kernel
theorem dX7_setHands_98 : decode cX7_setHands 98 = .ok (.iadd, 1) := by decide +kernel
theorem dX7_setHands_99 : decode cX7_setHands 99 = .ok (.istore 6, 2) := by decide +kernel
theorem dX7_setHands_101 : decode cX7_setHands 101 = .ok (.aload_n 0, 1) := by decide +kernel
theorem dX7_setHands_102 : decode cX7_setHands 102 = .ok (.getfield 7, 3) := by decide +kernel
theorem dX7_setHands_105 : decode cX7_setHands 105 = .ok (.iload 4, 2) := by decide +kernel
theorem dX7_setHands_107 : decode cX7_setHands 107 = .ok (.iload_n 2, 1) := by decide +kernel
theorem dX7_setHands_108 : decode cX7_setHands 108 = .ok (.iastore, 1) := by decide +kernel
theorem dX7_setHands_109 : decode cX7_setHands 109 = .ok (.aload_n 0, 1) := by decide +kernel
theorem dX7_setHands_110 : decode cX7_setHands 110 = .ok (.getfield 7, 3) := by decide +kernel
theorem dX7_setHands_113 : decode cX7_setHands 113 = .ok (.iload 4, 2) := by decide +kernel
theorem dX7_setHands_115 : decode cX7_setHands 115 = .ok (.iconst 1, 1) := by decide +kernel
theorem dX7_setHands_116 : decode cX7_setHands 116 = .ok (.iadd, 1) := by decide +kernel
theorem dX7_setHands_117 : decode cX7_setHands 117 = .ok (.iload_n 3, 1) := by decide +kernel
theorem dX7_setHands_118 : decode cX7_setHands 118 = .ok (.iastore, 1) := by decide +kernel
theorem dX7_setHands_119 : decode cX7_setHands 119 = .ok (.aload_n 0, 1) := by decide +kernel
theorem dX7_setHands_120 : decode cX7_setHands 120 = .ok (.aload_n 0, 1) := by decide +kernel
theorem dX7_setHands_121 : decode cX7_setHands 121 = .ok (.invokevirtual 84, 3) := by decide +kernel
theorem dX7_setHands_124 : decode cX7_setHands 124 = .ok (.ifCond .eq 8, 3) := by decide +kernel
theorem dX7_setHands_127 : decode cX7_setHands 127 = .ok (.bipush (-4), 2) := by decide +kernel
theorem dX7_setHands_129 : decode cX7_setHands 129 = .ok (.goto 15, 3) := by decide +kernel
theorem dX7_setHands_132 : decode cX7_setHands 132 = .ok (.iload 5, 2) := by decide +kernel
theorem dX7_setHands_134 : decode cX7_setHands 134 = .ok (.ifCond .eq 8, 3) := by decide +kernel
theorem dX7_setHands_137 : decode cX7_setHands 137 = .ok (.bipush (-5), 2) := by decide +kernel
theorem dX7_setHands_139 : decode cX7_setHands 139 = .ok (.goto 5, 3) := by decide +kernel
theorem dX7_setHands_142 : decode cX7_setHands 142 = .ok (.iload 6, 2) := by decide +kernel
theorem dX7_setHands_144 : decode cX7_setHands 144 = .ok (.invokevirtual 88, 3) := by decide +kernel
theorem dX7_setHands_147 : decode cX7_setHands 147 = .ok (.ireturn, 1) := by decide +kernel
set_option maxRecDepth 20000 in
theorem ggX7_setRule_X7_in : GoodIn wsX7_setRule wsX7_in := goodIn_r _ [6] (by decide +kernel) (by decide +kernel)
set_option maxRecDepth 20000 in
theorem gX7_setRule_X7_in : GoodIn wsX7_setRule (va_wsS RX7 47 yX7_in wsX7_in) := goodIn_app (goodIn_of _ (by decide +kernel)) ggX7_setRule_X7_in
set_option maxRecDepth 20000 in
theorem ggX7_setRule_X7_keeps : GoodIn wsX7_setRule wsX7_keeps := goodIn_r _ [10, 11, 2, 42, 43, 44, 45, 46, 47, 48, 49, 50, 51, 52, 53, 54, 55] (by decide +kernel) (by decide +kernel)
set_option maxRecDepth 20000 in
theorem gX7_setRule_X7_keeps : GoodIn wsX7_setRule (wsV RX7 81 RX7 yX7_keeps wsX7_keeps) := goodIn_app (goodIn_of _ (by decide +kernel)) ggX7_setRule_X7_keeps
set_option maxRecDepth 20000 in
theorem ggX7_setRule_X7_anyClash : GoodIn wsX7_setRule wsX7_anyClash := goodIn_r _ [15, 2, 16, 17, 18, 5, 19, 20, 21, 22, 23, 24, 25, 26, 27, 42, 43, 44, 45, 46, 47, 48, 49, 50, 51, 52, 53, 54, 55] (by decide +kernel) (by decide +kernel)
set_option maxRecDepth 20000 in
theorem gX7_setRule_X7_anyClash : GoodIn wsX7_setRule (wsV RX7 84 RX7 yX7_anyClash wsX7_anyClash) := goodIn_app (goodIn_of _ (by decide +kernel)) ggX7_setRule_X7_anyClash
set_option maxRecDepth 20000 in
theorem ggX7_setRule_X7_ends : GoodIn wsX7_setRule wsX7_ends := goodIn_r _ [31, 32, 33, 34, 5, 35, 2, 11, 36, 37, 38, 39, 40, 41, 42, 43, 44, 45, 46, 47, 48, 49, 50, 51, 52, 53, 54, 55] (by decide +kernel) (by decide +kernel)
set_option maxRecDepth 20000 in
theorem gX7_setRule_X7_ends : GoodIn wsX7_setRule (wsV RX7 88 RX7 yX7_ends wsX7_ends) := goodIn_app (goodIn_of _ (by decide +kernel)) ggX7_setRule_X7_ends
theorem dX7_setRule_0 : decode cX7_setRule 0 = .ok (.iload_n 1, 1) := by decide +kernel
theorem dX7_setRule_1 : decode cX7_setRule 1 = .ok (.i2l, 1) := by decide +kernel
theorem dX7_setRule_2 : decode cX7_setRule 2 = .ok (.lconst 0, 1) := by decide +kernel
theorem dX7_setRule_3 : decode cX7_setRule 3 = .ok (.ldc2_w 92, 3) := by decide +kernel
theorem dX7_setRule_6 : decode cX7_setRule 6 = .ok (.invokestatic 47, 3) := by decide +kernel
theorem dX7_setRule_9 : decode cX7_setRule 9 = .ok (.ifCond .ne 6, 3) := by decide +kernel
theorem dX7_setRule_12 : decode cX7_setRule 12 = .ok (.bipush (-2), 2) := by decide +kernel
theorem dX7_setRule_14 : decode cX7_setRule 14 = .ok (.ireturn, 1) := by decide +kernel
theorem dX7_setRule_15 : decode cX7_setRule 15 = .ok (.aload_n 0, 1) := by decide +kernel
theorem dX7_setRule_16 : decode cX7_setRule 16 = .ok (.invokevirtual 81, 3) := by decide +kernel
theorem dX7_setRule_19 : decode cX7_setRule 19 = .ok (.aload_n 0, 1) := by decide +kernel
theorem dX7_setRule_20 : decode cX7_setRule 20 = .ok (.getfield 7, 3) := by decide +kernel
theorem dX7_setRule_23 : decode cX7_setRule 23 = .ok (.iconst 0, 1) := by decide +kernel
theorem dX7_setRule_24 : decode cX7_setRule 24 = .ok (.iaload, 1) := by decide +kernel
theorem dX7_setRule_25 : decode cX7_setRule 25 = .ok (.istore_n 2, 1) := by decide +kernel
theorem dX7_setRule_26 : decode cX7_setRule 26 = .ok (.aload_n 0, 1) := by decide +kernel
theorem dX7_setRule_27 : decode cX7_setRule 27 = .ok (.getfield 7, 3) := by decide +kernel
theorem dX7_setRule_30 : decode cX7_setRule 30 = .ok (.iconst 0, 1) := by decide +kernel
theorem dX7_setRule_31 : decode cX7_setRule 31 = .ok (.iload_n 1, 1) := by decide +kernel
theorem dX7_setRule_32 : decode cX7_setRule 32 = .ok (.iastore, 1) := by decide +kernel
theorem dX7_setRule_33 : decode cX7_setRule 33 = .ok (.aload_n 0, 1) := by decide +kernel
theorem dX7_setRule_34 : decode cX7_setRule 34 = .ok (.aload_n 0, 1) := by decide +kernel
theorem dX7_setRule_35 : decode cX7_setRule 35 = .ok (.invokevirtual 84, 3) := by decide +kernel
theorem dX7_setRule_38 : decode cX7_setRule 38 = .ok (.ifCond .eq 8, 3) := by decide +kernel
theorem dX7_setRule_41 : decode cX7_setRule 41 = .ok (.bipush (-4), 2) := by decide +kernel
theorem dX7_setRule_43 : decode cX7_setRule 43 = .ok (.goto 14, 3) := by decide +kernel
theorem dX7_setRule_46 : decode cX7_setRule 46 = .ok (.iload_n 2, 1) := by decide +kernel
theorem dX7_setRule_47 : decode cX7_setRule 47 = .ok (.iload_n 1, 1) := by decide +kernel
theorem dX7_setRule_48 : decode cX7_setRule 48 = .ok (.if_icmp .ne 8, 3) := by decide +kernel
theorem dX7_setRule_51 : decode cX7_setRule 51 = .ok (.bipush (-5), 2) := by decide +kernel
theorem dX7_setRule_53 : decode cX7_setRule 53 = .ok (.goto 4, 3) := by decide +kernel
theorem dX7_setRule_56 : decode cX7_setRule 56 = .ok (.iload_n 2, 1) := by decide +kernel
theorem dX7_setRule_57 : decode cX7_setRule 57 = .ok (.invokevirtual 88, 3) := by decide +kernel
theorem dX7_setRule_60 : decode cX7_setRule 60 = .ok (.ireturn, 1) := by decide +kernel
set_option maxRecDepth 20000 in
theorem ggX7_greatestKind_X7_dollAt : GoodIn wsX7_greatestKind wsX7_dollAt := goodIn_r _ [6, 1, 7, 8, 9, 10, 11, 12, 13, 14, 15, 16, 17, 18, 19, 20] (by decide +kernel) (by decide +kernel)
set_option maxRecDepth 20000 in
theorem gX7_greatestKind_X7_dollAt : GoodIn wsX7_greatestKind (wsV RX7 57 RX7 yX7_dollAt wsX7_dollAt) := goodIn_app (goodIn_of _ (by decide +kernel)) ggX7_greatestKind_X7_dollAt
theorem dX7_greatestKind_0 : decode cX7_greatestKind 0 = .ok (.iconst 0, 1) := by decide +kernel
theorem dX7_greatestKind_1 : decode cX7_greatestKind 1 = .ok (.istore_n 1, 1) := by decide +kernel
theorem dX7_greatestKind_2 : decode cX7_greatestKind 2 = .ok (.iconst 0, 1) := by decide +kernel
theorem dX7_greatestKind_3 : decode cX7_greatestKind 3 = .ok (.istore_n 2, 1) := by decide +kernel
theorem dX7_greatestKind_4 : decode cX7_greatestKind 4 = .ok (.iload_n 2, 1) := by decide +kernel
theorem dX7_greatestKind_5 : decode cX7_greatestKind 5 = .ok (.bipush 8, 2) := by decide +kernel
theorem dX7_greatestKind_7 : decode cX7_greatestKind 7 = .ok (.if_icmp .ge 55, 3) := by decide +kernel
theorem dX7_greatestKind_10 : decode cX7_greatestKind 10 = .ok (.iconst 0, 1) := by decide +kernel
theorem dX7_greatestKind_11 : decode cX7_greatestKind 11 = .ok (.istore_n 3, 1) := by decide +kernel
theorem dX7_greatestKind_12 : decode cX7_greatestKind 12 = .ok (.iload_n 3, 1) := by decide +kernel
theorem dX7_greatestKind_13 : decode cX7_greatestKind 13 = .ok (.aload_n 0, 1) := by decide +kernel
theorem dX7_greatestKind_14 : decode cX7_greatestKind 14 = .ok (.getfield 7, 3) := by decide +kernel
theorem dX7_greatestKind_17 : decode cX7_greatestKind 17 = .ok (.bipush 22, 2) := by decide +kernel
theorem dX7_greatestKind_19 : decode cX7_greatestKind 19 = .ok (.iload_n 2, 1) := by decide +kernel
theorem dX7_greatestKind_20 : decode cX7_greatestKind 20 = .ok (.iadd, 1) := by decide +kernel
theorem dX7_greatestKind_21 : decode cX7_greatestKind 21 = .ok (.iaload, 1) := by decide +kernel
theorem dX7_greatestKind_22 : decode cX7_greatestKind 22 = .ok (.if_icmp .ge 34, 3) := by decide +kernel
theorem dX7_greatestKind_25 : decode cX7_greatestKind 25 = .ok (.aload_n 0, 1) := by decide +kernel
theorem dX7_greatestKind_26 : decode cX7_greatestKind 26 = .ok (.iload_n 2, 1) := by decide +kernel
theorem dX7_greatestKind_27 : decode cX7_greatestKind 27 = .ok (.iload_n 3, 1) := by decide +kernel
theorem dX7_greatestKind_28 : decode cX7_greatestKind 28 = .ok (.invokevirtual 57, 3) := by decide +kernel
theorem dX7_greatestKind_31 : decode cX7_greatestKind 31 = .ok (.iconst 2, 1) := by decide +kernel
theorem dX7_greatestKind_32 : decode cX7_greatestKind 32 = .ok (.idiv, 1) := by decide +kernel
theorem dX7_greatestKind_33 : decode cX7_greatestKind 33 = .ok (.iload_n 1, 1) := by decide +kernel
theorem dX7_greatestKind_34 : decode cX7_greatestKind 34 = .ok (.if_icmp .le 14, 3) := by decide +kernel
theorem dX7_greatestKind_37 : decode cX7_greatestKind 37 = .ok (.aload_n 0, 1) := by decide +kernel
theorem dX7_greatestKind_38 : decode cX7_greatestKind 38 = .ok (.iload_n 2, 1) := by decide +kernel
theorem dX7_greatestKind_39 : decode cX7_greatestKind 39 = .ok (.iload_n 3, 1) := by decide +kernel
theorem dX7_greatestKind_40 : decode cX7_greatestKind 40 = .ok (.invokevirtual 57, 3) := by decide +kernel
theorem dX7_greatestKind_43 : decode cX7_greatestKind 43 = .ok (.iconst 2, 1) := by decide +kernel
theorem dX7_greatestKind_44 : decode cX7_greatestKind 44 = .ok (.idiv, 1) := by decide +kernel
theorem dX7_greatestKind_45 : decode cX7_greatestKind 45 = .ok (.goto 4, 3) := by decide +kernel
theorem dX7_greatestKind_48 : decode cX7_greatestKind 48 = .ok (.iload_n 1, 1) := by decide +kernel
theorem dX7_greatestKind_49 : decode cX7_greatestKind 49 = .ok (.istore_n 1, 1) := by decide +kernel
theorem dX7_greatestKind_50 : decode cX7_greatestKind 50 = .ok (.iinc 3 1, 3) := by decide +kernel
theorem dX7_greatestKind_53 : decode cX7_greatestKind 53 = .ok (.goto (-41), 3) := by decide +kernel
theorem dX7_greatestKind_56 : decode cX7_greatestKind 56 = .ok (.iinc 2 1, 3) := by decide +kernel
theorem dX7_greatestKind_59 : decode cX7_greatestKind 59 = .ok (.goto (-55), 3) := by decide +kernel
theorem dX7_greatestKind_62 : decode cX7_greatestKind 62 = .ok (.iload_n 1, 1) := by decide +kernel
theorem dX7_greatestKind_63 : decode cX7_greatestKind 63 = .ok (.ireturn, 1) := by decide +kernel
set_option maxRecDepth 20000 in
theorem ggX7_setKinds_X7_in : GoodIn wsX7_setKinds wsX7_in := goodIn_r _ [6] (by decide +kernel) (by decide +kernel)
set_option maxRecDepth 20000 in
theorem gX7_setKinds_X7_in : GoodIn wsX7_setKinds (va_wsS RX7 47 yX7_in wsX7_in) := goodIn_app (goodIn_of _ (by decide +kernel)) ggX7_setKinds_X7_in
set_option maxRecDepth 20000 in
theorem ggX7_setKinds_X7_greatestKind : GoodIn wsX7_setKinds wsX7_greatestKind := goodIn_r _ [10, 2, 11, 12, 13, 5, 14, 34, 35, 36, 37, 38, 39, 40, 41, 42, 43, 44, 45, 46, 47] (by decide +kernel) (by decide +kernel)
set_option maxRecDepth 20000 in
theorem gX7_setKinds_X7_greatestKind : GoodIn wsX7_setKinds (wsV RX7 96 RX7 yX7_greatestKind wsX7_greatestKind) := goodIn_app (goodIn_of _ (by decide +kernel)) ggX7_setKinds_X7_greatestKind
set_option maxRecDepth 20000 in
theorem ggX7_setKinds_X7_keeps : GoodIn wsX7_setKinds wsX7_keeps := goodIn_r _ [18, 19, 2, 34, 35, 36, 37, 38, 39, 40, 41, 42, 43, 44, 45, 46, 47] (by decide +kernel) (by decide +kernel)
set_option maxRecDepth 20000 in
theorem gX7_setKinds_X7_keeps : GoodIn wsX7_setKinds (wsV RX7 81 RX7 yX7_keeps wsX7_keeps) := goodIn_app (goodIn_of _ (by decide +kernel)) ggX7_setKinds_X7_keeps
set_option maxRecDepth 20000 in
theorem ggX7_setKinds_X7_ends : GoodIn wsX7_setKinds wsX7_ends := goodIn_r _ [23, 24, 25, 26, 5, 27, 2, 19, 28, 29, 30, 31, 32, 33, 34, 35, 36, 37, 38, 39, 40, 41, 42, 43, 44, 45, 46, 47] (by decide +kernel) (by decide +kernel)
set_option maxRecDepth 20000 in
theorem gX7_setKinds_X7_ends : GoodIn wsX7_setKinds (wsV RX7 88 RX7 yX7_ends wsX7_ends) := goodIn_app (goodIn_of _ (by decide +kernel)) ggX7_setKinds_X7_ends
theorem dX7_setKinds_0 : decode cX7_setKinds 0 = .ok (.iload_n 1, 1) := by decide +kernel
theorem dX7_setKinds_1 : decode cX7_setKinds 1 = .ok (.i2l, 1) := by decide +kernel
theorem dX7_setKinds_2 : decode cX7_setKinds 2 = .ok (.lconst 1, 1) := by decide +kernel
theorem dX7_setKinds_3 : decode cX7_setKinds 3 = .ok (.ldc2_w 94, 3) := by decide +kernel
theorem dX7_setKinds_6 : decode cX7_setKinds 6 = .ok (.invokestatic 47, 3) := by decide +kernel
theorem dX7_setKinds_9 : decode cX7_setKinds 9 = .ok (.ifCond .ne 6, 3) := by decide +kernel
theorem dX7_setKinds_12 : decode cX7_setKinds 12 = .ok (.bipush (-2), 2) := by decide +kernel
theorem dX7_setKinds_14 : decode cX7_setKinds 14 = .ok (.ireturn, 1) := by decide +kernel
theorem dX7_setKinds_15 : decode cX7_setKinds 15 = .ok (.aload_n 0, 1) := by decide +kernel
theorem dX7_setKinds_16 : decode cX7_setKinds 16 = .ok (.invokevirtual 96, 3) := by decide +kernel
theorem dX7_setKinds_19 : decode cX7_setKinds 19 = .ok (.iload_n 1, 1) := by decide +kernel
theorem dX7_setKinds_20 : decode cX7_setKinds 20 = .ok (.if_icmp .lt 6, 3) := by decide +kernel
theorem dX7_setKinds_23 : decode cX7_setKinds 23 = .ok (.bipush (-4), 2) := by decide +kernel
theorem dX7_setKinds_25 : decode cX7_setKinds 25 = .ok (.ireturn, 1) := by decide +kernel
theorem dX7_setKinds_26 : decode cX7_setKinds 26 = .ok (.aload_n 0, 1) := by decide +kernel
theorem dX7_setKinds_27 : decode cX7_setKinds 27 = .ok (.invokevirtual 81, 3) := by decide +kernel
theorem dX7_setKinds_30 : decode cX7_setKinds 30 = .ok (.aload_n 0, 1) := by decide +kernel
theorem dX7_setKinds_31 : decode cX7_setKinds 31 = .ok (.getfield 7, 3) := by decide +kernel
theorem dX7_setKinds_34 : decode cX7_setKinds 34 = .ok (.iconst 1, 1) := by decide +kernel
theorem dX7_setKinds_35 : decode cX7_setKinds 35 = .ok (.iaload, 1) := by decide +kernel
theorem dX7_setKinds_36 : decode cX7_setKinds 36 = .ok (.istore_n 2, 1) := by decide +kernel
theorem dX7_setKinds_37 : decode cX7_setKinds 37 = .ok (.aload_n 0, 1) := by decide +kernel
theorem dX7_setKinds_38 : decode cX7_setKinds 38 = .ok (.getfield 7, 3) := by decide +kernel
theorem dX7_setKinds_41 : decode cX7_setKinds 41 = .ok (.iconst 1, 1) := by decide +kernel
theorem dX7_setKinds_42 : decode cX7_setKinds 42 = .ok (.iload_n 1, 1) := by decide +kernel
theorem dX7_setKinds_43 : decode cX7_setKinds 43 = .ok (.iastore, 1) := by decide +kernel
theorem dX7_setKinds_44 : decode cX7_setKinds 44 = .ok (.aload_n 0, 1) := by decide +kernel
theorem dX7_setKinds_45 : decode cX7_setKinds 45 = .ok (.iload_n 2, 1) := by decide +kernel
theorem dX7_setKinds_46 : decode cX7_setKinds 46 = .ok (.iload_n 1, 1) := by decide +kernel
theorem dX7_setKinds_47 : decode cX7_setKinds 47 = .ok (.if_icmp .ne 8, 3) := by decide +kernel
theorem dX7_setKinds_50 : decode cX7_setKinds 50 = .ok (.bipush (-5), 2) := by decide +kernel
theorem dX7_setKinds_52 : decode cX7_setKinds 52 = .ok (.goto 4, 3) := by decide +kernel
theorem dX7_setKinds_55 : decode cX7_setKinds 55 = .ok (.iload_n 2, 1) := by decide +kernel
theorem dX7_setKinds_56 : decode cX7_setKinds 56 = .ok (.invokevirtual 88, 3) := by decide +kernel
theorem dX7_setKinds_59 : decode cX7_setKinds 59 = .ok (.ireturn, 1) := by decide +kernel
set_option maxRecDepth 20000 in
theorem ggX7_cutDoll_X7_isKind : GoodIn wsX7_cutDoll wsX7_isKind := goodIn_r _ [6, 1, 7, 8, 5, 9, 37, 38, 39, 40, 41, 42, 43, 44, 45, 46, 47, 48, 49, 50] (by decide +kernel) (by decide +kernel)
set_option maxRecDepth 20000 in
theorem gX7_cutDoll_X7_isKind : GoodIn wsX7_cutDoll (wsV RX7 75 RX7 yX7_isKind wsX7_isKind) := goodIn_app (goodIn_of _ (by decide +kernel)) ggX7_cutDoll_X7_isKind
set_option maxRecDepth 20000 in
theorem ggX7_cutDoll_X7_freeNumber : GoodIn wsX7_cutDoll wsX7_freeNumber := goodIn_r _ [13, 1, 37, 38, 39, 40, 41, 42, 43, 44, 45, 46, 47, 48, 49, 50] (by decide +kernel) (by decide +kernel)
set_option maxRecDepth 20000 in
theorem gX7_cutDoll_X7_freeNumber : GoodIn wsX7_cutDoll (wsV RX7 100 RX7 yX7_freeNumber wsX7_freeNumber) := goodIn_app (goodIn_of _ (by decide +kernel)) ggX7_cutDoll_X7_freeNumber
set_option maxRecDepth 20000 in
theorem ggX7_cutDoll_X7_keeps : GoodIn wsX7_cutDoll wsX7_keeps := goodIn_r _ [17, 18, 1, 37, 38, 39, 40, 41, 42, 43, 44, 45, 46, 47, 48, 49, 50] (by decide +kernel) (by decide +kernel)
set_option maxRecDepth 20000 in
theorem gX7_cutDoll_X7_keeps : GoodIn wsX7_cutDoll (wsV RX7 81 RX7 yX7_keeps wsX7_keeps) := goodIn_app (goodIn_of _ (by decide +kernel)) ggX7_cutDoll_X7_keeps
set_option maxRecDepth 20000 in
theorem ggX7_cutDoll_X7_lays : GoodIn wsX7_cutDoll wsX7_lays := goodIn_r _ [22, 1, 37, 38, 39, 40, 41, 42, 43, 44, 45, 46, 47, 48, 49, 50] (by decide +kernel) (by decide +kernel)
set_option maxRecDepth 20000 in
theorem gX7_cutDoll_X7_lays : GoodIn wsX7_cutDoll (wsV RX7 71 RX7 yX7_lays wsX7_lays) := goodIn_app (goodIn_of _ (by decide +kernel)) ggX7_cutDoll_X7_lays
set_option maxRecDepth 20000 in
theorem ggX7_cutDoll_X7_ends : GoodIn wsX7_cutDoll wsX7_ends := goodIn_r _ [26, 27, 28, 29, 5, 30, 1, 18, 31, 32, 33, 34, 35, 36, 37, 38, 39, 40, 41, 42, 43, 44, 45, 46, 47, 48, 49, 50] (by decide +kernel) (by decide +kernel)
set_option maxRecDepth 20000 in
theorem gX7_cutDoll_X7_ends : GoodIn wsX7_cutDoll (wsV RX7 88 RX7 yX7_ends wsX7_ends) := goodIn_app (goodIn_of _ (by decide +kernel)) ggX7_cutDoll_X7_ends
theorem dX7_cutDoll_0 : decode cX7_cutDoll 0 = .ok (.aload_n 0, 1) := by decide +kernel
theorem dX7_cutDoll_1 : decode cX7_cutDoll 1 = .ok (.iload_n 1, 1) := by decide +kernel
theorem dX7_cutDoll_2 : decode cX7_cutDoll 2 = .ok (.invokevirtual 75, 3) := by decide +kernel
theorem dX7_cutDoll_5 : decode cX7_cutDoll 5 = .ok (.ifCond .ne 5, 3) := by decide +kernel
theorem dX7_cutDoll_8 : decode cX7_cutDoll 8 = .ok (.iconst (-1), 1) := by decide +kernel
theorem dX7_cutDoll_9 : decode cX7_cutDoll 9 = .ok (.ireturn, 1) := by decide +kernel
theorem dX7_cutDoll_10 : decode cX7_cutDoll 10 = .ok (.aload_n 0, 1) := by decide +kernel
theorem dX7_cutDoll_11 : decode cX7_cutDoll 11 = .ok (.invokevirtual 100, 3) := by decide +kernel
theorem dX7_cutDoll_14 : decode cX7_cutDoll 14 = .ok (.istore_n 3, 1) := by decide +kernel
theorem dX7_cutDoll_15 : decode cX7_cutDoll 15 = .ok (.iload_n 3, 1) := by decide +kernel
theorem dX7_cutDoll_16 : decode cX7_cutDoll 16 = .ok (.bipush (-5), 2) := by decide +kernel
theorem dX7_cutDoll_18 : decode cX7_cutDoll 18 = .ok (.if_icmp .ne 6, 3) := by decide +kernel
theorem dX7_cutDoll_21 : decode cX7_cutDoll 21 = .ok (.bipush (-3), 2) := by decide +kernel
theorem dX7_cutDoll_23 : decode cX7_cutDoll 23 = .ok (.ireturn, 1) := by decide +kernel
theorem dX7_cutDoll_24 : decode cX7_cutDoll 24 = .ok (.aload_n 0, 1) := by decide +kernel
theorem dX7_cutDoll_25 : decode cX7_cutDoll 25 = .ok (.invokevirtual 81, 3) := by decide +kernel
theorem dX7_cutDoll_28 : decode cX7_cutDoll 28 = .ok (.aload_n 0, 1) := by decide +kernel
theorem dX7_cutDoll_29 : decode cX7_cutDoll 29 = .ok (.getfield 7, 3) := by decide +kernel
theorem dX7_cutDoll_32 : decode cX7_cutDoll 32 = .ok (.bipush 22, 2) := by decide +kernel
theorem dX7_cutDoll_34 : decode cX7_cutDoll 34 = .ok (.iload_n 3, 1) := by decide +kernel
theorem dX7_cutDoll_35 : decode cX7_cutDoll 35 = .ok (.iadd, 1) := by decide +kernel
theorem dX7_cutDoll_36 : decode cX7_cutDoll 36 = .ok (.iconst 1, 1) := by decide +kernel
theorem dX7_cutDoll_37 : decode cX7_cutDoll 37 = .ok (.iastore, 1) := by decide +kernel
theorem dX7_cutDoll_38 : decode cX7_cutDoll 38 = .ok (.aload_n 0, 1) := by decide +kernel
theorem dX7_cutDoll_39 : decode cX7_cutDoll 39 = .ok (.iload_n 3, 1) := by decide +kernel
theorem dX7_cutDoll_40 : decode cX7_cutDoll 40 = .ok (.iconst 0, 1) := by decide +kernel
theorem dX7_cutDoll_41 : decode cX7_cutDoll 41 = .ok (.iconst 2, 1) := by decide +kernel
theorem dX7_cutDoll_42 : decode cX7_cutDoll 42 = .ok (.iload_n 1, 1) := by decide +kernel
theorem dX7_cutDoll_43 : decode cX7_cutDoll 43 = .ok (.imul, 1) := by decide +kernel
theorem dX7_cutDoll_44 : decode cX7_cutDoll 44 = .ok (.iload_n 2, 1) := by decide +kernel
theorem dX7_cutDoll_45 : decode cX7_cutDoll 45 = .ok (.ifCond .eq 7, 3) := by decide +kernel
theorem dX7_cutDoll_48 : decode cX7_cutDoll 48 = .ok (.iconst 1, 1) := by decide +kernel
theorem dX7_cutDoll_49 : decode cX7_cutDoll 49 = .ok (.goto 4, 3) := by decide +kernel
theorem dX7_cutDoll_52 : decode cX7_cutDoll 52 = .ok (.iconst 0, 1) := by decide +kernel
theorem dX7_cutDoll_53 : decode cX7_cutDoll 53 = .ok (.iadd, 1) := by decide +kernel
theorem dX7_cutDoll_54 : decode cX7_cutDoll 54 = .ok (.invokevirtual 71, 3) := by decide +kernel
theorem dX7_cutDoll_57 : decode cX7_cutDoll 57 = .ok (.aload_n 0, 1) := by decide +kernel
theorem dX7_cutDoll_58 : decode cX7_cutDoll 58 = .ok (.iload_n 3, 1) := by decide +kernel
theorem dX7_cutDoll_59 : decode cX7_cutDoll 59 = .ok (.invokevirtual 88, 3) := by decide +kernel
theorem dX7_cutDoll_62 : decode cX7_cutDoll 62 = .ok (.ireturn, 1) := by decide +kernel
set_option maxRecDepth 20000 in
theorem ggX7_join_X7_isGarland : GoodIn wsX7_join wsX7_isGarland := goodIn_r _ [6, 7, 1, 8, 9, 5, 10, 54, 55, 56, 57, 58, 59, 60, 61, 62, 63, 64, 65, 66, 67] (by decide +kernel) (by decide +kernel)
set_option maxRecDepth 20000 in
theorem gX7_join_X7_isGarland : GoodIn wsX7_join (wsV RX7 103 RX7 yX7_isGarland wsX7_isGarland) := goodIn_app (goodIn_of _ (by decide +kernel)) ggX7_join_X7_isGarland
set_option maxRecDepth 20000 in
theorem ggX7_join_X7_last : GoodIn wsX7_join wsX7_last := goodIn_r _ [14, 1, 15, 16, 17, 5, 18, 54, 55, 56, 57, 58, 59, 60, 61, 62, 63, 64, 65, 66, 67] (by decide +kernel) (by decide +kernel)
set_option maxRecDepth 20000 in
theorem gX7_join_X7_last : GoodIn wsX7_join (wsV RX7 106 RX7 yX7_last wsX7_last) := goodIn_app (goodIn_of _ (by decide +kernel)) ggX7_join_X7_last
set_option maxRecDepth 20000 in
theorem ggX7_join_X7_dollAt : GoodIn wsX7_join wsX7_dollAt := goodIn_r _ [18, 1, 54, 55, 56, 57, 58, 59, 60, 61, 62, 63, 64, 65, 66, 67] (by decide +kernel) (by decide +kernel)
set_option maxRecDepth 20000 in
theorem gX7_join_X7_dollAt : GoodIn wsX7_join (wsV RX7 57 RX7 yX7_dollAt wsX7_dollAt) := goodIn_app (goodIn_of _ (by decide +kernel)) ggX7_join_X7_dollAt
set_option maxRecDepth 20000 in
theorem ggX7_join_X7_clash : GoodIn wsX7_join wsX7_clash := goodIn_r _ [22, 1, 23, 24, 25, 5, 26, 54, 55, 56, 57, 58, 59, 60, 61, 62, 63, 64, 65, 66, 67] (by decide +kernel) (by decide +kernel)
set_option maxRecDepth 20000 in
theorem gX7_join_X7_clash : GoodIn wsX7_join (wsV RX7 60 RX7 yX7_clash wsX7_clash) := goodIn_app (goodIn_of _ (by decide +kernel)) ggX7_join_X7_clash
set_option maxRecDepth 20000 in
theorem ggX7_join_X7_keeps : GoodIn wsX7_join wsX7_keeps := goodIn_r _ [30, 31, 1, 54, 55, 56, 57, 58, 59, 60, 61, 62, 63, 64, 65, 66, 67] (by decide +kernel) (by decide +kernel)
set_option maxRecDepth 20000 in
theorem gX7_join_X7_keeps : GoodIn wsX7_join (wsV RX7 81 RX7 yX7_keeps wsX7_keeps) := goodIn_app (goodIn_of _ (by decide +kernel)) ggX7_join_X7_keeps
set_option maxRecDepth 20000 in
theorem ggX7_join_X7_lays : GoodIn wsX7_join wsX7_lays := goodIn_r _ [35, 1, 54, 55, 56, 57, 58, 59, 60, 61, 62, 63, 64, 65, 66, 67] (by decide +kernel) (by decide +kernel)
set_option maxRecDepth 20000 in
theorem gX7_join_X7_lays : GoodIn wsX7_join (wsV RX7 71 RX7 yX7_lays wsX7_lays) := goodIn_app (goodIn_of _ (by decide +kernel)) ggX7_join_X7_lays
set_option maxRecDepth 20000 in
theorem ggX7_join_X7_takes : GoodIn wsX7_join wsX7_takes := goodIn_r _ [39, 1, 32, 33, 34, 5, 35, 54, 55, 56, 57, 58, 59, 60, 61, 62, 63, 64, 65, 66, 67] (by decide +kernel) (by decide +kernel)
set_option maxRecDepth 20000 in
theorem gX7_join_X7_takes : GoodIn wsX7_join (wsV RX7 109 RX7 yX7_takes wsX7_takes) := goodIn_app (goodIn_of _ (by decide +kernel)) ggX7_join_X7_takes
set_option maxRecDepth 20000 in
theorem ggX7_join_X7_ends : GoodIn wsX7_join wsX7_ends := goodIn_r _ [43, 44, 45, 46, 5, 47, 1, 31, 48, 49, 50, 51, 52, 53, 54, 55, 56, 57, 58, 59, 60, 61, 62, 63, 64, 65, 66, 67] (by decide +kernel) (by decide +kernel)
set_option maxRecDepth 20000 in
theorem gX7_join_X7_ends : GoodIn wsX7_join (wsV RX7 88 RX7 yX7_ends wsX7_ends) := goodIn_app (goodIn_of _ (by decide +kernel)) ggX7_join_X7_ends
theorem dX7_join_0 : decode cX7_join 0 = .ok (.aload_n 0, 1) := by decide +kernel
theorem dX7_join_1 : decode cX7_join 1 = .ok (.iload_n 1, 1) := by decide +kernel
theorem dX7_join_2 : decode cX7_join 2 = .ok (.invokevirtual 103, 3) := by decide +kernel
theorem dX7_join_5 : decode cX7_join 5 = .ok (.ifCond .eq 11, 3) := by decide +kernel
theorem dX7_join_8 : decode cX7_join 8 = .ok (.aload_n 0, 1) := by decide +kernel
theorem dX7_join_9 : decode cX7_join 9 = .ok (.iload_n 2, 1) := by decide +kernel
theorem dX7_join_10 : decode cX7_join 10 = .ok (.invokevirtual 103, 3) := by decide +kernel
theorem dX7_join_13 : decode cX7_join 13 = .ok (.ifCond .ne 5, 3) := by decide +kernel
theorem dX7_join_16 : decode cX7_join 16 = .ok (.iconst (-1), 1) := by decide +kernel
theorem dX7_join_17 : decode cX7_join 17 = .ok (.ireturn, 1) := by decide +kernel
theorem dX7_join_18 : decode cX7_join 18 = .ok (.iload_n 1, 1) := by decide +kernel
theorem dX7_join_19 : decode cX7_join 19 = .ok (.iload_n 2, 1) := by decide +kernel
theorem dX7_join_20 : decode cX7_join 20 = .ok (.if_icmp .ne 6, 3) := by decide +kernel
theorem dX7_join_23 : decode cX7_join 23 = .ok (.bipush (-2), 2) := by decide +kernel
theorem dX7_join_25 : decode cX7_join 25 = .ok (.ireturn, 1) := by decide +kernel
theorem dX7_join_26 : decode cX7_join 26 = .ok (.aload_n 0, 1) := by decide +kernel
theorem dX7_join_27 : decode cX7_join 27 = .ok (.aload_n 0, 1) := by decide +kernel
theorem dX7_join_28 : decode cX7_join 28 = .ok (.iload_n 1, 1) := by decide +kernel
theorem dX7_join_29 : decode cX7_join 29 = .ok (.invokevirtual 106, 3) := by decide +kernel
theorem dX7_join_32 : decode cX7_join 32 = .ok (.aload_n 0, 1) := by decide +kernel
theorem dX7_join_33 : decode cX7_join 33 = .ok (.iload_n 2, 1) := by decide +kernel
theorem dX7_join_34 : decode cX7_join 34 = .ok (.iconst 0, 1) := by decide +kernel
theorem dX7_join_35 : decode cX7_join 35 = .ok (.invokevirtual 57, 3) := by decide +kernel
theorem dX7_join_38 : decode cX7_join 38 = .ok (.invokevirtual 60, 3) := by decide +kernel
theorem dX7_join_41 : decode cX7_join 41 = .ok (.ifCond .eq 6, 3) := by decide +kernel
theorem dX7_join_44 : decode cX7_join 44 = .ok (.bipush (-4), 2) := by decide +kernel
theorem dX7_join_46 : decode cX7_join 46 = .ok (.ireturn, 1) := by decide +kernel
theorem dX7_join_47 : decode cX7_join 47 = .ok (.aload_n 0, 1) := by decide +kernel
theorem dX7_join_48 : decode cX7_join 48 = .ok (.getfield 7, 3) := by decide +kernel
theorem dX7_join_51 : decode cX7_join 51 = .ok (.bipush 22, 2) := by decide +kernel
theorem dX7_join_53 : decode cX7_join 53 = .ok (.iload_n 1, 1) := by decide +kernel
theorem dX7_join_54 : decode cX7_join 54 = .ok (.iadd, 1) := by decide +kernel
theorem dX7_join_55 : decode cX7_join 55 = .ok (.iaload, 1) := by decide +kernel
theorem dX7_join_56 : decode cX7_join 56 = .ok (.aload_n 0, 1) := by decide +kernel
theorem dX7_join_57 : decode cX7_join 57 = .ok (.getfield 7, 3) := by decide +kernel
theorem dX7_join_60 : decode cX7_join 60 = .ok (.bipush 22, 2) := by decide +kernel
theorem dX7_join_62 : decode cX7_join 62 = .ok (.iload_n 2, 1) := by decide +kernel
theorem dX7_join_63 : decode cX7_join 63 = .ok (.iadd, 1) := by decide +kernel
theorem dX7_join_64 : decode cX7_join 64 = .ok (.iaload, 1) := by decide +kernel
theorem dX7_join_65 : decode cX7_join 65 = .ok (.iadd, 1) := by decide +kernel
theorem dX7_join_66 : decode cX7_join 66 = .ok (.bipush 32, 2) := by decide +kernel
theorem dX7_join_68 : decode cX7_join 68 = .ok (.if_icmp .le 6, 3) := by decide +kernel
theorem dX7_join_71 : decode cX7_join 71 = .ok (.bipush (-3), 2) := by decide +kernel
theorem dX7_join_73 : decode cX7_join 73 = .ok (.ireturn, 1) := by decide +kernel
theorem dX7_join_74 : decode cX7_join 74 = .ok (.aload_n 0, 1) := by decide +kernel
theorem dX7_join_75 : decode cX7_join 75 = .ok (.invokevirtual 81, 3) := by decide +kernel
theorem dX7_join_78 : decode cX7_join 78 = .ok (.iconst 0, 1) := by decide +kernel
theorem dX7_join_79 : decode cX7_join 79 = .ok (.istore_n 3, 1) := by decide +kernel
theorem dX7_join_80 : decode cX7_join 80 = .ok (.iload_n 3, 1) := by decide +kernel
theorem dX7_join_81 : decode cX7_join 81 = .ok (.aload_n 0, 1) := by decide +kernel
theorem dX7_join_82 : decode cX7_join 82 = .ok (.getfield 7, 3) := by decide +kernel
theorem dX7_join_85 : decode cX7_join 85 = .ok (.bipush 22, 2) := by decide +kernel
theorem dX7_join_87 : decode cX7_join 87 = .ok (.iload_n 2, 1) := by decide +kernel
theorem dX7_join_88 : decode cX7_join 88 = .ok (.iadd, 1) := by decide +kernel
theorem dX7_join_89 : decode cX7_join 89 = .ok (.iaload, 1) := by decide +kernel
theorem dX7_join_90 : decode cX7_join 90 = .ok (.if_icmp .ge 31, 3) := by decide +kernel
theorem dX7_join_93 : decode cX7_join 93 = .ok (.aload_n 0, 1) := by decide +kernel
theorem dX7_join_94 : decode cX7_join 94 = .ok (.iload_n 1, 1) := by decide +kernel
theorem dX7_join_95 : decode cX7_join 95 = .ok (.aload_n 0, 1) := by decide +kernel
theorem dX7_join_96 : decode cX7_join 96 = .ok (.getfield 7, 3) := by decide +kernel
theorem dX7_join_99 : decode cX7_join 99 = .ok (.bipush 22, 2) := by decide +kernel
theorem dX7_join_101 : decode cX7_join 101 = .ok (.iload_n 1, 1) := by decide +kernel
theorem dX7_join_102 : decode cX7_join 102 = .ok (.iadd, 1) := by decide +kernel
theorem dX7_join_103 : decode cX7_join 103 = .ok (.iaload, 1) := by decide +kernel
theorem dX7_join_104 : decode cX7_join 104 = .ok (.iload_n 3, 1) := by decide +kernel
theorem dX7_join_105 : decode cX7_join 105 = .ok (.iadd, 1) := by decide +kernel
theorem dX7_join_106 : decode cX7_join 106 = .ok (.aload_n 0, 1) := by decide +kernel
theorem dX7_join_107 : decode cX7_join 107 = .ok (.iload_n 2, 1) := by decide +kernel
theorem dX7_join_108 : decode cX7_join 108 = .ok (.iload_n 3, 1) := by decide +kernel
theorem dX7_join_109 : decode cX7_join 109 = .ok (.invokevirtual 57, 3) := by decide +kernel
theorem dX7_join_112 : decode cX7_join 112 = .ok (.invokevirtual 71, 3) := by decide +kernel
theorem dX7_join_115 : decode cX7_join 115 = .ok (.iinc 3 1, 3) := by decide +kernel
theorem dX7_join_118 : decode cX7_join 118 = .ok (.goto (-38), 3) := by decide +kernel
theorem dX7_join_121 : decode cX7_join 121 = .ok (.aload_n 0, 1) := by decide +kernel
theorem dX7_join_122 : decode cX7_join 122 = .ok (.getfield 7, 3) := by decide +kernel
theorem dX7_join_125 : decode cX7_join 125 = .ok (.bipush 22, 2) := by decide +kernel
theorem dX7_join_127 : decode cX7_join 127 = .ok (.iload_n 1, 1) := by decide +kernel
theorem dX7_join_128 : decode cX7_join 128 = .ok (.iadd, 1) := by decide +kernel
theorem dX7_join_129 : decode cX7_join 129 = .ok (.dup2, 1) := by decide +kernel
theorem dX7_join_130 : decode cX7_join 130 = .ok (.iaload, 1) := by decide +kernel
theorem dX7_join_131 : decode cX7_join 131 = .ok (.aload_n 0, 1) := by decide +kernel
theorem dX7_join_132 : decode cX7_join 132 = .ok (.getfield 7, 3) := by decide +kernel
theorem dX7_join_135 : decode cX7_join 135 = .ok (.bipush 22, 2) := by decide +kernel
theorem dX7_join_137 : decode cX7_join 137 = .ok (.iload_n 2, 1) := by decide +kernel
theorem dX7_join_138 : decode cX7_join 138 = .ok (.iadd, 1) := by decide +kernel
theorem dX7_join_139 : decode cX7_join 139 = .ok (.iaload, 1) := by decide +kernel
theorem dX7_join_140 : decode cX7_join 140 = .ok (.iadd, 1) := by decide +kernel
