theorem dX7_join_141 : decode cX7_join 141 = .ok (.iastore, 1) := by decide +kernel
theorem dX7_join_142 : decode cX7_join 142 = .ok (.aload_n 0, 1) := by decide +kernel
theorem dX7_join_143 : decode cX7_join 143 = .ok (.iload_n 2, 1) := by decide +kernel
theorem dX7_join_144 : decode cX7_join 144 = .ok (.invokevirtual 109, 3) := by decide +kernel
theorem dX7_join_147 : decode cX7_join 147 = .ok (.aload_n 0, 1) := by decide +kernel
theorem dX7_join_148 : decode cX7_join 148 = .ok (.aload_n 0, 1) := by decide +kernel
theorem dX7_join_149 : decode cX7_join 149 = .ok (.getfield 7, 3) := by decide +kernel
theorem dX7_join_152 : decode cX7_join 152 = .ok (.bipush 22, 2) := by decide +kernel
theorem dX7_join_154 : decode cX7_join 154 = .ok (.iload_n 1, 1) := by decide +kernel
theorem dX7_join_155 : decode cX7_join 155 = .ok (.iadd, 1) := by decide +kernel
theorem dX7_join_156 : decode cX7_join 156 = .ok (.iaload, 1) := by decide +kernel
theorem dX7_join_157 : decode cX7_join 157 = .ok (.invokevirtual 88, 3) := by decide +kernel
theorem dX7_join_160 : decode cX7_join 160 = .ok (.ireturn, 1) := by decide +kernel
set_option maxRecDepth 20000 in
theorem ggX7_cutApart_X7_isGarland : GoodIn wsX7_cutApart wsX7_isGarland := goodIn_r _ [6, 7, 1, 8, 9, 5, 10, 42, 43, 44, 45, 46, 47, 48, 49, 50, 51, 52, 53, 54, 55] (by decide +kernel) (by decide +kernel)
set_option maxRecDepth 20000 in
theorem gX7_cutApart_X7_isGarland : GoodIn wsX7_cutApart (wsV RX7 103 RX7 yX7_isGarland wsX7_isGarland) := goodIn_app (goodIn_of _ (by decide +kernel)) ggX7_cutApart_X7_isGarland
set_option maxRecDepth 20000 in
theorem ggX7_cutApart_X7_in : GoodIn wsX7_cutApart wsX7_in := goodIn_r _ [10] (by decide +kernel) (by decide +kernel)
set_option maxRecDepth 20000 in
theorem gX7_cutApart_X7_in : GoodIn wsX7_cutApart (va_wsS RX7 47 yX7_in wsX7_in) := goodIn_app (goodIn_of _ (by decide +kernel)) ggX7_cutApart_X7_in
set_option maxRecDepth 20000 in
theorem ggX7_cutApart_X7_freeNumber : GoodIn wsX7_cutApart wsX7_freeNumber := goodIn_r _ [14, 1, 42, 43, 44, 45, 46, 47, 48, 49, 50, 51, 52, 53, 54, 55] (by decide +kernel) (by decide +kernel)
set_option maxRecDepth 20000 in
theorem gX7_cutApart_X7_freeNumber : GoodIn wsX7_cutApart (wsV RX7 100 RX7 yX7_freeNumber wsX7_freeNumber) := goodIn_app (goodIn_of _ (by decide +kernel)) ggX7_cutApart_X7_freeNumber
set_option maxRecDepth 20000 in
theorem ggX7_cutApart_X7_keeps : GoodIn wsX7_cutApart wsX7_keeps := goodIn_r _ [18, 19, 1, 42, 43, 44, 45, 46, 47, 48, 49, 50, 51, 52, 53, 54, 55] (by decide +kernel) (by decide +kernel)
set_option maxRecDepth 20000 in
theorem gX7_cutApart_X7_keeps : GoodIn wsX7_cutApart (wsV RX7 81 RX7 yX7_keeps wsX7_keeps) := goodIn_app (goodIn_of _ (by decide +kernel)) ggX7_cutApart_X7_keeps
set_option maxRecDepth 20000 in
theorem ggX7_cutApart_X7_dollAt : GoodIn wsX7_cutApart wsX7_dollAt := goodIn_r _ [23, 1, 42, 43, 44, 45, 46, 47, 48, 49, 50, 51, 52, 53, 54, 55] (by decide +kernel) (by decide +kernel)
set_option maxRecDepth 20000 in
theorem gX7_cutApart_X7_dollAt : GoodIn wsX7_cutApart (wsV RX7 57 RX7 yX7_dollAt wsX7_dollAt) := goodIn_app (goodIn_of _ (by decide +kernel)) ggX7_cutApart_X7_dollAt
set_option maxRecDepth 20000 in
theorem ggX7_cutApart_X7_lays : GoodIn wsX7_cutApart wsX7_lays := goodIn_r _ [27, 1, 42, 43, 44, 45, 46, 47, 48, 49, 50, 51, 52, 53, 54, 55] (by decide +kernel) (by decide +kernel)
set_option maxRecDepth 20000 in
theorem gX7_cutApart_X7_lays : GoodIn wsX7_cutApart (wsV RX7 71 RX7 yX7_lays wsX7_lays) := goodIn_app (goodIn_of _ (by decide +kernel)) ggX7_cutApart_X7_lays
set_option maxRecDepth 20000 in
theorem ggX7_cutApart_X7_ends : GoodIn wsX7_cutApart wsX7_ends := goodIn_r _ [31, 32, 33, 34, 5, 35, 1, 19, 36, 37, 38, 39, 40, 41, 42, 43, 44, 45, 46, 47, 48, 49, 50, 51, 52, 53, 54, 55] (by decide +kernel) (by decide +kernel)
set_option maxRecDepth 20000 in
theorem gX7_cutApart_X7_ends : GoodIn wsX7_cutApart (wsV RX7 88 RX7 yX7_ends wsX7_ends) := goodIn_app (goodIn_of _ (by decide +kernel)) ggX7_cutApart_X7_ends
theorem dX7_cutApart_0 : decode cX7_cutApart 0 = .ok (.aload_n 0, 1) := by decide +kernel
theorem dX7_cutApart_1 : decode cX7_cutApart 1 = .ok (.iload_n 1, 1) := by decide +kernel
theorem dX7_cutApart_2 : decode cX7_cutApart 2 = .ok (.invokevirtual 103, 3) := by decide +kernel
theorem dX7_cutApart_5 : decode cX7_cutApart 5 = .ok (.ifCond .ne 5, 3) := by decide +kernel
theorem dX7_cutApart_8 : decode cX7_cutApart 8 = .ok (.iconst (-1), 1) := by decide +kernel
theorem dX7_cutApart_9 : decode cX7_cutApart 9 = .ok (.ireturn, 1) := by decide +kernel
theorem dX7_cutApart_10 : decode cX7_cutApart 10 = .ok (.iload_n 2, 1) := by decide +kernel
theorem dX7_cutApart_11 : decode cX7_cutApart 11 = .ok (.i2l, 1) := by decide +kernel
theorem dX7_cutApart_12 : decode cX7_cutApart 12 = .ok (.lconst 1, 1) := by decide +kernel
theorem dX7_cutApart_13 : decode cX7_cutApart 13 = .ok (.aload_n 0, 1) := by decide +kernel
theorem dX7_cutApart_14 : decode cX7_cutApart 14 = .ok (.getfield 7, 3) := by decide +kernel
theorem dX7_cutApart_17 : decode cX7_cutApart 17 = .ok (.bipush 22, 2) := by decide +kernel
theorem dX7_cutApart_19 : decode cX7_cutApart 19 = .ok (.iload_n 1, 1) := by decide +kernel
theorem dX7_cutApart_20 : decode cX7_cutApart 20 = .ok (.iadd, 1) := by decide +kernel
theorem dX7_cutApart_21 : decode cX7_cutApart 21 = .ok (.iaload, 1) := by decide +kernel
theorem dX7_cutApart_22 : decode cX7_cutApart 22 = .ok (.i2l, 1) := by decide +kernel
theorem dX7_cutApart_23 : decode cX7_cutApart 23 = .ok (.lconst 1, 1) := by decide +kernel
theorem dX7_cutApart_24 : decode cX7_cutApart 24 = .ok (.lsub, 1) := by decide +kernel
theorem dX7_cutApart_25 : decode cX7_cutApart 25 = .ok (.invokestatic 47, 3) := by decide +kernel
theorem dX7_cutApart_28 : decode cX7_cutApart 28 = .ok (.ifCond .ne 6, 3) := by decide +kernel
theorem dX7_cutApart_31 : decode cX7_cutApart 31 = .ok (.bipush (-2), 2) := by decide +kernel
theorem dX7_cutApart_33 : decode cX7_cutApart 33 = .ok (.ireturn, 1) := by decide +kernel
theorem dX7_cutApart_34 : decode cX7_cutApart 34 = .ok (.aload_n 0, 1) := by decide +kernel
theorem dX7_cutApart_35 : decode cX7_cutApart 35 = .ok (.invokevirtual 100, 3) := by decide +kernel
theorem dX7_cutApart_38 : decode cX7_cutApart 38 = .ok (.istore_n 3, 1) := by decide +kernel
theorem dX7_cutApart_39 : decode cX7_cutApart 39 = .ok (.iload_n 3, 1) := by decide +kernel
theorem dX7_cutApart_40 : decode cX7_cutApart 40 = .ok (.bipush (-5), 2) := by decide +kernel
theorem dX7_cutApart_42 : decode cX7_cutApart 42 = .ok (.if_icmp .ne 6, 3) := by decide +kernel
theorem dX7_cutApart_45 : decode cX7_cutApart 45 = .ok (.bipush (-3), 2) := by decide +kernel
theorem dX7_cutApart_47 : decode cX7_cutApart 47 = .ok (.ireturn, 1) := by decide +kernel
theorem dX7_cutApart_48 : decode cX7_cutApart 48 = .ok (.aload_n 0, 1) := by decide +kernel
theorem dX7_cutApart_49 : decode cX7_cutApart 49 = .ok (.invokevirtual 81, 3) := by decide +kernel
theorem dX7_cutApart_52 : decode cX7_cutApart 52 = .ok (.iload_n 2, 1) := by decide +kernel
theorem dX7_cutApart_53 : decode cX7_cutApart 53 = .ok (.istore 4, 2) := by decide +kernel
theorem dX7_cutApart_55 : decode cX7_cutApart 55 = .ok (.iload 4, 2) := by decide +kernel
theorem dX7_cutApart_57 : decode cX7_cutApart 57 = .ok (.aload_n 0, 1) := by decide +kernel
theorem dX7_cutApart_58 : decode cX7_cutApart 58 = .ok (.getfield 7, 3) := by decide +kernel
theorem dX7_cutApart_61 : decode cX7_cutApart 61 = .ok (.bipush 22, 2) := by decide +kernel
theorem dX7_cutApart_63 : decode cX7_cutApart 63 = .ok (.iload_n 1, 1) := by decide +kernel
theorem dX7_cutApart_64 : decode cX7_cutApart 64 = .ok (.iadd, 1) := by decide +kernel
theorem dX7_cutApart_65 : decode cX7_cutApart 65 = .ok (.iaload, 1) := by decide +kernel
theorem dX7_cutApart_66 : decode cX7_cutApart 66 = .ok (.if_icmp .ge 33, 3) := by decide +kernel
theorem dX7_cutApart_69 : decode cX7_cutApart 69 = .ok (.aload_n 0, 1) := by decide +kernel
theorem dX7_cutApart_70 : decode cX7_cutApart 70 = .ok (.iload_n 3, 1) := by decide +kernel
theorem dX7_cutApart_71 : decode cX7_cutApart 71 = .ok (.iload 4, 2) := by decide +kernel
theorem dX7_cutApart_73 : decode cX7_cutApart 73 = .ok (.iload_n 2, 1) := by decide +kernel
theorem dX7_cutApart_74 : decode cX7_cutApart 74 = .ok (.isub, 1) := by decide +kernel
theorem dX7_cutApart_75 : decode cX7_cutApart 75 = .ok (.aload_n 0, 1) := by decide +kernel
theorem dX7_cutApart_76 : decode cX7_cutApart 76 = .ok (.iload_n 1, 1) := by decide +kernel
theorem dX7_cutApart_77 : decode cX7_cutApart 77 = .ok (.iload 4, 2) := by decide +kernel
theorem dX7_cutApart_79 : decode cX7_cutApart 79 = .ok (.invokevirtual 57, 3) := by decide +kernel
theorem dX7_cutApart_82 : decode cX7_cutApart 82 = .ok (.invokevirtual 71, 3) := by decide +kernel
theorem dX7_cutApart_85 : decode cX7_cutApart 85 = .ok (.aload_n 0, 1) := by decide +kernel
theorem dX7_cutApart_86 : decode cX7_cutApart 86 = .ok (.iload_n 1, 1) := by decide +kernel
theorem dX7_cutApart_87 : decode cX7_cutApart 87 = .ok (.iload 4, 2) := by decide +kernel
theorem dX7_cutApart_89 : decode cX7_cutApart 89 = .ok (.iconst 0, 1) := by decide +kernel
theorem dX7_cutApart_90 : decode cX7_cutApart 90 = .ok (.invokevirtual 71, 3) := by decide +kernel
theorem dX7_cutApart_93 : decode cX7_cutApart 93 = .ok (.iinc 4 1, 3) := by decide +kernel
theorem dX7_cutApart_96 : decode cX7_cutApart 96 = .ok (.goto (-41), 3) := by decide +kernel
theorem dX7_cutApart_99 : decode cX7_cutApart 99 = .ok (.aload_n 0, 1) := by decide +kernel
theorem dX7_cutApart_100 : decode cX7_cutApart 100 = .ok (.getfield 7, 3) := by decide +kernel
theorem dX7_cutApart_103 : decode cX7_cutApart 103 = .ok (.bipush 22, 2) := by decide +kernel
theorem dX7_cutApart_105 : decode cX7_cutApart 105 = .ok (.iload_n 3, 1) := by decide +kernel
theorem dX7_cutApart_106 : decode cX7_cutApart 106 = .ok (.iadd, 1) := by decide +kernel
theorem dX7_cutApart_107 : decode cX7_cutApart 107 = .ok (.aload_n 0, 1) := by decide +kernel
theorem dX7_cutApart_108 : decode cX7_cutApart 108 = .ok (.getfield 7, 3) := by decide +kernel
theorem dX7_cutApart_111 : decode cX7_cutApart 111 = .ok (.bipush 22, 2) := by decide +kernel
theorem dX7_cutApart_113 : decode cX7_cutApart 113 = .ok (.iload_n 1, 1) := by decide +kernel
theorem dX7_cutApart_114 : decode cX7_cutApart 114 = .ok (.iadd, 1) := by decide +kernel
theorem dX7_cutApart_115 : decode cX7_cutApart 115 = .ok (.iaload, 1) := by decide +kernel
theorem dX7_cutApart_116 : decode cX7_cutApart 116 = .ok (.iload_n 2, 1) := by decide +kernel
theorem dX7_cutApart_117 : decode cX7_cutApart 117 = .ok (.isub, 1) := by decide +kernel
theorem dX7_cutApart_118 : decode cX7_cutApart 118 = .ok (.iastore, 1) := by decide +kernel
theorem dX7_cutApart_119 : decode cX7_cutApart 119 = .ok (.aload_n 0, 1) := by decide +kernel
theorem dX7_cutApart_120 : decode cX7_cutApart 120 = .ok (.getfield 7, 3) := by decide +kernel
theorem dX7_cutApart_123 : decode cX7_cutApart 123 = .ok (.bipush 22, 2) := by decide +kernel
theorem dX7_cutApart_125 : decode cX7_cutApart 125 = .ok (.iload_n 1, 1) := by decide +kernel
theorem dX7_cutApart_126 : decode cX7_cutApart 126 = .ok (.iadd, 1) := by decide +kernel
theorem dX7_cutApart_127 : decode cX7_cutApart 127 = .ok (.iload_n 2, 1) := by decide +kernel
theorem dX7_cutApart_128 : decode cX7_cutApart 128 = .ok (.iastore, 1) := by decide +kernel
theorem dX7_cutApart_129 : decode cX7_cutApart 129 = .ok (.aload_n 0, 1) := by decide +kernel
theorem dX7_cutApart_130 : decode cX7_cutApart 130 = .ok (.iload_n 3, 1) := by decide +kernel
theorem dX7_cutApart_131 : decode cX7_cutApart 131 = .ok (.invokevirtual 88, 3) := by decide +kernel
theorem dX7_cutApart_134 : decode cX7_cutApart 134 = .ok (.ireturn, 1) := by decide +kernel
set_option maxRecDepth 20000 in
theorem ggX7_turn_X7_isGarland : GoodIn wsX7_turn wsX7_isGarland := goodIn_r _ [7, 8, 1, 9, 10, 6, 11, 55, 56, 57, 58, 59, 60, 61, 62, 63, 64, 65, 66, 67, 68] (by decide +kernel) (by decide +kernel)
set_option maxRecDepth 20000 in
theorem gX7_turn_X7_isGarland : GoodIn wsX7_turn (wsV RX7 103 RX7 yX7_isGarland wsX7_isGarland) := goodIn_app (goodIn_of _ (by decide +kernel)) ggX7_turn_X7_isGarland
set_option maxRecDepth 20000 in
theorem ggX7_turn_X7_isOwnImage : GoodIn wsX7_turn wsX7_isOwnImage := goodIn_r _ [15, 16, 17, 18, 6, 19, 1, 20, 21, 22, 23, 24, 25, 26, 27, 55, 56, 57, 58, 59, 60, 61, 62, 63, 64, 65, 66, 67, 68] (by decide +kernel) (by decide +kernel)
set_option maxRecDepth 20000 in
theorem gX7_turn_X7_isOwnImage : GoodIn wsX7_turn (wsV RX7 113 RX7 yX7_isOwnImage wsX7_isOwnImage) := goodIn_app (goodIn_of _ (by decide +kernel)) ggX7_turn_X7_isOwnImage
set_option maxRecDepth 20000 in
theorem ggX7_turn_X7_keeps : GoodIn wsX7_turn wsX7_keeps := goodIn_r _ [31, 32, 1, 55, 56, 57, 58, 59, 60, 61, 62, 63, 64, 65, 66, 67, 68] (by decide +kernel) (by decide +kernel)
set_option maxRecDepth 20000 in
theorem gX7_turn_X7_keeps : GoodIn wsX7_turn (wsV RX7 81 RX7 yX7_keeps wsX7_keeps) := goodIn_app (goodIn_of _ (by decide +kernel)) ggX7_turn_X7_keeps
set_option maxRecDepth 20000 in
theorem ggX7_turn_X7_turnedDoll : GoodIn wsX7_turn wsX7_turnedDoll := goodIn_r _ [27, 1, 20, 21, 22, 6, 23, 55, 56, 57, 58, 59, 60, 61, 62, 63, 64, 65, 66, 67, 68] (by decide +kernel) (by decide +kernel)
set_option maxRecDepth 20000 in
theorem gX7_turn_X7_turnedDoll : GoodIn wsX7_turn (wsV RX7 64 RX7 yX7_turnedDoll wsX7_turnedDoll) := goodIn_app (goodIn_of _ (by decide +kernel)) ggX7_turn_X7_turnedDoll
set_option maxRecDepth 20000 in
theorem ggX7_turn_X7_lays : GoodIn wsX7_turn wsX7_lays := goodIn_r _ [36, 1, 55, 56, 57, 58, 59, 60, 61, 62, 63, 64, 65, 66, 67, 68] (by decide +kernel) (by decide +kernel)
set_option maxRecDepth 20000 in
theorem gX7_turn_X7_lays : GoodIn wsX7_turn (wsV RX7 71 RX7 yX7_lays wsX7_lays) := goodIn_app (goodIn_of _ (by decide +kernel)) ggX7_turn_X7_lays
set_option maxRecDepth 20000 in
theorem ggX7_turn_X7_mirroredIn : GoodIn wsX7_turn wsX7_mirroredIn := goodIn_r _ [40, 1, 20, 21, 22, 6, 23, 55, 56, 57, 58, 59, 60, 61, 62, 63, 64, 65, 66, 67, 68] (by decide +kernel) (by decide +kernel)
set_option maxRecDepth 20000 in
theorem gX7_turn_X7_mirroredIn : GoodIn wsX7_turn (wsV RX7 116 RX7 yX7_mirroredIn wsX7_mirroredIn) := goodIn_app (goodIn_of _ (by decide +kernel)) ggX7_turn_X7_mirroredIn
set_option maxRecDepth 20000 in
theorem ggX7_turn_X7_ends : GoodIn wsX7_turn wsX7_ends := goodIn_r _ [44, 45, 46, 47, 6, 48, 1, 32, 49, 50, 51, 52, 53, 54, 55, 56, 57, 58, 59, 60, 61, 62, 63, 64, 65, 66, 67, 68] (by decide +kernel) (by decide +kernel)
set_option maxRecDepth 20000 in
theorem gX7_turn_X7_ends : GoodIn wsX7_turn (wsV RX7 88 RX7 yX7_ends wsX7_ends) := goodIn_app (goodIn_of _ (by decide +kernel)) ggX7_turn_X7_ends
theorem dX7_turn_0 : decode cX7_turn 0 = .ok (.aload_n 0, 1) := by decide +kernel
theorem dX7_turn_1 : decode cX7_turn 1 = .ok (.iload_n 1, 1) := by decide +kernel
theorem dX7_turn_2 : decode cX7_turn 2 = .ok (.invokevirtual 103, 3) := by decide +kernel
theorem dX7_turn_5 : decode cX7_turn 5 = .ok (.ifCond .ne 5, 3) := by decide +kernel
theorem dX7_turn_8 : decode cX7_turn 8 = .ok (.iconst (-1), 1) := by decide +kernel
theorem dX7_turn_9 : decode cX7_turn 9 = .ok (.ireturn, 1) := by decide +kernel
theorem dX7_turn_10 : decode cX7_turn 10 = .ok (.aload_n 0, 1) := by decide +kernel
theorem dX7_turn_11 : decode cX7_turn 11 = .ok (.iload_n 1, 1) := by decide +kernel
theorem dX7_turn_12 : decode cX7_turn 12 = .ok (.invokevirtual 113, 3) := by decide +kernel
theorem dX7_turn_15 : decode cX7_turn 15 = .ok (.ifCond .eq 6, 3) := by decide +kernel
theorem dX7_turn_18 : decode cX7_turn 18 = .ok (.bipush (-5), 2) := by decide +kernel
theorem dX7_turn_20 : decode cX7_turn 20 = .ok (.ireturn, 1) := by decide +kernel
theorem dX7_turn_21 : decode cX7_turn 21 = .ok (.aload_n 0, 1) := by decide +kernel
theorem dX7_turn_22 : decode cX7_turn 22 = .ok (.invokevirtual 81, 3) := by decide +kernel
theorem dX7_turn_25 : decode cX7_turn 25 = .ok (.iconst 0, 1) := by decide +kernel
theorem dX7_turn_26 : decode cX7_turn 26 = .ok (.istore_n 2, 1) := by decide +kernel
theorem dX7_turn_27 : decode cX7_turn 27 = .ok (.iload_n 2, 1) := by decide +kernel
theorem dX7_turn_28 : decode cX7_turn 28 = .ok (.aload_n 0, 1) := by decide +kernel
theorem dX7_turn_29 : decode cX7_turn 29 = .ok (.getfield 7, 3) := by decide +kernel
theorem dX7_turn_32 : decode cX7_turn 32 = .ok (.bipush 22, 2) := by decide +kernel
theorem dX7_turn_34 : decode cX7_turn 34 = .ok (.iload_n 1, 1) := by decide +kernel
theorem dX7_turn_35 : decode cX7_turn 35 = .ok (.iadd, 1) := by decide +kernel
theorem dX7_turn_36 : decode cX7_turn 36 = .ok (.iaload, 1) := by decide +kernel
theorem dX7_turn_37 : decode cX7_turn 37 = .ok (.if_icmp .ge 21, 3) := by decide +kernel
theorem dX7_turn_40 : decode cX7_turn 40 = .ok (.aload_n 0, 1) := by decide +kernel
theorem dX7_turn_41 : decode cX7_turn 41 = .ok (.getfield 22, 3) := by decide +kernel
theorem dX7_turn_44 : decode cX7_turn 44 = .ok (.iload_n 2, 1) := by decide +kernel
theorem dX7_turn_45 : decode cX7_turn 45 = .ok (.aload_n 0, 1) := by decide +kernel
theorem dX7_turn_46 : decode cX7_turn 46 = .ok (.iload_n 1, 1) := by decide +kernel
theorem dX7_turn_47 : decode cX7_turn 47 = .ok (.iload_n 2, 1) := by decide +kernel
theorem dX7_turn_48 : decode cX7_turn 48 = .ok (.invokevirtual 64, 3) := by decide +kernel
theorem dX7_turn_51 : decode cX7_turn 51 = .ok (.iastore, 1) := by decide +kernel
theorem dX7_turn_52 : decode cX7_turn 52 = .ok (.iinc 2 1, 3) := by decide +kernel
theorem dX7_turn_55 : decode cX7_turn 55 = .ok (.goto (-28), 3) := by decide +kernel
theorem dX7_turn_58 : decode cX7_turn 58 = .ok (.iconst 0, 1) := by decide +kernel
theorem dX7_turn_59 : decode cX7_turn 59 = .ok (.istore_n 2, 1) := by decide +kernel
theorem dX7_turn_60 : decode cX7_turn 60 = .ok (.iload_n 2, 1) := by decide +kernel
theorem dX7_turn_61 : decode cX7_turn 61 = .ok (.aload_n 0, 1) := by decide +kernel
theorem dX7_turn_62 : decode cX7_turn 62 = .ok (.getfield 7, 3) := by decide +kernel
theorem dX7_turn_65 : decode cX7_turn 65 = .ok (.bipush 22, 2) := by decide +kernel
theorem dX7_turn_67 : decode cX7_turn 67 = .ok (.iload_n 1, 1) := by decide +kernel
theorem dX7_turn_68 : decode cX7_turn 68 = .ok (.iadd, 1) := by decide +kernel
theorem dX7_turn_69 : decode cX7_turn 69 = .ok (.iaload, 1) := by decide +kernel
theorem dX7_turn_70 : decode cX7_turn 70 = .ok (.if_icmp .ge 21, 3) := by decide +kernel
theorem dX7_turn_73 : decode cX7_turn 73 = .ok (.aload_n 0, 1) := by decide +kernel
theorem dX7_turn_74 : decode cX7_turn 74 = .ok (.iload_n 1, 1) := by decide +kernel
theorem dX7_turn_75 : decode cX7_turn 75 = .ok (.iload_n 2, 1) := by decide +kernel
theorem dX7_turn_76 : decode cX7_turn 76 = .ok (.aload_n 0, 1) := by decide +kernel
theorem dX7_turn_77 : decode cX7_turn 77 = .ok (.getfield 22, 3) := by decide +kernel
theorem dX7_turn_80 : decode cX7_turn 80 = .ok (.iload_n 2, 1) := by decide +kernel
theorem dX7_turn_81 : decode cX7_turn 81 = .ok (.iaload, 1) := by decide +kernel
theorem dX7_turn_82 : decode cX7_turn 82 = .ok (.invokevirtual 71, 3) := by decide +kernel
theorem dX7_turn_85 : decode cX7_turn 85 = .ok (.iinc 2 1, 3) := by decide +kernel
theorem dX7_turn_88 : decode cX7_turn 88 = .ok (.goto (-28), 3) := by decide +kernel
theorem dX7_turn_91 : decode cX7_turn 91 = .ok (.aload_n 0, 1) := by decide +kernel
theorem dX7_turn_92 : decode cX7_turn 92 = .ok (.aload_n 0, 1) := by decide +kernel
theorem dX7_turn_93 : decode cX7_turn 93 = .ok (.iload_n 1, 1) := by decide +kernel
theorem dX7_turn_94 : decode cX7_turn 94 = .ok (.invokevirtual 116, 3) := by decide +kernel
theorem dX7_turn_97 : decode cX7_turn 97 = .ok (.invokevirtual 88, 3) := by decide +kernel
theorem dX7_turn_100 : decode cX7_turn 100 = .ok (.ireturn, 1) := by decide +kernel
set_option maxRecDepth 20000 in
theorem ggX7_fold_X7_isGarland : GoodIn wsX7_fold wsX7_isGarland := goodIn_r _ [6, 7, 1, 8, 9, 5, 10, 50, 51, 52, 53, 54, 55, 56, 57, 58, 59, 60, 61, 62, 63] (by decide +kernel) (by decide +kernel)
set_option maxRecDepth 20000 in
theorem gX7_fold_X7_isGarland : GoodIn wsX7_fold (wsV RX7 103 RX7 yX7_isGarland wsX7_isGarland) := goodIn_app (goodIn_of _ (by decide +kernel)) ggX7_fold_X7_isGarland
set_option maxRecDepth 20000 in
theorem ggX7_fold_X7_last : GoodIn wsX7_fold wsX7_last := goodIn_r _ [14, 1, 15, 16, 17, 5, 18, 50, 51, 52, 53, 54, 55, 56, 57, 58, 59, 60, 61, 62, 63] (by decide +kernel) (by decide +kernel)
set_option maxRecDepth 20000 in
theorem gX7_fold_X7_last : GoodIn wsX7_fold (wsV RX7 106 RX7 yX7_last wsX7_last) := goodIn_app (goodIn_of _ (by decide +kernel)) ggX7_fold_X7_last
set_option maxRecDepth 20000 in
theorem ggX7_fold_X7_clash : GoodIn wsX7_fold wsX7_clash := goodIn_r _ [22, 1, 23, 24, 25, 5, 26, 50, 51, 52, 53, 54, 55, 56, 57, 58, 59, 60, 61, 62, 63] (by decide +kernel) (by decide +kernel)
set_option maxRecDepth 20000 in
theorem gX7_fold_X7_clash : GoodIn wsX7_fold (wsV RX7 60 RX7 yX7_clash wsX7_clash) := goodIn_app (goodIn_of _ (by decide +kernel)) ggX7_fold_X7_clash
set_option maxRecDepth 20000 in
theorem ggX7_fold_X7_keeps : GoodIn wsX7_fold wsX7_keeps := goodIn_r _ [30, 31, 1, 50, 51, 52, 53, 54, 55, 56, 57, 58, 59, 60, 61, 62, 63] (by decide +kernel) (by decide +kernel)
set_option maxRecDepth 20000 in
theorem gX7_fold_X7_keeps : GoodIn wsX7_fold (wsV RX7 81 RX7 yX7_keeps wsX7_keeps) := goodIn_app (goodIn_of _ (by decide +kernel)) ggX7_fold_X7_keeps
set_option maxRecDepth 20000 in
theorem ggX7_fold_X7_dollAt : GoodIn wsX7_fold wsX7_dollAt := goodIn_r _ [18, 1, 50, 51, 52, 53, 54, 55, 56, 57, 58, 59, 60, 61, 62, 63] (by decide +kernel) (by decide +kernel)
set_option maxRecDepth 20000 in
theorem gX7_fold_X7_dollAt : GoodIn wsX7_fold (wsV RX7 57 RX7 yX7_dollAt wsX7_dollAt) := goodIn_app (goodIn_of _ (by decide +kernel)) ggX7_fold_X7_dollAt
set_option maxRecDepth 20000 in
theorem ggX7_fold_X7_lays : GoodIn wsX7_fold wsX7_lays := goodIn_r _ [35, 1, 50, 51, 52, 53, 54, 55, 56, 57, 58, 59, 60, 61, 62, 63] (by decide +kernel) (by decide +kernel)
set_option maxRecDepth 20000 in
theorem gX7_fold_X7_lays : GoodIn wsX7_fold (wsV RX7 71 RX7 yX7_lays wsX7_lays) := goodIn_app (goodIn_of _ (by decide +kernel)) ggX7_fold_X7_lays
set_option maxRecDepth 20000 in
theorem ggX7_fold_X7_ends : GoodIn wsX7_fold wsX7_ends := goodIn_r _ [39, 40, 41, 42, 5, 43, 1, 31, 44, 45, 46, 47, 48, 49, 50, 51, 52, 53, 54, 55, 56, 57, 58, 59, 60, 61, 62, 63] (by decide +kernel) (by decide +kernel)
set_option maxRecDepth 20000 in
theorem gX7_fold_X7_ends : GoodIn wsX7_fold (wsV RX7 88 RX7 yX7_ends wsX7_ends) := goodIn_app (goodIn_of _ (by decide +kernel)) ggX7_fold_X7_ends
theorem dX7_fold_0 : decode cX7_fold 0 = .ok (.aload_n 0, 1) := by decide +kernel
theorem dX7_fold_1 : decode cX7_fold 1 = .ok (.iload_n 1, 1) := by decide +kernel
theorem dX7_fold_2 : decode cX7_fold 2 = .ok (.invokevirtual 103, 3) := by decide +kernel
theorem dX7_fold_5 : decode cX7_fold 5 = .ok (.ifCond .ne 5, 3) := by decide +kernel
theorem dX7_fold_8 : decode cX7_fold 8 = .ok (.iconst (-1), 1) := by decide +kernel
theorem dX7_fold_9 : decode cX7_fold 9 = .ok (.ireturn, 1) := by decide +kernel
theorem dX7_fold_10 : decode cX7_fold 10 = .ok (.aload_n 0, 1) := by decide +kernel
theorem dX7_fold_11 : decode cX7_fold 11 = .ok (.aload_n 0, 1) := by decide +kernel
theorem dX7_fold_12 : decode cX7_fold 12 = .ok (.iload_n 1, 1) := by decide +kernel
theorem dX7_fold_13 : decode cX7_fold 13 = .ok (.invokevirtual 106, 3) := by decide +kernel
theorem dX7_fold_16 : decode cX7_fold 16 = .ok (.aload_n 0, 1) := by decide +kernel
theorem dX7_fold_17 : decode cX7_fold 17 = .ok (.iload_n 1, 1) := by decide +kernel
theorem dX7_fold_18 : decode cX7_fold 18 = .ok (.invokevirtual 106, 3) := by decide +kernel
theorem dX7_fold_21 : decode cX7_fold 21 = .ok (.iconst 1, 1) := by decide +kernel
theorem dX7_fold_22 : decode cX7_fold 22 = .ok (.ixor, 1) := by decide +kernel
theorem dX7_fold_23 : decode cX7_fold 23 = .ok (.invokevirtual 60, 3) := by decide +kernel
theorem dX7_fold_26 : decode cX7_fold 26 = .ok (.ifCond .eq 6, 3) := by decide +kernel
theorem dX7_fold_29 : decode cX7_fold 29 = .ok (.bipush (-4), 2) := by decide +kernel
theorem dX7_fold_31 : decode cX7_fold 31 = .ok (.ireturn, 1) := by decide +kernel
theorem dX7_fold_32 : decode cX7_fold 32 = .ok (.aload_n 0, 1) := by decide +kernel
theorem dX7_fold_33 : decode cX7_fold 33 = .ok (.getfield 7, 3) := by decide +kernel
theorem dX7_fold_36 : decode cX7_fold 36 = .ok (.bipush 22, 2) := by decide +kernel
theorem dX7_fold_38 : decode cX7_fold 38 = .ok (.iload_n 1, 1) := by decide +kernel
theorem dX7_fold_39 : decode cX7_fold 39 = .ok (.iadd, 1) := by decide +kernel
theorem dX7_fold_40 : decode cX7_fold 40 = .ok (.iaload, 1) := by decide +kernel
theorem dX7_fold_41 : decode cX7_fold 41 = .ok (.istore_n 2, 1) := by decide +kernel
theorem dX7_fold_42 : decode cX7_fold 42 = .ok (.iconst 2, 1) := by decide +kernel
theorem dX7_fold_43 : decode cX7_fold 43 = .ok (.iload_n 2, 1) := by decide +kernel
theorem dX7_fold_44 : decode cX7_fold 44 = .ok (.imul, 1) := by decide +kernel
theorem dX7_fold_45 : decode cX7_fold 45 = .ok (.bipush 32, 2) := by decide +kernel
theorem dX7_fold_47 : decode cX7_fold 47 = .ok (.if_icmp .le 6, 3) := by decide +kernel
theorem dX7_fold_50 : decode cX7_fold 50 = .ok (.bipush (-3), 2) := by decide +kernel
theorem dX7_fold_52 : decode cX7_fold 52 = .ok (.ireturn, 1) := by decide +kernel
theorem dX7_fold_53 : decode cX7_fold 53 = .ok (.aload_n 0, 1) := by decide +kernel
theorem dX7_fold_54 : decode cX7_fold 54 = .ok (.invokevirtual 81, 3) := by decide +kernel
theorem dX7_fold_57 : decode cX7_fold 57 = .ok (.iconst 0, 1) := by decide +kernel
theorem dX7_fold_58 : decode cX7_fold 58 = .ok (.istore_n 3, 1) := by decide +kernel
theorem dX7_fold_59 : decode cX7_fold 59 = .ok (.iload_n 3, 1) := by decide +kernel
theorem dX7_fold_60 : decode cX7_fold 60 = .ok (.iload_n 2, 1) := by decide +kernel
theorem dX7_fold_61 : decode cX7_fold 61 = .ok (.if_icmp .ge 29, 3) := by decide +kernel
theorem dX7_fold_64 : decode cX7_fold 64 = .ok (.aload_n 0, 1) := by decide +kernel
theorem dX7_fold_65 : decode cX7_fold 65 = .ok (.iload_n 1, 1) := by decide +kernel
theorem dX7_fold_66 : decode cX7_fold 66 = .ok (.iload_n 2, 1) := by decide +kernel
theorem dX7_fold_67 : decode cX7_fold 67 = .ok (.iload_n 3, 1) := by decide +kernel
theorem dX7_fold_68 : decode cX7_fold 68 = .ok (.iadd, 1) := by decide +kernel
theorem dX7_fold_69 : decode cX7_fold 69 = .ok (.aload_n 0, 1) := by decide +kernel
theorem dX7_fold_70 : decode cX7_fold 70 = .ok (.iload_n 1, 1) := by decide +kernel
theorem dX7_fold_71 : decode cX7_fold 71 = .ok (.iload_n 2, 1) := by decide +kernel
theorem dX7_fold_72 : decode cX7_fold 72 = .ok (.iconst 1, 1) := by decide +kernel
theorem dX7_fold_73 : decode cX7_fold 73 = .ok (.isub, 1) := by decide +kernel
theorem dX7_fold_74 : decode cX7_fold 74 = .ok (.iload_n 3, 1) := by decide +kernel
theorem dX7_fold_75 : decode cX7_fold 75 = .ok (.isub, 1) := by decide +kernel
theorem dX7_fold_76 : decode cX7_fold 76 = .ok (.invokevirtual 57, 3) := by decide +kernel
theorem dX7_fold_79 : decode cX7_fold 79 = .ok (.iconst 1, 1) := by decide +kernel
theorem dX7_fold_80 : decode cX7_fold 80 = .ok (.ixor, 1) := by decide +kernel
theorem dX7_fold_81 : decode cX7_fold 81 = .ok (.invokevirtual 71, 3) := by decide +kernel
theorem dX7_fold_84 : decode cX7_fold 84 = .ok (.iinc 3 1, 3) := by decide +kernel
theorem dX7_fold_87 : decode cX7_fold 87 = .ok (.goto (-28), 3) := by decide +kernel
theorem dX7_fold_90 : decode cX7_fold 90 = .ok (.aload_n 0, 1) := by decide +kernel
theorem dX7_fold_91 : decode cX7_fold 91 = .ok (.getfield 7, 3) := by decide +kernel
theorem dX7_fold_94 : decode cX7_fold 94 = .ok (.bipush 22, 2) := by decide +kernel
theorem dX7_fold_96 : decode cX7_fold 96 = .ok (.iload_n 1, 1) := by decide +kernel
theorem dX7_fold_97 : decode cX7_fold 97 = .ok (.iadd, 1) := by decide +kernel
theorem dX7_fold_98 : decode cX7_fold 98 = .ok (.iconst 2, 1) := by decide +kernel
theorem dX7_fold_99 : decode cX7_fold 99 = .ok (.iload_n 2, 1) := by decide +kernel
theorem dX7_fold_100 : decode cX7_fold 100 = .ok (.imul, 1) := by decide +kernel
theorem dX7_fold_101 : decode cX7_fold 101 = .ok (.iastore, 1) := by decide +kernel
theorem dX7_fold_102 : decode cX7_fold 102 = .ok (.aload_n 0, 1) := by decide +kernel
theorem dX7_fold_103 : decode cX7_fold 103 = .ok (.iconst 2, 1) := by decide +kernel
theorem dX7_fold_104 : decode cX7_fold 104 = .ok (.iload_n 2, 1) := by decide +kernel
theorem dX7_fold_105 : decode cX7_fold 105 = .ok (.imul, 1) := by decide +kernel
theorem dX7_fold_106 : decode cX7_fold 106 = .ok (.invokevirtual 88, 3) := by decide +kernel
theorem dX7_fold_109 : decode cX7_fold 109 = .ok (.ireturn, 1) := by decide +kernel
set_option maxRecDepth 20000 in
theorem ggX7_takeAway_X7_isGarland : GoodIn wsX7_takeAway wsX7_isGarland := goodIn_r _ [6, 7, 1, 8, 9, 5, 10, 38, 39, 40, 41, 42, 43, 44, 45, 46, 47, 48, 49, 50, 51] (by decide +kernel) (by decide +kernel)
set_option maxRecDepth 20000 in
theorem gX7_takeAway_X7_isGarland : GoodIn wsX7_takeAway (wsV RX7 103 RX7 yX7_isGarland wsX7_isGarland) := goodIn_app (goodIn_of _ (by decide +kernel)) ggX7_takeAway_X7_isGarland
set_option maxRecDepth 20000 in
theorem ggX7_takeAway_X7_keeps : GoodIn wsX7_takeAway wsX7_keeps := goodIn_r _ [14, 15, 1, 38, 39, 40, 41, 42, 43, 44, 45, 46, 47, 48, 49, 50, 51] (by decide +kernel) (by decide +kernel)
set_option maxRecDepth 20000 in
theorem gX7_takeAway_X7_keeps : GoodIn wsX7_takeAway (wsV RX7 81 RX7 yX7_keeps wsX7_keeps) := goodIn_app (goodIn_of _ (by decide +kernel)) ggX7_takeAway_X7_keeps
set_option maxRecDepth 20000 in
theorem ggX7_takeAway_X7_takes : GoodIn wsX7_takeAway wsX7_takes := goodIn_r _ [19, 1, 20, 21, 22, 5, 23, 38, 39, 40, 41, 42, 43, 44, 45, 46, 47, 48, 49, 50, 51] (by decide +kernel) (by decide +kernel)
set_option maxRecDepth 20000 in
theorem gX7_takeAway_X7_takes : GoodIn wsX7_takeAway (wsV RX7 109 RX7 yX7_takes wsX7_takes) := goodIn_app (goodIn_of _ (by decide +kernel)) ggX7_takeAway_X7_takes
set_option maxRecDepth 20000 in
theorem ggX7_takeAway_X7_ends : GoodIn wsX7_takeAway wsX7_ends := goodIn_r _ [27, 28, 29, 30, 5, 31, 1, 15, 32, 33, 34, 35, 36, 37, 38, 39, 40, 41, 42, 43, 44, 45, 46, 47, 48, 49, 50, 51] (by decide +kernel) (by decide +kernel)
set_option maxRecDepth 20000 in
theorem gX7_takeAway_X7_ends : GoodIn wsX7_takeAway (wsV RX7 88 RX7 yX7_ends wsX7_ends) := goodIn_app (goodIn_of _ (by decide +kernel)) ggX7_takeAway_X7_ends
theorem dX7_takeAway_0 : decode cX7_takeAway 0 = .ok (.aload_n 0, 1) := by decide +kernel
theorem dX7_takeAway_1 : decode cX7_takeAway 1 = .ok (.iload_n 1, 1) := by decide +kernel
theorem dX7_takeAway_2 : decode cX7_takeAway 2 = .ok (.invokevirtual 103, 3) := by decide +kernel
theorem dX7_takeAway_5 : decode cX7_takeAway 5 = .ok (.ifCond .ne 5, 3) := by decide +kernel
theorem dX7_takeAway_8 : decode cX7_takeAway 8 = .ok (.iconst (-1), 1) := by decide +kernel
theorem dX7_takeAway_9 : decode cX7_takeAway 9 = .ok (.ireturn, 1) := by decide +kernel
theorem dX7_takeAway_10 : decode cX7_takeAway 10 = .ok (.aload_n 0, 1) := by decide +kernel
theorem dX7_takeAway_11 : decode cX7_takeAway 11 = .ok (.invokevirtual 81, 3) := by decide +kernel
theorem dX7_takeAway_14 : decode cX7_takeAway 14 = .ok (.aload_n 0, 1) := by decide +kernel
theorem dX7_takeAway_15 : decode cX7_takeAway 15 = .ok (.getfield 7, 3) := by decide +kernel
theorem dX7_takeAway_18 : decode cX7_takeAway 18 = .ok (.bipush 22, 2) := by decide +kernel
theorem dX7_takeAway_20 : decode cX7_takeAway 20 = .ok (.iload_n 1, 1) := by decide +kernel
theorem dX7_takeAway_21 : decode cX7_takeAway 21 = .ok (.iadd, 1) := by decide +kernel
theorem dX7_takeAway_22 : decode cX7_takeAway 22 = .ok (.iaload, 1) := by decide +kernel
theorem dX7_takeAway_23 : decode cX7_takeAway 23 = .ok (.istore_n 2, 1) := by decide +kernel
theorem dX7_takeAway_24 : decode cX7_takeAway 24 = .ok (.aload_n 0, 1) := by decide +kernel
theorem dX7_takeAway_25 : decode cX7_takeAway 25 = .ok (.iload_n 1, 1) := by decide +kernel
theorem dX7_takeAway_26 : decode cX7_takeAway 26 = .ok (.invokevirtual 109, 3) := by decide +kernel
theorem dX7_takeAway_29 : decode cX7_takeAway 29 = .ok (.aload_n 0, 1) := by decide +kernel
theorem dX7_takeAway_30 : decode cX7_takeAway 30 = .ok (.iload_n 2, 1) := by decide +kernel
theorem dX7_takeAway_31 : decode cX7_takeAway 31 = .ok (.invokevirtual 88, 3) := by decide +kernel
theorem dX7_takeAway_34 : decode cX7_takeAway 34 = .ok (.ireturn, 1) := by decide +kernel
theorem dX7_type_0 : decode cX7_type 0 = .ok (.aload_n 0, 1) := by decide +kernel
theorem dX7_type_1 : decode cX7_type 1 = .ok (.getfield 119, 3) := by decide +kernel
theorem dX7_type_4 : decode cX7_type 4 = .ok (.bipush 80, 2) := by decide +kernel
theorem dX7_type_6 : decode cX7_type 6 = .ok (.if_icmp .ne 6, 3) := by decide +kernel
theorem dX7_type_9 : decode cX7_type 9 = .ok (.bipush (-3), 2) := by decide +kernel
theorem dX7_type_11 : decode cX7_type 11 = .ok (.ireturn, 1) := by decide +kernel
theorem dX7_type_12 : decode cX7_type 12 = .ok (.aload_n 0, 1) := by decide +kernel
theorem dX7_type_13 : decode cX7_type 13 = .ok (.getfield 25, 3) := by decide +kernel
theorem dX7_type_16 : decode cX7_type 16 = .ok (.aload_n 0, 1) := by decide +kernel
theorem dX7_type_17 : decode cX7_type 17 = .ok (.getfield 119, 3) := by decide +kernel
theorem dX7_type_20 : decode cX7_type 20 = .ok (.iload_n 1, 1) := by decide +kernel
theorem dX7_type_21 : decode cX7_type 21 = .ok (.iastore, 1) := by decide +kernel
theorem dX7_type_22 : decode cX7_type 22 = .ok (.aload_n 0, 1) := by decide +kernel
theorem dX7_type_23 : decode cX7_type 23 = .ok (.dup, 1) := by decide +kernel
theorem dX7_type_24 : decode cX7_type 24 = .ok (.getfield 119, 3) := by decide +kernel
theorem dX7_type_27 : decode cX7_type 27 = .ok (.iconst 1, 1) := by decide +kernel
theorem dX7_type_28 : decode cX7_type 28 = .ok (.iadd, 1) := by decide +kernel
theorem dX7_type_29 : decode cX7_type 29 = .ok (.putfield 119, 3) := by decide +kernel
theorem dX7_type_32 : decode cX7_type 32 = .ok (.aload_n 0, 1) := by decide +kernel
theorem dX7_type_33 : decode cX7_type 33 = .ok (.getfield 119, 3) := by decide +kernel
theorem dX7_type_36 : decode cX7_type 36 = .ok (.ireturn, 1) := by decide +kernel
theorem dX7_clearText_0 : decode cX7_clearText 0 = .ok (.aload_n 0, 1) := by decide +kernel
theorem dX7_clearText_1 : decode cX7_clearText 1 = .ok (.getfield 119, 3) := by decide +kernel
theorem dX7_clearText_4 : decode cX7_clearText 4 = .ok (.istore_n 1, 1) := by decide +kernel
theorem dX7_clearText_5 : decode cX7_clearText 5 = .ok (.aload_n 0, 1) := by decide +kernel
theorem dX7_clearText_6 : decode cX7_clearText 6 = .ok (.iconst 0, 1) := by decide +kernel
theorem dX7_clearText_7 : decode cX7_clearText 7 = .ok (.putfield 119, 3) := by decide +kernel
theorem dX7_clearText_10 : decode cX7_clearText 10 = .ok (.iload_n 1, 1) := by decide +kernel
theorem dX7_clearText_11 : decode cX7_clearText 11 = .ok (.ireturn, 1) := by decide +kernel
theorem dX7_takesOne_0 : decode cX7_takesOne 0 = .ok (.aload_n 0, 1) := by decide +kernel
theorem dX7_takesOne_1 : decode cX7_takesOne 1 = .ok (.getfield 122, 3) := by decide +kernel
theorem dX7_takesOne_4 : decode cX7_takesOne 4 = .ok (.aload_n 0, 1) := by decide +kernel
theorem dX7_takesOne_5 : decode cX7_takesOne 5 = .ok (.getfield 119, 3) := by decide +kernel
theorem dX7_takesOne_8 : decode cX7_takesOne 8 = .ok (.if_icmp .ge 20, 3) := by decide +kernel
theorem dX7_takesOne_11 : decode cX7_takesOne 11 = .ok (.aload_n 0, 1) := by decide +kernel
theorem dX7_takesOne_12 : decode cX7_takesOne 12 = .ok (.getfield 25, 3) := by decide +kernel
theorem dX7_takesOne_15 : decode cX7_takesOne 15 = .ok (.aload_n 0, 1) := by decide +kernel
theorem dX7_takesOne_16 : decode cX7_takesOne 16 = .ok (.getfield 122, 3) := by decide +kernel
theorem dX7_takesOne_19 : decode cX7_takesOne 19 = .ok (.iaload, 1) := by decide +kernel
theorem dX7_takesOne_20 : decode cX7_takesOne 20 = .ok (.iload_n 1, 1) := by decide +kernel
theorem dX7_takesOne_21 : decode cX7_takesOne 21 = .ok (.if_icmp .ne 7, 3) := by decide +kernel
theorem dX7_takesOne_24 : decode cX7_takesOne 24 = .ok (.iconst 1, 1) := by decide +kernel
theorem dX7_takesOne_25 : decode cX7_takesOne 25 = .ok (.goto 4, 3) := by decide +kernel
theorem dX7_takesOne_28 : decode cX7_takesOne 28 = .ok (.iconst 0, 1) := by decide +kernel
theorem dX7_takesOne_29 : decode cX7_takesOne 29 = .ok (.istore_n 2, 1) := by decide +kernel
theorem dX7_takesOne_30 : decode cX7_takesOne 30 = .ok (.aload_n 0, 1) := by decide +kernel
theorem dX7_takesOne_31 : decode cX7_takesOne 31 = .ok (.dup, 1) := by decide +kernel
theorem dX7_takesOne_32 : decode cX7_takesOne 32 = .ok (.getfield 122, 3) := by decide +kernel
theorem dX7_takesOne_35 : decode cX7_takesOne 35 = .ok (.iload_n 2, 1) := by decide +kernel
theorem dX7_takesOne_36 : decode cX7_takesOne 36 = .ok (.ifCond .eq 7, 3) := by decide +kernel
theorem dX7_takesOne_39 : decode cX7_takesOne 39 = .ok (.iconst 1, 1) := by decide +kernel
theorem dX7_takesOne_40 : decode cX7_takesOne 40 = .ok (.goto 4, 3) := by decide +kernel
theorem dX7_takesOne_43 : decode cX7_takesOne 43 = .ok (.iconst 0, 1) := by decide +kernel
theorem dX7_takesOne_44 : decode cX7_takesOne 44 = .ok (.iadd, 1) := by decide +kernel
theorem dX7_takesOne_45 : decode cX7_takesOne 45 = .ok (.putfield 122, 3) := by decide +kernel
theorem dX7_takesOne_48 : decode cX7_takesOne 48 = .ok (.iload_n 2, 1) := by decide +kernel
theorem dX7_takesOne_49 : decode cX7_takesOne 49 = .ok (.ireturn, 1) := by decide +kernel
set_option maxRecDepth 20000 in
theorem ggX7_readsDoll_X7_in : GoodIn wsX7_readsDoll wsX7_in := goodIn_r _ [11] (by decide +kernel) (by decide +kernel)
set_option maxRecDepth 20000 in
theorem gX7_readsDoll_X7_in : GoodIn wsX7_readsDoll (va_wsS RX7 47 yX7_in wsX7_in) := goodIn_app (goodIn_of _ (by decide +kernel)) ggX7_readsDoll_X7_in
set_option maxRecDepth 20000 in
theorem ggX7_readsDoll_X7_takesOne : GoodIn wsX7_readsDoll wsX7_takesOne := goodIn_r _ [15, 1, 2, 3, 16, 17, 18, 19, 20, 21, 22, 23, 24, 25, 26, 27, 28, 29] (by decide +kernel) (by decide +kernel)
set_option maxRecDepth 20000 in
theorem gX7_readsDoll_X7_takesOne : GoodIn wsX7_readsDoll (wsV RX7 132 RX7 yX7_takesOne wsX7_takesOne) := goodIn_app (goodIn_of _ (by decide +kernel)) ggX7_readsDoll_X7_takesOne
theorem dX7_readsDoll_0 : decode cX7_readsDoll 0 = .ok (.aload_n 0, 1) := by decide +kernel
theorem dX7_readsDoll_1 : decode cX7_readsDoll 1 = .ok (.getfield 122, 3) := by decide +kernel
theorem dX7_readsDoll_4 : decode cX7_readsDoll 4 = .ok (.aload_n 0, 1) := by decide +kernel
theorem dX7_readsDoll_5 : decode cX7_readsDoll 5 = .ok (.getfield 119, 3) := by decide +kernel
theorem dX7_readsDoll_8 : decode cX7_readsDoll 8 = .ok (.if_icmp .eq 25, 3) := by decide +kernel
theorem dX7_readsDoll_11 : decode cX7_readsDoll 11 = .ok (.aload_n 0, 1) := by decide +kernel
theorem dX7_readsDoll_12 : decode cX7_readsDoll 12 = .ok (.getfield 25, 3) := by decide +kernel
theorem dX7_readsDoll_15 : decode cX7_readsDoll 15 = .ok (.aload_n 0, 1) := by decide +kernel
theorem dX7_readsDoll_16 : decode cX7_readsDoll 16 = .ok (.getfield 122, 3) := by decide +kernel
theorem dX7_readsDoll_19 : decode cX7_readsDoll 19 = .ok (.iaload, 1) := by decide +kernel
theorem dX7_readsDoll_20 : decode cX7_readsDoll 20 = .ok (.i2l, 1) := by decide +kernel
theorem dX7_readsDoll_21 : decode cX7_readsDoll 21 = .ok (.ldc2_w 125, 3) := by decide +kernel
theorem dX7_readsDoll_24 : decode cX7_readsDoll 24 = .ok (.ldc2_w 127, 3) := by decide +kernel
theorem dX7_readsDoll_27 : decode cX7_readsDoll 27 = .ok (.invokestatic 47, 3) := by decide +kernel
theorem dX7_readsDoll_30 : decode cX7_readsDoll 30 = .ok (.ifCond .ne 5, 3) := by decide +kernel
theorem dX7_readsDoll_33 : decode cX7_readsDoll 33 = .ok (.iconst 0, 1) := by decide +kernel
theorem dX7_readsDoll_34 : decode cX7_readsDoll 34 = .ok (.ireturn, 1) := by decide +kernel
theorem dX7_readsDoll_35 : decode cX7_readsDoll 35 = .ok (.aload_n 0, 1) := by decide +kernel
theorem dX7_readsDoll_36 : decode cX7_readsDoll 36 = .ok (.getfield 22, 3) := by decide +kernel
theorem dX7_readsDoll_39 : decode cX7_readsDoll 39 = .ok (.aload_n 0, 1) := by decide +kernel
theorem dX7_readsDoll_40 : decode cX7_readsDoll 40 = .ok (.getfield 129, 3) := by decide +kernel
theorem dX7_readsDoll_43 : decode cX7_readsDoll 43 = .ok (.iconst 2, 1) := by decide +kernel
theorem dX7_readsDoll_44 : decode cX7_readsDoll 44 = .ok (.aload_n 0, 1) := by decide +kernel
theorem dX7_readsDoll_45 : decode cX7_readsDoll 45 = .ok (.getfield 25, 3) := by decide +kernel
theorem dX7_readsDoll_48 : decode cX7_readsDoll 48 = .ok (.aload_n 0, 1) := by decide +kernel
theorem dX7_readsDoll_49 : decode cX7_readsDoll 49 = .ok (.getfield 122, 3) := by decide +kernel
theorem dX7_readsDoll_52 : decode cX7_readsDoll 52 = .ok (.iaload, 1) := by decide +kernel
theorem dX7_readsDoll_53 : decode cX7_readsDoll 53 = .ok (.bipush 48, 2) := by decide +kernel
theorem dX7_readsDoll_55 : decode cX7_readsDoll 55 = .ok (.isub, 1) := by decide +kernel
theorem dX7_readsDoll_56 : decode cX7_readsDoll 56 = .ok (.imul, 1) := by decide +kernel
theorem dX7_readsDoll_57 : decode cX7_readsDoll 57 = .ok (.iastore, 1) := by decide +kernel
theorem dX7_readsDoll_58 : decode cX7_readsDoll 58 = .ok (.aload_n 0, 1) := by decide +kernel
theorem dX7_readsDoll_59 : decode cX7_readsDoll 59 = .ok (.dup, 1) := by decide +kernel
theorem dX7_readsDoll_60 : decode cX7_readsDoll 60 = .ok (.getfield 122, 3) := by decide +kernel
theorem dX7_readsDoll_63 : decode cX7_readsDoll 63 = .ok (.iconst 1, 1) := by decide +kernel
theorem dX7_readsDoll_64 : decode cX7_readsDoll 64 = .ok (.iadd, 1) := by decide +kernel
theorem dX7_readsDoll_65 : decode cX7_readsDoll 65 = .ok (.putfield 122, 3) := by decide +kernel
theorem dX7_readsDoll_68 : decode cX7_readsDoll 68 = .ok (.aload_n 0, 1) := by decide +kernel
theorem dX7_readsDoll_69 : decode cX7_readsDoll 69 = .ok (.getfield 22, 3) := by decide +kernel
theorem dX7_readsDoll_72 : decode cX7_readsDoll 72 = .ok (.aload_n 0, 1) := by decide +kernel
theorem dX7_readsDoll_73 : decode cX7_readsDoll 73 = .ok (.getfield 129, 3) := by decide +kernel
theorem dX7_readsDoll_76 : decode cX7_readsDoll 76 = .ok (.dup2, 1) := by decide +kernel
theorem dX7_readsDoll_77 : decode cX7_readsDoll 77 = .ok (.iaload, 1) := by decide +kernel
theorem dX7_readsDoll_78 : decode cX7_readsDoll 78 = .ok (.aload_n 0, 1) := by decide +kernel
theorem dX7_readsDoll_79 : decode cX7_readsDoll 79 = .ok (.bipush 39, 2) := by decide +kernel
theorem dX7_readsDoll_81 : decode cX7_readsDoll 81 = .ok (.invokevirtual 132, 3) := by decide +kernel
theorem dX7_readsDoll_84 : decode cX7_readsDoll 84 = .ok (.ifCond .eq 7, 3) := by decide +kernel
theorem dX7_readsDoll_87 : decode cX7_readsDoll 87 = .ok (.iconst 1, 1) := by decide +kernel
theorem dX7_readsDoll_88 : decode cX7_readsDoll 88 = .ok (.goto 4, 3) := by decide +kernel
theorem dX7_readsDoll_91 : decode cX7_readsDoll 91 = .ok (.iconst 0, 1) := by decide +kernel
theorem dX7_readsDoll_92 : decode cX7_readsDoll 92 = .ok (.iadd, 1) := by decide +kernel
theorem dX7_readsDoll_93 : decode cX7_readsDoll 93 = .ok (.iastore, 1) := by decide +kernel
theorem dX7_readsDoll_94 : decode cX7_readsDoll 94 = .ok (.aload_n 0, 1) := by decide +kernel
theorem dX7_readsDoll_95 : decode cX7_readsDoll 95 = .ok (.dup, 1) := by decide +kernel
theorem dX7_readsDoll_96 : decode cX7_readsDoll 96 = .ok (.getfield 129, 3) := by decide +kernel
theorem dX7_readsDoll_99 : decode cX7_readsDoll 99 = .ok (.iconst 1, 1) := by decide +kernel
theorem dX7_readsDoll_100 : decode cX7_readsDoll 100 = .ok (.iadd, 1) := by decide +kernel
theorem dX7_readsDoll_101 : decode cX7_readsDoll 101 = .ok (.putfield 129, 3) := by decide +kernel
theorem dX7_readsDoll_104 : decode cX7_readsDoll 104 = .ok (.iconst 1, 1) := by decide +kernel
theorem dX7_readsDoll_105 : decode cX7_readsDoll 105 = .ok (.ireturn, 1) := by decide +kernel
set_option maxRecDepth 20000 in
theorem ggX7_fault_X7_readsDoll : GoodIn wsX7_fault wsX7_readsDoll := goodIn_r _ [8, 1, 3, 9, 10, 11, 12, 2, 13, 14, 7, 15, 16, 17, 18, 19, 20, 21, 22, 23, 24, 25, 26, 27, 28, 29, 30, 31, 32, 33] (by decide +kernel) (by decide +kernel)
set_option maxRecDepth 20000 in
theorem gX7_fault_X7_readsDoll : GoodIn wsX7_fault (wsV RX7 135 RX7 yX7_readsDoll wsX7_readsDoll) := goodIn_app (goodIn_of _ (by decide +kernel)) ggX7_fault_X7_readsDoll
set_option maxRecDepth 20000 in
theorem ggX7_fault_X7_takesOne : GoodIn wsX7_fault wsX7_takesOne := goodIn_r _ [19, 1, 3, 9, 20, 21, 22, 23, 24, 25, 26, 27, 28, 29, 30, 31, 32, 33] (by decide +kernel) (by decide +kernel)
set_option maxRecDepth 20000 in
theorem gX7_fault_X7_takesOne : GoodIn wsX7_fault (wsV RX7 132 RX7 yX7_takesOne wsX7_takesOne) := goodIn_app (goodIn_of _ (by decide +kernel)) ggX7_fault_X7_takesOne
theorem dX7_fault_0 : decode cX7_fault 0 = .ok (.aload_n 0, 1) := by decide +kernel
theorem dX7_fault_1 : decode cX7_fault 1 = .ok (.iconst 0, 1) := by decide +kernel
theorem dX7_fault_2 : decode cX7_fault 2 = .ok (.putfield 122, 3) := by decide +kernel
theorem dX7_fault_5 : decode cX7_fault 5 = .ok (.aload_n 0, 1) := by decide +kernel
theorem dX7_fault_6 : decode cX7_fault 6 = .ok (.iconst 0, 1) := by decide +kernel
theorem dX7_fault_7 : decode cX7_fault 7 = .ok (.putfield 129, 3) := by decide +kernel
theorem dX7_fault_10 : decode cX7_fault 10 = .ok (.iconst 1, 1) := by decide +kernel
theorem dX7_fault_11 : decode cX7_fault 11 = .ok (.istore_n 1, 1) := by decide +kernel
theorem dX7_fault_12 : decode cX7_fault 12 = .ok (.iload_n 1, 1) := by decide +kernel
theorem dX7_fault_13 : decode cX7_fault 13 = .ok (.ifCond .eq 42, 3) := by decide +kernel
theorem dX7_fault_16 : decode cX7_fault 16 = .ok (.aload_n 0, 1) := by decide +kernel
theorem dX7_fault_17 : decode cX7_fault 17 = .ok (.invokevirtual 135, 3) := by decide +kernel
theorem dX7_fault_20 : decode cX7_fault 20 = .ok (.ifCond .ne 8, 3) := by decide +kernel
theorem dX7_fault_23 : decode cX7_fault 23 = .ok (.aload_n 0, 1) := by decide +kernel
theorem dX7_fault_24 : decode cX7_fault 24 = .ok (.getfield 122, 3) := by decide +kernel
theorem dX7_fault_27 : decode cX7_fault 27 = .ok (.ireturn, 1) := by decide +kernel
theorem dX7_fault_28 : decode cX7_fault 28 = .ok (.aload_n 0, 1) := by decide +kernel
theorem dX7_fault_29 : decode cX7_fault 29 = .ok (.getfield 129, 3) := by decide +kernel
theorem dX7_fault_32 : decode cX7_fault 32 = .ok (.bipush 32, 2) := by decide +kernel
theorem dX7_fault_34 : decode cX7_fault 34 = .ok (.if_icmp .ge 16, 3) := by decide +kernel
theorem dX7_fault_37 : decode cX7_fault 37 = .ok (.aload_n 0, 1) := by decide +kernel
theorem dX7_fault_38 : decode cX7_fault 38 = .ok (.bipush 44, 2) := by decide +kernel
theorem dX7_fault_40 : decode cX7_fault 40 = .ok (.invokevirtual 132, 3) := by decide +kernel
theorem dX7_fault_43 : decode cX7_fault 43 = .ok (.ifCond .eq 7, 3) := by decide +kernel
theorem dX7_fault_46 : decode cX7_fault 46 = .ok (.iconst 1, 1) := by decide +kernel
theorem dX7_fault_47 : decode cX7_fault 47 = .ok (.goto 4, 3) := by decide +kernel
theorem dX7_fault_50 : decode cX7_fault 50 = .ok (.iconst 0, 1) := by decide +kernel
theorem dX7_fault_51 : decode cX7_fault 51 = .ok (.istore_n 1, 1) := by decide +kernel
theorem dX7_fault_52 : decode cX7_fault 52 = .ok (.goto (-40), 3) := by decide +kernel
theorem dX7_fault_55 : decode cX7_fault 55 = .ok (.aload_n 0, 1) := by decide +kernel
theorem dX7_fault_56 : decode cX7_fault 56 = .ok (.getfield 122, 3) := by decide +kernel
theorem dX7_fault_59 : decode cX7_fault 59 = .ok (.aload_n 0, 1) := by decide +kernel
theorem dX7_fault_60 : decode cX7_fault 60 = .ok (.getfield 119, 3) := by decide +kernel
theorem dX7_fault_63 : decode cX7_fault 63 = .ok (.if_icmp .ne 8, 3) := by decide +kernel
theorem dX7_fault_66 : decode cX7_fault 66 = .ok (.bipush (-5), 2) := by decide +kernel
theorem dX7_fault_68 : decode cX7_fault 68 = .ok (.goto 7, 3) := by decide +kernel
theorem dX7_fault_71 : decode cX7_fault 71 = .ok (.aload_n 0, 1) := by decide +kernel
theorem dX7_fault_72 : decode cX7_fault 72 = .ok (.getfield 122, 3) := by decide +kernel
theorem dX7_fault_75 : decode cX7_fault 75 = .ok (.ireturn, 1) := by decide +kernel
set_option maxRecDepth 20000 in
theorem ggX7_wrong_X7_isKind : GoodIn wsX7_wrong wsX7_isKind := goodIn_r _ [7, 8, 9, 10, 6, 11, 24, 25, 26, 27, 28, 29, 30, 31, 32, 33, 34, 35, 36, 37] (by decide +kernel) (by decide +kernel)
set_option maxRecDepth 20000 in
theorem gX7_wrong_X7_isKind : GoodIn wsX7_wrong (wsV RX7 75 RX7 yX7_isKind wsX7_isKind) := goodIn_app (goodIn_of _ (by decide +kernel)) ggX7_wrong_X7_isKind
set_option maxRecDepth 20000 in
theorem ggX7_wrong_X7_clash : GoodIn wsX7_wrong wsX7_clash := goodIn_r _ [15, 8, 16, 17, 18, 6, 19, 24, 25, 26, 27, 28, 29, 30, 31, 32, 33, 34, 35, 36, 37] (by decide +kernel) (by decide +kernel)
set_option maxRecDepth 20000 in
theorem gX7_wrong_X7_clash : GoodIn wsX7_wrong (wsV RX7 60 RX7 yX7_clash wsX7_clash) := goodIn_app (goodIn_of _ (by decide +kernel)) ggX7_wrong_X7_clash
set_option maxRecDepth 20000 in
theorem ggX7_wrong_X7_freeNumber : GoodIn wsX7_wrong wsX7_freeNumber := goodIn_r _ [23, 8, 24, 25, 26, 27, 28, 29, 30, 31, 32, 33, 34, 35, 36, 37] (by decide +kernel) (by decide +kernel)
set_option maxRecDepth 20000 in
theorem gX7_wrong_X7_freeNumber : GoodIn wsX7_wrong (wsV RX7 100 RX7 yX7_freeNumber wsX7_freeNumber) := goodIn_app (goodIn_of _ (by decide +kernel)) ggX7_wrong_X7_freeNumber
theorem dX7_wrong_0 : decode cX7_wrong 0 = .ok (.iconst 0, 1) := by decide +kernel
theorem dX7_wrong_1 : decode cX7_wrong 1 = .ok (.istore_n 1, 1) := by decide +kernel
theorem dX7_wrong_2 : decode cX7_wrong 2 = .ok (.iconst 0, 1) := by decide +kernel
theorem dX7_wrong_3 : decode cX7_wrong 3 = .ok (.istore_n 2, 1) := by decide +kernel
theorem dX7_wrong_4 : decode cX7_wrong 4 = .ok (.iload_n 2, 1) := by decide +kernel
theorem dX7_wrong_5 : decode cX7_wrong 5 = .ok (.aload_n 0, 1) := by decide +kernel
theorem dX7_wrong_6 : decode cX7_wrong 6 = .ok (.getfield 129, 3) := by decide +kernel
theorem dX7_wrong_9 : decode cX7_wrong 9 = .ok (.if_icmp .ge 61, 3) := by decide +kernel
theorem dX7_wrong_12 : decode cX7_wrong 12 = .ok (.aload_n 0, 1) := by decide +kernel
theorem dX7_wrong_13 : decode cX7_wrong 13 = .ok (.aload_n 0, 1) := by decide +kernel
theorem dX7_wrong_14 : decode cX7_wrong 14 = .ok (.getfield 22, 3) := by decide +kernel
theorem dX7_wrong_17 : decode cX7_wrong 17 = .ok (.iload_n 2, 1) := by decide +kernel
theorem dX7_wrong_18 : decode cX7_wrong 18 = .ok (.iaload, 1) := by decide +kernel
theorem dX7_wrong_19 : decode cX7_wrong 19 = .ok (.iconst 2, 1) := by decide +kernel
theorem dX7_wrong_20 : decode cX7_wrong 20 = .ok (.idiv, 1) := by decide +kernel
theorem dX7_wrong_21 : decode cX7_wrong 21 = .ok (.invokevirtual 75, 3) := by decide +kernel
theorem dX7_wrong_24 : decode cX7_wrong 24 = .ok (.ifCond .ne 5, 3) := by decide +kernel
theorem dX7_wrong_27 : decode cX7_wrong 27 = .ok (.iconst (-1), 1) := by decide +kernel
theorem dX7_wrong_28 : decode cX7_wrong 28 = .ok (.ireturn, 1) := by decide +kernel
theorem dX7_wrong_29 : decode cX7_wrong 29 = .ok (.iload_n 1, 1) := by decide +kernel
theorem dX7_wrong_30 : decode cX7_wrong 30 = .ok (.ifCond .ne 28, 3) := by decide +kernel
theorem dX7_wrong_33 : decode cX7_wrong 33 = .ok (.iload_n 2, 1) := by decide +kernel
theorem dX7_wrong_34 : decode cX7_wrong 34 = .ok (.ifCond .le 28, 3) := by decide +kernel
theorem dX7_wrong_37 : decode cX7_wrong 37 = .ok (.aload_n 0, 1) := by decide +kernel
theorem dX7_wrong_38 : decode cX7_wrong 38 = .ok (.aload_n 0, 1) := by decide +kernel
theorem dX7_wrong_39 : decode cX7_wrong 39 = .ok (.getfield 22, 3) := by decide +kernel
theorem dX7_wrong_42 : decode cX7_wrong 42 = .ok (.iload_n 2, 1) := by decide +kernel
theorem dX7_wrong_43 : decode cX7_wrong 43 = .ok (.iconst 1, 1) := by decide +kernel
theorem dX7_wrong_44 : decode cX7_wrong 44 = .ok (.isub, 1) := by decide +kernel
theorem dX7_wrong_45 : decode cX7_wrong 45 = .ok (.iaload, 1) := by decide +kernel
theorem dX7_wrong_46 : decode cX7_wrong 46 = .ok (.aload_n 0, 1) := by decide +kernel
theorem dX7_wrong_47 : decode cX7_wrong 47 = .ok (.getfield 22, 3) := by decide +kernel
theorem dX7_wrong_50 : decode cX7_wrong 50 = .ok (.iload_n 2, 1) := by decide +kernel
theorem dX7_wrong_51 : decode cX7_wrong 51 = .ok (.iaload, 1) := by decide +kernel
theorem dX7_wrong_52 : decode cX7_wrong 52 = .ok (.invokevirtual 60, 3) := by decide +kernel
theorem dX7_wrong_55 : decode cX7_wrong 55 = .ok (.ifCond .eq 7, 3) := by decide +kernel
theorem dX7_wrong_58 : decode cX7_wrong 58 = .ok (.iconst 1, 1) := by decide +kernel
theorem dX7_wrong_59 : decode cX7_wrong 59 = .ok (.goto 4, 3) := by decide +kernel
theorem dX7_wrong_62 : decode cX7_wrong 62 = .ok (.iconst 0, 1) := by decide +kernel
theorem dX7_wrong_63 : decode cX7_wrong 63 = .ok (.istore_n 1, 1) := by decide +kernel
theorem dX7_wrong_64 : decode cX7_wrong 64 = .ok (.iinc 2 1, 3) := by decide +kernel
theorem dX7_wrong_67 : decode cX7_wrong 67 = .ok (.goto (-63), 3) := by decide +kernel
theorem dX7_wrong_70 : decode cX7_wrong 70 = .ok (.iload_n 1, 1) := by decide +kernel
theorem dX7_wrong_71 : decode cX7_wrong 71 = .ok (.ifCond .eq 8, 3) := by decide +kernel
theorem dX7_wrong_74 : decode cX7_wrong 74 = .ok (.bipush (-4), 2) := by decide +kernel
theorem dX7_wrong_76 : decode cX7_wrong 76 = .ok (.goto 18, 3) := by decide +kernel
theorem dX7_wrong_79 : decode cX7_wrong 79 = .ok (.aload_n 0, 1) := by decide +kernel
theorem dX7_wrong_80 : decode cX7_wrong 80 = .ok (.invokevirtual 100, 3) := by decide +kernel
theorem dX7_wrong_83 : decode cX7_wrong 83 = .ok (.bipush (-5), 2) := by decide +kernel
theorem dX7_wrong_85 : decode cX7_wrong 85 = .ok (.if_icmp .ne 8, 3) := by decide +kernel
theorem dX7_wrong_88 : decode cX7_wrong 88 = .ok (.bipush (-3), 2) := by decide +kernel
theorem dX7_wrong_90 : decode cX7_wrong 90 = .ok (.goto 4, 3) := by decide +kernel
theorem dX7_wrong_93 : decode cX7_wrong 93 = .ok (.iconst 0, 1) := by decide +kernel
theorem dX7_wrong_94 : decode cX7_wrong 94 = .ok (.ireturn, 1) := by decide +kernel
set_option maxRecDepth 20000 in
theorem ggX7_readGarland_X7_fault : GoodIn wsX7_readGarland wsX7_fault := goodIn_r _ [8, 9, 2, 10, 11, 12, 13, 7, 14, 15, 16, 17, 3, 18, 19, 20, 21, 22, 23, 24, 68, 69, 70, 71, 72, 73, 74, 75, 76, 77, 78, 79, 80, 81] (by decide +kernel) (by decide +kernel)
set_option maxRecDepth 20000 in
theorem gX7_readGarland_X7_fault : GoodIn wsX7_readGarland (wsV RX7 138 RX7 yX7_fault wsX7_fault) := goodIn_app (goodIn_of _ (by decide +kernel)) ggX7_readGarland_X7_fault
set_option maxRecDepth 20000 in
theorem ggX7_readGarland_X7_wrong : GoodIn wsX7_readGarland wsX7_wrong := goodIn_r _ [28, 2, 3, 29, 30, 31, 7, 32, 1, 18, 19, 20, 33, 34, 35, 36, 37, 38, 39, 40, 41, 42, 43, 44, 68, 69, 70, 71, 72, 73, 74, 75, 76, 77, 78, 79, 80, 81] (by decide +kernel) (by decide +kernel)
set_option maxRecDepth 20000 in
theorem gX7_readGarland_X7_wrong : GoodIn wsX7_readGarland (wsV RX7 141 RX7 yX7_wrong wsX7_wrong) := goodIn_app (goodIn_of _ (by decide +kernel)) ggX7_readGarland_X7_wrong
set_option maxRecDepth 20000 in
theorem ggX7_readGarland_X7_keeps : GoodIn wsX7_readGarland wsX7_keeps := goodIn_r _ [48, 49, 1, 68, 69, 70, 71, 72, 73, 74, 75, 76, 77, 78, 79, 80, 81] (by decide +kernel) (by decide +kernel)
set_option maxRecDepth 20000 in
theorem gX7_readGarland_X7_keeps : GoodIn wsX7_readGarland (wsV RX7 81 RX7 yX7_keeps wsX7_keeps) := goodIn_app (goodIn_of _ (by decide +kernel)) ggX7_readGarland_X7_keeps
set_option maxRecDepth 20000 in
theorem ggX7_readGarland_X7_freeNumber : GoodIn wsX7_readGarland wsX7_freeNumber := goodIn_r _ [44, 1, 68, 69, 70, 71, 72, 73, 74, 75, 76, 77, 78, 79, 80, 81] (by decide +kernel) (by decide +kernel)
set_option maxRecDepth 20000 in
theorem gX7_readGarland_X7_freeNumber : GoodIn wsX7_readGarland (wsV RX7 100 RX7 yX7_freeNumber wsX7_freeNumber) := goodIn_app (goodIn_of _ (by decide +kernel)) ggX7_readGarland_X7_freeNumber
set_option maxRecDepth 20000 in
theorem ggX7_readGarland_X7_lays : GoodIn wsX7_readGarland wsX7_lays := goodIn_r _ [53, 1, 68, 69, 70, 71, 72, 73, 74, 75, 76, 77, 78, 79, 80, 81] (by decide +kernel) (by decide +kernel)
set_option maxRecDepth 20000 in
theorem gX7_readGarland_X7_lays : GoodIn wsX7_readGarland (wsV RX7 71 RX7 yX7_lays wsX7_lays) := goodIn_app (goodIn_of _ (by decide +kernel)) ggX7_readGarland_X7_lays
set_option maxRecDepth 20000 in
theorem ggX7_readGarland_X7_ends : GoodIn wsX7_readGarland wsX7_ends := goodIn_r _ [57, 58, 59, 60, 7, 61, 1, 49, 62, 63, 64, 65, 66, 67, 68, 69, 70, 71, 72, 73, 74, 75, 76, 77, 78, 79, 80, 81] (by decide +kernel) (by decide +kernel)
set_option maxRecDepth 20000 in
theorem gX7_readGarland_X7_ends : GoodIn wsX7_readGarland (wsV RX7 88 RX7 yX7_ends wsX7_ends) := goodIn_app (goodIn_of _ (by decide +kernel)) ggX7_readGarland_X7_ends
theorem dX7_readGarland_0 : decode cX7_readGarland 0 = .ok (.aload_n 0, 1) := by decide +kernel
theorem dX7_readGarland_1 : decode cX7_readGarland 1 = .ok (.invokevirtual 138, 3) := by decide +kernel
theorem dX7_readGarland_4 : decode cX7_readGarland 4 = .ok (.istore_n 1, 1) := by decide +kernel
theorem dX7_readGarland_5 : decode cX7_readGarland 5 = .ok (.iload_n 1, 1) := by decide +kernel
theorem dX7_readGarland_6 : decode cX7_readGarland 6 = .ok (.bipush (-5), 2) := by decide +kernel
theorem dX7_readGarland_8 : decode cX7_readGarland 8 = .ok (.if_icmp .eq 8, 3) := by decide +kernel
theorem dX7_readGarland_11 : decode cX7_readGarland 11 = .ok (.bipush (-100), 2) := by decide +kernel
theorem dX7_readGarland_13 : decode cX7_readGarland 13 = .ok (.iload_n 1, 1) := by decide +kernel
theorem dX7_readGarland_14 : decode cX7_readGarland 14 = .ok (.isub, 1) := by decide +kernel
theorem dX7_readGarland_15 : decode cX7_readGarland 15 = .ok (.ireturn, 1) := by decide +kernel
theorem dX7_readGarland_16 : decode cX7_readGarland 16 = .ok (.aload_n 0, 1) := by decide +kernel
theorem dX7_readGarland_17 : decode cX7_readGarland 17 = .ok (.invokevirtual 141, 3) := by decide +kernel
theorem dX7_readGarland_20 : decode cX7_readGarland 20 = .ok (.istore_n 2, 1) := by decide +kernel
theorem dX7_readGarland_21 : decode cX7_readGarland 21 = .ok (.iload_n 2, 1) := by decide +kernel
theorem dX7_readGarland_22 : decode cX7_readGarland 22 = .ok (.ifCond .ge 5, 3) := by decide +kernel
theorem dX7_readGarland_25 : decode cX7_readGarland 25 = .ok (.iload_n 2, 1) := by decide +kernel
theorem dX7_readGarland_26 : decode cX7_readGarland 26 = .ok (.ireturn, 1) := by decide +kernel
theorem dX7_readGarland_27 : decode cX7_readGarland 27 = .ok (.aload_n 0, 1) := by decide +kernel
theorem dX7_readGarland_28 : decode cX7_readGarland 28 = .ok (.invokevirtual 81, 3) := by decide +kernel
theorem dX7_readGarland_31 : decode cX7_readGarland 31 = .ok (.aload_n 0, 1) := by decide +kernel
theorem dX7_readGarland_32 : decode cX7_readGarland 32 = .ok (.invokevirtual 100, 3) := by decide +kernel
theorem dX7_readGarland_35 : decode cX7_readGarland 35 = .ok (.istore_n 3, 1) := by decide +kernel
theorem dX7_readGarland_36 : decode cX7_readGarland 36 = .ok (.aload_n 0, 1) := by decide +kernel
theorem dX7_readGarland_37 : decode cX7_readGarland 37 = .ok (.getfield 7, 3) := by decide +kernel
theorem dX7_readGarland_40 : decode cX7_readGarland 40 = .ok (.bipush 22, 2) := by decide +kernel
theorem dX7_readGarland_42 : decode cX7_readGarland 42 = .ok (.iload_n 3, 1) := by decide +kernel
theorem dX7_readGarland_43 : decode cX7_readGarland 43 = .ok (.iadd, 1) := by decide +kernel
theorem dX7_readGarland_44 : decode cX7_readGarland 44 = .ok (.aload_n 0, 1) := by decide +kernel
theorem dX7_readGarland_45 : decode cX7_readGarland 45 = .ok (.getfield 129, 3) := by decide +kernel
theorem dX7_readGarland_48 : decode cX7_readGarland 48 = .ok (.iastore, 1) := by decide +kernel
theorem dX7_readGarland_49 : decode cX7_readGarland 49 = .ok (.iconst 0, 1) := by decide +kernel
theorem dX7_readGarland_50 : decode cX7_readGarland 50 = .ok (.istore 4, 2) := by decide +kernel
theorem dX7_readGarland_52 : decode cX7_readGarland 52 = .ok (.iload 4, 2) := by decide +kernel
theorem dX7_readGarland_54 : decode cX7_readGarland 54 = .ok (.aload_n 0, 1) := by decide +kernel
theorem dX7_readGarland_55 : decode cX7_readGarland 55 = .ok (.getfield 129, 3) := by decide +kernel
theorem dX7_readGarland_58 : decode cX7_readGarland 58 = .ok (.if_icmp .ge 23, 3) := by decide +kernel
theorem dX7_readGarland_61 : decode cX7_readGarland 61 = .ok (.aload_n 0, 1) := by decide +kernel
theorem dX7_readGarland_62 : decode cX7_readGarland 62 = .ok (.iload_n 3, 1) := by decide +kernel
theorem dX7_readGarland_63 : decode cX7_readGarland 63 = .ok (.iload 4, 2) := by decide +kernel
theorem dX7_readGarland_65 : decode cX7_readGarland 65 = .ok (.aload_n 0, 1) := by decide +kernel
theorem dX7_readGarland_66 : decode cX7_readGarland 66 = .ok (.getfield 22, 3) := by decide +kernel
theorem dX7_readGarland_69 : decode cX7_readGarland 69 = .ok (.iload 4, 2) := by decide +kernel
theorem dX7_readGarland_71 : decode cX7_readGarland 71 = .ok (.iaload, 1) := by decide +kernel
theorem dX7_readGarland_72 : decode cX7_readGarland 72 = .ok (.invokevirtual 71, 3) := by decide +kernel
theorem dX7_readGarland_75 : decode cX7_readGarland 75 = .ok (.iinc 4 1, 3) := by decide +kernel
theorem dX7_readGarland_78 : decode cX7_readGarland 78 = .ok (.goto (-26), 3) := by decide +kernel
theorem dX7_readGarland_81 : decode cX7_readGarland 81 = .ok (.aload_n 0, 1) := by decide +kernel
theorem dX7_readGarland_82 : decode cX7_readGarland 82 = .ok (.iload_n 3, 1) := by decide +kernel
theorem dX7_readGarland_83 : decode cX7_readGarland 83 = .ok (.invokevirtual 88, 3) := by decide +kernel
theorem dX7_readGarland_86 : decode cX7_readGarland 86 = .ok (.ireturn, 1) := by decide +kernel
theorem dX7_undo_0 : decode cX7_undo 0 = .ok (.aload_n 0, 1) := by decide +kernel
theorem dX7_undo_1 : decode cX7_undo 1 = .ok (.getfield 37, 3) := by decide +kernel
theorem dX7_undo_4 : decode cX7_undo 4 = .ok (.ifCond .ne 6, 3) := by decide +kernel
theorem dX7_undo_7 : decode cX7_undo 7 = .ok (.bipush (-5), 2) := by decide +kernel
theorem dX7_undo_9 : decode cX7_undo 9 = .ok (.ireturn, 1) := by decide +kernel
theorem dX7_undo_10 : decode cX7_undo 10 = .ok (.aload_n 0, 1) := by decide +kernel
theorem dX7_undo_11 : decode cX7_undo 11 = .ok (.dup, 1) := by decide +kernel
theorem dX7_undo_12 : decode cX7_undo 12 = .ok (.getfield 37, 3) := by decide +kernel
theorem dX7_undo_15 : decode cX7_undo 15 = .ok (.iconst 1, 1) := by decide +kernel
theorem dX7_undo_16 : decode cX7_undo 16 = .ok (.isub, 1) := by decide +kernel
theorem dX7_undo_17 : decode cX7_undo 17 = .ok (.putfield 37, 3) := by decide +kernel
theorem dX7_undo_20 : decode cX7_undo 20 = .ok (.iconst 0, 1) := by decide +kernel
theorem dX7_undo_21 : decode cX7_undo 21 = .ok (.istore_n 1, 1) := by decide +kernel
theorem dX7_undo_22 : decode cX7_undo 22 = .ok (.iload_n 1, 1) := by decide +kernel
theorem dX7_undo_23 : decode cX7_undo 23 = .ok (.sipush 286, 3) := by decide +kernel
theorem dX7_undo_26 : decode cX7_undo 26 = .ok (.if_icmp .ge 30, 3) := by decide +kernel
theorem dX7_undo_29 : decode cX7_undo 29 = .ok (.aload_n 0, 1) := by decide +kernel
theorem dX7_undo_30 : decode cX7_undo 30 = .ok (.getfield 7, 3) := by decide +kernel
theorem dX7_undo_33 : decode cX7_undo 33 = .ok (.iload_n 1, 1) := by decide +kernel
theorem dX7_undo_34 : decode cX7_undo 34 = .ok (.aload_n 0, 1) := by decide +kernel
theorem dX7_undo_35 : decode cX7_undo 35 = .ok (.getfield 16, 3) := by decide +kernel
theorem dX7_undo_38 : decode cX7_undo 38 = .ok (.sipush 286, 3) := by decide +kernel
theorem dX7_undo_41 : decode cX7_undo 41 = .ok (.aload_n 0, 1) := by decide +kernel
theorem dX7_undo_42 : decode cX7_undo 42 = .ok (.getfield 37, 3) := by decide +kernel
theorem dX7_undo_45 : decode cX7_undo 45 = .ok (.imul, 1) := by decide +kernel
theorem dX7_undo_46 : decode cX7_undo 46 = .ok (.iload_n 1, 1) := by decide +kernel
theorem dX7_undo_47 : decode cX7_undo 47 = .ok (.iadd, 1) := by decide +kernel
theorem dX7_undo_48 : decode cX7_undo 48 = .ok (.iaload, 1) := by decide +kernel
theorem dX7_undo_49 : decode cX7_undo 49 = .ok (.iastore, 1) := by decide +kernel
theorem dX7_undo_50 : decode cX7_undo 50 = .ok (.iinc 1 1, 3) := by decide +kernel
theorem dX7_undo_53 : decode cX7_undo 53 = .ok (.goto (-31), 3) := by decide +kernel
theorem dX7_undo_56 : decode cX7_undo 56 = .ok (.aload_n 0, 1) := by decide +kernel
theorem dX7_undo_57 : decode cX7_undo 57 = .ok (.getfield 37, 3) := by decide +kernel
theorem dX7_undo_60 : decode cX7_undo 60 = .ok (.ireturn, 1) := by decide +kernel
theorem dX7_garlands_0 : decode cX7_garlands 0 = .ok (.iconst 0, 1) := by decide +kernel
theorem dX7_garlands_1 : decode cX7_garlands 1 = .ok (.istore_n 1, 1) := by decide +kernel
theorem dX7_garlands_2 : decode cX7_garlands 2 = .ok (.iconst 0, 1) := by decide +kernel
theorem dX7_garlands_3 : decode cX7_garlands 3 = .ok (.istore_n 2, 1) := by decide +kernel
theorem dX7_garlands_4 : decode cX7_garlands 4 = .ok (.iload_n 2, 1) := by decide +kernel
theorem dX7_garlands_5 : decode cX7_garlands 5 = .ok (.bipush 8, 2) := by decide +kernel
theorem dX7_garlands_7 : decode cX7_garlands 7 = .ok (.if_icmp .ge 29, 3) := by decide +kernel
theorem dX7_garlands_10 : decode cX7_garlands 10 = .ok (.iload_n 1, 1) := by decide +kernel
theorem dX7_garlands_11 : decode cX7_garlands 11 = .ok (.aload_n 0, 1) := by decide +kernel
theorem dX7_garlands_12 : decode cX7_garlands 12 = .ok (.getfield 7, 3) := by decide +kernel
theorem dX7_garlands_15 : decode cX7_garlands 15 = .ok (.bipush 22, 2) := by decide +kernel
theorem dX7_garlands_17 : decode cX7_garlands 17 = .ok (.iload_n 2, 1) := by decide +kernel
theorem dX7_garlands_18 : decode cX7_garlands 18 = .ok (.iadd, 1) := by decide +kernel
theorem dX7_garlands_19 : decode cX7_garlands 19 = .ok (.iaload, 1) := by decide +kernel
theorem dX7_garlands_20 : decode cX7_garlands 20 = .ok (.ifCond .le 7, 3) := by decide +kernel
theorem dX7_garlands_23 : decode cX7_garlands 23 = .ok (.iconst 1, 1) := by decide +kernel
theorem dX7_garlands_24 : decode cX7_garlands 24 = .ok (.goto 4, 3) := by decide +kernel
theorem dX7_garlands_27 : decode cX7_garlands 27 = .ok (.iconst 0, 1) := by decide +kernel
theorem dX7_garlands_28 : decode cX7_garlands 28 = .ok (.iadd, 1) := by decide +kernel
theorem dX7_garlands_29 : decode cX7_garlands 29 = .ok (.istore_n 1, 1) := by decide +kernel
theorem dX7_garlands_30 : decode cX7_garlands 30 = .ok (.iinc 2 1, 3) := by decide +kernel
theorem dX7_garlands_33 : decode cX7_garlands 33 = .ok (.goto (-29), 3) := by decide +kernel
theorem dX7_garlands_36 : decode cX7_garlands 36 = .ok (.iload_n 1, 1) := by decide +kernel
theorem dX7_garlands_37 : decode cX7_garlands 37 = .ok (.ireturn, 1) := by decide +kernel
set_option maxRecDepth 20000 in
theorem ggX7_keep_X7_garlands : GoodIn wsX7_keep wsX7_garlands := goodIn_r _ [8, 2, 9, 10, 11, 12, 13, 14, 15, 16, 17, 18, 19, 20, 21, 22] (by decide +kernel) (by decide +kernel)
set_option maxRecDepth 20000 in
theorem gX7_keep_X7_garlands : GoodIn wsX7_keep (wsV RX7 147 RX7 yX7_garlands wsX7_garlands) := goodIn_app (goodIn_of _ (by decide +kernel)) ggX7_keep_X7_garlands
theorem dX7_keep_0 : decode cX7_keep 0 = .ok (.iconst 0, 1) := by decide +kernel
theorem dX7_keep_1 : decode cX7_keep 1 = .ok (.istore_n 1, 1) := by decide +kernel
theorem dX7_keep_2 : decode cX7_keep 2 = .ok (.iload_n 1, 1) := by decide +kernel
theorem dX7_keep_3 : decode cX7_keep 3 = .ok (.sipush 286, 3) := by decide +kernel
theorem dX7_keep_6 : decode cX7_keep 6 = .ok (.if_icmp .ge 21, 3) := by decide +kernel
theorem dX7_keep_9 : decode cX7_keep 9 = .ok (.aload_n 0, 1) := by decide +kernel
theorem dX7_keep_10 : decode cX7_keep 10 = .ok (.getfield 19, 3) := by decide +kernel
theorem dX7_keep_13 : decode cX7_keep 13 = .ok (.iload_n 1, 1) := by decide +kernel
theorem dX7_keep_14 : decode cX7_keep 14 = .ok (.aload_n 0, 1) := by decide +kernel
theorem dX7_keep_15 : decode cX7_keep 15 = .ok (.getfield 7, 3) := by decide +kernel
theorem dX7_keep_18 : decode cX7_keep 18 = .ok (.iload_n 1, 1) := by decide +kernel
theorem dX7_keep_19 : decode cX7_keep 19 = .ok (.iaload, 1) := by decide +kernel
theorem dX7_keep_20 : decode cX7_keep 20 = .ok (.iastore, 1) := by decide +kernel
theorem dX7_keep_21 : decode cX7_keep 21 = .ok (.iinc 1 1, 3) := by decide +kernel
theorem dX7_keep_24 : decode cX7_keep 24 = .ok (.goto (-22), 3) := by decide +kernel
theorem dX7_keep_27 : decode cX7_keep 27 = .ok (.aload_n 0, 1) := by decide +kernel
theorem dX7_keep_28 : decode cX7_keep 28 = .ok (.iconst 1, 1) := by decide +kernel
theorem dX7_keep_29 : decode cX7_keep 29 = .ok (.putfield 144, 3) := by decide +kernel
theorem dX7_keep_32 : decode cX7_keep 32 = .ok (.aload_n 0, 1) := by decide +kernel
theorem dX7_keep_33 : decode cX7_keep 33 = .ok (.invokevirtual 147, 3) := by decide +kernel
theorem dX7_keep_36 : decode cX7_keep 36 = .ok (.ireturn, 1) := by decide +kernel
set_option maxRecDepth 20000 in
theorem ggX7_restore_X7_keeps : GoodIn wsX7_restore wsX7_keeps := goodIn_r _ [8, 9, 2, 28, 29, 30, 31, 32, 33, 34, 35, 36, 37, 38, 39, 40, 41] (by decide +kernel) (by decide +kernel)
set_option maxRecDepth 20000 in
theorem gX7_restore_X7_keeps : GoodIn wsX7_restore (wsV RX7 81 RX7 yX7_keeps wsX7_keeps) := goodIn_app (goodIn_of _ (by decide +kernel)) ggX7_restore_X7_keeps
set_option maxRecDepth 20000 in
theorem ggX7_restore_X7_garlands : GoodIn wsX7_restore wsX7_garlands := goodIn_r _ [13, 2, 28, 29, 30, 31, 32, 33, 34, 35, 36, 37, 38, 39, 40, 41] (by decide +kernel) (by decide +kernel)
set_option maxRecDepth 20000 in
theorem gX7_restore_X7_garlands : GoodIn wsX7_restore (wsV RX7 147 RX7 yX7_garlands wsX7_garlands) := goodIn_app (goodIn_of _ (by decide +kernel)) ggX7_restore_X7_garlands
set_option maxRecDepth 20000 in
theorem ggX7_restore_X7_ends : GoodIn wsX7_restore wsX7_ends := goodIn_r _ [17, 18, 19, 20, 7, 21, 2, 9, 22, 23, 24, 25, 26, 27, 28, 29, 30, 31, 32, 33, 34, 35, 36, 37, 38, 39, 40, 41] (by decide +kernel) (by decide +kernel)
set_option maxRecDepth 20000 in
theorem gX7_restore_X7_ends : GoodIn wsX7_restore (wsV RX7 88 RX7 yX7_ends wsX7_ends) := goodIn_app (goodIn_of _ (by decide +kernel)) ggX7_restore_X7_ends
theorem dX7_restore_0 : decode cX7_restore 0 = .ok (.aload_n 0, 1) := by decide +kernel
theorem dX7_restore_1 : decode cX7_restore 1 = .ok (.getfield 144, 3) := by decide +kernel
theorem dX7_restore_4 : decode cX7_restore 4 = .ok (.ifCond .ne 6, 3) := by decide +kernel
theorem dX7_restore_7 : decode cX7_restore 7 = .ok (.bipush (-5), 2) := by decide +kernel
theorem dX7_restore_9 : decode cX7_restore 9 = .ok (.ireturn, 1) := by decide +kernel
theorem dX7_restore_10 : decode cX7_restore 10 = .ok (.aload_n 0, 1) := by decide +kernel
theorem dX7_restore_11 : decode cX7_restore 11 = .ok (.invokevirtual 81, 3) := by decide +kernel
theorem dX7_restore_14 : decode cX7_restore 14 = .ok (.iconst 0, 1) := by decide +kernel
theorem dX7_restore_15 : decode cX7_restore 15 = .ok (.istore_n 1, 1) := by decide +kernel
theorem dX7_restore_16 : decode cX7_restore 16 = .ok (.iload_n 1, 1) := by decide +kernel
theorem dX7_restore_17 : decode cX7_restore 17 = .ok (.sipush 286, 3) := by decide +kernel
theorem dX7_restore_20 : decode cX7_restore 20 = .ok (.if_icmp .ge 21, 3) := by decide +kernel
theorem dX7_restore_23 : decode cX7_restore 23 = .ok (.aload_n 0, 1) := by decide +kernel
theorem dX7_restore_24 : decode cX7_restore 24 = .ok (.getfield 7, 3) := by decide +kernel
theorem dX7_restore_27 : decode cX7_restore 27 = .ok (.iload_n 1, 1) := by decide +kernel
theorem dX7_restore_28 : decode cX7_restore 28 = .ok (.aload_n 0, 1) := by decide +kernel
theorem dX7_restore_29 : decode cX7_restore 29 = .ok (.getfield 19, 3) := by decide +kernel
theorem dX7_restore_32 : decode cX7_restore 32 = .ok (.iload_n 1, 1) := by decide +kernel
theorem dX7_restore_33 : decode cX7_restore 33 = .ok (.iaload, 1) := by decide +kernel
theorem dX7_restore_34 : decode cX7_restore 34 = .ok (.iastore, 1) := by decide +kernel
theorem dX7_restore_35 : decode cX7_restore 35 = .ok (.iinc 1 1, 3) := by decide +kernel
theorem dX7_restore_38 : decode cX7_restore 38 = .ok (.goto (-22), 3) := by decide +kernel
theorem dX7_restore_41 : decode cX7_restore 41 = .ok (.aload_n 0, 1) := by decide +kernel
theorem dX7_restore_42 : decode cX7_restore 42 = .ok (.aload_n 0, 1) := by decide +kernel
theorem dX7_restore_43 : decode cX7_restore 43 = .ok (.invokevirtual 147, 3) := by decide +kernel
theorem dX7_restore_46 : decode cX7_restore 46 = .ok (.invokevirtual 88, 3) := by decide +kernel
theorem dX7_restore_49 : decode cX7_restore 49 = .ok (.ireturn, 1) := by decide +kernel
set_option maxRecDepth 20000 in
theorem ggX7_dollsOf_X7_dollAt : GoodIn wsX7_dollsOf wsX7_dollAt := goodIn_r _ [6, 1, 7, 8, 9, 10, 11, 12, 13, 14, 15, 16, 17, 18, 19, 20] (by decide +kernel) (by decide +kernel)
set_option maxRecDepth 20000 in
theorem gX7_dollsOf_X7_dollAt : GoodIn wsX7_dollsOf (wsV RX7 57 RX7 yX7_dollAt wsX7_dollAt) := goodIn_app (goodIn_of _ (by decide +kernel)) ggX7_dollsOf_X7_dollAt
theorem dX7_dollsOf_0 : decode cX7_dollsOf 0 = .ok (.iconst 0, 1) := by decide +kernel
theorem dX7_dollsOf_1 : decode cX7_dollsOf 1 = .ok (.istore_n 3, 1) := by decide +kernel
theorem dX7_dollsOf_2 : decode cX7_dollsOf 2 = .ok (.iconst 0, 1) := by decide +kernel
theorem dX7_dollsOf_3 : decode cX7_dollsOf 3 = .ok (.istore 4, 2) := by decide +kernel
theorem dX7_dollsOf_5 : decode cX7_dollsOf 5 = .ok (.iload 4, 2) := by decide +kernel
theorem dX7_dollsOf_7 : decode cX7_dollsOf 7 = .ok (.bipush 8, 2) := by decide +kernel
theorem dX7_dollsOf_9 : decode cX7_dollsOf 9 = .ok (.if_icmp .ge 73, 3) := by decide +kernel
theorem dX7_dollsOf_12 : decode cX7_dollsOf 12 = .ok (.iconst 0, 1) := by decide +kernel
theorem dX7_dollsOf_13 : decode cX7_dollsOf 13 = .ok (.istore 5, 2) := by decide +kernel
theorem dX7_dollsOf_15 : decode cX7_dollsOf 15 = .ok (.iload 5, 2) := by decide +kernel
theorem dX7_dollsOf_17 : decode cX7_dollsOf 17 = .ok (.aload_n 0, 1) := by decide +kernel
theorem dX7_dollsOf_18 : decode cX7_dollsOf 18 = .ok (.getfield 7, 3) := by decide +kernel
theorem dX7_dollsOf_21 : decode cX7_dollsOf 21 = .ok (.bipush 22, 2) := by decide +kernel
theorem dX7_dollsOf_23 : decode cX7_dollsOf 23 = .ok (.iload 4, 2) := by decide +kernel
theorem dX7_dollsOf_25 : decode cX7_dollsOf 25 = .ok (.iadd, 1) := by decide +kernel
theorem dX7_dollsOf_26 : decode cX7_dollsOf 26 = .ok (.iaload, 1) := by decide +kernel
theorem dX7_dollsOf_27 : decode cX7_dollsOf 27 = .ok (.if_icmp .ge 49, 3) := by decide +kernel
theorem dX7_dollsOf_30 : decode cX7_dollsOf 30 = .ok (.iload_n 3, 1) := by decide +kernel
theorem dX7_dollsOf_31 : decode cX7_dollsOf 31 = .ok (.aload_n 0, 1) := by decide +kernel
theorem dX7_dollsOf_32 : decode cX7_dollsOf 32 = .ok (.iload 4, 2) := by decide +kernel
theorem dX7_dollsOf_34 : decode cX7_dollsOf 34 = .ok (.iload 5, 2) := by decide +kernel
theorem dX7_dollsOf_36 : decode cX7_dollsOf 36 = .ok (.invokevirtual 57, 3) := by decide +kernel
theorem dX7_dollsOf_39 : decode cX7_dollsOf 39 = .ok (.iconst 2, 1) := by decide +kernel
theorem dX7_dollsOf_40 : decode cX7_dollsOf 40 = .ok (.idiv, 1) := by decide +kernel
theorem dX7_dollsOf_41 : decode cX7_dollsOf 41 = .ok (.iload_n 1, 1) := by decide +kernel
theorem dX7_dollsOf_42 : decode cX7_dollsOf 42 = .ok (.if_icmp .ne 25, 3) := by decide +kernel
theorem dX7_dollsOf_45 : decode cX7_dollsOf 45 = .ok (.iload_n 2, 1) := by decide +kernel
theorem dX7_dollsOf_46 : decode cX7_dollsOf 46 = .ok (.ifCond .eq 17, 3) := by decide +kernel
theorem dX7_dollsOf_49 : decode cX7_dollsOf 49 = .ok (.aload_n 0, 1) := by decide +kernel
theorem dX7_dollsOf_50 : decode cX7_dollsOf 50 = .ok (.iload 4, 2) := by decide +kernel
theorem dX7_dollsOf_52 : decode cX7_dollsOf 52 = .ok (.iload 5, 2) := by decide +kernel
theorem dX7_dollsOf_54 : decode cX7_dollsOf 54 = .ok (.invokevirtual 57, 3) := by decide +kernel
theorem dX7_dollsOf_57 : decode cX7_dollsOf 57 = .ok (.iconst 2, 1) := by decide +kernel
theorem dX7_dollsOf_58 : decode cX7_dollsOf 58 = .ok (.irem, 1) := by decide +kernel
theorem dX7_dollsOf_59 : decode cX7_dollsOf 59 = .ok (.iconst 1, 1) := by decide +kernel
theorem dX7_dollsOf_60 : decode cX7_dollsOf 60 = .ok (.if_icmp .ne 7, 3) := by decide +kernel
theorem dX7_dollsOf_63 : decode cX7_dollsOf 63 = .ok (.iconst 1, 1) := by decide +kernel
theorem dX7_dollsOf_64 : decode cX7_dollsOf 64 = .ok (.goto 4, 3) := by decide +kernel
theorem dX7_dollsOf_67 : decode cX7_dollsOf 67 = .ok (.iconst 0, 1) := by decide +kernel
theorem dX7_dollsOf_68 : decode cX7_dollsOf 68 = .ok (.iadd, 1) := by decide +kernel
theorem dX7_dollsOf_69 : decode cX7_dollsOf 69 = .ok (.istore_n 3, 1) := by decide +kernel
theorem dX7_dollsOf_70 : decode cX7_dollsOf 70 = .ok (.iinc 5 1, 3) := by decide +kernel
theorem dX7_dollsOf_73 : decode cX7_dollsOf 73 = .ok (.goto (-58), 3) := by decide +kernel
theorem dX7_dollsOf_76 : decode cX7_dollsOf 76 = .ok (.iinc 4 1, 3) := by decide +kernel
theorem dX7_dollsOf_79 : decode cX7_dollsOf 79 = .ok (.goto (-74), 3) := by decide +kernel
theorem dX7_dollsOf_82 : decode cX7_dollsOf 82 = .ok (.iload_n 3, 1) := by decide +kernel
theorem dX7_dollsOf_83 : decode cX7_dollsOf 83 = .ok (.ireturn, 1) := by decide +kernel
set_option maxRecDepth 20000 in
theorem ggX7_kind_X7_isKind : GoodIn wsX7_kind wsX7_isKind := goodIn_r _ [6, 1, 7, 8, 5, 9, 18, 19, 20, 21, 22, 23, 24, 25, 26, 27, 28, 29, 30, 31] (by decide +kernel) (by decide +kernel)
set_option maxRecDepth 20000 in
theorem gX7_kind_X7_isKind : GoodIn wsX7_kind (wsV RX7 75 RX7 yX7_isKind wsX7_isKind) := goodIn_app (goodIn_of _ (by decide +kernel)) ggX7_kind_X7_isKind
set_option maxRecDepth 20000 in
theorem ggX7_kind_X7_dollsOf : GoodIn wsX7_kind wsX7_dollsOf := goodIn_r _ [13, 1, 14, 15, 16, 5, 17, 18, 19, 20, 21, 22, 23, 24, 25, 26, 27, 28, 29, 30, 31] (by decide +kernel) (by decide +kernel)
set_option maxRecDepth 20000 in
theorem gX7_kind_X7_dollsOf : GoodIn wsX7_kind (wsV RX7 150 RX7 yX7_dollsOf wsX7_dollsOf) := goodIn_app (goodIn_of _ (by decide +kernel)) ggX7_kind_X7_dollsOf
theorem dX7_kind_0 : decode cX7_kind 0 = .ok (.aload_n 0, 1) := by decide +kernel
theorem dX7_kind_1 : decode cX7_kind 1 = .ok (.iload_n 1, 1) := by decide +kernel
theorem dX7_kind_2 : decode cX7_kind 2 = .ok (.invokevirtual 75, 3) := by decide +kernel
theorem dX7_kind_5 : decode cX7_kind 5 = .ok (.ifCond .ne 5, 3) := by decide +kernel
theorem dX7_kind_8 : decode cX7_kind 8 = .ok (.iconst (-1), 1) := by decide +kernel
theorem dX7_kind_9 : decode cX7_kind 9 = .ok (.ireturn, 1) := by decide +kernel
theorem dX7_kind_10 : decode cX7_kind 10 = .ok (.iconst 2, 1) := by decide +kernel
theorem dX7_kind_11 : decode cX7_kind 11 = .ok (.iconst 2, 1) := by decide +kernel
theorem dX7_kind_12 : decode cX7_kind 12 = .ok (.iload_n 1, 1) := by decide +kernel
theorem dX7_kind_13 : decode cX7_kind 13 = .ok (.imul, 1) := by decide +kernel
theorem dX7_kind_14 : decode cX7_kind 14 = .ok (.iadd, 1) := by decide +kernel
theorem dX7_kind_15 : decode cX7_kind 15 = .ok (.istore_n 3, 1) := by decide +kernel
theorem dX7_kind_16 : decode cX7_kind 16 = .ok (.iload_n 2, 1) := by decide +kernel
theorem dX7_kind_17 : decode cX7_kind 17 = .ok (.tableswitch 83 0 4 #[35, 35, 44, 44, 60], 35) := by decide +kernel
theorem dX7_kind_52 : decode cX7_kind 52 = .ok (.aload_n 0, 1) := by decide +kernel
theorem dX7_kind_53 : decode cX7_kind 53 = .ok (.getfield 7, 3) := by decide +kernel
theorem dX7_kind_56 : decode cX7_kind 56 = .ok (.iload_n 3, 1) := by decide +kernel
theorem dX7_kind_57 : decode cX7_kind 57 = .ok (.iload_n 2, 1) := by decide +kernel
theorem dX7_kind_58 : decode cX7_kind 58 = .ok (.iadd, 1) := by decide +kernel
theorem dX7_kind_59 : decode cX7_kind 59 = .ok (.iaload, 1) := by decide +kernel
theorem dX7_kind_60 : decode cX7_kind 60 = .ok (.ireturn, 1) := by decide +kernel
theorem dX7_kind_61 : decode cX7_kind 61 = .ok (.aload_n 0, 1) := by decide +kernel
theorem dX7_kind_62 : decode cX7_kind 62 = .ok (.iload_n 1, 1) := by decide +kernel
theorem dX7_kind_63 : decode cX7_kind 63 = .ok (.iload_n 2, 1) := by decide +kernel
theorem dX7_kind_64 : decode cX7_kind 64 = .ok (.iconst 3, 1) := by decide +kernel
theorem dX7_kind_65 : decode cX7_kind 65 = .ok (.if_icmp .ne 7, 3) := by decide +kernel
theorem dX7_kind_68 : decode cX7_kind 68 = .ok (.iconst 1, 1) := by decide +kernel
theorem dX7_kind_69 : decode cX7_kind 69 = .ok (.goto 4, 3) := by decide +kernel
theorem dX7_kind_72 : decode cX7_kind 72 = .ok (.iconst 0, 1) := by decide +kernel
theorem dX7_kind_73 : decode cX7_kind 73 = .ok (.invokevirtual 150, 3) := by decide +kernel
theorem dX7_kind_76 : decode cX7_kind 76 = .ok (.ireturn, 1) := by decide +kernel
theorem dX7_kind_77 : decode cX7_kind 77 = .ok (.aload_n 0, 1) := by decide +kernel
theorem dX7_kind_78 : decode cX7_kind 78 = .ok (.getfield 7, 3) := by decide +kernel
theorem dX7_kind_81 : decode cX7_kind 81 = .ok (.iload_n 3, 1) := by decide +kernel
theorem dX7_kind_82 : decode cX7_kind 82 = .ok (.iaload, 1) := by decide +kernel
theorem dX7_kind_83 : decode cX7_kind 83 = .ok (.aload_n 0, 1) := by decide +kernel
theorem dX7_kind_84 : decode cX7_kind 84 = .ok (.getfield 7, 3) := by decide +kernel
theorem dX7_kind_87 : decode cX7_kind 87 = .ok (.iload_n 3, 1) := by decide +kernel
theorem dX7_kind_88 : decode cX7_kind 88 = .ok (.iconst 1, 1) := by decide +kernel
theorem dX7_kind_89 : decode cX7_kind 89 = .ok (.iadd, 1) := by decide +kernel
theorem dX7_kind_90 : decode cX7_kind 90 = .ok (.iaload, 1) := by decide +kernel
theorem dX7_kind_91 : decode cX7_kind 91 = .ok (.if_icmp .ne 7, 3) := by decide +kernel
theorem dX7_kind_94 : decode cX7_kind 94 = .ok (.iconst 1, 1) := by decide +kernel
theorem dX7_kind_95 : decode cX7_kind 95 = .ok (.goto 4, 3) := by decide +kernel
theorem dX7_kind_98 : decode cX7_kind 98 = .ok (.iconst 0, 1) := by decide +kernel
theorem dX7_kind_99 : decode cX7_kind 99 = .ok (.ireturn, 1) := by decide +kernel
theorem dX7_kind_100 : decode cX7_kind 100 = .ok (.bipush (-2), 2) := by decide +kernel
theorem dX7_kind_102 : decode cX7_kind 102 = .ok (.ireturn, 1) := by decide +kernel
set_option maxRecDepth 20000 in
theorem ggX7_kindsIn_X7_dollAt : GoodIn wsX7_kindsIn wsX7_dollAt := goodIn_r _ [6, 1, 7, 8, 9, 10, 11, 12, 13, 14, 15, 16, 17, 18, 19, 20] (by decide +kernel) (by decide +kernel)
set_option maxRecDepth 20000 in
theorem gX7_kindsIn_X7_dollAt : GoodIn wsX7_kindsIn (wsV RX7 57 RX7 yX7_dollAt wsX7_dollAt) := goodIn_app (goodIn_of _ (by decide +kernel)) ggX7_kindsIn_X7_dollAt
theorem dX7_kindsIn_0 : decode cX7_kindsIn 0 = .ok (.iconst 0, 1) := by decide +kernel
theorem dX7_kindsIn_1 : decode cX7_kindsIn 1 = .ok (.istore_n 2, 1) := by decide +kernel
theorem dX7_kindsIn_2 : decode cX7_kindsIn 2 = .ok (.iconst 0, 1) := by decide +kernel
theorem dX7_kindsIn_3 : decode cX7_kindsIn 3 = .ok (.istore_n 3, 1) := by decide +kernel
theorem dX7_kindsIn_4 : decode cX7_kindsIn 4 = .ok (.iload_n 3, 1) := by decide +kernel
theorem dX7_kindsIn_5 : decode cX7_kindsIn 5 = .ok (.aload_n 0, 1) := by decide +kernel
theorem dX7_kindsIn_6 : decode cX7_kindsIn 6 = .ok (.getfield 7, 3) := by decide +kernel
theorem dX7_kindsIn_9 : decode cX7_kindsIn 9 = .ok (.bipush 22, 2) := by decide +kernel
theorem dX7_kindsIn_11 : decode cX7_kindsIn 11 = .ok (.iload_n 1, 1) := by decide +kernel
theorem dX7_kindsIn_12 : decode cX7_kindsIn 12 = .ok (.iadd, 1) := by decide +kernel
theorem dX7_kindsIn_13 : decode cX7_kindsIn 13 = .ok (.iaload, 1) := by decide +kernel
theorem dX7_kindsIn_14 : decode cX7_kindsIn 14 = .ok (.if_icmp .ge 22, 3) := by decide +kernel
theorem dX7_kindsIn_17 : decode cX7_kindsIn 17 = .ok (.iload_n 2, 1) := by decide +kernel
theorem dX7_kindsIn_18 : decode cX7_kindsIn 18 = .ok (.iconst 1, 1) := by decide +kernel
theorem dX7_kindsIn_19 : decode cX7_kindsIn 19 = .ok (.aload_n 0, 1) := by decide +kernel
theorem dX7_kindsIn_20 : decode cX7_kindsIn 20 = .ok (.iload_n 1, 1) := by decide +kernel
theorem dX7_kindsIn_21 : decode cX7_kindsIn 21 = .ok (.iload_n 3, 1) := by decide +kernel
theorem dX7_kindsIn_22 : decode cX7_kindsIn 22 = .ok (.invokevirtual 57, 3) := by decide +kernel
theorem dX7_kindsIn_25 : decode cX7_kindsIn 25 = .ok (.iconst 2, 1) := by decide +kernel
theorem dX7_kindsIn_26 : decode cX7_kindsIn 26 = .ok (.idiv, 1) := by decide +kernel
theorem dX7_kindsIn_27 : decode cX7_kindsIn 27 = .ok (.ishl, 1) := by decide +kernel
theorem dX7_kindsIn_28 : decode cX7_kindsIn 28 = .ok (.ior, 1) := by decide +kernel
theorem dX7_kindsIn_29 : decode cX7_kindsIn 29 = .ok (.istore_n 2, 1) := by decide +kernel
theorem dX7_kindsIn_30 : decode cX7_kindsIn 30 = .ok (.iinc 3 1, 3) := by decide +kernel
theorem dX7_kindsIn_33 : decode cX7_kindsIn 33 = .ok (.goto (-29), 3) := by decide +kernel
theorem dX7_kindsIn_36 : decode cX7_kindsIn 36 = .ok (.iload_n 2, 1) := by decide +kernel
theorem dX7_kindsIn_37 : decode cX7_kindsIn 37 = .ok (.ireturn, 1) := by decide +kernel
set_option maxRecDepth 20000 in
theorem ggX7_repeatOf_X7_dollAt : GoodIn wsX7_repeatOf wsX7_dollAt := goodIn_r _ [6, 1, 7, 8, 9, 10, 11, 12, 13, 14, 15, 16, 17, 18, 19, 20] (by decide +kernel) (by decide +kernel)
set_option maxRecDepth 20000 in
theorem gX7_repeatOf_X7_dollAt : GoodIn wsX7_repeatOf (wsV RX7 57 RX7 yX7_dollAt wsX7_dollAt) := goodIn_app (goodIn_of _ (by decide +kernel)) ggX7_repeatOf_X7_dollAt
theorem dX7_repeatOf_0 : decode cX7_repeatOf 0 = .ok (.iconst 0, 1) := by decide +kernel
theorem dX7_repeatOf_1 : decode cX7_repeatOf 1 = .ok (.istore_n 2, 1) := by decide +kernel
theorem dX7_repeatOf_2 : decode cX7_repeatOf 2 = .ok (.iconst 0, 1) := by decide +kernel
theorem dX7_repeatOf_3 : decode cX7_repeatOf 3 = .ok (.istore_n 3, 1) := by decide +kernel
theorem dX7_repeatOf_4 : decode cX7_repeatOf 4 = .ok (.iload_n 3, 1) := by decide +kernel
theorem dX7_repeatOf_5 : decode cX7_repeatOf 5 = .ok (.ifCond .ne 63, 3) := by decide +kernel
theorem dX7_repeatOf_8 : decode cX7_repeatOf 8 = .ok (.iinc 2 1, 3) := by decide +kernel
theorem dX7_repeatOf_11 : decode cX7_repeatOf 11 = .ok (.iconst 1, 1) := by decide +kernel
theorem dX7_repeatOf_12 : decode cX7_repeatOf 12 = .ok (.istore_n 3, 1) := by decide +kernel
theorem dX7_repeatOf_13 : decode cX7_repeatOf 13 = .ok (.iload_n 2, 1) := by decide +kernel
theorem dX7_repeatOf_14 : decode cX7_repeatOf 14 = .ok (.istore 4, 2) := by decide +kernel
theorem dX7_repeatOf_16 : decode cX7_repeatOf 16 = .ok (.iload 4, 2) := by decide +kernel
theorem dX7_repeatOf_18 : decode cX7_repeatOf 18 = .ok (.aload_n 0, 1) := by decide +kernel
theorem dX7_repeatOf_19 : decode cX7_repeatOf 19 = .ok (.getfield 7, 3) := by decide +kernel
theorem dX7_repeatOf_22 : decode cX7_repeatOf 22 = .ok (.bipush 22, 2) := by decide +kernel
theorem dX7_repeatOf_24 : decode cX7_repeatOf 24 = .ok (.iload_n 1, 1) := by decide +kernel
theorem dX7_repeatOf_25 : decode cX7_repeatOf 25 = .ok (.iadd, 1) := by decide +kernel
theorem dX7_repeatOf_26 : decode cX7_repeatOf 26 = .ok (.iaload, 1) := by decide +kernel
theorem dX7_repeatOf_27 : decode cX7_repeatOf 27 = .ok (.if_icmp .ge 38, 3) := by decide +kernel
theorem dX7_repeatOf_30 : decode cX7_repeatOf 30 = .ok (.iload_n 3, 1) := by decide +kernel
theorem dX7_repeatOf_31 : decode cX7_repeatOf 31 = .ok (.ifCond .eq 26, 3) := by decide +kernel
theorem dX7_repeatOf_34 : decode cX7_repeatOf 34 = .ok (.aload_n 0, 1) := by decide +kernel
theorem dX7_repeatOf_35 : decode cX7_repeatOf 35 = .ok (.iload_n 1, 1) := by decide +kernel
theorem dX7_repeatOf_36 : decode cX7_repeatOf 36 = .ok (.iload 4, 2) := by decide +kernel
theorem dX7_repeatOf_38 : decode cX7_repeatOf 38 = .ok (.invokevirtual 57, 3) := by decide +kernel
theorem dX7_repeatOf_41 : decode cX7_repeatOf 41 = .ok (.aload_n 0, 1) := by decide +kernel
theorem dX7_repeatOf_42 : decode cX7_repeatOf 42 = .ok (.iload_n 1, 1) := by decide +kernel
theorem dX7_repeatOf_43 : decode cX7_repeatOf 43 = .ok (.iload 4, 2) := by decide +kernel
theorem dX7_repeatOf_45 : decode cX7_repeatOf 45 = .ok (.iload_n 2, 1) := by decide +kernel
theorem dX7_repeatOf_46 : decode cX7_repeatOf 46 = .ok (.isub, 1) := by decide +kernel
theorem dX7_repeatOf_47 : decode cX7_repeatOf 47 = .ok (.invokevirtual 57, 3) := by decide +kernel
theorem dX7_repeatOf_50 : decode cX7_repeatOf 50 = .ok (.if_icmp .ne 7, 3) := by decide +kernel
theorem dX7_repeatOf_53 : decode cX7_repeatOf 53 = .ok (.iconst 1, 1) := by decide +kernel
theorem dX7_repeatOf_54 : decode cX7_repeatOf 54 = .ok (.goto 4, 3) := by decide +kernel
theorem dX7_repeatOf_57 : decode cX7_repeatOf 57 = .ok (.iconst 0, 1) := by decide +kernel
theorem dX7_repeatOf_58 : decode cX7_repeatOf 58 = .ok (.istore_n 3, 1) := by decide +kernel
theorem dX7_repeatOf_59 : decode cX7_repeatOf 59 = .ok (.iinc 4 1, 3) := by decide +kernel
theorem dX7_repeatOf_62 : decode cX7_repeatOf 62 = .ok (.goto (-46), 3) := by decide +kernel
theorem dX7_repeatOf_65 : decode cX7_repeatOf 65 = .ok (.goto (-61), 3) := by decide +kernel
theorem dX7_repeatOf_68 : decode cX7_repeatOf 68 = .ok (.iload_n 2, 1) := by decide +kernel
theorem dX7_repeatOf_69 : decode cX7_repeatOf 69 = .ok (.ireturn, 1) := by decide +kernel
set_option maxRecDepth 20000 in
theorem ggX7_firstLike_X7_isLike : GoodIn wsX7_firstLike wsX7_isLike := goodIn_r _ [5, 6, 7, 8, 9, 4, 10, 11, 12, 13, 14, 15, 16, 17, 18, 19, 20, 21, 22, 23, 24, 25, 26, 27, 28] (by decide +kernel) (by decide +kernel)
set_option maxRecDepth 20000 in
theorem gX7_firstLike_X7_isLike : GoodIn wsX7_firstLike (wsV RX7 67 RX7 yX7_isLike wsX7_isLike) := goodIn_app (goodIn_of _ (by decide +kernel)) ggX7_firstLike_X7_isLike
theorem dX7_firstLike_0 : decode cX7_firstLike 0 = .ok (.iconst 0, 1) := by decide +kernel
theorem dX7_firstLike_1 : decode cX7_firstLike 1 = .ok (.istore_n 2, 1) := by decide +kernel
theorem dX7_firstLike_2 : decode cX7_firstLike 2 = .ok (.aload_n 0, 1) := by decide +kernel
theorem dX7_firstLike_3 : decode cX7_firstLike 3 = .ok (.iload_n 2, 1) := by decide +kernel
theorem dX7_firstLike_4 : decode cX7_firstLike 4 = .ok (.iload_n 1, 1) := by decide +kernel
theorem dX7_firstLike_5 : decode cX7_firstLike 5 = .ok (.iconst 0, 1) := by decide +kernel
theorem dX7_firstLike_6 : decode cX7_firstLike 6 = .ok (.invokevirtual 67, 3) := by decide +kernel
