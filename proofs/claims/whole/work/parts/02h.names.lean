theorem dX7_firstLike_9 : decode cX7_firstLike 9 = .ok (.ifCond .ne 19, 3) := by decide +kernel
theorem dX7_firstLike_12 : decode cX7_firstLike 12 = .ok (.aload_n 0, 1) := by decide +kernel
theorem dX7_firstLike_13 : decode cX7_firstLike 13 = .ok (.iload_n 2, 1) := by decide +kernel
theorem dX7_firstLike_14 : decode cX7_firstLike 14 = .ok (.iload_n 1, 1) := by decide +kernel
theorem dX7_firstLike_15 : decode cX7_firstLike 15 = .ok (.iconst 1, 1) := by decide +kernel
theorem dX7_firstLike_16 : decode cX7_firstLike 16 = .ok (.invokevirtual 67, 3) := by decide +kernel
theorem dX7_firstLike_19 : decode cX7_firstLike 19 = .ok (.ifCond .ne 9, 3) := by decide +kernel
theorem dX7_firstLike_22 : decode cX7_firstLike 22 = .ok (.iinc 2 1, 3) := by decide +kernel
theorem dX7_firstLike_25 : decode cX7_firstLike 25 = .ok (.goto (-23), 3) := by decide +kernel
theorem dX7_firstLike_28 : decode cX7_firstLike 28 = .ok (.iload_n 2, 1) := by decide +kernel
theorem dX7_firstLike_29 : decode cX7_firstLike 29 = .ok (.ireturn, 1) := by decide +kernel
set_option maxRecDepth 20000 in
theorem ggX7_garland_X7_isGarland : GoodIn wsX7_garland wsX7_isGarland := goodIn_r _ [6, 7, 1, 8, 9, 5, 10, 51, 52, 53, 54, 55, 56, 57, 58, 59, 60, 61, 62, 63, 64] (by decide +kernel) (by decide +kernel)
set_option maxRecDepth 20000 in
theorem gX7_garland_X7_isGarland : GoodIn wsX7_garland (wsV RX7 103 RX7 yX7_isGarland wsX7_isGarland) := goodIn_app (goodIn_of _ (by decide +kernel)) ggX7_garland_X7_isGarland
set_option maxRecDepth 20000 in
theorem ggX7_garland_X7_dollAt : GoodIn wsX7_garland wsX7_dollAt := goodIn_r _ [14, 1, 51, 52, 53, 54, 55, 56, 57, 58, 59, 60, 61, 62, 63, 64] (by decide +kernel) (by decide +kernel)
set_option maxRecDepth 20000 in
theorem gX7_garland_X7_dollAt : GoodIn wsX7_garland (wsV RX7 57 RX7 yX7_dollAt wsX7_dollAt) := goodIn_app (goodIn_of _ (by decide +kernel)) ggX7_garland_X7_dollAt
set_option maxRecDepth 20000 in
theorem ggX7_garland_X7_handOf : GoodIn wsX7_garland wsX7_handOf := goodIn_r _ [18, 1, 51, 52, 53, 54, 55, 56, 57, 58, 59, 60, 61, 62, 63, 64] (by decide +kernel) (by decide +kernel)
set_option maxRecDepth 20000 in
theorem gX7_garland_X7_handOf : GoodIn wsX7_garland (wsV RX7 51 RX7 yX7_handOf wsX7_handOf) := goodIn_app (goodIn_of _ (by decide +kernel)) ggX7_garland_X7_handOf
set_option maxRecDepth 20000 in
theorem ggX7_garland_X7_last : GoodIn wsX7_garland wsX7_last := goodIn_r _ [22, 1, 11, 12, 13, 5, 14, 51, 52, 53, 54, 55, 56, 57, 58, 59, 60, 61, 62, 63, 64] (by decide +kernel) (by decide +kernel)
set_option maxRecDepth 20000 in
theorem gX7_garland_X7_last : GoodIn wsX7_garland (wsV RX7 106 RX7 yX7_last wsX7_last) := goodIn_app (goodIn_of _ (by decide +kernel)) ggX7_garland_X7_last
set_option maxRecDepth 20000 in
theorem ggX7_garland_X7_mirroredIn : GoodIn wsX7_garland wsX7_mirroredIn := goodIn_r _ [26, 1, 11, 12, 13, 5, 14, 51, 52, 53, 54, 55, 56, 57, 58, 59, 60, 61, 62, 63, 64] (by decide +kernel) (by decide +kernel)
set_option maxRecDepth 20000 in
theorem gX7_garland_X7_mirroredIn : GoodIn wsX7_garland (wsV RX7 116 RX7 yX7_mirroredIn wsX7_mirroredIn) := goodIn_app (goodIn_of _ (by decide +kernel)) ggX7_garland_X7_mirroredIn
set_option maxRecDepth 20000 in
theorem ggX7_garland_X7_kindsIn : GoodIn wsX7_garland wsX7_kindsIn := goodIn_r _ [30, 1, 11, 12, 13, 5, 14, 51, 52, 53, 54, 55, 56, 57, 58, 59, 60, 61, 62, 63, 64] (by decide +kernel) (by decide +kernel)
set_option maxRecDepth 20000 in
theorem gX7_garland_X7_kindsIn : GoodIn wsX7_garland (wsV RX7 154 RX7 yX7_kindsIn wsX7_kindsIn) := goodIn_app (goodIn_of _ (by decide +kernel)) ggX7_garland_X7_kindsIn
set_option maxRecDepth 20000 in
theorem ggX7_garland_X7_isOwnImage : GoodIn wsX7_garland wsX7_isOwnImage := goodIn_r _ [34, 35, 36, 37, 5, 38, 1, 11, 12, 13, 14, 39, 40, 41, 42, 51, 52, 53, 54, 55, 56, 57, 58, 59, 60, 61, 62, 63, 64] (by decide +kernel) (by decide +kernel)
set_option maxRecDepth 20000 in
theorem gX7_garland_X7_isOwnImage : GoodIn wsX7_garland (wsV RX7 113 RX7 yX7_isOwnImage wsX7_isOwnImage) := goodIn_app (goodIn_of _ (by decide +kernel)) ggX7_garland_X7_isOwnImage
set_option maxRecDepth 20000 in
theorem ggX7_garland_X7_repeatOf : GoodIn wsX7_garland wsX7_repeatOf := goodIn_r _ [46, 1, 11, 12, 13, 5, 14, 51, 52, 53, 54, 55, 56, 57, 58, 59, 60, 61, 62, 63, 64] (by decide +kernel) (by decide +kernel)
set_option maxRecDepth 20000 in
theorem gX7_garland_X7_repeatOf : GoodIn wsX7_garland (wsV RX7 157 RX7 yX7_repeatOf wsX7_repeatOf) := goodIn_app (goodIn_of _ (by decide +kernel)) ggX7_garland_X7_repeatOf
set_option maxRecDepth 20000 in
theorem ggX7_garland_X7_firstLike : GoodIn wsX7_garland wsX7_firstLike := goodIn_r _ [50, 35, 36, 37, 5, 38, 1, 11, 12, 13, 14, 39, 40, 41, 42, 51, 52, 53, 54, 55, 56, 57, 58, 59, 60, 61, 62, 63, 64] (by decide +kernel) (by decide +kernel)
set_option maxRecDepth 20000 in
theorem gX7_garland_X7_firstLike : GoodIn wsX7_garland (wsV RX7 160 RX7 yX7_firstLike wsX7_firstLike) := goodIn_app (goodIn_of _ (by decide +kernel)) ggX7_garland_X7_firstLike
theorem dX7_garland_0 : decode cX7_garland 0 = .ok (.aload_n 0, 1) := by decide +kernel
theorem dX7_garland_1 : decode cX7_garland 1 = .ok (.iload_n 1, 1) := by decide +kernel
theorem dX7_garland_2 : decode cX7_garland 2 = .ok (.invokevirtual 103, 3) := by decide +kernel
theorem dX7_garland_5 : decode cX7_garland 5 = .ok (.ifCond .ne 5, 3) := by decide +kernel
theorem dX7_garland_8 : decode cX7_garland 8 = .ok (.iconst (-1), 1) := by decide +kernel
theorem dX7_garland_9 : decode cX7_garland 9 = .ok (.ireturn, 1) := by decide +kernel
theorem dX7_garland_10 : decode cX7_garland 10 = .ok (.iload_n 2, 1) := by decide +kernel
theorem dX7_garland_11 : decode cX7_garland 11 = .ok (.tableswitch 116 0 7 #[45, 55, 67, 78, 84, 90, 104, 110], 45) := by decide +kernel
theorem dX7_garland_56 : decode cX7_garland 56 = .ok (.aload_n 0, 1) := by decide +kernel
theorem dX7_garland_57 : decode cX7_garland 57 = .ok (.getfield 7, 3) := by decide +kernel
theorem dX7_garland_60 : decode cX7_garland 60 = .ok (.bipush 22, 2) := by decide +kernel
theorem dX7_garland_62 : decode cX7_garland 62 = .ok (.iload_n 1, 1) := by decide +kernel
theorem dX7_garland_63 : decode cX7_garland 63 = .ok (.iadd, 1) := by decide +kernel
theorem dX7_garland_64 : decode cX7_garland 64 = .ok (.iaload, 1) := by decide +kernel
theorem dX7_garland_65 : decode cX7_garland 65 = .ok (.ireturn, 1) := by decide +kernel
theorem dX7_garland_66 : decode cX7_garland 66 = .ok (.aload_n 0, 1) := by decide +kernel
theorem dX7_garland_67 : decode cX7_garland 67 = .ok (.aload_n 0, 1) := by decide +kernel
theorem dX7_garland_68 : decode cX7_garland 68 = .ok (.iload_n 1, 1) := by decide +kernel
theorem dX7_garland_69 : decode cX7_garland 69 = .ok (.iconst 0, 1) := by decide +kernel
theorem dX7_garland_70 : decode cX7_garland 70 = .ok (.invokevirtual 57, 3) := by decide +kernel
theorem dX7_garland_73 : decode cX7_garland 73 = .ok (.iconst 0, 1) := by decide +kernel
theorem dX7_garland_74 : decode cX7_garland 74 = .ok (.invokevirtual 51, 3) := by decide +kernel
theorem dX7_garland_77 : decode cX7_garland 77 = .ok (.ireturn, 1) := by decide +kernel
theorem dX7_garland_78 : decode cX7_garland 78 = .ok (.aload_n 0, 1) := by decide +kernel
theorem dX7_garland_79 : decode cX7_garland 79 = .ok (.aload_n 0, 1) := by decide +kernel
theorem dX7_garland_80 : decode cX7_garland 80 = .ok (.iload_n 1, 1) := by decide +kernel
theorem dX7_garland_81 : decode cX7_garland 81 = .ok (.invokevirtual 106, 3) := by decide +kernel
theorem dX7_garland_84 : decode cX7_garland 84 = .ok (.iconst 1, 1) := by decide +kernel
theorem dX7_garland_85 : decode cX7_garland 85 = .ok (.invokevirtual 51, 3) := by decide +kernel
theorem dX7_garland_88 : decode cX7_garland 88 = .ok (.ireturn, 1) := by decide +kernel
theorem dX7_garland_89 : decode cX7_garland 89 = .ok (.aload_n 0, 1) := by decide +kernel
theorem dX7_garland_90 : decode cX7_garland 90 = .ok (.iload_n 1, 1) := by decide +kernel
theorem dX7_garland_91 : decode cX7_garland 91 = .ok (.invokevirtual 116, 3) := by decide +kernel
theorem dX7_garland_94 : decode cX7_garland 94 = .ok (.ireturn, 1) := by decide +kernel
theorem dX7_garland_95 : decode cX7_garland 95 = .ok (.aload_n 0, 1) := by decide +kernel
theorem dX7_garland_96 : decode cX7_garland 96 = .ok (.iload_n 1, 1) := by decide +kernel
theorem dX7_garland_97 : decode cX7_garland 97 = .ok (.invokevirtual 154, 3) := by decide +kernel
theorem dX7_garland_100 : decode cX7_garland 100 = .ok (.ireturn, 1) := by decide +kernel
theorem dX7_garland_101 : decode cX7_garland 101 = .ok (.aload_n 0, 1) := by decide +kernel
theorem dX7_garland_102 : decode cX7_garland 102 = .ok (.iload_n 1, 1) := by decide +kernel
theorem dX7_garland_103 : decode cX7_garland 103 = .ok (.invokevirtual 113, 3) := by decide +kernel
theorem dX7_garland_106 : decode cX7_garland 106 = .ok (.ifCond .eq 7, 3) := by decide +kernel
theorem dX7_garland_109 : decode cX7_garland 109 = .ok (.iconst 1, 1) := by decide +kernel
theorem dX7_garland_110 : decode cX7_garland 110 = .ok (.goto 4, 3) := by decide +kernel
theorem dX7_garland_113 : decode cX7_garland 113 = .ok (.iconst 0, 1) := by decide +kernel
theorem dX7_garland_114 : decode cX7_garland 114 = .ok (.ireturn, 1) := by decide +kernel
theorem dX7_garland_115 : decode cX7_garland 115 = .ok (.aload_n 0, 1) := by decide +kernel
theorem dX7_garland_116 : decode cX7_garland 116 = .ok (.iload_n 1, 1) := by decide +kernel
theorem dX7_garland_117 : decode cX7_garland 117 = .ok (.invokevirtual 157, 3) := by decide +kernel
theorem dX7_garland_120 : decode cX7_garland 120 = .ok (.ireturn, 1) := by decide +kernel
theorem dX7_garland_121 : decode cX7_garland 121 = .ok (.aload_n 0, 1) := by decide +kernel
theorem dX7_garland_122 : decode cX7_garland 122 = .ok (.iload_n 1, 1) := by decide +kernel
theorem dX7_garland_123 : decode cX7_garland 123 = .ok (.invokevirtual 160, 3) := by decide +kernel
theorem dX7_garland_126 : decode cX7_garland 126 = .ok (.ireturn, 1) := by decide +kernel
theorem dX7_garland_127 : decode cX7_garland 127 = .ok (.bipush (-2), 2) := by decide +kernel
theorem dX7_garland_129 : decode cX7_garland 129 = .ok (.ireturn, 1) := by decide +kernel
set_option maxRecDepth 20000 in
theorem ggX7_doll_X7_isGarland : GoodIn wsX7_doll wsX7_isGarland := goodIn_r _ [6, 7, 1, 8, 9, 5, 10, 19, 20, 21, 22, 23, 24, 25, 26, 27, 28, 29, 30, 31, 32] (by decide +kernel) (by decide +kernel)
set_option maxRecDepth 20000 in
theorem gX7_doll_X7_isGarland : GoodIn wsX7_doll (wsV RX7 103 RX7 yX7_isGarland wsX7_isGarland) := goodIn_app (goodIn_of _ (by decide +kernel)) ggX7_doll_X7_isGarland
set_option maxRecDepth 20000 in
theorem ggX7_doll_X7_in : GoodIn wsX7_doll wsX7_in := goodIn_r _ [10] (by decide +kernel) (by decide +kernel)
set_option maxRecDepth 20000 in
theorem gX7_doll_X7_in : GoodIn wsX7_doll (va_wsS RX7 47 yX7_in wsX7_in) := goodIn_app (goodIn_of _ (by decide +kernel)) ggX7_doll_X7_in
set_option maxRecDepth 20000 in
theorem ggX7_doll_X7_dollAt : GoodIn wsX7_doll wsX7_dollAt := goodIn_r _ [14, 1, 19, 20, 21, 22, 23, 24, 25, 26, 27, 28, 29, 30, 31, 32] (by decide +kernel) (by decide +kernel)
set_option maxRecDepth 20000 in
theorem gX7_doll_X7_dollAt : GoodIn wsX7_doll (wsV RX7 57 RX7 yX7_dollAt wsX7_dollAt) := goodIn_app (goodIn_of _ (by decide +kernel)) ggX7_doll_X7_dollAt
set_option maxRecDepth 20000 in
theorem ggX7_doll_X7_handOf : GoodIn wsX7_doll wsX7_handOf := goodIn_r _ [18, 1, 19, 20, 21, 22, 23, 24, 25, 26, 27, 28, 29, 30, 31, 32] (by decide +kernel) (by decide +kernel)
set_option maxRecDepth 20000 in
theorem gX7_doll_X7_handOf : GoodIn wsX7_doll (wsV RX7 51 RX7 yX7_handOf wsX7_handOf) := goodIn_app (goodIn_of _ (by decide +kernel)) ggX7_doll_X7_handOf
theorem dX7_doll_0 : decode cX7_doll 0 = .ok (.aload_n 0, 1) := by decide +kernel
theorem dX7_doll_1 : decode cX7_doll 1 = .ok (.iload_n 1, 1) := by decide +kernel
theorem dX7_doll_2 : decode cX7_doll 2 = .ok (.invokevirtual 103, 3) := by decide +kernel
theorem dX7_doll_5 : decode cX7_doll 5 = .ok (.ifCond .eq 24, 3) := by decide +kernel
theorem dX7_doll_8 : decode cX7_doll 8 = .ok (.iload_n 2, 1) := by decide +kernel
theorem dX7_doll_9 : decode cX7_doll 9 = .ok (.i2l, 1) := by decide +kernel
theorem dX7_doll_10 : decode cX7_doll 10 = .ok (.lconst 0, 1) := by decide +kernel
theorem dX7_doll_11 : decode cX7_doll 11 = .ok (.aload_n 0, 1) := by decide +kernel
theorem dX7_doll_12 : decode cX7_doll 12 = .ok (.getfield 7, 3) := by decide +kernel
theorem dX7_doll_15 : decode cX7_doll 15 = .ok (.bipush 22, 2) := by decide +kernel
theorem dX7_doll_17 : decode cX7_doll 17 = .ok (.iload_n 1, 1) := by decide +kernel
theorem dX7_doll_18 : decode cX7_doll 18 = .ok (.iadd, 1) := by decide +kernel
theorem dX7_doll_19 : decode cX7_doll 19 = .ok (.iaload, 1) := by decide +kernel
theorem dX7_doll_20 : decode cX7_doll 20 = .ok (.i2l, 1) := by decide +kernel
theorem dX7_doll_21 : decode cX7_doll 21 = .ok (.lconst 1, 1) := by decide +kernel
theorem dX7_doll_22 : decode cX7_doll 22 = .ok (.lsub, 1) := by decide +kernel
theorem dX7_doll_23 : decode cX7_doll 23 = .ok (.invokestatic 47, 3) := by decide +kernel
theorem dX7_doll_26 : decode cX7_doll 26 = .ok (.ifCond .ne 5, 3) := by decide +kernel
theorem dX7_doll_29 : decode cX7_doll 29 = .ok (.iconst (-1), 1) := by decide +kernel
theorem dX7_doll_30 : decode cX7_doll 30 = .ok (.ireturn, 1) := by decide +kernel
theorem dX7_doll_31 : decode cX7_doll 31 = .ok (.aload_n 0, 1) := by decide +kernel
theorem dX7_doll_32 : decode cX7_doll 32 = .ok (.iload_n 1, 1) := by decide +kernel
theorem dX7_doll_33 : decode cX7_doll 33 = .ok (.iload_n 2, 1) := by decide +kernel
theorem dX7_doll_34 : decode cX7_doll 34 = .ok (.invokevirtual 57, 3) := by decide +kernel
theorem dX7_doll_37 : decode cX7_doll 37 = .ok (.istore 4, 2) := by decide +kernel
theorem dX7_doll_39 : decode cX7_doll 39 = .ok (.iload_n 3, 1) := by decide +kernel
theorem dX7_doll_40 : decode cX7_doll 40 = .ok (.tableswitch 52 0 3 #[32, 37, 42, 42], 32) := by decide +kernel
theorem dX7_doll_72 : decode cX7_doll 72 = .ok (.iload 4, 2) := by decide +kernel
theorem dX7_doll_74 : decode cX7_doll 74 = .ok (.iconst 2, 1) := by decide +kernel
theorem dX7_doll_75 : decode cX7_doll 75 = .ok (.idiv, 1) := by decide +kernel
theorem dX7_doll_76 : decode cX7_doll 76 = .ok (.ireturn, 1) := by decide +kernel
theorem dX7_doll_77 : decode cX7_doll 77 = .ok (.iload 4, 2) := by decide +kernel
theorem dX7_doll_79 : decode cX7_doll 79 = .ok (.iconst 2, 1) := by decide +kernel
theorem dX7_doll_80 : decode cX7_doll 80 = .ok (.irem, 1) := by decide +kernel
theorem dX7_doll_81 : decode cX7_doll 81 = .ok (.ireturn, 1) := by decide +kernel
theorem dX7_doll_82 : decode cX7_doll 82 = .ok (.aload_n 0, 1) := by decide +kernel
theorem dX7_doll_83 : decode cX7_doll 83 = .ok (.iload 4, 2) := by decide +kernel
theorem dX7_doll_85 : decode cX7_doll 85 = .ok (.iload_n 3, 1) := by decide +kernel
theorem dX7_doll_86 : decode cX7_doll 86 = .ok (.iconst 2, 1) := by decide +kernel
theorem dX7_doll_87 : decode cX7_doll 87 = .ok (.isub, 1) := by decide +kernel
theorem dX7_doll_88 : decode cX7_doll 88 = .ok (.invokevirtual 51, 3) := by decide +kernel
theorem dX7_doll_91 : decode cX7_doll 91 = .ok (.ireturn, 1) := by decide +kernel
theorem dX7_doll_92 : decode cX7_doll 92 = .ok (.bipush (-2), 2) := by decide +kernel
theorem dX7_doll_94 : decode cX7_doll 94 = .ok (.ireturn, 1) := by decide +kernel
set_option maxRecDepth 20000 in
theorem ggX7_reason_X7_isGarland : GoodIn wsX7_reason wsX7_isGarland := goodIn_r _ [6, 7, 1, 8, 9, 5, 10, 27, 28, 29, 30, 31, 32, 33, 34, 35, 36, 37, 38, 39, 40] (by decide +kernel) (by decide +kernel)
set_option maxRecDepth 20000 in
theorem gX7_reason_X7_isGarland : GoodIn wsX7_reason (wsV RX7 103 RX7 yX7_isGarland wsX7_isGarland) := goodIn_app (goodIn_of _ (by decide +kernel)) ggX7_reason_X7_isGarland
set_option maxRecDepth 20000 in
theorem ggX7_reason_X7_last : GoodIn wsX7_reason wsX7_last := goodIn_r _ [14, 1, 15, 16, 17, 5, 18, 27, 28, 29, 30, 31, 32, 33, 34, 35, 36, 37, 38, 39, 40] (by decide +kernel) (by decide +kernel)
set_option maxRecDepth 20000 in
theorem gX7_reason_X7_last : GoodIn wsX7_reason (wsV RX7 106 RX7 yX7_last wsX7_last) := goodIn_app (goodIn_of _ (by decide +kernel)) ggX7_reason_X7_last
set_option maxRecDepth 20000 in
theorem ggX7_reason_X7_dollAt : GoodIn wsX7_reason wsX7_dollAt := goodIn_r _ [18, 1, 27, 28, 29, 30, 31, 32, 33, 34, 35, 36, 37, 38, 39, 40] (by decide +kernel) (by decide +kernel)
set_option maxRecDepth 20000 in
theorem gX7_reason_X7_dollAt : GoodIn wsX7_reason (wsV RX7 57 RX7 yX7_dollAt wsX7_dollAt) := goodIn_app (goodIn_of _ (by decide +kernel)) ggX7_reason_X7_dollAt
set_option maxRecDepth 20000 in
theorem ggX7_reason_X7_clash : GoodIn wsX7_reason wsX7_clash := goodIn_r _ [22, 1, 23, 24, 25, 5, 26, 27, 28, 29, 30, 31, 32, 33, 34, 35, 36, 37, 38, 39, 40] (by decide +kernel) (by decide +kernel)
set_option maxRecDepth 20000 in
theorem gX7_reason_X7_clash : GoodIn wsX7_reason (wsV RX7 60 RX7 yX7_clash wsX7_clash) := goodIn_app (goodIn_of _ (by decide +kernel)) ggX7_reason_X7_clash
theorem dX7_reason_0 : decode cX7_reason 0 = .ok (.aload_n 0, 1) := by decide +kernel
theorem dX7_reason_1 : decode cX7_reason 1 = .ok (.iload_n 1, 1) := by decide +kernel
theorem dX7_reason_2 : decode cX7_reason 2 = .ok (.invokevirtual 103, 3) := by decide +kernel
theorem dX7_reason_5 : decode cX7_reason 5 = .ok (.ifCond .eq 11, 3) := by decide +kernel
theorem dX7_reason_8 : decode cX7_reason 8 = .ok (.aload_n 0, 1) := by decide +kernel
theorem dX7_reason_9 : decode cX7_reason 9 = .ok (.iload_n 2, 1) := by decide +kernel
theorem dX7_reason_10 : decode cX7_reason 10 = .ok (.invokevirtual 103, 3) := by decide +kernel
theorem dX7_reason_13 : decode cX7_reason 13 = .ok (.ifCond .ne 5, 3) := by decide +kernel
theorem dX7_reason_16 : decode cX7_reason 16 = .ok (.iconst (-1), 1) := by decide +kernel
theorem dX7_reason_17 : decode cX7_reason 17 = .ok (.ireturn, 1) := by decide +kernel
theorem dX7_reason_18 : decode cX7_reason 18 = .ok (.iload_n 1, 1) := by decide +kernel
theorem dX7_reason_19 : decode cX7_reason 19 = .ok (.iload_n 2, 1) := by decide +kernel
theorem dX7_reason_20 : decode cX7_reason 20 = .ok (.if_icmp .ne 7, 3) := by decide +kernel
theorem dX7_reason_23 : decode cX7_reason 23 = .ok (.iconst 1, 1) := by decide +kernel
theorem dX7_reason_24 : decode cX7_reason 24 = .ok (.goto 54, 3) := by decide +kernel
theorem dX7_reason_27 : decode cX7_reason 27 = .ok (.aload_n 0, 1) := by decide +kernel
theorem dX7_reason_28 : decode cX7_reason 28 = .ok (.aload_n 0, 1) := by decide +kernel
theorem dX7_reason_29 : decode cX7_reason 29 = .ok (.iload_n 1, 1) := by decide +kernel
theorem dX7_reason_30 : decode cX7_reason 30 = .ok (.invokevirtual 106, 3) := by decide +kernel
theorem dX7_reason_33 : decode cX7_reason 33 = .ok (.aload_n 0, 1) := by decide +kernel
theorem dX7_reason_34 : decode cX7_reason 34 = .ok (.iload_n 2, 1) := by decide +kernel
theorem dX7_reason_35 : decode cX7_reason 35 = .ok (.iconst 0, 1) := by decide +kernel
theorem dX7_reason_36 : decode cX7_reason 36 = .ok (.invokevirtual 57, 3) := by decide +kernel
theorem dX7_reason_39 : decode cX7_reason 39 = .ok (.invokevirtual 60, 3) := by decide +kernel
theorem dX7_reason_42 : decode cX7_reason 42 = .ok (.ifCond .eq 7, 3) := by decide +kernel
theorem dX7_reason_45 : decode cX7_reason 45 = .ok (.iconst 2, 1) := by decide +kernel
theorem dX7_reason_46 : decode cX7_reason 46 = .ok (.goto 32, 3) := by decide +kernel
theorem dX7_reason_49 : decode cX7_reason 49 = .ok (.aload_n 0, 1) := by decide +kernel
theorem dX7_reason_50 : decode cX7_reason 50 = .ok (.getfield 7, 3) := by decide +kernel
theorem dX7_reason_53 : decode cX7_reason 53 = .ok (.bipush 22, 2) := by decide +kernel
theorem dX7_reason_55 : decode cX7_reason 55 = .ok (.iload_n 1, 1) := by decide +kernel
theorem dX7_reason_56 : decode cX7_reason 56 = .ok (.iadd, 1) := by decide +kernel
theorem dX7_reason_57 : decode cX7_reason 57 = .ok (.iaload, 1) := by decide +kernel
theorem dX7_reason_58 : decode cX7_reason 58 = .ok (.aload_n 0, 1) := by decide +kernel
theorem dX7_reason_59 : decode cX7_reason 59 = .ok (.getfield 7, 3) := by decide +kernel
theorem dX7_reason_62 : decode cX7_reason 62 = .ok (.bipush 22, 2) := by decide +kernel
theorem dX7_reason_64 : decode cX7_reason 64 = .ok (.iload_n 2, 1) := by decide +kernel
theorem dX7_reason_65 : decode cX7_reason 65 = .ok (.iadd, 1) := by decide +kernel
theorem dX7_reason_66 : decode cX7_reason 66 = .ok (.iaload, 1) := by decide +kernel
theorem dX7_reason_67 : decode cX7_reason 67 = .ok (.iadd, 1) := by decide +kernel
theorem dX7_reason_68 : decode cX7_reason 68 = .ok (.bipush 32, 2) := by decide +kernel
theorem dX7_reason_70 : decode cX7_reason 70 = .ok (.if_icmp .le 7, 3) := by decide +kernel
theorem dX7_reason_73 : decode cX7_reason 73 = .ok (.iconst 3, 1) := by decide +kernel
theorem dX7_reason_74 : decode cX7_reason 74 = .ok (.goto 4, 3) := by decide +kernel
theorem dX7_reason_77 : decode cX7_reason 77 = .ok (.iconst 0, 1) := by decide +kernel
theorem dX7_reason_78 : decode cX7_reason 78 = .ok (.ireturn, 1) := by decide +kernel
set_option maxRecDepth 20000 in
theorem ggX7_between_X7_isGarland : GoodIn wsX7_between wsX7_isGarland := goodIn_r _ [7, 8, 1, 9, 10, 6, 11, 28, 29, 30, 31, 32, 33, 34, 35, 36, 37, 38, 39, 40, 41] (by decide +kernel) (by decide +kernel)
set_option maxRecDepth 20000 in
theorem gX7_between_X7_isGarland : GoodIn wsX7_between (wsV RX7 103 RX7 yX7_isGarland wsX7_isGarland) := goodIn_app (goodIn_of _ (by decide +kernel)) ggX7_between_X7_isGarland
set_option maxRecDepth 20000 in
theorem ggX7_between_X7_last : GoodIn wsX7_between wsX7_last := goodIn_r _ [15, 1, 16, 17, 18, 6, 19, 28, 29, 30, 31, 32, 33, 34, 35, 36, 37, 38, 39, 40, 41] (by decide +kernel) (by decide +kernel)
set_option maxRecDepth 20000 in
theorem gX7_between_X7_last : GoodIn wsX7_between (wsV RX7 106 RX7 yX7_last wsX7_last) := goodIn_app (goodIn_of _ (by decide +kernel)) ggX7_between_X7_last
set_option maxRecDepth 20000 in
theorem ggX7_between_X7_dollAt : GoodIn wsX7_between wsX7_dollAt := goodIn_r _ [19, 1, 28, 29, 30, 31, 32, 33, 34, 35, 36, 37, 38, 39, 40, 41] (by decide +kernel) (by decide +kernel)
set_option maxRecDepth 20000 in
theorem gX7_between_X7_dollAt : GoodIn wsX7_between (wsV RX7 57 RX7 yX7_dollAt wsX7_dollAt) := goodIn_app (goodIn_of _ (by decide +kernel)) ggX7_between_X7_dollAt
set_option maxRecDepth 20000 in
theorem ggX7_between_X7_clash : GoodIn wsX7_between wsX7_clash := goodIn_r _ [23, 1, 24, 25, 26, 6, 27, 28, 29, 30, 31, 32, 33, 34, 35, 36, 37, 38, 39, 40, 41] (by decide +kernel) (by decide +kernel)
set_option maxRecDepth 20000 in
theorem gX7_between_X7_clash : GoodIn wsX7_between (wsV RX7 60 RX7 yX7_clash wsX7_clash) := goodIn_app (goodIn_of _ (by decide +kernel)) ggX7_between_X7_clash
theorem dX7_between_0 : decode cX7_between 0 = .ok (.aload_n 0, 1) := by decide +kernel
theorem dX7_between_1 : decode cX7_between 1 = .ok (.iload_n 1, 1) := by decide +kernel
theorem dX7_between_2 : decode cX7_between 2 = .ok (.invokevirtual 103, 3) := by decide +kernel
theorem dX7_between_5 : decode cX7_between 5 = .ok (.ifCond .eq 11, 3) := by decide +kernel
theorem dX7_between_8 : decode cX7_between 8 = .ok (.aload_n 0, 1) := by decide +kernel
theorem dX7_between_9 : decode cX7_between 9 = .ok (.iload_n 2, 1) := by decide +kernel
theorem dX7_between_10 : decode cX7_between 10 = .ok (.invokevirtual 103, 3) := by decide +kernel
theorem dX7_between_13 : decode cX7_between 13 = .ok (.ifCond .ne 5, 3) := by decide +kernel
theorem dX7_between_16 : decode cX7_between 16 = .ok (.iconst (-1), 1) := by decide +kernel
theorem dX7_between_17 : decode cX7_between 17 = .ok (.ireturn, 1) := by decide +kernel
theorem dX7_between_18 : decode cX7_between 18 = .ok (.aload_n 0, 1) := by decide +kernel
theorem dX7_between_19 : decode cX7_between 19 = .ok (.iload_n 1, 1) := by decide +kernel
theorem dX7_between_20 : decode cX7_between 20 = .ok (.invokevirtual 106, 3) := by decide +kernel
theorem dX7_between_23 : decode cX7_between 23 = .ok (.istore_n 3, 1) := by decide +kernel
theorem dX7_between_24 : decode cX7_between 24 = .ok (.aload_n 0, 1) := by decide +kernel
theorem dX7_between_25 : decode cX7_between 25 = .ok (.iload_n 2, 1) := by decide +kernel
theorem dX7_between_26 : decode cX7_between 26 = .ok (.iconst 0, 1) := by decide +kernel
theorem dX7_between_27 : decode cX7_between 27 = .ok (.invokevirtual 57, 3) := by decide +kernel
theorem dX7_between_30 : decode cX7_between 30 = .ok (.istore 4, 2) := by decide +kernel
theorem dX7_between_32 : decode cX7_between 32 = .ok (.aload_n 0, 1) := by decide +kernel
theorem dX7_between_33 : decode cX7_between 33 = .ok (.iload_n 3, 1) := by decide +kernel
theorem dX7_between_34 : decode cX7_between 34 = .ok (.iload 4, 2) := by decide +kernel
theorem dX7_between_36 : decode cX7_between 36 = .ok (.invokevirtual 60, 3) := by decide +kernel
theorem dX7_between_39 : decode cX7_between 39 = .ok (.ifCond .ne 5, 3) := by decide +kernel
theorem dX7_between_42 : decode cX7_between 42 = .ok (.iconst 0, 1) := by decide +kernel
theorem dX7_between_43 : decode cX7_between 43 = .ok (.ireturn, 1) := by decide +kernel
theorem dX7_between_44 : decode cX7_between 44 = .ok (.iconst 2, 1) := by decide +kernel
theorem dX7_between_45 : decode cX7_between 45 = .ok (.aload_n 0, 1) := by decide +kernel
theorem dX7_between_46 : decode cX7_between 46 = .ok (.getfield 7, 3) := by decide +kernel
theorem dX7_between_49 : decode cX7_between 49 = .ok (.iconst 1, 1) := by decide +kernel
theorem dX7_between_50 : decode cX7_between 50 = .ok (.iaload, 1) := by decide +kernel
theorem dX7_between_51 : decode cX7_between 51 = .ok (.imul, 1) := by decide +kernel
theorem dX7_between_52 : decode cX7_between 52 = .ok (.istore 5, 2) := by decide +kernel
theorem dX7_between_54 : decode cX7_between 54 = .ok (.iconst 0, 1) := by decide +kernel
theorem dX7_between_55 : decode cX7_between 55 = .ok (.istore 6, 2) := by decide +kernel
theorem dX7_between_57 : decode cX7_between 57 = .ok (.iload 6, 2) := by decide +kernel
theorem dX7_between_59 : decode cX7_between 59 = .ok (.iload 5, 2) := by decide +kernel
theorem dX7_between_61 : decode cX7_between 61 = .ok (.if_icmp .ge 32, 3) := by decide +kernel
theorem dX7_between_64 : decode cX7_between 64 = .ok (.aload_n 0, 1) := by decide +kernel
theorem dX7_between_65 : decode cX7_between 65 = .ok (.getfield 28, 3) := by decide +kernel
theorem dX7_between_68 : decode cX7_between 68 = .ok (.iload 6, 2) := by decide +kernel
theorem dX7_between_70 : decode cX7_between 70 = .ok (.aload_n 0, 1) := by decide +kernel
theorem dX7_between_71 : decode cX7_between 71 = .ok (.iload_n 3, 1) := by decide +kernel
theorem dX7_between_72 : decode cX7_between 72 = .ok (.iload 6, 2) := by decide +kernel
theorem dX7_between_74 : decode cX7_between 74 = .ok (.invokevirtual 60, 3) := by decide +kernel
theorem dX7_between_77 : decode cX7_between 77 = .ok (.ifCond .eq 8, 3) := by decide +kernel
theorem dX7_between_80 : decode cX7_between 80 = .ok (.bipush (-5), 2) := by decide +kernel
theorem dX7_between_82 : decode cX7_between 82 = .ok (.goto 4, 3) := by decide +kernel
theorem dX7_between_85 : decode cX7_between 85 = .ok (.iconst 1, 1) := by decide +kernel
theorem dX7_between_86 : decode cX7_between 86 = .ok (.iastore, 1) := by decide +kernel
theorem dX7_between_87 : decode cX7_between 87 = .ok (.iinc 6 1, 3) := by decide +kernel
theorem dX7_between_90 : decode cX7_between 90 = .ok (.goto (-33), 3) := by decide +kernel
theorem dX7_between_93 : decode cX7_between 93 = .ok (.iconst 1, 1) := by decide +kernel
theorem dX7_between_94 : decode cX7_between 94 = .ok (.istore 6, 2) := by decide +kernel
theorem dX7_between_96 : decode cX7_between 96 = .ok (.iload 6, 2) := by decide +kernel
theorem dX7_between_98 : decode cX7_between 98 = .ok (.iload 5, 2) := by decide +kernel
theorem dX7_between_100 : decode cX7_between 100 = .ok (.if_icmp .gt 140, 3) := by decide +kernel
theorem dX7_between_103 : decode cX7_between 103 = .ok (.iconst 0, 1) := by decide +kernel
theorem dX7_between_104 : decode cX7_between 104 = .ok (.istore 7, 2) := by decide +kernel
theorem dX7_between_106 : decode cX7_between 106 = .ok (.iload 7, 2) := by decide +kernel
theorem dX7_between_108 : decode cX7_between 108 = .ok (.iload 5, 2) := by decide +kernel
theorem dX7_between_110 : decode cX7_between 110 = .ok (.if_icmp .ge 35, 3) := by decide +kernel
theorem dX7_between_113 : decode cX7_between 113 = .ok (.aload_n 0, 1) := by decide +kernel
theorem dX7_between_114 : decode cX7_between 114 = .ok (.getfield 28, 3) := by decide +kernel
theorem dX7_between_117 : decode cX7_between 117 = .ok (.iload 7, 2) := by decide +kernel
theorem dX7_between_119 : decode cX7_between 119 = .ok (.iaload, 1) := by decide +kernel
theorem dX7_between_120 : decode cX7_between 120 = .ok (.iload 6, 2) := by decide +kernel
theorem dX7_between_122 : decode cX7_between 122 = .ok (.if_icmp .ne 17, 3) := by decide +kernel
theorem dX7_between_125 : decode cX7_between 125 = .ok (.aload_n 0, 1) := by decide +kernel
theorem dX7_between_126 : decode cX7_between 126 = .ok (.iload 7, 2) := by decide +kernel
theorem dX7_between_128 : decode cX7_between 128 = .ok (.iload 4, 2) := by decide +kernel
theorem dX7_between_130 : decode cX7_between 130 = .ok (.invokevirtual 60, 3) := by decide +kernel
theorem dX7_between_133 : decode cX7_between 133 = .ok (.ifCond .ne 6, 3) := by decide +kernel
theorem dX7_between_136 : decode cX7_between 136 = .ok (.iload 6, 2) := by decide +kernel
theorem dX7_between_138 : decode cX7_between 138 = .ok (.ireturn, 1) := by decide +kernel
theorem dX7_between_139 : decode cX7_between 139 = .ok (.iinc 7 1, 3) := by decide +kernel
theorem dX7_between_142 : decode cX7_between 142 = .ok (.goto (-36), 3) := by decide +kernel
theorem dX7_between_145 : decode cX7_between 145 = .ok (.iconst 0, 1) := by decide +kernel
theorem dX7_between_146 : decode cX7_between 146 = .ok (.istore 7, 2) := by decide +kernel
theorem dX7_between_148 : decode cX7_between 148 = .ok (.iload 7, 2) := by decide +kernel
theorem dX7_between_150 : decode cX7_between 150 = .ok (.iload 5, 2) := by decide +kernel
theorem dX7_between_152 : decode cX7_between 152 = .ok (.iload 5, 2) := by decide +kernel
theorem dX7_between_154 : decode cX7_between 154 = .ok (.imul, 1) := by decide +kernel
theorem dX7_between_155 : decode cX7_between 155 = .ok (.if_icmp .ge 79, 3) := by decide +kernel
theorem dX7_between_158 : decode cX7_between 158 = .ok (.iload 7, 2) := by decide +kernel
theorem dX7_between_160 : decode cX7_between 160 = .ok (.iload 5, 2) := by decide +kernel
theorem dX7_between_162 : decode cX7_between 162 = .ok (.idiv, 1) := by decide +kernel
theorem dX7_between_163 : decode cX7_between 163 = .ok (.istore 8, 2) := by decide +kernel
theorem dX7_between_165 : decode cX7_between 165 = .ok (.iload 7, 2) := by decide +kernel
theorem dX7_between_167 : decode cX7_between 167 = .ok (.iload 5, 2) := by decide +kernel
theorem dX7_between_169 : decode cX7_between 169 = .ok (.irem, 1) := by decide +kernel
theorem dX7_between_170 : decode cX7_between 170 = .ok (.istore 9, 2) := by decide +kernel
theorem dX7_between_172 : decode cX7_between 172 = .ok (.aload_n 0, 1) := by decide +kernel
theorem dX7_between_173 : decode cX7_between 173 = .ok (.getfield 28, 3) := by decide +kernel
theorem dX7_between_176 : decode cX7_between 176 = .ok (.iload 9, 2) := by decide +kernel
theorem dX7_between_178 : decode cX7_between 178 = .ok (.aload_n 0, 1) := by decide +kernel
theorem dX7_between_179 : decode cX7_between 179 = .ok (.getfield 28, 3) := by decide +kernel
theorem dX7_between_182 : decode cX7_between 182 = .ok (.iload 8, 2) := by decide +kernel
theorem dX7_between_184 : decode cX7_between 184 = .ok (.iaload, 1) := by decide +kernel
theorem dX7_between_185 : decode cX7_between 185 = .ok (.iload 6, 2) := by decide +kernel
theorem dX7_between_187 : decode cX7_between 187 = .ok (.if_icmp .ne 33, 3) := by decide +kernel
theorem dX7_between_190 : decode cX7_between 190 = .ok (.aload_n 0, 1) := by decide +kernel
theorem dX7_between_191 : decode cX7_between 191 = .ok (.getfield 28, 3) := by decide +kernel
theorem dX7_between_194 : decode cX7_between 194 = .ok (.iload 9, 2) := by decide +kernel
theorem dX7_between_196 : decode cX7_between 196 = .ok (.iaload, 1) := by decide +kernel
theorem dX7_between_197 : decode cX7_between 197 = .ok (.bipush (-5), 2) := by decide +kernel
theorem dX7_between_199 : decode cX7_between 199 = .ok (.if_icmp .ne 21, 3) := by decide +kernel
theorem dX7_between_202 : decode cX7_between 202 = .ok (.aload_n 0, 1) := by decide +kernel
theorem dX7_between_203 : decode cX7_between 203 = .ok (.iload 8, 2) := by decide +kernel
theorem dX7_between_205 : decode cX7_between 205 = .ok (.iload 9, 2) := by decide +kernel
theorem dX7_between_207 : decode cX7_between 207 = .ok (.invokevirtual 60, 3) := by decide +kernel
theorem dX7_between_210 : decode cX7_between 210 = .ok (.ifCond .ne 10, 3) := by decide +kernel
theorem dX7_between_213 : decode cX7_between 213 = .ok (.iload 6, 2) := by decide +kernel
theorem dX7_between_215 : decode cX7_between 215 = .ok (.iconst 1, 1) := by decide +kernel
theorem dX7_between_216 : decode cX7_between 216 = .ok (.iadd, 1) := by decide +kernel
theorem dX7_between_217 : decode cX7_between 217 = .ok (.goto 10, 3) := by decide +kernel
theorem dX7_between_220 : decode cX7_between 220 = .ok (.aload_n 0, 1) := by decide +kernel
theorem dX7_between_221 : decode cX7_between 221 = .ok (.getfield 28, 3) := by decide +kernel
theorem dX7_between_224 : decode cX7_between 224 = .ok (.iload 9, 2) := by decide +kernel
theorem dX7_between_226 : decode cX7_between 226 = .ok (.iaload, 1) := by decide +kernel
theorem dX7_between_227 : decode cX7_between 227 = .ok (.iastore, 1) := by decide +kernel
theorem dX7_between_228 : decode cX7_between 228 = .ok (.iinc 7 1, 3) := by decide +kernel
theorem dX7_between_231 : decode cX7_between 231 = .ok (.goto (-83), 3) := by decide +kernel
theorem dX7_between_234 : decode cX7_between 234 = .ok (.iinc 6 1, 3) := by decide +kernel
theorem dX7_between_237 : decode cX7_between 237 = .ok (.goto (-141), 3) := by decide +kernel
theorem dX7_between_240 : decode cX7_between 240 = .ok (.bipush (-5), 2) := by decide +kernel
theorem dX7_between_242 : decode cX7_between 242 = .ok (.ireturn, 1) := by decide +kernel
set_option maxRecDepth 20000 in
theorem ggX7_counts_X7_clash : GoodIn wsX7_counts wsX7_clash := goodIn_r _ [8, 1, 9, 10, 11, 7, 12, 13, 14, 15, 16, 17, 18, 19, 20, 21, 22, 23, 24, 25, 26] (by decide +kernel) (by decide +kernel)
set_option maxRecDepth 20000 in
theorem gX7_counts_X7_clash : GoodIn wsX7_counts (wsV RX7 60 RX7 yX7_clash wsX7_clash) := goodIn_app (goodIn_of _ (by decide +kernel)) ggX7_counts_X7_clash
theorem dX7_counts_0 : decode cX7_counts 0 = .ok (.iconst 2, 1) := by decide +kernel
theorem dX7_counts_1 : decode cX7_counts 1 = .ok (.aload_n 0, 1) := by decide +kernel
theorem dX7_counts_2 : decode cX7_counts 2 = .ok (.getfield 7, 3) := by decide +kernel
theorem dX7_counts_5 : decode cX7_counts 5 = .ok (.iconst 1, 1) := by decide +kernel
theorem dX7_counts_6 : decode cX7_counts 6 = .ok (.iaload, 1) := by decide +kernel
theorem dX7_counts_7 : decode cX7_counts 7 = .ok (.imul, 1) := by decide +kernel
theorem dX7_counts_8 : decode cX7_counts 8 = .ok (.istore_n 2, 1) := by decide +kernel
theorem dX7_counts_9 : decode cX7_counts 9 = .ok (.iconst 0, 1) := by decide +kernel
theorem dX7_counts_10 : decode cX7_counts 10 = .ok (.istore_n 3, 1) := by decide +kernel
theorem dX7_counts_11 : decode cX7_counts 11 = .ok (.iload_n 3, 1) := by decide +kernel
theorem dX7_counts_12 : decode cX7_counts 12 = .ok (.iload_n 2, 1) := by decide +kernel
theorem dX7_counts_13 : decode cX7_counts 13 = .ok (.if_icmp .ge 16, 3) := by decide +kernel
theorem dX7_counts_16 : decode cX7_counts 16 = .ok (.aload_n 0, 1) := by decide +kernel
theorem dX7_counts_17 : decode cX7_counts 17 = .ok (.getfield 31, 3) := by decide +kernel
theorem dX7_counts_20 : decode cX7_counts 20 = .ok (.iload_n 3, 1) := by decide +kernel
theorem dX7_counts_21 : decode cX7_counts 21 = .ok (.iconst 1, 1) := by decide +kernel
theorem dX7_counts_22 : decode cX7_counts 22 = .ok (.iastore, 1) := by decide +kernel
theorem dX7_counts_23 : decode cX7_counts 23 = .ok (.iinc 3 1, 3) := by decide +kernel
theorem dX7_counts_26 : decode cX7_counts 26 = .ok (.goto (-15), 3) := by decide +kernel
theorem dX7_counts_29 : decode cX7_counts 29 = .ok (.iconst 1, 1) := by decide +kernel
theorem dX7_counts_30 : decode cX7_counts 30 = .ok (.istore_n 3, 1) := by decide +kernel
theorem dX7_counts_31 : decode cX7_counts 31 = .ok (.iload_n 3, 1) := by decide +kernel
theorem dX7_counts_32 : decode cX7_counts 32 = .ok (.iload_n 1, 1) := by decide +kernel
theorem dX7_counts_33 : decode cX7_counts 33 = .ok (.if_icmp .ge 108, 3) := by decide +kernel
theorem dX7_counts_36 : decode cX7_counts 36 = .ok (.iconst 0, 1) := by decide +kernel
theorem dX7_counts_37 : decode cX7_counts 37 = .ok (.istore 4, 2) := by decide +kernel
theorem dX7_counts_39 : decode cX7_counts 39 = .ok (.iload 4, 2) := by decide +kernel
theorem dX7_counts_41 : decode cX7_counts 41 = .ok (.iload_n 2, 1) := by decide +kernel
theorem dX7_counts_42 : decode cX7_counts 42 = .ok (.if_icmp .ge 64, 3) := by decide +kernel
theorem dX7_counts_45 : decode cX7_counts 45 = .ok (.aload_n 0, 1) := by decide +kernel
theorem dX7_counts_46 : decode cX7_counts 46 = .ok (.getfield 34, 3) := by decide +kernel
theorem dX7_counts_49 : decode cX7_counts 49 = .ok (.iload 4, 2) := by decide +kernel
theorem dX7_counts_51 : decode cX7_counts 51 = .ok (.iconst 0, 1) := by decide +kernel
theorem dX7_counts_52 : decode cX7_counts 52 = .ok (.iastore, 1) := by decide +kernel
theorem dX7_counts_53 : decode cX7_counts 53 = .ok (.iconst 0, 1) := by decide +kernel
theorem dX7_counts_54 : decode cX7_counts 54 = .ok (.istore 5, 2) := by decide +kernel
theorem dX7_counts_56 : decode cX7_counts 56 = .ok (.iload 5, 2) := by decide +kernel
theorem dX7_counts_58 : decode cX7_counts 58 = .ok (.iload_n 2, 1) := by decide +kernel
theorem dX7_counts_59 : decode cX7_counts 59 = .ok (.if_icmp .ge 41, 3) := by decide +kernel
theorem dX7_counts_62 : decode cX7_counts 62 = .ok (.aload_n 0, 1) := by decide +kernel
theorem dX7_counts_63 : decode cX7_counts 63 = .ok (.getfield 34, 3) := by decide +kernel
theorem dX7_counts_66 : decode cX7_counts 66 = .ok (.iload 4, 2) := by decide +kernel
theorem dX7_counts_68 : decode cX7_counts 68 = .ok (.dup2, 1) := by decide +kernel
theorem dX7_counts_69 : decode cX7_counts 69 = .ok (.iaload, 1) := by decide +kernel
theorem dX7_counts_70 : decode cX7_counts 70 = .ok (.aload_n 0, 1) := by decide +kernel
theorem dX7_counts_71 : decode cX7_counts 71 = .ok (.iload 5, 2) := by decide +kernel
theorem dX7_counts_73 : decode cX7_counts 73 = .ok (.iload 4, 2) := by decide +kernel
theorem dX7_counts_75 : decode cX7_counts 75 = .ok (.invokevirtual 60, 3) := by decide +kernel
theorem dX7_counts_78 : decode cX7_counts 78 = .ok (.ifCond .eq 7, 3) := by decide +kernel
theorem dX7_counts_81 : decode cX7_counts 81 = .ok (.iconst 0, 1) := by decide +kernel
theorem dX7_counts_82 : decode cX7_counts 82 = .ok (.goto 10, 3) := by decide +kernel
theorem dX7_counts_85 : decode cX7_counts 85 = .ok (.aload_n 0, 1) := by decide +kernel
theorem dX7_counts_86 : decode cX7_counts 86 = .ok (.getfield 31, 3) := by decide +kernel
theorem dX7_counts_89 : decode cX7_counts 89 = .ok (.iload 5, 2) := by decide +kernel
theorem dX7_counts_91 : decode cX7_counts 91 = .ok (.iaload, 1) := by decide +kernel
theorem dX7_counts_92 : decode cX7_counts 92 = .ok (.iadd, 1) := by decide +kernel
theorem dX7_counts_93 : decode cX7_counts 93 = .ok (.iastore, 1) := by decide +kernel
theorem dX7_counts_94 : decode cX7_counts 94 = .ok (.iinc 5 1, 3) := by decide +kernel
theorem dX7_counts_97 : decode cX7_counts 97 = .ok (.goto (-41), 3) := by decide +kernel
theorem dX7_counts_100 : decode cX7_counts 100 = .ok (.iinc 4 1, 3) := by decide +kernel
theorem dX7_counts_103 : decode cX7_counts 103 = .ok (.goto (-64), 3) := by decide +kernel
theorem dX7_counts_106 : decode cX7_counts 106 = .ok (.iconst 0, 1) := by decide +kernel
theorem dX7_counts_107 : decode cX7_counts 107 = .ok (.istore 4, 2) := by decide +kernel
theorem dX7_counts_109 : decode cX7_counts 109 = .ok (.iload 4, 2) := by decide +kernel
theorem dX7_counts_111 : decode cX7_counts 111 = .ok (.iload_n 2, 1) := by decide +kernel
theorem dX7_counts_112 : decode cX7_counts 112 = .ok (.if_icmp .ge 23, 3) := by decide +kernel
theorem dX7_counts_115 : decode cX7_counts 115 = .ok (.aload_n 0, 1) := by decide +kernel
theorem dX7_counts_116 : decode cX7_counts 116 = .ok (.getfield 31, 3) := by decide +kernel
theorem dX7_counts_119 : decode cX7_counts 119 = .ok (.iload 4, 2) := by decide +kernel
theorem dX7_counts_121 : decode cX7_counts 121 = .ok (.aload_n 0, 1) := by decide +kernel
theorem dX7_counts_122 : decode cX7_counts 122 = .ok (.getfield 34, 3) := by decide +kernel
theorem dX7_counts_125 : decode cX7_counts 125 = .ok (.iload 4, 2) := by decide +kernel
theorem dX7_counts_127 : decode cX7_counts 127 = .ok (.iaload, 1) := by decide +kernel
theorem dX7_counts_128 : decode cX7_counts 128 = .ok (.iastore, 1) := by decide +kernel
theorem dX7_counts_129 : decode cX7_counts 129 = .ok (.iinc 4 1, 3) := by decide +kernel
theorem dX7_counts_132 : decode cX7_counts 132 = .ok (.goto (-23), 3) := by decide +kernel
theorem dX7_counts_135 : decode cX7_counts 135 = .ok (.iinc 3 1, 3) := by decide +kernel
theorem dX7_counts_138 : decode cX7_counts 138 = .ok (.goto (-107), 3) := by decide +kernel
theorem dX7_counts_141 : decode cX7_counts 141 = .ok (.return_, 1) := by decide +kernel
set_option maxRecDepth 20000 in
theorem ggX7_allOf_X7_counts : GoodIn wsX7_allOf wsX7_counts := goodIn_r _ [7, 1, 2, 8, 9, 10, 11, 6, 12, 13, 14, 15, 16, 17, 18, 19, 20, 21, 22, 23, 24, 25, 26, 27, 28, 29, 30] (by decide +kernel) (by decide +kernel)
set_option maxRecDepth 20000 in
theorem gX7_allOf_X7_counts : GoodIn wsX7_allOf (wsV RX7 163 RX7 yX7_counts wsX7_counts) := goodIn_app (goodIn_of _ (by decide +kernel)) ggX7_allOf_X7_counts
theorem dX7_allOf_0 : decode cX7_allOf 0 = .ok (.aload_n 0, 1) := by decide +kernel
theorem dX7_allOf_1 : decode cX7_allOf 1 = .ok (.iload_n 1, 1) := by decide +kernel
theorem dX7_allOf_2 : decode cX7_allOf 2 = .ok (.invokevirtual 163, 3) := by decide +kernel
theorem dX7_allOf_5 : decode cX7_allOf 5 = .ok (.iconst 0, 1) := by decide +kernel
theorem dX7_allOf_6 : decode cX7_allOf 6 = .ok (.istore_n 2, 1) := by decide +kernel
theorem dX7_allOf_7 : decode cX7_allOf 7 = .ok (.iconst 0, 1) := by decide +kernel
theorem dX7_allOf_8 : decode cX7_allOf 8 = .ok (.istore_n 3, 1) := by decide +kernel
theorem dX7_allOf_9 : decode cX7_allOf 9 = .ok (.iload_n 3, 1) := by decide +kernel
theorem dX7_allOf_10 : decode cX7_allOf 10 = .ok (.iconst 2, 1) := by decide +kernel
theorem dX7_allOf_11 : decode cX7_allOf 11 = .ok (.aload_n 0, 1) := by decide +kernel
theorem dX7_allOf_12 : decode cX7_allOf 12 = .ok (.getfield 7, 3) := by decide +kernel
theorem dX7_allOf_15 : decode cX7_allOf 15 = .ok (.iconst 1, 1) := by decide +kernel
theorem dX7_allOf_16 : decode cX7_allOf 16 = .ok (.iaload, 1) := by decide +kernel
theorem dX7_allOf_17 : decode cX7_allOf 17 = .ok (.imul, 1) := by decide +kernel
theorem dX7_allOf_18 : decode cX7_allOf 18 = .ok (.if_icmp .ge 18, 3) := by decide +kernel
theorem dX7_allOf_21 : decode cX7_allOf 21 = .ok (.iload_n 2, 1) := by decide +kernel
theorem dX7_allOf_22 : decode cX7_allOf 22 = .ok (.aload_n 0, 1) := by decide +kernel
theorem dX7_allOf_23 : decode cX7_allOf 23 = .ok (.getfield 31, 3) := by decide +kernel
theorem dX7_allOf_26 : decode cX7_allOf 26 = .ok (.iload_n 3, 1) := by decide +kernel
theorem dX7_allOf_27 : decode cX7_allOf 27 = .ok (.iaload, 1) := by decide +kernel
theorem dX7_allOf_28 : decode cX7_allOf 28 = .ok (.iadd, 1) := by decide +kernel
theorem dX7_allOf_29 : decode cX7_allOf 29 = .ok (.istore_n 2, 1) := by decide +kernel
theorem dX7_allOf_30 : decode cX7_allOf 30 = .ok (.iinc 3 1, 3) := by decide +kernel
theorem dX7_allOf_33 : decode cX7_allOf 33 = .ok (.goto (-24), 3) := by decide +kernel
theorem dX7_allOf_36 : decode cX7_allOf 36 = .ok (.iload_n 2, 1) := by decide +kernel
theorem dX7_allOf_37 : decode cX7_allOf 37 = .ok (.ireturn, 1) := by decide +kernel
set_option maxRecDepth 20000 in
theorem ggX7_ownImages_X7_counts : GoodIn wsX7_ownImages wsX7_counts := goodIn_r _ [7, 1, 2, 8, 9, 10, 11, 6, 12, 13, 14, 15, 16, 17, 18, 19, 20, 21, 22, 23, 24, 25, 26, 27, 28, 29, 30] (by decide +kernel) (by decide +kernel)
set_option maxRecDepth 20000 in
theorem gX7_ownImages_X7_counts : GoodIn wsX7_ownImages (wsV RX7 163 RX7 yX7_counts wsX7_counts) := goodIn_app (goodIn_of _ (by decide +kernel)) ggX7_ownImages_X7_counts
set_option maxRecDepth 20000 in
theorem ggX7_ownImages_X7_clash : GoodIn wsX7_ownImages wsX7_clash := goodIn_r _ [12, 1, 13, 14, 15, 6, 16, 17, 18, 19, 20, 21, 22, 23, 24, 25, 26, 27, 28, 29, 30] (by decide +kernel) (by decide +kernel)
set_option maxRecDepth 20000 in
theorem gX7_ownImages_X7_clash : GoodIn wsX7_ownImages (wsV RX7 60 RX7 yX7_clash wsX7_clash) := goodIn_app (goodIn_of _ (by decide +kernel)) ggX7_ownImages_X7_clash
theorem dX7_ownImages_0 : decode cX7_ownImages 0 = .ok (.iload_n 1, 1) := by decide +kernel
theorem dX7_ownImages_1 : decode cX7_ownImages 1 = .ok (.iconst 2, 1) := by decide +kernel
theorem dX7_ownImages_2 : decode cX7_ownImages 2 = .ok (.irem, 1) := by decide +kernel
theorem dX7_ownImages_3 : decode cX7_ownImages 3 = .ok (.iconst 1, 1) := by decide +kernel
theorem dX7_ownImages_4 : decode cX7_ownImages 4 = .ok (.if_icmp .ne 5, 3) := by decide +kernel
theorem dX7_ownImages_7 : decode cX7_ownImages 7 = .ok (.iconst 0, 1) := by decide +kernel
theorem dX7_ownImages_8 : decode cX7_ownImages 8 = .ok (.ireturn, 1) := by decide +kernel
theorem dX7_ownImages_9 : decode cX7_ownImages 9 = .ok (.aload_n 0, 1) := by decide +kernel
theorem dX7_ownImages_10 : decode cX7_ownImages 10 = .ok (.iload_n 1, 1) := by decide +kernel
theorem dX7_ownImages_11 : decode cX7_ownImages 11 = .ok (.iconst 2, 1) := by decide +kernel
theorem dX7_ownImages_12 : decode cX7_ownImages 12 = .ok (.idiv, 1) := by decide +kernel
theorem dX7_ownImages_13 : decode cX7_ownImages 13 = .ok (.invokevirtual 163, 3) := by decide +kernel
theorem dX7_ownImages_16 : decode cX7_ownImages 16 = .ok (.iconst 0, 1) := by decide +kernel
theorem dX7_ownImages_17 : decode cX7_ownImages 17 = .ok (.istore_n 2, 1) := by decide +kernel
theorem dX7_ownImages_18 : decode cX7_ownImages 18 = .ok (.iconst 0, 1) := by decide +kernel
theorem dX7_ownImages_19 : decode cX7_ownImages 19 = .ok (.istore_n 3, 1) := by decide +kernel
theorem dX7_ownImages_20 : decode cX7_ownImages 20 = .ok (.iload_n 3, 1) := by decide +kernel
theorem dX7_ownImages_21 : decode cX7_ownImages 21 = .ok (.iconst 2, 1) := by decide +kernel
theorem dX7_ownImages_22 : decode cX7_ownImages 22 = .ok (.aload_n 0, 1) := by decide +kernel
theorem dX7_ownImages_23 : decode cX7_ownImages 23 = .ok (.getfield 7, 3) := by decide +kernel
theorem dX7_ownImages_26 : decode cX7_ownImages 26 = .ok (.iconst 1, 1) := by decide +kernel
theorem dX7_ownImages_27 : decode cX7_ownImages 27 = .ok (.iaload, 1) := by decide +kernel
theorem dX7_ownImages_28 : decode cX7_ownImages 28 = .ok (.imul, 1) := by decide +kernel
theorem dX7_ownImages_29 : decode cX7_ownImages 29 = .ok (.if_icmp .ge 33, 3) := by decide +kernel
theorem dX7_ownImages_32 : decode cX7_ownImages 32 = .ok (.iload_n 2, 1) := by decide +kernel
theorem dX7_ownImages_33 : decode cX7_ownImages 33 = .ok (.aload_n 0, 1) := by decide +kernel
theorem dX7_ownImages_34 : decode cX7_ownImages 34 = .ok (.iload_n 3, 1) := by decide +kernel
theorem dX7_ownImages_35 : decode cX7_ownImages 35 = .ok (.iload_n 3, 1) := by decide +kernel
theorem dX7_ownImages_36 : decode cX7_ownImages 36 = .ok (.iconst 1, 1) := by decide +kernel
theorem dX7_ownImages_37 : decode cX7_ownImages 37 = .ok (.ixor, 1) := by decide +kernel
theorem dX7_ownImages_38 : decode cX7_ownImages 38 = .ok (.invokevirtual 60, 3) := by decide +kernel
theorem dX7_ownImages_41 : decode cX7_ownImages 41 = .ok (.ifCond .eq 7, 3) := by decide +kernel
theorem dX7_ownImages_44 : decode cX7_ownImages 44 = .ok (.iconst 0, 1) := by decide +kernel
theorem dX7_ownImages_45 : decode cX7_ownImages 45 = .ok (.goto 9, 3) := by decide +kernel
theorem dX7_ownImages_48 : decode cX7_ownImages 48 = .ok (.aload_n 0, 1) := by decide +kernel
theorem dX7_ownImages_49 : decode cX7_ownImages 49 = .ok (.getfield 31, 3) := by decide +kernel
theorem dX7_ownImages_52 : decode cX7_ownImages 52 = .ok (.iload_n 3, 1) := by decide +kernel
theorem dX7_ownImages_53 : decode cX7_ownImages 53 = .ok (.iaload, 1) := by decide +kernel
theorem dX7_ownImages_54 : decode cX7_ownImages 54 = .ok (.iadd, 1) := by decide +kernel
theorem dX7_ownImages_55 : decode cX7_ownImages 55 = .ok (.istore_n 2, 1) := by decide +kernel
theorem dX7_ownImages_56 : decode cX7_ownImages 56 = .ok (.iinc 3 1, 3) := by decide +kernel
theorem dX7_ownImages_59 : decode cX7_ownImages 59 = .ok (.goto (-39), 3) := by decide +kernel
theorem dX7_ownImages_62 : decode cX7_ownImages 62 = .ok (.iload_n 2, 1) := by decide +kernel
theorem dX7_ownImages_63 : decode cX7_ownImages 63 = .ok (.ireturn, 1) := by decide +kernel
set_option maxRecDepth 20000 in
theorem ggX7_ways_X7_in : GoodIn wsX7_ways wsX7_in := goodIn_r _ [6] (by decide +kernel) (by decide +kernel)
set_option maxRecDepth 20000 in
theorem gX7_ways_X7_in : GoodIn wsX7_ways (va_wsS RX7 47 yX7_in wsX7_in) := goodIn_app (goodIn_of _ (by decide +kernel)) ggX7_ways_X7_in
set_option maxRecDepth 20000 in
theorem ggX7_ways_X7_allOf : GoodIn wsX7_ways wsX7_allOf := goodIn_r _ [10, 11, 12, 13, 14, 15, 5, 16, 17, 18, 19, 20, 21, 22, 23, 24, 25, 30, 31, 32, 33, 34, 35, 36, 37, 38, 39, 40, 41, 42, 43] (by decide +kernel) (by decide +kernel)
set_option maxRecDepth 20000 in
theorem gX7_ways_X7_allOf : GoodIn wsX7_ways (wsV RX7 168 RX7 yX7_allOf wsX7_allOf) := goodIn_app (goodIn_of _ (by decide +kernel)) ggX7_ways_X7_allOf
set_option maxRecDepth 20000 in
theorem ggX7_ways_X7_ownImages : GoodIn wsX7_ways wsX7_ownImages := goodIn_r _ [29, 11, 12, 13, 14, 15, 5, 16, 17, 18, 19, 20, 21, 22, 23, 24, 25, 30, 31, 32, 33, 34, 35, 36, 37, 38, 39, 40, 41, 42, 43] (by decide +kernel) (by decide +kernel)
set_option maxRecDepth 20000 in
theorem gX7_ways_X7_ownImages : GoodIn wsX7_ways (wsV RX7 171 RX7 yX7_ownImages wsX7_ownImages) := goodIn_app (goodIn_of _ (by decide +kernel)) ggX7_ways_X7_ownImages
theorem dX7_ways_0 : decode cX7_ways 0 = .ok (.iload_n 1, 1) := by decide +kernel
theorem dX7_ways_1 : decode cX7_ways 1 = .ok (.i2l, 1) := by decide +kernel
theorem dX7_ways_2 : decode cX7_ways 2 = .ok (.lconst 1, 1) := by decide +kernel
theorem dX7_ways_3 : decode cX7_ways 3 = .ok (.ldc2_w 166, 3) := by decide +kernel
theorem dX7_ways_6 : decode cX7_ways 6 = .ok (.invokestatic 47, 3) := by decide +kernel
theorem dX7_ways_9 : decode cX7_ways 9 = .ok (.ifCond .eq 15, 3) := by decide +kernel
theorem dX7_ways_12 : decode cX7_ways 12 = .ok (.iload_n 2, 1) := by decide +kernel
theorem dX7_ways_13 : decode cX7_ways 13 = .ok (.i2l, 1) := by decide +kernel
theorem dX7_ways_14 : decode cX7_ways 14 = .ok (.lconst 0, 1) := by decide +kernel
theorem dX7_ways_15 : decode cX7_ways 15 = .ok (.ldc2_w 92, 3) := by decide +kernel
theorem dX7_ways_18 : decode cX7_ways 18 = .ok (.invokestatic 47, 3) := by decide +kernel
theorem dX7_ways_21 : decode cX7_ways 21 = .ok (.ifCond .ne 6, 3) := by decide +kernel
theorem dX7_ways_24 : decode cX7_ways 24 = .ok (.bipush (-2), 2) := by decide +kernel
theorem dX7_ways_26 : decode cX7_ways 26 = .ok (.ireturn, 1) := by decide +kernel
theorem dX7_ways_27 : decode cX7_ways 27 = .ok (.iload_n 2, 1) := by decide +kernel
theorem dX7_ways_28 : decode cX7_ways 28 = .ok (.ifCond .ne 11, 3) := by decide +kernel
theorem dX7_ways_31 : decode cX7_ways 31 = .ok (.aload_n 0, 1) := by decide +kernel
theorem dX7_ways_32 : decode cX7_ways 32 = .ok (.iload_n 1, 1) := by decide +kernel
theorem dX7_ways_33 : decode cX7_ways 33 = .ok (.invokevirtual 168, 3) := by decide +kernel
theorem dX7_ways_36 : decode cX7_ways 36 = .ok (.goto 29, 3) := by decide +kernel
theorem dX7_ways_39 : decode cX7_ways 39 = .ok (.iload_n 2, 1) := by decide +kernel
theorem dX7_ways_40 : decode cX7_ways 40 = .ok (.iconst 1, 1) := by decide +kernel
theorem dX7_ways_41 : decode cX7_ways 41 = .ok (.if_icmp .ne 11, 3) := by decide +kernel
theorem dX7_ways_44 : decode cX7_ways 44 = .ok (.aload_n 0, 1) := by decide +kernel
theorem dX7_ways_45 : decode cX7_ways 45 = .ok (.iload_n 1, 1) := by decide +kernel
theorem dX7_ways_46 : decode cX7_ways 46 = .ok (.invokevirtual 171, 3) := by decide +kernel
theorem dX7_ways_49 : decode cX7_ways 49 = .ok (.goto 16, 3) := by decide +kernel
theorem dX7_ways_52 : decode cX7_ways 52 = .ok (.aload_n 0, 1) := by decide +kernel
theorem dX7_ways_53 : decode cX7_ways 53 = .ok (.iload_n 1, 1) := by decide +kernel
theorem dX7_ways_54 : decode cX7_ways 54 = .ok (.invokevirtual 168, 3) := by decide +kernel
theorem dX7_ways_57 : decode cX7_ways 57 = .ok (.aload_n 0, 1) := by decide +kernel
theorem dX7_ways_58 : decode cX7_ways 58 = .ok (.iload_n 1, 1) := by decide +kernel
theorem dX7_ways_59 : decode cX7_ways 59 = .ok (.invokevirtual 171, 3) := by decide +kernel
theorem dX7_ways_62 : decode cX7_ways 62 = .ok (.iadd, 1) := by decide +kernel
theorem dX7_ways_63 : decode cX7_ways 63 = .ok (.iconst 2, 1) := by decide +kernel
theorem dX7_ways_64 : decode cX7_ways 64 = .ok (.idiv, 1) := by decide +kernel
theorem dX7_ways_65 : decode cX7_ways 65 = .ok (.ireturn, 1) := by decide +kernel
set_option maxRecDepth 20000 in
theorem ggX7_longest_X7_isGarland : GoodIn wsX7_longest wsX7_isGarland := goodIn_r _ [6, 7, 1, 8, 9, 5, 10, 11, 12, 13, 14, 15, 16, 17, 18, 19, 20, 21, 22, 23, 24] (by decide +kernel) (by decide +kernel)
set_option maxRecDepth 20000 in
theorem gX7_longest_X7_isGarland : GoodIn wsX7_longest (wsV RX7 103 RX7 yX7_isGarland wsX7_isGarland) := goodIn_app (goodIn_of _ (by decide +kernel)) ggX7_longest_X7_isGarland
theorem dX7_longest_0 : decode cX7_longest 0 = .ok (.bipush (-5), 2) := by decide +kernel
theorem dX7_longest_2 : decode cX7_longest 2 = .ok (.istore_n 1, 1) := by decide +kernel
theorem dX7_longest_3 : decode cX7_longest 3 = .ok (.iconst 0, 1) := by decide +kernel
theorem dX7_longest_4 : decode cX7_longest 4 = .ok (.istore_n 2, 1) := by decide +kernel
theorem dX7_longest_5 : decode cX7_longest 5 = .ok (.iload_n 2, 1) := by decide +kernel
theorem dX7_longest_6 : decode cX7_longest 6 = .ok (.bipush 8, 2) := by decide +kernel
theorem dX7_longest_8 : decode cX7_longest 8 = .ok (.if_icmp .ge 50, 3) := by decide +kernel
theorem dX7_longest_11 : decode cX7_longest 11 = .ok (.aload_n 0, 1) := by decide +kernel
theorem dX7_longest_12 : decode cX7_longest 12 = .ok (.iload_n 2, 1) := by decide +kernel
theorem dX7_longest_13 : decode cX7_longest 13 = .ok (.invokevirtual 103, 3) := by decide +kernel
theorem dX7_longest_16 : decode cX7_longest 16 = .ok (.ifCond .eq 34, 3) := by decide +kernel
theorem dX7_longest_19 : decode cX7_longest 19 = .ok (.iload_n 1, 1) := by decide +kernel
theorem dX7_longest_20 : decode cX7_longest 20 = .ok (.bipush (-5), 2) := by decide +kernel
theorem dX7_longest_22 : decode cX7_longest 22 = .ok (.if_icmp .eq 24, 3) := by decide +kernel
theorem dX7_longest_25 : decode cX7_longest 25 = .ok (.aload_n 0, 1) := by decide +kernel
theorem dX7_longest_26 : decode cX7_longest 26 = .ok (.getfield 7, 3) := by decide +kernel
theorem dX7_longest_29 : decode cX7_longest 29 = .ok (.bipush 22, 2) := by decide +kernel
theorem dX7_longest_31 : decode cX7_longest 31 = .ok (.iload_n 2, 1) := by decide +kernel
theorem dX7_longest_32 : decode cX7_longest 32 = .ok (.iadd, 1) := by decide +kernel
theorem dX7_longest_33 : decode cX7_longest 33 = .ok (.iaload, 1) := by decide +kernel
theorem dX7_longest_34 : decode cX7_longest 34 = .ok (.aload_n 0, 1) := by decide +kernel
theorem dX7_longest_35 : decode cX7_longest 35 = .ok (.getfield 7, 3) := by decide +kernel
theorem dX7_longest_38 : decode cX7_longest 38 = .ok (.bipush 22, 2) := by decide +kernel
theorem dX7_longest_40 : decode cX7_longest 40 = .ok (.iload_n 1, 1) := by decide +kernel
theorem dX7_longest_41 : decode cX7_longest 41 = .ok (.iadd, 1) := by decide +kernel
theorem dX7_longest_42 : decode cX7_longest 42 = .ok (.iaload, 1) := by decide +kernel
theorem dX7_longest_43 : decode cX7_longest 43 = .ok (.if_icmp .le 7, 3) := by decide +kernel
theorem dX7_longest_46 : decode cX7_longest 46 = .ok (.iload_n 2, 1) := by decide +kernel
theorem dX7_longest_47 : decode cX7_longest 47 = .ok (.goto 4, 3) := by decide +kernel
theorem dX7_longest_50 : decode cX7_longest 50 = .ok (.iload_n 1, 1) := by decide +kernel
theorem dX7_longest_51 : decode cX7_longest 51 = .ok (.istore_n 1, 1) := by decide +kernel
theorem dX7_longest_52 : decode cX7_longest 52 = .ok (.iinc 2 1, 3) := by decide +kernel
theorem dX7_longest_55 : decode cX7_longest 55 = .ok (.goto (-50), 3) := by decide +kernel
theorem dX7_longest_58 : decode cX7_longest 58 = .ok (.iload_n 1, 1) := by decide +kernel
theorem dX7_longest_59 : decode cX7_longest 59 = .ok (.ireturn, 1) := by decide +kernel
set_option maxRecDepth 20000 in
theorem ggX7_over_X7_isGarland : GoodIn wsX7_over wsX7_isGarland := goodIn_r _ [6, 7, 1, 8, 9, 5, 10, 43, 44, 45, 46, 47, 48, 49, 50, 51, 52, 53, 54, 55, 56] (by decide +kernel) (by decide +kernel)
set_option maxRecDepth 20000 in
theorem gX7_over_X7_isGarland : GoodIn wsX7_over (wsV RX7 103 RX7 yX7_isGarland wsX7_isGarland) := goodIn_app (goodIn_of _ (by decide +kernel)) ggX7_over_X7_isGarland
set_option maxRecDepth 20000 in
theorem ggX7_over_X7_mirroredIn : GoodIn wsX7_over wsX7_mirroredIn := goodIn_r _ [14, 1, 15, 16, 17, 5, 18, 43, 44, 45, 46, 47, 48, 49, 50, 51, 52, 53, 54, 55, 56] (by decide +kernel) (by decide +kernel)
set_option maxRecDepth 20000 in
theorem gX7_over_X7_mirroredIn : GoodIn wsX7_over (wsV RX7 116 RX7 yX7_mirroredIn wsX7_mirroredIn) := goodIn_app (goodIn_of _ (by decide +kernel)) ggX7_over_X7_mirroredIn
set_option maxRecDepth 20000 in
theorem ggX7_over_X7_isOwnImage : GoodIn wsX7_over wsX7_isOwnImage := goodIn_r _ [22, 23, 24, 25, 5, 26, 1, 15, 16, 17, 18, 27, 28, 29, 30, 43, 44, 45, 46, 47, 48, 49, 50, 51, 52, 53, 54, 55, 56] (by decide +kernel) (by decide +kernel)
set_option maxRecDepth 20000 in
theorem gX7_over_X7_isOwnImage : GoodIn wsX7_over (wsV RX7 113 RX7 yX7_isOwnImage wsX7_isOwnImage) := goodIn_app (goodIn_of _ (by decide +kernel)) ggX7_over_X7_isOwnImage
set_option maxRecDepth 20000 in
theorem ggX7_over_X7_meeting : GoodIn wsX7_over wsX7_meeting := goodIn_r _ [34, 1, 15, 16, 17, 5, 18, 35, 36, 37, 38, 43, 44, 45, 46, 47, 48, 49, 50, 51, 52, 53, 54, 55, 56] (by decide +kernel) (by decide +kernel)
set_option maxRecDepth 20000 in
theorem gX7_over_X7_meeting : GoodIn wsX7_over (wsV RX7 174 RX7 yX7_meeting wsX7_meeting) := goodIn_app (goodIn_of _ (by decide +kernel)) ggX7_over_X7_meeting
set_option maxRecDepth 20000 in
theorem ggX7_over_X7_firstLike : GoodIn wsX7_over wsX7_firstLike := goodIn_r _ [42, 23, 24, 25, 5, 26, 1, 15, 16, 17, 18, 27, 28, 29, 30, 43, 44, 45, 46, 47, 48, 49, 50, 51, 52, 53, 54, 55, 56] (by decide +kernel) (by decide +kernel)
set_option maxRecDepth 20000 in
theorem gX7_over_X7_firstLike : GoodIn wsX7_over (wsV RX7 160 RX7 yX7_firstLike wsX7_firstLike) := goodIn_app (goodIn_of _ (by decide +kernel)) ggX7_over_X7_firstLike
theorem dX7_over_0 : decode cX7_over 0 = .ok (.iconst 0, 1) := by decide +kernel
theorem dX7_over_1 : decode cX7_over 1 = .ok (.istore_n 2, 1) := by decide +kernel
theorem dX7_over_2 : decode cX7_over 2 = .ok (.iconst 0, 1) := by decide +kernel
theorem dX7_over_3 : decode cX7_over 3 = .ok (.istore_n 3, 1) := by decide +kernel
theorem dX7_over_4 : decode cX7_over 4 = .ok (.iload_n 3, 1) := by decide +kernel
theorem dX7_over_5 : decode cX7_over 5 = .ok (.bipush 8, 2) := by decide +kernel
theorem dX7_over_7 : decode cX7_over 7 = .ok (.if_icmp .ge 107, 3) := by decide +kernel
theorem dX7_over_10 : decode cX7_over 10 = .ok (.aload_n 0, 1) := by decide +kernel
theorem dX7_over_11 : decode cX7_over 11 = .ok (.iload_n 3, 1) := by decide +kernel
theorem dX7_over_12 : decode cX7_over 12 = .ok (.invokevirtual 103, 3) := by decide +kernel
theorem dX7_over_15 : decode cX7_over 15 = .ok (.ifCond .eq 93, 3) := by decide +kernel
theorem dX7_over_18 : decode cX7_over 18 = .ok (.iload_n 2, 1) := by decide +kernel
theorem dX7_over_19 : decode cX7_over 19 = .ok (.iload_n 1, 1) := by decide +kernel
theorem dX7_over_20 : decode cX7_over 20 = .ok (.ifCond .ne 7, 3) := by decide +kernel
theorem dX7_over_23 : decode cX7_over 23 = .ok (.iconst 1, 1) := by decide +kernel
theorem dX7_over_24 : decode cX7_over 24 = .ok (.goto 82, 3) := by decide +kernel
theorem dX7_over_27 : decode cX7_over 27 = .ok (.iload_n 1, 1) := by decide +kernel
theorem dX7_over_28 : decode cX7_over 28 = .ok (.iconst 1, 1) := by decide +kernel
theorem dX7_over_29 : decode cX7_over 29 = .ok (.if_icmp .ne 15, 3) := by decide +kernel
theorem dX7_over_32 : decode cX7_over 32 = .ok (.aload_n 0, 1) := by decide +kernel
theorem dX7_over_33 : decode cX7_over 33 = .ok (.getfield 7, 3) := by decide +kernel
theorem dX7_over_36 : decode cX7_over 36 = .ok (.bipush 22, 2) := by decide +kernel
theorem dX7_over_38 : decode cX7_over 38 = .ok (.iload_n 3, 1) := by decide +kernel
theorem dX7_over_39 : decode cX7_over 39 = .ok (.iadd, 1) := by decide +kernel
theorem dX7_over_40 : decode cX7_over 40 = .ok (.iaload, 1) := by decide +kernel
theorem dX7_over_41 : decode cX7_over 41 = .ok (.goto 65, 3) := by decide +kernel
theorem dX7_over_44 : decode cX7_over 44 = .ok (.iload_n 1, 1) := by decide +kernel
theorem dX7_over_45 : decode cX7_over 45 = .ok (.iconst 2, 1) := by decide +kernel
theorem dX7_over_46 : decode cX7_over 46 = .ok (.if_icmp .ne 11, 3) := by decide +kernel
theorem dX7_over_49 : decode cX7_over 49 = .ok (.aload_n 0, 1) := by decide +kernel
theorem dX7_over_50 : decode cX7_over 50 = .ok (.iload_n 3, 1) := by decide +kernel
theorem dX7_over_51 : decode cX7_over 51 = .ok (.invokevirtual 116, 3) := by decide +kernel
theorem dX7_over_54 : decode cX7_over 54 = .ok (.goto 52, 3) := by decide +kernel
theorem dX7_over_57 : decode cX7_over 57 = .ok (.iload_n 1, 1) := by decide +kernel
theorem dX7_over_58 : decode cX7_over 58 = .ok (.iconst 3, 1) := by decide +kernel
theorem dX7_over_59 : decode cX7_over 59 = .ok (.if_icmp .ne 19, 3) := by decide +kernel
theorem dX7_over_62 : decode cX7_over 62 = .ok (.aload_n 0, 1) := by decide +kernel
theorem dX7_over_63 : decode cX7_over 63 = .ok (.iload_n 3, 1) := by decide +kernel
theorem dX7_over_64 : decode cX7_over 64 = .ok (.invokevirtual 113, 3) := by decide +kernel
theorem dX7_over_67 : decode cX7_over 67 = .ok (.ifCond .eq 7, 3) := by decide +kernel
theorem dX7_over_70 : decode cX7_over 70 = .ok (.iconst 1, 1) := by decide +kernel
theorem dX7_over_71 : decode cX7_over 71 = .ok (.goto 35, 3) := by decide +kernel
theorem dX7_over_74 : decode cX7_over 74 = .ok (.iconst 0, 1) := by decide +kernel
theorem dX7_over_75 : decode cX7_over 75 = .ok (.goto 31, 3) := by decide +kernel
theorem dX7_over_78 : decode cX7_over 78 = .ok (.iload_n 1, 1) := by decide +kernel
theorem dX7_over_79 : decode cX7_over 79 = .ok (.bipush 6, 2) := by decide +kernel
theorem dX7_over_81 : decode cX7_over 81 = .ok (.if_icmp .ne 11, 3) := by decide +kernel
theorem dX7_over_84 : decode cX7_over 84 = .ok (.aload_n 0, 1) := by decide +kernel
theorem dX7_over_85 : decode cX7_over 85 = .ok (.iload_n 3, 1) := by decide +kernel
theorem dX7_over_86 : decode cX7_over 86 = .ok (.invokevirtual 174, 3) := by decide +kernel
theorem dX7_over_89 : decode cX7_over 89 = .ok (.goto 17, 3) := by decide +kernel
theorem dX7_over_92 : decode cX7_over 92 = .ok (.aload_n 0, 1) := by decide +kernel
theorem dX7_over_93 : decode cX7_over 93 = .ok (.iload_n 3, 1) := by decide +kernel
theorem dX7_over_94 : decode cX7_over 94 = .ok (.invokevirtual 160, 3) := by decide +kernel
theorem dX7_over_97 : decode cX7_over 97 = .ok (.iload_n 3, 1) := by decide +kernel
theorem dX7_over_98 : decode cX7_over 98 = .ok (.if_icmp .ne 7, 3) := by decide +kernel
theorem dX7_over_101 : decode cX7_over 101 = .ok (.iconst 1, 1) := by decide +kernel
theorem dX7_over_102 : decode cX7_over 102 = .ok (.goto 4, 3) := by decide +kernel
theorem dX7_over_105 : decode cX7_over 105 = .ok (.iconst 0, 1) := by decide +kernel
theorem dX7_over_106 : decode cX7_over 106 = .ok (.iadd, 1) := by decide +kernel
theorem dX7_over_107 : decode cX7_over 107 = .ok (.istore_n 2, 1) := by decide +kernel
theorem dX7_over_108 : decode cX7_over 108 = .ok (.iinc 3 1, 3) := by decide +kernel
theorem dX7_over_111 : decode cX7_over 111 = .ok (.goto (-107), 3) := by decide +kernel
theorem dX7_over_114 : decode cX7_over 114 = .ok (.iload_n 2, 1) := by decide +kernel
theorem dX7_over_115 : decode cX7_over 115 = .ok (.ireturn, 1) := by decide +kernel
set_option maxRecDepth 20000 in
theorem ggX7_meeting_X7_dollAt : GoodIn wsX7_meeting wsX7_dollAt := goodIn_r _ [6, 1, 11, 12, 13, 14, 15, 16, 17, 18, 19, 20, 21, 22, 23, 24] (by decide +kernel) (by decide +kernel)
set_option maxRecDepth 20000 in
theorem gX7_meeting_X7_dollAt : GoodIn wsX7_meeting (wsV RX7 57 RX7 yX7_dollAt wsX7_dollAt) := goodIn_app (goodIn_of _ (by decide +kernel)) ggX7_meeting_X7_dollAt
set_option maxRecDepth 20000 in
theorem ggX7_meeting_X7_handOf : GoodIn wsX7_meeting wsX7_handOf := goodIn_r _ [10, 1, 11, 12, 13, 14, 15, 16, 17, 18, 19, 20, 21, 22, 23, 24] (by decide +kernel) (by decide +kernel)
set_option maxRecDepth 20000 in
theorem gX7_meeting_X7_handOf : GoodIn wsX7_meeting (wsV RX7 51 RX7 yX7_handOf wsX7_handOf) := goodIn_app (goodIn_of _ (by decide +kernel)) ggX7_meeting_X7_handOf
theorem dX7_meeting_0 : decode cX7_meeting 0 = .ok (.iconst 0, 1) := by decide +kernel
theorem dX7_meeting_1 : decode cX7_meeting 1 = .ok (.istore_n 2, 1) := by decide +kernel
theorem dX7_meeting_2 : decode cX7_meeting 2 = .ok (.iconst 1, 1) := by decide +kernel
theorem dX7_meeting_3 : decode cX7_meeting 3 = .ok (.istore_n 3, 1) := by decide +kernel
theorem dX7_meeting_4 : decode cX7_meeting 4 = .ok (.iload_n 3, 1) := by decide +kernel
theorem dX7_meeting_5 : decode cX7_meeting 5 = .ok (.aload_n 0, 1) := by decide +kernel
theorem dX7_meeting_6 : decode cX7_meeting 6 = .ok (.getfield 7, 3) := by decide +kernel
theorem dX7_meeting_9 : decode cX7_meeting 9 = .ok (.bipush 22, 2) := by decide +kernel
theorem dX7_meeting_11 : decode cX7_meeting 11 = .ok (.iload_n 1, 1) := by decide +kernel
theorem dX7_meeting_12 : decode cX7_meeting 12 = .ok (.iadd, 1) := by decide +kernel
theorem dX7_meeting_13 : decode cX7_meeting 13 = .ok (.iaload, 1) := by decide +kernel
theorem dX7_meeting_14 : decode cX7_meeting 14 = .ok (.if_icmp .ge 47, 3) := by decide +kernel
theorem dX7_meeting_17 : decode cX7_meeting 17 = .ok (.iload_n 2, 1) := by decide +kernel
theorem dX7_meeting_18 : decode cX7_meeting 18 = .ok (.aload_n 0, 1) := by decide +kernel
theorem dX7_meeting_19 : decode cX7_meeting 19 = .ok (.aload_n 0, 1) := by decide +kernel
theorem dX7_meeting_20 : decode cX7_meeting 20 = .ok (.iload_n 1, 1) := by decide +kernel
theorem dX7_meeting_21 : decode cX7_meeting 21 = .ok (.iload_n 3, 1) := by decide +kernel
theorem dX7_meeting_22 : decode cX7_meeting 22 = .ok (.iconst 1, 1) := by decide +kernel
theorem dX7_meeting_23 : decode cX7_meeting 23 = .ok (.isub, 1) := by decide +kernel
theorem dX7_meeting_24 : decode cX7_meeting 24 = .ok (.invokevirtual 57, 3) := by decide +kernel
theorem dX7_meeting_27 : decode cX7_meeting 27 = .ok (.iconst 1, 1) := by decide +kernel
theorem dX7_meeting_28 : decode cX7_meeting 28 = .ok (.invokevirtual 51, 3) := by decide +kernel
theorem dX7_meeting_31 : decode cX7_meeting 31 = .ok (.ifCond .eq 21, 3) := by decide +kernel
theorem dX7_meeting_34 : decode cX7_meeting 34 = .ok (.aload_n 0, 1) := by decide +kernel
theorem dX7_meeting_35 : decode cX7_meeting 35 = .ok (.aload_n 0, 1) := by decide +kernel
theorem dX7_meeting_36 : decode cX7_meeting 36 = .ok (.iload_n 1, 1) := by decide +kernel
theorem dX7_meeting_37 : decode cX7_meeting 37 = .ok (.iload_n 3, 1) := by decide +kernel
theorem dX7_meeting_38 : decode cX7_meeting 38 = .ok (.invokevirtual 57, 3) := by decide +kernel
theorem dX7_meeting_41 : decode cX7_meeting 41 = .ok (.iconst 0, 1) := by decide +kernel
theorem dX7_meeting_42 : decode cX7_meeting 42 = .ok (.invokevirtual 51, 3) := by decide +kernel
theorem dX7_meeting_45 : decode cX7_meeting 45 = .ok (.ifCond .eq 7, 3) := by decide +kernel
theorem dX7_meeting_48 : decode cX7_meeting 48 = .ok (.iconst 1, 1) := by decide +kernel
theorem dX7_meeting_49 : decode cX7_meeting 49 = .ok (.goto 4, 3) := by decide +kernel
theorem dX7_meeting_52 : decode cX7_meeting 52 = .ok (.iconst 0, 1) := by decide +kernel
theorem dX7_meeting_53 : decode cX7_meeting 53 = .ok (.iadd, 1) := by decide +kernel
theorem dX7_meeting_54 : decode cX7_meeting 54 = .ok (.istore_n 2, 1) := by decide +kernel
theorem dX7_meeting_55 : decode cX7_meeting 55 = .ok (.iinc 3 1, 3) := by decide +kernel
theorem dX7_meeting_58 : decode cX7_meeting 58 = .ok (.goto (-54), 3) := by decide +kernel
theorem dX7_meeting_61 : decode cX7_meeting 61 = .ok (.iload_n 2, 1) := by decide +kernel
theorem dX7_meeting_62 : decode cX7_meeting 62 = .ok (.ireturn, 1) := by decide +kernel
set_option maxRecDepth 20000 in
theorem ggX7_count_X7_over : GoodIn wsX7_count wsX7_over := goodIn_r _ [8, 1, 9, 10, 11, 7, 12, 13, 14, 15, 16, 17, 18, 19, 20, 21, 22, 23, 24, 25, 26, 27, 28, 29, 30, 31, 32, 33, 34, 35, 36, 37, 38, 39, 40, 41, 42, 43, 44, 45, 46, 47, 48, 49, 50, 51, 52, 53, 54, 55, 56, 57, 58, 59, 60, 61, 62] (by decide +kernel) (by decide +kernel)
set_option maxRecDepth 20000 in
theorem gX7_count_X7_over : GoodIn wsX7_count (wsV RX7 177 RX7 yX7_over wsX7_over) := goodIn_app (goodIn_of _ (by decide +kernel)) ggX7_count_X7_over
theorem dX7_count_0 : decode cX7_count 0 = .ok (.iload_n 1, 1) := by decide +kernel
theorem dX7_count_1 : decode cX7_count 1 = .ok (.tableswitch 82 0 9 #[55, 55, 55, 55, 61, 61, 55, 55, 72, 77], 55) := by decide +kernel
theorem dX7_count_56 : decode cX7_count 56 = .ok (.aload_n 0, 1) := by decide +kernel
theorem dX7_count_57 : decode cX7_count 57 = .ok (.iload_n 1, 1) := by decide +kernel
theorem dX7_count_58 : decode cX7_count 58 = .ok (.invokevirtual 177, 3) := by decide +kernel
theorem dX7_count_61 : decode cX7_count 61 = .ok (.ireturn, 1) := by decide +kernel
theorem dX7_count_62 : decode cX7_count 62 = .ok (.aload_n 0, 1) := by decide +kernel
theorem dX7_count_63 : decode cX7_count 63 = .ok (.getfield 7, 3) := by decide +kernel
theorem dX7_count_66 : decode cX7_count 66 = .ok (.iconst 0, 1) := by decide +kernel
theorem dX7_count_67 : decode cX7_count 67 = .ok (.iload_n 1, 1) := by decide +kernel
theorem dX7_count_68 : decode cX7_count 68 = .ok (.iadd, 1) := by decide +kernel
theorem dX7_count_69 : decode cX7_count 69 = .ok (.iconst 4, 1) := by decide +kernel
theorem dX7_count_70 : decode cX7_count 70 = .ok (.isub, 1) := by decide +kernel
theorem dX7_count_71 : decode cX7_count 71 = .ok (.iaload, 1) := by decide +kernel
theorem dX7_count_72 : decode cX7_count 72 = .ok (.ireturn, 1) := by decide +kernel
theorem dX7_count_73 : decode cX7_count 73 = .ok (.aload_n 0, 1) := by decide +kernel
theorem dX7_count_74 : decode cX7_count 74 = .ok (.getfield 37, 3) := by decide +kernel
theorem dX7_count_77 : decode cX7_count 77 = .ok (.ireturn, 1) := by decide +kernel
theorem dX7_count_78 : decode cX7_count 78 = .ok (.aload_n 0, 1) := by decide +kernel
theorem dX7_count_79 : decode cX7_count 79 = .ok (.getfield 119, 3) := by decide +kernel
theorem dX7_count_82 : decode cX7_count 82 = .ok (.ireturn, 1) := by decide +kernel
theorem dX7_count_83 : decode cX7_count 83 = .ok (.bipush (-2), 2) := by decide +kernel
theorem dX7_count_85 : decode cX7_count 85 = .ok (.ireturn, 1) := by decide +kernel
theorem dJ9_max_7cf53_0 : decode cJ9_max_7cf53 0 = .ok (.iload_n 0, 1) := by decide +kernel
theorem dJ9_max_7cf53_1 : decode cJ9_max_7cf53 1 = .ok (.iload_n 1, 1) := by decide +kernel
theorem dJ9_max_7cf53_2 : decode cJ9_max_7cf53 2 = .ok (.if_icmp .lt 7, 3) := by decide +kernel
theorem dJ9_max_7cf53_5 : decode cJ9_max_7cf53 5 = .ok (.iload_n 0, 1) := by decide +kernel
theorem dJ9_max_7cf53_6 : decode cJ9_max_7cf53 6 = .ok (.goto 4, 3) := by decide +kernel
theorem dJ9_max_7cf53_9 : decode cJ9_max_7cf53 9 = .ok (.iload_n 1, 1) := by decide +kernel
theorem dJ9_max_7cf53_10 : decode cJ9_max_7cf53 10 = .ok (.ireturn, 1) := by decide +kernel
set_option maxRecDepth 20000 in
theorem ggL_law_X6_init : GoodIn wsL_law wsX6_init := goodIn_r _ [8, 9, 10, 11, 12, 13, 14, 15, 16, 17, 18, 19, 20, 21, 22, 23, 24, 25, 26, 27, 28, 29, 30, 31, 32, 33, 34, 35, 36, 37, 38, 39, 40, 41, 42, 43, 44, 45, 46, 47, 48, 49, 50, 51, 52, 53, 54, 55, 56, 57, 58, 59, 60, 61, 62, 63, 64, 65, 66, 67, 68, 69, 70, 71, 72, 73, 74, 75, 76, 77, 78, 79, 80, 81, 82, 83, 84, 85, 86, 776, 754, 755, 756, 757, 758, 759, 760, 761, 777, 778, 779, 780, 781, 782, 783, 784, 785, 786, 787] (by decide +kernel) (by decide +kernel)
set_option maxRecDepth 20000 in
theorem gL_law_X6_init : GoodIn wsL_law (wsX6_init) := ggL_law_X6_init
set_option maxRecDepth 20000 in
theorem ggL_law_X7_init : GoodIn wsL_law wsX7_init := goodIn_r _ [89, 90, 10, 11, 48, 91, 92, 93, 94, 95, 96, 97, 98, 99, 762, 763, 764, 765, 766, 767, 768, 769, 770, 771, 772, 773, 774, 775] (by decide +kernel) (by decide +kernel)
set_option maxRecDepth 20000 in
theorem gL_law_X7_init : GoodIn wsL_law (wsX7_init) := ggL_law_X7_init
set_option maxRecDepth 20000 in
theorem ggL_law_X6_setHands : GoodIn wsL_law wsX6_setHands := goodIn_r _ [103, 15, 27, 104, 105, 106, 14, 107, 108, 109, 110, 111, 43, 112, 113, 114, 34, 115, 49, 116, 2, 117, 118, 119, 120, 121, 122, 123, 124, 125, 126, 127, 128, 129, 130, 50, 51, 52, 53, 131, 132, 133, 134, 135, 136, 137, 138, 139, 140, 141, 142, 143, 144, 145, 146, 147, 148, 149, 150, 151, 152, 153, 154, 155, 156, 157, 158, 159, 160, 161, 162, 163, 164, 165, 166, 167, 168, 169, 26, 170, 76, 75, 74, 171, 172, 173, 174, 175, 176, 177, 178, 179, 180, 181, 182, 183, 184, 185, 186, 754, 755, 756, 757, 758, 759, 760, 761, 776, 787, 782, 783, 784] (by decide +kernel) (by decide +kernel)
set_option maxRecDepth 20000 in
theorem gL_law_X6_setHands : GoodIn wsL_law (wsV RL 13 RX6 yX6_setHands wsX6_setHands) := goodIn_app (goodIn_of _ (by decide +kernel)) ggL_law_X6_setHands
set_option maxRecDepth 20000 in
theorem ggL_law_X7_setHands : GoodIn wsL_law wsX7_setHands := goodIn_r _ [190, 191, 91, 192, 193, 194, 5, 195, 196, 197, 198, 199, 200, 201, 202, 92, 203, 204, 205, 206, 207, 208, 209, 210, 211, 212, 213, 214, 215, 216, 217, 218, 219, 220, 221, 222, 223, 224, 225, 226, 227, 228, 229, 230, 231, 93, 762, 763, 764, 765, 766, 767, 768, 769, 770, 771, 772, 773, 774, 775] (by decide +kernel) (by decide +kernel)
set_option maxRecDepth 20000 in
theorem gL_law_X7_setHands : GoodIn wsL_law (wsV RL 17 RX7 yX7_setHands wsX7_setHands) := goodIn_app (goodIn_of _ (by decide +kernel)) ggL_law_X7_setHands
set_option maxRecDepth 20000 in
theorem ggL_law_X6_setRule : GoodIn wsL_law wsX6_setRule := goodIn_r _ [235, 15, 27, 118, 116, 2, 117, 236, 164, 165, 14, 166, 43, 112, 113, 114, 34, 115, 49, 237, 238, 239, 240, 50, 51, 52, 53, 131, 132, 133, 134, 135, 136, 137, 138, 139, 140, 141, 142, 143, 144, 145, 146, 147, 148, 149, 150, 151, 152, 153, 154, 155, 156, 157, 158, 159, 160, 161, 162, 163, 167, 168, 169, 26, 170, 76, 75, 74, 171, 172, 173, 174, 175, 176, 177, 178, 179, 180, 181, 182, 183, 184, 185, 186, 754, 755, 756, 757, 758, 759, 760, 761, 776, 787, 782, 783, 784] (by decide +kernel) (by decide +kernel)
set_option maxRecDepth 20000 in
theorem gL_law_X6_setRule : GoodIn wsL_law (wsV RL 18 RX6 yX6_setRule wsX6_setRule) := goodIn_app (goodIn_of _ (by decide +kernel)) ggL_law_X6_setRule
set_option maxRecDepth 20000 in
theorem ggL_law_X7_setRule : GoodIn wsL_law wsX7_setRule := goodIn_r _ [244, 245, 91, 196, 197, 5, 198, 199, 200, 201, 202, 92, 203, 204, 205, 206, 207, 208, 209, 210, 211, 212, 213, 214, 215, 216, 217, 218, 219, 220, 221, 222, 223, 224, 225, 226, 227, 228, 229, 230, 231, 93, 762, 763, 764, 765, 766, 767, 768, 769, 770, 771, 772, 773, 774, 775] (by decide +kernel) (by decide +kernel)
set_option maxRecDepth 20000 in
theorem gL_law_X7_setRule : GoodIn wsL_law (wsV RL 22 RX7 yX7_setRule wsX7_setRule) := goodIn_app (goodIn_of _ (by decide +kernel)) ggL_law_X7_setRule
set_option maxRecDepth 20000 in
theorem ggL_law_X6_setKinds : GoodIn wsL_law wsX6_setKinds := goodIn_r _ [249, 19, 15, 27, 250, 251, 252, 18, 253, 58, 254, 255, 256, 257, 258, 140, 141, 14, 142, 43, 112, 113, 114, 34, 115, 49, 259, 260, 261, 262, 135, 136, 137, 138, 157, 2, 158, 263, 109, 110, 111, 167, 168, 169, 26, 170, 76, 75, 74, 171, 172, 173, 174, 175, 176, 177, 178, 179, 180, 181, 182, 183, 184, 185, 186, 264, 265, 266, 267, 50, 51, 52, 53, 754, 755, 756, 757, 758, 759, 760, 761, 777, 776, 787, 782, 783, 784] (by decide +kernel) (by decide +kernel)
set_option maxRecDepth 20000 in
theorem gL_law_X6_setKinds : GoodIn wsL_law (wsV RL 23 RX6 yX6_setKinds wsX6_setKinds) := goodIn_app (goodIn_of _ (by decide +kernel)) ggL_law_X6_setKinds
set_option maxRecDepth 20000 in
theorem ggL_law_X7_setKinds : GoodIn wsL_law wsX7_setKinds := goodIn_r _ [271, 272, 91, 196, 197, 5, 198, 273, 274, 275, 276, 207, 208, 209, 210, 199, 200, 201, 202, 92, 219, 220, 221, 222, 223, 224, 225, 226, 227, 228, 229, 230, 231, 93, 762, 763, 764, 765, 766, 767, 768, 769, 770, 771, 772, 773, 774, 775] (by decide +kernel) (by decide +kernel)
set_option maxRecDepth 20000 in
theorem gL_law_X7_setKinds : GoodIn wsL_law (wsV RL 26 RX7 yX7_setKinds wsX7_setKinds) := goodIn_app (goodIn_of _ (by decide +kernel)) ggL_law_X7_setKinds
set_option maxRecDepth 20000 in
theorem ggL_law_X6_cutDoll : GoodIn wsL_law wsX6_cutDoll := goodIn_r _ [280, 15, 27, 104, 105, 106, 14, 107, 108, 109, 110, 111, 43, 112, 113, 114, 34, 115, 49, 116, 2, 117, 281, 282, 283, 284, 139, 140, 141, 142, 167, 168, 169, 26, 170, 76, 75, 74, 171, 172, 173, 174, 175, 176, 177, 178, 179, 180, 181, 182, 183, 184, 185, 186, 285, 286, 287, 288, 289, 290, 291, 292, 293, 294, 135, 136, 137, 138, 50, 51, 52, 53, 295, 296, 297, 298, 754, 755, 756, 757, 758, 759, 760, 761, 776, 787, 782, 783, 784] (by decide +kernel) (by decide +kernel)
set_option maxRecDepth 20000 in
theorem gL_law_X6_cutDoll : GoodIn wsL_law (wsV RL 27 RX6 yX6_cutDoll wsX6_cutDoll) := goodIn_app (goodIn_of _ (by decide +kernel)) ggL_law_X6_cutDoll
set_option maxRecDepth 20000 in
theorem ggL_law_X7_cutDoll : GoodIn wsL_law wsX7_cutDoll := goodIn_r _ [302, 91, 192, 193, 194, 5, 195, 196, 197, 198, 303, 304, 305, 306, 199, 200, 201, 202, 92, 307, 308, 309, 310, 219, 220, 221, 222, 223, 224, 225, 226, 227, 228, 229, 230, 231, 93, 762, 763, 764, 765, 766, 767, 768, 769, 770, 771, 772, 773, 774, 775] (by decide +kernel) (by decide +kernel)
set_option maxRecDepth 20000 in
theorem gL_law_X7_cutDoll : GoodIn wsL_law (wsV RL 31 RX7 yX7_cutDoll wsX7_cutDoll) := goodIn_app (goodIn_of _ (by decide +kernel)) ggL_law_X7_cutDoll
set_option maxRecDepth 20000 in
theorem ggL_law_X6_join : GoodIn wsL_law wsX6_join := goodIn_r _ [314, 15, 27, 315, 316, 317, 14, 318, 116, 2, 117, 139, 140, 141, 142, 43, 112, 113, 114, 34, 115, 49, 319, 320, 321, 322, 323, 260, 261, 262, 135, 136, 137, 138, 324, 325, 326, 327, 328, 148, 149, 150, 151, 152, 153, 154, 155, 156, 157, 158, 159, 160, 161, 162, 163, 164, 165, 166, 329, 167, 168, 169, 26, 170, 76, 75, 74, 171, 172, 173, 174, 175, 176, 177, 178, 179, 180, 181, 182, 183, 184, 185, 186, 330, 331, 332, 333, 295, 296, 297, 298, 50, 51, 52, 53, 754, 755, 756, 757, 758, 759, 760, 761, 776, 787, 782, 783, 784] (by decide +kernel) (by decide +kernel)
set_option maxRecDepth 20000 in
theorem gL_law_X6_join : GoodIn wsL_law (wsV RL 32 RX6 yX6_join wsX6_join) := goodIn_app (goodIn_of _ (by decide +kernel)) ggL_law_X6_join
set_option maxRecDepth 20000 in
theorem ggL_law_X7_join : GoodIn wsL_law wsX7_join := goodIn_r _ [337, 91, 338, 339, 340, 5, 341, 342, 196, 197, 198, 343, 344, 345, 346, 207, 208, 209, 210, 211, 212, 213, 214, 215, 216, 217, 218, 199, 200, 201, 202, 92, 307, 308, 309, 310, 347, 348, 349, 350, 219, 220, 221, 222, 223, 224, 225, 226, 227, 228, 229, 230, 231, 93, 762, 763, 764, 765, 766, 767, 768, 769, 770, 771, 772, 773, 774, 775] (by decide +kernel) (by decide +kernel)
set_option maxRecDepth 20000 in
theorem gL_law_X7_join : GoodIn wsL_law (wsV RL 36 RX7 yX7_join wsX7_join) := goodIn_app (goodIn_of _ (by decide +kernel)) ggL_law_X7_join
set_option maxRecDepth 20000 in
theorem ggL_law_X6_cutApart : GoodIn wsL_law wsX6_cutApart := goodIn_r _ [354, 15, 27, 315, 316, 317, 14, 318, 116, 2, 117, 139, 140, 141, 142, 43, 112, 113, 114, 34, 115, 49, 329, 281, 282, 283, 284, 167, 168, 169, 26, 170, 76, 75, 74, 171, 172, 173, 174, 175, 176, 177, 178, 179, 180, 181, 182, 183, 184, 185, 186, 330, 331, 332, 333, 135, 136, 137, 138, 295, 296, 297, 298, 50, 51, 52, 53, 754, 755, 756, 757, 758, 759, 760, 761, 776, 787, 782, 783, 784] (by decide +kernel) (by decide +kernel)
set_option maxRecDepth 20000 in
theorem gL_law_X6_cutApart : GoodIn wsL_law (wsV RL 37 RX6 yX6_cutApart wsX6_cutApart) := goodIn_app (goodIn_of _ (by decide +kernel)) ggL_law_X6_cutApart
set_option maxRecDepth 20000 in
theorem ggL_law_X7_cutApart : GoodIn wsL_law wsX7_cutApart := goodIn_r _ [358, 91, 338, 339, 340, 5, 341, 342, 196, 197, 198, 303, 304, 305, 306, 199, 200, 201, 202, 92, 207, 208, 209, 210, 307, 308, 309, 310, 219, 220, 221, 222, 223, 224, 225, 226, 227, 228, 229, 230, 231, 93, 762, 763, 764, 765, 766, 767, 768, 769, 770, 771, 772, 773, 774, 775] (by decide +kernel) (by decide +kernel)
set_option maxRecDepth 20000 in
theorem gL_law_X7_cutApart : GoodIn wsL_law (wsV RL 40 RX7 yX7_cutApart wsX7_cutApart) := goodIn_app (goodIn_of _ (by decide +kernel)) ggL_law_X7_cutApart
set_option maxRecDepth 20000 in
theorem ggL_law_X6_turn : GoodIn wsL_law wsX6_turn := goodIn_r _ [362, 15, 19, 27, 315, 316, 317, 14, 318, 116, 2, 117, 139, 140, 141, 142, 43, 112, 113, 114, 34, 115, 49, 363, 364, 365, 18, 366, 367, 368, 369, 370, 58, 258, 259, 260, 261, 262, 135, 136, 137, 138, 371, 372, 167, 168, 169, 26, 170, 76, 75, 74, 171, 172, 173, 174, 175, 176, 177, 178, 179, 180, 181, 182, 183, 184, 185, 186, 373, 374, 375, 376, 323, 377, 292, 293, 294, 50, 51, 52, 53, 378, 379, 380, 381, 155, 156, 289, 290, 754, 755, 756, 757, 758, 759, 760, 761, 776, 787, 777, 782, 783, 784] (by decide +kernel) (by decide +kernel)
set_option maxRecDepth 20000 in
theorem gL_law_X6_turn : GoodIn wsL_law (wsV RL 41 RX6 yX6_turn wsX6_turn) := goodIn_app (goodIn_of _ (by decide +kernel)) ggL_law_X6_turn
set_option maxRecDepth 20000 in
theorem ggL_law_X7_turn : GoodIn wsL_law wsX7_turn := goodIn_r _ [385, 91, 95, 338, 339, 340, 5, 341, 342, 196, 197, 198, 386, 387, 388, 389, 390, 391, 392, 393, 207, 208, 209, 210, 394, 395, 396, 397, 199, 200, 201, 202, 92, 307, 308, 309, 310, 398, 399, 400, 401, 219, 220, 221, 222, 223, 224, 225, 226, 227, 228, 229, 230, 231, 93, 762, 763, 764, 765, 766, 767, 768, 769, 770, 771, 772, 773, 774, 775] (by decide +kernel) (by decide +kernel)
set_option maxRecDepth 20000 in
theorem gL_law_X7_turn : GoodIn wsL_law (wsV RL 44 RX7 yX7_turn wsX7_turn) := goodIn_app (goodIn_of _ (by decide +kernel)) ggL_law_X7_turn
set_option maxRecDepth 20000 in
theorem ggL_law_X6_fold : GoodIn wsL_law wsX6_fold := goodIn_r _ [405, 15, 27, 315, 316, 317, 14, 318, 116, 2, 117, 139, 140, 141, 142, 43, 112, 113, 114, 34, 115, 49, 319, 320, 321, 322, 323, 260, 261, 262, 135, 136, 137, 138, 406, 371, 372, 328, 148, 149, 150, 151, 152, 153, 154, 155, 156, 157, 158, 159, 160, 161, 162, 163, 164, 165, 166, 329, 167, 168, 169, 26, 170, 76, 75, 74, 171, 172, 173, 174, 175, 176, 177, 178, 179, 180, 181, 182, 183, 184, 185, 186, 407, 408, 409, 410, 377, 292, 293, 294, 50, 51, 52, 53, 411, 296, 297, 298, 754, 755, 756, 757, 758, 759, 760, 761, 776, 787, 782, 783, 784] (by decide +kernel) (by decide +kernel)
set_option maxRecDepth 20000 in
theorem gL_law_X6_fold : GoodIn wsL_law (wsV RL 45 RX6 yX6_fold wsX6_fold) := goodIn_app (goodIn_of _ (by decide +kernel)) ggL_law_X6_fold
set_option maxRecDepth 20000 in
theorem ggL_law_X7_fold : GoodIn wsL_law wsX7_fold := goodIn_r _ [415, 91, 338, 339, 340, 5, 341, 342, 196, 197, 198, 343, 344, 345, 346, 207, 208, 209, 210, 211, 212, 213, 214, 215, 216, 217, 218, 199, 200, 201, 202, 92, 307, 308, 309, 310, 219, 220, 221, 222, 223, 224, 225, 226, 227, 228, 229, 230, 231, 93, 762, 763, 764, 765, 766, 767, 768, 769, 770, 771, 772, 773, 774, 775] (by decide +kernel) (by decide +kernel)
set_option maxRecDepth 20000 in
theorem gL_law_X7_fold : GoodIn wsL_law (wsV RL 48 RX7 yX7_fold wsX7_fold) := goodIn_app (goodIn_of _ (by decide +kernel)) ggL_law_X7_fold
set_option maxRecDepth 20000 in
theorem ggL_law_X6_takeAway : GoodIn wsL_law wsX6_takeAway := goodIn_r _ [419, 15, 27, 315, 316, 317, 14, 318, 116, 2, 117, 139, 140, 141, 142, 43, 112, 113, 114, 34, 115, 49, 329, 167, 168, 169, 26, 170, 76, 75, 74, 171, 172, 173, 174, 175, 176, 177, 178, 179, 180, 181, 182, 183, 184, 185, 186, 295, 296, 297, 298, 50, 51, 52, 53, 754, 755, 756, 757, 758, 759, 760, 761, 776, 787, 782, 783, 784] (by decide +kernel) (by decide +kernel)
set_option maxRecDepth 20000 in
theorem gL_law_X6_takeAway : GoodIn wsL_law (wsV RL 49 RX6 yX6_takeAway wsX6_takeAway) := goodIn_app (goodIn_of _ (by decide +kernel)) ggL_law_X6_takeAway
set_option maxRecDepth 20000 in
theorem ggL_law_X7_takeAway : GoodIn wsL_law wsX7_takeAway := goodIn_r _ [423, 91, 338, 339, 340, 5, 341, 342, 196, 197, 198, 199, 200, 201, 202, 92, 347, 348, 349, 350, 307, 308, 309, 310, 219, 220, 221, 222, 223, 224, 225, 226, 227, 228, 229, 230, 231, 93, 762, 763, 764, 765, 766, 767, 768, 769, 770, 771, 772, 773, 774, 775] (by decide +kernel) (by decide +kernel)
set_option maxRecDepth 20000 in
theorem gL_law_X7_takeAway : GoodIn wsL_law (wsV RL 52 RX7 yX7_takeAway wsX7_takeAway) := goodIn_app (goodIn_of _ (by decide +kernel)) ggL_law_X7_takeAway
set_option maxRecDepth 20000 in
theorem ggL_law_X6_type : GoodIn wsL_law wsX6_type := goodIn_r _ [427, 31, 428, 429, 430, 30, 431, 84, 432, 433, 434, 435, 83, 436, 51, 52, 34, 53, 49, 754, 755, 756, 757, 758, 759, 760, 761, 785, 786, 787] (by decide +kernel) (by decide +kernel)
set_option maxRecDepth 20000 in
theorem gL_law_X6_type : GoodIn wsL_law (wsV RL 53 RX6 yX6_type wsX6_type) := goodIn_app (goodIn_of _ (by decide +kernel)) ggL_law_X6_type
set_option maxRecDepth 20000 in
theorem ggL_law_X7_type : GoodIn wsL_law wsX7_type := goodIn_r _ [440, 441, 96, 762, 763, 764, 765, 766, 767, 768, 769, 770, 771, 772, 773, 774, 775] (by decide +kernel) (by decide +kernel)
set_option maxRecDepth 20000 in
theorem gL_law_X7_type : GoodIn wsL_law (wsV RL 57 RX7 yX7_type wsX7_type) := goodIn_app (goodIn_of _ (by decide +kernel)) ggL_law_X7_type
set_option maxRecDepth 20000 in
theorem ggL_law_X6_clearText : GoodIn wsL_law wsX6_clearText := goodIn_r _ [445, 31, 446, 447, 448, 30, 449, 84, 754, 755, 756, 757, 758, 759, 760, 761, 785, 786] (by decide +kernel) (by decide +kernel)
set_option maxRecDepth 20000 in
theorem gL_law_X6_clearText : GoodIn wsL_law (wsV RL 58 RX6 yX6_clearText wsX6_clearText) := goodIn_app (goodIn_of _ (by decide +kernel)) ggL_law_X6_clearText
set_option maxRecDepth 20000 in
theorem ggL_law_X7_clearText : GoodIn wsL_law wsX7_clearText := goodIn_r _ [453, 441, 762, 763, 764, 765, 766, 767, 768, 769, 770, 771, 772, 773, 774, 775] (by decide +kernel) (by decide +kernel)
set_option maxRecDepth 20000 in
theorem gL_law_X7_clearText : GoodIn wsL_law (wsV RL 62 RX7 yX7_clearText wsX7_clearText) := goodIn_app (goodIn_of _ (by decide +kernel)) ggL_law_X7_clearText
set_option maxRecDepth 20000 in
theorem ggL_law_X6_readGarland : GoodIn wsL_law wsX6_readGarland := goodIn_r _ [457, 31, 36, 15, 27, 458, 459, 460, 30, 461, 84, 83, 462, 113, 114, 34, 115, 49, 463, 464, 465, 466, 467, 468, 469, 286, 2, 287, 288, 289, 290, 436, 51, 52, 53, 371, 372, 470, 471, 472, 14, 473, 112, 157, 158, 474, 105, 106, 107, 108, 109, 110, 111, 43, 116, 117, 475, 144, 145, 146, 147, 148, 149, 150, 151, 152, 153, 154, 155, 156, 159, 160, 161, 162, 163, 164, 165, 166, 281, 282, 283, 284, 139, 140, 141, 142, 167, 168, 169, 26, 170, 76, 75, 74, 171, 172, 173, 174, 175, 176, 177, 178, 179, 180, 181, 182, 183, 184, 185, 186, 476, 477, 478, 479, 135, 136, 137, 138, 411, 296, 297, 298, 50, 754, 755, 756, 757, 758, 759, 760, 761, 785, 786, 787, 776, 782, 783, 784] (by decide +kernel) (by decide +kernel)
set_option maxRecDepth 20000 in
theorem gL_law_X6_readGarland : GoodIn wsL_law (wsV RL 63 RX6 yX6_readGarland wsX6_readGarland) := goodIn_app (goodIn_of _ (by decide +kernel)) ggL_law_X6_readGarland
set_option maxRecDepth 20000 in
theorem ggL_law_X7_readGarland : GoodIn wsL_law wsX7_readGarland := goodIn_r _ [483, 91, 484, 95, 485, 486, 487, 5, 488, 489, 441, 490, 491, 492, 493, 96, 494, 495, 196, 197, 198, 496, 497, 498, 499, 500, 501, 502, 503, 192, 193, 194, 195, 211, 212, 213, 214, 215, 216, 217, 218, 303, 304, 305, 306, 199, 200, 201, 202, 92, 307, 308, 309, 310, 219, 220, 221, 222, 223, 224, 225, 226, 227, 228, 229, 230, 231, 93, 762, 763, 764, 765, 766, 767, 768, 769, 770, 771, 772, 773, 774, 775] (by decide +kernel) (by decide +kernel)
set_option maxRecDepth 20000 in
theorem gL_law_X7_readGarland : GoodIn wsL_law (wsV RL 66 RX7 yX7_readGarland wsX7_readGarland) := goodIn_app (goodIn_of _ (by decide +kernel)) ggL_law_X7_readGarland
set_option maxRecDepth 20000 in
theorem ggL_law_X6_undo : GoodIn wsL_law wsX6_undo := goodIn_r _ [507, 27, 15, 508, 509, 510, 26, 511, 76, 512, 513, 514, 515, 74, 171, 172, 173, 174, 75, 516, 517, 518, 14, 519, 43, 179, 180, 181, 34, 182, 49, 183, 184, 185, 186, 754, 755, 756, 757, 758, 759, 760, 761, 782, 783, 784, 776, 787] (by decide +kernel) (by decide +kernel)
set_option maxRecDepth 20000 in
theorem gL_law_X6_undo : GoodIn wsL_law (wsV RL 67 RX6 yX6_undo wsX6_undo) := goodIn_app (goodIn_of _ (by decide +kernel)) ggL_law_X6_undo
set_option maxRecDepth 20000 in
theorem ggL_law_X7_undo : GoodIn wsL_law wsX7_undo := goodIn_r _ [523, 231, 91, 93, 762, 763, 764, 765, 766, 767, 768, 769, 770, 771, 772, 773, 774, 775] (by decide +kernel) (by decide +kernel)
set_option maxRecDepth 20000 in
theorem gL_law_X7_undo : GoodIn wsL_law (wsV RL 70 RX7 yX7_undo wsX7_undo) := goodIn_app (goodIn_of _ (by decide +kernel)) ggL_law_X7_undo
set_option maxRecDepth 20000 in
theorem ggL_law_X6_keep : GoodIn wsL_law wsX6_keep := goodIn_r _ [527, 15, 35, 37, 19, 528, 176, 177, 14, 178, 43, 179, 180, 181, 34, 182, 49, 183, 184, 185, 186, 529, 530, 531, 18, 532, 58, 533, 316, 317, 318, 116, 2, 117, 139, 140, 141, 142, 112, 113, 114, 115, 289, 290, 754, 755, 756, 757, 758, 759, 760, 761, 776, 787, 777] (by decide +kernel) (by decide +kernel)
set_option maxRecDepth 20000 in
theorem gL_law_X6_keep : GoodIn wsL_law (wsV RL 71 RX6 yX6_keep wsX6_keep) := goodIn_app (goodIn_of _ (by decide +kernel)) ggL_law_X6_keep
set_option maxRecDepth 20000 in
theorem ggL_law_X7_keep : GoodIn wsL_law wsX7_keep := goodIn_r _ [537, 94, 91, 538, 539, 540, 541, 5, 542, 762, 763, 764, 765, 766, 767, 768, 769, 770, 771, 772, 773, 774, 775] (by decide +kernel) (by decide +kernel)
set_option maxRecDepth 20000 in
theorem gL_law_X7_keep : GoodIn wsL_law (wsV RL 74 RX7 yX7_keep wsX7_keep) := goodIn_app (goodIn_of _ (by decide +kernel)) ggL_law_X7_keep
set_option maxRecDepth 20000 in
theorem ggL_law_X6_restore : GoodIn wsL_law wsX6_restore := goodIn_r _ [546, 37, 27, 15, 35, 19, 167, 168, 169, 26, 170, 76, 75, 74, 171, 172, 173, 174, 175, 176, 177, 14, 178, 43, 179, 180, 181, 34, 182, 49, 183, 184, 185, 186, 547, 517, 518, 519, 529, 530, 531, 18, 532, 58, 533, 316, 317, 318, 116, 2, 117, 139, 140, 141, 142, 112, 113, 114, 115, 289, 290, 754, 755, 756, 757, 758, 759, 760, 761, 782, 783, 784, 776, 787, 777] (by decide +kernel) (by decide +kernel)
set_option maxRecDepth 20000 in
theorem gL_law_X6_restore : GoodIn wsL_law (wsV RL 75 RX6 yX6_restore wsX6_restore) := goodIn_app (goodIn_of _ (by decide +kernel)) ggL_law_X6_restore
set_option maxRecDepth 20000 in
theorem ggL_law_X7_restore : GoodIn wsL_law wsX7_restore := goodIn_r _ [551, 538, 91, 94, 199, 200, 201, 5, 202, 92, 539, 540, 541, 542, 219, 220, 221, 222, 223, 224, 225, 226, 227, 228, 229, 230, 231, 93, 762, 763, 764, 765, 766, 767, 768, 769, 770, 771, 772, 773, 774, 775] (by decide +kernel) (by decide +kernel)
set_option maxRecDepth 20000 in
theorem gL_law_X7_restore : GoodIn wsL_law (wsV RL 78 RX7 yX7_restore wsX7_restore) := goodIn_app (goodIn_of _ (by decide +kernel)) ggL_law_X7_restore
set_option maxRecDepth 20000 in
theorem ggL_law_X6_kind : GoodIn wsL_law wsX6_kind := goodIn_r _ [555, 15, 19, 104, 105, 106, 14, 107, 108, 109, 110, 111, 43, 112, 113, 114, 34, 115, 49, 116, 2, 117, 119, 120, 121, 122, 123, 124, 125, 126, 285, 286, 287, 288, 289, 290, 556, 557, 558, 18, 559, 58, 258, 140, 141, 142, 259, 260, 261, 262, 135, 136, 137, 138, 754, 755, 756, 757, 758, 759, 760, 761, 776, 787, 777] (by decide +kernel) (by decide +kernel)
set_option maxRecDepth 20000 in
theorem gL_law_X6_kind : GoodIn wsL_law (wsV RL 79 RX6 yX6_kind wsX6_kind) := goodIn_app (goodIn_of _ (by decide +kernel)) ggL_law_X6_kind
set_option maxRecDepth 20000 in
theorem ggL_law_X7_kind : GoodIn wsL_law wsX7_kind := goodIn_r _ [563, 91, 192, 193, 194, 5, 195, 196, 197, 198, 564, 565, 566, 567, 207, 208, 209, 210, 762, 763, 764, 765, 766, 767, 768, 769, 770, 771, 772, 773, 774, 775] (by decide +kernel) (by decide +kernel)
set_option maxRecDepth 20000 in
theorem gL_law_X7_kind : GoodIn wsL_law (wsV RL 82 RX7 yX7_kind wsX7_kind) := goodIn_app (goodIn_of _ (by decide +kernel)) ggL_law_X7_kind
set_option maxRecDepth 20000 in
theorem ggL_law_X6_garland : GoodIn wsL_law wsX6_garland := goodIn_r _ [571, 15, 19, 315, 316, 317, 14, 318, 116, 2, 117, 139, 140, 141, 142, 43, 112, 113, 114, 34, 115, 49, 329, 324, 325, 326, 327, 323, 260, 261, 262, 135, 136, 137, 138, 572, 160, 161, 162, 155, 156, 157, 158, 319, 320, 321, 322, 573, 152, 153, 154, 378, 379, 380, 18, 381, 58, 258, 259, 289, 290, 574, 575, 576, 577, 363, 364, 365, 366, 367, 368, 369, 370, 371, 372, 288, 578, 579, 580, 581, 582, 583, 584, 585, 586, 587, 588, 589, 590, 591, 592, 593, 754, 755, 756, 757, 758, 759, 760, 761, 776, 787, 777] (by decide +kernel) (by decide +kernel)
set_option maxRecDepth 20000 in
theorem gL_law_X6_garland : GoodIn wsL_law (wsV RL 83 RX6 yX6_garland wsX6_garland) := goodIn_app (goodIn_of _ (by decide +kernel)) ggL_law_X6_garland
set_option maxRecDepth 20000 in
theorem ggL_law_X7_garland : GoodIn wsL_law wsX7_garland := goodIn_r _ [597, 91, 338, 339, 340, 5, 341, 342, 196, 197, 198, 207, 208, 209, 210, 215, 216, 217, 218, 343, 344, 345, 346, 398, 399, 400, 401, 598, 599, 600, 601, 386, 387, 388, 389, 390, 391, 392, 393, 394, 395, 396, 397, 602, 603, 604, 605, 606, 607, 608, 609, 762, 763, 764, 765, 766, 767, 768, 769, 770, 771, 772, 773, 774, 775] (by decide +kernel) (by decide +kernel)
set_option maxRecDepth 20000 in
theorem gL_law_X7_garland : GoodIn wsL_law (wsV RL 86 RX7 yX7_garland wsX7_garland) := goodIn_app (goodIn_of _ (by decide +kernel)) ggL_law_X7_garland
set_option maxRecDepth 20000 in
theorem ggL_law_X6_doll : GoodIn wsL_law wsX6_doll := goodIn_r _ [613, 15, 315, 316, 317, 14, 318, 116, 2, 117, 139, 140, 141, 142, 43, 112, 113, 114, 34, 115, 49, 329, 118, 614, 260, 261, 262, 135, 136, 137, 138, 615, 157, 158, 616, 155, 156, 288, 289, 290, 572, 160, 161, 162, 573, 152, 153, 154, 754, 755, 756, 757, 758, 759, 760, 761, 776, 787] (by decide +kernel) (by decide +kernel)
set_option maxRecDepth 20000 in
theorem gL_law_X6_doll : GoodIn wsL_law (wsV RL 87 RX6 yX6_doll wsX6_doll) := goodIn_app (goodIn_of _ (by decide +kernel)) ggL_law_X6_doll
set_option maxRecDepth 20000 in
theorem ggL_law_X7_doll : GoodIn wsL_law wsX7_doll := goodIn_r _ [620, 91, 338, 339, 340, 5, 341, 342, 196, 197, 198, 207, 208, 209, 210, 215, 216, 217, 218, 762, 763, 764, 765, 766, 767, 768, 769, 770, 771, 772, 773, 774, 775] (by decide +kernel) (by decide +kernel)
set_option maxRecDepth 20000 in
theorem gL_law_X7_doll : GoodIn wsL_law (wsV RL 90 RX7 yX7_doll wsX7_doll) := goodIn_app (goodIn_of _ (by decide +kernel)) ggL_law_X7_doll
set_option maxRecDepth 20000 in
theorem ggL_law_X6_reason : GoodIn wsL_law wsX6_reason := goodIn_r _ [624, 15, 315, 316, 317, 14, 318, 116, 2, 117, 139, 140, 141, 142, 43, 112, 113, 114, 34, 115, 49, 319, 320, 321, 322, 323, 260, 261, 262, 135, 136, 137, 138, 324, 325, 326, 327, 328, 148, 149, 150, 151, 152, 153, 154, 155, 156, 157, 158, 159, 160, 161, 162, 163, 164, 165, 166, 329, 754, 755, 756, 757, 758, 759, 760, 761, 776, 787] (by decide +kernel) (by decide +kernel)
set_option maxRecDepth 20000 in
theorem gL_law_X6_reason : GoodIn wsL_law (wsV RL 91 RX6 yX6_reason wsX6_reason) := goodIn_app (goodIn_of _ (by decide +kernel)) ggL_law_X6_reason
set_option maxRecDepth 20000 in
theorem ggL_law_X7_reason : GoodIn wsL_law wsX7_reason := goodIn_r _ [628, 91, 338, 339, 340, 5, 341, 342, 196, 197, 198, 343, 344, 345, 346, 207, 208, 209, 210, 211, 212, 213, 214, 215, 216, 217, 218, 762, 763, 764, 765, 766, 767, 768, 769, 770, 771, 772, 773, 774, 775] (by decide +kernel) (by decide +kernel)
set_option maxRecDepth 20000 in
theorem gL_law_X7_reason : GoodIn wsL_law (wsV RL 94 RX7 yX7_reason wsX7_reason) := goodIn_app (goodIn_of _ (by decide +kernel)) ggL_law_X7_reason
set_option maxRecDepth 20000 in
theorem ggL_law_X6_between : GoodIn wsL_law wsX6_between := goodIn_r _ [632, 15, 23, 315, 316, 317, 14, 318, 116, 2, 117, 139, 140, 141, 142, 43, 112, 113, 114, 34, 115, 49, 319, 320, 321, 322, 323, 260, 261, 262, 135, 136, 137, 138, 324, 325, 326, 327, 633, 634, 635, 22, 636, 63, 637, 148, 149, 150, 151, 152, 153, 154, 155, 156, 157, 158, 159, 160, 161, 162, 163, 164, 165, 166, 638, 639, 640, 641, 642, 643, 644, 645, 108, 109, 110, 111, 646, 647, 648, 649, 650, 651, 652, 653, 654, 655, 656, 754, 755, 756, 757, 758, 759, 760, 761, 776, 787, 778, 779, 780, 781] (by decide +kernel) (by decide +kernel)
set_option maxRecDepth 20000 in
theorem gL_law_X6_between : GoodIn wsL_law (wsV RL 95 RX6 yX6_between wsX6_between) := goodIn_app (goodIn_of _ (by decide +kernel)) ggL_law_X6_between
set_option maxRecDepth 20000 in
theorem ggL_law_X7_between : GoodIn wsL_law wsX7_between := goodIn_r _ [660, 91, 97, 338, 339, 340, 5, 341, 342, 196, 197, 198, 343, 344, 345, 346, 207, 208, 209, 210, 211, 212, 213, 214, 215, 216, 217, 218, 762, 763, 764, 765, 766, 767, 768, 769, 770, 771, 772, 773, 774, 775] (by decide +kernel) (by decide +kernel)
set_option maxRecDepth 20000 in
theorem gL_law_X7_between : GoodIn wsL_law (wsV RL 98 RX7 yX7_between wsX7_between) := goodIn_app (goodIn_of _ (by decide +kernel)) ggL_law_X7_between
set_option maxRecDepth 20000 in
theorem ggL_law_X6_ways : GoodIn wsL_law wsX6_ways := goodIn_r _ [664, 23, 665, 666, 667, 22, 668, 63, 66, 669, 670, 671, 672, 65, 67, 642, 643, 644, 14, 645, 108, 109, 110, 111, 43, 112, 113, 114, 34, 115, 49, 646, 647, 648, 649, 637, 148, 149, 150, 151, 152, 153, 154, 155, 2, 156, 157, 158, 159, 160, 161, 162, 163, 164, 165, 166, 673, 51, 52, 53, 674, 675, 676, 677, 678, 654, 655, 656, 679, 180, 181, 182, 183, 184, 185, 186, 680, 681, 682, 683, 371, 372, 754, 755, 756, 757, 758, 759, 760, 761, 778, 779, 780, 781, 776, 787] (by decide +kernel) (by decide +kernel)
set_option maxRecDepth 20000 in
theorem gL_law_X6_ways : GoodIn wsL_law (wsV RL 99 RX6 yX6_ways wsX6_ways) := goodIn_app (goodIn_of _ (by decide +kernel)) ggL_law_X6_ways
set_option maxRecDepth 20000 in
theorem ggL_law_X7_ways : GoodIn wsL_law wsX7_ways := goodIn_r _ [687, 688, 245, 196, 197, 5, 198, 689, 690, 691, 692, 91, 98, 693, 694, 695, 696, 99, 211, 212, 213, 214, 215, 216, 217, 218, 697, 698, 699, 700, 762, 763, 764, 765, 766, 767, 768, 769, 770, 771, 772, 773, 774, 775] (by decide +kernel) (by decide +kernel)
set_option maxRecDepth 20000 in
theorem gL_law_X7_ways : GoodIn wsL_law (wsV RL 102 RX7 yX7_ways wsX7_ways) := goodIn_app (goodIn_of _ (by decide +kernel)) ggL_law_X7_ways
set_option maxRecDepth 20000 in
theorem ggL_law_X6_longest : GoodIn wsL_law wsX6_longest := goodIn_r _ [704, 15, 329, 140, 141, 14, 142, 43, 112, 113, 114, 34, 115, 49, 754, 755, 756, 757, 758, 759, 760, 761, 776, 787] (by decide +kernel) (by decide +kernel)
set_option maxRecDepth 20000 in
theorem gL_law_X6_longest : GoodIn wsL_law (wsV RL 103 RX6 yX6_longest wsX6_longest) := goodIn_app (goodIn_of _ (by decide +kernel)) ggL_law_X6_longest
set_option maxRecDepth 20000 in
theorem ggL_law_X7_longest : GoodIn wsL_law wsX7_longest := goodIn_r _ [708, 91, 338, 339, 340, 5, 341, 342, 196, 197, 198, 762, 763, 764, 765, 766, 767, 768, 769, 770, 771, 772, 773, 774, 775] (by decide +kernel) (by decide +kernel)
set_option maxRecDepth 20000 in
theorem gL_law_X7_longest : GoodIn wsL_law (wsV RL 106 RX7 yX7_longest wsX7_longest) := goodIn_app (goodIn_of _ (by decide +kernel)) ggL_law_X7_longest
set_option maxRecDepth 20000 in
theorem ggL_law_X6_count : GoodIn wsL_law wsX6_count := goodIn_r _ [712, 19, 15, 27, 31, 529, 530, 531, 18, 532, 58, 533, 316, 317, 14, 318, 116, 2, 117, 139, 140, 141, 142, 43, 112, 113, 114, 34, 115, 49, 289, 290, 713, 714, 715, 716, 258, 717, 718, 719, 720, 721, 379, 380, 381, 259, 260, 261, 262, 135, 136, 137, 138, 155, 156, 722, 723, 724, 725, 726, 364, 365, 366, 367, 368, 369, 370, 371, 372, 236, 164, 165, 166, 263, 109, 110, 111, 727, 728, 729, 730, 731, 152, 153, 154, 157, 158, 732, 160, 161, 162, 733, 734, 735, 736, 737, 587, 588, 589, 590, 591, 592, 593, 508, 509, 510, 26, 511, 76, 738, 739, 740, 30, 741, 84, 754, 755, 756, 757, 758, 759, 760, 761, 777, 776, 787, 782, 783, 784, 785, 786] (by decide +kernel) (by decide +kernel)
set_option maxRecDepth 20000 in
theorem gL_law_X6_count : GoodIn wsL_law (wsV RL 107 RX6 yX6_count wsX6_count) := goodIn_app (goodIn_of _ (by decide +kernel)) ggL_law_X6_count
set_option maxRecDepth 20000 in
theorem ggL_law_X7_count : GoodIn wsL_law wsX7_count := goodIn_r _ [745, 91, 231, 441, 746, 747, 748, 5, 749, 338, 339, 340, 341, 342, 196, 197, 198, 398, 399, 400, 401, 207, 208, 209, 210, 386, 387, 388, 389, 390, 391, 392, 393, 394, 395, 396, 397, 750, 751, 752, 753, 215, 216, 217, 218, 606, 607, 608, 609, 762, 763, 764, 765, 766, 767, 768, 769, 770, 771, 772, 773, 774, 775] (by decide +kernel) (by decide +kernel)
set_option maxRecDepth 20000 in
theorem gL_law_X7_count : GoodIn wsL_law (wsV RL 110 RX7 yX7_count wsX7_count) := goodIn_app (goodIn_of _ (by decide +kernel)) ggL_law_X7_count
