theorem dX6_init_0 : decode cX6_init 0 = .ok (.aload_n 0, 1) := by decide +kernel
theorem dX6_init_1 : decode cX6_init 1 = .ok (.invokespecial 3, 3) := by decide +kernel
theorem dX6_init_4 : decode cX6_init 4 = .ok (.aload_n 0, 1) := by decide +kernel
theorem dX6_init_5 : decode cX6_init 5 = .ok (.new 9, 3) := by decide +kernel
theorem dX6_init_8 : decode cX6_init 8 = .ok (.dup, 1) := by decide +kernel
theorem dX6_init_9 : decode cX6_init 9 = .ok (.invokespecial 11, 3) := by decide +kernel
theorem dX6_init_12 : decode cX6_init 12 = .ok (.putfield 12, 3) := by decide +kernel
theorem dX6_init_15 : decode cX6_init 15 = .ok (.aload_n 0, 1) := by decide +kernel
theorem dX6_init_16 : decode cX6_init 16 = .ok (.new 16, 3) := by decide +kernel
theorem dX6_init_19 : decode cX6_init 19 = .ok (.dup, 1) := by decide +kernel
theorem dX6_init_20 : decode cX6_init 20 = .ok (.aload_n 0, 1) := by decide +kernel
theorem dX6_init_21 : decode cX6_init 21 = .ok (.getfield 12, 3) := by decide +kernel
theorem dX6_init_24 : decode cX6_init 24 = .ok (.invokespecial 18, 3) := by decide +kernel
theorem dX6_init_27 : decode cX6_init 27 = .ok (.putfield 21, 3) := by decide +kernel
theorem dX6_init_30 : decode cX6_init 30 = .ok (.aload_n 0, 1) := by decide +kernel
theorem dX6_init_31 : decode cX6_init 31 = .ok (.new 25, 3) := by decide +kernel
theorem dX6_init_34 : decode cX6_init 34 = .ok (.dup, 1) := by decide +kernel
theorem dX6_init_35 : decode cX6_init 35 = .ok (.aload_n 0, 1) := by decide +kernel
theorem dX6_init_36 : decode cX6_init 36 = .ok (.getfield 12, 3) := by decide +kernel
theorem dX6_init_39 : decode cX6_init 39 = .ok (.invokespecial 27, 3) := by decide +kernel
theorem dX6_init_42 : decode cX6_init 42 = .ok (.putfield 28, 3) := by decide +kernel
theorem dX6_init_45 : decode cX6_init 45 = .ok (.aload_n 0, 1) := by decide +kernel
theorem dX6_init_46 : decode cX6_init 46 = .ok (.new 32, 3) := by decide +kernel
theorem dX6_init_49 : decode cX6_init 49 = .ok (.dup, 1) := by decide +kernel
theorem dX6_init_50 : decode cX6_init 50 = .ok (.invokespecial 34, 3) := by decide +kernel
theorem dX6_init_53 : decode cX6_init 53 = .ok (.putfield 35, 3) := by decide +kernel
theorem dX6_init_56 : decode cX6_init 56 = .ok (.aload_n 0, 1) := by decide +kernel
theorem dX6_init_57 : decode cX6_init 57 = .ok (.new 39, 3) := by decide +kernel
theorem dX6_init_60 : decode cX6_init 60 = .ok (.dup, 1) := by decide +kernel
theorem dX6_init_61 : decode cX6_init 61 = .ok (.invokespecial 41, 3) := by decide +kernel
theorem dX6_init_64 : decode cX6_init 64 = .ok (.putfield 42, 3) := by decide +kernel
theorem dX6_init_67 : decode cX6_init 67 = .ok (.aload_n 0, 1) := by decide +kernel
theorem dX6_init_68 : decode cX6_init 68 = .ok (.new 46, 3) := by decide +kernel
theorem dX6_init_71 : decode cX6_init 71 = .ok (.dup, 1) := by decide +kernel
theorem dX6_init_72 : decode cX6_init 72 = .ok (.sipush 286, 3) := by decide +kernel
theorem dX6_init_75 : decode cX6_init 75 = .ok (.invokespecial 48, 3) := by decide +kernel
theorem dX6_init_78 : decode cX6_init 78 = .ok (.putfield 51, 3) := by decide +kernel
theorem dX6_init_81 : decode cX6_init 81 = .ok (.aload_n 0, 1) := by decide +kernel
theorem dX6_init_82 : decode cX6_init 82 = .ok (.new 46, 3) := by decide +kernel
theorem dX6_init_85 : decode cX6_init 85 = .ok (.dup, 1) := by decide +kernel
theorem dX6_init_86 : decode cX6_init 86 = .ok (.bipush 32, 2) := by decide +kernel
theorem dX6_init_88 : decode cX6_init 88 = .ok (.invokespecial 48, 3) := by decide +kernel
theorem dX6_init_91 : decode cX6_init 91 = .ok (.putfield 55, 3) := by decide +kernel
theorem dX6_init_94 : decode cX6_init 94 = .ok (.aload_n 0, 1) := by decide +kernel
theorem dX6_init_95 : decode cX6_init 95 = .ok (.iconst 0, 1) := by decide +kernel
theorem dX6_init_96 : decode cX6_init 96 = .ok (.putfield 58, 3) := by decide +kernel
theorem dX6_init_99 : decode cX6_init 99 = .ok (.return_, 1) := by decide +kernel
set_option maxRecDepth 20000 in
theorem ggX6_setHands_X4_hasKind : GoodIn wsX6_setHands wsX4_hasKind := goodIn_r _ [7, 8, 9, 10, 6, 11, 12, 13, 14, 15, 16, 17, 18, 19, 20, 21, 107, 108] (by decide +kernel) (by decide +kernel)
set_option maxRecDepth 20000 in
theorem gX6_setHands_X4_hasKind : GoodIn wsX6_setHands (wsV RX6 62 RX4 yX4_hasKind wsX4_hasKind) := goodIn_app (goodIn_of _ (by decide +kernel)) ggX6_setHands_X4_hasKind
set_option maxRecDepth 20000 in
theorem ggX6_setHands_X6_isBelow : GoodIn wsX6_setHands wsX6_isBelow := goodIn_r _ [21] (by decide +kernel) (by decide +kernel)
set_option maxRecDepth 20000 in
theorem gX6_setHands_X6_isBelow : GoodIn wsX6_setHands (va_wsS RX6 66 yX6_isBelow wsX6_isBelow) := goodIn_app (goodIn_of _ (by decide +kernel)) ggX6_setHands_X6_isBelow
set_option maxRecDepth 20000 in
theorem ggX6_setHands_X4_leftHand : GoodIn wsX6_setHands wsX4_leftHand := goodIn_r _ [26, 12, 13, 14, 15, 16, 17, 18, 107, 108] (by decide +kernel) (by decide +kernel)
set_option maxRecDepth 20000 in
theorem gX6_setHands_X4_leftHand : GoodIn wsX6_setHands (wsV RX6 70 RX4 yX4_leftHand wsX4_leftHand) := goodIn_app (goodIn_of _ (by decide +kernel)) ggX6_setHands_X4_leftHand
set_option maxRecDepth 20000 in
theorem ggX6_setHands_X4_rightHand : GoodIn wsX6_setHands wsX4_rightHand := goodIn_r _ [30, 12, 13, 14, 15, 16, 17, 18, 107, 108] (by decide +kernel) (by decide +kernel)
set_option maxRecDepth 20000 in
theorem gX6_setHands_X4_rightHand : GoodIn wsX6_setHands (wsV RX6 74 RX4 yX4_rightHand wsX4_rightHand) := goodIn_app (goodIn_of _ (by decide +kernel)) ggX6_setHands_X4_rightHand
set_option maxRecDepth 20000 in
theorem ggX6_setHands_X4_putHands : GoodIn wsX6_setHands wsX4_putHands := goodIn_r _ [34, 12, 35, 36, 37, 16, 38, 18, 107, 108] (by decide +kernel) (by decide +kernel)
set_option maxRecDepth 20000 in
theorem gX6_setHands_X4_putHands : GoodIn wsX6_setHands (wsV RX6 77 RX4 yX4_putHands wsX4_putHands) := goodIn_app (goodIn_of _ (by decide +kernel)) ggX6_setHands_X4_putHands
set_option maxRecDepth 20000 in
theorem ggX6_setHands_X4_hasClash : GoodIn wsX6_setHands wsX4_hasClash := goodIn_r _ [42, 12, 43, 44, 45, 6, 46, 47, 48, 49, 50, 13, 14, 15, 16, 17, 18, 51, 52, 53, 54, 55, 56, 57, 58, 59, 60, 61, 62, 63, 20, 64, 65, 66, 67, 68, 69, 70, 71, 72, 73, 74, 107, 108] (by decide +kernel) (by decide +kernel)
set_option maxRecDepth 20000 in
theorem gX6_setHands_X4_hasClash : GoodIn wsX6_setHands (wsV RX6 81 RX4 yX4_hasClash wsX4_hasClash) := goodIn_app (goodIn_of _ (by decide +kernel)) ggX6_setHands_X4_hasClash
set_option maxRecDepth 20000 in
theorem ggX6_setHands_X1_remember : GoodIn wsX6_setHands wsX1_remember := goodIn_r _ [79, 80, 81, 82, 83, 84, 85, 78, 86, 87, 88, 89, 6, 90, 12, 91, 92, 93, 16, 94, 18, 95, 96, 97, 98, 109, 110, 111, 107, 108] (by decide +kernel) (by decide +kernel)
set_option maxRecDepth 20000 in
theorem gX6_setHands_X1_remember : GoodIn wsX6_setHands (wsV RX6 85 RX1 yX1_remember wsX1_remember) := goodIn_app (goodIn_of _ (by decide +kernel)) ggX6_setHands_X1_remember
theorem dX6_setHands_0 : decode cX6_setHands 0 = .ok (.aload_n 0, 1) := by decide +kernel
theorem dX6_setHands_1 : decode cX6_setHands 1 = .ok (.getfield 12, 3) := by decide +kernel
theorem dX6_setHands_4 : decode cX6_setHands 4 = .ok (.iload_n 1, 1) := by decide +kernel
theorem dX6_setHands_5 : decode cX6_setHands 5 = .ok (.invokevirtual 62, 3) := by decide +kernel
theorem dX6_setHands_8 : decode cX6_setHands 8 = .ok (.ifCond .ne 5, 3) := by decide +kernel
theorem dX6_setHands_11 : decode cX6_setHands 11 = .ok (.iconst (-1), 1) := by decide +kernel
theorem dX6_setHands_12 : decode cX6_setHands 12 = .ok (.ireturn, 1) := by decide +kernel
theorem dX6_setHands_13 : decode cX6_setHands 13 = .ok (.iload_n 2, 1) := by decide +kernel
theorem dX6_setHands_14 : decode cX6_setHands 14 = .ok (.bipush 6, 2) := by decide +kernel
theorem dX6_setHands_16 : decode cX6_setHands 16 = .ok (.invokestatic 66, 3) := by decide +kernel
theorem dX6_setHands_19 : decode cX6_setHands 19 = .ok (.ifCond .eq 12, 3) := by decide +kernel
theorem dX6_setHands_22 : decode cX6_setHands 22 = .ok (.iload_n 3, 1) := by decide +kernel
theorem dX6_setHands_23 : decode cX6_setHands 23 = .ok (.bipush 6, 2) := by decide +kernel
theorem dX6_setHands_25 : decode cX6_setHands 25 = .ok (.invokestatic 66, 3) := by decide +kernel
theorem dX6_setHands_28 : decode cX6_setHands 28 = .ok (.ifCond .ne 6, 3) := by decide +kernel
theorem dX6_setHands_31 : decode cX6_setHands 31 = .ok (.bipush (-2), 2) := by decide +kernel
theorem dX6_setHands_33 : decode cX6_setHands 33 = .ok (.ireturn, 1) := by decide +kernel
theorem dX6_setHands_34 : decode cX6_setHands 34 = .ok (.aload_n 0, 1) := by decide +kernel
theorem dX6_setHands_35 : decode cX6_setHands 35 = .ok (.getfield 12, 3) := by decide +kernel
theorem dX6_setHands_38 : decode cX6_setHands 38 = .ok (.iload_n 1, 1) := by decide +kernel
theorem dX6_setHands_39 : decode cX6_setHands 39 = .ok (.invokevirtual 70, 3) := by decide +kernel
theorem dX6_setHands_42 : decode cX6_setHands 42 = .ok (.istore 4, 2) := by decide +kernel
theorem dX6_setHands_44 : decode cX6_setHands 44 = .ok (.aload_n 0, 1) := by decide +kernel
theorem dX6_setHands_45 : decode cX6_setHands 45 = .ok (.getfield 12, 3) := by decide +kernel
theorem dX6_setHands_48 : decode cX6_setHands 48 = .ok (.iload_n 1, 1) := by decide +kernel
theorem dX6_setHands_49 : decode cX6_setHands 49 = .ok (.invokevirtual 74, 3) := by decide +kernel
theorem dX6_setHands_52 : decode cX6_setHands 52 = .ok (.istore 5, 2) := by decide +kernel
theorem dX6_setHands_54 : decode cX6_setHands 54 = .ok (.aload_n 0, 1) := by decide +kernel
theorem dX6_setHands_55 : decode cX6_setHands 55 = .ok (.getfield 12, 3) := by decide +kernel
theorem dX6_setHands_58 : decode cX6_setHands 58 = .ok (.iload_n 1, 1) := by decide +kernel
theorem dX6_setHands_59 : decode cX6_setHands 59 = .ok (.iload_n 2, 1) := by decide +kernel
theorem dX6_setHands_60 : decode cX6_setHands 60 = .ok (.iload_n 3, 1) := by decide +kernel
theorem dX6_setHands_61 : decode cX6_setHands 61 = .ok (.invokevirtual 77, 3) := by decide +kernel
theorem dX6_setHands_64 : decode cX6_setHands 64 = .ok (.aload_n 0, 1) := by decide +kernel
theorem dX6_setHands_65 : decode cX6_setHands 65 = .ok (.getfield 12, 3) := by decide +kernel
theorem dX6_setHands_68 : decode cX6_setHands 68 = .ok (.invokevirtual 81, 3) := by decide +kernel
theorem dX6_setHands_71 : decode cX6_setHands 71 = .ok (.istore 6, 2) := by decide +kernel
theorem dX6_setHands_73 : decode cX6_setHands 73 = .ok (.aload_n 0, 1) := by decide +kernel
theorem dX6_setHands_74 : decode cX6_setHands 74 = .ok (.getfield 12, 3) := by decide +kernel
theorem dX6_setHands_77 : decode cX6_setHands 77 = .ok (.iload_n 1, 1) := by decide +kernel
theorem dX6_setHands_78 : decode cX6_setHands 78 = .ok (.iload 4, 2) := by decide +kernel
theorem dX6_setHands_80 : decode cX6_setHands 80 = .ok (.iload 5, 2) := by decide +kernel
theorem dX6_setHands_82 : decode cX6_setHands 82 = .ok (.invokevirtual 77, 3) := by decide +kernel
theorem dX6_setHands_85 : decode cX6_setHands 85 = .ok (.iload 6, 2) := by decide +kernel
theorem dX6_setHands_87 : decode cX6_setHands 87 = .ok (.ifCond .eq 6, 3) := by decide +kernel
theorem dX6_setHands_90 : decode cX6_setHands 90 = .ok (.bipush (-4), 2) := by decide +kernel
theorem dX6_setHands_92 : decode cX6_setHands 92 = .ok (.ireturn, 1) := by decide +kernel
theorem dX6_setHands_93 : decode cX6_setHands 93 = .ok (.iload_n 2, 1) := by decide +kernel
theorem dX6_setHands_94 : decode cX6_setHands 94 = .ok (.iload 4, 2) := by decide +kernel
theorem dX6_setHands_96 : decode cX6_setHands 96 = .ok (.if_icmp .ne 12, 3) := by decide +kernel
theorem dX6_setHands_99 : decode cX6_setHands 99 = .ok (.iload_n 3, 1) := by decide +kernel
theorem dX6_setHands_100 : decode cX6_setHands 100 = .ok (.iload 5, 2) := by decide +kernel
theorem dX6_setHands_102 : decode cX6_setHands 102 = .ok (.if_icmp .ne 6, 3) := by decide +kernel
theorem dX6_setHands_105 : decode cX6_setHands 105 = .ok (.bipush (-5), 2) := by decide +kernel
theorem dX6_setHands_107 : decode cX6_setHands 107 = .ok (.ireturn, 1) := by decide +kernel
theorem dX6_setHands_108 : decode cX6_setHands 108 = .ok (.aload_n 0, 1) := by decide +kernel
theorem dX6_setHands_109 : decode cX6_setHands 109 = .ok (.getfield 35, 3) := by decide +kernel
theorem dX6_setHands_112 : decode cX6_setHands 112 = .ok (.aload_n 0, 1) := by decide +kernel
theorem dX6_setHands_113 : decode cX6_setHands 113 = .ok (.getfield 12, 3) := by decide +kernel
theorem dX6_setHands_116 : decode cX6_setHands 116 = .ok (.invokevirtual 85, 3) := by decide +kernel
theorem dX6_setHands_119 : decode cX6_setHands 119 = .ok (.aload_n 0, 1) := by decide +kernel
theorem dX6_setHands_120 : decode cX6_setHands 120 = .ok (.getfield 12, 3) := by decide +kernel
theorem dX6_setHands_123 : decode cX6_setHands 123 = .ok (.iload_n 1, 1) := by decide +kernel
theorem dX6_setHands_124 : decode cX6_setHands 124 = .ok (.iload_n 2, 1) := by decide +kernel
theorem dX6_setHands_125 : decode cX6_setHands 125 = .ok (.iload_n 3, 1) := by decide +kernel
theorem dX6_setHands_126 : decode cX6_setHands 126 = .ok (.invokevirtual 77, 3) := by decide +kernel
theorem dX6_setHands_129 : decode cX6_setHands 129 = .ok (.bipush 10, 2) := by decide +kernel
theorem dX6_setHands_131 : decode cX6_setHands 131 = .ok (.iload 4, 2) := by decide +kernel
theorem dX6_setHands_133 : decode cX6_setHands 133 = .ok (.imul, 1) := by decide +kernel
theorem dX6_setHands_134 : decode cX6_setHands 134 = .ok (.iload 5, 2) := by decide +kernel
theorem dX6_setHands_136 : decode cX6_setHands 136 = .ok (.iadd, 1) := by decide +kernel
theorem dX6_setHands_137 : decode cX6_setHands 137 = .ok (.ireturn, 1) := by decide +kernel
set_option maxRecDepth 20000 in
theorem ggX6_setRule_X6_isBelow : GoodIn wsX6_setRule wsX6_isBelow := goodIn_r _ [6] (by decide +kernel) (by decide +kernel)
set_option maxRecDepth 20000 in
theorem gX6_setRule_X6_isBelow : GoodIn wsX6_setRule (va_wsS RX6 66 yX6_isBelow wsX6_isBelow) := goodIn_app (goodIn_of _ (by decide +kernel)) ggX6_setRule_X6_isBelow
set_option maxRecDepth 20000 in
theorem ggX6_setRule_X4_ruleNow : GoodIn wsX6_setRule wsX4_ruleNow := goodIn_r _ [11, 12, 13, 14, 15, 16, 17, 18, 92, 93] (by decide +kernel) (by decide +kernel)
set_option maxRecDepth 20000 in
theorem gX6_setRule_X4_ruleNow : GoodIn wsX6_setRule (wsV RX6 88 RX4 yX4_ruleNow wsX4_ruleNow) := goodIn_app (goodIn_of _ (by decide +kernel)) ggX6_setRule_X4_ruleNow
set_option maxRecDepth 20000 in
theorem ggX6_setRule_X4_putRule : GoodIn wsX6_setRule wsX4_putRule := goodIn_r _ [22, 12, 23, 24, 25, 16, 26, 18, 92, 93] (by decide +kernel) (by decide +kernel)
set_option maxRecDepth 20000 in
theorem gX6_setRule_X4_putRule : GoodIn wsX6_setRule (wsV RX6 92 RX4 yX4_putRule wsX4_putRule) := goodIn_app (goodIn_of _ (by decide +kernel)) ggX6_setRule_X4_putRule
set_option maxRecDepth 20000 in
theorem ggX6_setRule_X4_hasClash : GoodIn wsX6_setRule wsX4_hasClash := goodIn_r _ [30, 12, 31, 32, 33, 10, 34, 35, 36, 37, 38, 13, 14, 15, 16, 17, 18, 39, 40, 41, 42, 43, 44, 45, 46, 47, 48, 49, 50, 51, 5, 52, 53, 54, 55, 56, 57, 58, 59, 8, 9, 11, 92, 93] (by decide +kernel) (by decide +kernel)
set_option maxRecDepth 20000 in
theorem gX6_setRule_X4_hasClash : GoodIn wsX6_setRule (wsV RX6 81 RX4 yX4_hasClash wsX4_hasClash) := goodIn_app (goodIn_of _ (by decide +kernel)) ggX6_setRule_X4_hasClash
set_option maxRecDepth 20000 in
theorem ggX6_setRule_X1_remember : GoodIn wsX6_setRule wsX1_remember := goodIn_r _ [64, 65, 66, 67, 68, 69, 70, 63, 71, 72, 73, 74, 10, 75, 12, 76, 77, 78, 16, 79, 18, 80, 81, 82, 83, 94, 95, 96, 92, 93] (by decide +kernel) (by decide +kernel)
set_option maxRecDepth 20000 in
theorem gX6_setRule_X1_remember : GoodIn wsX6_setRule (wsV RX6 85 RX1 yX1_remember wsX1_remember) := goodIn_app (goodIn_of _ (by decide +kernel)) ggX6_setRule_X1_remember
theorem dX6_setRule_0 : decode cX6_setRule 0 = .ok (.iload_n 1, 1) := by decide +kernel
theorem dX6_setRule_1 : decode cX6_setRule 1 = .ok (.iconst 3, 1) := by decide +kernel
theorem dX6_setRule_2 : decode cX6_setRule 2 = .ok (.invokestatic 66, 3) := by decide +kernel
theorem dX6_setRule_5 : decode cX6_setRule 5 = .ok (.ifCond .ne 6, 3) := by decide +kernel
theorem dX6_setRule_8 : decode cX6_setRule 8 = .ok (.bipush (-2), 2) := by decide +kernel
theorem dX6_setRule_10 : decode cX6_setRule 10 = .ok (.ireturn, 1) := by decide +kernel
theorem dX6_setRule_11 : decode cX6_setRule 11 = .ok (.aload_n 0, 1) := by decide +kernel
theorem dX6_setRule_12 : decode cX6_setRule 12 = .ok (.getfield 12, 3) := by decide +kernel
theorem dX6_setRule_15 : decode cX6_setRule 15 = .ok (.invokevirtual 88, 3) := by decide +kernel
theorem dX6_setRule_18 : decode cX6_setRule 18 = .ok (.istore_n 2, 1) := by decide +kernel
theorem dX6_setRule_19 : decode cX6_setRule 19 = .ok (.aload_n 0, 1) := by decide +kernel
theorem dX6_setRule_20 : decode cX6_setRule 20 = .ok (.getfield 12, 3) := by decide +kernel
theorem dX6_setRule_23 : decode cX6_setRule 23 = .ok (.iload_n 1, 1) := by decide +kernel
theorem dX6_setRule_24 : decode cX6_setRule 24 = .ok (.invokevirtual 92, 3) := by decide +kernel
theorem dX6_setRule_27 : decode cX6_setRule 27 = .ok (.aload_n 0, 1) := by decide +kernel
theorem dX6_setRule_28 : decode cX6_setRule 28 = .ok (.getfield 12, 3) := by decide +kernel
theorem dX6_setRule_31 : decode cX6_setRule 31 = .ok (.invokevirtual 81, 3) := by decide +kernel
theorem dX6_setRule_34 : decode cX6_setRule 34 = .ok (.istore_n 3, 1) := by decide +kernel
theorem dX6_setRule_35 : decode cX6_setRule 35 = .ok (.aload_n 0, 1) := by decide +kernel
theorem dX6_setRule_36 : decode cX6_setRule 36 = .ok (.getfield 12, 3) := by decide +kernel
theorem dX6_setRule_39 : decode cX6_setRule 39 = .ok (.iload_n 2, 1) := by decide +kernel
theorem dX6_setRule_40 : decode cX6_setRule 40 = .ok (.invokevirtual 92, 3) := by decide +kernel
theorem dX6_setRule_43 : decode cX6_setRule 43 = .ok (.iload_n 3, 1) := by decide +kernel
theorem dX6_setRule_44 : decode cX6_setRule 44 = .ok (.ifCond .eq 6, 3) := by decide +kernel
theorem dX6_setRule_47 : decode cX6_setRule 47 = .ok (.bipush (-4), 2) := by decide +kernel
theorem dX6_setRule_49 : decode cX6_setRule 49 = .ok (.ireturn, 1) := by decide +kernel
theorem dX6_setRule_50 : decode cX6_setRule 50 = .ok (.iload_n 1, 1) := by decide +kernel
theorem dX6_setRule_51 : decode cX6_setRule 51 = .ok (.iload_n 2, 1) := by decide +kernel
theorem dX6_setRule_52 : decode cX6_setRule 52 = .ok (.if_icmp .ne 6, 3) := by decide +kernel
theorem dX6_setRule_55 : decode cX6_setRule 55 = .ok (.bipush (-5), 2) := by decide +kernel
theorem dX6_setRule_57 : decode cX6_setRule 57 = .ok (.ireturn, 1) := by decide +kernel
theorem dX6_setRule_58 : decode cX6_setRule 58 = .ok (.aload_n 0, 1) := by decide +kernel
theorem dX6_setRule_59 : decode cX6_setRule 59 = .ok (.getfield 35, 3) := by decide +kernel
theorem dX6_setRule_62 : decode cX6_setRule 62 = .ok (.aload_n 0, 1) := by decide +kernel
theorem dX6_setRule_63 : decode cX6_setRule 63 = .ok (.getfield 12, 3) := by decide +kernel
theorem dX6_setRule_66 : decode cX6_setRule 66 = .ok (.invokevirtual 85, 3) := by decide +kernel
theorem dX6_setRule_69 : decode cX6_setRule 69 = .ok (.aload_n 0, 1) := by decide +kernel
theorem dX6_setRule_70 : decode cX6_setRule 70 = .ok (.getfield 12, 3) := by decide +kernel
theorem dX6_setRule_73 : decode cX6_setRule 73 = .ok (.iload_n 1, 1) := by decide +kernel
theorem dX6_setRule_74 : decode cX6_setRule 74 = .ok (.invokevirtual 92, 3) := by decide +kernel
theorem dX6_setRule_77 : decode cX6_setRule 77 = .ok (.iload_n 2, 1) := by decide +kernel
theorem dX6_setRule_78 : decode cX6_setRule 78 = .ok (.ireturn, 1) := by decide +kernel
set_option maxRecDepth 20000 in
theorem ggX6_setKinds_X2_highestKind : GoodIn wsX6_setKinds wsX2_highestKind := goodIn_r _ [8, 9, 10, 11, 12, 13, 14, 15, 16, 17, 18, 19, 20, 21, 22, 23, 24, 25, 26, 27, 28, 29, 30, 31, 32, 33, 34, 35, 36, 81, 82, 83] (by decide +kernel) (by decide +kernel)
set_option maxRecDepth 20000 in
theorem gX6_setKinds_X2_highestKind : GoodIn wsX6_setKinds (wsV RX6 95 RX2 yX2_highestKind wsX2_highestKind) := goodIn_app (goodIn_of _ (by decide +kernel)) ggX6_setKinds_X2_highestKind
set_option maxRecDepth 20000 in
theorem ggX6_setKinds_X4_kindsNow : GoodIn wsX6_setKinds wsX4_kindsNow := goodIn_r _ [40, 19, 20, 21, 22, 23, 24, 25, 82, 83] (by decide +kernel) (by decide +kernel)
set_option maxRecDepth 20000 in
theorem gX6_setKinds_X4_kindsNow : GoodIn wsX6_setKinds (wsV RX6 98 RX4 yX4_kindsNow wsX4_kindsNow) := goodIn_app (goodIn_of _ (by decide +kernel)) ggX6_setKinds_X4_kindsNow
set_option maxRecDepth 20000 in
theorem ggX6_setKinds_X1_remember : GoodIn wsX6_setKinds wsX1_remember := goodIn_r _ [45, 46, 47, 48, 49, 50, 51, 44, 52, 53, 54, 55, 17, 56, 19, 57, 58, 59, 23, 60, 25, 61, 62, 63, 64, 84, 85, 86, 82, 83] (by decide +kernel) (by decide +kernel)
set_option maxRecDepth 20000 in
theorem gX6_setKinds_X1_remember : GoodIn wsX6_setKinds (wsV RX6 85 RX1 yX1_remember wsX1_remember) := goodIn_app (goodIn_of _ (by decide +kernel)) ggX6_setKinds_X1_remember
set_option maxRecDepth 20000 in
theorem ggX6_setKinds_X4_putKinds : GoodIn wsX6_setKinds wsX4_putKinds := goodIn_r _ [68, 19, 69, 70, 71, 23, 72, 25, 82, 83] (by decide +kernel) (by decide +kernel)
set_option maxRecDepth 20000 in
theorem gX6_setKinds_X4_putKinds : GoodIn wsX6_setKinds (wsV RX6 101 RX4 yX4_putKinds wsX4_putKinds) := goodIn_app (goodIn_of _ (by decide +kernel)) ggX6_setKinds_X4_putKinds
theorem dX6_setKinds_0 : decode cX6_setKinds 0 = .ok (.iload_n 1, 1) := by decide +kernel
theorem dX6_setKinds_1 : decode cX6_setKinds 1 = .ok (.iconst 1, 1) := by decide +kernel
theorem dX6_setKinds_2 : decode cX6_setKinds 2 = .ok (.if_icmp .lt 9, 3) := by decide +kernel
theorem dX6_setKinds_5 : decode cX6_setKinds 5 = .ok (.iload_n 1, 1) := by decide +kernel
theorem dX6_setKinds_6 : decode cX6_setKinds 6 = .ok (.bipush 10, 2) := by decide +kernel
theorem dX6_setKinds_8 : decode cX6_setKinds 8 = .ok (.if_icmp .le 6, 3) := by decide +kernel
theorem dX6_setKinds_11 : decode cX6_setKinds 11 = .ok (.bipush (-2), 2) := by decide +kernel
theorem dX6_setKinds_13 : decode cX6_setKinds 13 = .ok (.ireturn, 1) := by decide +kernel
theorem dX6_setKinds_14 : decode cX6_setKinds 14 = .ok (.aload_n 0, 1) := by decide +kernel
theorem dX6_setKinds_15 : decode cX6_setKinds 15 = .ok (.getfield 21, 3) := by decide +kernel
theorem dX6_setKinds_18 : decode cX6_setKinds 18 = .ok (.invokevirtual 95, 3) := by decide +kernel
theorem dX6_setKinds_21 : decode cX6_setKinds 21 = .ok (.iload_n 1, 1) := by decide +kernel
theorem dX6_setKinds_22 : decode cX6_setKinds 22 = .ok (.if_icmp .lt 6, 3) := by decide +kernel
theorem dX6_setKinds_25 : decode cX6_setKinds 25 = .ok (.bipush (-4), 2) := by decide +kernel
theorem dX6_setKinds_27 : decode cX6_setKinds 27 = .ok (.ireturn, 1) := by decide +kernel
theorem dX6_setKinds_28 : decode cX6_setKinds 28 = .ok (.aload_n 0, 1) := by decide +kernel
theorem dX6_setKinds_29 : decode cX6_setKinds 29 = .ok (.getfield 12, 3) := by decide +kernel
theorem dX6_setKinds_32 : decode cX6_setKinds 32 = .ok (.invokevirtual 98, 3) := by decide +kernel
theorem dX6_setKinds_35 : decode cX6_setKinds 35 = .ok (.istore_n 2, 1) := by decide +kernel
theorem dX6_setKinds_36 : decode cX6_setKinds 36 = .ok (.iload_n 1, 1) := by decide +kernel
theorem dX6_setKinds_37 : decode cX6_setKinds 37 = .ok (.iload_n 2, 1) := by decide +kernel
theorem dX6_setKinds_38 : decode cX6_setKinds 38 = .ok (.if_icmp .ne 6, 3) := by decide +kernel
theorem dX6_setKinds_41 : decode cX6_setKinds 41 = .ok (.bipush (-5), 2) := by decide +kernel
theorem dX6_setKinds_43 : decode cX6_setKinds 43 = .ok (.ireturn, 1) := by decide +kernel
theorem dX6_setKinds_44 : decode cX6_setKinds 44 = .ok (.aload_n 0, 1) := by decide +kernel
theorem dX6_setKinds_45 : decode cX6_setKinds 45 = .ok (.getfield 35, 3) := by decide +kernel
theorem dX6_setKinds_48 : decode cX6_setKinds 48 = .ok (.aload_n 0, 1) := by decide +kernel
theorem dX6_setKinds_49 : decode cX6_setKinds 49 = .ok (.getfield 12, 3) := by decide +kernel
theorem dX6_setKinds_52 : decode cX6_setKinds 52 = .ok (.invokevirtual 85, 3) := by decide +kernel
theorem dX6_setKinds_55 : decode cX6_setKinds 55 = .ok (.aload_n 0, 1) := by decide +kernel
theorem dX6_setKinds_56 : decode cX6_setKinds 56 = .ok (.getfield 12, 3) := by decide +kernel
theorem dX6_setKinds_59 : decode cX6_setKinds 59 = .ok (.iload_n 1, 1) := by decide +kernel
theorem dX6_setKinds_60 : decode cX6_setKinds 60 = .ok (.invokevirtual 101, 3) := by decide +kernel
theorem dX6_setKinds_63 : decode cX6_setKinds 63 = .ok (.iload_n 2, 1) := by decide +kernel
theorem dX6_setKinds_64 : decode cX6_setKinds 64 = .ok (.ireturn, 1) := by decide +kernel
set_option maxRecDepth 20000 in
theorem ggX6_cutDoll_X4_hasKind : GoodIn wsX6_cutDoll wsX4_hasKind := goodIn_r _ [7, 8, 9, 10, 6, 11, 12, 13, 14, 15, 16, 17, 18, 19, 20, 21, 84, 85] (by decide +kernel) (by decide +kernel)
set_option maxRecDepth 20000 in
theorem gX6_cutDoll_X4_hasKind : GoodIn wsX6_cutDoll (wsV RX6 62 RX4 yX4_hasKind wsX4_hasKind) := goodIn_app (goodIn_of _ (by decide +kernel)) ggX6_cutDoll_X4_hasKind
set_option maxRecDepth 20000 in
theorem ggX6_cutDoll_X4_freeNumber : GoodIn wsX6_cutDoll wsX4_freeNumber := goodIn_r _ [25, 26, 27, 28, 6, 29, 12, 13, 14, 15, 16, 17, 18, 84, 85] (by decide +kernel) (by decide +kernel)
set_option maxRecDepth 20000 in
theorem gX6_cutDoll_X4_freeNumber : GoodIn wsX6_cutDoll (wsV RX6 104 RX4 yX4_freeNumber wsX4_freeNumber) := goodIn_app (goodIn_of _ (by decide +kernel)) ggX6_cutDoll_X4_freeNumber
set_option maxRecDepth 20000 in
theorem ggX6_cutDoll_X1_remember : GoodIn wsX6_cutDoll wsX1_remember := goodIn_r _ [34, 35, 36, 37, 38, 39, 40, 33, 41, 42, 43, 44, 6, 45, 12, 46, 47, 48, 16, 49, 18, 50, 51, 52, 53, 86, 87, 88, 84, 85] (by decide +kernel) (by decide +kernel)
set_option maxRecDepth 20000 in
theorem gX6_cutDoll_X1_remember : GoodIn wsX6_cutDoll (wsV RX6 85 RX1 yX1_remember wsX1_remember) := goodIn_app (goodIn_of _ (by decide +kernel)) ggX6_cutDoll_X1_remember
set_option maxRecDepth 20000 in
theorem ggX6_cutDoll_X6_dollOf : GoodIn wsX6_cutDoll wsX6_dollOf := goodIn_r _ [56, 57, 58, 20, 59] (by decide +kernel) (by decide +kernel)
set_option maxRecDepth 20000 in
theorem gX6_cutDoll_X6_dollOf : GoodIn wsX6_cutDoll (va_wsS RX6 107 yX6_dollOf wsX6_dollOf) := goodIn_app (goodIn_of _ (by decide +kernel)) ggX6_cutDoll_X6_dollOf
set_option maxRecDepth 20000 in
theorem ggX6_cutDoll_X4_putDoll : GoodIn wsX6_cutDoll wsX4_putDoll := goodIn_r _ [63, 12, 64, 65, 66, 6, 67, 68, 69, 70, 16, 71, 18, 84, 85] (by decide +kernel) (by decide +kernel)
set_option maxRecDepth 20000 in
theorem gX6_cutDoll_X4_putDoll : GoodIn wsX6_cutDoll (wsV RX6 111 RX4 yX4_putDoll wsX4_putDoll) := goodIn_app (goodIn_of _ (by decide +kernel)) ggX6_cutDoll_X4_putDoll
set_option maxRecDepth 20000 in
theorem ggX6_cutDoll_X4_putLength : GoodIn wsX6_cutDoll wsX4_putLength := goodIn_r _ [75, 12, 68, 69, 70, 16, 71, 18, 84, 85] (by decide +kernel) (by decide +kernel)
set_option maxRecDepth 20000 in
theorem gX6_cutDoll_X4_putLength : GoodIn wsX6_cutDoll (wsV RX6 114 RX4 yX4_putLength wsX4_putLength) := goodIn_app (goodIn_of _ (by decide +kernel)) ggX6_cutDoll_X4_putLength
theorem dX6_cutDoll_0 : decode cX6_cutDoll 0 = .ok (.aload_n 0, 1) := by decide +kernel
theorem dX6_cutDoll_1 : decode cX6_cutDoll 1 = .ok (.getfield 12, 3) := by decide +kernel
theorem dX6_cutDoll_4 : decode cX6_cutDoll 4 = .ok (.iload_n 1, 1) := by decide +kernel
theorem dX6_cutDoll_5 : decode cX6_cutDoll 5 = .ok (.invokevirtual 62, 3) := by decide +kernel
theorem dX6_cutDoll_8 : decode cX6_cutDoll 8 = .ok (.ifCond .ne 5, 3) := by decide +kernel
theorem dX6_cutDoll_11 : decode cX6_cutDoll 11 = .ok (.iconst (-1), 1) := by decide +kernel
theorem dX6_cutDoll_12 : decode cX6_cutDoll 12 = .ok (.ireturn, 1) := by decide +kernel
theorem dX6_cutDoll_13 : decode cX6_cutDoll 13 = .ok (.aload_n 0, 1) := by decide +kernel
theorem dX6_cutDoll_14 : decode cX6_cutDoll 14 = .ok (.getfield 12, 3) := by decide +kernel
theorem dX6_cutDoll_17 : decode cX6_cutDoll 17 = .ok (.invokevirtual 104, 3) := by decide +kernel
theorem dX6_cutDoll_20 : decode cX6_cutDoll 20 = .ok (.istore_n 3, 1) := by decide +kernel
theorem dX6_cutDoll_21 : decode cX6_cutDoll 21 = .ok (.iload_n 3, 1) := by decide +kernel
theorem dX6_cutDoll_22 : decode cX6_cutDoll 22 = .ok (.iconst (-1), 1) := by decide +kernel
theorem dX6_cutDoll_23 : decode cX6_cutDoll 23 = .ok (.if_icmp .ne 6, 3) := by decide +kernel
theorem dX6_cutDoll_26 : decode cX6_cutDoll 26 = .ok (.bipush (-3), 2) := by decide +kernel
theorem dX6_cutDoll_28 : decode cX6_cutDoll 28 = .ok (.ireturn, 1) := by decide +kernel
theorem dX6_cutDoll_29 : decode cX6_cutDoll 29 = .ok (.aload_n 0, 1) := by decide +kernel
theorem dX6_cutDoll_30 : decode cX6_cutDoll 30 = .ok (.getfield 35, 3) := by decide +kernel
theorem dX6_cutDoll_33 : decode cX6_cutDoll 33 = .ok (.aload_n 0, 1) := by decide +kernel
theorem dX6_cutDoll_34 : decode cX6_cutDoll 34 = .ok (.getfield 12, 3) := by decide +kernel
theorem dX6_cutDoll_37 : decode cX6_cutDoll 37 = .ok (.invokevirtual 85, 3) := by decide +kernel
theorem dX6_cutDoll_40 : decode cX6_cutDoll 40 = .ok (.aload_n 0, 1) := by decide +kernel
theorem dX6_cutDoll_41 : decode cX6_cutDoll 41 = .ok (.getfield 12, 3) := by decide +kernel
theorem dX6_cutDoll_44 : decode cX6_cutDoll 44 = .ok (.iload_n 3, 1) := by decide +kernel
theorem dX6_cutDoll_45 : decode cX6_cutDoll 45 = .ok (.iconst 0, 1) := by decide +kernel
theorem dX6_cutDoll_46 : decode cX6_cutDoll 46 = .ok (.iload_n 1, 1) := by decide +kernel
theorem dX6_cutDoll_47 : decode cX6_cutDoll 47 = .ok (.iload_n 2, 1) := by decide +kernel
theorem dX6_cutDoll_48 : decode cX6_cutDoll 48 = .ok (.invokestatic 107, 3) := by decide +kernel
theorem dX6_cutDoll_51 : decode cX6_cutDoll 51 = .ok (.invokevirtual 111, 3) := by decide +kernel
theorem dX6_cutDoll_54 : decode cX6_cutDoll 54 = .ok (.aload_n 0, 1) := by decide +kernel
theorem dX6_cutDoll_55 : decode cX6_cutDoll 55 = .ok (.getfield 12, 3) := by decide +kernel
theorem dX6_cutDoll_58 : decode cX6_cutDoll 58 = .ok (.iload_n 3, 1) := by decide +kernel
theorem dX6_cutDoll_59 : decode cX6_cutDoll 59 = .ok (.iconst 1, 1) := by decide +kernel
theorem dX6_cutDoll_60 : decode cX6_cutDoll 60 = .ok (.invokevirtual 114, 3) := by decide +kernel
theorem dX6_cutDoll_63 : decode cX6_cutDoll 63 = .ok (.iload_n 3, 1) := by decide +kernel
theorem dX6_cutDoll_64 : decode cX6_cutDoll 64 = .ok (.ireturn, 1) := by decide +kernel
set_option maxRecDepth 20000 in
theorem ggX6_join_X4_hasGarland : GoodIn wsX6_join wsX4_hasGarland := goodIn_r _ [7, 8, 9, 10, 11, 12, 13, 6, 14, 15, 16, 17, 18, 19, 20, 21, 103, 104] (by decide +kernel) (by decide +kernel)
set_option maxRecDepth 20000 in
theorem gX6_join_X4_hasGarland : GoodIn wsX6_join (wsV RX6 118 RX4 yX4_hasGarland wsX4_hasGarland) := goodIn_app (goodIn_of _ (by decide +kernel)) ggX6_join_X4_hasGarland
set_option maxRecDepth 20000 in
theorem ggX6_join_X4_lastDoll : GoodIn wsX6_join wsX4_lastDoll := goodIn_r _ [25, 11, 12, 13, 6, 14, 15, 16, 17, 18, 19, 20, 21, 26, 27, 28, 29, 30, 31, 32, 33, 103, 104] (by decide +kernel) (by decide +kernel)
set_option maxRecDepth 20000 in
theorem gX6_join_X4_lastDoll : GoodIn wsX6_join (wsV RX6 121 RX4 yX4_lastDoll wsX4_lastDoll) := goodIn_app (goodIn_of _ (by decide +kernel)) ggX6_join_X4_lastDoll
set_option maxRecDepth 20000 in
theorem ggX6_join_X4_firstDoll : GoodIn wsX6_join wsX4_firstDoll := goodIn_r _ [37, 26, 27, 28, 6, 29, 15, 30, 31, 32, 33, 16, 17, 18, 19, 20, 21, 103, 104] (by decide +kernel) (by decide +kernel)
set_option maxRecDepth 20000 in
theorem gX6_join_X4_firstDoll : GoodIn wsX6_join (wsV RX6 124 RX4 yX4_firstDoll wsX4_firstDoll) := goodIn_app (goodIn_of _ (by decide +kernel)) ggX6_join_X4_firstDoll
set_option maxRecDepth 20000 in
theorem ggX6_join_X4_clash : GoodIn wsX6_join wsX4_clash := goodIn_r _ [41, 42, 43, 44, 6, 45, 15, 46, 9, 47, 48, 49, 16, 17, 18, 19, 20, 21, 50, 51, 52, 53, 54, 55, 56, 57, 103, 104] (by decide +kernel) (by decide +kernel)
set_option maxRecDepth 20000 in
theorem gX6_join_X4_clash : GoodIn wsX6_join (wsV RX6 127 RX4 yX4_clash wsX4_clash) := goodIn_app (goodIn_of _ (by decide +kernel)) ggX6_join_X4_clash
set_option maxRecDepth 20000 in
theorem ggX6_join_X4_lengthOf : GoodIn wsX6_join wsX4_lengthOf := goodIn_r _ [14, 15, 16, 17, 18, 19, 20, 21, 103, 104] (by decide +kernel) (by decide +kernel)
set_option maxRecDepth 20000 in
theorem gX6_join_X4_lengthOf : GoodIn wsX6_join (wsV RX6 130 RX4 yX4_lengthOf wsX4_lengthOf) := goodIn_app (goodIn_of _ (by decide +kernel)) ggX6_join_X4_lengthOf
set_option maxRecDepth 20000 in
theorem ggX6_join_X1_remember : GoodIn wsX6_join wsX1_remember := goodIn_r _ [63, 64, 65, 66, 67, 68, 69, 62, 70, 71, 72, 73, 6, 74, 15, 75, 76, 77, 19, 78, 21, 79, 80, 81, 82, 105, 106, 107, 103, 104] (by decide +kernel) (by decide +kernel)
set_option maxRecDepth 20000 in
theorem gX6_join_X1_remember : GoodIn wsX6_join (wsV RX6 85 RX1 yX1_remember wsX1_remember) := goodIn_app (goodIn_of _ (by decide +kernel)) ggX6_join_X1_remember
set_option maxRecDepth 20000 in
theorem ggX6_join_X4_copyDolls : GoodIn wsX6_join wsX4_copyDolls := goodIn_r _ [86, 15, 30, 31, 32, 6, 33, 75, 76, 77, 19, 78, 21, 79, 80, 81, 82, 103, 104] (by decide +kernel) (by decide +kernel)
set_option maxRecDepth 20000 in
theorem gX6_join_X4_copyDolls : GoodIn wsX6_join (wsV RX6 133 RX4 yX4_copyDolls wsX4_copyDolls) := goodIn_app (goodIn_of _ (by decide +kernel)) ggX6_join_X4_copyDolls
set_option maxRecDepth 20000 in
theorem ggX6_join_X4_putLength : GoodIn wsX6_join wsX4_putLength := goodIn_r _ [90, 15, 91, 92, 93, 19, 94, 21, 103, 104] (by decide +kernel) (by decide +kernel)
set_option maxRecDepth 20000 in
theorem gX6_join_X4_putLength : GoodIn wsX6_join (wsV RX6 114 RX4 yX4_putLength wsX4_putLength) := goodIn_app (goodIn_of _ (by decide +kernel)) ggX6_join_X4_putLength
theorem dX6_join_0 : decode cX6_join 0 = .ok (.aload_n 0, 1) := by decide +kernel
theorem dX6_join_1 : decode cX6_join 1 = .ok (.getfield 12, 3) := by decide +kernel
theorem dX6_join_4 : decode cX6_join 4 = .ok (.iload_n 1, 1) := by decide +kernel
theorem dX6_join_5 : decode cX6_join 5 = .ok (.invokevirtual 118, 3) := by decide +kernel
theorem dX6_join_8 : decode cX6_join 8 = .ok (.ifCond .eq 14, 3) := by decide +kernel
theorem dX6_join_11 : decode cX6_join 11 = .ok (.aload_n 0, 1) := by decide +kernel
theorem dX6_join_12 : decode cX6_join 12 = .ok (.getfield 12, 3) := by decide +kernel
theorem dX6_join_15 : decode cX6_join 15 = .ok (.iload_n 2, 1) := by decide +kernel
theorem dX6_join_16 : decode cX6_join 16 = .ok (.invokevirtual 118, 3) := by decide +kernel
theorem dX6_join_19 : decode cX6_join 19 = .ok (.ifCond .ne 5, 3) := by decide +kernel
theorem dX6_join_22 : decode cX6_join 22 = .ok (.iconst (-1), 1) := by decide +kernel
theorem dX6_join_23 : decode cX6_join 23 = .ok (.ireturn, 1) := by decide +kernel
theorem dX6_join_24 : decode cX6_join 24 = .ok (.iload_n 1, 1) := by decide +kernel
theorem dX6_join_25 : decode cX6_join 25 = .ok (.iload_n 2, 1) := by decide +kernel
theorem dX6_join_26 : decode cX6_join 26 = .ok (.if_icmp .ne 6, 3) := by decide +kernel
theorem dX6_join_29 : decode cX6_join 29 = .ok (.bipush (-2), 2) := by decide +kernel
theorem dX6_join_31 : decode cX6_join 31 = .ok (.ireturn, 1) := by decide +kernel
theorem dX6_join_32 : decode cX6_join 32 = .ok (.aload_n 0, 1) := by decide +kernel
theorem dX6_join_33 : decode cX6_join 33 = .ok (.getfield 12, 3) := by decide +kernel
theorem dX6_join_36 : decode cX6_join 36 = .ok (.aload_n 0, 1) := by decide +kernel
theorem dX6_join_37 : decode cX6_join 37 = .ok (.getfield 12, 3) := by decide +kernel
theorem dX6_join_40 : decode cX6_join 40 = .ok (.iload_n 1, 1) := by decide +kernel
theorem dX6_join_41 : decode cX6_join 41 = .ok (.invokevirtual 121, 3) := by decide +kernel
theorem dX6_join_44 : decode cX6_join 44 = .ok (.aload_n 0, 1) := by decide +kernel
theorem dX6_join_45 : decode cX6_join 45 = .ok (.getfield 12, 3) := by decide +kernel
theorem dX6_join_48 : decode cX6_join 48 = .ok (.iload_n 2, 1) := by decide +kernel
theorem dX6_join_49 : decode cX6_join 49 = .ok (.invokevirtual 124, 3) := by decide +kernel
theorem dX6_join_52 : decode cX6_join 52 = .ok (.invokevirtual 127, 3) := by decide +kernel
theorem dX6_join_55 : decode cX6_join 55 = .ok (.ifCond .eq 6, 3) := by decide +kernel
theorem dX6_join_58 : decode cX6_join 58 = .ok (.bipush (-4), 2) := by decide +kernel
theorem dX6_join_60 : decode cX6_join 60 = .ok (.ireturn, 1) := by decide +kernel
theorem dX6_join_61 : decode cX6_join 61 = .ok (.aload_n 0, 1) := by decide +kernel
theorem dX6_join_62 : decode cX6_join 62 = .ok (.getfield 12, 3) := by decide +kernel
theorem dX6_join_65 : decode cX6_join 65 = .ok (.iload_n 1, 1) := by decide +kernel
theorem dX6_join_66 : decode cX6_join 66 = .ok (.invokevirtual 130, 3) := by decide +kernel
theorem dX6_join_69 : decode cX6_join 69 = .ok (.istore_n 3, 1) := by decide +kernel
theorem dX6_join_70 : decode cX6_join 70 = .ok (.iload_n 3, 1) := by decide +kernel
theorem dX6_join_71 : decode cX6_join 71 = .ok (.aload_n 0, 1) := by decide +kernel
theorem dX6_join_72 : decode cX6_join 72 = .ok (.getfield 12, 3) := by decide +kernel
theorem dX6_join_75 : decode cX6_join 75 = .ok (.iload_n 2, 1) := by decide +kernel
theorem dX6_join_76 : decode cX6_join 76 = .ok (.invokevirtual 130, 3) := by decide +kernel
theorem dX6_join_79 : decode cX6_join 79 = .ok (.iadd, 1) := by decide +kernel
theorem dX6_join_80 : decode cX6_join 80 = .ok (.istore 4, 2) := by decide +kernel
theorem dX6_join_82 : decode cX6_join 82 = .ok (.iload 4, 2) := by decide +kernel
theorem dX6_join_84 : decode cX6_join 84 = .ok (.bipush 32, 2) := by decide +kernel
theorem dX6_join_86 : decode cX6_join 86 = .ok (.if_icmp .le 6, 3) := by decide +kernel
theorem dX6_join_89 : decode cX6_join 89 = .ok (.bipush (-3), 2) := by decide +kernel
theorem dX6_join_91 : decode cX6_join 91 = .ok (.ireturn, 1) := by decide +kernel
theorem dX6_join_92 : decode cX6_join 92 = .ok (.aload_n 0, 1) := by decide +kernel
theorem dX6_join_93 : decode cX6_join 93 = .ok (.getfield 35, 3) := by decide +kernel
theorem dX6_join_96 : decode cX6_join 96 = .ok (.aload_n 0, 1) := by decide +kernel
theorem dX6_join_97 : decode cX6_join 97 = .ok (.getfield 12, 3) := by decide +kernel
theorem dX6_join_100 : decode cX6_join 100 = .ok (.invokevirtual 85, 3) := by decide +kernel
theorem dX6_join_103 : decode cX6_join 103 = .ok (.aload_n 0, 1) := by decide +kernel
theorem dX6_join_104 : decode cX6_join 104 = .ok (.getfield 12, 3) := by decide +kernel
theorem dX6_join_107 : decode cX6_join 107 = .ok (.iload_n 2, 1) := by decide +kernel
theorem dX6_join_108 : decode cX6_join 108 = .ok (.iconst 0, 1) := by decide +kernel
theorem dX6_join_109 : decode cX6_join 109 = .ok (.iload_n 1, 1) := by decide +kernel
theorem dX6_join_110 : decode cX6_join 110 = .ok (.iload_n 3, 1) := by decide +kernel
theorem dX6_join_111 : decode cX6_join 111 = .ok (.iload 4, 2) := by decide +kernel
theorem dX6_join_113 : decode cX6_join 113 = .ok (.iload_n 3, 1) := by decide +kernel
theorem dX6_join_114 : decode cX6_join 114 = .ok (.isub, 1) := by decide +kernel
theorem dX6_join_115 : decode cX6_join 115 = .ok (.invokevirtual 133, 3) := by decide +kernel
theorem dX6_join_118 : decode cX6_join 118 = .ok (.aload_n 0, 1) := by decide +kernel
theorem dX6_join_119 : decode cX6_join 119 = .ok (.getfield 12, 3) := by decide +kernel
theorem dX6_join_122 : decode cX6_join 122 = .ok (.iload_n 1, 1) := by decide +kernel
theorem dX6_join_123 : decode cX6_join 123 = .ok (.iload 4, 2) := by decide +kernel
theorem dX6_join_125 : decode cX6_join 125 = .ok (.invokevirtual 114, 3) := by decide +kernel
theorem dX6_join_128 : decode cX6_join 128 = .ok (.aload_n 0, 1) := by decide +kernel
theorem dX6_join_129 : decode cX6_join 129 = .ok (.getfield 12, 3) := by decide +kernel
theorem dX6_join_132 : decode cX6_join 132 = .ok (.iload_n 2, 1) := by decide +kernel
theorem dX6_join_133 : decode cX6_join 133 = .ok (.iconst 0, 1) := by decide +kernel
theorem dX6_join_134 : decode cX6_join 134 = .ok (.invokevirtual 114, 3) := by decide +kernel
theorem dX6_join_137 : decode cX6_join 137 = .ok (.iload 4, 2) := by decide +kernel
theorem dX6_join_139 : decode cX6_join 139 = .ok (.ireturn, 1) := by decide +kernel
set_option maxRecDepth 20000 in
theorem ggX6_cutApart_X4_hasGarland : GoodIn wsX6_cutApart wsX4_hasGarland := goodIn_r _ [7, 8, 9, 10, 11, 12, 13, 6, 14, 15, 16, 17, 18, 19, 20, 21, 75, 76] (by decide +kernel) (by decide +kernel)
set_option maxRecDepth 20000 in
theorem gX6_cutApart_X4_hasGarland : GoodIn wsX6_cutApart (wsV RX6 118 RX4 yX4_hasGarland wsX4_hasGarland) := goodIn_app (goodIn_of _ (by decide +kernel)) ggX6_cutApart_X4_hasGarland
set_option maxRecDepth 20000 in
theorem ggX6_cutApart_X4_lengthOf : GoodIn wsX6_cutApart wsX4_lengthOf := goodIn_r _ [14, 15, 16, 17, 18, 19, 20, 21, 75, 76] (by decide +kernel) (by decide +kernel)
set_option maxRecDepth 20000 in
theorem gX6_cutApart_X4_lengthOf : GoodIn wsX6_cutApart (wsV RX6 130 RX4 yX4_lengthOf wsX4_lengthOf) := goodIn_app (goodIn_of _ (by decide +kernel)) ggX6_cutApart_X4_lengthOf
set_option maxRecDepth 20000 in
theorem ggX6_cutApart_X4_freeNumber : GoodIn wsX6_cutApart wsX4_freeNumber := goodIn_r _ [26, 11, 12, 13, 6, 14, 15, 16, 17, 18, 19, 20, 21, 75, 76] (by decide +kernel) (by decide +kernel)
set_option maxRecDepth 20000 in
theorem gX6_cutApart_X4_freeNumber : GoodIn wsX6_cutApart (wsV RX6 104 RX4 yX4_freeNumber wsX4_freeNumber) := goodIn_app (goodIn_of _ (by decide +kernel)) ggX6_cutApart_X4_freeNumber
set_option maxRecDepth 20000 in
theorem ggX6_cutApart_X1_remember : GoodIn wsX6_cutApart wsX1_remember := goodIn_r _ [31, 32, 33, 34, 35, 36, 37, 30, 38, 39, 40, 41, 6, 42, 15, 43, 44, 45, 19, 46, 21, 47, 48, 49, 50, 77, 78, 79, 75, 76] (by decide +kernel) (by decide +kernel)
set_option maxRecDepth 20000 in
theorem gX6_cutApart_X1_remember : GoodIn wsX6_cutApart (wsV RX6 85 RX1 yX1_remember wsX1_remember) := goodIn_app (goodIn_of _ (by decide +kernel)) ggX6_cutApart_X1_remember
set_option maxRecDepth 20000 in
theorem ggX6_cutApart_X4_copyDolls : GoodIn wsX6_cutApart wsX4_copyDolls := goodIn_r _ [54, 15, 55, 56, 57, 6, 58, 43, 44, 45, 19, 46, 21, 47, 48, 49, 50, 75, 76] (by decide +kernel) (by decide +kernel)
set_option maxRecDepth 20000 in
theorem gX6_cutApart_X4_copyDolls : GoodIn wsX6_cutApart (wsV RX6 133 RX4 yX4_copyDolls wsX4_copyDolls) := goodIn_app (goodIn_of _ (by decide +kernel)) ggX6_cutApart_X4_copyDolls
set_option maxRecDepth 20000 in
theorem ggX6_cutApart_X4_putLength : GoodIn wsX6_cutApart wsX4_putLength := goodIn_r _ [62, 15, 63, 64, 65, 19, 66, 21, 75, 76] (by decide +kernel) (by decide +kernel)
set_option maxRecDepth 20000 in
theorem gX6_cutApart_X4_putLength : GoodIn wsX6_cutApart (wsV RX6 114 RX4 yX4_putLength wsX4_putLength) := goodIn_app (goodIn_of _ (by decide +kernel)) ggX6_cutApart_X4_putLength
theorem dX6_cutApart_0 : decode cX6_cutApart 0 = .ok (.aload_n 0, 1) := by decide +kernel
theorem dX6_cutApart_1 : decode cX6_cutApart 1 = .ok (.getfield 12, 3) := by decide +kernel
theorem dX6_cutApart_4 : decode cX6_cutApart 4 = .ok (.iload_n 1, 1) := by decide +kernel
theorem dX6_cutApart_5 : decode cX6_cutApart 5 = .ok (.invokevirtual 118, 3) := by decide +kernel
theorem dX6_cutApart_8 : decode cX6_cutApart 8 = .ok (.ifCond .ne 5, 3) := by decide +kernel
theorem dX6_cutApart_11 : decode cX6_cutApart 11 = .ok (.iconst (-1), 1) := by decide +kernel
theorem dX6_cutApart_12 : decode cX6_cutApart 12 = .ok (.ireturn, 1) := by decide +kernel
theorem dX6_cutApart_13 : decode cX6_cutApart 13 = .ok (.aload_n 0, 1) := by decide +kernel
theorem dX6_cutApart_14 : decode cX6_cutApart 14 = .ok (.getfield 12, 3) := by decide +kernel
theorem dX6_cutApart_17 : decode cX6_cutApart 17 = .ok (.iload_n 1, 1) := by decide +kernel
theorem dX6_cutApart_18 : decode cX6_cutApart 18 = .ok (.invokevirtual 130, 3) := by decide +kernel
theorem dX6_cutApart_21 : decode cX6_cutApart 21 = .ok (.istore_n 3, 1) := by decide +kernel
theorem dX6_cutApart_22 : decode cX6_cutApart 22 = .ok (.iload_n 2, 1) := by decide +kernel
theorem dX6_cutApart_23 : decode cX6_cutApart 23 = .ok (.iconst 1, 1) := by decide +kernel
theorem dX6_cutApart_24 : decode cX6_cutApart 24 = .ok (.if_icmp .lt 8, 3) := by decide +kernel
theorem dX6_cutApart_27 : decode cX6_cutApart 27 = .ok (.iload_n 2, 1) := by decide +kernel
theorem dX6_cutApart_28 : decode cX6_cutApart 28 = .ok (.iload_n 3, 1) := by decide +kernel
theorem dX6_cutApart_29 : decode cX6_cutApart 29 = .ok (.if_icmp .lt 6, 3) := by decide +kernel
theorem dX6_cutApart_32 : decode cX6_cutApart 32 = .ok (.bipush (-2), 2) := by decide +kernel
theorem dX6_cutApart_34 : decode cX6_cutApart 34 = .ok (.ireturn, 1) := by decide +kernel
theorem dX6_cutApart_35 : decode cX6_cutApart 35 = .ok (.aload_n 0, 1) := by decide +kernel
theorem dX6_cutApart_36 : decode cX6_cutApart 36 = .ok (.getfield 12, 3) := by decide +kernel
theorem dX6_cutApart_39 : decode cX6_cutApart 39 = .ok (.invokevirtual 104, 3) := by decide +kernel
theorem dX6_cutApart_42 : decode cX6_cutApart 42 = .ok (.istore 4, 2) := by decide +kernel
theorem dX6_cutApart_44 : decode cX6_cutApart 44 = .ok (.iload 4, 2) := by decide +kernel
theorem dX6_cutApart_46 : decode cX6_cutApart 46 = .ok (.iconst (-1), 1) := by decide +kernel
theorem dX6_cutApart_47 : decode cX6_cutApart 47 = .ok (.if_icmp .ne 6, 3) := by decide +kernel
theorem dX6_cutApart_50 : decode cX6_cutApart 50 = .ok (.bipush (-3), 2) := by decide +kernel
theorem dX6_cutApart_52 : decode cX6_cutApart 52 = .ok (.ireturn, 1) := by decide +kernel
theorem dX6_cutApart_53 : decode cX6_cutApart 53 = .ok (.aload_n 0, 1) := by decide +kernel
theorem dX6_cutApart_54 : decode cX6_cutApart 54 = .ok (.getfield 35, 3) := by decide +kernel
theorem dX6_cutApart_57 : decode cX6_cutApart 57 = .ok (.aload_n 0, 1) := by decide +kernel
theorem dX6_cutApart_58 : decode cX6_cutApart 58 = .ok (.getfield 12, 3) := by decide +kernel
theorem dX6_cutApart_61 : decode cX6_cutApart 61 = .ok (.invokevirtual 85, 3) := by decide +kernel
theorem dX6_cutApart_64 : decode cX6_cutApart 64 = .ok (.aload_n 0, 1) := by decide +kernel
theorem dX6_cutApart_65 : decode cX6_cutApart 65 = .ok (.getfield 12, 3) := by decide +kernel
theorem dX6_cutApart_68 : decode cX6_cutApart 68 = .ok (.iload_n 1, 1) := by decide +kernel
theorem dX6_cutApart_69 : decode cX6_cutApart 69 = .ok (.iload_n 2, 1) := by decide +kernel
theorem dX6_cutApart_70 : decode cX6_cutApart 70 = .ok (.iload 4, 2) := by decide +kernel
theorem dX6_cutApart_72 : decode cX6_cutApart 72 = .ok (.iconst 0, 1) := by decide +kernel
theorem dX6_cutApart_73 : decode cX6_cutApart 73 = .ok (.iload_n 3, 1) := by decide +kernel
theorem dX6_cutApart_74 : decode cX6_cutApart 74 = .ok (.iload_n 2, 1) := by decide +kernel
theorem dX6_cutApart_75 : decode cX6_cutApart 75 = .ok (.isub, 1) := by decide +kernel
theorem dX6_cutApart_76 : decode cX6_cutApart 76 = .ok (.invokevirtual 133, 3) := by decide +kernel
theorem dX6_cutApart_79 : decode cX6_cutApart 79 = .ok (.aload_n 0, 1) := by decide +kernel
theorem dX6_cutApart_80 : decode cX6_cutApart 80 = .ok (.getfield 12, 3) := by decide +kernel
theorem dX6_cutApart_83 : decode cX6_cutApart 83 = .ok (.iload 4, 2) := by decide +kernel
theorem dX6_cutApart_85 : decode cX6_cutApart 85 = .ok (.iload_n 3, 1) := by decide +kernel
theorem dX6_cutApart_86 : decode cX6_cutApart 86 = .ok (.iload_n 2, 1) := by decide +kernel
theorem dX6_cutApart_87 : decode cX6_cutApart 87 = .ok (.isub, 1) := by decide +kernel
theorem dX6_cutApart_88 : decode cX6_cutApart 88 = .ok (.invokevirtual 114, 3) := by decide +kernel
theorem dX6_cutApart_91 : decode cX6_cutApart 91 = .ok (.aload_n 0, 1) := by decide +kernel
theorem dX6_cutApart_92 : decode cX6_cutApart 92 = .ok (.getfield 12, 3) := by decide +kernel
theorem dX6_cutApart_95 : decode cX6_cutApart 95 = .ok (.iload_n 1, 1) := by decide +kernel
theorem dX6_cutApart_96 : decode cX6_cutApart 96 = .ok (.iload_n 2, 1) := by decide +kernel
theorem dX6_cutApart_97 : decode cX6_cutApart 97 = .ok (.invokevirtual 114, 3) := by decide +kernel
theorem dX6_cutApart_100 : decode cX6_cutApart 100 = .ok (.iload 4, 2) := by decide +kernel
theorem dX6_cutApart_102 : decode cX6_cutApart 102 = .ok (.ireturn, 1) := by decide +kernel
set_option maxRecDepth 20000 in
theorem ggX6_turn_X4_hasGarland : GoodIn wsX6_turn wsX4_hasGarland := goodIn_r _ [8, 9, 10, 11, 12, 13, 14, 7, 15, 16, 17, 18, 19, 20, 21, 22, 97, 98] (by decide +kernel) (by decide +kernel)
set_option maxRecDepth 20000 in
theorem gX6_turn_X4_hasGarland : GoodIn wsX6_turn (wsV RX6 118 RX4 yX4_hasGarland wsX4_hasGarland) := goodIn_app (goodIn_of _ (by decide +kernel)) ggX6_turn_X4_hasGarland
set_option maxRecDepth 20000 in
theorem ggX6_turn_X2_isOwnMirror : GoodIn wsX6_turn wsX2_isOwnMirror := goodIn_r _ [27, 28, 29, 30, 26, 31, 32, 33, 13, 14, 7, 15, 16, 17, 18, 19, 20, 21, 22, 34, 35, 36, 37, 38, 39, 40, 41, 42, 10, 43, 99, 97, 98] (by decide +kernel) (by decide +kernel)
set_option maxRecDepth 20000 in
theorem gX6_turn_X2_isOwnMirror : GoodIn wsX6_turn (wsV RX6 137 RX2 yX2_isOwnMirror wsX2_isOwnMirror) := goodIn_app (goodIn_of _ (by decide +kernel)) ggX6_turn_X2_isOwnMirror
set_option maxRecDepth 20000 in
theorem ggX6_turn_X1_remember : GoodIn wsX6_turn wsX1_remember := goodIn_r _ [48, 49, 50, 51, 52, 53, 54, 47, 55, 56, 57, 58, 7, 59, 16, 60, 61, 62, 20, 63, 22, 64, 65, 66, 67, 100, 101, 102, 97, 98] (by decide +kernel) (by decide +kernel)
set_option maxRecDepth 20000 in
theorem gX6_turn_X1_remember : GoodIn wsX6_turn (wsV RX6 85 RX1 yX1_remember wsX1_remember) := goodIn_app (goodIn_of _ (by decide +kernel)) ggX6_turn_X1_remember
set_option maxRecDepth 20000 in
theorem ggX6_turn_X4_turnRound : GoodIn wsX6_turn wsX4_turnRound := goodIn_r _ [71, 12, 13, 14, 7, 15, 16, 17, 18, 19, 20, 21, 22, 72, 35, 36, 37, 38, 39, 40, 41, 42, 10, 43, 73, 74, 75, 76, 77, 78, 79, 80, 97, 98] (by decide +kernel) (by decide +kernel)
set_option maxRecDepth 20000 in
theorem gX6_turn_X4_turnRound : GoodIn wsX6_turn (wsV RX6 140 RX4 yX4_turnRound wsX4_turnRound) := goodIn_app (goodIn_of _ (by decide +kernel)) ggX6_turn_X4_turnRound
set_option maxRecDepth 20000 in
theorem ggX6_turn_X2_mirroredIn : GoodIn wsX6_turn wsX2_mirroredIn := goodIn_r _ [84, 32, 33, 13, 14, 7, 15, 16, 17, 18, 19, 20, 21, 22, 34, 35, 36, 37, 38, 39, 40, 41, 85, 10, 86, 87, 88, 99, 97, 98] (by decide +kernel) (by decide +kernel)
set_option maxRecDepth 20000 in
theorem gX6_turn_X2_mirroredIn : GoodIn wsX6_turn (wsV RX6 143 RX2 yX2_mirroredIn wsX2_mirroredIn) := goodIn_app (goodIn_of _ (by decide +kernel)) ggX6_turn_X2_mirroredIn
theorem dX6_turn_0 : decode cX6_turn 0 = .ok (.aload_n 0, 1) := by decide +kernel
theorem dX6_turn_1 : decode cX6_turn 1 = .ok (.getfield 12, 3) := by decide +kernel
theorem dX6_turn_4 : decode cX6_turn 4 = .ok (.iload_n 1, 1) := by decide +kernel
theorem dX6_turn_5 : decode cX6_turn 5 = .ok (.invokevirtual 118, 3) := by decide +kernel
theorem dX6_turn_8 : decode cX6_turn 8 = .ok (.ifCond .ne 5, 3) := by decide +kernel
theorem dX6_turn_11 : decode cX6_turn 11 = .ok (.iconst (-1), 1) := by decide +kernel
theorem dX6_turn_12 : decode cX6_turn 12 = .ok (.ireturn, 1) := by decide +kernel
theorem dX6_turn_13 : decode cX6_turn 13 = .ok (.aload_n 0, 1) := by decide +kernel
theorem dX6_turn_14 : decode cX6_turn 14 = .ok (.getfield 21, 3) := by decide +kernel
theorem dX6_turn_17 : decode cX6_turn 17 = .ok (.iload_n 1, 1) := by decide +kernel
theorem dX6_turn_18 : decode cX6_turn 18 = .ok (.invokevirtual 137, 3) := by decide +kernel
theorem dX6_turn_21 : decode cX6_turn 21 = .ok (.ifCond .eq 6, 3) := by decide +kernel
theorem dX6_turn_24 : decode cX6_turn 24 = .ok (.bipush (-5), 2) := by decide +kernel
theorem dX6_turn_26 : decode cX6_turn 26 = .ok (.ireturn, 1) := by decide +kernel
theorem dX6_turn_27 : decode cX6_turn 27 = .ok (.aload_n 0, 1) := by decide +kernel
theorem dX6_turn_28 : decode cX6_turn 28 = .ok (.getfield 35, 3) := by decide +kernel
theorem dX6_turn_31 : decode cX6_turn 31 = .ok (.aload_n 0, 1) := by decide +kernel
theorem dX6_turn_32 : decode cX6_turn 32 = .ok (.getfield 12, 3) := by decide +kernel
theorem dX6_turn_35 : decode cX6_turn 35 = .ok (.invokevirtual 85, 3) := by decide +kernel
theorem dX6_turn_38 : decode cX6_turn 38 = .ok (.aload_n 0, 1) := by decide +kernel
theorem dX6_turn_39 : decode cX6_turn 39 = .ok (.getfield 12, 3) := by decide +kernel
theorem dX6_turn_42 : decode cX6_turn 42 = .ok (.iload_n 1, 1) := by decide +kernel
theorem dX6_turn_43 : decode cX6_turn 43 = .ok (.invokevirtual 140, 3) := by decide +kernel
theorem dX6_turn_46 : decode cX6_turn 46 = .ok (.aload_n 0, 1) := by decide +kernel
theorem dX6_turn_47 : decode cX6_turn 47 = .ok (.getfield 21, 3) := by decide +kernel
theorem dX6_turn_50 : decode cX6_turn 50 = .ok (.iload_n 1, 1) := by decide +kernel
theorem dX6_turn_51 : decode cX6_turn 51 = .ok (.invokevirtual 143, 3) := by decide +kernel
theorem dX6_turn_54 : decode cX6_turn 54 = .ok (.ireturn, 1) := by decide +kernel
set_option maxRecDepth 20000 in
theorem ggX6_fold_X4_hasGarland : GoodIn wsX6_fold wsX4_hasGarland := goodIn_r _ [7, 8, 9, 10, 11, 12, 13, 6, 14, 15, 16, 17, 18, 19, 20, 21, 106, 107] (by decide +kernel) (by decide +kernel)
set_option maxRecDepth 20000 in
theorem gX6_fold_X4_hasGarland : GoodIn wsX6_fold (wsV RX6 118 RX4 yX4_hasGarland wsX4_hasGarland) := goodIn_app (goodIn_of _ (by decide +kernel)) ggX6_fold_X4_hasGarland
set_option maxRecDepth 20000 in
theorem ggX6_fold_X4_lastDoll : GoodIn wsX6_fold wsX4_lastDoll := goodIn_r _ [25, 11, 12, 13, 6, 14, 15, 16, 17, 18, 19, 20, 21, 26, 27, 28, 29, 30, 31, 32, 33, 106, 107] (by decide +kernel) (by decide +kernel)
set_option maxRecDepth 20000 in
theorem gX6_fold_X4_lastDoll : GoodIn wsX6_fold (wsV RX6 121 RX4 yX4_lastDoll wsX4_lastDoll) := goodIn_app (goodIn_of _ (by decide +kernel)) ggX6_fold_X4_lastDoll
set_option maxRecDepth 20000 in
theorem ggX6_fold_X6_mirrorOf : GoodIn wsX6_fold wsX6_mirrorOf := goodIn_r _ [36] (by decide +kernel) (by decide +kernel)
set_option maxRecDepth 20000 in
theorem gX6_fold_X6_mirrorOf : GoodIn wsX6_fold (va_wsS RX6 146 yX6_mirrorOf wsX6_mirrorOf) := goodIn_app (goodIn_of _ (by decide +kernel)) ggX6_fold_X6_mirrorOf
set_option maxRecDepth 20000 in
theorem ggX6_fold_X4_clash : GoodIn wsX6_fold wsX4_clash := goodIn_r _ [40, 41, 42, 43, 6, 44, 15, 45, 9, 46, 47, 48, 16, 17, 18, 19, 20, 21, 49, 50, 51, 52, 53, 54, 55, 56, 106, 107] (by decide +kernel) (by decide +kernel)
set_option maxRecDepth 20000 in
theorem gX6_fold_X4_clash : GoodIn wsX6_fold (wsV RX6 127 RX4 yX4_clash wsX4_clash) := goodIn_app (goodIn_of _ (by decide +kernel)) ggX6_fold_X4_clash
set_option maxRecDepth 20000 in
theorem ggX6_fold_X4_lengthOf : GoodIn wsX6_fold wsX4_lengthOf := goodIn_r _ [14, 15, 16, 17, 18, 19, 20, 21, 106, 107] (by decide +kernel) (by decide +kernel)
set_option maxRecDepth 20000 in
theorem gX6_fold_X4_lengthOf : GoodIn wsX6_fold (wsV RX6 130 RX4 yX4_lengthOf wsX4_lengthOf) := goodIn_app (goodIn_of _ (by decide +kernel)) ggX6_fold_X4_lengthOf
set_option maxRecDepth 20000 in
theorem ggX6_fold_X1_remember : GoodIn wsX6_fold wsX1_remember := goodIn_r _ [62, 63, 64, 65, 66, 67, 68, 61, 69, 70, 71, 72, 6, 73, 15, 74, 75, 76, 19, 77, 21, 78, 79, 80, 81, 108, 109, 110, 106, 107] (by decide +kernel) (by decide +kernel)
set_option maxRecDepth 20000 in
theorem gX6_fold_X1_remember : GoodIn wsX6_fold (wsV RX6 85 RX1 yX1_remember wsX1_remember) := goodIn_app (goodIn_of _ (by decide +kernel)) ggX6_fold_X1_remember
set_option maxRecDepth 20000 in
theorem ggX6_fold_X4_foldOut : GoodIn wsX6_fold wsX4_foldOut := goodIn_r _ [85, 11, 12, 13, 6, 14, 15, 16, 17, 18, 19, 20, 21, 26, 27, 28, 29, 30, 31, 32, 33, 35, 9, 36, 86, 87, 88, 89, 90, 91, 92, 93, 94, 95, 96, 97, 106, 107] (by decide +kernel) (by decide +kernel)
set_option maxRecDepth 20000 in
theorem gX6_fold_X4_foldOut : GoodIn wsX6_fold (wsV RX6 149 RX4 yX4_foldOut wsX4_foldOut) := goodIn_app (goodIn_of _ (by decide +kernel)) ggX6_fold_X4_foldOut
theorem dX6_fold_0 : decode cX6_fold 0 = .ok (.aload_n 0, 1) := by decide +kernel
theorem dX6_fold_1 : decode cX6_fold 1 = .ok (.getfield 12, 3) := by decide +kernel
theorem dX6_fold_4 : decode cX6_fold 4 = .ok (.iload_n 1, 1) := by decide +kernel
theorem dX6_fold_5 : decode cX6_fold 5 = .ok (.invokevirtual 118, 3) := by decide +kernel
theorem dX6_fold_8 : decode cX6_fold 8 = .ok (.ifCond .ne 5, 3) := by decide +kernel
theorem dX6_fold_11 : decode cX6_fold 11 = .ok (.iconst (-1), 1) := by decide +kernel
theorem dX6_fold_12 : decode cX6_fold 12 = .ok (.ireturn, 1) := by decide +kernel
theorem dX6_fold_13 : decode cX6_fold 13 = .ok (.aload_n 0, 1) := by decide +kernel
theorem dX6_fold_14 : decode cX6_fold 14 = .ok (.getfield 12, 3) := by decide +kernel
theorem dX6_fold_17 : decode cX6_fold 17 = .ok (.iload_n 1, 1) := by decide +kernel
theorem dX6_fold_18 : decode cX6_fold 18 = .ok (.invokevirtual 121, 3) := by decide +kernel
theorem dX6_fold_21 : decode cX6_fold 21 = .ok (.istore_n 2, 1) := by decide +kernel
theorem dX6_fold_22 : decode cX6_fold 22 = .ok (.aload_n 0, 1) := by decide +kernel
theorem dX6_fold_23 : decode cX6_fold 23 = .ok (.getfield 12, 3) := by decide +kernel
theorem dX6_fold_26 : decode cX6_fold 26 = .ok (.iload_n 2, 1) := by decide +kernel
theorem dX6_fold_27 : decode cX6_fold 27 = .ok (.iload_n 2, 1) := by decide +kernel
theorem dX6_fold_28 : decode cX6_fold 28 = .ok (.invokestatic 146, 3) := by decide +kernel
theorem dX6_fold_31 : decode cX6_fold 31 = .ok (.invokevirtual 127, 3) := by decide +kernel
theorem dX6_fold_34 : decode cX6_fold 34 = .ok (.ifCond .eq 6, 3) := by decide +kernel
theorem dX6_fold_37 : decode cX6_fold 37 = .ok (.bipush (-4), 2) := by decide +kernel
theorem dX6_fold_39 : decode cX6_fold 39 = .ok (.ireturn, 1) := by decide +kernel
theorem dX6_fold_40 : decode cX6_fold 40 = .ok (.iconst 2, 1) := by decide +kernel
theorem dX6_fold_41 : decode cX6_fold 41 = .ok (.aload_n 0, 1) := by decide +kernel
theorem dX6_fold_42 : decode cX6_fold 42 = .ok (.getfield 12, 3) := by decide +kernel
theorem dX6_fold_45 : decode cX6_fold 45 = .ok (.iload_n 1, 1) := by decide +kernel
theorem dX6_fold_46 : decode cX6_fold 46 = .ok (.invokevirtual 130, 3) := by decide +kernel
theorem dX6_fold_49 : decode cX6_fold 49 = .ok (.imul, 1) := by decide +kernel
theorem dX6_fold_50 : decode cX6_fold 50 = .ok (.istore_n 3, 1) := by decide +kernel
theorem dX6_fold_51 : decode cX6_fold 51 = .ok (.iload_n 3, 1) := by decide +kernel
theorem dX6_fold_52 : decode cX6_fold 52 = .ok (.bipush 32, 2) := by decide +kernel
theorem dX6_fold_54 : decode cX6_fold 54 = .ok (.if_icmp .le 6, 3) := by decide +kernel
theorem dX6_fold_57 : decode cX6_fold 57 = .ok (.bipush (-3), 2) := by decide +kernel
theorem dX6_fold_59 : decode cX6_fold 59 = .ok (.ireturn, 1) := by decide +kernel
theorem dX6_fold_60 : decode cX6_fold 60 = .ok (.aload_n 0, 1) := by decide +kernel
theorem dX6_fold_61 : decode cX6_fold 61 = .ok (.getfield 35, 3) := by decide +kernel
theorem dX6_fold_64 : decode cX6_fold 64 = .ok (.aload_n 0, 1) := by decide +kernel
theorem dX6_fold_65 : decode cX6_fold 65 = .ok (.getfield 12, 3) := by decide +kernel
theorem dX6_fold_68 : decode cX6_fold 68 = .ok (.invokevirtual 85, 3) := by decide +kernel
theorem dX6_fold_71 : decode cX6_fold 71 = .ok (.aload_n 0, 1) := by decide +kernel
theorem dX6_fold_72 : decode cX6_fold 72 = .ok (.getfield 12, 3) := by decide +kernel
theorem dX6_fold_75 : decode cX6_fold 75 = .ok (.iload_n 1, 1) := by decide +kernel
theorem dX6_fold_76 : decode cX6_fold 76 = .ok (.invokevirtual 149, 3) := by decide +kernel
theorem dX6_fold_79 : decode cX6_fold 79 = .ok (.iload_n 3, 1) := by decide +kernel
theorem dX6_fold_80 : decode cX6_fold 80 = .ok (.ireturn, 1) := by decide +kernel
set_option maxRecDepth 20000 in
theorem ggX6_takeAway_X4_hasGarland : GoodIn wsX6_takeAway wsX4_hasGarland := goodIn_r _ [7, 8, 9, 10, 11, 12, 13, 6, 14, 15, 16, 17, 18, 19, 20, 21, 63, 64] (by decide +kernel) (by decide +kernel)
set_option maxRecDepth 20000 in
theorem gX6_takeAway_X4_hasGarland : GoodIn wsX6_takeAway (wsV RX6 118 RX4 yX4_hasGarland wsX4_hasGarland) := goodIn_app (goodIn_of _ (by decide +kernel)) ggX6_takeAway_X4_hasGarland
set_option maxRecDepth 20000 in
theorem ggX6_takeAway_X4_lengthOf : GoodIn wsX6_takeAway wsX4_lengthOf := goodIn_r _ [14, 15, 16, 17, 18, 19, 20, 21, 63, 64] (by decide +kernel) (by decide +kernel)
set_option maxRecDepth 20000 in
theorem gX6_takeAway_X4_lengthOf : GoodIn wsX6_takeAway (wsV RX6 130 RX4 yX4_lengthOf wsX4_lengthOf) := goodIn_app (goodIn_of _ (by decide +kernel)) ggX6_takeAway_X4_lengthOf
set_option maxRecDepth 20000 in
theorem ggX6_takeAway_X1_remember : GoodIn wsX6_takeAway wsX1_remember := goodIn_r _ [27, 28, 29, 30, 31, 32, 33, 26, 34, 35, 36, 37, 6, 38, 15, 39, 40, 41, 19, 42, 21, 43, 44, 45, 46, 65, 66, 67, 63, 64] (by decide +kernel) (by decide +kernel)
set_option maxRecDepth 20000 in
theorem gX6_takeAway_X1_remember : GoodIn wsX6_takeAway (wsV RX6 85 RX1 yX1_remember wsX1_remember) := goodIn_app (goodIn_of _ (by decide +kernel)) ggX6_takeAway_X1_remember
set_option maxRecDepth 20000 in
theorem ggX6_takeAway_X4_putLength : GoodIn wsX6_takeAway wsX4_putLength := goodIn_r _ [50, 15, 51, 52, 53, 19, 54, 21, 63, 64] (by decide +kernel) (by decide +kernel)
set_option maxRecDepth 20000 in
theorem gX6_takeAway_X4_putLength : GoodIn wsX6_takeAway (wsV RX6 114 RX4 yX4_putLength wsX4_putLength) := goodIn_app (goodIn_of _ (by decide +kernel)) ggX6_takeAway_X4_putLength
theorem dX6_takeAway_0 : decode cX6_takeAway 0 = .ok (.aload_n 0, 1) := by decide +kernel
theorem dX6_takeAway_1 : decode cX6_takeAway 1 = .ok (.getfield 12, 3) := by decide +kernel
theorem dX6_takeAway_4 : decode cX6_takeAway 4 = .ok (.iload_n 1, 1) := by decide +kernel
theorem dX6_takeAway_5 : decode cX6_takeAway 5 = .ok (.invokevirtual 118, 3) := by decide +kernel
theorem dX6_takeAway_8 : decode cX6_takeAway 8 = .ok (.ifCond .ne 5, 3) := by decide +kernel
theorem dX6_takeAway_11 : decode cX6_takeAway 11 = .ok (.iconst (-1), 1) := by decide +kernel
theorem dX6_takeAway_12 : decode cX6_takeAway 12 = .ok (.ireturn, 1) := by decide +kernel
theorem dX6_takeAway_13 : decode cX6_takeAway 13 = .ok (.aload_n 0, 1) := by decide +kernel
theorem dX6_takeAway_14 : decode cX6_takeAway 14 = .ok (.getfield 12, 3) := by decide +kernel
theorem dX6_takeAway_17 : decode cX6_takeAway 17 = .ok (.iload_n 1, 1) := by decide +kernel
theorem dX6_takeAway_18 : decode cX6_takeAway 18 = .ok (.invokevirtual 130, 3) := by decide +kernel
theorem dX6_takeAway_21 : decode cX6_takeAway 21 = .ok (.istore_n 2, 1) := by decide +kernel
theorem dX6_takeAway_22 : decode cX6_takeAway 22 = .ok (.aload_n 0, 1) := by decide +kernel
theorem dX6_takeAway_23 : decode cX6_takeAway 23 = .ok (.getfield 35, 3) := by decide +kernel
theorem dX6_takeAway_26 : decode cX6_takeAway 26 = .ok (.aload_n 0, 1) := by decide +kernel
theorem dX6_takeAway_27 : decode cX6_takeAway 27 = .ok (.getfield 12, 3) := by decide +kernel
theorem dX6_takeAway_30 : decode cX6_takeAway 30 = .ok (.invokevirtual 85, 3) := by decide +kernel
theorem dX6_takeAway_33 : decode cX6_takeAway 33 = .ok (.aload_n 0, 1) := by decide +kernel
theorem dX6_takeAway_34 : decode cX6_takeAway 34 = .ok (.getfield 12, 3) := by decide +kernel
theorem dX6_takeAway_37 : decode cX6_takeAway 37 = .ok (.iload_n 1, 1) := by decide +kernel
theorem dX6_takeAway_38 : decode cX6_takeAway 38 = .ok (.iconst 0, 1) := by decide +kernel
theorem dX6_takeAway_39 : decode cX6_takeAway 39 = .ok (.invokevirtual 114, 3) := by decide +kernel
theorem dX6_takeAway_42 : decode cX6_takeAway 42 = .ok (.iload_n 2, 1) := by decide +kernel
theorem dX6_takeAway_43 : decode cX6_takeAway 43 = .ok (.ireturn, 1) := by decide +kernel
set_option maxRecDepth 20000 in
theorem ggX6_type_X5_isFull : GoodIn wsX6_type wsX5_isFull := goodIn_r _ [6, 7, 27, 28] (by decide +kernel) (by decide +kernel)
set_option maxRecDepth 20000 in
theorem gX6_type_X5_isFull : GoodIn wsX6_type (wsV RX6 152 RX5 yX5_isFull wsX5_isFull) := goodIn_app (goodIn_of _ (by decide +kernel)) ggX6_type_X5_isFull
set_option maxRecDepth 20000 in
theorem ggX6_type_X5_add : GoodIn wsX6_type wsX5_add := goodIn_r _ [11, 12, 7, 13, 14, 15, 16, 17, 18, 27, 28, 29] (by decide +kernel) (by decide +kernel)
set_option maxRecDepth 20000 in
theorem gX6_type_X5_add : GoodIn wsX6_type (wsV RX6 155 RX5 yX5_add wsX5_add) := goodIn_app (goodIn_of _ (by decide +kernel)) ggX6_type_X5_add
theorem dX6_type_0 : decode cX6_type 0 = .ok (.aload_n 0, 1) := by decide +kernel
theorem dX6_type_1 : decode cX6_type 1 = .ok (.getfield 42, 3) := by decide +kernel
theorem dX6_type_4 : decode cX6_type 4 = .ok (.invokevirtual 152, 3) := by decide +kernel
theorem dX6_type_7 : decode cX6_type 7 = .ok (.ifCond .eq 6, 3) := by decide +kernel
theorem dX6_type_10 : decode cX6_type 10 = .ok (.bipush (-3), 2) := by decide +kernel
theorem dX6_type_12 : decode cX6_type 12 = .ok (.ireturn, 1) := by decide +kernel
theorem dX6_type_13 : decode cX6_type 13 = .ok (.aload_n 0, 1) := by decide +kernel
theorem dX6_type_14 : decode cX6_type 14 = .ok (.getfield 42, 3) := by decide +kernel
theorem dX6_type_17 : decode cX6_type 17 = .ok (.iload_n 1, 1) := by decide +kernel
theorem dX6_type_18 : decode cX6_type 18 = .ok (.invokevirtual 155, 3) := by decide +kernel
theorem dX6_type_21 : decode cX6_type 21 = .ok (.ireturn, 1) := by decide +kernel
set_option maxRecDepth 20000 in
theorem ggX6_clearText_X5_empty : GoodIn wsX6_clearText wsX5_empty := goodIn_r _ [6, 7, 16, 17] (by decide +kernel) (by decide +kernel)
set_option maxRecDepth 20000 in
theorem gX6_clearText_X5_empty : GoodIn wsX6_clearText (wsV RX6 159 RX5 yX5_empty wsX5_empty) := goodIn_app (goodIn_of _ (by decide +kernel)) ggX6_clearText_X5_empty
theorem dX6_clearText_0 : decode cX6_clearText 0 = .ok (.aload_n 0, 1) := by decide +kernel
theorem dX6_clearText_1 : decode cX6_clearText 1 = .ok (.getfield 42, 3) := by decide +kernel
theorem dX6_clearText_4 : decode cX6_clearText 4 = .ok (.invokevirtual 159, 3) := by decide +kernel
theorem dX6_clearText_7 : decode cX6_clearText 7 = .ok (.ireturn, 1) := by decide +kernel
set_option maxRecDepth 20000 in
theorem ggX6_readGarland_X5_fault : GoodIn wsX6_readGarland wsX5_fault := goodIn_r _ [9, 10, 11, 12, 13, 14, 15, 16, 17, 18, 19, 8, 20, 131, 132, 133] (by decide +kernel) (by decide +kernel)
set_option maxRecDepth 20000 in
theorem gX6_readGarland_X5_fault : GoodIn wsX6_readGarland (wsV RX6 162 RX5 yX5_fault wsX5_fault) := goodIn_app (goodIn_of _ (by decide +kernel)) ggX6_readGarland_X5_fault
set_option maxRecDepth 20000 in
theorem ggX6_readGarland_X5_spellDolls : GoodIn wsX6_readGarland wsX5_spellDolls := goodIn_r _ [24, 10, 11, 12, 13, 14, 15, 16, 17, 18, 19, 8, 20, 25, 26, 27, 28, 29, 30, 31, 32, 33, 34, 35, 36, 131, 132, 133] (by decide +kernel) (by decide +kernel)
set_option maxRecDepth 20000 in
theorem gX6_readGarland_X5_spellDolls : GoodIn wsX6_readGarland (wsV RX6 165 RX5 yX5_spellDolls wsX5_spellDolls) := goodIn_app (goodIn_of _ (by decide +kernel)) ggX6_readGarland_X5_spellDolls
set_option maxRecDepth 20000 in
theorem ggX6_readGarland_X4_hasKindsOf : GoodIn wsX6_readGarland wsX4_hasKindsOf := goodIn_r _ [41, 42, 13, 14, 15, 16, 17, 43, 26, 44, 45, 46, 47, 40, 48, 49, 50, 51, 52, 53, 54, 55, 133, 134] (by decide +kernel) (by decide +kernel)
set_option maxRecDepth 20000 in
theorem gX6_readGarland_X4_hasKindsOf : GoodIn wsX6_readGarland (wsV RX6 169 RX4 yX4_hasKindsOf wsX4_hasKindsOf) := goodIn_app (goodIn_of _ (by decide +kernel)) ggX6_readGarland_X4_hasKindsOf
set_option maxRecDepth 20000 in
theorem ggX6_readGarland_X4_hasClashIn : GoodIn wsX6_readGarland wsX4_hasClashIn := goodIn_r _ [59, 42, 13, 14, 15, 16, 17, 60, 61, 62, 40, 63, 64, 65, 66, 67, 53, 68, 26, 69, 43, 44, 70, 71, 72, 73, 74, 75, 76, 77, 133, 134] (by decide +kernel) (by decide +kernel)
set_option maxRecDepth 20000 in
theorem gX6_readGarland_X4_hasClashIn : GoodIn wsX6_readGarland (wsV RX6 173 RX4 yX4_hasClashIn wsX4_hasClashIn) := goodIn_app (goodIn_of _ (by decide +kernel)) ggX6_readGarland_X4_hasClashIn
set_option maxRecDepth 20000 in
theorem ggX6_readGarland_X4_freeNumber : GoodIn wsX6_readGarland wsX4_freeNumber := goodIn_r _ [81, 82, 83, 84, 40, 85, 53, 42, 13, 14, 15, 16, 17, 134, 133] (by decide +kernel) (by decide +kernel)
