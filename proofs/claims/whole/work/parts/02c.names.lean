theorem dX4_init_0 : decode cX4_init 0 = .ok (.aload_n 0, 1) := by decide +kernel
theorem dX4_init_1 : decode cX4_init 1 = .ok (.invokespecial 5, 3) := by decide +kernel
theorem dX4_init_4 : decode cX4_init 4 = .ok (.aload_n 0, 1) := by decide +kernel
theorem dX4_init_5 : decode cX4_init 5 = .ok (.new 11, 3) := by decide +kernel
theorem dX4_init_8 : decode cX4_init 8 = .ok (.dup, 1) := by decide +kernel
theorem dX4_init_9 : decode cX4_init 9 = .ok (.sipush 286, 3) := by decide +kernel
theorem dX4_init_12 : decode cX4_init 12 = .ok (.invokespecial 13, 3) := by decide +kernel
theorem dX4_init_15 : decode cX4_init 15 = .ok (.putfield 16, 3) := by decide +kernel
theorem dX4_init_18 : decode cX4_init 18 = .ok (.aload_n 0, 1) := by decide +kernel
theorem dX4_init_19 : decode cX4_init 19 = .ok (.getfield 16, 3) := by decide +kernel
theorem dX4_init_22 : decode cX4_init 22 = .ok (.iconst 1, 1) := by decide +kernel
theorem dX4_init_23 : decode cX4_init 23 = .ok (.iconst 3, 1) := by decide +kernel
theorem dX4_init_24 : decode cX4_init 24 = .ok (.invokevirtual 20, 3) := by decide +kernel
theorem dX4_init_27 : decode cX4_init 27 = .ok (.iconst 0, 1) := by decide +kernel
theorem dX4_init_28 : decode cX4_init 28 = .ok (.istore_n 1, 1) := by decide +kernel
theorem dX4_init_29 : decode cX4_init 29 = .ok (.iload_n 1, 1) := by decide +kernel
theorem dX4_init_30 : decode cX4_init 30 = .ok (.bipush 10, 2) := by decide +kernel
theorem dX4_init_32 : decode cX4_init 32 = .ok (.if_icmp .ge 40, 3) := by decide +kernel
theorem dX4_init_35 : decode cX4_init 35 = .ok (.aload_n 0, 1) := by decide +kernel
theorem dX4_init_36 : decode cX4_init 36 = .ok (.getfield 16, 3) := by decide +kernel
theorem dX4_init_39 : decode cX4_init 39 = .ok (.iconst 2, 1) := by decide +kernel
theorem dX4_init_40 : decode cX4_init 40 = .ok (.iload_n 1, 1) := by decide +kernel
theorem dX4_init_41 : decode cX4_init 41 = .ok (.iadd, 1) := by decide +kernel
theorem dX4_init_42 : decode cX4_init 42 = .ok (.iload_n 1, 1) := by decide +kernel
theorem dX4_init_43 : decode cX4_init 43 = .ok (.bipush 6, 2) := by decide +kernel
theorem dX4_init_45 : decode cX4_init 45 = .ok (.irem, 1) := by decide +kernel
theorem dX4_init_46 : decode cX4_init 46 = .ok (.invokevirtual 20, 3) := by decide +kernel
theorem dX4_init_49 : decode cX4_init 49 = .ok (.aload_n 0, 1) := by decide +kernel
theorem dX4_init_50 : decode cX4_init 50 = .ok (.getfield 16, 3) := by decide +kernel
theorem dX4_init_53 : decode cX4_init 53 = .ok (.bipush 12, 2) := by decide +kernel
theorem dX4_init_55 : decode cX4_init 55 = .ok (.iload_n 1, 1) := by decide +kernel
theorem dX4_init_56 : decode cX4_init 56 = .ok (.iadd, 1) := by decide +kernel
theorem dX4_init_57 : decode cX4_init 57 = .ok (.iload_n 1, 1) := by decide +kernel
theorem dX4_init_58 : decode cX4_init 58 = .ok (.iconst 1, 1) := by decide +kernel
theorem dX4_init_59 : decode cX4_init 59 = .ok (.iadd, 1) := by decide +kernel
theorem dX4_init_60 : decode cX4_init 60 = .ok (.bipush 6, 2) := by decide +kernel
theorem dX4_init_62 : decode cX4_init 62 = .ok (.irem, 1) := by decide +kernel
theorem dX4_init_63 : decode cX4_init 63 = .ok (.invokevirtual 20, 3) := by decide +kernel
theorem dX4_init_66 : decode cX4_init 66 = .ok (.iinc 1 1, 3) := by decide +kernel
theorem dX4_init_69 : decode cX4_init 69 = .ok (.goto (-40), 3) := by decide +kernel
theorem dX4_init_72 : decode cX4_init 72 = .ok (.return_, 1) := by decide +kernel
set_option maxRecDepth 20000 in
theorem ggX4_saveTo_X3_copyFrom : GoodIn wsX4_saveTo wsX3_copyFrom := goodIn_r _ [6, 7, 8, 9, 10, 11, 13] (by decide +kernel) (by decide +kernel)
set_option maxRecDepth 20000 in
theorem gX4_saveTo_X3_copyFrom : GoodIn wsX4_saveTo (wsV RX4 24 RX3 yX3_copyFrom wsX3_copyFrom) := goodIn_app (goodIn_of _ (by decide +kernel)) ggX4_saveTo_X3_copyFrom
theorem dX4_saveTo_0 : decode cX4_saveTo 0 = .ok (.aload_n 1, 1) := by decide +kernel
theorem dX4_saveTo_1 : decode cX4_saveTo 1 = .ok (.aload_n 0, 1) := by decide +kernel
theorem dX4_saveTo_2 : decode cX4_saveTo 2 = .ok (.getfield 16, 3) := by decide +kernel
theorem dX4_saveTo_5 : decode cX4_saveTo 5 = .ok (.iconst 0, 1) := by decide +kernel
theorem dX4_saveTo_6 : decode cX4_saveTo 6 = .ok (.iload_n 2, 1) := by decide +kernel
theorem dX4_saveTo_7 : decode cX4_saveTo 7 = .ok (.sipush 286, 3) := by decide +kernel
theorem dX4_saveTo_10 : decode cX4_saveTo 10 = .ok (.invokevirtual 24, 3) := by decide +kernel
theorem dX4_saveTo_13 : decode cX4_saveTo 13 = .ok (.return_, 1) := by decide +kernel
set_option maxRecDepth 20000 in
theorem ggX4_loadFrom_X3_copyFrom : GoodIn wsX4_loadFrom wsX3_copyFrom := goodIn_r _ [6, 7, 8, 9, 10, 11, 13] (by decide +kernel) (by decide +kernel)
set_option maxRecDepth 20000 in
theorem gX4_loadFrom_X3_copyFrom : GoodIn wsX4_loadFrom (wsV RX4 24 RX3 yX3_copyFrom wsX3_copyFrom) := goodIn_app (goodIn_of _ (by decide +kernel)) ggX4_loadFrom_X3_copyFrom
theorem dX4_loadFrom_0 : decode cX4_loadFrom 0 = .ok (.aload_n 0, 1) := by decide +kernel
theorem dX4_loadFrom_1 : decode cX4_loadFrom 1 = .ok (.getfield 16, 3) := by decide +kernel
theorem dX4_loadFrom_4 : decode cX4_loadFrom 4 = .ok (.aload_n 1, 1) := by decide +kernel
theorem dX4_loadFrom_5 : decode cX4_loadFrom 5 = .ok (.iload_n 2, 1) := by decide +kernel
theorem dX4_loadFrom_6 : decode cX4_loadFrom 6 = .ok (.iconst 0, 1) := by decide +kernel
theorem dX4_loadFrom_7 : decode cX4_loadFrom 7 = .ok (.sipush 286, 3) := by decide +kernel
theorem dX4_loadFrom_10 : decode cX4_loadFrom 10 = .ok (.invokevirtual 24, 3) := by decide +kernel
theorem dX4_loadFrom_13 : decode cX4_loadFrom 13 = .ok (.return_, 1) := by decide +kernel
set_option maxRecDepth 20000 in
theorem ggX4_ruleNow_X3_at : GoodIn wsX4_ruleNow wsX3_at := goodIn_r _ [6, 7, 9] (by decide +kernel) (by decide +kernel)
set_option maxRecDepth 20000 in
theorem gX4_ruleNow_X3_at : GoodIn wsX4_ruleNow (wsV RX4 28 RX3 yX3_at wsX3_at) := goodIn_app (goodIn_of _ (by decide +kernel)) ggX4_ruleNow_X3_at
theorem dX4_ruleNow_0 : decode cX4_ruleNow 0 = .ok (.aload_n 0, 1) := by decide +kernel
theorem dX4_ruleNow_1 : decode cX4_ruleNow 1 = .ok (.getfield 16, 3) := by decide +kernel
theorem dX4_ruleNow_4 : decode cX4_ruleNow 4 = .ok (.iconst 0, 1) := by decide +kernel
theorem dX4_ruleNow_5 : decode cX4_ruleNow 5 = .ok (.invokevirtual 28, 3) := by decide +kernel
theorem dX4_ruleNow_8 : decode cX4_ruleNow 8 = .ok (.ireturn, 1) := by decide +kernel
set_option maxRecDepth 20000 in
theorem ggX4_putRule_X3_put : GoodIn wsX4_putRule wsX3_put := goodIn_r _ [6, 7, 9] (by decide +kernel) (by decide +kernel)
set_option maxRecDepth 20000 in
theorem gX4_putRule_X3_put : GoodIn wsX4_putRule (wsV RX4 20 RX3 yX3_put wsX3_put) := goodIn_app (goodIn_of _ (by decide +kernel)) ggX4_putRule_X3_put
theorem dX4_putRule_0 : decode cX4_putRule 0 = .ok (.aload_n 0, 1) := by decide +kernel
theorem dX4_putRule_1 : decode cX4_putRule 1 = .ok (.getfield 16, 3) := by decide +kernel
theorem dX4_putRule_4 : decode cX4_putRule 4 = .ok (.iconst 0, 1) := by decide +kernel
theorem dX4_putRule_5 : decode cX4_putRule 5 = .ok (.iload_n 1, 1) := by decide +kernel
theorem dX4_putRule_6 : decode cX4_putRule 6 = .ok (.invokevirtual 20, 3) := by decide +kernel
theorem dX4_putRule_9 : decode cX4_putRule 9 = .ok (.return_, 1) := by decide +kernel
set_option maxRecDepth 20000 in
theorem ggX4_kindsNow_X3_at : GoodIn wsX4_kindsNow wsX3_at := goodIn_r _ [6, 7, 9] (by decide +kernel) (by decide +kernel)
set_option maxRecDepth 20000 in
theorem gX4_kindsNow_X3_at : GoodIn wsX4_kindsNow (wsV RX4 28 RX3 yX3_at wsX3_at) := goodIn_app (goodIn_of _ (by decide +kernel)) ggX4_kindsNow_X3_at
theorem dX4_kindsNow_0 : decode cX4_kindsNow 0 = .ok (.aload_n 0, 1) := by decide +kernel
theorem dX4_kindsNow_1 : decode cX4_kindsNow 1 = .ok (.getfield 16, 3) := by decide +kernel
theorem dX4_kindsNow_4 : decode cX4_kindsNow 4 = .ok (.iconst 1, 1) := by decide +kernel
theorem dX4_kindsNow_5 : decode cX4_kindsNow 5 = .ok (.invokevirtual 28, 3) := by decide +kernel
theorem dX4_kindsNow_8 : decode cX4_kindsNow 8 = .ok (.ireturn, 1) := by decide +kernel
set_option maxRecDepth 20000 in
theorem ggX4_putKinds_X3_put : GoodIn wsX4_putKinds wsX3_put := goodIn_r _ [6, 7, 9] (by decide +kernel) (by decide +kernel)
set_option maxRecDepth 20000 in
theorem gX4_putKinds_X3_put : GoodIn wsX4_putKinds (wsV RX4 20 RX3 yX3_put wsX3_put) := goodIn_app (goodIn_of _ (by decide +kernel)) ggX4_putKinds_X3_put
theorem dX4_putKinds_0 : decode cX4_putKinds 0 = .ok (.aload_n 0, 1) := by decide +kernel
theorem dX4_putKinds_1 : decode cX4_putKinds 1 = .ok (.getfield 16, 3) := by decide +kernel
theorem dX4_putKinds_4 : decode cX4_putKinds 4 = .ok (.iconst 1, 1) := by decide +kernel
theorem dX4_putKinds_5 : decode cX4_putKinds 5 = .ok (.iload_n 1, 1) := by decide +kernel
theorem dX4_putKinds_6 : decode cX4_putKinds 6 = .ok (.invokevirtual 20, 3) := by decide +kernel
theorem dX4_putKinds_9 : decode cX4_putKinds 9 = .ok (.return_, 1) := by decide +kernel
set_option maxRecDepth 20000 in
theorem ggX4_dollsToCut_X4_kindsNow : GoodIn wsX4_dollsToCut wsX4_kindsNow := goodIn_r _ [5, 6, 7, 8, 9, 10, 11, 12, 13, 14] (by decide +kernel) (by decide +kernel)
set_option maxRecDepth 20000 in
theorem gX4_dollsToCut_X4_kindsNow : GoodIn wsX4_dollsToCut (wsV RX4 32 RX4 yX4_kindsNow wsX4_kindsNow) := goodIn_app (goodIn_of _ (by decide +kernel)) ggX4_dollsToCut_X4_kindsNow
theorem dX4_dollsToCut_0 : decode cX4_dollsToCut 0 = .ok (.iconst 2, 1) := by decide +kernel
theorem dX4_dollsToCut_1 : decode cX4_dollsToCut 1 = .ok (.aload_n 0, 1) := by decide +kernel
theorem dX4_dollsToCut_2 : decode cX4_dollsToCut 2 = .ok (.invokevirtual 32, 3) := by decide +kernel
theorem dX4_dollsToCut_5 : decode cX4_dollsToCut 5 = .ok (.imul, 1) := by decide +kernel
theorem dX4_dollsToCut_6 : decode cX4_dollsToCut 6 = .ok (.ireturn, 1) := by decide +kernel
set_option maxRecDepth 20000 in
theorem ggX4_hasKind_X4_kindsNow : GoodIn wsX4_hasKind wsX4_kindsNow := goodIn_r _ [5, 6, 7, 8, 9, 10, 11, 12, 16, 17] (by decide +kernel) (by decide +kernel)
set_option maxRecDepth 20000 in
theorem gX4_hasKind_X4_kindsNow : GoodIn wsX4_hasKind (wsV RX4 32 RX4 yX4_kindsNow wsX4_kindsNow) := goodIn_app (goodIn_of _ (by decide +kernel)) ggX4_hasKind_X4_kindsNow
set_option maxRecDepth 20000 in
theorem ggX4_hasKind_X6_isBelow : GoodIn wsX4_hasKind wsX6_isBelow := goodIn_r _ [15] (by decide +kernel) (by decide +kernel)
set_option maxRecDepth 20000 in
theorem gX4_hasKind_X6_isBelow_n36 : GoodIn wsX4_hasKind (wsX6_isBelow) := ggX4_hasKind_X6_isBelow
theorem dX4_hasKind_0 : decode cX4_hasKind 0 = .ok (.iload_n 1, 1) := by decide +kernel
theorem dX4_hasKind_1 : decode cX4_hasKind 1 = .ok (.aload_n 0, 1) := by decide +kernel
theorem dX4_hasKind_2 : decode cX4_hasKind 2 = .ok (.invokevirtual 32, 3) := by decide +kernel
theorem dX4_hasKind_5 : decode cX4_hasKind 5 = .ok (.invokestatic 36, 3) := by decide +kernel
theorem dX4_hasKind_8 : decode cX4_hasKind 8 = .ok (.ireturn, 1) := by decide +kernel
set_option maxRecDepth 20000 in
theorem ggX4_leftHand_X3_at : GoodIn wsX4_leftHand wsX3_at := goodIn_r _ [6, 7, 9] (by decide +kernel) (by decide +kernel)
set_option maxRecDepth 20000 in
theorem gX4_leftHand_X3_at : GoodIn wsX4_leftHand (wsV RX4 28 RX3 yX3_at wsX3_at) := goodIn_app (goodIn_of _ (by decide +kernel)) ggX4_leftHand_X3_at
theorem dX4_leftHand_0 : decode cX4_leftHand 0 = .ok (.aload_n 0, 1) := by decide +kernel
theorem dX4_leftHand_1 : decode cX4_leftHand 1 = .ok (.getfield 16, 3) := by decide +kernel
theorem dX4_leftHand_4 : decode cX4_leftHand 4 = .ok (.iconst 2, 1) := by decide +kernel
theorem dX4_leftHand_5 : decode cX4_leftHand 5 = .ok (.iload_n 1, 1) := by decide +kernel
theorem dX4_leftHand_6 : decode cX4_leftHand 6 = .ok (.iadd, 1) := by decide +kernel
theorem dX4_leftHand_7 : decode cX4_leftHand 7 = .ok (.invokevirtual 28, 3) := by decide +kernel
theorem dX4_leftHand_10 : decode cX4_leftHand 10 = .ok (.ireturn, 1) := by decide +kernel
set_option maxRecDepth 20000 in
theorem ggX4_rightHand_X3_at : GoodIn wsX4_rightHand wsX3_at := goodIn_r _ [6, 7, 9] (by decide +kernel) (by decide +kernel)
set_option maxRecDepth 20000 in
theorem gX4_rightHand_X3_at : GoodIn wsX4_rightHand (wsV RX4 28 RX3 yX3_at wsX3_at) := goodIn_app (goodIn_of _ (by decide +kernel)) ggX4_rightHand_X3_at
theorem dX4_rightHand_0 : decode cX4_rightHand 0 = .ok (.aload_n 0, 1) := by decide +kernel
theorem dX4_rightHand_1 : decode cX4_rightHand 1 = .ok (.getfield 16, 3) := by decide +kernel
theorem dX4_rightHand_4 : decode cX4_rightHand 4 = .ok (.bipush 12, 2) := by decide +kernel
theorem dX4_rightHand_6 : decode cX4_rightHand 6 = .ok (.iload_n 1, 1) := by decide +kernel
theorem dX4_rightHand_7 : decode cX4_rightHand 7 = .ok (.iadd, 1) := by decide +kernel
theorem dX4_rightHand_8 : decode cX4_rightHand 8 = .ok (.invokevirtual 28, 3) := by decide +kernel
theorem dX4_rightHand_11 : decode cX4_rightHand 11 = .ok (.ireturn, 1) := by decide +kernel
set_option maxRecDepth 20000 in
theorem ggX4_putHands_X3_put : GoodIn wsX4_putHands wsX3_put := goodIn_r _ [6, 7, 9] (by decide +kernel) (by decide +kernel)
set_option maxRecDepth 20000 in
theorem gX4_putHands_X3_put : GoodIn wsX4_putHands (wsV RX4 20 RX3 yX3_put wsX3_put) := goodIn_app (goodIn_of _ (by decide +kernel)) ggX4_putHands_X3_put
theorem dX4_putHands_0 : decode cX4_putHands 0 = .ok (.aload_n 0, 1) := by decide +kernel
theorem dX4_putHands_1 : decode cX4_putHands 1 = .ok (.getfield 16, 3) := by decide +kernel
theorem dX4_putHands_4 : decode cX4_putHands 4 = .ok (.iconst 2, 1) := by decide +kernel
theorem dX4_putHands_5 : decode cX4_putHands 5 = .ok (.iload_n 1, 1) := by decide +kernel
theorem dX4_putHands_6 : decode cX4_putHands 6 = .ok (.iadd, 1) := by decide +kernel
theorem dX4_putHands_7 : decode cX4_putHands 7 = .ok (.iload_n 2, 1) := by decide +kernel
theorem dX4_putHands_8 : decode cX4_putHands 8 = .ok (.invokevirtual 20, 3) := by decide +kernel
theorem dX4_putHands_11 : decode cX4_putHands 11 = .ok (.aload_n 0, 1) := by decide +kernel
theorem dX4_putHands_12 : decode cX4_putHands 12 = .ok (.getfield 16, 3) := by decide +kernel
theorem dX4_putHands_15 : decode cX4_putHands 15 = .ok (.bipush 12, 2) := by decide +kernel
theorem dX4_putHands_17 : decode cX4_putHands 17 = .ok (.iload_n 1, 1) := by decide +kernel
theorem dX4_putHands_18 : decode cX4_putHands 18 = .ok (.iadd, 1) := by decide +kernel
theorem dX4_putHands_19 : decode cX4_putHands 19 = .ok (.iload_n 3, 1) := by decide +kernel
theorem dX4_putHands_20 : decode cX4_putHands 20 = .ok (.invokevirtual 20, 3) := by decide +kernel
theorem dX4_putHands_23 : decode cX4_putHands 23 = .ok (.return_, 1) := by decide +kernel
set_option maxRecDepth 20000 in
theorem ggX4_leftOf_X6_isMirrored : GoodIn wsX4_leftOf wsX6_isMirrored := goodIn_r _ [4] (by decide +kernel) (by decide +kernel)
set_option maxRecDepth 20000 in
theorem gX4_leftOf_X6_isMirrored_n40 : GoodIn wsX4_leftOf (wsX6_isMirrored) := ggX4_leftOf_X6_isMirrored
set_option maxRecDepth 20000 in
theorem ggX4_leftOf_X6_kindOf : GoodIn wsX4_leftOf wsX6_kindOf := goodIn_r _ [6] (by decide +kernel) (by decide +kernel)
set_option maxRecDepth 20000 in
theorem gX4_leftOf_X6_kindOf_n44 : GoodIn wsX4_leftOf (wsX6_kindOf) := ggX4_leftOf_X6_kindOf
set_option maxRecDepth 20000 in
theorem ggX4_leftOf_X3_at : GoodIn wsX4_leftOf wsX3_at := goodIn_r _ [11, 12, 14] (by decide +kernel) (by decide +kernel)
set_option maxRecDepth 20000 in
theorem gX4_leftOf_X3_at : GoodIn wsX4_leftOf (wsV RX4 28 RX3 yX3_at wsX3_at) := goodIn_app (goodIn_of _ (by decide +kernel)) ggX4_leftOf_X3_at
theorem dX4_leftOf_0 : decode cX4_leftOf 0 = .ok (.aload_n 0, 1) := by decide +kernel
theorem dX4_leftOf_1 : decode cX4_leftOf 1 = .ok (.getfield 16, 3) := by decide +kernel
theorem dX4_leftOf_4 : decode cX4_leftOf 4 = .ok (.iload_n 1, 1) := by decide +kernel
theorem dX4_leftOf_5 : decode cX4_leftOf 5 = .ok (.invokestatic 40, 3) := by decide +kernel
theorem dX4_leftOf_8 : decode cX4_leftOf 8 = .ok (.ifCond .eq 8, 3) := by decide +kernel
theorem dX4_leftOf_11 : decode cX4_leftOf 11 = .ok (.bipush 12, 2) := by decide +kernel
theorem dX4_leftOf_13 : decode cX4_leftOf 13 = .ok (.goto 4, 3) := by decide +kernel
theorem dX4_leftOf_16 : decode cX4_leftOf 16 = .ok (.iconst 2, 1) := by decide +kernel
theorem dX4_leftOf_17 : decode cX4_leftOf 17 = .ok (.iload_n 1, 1) := by decide +kernel
theorem dX4_leftOf_18 : decode cX4_leftOf 18 = .ok (.invokestatic 44, 3) := by decide +kernel
theorem dX4_leftOf_21 : decode cX4_leftOf 21 = .ok (.iadd, 1) := by decide +kernel
theorem dX4_leftOf_22 : decode cX4_leftOf 22 = .ok (.invokevirtual 28, 3) := by decide +kernel
theorem dX4_leftOf_25 : decode cX4_leftOf 25 = .ok (.ireturn, 1) := by decide +kernel
set_option maxRecDepth 20000 in
theorem ggX4_rightOf_X6_isMirrored : GoodIn wsX4_rightOf wsX6_isMirrored := goodIn_r _ [4] (by decide +kernel) (by decide +kernel)
set_option maxRecDepth 20000 in
theorem gX4_rightOf_X6_isMirrored_n40 : GoodIn wsX4_rightOf (wsX6_isMirrored) := ggX4_rightOf_X6_isMirrored
set_option maxRecDepth 20000 in
theorem ggX4_rightOf_X6_kindOf : GoodIn wsX4_rightOf wsX6_kindOf := goodIn_r _ [6] (by decide +kernel) (by decide +kernel)
set_option maxRecDepth 20000 in
theorem gX4_rightOf_X6_kindOf_n44 : GoodIn wsX4_rightOf (wsX6_kindOf) := ggX4_rightOf_X6_kindOf
set_option maxRecDepth 20000 in
theorem ggX4_rightOf_X3_at : GoodIn wsX4_rightOf wsX3_at := goodIn_r _ [11, 12, 14] (by decide +kernel) (by decide +kernel)
set_option maxRecDepth 20000 in
theorem gX4_rightOf_X3_at : GoodIn wsX4_rightOf (wsV RX4 28 RX3 yX3_at wsX3_at) := goodIn_app (goodIn_of _ (by decide +kernel)) ggX4_rightOf_X3_at
theorem dX4_rightOf_0 : decode cX4_rightOf 0 = .ok (.aload_n 0, 1) := by decide +kernel
theorem dX4_rightOf_1 : decode cX4_rightOf 1 = .ok (.getfield 16, 3) := by decide +kernel
theorem dX4_rightOf_4 : decode cX4_rightOf 4 = .ok (.iload_n 1, 1) := by decide +kernel
theorem dX4_rightOf_5 : decode cX4_rightOf 5 = .ok (.invokestatic 40, 3) := by decide +kernel
theorem dX4_rightOf_8 : decode cX4_rightOf 8 = .ok (.ifCond .eq 7, 3) := by decide +kernel
theorem dX4_rightOf_11 : decode cX4_rightOf 11 = .ok (.iconst 2, 1) := by decide +kernel
theorem dX4_rightOf_12 : decode cX4_rightOf 12 = .ok (.goto 5, 3) := by decide +kernel
theorem dX4_rightOf_15 : decode cX4_rightOf 15 = .ok (.bipush 12, 2) := by decide +kernel
theorem dX4_rightOf_17 : decode cX4_rightOf 17 = .ok (.iload_n 1, 1) := by decide +kernel
theorem dX4_rightOf_18 : decode cX4_rightOf 18 = .ok (.invokestatic 44, 3) := by decide +kernel
theorem dX4_rightOf_21 : decode cX4_rightOf 21 = .ok (.iadd, 1) := by decide +kernel
theorem dX4_rightOf_22 : decode cX4_rightOf 22 = .ok (.invokevirtual 28, 3) := by decide +kernel
theorem dX4_rightOf_25 : decode cX4_rightOf 25 = .ok (.ireturn, 1) := by decide +kernel
set_option maxRecDepth 20000 in
theorem ggX4_lengthOf_X3_at : GoodIn wsX4_lengthOf wsX3_at := goodIn_r _ [6, 7, 9] (by decide +kernel) (by decide +kernel)
set_option maxRecDepth 20000 in
theorem gX4_lengthOf_X3_at : GoodIn wsX4_lengthOf (wsV RX4 28 RX3 yX3_at wsX3_at) := goodIn_app (goodIn_of _ (by decide +kernel)) ggX4_lengthOf_X3_at
theorem dX4_lengthOf_0 : decode cX4_lengthOf 0 = .ok (.aload_n 0, 1) := by decide +kernel
theorem dX4_lengthOf_1 : decode cX4_lengthOf 1 = .ok (.getfield 16, 3) := by decide +kernel
theorem dX4_lengthOf_4 : decode cX4_lengthOf 4 = .ok (.bipush 22, 2) := by decide +kernel
theorem dX4_lengthOf_6 : decode cX4_lengthOf 6 = .ok (.iload_n 1, 1) := by decide +kernel
theorem dX4_lengthOf_7 : decode cX4_lengthOf 7 = .ok (.iadd, 1) := by decide +kernel
theorem dX4_lengthOf_8 : decode cX4_lengthOf 8 = .ok (.invokevirtual 28, 3) := by decide +kernel
theorem dX4_lengthOf_11 : decode cX4_lengthOf 11 = .ok (.ireturn, 1) := by decide +kernel
set_option maxRecDepth 20000 in
theorem ggX4_putLength_X3_put : GoodIn wsX4_putLength wsX3_put := goodIn_r _ [6, 7, 9] (by decide +kernel) (by decide +kernel)
set_option maxRecDepth 20000 in
theorem gX4_putLength_X3_put : GoodIn wsX4_putLength (wsV RX4 20 RX3 yX3_put wsX3_put) := goodIn_app (goodIn_of _ (by decide +kernel)) ggX4_putLength_X3_put
theorem dX4_putLength_0 : decode cX4_putLength 0 = .ok (.aload_n 0, 1) := by decide +kernel
theorem dX4_putLength_1 : decode cX4_putLength 1 = .ok (.getfield 16, 3) := by decide +kernel
theorem dX4_putLength_4 : decode cX4_putLength 4 = .ok (.bipush 22, 2) := by decide +kernel
theorem dX4_putLength_6 : decode cX4_putLength 6 = .ok (.iload_n 1, 1) := by decide +kernel
theorem dX4_putLength_7 : decode cX4_putLength 7 = .ok (.iadd, 1) := by decide +kernel
theorem dX4_putLength_8 : decode cX4_putLength 8 = .ok (.iload_n 2, 1) := by decide +kernel
theorem dX4_putLength_9 : decode cX4_putLength 9 = .ok (.invokevirtual 20, 3) := by decide +kernel
theorem dX4_putLength_12 : decode cX4_putLength 12 = .ok (.return_, 1) := by decide +kernel
set_option maxRecDepth 20000 in
theorem ggX4_hasGarland_X6_isBelow : GoodIn wsX4_hasGarland wsX6_isBelow := goodIn_r _ [3] (by decide +kernel) (by decide +kernel)
set_option maxRecDepth 20000 in
theorem gX4_hasGarland_X6_isBelow_n36 : GoodIn wsX4_hasGarland (wsX6_isBelow) := ggX4_hasGarland_X6_isBelow
set_option maxRecDepth 20000 in
theorem ggX4_hasGarland_X4_lengthOf : GoodIn wsX4_hasGarland wsX4_lengthOf := goodIn_r _ [8, 9, 10, 11, 12, 13, 14, 15, 16, 17] (by decide +kernel) (by decide +kernel)
set_option maxRecDepth 20000 in
theorem gX4_hasGarland_X4_lengthOf : GoodIn wsX4_hasGarland (wsV RX4 47 RX4 yX4_lengthOf wsX4_lengthOf) := goodIn_app (goodIn_of _ (by decide +kernel)) ggX4_hasGarland_X4_lengthOf
theorem dX4_hasGarland_0 : decode cX4_hasGarland 0 = .ok (.iload_n 1, 1) := by decide +kernel
theorem dX4_hasGarland_1 : decode cX4_hasGarland 1 = .ok (.bipush 8, 2) := by decide +kernel
theorem dX4_hasGarland_3 : decode cX4_hasGarland 3 = .ok (.invokestatic 36, 3) := by decide +kernel
theorem dX4_hasGarland_6 : decode cX4_hasGarland 6 = .ok (.ifCond .eq 15, 3) := by decide +kernel
theorem dX4_hasGarland_9 : decode cX4_hasGarland 9 = .ok (.aload_n 0, 1) := by decide +kernel
theorem dX4_hasGarland_10 : decode cX4_hasGarland 10 = .ok (.iload_n 1, 1) := by decide +kernel
theorem dX4_hasGarland_11 : decode cX4_hasGarland 11 = .ok (.invokevirtual 47, 3) := by decide +kernel
theorem dX4_hasGarland_14 : decode cX4_hasGarland 14 = .ok (.ifCond .le 7, 3) := by decide +kernel
theorem dX4_hasGarland_17 : decode cX4_hasGarland 17 = .ok (.iconst 1, 1) := by decide +kernel
theorem dX4_hasGarland_18 : decode cX4_hasGarland 18 = .ok (.goto 4, 3) := by decide +kernel
theorem dX4_hasGarland_21 : decode cX4_hasGarland 21 = .ok (.iconst 0, 1) := by decide +kernel
theorem dX4_hasGarland_22 : decode cX4_hasGarland 22 = .ok (.ireturn, 1) := by decide +kernel
set_option maxRecDepth 20000 in
theorem ggX4_freeNumber_X4_lengthOf : GoodIn wsX4_freeNumber wsX4_lengthOf := goodIn_r _ [5, 6, 7, 8, 9, 10, 11, 12, 13, 14] (by decide +kernel) (by decide +kernel)
set_option maxRecDepth 20000 in
theorem gX4_freeNumber_X4_lengthOf : GoodIn wsX4_freeNumber (wsV RX4 47 RX4 yX4_lengthOf wsX4_lengthOf) := goodIn_app (goodIn_of _ (by decide +kernel)) ggX4_freeNumber_X4_lengthOf
theorem dX4_freeNumber_0 : decode cX4_freeNumber 0 = .ok (.iconst 0, 1) := by decide +kernel
theorem dX4_freeNumber_1 : decode cX4_freeNumber 1 = .ok (.istore_n 1, 1) := by decide +kernel
theorem dX4_freeNumber_2 : decode cX4_freeNumber 2 = .ok (.iload_n 1, 1) := by decide +kernel
theorem dX4_freeNumber_3 : decode cX4_freeNumber 3 = .ok (.bipush 8, 2) := by decide +kernel
theorem dX4_freeNumber_5 : decode cX4_freeNumber 5 = .ok (.if_icmp .ge 19, 3) := by decide +kernel
theorem dX4_freeNumber_8 : decode cX4_freeNumber 8 = .ok (.aload_n 0, 1) := by decide +kernel
theorem dX4_freeNumber_9 : decode cX4_freeNumber 9 = .ok (.iload_n 1, 1) := by decide +kernel
theorem dX4_freeNumber_10 : decode cX4_freeNumber 10 = .ok (.invokevirtual 47, 3) := by decide +kernel
theorem dX4_freeNumber_13 : decode cX4_freeNumber 13 = .ok (.ifCond .ne 5, 3) := by decide +kernel
theorem dX4_freeNumber_16 : decode cX4_freeNumber 16 = .ok (.iload_n 1, 1) := by decide +kernel
theorem dX4_freeNumber_17 : decode cX4_freeNumber 17 = .ok (.ireturn, 1) := by decide +kernel
theorem dX4_freeNumber_18 : decode cX4_freeNumber 18 = .ok (.iinc 1 1, 3) := by decide +kernel
theorem dX4_freeNumber_21 : decode cX4_freeNumber 21 = .ok (.goto (-19), 3) := by decide +kernel
theorem dX4_freeNumber_24 : decode cX4_freeNumber 24 = .ok (.iconst (-1), 1) := by decide +kernel
theorem dX4_freeNumber_25 : decode cX4_freeNumber 25 = .ok (.ireturn, 1) := by decide +kernel
theorem dX4_cellOf_0 : decode cX4_cellOf 0 = .ok (.bipush 30, 2) := by decide +kernel
theorem dX4_cellOf_2 : decode cX4_cellOf 2 = .ok (.iload_n 1, 1) := by decide +kernel
theorem dX4_cellOf_3 : decode cX4_cellOf 3 = .ok (.bipush 32, 2) := by decide +kernel
theorem dX4_cellOf_5 : decode cX4_cellOf 5 = .ok (.imul, 1) := by decide +kernel
theorem dX4_cellOf_6 : decode cX4_cellOf 6 = .ok (.iadd, 1) := by decide +kernel
theorem dX4_cellOf_7 : decode cX4_cellOf 7 = .ok (.iload_n 2, 1) := by decide +kernel
theorem dX4_cellOf_8 : decode cX4_cellOf 8 = .ok (.iadd, 1) := by decide +kernel
theorem dX4_cellOf_9 : decode cX4_cellOf 9 = .ok (.ireturn, 1) := by decide +kernel
set_option maxRecDepth 20000 in
theorem ggX4_dollAt_X4_cellOf : GoodIn wsX4_dollAt wsX4_cellOf := goodIn_r _ [6] (by decide +kernel) (by decide +kernel)
set_option maxRecDepth 20000 in
theorem gX4_dollAt_X4_cellOf : GoodIn wsX4_dollAt (wsV RX4 50 RX4 yX4_cellOf wsX4_cellOf) := goodIn_app (goodIn_of _ (by decide +kernel)) ggX4_dollAt_X4_cellOf
set_option maxRecDepth 20000 in
theorem ggX4_dollAt_X3_at : GoodIn wsX4_dollAt wsX3_at := goodIn_r _ [11, 12, 14] (by decide +kernel) (by decide +kernel)
set_option maxRecDepth 20000 in
theorem gX4_dollAt_X3_at : GoodIn wsX4_dollAt (wsV RX4 28 RX3 yX3_at wsX3_at) := goodIn_app (goodIn_of _ (by decide +kernel)) ggX4_dollAt_X3_at
theorem dX4_dollAt_0 : decode cX4_dollAt 0 = .ok (.aload_n 0, 1) := by decide +kernel
theorem dX4_dollAt_1 : decode cX4_dollAt 1 = .ok (.getfield 16, 3) := by decide +kernel
theorem dX4_dollAt_4 : decode cX4_dollAt 4 = .ok (.aload_n 0, 1) := by decide +kernel
theorem dX4_dollAt_5 : decode cX4_dollAt 5 = .ok (.iload_n 1, 1) := by decide +kernel
theorem dX4_dollAt_6 : decode cX4_dollAt 6 = .ok (.iload_n 2, 1) := by decide +kernel
theorem dX4_dollAt_7 : decode cX4_dollAt 7 = .ok (.invokevirtual 50, 3) := by decide +kernel
theorem dX4_dollAt_10 : decode cX4_dollAt 10 = .ok (.invokevirtual 28, 3) := by decide +kernel
theorem dX4_dollAt_13 : decode cX4_dollAt 13 = .ok (.ireturn, 1) := by decide +kernel
set_option maxRecDepth 20000 in
theorem ggX4_firstDoll_X4_dollAt : GoodIn wsX4_firstDoll wsX4_dollAt := goodIn_r _ [5, 6, 7, 8, 9, 4, 10, 11, 12, 13, 14, 15, 16, 17, 18] (by decide +kernel) (by decide +kernel)
set_option maxRecDepth 20000 in
theorem gX4_firstDoll_X4_dollAt : GoodIn wsX4_firstDoll (wsV RX4 54 RX4 yX4_dollAt wsX4_dollAt) := goodIn_app (goodIn_of _ (by decide +kernel)) ggX4_firstDoll_X4_dollAt
theorem dX4_firstDoll_0 : decode cX4_firstDoll 0 = .ok (.aload_n 0, 1) := by decide +kernel
theorem dX4_firstDoll_1 : decode cX4_firstDoll 1 = .ok (.iload_n 1, 1) := by decide +kernel
theorem dX4_firstDoll_2 : decode cX4_firstDoll 2 = .ok (.iconst 0, 1) := by decide +kernel
theorem dX4_firstDoll_3 : decode cX4_firstDoll 3 = .ok (.invokevirtual 54, 3) := by decide +kernel
theorem dX4_firstDoll_6 : decode cX4_firstDoll 6 = .ok (.ireturn, 1) := by decide +kernel
set_option maxRecDepth 20000 in
theorem ggX4_lastDoll_X4_lengthOf : GoodIn wsX4_lastDoll wsX4_lengthOf := goodIn_r _ [5, 6, 7, 8, 9, 10, 11, 12, 21, 22] (by decide +kernel) (by decide +kernel)
set_option maxRecDepth 20000 in
theorem gX4_lastDoll_X4_lengthOf : GoodIn wsX4_lastDoll (wsV RX4 47 RX4 yX4_lengthOf wsX4_lengthOf) := goodIn_app (goodIn_of _ (by decide +kernel)) ggX4_lastDoll_X4_lengthOf
set_option maxRecDepth 20000 in
theorem ggX4_lastDoll_X4_dollAt : GoodIn wsX4_lastDoll wsX4_dollAt := goodIn_r _ [16, 6, 17, 18, 19, 4, 20, 7, 8, 9, 10, 11, 12, 21, 22] (by decide +kernel) (by decide +kernel)
set_option maxRecDepth 20000 in
theorem gX4_lastDoll_X4_dollAt : GoodIn wsX4_lastDoll (wsV RX4 54 RX4 yX4_dollAt wsX4_dollAt) := goodIn_app (goodIn_of _ (by decide +kernel)) ggX4_lastDoll_X4_dollAt
theorem dX4_lastDoll_0 : decode cX4_lastDoll 0 = .ok (.aload_n 0, 1) := by decide +kernel
theorem dX4_lastDoll_1 : decode cX4_lastDoll 1 = .ok (.iload_n 1, 1) := by decide +kernel
theorem dX4_lastDoll_2 : decode cX4_lastDoll 2 = .ok (.aload_n 0, 1) := by decide +kernel
theorem dX4_lastDoll_3 : decode cX4_lastDoll 3 = .ok (.iload_n 1, 1) := by decide +kernel
theorem dX4_lastDoll_4 : decode cX4_lastDoll 4 = .ok (.invokevirtual 47, 3) := by decide +kernel
theorem dX4_lastDoll_7 : decode cX4_lastDoll 7 = .ok (.iconst 1, 1) := by decide +kernel
theorem dX4_lastDoll_8 : decode cX4_lastDoll 8 = .ok (.isub, 1) := by decide +kernel
theorem dX4_lastDoll_9 : decode cX4_lastDoll 9 = .ok (.invokevirtual 54, 3) := by decide +kernel
theorem dX4_lastDoll_12 : decode cX4_lastDoll 12 = .ok (.ireturn, 1) := by decide +kernel
set_option maxRecDepth 20000 in
theorem ggX4_putDoll_X4_cellOf : GoodIn wsX4_putDoll wsX4_cellOf := goodIn_r _ [6] (by decide +kernel) (by decide +kernel)
set_option maxRecDepth 20000 in
theorem gX4_putDoll_X4_cellOf : GoodIn wsX4_putDoll (wsV RX4 50 RX4 yX4_cellOf wsX4_cellOf) := goodIn_app (goodIn_of _ (by decide +kernel)) ggX4_putDoll_X4_cellOf
set_option maxRecDepth 20000 in
theorem ggX4_putDoll_X3_put : GoodIn wsX4_putDoll wsX3_put := goodIn_r _ [11, 12, 14] (by decide +kernel) (by decide +kernel)
set_option maxRecDepth 20000 in
theorem gX4_putDoll_X3_put : GoodIn wsX4_putDoll (wsV RX4 20 RX3 yX3_put wsX3_put) := goodIn_app (goodIn_of _ (by decide +kernel)) ggX4_putDoll_X3_put
theorem dX4_putDoll_0 : decode cX4_putDoll 0 = .ok (.aload_n 0, 1) := by decide +kernel
theorem dX4_putDoll_1 : decode cX4_putDoll 1 = .ok (.getfield 16, 3) := by decide +kernel
theorem dX4_putDoll_4 : decode cX4_putDoll 4 = .ok (.aload_n 0, 1) := by decide +kernel
theorem dX4_putDoll_5 : decode cX4_putDoll 5 = .ok (.iload_n 1, 1) := by decide +kernel
theorem dX4_putDoll_6 : decode cX4_putDoll 6 = .ok (.iload_n 2, 1) := by decide +kernel
theorem dX4_putDoll_7 : decode cX4_putDoll 7 = .ok (.invokevirtual 50, 3) := by decide +kernel
theorem dX4_putDoll_10 : decode cX4_putDoll 10 = .ok (.iload_n 3, 1) := by decide +kernel
theorem dX4_putDoll_11 : decode cX4_putDoll 11 = .ok (.invokevirtual 20, 3) := by decide +kernel
theorem dX4_putDoll_14 : decode cX4_putDoll 14 = .ok (.return_, 1) := by decide +kernel
set_option maxRecDepth 20000 in
theorem ggX4_copyDolls_X4_cellOf : GoodIn wsX4_copyDolls wsX4_cellOf := goodIn_r _ [6] (by decide +kernel) (by decide +kernel)
set_option maxRecDepth 20000 in
theorem gX4_copyDolls_X4_cellOf : GoodIn wsX4_copyDolls (wsV RX4 50 RX4 yX4_cellOf wsX4_cellOf) := goodIn_app (goodIn_of _ (by decide +kernel)) ggX4_copyDolls_X4_cellOf
set_option maxRecDepth 20000 in
theorem ggX4_copyDolls_X3_copyFrom : GoodIn wsX4_copyDolls wsX3_copyFrom := goodIn_r _ [11, 12, 13, 14, 15, 16, 18] (by decide +kernel) (by decide +kernel)
set_option maxRecDepth 20000 in
theorem gX4_copyDolls_X3_copyFrom : GoodIn wsX4_copyDolls (wsV RX4 24 RX3 yX3_copyFrom wsX3_copyFrom) := goodIn_app (goodIn_of _ (by decide +kernel)) ggX4_copyDolls_X3_copyFrom
theorem dX4_copyDolls_0 : decode cX4_copyDolls 0 = .ok (.aload_n 0, 1) := by decide +kernel
theorem dX4_copyDolls_1 : decode cX4_copyDolls 1 = .ok (.getfield 16, 3) := by decide +kernel
theorem dX4_copyDolls_4 : decode cX4_copyDolls 4 = .ok (.aload_n 0, 1) := by decide +kernel
theorem dX4_copyDolls_5 : decode cX4_copyDolls 5 = .ok (.getfield 16, 3) := by decide +kernel
theorem dX4_copyDolls_8 : decode cX4_copyDolls 8 = .ok (.aload_n 0, 1) := by decide +kernel
theorem dX4_copyDolls_9 : decode cX4_copyDolls 9 = .ok (.iload_n 1, 1) := by decide +kernel
theorem dX4_copyDolls_10 : decode cX4_copyDolls 10 = .ok (.iload_n 2, 1) := by decide +kernel
theorem dX4_copyDolls_11 : decode cX4_copyDolls 11 = .ok (.invokevirtual 50, 3) := by decide +kernel
theorem dX4_copyDolls_14 : decode cX4_copyDolls 14 = .ok (.aload_n 0, 1) := by decide +kernel
theorem dX4_copyDolls_15 : decode cX4_copyDolls 15 = .ok (.iload_n 3, 1) := by decide +kernel
theorem dX4_copyDolls_16 : decode cX4_copyDolls 16 = .ok (.iload 4, 2) := by decide +kernel
theorem dX4_copyDolls_18 : decode cX4_copyDolls 18 = .ok (.invokevirtual 50, 3) := by decide +kernel
theorem dX4_copyDolls_21 : decode cX4_copyDolls 21 = .ok (.iload 5, 2) := by decide +kernel
theorem dX4_copyDolls_23 : decode cX4_copyDolls 23 = .ok (.invokevirtual 24, 3) := by decide +kernel
theorem dX4_copyDolls_26 : decode cX4_copyDolls 26 = .ok (.return_, 1) := by decide +kernel
set_option maxRecDepth 20000 in
theorem ggX4_hangUp_X4_cellOf : GoodIn wsX4_hangUp wsX4_cellOf := goodIn_r _ [6] (by decide +kernel) (by decide +kernel)
set_option maxRecDepth 20000 in
theorem gX4_hangUp_X4_cellOf : GoodIn wsX4_hangUp (wsV RX4 50 RX4 yX4_cellOf wsX4_cellOf) := goodIn_app (goodIn_of _ (by decide +kernel)) ggX4_hangUp_X4_cellOf
set_option maxRecDepth 20000 in
theorem ggX4_hangUp_X3_copyFrom : GoodIn wsX4_hangUp wsX3_copyFrom := goodIn_r _ [11, 12, 13, 14, 15, 16, 26] (by decide +kernel) (by decide +kernel)
set_option maxRecDepth 20000 in
theorem gX4_hangUp_X3_copyFrom : GoodIn wsX4_hangUp (wsV RX4 24 RX3 yX3_copyFrom wsX3_copyFrom) := goodIn_app (goodIn_of _ (by decide +kernel)) ggX4_hangUp_X3_copyFrom
set_option maxRecDepth 20000 in
theorem ggX4_hangUp_X4_putLength : GoodIn wsX4_hangUp wsX4_putLength := goodIn_r _ [20, 1, 21, 22, 23, 10, 24, 12, 25, 26] (by decide +kernel) (by decide +kernel)
set_option maxRecDepth 20000 in
theorem gX4_hangUp_X4_putLength : GoodIn wsX4_hangUp (wsV RX4 57 RX4 yX4_putLength wsX4_putLength) := goodIn_app (goodIn_of _ (by decide +kernel)) ggX4_hangUp_X4_putLength
theorem dX4_hangUp_0 : decode cX4_hangUp 0 = .ok (.aload_n 0, 1) := by decide +kernel
theorem dX4_hangUp_1 : decode cX4_hangUp 1 = .ok (.getfield 16, 3) := by decide +kernel
theorem dX4_hangUp_4 : decode cX4_hangUp 4 = .ok (.aload_n 2, 1) := by decide +kernel
theorem dX4_hangUp_5 : decode cX4_hangUp 5 = .ok (.iconst 0, 1) := by decide +kernel
theorem dX4_hangUp_6 : decode cX4_hangUp 6 = .ok (.aload_n 0, 1) := by decide +kernel
theorem dX4_hangUp_7 : decode cX4_hangUp 7 = .ok (.iload_n 1, 1) := by decide +kernel
theorem dX4_hangUp_8 : decode cX4_hangUp 8 = .ok (.iconst 0, 1) := by decide +kernel
theorem dX4_hangUp_9 : decode cX4_hangUp 9 = .ok (.invokevirtual 50, 3) := by decide +kernel
theorem dX4_hangUp_12 : decode cX4_hangUp 12 = .ok (.iload_n 3, 1) := by decide +kernel
theorem dX4_hangUp_13 : decode cX4_hangUp 13 = .ok (.invokevirtual 24, 3) := by decide +kernel
theorem dX4_hangUp_16 : decode cX4_hangUp 16 = .ok (.aload_n 0, 1) := by decide +kernel
theorem dX4_hangUp_17 : decode cX4_hangUp 17 = .ok (.iload_n 1, 1) := by decide +kernel
theorem dX4_hangUp_18 : decode cX4_hangUp 18 = .ok (.iload_n 3, 1) := by decide +kernel
theorem dX4_hangUp_19 : decode cX4_hangUp 19 = .ok (.invokevirtual 57, 3) := by decide +kernel
theorem dX4_hangUp_22 : decode cX4_hangUp 22 = .ok (.return_, 1) := by decide +kernel
set_option maxRecDepth 20000 in
theorem ggX4_turnRound_X4_lengthOf : GoodIn wsX4_turnRound wsX4_lengthOf := goodIn_r _ [5, 6, 7, 8, 9, 10, 11, 12, 32, 33] (by decide +kernel) (by decide +kernel)
set_option maxRecDepth 20000 in
theorem gX4_turnRound_X4_lengthOf : GoodIn wsX4_turnRound (wsV RX4 47 RX4 yX4_lengthOf wsX4_lengthOf) := goodIn_app (goodIn_of _ (by decide +kernel)) ggX4_turnRound_X4_lengthOf
set_option maxRecDepth 20000 in
theorem ggX4_turnRound_X4_dollAt : GoodIn wsX4_turnRound wsX4_dollAt := goodIn_r _ [16, 6, 17, 18, 19, 4, 20, 7, 8, 9, 10, 11, 12, 32, 33] (by decide +kernel) (by decide +kernel)
set_option maxRecDepth 20000 in
theorem gX4_turnRound_X4_dollAt : GoodIn wsX4_turnRound (wsV RX4 54 RX4 yX4_dollAt wsX4_dollAt) := goodIn_app (goodIn_of _ (by decide +kernel)) ggX4_turnRound_X4_dollAt
set_option maxRecDepth 20000 in
theorem ggX4_turnRound_X6_mirrorOf : GoodIn wsX4_turnRound wsX6_mirrorOf := goodIn_r _ [23] (by decide +kernel) (by decide +kernel)
set_option maxRecDepth 20000 in
theorem gX4_turnRound_X6_mirrorOf_n60 : GoodIn wsX4_turnRound (wsX6_mirrorOf) := ggX4_turnRound_X6_mirrorOf
set_option maxRecDepth 20000 in
theorem ggX4_turnRound_X4_putDoll : GoodIn wsX4_turnRound wsX4_putDoll := goodIn_r _ [27, 6, 17, 18, 19, 4, 20, 28, 29, 30, 10, 31, 12, 32, 33] (by decide +kernel) (by decide +kernel)
set_option maxRecDepth 20000 in
theorem gX4_turnRound_X4_putDoll : GoodIn wsX4_turnRound (wsV RX4 63 RX4 yX4_putDoll wsX4_putDoll) := goodIn_app (goodIn_of _ (by decide +kernel)) ggX4_turnRound_X4_putDoll
theorem dX4_turnRound_0 : decode cX4_turnRound 0 = .ok (.aload_n 0, 1) := by decide +kernel
theorem dX4_turnRound_1 : decode cX4_turnRound 1 = .ok (.iload_n 1, 1) := by decide +kernel
theorem dX4_turnRound_2 : decode cX4_turnRound 2 = .ok (.invokevirtual 47, 3) := by decide +kernel
theorem dX4_turnRound_5 : decode cX4_turnRound 5 = .ok (.iconst 1, 1) := by decide +kernel
theorem dX4_turnRound_6 : decode cX4_turnRound 6 = .ok (.isub, 1) := by decide +kernel
theorem dX4_turnRound_7 : decode cX4_turnRound 7 = .ok (.istore_n 2, 1) := by decide +kernel
theorem dX4_turnRound_8 : decode cX4_turnRound 8 = .ok (.iconst 0, 1) := by decide +kernel
theorem dX4_turnRound_9 : decode cX4_turnRound 9 = .ok (.istore_n 3, 1) := by decide +kernel
theorem dX4_turnRound_10 : decode cX4_turnRound 10 = .ok (.iload_n 3, 1) := by decide +kernel
theorem dX4_turnRound_11 : decode cX4_turnRound 11 = .ok (.iload_n 2, 1) := by decide +kernel
theorem dX4_turnRound_12 : decode cX4_turnRound 12 = .ok (.if_icmp .gt 46, 3) := by decide +kernel
theorem dX4_turnRound_15 : decode cX4_turnRound 15 = .ok (.aload_n 0, 1) := by decide +kernel
theorem dX4_turnRound_16 : decode cX4_turnRound 16 = .ok (.iload_n 1, 1) := by decide +kernel
theorem dX4_turnRound_17 : decode cX4_turnRound 17 = .ok (.iload_n 3, 1) := by decide +kernel
theorem dX4_turnRound_18 : decode cX4_turnRound 18 = .ok (.invokevirtual 54, 3) := by decide +kernel
theorem dX4_turnRound_21 : decode cX4_turnRound 21 = .ok (.istore 4, 2) := by decide +kernel
theorem dX4_turnRound_23 : decode cX4_turnRound 23 = .ok (.aload_n 0, 1) := by decide +kernel
theorem dX4_turnRound_24 : decode cX4_turnRound 24 = .ok (.iload_n 1, 1) := by decide +kernel
theorem dX4_turnRound_25 : decode cX4_turnRound 25 = .ok (.iload_n 3, 1) := by decide +kernel
theorem dX4_turnRound_26 : decode cX4_turnRound 26 = .ok (.aload_n 0, 1) := by decide +kernel
theorem dX4_turnRound_27 : decode cX4_turnRound 27 = .ok (.iload_n 1, 1) := by decide +kernel
theorem dX4_turnRound_28 : decode cX4_turnRound 28 = .ok (.iload_n 2, 1) := by decide +kernel
theorem dX4_turnRound_29 : decode cX4_turnRound 29 = .ok (.invokevirtual 54, 3) := by decide +kernel
theorem dX4_turnRound_32 : decode cX4_turnRound 32 = .ok (.invokestatic 60, 3) := by decide +kernel
theorem dX4_turnRound_35 : decode cX4_turnRound 35 = .ok (.invokevirtual 63, 3) := by decide +kernel
theorem dX4_turnRound_38 : decode cX4_turnRound 38 = .ok (.aload_n 0, 1) := by decide +kernel
theorem dX4_turnRound_39 : decode cX4_turnRound 39 = .ok (.iload_n 1, 1) := by decide +kernel
theorem dX4_turnRound_40 : decode cX4_turnRound 40 = .ok (.iload_n 2, 1) := by decide +kernel
theorem dX4_turnRound_41 : decode cX4_turnRound 41 = .ok (.iload 4, 2) := by decide +kernel
theorem dX4_turnRound_43 : decode cX4_turnRound 43 = .ok (.invokestatic 60, 3) := by decide +kernel
theorem dX4_turnRound_46 : decode cX4_turnRound 46 = .ok (.invokevirtual 63, 3) := by decide +kernel
theorem dX4_turnRound_49 : decode cX4_turnRound 49 = .ok (.iinc 3 1, 3) := by decide +kernel
theorem dX4_turnRound_52 : decode cX4_turnRound 52 = .ok (.iinc 2 (-1), 3) := by decide +kernel
theorem dX4_turnRound_55 : decode cX4_turnRound 55 = .ok (.goto (-45), 3) := by decide +kernel
theorem dX4_turnRound_58 : decode cX4_turnRound 58 = .ok (.return_, 1) := by decide +kernel
set_option maxRecDepth 20000 in
theorem ggX4_foldOut_X4_lengthOf : GoodIn wsX4_foldOut wsX4_lengthOf := goodIn_r _ [5, 6, 7, 8, 9, 10, 11, 12, 36, 37] (by decide +kernel) (by decide +kernel)
set_option maxRecDepth 20000 in
theorem gX4_foldOut_X4_lengthOf : GoodIn wsX4_foldOut (wsV RX4 47 RX4 yX4_lengthOf wsX4_lengthOf) := goodIn_app (goodIn_of _ (by decide +kernel)) ggX4_foldOut_X4_lengthOf
set_option maxRecDepth 20000 in
theorem ggX4_foldOut_X4_dollAt : GoodIn wsX4_foldOut wsX4_dollAt := goodIn_r _ [16, 6, 17, 18, 19, 4, 20, 7, 8, 9, 10, 11, 12, 36, 37] (by decide +kernel) (by decide +kernel)
set_option maxRecDepth 20000 in
theorem gX4_foldOut_X4_dollAt : GoodIn wsX4_foldOut (wsV RX4 54 RX4 yX4_dollAt wsX4_dollAt) := goodIn_app (goodIn_of _ (by decide +kernel)) ggX4_foldOut_X4_dollAt
set_option maxRecDepth 20000 in
theorem ggX4_foldOut_X6_mirrorOf : GoodIn wsX4_foldOut wsX6_mirrorOf := goodIn_r _ [23] (by decide +kernel) (by decide +kernel)
set_option maxRecDepth 20000 in
theorem gX4_foldOut_X6_mirrorOf_n60 : GoodIn wsX4_foldOut (wsX6_mirrorOf) := ggX4_foldOut_X6_mirrorOf
set_option maxRecDepth 20000 in
theorem ggX4_foldOut_X4_putDoll : GoodIn wsX4_foldOut wsX4_putDoll := goodIn_r _ [27, 6, 17, 18, 19, 4, 20, 28, 29, 30, 10, 31, 12, 36, 37] (by decide +kernel) (by decide +kernel)
set_option maxRecDepth 20000 in
theorem gX4_foldOut_X4_putDoll : GoodIn wsX4_foldOut (wsV RX4 63 RX4 yX4_putDoll wsX4_putDoll) := goodIn_app (goodIn_of _ (by decide +kernel)) ggX4_foldOut_X4_putDoll
set_option maxRecDepth 20000 in
theorem ggX4_foldOut_X4_putLength : GoodIn wsX4_foldOut wsX4_putLength := goodIn_r _ [35, 6, 28, 29, 30, 10, 31, 12, 36, 37] (by decide +kernel) (by decide +kernel)
set_option maxRecDepth 20000 in
theorem gX4_foldOut_X4_putLength : GoodIn wsX4_foldOut (wsV RX4 57 RX4 yX4_putLength wsX4_putLength) := goodIn_app (goodIn_of _ (by decide +kernel)) ggX4_foldOut_X4_putLength
theorem dX4_foldOut_0 : decode cX4_foldOut 0 = .ok (.aload_n 0, 1) := by decide +kernel
theorem dX4_foldOut_1 : decode cX4_foldOut 1 = .ok (.iload_n 1, 1) := by decide +kernel
theorem dX4_foldOut_2 : decode cX4_foldOut 2 = .ok (.invokevirtual 47, 3) := by decide +kernel
theorem dX4_foldOut_5 : decode cX4_foldOut 5 = .ok (.istore_n 2, 1) := by decide +kernel
theorem dX4_foldOut_6 : decode cX4_foldOut 6 = .ok (.iconst 0, 1) := by decide +kernel
theorem dX4_foldOut_7 : decode cX4_foldOut 7 = .ok (.istore_n 3, 1) := by decide +kernel
theorem dX4_foldOut_8 : decode cX4_foldOut 8 = .ok (.iload_n 3, 1) := by decide +kernel
theorem dX4_foldOut_9 : decode cX4_foldOut 9 = .ok (.iload_n 2, 1) := by decide +kernel
theorem dX4_foldOut_10 : decode cX4_foldOut 10 = .ok (.if_icmp .ge 34, 3) := by decide +kernel
theorem dX4_foldOut_13 : decode cX4_foldOut 13 = .ok (.aload_n 0, 1) := by decide +kernel
theorem dX4_foldOut_14 : decode cX4_foldOut 14 = .ok (.iload_n 1, 1) := by decide +kernel
theorem dX4_foldOut_15 : decode cX4_foldOut 15 = .ok (.iload_n 2, 1) := by decide +kernel
theorem dX4_foldOut_16 : decode cX4_foldOut 16 = .ok (.iconst 1, 1) := by decide +kernel
theorem dX4_foldOut_17 : decode cX4_foldOut 17 = .ok (.isub, 1) := by decide +kernel
theorem dX4_foldOut_18 : decode cX4_foldOut 18 = .ok (.iload_n 3, 1) := by decide +kernel
theorem dX4_foldOut_19 : decode cX4_foldOut 19 = .ok (.isub, 1) := by decide +kernel
theorem dX4_foldOut_20 : decode cX4_foldOut 20 = .ok (.invokevirtual 54, 3) := by decide +kernel
theorem dX4_foldOut_23 : decode cX4_foldOut 23 = .ok (.istore 4, 2) := by decide +kernel
theorem dX4_foldOut_25 : decode cX4_foldOut 25 = .ok (.aload_n 0, 1) := by decide +kernel
theorem dX4_foldOut_26 : decode cX4_foldOut 26 = .ok (.iload_n 1, 1) := by decide +kernel
theorem dX4_foldOut_27 : decode cX4_foldOut 27 = .ok (.iload_n 2, 1) := by decide +kernel
theorem dX4_foldOut_28 : decode cX4_foldOut 28 = .ok (.iload_n 3, 1) := by decide +kernel
theorem dX4_foldOut_29 : decode cX4_foldOut 29 = .ok (.iadd, 1) := by decide +kernel
theorem dX4_foldOut_30 : decode cX4_foldOut 30 = .ok (.iload 4, 2) := by decide +kernel
theorem dX4_foldOut_32 : decode cX4_foldOut 32 = .ok (.invokestatic 60, 3) := by decide +kernel
theorem dX4_foldOut_35 : decode cX4_foldOut 35 = .ok (.invokevirtual 63, 3) := by decide +kernel
theorem dX4_foldOut_38 : decode cX4_foldOut 38 = .ok (.iinc 3 1, 3) := by decide +kernel
theorem dX4_foldOut_41 : decode cX4_foldOut 41 = .ok (.goto (-33), 3) := by decide +kernel
theorem dX4_foldOut_44 : decode cX4_foldOut 44 = .ok (.aload_n 0, 1) := by decide +kernel
theorem dX4_foldOut_45 : decode cX4_foldOut 45 = .ok (.iload_n 1, 1) := by decide +kernel
theorem dX4_foldOut_46 : decode cX4_foldOut 46 = .ok (.iconst 2, 1) := by decide +kernel
theorem dX4_foldOut_47 : decode cX4_foldOut 47 = .ok (.iload_n 2, 1) := by decide +kernel
theorem dX4_foldOut_48 : decode cX4_foldOut 48 = .ok (.imul, 1) := by decide +kernel
theorem dX4_foldOut_49 : decode cX4_foldOut 49 = .ok (.invokevirtual 57, 3) := by decide +kernel
theorem dX4_foldOut_52 : decode cX4_foldOut 52 = .ok (.return_, 1) := by decide +kernel
set_option maxRecDepth 20000 in
theorem ggX4_clash_X4_rightOf : GoodIn wsX4_clash wsX4_rightOf := goodIn_r _ [5, 6, 7, 8, 9, 10, 11, 12, 13, 14, 15, 16, 17, 26, 27] (by decide +kernel) (by decide +kernel)
set_option maxRecDepth 20000 in
theorem gX4_clash_X4_rightOf : GoodIn wsX4_clash (wsV RX4 67 RX4 yX4_rightOf wsX4_rightOf) := goodIn_app (goodIn_of _ (by decide +kernel)) ggX4_clash_X4_rightOf
set_option maxRecDepth 20000 in
theorem ggX4_clash_X4_leftOf : GoodIn wsX4_clash wsX4_leftOf := goodIn_r _ [21, 6, 7, 8, 9, 10, 11, 12, 13, 14, 15, 16, 17, 26, 27] (by decide +kernel) (by decide +kernel)
set_option maxRecDepth 20000 in
theorem gX4_clash_X4_leftOf : GoodIn wsX4_clash (wsV RX4 70 RX4 yX4_leftOf wsX4_leftOf) := goodIn_app (goodIn_of _ (by decide +kernel)) ggX4_clash_X4_leftOf
set_option maxRecDepth 20000 in
theorem ggX4_clash_X4_ruleNow : GoodIn wsX4_clash wsX4_ruleNow := goodIn_r _ [25, 6, 12, 13, 14, 15, 16, 17, 26, 27] (by decide +kernel) (by decide +kernel)
set_option maxRecDepth 20000 in
theorem gX4_clash_X4_ruleNow : GoodIn wsX4_clash (wsV RX4 73 RX4 yX4_ruleNow wsX4_ruleNow) := goodIn_app (goodIn_of _ (by decide +kernel)) ggX4_clash_X4_ruleNow
set_option maxRecDepth 20000 in
theorem ggX4_clash_X6_isMirrored : GoodIn wsX4_clash wsX6_isMirrored := goodIn_r _ [9] (by decide +kernel) (by decide +kernel)
set_option maxRecDepth 20000 in
theorem gX4_clash_X6_isMirrored_n40 : GoodIn wsX4_clash (wsX6_isMirrored) := ggX4_clash_X6_isMirrored
theorem dX4_clash_0 : decode cX4_clash 0 = .ok (.aload_n 0, 1) := by decide +kernel
theorem dX4_clash_1 : decode cX4_clash 1 = .ok (.iload_n 1, 1) := by decide +kernel
theorem dX4_clash_2 : decode cX4_clash 2 = .ok (.invokevirtual 67, 3) := by decide +kernel
theorem dX4_clash_5 : decode cX4_clash 5 = .ok (.istore_n 3, 1) := by decide +kernel
theorem dX4_clash_6 : decode cX4_clash 6 = .ok (.aload_n 0, 1) := by decide +kernel
theorem dX4_clash_7 : decode cX4_clash 7 = .ok (.iload_n 2, 1) := by decide +kernel
theorem dX4_clash_8 : decode cX4_clash 8 = .ok (.invokevirtual 70, 3) := by decide +kernel
theorem dX4_clash_11 : decode cX4_clash 11 = .ok (.istore 4, 2) := by decide +kernel
theorem dX4_clash_13 : decode cX4_clash 13 = .ok (.iload_n 3, 1) := by decide +kernel
theorem dX4_clash_14 : decode cX4_clash 14 = .ok (.ifCond .eq 8, 3) := by decide +kernel
theorem dX4_clash_17 : decode cX4_clash 17 = .ok (.iload 4, 2) := by decide +kernel
theorem dX4_clash_19 : decode cX4_clash 19 = .ok (.ifCond .ne 5, 3) := by decide +kernel
theorem dX4_clash_22 : decode cX4_clash 22 = .ok (.iconst 0, 1) := by decide +kernel
theorem dX4_clash_23 : decode cX4_clash 23 = .ok (.ireturn, 1) := by decide +kernel
theorem dX4_clash_24 : decode cX4_clash 24 = .ok (.iload_n 3, 1) := by decide +kernel
theorem dX4_clash_25 : decode cX4_clash 25 = .ok (.iload 4, 2) := by decide +kernel
theorem dX4_clash_27 : decode cX4_clash 27 = .ok (.if_icmp .ne 7, 3) := by decide +kernel
theorem dX4_clash_30 : decode cX4_clash 30 = .ok (.iconst 1, 1) := by decide +kernel
theorem dX4_clash_31 : decode cX4_clash 31 = .ok (.goto 4, 3) := by decide +kernel
theorem dX4_clash_34 : decode cX4_clash 34 = .ok (.iconst 0, 1) := by decide +kernel
theorem dX4_clash_35 : decode cX4_clash 35 = .ok (.istore 5, 2) := by decide +kernel
theorem dX4_clash_37 : decode cX4_clash 37 = .ok (.aload_n 0, 1) := by decide +kernel
theorem dX4_clash_38 : decode cX4_clash 38 = .ok (.invokevirtual 73, 3) := by decide +kernel
theorem dX4_clash_41 : decode cX4_clash 41 = .ok (.lookupswitch 52 #[(0, 27), (1, 49)], 27) := by decide +kernel
theorem dX4_clash_68 : decode cX4_clash 68 = .ok (.iload 5, 2) := by decide +kernel
theorem dX4_clash_70 : decode cX4_clash 70 = .ok (.ifCond .eq 18, 3) := by decide +kernel
theorem dX4_clash_73 : decode cX4_clash 73 = .ok (.iload_n 1, 1) := by decide +kernel
theorem dX4_clash_74 : decode cX4_clash 74 = .ok (.invokestatic 40, 3) := by decide +kernel
theorem dX4_clash_77 : decode cX4_clash 77 = .ok (.iload_n 2, 1) := by decide +kernel
theorem dX4_clash_78 : decode cX4_clash 78 = .ok (.invokestatic 40, 3) := by decide +kernel
theorem dX4_clash_81 : decode cX4_clash 81 = .ok (.if_icmp .eq 7, 3) := by decide +kernel
theorem dX4_clash_84 : decode cX4_clash 84 = .ok (.iconst 1, 1) := by decide +kernel
theorem dX4_clash_85 : decode cX4_clash 85 = .ok (.goto 4, 3) := by decide +kernel
theorem dX4_clash_88 : decode cX4_clash 88 = .ok (.iconst 0, 1) := by decide +kernel
theorem dX4_clash_89 : decode cX4_clash 89 = .ok (.ireturn, 1) := by decide +kernel
theorem dX4_clash_90 : decode cX4_clash 90 = .ok (.iload 5, 2) := by decide +kernel
theorem dX4_clash_92 : decode cX4_clash 92 = .ok (.ireturn, 1) := by decide +kernel
theorem dX4_clash_93 : decode cX4_clash 93 = .ok (.iload 5, 2) := by decide +kernel
theorem dX4_clash_95 : decode cX4_clash 95 = .ok (.ifCond .ne 7, 3) := by decide +kernel
theorem dX4_clash_98 : decode cX4_clash 98 = .ok (.iconst 1, 1) := by decide +kernel
theorem dX4_clash_99 : decode cX4_clash 99 = .ok (.goto 4, 3) := by decide +kernel
theorem dX4_clash_102 : decode cX4_clash 102 = .ok (.iconst 0, 1) := by decide +kernel
theorem dX4_clash_103 : decode cX4_clash 103 = .ok (.ireturn, 1) := by decide +kernel
set_option maxRecDepth 20000 in
theorem ggX4_hasClashIn_X3_at : GoodIn wsX4_hasClashIn wsX3_at := goodIn_r _ [5, 6, 30] (by decide +kernel) (by decide +kernel)
set_option maxRecDepth 20000 in
theorem gX4_hasClashIn_X3_at : GoodIn wsX4_hasClashIn (wsV RX4 28 RX3 yX3_at wsX3_at) := goodIn_app (goodIn_of _ (by decide +kernel)) ggX4_hasClashIn_X3_at
set_option maxRecDepth 20000 in
theorem ggX4_hasClashIn_X4_clash : GoodIn wsX4_hasClashIn wsX4_clash := goodIn_r _ [11, 12, 13, 14, 10, 15, 16, 17, 18, 19, 20, 21, 1, 2, 3, 4, 5, 6, 22, 23, 24, 25, 26, 27, 28, 29, 31, 30] (by decide +kernel) (by decide +kernel)
set_option maxRecDepth 20000 in
theorem gX4_hasClashIn_X4_clash : GoodIn wsX4_hasClashIn (wsV RX4 76 RX4 yX4_clash wsX4_clash) := goodIn_app (goodIn_of _ (by decide +kernel)) ggX4_hasClashIn_X4_clash
theorem dX4_hasClashIn_0 : decode cX4_hasClashIn 0 = .ok (.iconst 1, 1) := by decide +kernel
theorem dX4_hasClashIn_1 : decode cX4_hasClashIn 1 = .ok (.istore 4, 2) := by decide +kernel
theorem dX4_hasClashIn_3 : decode cX4_hasClashIn 3 = .ok (.iload 4, 2) := by decide +kernel
theorem dX4_hasClashIn_5 : decode cX4_hasClashIn 5 = .ok (.iload_n 3, 1) := by decide +kernel
theorem dX4_hasClashIn_6 : decode cX4_hasClashIn 6 = .ok (.if_icmp .ge 36, 3) := by decide +kernel
theorem dX4_hasClashIn_9 : decode cX4_hasClashIn 9 = .ok (.aload_n 0, 1) := by decide +kernel
theorem dX4_hasClashIn_10 : decode cX4_hasClashIn 10 = .ok (.aload_n 1, 1) := by decide +kernel
theorem dX4_hasClashIn_11 : decode cX4_hasClashIn 11 = .ok (.iload_n 2, 1) := by decide +kernel
theorem dX4_hasClashIn_12 : decode cX4_hasClashIn 12 = .ok (.iload 4, 2) := by decide +kernel
theorem dX4_hasClashIn_14 : decode cX4_hasClashIn 14 = .ok (.iadd, 1) := by decide +kernel
theorem dX4_hasClashIn_15 : decode cX4_hasClashIn 15 = .ok (.iconst 1, 1) := by decide +kernel
theorem dX4_hasClashIn_16 : decode cX4_hasClashIn 16 = .ok (.isub, 1) := by decide +kernel
theorem dX4_hasClashIn_17 : decode cX4_hasClashIn 17 = .ok (.invokevirtual 28, 3) := by decide +kernel
theorem dX4_hasClashIn_20 : decode cX4_hasClashIn 20 = .ok (.aload_n 1, 1) := by decide +kernel
theorem dX4_hasClashIn_21 : decode cX4_hasClashIn 21 = .ok (.iload_n 2, 1) := by decide +kernel
theorem dX4_hasClashIn_22 : decode cX4_hasClashIn 22 = .ok (.iload 4, 2) := by decide +kernel
theorem dX4_hasClashIn_24 : decode cX4_hasClashIn 24 = .ok (.iadd, 1) := by decide +kernel
theorem dX4_hasClashIn_25 : decode cX4_hasClashIn 25 = .ok (.invokevirtual 28, 3) := by decide +kernel
theorem dX4_hasClashIn_28 : decode cX4_hasClashIn 28 = .ok (.invokevirtual 76, 3) := by decide +kernel
theorem dX4_hasClashIn_31 : decode cX4_hasClashIn 31 = .ok (.ifCond .eq 5, 3) := by decide +kernel
theorem dX4_hasClashIn_34 : decode cX4_hasClashIn 34 = .ok (.iconst 1, 1) := by decide +kernel
theorem dX4_hasClashIn_35 : decode cX4_hasClashIn 35 = .ok (.ireturn, 1) := by decide +kernel
theorem dX4_hasClashIn_36 : decode cX4_hasClashIn 36 = .ok (.iinc 4 1, 3) := by decide +kernel
theorem dX4_hasClashIn_39 : decode cX4_hasClashIn 39 = .ok (.goto (-36), 3) := by decide +kernel
theorem dX4_hasClashIn_42 : decode cX4_hasClashIn 42 = .ok (.iconst 0, 1) := by decide +kernel
theorem dX4_hasClashIn_43 : decode cX4_hasClashIn 43 = .ok (.ireturn, 1) := by decide +kernel
set_option maxRecDepth 20000 in
theorem ggX4_hasClash_X4_cellOf : GoodIn wsX4_hasClash wsX4_cellOf := goodIn_r _ [6] (by decide +kernel) (by decide +kernel)
set_option maxRecDepth 20000 in
theorem gX4_hasClash_X4_cellOf : GoodIn wsX4_hasClash (wsV RX4 50 RX4 yX4_cellOf wsX4_cellOf) := goodIn_app (goodIn_of _ (by decide +kernel)) ggX4_hasClash_X4_cellOf
set_option maxRecDepth 20000 in
theorem ggX4_hasClash_X4_lengthOf : GoodIn wsX4_hasClash wsX4_lengthOf := goodIn_r _ [10, 1, 11, 12, 13, 14, 15, 16, 42, 43] (by decide +kernel) (by decide +kernel)
set_option maxRecDepth 20000 in
theorem gX4_hasClash_X4_lengthOf : GoodIn wsX4_hasClash (wsV RX4 47 RX4 yX4_lengthOf wsX4_lengthOf) := goodIn_app (goodIn_of _ (by decide +kernel)) ggX4_hasClash_X4_lengthOf
set_option maxRecDepth 20000 in
theorem ggX4_hasClash_X4_hasClashIn : GoodIn wsX4_hasClash wsX4_hasClashIn := goodIn_r _ [20, 11, 12, 13, 14, 15, 16, 21, 22, 23, 5, 24, 25, 26, 27, 28, 1, 29, 30, 31, 32, 33, 34, 35, 36, 37, 38, 39, 40, 41, 43, 42] (by decide +kernel) (by decide +kernel)
set_option maxRecDepth 20000 in
theorem gX4_hasClash_X4_hasClashIn : GoodIn wsX4_hasClash (wsV RX4 79 RX4 yX4_hasClashIn wsX4_hasClashIn) := goodIn_app (goodIn_of _ (by decide +kernel)) ggX4_hasClash_X4_hasClashIn
theorem dX4_hasClash_0 : decode cX4_hasClash 0 = .ok (.iconst 0, 1) := by decide +kernel
theorem dX4_hasClash_1 : decode cX4_hasClash 1 = .ok (.istore_n 1, 1) := by decide +kernel
theorem dX4_hasClash_2 : decode cX4_hasClash 2 = .ok (.iload_n 1, 1) := by decide +kernel
theorem dX4_hasClash_3 : decode cX4_hasClash 3 = .ok (.bipush 8, 2) := by decide +kernel
theorem dX4_hasClash_5 : decode cX4_hasClash 5 = .ok (.if_icmp .ge 33, 3) := by decide +kernel
theorem dX4_hasClash_8 : decode cX4_hasClash 8 = .ok (.aload_n 0, 1) := by decide +kernel
theorem dX4_hasClash_9 : decode cX4_hasClash 9 = .ok (.aload_n 0, 1) := by decide +kernel
theorem dX4_hasClash_10 : decode cX4_hasClash 10 = .ok (.getfield 16, 3) := by decide +kernel
theorem dX4_hasClash_13 : decode cX4_hasClash 13 = .ok (.aload_n 0, 1) := by decide +kernel
theorem dX4_hasClash_14 : decode cX4_hasClash 14 = .ok (.iload_n 1, 1) := by decide +kernel
theorem dX4_hasClash_15 : decode cX4_hasClash 15 = .ok (.iconst 0, 1) := by decide +kernel
theorem dX4_hasClash_16 : decode cX4_hasClash 16 = .ok (.invokevirtual 50, 3) := by decide +kernel
theorem dX4_hasClash_19 : decode cX4_hasClash 19 = .ok (.aload_n 0, 1) := by decide +kernel
theorem dX4_hasClash_20 : decode cX4_hasClash 20 = .ok (.iload_n 1, 1) := by decide +kernel
theorem dX4_hasClash_21 : decode cX4_hasClash 21 = .ok (.invokevirtual 47, 3) := by decide +kernel
theorem dX4_hasClash_24 : decode cX4_hasClash 24 = .ok (.invokevirtual 79, 3) := by decide +kernel
theorem dX4_hasClash_27 : decode cX4_hasClash 27 = .ok (.ifCond .eq 5, 3) := by decide +kernel
theorem dX4_hasClash_30 : decode cX4_hasClash 30 = .ok (.iconst 1, 1) := by decide +kernel
theorem dX4_hasClash_31 : decode cX4_hasClash 31 = .ok (.ireturn, 1) := by decide +kernel
theorem dX4_hasClash_32 : decode cX4_hasClash 32 = .ok (.iinc 1 1, 3) := by decide +kernel
theorem dX4_hasClash_35 : decode cX4_hasClash 35 = .ok (.goto (-33), 3) := by decide +kernel
theorem dX4_hasClash_38 : decode cX4_hasClash 38 = .ok (.iconst 0, 1) := by decide +kernel
theorem dX4_hasClash_39 : decode cX4_hasClash 39 = .ok (.ireturn, 1) := by decide +kernel
set_option maxRecDepth 20000 in
theorem ggX4_hasKindsOf_X3_at : GoodIn wsX4_hasKindsOf wsX3_at := goodIn_r _ [5, 6, 22] (by decide +kernel) (by decide +kernel)
set_option maxRecDepth 20000 in
theorem gX4_hasKindsOf_X3_at : GoodIn wsX4_hasKindsOf (wsV RX4 28 RX3 yX3_at wsX3_at) := goodIn_app (goodIn_of _ (by decide +kernel)) ggX4_hasKindsOf_X3_at
set_option maxRecDepth 20000 in
theorem ggX4_hasKindsOf_X6_kindOf : GoodIn wsX4_hasKindsOf wsX6_kindOf := goodIn_r _ [9] (by decide +kernel) (by decide +kernel)
set_option maxRecDepth 20000 in
theorem gX4_hasKindsOf_X6_kindOf_n44 : GoodIn wsX4_hasKindsOf (wsX6_kindOf) := ggX4_hasKindsOf_X6_kindOf
set_option maxRecDepth 20000 in
theorem ggX4_hasKindsOf_X4_hasKind : GoodIn wsX4_hasKindsOf wsX4_hasKind := goodIn_r _ [14, 15, 16, 17, 13, 18, 19, 1, 2, 3, 4, 5, 6, 20, 8, 21, 23, 22] (by decide +kernel) (by decide +kernel)
set_option maxRecDepth 20000 in
theorem gX4_hasKindsOf_X4_hasKind : GoodIn wsX4_hasKindsOf (wsV RX4 83 RX4 yX4_hasKind wsX4_hasKind) := goodIn_app (goodIn_of _ (by decide +kernel)) ggX4_hasKindsOf_X4_hasKind
theorem dX4_hasKindsOf_0 : decode cX4_hasKindsOf 0 = .ok (.iconst 0, 1) := by decide +kernel
theorem dX4_hasKindsOf_1 : decode cX4_hasKindsOf 1 = .ok (.istore_n 3, 1) := by decide +kernel
theorem dX4_hasKindsOf_2 : decode cX4_hasKindsOf 2 = .ok (.iload_n 3, 1) := by decide +kernel
theorem dX4_hasKindsOf_3 : decode cX4_hasKindsOf 3 = .ok (.iload_n 2, 1) := by decide +kernel
theorem dX4_hasKindsOf_4 : decode cX4_hasKindsOf 4 = .ok (.if_icmp .ge 26, 3) := by decide +kernel
theorem dX4_hasKindsOf_7 : decode cX4_hasKindsOf 7 = .ok (.aload_n 0, 1) := by decide +kernel
theorem dX4_hasKindsOf_8 : decode cX4_hasKindsOf 8 = .ok (.aload_n 1, 1) := by decide +kernel
theorem dX4_hasKindsOf_9 : decode cX4_hasKindsOf 9 = .ok (.iload_n 3, 1) := by decide +kernel
theorem dX4_hasKindsOf_10 : decode cX4_hasKindsOf 10 = .ok (.invokevirtual 28, 3) := by decide +kernel
theorem dX4_hasKindsOf_13 : decode cX4_hasKindsOf 13 = .ok (.invokestatic 44, 3) := by decide +kernel
theorem dX4_hasKindsOf_16 : decode cX4_hasKindsOf 16 = .ok (.invokevirtual 83, 3) := by decide +kernel
theorem dX4_hasKindsOf_19 : decode cX4_hasKindsOf 19 = .ok (.ifCond .ne 5, 3) := by decide +kernel
theorem dX4_hasKindsOf_22 : decode cX4_hasKindsOf 22 = .ok (.iconst 0, 1) := by decide +kernel
theorem dX4_hasKindsOf_23 : decode cX4_hasKindsOf 23 = .ok (.ireturn, 1) := by decide +kernel
theorem dX4_hasKindsOf_24 : decode cX4_hasKindsOf 24 = .ok (.iinc 3 1, 3) := by decide +kernel
theorem dX4_hasKindsOf_27 : decode cX4_hasKindsOf 27 = .ok (.goto (-25), 3) := by decide +kernel
theorem dX4_hasKindsOf_30 : decode cX4_hasKindsOf 30 = .ok (.iconst 1, 1) := by decide +kernel
theorem dX4_hasKindsOf_31 : decode cX4_hasKindsOf 31 = .ok (.ireturn, 1) := by decide +kernel
set_option maxRecDepth 20000 in
theorem ggX5_init_X3_init : GoodIn wsX5_init wsX3_init := goodIn_r _ [11, 12, 2, 3, 13, 14, 15] (by decide +kernel) (by decide +kernel)
set_option maxRecDepth 20000 in
theorem gX5_init_X3_init : GoodIn wsX5_init (wsX3_init) := ggX5_init_X3_init
theorem dX5_init_0 : decode cX5_init 0 = .ok (.aload_n 0, 1) := by decide +kernel
theorem dX5_init_1 : decode cX5_init 1 = .ok (.invokespecial 3, 3) := by decide +kernel
theorem dX5_init_4 : decode cX5_init 4 = .ok (.aload_n 0, 1) := by decide +kernel
theorem dX5_init_5 : decode cX5_init 5 = .ok (.new 9, 3) := by decide +kernel
theorem dX5_init_8 : decode cX5_init 8 = .ok (.dup, 1) := by decide +kernel
theorem dX5_init_9 : decode cX5_init 9 = .ok (.bipush 80, 2) := by decide +kernel
theorem dX5_init_11 : decode cX5_init 11 = .ok (.invokespecial 11, 3) := by decide +kernel
theorem dX5_init_14 : decode cX5_init 14 = .ok (.putfield 14, 3) := by decide +kernel
theorem dX5_init_17 : decode cX5_init 17 = .ok (.aload_n 0, 1) := by decide +kernel
theorem dX5_init_18 : decode cX5_init 18 = .ok (.iconst 0, 1) := by decide +kernel
theorem dX5_init_19 : decode cX5_init 19 = .ok (.putfield 20, 3) := by decide +kernel
theorem dX5_init_22 : decode cX5_init 22 = .ok (.return_, 1) := by decide +kernel
theorem dX5_size_0 : decode cX5_size 0 = .ok (.aload_n 0, 1) := by decide +kernel
theorem dX5_size_1 : decode cX5_size 1 = .ok (.getfield 20, 3) := by decide +kernel
theorem dX5_size_4 : decode cX5_size 4 = .ok (.ireturn, 1) := by decide +kernel
theorem dX5_isFull_0 : decode cX5_isFull 0 = .ok (.aload_n 0, 1) := by decide +kernel
theorem dX5_isFull_1 : decode cX5_isFull 1 = .ok (.getfield 20, 3) := by decide +kernel
theorem dX5_isFull_4 : decode cX5_isFull 4 = .ok (.bipush 80, 2) := by decide +kernel
theorem dX5_isFull_6 : decode cX5_isFull 6 = .ok (.if_icmp .lt 7, 3) := by decide +kernel
theorem dX5_isFull_9 : decode cX5_isFull 9 = .ok (.iconst 1, 1) := by decide +kernel
theorem dX5_isFull_10 : decode cX5_isFull 10 = .ok (.goto 4, 3) := by decide +kernel
theorem dX5_isFull_13 : decode cX5_isFull 13 = .ok (.iconst 0, 1) := by decide +kernel
theorem dX5_isFull_14 : decode cX5_isFull 14 = .ok (.ireturn, 1) := by decide +kernel
set_option maxRecDepth 20000 in
theorem ggX5_add_X3_put : GoodIn wsX5_add wsX3_put := goodIn_r _ [7, 8, 11] (by decide +kernel) (by decide +kernel)
set_option maxRecDepth 20000 in
theorem gX5_add_X3_put : GoodIn wsX5_add (wsV RX5 24 RX3 yX3_put wsX3_put) := goodIn_app (goodIn_of _ (by decide +kernel)) ggX5_add_X3_put
theorem dX5_add_0 : decode cX5_add 0 = .ok (.aload_n 0, 1) := by decide +kernel
theorem dX5_add_1 : decode cX5_add 1 = .ok (.getfield 14, 3) := by decide +kernel
theorem dX5_add_4 : decode cX5_add 4 = .ok (.aload_n 0, 1) := by decide +kernel
theorem dX5_add_5 : decode cX5_add 5 = .ok (.getfield 20, 3) := by decide +kernel
theorem dX5_add_8 : decode cX5_add 8 = .ok (.iload_n 1, 1) := by decide +kernel
theorem dX5_add_9 : decode cX5_add 9 = .ok (.invokevirtual 24, 3) := by decide +kernel
theorem dX5_add_12 : decode cX5_add 12 = .ok (.aload_n 0, 1) := by decide +kernel
theorem dX5_add_13 : decode cX5_add 13 = .ok (.dup, 1) := by decide +kernel
theorem dX5_add_14 : decode cX5_add 14 = .ok (.getfield 20, 3) := by decide +kernel
theorem dX5_add_17 : decode cX5_add 17 = .ok (.iconst 1, 1) := by decide +kernel
theorem dX5_add_18 : decode cX5_add 18 = .ok (.iadd, 1) := by decide +kernel
theorem dX5_add_19 : decode cX5_add 19 = .ok (.putfield 20, 3) := by decide +kernel
theorem dX5_add_22 : decode cX5_add 22 = .ok (.aload_n 0, 1) := by decide +kernel
theorem dX5_add_23 : decode cX5_add 23 = .ok (.getfield 20, 3) := by decide +kernel
theorem dX5_add_26 : decode cX5_add 26 = .ok (.ireturn, 1) := by decide +kernel
theorem dX5_empty_0 : decode cX5_empty 0 = .ok (.aload_n 0, 1) := by decide +kernel
theorem dX5_empty_1 : decode cX5_empty 1 = .ok (.getfield 20, 3) := by decide +kernel
theorem dX5_empty_4 : decode cX5_empty 4 = .ok (.istore_n 1, 1) := by decide +kernel
theorem dX5_empty_5 : decode cX5_empty 5 = .ok (.aload_n 0, 1) := by decide +kernel
theorem dX5_empty_6 : decode cX5_empty 6 = .ok (.iconst 0, 1) := by decide +kernel
theorem dX5_empty_7 : decode cX5_empty 7 = .ok (.putfield 20, 3) := by decide +kernel
theorem dX5_empty_10 : decode cX5_empty 10 = .ok (.iload_n 1, 1) := by decide +kernel
theorem dX5_empty_11 : decode cX5_empty 11 = .ok (.ireturn, 1) := by decide +kernel
theorem dX5_isDigit_0 : decode cX5_isDigit 0 = .ok (.iload_n 0, 1) := by decide +kernel
theorem dX5_isDigit_1 : decode cX5_isDigit 1 = .ok (.bipush 48, 2) := by decide +kernel
theorem dX5_isDigit_3 : decode cX5_isDigit 3 = .ok (.if_icmp .lt 13, 3) := by decide +kernel
theorem dX5_isDigit_6 : decode cX5_isDigit 6 = .ok (.iload_n 0, 1) := by decide +kernel
theorem dX5_isDigit_7 : decode cX5_isDigit 7 = .ok (.bipush 57, 2) := by decide +kernel
theorem dX5_isDigit_9 : decode cX5_isDigit 9 = .ok (.if_icmp .gt 7, 3) := by decide +kernel
theorem dX5_isDigit_12 : decode cX5_isDigit 12 = .ok (.iconst 1, 1) := by decide +kernel
theorem dX5_isDigit_13 : decode cX5_isDigit 13 = .ok (.goto 4, 3) := by decide +kernel
theorem dX5_isDigit_16 : decode cX5_isDigit 16 = .ok (.iconst 0, 1) := by decide +kernel
theorem dX5_isDigit_17 : decode cX5_isDigit 17 = .ok (.ireturn, 1) := by decide +kernel
set_option maxRecDepth 20000 in
theorem ggX5_fault_X3_at : GoodIn wsX5_fault wsX3_at := goodIn_r _ [7, 8, 15] (by decide +kernel) (by decide +kernel)
set_option maxRecDepth 20000 in
theorem gX5_fault_X3_at : GoodIn wsX5_fault (wsV RX5 28 RX3 yX3_at wsX3_at) := goodIn_app (goodIn_of _ (by decide +kernel)) ggX5_fault_X3_at
set_option maxRecDepth 20000 in
theorem ggX5_fault_X5_isDigit : GoodIn wsX5_fault wsX5_isDigit := goodIn_r _ [12] (by decide +kernel) (by decide +kernel)
set_option maxRecDepth 20000 in
theorem gX5_fault_X5_isDigit : GoodIn wsX5_fault (va_wsS RX5 32 yX5_isDigit wsX5_isDigit) := goodIn_app (goodIn_of _ (by decide +kernel)) ggX5_fault_X5_isDigit
theorem dX5_fault_0 : decode cX5_fault 0 = .ok (.iconst 0, 1) := by decide +kernel
theorem dX5_fault_1 : decode cX5_fault 1 = .ok (.istore_n 1, 1) := by decide +kernel
theorem dX5_fault_2 : decode cX5_fault 2 = .ok (.iconst 1, 1) := by decide +kernel
theorem dX5_fault_3 : decode cX5_fault 3 = .ok (.istore_n 2, 1) := by decide +kernel
theorem dX5_fault_4 : decode cX5_fault 4 = .ok (.iconst 0, 1) := by decide +kernel
theorem dX5_fault_5 : decode cX5_fault 5 = .ok (.istore_n 3, 1) := by decide +kernel
theorem dX5_fault_6 : decode cX5_fault 6 = .ok (.iconst 0, 1) := by decide +kernel
theorem dX5_fault_7 : decode cX5_fault 7 = .ok (.istore 4, 2) := by decide +kernel
theorem dX5_fault_9 : decode cX5_fault 9 = .ok (.iload 4, 2) := by decide +kernel
theorem dX5_fault_11 : decode cX5_fault 11 = .ok (.aload_n 0, 1) := by decide +kernel
theorem dX5_fault_12 : decode cX5_fault 12 = .ok (.getfield 20, 3) := by decide +kernel
theorem dX5_fault_15 : decode cX5_fault 15 = .ok (.if_icmp .ge 85, 3) := by decide +kernel
theorem dX5_fault_18 : decode cX5_fault 18 = .ok (.aload_n 0, 1) := by decide +kernel
theorem dX5_fault_19 : decode cX5_fault 19 = .ok (.getfield 14, 3) := by decide +kernel
theorem dX5_fault_22 : decode cX5_fault 22 = .ok (.iload 4, 2) := by decide +kernel
theorem dX5_fault_24 : decode cX5_fault 24 = .ok (.invokevirtual 28, 3) := by decide +kernel
theorem dX5_fault_27 : decode cX5_fault 27 = .ok (.istore 5, 2) := by decide +kernel
theorem dX5_fault_29 : decode cX5_fault 29 = .ok (.iload_n 2, 1) := by decide +kernel
theorem dX5_fault_30 : decode cX5_fault 30 = .ok (.ifCond .eq 21, 3) := by decide +kernel
theorem dX5_fault_33 : decode cX5_fault 33 = .ok (.iload 5, 2) := by decide +kernel
theorem dX5_fault_35 : decode cX5_fault 35 = .ok (.invokestatic 32, 3) := by decide +kernel
theorem dX5_fault_38 : decode cX5_fault 38 = .ok (.ifCond .eq 13, 3) := by decide +kernel
theorem dX5_fault_41 : decode cX5_fault 41 = .ok (.iinc 1 1, 3) := by decide +kernel
theorem dX5_fault_44 : decode cX5_fault 44 = .ok (.iconst 0, 1) := by decide +kernel
theorem dX5_fault_45 : decode cX5_fault 45 = .ok (.istore_n 2, 1) := by decide +kernel
theorem dX5_fault_46 : decode cX5_fault 46 = .ok (.iconst 1, 1) := by decide +kernel
theorem dX5_fault_47 : decode cX5_fault 47 = .ok (.istore_n 3, 1) := by decide +kernel
theorem dX5_fault_48 : decode cX5_fault 48 = .ok (.goto 46, 3) := by decide +kernel
theorem dX5_fault_51 : decode cX5_fault 51 = .ok (.iload_n 3, 1) := by decide +kernel
theorem dX5_fault_52 : decode cX5_fault 52 = .ok (.ifCond .eq 15, 3) := by decide +kernel
theorem dX5_fault_55 : decode cX5_fault 55 = .ok (.iload 5, 2) := by decide +kernel
theorem dX5_fault_57 : decode cX5_fault 57 = .ok (.bipush 39, 2) := by decide +kernel
theorem dX5_fault_59 : decode cX5_fault 59 = .ok (.if_icmp .ne 8, 3) := by decide +kernel
theorem dX5_fault_62 : decode cX5_fault 62 = .ok (.iconst 0, 1) := by decide +kernel
theorem dX5_fault_63 : decode cX5_fault 63 = .ok (.istore_n 3, 1) := by decide +kernel
theorem dX5_fault_64 : decode cX5_fault 64 = .ok (.goto 30, 3) := by decide +kernel
theorem dX5_fault_67 : decode cX5_fault 67 = .ok (.iload_n 2, 1) := by decide +kernel
theorem dX5_fault_68 : decode cX5_fault 68 = .ok (.ifCond .ne 23, 3) := by decide +kernel
theorem dX5_fault_71 : decode cX5_fault 71 = .ok (.iload 5, 2) := by decide +kernel
theorem dX5_fault_73 : decode cX5_fault 73 = .ok (.bipush 44, 2) := by decide +kernel
theorem dX5_fault_75 : decode cX5_fault 75 = .ok (.if_icmp .ne 16, 3) := by decide +kernel
theorem dX5_fault_78 : decode cX5_fault 78 = .ok (.iload_n 1, 1) := by decide +kernel
theorem dX5_fault_79 : decode cX5_fault 79 = .ok (.bipush 32, 2) := by decide +kernel
theorem dX5_fault_81 : decode cX5_fault 81 = .ok (.if_icmp .ge 10, 3) := by decide +kernel
theorem dX5_fault_84 : decode cX5_fault 84 = .ok (.iconst 1, 1) := by decide +kernel
theorem dX5_fault_85 : decode cX5_fault 85 = .ok (.istore_n 2, 1) := by decide +kernel
theorem dX5_fault_86 : decode cX5_fault 86 = .ok (.iconst 0, 1) := by decide +kernel
theorem dX5_fault_87 : decode cX5_fault 87 = .ok (.istore_n 3, 1) := by decide +kernel
theorem dX5_fault_88 : decode cX5_fault 88 = .ok (.goto 6, 3) := by decide +kernel
theorem dX5_fault_91 : decode cX5_fault 91 = .ok (.iload 4, 2) := by decide +kernel
theorem dX5_fault_93 : decode cX5_fault 93 = .ok (.ireturn, 1) := by decide +kernel
theorem dX5_fault_94 : decode cX5_fault 94 = .ok (.iinc 4 1, 3) := by decide +kernel
theorem dX5_fault_97 : decode cX5_fault 97 = .ok (.goto (-88), 3) := by decide +kernel
theorem dX5_fault_100 : decode cX5_fault 100 = .ok (.iload_n 2, 1) := by decide +kernel
theorem dX5_fault_101 : decode cX5_fault 101 = .ok (.ifCond .eq 10, 3) := by decide +kernel
theorem dX5_fault_104 : decode cX5_fault 104 = .ok (.aload_n 0, 1) := by decide +kernel
theorem dX5_fault_105 : decode cX5_fault 105 = .ok (.getfield 20, 3) := by decide +kernel
theorem dX5_fault_108 : decode cX5_fault 108 = .ok (.goto 4, 3) := by decide +kernel
theorem dX5_fault_111 : decode cX5_fault 111 = .ok (.iconst (-1), 1) := by decide +kernel
theorem dX5_fault_112 : decode cX5_fault 112 = .ok (.ireturn, 1) := by decide +kernel
set_option maxRecDepth 20000 in
theorem ggX5_spellDolls_X3_at : GoodIn wsX5_spellDolls wsX3_at := goodIn_r _ [7, 8, 27] (by decide +kernel) (by decide +kernel)
set_option maxRecDepth 20000 in
theorem gX5_spellDolls_X3_at : GoodIn wsX5_spellDolls (wsV RX5 28 RX3 yX3_at wsX3_at) := goodIn_app (goodIn_of _ (by decide +kernel)) ggX5_spellDolls_X3_at
set_option maxRecDepth 20000 in
theorem ggX5_spellDolls_X5_isDigit : GoodIn wsX5_spellDolls wsX5_isDigit := goodIn_r _ [12] (by decide +kernel) (by decide +kernel)
set_option maxRecDepth 20000 in
theorem gX5_spellDolls_X5_isDigit : GoodIn wsX5_spellDolls (va_wsS RX5 32 yX5_isDigit wsX5_isDigit) := goodIn_app (goodIn_of _ (by decide +kernel)) ggX5_spellDolls_X5_isDigit
set_option maxRecDepth 20000 in
theorem ggX5_spellDolls_X6_dollOf : GoodIn wsX5_spellDolls wsX6_dollOf := goodIn_r _ [15, 16, 17, 14, 18] (by decide +kernel) (by decide +kernel)
set_option maxRecDepth 20000 in
theorem gX5_spellDolls_X6_dollOf_n36 : GoodIn wsX5_spellDolls (wsX6_dollOf) := ggX5_spellDolls_X6_dollOf
set_option maxRecDepth 20000 in
theorem ggX5_spellDolls_X3_put : GoodIn wsX5_spellDolls wsX3_put := goodIn_r _ [22, 8, 27] (by decide +kernel) (by decide +kernel)
set_option maxRecDepth 20000 in
theorem gX5_spellDolls_X3_put : GoodIn wsX5_spellDolls (wsV RX5 24 RX3 yX3_put wsX3_put) := goodIn_app (goodIn_of _ (by decide +kernel)) ggX5_spellDolls_X3_put
set_option maxRecDepth 20000 in
theorem ggX5_spellDolls_X6_mirrorOf : GoodIn wsX5_spellDolls wsX6_mirrorOf := goodIn_r _ [24] (by decide +kernel) (by decide +kernel)
set_option maxRecDepth 20000 in
theorem gX5_spellDolls_X6_mirrorOf_n40 : GoodIn wsX5_spellDolls (wsX6_mirrorOf) := ggX5_spellDolls_X6_mirrorOf
theorem dX5_spellDolls_0 : decode cX5_spellDolls 0 = .ok (.iconst 0, 1) := by decide +kernel
theorem dX5_spellDolls_1 : decode cX5_spellDolls 1 = .ok (.istore_n 2, 1) := by decide +kernel
theorem dX5_spellDolls_2 : decode cX5_spellDolls 2 = .ok (.iconst 0, 1) := by decide +kernel
theorem dX5_spellDolls_3 : decode cX5_spellDolls 3 = .ok (.istore_n 3, 1) := by decide +kernel
theorem dX5_spellDolls_4 : decode cX5_spellDolls 4 = .ok (.iload_n 3, 1) := by decide +kernel
theorem dX5_spellDolls_5 : decode cX5_spellDolls 5 = .ok (.aload_n 0, 1) := by decide +kernel
theorem dX5_spellDolls_6 : decode cX5_spellDolls 6 = .ok (.getfield 20, 3) := by decide +kernel
theorem dX5_spellDolls_9 : decode cX5_spellDolls 9 = .ok (.if_icmp .ge 71, 3) := by decide +kernel
theorem dX5_spellDolls_12 : decode cX5_spellDolls 12 = .ok (.aload_n 0, 1) := by decide +kernel
theorem dX5_spellDolls_13 : decode cX5_spellDolls 13 = .ok (.getfield 14, 3) := by decide +kernel
theorem dX5_spellDolls_16 : decode cX5_spellDolls 16 = .ok (.iload_n 3, 1) := by decide +kernel
theorem dX5_spellDolls_17 : decode cX5_spellDolls 17 = .ok (.invokevirtual 28, 3) := by decide +kernel
theorem dX5_spellDolls_20 : decode cX5_spellDolls 20 = .ok (.istore 4, 2) := by decide +kernel
theorem dX5_spellDolls_22 : decode cX5_spellDolls 22 = .ok (.iload 4, 2) := by decide +kernel
theorem dX5_spellDolls_24 : decode cX5_spellDolls 24 = .ok (.invokestatic 32, 3) := by decide +kernel
theorem dX5_spellDolls_27 : decode cX5_spellDolls 27 = .ok (.ifCond .eq 23, 3) := by decide +kernel
theorem dX5_spellDolls_30 : decode cX5_spellDolls 30 = .ok (.aload_n 1, 1) := by decide +kernel
theorem dX5_spellDolls_31 : decode cX5_spellDolls 31 = .ok (.iload_n 2, 1) := by decide +kernel
theorem dX5_spellDolls_32 : decode cX5_spellDolls 32 = .ok (.iload 4, 2) := by decide +kernel
theorem dX5_spellDolls_34 : decode cX5_spellDolls 34 = .ok (.bipush 48, 2) := by decide +kernel
theorem dX5_spellDolls_36 : decode cX5_spellDolls 36 = .ok (.isub, 1) := by decide +kernel
theorem dX5_spellDolls_37 : decode cX5_spellDolls 37 = .ok (.iconst 0, 1) := by decide +kernel
theorem dX5_spellDolls_38 : decode cX5_spellDolls 38 = .ok (.invokestatic 36, 3) := by decide +kernel
theorem dX5_spellDolls_41 : decode cX5_spellDolls 41 = .ok (.invokevirtual 24, 3) := by decide +kernel
theorem dX5_spellDolls_44 : decode cX5_spellDolls 44 = .ok (.iinc 2 1, 3) := by decide +kernel
theorem dX5_spellDolls_47 : decode cX5_spellDolls 47 = .ok (.goto 27, 3) := by decide +kernel
theorem dX5_spellDolls_50 : decode cX5_spellDolls 50 = .ok (.iload 4, 2) := by decide +kernel
theorem dX5_spellDolls_52 : decode cX5_spellDolls 52 = .ok (.bipush 39, 2) := by decide +kernel
theorem dX5_spellDolls_54 : decode cX5_spellDolls 54 = .ok (.if_icmp .ne 20, 3) := by decide +kernel
theorem dX5_spellDolls_57 : decode cX5_spellDolls 57 = .ok (.aload_n 1, 1) := by decide +kernel
theorem dX5_spellDolls_58 : decode cX5_spellDolls 58 = .ok (.iload_n 2, 1) := by decide +kernel
theorem dX5_spellDolls_59 : decode cX5_spellDolls 59 = .ok (.iconst 1, 1) := by decide +kernel
theorem dX5_spellDolls_60 : decode cX5_spellDolls 60 = .ok (.isub, 1) := by decide +kernel
theorem dX5_spellDolls_61 : decode cX5_spellDolls 61 = .ok (.aload_n 1, 1) := by decide +kernel
theorem dX5_spellDolls_62 : decode cX5_spellDolls 62 = .ok (.iload_n 2, 1) := by decide +kernel
theorem dX5_spellDolls_63 : decode cX5_spellDolls 63 = .ok (.iconst 1, 1) := by decide +kernel
theorem dX5_spellDolls_64 : decode cX5_spellDolls 64 = .ok (.isub, 1) := by decide +kernel
theorem dX5_spellDolls_65 : decode cX5_spellDolls 65 = .ok (.invokevirtual 28, 3) := by decide +kernel
theorem dX5_spellDolls_68 : decode cX5_spellDolls 68 = .ok (.invokestatic 40, 3) := by decide +kernel
theorem dX5_spellDolls_71 : decode cX5_spellDolls 71 = .ok (.invokevirtual 24, 3) := by decide +kernel
theorem dX5_spellDolls_74 : decode cX5_spellDolls 74 = .ok (.iinc 3 1, 3) := by decide +kernel
theorem dX5_spellDolls_77 : decode cX5_spellDolls 77 = .ok (.goto (-73), 3) := by decide +kernel
theorem dX5_spellDolls_80 : decode cX5_spellDolls 80 = .ok (.iload_n 2, 1) := by decide +kernel
theorem dX5_spellDolls_81 : decode cX5_spellDolls 81 = .ok (.ireturn, 1) := by decide +kernel
set_option maxRecDepth 20000 in
theorem ggX6_init_X4_init : GoodIn wsX6_init wsX4_init := goodIn_r _ [32, 33, 2, 3, 34, 25, 26, 35, 36, 37, 38, 39, 40, 41, 42, 43, 44, 45, 98, 79] (by decide +kernel) (by decide +kernel)
set_option maxRecDepth 20000 in
theorem gX6_init_X4_init : GoodIn wsX6_init (wsX4_init) := ggX6_init_X4_init
set_option maxRecDepth 20000 in
theorem ggX6_init_X2_init : GoodIn wsX6_init wsX2_init := goodIn_r _ [48, 49, 2, 3, 50, 88] (by decide +kernel) (by decide +kernel)
set_option maxRecDepth 20000 in
theorem gX6_init_X2_init : GoodIn wsX6_init (wsX2_init) := ggX6_init_X2_init
set_option maxRecDepth 20000 in
theorem ggX6_init_X0_init : GoodIn wsX6_init wsX0_init := goodIn_r _ [53, 54, 2, 3, 55, 56, 25, 26, 57, 58, 59, 60, 37, 38, 39, 40, 41, 89, 90, 91, 92, 98] (by decide +kernel) (by decide +kernel)
set_option maxRecDepth 20000 in
theorem gX6_init_X0_init : GoodIn wsX6_init (wsX0_init) := ggX6_init_X0_init
set_option maxRecDepth 20000 in
theorem ggX6_init_X1_init : GoodIn wsX6_init wsX1_init := goodIn_r _ [63, 64, 2, 3, 65, 25, 26, 66, 67, 68, 69, 37, 38, 39, 40, 41, 98, 93, 94, 95] (by decide +kernel) (by decide +kernel)
set_option maxRecDepth 20000 in
theorem gX6_init_X1_init : GoodIn wsX6_init (wsX1_init) := ggX6_init_X1_init
set_option maxRecDepth 20000 in
theorem ggX6_init_X5_init : GoodIn wsX6_init wsX5_init := goodIn_r _ [72, 73, 2, 3, 74, 25, 26, 75, 76, 77, 37, 38, 39, 40, 41, 98, 96, 97] (by decide +kernel) (by decide +kernel)
set_option maxRecDepth 20000 in
theorem gX6_init_X5_init : GoodIn wsX6_init (wsX5_init) := ggX6_init_X5_init
set_option maxRecDepth 20000 in
theorem ggX6_init_X3_init : GoodIn wsX6_init wsX3_init := goodIn_r _ [38, 39, 2, 3, 40, 41, 98] (by decide +kernel) (by decide +kernel)
set_option maxRecDepth 20000 in
theorem gX6_init_X3_init : GoodIn wsX6_init (wsX3_init) := ggX6_init_X3_init
