set_option maxRecDepth 20000 in
theorem gX6_readGarland_X4_freeNumber : GoodIn wsX6_readGarland (wsV RX6 104 RX4 yX4_freeNumber wsX4_freeNumber) := goodIn_app (goodIn_of _ (by decide +kernel)) ggX6_readGarland_X4_freeNumber
set_option maxRecDepth 20000 in
theorem ggX6_readGarland_X1_remember : GoodIn wsX6_readGarland wsX1_remember := goodIn_r _ [90, 91, 92, 93, 94, 95, 96, 89, 97, 98, 99, 100, 40, 101, 53, 102, 103, 104, 15, 105, 17, 106, 107, 108, 109, 135, 136, 137, 134, 133] (by decide +kernel) (by decide +kernel)
set_option maxRecDepth 20000 in
theorem gX6_readGarland_X1_remember : GoodIn wsX6_readGarland (wsV RX6 85 RX1 yX1_remember wsX1_remember) := goodIn_app (goodIn_of _ (by decide +kernel)) ggX6_readGarland_X1_remember
set_option maxRecDepth 20000 in
theorem ggX6_readGarland_X4_hangUp : GoodIn wsX6_readGarland wsX4_hangUp := goodIn_r _ [113, 53, 114, 115, 116, 40, 117, 102, 103, 104, 15, 105, 17, 106, 107, 108, 109, 118, 119, 120, 121, 122, 32, 33, 34, 134, 133] (by decide +kernel) (by decide +kernel)
set_option maxRecDepth 20000 in
theorem gX6_readGarland_X4_hangUp : GoodIn wsX6_readGarland (wsV RX6 177 RX4 yX4_hangUp wsX4_hangUp) := goodIn_app (goodIn_of _ (by decide +kernel)) ggX6_readGarland_X4_hangUp
theorem dX6_readGarland_0 : decode cX6_readGarland 0 = .ok (.aload_n 0, 1) := by decide +kernel
theorem dX6_readGarland_1 : decode cX6_readGarland 1 = .ok (.getfield 42, 3) := by decide +kernel
theorem dX6_readGarland_4 : decode cX6_readGarland 4 = .ok (.invokevirtual 162, 3) := by decide +kernel
theorem dX6_readGarland_7 : decode cX6_readGarland 7 = .ok (.istore_n 1, 1) := by decide +kernel
theorem dX6_readGarland_8 : decode cX6_readGarland 8 = .ok (.iload_n 1, 1) := by decide +kernel
theorem dX6_readGarland_9 : decode cX6_readGarland 9 = .ok (.iconst (-1), 1) := by decide +kernel
theorem dX6_readGarland_10 : decode cX6_readGarland 10 = .ok (.if_icmp .eq 8, 3) := by decide +kernel
theorem dX6_readGarland_13 : decode cX6_readGarland 13 = .ok (.bipush (-100), 2) := by decide +kernel
theorem dX6_readGarland_15 : decode cX6_readGarland 15 = .ok (.iload_n 1, 1) := by decide +kernel
theorem dX6_readGarland_16 : decode cX6_readGarland 16 = .ok (.isub, 1) := by decide +kernel
theorem dX6_readGarland_17 : decode cX6_readGarland 17 = .ok (.ireturn, 1) := by decide +kernel
theorem dX6_readGarland_18 : decode cX6_readGarland 18 = .ok (.aload_n 0, 1) := by decide +kernel
theorem dX6_readGarland_19 : decode cX6_readGarland 19 = .ok (.getfield 42, 3) := by decide +kernel
theorem dX6_readGarland_22 : decode cX6_readGarland 22 = .ok (.aload_n 0, 1) := by decide +kernel
theorem dX6_readGarland_23 : decode cX6_readGarland 23 = .ok (.getfield 55, 3) := by decide +kernel
theorem dX6_readGarland_26 : decode cX6_readGarland 26 = .ok (.invokevirtual 165, 3) := by decide +kernel
theorem dX6_readGarland_29 : decode cX6_readGarland 29 = .ok (.istore_n 2, 1) := by decide +kernel
theorem dX6_readGarland_30 : decode cX6_readGarland 30 = .ok (.aload_n 0, 1) := by decide +kernel
theorem dX6_readGarland_31 : decode cX6_readGarland 31 = .ok (.getfield 12, 3) := by decide +kernel
theorem dX6_readGarland_34 : decode cX6_readGarland 34 = .ok (.aload_n 0, 1) := by decide +kernel
theorem dX6_readGarland_35 : decode cX6_readGarland 35 = .ok (.getfield 55, 3) := by decide +kernel
theorem dX6_readGarland_38 : decode cX6_readGarland 38 = .ok (.iload_n 2, 1) := by decide +kernel
theorem dX6_readGarland_39 : decode cX6_readGarland 39 = .ok (.invokevirtual 169, 3) := by decide +kernel
theorem dX6_readGarland_42 : decode cX6_readGarland 42 = .ok (.ifCond .ne 5, 3) := by decide +kernel
theorem dX6_readGarland_45 : decode cX6_readGarland 45 = .ok (.iconst (-1), 1) := by decide +kernel
theorem dX6_readGarland_46 : decode cX6_readGarland 46 = .ok (.ireturn, 1) := by decide +kernel
theorem dX6_readGarland_47 : decode cX6_readGarland 47 = .ok (.aload_n 0, 1) := by decide +kernel
theorem dX6_readGarland_48 : decode cX6_readGarland 48 = .ok (.getfield 12, 3) := by decide +kernel
theorem dX6_readGarland_51 : decode cX6_readGarland 51 = .ok (.aload_n 0, 1) := by decide +kernel
theorem dX6_readGarland_52 : decode cX6_readGarland 52 = .ok (.getfield 55, 3) := by decide +kernel
theorem dX6_readGarland_55 : decode cX6_readGarland 55 = .ok (.iconst 0, 1) := by decide +kernel
theorem dX6_readGarland_56 : decode cX6_readGarland 56 = .ok (.iload_n 2, 1) := by decide +kernel
theorem dX6_readGarland_57 : decode cX6_readGarland 57 = .ok (.invokevirtual 173, 3) := by decide +kernel
theorem dX6_readGarland_60 : decode cX6_readGarland 60 = .ok (.ifCond .eq 6, 3) := by decide +kernel
theorem dX6_readGarland_63 : decode cX6_readGarland 63 = .ok (.bipush (-4), 2) := by decide +kernel
theorem dX6_readGarland_65 : decode cX6_readGarland 65 = .ok (.ireturn, 1) := by decide +kernel
theorem dX6_readGarland_66 : decode cX6_readGarland 66 = .ok (.aload_n 0, 1) := by decide +kernel
theorem dX6_readGarland_67 : decode cX6_readGarland 67 = .ok (.getfield 12, 3) := by decide +kernel
theorem dX6_readGarland_70 : decode cX6_readGarland 70 = .ok (.invokevirtual 104, 3) := by decide +kernel
theorem dX6_readGarland_73 : decode cX6_readGarland 73 = .ok (.istore_n 3, 1) := by decide +kernel
theorem dX6_readGarland_74 : decode cX6_readGarland 74 = .ok (.iload_n 3, 1) := by decide +kernel
theorem dX6_readGarland_75 : decode cX6_readGarland 75 = .ok (.iconst (-1), 1) := by decide +kernel
theorem dX6_readGarland_76 : decode cX6_readGarland 76 = .ok (.if_icmp .ne 6, 3) := by decide +kernel
theorem dX6_readGarland_79 : decode cX6_readGarland 79 = .ok (.bipush (-3), 2) := by decide +kernel
theorem dX6_readGarland_81 : decode cX6_readGarland 81 = .ok (.ireturn, 1) := by decide +kernel
theorem dX6_readGarland_82 : decode cX6_readGarland 82 = .ok (.aload_n 0, 1) := by decide +kernel
theorem dX6_readGarland_83 : decode cX6_readGarland 83 = .ok (.getfield 35, 3) := by decide +kernel
theorem dX6_readGarland_86 : decode cX6_readGarland 86 = .ok (.aload_n 0, 1) := by decide +kernel
theorem dX6_readGarland_87 : decode cX6_readGarland 87 = .ok (.getfield 12, 3) := by decide +kernel
theorem dX6_readGarland_90 : decode cX6_readGarland 90 = .ok (.invokevirtual 85, 3) := by decide +kernel
theorem dX6_readGarland_93 : decode cX6_readGarland 93 = .ok (.aload_n 0, 1) := by decide +kernel
theorem dX6_readGarland_94 : decode cX6_readGarland 94 = .ok (.getfield 12, 3) := by decide +kernel
theorem dX6_readGarland_97 : decode cX6_readGarland 97 = .ok (.iload_n 3, 1) := by decide +kernel
theorem dX6_readGarland_98 : decode cX6_readGarland 98 = .ok (.aload_n 0, 1) := by decide +kernel
theorem dX6_readGarland_99 : decode cX6_readGarland 99 = .ok (.getfield 55, 3) := by decide +kernel
theorem dX6_readGarland_102 : decode cX6_readGarland 102 = .ok (.iload_n 2, 1) := by decide +kernel
theorem dX6_readGarland_103 : decode cX6_readGarland 103 = .ok (.invokevirtual 177, 3) := by decide +kernel
theorem dX6_readGarland_106 : decode cX6_readGarland 106 = .ok (.iload_n 3, 1) := by decide +kernel
theorem dX6_readGarland_107 : decode cX6_readGarland 107 = .ok (.ireturn, 1) := by decide +kernel
set_option maxRecDepth 20000 in
theorem ggX6_undo_X1_size : GoodIn wsX6_undo wsX1_size := goodIn_r _ [7, 8, 43, 44, 45] (by decide +kernel) (by decide +kernel)
set_option maxRecDepth 20000 in
theorem gX6_undo_X1_size : GoodIn wsX6_undo (wsV RX6 181 RX1 yX1_size wsX1_size) := goodIn_app (goodIn_of _ (by decide +kernel)) ggX6_undo_X1_size
set_option maxRecDepth 20000 in
theorem ggX6_undo_X1_goBack : GoodIn wsX6_undo wsX1_goBack := goodIn_r _ [12, 8, 13, 14, 15, 16, 6, 17, 18, 19, 20, 21, 22, 23, 24, 25, 26, 27, 28, 29, 30, 31, 32, 33, 34, 43, 44, 45, 46, 47] (by decide +kernel) (by decide +kernel)
set_option maxRecDepth 20000 in
theorem gX6_undo_X1_goBack : GoodIn wsX6_undo (wsV RX6 184 RX1 yX1_goBack wsX1_goBack) := goodIn_app (goodIn_of _ (by decide +kernel)) ggX6_undo_X1_goBack
theorem dX6_undo_0 : decode cX6_undo 0 = .ok (.aload_n 0, 1) := by decide +kernel
theorem dX6_undo_1 : decode cX6_undo 1 = .ok (.getfield 35, 3) := by decide +kernel
theorem dX6_undo_4 : decode cX6_undo 4 = .ok (.invokevirtual 181, 3) := by decide +kernel
theorem dX6_undo_7 : decode cX6_undo 7 = .ok (.ifCond .ne 6, 3) := by decide +kernel
theorem dX6_undo_10 : decode cX6_undo 10 = .ok (.bipush (-5), 2) := by decide +kernel
theorem dX6_undo_12 : decode cX6_undo 12 = .ok (.ireturn, 1) := by decide +kernel
theorem dX6_undo_13 : decode cX6_undo 13 = .ok (.aload_n 0, 1) := by decide +kernel
theorem dX6_undo_14 : decode cX6_undo 14 = .ok (.getfield 35, 3) := by decide +kernel
theorem dX6_undo_17 : decode cX6_undo 17 = .ok (.aload_n 0, 1) := by decide +kernel
theorem dX6_undo_18 : decode cX6_undo 18 = .ok (.getfield 12, 3) := by decide +kernel
theorem dX6_undo_21 : decode cX6_undo 21 = .ok (.invokevirtual 184, 3) := by decide +kernel
theorem dX6_undo_24 : decode cX6_undo 24 = .ok (.aload_n 0, 1) := by decide +kernel
theorem dX6_undo_25 : decode cX6_undo 25 = .ok (.getfield 35, 3) := by decide +kernel
theorem dX6_undo_28 : decode cX6_undo 28 = .ok (.invokevirtual 181, 3) := by decide +kernel
theorem dX6_undo_31 : decode cX6_undo 31 = .ok (.ireturn, 1) := by decide +kernel
set_option maxRecDepth 20000 in
theorem ggX6_keep_X4_saveTo : GoodIn wsX6_keep wsX4_saveTo := goodIn_r _ [9, 10, 11, 12, 13, 14, 15, 16, 17, 18, 19, 20, 52, 53] (by decide +kernel) (by decide +kernel)
set_option maxRecDepth 20000 in
theorem gX6_keep_X4_saveTo : GoodIn wsX6_keep (wsV RX6 187 RX4 yX4_saveTo wsX4_saveTo) := goodIn_app (goodIn_of _ (by decide +kernel)) ggX6_keep_X4_saveTo
set_option maxRecDepth 20000 in
theorem ggX6_keep_X2_garlands : GoodIn wsX6_keep wsX2_garlands := goodIn_r _ [25, 26, 27, 28, 29, 8, 30, 31, 32, 33, 34, 35, 36, 37, 10, 38, 39, 40, 14, 41, 16, 42, 43, 54, 52, 53] (by decide +kernel) (by decide +kernel)
set_option maxRecDepth 20000 in
theorem gX6_keep_X2_garlands : GoodIn wsX6_keep (wsV RX6 191 RX2 yX2_garlands wsX2_garlands) := goodIn_app (goodIn_of _ (by decide +kernel)) ggX6_keep_X2_garlands
theorem dX6_keep_0 : decode cX6_keep 0 = .ok (.aload_n 0, 1) := by decide +kernel
theorem dX6_keep_1 : decode cX6_keep 1 = .ok (.getfield 12, 3) := by decide +kernel
theorem dX6_keep_4 : decode cX6_keep 4 = .ok (.aload_n 0, 1) := by decide +kernel
theorem dX6_keep_5 : decode cX6_keep 5 = .ok (.getfield 51, 3) := by decide +kernel
theorem dX6_keep_8 : decode cX6_keep 8 = .ok (.iconst 0, 1) := by decide +kernel
theorem dX6_keep_9 : decode cX6_keep 9 = .ok (.invokevirtual 187, 3) := by decide +kernel
theorem dX6_keep_12 : decode cX6_keep 12 = .ok (.aload_n 0, 1) := by decide +kernel
theorem dX6_keep_13 : decode cX6_keep 13 = .ok (.iconst 1, 1) := by decide +kernel
theorem dX6_keep_14 : decode cX6_keep 14 = .ok (.putfield 58, 3) := by decide +kernel
theorem dX6_keep_17 : decode cX6_keep 17 = .ok (.aload_n 0, 1) := by decide +kernel
theorem dX6_keep_18 : decode cX6_keep 18 = .ok (.getfield 21, 3) := by decide +kernel
theorem dX6_keep_21 : decode cX6_keep 21 = .ok (.invokevirtual 191, 3) := by decide +kernel
theorem dX6_keep_24 : decode cX6_keep 24 = .ok (.ireturn, 1) := by decide +kernel
set_option maxRecDepth 20000 in
theorem ggX6_restore_X1_remember : GoodIn wsX6_restore wsX1_remember := goodIn_r _ [10, 11, 12, 13, 14, 15, 16, 9, 17, 18, 19, 20, 21, 22, 23, 24, 25, 26, 27, 28, 29, 30, 31, 32, 33, 69, 70, 71, 72, 73] (by decide +kernel) (by decide +kernel)
set_option maxRecDepth 20000 in
theorem gX6_restore_X1_remember : GoodIn wsX6_restore (wsV RX6 85 RX1 yX1_remember wsX1_remember) := goodIn_app (goodIn_of _ (by decide +kernel)) ggX6_restore_X1_remember
set_option maxRecDepth 20000 in
theorem ggX6_restore_X4_loadFrom : GoodIn wsX6_restore wsX4_loadFrom := goodIn_r _ [37, 23, 24, 25, 26, 27, 28, 29, 30, 31, 32, 33, 72, 73] (by decide +kernel) (by decide +kernel)
set_option maxRecDepth 20000 in
theorem gX6_restore_X4_loadFrom : GoodIn wsX6_restore (wsV RX6 194 RX4 yX4_loadFrom wsX4_loadFrom) := goodIn_app (goodIn_of _ (by decide +kernel)) ggX6_restore_X4_loadFrom
set_option maxRecDepth 20000 in
theorem ggX6_restore_X2_garlands : GoodIn wsX6_restore wsX2_garlands := goodIn_r _ [42, 43, 44, 45, 46, 21, 47, 48, 49, 50, 51, 52, 53, 54, 23, 55, 56, 57, 27, 58, 29, 59, 60, 74, 72, 73] (by decide +kernel) (by decide +kernel)
set_option maxRecDepth 20000 in
theorem gX6_restore_X2_garlands : GoodIn wsX6_restore (wsV RX6 191 RX2 yX2_garlands wsX2_garlands) := goodIn_app (goodIn_of _ (by decide +kernel)) ggX6_restore_X2_garlands
theorem dX6_restore_0 : decode cX6_restore 0 = .ok (.aload_n 0, 1) := by decide +kernel
theorem dX6_restore_1 : decode cX6_restore 1 = .ok (.getfield 58, 3) := by decide +kernel
theorem dX6_restore_4 : decode cX6_restore 4 = .ok (.ifCond .ne 6, 3) := by decide +kernel
theorem dX6_restore_7 : decode cX6_restore 7 = .ok (.bipush (-5), 2) := by decide +kernel
theorem dX6_restore_9 : decode cX6_restore 9 = .ok (.ireturn, 1) := by decide +kernel
theorem dX6_restore_10 : decode cX6_restore 10 = .ok (.aload_n 0, 1) := by decide +kernel
theorem dX6_restore_11 : decode cX6_restore 11 = .ok (.getfield 35, 3) := by decide +kernel
theorem dX6_restore_14 : decode cX6_restore 14 = .ok (.aload_n 0, 1) := by decide +kernel
theorem dX6_restore_15 : decode cX6_restore 15 = .ok (.getfield 12, 3) := by decide +kernel
theorem dX6_restore_18 : decode cX6_restore 18 = .ok (.invokevirtual 85, 3) := by decide +kernel
theorem dX6_restore_21 : decode cX6_restore 21 = .ok (.aload_n 0, 1) := by decide +kernel
theorem dX6_restore_22 : decode cX6_restore 22 = .ok (.getfield 12, 3) := by decide +kernel
theorem dX6_restore_25 : decode cX6_restore 25 = .ok (.aload_n 0, 1) := by decide +kernel
theorem dX6_restore_26 : decode cX6_restore 26 = .ok (.getfield 51, 3) := by decide +kernel
theorem dX6_restore_29 : decode cX6_restore 29 = .ok (.iconst 0, 1) := by decide +kernel
theorem dX6_restore_30 : decode cX6_restore 30 = .ok (.invokevirtual 194, 3) := by decide +kernel
theorem dX6_restore_33 : decode cX6_restore 33 = .ok (.aload_n 0, 1) := by decide +kernel
theorem dX6_restore_34 : decode cX6_restore 34 = .ok (.getfield 21, 3) := by decide +kernel
theorem dX6_restore_37 : decode cX6_restore 37 = .ok (.invokevirtual 191, 3) := by decide +kernel
theorem dX6_restore_40 : decode cX6_restore 40 = .ok (.ireturn, 1) := by decide +kernel
set_option maxRecDepth 20000 in
theorem ggX6_kind_X4_hasKind : GoodIn wsX6_kind wsX4_hasKind := goodIn_r _ [7, 8, 9, 10, 6, 11, 12, 13, 14, 15, 16, 17, 18, 19, 20, 21, 62, 63] (by decide +kernel) (by decide +kernel)
set_option maxRecDepth 20000 in
theorem gX6_kind_X4_hasKind : GoodIn wsX6_kind (wsV RX6 62 RX4 yX4_hasKind wsX4_hasKind) := goodIn_app (goodIn_of _ (by decide +kernel)) ggX6_kind_X4_hasKind
set_option maxRecDepth 20000 in
theorem ggX6_kind_X4_leftHand : GoodIn wsX6_kind wsX4_leftHand := goodIn_r _ [25, 12, 13, 14, 15, 16, 17, 18, 62, 63] (by decide +kernel) (by decide +kernel)
set_option maxRecDepth 20000 in
theorem gX6_kind_X4_leftHand : GoodIn wsX6_kind (wsV RX6 70 RX4 yX4_leftHand wsX4_leftHand) := goodIn_app (goodIn_of _ (by decide +kernel)) ggX6_kind_X4_leftHand
set_option maxRecDepth 20000 in
theorem ggX6_kind_X4_rightHand : GoodIn wsX6_kind wsX4_rightHand := goodIn_r _ [29, 12, 13, 14, 15, 16, 17, 18, 62, 63] (by decide +kernel) (by decide +kernel)
set_option maxRecDepth 20000 in
theorem gX6_kind_X4_rightHand : GoodIn wsX6_kind (wsV RX6 74 RX4 yX4_rightHand wsX4_rightHand) := goodIn_app (goodIn_of _ (by decide +kernel)) ggX6_kind_X4_rightHand
set_option maxRecDepth 20000 in
theorem ggX6_kind_X6_dollOf : GoodIn wsX6_kind wsX6_dollOf := goodIn_r _ [32, 33, 34, 20, 35] (by decide +kernel) (by decide +kernel)
set_option maxRecDepth 20000 in
theorem gX6_kind_X6_dollOf : GoodIn wsX6_kind (va_wsS RX6 107 yX6_dollOf wsX6_dollOf) := goodIn_app (goodIn_of _ (by decide +kernel)) ggX6_kind_X6_dollOf
set_option maxRecDepth 20000 in
theorem ggX6_kind_X2_dollsLike : GoodIn wsX6_kind wsX2_dollsLike := goodIn_r _ [40, 41, 42, 43, 44, 6, 45, 12, 13, 14, 15, 16, 17, 18, 46, 47, 48, 49, 50, 51, 52, 53, 34, 20, 35, 64, 62, 63] (by decide +kernel) (by decide +kernel)
set_option maxRecDepth 20000 in
theorem gX6_kind_X2_dollsLike : GoodIn wsX6_kind (wsV RX6 197 RX2 yX2_dollsLike wsX2_dollsLike) := goodIn_app (goodIn_of _ (by decide +kernel)) ggX6_kind_X2_dollsLike
set_option maxRecDepth 20000 in
theorem ggX6_kind_X6_oneIf : GoodIn wsX6_kind wsX6_oneIf := goodIn_r _ [35] (by decide +kernel) (by decide +kernel)
set_option maxRecDepth 20000 in
theorem gX6_kind_X6_oneIf : GoodIn wsX6_kind (va_wsS RX6 200 yX6_oneIf wsX6_oneIf) := goodIn_app (goodIn_of _ (by decide +kernel)) ggX6_kind_X6_oneIf
theorem dX6_kind_0 : decode cX6_kind 0 = .ok (.aload_n 0, 1) := by decide +kernel
theorem dX6_kind_1 : decode cX6_kind 1 = .ok (.getfield 12, 3) := by decide +kernel
theorem dX6_kind_4 : decode cX6_kind 4 = .ok (.iload_n 1, 1) := by decide +kernel
theorem dX6_kind_5 : decode cX6_kind 5 = .ok (.invokevirtual 62, 3) := by decide +kernel
theorem dX6_kind_8 : decode cX6_kind 8 = .ok (.ifCond .ne 5, 3) := by decide +kernel
theorem dX6_kind_11 : decode cX6_kind 11 = .ok (.iconst (-1), 1) := by decide +kernel
theorem dX6_kind_12 : decode cX6_kind 12 = .ok (.ireturn, 1) := by decide +kernel
theorem dX6_kind_13 : decode cX6_kind 13 = .ok (.iload_n 2, 1) := by decide +kernel
theorem dX6_kind_14 : decode cX6_kind 14 = .ok (.tableswitch 119 0 4 #[34, 43, 52, 78, 91], 34) := by decide +kernel
theorem dX6_kind_48 : decode cX6_kind 48 = .ok (.aload_n 0, 1) := by decide +kernel
theorem dX6_kind_49 : decode cX6_kind 49 = .ok (.getfield 12, 3) := by decide +kernel
theorem dX6_kind_52 : decode cX6_kind 52 = .ok (.iload_n 1, 1) := by decide +kernel
theorem dX6_kind_53 : decode cX6_kind 53 = .ok (.invokevirtual 70, 3) := by decide +kernel
theorem dX6_kind_56 : decode cX6_kind 56 = .ok (.ireturn, 1) := by decide +kernel
theorem dX6_kind_57 : decode cX6_kind 57 = .ok (.aload_n 0, 1) := by decide +kernel
theorem dX6_kind_58 : decode cX6_kind 58 = .ok (.getfield 12, 3) := by decide +kernel
theorem dX6_kind_61 : decode cX6_kind 61 = .ok (.iload_n 1, 1) := by decide +kernel
theorem dX6_kind_62 : decode cX6_kind 62 = .ok (.invokevirtual 74, 3) := by decide +kernel
theorem dX6_kind_65 : decode cX6_kind 65 = .ok (.ireturn, 1) := by decide +kernel
theorem dX6_kind_66 : decode cX6_kind 66 = .ok (.aload_n 0, 1) := by decide +kernel
theorem dX6_kind_67 : decode cX6_kind 67 = .ok (.getfield 21, 3) := by decide +kernel
theorem dX6_kind_70 : decode cX6_kind 70 = .ok (.iload_n 1, 1) := by decide +kernel
theorem dX6_kind_71 : decode cX6_kind 71 = .ok (.iconst 0, 1) := by decide +kernel
theorem dX6_kind_72 : decode cX6_kind 72 = .ok (.invokestatic 107, 3) := by decide +kernel
theorem dX6_kind_75 : decode cX6_kind 75 = .ok (.invokevirtual 197, 3) := by decide +kernel
theorem dX6_kind_78 : decode cX6_kind 78 = .ok (.aload_n 0, 1) := by decide +kernel
theorem dX6_kind_79 : decode cX6_kind 79 = .ok (.getfield 21, 3) := by decide +kernel
theorem dX6_kind_82 : decode cX6_kind 82 = .ok (.iload_n 1, 1) := by decide +kernel
theorem dX6_kind_83 : decode cX6_kind 83 = .ok (.iconst 1, 1) := by decide +kernel
theorem dX6_kind_84 : decode cX6_kind 84 = .ok (.invokestatic 107, 3) := by decide +kernel
theorem dX6_kind_87 : decode cX6_kind 87 = .ok (.invokevirtual 197, 3) := by decide +kernel
theorem dX6_kind_90 : decode cX6_kind 90 = .ok (.iadd, 1) := by decide +kernel
theorem dX6_kind_91 : decode cX6_kind 91 = .ok (.ireturn, 1) := by decide +kernel
theorem dX6_kind_92 : decode cX6_kind 92 = .ok (.aload_n 0, 1) := by decide +kernel
theorem dX6_kind_93 : decode cX6_kind 93 = .ok (.getfield 21, 3) := by decide +kernel
theorem dX6_kind_96 : decode cX6_kind 96 = .ok (.iload_n 1, 1) := by decide +kernel
theorem dX6_kind_97 : decode cX6_kind 97 = .ok (.iconst 1, 1) := by decide +kernel
theorem dX6_kind_98 : decode cX6_kind 98 = .ok (.invokestatic 107, 3) := by decide +kernel
theorem dX6_kind_101 : decode cX6_kind 101 = .ok (.invokevirtual 197, 3) := by decide +kernel
theorem dX6_kind_104 : decode cX6_kind 104 = .ok (.ireturn, 1) := by decide +kernel
theorem dX6_kind_105 : decode cX6_kind 105 = .ok (.aload_n 0, 1) := by decide +kernel
theorem dX6_kind_106 : decode cX6_kind 106 = .ok (.getfield 12, 3) := by decide +kernel
theorem dX6_kind_109 : decode cX6_kind 109 = .ok (.iload_n 1, 1) := by decide +kernel
theorem dX6_kind_110 : decode cX6_kind 110 = .ok (.invokevirtual 70, 3) := by decide +kernel
theorem dX6_kind_113 : decode cX6_kind 113 = .ok (.aload_n 0, 1) := by decide +kernel
theorem dX6_kind_114 : decode cX6_kind 114 = .ok (.getfield 12, 3) := by decide +kernel
theorem dX6_kind_117 : decode cX6_kind 117 = .ok (.iload_n 1, 1) := by decide +kernel
theorem dX6_kind_118 : decode cX6_kind 118 = .ok (.invokevirtual 74, 3) := by decide +kernel
theorem dX6_kind_121 : decode cX6_kind 121 = .ok (.if_icmp .ne 7, 3) := by decide +kernel
theorem dX6_kind_124 : decode cX6_kind 124 = .ok (.iconst 1, 1) := by decide +kernel
theorem dX6_kind_125 : decode cX6_kind 125 = .ok (.goto 4, 3) := by decide +kernel
theorem dX6_kind_128 : decode cX6_kind 128 = .ok (.iconst 0, 1) := by decide +kernel
theorem dX6_kind_129 : decode cX6_kind 129 = .ok (.invokestatic 200, 3) := by decide +kernel
theorem dX6_kind_132 : decode cX6_kind 132 = .ok (.ireturn, 1) := by decide +kernel
theorem dX6_kind_133 : decode cX6_kind 133 = .ok (.bipush (-2), 2) := by decide +kernel
theorem dX6_kind_135 : decode cX6_kind 135 = .ok (.ireturn, 1) := by decide +kernel
set_option maxRecDepth 20000 in
theorem ggX6_garland_X4_hasGarland : GoodIn wsX6_garland wsX4_hasGarland := goodIn_r _ [7, 8, 9, 10, 11, 12, 13, 6, 14, 15, 16, 17, 18, 19, 20, 21, 100, 101] (by decide +kernel) (by decide +kernel)
set_option maxRecDepth 20000 in
theorem gX6_garland_X4_hasGarland : GoodIn wsX6_garland (wsV RX6 118 RX4 yX4_hasGarland wsX4_hasGarland) := goodIn_app (goodIn_of _ (by decide +kernel)) ggX6_garland_X4_hasGarland
set_option maxRecDepth 20000 in
theorem ggX6_garland_X4_lengthOf : GoodIn wsX6_garland wsX4_lengthOf := goodIn_r _ [14, 15, 16, 17, 18, 19, 20, 21, 100, 101] (by decide +kernel) (by decide +kernel)
set_option maxRecDepth 20000 in
theorem gX6_garland_X4_lengthOf : GoodIn wsX6_garland (wsV RX6 130 RX4 yX4_lengthOf wsX4_lengthOf) := goodIn_app (goodIn_of _ (by decide +kernel)) ggX6_garland_X4_lengthOf
set_option maxRecDepth 20000 in
theorem ggX6_garland_X4_firstDoll : GoodIn wsX6_garland wsX4_firstDoll := goodIn_r _ [26, 27, 28, 29, 6, 30, 15, 31, 32, 33, 34, 16, 17, 18, 19, 20, 21, 100, 101] (by decide +kernel) (by decide +kernel)
set_option maxRecDepth 20000 in
theorem gX6_garland_X4_firstDoll : GoodIn wsX6_garland (wsV RX6 124 RX4 yX4_firstDoll wsX4_firstDoll) := goodIn_app (goodIn_of _ (by decide +kernel)) ggX6_garland_X4_firstDoll
set_option maxRecDepth 20000 in
theorem ggX6_garland_X4_leftOf : GoodIn wsX6_garland wsX4_leftOf := goodIn_r _ [38, 15, 39, 9, 40, 41, 42, 16, 17, 18, 19, 20, 21, 100, 101] (by decide +kernel) (by decide +kernel)
set_option maxRecDepth 20000 in
theorem gX6_garland_X4_leftOf : GoodIn wsX6_garland (wsV RX6 204 RX4 yX4_leftOf wsX4_leftOf) := goodIn_app (goodIn_of _ (by decide +kernel)) ggX6_garland_X4_leftOf
set_option maxRecDepth 20000 in
theorem ggX6_garland_X4_lastDoll : GoodIn wsX6_garland wsX4_lastDoll := goodIn_r _ [46, 11, 12, 13, 6, 14, 15, 16, 17, 18, 19, 20, 21, 27, 28, 29, 30, 31, 32, 33, 34, 100, 101] (by decide +kernel) (by decide +kernel)
set_option maxRecDepth 20000 in
theorem gX6_garland_X4_lastDoll : GoodIn wsX6_garland (wsV RX6 121 RX4 yX4_lastDoll wsX4_lastDoll) := goodIn_app (goodIn_of _ (by decide +kernel)) ggX6_garland_X4_lastDoll
set_option maxRecDepth 20000 in
theorem ggX6_garland_X4_rightOf : GoodIn wsX6_garland wsX4_rightOf := goodIn_r _ [50, 15, 39, 9, 40, 41, 42, 16, 17, 18, 19, 20, 21, 100, 101] (by decide +kernel) (by decide +kernel)
set_option maxRecDepth 20000 in
theorem gX6_garland_X4_rightOf : GoodIn wsX6_garland (wsV RX6 207 RX4 yX4_rightOf wsX4_rightOf) := goodIn_app (goodIn_of _ (by decide +kernel)) ggX6_garland_X4_rightOf
set_option maxRecDepth 20000 in
theorem ggX6_garland_X2_mirroredIn : GoodIn wsX6_garland wsX2_mirroredIn := goodIn_r _ [55, 56, 57, 12, 13, 6, 14, 15, 16, 17, 18, 19, 20, 21, 58, 28, 29, 30, 31, 32, 33, 34, 39, 9, 40, 59, 60, 102, 100, 101] (by decide +kernel) (by decide +kernel)
set_option maxRecDepth 20000 in
theorem gX6_garland_X2_mirroredIn : GoodIn wsX6_garland (wsV RX6 143 RX2 yX2_mirroredIn wsX2_mirroredIn) := goodIn_app (goodIn_of _ (by decide +kernel)) ggX6_garland_X2_mirroredIn
set_option maxRecDepth 20000 in
theorem ggX6_garland_X2_kindsIn : GoodIn wsX6_garland wsX2_kindsIn := goodIn_r _ [64, 56, 57, 12, 13, 6, 14, 15, 16, 17, 18, 19, 20, 21, 58, 28, 29, 30, 31, 32, 33, 34, 41, 9, 42, 102, 100, 101] (by decide +kernel) (by decide +kernel)
set_option maxRecDepth 20000 in
theorem gX6_garland_X2_kindsIn : GoodIn wsX6_garland (wsV RX6 210 RX2 yX2_kindsIn wsX2_kindsIn) := goodIn_app (goodIn_of _ (by decide +kernel)) ggX6_garland_X2_kindsIn
set_option maxRecDepth 20000 in
theorem ggX6_garland_X2_isOwnMirror : GoodIn wsX6_garland wsX2_isOwnMirror := goodIn_r _ [68, 69, 70, 71, 54, 72, 56, 57, 12, 13, 6, 14, 15, 16, 17, 18, 19, 20, 21, 58, 28, 29, 30, 31, 32, 33, 34, 73, 9, 74, 102, 100, 101] (by decide +kernel) (by decide +kernel)
set_option maxRecDepth 20000 in
theorem gX6_garland_X2_isOwnMirror : GoodIn wsX6_garland (wsV RX6 137 RX2 yX2_isOwnMirror wsX2_isOwnMirror) := goodIn_app (goodIn_of _ (by decide +kernel)) ggX6_garland_X2_isOwnMirror
set_option maxRecDepth 20000 in
theorem ggX6_garland_X6_oneIf : GoodIn wsX6_garland wsX6_oneIf := goodIn_r _ [60] (by decide +kernel) (by decide +kernel)
set_option maxRecDepth 20000 in
theorem gX6_garland_X6_oneIf : GoodIn wsX6_garland (va_wsS RX6 200 yX6_oneIf wsX6_oneIf) := goodIn_app (goodIn_of _ (by decide +kernel)) ggX6_garland_X6_oneIf
set_option maxRecDepth 20000 in
theorem ggX6_garland_X2_repeatOf : GoodIn wsX6_garland wsX2_repeatOf := goodIn_r _ [79, 56, 57, 12, 13, 6, 14, 15, 16, 17, 18, 19, 20, 21, 80, 81, 82, 54, 83, 58, 28, 29, 30, 31, 32, 33, 34, 102, 100, 101] (by decide +kernel) (by decide +kernel)
set_option maxRecDepth 20000 in
theorem gX6_garland_X2_repeatOf : GoodIn wsX6_garland (wsV RX6 213 RX2 yX2_repeatOf wsX2_repeatOf) := goodIn_app (goodIn_of _ (by decide +kernel)) ggX6_garland_X2_repeatOf
set_option maxRecDepth 20000 in
theorem ggX6_garland_X2_lowestAlike : GoodIn wsX6_garland wsX2_lowestAlike := goodIn_r _ [87, 88, 89, 90, 54, 91, 56, 57, 12, 13, 6, 14, 15, 16, 17, 18, 19, 20, 21, 58, 28, 29, 30, 31, 32, 33, 34, 69, 70, 71, 72, 73, 9, 74, 102, 100, 101] (by decide +kernel) (by decide +kernel)
set_option maxRecDepth 20000 in
theorem gX6_garland_X2_lowestAlike : GoodIn wsX6_garland (wsV RX6 216 RX2 yX2_lowestAlike wsX2_lowestAlike) := goodIn_app (goodIn_of _ (by decide +kernel)) ggX6_garland_X2_lowestAlike
theorem dX6_garland_0 : decode cX6_garland 0 = .ok (.aload_n 0, 1) := by decide +kernel
theorem dX6_garland_1 : decode cX6_garland 1 = .ok (.getfield 12, 3) := by decide +kernel
theorem dX6_garland_4 : decode cX6_garland 4 = .ok (.iload_n 1, 1) := by decide +kernel
theorem dX6_garland_5 : decode cX6_garland 5 = .ok (.invokevirtual 118, 3) := by decide +kernel
theorem dX6_garland_8 : decode cX6_garland 8 = .ok (.ifCond .ne 5, 3) := by decide +kernel
theorem dX6_garland_11 : decode cX6_garland 11 = .ok (.iconst (-1), 1) := by decide +kernel
theorem dX6_garland_12 : decode cX6_garland 12 = .ok (.ireturn, 1) := by decide +kernel
theorem dX6_garland_13 : decode cX6_garland 13 = .ok (.iload_n 2, 1) := by decide +kernel
theorem dX6_garland_14 : decode cX6_garland 14 = .ok (.tableswitch 135 0 7 #[46, 55, 71, 87, 96, 105, 117, 126], 46) := by decide +kernel
theorem dX6_garland_60 : decode cX6_garland 60 = .ok (.aload_n 0, 1) := by decide +kernel
theorem dX6_garland_61 : decode cX6_garland 61 = .ok (.getfield 12, 3) := by decide +kernel
theorem dX6_garland_64 : decode cX6_garland 64 = .ok (.iload_n 1, 1) := by decide +kernel
theorem dX6_garland_65 : decode cX6_garland 65 = .ok (.invokevirtual 130, 3) := by decide +kernel
theorem dX6_garland_68 : decode cX6_garland 68 = .ok (.ireturn, 1) := by decide +kernel
theorem dX6_garland_69 : decode cX6_garland 69 = .ok (.aload_n 0, 1) := by decide +kernel
theorem dX6_garland_70 : decode cX6_garland 70 = .ok (.getfield 12, 3) := by decide +kernel
theorem dX6_garland_73 : decode cX6_garland 73 = .ok (.aload_n 0, 1) := by decide +kernel
theorem dX6_garland_74 : decode cX6_garland 74 = .ok (.getfield 12, 3) := by decide +kernel
theorem dX6_garland_77 : decode cX6_garland 77 = .ok (.iload_n 1, 1) := by decide +kernel
theorem dX6_garland_78 : decode cX6_garland 78 = .ok (.invokevirtual 124, 3) := by decide +kernel
theorem dX6_garland_81 : decode cX6_garland 81 = .ok (.invokevirtual 204, 3) := by decide +kernel
theorem dX6_garland_84 : decode cX6_garland 84 = .ok (.ireturn, 1) := by decide +kernel
theorem dX6_garland_85 : decode cX6_garland 85 = .ok (.aload_n 0, 1) := by decide +kernel
theorem dX6_garland_86 : decode cX6_garland 86 = .ok (.getfield 12, 3) := by decide +kernel
theorem dX6_garland_89 : decode cX6_garland 89 = .ok (.aload_n 0, 1) := by decide +kernel
theorem dX6_garland_90 : decode cX6_garland 90 = .ok (.getfield 12, 3) := by decide +kernel
theorem dX6_garland_93 : decode cX6_garland 93 = .ok (.iload_n 1, 1) := by decide +kernel
theorem dX6_garland_94 : decode cX6_garland 94 = .ok (.invokevirtual 121, 3) := by decide +kernel
theorem dX6_garland_97 : decode cX6_garland 97 = .ok (.invokevirtual 207, 3) := by decide +kernel
theorem dX6_garland_100 : decode cX6_garland 100 = .ok (.ireturn, 1) := by decide +kernel
theorem dX6_garland_101 : decode cX6_garland 101 = .ok (.aload_n 0, 1) := by decide +kernel
theorem dX6_garland_102 : decode cX6_garland 102 = .ok (.getfield 21, 3) := by decide +kernel
theorem dX6_garland_105 : decode cX6_garland 105 = .ok (.iload_n 1, 1) := by decide +kernel
theorem dX6_garland_106 : decode cX6_garland 106 = .ok (.invokevirtual 143, 3) := by decide +kernel
theorem dX6_garland_109 : decode cX6_garland 109 = .ok (.ireturn, 1) := by decide +kernel
theorem dX6_garland_110 : decode cX6_garland 110 = .ok (.aload_n 0, 1) := by decide +kernel
theorem dX6_garland_111 : decode cX6_garland 111 = .ok (.getfield 21, 3) := by decide +kernel
theorem dX6_garland_114 : decode cX6_garland 114 = .ok (.iload_n 1, 1) := by decide +kernel
theorem dX6_garland_115 : decode cX6_garland 115 = .ok (.invokevirtual 210, 3) := by decide +kernel
theorem dX6_garland_118 : decode cX6_garland 118 = .ok (.ireturn, 1) := by decide +kernel
theorem dX6_garland_119 : decode cX6_garland 119 = .ok (.aload_n 0, 1) := by decide +kernel
theorem dX6_garland_120 : decode cX6_garland 120 = .ok (.getfield 21, 3) := by decide +kernel
theorem dX6_garland_123 : decode cX6_garland 123 = .ok (.iload_n 1, 1) := by decide +kernel
theorem dX6_garland_124 : decode cX6_garland 124 = .ok (.invokevirtual 137, 3) := by decide +kernel
theorem dX6_garland_127 : decode cX6_garland 127 = .ok (.invokestatic 200, 3) := by decide +kernel
theorem dX6_garland_130 : decode cX6_garland 130 = .ok (.ireturn, 1) := by decide +kernel
theorem dX6_garland_131 : decode cX6_garland 131 = .ok (.aload_n 0, 1) := by decide +kernel
theorem dX6_garland_132 : decode cX6_garland 132 = .ok (.getfield 21, 3) := by decide +kernel
theorem dX6_garland_135 : decode cX6_garland 135 = .ok (.iload_n 1, 1) := by decide +kernel
theorem dX6_garland_136 : decode cX6_garland 136 = .ok (.invokevirtual 213, 3) := by decide +kernel
theorem dX6_garland_139 : decode cX6_garland 139 = .ok (.ireturn, 1) := by decide +kernel
theorem dX6_garland_140 : decode cX6_garland 140 = .ok (.aload_n 0, 1) := by decide +kernel
theorem dX6_garland_141 : decode cX6_garland 141 = .ok (.getfield 21, 3) := by decide +kernel
theorem dX6_garland_144 : decode cX6_garland 144 = .ok (.iload_n 1, 1) := by decide +kernel
theorem dX6_garland_145 : decode cX6_garland 145 = .ok (.invokevirtual 216, 3) := by decide +kernel
theorem dX6_garland_148 : decode cX6_garland 148 = .ok (.ireturn, 1) := by decide +kernel
theorem dX6_garland_149 : decode cX6_garland 149 = .ok (.bipush (-2), 2) := by decide +kernel
theorem dX6_garland_151 : decode cX6_garland 151 = .ok (.ireturn, 1) := by decide +kernel
set_option maxRecDepth 20000 in
theorem ggX6_doll_X4_hasGarland : GoodIn wsX6_doll wsX4_hasGarland := goodIn_r _ [6, 7, 8, 9, 10, 11, 12, 5, 13, 14, 15, 16, 17, 18, 19, 20, 56, 57] (by decide +kernel) (by decide +kernel)
set_option maxRecDepth 20000 in
theorem gX6_doll_X4_hasGarland : GoodIn wsX6_doll (wsV RX6 118 RX4 yX4_hasGarland wsX4_hasGarland) := goodIn_app (goodIn_of _ (by decide +kernel)) ggX6_doll_X4_hasGarland
set_option maxRecDepth 20000 in
theorem ggX6_doll_X4_lengthOf : GoodIn wsX6_doll wsX4_lengthOf := goodIn_r _ [13, 14, 15, 16, 17, 18, 19, 20, 56, 57] (by decide +kernel) (by decide +kernel)
set_option maxRecDepth 20000 in
theorem gX6_doll_X4_lengthOf : GoodIn wsX6_doll (wsV RX6 130 RX4 yX4_lengthOf wsX4_lengthOf) := goodIn_app (goodIn_of _ (by decide +kernel)) ggX6_doll_X4_lengthOf
set_option maxRecDepth 20000 in
theorem ggX6_doll_X6_isBelow : GoodIn wsX6_doll wsX6_isBelow := goodIn_r _ [9] (by decide +kernel) (by decide +kernel)
set_option maxRecDepth 20000 in
theorem gX6_doll_X6_isBelow : GoodIn wsX6_doll (va_wsS RX6 66 yX6_isBelow wsX6_isBelow) := goodIn_app (goodIn_of _ (by decide +kernel)) ggX6_doll_X6_isBelow
set_option maxRecDepth 20000 in
theorem ggX6_doll_X4_dollAt : GoodIn wsX6_doll wsX4_dollAt := goodIn_r _ [26, 14, 27, 28, 29, 5, 30, 15, 16, 17, 18, 19, 20, 56, 57] (by decide +kernel) (by decide +kernel)
set_option maxRecDepth 20000 in
theorem gX6_doll_X4_dollAt : GoodIn wsX6_doll (wsV RX6 219 RX4 yX4_dollAt wsX4_dollAt) := goodIn_app (goodIn_of _ (by decide +kernel)) ggX6_doll_X4_dollAt
set_option maxRecDepth 20000 in
theorem ggX6_doll_X6_kindOf : GoodIn wsX6_doll wsX6_kindOf := goodIn_r _ [33] (by decide +kernel) (by decide +kernel)
set_option maxRecDepth 20000 in
theorem gX6_doll_X6_kindOf : GoodIn wsX6_doll (va_wsS RX6 223 yX6_kindOf wsX6_kindOf) := goodIn_app (goodIn_of _ (by decide +kernel)) ggX6_doll_X6_kindOf
set_option maxRecDepth 20000 in
theorem ggX6_doll_X6_isMirrored : GoodIn wsX6_doll wsX6_isMirrored := goodIn_r _ [36] (by decide +kernel) (by decide +kernel)
set_option maxRecDepth 20000 in
theorem gX6_doll_X6_isMirrored : GoodIn wsX6_doll (va_wsS RX6 226 yX6_isMirrored wsX6_isMirrored) := goodIn_app (goodIn_of _ (by decide +kernel)) ggX6_doll_X6_isMirrored
set_option maxRecDepth 20000 in
theorem ggX6_doll_X6_oneIf : GoodIn wsX6_doll wsX6_oneIf := goodIn_r _ [39] (by decide +kernel) (by decide +kernel)
set_option maxRecDepth 20000 in
theorem gX6_doll_X6_oneIf : GoodIn wsX6_doll (va_wsS RX6 200 yX6_oneIf wsX6_oneIf) := goodIn_app (goodIn_of _ (by decide +kernel)) ggX6_doll_X6_oneIf
set_option maxRecDepth 20000 in
theorem ggX6_doll_X4_leftOf : GoodIn wsX6_doll wsX4_leftOf := goodIn_r _ [43, 14, 35, 8, 36, 32, 33, 15, 16, 17, 18, 19, 20, 56, 57] (by decide +kernel) (by decide +kernel)
set_option maxRecDepth 20000 in
theorem gX6_doll_X4_leftOf : GoodIn wsX6_doll (wsV RX6 204 RX4 yX4_leftOf wsX4_leftOf) := goodIn_app (goodIn_of _ (by decide +kernel)) ggX6_doll_X4_leftOf
set_option maxRecDepth 20000 in
theorem ggX6_doll_X4_rightOf : GoodIn wsX6_doll wsX4_rightOf := goodIn_r _ [47, 14, 35, 8, 36, 32, 33, 15, 16, 17, 18, 19, 20, 56, 57] (by decide +kernel) (by decide +kernel)
set_option maxRecDepth 20000 in
theorem gX6_doll_X4_rightOf : GoodIn wsX6_doll (wsV RX6 207 RX4 yX4_rightOf wsX4_rightOf) := goodIn_app (goodIn_of _ (by decide +kernel)) ggX6_doll_X4_rightOf
theorem dX6_doll_0 : decode cX6_doll 0 = .ok (.aload_n 0, 1) := by decide +kernel
theorem dX6_doll_1 : decode cX6_doll 1 = .ok (.getfield 12, 3) := by decide +kernel
theorem dX6_doll_4 : decode cX6_doll 4 = .ok (.iload_n 1, 1) := by decide +kernel
theorem dX6_doll_5 : decode cX6_doll 5 = .ok (.invokevirtual 118, 3) := by decide +kernel
theorem dX6_doll_8 : decode cX6_doll 8 = .ok (.ifCond .eq 18, 3) := by decide +kernel
theorem dX6_doll_11 : decode cX6_doll 11 = .ok (.iload_n 2, 1) := by decide +kernel
theorem dX6_doll_12 : decode cX6_doll 12 = .ok (.aload_n 0, 1) := by decide +kernel
theorem dX6_doll_13 : decode cX6_doll 13 = .ok (.getfield 12, 3) := by decide +kernel
theorem dX6_doll_16 : decode cX6_doll 16 = .ok (.iload_n 1, 1) := by decide +kernel
theorem dX6_doll_17 : decode cX6_doll 17 = .ok (.invokevirtual 130, 3) := by decide +kernel
theorem dX6_doll_20 : decode cX6_doll 20 = .ok (.invokestatic 66, 3) := by decide +kernel
theorem dX6_doll_23 : decode cX6_doll 23 = .ok (.ifCond .ne 5, 3) := by decide +kernel
theorem dX6_doll_26 : decode cX6_doll 26 = .ok (.iconst (-1), 1) := by decide +kernel
theorem dX6_doll_27 : decode cX6_doll 27 = .ok (.ireturn, 1) := by decide +kernel
theorem dX6_doll_28 : decode cX6_doll 28 = .ok (.aload_n 0, 1) := by decide +kernel
theorem dX6_doll_29 : decode cX6_doll 29 = .ok (.getfield 12, 3) := by decide +kernel
theorem dX6_doll_32 : decode cX6_doll 32 = .ok (.iload_n 1, 1) := by decide +kernel
theorem dX6_doll_33 : decode cX6_doll 33 = .ok (.iload_n 2, 1) := by decide +kernel
theorem dX6_doll_34 : decode cX6_doll 34 = .ok (.invokevirtual 219, 3) := by decide +kernel
theorem dX6_doll_37 : decode cX6_doll 37 = .ok (.istore 4, 2) := by decide +kernel
theorem dX6_doll_39 : decode cX6_doll 39 = .ok (.iload_n 3, 1) := by decide +kernel
theorem dX6_doll_40 : decode cX6_doll 40 = .ok (.tableswitch 67 0 3 #[32, 38, 47, 57], 32) := by decide +kernel
theorem dX6_doll_72 : decode cX6_doll 72 = .ok (.iload 4, 2) := by decide +kernel
theorem dX6_doll_74 : decode cX6_doll 74 = .ok (.invokestatic 223, 3) := by decide +kernel
theorem dX6_doll_77 : decode cX6_doll 77 = .ok (.ireturn, 1) := by decide +kernel
theorem dX6_doll_78 : decode cX6_doll 78 = .ok (.iload 4, 2) := by decide +kernel
theorem dX6_doll_80 : decode cX6_doll 80 = .ok (.invokestatic 226, 3) := by decide +kernel
theorem dX6_doll_83 : decode cX6_doll 83 = .ok (.invokestatic 200, 3) := by decide +kernel
theorem dX6_doll_86 : decode cX6_doll 86 = .ok (.ireturn, 1) := by decide +kernel
theorem dX6_doll_87 : decode cX6_doll 87 = .ok (.aload_n 0, 1) := by decide +kernel
theorem dX6_doll_88 : decode cX6_doll 88 = .ok (.getfield 12, 3) := by decide +kernel
theorem dX6_doll_91 : decode cX6_doll 91 = .ok (.iload 4, 2) := by decide +kernel
theorem dX6_doll_93 : decode cX6_doll 93 = .ok (.invokevirtual 204, 3) := by decide +kernel
theorem dX6_doll_96 : decode cX6_doll 96 = .ok (.ireturn, 1) := by decide +kernel
theorem dX6_doll_97 : decode cX6_doll 97 = .ok (.aload_n 0, 1) := by decide +kernel
theorem dX6_doll_98 : decode cX6_doll 98 = .ok (.getfield 12, 3) := by decide +kernel
theorem dX6_doll_101 : decode cX6_doll 101 = .ok (.iload 4, 2) := by decide +kernel
theorem dX6_doll_103 : decode cX6_doll 103 = .ok (.invokevirtual 207, 3) := by decide +kernel
theorem dX6_doll_106 : decode cX6_doll 106 = .ok (.ireturn, 1) := by decide +kernel
theorem dX6_doll_107 : decode cX6_doll 107 = .ok (.bipush (-2), 2) := by decide +kernel
theorem dX6_doll_109 : decode cX6_doll 109 = .ok (.ireturn, 1) := by decide +kernel
set_option maxRecDepth 20000 in
theorem ggX6_reason_X4_hasGarland : GoodIn wsX6_reason wsX4_hasGarland := goodIn_r _ [6, 7, 8, 9, 10, 11, 12, 5, 13, 14, 15, 16, 17, 18, 19, 20, 66, 67] (by decide +kernel) (by decide +kernel)
set_option maxRecDepth 20000 in
theorem gX6_reason_X4_hasGarland : GoodIn wsX6_reason (wsV RX6 118 RX4 yX4_hasGarland wsX4_hasGarland) := goodIn_app (goodIn_of _ (by decide +kernel)) ggX6_reason_X4_hasGarland
set_option maxRecDepth 20000 in
theorem ggX6_reason_X4_lastDoll : GoodIn wsX6_reason wsX4_lastDoll := goodIn_r _ [24, 10, 11, 12, 5, 13, 14, 15, 16, 17, 18, 19, 20, 25, 26, 27, 28, 29, 30, 31, 32, 66, 67] (by decide +kernel) (by decide +kernel)
set_option maxRecDepth 20000 in
theorem gX6_reason_X4_lastDoll : GoodIn wsX6_reason (wsV RX6 121 RX4 yX4_lastDoll wsX4_lastDoll) := goodIn_app (goodIn_of _ (by decide +kernel)) ggX6_reason_X4_lastDoll
set_option maxRecDepth 20000 in
theorem ggX6_reason_X4_firstDoll : GoodIn wsX6_reason wsX4_firstDoll := goodIn_r _ [36, 25, 26, 27, 5, 28, 14, 29, 30, 31, 32, 15, 16, 17, 18, 19, 20, 66, 67] (by decide +kernel) (by decide +kernel)
set_option maxRecDepth 20000 in
theorem gX6_reason_X4_firstDoll : GoodIn wsX6_reason (wsV RX6 124 RX4 yX4_firstDoll wsX4_firstDoll) := goodIn_app (goodIn_of _ (by decide +kernel)) ggX6_reason_X4_firstDoll
set_option maxRecDepth 20000 in
theorem ggX6_reason_X4_clash : GoodIn wsX6_reason wsX4_clash := goodIn_r _ [40, 41, 42, 43, 5, 44, 14, 45, 8, 46, 47, 48, 15, 16, 17, 18, 19, 20, 49, 50, 51, 52, 53, 54, 55, 56, 66, 67] (by decide +kernel) (by decide +kernel)
set_option maxRecDepth 20000 in
theorem gX6_reason_X4_clash : GoodIn wsX6_reason (wsV RX6 127 RX4 yX4_clash wsX4_clash) := goodIn_app (goodIn_of _ (by decide +kernel)) ggX6_reason_X4_clash
set_option maxRecDepth 20000 in
theorem ggX6_reason_X4_lengthOf : GoodIn wsX6_reason wsX4_lengthOf := goodIn_r _ [13, 14, 15, 16, 17, 18, 19, 20, 66, 67] (by decide +kernel) (by decide +kernel)
set_option maxRecDepth 20000 in
theorem gX6_reason_X4_lengthOf : GoodIn wsX6_reason (wsV RX6 130 RX4 yX4_lengthOf wsX4_lengthOf) := goodIn_app (goodIn_of _ (by decide +kernel)) ggX6_reason_X4_lengthOf
theorem dX6_reason_0 : decode cX6_reason 0 = .ok (.aload_n 0, 1) := by decide +kernel
theorem dX6_reason_1 : decode cX6_reason 1 = .ok (.getfield 12, 3) := by decide +kernel
theorem dX6_reason_4 : decode cX6_reason 4 = .ok (.iload_n 1, 1) := by decide +kernel
theorem dX6_reason_5 : decode cX6_reason 5 = .ok (.invokevirtual 118, 3) := by decide +kernel
theorem dX6_reason_8 : decode cX6_reason 8 = .ok (.ifCond .eq 14, 3) := by decide +kernel
theorem dX6_reason_11 : decode cX6_reason 11 = .ok (.aload_n 0, 1) := by decide +kernel
theorem dX6_reason_12 : decode cX6_reason 12 = .ok (.getfield 12, 3) := by decide +kernel
theorem dX6_reason_15 : decode cX6_reason 15 = .ok (.iload_n 2, 1) := by decide +kernel
theorem dX6_reason_16 : decode cX6_reason 16 = .ok (.invokevirtual 118, 3) := by decide +kernel
theorem dX6_reason_19 : decode cX6_reason 19 = .ok (.ifCond .ne 5, 3) := by decide +kernel
theorem dX6_reason_22 : decode cX6_reason 22 = .ok (.iconst (-1), 1) := by decide +kernel
theorem dX6_reason_23 : decode cX6_reason 23 = .ok (.ireturn, 1) := by decide +kernel
theorem dX6_reason_24 : decode cX6_reason 24 = .ok (.iload_n 1, 1) := by decide +kernel
theorem dX6_reason_25 : decode cX6_reason 25 = .ok (.iload_n 2, 1) := by decide +kernel
theorem dX6_reason_26 : decode cX6_reason 26 = .ok (.if_icmp .ne 5, 3) := by decide +kernel
theorem dX6_reason_29 : decode cX6_reason 29 = .ok (.iconst 1, 1) := by decide +kernel
theorem dX6_reason_30 : decode cX6_reason 30 = .ok (.ireturn, 1) := by decide +kernel
theorem dX6_reason_31 : decode cX6_reason 31 = .ok (.aload_n 0, 1) := by decide +kernel
theorem dX6_reason_32 : decode cX6_reason 32 = .ok (.getfield 12, 3) := by decide +kernel
theorem dX6_reason_35 : decode cX6_reason 35 = .ok (.aload_n 0, 1) := by decide +kernel
theorem dX6_reason_36 : decode cX6_reason 36 = .ok (.getfield 12, 3) := by decide +kernel
theorem dX6_reason_39 : decode cX6_reason 39 = .ok (.iload_n 1, 1) := by decide +kernel
theorem dX6_reason_40 : decode cX6_reason 40 = .ok (.invokevirtual 121, 3) := by decide +kernel
theorem dX6_reason_43 : decode cX6_reason 43 = .ok (.aload_n 0, 1) := by decide +kernel
theorem dX6_reason_44 : decode cX6_reason 44 = .ok (.getfield 12, 3) := by decide +kernel
theorem dX6_reason_47 : decode cX6_reason 47 = .ok (.iload_n 2, 1) := by decide +kernel
theorem dX6_reason_48 : decode cX6_reason 48 = .ok (.invokevirtual 124, 3) := by decide +kernel
theorem dX6_reason_51 : decode cX6_reason 51 = .ok (.invokevirtual 127, 3) := by decide +kernel
theorem dX6_reason_54 : decode cX6_reason 54 = .ok (.ifCond .eq 5, 3) := by decide +kernel
theorem dX6_reason_57 : decode cX6_reason 57 = .ok (.iconst 2, 1) := by decide +kernel
theorem dX6_reason_58 : decode cX6_reason 58 = .ok (.ireturn, 1) := by decide +kernel
theorem dX6_reason_59 : decode cX6_reason 59 = .ok (.aload_n 0, 1) := by decide +kernel
theorem dX6_reason_60 : decode cX6_reason 60 = .ok (.getfield 12, 3) := by decide +kernel
theorem dX6_reason_63 : decode cX6_reason 63 = .ok (.iload_n 1, 1) := by decide +kernel
theorem dX6_reason_64 : decode cX6_reason 64 = .ok (.invokevirtual 130, 3) := by decide +kernel
theorem dX6_reason_67 : decode cX6_reason 67 = .ok (.aload_n 0, 1) := by decide +kernel
theorem dX6_reason_68 : decode cX6_reason 68 = .ok (.getfield 12, 3) := by decide +kernel
theorem dX6_reason_71 : decode cX6_reason 71 = .ok (.iload_n 2, 1) := by decide +kernel
theorem dX6_reason_72 : decode cX6_reason 72 = .ok (.invokevirtual 130, 3) := by decide +kernel
theorem dX6_reason_75 : decode cX6_reason 75 = .ok (.iadd, 1) := by decide +kernel
theorem dX6_reason_76 : decode cX6_reason 76 = .ok (.bipush 32, 2) := by decide +kernel
theorem dX6_reason_78 : decode cX6_reason 78 = .ok (.if_icmp .le 7, 3) := by decide +kernel
theorem dX6_reason_81 : decode cX6_reason 81 = .ok (.iconst 3, 1) := by decide +kernel
theorem dX6_reason_82 : decode cX6_reason 82 = .ok (.goto 4, 3) := by decide +kernel
theorem dX6_reason_85 : decode cX6_reason 85 = .ok (.iconst 0, 1) := by decide +kernel
theorem dX6_reason_86 : decode cX6_reason 86 = .ok (.ireturn, 1) := by decide +kernel
set_option maxRecDepth 20000 in
theorem ggX6_between_X4_hasGarland : GoodIn wsX6_between wsX4_hasGarland := goodIn_r _ [7, 8, 9, 10, 11, 12, 13, 6, 14, 15, 16, 17, 18, 19, 20, 21, 95, 96] (by decide +kernel) (by decide +kernel)
set_option maxRecDepth 20000 in
theorem gX6_between_X4_hasGarland : GoodIn wsX6_between (wsV RX6 118 RX4 yX4_hasGarland wsX4_hasGarland) := goodIn_app (goodIn_of _ (by decide +kernel)) ggX6_between_X4_hasGarland
set_option maxRecDepth 20000 in
theorem ggX6_between_X4_lastDoll : GoodIn wsX6_between wsX4_lastDoll := goodIn_r _ [25, 11, 12, 13, 6, 14, 15, 16, 17, 18, 19, 20, 21, 26, 27, 28, 29, 30, 31, 32, 33, 95, 96] (by decide +kernel) (by decide +kernel)
set_option maxRecDepth 20000 in
theorem gX6_between_X4_lastDoll : GoodIn wsX6_between (wsV RX6 121 RX4 yX4_lastDoll wsX4_lastDoll) := goodIn_app (goodIn_of _ (by decide +kernel)) ggX6_between_X4_lastDoll
set_option maxRecDepth 20000 in
theorem ggX6_between_X4_firstDoll : GoodIn wsX6_between wsX4_firstDoll := goodIn_r _ [37, 26, 27, 28, 6, 29, 15, 30, 31, 32, 33, 16, 17, 18, 19, 20, 21, 95, 96] (by decide +kernel) (by decide +kernel)
set_option maxRecDepth 20000 in
theorem gX6_between_X4_firstDoll : GoodIn wsX6_between (wsV RX6 124 RX4 yX4_firstDoll wsX4_firstDoll) := goodIn_app (goodIn_of _ (by decide +kernel)) ggX6_between_X4_firstDoll
set_option maxRecDepth 20000 in
theorem ggX6_between_X0_fewestBetween : GoodIn wsX6_between wsX0_fewestBetween := goodIn_r _ [42, 43, 44, 45, 46, 6, 47, 48, 49, 50, 51, 15, 52, 9, 53, 54, 55, 16, 17, 18, 19, 20, 21, 56, 57, 58, 59, 60, 61, 62, 63, 64, 65, 66, 41, 67, 68, 69, 70, 71, 72, 73, 74, 75, 76, 77, 78, 79, 80, 81, 82, 83, 84, 85, 86, 97, 98, 99, 100, 95, 96] (by decide +kernel) (by decide +kernel)
set_option maxRecDepth 20000 in
theorem gX6_between_X0_fewestBetween : GoodIn wsX6_between (wsV RX6 229 RX0 yX0_fewestBetween wsX0_fewestBetween) := goodIn_app (goodIn_of _ (by decide +kernel)) ggX6_between_X0_fewestBetween
theorem dX6_between_0 : decode cX6_between 0 = .ok (.aload_n 0, 1) := by decide +kernel
theorem dX6_between_1 : decode cX6_between 1 = .ok (.getfield 12, 3) := by decide +kernel
theorem dX6_between_4 : decode cX6_between 4 = .ok (.iload_n 1, 1) := by decide +kernel
theorem dX6_between_5 : decode cX6_between 5 = .ok (.invokevirtual 118, 3) := by decide +kernel
theorem dX6_between_8 : decode cX6_between 8 = .ok (.ifCond .eq 14, 3) := by decide +kernel
theorem dX6_between_11 : decode cX6_between 11 = .ok (.aload_n 0, 1) := by decide +kernel
theorem dX6_between_12 : decode cX6_between 12 = .ok (.getfield 12, 3) := by decide +kernel
theorem dX6_between_15 : decode cX6_between 15 = .ok (.iload_n 2, 1) := by decide +kernel
theorem dX6_between_16 : decode cX6_between 16 = .ok (.invokevirtual 118, 3) := by decide +kernel
theorem dX6_between_19 : decode cX6_between 19 = .ok (.ifCond .ne 5, 3) := by decide +kernel
theorem dX6_between_22 : decode cX6_between 22 = .ok (.iconst (-1), 1) := by decide +kernel
theorem dX6_between_23 : decode cX6_between 23 = .ok (.ireturn, 1) := by decide +kernel
theorem dX6_between_24 : decode cX6_between 24 = .ok (.aload_n 0, 1) := by decide +kernel
theorem dX6_between_25 : decode cX6_between 25 = .ok (.getfield 28, 3) := by decide +kernel
theorem dX6_between_28 : decode cX6_between 28 = .ok (.aload_n 0, 1) := by decide +kernel
theorem dX6_between_29 : decode cX6_between 29 = .ok (.getfield 12, 3) := by decide +kernel
theorem dX6_between_32 : decode cX6_between 32 = .ok (.iload_n 1, 1) := by decide +kernel
theorem dX6_between_33 : decode cX6_between 33 = .ok (.invokevirtual 121, 3) := by decide +kernel
theorem dX6_between_36 : decode cX6_between 36 = .ok (.aload_n 0, 1) := by decide +kernel
theorem dX6_between_37 : decode cX6_between 37 = .ok (.getfield 12, 3) := by decide +kernel
theorem dX6_between_40 : decode cX6_between 40 = .ok (.iload_n 2, 1) := by decide +kernel
theorem dX6_between_41 : decode cX6_between 41 = .ok (.invokevirtual 124, 3) := by decide +kernel
theorem dX6_between_44 : decode cX6_between 44 = .ok (.invokevirtual 229, 3) := by decide +kernel
theorem dX6_between_47 : decode cX6_between 47 = .ok (.ireturn, 1) := by decide +kernel
set_option maxRecDepth 20000 in
theorem ggX6_ways_X0_garlandsOf : GoodIn wsX6_ways wsX0_garlandsOf := goodIn_r _ [6, 7, 8, 9, 10, 11, 5, 12, 13, 14, 15, 16, 17, 18, 19, 20, 21, 22, 23, 24, 25, 26, 27, 28, 29, 30, 31, 32, 33, 34, 35, 36, 37, 38, 39, 40, 41, 42, 43, 44, 45, 46, 47, 48, 49, 50, 51, 52, 53, 54, 55, 56, 57, 58, 59, 60, 61, 62, 63, 64, 65, 66, 67, 68, 69, 70, 71, 72, 73, 74, 75, 90, 91, 92, 93, 94, 95] (by decide +kernel) (by decide +kernel)
set_option maxRecDepth 20000 in
theorem gX6_ways_X0_garlandsOf : GoodIn wsX6_ways (wsV RX6 232 RX0 yX0_garlandsOf wsX0_garlandsOf) := goodIn_app (goodIn_of _ (by decide +kernel)) ggX6_ways_X0_garlandsOf
set_option maxRecDepth 20000 in
theorem ggX6_ways_X0_ownMirrorsOf : GoodIn wsX6_ways wsX0_ownMirrorsOf := goodIn_r _ [79, 7, 13, 8, 9, 10, 11, 5, 12, 14, 15, 16, 17, 18, 19, 20, 21, 22, 23, 24, 25, 26, 27, 28, 29, 30, 31, 32, 33, 34, 35, 36, 37, 38, 39, 40, 41, 42, 43, 44, 45, 46, 47, 48, 49, 50, 51, 52, 53, 54, 55, 56, 57, 58, 59, 60, 61, 62, 63, 64, 65, 66, 67, 68, 69, 70, 71, 72, 73, 74, 75, 80, 81, 90, 91, 92, 93, 94, 95] (by decide +kernel) (by decide +kernel)
set_option maxRecDepth 20000 in
theorem gX6_ways_X0_ownMirrorsOf : GoodIn wsX6_ways (wsV RX6 235 RX0 yX0_ownMirrorsOf wsX0_ownMirrorsOf) := goodIn_app (goodIn_of _ (by decide +kernel)) ggX6_ways_X0_ownMirrorsOf
theorem dX6_ways_0 : decode cX6_ways 0 = .ok (.iload_n 1, 1) := by decide +kernel
theorem dX6_ways_1 : decode cX6_ways 1 = .ok (.iconst 1, 1) := by decide +kernel
theorem dX6_ways_2 : decode cX6_ways 2 = .ok (.if_icmp .lt 9, 3) := by decide +kernel
theorem dX6_ways_5 : decode cX6_ways 5 = .ok (.iload_n 1, 1) := by decide +kernel
theorem dX6_ways_6 : decode cX6_ways 6 = .ok (.bipush 6, 2) := by decide +kernel
theorem dX6_ways_8 : decode cX6_ways 8 = .ok (.if_icmp .le 6, 3) := by decide +kernel
theorem dX6_ways_11 : decode cX6_ways 11 = .ok (.bipush (-2), 2) := by decide +kernel
theorem dX6_ways_13 : decode cX6_ways 13 = .ok (.ireturn, 1) := by decide +kernel
theorem dX6_ways_14 : decode cX6_ways 14 = .ok (.iload_n 2, 1) := by decide +kernel
theorem dX6_ways_15 : decode cX6_ways 15 = .ok (.tableswitch 63 0 2 #[25, 34, 43], 25) := by decide +kernel
theorem dX6_ways_40 : decode cX6_ways 40 = .ok (.aload_n 0, 1) := by decide +kernel
theorem dX6_ways_41 : decode cX6_ways 41 = .ok (.getfield 28, 3) := by decide +kernel
theorem dX6_ways_44 : decode cX6_ways 44 = .ok (.iload_n 1, 1) := by decide +kernel
theorem dX6_ways_45 : decode cX6_ways 45 = .ok (.invokevirtual 232, 3) := by decide +kernel
theorem dX6_ways_48 : decode cX6_ways 48 = .ok (.ireturn, 1) := by decide +kernel
theorem dX6_ways_49 : decode cX6_ways 49 = .ok (.aload_n 0, 1) := by decide +kernel
theorem dX6_ways_50 : decode cX6_ways 50 = .ok (.getfield 28, 3) := by decide +kernel
theorem dX6_ways_53 : decode cX6_ways 53 = .ok (.iload_n 1, 1) := by decide +kernel
theorem dX6_ways_54 : decode cX6_ways 54 = .ok (.invokevirtual 235, 3) := by decide +kernel
theorem dX6_ways_57 : decode cX6_ways 57 = .ok (.ireturn, 1) := by decide +kernel
theorem dX6_ways_58 : decode cX6_ways 58 = .ok (.aload_n 0, 1) := by decide +kernel
theorem dX6_ways_59 : decode cX6_ways 59 = .ok (.getfield 28, 3) := by decide +kernel
theorem dX6_ways_62 : decode cX6_ways 62 = .ok (.iload_n 1, 1) := by decide +kernel
theorem dX6_ways_63 : decode cX6_ways 63 = .ok (.invokevirtual 232, 3) := by decide +kernel
theorem dX6_ways_66 : decode cX6_ways 66 = .ok (.aload_n 0, 1) := by decide +kernel
theorem dX6_ways_67 : decode cX6_ways 67 = .ok (.getfield 28, 3) := by decide +kernel
theorem dX6_ways_70 : decode cX6_ways 70 = .ok (.iload_n 1, 1) := by decide +kernel
theorem dX6_ways_71 : decode cX6_ways 71 = .ok (.invokevirtual 235, 3) := by decide +kernel
theorem dX6_ways_74 : decode cX6_ways 74 = .ok (.iadd, 1) := by decide +kernel
theorem dX6_ways_75 : decode cX6_ways 75 = .ok (.iconst 2, 1) := by decide +kernel
theorem dX6_ways_76 : decode cX6_ways 76 = .ok (.idiv, 1) := by decide +kernel
theorem dX6_ways_77 : decode cX6_ways 77 = .ok (.ireturn, 1) := by decide +kernel
theorem dX6_ways_78 : decode cX6_ways 78 = .ok (.bipush (-2), 2) := by decide +kernel
theorem dX6_ways_80 : decode cX6_ways 80 = .ok (.ireturn, 1) := by decide +kernel
set_option maxRecDepth 20000 in
theorem ggX6_longest_X4_lengthOf : GoodIn wsX6_longest wsX4_lengthOf := goodIn_r _ [6, 7, 8, 9, 10, 11, 12, 13, 22, 23] (by decide +kernel) (by decide +kernel)
set_option maxRecDepth 20000 in
theorem gX6_longest_X4_lengthOf : GoodIn wsX6_longest (wsV RX6 130 RX4 yX4_lengthOf wsX4_lengthOf) := goodIn_app (goodIn_of _ (by decide +kernel)) ggX6_longest_X4_lengthOf
theorem dX6_longest_0 : decode cX6_longest 0 = .ok (.bipush (-5), 2) := by decide +kernel
theorem dX6_longest_2 : decode cX6_longest 2 = .ok (.istore_n 1, 1) := by decide +kernel
theorem dX6_longest_3 : decode cX6_longest 3 = .ok (.iconst 0, 1) := by decide +kernel
theorem dX6_longest_4 : decode cX6_longest 4 = .ok (.istore_n 2, 1) := by decide +kernel
theorem dX6_longest_5 : decode cX6_longest 5 = .ok (.iconst 0, 1) := by decide +kernel
theorem dX6_longest_6 : decode cX6_longest 6 = .ok (.istore_n 3, 1) := by decide +kernel
theorem dX6_longest_7 : decode cX6_longest 7 = .ok (.iload_n 3, 1) := by decide +kernel
theorem dX6_longest_8 : decode cX6_longest 8 = .ok (.bipush 8, 2) := by decide +kernel
theorem dX6_longest_10 : decode cX6_longest 10 = .ok (.if_icmp .ge 32, 3) := by decide +kernel
theorem dX6_longest_13 : decode cX6_longest 13 = .ok (.aload_n 0, 1) := by decide +kernel
theorem dX6_longest_14 : decode cX6_longest 14 = .ok (.getfield 12, 3) := by decide +kernel
theorem dX6_longest_17 : decode cX6_longest 17 = .ok (.iload_n 3, 1) := by decide +kernel
theorem dX6_longest_18 : decode cX6_longest 18 = .ok (.invokevirtual 130, 3) := by decide +kernel
theorem dX6_longest_21 : decode cX6_longest 21 = .ok (.iload_n 2, 1) := by decide +kernel
theorem dX6_longest_22 : decode cX6_longest 22 = .ok (.if_icmp .le 14, 3) := by decide +kernel
theorem dX6_longest_25 : decode cX6_longest 25 = .ok (.aload_n 0, 1) := by decide +kernel
theorem dX6_longest_26 : decode cX6_longest 26 = .ok (.getfield 12, 3) := by decide +kernel
theorem dX6_longest_29 : decode cX6_longest 29 = .ok (.iload_n 3, 1) := by decide +kernel
theorem dX6_longest_30 : decode cX6_longest 30 = .ok (.invokevirtual 130, 3) := by decide +kernel
theorem dX6_longest_33 : decode cX6_longest 33 = .ok (.istore_n 2, 1) := by decide +kernel
theorem dX6_longest_34 : decode cX6_longest 34 = .ok (.iload_n 3, 1) := by decide +kernel
theorem dX6_longest_35 : decode cX6_longest 35 = .ok (.istore_n 1, 1) := by decide +kernel
theorem dX6_longest_36 : decode cX6_longest 36 = .ok (.iinc 3 1, 3) := by decide +kernel
theorem dX6_longest_39 : decode cX6_longest 39 = .ok (.goto (-32), 3) := by decide +kernel
theorem dX6_longest_42 : decode cX6_longest 42 = .ok (.iload_n 1, 1) := by decide +kernel
theorem dX6_longest_43 : decode cX6_longest 43 = .ok (.ireturn, 1) := by decide +kernel
set_option maxRecDepth 20000 in
theorem ggX6_count_X2_garlands : GoodIn wsX6_count wsX2_garlands := goodIn_r _ [9, 10, 11, 12, 13, 14, 15, 16, 17, 18, 19, 20, 21, 22, 23, 24, 25, 26, 27, 28, 29, 30, 31, 123, 124, 125] (by decide +kernel) (by decide +kernel)
set_option maxRecDepth 20000 in
theorem gX6_count_X2_garlands : GoodIn wsX6_count (wsV RX6 191 RX2 yX2_garlands wsX2_garlands) := goodIn_app (goodIn_of _ (by decide +kernel)) ggX6_count_X2_garlands
set_option maxRecDepth 20000 in
theorem ggX6_count_X2_dolls : GoodIn wsX6_count wsX2_dolls := goodIn_r _ [35, 10, 36, 20, 21, 14, 22, 23, 24, 25, 26, 27, 28, 29, 123, 124, 125] (by decide +kernel) (by decide +kernel)
set_option maxRecDepth 20000 in
theorem gX6_count_X2_dolls : GoodIn wsX6_count (wsV RX6 238 RX2 yX2_dolls wsX2_dolls) := goodIn_app (goodIn_of _ (by decide +kernel)) ggX6_count_X2_dolls
set_option maxRecDepth 20000 in
theorem ggX6_count_X2_mirroredDolls : GoodIn wsX6_count wsX2_mirroredDolls := goodIn_r _ [40, 41, 42, 43, 8, 44, 10, 36, 20, 21, 14, 22, 23, 24, 25, 26, 27, 28, 29, 45, 46, 47, 48, 49, 50, 51, 52, 53, 17, 54, 30, 31, 123, 124, 125] (by decide +kernel) (by decide +kernel)
set_option maxRecDepth 20000 in
theorem gX6_count_X2_mirroredDolls : GoodIn wsX6_count (wsV RX6 241 RX2 yX2_mirroredDolls wsX2_mirroredDolls) := goodIn_app (goodIn_of _ (by decide +kernel)) ggX6_count_X2_mirroredDolls
set_option maxRecDepth 20000 in
theorem ggX6_count_X2_ownMirrors : GoodIn wsX6_count wsX2_ownMirrors := goodIn_r _ [58, 10, 11, 12, 13, 14, 15, 16, 17, 18, 19, 20, 21, 22, 23, 24, 25, 26, 27, 28, 29, 59, 60, 61, 8, 62, 63, 64, 65, 66, 36, 45, 46, 47, 48, 49, 50, 51, 52, 67, 68, 30, 31, 123, 124, 125] (by decide +kernel) (by decide +kernel)
set_option maxRecDepth 20000 in
theorem gX6_count_X2_ownMirrors : GoodIn wsX6_count (wsV RX6 244 RX2 yX2_ownMirrors wsX2_ownMirrors) := goodIn_app (goodIn_of _ (by decide +kernel)) ggX6_count_X2_ownMirrors
set_option maxRecDepth 20000 in
theorem ggX6_count_X4_ruleNow : GoodIn wsX6_count wsX4_ruleNow := goodIn_r _ [72, 23, 24, 25, 26, 27, 28, 29, 124, 125] (by decide +kernel) (by decide +kernel)
set_option maxRecDepth 20000 in
theorem gX6_count_X4_ruleNow : GoodIn wsX6_count (wsV RX6 88 RX4 yX4_ruleNow wsX4_ruleNow) := goodIn_app (goodIn_of _ (by decide +kernel)) ggX6_count_X4_ruleNow
set_option maxRecDepth 20000 in
theorem ggX6_count_X4_kindsNow : GoodIn wsX6_count wsX4_kindsNow := goodIn_r _ [76, 23, 24, 25, 26, 27, 28, 29, 124, 125] (by decide +kernel) (by decide +kernel)
set_option maxRecDepth 20000 in
theorem gX6_count_X4_kindsNow : GoodIn wsX6_count (wsV RX6 98 RX4 yX4_kindsNow wsX4_kindsNow) := goodIn_app (goodIn_of _ (by decide +kernel)) ggX6_count_X4_kindsNow
set_option maxRecDepth 20000 in
theorem ggX6_count_X2_handsThatMeet : GoodIn wsX6_count wsX2_handsThatMeet := goodIn_r _ [80, 10, 36, 20, 21, 14, 22, 23, 24, 25, 26, 27, 28, 29, 45, 46, 47, 48, 49, 50, 51, 52, 81, 82, 83, 84, 53, 17, 54, 85, 86, 87, 88, 89, 90, 30, 31, 123, 124, 125] (by decide +kernel) (by decide +kernel)
set_option maxRecDepth 20000 in
theorem gX6_count_X2_handsThatMeet : GoodIn wsX6_count (wsV RX6 247 RX2 yX2_handsThatMeet wsX2_handsThatMeet) := goodIn_app (goodIn_of _ (by decide +kernel)) ggX6_count_X2_handsThatMeet
set_option maxRecDepth 20000 in
theorem ggX6_count_X2_differentGarlands : GoodIn wsX6_count wsX2_differentGarlands := goodIn_r _ [94, 10, 11, 12, 13, 14, 15, 16, 17, 18, 19, 20, 21, 22, 23, 24, 25, 26, 27, 28, 29, 95, 96, 97, 8, 98, 99, 100, 101, 102, 36, 45, 46, 47, 48, 49, 50, 51, 52, 63, 64, 65, 66, 67, 68, 30, 31, 123, 124, 125] (by decide +kernel) (by decide +kernel)
set_option maxRecDepth 20000 in
theorem gX6_count_X2_differentGarlands : GoodIn wsX6_count (wsV RX6 250 RX2 yX2_differentGarlands wsX2_differentGarlands) := goodIn_app (goodIn_of _ (by decide +kernel)) ggX6_count_X2_differentGarlands
set_option maxRecDepth 20000 in
theorem ggX6_count_X1_size : GoodIn wsX6_count wsX1_size := goodIn_r _ [107, 108, 126, 127, 128] (by decide +kernel) (by decide +kernel)
set_option maxRecDepth 20000 in
theorem gX6_count_X1_size : GoodIn wsX6_count (wsV RX6 181 RX1 yX1_size wsX1_size) := goodIn_app (goodIn_of _ (by decide +kernel)) ggX6_count_X1_size
set_option maxRecDepth 20000 in
theorem ggX6_count_X5_size : GoodIn wsX6_count wsX5_size := goodIn_r _ [113, 114, 129, 130] (by decide +kernel) (by decide +kernel)
set_option maxRecDepth 20000 in
theorem gX6_count_X5_size : GoodIn wsX6_count (wsV RX6 253 RX5 yX5_size wsX5_size) := goodIn_app (goodIn_of _ (by decide +kernel)) ggX6_count_X5_size
theorem dX6_count_0 : decode cX6_count 0 = .ok (.iload_n 1, 1) := by decide +kernel
theorem dX6_count_1 : decode cX6_count 1 = .ok (.tableswitch 135 0 9 #[55, 63, 71, 79, 87, 95, 103, 111, 119, 127], 55) := by decide +kernel
theorem dX6_count_56 : decode cX6_count 56 = .ok (.aload_n 0, 1) := by decide +kernel
theorem dX6_count_57 : decode cX6_count 57 = .ok (.getfield 21, 3) := by decide +kernel
theorem dX6_count_60 : decode cX6_count 60 = .ok (.invokevirtual 191, 3) := by decide +kernel
theorem dX6_count_63 : decode cX6_count 63 = .ok (.ireturn, 1) := by decide +kernel
theorem dX6_count_64 : decode cX6_count 64 = .ok (.aload_n 0, 1) := by decide +kernel
theorem dX6_count_65 : decode cX6_count 65 = .ok (.getfield 21, 3) := by decide +kernel
theorem dX6_count_68 : decode cX6_count 68 = .ok (.invokevirtual 238, 3) := by decide +kernel
theorem dX6_count_71 : decode cX6_count 71 = .ok (.ireturn, 1) := by decide +kernel
theorem dX6_count_72 : decode cX6_count 72 = .ok (.aload_n 0, 1) := by decide +kernel
theorem dX6_count_73 : decode cX6_count 73 = .ok (.getfield 21, 3) := by decide +kernel
theorem dX6_count_76 : decode cX6_count 76 = .ok (.invokevirtual 241, 3) := by decide +kernel
theorem dX6_count_79 : decode cX6_count 79 = .ok (.ireturn, 1) := by decide +kernel
theorem dX6_count_80 : decode cX6_count 80 = .ok (.aload_n 0, 1) := by decide +kernel
theorem dX6_count_81 : decode cX6_count 81 = .ok (.getfield 21, 3) := by decide +kernel
theorem dX6_count_84 : decode cX6_count 84 = .ok (.invokevirtual 244, 3) := by decide +kernel
theorem dX6_count_87 : decode cX6_count 87 = .ok (.ireturn, 1) := by decide +kernel
theorem dX6_count_88 : decode cX6_count 88 = .ok (.aload_n 0, 1) := by decide +kernel
theorem dX6_count_89 : decode cX6_count 89 = .ok (.getfield 12, 3) := by decide +kernel
theorem dX6_count_92 : decode cX6_count 92 = .ok (.invokevirtual 88, 3) := by decide +kernel
theorem dX6_count_95 : decode cX6_count 95 = .ok (.ireturn, 1) := by decide +kernel
theorem dX6_count_96 : decode cX6_count 96 = .ok (.aload_n 0, 1) := by decide +kernel
theorem dX6_count_97 : decode cX6_count 97 = .ok (.getfield 12, 3) := by decide +kernel
theorem dX6_count_100 : decode cX6_count 100 = .ok (.invokevirtual 98, 3) := by decide +kernel
theorem dX6_count_103 : decode cX6_count 103 = .ok (.ireturn, 1) := by decide +kernel
theorem dX6_count_104 : decode cX6_count 104 = .ok (.aload_n 0, 1) := by decide +kernel
theorem dX6_count_105 : decode cX6_count 105 = .ok (.getfield 21, 3) := by decide +kernel
theorem dX6_count_108 : decode cX6_count 108 = .ok (.invokevirtual 247, 3) := by decide +kernel
theorem dX6_count_111 : decode cX6_count 111 = .ok (.ireturn, 1) := by decide +kernel
theorem dX6_count_112 : decode cX6_count 112 = .ok (.aload_n 0, 1) := by decide +kernel
theorem dX6_count_113 : decode cX6_count 113 = .ok (.getfield 21, 3) := by decide +kernel
theorem dX6_count_116 : decode cX6_count 116 = .ok (.invokevirtual 250, 3) := by decide +kernel
theorem dX6_count_119 : decode cX6_count 119 = .ok (.ireturn, 1) := by decide +kernel
theorem dX6_count_120 : decode cX6_count 120 = .ok (.aload_n 0, 1) := by decide +kernel
theorem dX6_count_121 : decode cX6_count 121 = .ok (.getfield 35, 3) := by decide +kernel
theorem dX6_count_124 : decode cX6_count 124 = .ok (.invokevirtual 181, 3) := by decide +kernel
theorem dX6_count_127 : decode cX6_count 127 = .ok (.ireturn, 1) := by decide +kernel
theorem dX6_count_128 : decode cX6_count 128 = .ok (.aload_n 0, 1) := by decide +kernel
theorem dX6_count_129 : decode cX6_count 129 = .ok (.getfield 42, 3) := by decide +kernel
theorem dX6_count_132 : decode cX6_count 132 = .ok (.invokevirtual 253, 3) := by decide +kernel
theorem dX6_count_135 : decode cX6_count 135 = .ok (.ireturn, 1) := by decide +kernel
theorem dX6_count_136 : decode cX6_count 136 = .ok (.bipush (-2), 2) := by decide +kernel
theorem dX6_count_138 : decode cX6_count 138 = .ok (.ireturn, 1) := by decide +kernel
theorem dX6_isBelow_0 : decode cX6_isBelow 0 = .ok (.iload_n 0, 1) := by decide +kernel
theorem dX6_isBelow_1 : decode cX6_isBelow 1 = .ok (.ifCond .lt 12, 3) := by decide +kernel
theorem dX6_isBelow_4 : decode cX6_isBelow 4 = .ok (.iload_n 0, 1) := by decide +kernel
theorem dX6_isBelow_5 : decode cX6_isBelow 5 = .ok (.iload_n 1, 1) := by decide +kernel
theorem dX6_isBelow_6 : decode cX6_isBelow 6 = .ok (.if_icmp .ge 7, 3) := by decide +kernel
theorem dX6_isBelow_9 : decode cX6_isBelow 9 = .ok (.iconst 1, 1) := by decide +kernel
theorem dX6_isBelow_10 : decode cX6_isBelow 10 = .ok (.goto 4, 3) := by decide +kernel
theorem dX6_isBelow_13 : decode cX6_isBelow 13 = .ok (.iconst 0, 1) := by decide +kernel
theorem dX6_isBelow_14 : decode cX6_isBelow 14 = .ok (.ireturn, 1) := by decide +kernel
theorem dX6_oneIf_0 : decode cX6_oneIf 0 = .ok (.iload_n 0, 1) := by decide +kernel
theorem dX6_oneIf_1 : decode cX6_oneIf 1 = .ok (.ifCond .eq 7, 3) := by decide +kernel
theorem dX6_oneIf_4 : decode cX6_oneIf 4 = .ok (.iconst 1, 1) := by decide +kernel
theorem dX6_oneIf_5 : decode cX6_oneIf 5 = .ok (.goto 4, 3) := by decide +kernel
theorem dX6_oneIf_8 : decode cX6_oneIf 8 = .ok (.iconst 0, 1) := by decide +kernel
theorem dX6_oneIf_9 : decode cX6_oneIf 9 = .ok (.ireturn, 1) := by decide +kernel
set_option maxRecDepth 20000 in
theorem ggX6_dollOf_X6_oneIf : GoodIn wsX6_dollOf wsX6_oneIf := goodIn_r _ [4] (by decide +kernel) (by decide +kernel)
set_option maxRecDepth 20000 in
theorem gX6_dollOf_X6_oneIf : GoodIn wsX6_dollOf (va_wsS RX6 200 yX6_oneIf wsX6_oneIf) := goodIn_app (goodIn_of _ (by decide +kernel)) ggX6_dollOf_X6_oneIf
theorem dX6_dollOf_0 : decode cX6_dollOf 0 = .ok (.iconst 2, 1) := by decide +kernel
theorem dX6_dollOf_1 : decode cX6_dollOf 1 = .ok (.iload_n 0, 1) := by decide +kernel
theorem dX6_dollOf_2 : decode cX6_dollOf 2 = .ok (.imul, 1) := by decide +kernel
theorem dX6_dollOf_3 : decode cX6_dollOf 3 = .ok (.iload_n 1, 1) := by decide +kernel
theorem dX6_dollOf_4 : decode cX6_dollOf 4 = .ok (.invokestatic 200, 3) := by decide +kernel
theorem dX6_dollOf_7 : decode cX6_dollOf 7 = .ok (.iadd, 1) := by decide +kernel
theorem dX6_dollOf_8 : decode cX6_dollOf 8 = .ok (.ireturn, 1) := by decide +kernel
theorem dX6_kindOf_0 : decode cX6_kindOf 0 = .ok (.iload_n 0, 1) := by decide +kernel
theorem dX6_kindOf_1 : decode cX6_kindOf 1 = .ok (.iconst 1, 1) := by decide +kernel
theorem dX6_kindOf_2 : decode cX6_kindOf 2 = .ok (.ishr, 1) := by decide +kernel
theorem dX6_kindOf_3 : decode cX6_kindOf 3 = .ok (.ireturn, 1) := by decide +kernel
theorem dX6_isMirrored_0 : decode cX6_isMirrored 0 = .ok (.iload_n 0, 1) := by decide +kernel
theorem dX6_isMirrored_1 : decode cX6_isMirrored 1 = .ok (.iconst 1, 1) := by decide +kernel
theorem dX6_isMirrored_2 : decode cX6_isMirrored 2 = .ok (.iand, 1) := by decide +kernel
theorem dX6_isMirrored_3 : decode cX6_isMirrored 3 = .ok (.iconst 1, 1) := by decide +kernel
theorem dX6_isMirrored_4 : decode cX6_isMirrored 4 = .ok (.if_icmp .ne 7, 3) := by decide +kernel
theorem dX6_isMirrored_7 : decode cX6_isMirrored 7 = .ok (.iconst 1, 1) := by decide +kernel
theorem dX6_isMirrored_8 : decode cX6_isMirrored 8 = .ok (.goto 4, 3) := by decide +kernel
theorem dX6_isMirrored_11 : decode cX6_isMirrored 11 = .ok (.iconst 0, 1) := by decide +kernel
theorem dX6_isMirrored_12 : decode cX6_isMirrored 12 = .ok (.ireturn, 1) := by decide +kernel
theorem dX6_mirrorOf_0 : decode cX6_mirrorOf 0 = .ok (.iload_n 0, 1) := by decide +kernel
theorem dX6_mirrorOf_1 : decode cX6_mirrorOf 1 = .ok (.iconst 1, 1) := by decide +kernel
theorem dX6_mirrorOf_2 : decode cX6_mirrorOf 2 = .ok (.ixor, 1) := by decide +kernel
theorem dX6_mirrorOf_3 : decode cX6_mirrorOf 3 = .ok (.ireturn, 1) := by decide +kernel
