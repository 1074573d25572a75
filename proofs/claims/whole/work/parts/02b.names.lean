set_option maxRecDepth 20000 in
theorem ggX0_init_X3_init : GoodIn wsX0_init wsX3_init := goodIn_r _ [13, 14, 2, 3, 15, 16, 21] (by decide +kernel) (by decide +kernel)
set_option maxRecDepth 20000 in
theorem gX0_init_X3_init : GoodIn wsX0_init (wsX3_init) := ggX0_init_X3_init
theorem dX0_init_0 : decode cX0_init 0 = .ok (.aload_n 0, 1) := by decide +kernel
theorem dX0_init_1 : decode cX0_init 1 = .ok (.invokespecial 3, 3) := by decide +kernel
theorem dX0_init_4 : decode cX0_init 4 = .ok (.aload_n 0, 1) := by decide +kernel
theorem dX0_init_5 : decode cX0_init 5 = .ok (.aload_n 1, 1) := by decide +kernel
theorem dX0_init_6 : decode cX0_init 6 = .ok (.putfield 9, 3) := by decide +kernel
theorem dX0_init_9 : decode cX0_init 9 = .ok (.aload_n 0, 1) := by decide +kernel
theorem dX0_init_10 : decode cX0_init 10 = .ok (.new 15, 3) := by decide +kernel
theorem dX0_init_13 : decode cX0_init 13 = .ok (.dup, 1) := by decide +kernel
theorem dX0_init_14 : decode cX0_init 14 = .ok (.bipush 20, 2) := by decide +kernel
theorem dX0_init_16 : decode cX0_init 16 = .ok (.invokespecial 17, 3) := by decide +kernel
theorem dX0_init_19 : decode cX0_init 19 = .ok (.putfield 20, 3) := by decide +kernel
theorem dX0_init_22 : decode cX0_init 22 = .ok (.aload_n 0, 1) := by decide +kernel
theorem dX0_init_23 : decode cX0_init 23 = .ok (.new 15, 3) := by decide +kernel
theorem dX0_init_26 : decode cX0_init 26 = .ok (.dup, 1) := by decide +kernel
theorem dX0_init_27 : decode cX0_init 27 = .ok (.bipush 20, 2) := by decide +kernel
theorem dX0_init_29 : decode cX0_init 29 = .ok (.invokespecial 17, 3) := by decide +kernel
theorem dX0_init_32 : decode cX0_init 32 = .ok (.putfield 24, 3) := by decide +kernel
theorem dX0_init_35 : decode cX0_init 35 = .ok (.aload_n 0, 1) := by decide +kernel
theorem dX0_init_36 : decode cX0_init 36 = .ok (.new 15, 3) := by decide +kernel
theorem dX0_init_39 : decode cX0_init 39 = .ok (.dup, 1) := by decide +kernel
theorem dX0_init_40 : decode cX0_init 40 = .ok (.bipush 20, 2) := by decide +kernel
theorem dX0_init_42 : decode cX0_init 42 = .ok (.invokespecial 17, 3) := by decide +kernel
theorem dX0_init_45 : decode cX0_init 45 = .ok (.putfield 27, 3) := by decide +kernel
theorem dX0_init_48 : decode cX0_init 48 = .ok (.return_, 1) := by decide +kernel
theorem dX0_holds_0 : decode cX0_holds 0 = .ok (.iload_n 0, 1) := by decide +kernel
theorem dX0_holds_1 : decode cX0_holds 1 = .ok (.iload_n 1, 1) := by decide +kernel
theorem dX0_holds_2 : decode cX0_holds 2 = .ok (.ishr, 1) := by decide +kernel
theorem dX0_holds_3 : decode cX0_holds 3 = .ok (.iconst 1, 1) := by decide +kernel
theorem dX0_holds_4 : decode cX0_holds 4 = .ok (.iand, 1) := by decide +kernel
theorem dX0_holds_5 : decode cX0_holds 5 = .ok (.iconst 1, 1) := by decide +kernel
theorem dX0_holds_6 : decode cX0_holds 6 = .ok (.if_icmp .ne 7, 3) := by decide +kernel
theorem dX0_holds_9 : decode cX0_holds 9 = .ok (.iconst 1, 1) := by decide +kernel
theorem dX0_holds_10 : decode cX0_holds 10 = .ok (.goto 4, 3) := by decide +kernel
theorem dX0_holds_13 : decode cX0_holds 13 = .ok (.iconst 0, 1) := by decide +kernel
theorem dX0_holds_14 : decode cX0_holds 14 = .ok (.ireturn, 1) := by decide +kernel
set_option maxRecDepth 20000 in
theorem ggX0_followersOf_X4_dollsToCut : GoodIn wsX0_followersOf wsX4_dollsToCut := goodIn_r _ [6, 7, 8, 9, 5, 10, 11, 12, 13, 14, 15, 16, 17, 43, 44] (by decide +kernel) (by decide +kernel)
set_option maxRecDepth 20000 in
theorem gX0_followersOf_X4_dollsToCut : GoodIn wsX0_followersOf (wsV RX0 30 RX4 yX4_dollsToCut wsX4_dollsToCut) := goodIn_app (goodIn_of _ (by decide +kernel)) ggX0_followersOf_X4_dollsToCut
set_option maxRecDepth 20000 in
theorem ggX0_followersOf_X4_clash : GoodIn wsX0_followersOf wsX4_clash := goodIn_r _ [21, 22, 23, 24, 5, 25, 11, 26, 27, 28, 29, 30, 12, 13, 14, 15, 16, 17, 31, 32, 33, 34, 35, 36, 37, 38, 43, 44] (by decide +kernel) (by decide +kernel)
set_option maxRecDepth 20000 in
theorem gX0_followersOf_X4_clash : GoodIn wsX0_followersOf (wsV RX0 36 RX4 yX4_clash wsX4_clash) := goodIn_app (goodIn_of _ (by decide +kernel)) ggX0_followersOf_X4_clash
theorem dX0_followersOf_0 : decode cX0_followersOf 0 = .ok (.aload_n 0, 1) := by decide +kernel
theorem dX0_followersOf_1 : decode cX0_followersOf 1 = .ok (.getfield 9, 3) := by decide +kernel
theorem dX0_followersOf_4 : decode cX0_followersOf 4 = .ok (.invokevirtual 30, 3) := by decide +kernel
theorem dX0_followersOf_7 : decode cX0_followersOf 7 = .ok (.istore_n 2, 1) := by decide +kernel
theorem dX0_followersOf_8 : decode cX0_followersOf 8 = .ok (.iconst 0, 1) := by decide +kernel
theorem dX0_followersOf_9 : decode cX0_followersOf 9 = .ok (.istore_n 3, 1) := by decide +kernel
theorem dX0_followersOf_10 : decode cX0_followersOf 10 = .ok (.iconst 0, 1) := by decide +kernel
theorem dX0_followersOf_11 : decode cX0_followersOf 11 = .ok (.istore 4, 2) := by decide +kernel
theorem dX0_followersOf_13 : decode cX0_followersOf 13 = .ok (.iload 4, 2) := by decide +kernel
theorem dX0_followersOf_15 : decode cX0_followersOf 15 = .ok (.iload_n 2, 1) := by decide +kernel
theorem dX0_followersOf_16 : decode cX0_followersOf 16 = .ok (.if_icmp .ge 29, 3) := by decide +kernel
theorem dX0_followersOf_19 : decode cX0_followersOf 19 = .ok (.aload_n 0, 1) := by decide +kernel
theorem dX0_followersOf_20 : decode cX0_followersOf 20 = .ok (.getfield 9, 3) := by decide +kernel
theorem dX0_followersOf_23 : decode cX0_followersOf 23 = .ok (.iload_n 1, 1) := by decide +kernel
theorem dX0_followersOf_24 : decode cX0_followersOf 24 = .ok (.iload 4, 2) := by decide +kernel
theorem dX0_followersOf_26 : decode cX0_followersOf 26 = .ok (.invokevirtual 36, 3) := by decide +kernel
theorem dX0_followersOf_29 : decode cX0_followersOf 29 = .ok (.ifCond .ne 10, 3) := by decide +kernel
theorem dX0_followersOf_32 : decode cX0_followersOf 32 = .ok (.iload_n 3, 1) := by decide +kernel
theorem dX0_followersOf_33 : decode cX0_followersOf 33 = .ok (.iconst 1, 1) := by decide +kernel
theorem dX0_followersOf_34 : decode cX0_followersOf 34 = .ok (.iload 4, 2) := by decide +kernel
theorem dX0_followersOf_36 : decode cX0_followersOf 36 = .ok (.ishl, 1) := by decide +kernel
theorem dX0_followersOf_37 : decode cX0_followersOf 37 = .ok (.ior, 1) := by decide +kernel
theorem dX0_followersOf_38 : decode cX0_followersOf 38 = .ok (.istore_n 3, 1) := by decide +kernel
theorem dX0_followersOf_39 : decode cX0_followersOf 39 = .ok (.iinc 4 1, 3) := by decide +kernel
theorem dX0_followersOf_42 : decode cX0_followersOf 42 = .ok (.goto (-29), 3) := by decide +kernel
theorem dX0_followersOf_45 : decode cX0_followersOf 45 = .ok (.iload_n 3, 1) := by decide +kernel
theorem dX0_followersOf_46 : decode cX0_followersOf 46 = .ok (.ireturn, 1) := by decide +kernel
set_option maxRecDepth 20000 in
theorem ggX0_leadersOf_X4_dollsToCut : GoodIn wsX0_leadersOf wsX4_dollsToCut := goodIn_r _ [6, 7, 8, 9, 5, 10, 11, 12, 13, 14, 15, 16, 17, 43, 44] (by decide +kernel) (by decide +kernel)
set_option maxRecDepth 20000 in
theorem gX0_leadersOf_X4_dollsToCut : GoodIn wsX0_leadersOf (wsV RX0 30 RX4 yX4_dollsToCut wsX4_dollsToCut) := goodIn_app (goodIn_of _ (by decide +kernel)) ggX0_leadersOf_X4_dollsToCut
set_option maxRecDepth 20000 in
theorem ggX0_leadersOf_X4_clash : GoodIn wsX0_leadersOf wsX4_clash := goodIn_r _ [21, 22, 23, 24, 5, 25, 11, 26, 27, 28, 29, 30, 12, 13, 14, 15, 16, 17, 31, 32, 33, 34, 35, 36, 37, 38, 43, 44] (by decide +kernel) (by decide +kernel)
set_option maxRecDepth 20000 in
theorem gX0_leadersOf_X4_clash : GoodIn wsX0_leadersOf (wsV RX0 36 RX4 yX4_clash wsX4_clash) := goodIn_app (goodIn_of _ (by decide +kernel)) ggX0_leadersOf_X4_clash
theorem dX0_leadersOf_0 : decode cX0_leadersOf 0 = .ok (.aload_n 0, 1) := by decide +kernel
theorem dX0_leadersOf_1 : decode cX0_leadersOf 1 = .ok (.getfield 9, 3) := by decide +kernel
theorem dX0_leadersOf_4 : decode cX0_leadersOf 4 = .ok (.invokevirtual 30, 3) := by decide +kernel
theorem dX0_leadersOf_7 : decode cX0_leadersOf 7 = .ok (.istore_n 2, 1) := by decide +kernel
theorem dX0_leadersOf_8 : decode cX0_leadersOf 8 = .ok (.iconst 0, 1) := by decide +kernel
theorem dX0_leadersOf_9 : decode cX0_leadersOf 9 = .ok (.istore_n 3, 1) := by decide +kernel
theorem dX0_leadersOf_10 : decode cX0_leadersOf 10 = .ok (.iconst 0, 1) := by decide +kernel
theorem dX0_leadersOf_11 : decode cX0_leadersOf 11 = .ok (.istore 4, 2) := by decide +kernel
theorem dX0_leadersOf_13 : decode cX0_leadersOf 13 = .ok (.iload 4, 2) := by decide +kernel
theorem dX0_leadersOf_15 : decode cX0_leadersOf 15 = .ok (.iload_n 2, 1) := by decide +kernel
theorem dX0_leadersOf_16 : decode cX0_leadersOf 16 = .ok (.if_icmp .ge 29, 3) := by decide +kernel
theorem dX0_leadersOf_19 : decode cX0_leadersOf 19 = .ok (.aload_n 0, 1) := by decide +kernel
theorem dX0_leadersOf_20 : decode cX0_leadersOf 20 = .ok (.getfield 9, 3) := by decide +kernel
theorem dX0_leadersOf_23 : decode cX0_leadersOf 23 = .ok (.iload 4, 2) := by decide +kernel
theorem dX0_leadersOf_25 : decode cX0_leadersOf 25 = .ok (.iload_n 1, 1) := by decide +kernel
theorem dX0_leadersOf_26 : decode cX0_leadersOf 26 = .ok (.invokevirtual 36, 3) := by decide +kernel
theorem dX0_leadersOf_29 : decode cX0_leadersOf 29 = .ok (.ifCond .ne 10, 3) := by decide +kernel
theorem dX0_leadersOf_32 : decode cX0_leadersOf 32 = .ok (.iload_n 3, 1) := by decide +kernel
theorem dX0_leadersOf_33 : decode cX0_leadersOf 33 = .ok (.iconst 1, 1) := by decide +kernel
theorem dX0_leadersOf_34 : decode cX0_leadersOf 34 = .ok (.iload 4, 2) := by decide +kernel
theorem dX0_leadersOf_36 : decode cX0_leadersOf 36 = .ok (.ishl, 1) := by decide +kernel
theorem dX0_leadersOf_37 : decode cX0_leadersOf 37 = .ok (.ior, 1) := by decide +kernel
theorem dX0_leadersOf_38 : decode cX0_leadersOf 38 = .ok (.istore_n 3, 1) := by decide +kernel
theorem dX0_leadersOf_39 : decode cX0_leadersOf 39 = .ok (.iinc 4 1, 3) := by decide +kernel
theorem dX0_leadersOf_42 : decode cX0_leadersOf 42 = .ok (.goto (-29), 3) := by decide +kernel
theorem dX0_leadersOf_45 : decode cX0_leadersOf 45 = .ok (.iload_n 3, 1) := by decide +kernel
theorem dX0_leadersOf_46 : decode cX0_leadersOf 46 = .ok (.ireturn, 1) := by decide +kernel
set_option maxRecDepth 20000 in
theorem ggX0_followersOfAny_X4_dollsToCut : GoodIn wsX0_followersOfAny wsX4_dollsToCut := goodIn_r _ [6, 7, 8, 9, 5, 10, 11, 12, 13, 14, 15, 16, 17, 51, 52] (by decide +kernel) (by decide +kernel)
set_option maxRecDepth 20000 in
theorem gX0_followersOfAny_X4_dollsToCut : GoodIn wsX0_followersOfAny (wsV RX0 30 RX4 yX4_dollsToCut wsX4_dollsToCut) := goodIn_app (goodIn_of _ (by decide +kernel)) ggX0_followersOfAny_X4_dollsToCut
set_option maxRecDepth 20000 in
theorem ggX0_followersOfAny_X0_holds : GoodIn wsX0_followersOfAny wsX0_holds := goodIn_r _ [21] (by decide +kernel) (by decide +kernel)
set_option maxRecDepth 20000 in
theorem gX0_followersOfAny_X0_holds : GoodIn wsX0_followersOfAny (va_wsS RX0 40 yX0_holds wsX0_holds) := goodIn_app (goodIn_of _ (by decide +kernel)) ggX0_followersOfAny_X0_holds
set_option maxRecDepth 20000 in
theorem ggX0_followersOfAny_X0_followersOf : GoodIn wsX0_followersOfAny wsX0_followersOf := goodIn_r _ [25, 1, 2, 3, 4, 5, 6, 7, 8, 9, 10, 11, 12, 13, 14, 15, 16, 17, 26, 27, 28, 29, 30, 31, 32, 33, 34, 35, 36, 37, 38, 39, 40, 41, 42, 43, 44, 45, 46, 47, 48, 49, 50, 51, 52] (by decide +kernel) (by decide +kernel)
set_option maxRecDepth 20000 in
theorem gX0_followersOfAny_X0_followersOf : GoodIn wsX0_followersOfAny (wsV RX0 43 RX0 yX0_followersOf wsX0_followersOf) := goodIn_app (goodIn_of _ (by decide +kernel)) ggX0_followersOfAny_X0_followersOf
theorem dX0_followersOfAny_0 : decode cX0_followersOfAny 0 = .ok (.aload_n 0, 1) := by decide +kernel
theorem dX0_followersOfAny_1 : decode cX0_followersOfAny 1 = .ok (.getfield 9, 3) := by decide +kernel
theorem dX0_followersOfAny_4 : decode cX0_followersOfAny 4 = .ok (.invokevirtual 30, 3) := by decide +kernel
theorem dX0_followersOfAny_7 : decode cX0_followersOfAny 7 = .ok (.istore_n 2, 1) := by decide +kernel
theorem dX0_followersOfAny_8 : decode cX0_followersOfAny 8 = .ok (.iconst 0, 1) := by decide +kernel
theorem dX0_followersOfAny_9 : decode cX0_followersOfAny 9 = .ok (.istore_n 3, 1) := by decide +kernel
theorem dX0_followersOfAny_10 : decode cX0_followersOfAny 10 = .ok (.iconst 0, 1) := by decide +kernel
theorem dX0_followersOfAny_11 : decode cX0_followersOfAny 11 = .ok (.istore 4, 2) := by decide +kernel
theorem dX0_followersOfAny_13 : decode cX0_followersOfAny 13 = .ok (.iload 4, 2) := by decide +kernel
theorem dX0_followersOfAny_15 : decode cX0_followersOfAny 15 = .ok (.iload_n 2, 1) := by decide +kernel
theorem dX0_followersOfAny_16 : decode cX0_followersOfAny 16 = .ok (.if_icmp .ge 27, 3) := by decide +kernel
theorem dX0_followersOfAny_19 : decode cX0_followersOfAny 19 = .ok (.iload_n 1, 1) := by decide +kernel
theorem dX0_followersOfAny_20 : decode cX0_followersOfAny 20 = .ok (.iload 4, 2) := by decide +kernel
theorem dX0_followersOfAny_22 : decode cX0_followersOfAny 22 = .ok (.invokestatic 40, 3) := by decide +kernel
theorem dX0_followersOfAny_25 : decode cX0_followersOfAny 25 = .ok (.ifCond .eq 12, 3) := by decide +kernel
theorem dX0_followersOfAny_28 : decode cX0_followersOfAny 28 = .ok (.iload_n 3, 1) := by decide +kernel
theorem dX0_followersOfAny_29 : decode cX0_followersOfAny 29 = .ok (.aload_n 0, 1) := by decide +kernel
theorem dX0_followersOfAny_30 : decode cX0_followersOfAny 30 = .ok (.iload 4, 2) := by decide +kernel
theorem dX0_followersOfAny_32 : decode cX0_followersOfAny 32 = .ok (.invokevirtual 43, 3) := by decide +kernel
theorem dX0_followersOfAny_35 : decode cX0_followersOfAny 35 = .ok (.ior, 1) := by decide +kernel
theorem dX0_followersOfAny_36 : decode cX0_followersOfAny 36 = .ok (.istore_n 3, 1) := by decide +kernel
theorem dX0_followersOfAny_37 : decode cX0_followersOfAny 37 = .ok (.iinc 4 1, 3) := by decide +kernel
theorem dX0_followersOfAny_40 : decode cX0_followersOfAny 40 = .ok (.goto (-27), 3) := by decide +kernel
theorem dX0_followersOfAny_43 : decode cX0_followersOfAny 43 = .ok (.iload_n 3, 1) := by decide +kernel
theorem dX0_followersOfAny_44 : decode cX0_followersOfAny 44 = .ok (.ireturn, 1) := by decide +kernel
set_option maxRecDepth 20000 in
theorem ggX0_fewestBetween_X4_clash : GoodIn wsX0_fewestBetween wsX4_clash := goodIn_r _ [6, 7, 8, 9, 5, 10, 11, 12, 13, 14, 15, 16, 17, 18, 19, 20, 21, 22, 23, 24, 25, 26, 27, 28, 29, 30, 59, 60] (by decide +kernel) (by decide +kernel)
set_option maxRecDepth 20000 in
theorem gX0_fewestBetween_X4_clash : GoodIn wsX0_fewestBetween (wsV RX0 36 RX4 yX4_clash wsX4_clash) := goodIn_app (goodIn_of _ (by decide +kernel)) ggX0_fewestBetween_X4_clash
set_option maxRecDepth 20000 in
theorem ggX0_fewestBetween_X0_leadersOf : GoodIn wsX0_fewestBetween wsX0_leadersOf := goodIn_r _ [35, 1, 36, 37, 38, 5, 39, 40, 41, 42, 43, 11, 17, 18, 19, 20, 21, 22, 2, 3, 4, 6, 7, 8, 9, 10, 12, 13, 14, 15, 16, 23, 24, 25, 26, 27, 28, 29, 30, 55, 56, 57, 58, 59, 60] (by decide +kernel) (by decide +kernel)
set_option maxRecDepth 20000 in
theorem gX0_fewestBetween_X0_leadersOf : GoodIn wsX0_fewestBetween (wsV RX0 47 RX0 yX0_leadersOf wsX0_leadersOf) := goodIn_app (goodIn_of _ (by decide +kernel)) ggX0_fewestBetween_X0_leadersOf
set_option maxRecDepth 20000 in
theorem ggX0_fewestBetween_X0_followersOf : GoodIn wsX0_fewestBetween wsX0_followersOf := goodIn_r _ [47, 1, 36, 37, 38, 5, 39, 40, 41, 42, 43, 11, 17, 18, 19, 20, 21, 22, 2, 3, 4, 6, 7, 8, 9, 10, 12, 13, 14, 15, 16, 23, 24, 25, 26, 27, 28, 29, 30, 55, 56, 57, 58, 59, 60] (by decide +kernel) (by decide +kernel)
set_option maxRecDepth 20000 in
theorem gX0_fewestBetween_X0_followersOf : GoodIn wsX0_fewestBetween (wsV RX0 43 RX0 yX0_followersOf wsX0_followersOf) := goodIn_app (goodIn_of _ (by decide +kernel)) ggX0_fewestBetween_X0_followersOf
set_option maxRecDepth 20000 in
theorem ggX0_fewestBetween_X0_followersOfAny : GoodIn wsX0_fewestBetween wsX0_followersOfAny := goodIn_r _ [51, 1, 36, 37, 38, 5, 39, 40, 41, 42, 43, 11, 17, 18, 19, 20, 21, 22, 52, 53, 34, 54, 44, 45, 46, 47, 2, 3, 4, 6, 7, 8, 9, 10, 12, 13, 14, 15, 16, 23, 24, 25, 26, 27, 28, 29, 30, 55, 56, 57, 58, 59, 60] (by decide +kernel) (by decide +kernel)
set_option maxRecDepth 20000 in
theorem gX0_fewestBetween_X0_followersOfAny : GoodIn wsX0_fewestBetween (wsV RX0 50 RX0 yX0_followersOfAny wsX0_followersOfAny) := goodIn_app (goodIn_of _ (by decide +kernel)) ggX0_fewestBetween_X0_followersOfAny
theorem dX0_fewestBetween_0 : decode cX0_fewestBetween 0 = .ok (.aload_n 0, 1) := by decide +kernel
theorem dX0_fewestBetween_1 : decode cX0_fewestBetween 1 = .ok (.getfield 9, 3) := by decide +kernel
theorem dX0_fewestBetween_4 : decode cX0_fewestBetween 4 = .ok (.iload_n 1, 1) := by decide +kernel
theorem dX0_fewestBetween_5 : decode cX0_fewestBetween 5 = .ok (.iload_n 2, 1) := by decide +kernel
theorem dX0_fewestBetween_6 : decode cX0_fewestBetween 6 = .ok (.invokevirtual 36, 3) := by decide +kernel
theorem dX0_fewestBetween_9 : decode cX0_fewestBetween 9 = .ok (.ifCond .ne 5, 3) := by decide +kernel
theorem dX0_fewestBetween_12 : decode cX0_fewestBetween 12 = .ok (.iconst 0, 1) := by decide +kernel
theorem dX0_fewestBetween_13 : decode cX0_fewestBetween 13 = .ok (.ireturn, 1) := by decide +kernel
theorem dX0_fewestBetween_14 : decode cX0_fewestBetween 14 = .ok (.aload_n 0, 1) := by decide +kernel
theorem dX0_fewestBetween_15 : decode cX0_fewestBetween 15 = .ok (.iload_n 2, 1) := by decide +kernel
theorem dX0_fewestBetween_16 : decode cX0_fewestBetween 16 = .ok (.invokevirtual 47, 3) := by decide +kernel
theorem dX0_fewestBetween_19 : decode cX0_fewestBetween 19 = .ok (.istore_n 3, 1) := by decide +kernel
theorem dX0_fewestBetween_20 : decode cX0_fewestBetween 20 = .ok (.aload_n 0, 1) := by decide +kernel
theorem dX0_fewestBetween_21 : decode cX0_fewestBetween 21 = .ok (.iload_n 1, 1) := by decide +kernel
theorem dX0_fewestBetween_22 : decode cX0_fewestBetween 22 = .ok (.invokevirtual 43, 3) := by decide +kernel
theorem dX0_fewestBetween_25 : decode cX0_fewestBetween 25 = .ok (.istore 4, 2) := by decide +kernel
theorem dX0_fewestBetween_27 : decode cX0_fewestBetween 27 = .ok (.iload 4, 2) := by decide +kernel
theorem dX0_fewestBetween_29 : decode cX0_fewestBetween 29 = .ok (.istore 5, 2) := by decide +kernel
theorem dX0_fewestBetween_31 : decode cX0_fewestBetween 31 = .ok (.iconst 1, 1) := by decide +kernel
theorem dX0_fewestBetween_32 : decode cX0_fewestBetween 32 = .ok (.istore 6, 2) := by decide +kernel
theorem dX0_fewestBetween_34 : decode cX0_fewestBetween 34 = .ok (.iload 6, 2) := by decide +kernel
theorem dX0_fewestBetween_36 : decode cX0_fewestBetween 36 = .ok (.bipush 20, 2) := by decide +kernel
theorem dX0_fewestBetween_38 : decode cX0_fewestBetween 38 = .ok (.if_icmp .gt 44, 3) := by decide +kernel
theorem dX0_fewestBetween_41 : decode cX0_fewestBetween 41 = .ok (.iload 4, 2) := by decide +kernel
theorem dX0_fewestBetween_43 : decode cX0_fewestBetween 43 = .ok (.ifCond .eq 39, 3) := by decide +kernel
theorem dX0_fewestBetween_46 : decode cX0_fewestBetween 46 = .ok (.iload 4, 2) := by decide +kernel
theorem dX0_fewestBetween_48 : decode cX0_fewestBetween 48 = .ok (.iload_n 3, 1) := by decide +kernel
theorem dX0_fewestBetween_49 : decode cX0_fewestBetween 49 = .ok (.iand, 1) := by decide +kernel
theorem dX0_fewestBetween_50 : decode cX0_fewestBetween 50 = .ok (.ifCond .eq 6, 3) := by decide +kernel
theorem dX0_fewestBetween_53 : decode cX0_fewestBetween 53 = .ok (.iload 6, 2) := by decide +kernel
theorem dX0_fewestBetween_55 : decode cX0_fewestBetween 55 = .ok (.ireturn, 1) := by decide +kernel
theorem dX0_fewestBetween_56 : decode cX0_fewestBetween 56 = .ok (.aload_n 0, 1) := by decide +kernel
theorem dX0_fewestBetween_57 : decode cX0_fewestBetween 57 = .ok (.iload 4, 2) := by decide +kernel
theorem dX0_fewestBetween_59 : decode cX0_fewestBetween 59 = .ok (.invokevirtual 50, 3) := by decide +kernel
theorem dX0_fewestBetween_62 : decode cX0_fewestBetween 62 = .ok (.iload 5, 2) := by decide +kernel
theorem dX0_fewestBetween_64 : decode cX0_fewestBetween 64 = .ok (.iconst (-1), 1) := by decide +kernel
theorem dX0_fewestBetween_65 : decode cX0_fewestBetween 65 = .ok (.ixor, 1) := by decide +kernel
theorem dX0_fewestBetween_66 : decode cX0_fewestBetween 66 = .ok (.iand, 1) := by decide +kernel
theorem dX0_fewestBetween_67 : decode cX0_fewestBetween 67 = .ok (.istore 4, 2) := by decide +kernel
theorem dX0_fewestBetween_69 : decode cX0_fewestBetween 69 = .ok (.iload 5, 2) := by decide +kernel
theorem dX0_fewestBetween_71 : decode cX0_fewestBetween 71 = .ok (.iload 4, 2) := by decide +kernel
theorem dX0_fewestBetween_73 : decode cX0_fewestBetween 73 = .ok (.ior, 1) := by decide +kernel
theorem dX0_fewestBetween_74 : decode cX0_fewestBetween 74 = .ok (.istore 5, 2) := by decide +kernel
theorem dX0_fewestBetween_76 : decode cX0_fewestBetween 76 = .ok (.iinc 6 1, 3) := by decide +kernel
theorem dX0_fewestBetween_79 : decode cX0_fewestBetween 79 = .ok (.goto (-45), 3) := by decide +kernel
theorem dX0_fewestBetween_82 : decode cX0_fewestBetween 82 = .ok (.bipush (-5), 2) := by decide +kernel
theorem dX0_fewestBetween_84 : decode cX0_fewestBetween 84 = .ok (.ireturn, 1) := by decide +kernel
set_option maxRecDepth 20000 in
theorem ggX0_countEndings_X4_dollsToCut : GoodIn wsX0_countEndings wsX4_dollsToCut := goodIn_r _ [9, 10, 11, 12, 8, 13, 14, 15, 16, 17, 18, 19, 20, 71, 72] (by decide +kernel) (by decide +kernel)
set_option maxRecDepth 20000 in
theorem gX0_countEndings_X4_dollsToCut : GoodIn wsX0_countEndings (wsV RX0 30 RX4 yX4_dollsToCut wsX4_dollsToCut) := goodIn_app (goodIn_of _ (by decide +kernel)) ggX0_countEndings_X4_dollsToCut
set_option maxRecDepth 20000 in
theorem ggX0_countEndings_X0_followersOf : GoodIn wsX0_countEndings wsX0_followersOf := goodIn_r _ [25, 1, 5, 6, 7, 8, 9, 10, 11, 12, 13, 14, 15, 16, 17, 18, 19, 20, 26, 27, 28, 29, 30, 31, 32, 33, 34, 35, 36, 37, 38, 39, 40, 41, 42, 43, 44, 45, 46, 67, 68, 69, 70, 71, 72] (by decide +kernel) (by decide +kernel)
set_option maxRecDepth 20000 in
theorem gX0_countEndings_X0_followersOf : GoodIn wsX0_countEndings (wsV RX0 43 RX0 yX0_followersOf wsX0_followersOf) := goodIn_app (goodIn_of _ (by decide +kernel)) ggX0_countEndings_X0_followersOf
set_option maxRecDepth 20000 in
theorem ggX0_countEndings_X3_put : GoodIn wsX0_countEndings wsX3_put := goodIn_r _ [50, 20, 72] (by decide +kernel) (by decide +kernel)
set_option maxRecDepth 20000 in
theorem gX0_countEndings_X3_put : GoodIn wsX0_countEndings (wsV RX0 53 RX3 yX3_put wsX3_put) := goodIn_app (goodIn_of _ (by decide +kernel)) ggX0_countEndings_X3_put
set_option maxRecDepth 20000 in
theorem ggX0_countEndings_X0_endingsAheadOf : GoodIn wsX0_countEndings wsX0_endingsAheadOf := goodIn_r _ [54, 1, 2, 3, 5, 6, 7, 8, 9, 10, 11, 12, 13, 14, 15, 16, 17, 18, 19, 20, 55, 56, 57, 24, 58, 67, 68, 69, 70, 71, 72] (by decide +kernel) (by decide +kernel)
set_option maxRecDepth 20000 in
theorem gX0_countEndings_X0_endingsAheadOf : GoodIn wsX0_countEndings (wsV RX0 57 RX0 yX0_endingsAheadOf wsX0_endingsAheadOf) := goodIn_app (goodIn_of _ (by decide +kernel)) ggX0_countEndings_X0_endingsAheadOf
set_option maxRecDepth 20000 in
theorem ggX0_countEndings_X3_copyFrom : GoodIn wsX0_countEndings wsX3_copyFrom := goodIn_r _ [62, 20, 63, 64, 65, 66, 72] (by decide +kernel) (by decide +kernel)
set_option maxRecDepth 20000 in
theorem gX0_countEndings_X3_copyFrom : GoodIn wsX0_countEndings (wsV RX0 60 RX3 yX3_copyFrom wsX3_copyFrom) := goodIn_app (goodIn_of _ (by decide +kernel)) ggX0_countEndings_X3_copyFrom
theorem dX0_countEndings_0 : decode cX0_countEndings 0 = .ok (.aload_n 0, 1) := by decide +kernel
theorem dX0_countEndings_1 : decode cX0_countEndings 1 = .ok (.getfield 9, 3) := by decide +kernel
theorem dX0_countEndings_4 : decode cX0_countEndings 4 = .ok (.invokevirtual 30, 3) := by decide +kernel
theorem dX0_countEndings_7 : decode cX0_countEndings 7 = .ok (.istore_n 2, 1) := by decide +kernel
theorem dX0_countEndings_8 : decode cX0_countEndings 8 = .ok (.iconst 0, 1) := by decide +kernel
theorem dX0_countEndings_9 : decode cX0_countEndings 9 = .ok (.istore_n 3, 1) := by decide +kernel
theorem dX0_countEndings_10 : decode cX0_countEndings 10 = .ok (.iload_n 3, 1) := by decide +kernel
theorem dX0_countEndings_11 : decode cX0_countEndings 11 = .ok (.iload_n 2, 1) := by decide +kernel
theorem dX0_countEndings_12 : decode cX0_countEndings 12 = .ok (.if_icmp .ge 31, 3) := by decide +kernel
theorem dX0_countEndings_15 : decode cX0_countEndings 15 = .ok (.aload_n 0, 1) := by decide +kernel
theorem dX0_countEndings_16 : decode cX0_countEndings 16 = .ok (.getfield 20, 3) := by decide +kernel
theorem dX0_countEndings_19 : decode cX0_countEndings 19 = .ok (.iload_n 3, 1) := by decide +kernel
theorem dX0_countEndings_20 : decode cX0_countEndings 20 = .ok (.aload_n 0, 1) := by decide +kernel
theorem dX0_countEndings_21 : decode cX0_countEndings 21 = .ok (.iload_n 3, 1) := by decide +kernel
theorem dX0_countEndings_22 : decode cX0_countEndings 22 = .ok (.invokevirtual 43, 3) := by decide +kernel
theorem dX0_countEndings_25 : decode cX0_countEndings 25 = .ok (.invokevirtual 53, 3) := by decide +kernel
theorem dX0_countEndings_28 : decode cX0_countEndings 28 = .ok (.aload_n 0, 1) := by decide +kernel
theorem dX0_countEndings_29 : decode cX0_countEndings 29 = .ok (.getfield 24, 3) := by decide +kernel
theorem dX0_countEndings_32 : decode cX0_countEndings 32 = .ok (.iload_n 3, 1) := by decide +kernel
theorem dX0_countEndings_33 : decode cX0_countEndings 33 = .ok (.iconst 1, 1) := by decide +kernel
theorem dX0_countEndings_34 : decode cX0_countEndings 34 = .ok (.invokevirtual 53, 3) := by decide +kernel
theorem dX0_countEndings_37 : decode cX0_countEndings 37 = .ok (.iinc 3 1, 3) := by decide +kernel
theorem dX0_countEndings_40 : decode cX0_countEndings 40 = .ok (.goto (-30), 3) := by decide +kernel
theorem dX0_countEndings_43 : decode cX0_countEndings 43 = .ok (.iconst 1, 1) := by decide +kernel
theorem dX0_countEndings_44 : decode cX0_countEndings 44 = .ok (.istore_n 3, 1) := by decide +kernel
theorem dX0_countEndings_45 : decode cX0_countEndings 45 = .ok (.iload_n 3, 1) := by decide +kernel
theorem dX0_countEndings_46 : decode cX0_countEndings 46 = .ok (.iload_n 1, 1) := by decide +kernel
theorem dX0_countEndings_47 : decode cX0_countEndings 47 = .ok (.if_icmp .ge 53, 3) := by decide +kernel
theorem dX0_countEndings_50 : decode cX0_countEndings 50 = .ok (.iconst 0, 1) := by decide +kernel
theorem dX0_countEndings_51 : decode cX0_countEndings 51 = .ok (.istore 4, 2) := by decide +kernel
theorem dX0_countEndings_53 : decode cX0_countEndings 53 = .ok (.iload 4, 2) := by decide +kernel
theorem dX0_countEndings_55 : decode cX0_countEndings 55 = .ok (.iload_n 2, 1) := by decide +kernel
theorem dX0_countEndings_56 : decode cX0_countEndings 56 = .ok (.if_icmp .ge 24, 3) := by decide +kernel
theorem dX0_countEndings_59 : decode cX0_countEndings 59 = .ok (.aload_n 0, 1) := by decide +kernel
theorem dX0_countEndings_60 : decode cX0_countEndings 60 = .ok (.getfield 27, 3) := by decide +kernel
theorem dX0_countEndings_63 : decode cX0_countEndings 63 = .ok (.iload 4, 2) := by decide +kernel
theorem dX0_countEndings_65 : decode cX0_countEndings 65 = .ok (.aload_n 0, 1) := by decide +kernel
theorem dX0_countEndings_66 : decode cX0_countEndings 66 = .ok (.iload 4, 2) := by decide +kernel
theorem dX0_countEndings_68 : decode cX0_countEndings 68 = .ok (.invokevirtual 57, 3) := by decide +kernel
theorem dX0_countEndings_71 : decode cX0_countEndings 71 = .ok (.invokevirtual 53, 3) := by decide +kernel
theorem dX0_countEndings_74 : decode cX0_countEndings 74 = .ok (.iinc 4 1, 3) := by decide +kernel
theorem dX0_countEndings_77 : decode cX0_countEndings 77 = .ok (.goto (-24), 3) := by decide +kernel
theorem dX0_countEndings_80 : decode cX0_countEndings 80 = .ok (.aload_n 0, 1) := by decide +kernel
theorem dX0_countEndings_81 : decode cX0_countEndings 81 = .ok (.getfield 24, 3) := by decide +kernel
theorem dX0_countEndings_84 : decode cX0_countEndings 84 = .ok (.aload_n 0, 1) := by decide +kernel
theorem dX0_countEndings_85 : decode cX0_countEndings 85 = .ok (.getfield 27, 3) := by decide +kernel
theorem dX0_countEndings_88 : decode cX0_countEndings 88 = .ok (.iconst 0, 1) := by decide +kernel
theorem dX0_countEndings_89 : decode cX0_countEndings 89 = .ok (.iconst 0, 1) := by decide +kernel
theorem dX0_countEndings_90 : decode cX0_countEndings 90 = .ok (.iload_n 2, 1) := by decide +kernel
theorem dX0_countEndings_91 : decode cX0_countEndings 91 = .ok (.invokevirtual 60, 3) := by decide +kernel
theorem dX0_countEndings_94 : decode cX0_countEndings 94 = .ok (.iinc 3 1, 3) := by decide +kernel
theorem dX0_countEndings_97 : decode cX0_countEndings 97 = .ok (.goto (-52), 3) := by decide +kernel
theorem dX0_countEndings_100 : decode cX0_countEndings 100 = .ok (.return_, 1) := by decide +kernel
set_option maxRecDepth 20000 in
theorem ggX0_endingsAheadOf_X4_dollsToCut : GoodIn wsX0_endingsAheadOf wsX4_dollsToCut := goodIn_r _ [8, 9, 10, 11, 7, 12, 13, 14, 15, 16, 17, 18, 19, 29, 30] (by decide +kernel) (by decide +kernel)
set_option maxRecDepth 20000 in
theorem gX0_endingsAheadOf_X4_dollsToCut : GoodIn wsX0_endingsAheadOf (wsV RX0 30 RX4 yX4_dollsToCut wsX4_dollsToCut) := goodIn_app (goodIn_of _ (by decide +kernel)) ggX0_endingsAheadOf_X4_dollsToCut
set_option maxRecDepth 20000 in
theorem ggX0_endingsAheadOf_X3_at : GoodIn wsX0_endingsAheadOf wsX3_at := goodIn_r _ [18, 19, 30] (by decide +kernel) (by decide +kernel)
set_option maxRecDepth 20000 in
theorem gX0_endingsAheadOf_X3_at : GoodIn wsX0_endingsAheadOf (wsV RX0 64 RX3 yX3_at wsX3_at) := goodIn_app (goodIn_of _ (by decide +kernel)) ggX0_endingsAheadOf_X3_at
set_option maxRecDepth 20000 in
theorem ggX0_endingsAheadOf_X0_holds : GoodIn wsX0_endingsAheadOf wsX0_holds := goodIn_r _ [24] (by decide +kernel) (by decide +kernel)
set_option maxRecDepth 20000 in
theorem gX0_endingsAheadOf_X0_holds : GoodIn wsX0_endingsAheadOf (va_wsS RX0 40 yX0_holds wsX0_holds) := goodIn_app (goodIn_of _ (by decide +kernel)) ggX0_endingsAheadOf_X0_holds
theorem dX0_endingsAheadOf_0 : decode cX0_endingsAheadOf 0 = .ok (.aload_n 0, 1) := by decide +kernel
theorem dX0_endingsAheadOf_1 : decode cX0_endingsAheadOf 1 = .ok (.getfield 9, 3) := by decide +kernel
theorem dX0_endingsAheadOf_4 : decode cX0_endingsAheadOf 4 = .ok (.invokevirtual 30, 3) := by decide +kernel
theorem dX0_endingsAheadOf_7 : decode cX0_endingsAheadOf 7 = .ok (.istore_n 2, 1) := by decide +kernel
theorem dX0_endingsAheadOf_8 : decode cX0_endingsAheadOf 8 = .ok (.iconst 0, 1) := by decide +kernel
theorem dX0_endingsAheadOf_9 : decode cX0_endingsAheadOf 9 = .ok (.istore_n 3, 1) := by decide +kernel
theorem dX0_endingsAheadOf_10 : decode cX0_endingsAheadOf 10 = .ok (.iconst 0, 1) := by decide +kernel
theorem dX0_endingsAheadOf_11 : decode cX0_endingsAheadOf 11 = .ok (.istore 4, 2) := by decide +kernel
theorem dX0_endingsAheadOf_13 : decode cX0_endingsAheadOf 13 = .ok (.iload 4, 2) := by decide +kernel
theorem dX0_endingsAheadOf_15 : decode cX0_endingsAheadOf 15 = .ok (.iload_n 2, 1) := by decide +kernel
theorem dX0_endingsAheadOf_16 : decode cX0_endingsAheadOf 16 = .ok (.if_icmp .ge 37, 3) := by decide +kernel
theorem dX0_endingsAheadOf_19 : decode cX0_endingsAheadOf 19 = .ok (.aload_n 0, 1) := by decide +kernel
theorem dX0_endingsAheadOf_20 : decode cX0_endingsAheadOf 20 = .ok (.getfield 20, 3) := by decide +kernel
theorem dX0_endingsAheadOf_23 : decode cX0_endingsAheadOf 23 = .ok (.iload 4, 2) := by decide +kernel
theorem dX0_endingsAheadOf_25 : decode cX0_endingsAheadOf 25 = .ok (.invokevirtual 64, 3) := by decide +kernel
theorem dX0_endingsAheadOf_28 : decode cX0_endingsAheadOf 28 = .ok (.iload_n 1, 1) := by decide +kernel
theorem dX0_endingsAheadOf_29 : decode cX0_endingsAheadOf 29 = .ok (.invokestatic 40, 3) := by decide +kernel
theorem dX0_endingsAheadOf_32 : decode cX0_endingsAheadOf 32 = .ok (.ifCond .eq 15, 3) := by decide +kernel
theorem dX0_endingsAheadOf_35 : decode cX0_endingsAheadOf 35 = .ok (.iload_n 3, 1) := by decide +kernel
theorem dX0_endingsAheadOf_36 : decode cX0_endingsAheadOf 36 = .ok (.aload_n 0, 1) := by decide +kernel
theorem dX0_endingsAheadOf_37 : decode cX0_endingsAheadOf 37 = .ok (.getfield 24, 3) := by decide +kernel
theorem dX0_endingsAheadOf_40 : decode cX0_endingsAheadOf 40 = .ok (.iload 4, 2) := by decide +kernel
theorem dX0_endingsAheadOf_42 : decode cX0_endingsAheadOf 42 = .ok (.invokevirtual 64, 3) := by decide +kernel
theorem dX0_endingsAheadOf_45 : decode cX0_endingsAheadOf 45 = .ok (.iadd, 1) := by decide +kernel
theorem dX0_endingsAheadOf_46 : decode cX0_endingsAheadOf 46 = .ok (.istore_n 3, 1) := by decide +kernel
theorem dX0_endingsAheadOf_47 : decode cX0_endingsAheadOf 47 = .ok (.iinc 4 1, 3) := by decide +kernel
theorem dX0_endingsAheadOf_50 : decode cX0_endingsAheadOf 50 = .ok (.goto (-37), 3) := by decide +kernel
theorem dX0_endingsAheadOf_53 : decode cX0_endingsAheadOf 53 = .ok (.iload_n 3, 1) := by decide +kernel
theorem dX0_endingsAheadOf_54 : decode cX0_endingsAheadOf 54 = .ok (.ireturn, 1) := by decide +kernel
set_option maxRecDepth 20000 in
theorem ggX0_garlandsOf_X0_countEndings : GoodIn wsX0_garlandsOf wsX0_countEndings := goodIn_r _ [7, 1, 8, 2, 9, 10, 11, 12, 13, 14, 15, 16, 17, 18, 19, 20, 21, 22, 23, 24, 25, 26, 27, 28, 6, 29, 30, 31, 32, 33, 34, 35, 36, 37, 38, 39, 40, 41, 42, 43, 44, 45, 46, 47, 48, 49, 50, 51, 52, 53, 54, 55, 56, 57, 58, 59, 60, 61, 62, 63, 64, 65, 66, 67, 68, 69, 70, 71, 72, 73, 74, 75, 76] (by decide +kernel) (by decide +kernel)
set_option maxRecDepth 20000 in
theorem gX0_garlandsOf_X0_countEndings : GoodIn wsX0_garlandsOf (wsV RX0 67 RX0 yX0_countEndings wsX0_countEndings) := goodIn_app (goodIn_of _ (by decide +kernel)) ggX0_garlandsOf_X0_countEndings
set_option maxRecDepth 20000 in
theorem ggX0_garlandsOf_X4_dollsToCut : GoodIn wsX0_garlandsOf wsX4_dollsToCut := goodIn_r _ [14, 15, 16, 17, 13, 18, 19, 20, 21, 22, 23, 24, 25, 75, 76] (by decide +kernel) (by decide +kernel)
set_option maxRecDepth 20000 in
theorem gX0_garlandsOf_X4_dollsToCut : GoodIn wsX0_garlandsOf (wsV RX0 30 RX4 yX4_dollsToCut wsX4_dollsToCut) := goodIn_app (goodIn_of _ (by decide +kernel)) ggX0_garlandsOf_X4_dollsToCut
set_option maxRecDepth 20000 in
theorem ggX0_garlandsOf_X3_at : GoodIn wsX0_garlandsOf wsX3_at := goodIn_r _ [24, 25, 76] (by decide +kernel) (by decide +kernel)
set_option maxRecDepth 20000 in
theorem gX0_garlandsOf_X3_at : GoodIn wsX0_garlandsOf (wsV RX0 64 RX3 yX3_at wsX3_at) := goodIn_app (goodIn_of _ (by decide +kernel)) ggX0_garlandsOf_X3_at
theorem dX0_garlandsOf_0 : decode cX0_garlandsOf 0 = .ok (.aload_n 0, 1) := by decide +kernel
theorem dX0_garlandsOf_1 : decode cX0_garlandsOf 1 = .ok (.iload_n 1, 1) := by decide +kernel
theorem dX0_garlandsOf_2 : decode cX0_garlandsOf 2 = .ok (.invokevirtual 67, 3) := by decide +kernel
theorem dX0_garlandsOf_5 : decode cX0_garlandsOf 5 = .ok (.aload_n 0, 1) := by decide +kernel
theorem dX0_garlandsOf_6 : decode cX0_garlandsOf 6 = .ok (.getfield 9, 3) := by decide +kernel
theorem dX0_garlandsOf_9 : decode cX0_garlandsOf 9 = .ok (.invokevirtual 30, 3) := by decide +kernel
theorem dX0_garlandsOf_12 : decode cX0_garlandsOf 12 = .ok (.istore_n 2, 1) := by decide +kernel
theorem dX0_garlandsOf_13 : decode cX0_garlandsOf 13 = .ok (.iconst 0, 1) := by decide +kernel
theorem dX0_garlandsOf_14 : decode cX0_garlandsOf 14 = .ok (.istore_n 3, 1) := by decide +kernel
theorem dX0_garlandsOf_15 : decode cX0_garlandsOf 15 = .ok (.iconst 0, 1) := by decide +kernel
theorem dX0_garlandsOf_16 : decode cX0_garlandsOf 16 = .ok (.istore 4, 2) := by decide +kernel
theorem dX0_garlandsOf_18 : decode cX0_garlandsOf 18 = .ok (.iload 4, 2) := by decide +kernel
theorem dX0_garlandsOf_20 : decode cX0_garlandsOf 20 = .ok (.iload_n 2, 1) := by decide +kernel
theorem dX0_garlandsOf_21 : decode cX0_garlandsOf 21 = .ok (.if_icmp .ge 21, 3) := by decide +kernel
theorem dX0_garlandsOf_24 : decode cX0_garlandsOf 24 = .ok (.iload_n 3, 1) := by decide +kernel
theorem dX0_garlandsOf_25 : decode cX0_garlandsOf 25 = .ok (.aload_n 0, 1) := by decide +kernel
theorem dX0_garlandsOf_26 : decode cX0_garlandsOf 26 = .ok (.getfield 24, 3) := by decide +kernel
theorem dX0_garlandsOf_29 : decode cX0_garlandsOf 29 = .ok (.iload 4, 2) := by decide +kernel
theorem dX0_garlandsOf_31 : decode cX0_garlandsOf 31 = .ok (.invokevirtual 64, 3) := by decide +kernel
theorem dX0_garlandsOf_34 : decode cX0_garlandsOf 34 = .ok (.iadd, 1) := by decide +kernel
theorem dX0_garlandsOf_35 : decode cX0_garlandsOf 35 = .ok (.istore_n 3, 1) := by decide +kernel
theorem dX0_garlandsOf_36 : decode cX0_garlandsOf 36 = .ok (.iinc 4 1, 3) := by decide +kernel
theorem dX0_garlandsOf_39 : decode cX0_garlandsOf 39 = .ok (.goto (-21), 3) := by decide +kernel
theorem dX0_garlandsOf_42 : decode cX0_garlandsOf 42 = .ok (.iload_n 3, 1) := by decide +kernel
theorem dX0_garlandsOf_43 : decode cX0_garlandsOf 43 = .ok (.ireturn, 1) := by decide +kernel
set_option maxRecDepth 20000 in
theorem ggX0_ownMirrorsOf_X0_countEndings : GoodIn wsX0_ownMirrorsOf wsX0_countEndings := goodIn_r _ [8, 1, 2, 3, 9, 10, 11, 12, 13, 14, 15, 16, 17, 18, 19, 20, 21, 22, 23, 24, 25, 26, 27, 28, 7, 29, 30, 31, 32, 33, 34, 35, 36, 37, 38, 39, 40, 41, 42, 43, 44, 45, 46, 47, 48, 49, 50, 51, 52, 53, 54, 55, 56, 57, 58, 59, 60, 61, 62, 63, 64, 65, 66, 67, 68, 69, 70, 73, 74, 75, 76, 77, 78] (by decide +kernel) (by decide +kernel)
set_option maxRecDepth 20000 in
theorem gX0_ownMirrorsOf_X0_countEndings : GoodIn wsX0_ownMirrorsOf (wsV RX0 67 RX0 yX0_countEndings wsX0_countEndings) := goodIn_app (goodIn_of _ (by decide +kernel)) ggX0_ownMirrorsOf_X0_countEndings
set_option maxRecDepth 20000 in
theorem ggX0_ownMirrorsOf_X4_dollsToCut : GoodIn wsX0_ownMirrorsOf wsX4_dollsToCut := goodIn_r _ [14, 15, 16, 17, 13, 18, 19, 20, 21, 22, 23, 24, 25, 77, 78] (by decide +kernel) (by decide +kernel)
set_option maxRecDepth 20000 in
theorem gX0_ownMirrorsOf_X4_dollsToCut : GoodIn wsX0_ownMirrorsOf (wsV RX0 30 RX4 yX4_dollsToCut wsX4_dollsToCut) := goodIn_app (goodIn_of _ (by decide +kernel)) ggX0_ownMirrorsOf_X4_dollsToCut
set_option maxRecDepth 20000 in
theorem ggX0_ownMirrorsOf_X3_at : GoodIn wsX0_ownMirrorsOf wsX3_at := goodIn_r _ [24, 25, 78] (by decide +kernel) (by decide +kernel)
set_option maxRecDepth 20000 in
theorem gX0_ownMirrorsOf_X3_at : GoodIn wsX0_ownMirrorsOf (wsV RX0 64 RX3 yX3_at wsX3_at) := goodIn_app (goodIn_of _ (by decide +kernel)) ggX0_ownMirrorsOf_X3_at
set_option maxRecDepth 20000 in
theorem ggX0_ownMirrorsOf_X6_mirrorOf : GoodIn wsX0_ownMirrorsOf wsX6_mirrorOf := goodIn_r _ [72] (by decide +kernel) (by decide +kernel)
set_option maxRecDepth 20000 in
theorem gX0_ownMirrorsOf_X6_mirrorOf_n70 : GoodIn wsX0_ownMirrorsOf (wsX6_mirrorOf) := ggX0_ownMirrorsOf_X6_mirrorOf
set_option maxRecDepth 20000 in
theorem ggX0_ownMirrorsOf_X0_holds : GoodIn wsX0_ownMirrorsOf wsX0_holds := goodIn_r _ [62] (by decide +kernel) (by decide +kernel)
set_option maxRecDepth 20000 in
theorem gX0_ownMirrorsOf_X0_holds : GoodIn wsX0_ownMirrorsOf (va_wsS RX0 40 yX0_holds wsX0_holds) := goodIn_app (goodIn_of _ (by decide +kernel)) ggX0_ownMirrorsOf_X0_holds
theorem dX0_ownMirrorsOf_0 : decode cX0_ownMirrorsOf 0 = .ok (.iload_n 1, 1) := by decide +kernel
theorem dX0_ownMirrorsOf_1 : decode cX0_ownMirrorsOf 1 = .ok (.iconst 2, 1) := by decide +kernel
theorem dX0_ownMirrorsOf_2 : decode cX0_ownMirrorsOf 2 = .ok (.irem, 1) := by decide +kernel
theorem dX0_ownMirrorsOf_3 : decode cX0_ownMirrorsOf 3 = .ok (.iconst 1, 1) := by decide +kernel
theorem dX0_ownMirrorsOf_4 : decode cX0_ownMirrorsOf 4 = .ok (.if_icmp .ne 5, 3) := by decide +kernel
theorem dX0_ownMirrorsOf_7 : decode cX0_ownMirrorsOf 7 = .ok (.iconst 0, 1) := by decide +kernel
theorem dX0_ownMirrorsOf_8 : decode cX0_ownMirrorsOf 8 = .ok (.ireturn, 1) := by decide +kernel
theorem dX0_ownMirrorsOf_9 : decode cX0_ownMirrorsOf 9 = .ok (.aload_n 0, 1) := by decide +kernel
theorem dX0_ownMirrorsOf_10 : decode cX0_ownMirrorsOf 10 = .ok (.iload_n 1, 1) := by decide +kernel
theorem dX0_ownMirrorsOf_11 : decode cX0_ownMirrorsOf 11 = .ok (.iconst 2, 1) := by decide +kernel
theorem dX0_ownMirrorsOf_12 : decode cX0_ownMirrorsOf 12 = .ok (.idiv, 1) := by decide +kernel
theorem dX0_ownMirrorsOf_13 : decode cX0_ownMirrorsOf 13 = .ok (.invokevirtual 67, 3) := by decide +kernel
theorem dX0_ownMirrorsOf_16 : decode cX0_ownMirrorsOf 16 = .ok (.aload_n 0, 1) := by decide +kernel
theorem dX0_ownMirrorsOf_17 : decode cX0_ownMirrorsOf 17 = .ok (.getfield 9, 3) := by decide +kernel
theorem dX0_ownMirrorsOf_20 : decode cX0_ownMirrorsOf 20 = .ok (.invokevirtual 30, 3) := by decide +kernel
theorem dX0_ownMirrorsOf_23 : decode cX0_ownMirrorsOf 23 = .ok (.istore_n 2, 1) := by decide +kernel
theorem dX0_ownMirrorsOf_24 : decode cX0_ownMirrorsOf 24 = .ok (.iconst 0, 1) := by decide +kernel
theorem dX0_ownMirrorsOf_25 : decode cX0_ownMirrorsOf 25 = .ok (.istore_n 3, 1) := by decide +kernel
theorem dX0_ownMirrorsOf_26 : decode cX0_ownMirrorsOf 26 = .ok (.iconst 0, 1) := by decide +kernel
theorem dX0_ownMirrorsOf_27 : decode cX0_ownMirrorsOf 27 = .ok (.istore 4, 2) := by decide +kernel
theorem dX0_ownMirrorsOf_29 : decode cX0_ownMirrorsOf 29 = .ok (.iload 4, 2) := by decide +kernel
theorem dX0_ownMirrorsOf_31 : decode cX0_ownMirrorsOf 31 = .ok (.iload_n 2, 1) := by decide +kernel
theorem dX0_ownMirrorsOf_32 : decode cX0_ownMirrorsOf 32 = .ok (.if_icmp .ge 41, 3) := by decide +kernel
theorem dX0_ownMirrorsOf_35 : decode cX0_ownMirrorsOf 35 = .ok (.aload_n 0, 1) := by decide +kernel
theorem dX0_ownMirrorsOf_36 : decode cX0_ownMirrorsOf 36 = .ok (.getfield 20, 3) := by decide +kernel
theorem dX0_ownMirrorsOf_39 : decode cX0_ownMirrorsOf 39 = .ok (.iload 4, 2) := by decide +kernel
theorem dX0_ownMirrorsOf_41 : decode cX0_ownMirrorsOf 41 = .ok (.invokevirtual 64, 3) := by decide +kernel
theorem dX0_ownMirrorsOf_44 : decode cX0_ownMirrorsOf 44 = .ok (.iload 4, 2) := by decide +kernel
theorem dX0_ownMirrorsOf_46 : decode cX0_ownMirrorsOf 46 = .ok (.invokestatic 70, 3) := by decide +kernel
theorem dX0_ownMirrorsOf_49 : decode cX0_ownMirrorsOf 49 = .ok (.invokestatic 40, 3) := by decide +kernel
theorem dX0_ownMirrorsOf_52 : decode cX0_ownMirrorsOf 52 = .ok (.ifCond .eq 15, 3) := by decide +kernel
theorem dX0_ownMirrorsOf_55 : decode cX0_ownMirrorsOf 55 = .ok (.iload_n 3, 1) := by decide +kernel
theorem dX0_ownMirrorsOf_56 : decode cX0_ownMirrorsOf 56 = .ok (.aload_n 0, 1) := by decide +kernel
theorem dX0_ownMirrorsOf_57 : decode cX0_ownMirrorsOf 57 = .ok (.getfield 24, 3) := by decide +kernel
theorem dX0_ownMirrorsOf_60 : decode cX0_ownMirrorsOf 60 = .ok (.iload 4, 2) := by decide +kernel
theorem dX0_ownMirrorsOf_62 : decode cX0_ownMirrorsOf 62 = .ok (.invokevirtual 64, 3) := by decide +kernel
theorem dX0_ownMirrorsOf_65 : decode cX0_ownMirrorsOf 65 = .ok (.iadd, 1) := by decide +kernel
theorem dX0_ownMirrorsOf_66 : decode cX0_ownMirrorsOf 66 = .ok (.istore_n 3, 1) := by decide +kernel
theorem dX0_ownMirrorsOf_67 : decode cX0_ownMirrorsOf 67 = .ok (.iinc 4 1, 3) := by decide +kernel
theorem dX0_ownMirrorsOf_70 : decode cX0_ownMirrorsOf 70 = .ok (.goto (-41), 3) := by decide +kernel
theorem dX0_ownMirrorsOf_73 : decode cX0_ownMirrorsOf 73 = .ok (.iload_n 3, 1) := by decide +kernel
theorem dX0_ownMirrorsOf_74 : decode cX0_ownMirrorsOf 74 = .ok (.ireturn, 1) := by decide +kernel
set_option maxRecDepth 20000 in
theorem ggX1_init_X3_init : GoodIn wsX1_init wsX3_init := goodIn_r _ [12, 13, 2, 3, 14, 15, 16] (by decide +kernel) (by decide +kernel)
set_option maxRecDepth 20000 in
theorem gX1_init_X3_init : GoodIn wsX1_init (wsX3_init) := ggX1_init_X3_init
theorem dX1_init_0 : decode cX1_init 0 = .ok (.aload_n 0, 1) := by decide +kernel
theorem dX1_init_1 : decode cX1_init 1 = .ok (.invokespecial 3, 3) := by decide +kernel
theorem dX1_init_4 : decode cX1_init 4 = .ok (.aload_n 0, 1) := by decide +kernel
theorem dX1_init_5 : decode cX1_init 5 = .ok (.new 9, 3) := by decide +kernel
theorem dX1_init_8 : decode cX1_init 8 = .ok (.dup, 1) := by decide +kernel
theorem dX1_init_9 : decode cX1_init 9 = .ok (.sipush 1144, 3) := by decide +kernel
theorem dX1_init_12 : decode cX1_init 12 = .ok (.invokespecial 13, 3) := by decide +kernel
theorem dX1_init_15 : decode cX1_init 15 = .ok (.putfield 16, 3) := by decide +kernel
theorem dX1_init_18 : decode cX1_init 18 = .ok (.aload_n 0, 1) := by decide +kernel
theorem dX1_init_19 : decode cX1_init 19 = .ok (.iconst 0, 1) := by decide +kernel
theorem dX1_init_20 : decode cX1_init 20 = .ok (.putfield 22, 3) := by decide +kernel
theorem dX1_init_23 : decode cX1_init 23 = .ok (.aload_n 0, 1) := by decide +kernel
theorem dX1_init_24 : decode cX1_init 24 = .ok (.iconst 0, 1) := by decide +kernel
theorem dX1_init_25 : decode cX1_init 25 = .ok (.putfield 26, 3) := by decide +kernel
theorem dX1_init_28 : decode cX1_init 28 = .ok (.return_, 1) := by decide +kernel
theorem dX1_size_0 : decode cX1_size 0 = .ok (.aload_n 0, 1) := by decide +kernel
theorem dX1_size_1 : decode cX1_size 1 = .ok (.getfield 26, 3) := by decide +kernel
theorem dX1_size_4 : decode cX1_size 4 = .ok (.ireturn, 1) := by decide +kernel
theorem dX1_cellOf_0 : decode cX1_cellOf 0 = .ok (.aload_n 0, 1) := by decide +kernel
theorem dX1_cellOf_1 : decode cX1_cellOf 1 = .ok (.getfield 22, 3) := by decide +kernel
theorem dX1_cellOf_4 : decode cX1_cellOf 4 = .ok (.iload_n 1, 1) := by decide +kernel
theorem dX1_cellOf_5 : decode cX1_cellOf 5 = .ok (.iadd, 1) := by decide +kernel
theorem dX1_cellOf_6 : decode cX1_cellOf 6 = .ok (.iconst 4, 1) := by decide +kernel
theorem dX1_cellOf_7 : decode cX1_cellOf 7 = .ok (.irem, 1) := by decide +kernel
theorem dX1_cellOf_8 : decode cX1_cellOf 8 = .ok (.sipush 286, 3) := by decide +kernel
theorem dX1_cellOf_11 : decode cX1_cellOf 11 = .ok (.imul, 1) := by decide +kernel
theorem dX1_cellOf_12 : decode cX1_cellOf 12 = .ok (.ireturn, 1) := by decide +kernel
set_option maxRecDepth 20000 in
theorem ggX1_remember_X1_cellOf : GoodIn wsX1_remember wsX1_cellOf := goodIn_r _ [8, 2, 25, 26, 27] (by decide +kernel) (by decide +kernel)
set_option maxRecDepth 20000 in
theorem gX1_remember_X1_cellOf : GoodIn wsX1_remember (wsV RX1 29 RX1 yX1_cellOf wsX1_cellOf) := goodIn_app (goodIn_of _ (by decide +kernel)) ggX1_remember_X1_cellOf
set_option maxRecDepth 20000 in
theorem ggX1_remember_X4_saveTo : GoodIn wsX1_remember wsX4_saveTo := goodIn_r _ [13, 14, 15, 16, 17, 18, 19, 20, 21, 22, 23, 24, 28, 29] (by decide +kernel) (by decide +kernel)
set_option maxRecDepth 20000 in
theorem gX1_remember_X4_saveTo : GoodIn wsX1_remember (wsV RX1 33 RX4 yX4_saveTo wsX4_saveTo) := goodIn_app (goodIn_of _ (by decide +kernel)) ggX1_remember_X4_saveTo
theorem dX1_remember_0 : decode cX1_remember 0 = .ok (.aload_n 0, 1) := by decide +kernel
theorem dX1_remember_1 : decode cX1_remember 1 = .ok (.getfield 26, 3) := by decide +kernel
theorem dX1_remember_4 : decode cX1_remember 4 = .ok (.iconst 4, 1) := by decide +kernel
theorem dX1_remember_5 : decode cX1_remember 5 = .ok (.if_icmp .ne 25, 3) := by decide +kernel
theorem dX1_remember_8 : decode cX1_remember 8 = .ok (.aload_n 0, 1) := by decide +kernel
theorem dX1_remember_9 : decode cX1_remember 9 = .ok (.aload_n 0, 1) := by decide +kernel
theorem dX1_remember_10 : decode cX1_remember 10 = .ok (.getfield 22, 3) := by decide +kernel
theorem dX1_remember_13 : decode cX1_remember 13 = .ok (.iconst 1, 1) := by decide +kernel
theorem dX1_remember_14 : decode cX1_remember 14 = .ok (.iadd, 1) := by decide +kernel
theorem dX1_remember_15 : decode cX1_remember 15 = .ok (.iconst 4, 1) := by decide +kernel
theorem dX1_remember_16 : decode cX1_remember 16 = .ok (.irem, 1) := by decide +kernel
theorem dX1_remember_17 : decode cX1_remember 17 = .ok (.putfield 22, 3) := by decide +kernel
theorem dX1_remember_20 : decode cX1_remember 20 = .ok (.aload_n 0, 1) := by decide +kernel
theorem dX1_remember_21 : decode cX1_remember 21 = .ok (.dup, 1) := by decide +kernel
theorem dX1_remember_22 : decode cX1_remember 22 = .ok (.getfield 26, 3) := by decide +kernel
theorem dX1_remember_25 : decode cX1_remember 25 = .ok (.iconst 1, 1) := by decide +kernel
theorem dX1_remember_26 : decode cX1_remember 26 = .ok (.isub, 1) := by decide +kernel
theorem dX1_remember_27 : decode cX1_remember 27 = .ok (.putfield 26, 3) := by decide +kernel
theorem dX1_remember_30 : decode cX1_remember 30 = .ok (.aload_n 1, 1) := by decide +kernel
theorem dX1_remember_31 : decode cX1_remember 31 = .ok (.aload_n 0, 1) := by decide +kernel
theorem dX1_remember_32 : decode cX1_remember 32 = .ok (.getfield 16, 3) := by decide +kernel
theorem dX1_remember_35 : decode cX1_remember 35 = .ok (.aload_n 0, 1) := by decide +kernel
theorem dX1_remember_36 : decode cX1_remember 36 = .ok (.aload_n 0, 1) := by decide +kernel
theorem dX1_remember_37 : decode cX1_remember 37 = .ok (.getfield 26, 3) := by decide +kernel
theorem dX1_remember_40 : decode cX1_remember 40 = .ok (.invokevirtual 29, 3) := by decide +kernel
theorem dX1_remember_43 : decode cX1_remember 43 = .ok (.invokevirtual 33, 3) := by decide +kernel
theorem dX1_remember_46 : decode cX1_remember 46 = .ok (.aload_n 0, 1) := by decide +kernel
theorem dX1_remember_47 : decode cX1_remember 47 = .ok (.dup, 1) := by decide +kernel
theorem dX1_remember_48 : decode cX1_remember 48 = .ok (.getfield 26, 3) := by decide +kernel
theorem dX1_remember_51 : decode cX1_remember 51 = .ok (.iconst 1, 1) := by decide +kernel
theorem dX1_remember_52 : decode cX1_remember 52 = .ok (.iadd, 1) := by decide +kernel
theorem dX1_remember_53 : decode cX1_remember 53 = .ok (.putfield 26, 3) := by decide +kernel
theorem dX1_remember_56 : decode cX1_remember 56 = .ok (.return_, 1) := by decide +kernel
set_option maxRecDepth 20000 in
theorem ggX1_goBack_X1_cellOf : GoodIn wsX1_goBack wsX1_cellOf := goodIn_r _ [7, 8, 25, 26, 27] (by decide +kernel) (by decide +kernel)
set_option maxRecDepth 20000 in
theorem gX1_goBack_X1_cellOf : GoodIn wsX1_goBack (wsV RX1 29 RX1 yX1_cellOf wsX1_cellOf) := goodIn_app (goodIn_of _ (by decide +kernel)) ggX1_goBack_X1_cellOf
set_option maxRecDepth 20000 in
theorem ggX1_goBack_X4_loadFrom : GoodIn wsX1_goBack wsX4_loadFrom := goodIn_r _ [13, 14, 15, 16, 17, 18, 19, 20, 21, 22, 23, 24, 28, 29] (by decide +kernel) (by decide +kernel)
set_option maxRecDepth 20000 in
theorem gX1_goBack_X4_loadFrom : GoodIn wsX1_goBack (wsV RX1 37 RX4 yX4_loadFrom wsX4_loadFrom) := goodIn_app (goodIn_of _ (by decide +kernel)) ggX1_goBack_X4_loadFrom
theorem dX1_goBack_0 : decode cX1_goBack 0 = .ok (.aload_n 0, 1) := by decide +kernel
theorem dX1_goBack_1 : decode cX1_goBack 1 = .ok (.getfield 26, 3) := by decide +kernel
theorem dX1_goBack_4 : decode cX1_goBack 4 = .ok (.ifCond .le 29, 3) := by decide +kernel
theorem dX1_goBack_7 : decode cX1_goBack 7 = .ok (.aload_n 0, 1) := by decide +kernel
theorem dX1_goBack_8 : decode cX1_goBack 8 = .ok (.dup, 1) := by decide +kernel
theorem dX1_goBack_9 : decode cX1_goBack 9 = .ok (.getfield 26, 3) := by decide +kernel
theorem dX1_goBack_12 : decode cX1_goBack 12 = .ok (.iconst 1, 1) := by decide +kernel
theorem dX1_goBack_13 : decode cX1_goBack 13 = .ok (.isub, 1) := by decide +kernel
theorem dX1_goBack_14 : decode cX1_goBack 14 = .ok (.putfield 26, 3) := by decide +kernel
theorem dX1_goBack_17 : decode cX1_goBack 17 = .ok (.aload_n 1, 1) := by decide +kernel
theorem dX1_goBack_18 : decode cX1_goBack 18 = .ok (.aload_n 0, 1) := by decide +kernel
theorem dX1_goBack_19 : decode cX1_goBack 19 = .ok (.getfield 16, 3) := by decide +kernel
theorem dX1_goBack_22 : decode cX1_goBack 22 = .ok (.aload_n 0, 1) := by decide +kernel
theorem dX1_goBack_23 : decode cX1_goBack 23 = .ok (.aload_n 0, 1) := by decide +kernel
theorem dX1_goBack_24 : decode cX1_goBack 24 = .ok (.getfield 26, 3) := by decide +kernel
theorem dX1_goBack_27 : decode cX1_goBack 27 = .ok (.invokevirtual 29, 3) := by decide +kernel
theorem dX1_goBack_30 : decode cX1_goBack 30 = .ok (.invokevirtual 37, 3) := by decide +kernel
theorem dX1_goBack_33 : decode cX1_goBack 33 = .ok (.return_, 1) := by decide +kernel
theorem dX2_init_0 : decode cX2_init 0 = .ok (.aload_n 0, 1) := by decide +kernel
theorem dX2_init_1 : decode cX2_init 1 = .ok (.invokespecial 3, 3) := by decide +kernel
theorem dX2_init_4 : decode cX2_init 4 = .ok (.aload_n 0, 1) := by decide +kernel
theorem dX2_init_5 : decode cX2_init 5 = .ok (.aload_n 1, 1) := by decide +kernel
theorem dX2_init_6 : decode cX2_init 6 = .ok (.putfield 9, 3) := by decide +kernel
theorem dX2_init_9 : decode cX2_init 9 = .ok (.return_, 1) := by decide +kernel
set_option maxRecDepth 20000 in
theorem ggX2_mirroredIn_X4_lengthOf : GoodIn wsX2_mirroredIn wsX4_lengthOf := goodIn_r _ [6, 7, 8, 9, 10, 11, 12, 13, 28, 29] (by decide +kernel) (by decide +kernel)
set_option maxRecDepth 20000 in
theorem gX2_mirroredIn_X4_lengthOf : GoodIn wsX2_mirroredIn (wsV RX2 15 RX4 yX4_lengthOf wsX4_lengthOf) := goodIn_app (goodIn_of _ (by decide +kernel)) ggX2_mirroredIn_X4_lengthOf
set_option maxRecDepth 20000 in
theorem ggX2_mirroredIn_X4_dollAt : GoodIn wsX2_mirroredIn wsX4_dollAt := goodIn_r _ [17, 7, 18, 19, 20, 5, 21, 8, 9, 10, 11, 12, 13, 28, 29] (by decide +kernel) (by decide +kernel)
set_option maxRecDepth 20000 in
theorem gX2_mirroredIn_X4_dollAt : GoodIn wsX2_mirroredIn (wsV RX2 21 RX4 yX4_dollAt wsX4_dollAt) := goodIn_app (goodIn_of _ (by decide +kernel)) ggX2_mirroredIn_X4_dollAt
set_option maxRecDepth 20000 in
theorem ggX2_mirroredIn_X6_isMirrored : GoodIn wsX2_mirroredIn wsX6_isMirrored := goodIn_r _ [24] (by decide +kernel) (by decide +kernel)
set_option maxRecDepth 20000 in
theorem gX2_mirroredIn_X6_isMirrored_n25 : GoodIn wsX2_mirroredIn (wsX6_isMirrored) := ggX2_mirroredIn_X6_isMirrored
set_option maxRecDepth 20000 in
theorem ggX2_mirroredIn_X6_oneIf : GoodIn wsX2_mirroredIn wsX6_oneIf := goodIn_r _ [26] (by decide +kernel) (by decide +kernel)
set_option maxRecDepth 20000 in
theorem gX2_mirroredIn_X6_oneIf_n29 : GoodIn wsX2_mirroredIn (wsX6_oneIf) := ggX2_mirroredIn_X6_oneIf
theorem dX2_mirroredIn_0 : decode cX2_mirroredIn 0 = .ok (.aload_n 0, 1) := by decide +kernel
theorem dX2_mirroredIn_1 : decode cX2_mirroredIn 1 = .ok (.getfield 9, 3) := by decide +kernel
theorem dX2_mirroredIn_4 : decode cX2_mirroredIn 4 = .ok (.iload_n 1, 1) := by decide +kernel
theorem dX2_mirroredIn_5 : decode cX2_mirroredIn 5 = .ok (.invokevirtual 15, 3) := by decide +kernel
theorem dX2_mirroredIn_8 : decode cX2_mirroredIn 8 = .ok (.istore_n 2, 1) := by decide +kernel
theorem dX2_mirroredIn_9 : decode cX2_mirroredIn 9 = .ok (.iconst 0, 1) := by decide +kernel
theorem dX2_mirroredIn_10 : decode cX2_mirroredIn 10 = .ok (.istore_n 3, 1) := by decide +kernel
theorem dX2_mirroredIn_11 : decode cX2_mirroredIn 11 = .ok (.iconst 0, 1) := by decide +kernel
theorem dX2_mirroredIn_12 : decode cX2_mirroredIn 12 = .ok (.istore 4, 2) := by decide +kernel
theorem dX2_mirroredIn_14 : decode cX2_mirroredIn 14 = .ok (.iload 4, 2) := by decide +kernel
theorem dX2_mirroredIn_16 : decode cX2_mirroredIn 16 = .ok (.iload_n 2, 1) := by decide +kernel
theorem dX2_mirroredIn_17 : decode cX2_mirroredIn 17 = .ok (.if_icmp .ge 28, 3) := by decide +kernel
theorem dX2_mirroredIn_20 : decode cX2_mirroredIn 20 = .ok (.iload_n 3, 1) := by decide +kernel
theorem dX2_mirroredIn_21 : decode cX2_mirroredIn 21 = .ok (.aload_n 0, 1) := by decide +kernel
theorem dX2_mirroredIn_22 : decode cX2_mirroredIn 22 = .ok (.getfield 9, 3) := by decide +kernel
theorem dX2_mirroredIn_25 : decode cX2_mirroredIn 25 = .ok (.iload_n 1, 1) := by decide +kernel
theorem dX2_mirroredIn_26 : decode cX2_mirroredIn 26 = .ok (.iload 4, 2) := by decide +kernel
theorem dX2_mirroredIn_28 : decode cX2_mirroredIn 28 = .ok (.invokevirtual 21, 3) := by decide +kernel
theorem dX2_mirroredIn_31 : decode cX2_mirroredIn 31 = .ok (.invokestatic 25, 3) := by decide +kernel
theorem dX2_mirroredIn_34 : decode cX2_mirroredIn 34 = .ok (.invokestatic 29, 3) := by decide +kernel
theorem dX2_mirroredIn_37 : decode cX2_mirroredIn 37 = .ok (.iadd, 1) := by decide +kernel
theorem dX2_mirroredIn_38 : decode cX2_mirroredIn 38 = .ok (.istore_n 3, 1) := by decide +kernel
theorem dX2_mirroredIn_39 : decode cX2_mirroredIn 39 = .ok (.iinc 4 1, 3) := by decide +kernel
theorem dX2_mirroredIn_42 : decode cX2_mirroredIn 42 = .ok (.goto (-28), 3) := by decide +kernel
theorem dX2_mirroredIn_45 : decode cX2_mirroredIn 45 = .ok (.iload_n 3, 1) := by decide +kernel
theorem dX2_mirroredIn_46 : decode cX2_mirroredIn 46 = .ok (.ireturn, 1) := by decide +kernel
set_option maxRecDepth 20000 in
theorem ggX2_kindsIn_X4_lengthOf : GoodIn wsX2_kindsIn wsX4_lengthOf := goodIn_r _ [6, 7, 8, 9, 10, 11, 12, 13, 26, 27] (by decide +kernel) (by decide +kernel)
set_option maxRecDepth 20000 in
theorem gX2_kindsIn_X4_lengthOf : GoodIn wsX2_kindsIn (wsV RX2 15 RX4 yX4_lengthOf wsX4_lengthOf) := goodIn_app (goodIn_of _ (by decide +kernel)) ggX2_kindsIn_X4_lengthOf
set_option maxRecDepth 20000 in
theorem ggX2_kindsIn_X4_dollAt : GoodIn wsX2_kindsIn wsX4_dollAt := goodIn_r _ [17, 7, 18, 19, 20, 5, 21, 8, 9, 10, 11, 12, 13, 26, 27] (by decide +kernel) (by decide +kernel)
set_option maxRecDepth 20000 in
theorem gX2_kindsIn_X4_dollAt : GoodIn wsX2_kindsIn (wsV RX2 21 RX4 yX4_dollAt wsX4_dollAt) := goodIn_app (goodIn_of _ (by decide +kernel)) ggX2_kindsIn_X4_dollAt
set_option maxRecDepth 20000 in
theorem ggX2_kindsIn_X6_kindOf : GoodIn wsX2_kindsIn wsX6_kindOf := goodIn_r _ [24] (by decide +kernel) (by decide +kernel)
set_option maxRecDepth 20000 in
theorem gX2_kindsIn_X6_kindOf_n33 : GoodIn wsX2_kindsIn (wsX6_kindOf) := ggX2_kindsIn_X6_kindOf
theorem dX2_kindsIn_0 : decode cX2_kindsIn 0 = .ok (.aload_n 0, 1) := by decide +kernel
theorem dX2_kindsIn_1 : decode cX2_kindsIn 1 = .ok (.getfield 9, 3) := by decide +kernel
theorem dX2_kindsIn_4 : decode cX2_kindsIn 4 = .ok (.iload_n 1, 1) := by decide +kernel
theorem dX2_kindsIn_5 : decode cX2_kindsIn 5 = .ok (.invokevirtual 15, 3) := by decide +kernel
theorem dX2_kindsIn_8 : decode cX2_kindsIn 8 = .ok (.istore_n 2, 1) := by decide +kernel
theorem dX2_kindsIn_9 : decode cX2_kindsIn 9 = .ok (.iconst 0, 1) := by decide +kernel
theorem dX2_kindsIn_10 : decode cX2_kindsIn 10 = .ok (.istore_n 3, 1) := by decide +kernel
theorem dX2_kindsIn_11 : decode cX2_kindsIn 11 = .ok (.iconst 0, 1) := by decide +kernel
theorem dX2_kindsIn_12 : decode cX2_kindsIn 12 = .ok (.istore 4, 2) := by decide +kernel
theorem dX2_kindsIn_14 : decode cX2_kindsIn 14 = .ok (.iload 4, 2) := by decide +kernel
theorem dX2_kindsIn_16 : decode cX2_kindsIn 16 = .ok (.iload_n 2, 1) := by decide +kernel
theorem dX2_kindsIn_17 : decode cX2_kindsIn 17 = .ok (.if_icmp .ge 27, 3) := by decide +kernel
theorem dX2_kindsIn_20 : decode cX2_kindsIn 20 = .ok (.iload_n 3, 1) := by decide +kernel
theorem dX2_kindsIn_21 : decode cX2_kindsIn 21 = .ok (.iconst 1, 1) := by decide +kernel
theorem dX2_kindsIn_22 : decode cX2_kindsIn 22 = .ok (.aload_n 0, 1) := by decide +kernel
theorem dX2_kindsIn_23 : decode cX2_kindsIn 23 = .ok (.getfield 9, 3) := by decide +kernel
theorem dX2_kindsIn_26 : decode cX2_kindsIn 26 = .ok (.iload_n 1, 1) := by decide +kernel
theorem dX2_kindsIn_27 : decode cX2_kindsIn 27 = .ok (.iload 4, 2) := by decide +kernel
theorem dX2_kindsIn_29 : decode cX2_kindsIn 29 = .ok (.invokevirtual 21, 3) := by decide +kernel
theorem dX2_kindsIn_32 : decode cX2_kindsIn 32 = .ok (.invokestatic 33, 3) := by decide +kernel
theorem dX2_kindsIn_35 : decode cX2_kindsIn 35 = .ok (.ishl, 1) := by decide +kernel
theorem dX2_kindsIn_36 : decode cX2_kindsIn 36 = .ok (.ior, 1) := by decide +kernel
theorem dX2_kindsIn_37 : decode cX2_kindsIn 37 = .ok (.istore_n 3, 1) := by decide +kernel
theorem dX2_kindsIn_38 : decode cX2_kindsIn 38 = .ok (.iinc 4 1, 3) := by decide +kernel
theorem dX2_kindsIn_41 : decode cX2_kindsIn 41 = .ok (.goto (-27), 3) := by decide +kernel
theorem dX2_kindsIn_44 : decode cX2_kindsIn 44 = .ok (.iload_n 3, 1) := by decide +kernel
theorem dX2_kindsIn_45 : decode cX2_kindsIn 45 = .ok (.ireturn, 1) := by decide +kernel
set_option maxRecDepth 20000 in
theorem ggX2_isSame_X4_lengthOf : GoodIn wsX2_isSame wsX4_lengthOf := goodIn_r _ [6, 7, 8, 9, 10, 11, 12, 13, 23, 24] (by decide +kernel) (by decide +kernel)
set_option maxRecDepth 20000 in
theorem gX2_isSame_X4_lengthOf : GoodIn wsX2_isSame (wsV RX2 15 RX4 yX4_lengthOf wsX4_lengthOf) := goodIn_app (goodIn_of _ (by decide +kernel)) ggX2_isSame_X4_lengthOf
set_option maxRecDepth 20000 in
theorem ggX2_isSame_X4_dollAt : GoodIn wsX2_isSame wsX4_dollAt := goodIn_r _ [17, 7, 18, 19, 20, 5, 21, 8, 9, 10, 11, 12, 13, 23, 24] (by decide +kernel) (by decide +kernel)
set_option maxRecDepth 20000 in
theorem gX2_isSame_X4_dollAt : GoodIn wsX2_isSame (wsV RX2 21 RX4 yX4_dollAt wsX4_dollAt) := goodIn_app (goodIn_of _ (by decide +kernel)) ggX2_isSame_X4_dollAt
theorem dX2_isSame_0 : decode cX2_isSame 0 = .ok (.aload_n 0, 1) := by decide +kernel
theorem dX2_isSame_1 : decode cX2_isSame 1 = .ok (.getfield 9, 3) := by decide +kernel
theorem dX2_isSame_4 : decode cX2_isSame 4 = .ok (.iload_n 1, 1) := by decide +kernel
theorem dX2_isSame_5 : decode cX2_isSame 5 = .ok (.invokevirtual 15, 3) := by decide +kernel
theorem dX2_isSame_8 : decode cX2_isSame 8 = .ok (.istore_n 3, 1) := by decide +kernel
theorem dX2_isSame_9 : decode cX2_isSame 9 = .ok (.iload_n 3, 1) := by decide +kernel
theorem dX2_isSame_10 : decode cX2_isSame 10 = .ok (.aload_n 0, 1) := by decide +kernel
theorem dX2_isSame_11 : decode cX2_isSame 11 = .ok (.getfield 9, 3) := by decide +kernel
theorem dX2_isSame_14 : decode cX2_isSame 14 = .ok (.iload_n 2, 1) := by decide +kernel
theorem dX2_isSame_15 : decode cX2_isSame 15 = .ok (.invokevirtual 15, 3) := by decide +kernel
theorem dX2_isSame_18 : decode cX2_isSame 18 = .ok (.if_icmp .eq 5, 3) := by decide +kernel
theorem dX2_isSame_21 : decode cX2_isSame 21 = .ok (.iconst 0, 1) := by decide +kernel
theorem dX2_isSame_22 : decode cX2_isSame 22 = .ok (.ireturn, 1) := by decide +kernel
theorem dX2_isSame_23 : decode cX2_isSame 23 = .ok (.iconst 0, 1) := by decide +kernel
theorem dX2_isSame_24 : decode cX2_isSame 24 = .ok (.istore 4, 2) := by decide +kernel
theorem dX2_isSame_26 : decode cX2_isSame 26 = .ok (.iload 4, 2) := by decide +kernel
theorem dX2_isSame_28 : decode cX2_isSame 28 = .ok (.iload_n 3, 1) := by decide +kernel
theorem dX2_isSame_29 : decode cX2_isSame 29 = .ok (.if_icmp .ge 34, 3) := by decide +kernel
theorem dX2_isSame_32 : decode cX2_isSame 32 = .ok (.aload_n 0, 1) := by decide +kernel
theorem dX2_isSame_33 : decode cX2_isSame 33 = .ok (.getfield 9, 3) := by decide +kernel
theorem dX2_isSame_36 : decode cX2_isSame 36 = .ok (.iload_n 1, 1) := by decide +kernel
theorem dX2_isSame_37 : decode cX2_isSame 37 = .ok (.iload 4, 2) := by decide +kernel
theorem dX2_isSame_39 : decode cX2_isSame 39 = .ok (.invokevirtual 21, 3) := by decide +kernel
theorem dX2_isSame_42 : decode cX2_isSame 42 = .ok (.aload_n 0, 1) := by decide +kernel
theorem dX2_isSame_43 : decode cX2_isSame 43 = .ok (.getfield 9, 3) := by decide +kernel
theorem dX2_isSame_46 : decode cX2_isSame 46 = .ok (.iload_n 2, 1) := by decide +kernel
theorem dX2_isSame_47 : decode cX2_isSame 47 = .ok (.iload 4, 2) := by decide +kernel
theorem dX2_isSame_49 : decode cX2_isSame 49 = .ok (.invokevirtual 21, 3) := by decide +kernel
theorem dX2_isSame_52 : decode cX2_isSame 52 = .ok (.if_icmp .eq 5, 3) := by decide +kernel
theorem dX2_isSame_55 : decode cX2_isSame 55 = .ok (.iconst 0, 1) := by decide +kernel
theorem dX2_isSame_56 : decode cX2_isSame 56 = .ok (.ireturn, 1) := by decide +kernel
theorem dX2_isSame_57 : decode cX2_isSame 57 = .ok (.iinc 4 1, 3) := by decide +kernel
theorem dX2_isSame_60 : decode cX2_isSame 60 = .ok (.goto (-34), 3) := by decide +kernel
theorem dX2_isSame_63 : decode cX2_isSame 63 = .ok (.iconst 1, 1) := by decide +kernel
theorem dX2_isSame_64 : decode cX2_isSame 64 = .ok (.ireturn, 1) := by decide +kernel
set_option maxRecDepth 20000 in
theorem ggX2_isMirror_X4_lengthOf : GoodIn wsX2_isMirror wsX4_lengthOf := goodIn_r _ [6, 7, 8, 9, 10, 11, 12, 13, 26, 27] (by decide +kernel) (by decide +kernel)
set_option maxRecDepth 20000 in
theorem gX2_isMirror_X4_lengthOf : GoodIn wsX2_isMirror (wsV RX2 15 RX4 yX4_lengthOf wsX4_lengthOf) := goodIn_app (goodIn_of _ (by decide +kernel)) ggX2_isMirror_X4_lengthOf
set_option maxRecDepth 20000 in
theorem ggX2_isMirror_X4_dollAt : GoodIn wsX2_isMirror wsX4_dollAt := goodIn_r _ [17, 7, 18, 19, 20, 5, 21, 8, 9, 10, 11, 12, 13, 26, 27] (by decide +kernel) (by decide +kernel)
set_option maxRecDepth 20000 in
theorem gX2_isMirror_X4_dollAt : GoodIn wsX2_isMirror (wsV RX2 21 RX4 yX4_dollAt wsX4_dollAt) := goodIn_app (goodIn_of _ (by decide +kernel)) ggX2_isMirror_X4_dollAt
set_option maxRecDepth 20000 in
theorem ggX2_isMirror_X6_mirrorOf : GoodIn wsX2_isMirror wsX6_mirrorOf := goodIn_r _ [24] (by decide +kernel) (by decide +kernel)
set_option maxRecDepth 20000 in
theorem gX2_isMirror_X6_mirrorOf_n36 : GoodIn wsX2_isMirror (wsX6_mirrorOf) := ggX2_isMirror_X6_mirrorOf
theorem dX2_isMirror_0 : decode cX2_isMirror 0 = .ok (.aload_n 0, 1) := by decide +kernel
theorem dX2_isMirror_1 : decode cX2_isMirror 1 = .ok (.getfield 9, 3) := by decide +kernel
theorem dX2_isMirror_4 : decode cX2_isMirror 4 = .ok (.iload_n 1, 1) := by decide +kernel
theorem dX2_isMirror_5 : decode cX2_isMirror 5 = .ok (.invokevirtual 15, 3) := by decide +kernel
theorem dX2_isMirror_8 : decode cX2_isMirror 8 = .ok (.istore_n 3, 1) := by decide +kernel
theorem dX2_isMirror_9 : decode cX2_isMirror 9 = .ok (.iload_n 3, 1) := by decide +kernel
theorem dX2_isMirror_10 : decode cX2_isMirror 10 = .ok (.aload_n 0, 1) := by decide +kernel
theorem dX2_isMirror_11 : decode cX2_isMirror 11 = .ok (.getfield 9, 3) := by decide +kernel
theorem dX2_isMirror_14 : decode cX2_isMirror 14 = .ok (.iload_n 2, 1) := by decide +kernel
theorem dX2_isMirror_15 : decode cX2_isMirror 15 = .ok (.invokevirtual 15, 3) := by decide +kernel
theorem dX2_isMirror_18 : decode cX2_isMirror 18 = .ok (.if_icmp .eq 5, 3) := by decide +kernel
theorem dX2_isMirror_21 : decode cX2_isMirror 21 = .ok (.iconst 0, 1) := by decide +kernel
theorem dX2_isMirror_22 : decode cX2_isMirror 22 = .ok (.ireturn, 1) := by decide +kernel
theorem dX2_isMirror_23 : decode cX2_isMirror 23 = .ok (.iconst 0, 1) := by decide +kernel
theorem dX2_isMirror_24 : decode cX2_isMirror 24 = .ok (.istore 4, 2) := by decide +kernel
theorem dX2_isMirror_26 : decode cX2_isMirror 26 = .ok (.iload 4, 2) := by decide +kernel
theorem dX2_isMirror_28 : decode cX2_isMirror 28 = .ok (.iload_n 3, 1) := by decide +kernel
theorem dX2_isMirror_29 : decode cX2_isMirror 29 = .ok (.if_icmp .ge 45, 3) := by decide +kernel
theorem dX2_isMirror_32 : decode cX2_isMirror 32 = .ok (.aload_n 0, 1) := by decide +kernel
theorem dX2_isMirror_33 : decode cX2_isMirror 33 = .ok (.getfield 9, 3) := by decide +kernel
theorem dX2_isMirror_36 : decode cX2_isMirror 36 = .ok (.iload_n 2, 1) := by decide +kernel
theorem dX2_isMirror_37 : decode cX2_isMirror 37 = .ok (.iload_n 3, 1) := by decide +kernel
theorem dX2_isMirror_38 : decode cX2_isMirror 38 = .ok (.iconst 1, 1) := by decide +kernel
theorem dX2_isMirror_39 : decode cX2_isMirror 39 = .ok (.isub, 1) := by decide +kernel
theorem dX2_isMirror_40 : decode cX2_isMirror 40 = .ok (.iload 4, 2) := by decide +kernel
theorem dX2_isMirror_42 : decode cX2_isMirror 42 = .ok (.isub, 1) := by decide +kernel
theorem dX2_isMirror_43 : decode cX2_isMirror 43 = .ok (.invokevirtual 21, 3) := by decide +kernel
theorem dX2_isMirror_46 : decode cX2_isMirror 46 = .ok (.istore 5, 2) := by decide +kernel
theorem dX2_isMirror_48 : decode cX2_isMirror 48 = .ok (.aload_n 0, 1) := by decide +kernel
theorem dX2_isMirror_49 : decode cX2_isMirror 49 = .ok (.getfield 9, 3) := by decide +kernel
theorem dX2_isMirror_52 : decode cX2_isMirror 52 = .ok (.iload_n 1, 1) := by decide +kernel
theorem dX2_isMirror_53 : decode cX2_isMirror 53 = .ok (.iload 4, 2) := by decide +kernel
theorem dX2_isMirror_55 : decode cX2_isMirror 55 = .ok (.invokevirtual 21, 3) := by decide +kernel
theorem dX2_isMirror_58 : decode cX2_isMirror 58 = .ok (.iload 5, 2) := by decide +kernel
theorem dX2_isMirror_60 : decode cX2_isMirror 60 = .ok (.invokestatic 36, 3) := by decide +kernel
theorem dX2_isMirror_63 : decode cX2_isMirror 63 = .ok (.if_icmp .eq 5, 3) := by decide +kernel
theorem dX2_isMirror_66 : decode cX2_isMirror 66 = .ok (.iconst 0, 1) := by decide +kernel
theorem dX2_isMirror_67 : decode cX2_isMirror 67 = .ok (.ireturn, 1) := by decide +kernel
theorem dX2_isMirror_68 : decode cX2_isMirror 68 = .ok (.iinc 4 1, 3) := by decide +kernel
theorem dX2_isMirror_71 : decode cX2_isMirror 71 = .ok (.goto (-45), 3) := by decide +kernel
theorem dX2_isMirror_74 : decode cX2_isMirror 74 = .ok (.iconst 1, 1) := by decide +kernel
theorem dX2_isMirror_75 : decode cX2_isMirror 75 = .ok (.ireturn, 1) := by decide +kernel
set_option maxRecDepth 20000 in
theorem ggX2_isOwnMirror_X2_isMirror : GoodIn wsX2_isOwnMirror wsX2_isMirror := goodIn_r _ [5, 6, 7, 8, 9, 10, 11, 12, 13, 14, 15, 16, 17, 18, 19, 20, 21, 22, 23, 24, 25, 26, 27, 28, 29, 30, 31, 32] (by decide +kernel) (by decide +kernel)
set_option maxRecDepth 20000 in
theorem gX2_isOwnMirror_X2_isMirror : GoodIn wsX2_isOwnMirror (wsV RX2 39 RX2 yX2_isMirror wsX2_isMirror) := goodIn_app (goodIn_of _ (by decide +kernel)) ggX2_isOwnMirror_X2_isMirror
theorem dX2_isOwnMirror_0 : decode cX2_isOwnMirror 0 = .ok (.aload_n 0, 1) := by decide +kernel
theorem dX2_isOwnMirror_1 : decode cX2_isOwnMirror 1 = .ok (.iload_n 1, 1) := by decide +kernel
theorem dX2_isOwnMirror_2 : decode cX2_isOwnMirror 2 = .ok (.iload_n 1, 1) := by decide +kernel
theorem dX2_isOwnMirror_3 : decode cX2_isOwnMirror 3 = .ok (.invokevirtual 39, 3) := by decide +kernel
theorem dX2_isOwnMirror_6 : decode cX2_isOwnMirror 6 = .ok (.ireturn, 1) := by decide +kernel
set_option maxRecDepth 20000 in
theorem ggX2_repeatsAfter_X4_lengthOf : GoodIn wsX2_repeatsAfter wsX4_lengthOf := goodIn_r _ [6, 7, 8, 9, 10, 11, 12, 13, 23, 24] (by decide +kernel) (by decide +kernel)
set_option maxRecDepth 20000 in
theorem gX2_repeatsAfter_X4_lengthOf : GoodIn wsX2_repeatsAfter (wsV RX2 15 RX4 yX4_lengthOf wsX4_lengthOf) := goodIn_app (goodIn_of _ (by decide +kernel)) ggX2_repeatsAfter_X4_lengthOf
set_option maxRecDepth 20000 in
theorem ggX2_repeatsAfter_X4_dollAt : GoodIn wsX2_repeatsAfter wsX4_dollAt := goodIn_r _ [17, 7, 18, 19, 20, 5, 21, 8, 9, 10, 11, 12, 13, 23, 24] (by decide +kernel) (by decide +kernel)
set_option maxRecDepth 20000 in
theorem gX2_repeatsAfter_X4_dollAt : GoodIn wsX2_repeatsAfter (wsV RX2 21 RX4 yX4_dollAt wsX4_dollAt) := goodIn_app (goodIn_of _ (by decide +kernel)) ggX2_repeatsAfter_X4_dollAt
theorem dX2_repeatsAfter_0 : decode cX2_repeatsAfter 0 = .ok (.aload_n 0, 1) := by decide +kernel
theorem dX2_repeatsAfter_1 : decode cX2_repeatsAfter 1 = .ok (.getfield 9, 3) := by decide +kernel
theorem dX2_repeatsAfter_4 : decode cX2_repeatsAfter 4 = .ok (.iload_n 1, 1) := by decide +kernel
theorem dX2_repeatsAfter_5 : decode cX2_repeatsAfter 5 = .ok (.invokevirtual 15, 3) := by decide +kernel
theorem dX2_repeatsAfter_8 : decode cX2_repeatsAfter 8 = .ok (.istore_n 3, 1) := by decide +kernel
theorem dX2_repeatsAfter_9 : decode cX2_repeatsAfter 9 = .ok (.iload_n 2, 1) := by decide +kernel
theorem dX2_repeatsAfter_10 : decode cX2_repeatsAfter 10 = .ok (.istore 4, 2) := by decide +kernel
theorem dX2_repeatsAfter_12 : decode cX2_repeatsAfter 12 = .ok (.iload 4, 2) := by decide +kernel
theorem dX2_repeatsAfter_14 : decode cX2_repeatsAfter 14 = .ok (.iload_n 3, 1) := by decide +kernel
theorem dX2_repeatsAfter_15 : decode cX2_repeatsAfter 15 = .ok (.if_icmp .ge 36, 3) := by decide +kernel
theorem dX2_repeatsAfter_18 : decode cX2_repeatsAfter 18 = .ok (.aload_n 0, 1) := by decide +kernel
theorem dX2_repeatsAfter_19 : decode cX2_repeatsAfter 19 = .ok (.getfield 9, 3) := by decide +kernel
theorem dX2_repeatsAfter_22 : decode cX2_repeatsAfter 22 = .ok (.iload_n 1, 1) := by decide +kernel
theorem dX2_repeatsAfter_23 : decode cX2_repeatsAfter 23 = .ok (.iload 4, 2) := by decide +kernel
theorem dX2_repeatsAfter_25 : decode cX2_repeatsAfter 25 = .ok (.invokevirtual 21, 3) := by decide +kernel
theorem dX2_repeatsAfter_28 : decode cX2_repeatsAfter 28 = .ok (.aload_n 0, 1) := by decide +kernel
theorem dX2_repeatsAfter_29 : decode cX2_repeatsAfter 29 = .ok (.getfield 9, 3) := by decide +kernel
theorem dX2_repeatsAfter_32 : decode cX2_repeatsAfter 32 = .ok (.iload_n 1, 1) := by decide +kernel
theorem dX2_repeatsAfter_33 : decode cX2_repeatsAfter 33 = .ok (.iload 4, 2) := by decide +kernel
theorem dX2_repeatsAfter_35 : decode cX2_repeatsAfter 35 = .ok (.iload_n 2, 1) := by decide +kernel
theorem dX2_repeatsAfter_36 : decode cX2_repeatsAfter 36 = .ok (.isub, 1) := by decide +kernel
theorem dX2_repeatsAfter_37 : decode cX2_repeatsAfter 37 = .ok (.invokevirtual 21, 3) := by decide +kernel
theorem dX2_repeatsAfter_40 : decode cX2_repeatsAfter 40 = .ok (.if_icmp .eq 5, 3) := by decide +kernel
theorem dX2_repeatsAfter_43 : decode cX2_repeatsAfter 43 = .ok (.iconst 0, 1) := by decide +kernel
theorem dX2_repeatsAfter_44 : decode cX2_repeatsAfter 44 = .ok (.ireturn, 1) := by decide +kernel
theorem dX2_repeatsAfter_45 : decode cX2_repeatsAfter 45 = .ok (.iinc 4 1, 3) := by decide +kernel
theorem dX2_repeatsAfter_48 : decode cX2_repeatsAfter 48 = .ok (.goto (-36), 3) := by decide +kernel
theorem dX2_repeatsAfter_51 : decode cX2_repeatsAfter 51 = .ok (.iconst 1, 1) := by decide +kernel
theorem dX2_repeatsAfter_52 : decode cX2_repeatsAfter 52 = .ok (.ireturn, 1) := by decide +kernel
set_option maxRecDepth 20000 in
theorem ggX2_repeatOf_X4_lengthOf : GoodIn wsX2_repeatOf wsX4_lengthOf := goodIn_r _ [6, 7, 8, 9, 10, 11, 12, 13, 28, 29] (by decide +kernel) (by decide +kernel)
set_option maxRecDepth 20000 in
theorem gX2_repeatOf_X4_lengthOf : GoodIn wsX2_repeatOf (wsV RX2 15 RX4 yX4_lengthOf wsX4_lengthOf) := goodIn_app (goodIn_of _ (by decide +kernel)) ggX2_repeatOf_X4_lengthOf
set_option maxRecDepth 20000 in
theorem ggX2_repeatOf_X2_repeatsAfter : GoodIn wsX2_repeatOf wsX2_repeatsAfter := goodIn_r _ [18, 1, 2, 3, 4, 5, 6, 7, 8, 9, 10, 11, 12, 13, 19, 20, 21, 22, 23, 24, 25, 26, 27, 28, 29] (by decide +kernel) (by decide +kernel)
set_option maxRecDepth 20000 in
theorem gX2_repeatOf_X2_repeatsAfter : GoodIn wsX2_repeatOf (wsV RX2 43 RX2 yX2_repeatsAfter wsX2_repeatsAfter) := goodIn_app (goodIn_of _ (by decide +kernel)) ggX2_repeatOf_X2_repeatsAfter
theorem dX2_repeatOf_0 : decode cX2_repeatOf 0 = .ok (.aload_n 0, 1) := by decide +kernel
theorem dX2_repeatOf_1 : decode cX2_repeatOf 1 = .ok (.getfield 9, 3) := by decide +kernel
theorem dX2_repeatOf_4 : decode cX2_repeatOf 4 = .ok (.iload_n 1, 1) := by decide +kernel
theorem dX2_repeatOf_5 : decode cX2_repeatOf 5 = .ok (.invokevirtual 15, 3) := by decide +kernel
theorem dX2_repeatOf_8 : decode cX2_repeatOf 8 = .ok (.istore_n 2, 1) := by decide +kernel
theorem dX2_repeatOf_9 : decode cX2_repeatOf 9 = .ok (.iconst 1, 1) := by decide +kernel
theorem dX2_repeatOf_10 : decode cX2_repeatOf 10 = .ok (.istore_n 3, 1) := by decide +kernel
theorem dX2_repeatOf_11 : decode cX2_repeatOf 11 = .ok (.iload_n 3, 1) := by decide +kernel
theorem dX2_repeatOf_12 : decode cX2_repeatOf 12 = .ok (.iload_n 2, 1) := by decide +kernel
theorem dX2_repeatOf_13 : decode cX2_repeatOf 13 = .ok (.if_icmp .ge 20, 3) := by decide +kernel
theorem dX2_repeatOf_16 : decode cX2_repeatOf 16 = .ok (.aload_n 0, 1) := by decide +kernel
theorem dX2_repeatOf_17 : decode cX2_repeatOf 17 = .ok (.iload_n 1, 1) := by decide +kernel
theorem dX2_repeatOf_18 : decode cX2_repeatOf 18 = .ok (.iload_n 3, 1) := by decide +kernel
theorem dX2_repeatOf_19 : decode cX2_repeatOf 19 = .ok (.invokevirtual 43, 3) := by decide +kernel
theorem dX2_repeatOf_22 : decode cX2_repeatOf 22 = .ok (.ifCond .eq 5, 3) := by decide +kernel
theorem dX2_repeatOf_25 : decode cX2_repeatOf 25 = .ok (.iload_n 3, 1) := by decide +kernel
theorem dX2_repeatOf_26 : decode cX2_repeatOf 26 = .ok (.ireturn, 1) := by decide +kernel
theorem dX2_repeatOf_27 : decode cX2_repeatOf 27 = .ok (.iinc 3 1, 3) := by decide +kernel
theorem dX2_repeatOf_30 : decode cX2_repeatOf 30 = .ok (.goto (-19), 3) := by decide +kernel
theorem dX2_repeatOf_33 : decode cX2_repeatOf 33 = .ok (.iload_n 2, 1) := by decide +kernel
theorem dX2_repeatOf_34 : decode cX2_repeatOf 34 = .ok (.ireturn, 1) := by decide +kernel
set_option maxRecDepth 20000 in
theorem ggX2_lowestAlike_X2_isSame : GoodIn wsX2_lowestAlike wsX2_isSame := goodIn_r _ [5, 6, 7, 8, 9, 10, 11, 12, 13, 14, 15, 16, 17, 18, 19, 20, 21, 22, 23, 24, 25, 26, 34, 35, 36] (by decide +kernel) (by decide +kernel)
set_option maxRecDepth 20000 in
theorem gX2_lowestAlike_X2_isSame : GoodIn wsX2_lowestAlike (wsV RX2 46 RX2 yX2_isSame wsX2_isSame) := goodIn_app (goodIn_of _ (by decide +kernel)) ggX2_lowestAlike_X2_isSame
set_option maxRecDepth 20000 in
theorem ggX2_lowestAlike_X2_isMirror : GoodIn wsX2_lowestAlike wsX2_isMirror := goodIn_r _ [30, 6, 7, 8, 9, 10, 11, 12, 13, 14, 15, 16, 17, 18, 19, 20, 21, 22, 23, 24, 25, 26, 31, 32, 33, 34, 35, 36] (by decide +kernel) (by decide +kernel)
set_option maxRecDepth 20000 in
theorem gX2_lowestAlike_X2_isMirror : GoodIn wsX2_lowestAlike (wsV RX2 39 RX2 yX2_isMirror wsX2_isMirror) := goodIn_app (goodIn_of _ (by decide +kernel)) ggX2_lowestAlike_X2_isMirror
theorem dX2_lowestAlike_0 : decode cX2_lowestAlike 0 = .ok (.iconst 0, 1) := by decide +kernel
theorem dX2_lowestAlike_1 : decode cX2_lowestAlike 1 = .ok (.istore_n 2, 1) := by decide +kernel
theorem dX2_lowestAlike_2 : decode cX2_lowestAlike 2 = .ok (.iload_n 2, 1) := by decide +kernel
theorem dX2_lowestAlike_3 : decode cX2_lowestAlike 3 = .ok (.iload_n 1, 1) := by decide +kernel
theorem dX2_lowestAlike_4 : decode cX2_lowestAlike 4 = .ok (.if_icmp .ge 29, 3) := by decide +kernel
theorem dX2_lowestAlike_7 : decode cX2_lowestAlike 7 = .ok (.aload_n 0, 1) := by decide +kernel
theorem dX2_lowestAlike_8 : decode cX2_lowestAlike 8 = .ok (.iload_n 1, 1) := by decide +kernel
theorem dX2_lowestAlike_9 : decode cX2_lowestAlike 9 = .ok (.iload_n 2, 1) := by decide +kernel
theorem dX2_lowestAlike_10 : decode cX2_lowestAlike 10 = .ok (.invokevirtual 46, 3) := by decide +kernel
theorem dX2_lowestAlike_13 : decode cX2_lowestAlike 13 = .ok (.ifCond .ne 12, 3) := by decide +kernel
theorem dX2_lowestAlike_16 : decode cX2_lowestAlike 16 = .ok (.aload_n 0, 1) := by decide +kernel
theorem dX2_lowestAlike_17 : decode cX2_lowestAlike 17 = .ok (.iload_n 1, 1) := by decide +kernel
theorem dX2_lowestAlike_18 : decode cX2_lowestAlike 18 = .ok (.iload_n 2, 1) := by decide +kernel
theorem dX2_lowestAlike_19 : decode cX2_lowestAlike 19 = .ok (.invokevirtual 39, 3) := by decide +kernel
theorem dX2_lowestAlike_22 : decode cX2_lowestAlike 22 = .ok (.ifCond .eq 5, 3) := by decide +kernel
theorem dX2_lowestAlike_25 : decode cX2_lowestAlike 25 = .ok (.iload_n 2, 1) := by decide +kernel
theorem dX2_lowestAlike_26 : decode cX2_lowestAlike 26 = .ok (.ireturn, 1) := by decide +kernel
theorem dX2_lowestAlike_27 : decode cX2_lowestAlike 27 = .ok (.iinc 2 1, 3) := by decide +kernel
theorem dX2_lowestAlike_30 : decode cX2_lowestAlike 30 = .ok (.goto (-28), 3) := by decide +kernel
theorem dX2_lowestAlike_33 : decode cX2_lowestAlike 33 = .ok (.iload_n 1, 1) := by decide +kernel
theorem dX2_lowestAlike_34 : decode cX2_lowestAlike 34 = .ok (.ireturn, 1) := by decide +kernel
set_option maxRecDepth 20000 in
theorem ggX2_highestKind_X4_lengthOf : GoodIn wsX2_highestKind wsX4_lengthOf := goodIn_r _ [10, 11, 12, 13, 14, 15, 16, 17, 30, 31] (by decide +kernel) (by decide +kernel)
set_option maxRecDepth 20000 in
theorem gX2_highestKind_X4_lengthOf : GoodIn wsX2_highestKind (wsV RX2 15 RX4 yX4_lengthOf wsX4_lengthOf) := goodIn_app (goodIn_of _ (by decide +kernel)) ggX2_highestKind_X4_lengthOf
set_option maxRecDepth 20000 in
theorem ggX2_highestKind_X4_dollAt : GoodIn wsX2_highestKind wsX4_dollAt := goodIn_r _ [21, 11, 22, 23, 24, 9, 25, 12, 13, 14, 15, 16, 17, 30, 31] (by decide +kernel) (by decide +kernel)
set_option maxRecDepth 20000 in
theorem gX2_highestKind_X4_dollAt : GoodIn wsX2_highestKind (wsV RX2 21 RX4 yX4_dollAt wsX4_dollAt) := goodIn_app (goodIn_of _ (by decide +kernel)) ggX2_highestKind_X4_dollAt
set_option maxRecDepth 20000 in
theorem ggX2_highestKind_X6_kindOf : GoodIn wsX2_highestKind wsX6_kindOf := goodIn_r _ [28] (by decide +kernel) (by decide +kernel)
set_option maxRecDepth 20000 in
theorem gX2_highestKind_X6_kindOf_n33 : GoodIn wsX2_highestKind (wsX6_kindOf) := ggX2_highestKind_X6_kindOf
theorem dX2_highestKind_0 : decode cX2_highestKind 0 = .ok (.iconst 0, 1) := by decide +kernel
theorem dX2_highestKind_1 : decode cX2_highestKind 1 = .ok (.istore_n 1, 1) := by decide +kernel
theorem dX2_highestKind_2 : decode cX2_highestKind 2 = .ok (.iconst 0, 1) := by decide +kernel
theorem dX2_highestKind_3 : decode cX2_highestKind 3 = .ok (.istore_n 2, 1) := by decide +kernel
theorem dX2_highestKind_4 : decode cX2_highestKind 4 = .ok (.iload_n 2, 1) := by decide +kernel
theorem dX2_highestKind_5 : decode cX2_highestKind 5 = .ok (.bipush 8, 2) := by decide +kernel
theorem dX2_highestKind_7 : decode cX2_highestKind 7 = .ok (.if_icmp .ge 51, 3) := by decide +kernel
theorem dX2_highestKind_10 : decode cX2_highestKind 10 = .ok (.aload_n 0, 1) := by decide +kernel
theorem dX2_highestKind_11 : decode cX2_highestKind 11 = .ok (.getfield 9, 3) := by decide +kernel
theorem dX2_highestKind_14 : decode cX2_highestKind 14 = .ok (.iload_n 2, 1) := by decide +kernel
theorem dX2_highestKind_15 : decode cX2_highestKind 15 = .ok (.invokevirtual 15, 3) := by decide +kernel
theorem dX2_highestKind_18 : decode cX2_highestKind 18 = .ok (.istore_n 3, 1) := by decide +kernel
theorem dX2_highestKind_19 : decode cX2_highestKind 19 = .ok (.iconst 0, 1) := by decide +kernel
theorem dX2_highestKind_20 : decode cX2_highestKind 20 = .ok (.istore 4, 2) := by decide +kernel
theorem dX2_highestKind_22 : decode cX2_highestKind 22 = .ok (.iload 4, 2) := by decide +kernel
theorem dX2_highestKind_24 : decode cX2_highestKind 24 = .ok (.iload_n 3, 1) := by decide +kernel
theorem dX2_highestKind_25 : decode cX2_highestKind 25 = .ok (.if_icmp .ge 27, 3) := by decide +kernel
theorem dX2_highestKind_28 : decode cX2_highestKind 28 = .ok (.iload_n 1, 1) := by decide +kernel
theorem dX2_highestKind_29 : decode cX2_highestKind 29 = .ok (.aload_n 0, 1) := by decide +kernel
theorem dX2_highestKind_30 : decode cX2_highestKind 30 = .ok (.getfield 9, 3) := by decide +kernel
theorem dX2_highestKind_33 : decode cX2_highestKind 33 = .ok (.iload_n 2, 1) := by decide +kernel
theorem dX2_highestKind_34 : decode cX2_highestKind 34 = .ok (.iload 4, 2) := by decide +kernel
theorem dX2_highestKind_36 : decode cX2_highestKind 36 = .ok (.invokevirtual 21, 3) := by decide +kernel
theorem dX2_highestKind_39 : decode cX2_highestKind 39 = .ok (.invokestatic 33, 3) := by decide +kernel
theorem dX2_highestKind_42 : decode cX2_highestKind 42 = .ok (.invokestatic 49, 3) := by decide +kernel
theorem dX2_highestKind_45 : decode cX2_highestKind 45 = .ok (.istore_n 1, 1) := by decide +kernel
theorem dX2_highestKind_46 : decode cX2_highestKind 46 = .ok (.iinc 4 1, 3) := by decide +kernel
theorem dX2_highestKind_49 : decode cX2_highestKind 49 = .ok (.goto (-27), 3) := by decide +kernel
theorem dX2_highestKind_52 : decode cX2_highestKind 52 = .ok (.iinc 2 1, 3) := by decide +kernel
theorem dX2_highestKind_55 : decode cX2_highestKind 55 = .ok (.goto (-51), 3) := by decide +kernel
theorem dX2_highestKind_58 : decode cX2_highestKind 58 = .ok (.iload_n 1, 1) := by decide +kernel
theorem dX2_highestKind_59 : decode cX2_highestKind 59 = .ok (.ireturn, 1) := by decide +kernel
set_option maxRecDepth 20000 in
theorem ggX2_dollsLike_X4_lengthOf : GoodIn wsX2_dollsLike wsX4_lengthOf := goodIn_r _ [6, 7, 8, 9, 10, 11, 12, 13, 26, 27] (by decide +kernel) (by decide +kernel)
set_option maxRecDepth 20000 in
theorem gX2_dollsLike_X4_lengthOf : GoodIn wsX2_dollsLike (wsV RX2 15 RX4 yX4_lengthOf wsX4_lengthOf) := goodIn_app (goodIn_of _ (by decide +kernel)) ggX2_dollsLike_X4_lengthOf
set_option maxRecDepth 20000 in
theorem ggX2_dollsLike_X4_dollAt : GoodIn wsX2_dollsLike wsX4_dollAt := goodIn_r _ [17, 7, 18, 19, 20, 5, 21, 8, 9, 10, 11, 12, 13, 26, 27] (by decide +kernel) (by decide +kernel)
set_option maxRecDepth 20000 in
theorem gX2_dollsLike_X4_dollAt : GoodIn wsX2_dollsLike (wsV RX2 21 RX4 yX4_dollAt wsX4_dollAt) := goodIn_app (goodIn_of _ (by decide +kernel)) ggX2_dollsLike_X4_dollAt
set_option maxRecDepth 20000 in
theorem ggX2_dollsLike_X6_oneIf : GoodIn wsX2_dollsLike wsX6_oneIf := goodIn_r _ [24] (by decide +kernel) (by decide +kernel)
set_option maxRecDepth 20000 in
theorem gX2_dollsLike_X6_oneIf_n29 : GoodIn wsX2_dollsLike (wsX6_oneIf) := ggX2_dollsLike_X6_oneIf
theorem dX2_dollsLike_0 : decode cX2_dollsLike 0 = .ok (.iconst 0, 1) := by decide +kernel
theorem dX2_dollsLike_1 : decode cX2_dollsLike 1 = .ok (.istore_n 2, 1) := by decide +kernel
theorem dX2_dollsLike_2 : decode cX2_dollsLike 2 = .ok (.iconst 0, 1) := by decide +kernel
theorem dX2_dollsLike_3 : decode cX2_dollsLike 3 = .ok (.istore_n 3, 1) := by decide +kernel
theorem dX2_dollsLike_4 : decode cX2_dollsLike 4 = .ok (.iload_n 3, 1) := by decide +kernel
theorem dX2_dollsLike_5 : decode cX2_dollsLike 5 = .ok (.bipush 8, 2) := by decide +kernel
theorem dX2_dollsLike_7 : decode cX2_dollsLike 7 = .ok (.if_icmp .ge 60, 3) := by decide +kernel
theorem dX2_dollsLike_10 : decode cX2_dollsLike 10 = .ok (.aload_n 0, 1) := by decide +kernel
theorem dX2_dollsLike_11 : decode cX2_dollsLike 11 = .ok (.getfield 9, 3) := by decide +kernel
theorem dX2_dollsLike_14 : decode cX2_dollsLike 14 = .ok (.iload_n 3, 1) := by decide +kernel
theorem dX2_dollsLike_15 : decode cX2_dollsLike 15 = .ok (.invokevirtual 15, 3) := by decide +kernel
theorem dX2_dollsLike_18 : decode cX2_dollsLike 18 = .ok (.istore 4, 2) := by decide +kernel
theorem dX2_dollsLike_20 : decode cX2_dollsLike 20 = .ok (.iconst 0, 1) := by decide +kernel
theorem dX2_dollsLike_21 : decode cX2_dollsLike 21 = .ok (.istore 5, 2) := by decide +kernel
theorem dX2_dollsLike_23 : decode cX2_dollsLike 23 = .ok (.iload 5, 2) := by decide +kernel
theorem dX2_dollsLike_25 : decode cX2_dollsLike 25 = .ok (.iload 4, 2) := by decide +kernel
theorem dX2_dollsLike_27 : decode cX2_dollsLike 27 = .ok (.if_icmp .ge 34, 3) := by decide +kernel
theorem dX2_dollsLike_30 : decode cX2_dollsLike 30 = .ok (.iload_n 2, 1) := by decide +kernel
theorem dX2_dollsLike_31 : decode cX2_dollsLike 31 = .ok (.aload_n 0, 1) := by decide +kernel
theorem dX2_dollsLike_32 : decode cX2_dollsLike 32 = .ok (.getfield 9, 3) := by decide +kernel
theorem dX2_dollsLike_35 : decode cX2_dollsLike 35 = .ok (.iload_n 3, 1) := by decide +kernel
theorem dX2_dollsLike_36 : decode cX2_dollsLike 36 = .ok (.iload 5, 2) := by decide +kernel
theorem dX2_dollsLike_38 : decode cX2_dollsLike 38 = .ok (.invokevirtual 21, 3) := by decide +kernel
theorem dX2_dollsLike_41 : decode cX2_dollsLike 41 = .ok (.iload_n 1, 1) := by decide +kernel
theorem dX2_dollsLike_42 : decode cX2_dollsLike 42 = .ok (.if_icmp .ne 7, 3) := by decide +kernel
theorem dX2_dollsLike_45 : decode cX2_dollsLike 45 = .ok (.iconst 1, 1) := by decide +kernel
theorem dX2_dollsLike_46 : decode cX2_dollsLike 46 = .ok (.goto 4, 3) := by decide +kernel
theorem dX2_dollsLike_49 : decode cX2_dollsLike 49 = .ok (.iconst 0, 1) := by decide +kernel
theorem dX2_dollsLike_50 : decode cX2_dollsLike 50 = .ok (.invokestatic 29, 3) := by decide +kernel
theorem dX2_dollsLike_53 : decode cX2_dollsLike 53 = .ok (.iadd, 1) := by decide +kernel
theorem dX2_dollsLike_54 : decode cX2_dollsLike 54 = .ok (.istore_n 2, 1) := by decide +kernel
theorem dX2_dollsLike_55 : decode cX2_dollsLike 55 = .ok (.iinc 5 1, 3) := by decide +kernel
theorem dX2_dollsLike_58 : decode cX2_dollsLike 58 = .ok (.goto (-35), 3) := by decide +kernel
theorem dX2_dollsLike_61 : decode cX2_dollsLike 61 = .ok (.iinc 3 1, 3) := by decide +kernel
theorem dX2_dollsLike_64 : decode cX2_dollsLike 64 = .ok (.goto (-60), 3) := by decide +kernel
theorem dX2_dollsLike_67 : decode cX2_dollsLike 67 = .ok (.iload_n 2, 1) := by decide +kernel
theorem dX2_dollsLike_68 : decode cX2_dollsLike 68 = .ok (.ireturn, 1) := by decide +kernel
set_option maxRecDepth 20000 in
theorem ggX2_garlands_X4_hasGarland : GoodIn wsX2_garlands wsX4_hasGarland := goodIn_r _ [6, 7, 8, 9, 10, 11, 12, 5, 13, 14, 15, 16, 17, 18, 19, 20, 24, 25] (by decide +kernel) (by decide +kernel)
set_option maxRecDepth 20000 in
theorem gX2_garlands_X4_hasGarland : GoodIn wsX2_garlands (wsV RX2 54 RX4 yX4_hasGarland wsX4_hasGarland) := goodIn_app (goodIn_of _ (by decide +kernel)) ggX2_garlands_X4_hasGarland
set_option maxRecDepth 20000 in
theorem ggX2_garlands_X6_oneIf : GoodIn wsX2_garlands wsX6_oneIf := goodIn_r _ [22] (by decide +kernel) (by decide +kernel)
set_option maxRecDepth 20000 in
theorem gX2_garlands_X6_oneIf_n29 : GoodIn wsX2_garlands (wsX6_oneIf) := ggX2_garlands_X6_oneIf
theorem dX2_garlands_0 : decode cX2_garlands 0 = .ok (.iconst 0, 1) := by decide +kernel
theorem dX2_garlands_1 : decode cX2_garlands 1 = .ok (.istore_n 1, 1) := by decide +kernel
theorem dX2_garlands_2 : decode cX2_garlands 2 = .ok (.iconst 0, 1) := by decide +kernel
theorem dX2_garlands_3 : decode cX2_garlands 3 = .ok (.istore_n 2, 1) := by decide +kernel
theorem dX2_garlands_4 : decode cX2_garlands 4 = .ok (.iload_n 2, 1) := by decide +kernel
theorem dX2_garlands_5 : decode cX2_garlands 5 = .ok (.bipush 8, 2) := by decide +kernel
theorem dX2_garlands_7 : decode cX2_garlands 7 = .ok (.if_icmp .ge 23, 3) := by decide +kernel
theorem dX2_garlands_10 : decode cX2_garlands 10 = .ok (.iload_n 1, 1) := by decide +kernel
theorem dX2_garlands_11 : decode cX2_garlands 11 = .ok (.aload_n 0, 1) := by decide +kernel
theorem dX2_garlands_12 : decode cX2_garlands 12 = .ok (.getfield 9, 3) := by decide +kernel
theorem dX2_garlands_15 : decode cX2_garlands 15 = .ok (.iload_n 2, 1) := by decide +kernel
theorem dX2_garlands_16 : decode cX2_garlands 16 = .ok (.invokevirtual 54, 3) := by decide +kernel
theorem dX2_garlands_19 : decode cX2_garlands 19 = .ok (.invokestatic 29, 3) := by decide +kernel
theorem dX2_garlands_22 : decode cX2_garlands 22 = .ok (.iadd, 1) := by decide +kernel
theorem dX2_garlands_23 : decode cX2_garlands 23 = .ok (.istore_n 1, 1) := by decide +kernel
theorem dX2_garlands_24 : decode cX2_garlands 24 = .ok (.iinc 2 1, 3) := by decide +kernel
theorem dX2_garlands_27 : decode cX2_garlands 27 = .ok (.goto (-23), 3) := by decide +kernel
theorem dX2_garlands_30 : decode cX2_garlands 30 = .ok (.iload_n 1, 1) := by decide +kernel
theorem dX2_garlands_31 : decode cX2_garlands 31 = .ok (.ireturn, 1) := by decide +kernel
set_option maxRecDepth 20000 in
theorem ggX2_dolls_X4_lengthOf : GoodIn wsX2_dolls wsX4_lengthOf := goodIn_r _ [6, 7, 8, 9, 10, 11, 12, 13, 15, 16] (by decide +kernel) (by decide +kernel)
set_option maxRecDepth 20000 in
theorem gX2_dolls_X4_lengthOf : GoodIn wsX2_dolls (wsV RX2 15 RX4 yX4_lengthOf wsX4_lengthOf) := goodIn_app (goodIn_of _ (by decide +kernel)) ggX2_dolls_X4_lengthOf
theorem dX2_dolls_0 : decode cX2_dolls 0 = .ok (.iconst 0, 1) := by decide +kernel
theorem dX2_dolls_1 : decode cX2_dolls 1 = .ok (.istore_n 1, 1) := by decide +kernel
theorem dX2_dolls_2 : decode cX2_dolls 2 = .ok (.iconst 0, 1) := by decide +kernel
theorem dX2_dolls_3 : decode cX2_dolls 3 = .ok (.istore_n 2, 1) := by decide +kernel
theorem dX2_dolls_4 : decode cX2_dolls 4 = .ok (.iload_n 2, 1) := by decide +kernel
theorem dX2_dolls_5 : decode cX2_dolls 5 = .ok (.bipush 8, 2) := by decide +kernel
theorem dX2_dolls_7 : decode cX2_dolls 7 = .ok (.if_icmp .ge 20, 3) := by decide +kernel
theorem dX2_dolls_10 : decode cX2_dolls 10 = .ok (.iload_n 1, 1) := by decide +kernel
theorem dX2_dolls_11 : decode cX2_dolls 11 = .ok (.aload_n 0, 1) := by decide +kernel
theorem dX2_dolls_12 : decode cX2_dolls 12 = .ok (.getfield 9, 3) := by decide +kernel
theorem dX2_dolls_15 : decode cX2_dolls 15 = .ok (.iload_n 2, 1) := by decide +kernel
theorem dX2_dolls_16 : decode cX2_dolls 16 = .ok (.invokevirtual 15, 3) := by decide +kernel
theorem dX2_dolls_19 : decode cX2_dolls 19 = .ok (.iadd, 1) := by decide +kernel
theorem dX2_dolls_20 : decode cX2_dolls 20 = .ok (.istore_n 1, 1) := by decide +kernel
theorem dX2_dolls_21 : decode cX2_dolls 21 = .ok (.iinc 2 1, 3) := by decide +kernel
theorem dX2_dolls_24 : decode cX2_dolls 24 = .ok (.goto (-20), 3) := by decide +kernel
theorem dX2_dolls_27 : decode cX2_dolls 27 = .ok (.iload_n 1, 1) := by decide +kernel
theorem dX2_dolls_28 : decode cX2_dolls 28 = .ok (.ireturn, 1) := by decide +kernel
set_option maxRecDepth 20000 in
theorem ggX2_mirroredDolls_X2_mirroredIn : GoodIn wsX2_mirroredDolls wsX2_mirroredIn := goodIn_r _ [5, 6, 7, 8, 9, 10, 11, 12, 13, 14, 15, 16, 17, 18, 19, 20, 21, 22, 23, 24, 25, 26, 27, 28, 29, 30, 31, 32, 33, 34] (by decide +kernel) (by decide +kernel)
set_option maxRecDepth 20000 in
theorem gX2_mirroredDolls_X2_mirroredIn : GoodIn wsX2_mirroredDolls (wsV RX2 57 RX2 yX2_mirroredIn wsX2_mirroredIn) := goodIn_app (goodIn_of _ (by decide +kernel)) ggX2_mirroredDolls_X2_mirroredIn
theorem dX2_mirroredDolls_0 : decode cX2_mirroredDolls 0 = .ok (.iconst 0, 1) := by decide +kernel
theorem dX2_mirroredDolls_1 : decode cX2_mirroredDolls 1 = .ok (.istore_n 1, 1) := by decide +kernel
theorem dX2_mirroredDolls_2 : decode cX2_mirroredDolls 2 = .ok (.iconst 0, 1) := by decide +kernel
theorem dX2_mirroredDolls_3 : decode cX2_mirroredDolls 3 = .ok (.istore_n 2, 1) := by decide +kernel
theorem dX2_mirroredDolls_4 : decode cX2_mirroredDolls 4 = .ok (.iload_n 2, 1) := by decide +kernel
theorem dX2_mirroredDolls_5 : decode cX2_mirroredDolls 5 = .ok (.bipush 8, 2) := by decide +kernel
theorem dX2_mirroredDolls_7 : decode cX2_mirroredDolls 7 = .ok (.if_icmp .ge 17, 3) := by decide +kernel
theorem dX2_mirroredDolls_10 : decode cX2_mirroredDolls 10 = .ok (.iload_n 1, 1) := by decide +kernel
theorem dX2_mirroredDolls_11 : decode cX2_mirroredDolls 11 = .ok (.aload_n 0, 1) := by decide +kernel
theorem dX2_mirroredDolls_12 : decode cX2_mirroredDolls 12 = .ok (.iload_n 2, 1) := by decide +kernel
theorem dX2_mirroredDolls_13 : decode cX2_mirroredDolls 13 = .ok (.invokevirtual 57, 3) := by decide +kernel
theorem dX2_mirroredDolls_16 : decode cX2_mirroredDolls 16 = .ok (.iadd, 1) := by decide +kernel
theorem dX2_mirroredDolls_17 : decode cX2_mirroredDolls 17 = .ok (.istore_n 1, 1) := by decide +kernel
theorem dX2_mirroredDolls_18 : decode cX2_mirroredDolls 18 = .ok (.iinc 2 1, 3) := by decide +kernel
theorem dX2_mirroredDolls_21 : decode cX2_mirroredDolls 21 = .ok (.goto (-17), 3) := by decide +kernel
theorem dX2_mirroredDolls_24 : decode cX2_mirroredDolls 24 = .ok (.iload_n 1, 1) := by decide +kernel
theorem dX2_mirroredDolls_25 : decode cX2_mirroredDolls 25 = .ok (.ireturn, 1) := by decide +kernel
set_option maxRecDepth 20000 in
theorem ggX2_ownMirrors_X4_hasGarland : GoodIn wsX2_ownMirrors wsX4_hasGarland := goodIn_r _ [6, 7, 8, 9, 10, 11, 12, 5, 13, 14, 15, 16, 17, 18, 19, 20, 44, 45] (by decide +kernel) (by decide +kernel)
set_option maxRecDepth 20000 in
theorem gX2_ownMirrors_X4_hasGarland : GoodIn wsX2_ownMirrors (wsV RX2 54 RX4 yX4_hasGarland wsX4_hasGarland) := goodIn_app (goodIn_of _ (by decide +kernel)) ggX2_ownMirrors_X4_hasGarland
set_option maxRecDepth 20000 in
theorem ggX2_ownMirrors_X2_isOwnMirror : GoodIn wsX2_ownMirrors wsX2_isOwnMirror := goodIn_r _ [25, 26, 27, 28, 24, 29, 1, 30, 11, 12, 5, 13, 14, 15, 16, 17, 18, 19, 20, 31, 32, 33, 34, 35, 36, 37, 38, 39, 8, 40, 43, 44, 45] (by decide +kernel) (by decide +kernel)
set_option maxRecDepth 20000 in
theorem gX2_ownMirrors_X2_isOwnMirror : GoodIn wsX2_ownMirrors (wsV RX2 60 RX2 yX2_isOwnMirror wsX2_isOwnMirror) := goodIn_app (goodIn_of _ (by decide +kernel)) ggX2_ownMirrors_X2_isOwnMirror
set_option maxRecDepth 20000 in
theorem ggX2_ownMirrors_X6_oneIf : GoodIn wsX2_ownMirrors wsX6_oneIf := goodIn_r _ [42] (by decide +kernel) (by decide +kernel)
set_option maxRecDepth 20000 in
theorem gX2_ownMirrors_X6_oneIf_n29 : GoodIn wsX2_ownMirrors (wsX6_oneIf) := ggX2_ownMirrors_X6_oneIf
theorem dX2_ownMirrors_0 : decode cX2_ownMirrors 0 = .ok (.iconst 0, 1) := by decide +kernel
theorem dX2_ownMirrors_1 : decode cX2_ownMirrors 1 = .ok (.istore_n 1, 1) := by decide +kernel
theorem dX2_ownMirrors_2 : decode cX2_ownMirrors 2 = .ok (.iconst 0, 1) := by decide +kernel
theorem dX2_ownMirrors_3 : decode cX2_ownMirrors 3 = .ok (.istore_n 2, 1) := by decide +kernel
theorem dX2_ownMirrors_4 : decode cX2_ownMirrors 4 = .ok (.iload_n 2, 1) := by decide +kernel
theorem dX2_ownMirrors_5 : decode cX2_ownMirrors 5 = .ok (.bipush 8, 2) := by decide +kernel
theorem dX2_ownMirrors_7 : decode cX2_ownMirrors 7 = .ok (.if_icmp .ge 39, 3) := by decide +kernel
theorem dX2_ownMirrors_10 : decode cX2_ownMirrors 10 = .ok (.iload_n 1, 1) := by decide +kernel
theorem dX2_ownMirrors_11 : decode cX2_ownMirrors 11 = .ok (.aload_n 0, 1) := by decide +kernel
theorem dX2_ownMirrors_12 : decode cX2_ownMirrors 12 = .ok (.getfield 9, 3) := by decide +kernel
theorem dX2_ownMirrors_15 : decode cX2_ownMirrors 15 = .ok (.iload_n 2, 1) := by decide +kernel
theorem dX2_ownMirrors_16 : decode cX2_ownMirrors 16 = .ok (.invokevirtual 54, 3) := by decide +kernel
theorem dX2_ownMirrors_19 : decode cX2_ownMirrors 19 = .ok (.ifCond .eq 15, 3) := by decide +kernel
theorem dX2_ownMirrors_22 : decode cX2_ownMirrors 22 = .ok (.aload_n 0, 1) := by decide +kernel
theorem dX2_ownMirrors_23 : decode cX2_ownMirrors 23 = .ok (.iload_n 2, 1) := by decide +kernel
theorem dX2_ownMirrors_24 : decode cX2_ownMirrors 24 = .ok (.invokevirtual 60, 3) := by decide +kernel
theorem dX2_ownMirrors_27 : decode cX2_ownMirrors 27 = .ok (.ifCond .eq 7, 3) := by decide +kernel
theorem dX2_ownMirrors_30 : decode cX2_ownMirrors 30 = .ok (.iconst 1, 1) := by decide +kernel
theorem dX2_ownMirrors_31 : decode cX2_ownMirrors 31 = .ok (.goto 4, 3) := by decide +kernel
theorem dX2_ownMirrors_34 : decode cX2_ownMirrors 34 = .ok (.iconst 0, 1) := by decide +kernel
theorem dX2_ownMirrors_35 : decode cX2_ownMirrors 35 = .ok (.invokestatic 29, 3) := by decide +kernel
theorem dX2_ownMirrors_38 : decode cX2_ownMirrors 38 = .ok (.iadd, 1) := by decide +kernel
theorem dX2_ownMirrors_39 : decode cX2_ownMirrors 39 = .ok (.istore_n 1, 1) := by decide +kernel
theorem dX2_ownMirrors_40 : decode cX2_ownMirrors 40 = .ok (.iinc 2 1, 3) := by decide +kernel
theorem dX2_ownMirrors_43 : decode cX2_ownMirrors 43 = .ok (.goto (-39), 3) := by decide +kernel
theorem dX2_ownMirrors_46 : decode cX2_ownMirrors 46 = .ok (.iload_n 1, 1) := by decide +kernel
theorem dX2_ownMirrors_47 : decode cX2_ownMirrors 47 = .ok (.ireturn, 1) := by decide +kernel
set_option maxRecDepth 20000 in
theorem ggX2_handsThatMeet_X4_lengthOf : GoodIn wsX2_handsThatMeet wsX4_lengthOf := goodIn_r _ [6, 7, 8, 9, 10, 11, 12, 13, 38, 39] (by decide +kernel) (by decide +kernel)
set_option maxRecDepth 20000 in
theorem gX2_handsThatMeet_X4_lengthOf : GoodIn wsX2_handsThatMeet (wsV RX2 15 RX4 yX4_lengthOf wsX4_lengthOf) := goodIn_app (goodIn_of _ (by decide +kernel)) ggX2_handsThatMeet_X4_lengthOf
set_option maxRecDepth 20000 in
theorem ggX2_handsThatMeet_X4_dollAt : GoodIn wsX2_handsThatMeet wsX4_dollAt := goodIn_r _ [17, 7, 18, 19, 20, 5, 21, 8, 9, 10, 11, 12, 13, 38, 39] (by decide +kernel) (by decide +kernel)
set_option maxRecDepth 20000 in
theorem gX2_handsThatMeet_X4_dollAt : GoodIn wsX2_handsThatMeet (wsV RX2 21 RX4 yX4_dollAt wsX4_dollAt) := goodIn_app (goodIn_of _ (by decide +kernel)) ggX2_handsThatMeet_X4_dollAt
set_option maxRecDepth 20000 in
theorem ggX2_handsThatMeet_X4_rightOf : GoodIn wsX2_handsThatMeet wsX4_rightOf := goodIn_r _ [25, 7, 26, 27, 28, 29, 30, 8, 9, 10, 11, 12, 13, 38, 39] (by decide +kernel) (by decide +kernel)
set_option maxRecDepth 20000 in
theorem gX2_handsThatMeet_X4_rightOf : GoodIn wsX2_handsThatMeet (wsV RX2 63 RX4 yX4_rightOf wsX4_rightOf) := goodIn_app (goodIn_of _ (by decide +kernel)) ggX2_handsThatMeet_X4_rightOf
set_option maxRecDepth 20000 in
theorem ggX2_handsThatMeet_X4_leftOf : GoodIn wsX2_handsThatMeet wsX4_leftOf := goodIn_r _ [34, 7, 26, 27, 28, 29, 30, 8, 9, 10, 11, 12, 13, 38, 39] (by decide +kernel) (by decide +kernel)
set_option maxRecDepth 20000 in
theorem gX2_handsThatMeet_X4_leftOf : GoodIn wsX2_handsThatMeet (wsV RX2 66 RX4 yX4_leftOf wsX4_leftOf) := goodIn_app (goodIn_of _ (by decide +kernel)) ggX2_handsThatMeet_X4_leftOf
set_option maxRecDepth 20000 in
theorem ggX2_handsThatMeet_X6_oneIf : GoodIn wsX2_handsThatMeet wsX6_oneIf := goodIn_r _ [36] (by decide +kernel) (by decide +kernel)
set_option maxRecDepth 20000 in
theorem gX2_handsThatMeet_X6_oneIf_n29 : GoodIn wsX2_handsThatMeet (wsX6_oneIf) := ggX2_handsThatMeet_X6_oneIf
theorem dX2_handsThatMeet_0 : decode cX2_handsThatMeet 0 = .ok (.iconst 0, 1) := by decide +kernel
theorem dX2_handsThatMeet_1 : decode cX2_handsThatMeet 1 = .ok (.istore_n 1, 1) := by decide +kernel
theorem dX2_handsThatMeet_2 : decode cX2_handsThatMeet 2 = .ok (.iconst 0, 1) := by decide +kernel
theorem dX2_handsThatMeet_3 : decode cX2_handsThatMeet 3 = .ok (.istore_n 2, 1) := by decide +kernel
theorem dX2_handsThatMeet_4 : decode cX2_handsThatMeet 4 = .ok (.iload_n 2, 1) := by decide +kernel
theorem dX2_handsThatMeet_5 : decode cX2_handsThatMeet 5 = .ok (.bipush 8, 2) := by decide +kernel
theorem dX2_handsThatMeet_7 : decode cX2_handsThatMeet 7 = .ok (.if_icmp .ge 94, 3) := by decide +kernel
theorem dX2_handsThatMeet_10 : decode cX2_handsThatMeet 10 = .ok (.aload_n 0, 1) := by decide +kernel
theorem dX2_handsThatMeet_11 : decode cX2_handsThatMeet 11 = .ok (.getfield 9, 3) := by decide +kernel
theorem dX2_handsThatMeet_14 : decode cX2_handsThatMeet 14 = .ok (.iload_n 2, 1) := by decide +kernel
theorem dX2_handsThatMeet_15 : decode cX2_handsThatMeet 15 = .ok (.invokevirtual 15, 3) := by decide +kernel
theorem dX2_handsThatMeet_18 : decode cX2_handsThatMeet 18 = .ok (.istore_n 3, 1) := by decide +kernel
theorem dX2_handsThatMeet_19 : decode cX2_handsThatMeet 19 = .ok (.iconst 1, 1) := by decide +kernel
theorem dX2_handsThatMeet_20 : decode cX2_handsThatMeet 20 = .ok (.istore 4, 2) := by decide +kernel
theorem dX2_handsThatMeet_22 : decode cX2_handsThatMeet 22 = .ok (.iload 4, 2) := by decide +kernel
theorem dX2_handsThatMeet_24 : decode cX2_handsThatMeet 24 = .ok (.iload_n 3, 1) := by decide +kernel
theorem dX2_handsThatMeet_25 : decode cX2_handsThatMeet 25 = .ok (.if_icmp .ge 70, 3) := by decide +kernel
theorem dX2_handsThatMeet_28 : decode cX2_handsThatMeet 28 = .ok (.aload_n 0, 1) := by decide +kernel
theorem dX2_handsThatMeet_29 : decode cX2_handsThatMeet 29 = .ok (.getfield 9, 3) := by decide +kernel
theorem dX2_handsThatMeet_32 : decode cX2_handsThatMeet 32 = .ok (.aload_n 0, 1) := by decide +kernel
theorem dX2_handsThatMeet_33 : decode cX2_handsThatMeet 33 = .ok (.getfield 9, 3) := by decide +kernel
theorem dX2_handsThatMeet_36 : decode cX2_handsThatMeet 36 = .ok (.iload_n 2, 1) := by decide +kernel
theorem dX2_handsThatMeet_37 : decode cX2_handsThatMeet 37 = .ok (.iload 4, 2) := by decide +kernel
theorem dX2_handsThatMeet_39 : decode cX2_handsThatMeet 39 = .ok (.iconst 1, 1) := by decide +kernel
theorem dX2_handsThatMeet_40 : decode cX2_handsThatMeet 40 = .ok (.isub, 1) := by decide +kernel
theorem dX2_handsThatMeet_41 : decode cX2_handsThatMeet 41 = .ok (.invokevirtual 21, 3) := by decide +kernel
theorem dX2_handsThatMeet_44 : decode cX2_handsThatMeet 44 = .ok (.invokevirtual 63, 3) := by decide +kernel
theorem dX2_handsThatMeet_47 : decode cX2_handsThatMeet 47 = .ok (.istore 5, 2) := by decide +kernel
theorem dX2_handsThatMeet_49 : decode cX2_handsThatMeet 49 = .ok (.aload_n 0, 1) := by decide +kernel
theorem dX2_handsThatMeet_50 : decode cX2_handsThatMeet 50 = .ok (.getfield 9, 3) := by decide +kernel
theorem dX2_handsThatMeet_53 : decode cX2_handsThatMeet 53 = .ok (.aload_n 0, 1) := by decide +kernel
theorem dX2_handsThatMeet_54 : decode cX2_handsThatMeet 54 = .ok (.getfield 9, 3) := by decide +kernel
theorem dX2_handsThatMeet_57 : decode cX2_handsThatMeet 57 = .ok (.iload_n 2, 1) := by decide +kernel
theorem dX2_handsThatMeet_58 : decode cX2_handsThatMeet 58 = .ok (.iload 4, 2) := by decide +kernel
theorem dX2_handsThatMeet_60 : decode cX2_handsThatMeet 60 = .ok (.invokevirtual 21, 3) := by decide +kernel
theorem dX2_handsThatMeet_63 : decode cX2_handsThatMeet 63 = .ok (.invokevirtual 66, 3) := by decide +kernel
theorem dX2_handsThatMeet_66 : decode cX2_handsThatMeet 66 = .ok (.istore 6, 2) := by decide +kernel
theorem dX2_handsThatMeet_68 : decode cX2_handsThatMeet 68 = .ok (.iload_n 1, 1) := by decide +kernel
theorem dX2_handsThatMeet_69 : decode cX2_handsThatMeet 69 = .ok (.iload 5, 2) := by decide +kernel
theorem dX2_handsThatMeet_71 : decode cX2_handsThatMeet 71 = .ok (.ifCond .eq 12, 3) := by decide +kernel
theorem dX2_handsThatMeet_74 : decode cX2_handsThatMeet 74 = .ok (.iload 6, 2) := by decide +kernel
theorem dX2_handsThatMeet_76 : decode cX2_handsThatMeet 76 = .ok (.ifCond .eq 7, 3) := by decide +kernel
theorem dX2_handsThatMeet_79 : decode cX2_handsThatMeet 79 = .ok (.iconst 1, 1) := by decide +kernel
theorem dX2_handsThatMeet_80 : decode cX2_handsThatMeet 80 = .ok (.goto 4, 3) := by decide +kernel
theorem dX2_handsThatMeet_83 : decode cX2_handsThatMeet 83 = .ok (.iconst 0, 1) := by decide +kernel
theorem dX2_handsThatMeet_84 : decode cX2_handsThatMeet 84 = .ok (.invokestatic 29, 3) := by decide +kernel
theorem dX2_handsThatMeet_87 : decode cX2_handsThatMeet 87 = .ok (.iadd, 1) := by decide +kernel
theorem dX2_handsThatMeet_88 : decode cX2_handsThatMeet 88 = .ok (.istore_n 1, 1) := by decide +kernel
theorem dX2_handsThatMeet_89 : decode cX2_handsThatMeet 89 = .ok (.iinc 4 1, 3) := by decide +kernel
theorem dX2_handsThatMeet_92 : decode cX2_handsThatMeet 92 = .ok (.goto (-70), 3) := by decide +kernel
theorem dX2_handsThatMeet_95 : decode cX2_handsThatMeet 95 = .ok (.iinc 2 1, 3) := by decide +kernel
theorem dX2_handsThatMeet_98 : decode cX2_handsThatMeet 98 = .ok (.goto (-94), 3) := by decide +kernel
theorem dX2_handsThatMeet_101 : decode cX2_handsThatMeet 101 = .ok (.iload_n 1, 1) := by decide +kernel
theorem dX2_handsThatMeet_102 : decode cX2_handsThatMeet 102 = .ok (.ireturn, 1) := by decide +kernel
set_option maxRecDepth 20000 in
theorem ggX2_differentGarlands_X4_hasGarland : GoodIn wsX2_differentGarlands wsX4_hasGarland := goodIn_r _ [6, 7, 8, 9, 10, 11, 12, 5, 13, 14, 15, 16, 17, 18, 19, 20, 48, 49] (by decide +kernel) (by decide +kernel)
set_option maxRecDepth 20000 in
theorem gX2_differentGarlands_X4_hasGarland : GoodIn wsX2_differentGarlands (wsV RX2 54 RX4 yX4_hasGarland wsX4_hasGarland) := goodIn_app (goodIn_of _ (by decide +kernel)) ggX2_differentGarlands_X4_hasGarland
set_option maxRecDepth 20000 in
theorem ggX2_differentGarlands_X2_lowestAlike : GoodIn wsX2_differentGarlands wsX2_lowestAlike := goodIn_r _ [25, 26, 27, 28, 24, 29, 1, 30, 11, 12, 5, 13, 14, 15, 16, 17, 18, 19, 20, 31, 32, 33, 34, 35, 36, 37, 38, 39, 40, 41, 42, 43, 8, 44, 47, 48, 49] (by decide +kernel) (by decide +kernel)
set_option maxRecDepth 20000 in
theorem gX2_differentGarlands_X2_lowestAlike : GoodIn wsX2_differentGarlands (wsV RX2 69 RX2 yX2_lowestAlike wsX2_lowestAlike) := goodIn_app (goodIn_of _ (by decide +kernel)) ggX2_differentGarlands_X2_lowestAlike
set_option maxRecDepth 20000 in
theorem ggX2_differentGarlands_X6_oneIf : GoodIn wsX2_differentGarlands wsX6_oneIf := goodIn_r _ [46] (by decide +kernel) (by decide +kernel)
set_option maxRecDepth 20000 in
theorem gX2_differentGarlands_X6_oneIf_n29 : GoodIn wsX2_differentGarlands (wsX6_oneIf) := ggX2_differentGarlands_X6_oneIf
theorem dX2_differentGarlands_0 : decode cX2_differentGarlands 0 = .ok (.iconst 0, 1) := by decide +kernel
theorem dX2_differentGarlands_1 : decode cX2_differentGarlands 1 = .ok (.istore_n 1, 1) := by decide +kernel
theorem dX2_differentGarlands_2 : decode cX2_differentGarlands 2 = .ok (.iconst 0, 1) := by decide +kernel
theorem dX2_differentGarlands_3 : decode cX2_differentGarlands 3 = .ok (.istore_n 2, 1) := by decide +kernel
theorem dX2_differentGarlands_4 : decode cX2_differentGarlands 4 = .ok (.iload_n 2, 1) := by decide +kernel
theorem dX2_differentGarlands_5 : decode cX2_differentGarlands 5 = .ok (.bipush 8, 2) := by decide +kernel
theorem dX2_differentGarlands_7 : decode cX2_differentGarlands 7 = .ok (.if_icmp .ge 40, 3) := by decide +kernel
theorem dX2_differentGarlands_10 : decode cX2_differentGarlands 10 = .ok (.iload_n 1, 1) := by decide +kernel
theorem dX2_differentGarlands_11 : decode cX2_differentGarlands 11 = .ok (.aload_n 0, 1) := by decide +kernel
theorem dX2_differentGarlands_12 : decode cX2_differentGarlands 12 = .ok (.getfield 9, 3) := by decide +kernel
theorem dX2_differentGarlands_15 : decode cX2_differentGarlands 15 = .ok (.iload_n 2, 1) := by decide +kernel
theorem dX2_differentGarlands_16 : decode cX2_differentGarlands 16 = .ok (.invokevirtual 54, 3) := by decide +kernel
theorem dX2_differentGarlands_19 : decode cX2_differentGarlands 19 = .ok (.ifCond .eq 16, 3) := by decide +kernel
theorem dX2_differentGarlands_22 : decode cX2_differentGarlands 22 = .ok (.aload_n 0, 1) := by decide +kernel
theorem dX2_differentGarlands_23 : decode cX2_differentGarlands 23 = .ok (.iload_n 2, 1) := by decide +kernel
theorem dX2_differentGarlands_24 : decode cX2_differentGarlands 24 = .ok (.invokevirtual 69, 3) := by decide +kernel
theorem dX2_differentGarlands_27 : decode cX2_differentGarlands 27 = .ok (.iload_n 2, 1) := by decide +kernel
theorem dX2_differentGarlands_28 : decode cX2_differentGarlands 28 = .ok (.if_icmp .ne 7, 3) := by decide +kernel
theorem dX2_differentGarlands_31 : decode cX2_differentGarlands 31 = .ok (.iconst 1, 1) := by decide +kernel
theorem dX2_differentGarlands_32 : decode cX2_differentGarlands 32 = .ok (.goto 4, 3) := by decide +kernel
theorem dX2_differentGarlands_35 : decode cX2_differentGarlands 35 = .ok (.iconst 0, 1) := by decide +kernel
theorem dX2_differentGarlands_36 : decode cX2_differentGarlands 36 = .ok (.invokestatic 29, 3) := by decide +kernel
theorem dX2_differentGarlands_39 : decode cX2_differentGarlands 39 = .ok (.iadd, 1) := by decide +kernel
theorem dX2_differentGarlands_40 : decode cX2_differentGarlands 40 = .ok (.istore_n 1, 1) := by decide +kernel
theorem dX2_differentGarlands_41 : decode cX2_differentGarlands 41 = .ok (.iinc 2 1, 3) := by decide +kernel
theorem dX2_differentGarlands_44 : decode cX2_differentGarlands 44 = .ok (.goto (-40), 3) := by decide +kernel
theorem dX2_differentGarlands_47 : decode cX2_differentGarlands 47 = .ok (.iload_n 1, 1) := by decide +kernel
theorem dX2_differentGarlands_48 : decode cX2_differentGarlands 48 = .ok (.ireturn, 1) := by decide +kernel
theorem dX3_init_0 : decode cX3_init 0 = .ok (.aload_n 0, 1) := by decide +kernel
theorem dX3_init_1 : decode cX3_init 1 = .ok (.invokespecial 1, 3) := by decide +kernel
theorem dX3_init_4 : decode cX3_init 4 = .ok (.aload_n 0, 1) := by decide +kernel
theorem dX3_init_5 : decode cX3_init 5 = .ok (.iload_n 1, 1) := by decide +kernel
theorem dX3_init_6 : decode cX3_init 6 = .ok (.ifCond .le 7, 3) := by decide +kernel
theorem dX3_init_9 : decode cX3_init 9 = .ok (.iload_n 1, 1) := by decide +kernel
theorem dX3_init_10 : decode cX3_init 10 = .ok (.goto 4, 3) := by decide +kernel
theorem dX3_init_13 : decode cX3_init 13 = .ok (.iconst 0, 1) := by decide +kernel
theorem dX3_init_14 : decode cX3_init 14 = .ok (.newarray .int, 2) := by decide +kernel
theorem dX3_init_16 : decode cX3_init 16 = .ok (.putfield 7, 3) := by decide +kernel
theorem dX3_init_19 : decode cX3_init 19 = .ok (.return_, 1) := by decide +kernel
theorem dX3_at_0 : decode cX3_at 0 = .ok (.iload_n 1, 1) := by decide +kernel
theorem dX3_at_1 : decode cX3_at 1 = .ok (.ifCond .lt 21, 3) := by decide +kernel
theorem dX3_at_4 : decode cX3_at 4 = .ok (.iload_n 1, 1) := by decide +kernel
theorem dX3_at_5 : decode cX3_at 5 = .ok (.aload_n 0, 1) := by decide +kernel
theorem dX3_at_6 : decode cX3_at 6 = .ok (.getfield 7, 3) := by decide +kernel
theorem dX3_at_9 : decode cX3_at 9 = .ok (.arraylength, 1) := by decide +kernel
theorem dX3_at_10 : decode cX3_at 10 = .ok (.if_icmp .ge 12, 3) := by decide +kernel
theorem dX3_at_13 : decode cX3_at 13 = .ok (.aload_n 0, 1) := by decide +kernel
theorem dX3_at_14 : decode cX3_at 14 = .ok (.getfield 7, 3) := by decide +kernel
theorem dX3_at_17 : decode cX3_at 17 = .ok (.iload_n 1, 1) := by decide +kernel
theorem dX3_at_18 : decode cX3_at 18 = .ok (.iaload, 1) := by decide +kernel
theorem dX3_at_19 : decode cX3_at 19 = .ok (.goto 4, 3) := by decide +kernel
theorem dX3_at_22 : decode cX3_at 22 = .ok (.iconst 0, 1) := by decide +kernel
theorem dX3_at_23 : decode cX3_at 23 = .ok (.ireturn, 1) := by decide +kernel
theorem dX3_put_0 : decode cX3_put 0 = .ok (.iload_n 1, 1) := by decide +kernel
theorem dX3_put_1 : decode cX3_put 1 = .ok (.ifCond .lt 19, 3) := by decide +kernel
theorem dX3_put_4 : decode cX3_put 4 = .ok (.iload_n 1, 1) := by decide +kernel
theorem dX3_put_5 : decode cX3_put 5 = .ok (.aload_n 0, 1) := by decide +kernel
theorem dX3_put_6 : decode cX3_put 6 = .ok (.getfield 7, 3) := by decide +kernel
theorem dX3_put_9 : decode cX3_put 9 = .ok (.arraylength, 1) := by decide +kernel
theorem dX3_put_10 : decode cX3_put 10 = .ok (.if_icmp .ge 10, 3) := by decide +kernel
theorem dX3_put_13 : decode cX3_put 13 = .ok (.aload_n 0, 1) := by decide +kernel
theorem dX3_put_14 : decode cX3_put 14 = .ok (.getfield 7, 3) := by decide +kernel
theorem dX3_put_17 : decode cX3_put 17 = .ok (.iload_n 1, 1) := by decide +kernel
theorem dX3_put_18 : decode cX3_put 18 = .ok (.iload_n 2, 1) := by decide +kernel
theorem dX3_put_19 : decode cX3_put 19 = .ok (.iastore, 1) := by decide +kernel
theorem dX3_put_20 : decode cX3_put 20 = .ok (.return_, 1) := by decide +kernel
theorem dX3_copyFrom_0 : decode cX3_copyFrom 0 = .ok (.aload_n 1, 1) := by decide +kernel
theorem dX3_copyFrom_1 : decode cX3_copyFrom 1 = .ok (.ifnull 16, 3) := by decide +kernel
theorem dX3_copyFrom_4 : decode cX3_copyFrom 4 = .ok (.iload 4, 2) := by decide +kernel
theorem dX3_copyFrom_6 : decode cX3_copyFrom 6 = .ok (.ifCond .lt 11, 3) := by decide +kernel
theorem dX3_copyFrom_9 : decode cX3_copyFrom 9 = .ok (.iload_n 2, 1) := by decide +kernel
theorem dX3_copyFrom_10 : decode cX3_copyFrom 10 = .ok (.ifCond .lt 7, 3) := by decide +kernel
theorem dX3_copyFrom_13 : decode cX3_copyFrom 13 = .ok (.iload_n 3, 1) := by decide +kernel
theorem dX3_copyFrom_14 : decode cX3_copyFrom 14 = .ok (.ifCond .ge 4, 3) := by decide +kernel
theorem dX3_copyFrom_17 : decode cX3_copyFrom 17 = .ok (.return_, 1) := by decide +kernel
theorem dX3_copyFrom_18 : decode cX3_copyFrom 18 = .ok (.iload_n 2, 1) := by decide +kernel
theorem dX3_copyFrom_19 : decode cX3_copyFrom 19 = .ok (.aload_n 1, 1) := by decide +kernel
theorem dX3_copyFrom_20 : decode cX3_copyFrom 20 = .ok (.getfield 7, 3) := by decide +kernel
theorem dX3_copyFrom_23 : decode cX3_copyFrom 23 = .ok (.arraylength, 1) := by decide +kernel
theorem dX3_copyFrom_24 : decode cX3_copyFrom 24 = .ok (.iload 4, 2) := by decide +kernel
theorem dX3_copyFrom_26 : decode cX3_copyFrom 26 = .ok (.isub, 1) := by decide +kernel
theorem dX3_copyFrom_27 : decode cX3_copyFrom 27 = .ok (.if_icmp .gt 30, 3) := by decide +kernel
theorem dX3_copyFrom_30 : decode cX3_copyFrom 30 = .ok (.iload_n 3, 1) := by decide +kernel
theorem dX3_copyFrom_31 : decode cX3_copyFrom 31 = .ok (.aload_n 0, 1) := by decide +kernel
theorem dX3_copyFrom_32 : decode cX3_copyFrom 32 = .ok (.getfield 7, 3) := by decide +kernel
theorem dX3_copyFrom_35 : decode cX3_copyFrom 35 = .ok (.arraylength, 1) := by decide +kernel
theorem dX3_copyFrom_36 : decode cX3_copyFrom 36 = .ok (.iload 4, 2) := by decide +kernel
theorem dX3_copyFrom_38 : decode cX3_copyFrom 38 = .ok (.isub, 1) := by decide +kernel
theorem dX3_copyFrom_39 : decode cX3_copyFrom 39 = .ok (.if_icmp .gt 18, 3) := by decide +kernel
theorem dX3_copyFrom_42 : decode cX3_copyFrom 42 = .ok (.aload_n 1, 1) := by decide +kernel
theorem dX3_copyFrom_43 : decode cX3_copyFrom 43 = .ok (.getfield 7, 3) := by decide +kernel
theorem dX3_copyFrom_46 : decode cX3_copyFrom 46 = .ok (.iload_n 2, 1) := by decide +kernel
theorem dX3_copyFrom_47 : decode cX3_copyFrom 47 = .ok (.aload_n 0, 1) := by decide +kernel
theorem dX3_copyFrom_48 : decode cX3_copyFrom 48 = .ok (.getfield 7, 3) := by decide +kernel
theorem dX3_copyFrom_51 : decode cX3_copyFrom 51 = .ok (.iload_n 3, 1) := by decide +kernel
theorem dX3_copyFrom_52 : decode cX3_copyFrom 52 = .ok (.iload 4, 2) := by decide +kernel
theorem dX3_copyFrom_54 : decode cX3_copyFrom 54 = .ok (.invokestatic 13, 3) := by decide +kernel
theorem dX3_copyFrom_57 : decode cX3_copyFrom 57 = .ok (.return_, 1) := by decide +kernel
set_option maxRecDepth 20000 in
theorem ggX4_init_X3_init : GoodIn wsX4_init wsX3_init := goodIn_r _ [10, 11, 2, 3, 12, 13, 18] (by decide +kernel) (by decide +kernel)
set_option maxRecDepth 20000 in
theorem gX4_init_X3_init : GoodIn wsX4_init (wsX3_init) := ggX4_init_X3_init
set_option maxRecDepth 20000 in
theorem ggX4_init_X3_put : GoodIn wsX4_init wsX3_put := goodIn_r _ [17, 13, 18] (by decide +kernel) (by decide +kernel)
set_option maxRecDepth 20000 in
theorem gX4_init_X3_put : GoodIn wsX4_init (wsV RX4 20 RX3 yX3_put wsX3_put) := goodIn_app (goodIn_of _ (by decide +kernel)) ggX4_init_X3_put
