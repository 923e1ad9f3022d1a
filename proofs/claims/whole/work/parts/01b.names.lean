set_option maxRecDepth 20000 in
theorem ggX0_init_X5_init : GoodIn wsX0_init wsX5_init := goodIn_r _ [4, 5, 6, 7] (by decide +kernel) (by decide +kernel)
set_option maxRecDepth 20000 in
theorem gX0_init_X5_init : GoodIn wsX0_init (wsX5_init) := ggX0_init_X5_init
theorem dX0_init_0 : decode cX0_init 0 = .ok (.aload_n 0, 1) := by decide +kernel
theorem dX0_init_1 : decode cX0_init 1 = .ok (.invokespecial 1, 3) := by decide +kernel
theorem dX0_init_4 : decode cX0_init 4 = .ok (.return_, 1) := by decide +kernel
set_option maxRecDepth 20000 in
theorem ggX0_weigh_X5_weigh : GoodIn wsX0_weigh wsX5_weigh := goodIn_r _ [8, 9, 10] (by decide +kernel) (by decide +kernel)
set_option maxRecDepth 20000 in
theorem gX0_weigh_X5_weigh_s15 : GoodIn wsX0_weigh (va_wsSU RX0 15 yX5_weigh wsX5_weigh) := goodIn_app (goodIn_of _ (by decide +kernel)) ggX0_weigh_X5_weigh
theorem dX0_weigh_0 : decode cX0_weigh 0 = .ok (.aload_n 2, 1) := by decide +kernel
theorem dX0_weigh_1 : decode cX0_weigh 1 = .ok (.dup, 1) := by decide +kernel
theorem dX0_weigh_2 : decode cX0_weigh 2 = .ok (.getfield 7, 3) := by decide +kernel
theorem dX0_weigh_5 : decode cX0_weigh 5 = .ok (.ldc2_w 13, 3) := by decide +kernel
theorem dX0_weigh_8 : decode cX0_weigh 8 = .ok (.ladd, 1) := by decide +kernel
theorem dX0_weigh_9 : decode cX0_weigh 9 = .ok (.putfield 7, 3) := by decide +kernel
theorem dX0_weigh_12 : decode cX0_weigh 12 = .ok (.aload_n 0, 1) := by decide +kernel
theorem dX0_weigh_13 : decode cX0_weigh 13 = .ok (.iload_n 1, 1) := by decide +kernel
theorem dX0_weigh_14 : decode cX0_weigh 14 = .ok (.aload_n 2, 1) := by decide +kernel
theorem dX0_weigh_15 : decode cX0_weigh 15 = .ok (.invokespecial 15, 3) := by decide +kernel
theorem dX0_weigh_18 : decode cX0_weigh 18 = .ok (.iload_n 1, 1) := by decide +kernel
theorem dX0_weigh_19 : decode cX0_weigh 19 = .ok (.iadd, 1) := by decide +kernel
theorem dX0_weigh_20 : decode cX0_weigh 20 = .ok (.ireturn, 1) := by decide +kernel
set_option maxRecDepth 20000 in
theorem ggX1_init_X5_init : GoodIn wsX1_init wsX5_init := goodIn_r _ [4, 5, 6, 7] (by decide +kernel) (by decide +kernel)
set_option maxRecDepth 20000 in
theorem gX1_init_X5_init : GoodIn wsX1_init (wsX5_init) := ggX1_init_X5_init
theorem dX1_init_0 : decode cX1_init 0 = .ok (.aload_n 0, 1) := by decide +kernel
theorem dX1_init_1 : decode cX1_init 1 = .ok (.invokespecial 1, 3) := by decide +kernel
theorem dX1_init_4 : decode cX1_init 4 = .ok (.return_, 1) := by decide +kernel
set_option maxRecDepth 20000 in
theorem ggX1_weigh_X5_weigh : GoodIn wsX1_weigh wsX5_weigh := goodIn_r _ [8, 9, 10] (by decide +kernel) (by decide +kernel)
set_option maxRecDepth 20000 in
theorem gX1_weigh_X5_weigh_s15 : GoodIn wsX1_weigh (va_wsSU RX1 15 yX5_weigh wsX5_weigh) := goodIn_app (goodIn_of _ (by decide +kernel)) ggX1_weigh_X5_weigh
theorem dX1_weigh_0 : decode cX1_weigh 0 = .ok (.aload_n 2, 1) := by decide +kernel
theorem dX1_weigh_1 : decode cX1_weigh 1 = .ok (.dup, 1) := by decide +kernel
theorem dX1_weigh_2 : decode cX1_weigh 2 = .ok (.getfield 7, 3) := by decide +kernel
theorem dX1_weigh_5 : decode cX1_weigh 5 = .ok (.ldc2_w 13, 3) := by decide +kernel
theorem dX1_weigh_8 : decode cX1_weigh 8 = .ok (.ladd, 1) := by decide +kernel
theorem dX1_weigh_9 : decode cX1_weigh 9 = .ok (.putfield 7, 3) := by decide +kernel
theorem dX1_weigh_12 : decode cX1_weigh 12 = .ok (.aload_n 0, 1) := by decide +kernel
theorem dX1_weigh_13 : decode cX1_weigh 13 = .ok (.iload_n 1, 1) := by decide +kernel
theorem dX1_weigh_14 : decode cX1_weigh 14 = .ok (.aload_n 2, 1) := by decide +kernel
theorem dX1_weigh_15 : decode cX1_weigh 15 = .ok (.invokespecial 15, 3) := by decide +kernel
theorem dX1_weigh_18 : decode cX1_weigh 18 = .ok (.iload_n 1, 1) := by decide +kernel
theorem dX1_weigh_19 : decode cX1_weigh 19 = .ok (.iadd, 1) := by decide +kernel
theorem dX1_weigh_20 : decode cX1_weigh 20 = .ok (.ireturn, 1) := by decide +kernel
theorem dX2_init_0 : decode cX2_init 0 = .ok (.aload_n 0, 1) := by decide +kernel
theorem dX2_init_1 : decode cX2_init 1 = .ok (.invokespecial 3, 3) := by decide +kernel
theorem dX2_init_4 : decode cX2_init 4 = .ok (.aload_n 0, 1) := by decide +kernel
theorem dX2_init_5 : decode cX2_init 5 = .ok (.bipush 17, 2) := by decide +kernel
theorem dX2_init_7 : decode cX2_init 7 = .ok (.newarray .int, 2) := by decide +kernel
theorem dX2_init_9 : decode cX2_init 9 = .ok (.putfield 9, 3) := by decide +kernel
theorem dX2_init_12 : decode cX2_init 12 = .ok (.aload_n 0, 1) := by decide +kernel
theorem dX2_init_13 : decode cX2_init 13 = .ok (.bipush 17, 2) := by decide +kernel
theorem dX2_init_15 : decode cX2_init 15 = .ok (.newarray .int, 2) := by decide +kernel
theorem dX2_init_17 : decode cX2_init 17 = .ok (.putfield 15, 3) := by decide +kernel
theorem dX2_init_20 : decode cX2_init 20 = .ok (.return_, 1) := by decide +kernel
set_option maxRecDepth 20000 in
theorem ggX2_howMany_X2_refine : GoodIn wsX2_howMany wsX2_refine := goodIn_r _ [7, 1, 8, 2, 9, 10, 11, 12, 13, 14, 15, 6, 16, 17, 18, 19, 20, 21, 22, 23, 24, 25, 26, 27, 28, 29, 30, 31, 32, 33, 34, 35, 36, 37, 38, 39, 40, 41, 42, 43, 44, 45, 46, 47, 48, 49, 50, 51, 52, 53, 54, 55, 56, 57, 58, 59, 60, 61, 62, 63, 64, 65, 66] (by decide +kernel) (by decide +kernel)
set_option maxRecDepth 20000 in
theorem gX2_howMany_X2_refine : GoodIn wsX2_howMany (wsV RX2 24 RX2 yX2_refine wsX2_refine) := goodIn_app (goodIn_of _ (by decide +kernel)) ggX2_howMany_X2_refine
set_option maxRecDepth 20000 in
theorem ggX2_howMany_X6_isLive : GoodIn wsX2_howMany wsX6_isLive := goodIn_r _ [21, 22, 23, 24, 25, 26, 20, 27, 28, 29, 30, 31, 55, 56, 57, 58, 59, 60, 61, 62, 63, 64] (by decide +kernel) (by decide +kernel)
set_option maxRecDepth 20000 in
theorem gX2_howMany_X6_isLive : GoodIn wsX2_howMany (wsV RX2 28 RX6 yX6_isLive wsX6_isLive) := goodIn_app (goodIn_of _ (by decide +kernel)) ggX2_howMany_X6_isLive
theorem dX2_howMany_0 : decode cX2_howMany 0 = .ok (.iconst 0, 1) := by decide +kernel
theorem dX2_howMany_1 : decode cX2_howMany 1 = .ok (.istore_n 2, 1) := by decide +kernel
theorem dX2_howMany_2 : decode cX2_howMany 2 = .ok (.iload_n 2, 1) := by decide +kernel
theorem dX2_howMany_3 : decode cX2_howMany 3 = .ok (.aload_n 1, 1) := by decide +kernel
theorem dX2_howMany_4 : decode cX2_howMany 4 = .ok (.getfield 18, 3) := by decide +kernel
theorem dX2_howMany_7 : decode cX2_howMany 7 = .ok (.if_icmp .gt 16, 3) := by decide +kernel
theorem dX2_howMany_10 : decode cX2_howMany 10 = .ok (.aload_n 0, 1) := by decide +kernel
theorem dX2_howMany_11 : decode cX2_howMany 11 = .ok (.getfield 9, 3) := by decide +kernel
theorem dX2_howMany_14 : decode cX2_howMany 14 = .ok (.iload_n 2, 1) := by decide +kernel
theorem dX2_howMany_15 : decode cX2_howMany 15 = .ok (.iconst 0, 1) := by decide +kernel
theorem dX2_howMany_16 : decode cX2_howMany 16 = .ok (.iastore, 1) := by decide +kernel
theorem dX2_howMany_17 : decode cX2_howMany 17 = .ok (.iinc 2 1, 3) := by decide +kernel
theorem dX2_howMany_20 : decode cX2_howMany 20 = .ok (.goto (-18), 3) := by decide +kernel
theorem dX2_howMany_23 : decode cX2_howMany 23 = .ok (.iconst 0, 1) := by decide +kernel
theorem dX2_howMany_24 : decode cX2_howMany 24 = .ok (.istore_n 2, 1) := by decide +kernel
theorem dX2_howMany_25 : decode cX2_howMany 25 = .ok (.iload_n 2, 1) := by decide +kernel
theorem dX2_howMany_26 : decode cX2_howMany 26 = .ok (.bipush 16, 2) := by decide +kernel
theorem dX2_howMany_28 : decode cX2_howMany 28 = .ok (.if_icmp .gt 20, 3) := by decide +kernel
theorem dX2_howMany_31 : decode cX2_howMany 31 = .ok (.aload_n 0, 1) := by decide +kernel
theorem dX2_howMany_32 : decode cX2_howMany 32 = .ok (.aload_n 1, 1) := by decide +kernel
theorem dX2_howMany_33 : decode cX2_howMany 33 = .ok (.invokevirtual 24, 3) := by decide +kernel
theorem dX2_howMany_36 : decode cX2_howMany 36 = .ok (.ifCond .ne 6, 3) := by decide +kernel
theorem dX2_howMany_39 : decode cX2_howMany 39 = .ok (.goto 9, 3) := by decide +kernel
theorem dX2_howMany_42 : decode cX2_howMany 42 = .ok (.iinc 2 1, 3) := by decide +kernel
theorem dX2_howMany_45 : decode cX2_howMany 45 = .ok (.goto (-20), 3) := by decide +kernel
theorem dX2_howMany_48 : decode cX2_howMany 48 = .ok (.iconst 0, 1) := by decide +kernel
theorem dX2_howMany_49 : decode cX2_howMany 49 = .ok (.istore_n 2, 1) := by decide +kernel
theorem dX2_howMany_50 : decode cX2_howMany 50 = .ok (.iconst 0, 1) := by decide +kernel
theorem dX2_howMany_51 : decode cX2_howMany 51 = .ok (.istore_n 3, 1) := by decide +kernel
theorem dX2_howMany_52 : decode cX2_howMany 52 = .ok (.iload_n 3, 1) := by decide +kernel
theorem dX2_howMany_53 : decode cX2_howMany 53 = .ok (.aload_n 1, 1) := by decide +kernel
theorem dX2_howMany_54 : decode cX2_howMany 54 = .ok (.getfield 18, 3) := by decide +kernel
theorem dX2_howMany_57 : decode cX2_howMany 57 = .ok (.if_icmp .gt 35, 3) := by decide +kernel
theorem dX2_howMany_60 : decode cX2_howMany 60 = .ok (.iload_n 2, 1) := by decide +kernel
theorem dX2_howMany_61 : decode cX2_howMany 61 = .ok (.aload_n 1, 1) := by decide +kernel
theorem dX2_howMany_62 : decode cX2_howMany 62 = .ok (.iload_n 3, 1) := by decide +kernel
theorem dX2_howMany_63 : decode cX2_howMany 63 = .ok (.invokevirtual 28, 3) := by decide +kernel
theorem dX2_howMany_66 : decode cX2_howMany 66 = .ok (.ifCond .eq 17, 3) := by decide +kernel
theorem dX2_howMany_69 : decode cX2_howMany 69 = .ok (.aload_n 0, 1) := by decide +kernel
theorem dX2_howMany_70 : decode cX2_howMany 70 = .ok (.getfield 9, 3) := by decide +kernel
theorem dX2_howMany_73 : decode cX2_howMany 73 = .ok (.iload_n 3, 1) := by decide +kernel
theorem dX2_howMany_74 : decode cX2_howMany 74 = .ok (.iaload, 1) := by decide +kernel
theorem dX2_howMany_75 : decode cX2_howMany 75 = .ok (.iload_n 3, 1) := by decide +kernel
theorem dX2_howMany_76 : decode cX2_howMany 76 = .ok (.if_icmp .ne 7, 3) := by decide +kernel
theorem dX2_howMany_79 : decode cX2_howMany 79 = .ok (.iconst 1, 1) := by decide +kernel
theorem dX2_howMany_80 : decode cX2_howMany 80 = .ok (.goto 4, 3) := by decide +kernel
theorem dX2_howMany_83 : decode cX2_howMany 83 = .ok (.iconst 0, 1) := by decide +kernel
theorem dX2_howMany_84 : decode cX2_howMany 84 = .ok (.iadd, 1) := by decide +kernel
theorem dX2_howMany_85 : decode cX2_howMany 85 = .ok (.istore_n 2, 1) := by decide +kernel
theorem dX2_howMany_86 : decode cX2_howMany 86 = .ok (.iinc 3 1, 3) := by decide +kernel
theorem dX2_howMany_89 : decode cX2_howMany 89 = .ok (.goto (-37), 3) := by decide +kernel
theorem dX2_howMany_92 : decode cX2_howMany 92 = .ok (.iload_n 2, 1) := by decide +kernel
theorem dX2_howMany_93 : decode cX2_howMany 93 = .ok (.ireturn, 1) := by decide +kernel
set_option maxRecDepth 20000 in
theorem ggX2_refine_X2_firstLike : GoodIn wsX2_refine wsX2_firstLike := goodIn_r _ [12, 13, 14, 15, 16, 17, 18, 19, 20, 21, 22, 23, 24, 25, 26, 27, 28, 29, 30, 11, 31, 32, 33, 34, 35, 3, 36, 37, 38, 39, 40, 41, 42, 43, 44, 45, 46, 47, 48, 49, 50, 51, 52, 53, 54, 55, 56, 57, 58, 59, 60, 61, 62] (by decide +kernel) (by decide +kernel)
set_option maxRecDepth 20000 in
theorem gX2_refine_X2_firstLike : GoodIn wsX2_refine (wsV RX2 32 RX2 yX2_firstLike wsX2_firstLike) := goodIn_app (goodIn_of _ (by decide +kernel)) ggX2_refine_X2_firstLike
theorem dX2_refine_0 : decode cX2_refine 0 = .ok (.iconst 0, 1) := by decide +kernel
theorem dX2_refine_1 : decode cX2_refine 1 = .ok (.istore_n 2, 1) := by decide +kernel
theorem dX2_refine_2 : decode cX2_refine 2 = .ok (.iconst 0, 1) := by decide +kernel
theorem dX2_refine_3 : decode cX2_refine 3 = .ok (.istore_n 3, 1) := by decide +kernel
theorem dX2_refine_4 : decode cX2_refine 4 = .ok (.iload_n 3, 1) := by decide +kernel
theorem dX2_refine_5 : decode cX2_refine 5 = .ok (.aload_n 1, 1) := by decide +kernel
theorem dX2_refine_6 : decode cX2_refine 6 = .ok (.getfield 18, 3) := by decide +kernel
theorem dX2_refine_9 : decode cX2_refine 9 = .ok (.if_icmp .gt 44, 3) := by decide +kernel
theorem dX2_refine_12 : decode cX2_refine 12 = .ok (.aload_n 0, 1) := by decide +kernel
theorem dX2_refine_13 : decode cX2_refine 13 = .ok (.getfield 15, 3) := by decide +kernel
theorem dX2_refine_16 : decode cX2_refine 16 = .ok (.iload_n 3, 1) := by decide +kernel
theorem dX2_refine_17 : decode cX2_refine 17 = .ok (.aload_n 0, 1) := by decide +kernel
theorem dX2_refine_18 : decode cX2_refine 18 = .ok (.aload_n 1, 1) := by decide +kernel
theorem dX2_refine_19 : decode cX2_refine 19 = .ok (.iload_n 3, 1) := by decide +kernel
theorem dX2_refine_20 : decode cX2_refine 20 = .ok (.invokevirtual 32, 3) := by decide +kernel
theorem dX2_refine_23 : decode cX2_refine 23 = .ok (.iastore, 1) := by decide +kernel
theorem dX2_refine_24 : decode cX2_refine 24 = .ok (.iload_n 2, 1) := by decide +kernel
theorem dX2_refine_25 : decode cX2_refine 25 = .ok (.aload_n 0, 1) := by decide +kernel
theorem dX2_refine_26 : decode cX2_refine 26 = .ok (.getfield 15, 3) := by decide +kernel
theorem dX2_refine_29 : decode cX2_refine 29 = .ok (.iload_n 3, 1) := by decide +kernel
theorem dX2_refine_30 : decode cX2_refine 30 = .ok (.iaload, 1) := by decide +kernel
theorem dX2_refine_31 : decode cX2_refine 31 = .ok (.aload_n 0, 1) := by decide +kernel
theorem dX2_refine_32 : decode cX2_refine 32 = .ok (.getfield 9, 3) := by decide +kernel
theorem dX2_refine_35 : decode cX2_refine 35 = .ok (.iload_n 3, 1) := by decide +kernel
theorem dX2_refine_36 : decode cX2_refine 36 = .ok (.iaload, 1) := by decide +kernel
theorem dX2_refine_37 : decode cX2_refine 37 = .ok (.if_icmp .eq 7, 3) := by decide +kernel
theorem dX2_refine_40 : decode cX2_refine 40 = .ok (.iconst 1, 1) := by decide +kernel
theorem dX2_refine_41 : decode cX2_refine 41 = .ok (.goto 4, 3) := by decide +kernel
theorem dX2_refine_44 : decode cX2_refine 44 = .ok (.iconst 0, 1) := by decide +kernel
theorem dX2_refine_45 : decode cX2_refine 45 = .ok (.ior, 1) := by decide +kernel
theorem dX2_refine_46 : decode cX2_refine 46 = .ok (.istore_n 2, 1) := by decide +kernel
theorem dX2_refine_47 : decode cX2_refine 47 = .ok (.iinc 3 1, 3) := by decide +kernel
theorem dX2_refine_50 : decode cX2_refine 50 = .ok (.goto (-46), 3) := by decide +kernel
theorem dX2_refine_53 : decode cX2_refine 53 = .ok (.aload_n 0, 1) := by decide +kernel
theorem dX2_refine_54 : decode cX2_refine 54 = .ok (.getfield 15, 3) := by decide +kernel
theorem dX2_refine_57 : decode cX2_refine 57 = .ok (.iconst 0, 1) := by decide +kernel
theorem dX2_refine_58 : decode cX2_refine 58 = .ok (.aload_n 0, 1) := by decide +kernel
theorem dX2_refine_59 : decode cX2_refine 59 = .ok (.getfield 9, 3) := by decide +kernel
theorem dX2_refine_62 : decode cX2_refine 62 = .ok (.iconst 0, 1) := by decide +kernel
theorem dX2_refine_63 : decode cX2_refine 63 = .ok (.aload_n 1, 1) := by decide +kernel
theorem dX2_refine_64 : decode cX2_refine 64 = .ok (.getfield 18, 3) := by decide +kernel
theorem dX2_refine_67 : decode cX2_refine 67 = .ok (.iconst 1, 1) := by decide +kernel
theorem dX2_refine_68 : decode cX2_refine 68 = .ok (.iadd, 1) := by decide +kernel
theorem dX2_refine_69 : decode cX2_refine 69 = .ok (.invokestatic 36, 3) := by decide +kernel
theorem dX2_refine_72 : decode cX2_refine 72 = .ok (.iload_n 2, 1) := by decide +kernel
theorem dX2_refine_73 : decode cX2_refine 73 = .ok (.ireturn, 1) := by decide +kernel
set_option maxRecDepth 20000 in
theorem ggX2_firstLike_X6_isLive : GoodIn wsX2_firstLike wsX6_isLive := goodIn_r _ [5, 6, 7, 8, 9, 10, 4, 11, 12, 13, 14, 15, 41, 42, 43, 44, 45, 46, 47, 48, 49, 50] (by decide +kernel) (by decide +kernel)
set_option maxRecDepth 20000 in
theorem gX2_firstLike_X6_isLive : GoodIn wsX2_firstLike (wsV RX2 28 RX6 yX6_isLive wsX6_isLive) := goodIn_app (goodIn_of _ (by decide +kernel)) ggX2_firstLike_X6_isLive
set_option maxRecDepth 20000 in
theorem ggX2_firstLike_X2_goAlike : GoodIn wsX2_firstLike wsX2_goAlike := goodIn_r _ [20, 21, 22, 23, 19, 24, 25, 26, 27, 28, 4, 29, 30, 8, 9, 10, 11, 12, 31, 32, 33, 34, 1, 2, 3, 5, 6, 7, 13, 14, 15, 35, 36, 37, 38, 39, 40, 51, 52, 41, 42, 43, 44, 45, 46, 47, 48, 49, 50] (by decide +kernel) (by decide +kernel)
set_option maxRecDepth 20000 in
theorem gX2_firstLike_X2_goAlike : GoodIn wsX2_firstLike (wsV RX2 42 RX2 yX2_goAlike wsX2_goAlike) := goodIn_app (goodIn_of _ (by decide +kernel)) ggX2_firstLike_X2_goAlike
theorem dX2_firstLike_0 : decode cX2_firstLike 0 = .ok (.iconst 0, 1) := by decide +kernel
theorem dX2_firstLike_1 : decode cX2_firstLike 1 = .ok (.istore_n 3, 1) := by decide +kernel
theorem dX2_firstLike_2 : decode cX2_firstLike 2 = .ok (.iload_n 3, 1) := by decide +kernel
theorem dX2_firstLike_3 : decode cX2_firstLike 3 = .ok (.iload_n 2, 1) := by decide +kernel
theorem dX2_firstLike_4 : decode cX2_firstLike 4 = .ok (.if_icmp .ge 29, 3) := by decide +kernel
theorem dX2_firstLike_7 : decode cX2_firstLike 7 = .ok (.aload_n 1, 1) := by decide +kernel
theorem dX2_firstLike_8 : decode cX2_firstLike 8 = .ok (.iload_n 3, 1) := by decide +kernel
theorem dX2_firstLike_9 : decode cX2_firstLike 9 = .ok (.invokevirtual 28, 3) := by decide +kernel
theorem dX2_firstLike_12 : decode cX2_firstLike 12 = .ok (.ifCond .eq 15, 3) := by decide +kernel
theorem dX2_firstLike_15 : decode cX2_firstLike 15 = .ok (.aload_n 0, 1) := by decide +kernel
theorem dX2_firstLike_16 : decode cX2_firstLike 16 = .ok (.aload_n 1, 1) := by decide +kernel
theorem dX2_firstLike_17 : decode cX2_firstLike 17 = .ok (.iload_n 3, 1) := by decide +kernel
theorem dX2_firstLike_18 : decode cX2_firstLike 18 = .ok (.iload_n 2, 1) := by decide +kernel
theorem dX2_firstLike_19 : decode cX2_firstLike 19 = .ok (.invokevirtual 42, 3) := by decide +kernel
theorem dX2_firstLike_22 : decode cX2_firstLike 22 = .ok (.ifCond .eq 5, 3) := by decide +kernel
theorem dX2_firstLike_25 : decode cX2_firstLike 25 = .ok (.iload_n 3, 1) := by decide +kernel
theorem dX2_firstLike_26 : decode cX2_firstLike 26 = .ok (.ireturn, 1) := by decide +kernel
theorem dX2_firstLike_27 : decode cX2_firstLike 27 = .ok (.iinc 3 1, 3) := by decide +kernel
theorem dX2_firstLike_30 : decode cX2_firstLike 30 = .ok (.goto (-28), 3) := by decide +kernel
theorem dX2_firstLike_33 : decode cX2_firstLike 33 = .ok (.iload_n 2, 1) := by decide +kernel
theorem dX2_firstLike_34 : decode cX2_firstLike 34 = .ok (.ireturn, 1) := by decide +kernel
set_option maxRecDepth 20000 in
theorem ggX2_goAlike_X2_trail : GoodIn wsX2_goAlike wsX2_trail := goodIn_r _ [5, 6, 7, 8, 9, 10, 11, 12, 13, 14, 15, 16, 17, 18, 19, 20, 21, 22, 23, 24, 25, 26, 27, 28, 29, 30, 31, 32, 33, 34, 35, 36, 37, 38, 39, 40, 41, 42, 43, 44, 45, 46, 47, 48] (by decide +kernel) (by decide +kernel)
set_option maxRecDepth 20000 in
theorem gX2_goAlike_X2_trail : GoodIn wsX2_goAlike (wsV RX2 46 RX2 yX2_trail wsX2_trail) := goodIn_app (goodIn_of _ (by decide +kernel)) ggX2_goAlike_X2_trail
theorem dX2_goAlike_0 : decode cX2_goAlike 0 = .ok (.iconst 0, 1) := by decide +kernel
theorem dX2_goAlike_1 : decode cX2_goAlike 1 = .ok (.istore 4, 2) := by decide +kernel
theorem dX2_goAlike_3 : decode cX2_goAlike 3 = .ok (.iload 4, 2) := by decide +kernel
theorem dX2_goAlike_5 : decode cX2_goAlike 5 = .ok (.iconst 4, 1) := by decide +kernel
theorem dX2_goAlike_6 : decode cX2_goAlike 6 = .ok (.if_icmp .ge 30, 3) := by decide +kernel
theorem dX2_goAlike_9 : decode cX2_goAlike 9 = .ok (.aload_n 0, 1) := by decide +kernel
theorem dX2_goAlike_10 : decode cX2_goAlike 10 = .ok (.aload_n 1, 1) := by decide +kernel
theorem dX2_goAlike_11 : decode cX2_goAlike 11 = .ok (.iload_n 2, 1) := by decide +kernel
theorem dX2_goAlike_12 : decode cX2_goAlike 12 = .ok (.iload 4, 2) := by decide +kernel
theorem dX2_goAlike_14 : decode cX2_goAlike 14 = .ok (.invokevirtual 46, 3) := by decide +kernel
theorem dX2_goAlike_17 : decode cX2_goAlike 17 = .ok (.aload_n 0, 1) := by decide +kernel
theorem dX2_goAlike_18 : decode cX2_goAlike 18 = .ok (.aload_n 1, 1) := by decide +kernel
theorem dX2_goAlike_19 : decode cX2_goAlike 19 = .ok (.iload_n 3, 1) := by decide +kernel
theorem dX2_goAlike_20 : decode cX2_goAlike 20 = .ok (.iload 4, 2) := by decide +kernel
theorem dX2_goAlike_22 : decode cX2_goAlike 22 = .ok (.invokevirtual 46, 3) := by decide +kernel
theorem dX2_goAlike_25 : decode cX2_goAlike 25 = .ok (.if_icmp .eq 5, 3) := by decide +kernel
theorem dX2_goAlike_28 : decode cX2_goAlike 28 = .ok (.iconst 0, 1) := by decide +kernel
theorem dX2_goAlike_29 : decode cX2_goAlike 29 = .ok (.ireturn, 1) := by decide +kernel
theorem dX2_goAlike_30 : decode cX2_goAlike 30 = .ok (.iinc 4 1, 3) := by decide +kernel
theorem dX2_goAlike_33 : decode cX2_goAlike 33 = .ok (.goto (-30), 3) := by decide +kernel
theorem dX2_goAlike_36 : decode cX2_goAlike 36 = .ok (.iconst 1, 1) := by decide +kernel
theorem dX2_goAlike_37 : decode cX2_goAlike 37 = .ok (.ireturn, 1) := by decide +kernel
set_option maxRecDepth 20000 in
theorem ggX2_trail_X6_goes : GoodIn wsX2_trail wsX6_goes := goodIn_r _ [6, 7, 8, 9, 10, 5, 11, 12, 34, 35, 36, 37, 38, 39, 40, 41, 42, 43] (by decide +kernel) (by decide +kernel)
set_option maxRecDepth 20000 in
theorem gX2_trail_X6_goes : GoodIn wsX2_trail (wsV RX2 50 RX6 yX6_goes wsX6_goes) := goodIn_app (goodIn_of _ (by decide +kernel)) ggX2_trail_X6_goes
set_option maxRecDepth 20000 in
theorem ggX2_trail_X6_isPlace : GoodIn wsX2_trail wsX6_isPlace := goodIn_r _ [16, 12, 34, 35, 36, 37, 38, 39, 40, 41, 42, 43] (by decide +kernel) (by decide +kernel)
set_option maxRecDepth 20000 in
theorem gX2_trail_X6_isPlace : GoodIn wsX2_trail (wsV RX2 54 RX6 yX6_isPlace wsX6_isPlace) := goodIn_app (goodIn_of _ (by decide +kernel)) ggX2_trail_X6_isPlace
set_option maxRecDepth 20000 in
theorem ggX2_trail_X6_isLive : GoodIn wsX2_trail wsX6_isLive := goodIn_r _ [20, 21, 22, 8, 9, 10, 5, 11, 12, 23, 24, 25, 34, 35, 36, 37, 38, 39, 40, 41, 42, 43] (by decide +kernel) (by decide +kernel)
set_option maxRecDepth 20000 in
theorem gX2_trail_X6_isLive : GoodIn wsX2_trail (wsV RX2 28 RX6 yX6_isLive wsX6_isLive) := goodIn_app (goodIn_of _ (by decide +kernel)) ggX2_trail_X6_isLive
set_option maxRecDepth 20000 in
theorem ggX2_trail_X6_actAt : GoodIn wsX2_trail wsX6_actAt := goodIn_r _ [29, 30, 31, 14, 15, 5, 16, 12, 34, 35, 36, 37, 38, 39, 40, 41, 42, 43] (by decide +kernel) (by decide +kernel)
set_option maxRecDepth 20000 in
theorem gX2_trail_X6_actAt : GoodIn wsX2_trail (wsV RX2 57 RX6 yX6_actAt wsX6_actAt) := goodIn_app (goodIn_of _ (by decide +kernel)) ggX2_trail_X6_actAt
theorem dX2_trail_0 : decode cX2_trail 0 = .ok (.aload_n 1, 1) := by decide +kernel
theorem dX2_trail_1 : decode cX2_trail 1 = .ok (.iload_n 2, 1) := by decide +kernel
theorem dX2_trail_2 : decode cX2_trail 2 = .ok (.iload_n 3, 1) := by decide +kernel
theorem dX2_trail_3 : decode cX2_trail 3 = .ok (.invokevirtual 50, 3) := by decide +kernel
theorem dX2_trail_6 : decode cX2_trail 6 = .ok (.istore 4, 2) := by decide +kernel
theorem dX2_trail_8 : decode cX2_trail 8 = .ok (.iload 4, 2) := by decide +kernel
theorem dX2_trail_10 : decode cX2_trail 10 = .ok (.ifCond .ne 5, 3) := by decide +kernel
theorem dX2_trail_13 : decode cX2_trail 13 = .ok (.iconst 0, 1) := by decide +kernel
theorem dX2_trail_14 : decode cX2_trail 14 = .ok (.ireturn, 1) := by decide +kernel
theorem dX2_trail_15 : decode cX2_trail 15 = .ok (.aload_n 1, 1) := by decide +kernel
theorem dX2_trail_16 : decode cX2_trail 16 = .ok (.iload 4, 2) := by decide +kernel
theorem dX2_trail_18 : decode cX2_trail 18 = .ok (.invokevirtual 54, 3) := by decide +kernel
theorem dX2_trail_21 : decode cX2_trail 21 = .ok (.ifCond .eq 12, 3) := by decide +kernel
theorem dX2_trail_24 : decode cX2_trail 24 = .ok (.aload_n 1, 1) := by decide +kernel
theorem dX2_trail_25 : decode cX2_trail 25 = .ok (.iload 4, 2) := by decide +kernel
theorem dX2_trail_27 : decode cX2_trail 27 = .ok (.invokevirtual 28, 3) := by decide +kernel
theorem dX2_trail_30 : decode cX2_trail 30 = .ok (.ifCond .ne 5, 3) := by decide +kernel
theorem dX2_trail_33 : decode cX2_trail 33 = .ok (.iconst (-1), 1) := by decide +kernel
theorem dX2_trail_34 : decode cX2_trail 34 = .ok (.ireturn, 1) := by decide +kernel
theorem dX2_trail_35 : decode cX2_trail 35 = .ok (.aload_n 1, 1) := by decide +kernel
theorem dX2_trail_36 : decode cX2_trail 36 = .ok (.iload 4, 2) := by decide +kernel
theorem dX2_trail_38 : decode cX2_trail 38 = .ok (.invokevirtual 57, 3) := by decide +kernel
theorem dX2_trail_41 : decode cX2_trail 41 = .ok (.bipush 17, 2) := by decide +kernel
theorem dX2_trail_43 : decode cX2_trail 43 = .ok (.imul, 1) := by decide +kernel
theorem dX2_trail_44 : decode cX2_trail 44 = .ok (.aload_n 0, 1) := by decide +kernel
theorem dX2_trail_45 : decode cX2_trail 45 = .ok (.getfield 9, 3) := by decide +kernel
theorem dX2_trail_48 : decode cX2_trail 48 = .ok (.iload 4, 2) := by decide +kernel
theorem dX2_trail_50 : decode cX2_trail 50 = .ok (.iaload, 1) := by decide +kernel
theorem dX2_trail_51 : decode cX2_trail 51 = .ok (.iadd, 1) := by decide +kernel
theorem dX2_trail_52 : decode cX2_trail 52 = .ok (.ireturn, 1) := by decide +kernel
set_option maxRecDepth 20000 in
theorem ggX3_init_X1_init : GoodIn wsX3_init wsX1_init := goodIn_r _ [4, 5, 6, 7, 8, 9, 10, 11] (by decide +kernel) (by decide +kernel)
set_option maxRecDepth 20000 in
theorem gX3_init_X1_init : GoodIn wsX3_init (wsX1_init) := ggX3_init_X1_init
theorem dX3_init_0 : decode cX3_init 0 = .ok (.aload_n 0, 1) := by decide +kernel
theorem dX3_init_1 : decode cX3_init 1 = .ok (.invokespecial 1, 3) := by decide +kernel
theorem dX3_init_4 : decode cX3_init 4 = .ok (.return_, 1) := by decide +kernel
set_option maxRecDepth 20000 in
theorem ggX3_weigh_X1_weigh : GoodIn wsX3_weigh wsX1_weigh := goodIn_r _ [8, 9, 10, 11, 12, 13, 14, 15, 16, 17, 18] (by decide +kernel) (by decide +kernel)
set_option maxRecDepth 20000 in
theorem gX3_weigh_X1_weigh_s15 : GoodIn wsX3_weigh (va_wsSU RX3 15 yX1_weigh wsX1_weigh) := goodIn_app (goodIn_of _ (by decide +kernel)) ggX3_weigh_X1_weigh
theorem dX3_weigh_0 : decode cX3_weigh 0 = .ok (.aload_n 2, 1) := by decide +kernel
theorem dX3_weigh_1 : decode cX3_weigh 1 = .ok (.dup, 1) := by decide +kernel
theorem dX3_weigh_2 : decode cX3_weigh 2 = .ok (.getfield 7, 3) := by decide +kernel
theorem dX3_weigh_5 : decode cX3_weigh 5 = .ok (.ldc2_w 13, 3) := by decide +kernel
theorem dX3_weigh_8 : decode cX3_weigh 8 = .ok (.ladd, 1) := by decide +kernel
theorem dX3_weigh_9 : decode cX3_weigh 9 = .ok (.putfield 7, 3) := by decide +kernel
theorem dX3_weigh_12 : decode cX3_weigh 12 = .ok (.iconst 2, 1) := by decide +kernel
theorem dX3_weigh_13 : decode cX3_weigh 13 = .ok (.aload_n 0, 1) := by decide +kernel
theorem dX3_weigh_14 : decode cX3_weigh 14 = .ok (.iload_n 1, 1) := by decide +kernel
theorem dX3_weigh_15 : decode cX3_weigh 15 = .ok (.aload_n 2, 1) := by decide +kernel
theorem dX3_weigh_16 : decode cX3_weigh 16 = .ok (.invokespecial 15, 3) := by decide +kernel
theorem dX3_weigh_19 : decode cX3_weigh 19 = .ok (.imul, 1) := by decide +kernel
theorem dX3_weigh_20 : decode cX3_weigh 20 = .ok (.ireturn, 1) := by decide +kernel
theorem dX4_init_0 : decode cX4_init 0 = .ok (.aload_n 0, 1) := by decide +kernel
theorem dX4_init_1 : decode cX4_init 1 = .ok (.invokespecial 3, 3) := by decide +kernel
theorem dX4_init_4 : decode cX4_init 4 = .ok (.aload_n 0, 1) := by decide +kernel
theorem dX4_init_5 : decode cX4_init 5 = .ok (.sipush 324, 3) := by decide +kernel
theorem dX4_init_8 : decode cX4_init 8 = .ok (.newarray .int, 2) := by decide +kernel
theorem dX4_init_10 : decode cX4_init 10 = .ok (.putfield 11, 3) := by decide +kernel
theorem dX4_init_13 : decode cX4_init 13 = .ok (.aload_n 0, 1) := by decide +kernel
theorem dX4_init_14 : decode cX4_init 14 = .ok (.sipush 324, 3) := by decide +kernel
theorem dX4_init_17 : decode cX4_init 17 = .ok (.newarray .int, 2) := by decide +kernel
theorem dX4_init_19 : decode cX4_init 19 = .ok (.putfield 15, 3) := by decide +kernel
theorem dX4_init_22 : decode cX4_init 22 = .ok (.aload_n 0, 1) := by decide +kernel
theorem dX4_init_23 : decode cX4_init 23 = .ok (.sipush 324, 3) := by decide +kernel
theorem dX4_init_26 : decode cX4_init 26 = .ok (.newarray .int, 2) := by decide +kernel
theorem dX4_init_28 : decode cX4_init 28 = .ok (.putfield 18, 3) := by decide +kernel
theorem dX4_init_31 : decode cX4_init 31 = .ok (.aload_n 0, 1) := by decide +kernel
theorem dX4_init_32 : decode cX4_init 32 = .ok (.sipush 324, 3) := by decide +kernel
theorem dX4_init_35 : decode cX4_init 35 = .ok (.newarray .int, 2) := by decide +kernel
theorem dX4_init_37 : decode cX4_init 37 = .ok (.putfield 21, 3) := by decide +kernel
theorem dX4_init_40 : decode cX4_init 40 = .ok (.aload_n 0, 1) := by decide +kernel
theorem dX4_init_41 : decode cX4_init 41 = .ok (.sipush 324, 3) := by decide +kernel
theorem dX4_init_44 : decode cX4_init 44 = .ok (.newarray .long, 2) := by decide +kernel
theorem dX4_init_46 : decode cX4_init 46 = .ok (.putfield 24, 3) := by decide +kernel
theorem dX4_init_49 : decode cX4_init 49 = .ok (.return_, 1) := by decide +kernel
set_option maxRecDepth 20000 in
theorem ggX4_findRow_X4_note : GoodIn wsX4_findRow wsX4_note := goodIn_r _ [13, 1, 2, 3, 4, 5, 7, 44, 45, 46, 47, 48, 49, 50, 51] (by decide +kernel) (by decide +kernel)
set_option maxRecDepth 20000 in
theorem gX4_findRow_X4_note : GoodIn wsX4_findRow (wsV RX4 32 RX4 yX4_note wsX4_note) := goodIn_app (goodIn_of _ (by decide +kernel)) ggX4_findRow_X4_note
set_option maxRecDepth 20000 in
theorem ggX4_findRow_X6_goes : GoodIn wsX4_findRow wsX6_goes := goodIn_r _ [18, 19, 20, 21, 22, 17, 23, 24, 52, 53, 54, 55, 56, 57, 58, 59, 60, 61] (by decide +kernel) (by decide +kernel)
set_option maxRecDepth 20000 in
theorem gX4_findRow_X6_goes : GoodIn wsX4_findRow (wsV RX4 36 RX6 yX6_goes wsX6_goes) := goodIn_app (goodIn_of _ (by decide +kernel)) ggX4_findRow_X6_goes
set_option maxRecDepth 20000 in
theorem ggX4_findRow_X4_goOn : GoodIn wsX4_findRow wsX4_goOn := goodIn_r _ [28, 7, 29, 3, 4, 5, 30, 31, 32, 17, 33, 34, 15, 16, 18, 19, 20, 21, 22, 23, 24, 35, 36, 37, 38, 39, 40, 41, 42, 43, 9, 10, 11, 12, 13, 1, 2, 44, 45, 46, 47, 48, 49, 50, 51, 52, 53, 54, 55, 56, 57, 58, 59, 60, 61] (by decide +kernel) (by decide +kernel)
set_option maxRecDepth 20000 in
theorem gX4_findRow_X4_goOn : GoodIn wsX4_findRow (wsV RX4 49 RX4 yX4_goOn wsX4_goOn) := goodIn_app (goodIn_of _ (by decide +kernel)) ggX4_findRow_X4_goOn
theorem dX4_findRow_0 : decode cX4_findRow 0 = .ok (.iconst 0, 1) := by decide +kernel
theorem dX4_findRow_1 : decode cX4_findRow 1 = .ok (.istore 4, 2) := by decide +kernel
theorem dX4_findRow_3 : decode cX4_findRow 3 = .ok (.iload 4, 2) := by decide +kernel
theorem dX4_findRow_5 : decode cX4_findRow 5 = .ok (.aload_n 0, 1) := by decide +kernel
theorem dX4_findRow_6 : decode cX4_findRow 6 = .ok (.getfield 11, 3) := by decide +kernel
theorem dX4_findRow_9 : decode cX4_findRow 9 = .ok (.arraylength, 1) := by decide +kernel
theorem dX4_findRow_10 : decode cX4_findRow 10 = .ok (.if_icmp .ge 17, 3) := by decide +kernel
theorem dX4_findRow_13 : decode cX4_findRow 13 = .ok (.aload_n 0, 1) := by decide +kernel
theorem dX4_findRow_14 : decode cX4_findRow 14 = .ok (.getfield 11, 3) := by decide +kernel
theorem dX4_findRow_17 : decode cX4_findRow 17 = .ok (.iload 4, 2) := by decide +kernel
theorem dX4_findRow_19 : decode cX4_findRow 19 = .ok (.iconst 0, 1) := by decide +kernel
theorem dX4_findRow_20 : decode cX4_findRow 20 = .ok (.iastore, 1) := by decide +kernel
theorem dX4_findRow_21 : decode cX4_findRow 21 = .ok (.iinc 4 1, 3) := by decide +kernel
theorem dX4_findRow_24 : decode cX4_findRow 24 = .ok (.goto (-21), 3) := by decide +kernel
theorem dX4_findRow_27 : decode cX4_findRow 27 = .ok (.aload_n 0, 1) := by decide +kernel
theorem dX4_findRow_28 : decode cX4_findRow 28 = .ok (.iconst 0, 1) := by decide +kernel
theorem dX4_findRow_29 : decode cX4_findRow 29 = .ok (.putfield 28, 3) := by decide +kernel
theorem dX4_findRow_32 : decode cX4_findRow 32 = .ok (.aload_n 0, 1) := by decide +kernel
theorem dX4_findRow_33 : decode cX4_findRow 33 = .ok (.iconst 0, 1) := by decide +kernel
theorem dX4_findRow_34 : decode cX4_findRow 34 = .ok (.iconst 0, 1) := by decide +kernel
theorem dX4_findRow_35 : decode cX4_findRow 35 = .ok (.iconst 0, 1) := by decide +kernel
theorem dX4_findRow_36 : decode cX4_findRow 36 = .ok (.lconst 0, 1) := by decide +kernel
theorem dX4_findRow_37 : decode cX4_findRow 37 = .ok (.invokevirtual 32, 3) := by decide +kernel
theorem dX4_findRow_40 : decode cX4_findRow 40 = .ok (.iconst 0, 1) := by decide +kernel
theorem dX4_findRow_41 : decode cX4_findRow 41 = .ok (.istore 4, 2) := by decide +kernel
theorem dX4_findRow_43 : decode cX4_findRow 43 = .ok (.iload 4, 2) := by decide +kernel
theorem dX4_findRow_45 : decode cX4_findRow 45 = .ok (.aload_n 0, 1) := by decide +kernel
theorem dX4_findRow_46 : decode cX4_findRow 46 = .ok (.getfield 28, 3) := by decide +kernel
theorem dX4_findRow_49 : decode cX4_findRow 49 = .ok (.if_icmp .ge 132, 3) := by decide +kernel
theorem dX4_findRow_52 : decode cX4_findRow 52 = .ok (.iload 4, 2) := by decide +kernel
theorem dX4_findRow_54 : decode cX4_findRow 54 = .ok (.aload_n 0, 1) := by decide +kernel
theorem dX4_findRow_55 : decode cX4_findRow 55 = .ok (.getfield 11, 3) := by decide +kernel
theorem dX4_findRow_58 : decode cX4_findRow 58 = .ok (.arraylength, 1) := by decide +kernel
theorem dX4_findRow_59 : decode cX4_findRow 59 = .ok (.if_icmp .ge 122, 3) := by decide +kernel
theorem dX4_findRow_62 : decode cX4_findRow 62 = .ok (.iconst 0, 1) := by decide +kernel
theorem dX4_findRow_63 : decode cX4_findRow 63 = .ok (.istore 5, 2) := by decide +kernel
theorem dX4_findRow_65 : decode cX4_findRow 65 = .ok (.iload 5, 2) := by decide +kernel
theorem dX4_findRow_67 : decode cX4_findRow 67 = .ok (.iconst 4, 1) := by decide +kernel
theorem dX4_findRow_68 : decode cX4_findRow 68 = .ok (.if_icmp .ge 99, 3) := by decide +kernel
theorem dX4_findRow_71 : decode cX4_findRow 71 = .ok (.aload_n 1, 1) := by decide +kernel
theorem dX4_findRow_72 : decode cX4_findRow 72 = .ok (.aload_n 0, 1) := by decide +kernel
theorem dX4_findRow_73 : decode cX4_findRow 73 = .ok (.getfield 15, 3) := by decide +kernel
theorem dX4_findRow_76 : decode cX4_findRow 76 = .ok (.iload 4, 2) := by decide +kernel
theorem dX4_findRow_78 : decode cX4_findRow 78 = .ok (.iaload, 1) := by decide +kernel
theorem dX4_findRow_79 : decode cX4_findRow 79 = .ok (.iload 5, 2) := by decide +kernel
theorem dX4_findRow_81 : decode cX4_findRow 81 = .ok (.invokevirtual 36, 3) := by decide +kernel
theorem dX4_findRow_84 : decode cX4_findRow 84 = .ok (.ifCond .ne 7, 3) := by decide +kernel
theorem dX4_findRow_87 : decode cX4_findRow 87 = .ok (.iconst 1, 1) := by decide +kernel
theorem dX4_findRow_88 : decode cX4_findRow 88 = .ok (.goto 4, 3) := by decide +kernel
theorem dX4_findRow_91 : decode cX4_findRow 91 = .ok (.iconst 0, 1) := by decide +kernel
theorem dX4_findRow_92 : decode cX4_findRow 92 = .ok (.istore 6, 2) := by decide +kernel
theorem dX4_findRow_94 : decode cX4_findRow 94 = .ok (.aload_n 2, 1) := by decide +kernel
theorem dX4_findRow_95 : decode cX4_findRow 95 = .ok (.aload_n 0, 1) := by decide +kernel
theorem dX4_findRow_96 : decode cX4_findRow 96 = .ok (.getfield 18, 3) := by decide +kernel
theorem dX4_findRow_99 : decode cX4_findRow 99 = .ok (.iload 4, 2) := by decide +kernel
theorem dX4_findRow_101 : decode cX4_findRow 101 = .ok (.iaload, 1) := by decide +kernel
theorem dX4_findRow_102 : decode cX4_findRow 102 = .ok (.iload 5, 2) := by decide +kernel
theorem dX4_findRow_104 : decode cX4_findRow 104 = .ok (.invokevirtual 36, 3) := by decide +kernel
theorem dX4_findRow_107 : decode cX4_findRow 107 = .ok (.ifCond .ne 7, 3) := by decide +kernel
theorem dX4_findRow_110 : decode cX4_findRow 110 = .ok (.iconst 1, 1) := by decide +kernel
theorem dX4_findRow_111 : decode cX4_findRow 111 = .ok (.goto 4, 3) := by decide +kernel
theorem dX4_findRow_114 : decode cX4_findRow 114 = .ok (.iconst 0, 1) := by decide +kernel
theorem dX4_findRow_115 : decode cX4_findRow 115 = .ok (.istore 7, 2) := by decide +kernel
theorem dX4_findRow_117 : decode cX4_findRow 117 = .ok (.iload 6, 2) := by decide +kernel
theorem dX4_findRow_119 : decode cX4_findRow 119 = .ok (.iload 7, 2) := by decide +kernel
theorem dX4_findRow_121 : decode cX4_findRow 121 = .ok (.if_icmp .eq 40, 3) := by decide +kernel
theorem dX4_findRow_124 : decode cX4_findRow 124 = .ok (.iload_n 3, 1) := by decide +kernel
theorem dX4_findRow_125 : decode cX4_findRow 125 = .ok (.ifCond .ne 8, 3) := by decide +kernel
theorem dX4_findRow_128 : decode cX4_findRow 128 = .ok (.iload 6, 2) := by decide +kernel
theorem dX4_findRow_130 : decode cX4_findRow 130 = .ok (.ifCond .eq 31, 3) := by decide +kernel
theorem dX4_findRow_133 : decode cX4_findRow 133 = .ok (.aload_n 0, 1) := by decide +kernel
theorem dX4_findRow_134 : decode cX4_findRow 134 = .ok (.aload_n 0, 1) := by decide +kernel
theorem dX4_findRow_135 : decode cX4_findRow 135 = .ok (.getfield 21, 3) := by decide +kernel
theorem dX4_findRow_138 : decode cX4_findRow 138 = .ok (.iload 4, 2) := by decide +kernel
theorem dX4_findRow_140 : decode cX4_findRow 140 = .ok (.iaload, 1) := by decide +kernel
theorem dX4_findRow_141 : decode cX4_findRow 141 = .ok (.putfield 42, 3) := by decide +kernel
theorem dX4_findRow_144 : decode cX4_findRow 144 = .ok (.aload_n 0, 1) := by decide +kernel
theorem dX4_findRow_145 : decode cX4_findRow 145 = .ok (.aload_n 0, 1) := by decide +kernel
theorem dX4_findRow_146 : decode cX4_findRow 146 = .ok (.getfield 24, 3) := by decide +kernel
theorem dX4_findRow_149 : decode cX4_findRow 149 = .ok (.iload 4, 2) := by decide +kernel
theorem dX4_findRow_151 : decode cX4_findRow 151 = .ok (.laload, 1) := by decide +kernel
theorem dX4_findRow_152 : decode cX4_findRow 152 = .ok (.iload 5, 2) := by decide +kernel
theorem dX4_findRow_154 : decode cX4_findRow 154 = .ok (.i2l, 1) := by decide +kernel
theorem dX4_findRow_155 : decode cX4_findRow 155 = .ok (.ladd, 1) := by decide +kernel
theorem dX4_findRow_156 : decode cX4_findRow 156 = .ok (.putfield 45, 3) := by decide +kernel
theorem dX4_findRow_159 : decode cX4_findRow 159 = .ok (.iconst 1, 1) := by decide +kernel
theorem dX4_findRow_160 : decode cX4_findRow 160 = .ok (.ireturn, 1) := by decide +kernel
theorem dX4_findRow_161 : decode cX4_findRow 161 = .ok (.iinc 5 1, 3) := by decide +kernel
theorem dX4_findRow_164 : decode cX4_findRow 164 = .ok (.goto (-99), 3) := by decide +kernel
theorem dX4_findRow_167 : decode cX4_findRow 167 = .ok (.aload_n 0, 1) := by decide +kernel
theorem dX4_findRow_168 : decode cX4_findRow 168 = .ok (.aload_n 1, 1) := by decide +kernel
theorem dX4_findRow_169 : decode cX4_findRow 169 = .ok (.aload_n 2, 1) := by decide +kernel
theorem dX4_findRow_170 : decode cX4_findRow 170 = .ok (.iload 4, 2) := by decide +kernel
theorem dX4_findRow_172 : decode cX4_findRow 172 = .ok (.invokevirtual 49, 3) := by decide +kernel
theorem dX4_findRow_175 : decode cX4_findRow 175 = .ok (.iinc 4 1, 3) := by decide +kernel
theorem dX4_findRow_178 : decode cX4_findRow 178 = .ok (.goto (-135), 3) := by decide +kernel
theorem dX4_findRow_181 : decode cX4_findRow 181 = .ok (.iconst 0, 1) := by decide +kernel
theorem dX4_findRow_182 : decode cX4_findRow 182 = .ok (.ireturn, 1) := by decide +kernel
set_option maxRecDepth 20000 in
theorem ggX4_goOn_X6_goesBy : GoodIn wsX4_goOn wsX6_goesBy := goodIn_r _ [10, 11, 12, 13, 9, 14, 15, 16, 17, 18, 19, 20, 21, 22, 23, 24, 25, 26, 27, 28, 29, 45, 46, 47, 48, 49, 50, 51, 52, 53, 54] (by decide +kernel) (by decide +kernel)
set_option maxRecDepth 20000 in
theorem gX4_goOn_X6_goesBy : GoodIn wsX4_goOn (wsV RX4 55 RX6 yX6_goesBy wsX6_goesBy) := goodIn_app (goodIn_of _ (by decide +kernel)) ggX4_goOn_X6_goesBy
set_option maxRecDepth 20000 in
theorem ggX4_goOn_X4_note : GoodIn wsX4_goOn wsX4_note := goodIn_r _ [34, 35, 36, 3, 4, 5, 1, 37, 38, 39, 40, 41, 42, 43, 44] (by decide +kernel) (by decide +kernel)
set_option maxRecDepth 20000 in
theorem gX4_goOn_X4_note : GoodIn wsX4_goOn (wsV RX4 32 RX4 yX4_note wsX4_note) := goodIn_app (goodIn_of _ (by decide +kernel)) ggX4_goOn_X4_note
theorem dX4_goOn_0 : decode cX4_goOn 0 = .ok (.iconst 0, 1) := by decide +kernel
theorem dX4_goOn_1 : decode cX4_goOn 1 = .ok (.istore 4, 2) := by decide +kernel
theorem dX4_goOn_3 : decode cX4_goOn 3 = .ok (.iload 4, 2) := by decide +kernel
theorem dX4_goOn_5 : decode cX4_goOn 5 = .ok (.iconst 4, 1) := by decide +kernel
theorem dX4_goOn_6 : decode cX4_goOn 6 = .ok (.if_icmp .ge 90, 3) := by decide +kernel
theorem dX4_goOn_9 : decode cX4_goOn 9 = .ok (.iconst 1, 1) := by decide +kernel
theorem dX4_goOn_10 : decode cX4_goOn 10 = .ok (.istore 5, 2) := by decide +kernel
theorem dX4_goOn_12 : decode cX4_goOn 12 = .ok (.iload 5, 2) := by decide +kernel
theorem dX4_goOn_14 : decode cX4_goOn 14 = .ok (.iconst 3, 1) := by decide +kernel
theorem dX4_goOn_15 : decode cX4_goOn 15 = .ok (.if_icmp .gt 75, 3) := by decide +kernel
theorem dX4_goOn_18 : decode cX4_goOn 18 = .ok (.aload_n 0, 1) := by decide +kernel
theorem dX4_goOn_19 : decode cX4_goOn 19 = .ok (.getfield 24, 3) := by decide +kernel
theorem dX4_goOn_22 : decode cX4_goOn 22 = .ok (.iload_n 3, 1) := by decide +kernel
theorem dX4_goOn_23 : decode cX4_goOn 23 = .ok (.laload, 1) := by decide +kernel
theorem dX4_goOn_24 : decode cX4_goOn 24 = .ok (.iload 4, 2) := by decide +kernel
theorem dX4_goOn_26 : decode cX4_goOn 26 = .ok (.i2l, 1) := by decide +kernel
theorem dX4_goOn_27 : decode cX4_goOn 27 = .ok (.ladd, 1) := by decide +kernel
theorem dX4_goOn_28 : decode cX4_goOn 28 = .ok (.ldc2_w 53, 3) := by decide +kernel
theorem dX4_goOn_31 : decode cX4_goOn 31 = .ok (.lmul, 1) := by decide +kernel
theorem dX4_goOn_32 : decode cX4_goOn 32 = .ok (.iload 5, 2) := by decide +kernel
theorem dX4_goOn_34 : decode cX4_goOn 34 = .ok (.iconst 1, 1) := by decide +kernel
theorem dX4_goOn_35 : decode cX4_goOn 35 = .ok (.isub, 1) := by decide +kernel
theorem dX4_goOn_36 : decode cX4_goOn 36 = .ok (.iconst 4, 1) := by decide +kernel
theorem dX4_goOn_37 : decode cX4_goOn 37 = .ok (.imul, 1) := by decide +kernel
theorem dX4_goOn_38 : decode cX4_goOn 38 = .ok (.i2l, 1) := by decide +kernel
theorem dX4_goOn_39 : decode cX4_goOn 39 = .ok (.ladd, 1) := by decide +kernel
theorem dX4_goOn_40 : decode cX4_goOn 40 = .ok (.lstore 6, 2) := by decide +kernel
theorem dX4_goOn_42 : decode cX4_goOn 42 = .ok (.aload_n 0, 1) := by decide +kernel
theorem dX4_goOn_43 : decode cX4_goOn 43 = .ok (.aload_n 1, 1) := by decide +kernel
theorem dX4_goOn_44 : decode cX4_goOn 44 = .ok (.aload_n 0, 1) := by decide +kernel
theorem dX4_goOn_45 : decode cX4_goOn 45 = .ok (.getfield 15, 3) := by decide +kernel
theorem dX4_goOn_48 : decode cX4_goOn 48 = .ok (.iload_n 3, 1) := by decide +kernel
theorem dX4_goOn_49 : decode cX4_goOn 49 = .ok (.iaload, 1) := by decide +kernel
theorem dX4_goOn_50 : decode cX4_goOn 50 = .ok (.iload 4, 2) := by decide +kernel
theorem dX4_goOn_52 : decode cX4_goOn 52 = .ok (.iload 5, 2) := by decide +kernel
theorem dX4_goOn_54 : decode cX4_goOn 54 = .ok (.invokevirtual 55, 3) := by decide +kernel
theorem dX4_goOn_57 : decode cX4_goOn 57 = .ok (.aload_n 2, 1) := by decide +kernel
theorem dX4_goOn_58 : decode cX4_goOn 58 = .ok (.aload_n 0, 1) := by decide +kernel
theorem dX4_goOn_59 : decode cX4_goOn 59 = .ok (.getfield 18, 3) := by decide +kernel
theorem dX4_goOn_62 : decode cX4_goOn 62 = .ok (.iload_n 3, 1) := by decide +kernel
theorem dX4_goOn_63 : decode cX4_goOn 63 = .ok (.iaload, 1) := by decide +kernel
theorem dX4_goOn_64 : decode cX4_goOn 64 = .ok (.iload 4, 2) := by decide +kernel
theorem dX4_goOn_66 : decode cX4_goOn 66 = .ok (.iload 5, 2) := by decide +kernel
theorem dX4_goOn_68 : decode cX4_goOn 68 = .ok (.invokevirtual 55, 3) := by decide +kernel
theorem dX4_goOn_71 : decode cX4_goOn 71 = .ok (.aload_n 0, 1) := by decide +kernel
theorem dX4_goOn_72 : decode cX4_goOn 72 = .ok (.getfield 21, 3) := by decide +kernel
theorem dX4_goOn_75 : decode cX4_goOn 75 = .ok (.iload_n 3, 1) := by decide +kernel
theorem dX4_goOn_76 : decode cX4_goOn 76 = .ok (.iaload, 1) := by decide +kernel
theorem dX4_goOn_77 : decode cX4_goOn 77 = .ok (.iconst 1, 1) := by decide +kernel
theorem dX4_goOn_78 : decode cX4_goOn 78 = .ok (.iadd, 1) := by decide +kernel
theorem dX4_goOn_79 : decode cX4_goOn 79 = .ok (.lload 6, 2) := by decide +kernel
theorem dX4_goOn_81 : decode cX4_goOn 81 = .ok (.invokevirtual 32, 3) := by decide +kernel
theorem dX4_goOn_84 : decode cX4_goOn 84 = .ok (.iinc 5 1, 3) := by decide +kernel
theorem dX4_goOn_87 : decode cX4_goOn 87 = .ok (.goto (-75), 3) := by decide +kernel
theorem dX4_goOn_90 : decode cX4_goOn 90 = .ok (.iinc 4 1, 3) := by decide +kernel
theorem dX4_goOn_93 : decode cX4_goOn 93 = .ok (.goto (-90), 3) := by decide +kernel
theorem dX4_goOn_96 : decode cX4_goOn 96 = .ok (.return_, 1) := by decide +kernel
theorem dX4_note_0 : decode cX4_note 0 = .ok (.iload_n 1, 1) := by decide +kernel
theorem dX4_note_1 : decode cX4_note 1 = .ok (.bipush 18, 2) := by decide +kernel
theorem dX4_note_3 : decode cX4_note 3 = .ok (.imul, 1) := by decide +kernel
theorem dX4_note_4 : decode cX4_note 4 = .ok (.iload_n 2, 1) := by decide +kernel
theorem dX4_note_5 : decode cX4_note 5 = .ok (.iadd, 1) := by decide +kernel
theorem dX4_note_6 : decode cX4_note 6 = .ok (.istore 6, 2) := by decide +kernel
theorem dX4_note_8 : decode cX4_note 8 = .ok (.iload_n 1, 1) := by decide +kernel
theorem dX4_note_9 : decode cX4_note 9 = .ok (.bipush 17, 2) := by decide +kernel
theorem dX4_note_11 : decode cX4_note 11 = .ok (.if_icmp .ne 13, 3) := by decide +kernel
theorem dX4_note_14 : decode cX4_note 14 = .ok (.iload_n 2, 1) := by decide +kernel
theorem dX4_note_15 : decode cX4_note 15 = .ok (.bipush 17, 2) := by decide +kernel
theorem dX4_note_17 : decode cX4_note 17 = .ok (.if_icmp .ne 7, 3) := by decide +kernel
theorem dX4_note_20 : decode cX4_note 20 = .ok (.iconst 1, 1) := by decide +kernel
theorem dX4_note_21 : decode cX4_note 21 = .ok (.goto 4, 3) := by decide +kernel
theorem dX4_note_24 : decode cX4_note 24 = .ok (.iconst 0, 1) := by decide +kernel
theorem dX4_note_25 : decode cX4_note 25 = .ok (.istore 7, 2) := by decide +kernel
theorem dX4_note_27 : decode cX4_note 27 = .ok (.iload 6, 2) := by decide +kernel
theorem dX4_note_29 : decode cX4_note 29 = .ok (.ifCond .lt 29, 3) := by decide +kernel
theorem dX4_note_32 : decode cX4_note 32 = .ok (.iload 6, 2) := by decide +kernel
theorem dX4_note_34 : decode cX4_note 34 = .ok (.aload_n 0, 1) := by decide +kernel
theorem dX4_note_35 : decode cX4_note 35 = .ok (.getfield 11, 3) := by decide +kernel
theorem dX4_note_38 : decode cX4_note 38 = .ok (.arraylength, 1) := by decide +kernel
theorem dX4_note_39 : decode cX4_note 39 = .ok (.if_icmp .ge 19, 3) := by decide +kernel
theorem dX4_note_42 : decode cX4_note 42 = .ok (.aload_n 0, 1) := by decide +kernel
theorem dX4_note_43 : decode cX4_note 43 = .ok (.getfield 28, 3) := by decide +kernel
theorem dX4_note_46 : decode cX4_note 46 = .ok (.aload_n 0, 1) := by decide +kernel
theorem dX4_note_47 : decode cX4_note 47 = .ok (.getfield 15, 3) := by decide +kernel
theorem dX4_note_50 : decode cX4_note 50 = .ok (.arraylength, 1) := by decide +kernel
theorem dX4_note_51 : decode cX4_note 51 = .ok (.if_icmp .ge 7, 3) := by decide +kernel
theorem dX4_note_54 : decode cX4_note 54 = .ok (.iconst 1, 1) := by decide +kernel
theorem dX4_note_55 : decode cX4_note 55 = .ok (.goto 4, 3) := by decide +kernel
theorem dX4_note_58 : decode cX4_note 58 = .ok (.iconst 0, 1) := by decide +kernel
theorem dX4_note_59 : decode cX4_note 59 = .ok (.istore 8, 2) := by decide +kernel
theorem dX4_note_61 : decode cX4_note 61 = .ok (.iload 7, 2) := by decide +kernel
theorem dX4_note_63 : decode cX4_note 63 = .ok (.ifCond .ne 18, 3) := by decide +kernel
theorem dX4_note_66 : decode cX4_note 66 = .ok (.iload 8, 2) := by decide +kernel
theorem dX4_note_68 : decode cX4_note 68 = .ok (.ifCond .eq 13, 3) := by decide +kernel
theorem dX4_note_71 : decode cX4_note 71 = .ok (.aload_n 0, 1) := by decide +kernel
theorem dX4_note_72 : decode cX4_note 72 = .ok (.getfield 11, 3) := by decide +kernel
theorem dX4_note_75 : decode cX4_note 75 = .ok (.iload 6, 2) := by decide +kernel
theorem dX4_note_77 : decode cX4_note 77 = .ok (.iaload, 1) := by decide +kernel
theorem dX4_note_78 : decode cX4_note 78 = .ok (.ifCond .eq 4, 3) := by decide +kernel
theorem dX4_note_81 : decode cX4_note 81 = .ok (.return_, 1) := by decide +kernel
theorem dX4_note_82 : decode cX4_note 82 = .ok (.aload_n 0, 1) := by decide +kernel
theorem dX4_note_83 : decode cX4_note 83 = .ok (.getfield 11, 3) := by decide +kernel
theorem dX4_note_86 : decode cX4_note 86 = .ok (.iload 6, 2) := by decide +kernel
theorem dX4_note_88 : decode cX4_note 88 = .ok (.iconst 1, 1) := by decide +kernel
theorem dX4_note_89 : decode cX4_note 89 = .ok (.iastore, 1) := by decide +kernel
theorem dX4_note_90 : decode cX4_note 90 = .ok (.aload_n 0, 1) := by decide +kernel
theorem dX4_note_91 : decode cX4_note 91 = .ok (.getfield 15, 3) := by decide +kernel
theorem dX4_note_94 : decode cX4_note 94 = .ok (.aload_n 0, 1) := by decide +kernel
theorem dX4_note_95 : decode cX4_note 95 = .ok (.getfield 28, 3) := by decide +kernel
theorem dX4_note_98 : decode cX4_note 98 = .ok (.iload_n 1, 1) := by decide +kernel
theorem dX4_note_99 : decode cX4_note 99 = .ok (.iastore, 1) := by decide +kernel
theorem dX4_note_100 : decode cX4_note 100 = .ok (.aload_n 0, 1) := by decide +kernel
theorem dX4_note_101 : decode cX4_note 101 = .ok (.getfield 18, 3) := by decide +kernel
theorem dX4_note_104 : decode cX4_note 104 = .ok (.aload_n 0, 1) := by decide +kernel
theorem dX4_note_105 : decode cX4_note 105 = .ok (.getfield 28, 3) := by decide +kernel
theorem dX4_note_108 : decode cX4_note 108 = .ok (.iload_n 2, 1) := by decide +kernel
theorem dX4_note_109 : decode cX4_note 109 = .ok (.iastore, 1) := by decide +kernel
theorem dX4_note_110 : decode cX4_note 110 = .ok (.aload_n 0, 1) := by decide +kernel
theorem dX4_note_111 : decode cX4_note 111 = .ok (.getfield 21, 3) := by decide +kernel
theorem dX4_note_114 : decode cX4_note 114 = .ok (.aload_n 0, 1) := by decide +kernel
theorem dX4_note_115 : decode cX4_note 115 = .ok (.getfield 28, 3) := by decide +kernel
theorem dX4_note_118 : decode cX4_note 118 = .ok (.iload_n 3, 1) := by decide +kernel
theorem dX4_note_119 : decode cX4_note 119 = .ok (.iastore, 1) := by decide +kernel
theorem dX4_note_120 : decode cX4_note 120 = .ok (.aload_n 0, 1) := by decide +kernel
theorem dX4_note_121 : decode cX4_note 121 = .ok (.getfield 24, 3) := by decide +kernel
theorem dX4_note_124 : decode cX4_note 124 = .ok (.aload_n 0, 1) := by decide +kernel
theorem dX4_note_125 : decode cX4_note 125 = .ok (.getfield 28, 3) := by decide +kernel
theorem dX4_note_128 : decode cX4_note 128 = .ok (.lload 4, 2) := by decide +kernel
theorem dX4_note_130 : decode cX4_note 130 = .ok (.lastore, 1) := by decide +kernel
theorem dX4_note_131 : decode cX4_note 131 = .ok (.aload_n 0, 1) := by decide +kernel
theorem dX4_note_132 : decode cX4_note 132 = .ok (.dup, 1) := by decide +kernel
theorem dX4_note_133 : decode cX4_note 133 = .ok (.getfield 28, 3) := by decide +kernel
theorem dX4_note_136 : decode cX4_note 136 = .ok (.iconst 1, 1) := by decide +kernel
theorem dX4_note_137 : decode cX4_note 137 = .ok (.iadd, 1) := by decide +kernel
theorem dX4_note_138 : decode cX4_note 138 = .ok (.putfield 28, 3) := by decide +kernel
theorem dX4_note_141 : decode cX4_note 141 = .ok (.return_, 1) := by decide +kernel
theorem dX5_init_0 : decode cX5_init 0 = .ok (.aload_n 0, 1) := by decide +kernel
theorem dX5_init_1 : decode cX5_init 1 = .ok (.invokespecial 1, 3) := by decide +kernel
theorem dX5_init_4 : decode cX5_init 4 = .ok (.return_, 1) := by decide +kernel
theorem dX5_weigh_0 : decode cX5_weigh 0 = .ok (.aload_n 2, 1) := by decide +kernel
theorem dX5_weigh_1 : decode cX5_weigh 1 = .ok (.dup, 1) := by decide +kernel
theorem dX5_weigh_2 : decode cX5_weigh 2 = .ok (.getfield 7, 3) := by decide +kernel
theorem dX5_weigh_5 : decode cX5_weigh 5 = .ok (.lconst 1, 1) := by decide +kernel
theorem dX5_weigh_6 : decode cX5_weigh 6 = .ok (.ladd, 1) := by decide +kernel
theorem dX5_weigh_7 : decode cX5_weigh 7 = .ok (.putfield 7, 3) := by decide +kernel
theorem dX5_weigh_10 : decode cX5_weigh 10 = .ok (.iconst 1, 1) := by decide +kernel
theorem dX5_weigh_11 : decode cX5_weigh 11 = .ok (.ireturn, 1) := by decide +kernel
set_option maxRecDepth 20000 in
theorem ggX6_init_X6_add : GoodIn wsX6_init wsX6_add := goodIn_r _ [16, 17, 18, 19, 20, 21, 5, 6, 7, 63, 64, 65, 66, 67, 68, 69, 70, 71, 72] (by decide +kernel) (by decide +kernel)
set_option maxRecDepth 20000 in
theorem gX6_init_X6_add : GoodIn wsX6_init (wsV RX6 33 RX6 yX6_add wsX6_add) := goodIn_app (goodIn_of _ (by decide +kernel)) ggX6_init_X6_add
set_option maxRecDepth 20000 in
theorem ggX6_init_X6_settle : GoodIn wsX6_init wsX6_settle := goodIn_r _ [25, 26, 10, 27, 28, 29, 15, 30, 8, 17, 5, 7, 6, 31, 32, 33, 34, 35, 36, 37, 11, 38, 39, 40, 41, 42, 43, 44, 45, 46, 47, 48, 49, 50, 51, 52, 53, 54, 55, 56, 57, 58, 59, 60, 61, 62, 63, 64, 65, 66, 67, 68, 69, 70, 71, 72] (by decide +kernel) (by decide +kernel)
set_option maxRecDepth 20000 in
theorem gX6_init_X6_settle : GoodIn wsX6_init (wsV RX6 37 RX6 yX6_settle wsX6_settle) := goodIn_app (goodIn_of _ (by decide +kernel)) ggX6_init_X6_settle
theorem dX6_init_0 : decode cX6_init 0 = .ok (.aload_n 0, 1) := by decide +kernel
theorem dX6_init_1 : decode cX6_init 1 = .ok (.invokespecial 3, 3) := by decide +kernel
theorem dX6_init_4 : decode cX6_init 4 = .ok (.aload_n 0, 1) := by decide +kernel
theorem dX6_init_5 : decode cX6_init 5 = .ok (.sipush 300, 3) := by decide +kernel
theorem dX6_init_8 : decode cX6_init 8 = .ok (.newarray .int, 2) := by decide +kernel
theorem dX6_init_10 : decode cX6_init 10 = .ok (.putfield 9, 3) := by decide +kernel
theorem dX6_init_13 : decode cX6_init 13 = .ok (.aload_n 0, 1) := by decide +kernel
theorem dX6_init_14 : decode cX6_init 14 = .ok (.sipush 300, 3) := by decide +kernel
theorem dX6_init_17 : decode cX6_init 17 = .ok (.newarray .int, 2) := by decide +kernel
theorem dX6_init_19 : decode cX6_init 19 = .ok (.putfield 15, 3) := by decide +kernel
theorem dX6_init_22 : decode cX6_init 22 = .ok (.aload_n 0, 1) := by decide +kernel
theorem dX6_init_23 : decode cX6_init 23 = .ok (.sipush 300, 3) := by decide +kernel
theorem dX6_init_26 : decode cX6_init 26 = .ok (.newarray .int, 2) := by decide +kernel
theorem dX6_init_28 : decode cX6_init 28 = .ok (.putfield 18, 3) := by decide +kernel
theorem dX6_init_31 : decode cX6_init 31 = .ok (.aload_n 0, 1) := by decide +kernel
theorem dX6_init_32 : decode cX6_init 32 = .ok (.bipush 17, 2) := by decide +kernel
theorem dX6_init_34 : decode cX6_init 34 = .ok (.newarray .int, 2) := by decide +kernel
theorem dX6_init_36 : decode cX6_init 36 = .ok (.putfield 21, 3) := by decide +kernel
theorem dX6_init_39 : decode cX6_init 39 = .ok (.aload_n 0, 1) := by decide +kernel
theorem dX6_init_40 : decode cX6_init 40 = .ok (.bipush 17, 2) := by decide +kernel
theorem dX6_init_42 : decode cX6_init 42 = .ok (.newarray .int, 2) := by decide +kernel
theorem dX6_init_44 : decode cX6_init 44 = .ok (.putfield 24, 3) := by decide +kernel
theorem dX6_init_47 : decode cX6_init 47 = .ok (.aload_n 0, 1) := by decide +kernel
theorem dX6_init_48 : decode cX6_init 48 = .ok (.bipush 68, 2) := by decide +kernel
theorem dX6_init_50 : decode cX6_init 50 = .ok (.newarray .int, 2) := by decide +kernel
theorem dX6_init_52 : decode cX6_init 52 = .ok (.putfield 27, 3) := by decide +kernel
theorem dX6_init_55 : decode cX6_init 55 = .ok (.aload_n 0, 1) := by decide +kernel
theorem dX6_init_56 : decode cX6_init 56 = .ok (.bipush 17, 2) := by decide +kernel
theorem dX6_init_58 : decode cX6_init 58 = .ok (.newarray .int, 2) := by decide +kernel
theorem dX6_init_60 : decode cX6_init 60 = .ok (.putfield 30, 3) := by decide +kernel
theorem dX6_init_63 : decode cX6_init 63 = .ok (.aload_n 0, 1) := by decide +kernel
theorem dX6_init_64 : decode cX6_init 64 = .ok (.iconst 0, 1) := by decide +kernel
theorem dX6_init_65 : decode cX6_init 65 = .ok (.bipush 15, 2) := by decide +kernel
theorem dX6_init_67 : decode cX6_init 67 = .ok (.bipush (-9), 2) := by decide +kernel
theorem dX6_init_69 : decode cX6_init 69 = .ok (.invokevirtual 33, 3) := by decide +kernel
theorem dX6_init_72 : decode cX6_init 72 = .ok (.pop, 1) := by decide +kernel
theorem dX6_init_73 : decode cX6_init 73 = .ok (.aload_n 0, 1) := by decide +kernel
theorem dX6_init_74 : decode cX6_init 74 = .ok (.invokevirtual 37, 3) := by decide +kernel
theorem dX6_init_77 : decode cX6_init 77 = .ok (.return_, 1) := by decide +kernel
theorem dX6_empty_0 : decode cX6_empty 0 = .ok (.aload_n 0, 1) := by decide +kernel
theorem dX6_empty_1 : decode cX6_empty 1 = .ok (.iconst 0, 1) := by decide +kernel
theorem dX6_empty_2 : decode cX6_empty 2 = .ok (.putfield 40, 3) := by decide +kernel
theorem dX6_empty_5 : decode cX6_empty 5 = .ok (.aload_n 0, 1) := by decide +kernel
theorem dX6_empty_6 : decode cX6_empty 6 = .ok (.iconst 0, 1) := by decide +kernel
theorem dX6_empty_7 : decode cX6_empty 7 = .ok (.putfield 44, 3) := by decide +kernel
theorem dX6_empty_10 : decode cX6_empty 10 = .ok (.return_, 1) := by decide +kernel
theorem dX6_add_0 : decode cX6_add 0 = .ok (.aload_n 0, 1) := by decide +kernel
theorem dX6_add_1 : decode cX6_add 1 = .ok (.getfield 40, 3) := by decide +kernel
theorem dX6_add_4 : decode cX6_add 4 = .ok (.sipush 299, 3) := by decide +kernel
theorem dX6_add_7 : decode cX6_add 7 = .ok (.invokestatic 47, 3) := by decide +kernel
theorem dX6_add_10 : decode cX6_add 10 = .ok (.istore 4, 2) := by decide +kernel
theorem dX6_add_12 : decode cX6_add 12 = .ok (.aload_n 0, 1) := by decide +kernel
theorem dX6_add_13 : decode cX6_add 13 = .ok (.getfield 9, 3) := by decide +kernel
theorem dX6_add_16 : decode cX6_add 16 = .ok (.iload 4, 2) := by decide +kernel
theorem dX6_add_18 : decode cX6_add 18 = .ok (.iload_n 1, 1) := by decide +kernel
theorem dX6_add_19 : decode cX6_add 19 = .ok (.iastore, 1) := by decide +kernel
theorem dX6_add_20 : decode cX6_add 20 = .ok (.aload_n 0, 1) := by decide +kernel
theorem dX6_add_21 : decode cX6_add 21 = .ok (.getfield 15, 3) := by decide +kernel
theorem dX6_add_24 : decode cX6_add 24 = .ok (.iload 4, 2) := by decide +kernel
theorem dX6_add_26 : decode cX6_add 26 = .ok (.iload_n 2, 1) := by decide +kernel
theorem dX6_add_27 : decode cX6_add 27 = .ok (.iastore, 1) := by decide +kernel
theorem dX6_add_28 : decode cX6_add 28 = .ok (.aload_n 0, 1) := by decide +kernel
theorem dX6_add_29 : decode cX6_add 29 = .ok (.getfield 18, 3) := by decide +kernel
theorem dX6_add_32 : decode cX6_add 32 = .ok (.iload 4, 2) := by decide +kernel
theorem dX6_add_34 : decode cX6_add 34 = .ok (.iload_n 3, 1) := by decide +kernel
theorem dX6_add_35 : decode cX6_add 35 = .ok (.iastore, 1) := by decide +kernel
theorem dX6_add_36 : decode cX6_add 36 = .ok (.aload_n 0, 1) := by decide +kernel
theorem dX6_add_37 : decode cX6_add 37 = .ok (.iload 4, 2) := by decide +kernel
theorem dX6_add_39 : decode cX6_add 39 = .ok (.iconst 1, 1) := by decide +kernel
theorem dX6_add_40 : decode cX6_add 40 = .ok (.iadd, 1) := by decide +kernel
theorem dX6_add_41 : decode cX6_add 41 = .ok (.putfield 40, 3) := by decide +kernel
theorem dX6_add_44 : decode cX6_add 44 = .ok (.iload 4, 2) := by decide +kernel
theorem dX6_add_46 : decode cX6_add 46 = .ok (.ireturn, 1) := by decide +kernel
set_option maxRecDepth 20000 in
theorem ggX6_addPlace_X6_add : GoodIn wsX6_addPlace wsX6_add := goodIn_r _ [9, 3, 10, 11, 12, 13, 14, 15, 16, 17, 18, 19, 20, 21, 22, 23, 24, 25, 26] (by decide +kernel) (by decide +kernel)
set_option maxRecDepth 20000 in
theorem gX6_addPlace_X6_add : GoodIn wsX6_addPlace (wsV RX6 33 RX6 yX6_add wsX6_add) := goodIn_app (goodIn_of _ (by decide +kernel)) ggX6_addPlace_X6_add
theorem dX6_addPlace_0 : decode cX6_addPlace 0 = .ok (.aload_n 0, 1) := by decide +kernel
theorem dX6_addPlace_1 : decode cX6_addPlace 1 = .ok (.getfield 44, 3) := by decide +kernel
theorem dX6_addPlace_4 : decode cX6_addPlace 4 = .ok (.bipush 16, 2) := by decide +kernel
theorem dX6_addPlace_6 : decode cX6_addPlace 6 = .ok (.if_icmp .lt 5, 3) := by decide +kernel
theorem dX6_addPlace_9 : decode cX6_addPlace 9 = .ok (.iconst 0, 1) := by decide +kernel
theorem dX6_addPlace_10 : decode cX6_addPlace 10 = .ok (.ireturn, 1) := by decide +kernel
theorem dX6_addPlace_11 : decode cX6_addPlace 11 = .ok (.aload_n 0, 1) := by decide +kernel
theorem dX6_addPlace_12 : decode cX6_addPlace 12 = .ok (.dup, 1) := by decide +kernel
theorem dX6_addPlace_13 : decode cX6_addPlace 13 = .ok (.getfield 44, 3) := by decide +kernel
theorem dX6_addPlace_16 : decode cX6_addPlace 16 = .ok (.iconst 1, 1) := by decide +kernel
theorem dX6_addPlace_17 : decode cX6_addPlace 17 = .ok (.iadd, 1) := by decide +kernel
theorem dX6_addPlace_18 : decode cX6_addPlace 18 = .ok (.putfield 44, 3) := by decide +kernel
theorem dX6_addPlace_21 : decode cX6_addPlace 21 = .ok (.aload_n 0, 1) := by decide +kernel
theorem dX6_addPlace_22 : decode cX6_addPlace 22 = .ok (.iconst 1, 1) := by decide +kernel
theorem dX6_addPlace_23 : decode cX6_addPlace 23 = .ok (.bipush 15, 2) := by decide +kernel
theorem dX6_addPlace_25 : decode cX6_addPlace 25 = .ok (.aload_n 0, 1) := by decide +kernel
theorem dX6_addPlace_26 : decode cX6_addPlace 26 = .ok (.getfield 44, 3) := by decide +kernel
theorem dX6_addPlace_29 : decode cX6_addPlace 29 = .ok (.invokevirtual 33, 3) := by decide +kernel
theorem dX6_addPlace_32 : decode cX6_addPlace 32 = .ok (.pop, 1) := by decide +kernel
theorem dX6_addPlace_33 : decode cX6_addPlace 33 = .ok (.aload_n 0, 1) := by decide +kernel
theorem dX6_addPlace_34 : decode cX6_addPlace 34 = .ok (.getfield 21, 3) := by decide +kernel
theorem dX6_addPlace_37 : decode cX6_addPlace 37 = .ok (.aload_n 0, 1) := by decide +kernel
theorem dX6_addPlace_38 : decode cX6_addPlace 38 = .ok (.getfield 44, 3) := by decide +kernel
theorem dX6_addPlace_41 : decode cX6_addPlace 41 = .ok (.aload_n 0, 1) := by decide +kernel
theorem dX6_addPlace_42 : decode cX6_addPlace 42 = .ok (.getfield 40, 3) := by decide +kernel
theorem dX6_addPlace_45 : decode cX6_addPlace 45 = .ok (.iastore, 1) := by decide +kernel
theorem dX6_addPlace_46 : decode cX6_addPlace 46 = .ok (.aload_n 0, 1) := by decide +kernel
theorem dX6_addPlace_47 : decode cX6_addPlace 47 = .ok (.getfield 24, 3) := by decide +kernel
theorem dX6_addPlace_50 : decode cX6_addPlace 50 = .ok (.aload_n 0, 1) := by decide +kernel
theorem dX6_addPlace_51 : decode cX6_addPlace 51 = .ok (.getfield 44, 3) := by decide +kernel
theorem dX6_addPlace_54 : decode cX6_addPlace 54 = .ok (.iload_n 1, 1) := by decide +kernel
theorem dX6_addPlace_55 : decode cX6_addPlace 55 = .ok (.iastore, 1) := by decide +kernel
theorem dX6_addPlace_56 : decode cX6_addPlace 56 = .ok (.iconst 1, 1) := by decide +kernel
theorem dX6_addPlace_57 : decode cX6_addPlace 57 = .ok (.ireturn, 1) := by decide +kernel
set_option maxRecDepth 20000 in
theorem ggX6_numberOf_X6_actAt : GoodIn wsX6_numberOf wsX6_actAt := goodIn_r _ [8, 9, 10, 11, 12, 7, 13, 14, 22, 23, 24, 25, 26, 27, 28, 29, 30, 31] (by decide +kernel) (by decide +kernel)
set_option maxRecDepth 20000 in
theorem gX6_numberOf_X6_actAt : GoodIn wsX6_numberOf (wsV RX6 53 RX6 yX6_actAt wsX6_actAt) := goodIn_app (goodIn_of _ (by decide +kernel)) ggX6_numberOf_X6_actAt
set_option maxRecDepth 20000 in
theorem ggX6_numberOf_J6_bitCount_0f7a4 : GoodIn wsX6_numberOf wsJ6_bitCount_0f7a4 := goodIn_r _ [18, 19, 20, 21] (by decide +kernel) (by decide +kernel)
set_option maxRecDepth 20000 in
theorem gX6_numberOf_J6_bitCount_0f7a4 : GoodIn wsX6_numberOf (va_wsS RX6 57 yJ6_bitCount_0f7a4 wsJ6_bitCount_0f7a4) := goodIn_app (goodIn_of _ (by decide +kernel)) ggX6_numberOf_J6_bitCount_0f7a4
theorem dX6_numberOf_0 : decode cX6_numberOf 0 = .ok (.aload_n 0, 1) := by decide +kernel
theorem dX6_numberOf_1 : decode cX6_numberOf 1 = .ok (.getfield 9, 3) := by decide +kernel
theorem dX6_numberOf_4 : decode cX6_numberOf 4 = .ok (.iload_n 1, 1) := by decide +kernel
theorem dX6_numberOf_5 : decode cX6_numberOf 5 = .ok (.iaload, 1) := by decide +kernel
theorem dX6_numberOf_6 : decode cX6_numberOf 6 = .ok (.iconst 1, 1) := by decide +kernel
theorem dX6_numberOf_7 : decode cX6_numberOf 7 = .ok (.if_icmp .ne 16, 3) := by decide +kernel
theorem dX6_numberOf_10 : decode cX6_numberOf 10 = .ok (.aload_n 0, 1) := by decide +kernel
theorem dX6_numberOf_11 : decode cX6_numberOf 11 = .ok (.aload_n 0, 1) := by decide +kernel
theorem dX6_numberOf_12 : decode cX6_numberOf 12 = .ok (.getfield 18, 3) := by decide +kernel
theorem dX6_numberOf_15 : decode cX6_numberOf 15 = .ok (.iload_n 1, 1) := by decide +kernel
theorem dX6_numberOf_16 : decode cX6_numberOf 16 = .ok (.iaload, 1) := by decide +kernel
theorem dX6_numberOf_17 : decode cX6_numberOf 17 = .ok (.invokevirtual 53, 3) := by decide +kernel
theorem dX6_numberOf_20 : decode cX6_numberOf 20 = .ok (.goto 12, 3) := by decide +kernel
theorem dX6_numberOf_23 : decode cX6_numberOf 23 = .ok (.aload_n 0, 1) := by decide +kernel
theorem dX6_numberOf_24 : decode cX6_numberOf 24 = .ok (.getfield 15, 3) := by decide +kernel
theorem dX6_numberOf_27 : decode cX6_numberOf 27 = .ok (.iload_n 1, 1) := by decide +kernel
theorem dX6_numberOf_28 : decode cX6_numberOf 28 = .ok (.iaload, 1) := by decide +kernel
theorem dX6_numberOf_29 : decode cX6_numberOf 29 = .ok (.invokestatic 57, 3) := by decide +kernel
theorem dX6_numberOf_32 : decode cX6_numberOf 32 = .ok (.ireturn, 1) := by decide +kernel
set_option maxRecDepth 20000 in
theorem ggX6_settle_X6_run : GoodIn wsX6_settle wsX6_run := goodIn_r _ [7, 8, 9, 10, 11, 12, 13, 14, 15, 46, 47, 48, 49, 50, 51, 52, 53, 54, 55] (by decide +kernel) (by decide +kernel)
set_option maxRecDepth 20000 in
theorem gX6_settle_X6_run : GoodIn wsX6_settle (wsV RX6 62 RX6 yX6_run wsX6_run) := goodIn_app (goodIn_of _ (by decide +kernel)) ggX6_settle_X6_run
set_option maxRecDepth 20000 in
theorem ggX6_settle_X6_gatherLasts : GoodIn wsX6_settle wsX6_gatherLasts := goodIn_r _ [19, 1, 20, 21, 22, 23, 6, 24, 25, 26, 27, 28, 2, 29, 30, 31, 32, 33, 34, 35, 36, 46, 47, 48, 49, 50, 51, 52, 53, 54, 55] (by decide +kernel) (by decide +kernel)
set_option maxRecDepth 20000 in
theorem gX6_settle_X6_gatherLasts : GoodIn wsX6_settle (wsV RX6 65 RX6 yX6_gatherLasts wsX6_gatherLasts) := goodIn_app (goodIn_of _ (by decide +kernel)) ggX6_settle_X6_gatherLasts
set_option maxRecDepth 20000 in
theorem ggX6_settle_X6_gatherReached : GoodIn wsX6_settle wsX6_gatherReached := goodIn_r _ [40, 41, 1, 13, 14, 15, 42, 43, 44, 6, 45, 25, 26, 27, 28, 2, 29, 30, 31, 32, 33, 34, 35, 36, 46, 47, 48, 49, 50, 51, 52, 53, 54, 55] (by decide +kernel) (by decide +kernel)
set_option maxRecDepth 20000 in
theorem gX6_settle_X6_gatherReached : GoodIn wsX6_settle (wsV RX6 68 RX6 yX6_gatherReached wsX6_gatherReached) := goodIn_app (goodIn_of _ (by decide +kernel)) ggX6_settle_X6_gatherReached
theorem dX6_settle_0 : decode cX6_settle 0 = .ok (.iconst 0, 1) := by decide +kernel
theorem dX6_settle_1 : decode cX6_settle 1 = .ok (.istore_n 1, 1) := by decide +kernel
theorem dX6_settle_2 : decode cX6_settle 2 = .ok (.iload_n 1, 1) := by decide +kernel
theorem dX6_settle_3 : decode cX6_settle 3 = .ok (.aload_n 0, 1) := by decide +kernel
theorem dX6_settle_4 : decode cX6_settle 4 = .ok (.getfield 44, 3) := by decide +kernel
theorem dX6_settle_7 : decode cX6_settle 7 = .ok (.if_icmp .gt 38, 3) := by decide +kernel
theorem dX6_settle_10 : decode cX6_settle 10 = .ok (.iconst 0, 1) := by decide +kernel
theorem dX6_settle_11 : decode cX6_settle 11 = .ok (.istore_n 2, 1) := by decide +kernel
theorem dX6_settle_12 : decode cX6_settle 12 = .ok (.iload_n 2, 1) := by decide +kernel
theorem dX6_settle_13 : decode cX6_settle 13 = .ok (.iconst 4, 1) := by decide +kernel
theorem dX6_settle_14 : decode cX6_settle 14 = .ok (.if_icmp .ge 25, 3) := by decide +kernel
theorem dX6_settle_17 : decode cX6_settle 17 = .ok (.aload_n 0, 1) := by decide +kernel
theorem dX6_settle_18 : decode cX6_settle 18 = .ok (.getfield 27, 3) := by decide +kernel
theorem dX6_settle_21 : decode cX6_settle 21 = .ok (.iload_n 1, 1) := by decide +kernel
theorem dX6_settle_22 : decode cX6_settle 22 = .ok (.iconst 4, 1) := by decide +kernel
theorem dX6_settle_23 : decode cX6_settle 23 = .ok (.imul, 1) := by decide +kernel
theorem dX6_settle_24 : decode cX6_settle 24 = .ok (.iload_n 2, 1) := by decide +kernel
theorem dX6_settle_25 : decode cX6_settle 25 = .ok (.iadd, 1) := by decide +kernel
theorem dX6_settle_26 : decode cX6_settle 26 = .ok (.aload_n 0, 1) := by decide +kernel
theorem dX6_settle_27 : decode cX6_settle 27 = .ok (.iload_n 1, 1) := by decide +kernel
theorem dX6_settle_28 : decode cX6_settle 28 = .ok (.iload_n 2, 1) := by decide +kernel
theorem dX6_settle_29 : decode cX6_settle 29 = .ok (.invokevirtual 62, 3) := by decide +kernel
theorem dX6_settle_32 : decode cX6_settle 32 = .ok (.iastore, 1) := by decide +kernel
theorem dX6_settle_33 : decode cX6_settle 33 = .ok (.iinc 2 1, 3) := by decide +kernel
theorem dX6_settle_36 : decode cX6_settle 36 = .ok (.goto (-24), 3) := by decide +kernel
theorem dX6_settle_39 : decode cX6_settle 39 = .ok (.iinc 1 1, 3) := by decide +kernel
theorem dX6_settle_42 : decode cX6_settle 42 = .ok (.goto (-40), 3) := by decide +kernel
theorem dX6_settle_45 : decode cX6_settle 45 = .ok (.aload_n 0, 1) := by decide +kernel
theorem dX6_settle_46 : decode cX6_settle 46 = .ok (.invokevirtual 65, 3) := by decide +kernel
theorem dX6_settle_49 : decode cX6_settle 49 = .ok (.aload_n 0, 1) := by decide +kernel
theorem dX6_settle_50 : decode cX6_settle 50 = .ok (.invokevirtual 68, 3) := by decide +kernel
theorem dX6_settle_53 : decode cX6_settle 53 = .ok (.return_, 1) := by decide +kernel
set_option maxRecDepth 20000 in
theorem ggX6_run_X10_holds : GoodIn wsX6_run wsX10_holds := goodIn_r _ [8] (by decide +kernel) (by decide +kernel)
set_option maxRecDepth 20000 in
theorem gX6_run_X10_holds_n71 : GoodIn wsX6_run (wsX10_holds) := ggX6_run_X10_holds
theorem dX6_run_0 : decode cX6_run 0 = .ok (.aload_n 0, 1) := by decide +kernel
theorem dX6_run_1 : decode cX6_run 1 = .ok (.getfield 21, 3) := by decide +kernel
theorem dX6_run_4 : decode cX6_run 4 = .ok (.iload_n 1, 1) := by decide +kernel
theorem dX6_run_5 : decode cX6_run 5 = .ok (.iaload, 1) := by decide +kernel
theorem dX6_run_6 : decode cX6_run 6 = .ok (.istore_n 3, 1) := by decide +kernel
theorem dX6_run_7 : decode cX6_run 7 = .ok (.iconst 0, 1) := by decide +kernel
theorem dX6_run_8 : decode cX6_run 8 = .ok (.istore 4, 2) := by decide +kernel
theorem dX6_run_10 : decode cX6_run 10 = .ok (.iload 4, 2) := by decide +kernel
theorem dX6_run_12 : decode cX6_run 12 = .ok (.aload_n 0, 1) := by decide +kernel
theorem dX6_run_13 : decode cX6_run 13 = .ok (.getfield 40, 3) := by decide +kernel
theorem dX6_run_16 : decode cX6_run 16 = .ok (.if_icmp .gt 69, 3) := by decide +kernel
theorem dX6_run_19 : decode cX6_run 19 = .ok (.iload_n 3, 1) := by decide +kernel
theorem dX6_run_20 : decode cX6_run 20 = .ok (.ifCond .ge 6, 3) := by decide +kernel
theorem dX6_run_23 : decode cX6_run 23 = .ok (.bipush (-9), 2) := by decide +kernel
theorem dX6_run_25 : decode cX6_run 25 = .ok (.ireturn, 1) := by decide +kernel
theorem dX6_run_26 : decode cX6_run 26 = .ok (.iload_n 3, 1) := by decide +kernel
theorem dX6_run_27 : decode cX6_run 27 = .ok (.aload_n 0, 1) := by decide +kernel
theorem dX6_run_28 : decode cX6_run 28 = .ok (.getfield 40, 3) := by decide +kernel
theorem dX6_run_31 : decode cX6_run 31 = .ok (.if_icmp .lt 5, 3) := by decide +kernel
theorem dX6_run_34 : decode cX6_run 34 = .ok (.iconst 0, 1) := by decide +kernel
theorem dX6_run_35 : decode cX6_run 35 = .ok (.ireturn, 1) := by decide +kernel
theorem dX6_run_36 : decode cX6_run 36 = .ok (.aload_n 0, 1) := by decide +kernel
theorem dX6_run_37 : decode cX6_run 37 = .ok (.getfield 9, 3) := by decide +kernel
theorem dX6_run_40 : decode cX6_run 40 = .ok (.iload_n 3, 1) := by decide +kernel
theorem dX6_run_41 : decode cX6_run 41 = .ok (.iaload, 1) := by decide +kernel
theorem dX6_run_42 : decode cX6_run 42 = .ok (.iconst 1, 1) := by decide +kernel
theorem dX6_run_43 : decode cX6_run 43 = .ok (.if_icmp .ne 10, 3) := by decide +kernel
theorem dX6_run_46 : decode cX6_run 46 = .ok (.aload_n 0, 1) := by decide +kernel
theorem dX6_run_47 : decode cX6_run 47 = .ok (.getfield 18, 3) := by decide +kernel
theorem dX6_run_50 : decode cX6_run 50 = .ok (.iload_n 3, 1) := by decide +kernel
theorem dX6_run_51 : decode cX6_run 51 = .ok (.iaload, 1) := by decide +kernel
theorem dX6_run_52 : decode cX6_run 52 = .ok (.ireturn, 1) := by decide +kernel
theorem dX6_run_53 : decode cX6_run 53 = .ok (.aload_n 0, 1) := by decide +kernel
theorem dX6_run_54 : decode cX6_run 54 = .ok (.getfield 15, 3) := by decide +kernel
theorem dX6_run_57 : decode cX6_run 57 = .ok (.iload_n 3, 1) := by decide +kernel
theorem dX6_run_58 : decode cX6_run 58 = .ok (.iaload, 1) := by decide +kernel
theorem dX6_run_59 : decode cX6_run 59 = .ok (.iload_n 2, 1) := by decide +kernel
theorem dX6_run_60 : decode cX6_run 60 = .ok (.invokestatic 71, 3) := by decide +kernel
theorem dX6_run_63 : decode cX6_run 63 = .ok (.ifCond .eq 9, 3) := by decide +kernel
theorem dX6_run_66 : decode cX6_run 66 = .ok (.iload_n 3, 1) := by decide +kernel
theorem dX6_run_67 : decode cX6_run 67 = .ok (.iconst 1, 1) := by decide +kernel
theorem dX6_run_68 : decode cX6_run 68 = .ok (.iadd, 1) := by decide +kernel
theorem dX6_run_69 : decode cX6_run 69 = .ok (.goto 9, 3) := by decide +kernel
theorem dX6_run_72 : decode cX6_run 72 = .ok (.aload_n 0, 1) := by decide +kernel
theorem dX6_run_73 : decode cX6_run 73 = .ok (.getfield 18, 3) := by decide +kernel
theorem dX6_run_76 : decode cX6_run 76 = .ok (.iload_n 3, 1) := by decide +kernel
theorem dX6_run_77 : decode cX6_run 77 = .ok (.iaload, 1) := by decide +kernel
theorem dX6_run_78 : decode cX6_run 78 = .ok (.istore_n 3, 1) := by decide +kernel
theorem dX6_run_79 : decode cX6_run 79 = .ok (.iinc 4 1, 3) := by decide +kernel
theorem dX6_run_82 : decode cX6_run 82 = .ok (.goto (-72), 3) := by decide +kernel
theorem dX6_run_85 : decode cX6_run 85 = .ok (.bipush (-9), 2) := by decide +kernel
theorem dX6_run_87 : decode cX6_run 87 = .ok (.ireturn, 1) := by decide +kernel
set_option maxRecDepth 20000 in
theorem ggX6_gatherLasts_X6_lastsBy : GoodIn wsX6_gatherLasts wsX6_lastsBy := goodIn_r _ [7, 2, 8, 9, 10, 6, 11, 12, 13, 14, 15, 16, 1, 17, 18, 19, 20, 21, 22, 23, 24, 25, 26, 27, 28, 29, 30] (by decide +kernel) (by decide +kernel)
set_option maxRecDepth 20000 in
theorem gX6_gatherLasts_X6_lastsBy : GoodIn wsX6_gatherLasts (wsV RX6 75 RX6 yX6_lastsBy wsX6_lastsBy) := goodIn_app (goodIn_of _ (by decide +kernel)) ggX6_gatherLasts_X6_lastsBy
theorem dX6_gatherLasts_0 : decode cX6_gatherLasts 0 = .ok (.iconst 0, 1) := by decide +kernel
theorem dX6_gatherLasts_1 : decode cX6_gatherLasts 1 = .ok (.istore_n 1, 1) := by decide +kernel
theorem dX6_gatherLasts_2 : decode cX6_gatherLasts 2 = .ok (.iload_n 1, 1) := by decide +kernel
theorem dX6_gatherLasts_3 : decode cX6_gatherLasts 3 = .ok (.aload_n 0, 1) := by decide +kernel
theorem dX6_gatherLasts_4 : decode cX6_gatherLasts 4 = .ok (.getfield 44, 3) := by decide +kernel
theorem dX6_gatherLasts_7 : decode cX6_gatherLasts 7 = .ok (.if_icmp .gt 16, 3) := by decide +kernel
theorem dX6_gatherLasts_10 : decode cX6_gatherLasts 10 = .ok (.aload_n 0, 1) := by decide +kernel
theorem dX6_gatherLasts_11 : decode cX6_gatherLasts 11 = .ok (.getfield 30, 3) := by decide +kernel
theorem dX6_gatherLasts_14 : decode cX6_gatherLasts 14 = .ok (.iload_n 1, 1) := by decide +kernel
theorem dX6_gatherLasts_15 : decode cX6_gatherLasts 15 = .ok (.iconst 0, 1) := by decide +kernel
theorem dX6_gatherLasts_16 : decode cX6_gatherLasts 16 = .ok (.iastore, 1) := by decide +kernel
theorem dX6_gatherLasts_17 : decode cX6_gatherLasts 17 = .ok (.iinc 1 1, 3) := by decide +kernel
theorem dX6_gatherLasts_20 : decode cX6_gatherLasts 20 = .ok (.goto (-18), 3) := by decide +kernel
theorem dX6_gatherLasts_23 : decode cX6_gatherLasts 23 = .ok (.iconst 0, 1) := by decide +kernel
theorem dX6_gatherLasts_24 : decode cX6_gatherLasts 24 = .ok (.istore_n 1, 1) := by decide +kernel
theorem dX6_gatherLasts_25 : decode cX6_gatherLasts 25 = .ok (.iload_n 1, 1) := by decide +kernel
theorem dX6_gatherLasts_26 : decode cX6_gatherLasts 26 = .ok (.aload_n 0, 1) := by decide +kernel
theorem dX6_gatherLasts_27 : decode cX6_gatherLasts 27 = .ok (.getfield 44, 3) := by decide +kernel
theorem dX6_gatherLasts_30 : decode cX6_gatherLasts 30 = .ok (.if_icmp .gt 53, 3) := by decide +kernel
theorem dX6_gatherLasts_33 : decode cX6_gatherLasts 33 = .ok (.iconst 0, 1) := by decide +kernel
theorem dX6_gatherLasts_34 : decode cX6_gatherLasts 34 = .ok (.istore_n 2, 1) := by decide +kernel
theorem dX6_gatherLasts_35 : decode cX6_gatherLasts 35 = .ok (.iload_n 2, 1) := by decide +kernel
theorem dX6_gatherLasts_36 : decode cX6_gatherLasts 36 = .ok (.aload_n 0, 1) := by decide +kernel
theorem dX6_gatherLasts_37 : decode cX6_gatherLasts 37 = .ok (.getfield 44, 3) := by decide +kernel
theorem dX6_gatherLasts_40 : decode cX6_gatherLasts 40 = .ok (.if_icmp .gt 37, 3) := by decide +kernel
theorem dX6_gatherLasts_43 : decode cX6_gatherLasts 43 = .ok (.iconst 0, 1) := by decide +kernel
theorem dX6_gatherLasts_44 : decode cX6_gatherLasts 44 = .ok (.istore_n 3, 1) := by decide +kernel
theorem dX6_gatherLasts_45 : decode cX6_gatherLasts 45 = .ok (.iload_n 3, 1) := by decide +kernel
theorem dX6_gatherLasts_46 : decode cX6_gatherLasts 46 = .ok (.iconst 4, 1) := by decide +kernel
theorem dX6_gatherLasts_47 : decode cX6_gatherLasts 47 = .ok (.if_icmp .ge 24, 3) := by decide +kernel
theorem dX6_gatherLasts_50 : decode cX6_gatherLasts 50 = .ok (.aload_n 0, 1) := by decide +kernel
theorem dX6_gatherLasts_51 : decode cX6_gatherLasts 51 = .ok (.getfield 30, 3) := by decide +kernel
theorem dX6_gatherLasts_54 : decode cX6_gatherLasts 54 = .ok (.iload_n 2, 1) := by decide +kernel
theorem dX6_gatherLasts_55 : decode cX6_gatherLasts 55 = .ok (.dup2, 1) := by decide +kernel
theorem dX6_gatherLasts_56 : decode cX6_gatherLasts 56 = .ok (.iaload, 1) := by decide +kernel
theorem dX6_gatherLasts_57 : decode cX6_gatherLasts 57 = .ok (.aload_n 0, 1) := by decide +kernel
theorem dX6_gatherLasts_58 : decode cX6_gatherLasts 58 = .ok (.iload_n 2, 1) := by decide +kernel
theorem dX6_gatherLasts_59 : decode cX6_gatherLasts 59 = .ok (.iload_n 3, 1) := by decide +kernel
theorem dX6_gatherLasts_60 : decode cX6_gatherLasts 60 = .ok (.invokevirtual 75, 3) := by decide +kernel
theorem dX6_gatherLasts_63 : decode cX6_gatherLasts 63 = .ok (.ior, 1) := by decide +kernel
theorem dX6_gatherLasts_64 : decode cX6_gatherLasts 64 = .ok (.iastore, 1) := by decide +kernel
theorem dX6_gatherLasts_65 : decode cX6_gatherLasts 65 = .ok (.iinc 3 1, 3) := by decide +kernel
theorem dX6_gatherLasts_68 : decode cX6_gatherLasts 68 = .ok (.goto (-23), 3) := by decide +kernel
theorem dX6_gatherLasts_71 : decode cX6_gatherLasts 71 = .ok (.iinc 2 1, 3) := by decide +kernel
theorem dX6_gatherLasts_74 : decode cX6_gatherLasts 74 = .ok (.goto (-39), 3) := by decide +kernel
theorem dX6_gatherLasts_77 : decode cX6_gatherLasts 77 = .ok (.iinc 1 1, 3) := by decide +kernel
theorem dX6_gatherLasts_80 : decode cX6_gatherLasts 80 = .ok (.goto (-55), 3) := by decide +kernel
theorem dX6_gatherLasts_83 : decode cX6_gatherLasts 83 = .ok (.return_, 1) := by decide +kernel
set_option maxRecDepth 20000 in
theorem ggX6_gatherReached_X10_holds : GoodIn wsX6_gatherReached wsX10_holds := goodIn_r _ [5] (by decide +kernel) (by decide +kernel)
set_option maxRecDepth 20000 in
theorem gX6_gatherReached_X10_holds_n71 : GoodIn wsX6_gatherReached (wsX10_holds) := ggX6_gatherReached_X10_holds
set_option maxRecDepth 20000 in
theorem ggX6_gatherReached_X6_reachFrom : GoodIn wsX6_gatherReached wsX6_reachFrom := goodIn_r _ [10, 1, 11, 12, 13, 9, 14, 15, 16, 17, 18, 19, 2, 20, 21, 22, 23, 24, 25, 26, 27, 28, 29, 30, 31, 32, 33] (by decide +kernel) (by decide +kernel)
set_option maxRecDepth 20000 in
theorem gX6_gatherReached_X6_reachFrom : GoodIn wsX6_gatherReached (wsV RX6 81 RX6 yX6_reachFrom wsX6_reachFrom) := goodIn_app (goodIn_of _ (by decide +kernel)) ggX6_gatherReached_X6_reachFrom
theorem dX6_gatherReached_0 : decode cX6_gatherReached 0 = .ok (.aload_n 0, 1) := by decide +kernel
theorem dX6_gatherReached_1 : decode cX6_gatherReached 1 = .ok (.iconst 1, 1) := by decide +kernel
theorem dX6_gatherReached_2 : decode cX6_gatherReached 2 = .ok (.putfield 78, 3) := by decide +kernel
theorem dX6_gatherReached_5 : decode cX6_gatherReached 5 = .ok (.iconst 0, 1) := by decide +kernel
theorem dX6_gatherReached_6 : decode cX6_gatherReached 6 = .ok (.istore_n 1, 1) := by decide +kernel
theorem dX6_gatherReached_7 : decode cX6_gatherReached 7 = .ok (.iload_n 1, 1) := by decide +kernel
theorem dX6_gatherReached_8 : decode cX6_gatherReached 8 = .ok (.aload_n 0, 1) := by decide +kernel
theorem dX6_gatherReached_9 : decode cX6_gatherReached 9 = .ok (.getfield 44, 3) := by decide +kernel
theorem dX6_gatherReached_12 : decode cX6_gatherReached 12 = .ok (.if_icmp .ge 41, 3) := by decide +kernel
theorem dX6_gatherReached_15 : decode cX6_gatherReached 15 = .ok (.iconst 0, 1) := by decide +kernel
theorem dX6_gatherReached_16 : decode cX6_gatherReached 16 = .ok (.istore_n 2, 1) := by decide +kernel
theorem dX6_gatherReached_17 : decode cX6_gatherReached 17 = .ok (.iload_n 2, 1) := by decide +kernel
theorem dX6_gatherReached_18 : decode cX6_gatherReached 18 = .ok (.aload_n 0, 1) := by decide +kernel
theorem dX6_gatherReached_19 : decode cX6_gatherReached 19 = .ok (.getfield 44, 3) := by decide +kernel
theorem dX6_gatherReached_22 : decode cX6_gatherReached 22 = .ok (.if_icmp .gt 25, 3) := by decide +kernel
theorem dX6_gatherReached_25 : decode cX6_gatherReached 25 = .ok (.aload_n 0, 1) := by decide +kernel
theorem dX6_gatherReached_26 : decode cX6_gatherReached 26 = .ok (.getfield 78, 3) := by decide +kernel
theorem dX6_gatherReached_29 : decode cX6_gatherReached 29 = .ok (.iload_n 2, 1) := by decide +kernel
theorem dX6_gatherReached_30 : decode cX6_gatherReached 30 = .ok (.invokestatic 71, 3) := by decide +kernel
theorem dX6_gatherReached_33 : decode cX6_gatherReached 33 = .ok (.ifCond .eq 8, 3) := by decide +kernel
theorem dX6_gatherReached_36 : decode cX6_gatherReached 36 = .ok (.aload_n 0, 1) := by decide +kernel
theorem dX6_gatherReached_37 : decode cX6_gatherReached 37 = .ok (.iload_n 2, 1) := by decide +kernel
theorem dX6_gatherReached_38 : decode cX6_gatherReached 38 = .ok (.invokevirtual 81, 3) := by decide +kernel
theorem dX6_gatherReached_41 : decode cX6_gatherReached 41 = .ok (.iinc 2 1, 3) := by decide +kernel
theorem dX6_gatherReached_44 : decode cX6_gatherReached 44 = .ok (.goto (-27), 3) := by decide +kernel
theorem dX6_gatherReached_47 : decode cX6_gatherReached 47 = .ok (.iinc 1 1, 3) := by decide +kernel
theorem dX6_gatherReached_50 : decode cX6_gatherReached 50 = .ok (.goto (-43), 3) := by decide +kernel
theorem dX6_gatherReached_53 : decode cX6_gatherReached 53 = .ok (.return_, 1) := by decide +kernel
set_option maxRecDepth 20000 in
theorem ggX6_reachFrom_X6_goes : GoodIn wsX6_reachFrom wsX6_goes := goodIn_r _ [6, 7, 8, 9, 10, 5, 11, 12, 17, 18, 19, 20, 21, 22, 23, 24, 25, 26] (by decide +kernel) (by decide +kernel)
set_option maxRecDepth 20000 in
theorem gX6_reachFrom_X6_goes : GoodIn wsX6_reachFrom (wsV RX6 85 RX6 yX6_goes wsX6_goes) := goodIn_app (goodIn_of _ (by decide +kernel)) ggX6_reachFrom_X6_goes
set_option maxRecDepth 20000 in
theorem ggX6_reachFrom_X6_isPlace : GoodIn wsX6_reachFrom wsX6_isPlace := goodIn_r _ [16, 12, 17, 18, 19, 20, 21, 22, 23, 24, 25, 26] (by decide +kernel) (by decide +kernel)
set_option maxRecDepth 20000 in
theorem gX6_reachFrom_X6_isPlace : GoodIn wsX6_reachFrom (wsV RX6 88 RX6 yX6_isPlace wsX6_isPlace) := goodIn_app (goodIn_of _ (by decide +kernel)) ggX6_reachFrom_X6_isPlace
theorem dX6_reachFrom_0 : decode cX6_reachFrom 0 = .ok (.iconst 0, 1) := by decide +kernel
theorem dX6_reachFrom_1 : decode cX6_reachFrom 1 = .ok (.istore_n 2, 1) := by decide +kernel
theorem dX6_reachFrom_2 : decode cX6_reachFrom 2 = .ok (.iload_n 2, 1) := by decide +kernel
theorem dX6_reachFrom_3 : decode cX6_reachFrom 3 = .ok (.iconst 4, 1) := by decide +kernel
theorem dX6_reachFrom_4 : decode cX6_reachFrom 4 = .ok (.if_icmp .ge 36, 3) := by decide +kernel
theorem dX6_reachFrom_7 : decode cX6_reachFrom 7 = .ok (.aload_n 0, 1) := by decide +kernel
theorem dX6_reachFrom_8 : decode cX6_reachFrom 8 = .ok (.iload_n 1, 1) := by decide +kernel
theorem dX6_reachFrom_9 : decode cX6_reachFrom 9 = .ok (.iload_n 2, 1) := by decide +kernel
theorem dX6_reachFrom_10 : decode cX6_reachFrom 10 = .ok (.invokevirtual 85, 3) := by decide +kernel
theorem dX6_reachFrom_13 : decode cX6_reachFrom 13 = .ok (.istore_n 3, 1) := by decide +kernel
theorem dX6_reachFrom_14 : decode cX6_reachFrom 14 = .ok (.aload_n 0, 1) := by decide +kernel
theorem dX6_reachFrom_15 : decode cX6_reachFrom 15 = .ok (.iload_n 3, 1) := by decide +kernel
theorem dX6_reachFrom_16 : decode cX6_reachFrom 16 = .ok (.invokevirtual 88, 3) := by decide +kernel
theorem dX6_reachFrom_19 : decode cX6_reachFrom 19 = .ok (.ifCond .eq 15, 3) := by decide +kernel
theorem dX6_reachFrom_22 : decode cX6_reachFrom 22 = .ok (.aload_n 0, 1) := by decide +kernel
theorem dX6_reachFrom_23 : decode cX6_reachFrom 23 = .ok (.dup, 1) := by decide +kernel
theorem dX6_reachFrom_24 : decode cX6_reachFrom 24 = .ok (.getfield 78, 3) := by decide +kernel
theorem dX6_reachFrom_27 : decode cX6_reachFrom 27 = .ok (.iconst 1, 1) := by decide +kernel
theorem dX6_reachFrom_28 : decode cX6_reachFrom 28 = .ok (.iload_n 3, 1) := by decide +kernel
theorem dX6_reachFrom_29 : decode cX6_reachFrom 29 = .ok (.ishl, 1) := by decide +kernel
theorem dX6_reachFrom_30 : decode cX6_reachFrom 30 = .ok (.ior, 1) := by decide +kernel
theorem dX6_reachFrom_31 : decode cX6_reachFrom 31 = .ok (.putfield 78, 3) := by decide +kernel
theorem dX6_reachFrom_34 : decode cX6_reachFrom 34 = .ok (.iinc 2 1, 3) := by decide +kernel
theorem dX6_reachFrom_37 : decode cX6_reachFrom 37 = .ok (.goto (-35), 3) := by decide +kernel
theorem dX6_reachFrom_40 : decode cX6_reachFrom 40 = .ok (.return_, 1) := by decide +kernel
theorem dX6_isPlace_0 : decode cX6_isPlace 0 = .ok (.iload_n 1, 1) := by decide +kernel
theorem dX6_isPlace_1 : decode cX6_isPlace 1 = .ok (.ifCond .le 15, 3) := by decide +kernel
theorem dX6_isPlace_4 : decode cX6_isPlace 4 = .ok (.iload_n 1, 1) := by decide +kernel
theorem dX6_isPlace_5 : decode cX6_isPlace 5 = .ok (.aload_n 0, 1) := by decide +kernel
theorem dX6_isPlace_6 : decode cX6_isPlace 6 = .ok (.getfield 44, 3) := by decide +kernel
theorem dX6_isPlace_9 : decode cX6_isPlace 9 = .ok (.if_icmp .gt 7, 3) := by decide +kernel
theorem dX6_isPlace_12 : decode cX6_isPlace 12 = .ok (.iconst 1, 1) := by decide +kernel
theorem dX6_isPlace_13 : decode cX6_isPlace 13 = .ok (.goto 4, 3) := by decide +kernel
theorem dX6_isPlace_16 : decode cX6_isPlace 16 = .ok (.iconst 0, 1) := by decide +kernel
theorem dX6_isPlace_17 : decode cX6_isPlace 17 = .ok (.ireturn, 1) := by decide +kernel
theorem dX6_canGoFrom_0 : decode cX6_canGoFrom 0 = .ok (.iload_n 1, 1) := by decide +kernel
theorem dX6_canGoFrom_1 : decode cX6_canGoFrom 1 = .ok (.ifCond .lt 15, 3) := by decide +kernel
theorem dX6_canGoFrom_4 : decode cX6_canGoFrom 4 = .ok (.iload_n 1, 1) := by decide +kernel
theorem dX6_canGoFrom_5 : decode cX6_canGoFrom 5 = .ok (.aload_n 0, 1) := by decide +kernel
theorem dX6_canGoFrom_6 : decode cX6_canGoFrom 6 = .ok (.getfield 44, 3) := by decide +kernel
theorem dX6_canGoFrom_9 : decode cX6_canGoFrom 9 = .ok (.if_icmp .gt 7, 3) := by decide +kernel
theorem dX6_canGoFrom_12 : decode cX6_canGoFrom 12 = .ok (.iconst 1, 1) := by decide +kernel
theorem dX6_canGoFrom_13 : decode cX6_canGoFrom 13 = .ok (.goto 4, 3) := by decide +kernel
theorem dX6_canGoFrom_16 : decode cX6_canGoFrom 16 = .ok (.iconst 0, 1) := by decide +kernel
theorem dX6_canGoFrom_17 : decode cX6_canGoFrom 17 = .ok (.ireturn, 1) := by decide +kernel
set_option maxRecDepth 20000 in
theorem ggX6_actAt_X6_isPlace : GoodIn wsX6_actAt wsX6_isPlace := goodIn_r _ [6, 7, 8, 9, 10, 11, 12, 13, 14, 15, 16, 17] (by decide +kernel) (by decide +kernel)
set_option maxRecDepth 20000 in
theorem gX6_actAt_X6_isPlace : GoodIn wsX6_actAt (wsV RX6 88 RX6 yX6_isPlace wsX6_isPlace) := goodIn_app (goodIn_of _ (by decide +kernel)) ggX6_actAt_X6_isPlace
theorem dX6_actAt_0 : decode cX6_actAt 0 = .ok (.aload_n 0, 1) := by decide +kernel
theorem dX6_actAt_1 : decode cX6_actAt 1 = .ok (.iload_n 1, 1) := by decide +kernel
theorem dX6_actAt_2 : decode cX6_actAt 2 = .ok (.invokevirtual 88, 3) := by decide +kernel
theorem dX6_actAt_5 : decode cX6_actAt 5 = .ok (.ifCond .eq 12, 3) := by decide +kernel
theorem dX6_actAt_8 : decode cX6_actAt 8 = .ok (.aload_n 0, 1) := by decide +kernel
theorem dX6_actAt_9 : decode cX6_actAt 9 = .ok (.getfield 24, 3) := by decide +kernel
theorem dX6_actAt_12 : decode cX6_actAt 12 = .ok (.iload_n 1, 1) := by decide +kernel
theorem dX6_actAt_13 : decode cX6_actAt 13 = .ok (.iaload, 1) := by decide +kernel
theorem dX6_actAt_14 : decode cX6_actAt 14 = .ok (.goto 4, 3) := by decide +kernel
theorem dX6_actAt_17 : decode cX6_actAt 17 = .ok (.iconst 0, 1) := by decide +kernel
theorem dX6_actAt_18 : decode cX6_actAt 18 = .ok (.ireturn, 1) := by decide +kernel
set_option maxRecDepth 20000 in
theorem ggX6_goes_X6_canGoFrom : GoodIn wsX6_goes wsX6_canGoFrom := goodIn_r _ [6, 7, 8, 9, 10, 11, 12, 13, 14, 15, 16, 17] (by decide +kernel) (by decide +kernel)
set_option maxRecDepth 20000 in
theorem gX6_goes_X6_canGoFrom : GoodIn wsX6_goes (wsV RX6 92 RX6 yX6_canGoFrom wsX6_canGoFrom) := goodIn_app (goodIn_of _ (by decide +kernel)) ggX6_goes_X6_canGoFrom
theorem dX6_goes_0 : decode cX6_goes 0 = .ok (.aload_n 0, 1) := by decide +kernel
theorem dX6_goes_1 : decode cX6_goes 1 = .ok (.iload_n 1, 1) := by decide +kernel
theorem dX6_goes_2 : decode cX6_goes 2 = .ok (.invokevirtual 92, 3) := by decide +kernel
theorem dX6_goes_5 : decode cX6_goes 5 = .ok (.ifCond .eq 16, 3) := by decide +kernel
theorem dX6_goes_8 : decode cX6_goes 8 = .ok (.iload_n 2, 1) := by decide +kernel
theorem dX6_goes_9 : decode cX6_goes 9 = .ok (.ifCond .lt 12, 3) := by decide +kernel
theorem dX6_goes_12 : decode cX6_goes 12 = .ok (.iload_n 2, 1) := by decide +kernel
theorem dX6_goes_13 : decode cX6_goes 13 = .ok (.iconst 4, 1) := by decide +kernel
theorem dX6_goes_14 : decode cX6_goes 14 = .ok (.if_icmp .ge 7, 3) := by decide +kernel
theorem dX6_goes_17 : decode cX6_goes 17 = .ok (.iconst 1, 1) := by decide +kernel
theorem dX6_goes_18 : decode cX6_goes 18 = .ok (.goto 4, 3) := by decide +kernel
theorem dX6_goes_21 : decode cX6_goes 21 = .ok (.iconst 0, 1) := by decide +kernel
theorem dX6_goes_22 : decode cX6_goes 22 = .ok (.istore_n 3, 1) := by decide +kernel
theorem dX6_goes_23 : decode cX6_goes 23 = .ok (.iload_n 3, 1) := by decide +kernel
theorem dX6_goes_24 : decode cX6_goes 24 = .ok (.ifCond .eq 16, 3) := by decide +kernel
theorem dX6_goes_27 : decode cX6_goes 27 = .ok (.aload_n 0, 1) := by decide +kernel
theorem dX6_goes_28 : decode cX6_goes 28 = .ok (.getfield 27, 3) := by decide +kernel
theorem dX6_goes_31 : decode cX6_goes 31 = .ok (.iload_n 1, 1) := by decide +kernel
theorem dX6_goes_32 : decode cX6_goes 32 = .ok (.iconst 4, 1) := by decide +kernel
theorem dX6_goes_33 : decode cX6_goes 33 = .ok (.imul, 1) := by decide +kernel
theorem dX6_goes_34 : decode cX6_goes 34 = .ok (.iload_n 2, 1) := by decide +kernel
theorem dX6_goes_35 : decode cX6_goes 35 = .ok (.iadd, 1) := by decide +kernel
theorem dX6_goes_36 : decode cX6_goes 36 = .ok (.iaload, 1) := by decide +kernel
theorem dX6_goes_37 : decode cX6_goes 37 = .ok (.goto 5, 3) := by decide +kernel
theorem dX6_goes_40 : decode cX6_goes 40 = .ok (.bipush (-9), 2) := by decide +kernel
theorem dX6_goes_42 : decode cX6_goes 42 = .ok (.ireturn, 1) := by decide +kernel
set_option maxRecDepth 20000 in
theorem ggX6_goesBy_X6_goes : GoodIn wsX6_goesBy wsX6_goes := goodIn_r _ [5, 6, 7, 8, 9, 4, 10, 11, 21, 22, 23, 24, 25, 26, 27, 28, 29, 30] (by decide +kernel) (by decide +kernel)
set_option maxRecDepth 20000 in
theorem gX6_goesBy_X6_goes : GoodIn wsX6_goesBy (wsV RX6 85 RX6 yX6_goes wsX6_goes) := goodIn_app (goodIn_of _ (by decide +kernel)) ggX6_goesBy_X6_goes
set_option maxRecDepth 20000 in
theorem ggX6_goesBy_X6_actAt : GoodIn wsX6_goesBy wsX6_actAt := goodIn_r _ [15, 16, 17, 18, 19, 4, 20, 11, 21, 22, 23, 24, 25, 26, 27, 28, 29, 30] (by decide +kernel) (by decide +kernel)
set_option maxRecDepth 20000 in
theorem gX6_goesBy_X6_actAt : GoodIn wsX6_goesBy (wsV RX6 53 RX6 yX6_actAt wsX6_actAt) := goodIn_app (goodIn_of _ (by decide +kernel)) ggX6_goesBy_X6_actAt
theorem dX6_goesBy_0 : decode cX6_goesBy 0 = .ok (.aload_n 0, 1) := by decide +kernel
theorem dX6_goesBy_1 : decode cX6_goesBy 1 = .ok (.iload_n 1, 1) := by decide +kernel
theorem dX6_goesBy_2 : decode cX6_goesBy 2 = .ok (.iload_n 2, 1) := by decide +kernel
theorem dX6_goesBy_3 : decode cX6_goesBy 3 = .ok (.invokevirtual 85, 3) := by decide +kernel
theorem dX6_goesBy_6 : decode cX6_goesBy 6 = .ok (.istore 4, 2) := by decide +kernel
theorem dX6_goesBy_8 : decode cX6_goesBy 8 = .ok (.aload_n 0, 1) := by decide +kernel
theorem dX6_goesBy_9 : decode cX6_goesBy 9 = .ok (.iload 4, 2) := by decide +kernel
theorem dX6_goesBy_11 : decode cX6_goesBy 11 = .ok (.invokevirtual 53, 3) := by decide +kernel
theorem dX6_goesBy_14 : decode cX6_goesBy 14 = .ok (.iload_n 3, 1) := by decide +kernel
theorem dX6_goesBy_15 : decode cX6_goesBy 15 = .ok (.if_icmp .ne 8, 3) := by decide +kernel
theorem dX6_goesBy_18 : decode cX6_goesBy 18 = .ok (.iload 4, 2) := by decide +kernel
theorem dX6_goesBy_20 : decode cX6_goesBy 20 = .ok (.goto 5, 3) := by decide +kernel
theorem dX6_goesBy_23 : decode cX6_goesBy 23 = .ok (.bipush 17, 2) := by decide +kernel
theorem dX6_goesBy_25 : decode cX6_goesBy 25 = .ok (.ireturn, 1) := by decide +kernel
set_option maxRecDepth 20000 in
theorem ggX6_lastsBy_X6_goes : GoodIn wsX6_lastsBy wsX6_goes := goodIn_r _ [6, 7, 8, 9, 10, 5, 11, 12, 17, 18, 19, 20, 21, 22, 23, 24, 25, 26] (by decide +kernel) (by decide +kernel)
set_option maxRecDepth 20000 in
theorem gX6_lastsBy_X6_goes : GoodIn wsX6_lastsBy (wsV RX6 85 RX6 yX6_goes wsX6_goes) := goodIn_app (goodIn_of _ (by decide +kernel)) ggX6_lastsBy_X6_goes
set_option maxRecDepth 20000 in
theorem ggX6_lastsBy_X6_isPlace : GoodIn wsX6_lastsBy wsX6_isPlace := goodIn_r _ [16, 12, 17, 18, 19, 20, 21, 22, 23, 24, 25, 26] (by decide +kernel) (by decide +kernel)
set_option maxRecDepth 20000 in
theorem gX6_lastsBy_X6_isPlace : GoodIn wsX6_lastsBy (wsV RX6 88 RX6 yX6_isPlace wsX6_isPlace) := goodIn_app (goodIn_of _ (by decide +kernel)) ggX6_lastsBy_X6_isPlace
theorem dX6_lastsBy_0 : decode cX6_lastsBy 0 = .ok (.aload_n 0, 1) := by decide +kernel
theorem dX6_lastsBy_1 : decode cX6_lastsBy 1 = .ok (.iload_n 1, 1) := by decide +kernel
theorem dX6_lastsBy_2 : decode cX6_lastsBy 2 = .ok (.iload_n 2, 1) := by decide +kernel
theorem dX6_lastsBy_3 : decode cX6_lastsBy 3 = .ok (.invokevirtual 85, 3) := by decide +kernel
theorem dX6_lastsBy_6 : decode cX6_lastsBy 6 = .ok (.istore_n 3, 1) := by decide +kernel
theorem dX6_lastsBy_7 : decode cX6_lastsBy 7 = .ok (.iload_n 3, 1) := by decide +kernel
theorem dX6_lastsBy_8 : decode cX6_lastsBy 8 = .ok (.ifCond .ne 7, 3) := by decide +kernel
theorem dX6_lastsBy_11 : decode cX6_lastsBy 11 = .ok (.iconst 1, 1) := by decide +kernel
theorem dX6_lastsBy_12 : decode cX6_lastsBy 12 = .ok (.iload_n 2, 1) := by decide +kernel
theorem dX6_lastsBy_13 : decode cX6_lastsBy 13 = .ok (.ishl, 1) := by decide +kernel
theorem dX6_lastsBy_14 : decode cX6_lastsBy 14 = .ok (.ireturn, 1) := by decide +kernel
theorem dX6_lastsBy_15 : decode cX6_lastsBy 15 = .ok (.aload_n 0, 1) := by decide +kernel
theorem dX6_lastsBy_16 : decode cX6_lastsBy 16 = .ok (.iload_n 3, 1) := by decide +kernel
theorem dX6_lastsBy_17 : decode cX6_lastsBy 17 = .ok (.invokevirtual 88, 3) := by decide +kernel
theorem dX6_lastsBy_20 : decode cX6_lastsBy 20 = .ok (.ifCond .eq 12, 3) := by decide +kernel
theorem dX6_lastsBy_23 : decode cX6_lastsBy 23 = .ok (.aload_n 0, 1) := by decide +kernel
theorem dX6_lastsBy_24 : decode cX6_lastsBy 24 = .ok (.getfield 30, 3) := by decide +kernel
theorem dX6_lastsBy_27 : decode cX6_lastsBy 27 = .ok (.iload_n 3, 1) := by decide +kernel
theorem dX6_lastsBy_28 : decode cX6_lastsBy 28 = .ok (.iaload, 1) := by decide +kernel
theorem dX6_lastsBy_29 : decode cX6_lastsBy 29 = .ok (.goto 4, 3) := by decide +kernel
theorem dX6_lastsBy_32 : decode cX6_lastsBy 32 = .ok (.iconst 0, 1) := by decide +kernel
theorem dX6_lastsBy_33 : decode cX6_lastsBy 33 = .ok (.ireturn, 1) := by decide +kernel
set_option maxRecDepth 20000 in
theorem ggX6_endings_X6_goes : GoodIn wsX6_endings wsX6_goes := goodIn_r _ [5, 6, 7, 8, 9, 4, 10, 11, 12, 13, 14, 15, 16, 17, 18, 19, 20, 21] (by decide +kernel) (by decide +kernel)
set_option maxRecDepth 20000 in
theorem gX6_endings_X6_goes : GoodIn wsX6_endings (wsV RX6 85 RX6 yX6_goes wsX6_goes) := goodIn_app (goodIn_of _ (by decide +kernel)) ggX6_endings_X6_goes
theorem dX6_endings_0 : decode cX6_endings 0 = .ok (.iconst 0, 1) := by decide +kernel
theorem dX6_endings_1 : decode cX6_endings 1 = .ok (.istore_n 2, 1) := by decide +kernel
theorem dX6_endings_2 : decode cX6_endings 2 = .ok (.iconst 0, 1) := by decide +kernel
theorem dX6_endings_3 : decode cX6_endings 3 = .ok (.istore_n 3, 1) := by decide +kernel
theorem dX6_endings_4 : decode cX6_endings 4 = .ok (.iload_n 3, 1) := by decide +kernel
theorem dX6_endings_5 : decode cX6_endings 5 = .ok (.iconst 4, 1) := by decide +kernel
theorem dX6_endings_6 : decode cX6_endings 6 = .ok (.if_icmp .ge 26, 3) := by decide +kernel
theorem dX6_endings_9 : decode cX6_endings 9 = .ok (.iload_n 2, 1) := by decide +kernel
theorem dX6_endings_10 : decode cX6_endings 10 = .ok (.aload_n 0, 1) := by decide +kernel
theorem dX6_endings_11 : decode cX6_endings 11 = .ok (.iload_n 1, 1) := by decide +kernel
theorem dX6_endings_12 : decode cX6_endings 12 = .ok (.iload_n 3, 1) := by decide +kernel
theorem dX6_endings_13 : decode cX6_endings 13 = .ok (.invokevirtual 85, 3) := by decide +kernel
theorem dX6_endings_16 : decode cX6_endings 16 = .ok (.ifCond .ne 7, 3) := by decide +kernel
theorem dX6_endings_19 : decode cX6_endings 19 = .ok (.iconst 1, 1) := by decide +kernel
theorem dX6_endings_20 : decode cX6_endings 20 = .ok (.goto 4, 3) := by decide +kernel
theorem dX6_endings_23 : decode cX6_endings 23 = .ok (.iconst 0, 1) := by decide +kernel
theorem dX6_endings_24 : decode cX6_endings 24 = .ok (.iadd, 1) := by decide +kernel
theorem dX6_endings_25 : decode cX6_endings 25 = .ok (.istore_n 2, 1) := by decide +kernel
theorem dX6_endings_26 : decode cX6_endings 26 = .ok (.iinc 3 1, 3) := by decide +kernel
theorem dX6_endings_29 : decode cX6_endings 29 = .ok (.goto (-25), 3) := by decide +kernel
theorem dX6_endings_32 : decode cX6_endings 32 = .ok (.iload_n 2, 1) := by decide +kernel
theorem dX6_endings_33 : decode cX6_endings 33 = .ok (.ireturn, 1) := by decide +kernel
set_option maxRecDepth 20000 in
theorem ggX6_isLive_X6_canGoFrom : GoodIn wsX6_isLive wsX6_canGoFrom := goodIn_r _ [7, 8, 12, 13, 14, 15, 16, 17, 18, 19, 20, 21] (by decide +kernel) (by decide +kernel)
set_option maxRecDepth 20000 in
theorem gX6_isLive_X6_canGoFrom : GoodIn wsX6_isLive (wsV RX6 92 RX6 yX6_canGoFrom wsX6_canGoFrom) := goodIn_app (goodIn_of _ (by decide +kernel)) ggX6_isLive_X6_canGoFrom
set_option maxRecDepth 20000 in
theorem ggX6_isLive_X10_holds : GoodIn wsX6_isLive wsX10_holds := goodIn_r _ [11] (by decide +kernel) (by decide +kernel)
set_option maxRecDepth 20000 in
theorem gX6_isLive_X10_holds_n71 : GoodIn wsX6_isLive (wsX10_holds) := ggX6_isLive_X10_holds
theorem dX6_isLive_0 : decode cX6_isLive 0 = .ok (.aload_n 0, 1) := by decide +kernel
theorem dX6_isLive_1 : decode cX6_isLive 1 = .ok (.iload_n 1, 1) := by decide +kernel
theorem dX6_isLive_2 : decode cX6_isLive 2 = .ok (.invokevirtual 92, 3) := by decide +kernel
theorem dX6_isLive_5 : decode cX6_isLive 5 = .ok (.ifCond .eq 27, 3) := by decide +kernel
theorem dX6_isLive_8 : decode cX6_isLive 8 = .ok (.aload_n 0, 1) := by decide +kernel
theorem dX6_isLive_9 : decode cX6_isLive 9 = .ok (.getfield 78, 3) := by decide +kernel
theorem dX6_isLive_12 : decode cX6_isLive 12 = .ok (.iload_n 1, 1) := by decide +kernel
theorem dX6_isLive_13 : decode cX6_isLive 13 = .ok (.invokestatic 71, 3) := by decide +kernel
theorem dX6_isLive_16 : decode cX6_isLive 16 = .ok (.ifCond .eq 16, 3) := by decide +kernel
theorem dX6_isLive_19 : decode cX6_isLive 19 = .ok (.aload_n 0, 1) := by decide +kernel
theorem dX6_isLive_20 : decode cX6_isLive 20 = .ok (.getfield 30, 3) := by decide +kernel
theorem dX6_isLive_23 : decode cX6_isLive 23 = .ok (.iload_n 1, 1) := by decide +kernel
theorem dX6_isLive_24 : decode cX6_isLive 24 = .ok (.iaload, 1) := by decide +kernel
theorem dX6_isLive_25 : decode cX6_isLive 25 = .ok (.ifCond .eq 7, 3) := by decide +kernel
theorem dX6_isLive_28 : decode cX6_isLive 28 = .ok (.iconst 1, 1) := by decide +kernel
theorem dX6_isLive_29 : decode cX6_isLive 29 = .ok (.goto 4, 3) := by decide +kernel
theorem dX6_isLive_32 : decode cX6_isLive 32 = .ok (.iconst 0, 1) := by decide +kernel
theorem dX6_isLive_33 : decode cX6_isLive 33 = .ok (.ireturn, 1) := by decide +kernel
set_option maxRecDepth 20000 in
theorem ggX7_init_X6_init : GoodIn wsX7_init wsX6_init := goodIn_r _ [13, 14, 2, 3, 4, 15, 16, 17, 18, 19, 20, 21, 22, 23, 24, 9, 25, 26, 27, 28, 29, 30, 31, 32, 33, 34, 35, 36, 37, 38, 39, 40, 41, 42, 43, 44, 45, 46, 47, 48, 49, 50, 51, 52, 53, 54, 55, 56, 57, 58, 59, 60, 61, 62, 63, 64, 65, 66, 67, 68, 69, 70, 71, 77, 78, 79, 80, 81, 82, 83, 84, 85, 86] (by decide +kernel) (by decide +kernel)
set_option maxRecDepth 20000 in
theorem gX7_init_X6_init : GoodIn wsX7_init (wsX6_init) := ggX7_init_X6_init
theorem dX7_init_0 : decode cX7_init 0 = .ok (.aload_n 0, 1) := by decide +kernel
theorem dX7_init_1 : decode cX7_init 1 = .ok (.invokespecial 3, 3) := by decide +kernel
theorem dX7_init_4 : decode cX7_init 4 = .ok (.aload_n 0, 1) := by decide +kernel
theorem dX7_init_5 : decode cX7_init 5 = .ok (.sipush 301, 3) := by decide +kernel
theorem dX7_init_8 : decode cX7_init 8 = .ok (.newarray .int, 2) := by decide +kernel
theorem dX7_init_10 : decode cX7_init 10 = .ok (.putfield 9, 3) := by decide +kernel
theorem dX7_init_13 : decode cX7_init 13 = .ok (.aload_n 0, 1) := by decide +kernel
theorem dX7_init_14 : decode cX7_init 14 = .ok (.sipush 301, 3) := by decide +kernel
theorem dX7_init_17 : decode cX7_init 17 = .ok (.newarray .int, 2) := by decide +kernel
theorem dX7_init_19 : decode cX7_init 19 = .ok (.putfield 15, 3) := by decide +kernel
theorem dX7_init_22 : decode cX7_init 22 = .ok (.aload_n 0, 1) := by decide +kernel
theorem dX7_init_23 : decode cX7_init 23 = .ok (.new 18, 3) := by decide +kernel
theorem dX7_init_26 : decode cX7_init 26 = .ok (.dup, 1) := by decide +kernel
theorem dX7_init_27 : decode cX7_init 27 = .ok (.invokespecial 20, 3) := by decide +kernel
theorem dX7_init_30 : decode cX7_init 30 = .ok (.putfield 21, 3) := by decide +kernel
theorem dX7_init_33 : decode cX7_init 33 = .ok (.return_, 1) := by decide +kernel
set_option maxRecDepth 20000 in
theorem ggX7_read_X6_empty : GoodIn wsX7_read wsX6_empty := goodIn_r _ [12, 13, 14, 260, 261, 262, 263, 264, 265, 266, 267, 268, 269] (by decide +kernel) (by decide +kernel)
set_option maxRecDepth 20000 in
theorem gX7_read_X6_empty : GoodIn wsX7_read (wsV RX7 25 RX6 yX6_empty wsX6_empty) := goodIn_app (goodIn_of _ (by decide +kernel)) ggX7_read_X6_empty
set_option maxRecDepth 20000 in
theorem ggX7_read_X7_scan : GoodIn wsX7_read wsX7_scan := goodIn_r _ [19, 20, 21, 22, 23, 18, 24, 25, 26, 27, 28, 29, 30, 31, 32, 33, 34, 35, 36, 37, 38, 39, 40, 41, 42, 43, 44, 45, 46, 47, 48, 49, 50, 51, 52, 53, 54, 55, 56, 57, 58, 59, 60, 61, 62, 63, 64, 65, 66, 67, 68, 69, 70, 71, 72, 73, 74, 75, 76, 77, 78, 79, 80, 81, 82, 83, 84, 85, 86, 87, 88, 89, 90, 91, 92, 93, 94, 95, 4, 96, 97, 3, 5, 98, 99, 100, 101, 102, 103, 104, 105, 106, 107, 108, 109, 110, 111, 112, 113, 114, 115, 116, 117, 118, 119, 120, 121, 122, 123, 124, 125, 126, 127, 128, 129, 130, 131, 132, 133, 134, 135, 136, 137, 138, 139, 255, 256, 257, 258, 259] (by decide +kernel) (by decide +kernel)
set_option maxRecDepth 20000 in
theorem gX7_read_X7_scan : GoodIn wsX7_read (wsV RX7 34 RX7 yX7_scan wsX7_scan) := goodIn_app (goodIn_of _ (by decide +kernel)) ggX7_read_X7_scan
set_option maxRecDepth 20000 in
theorem ggX7_read_X7_readStatements : GoodIn wsX7_read wsX7_readStatements := goodIn_r _ [143, 6, 144, 145, 146, 18, 147, 148, 149, 150, 20, 151, 1, 152, 153, 154, 155, 156, 157, 158, 159, 160, 161, 162, 163, 164, 165, 166, 167, 168, 169, 21, 7, 170, 171, 172, 173, 174, 175, 176, 177, 178, 179, 180, 181, 182, 183, 184, 11, 185, 13, 186, 3, 4, 5, 187, 188, 189, 140, 141, 142, 190, 191, 192, 193, 194, 195, 14, 196, 197, 198, 199, 200, 201, 202, 203, 204, 205, 206, 207, 208, 255, 256, 257, 258, 259, 260, 261, 262, 263, 264, 265, 266, 267, 268, 269] (by decide +kernel) (by decide +kernel)
set_option maxRecDepth 20000 in
theorem gX7_read_X7_readStatements : GoodIn wsX7_read (wsV RX7 45 RX7 yX7_readStatements wsX7_readStatements) := goodIn_app (goodIn_of _ (by decide +kernel)) ggX7_read_X7_readStatements
set_option maxRecDepth 20000 in
theorem ggX7_read_X7_isNow : GoodIn wsX7_read wsX7_isNow := goodIn_r _ [212, 147, 148, 149, 18, 150, 6, 20, 166, 167, 168, 169, 21, 7, 255, 256, 257, 258, 259] (by decide +kernel) (by decide +kernel)
set_option maxRecDepth 20000 in
theorem gX7_read_X7_isNow : GoodIn wsX7_read (wsV RX7 49 RX7 yX7_isNow wsX7_isNow) := goodIn_app (goodIn_of _ (by decide +kernel)) ggX7_read_X7_isNow
set_option maxRecDepth 20000 in
theorem ggX7_read_X6_settle : GoodIn wsX7_read wsX6_settle := goodIn_r _ [216, 14, 217, 218, 219, 220, 11, 221, 196, 13, 187, 189, 188, 222, 223, 224, 225, 226, 227, 228, 229, 230, 231, 232, 233, 234, 235, 236, 237, 238, 239, 240, 241, 242, 243, 244, 245, 246, 247, 248, 249, 250, 251, 252, 253, 254, 260, 261, 262, 263, 264, 265, 266, 267, 268, 269] (by decide +kernel) (by decide +kernel)
set_option maxRecDepth 20000 in
theorem gX7_read_X6_settle : GoodIn wsX7_read (wsV RX7 52 RX6 yX6_settle wsX6_settle) := goodIn_app (goodIn_of _ (by decide +kernel)) ggX7_read_X6_settle
theorem dX7_read_0 : decode cX7_read 0 = .ok (.aload_n 0, 1) := by decide +kernel
theorem dX7_read_1 : decode cX7_read 1 = .ok (.getfield 21, 3) := by decide +kernel
theorem dX7_read_4 : decode cX7_read 4 = .ok (.invokevirtual 25, 3) := by decide +kernel
theorem dX7_read_7 : decode cX7_read 7 = .ok (.aload_n 0, 1) := by decide +kernel
theorem dX7_read_8 : decode cX7_read 8 = .ok (.aload_n 1, 1) := by decide +kernel
theorem dX7_read_9 : decode cX7_read 9 = .ok (.iload_n 2, 1) := by decide +kernel
theorem dX7_read_10 : decode cX7_read 10 = .ok (.sipush 300, 3) := by decide +kernel
theorem dX7_read_13 : decode cX7_read 13 = .ok (.invokestatic 28, 3) := by decide +kernel
theorem dX7_read_16 : decode cX7_read 16 = .ok (.invokevirtual 34, 3) := by decide +kernel
theorem dX7_read_19 : decode cX7_read 19 = .ok (.aload_n 0, 1) := by decide +kernel
theorem dX7_read_20 : decode cX7_read 20 = .ok (.iconst 0, 1) := by decide +kernel
theorem dX7_read_21 : decode cX7_read 21 = .ok (.putfield 38, 3) := by decide +kernel
theorem dX7_read_24 : decode cX7_read 24 = .ok (.aload_n 0, 1) := by decide +kernel
theorem dX7_read_25 : decode cX7_read 25 = .ok (.iconst (-1), 1) := by decide +kernel
theorem dX7_read_26 : decode cX7_read 26 = .ok (.putfield 42, 3) := by decide +kernel
theorem dX7_read_29 : decode cX7_read 29 = .ok (.aload_n 0, 1) := by decide +kernel
theorem dX7_read_30 : decode cX7_read 30 = .ok (.iconst 0, 1) := by decide +kernel
theorem dX7_read_31 : decode cX7_read 31 = .ok (.invokevirtual 45, 3) := by decide +kernel
theorem dX7_read_34 : decode cX7_read 34 = .ok (.ifCond .eq 19, 3) := by decide +kernel
theorem dX7_read_37 : decode cX7_read 37 = .ok (.aload_n 0, 1) := by decide +kernel
theorem dX7_read_38 : decode cX7_read 38 = .ok (.bipush 23, 2) := by decide +kernel
theorem dX7_read_40 : decode cX7_read 40 = .ok (.invokevirtual 49, 3) := by decide +kernel
theorem dX7_read_43 : decode cX7_read 43 = .ok (.ifCond .eq 10, 3) := by decide +kernel
theorem dX7_read_46 : decode cX7_read 46 = .ok (.aload_n 0, 1) := by decide +kernel
theorem dX7_read_47 : decode cX7_read 47 = .ok (.getfield 21, 3) := by decide +kernel
theorem dX7_read_50 : decode cX7_read 50 = .ok (.invokevirtual 52, 3) := by decide +kernel
theorem dX7_read_53 : decode cX7_read 53 = .ok (.aload_n 0, 1) := by decide +kernel
theorem dX7_read_54 : decode cX7_read 54 = .ok (.getfield 42, 3) := by decide +kernel
theorem dX7_read_57 : decode cX7_read 57 = .ok (.ireturn, 1) := by decide +kernel
theorem dX7_giveFor_0 : decode cX7_giveFor 0 = .ok (.aload_n 0, 1) := by decide +kernel
theorem dX7_giveFor_1 : decode cX7_giveFor 1 = .ok (.getfield 21, 3) := by decide +kernel
theorem dX7_giveFor_4 : decode cX7_giveFor 4 = .ok (.astore_n 2, 1) := by decide +kernel
theorem dX7_giveFor_5 : decode cX7_giveFor 5 = .ok (.aload_n 0, 1) := by decide +kernel
theorem dX7_giveFor_6 : decode cX7_giveFor 6 = .ok (.aload_n 1, 1) := by decide +kernel
theorem dX7_giveFor_7 : decode cX7_giveFor 7 = .ok (.putfield 21, 3) := by decide +kernel
theorem dX7_giveFor_10 : decode cX7_giveFor 10 = .ok (.aload_n 2, 1) := by decide +kernel
theorem dX7_giveFor_11 : decode cX7_giveFor 11 = .ok (.areturn, 1) := by decide +kernel
set_option maxRecDepth 20000 in
theorem ggX7_scan_X7_isLetter : GoodIn wsX7_scan wsX7_isLetter := goodIn_r _ [6] (by decide +kernel) (by decide +kernel)
set_option maxRecDepth 20000 in
theorem gX7_scan_X7_isLetter : GoodIn wsX7_scan (va_wsS RX7 55 yX7_isLetter wsX7_isLetter) := goodIn_app (goodIn_of _ (by decide +kernel)) ggX7_scan_X7_isLetter
set_option maxRecDepth 20000 in
theorem ggX7_scan_X7_wordEnd : GoodIn wsX7_scan wsX7_wordEnd := goodIn_r _ [9, 3, 4, 5, 6] (by decide +kernel) (by decide +kernel)
set_option maxRecDepth 20000 in
theorem gX7_scan_X7_wordEnd : GoodIn wsX7_scan (va_wsS RX7 58 yX7_wordEnd wsX7_wordEnd) := goodIn_app (goodIn_of _ (by decide +kernel)) ggX7_scan_X7_wordEnd
set_option maxRecDepth 20000 in
theorem ggX7_scan_X7_wordToken : GoodIn wsX7_scan wsX7_wordToken := goodIn_r _ [12, 13, 14, 15, 16, 17, 18, 19, 20, 21, 22, 23, 24, 25, 26, 27, 28, 29, 30, 31, 32, 33, 34, 35, 36, 37, 38, 39, 40, 41, 42, 43, 44, 45, 46, 47, 48, 49, 50, 51, 52, 53] (by decide +kernel) (by decide +kernel)
set_option maxRecDepth 20000 in
theorem gX7_scan_X7_wordToken : GoodIn wsX7_scan (va_wsS RX7 62 yX7_wordToken wsX7_wordToken) := goodIn_app (goodIn_of _ (by decide +kernel)) ggX7_scan_X7_wordToken
set_option maxRecDepth 20000 in
theorem ggX7_scan_X7_signToken : GoodIn wsX7_scan wsX7_signToken := goodIn_r _ [56, 57, 58, 59, 16, 60, 61, 62, 63, 64, 18, 19, 20, 21, 22, 23, 24, 65, 66, 67, 68, 69, 70, 71, 72, 73, 74, 27, 75, 76, 77, 78, 79, 80, 81, 82, 83, 84, 85, 86, 87, 88, 89, 90, 39, 91, 92, 93, 94, 95, 96, 97, 98, 99, 100, 44, 45, 46, 101, 102, 103, 32, 104, 105, 35, 106, 107, 108, 109, 48, 49, 50, 51, 52, 53, 110, 111, 112, 113, 114, 115, 116, 117, 118, 119, 120, 121, 122, 123, 124] (by decide +kernel) (by decide +kernel)
set_option maxRecDepth 20000 in
theorem gX7_scan_X7_signToken : GoodIn wsX7_scan (va_wsS RX7 65 yX7_signToken wsX7_signToken) := goodIn_app (goodIn_of _ (by decide +kernel)) ggX7_scan_X7_signToken
theorem dX7_scan_0 : decode cX7_scan 0 = .ok (.iconst 0, 1) := by decide +kernel
theorem dX7_scan_1 : decode cX7_scan 1 = .ok (.istore_n 3, 1) := by decide +kernel
theorem dX7_scan_2 : decode cX7_scan 2 = .ok (.iconst 0, 1) := by decide +kernel
theorem dX7_scan_3 : decode cX7_scan 3 = .ok (.istore 4, 2) := by decide +kernel
theorem dX7_scan_5 : decode cX7_scan 5 = .ok (.iload 4, 2) := by decide +kernel
theorem dX7_scan_7 : decode cX7_scan 7 = .ok (.iload_n 2, 1) := by decide +kernel
theorem dX7_scan_8 : decode cX7_scan 8 = .ok (.if_icmp .ge 113, 3) := by decide +kernel
theorem dX7_scan_11 : decode cX7_scan 11 = .ok (.aload_n 1, 1) := by decide +kernel
theorem dX7_scan_12 : decode cX7_scan 12 = .ok (.iload 4, 2) := by decide +kernel
theorem dX7_scan_14 : decode cX7_scan 14 = .ok (.baload, 1) := by decide +kernel
theorem dX7_scan_15 : decode cX7_scan 15 = .ok (.sipush 255, 3) := by decide +kernel
theorem dX7_scan_18 : decode cX7_scan 18 = .ok (.iand, 1) := by decide +kernel
theorem dX7_scan_19 : decode cX7_scan 19 = .ok (.istore 5, 2) := by decide +kernel
theorem dX7_scan_21 : decode cX7_scan 21 = .ok (.iload 5, 2) := by decide +kernel
theorem dX7_scan_23 : decode cX7_scan 23 = .ok (.invokestatic 55, 3) := by decide +kernel
theorem dX7_scan_26 : decode cX7_scan 26 = .ok (.ifCond .eq 28, 3) := by decide +kernel
theorem dX7_scan_29 : decode cX7_scan 29 = .ok (.iload 4, 2) := by decide +kernel
theorem dX7_scan_31 : decode cX7_scan 31 = .ok (.ifCond .le 23, 3) := by decide +kernel
theorem dX7_scan_34 : decode cX7_scan 34 = .ok (.aload_n 1, 1) := by decide +kernel
theorem dX7_scan_35 : decode cX7_scan 35 = .ok (.iload 4, 2) := by decide +kernel
theorem dX7_scan_37 : decode cX7_scan 37 = .ok (.iconst 1, 1) := by decide +kernel
theorem dX7_scan_38 : decode cX7_scan 38 = .ok (.isub, 1) := by decide +kernel
theorem dX7_scan_39 : decode cX7_scan 39 = .ok (.baload, 1) := by decide +kernel
theorem dX7_scan_40 : decode cX7_scan 40 = .ok (.sipush 255, 3) := by decide +kernel
theorem dX7_scan_43 : decode cX7_scan 43 = .ok (.iand, 1) := by decide +kernel
theorem dX7_scan_44 : decode cX7_scan 44 = .ok (.invokestatic 55, 3) := by decide +kernel
theorem dX7_scan_47 : decode cX7_scan 47 = .ok (.ifCond .eq 7, 3) := by decide +kernel
theorem dX7_scan_50 : decode cX7_scan 50 = .ok (.iconst 1, 1) := by decide +kernel
theorem dX7_scan_51 : decode cX7_scan 51 = .ok (.goto 4, 3) := by decide +kernel
theorem dX7_scan_54 : decode cX7_scan 54 = .ok (.iconst 0, 1) := by decide +kernel
theorem dX7_scan_55 : decode cX7_scan 55 = .ok (.istore 6, 2) := by decide +kernel
theorem dX7_scan_57 : decode cX7_scan 57 = .ok (.iload 5, 2) := by decide +kernel
theorem dX7_scan_59 : decode cX7_scan 59 = .ok (.bipush 32, 2) := by decide +kernel
theorem dX7_scan_61 : decode cX7_scan 61 = .ok (.if_icmp .eq 54, 3) := by decide +kernel
theorem dX7_scan_64 : decode cX7_scan 64 = .ok (.iload 6, 2) := by decide +kernel
theorem dX7_scan_66 : decode cX7_scan 66 = .ok (.ifCond .ne 49, 3) := by decide +kernel
theorem dX7_scan_69 : decode cX7_scan 69 = .ok (.aload_n 0, 1) := by decide +kernel
theorem dX7_scan_70 : decode cX7_scan 70 = .ok (.getfield 9, 3) := by decide +kernel
theorem dX7_scan_73 : decode cX7_scan 73 = .ok (.iload_n 3, 1) := by decide +kernel
theorem dX7_scan_74 : decode cX7_scan 74 = .ok (.iload 5, 2) := by decide +kernel
theorem dX7_scan_76 : decode cX7_scan 76 = .ok (.invokestatic 55, 3) := by decide +kernel
theorem dX7_scan_79 : decode cX7_scan 79 = .ok (.ifCond .eq 19, 3) := by decide +kernel
theorem dX7_scan_82 : decode cX7_scan 82 = .ok (.aload_n 1, 1) := by decide +kernel
theorem dX7_scan_83 : decode cX7_scan 83 = .ok (.iload 4, 2) := by decide +kernel
theorem dX7_scan_85 : decode cX7_scan 85 = .ok (.aload_n 1, 1) := by decide +kernel
theorem dX7_scan_86 : decode cX7_scan 86 = .ok (.iload 4, 2) := by decide +kernel
theorem dX7_scan_88 : decode cX7_scan 88 = .ok (.iload_n 2, 1) := by decide +kernel
theorem dX7_scan_89 : decode cX7_scan 89 = .ok (.invokestatic 58, 3) := by decide +kernel
theorem dX7_scan_92 : decode cX7_scan 92 = .ok (.invokestatic 62, 3) := by decide +kernel
theorem dX7_scan_95 : decode cX7_scan 95 = .ok (.goto 8, 3) := by decide +kernel
theorem dX7_scan_98 : decode cX7_scan 98 = .ok (.iload 5, 2) := by decide +kernel
theorem dX7_scan_100 : decode cX7_scan 100 = .ok (.invokestatic 65, 3) := by decide +kernel
theorem dX7_scan_103 : decode cX7_scan 103 = .ok (.iastore, 1) := by decide +kernel
theorem dX7_scan_104 : decode cX7_scan 104 = .ok (.aload_n 0, 1) := by decide +kernel
theorem dX7_scan_105 : decode cX7_scan 105 = .ok (.getfield 15, 3) := by decide +kernel
theorem dX7_scan_108 : decode cX7_scan 108 = .ok (.iload_n 3, 1) := by decide +kernel
theorem dX7_scan_109 : decode cX7_scan 109 = .ok (.iload 4, 2) := by decide +kernel
theorem dX7_scan_111 : decode cX7_scan 111 = .ok (.iastore, 1) := by decide +kernel
theorem dX7_scan_112 : decode cX7_scan 112 = .ok (.iinc 3 1, 3) := by decide +kernel
theorem dX7_scan_115 : decode cX7_scan 115 = .ok (.iinc 4 1, 3) := by decide +kernel
theorem dX7_scan_118 : decode cX7_scan 118 = .ok (.goto (-113), 3) := by decide +kernel
theorem dX7_scan_121 : decode cX7_scan 121 = .ok (.aload_n 0, 1) := by decide +kernel
theorem dX7_scan_122 : decode cX7_scan 122 = .ok (.getfield 9, 3) := by decide +kernel
theorem dX7_scan_125 : decode cX7_scan 125 = .ok (.iload_n 3, 1) := by decide +kernel
theorem dX7_scan_126 : decode cX7_scan 126 = .ok (.bipush 23, 2) := by decide +kernel
theorem dX7_scan_128 : decode cX7_scan 128 = .ok (.iastore, 1) := by decide +kernel
theorem dX7_scan_129 : decode cX7_scan 129 = .ok (.aload_n 0, 1) := by decide +kernel
theorem dX7_scan_130 : decode cX7_scan 130 = .ok (.getfield 15, 3) := by decide +kernel
theorem dX7_scan_133 : decode cX7_scan 133 = .ok (.iload_n 3, 1) := by decide +kernel
theorem dX7_scan_134 : decode cX7_scan 134 = .ok (.iload_n 2, 1) := by decide +kernel
theorem dX7_scan_135 : decode cX7_scan 135 = .ok (.iastore, 1) := by decide +kernel
theorem dX7_scan_136 : decode cX7_scan 136 = .ok (.return_, 1) := by decide +kernel
theorem dX7_isLetter_0 : decode cX7_isLetter 0 = .ok (.iload_n 0, 1) := by decide +kernel
theorem dX7_isLetter_1 : decode cX7_isLetter 1 = .ok (.bipush 97, 2) := by decide +kernel
theorem dX7_isLetter_3 : decode cX7_isLetter 3 = .ok (.if_icmp .lt 13, 3) := by decide +kernel
theorem dX7_isLetter_6 : decode cX7_isLetter 6 = .ok (.iload_n 0, 1) := by decide +kernel
theorem dX7_isLetter_7 : decode cX7_isLetter 7 = .ok (.bipush 122, 2) := by decide +kernel
theorem dX7_isLetter_9 : decode cX7_isLetter 9 = .ok (.if_icmp .gt 7, 3) := by decide +kernel
theorem dX7_isLetter_12 : decode cX7_isLetter 12 = .ok (.iconst 1, 1) := by decide +kernel
theorem dX7_isLetter_13 : decode cX7_isLetter 13 = .ok (.goto 4, 3) := by decide +kernel
theorem dX7_isLetter_16 : decode cX7_isLetter 16 = .ok (.iconst 0, 1) := by decide +kernel
theorem dX7_isLetter_17 : decode cX7_isLetter 17 = .ok (.ireturn, 1) := by decide +kernel
set_option maxRecDepth 20000 in
theorem ggX7_wordEnd_X7_isLetter : GoodIn wsX7_wordEnd wsX7_isLetter := goodIn_r _ [4] (by decide +kernel) (by decide +kernel)
set_option maxRecDepth 20000 in
theorem gX7_wordEnd_X7_isLetter : GoodIn wsX7_wordEnd (va_wsS RX7 55 yX7_isLetter wsX7_isLetter) := goodIn_app (goodIn_of _ (by decide +kernel)) ggX7_wordEnd_X7_isLetter
theorem dX7_wordEnd_0 : decode cX7_wordEnd 0 = .ok (.iload_n 1, 1) := by decide +kernel
theorem dX7_wordEnd_1 : decode cX7_wordEnd 1 = .ok (.iconst 1, 1) := by decide +kernel
theorem dX7_wordEnd_2 : decode cX7_wordEnd 2 = .ok (.iadd, 1) := by decide +kernel
theorem dX7_wordEnd_3 : decode cX7_wordEnd 3 = .ok (.istore_n 3, 1) := by decide +kernel
theorem dX7_wordEnd_4 : decode cX7_wordEnd 4 = .ok (.iload_n 3, 1) := by decide +kernel
theorem dX7_wordEnd_5 : decode cX7_wordEnd 5 = .ok (.iload_n 2, 1) := by decide +kernel
theorem dX7_wordEnd_6 : decode cX7_wordEnd 6 = .ok (.if_icmp .ge 22, 3) := by decide +kernel
theorem dX7_wordEnd_9 : decode cX7_wordEnd 9 = .ok (.aload_n 0, 1) := by decide +kernel
theorem dX7_wordEnd_10 : decode cX7_wordEnd 10 = .ok (.iload_n 3, 1) := by decide +kernel
theorem dX7_wordEnd_11 : decode cX7_wordEnd 11 = .ok (.baload, 1) := by decide +kernel
theorem dX7_wordEnd_12 : decode cX7_wordEnd 12 = .ok (.sipush 255, 3) := by decide +kernel
theorem dX7_wordEnd_15 : decode cX7_wordEnd 15 = .ok (.iand, 1) := by decide +kernel
theorem dX7_wordEnd_16 : decode cX7_wordEnd 16 = .ok (.invokestatic 55, 3) := by decide +kernel
theorem dX7_wordEnd_19 : decode cX7_wordEnd 19 = .ok (.ifCond .eq 9, 3) := by decide +kernel
theorem dX7_wordEnd_22 : decode cX7_wordEnd 22 = .ok (.iinc 3 1, 3) := by decide +kernel
theorem dX7_wordEnd_25 : decode cX7_wordEnd 25 = .ok (.goto (-21), 3) := by decide +kernel
theorem dX7_wordEnd_28 : decode cX7_wordEnd 28 = .ok (.iload_n 3, 1) := by decide +kernel
theorem dX7_wordEnd_29 : decode cX7_wordEnd 29 = .ok (.ireturn, 1) := by decide +kernel
set_option maxRecDepth 20000 in
theorem ggX7_wordToken_J0_charAt_5068e : GoodIn wsX7_wordToken wsJ0_charAt_5068e := goodIn_r _ [5, 6, 7, 8, 9, 4, 10, 11, 12, 13, 14, 15, 16, 17, 18, 19, 20, 21, 22, 23, 24, 25, 26, 27, 28, 29, 30, 31, 32, 33, 34, 35, 36, 37, 38, 39, 40, 41] (by decide +kernel) (by decide +kernel)
set_option maxRecDepth 20000 in
theorem gX7_wordToken_J0_charAt_5068e : GoodIn wsX7_wordToken (wsV RX7 71 RJ0 yJ0_charAt_5068e wsJ0_charAt_5068e) := goodIn_app (goodIn_of _ (by decide +kernel)) ggX7_wordToken_J0_charAt_5068e
theorem dX7_wordToken_0 : decode cX7_wordToken 0 = .ok (.iload_n 2, 1) := by decide +kernel
theorem dX7_wordToken_1 : decode cX7_wordToken 1 = .ok (.iload_n 1, 1) := by decide +kernel
theorem dX7_wordToken_2 : decode cX7_wordToken 2 = .ok (.isub, 1) := by decide +kernel
theorem dX7_wordToken_3 : decode cX7_wordToken 3 = .ok (.istore_n 3, 1) := by decide +kernel
theorem dX7_wordToken_4 : decode cX7_wordToken 4 = .ok (.iload_n 3, 1) := by decide +kernel
theorem dX7_wordToken_5 : decode cX7_wordToken 5 = .ok (.bipush 6, 2) := by decide +kernel
theorem dX7_wordToken_7 : decode cX7_wordToken 7 = .ok (.if_icmp .lt 6, 3) := by decide +kernel
theorem dX7_wordToken_10 : decode cX7_wordToken 10 = .ok (.bipush 24, 2) := by decide +kernel
theorem dX7_wordToken_12 : decode cX7_wordToken 12 = .ok (.ireturn, 1) := by decide +kernel
theorem dX7_wordToken_13 : decode cX7_wordToken 13 = .ok (.iconst 0, 1) := by decide +kernel
theorem dX7_wordToken_14 : decode cX7_wordToken 14 = .ok (.istore 4, 2) := by decide +kernel
theorem dX7_wordToken_16 : decode cX7_wordToken 16 = .ok (.iload 4, 2) := by decide +kernel
theorem dX7_wordToken_18 : decode cX7_wordToken 18 = .ok (.bipush 14, 2) := by decide +kernel
theorem dX7_wordToken_20 : decode cX7_wordToken 20 = .ok (.if_icmp .gt 74, 3) := by decide +kernel
theorem dX7_wordToken_23 : decode cX7_wordToken 23 = .ok (.iload 4, 2) := by decide +kernel
theorem dX7_wordToken_25 : decode cX7_wordToken 25 = .ok (.bipush 6, 2) := by decide +kernel
theorem dX7_wordToken_27 : decode cX7_wordToken 27 = .ok (.imul, 1) := by decide +kernel
theorem dX7_wordToken_28 : decode cX7_wordToken 28 = .ok (.istore 5, 2) := by decide +kernel
theorem dX7_wordToken_30 : decode cX7_wordToken 30 = .ok (.iconst 0, 1) := by decide +kernel
theorem dX7_wordToken_31 : decode cX7_wordToken 31 = .ok (.istore 6, 2) := by decide +kernel
theorem dX7_wordToken_33 : decode cX7_wordToken 33 = .ok (.iload 6, 2) := by decide +kernel
theorem dX7_wordToken_35 : decode cX7_wordToken 35 = .ok (.iload_n 3, 1) := by decide +kernel
theorem dX7_wordToken_36 : decode cX7_wordToken 36 = .ok (.if_icmp .ge 28, 3) := by decide +kernel
theorem dX7_wordToken_39 : decode cX7_wordToken 39 = .ok (.ldc 69, 2) := by decide +kernel
theorem dX7_wordToken_41 : decode cX7_wordToken 41 = .ok (.iload 5, 2) := by decide +kernel
theorem dX7_wordToken_43 : decode cX7_wordToken 43 = .ok (.iload 6, 2) := by decide +kernel
theorem dX7_wordToken_45 : decode cX7_wordToken 45 = .ok (.iadd, 1) := by decide +kernel
theorem dX7_wordToken_46 : decode cX7_wordToken 46 = .ok (.invokevirtual 71, 3) := by decide +kernel
theorem dX7_wordToken_49 : decode cX7_wordToken 49 = .ok (.aload_n 0, 1) := by decide +kernel
theorem dX7_wordToken_50 : decode cX7_wordToken 50 = .ok (.iload_n 1, 1) := by decide +kernel
theorem dX7_wordToken_51 : decode cX7_wordToken 51 = .ok (.iload 6, 2) := by decide +kernel
theorem dX7_wordToken_53 : decode cX7_wordToken 53 = .ok (.iadd, 1) := by decide +kernel
theorem dX7_wordToken_54 : decode cX7_wordToken 54 = .ok (.baload, 1) := by decide +kernel
theorem dX7_wordToken_55 : decode cX7_wordToken 55 = .ok (.if_icmp .ne 9, 3) := by decide +kernel
theorem dX7_wordToken_58 : decode cX7_wordToken 58 = .ok (.iinc 6 1, 3) := by decide +kernel
theorem dX7_wordToken_61 : decode cX7_wordToken 61 = .ok (.goto (-28), 3) := by decide +kernel
theorem dX7_wordToken_64 : decode cX7_wordToken 64 = .ok (.iload 6, 2) := by decide +kernel
theorem dX7_wordToken_66 : decode cX7_wordToken 66 = .ok (.iload_n 3, 1) := by decide +kernel
theorem dX7_wordToken_67 : decode cX7_wordToken 67 = .ok (.if_icmp .ne 21, 3) := by decide +kernel
theorem dX7_wordToken_70 : decode cX7_wordToken 70 = .ok (.ldc 69, 2) := by decide +kernel
theorem dX7_wordToken_72 : decode cX7_wordToken 72 = .ok (.iload 5, 2) := by decide +kernel
theorem dX7_wordToken_74 : decode cX7_wordToken 74 = .ok (.iload 6, 2) := by decide +kernel
theorem dX7_wordToken_76 : decode cX7_wordToken 76 = .ok (.iadd, 1) := by decide +kernel
theorem dX7_wordToken_77 : decode cX7_wordToken 77 = .ok (.invokevirtual 71, 3) := by decide +kernel
theorem dX7_wordToken_80 : decode cX7_wordToken 80 = .ok (.bipush 32, 2) := by decide +kernel
theorem dX7_wordToken_82 : decode cX7_wordToken 82 = .ok (.if_icmp .ne 6, 3) := by decide +kernel
theorem dX7_wordToken_85 : decode cX7_wordToken 85 = .ok (.iload 4, 2) := by decide +kernel
theorem dX7_wordToken_87 : decode cX7_wordToken 87 = .ok (.ireturn, 1) := by decide +kernel
theorem dX7_wordToken_88 : decode cX7_wordToken 88 = .ok (.iinc 4 1, 3) := by decide +kernel
theorem dX7_wordToken_91 : decode cX7_wordToken 91 = .ok (.goto (-75), 3) := by decide +kernel
theorem dX7_wordToken_94 : decode cX7_wordToken 94 = .ok (.bipush 24, 2) := by decide +kernel
theorem dX7_wordToken_96 : decode cX7_wordToken 96 = .ok (.ireturn, 1) := by decide +kernel
set_option maxRecDepth 20000 in
theorem ggX7_signToken_J0_indexOf_0f7a4 : GoodIn wsX7_signToken wsJ0_indexOf_0f7a4 := goodIn_r _ [5, 6, 7, 8, 4, 9, 10, 11, 12, 13, 14, 15, 16, 17, 18, 19, 20, 21, 22, 23, 24, 25, 26, 27, 28, 29, 30, 31, 32, 33, 34, 35, 36, 37, 38, 39, 40, 41, 42, 43, 44, 45, 46, 47, 48, 49, 50, 51, 52, 53, 54, 55, 56, 57, 58, 59, 60, 61, 62, 63, 64, 65, 66, 67, 68, 69, 70, 71, 72, 73, 74, 75, 76, 77, 78, 79, 80, 81, 82, 83, 84, 85, 86, 87, 88, 89] (by decide +kernel) (by decide +kernel)
set_option maxRecDepth 20000 in
theorem gX7_signToken_J0_indexOf_0f7a4 : GoodIn wsX7_signToken (wsV RX7 79 RJ0 yJ0_indexOf_0f7a4 wsJ0_indexOf_0f7a4) := goodIn_app (goodIn_of _ (by decide +kernel)) ggX7_signToken_J0_indexOf_0f7a4
theorem dX7_signToken_0 : decode cX7_signToken 0 = .ok (.ldc 77, 2) := by decide +kernel
theorem dX7_signToken_2 : decode cX7_signToken 2 = .ok (.iload_n 0, 1) := by decide +kernel
theorem dX7_signToken_3 : decode cX7_signToken 3 = .ok (.i2c, 1) := by decide +kernel
theorem dX7_signToken_4 : decode cX7_signToken 4 = .ok (.invokevirtual 79, 3) := by decide +kernel
theorem dX7_signToken_7 : decode cX7_signToken 7 = .ok (.istore_n 1, 1) := by decide +kernel
theorem dX7_signToken_8 : decode cX7_signToken 8 = .ok (.iload_n 1, 1) := by decide +kernel
theorem dX7_signToken_9 : decode cX7_signToken 9 = .ok (.ifCond .ge 8, 3) := by decide +kernel
theorem dX7_signToken_12 : decode cX7_signToken 12 = .ok (.bipush 24, 2) := by decide +kernel
theorem dX7_signToken_14 : decode cX7_signToken 14 = .ok (.goto 7, 3) := by decide +kernel
theorem dX7_signToken_17 : decode cX7_signToken 17 = .ok (.bipush 15, 2) := by decide +kernel
theorem dX7_signToken_19 : decode cX7_signToken 19 = .ok (.iload_n 1, 1) := by decide +kernel
theorem dX7_signToken_20 : decode cX7_signToken 20 = .ok (.iadd, 1) := by decide +kernel
theorem dX7_signToken_21 : decode cX7_signToken 21 = .ok (.ireturn, 1) := by decide +kernel
theorem dX7_token_0 : decode cX7_token 0 = .ok (.aload_n 0, 1) := by decide +kernel
theorem dX7_token_1 : decode cX7_token 1 = .ok (.getfield 38, 3) := by decide +kernel
theorem dX7_token_4 : decode cX7_token 4 = .ok (.aload_n 0, 1) := by decide +kernel
theorem dX7_token_5 : decode cX7_token 5 = .ok (.getfield 9, 3) := by decide +kernel
theorem dX7_token_8 : decode cX7_token 8 = .ok (.arraylength, 1) := by decide +kernel
theorem dX7_token_9 : decode cX7_token 9 = .ok (.if_icmp .ge 15, 3) := by decide +kernel
theorem dX7_token_12 : decode cX7_token 12 = .ok (.aload_n 0, 1) := by decide +kernel
theorem dX7_token_13 : decode cX7_token 13 = .ok (.getfield 9, 3) := by decide +kernel
theorem dX7_token_16 : decode cX7_token 16 = .ok (.aload_n 0, 1) := by decide +kernel
theorem dX7_token_17 : decode cX7_token 17 = .ok (.getfield 38, 3) := by decide +kernel
theorem dX7_token_20 : decode cX7_token 20 = .ok (.iaload, 1) := by decide +kernel
theorem dX7_token_21 : decode cX7_token 21 = .ok (.goto 5, 3) := by decide +kernel
theorem dX7_token_24 : decode cX7_token 24 = .ok (.bipush 23, 2) := by decide +kernel
theorem dX7_token_26 : decode cX7_token 26 = .ok (.ireturn, 1) := by decide +kernel
theorem dX7_refuse_0 : decode cX7_refuse 0 = .ok (.aload_n 0, 1) := by decide +kernel
theorem dX7_refuse_1 : decode cX7_refuse 1 = .ok (.aload_n 0, 1) := by decide +kernel
theorem dX7_refuse_2 : decode cX7_refuse 2 = .ok (.getfield 38, 3) := by decide +kernel
theorem dX7_refuse_5 : decode cX7_refuse 5 = .ok (.aload_n 0, 1) := by decide +kernel
theorem dX7_refuse_6 : decode cX7_refuse 6 = .ok (.getfield 15, 3) := by decide +kernel
theorem dX7_refuse_9 : decode cX7_refuse 9 = .ok (.arraylength, 1) := by decide +kernel
theorem dX7_refuse_10 : decode cX7_refuse 10 = .ok (.if_icmp .ge 15, 3) := by decide +kernel
theorem dX7_refuse_13 : decode cX7_refuse 13 = .ok (.aload_n 0, 1) := by decide +kernel
theorem dX7_refuse_14 : decode cX7_refuse 14 = .ok (.getfield 15, 3) := by decide +kernel
theorem dX7_refuse_17 : decode cX7_refuse 17 = .ok (.aload_n 0, 1) := by decide +kernel
theorem dX7_refuse_18 : decode cX7_refuse 18 = .ok (.getfield 38, 3) := by decide +kernel
theorem dX7_refuse_21 : decode cX7_refuse 21 = .ok (.iaload, 1) := by decide +kernel
theorem dX7_refuse_22 : decode cX7_refuse 22 = .ok (.goto 6, 3) := by decide +kernel
theorem dX7_refuse_25 : decode cX7_refuse 25 = .ok (.sipush 300, 3) := by decide +kernel
theorem dX7_refuse_28 : decode cX7_refuse 28 = .ok (.putfield 42, 3) := by decide +kernel
theorem dX7_refuse_31 : decode cX7_refuse 31 = .ok (.iconst 0, 1) := by decide +kernel
theorem dX7_refuse_32 : decode cX7_refuse 32 = .ok (.ireturn, 1) := by decide +kernel
set_option maxRecDepth 20000 in
theorem ggX7_isNow_X7_token : GoodIn wsX7_isNow wsX7_token := goodIn_r _ [5, 6, 7, 14, 15, 16, 17, 18] (by decide +kernel) (by decide +kernel)
set_option maxRecDepth 20000 in
theorem gX7_isNow_X7_token : GoodIn wsX7_isNow (wsV RX7 82 RX7 yX7_token wsX7_token) := goodIn_app (goodIn_of _ (by decide +kernel)) ggX7_isNow_X7_token
set_option maxRecDepth 20000 in
theorem ggX7_isNow_X7_refuse : GoodIn wsX7_isNow wsX7_refuse := goodIn_r _ [11, 6, 12, 13, 14, 15, 16, 17, 18] (by decide +kernel) (by decide +kernel)
set_option maxRecDepth 20000 in
theorem gX7_isNow_X7_refuse : GoodIn wsX7_isNow (wsV RX7 86 RX7 yX7_refuse wsX7_refuse) := goodIn_app (goodIn_of _ (by decide +kernel)) ggX7_isNow_X7_refuse
theorem dX7_isNow_0 : decode cX7_isNow 0 = .ok (.aload_n 0, 1) := by decide +kernel
theorem dX7_isNow_1 : decode cX7_isNow 1 = .ok (.invokevirtual 82, 3) := by decide +kernel
theorem dX7_isNow_4 : decode cX7_isNow 4 = .ok (.iload_n 1, 1) := by decide +kernel
theorem dX7_isNow_5 : decode cX7_isNow 5 = .ok (.if_icmp .eq 10, 3) := by decide +kernel
theorem dX7_isNow_8 : decode cX7_isNow 8 = .ok (.aload_n 0, 1) := by decide +kernel
theorem dX7_isNow_9 : decode cX7_isNow 9 = .ok (.invokevirtual 86, 3) := by decide +kernel
theorem dX7_isNow_12 : decode cX7_isNow 12 = .ok (.ifCond .eq 7, 3) := by decide +kernel
theorem dX7_isNow_15 : decode cX7_isNow 15 = .ok (.iconst 1, 1) := by decide +kernel
theorem dX7_isNow_16 : decode cX7_isNow 16 = .ok (.goto 4, 3) := by decide +kernel
theorem dX7_isNow_19 : decode cX7_isNow 19 = .ok (.iconst 0, 1) := by decide +kernel
theorem dX7_isNow_20 : decode cX7_isNow 20 = .ok (.ireturn, 1) := by decide +kernel
set_option maxRecDepth 20000 in
theorem ggX7_take_X7_token : GoodIn wsX7_take wsX7_token := goodIn_r _ [6, 1, 7, 14, 15, 16, 17, 18] (by decide +kernel) (by decide +kernel)
set_option maxRecDepth 20000 in
theorem gX7_take_X7_token : GoodIn wsX7_take (wsV RX7 82 RX7 yX7_token wsX7_token) := goodIn_app (goodIn_of _ (by decide +kernel)) ggX7_take_X7_token
set_option maxRecDepth 20000 in
theorem ggX7_take_X7_refuse : GoodIn wsX7_take wsX7_refuse := goodIn_r _ [11, 1, 12, 13, 14, 15, 16, 17, 18] (by decide +kernel) (by decide +kernel)
set_option maxRecDepth 20000 in
theorem gX7_take_X7_refuse : GoodIn wsX7_take (wsV RX7 86 RX7 yX7_refuse wsX7_refuse) := goodIn_app (goodIn_of _ (by decide +kernel)) ggX7_take_X7_refuse
theorem dX7_take_0 : decode cX7_take 0 = .ok (.aload_n 0, 1) := by decide +kernel
theorem dX7_take_1 : decode cX7_take 1 = .ok (.invokevirtual 82, 3) := by decide +kernel
theorem dX7_take_4 : decode cX7_take 4 = .ok (.iload_n 1, 1) := by decide +kernel
theorem dX7_take_5 : decode cX7_take 5 = .ok (.if_icmp .eq 8, 3) := by decide +kernel
theorem dX7_take_8 : decode cX7_take 8 = .ok (.aload_n 0, 1) := by decide +kernel
theorem dX7_take_9 : decode cX7_take 9 = .ok (.invokevirtual 86, 3) := by decide +kernel
theorem dX7_take_12 : decode cX7_take 12 = .ok (.ireturn, 1) := by decide +kernel
theorem dX7_take_13 : decode cX7_take 13 = .ok (.aload_n 0, 1) := by decide +kernel
theorem dX7_take_14 : decode cX7_take 14 = .ok (.dup, 1) := by decide +kernel
theorem dX7_take_15 : decode cX7_take 15 = .ok (.getfield 38, 3) := by decide +kernel
theorem dX7_take_18 : decode cX7_take 18 = .ok (.iconst 1, 1) := by decide +kernel
theorem dX7_take_19 : decode cX7_take 19 = .ok (.iadd, 1) := by decide +kernel
theorem dX7_take_20 : decode cX7_take 20 = .ok (.putfield 38, 3) := by decide +kernel
theorem dX7_take_23 : decode cX7_take 23 = .ok (.iconst 1, 1) := by decide +kernel
theorem dX7_take_24 : decode cX7_take 24 = .ok (.ireturn, 1) := by decide +kernel
set_option maxRecDepth 20000 in
theorem ggX7_readStatements_X7_readStatement : GoodIn wsX7_readStatements wsX7_readStatement := goodIn_r _ [62, 12, 6, 7, 8, 5, 9, 1, 10, 45, 46, 47, 48, 49, 50, 51, 52, 53, 54, 55, 56, 57, 23, 24, 25, 26, 27, 28, 29, 30, 31, 32, 63, 64, 65, 66, 67, 68, 69, 70, 71, 72, 73, 74, 75, 76, 77, 78, 79, 80, 15, 16, 17, 18, 19, 20, 21, 22, 33, 34, 35, 36, 37, 38, 39, 40, 41, 42, 43, 44, 11, 13, 14, 58, 59, 60, 61, 0, 2, 3, 4, 81, 82, 83, 84, 85, 86, 87, 88, 89, 90, 91, 92, 93, 94, 95] (by decide +kernel) (by decide +kernel)
set_option maxRecDepth 20000 in
theorem gX7_readStatements_X7_readStatement : GoodIn wsX7_readStatements (wsV RX7 90 RX7 yX7_readStatement wsX7_readStatement) := goodIn_app (goodIn_of _ (by decide +kernel)) ggX7_readStatements_X7_readStatement
set_option maxRecDepth 20000 in
theorem ggX7_readStatements_X7_token : GoodIn wsX7_readStatements wsX7_token := goodIn_r _ [9, 1, 10, 81, 82, 83, 84, 85] (by decide +kernel) (by decide +kernel)
set_option maxRecDepth 20000 in
theorem gX7_readStatements_X7_token : GoodIn wsX7_readStatements (wsV RX7 82 RX7 yX7_token wsX7_token) := goodIn_app (goodIn_of _ (by decide +kernel)) ggX7_readStatements_X7_token
theorem dX7_readStatements_0 : decode cX7_readStatements 0 = .ok (.aload_n 0, 1) := by decide +kernel
theorem dX7_readStatements_1 : decode cX7_readStatements 1 = .ok (.iload_n 1, 1) := by decide +kernel
theorem dX7_readStatements_2 : decode cX7_readStatements 2 = .ok (.invokevirtual 90, 3) := by decide +kernel
theorem dX7_readStatements_5 : decode cX7_readStatements 5 = .ok (.istore_n 2, 1) := by decide +kernel
theorem dX7_readStatements_6 : decode cX7_readStatements 6 = .ok (.iconst 0, 1) := by decide +kernel
theorem dX7_readStatements_7 : decode cX7_readStatements 7 = .ok (.istore_n 3, 1) := by decide +kernel
theorem dX7_readStatements_8 : decode cX7_readStatements 8 = .ok (.iload_n 3, 1) := by decide +kernel
theorem dX7_readStatements_9 : decode cX7_readStatements 9 = .ok (.sipush 300, 3) := by decide +kernel
theorem dX7_readStatements_12 : decode cX7_readStatements 12 = .ok (.if_icmp .ge 38, 3) := by decide +kernel
theorem dX7_readStatements_15 : decode cX7_readStatements 15 = .ok (.iload_n 2, 1) := by decide +kernel
theorem dX7_readStatements_16 : decode cX7_readStatements 16 = .ok (.ifCond .eq 34, 3) := by decide +kernel
theorem dX7_readStatements_19 : decode cX7_readStatements 19 = .ok (.aload_n 0, 1) := by decide +kernel
theorem dX7_readStatements_20 : decode cX7_readStatements 20 = .ok (.invokevirtual 82, 3) := by decide +kernel
theorem dX7_readStatements_23 : decode cX7_readStatements 23 = .ok (.bipush 17, 2) := by decide +kernel
theorem dX7_readStatements_25 : decode cX7_readStatements 25 = .ok (.if_icmp .ne 25, 3) := by decide +kernel
theorem dX7_readStatements_28 : decode cX7_readStatements 28 = .ok (.aload_n 0, 1) := by decide +kernel
theorem dX7_readStatements_29 : decode cX7_readStatements 29 = .ok (.dup, 1) := by decide +kernel
theorem dX7_readStatements_30 : decode cX7_readStatements 30 = .ok (.getfield 38, 3) := by decide +kernel
theorem dX7_readStatements_33 : decode cX7_readStatements 33 = .ok (.iconst 1, 1) := by decide +kernel
theorem dX7_readStatements_34 : decode cX7_readStatements 34 = .ok (.iadd, 1) := by decide +kernel
theorem dX7_readStatements_35 : decode cX7_readStatements 35 = .ok (.putfield 38, 3) := by decide +kernel
theorem dX7_readStatements_38 : decode cX7_readStatements 38 = .ok (.aload_n 0, 1) := by decide +kernel
theorem dX7_readStatements_39 : decode cX7_readStatements 39 = .ok (.iload_n 1, 1) := by decide +kernel
theorem dX7_readStatements_40 : decode cX7_readStatements 40 = .ok (.invokevirtual 90, 3) := by decide +kernel
theorem dX7_readStatements_43 : decode cX7_readStatements 43 = .ok (.istore_n 2, 1) := by decide +kernel
theorem dX7_readStatements_44 : decode cX7_readStatements 44 = .ok (.iinc 3 1, 3) := by decide +kernel
theorem dX7_readStatements_47 : decode cX7_readStatements 47 = .ok (.goto (-39), 3) := by decide +kernel
theorem dX7_readStatements_50 : decode cX7_readStatements 50 = .ok (.iload_n 2, 1) := by decide +kernel
theorem dX7_readStatements_51 : decode cX7_readStatements 51 = .ok (.ireturn, 1) := by decide +kernel
set_option maxRecDepth 20000 in
theorem ggX7_readStatement_X7_token : GoodIn wsX7_readStatement wsX7_token := goodIn_r _ [6, 7, 8, 81, 82, 83, 84, 85] (by decide +kernel) (by decide +kernel)
set_option maxRecDepth 20000 in
theorem gX7_readStatement_X7_token : GoodIn wsX7_readStatement (wsV RX7 82 RX7 yX7_token wsX7_token) := goodIn_app (goodIn_of _ (by decide +kernel)) ggX7_readStatement_X7_token
set_option maxRecDepth 20000 in
theorem ggX7_readStatement_X6_add : GoodIn wsX7_readStatement wsX6_add := goodIn_r _ [13, 14, 15, 16, 17, 18, 19, 20, 21, 86, 87, 88, 89, 90, 91, 92, 93, 94, 95] (by decide +kernel) (by decide +kernel)
set_option maxRecDepth 20000 in
theorem gX7_readStatement_X6_add : GoodIn wsX7_readStatement (wsV RX7 93 RX6 yX6_add wsX6_add) := goodIn_app (goodIn_of _ (by decide +kernel)) ggX7_readStatement_X6_add
set_option maxRecDepth 20000 in
theorem ggX7_readStatement_X7_take : GoodIn wsX7_readStatement wsX7_take := goodIn_r _ [25, 7, 2, 3, 4, 5, 6, 8, 26, 27, 28, 29, 30, 31, 81, 82, 83, 84, 85] (by decide +kernel) (by decide +kernel)
set_option maxRecDepth 20000 in
theorem gX7_readStatement_X7_take : GoodIn wsX7_readStatement (wsV RX7 97 RX7 yX7_take wsX7_take) := goodIn_app (goodIn_of _ (by decide +kernel)) ggX7_readStatement_X7_take
set_option maxRecDepth 20000 in
theorem ggX7_readStatement_X6_addPlace : GoodIn wsX7_readStatement wsX6_addPlace := goodIn_r _ [35, 36, 37, 14, 38, 39, 10, 11, 12, 13, 15, 16, 17, 18, 19, 20, 21, 86, 87, 88, 89, 90, 91, 92, 93, 94, 95] (by decide +kernel) (by decide +kernel)
set_option maxRecDepth 20000 in
theorem gX7_readStatement_X6_addPlace : GoodIn wsX7_readStatement (wsV RX7 100 RX6 yX6_addPlace wsX6_addPlace) := goodIn_app (goodIn_of _ (by decide +kernel)) ggX7_readStatement_X6_addPlace
set_option maxRecDepth 20000 in
theorem ggX7_readStatement_X7_refuse : GoodIn wsX7_readStatement wsX7_refuse := goodIn_r _ [29, 7, 30, 31, 81, 82, 83, 84, 85] (by decide +kernel) (by decide +kernel)
set_option maxRecDepth 20000 in
theorem gX7_readStatement_X7_refuse : GoodIn wsX7_readStatement (wsV RX7 86 RX7 yX7_refuse wsX7_refuse) := goodIn_app (goodIn_of _ (by decide +kernel)) ggX7_readStatement_X7_refuse
set_option maxRecDepth 20000 in
theorem ggX7_readStatement_X7_readChoice : GoodIn wsX7_readStatement wsX7_readChoice := goodIn_r _ [70, 7, 1, 71, 72, 50, 51, 52, 5, 53, 54, 55, 56, 2, 3, 4, 6, 8, 57, 22, 23, 24, 25, 26, 27, 28, 29, 30, 31, 58, 59, 60, 61, 62, 63, 64, 65, 66, 67, 68, 69, 9, 10, 11, 12, 13, 14, 15, 16, 17, 18, 19, 20, 21, 73, 74, 75, 76, 0, 32, 33, 34, 35, 36, 37, 38, 39, 40, 41, 42, 43, 44, 45, 46, 47, 48, 49, 77, 78, 79, 80, 81, 82, 83, 84, 85, 86, 87, 88, 89, 90, 91, 92, 93, 94, 95] (by decide +kernel) (by decide +kernel)
set_option maxRecDepth 20000 in
theorem gX7_readStatement_X7_readChoice : GoodIn wsX7_readStatement (wsV RX7 103 RX7 yX7_readChoice wsX7_readChoice) := goodIn_app (goodIn_of _ (by decide +kernel)) ggX7_readStatement_X7_readChoice
set_option maxRecDepth 20000 in
theorem ggX7_readStatement_X7_readLoop : GoodIn wsX7_readStatement wsX7_readLoop := goodIn_r _ [76, 7, 1, 71, 72, 50, 51, 52, 5, 53, 54, 55, 56, 2, 3, 4, 6, 8, 57, 22, 23, 24, 25, 26, 27, 28, 29, 30, 31, 58, 59, 60, 61, 62, 63, 64, 65, 66, 67, 68, 69, 9, 10, 11, 12, 13, 14, 15, 16, 17, 18, 19, 20, 21, 73, 74, 75, 70, 0, 32, 33, 34, 35, 36, 37, 38, 39, 40, 41, 42, 43, 44, 45, 46, 47, 48, 49, 77, 78, 79, 80, 81, 82, 83, 84, 85, 86, 87, 88, 89, 90, 91, 92, 93, 94, 95] (by decide +kernel) (by decide +kernel)
set_option maxRecDepth 20000 in
theorem gX7_readStatement_X7_readLoop : GoodIn wsX7_readStatement (wsV RX7 106 RX7 yX7_readLoop wsX7_readLoop) := goodIn_app (goodIn_of _ (by decide +kernel)) ggX7_readStatement_X7_readLoop
set_option maxRecDepth 20000 in
theorem ggX7_readStatement_X7_readWant : GoodIn wsX7_readStatement wsX7_readWant := goodIn_r _ [49, 7, 1, 50, 51, 52, 5, 53, 54, 55, 56, 2, 3, 4, 6, 8, 57, 22, 23, 24, 25, 26, 27, 28, 29, 30, 31, 58, 59, 60, 61, 62, 63, 64, 65, 66, 67, 68, 69, 9, 10, 11, 12, 13, 14, 15, 16, 17, 18, 19, 20, 21, 81, 82, 83, 84, 85, 86, 87, 88, 89, 90, 91, 92, 93, 94, 95] (by decide +kernel) (by decide +kernel)
set_option maxRecDepth 20000 in
theorem gX7_readStatement_X7_readWant : GoodIn wsX7_readStatement (wsV RX7 109 RX7 yX7_readWant wsX7_readWant) := goodIn_app (goodIn_of _ (by decide +kernel)) ggX7_readStatement_X7_readWant
theorem dX7_readStatement_0 : decode cX7_readStatement 0 = .ok (.aload_n 0, 1) := by decide +kernel
theorem dX7_readStatement_1 : decode cX7_readStatement 1 = .ok (.invokevirtual 82, 3) := by decide +kernel
theorem dX7_readStatement_4 : decode cX7_readStatement 4 = .ok (.tableswitch 196 0 14 #[76, 95, 148, 196, 196, 196, 169, 196, 196, 190, 196, 196, 113, 113, 113], 76) := by decide +kernel
theorem dX7_readStatement_80 : decode cX7_readStatement 80 = .ok (.aload_n 0, 1) := by decide +kernel
theorem dX7_readStatement_81 : decode cX7_readStatement 81 = .ok (.getfield 21, 3) := by decide +kernel
theorem dX7_readStatement_84 : decode cX7_readStatement 84 = .ok (.iconst 0, 1) := by decide +kernel
theorem dX7_readStatement_85 : decode cX7_readStatement 85 = .ok (.bipush 15, 2) := by decide +kernel
theorem dX7_readStatement_87 : decode cX7_readStatement 87 = .ok (.bipush (-9), 2) := by decide +kernel
theorem dX7_readStatement_89 : decode cX7_readStatement 89 = .ok (.invokevirtual 93, 3) := by decide +kernel
theorem dX7_readStatement_92 : decode cX7_readStatement 92 = .ok (.pop, 1) := by decide +kernel
theorem dX7_readStatement_93 : decode cX7_readStatement 93 = .ok (.aload_n 0, 1) := by decide +kernel
theorem dX7_readStatement_94 : decode cX7_readStatement 94 = .ok (.iconst 0, 1) := by decide +kernel
theorem dX7_readStatement_95 : decode cX7_readStatement 95 = .ok (.invokevirtual 97, 3) := by decide +kernel
theorem dX7_readStatement_98 : decode cX7_readStatement 98 = .ok (.ireturn, 1) := by decide +kernel
theorem dX7_readStatement_99 : decode cX7_readStatement 99 = .ok (.aload_n 0, 1) := by decide +kernel
theorem dX7_readStatement_100 : decode cX7_readStatement 100 = .ok (.getfield 21, 3) := by decide +kernel
theorem dX7_readStatement_103 : decode cX7_readStatement 103 = .ok (.iconst 0, 1) := by decide +kernel
theorem dX7_readStatement_104 : decode cX7_readStatement 104 = .ok (.iconst 0, 1) := by decide +kernel
theorem dX7_readStatement_105 : decode cX7_readStatement 105 = .ok (.bipush (-9), 2) := by decide +kernel
theorem dX7_readStatement_107 : decode cX7_readStatement 107 = .ok (.invokevirtual 93, 3) := by decide +kernel
theorem dX7_readStatement_110 : decode cX7_readStatement 110 = .ok (.pop, 1) := by decide +kernel
theorem dX7_readStatement_111 : decode cX7_readStatement 111 = .ok (.aload_n 0, 1) := by decide +kernel
theorem dX7_readStatement_112 : decode cX7_readStatement 112 = .ok (.iconst 1, 1) := by decide +kernel
theorem dX7_readStatement_113 : decode cX7_readStatement 113 = .ok (.invokevirtual 97, 3) := by decide +kernel
theorem dX7_readStatement_116 : decode cX7_readStatement 116 = .ok (.ireturn, 1) := by decide +kernel
theorem dX7_readStatement_117 : decode cX7_readStatement 117 = .ok (.aload_n 0, 1) := by decide +kernel
theorem dX7_readStatement_118 : decode cX7_readStatement 118 = .ok (.getfield 21, 3) := by decide +kernel
theorem dX7_readStatement_121 : decode cX7_readStatement 121 = .ok (.aload_n 0, 1) := by decide +kernel
theorem dX7_readStatement_122 : decode cX7_readStatement 122 = .ok (.invokevirtual 82, 3) := by decide +kernel
theorem dX7_readStatement_125 : decode cX7_readStatement 125 = .ok (.bipush 12, 2) := by decide +kernel
theorem dX7_readStatement_127 : decode cX7_readStatement 127 = .ok (.isub, 1) := by decide +kernel
theorem dX7_readStatement_128 : decode cX7_readStatement 128 = .ok (.iconst 1, 1) := by decide +kernel
theorem dX7_readStatement_129 : decode cX7_readStatement 129 = .ok (.iadd, 1) := by decide +kernel
theorem dX7_readStatement_130 : decode cX7_readStatement 130 = .ok (.invokevirtual 100, 3) := by decide +kernel
theorem dX7_readStatement_133 : decode cX7_readStatement 133 = .ok (.ifCond .eq 14, 3) := by decide +kernel
theorem dX7_readStatement_136 : decode cX7_readStatement 136 = .ok (.aload_n 0, 1) := by decide +kernel
theorem dX7_readStatement_137 : decode cX7_readStatement 137 = .ok (.aload_n 0, 1) := by decide +kernel
theorem dX7_readStatement_138 : decode cX7_readStatement 138 = .ok (.invokevirtual 82, 3) := by decide +kernel
theorem dX7_readStatement_141 : decode cX7_readStatement 141 = .ok (.invokevirtual 97, 3) := by decide +kernel
theorem dX7_readStatement_144 : decode cX7_readStatement 144 = .ok (.goto 7, 3) := by decide +kernel
theorem dX7_readStatement_147 : decode cX7_readStatement 147 = .ok (.aload_n 0, 1) := by decide +kernel
theorem dX7_readStatement_148 : decode cX7_readStatement 148 = .ok (.invokevirtual 86, 3) := by decide +kernel
theorem dX7_readStatement_151 : decode cX7_readStatement 151 = .ok (.ireturn, 1) := by decide +kernel
theorem dX7_readStatement_152 : decode cX7_readStatement 152 = .ok (.iload_n 1, 1) := by decide +kernel
theorem dX7_readStatement_153 : decode cX7_readStatement 153 = .ok (.bipush 8, 2) := by decide +kernel
theorem dX7_readStatement_155 : decode cX7_readStatement 155 = .ok (.if_icmp .ge 13, 3) := by decide +kernel
theorem dX7_readStatement_158 : decode cX7_readStatement 158 = .ok (.aload_n 0, 1) := by decide +kernel
theorem dX7_readStatement_159 : decode cX7_readStatement 159 = .ok (.iload_n 1, 1) := by decide +kernel
theorem dX7_readStatement_160 : decode cX7_readStatement 160 = .ok (.iconst 1, 1) := by decide +kernel
theorem dX7_readStatement_161 : decode cX7_readStatement 161 = .ok (.iadd, 1) := by decide +kernel
theorem dX7_readStatement_162 : decode cX7_readStatement 162 = .ok (.invokevirtual 103, 3) := by decide +kernel
theorem dX7_readStatement_165 : decode cX7_readStatement 165 = .ok (.goto 7, 3) := by decide +kernel
theorem dX7_readStatement_168 : decode cX7_readStatement 168 = .ok (.aload_n 0, 1) := by decide +kernel
theorem dX7_readStatement_169 : decode cX7_readStatement 169 = .ok (.invokevirtual 86, 3) := by decide +kernel
theorem dX7_readStatement_172 : decode cX7_readStatement 172 = .ok (.ireturn, 1) := by decide +kernel
theorem dX7_readStatement_173 : decode cX7_readStatement 173 = .ok (.iload_n 1, 1) := by decide +kernel
theorem dX7_readStatement_174 : decode cX7_readStatement 174 = .ok (.bipush 8, 2) := by decide +kernel
theorem dX7_readStatement_176 : decode cX7_readStatement 176 = .ok (.if_icmp .ge 13, 3) := by decide +kernel
theorem dX7_readStatement_179 : decode cX7_readStatement 179 = .ok (.aload_n 0, 1) := by decide +kernel
theorem dX7_readStatement_180 : decode cX7_readStatement 180 = .ok (.iload_n 1, 1) := by decide +kernel
theorem dX7_readStatement_181 : decode cX7_readStatement 181 = .ok (.iconst 1, 1) := by decide +kernel
theorem dX7_readStatement_182 : decode cX7_readStatement 182 = .ok (.iadd, 1) := by decide +kernel
theorem dX7_readStatement_183 : decode cX7_readStatement 183 = .ok (.invokevirtual 106, 3) := by decide +kernel
theorem dX7_readStatement_186 : decode cX7_readStatement 186 = .ok (.goto 7, 3) := by decide +kernel
theorem dX7_readStatement_189 : decode cX7_readStatement 189 = .ok (.aload_n 0, 1) := by decide +kernel
theorem dX7_readStatement_190 : decode cX7_readStatement 190 = .ok (.invokevirtual 86, 3) := by decide +kernel
theorem dX7_readStatement_193 : decode cX7_readStatement 193 = .ok (.ireturn, 1) := by decide +kernel
theorem dX7_readStatement_194 : decode cX7_readStatement 194 = .ok (.aload_n 0, 1) := by decide +kernel
theorem dX7_readStatement_195 : decode cX7_readStatement 195 = .ok (.iload_n 1, 1) := by decide +kernel
theorem dX7_readStatement_196 : decode cX7_readStatement 196 = .ok (.invokevirtual 109, 3) := by decide +kernel
theorem dX7_readStatement_199 : decode cX7_readStatement 199 = .ok (.ireturn, 1) := by decide +kernel
theorem dX7_readStatement_200 : decode cX7_readStatement 200 = .ok (.aload_n 0, 1) := by decide +kernel
theorem dX7_readStatement_201 : decode cX7_readStatement 201 = .ok (.invokevirtual 86, 3) := by decide +kernel
theorem dX7_readStatement_204 : decode cX7_readStatement 204 = .ok (.ireturn, 1) := by decide +kernel
set_option maxRecDepth 20000 in
theorem ggX7_readChoice_X7_readTest : GoodIn wsX7_readChoice wsX7_readTest := goodIn_r _ [9, 1, 10, 11, 12, 8, 13, 14, 15, 16, 17, 18, 5, 6, 7, 19, 20, 21, 22, 23, 24, 25, 26, 27, 28, 29, 30, 31, 32, 33, 34, 35, 36, 37, 38, 39, 40, 81, 82, 83, 84, 85] (by decide +kernel) (by decide +kernel)
set_option maxRecDepth 20000 in
theorem gX7_readChoice_X7_readTest : GoodIn wsX7_readChoice (wsV RX7 112 RX7 yX7_readTest wsX7_readTest) := goodIn_app (goodIn_of _ (by decide +kernel)) ggX7_readChoice_X7_readTest
set_option maxRecDepth 20000 in
theorem ggX7_readChoice_X7_take : GoodIn wsX7_readChoice wsX7_take := goodIn_r _ [22, 1, 13, 14, 15, 8, 16, 17, 23, 24, 25, 26, 27, 28, 81, 82, 83, 84, 85] (by decide +kernel) (by decide +kernel)
set_option maxRecDepth 20000 in
theorem gX7_readChoice_X7_take : GoodIn wsX7_readChoice (wsV RX7 97 RX7 yX7_take wsX7_take) := goodIn_app (goodIn_of _ (by decide +kernel)) ggX7_readChoice_X7_take
set_option maxRecDepth 20000 in
theorem ggX7_readChoice_X6_add : GoodIn wsX7_readChoice wsX6_add := goodIn_r _ [45, 46, 47, 48, 49, 50, 51, 52, 53, 86, 87, 88, 89, 90, 91, 92, 93, 94, 95] (by decide +kernel) (by decide +kernel)
set_option maxRecDepth 20000 in
theorem gX7_readChoice_X6_add : GoodIn wsX7_readChoice (wsV RX7 93 RX6 yX6_add wsX6_add) := goodIn_app (goodIn_of _ (by decide +kernel)) ggX7_readChoice_X6_add
set_option maxRecDepth 20000 in
theorem ggX7_readChoice_X7_readStatements : GoodIn wsX7_readChoice wsX7_readStatements := goodIn_r _ [77, 1, 78, 79, 80, 8, 13, 14, 15, 16, 17, 0, 2, 3, 4, 5, 6, 7, 9, 10, 11, 12, 18, 19, 20, 21, 22, 23, 24, 25, 26, 27, 28, 29, 30, 31, 32, 33, 34, 35, 36, 37, 38, 39, 40, 41, 42, 43, 44, 45, 46, 47, 48, 49, 50, 51, 52, 53, 54, 55, 56, 57, 58, 59, 60, 61, 62, 63, 64, 65, 66, 67, 68, 69, 70, 71, 72, 73, 74, 75, 76, 81, 82, 83, 84, 85, 86, 87, 88, 89, 90, 91, 92, 93, 94, 95] (by decide +kernel) (by decide +kernel)
set_option maxRecDepth 20000 in
theorem gX7_readChoice_X7_readStatements : GoodIn wsX7_readChoice (wsV RX7 45 RX7 yX7_readStatements wsX7_readStatements) := goodIn_app (goodIn_of _ (by decide +kernel)) ggX7_readChoice_X7_readStatements
set_option maxRecDepth 20000 in
theorem ggX7_readChoice_X7_token : GoodIn wsX7_readChoice wsX7_token := goodIn_r _ [16, 1, 17, 81, 82, 83, 84, 85] (by decide +kernel) (by decide +kernel)
set_option maxRecDepth 20000 in
theorem gX7_readChoice_X7_token : GoodIn wsX7_readChoice (wsV RX7 82 RX7 yX7_token wsX7_token) := goodIn_app (goodIn_of _ (by decide +kernel)) ggX7_readChoice_X7_token
theorem dX7_readChoice_0 : decode cX7_readChoice 0 = .ok (.aload_n 0, 1) := by decide +kernel
theorem dX7_readChoice_1 : decode cX7_readChoice 1 = .ok (.dup, 1) := by decide +kernel
theorem dX7_readChoice_2 : decode cX7_readChoice 2 = .ok (.getfield 38, 3) := by decide +kernel
theorem dX7_readChoice_5 : decode cX7_readChoice 5 = .ok (.iconst 1, 1) := by decide +kernel
theorem dX7_readChoice_6 : decode cX7_readChoice 6 = .ok (.iadd, 1) := by decide +kernel
theorem dX7_readChoice_7 : decode cX7_readChoice 7 = .ok (.putfield 38, 3) := by decide +kernel
theorem dX7_readChoice_10 : decode cX7_readChoice 10 = .ok (.aload_n 0, 1) := by decide +kernel
theorem dX7_readChoice_11 : decode cX7_readChoice 11 = .ok (.iload_n 1, 1) := by decide +kernel
theorem dX7_readChoice_12 : decode cX7_readChoice 12 = .ok (.invokevirtual 112, 3) := by decide +kernel
theorem dX7_readChoice_15 : decode cX7_readChoice 15 = .ok (.istore_n 2, 1) := by decide +kernel
theorem dX7_readChoice_16 : decode cX7_readChoice 16 = .ok (.iload_n 2, 1) := by decide +kernel
theorem dX7_readChoice_17 : decode cX7_readChoice 17 = .ok (.iconst (-1), 1) := by decide +kernel
theorem dX7_readChoice_18 : decode cX7_readChoice 18 = .ok (.if_icmp .eq 11, 3) := by decide +kernel
theorem dX7_readChoice_21 : decode cX7_readChoice 21 = .ok (.aload_n 0, 1) := by decide +kernel
theorem dX7_readChoice_22 : decode cX7_readChoice 22 = .ok (.iconst 3, 1) := by decide +kernel
theorem dX7_readChoice_23 : decode cX7_readChoice 23 = .ok (.invokevirtual 97, 3) := by decide +kernel
theorem dX7_readChoice_26 : decode cX7_readChoice 26 = .ok (.ifCond .ne 5, 3) := by decide +kernel
theorem dX7_readChoice_29 : decode cX7_readChoice 29 = .ok (.iconst 0, 1) := by decide +kernel
theorem dX7_readChoice_30 : decode cX7_readChoice 30 = .ok (.ireturn, 1) := by decide +kernel
theorem dX7_readChoice_31 : decode cX7_readChoice 31 = .ok (.aload_n 0, 1) := by decide +kernel
theorem dX7_readChoice_32 : decode cX7_readChoice 32 = .ok (.getfield 21, 3) := by decide +kernel
theorem dX7_readChoice_35 : decode cX7_readChoice 35 = .ok (.iconst 2, 1) := by decide +kernel
theorem dX7_readChoice_36 : decode cX7_readChoice 36 = .ok (.iload_n 2, 1) := by decide +kernel
theorem dX7_readChoice_37 : decode cX7_readChoice 37 = .ok (.bipush (-9), 2) := by decide +kernel
theorem dX7_readChoice_39 : decode cX7_readChoice 39 = .ok (.invokevirtual 93, 3) := by decide +kernel
theorem dX7_readChoice_42 : decode cX7_readChoice 42 = .ok (.istore_n 3, 1) := by decide +kernel
theorem dX7_readChoice_43 : decode cX7_readChoice 43 = .ok (.aload_n 0, 1) := by decide +kernel
theorem dX7_readChoice_44 : decode cX7_readChoice 44 = .ok (.iload_n 1, 1) := by decide +kernel
theorem dX7_readChoice_45 : decode cX7_readChoice 45 = .ok (.invokevirtual 45, 3) := by decide +kernel
theorem dX7_readChoice_48 : decode cX7_readChoice 48 = .ok (.ifCond .ne 5, 3) := by decide +kernel
theorem dX7_readChoice_51 : decode cX7_readChoice 51 = .ok (.iconst 0, 1) := by decide +kernel
theorem dX7_readChoice_52 : decode cX7_readChoice 52 = .ok (.ireturn, 1) := by decide +kernel
theorem dX7_readChoice_53 : decode cX7_readChoice 53 = .ok (.aload_n 0, 1) := by decide +kernel
theorem dX7_readChoice_54 : decode cX7_readChoice 54 = .ok (.invokevirtual 82, 3) := by decide +kernel
theorem dX7_readChoice_57 : decode cX7_readChoice 57 = .ok (.iconst 4, 1) := by decide +kernel
theorem dX7_readChoice_58 : decode cX7_readChoice 58 = .ok (.if_icmp .ne 72, 3) := by decide +kernel
theorem dX7_readChoice_61 : decode cX7_readChoice 61 = .ok (.aload_n 0, 1) := by decide +kernel
theorem dX7_readChoice_62 : decode cX7_readChoice 62 = .ok (.dup, 1) := by decide +kernel
theorem dX7_readChoice_63 : decode cX7_readChoice 63 = .ok (.getfield 38, 3) := by decide +kernel
theorem dX7_readChoice_66 : decode cX7_readChoice 66 = .ok (.iconst 1, 1) := by decide +kernel
theorem dX7_readChoice_67 : decode cX7_readChoice 67 = .ok (.iadd, 1) := by decide +kernel
theorem dX7_readChoice_68 : decode cX7_readChoice 68 = .ok (.putfield 38, 3) := by decide +kernel
theorem dX7_readChoice_71 : decode cX7_readChoice 71 = .ok (.aload_n 0, 1) := by decide +kernel
theorem dX7_readChoice_72 : decode cX7_readChoice 72 = .ok (.getfield 21, 3) := by decide +kernel
theorem dX7_readChoice_75 : decode cX7_readChoice 75 = .ok (.iconst 5, 1) := by decide +kernel
theorem dX7_readChoice_76 : decode cX7_readChoice 76 = .ok (.iconst 0, 1) := by decide +kernel
theorem dX7_readChoice_77 : decode cX7_readChoice 77 = .ok (.bipush (-9), 2) := by decide +kernel
theorem dX7_readChoice_79 : decode cX7_readChoice 79 = .ok (.invokevirtual 93, 3) := by decide +kernel
theorem dX7_readChoice_82 : decode cX7_readChoice 82 = .ok (.istore 4, 2) := by decide +kernel
theorem dX7_readChoice_84 : decode cX7_readChoice 84 = .ok (.aload_n 0, 1) := by decide +kernel
theorem dX7_readChoice_85 : decode cX7_readChoice 85 = .ok (.getfield 21, 3) := by decide +kernel
theorem dX7_readChoice_88 : decode cX7_readChoice 88 = .ok (.getfield 115, 3) := by decide +kernel
theorem dX7_readChoice_91 : decode cX7_readChoice 91 = .ok (.iload_n 3, 1) := by decide +kernel
theorem dX7_readChoice_92 : decode cX7_readChoice 92 = .ok (.aload_n 0, 1) := by decide +kernel
theorem dX7_readChoice_93 : decode cX7_readChoice 93 = .ok (.getfield 21, 3) := by decide +kernel
theorem dX7_readChoice_96 : decode cX7_readChoice 96 = .ok (.getfield 118, 3) := by decide +kernel
theorem dX7_readChoice_99 : decode cX7_readChoice 99 = .ok (.iastore, 1) := by decide +kernel
theorem dX7_readChoice_100 : decode cX7_readChoice 100 = .ok (.aload_n 0, 1) := by decide +kernel
theorem dX7_readChoice_101 : decode cX7_readChoice 101 = .ok (.iload_n 1, 1) := by decide +kernel
theorem dX7_readChoice_102 : decode cX7_readChoice 102 = .ok (.invokevirtual 45, 3) := by decide +kernel
theorem dX7_readChoice_105 : decode cX7_readChoice 105 = .ok (.ifCond .ne 5, 3) := by decide +kernel
theorem dX7_readChoice_108 : decode cX7_readChoice 108 = .ok (.iconst 0, 1) := by decide +kernel
theorem dX7_readChoice_109 : decode cX7_readChoice 109 = .ok (.ireturn, 1) := by decide +kernel
theorem dX7_readChoice_110 : decode cX7_readChoice 110 = .ok (.aload_n 0, 1) := by decide +kernel
theorem dX7_readChoice_111 : decode cX7_readChoice 111 = .ok (.getfield 21, 3) := by decide +kernel
theorem dX7_readChoice_114 : decode cX7_readChoice 114 = .ok (.getfield 115, 3) := by decide +kernel
theorem dX7_readChoice_117 : decode cX7_readChoice 117 = .ok (.iload 4, 2) := by decide +kernel
theorem dX7_readChoice_119 : decode cX7_readChoice 119 = .ok (.aload_n 0, 1) := by decide +kernel
theorem dX7_readChoice_120 : decode cX7_readChoice 120 = .ok (.getfield 21, 3) := by decide +kernel
theorem dX7_readChoice_123 : decode cX7_readChoice 123 = .ok (.getfield 118, 3) := by decide +kernel
theorem dX7_readChoice_126 : decode cX7_readChoice 126 = .ok (.iastore, 1) := by decide +kernel
theorem dX7_readChoice_127 : decode cX7_readChoice 127 = .ok (.goto 19, 3) := by decide +kernel
theorem dX7_readChoice_130 : decode cX7_readChoice 130 = .ok (.aload_n 0, 1) := by decide +kernel
theorem dX7_readChoice_131 : decode cX7_readChoice 131 = .ok (.getfield 21, 3) := by decide +kernel
theorem dX7_readChoice_134 : decode cX7_readChoice 134 = .ok (.getfield 115, 3) := by decide +kernel
theorem dX7_readChoice_137 : decode cX7_readChoice 137 = .ok (.iload_n 3, 1) := by decide +kernel
theorem dX7_readChoice_138 : decode cX7_readChoice 138 = .ok (.aload_n 0, 1) := by decide +kernel
theorem dX7_readChoice_139 : decode cX7_readChoice 139 = .ok (.getfield 21, 3) := by decide +kernel
theorem dX7_readChoice_142 : decode cX7_readChoice 142 = .ok (.getfield 118, 3) := by decide +kernel
theorem dX7_readChoice_145 : decode cX7_readChoice 145 = .ok (.iastore, 1) := by decide +kernel
theorem dX7_readChoice_146 : decode cX7_readChoice 146 = .ok (.aload_n 0, 1) := by decide +kernel
theorem dX7_readChoice_147 : decode cX7_readChoice 147 = .ok (.iconst 5, 1) := by decide +kernel
