theorem dX7_readChoice_148 : decode cX7_readChoice 148 = .ok (.invokevirtual 97, 3) := by decide +kernel
theorem dX7_readChoice_151 : decode cX7_readChoice 151 = .ok (.ireturn, 1) := by decide +kernel
set_option maxRecDepth 20000 in
theorem ggX7_readLoop_X7_readTest : GoodIn wsX7_readLoop wsX7_readTest := goodIn_r _ [9, 1, 10, 11, 12, 8, 13, 14, 15, 16, 17, 18, 5, 6, 7, 19, 20, 21, 22, 23, 24, 25, 26, 27, 28, 29, 30, 31, 32, 33, 34, 35, 36, 37, 38, 39, 40, 81, 82, 83, 84, 85] (by decide +kernel) (by decide +kernel)
set_option maxRecDepth 20000 in
theorem gX7_readLoop_X7_readTest : GoodIn wsX7_readLoop (wsV RX7 112 RX7 yX7_readTest wsX7_readTest) := goodIn_app (goodIn_of _ (by decide +kernel)) ggX7_readLoop_X7_readTest
set_option maxRecDepth 20000 in
theorem ggX7_readLoop_X7_take : GoodIn wsX7_readLoop wsX7_take := goodIn_r _ [22, 1, 13, 14, 15, 8, 16, 17, 23, 24, 25, 26, 27, 28, 81, 82, 83, 84, 85] (by decide +kernel) (by decide +kernel)
set_option maxRecDepth 20000 in
theorem gX7_readLoop_X7_take : GoodIn wsX7_readLoop (wsV RX7 97 RX7 yX7_take wsX7_take) := goodIn_app (goodIn_of _ (by decide +kernel)) ggX7_readLoop_X7_take
set_option maxRecDepth 20000 in
theorem ggX7_readLoop_X6_add : GoodIn wsX7_readLoop wsX6_add := goodIn_r _ [45, 46, 47, 48, 49, 50, 51, 52, 53, 86, 87, 88, 89, 90, 91, 92, 93, 94, 95] (by decide +kernel) (by decide +kernel)
set_option maxRecDepth 20000 in
theorem gX7_readLoop_X6_add : GoodIn wsX7_readLoop (wsV RX7 93 RX6 yX6_add wsX6_add) := goodIn_app (goodIn_of _ (by decide +kernel)) ggX7_readLoop_X6_add
set_option maxRecDepth 20000 in
theorem ggX7_readLoop_X7_readStatements : GoodIn wsX7_readLoop wsX7_readStatements := goodIn_r _ [77, 1, 78, 79, 80, 8, 13, 14, 15, 16, 17, 57, 2, 3, 4, 5, 6, 7, 9, 10, 11, 12, 18, 19, 20, 21, 22, 23, 24, 25, 26, 27, 28, 29, 30, 31, 32, 33, 34, 35, 36, 37, 38, 39, 40, 41, 42, 43, 44, 45, 46, 47, 48, 49, 50, 51, 52, 53, 54, 55, 56, 0, 58, 59, 60, 61, 62, 63, 64, 65, 66, 67, 68, 69, 70, 71, 72, 73, 74, 75, 76, 81, 82, 83, 84, 85, 86, 87, 88, 89, 90, 91, 92, 93, 94, 95] (by decide +kernel) (by decide +kernel)
set_option maxRecDepth 20000 in
theorem gX7_readLoop_X7_readStatements : GoodIn wsX7_readLoop (wsV RX7 45 RX7 yX7_readStatements wsX7_readStatements) := goodIn_app (goodIn_of _ (by decide +kernel)) ggX7_readLoop_X7_readStatements
theorem dX7_readLoop_0 : decode cX7_readLoop 0 = .ok (.aload_n 0, 1) := by decide +kernel
theorem dX7_readLoop_1 : decode cX7_readLoop 1 = .ok (.dup, 1) := by decide +kernel
theorem dX7_readLoop_2 : decode cX7_readLoop 2 = .ok (.getfield 38, 3) := by decide +kernel
theorem dX7_readLoop_5 : decode cX7_readLoop 5 = .ok (.iconst 1, 1) := by decide +kernel
theorem dX7_readLoop_6 : decode cX7_readLoop 6 = .ok (.iadd, 1) := by decide +kernel
theorem dX7_readLoop_7 : decode cX7_readLoop 7 = .ok (.putfield 38, 3) := by decide +kernel
theorem dX7_readLoop_10 : decode cX7_readLoop 10 = .ok (.aload_n 0, 1) := by decide +kernel
theorem dX7_readLoop_11 : decode cX7_readLoop 11 = .ok (.iload_n 1, 1) := by decide +kernel
theorem dX7_readLoop_12 : decode cX7_readLoop 12 = .ok (.invokevirtual 112, 3) := by decide +kernel
theorem dX7_readLoop_15 : decode cX7_readLoop 15 = .ok (.istore_n 2, 1) := by decide +kernel
theorem dX7_readLoop_16 : decode cX7_readLoop 16 = .ok (.iload_n 2, 1) := by decide +kernel
theorem dX7_readLoop_17 : decode cX7_readLoop 17 = .ok (.iconst (-1), 1) := by decide +kernel
theorem dX7_readLoop_18 : decode cX7_readLoop 18 = .ok (.if_icmp .eq 12, 3) := by decide +kernel
theorem dX7_readLoop_21 : decode cX7_readLoop 21 = .ok (.aload_n 0, 1) := by decide +kernel
theorem dX7_readLoop_22 : decode cX7_readLoop 22 = .ok (.bipush 7, 2) := by decide +kernel
theorem dX7_readLoop_24 : decode cX7_readLoop 24 = .ok (.invokevirtual 97, 3) := by decide +kernel
theorem dX7_readLoop_27 : decode cX7_readLoop 27 = .ok (.ifCond .ne 5, 3) := by decide +kernel
theorem dX7_readLoop_30 : decode cX7_readLoop 30 = .ok (.iconst 0, 1) := by decide +kernel
theorem dX7_readLoop_31 : decode cX7_readLoop 31 = .ok (.ireturn, 1) := by decide +kernel
theorem dX7_readLoop_32 : decode cX7_readLoop 32 = .ok (.aload_n 0, 1) := by decide +kernel
theorem dX7_readLoop_33 : decode cX7_readLoop 33 = .ok (.getfield 21, 3) := by decide +kernel
theorem dX7_readLoop_36 : decode cX7_readLoop 36 = .ok (.iconst 3, 1) := by decide +kernel
theorem dX7_readLoop_37 : decode cX7_readLoop 37 = .ok (.iload_n 2, 1) := by decide +kernel
theorem dX7_readLoop_38 : decode cX7_readLoop 38 = .ok (.bipush (-9), 2) := by decide +kernel
theorem dX7_readLoop_40 : decode cX7_readLoop 40 = .ok (.invokevirtual 93, 3) := by decide +kernel
theorem dX7_readLoop_43 : decode cX7_readLoop 43 = .ok (.istore_n 3, 1) := by decide +kernel
theorem dX7_readLoop_44 : decode cX7_readLoop 44 = .ok (.aload_n 0, 1) := by decide +kernel
theorem dX7_readLoop_45 : decode cX7_readLoop 45 = .ok (.iload_n 1, 1) := by decide +kernel
theorem dX7_readLoop_46 : decode cX7_readLoop 46 = .ok (.invokevirtual 45, 3) := by decide +kernel
theorem dX7_readLoop_49 : decode cX7_readLoop 49 = .ok (.ifCond .ne 5, 3) := by decide +kernel
theorem dX7_readLoop_52 : decode cX7_readLoop 52 = .ok (.iconst 0, 1) := by decide +kernel
theorem dX7_readLoop_53 : decode cX7_readLoop 53 = .ok (.ireturn, 1) := by decide +kernel
theorem dX7_readLoop_54 : decode cX7_readLoop 54 = .ok (.aload_n 0, 1) := by decide +kernel
theorem dX7_readLoop_55 : decode cX7_readLoop 55 = .ok (.getfield 21, 3) := by decide +kernel
theorem dX7_readLoop_58 : decode cX7_readLoop 58 = .ok (.iconst 5, 1) := by decide +kernel
theorem dX7_readLoop_59 : decode cX7_readLoop 59 = .ok (.iconst 0, 1) := by decide +kernel
theorem dX7_readLoop_60 : decode cX7_readLoop 60 = .ok (.iload_n 3, 1) := by decide +kernel
theorem dX7_readLoop_61 : decode cX7_readLoop 61 = .ok (.invokevirtual 93, 3) := by decide +kernel
theorem dX7_readLoop_64 : decode cX7_readLoop 64 = .ok (.pop, 1) := by decide +kernel
theorem dX7_readLoop_65 : decode cX7_readLoop 65 = .ok (.aload_n 0, 1) := by decide +kernel
theorem dX7_readLoop_66 : decode cX7_readLoop 66 = .ok (.getfield 21, 3) := by decide +kernel
theorem dX7_readLoop_69 : decode cX7_readLoop 69 = .ok (.getfield 115, 3) := by decide +kernel
theorem dX7_readLoop_72 : decode cX7_readLoop 72 = .ok (.iload_n 3, 1) := by decide +kernel
theorem dX7_readLoop_73 : decode cX7_readLoop 73 = .ok (.aload_n 0, 1) := by decide +kernel
theorem dX7_readLoop_74 : decode cX7_readLoop 74 = .ok (.getfield 21, 3) := by decide +kernel
theorem dX7_readLoop_77 : decode cX7_readLoop 77 = .ok (.getfield 118, 3) := by decide +kernel
theorem dX7_readLoop_80 : decode cX7_readLoop 80 = .ok (.iastore, 1) := by decide +kernel
theorem dX7_readLoop_81 : decode cX7_readLoop 81 = .ok (.aload_n 0, 1) := by decide +kernel
theorem dX7_readLoop_82 : decode cX7_readLoop 82 = .ok (.bipush 8, 2) := by decide +kernel
theorem dX7_readLoop_84 : decode cX7_readLoop 84 = .ok (.invokevirtual 97, 3) := by decide +kernel
theorem dX7_readLoop_87 : decode cX7_readLoop 87 = .ok (.ireturn, 1) := by decide +kernel
set_option maxRecDepth 20000 in
theorem ggX7_readWant_X7_readTest : GoodIn wsX7_readWant wsX7_readTest := goodIn_r _ [7, 1, 8, 9, 10, 6, 11, 12, 13, 14, 15, 16, 3, 4, 5, 17, 18, 19, 20, 21, 22, 23, 24, 25, 26, 27, 28, 29, 30, 31, 32, 33, 34, 35, 36, 37, 38, 52, 53, 54, 55, 56] (by decide +kernel) (by decide +kernel)
set_option maxRecDepth 20000 in
theorem gX7_readWant_X7_readTest : GoodIn wsX7_readWant (wsV RX7 112 RX7 yX7_readTest wsX7_readTest) := goodIn_app (goodIn_of _ (by decide +kernel)) ggX7_readWant_X7_readTest
set_option maxRecDepth 20000 in
theorem ggX7_readWant_X6_add : GoodIn wsX7_readWant wsX6_add := goodIn_r _ [43, 44, 45, 46, 47, 48, 49, 50, 51, 57, 58, 59, 60, 61, 62, 63, 64, 65, 66] (by decide +kernel) (by decide +kernel)
set_option maxRecDepth 20000 in
theorem gX7_readWant_X6_add : GoodIn wsX7_readWant (wsV RX7 93 RX6 yX6_add wsX6_add) := goodIn_app (goodIn_of _ (by decide +kernel)) ggX7_readWant_X6_add
theorem dX7_readWant_0 : decode cX7_readWant 0 = .ok (.aload_n 0, 1) := by decide +kernel
theorem dX7_readWant_1 : decode cX7_readWant 1 = .ok (.dup, 1) := by decide +kernel
theorem dX7_readWant_2 : decode cX7_readWant 2 = .ok (.getfield 38, 3) := by decide +kernel
theorem dX7_readWant_5 : decode cX7_readWant 5 = .ok (.iconst 1, 1) := by decide +kernel
theorem dX7_readWant_6 : decode cX7_readWant 6 = .ok (.iadd, 1) := by decide +kernel
theorem dX7_readWant_7 : decode cX7_readWant 7 = .ok (.putfield 38, 3) := by decide +kernel
theorem dX7_readWant_10 : decode cX7_readWant 10 = .ok (.aload_n 0, 1) := by decide +kernel
theorem dX7_readWant_11 : decode cX7_readWant 11 = .ok (.iload_n 1, 1) := by decide +kernel
theorem dX7_readWant_12 : decode cX7_readWant 12 = .ok (.invokevirtual 112, 3) := by decide +kernel
theorem dX7_readWant_15 : decode cX7_readWant 15 = .ok (.istore_n 2, 1) := by decide +kernel
theorem dX7_readWant_16 : decode cX7_readWant 16 = .ok (.iload_n 2, 1) := by decide +kernel
theorem dX7_readWant_17 : decode cX7_readWant 17 = .ok (.iconst (-1), 1) := by decide +kernel
theorem dX7_readWant_18 : decode cX7_readWant 18 = .ok (.if_icmp .ne 5, 3) := by decide +kernel
theorem dX7_readWant_21 : decode cX7_readWant 21 = .ok (.iconst 0, 1) := by decide +kernel
theorem dX7_readWant_22 : decode cX7_readWant 22 = .ok (.ireturn, 1) := by decide +kernel
theorem dX7_readWant_23 : decode cX7_readWant 23 = .ok (.aload_n 0, 1) := by decide +kernel
theorem dX7_readWant_24 : decode cX7_readWant 24 = .ok (.getfield 21, 3) := by decide +kernel
theorem dX7_readWant_27 : decode cX7_readWant 27 = .ok (.iconst 4, 1) := by decide +kernel
theorem dX7_readWant_28 : decode cX7_readWant 28 = .ok (.iload_n 2, 1) := by decide +kernel
theorem dX7_readWant_29 : decode cX7_readWant 29 = .ok (.bipush (-9), 2) := by decide +kernel
theorem dX7_readWant_31 : decode cX7_readWant 31 = .ok (.invokevirtual 93, 3) := by decide +kernel
theorem dX7_readWant_34 : decode cX7_readWant 34 = .ok (.pop, 1) := by decide +kernel
theorem dX7_readWant_35 : decode cX7_readWant 35 = .ok (.iconst 1, 1) := by decide +kernel
theorem dX7_readWant_36 : decode cX7_readWant 36 = .ok (.ireturn, 1) := by decide +kernel
set_option maxRecDepth 20000 in
theorem ggX7_readTest_X7_readOne : GoodIn wsX7_readTest wsX7_readOne := goodIn_r _ [26, 1, 6, 7, 8, 5, 9, 10, 27, 28, 29, 30, 31, 32, 33, 19, 20, 21, 22, 23, 24, 34, 35, 36, 11, 12, 13, 14, 15, 16, 17, 18, 25, 2, 3, 4, 0, 37, 38, 39, 40, 41] (by decide +kernel) (by decide +kernel)
set_option maxRecDepth 20000 in
theorem gX7_readTest_X7_readOne : GoodIn wsX7_readTest (wsV RX7 121 RX7 yX7_readOne wsX7_readOne) := goodIn_app (goodIn_of _ (by decide +kernel)) ggX7_readTest_X7_readOne
set_option maxRecDepth 20000 in
theorem ggX7_readTest_X7_token : GoodIn wsX7_readTest wsX7_token := goodIn_r _ [9, 1, 10, 37, 38, 39, 40, 41] (by decide +kernel) (by decide +kernel)
set_option maxRecDepth 20000 in
theorem gX7_readTest_X7_token : GoodIn wsX7_readTest (wsV RX7 82 RX7 yX7_token wsX7_token) := goodIn_app (goodIn_of _ (by decide +kernel)) ggX7_readTest_X7_token
theorem dX7_readTest_0 : decode cX7_readTest 0 = .ok (.iconst 0, 1) := by decide +kernel
theorem dX7_readTest_1 : decode cX7_readTest 1 = .ok (.istore_n 2, 1) := by decide +kernel
theorem dX7_readTest_2 : decode cX7_readTest 2 = .ok (.bipush 15, 2) := by decide +kernel
theorem dX7_readTest_4 : decode cX7_readTest 4 = .ok (.istore_n 3, 1) := by decide +kernel
theorem dX7_readTest_5 : decode cX7_readTest 5 = .ok (.iconst 0, 1) := by decide +kernel
theorem dX7_readTest_6 : decode cX7_readTest 6 = .ok (.istore 4, 2) := by decide +kernel
theorem dX7_readTest_8 : decode cX7_readTest 8 = .ok (.iload 4, 2) := by decide +kernel
theorem dX7_readTest_10 : decode cX7_readTest 10 = .ok (.sipush 300, 3) := by decide +kernel
theorem dX7_readTest_13 : decode cX7_readTest 13 = .ok (.if_icmp .ge 66, 3) := by decide +kernel
theorem dX7_readTest_16 : decode cX7_readTest 16 = .ok (.aload_n 0, 1) := by decide +kernel
theorem dX7_readTest_17 : decode cX7_readTest 17 = .ok (.iload_n 1, 1) := by decide +kernel
theorem dX7_readTest_18 : decode cX7_readTest 18 = .ok (.invokevirtual 121, 3) := by decide +kernel
theorem dX7_readTest_21 : decode cX7_readTest 21 = .ok (.istore 5, 2) := by decide +kernel
theorem dX7_readTest_23 : decode cX7_readTest 23 = .ok (.iload 5, 2) := by decide +kernel
theorem dX7_readTest_25 : decode cX7_readTest 25 = .ok (.iconst (-1), 1) := by decide +kernel
theorem dX7_readTest_26 : decode cX7_readTest 26 = .ok (.if_icmp .ne 5, 3) := by decide +kernel
theorem dX7_readTest_29 : decode cX7_readTest 29 = .ok (.iconst (-1), 1) := by decide +kernel
theorem dX7_readTest_30 : decode cX7_readTest 30 = .ok (.ireturn, 1) := by decide +kernel
theorem dX7_readTest_31 : decode cX7_readTest 31 = .ok (.iload_n 3, 1) := by decide +kernel
theorem dX7_readTest_32 : decode cX7_readTest 32 = .ok (.iload 5, 2) := by decide +kernel
theorem dX7_readTest_34 : decode cX7_readTest 34 = .ok (.iand, 1) := by decide +kernel
theorem dX7_readTest_35 : decode cX7_readTest 35 = .ok (.istore_n 3, 1) := by decide +kernel
theorem dX7_readTest_36 : decode cX7_readTest 36 = .ok (.aload_n 0, 1) := by decide +kernel
theorem dX7_readTest_37 : decode cX7_readTest 37 = .ok (.invokevirtual 82, 3) := by decide +kernel
theorem dX7_readTest_40 : decode cX7_readTest 40 = .ok (.bipush 19, 2) := by decide +kernel
theorem dX7_readTest_42 : decode cX7_readTest 42 = .ok (.if_icmp .eq 21, 3) := by decide +kernel
theorem dX7_readTest_45 : decode cX7_readTest 45 = .ok (.iload_n 2, 1) := by decide +kernel
theorem dX7_readTest_46 : decode cX7_readTest 46 = .ok (.iload_n 3, 1) := by decide +kernel
theorem dX7_readTest_47 : decode cX7_readTest 47 = .ok (.ior, 1) := by decide +kernel
theorem dX7_readTest_48 : decode cX7_readTest 48 = .ok (.istore_n 2, 1) := by decide +kernel
theorem dX7_readTest_49 : decode cX7_readTest 49 = .ok (.bipush 15, 2) := by decide +kernel
theorem dX7_readTest_51 : decode cX7_readTest 51 = .ok (.istore_n 3, 1) := by decide +kernel
theorem dX7_readTest_52 : decode cX7_readTest 52 = .ok (.aload_n 0, 1) := by decide +kernel
theorem dX7_readTest_53 : decode cX7_readTest 53 = .ok (.invokevirtual 82, 3) := by decide +kernel
theorem dX7_readTest_56 : decode cX7_readTest 56 = .ok (.bipush 18, 2) := by decide +kernel
theorem dX7_readTest_58 : decode cX7_readTest 58 = .ok (.if_icmp .eq 5, 3) := by decide +kernel
theorem dX7_readTest_61 : decode cX7_readTest 61 = .ok (.iload_n 2, 1) := by decide +kernel
theorem dX7_readTest_62 : decode cX7_readTest 62 = .ok (.ireturn, 1) := by decide +kernel
theorem dX7_readTest_63 : decode cX7_readTest 63 = .ok (.aload_n 0, 1) := by decide +kernel
theorem dX7_readTest_64 : decode cX7_readTest 64 = .ok (.dup, 1) := by decide +kernel
theorem dX7_readTest_65 : decode cX7_readTest 65 = .ok (.getfield 38, 3) := by decide +kernel
theorem dX7_readTest_68 : decode cX7_readTest 68 = .ok (.iconst 1, 1) := by decide +kernel
theorem dX7_readTest_69 : decode cX7_readTest 69 = .ok (.iadd, 1) := by decide +kernel
theorem dX7_readTest_70 : decode cX7_readTest 70 = .ok (.putfield 38, 3) := by decide +kernel
theorem dX7_readTest_73 : decode cX7_readTest 73 = .ok (.iinc 4 1, 3) := by decide +kernel
theorem dX7_readTest_76 : decode cX7_readTest 76 = .ok (.goto (-68), 3) := by decide +kernel
theorem dX7_readTest_79 : decode cX7_readTest 79 = .ok (.iload_n 2, 1) := by decide +kernel
theorem dX7_readTest_80 : decode cX7_readTest 80 = .ok (.ireturn, 1) := by decide +kernel
set_option maxRecDepth 20000 in
theorem ggX7_readOne_X7_token : GoodIn wsX7_readOne wsX7_token := goodIn_r _ [6, 1, 7, 37, 38, 39, 40, 41] (by decide +kernel) (by decide +kernel)
set_option maxRecDepth 20000 in
theorem gX7_readOne_X7_token : GoodIn wsX7_readOne (wsV RX7 82 RX7 yX7_token wsX7_token) := goodIn_app (goodIn_of _ (by decide +kernel)) ggX7_readOne_X7_token
set_option maxRecDepth 20000 in
theorem ggX7_readOne_X7_readNot : GoodIn wsX7_readOne wsX7_readNot := goodIn_r _ [32, 1, 33, 34, 35, 5, 24, 25, 26, 27, 28, 29, 30, 31, 2, 3, 4, 6, 7, 15, 16, 17, 18, 19, 20, 0, 8, 9, 10, 11, 12, 13, 14, 21, 22, 23, 36, 37, 38, 39, 40, 41] (by decide +kernel) (by decide +kernel)
set_option maxRecDepth 20000 in
theorem gX7_readOne_X7_readNot : GoodIn wsX7_readOne (wsV RX7 124 RX7 yX7_readNot wsX7_readNot) := goodIn_app (goodIn_of _ (by decide +kernel)) ggX7_readOne_X7_readNot
set_option maxRecDepth 20000 in
theorem ggX7_readOne_X7_refuseTest : GoodIn wsX7_readOne wsX7_refuseTest := goodIn_r _ [14, 15, 16, 17, 5, 18, 1, 19, 20, 37, 38, 39, 40, 41] (by decide +kernel) (by decide +kernel)
set_option maxRecDepth 20000 in
theorem gX7_readOne_X7_refuseTest : GoodIn wsX7_readOne (wsV RX7 127 RX7 yX7_refuseTest wsX7_refuseTest) := goodIn_app (goodIn_of _ (by decide +kernel)) ggX7_readOne_X7_refuseTest
set_option maxRecDepth 20000 in
theorem ggX7_readOne_X7_readBrackets : GoodIn wsX7_readOne wsX7_readBrackets := goodIn_r _ [24, 1, 25, 26, 27, 5, 28, 29, 30, 31, 2, 3, 4, 6, 7, 15, 16, 17, 18, 19, 20, 32, 33, 34, 35, 0, 8, 9, 10, 11, 12, 13, 14, 21, 22, 23, 36, 37, 38, 39, 40, 41] (by decide +kernel) (by decide +kernel)
set_option maxRecDepth 20000 in
theorem gX7_readOne_X7_readBrackets : GoodIn wsX7_readOne (wsV RX7 130 RX7 yX7_readBrackets wsX7_readBrackets) := goodIn_app (goodIn_of _ (by decide +kernel)) ggX7_readOne_X7_readBrackets
theorem dX7_readOne_0 : decode cX7_readOne 0 = .ok (.aload_n 0, 1) := by decide +kernel
theorem dX7_readOne_1 : decode cX7_readOne 1 = .ok (.invokevirtual 82, 3) := by decide +kernel
theorem dX7_readOne_4 : decode cX7_readOne 4 = .ok (.tableswitch 157 10 21 #[64, 77, 157, 157, 157, 90, 102, 157, 157, 157, 115, 136], 64) := by decide +kernel
theorem dX7_readOne_68 : decode cX7_readOne 68 = .ok (.aload_n 0, 1) := by decide +kernel
theorem dX7_readOne_69 : decode cX7_readOne 69 = .ok (.dup, 1) := by decide +kernel
theorem dX7_readOne_70 : decode cX7_readOne 70 = .ok (.getfield 38, 3) := by decide +kernel
theorem dX7_readOne_73 : decode cX7_readOne 73 = .ok (.iconst 1, 1) := by decide +kernel
theorem dX7_readOne_74 : decode cX7_readOne 74 = .ok (.iadd, 1) := by decide +kernel
theorem dX7_readOne_75 : decode cX7_readOne 75 = .ok (.putfield 38, 3) := by decide +kernel
theorem dX7_readOne_78 : decode cX7_readOne 78 = .ok (.bipush 10, 2) := by decide +kernel
theorem dX7_readOne_80 : decode cX7_readOne 80 = .ok (.ireturn, 1) := by decide +kernel
theorem dX7_readOne_81 : decode cX7_readOne 81 = .ok (.aload_n 0, 1) := by decide +kernel
theorem dX7_readOne_82 : decode cX7_readOne 82 = .ok (.dup, 1) := by decide +kernel
theorem dX7_readOne_83 : decode cX7_readOne 83 = .ok (.getfield 38, 3) := by decide +kernel
theorem dX7_readOne_86 : decode cX7_readOne 86 = .ok (.iconst 1, 1) := by decide +kernel
theorem dX7_readOne_87 : decode cX7_readOne 87 = .ok (.iadd, 1) := by decide +kernel
theorem dX7_readOne_88 : decode cX7_readOne 88 = .ok (.putfield 38, 3) := by decide +kernel
theorem dX7_readOne_91 : decode cX7_readOne 91 = .ok (.bipush 12, 2) := by decide +kernel
theorem dX7_readOne_93 : decode cX7_readOne 93 = .ok (.ireturn, 1) := by decide +kernel
theorem dX7_readOne_94 : decode cX7_readOne 94 = .ok (.aload_n 0, 1) := by decide +kernel
theorem dX7_readOne_95 : decode cX7_readOne 95 = .ok (.dup, 1) := by decide +kernel
theorem dX7_readOne_96 : decode cX7_readOne 96 = .ok (.getfield 38, 3) := by decide +kernel
theorem dX7_readOne_99 : decode cX7_readOne 99 = .ok (.iconst 1, 1) := by decide +kernel
theorem dX7_readOne_100 : decode cX7_readOne 100 = .ok (.iadd, 1) := by decide +kernel
theorem dX7_readOne_101 : decode cX7_readOne 101 = .ok (.putfield 38, 3) := by decide +kernel
theorem dX7_readOne_104 : decode cX7_readOne 104 = .ok (.iconst 0, 1) := by decide +kernel
theorem dX7_readOne_105 : decode cX7_readOne 105 = .ok (.ireturn, 1) := by decide +kernel
theorem dX7_readOne_106 : decode cX7_readOne 106 = .ok (.aload_n 0, 1) := by decide +kernel
theorem dX7_readOne_107 : decode cX7_readOne 107 = .ok (.dup, 1) := by decide +kernel
theorem dX7_readOne_108 : decode cX7_readOne 108 = .ok (.getfield 38, 3) := by decide +kernel
theorem dX7_readOne_111 : decode cX7_readOne 111 = .ok (.iconst 1, 1) := by decide +kernel
theorem dX7_readOne_112 : decode cX7_readOne 112 = .ok (.iadd, 1) := by decide +kernel
theorem dX7_readOne_113 : decode cX7_readOne 113 = .ok (.putfield 38, 3) := by decide +kernel
theorem dX7_readOne_116 : decode cX7_readOne 116 = .ok (.bipush 15, 2) := by decide +kernel
theorem dX7_readOne_118 : decode cX7_readOne 118 = .ok (.ireturn, 1) := by decide +kernel
theorem dX7_readOne_119 : decode cX7_readOne 119 = .ok (.iload_n 1, 1) := by decide +kernel
theorem dX7_readOne_120 : decode cX7_readOne 120 = .ok (.bipush 8, 2) := by decide +kernel
theorem dX7_readOne_122 : decode cX7_readOne 122 = .ok (.if_icmp .ge 13, 3) := by decide +kernel
theorem dX7_readOne_125 : decode cX7_readOne 125 = .ok (.aload_n 0, 1) := by decide +kernel
theorem dX7_readOne_126 : decode cX7_readOne 126 = .ok (.iload_n 1, 1) := by decide +kernel
theorem dX7_readOne_127 : decode cX7_readOne 127 = .ok (.iconst 1, 1) := by decide +kernel
theorem dX7_readOne_128 : decode cX7_readOne 128 = .ok (.iadd, 1) := by decide +kernel
theorem dX7_readOne_129 : decode cX7_readOne 129 = .ok (.invokevirtual 124, 3) := by decide +kernel
theorem dX7_readOne_132 : decode cX7_readOne 132 = .ok (.goto 7, 3) := by decide +kernel
theorem dX7_readOne_135 : decode cX7_readOne 135 = .ok (.aload_n 0, 1) := by decide +kernel
theorem dX7_readOne_136 : decode cX7_readOne 136 = .ok (.invokevirtual 127, 3) := by decide +kernel
theorem dX7_readOne_139 : decode cX7_readOne 139 = .ok (.ireturn, 1) := by decide +kernel
theorem dX7_readOne_140 : decode cX7_readOne 140 = .ok (.iload_n 1, 1) := by decide +kernel
theorem dX7_readOne_141 : decode cX7_readOne 141 = .ok (.bipush 8, 2) := by decide +kernel
theorem dX7_readOne_143 : decode cX7_readOne 143 = .ok (.if_icmp .ge 13, 3) := by decide +kernel
theorem dX7_readOne_146 : decode cX7_readOne 146 = .ok (.aload_n 0, 1) := by decide +kernel
theorem dX7_readOne_147 : decode cX7_readOne 147 = .ok (.iload_n 1, 1) := by decide +kernel
theorem dX7_readOne_148 : decode cX7_readOne 148 = .ok (.iconst 1, 1) := by decide +kernel
theorem dX7_readOne_149 : decode cX7_readOne 149 = .ok (.iadd, 1) := by decide +kernel
theorem dX7_readOne_150 : decode cX7_readOne 150 = .ok (.invokevirtual 130, 3) := by decide +kernel
theorem dX7_readOne_153 : decode cX7_readOne 153 = .ok (.goto 7, 3) := by decide +kernel
theorem dX7_readOne_156 : decode cX7_readOne 156 = .ok (.aload_n 0, 1) := by decide +kernel
theorem dX7_readOne_157 : decode cX7_readOne 157 = .ok (.invokevirtual 127, 3) := by decide +kernel
theorem dX7_readOne_160 : decode cX7_readOne 160 = .ok (.ireturn, 1) := by decide +kernel
theorem dX7_readOne_161 : decode cX7_readOne 161 = .ok (.aload_n 0, 1) := by decide +kernel
theorem dX7_readOne_162 : decode cX7_readOne 162 = .ok (.invokevirtual 127, 3) := by decide +kernel
theorem dX7_readOne_165 : decode cX7_readOne 165 = .ok (.ireturn, 1) := by decide +kernel
set_option maxRecDepth 20000 in
theorem ggX7_readNot_X7_readOne : GoodIn wsX7_readNot wsX7_readOne := goodIn_r _ [25, 1, 14, 15, 16, 5, 17, 18, 26, 27, 28, 29, 30, 31, 32, 19, 20, 21, 22, 23, 24, 33, 34, 35, 6, 7, 8, 9, 10, 11, 12, 13, 0, 2, 3, 4, 36, 37, 38, 39, 40, 41] (by decide +kernel) (by decide +kernel)
set_option maxRecDepth 20000 in
theorem gX7_readNot_X7_readOne : GoodIn wsX7_readNot (wsV RX7 121 RX7 yX7_readOne wsX7_readOne) := goodIn_app (goodIn_of _ (by decide +kernel)) ggX7_readNot_X7_readOne
theorem dX7_readNot_0 : decode cX7_readNot 0 = .ok (.aload_n 0, 1) := by decide +kernel
theorem dX7_readNot_1 : decode cX7_readNot 1 = .ok (.dup, 1) := by decide +kernel
theorem dX7_readNot_2 : decode cX7_readNot 2 = .ok (.getfield 38, 3) := by decide +kernel
theorem dX7_readNot_5 : decode cX7_readNot 5 = .ok (.iconst 1, 1) := by decide +kernel
theorem dX7_readNot_6 : decode cX7_readNot 6 = .ok (.iadd, 1) := by decide +kernel
theorem dX7_readNot_7 : decode cX7_readNot 7 = .ok (.putfield 38, 3) := by decide +kernel
theorem dX7_readNot_10 : decode cX7_readNot 10 = .ok (.aload_n 0, 1) := by decide +kernel
theorem dX7_readNot_11 : decode cX7_readNot 11 = .ok (.iload_n 1, 1) := by decide +kernel
theorem dX7_readNot_12 : decode cX7_readNot 12 = .ok (.invokevirtual 121, 3) := by decide +kernel
theorem dX7_readNot_15 : decode cX7_readNot 15 = .ok (.istore_n 2, 1) := by decide +kernel
theorem dX7_readNot_16 : decode cX7_readNot 16 = .ok (.iload_n 2, 1) := by decide +kernel
theorem dX7_readNot_17 : decode cX7_readNot 17 = .ok (.iconst (-1), 1) := by decide +kernel
theorem dX7_readNot_18 : decode cX7_readNot 18 = .ok (.if_icmp .ne 7, 3) := by decide +kernel
theorem dX7_readNot_21 : decode cX7_readNot 21 = .ok (.iconst (-1), 1) := by decide +kernel
theorem dX7_readNot_22 : decode cX7_readNot 22 = .ok (.goto 7, 3) := by decide +kernel
theorem dX7_readNot_25 : decode cX7_readNot 25 = .ok (.bipush 15, 2) := by decide +kernel
theorem dX7_readNot_27 : decode cX7_readNot 27 = .ok (.iload_n 2, 1) := by decide +kernel
theorem dX7_readNot_28 : decode cX7_readNot 28 = .ok (.isub, 1) := by decide +kernel
theorem dX7_readNot_29 : decode cX7_readNot 29 = .ok (.ireturn, 1) := by decide +kernel
set_option maxRecDepth 20000 in
theorem ggX7_readBrackets_X7_readTest : GoodIn wsX7_readBrackets wsX7_readTest := goodIn_r _ [36, 1, 22, 23, 24, 5, 10, 11, 12, 13, 14, 0, 2, 3, 4, 6, 7, 8, 9, 15, 16, 17, 18, 19, 20, 21, 25, 26, 27, 28, 29, 30, 31, 32, 33, 34, 35, 37, 38, 39, 40, 41] (by decide +kernel) (by decide +kernel)
set_option maxRecDepth 20000 in
theorem gX7_readBrackets_X7_readTest : GoodIn wsX7_readBrackets (wsV RX7 112 RX7 yX7_readTest wsX7_readTest) := goodIn_app (goodIn_of _ (by decide +kernel)) ggX7_readBrackets_X7_readTest
set_option maxRecDepth 20000 in
theorem ggX7_readBrackets_X7_take : GoodIn wsX7_readBrackets wsX7_take := goodIn_r _ [9, 1, 10, 11, 12, 5, 13, 14, 15, 16, 17, 18, 19, 20, 37, 38, 39, 40, 41] (by decide +kernel) (by decide +kernel)
set_option maxRecDepth 20000 in
theorem gX7_readBrackets_X7_take : GoodIn wsX7_readBrackets (wsV RX7 97 RX7 yX7_take wsX7_take) := goodIn_app (goodIn_of _ (by decide +kernel)) ggX7_readBrackets_X7_take
theorem dX7_readBrackets_0 : decode cX7_readBrackets 0 = .ok (.aload_n 0, 1) := by decide +kernel
theorem dX7_readBrackets_1 : decode cX7_readBrackets 1 = .ok (.dup, 1) := by decide +kernel
theorem dX7_readBrackets_2 : decode cX7_readBrackets 2 = .ok (.getfield 38, 3) := by decide +kernel
theorem dX7_readBrackets_5 : decode cX7_readBrackets 5 = .ok (.iconst 1, 1) := by decide +kernel
theorem dX7_readBrackets_6 : decode cX7_readBrackets 6 = .ok (.iadd, 1) := by decide +kernel
theorem dX7_readBrackets_7 : decode cX7_readBrackets 7 = .ok (.putfield 38, 3) := by decide +kernel
theorem dX7_readBrackets_10 : decode cX7_readBrackets 10 = .ok (.aload_n 0, 1) := by decide +kernel
theorem dX7_readBrackets_11 : decode cX7_readBrackets 11 = .ok (.iload_n 1, 1) := by decide +kernel
theorem dX7_readBrackets_12 : decode cX7_readBrackets 12 = .ok (.invokevirtual 112, 3) := by decide +kernel
theorem dX7_readBrackets_15 : decode cX7_readBrackets 15 = .ok (.istore_n 2, 1) := by decide +kernel
theorem dX7_readBrackets_16 : decode cX7_readBrackets 16 = .ok (.iload_n 2, 1) := by decide +kernel
theorem dX7_readBrackets_17 : decode cX7_readBrackets 17 = .ok (.iconst (-1), 1) := by decide +kernel
theorem dX7_readBrackets_18 : decode cX7_readBrackets 18 = .ok (.if_icmp .eq 16, 3) := by decide +kernel
theorem dX7_readBrackets_21 : decode cX7_readBrackets 21 = .ok (.aload_n 0, 1) := by decide +kernel
theorem dX7_readBrackets_22 : decode cX7_readBrackets 22 = .ok (.bipush 22, 2) := by decide +kernel
theorem dX7_readBrackets_24 : decode cX7_readBrackets 24 = .ok (.invokevirtual 97, 3) := by decide +kernel
theorem dX7_readBrackets_27 : decode cX7_readBrackets 27 = .ok (.ifCond .eq 7, 3) := by decide +kernel
theorem dX7_readBrackets_30 : decode cX7_readBrackets 30 = .ok (.iload_n 2, 1) := by decide +kernel
theorem dX7_readBrackets_31 : decode cX7_readBrackets 31 = .ok (.goto 4, 3) := by decide +kernel
theorem dX7_readBrackets_34 : decode cX7_readBrackets 34 = .ok (.iconst (-1), 1) := by decide +kernel
theorem dX7_readBrackets_35 : decode cX7_readBrackets 35 = .ok (.ireturn, 1) := by decide +kernel
set_option maxRecDepth 20000 in
theorem ggX7_refuseTest_X7_refuse : GoodIn wsX7_refuseTest wsX7_refuse := goodIn_r _ [5, 6, 7, 8, 9, 10, 11, 12, 13] (by decide +kernel) (by decide +kernel)
set_option maxRecDepth 20000 in
theorem gX7_refuseTest_X7_refuse : GoodIn wsX7_refuseTest (wsV RX7 86 RX7 yX7_refuse wsX7_refuse) := goodIn_app (goodIn_of _ (by decide +kernel)) ggX7_refuseTest_X7_refuse
theorem dX7_refuseTest_0 : decode cX7_refuseTest 0 = .ok (.aload_n 0, 1) := by decide +kernel
theorem dX7_refuseTest_1 : decode cX7_refuseTest 1 = .ok (.invokevirtual 86, 3) := by decide +kernel
theorem dX7_refuseTest_4 : decode cX7_refuseTest 4 = .ok (.pop, 1) := by decide +kernel
theorem dX7_refuseTest_5 : decode cX7_refuseTest 5 = .ok (.iconst (-1), 1) := by decide +kernel
theorem dX7_refuseTest_6 : decode cX7_refuseTest 6 = .ok (.ireturn, 1) := by decide +kernel
theorem dX8_init_0 : decode cX8_init 0 = .ok (.aload_n 0, 1) := by decide +kernel
theorem dX8_init_1 : decode cX8_init 1 = .ok (.invokespecial 1, 3) := by decide +kernel
theorem dX8_init_4 : decode cX8_init 4 = .ok (.return_, 1) := by decide +kernel
set_option maxRecDepth 20000 in
theorem ggX9_init_X5_init : GoodIn wsX9_init wsX5_init := goodIn_r _ [4, 5, 6, 7] (by decide +kernel) (by decide +kernel)
set_option maxRecDepth 20000 in
theorem gX9_init_X5_init : GoodIn wsX9_init (wsX5_init) := ggX9_init_X5_init
theorem dX9_init_0 : decode cX9_init 0 = .ok (.aload_n 0, 1) := by decide +kernel
theorem dX9_init_1 : decode cX9_init 1 = .ok (.invokespecial 3, 3) := by decide +kernel
theorem dX9_init_4 : decode cX9_init 4 = .ok (.return_, 1) := by decide +kernel
set_option maxRecDepth 20000 in
theorem ggX9_weigh_X5_weigh : GoodIn wsX9_weigh wsX5_weigh := goodIn_r _ [8, 9, 10] (by decide +kernel) (by decide +kernel)
set_option maxRecDepth 20000 in
theorem gX9_weigh_X5_weigh_s17 : GoodIn wsX9_weigh (va_wsSU RX9 17 yX5_weigh wsX5_weigh) := goodIn_app (goodIn_of _ (by decide +kernel)) ggX9_weigh_X5_weigh
theorem dX9_weigh_0 : decode cX9_weigh 0 = .ok (.aload_n 2, 1) := by decide +kernel
theorem dX9_weigh_1 : decode cX9_weigh 1 = .ok (.dup, 1) := by decide +kernel
theorem dX9_weigh_2 : decode cX9_weigh 2 = .ok (.getfield 9, 3) := by decide +kernel
theorem dX9_weigh_5 : decode cX9_weigh 5 = .ok (.ldc2_w 15, 3) := by decide +kernel
theorem dX9_weigh_8 : decode cX9_weigh 8 = .ok (.ladd, 1) := by decide +kernel
theorem dX9_weigh_9 : decode cX9_weigh 9 = .ok (.putfield 9, 3) := by decide +kernel
theorem dX9_weigh_12 : decode cX9_weigh 12 = .ok (.aload_n 0, 1) := by decide +kernel
theorem dX9_weigh_13 : decode cX9_weigh 13 = .ok (.iload_n 1, 1) := by decide +kernel
theorem dX9_weigh_14 : decode cX9_weigh 14 = .ok (.aload_n 2, 1) := by decide +kernel
theorem dX9_weigh_15 : decode cX9_weigh 15 = .ok (.invokespecial 17, 3) := by decide +kernel
theorem dX9_weigh_18 : decode cX9_weigh 18 = .ok (.iconst 4, 1) := by decide +kernel
theorem dX9_weigh_19 : decode cX9_weigh 19 = .ok (.iadd, 1) := by decide +kernel
theorem dX9_weigh_20 : decode cX9_weigh 20 = .ok (.iload_n 1, 1) := by decide +kernel
theorem dX9_weigh_21 : decode cX9_weigh 21 = .ok (.isub, 1) := by decide +kernel
theorem dX9_weigh_22 : decode cX9_weigh 22 = .ok (.ireturn, 1) := by decide +kernel
set_option maxRecDepth 20000 in
theorem ggX10_init_X7_init : GoodIn wsX10_init wsX7_init := goodIn_r _ [49, 50, 2, 3, 40, 51, 52, 53, 45, 46, 54, 55, 56, 57, 58, 59, 60, 61, 62, 63, 64, 65, 66, 67, 68, 69, 70, 71, 72, 73, 74, 75, 76, 77, 78, 79, 80, 81, 82, 83, 84, 85, 86, 87, 88, 89, 90, 91, 92, 93, 94, 95, 96, 97, 98, 99, 100, 101, 102, 103, 104, 105, 106, 107, 108, 109, 110, 111, 112, 113, 114, 115, 169, 170, 171, 172, 173, 185, 186, 187, 188, 189, 190, 191, 192, 193, 194] (by decide +kernel) (by decide +kernel)
set_option maxRecDepth 20000 in
theorem gX10_init_X7_init : GoodIn wsX10_init (wsX7_init) := ggX10_init_X7_init
set_option maxRecDepth 20000 in
theorem ggX10_init_X4_init : GoodIn wsX10_init wsX4_init := goodIn_r _ [118, 119, 2, 3, 40, 120, 121, 122, 123, 42, 124, 174, 175, 176, 177, 178, 179, 180, 181] (by decide +kernel) (by decide +kernel)
set_option maxRecDepth 20000 in
theorem gX10_init_X4_init : GoodIn wsX10_init (wsX4_init) := ggX10_init_X4_init
set_option maxRecDepth 20000 in
theorem ggX10_init_X2_init : GoodIn wsX10_init wsX2_init := goodIn_r _ [127, 128, 2, 3, 40, 129, 130, 182, 183] (by decide +kernel) (by decide +kernel)
set_option maxRecDepth 20000 in
theorem gX10_init_X2_init : GoodIn wsX10_init (wsX2_init) := ggX10_init_X2_init
set_option maxRecDepth 20000 in
theorem ggX10_init_X5_init : GoodIn wsX10_init wsX5_init := goodIn_r _ [133, 134, 2, 3] (by decide +kernel) (by decide +kernel)
set_option maxRecDepth 20000 in
theorem gX10_init_X5_init : GoodIn wsX10_init (wsX5_init) := ggX10_init_X5_init
set_option maxRecDepth 20000 in
theorem ggX10_init_X0_init : GoodIn wsX10_init wsX0_init := goodIn_r _ [137, 138, 132, 22, 133, 134, 2, 3] (by decide +kernel) (by decide +kernel)
set_option maxRecDepth 20000 in
theorem gX10_init_X0_init : GoodIn wsX10_init (wsX0_init) := ggX10_init_X0_init
set_option maxRecDepth 20000 in
theorem ggX10_init_X1_init : GoodIn wsX10_init wsX1_init := goodIn_r _ [141, 142, 132, 22, 133, 134, 2, 3] (by decide +kernel) (by decide +kernel)
set_option maxRecDepth 20000 in
theorem gX10_init_X1_init : GoodIn wsX10_init (wsX1_init) := ggX10_init_X1_init
set_option maxRecDepth 20000 in
theorem ggX10_init_X3_init : GoodIn wsX10_init wsX3_init := goodIn_r _ [145, 146, 140, 28, 141, 142, 132, 22, 133, 134, 2, 3] (by decide +kernel) (by decide +kernel)
set_option maxRecDepth 20000 in
theorem gX10_init_X3_init : GoodIn wsX10_init (wsX3_init) := ggX10_init_X3_init
set_option maxRecDepth 20000 in
theorem ggX10_init_X9_init : GoodIn wsX10_init wsX9_init := goodIn_r _ [149, 150, 132, 22, 133, 134, 2, 3] (by decide +kernel) (by decide +kernel)
set_option maxRecDepth 20000 in
theorem gX10_init_X9_init : GoodIn wsX10_init (wsX9_init) := ggX10_init_X9_init
set_option maxRecDepth 20000 in
theorem ggX10_init_X8_init : GoodIn wsX10_init wsX8_init := goodIn_r _ [153, 154, 2, 3] (by decide +kernel) (by decide +kernel)
set_option maxRecDepth 20000 in
theorem gX10_init_X8_init : GoodIn wsX10_init (wsX8_init) := ggX10_init_X8_init
set_option maxRecDepth 20000 in
theorem ggX10_init_X6_init : GoodIn wsX10_init wsX6_init := goodIn_r _ [57, 58, 2, 3, 40, 59, 60, 61, 62, 63, 64, 65, 66, 67, 68, 46, 69, 70, 71, 72, 73, 74, 75, 76, 77, 78, 79, 80, 81, 82, 83, 84, 85, 86, 87, 88, 89, 90, 91, 92, 93, 94, 95, 96, 97, 98, 99, 100, 101, 102, 103, 104, 105, 106, 107, 108, 109, 110, 111, 112, 113, 114, 115, 185, 186, 187, 188, 189, 190, 191, 192, 193, 194] (by decide +kernel) (by decide +kernel)
set_option maxRecDepth 20000 in
theorem gX10_init_X6_init : GoodIn wsX10_init (wsX6_init) := ggX10_init_X6_init
theorem dX10_init_0 : decode cX10_init 0 = .ok (.aload_n 0, 1) := by decide +kernel
theorem dX10_init_1 : decode cX10_init 1 = .ok (.invokespecial 3, 3) := by decide +kernel
theorem dX10_init_4 : decode cX10_init 4 = .ok (.aload_n 0, 1) := by decide +kernel
theorem dX10_init_5 : decode cX10_init 5 = .ok (.sipush 300, 3) := by decide +kernel
theorem dX10_init_8 : decode cX10_init 8 = .ok (.newarray .byte, 2) := by decide +kernel
theorem dX10_init_10 : decode cX10_init 10 = .ok (.putfield 9, 3) := by decide +kernel
theorem dX10_init_13 : decode cX10_init 13 = .ok (.aload_n 0, 1) := by decide +kernel
theorem dX10_init_14 : decode cX10_init 14 = .ok (.iconst 4, 1) := by decide +kernel
theorem dX10_init_15 : decode cX10_init 15 = .ok (.anewarray 13, 3) := by decide +kernel
theorem dX10_init_18 : decode cX10_init 18 = .ok (.putfield 15, 3) := by decide +kernel
theorem dX10_init_21 : decode cX10_init 21 = .ok (.aload_n 0, 1) := by decide +kernel
theorem dX10_init_22 : decode cX10_init 22 = .ok (.new 19, 3) := by decide +kernel
theorem dX10_init_25 : decode cX10_init 25 = .ok (.dup, 1) := by decide +kernel
theorem dX10_init_26 : decode cX10_init 26 = .ok (.invokespecial 21, 3) := by decide +kernel
theorem dX10_init_29 : decode cX10_init 29 = .ok (.putfield 22, 3) := by decide +kernel
theorem dX10_init_32 : decode cX10_init 32 = .ok (.aload_n 0, 1) := by decide +kernel
theorem dX10_init_33 : decode cX10_init 33 = .ok (.new 26, 3) := by decide +kernel
theorem dX10_init_36 : decode cX10_init 36 = .ok (.dup, 1) := by decide +kernel
theorem dX10_init_37 : decode cX10_init 37 = .ok (.invokespecial 28, 3) := by decide +kernel
theorem dX10_init_40 : decode cX10_init 40 = .ok (.putfield 29, 3) := by decide +kernel
theorem dX10_init_43 : decode cX10_init 43 = .ok (.aload_n 0, 1) := by decide +kernel
theorem dX10_init_44 : decode cX10_init 44 = .ok (.new 33, 3) := by decide +kernel
theorem dX10_init_47 : decode cX10_init 47 = .ok (.dup, 1) := by decide +kernel
theorem dX10_init_48 : decode cX10_init 48 = .ok (.invokespecial 35, 3) := by decide +kernel
theorem dX10_init_51 : decode cX10_init 51 = .ok (.putfield 36, 3) := by decide +kernel
theorem dX10_init_54 : decode cX10_init 54 = .ok (.aload_n 0, 1) := by decide +kernel
theorem dX10_init_55 : decode cX10_init 55 = .ok (.iconst 5, 1) := by decide +kernel
theorem dX10_init_56 : decode cX10_init 56 = .ok (.anewarray 40, 3) := by decide +kernel
theorem dX10_init_59 : decode cX10_init 59 = .ok (.dup, 1) := by decide +kernel
theorem dX10_init_60 : decode cX10_init 60 = .ok (.iconst 0, 1) := by decide +kernel
theorem dX10_init_61 : decode cX10_init 61 = .ok (.new 40, 3) := by decide +kernel
theorem dX10_init_64 : decode cX10_init 64 = .ok (.dup, 1) := by decide +kernel
theorem dX10_init_65 : decode cX10_init 65 = .ok (.invokespecial 42, 3) := by decide +kernel
theorem dX10_init_68 : decode cX10_init 68 = .ok (.aastore, 1) := by decide +kernel
theorem dX10_init_69 : decode cX10_init 69 = .ok (.dup, 1) := by decide +kernel
theorem dX10_init_70 : decode cX10_init 70 = .ok (.iconst 1, 1) := by decide +kernel
theorem dX10_init_71 : decode cX10_init 71 = .ok (.new 43, 3) := by decide +kernel
theorem dX10_init_74 : decode cX10_init 74 = .ok (.dup, 1) := by decide +kernel
theorem dX10_init_75 : decode cX10_init 75 = .ok (.invokespecial 45, 3) := by decide +kernel
theorem dX10_init_78 : decode cX10_init 78 = .ok (.aastore, 1) := by decide +kernel
theorem dX10_init_79 : decode cX10_init 79 = .ok (.dup, 1) := by decide +kernel
theorem dX10_init_80 : decode cX10_init 80 = .ok (.iconst 2, 1) := by decide +kernel
theorem dX10_init_81 : decode cX10_init 81 = .ok (.new 46, 3) := by decide +kernel
theorem dX10_init_84 : decode cX10_init 84 = .ok (.dup, 1) := by decide +kernel
theorem dX10_init_85 : decode cX10_init 85 = .ok (.invokespecial 48, 3) := by decide +kernel
theorem dX10_init_88 : decode cX10_init 88 = .ok (.aastore, 1) := by decide +kernel
theorem dX10_init_89 : decode cX10_init 89 = .ok (.dup, 1) := by decide +kernel
theorem dX10_init_90 : decode cX10_init 90 = .ok (.iconst 3, 1) := by decide +kernel
theorem dX10_init_91 : decode cX10_init 91 = .ok (.new 49, 3) := by decide +kernel
theorem dX10_init_94 : decode cX10_init 94 = .ok (.dup, 1) := by decide +kernel
theorem dX10_init_95 : decode cX10_init 95 = .ok (.invokespecial 51, 3) := by decide +kernel
theorem dX10_init_98 : decode cX10_init 98 = .ok (.aastore, 1) := by decide +kernel
theorem dX10_init_99 : decode cX10_init 99 = .ok (.dup, 1) := by decide +kernel
theorem dX10_init_100 : decode cX10_init 100 = .ok (.iconst 4, 1) := by decide +kernel
theorem dX10_init_101 : decode cX10_init 101 = .ok (.new 52, 3) := by decide +kernel
theorem dX10_init_104 : decode cX10_init 104 = .ok (.dup, 1) := by decide +kernel
theorem dX10_init_105 : decode cX10_init 105 = .ok (.invokespecial 54, 3) := by decide +kernel
theorem dX10_init_108 : decode cX10_init 108 = .ok (.aastore, 1) := by decide +kernel
theorem dX10_init_109 : decode cX10_init 109 = .ok (.putfield 55, 3) := by decide +kernel
theorem dX10_init_112 : decode cX10_init 112 = .ok (.aload_n 0, 1) := by decide +kernel
theorem dX10_init_113 : decode cX10_init 113 = .ok (.new 59, 3) := by decide +kernel
theorem dX10_init_116 : decode cX10_init 116 = .ok (.dup, 1) := by decide +kernel
theorem dX10_init_117 : decode cX10_init 117 = .ok (.invokespecial 61, 3) := by decide +kernel
theorem dX10_init_120 : decode cX10_init 120 = .ok (.putfield 62, 3) := by decide +kernel
theorem dX10_init_123 : decode cX10_init 123 = .ok (.aload_n 0, 1) := by decide +kernel
theorem dX10_init_124 : decode cX10_init 124 = .ok (.bipush 13, 2) := by decide +kernel
theorem dX10_init_126 : decode cX10_init 126 = .ok (.newarray .int, 2) := by decide +kernel
theorem dX10_init_128 : decode cX10_init 128 = .ok (.putfield 66, 3) := by decide +kernel
theorem dX10_init_131 : decode cX10_init 131 = .ok (.aload_n 0, 1) := by decide +kernel
theorem dX10_init_132 : decode cX10_init 132 = .ok (.bipush 17, 2) := by decide +kernel
theorem dX10_init_134 : decode cX10_init 134 = .ok (.newarray .long, 2) := by decide +kernel
theorem dX10_init_136 : decode cX10_init 136 = .ok (.putfield 70, 3) := by decide +kernel
theorem dX10_init_139 : decode cX10_init 139 = .ok (.aload_n 0, 1) := by decide +kernel
theorem dX10_init_140 : decode cX10_init 140 = .ok (.bipush 17, 2) := by decide +kernel
theorem dX10_init_142 : decode cX10_init 142 = .ok (.newarray .long, 2) := by decide +kernel
theorem dX10_init_144 : decode cX10_init 144 = .ok (.putfield 74, 3) := by decide +kernel
theorem dX10_init_147 : decode cX10_init 147 = .ok (.iconst 0, 1) := by decide +kernel
theorem dX10_init_148 : decode cX10_init 148 = .ok (.istore_n 1, 1) := by decide +kernel
theorem dX10_init_149 : decode cX10_init 149 = .ok (.iload_n 1, 1) := by decide +kernel
theorem dX10_init_150 : decode cX10_init 150 = .ok (.iconst 4, 1) := by decide +kernel
theorem dX10_init_151 : decode cX10_init 151 = .ok (.if_icmp .ge 22, 3) := by decide +kernel
theorem dX10_init_154 : decode cX10_init 154 = .ok (.aload_n 0, 1) := by decide +kernel
theorem dX10_init_155 : decode cX10_init 155 = .ok (.getfield 15, 3) := by decide +kernel
theorem dX10_init_158 : decode cX10_init 158 = .ok (.iload_n 1, 1) := by decide +kernel
theorem dX10_init_159 : decode cX10_init 159 = .ok (.new 13, 3) := by decide +kernel
theorem dX10_init_162 : decode cX10_init 162 = .ok (.dup, 1) := by decide +kernel
theorem dX10_init_163 : decode cX10_init 163 = .ok (.invokespecial 77, 3) := by decide +kernel
theorem dX10_init_166 : decode cX10_init 166 = .ok (.aastore, 1) := by decide +kernel
theorem dX10_init_167 : decode cX10_init 167 = .ok (.iinc 1 1, 3) := by decide +kernel
theorem dX10_init_170 : decode cX10_init 170 = .ok (.goto (-21), 3) := by decide +kernel
theorem dX10_init_173 : decode cX10_init 173 = .ok (.return_, 1) := by decide +kernel
theorem dX10_type_0 : decode cX10_type 0 = .ok (.iload_n 3, 1) := by decide +kernel
theorem dX10_type_1 : decode cX10_type 1 = .ok (.iconst 1, 1) := by decide +kernel
theorem dX10_type_2 : decode cX10_type 2 = .ok (.if_icmp .lt 9, 3) := by decide +kernel
theorem dX10_type_5 : decode cX10_type 5 = .ok (.iload_n 3, 1) := by decide +kernel
theorem dX10_type_6 : decode cX10_type 6 = .ok (.bipush 8, 2) := by decide +kernel
theorem dX10_type_8 : decode cX10_type 8 = .ok (.if_icmp .le 5, 3) := by decide +kernel
theorem dX10_type_11 : decode cX10_type 11 = .ok (.iconst (-1), 1) := by decide +kernel
theorem dX10_type_12 : decode cX10_type 12 = .ok (.ireturn, 1) := by decide +kernel
theorem dX10_type_13 : decode cX10_type 13 = .ok (.aload_n 0, 1) := by decide +kernel
theorem dX10_type_14 : decode cX10_type 14 = .ok (.getfield 78, 3) := by decide +kernel
theorem dX10_type_17 : decode cX10_type 17 = .ok (.iload_n 3, 1) := by decide +kernel
theorem dX10_type_18 : decode cX10_type 18 = .ok (.iadd, 1) := by decide +kernel
theorem dX10_type_19 : decode cX10_type 19 = .ok (.sipush 300, 3) := by decide +kernel
theorem dX10_type_22 : decode cX10_type 22 = .ok (.if_icmp .le 6, 3) := by decide +kernel
theorem dX10_type_25 : decode cX10_type 25 = .ok (.bipush (-3), 2) := by decide +kernel
theorem dX10_type_27 : decode cX10_type 27 = .ok (.ireturn, 1) := by decide +kernel
theorem dX10_type_28 : decode cX10_type 28 = .ok (.iload_n 3, 1) := by decide +kernel
theorem dX10_type_29 : decode cX10_type 29 = .ok (.iconst 1, 1) := by decide +kernel
theorem dX10_type_30 : decode cX10_type 30 = .ok (.isub, 1) := by decide +kernel
theorem dX10_type_31 : decode cX10_type 31 = .ok (.istore 4, 2) := by decide +kernel
theorem dX10_type_33 : decode cX10_type 33 = .ok (.iload 4, 2) := by decide +kernel
theorem dX10_type_35 : decode cX10_type 35 = .ok (.ifCond .lt 37, 3) := by decide +kernel
theorem dX10_type_38 : decode cX10_type 38 = .ok (.aload_n 0, 1) := by decide +kernel
theorem dX10_type_39 : decode cX10_type 39 = .ok (.getfield 9, 3) := by decide +kernel
theorem dX10_type_42 : decode cX10_type 42 = .ok (.aload_n 0, 1) := by decide +kernel
theorem dX10_type_43 : decode cX10_type 43 = .ok (.getfield 78, 3) := by decide +kernel
theorem dX10_type_46 : decode cX10_type 46 = .ok (.lload_n 1, 1) := by decide +kernel
theorem dX10_type_47 : decode cX10_type 47 = .ok (.bipush 8, 2) := by decide +kernel
theorem dX10_type_49 : decode cX10_type 49 = .ok (.iload 4, 2) := by decide +kernel
theorem dX10_type_51 : decode cX10_type 51 = .ok (.imul, 1) := by decide +kernel
theorem dX10_type_52 : decode cX10_type 52 = .ok (.lushr, 1) := by decide +kernel
theorem dX10_type_53 : decode cX10_type 53 = .ok (.l2i, 1) := by decide +kernel
theorem dX10_type_54 : decode cX10_type 54 = .ok (.i2b, 1) := by decide +kernel
theorem dX10_type_55 : decode cX10_type 55 = .ok (.bastore, 1) := by decide +kernel
theorem dX10_type_56 : decode cX10_type 56 = .ok (.aload_n 0, 1) := by decide +kernel
theorem dX10_type_57 : decode cX10_type 57 = .ok (.dup, 1) := by decide +kernel
theorem dX10_type_58 : decode cX10_type 58 = .ok (.getfield 78, 3) := by decide +kernel
theorem dX10_type_61 : decode cX10_type 61 = .ok (.iconst 1, 1) := by decide +kernel
theorem dX10_type_62 : decode cX10_type 62 = .ok (.iadd, 1) := by decide +kernel
theorem dX10_type_63 : decode cX10_type 63 = .ok (.putfield 78, 3) := by decide +kernel
theorem dX10_type_66 : decode cX10_type 66 = .ok (.iinc 4 (-1), 3) := by decide +kernel
theorem dX10_type_69 : decode cX10_type 69 = .ok (.goto (-36), 3) := by decide +kernel
theorem dX10_type_72 : decode cX10_type 72 = .ok (.aload_n 0, 1) := by decide +kernel
theorem dX10_type_73 : decode cX10_type 73 = .ok (.getfield 78, 3) := by decide +kernel
theorem dX10_type_76 : decode cX10_type 76 = .ok (.ireturn, 1) := by decide +kernel
theorem dX10_clear_0 : decode cX10_clear 0 = .ok (.aload_n 0, 1) := by decide +kernel
theorem dX10_clear_1 : decode cX10_clear 1 = .ok (.getfield 78, 3) := by decide +kernel
theorem dX10_clear_4 : decode cX10_clear 4 = .ok (.istore_n 1, 1) := by decide +kernel
theorem dX10_clear_5 : decode cX10_clear 5 = .ok (.aload_n 0, 1) := by decide +kernel
theorem dX10_clear_6 : decode cX10_clear 6 = .ok (.iconst 0, 1) := by decide +kernel
theorem dX10_clear_7 : decode cX10_clear 7 = .ok (.putfield 78, 3) := by decide +kernel
theorem dX10_clear_10 : decode cX10_clear 10 = .ok (.iload_n 1, 1) := by decide +kernel
theorem dX10_clear_11 : decode cX10_clear 11 = .ok (.ireturn, 1) := by decide +kernel
set_option maxRecDepth 20000 in
theorem ggX10_program_X10_isProgram : GoodIn wsX10_program wsX10_isProgram := goodIn_r _ [9] (by decide +kernel) (by decide +kernel)
set_option maxRecDepth 20000 in
theorem gX10_program_X10_isProgram : GoodIn wsX10_program (va_wsS RX10 82 yX10_isProgram wsX10_isProgram) := goodIn_app (goodIn_of _ (by decide +kernel)) ggX10_program_X10_isProgram
set_option maxRecDepth 20000 in
theorem ggX10_program_X7_read : GoodIn wsX10_program wsX7_read := goodIn_r _ [14, 15, 16, 17, 18, 19, 20, 21, 22, 23, 24, 25, 26, 27, 28, 29, 30, 31, 13, 32, 33, 34, 35, 36, 37, 38, 39, 40, 41, 42, 43, 44, 45, 46, 47, 48, 49, 50, 51, 52, 53, 54, 55, 56, 57, 58, 59, 60, 61, 62, 63, 64, 65, 66, 67, 68, 69, 70, 71, 72, 73, 74, 75, 76, 77, 78, 79, 80, 81, 82, 83, 84, 85, 86, 87, 88, 89, 90, 91, 92, 93, 94, 95, 96, 97, 98, 99, 100, 101, 102, 103, 104, 105, 106, 107, 108, 109, 110, 111, 112, 113, 114, 115, 116, 117, 118, 119, 120, 121, 122, 123, 124, 125, 126, 127, 128, 129, 130, 131, 132, 133, 134, 135, 136, 137, 138, 139, 140, 141, 142, 143, 144, 145, 146, 147, 148, 149, 150, 151, 152, 153, 154, 155, 156, 157, 158, 159, 160, 161, 162, 163, 164, 165, 166, 167, 168, 169, 170, 171, 172, 173, 174, 175, 176, 177, 178, 179, 180, 181, 182, 183, 184, 185, 186, 187, 188, 189, 190, 191, 192, 193, 194, 195, 196, 197, 198, 199, 200, 201, 202, 203, 204, 205, 206, 207, 208, 209, 210, 211, 212, 213, 214, 215, 216, 217, 218, 219, 220, 221, 222, 223, 224, 225, 226, 227, 228, 229, 230, 231, 232, 233, 234, 235, 8, 236, 237, 238, 239, 240, 241, 242, 243, 244, 245, 246, 247, 248, 249, 250, 251, 252, 253, 254, 255, 256, 257, 258, 259, 260, 261, 262, 263, 264, 265, 266, 294, 295, 296, 297, 298, 284, 285, 286, 287, 288, 289, 290, 291, 292, 293] (by decide +kernel) (by decide +kernel)
set_option maxRecDepth 20000 in
theorem gX10_program_X7_read : GoodIn wsX10_program (wsV RX10 86 RX7 yX7_read wsX7_read) := goodIn_app (goodIn_of _ (by decide +kernel)) ggX10_program_X7_read
set_option maxRecDepth 20000 in
theorem ggX10_program_X7_giveFor : GoodIn wsX10_program wsX7_giveFor := goodIn_r _ [270, 15, 294, 295, 296, 297, 298] (by decide +kernel) (by decide +kernel)
set_option maxRecDepth 20000 in
theorem gX10_program_X7_giveFor : GoodIn wsX10_program (wsV RX10 90 RX7 yX7_giveFor wsX7_giveFor) := goodIn_app (goodIn_of _ (by decide +kernel)) ggX10_program_X7_giveFor
theorem dX10_program_0 : decode cX10_program 0 = .ok (.iload_n 1, 1) := by decide +kernel
theorem dX10_program_1 : decode cX10_program 1 = .ok (.invokestatic 82, 3) := by decide +kernel
theorem dX10_program_4 : decode cX10_program 4 = .ok (.ifCond .ne 5, 3) := by decide +kernel
theorem dX10_program_7 : decode cX10_program 7 = .ok (.iconst (-1), 1) := by decide +kernel
theorem dX10_program_8 : decode cX10_program 8 = .ok (.ireturn, 1) := by decide +kernel
theorem dX10_program_9 : decode cX10_program 9 = .ok (.aload_n 0, 1) := by decide +kernel
theorem dX10_program_10 : decode cX10_program 10 = .ok (.getfield 22, 3) := by decide +kernel
theorem dX10_program_13 : decode cX10_program 13 = .ok (.aload_n 0, 1) := by decide +kernel
theorem dX10_program_14 : decode cX10_program 14 = .ok (.getfield 9, 3) := by decide +kernel
theorem dX10_program_17 : decode cX10_program 17 = .ok (.aload_n 0, 1) := by decide +kernel
theorem dX10_program_18 : decode cX10_program 18 = .ok (.getfield 78, 3) := by decide +kernel
theorem dX10_program_21 : decode cX10_program 21 = .ok (.invokevirtual 86, 3) := by decide +kernel
theorem dX10_program_24 : decode cX10_program 24 = .ok (.istore_n 2, 1) := by decide +kernel
theorem dX10_program_25 : decode cX10_program 25 = .ok (.iload_n 2, 1) := by decide +kernel
theorem dX10_program_26 : decode cX10_program 26 = .ok (.iconst (-1), 1) := by decide +kernel
theorem dX10_program_27 : decode cX10_program 27 = .ok (.if_icmp .eq 8, 3) := by decide +kernel
theorem dX10_program_30 : decode cX10_program 30 = .ok (.bipush (-10), 2) := by decide +kernel
theorem dX10_program_32 : decode cX10_program 32 = .ok (.iload_n 2, 1) := by decide +kernel
theorem dX10_program_33 : decode cX10_program 33 = .ok (.isub, 1) := by decide +kernel
theorem dX10_program_34 : decode cX10_program 34 = .ok (.ireturn, 1) := by decide +kernel
theorem dX10_program_35 : decode cX10_program 35 = .ok (.aload_n 0, 1) := by decide +kernel
theorem dX10_program_36 : decode cX10_program 36 = .ok (.getfield 15, 3) := by decide +kernel
theorem dX10_program_39 : decode cX10_program 39 = .ok (.iload_n 1, 1) := by decide +kernel
theorem dX10_program_40 : decode cX10_program 40 = .ok (.aload_n 0, 1) := by decide +kernel
theorem dX10_program_41 : decode cX10_program 41 = .ok (.getfield 22, 3) := by decide +kernel
theorem dX10_program_44 : decode cX10_program 44 = .ok (.aload_n 0, 1) := by decide +kernel
theorem dX10_program_45 : decode cX10_program 45 = .ok (.getfield 15, 3) := by decide +kernel
theorem dX10_program_48 : decode cX10_program 48 = .ok (.iload_n 1, 1) := by decide +kernel
theorem dX10_program_49 : decode cX10_program 49 = .ok (.aaload, 1) := by decide +kernel
theorem dX10_program_50 : decode cX10_program 50 = .ok (.invokevirtual 90, 3) := by decide +kernel
theorem dX10_program_53 : decode cX10_program 53 = .ok (.aastore, 1) := by decide +kernel
theorem dX10_program_54 : decode cX10_program 54 = .ok (.aload_n 0, 1) := by decide +kernel
theorem dX10_program_55 : decode cX10_program 55 = .ok (.iconst 0, 1) := by decide +kernel
theorem dX10_program_56 : decode cX10_program 56 = .ok (.putfield 78, 3) := by decide +kernel
theorem dX10_program_59 : decode cX10_program 59 = .ok (.aload_n 0, 1) := by decide +kernel
theorem dX10_program_60 : decode cX10_program 60 = .ok (.getfield 15, 3) := by decide +kernel
theorem dX10_program_63 : decode cX10_program 63 = .ok (.iload_n 1, 1) := by decide +kernel
theorem dX10_program_64 : decode cX10_program 64 = .ok (.aaload, 1) := by decide +kernel
theorem dX10_program_65 : decode cX10_program 65 = .ok (.getfield 94, 3) := by decide +kernel
theorem dX10_program_68 : decode cX10_program 68 = .ok (.ireturn, 1) := by decide +kernel
set_option maxRecDepth 20000 in
theorem ggX10_next_X10_isProgram : GoodIn wsX10_next wsX10_isProgram := goodIn_r _ [5] (by decide +kernel) (by decide +kernel)
set_option maxRecDepth 20000 in
theorem gX10_next_X10_isProgram : GoodIn wsX10_next (va_wsS RX10 82 yX10_isProgram wsX10_isProgram) := goodIn_app (goodIn_of _ (by decide +kernel)) ggX10_next_X10_isProgram
set_option maxRecDepth 20000 in
theorem ggX10_next_X6_canGoFrom : GoodIn wsX10_next wsX6_canGoFrom := goodIn_r _ [10, 11, 40, 41, 42, 43, 44, 45, 46, 47, 48, 49] (by decide +kernel) (by decide +kernel)
set_option maxRecDepth 20000 in
theorem gX10_next_X6_canGoFrom : GoodIn wsX10_next (wsV RX10 97 RX6 yX6_canGoFrom wsX6_canGoFrom) := goodIn_app (goodIn_of _ (by decide +kernel)) ggX10_next_X6_canGoFrom
set_option maxRecDepth 20000 in
theorem ggX10_next_X6_goes : GoodIn wsX10_next wsX6_goes := goodIn_r _ [15, 16, 17, 7, 8, 9, 10, 11, 40, 41, 42, 43, 44, 45, 46, 47, 48, 49] (by decide +kernel) (by decide +kernel)
set_option maxRecDepth 20000 in
theorem gX10_next_X6_goes : GoodIn wsX10_next (wsV RX10 100 RX6 yX6_goes wsX6_goes) := goodIn_app (goodIn_of _ (by decide +kernel)) ggX10_next_X6_goes
set_option maxRecDepth 20000 in
theorem ggX10_next_X6_actAt : GoodIn wsX10_next wsX6_actAt := goodIn_r _ [21, 22, 23, 24, 25, 9, 26, 11, 40, 41, 42, 43, 44, 45, 46, 47, 48, 49] (by decide +kernel) (by decide +kernel)
set_option maxRecDepth 20000 in
theorem gX10_next_X6_actAt : GoodIn wsX10_next (wsV RX10 104 RX6 yX6_actAt wsX6_actAt) := goodIn_app (goodIn_of _ (by decide +kernel)) ggX10_next_X6_actAt
theorem dX10_next_0 : decode cX10_next 0 = .ok (.iload_n 1, 1) := by decide +kernel
theorem dX10_next_1 : decode cX10_next 1 = .ok (.invokestatic 82, 3) := by decide +kernel
theorem dX10_next_4 : decode cX10_next 4 = .ok (.ifCond .eq 16, 3) := by decide +kernel
theorem dX10_next_7 : decode cX10_next 7 = .ok (.aload_n 0, 1) := by decide +kernel
theorem dX10_next_8 : decode cX10_next 8 = .ok (.getfield 15, 3) := by decide +kernel
theorem dX10_next_11 : decode cX10_next 11 = .ok (.iload_n 1, 1) := by decide +kernel
theorem dX10_next_12 : decode cX10_next 12 = .ok (.aaload, 1) := by decide +kernel
theorem dX10_next_13 : decode cX10_next 13 = .ok (.iload_n 2, 1) := by decide +kernel
theorem dX10_next_14 : decode cX10_next 14 = .ok (.invokevirtual 97, 3) := by decide +kernel
theorem dX10_next_17 : decode cX10_next 17 = .ok (.ifCond .ne 5, 3) := by decide +kernel
theorem dX10_next_20 : decode cX10_next 20 = .ok (.iconst (-1), 1) := by decide +kernel
theorem dX10_next_21 : decode cX10_next 21 = .ok (.ireturn, 1) := by decide +kernel
theorem dX10_next_22 : decode cX10_next 22 = .ok (.iload_n 3, 1) := by decide +kernel
theorem dX10_next_23 : decode cX10_next 23 = .ok (.ifCond .lt 19, 3) := by decide +kernel
theorem dX10_next_26 : decode cX10_next 26 = .ok (.iload_n 3, 1) := by decide +kernel
theorem dX10_next_27 : decode cX10_next 27 = .ok (.iconst 4, 1) := by decide +kernel
theorem dX10_next_28 : decode cX10_next 28 = .ok (.if_icmp .ge 14, 3) := by decide +kernel
theorem dX10_next_31 : decode cX10_next 31 = .ok (.iload 4, 2) := by decide +kernel
theorem dX10_next_33 : decode cX10_next 33 = .ok (.ifCond .lt 9, 3) := by decide +kernel
theorem dX10_next_36 : decode cX10_next 36 = .ok (.iload 4, 2) := by decide +kernel
theorem dX10_next_38 : decode cX10_next 38 = .ok (.iconst 1, 1) := by decide +kernel
theorem dX10_next_39 : decode cX10_next 39 = .ok (.if_icmp .le 5, 3) := by decide +kernel
theorem dX10_next_42 : decode cX10_next 42 = .ok (.iconst (-1), 1) := by decide +kernel
theorem dX10_next_43 : decode cX10_next 43 = .ok (.ireturn, 1) := by decide +kernel
theorem dX10_next_44 : decode cX10_next 44 = .ok (.aload_n 0, 1) := by decide +kernel
theorem dX10_next_45 : decode cX10_next 45 = .ok (.getfield 15, 3) := by decide +kernel
theorem dX10_next_48 : decode cX10_next 48 = .ok (.iload_n 1, 1) := by decide +kernel
theorem dX10_next_49 : decode cX10_next 49 = .ok (.aaload, 1) := by decide +kernel
theorem dX10_next_50 : decode cX10_next 50 = .ok (.iload_n 2, 1) := by decide +kernel
theorem dX10_next_51 : decode cX10_next 51 = .ok (.iload_n 3, 1) := by decide +kernel
theorem dX10_next_52 : decode cX10_next 52 = .ok (.invokevirtual 100, 3) := by decide +kernel
theorem dX10_next_55 : decode cX10_next 55 = .ok (.istore 5, 2) := by decide +kernel
theorem dX10_next_57 : decode cX10_next 57 = .ok (.iload 4, 2) := by decide +kernel
theorem dX10_next_59 : decode cX10_next 59 = .ok (.ifCond .ne 8, 3) := by decide +kernel
theorem dX10_next_62 : decode cX10_next 62 = .ok (.iload 5, 2) := by decide +kernel
theorem dX10_next_64 : decode cX10_next 64 = .ok (.goto 14, 3) := by decide +kernel
theorem dX10_next_67 : decode cX10_next 67 = .ok (.aload_n 0, 1) := by decide +kernel
theorem dX10_next_68 : decode cX10_next 68 = .ok (.getfield 15, 3) := by decide +kernel
theorem dX10_next_71 : decode cX10_next 71 = .ok (.iload_n 1, 1) := by decide +kernel
theorem dX10_next_72 : decode cX10_next 72 = .ok (.aaload, 1) := by decide +kernel
theorem dX10_next_73 : decode cX10_next 73 = .ok (.iload 5, 2) := by decide +kernel
theorem dX10_next_75 : decode cX10_next 75 = .ok (.invokevirtual 104, 3) := by decide +kernel
theorem dX10_next_78 : decode cX10_next 78 = .ok (.ireturn, 1) := by decide +kernel
set_option maxRecDepth 20000 in
theorem ggX10_act_X10_isProgram : GoodIn wsX10_act wsX10_isProgram := goodIn_r _ [5] (by decide +kernel) (by decide +kernel)
set_option maxRecDepth 20000 in
theorem gX10_act_X10_isProgram : GoodIn wsX10_act (va_wsS RX10 82 yX10_isProgram wsX10_isProgram) := goodIn_app (goodIn_of _ (by decide +kernel)) ggX10_act_X10_isProgram
set_option maxRecDepth 20000 in
theorem ggX10_act_X6_isPlace : GoodIn wsX10_act wsX6_isPlace := goodIn_r _ [10, 11, 31, 32, 33, 34, 35, 36, 37, 38, 39, 40] (by decide +kernel) (by decide +kernel)
set_option maxRecDepth 20000 in
theorem gX10_act_X6_isPlace : GoodIn wsX10_act (wsV RX10 108 RX6 yX6_isPlace wsX6_isPlace) := goodIn_app (goodIn_of _ (by decide +kernel)) ggX10_act_X6_isPlace
set_option maxRecDepth 20000 in
theorem ggX10_act_X6_actAt : GoodIn wsX10_act wsX6_actAt := goodIn_r _ [15, 16, 17, 7, 8, 9, 10, 11, 31, 32, 33, 34, 35, 36, 37, 38, 39, 40] (by decide +kernel) (by decide +kernel)
set_option maxRecDepth 20000 in
theorem gX10_act_X6_actAt : GoodIn wsX10_act (wsV RX10 104 RX6 yX6_actAt wsX6_actAt) := goodIn_app (goodIn_of _ (by decide +kernel)) ggX10_act_X6_actAt
theorem dX10_act_0 : decode cX10_act 0 = .ok (.iload_n 1, 1) := by decide +kernel
theorem dX10_act_1 : decode cX10_act 1 = .ok (.invokestatic 82, 3) := by decide +kernel
theorem dX10_act_4 : decode cX10_act 4 = .ok (.ifCond .eq 16, 3) := by decide +kernel
theorem dX10_act_7 : decode cX10_act 7 = .ok (.aload_n 0, 1) := by decide +kernel
theorem dX10_act_8 : decode cX10_act 8 = .ok (.getfield 15, 3) := by decide +kernel
theorem dX10_act_11 : decode cX10_act 11 = .ok (.iload_n 1, 1) := by decide +kernel
theorem dX10_act_12 : decode cX10_act 12 = .ok (.aaload, 1) := by decide +kernel
theorem dX10_act_13 : decode cX10_act 13 = .ok (.iload_n 2, 1) := by decide +kernel
theorem dX10_act_14 : decode cX10_act 14 = .ok (.invokevirtual 108, 3) := by decide +kernel
theorem dX10_act_17 : decode cX10_act 17 = .ok (.ifCond .ne 5, 3) := by decide +kernel
theorem dX10_act_20 : decode cX10_act 20 = .ok (.iconst (-1), 1) := by decide +kernel
theorem dX10_act_21 : decode cX10_act 21 = .ok (.ireturn, 1) := by decide +kernel
theorem dX10_act_22 : decode cX10_act 22 = .ok (.aload_n 0, 1) := by decide +kernel
theorem dX10_act_23 : decode cX10_act 23 = .ok (.getfield 15, 3) := by decide +kernel
theorem dX10_act_26 : decode cX10_act 26 = .ok (.iload_n 1, 1) := by decide +kernel
theorem dX10_act_27 : decode cX10_act 27 = .ok (.aaload, 1) := by decide +kernel
theorem dX10_act_28 : decode cX10_act 28 = .ok (.iload_n 2, 1) := by decide +kernel
theorem dX10_act_29 : decode cX10_act 29 = .ok (.invokevirtual 104, 3) := by decide +kernel
theorem dX10_act_32 : decode cX10_act 32 = .ok (.ireturn, 1) := by decide +kernel
set_option maxRecDepth 20000 in
theorem ggX10_alike_X10_isProgram : GoodIn wsX10_alike wsX10_isProgram := goodIn_r _ [6] (by decide +kernel) (by decide +kernel)
set_option maxRecDepth 20000 in
theorem gX10_alike_X10_isProgram : GoodIn wsX10_alike (va_wsS RX10 82 yX10_isProgram wsX10_isProgram) := goodIn_app (goodIn_of _ (by decide +kernel)) ggX10_alike_X10_isProgram
set_option maxRecDepth 20000 in
theorem ggX10_alike_X4_findRow : GoodIn wsX10_alike wsX4_findRow := goodIn_r _ [11, 12, 13, 14, 15, 16, 17, 18, 19, 20, 21, 22, 10, 23, 24, 25, 26, 27, 28, 29, 30, 31, 32, 33, 34, 35, 36, 37, 38, 39, 40, 41, 42, 43, 44, 45, 46, 47, 48, 49, 50, 51, 52, 53, 67, 68, 69, 70, 71, 72, 73, 74, 75, 76, 77, 78, 79, 80, 81, 82, 83, 84] (by decide +kernel) (by decide +kernel)
set_option maxRecDepth 20000 in
theorem gX10_alike_X4_findRow : GoodIn wsX10_alike (wsV RX10 111 RX4 yX4_findRow wsX4_findRow) := goodIn_app (goodIn_of _ (by decide +kernel)) ggX10_alike_X4_findRow
theorem dX10_alike_0 : decode cX10_alike 0 = .ok (.iload_n 1, 1) := by decide +kernel
theorem dX10_alike_1 : decode cX10_alike 1 = .ok (.invokestatic 82, 3) := by decide +kernel
theorem dX10_alike_4 : decode cX10_alike 4 = .ok (.ifCond .eq 10, 3) := by decide +kernel
theorem dX10_alike_7 : decode cX10_alike 7 = .ok (.iload_n 2, 1) := by decide +kernel
theorem dX10_alike_8 : decode cX10_alike 8 = .ok (.invokestatic 82, 3) := by decide +kernel
theorem dX10_alike_11 : decode cX10_alike 11 = .ok (.ifCond .ne 5, 3) := by decide +kernel
theorem dX10_alike_14 : decode cX10_alike 14 = .ok (.iconst (-1), 1) := by decide +kernel
theorem dX10_alike_15 : decode cX10_alike 15 = .ok (.ireturn, 1) := by decide +kernel
theorem dX10_alike_16 : decode cX10_alike 16 = .ok (.aload_n 0, 1) := by decide +kernel
theorem dX10_alike_17 : decode cX10_alike 17 = .ok (.getfield 29, 3) := by decide +kernel
theorem dX10_alike_20 : decode cX10_alike 20 = .ok (.aload_n 0, 1) := by decide +kernel
theorem dX10_alike_21 : decode cX10_alike 21 = .ok (.getfield 15, 3) := by decide +kernel
theorem dX10_alike_24 : decode cX10_alike 24 = .ok (.iload_n 1, 1) := by decide +kernel
theorem dX10_alike_25 : decode cX10_alike 25 = .ok (.aaload, 1) := by decide +kernel
theorem dX10_alike_26 : decode cX10_alike 26 = .ok (.aload_n 0, 1) := by decide +kernel
theorem dX10_alike_27 : decode cX10_alike 27 = .ok (.getfield 15, 3) := by decide +kernel
theorem dX10_alike_30 : decode cX10_alike 30 = .ok (.iload_n 2, 1) := by decide +kernel
theorem dX10_alike_31 : decode cX10_alike 31 = .ok (.aaload, 1) := by decide +kernel
theorem dX10_alike_32 : decode cX10_alike 32 = .ok (.iconst 1, 1) := by decide +kernel
theorem dX10_alike_33 : decode cX10_alike 33 = .ok (.invokevirtual 111, 3) := by decide +kernel
theorem dX10_alike_36 : decode cX10_alike 36 = .ok (.ifCond .eq 7, 3) := by decide +kernel
theorem dX10_alike_39 : decode cX10_alike 39 = .ok (.iconst 0, 1) := by decide +kernel
theorem dX10_alike_40 : decode cX10_alike 40 = .ok (.goto 4, 3) := by decide +kernel
theorem dX10_alike_43 : decode cX10_alike 43 = .ok (.iconst 1, 1) := by decide +kernel
theorem dX10_alike_44 : decode cX10_alike 44 = .ok (.ireturn, 1) := by decide +kernel
set_option maxRecDepth 20000 in
theorem ggX10_apart_X10_isProgram : GoodIn wsX10_apart wsX10_isProgram := goodIn_r _ [11] (by decide +kernel) (by decide +kernel)
set_option maxRecDepth 20000 in
theorem gX10_apart_X10_isProgram : GoodIn wsX10_apart (va_wsS RX10 82 yX10_isProgram wsX10_isProgram) := goodIn_app (goodIn_of _ (by decide +kernel)) ggX10_apart_X10_isProgram
set_option maxRecDepth 20000 in
theorem ggX10_apart_X4_findRow : GoodIn wsX10_apart wsX4_findRow := goodIn_r _ [16, 17, 18, 19, 20, 21, 22, 23, 24, 25, 26, 27, 15, 28, 29, 30, 31, 32, 33, 34, 35, 36, 37, 38, 39, 40, 41, 42, 43, 44, 45, 46, 47, 48, 49, 50, 51, 52, 53, 54, 55, 56, 57, 58, 72, 73, 74, 75, 76, 77, 78, 79, 80, 81, 82, 83, 84, 85, 86, 87, 88, 89] (by decide +kernel) (by decide +kernel)
set_option maxRecDepth 20000 in
theorem gX10_apart_X4_findRow : GoodIn wsX10_apart (wsV RX10 111 RX4 yX4_findRow wsX4_findRow) := goodIn_app (goodIn_of _ (by decide +kernel)) ggX10_apart_X4_findRow
theorem dX10_apart_0 : decode cX10_apart 0 = .ok (.iload_n 1, 1) := by decide +kernel
theorem dX10_apart_1 : decode cX10_apart 1 = .ok (.invokestatic 82, 3) := by decide +kernel
theorem dX10_apart_4 : decode cX10_apart 4 = .ok (.ifCond .eq 10, 3) := by decide +kernel
theorem dX10_apart_7 : decode cX10_apart 7 = .ok (.iload_n 2, 1) := by decide +kernel
theorem dX10_apart_8 : decode cX10_apart 8 = .ok (.invokestatic 82, 3) := by decide +kernel
theorem dX10_apart_11 : decode cX10_apart 11 = .ok (.ifCond .ne 7, 3) := by decide +kernel
theorem dX10_apart_14 : decode cX10_apart 14 = .ok (.ldc2_w 115, 3) := by decide +kernel
theorem dX10_apart_17 : decode cX10_apart 17 = .ok (.lreturn, 1) := by decide +kernel
theorem dX10_apart_18 : decode cX10_apart 18 = .ok (.aload_n 0, 1) := by decide +kernel
theorem dX10_apart_19 : decode cX10_apart 19 = .ok (.getfield 29, 3) := by decide +kernel
theorem dX10_apart_22 : decode cX10_apart 22 = .ok (.aload_n 0, 1) := by decide +kernel
theorem dX10_apart_23 : decode cX10_apart 23 = .ok (.getfield 15, 3) := by decide +kernel
theorem dX10_apart_26 : decode cX10_apart 26 = .ok (.iload_n 1, 1) := by decide +kernel
theorem dX10_apart_27 : decode cX10_apart 27 = .ok (.aaload, 1) := by decide +kernel
theorem dX10_apart_28 : decode cX10_apart 28 = .ok (.aload_n 0, 1) := by decide +kernel
theorem dX10_apart_29 : decode cX10_apart 29 = .ok (.getfield 15, 3) := by decide +kernel
theorem dX10_apart_32 : decode cX10_apart 32 = .ok (.iload_n 2, 1) := by decide +kernel
theorem dX10_apart_33 : decode cX10_apart 33 = .ok (.aaload, 1) := by decide +kernel
theorem dX10_apart_34 : decode cX10_apart 34 = .ok (.iconst 1, 1) := by decide +kernel
theorem dX10_apart_35 : decode cX10_apart 35 = .ok (.invokevirtual 111, 3) := by decide +kernel
theorem dX10_apart_38 : decode cX10_apart 38 = .ok (.ifCond .ne 7, 3) := by decide +kernel
theorem dX10_apart_41 : decode cX10_apart 41 = .ok (.ldc2_w 117, 3) := by decide +kernel
theorem dX10_apart_44 : decode cX10_apart 44 = .ok (.lreturn, 1) := by decide +kernel
theorem dX10_apart_45 : decode cX10_apart 45 = .ok (.aload_n 0, 1) := by decide +kernel
theorem dX10_apart_46 : decode cX10_apart 46 = .ok (.getfield 29, 3) := by decide +kernel
theorem dX10_apart_49 : decode cX10_apart 49 = .ok (.getfield 119, 3) := by decide +kernel
theorem dX10_apart_52 : decode cX10_apart 52 = .ok (.bipush 16, 2) := by decide +kernel
theorem dX10_apart_54 : decode cX10_apart 54 = .ok (.if_icmp .le 9, 3) := by decide +kernel
theorem dX10_apart_57 : decode cX10_apart 57 = .ok (.ldc2_w 122, 3) := by decide +kernel
theorem dX10_apart_60 : decode cX10_apart 60 = .ok (.goto 10, 3) := by decide +kernel
theorem dX10_apart_63 : decode cX10_apart 63 = .ok (.aload_n 0, 1) := by decide +kernel
theorem dX10_apart_64 : decode cX10_apart 64 = .ok (.getfield 29, 3) := by decide +kernel
theorem dX10_apart_67 : decode cX10_apart 67 = .ok (.getfield 124, 3) := by decide +kernel
theorem dX10_apart_70 : decode cX10_apart 70 = .ok (.lreturn, 1) := by decide +kernel
set_option maxRecDepth 20000 in
theorem ggX10_far_X10_isProgram : GoodIn wsX10_far wsX10_isProgram := goodIn_r _ [7] (by decide +kernel) (by decide +kernel)
set_option maxRecDepth 20000 in
theorem gX10_far_X10_isProgram : GoodIn wsX10_far (va_wsS RX10 82 yX10_isProgram wsX10_isProgram) := goodIn_app (goodIn_of _ (by decide +kernel)) ggX10_far_X10_isProgram
set_option maxRecDepth 20000 in
theorem ggX10_far_X4_findRow : GoodIn wsX10_far wsX4_findRow := goodIn_r _ [12, 13, 14, 15, 16, 17, 18, 19, 20, 21, 22, 23, 11, 24, 25, 26, 27, 28, 29, 30, 31, 32, 33, 34, 35, 36, 37, 38, 39, 40, 41, 42, 43, 44, 45, 46, 47, 48, 49, 50, 51, 52, 53, 54, 68, 69, 70, 71, 72, 73, 74, 75, 76, 77, 78, 79, 80, 81, 82, 83, 84, 85] (by decide +kernel) (by decide +kernel)
set_option maxRecDepth 20000 in
theorem gX10_far_X4_findRow : GoodIn wsX10_far (wsV RX10 111 RX4 yX4_findRow wsX4_findRow) := goodIn_app (goodIn_of _ (by decide +kernel)) ggX10_far_X4_findRow
theorem dX10_far_0 : decode cX10_far 0 = .ok (.iload_n 1, 1) := by decide +kernel
theorem dX10_far_1 : decode cX10_far 1 = .ok (.invokestatic 82, 3) := by decide +kernel
theorem dX10_far_4 : decode cX10_far 4 = .ok (.ifCond .eq 10, 3) := by decide +kernel
theorem dX10_far_7 : decode cX10_far 7 = .ok (.iload_n 2, 1) := by decide +kernel
theorem dX10_far_8 : decode cX10_far 8 = .ok (.invokestatic 82, 3) := by decide +kernel
theorem dX10_far_11 : decode cX10_far 11 = .ok (.ifCond .ne 5, 3) := by decide +kernel
theorem dX10_far_14 : decode cX10_far 14 = .ok (.iconst (-1), 1) := by decide +kernel
theorem dX10_far_15 : decode cX10_far 15 = .ok (.ireturn, 1) := by decide +kernel
theorem dX10_far_16 : decode cX10_far 16 = .ok (.aload_n 0, 1) := by decide +kernel
theorem dX10_far_17 : decode cX10_far 17 = .ok (.getfield 29, 3) := by decide +kernel
theorem dX10_far_20 : decode cX10_far 20 = .ok (.aload_n 0, 1) := by decide +kernel
theorem dX10_far_21 : decode cX10_far 21 = .ok (.getfield 15, 3) := by decide +kernel
theorem dX10_far_24 : decode cX10_far 24 = .ok (.iload_n 1, 1) := by decide +kernel
theorem dX10_far_25 : decode cX10_far 25 = .ok (.aaload, 1) := by decide +kernel
theorem dX10_far_26 : decode cX10_far 26 = .ok (.aload_n 0, 1) := by decide +kernel
theorem dX10_far_27 : decode cX10_far 27 = .ok (.getfield 15, 3) := by decide +kernel
theorem dX10_far_30 : decode cX10_far 30 = .ok (.iload_n 2, 1) := by decide +kernel
theorem dX10_far_31 : decode cX10_far 31 = .ok (.aaload, 1) := by decide +kernel
theorem dX10_far_32 : decode cX10_far 32 = .ok (.iconst 1, 1) := by decide +kernel
theorem dX10_far_33 : decode cX10_far 33 = .ok (.invokevirtual 111, 3) := by decide +kernel
theorem dX10_far_36 : decode cX10_far 36 = .ok (.ifCond .eq 13, 3) := by decide +kernel
theorem dX10_far_39 : decode cX10_far 39 = .ok (.aload_n 0, 1) := by decide +kernel
theorem dX10_far_40 : decode cX10_far 40 = .ok (.getfield 29, 3) := by decide +kernel
theorem dX10_far_43 : decode cX10_far 43 = .ok (.getfield 119, 3) := by decide +kernel
theorem dX10_far_46 : decode cX10_far 46 = .ok (.goto 5, 3) := by decide +kernel
theorem dX10_far_49 : decode cX10_far 49 = .ok (.bipush (-9), 2) := by decide +kernel
theorem dX10_far_51 : decode cX10_far 51 = .ok (.ireturn, 1) := by decide +kernel
set_option maxRecDepth 20000 in
theorem ggX10_within_X10_isProgram : GoodIn wsX10_within wsX10_isProgram := goodIn_r _ [6] (by decide +kernel) (by decide +kernel)
set_option maxRecDepth 20000 in
theorem gX10_within_X10_isProgram : GoodIn wsX10_within (va_wsS RX10 82 yX10_isProgram wsX10_isProgram) := goodIn_app (goodIn_of _ (by decide +kernel)) ggX10_within_X10_isProgram
set_option maxRecDepth 20000 in
theorem ggX10_within_X4_findRow : GoodIn wsX10_within wsX4_findRow := goodIn_r _ [11, 12, 13, 14, 15, 16, 17, 18, 19, 20, 21, 22, 10, 23, 24, 25, 26, 27, 28, 29, 30, 31, 32, 33, 34, 35, 36, 37, 38, 39, 40, 41, 42, 43, 44, 45, 46, 47, 48, 49, 50, 51, 52, 53, 67, 68, 69, 70, 71, 72, 73, 74, 75, 76, 77, 78, 79, 80, 81, 82, 83, 84] (by decide +kernel) (by decide +kernel)
set_option maxRecDepth 20000 in
theorem gX10_within_X4_findRow : GoodIn wsX10_within (wsV RX10 111 RX4 yX4_findRow wsX4_findRow) := goodIn_app (goodIn_of _ (by decide +kernel)) ggX10_within_X4_findRow
theorem dX10_within_0 : decode cX10_within 0 = .ok (.iload_n 1, 1) := by decide +kernel
theorem dX10_within_1 : decode cX10_within 1 = .ok (.invokestatic 82, 3) := by decide +kernel
theorem dX10_within_4 : decode cX10_within 4 = .ok (.ifCond .eq 10, 3) := by decide +kernel
theorem dX10_within_7 : decode cX10_within 7 = .ok (.iload_n 2, 1) := by decide +kernel
theorem dX10_within_8 : decode cX10_within 8 = .ok (.invokestatic 82, 3) := by decide +kernel
theorem dX10_within_11 : decode cX10_within 11 = .ok (.ifCond .ne 5, 3) := by decide +kernel
theorem dX10_within_14 : decode cX10_within 14 = .ok (.iconst (-1), 1) := by decide +kernel
theorem dX10_within_15 : decode cX10_within 15 = .ok (.ireturn, 1) := by decide +kernel
theorem dX10_within_16 : decode cX10_within 16 = .ok (.aload_n 0, 1) := by decide +kernel
theorem dX10_within_17 : decode cX10_within 17 = .ok (.getfield 29, 3) := by decide +kernel
theorem dX10_within_20 : decode cX10_within 20 = .ok (.aload_n 0, 1) := by decide +kernel
theorem dX10_within_21 : decode cX10_within 21 = .ok (.getfield 15, 3) := by decide +kernel
theorem dX10_within_24 : decode cX10_within 24 = .ok (.iload_n 1, 1) := by decide +kernel
theorem dX10_within_25 : decode cX10_within 25 = .ok (.aaload, 1) := by decide +kernel
theorem dX10_within_26 : decode cX10_within 26 = .ok (.aload_n 0, 1) := by decide +kernel
theorem dX10_within_27 : decode cX10_within 27 = .ok (.getfield 15, 3) := by decide +kernel
theorem dX10_within_30 : decode cX10_within 30 = .ok (.iload_n 2, 1) := by decide +kernel
theorem dX10_within_31 : decode cX10_within 31 = .ok (.aaload, 1) := by decide +kernel
theorem dX10_within_32 : decode cX10_within 32 = .ok (.iconst 0, 1) := by decide +kernel
theorem dX10_within_33 : decode cX10_within 33 = .ok (.invokevirtual 111, 3) := by decide +kernel
theorem dX10_within_36 : decode cX10_within 36 = .ok (.ifCond .eq 7, 3) := by decide +kernel
theorem dX10_within_39 : decode cX10_within 39 = .ok (.iconst 0, 1) := by decide +kernel
theorem dX10_within_40 : decode cX10_within 40 = .ok (.goto 4, 3) := by decide +kernel
theorem dX10_within_43 : decode cX10_within 43 = .ok (.iconst 1, 1) := by decide +kernel
theorem dX10_within_44 : decode cX10_within 44 = .ok (.ireturn, 1) := by decide +kernel
set_option maxRecDepth 20000 in
theorem ggX10_dead_X10_isProgram : GoodIn wsX10_dead wsX10_isProgram := goodIn_r _ [6] (by decide +kernel) (by decide +kernel)
set_option maxRecDepth 20000 in
theorem gX10_dead_X10_isProgram : GoodIn wsX10_dead (va_wsS RX10 82 yX10_isProgram wsX10_isProgram) := goodIn_app (goodIn_of _ (by decide +kernel)) ggX10_dead_X10_isProgram
set_option maxRecDepth 20000 in
theorem ggX10_dead_X6_isLive : GoodIn wsX10_dead wsX6_isLive := goodIn_r _ [11, 12, 13, 14, 15, 16, 10, 17, 18, 19, 5, 20, 34, 35, 36, 37, 38, 39, 40, 41, 42, 43] (by decide +kernel) (by decide +kernel)
set_option maxRecDepth 20000 in
theorem gX10_dead_X6_isLive : GoodIn wsX10_dead (wsV RX10 128 RX6 yX6_isLive wsX6_isLive) := goodIn_app (goodIn_of _ (by decide +kernel)) ggX10_dead_X6_isLive
theorem dX10_dead_0 : decode cX10_dead 0 = .ok (.iload_n 1, 1) := by decide +kernel
theorem dX10_dead_1 : decode cX10_dead 1 = .ok (.invokestatic 82, 3) := by decide +kernel
theorem dX10_dead_4 : decode cX10_dead 4 = .ok (.ifCond .ne 5, 3) := by decide +kernel
theorem dX10_dead_7 : decode cX10_dead 7 = .ok (.iconst (-1), 1) := by decide +kernel
theorem dX10_dead_8 : decode cX10_dead 8 = .ok (.ireturn, 1) := by decide +kernel
theorem dX10_dead_9 : decode cX10_dead 9 = .ok (.iconst 0, 1) := by decide +kernel
theorem dX10_dead_10 : decode cX10_dead 10 = .ok (.istore_n 2, 1) := by decide +kernel
theorem dX10_dead_11 : decode cX10_dead 11 = .ok (.iconst 1, 1) := by decide +kernel
theorem dX10_dead_12 : decode cX10_dead 12 = .ok (.istore_n 3, 1) := by decide +kernel
theorem dX10_dead_13 : decode cX10_dead 13 = .ok (.iload_n 3, 1) := by decide +kernel
theorem dX10_dead_14 : decode cX10_dead 14 = .ok (.aload_n 0, 1) := by decide +kernel
theorem dX10_dead_15 : decode cX10_dead 15 = .ok (.getfield 15, 3) := by decide +kernel
theorem dX10_dead_18 : decode cX10_dead 18 = .ok (.iload_n 1, 1) := by decide +kernel
theorem dX10_dead_19 : decode cX10_dead 19 = .ok (.aaload, 1) := by decide +kernel
theorem dX10_dead_20 : decode cX10_dead 20 = .ok (.getfield 94, 3) := by decide +kernel
theorem dX10_dead_23 : decode cX10_dead 23 = .ok (.if_icmp .gt 28, 3) := by decide +kernel
theorem dX10_dead_26 : decode cX10_dead 26 = .ok (.aload_n 0, 1) := by decide +kernel
theorem dX10_dead_27 : decode cX10_dead 27 = .ok (.getfield 15, 3) := by decide +kernel
theorem dX10_dead_30 : decode cX10_dead 30 = .ok (.iload_n 1, 1) := by decide +kernel
theorem dX10_dead_31 : decode cX10_dead 31 = .ok (.aaload, 1) := by decide +kernel
theorem dX10_dead_32 : decode cX10_dead 32 = .ok (.iload_n 3, 1) := by decide +kernel
theorem dX10_dead_33 : decode cX10_dead 33 = .ok (.invokevirtual 128, 3) := by decide +kernel
theorem dX10_dead_36 : decode cX10_dead 36 = .ok (.ifCond .ne 9, 3) := by decide +kernel
theorem dX10_dead_39 : decode cX10_dead 39 = .ok (.iload_n 2, 1) := by decide +kernel
theorem dX10_dead_40 : decode cX10_dead 40 = .ok (.iconst 1, 1) := by decide +kernel
theorem dX10_dead_41 : decode cX10_dead 41 = .ok (.iload_n 3, 1) := by decide +kernel
theorem dX10_dead_42 : decode cX10_dead 42 = .ok (.ishl, 1) := by decide +kernel
theorem dX10_dead_43 : decode cX10_dead 43 = .ok (.ior, 1) := by decide +kernel
theorem dX10_dead_44 : decode cX10_dead 44 = .ok (.istore_n 2, 1) := by decide +kernel
theorem dX10_dead_45 : decode cX10_dead 45 = .ok (.iinc 3 1, 3) := by decide +kernel
theorem dX10_dead_48 : decode cX10_dead 48 = .ok (.goto (-35), 3) := by decide +kernel
theorem dX10_dead_51 : decode cX10_dead 51 = .ok (.iload_n 2, 1) := by decide +kernel
theorem dX10_dead_52 : decode cX10_dead 52 = .ok (.ireturn, 1) := by decide +kernel
set_option maxRecDepth 20000 in
theorem ggX10_fewest_X10_isProgram : GoodIn wsX10_fewest wsX10_isProgram := goodIn_r _ [6] (by decide +kernel) (by decide +kernel)
set_option maxRecDepth 20000 in
theorem gX10_fewest_X10_isProgram : GoodIn wsX10_fewest (va_wsS RX10 82 yX10_isProgram wsX10_isProgram) := goodIn_app (goodIn_of _ (by decide +kernel)) ggX10_fewest_X10_isProgram
set_option maxRecDepth 20000 in
theorem ggX10_fewest_X2_howMany : GoodIn wsX10_fewest wsX2_howMany := goodIn_r _ [11, 12, 13, 14, 15, 16, 10, 17, 18, 19, 20, 21, 22, 23, 24, 25, 26, 27, 28, 29, 30, 31, 32, 33, 34, 35, 36, 37, 38, 39, 5, 40, 41, 42, 43, 44, 45, 46, 47, 48, 49, 50, 51, 52, 53, 54, 55, 56, 57, 58, 59, 60, 61, 62, 63, 77, 78, 79, 80, 81, 82, 83, 84, 85, 86, 87, 88] (by decide +kernel) (by decide +kernel)
set_option maxRecDepth 20000 in
theorem gX10_fewest_X2_howMany : GoodIn wsX10_fewest (wsV RX10 131 RX2 yX2_howMany wsX2_howMany) := goodIn_app (goodIn_of _ (by decide +kernel)) ggX10_fewest_X2_howMany
theorem dX10_fewest_0 : decode cX10_fewest 0 = .ok (.iload_n 1, 1) := by decide +kernel
theorem dX10_fewest_1 : decode cX10_fewest 1 = .ok (.invokestatic 82, 3) := by decide +kernel
theorem dX10_fewest_4 : decode cX10_fewest 4 = .ok (.ifCond .ne 5, 3) := by decide +kernel
theorem dX10_fewest_7 : decode cX10_fewest 7 = .ok (.iconst (-1), 1) := by decide +kernel
theorem dX10_fewest_8 : decode cX10_fewest 8 = .ok (.ireturn, 1) := by decide +kernel
theorem dX10_fewest_9 : decode cX10_fewest 9 = .ok (.aload_n 0, 1) := by decide +kernel
theorem dX10_fewest_10 : decode cX10_fewest 10 = .ok (.getfield 36, 3) := by decide +kernel
theorem dX10_fewest_13 : decode cX10_fewest 13 = .ok (.aload_n 0, 1) := by decide +kernel
theorem dX10_fewest_14 : decode cX10_fewest 14 = .ok (.getfield 15, 3) := by decide +kernel
theorem dX10_fewest_17 : decode cX10_fewest 17 = .ok (.iload_n 1, 1) := by decide +kernel
theorem dX10_fewest_18 : decode cX10_fewest 18 = .ok (.aaload, 1) := by decide +kernel
theorem dX10_fewest_19 : decode cX10_fewest 19 = .ok (.invokevirtual 131, 3) := by decide +kernel
theorem dX10_fewest_22 : decode cX10_fewest 22 = .ok (.ireturn, 1) := by decide +kernel
set_option maxRecDepth 20000 in
theorem ggX10_ahead_X10_isProgram : GoodIn wsX10_ahead wsX10_isProgram := goodIn_r _ [5] (by decide +kernel) (by decide +kernel)
set_option maxRecDepth 20000 in
theorem gX10_ahead_X10_isProgram : GoodIn wsX10_ahead (va_wsS RX10 82 yX10_isProgram wsX10_isProgram) := goodIn_app (goodIn_of _ (by decide +kernel)) ggX10_ahead_X10_isProgram
set_option maxRecDepth 20000 in
theorem ggX10_ahead_X6_lastsBy : GoodIn wsX10_ahead wsX6_lastsBy := goodIn_r _ [10, 11, 12, 13, 14, 9, 15, 16, 17, 18, 19, 20, 21, 22, 23, 24, 25, 39, 40, 41, 42, 43, 44, 45, 46, 47, 48] (by decide +kernel) (by decide +kernel)
set_option maxRecDepth 20000 in
theorem gX10_ahead_X6_lastsBy : GoodIn wsX10_ahead (wsV RX10 135 RX6 yX6_lastsBy wsX6_lastsBy) := goodIn_app (goodIn_of _ (by decide +kernel)) ggX10_ahead_X6_lastsBy
theorem dX10_ahead_0 : decode cX10_ahead 0 = .ok (.iload_n 1, 1) := by decide +kernel
theorem dX10_ahead_1 : decode cX10_ahead 1 = .ok (.invokestatic 82, 3) := by decide +kernel
theorem dX10_ahead_4 : decode cX10_ahead 4 = .ok (.ifCond .eq 13, 3) := by decide +kernel
theorem dX10_ahead_7 : decode cX10_ahead 7 = .ok (.iload_n 2, 1) := by decide +kernel
theorem dX10_ahead_8 : decode cX10_ahead 8 = .ok (.ifCond .lt 9, 3) := by decide +kernel
theorem dX10_ahead_11 : decode cX10_ahead 11 = .ok (.iload_n 2, 1) := by decide +kernel
theorem dX10_ahead_12 : decode cX10_ahead 12 = .ok (.bipush 15, 2) := by decide +kernel
theorem dX10_ahead_14 : decode cX10_ahead 14 = .ok (.if_icmp .le 5, 3) := by decide +kernel
theorem dX10_ahead_17 : decode cX10_ahead 17 = .ok (.iconst (-1), 1) := by decide +kernel
theorem dX10_ahead_18 : decode cX10_ahead 18 = .ok (.ireturn, 1) := by decide +kernel
theorem dX10_ahead_19 : decode cX10_ahead 19 = .ok (.iconst 0, 1) := by decide +kernel
theorem dX10_ahead_20 : decode cX10_ahead 20 = .ok (.istore_n 3, 1) := by decide +kernel
theorem dX10_ahead_21 : decode cX10_ahead 21 = .ok (.iconst 0, 1) := by decide +kernel
theorem dX10_ahead_22 : decode cX10_ahead 22 = .ok (.istore 4, 2) := by decide +kernel
theorem dX10_ahead_24 : decode cX10_ahead 24 = .ok (.iload 4, 2) := by decide +kernel
theorem dX10_ahead_26 : decode cX10_ahead 26 = .ok (.iconst 4, 1) := by decide +kernel
theorem dX10_ahead_27 : decode cX10_ahead 27 = .ok (.if_icmp .ge 35, 3) := by decide +kernel
theorem dX10_ahead_30 : decode cX10_ahead 30 = .ok (.aload_n 0, 1) := by decide +kernel
theorem dX10_ahead_31 : decode cX10_ahead 31 = .ok (.getfield 15, 3) := by decide +kernel
theorem dX10_ahead_34 : decode cX10_ahead 34 = .ok (.iload_n 1, 1) := by decide +kernel
theorem dX10_ahead_35 : decode cX10_ahead 35 = .ok (.aaload, 1) := by decide +kernel
theorem dX10_ahead_36 : decode cX10_ahead 36 = .ok (.iconst 0, 1) := by decide +kernel
theorem dX10_ahead_37 : decode cX10_ahead 37 = .ok (.iload 4, 2) := by decide +kernel
theorem dX10_ahead_39 : decode cX10_ahead 39 = .ok (.invokevirtual 135, 3) := by decide +kernel
theorem dX10_ahead_42 : decode cX10_ahead 42 = .ok (.iload_n 2, 1) := by decide +kernel
theorem dX10_ahead_43 : decode cX10_ahead 43 = .ok (.iconst (-1), 1) := by decide +kernel
theorem dX10_ahead_44 : decode cX10_ahead 44 = .ok (.ixor, 1) := by decide +kernel
theorem dX10_ahead_45 : decode cX10_ahead 45 = .ok (.iand, 1) := by decide +kernel
theorem dX10_ahead_46 : decode cX10_ahead 46 = .ok (.ifCond .ne 10, 3) := by decide +kernel
theorem dX10_ahead_49 : decode cX10_ahead 49 = .ok (.iload_n 3, 1) := by decide +kernel
theorem dX10_ahead_50 : decode cX10_ahead 50 = .ok (.iconst 1, 1) := by decide +kernel
theorem dX10_ahead_51 : decode cX10_ahead 51 = .ok (.iload 4, 2) := by decide +kernel
theorem dX10_ahead_53 : decode cX10_ahead 53 = .ok (.ishl, 1) := by decide +kernel
theorem dX10_ahead_54 : decode cX10_ahead 54 = .ok (.ior, 1) := by decide +kernel
theorem dX10_ahead_55 : decode cX10_ahead 55 = .ok (.istore_n 3, 1) := by decide +kernel
theorem dX10_ahead_56 : decode cX10_ahead 56 = .ok (.iinc 4 1, 3) := by decide +kernel
theorem dX10_ahead_59 : decode cX10_ahead 59 = .ok (.goto (-35), 3) := by decide +kernel
theorem dX10_ahead_62 : decode cX10_ahead 62 = .ok (.iload_n 3, 1) := by decide +kernel
theorem dX10_ahead_63 : decode cX10_ahead 63 = .ok (.ireturn, 1) := by decide +kernel
set_option maxRecDepth 20000 in
theorem ggX10_behind_X10_isProgram : GoodIn wsX10_behind wsX10_isProgram := goodIn_r _ [5] (by decide +kernel) (by decide +kernel)
set_option maxRecDepth 20000 in
theorem gX10_behind_X10_isProgram : GoodIn wsX10_behind (va_wsS RX10 82 yX10_isProgram wsX10_isProgram) := goodIn_app (goodIn_of _ (by decide +kernel)) ggX10_behind_X10_isProgram
set_option maxRecDepth 20000 in
theorem ggX10_behind_X10_holds : GoodIn wsX10_behind wsX10_holds := goodIn_r _ [8] (by decide +kernel) (by decide +kernel)
set_option maxRecDepth 20000 in
theorem gX10_behind_X10_holds : GoodIn wsX10_behind (va_wsS RX10 138 yX10_holds wsX10_holds) := goodIn_app (goodIn_of _ (by decide +kernel)) ggX10_behind_X10_holds
set_option maxRecDepth 20000 in
theorem ggX10_behind_X6_lastsBy : GoodIn wsX10_behind wsX6_lastsBy := goodIn_r _ [13, 14, 15, 16, 17, 12, 18, 19, 20, 21, 22, 23, 24, 25, 26, 27, 28, 42, 43, 44, 45, 46, 47, 48, 49, 50, 51] (by decide +kernel) (by decide +kernel)
set_option maxRecDepth 20000 in
theorem gX10_behind_X6_lastsBy : GoodIn wsX10_behind (wsV RX10 135 RX6 yX6_lastsBy wsX6_lastsBy) := goodIn_app (goodIn_of _ (by decide +kernel)) ggX10_behind_X6_lastsBy
theorem dX10_behind_0 : decode cX10_behind 0 = .ok (.iload_n 1, 1) := by decide +kernel
theorem dX10_behind_1 : decode cX10_behind 1 = .ok (.invokestatic 82, 3) := by decide +kernel
theorem dX10_behind_4 : decode cX10_behind 4 = .ok (.ifCond .eq 13, 3) := by decide +kernel
theorem dX10_behind_7 : decode cX10_behind 7 = .ok (.iload_n 2, 1) := by decide +kernel
theorem dX10_behind_8 : decode cX10_behind 8 = .ok (.ifCond .lt 9, 3) := by decide +kernel
theorem dX10_behind_11 : decode cX10_behind 11 = .ok (.iload_n 2, 1) := by decide +kernel
theorem dX10_behind_12 : decode cX10_behind 12 = .ok (.bipush 15, 2) := by decide +kernel
theorem dX10_behind_14 : decode cX10_behind 14 = .ok (.if_icmp .le 5, 3) := by decide +kernel
theorem dX10_behind_17 : decode cX10_behind 17 = .ok (.iconst (-1), 1) := by decide +kernel
theorem dX10_behind_18 : decode cX10_behind 18 = .ok (.ireturn, 1) := by decide +kernel
theorem dX10_behind_19 : decode cX10_behind 19 = .ok (.iconst 0, 1) := by decide +kernel
theorem dX10_behind_20 : decode cX10_behind 20 = .ok (.istore_n 3, 1) := by decide +kernel
theorem dX10_behind_21 : decode cX10_behind 21 = .ok (.iconst 0, 1) := by decide +kernel
theorem dX10_behind_22 : decode cX10_behind 22 = .ok (.istore 4, 2) := by decide +kernel
theorem dX10_behind_24 : decode cX10_behind 24 = .ok (.iload 4, 2) := by decide +kernel
theorem dX10_behind_26 : decode cX10_behind 26 = .ok (.iconst 4, 1) := by decide +kernel
theorem dX10_behind_27 : decode cX10_behind 27 = .ok (.if_icmp .ge 33, 3) := by decide +kernel
theorem dX10_behind_30 : decode cX10_behind 30 = .ok (.iload_n 2, 1) := by decide +kernel
theorem dX10_behind_31 : decode cX10_behind 31 = .ok (.iload 4, 2) := by decide +kernel
theorem dX10_behind_33 : decode cX10_behind 33 = .ok (.invokestatic 138, 3) := by decide +kernel
theorem dX10_behind_36 : decode cX10_behind 36 = .ok (.ifCond .eq 18, 3) := by decide +kernel
theorem dX10_behind_39 : decode cX10_behind 39 = .ok (.iload_n 3, 1) := by decide +kernel
theorem dX10_behind_40 : decode cX10_behind 40 = .ok (.aload_n 0, 1) := by decide +kernel
theorem dX10_behind_41 : decode cX10_behind 41 = .ok (.getfield 15, 3) := by decide +kernel
theorem dX10_behind_44 : decode cX10_behind 44 = .ok (.iload_n 1, 1) := by decide +kernel
theorem dX10_behind_45 : decode cX10_behind 45 = .ok (.aaload, 1) := by decide +kernel
theorem dX10_behind_46 : decode cX10_behind 46 = .ok (.iconst 0, 1) := by decide +kernel
theorem dX10_behind_47 : decode cX10_behind 47 = .ok (.iload 4, 2) := by decide +kernel
theorem dX10_behind_49 : decode cX10_behind 49 = .ok (.invokevirtual 135, 3) := by decide +kernel
theorem dX10_behind_52 : decode cX10_behind 52 = .ok (.ior, 1) := by decide +kernel
theorem dX10_behind_53 : decode cX10_behind 53 = .ok (.istore_n 3, 1) := by decide +kernel
theorem dX10_behind_54 : decode cX10_behind 54 = .ok (.iinc 4 1, 3) := by decide +kernel
theorem dX10_behind_57 : decode cX10_behind 57 = .ok (.goto (-33), 3) := by decide +kernel
theorem dX10_behind_60 : decode cX10_behind 60 = .ok (.iload_n 3, 1) := by decide +kernel
theorem dX10_behind_61 : decode cX10_behind 61 = .ok (.ireturn, 1) := by decide +kernel
set_option maxRecDepth 20000 in
theorem ggX10_many_X10_isProgram : GoodIn wsX10_many wsX10_isProgram := goodIn_r _ [8] (by decide +kernel) (by decide +kernel)
set_option maxRecDepth 20000 in
theorem gX10_many_X10_isProgram : GoodIn wsX10_many (va_wsS RX10 82 yX10_isProgram wsX10_isProgram) := goodIn_app (goodIn_of _ (by decide +kernel)) ggX10_many_X10_isProgram
set_option maxRecDepth 20000 in
theorem ggX10_many_X6_endings : GoodIn wsX10_many wsX6_endings := goodIn_r _ [13, 14, 15, 16, 12, 17, 18, 19, 20, 21, 22, 23, 51, 52, 53, 54, 55, 56, 57, 58, 59, 60] (by decide +kernel) (by decide +kernel)
set_option maxRecDepth 20000 in
theorem gX10_many_X6_endings : GoodIn wsX10_many (wsV RX10 142 RX6 yX6_endings wsX6_endings) := goodIn_app (goodIn_of _ (by decide +kernel)) ggX10_many_X6_endings
set_option maxRecDepth 20000 in
theorem ggX10_many_X10_lengthenWays : GoodIn wsX10_many wsX10_lengthenWays := goodIn_r _ [27, 3, 4, 28, 29, 30, 31, 32, 33, 15, 16, 12, 17, 18, 19, 20, 21, 22, 23, 34, 35, 36, 37, 51, 52, 53, 54, 55, 56, 57, 58, 59, 60, 38, 39, 40, 41, 42, 43, 44, 45, 46, 47, 48, 49, 50] (by decide +kernel) (by decide +kernel)
set_option maxRecDepth 20000 in
theorem gX10_many_X10_lengthenWays : GoodIn wsX10_many (wsV RX10 145 RX10 yX10_lengthenWays wsX10_lengthenWays) := goodIn_app (goodIn_of _ (by decide +kernel)) ggX10_many_X10_lengthenWays
theorem dX10_many_0 : decode cX10_many 0 = .ok (.iload_n 1, 1) := by decide +kernel
theorem dX10_many_1 : decode cX10_many 1 = .ok (.invokestatic 82, 3) := by decide +kernel
theorem dX10_many_4 : decode cX10_many 4 = .ok (.ifCond .eq 13, 3) := by decide +kernel
theorem dX10_many_7 : decode cX10_many 7 = .ok (.iload_n 2, 1) := by decide +kernel
theorem dX10_many_8 : decode cX10_many 8 = .ok (.ifCond .lt 9, 3) := by decide +kernel
theorem dX10_many_11 : decode cX10_many 11 = .ok (.iload_n 2, 1) := by decide +kernel
theorem dX10_many_12 : decode cX10_many 12 = .ok (.bipush 14, 2) := by decide +kernel
theorem dX10_many_14 : decode cX10_many 14 = .ok (.if_icmp .le 7, 3) := by decide +kernel
theorem dX10_many_17 : decode cX10_many 17 = .ok (.ldc2_w 115, 3) := by decide +kernel
theorem dX10_many_20 : decode cX10_many 20 = .ok (.lreturn, 1) := by decide +kernel
theorem dX10_many_21 : decode cX10_many 21 = .ok (.aload_n 0, 1) := by decide +kernel
theorem dX10_many_22 : decode cX10_many 22 = .ok (.getfield 15, 3) := by decide +kernel
theorem dX10_many_25 : decode cX10_many 25 = .ok (.iload_n 1, 1) := by decide +kernel
theorem dX10_many_26 : decode cX10_many 26 = .ok (.aaload, 1) := by decide +kernel
theorem dX10_many_27 : decode cX10_many 27 = .ok (.astore_n 3, 1) := by decide +kernel
theorem dX10_many_28 : decode cX10_many 28 = .ok (.iconst 0, 1) := by decide +kernel
theorem dX10_many_29 : decode cX10_many 29 = .ok (.istore 4, 2) := by decide +kernel
theorem dX10_many_31 : decode cX10_many 31 = .ok (.iload 4, 2) := by decide +kernel
theorem dX10_many_33 : decode cX10_many 33 = .ok (.aload_n 3, 1) := by decide +kernel
theorem dX10_many_34 : decode cX10_many 34 = .ok (.getfield 94, 3) := by decide +kernel
theorem dX10_many_37 : decode cX10_many 37 = .ok (.if_icmp .gt 23, 3) := by decide +kernel
theorem dX10_many_40 : decode cX10_many 40 = .ok (.aload_n 0, 1) := by decide +kernel
theorem dX10_many_41 : decode cX10_many 41 = .ok (.getfield 70, 3) := by decide +kernel
theorem dX10_many_44 : decode cX10_many 44 = .ok (.iload 4, 2) := by decide +kernel
theorem dX10_many_46 : decode cX10_many 46 = .ok (.aload_n 3, 1) := by decide +kernel
theorem dX10_many_47 : decode cX10_many 47 = .ok (.iload 4, 2) := by decide +kernel
theorem dX10_many_49 : decode cX10_many 49 = .ok (.invokevirtual 142, 3) := by decide +kernel
theorem dX10_many_52 : decode cX10_many 52 = .ok (.i2l, 1) := by decide +kernel
theorem dX10_many_53 : decode cX10_many 53 = .ok (.lastore, 1) := by decide +kernel
theorem dX10_many_54 : decode cX10_many 54 = .ok (.iinc 4 1, 3) := by decide +kernel
theorem dX10_many_57 : decode cX10_many 57 = .ok (.goto (-26), 3) := by decide +kernel
theorem dX10_many_60 : decode cX10_many 60 = .ok (.iconst 1, 1) := by decide +kernel
theorem dX10_many_61 : decode cX10_many 61 = .ok (.istore 4, 2) := by decide +kernel
theorem dX10_many_63 : decode cX10_many 63 = .ok (.iload 4, 2) := by decide +kernel
theorem dX10_many_65 : decode cX10_many 65 = .ok (.iload_n 2, 1) := by decide +kernel
theorem dX10_many_66 : decode cX10_many 66 = .ok (.if_icmp .gt 14, 3) := by decide +kernel
theorem dX10_many_69 : decode cX10_many 69 = .ok (.aload_n 0, 1) := by decide +kernel
theorem dX10_many_70 : decode cX10_many 70 = .ok (.aload_n 3, 1) := by decide +kernel
theorem dX10_many_71 : decode cX10_many 71 = .ok (.invokevirtual 145, 3) := by decide +kernel
theorem dX10_many_74 : decode cX10_many 74 = .ok (.iinc 4 1, 3) := by decide +kernel
theorem dX10_many_77 : decode cX10_many 77 = .ok (.goto (-14), 3) := by decide +kernel
theorem dX10_many_80 : decode cX10_many 80 = .ok (.aload_n 0, 1) := by decide +kernel
theorem dX10_many_81 : decode cX10_many 81 = .ok (.getfield 70, 3) := by decide +kernel
theorem dX10_many_84 : decode cX10_many 84 = .ok (.iconst 0, 1) := by decide +kernel
theorem dX10_many_85 : decode cX10_many 85 = .ok (.laload, 1) := by decide +kernel
theorem dX10_many_86 : decode cX10_many 86 = .ok (.lreturn, 1) := by decide +kernel
set_option maxRecDepth 20000 in
theorem ggX10_lets_X10_isProgram : GoodIn wsX10_lets wsX10_isProgram := goodIn_r _ [7] (by decide +kernel) (by decide +kernel)
set_option maxRecDepth 20000 in
theorem gX10_lets_X10_isProgram : GoodIn wsX10_lets (va_wsS RX10 82 yX10_isProgram wsX10_isProgram) := goodIn_app (goodIn_of _ (by decide +kernel)) ggX10_lets_X10_isProgram
set_option maxRecDepth 20000 in
theorem ggX10_lets_X10_takeRow : GoodIn wsX10_lets wsX10_takeRow := goodIn_r _ [11, 12, 13, 14, 39, 40, 41, 42, 43, 44, 45, 46, 47, 48, 49, 50, 51] (by decide +kernel) (by decide +kernel)
set_option maxRecDepth 20000 in
theorem gX10_lets_X10_takeRow : GoodIn wsX10_lets (wsV RX10 149 RX10 yX10_takeRow wsX10_takeRow) := goodIn_app (goodIn_of _ (by decide +kernel)) ggX10_lets_X10_takeRow
set_option maxRecDepth 20000 in
theorem ggX10_lets_X10_follow : GoodIn wsX10_lets wsX10_follow := goodIn_r _ [18, 2, 12, 3, 19, 20, 21, 22, 23, 24, 25, 26, 27, 28, 29, 30, 31, 32, 33, 34, 35, 36, 37, 38, 39, 40, 41, 42, 43, 44, 45, 46, 47, 48, 49, 50, 51, 52, 53, 54, 55, 56, 57, 58, 59, 60, 61] (by decide +kernel) (by decide +kernel)
set_option maxRecDepth 20000 in
theorem gX10_lets_X10_follow : GoodIn wsX10_lets (wsV RX10 153 RX10 yX10_follow wsX10_follow) := goodIn_app (goodIn_of _ (by decide +kernel)) ggX10_lets_X10_follow
theorem dX10_lets_0 : decode cX10_lets 0 = .ok (.iload_n 1, 1) := by decide +kernel
theorem dX10_lets_1 : decode cX10_lets 1 = .ok (.invokestatic 82, 3) := by decide +kernel
theorem dX10_lets_4 : decode cX10_lets 4 = .ok (.ifCond .eq 12, 3) := by decide +kernel
theorem dX10_lets_7 : decode cX10_lets 7 = .ok (.aload_n 0, 1) := by decide +kernel
theorem dX10_lets_8 : decode cX10_lets 8 = .ok (.iload_n 2, 1) := by decide +kernel
theorem dX10_lets_9 : decode cX10_lets 9 = .ok (.lload_n 3, 1) := by decide +kernel
theorem dX10_lets_10 : decode cX10_lets 10 = .ok (.invokevirtual 149, 3) := by decide +kernel
theorem dX10_lets_13 : decode cX10_lets 13 = .ok (.ifCond .ne 5, 3) := by decide +kernel
theorem dX10_lets_16 : decode cX10_lets 16 = .ok (.iconst (-1), 1) := by decide +kernel
theorem dX10_lets_17 : decode cX10_lets 17 = .ok (.ireturn, 1) := by decide +kernel
theorem dX10_lets_18 : decode cX10_lets 18 = .ok (.aload_n 0, 1) := by decide +kernel
theorem dX10_lets_19 : decode cX10_lets 19 = .ok (.aload_n 0, 1) := by decide +kernel
theorem dX10_lets_20 : decode cX10_lets 20 = .ok (.getfield 15, 3) := by decide +kernel
theorem dX10_lets_23 : decode cX10_lets 23 = .ok (.iload_n 1, 1) := by decide +kernel
theorem dX10_lets_24 : decode cX10_lets 24 = .ok (.aaload, 1) := by decide +kernel
theorem dX10_lets_25 : decode cX10_lets 25 = .ok (.iload_n 2, 1) := by decide +kernel
theorem dX10_lets_26 : decode cX10_lets 26 = .ok (.invokevirtual 153, 3) := by decide +kernel
theorem dX10_lets_29 : decode cX10_lets 29 = .ok (.aload_n 0, 1) := by decide +kernel
theorem dX10_lets_30 : decode cX10_lets 30 = .ok (.getfield 157, 3) := by decide +kernel
theorem dX10_lets_33 : decode cX10_lets 33 = .ok (.iload_n 2, 1) := by decide +kernel
theorem dX10_lets_34 : decode cX10_lets 34 = .ok (.if_icmp .ne 14, 3) := by decide +kernel
theorem dX10_lets_37 : decode cX10_lets 37 = .ok (.aload_n 0, 1) := by decide +kernel
theorem dX10_lets_38 : decode cX10_lets 38 = .ok (.getfield 160, 3) := by decide +kernel
theorem dX10_lets_41 : decode cX10_lets 41 = .ok (.ifCond .ne 7, 3) := by decide +kernel
theorem dX10_lets_44 : decode cX10_lets 44 = .ok (.iconst 1, 1) := by decide +kernel
theorem dX10_lets_45 : decode cX10_lets 45 = .ok (.goto 4, 3) := by decide +kernel
theorem dX10_lets_48 : decode cX10_lets 48 = .ok (.iconst 0, 1) := by decide +kernel
theorem dX10_lets_49 : decode cX10_lets 49 = .ok (.ireturn, 1) := by decide +kernel
set_option maxRecDepth 20000 in
theorem ggX10_walk_X10_isProgram : GoodIn wsX10_walk wsX10_isProgram := goodIn_r _ [7] (by decide +kernel) (by decide +kernel)
set_option maxRecDepth 20000 in
theorem gX10_walk_X10_isProgram : GoodIn wsX10_walk (va_wsS RX10 82 yX10_isProgram wsX10_isProgram) := goodIn_app (goodIn_of _ (by decide +kernel)) ggX10_walk_X10_isProgram
set_option maxRecDepth 20000 in
theorem ggX10_walk_X10_takeRow : GoodIn wsX10_walk wsX10_takeRow := goodIn_r _ [11, 12, 13, 14, 39, 40, 41, 42, 43, 44, 45, 46, 47, 48, 49, 50, 51] (by decide +kernel) (by decide +kernel)
set_option maxRecDepth 20000 in
theorem gX10_walk_X10_takeRow : GoodIn wsX10_walk (wsV RX10 149 RX10 yX10_takeRow wsX10_takeRow) := goodIn_app (goodIn_of _ (by decide +kernel)) ggX10_walk_X10_takeRow
set_option maxRecDepth 20000 in
theorem ggX10_walk_X10_follow : GoodIn wsX10_walk wsX10_follow := goodIn_r _ [18, 2, 12, 3, 19, 20, 21, 22, 23, 24, 25, 26, 27, 28, 29, 30, 31, 32, 33, 34, 35, 36, 37, 38, 39, 40, 41, 42, 43, 44, 45, 46, 47, 48, 49, 50, 51, 52, 53, 54, 55, 56, 57, 58, 59, 60, 61] (by decide +kernel) (by decide +kernel)
set_option maxRecDepth 20000 in
theorem gX10_walk_X10_follow : GoodIn wsX10_walk (wsV RX10 153 RX10 yX10_follow wsX10_follow) := goodIn_app (goodIn_of _ (by decide +kernel)) ggX10_walk_X10_follow
theorem dX10_walk_0 : decode cX10_walk 0 = .ok (.iload_n 1, 1) := by decide +kernel
theorem dX10_walk_1 : decode cX10_walk 1 = .ok (.invokestatic 82, 3) := by decide +kernel
theorem dX10_walk_4 : decode cX10_walk 4 = .ok (.ifCond .eq 23, 3) := by decide +kernel
theorem dX10_walk_7 : decode cX10_walk 7 = .ok (.aload_n 0, 1) := by decide +kernel
theorem dX10_walk_8 : decode cX10_walk 8 = .ok (.iload_n 2, 1) := by decide +kernel
theorem dX10_walk_9 : decode cX10_walk 9 = .ok (.lload_n 3, 1) := by decide +kernel
theorem dX10_walk_10 : decode cX10_walk 10 = .ok (.invokevirtual 149, 3) := by decide +kernel
theorem dX10_walk_13 : decode cX10_walk 13 = .ok (.ifCond .eq 14, 3) := by decide +kernel
theorem dX10_walk_16 : decode cX10_walk 16 = .ok (.iload 5, 2) := by decide +kernel
theorem dX10_walk_18 : decode cX10_walk 18 = .ok (.ifCond .lt 9, 3) := by decide +kernel
theorem dX10_walk_21 : decode cX10_walk 21 = .ok (.iload 5, 2) := by decide +kernel
theorem dX10_walk_23 : decode cX10_walk 23 = .ok (.iconst 1, 1) := by decide +kernel
theorem dX10_walk_24 : decode cX10_walk 24 = .ok (.if_icmp .le 5, 3) := by decide +kernel
theorem dX10_walk_27 : decode cX10_walk 27 = .ok (.iconst (-1), 1) := by decide +kernel
theorem dX10_walk_28 : decode cX10_walk 28 = .ok (.ireturn, 1) := by decide +kernel
theorem dX10_walk_29 : decode cX10_walk 29 = .ok (.aload_n 0, 1) := by decide +kernel
theorem dX10_walk_30 : decode cX10_walk 30 = .ok (.aload_n 0, 1) := by decide +kernel
theorem dX10_walk_31 : decode cX10_walk 31 = .ok (.getfield 15, 3) := by decide +kernel
theorem dX10_walk_34 : decode cX10_walk 34 = .ok (.iload_n 1, 1) := by decide +kernel
theorem dX10_walk_35 : decode cX10_walk 35 = .ok (.aaload, 1) := by decide +kernel
theorem dX10_walk_36 : decode cX10_walk 36 = .ok (.iload_n 2, 1) := by decide +kernel
theorem dX10_walk_37 : decode cX10_walk 37 = .ok (.invokevirtual 153, 3) := by decide +kernel
theorem dX10_walk_40 : decode cX10_walk 40 = .ok (.iload 5, 2) := by decide +kernel
theorem dX10_walk_42 : decode cX10_walk 42 = .ok (.ifCond .ne 10, 3) := by decide +kernel
theorem dX10_walk_45 : decode cX10_walk 45 = .ok (.aload_n 0, 1) := by decide +kernel
theorem dX10_walk_46 : decode cX10_walk 46 = .ok (.getfield 157, 3) := by decide +kernel
theorem dX10_walk_49 : decode cX10_walk 49 = .ok (.goto 7, 3) := by decide +kernel
theorem dX10_walk_52 : decode cX10_walk 52 = .ok (.aload_n 0, 1) := by decide +kernel
theorem dX10_walk_53 : decode cX10_walk 53 = .ok (.getfield 160, 3) := by decide +kernel
theorem dX10_walk_56 : decode cX10_walk 56 = .ok (.ireturn, 1) := by decide +kernel
set_option maxRecDepth 20000 in
theorem ggX10_size_X10_isProgram : GoodIn wsX10_size wsX10_isProgram := goodIn_r _ [9] (by decide +kernel) (by decide +kernel)
set_option maxRecDepth 20000 in
theorem gX10_size_X10_isProgram : GoodIn wsX10_size (va_wsS RX10 82 yX10_isProgram wsX10_isProgram) := goodIn_app (goodIn_of _ (by decide +kernel)) ggX10_size_X10_isProgram
set_option maxRecDepth 20000 in
theorem ggX10_size_X6_numberOf : GoodIn wsX10_size wsX6_numberOf := goodIn_r _ [14, 15, 16, 17, 18, 19, 20, 13, 21, 22, 23, 24, 25, 26, 27, 28, 29, 30, 31, 32, 33, 34, 90, 91, 92, 93, 94, 95, 96, 97, 98, 99] (by decide +kernel) (by decide +kernel)
set_option maxRecDepth 20000 in
theorem gX10_size_X6_numberOf : GoodIn wsX10_size (wsV RX10 169 RX6 yX6_numberOf wsX6_numberOf) := goodIn_app (goodIn_of _ (by decide +kernel)) ggX10_size_X6_numberOf
set_option maxRecDepth 20000 in
theorem ggX10_size_X0_weigh : GoodIn wsX10_size wsX0_weigh := goodIn_r _ [41, 42, 43, 44, 36, 45, 46, 47, 48, 49, 100] (by decide +kernel) (by decide +kernel)
set_option maxRecDepth 20000 in
theorem gX10_size_X0_weigh_u172X0 : GoodIn wsX10_size (va_wsO RX10 172 RX0 "TestedLoops$Part" ⟨"TestedLoops$Part", "weigh", "(ILTestedLoops$Trace;)I"⟩ yX0_weigh wsX0_weigh) := goodIn_app (goodIn_of _ (by decide +kernel)) ggX10_size_X0_weigh
set_option maxRecDepth 20000 in
theorem ggX10_size_X1_weigh : GoodIn wsX10_size wsX1_weigh := goodIn_r _ [53, 54, 55, 56, 36, 57, 46, 47, 48, 49, 100] (by decide +kernel) (by decide +kernel)
set_option maxRecDepth 20000 in
theorem gX10_size_X1_weigh_u172X1 : GoodIn wsX10_size (va_wsO RX10 172 RX1 "TestedLoops$Part" ⟨"TestedLoops$Part", "weigh", "(ILTestedLoops$Trace;)I"⟩ yX1_weigh wsX1_weigh) := goodIn_app (goodIn_of _ (by decide +kernel)) ggX10_size_X1_weigh
set_option maxRecDepth 20000 in
theorem ggX10_size_X3_weigh : GoodIn wsX10_size wsX3_weigh := goodIn_r _ [61, 62, 63, 64, 65, 66, 51, 52, 53, 54, 55, 56, 36, 57, 46, 47, 48, 49, 100] (by decide +kernel) (by decide +kernel)
set_option maxRecDepth 20000 in
theorem gX10_size_X3_weigh_u172X3 : GoodIn wsX10_size (va_wsO RX10 172 RX3 "TestedLoops$Part" ⟨"TestedLoops$Part", "weigh", "(ILTestedLoops$Trace;)I"⟩ yX3_weigh wsX3_weigh) := goodIn_app (goodIn_of _ (by decide +kernel)) ggX10_size_X3_weigh
set_option maxRecDepth 20000 in
theorem ggX10_size_X5_weigh : GoodIn wsX10_size wsX5_weigh := goodIn_r _ [48, 49, 100] (by decide +kernel) (by decide +kernel)
set_option maxRecDepth 20000 in
theorem gX10_size_X5_weigh : GoodIn wsX10_size (wsV RX10 172 RX5 yX5_weigh wsX5_weigh) := goodIn_app (goodIn_of _ (by decide +kernel)) ggX10_size_X5_weigh
set_option maxRecDepth 20000 in
theorem ggX10_size_X9_weigh : GoodIn wsX10_size wsX9_weigh := goodIn_r _ [72, 73, 74, 75, 36, 76, 46, 47, 48, 49, 100] (by decide +kernel) (by decide +kernel)
set_option maxRecDepth 20000 in
theorem gX10_size_X9_weigh_u172X9 : GoodIn wsX10_size (va_wsO RX10 172 RX9 "TestedLoops$Part" ⟨"TestedLoops$Part", "weigh", "(ILTestedLoops$Trace;)I"⟩ yX9_weigh wsX9_weigh) := goodIn_app (goodIn_of _ (by decide +kernel)) ggX10_size_X9_weigh
theorem dX10_size_0 : decode cX10_size 0 = .ok (.iload_n 1, 1) := by decide +kernel
theorem dX10_size_1 : decode cX10_size 1 = .ok (.invokestatic 82, 3) := by decide +kernel
theorem dX10_size_4 : decode cX10_size 4 = .ok (.ifCond .ne 5, 3) := by decide +kernel
theorem dX10_size_7 : decode cX10_size 7 = .ok (.iconst (-1), 1) := by decide +kernel
theorem dX10_size_8 : decode cX10_size 8 = .ok (.ireturn, 1) := by decide +kernel
theorem dX10_size_9 : decode cX10_size 9 = .ok (.aload_n 0, 1) := by decide +kernel
theorem dX10_size_10 : decode cX10_size 10 = .ok (.getfield 15, 3) := by decide +kernel
theorem dX10_size_13 : decode cX10_size 13 = .ok (.iload_n 1, 1) := by decide +kernel
theorem dX10_size_14 : decode cX10_size 14 = .ok (.aaload, 1) := by decide +kernel
theorem dX10_size_15 : decode cX10_size 15 = .ok (.astore_n 2, 1) := by decide +kernel
theorem dX10_size_16 : decode cX10_size 16 = .ok (.iconst 0, 1) := by decide +kernel
theorem dX10_size_17 : decode cX10_size 17 = .ok (.istore_n 3, 1) := by decide +kernel
theorem dX10_size_18 : decode cX10_size 18 = .ok (.iconst 0, 1) := by decide +kernel
theorem dX10_size_19 : decode cX10_size 19 = .ok (.istore 4, 2) := by decide +kernel
theorem dX10_size_21 : decode cX10_size 21 = .ok (.iload 4, 2) := by decide +kernel
theorem dX10_size_23 : decode cX10_size 23 = .ok (.aload_n 2, 1) := by decide +kernel
theorem dX10_size_24 : decode cX10_size 24 = .ok (.getfield 163, 3) := by decide +kernel
theorem dX10_size_27 : decode cX10_size 27 = .ok (.if_icmp .ge 56, 3) := by decide +kernel
theorem dX10_size_30 : decode cX10_size 30 = .ok (.aload_n 2, 1) := by decide +kernel
theorem dX10_size_31 : decode cX10_size 31 = .ok (.getfield 166, 3) := by decide +kernel
theorem dX10_size_34 : decode cX10_size 34 = .ok (.iload 4, 2) := by decide +kernel
theorem dX10_size_36 : decode cX10_size 36 = .ok (.iaload, 1) := by decide +kernel
theorem dX10_size_37 : decode cX10_size 37 = .ok (.istore 5, 2) := by decide +kernel
theorem dX10_size_39 : decode cX10_size 39 = .ok (.iload 5, 2) := by decide +kernel
theorem dX10_size_41 : decode cX10_size 41 = .ok (.ifCond .lt 36, 3) := by decide +kernel
theorem dX10_size_44 : decode cX10_size 44 = .ok (.iload 5, 2) := by decide +kernel
theorem dX10_size_46 : decode cX10_size 46 = .ok (.aload_n 0, 1) := by decide +kernel
theorem dX10_size_47 : decode cX10_size 47 = .ok (.getfield 55, 3) := by decide +kernel
theorem dX10_size_50 : decode cX10_size 50 = .ok (.arraylength, 1) := by decide +kernel
theorem dX10_size_51 : decode cX10_size 51 = .ok (.if_icmp .ge 26, 3) := by decide +kernel
theorem dX10_size_54 : decode cX10_size 54 = .ok (.iload_n 3, 1) := by decide +kernel
theorem dX10_size_55 : decode cX10_size 55 = .ok (.aload_n 0, 1) := by decide +kernel
theorem dX10_size_56 : decode cX10_size 56 = .ok (.getfield 55, 3) := by decide +kernel
theorem dX10_size_59 : decode cX10_size 59 = .ok (.iload 5, 2) := by decide +kernel
theorem dX10_size_61 : decode cX10_size 61 = .ok (.aaload, 1) := by decide +kernel
theorem dX10_size_62 : decode cX10_size 62 = .ok (.aload_n 2, 1) := by decide +kernel
theorem dX10_size_63 : decode cX10_size 63 = .ok (.iload 4, 2) := by decide +kernel
theorem dX10_size_65 : decode cX10_size 65 = .ok (.invokevirtual 169, 3) := by decide +kernel
theorem dX10_size_68 : decode cX10_size 68 = .ok (.aload_n 0, 1) := by decide +kernel
theorem dX10_size_69 : decode cX10_size 69 = .ok (.getfield 62, 3) := by decide +kernel
theorem dX10_size_72 : decode cX10_size 72 = .ok (.invokevirtual 172, 3) := by decide +kernel
theorem dX10_size_75 : decode cX10_size 75 = .ok (.iadd, 1) := by decide +kernel
theorem dX10_size_76 : decode cX10_size 76 = .ok (.istore_n 3, 1) := by decide +kernel
theorem dX10_size_77 : decode cX10_size 77 = .ok (.iinc 4 1, 3) := by decide +kernel
theorem dX10_size_80 : decode cX10_size 80 = .ok (.goto (-59), 3) := by decide +kernel
theorem dX10_size_83 : decode cX10_size 83 = .ok (.iload_n 3, 1) := by decide +kernel
theorem dX10_size_84 : decode cX10_size 84 = .ok (.ireturn, 1) := by decide +kernel
theorem dX10_count_0 : decode cX10_count 0 = .ok (.iload_n 1, 1) := by decide +kernel
theorem dX10_count_1 : decode cX10_count 1 = .ok (.iconst 1, 1) := by decide +kernel
theorem dX10_count_2 : decode cX10_count 2 = .ok (.if_icmp .ne 8, 3) := by decide +kernel
theorem dX10_count_5 : decode cX10_count 5 = .ok (.aload_n 0, 1) := by decide +kernel
theorem dX10_count_6 : decode cX10_count 6 = .ok (.getfield 78, 3) := by decide +kernel
theorem dX10_count_9 : decode cX10_count 9 = .ok (.ireturn, 1) := by decide +kernel
theorem dX10_count_10 : decode cX10_count 10 = .ok (.iload_n 1, 1) := by decide +kernel
theorem dX10_count_11 : decode cX10_count 11 = .ok (.ifCond .eq 5, 3) := by decide +kernel
theorem dX10_count_14 : decode cX10_count 14 = .ok (.iconst (-1), 1) := by decide +kernel
theorem dX10_count_15 : decode cX10_count 15 = .ok (.ireturn, 1) := by decide +kernel
theorem dX10_count_16 : decode cX10_count 16 = .ok (.iconst 0, 1) := by decide +kernel
theorem dX10_count_17 : decode cX10_count 17 = .ok (.istore_n 2, 1) := by decide +kernel
theorem dX10_count_18 : decode cX10_count 18 = .ok (.iconst 0, 1) := by decide +kernel
theorem dX10_count_19 : decode cX10_count 19 = .ok (.istore_n 3, 1) := by decide +kernel
theorem dX10_count_20 : decode cX10_count 20 = .ok (.iload_n 3, 1) := by decide +kernel
theorem dX10_count_21 : decode cX10_count 21 = .ok (.iconst 4, 1) := by decide +kernel
theorem dX10_count_22 : decode cX10_count 22 = .ok (.if_icmp .ge 21, 3) := by decide +kernel
theorem dX10_count_25 : decode cX10_count 25 = .ok (.iload_n 2, 1) := by decide +kernel
theorem dX10_count_26 : decode cX10_count 26 = .ok (.aload_n 0, 1) := by decide +kernel
theorem dX10_count_27 : decode cX10_count 27 = .ok (.getfield 15, 3) := by decide +kernel
theorem dX10_count_30 : decode cX10_count 30 = .ok (.iload_n 3, 1) := by decide +kernel
theorem dX10_count_31 : decode cX10_count 31 = .ok (.aaload, 1) := by decide +kernel
theorem dX10_count_32 : decode cX10_count 32 = .ok (.getfield 94, 3) := by decide +kernel
theorem dX10_count_35 : decode cX10_count 35 = .ok (.iadd, 1) := by decide +kernel
theorem dX10_count_36 : decode cX10_count 36 = .ok (.istore_n 2, 1) := by decide +kernel
theorem dX10_count_37 : decode cX10_count 37 = .ok (.iinc 3 1, 3) := by decide +kernel
theorem dX10_count_40 : decode cX10_count 40 = .ok (.goto (-20), 3) := by decide +kernel
theorem dX10_count_43 : decode cX10_count 43 = .ok (.iload_n 2, 1) := by decide +kernel
theorem dX10_count_44 : decode cX10_count 44 = .ok (.ireturn, 1) := by decide +kernel
theorem dX10_trace_0 : decode cX10_trace 0 = .ok (.aload_n 0, 1) := by decide +kernel
theorem dX10_trace_1 : decode cX10_trace 1 = .ok (.getfield 62, 3) := by decide +kernel
theorem dX10_trace_4 : decode cX10_trace 4 = .ok (.getfield 176, 3) := by decide +kernel
theorem dX10_trace_7 : decode cX10_trace 7 = .ok (.lreturn, 1) := by decide +kernel
theorem dX10_isProgram_0 : decode cX10_isProgram 0 = .ok (.iload_n 0, 1) := by decide +kernel
theorem dX10_isProgram_1 : decode cX10_isProgram 1 = .ok (.ifCond .lt 12, 3) := by decide +kernel
theorem dX10_isProgram_4 : decode cX10_isProgram 4 = .ok (.iload_n 0, 1) := by decide +kernel
theorem dX10_isProgram_5 : decode cX10_isProgram 5 = .ok (.iconst 4, 1) := by decide +kernel
theorem dX10_isProgram_6 : decode cX10_isProgram 6 = .ok (.if_icmp .ge 7, 3) := by decide +kernel
theorem dX10_isProgram_9 : decode cX10_isProgram 9 = .ok (.iconst 1, 1) := by decide +kernel
theorem dX10_isProgram_10 : decode cX10_isProgram 10 = .ok (.goto 4, 3) := by decide +kernel
theorem dX10_isProgram_13 : decode cX10_isProgram 13 = .ok (.iconst 0, 1) := by decide +kernel
theorem dX10_isProgram_14 : decode cX10_isProgram 14 = .ok (.ireturn, 1) := by decide +kernel
theorem dX10_holds_0 : decode cX10_holds 0 = .ok (.iload_n 0, 1) := by decide +kernel
theorem dX10_holds_1 : decode cX10_holds 1 = .ok (.iload_n 1, 1) := by decide +kernel
theorem dX10_holds_2 : decode cX10_holds 2 = .ok (.ishr, 1) := by decide +kernel
theorem dX10_holds_3 : decode cX10_holds 3 = .ok (.iconst 1, 1) := by decide +kernel
theorem dX10_holds_4 : decode cX10_holds 4 = .ok (.iand, 1) := by decide +kernel
theorem dX10_holds_5 : decode cX10_holds 5 = .ok (.iconst 1, 1) := by decide +kernel
theorem dX10_holds_6 : decode cX10_holds 6 = .ok (.if_icmp .ne 7, 3) := by decide +kernel
theorem dX10_holds_9 : decode cX10_holds 9 = .ok (.iconst 1, 1) := by decide +kernel
theorem dX10_holds_10 : decode cX10_holds 10 = .ok (.goto 4, 3) := by decide +kernel
theorem dX10_holds_13 : decode cX10_holds 13 = .ok (.iconst 0, 1) := by decide +kernel
theorem dX10_holds_14 : decode cX10_holds 14 = .ok (.ireturn, 1) := by decide +kernel
set_option maxRecDepth 20000 in
theorem ggX10_lengthenWays_X6_goes : GoodIn wsX10_lengthenWays wsX6_goes := goodIn_r _ [12, 13, 14, 15, 16, 11, 17, 18, 23, 24, 25, 26, 27, 28, 29, 30, 31, 32] (by decide +kernel) (by decide +kernel)
set_option maxRecDepth 20000 in
theorem gX10_lengthenWays_X6_goes : GoodIn wsX10_lengthenWays (wsV RX10 100 RX6 yX6_goes wsX6_goes) := goodIn_app (goodIn_of _ (by decide +kernel)) ggX10_lengthenWays_X6_goes
set_option maxRecDepth 20000 in
theorem ggX10_lengthenWays_X6_isPlace : GoodIn wsX10_lengthenWays wsX6_isPlace := goodIn_r _ [22, 18, 23, 24, 25, 26, 27, 28, 29, 30, 31, 32] (by decide +kernel) (by decide +kernel)
set_option maxRecDepth 20000 in
theorem gX10_lengthenWays_X6_isPlace : GoodIn wsX10_lengthenWays (wsV RX10 108 RX6 yX6_isPlace wsX6_isPlace) := goodIn_app (goodIn_of _ (by decide +kernel)) ggX10_lengthenWays_X6_isPlace
theorem dX10_lengthenWays_0 : decode cX10_lengthenWays 0 = .ok (.iconst 0, 1) := by decide +kernel
theorem dX10_lengthenWays_1 : decode cX10_lengthenWays 1 = .ok (.istore_n 2, 1) := by decide +kernel
theorem dX10_lengthenWays_2 : decode cX10_lengthenWays 2 = .ok (.iload_n 2, 1) := by decide +kernel
theorem dX10_lengthenWays_3 : decode cX10_lengthenWays 3 = .ok (.aload_n 1, 1) := by decide +kernel
theorem dX10_lengthenWays_4 : decode cX10_lengthenWays 4 = .ok (.getfield 94, 3) := by decide +kernel
theorem dX10_lengthenWays_7 : decode cX10_lengthenWays 7 = .ok (.if_icmp .gt 65, 3) := by decide +kernel
theorem dX10_lengthenWays_10 : decode cX10_lengthenWays 10 = .ok (.lconst 0, 1) := by decide +kernel
theorem dX10_lengthenWays_11 : decode cX10_lengthenWays 11 = .ok (.lstore_n 3, 1) := by decide +kernel
theorem dX10_lengthenWays_12 : decode cX10_lengthenWays 12 = .ok (.iconst 0, 1) := by decide +kernel
theorem dX10_lengthenWays_13 : decode cX10_lengthenWays 13 = .ok (.istore 5, 2) := by decide +kernel
theorem dX10_lengthenWays_15 : decode cX10_lengthenWays 15 = .ok (.iload 5, 2) := by decide +kernel
theorem dX10_lengthenWays_17 : decode cX10_lengthenWays 17 = .ok (.iconst 4, 1) := by decide +kernel
theorem dX10_lengthenWays_18 : decode cX10_lengthenWays 18 = .ok (.if_icmp .ge 41, 3) := by decide +kernel
theorem dX10_lengthenWays_21 : decode cX10_lengthenWays 21 = .ok (.aload_n 1, 1) := by decide +kernel
theorem dX10_lengthenWays_22 : decode cX10_lengthenWays 22 = .ok (.iload_n 2, 1) := by decide +kernel
theorem dX10_lengthenWays_23 : decode cX10_lengthenWays 23 = .ok (.iload 5, 2) := by decide +kernel
theorem dX10_lengthenWays_25 : decode cX10_lengthenWays 25 = .ok (.invokevirtual 100, 3) := by decide +kernel
theorem dX10_lengthenWays_28 : decode cX10_lengthenWays 28 = .ok (.istore 6, 2) := by decide +kernel
theorem dX10_lengthenWays_30 : decode cX10_lengthenWays 30 = .ok (.lload_n 3, 1) := by decide +kernel
theorem dX10_lengthenWays_31 : decode cX10_lengthenWays 31 = .ok (.aload_n 1, 1) := by decide +kernel
theorem dX10_lengthenWays_32 : decode cX10_lengthenWays 32 = .ok (.iload 6, 2) := by decide +kernel
theorem dX10_lengthenWays_34 : decode cX10_lengthenWays 34 = .ok (.invokevirtual 108, 3) := by decide +kernel
theorem dX10_lengthenWays_37 : decode cX10_lengthenWays 37 = .ok (.ifCond .eq 13, 3) := by decide +kernel
theorem dX10_lengthenWays_40 : decode cX10_lengthenWays 40 = .ok (.aload_n 0, 1) := by decide +kernel
theorem dX10_lengthenWays_41 : decode cX10_lengthenWays 41 = .ok (.getfield 70, 3) := by decide +kernel
theorem dX10_lengthenWays_44 : decode cX10_lengthenWays 44 = .ok (.iload 6, 2) := by decide +kernel
theorem dX10_lengthenWays_46 : decode cX10_lengthenWays 46 = .ok (.laload, 1) := by decide +kernel
theorem dX10_lengthenWays_47 : decode cX10_lengthenWays 47 = .ok (.goto 4, 3) := by decide +kernel
theorem dX10_lengthenWays_50 : decode cX10_lengthenWays 50 = .ok (.lconst 0, 1) := by decide +kernel
theorem dX10_lengthenWays_51 : decode cX10_lengthenWays 51 = .ok (.ladd, 1) := by decide +kernel
theorem dX10_lengthenWays_52 : decode cX10_lengthenWays 52 = .ok (.lstore_n 3, 1) := by decide +kernel
theorem dX10_lengthenWays_53 : decode cX10_lengthenWays 53 = .ok (.iinc 5 1, 3) := by decide +kernel
theorem dX10_lengthenWays_56 : decode cX10_lengthenWays 56 = .ok (.goto (-41), 3) := by decide +kernel
theorem dX10_lengthenWays_59 : decode cX10_lengthenWays 59 = .ok (.aload_n 0, 1) := by decide +kernel
theorem dX10_lengthenWays_60 : decode cX10_lengthenWays 60 = .ok (.getfield 74, 3) := by decide +kernel
theorem dX10_lengthenWays_63 : decode cX10_lengthenWays 63 = .ok (.iload_n 2, 1) := by decide +kernel
theorem dX10_lengthenWays_64 : decode cX10_lengthenWays 64 = .ok (.lload_n 3, 1) := by decide +kernel
theorem dX10_lengthenWays_65 : decode cX10_lengthenWays 65 = .ok (.lastore, 1) := by decide +kernel
theorem dX10_lengthenWays_66 : decode cX10_lengthenWays 66 = .ok (.iinc 2 1, 3) := by decide +kernel
theorem dX10_lengthenWays_69 : decode cX10_lengthenWays 69 = .ok (.goto (-67), 3) := by decide +kernel
theorem dX10_lengthenWays_72 : decode cX10_lengthenWays 72 = .ok (.aload_n 0, 1) := by decide +kernel
theorem dX10_lengthenWays_73 : decode cX10_lengthenWays 73 = .ok (.getfield 74, 3) := by decide +kernel
theorem dX10_lengthenWays_76 : decode cX10_lengthenWays 76 = .ok (.iconst 0, 1) := by decide +kernel
theorem dX10_lengthenWays_77 : decode cX10_lengthenWays 77 = .ok (.aload_n 0, 1) := by decide +kernel
theorem dX10_lengthenWays_78 : decode cX10_lengthenWays 78 = .ok (.getfield 70, 3) := by decide +kernel
theorem dX10_lengthenWays_81 : decode cX10_lengthenWays 81 = .ok (.iconst 0, 1) := by decide +kernel
theorem dX10_lengthenWays_82 : decode cX10_lengthenWays 82 = .ok (.aload_n 1, 1) := by decide +kernel
theorem dX10_lengthenWays_83 : decode cX10_lengthenWays 83 = .ok (.getfield 94, 3) := by decide +kernel
theorem dX10_lengthenWays_86 : decode cX10_lengthenWays 86 = .ok (.iconst 1, 1) := by decide +kernel
theorem dX10_lengthenWays_87 : decode cX10_lengthenWays 87 = .ok (.iadd, 1) := by decide +kernel
theorem dX10_lengthenWays_88 : decode cX10_lengthenWays 88 = .ok (.invokestatic 179, 3) := by decide +kernel
theorem dX10_lengthenWays_91 : decode cX10_lengthenWays 91 = .ok (.return_, 1) := by decide +kernel
theorem dX10_takeRow_0 : decode cX10_takeRow 0 = .ok (.iload_n 1, 1) := by decide +kernel
theorem dX10_takeRow_1 : decode cX10_takeRow 1 = .ok (.ifCond .lt 15, 3) := by decide +kernel
theorem dX10_takeRow_4 : decode cX10_takeRow 4 = .ok (.iload_n 1, 1) := by decide +kernel
theorem dX10_takeRow_5 : decode cX10_takeRow 5 = .ok (.bipush 12, 2) := by decide +kernel
theorem dX10_takeRow_7 : decode cX10_takeRow 7 = .ok (.if_icmp .gt 9, 3) := by decide +kernel
theorem dX10_takeRow_10 : decode cX10_takeRow 10 = .ok (.lload_n 2, 1) := by decide +kernel
theorem dX10_takeRow_11 : decode cX10_takeRow 11 = .ok (.lconst 0, 1) := by decide +kernel
theorem dX10_takeRow_12 : decode cX10_takeRow 12 = .ok (.lcmp, 1) := by decide +kernel
theorem dX10_takeRow_13 : decode cX10_takeRow 13 = .ok (.ifCond .ge 5, 3) := by decide +kernel
theorem dX10_takeRow_16 : decode cX10_takeRow 16 = .ok (.iconst 0, 1) := by decide +kernel
theorem dX10_takeRow_17 : decode cX10_takeRow 17 = .ok (.ireturn, 1) := by decide +kernel
theorem dX10_takeRow_18 : decode cX10_takeRow 18 = .ok (.lload_n 2, 1) := by decide +kernel
theorem dX10_takeRow_19 : decode cX10_takeRow 19 = .ok (.lstore 4, 2) := by decide +kernel
theorem dX10_takeRow_21 : decode cX10_takeRow 21 = .ok (.iload_n 1, 1) := by decide +kernel
theorem dX10_takeRow_22 : decode cX10_takeRow 22 = .ok (.istore 6, 2) := by decide +kernel
theorem dX10_takeRow_24 : decode cX10_takeRow 24 = .ok (.iload 6, 2) := by decide +kernel
theorem dX10_takeRow_26 : decode cX10_takeRow 26 = .ok (.ifCond .le 31, 3) := by decide +kernel
theorem dX10_takeRow_29 : decode cX10_takeRow 29 = .ok (.aload_n 0, 1) := by decide +kernel
theorem dX10_takeRow_30 : decode cX10_takeRow 30 = .ok (.getfield 66, 3) := by decide +kernel
theorem dX10_takeRow_33 : decode cX10_takeRow 33 = .ok (.iload 6, 2) := by decide +kernel
theorem dX10_takeRow_35 : decode cX10_takeRow 35 = .ok (.lload 4, 2) := by decide +kernel
theorem dX10_takeRow_37 : decode cX10_takeRow 37 = .ok (.ldc2_w 185, 3) := by decide +kernel
theorem dX10_takeRow_40 : decode cX10_takeRow 40 = .ok (.lrem, 1) := by decide +kernel
theorem dX10_takeRow_41 : decode cX10_takeRow 41 = .ok (.l2i, 1) := by decide +kernel
theorem dX10_takeRow_42 : decode cX10_takeRow 42 = .ok (.iastore, 1) := by decide +kernel
theorem dX10_takeRow_43 : decode cX10_takeRow 43 = .ok (.lload 4, 2) := by decide +kernel
theorem dX10_takeRow_45 : decode cX10_takeRow 45 = .ok (.ldc2_w 185, 3) := by decide +kernel
theorem dX10_takeRow_48 : decode cX10_takeRow 48 = .ok (.ldiv, 1) := by decide +kernel
theorem dX10_takeRow_49 : decode cX10_takeRow 49 = .ok (.lstore 4, 2) := by decide +kernel
theorem dX10_takeRow_51 : decode cX10_takeRow 51 = .ok (.iinc 6 (-1), 3) := by decide +kernel
theorem dX10_takeRow_54 : decode cX10_takeRow 54 = .ok (.goto (-30), 3) := by decide +kernel
theorem dX10_takeRow_57 : decode cX10_takeRow 57 = .ok (.lload 4, 2) := by decide +kernel
theorem dX10_takeRow_59 : decode cX10_takeRow 59 = .ok (.ldc2_w 187, 3) := by decide +kernel
theorem dX10_takeRow_62 : decode cX10_takeRow 62 = .ok (.lcmp, 1) := by decide +kernel
theorem dX10_takeRow_63 : decode cX10_takeRow 63 = .ok (.ifCond .lt 5, 3) := by decide +kernel
theorem dX10_takeRow_66 : decode cX10_takeRow 66 = .ok (.iconst 0, 1) := by decide +kernel
theorem dX10_takeRow_67 : decode cX10_takeRow 67 = .ok (.ireturn, 1) := by decide +kernel
theorem dX10_takeRow_68 : decode cX10_takeRow 68 = .ok (.aload_n 0, 1) := by decide +kernel
theorem dX10_takeRow_69 : decode cX10_takeRow 69 = .ok (.getfield 66, 3) := by decide +kernel
theorem dX10_takeRow_72 : decode cX10_takeRow 72 = .ok (.iconst 0, 1) := by decide +kernel
theorem dX10_takeRow_73 : decode cX10_takeRow 73 = .ok (.lload 4, 2) := by decide +kernel
theorem dX10_takeRow_75 : decode cX10_takeRow 75 = .ok (.l2i, 1) := by decide +kernel
theorem dX10_takeRow_76 : decode cX10_takeRow 76 = .ok (.iastore, 1) := by decide +kernel
theorem dX10_takeRow_77 : decode cX10_takeRow 77 = .ok (.iconst 1, 1) := by decide +kernel
theorem dX10_takeRow_78 : decode cX10_takeRow 78 = .ok (.ireturn, 1) := by decide +kernel
set_option maxRecDepth 20000 in
theorem ggX10_follow_X6_goes : GoodIn wsX10_follow wsX6_goes := goodIn_r _ [8, 9, 10, 11, 12, 7, 13, 14, 37, 38, 39, 40, 41, 42, 43, 44, 45, 46] (by decide +kernel) (by decide +kernel)
set_option maxRecDepth 20000 in
theorem gX10_follow_X6_goes : GoodIn wsX10_follow (wsV RX10 100 RX6 yX6_goes wsX6_goes) := goodIn_app (goodIn_of _ (by decide +kernel)) ggX10_follow_X6_goes
set_option maxRecDepth 20000 in
theorem ggX10_follow_X6_actAt : GoodIn wsX10_follow wsX6_actAt := goodIn_r _ [18, 19, 20, 21, 22, 7, 23, 14, 37, 38, 39, 40, 41, 42, 43, 44, 45, 46] (by decide +kernel) (by decide +kernel)
set_option maxRecDepth 20000 in
theorem gX10_follow_X6_actAt : GoodIn wsX10_follow (wsV RX10 104 RX6 yX6_actAt wsX6_actAt) := goodIn_app (goodIn_of _ (by decide +kernel)) ggX10_follow_X6_actAt
theorem dX10_follow_0 : decode cX10_follow 0 = .ok (.aload_n 0, 1) := by decide +kernel
theorem dX10_follow_1 : decode cX10_follow 1 = .ok (.iconst 0, 1) := by decide +kernel
theorem dX10_follow_2 : decode cX10_follow 2 = .ok (.putfield 157, 3) := by decide +kernel
theorem dX10_follow_5 : decode cX10_follow 5 = .ok (.aload_n 0, 1) := by decide +kernel
theorem dX10_follow_6 : decode cX10_follow 6 = .ok (.aload_n 1, 1) := by decide +kernel
theorem dX10_follow_7 : decode cX10_follow 7 = .ok (.iconst 0, 1) := by decide +kernel
theorem dX10_follow_8 : decode cX10_follow 8 = .ok (.aload_n 0, 1) := by decide +kernel
theorem dX10_follow_9 : decode cX10_follow 9 = .ok (.getfield 66, 3) := by decide +kernel
theorem dX10_follow_12 : decode cX10_follow 12 = .ok (.iconst 0, 1) := by decide +kernel
theorem dX10_follow_13 : decode cX10_follow 13 = .ok (.iaload, 1) := by decide +kernel
theorem dX10_follow_14 : decode cX10_follow 14 = .ok (.invokevirtual 100, 3) := by decide +kernel
theorem dX10_follow_17 : decode cX10_follow 17 = .ok (.putfield 160, 3) := by decide +kernel
theorem dX10_follow_20 : decode cX10_follow 20 = .ok (.iconst 1, 1) := by decide +kernel
theorem dX10_follow_21 : decode cX10_follow 21 = .ok (.istore_n 3, 1) := by decide +kernel
theorem dX10_follow_22 : decode cX10_follow 22 = .ok (.iload_n 3, 1) := by decide +kernel
theorem dX10_follow_23 : decode cX10_follow 23 = .ok (.iload_n 2, 1) := by decide +kernel
theorem dX10_follow_24 : decode cX10_follow 24 = .ok (.if_icmp .gt 61, 3) := by decide +kernel
theorem dX10_follow_27 : decode cX10_follow 27 = .ok (.aload_n 1, 1) := by decide +kernel
theorem dX10_follow_28 : decode cX10_follow 28 = .ok (.aload_n 0, 1) := by decide +kernel
theorem dX10_follow_29 : decode cX10_follow 29 = .ok (.getfield 160, 3) := by decide +kernel
theorem dX10_follow_32 : decode cX10_follow 32 = .ok (.invokevirtual 104, 3) := by decide +kernel
theorem dX10_follow_35 : decode cX10_follow 35 = .ok (.aload_n 0, 1) := by decide +kernel
theorem dX10_follow_36 : decode cX10_follow 36 = .ok (.getfield 66, 3) := by decide +kernel
theorem dX10_follow_39 : decode cX10_follow 39 = .ok (.iload_n 3, 1) := by decide +kernel
theorem dX10_follow_40 : decode cX10_follow 40 = .ok (.iaload, 1) := by decide +kernel
theorem dX10_follow_41 : decode cX10_follow 41 = .ok (.iconst 4, 1) := by decide +kernel
theorem dX10_follow_42 : decode cX10_follow 42 = .ok (.idiv, 1) := by decide +kernel
theorem dX10_follow_43 : decode cX10_follow 43 = .ok (.iconst 1, 1) := by decide +kernel
theorem dX10_follow_44 : decode cX10_follow 44 = .ok (.iadd, 1) := by decide +kernel
theorem dX10_follow_45 : decode cX10_follow 45 = .ok (.if_icmp .eq 4, 3) := by decide +kernel
theorem dX10_follow_48 : decode cX10_follow 48 = .ok (.return_, 1) := by decide +kernel
theorem dX10_follow_49 : decode cX10_follow 49 = .ok (.aload_n 0, 1) := by decide +kernel
theorem dX10_follow_50 : decode cX10_follow 50 = .ok (.dup, 1) := by decide +kernel
theorem dX10_follow_51 : decode cX10_follow 51 = .ok (.getfield 157, 3) := by decide +kernel
theorem dX10_follow_54 : decode cX10_follow 54 = .ok (.iconst 1, 1) := by decide +kernel
theorem dX10_follow_55 : decode cX10_follow 55 = .ok (.iadd, 1) := by decide +kernel
theorem dX10_follow_56 : decode cX10_follow 56 = .ok (.putfield 157, 3) := by decide +kernel
theorem dX10_follow_59 : decode cX10_follow 59 = .ok (.aload_n 0, 1) := by decide +kernel
theorem dX10_follow_60 : decode cX10_follow 60 = .ok (.aload_n 1, 1) := by decide +kernel
theorem dX10_follow_61 : decode cX10_follow 61 = .ok (.aload_n 0, 1) := by decide +kernel
theorem dX10_follow_62 : decode cX10_follow 62 = .ok (.getfield 160, 3) := by decide +kernel
theorem dX10_follow_65 : decode cX10_follow 65 = .ok (.aload_n 0, 1) := by decide +kernel
theorem dX10_follow_66 : decode cX10_follow 66 = .ok (.getfield 66, 3) := by decide +kernel
theorem dX10_follow_69 : decode cX10_follow 69 = .ok (.iload_n 3, 1) := by decide +kernel
theorem dX10_follow_70 : decode cX10_follow 70 = .ok (.iaload, 1) := by decide +kernel
theorem dX10_follow_71 : decode cX10_follow 71 = .ok (.iconst 4, 1) := by decide +kernel
theorem dX10_follow_72 : decode cX10_follow 72 = .ok (.irem, 1) := by decide +kernel
theorem dX10_follow_73 : decode cX10_follow 73 = .ok (.invokevirtual 100, 3) := by decide +kernel
theorem dX10_follow_76 : decode cX10_follow 76 = .ok (.putfield 160, 3) := by decide +kernel
theorem dX10_follow_79 : decode cX10_follow 79 = .ok (.iinc 3 1, 3) := by decide +kernel
theorem dX10_follow_82 : decode cX10_follow 82 = .ok (.goto (-60), 3) := by decide +kernel
theorem dX10_follow_85 : decode cX10_follow 85 = .ok (.return_, 1) := by decide +kernel
theorem dX11_in_0 : decode cX11_in 0 = .ok (.lload_n 0, 1) := by decide +kernel
theorem dX11_in_1 : decode cX11_in 1 = .ok (.lload_n 2, 1) := by decide +kernel
theorem dX11_in_2 : decode cX11_in 2 = .ok (.lcmp, 1) := by decide +kernel
theorem dX11_in_3 : decode cX11_in 3 = .ok (.ifCond .lt 14, 3) := by decide +kernel
theorem dX11_in_6 : decode cX11_in 6 = .ok (.lload_n 0, 1) := by decide +kernel
theorem dX11_in_7 : decode cX11_in 7 = .ok (.lload 4, 2) := by decide +kernel
theorem dX11_in_9 : decode cX11_in 9 = .ok (.lcmp, 1) := by decide +kernel
theorem dX11_in_10 : decode cX11_in 10 = .ok (.ifCond .gt 7, 3) := by decide +kernel
theorem dX11_in_13 : decode cX11_in 13 = .ok (.iconst 1, 1) := by decide +kernel
theorem dX11_in_14 : decode cX11_in 14 = .ok (.goto 4, 3) := by decide +kernel
theorem dX11_in_17 : decode cX11_in 17 = .ok (.iconst 0, 1) := by decide +kernel
theorem dX11_in_18 : decode cX11_in 18 = .ok (.ireturn, 1) := by decide +kernel
set_option maxRecDepth 20000 in
theorem ggX11_init_X11_lays : GoodIn wsX11_init wsX11_lays := goodIn_r _ [38, 12, 16, 11, 39, 40, 41, 37, 42, 6, 7, 8, 43, 44, 45, 46, 47, 48, 49, 50, 51, 52, 53, 54, 55, 56, 57, 58, 59, 60, 61, 62, 63, 64, 65, 66, 67, 68, 69, 70, 71, 72, 73, 74, 75, 76, 77, 78, 79, 80, 81, 82, 83] (by decide +kernel) (by decide +kernel)
set_option maxRecDepth 20000 in
theorem gX11_init_X11_lays : GoodIn wsX11_init (wsV RX11 93 RX11 yX11_lays wsX11_lays) := goodIn_app (goodIn_of _ (by decide +kernel)) ggX11_init_X11_lays
theorem dX11_init_0 : decode cX11_init 0 = .ok (.aload_n 0, 1) := by decide +kernel
theorem dX11_init_1 : decode cX11_init 1 = .ok (.invokespecial 1, 3) := by decide +kernel
theorem dX11_init_4 : decode cX11_init 4 = .ok (.aload_n 0, 1) := by decide +kernel
theorem dX11_init_5 : decode cX11_init 5 = .ok (.sipush 300, 3) := by decide +kernel
theorem dX11_init_8 : decode cX11_init 8 = .ok (.newarray .int, 2) := by decide +kernel
theorem dX11_init_10 : decode cX11_init 10 = .ok (.putfield 7, 3) := by decide +kernel
theorem dX11_init_13 : decode cX11_init 13 = .ok (.aload_n 0, 1) := by decide +kernel
theorem dX11_init_14 : decode cX11_init 14 = .ok (.sipush 2000, 3) := by decide +kernel
theorem dX11_init_17 : decode cX11_init 17 = .ok (.newarray .int, 2) := by decide +kernel
theorem dX11_init_19 : decode cX11_init 19 = .ok (.putfield 13, 3) := by decide +kernel
theorem dX11_init_22 : decode cX11_init 22 = .ok (.aload_n 0, 1) := by decide +kernel
theorem dX11_init_23 : decode cX11_init 23 = .ok (.sipush 2000, 3) := by decide +kernel
theorem dX11_init_26 : decode cX11_init 26 = .ok (.newarray .int, 2) := by decide +kernel
theorem dX11_init_28 : decode cX11_init 28 = .ok (.putfield 16, 3) := by decide +kernel
theorem dX11_init_31 : decode cX11_init 31 = .ok (.aload_n 0, 1) := by decide +kernel
theorem dX11_init_32 : decode cX11_init 32 = .ok (.sipush 2000, 3) := by decide +kernel
theorem dX11_init_35 : decode cX11_init 35 = .ok (.newarray .int, 2) := by decide +kernel
theorem dX11_init_37 : decode cX11_init 37 = .ok (.putfield 19, 3) := by decide +kernel
theorem dX11_init_40 : decode cX11_init 40 = .ok (.aload_n 0, 1) := by decide +kernel
theorem dX11_init_41 : decode cX11_init 41 = .ok (.iconst 5, 1) := by decide +kernel
theorem dX11_init_42 : decode cX11_init 42 = .ok (.newarray .int, 2) := by decide +kernel
theorem dX11_init_44 : decode cX11_init 44 = .ok (.putfield 22, 3) := by decide +kernel
theorem dX11_init_47 : decode cX11_init 47 = .ok (.aload_n 0, 1) := by decide +kernel
theorem dX11_init_48 : decode cX11_init 48 = .ok (.bipush 85, 2) := by decide +kernel
theorem dX11_init_50 : decode cX11_init 50 = .ok (.newarray .int, 2) := by decide +kernel
theorem dX11_init_52 : decode cX11_init 52 = .ok (.putfield 25, 3) := by decide +kernel
theorem dX11_init_55 : decode cX11_init 55 = .ok (.aload_n 0, 1) := by decide +kernel
theorem dX11_init_56 : decode cX11_init 56 = .ok (.bipush 85, 2) := by decide +kernel
theorem dX11_init_58 : decode cX11_init 58 = .ok (.newarray .int, 2) := by decide +kernel
theorem dX11_init_60 : decode cX11_init 60 = .ok (.putfield 28, 3) := by decide +kernel
theorem dX11_init_63 : decode cX11_init 63 = .ok (.aload_n 0, 1) := by decide +kernel
theorem dX11_init_64 : decode cX11_init 64 = .ok (.iconst 5, 1) := by decide +kernel
theorem dX11_init_65 : decode cX11_init 65 = .ok (.newarray .int, 2) := by decide +kernel
theorem dX11_init_67 : decode cX11_init 67 = .ok (.putfield 31, 3) := by decide +kernel
theorem dX11_init_70 : decode cX11_init 70 = .ok (.aload_n 0, 1) := by decide +kernel
theorem dX11_init_71 : decode cX11_init 71 = .ok (.sipush 1000, 3) := by decide +kernel
theorem dX11_init_74 : decode cX11_init 74 = .ok (.newarray .int, 2) := by decide +kernel
theorem dX11_init_76 : decode cX11_init 76 = .ok (.putfield 34, 3) := by decide +kernel
theorem dX11_init_79 : decode cX11_init 79 = .ok (.aload_n 0, 1) := by decide +kernel
theorem dX11_init_80 : decode cX11_init 80 = .ok (.sipush 1000, 3) := by decide +kernel
theorem dX11_init_83 : decode cX11_init 83 = .ok (.newarray .int, 2) := by decide +kernel
theorem dX11_init_85 : decode cX11_init 85 = .ok (.putfield 37, 3) := by decide +kernel
theorem dX11_init_88 : decode cX11_init 88 = .ok (.aload_n 0, 1) := by decide +kernel
theorem dX11_init_89 : decode cX11_init 89 = .ok (.iconst 5, 1) := by decide +kernel
theorem dX11_init_90 : decode cX11_init 90 = .ok (.newarray .int, 2) := by decide +kernel
theorem dX11_init_92 : decode cX11_init 92 = .ok (.putfield 40, 3) := by decide +kernel
theorem dX11_init_95 : decode cX11_init 95 = .ok (.aload_n 0, 1) := by decide +kernel
theorem dX11_init_96 : decode cX11_init 96 = .ok (.sipush 272, 3) := by decide +kernel
theorem dX11_init_99 : decode cX11_init 99 = .ok (.newarray .int, 2) := by decide +kernel
theorem dX11_init_101 : decode cX11_init 101 = .ok (.putfield 43, 3) := by decide +kernel
theorem dX11_init_104 : decode cX11_init 104 = .ok (.aload_n 0, 1) := by decide +kernel
theorem dX11_init_105 : decode cX11_init 105 = .ok (.sipush 310, 3) := by decide +kernel
theorem dX11_init_108 : decode cX11_init 108 = .ok (.newarray .int, 2) := by decide +kernel
theorem dX11_init_110 : decode cX11_init 110 = .ok (.putfield 46, 3) := by decide +kernel
theorem dX11_init_113 : decode cX11_init 113 = .ok (.aload_n 0, 1) := by decide +kernel
theorem dX11_init_114 : decode cX11_init 114 = .ok (.sipush 310, 3) := by decide +kernel
theorem dX11_init_117 : decode cX11_init 117 = .ok (.newarray .int, 2) := by decide +kernel
theorem dX11_init_119 : decode cX11_init 119 = .ok (.putfield 49, 3) := by decide +kernel
theorem dX11_init_122 : decode cX11_init 122 = .ok (.aload_n 0, 1) := by decide +kernel
theorem dX11_init_123 : decode cX11_init 123 = .ok (.bipush 9, 2) := by decide +kernel
theorem dX11_init_125 : decode cX11_init 125 = .ok (.newarray .int, 2) := by decide +kernel
theorem dX11_init_127 : decode cX11_init 127 = .ok (.putfield 52, 3) := by decide +kernel
theorem dX11_init_130 : decode cX11_init 130 = .ok (.aload_n 0, 1) := by decide +kernel
theorem dX11_init_131 : decode cX11_init 131 = .ok (.bipush 9, 2) := by decide +kernel
theorem dX11_init_133 : decode cX11_init 133 = .ok (.newarray .int, 2) := by decide +kernel
theorem dX11_init_135 : decode cX11_init 135 = .ok (.putfield 55, 3) := by decide +kernel
theorem dX11_init_138 : decode cX11_init 138 = .ok (.aload_n 0, 1) := by decide +kernel
theorem dX11_init_139 : decode cX11_init 139 = .ok (.bipush 9, 2) := by decide +kernel
theorem dX11_init_141 : decode cX11_init 141 = .ok (.newarray .boolean, 2) := by decide +kernel
theorem dX11_init_143 : decode cX11_init 143 = .ok (.putfield 58, 3) := by decide +kernel
theorem dX11_init_146 : decode cX11_init 146 = .ok (.aload_n 0, 1) := by decide +kernel
theorem dX11_init_147 : decode cX11_init 147 = .ok (.sipush 324, 3) := by decide +kernel
theorem dX11_init_150 : decode cX11_init 150 = .ok (.newarray .int, 2) := by decide +kernel
theorem dX11_init_152 : decode cX11_init 152 = .ok (.putfield 62, 3) := by decide +kernel
theorem dX11_init_155 : decode cX11_init 155 = .ok (.aload_n 0, 1) := by decide +kernel
theorem dX11_init_156 : decode cX11_init 156 = .ok (.sipush 324, 3) := by decide +kernel
theorem dX11_init_159 : decode cX11_init 159 = .ok (.newarray .int, 2) := by decide +kernel
theorem dX11_init_161 : decode cX11_init 161 = .ok (.putfield 65, 3) := by decide +kernel
theorem dX11_init_164 : decode cX11_init 164 = .ok (.aload_n 0, 1) := by decide +kernel
theorem dX11_init_165 : decode cX11_init 165 = .ok (.sipush 324, 3) := by decide +kernel
theorem dX11_init_168 : decode cX11_init 168 = .ok (.newarray .int, 2) := by decide +kernel
theorem dX11_init_170 : decode cX11_init 170 = .ok (.putfield 68, 3) := by decide +kernel
theorem dX11_init_173 : decode cX11_init 173 = .ok (.aload_n 0, 1) := by decide +kernel
theorem dX11_init_174 : decode cX11_init 174 = .ok (.sipush 324, 3) := by decide +kernel
theorem dX11_init_177 : decode cX11_init 177 = .ok (.newarray .int, 2) := by decide +kernel
theorem dX11_init_179 : decode cX11_init 179 = .ok (.putfield 71, 3) := by decide +kernel
theorem dX11_init_182 : decode cX11_init 182 = .ok (.aload_n 0, 1) := by decide +kernel
theorem dX11_init_183 : decode cX11_init 183 = .ok (.sipush 324, 3) := by decide +kernel
theorem dX11_init_186 : decode cX11_init 186 = .ok (.newarray .boolean, 2) := by decide +kernel
theorem dX11_init_188 : decode cX11_init 188 = .ok (.putfield 74, 3) := by decide +kernel
theorem dX11_init_191 : decode cX11_init 191 = .ok (.aload_n 0, 1) := by decide +kernel
theorem dX11_init_192 : decode cX11_init 192 = .ok (.bipush 17, 2) := by decide +kernel
theorem dX11_init_194 : decode cX11_init 194 = .ok (.newarray .int, 2) := by decide +kernel
theorem dX11_init_196 : decode cX11_init 196 = .ok (.putfield 77, 3) := by decide +kernel
theorem dX11_init_199 : decode cX11_init 199 = .ok (.aload_n 0, 1) := by decide +kernel
theorem dX11_init_200 : decode cX11_init 200 = .ok (.bipush 17, 2) := by decide +kernel
theorem dX11_init_202 : decode cX11_init 202 = .ok (.newarray .int, 2) := by decide +kernel
theorem dX11_init_204 : decode cX11_init 204 = .ok (.putfield 80, 3) := by decide +kernel
theorem dX11_init_207 : decode cX11_init 207 = .ok (.aload_n 0, 1) := by decide +kernel
theorem dX11_init_208 : decode cX11_init 208 = .ok (.bipush 17, 2) := by decide +kernel
theorem dX11_init_210 : decode cX11_init 210 = .ok (.newarray .int, 2) := by decide +kernel
theorem dX11_init_212 : decode cX11_init 212 = .ok (.putfield 83, 3) := by decide +kernel
theorem dX11_init_215 : decode cX11_init 215 = .ok (.aload_n 0, 1) := by decide +kernel
theorem dX11_init_216 : decode cX11_init 216 = .ok (.bipush 17, 2) := by decide +kernel
theorem dX11_init_218 : decode cX11_init 218 = .ok (.newarray .long, 2) := by decide +kernel
theorem dX11_init_220 : decode cX11_init 220 = .ok (.putfield 86, 3) := by decide +kernel
theorem dX11_init_223 : decode cX11_init 223 = .ok (.aload_n 0, 1) := by decide +kernel
theorem dX11_init_224 : decode cX11_init 224 = .ok (.bipush 17, 2) := by decide +kernel
theorem dX11_init_226 : decode cX11_init 226 = .ok (.newarray .long, 2) := by decide +kernel
theorem dX11_init_228 : decode cX11_init 228 = .ok (.putfield 90, 3) := by decide +kernel
theorem dX11_init_231 : decode cX11_init 231 = .ok (.iconst 0, 1) := by decide +kernel
theorem dX11_init_232 : decode cX11_init 232 = .ok (.istore_n 1, 1) := by decide +kernel
theorem dX11_init_233 : decode cX11_init 233 = .ok (.iload_n 1, 1) := by decide +kernel
theorem dX11_init_234 : decode cX11_init 234 = .ok (.iconst 4, 1) := by decide +kernel
theorem dX11_init_235 : decode cX11_init 235 = .ok (.if_icmp .ge 45, 3) := by decide +kernel
theorem dX11_init_238 : decode cX11_init 238 = .ok (.aload_n 0, 1) := by decide +kernel
theorem dX11_init_239 : decode cX11_init 239 = .ok (.getfield 22, 3) := by decide +kernel
theorem dX11_init_242 : decode cX11_init 242 = .ok (.iload_n 1, 1) := by decide +kernel
theorem dX11_init_243 : decode cX11_init 243 = .ok (.iconst 1, 1) := by decide +kernel
theorem dX11_init_244 : decode cX11_init 244 = .ok (.iastore, 1) := by decide +kernel
theorem dX11_init_245 : decode cX11_init 245 = .ok (.aload_n 0, 1) := by decide +kernel
theorem dX11_init_246 : decode cX11_init 246 = .ok (.getfield 13, 3) := by decide +kernel
theorem dX11_init_249 : decode cX11_init 249 = .ok (.sipush 400, 3) := by decide +kernel
theorem dX11_init_252 : decode cX11_init 252 = .ok (.iload_n 1, 1) := by decide +kernel
theorem dX11_init_253 : decode cX11_init 253 = .ok (.imul, 1) := by decide +kernel
theorem dX11_init_254 : decode cX11_init 254 = .ok (.iconst 4, 1) := by decide +kernel
theorem dX11_init_255 : decode cX11_init 255 = .ok (.iastore, 1) := by decide +kernel
theorem dX11_init_256 : decode cX11_init 256 = .ok (.aload_n 0, 1) := by decide +kernel
theorem dX11_init_257 : decode cX11_init 257 = .ok (.getfield 40, 3) := by decide +kernel
theorem dX11_init_260 : decode cX11_init 260 = .ok (.iload_n 1, 1) := by decide +kernel
theorem dX11_init_261 : decode cX11_init 261 = .ok (.iconst 1, 1) := by decide +kernel
theorem dX11_init_262 : decode cX11_init 262 = .ok (.iastore, 1) := by decide +kernel
theorem dX11_init_263 : decode cX11_init 263 = .ok (.aload_n 0, 1) := by decide +kernel
theorem dX11_init_264 : decode cX11_init 264 = .ok (.getfield 34, 3) := by decide +kernel
theorem dX11_init_267 : decode cX11_init 267 = .ok (.sipush 200, 3) := by decide +kernel
theorem dX11_init_270 : decode cX11_init 270 = .ok (.iload_n 1, 1) := by decide +kernel
theorem dX11_init_271 : decode cX11_init 271 = .ok (.imul, 1) := by decide +kernel
theorem dX11_init_272 : decode cX11_init 272 = .ok (.iconst 0, 1) := by decide +kernel
theorem dX11_init_273 : decode cX11_init 273 = .ok (.iastore, 1) := by decide +kernel
theorem dX11_init_274 : decode cX11_init 274 = .ok (.iinc 1 1, 3) := by decide +kernel
theorem dX11_init_277 : decode cX11_init 277 = .ok (.goto (-44), 3) := by decide +kernel
theorem dX11_init_280 : decode cX11_init 280 = .ok (.iconst 0, 1) := by decide +kernel
theorem dX11_init_281 : decode cX11_init 281 = .ok (.istore_n 1, 1) := by decide +kernel
theorem dX11_init_282 : decode cX11_init 282 = .ok (.iload_n 1, 1) := by decide +kernel
theorem dX11_init_283 : decode cX11_init 283 = .ok (.iconst 4, 1) := by decide +kernel
theorem dX11_init_284 : decode cX11_init 284 = .ok (.if_icmp .ge 14, 3) := by decide +kernel
theorem dX11_init_287 : decode cX11_init 287 = .ok (.aload_n 0, 1) := by decide +kernel
theorem dX11_init_288 : decode cX11_init 288 = .ok (.iload_n 1, 1) := by decide +kernel
theorem dX11_init_289 : decode cX11_init 289 = .ok (.invokevirtual 93, 3) := by decide +kernel
theorem dX11_init_292 : decode cX11_init 292 = .ok (.iinc 1 1, 3) := by decide +kernel
theorem dX11_init_295 : decode cX11_init 295 = .ok (.goto (-13), 3) := by decide +kernel
theorem dX11_init_298 : decode cX11_init 298 = .ok (.return_, 1) := by decide +kernel
set_option maxRecDepth 20000 in
theorem ggX11_isProgram_X11_in : GoodIn wsX11_isProgram wsX11_in := goodIn_r _ [5] (by decide +kernel) (by decide +kernel)
set_option maxRecDepth 20000 in
theorem gX11_isProgram_X11_in : GoodIn wsX11_isProgram (va_wsS RX11 99 yX11_in wsX11_in) := goodIn_app (goodIn_of _ (by decide +kernel)) ggX11_isProgram_X11_in
theorem dX11_isProgram_0 : decode cX11_isProgram 0 = .ok (.iload_n 0, 1) := by decide +kernel
theorem dX11_isProgram_1 : decode cX11_isProgram 1 = .ok (.i2l, 1) := by decide +kernel
theorem dX11_isProgram_2 : decode cX11_isProgram 2 = .ok (.lconst 0, 1) := by decide +kernel
theorem dX11_isProgram_3 : decode cX11_isProgram 3 = .ok (.ldc2_w 97, 3) := by decide +kernel
theorem dX11_isProgram_6 : decode cX11_isProgram 6 = .ok (.invokestatic 99, 3) := by decide +kernel
theorem dX11_isProgram_9 : decode cX11_isProgram 9 = .ok (.ireturn, 1) := by decide +kernel
set_option maxRecDepth 20000 in
theorem ggX11_isAtom_X11_in : GoodIn wsX11_isAtom wsX11_in := goodIn_r _ [5] (by decide +kernel) (by decide +kernel)
set_option maxRecDepth 20000 in
theorem gX11_isAtom_X11_in : GoodIn wsX11_isAtom (va_wsS RX11 99 yX11_in wsX11_in) := goodIn_app (goodIn_of _ (by decide +kernel)) ggX11_isAtom_X11_in
theorem dX11_isAtom_0 : decode cX11_isAtom 0 = .ok (.iload_n 0, 1) := by decide +kernel
theorem dX11_isAtom_1 : decode cX11_isAtom 1 = .ok (.i2l, 1) := by decide +kernel
theorem dX11_isAtom_2 : decode cX11_isAtom 2 = .ok (.lconst 0, 1) := by decide +kernel
theorem dX11_isAtom_3 : decode cX11_isAtom 3 = .ok (.ldc2_w 97, 3) := by decide +kernel
theorem dX11_isAtom_6 : decode cX11_isAtom 6 = .ok (.invokestatic 99, 3) := by decide +kernel
theorem dX11_isAtom_9 : decode cX11_isAtom 9 = .ok (.ireturn, 1) := by decide +kernel
set_option maxRecDepth 20000 in
theorem ggX11_type_X11_in : GoodIn wsX11_type wsX11_in := goodIn_r _ [8] (by decide +kernel) (by decide +kernel)
set_option maxRecDepth 20000 in
theorem gX11_type_X11_in : GoodIn wsX11_type (va_wsS RX11 99 yX11_in wsX11_in) := goodIn_app (goodIn_of _ (by decide +kernel)) ggX11_type_X11_in
theorem dX11_type_0 : decode cX11_type 0 = .ok (.iload_n 3, 1) := by decide +kernel
theorem dX11_type_1 : decode cX11_type 1 = .ok (.i2l, 1) := by decide +kernel
theorem dX11_type_2 : decode cX11_type 2 = .ok (.lconst 1, 1) := by decide +kernel
theorem dX11_type_3 : decode cX11_type 3 = .ok (.ldc2_w 103, 3) := by decide +kernel
theorem dX11_type_6 : decode cX11_type 6 = .ok (.invokestatic 99, 3) := by decide +kernel
theorem dX11_type_9 : decode cX11_type 9 = .ok (.ifCond .ne 5, 3) := by decide +kernel
theorem dX11_type_12 : decode cX11_type 12 = .ok (.iconst (-1), 1) := by decide +kernel
theorem dX11_type_13 : decode cX11_type 13 = .ok (.ireturn, 1) := by decide +kernel
theorem dX11_type_14 : decode cX11_type 14 = .ok (.aload_n 0, 1) := by decide +kernel
theorem dX11_type_15 : decode cX11_type 15 = .ok (.getfield 105, 3) := by decide +kernel
theorem dX11_type_18 : decode cX11_type 18 = .ok (.iload_n 3, 1) := by decide +kernel
theorem dX11_type_19 : decode cX11_type 19 = .ok (.iadd, 1) := by decide +kernel
theorem dX11_type_20 : decode cX11_type 20 = .ok (.sipush 300, 3) := by decide +kernel
theorem dX11_type_23 : decode cX11_type 23 = .ok (.if_icmp .le 6, 3) := by decide +kernel
theorem dX11_type_26 : decode cX11_type 26 = .ok (.bipush (-3), 2) := by decide +kernel
theorem dX11_type_28 : decode cX11_type 28 = .ok (.ireturn, 1) := by decide +kernel
theorem dX11_type_29 : decode cX11_type 29 = .ok (.iload_n 3, 1) := by decide +kernel
theorem dX11_type_30 : decode cX11_type 30 = .ok (.iconst 1, 1) := by decide +kernel
theorem dX11_type_31 : decode cX11_type 31 = .ok (.isub, 1) := by decide +kernel
theorem dX11_type_32 : decode cX11_type 32 = .ok (.istore 4, 2) := by decide +kernel
theorem dX11_type_34 : decode cX11_type 34 = .ok (.iload 4, 2) := by decide +kernel
theorem dX11_type_36 : decode cX11_type 36 = .ok (.ifCond .lt 40, 3) := by decide +kernel
theorem dX11_type_39 : decode cX11_type 39 = .ok (.aload_n 0, 1) := by decide +kernel
theorem dX11_type_40 : decode cX11_type 40 = .ok (.getfield 7, 3) := by decide +kernel
theorem dX11_type_43 : decode cX11_type 43 = .ok (.aload_n 0, 1) := by decide +kernel
theorem dX11_type_44 : decode cX11_type 44 = .ok (.getfield 105, 3) := by decide +kernel
theorem dX11_type_47 : decode cX11_type 47 = .ok (.lload_n 1, 1) := by decide +kernel
theorem dX11_type_48 : decode cX11_type 48 = .ok (.bipush 8, 2) := by decide +kernel
theorem dX11_type_50 : decode cX11_type 50 = .ok (.iload 4, 2) := by decide +kernel
theorem dX11_type_52 : decode cX11_type 52 = .ok (.imul, 1) := by decide +kernel
theorem dX11_type_53 : decode cX11_type 53 = .ok (.lshr, 1) := by decide +kernel
theorem dX11_type_54 : decode cX11_type 54 = .ok (.ldc2_w 109, 3) := by decide +kernel
theorem dX11_type_57 : decode cX11_type 57 = .ok (.land, 1) := by decide +kernel
theorem dX11_type_58 : decode cX11_type 58 = .ok (.l2i, 1) := by decide +kernel
theorem dX11_type_59 : decode cX11_type 59 = .ok (.iastore, 1) := by decide +kernel
theorem dX11_type_60 : decode cX11_type 60 = .ok (.aload_n 0, 1) := by decide +kernel
theorem dX11_type_61 : decode cX11_type 61 = .ok (.dup, 1) := by decide +kernel
theorem dX11_type_62 : decode cX11_type 62 = .ok (.getfield 105, 3) := by decide +kernel
theorem dX11_type_65 : decode cX11_type 65 = .ok (.iconst 1, 1) := by decide +kernel
theorem dX11_type_66 : decode cX11_type 66 = .ok (.iadd, 1) := by decide +kernel
theorem dX11_type_67 : decode cX11_type 67 = .ok (.putfield 105, 3) := by decide +kernel
theorem dX11_type_70 : decode cX11_type 70 = .ok (.iinc 4 (-1), 3) := by decide +kernel
theorem dX11_type_73 : decode cX11_type 73 = .ok (.goto (-39), 3) := by decide +kernel
theorem dX11_type_76 : decode cX11_type 76 = .ok (.aload_n 0, 1) := by decide +kernel
theorem dX11_type_77 : decode cX11_type 77 = .ok (.getfield 105, 3) := by decide +kernel
theorem dX11_type_80 : decode cX11_type 80 = .ok (.ireturn, 1) := by decide +kernel
theorem dX11_clear_0 : decode cX11_clear 0 = .ok (.aload_n 0, 1) := by decide +kernel
theorem dX11_clear_1 : decode cX11_clear 1 = .ok (.getfield 105, 3) := by decide +kernel
theorem dX11_clear_4 : decode cX11_clear 4 = .ok (.istore_n 1, 1) := by decide +kernel
theorem dX11_clear_5 : decode cX11_clear 5 = .ok (.aload_n 0, 1) := by decide +kernel
theorem dX11_clear_6 : decode cX11_clear 6 = .ok (.iconst 0, 1) := by decide +kernel
theorem dX11_clear_7 : decode cX11_clear 7 = .ok (.putfield 105, 3) := by decide +kernel
theorem dX11_clear_10 : decode cX11_clear 10 = .ok (.iload_n 1, 1) := by decide +kernel
theorem dX11_clear_11 : decode cX11_clear 11 = .ok (.ireturn, 1) := by decide +kernel
set_option maxRecDepth 20000 in
theorem ggX11_isLetter_X11_in : GoodIn wsX11_isLetter wsX11_in := goodIn_r _ [6] (by decide +kernel) (by decide +kernel)
set_option maxRecDepth 20000 in
theorem gX11_isLetter_X11_in : GoodIn wsX11_isLetter (va_wsS RX11 99 yX11_in wsX11_in) := goodIn_app (goodIn_of _ (by decide +kernel)) ggX11_isLetter_X11_in
theorem dX11_isLetter_0 : decode cX11_isLetter 0 = .ok (.iload_n 0, 1) := by decide +kernel
theorem dX11_isLetter_1 : decode cX11_isLetter 1 = .ok (.i2l, 1) := by decide +kernel
theorem dX11_isLetter_2 : decode cX11_isLetter 2 = .ok (.ldc2_w 111, 3) := by decide +kernel
theorem dX11_isLetter_5 : decode cX11_isLetter 5 = .ok (.ldc2_w 113, 3) := by decide +kernel
theorem dX11_isLetter_8 : decode cX11_isLetter 8 = .ok (.invokestatic 99, 3) := by decide +kernel
theorem dX11_isLetter_11 : decode cX11_isLetter 11 = .ok (.ireturn, 1) := by decide +kernel
set_option maxRecDepth 20000 in
theorem ggX11_wordOf_X11_longer : GoodIn wsX11_wordOf wsX11_longer := goodIn_r _ [12, 13, 14, 15, 16, 17, 18, 19, 20, 21, 22] (by decide +kernel) (by decide +kernel)
set_option maxRecDepth 20000 in
theorem gX11_wordOf_X11_longer : GoodIn wsX11_wordOf (va_wsS RX11 126 yX11_longer wsX11_longer) := goodIn_app (goodIn_of _ (by decide +kernel)) ggX11_wordOf_X11_longer
theorem dX11_wordOf_0 : decode cX11_wordOf 0 = .ok (.lconst 0, 1) := by decide +kernel
theorem dX11_wordOf_1 : decode cX11_wordOf 1 = .ok (.lstore_n 2, 1) := by decide +kernel
theorem dX11_wordOf_2 : decode cX11_wordOf 2 = .ok (.iconst 0, 1) := by decide +kernel
theorem dX11_wordOf_3 : decode cX11_wordOf 3 = .ok (.istore 4, 2) := by decide +kernel
theorem dX11_wordOf_5 : decode cX11_wordOf 5 = .ok (.iload 4, 2) := by decide +kernel
theorem dX11_wordOf_7 : decode cX11_wordOf 7 = .ok (.iload_n 1, 1) := by decide +kernel
theorem dX11_wordOf_8 : decode cX11_wordOf 8 = .ok (.if_icmp .ge 44, 3) := by decide +kernel
theorem dX11_wordOf_11 : decode cX11_wordOf 11 = .ok (.iload_n 1, 1) := by decide +kernel
theorem dX11_wordOf_12 : decode cX11_wordOf 12 = .ok (.iconst 5, 1) := by decide +kernel
theorem dX11_wordOf_13 : decode cX11_wordOf 13 = .ok (.if_icmp .le 7, 3) := by decide +kernel
theorem dX11_wordOf_16 : decode cX11_wordOf 16 = .ok (.lconst 0, 1) := by decide +kernel
theorem dX11_wordOf_17 : decode cX11_wordOf 17 = .ok (.goto 28, 3) := by decide +kernel
theorem dX11_wordOf_20 : decode cX11_wordOf 20 = .ok (.ldc2_w 115, 3) := by decide +kernel
theorem dX11_wordOf_23 : decode cX11_wordOf 23 = .ok (.lload_n 2, 1) := by decide +kernel
theorem dX11_wordOf_24 : decode cX11_wordOf 24 = .ok (.lmul, 1) := by decide +kernel
theorem dX11_wordOf_25 : decode cX11_wordOf 25 = .ok (.aload_n 0, 1) := by decide +kernel
theorem dX11_wordOf_26 : decode cX11_wordOf 26 = .ok (.getfield 7, 3) := by decide +kernel
theorem dX11_wordOf_29 : decode cX11_wordOf 29 = .ok (.aload_n 0, 1) := by decide +kernel
theorem dX11_wordOf_30 : decode cX11_wordOf 30 = .ok (.getfield 117, 3) := by decide +kernel
theorem dX11_wordOf_33 : decode cX11_wordOf 33 = .ok (.iload 4, 2) := by decide +kernel
theorem dX11_wordOf_35 : decode cX11_wordOf 35 = .ok (.iadd, 1) := by decide +kernel
theorem dX11_wordOf_36 : decode cX11_wordOf 36 = .ok (.iaload, 1) := by decide +kernel
theorem dX11_wordOf_37 : decode cX11_wordOf 37 = .ok (.i2l, 1) := by decide +kernel
theorem dX11_wordOf_38 : decode cX11_wordOf 38 = .ok (.ladd, 1) := by decide +kernel
theorem dX11_wordOf_39 : decode cX11_wordOf 39 = .ok (.ldc2_w 111, 3) := by decide +kernel
theorem dX11_wordOf_42 : decode cX11_wordOf 42 = .ok (.lsub, 1) := by decide +kernel
theorem dX11_wordOf_43 : decode cX11_wordOf 43 = .ok (.lconst 1, 1) := by decide +kernel
theorem dX11_wordOf_44 : decode cX11_wordOf 44 = .ok (.ladd, 1) := by decide +kernel
theorem dX11_wordOf_45 : decode cX11_wordOf 45 = .ok (.lstore_n 2, 1) := by decide +kernel
theorem dX11_wordOf_46 : decode cX11_wordOf 46 = .ok (.iinc 4 1, 3) := by decide +kernel
theorem dX11_wordOf_49 : decode cX11_wordOf 49 = .ok (.goto (-44), 3) := by decide +kernel
theorem dX11_wordOf_52 : decode cX11_wordOf 52 = .ok (.lload_n 2, 1) := by decide +kernel
theorem dX11_wordOf_53 : decode cX11_wordOf 53 = .ok (.ldc2_w 120, 3) := by decide +kernel
theorem dX11_wordOf_56 : decode cX11_wordOf 56 = .ok (.lcmp, 1) := by decide +kernel
theorem dX11_wordOf_57 : decode cX11_wordOf 57 = .ok (.ifCond .ne 8, 3) := by decide +kernel
theorem dX11_wordOf_60 : decode cX11_wordOf 60 = .ok (.bipush 12, 2) := by decide +kernel
theorem dX11_wordOf_62 : decode cX11_wordOf 62 = .ok (.goto 47, 3) := by decide +kernel
theorem dX11_wordOf_65 : decode cX11_wordOf 65 = .ok (.lload_n 2, 1) := by decide +kernel
theorem dX11_wordOf_66 : decode cX11_wordOf 66 = .ok (.ldc2_w 97, 3) := by decide +kernel
theorem dX11_wordOf_69 : decode cX11_wordOf 69 = .ok (.lcmp, 1) := by decide +kernel
theorem dX11_wordOf_70 : decode cX11_wordOf 70 = .ok (.ifCond .ne 8, 3) := by decide +kernel
theorem dX11_wordOf_73 : decode cX11_wordOf 73 = .ok (.bipush 13, 2) := by decide +kernel
theorem dX11_wordOf_75 : decode cX11_wordOf 75 = .ok (.goto 34, 3) := by decide +kernel
theorem dX11_wordOf_78 : decode cX11_wordOf 78 = .ok (.lload_n 2, 1) := by decide +kernel
theorem dX11_wordOf_79 : decode cX11_wordOf 79 = .ok (.ldc2_w 122, 3) := by decide +kernel
theorem dX11_wordOf_82 : decode cX11_wordOf 82 = .ok (.lcmp, 1) := by decide +kernel
theorem dX11_wordOf_83 : decode cX11_wordOf 83 = .ok (.ifCond .lt 22, 3) := by decide +kernel
theorem dX11_wordOf_86 : decode cX11_wordOf 86 = .ok (.lload_n 2, 1) := by decide +kernel
theorem dX11_wordOf_87 : decode cX11_wordOf 87 = .ok (.ldc2_w 124, 3) := by decide +kernel
theorem dX11_wordOf_90 : decode cX11_wordOf 90 = .ok (.lcmp, 1) := by decide +kernel
theorem dX11_wordOf_91 : decode cX11_wordOf 91 = .ok (.ifCond .gt 14, 3) := by decide +kernel
theorem dX11_wordOf_94 : decode cX11_wordOf 94 = .ok (.bipush 14, 2) := by decide +kernel
theorem dX11_wordOf_96 : decode cX11_wordOf 96 = .ok (.lload_n 2, 1) := by decide +kernel
theorem dX11_wordOf_97 : decode cX11_wordOf 97 = .ok (.l2i, 1) := by decide +kernel
theorem dX11_wordOf_98 : decode cX11_wordOf 98 = .ok (.iadd, 1) := by decide +kernel
theorem dX11_wordOf_99 : decode cX11_wordOf 99 = .ok (.bipush 16, 2) := by decide +kernel
theorem dX11_wordOf_101 : decode cX11_wordOf 101 = .ok (.isub, 1) := by decide +kernel
theorem dX11_wordOf_102 : decode cX11_wordOf 102 = .ok (.goto 7, 3) := by decide +kernel
theorem dX11_wordOf_105 : decode cX11_wordOf 105 = .ok (.lload_n 2, 1) := by decide +kernel
theorem dX11_wordOf_106 : decode cX11_wordOf 106 = .ok (.invokestatic 126, 3) := by decide +kernel
theorem dX11_wordOf_109 : decode cX11_wordOf 109 = .ok (.ireturn, 1) := by decide +kernel
theorem dX11_longer_0 : decode cX11_longer 0 = .ok (.lload_n 0, 1) := by decide +kernel
theorem dX11_longer_1 : decode cX11_longer 1 = .ok (.ldc2_w 130, 3) := by decide +kernel
theorem dX11_longer_4 : decode cX11_longer 4 = .ok (.lcmp, 1) := by decide +kernel
