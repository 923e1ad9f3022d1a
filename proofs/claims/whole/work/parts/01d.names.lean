theorem dX11_longer_5 : decode cX11_longer 5 = .ok (.ifCond .ne 7, 3) := by decide +kernel
theorem dX11_longer_8 : decode cX11_longer 8 = .ok (.iconst 2, 1) := by decide +kernel
theorem dX11_longer_9 : decode cX11_longer 9 = .ok (.goto 118, 3) := by decide +kernel
theorem dX11_longer_12 : decode cX11_longer 12 = .ok (.lload_n 0, 1) := by decide +kernel
theorem dX11_longer_13 : decode cX11_longer 13 = .ok (.ldc2_w 132, 3) := by decide +kernel
theorem dX11_longer_16 : decode cX11_longer 16 = .ok (.lcmp, 1) := by decide +kernel
theorem dX11_longer_17 : decode cX11_longer 17 = .ok (.ifCond .ne 7, 3) := by decide +kernel
theorem dX11_longer_20 : decode cX11_longer 20 = .ok (.iconst 3, 1) := by decide +kernel
theorem dX11_longer_21 : decode cX11_longer 21 = .ok (.goto 106, 3) := by decide +kernel
theorem dX11_longer_24 : decode cX11_longer 24 = .ok (.lload_n 0, 1) := by decide +kernel
theorem dX11_longer_25 : decode cX11_longer 25 = .ok (.ldc2_w 134, 3) := by decide +kernel
theorem dX11_longer_28 : decode cX11_longer 28 = .ok (.lcmp, 1) := by decide +kernel
theorem dX11_longer_29 : decode cX11_longer 29 = .ok (.ifCond .ne 7, 3) := by decide +kernel
theorem dX11_longer_32 : decode cX11_longer 32 = .ok (.iconst 4, 1) := by decide +kernel
theorem dX11_longer_33 : decode cX11_longer 33 = .ok (.goto 94, 3) := by decide +kernel
theorem dX11_longer_36 : decode cX11_longer 36 = .ok (.lload_n 0, 1) := by decide +kernel
theorem dX11_longer_37 : decode cX11_longer 37 = .ok (.ldc2_w 136, 3) := by decide +kernel
theorem dX11_longer_40 : decode cX11_longer 40 = .ok (.lcmp, 1) := by decide +kernel
theorem dX11_longer_41 : decode cX11_longer 41 = .ok (.ifCond .ne 7, 3) := by decide +kernel
theorem dX11_longer_44 : decode cX11_longer 44 = .ok (.iconst 5, 1) := by decide +kernel
theorem dX11_longer_45 : decode cX11_longer 45 = .ok (.goto 82, 3) := by decide +kernel
theorem dX11_longer_48 : decode cX11_longer 48 = .ok (.lload_n 0, 1) := by decide +kernel
theorem dX11_longer_49 : decode cX11_longer 49 = .ok (.ldc2_w 138, 3) := by decide +kernel
theorem dX11_longer_52 : decode cX11_longer 52 = .ok (.lcmp, 1) := by decide +kernel
theorem dX11_longer_53 : decode cX11_longer 53 = .ok (.ifCond .ne 8, 3) := by decide +kernel
theorem dX11_longer_56 : decode cX11_longer 56 = .ok (.bipush 6, 2) := by decide +kernel
theorem dX11_longer_58 : decode cX11_longer 58 = .ok (.goto 69, 3) := by decide +kernel
theorem dX11_longer_61 : decode cX11_longer 61 = .ok (.lload_n 0, 1) := by decide +kernel
theorem dX11_longer_62 : decode cX11_longer 62 = .ok (.ldc2_w 140, 3) := by decide +kernel
theorem dX11_longer_65 : decode cX11_longer 65 = .ok (.lcmp, 1) := by decide +kernel
theorem dX11_longer_66 : decode cX11_longer 66 = .ok (.ifCond .ne 8, 3) := by decide +kernel
theorem dX11_longer_69 : decode cX11_longer 69 = .ok (.bipush 7, 2) := by decide +kernel
theorem dX11_longer_71 : decode cX11_longer 71 = .ok (.goto 56, 3) := by decide +kernel
theorem dX11_longer_74 : decode cX11_longer 74 = .ok (.lload_n 0, 1) := by decide +kernel
theorem dX11_longer_75 : decode cX11_longer 75 = .ok (.ldc2_w 142, 3) := by decide +kernel
theorem dX11_longer_78 : decode cX11_longer 78 = .ok (.lcmp, 1) := by decide +kernel
theorem dX11_longer_79 : decode cX11_longer 79 = .ok (.ifCond .ne 8, 3) := by decide +kernel
theorem dX11_longer_82 : decode cX11_longer 82 = .ok (.bipush 8, 2) := by decide +kernel
theorem dX11_longer_84 : decode cX11_longer 84 = .ok (.goto 43, 3) := by decide +kernel
theorem dX11_longer_87 : decode cX11_longer 87 = .ok (.lload_n 0, 1) := by decide +kernel
theorem dX11_longer_88 : decode cX11_longer 88 = .ok (.ldc2_w 144, 3) := by decide +kernel
theorem dX11_longer_91 : decode cX11_longer 91 = .ok (.lcmp, 1) := by decide +kernel
theorem dX11_longer_92 : decode cX11_longer 92 = .ok (.ifCond .ne 8, 3) := by decide +kernel
theorem dX11_longer_95 : decode cX11_longer 95 = .ok (.bipush 9, 2) := by decide +kernel
theorem dX11_longer_97 : decode cX11_longer 97 = .ok (.goto 30, 3) := by decide +kernel
theorem dX11_longer_100 : decode cX11_longer 100 = .ok (.lload_n 0, 1) := by decide +kernel
theorem dX11_longer_101 : decode cX11_longer 101 = .ok (.ldc2_w 146, 3) := by decide +kernel
theorem dX11_longer_104 : decode cX11_longer 104 = .ok (.lcmp, 1) := by decide +kernel
theorem dX11_longer_105 : decode cX11_longer 105 = .ok (.ifCond .ne 8, 3) := by decide +kernel
theorem dX11_longer_108 : decode cX11_longer 108 = .ok (.bipush 10, 2) := by decide +kernel
theorem dX11_longer_110 : decode cX11_longer 110 = .ok (.goto 17, 3) := by decide +kernel
theorem dX11_longer_113 : decode cX11_longer 113 = .ok (.lload_n 0, 1) := by decide +kernel
theorem dX11_longer_114 : decode cX11_longer 114 = .ok (.ldc2_w 148, 3) := by decide +kernel
theorem dX11_longer_117 : decode cX11_longer 117 = .ok (.lcmp, 1) := by decide +kernel
theorem dX11_longer_118 : decode cX11_longer 118 = .ok (.ifCond .ne 8, 3) := by decide +kernel
theorem dX11_longer_121 : decode cX11_longer 121 = .ok (.bipush 11, 2) := by decide +kernel
theorem dX11_longer_123 : decode cX11_longer 123 = .ok (.goto 4, 3) := by decide +kernel
theorem dX11_longer_126 : decode cX11_longer 126 = .ok (.iconst 1, 1) := by decide +kernel
theorem dX11_longer_127 : decode cX11_longer 127 = .ok (.ireturn, 1) := by decide +kernel
theorem dX11_signOf_0 : decode cX11_signOf 0 = .ok (.iload_n 0, 1) := by decide +kernel
theorem dX11_signOf_1 : decode cX11_signOf 1 = .ok (.lookupswitch 99 #[(33, 90), (38, 87), (40, 93), (41, 96), (48, 75), (49, 78), (59, 81), (124, 84)], 75) := by decide +kernel
theorem dX11_signOf_76 : decode cX11_signOf 76 = .ok (.bipush 17, 2) := by decide +kernel
theorem dX11_signOf_78 : decode cX11_signOf 78 = .ok (.ireturn, 1) := by decide +kernel
theorem dX11_signOf_79 : decode cX11_signOf 79 = .ok (.bipush 18, 2) := by decide +kernel
theorem dX11_signOf_81 : decode cX11_signOf 81 = .ok (.ireturn, 1) := by decide +kernel
theorem dX11_signOf_82 : decode cX11_signOf 82 = .ok (.bipush 19, 2) := by decide +kernel
theorem dX11_signOf_84 : decode cX11_signOf 84 = .ok (.ireturn, 1) := by decide +kernel
theorem dX11_signOf_85 : decode cX11_signOf 85 = .ok (.bipush 20, 2) := by decide +kernel
theorem dX11_signOf_87 : decode cX11_signOf 87 = .ok (.ireturn, 1) := by decide +kernel
theorem dX11_signOf_88 : decode cX11_signOf 88 = .ok (.bipush 21, 2) := by decide +kernel
theorem dX11_signOf_90 : decode cX11_signOf 90 = .ok (.ireturn, 1) := by decide +kernel
theorem dX11_signOf_91 : decode cX11_signOf 91 = .ok (.bipush 22, 2) := by decide +kernel
theorem dX11_signOf_93 : decode cX11_signOf 93 = .ok (.ireturn, 1) := by decide +kernel
theorem dX11_signOf_94 : decode cX11_signOf 94 = .ok (.bipush 23, 2) := by decide +kernel
theorem dX11_signOf_96 : decode cX11_signOf 96 = .ok (.ireturn, 1) := by decide +kernel
theorem dX11_signOf_97 : decode cX11_signOf 97 = .ok (.bipush 24, 2) := by decide +kernel
theorem dX11_signOf_99 : decode cX11_signOf 99 = .ok (.ireturn, 1) := by decide +kernel
theorem dX11_signOf_100 : decode cX11_signOf 100 = .ok (.iconst 1, 1) := by decide +kernel
theorem dX11_signOf_101 : decode cX11_signOf 101 = .ok (.ireturn, 1) := by decide +kernel
set_option maxRecDepth 20000 in
theorem ggX11_scans_X11_isLetter : GoodIn wsX11_scans wsX11_isLetter := goodIn_r _ [9, 10, 11, 12, 13, 8, 14] (by decide +kernel) (by decide +kernel)
set_option maxRecDepth 20000 in
theorem gX11_scans_X11_isLetter : GoodIn wsX11_scans (va_wsS RX11 156 yX11_isLetter wsX11_isLetter) := goodIn_app (goodIn_of _ (by decide +kernel)) ggX11_scans_X11_isLetter
set_option maxRecDepth 20000 in
theorem ggX11_scans_X11_signOf : GoodIn wsX11_scans wsX11_signOf := goodIn_r _ [17] (by decide +kernel) (by decide +kernel)
set_option maxRecDepth 20000 in
theorem gX11_scans_X11_signOf : GoodIn wsX11_scans (va_wsS RX11 160 yX11_signOf wsX11_signOf) := goodIn_app (goodIn_of _ (by decide +kernel)) ggX11_scans_X11_signOf
set_option maxRecDepth 20000 in
theorem ggX11_scans_X11_wordOf : GoodIn wsX11_scans wsX11_wordOf := goodIn_r _ [21, 22, 3, 4, 10, 23, 24, 25, 26, 27, 28, 8, 29, 30, 31, 32, 33, 34, 35, 36, 37, 38, 39, 40, 41, 42, 43, 44, 45, 46, 47, 48, 49, 50, 51, 52, 53, 54, 55, 56, 57, 58, 59, 60, 61, 62, 63, 64, 65, 66, 67, 68, 69, 70, 71, 72, 73, 74, 75, 76, 77, 78, 79, 80] (by decide +kernel) (by decide +kernel)
set_option maxRecDepth 20000 in
theorem gX11_scans_X11_wordOf : GoodIn wsX11_scans (wsV RX11 164 RX11 yX11_wordOf wsX11_wordOf) := goodIn_app (goodIn_of _ (by decide +kernel)) ggX11_scans_X11_wordOf
theorem dX11_scans_0 : decode cX11_scans 0 = .ok (.aload_n 0, 1) := by decide +kernel
theorem dX11_scans_1 : decode cX11_scans 1 = .ok (.getfield 150, 3) := by decide +kernel
theorem dX11_scans_4 : decode cX11_scans 4 = .ok (.aload_n 0, 1) := by decide +kernel
theorem dX11_scans_5 : decode cX11_scans 5 = .ok (.getfield 105, 3) := by decide +kernel
theorem dX11_scans_8 : decode cX11_scans 8 = .ok (.if_icmp .ge 30, 3) := by decide +kernel
theorem dX11_scans_11 : decode cX11_scans 11 = .ok (.aload_n 0, 1) := by decide +kernel
theorem dX11_scans_12 : decode cX11_scans 12 = .ok (.getfield 7, 3) := by decide +kernel
theorem dX11_scans_15 : decode cX11_scans 15 = .ok (.aload_n 0, 1) := by decide +kernel
theorem dX11_scans_16 : decode cX11_scans 16 = .ok (.getfield 150, 3) := by decide +kernel
theorem dX11_scans_19 : decode cX11_scans 19 = .ok (.iaload, 1) := by decide +kernel
theorem dX11_scans_20 : decode cX11_scans 20 = .ok (.bipush 32, 2) := by decide +kernel
theorem dX11_scans_22 : decode cX11_scans 22 = .ok (.if_icmp .ne 16, 3) := by decide +kernel
theorem dX11_scans_25 : decode cX11_scans 25 = .ok (.aload_n 0, 1) := by decide +kernel
theorem dX11_scans_26 : decode cX11_scans 26 = .ok (.dup, 1) := by decide +kernel
theorem dX11_scans_27 : decode cX11_scans 27 = .ok (.getfield 150, 3) := by decide +kernel
theorem dX11_scans_30 : decode cX11_scans 30 = .ok (.iconst 1, 1) := by decide +kernel
theorem dX11_scans_31 : decode cX11_scans 31 = .ok (.iadd, 1) := by decide +kernel
theorem dX11_scans_32 : decode cX11_scans 32 = .ok (.putfield 150, 3) := by decide +kernel
theorem dX11_scans_35 : decode cX11_scans 35 = .ok (.goto (-35), 3) := by decide +kernel
theorem dX11_scans_38 : decode cX11_scans 38 = .ok (.aload_n 0, 1) := by decide +kernel
theorem dX11_scans_39 : decode cX11_scans 39 = .ok (.aload_n 0, 1) := by decide +kernel
theorem dX11_scans_40 : decode cX11_scans 40 = .ok (.getfield 150, 3) := by decide +kernel
theorem dX11_scans_43 : decode cX11_scans 43 = .ok (.putfield 117, 3) := by decide +kernel
theorem dX11_scans_46 : decode cX11_scans 46 = .ok (.aload_n 0, 1) := by decide +kernel
theorem dX11_scans_47 : decode cX11_scans 47 = .ok (.getfield 150, 3) := by decide +kernel
theorem dX11_scans_50 : decode cX11_scans 50 = .ok (.aload_n 0, 1) := by decide +kernel
theorem dX11_scans_51 : decode cX11_scans 51 = .ok (.getfield 105, 3) := by decide +kernel
theorem dX11_scans_54 : decode cX11_scans 54 = .ok (.if_icmp .ne 9, 3) := by decide +kernel
theorem dX11_scans_57 : decode cX11_scans 57 = .ok (.aload_n 0, 1) := by decide +kernel
theorem dX11_scans_58 : decode cX11_scans 58 = .ok (.iconst 0, 1) := by decide +kernel
theorem dX11_scans_59 : decode cX11_scans 59 = .ok (.putfield 153, 3) := by decide +kernel
theorem dX11_scans_62 : decode cX11_scans 62 = .ok (.return_, 1) := by decide +kernel
theorem dX11_scans_63 : decode cX11_scans 63 = .ok (.aload_n 0, 1) := by decide +kernel
theorem dX11_scans_64 : decode cX11_scans 64 = .ok (.getfield 7, 3) := by decide +kernel
theorem dX11_scans_67 : decode cX11_scans 67 = .ok (.aload_n 0, 1) := by decide +kernel
theorem dX11_scans_68 : decode cX11_scans 68 = .ok (.getfield 150, 3) := by decide +kernel
theorem dX11_scans_71 : decode cX11_scans 71 = .ok (.iaload, 1) := by decide +kernel
theorem dX11_scans_72 : decode cX11_scans 72 = .ok (.invokestatic 156, 3) := by decide +kernel
theorem dX11_scans_75 : decode cX11_scans 75 = .ok (.ifCond .ne 30, 3) := by decide +kernel
theorem dX11_scans_78 : decode cX11_scans 78 = .ok (.aload_n 0, 1) := by decide +kernel
theorem dX11_scans_79 : decode cX11_scans 79 = .ok (.aload_n 0, 1) := by decide +kernel
theorem dX11_scans_80 : decode cX11_scans 80 = .ok (.getfield 7, 3) := by decide +kernel
theorem dX11_scans_83 : decode cX11_scans 83 = .ok (.aload_n 0, 1) := by decide +kernel
theorem dX11_scans_84 : decode cX11_scans 84 = .ok (.getfield 150, 3) := by decide +kernel
theorem dX11_scans_87 : decode cX11_scans 87 = .ok (.iaload, 1) := by decide +kernel
theorem dX11_scans_88 : decode cX11_scans 88 = .ok (.invokestatic 160, 3) := by decide +kernel
theorem dX11_scans_91 : decode cX11_scans 91 = .ok (.putfield 153, 3) := by decide +kernel
theorem dX11_scans_94 : decode cX11_scans 94 = .ok (.aload_n 0, 1) := by decide +kernel
theorem dX11_scans_95 : decode cX11_scans 95 = .ok (.dup, 1) := by decide +kernel
theorem dX11_scans_96 : decode cX11_scans 96 = .ok (.getfield 150, 3) := by decide +kernel
theorem dX11_scans_99 : decode cX11_scans 99 = .ok (.iconst 1, 1) := by decide +kernel
theorem dX11_scans_100 : decode cX11_scans 100 = .ok (.iadd, 1) := by decide +kernel
theorem dX11_scans_101 : decode cX11_scans 101 = .ok (.putfield 150, 3) := by decide +kernel
theorem dX11_scans_104 : decode cX11_scans 104 = .ok (.return_, 1) := by decide +kernel
theorem dX11_scans_105 : decode cX11_scans 105 = .ok (.aload_n 0, 1) := by decide +kernel
theorem dX11_scans_106 : decode cX11_scans 106 = .ok (.getfield 150, 3) := by decide +kernel
theorem dX11_scans_109 : decode cX11_scans 109 = .ok (.aload_n 0, 1) := by decide +kernel
theorem dX11_scans_110 : decode cX11_scans 110 = .ok (.getfield 105, 3) := by decide +kernel
theorem dX11_scans_113 : decode cX11_scans 113 = .ok (.if_icmp .ge 31, 3) := by decide +kernel
theorem dX11_scans_116 : decode cX11_scans 116 = .ok (.aload_n 0, 1) := by decide +kernel
theorem dX11_scans_117 : decode cX11_scans 117 = .ok (.getfield 7, 3) := by decide +kernel
theorem dX11_scans_120 : decode cX11_scans 120 = .ok (.aload_n 0, 1) := by decide +kernel
theorem dX11_scans_121 : decode cX11_scans 121 = .ok (.getfield 150, 3) := by decide +kernel
theorem dX11_scans_124 : decode cX11_scans 124 = .ok (.iaload, 1) := by decide +kernel
theorem dX11_scans_125 : decode cX11_scans 125 = .ok (.invokestatic 156, 3) := by decide +kernel
theorem dX11_scans_128 : decode cX11_scans 128 = .ok (.ifCond .eq 16, 3) := by decide +kernel
theorem dX11_scans_131 : decode cX11_scans 131 = .ok (.aload_n 0, 1) := by decide +kernel
theorem dX11_scans_132 : decode cX11_scans 132 = .ok (.dup, 1) := by decide +kernel
theorem dX11_scans_133 : decode cX11_scans 133 = .ok (.getfield 150, 3) := by decide +kernel
theorem dX11_scans_136 : decode cX11_scans 136 = .ok (.iconst 1, 1) := by decide +kernel
theorem dX11_scans_137 : decode cX11_scans 137 = .ok (.iadd, 1) := by decide +kernel
theorem dX11_scans_138 : decode cX11_scans 138 = .ok (.putfield 150, 3) := by decide +kernel
theorem dX11_scans_141 : decode cX11_scans 141 = .ok (.goto (-36), 3) := by decide +kernel
theorem dX11_scans_144 : decode cX11_scans 144 = .ok (.aload_n 0, 1) := by decide +kernel
theorem dX11_scans_145 : decode cX11_scans 145 = .ok (.aload_n 0, 1) := by decide +kernel
theorem dX11_scans_146 : decode cX11_scans 146 = .ok (.aload_n 0, 1) := by decide +kernel
theorem dX11_scans_147 : decode cX11_scans 147 = .ok (.getfield 150, 3) := by decide +kernel
theorem dX11_scans_150 : decode cX11_scans 150 = .ok (.aload_n 0, 1) := by decide +kernel
theorem dX11_scans_151 : decode cX11_scans 151 = .ok (.getfield 117, 3) := by decide +kernel
theorem dX11_scans_154 : decode cX11_scans 154 = .ok (.isub, 1) := by decide +kernel
theorem dX11_scans_155 : decode cX11_scans 155 = .ok (.invokevirtual 164, 3) := by decide +kernel
theorem dX11_scans_158 : decode cX11_scans 158 = .ok (.putfield 153, 3) := by decide +kernel
theorem dX11_scans_161 : decode cX11_scans 161 = .ok (.return_, 1) := by decide +kernel
theorem dX11_works_0 : decode cX11_works 0 = .ok (.aload_n 0, 1) := by decide +kernel
theorem dX11_works_1 : decode cX11_works 1 = .ok (.getfield 167, 3) := by decide +kernel
theorem dX11_works_4 : decode cX11_works 4 = .ok (.ifCond .le 133, 3) := by decide +kernel
theorem dX11_works_7 : decode cX11_works 7 = .ok (.aload_n 0, 1) := by decide +kernel
theorem dX11_works_8 : decode cX11_works 8 = .ok (.getfield 49, 3) := by decide +kernel
theorem dX11_works_11 : decode cX11_works 11 = .ok (.aload_n 0, 1) := by decide +kernel
theorem dX11_works_12 : decode cX11_works 12 = .ok (.getfield 167, 3) := by decide +kernel
theorem dX11_works_15 : decode cX11_works 15 = .ok (.iconst 1, 1) := by decide +kernel
theorem dX11_works_16 : decode cX11_works 16 = .ok (.isub, 1) := by decide +kernel
theorem dX11_works_17 : decode cX11_works 17 = .ok (.iaload, 1) := by decide +kernel
theorem dX11_works_18 : decode cX11_works 18 = .ok (.iload_n 1, 1) := by decide +kernel
theorem dX11_works_19 : decode cX11_works 19 = .ok (.if_icmp .lt 118, 3) := by decide +kernel
theorem dX11_works_22 : decode cX11_works 22 = .ok (.aload_n 0, 1) := by decide +kernel
theorem dX11_works_23 : decode cX11_works 23 = .ok (.getfield 49, 3) := by decide +kernel
theorem dX11_works_26 : decode cX11_works 26 = .ok (.aload_n 0, 1) := by decide +kernel
theorem dX11_works_27 : decode cX11_works 27 = .ok (.getfield 167, 3) := by decide +kernel
theorem dX11_works_30 : decode cX11_works 30 = .ok (.iconst 1, 1) := by decide +kernel
theorem dX11_works_31 : decode cX11_works 31 = .ok (.isub, 1) := by decide +kernel
theorem dX11_works_32 : decode cX11_works 32 = .ok (.iaload, 1) := by decide +kernel
theorem dX11_works_33 : decode cX11_works 33 = .ok (.bipush 23, 2) := by decide +kernel
theorem dX11_works_35 : decode cX11_works 35 = .ok (.if_icmp .eq 102, 3) := by decide +kernel
theorem dX11_works_38 : decode cX11_works 38 = .ok (.aload_n 0, 1) := by decide +kernel
theorem dX11_works_39 : decode cX11_works 39 = .ok (.getfield 49, 3) := by decide +kernel
theorem dX11_works_42 : decode cX11_works 42 = .ok (.aload_n 0, 1) := by decide +kernel
theorem dX11_works_43 : decode cX11_works 43 = .ok (.getfield 167, 3) := by decide +kernel
theorem dX11_works_46 : decode cX11_works 46 = .ok (.iconst 1, 1) := by decide +kernel
theorem dX11_works_47 : decode cX11_works 47 = .ok (.isub, 1) := by decide +kernel
theorem dX11_works_48 : decode cX11_works 48 = .ok (.iaload, 1) := by decide +kernel
theorem dX11_works_49 : decode cX11_works 49 = .ok (.bipush 22, 2) := by decide +kernel
theorem dX11_works_51 : decode cX11_works 51 = .ok (.if_icmp .eq 86, 3) := by decide +kernel
theorem dX11_works_54 : decode cX11_works 54 = .ok (.aload_n 0, 1) := by decide +kernel
theorem dX11_works_55 : decode cX11_works 55 = .ok (.getfield 46, 3) := by decide +kernel
theorem dX11_works_58 : decode cX11_works 58 = .ok (.aload_n 0, 1) := by decide +kernel
theorem dX11_works_59 : decode cX11_works 59 = .ok (.getfield 170, 3) := by decide +kernel
theorem dX11_works_62 : decode cX11_works 62 = .ok (.iconst 2, 1) := by decide +kernel
theorem dX11_works_63 : decode cX11_works 63 = .ok (.isub, 1) := by decide +kernel
theorem dX11_works_64 : decode cX11_works 64 = .ok (.iaload, 1) := by decide +kernel
theorem dX11_works_65 : decode cX11_works 65 = .ok (.istore_n 2, 1) := by decide +kernel
theorem dX11_works_66 : decode cX11_works 66 = .ok (.aload_n 0, 1) := by decide +kernel
theorem dX11_works_67 : decode cX11_works 67 = .ok (.getfield 46, 3) := by decide +kernel
theorem dX11_works_70 : decode cX11_works 70 = .ok (.aload_n 0, 1) := by decide +kernel
theorem dX11_works_71 : decode cX11_works 71 = .ok (.getfield 170, 3) := by decide +kernel
theorem dX11_works_74 : decode cX11_works 74 = .ok (.iconst 1, 1) := by decide +kernel
theorem dX11_works_75 : decode cX11_works 75 = .ok (.isub, 1) := by decide +kernel
theorem dX11_works_76 : decode cX11_works 76 = .ok (.iaload, 1) := by decide +kernel
theorem dX11_works_77 : decode cX11_works 77 = .ok (.istore_n 3, 1) := by decide +kernel
theorem dX11_works_78 : decode cX11_works 78 = .ok (.aload_n 0, 1) := by decide +kernel
theorem dX11_works_79 : decode cX11_works 79 = .ok (.dup, 1) := by decide +kernel
theorem dX11_works_80 : decode cX11_works 80 = .ok (.getfield 170, 3) := by decide +kernel
theorem dX11_works_83 : decode cX11_works 83 = .ok (.iconst 1, 1) := by decide +kernel
theorem dX11_works_84 : decode cX11_works 84 = .ok (.isub, 1) := by decide +kernel
theorem dX11_works_85 : decode cX11_works 85 = .ok (.putfield 170, 3) := by decide +kernel
theorem dX11_works_88 : decode cX11_works 88 = .ok (.aload_n 0, 1) := by decide +kernel
theorem dX11_works_89 : decode cX11_works 89 = .ok (.getfield 46, 3) := by decide +kernel
theorem dX11_works_92 : decode cX11_works 92 = .ok (.aload_n 0, 1) := by decide +kernel
theorem dX11_works_93 : decode cX11_works 93 = .ok (.getfield 170, 3) := by decide +kernel
theorem dX11_works_96 : decode cX11_works 96 = .ok (.iconst 1, 1) := by decide +kernel
theorem dX11_works_97 : decode cX11_works 97 = .ok (.isub, 1) := by decide +kernel
theorem dX11_works_98 : decode cX11_works 98 = .ok (.aload_n 0, 1) := by decide +kernel
theorem dX11_works_99 : decode cX11_works 99 = .ok (.getfield 49, 3) := by decide +kernel
theorem dX11_works_102 : decode cX11_works 102 = .ok (.aload_n 0, 1) := by decide +kernel
theorem dX11_works_103 : decode cX11_works 103 = .ok (.getfield 167, 3) := by decide +kernel
theorem dX11_works_106 : decode cX11_works 106 = .ok (.iconst 1, 1) := by decide +kernel
theorem dX11_works_107 : decode cX11_works 107 = .ok (.isub, 1) := by decide +kernel
theorem dX11_works_108 : decode cX11_works 108 = .ok (.iaload, 1) := by decide +kernel
theorem dX11_works_109 : decode cX11_works 109 = .ok (.bipush 20, 2) := by decide +kernel
theorem dX11_works_111 : decode cX11_works 111 = .ok (.if_icmp .ne 9, 3) := by decide +kernel
theorem dX11_works_114 : decode cX11_works 114 = .ok (.iload_n 2, 1) := by decide +kernel
theorem dX11_works_115 : decode cX11_works 115 = .ok (.iload_n 3, 1) := by decide +kernel
theorem dX11_works_116 : decode cX11_works 116 = .ok (.ior, 1) := by decide +kernel
theorem dX11_works_117 : decode cX11_works 117 = .ok (.goto 6, 3) := by decide +kernel
theorem dX11_works_120 : decode cX11_works 120 = .ok (.iload_n 2, 1) := by decide +kernel
theorem dX11_works_121 : decode cX11_works 121 = .ok (.iload_n 3, 1) := by decide +kernel
theorem dX11_works_122 : decode cX11_works 122 = .ok (.iand, 1) := by decide +kernel
theorem dX11_works_123 : decode cX11_works 123 = .ok (.iastore, 1) := by decide +kernel
theorem dX11_works_124 : decode cX11_works 124 = .ok (.aload_n 0, 1) := by decide +kernel
theorem dX11_works_125 : decode cX11_works 125 = .ok (.dup, 1) := by decide +kernel
theorem dX11_works_126 : decode cX11_works 126 = .ok (.getfield 167, 3) := by decide +kernel
theorem dX11_works_129 : decode cX11_works 129 = .ok (.iconst 1, 1) := by decide +kernel
theorem dX11_works_130 : decode cX11_works 130 = .ok (.isub, 1) := by decide +kernel
theorem dX11_works_131 : decode cX11_works 131 = .ok (.putfield 167, 3) := by decide +kernel
theorem dX11_works_134 : decode cX11_works 134 = .ok (.goto (-134), 3) := by decide +kernel
theorem dX11_works_137 : decode cX11_works 137 = .ok (.return_, 1) := by decide +kernel
theorem dX11_turns_0 : decode cX11_turns 0 = .ok (.aload_n 0, 1) := by decide +kernel
theorem dX11_turns_1 : decode cX11_turns 1 = .ok (.getfield 167, 3) := by decide +kernel
theorem dX11_turns_4 : decode cX11_turns 4 = .ok (.ifCond .le 58, 3) := by decide +kernel
theorem dX11_turns_7 : decode cX11_turns 7 = .ok (.aload_n 0, 1) := by decide +kernel
theorem dX11_turns_8 : decode cX11_turns 8 = .ok (.getfield 49, 3) := by decide +kernel
theorem dX11_turns_11 : decode cX11_turns 11 = .ok (.aload_n 0, 1) := by decide +kernel
theorem dX11_turns_12 : decode cX11_turns 12 = .ok (.getfield 167, 3) := by decide +kernel
theorem dX11_turns_15 : decode cX11_turns 15 = .ok (.iconst 1, 1) := by decide +kernel
theorem dX11_turns_16 : decode cX11_turns 16 = .ok (.isub, 1) := by decide +kernel
theorem dX11_turns_17 : decode cX11_turns 17 = .ok (.iaload, 1) := by decide +kernel
theorem dX11_turns_18 : decode cX11_turns 18 = .ok (.bipush 22, 2) := by decide +kernel
theorem dX11_turns_20 : decode cX11_turns 20 = .ok (.if_icmp .ne 42, 3) := by decide +kernel
theorem dX11_turns_23 : decode cX11_turns 23 = .ok (.aload_n 0, 1) := by decide +kernel
theorem dX11_turns_24 : decode cX11_turns 24 = .ok (.getfield 46, 3) := by decide +kernel
theorem dX11_turns_27 : decode cX11_turns 27 = .ok (.aload_n 0, 1) := by decide +kernel
theorem dX11_turns_28 : decode cX11_turns 28 = .ok (.getfield 170, 3) := by decide +kernel
theorem dX11_turns_31 : decode cX11_turns 31 = .ok (.iconst 1, 1) := by decide +kernel
theorem dX11_turns_32 : decode cX11_turns 32 = .ok (.isub, 1) := by decide +kernel
theorem dX11_turns_33 : decode cX11_turns 33 = .ok (.dup2, 1) := by decide +kernel
theorem dX11_turns_34 : decode cX11_turns 34 = .ok (.iaload, 1) := by decide +kernel
theorem dX11_turns_35 : decode cX11_turns 35 = .ok (.bipush 15, 2) := by decide +kernel
theorem dX11_turns_37 : decode cX11_turns 37 = .ok (.ixor, 1) := by decide +kernel
theorem dX11_turns_38 : decode cX11_turns 38 = .ok (.iastore, 1) := by decide +kernel
theorem dX11_turns_39 : decode cX11_turns 39 = .ok (.aload_n 0, 1) := by decide +kernel
theorem dX11_turns_40 : decode cX11_turns 40 = .ok (.dup, 1) := by decide +kernel
theorem dX11_turns_41 : decode cX11_turns 41 = .ok (.getfield 167, 3) := by decide +kernel
theorem dX11_turns_44 : decode cX11_turns 44 = .ok (.iconst 1, 1) := by decide +kernel
theorem dX11_turns_45 : decode cX11_turns 45 = .ok (.isub, 1) := by decide +kernel
theorem dX11_turns_46 : decode cX11_turns 46 = .ok (.putfield 167, 3) := by decide +kernel
theorem dX11_turns_49 : decode cX11_turns 49 = .ok (.aload_n 0, 1) := by decide +kernel
theorem dX11_turns_50 : decode cX11_turns 50 = .ok (.dup, 1) := by decide +kernel
theorem dX11_turns_51 : decode cX11_turns 51 = .ok (.getfield 173, 3) := by decide +kernel
theorem dX11_turns_54 : decode cX11_turns 54 = .ok (.iconst 1, 1) := by decide +kernel
theorem dX11_turns_55 : decode cX11_turns 55 = .ok (.isub, 1) := by decide +kernel
theorem dX11_turns_56 : decode cX11_turns 56 = .ok (.putfield 173, 3) := by decide +kernel
theorem dX11_turns_59 : decode cX11_turns 59 = .ok (.goto (-59), 3) := by decide +kernel
theorem dX11_turns_62 : decode cX11_turns 62 = .ok (.return_, 1) := by decide +kernel
theorem dX11_atomsOf_0 : decode cX11_atomsOf 0 = .ok (.iload_n 0, 1) := by decide +kernel
theorem dX11_atomsOf_1 : decode cX11_atomsOf 1 = .ok (.bipush 12, 2) := by decide +kernel
theorem dX11_atomsOf_3 : decode cX11_atomsOf 3 = .ok (.if_icmp .ne 8, 3) := by decide +kernel
theorem dX11_atomsOf_6 : decode cX11_atomsOf 6 = .ok (.bipush 10, 2) := by decide +kernel
theorem dX11_atomsOf_8 : decode cX11_atomsOf 8 = .ok (.goto 26, 3) := by decide +kernel
theorem dX11_atomsOf_11 : decode cX11_atomsOf 11 = .ok (.iload_n 0, 1) := by decide +kernel
theorem dX11_atomsOf_12 : decode cX11_atomsOf 12 = .ok (.bipush 13, 2) := by decide +kernel
theorem dX11_atomsOf_14 : decode cX11_atomsOf 14 = .ok (.if_icmp .ne 8, 3) := by decide +kernel
theorem dX11_atomsOf_17 : decode cX11_atomsOf 17 = .ok (.bipush 12, 2) := by decide +kernel
theorem dX11_atomsOf_19 : decode cX11_atomsOf 19 = .ok (.goto 15, 3) := by decide +kernel
theorem dX11_atomsOf_22 : decode cX11_atomsOf 22 = .ok (.iload_n 0, 1) := by decide +kernel
theorem dX11_atomsOf_23 : decode cX11_atomsOf 23 = .ok (.bipush 18, 2) := by decide +kernel
theorem dX11_atomsOf_25 : decode cX11_atomsOf 25 = .ok (.if_icmp .ne 8, 3) := by decide +kernel
theorem dX11_atomsOf_28 : decode cX11_atomsOf 28 = .ok (.bipush 15, 2) := by decide +kernel
theorem dX11_atomsOf_30 : decode cX11_atomsOf 30 = .ok (.goto 4, 3) := by decide +kernel
theorem dX11_atomsOf_33 : decode cX11_atomsOf 33 = .ok (.iconst 0, 1) := by decide +kernel
theorem dX11_atomsOf_34 : decode cX11_atomsOf 34 = .ok (.ireturn, 1) := by decide +kernel
theorem dX11_isInner_0 : decode cX11_isInner 0 = .ok (.iconst 0, 1) := by decide +kernel
theorem dX11_isInner_1 : decode cX11_isInner 1 = .ok (.istore_n 1, 1) := by decide +kernel
theorem dX11_isInner_2 : decode cX11_isInner 2 = .ok (.iconst 0, 1) := by decide +kernel
theorem dX11_isInner_3 : decode cX11_isInner 3 = .ok (.istore_n 2, 1) := by decide +kernel
theorem dX11_isInner_4 : decode cX11_isInner 4 = .ok (.iload_n 2, 1) := by decide +kernel
theorem dX11_isInner_5 : decode cX11_isInner 5 = .ok (.aload_n 0, 1) := by decide +kernel
theorem dX11_isInner_6 : decode cX11_isInner 6 = .ok (.getfield 167, 3) := by decide +kernel
theorem dX11_isInner_9 : decode cX11_isInner 9 = .ok (.if_icmp .ge 30, 3) := by decide +kernel
theorem dX11_isInner_12 : decode cX11_isInner 12 = .ok (.iload_n 1, 1) := by decide +kernel
theorem dX11_isInner_13 : decode cX11_isInner 13 = .ok (.ifCond .ne 14, 3) := by decide +kernel
theorem dX11_isInner_16 : decode cX11_isInner 16 = .ok (.aload_n 0, 1) := by decide +kernel
theorem dX11_isInner_17 : decode cX11_isInner 17 = .ok (.getfield 49, 3) := by decide +kernel
theorem dX11_isInner_20 : decode cX11_isInner 20 = .ok (.iload_n 2, 1) := by decide +kernel
theorem dX11_isInner_21 : decode cX11_isInner 21 = .ok (.iaload, 1) := by decide +kernel
theorem dX11_isInner_22 : decode cX11_isInner 22 = .ok (.bipush 23, 2) := by decide +kernel
theorem dX11_isInner_24 : decode cX11_isInner 24 = .ok (.if_icmp .ne 7, 3) := by decide +kernel
theorem dX11_isInner_27 : decode cX11_isInner 27 = .ok (.iconst 1, 1) := by decide +kernel
theorem dX11_isInner_28 : decode cX11_isInner 28 = .ok (.goto 4, 3) := by decide +kernel
theorem dX11_isInner_31 : decode cX11_isInner 31 = .ok (.iconst 0, 1) := by decide +kernel
theorem dX11_isInner_32 : decode cX11_isInner 32 = .ok (.istore_n 1, 1) := by decide +kernel
theorem dX11_isInner_33 : decode cX11_isInner 33 = .ok (.iinc 2 1, 3) := by decide +kernel
theorem dX11_isInner_36 : decode cX11_isInner 36 = .ok (.goto (-32), 3) := by decide +kernel
theorem dX11_isInner_39 : decode cX11_isInner 39 = .ok (.iload_n 1, 1) := by decide +kernel
theorem dX11_isInner_40 : decode cX11_isInner 40 = .ok (.ireturn, 1) := by decide +kernel
set_option maxRecDepth 20000 in
theorem ggX11_test_X11_atomsOf : GoodIn wsX11_test wsX11_atomsOf := goodIn_r _ [10] (by decide +kernel) (by decide +kernel)
set_option maxRecDepth 20000 in
theorem gX11_test_X11_atomsOf : GoodIn wsX11_test (va_wsS RX11 176 yX11_atomsOf wsX11_atomsOf) := goodIn_app (goodIn_of _ (by decide +kernel)) ggX11_test_X11_atomsOf
set_option maxRecDepth 20000 in
theorem ggX11_test_X11_turns : GoodIn wsX11_test wsX11_turns := goodIn_r _ [14, 2, 5, 6, 1, 4, 64, 65, 66, 67, 68, 69, 70, 71, 72, 73, 74, 75, 76, 77, 78, 79, 80, 81, 82, 83, 84, 85, 86, 87, 88, 89, 90, 91, 92, 93, 94, 95, 96, 97, 98, 99, 100, 101, 102, 103, 104] (by decide +kernel) (by decide +kernel)
set_option maxRecDepth 20000 in
theorem gX11_test_X11_turns : GoodIn wsX11_test (wsV RX11 179 RX11 yX11_turns wsX11_turns) := goodIn_app (goodIn_of _ (by decide +kernel)) ggX11_test_X11_turns
set_option maxRecDepth 20000 in
theorem ggX11_test_X11_works : GoodIn wsX11_test wsX11_works := goodIn_r _ [18, 2, 5, 6, 1, 64, 65, 66, 67, 68, 69, 70, 71, 72, 73, 74, 75, 76, 77, 78, 79, 80, 81, 82, 83, 84, 85, 86, 87, 88, 89, 90, 91, 92, 93, 94, 95, 96, 97, 98, 99, 100, 101, 102, 103, 104] (by decide +kernel) (by decide +kernel)
set_option maxRecDepth 20000 in
theorem gX11_test_X11_works : GoodIn wsX11_test (wsV RX11 182 RX11 yX11_works wsX11_works) := goodIn_app (goodIn_of _ (by decide +kernel)) ggX11_test_X11_works
set_option maxRecDepth 20000 in
theorem ggX11_test_X11_isInner : GoodIn wsX11_test wsX11_isInner := goodIn_r _ [22, 2, 5, 64, 65, 66, 67, 68, 69, 70, 71, 72, 73, 74, 75, 76, 77, 78, 79, 80, 81, 82, 83, 84, 85, 86, 87, 88, 89, 90, 91, 92, 93, 94, 95, 96, 97, 98, 99, 100, 101, 102, 103, 104] (by decide +kernel) (by decide +kernel)
set_option maxRecDepth 20000 in
theorem gX11_test_X11_isInner : GoodIn wsX11_test (wsV RX11 185 RX11 yX11_isInner wsX11_isInner) := goodIn_app (goodIn_of _ (by decide +kernel)) ggX11_test_X11_isInner
set_option maxRecDepth 20000 in
theorem ggX11_test_X11_scans : GoodIn wsX11_test wsX11_scans := goodIn_r _ [26, 27, 28, 29, 30, 3, 31, 32, 9, 33, 34, 35, 36, 37, 38, 39, 40, 41, 42, 43, 44, 45, 46, 47, 48, 49, 50, 51, 52, 53, 54, 55, 56, 57, 58, 59, 60, 61, 62, 63, 64, 65, 66, 67, 68, 69, 70, 71, 72, 73, 74, 75, 76, 77, 78, 79, 80, 81, 82, 83, 84, 85, 86, 87, 88, 89, 90, 91, 92, 93, 94, 95, 96, 97, 98, 99, 100, 101, 102, 103, 104] (by decide +kernel) (by decide +kernel)
set_option maxRecDepth 20000 in
theorem gX11_test_X11_scans : GoodIn wsX11_test (wsV RX11 189 RX11 yX11_scans wsX11_scans) := goodIn_app (goodIn_of _ (by decide +kernel)) ggX11_test_X11_scans
theorem dX11_test_0 : decode cX11_test 0 = .ok (.aload_n 0, 1) := by decide +kernel
theorem dX11_test_1 : decode cX11_test 1 = .ok (.iconst 0, 1) := by decide +kernel
theorem dX11_test_2 : decode cX11_test 2 = .ok (.putfield 170, 3) := by decide +kernel
theorem dX11_test_5 : decode cX11_test 5 = .ok (.aload_n 0, 1) := by decide +kernel
theorem dX11_test_6 : decode cX11_test 6 = .ok (.iconst 0, 1) := by decide +kernel
theorem dX11_test_7 : decode cX11_test 7 = .ok (.putfield 167, 3) := by decide +kernel
theorem dX11_test_10 : decode cX11_test 10 = .ok (.iconst 1, 1) := by decide +kernel
theorem dX11_test_11 : decode cX11_test 11 = .ok (.istore_n 1, 1) := by decide +kernel
theorem dX11_test_12 : decode cX11_test 12 = .ok (.iload_n 1, 1) := by decide +kernel
theorem dX11_test_13 : decode cX11_test 13 = .ok (.ifCond .eq 141, 3) := by decide +kernel
theorem dX11_test_16 : decode cX11_test 16 = .ok (.aload_n 0, 1) := by decide +kernel
theorem dX11_test_17 : decode cX11_test 17 = .ok (.getfield 153, 3) := by decide +kernel
theorem dX11_test_20 : decode cX11_test 20 = .ok (.bipush 22, 2) := by decide +kernel
theorem dX11_test_22 : decode cX11_test 22 = .ok (.if_icmp .eq 12, 3) := by decide +kernel
theorem dX11_test_25 : decode cX11_test 25 = .ok (.aload_n 0, 1) := by decide +kernel
theorem dX11_test_26 : decode cX11_test 26 = .ok (.getfield 153, 3) := by decide +kernel
theorem dX11_test_29 : decode cX11_test 29 = .ok (.bipush 23, 2) := by decide +kernel
theorem dX11_test_31 : decode cX11_test 31 = .ok (.if_icmp .ne 50, 3) := by decide +kernel
theorem dX11_test_34 : decode cX11_test 34 = .ok (.aload_n 0, 1) := by decide +kernel
theorem dX11_test_35 : decode cX11_test 35 = .ok (.getfield 173, 3) := by decide +kernel
theorem dX11_test_38 : decode cX11_test 38 = .ok (.bipush 8, 2) := by decide +kernel
theorem dX11_test_40 : decode cX11_test 40 = .ok (.if_icmp .ne 5, 3) := by decide +kernel
theorem dX11_test_43 : decode cX11_test 43 = .ok (.iconst (-1), 1) := by decide +kernel
theorem dX11_test_44 : decode cX11_test 44 = .ok (.ireturn, 1) := by decide +kernel
theorem dX11_test_45 : decode cX11_test 45 = .ok (.aload_n 0, 1) := by decide +kernel
theorem dX11_test_46 : decode cX11_test 46 = .ok (.dup, 1) := by decide +kernel
theorem dX11_test_47 : decode cX11_test 47 = .ok (.getfield 173, 3) := by decide +kernel
theorem dX11_test_50 : decode cX11_test 50 = .ok (.iconst 1, 1) := by decide +kernel
theorem dX11_test_51 : decode cX11_test 51 = .ok (.iadd, 1) := by decide +kernel
theorem dX11_test_52 : decode cX11_test 52 = .ok (.putfield 173, 3) := by decide +kernel
theorem dX11_test_55 : decode cX11_test 55 = .ok (.aload_n 0, 1) := by decide +kernel
theorem dX11_test_56 : decode cX11_test 56 = .ok (.getfield 49, 3) := by decide +kernel
theorem dX11_test_59 : decode cX11_test 59 = .ok (.aload_n 0, 1) := by decide +kernel
theorem dX11_test_60 : decode cX11_test 60 = .ok (.getfield 167, 3) := by decide +kernel
theorem dX11_test_63 : decode cX11_test 63 = .ok (.aload_n 0, 1) := by decide +kernel
theorem dX11_test_64 : decode cX11_test 64 = .ok (.getfield 153, 3) := by decide +kernel
theorem dX11_test_67 : decode cX11_test 67 = .ok (.iastore, 1) := by decide +kernel
theorem dX11_test_68 : decode cX11_test 68 = .ok (.aload_n 0, 1) := by decide +kernel
theorem dX11_test_69 : decode cX11_test 69 = .ok (.dup, 1) := by decide +kernel
theorem dX11_test_70 : decode cX11_test 70 = .ok (.getfield 167, 3) := by decide +kernel
theorem dX11_test_73 : decode cX11_test 73 = .ok (.iconst 1, 1) := by decide +kernel
theorem dX11_test_74 : decode cX11_test 74 = .ok (.iadd, 1) := by decide +kernel
theorem dX11_test_75 : decode cX11_test 75 = .ok (.putfield 167, 3) := by decide +kernel
theorem dX11_test_78 : decode cX11_test 78 = .ok (.goto 201, 3) := by decide +kernel
theorem dX11_test_81 : decode cX11_test 81 = .ok (.aload_n 0, 1) := by decide +kernel
theorem dX11_test_82 : decode cX11_test 82 = .ok (.getfield 153, 3) := by decide +kernel
theorem dX11_test_85 : decode cX11_test 85 = .ok (.bipush 12, 2) := by decide +kernel
theorem dX11_test_87 : decode cX11_test 87 = .ok (.if_icmp .eq 30, 3) := by decide +kernel
theorem dX11_test_90 : decode cX11_test 90 = .ok (.aload_n 0, 1) := by decide +kernel
theorem dX11_test_91 : decode cX11_test 91 = .ok (.getfield 153, 3) := by decide +kernel
theorem dX11_test_94 : decode cX11_test 94 = .ok (.bipush 13, 2) := by decide +kernel
theorem dX11_test_96 : decode cX11_test 96 = .ok (.if_icmp .eq 21, 3) := by decide +kernel
theorem dX11_test_99 : decode cX11_test 99 = .ok (.aload_n 0, 1) := by decide +kernel
theorem dX11_test_100 : decode cX11_test 100 = .ok (.getfield 153, 3) := by decide +kernel
theorem dX11_test_103 : decode cX11_test 103 = .ok (.bipush 17, 2) := by decide +kernel
theorem dX11_test_105 : decode cX11_test 105 = .ok (.if_icmp .eq 12, 3) := by decide +kernel
theorem dX11_test_108 : decode cX11_test 108 = .ok (.aload_n 0, 1) := by decide +kernel
theorem dX11_test_109 : decode cX11_test 109 = .ok (.getfield 153, 3) := by decide +kernel
theorem dX11_test_112 : decode cX11_test 112 = .ok (.bipush 18, 2) := by decide +kernel
theorem dX11_test_114 : decode cX11_test 114 = .ok (.if_icmp .ne 38, 3) := by decide +kernel
theorem dX11_test_117 : decode cX11_test 117 = .ok (.aload_n 0, 1) := by decide +kernel
theorem dX11_test_118 : decode cX11_test 118 = .ok (.getfield 46, 3) := by decide +kernel
theorem dX11_test_121 : decode cX11_test 121 = .ok (.aload_n 0, 1) := by decide +kernel
theorem dX11_test_122 : decode cX11_test 122 = .ok (.getfield 170, 3) := by decide +kernel
theorem dX11_test_125 : decode cX11_test 125 = .ok (.aload_n 0, 1) := by decide +kernel
theorem dX11_test_126 : decode cX11_test 126 = .ok (.getfield 153, 3) := by decide +kernel
theorem dX11_test_129 : decode cX11_test 129 = .ok (.invokestatic 176, 3) := by decide +kernel
theorem dX11_test_132 : decode cX11_test 132 = .ok (.iastore, 1) := by decide +kernel
theorem dX11_test_133 : decode cX11_test 133 = .ok (.aload_n 0, 1) := by decide +kernel
theorem dX11_test_134 : decode cX11_test 134 = .ok (.dup, 1) := by decide +kernel
theorem dX11_test_135 : decode cX11_test 135 = .ok (.getfield 170, 3) := by decide +kernel
theorem dX11_test_138 : decode cX11_test 138 = .ok (.iconst 1, 1) := by decide +kernel
theorem dX11_test_139 : decode cX11_test 139 = .ok (.iadd, 1) := by decide +kernel
theorem dX11_test_140 : decode cX11_test 140 = .ok (.putfield 170, 3) := by decide +kernel
theorem dX11_test_143 : decode cX11_test 143 = .ok (.aload_n 0, 1) := by decide +kernel
theorem dX11_test_144 : decode cX11_test 144 = .ok (.invokevirtual 179, 3) := by decide +kernel
theorem dX11_test_147 : decode cX11_test 147 = .ok (.iconst 0, 1) := by decide +kernel
theorem dX11_test_148 : decode cX11_test 148 = .ok (.istore_n 1, 1) := by decide +kernel
theorem dX11_test_149 : decode cX11_test 149 = .ok (.goto 130, 3) := by decide +kernel
theorem dX11_test_152 : decode cX11_test 152 = .ok (.iconst (-1), 1) := by decide +kernel
theorem dX11_test_153 : decode cX11_test 153 = .ok (.ireturn, 1) := by decide +kernel
theorem dX11_test_154 : decode cX11_test 154 = .ok (.aload_n 0, 1) := by decide +kernel
theorem dX11_test_155 : decode cX11_test 155 = .ok (.getfield 153, 3) := by decide +kernel
theorem dX11_test_158 : decode cX11_test 158 = .ok (.bipush 21, 2) := by decide +kernel
theorem dX11_test_160 : decode cX11_test 160 = .ok (.if_icmp .eq 12, 3) := by decide +kernel
theorem dX11_test_163 : decode cX11_test 163 = .ok (.aload_n 0, 1) := by decide +kernel
theorem dX11_test_164 : decode cX11_test 164 = .ok (.getfield 153, 3) := by decide +kernel
theorem dX11_test_167 : decode cX11_test 167 = .ok (.bipush 20, 2) := by decide +kernel
theorem dX11_test_169 : decode cX11_test 169 = .ok (.if_icmp .ne 39, 3) := by decide +kernel
theorem dX11_test_172 : decode cX11_test 172 = .ok (.aload_n 0, 1) := by decide +kernel
theorem dX11_test_173 : decode cX11_test 173 = .ok (.aload_n 0, 1) := by decide +kernel
theorem dX11_test_174 : decode cX11_test 174 = .ok (.getfield 153, 3) := by decide +kernel
theorem dX11_test_177 : decode cX11_test 177 = .ok (.invokevirtual 182, 3) := by decide +kernel
theorem dX11_test_180 : decode cX11_test 180 = .ok (.aload_n 0, 1) := by decide +kernel
theorem dX11_test_181 : decode cX11_test 181 = .ok (.getfield 49, 3) := by decide +kernel
theorem dX11_test_184 : decode cX11_test 184 = .ok (.aload_n 0, 1) := by decide +kernel
theorem dX11_test_185 : decode cX11_test 185 = .ok (.getfield 167, 3) := by decide +kernel
theorem dX11_test_188 : decode cX11_test 188 = .ok (.aload_n 0, 1) := by decide +kernel
theorem dX11_test_189 : decode cX11_test 189 = .ok (.getfield 153, 3) := by decide +kernel
theorem dX11_test_192 : decode cX11_test 192 = .ok (.iastore, 1) := by decide +kernel
theorem dX11_test_193 : decode cX11_test 193 = .ok (.aload_n 0, 1) := by decide +kernel
theorem dX11_test_194 : decode cX11_test 194 = .ok (.dup, 1) := by decide +kernel
theorem dX11_test_195 : decode cX11_test 195 = .ok (.getfield 167, 3) := by decide +kernel
theorem dX11_test_198 : decode cX11_test 198 = .ok (.iconst 1, 1) := by decide +kernel
theorem dX11_test_199 : decode cX11_test 199 = .ok (.iadd, 1) := by decide +kernel
theorem dX11_test_200 : decode cX11_test 200 = .ok (.putfield 167, 3) := by decide +kernel
theorem dX11_test_203 : decode cX11_test 203 = .ok (.iconst 1, 1) := by decide +kernel
theorem dX11_test_204 : decode cX11_test 204 = .ok (.istore_n 1, 1) := by decide +kernel
theorem dX11_test_205 : decode cX11_test 205 = .ok (.goto 74, 3) := by decide +kernel
theorem dX11_test_208 : decode cX11_test 208 = .ok (.aload_n 0, 1) := by decide +kernel
theorem dX11_test_209 : decode cX11_test 209 = .ok (.getfield 153, 3) := by decide +kernel
theorem dX11_test_212 : decode cX11_test 212 = .ok (.bipush 24, 2) := by decide +kernel
theorem dX11_test_214 : decode cX11_test 214 = .ok (.if_icmp .ne 43, 3) := by decide +kernel
theorem dX11_test_217 : decode cX11_test 217 = .ok (.aload_n 0, 1) := by decide +kernel
theorem dX11_test_218 : decode cX11_test 218 = .ok (.invokevirtual 185, 3) := by decide +kernel
theorem dX11_test_221 : decode cX11_test 221 = .ok (.ifCond .eq 36, 3) := by decide +kernel
theorem dX11_test_224 : decode cX11_test 224 = .ok (.aload_n 0, 1) := by decide +kernel
theorem dX11_test_225 : decode cX11_test 225 = .ok (.bipush 20, 2) := by decide +kernel
theorem dX11_test_227 : decode cX11_test 227 = .ok (.invokevirtual 182, 3) := by decide +kernel
theorem dX11_test_230 : decode cX11_test 230 = .ok (.aload_n 0, 1) := by decide +kernel
theorem dX11_test_231 : decode cX11_test 231 = .ok (.dup, 1) := by decide +kernel
theorem dX11_test_232 : decode cX11_test 232 = .ok (.getfield 167, 3) := by decide +kernel
theorem dX11_test_235 : decode cX11_test 235 = .ok (.iconst 1, 1) := by decide +kernel
theorem dX11_test_236 : decode cX11_test 236 = .ok (.isub, 1) := by decide +kernel
theorem dX11_test_237 : decode cX11_test 237 = .ok (.putfield 167, 3) := by decide +kernel
theorem dX11_test_240 : decode cX11_test 240 = .ok (.aload_n 0, 1) := by decide +kernel
theorem dX11_test_241 : decode cX11_test 241 = .ok (.dup, 1) := by decide +kernel
theorem dX11_test_242 : decode cX11_test 242 = .ok (.getfield 173, 3) := by decide +kernel
theorem dX11_test_245 : decode cX11_test 245 = .ok (.iconst 1, 1) := by decide +kernel
theorem dX11_test_246 : decode cX11_test 246 = .ok (.isub, 1) := by decide +kernel
theorem dX11_test_247 : decode cX11_test 247 = .ok (.putfield 173, 3) := by decide +kernel
theorem dX11_test_250 : decode cX11_test 250 = .ok (.aload_n 0, 1) := by decide +kernel
theorem dX11_test_251 : decode cX11_test 251 = .ok (.invokevirtual 179, 3) := by decide +kernel
theorem dX11_test_254 : decode cX11_test 254 = .ok (.goto 25, 3) := by decide +kernel
theorem dX11_test_257 : decode cX11_test 257 = .ok (.aload_n 0, 1) := by decide +kernel
theorem dX11_test_258 : decode cX11_test 258 = .ok (.invokevirtual 185, 3) := by decide +kernel
theorem dX11_test_261 : decode cX11_test 261 = .ok (.ifCond .eq 5, 3) := by decide +kernel
theorem dX11_test_264 : decode cX11_test 264 = .ok (.iconst (-1), 1) := by decide +kernel
theorem dX11_test_265 : decode cX11_test 265 = .ok (.ireturn, 1) := by decide +kernel
theorem dX11_test_266 : decode cX11_test 266 = .ok (.aload_n 0, 1) := by decide +kernel
theorem dX11_test_267 : decode cX11_test 267 = .ok (.bipush 20, 2) := by decide +kernel
theorem dX11_test_269 : decode cX11_test 269 = .ok (.invokevirtual 182, 3) := by decide +kernel
theorem dX11_test_272 : decode cX11_test 272 = .ok (.aload_n 0, 1) := by decide +kernel
theorem dX11_test_273 : decode cX11_test 273 = .ok (.getfield 46, 3) := by decide +kernel
theorem dX11_test_276 : decode cX11_test 276 = .ok (.iconst 0, 1) := by decide +kernel
theorem dX11_test_277 : decode cX11_test 277 = .ok (.iaload, 1) := by decide +kernel
theorem dX11_test_278 : decode cX11_test 278 = .ok (.ireturn, 1) := by decide +kernel
theorem dX11_test_279 : decode cX11_test 279 = .ok (.aload_n 0, 1) := by decide +kernel
theorem dX11_test_280 : decode cX11_test 280 = .ok (.invokevirtual 189, 3) := by decide +kernel
theorem dX11_test_283 : decode cX11_test 283 = .ok (.goto (-271), 3) := by decide +kernel
theorem dX11_puts_0 : decode cX11_puts 0 = .ok (.sipush 1600, 3) := by decide +kernel
theorem dX11_puts_3 : decode cX11_puts 3 = .ok (.aload_n 0, 1) := by decide +kernel
theorem dX11_puts_4 : decode cX11_puts 4 = .ok (.getfield 22, 3) := by decide +kernel
theorem dX11_puts_7 : decode cX11_puts 7 = .ok (.iconst 4, 1) := by decide +kernel
theorem dX11_puts_8 : decode cX11_puts 8 = .ok (.iaload, 1) := by decide +kernel
theorem dX11_puts_9 : decode cX11_puts 9 = .ok (.iadd, 1) := by decide +kernel
theorem dX11_puts_10 : decode cX11_puts 10 = .ok (.istore 4, 2) := by decide +kernel
theorem dX11_puts_12 : decode cX11_puts 12 = .ok (.aload_n 0, 1) := by decide +kernel
theorem dX11_puts_13 : decode cX11_puts 13 = .ok (.getfield 13, 3) := by decide +kernel
theorem dX11_puts_16 : decode cX11_puts 16 = .ok (.iload 4, 2) := by decide +kernel
theorem dX11_puts_18 : decode cX11_puts 18 = .ok (.iload_n 1, 1) := by decide +kernel
theorem dX11_puts_19 : decode cX11_puts 19 = .ok (.iastore, 1) := by decide +kernel
theorem dX11_puts_20 : decode cX11_puts 20 = .ok (.aload_n 0, 1) := by decide +kernel
theorem dX11_puts_21 : decode cX11_puts 21 = .ok (.getfield 16, 3) := by decide +kernel
theorem dX11_puts_24 : decode cX11_puts 24 = .ok (.iload 4, 2) := by decide +kernel
theorem dX11_puts_26 : decode cX11_puts 26 = .ok (.iload_n 2, 1) := by decide +kernel
theorem dX11_puts_27 : decode cX11_puts 27 = .ok (.iastore, 1) := by decide +kernel
theorem dX11_puts_28 : decode cX11_puts 28 = .ok (.aload_n 0, 1) := by decide +kernel
theorem dX11_puts_29 : decode cX11_puts 29 = .ok (.getfield 19, 3) := by decide +kernel
theorem dX11_puts_32 : decode cX11_puts 32 = .ok (.iload 4, 2) := by decide +kernel
theorem dX11_puts_34 : decode cX11_puts 34 = .ok (.iload_n 3, 1) := by decide +kernel
theorem dX11_puts_35 : decode cX11_puts 35 = .ok (.iastore, 1) := by decide +kernel
theorem dX11_puts_36 : decode cX11_puts 36 = .ok (.aload_n 0, 1) := by decide +kernel
theorem dX11_puts_37 : decode cX11_puts 37 = .ok (.getfield 22, 3) := by decide +kernel
theorem dX11_puts_40 : decode cX11_puts 40 = .ok (.iconst 4, 1) := by decide +kernel
theorem dX11_puts_41 : decode cX11_puts 41 = .ok (.dup2, 1) := by decide +kernel
theorem dX11_puts_42 : decode cX11_puts 42 = .ok (.iaload, 1) := by decide +kernel
theorem dX11_puts_43 : decode cX11_puts 43 = .ok (.iconst 1, 1) := by decide +kernel
theorem dX11_puts_44 : decode cX11_puts 44 = .ok (.iadd, 1) := by decide +kernel
theorem dX11_puts_45 : decode cX11_puts 45 = .ok (.iastore, 1) := by decide +kernel
theorem dX11_puts_46 : decode cX11_puts 46 = .ok (.aload_n 0, 1) := by decide +kernel
theorem dX11_puts_47 : decode cX11_puts 47 = .ok (.getfield 22, 3) := by decide +kernel
theorem dX11_puts_50 : decode cX11_puts 50 = .ok (.iconst 4, 1) := by decide +kernel
theorem dX11_puts_51 : decode cX11_puts 51 = .ok (.iaload, 1) := by decide +kernel
theorem dX11_puts_52 : decode cX11_puts 52 = .ok (.iconst 1, 1) := by decide +kernel
theorem dX11_puts_53 : decode cX11_puts 53 = .ok (.isub, 1) := by decide +kernel
theorem dX11_puts_54 : decode cX11_puts 54 = .ok (.ireturn, 1) := by decide +kernel
theorem dX11_notes_0 : decode cX11_notes 0 = .ok (.aload_n 0, 1) := by decide +kernel
theorem dX11_notes_1 : decode cX11_notes 1 = .ok (.getfield 34, 3) := by decide +kernel
theorem dX11_notes_4 : decode cX11_notes 4 = .ok (.sipush 800, 3) := by decide +kernel
theorem dX11_notes_7 : decode cX11_notes 7 = .ok (.aload_n 0, 1) := by decide +kernel
theorem dX11_notes_8 : decode cX11_notes 8 = .ok (.getfield 40, 3) := by decide +kernel
theorem dX11_notes_11 : decode cX11_notes 11 = .ok (.iconst 4, 1) := by decide +kernel
theorem dX11_notes_12 : decode cX11_notes 12 = .ok (.iaload, 1) := by decide +kernel
theorem dX11_notes_13 : decode cX11_notes 13 = .ok (.iadd, 1) := by decide +kernel
theorem dX11_notes_14 : decode cX11_notes 14 = .ok (.iload_n 1, 1) := by decide +kernel
theorem dX11_notes_15 : decode cX11_notes 15 = .ok (.iastore, 1) := by decide +kernel
theorem dX11_notes_16 : decode cX11_notes 16 = .ok (.aload_n 0, 1) := by decide +kernel
theorem dX11_notes_17 : decode cX11_notes 17 = .ok (.getfield 37, 3) := by decide +kernel
theorem dX11_notes_20 : decode cX11_notes 20 = .ok (.sipush 800, 3) := by decide +kernel
theorem dX11_notes_23 : decode cX11_notes 23 = .ok (.aload_n 0, 1) := by decide +kernel
theorem dX11_notes_24 : decode cX11_notes 24 = .ok (.getfield 40, 3) := by decide +kernel
theorem dX11_notes_27 : decode cX11_notes 27 = .ok (.iconst 4, 1) := by decide +kernel
theorem dX11_notes_28 : decode cX11_notes 28 = .ok (.iaload, 1) := by decide +kernel
theorem dX11_notes_29 : decode cX11_notes 29 = .ok (.iadd, 1) := by decide +kernel
theorem dX11_notes_30 : decode cX11_notes 30 = .ok (.iload_n 2, 1) := by decide +kernel
theorem dX11_notes_31 : decode cX11_notes 31 = .ok (.iastore, 1) := by decide +kernel
theorem dX11_notes_32 : decode cX11_notes 32 = .ok (.aload_n 0, 1) := by decide +kernel
theorem dX11_notes_33 : decode cX11_notes 33 = .ok (.getfield 40, 3) := by decide +kernel
theorem dX11_notes_36 : decode cX11_notes 36 = .ok (.iconst 4, 1) := by decide +kernel
theorem dX11_notes_37 : decode cX11_notes 37 = .ok (.dup2, 1) := by decide +kernel
theorem dX11_notes_38 : decode cX11_notes 38 = .ok (.iaload, 1) := by decide +kernel
theorem dX11_notes_39 : decode cX11_notes 39 = .ok (.iconst 1, 1) := by decide +kernel
theorem dX11_notes_40 : decode cX11_notes 40 = .ok (.iadd, 1) := by decide +kernel
theorem dX11_notes_41 : decode cX11_notes 41 = .ok (.iastore, 1) := by decide +kernel
theorem dX11_notes_42 : decode cX11_notes 42 = .ok (.return_, 1) := by decide +kernel
theorem dX11_sizeOf_0 : decode cX11_sizeOf 0 = .ok (.iload_n 0, 1) := by decide +kernel
theorem dX11_sizeOf_1 : decode cX11_sizeOf 1 = .ok (.iconst 1, 1) := by decide +kernel
theorem dX11_sizeOf_2 : decode cX11_sizeOf 2 = .ok (.iand, 1) := by decide +kernel
theorem dX11_sizeOf_3 : decode cX11_sizeOf 3 = .ok (.iload_n 0, 1) := by decide +kernel
theorem dX11_sizeOf_4 : decode cX11_sizeOf 4 = .ok (.iconst 1, 1) := by decide +kernel
theorem dX11_sizeOf_5 : decode cX11_sizeOf 5 = .ok (.ishr, 1) := by decide +kernel
theorem dX11_sizeOf_6 : decode cX11_sizeOf 6 = .ok (.iconst 1, 1) := by decide +kernel
theorem dX11_sizeOf_7 : decode cX11_sizeOf 7 = .ok (.iand, 1) := by decide +kernel
theorem dX11_sizeOf_8 : decode cX11_sizeOf 8 = .ok (.iadd, 1) := by decide +kernel
theorem dX11_sizeOf_9 : decode cX11_sizeOf 9 = .ok (.iload_n 0, 1) := by decide +kernel
theorem dX11_sizeOf_10 : decode cX11_sizeOf 10 = .ok (.iconst 2, 1) := by decide +kernel
theorem dX11_sizeOf_11 : decode cX11_sizeOf 11 = .ok (.ishr, 1) := by decide +kernel
theorem dX11_sizeOf_12 : decode cX11_sizeOf 12 = .ok (.iconst 1, 1) := by decide +kernel
theorem dX11_sizeOf_13 : decode cX11_sizeOf 13 = .ok (.iand, 1) := by decide +kernel
theorem dX11_sizeOf_14 : decode cX11_sizeOf 14 = .ok (.iadd, 1) := by decide +kernel
theorem dX11_sizeOf_15 : decode cX11_sizeOf 15 = .ok (.iload_n 0, 1) := by decide +kernel
theorem dX11_sizeOf_16 : decode cX11_sizeOf 16 = .ok (.iconst 3, 1) := by decide +kernel
theorem dX11_sizeOf_17 : decode cX11_sizeOf 17 = .ok (.ishr, 1) := by decide +kernel
theorem dX11_sizeOf_18 : decode cX11_sizeOf 18 = .ok (.iconst 1, 1) := by decide +kernel
theorem dX11_sizeOf_19 : decode cX11_sizeOf 19 = .ok (.iand, 1) := by decide +kernel
theorem dX11_sizeOf_20 : decode cX11_sizeOf 20 = .ok (.iadd, 1) := by decide +kernel
theorem dX11_sizeOf_21 : decode cX11_sizeOf 21 = .ok (.ireturn, 1) := by decide +kernel
set_option maxRecDepth 20000 in
theorem ggX11_begins_X11_notes : GoodIn wsX11_begins wsX11_notes := goodIn_r _ [11, 12, 13, 14, 98, 99, 100, 101, 102, 103, 104, 105, 106, 107, 108, 109, 110, 111, 112, 113, 114, 115, 116, 117, 118, 119, 120, 121, 122, 123, 124, 125, 126, 127, 128, 129, 130, 131, 132, 133, 134, 135, 136, 137, 138] (by decide +kernel) (by decide +kernel)
set_option maxRecDepth 20000 in
theorem gX11_begins_X11_notes : GoodIn wsX11_begins (wsV RX11 192 RX11 yX11_notes wsX11_notes) := goodIn_app (goodIn_of _ (by decide +kernel)) ggX11_begins_X11_notes
set_option maxRecDepth 20000 in
theorem ggX11_begins_X11_puts : GoodIn wsX11_begins wsX11_puts := goodIn_r _ [18, 19, 20, 21, 22, 98, 99, 100, 101, 102, 103, 104, 105, 106, 107, 108, 109, 110, 111, 112, 113, 114, 115, 116, 117, 118, 119, 120, 121, 122, 123, 124, 125, 126, 127, 128, 129, 130, 131, 132, 133, 134, 135, 136, 137, 138] (by decide +kernel) (by decide +kernel)
set_option maxRecDepth 20000 in
theorem gX11_begins_X11_puts : GoodIn wsX11_begins (wsV RX11 196 RX11 yX11_puts wsX11_puts) := goodIn_app (goodIn_of _ (by decide +kernel)) ggX11_begins_X11_puts
set_option maxRecDepth 20000 in
theorem ggX11_begins_X11_scans : GoodIn wsX11_begins wsX11_scans := goodIn_r _ [26, 27, 28, 29, 30, 1, 31, 32, 10, 33, 34, 35, 36, 37, 38, 39, 40, 41, 42, 43, 44, 45, 46, 47, 48, 3, 49, 50, 51, 52, 53, 54, 55, 56, 57, 58, 59, 60, 61, 62, 98, 99, 100, 101, 102, 103, 104, 105, 106, 107, 108, 109, 110, 111, 112, 113, 114, 115, 116, 117, 118, 119, 120, 121, 122, 123, 124, 125, 126, 127, 128, 129, 130, 131, 132, 133, 134, 135, 136, 137, 138] (by decide +kernel) (by decide +kernel)
set_option maxRecDepth 20000 in
theorem gX11_begins_X11_scans : GoodIn wsX11_begins (wsV RX11 189 RX11 yX11_scans wsX11_scans) := goodIn_app (goodIn_of _ (by decide +kernel)) ggX11_begins_X11_scans
set_option maxRecDepth 20000 in
theorem ggX11_begins_X11_in : GoodIn wsX11_begins wsX11_in := goodIn_r _ [38] (by decide +kernel) (by decide +kernel)
set_option maxRecDepth 20000 in
theorem gX11_begins_X11_in : GoodIn wsX11_begins (va_wsS RX11 99 yX11_in wsX11_in) := goodIn_app (goodIn_of _ (by decide +kernel)) ggX11_begins_X11_in
set_option maxRecDepth 20000 in
theorem ggX11_begins_X11_test : GoodIn wsX11_begins wsX11_test := goodIn_r _ [66, 67, 68, 1, 69, 70, 71, 72, 73, 10, 74, 75, 76, 77, 78, 79, 80, 81, 82, 83, 84, 85, 86, 23, 24, 25, 26, 27, 28, 29, 30, 31, 32, 33, 34, 35, 36, 37, 38, 39, 40, 41, 42, 43, 44, 45, 46, 47, 48, 3, 49, 50, 51, 52, 53, 54, 55, 56, 57, 58, 59, 60, 61, 62, 98, 99, 100, 101, 102, 103, 104, 105, 106, 107, 108, 109, 110, 111, 112, 113, 114, 115, 116, 117, 118, 119, 120, 121, 122, 123, 124, 125, 126, 127, 128, 129, 130, 131, 132, 133, 134, 135, 136, 137, 138] (by decide +kernel) (by decide +kernel)
set_option maxRecDepth 20000 in
theorem gX11_begins_X11_test : GoodIn wsX11_begins (wsV RX11 202 RX11 yX11_test wsX11_test) := goodIn_app (goodIn_of _ (by decide +kernel)) ggX11_begins_X11_test
set_option maxRecDepth 20000 in
theorem ggX11_begins_X11_sizeOf : GoodIn wsX11_begins wsX11_sizeOf := goodIn_r _ [89] (by decide +kernel) (by decide +kernel)
set_option maxRecDepth 20000 in
theorem gX11_begins_X11_sizeOf : GoodIn wsX11_begins (va_wsS RX11 206 yX11_sizeOf wsX11_sizeOf) := goodIn_app (goodIn_of _ (by decide +kernel)) ggX11_begins_X11_sizeOf
set_option maxRecDepth 20000 in
theorem ggX11_begins_X11_opens : GoodIn wsX11_begins wsX11_opens := goodIn_r _ [93, 69, 1, 94, 95, 96, 97, 23, 24, 25, 10, 26, 27, 28, 29, 30, 31, 32, 33, 34, 35, 36, 37, 38, 39, 40, 41, 42, 43, 44, 45, 46, 47, 48, 3, 49, 50, 51, 52, 53, 54, 55, 56, 57, 58, 59, 60, 61, 62, 63, 64, 65, 66, 67, 68, 70, 71, 72, 73, 74, 75, 76, 77, 78, 79, 80, 81, 82, 83, 84, 85, 86, 87, 88, 89, 7, 8, 9, 11, 12, 13, 14, 15, 16, 17, 18, 19, 20, 21, 22, 98, 99, 100, 101, 102, 103, 104, 105, 106, 107, 108, 109, 110, 111, 112, 113, 114, 115, 116, 117, 118, 119, 120, 121, 122, 123, 124, 125, 126, 127, 128, 129, 130, 131, 132, 133, 134, 135, 136, 137, 138] (by decide +kernel) (by decide +kernel)
set_option maxRecDepth 20000 in
theorem gX11_begins_X11_opens : GoodIn wsX11_begins (wsV RX11 209 RX11 yX11_opens wsX11_opens) := goodIn_app (goodIn_of _ (by decide +kernel)) ggX11_begins_X11_opens
theorem dX11_begins_0 : decode cX11_begins 0 = .ok (.aload_n 0, 1) := by decide +kernel
theorem dX11_begins_1 : decode cX11_begins 1 = .ok (.getfield 153, 3) := by decide +kernel
theorem dX11_begins_4 : decode cX11_begins 4 = .ok (.istore_n 1, 1) := by decide +kernel
theorem dX11_begins_5 : decode cX11_begins 5 = .ok (.iload_n 1, 1) := by decide +kernel
theorem dX11_begins_6 : decode cX11_begins 6 = .ok (.iconst 2, 1) := by decide +kernel
theorem dX11_begins_7 : decode cX11_begins 7 = .ok (.if_icmp .eq 8, 3) := by decide +kernel
theorem dX11_begins_10 : decode cX11_begins 10 = .ok (.iload_n 1, 1) := by decide +kernel
theorem dX11_begins_11 : decode cX11_begins 11 = .ok (.iconst 3, 1) := by decide +kernel
theorem dX11_begins_12 : decode cX11_begins 12 = .ok (.if_icmp .ne 28, 3) := by decide +kernel
theorem dX11_begins_15 : decode cX11_begins 15 = .ok (.aload_n 0, 1) := by decide +kernel
theorem dX11_begins_16 : decode cX11_begins 16 = .ok (.iconst 0, 1) := by decide +kernel
theorem dX11_begins_17 : decode cX11_begins 17 = .ok (.iconst 0, 1) := by decide +kernel
theorem dX11_begins_18 : decode cX11_begins 18 = .ok (.invokevirtual 192, 3) := by decide +kernel
theorem dX11_begins_21 : decode cX11_begins 21 = .ok (.iload_n 1, 1) := by decide +kernel
theorem dX11_begins_22 : decode cX11_begins 22 = .ok (.iconst 3, 1) := by decide +kernel
theorem dX11_begins_23 : decode cX11_begins 23 = .ok (.if_icmp .ne 11, 3) := by decide +kernel
theorem dX11_begins_26 : decode cX11_begins 26 = .ok (.aload_n 0, 1) := by decide +kernel
theorem dX11_begins_27 : decode cX11_begins 27 = .ok (.iconst 3, 1) := by decide +kernel
theorem dX11_begins_28 : decode cX11_begins 28 = .ok (.iconst 0, 1) := by decide +kernel
theorem dX11_begins_29 : decode cX11_begins 29 = .ok (.iconst 0, 1) := by decide +kernel
theorem dX11_begins_30 : decode cX11_begins 30 = .ok (.invokevirtual 196, 3) := by decide +kernel
theorem dX11_begins_33 : decode cX11_begins 33 = .ok (.pop, 1) := by decide +kernel
theorem dX11_begins_34 : decode cX11_begins 34 = .ok (.aload_n 0, 1) := by decide +kernel
theorem dX11_begins_35 : decode cX11_begins 35 = .ok (.invokevirtual 189, 3) := by decide +kernel
theorem dX11_begins_38 : decode cX11_begins 38 = .ok (.iconst 1, 1) := by decide +kernel
theorem dX11_begins_39 : decode cX11_begins 39 = .ok (.ireturn, 1) := by decide +kernel
theorem dX11_begins_40 : decode cX11_begins 40 = .ok (.iload_n 1, 1) := by decide +kernel
theorem dX11_begins_41 : decode cX11_begins 41 = .ok (.i2l, 1) := by decide +kernel
theorem dX11_begins_42 : decode cX11_begins 42 = .ok (.ldc2_w 200, 3) := by decide +kernel
theorem dX11_begins_45 : decode cX11_begins 45 = .ok (.ldc2_w 122, 3) := by decide +kernel
theorem dX11_begins_48 : decode cX11_begins 48 = .ok (.invokestatic 99, 3) := by decide +kernel
theorem dX11_begins_51 : decode cX11_begins 51 = .ok (.ifCond .eq 91, 3) := by decide +kernel
theorem dX11_begins_54 : decode cX11_begins 54 = .ok (.aload_n 0, 1) := by decide +kernel
theorem dX11_begins_55 : decode cX11_begins 55 = .ok (.getfield 31, 3) := by decide +kernel
theorem dX11_begins_58 : decode cX11_begins 58 = .ok (.iconst 4, 1) := by decide +kernel
theorem dX11_begins_59 : decode cX11_begins 59 = .ok (.iaload, 1) := by decide +kernel
theorem dX11_begins_60 : decode cX11_begins 60 = .ok (.bipush 16, 2) := by decide +kernel
theorem dX11_begins_62 : decode cX11_begins 62 = .ok (.if_icmp .ne 5, 3) := by decide +kernel
theorem dX11_begins_65 : decode cX11_begins 65 = .ok (.iconst 0, 1) := by decide +kernel
theorem dX11_begins_66 : decode cX11_begins 66 = .ok (.ireturn, 1) := by decide +kernel
theorem dX11_begins_67 : decode cX11_begins 67 = .ok (.aload_n 0, 1) := by decide +kernel
theorem dX11_begins_68 : decode cX11_begins 68 = .ok (.getfield 31, 3) := by decide +kernel
theorem dX11_begins_71 : decode cX11_begins 71 = .ok (.iconst 4, 1) := by decide +kernel
theorem dX11_begins_72 : decode cX11_begins 72 = .ok (.dup2, 1) := by decide +kernel
theorem dX11_begins_73 : decode cX11_begins 73 = .ok (.iaload, 1) := by decide +kernel
theorem dX11_begins_74 : decode cX11_begins 74 = .ok (.iconst 1, 1) := by decide +kernel
theorem dX11_begins_75 : decode cX11_begins 75 = .ok (.iadd, 1) := by decide +kernel
theorem dX11_begins_76 : decode cX11_begins 76 = .ok (.iastore, 1) := by decide +kernel
theorem dX11_begins_77 : decode cX11_begins 77 = .ok (.aload_n 0, 1) := by decide +kernel
theorem dX11_begins_78 : decode cX11_begins 78 = .ok (.getfield 25, 3) := by decide +kernel
theorem dX11_begins_81 : decode cX11_begins 81 = .ok (.bipush 68, 2) := by decide +kernel
theorem dX11_begins_83 : decode cX11_begins 83 = .ok (.aload_n 0, 1) := by decide +kernel
theorem dX11_begins_84 : decode cX11_begins 84 = .ok (.getfield 31, 3) := by decide +kernel
theorem dX11_begins_87 : decode cX11_begins 87 = .ok (.iconst 4, 1) := by decide +kernel
theorem dX11_begins_88 : decode cX11_begins 88 = .ok (.iaload, 1) := by decide +kernel
theorem dX11_begins_89 : decode cX11_begins 89 = .ok (.iadd, 1) := by decide +kernel
theorem dX11_begins_90 : decode cX11_begins 90 = .ok (.iload_n 1, 1) := by decide +kernel
theorem dX11_begins_91 : decode cX11_begins 91 = .ok (.bipush 14, 2) := by decide +kernel
theorem dX11_begins_93 : decode cX11_begins 93 = .ok (.isub, 1) := by decide +kernel
theorem dX11_begins_94 : decode cX11_begins 94 = .ok (.iconst 1, 1) := by decide +kernel
theorem dX11_begins_95 : decode cX11_begins 95 = .ok (.iadd, 1) := by decide +kernel
theorem dX11_begins_96 : decode cX11_begins 96 = .ok (.iastore, 1) := by decide +kernel
theorem dX11_begins_97 : decode cX11_begins 97 = .ok (.aload_n 0, 1) := by decide +kernel
theorem dX11_begins_98 : decode cX11_begins 98 = .ok (.iconst 1, 1) := by decide +kernel
theorem dX11_begins_99 : decode cX11_begins 99 = .ok (.iload_n 1, 1) := by decide +kernel
theorem dX11_begins_100 : decode cX11_begins 100 = .ok (.bipush 14, 2) := by decide +kernel
theorem dX11_begins_102 : decode cX11_begins 102 = .ok (.isub, 1) := by decide +kernel
theorem dX11_begins_103 : decode cX11_begins 103 = .ok (.iconst 1, 1) := by decide +kernel
theorem dX11_begins_104 : decode cX11_begins 104 = .ok (.iadd, 1) := by decide +kernel
theorem dX11_begins_105 : decode cX11_begins 105 = .ok (.invokevirtual 192, 3) := by decide +kernel
theorem dX11_begins_108 : decode cX11_begins 108 = .ok (.aload_n 0, 1) := by decide +kernel
theorem dX11_begins_109 : decode cX11_begins 109 = .ok (.getfield 28, 3) := by decide +kernel
theorem dX11_begins_112 : decode cX11_begins 112 = .ok (.bipush 68, 2) := by decide +kernel
theorem dX11_begins_114 : decode cX11_begins 114 = .ok (.aload_n 0, 1) := by decide +kernel
theorem dX11_begins_115 : decode cX11_begins 115 = .ok (.getfield 31, 3) := by decide +kernel
theorem dX11_begins_118 : decode cX11_begins 118 = .ok (.iconst 4, 1) := by decide +kernel
theorem dX11_begins_119 : decode cX11_begins 119 = .ok (.iaload, 1) := by decide +kernel
theorem dX11_begins_120 : decode cX11_begins 120 = .ok (.iadd, 1) := by decide +kernel
theorem dX11_begins_121 : decode cX11_begins 121 = .ok (.aload_n 0, 1) := by decide +kernel
theorem dX11_begins_122 : decode cX11_begins 122 = .ok (.iconst 0, 1) := by decide +kernel
theorem dX11_begins_123 : decode cX11_begins 123 = .ok (.aload_n 0, 1) := by decide +kernel
theorem dX11_begins_124 : decode cX11_begins 124 = .ok (.getfield 31, 3) := by decide +kernel
theorem dX11_begins_127 : decode cX11_begins 127 = .ok (.iconst 4, 1) := by decide +kernel
theorem dX11_begins_128 : decode cX11_begins 128 = .ok (.iaload, 1) := by decide +kernel
theorem dX11_begins_129 : decode cX11_begins 129 = .ok (.iconst 0, 1) := by decide +kernel
theorem dX11_begins_130 : decode cX11_begins 130 = .ok (.invokevirtual 196, 3) := by decide +kernel
theorem dX11_begins_133 : decode cX11_begins 133 = .ok (.iconst 1, 1) := by decide +kernel
theorem dX11_begins_134 : decode cX11_begins 134 = .ok (.iadd, 1) := by decide +kernel
theorem dX11_begins_135 : decode cX11_begins 135 = .ok (.iastore, 1) := by decide +kernel
theorem dX11_begins_136 : decode cX11_begins 136 = .ok (.aload_n 0, 1) := by decide +kernel
theorem dX11_begins_137 : decode cX11_begins 137 = .ok (.invokevirtual 189, 3) := by decide +kernel
theorem dX11_begins_140 : decode cX11_begins 140 = .ok (.iconst 1, 1) := by decide +kernel
theorem dX11_begins_141 : decode cX11_begins 141 = .ok (.ireturn, 1) := by decide +kernel
theorem dX11_begins_142 : decode cX11_begins 142 = .ok (.iload_n 1, 1) := by decide +kernel
theorem dX11_begins_143 : decode cX11_begins 143 = .ok (.bipush 11, 2) := by decide +kernel
theorem dX11_begins_145 : decode cX11_begins 145 = .ok (.if_icmp .ne 37, 3) := by decide +kernel
theorem dX11_begins_148 : decode cX11_begins 148 = .ok (.aload_n 0, 1) := by decide +kernel
theorem dX11_begins_149 : decode cX11_begins 149 = .ok (.invokevirtual 189, 3) := by decide +kernel
theorem dX11_begins_152 : decode cX11_begins 152 = .ok (.aload_n 0, 1) := by decide +kernel
theorem dX11_begins_153 : decode cX11_begins 153 = .ok (.invokevirtual 202, 3) := by decide +kernel
theorem dX11_begins_156 : decode cX11_begins 156 = .ok (.istore_n 2, 1) := by decide +kernel
theorem dX11_begins_157 : decode cX11_begins 157 = .ok (.iload_n 2, 1) := by decide +kernel
theorem dX11_begins_158 : decode cX11_begins 158 = .ok (.ifCond .ge 5, 3) := by decide +kernel
theorem dX11_begins_161 : decode cX11_begins 161 = .ok (.iconst 0, 1) := by decide +kernel
theorem dX11_begins_162 : decode cX11_begins 162 = .ok (.ireturn, 1) := by decide +kernel
theorem dX11_begins_163 : decode cX11_begins 163 = .ok (.aload_n 0, 1) := by decide +kernel
theorem dX11_begins_164 : decode cX11_begins 164 = .ok (.iconst 4, 1) := by decide +kernel
theorem dX11_begins_165 : decode cX11_begins 165 = .ok (.iload_n 2, 1) := by decide +kernel
theorem dX11_begins_166 : decode cX11_begins 166 = .ok (.invokestatic 206, 3) := by decide +kernel
theorem dX11_begins_169 : decode cX11_begins 169 = .ok (.invokevirtual 192, 3) := by decide +kernel
theorem dX11_begins_172 : decode cX11_begins 172 = .ok (.aload_n 0, 1) := by decide +kernel
theorem dX11_begins_173 : decode cX11_begins 173 = .ok (.iconst 1, 1) := by decide +kernel
theorem dX11_begins_174 : decode cX11_begins 174 = .ok (.iload_n 2, 1) := by decide +kernel
theorem dX11_begins_175 : decode cX11_begins 175 = .ok (.iconst (-1), 1) := by decide +kernel
theorem dX11_begins_176 : decode cX11_begins 176 = .ok (.invokevirtual 196, 3) := by decide +kernel
theorem dX11_begins_179 : decode cX11_begins 179 = .ok (.pop, 1) := by decide +kernel
theorem dX11_begins_180 : decode cX11_begins 180 = .ok (.iconst 1, 1) := by decide +kernel
theorem dX11_begins_181 : decode cX11_begins 181 = .ok (.ireturn, 1) := by decide +kernel
theorem dX11_begins_182 : decode cX11_begins 182 = .ok (.aload_n 0, 1) := by decide +kernel
theorem dX11_begins_183 : decode cX11_begins 183 = .ok (.iload_n 1, 1) := by decide +kernel
theorem dX11_begins_184 : decode cX11_begins 184 = .ok (.invokevirtual 209, 3) := by decide +kernel
theorem dX11_begins_187 : decode cX11_begins 187 = .ok (.ireturn, 1) := by decide +kernel
set_option maxRecDepth 20000 in
theorem ggX11_opens_X11_scans : GoodIn wsX11_opens wsX11_scans := goodIn_r _ [11, 12, 13, 14, 15, 2, 16, 17, 10, 18, 19, 20, 21, 22, 23, 24, 25, 26, 27, 28, 29, 30, 31, 32, 33, 34, 35, 36, 37, 38, 39, 40, 41, 42, 43, 44, 45, 46, 47, 48, 90, 91, 92, 93, 94, 95, 96, 97, 98, 99, 100, 101, 102, 103, 104, 105, 106, 107, 108, 109, 110, 111, 112, 113, 114, 115, 116, 117, 118, 119, 120, 121, 122, 123, 124, 125, 126, 127, 128, 129, 130] (by decide +kernel) (by decide +kernel)
set_option maxRecDepth 20000 in
theorem gX11_opens_X11_scans : GoodIn wsX11_opens (wsV RX11 189 RX11 yX11_scans wsX11_scans) := goodIn_app (goodIn_of _ (by decide +kernel)) ggX11_opens_X11_scans
set_option maxRecDepth 20000 in
theorem ggX11_opens_X11_test : GoodIn wsX11_opens wsX11_test := goodIn_r _ [52, 53, 54, 2, 1, 55, 56, 57, 58, 10, 59, 60, 61, 62, 63, 64, 65, 66, 67, 68, 69, 70, 71, 7, 8, 9, 11, 12, 13, 14, 15, 16, 17, 18, 19, 20, 21, 22, 23, 24, 25, 26, 27, 28, 29, 30, 31, 32, 33, 34, 35, 36, 37, 38, 39, 40, 41, 42, 43, 44, 45, 46, 47, 48, 90, 91, 92, 93, 94, 95, 96, 97, 98, 99, 100, 101, 102, 103, 104, 105, 106, 107, 108, 109, 110, 111, 112, 113, 114, 115, 116, 117, 118, 119, 120, 121, 122, 123, 124, 125, 126, 127, 128, 129, 130] (by decide +kernel) (by decide +kernel)
set_option maxRecDepth 20000 in
theorem gX11_opens_X11_test : GoodIn wsX11_opens (wsV RX11 202 RX11 yX11_test wsX11_test) := goodIn_app (goodIn_of _ (by decide +kernel)) ggX11_opens_X11_test
set_option maxRecDepth 20000 in
theorem ggX11_opens_X11_sizeOf : GoodIn wsX11_opens wsX11_sizeOf := goodIn_r _ [74] (by decide +kernel) (by decide +kernel)
set_option maxRecDepth 20000 in
theorem gX11_opens_X11_sizeOf : GoodIn wsX11_opens (va_wsS RX11 206 yX11_sizeOf wsX11_sizeOf) := goodIn_app (goodIn_of _ (by decide +kernel)) ggX11_opens_X11_sizeOf
set_option maxRecDepth 20000 in
theorem ggX11_opens_X11_notes : GoodIn wsX11_opens wsX11_notes := goodIn_r _ [78, 79, 80, 81, 90, 91, 92, 93, 94, 95, 96, 97, 98, 99, 100, 101, 102, 103, 104, 105, 106, 107, 108, 109, 110, 111, 112, 113, 114, 115, 116, 117, 118, 119, 120, 121, 122, 123, 124, 125, 126, 127, 128, 129, 130] (by decide +kernel) (by decide +kernel)
set_option maxRecDepth 20000 in
theorem gX11_opens_X11_notes : GoodIn wsX11_opens (wsV RX11 192 RX11 yX11_notes wsX11_notes) := goodIn_app (goodIn_of _ (by decide +kernel)) ggX11_opens_X11_notes
set_option maxRecDepth 20000 in
theorem ggX11_opens_X11_puts : GoodIn wsX11_opens wsX11_puts := goodIn_r _ [85, 86, 87, 88, 89, 90, 91, 92, 93, 94, 95, 96, 97, 98, 99, 100, 101, 102, 103, 104, 105, 106, 107, 108, 109, 110, 111, 112, 113, 114, 115, 116, 117, 118, 119, 120, 121, 122, 123, 124, 125, 126, 127, 128, 129, 130] (by decide +kernel) (by decide +kernel)
set_option maxRecDepth 20000 in
theorem gX11_opens_X11_puts : GoodIn wsX11_opens (wsV RX11 196 RX11 yX11_puts wsX11_puts) := goodIn_app (goodIn_of _ (by decide +kernel)) ggX11_opens_X11_puts
theorem dX11_opens_0 : decode cX11_opens 0 = .ok (.iload_n 1, 1) := by decide +kernel
theorem dX11_opens_1 : decode cX11_opens 1 = .ok (.iconst 4, 1) := by decide +kernel
theorem dX11_opens_2 : decode cX11_opens 2 = .ok (.if_icmp .eq 9, 3) := by decide +kernel
theorem dX11_opens_5 : decode cX11_opens 5 = .ok (.iload_n 1, 1) := by decide +kernel
theorem dX11_opens_6 : decode cX11_opens 6 = .ok (.bipush 8, 2) := by decide +kernel
theorem dX11_opens_8 : decode cX11_opens 8 = .ok (.if_icmp .ne 12, 3) := by decide +kernel
theorem dX11_opens_11 : decode cX11_opens 11 = .ok (.aload_n 0, 1) := by decide +kernel
theorem dX11_opens_12 : decode cX11_opens 12 = .ok (.getfield 173, 3) := by decide +kernel
theorem dX11_opens_15 : decode cX11_opens 15 = .ok (.bipush 8, 2) := by decide +kernel
theorem dX11_opens_17 : decode cX11_opens 17 = .ok (.if_icmp .ne 5, 3) := by decide +kernel
theorem dX11_opens_20 : decode cX11_opens 20 = .ok (.iconst 0, 1) := by decide +kernel
theorem dX11_opens_21 : decode cX11_opens 21 = .ok (.ireturn, 1) := by decide +kernel
theorem dX11_opens_22 : decode cX11_opens 22 = .ok (.aload_n 0, 1) := by decide +kernel
theorem dX11_opens_23 : decode cX11_opens 23 = .ok (.dup, 1) := by decide +kernel
theorem dX11_opens_24 : decode cX11_opens 24 = .ok (.getfield 173, 3) := by decide +kernel
theorem dX11_opens_27 : decode cX11_opens 27 = .ok (.iconst 1, 1) := by decide +kernel
theorem dX11_opens_28 : decode cX11_opens 28 = .ok (.iadd, 1) := by decide +kernel
theorem dX11_opens_29 : decode cX11_opens 29 = .ok (.putfield 173, 3) := by decide +kernel
theorem dX11_opens_32 : decode cX11_opens 32 = .ok (.aload_n 0, 1) := by decide +kernel
theorem dX11_opens_33 : decode cX11_opens 33 = .ok (.invokevirtual 189, 3) := by decide +kernel
theorem dX11_opens_36 : decode cX11_opens 36 = .ok (.aload_n 0, 1) := by decide +kernel
theorem dX11_opens_37 : decode cX11_opens 37 = .ok (.invokevirtual 202, 3) := by decide +kernel
theorem dX11_opens_40 : decode cX11_opens 40 = .ok (.istore_n 2, 1) := by decide +kernel
theorem dX11_opens_41 : decode cX11_opens 41 = .ok (.iload_n 2, 1) := by decide +kernel
theorem dX11_opens_42 : decode cX11_opens 42 = .ok (.ifCond .lt 21, 3) := by decide +kernel
theorem dX11_opens_45 : decode cX11_opens 45 = .ok (.aload_n 0, 1) := by decide +kernel
theorem dX11_opens_46 : decode cX11_opens 46 = .ok (.getfield 153, 3) := by decide +kernel
theorem dX11_opens_49 : decode cX11_opens 49 = .ok (.iload_n 1, 1) := by decide +kernel
theorem dX11_opens_50 : decode cX11_opens 50 = .ok (.iconst 4, 1) := by decide +kernel
theorem dX11_opens_51 : decode cX11_opens 51 = .ok (.if_icmp .ne 7, 3) := by decide +kernel
theorem dX11_opens_54 : decode cX11_opens 54 = .ok (.iconst 5, 1) := by decide +kernel
theorem dX11_opens_55 : decode cX11_opens 55 = .ok (.goto 5, 3) := by decide +kernel
theorem dX11_opens_58 : decode cX11_opens 58 = .ok (.bipush 9, 2) := by decide +kernel
theorem dX11_opens_60 : decode cX11_opens 60 = .ok (.if_icmp .eq 5, 3) := by decide +kernel
theorem dX11_opens_63 : decode cX11_opens 63 = .ok (.iconst 0, 1) := by decide +kernel
theorem dX11_opens_64 : decode cX11_opens 64 = .ok (.ireturn, 1) := by decide +kernel
theorem dX11_opens_65 : decode cX11_opens 65 = .ok (.aload_n 0, 1) := by decide +kernel
theorem dX11_opens_66 : decode cX11_opens 66 = .ok (.iload_n 1, 1) := by decide +kernel
theorem dX11_opens_67 : decode cX11_opens 67 = .ok (.iconst 4, 1) := by decide +kernel
theorem dX11_opens_68 : decode cX11_opens 68 = .ok (.if_icmp .ne 7, 3) := by decide +kernel
theorem dX11_opens_71 : decode cX11_opens 71 = .ok (.iconst 2, 1) := by decide +kernel
theorem dX11_opens_72 : decode cX11_opens 72 = .ok (.goto 4, 3) := by decide +kernel
theorem dX11_opens_75 : decode cX11_opens 75 = .ok (.iconst 3, 1) := by decide +kernel
theorem dX11_opens_76 : decode cX11_opens 76 = .ok (.iload_n 2, 1) := by decide +kernel
theorem dX11_opens_77 : decode cX11_opens 77 = .ok (.invokestatic 206, 3) := by decide +kernel
theorem dX11_opens_80 : decode cX11_opens 80 = .ok (.invokevirtual 192, 3) := by decide +kernel
theorem dX11_opens_83 : decode cX11_opens 83 = .ok (.aload_n 0, 1) := by decide +kernel
theorem dX11_opens_84 : decode cX11_opens 84 = .ok (.getfield 52, 3) := by decide +kernel
theorem dX11_opens_87 : decode cX11_opens 87 = .ok (.aload_n 0, 1) := by decide +kernel
theorem dX11_opens_88 : decode cX11_opens 88 = .ok (.getfield 212, 3) := by decide +kernel
theorem dX11_opens_91 : decode cX11_opens 91 = .ok (.aload_n 0, 1) := by decide +kernel
theorem dX11_opens_92 : decode cX11_opens 92 = .ok (.iconst 1, 1) := by decide +kernel
theorem dX11_opens_93 : decode cX11_opens 93 = .ok (.iload_n 2, 1) := by decide +kernel
theorem dX11_opens_94 : decode cX11_opens 94 = .ok (.iconst 0, 1) := by decide +kernel
theorem dX11_opens_95 : decode cX11_opens 95 = .ok (.invokevirtual 196, 3) := by decide +kernel
theorem dX11_opens_98 : decode cX11_opens 98 = .ok (.iastore, 1) := by decide +kernel
theorem dX11_opens_99 : decode cX11_opens 99 = .ok (.aload_n 0, 1) := by decide +kernel
theorem dX11_opens_100 : decode cX11_opens 100 = .ok (.getfield 55, 3) := by decide +kernel
theorem dX11_opens_103 : decode cX11_opens 103 = .ok (.aload_n 0, 1) := by decide +kernel
theorem dX11_opens_104 : decode cX11_opens 104 = .ok (.getfield 212, 3) := by decide +kernel
theorem dX11_opens_107 : decode cX11_opens 107 = .ok (.iconst (-1), 1) := by decide +kernel
theorem dX11_opens_108 : decode cX11_opens 108 = .ok (.iastore, 1) := by decide +kernel
theorem dX11_opens_109 : decode cX11_opens 109 = .ok (.aload_n 0, 1) := by decide +kernel
theorem dX11_opens_110 : decode cX11_opens 110 = .ok (.getfield 58, 3) := by decide +kernel
theorem dX11_opens_113 : decode cX11_opens 113 = .ok (.aload_n 0, 1) := by decide +kernel
theorem dX11_opens_114 : decode cX11_opens 114 = .ok (.getfield 212, 3) := by decide +kernel
theorem dX11_opens_117 : decode cX11_opens 117 = .ok (.iload_n 1, 1) := by decide +kernel
theorem dX11_opens_118 : decode cX11_opens 118 = .ok (.bipush 8, 2) := by decide +kernel
theorem dX11_opens_120 : decode cX11_opens 120 = .ok (.if_icmp .ne 7, 3) := by decide +kernel
theorem dX11_opens_123 : decode cX11_opens 123 = .ok (.iconst 1, 1) := by decide +kernel
theorem dX11_opens_124 : decode cX11_opens 124 = .ok (.goto 4, 3) := by decide +kernel
theorem dX11_opens_127 : decode cX11_opens 127 = .ok (.iconst 0, 1) := by decide +kernel
theorem dX11_opens_128 : decode cX11_opens 128 = .ok (.bastore, 1) := by decide +kernel
theorem dX11_opens_129 : decode cX11_opens 129 = .ok (.aload_n 0, 1) := by decide +kernel
theorem dX11_opens_130 : decode cX11_opens 130 = .ok (.dup, 1) := by decide +kernel
theorem dX11_opens_131 : decode cX11_opens 131 = .ok (.getfield 212, 3) := by decide +kernel
theorem dX11_opens_134 : decode cX11_opens 134 = .ok (.iconst 1, 1) := by decide +kernel
theorem dX11_opens_135 : decode cX11_opens 135 = .ok (.iadd, 1) := by decide +kernel
theorem dX11_opens_136 : decode cX11_opens 136 = .ok (.putfield 212, 3) := by decide +kernel
theorem dX11_opens_139 : decode cX11_opens 139 = .ok (.aload_n 0, 1) := by decide +kernel
theorem dX11_opens_140 : decode cX11_opens 140 = .ok (.invokevirtual 189, 3) := by decide +kernel
theorem dX11_opens_143 : decode cX11_opens 143 = .ok (.iconst 1, 1) := by decide +kernel
theorem dX11_opens_144 : decode cX11_opens 144 = .ok (.ireturn, 1) := by decide +kernel
theorem dX11_lands_0 : decode cX11_lands 0 = .ok (.aload_n 0, 1) := by decide +kernel
theorem dX11_lands_1 : decode cX11_lands 1 = .ok (.getfield 19, 3) := by decide +kernel
theorem dX11_lands_4 : decode cX11_lands 4 = .ok (.sipush 1600, 3) := by decide +kernel
theorem dX11_lands_7 : decode cX11_lands 7 = .ok (.iload_n 1, 1) := by decide +kernel
theorem dX11_lands_8 : decode cX11_lands 8 = .ok (.iadd, 1) := by decide +kernel
theorem dX11_lands_9 : decode cX11_lands 9 = .ok (.aload_n 0, 1) := by decide +kernel
theorem dX11_lands_10 : decode cX11_lands 10 = .ok (.getfield 22, 3) := by decide +kernel
theorem dX11_lands_13 : decode cX11_lands 13 = .ok (.iconst 4, 1) := by decide +kernel
theorem dX11_lands_14 : decode cX11_lands 14 = .ok (.iaload, 1) := by decide +kernel
theorem dX11_lands_15 : decode cX11_lands 15 = .ok (.iastore, 1) := by decide +kernel
theorem dX11_lands_16 : decode cX11_lands 16 = .ok (.return_, 1) := by decide +kernel
set_option maxRecDepth 20000 in
theorem ggX11_follows_X11_scans : GoodIn wsX11_follows wsX11_scans := goodIn_r _ [11, 12, 13, 14, 15, 2, 16, 17, 10, 18, 19, 20, 21, 22, 23, 24, 25, 26, 27, 28, 29, 30, 31, 32, 33, 34, 35, 36, 37, 38, 39, 40, 41, 42, 43, 44, 45, 46, 47, 48, 61, 62, 63, 64, 65, 66, 67, 68, 69, 70, 71, 72, 73, 74, 75, 76, 77, 78, 79, 80, 81, 82, 83, 84, 85, 86, 87, 88, 89, 90, 91, 92, 93, 94, 95, 96, 97, 98, 99, 100, 101] (by decide +kernel) (by decide +kernel)
set_option maxRecDepth 20000 in
theorem gX11_follows_X11_scans : GoodIn wsX11_follows (wsV RX11 189 RX11 yX11_scans wsX11_scans) := goodIn_app (goodIn_of _ (by decide +kernel)) ggX11_follows_X11_scans
set_option maxRecDepth 20000 in
theorem ggX11_follows_X11_puts : GoodIn wsX11_follows wsX11_puts := goodIn_r _ [52, 53, 54, 55, 56, 61, 62, 63, 64, 65, 66, 67, 68, 69, 70, 71, 72, 73, 74, 75, 76, 77, 78, 79, 80, 81, 82, 83, 84, 85, 86, 87, 88, 89, 90, 91, 92, 93, 94, 95, 96, 97, 98, 99, 100, 101] (by decide +kernel) (by decide +kernel)
set_option maxRecDepth 20000 in
theorem gX11_follows_X11_puts : GoodIn wsX11_follows (wsV RX11 196 RX11 yX11_puts wsX11_puts) := goodIn_app (goodIn_of _ (by decide +kernel)) ggX11_follows_X11_puts
set_option maxRecDepth 20000 in
theorem ggX11_follows_X11_lands : GoodIn wsX11_follows wsX11_lands := goodIn_r _ [60, 56, 53, 61, 62, 63, 64, 65, 66, 67, 68, 69, 70, 71, 72, 73, 74, 75, 76, 77, 78, 79, 80, 81, 82, 83, 84, 85, 86, 87, 88, 89, 90, 91, 92, 93, 94, 95, 96, 97, 98, 99, 100, 101] (by decide +kernel) (by decide +kernel)
set_option maxRecDepth 20000 in
theorem gX11_follows_X11_lands : GoodIn wsX11_follows (wsV RX11 215 RX11 yX11_lands wsX11_lands) := goodIn_app (goodIn_of _ (by decide +kernel)) ggX11_follows_X11_lands
theorem dX11_follows_0 : decode cX11_follows 0 = .ok (.aload_n 0, 1) := by decide +kernel
theorem dX11_follows_1 : decode cX11_follows 1 = .ok (.getfield 212, 3) := by decide +kernel
theorem dX11_follows_4 : decode cX11_follows 4 = .ok (.iconst 1, 1) := by decide +kernel
theorem dX11_follows_5 : decode cX11_follows 5 = .ok (.isub, 1) := by decide +kernel
theorem dX11_follows_6 : decode cX11_follows 6 = .ok (.istore_n 1, 1) := by decide +kernel
theorem dX11_follows_7 : decode cX11_follows 7 = .ok (.aload_n 0, 1) := by decide +kernel
theorem dX11_follows_8 : decode cX11_follows 8 = .ok (.getfield 153, 3) := by decide +kernel
theorem dX11_follows_11 : decode cX11_follows 11 = .ok (.bipush 19, 2) := by decide +kernel
theorem dX11_follows_13 : decode cX11_follows 13 = .ok (.if_icmp .ne 9, 3) := by decide +kernel
theorem dX11_follows_16 : decode cX11_follows 16 = .ok (.aload_n 0, 1) := by decide +kernel
theorem dX11_follows_17 : decode cX11_follows 17 = .ok (.invokevirtual 189, 3) := by decide +kernel
theorem dX11_follows_20 : decode cX11_follows 20 = .ok (.iconst 1, 1) := by decide +kernel
theorem dX11_follows_21 : decode cX11_follows 21 = .ok (.ireturn, 1) := by decide +kernel
theorem dX11_follows_22 : decode cX11_follows 22 = .ok (.aload_n 0, 1) := by decide +kernel
theorem dX11_follows_23 : decode cX11_follows 23 = .ok (.getfield 153, 3) := by decide +kernel
theorem dX11_follows_26 : decode cX11_follows 26 = .ok (.bipush 6, 2) := by decide +kernel
theorem dX11_follows_28 : decode cX11_follows 28 = .ok (.if_icmp .ne 54, 3) := by decide +kernel
theorem dX11_follows_31 : decode cX11_follows 31 = .ok (.iload_n 1, 1) := by decide +kernel
theorem dX11_follows_32 : decode cX11_follows 32 = .ok (.ifCond .lt 50, 3) := by decide +kernel
theorem dX11_follows_35 : decode cX11_follows 35 = .ok (.aload_n 0, 1) := by decide +kernel
theorem dX11_follows_36 : decode cX11_follows 36 = .ok (.getfield 58, 3) := by decide +kernel
theorem dX11_follows_39 : decode cX11_follows 39 = .ok (.iload_n 1, 1) := by decide +kernel
theorem dX11_follows_40 : decode cX11_follows 40 = .ok (.baload, 1) := by decide +kernel
theorem dX11_follows_41 : decode cX11_follows 41 = .ok (.ifCond .ne 41, 3) := by decide +kernel
theorem dX11_follows_44 : decode cX11_follows 44 = .ok (.aload_n 0, 1) := by decide +kernel
theorem dX11_follows_45 : decode cX11_follows 45 = .ok (.getfield 55, 3) := by decide +kernel
theorem dX11_follows_48 : decode cX11_follows 48 = .ok (.iload_n 1, 1) := by decide +kernel
theorem dX11_follows_49 : decode cX11_follows 49 = .ok (.iaload, 1) := by decide +kernel
theorem dX11_follows_50 : decode cX11_follows 50 = .ok (.ifCond .ge 32, 3) := by decide +kernel
theorem dX11_follows_53 : decode cX11_follows 53 = .ok (.aload_n 0, 1) := by decide +kernel
theorem dX11_follows_54 : decode cX11_follows 54 = .ok (.getfield 55, 3) := by decide +kernel
theorem dX11_follows_57 : decode cX11_follows 57 = .ok (.iload_n 1, 1) := by decide +kernel
theorem dX11_follows_58 : decode cX11_follows 58 = .ok (.aload_n 0, 1) := by decide +kernel
theorem dX11_follows_59 : decode cX11_follows 59 = .ok (.iconst 2, 1) := by decide +kernel
theorem dX11_follows_60 : decode cX11_follows 60 = .ok (.iconst 0, 1) := by decide +kernel
theorem dX11_follows_61 : decode cX11_follows 61 = .ok (.iconst 0, 1) := by decide +kernel
theorem dX11_follows_62 : decode cX11_follows 62 = .ok (.invokevirtual 196, 3) := by decide +kernel
theorem dX11_follows_65 : decode cX11_follows 65 = .ok (.iastore, 1) := by decide +kernel
theorem dX11_follows_66 : decode cX11_follows 66 = .ok (.aload_n 0, 1) := by decide +kernel
theorem dX11_follows_67 : decode cX11_follows 67 = .ok (.aload_n 0, 1) := by decide +kernel
theorem dX11_follows_68 : decode cX11_follows 68 = .ok (.getfield 52, 3) := by decide +kernel
theorem dX11_follows_71 : decode cX11_follows 71 = .ok (.iload_n 1, 1) := by decide +kernel
theorem dX11_follows_72 : decode cX11_follows 72 = .ok (.iaload, 1) := by decide +kernel
theorem dX11_follows_73 : decode cX11_follows 73 = .ok (.invokevirtual 215, 3) := by decide +kernel
theorem dX11_follows_76 : decode cX11_follows 76 = .ok (.aload_n 0, 1) := by decide +kernel
theorem dX11_follows_77 : decode cX11_follows 77 = .ok (.invokevirtual 189, 3) := by decide +kernel
theorem dX11_follows_80 : decode cX11_follows 80 = .ok (.iconst 1, 1) := by decide +kernel
theorem dX11_follows_81 : decode cX11_follows 81 = .ok (.ireturn, 1) := by decide +kernel
theorem dX11_follows_82 : decode cX11_follows 82 = .ok (.iload_n 1, 1) := by decide +kernel
theorem dX11_follows_83 : decode cX11_follows 83 = .ok (.ifCond .lt 30, 3) := by decide +kernel
theorem dX11_follows_86 : decode cX11_follows 86 = .ok (.aload_n 0, 1) := by decide +kernel
theorem dX11_follows_87 : decode cX11_follows 87 = .ok (.getfield 153, 3) := by decide +kernel
theorem dX11_follows_90 : decode cX11_follows 90 = .ok (.aload_n 0, 1) := by decide +kernel
theorem dX11_follows_91 : decode cX11_follows 91 = .ok (.getfield 58, 3) := by decide +kernel
theorem dX11_follows_94 : decode cX11_follows 94 = .ok (.iload_n 1, 1) := by decide +kernel
theorem dX11_follows_95 : decode cX11_follows 95 = .ok (.baload, 1) := by decide +kernel
theorem dX11_follows_96 : decode cX11_follows 96 = .ok (.ifCond .eq 8, 3) := by decide +kernel
theorem dX11_follows_99 : decode cX11_follows 99 = .ok (.bipush 10, 2) := by decide +kernel
theorem dX11_follows_101 : decode cX11_follows 101 = .ok (.goto 5, 3) := by decide +kernel
theorem dX11_follows_104 : decode cX11_follows 104 = .ok (.bipush 7, 2) := by decide +kernel
theorem dX11_follows_106 : decode cX11_follows 106 = .ok (.if_icmp .ne 7, 3) := by decide +kernel
theorem dX11_follows_109 : decode cX11_follows 109 = .ok (.iconst 1, 1) := by decide +kernel
theorem dX11_follows_110 : decode cX11_follows 110 = .ok (.goto 4, 3) := by decide +kernel
theorem dX11_follows_113 : decode cX11_follows 113 = .ok (.iconst 0, 1) := by decide +kernel
theorem dX11_follows_114 : decode cX11_follows 114 = .ok (.istore_n 2, 1) := by decide +kernel
theorem dX11_follows_115 : decode cX11_follows 115 = .ok (.iload_n 2, 1) := by decide +kernel
theorem dX11_follows_116 : decode cX11_follows 116 = .ok (.ifCond .ne 5, 3) := by decide +kernel
theorem dX11_follows_119 : decode cX11_follows 119 = .ok (.iconst 0, 1) := by decide +kernel
theorem dX11_follows_120 : decode cX11_follows 120 = .ok (.ireturn, 1) := by decide +kernel
theorem dX11_follows_121 : decode cX11_follows 121 = .ok (.aload_n 0, 1) := by decide +kernel
theorem dX11_follows_122 : decode cX11_follows 122 = .ok (.getfield 58, 3) := by decide +kernel
theorem dX11_follows_125 : decode cX11_follows 125 = .ok (.iload_n 1, 1) := by decide +kernel
theorem dX11_follows_126 : decode cX11_follows 126 = .ok (.baload, 1) := by decide +kernel
theorem dX11_follows_127 : decode cX11_follows 127 = .ok (.ifCond .eq 29, 3) := by decide +kernel
theorem dX11_follows_130 : decode cX11_follows 130 = .ok (.aload_n 0, 1) := by decide +kernel
theorem dX11_follows_131 : decode cX11_follows 131 = .ok (.iconst 2, 1) := by decide +kernel
theorem dX11_follows_132 : decode cX11_follows 132 = .ok (.iconst 0, 1) := by decide +kernel
theorem dX11_follows_133 : decode cX11_follows 133 = .ok (.aload_n 0, 1) := by decide +kernel
theorem dX11_follows_134 : decode cX11_follows 134 = .ok (.getfield 52, 3) := by decide +kernel
theorem dX11_follows_137 : decode cX11_follows 137 = .ok (.iload_n 1, 1) := by decide +kernel
theorem dX11_follows_138 : decode cX11_follows 138 = .ok (.iaload, 1) := by decide +kernel
theorem dX11_follows_139 : decode cX11_follows 139 = .ok (.invokevirtual 196, 3) := by decide +kernel
theorem dX11_follows_142 : decode cX11_follows 142 = .ok (.pop, 1) := by decide +kernel
theorem dX11_follows_143 : decode cX11_follows 143 = .ok (.aload_n 0, 1) := by decide +kernel
theorem dX11_follows_144 : decode cX11_follows 144 = .ok (.aload_n 0, 1) := by decide +kernel
theorem dX11_follows_145 : decode cX11_follows 145 = .ok (.getfield 52, 3) := by decide +kernel
theorem dX11_follows_148 : decode cX11_follows 148 = .ok (.iload_n 1, 1) := by decide +kernel
theorem dX11_follows_149 : decode cX11_follows 149 = .ok (.iaload, 1) := by decide +kernel
theorem dX11_follows_150 : decode cX11_follows 150 = .ok (.invokevirtual 215, 3) := by decide +kernel
theorem dX11_follows_153 : decode cX11_follows 153 = .ok (.goto 31, 3) := by decide +kernel
theorem dX11_follows_156 : decode cX11_follows 156 = .ok (.aload_n 0, 1) := by decide +kernel
theorem dX11_follows_157 : decode cX11_follows 157 = .ok (.aload_n 0, 1) := by decide +kernel
theorem dX11_follows_158 : decode cX11_follows 158 = .ok (.getfield 55, 3) := by decide +kernel
theorem dX11_follows_161 : decode cX11_follows 161 = .ok (.iload_n 1, 1) := by decide +kernel
theorem dX11_follows_162 : decode cX11_follows 162 = .ok (.iaload, 1) := by decide +kernel
theorem dX11_follows_163 : decode cX11_follows 163 = .ok (.ifCond .ge 12, 3) := by decide +kernel
theorem dX11_follows_166 : decode cX11_follows 166 = .ok (.aload_n 0, 1) := by decide +kernel
theorem dX11_follows_167 : decode cX11_follows 167 = .ok (.getfield 52, 3) := by decide +kernel
theorem dX11_follows_170 : decode cX11_follows 170 = .ok (.iload_n 1, 1) := by decide +kernel
theorem dX11_follows_171 : decode cX11_follows 171 = .ok (.iaload, 1) := by decide +kernel
theorem dX11_follows_172 : decode cX11_follows 172 = .ok (.goto 9, 3) := by decide +kernel
theorem dX11_follows_175 : decode cX11_follows 175 = .ok (.aload_n 0, 1) := by decide +kernel
theorem dX11_follows_176 : decode cX11_follows 176 = .ok (.getfield 55, 3) := by decide +kernel
theorem dX11_follows_179 : decode cX11_follows 179 = .ok (.iload_n 1, 1) := by decide +kernel
theorem dX11_follows_180 : decode cX11_follows 180 = .ok (.iaload, 1) := by decide +kernel
theorem dX11_follows_181 : decode cX11_follows 181 = .ok (.invokevirtual 215, 3) := by decide +kernel
theorem dX11_follows_184 : decode cX11_follows 184 = .ok (.aload_n 0, 1) := by decide +kernel
theorem dX11_follows_185 : decode cX11_follows 185 = .ok (.dup, 1) := by decide +kernel
theorem dX11_follows_186 : decode cX11_follows 186 = .ok (.getfield 212, 3) := by decide +kernel
theorem dX11_follows_189 : decode cX11_follows 189 = .ok (.iconst 1, 1) := by decide +kernel
theorem dX11_follows_190 : decode cX11_follows 190 = .ok (.isub, 1) := by decide +kernel
theorem dX11_follows_191 : decode cX11_follows 191 = .ok (.putfield 212, 3) := by decide +kernel
theorem dX11_follows_194 : decode cX11_follows 194 = .ok (.aload_n 0, 1) := by decide +kernel
theorem dX11_follows_195 : decode cX11_follows 195 = .ok (.dup, 1) := by decide +kernel
theorem dX11_follows_196 : decode cX11_follows 196 = .ok (.getfield 173, 3) := by decide +kernel
theorem dX11_follows_199 : decode cX11_follows 199 = .ok (.iconst 1, 1) := by decide +kernel
theorem dX11_follows_200 : decode cX11_follows 200 = .ok (.isub, 1) := by decide +kernel
theorem dX11_follows_201 : decode cX11_follows 201 = .ok (.putfield 173, 3) := by decide +kernel
theorem dX11_follows_204 : decode cX11_follows 204 = .ok (.aload_n 0, 1) := by decide +kernel
theorem dX11_follows_205 : decode cX11_follows 205 = .ok (.invokevirtual 189, 3) := by decide +kernel
theorem dX11_follows_208 : decode cX11_follows 208 = .ok (.iconst 2, 1) := by decide +kernel
theorem dX11_follows_209 : decode cX11_follows 209 = .ok (.ireturn, 1) := by decide +kernel
set_option maxRecDepth 20000 in
theorem ggX11_reads_X11_scans : GoodIn wsX11_reads wsX11_scans := goodIn_r _ [12, 1, 13, 14, 15, 7, 16, 17, 11, 18, 19, 20, 21, 22, 23, 24, 25, 26, 27, 28, 29, 30, 31, 32, 33, 34, 35, 36, 37, 38, 39, 40, 41, 42, 43, 44, 45, 46, 47, 48, 110, 111, 112, 113, 114, 115, 116, 117, 118, 119, 120, 121, 122, 123, 124, 125, 126, 127, 128, 129, 130, 131, 132, 133, 134, 135, 136, 137, 138, 139, 140, 141, 142, 143, 144, 145, 146, 147, 148, 149, 150] (by decide +kernel) (by decide +kernel)
set_option maxRecDepth 20000 in
theorem gX11_reads_X11_scans : GoodIn wsX11_reads (wsV RX11 189 RX11 yX11_scans wsX11_scans) := goodIn_app (goodIn_of _ (by decide +kernel)) ggX11_reads_X11_scans
set_option maxRecDepth 20000 in
theorem ggX11_reads_X11_begins : GoodIn wsX11_reads wsX11_begins := goodIn_r _ [52, 7, 53, 34, 5, 54, 55, 56, 57, 58, 11, 59, 60, 6, 61, 62, 63, 64, 65, 4, 66, 67, 68, 8, 9, 10, 12, 1, 13, 14, 15, 16, 17, 18, 19, 20, 21, 22, 23, 24, 25, 26, 27, 28, 29, 30, 31, 32, 33, 35, 36, 37, 38, 39, 40, 41, 42, 43, 44, 45, 46, 47, 48, 69, 70, 71, 72, 73, 74, 2, 75, 76, 77, 78, 79, 80, 81, 82, 83, 84, 85, 86, 87, 88, 89, 90, 91, 92, 93, 94, 95, 96, 97, 98, 99, 3, 100, 101, 110, 111, 112, 113, 114, 115, 116, 117, 118, 119, 120, 121, 122, 123, 124, 125, 126, 127, 128, 129, 130, 131, 132, 133, 134, 135, 136, 137, 138, 139, 140, 141, 142, 143, 144, 145, 146, 147, 148, 149, 150] (by decide +kernel) (by decide +kernel)
set_option maxRecDepth 20000 in
theorem gX11_reads_X11_begins : GoodIn wsX11_reads (wsV RX11 218 RX11 yX11_begins wsX11_begins) := goodIn_app (goodIn_of _ (by decide +kernel)) ggX11_reads_X11_begins
set_option maxRecDepth 20000 in
theorem ggX11_reads_X11_puts : GoodIn wsX11_reads wsX11_puts := goodIn_r _ [65, 4, 66, 67, 68, 110, 111, 112, 113, 114, 115, 116, 117, 118, 119, 120, 121, 122, 123, 124, 125, 126, 127, 128, 129, 130, 131, 132, 133, 134, 135, 136, 137, 138, 139, 140, 141, 142, 143, 144, 145, 146, 147, 148, 149, 150] (by decide +kernel) (by decide +kernel)
set_option maxRecDepth 20000 in
theorem gX11_reads_X11_puts : GoodIn wsX11_reads (wsV RX11 196 RX11 yX11_puts wsX11_puts) := goodIn_app (goodIn_of _ (by decide +kernel)) ggX11_reads_X11_puts
set_option maxRecDepth 20000 in
theorem ggX11_reads_X11_follows : GoodIn wsX11_reads wsX11_follows := goodIn_r _ [105, 3, 7, 101, 100, 99, 2, 8, 9, 10, 11, 12, 1, 13, 14, 15, 16, 17, 18, 19, 20, 21, 22, 23, 24, 25, 26, 27, 28, 29, 30, 31, 32, 33, 34, 35, 36, 37, 38, 39, 40, 41, 42, 43, 44, 45, 46, 47, 48, 62, 63, 64, 65, 4, 66, 67, 68, 106, 107, 108, 109, 110, 111, 112, 113, 114, 115, 116, 117, 118, 119, 120, 121, 122, 123, 124, 125, 126, 127, 128, 129, 130, 131, 132, 133, 134, 135, 136, 137, 138, 139, 140, 141, 142, 143, 144, 145, 146, 147, 148, 149, 150] (by decide +kernel) (by decide +kernel)
set_option maxRecDepth 20000 in
theorem gX11_reads_X11_follows : GoodIn wsX11_reads (wsV RX11 221 RX11 yX11_follows wsX11_follows) := goodIn_app (goodIn_of _ (by decide +kernel)) ggX11_reads_X11_follows
theorem dX11_reads_0 : decode cX11_reads 0 = .ok (.aload_n 0, 1) := by decide +kernel
theorem dX11_reads_1 : decode cX11_reads 1 = .ok (.iconst 0, 1) := by decide +kernel
theorem dX11_reads_2 : decode cX11_reads 2 = .ok (.putfield 150, 3) := by decide +kernel
theorem dX11_reads_5 : decode cX11_reads 5 = .ok (.aload_n 0, 1) := by decide +kernel
theorem dX11_reads_6 : decode cX11_reads 6 = .ok (.iconst 0, 1) := by decide +kernel
theorem dX11_reads_7 : decode cX11_reads 7 = .ok (.putfield 173, 3) := by decide +kernel
theorem dX11_reads_10 : decode cX11_reads 10 = .ok (.aload_n 0, 1) := by decide +kernel
theorem dX11_reads_11 : decode cX11_reads 11 = .ok (.iconst 0, 1) := by decide +kernel
theorem dX11_reads_12 : decode cX11_reads 12 = .ok (.putfield 212, 3) := by decide +kernel
theorem dX11_reads_15 : decode cX11_reads 15 = .ok (.aload_n 0, 1) := by decide +kernel
theorem dX11_reads_16 : decode cX11_reads 16 = .ok (.getfield 22, 3) := by decide +kernel
theorem dX11_reads_19 : decode cX11_reads 19 = .ok (.iconst 4, 1) := by decide +kernel
theorem dX11_reads_20 : decode cX11_reads 20 = .ok (.iconst 0, 1) := by decide +kernel
theorem dX11_reads_21 : decode cX11_reads 21 = .ok (.iastore, 1) := by decide +kernel
theorem dX11_reads_22 : decode cX11_reads 22 = .ok (.aload_n 0, 1) := by decide +kernel
theorem dX11_reads_23 : decode cX11_reads 23 = .ok (.getfield 31, 3) := by decide +kernel
theorem dX11_reads_26 : decode cX11_reads 26 = .ok (.iconst 4, 1) := by decide +kernel
theorem dX11_reads_27 : decode cX11_reads 27 = .ok (.iconst 0, 1) := by decide +kernel
theorem dX11_reads_28 : decode cX11_reads 28 = .ok (.iastore, 1) := by decide +kernel
theorem dX11_reads_29 : decode cX11_reads 29 = .ok (.aload_n 0, 1) := by decide +kernel
theorem dX11_reads_30 : decode cX11_reads 30 = .ok (.getfield 40, 3) := by decide +kernel
theorem dX11_reads_33 : decode cX11_reads 33 = .ok (.iconst 4, 1) := by decide +kernel
theorem dX11_reads_34 : decode cX11_reads 34 = .ok (.iconst 0, 1) := by decide +kernel
theorem dX11_reads_35 : decode cX11_reads 35 = .ok (.iastore, 1) := by decide +kernel
theorem dX11_reads_36 : decode cX11_reads 36 = .ok (.aload_n 0, 1) := by decide +kernel
theorem dX11_reads_37 : decode cX11_reads 37 = .ok (.invokevirtual 189, 3) := by decide +kernel
theorem dX11_reads_40 : decode cX11_reads 40 = .ok (.iconst 1, 1) := by decide +kernel
theorem dX11_reads_41 : decode cX11_reads 41 = .ok (.istore_n 1, 1) := by decide +kernel
theorem dX11_reads_42 : decode cX11_reads 42 = .ok (.iload_n 1, 1) := by decide +kernel
theorem dX11_reads_43 : decode cX11_reads 43 = .ok (.iconst 1, 1) := by decide +kernel
theorem dX11_reads_44 : decode cX11_reads 44 = .ok (.if_icmp .ne 48, 3) := by decide +kernel
theorem dX11_reads_47 : decode cX11_reads 47 = .ok (.aload_n 0, 1) := by decide +kernel
theorem dX11_reads_48 : decode cX11_reads 48 = .ok (.getfield 153, 3) := by decide +kernel
theorem dX11_reads_51 : decode cX11_reads 51 = .ok (.iconst 4, 1) := by decide +kernel
theorem dX11_reads_52 : decode cX11_reads 52 = .ok (.if_icmp .eq 12, 3) := by decide +kernel
theorem dX11_reads_55 : decode cX11_reads 55 = .ok (.aload_n 0, 1) := by decide +kernel
theorem dX11_reads_56 : decode cX11_reads 56 = .ok (.getfield 153, 3) := by decide +kernel
theorem dX11_reads_59 : decode cX11_reads 59 = .ok (.bipush 8, 2) := by decide +kernel
theorem dX11_reads_61 : decode cX11_reads 61 = .ok (.if_icmp .ne 7, 3) := by decide +kernel
theorem dX11_reads_64 : decode cX11_reads 64 = .ok (.iconst 1, 1) := by decide +kernel
theorem dX11_reads_65 : decode cX11_reads 65 = .ok (.goto 4, 3) := by decide +kernel
theorem dX11_reads_68 : decode cX11_reads 68 = .ok (.iconst 0, 1) := by decide +kernel
theorem dX11_reads_69 : decode cX11_reads 69 = .ok (.istore_n 2, 1) := by decide +kernel
theorem dX11_reads_70 : decode cX11_reads 70 = .ok (.aload_n 0, 1) := by decide +kernel
theorem dX11_reads_71 : decode cX11_reads 71 = .ok (.invokevirtual 218, 3) := by decide +kernel
theorem dX11_reads_74 : decode cX11_reads 74 = .ok (.ifCond .ne 5, 3) := by decide +kernel
theorem dX11_reads_77 : decode cX11_reads 77 = .ok (.iconst 0, 1) := by decide +kernel
theorem dX11_reads_78 : decode cX11_reads 78 = .ok (.ireturn, 1) := by decide +kernel
theorem dX11_reads_79 : decode cX11_reads 79 = .ok (.iload_n 2, 1) := by decide +kernel
theorem dX11_reads_80 : decode cX11_reads 80 = .ok (.ifCond .eq 7, 3) := by decide +kernel
theorem dX11_reads_83 : decode cX11_reads 83 = .ok (.iconst 1, 1) := by decide +kernel
theorem dX11_reads_84 : decode cX11_reads 84 = .ok (.goto 4, 3) := by decide +kernel
theorem dX11_reads_87 : decode cX11_reads 87 = .ok (.iconst 2, 1) := by decide +kernel
theorem dX11_reads_88 : decode cX11_reads 88 = .ok (.istore_n 1, 1) := by decide +kernel
theorem dX11_reads_89 : decode cX11_reads 89 = .ok (.goto (-47), 3) := by decide +kernel
theorem dX11_reads_92 : decode cX11_reads 92 = .ok (.aload_n 0, 1) := by decide +kernel
theorem dX11_reads_93 : decode cX11_reads 93 = .ok (.getfield 153, 3) := by decide +kernel
theorem dX11_reads_96 : decode cX11_reads 96 = .ok (.ifCond .ne 20, 3) := by decide +kernel
theorem dX11_reads_99 : decode cX11_reads 99 = .ok (.aload_n 0, 1) := by decide +kernel
theorem dX11_reads_100 : decode cX11_reads 100 = .ok (.getfield 212, 3) := by decide +kernel
theorem dX11_reads_103 : decode cX11_reads 103 = .ok (.ifCond .ne 13, 3) := by decide +kernel
theorem dX11_reads_106 : decode cX11_reads 106 = .ok (.aload_n 0, 1) := by decide +kernel
theorem dX11_reads_107 : decode cX11_reads 107 = .ok (.iconst 4, 1) := by decide +kernel
theorem dX11_reads_108 : decode cX11_reads 108 = .ok (.iconst 0, 1) := by decide +kernel
theorem dX11_reads_109 : decode cX11_reads 109 = .ok (.iconst 0, 1) := by decide +kernel
theorem dX11_reads_110 : decode cX11_reads 110 = .ok (.invokevirtual 196, 3) := by decide +kernel
theorem dX11_reads_113 : decode cX11_reads 113 = .ok (.pop, 1) := by decide +kernel
theorem dX11_reads_114 : decode cX11_reads 114 = .ok (.iconst 1, 1) := by decide +kernel
theorem dX11_reads_115 : decode cX11_reads 115 = .ok (.ireturn, 1) := by decide +kernel
theorem dX11_reads_116 : decode cX11_reads 116 = .ok (.aload_n 0, 1) := by decide +kernel
theorem dX11_reads_117 : decode cX11_reads 117 = .ok (.invokevirtual 221, 3) := by decide +kernel
theorem dX11_reads_120 : decode cX11_reads 120 = .ok (.istore_n 1, 1) := by decide +kernel
theorem dX11_reads_121 : decode cX11_reads 121 = .ok (.iload_n 1, 1) := by decide +kernel
theorem dX11_reads_122 : decode cX11_reads 122 = .ok (.ifCond .ne (-80), 3) := by decide +kernel
theorem dX11_reads_125 : decode cX11_reads 125 = .ok (.iconst 0, 1) := by decide +kernel
theorem dX11_reads_126 : decode cX11_reads 126 = .ok (.ireturn, 1) := by decide +kernel
theorem dX11_moves_0 : decode cX11_moves 0 = .ok (.iconst 0, 1) := by decide +kernel
theorem dX11_moves_1 : decode cX11_moves 1 = .ok (.istore_n 2, 1) := by decide +kernel
theorem dX11_moves_2 : decode cX11_moves 2 = .ok (.iload_n 2, 1) := by decide +kernel
theorem dX11_moves_3 : decode cX11_moves 3 = .ok (.sipush 400, 3) := by decide +kernel
theorem dX11_moves_6 : decode cX11_moves 6 = .ok (.if_icmp .ge 75, 3) := by decide +kernel
theorem dX11_moves_9 : decode cX11_moves 9 = .ok (.aload_n 0, 1) := by decide +kernel
theorem dX11_moves_10 : decode cX11_moves 10 = .ok (.getfield 13, 3) := by decide +kernel
theorem dX11_moves_13 : decode cX11_moves 13 = .ok (.sipush 400, 3) := by decide +kernel
theorem dX11_moves_16 : decode cX11_moves 16 = .ok (.iload_n 1, 1) := by decide +kernel
theorem dX11_moves_17 : decode cX11_moves 17 = .ok (.imul, 1) := by decide +kernel
theorem dX11_moves_18 : decode cX11_moves 18 = .ok (.iload_n 2, 1) := by decide +kernel
theorem dX11_moves_19 : decode cX11_moves 19 = .ok (.iadd, 1) := by decide +kernel
theorem dX11_moves_20 : decode cX11_moves 20 = .ok (.aload_n 0, 1) := by decide +kernel
theorem dX11_moves_21 : decode cX11_moves 21 = .ok (.getfield 13, 3) := by decide +kernel
theorem dX11_moves_24 : decode cX11_moves 24 = .ok (.sipush 1600, 3) := by decide +kernel
theorem dX11_moves_27 : decode cX11_moves 27 = .ok (.iload_n 2, 1) := by decide +kernel
theorem dX11_moves_28 : decode cX11_moves 28 = .ok (.iadd, 1) := by decide +kernel
theorem dX11_moves_29 : decode cX11_moves 29 = .ok (.iaload, 1) := by decide +kernel
theorem dX11_moves_30 : decode cX11_moves 30 = .ok (.iastore, 1) := by decide +kernel
theorem dX11_moves_31 : decode cX11_moves 31 = .ok (.aload_n 0, 1) := by decide +kernel
theorem dX11_moves_32 : decode cX11_moves 32 = .ok (.getfield 16, 3) := by decide +kernel
theorem dX11_moves_35 : decode cX11_moves 35 = .ok (.sipush 400, 3) := by decide +kernel
theorem dX11_moves_38 : decode cX11_moves 38 = .ok (.iload_n 1, 1) := by decide +kernel
theorem dX11_moves_39 : decode cX11_moves 39 = .ok (.imul, 1) := by decide +kernel
theorem dX11_moves_40 : decode cX11_moves 40 = .ok (.iload_n 2, 1) := by decide +kernel
theorem dX11_moves_41 : decode cX11_moves 41 = .ok (.iadd, 1) := by decide +kernel
theorem dX11_moves_42 : decode cX11_moves 42 = .ok (.aload_n 0, 1) := by decide +kernel
theorem dX11_moves_43 : decode cX11_moves 43 = .ok (.getfield 16, 3) := by decide +kernel
theorem dX11_moves_46 : decode cX11_moves 46 = .ok (.sipush 1600, 3) := by decide +kernel
theorem dX11_moves_49 : decode cX11_moves 49 = .ok (.iload_n 2, 1) := by decide +kernel
theorem dX11_moves_50 : decode cX11_moves 50 = .ok (.iadd, 1) := by decide +kernel
theorem dX11_moves_51 : decode cX11_moves 51 = .ok (.iaload, 1) := by decide +kernel
theorem dX11_moves_52 : decode cX11_moves 52 = .ok (.iastore, 1) := by decide +kernel
theorem dX11_moves_53 : decode cX11_moves 53 = .ok (.aload_n 0, 1) := by decide +kernel
theorem dX11_moves_54 : decode cX11_moves 54 = .ok (.getfield 19, 3) := by decide +kernel
theorem dX11_moves_57 : decode cX11_moves 57 = .ok (.sipush 400, 3) := by decide +kernel
theorem dX11_moves_60 : decode cX11_moves 60 = .ok (.iload_n 1, 1) := by decide +kernel
theorem dX11_moves_61 : decode cX11_moves 61 = .ok (.imul, 1) := by decide +kernel
theorem dX11_moves_62 : decode cX11_moves 62 = .ok (.iload_n 2, 1) := by decide +kernel
theorem dX11_moves_63 : decode cX11_moves 63 = .ok (.iadd, 1) := by decide +kernel
theorem dX11_moves_64 : decode cX11_moves 64 = .ok (.aload_n 0, 1) := by decide +kernel
theorem dX11_moves_65 : decode cX11_moves 65 = .ok (.getfield 19, 3) := by decide +kernel
theorem dX11_moves_68 : decode cX11_moves 68 = .ok (.sipush 1600, 3) := by decide +kernel
theorem dX11_moves_71 : decode cX11_moves 71 = .ok (.iload_n 2, 1) := by decide +kernel
theorem dX11_moves_72 : decode cX11_moves 72 = .ok (.iadd, 1) := by decide +kernel
theorem dX11_moves_73 : decode cX11_moves 73 = .ok (.iaload, 1) := by decide +kernel
theorem dX11_moves_74 : decode cX11_moves 74 = .ok (.iastore, 1) := by decide +kernel
theorem dX11_moves_75 : decode cX11_moves 75 = .ok (.iinc 2 1, 3) := by decide +kernel
theorem dX11_moves_78 : decode cX11_moves 78 = .ok (.goto (-76), 3) := by decide +kernel
theorem dX11_moves_81 : decode cX11_moves 81 = .ok (.iconst 0, 1) := by decide +kernel
theorem dX11_moves_82 : decode cX11_moves 82 = .ok (.istore_n 2, 1) := by decide +kernel
theorem dX11_moves_83 : decode cX11_moves 83 = .ok (.iload_n 2, 1) := by decide +kernel
theorem dX11_moves_84 : decode cX11_moves 84 = .ok (.bipush 17, 2) := by decide +kernel
theorem dX11_moves_86 : decode cX11_moves 86 = .ok (.if_icmp .ge 49, 3) := by decide +kernel
theorem dX11_moves_89 : decode cX11_moves 89 = .ok (.aload_n 0, 1) := by decide +kernel
theorem dX11_moves_90 : decode cX11_moves 90 = .ok (.getfield 25, 3) := by decide +kernel
theorem dX11_moves_93 : decode cX11_moves 93 = .ok (.bipush 17, 2) := by decide +kernel
theorem dX11_moves_95 : decode cX11_moves 95 = .ok (.iload_n 1, 1) := by decide +kernel
theorem dX11_moves_96 : decode cX11_moves 96 = .ok (.imul, 1) := by decide +kernel
theorem dX11_moves_97 : decode cX11_moves 97 = .ok (.iload_n 2, 1) := by decide +kernel
theorem dX11_moves_98 : decode cX11_moves 98 = .ok (.iadd, 1) := by decide +kernel
theorem dX11_moves_99 : decode cX11_moves 99 = .ok (.aload_n 0, 1) := by decide +kernel
theorem dX11_moves_100 : decode cX11_moves 100 = .ok (.getfield 25, 3) := by decide +kernel
theorem dX11_moves_103 : decode cX11_moves 103 = .ok (.bipush 68, 2) := by decide +kernel
theorem dX11_moves_105 : decode cX11_moves 105 = .ok (.iload_n 2, 1) := by decide +kernel
theorem dX11_moves_106 : decode cX11_moves 106 = .ok (.iadd, 1) := by decide +kernel
theorem dX11_moves_107 : decode cX11_moves 107 = .ok (.iaload, 1) := by decide +kernel
theorem dX11_moves_108 : decode cX11_moves 108 = .ok (.iastore, 1) := by decide +kernel
theorem dX11_moves_109 : decode cX11_moves 109 = .ok (.aload_n 0, 1) := by decide +kernel
theorem dX11_moves_110 : decode cX11_moves 110 = .ok (.getfield 28, 3) := by decide +kernel
theorem dX11_moves_113 : decode cX11_moves 113 = .ok (.bipush 17, 2) := by decide +kernel
theorem dX11_moves_115 : decode cX11_moves 115 = .ok (.iload_n 1, 1) := by decide +kernel
theorem dX11_moves_116 : decode cX11_moves 116 = .ok (.imul, 1) := by decide +kernel
theorem dX11_moves_117 : decode cX11_moves 117 = .ok (.iload_n 2, 1) := by decide +kernel
theorem dX11_moves_118 : decode cX11_moves 118 = .ok (.iadd, 1) := by decide +kernel
theorem dX11_moves_119 : decode cX11_moves 119 = .ok (.aload_n 0, 1) := by decide +kernel
theorem dX11_moves_120 : decode cX11_moves 120 = .ok (.getfield 28, 3) := by decide +kernel
theorem dX11_moves_123 : decode cX11_moves 123 = .ok (.bipush 68, 2) := by decide +kernel
theorem dX11_moves_125 : decode cX11_moves 125 = .ok (.iload_n 2, 1) := by decide +kernel
theorem dX11_moves_126 : decode cX11_moves 126 = .ok (.iadd, 1) := by decide +kernel
theorem dX11_moves_127 : decode cX11_moves 127 = .ok (.iaload, 1) := by decide +kernel
theorem dX11_moves_128 : decode cX11_moves 128 = .ok (.iastore, 1) := by decide +kernel
theorem dX11_moves_129 : decode cX11_moves 129 = .ok (.iinc 2 1, 3) := by decide +kernel
theorem dX11_moves_132 : decode cX11_moves 132 = .ok (.goto (-49), 3) := by decide +kernel
theorem dX11_moves_135 : decode cX11_moves 135 = .ok (.iconst 0, 1) := by decide +kernel
theorem dX11_moves_136 : decode cX11_moves 136 = .ok (.istore_n 2, 1) := by decide +kernel
theorem dX11_moves_137 : decode cX11_moves 137 = .ok (.iload_n 2, 1) := by decide +kernel
theorem dX11_moves_138 : decode cX11_moves 138 = .ok (.sipush 200, 3) := by decide +kernel
theorem dX11_moves_141 : decode cX11_moves 141 = .ok (.if_icmp .ge 53, 3) := by decide +kernel
theorem dX11_moves_144 : decode cX11_moves 144 = .ok (.aload_n 0, 1) := by decide +kernel
theorem dX11_moves_145 : decode cX11_moves 145 = .ok (.getfield 34, 3) := by decide +kernel
theorem dX11_moves_148 : decode cX11_moves 148 = .ok (.sipush 200, 3) := by decide +kernel
theorem dX11_moves_151 : decode cX11_moves 151 = .ok (.iload_n 1, 1) := by decide +kernel
theorem dX11_moves_152 : decode cX11_moves 152 = .ok (.imul, 1) := by decide +kernel
theorem dX11_moves_153 : decode cX11_moves 153 = .ok (.iload_n 2, 1) := by decide +kernel
theorem dX11_moves_154 : decode cX11_moves 154 = .ok (.iadd, 1) := by decide +kernel
theorem dX11_moves_155 : decode cX11_moves 155 = .ok (.aload_n 0, 1) := by decide +kernel
theorem dX11_moves_156 : decode cX11_moves 156 = .ok (.getfield 34, 3) := by decide +kernel
theorem dX11_moves_159 : decode cX11_moves 159 = .ok (.sipush 800, 3) := by decide +kernel
theorem dX11_moves_162 : decode cX11_moves 162 = .ok (.iload_n 2, 1) := by decide +kernel
theorem dX11_moves_163 : decode cX11_moves 163 = .ok (.iadd, 1) := by decide +kernel
theorem dX11_moves_164 : decode cX11_moves 164 = .ok (.iaload, 1) := by decide +kernel
theorem dX11_moves_165 : decode cX11_moves 165 = .ok (.iastore, 1) := by decide +kernel
theorem dX11_moves_166 : decode cX11_moves 166 = .ok (.aload_n 0, 1) := by decide +kernel
theorem dX11_moves_167 : decode cX11_moves 167 = .ok (.getfield 37, 3) := by decide +kernel
theorem dX11_moves_170 : decode cX11_moves 170 = .ok (.sipush 200, 3) := by decide +kernel
theorem dX11_moves_173 : decode cX11_moves 173 = .ok (.iload_n 1, 1) := by decide +kernel
theorem dX11_moves_174 : decode cX11_moves 174 = .ok (.imul, 1) := by decide +kernel
theorem dX11_moves_175 : decode cX11_moves 175 = .ok (.iload_n 2, 1) := by decide +kernel
theorem dX11_moves_176 : decode cX11_moves 176 = .ok (.iadd, 1) := by decide +kernel
theorem dX11_moves_177 : decode cX11_moves 177 = .ok (.aload_n 0, 1) := by decide +kernel
theorem dX11_moves_178 : decode cX11_moves 178 = .ok (.getfield 37, 3) := by decide +kernel
theorem dX11_moves_181 : decode cX11_moves 181 = .ok (.sipush 800, 3) := by decide +kernel
theorem dX11_moves_184 : decode cX11_moves 184 = .ok (.iload_n 2, 1) := by decide +kernel
theorem dX11_moves_185 : decode cX11_moves 185 = .ok (.iadd, 1) := by decide +kernel
theorem dX11_moves_186 : decode cX11_moves 186 = .ok (.iaload, 1) := by decide +kernel
theorem dX11_moves_187 : decode cX11_moves 187 = .ok (.iastore, 1) := by decide +kernel
theorem dX11_moves_188 : decode cX11_moves 188 = .ok (.iinc 2 1, 3) := by decide +kernel
theorem dX11_moves_191 : decode cX11_moves 191 = .ok (.goto (-54), 3) := by decide +kernel
theorem dX11_moves_194 : decode cX11_moves 194 = .ok (.aload_n 0, 1) := by decide +kernel
theorem dX11_moves_195 : decode cX11_moves 195 = .ok (.getfield 22, 3) := by decide +kernel
theorem dX11_moves_198 : decode cX11_moves 198 = .ok (.iload_n 1, 1) := by decide +kernel
theorem dX11_moves_199 : decode cX11_moves 199 = .ok (.aload_n 0, 1) := by decide +kernel
theorem dX11_moves_200 : decode cX11_moves 200 = .ok (.getfield 22, 3) := by decide +kernel
theorem dX11_moves_203 : decode cX11_moves 203 = .ok (.iconst 4, 1) := by decide +kernel
theorem dX11_moves_204 : decode cX11_moves 204 = .ok (.iaload, 1) := by decide +kernel
theorem dX11_moves_205 : decode cX11_moves 205 = .ok (.iastore, 1) := by decide +kernel
theorem dX11_moves_206 : decode cX11_moves 206 = .ok (.aload_n 0, 1) := by decide +kernel
theorem dX11_moves_207 : decode cX11_moves 207 = .ok (.getfield 31, 3) := by decide +kernel
theorem dX11_moves_210 : decode cX11_moves 210 = .ok (.iload_n 1, 1) := by decide +kernel
theorem dX11_moves_211 : decode cX11_moves 211 = .ok (.aload_n 0, 1) := by decide +kernel
theorem dX11_moves_212 : decode cX11_moves 212 = .ok (.getfield 31, 3) := by decide +kernel
theorem dX11_moves_215 : decode cX11_moves 215 = .ok (.iconst 4, 1) := by decide +kernel
theorem dX11_moves_216 : decode cX11_moves 216 = .ok (.iaload, 1) := by decide +kernel
theorem dX11_moves_217 : decode cX11_moves 217 = .ok (.iastore, 1) := by decide +kernel
theorem dX11_moves_218 : decode cX11_moves 218 = .ok (.aload_n 0, 1) := by decide +kernel
theorem dX11_moves_219 : decode cX11_moves 219 = .ok (.getfield 40, 3) := by decide +kernel
theorem dX11_moves_222 : decode cX11_moves 222 = .ok (.iload_n 1, 1) := by decide +kernel
theorem dX11_moves_223 : decode cX11_moves 223 = .ok (.aload_n 0, 1) := by decide +kernel
theorem dX11_moves_224 : decode cX11_moves 224 = .ok (.getfield 40, 3) := by decide +kernel
theorem dX11_moves_227 : decode cX11_moves 227 = .ok (.iconst 4, 1) := by decide +kernel
theorem dX11_moves_228 : decode cX11_moves 228 = .ok (.iaload, 1) := by decide +kernel
theorem dX11_moves_229 : decode cX11_moves 229 = .ok (.iastore, 1) := by decide +kernel
theorem dX11_moves_230 : decode cX11_moves 230 = .ok (.return_, 1) := by decide +kernel
theorem dX11_goesFrom_0 : decode cX11_goesFrom 0 = .ok (.iload_n 2, 1) := by decide +kernel
theorem dX11_goesFrom_1 : decode cX11_goesFrom 1 = .ok (.istore 4, 2) := by decide +kernel
theorem dX11_goesFrom_3 : decode cX11_goesFrom 3 = .ok (.iconst 0, 1) := by decide +kernel
theorem dX11_goesFrom_4 : decode cX11_goesFrom 4 = .ok (.istore 5, 2) := by decide +kernel
theorem dX11_goesFrom_6 : decode cX11_goesFrom 6 = .ok (.iload 5, 2) := by decide +kernel
theorem dX11_goesFrom_8 : decode cX11_goesFrom 8 = .ok (.sipush 400, 3) := by decide +kernel
theorem dX11_goesFrom_11 : decode cX11_goesFrom 11 = .ok (.if_icmp .gt 137, 3) := by decide +kernel
theorem dX11_goesFrom_14 : decode cX11_goesFrom 14 = .ok (.sipush 400, 3) := by decide +kernel
theorem dX11_goesFrom_17 : decode cX11_goesFrom 17 = .ok (.iload_n 1, 1) := by decide +kernel
theorem dX11_goesFrom_18 : decode cX11_goesFrom 18 = .ok (.imul, 1) := by decide +kernel
theorem dX11_goesFrom_19 : decode cX11_goesFrom 19 = .ok (.iload 4, 2) := by decide +kernel
theorem dX11_goesFrom_21 : decode cX11_goesFrom 21 = .ok (.iadd, 1) := by decide +kernel
theorem dX11_goesFrom_22 : decode cX11_goesFrom 22 = .ok (.istore 6, 2) := by decide +kernel
theorem dX11_goesFrom_24 : decode cX11_goesFrom 24 = .ok (.aload_n 0, 1) := by decide +kernel
theorem dX11_goesFrom_25 : decode cX11_goesFrom 25 = .ok (.getfield 13, 3) := by decide +kernel
theorem dX11_goesFrom_28 : decode cX11_goesFrom 28 = .ok (.iload 6, 2) := by decide +kernel
theorem dX11_goesFrom_30 : decode cX11_goesFrom 30 = .ok (.iaload, 1) := by decide +kernel
theorem dX11_goesFrom_31 : decode cX11_goesFrom 31 = .ok (.ifCond .ne 11, 3) := by decide +kernel
theorem dX11_goesFrom_34 : decode cX11_goesFrom 34 = .ok (.aload_n 0, 1) := by decide +kernel
theorem dX11_goesFrom_35 : decode cX11_goesFrom 35 = .ok (.getfield 16, 3) := by decide +kernel
theorem dX11_goesFrom_38 : decode cX11_goesFrom 38 = .ok (.iload 6, 2) := by decide +kernel
theorem dX11_goesFrom_40 : decode cX11_goesFrom 40 = .ok (.iaload, 1) := by decide +kernel
theorem dX11_goesFrom_41 : decode cX11_goesFrom 41 = .ok (.ireturn, 1) := by decide +kernel
theorem dX11_goesFrom_42 : decode cX11_goesFrom 42 = .ok (.aload_n 0, 1) := by decide +kernel
theorem dX11_goesFrom_43 : decode cX11_goesFrom 43 = .ok (.getfield 13, 3) := by decide +kernel
theorem dX11_goesFrom_46 : decode cX11_goesFrom 46 = .ok (.iload 6, 2) := by decide +kernel
theorem dX11_goesFrom_48 : decode cX11_goesFrom 48 = .ok (.iaload, 1) := by decide +kernel
theorem dX11_goesFrom_49 : decode cX11_goesFrom 49 = .ok (.iconst 4, 1) := by decide +kernel
theorem dX11_goesFrom_50 : decode cX11_goesFrom 50 = .ok (.if_icmp .eq 14, 3) := by decide +kernel
theorem dX11_goesFrom_53 : decode cX11_goesFrom 53 = .ok (.aload_n 0, 1) := by decide +kernel
theorem dX11_goesFrom_54 : decode cX11_goesFrom 54 = .ok (.getfield 13, 3) := by decide +kernel
theorem dX11_goesFrom_57 : decode cX11_goesFrom 57 = .ok (.iload 6, 2) := by decide +kernel
theorem dX11_goesFrom_59 : decode cX11_goesFrom 59 = .ok (.iaload, 1) := by decide +kernel
theorem dX11_goesFrom_60 : decode cX11_goesFrom 60 = .ok (.iconst 3, 1) := by decide +kernel
theorem dX11_goesFrom_61 : decode cX11_goesFrom 61 = .ok (.if_icmp .ne 20, 3) := by decide +kernel
theorem dX11_goesFrom_64 : decode cX11_goesFrom 64 = .ok (.aload_n 0, 1) := by decide +kernel
theorem dX11_goesFrom_65 : decode cX11_goesFrom 65 = .ok (.getfield 13, 3) := by decide +kernel
theorem dX11_goesFrom_68 : decode cX11_goesFrom 68 = .ok (.iload 6, 2) := by decide +kernel
theorem dX11_goesFrom_70 : decode cX11_goesFrom 70 = .ok (.iaload, 1) := by decide +kernel
theorem dX11_goesFrom_71 : decode cX11_goesFrom 71 = .ok (.iconst 4, 1) := by decide +kernel
theorem dX11_goesFrom_72 : decode cX11_goesFrom 72 = .ok (.if_icmp .ne 7, 3) := by decide +kernel
theorem dX11_goesFrom_75 : decode cX11_goesFrom 75 = .ok (.iconst 0, 1) := by decide +kernel
theorem dX11_goesFrom_76 : decode cX11_goesFrom 76 = .ok (.goto 4, 3) := by decide +kernel
theorem dX11_goesFrom_79 : decode cX11_goesFrom 79 = .ok (.iconst (-1), 1) := by decide +kernel
theorem dX11_goesFrom_80 : decode cX11_goesFrom 80 = .ok (.ireturn, 1) := by decide +kernel
theorem dX11_goesFrom_81 : decode cX11_goesFrom 81 = .ok (.aload_n 0, 1) := by decide +kernel
theorem dX11_goesFrom_82 : decode cX11_goesFrom 82 = .ok (.getfield 13, 3) := by decide +kernel
theorem dX11_goesFrom_85 : decode cX11_goesFrom 85 = .ok (.iload 6, 2) := by decide +kernel
theorem dX11_goesFrom_87 : decode cX11_goesFrom 87 = .ok (.iaload, 1) := by decide +kernel
theorem dX11_goesFrom_88 : decode cX11_goesFrom 88 = .ok (.iconst 1, 1) := by decide +kernel
theorem dX11_goesFrom_89 : decode cX11_goesFrom 89 = .ok (.if_icmp .ne 22, 3) := by decide +kernel
theorem dX11_goesFrom_92 : decode cX11_goesFrom 92 = .ok (.aload_n 0, 1) := by decide +kernel
theorem dX11_goesFrom_93 : decode cX11_goesFrom 93 = .ok (.getfield 16, 3) := by decide +kernel
theorem dX11_goesFrom_96 : decode cX11_goesFrom 96 = .ok (.iload 6, 2) := by decide +kernel
theorem dX11_goesFrom_98 : decode cX11_goesFrom 98 = .ok (.iaload, 1) := by decide +kernel
theorem dX11_goesFrom_99 : decode cX11_goesFrom 99 = .ok (.iload_n 3, 1) := by decide +kernel
theorem dX11_goesFrom_100 : decode cX11_goesFrom 100 = .ok (.ishr, 1) := by decide +kernel
theorem dX11_goesFrom_101 : decode cX11_goesFrom 101 = .ok (.iconst 1, 1) := by decide +kernel
theorem dX11_goesFrom_102 : decode cX11_goesFrom 102 = .ok (.iand, 1) := by decide +kernel
theorem dX11_goesFrom_103 : decode cX11_goesFrom 103 = .ok (.iconst 1, 1) := by decide +kernel
theorem dX11_goesFrom_104 : decode cX11_goesFrom 104 = .ok (.if_icmp .ne 7, 3) := by decide +kernel
theorem dX11_goesFrom_107 : decode cX11_goesFrom 107 = .ok (.iconst 1, 1) := by decide +kernel
theorem dX11_goesFrom_108 : decode cX11_goesFrom 108 = .ok (.goto 4, 3) := by decide +kernel
theorem dX11_goesFrom_111 : decode cX11_goesFrom 111 = .ok (.iconst 0, 1) := by decide +kernel
theorem dX11_goesFrom_112 : decode cX11_goesFrom 112 = .ok (.istore 7, 2) := by decide +kernel
theorem dX11_goesFrom_114 : decode cX11_goesFrom 114 = .ok (.iload 7, 2) := by decide +kernel
theorem dX11_goesFrom_116 : decode cX11_goesFrom 116 = .ok (.ifCond .eq 10, 3) := by decide +kernel
theorem dX11_goesFrom_119 : decode cX11_goesFrom 119 = .ok (.iload 4, 2) := by decide +kernel
theorem dX11_goesFrom_121 : decode cX11_goesFrom 121 = .ok (.iconst 1, 1) := by decide +kernel
theorem dX11_goesFrom_122 : decode cX11_goesFrom 122 = .ok (.iadd, 1) := by decide +kernel
theorem dX11_goesFrom_123 : decode cX11_goesFrom 123 = .ok (.goto 10, 3) := by decide +kernel
theorem dX11_goesFrom_126 : decode cX11_goesFrom 126 = .ok (.aload_n 0, 1) := by decide +kernel
theorem dX11_goesFrom_127 : decode cX11_goesFrom 127 = .ok (.getfield 19, 3) := by decide +kernel
theorem dX11_goesFrom_130 : decode cX11_goesFrom 130 = .ok (.iload 6, 2) := by decide +kernel
theorem dX11_goesFrom_132 : decode cX11_goesFrom 132 = .ok (.iaload, 1) := by decide +kernel
theorem dX11_goesFrom_133 : decode cX11_goesFrom 133 = .ok (.istore 4, 2) := by decide +kernel
theorem dX11_goesFrom_135 : decode cX11_goesFrom 135 = .ok (.iload 4, 2) := by decide +kernel
theorem dX11_goesFrom_137 : decode cX11_goesFrom 137 = .ok (.ifCond .ge 5, 3) := by decide +kernel
theorem dX11_goesFrom_140 : decode cX11_goesFrom 140 = .ok (.iconst (-1), 1) := by decide +kernel
theorem dX11_goesFrom_141 : decode cX11_goesFrom 141 = .ok (.ireturn, 1) := by decide +kernel
theorem dX11_goesFrom_142 : decode cX11_goesFrom 142 = .ok (.iinc 5 1, 3) := by decide +kernel
theorem dX11_goesFrom_145 : decode cX11_goesFrom 145 = .ok (.goto (-139), 3) := by decide +kernel
theorem dX11_goesFrom_148 : decode cX11_goesFrom 148 = .ok (.iconst (-1), 1) := by decide +kernel
theorem dX11_goesFrom_149 : decode cX11_goesFrom 149 = .ok (.ireturn, 1) := by decide +kernel
set_option maxRecDepth 20000 in
theorem ggX11_lays_X11_goesFrom : GoodIn wsX11_lays wsX11_goesFrom := goodIn_r _ [8, 9, 10, 11, 12, 13, 14, 15, 16, 17, 18, 19, 20, 21, 22, 23, 24, 25, 26, 27, 28, 29, 30, 31, 32, 33, 34, 35, 36, 37, 38, 39, 40, 41, 42, 43, 44, 45, 46, 47, 48, 49, 50, 51, 52] (by decide +kernel) (by decide +kernel)
set_option maxRecDepth 20000 in
theorem gX11_lays_X11_goesFrom : GoodIn wsX11_lays (wsV RX11 224 RX11 yX11_goesFrom wsX11_goesFrom) := goodIn_app (goodIn_of _ (by decide +kernel)) ggX11_lays_X11_goesFrom
theorem dX11_lays_0 : decode cX11_lays 0 = .ok (.iconst 0, 1) := by decide +kernel
theorem dX11_lays_1 : decode cX11_lays 1 = .ok (.istore_n 2, 1) := by decide +kernel
theorem dX11_lays_2 : decode cX11_lays 2 = .ok (.iload_n 2, 1) := by decide +kernel
theorem dX11_lays_3 : decode cX11_lays 3 = .ok (.aload_n 0, 1) := by decide +kernel
theorem dX11_lays_4 : decode cX11_lays 4 = .ok (.getfield 31, 3) := by decide +kernel
theorem dX11_lays_7 : decode cX11_lays 7 = .ok (.iload_n 1, 1) := by decide +kernel
theorem dX11_lays_8 : decode cX11_lays 8 = .ok (.iaload, 1) := by decide +kernel
theorem dX11_lays_9 : decode cX11_lays 9 = .ok (.if_icmp .gt 62, 3) := by decide +kernel
theorem dX11_lays_12 : decode cX11_lays 12 = .ok (.iconst 0, 1) := by decide +kernel
theorem dX11_lays_13 : decode cX11_lays 13 = .ok (.istore_n 3, 1) := by decide +kernel
theorem dX11_lays_14 : decode cX11_lays 14 = .ok (.iload_n 3, 1) := by decide +kernel
theorem dX11_lays_15 : decode cX11_lays 15 = .ok (.iconst 4, 1) := by decide +kernel
theorem dX11_lays_16 : decode cX11_lays 16 = .ok (.if_icmp .ge 49, 3) := by decide +kernel
theorem dX11_lays_19 : decode cX11_lays 19 = .ok (.aload_n 0, 1) := by decide +kernel
theorem dX11_lays_20 : decode cX11_lays 20 = .ok (.getfield 43, 3) := by decide +kernel
theorem dX11_lays_23 : decode cX11_lays 23 = .ok (.bipush 68, 2) := by decide +kernel
theorem dX11_lays_25 : decode cX11_lays 25 = .ok (.iload_n 1, 1) := by decide +kernel
theorem dX11_lays_26 : decode cX11_lays 26 = .ok (.imul, 1) := by decide +kernel
theorem dX11_lays_27 : decode cX11_lays 27 = .ok (.iconst 4, 1) := by decide +kernel
theorem dX11_lays_28 : decode cX11_lays 28 = .ok (.iload_n 2, 1) := by decide +kernel
theorem dX11_lays_29 : decode cX11_lays 29 = .ok (.imul, 1) := by decide +kernel
theorem dX11_lays_30 : decode cX11_lays 30 = .ok (.iadd, 1) := by decide +kernel
theorem dX11_lays_31 : decode cX11_lays 31 = .ok (.iload_n 3, 1) := by decide +kernel
theorem dX11_lays_32 : decode cX11_lays 32 = .ok (.iadd, 1) := by decide +kernel
theorem dX11_lays_33 : decode cX11_lays 33 = .ok (.aload_n 0, 1) := by decide +kernel
theorem dX11_lays_34 : decode cX11_lays 34 = .ok (.iload_n 1, 1) := by decide +kernel
theorem dX11_lays_35 : decode cX11_lays 35 = .ok (.iload_n 2, 1) := by decide +kernel
theorem dX11_lays_36 : decode cX11_lays 36 = .ok (.ifCond .ne 7, 3) := by decide +kernel
theorem dX11_lays_39 : decode cX11_lays 39 = .ok (.iconst 0, 1) := by decide +kernel
theorem dX11_lays_40 : decode cX11_lays 40 = .ok (.goto 14, 3) := by decide +kernel
theorem dX11_lays_43 : decode cX11_lays 43 = .ok (.aload_n 0, 1) := by decide +kernel
theorem dX11_lays_44 : decode cX11_lays 44 = .ok (.getfield 28, 3) := by decide +kernel
theorem dX11_lays_47 : decode cX11_lays 47 = .ok (.bipush 17, 2) := by decide +kernel
theorem dX11_lays_49 : decode cX11_lays 49 = .ok (.iload_n 1, 1) := by decide +kernel
theorem dX11_lays_50 : decode cX11_lays 50 = .ok (.imul, 1) := by decide +kernel
theorem dX11_lays_51 : decode cX11_lays 51 = .ok (.iload_n 2, 1) := by decide +kernel
theorem dX11_lays_52 : decode cX11_lays 52 = .ok (.iadd, 1) := by decide +kernel
theorem dX11_lays_53 : decode cX11_lays 53 = .ok (.iaload, 1) := by decide +kernel
theorem dX11_lays_54 : decode cX11_lays 54 = .ok (.iload_n 3, 1) := by decide +kernel
theorem dX11_lays_55 : decode cX11_lays 55 = .ok (.invokevirtual 224, 3) := by decide +kernel
theorem dX11_lays_58 : decode cX11_lays 58 = .ok (.iastore, 1) := by decide +kernel
theorem dX11_lays_59 : decode cX11_lays 59 = .ok (.iinc 3 1, 3) := by decide +kernel
theorem dX11_lays_62 : decode cX11_lays 62 = .ok (.goto (-48), 3) := by decide +kernel
theorem dX11_lays_65 : decode cX11_lays 65 = .ok (.iinc 2 1, 3) := by decide +kernel
theorem dX11_lays_68 : decode cX11_lays 68 = .ok (.goto (-66), 3) := by decide +kernel
theorem dX11_lays_71 : decode cX11_lays 71 = .ok (.return_, 1) := by decide +kernel
set_option maxRecDepth 20000 in
theorem ggX11_program_X11_isProgram : GoodIn wsX11_program wsX11_isProgram := goodIn_r _ [7, 8, 9, 10, 6, 11] (by decide +kernel) (by decide +kernel)
set_option maxRecDepth 20000 in
theorem gX11_program_X11_isProgram : GoodIn wsX11_program (va_wsS RX11 227 yX11_isProgram wsX11_isProgram) := goodIn_app (goodIn_of _ (by decide +kernel)) ggX11_program_X11_isProgram
set_option maxRecDepth 20000 in
theorem ggX11_program_X11_reads : GoodIn wsX11_program wsX11_reads := goodIn_r _ [15, 16, 17, 18, 19, 3, 20, 21, 22, 23, 24, 6, 25, 2, 26, 1, 27, 28, 29, 30, 31, 9, 10, 11, 32, 33, 34, 35, 36, 37, 38, 39, 40, 8, 41, 42, 43, 44, 45, 46, 47, 48, 49, 50, 51, 52, 53, 54, 55, 56, 57, 58, 59, 60, 61, 62, 63, 64, 65, 66, 67, 68, 69, 70, 71, 72, 73, 74, 75, 76, 77, 78, 79, 80, 81, 82, 83, 84, 85, 86, 87, 88, 89, 90, 91, 92, 93, 94, 95, 96, 97, 98, 99, 100, 101, 102, 103, 104, 105, 106, 107, 108, 109, 110, 111, 112, 113, 114, 115, 116, 130, 131, 132, 133, 134, 135, 136, 137, 138, 139, 140, 141, 142, 143, 144, 145, 146, 147, 148, 149, 150, 151, 152, 153, 154, 155, 156, 157, 158, 159, 160, 161, 162, 163, 164, 165, 166, 167, 168, 169, 170] (by decide +kernel) (by decide +kernel)
set_option maxRecDepth 20000 in
theorem gX11_program_X11_reads : GoodIn wsX11_program (wsV RX11 230 RX11 yX11_reads wsX11_reads) := goodIn_app (goodIn_of _ (by decide +kernel)) ggX11_program_X11_reads
set_option maxRecDepth 20000 in
theorem ggX11_program_X11_moves : GoodIn wsX11_program wsX11_moves := goodIn_r _ [120, 73, 74, 75, 61, 62, 67, 68, 19, 3, 20, 130, 131, 132, 133, 134, 135, 136, 137, 138, 139, 140, 141, 142, 143, 144, 145, 146, 147, 148, 149, 150, 151, 152, 153, 154, 155, 156, 157, 158, 159, 160, 161, 162, 163, 164, 165, 166, 167, 168, 169, 170] (by decide +kernel) (by decide +kernel)
set_option maxRecDepth 20000 in
theorem gX11_program_X11_moves : GoodIn wsX11_program (wsV RX11 233 RX11 yX11_moves wsX11_moves) := goodIn_app (goodIn_of _ (by decide +kernel)) ggX11_program_X11_moves
set_option maxRecDepth 20000 in
theorem ggX11_program_X11_lays : GoodIn wsX11_program wsX11_lays := goodIn_r _ [124, 3, 125, 62, 126, 127, 128, 6, 129, 73, 74, 75, 130, 131, 132, 133, 134, 135, 136, 137, 138, 139, 140, 141, 142, 143, 144, 145, 146, 147, 148, 149, 150, 151, 152, 153, 154, 155, 156, 157, 158, 159, 160, 161, 162, 163, 164, 165, 166, 167, 168, 169, 170] (by decide +kernel) (by decide +kernel)
set_option maxRecDepth 20000 in
theorem gX11_program_X11_lays : GoodIn wsX11_program (wsV RX11 93 RX11 yX11_lays wsX11_lays) := goodIn_app (goodIn_of _ (by decide +kernel)) ggX11_program_X11_lays
theorem dX11_program_0 : decode cX11_program 0 = .ok (.iload_n 1, 1) := by decide +kernel
theorem dX11_program_1 : decode cX11_program 1 = .ok (.invokestatic 227, 3) := by decide +kernel
theorem dX11_program_4 : decode cX11_program 4 = .ok (.ifCond .ne 5, 3) := by decide +kernel
theorem dX11_program_7 : decode cX11_program 7 = .ok (.iconst (-1), 1) := by decide +kernel
theorem dX11_program_8 : decode cX11_program 8 = .ok (.ireturn, 1) := by decide +kernel
theorem dX11_program_9 : decode cX11_program 9 = .ok (.aload_n 0, 1) := by decide +kernel
theorem dX11_program_10 : decode cX11_program 10 = .ok (.invokevirtual 230, 3) := by decide +kernel
theorem dX11_program_13 : decode cX11_program 13 = .ok (.ifCond .ne 11, 3) := by decide +kernel
theorem dX11_program_16 : decode cX11_program 16 = .ok (.bipush (-10), 2) := by decide +kernel
theorem dX11_program_18 : decode cX11_program 18 = .ok (.aload_n 0, 1) := by decide +kernel
theorem dX11_program_19 : decode cX11_program 19 = .ok (.getfield 117, 3) := by decide +kernel
theorem dX11_program_22 : decode cX11_program 22 = .ok (.isub, 1) := by decide +kernel
theorem dX11_program_23 : decode cX11_program 23 = .ok (.ireturn, 1) := by decide +kernel
theorem dX11_program_24 : decode cX11_program 24 = .ok (.aload_n 0, 1) := by decide +kernel
theorem dX11_program_25 : decode cX11_program 25 = .ok (.iconst 0, 1) := by decide +kernel
theorem dX11_program_26 : decode cX11_program 26 = .ok (.putfield 105, 3) := by decide +kernel
theorem dX11_program_29 : decode cX11_program 29 = .ok (.aload_n 0, 1) := by decide +kernel
theorem dX11_program_30 : decode cX11_program 30 = .ok (.iload_n 1, 1) := by decide +kernel
theorem dX11_program_31 : decode cX11_program 31 = .ok (.invokevirtual 233, 3) := by decide +kernel
theorem dX11_program_34 : decode cX11_program 34 = .ok (.aload_n 0, 1) := by decide +kernel
theorem dX11_program_35 : decode cX11_program 35 = .ok (.iload_n 1, 1) := by decide +kernel
theorem dX11_program_36 : decode cX11_program 36 = .ok (.invokevirtual 93, 3) := by decide +kernel
theorem dX11_program_39 : decode cX11_program 39 = .ok (.aload_n 0, 1) := by decide +kernel
theorem dX11_program_40 : decode cX11_program 40 = .ok (.getfield 31, 3) := by decide +kernel
theorem dX11_program_43 : decode cX11_program 43 = .ok (.iload_n 1, 1) := by decide +kernel
theorem dX11_program_44 : decode cX11_program 44 = .ok (.iaload, 1) := by decide +kernel
theorem dX11_program_45 : decode cX11_program 45 = .ok (.ireturn, 1) := by decide +kernel
theorem dX11_to_0 : decode cX11_to 0 = .ok (.aload_n 0, 1) := by decide +kernel
theorem dX11_to_1 : decode cX11_to 1 = .ok (.getfield 43, 3) := by decide +kernel
theorem dX11_to_4 : decode cX11_to 4 = .ok (.bipush 68, 2) := by decide +kernel
theorem dX11_to_6 : decode cX11_to 6 = .ok (.iload_n 1, 1) := by decide +kernel
theorem dX11_to_7 : decode cX11_to 7 = .ok (.imul, 1) := by decide +kernel
theorem dX11_to_8 : decode cX11_to 8 = .ok (.iconst 4, 1) := by decide +kernel
theorem dX11_to_9 : decode cX11_to 9 = .ok (.iload_n 2, 1) := by decide +kernel
theorem dX11_to_10 : decode cX11_to 10 = .ok (.imul, 1) := by decide +kernel
theorem dX11_to_11 : decode cX11_to 11 = .ok (.iadd, 1) := by decide +kernel
theorem dX11_to_12 : decode cX11_to 12 = .ok (.iload_n 3, 1) := by decide +kernel
theorem dX11_to_13 : decode cX11_to 13 = .ok (.iadd, 1) := by decide +kernel
theorem dX11_to_14 : decode cX11_to 14 = .ok (.iaload, 1) := by decide +kernel
theorem dX11_to_15 : decode cX11_to 15 = .ok (.ireturn, 1) := by decide +kernel
theorem dX11_actOf_0 : decode cX11_actOf 0 = .ok (.iload_n 2, 1) := by decide +kernel
theorem dX11_actOf_1 : decode cX11_actOf 1 = .ok (.ifCond .le 17, 3) := by decide +kernel
theorem dX11_actOf_4 : decode cX11_actOf 4 = .ok (.aload_n 0, 1) := by decide +kernel
theorem dX11_actOf_5 : decode cX11_actOf 5 = .ok (.getfield 25, 3) := by decide +kernel
theorem dX11_actOf_8 : decode cX11_actOf 8 = .ok (.bipush 17, 2) := by decide +kernel
theorem dX11_actOf_10 : decode cX11_actOf 10 = .ok (.iload_n 1, 1) := by decide +kernel
theorem dX11_actOf_11 : decode cX11_actOf 11 = .ok (.imul, 1) := by decide +kernel
theorem dX11_actOf_12 : decode cX11_actOf 12 = .ok (.iload_n 2, 1) := by decide +kernel
theorem dX11_actOf_13 : decode cX11_actOf 13 = .ok (.iadd, 1) := by decide +kernel
theorem dX11_actOf_14 : decode cX11_actOf 14 = .ok (.iaload, 1) := by decide +kernel
theorem dX11_actOf_15 : decode cX11_actOf 15 = .ok (.goto 4, 3) := by decide +kernel
theorem dX11_actOf_18 : decode cX11_actOf 18 = .ok (.iconst 0, 1) := by decide +kernel
theorem dX11_actOf_19 : decode cX11_actOf 19 = .ok (.ireturn, 1) := by decide +kernel
set_option maxRecDepth 20000 in
theorem ggX11_next_X11_isProgram : GoodIn wsX11_next wsX11_isProgram := goodIn_r _ [5, 6, 7, 8, 4, 9] (by decide +kernel) (by decide +kernel)
set_option maxRecDepth 20000 in
theorem gX11_next_X11_isProgram : GoodIn wsX11_next (va_wsS RX11 227 yX11_isProgram wsX11_isProgram) := goodIn_app (goodIn_of _ (by decide +kernel)) ggX11_next_X11_isProgram
set_option maxRecDepth 20000 in
theorem ggX11_next_X11_in : GoodIn wsX11_next wsX11_in := goodIn_r _ [9] (by decide +kernel) (by decide +kernel)
set_option maxRecDepth 20000 in
theorem gX11_next_X11_in : GoodIn wsX11_next (va_wsS RX11 99 yX11_in wsX11_in) := goodIn_app (goodIn_of _ (by decide +kernel)) ggX11_next_X11_in
set_option maxRecDepth 20000 in
theorem ggX11_next_X11_isAtom : GoodIn wsX11_next wsX11_isAtom := goodIn_r _ [12, 6, 7, 8, 4, 9] (by decide +kernel) (by decide +kernel)
set_option maxRecDepth 20000 in
theorem gX11_next_X11_isAtom : GoodIn wsX11_next (va_wsS RX11 236 yX11_isAtom wsX11_isAtom) := goodIn_app (goodIn_of _ (by decide +kernel)) ggX11_next_X11_isAtom
set_option maxRecDepth 20000 in
theorem ggX11_next_X11_to : GoodIn wsX11_next wsX11_to := goodIn_r _ [16, 17, 23, 24, 25, 26, 27, 28, 29, 30, 31, 32, 33, 34, 35, 36, 37, 38, 39, 40, 41, 42, 43, 44, 45, 46, 47, 48, 49, 50, 51, 52, 53, 54, 55, 56, 57, 58, 59, 60, 61, 62, 63] (by decide +kernel) (by decide +kernel)
set_option maxRecDepth 20000 in
theorem gX11_next_X11_to : GoodIn wsX11_next (wsV RX11 239 RX11 yX11_to wsX11_to) := goodIn_app (goodIn_of _ (by decide +kernel)) ggX11_next_X11_to
set_option maxRecDepth 20000 in
theorem ggX11_next_X11_actOf : GoodIn wsX11_next wsX11_actOf := goodIn_r _ [21, 22, 23, 24, 25, 26, 27, 28, 29, 30, 31, 32, 33, 34, 35, 36, 37, 38, 39, 40, 41, 42, 43, 44, 45, 46, 47, 48, 49, 50, 51, 52, 53, 54, 55, 56, 57, 58, 59, 60, 61, 62, 63] (by decide +kernel) (by decide +kernel)
set_option maxRecDepth 20000 in
theorem gX11_next_X11_actOf : GoodIn wsX11_next (wsV RX11 242 RX11 yX11_actOf wsX11_actOf) := goodIn_app (goodIn_of _ (by decide +kernel)) ggX11_next_X11_actOf
theorem dX11_next_0 : decode cX11_next 0 = .ok (.iload_n 1, 1) := by decide +kernel
theorem dX11_next_1 : decode cX11_next 1 = .ok (.invokestatic 227, 3) := by decide +kernel
theorem dX11_next_4 : decode cX11_next 4 = .ok (.ifCond .eq 37, 3) := by decide +kernel
theorem dX11_next_7 : decode cX11_next 7 = .ok (.iload_n 2, 1) := by decide +kernel
theorem dX11_next_8 : decode cX11_next 8 = .ok (.i2l, 1) := by decide +kernel
theorem dX11_next_9 : decode cX11_next 9 = .ok (.lconst 0, 1) := by decide +kernel
theorem dX11_next_10 : decode cX11_next 10 = .ok (.aload_n 0, 1) := by decide +kernel
theorem dX11_next_11 : decode cX11_next 11 = .ok (.getfield 31, 3) := by decide +kernel
theorem dX11_next_14 : decode cX11_next 14 = .ok (.iload_n 1, 1) := by decide +kernel
theorem dX11_next_15 : decode cX11_next 15 = .ok (.iaload, 1) := by decide +kernel
theorem dX11_next_16 : decode cX11_next 16 = .ok (.i2l, 1) := by decide +kernel
theorem dX11_next_17 : decode cX11_next 17 = .ok (.invokestatic 99, 3) := by decide +kernel
theorem dX11_next_20 : decode cX11_next 20 = .ok (.ifCond .eq 21, 3) := by decide +kernel
theorem dX11_next_23 : decode cX11_next 23 = .ok (.iload_n 3, 1) := by decide +kernel
theorem dX11_next_24 : decode cX11_next 24 = .ok (.invokestatic 236, 3) := by decide +kernel
theorem dX11_next_27 : decode cX11_next 27 = .ok (.ifCond .eq 14, 3) := by decide +kernel
theorem dX11_next_30 : decode cX11_next 30 = .ok (.iload 4, 2) := by decide +kernel
theorem dX11_next_32 : decode cX11_next 32 = .ok (.i2l, 1) := by decide +kernel
theorem dX11_next_33 : decode cX11_next 33 = .ok (.lconst 0, 1) := by decide +kernel
theorem dX11_next_34 : decode cX11_next 34 = .ok (.lconst 1, 1) := by decide +kernel
theorem dX11_next_35 : decode cX11_next 35 = .ok (.invokestatic 99, 3) := by decide +kernel
theorem dX11_next_38 : decode cX11_next 38 = .ok (.ifCond .ne 5, 3) := by decide +kernel
theorem dX11_next_41 : decode cX11_next 41 = .ok (.iconst (-1), 1) := by decide +kernel
theorem dX11_next_42 : decode cX11_next 42 = .ok (.ireturn, 1) := by decide +kernel
theorem dX11_next_43 : decode cX11_next 43 = .ok (.aload_n 0, 1) := by decide +kernel
theorem dX11_next_44 : decode cX11_next 44 = .ok (.iload_n 1, 1) := by decide +kernel
theorem dX11_next_45 : decode cX11_next 45 = .ok (.iload_n 2, 1) := by decide +kernel
theorem dX11_next_46 : decode cX11_next 46 = .ok (.iload_n 3, 1) := by decide +kernel
theorem dX11_next_47 : decode cX11_next 47 = .ok (.invokevirtual 239, 3) := by decide +kernel
theorem dX11_next_50 : decode cX11_next 50 = .ok (.istore 5, 2) := by decide +kernel
theorem dX11_next_52 : decode cX11_next 52 = .ok (.iload 4, 2) := by decide +kernel
theorem dX11_next_54 : decode cX11_next 54 = .ok (.iconst 1, 1) := by decide +kernel
theorem dX11_next_55 : decode cX11_next 55 = .ok (.if_icmp .ne 13, 3) := by decide +kernel
theorem dX11_next_58 : decode cX11_next 58 = .ok (.aload_n 0, 1) := by decide +kernel
theorem dX11_next_59 : decode cX11_next 59 = .ok (.iload_n 1, 1) := by decide +kernel
theorem dX11_next_60 : decode cX11_next 60 = .ok (.iload 5, 2) := by decide +kernel
theorem dX11_next_62 : decode cX11_next 62 = .ok (.invokevirtual 242, 3) := by decide +kernel
theorem dX11_next_65 : decode cX11_next 65 = .ok (.goto 15, 3) := by decide +kernel
theorem dX11_next_68 : decode cX11_next 68 = .ok (.iload 5, 2) := by decide +kernel
theorem dX11_next_70 : decode cX11_next 70 = .ok (.ifCond .ge 8, 3) := by decide +kernel
theorem dX11_next_73 : decode cX11_next 73 = .ok (.bipush (-9), 2) := by decide +kernel
theorem dX11_next_75 : decode cX11_next 75 = .ok (.goto 5, 3) := by decide +kernel
theorem dX11_next_78 : decode cX11_next 78 = .ok (.iload 5, 2) := by decide +kernel
theorem dX11_next_80 : decode cX11_next 80 = .ok (.ireturn, 1) := by decide +kernel
set_option maxRecDepth 20000 in
theorem ggX11_act_X11_isProgram : GoodIn wsX11_act wsX11_isProgram := goodIn_r _ [5, 6, 7, 8, 4, 9] (by decide +kernel) (by decide +kernel)
set_option maxRecDepth 20000 in
theorem gX11_act_X11_isProgram : GoodIn wsX11_act (va_wsS RX11 227 yX11_isProgram wsX11_isProgram) := goodIn_app (goodIn_of _ (by decide +kernel)) ggX11_act_X11_isProgram
set_option maxRecDepth 20000 in
theorem ggX11_act_X11_in : GoodIn wsX11_act wsX11_in := goodIn_r _ [9] (by decide +kernel) (by decide +kernel)
set_option maxRecDepth 20000 in
theorem gX11_act_X11_in : GoodIn wsX11_act (va_wsS RX11 99 yX11_in wsX11_in) := goodIn_app (goodIn_of _ (by decide +kernel)) ggX11_act_X11_in
set_option maxRecDepth 20000 in
theorem ggX11_act_X11_actOf : GoodIn wsX11_act wsX11_actOf := goodIn_r _ [13, 14, 15, 16, 17, 18, 19, 20, 21, 22, 23, 24, 25, 26, 27, 28, 29, 30, 31, 32, 33, 34, 35, 36, 37, 38, 39, 40, 41, 42, 43, 44, 45, 46, 47, 48, 49, 50, 51, 52, 53, 54, 55] (by decide +kernel) (by decide +kernel)
set_option maxRecDepth 20000 in
theorem gX11_act_X11_actOf : GoodIn wsX11_act (wsV RX11 242 RX11 yX11_actOf wsX11_actOf) := goodIn_app (goodIn_of _ (by decide +kernel)) ggX11_act_X11_actOf
theorem dX11_act_0 : decode cX11_act 0 = .ok (.iload_n 1, 1) := by decide +kernel
theorem dX11_act_1 : decode cX11_act 1 = .ok (.invokestatic 227, 3) := by decide +kernel
theorem dX11_act_4 : decode cX11_act 4 = .ok (.ifCond .eq 28, 3) := by decide +kernel
theorem dX11_act_7 : decode cX11_act 7 = .ok (.iload_n 2, 1) := by decide +kernel
theorem dX11_act_8 : decode cX11_act 8 = .ok (.i2l, 1) := by decide +kernel
theorem dX11_act_9 : decode cX11_act 9 = .ok (.lconst 1, 1) := by decide +kernel
theorem dX11_act_10 : decode cX11_act 10 = .ok (.aload_n 0, 1) := by decide +kernel
theorem dX11_act_11 : decode cX11_act 11 = .ok (.getfield 31, 3) := by decide +kernel
theorem dX11_act_14 : decode cX11_act 14 = .ok (.iload_n 1, 1) := by decide +kernel
theorem dX11_act_15 : decode cX11_act 15 = .ok (.iaload, 1) := by decide +kernel
theorem dX11_act_16 : decode cX11_act 16 = .ok (.i2l, 1) := by decide +kernel
theorem dX11_act_17 : decode cX11_act 17 = .ok (.invokestatic 99, 3) := by decide +kernel
theorem dX11_act_20 : decode cX11_act 20 = .ok (.ifCond .eq 12, 3) := by decide +kernel
theorem dX11_act_23 : decode cX11_act 23 = .ok (.aload_n 0, 1) := by decide +kernel
theorem dX11_act_24 : decode cX11_act 24 = .ok (.iload_n 1, 1) := by decide +kernel
theorem dX11_act_25 : decode cX11_act 25 = .ok (.iload_n 2, 1) := by decide +kernel
theorem dX11_act_26 : decode cX11_act 26 = .ok (.invokevirtual 242, 3) := by decide +kernel
theorem dX11_act_29 : decode cX11_act 29 = .ok (.goto 4, 3) := by decide +kernel
theorem dX11_act_32 : decode cX11_act 32 = .ok (.iconst (-1), 1) := by decide +kernel
theorem dX11_act_33 : decode cX11_act 33 = .ok (.ireturn, 1) := by decide +kernel
theorem dX11_meets_0 : decode cX11_meets 0 = .ok (.bipush 18, 2) := by decide +kernel
theorem dX11_meets_2 : decode cX11_meets 2 = .ok (.iload_n 1, 1) := by decide +kernel
theorem dX11_meets_3 : decode cX11_meets 3 = .ok (.iconst 1, 1) := by decide +kernel
theorem dX11_meets_4 : decode cX11_meets 4 = .ok (.iadd, 1) := by decide +kernel
theorem dX11_meets_5 : decode cX11_meets 5 = .ok (.imul, 1) := by decide +kernel
theorem dX11_meets_6 : decode cX11_meets 6 = .ok (.iload_n 2, 1) := by decide +kernel
theorem dX11_meets_7 : decode cX11_meets 7 = .ok (.iadd, 1) := by decide +kernel
theorem dX11_meets_8 : decode cX11_meets 8 = .ok (.iconst 1, 1) := by decide +kernel
theorem dX11_meets_9 : decode cX11_meets 9 = .ok (.iadd, 1) := by decide +kernel
theorem dX11_meets_10 : decode cX11_meets 10 = .ok (.istore 5, 2) := by decide +kernel
theorem dX11_meets_12 : decode cX11_meets 12 = .ok (.iload 5, 2) := by decide +kernel
theorem dX11_meets_14 : decode cX11_meets 14 = .ok (.ifCond .le 88, 3) := by decide +kernel
theorem dX11_meets_17 : decode cX11_meets 17 = .ok (.aload_n 0, 1) := by decide +kernel
theorem dX11_meets_18 : decode cX11_meets 18 = .ok (.getfield 74, 3) := by decide +kernel
theorem dX11_meets_21 : decode cX11_meets 21 = .ok (.iload 5, 2) := by decide +kernel
theorem dX11_meets_23 : decode cX11_meets 23 = .ok (.baload, 1) := by decide +kernel
theorem dX11_meets_24 : decode cX11_meets 24 = .ok (.ifCond .ne 78, 3) := by decide +kernel
theorem dX11_meets_27 : decode cX11_meets 27 = .ok (.aload_n 0, 1) := by decide +kernel
theorem dX11_meets_28 : decode cX11_meets 28 = .ok (.getfield 74, 3) := by decide +kernel
theorem dX11_meets_31 : decode cX11_meets 31 = .ok (.iload 5, 2) := by decide +kernel
theorem dX11_meets_33 : decode cX11_meets 33 = .ok (.iconst 1, 1) := by decide +kernel
theorem dX11_meets_34 : decode cX11_meets 34 = .ok (.bastore, 1) := by decide +kernel
theorem dX11_meets_35 : decode cX11_meets 35 = .ok (.aload_n 0, 1) := by decide +kernel
theorem dX11_meets_36 : decode cX11_meets 36 = .ok (.getfield 62, 3) := by decide +kernel
theorem dX11_meets_39 : decode cX11_meets 39 = .ok (.aload_n 0, 1) := by decide +kernel
theorem dX11_meets_40 : decode cX11_meets 40 = .ok (.getfield 246, 3) := by decide +kernel
theorem dX11_meets_43 : decode cX11_meets 43 = .ok (.iload 5, 2) := by decide +kernel
theorem dX11_meets_45 : decode cX11_meets 45 = .ok (.iastore, 1) := by decide +kernel
theorem dX11_meets_46 : decode cX11_meets 46 = .ok (.aload_n 0, 1) := by decide +kernel
theorem dX11_meets_47 : decode cX11_meets 47 = .ok (.getfield 65, 3) := by decide +kernel
theorem dX11_meets_50 : decode cX11_meets 50 = .ok (.aload_n 0, 1) := by decide +kernel
theorem dX11_meets_51 : decode cX11_meets 51 = .ok (.getfield 246, 3) := by decide +kernel
theorem dX11_meets_54 : decode cX11_meets 54 = .ok (.iload_n 3, 1) := by decide +kernel
theorem dX11_meets_55 : decode cX11_meets 55 = .ok (.iastore, 1) := by decide +kernel
theorem dX11_meets_56 : decode cX11_meets 56 = .ok (.aload_n 0, 1) := by decide +kernel
theorem dX11_meets_57 : decode cX11_meets 57 = .ok (.getfield 68, 3) := by decide +kernel
theorem dX11_meets_60 : decode cX11_meets 60 = .ok (.aload_n 0, 1) := by decide +kernel
theorem dX11_meets_61 : decode cX11_meets 61 = .ok (.getfield 246, 3) := by decide +kernel
theorem dX11_meets_64 : decode cX11_meets 64 = .ok (.iload 4, 2) := by decide +kernel
theorem dX11_meets_66 : decode cX11_meets 66 = .ok (.iastore, 1) := by decide +kernel
theorem dX11_meets_67 : decode cX11_meets 67 = .ok (.aload_n 0, 1) := by decide +kernel
theorem dX11_meets_68 : decode cX11_meets 68 = .ok (.getfield 71, 3) := by decide +kernel
theorem dX11_meets_71 : decode cX11_meets 71 = .ok (.aload_n 0, 1) := by decide +kernel
theorem dX11_meets_72 : decode cX11_meets 72 = .ok (.getfield 246, 3) := by decide +kernel
theorem dX11_meets_75 : decode cX11_meets 75 = .ok (.iload_n 3, 1) := by decide +kernel
theorem dX11_meets_76 : decode cX11_meets 76 = .ok (.ifCond .ge 7, 3) := by decide +kernel
theorem dX11_meets_79 : decode cX11_meets 79 = .ok (.iconst 0, 1) := by decide +kernel
theorem dX11_meets_80 : decode cX11_meets 80 = .ok (.goto 11, 3) := by decide +kernel
theorem dX11_meets_83 : decode cX11_meets 83 = .ok (.aload_n 0, 1) := by decide +kernel
theorem dX11_meets_84 : decode cX11_meets 84 = .ok (.getfield 71, 3) := by decide +kernel
theorem dX11_meets_87 : decode cX11_meets 87 = .ok (.iload_n 3, 1) := by decide +kernel
theorem dX11_meets_88 : decode cX11_meets 88 = .ok (.iaload, 1) := by decide +kernel
theorem dX11_meets_89 : decode cX11_meets 89 = .ok (.iconst 1, 1) := by decide +kernel
theorem dX11_meets_90 : decode cX11_meets 90 = .ok (.iadd, 1) := by decide +kernel
theorem dX11_meets_91 : decode cX11_meets 91 = .ok (.iastore, 1) := by decide +kernel
theorem dX11_meets_92 : decode cX11_meets 92 = .ok (.aload_n 0, 1) := by decide +kernel
theorem dX11_meets_93 : decode cX11_meets 93 = .ok (.dup, 1) := by decide +kernel
theorem dX11_meets_94 : decode cX11_meets 94 = .ok (.getfield 246, 3) := by decide +kernel
theorem dX11_meets_97 : decode cX11_meets 97 = .ok (.iconst 1, 1) := by decide +kernel
theorem dX11_meets_98 : decode cX11_meets 98 = .ok (.iadd, 1) := by decide +kernel
theorem dX11_meets_99 : decode cX11_meets 99 = .ok (.putfield 246, 3) := by decide +kernel
theorem dX11_meets_102 : decode cX11_meets 102 = .ok (.return_, 1) := by decide +kernel
set_option maxRecDepth 20000 in
theorem ggX11_parts_X11_to : GoodIn wsX11_parts wsX11_to := goodIn_r _ [8, 9, 22, 23, 24, 25, 26, 27, 28, 29, 30, 31, 32, 33, 34, 35, 36, 37, 38, 39, 40, 41, 42, 43, 44, 45, 46, 47, 48, 49, 50, 51, 52, 53, 54, 55, 56, 57, 58, 59, 60, 61, 62] (by decide +kernel) (by decide +kernel)
set_option maxRecDepth 20000 in
theorem gX11_parts_X11_to : GoodIn wsX11_parts (wsV RX11 239 RX11 yX11_to wsX11_to) := goodIn_app (goodIn_of _ (by decide +kernel)) ggX11_parts_X11_to
set_option maxRecDepth 20000 in
theorem ggX11_parts_X11_meets : GoodIn wsX11_parts wsX11_meets := goodIn_r _ [13, 1, 3, 2, 14, 15, 16, 22, 23, 24, 25, 26, 27, 28, 29, 30, 31, 32, 33, 34, 35, 36, 37, 38, 39, 40, 41, 42, 43, 44, 45, 46, 47, 48, 49, 50, 51, 52, 53, 54, 55, 56, 57, 58, 59, 60, 61, 62] (by decide +kernel) (by decide +kernel)
set_option maxRecDepth 20000 in
theorem gX11_parts_X11_meets : GoodIn wsX11_parts (wsV RX11 249 RX11 yX11_meets wsX11_meets) := goodIn_app (goodIn_of _ (by decide +kernel)) ggX11_parts_X11_meets
set_option maxRecDepth 20000 in
theorem ggX11_parts_X11_actOf : GoodIn wsX11_parts wsX11_actOf := goodIn_r _ [20, 21, 22, 23, 24, 25, 26, 27, 28, 29, 30, 31, 32, 33, 34, 35, 36, 37, 38, 39, 40, 41, 42, 43, 44, 45, 46, 47, 48, 49, 50, 51, 52, 53, 54, 55, 56, 57, 58, 59, 60, 61, 62] (by decide +kernel) (by decide +kernel)
set_option maxRecDepth 20000 in
theorem gX11_parts_X11_actOf : GoodIn wsX11_parts (wsV RX11 242 RX11 yX11_actOf wsX11_actOf) := goodIn_app (goodIn_of _ (by decide +kernel)) ggX11_parts_X11_actOf
theorem dX11_parts_0 : decode cX11_parts 0 = .ok (.iconst 0, 1) := by decide +kernel
theorem dX11_parts_1 : decode cX11_parts 1 = .ok (.istore 4, 2) := by decide +kernel
theorem dX11_parts_3 : decode cX11_parts 3 = .ok (.iload 4, 2) := by decide +kernel
theorem dX11_parts_5 : decode cX11_parts 5 = .ok (.sipush 324, 3) := by decide +kernel
theorem dX11_parts_8 : decode cX11_parts 8 = .ok (.if_icmp .ge 17, 3) := by decide +kernel
theorem dX11_parts_11 : decode cX11_parts 11 = .ok (.aload_n 0, 1) := by decide +kernel
theorem dX11_parts_12 : decode cX11_parts 12 = .ok (.getfield 74, 3) := by decide +kernel
theorem dX11_parts_15 : decode cX11_parts 15 = .ok (.iload 4, 2) := by decide +kernel
theorem dX11_parts_17 : decode cX11_parts 17 = .ok (.iconst 0, 1) := by decide +kernel
theorem dX11_parts_18 : decode cX11_parts 18 = .ok (.bastore, 1) := by decide +kernel
theorem dX11_parts_19 : decode cX11_parts 19 = .ok (.iinc 4 1, 3) := by decide +kernel
theorem dX11_parts_22 : decode cX11_parts 22 = .ok (.goto (-19), 3) := by decide +kernel
theorem dX11_parts_25 : decode cX11_parts 25 = .ok (.aload_n 0, 1) := by decide +kernel
theorem dX11_parts_26 : decode cX11_parts 26 = .ok (.iconst 0, 1) := by decide +kernel
theorem dX11_parts_27 : decode cX11_parts 27 = .ok (.putfield 246, 3) := by decide +kernel
theorem dX11_parts_30 : decode cX11_parts 30 = .ok (.iconst 0, 1) := by decide +kernel
theorem dX11_parts_31 : decode cX11_parts 31 = .ok (.istore 4, 2) := by decide +kernel
theorem dX11_parts_33 : decode cX11_parts 33 = .ok (.iload 4, 2) := by decide +kernel
theorem dX11_parts_35 : decode cX11_parts 35 = .ok (.iconst 4, 1) := by decide +kernel
theorem dX11_parts_36 : decode cX11_parts 36 = .ok (.if_icmp .ge 32, 3) := by decide +kernel
theorem dX11_parts_39 : decode cX11_parts 39 = .ok (.aload_n 0, 1) := by decide +kernel
theorem dX11_parts_40 : decode cX11_parts 40 = .ok (.aload_n 0, 1) := by decide +kernel
theorem dX11_parts_41 : decode cX11_parts 41 = .ok (.iload_n 1, 1) := by decide +kernel
theorem dX11_parts_42 : decode cX11_parts 42 = .ok (.iconst 0, 1) := by decide +kernel
theorem dX11_parts_43 : decode cX11_parts 43 = .ok (.iload 4, 2) := by decide +kernel
theorem dX11_parts_45 : decode cX11_parts 45 = .ok (.invokevirtual 239, 3) := by decide +kernel
theorem dX11_parts_48 : decode cX11_parts 48 = .ok (.aload_n 0, 1) := by decide +kernel
theorem dX11_parts_49 : decode cX11_parts 49 = .ok (.iload_n 2, 1) := by decide +kernel
theorem dX11_parts_50 : decode cX11_parts 50 = .ok (.iconst 0, 1) := by decide +kernel
theorem dX11_parts_51 : decode cX11_parts 51 = .ok (.iload 4, 2) := by decide +kernel
theorem dX11_parts_53 : decode cX11_parts 53 = .ok (.invokevirtual 239, 3) := by decide +kernel
theorem dX11_parts_56 : decode cX11_parts 56 = .ok (.iconst (-1), 1) := by decide +kernel
theorem dX11_parts_57 : decode cX11_parts 57 = .ok (.iload 4, 2) := by decide +kernel
theorem dX11_parts_59 : decode cX11_parts 59 = .ok (.invokevirtual 249, 3) := by decide +kernel
theorem dX11_parts_62 : decode cX11_parts 62 = .ok (.iinc 4 1, 3) := by decide +kernel
theorem dX11_parts_65 : decode cX11_parts 65 = .ok (.goto (-32), 3) := by decide +kernel
theorem dX11_parts_68 : decode cX11_parts 68 = .ok (.iconst 0, 1) := by decide +kernel
theorem dX11_parts_69 : decode cX11_parts 69 = .ok (.istore 4, 2) := by decide +kernel
theorem dX11_parts_71 : decode cX11_parts 71 = .ok (.iload 4, 2) := by decide +kernel
theorem dX11_parts_73 : decode cX11_parts 73 = .ok (.aload_n 0, 1) := by decide +kernel
theorem dX11_parts_74 : decode cX11_parts 74 = .ok (.getfield 246, 3) := by decide +kernel
theorem dX11_parts_77 : decode cX11_parts 77 = .ok (.if_icmp .ge 203, 3) := by decide +kernel
theorem dX11_parts_80 : decode cX11_parts 80 = .ok (.aload_n 0, 1) := by decide +kernel
theorem dX11_parts_81 : decode cX11_parts 81 = .ok (.getfield 62, 3) := by decide +kernel
theorem dX11_parts_84 : decode cX11_parts 84 = .ok (.iload 4, 2) := by decide +kernel
theorem dX11_parts_86 : decode cX11_parts 86 = .ok (.iaload, 1) := by decide +kernel
theorem dX11_parts_87 : decode cX11_parts 87 = .ok (.bipush 18, 2) := by decide +kernel
theorem dX11_parts_89 : decode cX11_parts 89 = .ok (.idiv, 1) := by decide +kernel
theorem dX11_parts_90 : decode cX11_parts 90 = .ok (.iconst 1, 1) := by decide +kernel
theorem dX11_parts_91 : decode cX11_parts 91 = .ok (.isub, 1) := by decide +kernel
theorem dX11_parts_92 : decode cX11_parts 92 = .ok (.istore 5, 2) := by decide +kernel
theorem dX11_parts_94 : decode cX11_parts 94 = .ok (.aload_n 0, 1) := by decide +kernel
theorem dX11_parts_95 : decode cX11_parts 95 = .ok (.getfield 62, 3) := by decide +kernel
theorem dX11_parts_98 : decode cX11_parts 98 = .ok (.iload 4, 2) := by decide +kernel
theorem dX11_parts_100 : decode cX11_parts 100 = .ok (.iaload, 1) := by decide +kernel
theorem dX11_parts_101 : decode cX11_parts 101 = .ok (.bipush 18, 2) := by decide +kernel
theorem dX11_parts_103 : decode cX11_parts 103 = .ok (.irem, 1) := by decide +kernel
theorem dX11_parts_104 : decode cX11_parts 104 = .ok (.iconst 1, 1) := by decide +kernel
theorem dX11_parts_105 : decode cX11_parts 105 = .ok (.isub, 1) := by decide +kernel
theorem dX11_parts_106 : decode cX11_parts 106 = .ok (.istore 6, 2) := by decide +kernel
theorem dX11_parts_108 : decode cX11_parts 108 = .ok (.iload 5, 2) := by decide +kernel
theorem dX11_parts_110 : decode cX11_parts 110 = .ok (.ifCond .ne 8, 3) := by decide +kernel
theorem dX11_parts_113 : decode cX11_parts 113 = .ok (.iload 6, 2) := by decide +kernel
theorem dX11_parts_115 : decode cX11_parts 115 = .ok (.ifCond .ne 17, 3) := by decide +kernel
theorem dX11_parts_118 : decode cX11_parts 118 = .ok (.iload_n 3, 1) := by decide +kernel
theorem dX11_parts_119 : decode cX11_parts 119 = .ok (.ifCond .ne 16, 3) := by decide +kernel
theorem dX11_parts_122 : decode cX11_parts 122 = .ok (.iload 6, 2) := by decide +kernel
theorem dX11_parts_124 : decode cX11_parts 124 = .ok (.ifCond .ne 11, 3) := by decide +kernel
theorem dX11_parts_127 : decode cX11_parts 127 = .ok (.iload 5, 2) := by decide +kernel
theorem dX11_parts_129 : decode cX11_parts 129 = .ok (.ifCond .eq 6, 3) := by decide +kernel
theorem dX11_parts_132 : decode cX11_parts 132 = .ok (.iload 4, 2) := by decide +kernel
theorem dX11_parts_134 : decode cX11_parts 134 = .ok (.ireturn, 1) := by decide +kernel
theorem dX11_parts_135 : decode cX11_parts 135 = .ok (.iconst 1, 1) := by decide +kernel
theorem dX11_parts_136 : decode cX11_parts 136 = .ok (.istore 7, 2) := by decide +kernel
theorem dX11_parts_138 : decode cX11_parts 138 = .ok (.iload 7, 2) := by decide +kernel
theorem dX11_parts_140 : decode cX11_parts 140 = .ok (.iconst 4, 1) := by decide +kernel
theorem dX11_parts_141 : decode cX11_parts 141 = .ok (.if_icmp .ge 133, 3) := by decide +kernel
theorem dX11_parts_144 : decode cX11_parts 144 = .ok (.iload 5, 2) := by decide +kernel
theorem dX11_parts_146 : decode cX11_parts 146 = .ok (.ifCond .le 19, 3) := by decide +kernel
theorem dX11_parts_149 : decode cX11_parts 149 = .ok (.aload_n 0, 1) := by decide +kernel
theorem dX11_parts_150 : decode cX11_parts 150 = .ok (.iload_n 1, 1) := by decide +kernel
theorem dX11_parts_151 : decode cX11_parts 151 = .ok (.iload 5, 2) := by decide +kernel
theorem dX11_parts_153 : decode cX11_parts 153 = .ok (.invokevirtual 242, 3) := by decide +kernel
theorem dX11_parts_156 : decode cX11_parts 156 = .ok (.iload 7, 2) := by decide +kernel
theorem dX11_parts_158 : decode cX11_parts 158 = .ok (.if_icmp .ne 7, 3) := by decide +kernel
theorem dX11_parts_161 : decode cX11_parts 161 = .ok (.iconst 1, 1) := by decide +kernel
theorem dX11_parts_162 : decode cX11_parts 162 = .ok (.goto 4, 3) := by decide +kernel
theorem dX11_parts_165 : decode cX11_parts 165 = .ok (.iconst 0, 1) := by decide +kernel
theorem dX11_parts_166 : decode cX11_parts 166 = .ok (.istore 8, 2) := by decide +kernel
theorem dX11_parts_168 : decode cX11_parts 168 = .ok (.iload 6, 2) := by decide +kernel
theorem dX11_parts_170 : decode cX11_parts 170 = .ok (.ifCond .le 19, 3) := by decide +kernel
theorem dX11_parts_173 : decode cX11_parts 173 = .ok (.aload_n 0, 1) := by decide +kernel
theorem dX11_parts_174 : decode cX11_parts 174 = .ok (.iload_n 2, 1) := by decide +kernel
theorem dX11_parts_175 : decode cX11_parts 175 = .ok (.iload 6, 2) := by decide +kernel
theorem dX11_parts_177 : decode cX11_parts 177 = .ok (.invokevirtual 242, 3) := by decide +kernel
theorem dX11_parts_180 : decode cX11_parts 180 = .ok (.iload 7, 2) := by decide +kernel
theorem dX11_parts_182 : decode cX11_parts 182 = .ok (.if_icmp .ne 7, 3) := by decide +kernel
theorem dX11_parts_185 : decode cX11_parts 185 = .ok (.iconst 1, 1) := by decide +kernel
theorem dX11_parts_186 : decode cX11_parts 186 = .ok (.goto 4, 3) := by decide +kernel
theorem dX11_parts_189 : decode cX11_parts 189 = .ok (.iconst 0, 1) := by decide +kernel
theorem dX11_parts_190 : decode cX11_parts 190 = .ok (.istore 9, 2) := by decide +kernel
theorem dX11_parts_192 : decode cX11_parts 192 = .ok (.iconst 0, 1) := by decide +kernel
theorem dX11_parts_193 : decode cX11_parts 193 = .ok (.istore 10, 2) := by decide +kernel
theorem dX11_parts_195 : decode cX11_parts 195 = .ok (.iload 10, 2) := by decide +kernel
theorem dX11_parts_197 : decode cX11_parts 197 = .ok (.iconst 4, 1) := by decide +kernel
theorem dX11_parts_198 : decode cX11_parts 198 = .ok (.if_icmp .ge 70, 3) := by decide +kernel
theorem dX11_parts_201 : decode cX11_parts 201 = .ok (.iload 8, 2) := by decide +kernel
