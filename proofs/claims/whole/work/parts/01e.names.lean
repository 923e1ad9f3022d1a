theorem dX11_parts_203 : decode cX11_parts 203 = .ok (.ifCond .ne 8, 3) := by decide +kernel
theorem dX11_parts_206 : decode cX11_parts 206 = .ok (.iload 9, 2) := by decide +kernel
theorem dX11_parts_208 : decode cX11_parts 208 = .ok (.ifCond .eq 60, 3) := by decide +kernel
theorem dX11_parts_211 : decode cX11_parts 211 = .ok (.aload_n 0, 1) := by decide +kernel
theorem dX11_parts_212 : decode cX11_parts 212 = .ok (.iload 8, 2) := by decide +kernel
theorem dX11_parts_214 : decode cX11_parts 214 = .ok (.ifCond .eq 15, 3) := by decide +kernel
theorem dX11_parts_217 : decode cX11_parts 217 = .ok (.aload_n 0, 1) := by decide +kernel
theorem dX11_parts_218 : decode cX11_parts 218 = .ok (.iload_n 1, 1) := by decide +kernel
theorem dX11_parts_219 : decode cX11_parts 219 = .ok (.iload 5, 2) := by decide +kernel
theorem dX11_parts_221 : decode cX11_parts 221 = .ok (.iload 10, 2) := by decide +kernel
theorem dX11_parts_223 : decode cX11_parts 223 = .ok (.invokevirtual 239, 3) := by decide +kernel
theorem dX11_parts_226 : decode cX11_parts 226 = .ok (.goto 4, 3) := by decide +kernel
theorem dX11_parts_229 : decode cX11_parts 229 = .ok (.iconst (-1), 1) := by decide +kernel
theorem dX11_parts_230 : decode cX11_parts 230 = .ok (.iload 9, 2) := by decide +kernel
theorem dX11_parts_232 : decode cX11_parts 232 = .ok (.ifCond .eq 15, 3) := by decide +kernel
theorem dX11_parts_235 : decode cX11_parts 235 = .ok (.aload_n 0, 1) := by decide +kernel
theorem dX11_parts_236 : decode cX11_parts 236 = .ok (.iload_n 2, 1) := by decide +kernel
theorem dX11_parts_237 : decode cX11_parts 237 = .ok (.iload 6, 2) := by decide +kernel
theorem dX11_parts_239 : decode cX11_parts 239 = .ok (.iload 10, 2) := by decide +kernel
theorem dX11_parts_241 : decode cX11_parts 241 = .ok (.invokevirtual 239, 3) := by decide +kernel
theorem dX11_parts_244 : decode cX11_parts 244 = .ok (.goto 4, 3) := by decide +kernel
theorem dX11_parts_247 : decode cX11_parts 247 = .ok (.iconst (-1), 1) := by decide +kernel
theorem dX11_parts_248 : decode cX11_parts 248 = .ok (.iload 4, 2) := by decide +kernel
theorem dX11_parts_250 : decode cX11_parts 250 = .ok (.iconst 4, 1) := by decide +kernel
theorem dX11_parts_251 : decode cX11_parts 251 = .ok (.iload 7, 2) := by decide +kernel
theorem dX11_parts_253 : decode cX11_parts 253 = .ok (.imul, 1) := by decide +kernel
theorem dX11_parts_254 : decode cX11_parts 254 = .ok (.iconst 4, 1) := by decide +kernel
theorem dX11_parts_255 : decode cX11_parts 255 = .ok (.isub, 1) := by decide +kernel
theorem dX11_parts_256 : decode cX11_parts 256 = .ok (.iload 10, 2) := by decide +kernel
theorem dX11_parts_258 : decode cX11_parts 258 = .ok (.iadd, 1) := by decide +kernel
theorem dX11_parts_259 : decode cX11_parts 259 = .ok (.invokevirtual 249, 3) := by decide +kernel
theorem dX11_parts_262 : decode cX11_parts 262 = .ok (.iinc 10 1, 3) := by decide +kernel
theorem dX11_parts_265 : decode cX11_parts 265 = .ok (.goto (-70), 3) := by decide +kernel
theorem dX11_parts_268 : decode cX11_parts 268 = .ok (.iinc 7 1, 3) := by decide +kernel
theorem dX11_parts_271 : decode cX11_parts 271 = .ok (.goto (-133), 3) := by decide +kernel
theorem dX11_parts_274 : decode cX11_parts 274 = .ok (.iinc 4 1, 3) := by decide +kernel
theorem dX11_parts_277 : decode cX11_parts 277 = .ok (.goto (-206), 3) := by decide +kernel
theorem dX11_parts_280 : decode cX11_parts 280 = .ok (.iconst (-1), 1) := by decide +kernel
theorem dX11_parts_281 : decode cX11_parts 281 = .ok (.ireturn, 1) := by decide +kernel
set_option maxRecDepth 20000 in
theorem ggX11_arePrograms_X11_isProgram : GoodIn wsX11_arePrograms wsX11_isProgram := goodIn_r _ [4, 5, 6, 7, 3, 8] (by decide +kernel) (by decide +kernel)
set_option maxRecDepth 20000 in
theorem gX11_arePrograms_X11_isProgram : GoodIn wsX11_arePrograms (va_wsS RX11 227 yX11_isProgram wsX11_isProgram) := goodIn_app (goodIn_of _ (by decide +kernel)) ggX11_arePrograms_X11_isProgram
theorem dX11_arePrograms_0 : decode cX11_arePrograms 0 = .ok (.iload_n 0, 1) := by decide +kernel
theorem dX11_arePrograms_1 : decode cX11_arePrograms 1 = .ok (.invokestatic 227, 3) := by decide +kernel
theorem dX11_arePrograms_4 : decode cX11_arePrograms 4 = .ok (.ifCond .eq 14, 3) := by decide +kernel
theorem dX11_arePrograms_7 : decode cX11_arePrograms 7 = .ok (.iload_n 1, 1) := by decide +kernel
theorem dX11_arePrograms_8 : decode cX11_arePrograms 8 = .ok (.invokestatic 227, 3) := by decide +kernel
theorem dX11_arePrograms_11 : decode cX11_arePrograms 11 = .ok (.ifCond .eq 7, 3) := by decide +kernel
theorem dX11_arePrograms_14 : decode cX11_arePrograms 14 = .ok (.iconst 1, 1) := by decide +kernel
theorem dX11_arePrograms_15 : decode cX11_arePrograms 15 = .ok (.goto 4, 3) := by decide +kernel
theorem dX11_arePrograms_18 : decode cX11_arePrograms 18 = .ok (.iconst 0, 1) := by decide +kernel
theorem dX11_arePrograms_19 : decode cX11_arePrograms 19 = .ok (.ireturn, 1) := by decide +kernel
set_option maxRecDepth 20000 in
theorem ggX11_alike_X11_arePrograms : GoodIn wsX11_alike wsX11_arePrograms := goodIn_r _ [4, 5, 6, 3, 7, 8, 9, 10, 11] (by decide +kernel) (by decide +kernel)
set_option maxRecDepth 20000 in
theorem gX11_alike_X11_arePrograms : GoodIn wsX11_alike (va_wsS RX11 253 yX11_arePrograms wsX11_arePrograms) := goodIn_app (goodIn_of _ (by decide +kernel)) ggX11_alike_X11_arePrograms
set_option maxRecDepth 20000 in
theorem ggX11_alike_X11_parts : GoodIn wsX11_alike wsX11_parts := goodIn_r _ [15, 16, 17, 18, 19, 20, 21, 3, 22, 23, 24, 25, 26, 27, 28, 29, 30, 31, 32, 33, 34, 35, 36, 37, 38, 39, 40, 41, 42, 43, 44, 45, 46, 47, 48, 49, 50, 51, 52, 53, 54, 55, 56, 57, 58, 59, 60, 61, 62, 63, 64, 65, 66, 67, 68, 69, 70, 71, 72, 73, 74, 75, 76] (by decide +kernel) (by decide +kernel)
set_option maxRecDepth 20000 in
theorem gX11_alike_X11_parts : GoodIn wsX11_alike (wsV RX11 257 RX11 yX11_parts wsX11_parts) := goodIn_app (goodIn_of _ (by decide +kernel)) ggX11_alike_X11_parts
theorem dX11_alike_0 : decode cX11_alike 0 = .ok (.iload_n 1, 1) := by decide +kernel
theorem dX11_alike_1 : decode cX11_alike 1 = .ok (.iload_n 2, 1) := by decide +kernel
theorem dX11_alike_2 : decode cX11_alike 2 = .ok (.invokestatic 253, 3) := by decide +kernel
theorem dX11_alike_5 : decode cX11_alike 5 = .ok (.ifCond .ne 7, 3) := by decide +kernel
theorem dX11_alike_8 : decode cX11_alike 8 = .ok (.iconst (-1), 1) := by decide +kernel
theorem dX11_alike_9 : decode cX11_alike 9 = .ok (.goto 18, 3) := by decide +kernel
theorem dX11_alike_12 : decode cX11_alike 12 = .ok (.aload_n 0, 1) := by decide +kernel
theorem dX11_alike_13 : decode cX11_alike 13 = .ok (.iload_n 1, 1) := by decide +kernel
theorem dX11_alike_14 : decode cX11_alike 14 = .ok (.iload_n 2, 1) := by decide +kernel
theorem dX11_alike_15 : decode cX11_alike 15 = .ok (.iconst 0, 1) := by decide +kernel
theorem dX11_alike_16 : decode cX11_alike 16 = .ok (.invokevirtual 257, 3) := by decide +kernel
theorem dX11_alike_19 : decode cX11_alike 19 = .ok (.ifCond .ge 7, 3) := by decide +kernel
theorem dX11_alike_22 : decode cX11_alike 22 = .ok (.iconst 1, 1) := by decide +kernel
theorem dX11_alike_23 : decode cX11_alike 23 = .ok (.goto 4, 3) := by decide +kernel
theorem dX11_alike_26 : decode cX11_alike 26 = .ok (.iconst 0, 1) := by decide +kernel
theorem dX11_alike_27 : decode cX11_alike 27 = .ok (.ireturn, 1) := by decide +kernel
set_option maxRecDepth 20000 in
theorem ggX11_apart_X11_arePrograms : GoodIn wsX11_apart wsX11_arePrograms := goodIn_r _ [11, 12, 13, 10, 14, 15, 16, 17, 18] (by decide +kernel) (by decide +kernel)
set_option maxRecDepth 20000 in
theorem gX11_apart_X11_arePrograms : GoodIn wsX11_apart (va_wsS RX11 253 yX11_arePrograms wsX11_arePrograms) := goodIn_app (goodIn_of _ (by decide +kernel)) ggX11_apart_X11_arePrograms
set_option maxRecDepth 20000 in
theorem ggX11_apart_X11_parts : GoodIn wsX11_apart wsX11_parts := goodIn_r _ [22, 23, 24, 25, 26, 27, 28, 10, 29, 30, 31, 32, 33, 34, 7, 5, 2, 35, 36, 37, 38, 39, 40, 41, 42, 43, 44, 45, 46, 47, 48, 49, 50, 51, 52, 53, 54, 55, 56, 57, 58, 59, 60, 61, 62, 63, 64, 65, 66, 67, 68, 69, 70, 71, 72, 73, 74, 75, 76, 77, 78, 79, 80] (by decide +kernel) (by decide +kernel)
set_option maxRecDepth 20000 in
theorem gX11_apart_X11_parts : GoodIn wsX11_apart (wsV RX11 257 RX11 yX11_parts wsX11_parts) := goodIn_app (goodIn_of _ (by decide +kernel)) ggX11_apart_X11_parts
theorem dX11_apart_0 : decode cX11_apart 0 = .ok (.iload_n 1, 1) := by decide +kernel
theorem dX11_apart_1 : decode cX11_apart 1 = .ok (.iload_n 2, 1) := by decide +kernel
theorem dX11_apart_2 : decode cX11_apart 2 = .ok (.invokestatic 253, 3) := by decide +kernel
theorem dX11_apart_5 : decode cX11_apart 5 = .ok (.ifCond .ne 7, 3) := by decide +kernel
theorem dX11_apart_8 : decode cX11_apart 8 = .ok (.ldc2_w 261, 3) := by decide +kernel
theorem dX11_apart_11 : decode cX11_apart 11 = .ok (.lreturn, 1) := by decide +kernel
theorem dX11_apart_12 : decode cX11_apart 12 = .ok (.aload_n 0, 1) := by decide +kernel
theorem dX11_apart_13 : decode cX11_apart 13 = .ok (.iload_n 1, 1) := by decide +kernel
theorem dX11_apart_14 : decode cX11_apart 14 = .ok (.iload_n 2, 1) := by decide +kernel
theorem dX11_apart_15 : decode cX11_apart 15 = .ok (.iconst 0, 1) := by decide +kernel
theorem dX11_apart_16 : decode cX11_apart 16 = .ok (.invokevirtual 257, 3) := by decide +kernel
theorem dX11_apart_19 : decode cX11_apart 19 = .ok (.istore_n 3, 1) := by decide +kernel
theorem dX11_apart_20 : decode cX11_apart 20 = .ok (.iload_n 3, 1) := by decide +kernel
theorem dX11_apart_21 : decode cX11_apart 21 = .ok (.ifCond .lt 14, 3) := by decide +kernel
theorem dX11_apart_24 : decode cX11_apart 24 = .ok (.aload_n 0, 1) := by decide +kernel
theorem dX11_apart_25 : decode cX11_apart 25 = .ok (.getfield 71, 3) := by decide +kernel
theorem dX11_apart_28 : decode cX11_apart 28 = .ok (.iload_n 3, 1) := by decide +kernel
theorem dX11_apart_29 : decode cX11_apart 29 = .ok (.iaload, 1) := by decide +kernel
theorem dX11_apart_30 : decode cX11_apart 30 = .ok (.bipush 16, 2) := by decide +kernel
theorem dX11_apart_32 : decode cX11_apart 32 = .ok (.if_icmp .le 17, 3) := by decide +kernel
theorem dX11_apart_35 : decode cX11_apart 35 = .ok (.iload_n 3, 1) := by decide +kernel
theorem dX11_apart_36 : decode cX11_apart 36 = .ok (.ifCond .ge 9, 3) := by decide +kernel
theorem dX11_apart_39 : decode cX11_apart 39 = .ok (.ldc2_w 263, 3) := by decide +kernel
theorem dX11_apart_42 : decode cX11_apart 42 = .ok (.goto 6, 3) := by decide +kernel
theorem dX11_apart_45 : decode cX11_apart 45 = .ok (.ldc2_w 265, 3) := by decide +kernel
theorem dX11_apart_48 : decode cX11_apart 48 = .ok (.lreturn, 1) := by decide +kernel
theorem dX11_apart_49 : decode cX11_apart 49 = .ok (.lconst 0, 1) := by decide +kernel
theorem dX11_apart_50 : decode cX11_apart 50 = .ok (.lstore 4, 2) := by decide +kernel
theorem dX11_apart_52 : decode cX11_apart 52 = .ok (.lconst 1, 1) := by decide +kernel
theorem dX11_apart_53 : decode cX11_apart 53 = .ok (.lstore 6, 2) := by decide +kernel
theorem dX11_apart_55 : decode cX11_apart 55 = .ok (.iload_n 3, 1) := by decide +kernel
theorem dX11_apart_56 : decode cX11_apart 56 = .ok (.istore 8, 2) := by decide +kernel
theorem dX11_apart_58 : decode cX11_apart 58 = .ok (.iload 8, 2) := by decide +kernel
theorem dX11_apart_60 : decode cX11_apart 60 = .ok (.ifCond .lt 39, 3) := by decide +kernel
theorem dX11_apart_63 : decode cX11_apart 63 = .ok (.lload 4, 2) := by decide +kernel
theorem dX11_apart_65 : decode cX11_apart 65 = .ok (.lload 6, 2) := by decide +kernel
theorem dX11_apart_67 : decode cX11_apart 67 = .ok (.aload_n 0, 1) := by decide +kernel
theorem dX11_apart_68 : decode cX11_apart 68 = .ok (.getfield 68, 3) := by decide +kernel
theorem dX11_apart_71 : decode cX11_apart 71 = .ok (.iload 8, 2) := by decide +kernel
theorem dX11_apart_73 : decode cX11_apart 73 = .ok (.iaload, 1) := by decide +kernel
theorem dX11_apart_74 : decode cX11_apart 74 = .ok (.i2l, 1) := by decide +kernel
theorem dX11_apart_75 : decode cX11_apart 75 = .ok (.lmul, 1) := by decide +kernel
theorem dX11_apart_76 : decode cX11_apart 76 = .ok (.ladd, 1) := by decide +kernel
theorem dX11_apart_77 : decode cX11_apart 77 = .ok (.lstore 4, 2) := by decide +kernel
theorem dX11_apart_79 : decode cX11_apart 79 = .ok (.lload 6, 2) := by decide +kernel
theorem dX11_apart_81 : decode cX11_apart 81 = .ok (.ldc2_w 267, 3) := by decide +kernel
theorem dX11_apart_84 : decode cX11_apart 84 = .ok (.lmul, 1) := by decide +kernel
theorem dX11_apart_85 : decode cX11_apart 85 = .ok (.lstore 6, 2) := by decide +kernel
theorem dX11_apart_87 : decode cX11_apart 87 = .ok (.aload_n 0, 1) := by decide +kernel
theorem dX11_apart_88 : decode cX11_apart 88 = .ok (.getfield 65, 3) := by decide +kernel
theorem dX11_apart_91 : decode cX11_apart 91 = .ok (.iload 8, 2) := by decide +kernel
theorem dX11_apart_93 : decode cX11_apart 93 = .ok (.iaload, 1) := by decide +kernel
theorem dX11_apart_94 : decode cX11_apart 94 = .ok (.istore 8, 2) := by decide +kernel
theorem dX11_apart_96 : decode cX11_apart 96 = .ok (.goto (-38), 3) := by decide +kernel
theorem dX11_apart_99 : decode cX11_apart 99 = .ok (.lload 4, 2) := by decide +kernel
theorem dX11_apart_101 : decode cX11_apart 101 = .ok (.lreturn, 1) := by decide +kernel
set_option maxRecDepth 20000 in
theorem ggX11_far_X11_arePrograms : GoodIn wsX11_far wsX11_arePrograms := goodIn_r _ [5, 6, 7, 4, 8, 9, 10, 11, 12] (by decide +kernel) (by decide +kernel)
set_option maxRecDepth 20000 in
theorem gX11_far_X11_arePrograms : GoodIn wsX11_far (va_wsS RX11 253 yX11_arePrograms wsX11_arePrograms) := goodIn_app (goodIn_of _ (by decide +kernel)) ggX11_far_X11_arePrograms
set_option maxRecDepth 20000 in
theorem ggX11_far_X11_parts : GoodIn wsX11_far wsX11_parts := goodIn_r _ [16, 17, 18, 19, 20, 21, 22, 4, 23, 24, 25, 26, 27, 28, 29, 30, 1, 31, 32, 33, 34, 35, 36, 37, 38, 39, 40, 41, 42, 43, 44, 45, 46, 47, 48, 49, 50, 51, 52, 53, 54, 55, 56, 57, 58, 59, 60, 61, 62, 63, 64, 65, 66, 67, 68, 69, 70, 71, 72, 73, 74, 75, 76] (by decide +kernel) (by decide +kernel)
set_option maxRecDepth 20000 in
theorem gX11_far_X11_parts : GoodIn wsX11_far (wsV RX11 257 RX11 yX11_parts wsX11_parts) := goodIn_app (goodIn_of _ (by decide +kernel)) ggX11_far_X11_parts
theorem dX11_far_0 : decode cX11_far 0 = .ok (.iload_n 1, 1) := by decide +kernel
theorem dX11_far_1 : decode cX11_far 1 = .ok (.iload_n 2, 1) := by decide +kernel
theorem dX11_far_2 : decode cX11_far 2 = .ok (.invokestatic 253, 3) := by decide +kernel
theorem dX11_far_5 : decode cX11_far 5 = .ok (.ifCond .ne 5, 3) := by decide +kernel
theorem dX11_far_8 : decode cX11_far 8 = .ok (.iconst (-1), 1) := by decide +kernel
theorem dX11_far_9 : decode cX11_far 9 = .ok (.ireturn, 1) := by decide +kernel
theorem dX11_far_10 : decode cX11_far 10 = .ok (.aload_n 0, 1) := by decide +kernel
theorem dX11_far_11 : decode cX11_far 11 = .ok (.iload_n 1, 1) := by decide +kernel
theorem dX11_far_12 : decode cX11_far 12 = .ok (.iload_n 2, 1) := by decide +kernel
theorem dX11_far_13 : decode cX11_far 13 = .ok (.iconst 0, 1) := by decide +kernel
theorem dX11_far_14 : decode cX11_far 14 = .ok (.invokevirtual 257, 3) := by decide +kernel
theorem dX11_far_17 : decode cX11_far 17 = .ok (.istore_n 3, 1) := by decide +kernel
theorem dX11_far_18 : decode cX11_far 18 = .ok (.iload_n 3, 1) := by decide +kernel
theorem dX11_far_19 : decode cX11_far 19 = .ok (.ifCond .ge 8, 3) := by decide +kernel
theorem dX11_far_22 : decode cX11_far 22 = .ok (.bipush (-9), 2) := by decide +kernel
theorem dX11_far_24 : decode cX11_far 24 = .ok (.goto 9, 3) := by decide +kernel
theorem dX11_far_27 : decode cX11_far 27 = .ok (.aload_n 0, 1) := by decide +kernel
theorem dX11_far_28 : decode cX11_far 28 = .ok (.getfield 71, 3) := by decide +kernel
theorem dX11_far_31 : decode cX11_far 31 = .ok (.iload_n 3, 1) := by decide +kernel
theorem dX11_far_32 : decode cX11_far 32 = .ok (.iaload, 1) := by decide +kernel
theorem dX11_far_33 : decode cX11_far 33 = .ok (.ireturn, 1) := by decide +kernel
set_option maxRecDepth 20000 in
theorem ggX11_within_X11_arePrograms : GoodIn wsX11_within wsX11_arePrograms := goodIn_r _ [4, 5, 6, 3, 7, 8, 9, 10, 11] (by decide +kernel) (by decide +kernel)
set_option maxRecDepth 20000 in
theorem gX11_within_X11_arePrograms : GoodIn wsX11_within (va_wsS RX11 253 yX11_arePrograms wsX11_arePrograms) := goodIn_app (goodIn_of _ (by decide +kernel)) ggX11_within_X11_arePrograms
set_option maxRecDepth 20000 in
theorem ggX11_within_X11_parts : GoodIn wsX11_within wsX11_parts := goodIn_r _ [15, 16, 17, 18, 19, 20, 21, 3, 22, 23, 24, 25, 26, 27, 28, 29, 30, 31, 32, 33, 34, 35, 36, 37, 38, 39, 40, 41, 42, 43, 44, 45, 46, 47, 48, 49, 50, 51, 52, 53, 54, 55, 56, 57, 58, 59, 60, 61, 62, 63, 64, 65, 66, 67, 68, 69, 70, 71, 72, 73, 74, 75, 76] (by decide +kernel) (by decide +kernel)
set_option maxRecDepth 20000 in
theorem gX11_within_X11_parts : GoodIn wsX11_within (wsV RX11 257 RX11 yX11_parts wsX11_parts) := goodIn_app (goodIn_of _ (by decide +kernel)) ggX11_within_X11_parts
theorem dX11_within_0 : decode cX11_within 0 = .ok (.iload_n 1, 1) := by decide +kernel
theorem dX11_within_1 : decode cX11_within 1 = .ok (.iload_n 2, 1) := by decide +kernel
theorem dX11_within_2 : decode cX11_within 2 = .ok (.invokestatic 253, 3) := by decide +kernel
theorem dX11_within_5 : decode cX11_within 5 = .ok (.ifCond .ne 7, 3) := by decide +kernel
theorem dX11_within_8 : decode cX11_within 8 = .ok (.iconst (-1), 1) := by decide +kernel
theorem dX11_within_9 : decode cX11_within 9 = .ok (.goto 18, 3) := by decide +kernel
theorem dX11_within_12 : decode cX11_within 12 = .ok (.aload_n 0, 1) := by decide +kernel
theorem dX11_within_13 : decode cX11_within 13 = .ok (.iload_n 1, 1) := by decide +kernel
theorem dX11_within_14 : decode cX11_within 14 = .ok (.iload_n 2, 1) := by decide +kernel
theorem dX11_within_15 : decode cX11_within 15 = .ok (.iconst 1, 1) := by decide +kernel
theorem dX11_within_16 : decode cX11_within 16 = .ok (.invokevirtual 257, 3) := by decide +kernel
theorem dX11_within_19 : decode cX11_within 19 = .ok (.ifCond .ge 7, 3) := by decide +kernel
theorem dX11_within_22 : decode cX11_within 22 = .ok (.iconst 1, 1) := by decide +kernel
theorem dX11_within_23 : decode cX11_within 23 = .ok (.goto 4, 3) := by decide +kernel
theorem dX11_within_26 : decode cX11_within 26 = .ok (.iconst 0, 1) := by decide +kernel
theorem dX11_within_27 : decode cX11_within 27 = .ok (.ireturn, 1) := by decide +kernel
set_option maxRecDepth 20000 in
theorem ggX11_surveys_X11_to : GoodIn wsX11_surveys wsX11_to := goodIn_r _ [8, 9, 10, 11, 12, 13, 14, 15, 16, 17, 18, 19, 20, 21, 22, 23, 24, 25, 26, 27, 28, 29, 30, 31, 32, 33, 34, 35, 36, 37, 38, 39, 40, 41, 42, 43, 44, 45, 46, 47, 48, 49, 50] (by decide +kernel) (by decide +kernel)
set_option maxRecDepth 20000 in
theorem gX11_surveys_X11_to : GoodIn wsX11_surveys (wsV RX11 239 RX11 yX11_to wsX11_to) := goodIn_app (goodIn_of _ (by decide +kernel)) ggX11_surveys_X11_to
theorem dX11_surveys_0 : decode cX11_surveys 0 = .ok (.aload_n 0, 1) := by decide +kernel
theorem dX11_surveys_1 : decode cX11_surveys 1 = .ok (.iconst 1, 1) := by decide +kernel
theorem dX11_surveys_2 : decode cX11_surveys 2 = .ok (.putfield 269, 3) := by decide +kernel
theorem dX11_surveys_5 : decode cX11_surveys 5 = .ok (.aload_n 0, 1) := by decide +kernel
theorem dX11_surveys_6 : decode cX11_surveys 6 = .ok (.iconst 0, 1) := by decide +kernel
theorem dX11_surveys_7 : decode cX11_surveys 7 = .ok (.putfield 272, 3) := by decide +kernel
theorem dX11_surveys_10 : decode cX11_surveys 10 = .ok (.iconst 0, 1) := by decide +kernel
theorem dX11_surveys_11 : decode cX11_surveys 11 = .ok (.istore_n 2, 1) := by decide +kernel
theorem dX11_surveys_12 : decode cX11_surveys 12 = .ok (.iload_n 2, 1) := by decide +kernel
theorem dX11_surveys_13 : decode cX11_surveys 13 = .ok (.aload_n 0, 1) := by decide +kernel
theorem dX11_surveys_14 : decode cX11_surveys 14 = .ok (.getfield 31, 3) := by decide +kernel
theorem dX11_surveys_17 : decode cX11_surveys 17 = .ok (.iload_n 1, 1) := by decide +kernel
theorem dX11_surveys_18 : decode cX11_surveys 18 = .ok (.iaload, 1) := by decide +kernel
theorem dX11_surveys_19 : decode cX11_surveys 19 = .ok (.if_icmp .gt 125, 3) := by decide +kernel
theorem dX11_surveys_22 : decode cX11_surveys 22 = .ok (.iconst 0, 1) := by decide +kernel
theorem dX11_surveys_23 : decode cX11_surveys 23 = .ok (.istore_n 3, 1) := by decide +kernel
theorem dX11_surveys_24 : decode cX11_surveys 24 = .ok (.iload_n 3, 1) := by decide +kernel
theorem dX11_surveys_25 : decode cX11_surveys 25 = .ok (.aload_n 0, 1) := by decide +kernel
theorem dX11_surveys_26 : decode cX11_surveys 26 = .ok (.getfield 31, 3) := by decide +kernel
theorem dX11_surveys_29 : decode cX11_surveys 29 = .ok (.iload_n 1, 1) := by decide +kernel
theorem dX11_surveys_30 : decode cX11_surveys 30 = .ok (.iaload, 1) := by decide +kernel
theorem dX11_surveys_31 : decode cX11_surveys 31 = .ok (.if_icmp .gt 107, 3) := by decide +kernel
theorem dX11_surveys_34 : decode cX11_surveys 34 = .ok (.iconst 0, 1) := by decide +kernel
theorem dX11_surveys_35 : decode cX11_surveys 35 = .ok (.istore 4, 2) := by decide +kernel
theorem dX11_surveys_37 : decode cX11_surveys 37 = .ok (.iload 4, 2) := by decide +kernel
theorem dX11_surveys_39 : decode cX11_surveys 39 = .ok (.iconst 4, 1) := by decide +kernel
theorem dX11_surveys_40 : decode cX11_surveys 40 = .ok (.if_icmp .ge 92, 3) := by decide +kernel
theorem dX11_surveys_43 : decode cX11_surveys 43 = .ok (.aload_n 0, 1) := by decide +kernel
theorem dX11_surveys_44 : decode cX11_surveys 44 = .ok (.iload_n 1, 1) := by decide +kernel
theorem dX11_surveys_45 : decode cX11_surveys 45 = .ok (.iload_n 3, 1) := by decide +kernel
theorem dX11_surveys_46 : decode cX11_surveys 46 = .ok (.iload 4, 2) := by decide +kernel
theorem dX11_surveys_48 : decode cX11_surveys 48 = .ok (.invokevirtual 239, 3) := by decide +kernel
theorem dX11_surveys_51 : decode cX11_surveys 51 = .ok (.istore 5, 2) := by decide +kernel
theorem dX11_surveys_53 : decode cX11_surveys 53 = .ok (.aload_n 0, 1) := by decide +kernel
theorem dX11_surveys_54 : decode cX11_surveys 54 = .ok (.dup, 1) := by decide +kernel
theorem dX11_surveys_55 : decode cX11_surveys 55 = .ok (.getfield 269, 3) := by decide +kernel
theorem dX11_surveys_58 : decode cX11_surveys 58 = .ok (.aload_n 0, 1) := by decide +kernel
theorem dX11_surveys_59 : decode cX11_surveys 59 = .ok (.getfield 269, 3) := by decide +kernel
theorem dX11_surveys_62 : decode cX11_surveys 62 = .ok (.iload_n 3, 1) := by decide +kernel
theorem dX11_surveys_63 : decode cX11_surveys 63 = .ok (.ishr, 1) := by decide +kernel
theorem dX11_surveys_64 : decode cX11_surveys 64 = .ok (.iconst 1, 1) := by decide +kernel
theorem dX11_surveys_65 : decode cX11_surveys 65 = .ok (.iand, 1) := by decide +kernel
theorem dX11_surveys_66 : decode cX11_surveys 66 = .ok (.iconst 1, 1) := by decide +kernel
theorem dX11_surveys_67 : decode cX11_surveys 67 = .ok (.if_icmp .ne 15, 3) := by decide +kernel
theorem dX11_surveys_70 : decode cX11_surveys 70 = .ok (.iload 5, 2) := by decide +kernel
theorem dX11_surveys_72 : decode cX11_surveys 72 = .ok (.ifCond .le 10, 3) := by decide +kernel
theorem dX11_surveys_75 : decode cX11_surveys 75 = .ok (.iconst 1, 1) := by decide +kernel
theorem dX11_surveys_76 : decode cX11_surveys 76 = .ok (.iload 5, 2) := by decide +kernel
theorem dX11_surveys_78 : decode cX11_surveys 78 = .ok (.ishl, 1) := by decide +kernel
theorem dX11_surveys_79 : decode cX11_surveys 79 = .ok (.goto 4, 3) := by decide +kernel
theorem dX11_surveys_82 : decode cX11_surveys 82 = .ok (.iconst 0, 1) := by decide +kernel
theorem dX11_surveys_83 : decode cX11_surveys 83 = .ok (.ior, 1) := by decide +kernel
theorem dX11_surveys_84 : decode cX11_surveys 84 = .ok (.putfield 269, 3) := by decide +kernel
theorem dX11_surveys_87 : decode cX11_surveys 87 = .ok (.aload_n 0, 1) := by decide +kernel
theorem dX11_surveys_88 : decode cX11_surveys 88 = .ok (.dup, 1) := by decide +kernel
theorem dX11_surveys_89 : decode cX11_surveys 89 = .ok (.getfield 272, 3) := by decide +kernel
theorem dX11_surveys_92 : decode cX11_surveys 92 = .ok (.iload 5, 2) := by decide +kernel
theorem dX11_surveys_94 : decode cX11_surveys 94 = .ok (.ifCond .eq 21, 3) := by decide +kernel
theorem dX11_surveys_97 : decode cX11_surveys 97 = .ok (.iload 5, 2) := by decide +kernel
theorem dX11_surveys_99 : decode cX11_surveys 99 = .ok (.ifCond .le 22, 3) := by decide +kernel
theorem dX11_surveys_102 : decode cX11_surveys 102 = .ok (.aload_n 0, 1) := by decide +kernel
theorem dX11_surveys_103 : decode cX11_surveys 103 = .ok (.getfield 272, 3) := by decide +kernel
theorem dX11_surveys_106 : decode cX11_surveys 106 = .ok (.iload 5, 2) := by decide +kernel
theorem dX11_surveys_108 : decode cX11_surveys 108 = .ok (.ishr, 1) := by decide +kernel
theorem dX11_surveys_109 : decode cX11_surveys 109 = .ok (.iconst 1, 1) := by decide +kernel
theorem dX11_surveys_110 : decode cX11_surveys 110 = .ok (.iand, 1) := by decide +kernel
theorem dX11_surveys_111 : decode cX11_surveys 111 = .ok (.iconst 1, 1) := by decide +kernel
theorem dX11_surveys_112 : decode cX11_surveys 112 = .ok (.if_icmp .ne 9, 3) := by decide +kernel
theorem dX11_surveys_115 : decode cX11_surveys 115 = .ok (.iconst 1, 1) := by decide +kernel
theorem dX11_surveys_116 : decode cX11_surveys 116 = .ok (.iload_n 3, 1) := by decide +kernel
theorem dX11_surveys_117 : decode cX11_surveys 117 = .ok (.ishl, 1) := by decide +kernel
theorem dX11_surveys_118 : decode cX11_surveys 118 = .ok (.goto 4, 3) := by decide +kernel
theorem dX11_surveys_121 : decode cX11_surveys 121 = .ok (.iconst 0, 1) := by decide +kernel
theorem dX11_surveys_122 : decode cX11_surveys 122 = .ok (.ior, 1) := by decide +kernel
theorem dX11_surveys_123 : decode cX11_surveys 123 = .ok (.putfield 272, 3) := by decide +kernel
theorem dX11_surveys_126 : decode cX11_surveys 126 = .ok (.iinc 4 1, 3) := by decide +kernel
theorem dX11_surveys_129 : decode cX11_surveys 129 = .ok (.goto (-92), 3) := by decide +kernel
theorem dX11_surveys_132 : decode cX11_surveys 132 = .ok (.iinc 3 1, 3) := by decide +kernel
theorem dX11_surveys_135 : decode cX11_surveys 135 = .ok (.goto (-111), 3) := by decide +kernel
theorem dX11_surveys_138 : decode cX11_surveys 138 = .ok (.iinc 2 1, 3) := by decide +kernel
theorem dX11_surveys_141 : decode cX11_surveys 141 = .ok (.goto (-129), 3) := by decide +kernel
theorem dX11_surveys_144 : decode cX11_surveys 144 = .ok (.return_, 1) := by decide +kernel
set_option maxRecDepth 20000 in
theorem ggX11_dead_X11_isProgram : GoodIn wsX11_dead wsX11_isProgram := goodIn_r _ [7, 8, 9, 10, 6, 11] (by decide +kernel) (by decide +kernel)
set_option maxRecDepth 20000 in
theorem gX11_dead_X11_isProgram : GoodIn wsX11_dead (va_wsS RX11 227 yX11_isProgram wsX11_isProgram) := goodIn_app (goodIn_of _ (by decide +kernel)) ggX11_dead_X11_isProgram
set_option maxRecDepth 20000 in
theorem ggX11_dead_X11_surveys : GoodIn wsX11_dead wsX11_surveys := goodIn_r _ [15, 1, 2, 3, 16, 17, 18, 6, 19, 20, 21, 22, 23, 24, 25, 26, 27, 28, 29, 30, 31, 32, 33, 34, 35, 36, 37, 38, 39, 40, 41, 42, 43, 44, 45, 46, 47, 48, 49, 50, 51, 52, 53, 54, 55, 56, 57, 58, 59, 60, 61] (by decide +kernel) (by decide +kernel)
set_option maxRecDepth 20000 in
theorem gX11_dead_X11_surveys : GoodIn wsX11_dead (wsV RX11 275 RX11 yX11_surveys wsX11_surveys) := goodIn_app (goodIn_of _ (by decide +kernel)) ggX11_dead_X11_surveys
theorem dX11_dead_0 : decode cX11_dead 0 = .ok (.iload_n 1, 1) := by decide +kernel
theorem dX11_dead_1 : decode cX11_dead 1 = .ok (.invokestatic 227, 3) := by decide +kernel
theorem dX11_dead_4 : decode cX11_dead 4 = .ok (.ifCond .ne 5, 3) := by decide +kernel
theorem dX11_dead_7 : decode cX11_dead 7 = .ok (.iconst (-1), 1) := by decide +kernel
theorem dX11_dead_8 : decode cX11_dead 8 = .ok (.ireturn, 1) := by decide +kernel
theorem dX11_dead_9 : decode cX11_dead 9 = .ok (.aload_n 0, 1) := by decide +kernel
theorem dX11_dead_10 : decode cX11_dead 10 = .ok (.iload_n 1, 1) := by decide +kernel
theorem dX11_dead_11 : decode cX11_dead 11 = .ok (.invokevirtual 275, 3) := by decide +kernel
theorem dX11_dead_14 : decode cX11_dead 14 = .ok (.aload_n 0, 1) := by decide +kernel
theorem dX11_dead_15 : decode cX11_dead 15 = .ok (.getfield 269, 3) := by decide +kernel
theorem dX11_dead_18 : decode cX11_dead 18 = .ok (.aload_n 0, 1) := by decide +kernel
theorem dX11_dead_19 : decode cX11_dead 19 = .ok (.getfield 272, 3) := by decide +kernel
theorem dX11_dead_22 : decode cX11_dead 22 = .ok (.iand, 1) := by decide +kernel
theorem dX11_dead_23 : decode cX11_dead 23 = .ok (.iconst (-1), 1) := by decide +kernel
theorem dX11_dead_24 : decode cX11_dead 24 = .ok (.ixor, 1) := by decide +kernel
theorem dX11_dead_25 : decode cX11_dead 25 = .ok (.iconst 1, 1) := by decide +kernel
theorem dX11_dead_26 : decode cX11_dead 26 = .ok (.aload_n 0, 1) := by decide +kernel
theorem dX11_dead_27 : decode cX11_dead 27 = .ok (.getfield 31, 3) := by decide +kernel
theorem dX11_dead_30 : decode cX11_dead 30 = .ok (.iload_n 1, 1) := by decide +kernel
theorem dX11_dead_31 : decode cX11_dead 31 = .ok (.iaload, 1) := by decide +kernel
theorem dX11_dead_32 : decode cX11_dead 32 = .ok (.iconst 1, 1) := by decide +kernel
theorem dX11_dead_33 : decode cX11_dead 33 = .ok (.iadd, 1) := by decide +kernel
theorem dX11_dead_34 : decode cX11_dead 34 = .ok (.ishl, 1) := by decide +kernel
theorem dX11_dead_35 : decode cX11_dead 35 = .ok (.iconst 2, 1) := by decide +kernel
theorem dX11_dead_36 : decode cX11_dead 36 = .ok (.isub, 1) := by decide +kernel
theorem dX11_dead_37 : decode cX11_dead 37 = .ok (.iand, 1) := by decide +kernel
theorem dX11_dead_38 : decode cX11_dead 38 = .ok (.ireturn, 1) := by decide +kernel
set_option maxRecDepth 20000 in
theorem ggX11_sees_X11_to : GoodIn wsX11_sees wsX11_to := goodIn_r _ [7, 8, 14, 15, 16, 17, 18, 19, 20, 21, 22, 23, 24, 25, 26, 27, 28, 29, 30, 31, 32, 33, 34, 35, 36, 37, 38, 39, 40, 41, 42, 43, 44, 45, 46, 47, 48, 49, 50, 51, 52, 53, 54] (by decide +kernel) (by decide +kernel)
set_option maxRecDepth 20000 in
theorem gX11_sees_X11_to : GoodIn wsX11_sees (wsV RX11 239 RX11 yX11_to wsX11_to) := goodIn_app (goodIn_of _ (by decide +kernel)) ggX11_sees_X11_to
set_option maxRecDepth 20000 in
theorem ggX11_sees_X11_actOf : GoodIn wsX11_sees wsX11_actOf := goodIn_r _ [12, 13, 14, 15, 16, 17, 18, 19, 20, 21, 22, 23, 24, 25, 26, 27, 28, 29, 30, 31, 32, 33, 34, 35, 36, 37, 38, 39, 40, 41, 42, 43, 44, 45, 46, 47, 48, 49, 50, 51, 52, 53, 54] (by decide +kernel) (by decide +kernel)
set_option maxRecDepth 20000 in
theorem gX11_sees_X11_actOf : GoodIn wsX11_sees (wsV RX11 242 RX11 yX11_actOf wsX11_actOf) := goodIn_app (goodIn_of _ (by decide +kernel)) ggX11_sees_X11_actOf
theorem dX11_sees_0 : decode cX11_sees 0 = .ok (.aload_n 0, 1) := by decide +kernel
theorem dX11_sees_1 : decode cX11_sees 1 = .ok (.iload_n 1, 1) := by decide +kernel
theorem dX11_sees_2 : decode cX11_sees 2 = .ok (.iload_n 2, 1) := by decide +kernel
theorem dX11_sees_3 : decode cX11_sees 3 = .ok (.iload_n 3, 1) := by decide +kernel
theorem dX11_sees_4 : decode cX11_sees 4 = .ok (.invokevirtual 239, 3) := by decide +kernel
theorem dX11_sees_7 : decode cX11_sees 7 = .ok (.istore 4, 2) := by decide +kernel
theorem dX11_sees_9 : decode cX11_sees 9 = .ok (.iload 4, 2) := by decide +kernel
theorem dX11_sees_11 : decode cX11_sees 11 = .ok (.ifCond .gt 8, 3) := by decide +kernel
theorem dX11_sees_14 : decode cX11_sees 14 = .ok (.iload 4, 2) := by decide +kernel
theorem dX11_sees_16 : decode cX11_sees 16 = .ok (.goto 38, 3) := by decide +kernel
theorem dX11_sees_19 : decode cX11_sees 19 = .ok (.aload_n 0, 1) := by decide +kernel
theorem dX11_sees_20 : decode cX11_sees 20 = .ok (.getfield 272, 3) := by decide +kernel
theorem dX11_sees_23 : decode cX11_sees 23 = .ok (.iload 4, 2) := by decide +kernel
theorem dX11_sees_25 : decode cX11_sees 25 = .ok (.ishr, 1) := by decide +kernel
theorem dX11_sees_26 : decode cX11_sees 26 = .ok (.iconst 1, 1) := by decide +kernel
theorem dX11_sees_27 : decode cX11_sees 27 = .ok (.iand, 1) := by decide +kernel
theorem dX11_sees_28 : decode cX11_sees 28 = .ok (.ifCond .ne 7, 3) := by decide +kernel
theorem dX11_sees_31 : decode cX11_sees 31 = .ok (.iconst (-1), 1) := by decide +kernel
theorem dX11_sees_32 : decode cX11_sees 32 = .ok (.goto 22, 3) := by decide +kernel
theorem dX11_sees_35 : decode cX11_sees 35 = .ok (.iconst 4, 1) := by decide +kernel
theorem dX11_sees_36 : decode cX11_sees 36 = .ok (.aload_n 0, 1) := by decide +kernel
theorem dX11_sees_37 : decode cX11_sees 37 = .ok (.getfield 77, 3) := by decide +kernel
theorem dX11_sees_40 : decode cX11_sees 40 = .ok (.iload 4, 2) := by decide +kernel
theorem dX11_sees_42 : decode cX11_sees 42 = .ok (.iaload, 1) := by decide +kernel
theorem dX11_sees_43 : decode cX11_sees 43 = .ok (.iconst 1, 1) := by decide +kernel
theorem dX11_sees_44 : decode cX11_sees 44 = .ok (.iadd, 1) := by decide +kernel
theorem dX11_sees_45 : decode cX11_sees 45 = .ok (.imul, 1) := by decide +kernel
theorem dX11_sees_46 : decode cX11_sees 46 = .ok (.aload_n 0, 1) := by decide +kernel
theorem dX11_sees_47 : decode cX11_sees 47 = .ok (.iload_n 1, 1) := by decide +kernel
theorem dX11_sees_48 : decode cX11_sees 48 = .ok (.iload 4, 2) := by decide +kernel
theorem dX11_sees_50 : decode cX11_sees 50 = .ok (.invokevirtual 242, 3) := by decide +kernel
theorem dX11_sees_53 : decode cX11_sees 53 = .ok (.iadd, 1) := by decide +kernel
theorem dX11_sees_54 : decode cX11_sees 54 = .ok (.ireturn, 1) := by decide +kernel
set_option maxRecDepth 20000 in
theorem ggX11_areAlike_X11_sees : GoodIn wsX11_areAlike wsX11_sees := goodIn_r _ [5, 6, 7, 8, 9, 10, 4, 11, 12, 13, 14, 15, 16, 17, 18, 19, 20, 21, 22, 23, 24, 25, 26, 27, 28, 29, 30, 31, 32, 33, 34, 35, 36, 37, 38, 39, 40, 41, 42, 43, 44, 45, 46, 47, 48, 49, 50, 51, 52, 53, 54, 55, 56, 57, 58] (by decide +kernel) (by decide +kernel)
set_option maxRecDepth 20000 in
theorem gX11_areAlike_X11_sees : GoodIn wsX11_areAlike (wsV RX11 278 RX11 yX11_sees wsX11_sees) := goodIn_app (goodIn_of _ (by decide +kernel)) ggX11_areAlike_X11_sees
theorem dX11_areAlike_0 : decode cX11_areAlike 0 = .ok (.iconst 1, 1) := by decide +kernel
theorem dX11_areAlike_1 : decode cX11_areAlike 1 = .ok (.istore 4, 2) := by decide +kernel
theorem dX11_areAlike_3 : decode cX11_areAlike 3 = .ok (.iconst 0, 1) := by decide +kernel
theorem dX11_areAlike_4 : decode cX11_areAlike 4 = .ok (.istore 5, 2) := by decide +kernel
theorem dX11_areAlike_6 : decode cX11_areAlike 6 = .ok (.iload 5, 2) := by decide +kernel
theorem dX11_areAlike_8 : decode cX11_areAlike 8 = .ok (.iconst 4, 1) := by decide +kernel
theorem dX11_areAlike_9 : decode cX11_areAlike 9 = .ok (.if_icmp .ge 40, 3) := by decide +kernel
theorem dX11_areAlike_12 : decode cX11_areAlike 12 = .ok (.iload 4, 2) := by decide +kernel
theorem dX11_areAlike_14 : decode cX11_areAlike 14 = .ok (.ifCond .eq 26, 3) := by decide +kernel
theorem dX11_areAlike_17 : decode cX11_areAlike 17 = .ok (.aload_n 0, 1) := by decide +kernel
theorem dX11_areAlike_18 : decode cX11_areAlike 18 = .ok (.iload_n 1, 1) := by decide +kernel
theorem dX11_areAlike_19 : decode cX11_areAlike 19 = .ok (.iload_n 2, 1) := by decide +kernel
theorem dX11_areAlike_20 : decode cX11_areAlike 20 = .ok (.iload 5, 2) := by decide +kernel
theorem dX11_areAlike_22 : decode cX11_areAlike 22 = .ok (.invokevirtual 278, 3) := by decide +kernel
theorem dX11_areAlike_25 : decode cX11_areAlike 25 = .ok (.aload_n 0, 1) := by decide +kernel
theorem dX11_areAlike_26 : decode cX11_areAlike 26 = .ok (.iload_n 1, 1) := by decide +kernel
theorem dX11_areAlike_27 : decode cX11_areAlike 27 = .ok (.iload_n 3, 1) := by decide +kernel
theorem dX11_areAlike_28 : decode cX11_areAlike 28 = .ok (.iload 5, 2) := by decide +kernel
theorem dX11_areAlike_30 : decode cX11_areAlike 30 = .ok (.invokevirtual 278, 3) := by decide +kernel
theorem dX11_areAlike_33 : decode cX11_areAlike 33 = .ok (.if_icmp .ne 7, 3) := by decide +kernel
theorem dX11_areAlike_36 : decode cX11_areAlike 36 = .ok (.iconst 1, 1) := by decide +kernel
theorem dX11_areAlike_37 : decode cX11_areAlike 37 = .ok (.goto 4, 3) := by decide +kernel
theorem dX11_areAlike_40 : decode cX11_areAlike 40 = .ok (.iconst 0, 1) := by decide +kernel
theorem dX11_areAlike_41 : decode cX11_areAlike 41 = .ok (.istore 4, 2) := by decide +kernel
theorem dX11_areAlike_43 : decode cX11_areAlike 43 = .ok (.iinc 5 1, 3) := by decide +kernel
theorem dX11_areAlike_46 : decode cX11_areAlike 46 = .ok (.goto (-40), 3) := by decide +kernel
theorem dX11_areAlike_49 : decode cX11_areAlike 49 = .ok (.iload 4, 2) := by decide +kernel
theorem dX11_areAlike_51 : decode cX11_areAlike 51 = .ok (.ireturn, 1) := by decide +kernel
set_option maxRecDepth 20000 in
theorem ggX11_fewest_X11_isProgram : GoodIn wsX11_fewest wsX11_isProgram := goodIn_r _ [9, 10, 11, 12, 8, 13] (by decide +kernel) (by decide +kernel)
set_option maxRecDepth 20000 in
theorem gX11_fewest_X11_isProgram : GoodIn wsX11_fewest (va_wsS RX11 227 yX11_isProgram wsX11_isProgram) := goodIn_app (goodIn_of _ (by decide +kernel)) ggX11_fewest_X11_isProgram
set_option maxRecDepth 20000 in
theorem ggX11_fewest_X11_surveys : GoodIn wsX11_fewest wsX11_surveys := goodIn_r _ [17, 1, 2, 4, 18, 19, 20, 8, 21, 22, 36, 37, 38, 39, 40, 41, 42, 43, 44, 45, 46, 47, 48, 49, 50, 51, 52, 53, 54, 55, 56, 57, 58, 59, 60, 61, 62, 63, 64, 65, 66, 67, 68, 69, 70, 71, 72, 73, 74, 75, 76] (by decide +kernel) (by decide +kernel)
set_option maxRecDepth 20000 in
theorem gX11_fewest_X11_surveys : GoodIn wsX11_fewest (wsV RX11 275 RX11 yX11_surveys wsX11_surveys) := goodIn_app (goodIn_of _ (by decide +kernel)) ggX11_fewest_X11_surveys
set_option maxRecDepth 20000 in
theorem ggX11_fewest_X11_areAlike : GoodIn wsX11_fewest wsX11_areAlike := goodIn_r _ [26, 27, 28, 29, 8, 30, 2, 3, 18, 19, 20, 21, 22, 31, 32, 33, 34, 35, 36, 37, 38, 39, 40, 41, 42, 43, 44, 45, 46, 47, 48, 49, 50, 51, 52, 53, 54, 55, 56, 57, 58, 59, 60, 61, 62, 63, 64, 65, 66, 67, 68, 69, 70, 71, 72, 73, 74, 75, 76] (by decide +kernel) (by decide +kernel)
set_option maxRecDepth 20000 in
theorem gX11_fewest_X11_areAlike : GoodIn wsX11_fewest (wsV RX11 281 RX11 yX11_areAlike wsX11_areAlike) := goodIn_app (goodIn_of _ (by decide +kernel)) ggX11_fewest_X11_areAlike
theorem dX11_fewest_0 : decode cX11_fewest 0 = .ok (.iload_n 1, 1) := by decide +kernel
theorem dX11_fewest_1 : decode cX11_fewest 1 = .ok (.invokestatic 227, 3) := by decide +kernel
theorem dX11_fewest_4 : decode cX11_fewest 4 = .ok (.ifCond .ne 5, 3) := by decide +kernel
theorem dX11_fewest_7 : decode cX11_fewest 7 = .ok (.iconst (-1), 1) := by decide +kernel
theorem dX11_fewest_8 : decode cX11_fewest 8 = .ok (.ireturn, 1) := by decide +kernel
theorem dX11_fewest_9 : decode cX11_fewest 9 = .ok (.aload_n 0, 1) := by decide +kernel
theorem dX11_fewest_10 : decode cX11_fewest 10 = .ok (.iload_n 1, 1) := by decide +kernel
theorem dX11_fewest_11 : decode cX11_fewest 11 = .ok (.invokevirtual 275, 3) := by decide +kernel
theorem dX11_fewest_14 : decode cX11_fewest 14 = .ok (.aload_n 0, 1) := by decide +kernel
theorem dX11_fewest_15 : decode cX11_fewest 15 = .ok (.getfield 269, 3) := by decide +kernel
theorem dX11_fewest_18 : decode cX11_fewest 18 = .ok (.aload_n 0, 1) := by decide +kernel
theorem dX11_fewest_19 : decode cX11_fewest 19 = .ok (.getfield 272, 3) := by decide +kernel
theorem dX11_fewest_22 : decode cX11_fewest 22 = .ok (.iand, 1) := by decide +kernel
theorem dX11_fewest_23 : decode cX11_fewest 23 = .ok (.istore_n 2, 1) := by decide +kernel
theorem dX11_fewest_24 : decode cX11_fewest 24 = .ok (.iconst 0, 1) := by decide +kernel
theorem dX11_fewest_25 : decode cX11_fewest 25 = .ok (.istore_n 3, 1) := by decide +kernel
theorem dX11_fewest_26 : decode cX11_fewest 26 = .ok (.iload_n 3, 1) := by decide +kernel
theorem dX11_fewest_27 : decode cX11_fewest 27 = .ok (.bipush 17, 2) := by decide +kernel
theorem dX11_fewest_29 : decode cX11_fewest 29 = .ok (.if_icmp .ge 16, 3) := by decide +kernel
theorem dX11_fewest_32 : decode cX11_fewest 32 = .ok (.aload_n 0, 1) := by decide +kernel
theorem dX11_fewest_33 : decode cX11_fewest 33 = .ok (.getfield 77, 3) := by decide +kernel
theorem dX11_fewest_36 : decode cX11_fewest 36 = .ok (.iload_n 3, 1) := by decide +kernel
theorem dX11_fewest_37 : decode cX11_fewest 37 = .ok (.iconst 0, 1) := by decide +kernel
theorem dX11_fewest_38 : decode cX11_fewest 38 = .ok (.iastore, 1) := by decide +kernel
theorem dX11_fewest_39 : decode cX11_fewest 39 = .ok (.iinc 3 1, 3) := by decide +kernel
theorem dX11_fewest_42 : decode cX11_fewest 42 = .ok (.goto (-16), 3) := by decide +kernel
theorem dX11_fewest_45 : decode cX11_fewest 45 = .ok (.iconst 0, 1) := by decide +kernel
theorem dX11_fewest_46 : decode cX11_fewest 46 = .ok (.istore_n 3, 1) := by decide +kernel
theorem dX11_fewest_47 : decode cX11_fewest 47 = .ok (.iconst 0, 1) := by decide +kernel
theorem dX11_fewest_48 : decode cX11_fewest 48 = .ok (.istore 4, 2) := by decide +kernel
theorem dX11_fewest_50 : decode cX11_fewest 50 = .ok (.iload 4, 2) := by decide +kernel
theorem dX11_fewest_52 : decode cX11_fewest 52 = .ok (.bipush 17, 2) := by decide +kernel
theorem dX11_fewest_54 : decode cX11_fewest 54 = .ok (.if_icmp .gt 162, 3) := by decide +kernel
theorem dX11_fewest_57 : decode cX11_fewest 57 = .ok (.iconst 0, 1) := by decide +kernel
theorem dX11_fewest_58 : decode cX11_fewest 58 = .ok (.istore_n 3, 1) := by decide +kernel
theorem dX11_fewest_59 : decode cX11_fewest 59 = .ok (.iconst 0, 1) := by decide +kernel
theorem dX11_fewest_60 : decode cX11_fewest 60 = .ok (.istore 5, 2) := by decide +kernel
theorem dX11_fewest_62 : decode cX11_fewest 62 = .ok (.iload 5, 2) := by decide +kernel
theorem dX11_fewest_64 : decode cX11_fewest 64 = .ok (.aload_n 0, 1) := by decide +kernel
theorem dX11_fewest_65 : decode cX11_fewest 65 = .ok (.getfield 31, 3) := by decide +kernel
theorem dX11_fewest_68 : decode cX11_fewest 68 = .ok (.iload_n 1, 1) := by decide +kernel
theorem dX11_fewest_69 : decode cX11_fewest 69 = .ok (.iaload, 1) := by decide +kernel
theorem dX11_fewest_70 : decode cX11_fewest 70 = .ok (.if_icmp .gt 110, 3) := by decide +kernel
theorem dX11_fewest_73 : decode cX11_fewest 73 = .ok (.iload 5, 2) := by decide +kernel
theorem dX11_fewest_75 : decode cX11_fewest 75 = .ok (.istore 6, 2) := by decide +kernel
theorem dX11_fewest_77 : decode cX11_fewest 77 = .ok (.iload 5, 2) := by decide +kernel
theorem dX11_fewest_79 : decode cX11_fewest 79 = .ok (.iconst 1, 1) := by decide +kernel
theorem dX11_fewest_80 : decode cX11_fewest 80 = .ok (.isub, 1) := by decide +kernel
theorem dX11_fewest_81 : decode cX11_fewest 81 = .ok (.istore 7, 2) := by decide +kernel
theorem dX11_fewest_83 : decode cX11_fewest 83 = .ok (.iload 7, 2) := by decide +kernel
theorem dX11_fewest_85 : decode cX11_fewest 85 = .ok (.ifCond .lt 55, 3) := by decide +kernel
theorem dX11_fewest_88 : decode cX11_fewest 88 = .ok (.iload_n 2, 1) := by decide +kernel
theorem dX11_fewest_89 : decode cX11_fewest 89 = .ok (.iload 5, 2) := by decide +kernel
theorem dX11_fewest_91 : decode cX11_fewest 91 = .ok (.ishr, 1) := by decide +kernel
theorem dX11_fewest_92 : decode cX11_fewest 92 = .ok (.iconst 1, 1) := by decide +kernel
theorem dX11_fewest_93 : decode cX11_fewest 93 = .ok (.iand, 1) := by decide +kernel
theorem dX11_fewest_94 : decode cX11_fewest 94 = .ok (.iconst 1, 1) := by decide +kernel
theorem dX11_fewest_95 : decode cX11_fewest 95 = .ok (.if_icmp .ne 45, 3) := by decide +kernel
theorem dX11_fewest_98 : decode cX11_fewest 98 = .ok (.iload_n 2, 1) := by decide +kernel
theorem dX11_fewest_99 : decode cX11_fewest 99 = .ok (.iload 7, 2) := by decide +kernel
theorem dX11_fewest_101 : decode cX11_fewest 101 = .ok (.ishr, 1) := by decide +kernel
theorem dX11_fewest_102 : decode cX11_fewest 102 = .ok (.iconst 1, 1) := by decide +kernel
theorem dX11_fewest_103 : decode cX11_fewest 103 = .ok (.iand, 1) := by decide +kernel
theorem dX11_fewest_104 : decode cX11_fewest 104 = .ok (.iconst 1, 1) := by decide +kernel
theorem dX11_fewest_105 : decode cX11_fewest 105 = .ok (.if_icmp .ne 25, 3) := by decide +kernel
theorem dX11_fewest_108 : decode cX11_fewest 108 = .ok (.aload_n 0, 1) := by decide +kernel
theorem dX11_fewest_109 : decode cX11_fewest 109 = .ok (.iload_n 1, 1) := by decide +kernel
theorem dX11_fewest_110 : decode cX11_fewest 110 = .ok (.iload 5, 2) := by decide +kernel
theorem dX11_fewest_112 : decode cX11_fewest 112 = .ok (.iload 7, 2) := by decide +kernel
theorem dX11_fewest_114 : decode cX11_fewest 114 = .ok (.invokevirtual 281, 3) := by decide +kernel
theorem dX11_fewest_117 : decode cX11_fewest 117 = .ok (.ifCond .eq 13, 3) := by decide +kernel
theorem dX11_fewest_120 : decode cX11_fewest 120 = .ok (.aload_n 0, 1) := by decide +kernel
theorem dX11_fewest_121 : decode cX11_fewest 121 = .ok (.getfield 80, 3) := by decide +kernel
theorem dX11_fewest_124 : decode cX11_fewest 124 = .ok (.iload 7, 2) := by decide +kernel
theorem dX11_fewest_126 : decode cX11_fewest 126 = .ok (.iaload, 1) := by decide +kernel
theorem dX11_fewest_127 : decode cX11_fewest 127 = .ok (.goto 5, 3) := by decide +kernel
theorem dX11_fewest_130 : decode cX11_fewest 130 = .ok (.iload 6, 2) := by decide +kernel
theorem dX11_fewest_132 : decode cX11_fewest 132 = .ok (.istore 6, 2) := by decide +kernel
theorem dX11_fewest_134 : decode cX11_fewest 134 = .ok (.iinc 7 (-1), 3) := by decide +kernel
theorem dX11_fewest_137 : decode cX11_fewest 137 = .ok (.goto (-54), 3) := by decide +kernel
theorem dX11_fewest_140 : decode cX11_fewest 140 = .ok (.aload_n 0, 1) := by decide +kernel
theorem dX11_fewest_141 : decode cX11_fewest 141 = .ok (.getfield 80, 3) := by decide +kernel
theorem dX11_fewest_144 : decode cX11_fewest 144 = .ok (.iload 5, 2) := by decide +kernel
theorem dX11_fewest_146 : decode cX11_fewest 146 = .ok (.iload 6, 2) := by decide +kernel
theorem dX11_fewest_148 : decode cX11_fewest 148 = .ok (.iastore, 1) := by decide +kernel
theorem dX11_fewest_149 : decode cX11_fewest 149 = .ok (.iload_n 3, 1) := by decide +kernel
theorem dX11_fewest_150 : decode cX11_fewest 150 = .ok (.iload 6, 2) := by decide +kernel
theorem dX11_fewest_152 : decode cX11_fewest 152 = .ok (.iload 5, 2) := by decide +kernel
theorem dX11_fewest_154 : decode cX11_fewest 154 = .ok (.if_icmp .ne 17, 3) := by decide +kernel
theorem dX11_fewest_157 : decode cX11_fewest 157 = .ok (.iload_n 2, 1) := by decide +kernel
theorem dX11_fewest_158 : decode cX11_fewest 158 = .ok (.iload 5, 2) := by decide +kernel
theorem dX11_fewest_160 : decode cX11_fewest 160 = .ok (.ishr, 1) := by decide +kernel
theorem dX11_fewest_161 : decode cX11_fewest 161 = .ok (.iconst 1, 1) := by decide +kernel
theorem dX11_fewest_162 : decode cX11_fewest 162 = .ok (.iand, 1) := by decide +kernel
theorem dX11_fewest_163 : decode cX11_fewest 163 = .ok (.iconst 1, 1) := by decide +kernel
theorem dX11_fewest_164 : decode cX11_fewest 164 = .ok (.if_icmp .ne 7, 3) := by decide +kernel
theorem dX11_fewest_167 : decode cX11_fewest 167 = .ok (.iconst 1, 1) := by decide +kernel
theorem dX11_fewest_168 : decode cX11_fewest 168 = .ok (.goto 4, 3) := by decide +kernel
theorem dX11_fewest_171 : decode cX11_fewest 171 = .ok (.iconst 0, 1) := by decide +kernel
theorem dX11_fewest_172 : decode cX11_fewest 172 = .ok (.iadd, 1) := by decide +kernel
theorem dX11_fewest_173 : decode cX11_fewest 173 = .ok (.istore_n 3, 1) := by decide +kernel
theorem dX11_fewest_174 : decode cX11_fewest 174 = .ok (.iinc 5 1, 3) := by decide +kernel
theorem dX11_fewest_177 : decode cX11_fewest 177 = .ok (.goto (-115), 3) := by decide +kernel
theorem dX11_fewest_180 : decode cX11_fewest 180 = .ok (.iconst 0, 1) := by decide +kernel
theorem dX11_fewest_181 : decode cX11_fewest 181 = .ok (.istore 5, 2) := by decide +kernel
theorem dX11_fewest_183 : decode cX11_fewest 183 = .ok (.iload 5, 2) := by decide +kernel
theorem dX11_fewest_185 : decode cX11_fewest 185 = .ok (.bipush 17, 2) := by decide +kernel
theorem dX11_fewest_187 : decode cX11_fewest 187 = .ok (.if_icmp .ge 23, 3) := by decide +kernel
theorem dX11_fewest_190 : decode cX11_fewest 190 = .ok (.aload_n 0, 1) := by decide +kernel
theorem dX11_fewest_191 : decode cX11_fewest 191 = .ok (.getfield 77, 3) := by decide +kernel
theorem dX11_fewest_194 : decode cX11_fewest 194 = .ok (.iload 5, 2) := by decide +kernel
theorem dX11_fewest_196 : decode cX11_fewest 196 = .ok (.aload_n 0, 1) := by decide +kernel
theorem dX11_fewest_197 : decode cX11_fewest 197 = .ok (.getfield 80, 3) := by decide +kernel
theorem dX11_fewest_200 : decode cX11_fewest 200 = .ok (.iload 5, 2) := by decide +kernel
theorem dX11_fewest_202 : decode cX11_fewest 202 = .ok (.iaload, 1) := by decide +kernel
theorem dX11_fewest_203 : decode cX11_fewest 203 = .ok (.iastore, 1) := by decide +kernel
theorem dX11_fewest_204 : decode cX11_fewest 204 = .ok (.iinc 5 1, 3) := by decide +kernel
theorem dX11_fewest_207 : decode cX11_fewest 207 = .ok (.goto (-24), 3) := by decide +kernel
theorem dX11_fewest_210 : decode cX11_fewest 210 = .ok (.iinc 4 1, 3) := by decide +kernel
theorem dX11_fewest_213 : decode cX11_fewest 213 = .ok (.goto (-163), 3) := by decide +kernel
theorem dX11_fewest_216 : decode cX11_fewest 216 = .ok (.iload_n 3, 1) := by decide +kernel
theorem dX11_fewest_217 : decode cX11_fewest 217 = .ok (.ireturn, 1) := by decide +kernel
set_option maxRecDepth 20000 in
theorem ggX11_ends_X11_lastOf : GoodIn wsX11_ends wsX11_lastOf := goodIn_r _ [7, 1, 8, 9, 10, 6, 11, 12, 13, 14, 15, 16, 17, 18, 19, 20, 21, 22, 23, 24, 25, 26, 27, 28, 29, 30, 31, 32, 33, 34, 35, 36, 37, 38, 39, 40, 41, 42, 43, 44, 45, 46, 47, 48, 49, 50, 51, 52, 53] (by decide +kernel) (by decide +kernel)
set_option maxRecDepth 20000 in
theorem gX11_ends_X11_lastOf : GoodIn wsX11_ends (wsV RX11 285 RX11 yX11_lastOf wsX11_lastOf) := goodIn_app (goodIn_of _ (by decide +kernel)) ggX11_ends_X11_lastOf
theorem dX11_ends_0 : decode cX11_ends 0 = .ok (.iconst 0, 1) := by decide +kernel
theorem dX11_ends_1 : decode cX11_ends 1 = .ok (.istore_n 2, 1) := by decide +kernel
theorem dX11_ends_2 : decode cX11_ends 2 = .ok (.iload_n 2, 1) := by decide +kernel
theorem dX11_ends_3 : decode cX11_ends 3 = .ok (.bipush 17, 2) := by decide +kernel
theorem dX11_ends_5 : decode cX11_ends 5 = .ok (.if_icmp .ge 16, 3) := by decide +kernel
theorem dX11_ends_8 : decode cX11_ends 8 = .ok (.aload_n 0, 1) := by decide +kernel
theorem dX11_ends_9 : decode cX11_ends 9 = .ok (.getfield 83, 3) := by decide +kernel
theorem dX11_ends_12 : decode cX11_ends 12 = .ok (.iload_n 2, 1) := by decide +kernel
theorem dX11_ends_13 : decode cX11_ends 13 = .ok (.iconst 0, 1) := by decide +kernel
theorem dX11_ends_14 : decode cX11_ends 14 = .ok (.iastore, 1) := by decide +kernel
theorem dX11_ends_15 : decode cX11_ends 15 = .ok (.iinc 2 1, 3) := by decide +kernel
theorem dX11_ends_18 : decode cX11_ends 18 = .ok (.goto (-16), 3) := by decide +kernel
theorem dX11_ends_21 : decode cX11_ends 21 = .ok (.iconst 0, 1) := by decide +kernel
theorem dX11_ends_22 : decode cX11_ends 22 = .ok (.istore_n 2, 1) := by decide +kernel
theorem dX11_ends_23 : decode cX11_ends 23 = .ok (.iload_n 2, 1) := by decide +kernel
theorem dX11_ends_24 : decode cX11_ends 24 = .ok (.aload_n 0, 1) := by decide +kernel
theorem dX11_ends_25 : decode cX11_ends 25 = .ok (.getfield 31, 3) := by decide +kernel
theorem dX11_ends_28 : decode cX11_ends 28 = .ok (.iload_n 1, 1) := by decide +kernel
theorem dX11_ends_29 : decode cX11_ends 29 = .ok (.iaload, 1) := by decide +kernel
theorem dX11_ends_30 : decode cX11_ends 30 = .ok (.iconst 1, 1) := by decide +kernel
theorem dX11_ends_31 : decode cX11_ends 31 = .ok (.iadd, 1) := by decide +kernel
theorem dX11_ends_32 : decode cX11_ends 32 = .ok (.if_icmp .gt 59, 3) := by decide +kernel
theorem dX11_ends_35 : decode cX11_ends 35 = .ok (.iconst 0, 1) := by decide +kernel
theorem dX11_ends_36 : decode cX11_ends 36 = .ok (.istore_n 3, 1) := by decide +kernel
theorem dX11_ends_37 : decode cX11_ends 37 = .ok (.iload_n 3, 1) := by decide +kernel
theorem dX11_ends_38 : decode cX11_ends 38 = .ok (.aload_n 0, 1) := by decide +kernel
theorem dX11_ends_39 : decode cX11_ends 39 = .ok (.getfield 31, 3) := by decide +kernel
theorem dX11_ends_42 : decode cX11_ends 42 = .ok (.iload_n 1, 1) := by decide +kernel
theorem dX11_ends_43 : decode cX11_ends 43 = .ok (.iaload, 1) := by decide +kernel
theorem dX11_ends_44 : decode cX11_ends 44 = .ok (.if_icmp .gt 41, 3) := by decide +kernel
theorem dX11_ends_47 : decode cX11_ends 47 = .ok (.iconst 0, 1) := by decide +kernel
theorem dX11_ends_48 : decode cX11_ends 48 = .ok (.istore 4, 2) := by decide +kernel
theorem dX11_ends_50 : decode cX11_ends 50 = .ok (.iload 4, 2) := by decide +kernel
theorem dX11_ends_52 : decode cX11_ends 52 = .ok (.iconst 4, 1) := by decide +kernel
theorem dX11_ends_53 : decode cX11_ends 53 = .ok (.if_icmp .ge 26, 3) := by decide +kernel
theorem dX11_ends_56 : decode cX11_ends 56 = .ok (.aload_n 0, 1) := by decide +kernel
theorem dX11_ends_57 : decode cX11_ends 57 = .ok (.getfield 83, 3) := by decide +kernel
theorem dX11_ends_60 : decode cX11_ends 60 = .ok (.iload_n 3, 1) := by decide +kernel
theorem dX11_ends_61 : decode cX11_ends 61 = .ok (.dup2, 1) := by decide +kernel
theorem dX11_ends_62 : decode cX11_ends 62 = .ok (.iaload, 1) := by decide +kernel
theorem dX11_ends_63 : decode cX11_ends 63 = .ok (.aload_n 0, 1) := by decide +kernel
theorem dX11_ends_64 : decode cX11_ends 64 = .ok (.iload_n 1, 1) := by decide +kernel
theorem dX11_ends_65 : decode cX11_ends 65 = .ok (.iload_n 3, 1) := by decide +kernel
theorem dX11_ends_66 : decode cX11_ends 66 = .ok (.iload 4, 2) := by decide +kernel
theorem dX11_ends_68 : decode cX11_ends 68 = .ok (.invokevirtual 285, 3) := by decide +kernel
theorem dX11_ends_71 : decode cX11_ends 71 = .ok (.ior, 1) := by decide +kernel
theorem dX11_ends_72 : decode cX11_ends 72 = .ok (.iastore, 1) := by decide +kernel
theorem dX11_ends_73 : decode cX11_ends 73 = .ok (.iinc 4 1, 3) := by decide +kernel
theorem dX11_ends_76 : decode cX11_ends 76 = .ok (.goto (-26), 3) := by decide +kernel
theorem dX11_ends_79 : decode cX11_ends 79 = .ok (.iinc 3 1, 3) := by decide +kernel
theorem dX11_ends_82 : decode cX11_ends 82 = .ok (.goto (-45), 3) := by decide +kernel
theorem dX11_ends_85 : decode cX11_ends 85 = .ok (.iinc 2 1, 3) := by decide +kernel
theorem dX11_ends_88 : decode cX11_ends 88 = .ok (.goto (-65), 3) := by decide +kernel
theorem dX11_ends_91 : decode cX11_ends 91 = .ok (.return_, 1) := by decide +kernel
set_option maxRecDepth 20000 in
theorem ggX11_lastOf_X11_to : GoodIn wsX11_lastOf wsX11_to := goodIn_r _ [6, 7, 8, 9, 10, 11, 12, 13, 14, 15, 16, 17, 18, 19, 20, 21, 22, 23, 24, 25, 26, 27, 28, 29, 30, 31, 32, 33, 34, 35, 36, 37, 38, 39, 40, 41, 42, 43, 44, 45, 46, 47, 48] (by decide +kernel) (by decide +kernel)
set_option maxRecDepth 20000 in
theorem gX11_lastOf_X11_to : GoodIn wsX11_lastOf (wsV RX11 239 RX11 yX11_to wsX11_to) := goodIn_app (goodIn_of _ (by decide +kernel)) ggX11_lastOf_X11_to
theorem dX11_lastOf_0 : decode cX11_lastOf 0 = .ok (.aload_n 0, 1) := by decide +kernel
theorem dX11_lastOf_1 : decode cX11_lastOf 1 = .ok (.iload_n 1, 1) := by decide +kernel
theorem dX11_lastOf_2 : decode cX11_lastOf 2 = .ok (.iload_n 2, 1) := by decide +kernel
theorem dX11_lastOf_3 : decode cX11_lastOf 3 = .ok (.iload_n 3, 1) := by decide +kernel
theorem dX11_lastOf_4 : decode cX11_lastOf 4 = .ok (.invokevirtual 239, 3) := by decide +kernel
theorem dX11_lastOf_7 : decode cX11_lastOf 7 = .ok (.istore 4, 2) := by decide +kernel
theorem dX11_lastOf_9 : decode cX11_lastOf 9 = .ok (.iload 4, 2) := by decide +kernel
theorem dX11_lastOf_11 : decode cX11_lastOf 11 = .ok (.ifCond .ge 7, 3) := by decide +kernel
theorem dX11_lastOf_14 : decode cX11_lastOf 14 = .ok (.iconst 0, 1) := by decide +kernel
theorem dX11_lastOf_15 : decode cX11_lastOf 15 = .ok (.goto 21, 3) := by decide +kernel
theorem dX11_lastOf_18 : decode cX11_lastOf 18 = .ok (.iload 4, 2) := by decide +kernel
theorem dX11_lastOf_20 : decode cX11_lastOf 20 = .ok (.ifCond .ne 9, 3) := by decide +kernel
theorem dX11_lastOf_23 : decode cX11_lastOf 23 = .ok (.iconst 1, 1) := by decide +kernel
theorem dX11_lastOf_24 : decode cX11_lastOf 24 = .ok (.iload_n 3, 1) := by decide +kernel
theorem dX11_lastOf_25 : decode cX11_lastOf 25 = .ok (.ishl, 1) := by decide +kernel
theorem dX11_lastOf_26 : decode cX11_lastOf 26 = .ok (.goto 10, 3) := by decide +kernel
theorem dX11_lastOf_29 : decode cX11_lastOf 29 = .ok (.aload_n 0, 1) := by decide +kernel
theorem dX11_lastOf_30 : decode cX11_lastOf 30 = .ok (.getfield 83, 3) := by decide +kernel
theorem dX11_lastOf_33 : decode cX11_lastOf 33 = .ok (.iload 4, 2) := by decide +kernel
theorem dX11_lastOf_35 : decode cX11_lastOf 35 = .ok (.iaload, 1) := by decide +kernel
theorem dX11_lastOf_36 : decode cX11_lastOf 36 = .ok (.ireturn, 1) := by decide +kernel
set_option maxRecDepth 20000 in
theorem ggX11_isSet_X11_in : GoodIn wsX11_isSet wsX11_in := goodIn_r _ [5] (by decide +kernel) (by decide +kernel)
set_option maxRecDepth 20000 in
theorem gX11_isSet_X11_in : GoodIn wsX11_isSet (va_wsS RX11 99 yX11_in wsX11_in) := goodIn_app (goodIn_of _ (by decide +kernel)) ggX11_isSet_X11_in
theorem dX11_isSet_0 : decode cX11_isSet 0 = .ok (.iload_n 0, 1) := by decide +kernel
theorem dX11_isSet_1 : decode cX11_isSet 1 = .ok (.i2l, 1) := by decide +kernel
theorem dX11_isSet_2 : decode cX11_isSet 2 = .ok (.lconst 0, 1) := by decide +kernel
theorem dX11_isSet_3 : decode cX11_isSet 3 = .ok (.ldc2_w 288, 3) := by decide +kernel
theorem dX11_isSet_6 : decode cX11_isSet 6 = .ok (.invokestatic 99, 3) := by decide +kernel
theorem dX11_isSet_9 : decode cX11_isSet 9 = .ok (.ireturn, 1) := by decide +kernel
set_option maxRecDepth 20000 in
theorem ggX11_ahead_X11_isProgram : GoodIn wsX11_ahead wsX11_isProgram := goodIn_r _ [4, 5, 6, 7, 3, 8] (by decide +kernel) (by decide +kernel)
set_option maxRecDepth 20000 in
theorem gX11_ahead_X11_isProgram : GoodIn wsX11_ahead (va_wsS RX11 227 yX11_isProgram wsX11_isProgram) := goodIn_app (goodIn_of _ (by decide +kernel)) ggX11_ahead_X11_isProgram
set_option maxRecDepth 20000 in
theorem ggX11_ahead_X11_isSet : GoodIn wsX11_ahead wsX11_isSet := goodIn_r _ [11, 12, 6, 7, 3, 8] (by decide +kernel) (by decide +kernel)
set_option maxRecDepth 20000 in
theorem gX11_ahead_X11_isSet : GoodIn wsX11_ahead (va_wsS RX11 290 yX11_isSet wsX11_isSet) := goodIn_app (goodIn_of _ (by decide +kernel)) ggX11_ahead_X11_isSet
set_option maxRecDepth 20000 in
theorem ggX11_ahead_X11_ends : GoodIn wsX11_ahead wsX11_ends := goodIn_r _ [16, 17, 18, 19, 20, 21, 3, 22, 23, 24, 25, 26, 27, 28, 29, 30, 31, 32, 33, 34, 35, 36, 37, 38, 39, 40, 41, 42, 43, 44, 45, 46, 47, 48, 49, 50, 51, 52, 53, 54, 55, 56, 57, 58, 59, 60, 61, 62, 63, 64, 65, 66, 67, 68] (by decide +kernel) (by decide +kernel)
set_option maxRecDepth 20000 in
theorem gX11_ahead_X11_ends : GoodIn wsX11_ahead (wsV RX11 293 RX11 yX11_ends wsX11_ends) := goodIn_app (goodIn_of _ (by decide +kernel)) ggX11_ahead_X11_ends
set_option maxRecDepth 20000 in
theorem ggX11_ahead_X11_lastOf : GoodIn wsX11_ahead wsX11_lastOf := goodIn_r _ [22, 17, 23, 24, 25, 3, 26, 27, 28, 29, 30, 31, 32, 33, 34, 35, 36, 37, 38, 39, 40, 41, 42, 43, 44, 45, 46, 47, 48, 49, 50, 51, 52, 53, 54, 55, 56, 57, 58, 59, 60, 61, 62, 63, 64, 65, 66, 67, 68] (by decide +kernel) (by decide +kernel)
set_option maxRecDepth 20000 in
theorem gX11_ahead_X11_lastOf : GoodIn wsX11_ahead (wsV RX11 285 RX11 yX11_lastOf wsX11_lastOf) := goodIn_app (goodIn_of _ (by decide +kernel)) ggX11_ahead_X11_lastOf
theorem dX11_ahead_0 : decode cX11_ahead 0 = .ok (.iload_n 1, 1) := by decide +kernel
theorem dX11_ahead_1 : decode cX11_ahead 1 = .ok (.invokestatic 227, 3) := by decide +kernel
theorem dX11_ahead_4 : decode cX11_ahead 4 = .ok (.ifCond .eq 10, 3) := by decide +kernel
theorem dX11_ahead_7 : decode cX11_ahead 7 = .ok (.iload_n 2, 1) := by decide +kernel
theorem dX11_ahead_8 : decode cX11_ahead 8 = .ok (.invokestatic 290, 3) := by decide +kernel
theorem dX11_ahead_11 : decode cX11_ahead 11 = .ok (.ifCond .ne 5, 3) := by decide +kernel
theorem dX11_ahead_14 : decode cX11_ahead 14 = .ok (.iconst (-1), 1) := by decide +kernel
theorem dX11_ahead_15 : decode cX11_ahead 15 = .ok (.ireturn, 1) := by decide +kernel
theorem dX11_ahead_16 : decode cX11_ahead 16 = .ok (.aload_n 0, 1) := by decide +kernel
theorem dX11_ahead_17 : decode cX11_ahead 17 = .ok (.iload_n 1, 1) := by decide +kernel
theorem dX11_ahead_18 : decode cX11_ahead 18 = .ok (.invokevirtual 293, 3) := by decide +kernel
theorem dX11_ahead_21 : decode cX11_ahead 21 = .ok (.iconst 0, 1) := by decide +kernel
theorem dX11_ahead_22 : decode cX11_ahead 22 = .ok (.istore_n 3, 1) := by decide +kernel
theorem dX11_ahead_23 : decode cX11_ahead 23 = .ok (.iconst 0, 1) := by decide +kernel
theorem dX11_ahead_24 : decode cX11_ahead 24 = .ok (.istore 4, 2) := by decide +kernel
theorem dX11_ahead_26 : decode cX11_ahead 26 = .ok (.iload 4, 2) := by decide +kernel
theorem dX11_ahead_28 : decode cX11_ahead 28 = .ok (.iconst 4, 1) := by decide +kernel
theorem dX11_ahead_29 : decode cX11_ahead 29 = .ok (.if_icmp .ge 35, 3) := by decide +kernel
theorem dX11_ahead_32 : decode cX11_ahead 32 = .ok (.iload_n 3, 1) := by decide +kernel
theorem dX11_ahead_33 : decode cX11_ahead 33 = .ok (.aload_n 0, 1) := by decide +kernel
theorem dX11_ahead_34 : decode cX11_ahead 34 = .ok (.iload_n 1, 1) := by decide +kernel
theorem dX11_ahead_35 : decode cX11_ahead 35 = .ok (.iconst 0, 1) := by decide +kernel
theorem dX11_ahead_36 : decode cX11_ahead 36 = .ok (.iload 4, 2) := by decide +kernel
theorem dX11_ahead_38 : decode cX11_ahead 38 = .ok (.invokevirtual 285, 3) := by decide +kernel
theorem dX11_ahead_41 : decode cX11_ahead 41 = .ok (.iload_n 2, 1) := by decide +kernel
theorem dX11_ahead_42 : decode cX11_ahead 42 = .ok (.iconst (-1), 1) := by decide +kernel
theorem dX11_ahead_43 : decode cX11_ahead 43 = .ok (.ixor, 1) := by decide +kernel
theorem dX11_ahead_44 : decode cX11_ahead 44 = .ok (.iand, 1) := by decide +kernel
theorem dX11_ahead_45 : decode cX11_ahead 45 = .ok (.ifCond .ne 10, 3) := by decide +kernel
theorem dX11_ahead_48 : decode cX11_ahead 48 = .ok (.iconst 1, 1) := by decide +kernel
theorem dX11_ahead_49 : decode cX11_ahead 49 = .ok (.iload 4, 2) := by decide +kernel
theorem dX11_ahead_51 : decode cX11_ahead 51 = .ok (.ishl, 1) := by decide +kernel
theorem dX11_ahead_52 : decode cX11_ahead 52 = .ok (.goto 4, 3) := by decide +kernel
theorem dX11_ahead_55 : decode cX11_ahead 55 = .ok (.iconst 0, 1) := by decide +kernel
theorem dX11_ahead_56 : decode cX11_ahead 56 = .ok (.ior, 1) := by decide +kernel
theorem dX11_ahead_57 : decode cX11_ahead 57 = .ok (.istore_n 3, 1) := by decide +kernel
theorem dX11_ahead_58 : decode cX11_ahead 58 = .ok (.iinc 4 1, 3) := by decide +kernel
theorem dX11_ahead_61 : decode cX11_ahead 61 = .ok (.goto (-35), 3) := by decide +kernel
theorem dX11_ahead_64 : decode cX11_ahead 64 = .ok (.iload_n 3, 1) := by decide +kernel
theorem dX11_ahead_65 : decode cX11_ahead 65 = .ok (.ireturn, 1) := by decide +kernel
set_option maxRecDepth 20000 in
theorem ggX11_behind_X11_isProgram : GoodIn wsX11_behind wsX11_isProgram := goodIn_r _ [4, 5, 6, 7, 3, 8] (by decide +kernel) (by decide +kernel)
set_option maxRecDepth 20000 in
theorem gX11_behind_X11_isProgram : GoodIn wsX11_behind (va_wsS RX11 227 yX11_isProgram wsX11_isProgram) := goodIn_app (goodIn_of _ (by decide +kernel)) ggX11_behind_X11_isProgram
set_option maxRecDepth 20000 in
theorem ggX11_behind_X11_isSet : GoodIn wsX11_behind wsX11_isSet := goodIn_r _ [11, 12, 6, 7, 3, 8] (by decide +kernel) (by decide +kernel)
set_option maxRecDepth 20000 in
theorem gX11_behind_X11_isSet : GoodIn wsX11_behind (va_wsS RX11 290 yX11_isSet wsX11_isSet) := goodIn_app (goodIn_of _ (by decide +kernel)) ggX11_behind_X11_isSet
set_option maxRecDepth 20000 in
theorem ggX11_behind_X11_ends : GoodIn wsX11_behind wsX11_ends := goodIn_r _ [16, 17, 18, 19, 20, 21, 3, 22, 23, 24, 25, 26, 27, 28, 29, 30, 31, 32, 33, 34, 35, 36, 37, 38, 39, 40, 41, 42, 43, 44, 45, 46, 47, 48, 49, 50, 51, 52, 53, 54, 55, 56, 57, 58, 59, 60, 61, 62, 63, 64, 65, 66, 67, 68] (by decide +kernel) (by decide +kernel)
set_option maxRecDepth 20000 in
theorem gX11_behind_X11_ends : GoodIn wsX11_behind (wsV RX11 293 RX11 yX11_ends wsX11_ends) := goodIn_app (goodIn_of _ (by decide +kernel)) ggX11_behind_X11_ends
set_option maxRecDepth 20000 in
theorem ggX11_behind_X11_lastOf : GoodIn wsX11_behind wsX11_lastOf := goodIn_r _ [22, 17, 23, 24, 25, 3, 26, 27, 28, 29, 30, 31, 32, 33, 34, 35, 36, 37, 38, 39, 40, 41, 42, 43, 44, 45, 46, 47, 48, 49, 50, 51, 52, 53, 54, 55, 56, 57, 58, 59, 60, 61, 62, 63, 64, 65, 66, 67, 68] (by decide +kernel) (by decide +kernel)
set_option maxRecDepth 20000 in
theorem gX11_behind_X11_lastOf : GoodIn wsX11_behind (wsV RX11 285 RX11 yX11_lastOf wsX11_lastOf) := goodIn_app (goodIn_of _ (by decide +kernel)) ggX11_behind_X11_lastOf
theorem dX11_behind_0 : decode cX11_behind 0 = .ok (.iload_n 1, 1) := by decide +kernel
theorem dX11_behind_1 : decode cX11_behind 1 = .ok (.invokestatic 227, 3) := by decide +kernel
theorem dX11_behind_4 : decode cX11_behind 4 = .ok (.ifCond .eq 10, 3) := by decide +kernel
theorem dX11_behind_7 : decode cX11_behind 7 = .ok (.iload_n 2, 1) := by decide +kernel
theorem dX11_behind_8 : decode cX11_behind 8 = .ok (.invokestatic 290, 3) := by decide +kernel
theorem dX11_behind_11 : decode cX11_behind 11 = .ok (.ifCond .ne 5, 3) := by decide +kernel
theorem dX11_behind_14 : decode cX11_behind 14 = .ok (.iconst (-1), 1) := by decide +kernel
theorem dX11_behind_15 : decode cX11_behind 15 = .ok (.ireturn, 1) := by decide +kernel
theorem dX11_behind_16 : decode cX11_behind 16 = .ok (.aload_n 0, 1) := by decide +kernel
theorem dX11_behind_17 : decode cX11_behind 17 = .ok (.iload_n 1, 1) := by decide +kernel
theorem dX11_behind_18 : decode cX11_behind 18 = .ok (.invokevirtual 293, 3) := by decide +kernel
theorem dX11_behind_21 : decode cX11_behind 21 = .ok (.iconst 0, 1) := by decide +kernel
theorem dX11_behind_22 : decode cX11_behind 22 = .ok (.istore_n 3, 1) := by decide +kernel
theorem dX11_behind_23 : decode cX11_behind 23 = .ok (.iconst 0, 1) := by decide +kernel
theorem dX11_behind_24 : decode cX11_behind 24 = .ok (.istore 4, 2) := by decide +kernel
theorem dX11_behind_26 : decode cX11_behind 26 = .ok (.iload 4, 2) := by decide +kernel
theorem dX11_behind_28 : decode cX11_behind 28 = .ok (.iconst 4, 1) := by decide +kernel
theorem dX11_behind_29 : decode cX11_behind 29 = .ok (.if_icmp .ge 34, 3) := by decide +kernel
theorem dX11_behind_32 : decode cX11_behind 32 = .ok (.iload_n 3, 1) := by decide +kernel
theorem dX11_behind_33 : decode cX11_behind 33 = .ok (.iload_n 2, 1) := by decide +kernel
theorem dX11_behind_34 : decode cX11_behind 34 = .ok (.iload 4, 2) := by decide +kernel
theorem dX11_behind_36 : decode cX11_behind 36 = .ok (.ishr, 1) := by decide +kernel
theorem dX11_behind_37 : decode cX11_behind 37 = .ok (.iconst 1, 1) := by decide +kernel
theorem dX11_behind_38 : decode cX11_behind 38 = .ok (.iand, 1) := by decide +kernel
theorem dX11_behind_39 : decode cX11_behind 39 = .ok (.iconst 1, 1) := by decide +kernel
theorem dX11_behind_40 : decode cX11_behind 40 = .ok (.if_icmp .ne 14, 3) := by decide +kernel
theorem dX11_behind_43 : decode cX11_behind 43 = .ok (.aload_n 0, 1) := by decide +kernel
theorem dX11_behind_44 : decode cX11_behind 44 = .ok (.iload_n 1, 1) := by decide +kernel
theorem dX11_behind_45 : decode cX11_behind 45 = .ok (.iconst 0, 1) := by decide +kernel
theorem dX11_behind_46 : decode cX11_behind 46 = .ok (.iload 4, 2) := by decide +kernel
theorem dX11_behind_48 : decode cX11_behind 48 = .ok (.invokevirtual 285, 3) := by decide +kernel
theorem dX11_behind_51 : decode cX11_behind 51 = .ok (.goto 4, 3) := by decide +kernel
theorem dX11_behind_54 : decode cX11_behind 54 = .ok (.iconst 0, 1) := by decide +kernel
theorem dX11_behind_55 : decode cX11_behind 55 = .ok (.ior, 1) := by decide +kernel
theorem dX11_behind_56 : decode cX11_behind 56 = .ok (.istore_n 3, 1) := by decide +kernel
theorem dX11_behind_57 : decode cX11_behind 57 = .ok (.iinc 4 1, 3) := by decide +kernel
theorem dX11_behind_60 : decode cX11_behind 60 = .ok (.goto (-34), 3) := by decide +kernel
theorem dX11_behind_63 : decode cX11_behind 63 = .ok (.iload_n 3, 1) := by decide +kernel
theorem dX11_behind_64 : decode cX11_behind 64 = .ok (.ireturn, 1) := by decide +kernel
set_option maxRecDepth 20000 in
theorem ggX11_many_X11_isProgram : GoodIn wsX11_many wsX11_isProgram := goodIn_r _ [9, 10, 11, 12, 8, 13] (by decide +kernel) (by decide +kernel)
set_option maxRecDepth 20000 in
theorem gX11_many_X11_isProgram : GoodIn wsX11_many (va_wsS RX11 227 yX11_isProgram wsX11_isProgram) := goodIn_app (goodIn_of _ (by decide +kernel)) ggX11_many_X11_isProgram
set_option maxRecDepth 20000 in
theorem ggX11_many_X11_in : GoodIn wsX11_many wsX11_in := goodIn_r _ [13] (by decide +kernel) (by decide +kernel)
set_option maxRecDepth 20000 in
theorem gX11_many_X11_in : GoodIn wsX11_many (va_wsS RX11 99 yX11_in wsX11_in) := goodIn_app (goodIn_of _ (by decide +kernel)) ggX11_many_X11_in
set_option maxRecDepth 20000 in
theorem ggX11_many_X11_to : GoodIn wsX11_many wsX11_to := goodIn_r _ [17, 18, 19, 20, 21, 22, 23, 24, 25, 26, 27, 28, 29, 30, 31, 32, 33, 34, 35, 36, 37, 38, 39, 40, 41, 42, 43, 44, 45, 46, 47, 48, 49, 50, 51, 52, 53, 54, 55, 56, 57, 58, 59] (by decide +kernel) (by decide +kernel)
set_option maxRecDepth 20000 in
theorem gX11_many_X11_to : GoodIn wsX11_many (wsV RX11 239 RX11 yX11_to wsX11_to) := goodIn_app (goodIn_of _ (by decide +kernel)) ggX11_many_X11_to
theorem dX11_many_0 : decode cX11_many 0 = .ok (.iload_n 1, 1) := by decide +kernel
theorem dX11_many_1 : decode cX11_many 1 = .ok (.invokestatic 227, 3) := by decide +kernel
theorem dX11_many_4 : decode cX11_many 4 = .ok (.ifCond .eq 15, 3) := by decide +kernel
theorem dX11_many_7 : decode cX11_many 7 = .ok (.iload_n 2, 1) := by decide +kernel
theorem dX11_many_8 : decode cX11_many 8 = .ok (.i2l, 1) := by decide +kernel
theorem dX11_many_9 : decode cX11_many 9 = .ok (.lconst 0, 1) := by decide +kernel
theorem dX11_many_10 : decode cX11_many 10 = .ok (.ldc2_w 200, 3) := by decide +kernel
theorem dX11_many_13 : decode cX11_many 13 = .ok (.invokestatic 99, 3) := by decide +kernel
theorem dX11_many_16 : decode cX11_many 16 = .ok (.ifCond .ne 7, 3) := by decide +kernel
theorem dX11_many_19 : decode cX11_many 19 = .ok (.ldc2_w 261, 3) := by decide +kernel
theorem dX11_many_22 : decode cX11_many 22 = .ok (.lreturn, 1) := by decide +kernel
theorem dX11_many_23 : decode cX11_many 23 = .ok (.iconst 0, 1) := by decide +kernel
theorem dX11_many_24 : decode cX11_many 24 = .ok (.istore_n 3, 1) := by decide +kernel
theorem dX11_many_25 : decode cX11_many 25 = .ok (.iload_n 3, 1) := by decide +kernel
theorem dX11_many_26 : decode cX11_many 26 = .ok (.iload_n 2, 1) := by decide +kernel
theorem dX11_many_27 : decode cX11_many 27 = .ok (.if_icmp .gt 136, 3) := by decide +kernel
theorem dX11_many_30 : decode cX11_many 30 = .ok (.iconst 0, 1) := by decide +kernel
theorem dX11_many_31 : decode cX11_many 31 = .ok (.istore 4, 2) := by decide +kernel
theorem dX11_many_33 : decode cX11_many 33 = .ok (.iload 4, 2) := by decide +kernel
theorem dX11_many_35 : decode cX11_many 35 = .ok (.bipush 17, 2) := by decide +kernel
theorem dX11_many_37 : decode cX11_many 37 = .ok (.if_icmp .ge 23, 3) := by decide +kernel
theorem dX11_many_40 : decode cX11_many 40 = .ok (.aload_n 0, 1) := by decide +kernel
theorem dX11_many_41 : decode cX11_many 41 = .ok (.getfield 90, 3) := by decide +kernel
theorem dX11_many_44 : decode cX11_many 44 = .ok (.iload 4, 2) := by decide +kernel
theorem dX11_many_46 : decode cX11_many 46 = .ok (.aload_n 0, 1) := by decide +kernel
theorem dX11_many_47 : decode cX11_many 47 = .ok (.getfield 86, 3) := by decide +kernel
theorem dX11_many_50 : decode cX11_many 50 = .ok (.iload 4, 2) := by decide +kernel
theorem dX11_many_52 : decode cX11_many 52 = .ok (.laload, 1) := by decide +kernel
theorem dX11_many_53 : decode cX11_many 53 = .ok (.lastore, 1) := by decide +kernel
theorem dX11_many_54 : decode cX11_many 54 = .ok (.iinc 4 1, 3) := by decide +kernel
theorem dX11_many_57 : decode cX11_many 57 = .ok (.goto (-24), 3) := by decide +kernel
theorem dX11_many_60 : decode cX11_many 60 = .ok (.iconst 0, 1) := by decide +kernel
theorem dX11_many_61 : decode cX11_many 61 = .ok (.istore 4, 2) := by decide +kernel
theorem dX11_many_63 : decode cX11_many 63 = .ok (.iload 4, 2) := by decide +kernel
theorem dX11_many_65 : decode cX11_many 65 = .ok (.aload_n 0, 1) := by decide +kernel
theorem dX11_many_66 : decode cX11_many 66 = .ok (.getfield 31, 3) := by decide +kernel
theorem dX11_many_69 : decode cX11_many 69 = .ok (.iload_n 1, 1) := by decide +kernel
theorem dX11_many_70 : decode cX11_many 70 = .ok (.iaload, 1) := by decide +kernel
theorem dX11_many_71 : decode cX11_many 71 = .ok (.if_icmp .gt 86, 3) := by decide +kernel
theorem dX11_many_74 : decode cX11_many 74 = .ok (.aload_n 0, 1) := by decide +kernel
theorem dX11_many_75 : decode cX11_many 75 = .ok (.getfield 86, 3) := by decide +kernel
theorem dX11_many_78 : decode cX11_many 78 = .ok (.iload 4, 2) := by decide +kernel
theorem dX11_many_80 : decode cX11_many 80 = .ok (.lconst 0, 1) := by decide +kernel
theorem dX11_many_81 : decode cX11_many 81 = .ok (.lastore, 1) := by decide +kernel
theorem dX11_many_82 : decode cX11_many 82 = .ok (.iconst 0, 1) := by decide +kernel
theorem dX11_many_83 : decode cX11_many 83 = .ok (.istore 5, 2) := by decide +kernel
theorem dX11_many_85 : decode cX11_many 85 = .ok (.iload 5, 2) := by decide +kernel
theorem dX11_many_87 : decode cX11_many 87 = .ok (.iconst 4, 1) := by decide +kernel
theorem dX11_many_88 : decode cX11_many 88 = .ok (.if_icmp .ge 63, 3) := by decide +kernel
theorem dX11_many_91 : decode cX11_many 91 = .ok (.aload_n 0, 1) := by decide +kernel
theorem dX11_many_92 : decode cX11_many 92 = .ok (.iload_n 1, 1) := by decide +kernel
theorem dX11_many_93 : decode cX11_many 93 = .ok (.iload 4, 2) := by decide +kernel
theorem dX11_many_95 : decode cX11_many 95 = .ok (.iload 5, 2) := by decide +kernel
theorem dX11_many_97 : decode cX11_many 97 = .ok (.invokevirtual 239, 3) := by decide +kernel
theorem dX11_many_100 : decode cX11_many 100 = .ok (.istore 6, 2) := by decide +kernel
theorem dX11_many_102 : decode cX11_many 102 = .ok (.aload_n 0, 1) := by decide +kernel
theorem dX11_many_103 : decode cX11_many 103 = .ok (.getfield 86, 3) := by decide +kernel
theorem dX11_many_106 : decode cX11_many 106 = .ok (.iload 4, 2) := by decide +kernel
theorem dX11_many_108 : decode cX11_many 108 = .ok (.dup2, 1) := by decide +kernel
theorem dX11_many_109 : decode cX11_many 109 = .ok (.laload, 1) := by decide +kernel
theorem dX11_many_110 : decode cX11_many 110 = .ok (.iload 6, 2) := by decide +kernel
theorem dX11_many_112 : decode cX11_many 112 = .ok (.ifCond .ne 11, 3) := by decide +kernel
theorem dX11_many_115 : decode cX11_many 115 = .ok (.iload_n 3, 1) := by decide +kernel
theorem dX11_many_116 : decode cX11_many 116 = .ok (.ifCond .ne 7, 3) := by decide +kernel
theorem dX11_many_119 : decode cX11_many 119 = .ok (.lconst 1, 1) := by decide +kernel
theorem dX11_many_120 : decode cX11_many 120 = .ok (.goto 23, 3) := by decide +kernel
theorem dX11_many_123 : decode cX11_many 123 = .ok (.iload 6, 2) := by decide +kernel
theorem dX11_many_125 : decode cX11_many 125 = .ok (.ifCond .le 17, 3) := by decide +kernel
theorem dX11_many_128 : decode cX11_many 128 = .ok (.iload_n 3, 1) := by decide +kernel
theorem dX11_many_129 : decode cX11_many 129 = .ok (.ifCond .le 13, 3) := by decide +kernel
theorem dX11_many_132 : decode cX11_many 132 = .ok (.aload_n 0, 1) := by decide +kernel
theorem dX11_many_133 : decode cX11_many 133 = .ok (.getfield 90, 3) := by decide +kernel
theorem dX11_many_136 : decode cX11_many 136 = .ok (.iload 6, 2) := by decide +kernel
theorem dX11_many_138 : decode cX11_many 138 = .ok (.laload, 1) := by decide +kernel
theorem dX11_many_139 : decode cX11_many 139 = .ok (.goto 4, 3) := by decide +kernel
theorem dX11_many_142 : decode cX11_many 142 = .ok (.lconst 0, 1) := by decide +kernel
theorem dX11_many_143 : decode cX11_many 143 = .ok (.ladd, 1) := by decide +kernel
theorem dX11_many_144 : decode cX11_many 144 = .ok (.lastore, 1) := by decide +kernel
theorem dX11_many_145 : decode cX11_many 145 = .ok (.iinc 5 1, 3) := by decide +kernel
theorem dX11_many_148 : decode cX11_many 148 = .ok (.goto (-63), 3) := by decide +kernel
theorem dX11_many_151 : decode cX11_many 151 = .ok (.iinc 4 1, 3) := by decide +kernel
theorem dX11_many_154 : decode cX11_many 154 = .ok (.goto (-91), 3) := by decide +kernel
theorem dX11_many_157 : decode cX11_many 157 = .ok (.iinc 3 1, 3) := by decide +kernel
theorem dX11_many_160 : decode cX11_many 160 = .ok (.goto (-135), 3) := by decide +kernel
theorem dX11_many_163 : decode cX11_many 163 = .ok (.aload_n 0, 1) := by decide +kernel
theorem dX11_many_164 : decode cX11_many 164 = .ok (.getfield 86, 3) := by decide +kernel
theorem dX11_many_167 : decode cX11_many 167 = .ok (.iconst 0, 1) := by decide +kernel
theorem dX11_many_168 : decode cX11_many 168 = .ok (.laload, 1) := by decide +kernel
theorem dX11_many_169 : decode cX11_many 169 = .ok (.lreturn, 1) := by decide +kernel
set_option maxRecDepth 20000 in
theorem ggX11_walks_X11_isProgram : GoodIn wsX11_walks wsX11_isProgram := goodIn_r _ [8, 9, 10, 11, 7, 12] (by decide +kernel) (by decide +kernel)
set_option maxRecDepth 20000 in
theorem gX11_walks_X11_isProgram : GoodIn wsX11_walks (va_wsS RX11 227 yX11_isProgram wsX11_isProgram) := goodIn_app (goodIn_of _ (by decide +kernel)) ggX11_walks_X11_isProgram
set_option maxRecDepth 20000 in
theorem ggX11_walks_X11_in : GoodIn wsX11_walks wsX11_in := goodIn_r _ [12] (by decide +kernel) (by decide +kernel)
set_option maxRecDepth 20000 in
theorem gX11_walks_X11_in : GoodIn wsX11_walks (va_wsS RX11 99 yX11_in wsX11_in) := goodIn_app (goodIn_of _ (by decide +kernel)) ggX11_walks_X11_in
set_option maxRecDepth 20000 in
theorem ggX11_walks_X11_to : GoodIn wsX11_walks wsX11_to := goodIn_r _ [16, 17, 23, 24, 25, 26, 27, 28, 29, 30, 31, 32, 33, 34, 35, 36, 37, 38, 39, 40, 41, 42, 43, 44, 45, 46, 47, 48, 49, 50, 51, 52, 53, 54, 55, 56, 57, 58, 59, 60, 61, 62, 63] (by decide +kernel) (by decide +kernel)
set_option maxRecDepth 20000 in
theorem gX11_walks_X11_to : GoodIn wsX11_walks (wsV RX11 239 RX11 yX11_to wsX11_to) := goodIn_app (goodIn_of _ (by decide +kernel)) ggX11_walks_X11_to
set_option maxRecDepth 20000 in
theorem ggX11_walks_X11_actOf : GoodIn wsX11_walks wsX11_actOf := goodIn_r _ [21, 22, 23, 24, 25, 26, 27, 28, 29, 30, 31, 32, 33, 34, 35, 36, 37, 38, 39, 40, 41, 42, 43, 44, 45, 46, 47, 48, 49, 50, 51, 52, 53, 54, 55, 56, 57, 58, 59, 60, 61, 62, 63] (by decide +kernel) (by decide +kernel)
set_option maxRecDepth 20000 in
theorem gX11_walks_X11_actOf : GoodIn wsX11_walks (wsV RX11 242 RX11 yX11_actOf wsX11_actOf) := goodIn_app (goodIn_of _ (by decide +kernel)) ggX11_walks_X11_actOf
theorem dX11_walks_0 : decode cX11_walks 0 = .ok (.iload_n 1, 1) := by decide +kernel
theorem dX11_walks_1 : decode cX11_walks 1 = .ok (.invokestatic 227, 3) := by decide +kernel
theorem dX11_walks_4 : decode cX11_walks 4 = .ok (.ifCond .eq 15, 3) := by decide +kernel
theorem dX11_walks_7 : decode cX11_walks 7 = .ok (.iload_n 2, 1) := by decide +kernel
theorem dX11_walks_8 : decode cX11_walks 8 = .ok (.i2l, 1) := by decide +kernel
theorem dX11_walks_9 : decode cX11_walks 9 = .ok (.lconst 0, 1) := by decide +kernel
theorem dX11_walks_10 : decode cX11_walks 10 = .ok (.ldc2_w 267, 3) := by decide +kernel
theorem dX11_walks_13 : decode cX11_walks 13 = .ok (.invokestatic 99, 3) := by decide +kernel
theorem dX11_walks_16 : decode cX11_walks 16 = .ok (.ifCond .ne 5, 3) := by decide +kernel
theorem dX11_walks_19 : decode cX11_walks 19 = .ok (.iconst 0, 1) := by decide +kernel
theorem dX11_walks_20 : decode cX11_walks 20 = .ok (.ireturn, 1) := by decide +kernel
theorem dX11_walks_21 : decode cX11_walks 21 = .ok (.lconst 1, 1) := by decide +kernel
theorem dX11_walks_22 : decode cX11_walks 22 = .ok (.lstore 5, 2) := by decide +kernel
theorem dX11_walks_24 : decode cX11_walks 24 = .ok (.iconst 0, 1) := by decide +kernel
theorem dX11_walks_25 : decode cX11_walks 25 = .ok (.istore 7, 2) := by decide +kernel
theorem dX11_walks_27 : decode cX11_walks 27 = .ok (.iload 7, 2) := by decide +kernel
theorem dX11_walks_29 : decode cX11_walks 29 = .ok (.iload_n 2, 1) := by decide +kernel
theorem dX11_walks_30 : decode cX11_walks 30 = .ok (.if_icmp .ge 17, 3) := by decide +kernel
theorem dX11_walks_33 : decode cX11_walks 33 = .ok (.lload 5, 2) := by decide +kernel
theorem dX11_walks_35 : decode cX11_walks 35 = .ok (.ldc2_w 267, 3) := by decide +kernel
theorem dX11_walks_38 : decode cX11_walks 38 = .ok (.lmul, 1) := by decide +kernel
theorem dX11_walks_39 : decode cX11_walks 39 = .ok (.lstore 5, 2) := by decide +kernel
theorem dX11_walks_41 : decode cX11_walks 41 = .ok (.iinc 7 1, 3) := by decide +kernel
theorem dX11_walks_44 : decode cX11_walks 44 = .ok (.goto (-17), 3) := by decide +kernel
theorem dX11_walks_47 : decode cX11_walks 47 = .ok (.lload_n 3, 1) := by decide +kernel
theorem dX11_walks_48 : decode cX11_walks 48 = .ok (.lconst 0, 1) := by decide +kernel
theorem dX11_walks_49 : decode cX11_walks 49 = .ok (.ldc2_w 296, 3) := by decide +kernel
theorem dX11_walks_52 : decode cX11_walks 52 = .ok (.lload 5, 2) := by decide +kernel
theorem dX11_walks_54 : decode cX11_walks 54 = .ok (.lmul, 1) := by decide +kernel
theorem dX11_walks_55 : decode cX11_walks 55 = .ok (.lconst 1, 1) := by decide +kernel
theorem dX11_walks_56 : decode cX11_walks 56 = .ok (.lsub, 1) := by decide +kernel
theorem dX11_walks_57 : decode cX11_walks 57 = .ok (.invokestatic 99, 3) := by decide +kernel
theorem dX11_walks_60 : decode cX11_walks 60 = .ok (.ifCond .ne 5, 3) := by decide +kernel
theorem dX11_walks_63 : decode cX11_walks 63 = .ok (.iconst 0, 1) := by decide +kernel
theorem dX11_walks_64 : decode cX11_walks 64 = .ok (.ireturn, 1) := by decide +kernel
theorem dX11_walks_65 : decode cX11_walks 65 = .ok (.aload_n 0, 1) := by decide +kernel
theorem dX11_walks_66 : decode cX11_walks 66 = .ok (.iconst 0, 1) := by decide +kernel
theorem dX11_walks_67 : decode cX11_walks 67 = .ok (.putfield 298, 3) := by decide +kernel
theorem dX11_walks_70 : decode cX11_walks 70 = .ok (.iconst 0, 1) := by decide +kernel
theorem dX11_walks_71 : decode cX11_walks 71 = .ok (.istore 7, 2) := by decide +kernel
theorem dX11_walks_73 : decode cX11_walks 73 = .ok (.lload_n 3, 1) := by decide +kernel
theorem dX11_walks_74 : decode cX11_walks 74 = .ok (.lstore 8, 2) := by decide +kernel
theorem dX11_walks_76 : decode cX11_walks 76 = .ok (.lload 8, 2) := by decide +kernel
theorem dX11_walks_78 : decode cX11_walks 78 = .ok (.lload 5, 2) := by decide +kernel
theorem dX11_walks_80 : decode cX11_walks 80 = .ok (.ldiv, 1) := by decide +kernel
theorem dX11_walks_81 : decode cX11_walks 81 = .ok (.l2i, 1) := by decide +kernel
theorem dX11_walks_82 : decode cX11_walks 82 = .ok (.iconst 4, 1) := by decide +kernel
theorem dX11_walks_83 : decode cX11_walks 83 = .ok (.irem, 1) := by decide +kernel
theorem dX11_walks_84 : decode cX11_walks 84 = .ok (.istore 10, 2) := by decide +kernel
theorem dX11_walks_86 : decode cX11_walks 86 = .ok (.lload 8, 2) := by decide +kernel
theorem dX11_walks_88 : decode cX11_walks 88 = .ok (.lload 5, 2) := by decide +kernel
theorem dX11_walks_90 : decode cX11_walks 90 = .ok (.lrem, 1) := by decide +kernel
theorem dX11_walks_91 : decode cX11_walks 91 = .ok (.lstore 8, 2) := by decide +kernel
theorem dX11_walks_93 : decode cX11_walks 93 = .ok (.aload_n 0, 1) := by decide +kernel
theorem dX11_walks_94 : decode cX11_walks 94 = .ok (.aload_n 0, 1) := by decide +kernel
theorem dX11_walks_95 : decode cX11_walks 95 = .ok (.iload_n 1, 1) := by decide +kernel
theorem dX11_walks_96 : decode cX11_walks 96 = .ok (.iload 7, 2) := by decide +kernel
theorem dX11_walks_98 : decode cX11_walks 98 = .ok (.iload 10, 2) := by decide +kernel
theorem dX11_walks_100 : decode cX11_walks 100 = .ok (.invokevirtual 239, 3) := by decide +kernel
theorem dX11_walks_103 : decode cX11_walks 103 = .ok (.putfield 301, 3) := by decide +kernel
theorem dX11_walks_106 : decode cX11_walks 106 = .ok (.lload 5, 2) := by decide +kernel
theorem dX11_walks_108 : decode cX11_walks 108 = .ok (.ldc2_w 267, 3) := by decide +kernel
theorem dX11_walks_111 : decode cX11_walks 111 = .ok (.ldiv, 1) := by decide +kernel
theorem dX11_walks_112 : decode cX11_walks 112 = .ok (.lstore 5, 2) := by decide +kernel
theorem dX11_walks_114 : decode cX11_walks 114 = .ok (.aload_n 0, 1) := by decide +kernel
theorem dX11_walks_115 : decode cX11_walks 115 = .ok (.getfield 301, 3) := by decide +kernel
theorem dX11_walks_118 : decode cX11_walks 118 = .ok (.ifCond .le 33, 3) := by decide +kernel
theorem dX11_walks_121 : decode cX11_walks 121 = .ok (.aload_n 0, 1) := by decide +kernel
theorem dX11_walks_122 : decode cX11_walks 122 = .ok (.getfield 298, 3) := by decide +kernel
theorem dX11_walks_125 : decode cX11_walks 125 = .ok (.iload_n 2, 1) := by decide +kernel
theorem dX11_walks_126 : decode cX11_walks 126 = .ok (.if_icmp .eq 25, 3) := by decide +kernel
theorem dX11_walks_129 : decode cX11_walks 129 = .ok (.aload_n 0, 1) := by decide +kernel
theorem dX11_walks_130 : decode cX11_walks 130 = .ok (.iload_n 1, 1) := by decide +kernel
theorem dX11_walks_131 : decode cX11_walks 131 = .ok (.aload_n 0, 1) := by decide +kernel
theorem dX11_walks_132 : decode cX11_walks 132 = .ok (.getfield 301, 3) := by decide +kernel
theorem dX11_walks_135 : decode cX11_walks 135 = .ok (.invokevirtual 242, 3) := by decide +kernel
theorem dX11_walks_138 : decode cX11_walks 138 = .ok (.lload 8, 2) := by decide +kernel
theorem dX11_walks_140 : decode cX11_walks 140 = .ok (.lload 5, 2) := by decide +kernel
theorem dX11_walks_142 : decode cX11_walks 142 = .ok (.ldiv, 1) := by decide +kernel
theorem dX11_walks_143 : decode cX11_walks 143 = .ok (.l2i, 1) := by decide +kernel
theorem dX11_walks_144 : decode cX11_walks 144 = .ok (.iconst 4, 1) := by decide +kernel
theorem dX11_walks_145 : decode cX11_walks 145 = .ok (.idiv, 1) := by decide +kernel
theorem dX11_walks_146 : decode cX11_walks 146 = .ok (.iconst 1, 1) := by decide +kernel
theorem dX11_walks_147 : decode cX11_walks 147 = .ok (.iadd, 1) := by decide +kernel
theorem dX11_walks_148 : decode cX11_walks 148 = .ok (.if_icmp .eq 5, 3) := by decide +kernel
theorem dX11_walks_151 : decode cX11_walks 151 = .ok (.iconst 1, 1) := by decide +kernel
theorem dX11_walks_152 : decode cX11_walks 152 = .ok (.ireturn, 1) := by decide +kernel
theorem dX11_walks_153 : decode cX11_walks 153 = .ok (.aload_n 0, 1) := by decide +kernel
theorem dX11_walks_154 : decode cX11_walks 154 = .ok (.getfield 301, 3) := by decide +kernel
theorem dX11_walks_157 : decode cX11_walks 157 = .ok (.istore 7, 2) := by decide +kernel
theorem dX11_walks_159 : decode cX11_walks 159 = .ok (.aload_n 0, 1) := by decide +kernel
theorem dX11_walks_160 : decode cX11_walks 160 = .ok (.dup, 1) := by decide +kernel
theorem dX11_walks_161 : decode cX11_walks 161 = .ok (.getfield 298, 3) := by decide +kernel
theorem dX11_walks_164 : decode cX11_walks 164 = .ok (.iconst 1, 1) := by decide +kernel
theorem dX11_walks_165 : decode cX11_walks 165 = .ok (.iadd, 1) := by decide +kernel
theorem dX11_walks_166 : decode cX11_walks 166 = .ok (.putfield 298, 3) := by decide +kernel
theorem dX11_walks_169 : decode cX11_walks 169 = .ok (.goto (-93), 3) := by decide +kernel
set_option maxRecDepth 20000 in
theorem ggX11_lets_X11_walks : GoodIn wsX11_lets wsX11_walks := goodIn_r _ [7, 8, 9, 1, 2, 10, 11, 6, 12, 13, 14, 15, 16, 17, 18, 19, 20, 21, 22, 23, 24, 25, 26, 27, 28, 29, 30, 31, 32, 33, 34, 35, 36, 37, 38, 39, 40, 41, 42, 43, 44, 45, 46, 47, 48, 49, 50, 51, 52, 53, 54, 55, 56, 57, 58, 59, 60, 61, 62, 63, 64, 65, 66, 67] (by decide +kernel) (by decide +kernel)
set_option maxRecDepth 20000 in
theorem gX11_lets_X11_walks : GoodIn wsX11_lets (wsV RX11 304 RX11 yX11_walks wsX11_walks) := goodIn_app (goodIn_of _ (by decide +kernel)) ggX11_lets_X11_walks
theorem dX11_lets_0 : decode cX11_lets 0 = .ok (.aload_n 0, 1) := by decide +kernel
theorem dX11_lets_1 : decode cX11_lets 1 = .ok (.iload_n 1, 1) := by decide +kernel
theorem dX11_lets_2 : decode cX11_lets 2 = .ok (.iload_n 2, 1) := by decide +kernel
theorem dX11_lets_3 : decode cX11_lets 3 = .ok (.lload_n 3, 1) := by decide +kernel
theorem dX11_lets_4 : decode cX11_lets 4 = .ok (.invokevirtual 304, 3) := by decide +kernel
theorem dX11_lets_7 : decode cX11_lets 7 = .ok (.ifCond .ne 7, 3) := by decide +kernel
theorem dX11_lets_10 : decode cX11_lets 10 = .ok (.iconst (-1), 1) := by decide +kernel
theorem dX11_lets_11 : decode cX11_lets 11 = .ok (.goto 23, 3) := by decide +kernel
theorem dX11_lets_14 : decode cX11_lets 14 = .ok (.aload_n 0, 1) := by decide +kernel
theorem dX11_lets_15 : decode cX11_lets 15 = .ok (.getfield 298, 3) := by decide +kernel
theorem dX11_lets_18 : decode cX11_lets 18 = .ok (.iload_n 2, 1) := by decide +kernel
theorem dX11_lets_19 : decode cX11_lets 19 = .ok (.if_icmp .ne 14, 3) := by decide +kernel
theorem dX11_lets_22 : decode cX11_lets 22 = .ok (.aload_n 0, 1) := by decide +kernel
theorem dX11_lets_23 : decode cX11_lets 23 = .ok (.getfield 301, 3) := by decide +kernel
theorem dX11_lets_26 : decode cX11_lets 26 = .ok (.ifCond .ne 7, 3) := by decide +kernel
theorem dX11_lets_29 : decode cX11_lets 29 = .ok (.iconst 1, 1) := by decide +kernel
theorem dX11_lets_30 : decode cX11_lets 30 = .ok (.goto 4, 3) := by decide +kernel
theorem dX11_lets_33 : decode cX11_lets 33 = .ok (.iconst 0, 1) := by decide +kernel
theorem dX11_lets_34 : decode cX11_lets 34 = .ok (.ireturn, 1) := by decide +kernel
set_option maxRecDepth 20000 in
theorem ggX11_walk_X11_in : GoodIn wsX11_walk wsX11_in := goodIn_r _ [6] (by decide +kernel) (by decide +kernel)
set_option maxRecDepth 20000 in
theorem gX11_walk_X11_in : GoodIn wsX11_walk (va_wsS RX11 99 yX11_in wsX11_in) := goodIn_app (goodIn_of _ (by decide +kernel)) ggX11_walk_X11_in
set_option maxRecDepth 20000 in
theorem ggX11_walk_X11_walks : GoodIn wsX11_walk wsX11_walks := goodIn_r _ [10, 11, 12, 1, 2, 13, 14, 5, 15, 16, 3, 4, 6, 17, 18, 19, 20, 21, 22, 23, 24, 25, 26, 27, 28, 29, 30, 31, 32, 33, 34, 35, 36, 37, 38, 39, 40, 41, 42, 43, 44, 45, 46, 47, 48, 49, 50, 51, 52, 53, 54, 55, 56, 57, 58, 59, 60, 61, 62, 63, 64, 65, 66, 67] (by decide +kernel) (by decide +kernel)
set_option maxRecDepth 20000 in
theorem gX11_walk_X11_walks : GoodIn wsX11_walk (wsV RX11 304 RX11 yX11_walks wsX11_walks) := goodIn_app (goodIn_of _ (by decide +kernel)) ggX11_walk_X11_walks
theorem dX11_walk_0 : decode cX11_walk 0 = .ok (.iload 5, 2) := by decide +kernel
theorem dX11_walk_2 : decode cX11_walk 2 = .ok (.i2l, 1) := by decide +kernel
theorem dX11_walk_3 : decode cX11_walk 3 = .ok (.lconst 0, 1) := by decide +kernel
theorem dX11_walk_4 : decode cX11_walk 4 = .ok (.lconst 1, 1) := by decide +kernel
theorem dX11_walk_5 : decode cX11_walk 5 = .ok (.invokestatic 99, 3) := by decide +kernel
theorem dX11_walk_8 : decode cX11_walk 8 = .ok (.ifCond .eq 13, 3) := by decide +kernel
theorem dX11_walk_11 : decode cX11_walk 11 = .ok (.aload_n 0, 1) := by decide +kernel
theorem dX11_walk_12 : decode cX11_walk 12 = .ok (.iload_n 1, 1) := by decide +kernel
theorem dX11_walk_13 : decode cX11_walk 13 = .ok (.iload_n 2, 1) := by decide +kernel
theorem dX11_walk_14 : decode cX11_walk 14 = .ok (.lload_n 3, 1) := by decide +kernel
theorem dX11_walk_15 : decode cX11_walk 15 = .ok (.invokevirtual 304, 3) := by decide +kernel
theorem dX11_walk_18 : decode cX11_walk 18 = .ok (.ifCond .ne 5, 3) := by decide +kernel
theorem dX11_walk_21 : decode cX11_walk 21 = .ok (.iconst (-1), 1) := by decide +kernel
theorem dX11_walk_22 : decode cX11_walk 22 = .ok (.ireturn, 1) := by decide +kernel
theorem dX11_walk_23 : decode cX11_walk 23 = .ok (.iload 5, 2) := by decide +kernel
theorem dX11_walk_25 : decode cX11_walk 25 = .ok (.ifCond .ne 10, 3) := by decide +kernel
theorem dX11_walk_28 : decode cX11_walk 28 = .ok (.aload_n 0, 1) := by decide +kernel
theorem dX11_walk_29 : decode cX11_walk 29 = .ok (.getfield 298, 3) := by decide +kernel
theorem dX11_walk_32 : decode cX11_walk 32 = .ok (.goto 19, 3) := by decide +kernel
theorem dX11_walk_35 : decode cX11_walk 35 = .ok (.aload_n 0, 1) := by decide +kernel
theorem dX11_walk_36 : decode cX11_walk 36 = .ok (.getfield 301, 3) := by decide +kernel
theorem dX11_walk_39 : decode cX11_walk 39 = .ok (.ifCond .ge 8, 3) := by decide +kernel
theorem dX11_walk_42 : decode cX11_walk 42 = .ok (.bipush (-9), 2) := by decide +kernel
theorem dX11_walk_44 : decode cX11_walk 44 = .ok (.goto 7, 3) := by decide +kernel
theorem dX11_walk_47 : decode cX11_walk 47 = .ok (.aload_n 0, 1) := by decide +kernel
theorem dX11_walk_48 : decode cX11_walk 48 = .ok (.getfield 301, 3) := by decide +kernel
theorem dX11_walk_51 : decode cX11_walk 51 = .ok (.ireturn, 1) := by decide +kernel
theorem dX11_says_0 : decode cX11_says 0 = .ok (.aload_n 0, 1) := by decide +kernel
theorem dX11_says_1 : decode cX11_says 1 = .ok (.dup, 1) := by decide +kernel
theorem dX11_says_2 : decode cX11_says 2 = .ok (.getfield 308, 3) := by decide +kernel
theorem dX11_says_5 : decode cX11_says 5 = .ok (.iload_n 1, 1) := by decide +kernel
theorem dX11_says_6 : decode cX11_says 6 = .ok (.i2l, 1) := by decide +kernel
theorem dX11_says_7 : decode cX11_says 7 = .ok (.ladd, 1) := by decide +kernel
theorem dX11_says_8 : decode cX11_says 8 = .ok (.putfield 308, 3) := by decide +kernel
theorem dX11_says_11 : decode cX11_says 11 = .ok (.iconst 0, 1) := by decide +kernel
theorem dX11_says_12 : decode cX11_says 12 = .ok (.ireturn, 1) := by decide +kernel
set_option maxRecDepth 20000 in
theorem ggX11_part_X11_says : GoodIn wsX11_part wsX11_says := goodIn_r _ [5, 6, 7, 8, 9, 10, 11, 12, 13, 14, 15, 16, 17, 18, 19, 20, 21, 22, 23, 24, 25, 26, 27, 28, 29, 30, 31, 32, 33, 34, 35, 36, 37, 38, 39, 40, 41, 42, 43, 44, 45, 46, 47] (by decide +kernel) (by decide +kernel)
set_option maxRecDepth 20000 in
theorem gX11_part_X11_says : GoodIn wsX11_part (wsV RX11 312 RX11 yX11_says wsX11_says) := goodIn_app (goodIn_of _ (by decide +kernel)) ggX11_part_X11_says
theorem dX11_part_0 : decode cX11_part 0 = .ok (.aload_n 0, 1) := by decide +kernel
theorem dX11_part_1 : decode cX11_part 1 = .ok (.iconst 1, 1) := by decide +kernel
theorem dX11_part_2 : decode cX11_part 2 = .ok (.invokevirtual 312, 3) := by decide +kernel
theorem dX11_part_5 : decode cX11_part 5 = .ok (.iconst 1, 1) := by decide +kernel
theorem dX11_part_6 : decode cX11_part 6 = .ok (.iadd, 1) := by decide +kernel
theorem dX11_part_7 : decode cX11_part 7 = .ok (.ireturn, 1) := by decide +kernel
set_option maxRecDepth 20000 in
theorem ggX11_choice_X11_says : GoodIn wsX11_choice wsX11_says := goodIn_r _ [5, 6, 11, 12, 13, 14, 15, 16, 17, 18, 19, 20, 21, 22, 23, 24, 25, 26, 27, 28, 29, 30, 31, 32, 33, 34, 35, 36, 37, 38, 39, 40, 41, 42, 43, 44, 45, 46, 47, 48, 49, 50, 51] (by decide +kernel) (by decide +kernel)
set_option maxRecDepth 20000 in
theorem gX11_choice_X11_says : GoodIn wsX11_choice (wsV RX11 312 RX11 yX11_says wsX11_says) := goodIn_app (goodIn_of _ (by decide +kernel)) ggX11_choice_X11_says
set_option maxRecDepth 20000 in
theorem ggX11_choice_X11_part : GoodIn wsX11_choice wsX11_part := goodIn_r _ [10, 1, 2, 3, 4, 5, 6, 11, 12, 13, 14, 15, 16, 17, 18, 19, 20, 21, 22, 23, 24, 25, 26, 27, 28, 29, 30, 31, 32, 33, 34, 35, 36, 37, 38, 39, 40, 41, 42, 43, 44, 45, 46, 47, 48, 49, 50, 51] (by decide +kernel) (by decide +kernel)
set_option maxRecDepth 20000 in
theorem gX11_choice_X11_part : GoodIn wsX11_choice (wsV RX11 315 RX11 yX11_part wsX11_part) := goodIn_app (goodIn_of _ (by decide +kernel)) ggX11_choice_X11_part
theorem dX11_choice_0 : decode cX11_choice 0 = .ok (.aload_n 0, 1) := by decide +kernel
theorem dX11_choice_1 : decode cX11_choice 1 = .ok (.bipush 100, 2) := by decide +kernel
theorem dX11_choice_3 : decode cX11_choice 3 = .ok (.invokevirtual 312, 3) := by decide +kernel
theorem dX11_choice_6 : decode cX11_choice 6 = .ok (.aload_n 0, 1) := by decide +kernel
theorem dX11_choice_7 : decode cX11_choice 7 = .ok (.invokevirtual 315, 3) := by decide +kernel
theorem dX11_choice_10 : decode cX11_choice 10 = .ok (.iadd, 1) := by decide +kernel
theorem dX11_choice_11 : decode cX11_choice 11 = .ok (.iload_n 1, 1) := by decide +kernel
theorem dX11_choice_12 : decode cX11_choice 12 = .ok (.iadd, 1) := by decide +kernel
theorem dX11_choice_13 : decode cX11_choice 13 = .ok (.ireturn, 1) := by decide +kernel
set_option maxRecDepth 20000 in
theorem ggX11_loop_X11_says : GoodIn wsX11_loop wsX11_says := goodIn_r _ [5, 6, 15, 16, 17, 18, 19, 20, 21, 22, 23, 24, 25, 26, 27, 28, 29, 30, 31, 32, 33, 34, 35, 36, 37, 38, 39, 40, 41, 42, 43, 44, 45, 46, 47, 48, 49, 50, 51, 52, 53, 54, 55] (by decide +kernel) (by decide +kernel)
set_option maxRecDepth 20000 in
theorem gX11_loop_X11_says : GoodIn wsX11_loop (wsV RX11 312 RX11 yX11_says wsX11_says) := goodIn_app (goodIn_of _ (by decide +kernel)) ggX11_loop_X11_says
set_option maxRecDepth 20000 in
theorem ggX11_loop_X11_choice : GoodIn wsX11_loop wsX11_choice := goodIn_r _ [10, 1, 2, 3, 4, 5, 6, 11, 12, 13, 14, 15, 16, 17, 18, 19, 20, 21, 22, 23, 24, 25, 26, 27, 28, 29, 30, 31, 32, 33, 34, 35, 36, 37, 38, 39, 40, 41, 42, 43, 44, 45, 46, 47, 48, 49, 50, 51, 52, 53, 54, 55] (by decide +kernel) (by decide +kernel)
set_option maxRecDepth 20000 in
theorem gX11_loop_X11_choice : GoodIn wsX11_loop (wsV RX11 318 RX11 yX11_choice wsX11_choice) := goodIn_app (goodIn_of _ (by decide +kernel)) ggX11_loop_X11_choice
theorem dX11_loop_0 : decode cX11_loop 0 = .ok (.aload_n 0, 1) := by decide +kernel
theorem dX11_loop_1 : decode cX11_loop 1 = .ok (.sipush 1000, 3) := by decide +kernel
theorem dX11_loop_4 : decode cX11_loop 4 = .ok (.invokevirtual 312, 3) := by decide +kernel
theorem dX11_loop_7 : decode cX11_loop 7 = .ok (.iconst 2, 1) := by decide +kernel
theorem dX11_loop_8 : decode cX11_loop 8 = .ok (.aload_n 0, 1) := by decide +kernel
theorem dX11_loop_9 : decode cX11_loop 9 = .ok (.iload_n 1, 1) := by decide +kernel
theorem dX11_loop_10 : decode cX11_loop 10 = .ok (.invokevirtual 318, 3) := by decide +kernel
theorem dX11_loop_13 : decode cX11_loop 13 = .ok (.imul, 1) := by decide +kernel
theorem dX11_loop_14 : decode cX11_loop 14 = .ok (.iadd, 1) := by decide +kernel
theorem dX11_loop_15 : decode cX11_loop 15 = .ok (.ireturn, 1) := by decide +kernel
set_option maxRecDepth 20000 in
theorem ggX11_sizeBy_X11_says : GoodIn wsX11_sizeBy wsX11_says := goodIn_r _ [5, 6, 19, 20, 21, 22, 23, 24, 25, 26, 27, 28, 29, 30, 31, 32, 33, 34, 35, 36, 37, 38, 39, 40, 41, 42, 43, 44, 45, 46, 47, 48, 49, 50, 51, 52, 53, 54, 55, 56, 57, 58, 59] (by decide +kernel) (by decide +kernel)
set_option maxRecDepth 20000 in
theorem gX11_sizeBy_X11_says : GoodIn wsX11_sizeBy (wsV RX11 312 RX11 yX11_says wsX11_says) := goodIn_app (goodIn_of _ (by decide +kernel)) ggX11_sizeBy_X11_says
set_option maxRecDepth 20000 in
theorem ggX11_sizeBy_X11_part : GoodIn wsX11_sizeBy wsX11_part := goodIn_r _ [10, 1, 2, 3, 4, 5, 6, 19, 20, 21, 22, 23, 24, 25, 26, 27, 28, 29, 30, 31, 32, 33, 34, 35, 36, 37, 38, 39, 40, 41, 42, 43, 44, 45, 46, 47, 48, 49, 50, 51, 52, 53, 54, 55, 56, 57, 58, 59] (by decide +kernel) (by decide +kernel)
set_option maxRecDepth 20000 in
theorem gX11_sizeBy_X11_part : GoodIn wsX11_sizeBy (wsV RX11 315 RX11 yX11_part wsX11_part) := goodIn_app (goodIn_of _ (by decide +kernel)) ggX11_sizeBy_X11_part
set_option maxRecDepth 20000 in
theorem ggX11_sizeBy_X11_choice : GoodIn wsX11_sizeBy wsX11_choice := goodIn_r _ [14, 1, 2, 3, 4, 5, 6, 7, 8, 9, 10, 19, 20, 21, 22, 23, 24, 25, 26, 27, 28, 29, 30, 31, 32, 33, 34, 35, 36, 37, 38, 39, 40, 41, 42, 43, 44, 45, 46, 47, 48, 49, 50, 51, 52, 53, 54, 55, 56, 57, 58, 59] (by decide +kernel) (by decide +kernel)
set_option maxRecDepth 20000 in
theorem gX11_sizeBy_X11_choice : GoodIn wsX11_sizeBy (wsV RX11 318 RX11 yX11_choice wsX11_choice) := goodIn_app (goodIn_of _ (by decide +kernel)) ggX11_sizeBy_X11_choice
set_option maxRecDepth 20000 in
theorem ggX11_sizeBy_X11_loop : GoodIn wsX11_sizeBy wsX11_loop := goodIn_r _ [18, 1, 2, 3, 4, 5, 6, 11, 12, 13, 14, 7, 8, 9, 10, 19, 20, 21, 22, 23, 24, 25, 26, 27, 28, 29, 30, 31, 32, 33, 34, 35, 36, 37, 38, 39, 40, 41, 42, 43, 44, 45, 46, 47, 48, 49, 50, 51, 52, 53, 54, 55, 56, 57, 58, 59] (by decide +kernel) (by decide +kernel)
set_option maxRecDepth 20000 in
theorem gX11_sizeBy_X11_loop : GoodIn wsX11_sizeBy (wsV RX11 321 RX11 yX11_loop wsX11_loop) := goodIn_app (goodIn_of _ (by decide +kernel)) ggX11_sizeBy_X11_loop
theorem dX11_sizeBy_0 : decode cX11_sizeBy 0 = .ok (.iload_n 1, 1) := by decide +kernel
theorem dX11_sizeBy_1 : decode cX11_sizeBy 1 = .ok (.tableswitch 74 1 4 #[31, 45, 51, 57], 31) := by decide +kernel
theorem dX11_sizeBy_32 : decode cX11_sizeBy 32 = .ok (.aload_n 0, 1) := by decide +kernel
theorem dX11_sizeBy_33 : decode cX11_sizeBy 33 = .ok (.bipush 10, 2) := by decide +kernel
theorem dX11_sizeBy_35 : decode cX11_sizeBy 35 = .ok (.invokevirtual 312, 3) := by decide +kernel
theorem dX11_sizeBy_38 : decode cX11_sizeBy 38 = .ok (.aload_n 0, 1) := by decide +kernel
theorem dX11_sizeBy_39 : decode cX11_sizeBy 39 = .ok (.invokevirtual 315, 3) := by decide +kernel
theorem dX11_sizeBy_42 : decode cX11_sizeBy 42 = .ok (.iadd, 1) := by decide +kernel
theorem dX11_sizeBy_43 : decode cX11_sizeBy 43 = .ok (.iload_n 2, 1) := by decide +kernel
theorem dX11_sizeBy_44 : decode cX11_sizeBy 44 = .ok (.iadd, 1) := by decide +kernel
theorem dX11_sizeBy_45 : decode cX11_sizeBy 45 = .ok (.ireturn, 1) := by decide +kernel
theorem dX11_sizeBy_46 : decode cX11_sizeBy 46 = .ok (.aload_n 0, 1) := by decide +kernel
theorem dX11_sizeBy_47 : decode cX11_sizeBy 47 = .ok (.iload_n 2, 1) := by decide +kernel
theorem dX11_sizeBy_48 : decode cX11_sizeBy 48 = .ok (.invokevirtual 318, 3) := by decide +kernel
theorem dX11_sizeBy_51 : decode cX11_sizeBy 51 = .ok (.ireturn, 1) := by decide +kernel
theorem dX11_sizeBy_52 : decode cX11_sizeBy 52 = .ok (.aload_n 0, 1) := by decide +kernel
theorem dX11_sizeBy_53 : decode cX11_sizeBy 53 = .ok (.iload_n 2, 1) := by decide +kernel
theorem dX11_sizeBy_54 : decode cX11_sizeBy 54 = .ok (.invokevirtual 321, 3) := by decide +kernel
theorem dX11_sizeBy_57 : decode cX11_sizeBy 57 = .ok (.ireturn, 1) := by decide +kernel
theorem dX11_sizeBy_58 : decode cX11_sizeBy 58 = .ok (.aload_n 0, 1) := by decide +kernel
theorem dX11_sizeBy_59 : decode cX11_sizeBy 59 = .ok (.sipush 10000, 3) := by decide +kernel
theorem dX11_sizeBy_62 : decode cX11_sizeBy 62 = .ok (.invokevirtual 312, 3) := by decide +kernel
theorem dX11_sizeBy_65 : decode cX11_sizeBy 65 = .ok (.aload_n 0, 1) := by decide +kernel
theorem dX11_sizeBy_66 : decode cX11_sizeBy 66 = .ok (.invokevirtual 315, 3) := by decide +kernel
theorem dX11_sizeBy_69 : decode cX11_sizeBy 69 = .ok (.iadd, 1) := by decide +kernel
theorem dX11_sizeBy_70 : decode cX11_sizeBy 70 = .ok (.iconst 4, 1) := by decide +kernel
theorem dX11_sizeBy_71 : decode cX11_sizeBy 71 = .ok (.iadd, 1) := by decide +kernel
theorem dX11_sizeBy_72 : decode cX11_sizeBy 72 = .ok (.iload_n 2, 1) := by decide +kernel
theorem dX11_sizeBy_73 : decode cX11_sizeBy 73 = .ok (.isub, 1) := by decide +kernel
theorem dX11_sizeBy_74 : decode cX11_sizeBy 74 = .ok (.ireturn, 1) := by decide +kernel
theorem dX11_sizeBy_75 : decode cX11_sizeBy 75 = .ok (.aload_n 0, 1) := by decide +kernel
theorem dX11_sizeBy_76 : decode cX11_sizeBy 76 = .ok (.invokevirtual 315, 3) := by decide +kernel
theorem dX11_sizeBy_79 : decode cX11_sizeBy 79 = .ok (.ireturn, 1) := by decide +kernel
set_option maxRecDepth 20000 in
theorem ggX11_size_X11_isProgram : GoodIn wsX11_size wsX11_isProgram := goodIn_r _ [7, 8, 9, 10, 6, 11] (by decide +kernel) (by decide +kernel)
set_option maxRecDepth 20000 in
theorem gX11_size_X11_isProgram : GoodIn wsX11_size (va_wsS RX11 227 yX11_isProgram wsX11_isProgram) := goodIn_app (goodIn_of _ (by decide +kernel)) ggX11_size_X11_isProgram
set_option maxRecDepth 20000 in
theorem ggX11_size_X11_sizeBy : GoodIn wsX11_size wsX11_sizeBy := goodIn_r _ [15, 16, 17, 18, 6, 19, 20, 21, 22, 23, 24, 25, 26, 27, 28, 29, 30, 31, 32, 33, 34, 35, 36, 37, 38, 39, 40, 41, 42, 43, 44, 45, 46, 47, 48, 49, 50, 51, 52, 53, 54, 55, 56, 57, 58, 59, 60, 61, 62, 63, 64, 65, 66, 67, 68, 69, 70, 71, 72, 73] (by decide +kernel) (by decide +kernel)
set_option maxRecDepth 20000 in
theorem gX11_size_X11_sizeBy : GoodIn wsX11_size (wsV RX11 324 RX11 yX11_sizeBy wsX11_sizeBy) := goodIn_app (goodIn_of _ (by decide +kernel)) ggX11_size_X11_sizeBy
theorem dX11_size_0 : decode cX11_size 0 = .ok (.iload_n 1, 1) := by decide +kernel
theorem dX11_size_1 : decode cX11_size 1 = .ok (.invokestatic 227, 3) := by decide +kernel
theorem dX11_size_4 : decode cX11_size 4 = .ok (.ifCond .ne 5, 3) := by decide +kernel
theorem dX11_size_7 : decode cX11_size 7 = .ok (.iconst (-1), 1) := by decide +kernel
theorem dX11_size_8 : decode cX11_size 8 = .ok (.ireturn, 1) := by decide +kernel
theorem dX11_size_9 : decode cX11_size 9 = .ok (.iconst 0, 1) := by decide +kernel
theorem dX11_size_10 : decode cX11_size 10 = .ok (.istore_n 2, 1) := by decide +kernel
theorem dX11_size_11 : decode cX11_size 11 = .ok (.iconst 0, 1) := by decide +kernel
theorem dX11_size_12 : decode cX11_size 12 = .ok (.istore_n 3, 1) := by decide +kernel
theorem dX11_size_13 : decode cX11_size 13 = .ok (.iload_n 3, 1) := by decide +kernel
theorem dX11_size_14 : decode cX11_size 14 = .ok (.aload_n 0, 1) := by decide +kernel
theorem dX11_size_15 : decode cX11_size 15 = .ok (.getfield 40, 3) := by decide +kernel
theorem dX11_size_18 : decode cX11_size 18 = .ok (.iload_n 1, 1) := by decide +kernel
theorem dX11_size_19 : decode cX11_size 19 = .ok (.iaload, 1) := by decide +kernel
theorem dX11_size_20 : decode cX11_size 20 = .ok (.if_icmp .ge 40, 3) := by decide +kernel
theorem dX11_size_23 : decode cX11_size 23 = .ok (.iload_n 2, 1) := by decide +kernel
theorem dX11_size_24 : decode cX11_size 24 = .ok (.aload_n 0, 1) := by decide +kernel
theorem dX11_size_25 : decode cX11_size 25 = .ok (.aload_n 0, 1) := by decide +kernel
theorem dX11_size_26 : decode cX11_size 26 = .ok (.getfield 34, 3) := by decide +kernel
theorem dX11_size_29 : decode cX11_size 29 = .ok (.sipush 200, 3) := by decide +kernel
theorem dX11_size_32 : decode cX11_size 32 = .ok (.iload_n 1, 1) := by decide +kernel
theorem dX11_size_33 : decode cX11_size 33 = .ok (.imul, 1) := by decide +kernel
theorem dX11_size_34 : decode cX11_size 34 = .ok (.iload_n 3, 1) := by decide +kernel
theorem dX11_size_35 : decode cX11_size 35 = .ok (.iadd, 1) := by decide +kernel
theorem dX11_size_36 : decode cX11_size 36 = .ok (.iaload, 1) := by decide +kernel
theorem dX11_size_37 : decode cX11_size 37 = .ok (.aload_n 0, 1) := by decide +kernel
theorem dX11_size_38 : decode cX11_size 38 = .ok (.getfield 37, 3) := by decide +kernel
theorem dX11_size_41 : decode cX11_size 41 = .ok (.sipush 200, 3) := by decide +kernel
theorem dX11_size_44 : decode cX11_size 44 = .ok (.iload_n 1, 1) := by decide +kernel
theorem dX11_size_45 : decode cX11_size 45 = .ok (.imul, 1) := by decide +kernel
theorem dX11_size_46 : decode cX11_size 46 = .ok (.iload_n 3, 1) := by decide +kernel
theorem dX11_size_47 : decode cX11_size 47 = .ok (.iadd, 1) := by decide +kernel
theorem dX11_size_48 : decode cX11_size 48 = .ok (.iaload, 1) := by decide +kernel
theorem dX11_size_49 : decode cX11_size 49 = .ok (.invokevirtual 324, 3) := by decide +kernel
theorem dX11_size_52 : decode cX11_size 52 = .ok (.iadd, 1) := by decide +kernel
theorem dX11_size_53 : decode cX11_size 53 = .ok (.istore_n 2, 1) := by decide +kernel
theorem dX11_size_54 : decode cX11_size 54 = .ok (.iinc 3 1, 3) := by decide +kernel
theorem dX11_size_57 : decode cX11_size 57 = .ok (.goto (-44), 3) := by decide +kernel
theorem dX11_size_60 : decode cX11_size 60 = .ok (.iload_n 2, 1) := by decide +kernel
theorem dX11_size_61 : decode cX11_size 61 = .ok (.ireturn, 1) := by decide +kernel
theorem dX11_count_0 : decode cX11_count 0 = .ok (.iload_n 1, 1) := by decide +kernel
theorem dX11_count_1 : decode cX11_count 1 = .ok (.ifCond .ne 33, 3) := by decide +kernel
theorem dX11_count_4 : decode cX11_count 4 = .ok (.aload_n 0, 1) := by decide +kernel
theorem dX11_count_5 : decode cX11_count 5 = .ok (.getfield 31, 3) := by decide +kernel
theorem dX11_count_8 : decode cX11_count 8 = .ok (.iconst 0, 1) := by decide +kernel
theorem dX11_count_9 : decode cX11_count 9 = .ok (.iaload, 1) := by decide +kernel
theorem dX11_count_10 : decode cX11_count 10 = .ok (.aload_n 0, 1) := by decide +kernel
theorem dX11_count_11 : decode cX11_count 11 = .ok (.getfield 31, 3) := by decide +kernel
theorem dX11_count_14 : decode cX11_count 14 = .ok (.iconst 1, 1) := by decide +kernel
theorem dX11_count_15 : decode cX11_count 15 = .ok (.iaload, 1) := by decide +kernel
theorem dX11_count_16 : decode cX11_count 16 = .ok (.iadd, 1) := by decide +kernel
theorem dX11_count_17 : decode cX11_count 17 = .ok (.aload_n 0, 1) := by decide +kernel
theorem dX11_count_18 : decode cX11_count 18 = .ok (.getfield 31, 3) := by decide +kernel
theorem dX11_count_21 : decode cX11_count 21 = .ok (.iconst 2, 1) := by decide +kernel
theorem dX11_count_22 : decode cX11_count 22 = .ok (.iaload, 1) := by decide +kernel
theorem dX11_count_23 : decode cX11_count 23 = .ok (.iadd, 1) := by decide +kernel
theorem dX11_count_24 : decode cX11_count 24 = .ok (.aload_n 0, 1) := by decide +kernel
theorem dX11_count_25 : decode cX11_count 25 = .ok (.getfield 31, 3) := by decide +kernel
theorem dX11_count_28 : decode cX11_count 28 = .ok (.iconst 3, 1) := by decide +kernel
theorem dX11_count_29 : decode cX11_count 29 = .ok (.iaload, 1) := by decide +kernel
theorem dX11_count_30 : decode cX11_count 30 = .ok (.iadd, 1) := by decide +kernel
theorem dX11_count_31 : decode cX11_count 31 = .ok (.goto 16, 3) := by decide +kernel
theorem dX11_count_34 : decode cX11_count 34 = .ok (.iload_n 1, 1) := by decide +kernel
theorem dX11_count_35 : decode cX11_count 35 = .ok (.iconst 1, 1) := by decide +kernel
theorem dX11_count_36 : decode cX11_count 36 = .ok (.if_icmp .ne 10, 3) := by decide +kernel
theorem dX11_count_39 : decode cX11_count 39 = .ok (.aload_n 0, 1) := by decide +kernel
theorem dX11_count_40 : decode cX11_count 40 = .ok (.getfield 105, 3) := by decide +kernel
theorem dX11_count_43 : decode cX11_count 43 = .ok (.goto 4, 3) := by decide +kernel
theorem dX11_count_46 : decode cX11_count 46 = .ok (.iconst (-1), 1) := by decide +kernel
theorem dX11_count_47 : decode cX11_count 47 = .ok (.ireturn, 1) := by decide +kernel
theorem dX11_trace_0 : decode cX11_trace 0 = .ok (.aload_n 0, 1) := by decide +kernel
theorem dX11_trace_1 : decode cX11_trace 1 = .ok (.getfield 308, 3) := by decide +kernel
theorem dX11_trace_4 : decode cX11_trace 4 = .ok (.lreturn, 1) := by decide +kernel
theorem dJ11_isValidCodePoint_9a6ad_0 : decode cJ11_isValidCodePoint_9a6ad 0 = .ok (.iload_n 0, 1) := by decide +kernel
theorem dJ11_isValidCodePoint_9a6ad_1 : decode cJ11_isValidCodePoint_9a6ad 1 = .ok (.bipush 16, 2) := by decide +kernel
theorem dJ11_isValidCodePoint_9a6ad_3 : decode cJ11_isValidCodePoint_9a6ad 3 = .ok (.iushr, 1) := by decide +kernel
theorem dJ11_isValidCodePoint_9a6ad_4 : decode cJ11_isValidCodePoint_9a6ad 4 = .ok (.istore_n 1, 1) := by decide +kernel
theorem dJ11_isValidCodePoint_9a6ad_5 : decode cJ11_isValidCodePoint_9a6ad 5 = .ok (.iload_n 1, 1) := by decide +kernel
theorem dJ11_isValidCodePoint_9a6ad_6 : decode cJ11_isValidCodePoint_9a6ad 6 = .ok (.bipush 17, 2) := by decide +kernel
theorem dJ11_isValidCodePoint_9a6ad_8 : decode cJ11_isValidCodePoint_9a6ad 8 = .ok (.if_icmp .ge 7, 3) := by decide +kernel
theorem dJ11_isValidCodePoint_9a6ad_11 : decode cJ11_isValidCodePoint_9a6ad 11 = .ok (.iconst 1, 1) := by decide +kernel
theorem dJ11_isValidCodePoint_9a6ad_12 : decode cJ11_isValidCodePoint_9a6ad 12 = .ok (.goto 4, 3) := by decide +kernel
theorem dJ11_isValidCodePoint_9a6ad_15 : decode cJ11_isValidCodePoint_9a6ad 15 = .ok (.iconst 0, 1) := by decide +kernel
theorem dJ11_isValidCodePoint_9a6ad_16 : decode cJ11_isValidCodePoint_9a6ad 16 = .ok (.ireturn, 1) := by decide +kernel
theorem dJ11_highSurrogate_5068e_0 : decode cJ11_highSurrogate_5068e 0 = .ok (.iload_n 0, 1) := by decide +kernel
theorem dJ11_highSurrogate_5068e_1 : decode cJ11_highSurrogate_5068e 1 = .ok (.bipush 10, 2) := by decide +kernel
theorem dJ11_highSurrogate_5068e_3 : decode cJ11_highSurrogate_5068e 3 = .ok (.iushr, 1) := by decide +kernel
theorem dJ11_highSurrogate_5068e_4 : decode cJ11_highSurrogate_5068e 4 = .ok (.ldc 110, 2) := by decide +kernel
theorem dJ11_highSurrogate_5068e_6 : decode cJ11_highSurrogate_5068e 6 = .ok (.iadd, 1) := by decide +kernel
theorem dJ11_highSurrogate_5068e_7 : decode cJ11_highSurrogate_5068e 7 = .ok (.i2c, 1) := by decide +kernel
theorem dJ11_highSurrogate_5068e_8 : decode cJ11_highSurrogate_5068e 8 = .ok (.ireturn, 1) := by decide +kernel
theorem dJ11_lowSurrogate_5068e_0 : decode cJ11_lowSurrogate_5068e 0 = .ok (.iload_n 0, 1) := by decide +kernel
theorem dJ11_lowSurrogate_5068e_1 : decode cJ11_lowSurrogate_5068e 1 = .ok (.sipush 1023, 3) := by decide +kernel
theorem dJ11_lowSurrogate_5068e_4 : decode cJ11_lowSurrogate_5068e 4 = .ok (.iand, 1) := by decide +kernel
theorem dJ11_lowSurrogate_5068e_5 : decode cJ11_lowSurrogate_5068e 5 = .ok (.ldc 76, 2) := by decide +kernel
theorem dJ11_lowSurrogate_5068e_7 : decode cJ11_lowSurrogate_5068e 7 = .ok (.iadd, 1) := by decide +kernel
theorem dJ11_lowSurrogate_5068e_8 : decode cJ11_lowSurrogate_5068e 8 = .ok (.i2c, 1) := by decide +kernel
theorem dJ11_lowSurrogate_5068e_9 : decode cJ11_lowSurrogate_5068e 9 = .ok (.ireturn, 1) := by decide +kernel
theorem dJ6_bitCount_0f7a4_0 : decode cJ6_bitCount_0f7a4 0 = .ok (.iload_n 0, 1) := by decide +kernel
theorem dJ6_bitCount_0f7a4_1 : decode cJ6_bitCount_0f7a4 1 = .ok (.iload_n 0, 1) := by decide +kernel
theorem dJ6_bitCount_0f7a4_2 : decode cJ6_bitCount_0f7a4 2 = .ok (.iconst 1, 1) := by decide +kernel
theorem dJ6_bitCount_0f7a4_3 : decode cJ6_bitCount_0f7a4 3 = .ok (.iushr, 1) := by decide +kernel
theorem dJ6_bitCount_0f7a4_4 : decode cJ6_bitCount_0f7a4 4 = .ok (.ldc_w 265, 3) := by decide +kernel
theorem dJ6_bitCount_0f7a4_7 : decode cJ6_bitCount_0f7a4 7 = .ok (.iand, 1) := by decide +kernel
theorem dJ6_bitCount_0f7a4_8 : decode cJ6_bitCount_0f7a4 8 = .ok (.isub, 1) := by decide +kernel
theorem dJ6_bitCount_0f7a4_9 : decode cJ6_bitCount_0f7a4 9 = .ok (.istore_n 0, 1) := by decide +kernel
theorem dJ6_bitCount_0f7a4_10 : decode cJ6_bitCount_0f7a4 10 = .ok (.iload_n 0, 1) := by decide +kernel
theorem dJ6_bitCount_0f7a4_11 : decode cJ6_bitCount_0f7a4 11 = .ok (.ldc_w 266, 3) := by decide +kernel
theorem dJ6_bitCount_0f7a4_14 : decode cJ6_bitCount_0f7a4 14 = .ok (.iand, 1) := by decide +kernel
theorem dJ6_bitCount_0f7a4_15 : decode cJ6_bitCount_0f7a4 15 = .ok (.iload_n 0, 1) := by decide +kernel
theorem dJ6_bitCount_0f7a4_16 : decode cJ6_bitCount_0f7a4 16 = .ok (.iconst 2, 1) := by decide +kernel
theorem dJ6_bitCount_0f7a4_17 : decode cJ6_bitCount_0f7a4 17 = .ok (.iushr, 1) := by decide +kernel
theorem dJ6_bitCount_0f7a4_18 : decode cJ6_bitCount_0f7a4 18 = .ok (.ldc_w 266, 3) := by decide +kernel
theorem dJ6_bitCount_0f7a4_21 : decode cJ6_bitCount_0f7a4 21 = .ok (.iand, 1) := by decide +kernel
theorem dJ6_bitCount_0f7a4_22 : decode cJ6_bitCount_0f7a4 22 = .ok (.iadd, 1) := by decide +kernel
theorem dJ6_bitCount_0f7a4_23 : decode cJ6_bitCount_0f7a4 23 = .ok (.istore_n 0, 1) := by decide +kernel
theorem dJ6_bitCount_0f7a4_24 : decode cJ6_bitCount_0f7a4 24 = .ok (.iload_n 0, 1) := by decide +kernel
theorem dJ6_bitCount_0f7a4_25 : decode cJ6_bitCount_0f7a4 25 = .ok (.iload_n 0, 1) := by decide +kernel
theorem dJ6_bitCount_0f7a4_26 : decode cJ6_bitCount_0f7a4 26 = .ok (.iconst 4, 1) := by decide +kernel
theorem dJ6_bitCount_0f7a4_27 : decode cJ6_bitCount_0f7a4 27 = .ok (.iushr, 1) := by decide +kernel
theorem dJ6_bitCount_0f7a4_28 : decode cJ6_bitCount_0f7a4 28 = .ok (.iadd, 1) := by decide +kernel
theorem dJ6_bitCount_0f7a4_29 : decode cJ6_bitCount_0f7a4 29 = .ok (.ldc_w 267, 3) := by decide +kernel
theorem dJ6_bitCount_0f7a4_32 : decode cJ6_bitCount_0f7a4 32 = .ok (.iand, 1) := by decide +kernel
theorem dJ6_bitCount_0f7a4_33 : decode cJ6_bitCount_0f7a4 33 = .ok (.istore_n 0, 1) := by decide +kernel
theorem dJ6_bitCount_0f7a4_34 : decode cJ6_bitCount_0f7a4 34 = .ok (.iload_n 0, 1) := by decide +kernel
theorem dJ6_bitCount_0f7a4_35 : decode cJ6_bitCount_0f7a4 35 = .ok (.iload_n 0, 1) := by decide +kernel
theorem dJ6_bitCount_0f7a4_36 : decode cJ6_bitCount_0f7a4 36 = .ok (.bipush 8, 2) := by decide +kernel
theorem dJ6_bitCount_0f7a4_38 : decode cJ6_bitCount_0f7a4 38 = .ok (.iushr, 1) := by decide +kernel
theorem dJ6_bitCount_0f7a4_39 : decode cJ6_bitCount_0f7a4 39 = .ok (.iadd, 1) := by decide +kernel
theorem dJ6_bitCount_0f7a4_40 : decode cJ6_bitCount_0f7a4 40 = .ok (.istore_n 0, 1) := by decide +kernel
theorem dJ6_bitCount_0f7a4_41 : decode cJ6_bitCount_0f7a4 41 = .ok (.iload_n 0, 1) := by decide +kernel
theorem dJ6_bitCount_0f7a4_42 : decode cJ6_bitCount_0f7a4 42 = .ok (.iload_n 0, 1) := by decide +kernel
theorem dJ6_bitCount_0f7a4_43 : decode cJ6_bitCount_0f7a4 43 = .ok (.bipush 16, 2) := by decide +kernel
theorem dJ6_bitCount_0f7a4_45 : decode cJ6_bitCount_0f7a4 45 = .ok (.iushr, 1) := by decide +kernel
theorem dJ6_bitCount_0f7a4_46 : decode cJ6_bitCount_0f7a4 46 = .ok (.iadd, 1) := by decide +kernel
theorem dJ6_bitCount_0f7a4_47 : decode cJ6_bitCount_0f7a4 47 = .ok (.istore_n 0, 1) := by decide +kernel
theorem dJ6_bitCount_0f7a4_48 : decode cJ6_bitCount_0f7a4 48 = .ok (.iload_n 0, 1) := by decide +kernel
theorem dJ6_bitCount_0f7a4_49 : decode cJ6_bitCount_0f7a4 49 = .ok (.bipush 63, 2) := by decide +kernel
theorem dJ6_bitCount_0f7a4_51 : decode cJ6_bitCount_0f7a4 51 = .ok (.iand, 1) := by decide +kernel
theorem dJ6_bitCount_0f7a4_52 : decode cJ6_bitCount_0f7a4 52 = .ok (.ireturn, 1) := by decide +kernel
theorem dJ9_max_7cf53_0 : decode cJ9_max_7cf53 0 = .ok (.iload_n 0, 1) := by decide +kernel
theorem dJ9_max_7cf53_1 : decode cJ9_max_7cf53 1 = .ok (.iload_n 1, 1) := by decide +kernel
theorem dJ9_max_7cf53_2 : decode cJ9_max_7cf53 2 = .ok (.if_icmp .lt 7, 3) := by decide +kernel
theorem dJ9_max_7cf53_5 : decode cJ9_max_7cf53 5 = .ok (.iload_n 0, 1) := by decide +kernel
theorem dJ9_max_7cf53_6 : decode cJ9_max_7cf53 6 = .ok (.goto 4, 3) := by decide +kernel
theorem dJ9_max_7cf53_9 : decode cJ9_max_7cf53 9 = .ok (.iload_n 1, 1) := by decide +kernel
theorem dJ9_max_7cf53_10 : decode cJ9_max_7cf53 10 = .ok (.ireturn, 1) := by decide +kernel
theorem dJ9_min_7cf53_0 : decode cJ9_min_7cf53 0 = .ok (.iload_n 0, 1) := by decide +kernel
theorem dJ9_min_7cf53_1 : decode cJ9_min_7cf53 1 = .ok (.iload_n 1, 1) := by decide +kernel
theorem dJ9_min_7cf53_2 : decode cJ9_min_7cf53 2 = .ok (.if_icmp .gt 7, 3) := by decide +kernel
theorem dJ9_min_7cf53_5 : decode cJ9_min_7cf53 5 = .ok (.iload_n 0, 1) := by decide +kernel
theorem dJ9_min_7cf53_6 : decode cJ9_min_7cf53 6 = .ok (.goto 4, 3) := by decide +kernel
theorem dJ9_min_7cf53_9 : decode cJ9_min_7cf53 9 = .ok (.iload_n 1, 1) := by decide +kernel
theorem dJ9_min_7cf53_10 : decode cJ9_min_7cf53 10 = .ok (.ireturn, 1) := by decide +kernel
set_option maxRecDepth 20000 in
theorem ggJ0_length_8abf5_J0_coder_7d493 : GoodIn wsJ0_length_8abf5 wsJ0_coder_7d493 := goodIn_r _ [6, 7, 8] (by decide +kernel) (by decide +kernel)
set_option maxRecDepth 20000 in
theorem gJ0_length_8abf5_J0_coder_7d493 : GoodIn wsJ0_length_8abf5 (wsV RJ0 335 RJ0 yJ0_coder_7d493 wsJ0_coder_7d493) := goodIn_app (goodIn_of _ (by decide +kernel)) ggJ0_length_8abf5_J0_coder_7d493
theorem dJ0_length_8abf5_0 : decode cJ0_length_8abf5 0 = .ok (.aload_n 0, 1) := by decide +kernel
theorem dJ0_length_8abf5_1 : decode cJ0_length_8abf5 1 = .ok (.getfield 9, 3) := by decide +kernel
theorem dJ0_length_8abf5_4 : decode cJ0_length_8abf5 4 = .ok (.arraylength, 1) := by decide +kernel
theorem dJ0_length_8abf5_5 : decode cJ0_length_8abf5 5 = .ok (.aload_n 0, 1) := by decide +kernel
theorem dJ0_length_8abf5_6 : decode cJ0_length_8abf5 6 = .ok (.invokevirtual 335, 3) := by decide +kernel
theorem dJ0_length_8abf5_9 : decode cJ0_length_8abf5 9 = .ok (.ishr, 1) := by decide +kernel
theorem dJ0_length_8abf5_10 : decode cJ0_length_8abf5 10 = .ok (.ireturn, 1) := by decide +kernel
set_option maxRecDepth 20000 in
theorem ggJ0_charAt_5068e_J0_isLatin1_aae02 : GoodIn wsJ0_charAt_5068e wsJ0_isLatin1_aae02 := goodIn_r _ [6, 7, 8] (by decide +kernel) (by decide +kernel)
set_option maxRecDepth 20000 in
theorem gJ0_charAt_5068e_J0_isLatin1_aae02 : GoodIn wsJ0_charAt_5068e (wsV RJ0 492 RJ0 yJ0_isLatin1_aae02 wsJ0_isLatin1_aae02) := goodIn_app (goodIn_of _ (by decide +kernel)) ggJ0_charAt_5068e_J0_isLatin1_aae02
set_option maxRecDepth 20000 in
theorem ggJ0_charAt_5068e_J1_charAt_3b067 : GoodIn wsJ0_charAt_5068e wsJ1_charAt_3b067 := goodIn_r _ [12, 13, 14, 5, 15, 16, 17, 18, 19, 20] (by decide +kernel) (by decide +kernel)
set_option maxRecDepth 20000 in
theorem gJ0_charAt_5068e_J1_charAt_3b067 : GoodIn wsJ0_charAt_5068e (va_wsS RJ0 495 yJ1_charAt_3b067 wsJ1_charAt_3b067) := goodIn_app (goodIn_of _ (by decide +kernel)) ggJ0_charAt_5068e_J1_charAt_3b067
set_option maxRecDepth 20000 in
theorem ggJ0_charAt_5068e_J2_charAt_3b067 : GoodIn wsJ0_charAt_5068e wsJ2_charAt_3b067 := goodIn_r _ [24, 25, 26, 23, 27, 28, 29, 30, 31, 14, 5, 15, 16, 17, 18, 19, 20, 32, 33, 34, 35, 36, 37] (by decide +kernel) (by decide +kernel)
set_option maxRecDepth 20000 in
theorem gJ0_charAt_5068e_J2_charAt_3b067 : GoodIn wsJ0_charAt_5068e (va_wsS RJ0 498 yJ2_charAt_3b067 wsJ2_charAt_3b067) := goodIn_app (goodIn_of _ (by decide +kernel)) ggJ0_charAt_5068e_J2_charAt_3b067
theorem dJ0_charAt_5068e_0 : decode cJ0_charAt_5068e 0 = .ok (.aload_n 0, 1) := by decide +kernel
theorem dJ0_charAt_5068e_1 : decode cJ0_charAt_5068e 1 = .ok (.invokevirtual 492, 3) := by decide +kernel
theorem dJ0_charAt_5068e_4 : decode cJ0_charAt_5068e 4 = .ok (.ifCond .eq 12, 3) := by decide +kernel
theorem dJ0_charAt_5068e_7 : decode cJ0_charAt_5068e 7 = .ok (.aload_n 0, 1) := by decide +kernel
theorem dJ0_charAt_5068e_8 : decode cJ0_charAt_5068e 8 = .ok (.getfield 9, 3) := by decide +kernel
theorem dJ0_charAt_5068e_11 : decode cJ0_charAt_5068e 11 = .ok (.iload_n 1, 1) := by decide +kernel
theorem dJ0_charAt_5068e_12 : decode cJ0_charAt_5068e 12 = .ok (.invokestatic 495, 3) := by decide +kernel
theorem dJ0_charAt_5068e_15 : decode cJ0_charAt_5068e 15 = .ok (.ireturn, 1) := by decide +kernel
theorem dJ0_charAt_5068e_16 : decode cJ0_charAt_5068e 16 = .ok (.aload_n 0, 1) := by decide +kernel
theorem dJ0_charAt_5068e_17 : decode cJ0_charAt_5068e 17 = .ok (.getfield 9, 3) := by decide +kernel
theorem dJ0_charAt_5068e_20 : decode cJ0_charAt_5068e 20 = .ok (.iload_n 1, 1) := by decide +kernel
theorem dJ0_charAt_5068e_21 : decode cJ0_charAt_5068e 21 = .ok (.invokestatic 498, 3) := by decide +kernel
theorem dJ0_charAt_5068e_24 : decode cJ0_charAt_5068e 24 = .ok (.ireturn, 1) := by decide +kernel
set_option maxRecDepth 20000 in
theorem ggJ0_indexOf_0f7a4_J0_indexOf_7cf53 : GoodIn wsJ0_indexOf_0f7a4 wsJ0_indexOf_7cf53 := goodIn_r _ [5, 6, 7, 8, 9, 4, 10, 11, 12, 13, 14, 15, 16, 17, 18, 19, 20, 21, 22, 23, 24, 25, 26, 27, 28, 29, 30, 31, 32, 33, 34, 35, 36, 37, 38, 39, 40, 41, 42, 43, 44, 45, 46, 47, 48, 49, 50, 51, 52, 53, 54, 55, 56, 57, 58, 59, 60, 61, 62, 63, 64, 65, 66, 67, 68, 69, 70, 71, 72, 73, 74, 75, 76, 77, 78, 79, 80, 81, 82, 83, 84, 85] (by decide +kernel) (by decide +kernel)
set_option maxRecDepth 20000 in
theorem gJ0_indexOf_0f7a4_J0_indexOf_7cf53 : GoodIn wsJ0_indexOf_0f7a4 (wsV RJ0 633 RJ0 yJ0_indexOf_7cf53 wsJ0_indexOf_7cf53) := goodIn_app (goodIn_of _ (by decide +kernel)) ggJ0_indexOf_0f7a4_J0_indexOf_7cf53
theorem dJ0_indexOf_0f7a4_0 : decode cJ0_indexOf_0f7a4 0 = .ok (.aload_n 0, 1) := by decide +kernel
theorem dJ0_indexOf_0f7a4_1 : decode cJ0_indexOf_0f7a4 1 = .ok (.iload_n 1, 1) := by decide +kernel
theorem dJ0_indexOf_0f7a4_2 : decode cJ0_indexOf_0f7a4 2 = .ok (.iconst 0, 1) := by decide +kernel
theorem dJ0_indexOf_0f7a4_3 : decode cJ0_indexOf_0f7a4 3 = .ok (.invokevirtual 633, 3) := by decide +kernel
theorem dJ0_indexOf_0f7a4_6 : decode cJ0_indexOf_0f7a4 6 = .ok (.ireturn, 1) := by decide +kernel
set_option maxRecDepth 20000 in
theorem ggJ0_indexOf_7cf53_J0_isLatin1_aae02 : GoodIn wsJ0_indexOf_7cf53 wsJ0_isLatin1_aae02 := goodIn_r _ [6, 7, 8] (by decide +kernel) (by decide +kernel)
set_option maxRecDepth 20000 in
theorem gJ0_indexOf_7cf53_J0_isLatin1_aae02 : GoodIn wsJ0_indexOf_7cf53 (wsV RJ0 492 RJ0 yJ0_isLatin1_aae02 wsJ0_isLatin1_aae02) := goodIn_app (goodIn_of _ (by decide +kernel)) ggJ0_indexOf_7cf53_J0_isLatin1_aae02
set_option maxRecDepth 20000 in
theorem ggJ0_indexOf_7cf53_J0_length_8abf5 : GoodIn wsJ0_indexOf_7cf53 wsJ0_length_8abf5 := goodIn_r _ [12, 1, 13, 14, 15, 5, 16, 7, 8] (by decide +kernel) (by decide +kernel)
set_option maxRecDepth 20000 in
theorem gJ0_indexOf_7cf53_J0_length_8abf5 : GoodIn wsJ0_indexOf_7cf53 (wsV RJ0 505 RJ0 yJ0_length_8abf5 wsJ0_length_8abf5) := goodIn_app (goodIn_of _ (by decide +kernel)) ggJ0_indexOf_7cf53_J0_length_8abf5
set_option maxRecDepth 20000 in
theorem ggJ0_indexOf_7cf53_J1_indexOf_4cfef : GoodIn wsJ0_indexOf_7cf53 wsJ1_indexOf_4cfef := goodIn_r _ [20, 21, 22, 23, 24, 25, 26, 27, 28, 29, 19, 30, 31, 32, 33] (by decide +kernel) (by decide +kernel)
set_option maxRecDepth 20000 in
theorem gJ0_indexOf_7cf53_J1_indexOf_4cfef : GoodIn wsJ0_indexOf_7cf53 (va_wsS RJ0 637 yJ1_indexOf_4cfef wsJ1_indexOf_4cfef) := goodIn_app (goodIn_of _ (by decide +kernel)) ggJ0_indexOf_7cf53_J1_indexOf_4cfef
set_option maxRecDepth 20000 in
theorem ggJ0_indexOf_7cf53_J2_indexOf_4cfef : GoodIn wsJ0_indexOf_7cf53 wsJ2_indexOf_4cfef := goodIn_r _ [37, 38, 22, 23, 24, 39, 26, 27, 40, 41, 42, 36, 43, 44, 45, 46, 47, 48, 49, 50, 51, 5, 52, 53, 54, 55, 56, 57, 58, 59, 60, 61, 62, 63, 64, 65, 66, 67, 68, 69, 70, 71, 72, 73, 74, 75, 76, 77, 78, 79, 80, 81] (by decide +kernel) (by decide +kernel)
set_option maxRecDepth 20000 in
theorem gJ0_indexOf_7cf53_J2_indexOf_4cfef : GoodIn wsJ0_indexOf_7cf53 (va_wsS RJ0 640 yJ2_indexOf_4cfef wsJ2_indexOf_4cfef) := goodIn_app (goodIn_of _ (by decide +kernel)) ggJ0_indexOf_7cf53_J2_indexOf_4cfef
theorem dJ0_indexOf_7cf53_0 : decode cJ0_indexOf_7cf53 0 = .ok (.aload_n 0, 1) := by decide +kernel
theorem dJ0_indexOf_7cf53_1 : decode cJ0_indexOf_7cf53 1 = .ok (.invokevirtual 492, 3) := by decide +kernel
theorem dJ0_indexOf_7cf53_4 : decode cJ0_indexOf_7cf53 4 = .ok (.ifCond .eq 19, 3) := by decide +kernel
theorem dJ0_indexOf_7cf53_7 : decode cJ0_indexOf_7cf53 7 = .ok (.aload_n 0, 1) := by decide +kernel
theorem dJ0_indexOf_7cf53_8 : decode cJ0_indexOf_7cf53 8 = .ok (.getfield 9, 3) := by decide +kernel
theorem dJ0_indexOf_7cf53_11 : decode cJ0_indexOf_7cf53 11 = .ok (.iload_n 1, 1) := by decide +kernel
theorem dJ0_indexOf_7cf53_12 : decode cJ0_indexOf_7cf53 12 = .ok (.iload_n 2, 1) := by decide +kernel
theorem dJ0_indexOf_7cf53_13 : decode cJ0_indexOf_7cf53 13 = .ok (.aload_n 0, 1) := by decide +kernel
theorem dJ0_indexOf_7cf53_14 : decode cJ0_indexOf_7cf53 14 = .ok (.invokevirtual 505, 3) := by decide +kernel
theorem dJ0_indexOf_7cf53_17 : decode cJ0_indexOf_7cf53 17 = .ok (.invokestatic 637, 3) := by decide +kernel
theorem dJ0_indexOf_7cf53_20 : decode cJ0_indexOf_7cf53 20 = .ok (.goto 16, 3) := by decide +kernel
theorem dJ0_indexOf_7cf53_23 : decode cJ0_indexOf_7cf53 23 = .ok (.aload_n 0, 1) := by decide +kernel
theorem dJ0_indexOf_7cf53_24 : decode cJ0_indexOf_7cf53 24 = .ok (.getfield 9, 3) := by decide +kernel
theorem dJ0_indexOf_7cf53_27 : decode cJ0_indexOf_7cf53 27 = .ok (.iload_n 1, 1) := by decide +kernel
theorem dJ0_indexOf_7cf53_28 : decode cJ0_indexOf_7cf53 28 = .ok (.iload_n 2, 1) := by decide +kernel
theorem dJ0_indexOf_7cf53_29 : decode cJ0_indexOf_7cf53 29 = .ok (.aload_n 0, 1) := by decide +kernel
theorem dJ0_indexOf_7cf53_30 : decode cJ0_indexOf_7cf53 30 = .ok (.invokevirtual 505, 3) := by decide +kernel
theorem dJ0_indexOf_7cf53_33 : decode cJ0_indexOf_7cf53 33 = .ok (.invokestatic 640, 3) := by decide +kernel
theorem dJ0_indexOf_7cf53_36 : decode cJ0_indexOf_7cf53 36 = .ok (.ireturn, 1) := by decide +kernel
theorem dJ0_coder_7d493_0 : decode cJ0_coder_7d493 0 = .ok (.getstatic 38, 3) := by decide +kernel
theorem dJ0_coder_7d493_3 : decode cJ0_coder_7d493 3 = .ok (.ifCond .eq 10, 3) := by decide +kernel
theorem dJ0_coder_7d493_6 : decode cJ0_coder_7d493 6 = .ok (.aload_n 0, 1) := by decide +kernel
theorem dJ0_coder_7d493_7 : decode cJ0_coder_7d493 7 = .ok (.getfield 15, 3) := by decide +kernel
theorem dJ0_coder_7d493_10 : decode cJ0_coder_7d493 10 = .ok (.goto 4, 3) := by decide +kernel
theorem dJ0_coder_7d493_13 : decode cJ0_coder_7d493 13 = .ok (.iconst 1, 1) := by decide +kernel
theorem dJ0_coder_7d493_14 : decode cJ0_coder_7d493 14 = .ok (.ireturn, 1) := by decide +kernel
theorem dJ0_isLatin1_aae02_0 : decode cJ0_isLatin1_aae02 0 = .ok (.getstatic 38, 3) := by decide +kernel
theorem dJ0_isLatin1_aae02_3 : decode cJ0_isLatin1_aae02 3 = .ok (.ifCond .eq 14, 3) := by decide +kernel
theorem dJ0_isLatin1_aae02_6 : decode cJ0_isLatin1_aae02 6 = .ok (.aload_n 0, 1) := by decide +kernel
theorem dJ0_isLatin1_aae02_7 : decode cJ0_isLatin1_aae02 7 = .ok (.getfield 15, 3) := by decide +kernel
theorem dJ0_isLatin1_aae02_10 : decode cJ0_isLatin1_aae02 10 = .ok (.ifCond .ne 7, 3) := by decide +kernel
theorem dJ0_isLatin1_aae02_13 : decode cJ0_isLatin1_aae02 13 = .ok (.iconst 1, 1) := by decide +kernel
theorem dJ0_isLatin1_aae02_14 : decode cJ0_isLatin1_aae02 14 = .ok (.goto 4, 3) := by decide +kernel
theorem dJ0_isLatin1_aae02_17 : decode cJ0_isLatin1_aae02 17 = .ok (.iconst 0, 1) := by decide +kernel
theorem dJ0_isLatin1_aae02_18 : decode cJ0_isLatin1_aae02 18 = .ok (.ireturn, 1) := by decide +kernel
set_option maxRecDepth 20000 in
theorem ggJ0_checkIndex_df160_J3_checkIndex_8e157 : GoodIn wsJ0_checkIndex_df160 wsJ3_checkIndex_8e157 := goodIn_r _ [5] (by decide +kernel) (by decide +kernel)
set_option maxRecDepth 20000 in
theorem gJ0_checkIndex_df160_J3_checkIndex_8e157 : GoodIn wsJ0_checkIndex_df160 (va_wsS RJ0 1059 yJ3_checkIndex_8e157 wsJ3_checkIndex_8e157) := goodIn_app (goodIn_of _ (by decide +kernel)) ggJ0_checkIndex_df160_J3_checkIndex_8e157
theorem dJ0_checkIndex_df160_0 : decode cJ0_checkIndex_df160 0 = .ok (.iload_n 0, 1) := by decide +kernel
theorem dJ0_checkIndex_df160_1 : decode cJ0_checkIndex_df160 1 = .ok (.iload_n 1, 1) := by decide +kernel
theorem dJ0_checkIndex_df160_2 : decode cJ0_checkIndex_df160 2 = .ok (.getstatic 1053, 3) := by decide +kernel
theorem dJ0_checkIndex_df160_5 : decode cJ0_checkIndex_df160 5 = .ok (.invokestatic 1059, 3) := by decide +kernel
theorem dJ0_checkIndex_df160_8 : decode cJ0_checkIndex_df160 8 = .ok (.pop, 1) := by decide +kernel
theorem dJ0_checkIndex_df160_9 : decode cJ0_checkIndex_df160 9 = .ok (.return_, 1) := by decide +kernel
set_option maxRecDepth 20000 in
theorem ggJ0_checkBoundsBeginEnd_23922_J3_checkFromToIndex_8c36e : GoodIn wsJ0_checkBoundsBeginEnd_23922 wsJ3_checkFromToIndex_8c36e := goodIn_r _ [5] (by decide +kernel) (by decide +kernel)
set_option maxRecDepth 20000 in
theorem gJ0_checkBoundsBeginEnd_23922_J3_checkFromToIndex_8c36e : GoodIn wsJ0_checkBoundsBeginEnd_23922 (va_wsS RJ0 1062 yJ3_checkFromToIndex_8c36e wsJ3_checkFromToIndex_8c36e) := goodIn_app (goodIn_of _ (by decide +kernel)) ggJ0_checkBoundsBeginEnd_23922_J3_checkFromToIndex_8c36e
theorem dJ0_checkBoundsBeginEnd_23922_0 : decode cJ0_checkBoundsBeginEnd_23922 0 = .ok (.iload_n 0, 1) := by decide +kernel
theorem dJ0_checkBoundsBeginEnd_23922_1 : decode cJ0_checkBoundsBeginEnd_23922 1 = .ok (.iload_n 1, 1) := by decide +kernel
theorem dJ0_checkBoundsBeginEnd_23922_2 : decode cJ0_checkBoundsBeginEnd_23922 2 = .ok (.iload_n 2, 1) := by decide +kernel
theorem dJ0_checkBoundsBeginEnd_23922_3 : decode cJ0_checkBoundsBeginEnd_23922 3 = .ok (.getstatic 1053, 3) := by decide +kernel
theorem dJ0_checkBoundsBeginEnd_23922_6 : decode cJ0_checkBoundsBeginEnd_23922 6 = .ok (.invokestatic 1062, 3) := by decide +kernel
theorem dJ0_checkBoundsBeginEnd_23922_9 : decode cJ0_checkBoundsBeginEnd_23922 9 = .ok (.pop, 1) := by decide +kernel
theorem dJ0_checkBoundsBeginEnd_23922_10 : decode cJ0_checkBoundsBeginEnd_23922 10 = .ok (.return_, 1) := by decide +kernel
set_option maxRecDepth 20000 in
theorem ggJ1_charAt_3b067_J0_checkIndex_df160 : GoodIn wsJ1_charAt_3b067 wsJ0_checkIndex_df160 := goodIn_r _ [4, 5, 6, 7, 8, 9] (by decide +kernel) (by decide +kernel)
set_option maxRecDepth 20000 in
theorem gJ1_charAt_3b067_J0_checkIndex_df160 : GoodIn wsJ1_charAt_3b067 (va_wsS RJ1 9 yJ0_checkIndex_df160 wsJ0_checkIndex_df160) := goodIn_app (goodIn_of _ (by decide +kernel)) ggJ1_charAt_3b067_J0_checkIndex_df160
theorem dJ1_charAt_3b067_0 : decode cJ1_charAt_3b067 0 = .ok (.iload_n 1, 1) := by decide +kernel
theorem dJ1_charAt_3b067_1 : decode cJ1_charAt_3b067 1 = .ok (.aload_n 0, 1) := by decide +kernel
theorem dJ1_charAt_3b067_2 : decode cJ1_charAt_3b067 2 = .ok (.arraylength, 1) := by decide +kernel
theorem dJ1_charAt_3b067_3 : decode cJ1_charAt_3b067 3 = .ok (.invokestatic 9, 3) := by decide +kernel
theorem dJ1_charAt_3b067_6 : decode cJ1_charAt_3b067 6 = .ok (.aload_n 0, 1) := by decide +kernel
theorem dJ1_charAt_3b067_7 : decode cJ1_charAt_3b067 7 = .ok (.iload_n 1, 1) := by decide +kernel
theorem dJ1_charAt_3b067_8 : decode cJ1_charAt_3b067 8 = .ok (.baload, 1) := by decide +kernel
theorem dJ1_charAt_3b067_9 : decode cJ1_charAt_3b067 9 = .ok (.sipush 255, 3) := by decide +kernel
theorem dJ1_charAt_3b067_12 : decode cJ1_charAt_3b067 12 = .ok (.iand, 1) := by decide +kernel
theorem dJ1_charAt_3b067_13 : decode cJ1_charAt_3b067 13 = .ok (.i2c, 1) := by decide +kernel
theorem dJ1_charAt_3b067_14 : decode cJ1_charAt_3b067 14 = .ok (.ireturn, 1) := by decide +kernel
theorem dJ1_canEncode_9a6ad_0 : decode cJ1_canEncode_9a6ad 0 = .ok (.iload_n 0, 1) := by decide +kernel
theorem dJ1_canEncode_9a6ad_1 : decode cJ1_canEncode_9a6ad 1 = .ok (.ifCond .lt 14, 3) := by decide +kernel
theorem dJ1_canEncode_9a6ad_4 : decode cJ1_canEncode_9a6ad 4 = .ok (.iload_n 0, 1) := by decide +kernel
theorem dJ1_canEncode_9a6ad_5 : decode cJ1_canEncode_9a6ad 5 = .ok (.sipush 255, 3) := by decide +kernel
theorem dJ1_canEncode_9a6ad_8 : decode cJ1_canEncode_9a6ad 8 = .ok (.if_icmp .gt 7, 3) := by decide +kernel
theorem dJ1_canEncode_9a6ad_11 : decode cJ1_canEncode_9a6ad 11 = .ok (.iconst 1, 1) := by decide +kernel
theorem dJ1_canEncode_9a6ad_12 : decode cJ1_canEncode_9a6ad 12 = .ok (.goto 4, 3) := by decide +kernel
theorem dJ1_canEncode_9a6ad_15 : decode cJ1_canEncode_9a6ad 15 = .ok (.iconst 0, 1) := by decide +kernel
theorem dJ1_canEncode_9a6ad_16 : decode cJ1_canEncode_9a6ad 16 = .ok (.ireturn, 1) := by decide +kernel
set_option maxRecDepth 20000 in
theorem ggJ1_indexOf_4cfef_J1_canEncode_9a6ad : GoodIn wsJ1_indexOf_4cfef wsJ1_canEncode_9a6ad := goodIn_r _ [11] (by decide +kernel) (by decide +kernel)
set_option maxRecDepth 20000 in
theorem gJ1_indexOf_4cfef_J1_canEncode_9a6ad : GoodIn wsJ1_indexOf_4cfef (va_wsS RJ1 88 yJ1_canEncode_9a6ad wsJ1_canEncode_9a6ad) := goodIn_app (goodIn_of _ (by decide +kernel)) ggJ1_indexOf_4cfef_J1_canEncode_9a6ad
set_option maxRecDepth 20000 in
theorem ggJ1_indexOf_4cfef_J1_indexOfChar_4cfef : GoodIn wsJ1_indexOf_4cfef wsJ1_indexOfChar_4cfef := goodIn_r _ [14] (by decide +kernel) (by decide +kernel)
set_option maxRecDepth 20000 in
theorem gJ1_indexOf_4cfef_J1_indexOfChar_4cfef : GoodIn wsJ1_indexOf_4cfef (va_wsS RJ1 95 yJ1_indexOfChar_4cfef wsJ1_indexOfChar_4cfef) := goodIn_app (goodIn_of _ (by decide +kernel)) ggJ1_indexOf_4cfef_J1_indexOfChar_4cfef
theorem dJ1_indexOf_4cfef_0 : decode cJ1_indexOf_4cfef 0 = .ok (.iload_n 1, 1) := by decide +kernel
theorem dJ1_indexOf_4cfef_1 : decode cJ1_indexOf_4cfef 1 = .ok (.invokestatic 88, 3) := by decide +kernel
theorem dJ1_indexOf_4cfef_4 : decode cJ1_indexOf_4cfef 4 = .ok (.ifCond .ne 5, 3) := by decide +kernel
theorem dJ1_indexOf_4cfef_7 : decode cJ1_indexOf_4cfef 7 = .ok (.iconst (-1), 1) := by decide +kernel
theorem dJ1_indexOf_4cfef_8 : decode cJ1_indexOf_4cfef 8 = .ok (.ireturn, 1) := by decide +kernel
theorem dJ1_indexOf_4cfef_9 : decode cJ1_indexOf_4cfef 9 = .ok (.iload_n 2, 1) := by decide +kernel
theorem dJ1_indexOf_4cfef_10 : decode cJ1_indexOf_4cfef 10 = .ok (.iconst 0, 1) := by decide +kernel
theorem dJ1_indexOf_4cfef_11 : decode cJ1_indexOf_4cfef 11 = .ok (.invokestatic 92, 3) := by decide +kernel
theorem dJ1_indexOf_4cfef_14 : decode cJ1_indexOf_4cfef 14 = .ok (.istore_n 2, 1) := by decide +kernel
theorem dJ1_indexOf_4cfef_15 : decode cJ1_indexOf_4cfef 15 = .ok (.iload_n 3, 1) := by decide +kernel
theorem dJ1_indexOf_4cfef_16 : decode cJ1_indexOf_4cfef 16 = .ok (.aload_n 0, 1) := by decide +kernel
theorem dJ1_indexOf_4cfef_17 : decode cJ1_indexOf_4cfef 17 = .ok (.arraylength, 1) := by decide +kernel
theorem dJ1_indexOf_4cfef_18 : decode cJ1_indexOf_4cfef 18 = .ok (.invokestatic 38, 3) := by decide +kernel
theorem dJ1_indexOf_4cfef_21 : decode cJ1_indexOf_4cfef 21 = .ok (.istore_n 3, 1) := by decide +kernel
theorem dJ1_indexOf_4cfef_22 : decode cJ1_indexOf_4cfef 22 = .ok (.iload_n 2, 1) := by decide +kernel
theorem dJ1_indexOf_4cfef_23 : decode cJ1_indexOf_4cfef 23 = .ok (.iload_n 3, 1) := by decide +kernel
theorem dJ1_indexOf_4cfef_24 : decode cJ1_indexOf_4cfef 24 = .ok (.if_icmp .lt 5, 3) := by decide +kernel
theorem dJ1_indexOf_4cfef_27 : decode cJ1_indexOf_4cfef 27 = .ok (.iconst (-1), 1) := by decide +kernel
theorem dJ1_indexOf_4cfef_28 : decode cJ1_indexOf_4cfef 28 = .ok (.ireturn, 1) := by decide +kernel
theorem dJ1_indexOf_4cfef_29 : decode cJ1_indexOf_4cfef 29 = .ok (.aload_n 0, 1) := by decide +kernel
theorem dJ1_indexOf_4cfef_30 : decode cJ1_indexOf_4cfef 30 = .ok (.iload_n 1, 1) := by decide +kernel
theorem dJ1_indexOf_4cfef_31 : decode cJ1_indexOf_4cfef 31 = .ok (.iload_n 2, 1) := by decide +kernel
theorem dJ1_indexOf_4cfef_32 : decode cJ1_indexOf_4cfef 32 = .ok (.iload_n 3, 1) := by decide +kernel
theorem dJ1_indexOf_4cfef_33 : decode cJ1_indexOf_4cfef 33 = .ok (.invokestatic 95, 3) := by decide +kernel
theorem dJ1_indexOf_4cfef_36 : decode cJ1_indexOf_4cfef 36 = .ok (.ireturn, 1) := by decide +kernel
theorem dJ1_indexOfChar_4cfef_0 : decode cJ1_indexOfChar_4cfef 0 = .ok (.iload_n 1, 1) := by decide +kernel
theorem dJ1_indexOfChar_4cfef_1 : decode cJ1_indexOfChar_4cfef 1 = .ok (.i2b, 1) := by decide +kernel
theorem dJ1_indexOfChar_4cfef_2 : decode cJ1_indexOfChar_4cfef 2 = .ok (.istore 4, 2) := by decide +kernel
theorem dJ1_indexOfChar_4cfef_4 : decode cJ1_indexOfChar_4cfef 4 = .ok (.iload_n 2, 1) := by decide +kernel
theorem dJ1_indexOfChar_4cfef_5 : decode cJ1_indexOfChar_4cfef 5 = .ok (.istore 5, 2) := by decide +kernel
theorem dJ1_indexOfChar_4cfef_7 : decode cJ1_indexOfChar_4cfef 7 = .ok (.iload 5, 2) := by decide +kernel
theorem dJ1_indexOfChar_4cfef_9 : decode cJ1_indexOfChar_4cfef 9 = .ok (.iload_n 3, 1) := by decide +kernel
theorem dJ1_indexOfChar_4cfef_10 : decode cJ1_indexOfChar_4cfef 10 = .ok (.if_icmp .ge 21, 3) := by decide +kernel
theorem dJ1_indexOfChar_4cfef_13 : decode cJ1_indexOfChar_4cfef 13 = .ok (.aload_n 0, 1) := by decide +kernel
theorem dJ1_indexOfChar_4cfef_14 : decode cJ1_indexOfChar_4cfef 14 = .ok (.iload 5, 2) := by decide +kernel
theorem dJ1_indexOfChar_4cfef_16 : decode cJ1_indexOfChar_4cfef 16 = .ok (.baload, 1) := by decide +kernel
theorem dJ1_indexOfChar_4cfef_17 : decode cJ1_indexOfChar_4cfef 17 = .ok (.iload 4, 2) := by decide +kernel
theorem dJ1_indexOfChar_4cfef_19 : decode cJ1_indexOfChar_4cfef 19 = .ok (.if_icmp .ne 6, 3) := by decide +kernel
theorem dJ1_indexOfChar_4cfef_22 : decode cJ1_indexOfChar_4cfef 22 = .ok (.iload 5, 2) := by decide +kernel
theorem dJ1_indexOfChar_4cfef_24 : decode cJ1_indexOfChar_4cfef 24 = .ok (.ireturn, 1) := by decide +kernel
theorem dJ1_indexOfChar_4cfef_25 : decode cJ1_indexOfChar_4cfef 25 = .ok (.iinc 5 1, 3) := by decide +kernel
theorem dJ1_indexOfChar_4cfef_28 : decode cJ1_indexOfChar_4cfef 28 = .ok (.goto (-21), 3) := by decide +kernel
theorem dJ1_indexOfChar_4cfef_31 : decode cJ1_indexOfChar_4cfef 31 = .ok (.iconst (-1), 1) := by decide +kernel
theorem dJ1_indexOfChar_4cfef_32 : decode cJ1_indexOfChar_4cfef 32 = .ok (.ireturn, 1) := by decide +kernel
set_option maxRecDepth 20000 in
theorem ggJ2_getChar_3b067_J2_length_9d52b : GoodIn wsJ2_getChar_3b067 wsJ2_length_9d52b := goodIn_r _ [7] (by decide +kernel) (by decide +kernel)
set_option maxRecDepth 20000 in
theorem gJ2_getChar_3b067_J2_length_9d52b : GoodIn wsJ2_getChar_3b067 (va_wsS RJ2 48 yJ2_length_9d52b wsJ2_length_9d52b) := goodIn_app (goodIn_of _ (by decide +kernel)) ggJ2_getChar_3b067_J2_length_9d52b
theorem dJ2_getChar_3b067_0 : decode cJ2_getChar_3b067 0 = .ok (.getstatic 44, 3) := by decide +kernel
theorem dJ2_getChar_3b067_3 : decode cJ2_getChar_3b067 3 = .ok (.ifCond .ne 25, 3) := by decide +kernel
theorem dJ2_getChar_3b067_6 : decode cJ2_getChar_3b067 6 = .ok (.iload_n 1, 1) := by decide +kernel
theorem dJ2_getChar_3b067_7 : decode cJ2_getChar_3b067 7 = .ok (.ifCond .lt 11, 3) := by decide +kernel
theorem dJ2_getChar_3b067_10 : decode cJ2_getChar_3b067 10 = .ok (.iload_n 1, 1) := by decide +kernel
theorem dJ2_getChar_3b067_11 : decode cJ2_getChar_3b067 11 = .ok (.aload_n 0, 1) := by decide +kernel
theorem dJ2_getChar_3b067_12 : decode cJ2_getChar_3b067 12 = .ok (.invokestatic 48, 3) := by decide +kernel
theorem dJ2_getChar_3b067_15 : decode cJ2_getChar_3b067 15 = .ok (.if_icmp .lt 13, 3) := by decide +kernel
theorem dJ2_getChar_3b067_18 : decode cJ2_getChar_3b067 18 = .ok (.new 52, 3) := by decide +kernel
theorem dJ2_getChar_3b067_21 : decode cJ2_getChar_3b067 21 = .ok (.dup, 1) := by decide +kernel
theorem dJ2_getChar_3b067_22 : decode cJ2_getChar_3b067 22 = .ok (.ldc 54, 2) := by decide +kernel
theorem dJ2_getChar_3b067_24 : decode cJ2_getChar_3b067 24 = .ok (.invokespecial 56, 3) := by decide +kernel
theorem dJ2_getChar_3b067_27 : decode cJ2_getChar_3b067 27 = .ok (.athrow, 1) := by decide +kernel
theorem dJ2_getChar_3b067_28 : decode cJ2_getChar_3b067 28 = .ok (.iload_n 1, 1) := by decide +kernel
theorem dJ2_getChar_3b067_29 : decode cJ2_getChar_3b067 29 = .ok (.iconst 1, 1) := by decide +kernel
theorem dJ2_getChar_3b067_30 : decode cJ2_getChar_3b067 30 = .ok (.ishl, 1) := by decide +kernel
theorem dJ2_getChar_3b067_31 : decode cJ2_getChar_3b067 31 = .ok (.istore_n 1, 1) := by decide +kernel
theorem dJ2_getChar_3b067_32 : decode cJ2_getChar_3b067 32 = .ok (.aload_n 0, 1) := by decide +kernel
theorem dJ2_getChar_3b067_33 : decode cJ2_getChar_3b067 33 = .ok (.iload_n 1, 1) := by decide +kernel
theorem dJ2_getChar_3b067_34 : decode cJ2_getChar_3b067 34 = .ok (.iinc 1 1, 3) := by decide +kernel
theorem dJ2_getChar_3b067_37 : decode cJ2_getChar_3b067 37 = .ok (.baload, 1) := by decide +kernel
theorem dJ2_getChar_3b067_38 : decode cJ2_getChar_3b067 38 = .ok (.sipush 255, 3) := by decide +kernel
theorem dJ2_getChar_3b067_41 : decode cJ2_getChar_3b067 41 = .ok (.iand, 1) := by decide +kernel
theorem dJ2_getChar_3b067_42 : decode cJ2_getChar_3b067 42 = .ok (.getstatic 59, 3) := by decide +kernel
theorem dJ2_getChar_3b067_45 : decode cJ2_getChar_3b067 45 = .ok (.ishl, 1) := by decide +kernel
theorem dJ2_getChar_3b067_46 : decode cJ2_getChar_3b067 46 = .ok (.aload_n 0, 1) := by decide +kernel
theorem dJ2_getChar_3b067_47 : decode cJ2_getChar_3b067 47 = .ok (.iload_n 1, 1) := by decide +kernel
theorem dJ2_getChar_3b067_48 : decode cJ2_getChar_3b067 48 = .ok (.baload, 1) := by decide +kernel
theorem dJ2_getChar_3b067_49 : decode cJ2_getChar_3b067 49 = .ok (.sipush 255, 3) := by decide +kernel
theorem dJ2_getChar_3b067_52 : decode cJ2_getChar_3b067 52 = .ok (.iand, 1) := by decide +kernel
theorem dJ2_getChar_3b067_53 : decode cJ2_getChar_3b067 53 = .ok (.getstatic 63, 3) := by decide +kernel
theorem dJ2_getChar_3b067_56 : decode cJ2_getChar_3b067 56 = .ok (.ishl, 1) := by decide +kernel
theorem dJ2_getChar_3b067_57 : decode cJ2_getChar_3b067 57 = .ok (.ior, 1) := by decide +kernel
theorem dJ2_getChar_3b067_58 : decode cJ2_getChar_3b067 58 = .ok (.i2c, 1) := by decide +kernel
theorem dJ2_getChar_3b067_59 : decode cJ2_getChar_3b067 59 = .ok (.ireturn, 1) := by decide +kernel
theorem dJ2_length_9d52b_0 : decode cJ2_length_9d52b 0 = .ok (.aload_n 0, 1) := by decide +kernel
theorem dJ2_length_9d52b_1 : decode cJ2_length_9d52b 1 = .ok (.arraylength, 1) := by decide +kernel
theorem dJ2_length_9d52b_2 : decode cJ2_length_9d52b 2 = .ok (.iconst 1, 1) := by decide +kernel
theorem dJ2_length_9d52b_3 : decode cJ2_length_9d52b 3 = .ok (.ishr, 1) := by decide +kernel
theorem dJ2_length_9d52b_4 : decode cJ2_length_9d52b 4 = .ok (.ireturn, 1) := by decide +kernel
set_option maxRecDepth 20000 in
theorem ggJ2_indexOf_4cfef_J2_indexOfChar_4cfef : GoodIn wsJ2_indexOf_4cfef wsJ2_indexOfChar_4cfef := goodIn_r _ [12, 13, 14, 11, 15, 16, 17, 18, 19, 20, 21, 22, 23, 24, 25, 26, 27, 28, 29, 30, 31, 32, 33, 34, 35, 36] (by decide +kernel) (by decide +kernel)
set_option maxRecDepth 20000 in
theorem gJ2_indexOf_4cfef_J2_indexOfChar_4cfef : GoodIn wsJ2_indexOf_4cfef (va_wsS RJ2 228 yJ2_indexOfChar_4cfef wsJ2_indexOfChar_4cfef) := goodIn_app (goodIn_of _ (by decide +kernel)) ggJ2_indexOf_4cfef_J2_indexOfChar_4cfef
set_option maxRecDepth 20000 in
theorem ggJ2_indexOf_4cfef_J2_indexOfSupplementary_4cfef : GoodIn wsJ2_indexOf_4cfef wsJ2_indexOfSupplementary_4cfef := goodIn_r _ [39, 40, 41, 42, 43, 44, 45, 46, 47, 48, 49, 50, 51, 13, 14, 11, 15, 16, 17, 18, 19, 20, 21, 22, 23, 24, 25, 26, 27, 31, 32, 33, 34, 35, 36] (by decide +kernel) (by decide +kernel)
set_option maxRecDepth 20000 in
theorem gJ2_indexOf_4cfef_J2_indexOfSupplementary_4cfef : GoodIn wsJ2_indexOf_4cfef (va_wsS RJ2 232 yJ2_indexOfSupplementary_4cfef wsJ2_indexOfSupplementary_4cfef) := goodIn_app (goodIn_of _ (by decide +kernel)) ggJ2_indexOf_4cfef_J2_indexOfSupplementary_4cfef
theorem dJ2_indexOf_4cfef_0 : decode cJ2_indexOf_4cfef 0 = .ok (.iload_n 2, 1) := by decide +kernel
theorem dJ2_indexOf_4cfef_1 : decode cJ2_indexOf_4cfef 1 = .ok (.iconst 0, 1) := by decide +kernel
theorem dJ2_indexOf_4cfef_2 : decode cJ2_indexOf_4cfef 2 = .ok (.invokestatic 224, 3) := by decide +kernel
theorem dJ2_indexOf_4cfef_5 : decode cJ2_indexOf_4cfef 5 = .ok (.istore_n 2, 1) := by decide +kernel
theorem dJ2_indexOf_4cfef_6 : decode cJ2_indexOf_4cfef 6 = .ok (.iload_n 3, 1) := by decide +kernel
theorem dJ2_indexOf_4cfef_7 : decode cJ2_indexOf_4cfef 7 = .ok (.aload_n 0, 1) := by decide +kernel
theorem dJ2_indexOf_4cfef_8 : decode cJ2_indexOf_4cfef 8 = .ok (.arraylength, 1) := by decide +kernel
theorem dJ2_indexOf_4cfef_9 : decode cJ2_indexOf_4cfef 9 = .ok (.iconst 1, 1) := by decide +kernel
theorem dJ2_indexOf_4cfef_10 : decode cJ2_indexOf_4cfef 10 = .ok (.ishr, 1) := by decide +kernel
theorem dJ2_indexOf_4cfef_11 : decode cJ2_indexOf_4cfef 11 = .ok (.invokestatic 183, 3) := by decide +kernel
theorem dJ2_indexOf_4cfef_14 : decode cJ2_indexOf_4cfef 14 = .ok (.istore_n 3, 1) := by decide +kernel
theorem dJ2_indexOf_4cfef_15 : decode cJ2_indexOf_4cfef 15 = .ok (.iload_n 2, 1) := by decide +kernel
theorem dJ2_indexOf_4cfef_16 : decode cJ2_indexOf_4cfef 16 = .ok (.iload_n 3, 1) := by decide +kernel
theorem dJ2_indexOf_4cfef_17 : decode cJ2_indexOf_4cfef 17 = .ok (.if_icmp .lt 5, 3) := by decide +kernel
theorem dJ2_indexOf_4cfef_20 : decode cJ2_indexOf_4cfef 20 = .ok (.iconst (-1), 1) := by decide +kernel
theorem dJ2_indexOf_4cfef_21 : decode cJ2_indexOf_4cfef 21 = .ok (.ireturn, 1) := by decide +kernel
theorem dJ2_indexOf_4cfef_22 : decode cJ2_indexOf_4cfef 22 = .ok (.iload_n 1, 1) := by decide +kernel
theorem dJ2_indexOf_4cfef_23 : decode cJ2_indexOf_4cfef 23 = .ok (.ldc 227, 2) := by decide +kernel
theorem dJ2_indexOf_4cfef_25 : decode cJ2_indexOf_4cfef 25 = .ok (.if_icmp .ge 11, 3) := by decide +kernel
theorem dJ2_indexOf_4cfef_28 : decode cJ2_indexOf_4cfef 28 = .ok (.aload_n 0, 1) := by decide +kernel
theorem dJ2_indexOf_4cfef_29 : decode cJ2_indexOf_4cfef 29 = .ok (.iload_n 1, 1) := by decide +kernel
theorem dJ2_indexOf_4cfef_30 : decode cJ2_indexOf_4cfef 30 = .ok (.iload_n 2, 1) := by decide +kernel
theorem dJ2_indexOf_4cfef_31 : decode cJ2_indexOf_4cfef 31 = .ok (.iload_n 3, 1) := by decide +kernel
theorem dJ2_indexOf_4cfef_32 : decode cJ2_indexOf_4cfef 32 = .ok (.invokestatic 228, 3) := by decide +kernel
theorem dJ2_indexOf_4cfef_35 : decode cJ2_indexOf_4cfef 35 = .ok (.ireturn, 1) := by decide +kernel
theorem dJ2_indexOf_4cfef_36 : decode cJ2_indexOf_4cfef 36 = .ok (.aload_n 0, 1) := by decide +kernel
theorem dJ2_indexOf_4cfef_37 : decode cJ2_indexOf_4cfef 37 = .ok (.iload_n 1, 1) := by decide +kernel
theorem dJ2_indexOf_4cfef_38 : decode cJ2_indexOf_4cfef 38 = .ok (.iload_n 2, 1) := by decide +kernel
theorem dJ2_indexOf_4cfef_39 : decode cJ2_indexOf_4cfef 39 = .ok (.iload_n 3, 1) := by decide +kernel
theorem dJ2_indexOf_4cfef_40 : decode cJ2_indexOf_4cfef 40 = .ok (.invokestatic 232, 3) := by decide +kernel
theorem dJ2_indexOf_4cfef_43 : decode cJ2_indexOf_4cfef 43 = .ok (.ireturn, 1) := by decide +kernel
set_option maxRecDepth 20000 in
theorem ggJ2_indexOfChar_4cfef_J2_checkBoundsBeginEnd_d044e : GoodIn wsJ2_indexOfChar_4cfef wsJ2_checkBoundsBeginEnd_d044e := goodIn_r _ [4, 5, 6, 3, 7, 8, 9, 10, 11, 12, 13, 14, 15, 16] (by decide +kernel) (by decide +kernel)
set_option maxRecDepth 20000 in
theorem gJ2_indexOfChar_4cfef_J2_checkBoundsBeginEnd_d044e : GoodIn wsJ2_indexOfChar_4cfef (va_wsS RJ2 96 yJ2_checkBoundsBeginEnd_d044e wsJ2_checkBoundsBeginEnd_d044e) := goodIn_app (goodIn_of _ (by decide +kernel)) ggJ2_indexOfChar_4cfef_J2_checkBoundsBeginEnd_d044e
set_option maxRecDepth 20000 in
theorem ggJ2_indexOfChar_4cfef_J2_indexOfCharUnsafe_4cfef : GoodIn wsJ2_indexOfChar_4cfef wsJ2_indexOfCharUnsafe_4cfef := goodIn_r _ [19, 20, 21, 3, 22, 23, 24, 25, 5, 6, 7] (by decide +kernel) (by decide +kernel)
set_option maxRecDepth 20000 in
theorem gJ2_indexOfChar_4cfef_J2_indexOfCharUnsafe_4cfef : GoodIn wsJ2_indexOfChar_4cfef (va_wsS RJ2 244 yJ2_indexOfCharUnsafe_4cfef wsJ2_indexOfCharUnsafe_4cfef) := goodIn_app (goodIn_of _ (by decide +kernel)) ggJ2_indexOfChar_4cfef_J2_indexOfCharUnsafe_4cfef
theorem dJ2_indexOfChar_4cfef_0 : decode cJ2_indexOfChar_4cfef 0 = .ok (.iload_n 2, 1) := by decide +kernel
theorem dJ2_indexOfChar_4cfef_1 : decode cJ2_indexOfChar_4cfef 1 = .ok (.iload_n 3, 1) := by decide +kernel
theorem dJ2_indexOfChar_4cfef_2 : decode cJ2_indexOfChar_4cfef 2 = .ok (.aload_n 0, 1) := by decide +kernel
theorem dJ2_indexOfChar_4cfef_3 : decode cJ2_indexOfChar_4cfef 3 = .ok (.invokestatic 96, 3) := by decide +kernel
theorem dJ2_indexOfChar_4cfef_6 : decode cJ2_indexOfChar_4cfef 6 = .ok (.aload_n 0, 1) := by decide +kernel
theorem dJ2_indexOfChar_4cfef_7 : decode cJ2_indexOfChar_4cfef 7 = .ok (.iload_n 1, 1) := by decide +kernel
theorem dJ2_indexOfChar_4cfef_8 : decode cJ2_indexOfChar_4cfef 8 = .ok (.iload_n 2, 1) := by decide +kernel
theorem dJ2_indexOfChar_4cfef_9 : decode cJ2_indexOfChar_4cfef 9 = .ok (.iload_n 3, 1) := by decide +kernel
theorem dJ2_indexOfChar_4cfef_10 : decode cJ2_indexOfChar_4cfef 10 = .ok (.invokestatic 244, 3) := by decide +kernel
theorem dJ2_indexOfChar_4cfef_13 : decode cJ2_indexOfChar_4cfef 13 = .ok (.ireturn, 1) := by decide +kernel
set_option maxRecDepth 20000 in
theorem ggJ2_indexOfCharUnsafe_4cfef_J2_getChar_3b067 : GoodIn wsJ2_indexOfCharUnsafe_4cfef wsJ2_getChar_3b067 := goodIn_r _ [4, 5, 6, 7, 8, 9, 3, 10] (by decide +kernel) (by decide +kernel)
set_option maxRecDepth 20000 in
theorem gJ2_indexOfCharUnsafe_4cfef_J2_getChar_3b067 : GoodIn wsJ2_indexOfCharUnsafe_4cfef (va_wsS RJ2 71 yJ2_getChar_3b067 wsJ2_getChar_3b067) := goodIn_app (goodIn_of _ (by decide +kernel)) ggJ2_indexOfCharUnsafe_4cfef_J2_getChar_3b067
theorem dJ2_indexOfCharUnsafe_4cfef_0 : decode cJ2_indexOfCharUnsafe_4cfef 0 = .ok (.iload_n 2, 1) := by decide +kernel
theorem dJ2_indexOfCharUnsafe_4cfef_1 : decode cJ2_indexOfCharUnsafe_4cfef 1 = .ok (.istore 4, 2) := by decide +kernel
theorem dJ2_indexOfCharUnsafe_4cfef_3 : decode cJ2_indexOfCharUnsafe_4cfef 3 = .ok (.iload 4, 2) := by decide +kernel
theorem dJ2_indexOfCharUnsafe_4cfef_5 : decode cJ2_indexOfCharUnsafe_4cfef 5 = .ok (.iload_n 3, 1) := by decide +kernel
theorem dJ2_indexOfCharUnsafe_4cfef_6 : decode cJ2_indexOfCharUnsafe_4cfef 6 = .ok (.if_icmp .ge 22, 3) := by decide +kernel
theorem dJ2_indexOfCharUnsafe_4cfef_9 : decode cJ2_indexOfCharUnsafe_4cfef 9 = .ok (.aload_n 0, 1) := by decide +kernel
theorem dJ2_indexOfCharUnsafe_4cfef_10 : decode cJ2_indexOfCharUnsafe_4cfef 10 = .ok (.iload 4, 2) := by decide +kernel
theorem dJ2_indexOfCharUnsafe_4cfef_12 : decode cJ2_indexOfCharUnsafe_4cfef 12 = .ok (.invokestatic 71, 3) := by decide +kernel
theorem dJ2_indexOfCharUnsafe_4cfef_15 : decode cJ2_indexOfCharUnsafe_4cfef 15 = .ok (.iload_n 1, 1) := by decide +kernel
theorem dJ2_indexOfCharUnsafe_4cfef_16 : decode cJ2_indexOfCharUnsafe_4cfef 16 = .ok (.if_icmp .ne 6, 3) := by decide +kernel
theorem dJ2_indexOfCharUnsafe_4cfef_19 : decode cJ2_indexOfCharUnsafe_4cfef 19 = .ok (.iload 4, 2) := by decide +kernel
theorem dJ2_indexOfCharUnsafe_4cfef_21 : decode cJ2_indexOfCharUnsafe_4cfef 21 = .ok (.ireturn, 1) := by decide +kernel
theorem dJ2_indexOfCharUnsafe_4cfef_22 : decode cJ2_indexOfCharUnsafe_4cfef 22 = .ok (.iinc 4 1, 3) := by decide +kernel
theorem dJ2_indexOfCharUnsafe_4cfef_25 : decode cJ2_indexOfCharUnsafe_4cfef 25 = .ok (.goto (-22), 3) := by decide +kernel
theorem dJ2_indexOfCharUnsafe_4cfef_28 : decode cJ2_indexOfCharUnsafe_4cfef 28 = .ok (.iconst (-1), 1) := by decide +kernel
theorem dJ2_indexOfCharUnsafe_4cfef_29 : decode cJ2_indexOfCharUnsafe_4cfef 29 = .ok (.ireturn, 1) := by decide +kernel
set_option maxRecDepth 20000 in
theorem ggJ2_indexOfSupplementary_4cfef_J11_isValidCodePoint_9a6ad : GoodIn wsJ2_indexOfSupplementary_4cfef wsJ11_isValidCodePoint_9a6ad := goodIn_r _ [4] (by decide +kernel) (by decide +kernel)
set_option maxRecDepth 20000 in
theorem gJ2_indexOfSupplementary_4cfef_J11_isValidCodePoint_9a6ad : GoodIn wsJ2_indexOfSupplementary_4cfef (va_wsS RJ2 164 yJ11_isValidCodePoint_9a6ad wsJ11_isValidCodePoint_9a6ad) := goodIn_app (goodIn_of _ (by decide +kernel)) ggJ2_indexOfSupplementary_4cfef_J11_isValidCodePoint_9a6ad
set_option maxRecDepth 20000 in
theorem ggJ2_indexOfSupplementary_4cfef_J11_highSurrogate_5068e : GoodIn wsJ2_indexOfSupplementary_4cfef wsJ11_highSurrogate_5068e := goodIn_r _ [7, 8] (by decide +kernel) (by decide +kernel)
set_option maxRecDepth 20000 in
theorem gJ2_indexOfSupplementary_4cfef_J11_highSurrogate_5068e : GoodIn wsJ2_indexOfSupplementary_4cfef (va_wsS RJ2 157 yJ11_highSurrogate_5068e wsJ11_highSurrogate_5068e) := goodIn_app (goodIn_of _ (by decide +kernel)) ggJ2_indexOfSupplementary_4cfef_J11_highSurrogate_5068e
set_option maxRecDepth 20000 in
theorem ggJ2_indexOfSupplementary_4cfef_J11_lowSurrogate_5068e : GoodIn wsJ2_indexOfSupplementary_4cfef wsJ11_lowSurrogate_5068e := goodIn_r _ [11, 12] (by decide +kernel) (by decide +kernel)
set_option maxRecDepth 20000 in
theorem gJ2_indexOfSupplementary_4cfef_J11_lowSurrogate_5068e : GoodIn wsJ2_indexOfSupplementary_4cfef (va_wsS RJ2 161 yJ11_lowSurrogate_5068e wsJ11_lowSurrogate_5068e) := goodIn_app (goodIn_of _ (by decide +kernel)) ggJ2_indexOfSupplementary_4cfef_J11_lowSurrogate_5068e
set_option maxRecDepth 20000 in
theorem ggJ2_indexOfSupplementary_4cfef_J2_checkBoundsBeginEnd_d044e : GoodIn wsJ2_indexOfSupplementary_4cfef wsJ2_checkBoundsBeginEnd_d044e := goodIn_r _ [16, 17, 18, 15, 19, 20, 21, 22, 23, 24, 25, 26, 27, 28] (by decide +kernel) (by decide +kernel)
set_option maxRecDepth 20000 in
theorem gJ2_indexOfSupplementary_4cfef_J2_checkBoundsBeginEnd_d044e : GoodIn wsJ2_indexOfSupplementary_4cfef (va_wsS RJ2 96 yJ2_checkBoundsBeginEnd_d044e wsJ2_checkBoundsBeginEnd_d044e) := goodIn_app (goodIn_of _ (by decide +kernel)) ggJ2_indexOfSupplementary_4cfef_J2_checkBoundsBeginEnd_d044e
set_option maxRecDepth 20000 in
theorem ggJ2_indexOfSupplementary_4cfef_J2_getChar_3b067 : GoodIn wsJ2_indexOfSupplementary_4cfef wsJ2_getChar_3b067 := goodIn_r _ [31, 32, 33, 34, 17, 18, 15, 19] (by decide +kernel) (by decide +kernel)
set_option maxRecDepth 20000 in
theorem gJ2_indexOfSupplementary_4cfef_J2_getChar_3b067 : GoodIn wsJ2_indexOfSupplementary_4cfef (va_wsS RJ2 71 yJ2_getChar_3b067 wsJ2_getChar_3b067) := goodIn_app (goodIn_of _ (by decide +kernel)) ggJ2_indexOfSupplementary_4cfef_J2_getChar_3b067
theorem dJ2_indexOfSupplementary_4cfef_0 : decode cJ2_indexOfSupplementary_4cfef 0 = .ok (.iload_n 1, 1) := by decide +kernel
theorem dJ2_indexOfSupplementary_4cfef_1 : decode cJ2_indexOfSupplementary_4cfef 1 = .ok (.invokestatic 164, 3) := by decide +kernel
theorem dJ2_indexOfSupplementary_4cfef_4 : decode cJ2_indexOfSupplementary_4cfef 4 = .ok (.ifCond .eq 65, 3) := by decide +kernel
theorem dJ2_indexOfSupplementary_4cfef_7 : decode cJ2_indexOfSupplementary_4cfef 7 = .ok (.iload_n 1, 1) := by decide +kernel
theorem dJ2_indexOfSupplementary_4cfef_8 : decode cJ2_indexOfSupplementary_4cfef 8 = .ok (.invokestatic 157, 3) := by decide +kernel
theorem dJ2_indexOfSupplementary_4cfef_11 : decode cJ2_indexOfSupplementary_4cfef 11 = .ok (.istore 4, 2) := by decide +kernel
theorem dJ2_indexOfSupplementary_4cfef_13 : decode cJ2_indexOfSupplementary_4cfef 13 = .ok (.iload_n 1, 1) := by decide +kernel
theorem dJ2_indexOfSupplementary_4cfef_14 : decode cJ2_indexOfSupplementary_4cfef 14 = .ok (.invokestatic 161, 3) := by decide +kernel
theorem dJ2_indexOfSupplementary_4cfef_17 : decode cJ2_indexOfSupplementary_4cfef 17 = .ok (.istore 5, 2) := by decide +kernel
theorem dJ2_indexOfSupplementary_4cfef_19 : decode cJ2_indexOfSupplementary_4cfef 19 = .ok (.iload_n 2, 1) := by decide +kernel
theorem dJ2_indexOfSupplementary_4cfef_20 : decode cJ2_indexOfSupplementary_4cfef 20 = .ok (.iload_n 3, 1) := by decide +kernel
theorem dJ2_indexOfSupplementary_4cfef_21 : decode cJ2_indexOfSupplementary_4cfef 21 = .ok (.aload_n 0, 1) := by decide +kernel
theorem dJ2_indexOfSupplementary_4cfef_22 : decode cJ2_indexOfSupplementary_4cfef 22 = .ok (.invokestatic 96, 3) := by decide +kernel
theorem dJ2_indexOfSupplementary_4cfef_25 : decode cJ2_indexOfSupplementary_4cfef 25 = .ok (.iload_n 2, 1) := by decide +kernel
theorem dJ2_indexOfSupplementary_4cfef_26 : decode cJ2_indexOfSupplementary_4cfef 26 = .ok (.istore 6, 2) := by decide +kernel
theorem dJ2_indexOfSupplementary_4cfef_28 : decode cJ2_indexOfSupplementary_4cfef 28 = .ok (.iload 6, 2) := by decide +kernel
theorem dJ2_indexOfSupplementary_4cfef_30 : decode cJ2_indexOfSupplementary_4cfef 30 = .ok (.iload_n 3, 1) := by decide +kernel
theorem dJ2_indexOfSupplementary_4cfef_31 : decode cJ2_indexOfSupplementary_4cfef 31 = .ok (.iconst 1, 1) := by decide +kernel
theorem dJ2_indexOfSupplementary_4cfef_32 : decode cJ2_indexOfSupplementary_4cfef 32 = .ok (.isub, 1) := by decide +kernel
theorem dJ2_indexOfSupplementary_4cfef_33 : decode cJ2_indexOfSupplementary_4cfef 33 = .ok (.if_icmp .ge 36, 3) := by decide +kernel
theorem dJ2_indexOfSupplementary_4cfef_36 : decode cJ2_indexOfSupplementary_4cfef 36 = .ok (.aload_n 0, 1) := by decide +kernel
theorem dJ2_indexOfSupplementary_4cfef_37 : decode cJ2_indexOfSupplementary_4cfef 37 = .ok (.iload 6, 2) := by decide +kernel
theorem dJ2_indexOfSupplementary_4cfef_39 : decode cJ2_indexOfSupplementary_4cfef 39 = .ok (.invokestatic 71, 3) := by decide +kernel
theorem dJ2_indexOfSupplementary_4cfef_42 : decode cJ2_indexOfSupplementary_4cfef 42 = .ok (.iload 4, 2) := by decide +kernel
theorem dJ2_indexOfSupplementary_4cfef_44 : decode cJ2_indexOfSupplementary_4cfef 44 = .ok (.if_icmp .ne 19, 3) := by decide +kernel
theorem dJ2_indexOfSupplementary_4cfef_47 : decode cJ2_indexOfSupplementary_4cfef 47 = .ok (.aload_n 0, 1) := by decide +kernel
theorem dJ2_indexOfSupplementary_4cfef_48 : decode cJ2_indexOfSupplementary_4cfef 48 = .ok (.iload 6, 2) := by decide +kernel
theorem dJ2_indexOfSupplementary_4cfef_50 : decode cJ2_indexOfSupplementary_4cfef 50 = .ok (.iconst 1, 1) := by decide +kernel
theorem dJ2_indexOfSupplementary_4cfef_51 : decode cJ2_indexOfSupplementary_4cfef 51 = .ok (.iadd, 1) := by decide +kernel
theorem dJ2_indexOfSupplementary_4cfef_52 : decode cJ2_indexOfSupplementary_4cfef 52 = .ok (.invokestatic 71, 3) := by decide +kernel
theorem dJ2_indexOfSupplementary_4cfef_55 : decode cJ2_indexOfSupplementary_4cfef 55 = .ok (.iload 5, 2) := by decide +kernel
theorem dJ2_indexOfSupplementary_4cfef_57 : decode cJ2_indexOfSupplementary_4cfef 57 = .ok (.if_icmp .ne 6, 3) := by decide +kernel
theorem dJ2_indexOfSupplementary_4cfef_60 : decode cJ2_indexOfSupplementary_4cfef 60 = .ok (.iload 6, 2) := by decide +kernel
theorem dJ2_indexOfSupplementary_4cfef_62 : decode cJ2_indexOfSupplementary_4cfef 62 = .ok (.ireturn, 1) := by decide +kernel
theorem dJ2_indexOfSupplementary_4cfef_63 : decode cJ2_indexOfSupplementary_4cfef 63 = .ok (.iinc 6 1, 3) := by decide +kernel
theorem dJ2_indexOfSupplementary_4cfef_66 : decode cJ2_indexOfSupplementary_4cfef 66 = .ok (.goto (-38), 3) := by decide +kernel
theorem dJ2_indexOfSupplementary_4cfef_69 : decode cJ2_indexOfSupplementary_4cfef 69 = .ok (.iconst (-1), 1) := by decide +kernel
theorem dJ2_indexOfSupplementary_4cfef_70 : decode cJ2_indexOfSupplementary_4cfef 70 = .ok (.ireturn, 1) := by decide +kernel
set_option maxRecDepth 20000 in
theorem ggJ2_charAt_3b067_J2_checkIndex_2214a : GoodIn wsJ2_charAt_3b067 wsJ2_checkIndex_2214a := goodIn_r _ [4, 5, 6, 3, 7, 8, 9, 10, 11, 12, 13, 14, 15, 16] (by decide +kernel) (by decide +kernel)
set_option maxRecDepth 20000 in
theorem gJ2_charAt_3b067_J2_checkIndex_2214a : GoodIn wsJ2_charAt_3b067 (va_wsS RJ2 67 yJ2_checkIndex_2214a wsJ2_checkIndex_2214a) := goodIn_app (goodIn_of _ (by decide +kernel)) ggJ2_charAt_3b067_J2_checkIndex_2214a
set_option maxRecDepth 20000 in
theorem ggJ2_charAt_3b067_J2_getChar_3b067 : GoodIn wsJ2_charAt_3b067 wsJ2_getChar_3b067 := goodIn_r _ [19, 20, 21, 22, 5, 6, 3, 7] (by decide +kernel) (by decide +kernel)
set_option maxRecDepth 20000 in
theorem gJ2_charAt_3b067_J2_getChar_3b067 : GoodIn wsJ2_charAt_3b067 (va_wsS RJ2 71 yJ2_getChar_3b067 wsJ2_getChar_3b067) := goodIn_app (goodIn_of _ (by decide +kernel)) ggJ2_charAt_3b067_J2_getChar_3b067
theorem dJ2_charAt_3b067_0 : decode cJ2_charAt_3b067 0 = .ok (.iload_n 1, 1) := by decide +kernel
theorem dJ2_charAt_3b067_1 : decode cJ2_charAt_3b067 1 = .ok (.aload_n 0, 1) := by decide +kernel
theorem dJ2_charAt_3b067_2 : decode cJ2_charAt_3b067 2 = .ok (.invokestatic 67, 3) := by decide +kernel
theorem dJ2_charAt_3b067_5 : decode cJ2_charAt_3b067 5 = .ok (.aload_n 0, 1) := by decide +kernel
theorem dJ2_charAt_3b067_6 : decode cJ2_charAt_3b067 6 = .ok (.iload_n 1, 1) := by decide +kernel
theorem dJ2_charAt_3b067_7 : decode cJ2_charAt_3b067 7 = .ok (.invokestatic 71, 3) := by decide +kernel
theorem dJ2_charAt_3b067_10 : decode cJ2_charAt_3b067 10 = .ok (.ireturn, 1) := by decide +kernel
set_option maxRecDepth 20000 in
theorem ggJ2_checkIndex_2214a_J2_length_9d52b : GoodIn wsJ2_checkIndex_2214a wsJ2_length_9d52b := goodIn_r _ [4] (by decide +kernel) (by decide +kernel)
set_option maxRecDepth 20000 in
theorem gJ2_checkIndex_2214a_J2_length_9d52b : GoodIn wsJ2_checkIndex_2214a (va_wsS RJ2 48 yJ2_length_9d52b wsJ2_length_9d52b) := goodIn_app (goodIn_of _ (by decide +kernel)) ggJ2_checkIndex_2214a_J2_length_9d52b
set_option maxRecDepth 20000 in
theorem ggJ2_checkIndex_2214a_J0_checkIndex_df160 : GoodIn wsJ2_checkIndex_2214a wsJ0_checkIndex_df160 := goodIn_r _ [8, 9, 10, 11, 12, 13] (by decide +kernel) (by decide +kernel)
set_option maxRecDepth 20000 in
theorem gJ2_checkIndex_2214a_J0_checkIndex_df160 : GoodIn wsJ2_checkIndex_2214a (va_wsS RJ2 414 yJ0_checkIndex_df160 wsJ0_checkIndex_df160) := goodIn_app (goodIn_of _ (by decide +kernel)) ggJ2_checkIndex_2214a_J0_checkIndex_df160
theorem dJ2_checkIndex_2214a_0 : decode cJ2_checkIndex_2214a 0 = .ok (.iload_n 0, 1) := by decide +kernel
theorem dJ2_checkIndex_2214a_1 : decode cJ2_checkIndex_2214a 1 = .ok (.aload_n 1, 1) := by decide +kernel
theorem dJ2_checkIndex_2214a_2 : decode cJ2_checkIndex_2214a 2 = .ok (.invokestatic 48, 3) := by decide +kernel
theorem dJ2_checkIndex_2214a_5 : decode cJ2_checkIndex_2214a 5 = .ok (.invokestatic 414, 3) := by decide +kernel
theorem dJ2_checkIndex_2214a_8 : decode cJ2_checkIndex_2214a 8 = .ok (.return_, 1) := by decide +kernel
set_option maxRecDepth 20000 in
theorem ggJ2_checkBoundsBeginEnd_d044e_J2_length_9d52b : GoodIn wsJ2_checkBoundsBeginEnd_d044e wsJ2_length_9d52b := goodIn_r _ [4] (by decide +kernel) (by decide +kernel)
set_option maxRecDepth 20000 in
theorem gJ2_checkBoundsBeginEnd_d044e_J2_length_9d52b : GoodIn wsJ2_checkBoundsBeginEnd_d044e (va_wsS RJ2 48 yJ2_length_9d52b wsJ2_length_9d52b) := goodIn_app (goodIn_of _ (by decide +kernel)) ggJ2_checkBoundsBeginEnd_d044e_J2_length_9d52b
set_option maxRecDepth 20000 in
theorem ggJ2_checkBoundsBeginEnd_d044e_J0_checkBoundsBeginEnd_23922 : GoodIn wsJ2_checkBoundsBeginEnd_d044e wsJ0_checkBoundsBeginEnd_23922 := goodIn_r _ [8, 9, 10, 11, 12, 13] (by decide +kernel) (by decide +kernel)
set_option maxRecDepth 20000 in
theorem gJ2_checkBoundsBeginEnd_d044e_J0_checkBoundsBeginEnd_23922 : GoodIn wsJ2_checkBoundsBeginEnd_d044e (va_wsS RJ2 241 yJ0_checkBoundsBeginEnd_23922 wsJ0_checkBoundsBeginEnd_23922) := goodIn_app (goodIn_of _ (by decide +kernel)) ggJ2_checkBoundsBeginEnd_d044e_J0_checkBoundsBeginEnd_23922
theorem dJ2_checkBoundsBeginEnd_d044e_0 : decode cJ2_checkBoundsBeginEnd_d044e 0 = .ok (.iload_n 0, 1) := by decide +kernel
theorem dJ2_checkBoundsBeginEnd_d044e_1 : decode cJ2_checkBoundsBeginEnd_d044e 1 = .ok (.iload_n 1, 1) := by decide +kernel
theorem dJ2_checkBoundsBeginEnd_d044e_2 : decode cJ2_checkBoundsBeginEnd_d044e 2 = .ok (.aload_n 2, 1) := by decide +kernel
theorem dJ2_checkBoundsBeginEnd_d044e_3 : decode cJ2_checkBoundsBeginEnd_d044e 3 = .ok (.invokestatic 48, 3) := by decide +kernel
theorem dJ2_checkBoundsBeginEnd_d044e_6 : decode cJ2_checkBoundsBeginEnd_d044e 6 = .ok (.invokestatic 241, 3) := by decide +kernel
theorem dJ2_checkBoundsBeginEnd_d044e_9 : decode cJ2_checkBoundsBeginEnd_d044e 9 = .ok (.return_, 1) := by decide +kernel
theorem dJ3_checkIndex_8e157_0 : decode cJ3_checkIndex_8e157 0 = .ok (.iload_n 0, 1) := by decide +kernel
theorem dJ3_checkIndex_8e157_1 : decode cJ3_checkIndex_8e157 1 = .ok (.ifCond .lt 8, 3) := by decide +kernel
theorem dJ3_checkIndex_8e157_4 : decode cJ3_checkIndex_8e157 4 = .ok (.iload_n 0, 1) := by decide +kernel
theorem dJ3_checkIndex_8e157_5 : decode cJ3_checkIndex_8e157 5 = .ok (.iload_n 1, 1) := by decide +kernel
theorem dJ3_checkIndex_8e157_6 : decode cJ3_checkIndex_8e157 6 = .ok (.if_icmp .lt 10, 3) := by decide +kernel
theorem dJ3_checkIndex_8e157_9 : decode cJ3_checkIndex_8e157 9 = .ok (.aload_n 2, 1) := by decide +kernel
theorem dJ3_checkIndex_8e157_10 : decode cJ3_checkIndex_8e157 10 = .ok (.iload_n 0, 1) := by decide +kernel
theorem dJ3_checkIndex_8e157_11 : decode cJ3_checkIndex_8e157 11 = .ok (.iload_n 1, 1) := by decide +kernel
theorem dJ3_checkIndex_8e157_12 : decode cJ3_checkIndex_8e157 12 = .ok (.invokestatic 95, 3) := by decide +kernel
theorem dJ3_checkIndex_8e157_15 : decode cJ3_checkIndex_8e157 15 = .ok (.athrow, 1) := by decide +kernel
theorem dJ3_checkIndex_8e157_16 : decode cJ3_checkIndex_8e157 16 = .ok (.iload_n 0, 1) := by decide +kernel
theorem dJ3_checkIndex_8e157_17 : decode cJ3_checkIndex_8e157 17 = .ok (.ireturn, 1) := by decide +kernel
theorem dJ3_checkFromToIndex_8c36e_0 : decode cJ3_checkFromToIndex_8c36e 0 = .ok (.iload_n 0, 1) := by decide +kernel
theorem dJ3_checkFromToIndex_8c36e_1 : decode cJ3_checkFromToIndex_8c36e 1 = .ok (.ifCond .lt 13, 3) := by decide +kernel
theorem dJ3_checkFromToIndex_8c36e_4 : decode cJ3_checkFromToIndex_8c36e 4 = .ok (.iload_n 0, 1) := by decide +kernel
theorem dJ3_checkFromToIndex_8c36e_5 : decode cJ3_checkFromToIndex_8c36e 5 = .ok (.iload_n 1, 1) := by decide +kernel
theorem dJ3_checkFromToIndex_8c36e_6 : decode cJ3_checkFromToIndex_8c36e 6 = .ok (.if_icmp .gt 8, 3) := by decide +kernel
theorem dJ3_checkFromToIndex_8c36e_9 : decode cJ3_checkFromToIndex_8c36e 9 = .ok (.iload_n 1, 1) := by decide +kernel
theorem dJ3_checkFromToIndex_8c36e_10 : decode cJ3_checkFromToIndex_8c36e 10 = .ok (.iload_n 2, 1) := by decide +kernel
theorem dJ3_checkFromToIndex_8c36e_11 : decode cJ3_checkFromToIndex_8c36e 11 = .ok (.if_icmp .le 11, 3) := by decide +kernel
theorem dJ3_checkFromToIndex_8c36e_14 : decode cJ3_checkFromToIndex_8c36e 14 = .ok (.aload_n 3, 1) := by decide +kernel
theorem dJ3_checkFromToIndex_8c36e_15 : decode cJ3_checkFromToIndex_8c36e 15 = .ok (.iload_n 0, 1) := by decide +kernel
theorem dJ3_checkFromToIndex_8c36e_16 : decode cJ3_checkFromToIndex_8c36e 16 = .ok (.iload_n 1, 1) := by decide +kernel
theorem dJ3_checkFromToIndex_8c36e_17 : decode cJ3_checkFromToIndex_8c36e 17 = .ok (.iload_n 2, 1) := by decide +kernel
theorem dJ3_checkFromToIndex_8c36e_18 : decode cJ3_checkFromToIndex_8c36e 18 = .ok (.invokestatic 99, 3) := by decide +kernel
theorem dJ3_checkFromToIndex_8c36e_21 : decode cJ3_checkFromToIndex_8c36e 21 = .ok (.athrow, 1) := by decide +kernel
theorem dJ3_checkFromToIndex_8c36e_22 : decode cJ3_checkFromToIndex_8c36e 22 = .ok (.iload_n 0, 1) := by decide +kernel
theorem dJ3_checkFromToIndex_8c36e_23 : decode cJ3_checkFromToIndex_8c36e 23 = .ok (.ireturn, 1) := by decide +kernel
