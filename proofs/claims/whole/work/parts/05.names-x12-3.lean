theorem dX12_partsAre_220 : decode cX12_partsAre 220 = .ok (.aload_n 0, 1) := by decide +kernel
theorem dX12_partsAre_221 : decode cX12_partsAre 221 = .ok (.getfield 192, 3) := by decide +kernel
theorem dX12_partsAre_224 : decode cX12_partsAre 224 = .ok (.putfield 192, 3) := by decide +kernel
theorem dX12_partsAre_227 : decode cX12_partsAre 227 = .ok (.aload_n 0, 1) := by decide +kernel
theorem dX12_partsAre_228 : decode cX12_partsAre 228 = .ok (.aload_n 0, 1) := by decide +kernel
theorem dX12_partsAre_229 : decode cX12_partsAre 229 = .ok (.getfield 195, 3) := by decide +kernel
theorem dX12_partsAre_232 : decode cX12_partsAre 232 = .ok (.ifCond .lt 12, 3) := by decide +kernel
theorem dX12_partsAre_235 : decode cX12_partsAre 235 = .ok (.iload 5, 2) := by decide +kernel
theorem dX12_partsAre_237 : decode cX12_partsAre 237 = .ok (.aload_n 0, 1) := by decide +kernel
theorem dX12_partsAre_238 : decode cX12_partsAre 238 = .ok (.getfield 195, 3) := by decide +kernel
theorem dX12_partsAre_241 : decode cX12_partsAre 241 = .ok (.if_icmp .ge 8, 3) := by decide +kernel
theorem dX12_partsAre_244 : decode cX12_partsAre 244 = .ok (.iload 5, 2) := by decide +kernel
theorem dX12_partsAre_246 : decode cX12_partsAre 246 = .ok (.goto 7, 3) := by decide +kernel
theorem dX12_partsAre_249 : decode cX12_partsAre 249 = .ok (.aload_n 0, 1) := by decide +kernel
theorem dX12_partsAre_250 : decode cX12_partsAre 250 = .ok (.getfield 195, 3) := by decide +kernel
theorem dX12_partsAre_253 : decode cX12_partsAre 253 = .ok (.putfield 195, 3) := by decide +kernel
theorem dX12_partsAre_256 : decode cX12_partsAre 256 = .ok (.aload_n 0, 1) := by decide +kernel
theorem dX12_partsAre_257 : decode cX12_partsAre 257 = .ok (.aload_n 0, 1) := by decide +kernel
theorem dX12_partsAre_258 : decode cX12_partsAre 258 = .ok (.getfield 198, 3) := by decide +kernel
theorem dX12_partsAre_261 : decode cX12_partsAre 261 = .ok (.ifCond .lt 12, 3) := by decide +kernel
theorem dX12_partsAre_264 : decode cX12_partsAre 264 = .ok (.iload 6, 2) := by decide +kernel
theorem dX12_partsAre_266 : decode cX12_partsAre 266 = .ok (.aload_n 0, 1) := by decide +kernel
theorem dX12_partsAre_267 : decode cX12_partsAre 267 = .ok (.getfield 198, 3) := by decide +kernel
theorem dX12_partsAre_270 : decode cX12_partsAre 270 = .ok (.if_icmp .ge 8, 3) := by decide +kernel
theorem dX12_partsAre_273 : decode cX12_partsAre 273 = .ok (.iload 6, 2) := by decide +kernel
theorem dX12_partsAre_275 : decode cX12_partsAre 275 = .ok (.goto 7, 3) := by decide +kernel
theorem dX12_partsAre_278 : decode cX12_partsAre 278 = .ok (.aload_n 0, 1) := by decide +kernel
theorem dX12_partsAre_279 : decode cX12_partsAre 279 = .ok (.getfield 198, 3) := by decide +kernel
theorem dX12_partsAre_282 : decode cX12_partsAre 282 = .ok (.putfield 198, 3) := by decide +kernel
theorem dX12_partsAre_285 : decode cX12_partsAre 285 = .ok (.return_, 1) := by decide +kernel
set_option maxRecDepth 20000 in
theorem ggX12_parts_X12_partsAre : GoodIn wsX12_parts wsX12_partsAre := goodIn_r _ [6, 7, 1, 8, 9, 10, 11, 12, 13, 14, 15, 5, 16, 17, 18, 19, 20, 21, 22, 23, 24, 25, 26, 27, 28, 29, 30, 31, 32, 33, 34, 35, 36, 37, 38, 39, 40, 41, 42, 43, 44, 45, 46, 47, 48, 49, 50, 51, 52, 53, 54, 55, 56, 57, 58, 59, 60, 61, 62, 63, 64, 65, 66, 67, 68, 69, 70, 78, 79, 80, 81, 82, 83, 84, 85, 86, 87, 88, 89, 90, 91, 92, 93, 94, 95, 96, 97, 98, 99, 100, 101] (by decide +kernel) (by decide +kernel)
set_option maxRecDepth 20000 in
theorem gX12_parts_X12_partsAre : GoodIn wsX12_parts (wsV RX12 201 RX12 yX12_partsAre wsX12_partsAre) := goodIn_app (goodIn_of _ (by decide +kernel)) ggX12_parts_X12_partsAre
set_option maxRecDepth 20000 in
theorem ggX12_parts_X12_puts : GoodIn wsX12_parts wsX12_puts := goodIn_r _ [74, 1, 78, 79, 80, 81, 82, 83, 84, 85, 86, 87, 88, 89, 90, 91, 92, 93, 94, 95, 96, 97, 98, 99, 100, 101] (by decide +kernel) (by decide +kernel)
set_option maxRecDepth 20000 in
theorem gX12_parts_X12_puts : GoodIn wsX12_parts (wsV RX12 125 RX12 yX12_puts wsX12_puts) := goodIn_app (goodIn_of _ (by decide +kernel)) ggX12_parts_X12_puts
set_option maxRecDepth 20000 in
theorem ggX12_parts_X12_parts : GoodIn wsX12_parts wsX12_parts := goodIn_r _ [0, 1, 2, 3, 4, 5, 6, 7, 8, 9, 10, 11, 12, 13, 14, 15, 16, 17, 18, 19, 20, 21, 22, 23, 24, 25, 26, 27, 28, 29, 30, 31, 32, 33, 34, 35, 36, 37, 38, 39, 40, 41, 42, 43, 44, 45, 46, 47, 48, 49, 50, 51, 52, 53, 54, 55, 56, 57, 58, 59, 60, 61, 62, 63, 64, 65, 66, 67, 68, 69, 70, 71, 72, 73, 74, 75, 76, 77, 78, 79, 80, 81, 82, 83, 84, 85, 86, 87, 88, 89, 90, 91, 92, 93, 94, 95, 96, 97, 98, 99, 100, 101] (by decide +kernel) (by decide +kernel)
set_option maxRecDepth 20000 in
theorem gX12_parts_X12_parts : GoodIn wsX12_parts (wsV RX12 205 RX12 yX12_parts wsX12_parts) := goodIn_app (goodIn_of _ (by decide +kernel)) ggX12_parts_X12_parts
theorem dX12_parts_0 : decode cX12_parts 0 = .ok (.iload_n 1, 1) := by decide +kernel
theorem dX12_parts_1 : decode cX12_parts 1 = .ok (.aload_n 0, 1) := by decide +kernel
theorem dX12_parts_2 : decode cX12_parts 2 = .ok (.getfield 9, 3) := by decide +kernel
theorem dX12_parts_5 : decode cX12_parts 5 = .ok (.iconst 0, 1) := by decide +kernel
theorem dX12_parts_6 : decode cX12_parts 6 = .ok (.iaload, 1) := by decide +kernel
theorem dX12_parts_7 : decode cX12_parts 7 = .ok (.if_icmp .ne 13, 3) := by decide +kernel
theorem dX12_parts_10 : decode cX12_parts 10 = .ok (.iload_n 2, 1) := by decide +kernel
theorem dX12_parts_11 : decode cX12_parts 11 = .ok (.ifCond .ne 8, 3) := by decide +kernel
theorem dX12_parts_14 : decode cX12_parts 14 = .ok (.aload_n 0, 1) := by decide +kernel
theorem dX12_parts_15 : decode cX12_parts 15 = .ok (.iload_n 3, 1) := by decide +kernel
theorem dX12_parts_16 : decode cX12_parts 16 = .ok (.invokevirtual 201, 3) := by decide +kernel
theorem dX12_parts_19 : decode cX12_parts 19 = .ok (.return_, 1) := by decide +kernel
theorem dX12_parts_20 : decode cX12_parts 20 = .ok (.aload_n 0, 1) := by decide +kernel
theorem dX12_parts_21 : decode cX12_parts 21 = .ok (.getfield 9, 3) := by decide +kernel
theorem dX12_parts_24 : decode cX12_parts 24 = .ok (.iconst 0, 1) := by decide +kernel
theorem dX12_parts_25 : decode cX12_parts 25 = .ok (.iaload, 1) := by decide +kernel
theorem dX12_parts_26 : decode cX12_parts 26 = .ok (.iconst 1, 1) := by decide +kernel
theorem dX12_parts_27 : decode cX12_parts 27 = .ok (.isub, 1) := by decide +kernel
theorem dX12_parts_28 : decode cX12_parts 28 = .ok (.iload_n 1, 1) := by decide +kernel
theorem dX12_parts_29 : decode cX12_parts 29 = .ok (.isub, 1) := by decide +kernel
theorem dX12_parts_30 : decode cX12_parts 30 = .ok (.istore 4, 2) := by decide +kernel
theorem dX12_parts_32 : decode cX12_parts 32 = .ok (.iload 4, 2) := by decide +kernel
theorem dX12_parts_34 : decode cX12_parts 34 = .ok (.ifCond .ne 11, 3) := by decide +kernel
theorem dX12_parts_37 : decode cX12_parts 37 = .ok (.iload_n 2, 1) := by decide +kernel
theorem dX12_parts_38 : decode cX12_parts 38 = .ok (.ifCond .le 7, 3) := by decide +kernel
theorem dX12_parts_41 : decode cX12_parts 41 = .ok (.iload_n 2, 1) := by decide +kernel
theorem dX12_parts_42 : decode cX12_parts 42 = .ok (.goto 4, 3) := by decide +kernel
theorem dX12_parts_45 : decode cX12_parts 45 = .ok (.iconst 1, 1) := by decide +kernel
theorem dX12_parts_46 : decode cX12_parts 46 = .ok (.istore 5, 2) := by decide +kernel
theorem dX12_parts_48 : decode cX12_parts 48 = .ok (.iload 5, 2) := by decide +kernel
theorem dX12_parts_50 : decode cX12_parts 50 = .ok (.istore 6, 2) := by decide +kernel
theorem dX12_parts_52 : decode cX12_parts 52 = .ok (.iload 6, 2) := by decide +kernel
theorem dX12_parts_54 : decode cX12_parts 54 = .ok (.iload_n 2, 1) := by decide +kernel
theorem dX12_parts_55 : decode cX12_parts 55 = .ok (.iload 4, 2) := by decide +kernel
theorem dX12_parts_57 : decode cX12_parts 57 = .ok (.isub, 1) := by decide +kernel
theorem dX12_parts_58 : decode cX12_parts 58 = .ok (.if_icmp .gt 29, 3) := by decide +kernel
theorem dX12_parts_61 : decode cX12_parts 61 = .ok (.aload_n 0, 1) := by decide +kernel
theorem dX12_parts_62 : decode cX12_parts 62 = .ok (.iload_n 1, 1) := by decide +kernel
theorem dX12_parts_63 : decode cX12_parts 63 = .ok (.iconst 2, 1) := by decide +kernel
theorem dX12_parts_64 : decode cX12_parts 64 = .ok (.iload 6, 2) := by decide +kernel
theorem dX12_parts_66 : decode cX12_parts 66 = .ok (.invokevirtual 125, 3) := by decide +kernel
theorem dX12_parts_69 : decode cX12_parts 69 = .ok (.aload_n 0, 1) := by decide +kernel
theorem dX12_parts_70 : decode cX12_parts 70 = .ok (.iload_n 1, 1) := by decide +kernel
theorem dX12_parts_71 : decode cX12_parts 71 = .ok (.iconst 1, 1) := by decide +kernel
theorem dX12_parts_72 : decode cX12_parts 72 = .ok (.iadd, 1) := by decide +kernel
theorem dX12_parts_73 : decode cX12_parts 73 = .ok (.iload_n 2, 1) := by decide +kernel
theorem dX12_parts_74 : decode cX12_parts 74 = .ok (.iload 6, 2) := by decide +kernel
theorem dX12_parts_76 : decode cX12_parts 76 = .ok (.isub, 1) := by decide +kernel
theorem dX12_parts_77 : decode cX12_parts 77 = .ok (.iload_n 3, 1) := by decide +kernel
theorem dX12_parts_78 : decode cX12_parts 78 = .ok (.invokevirtual 205, 3) := by decide +kernel
theorem dX12_parts_81 : decode cX12_parts 81 = .ok (.iinc 6 1, 3) := by decide +kernel
theorem dX12_parts_84 : decode cX12_parts 84 = .ok (.goto (-32), 3) := by decide +kernel
theorem dX12_parts_87 : decode cX12_parts 87 = .ok (.return_, 1) := by decide +kernel
set_option maxRecDepth 20000 in
theorem ggX12_partsAll_X12_purse : GoodIn wsX12_partsAll wsX12_purse := goodIn_r _ [12, 13, 14, 15, 11, 16, 6, 91, 92, 93, 94, 95, 96, 97, 98, 99, 100, 101, 102, 103, 104, 105, 106, 107, 108, 109, 110, 111, 112, 113, 114] (by decide +kernel) (by decide +kernel)
set_option maxRecDepth 20000 in
theorem gX12_partsAll_X12_purse : GoodIn wsX12_partsAll (wsV RX12 68 RX12 yX12_purse wsX12_purse) := goodIn_app (goodIn_of _ (by decide +kernel)) ggX12_partsAll_X12_purse
set_option maxRecDepth 20000 in
theorem ggX12_partsAll_X12_begins : GoodIn wsX12_partsAll wsX12_begins := goodIn_r _ [20, 6, 21, 22, 23, 11, 24, 91, 92, 93, 94, 95, 96, 97, 98, 99, 100, 101, 102, 103, 104, 105, 106, 107, 108, 109, 110, 111, 112, 113, 114] (by decide +kernel) (by decide +kernel)
set_option maxRecDepth 20000 in
theorem gX12_partsAll_X12_begins : GoodIn wsX12_partsAll (wsV RX12 208 RX12 yX12_begins wsX12_begins) := goodIn_app (goodIn_of _ (by decide +kernel)) ggX12_partsAll_X12_begins
set_option maxRecDepth 20000 in
theorem ggX12_partsAll_X12_parts : GoodIn wsX12_partsAll wsX12_parts := goodIn_r _ [28, 6, 29, 30, 31, 11, 32, 1, 7, 2, 3, 4, 5, 33, 34, 35, 36, 37, 38, 39, 40, 41, 42, 43, 44, 8, 9, 10, 12, 13, 14, 15, 16, 45, 46, 47, 48, 49, 50, 51, 52, 53, 54, 55, 56, 57, 58, 59, 60, 61, 62, 63, 64, 65, 66, 67, 68, 69, 70, 71, 72, 73, 74, 75, 76, 77, 78, 79, 80, 81, 82, 83, 84, 85, 86, 25, 26, 27, 91, 92, 93, 94, 95, 96, 97, 98, 99, 100, 101, 102, 103, 104, 105, 106, 107, 108, 109, 110, 111, 112, 113, 114] (by decide +kernel) (by decide +kernel)
set_option maxRecDepth 20000 in
theorem gX12_partsAll_X12_parts : GoodIn wsX12_partsAll (wsV RX12 205 RX12 yX12_parts wsX12_parts) := goodIn_app (goodIn_of _ (by decide +kernel)) ggX12_partsAll_X12_parts
set_option maxRecDepth 20000 in
theorem ggX12_partsAll_X12_ends : GoodIn wsX12_partsAll wsX12_ends := goodIn_r _ [90, 21, 6, 22, 23, 11, 24, 91, 92, 93, 94, 95, 96, 97, 98, 99, 100, 101, 102, 103, 104, 105, 106, 107, 108, 109, 110, 111, 112, 113, 114] (by decide +kernel) (by decide +kernel)
set_option maxRecDepth 20000 in
theorem gX12_partsAll_X12_ends : GoodIn wsX12_partsAll (wsV RX12 211 RX12 yX12_ends wsX12_ends) := goodIn_app (goodIn_of _ (by decide +kernel)) ggX12_partsAll_X12_ends
theorem dX12_partsAll_0 : decode cX12_partsAll 0 = .ok (.aload_n 0, 1) := by decide +kernel
theorem dX12_partsAll_1 : decode cX12_partsAll 1 = .ok (.iconst 0, 1) := by decide +kernel
theorem dX12_partsAll_2 : decode cX12_partsAll 2 = .ok (.putfield 186, 3) := by decide +kernel
theorem dX12_partsAll_5 : decode cX12_partsAll 5 = .ok (.aload_n 0, 1) := by decide +kernel
theorem dX12_partsAll_6 : decode cX12_partsAll 6 = .ok (.bipush (-4), 2) := by decide +kernel
theorem dX12_partsAll_8 : decode cX12_partsAll 8 = .ok (.putfield 189, 3) := by decide +kernel
theorem dX12_partsAll_11 : decode cX12_partsAll 11 = .ok (.aload_n 0, 1) := by decide +kernel
theorem dX12_partsAll_12 : decode cX12_partsAll 12 = .ok (.bipush (-4), 2) := by decide +kernel
theorem dX12_partsAll_14 : decode cX12_partsAll 14 = .ok (.putfield 192, 3) := by decide +kernel
theorem dX12_partsAll_17 : decode cX12_partsAll 17 = .ok (.aload_n 0, 1) := by decide +kernel
theorem dX12_partsAll_18 : decode cX12_partsAll 18 = .ok (.bipush (-4), 2) := by decide +kernel
theorem dX12_partsAll_20 : decode cX12_partsAll 20 = .ok (.putfield 195, 3) := by decide +kernel
theorem dX12_partsAll_23 : decode cX12_partsAll 23 = .ok (.aload_n 0, 1) := by decide +kernel
theorem dX12_partsAll_24 : decode cX12_partsAll 24 = .ok (.bipush (-4), 2) := by decide +kernel
theorem dX12_partsAll_26 : decode cX12_partsAll 26 = .ok (.putfield 198, 3) := by decide +kernel
theorem dX12_partsAll_29 : decode cX12_partsAll 29 = .ok (.iconst 0, 1) := by decide +kernel
theorem dX12_partsAll_30 : decode cX12_partsAll 30 = .ok (.istore_n 3, 1) := by decide +kernel
theorem dX12_partsAll_31 : decode cX12_partsAll 31 = .ok (.iload_n 3, 1) := by decide +kernel
theorem dX12_partsAll_32 : decode cX12_partsAll 32 = .ok (.aload_n 0, 1) := by decide +kernel
theorem dX12_partsAll_33 : decode cX12_partsAll 33 = .ok (.getfield 9, 3) := by decide +kernel
theorem dX12_partsAll_36 : decode cX12_partsAll 36 = .ok (.iconst 0, 1) := by decide +kernel
theorem dX12_partsAll_37 : decode cX12_partsAll 37 = .ok (.iaload, 1) := by decide +kernel
theorem dX12_partsAll_38 : decode cX12_partsAll 38 = .ok (.if_icmp .ge 20, 3) := by decide +kernel
theorem dX12_partsAll_41 : decode cX12_partsAll 41 = .ok (.aload_n 0, 1) := by decide +kernel
theorem dX12_partsAll_42 : decode cX12_partsAll 42 = .ok (.getfield 43, 3) := by decide +kernel
theorem dX12_partsAll_45 : decode cX12_partsAll 45 = .ok (.iload_n 3, 1) := by decide +kernel
theorem dX12_partsAll_46 : decode cX12_partsAll 46 = .ok (.aload_n 0, 1) := by decide +kernel
theorem dX12_partsAll_47 : decode cX12_partsAll 47 = .ok (.iload_n 3, 1) := by decide +kernel
theorem dX12_partsAll_48 : decode cX12_partsAll 48 = .ok (.invokevirtual 68, 3) := by decide +kernel
theorem dX12_partsAll_51 : decode cX12_partsAll 51 = .ok (.iastore, 1) := by decide +kernel
theorem dX12_partsAll_52 : decode cX12_partsAll 52 = .ok (.iinc 3 1, 3) := by decide +kernel
theorem dX12_partsAll_55 : decode cX12_partsAll 55 = .ok (.goto (-24), 3) := by decide +kernel
theorem dX12_partsAll_58 : decode cX12_partsAll 58 = .ok (.aload_n 0, 1) := by decide +kernel
theorem dX12_partsAll_59 : decode cX12_partsAll 59 = .ok (.invokevirtual 208, 3) := by decide +kernel
theorem dX12_partsAll_62 : decode cX12_partsAll 62 = .ok (.aload_n 0, 1) := by decide +kernel
theorem dX12_partsAll_63 : decode cX12_partsAll 63 = .ok (.iconst 0, 1) := by decide +kernel
theorem dX12_partsAll_64 : decode cX12_partsAll 64 = .ok (.iload_n 1, 1) := by decide +kernel
theorem dX12_partsAll_65 : decode cX12_partsAll 65 = .ok (.iload_n 2, 1) := by decide +kernel
theorem dX12_partsAll_66 : decode cX12_partsAll 66 = .ok (.invokevirtual 205, 3) := by decide +kernel
theorem dX12_partsAll_69 : decode cX12_partsAll 69 = .ok (.aload_n 0, 1) := by decide +kernel
theorem dX12_partsAll_70 : decode cX12_partsAll 70 = .ok (.invokevirtual 211, 3) := by decide +kernel
theorem dX12_partsAll_73 : decode cX12_partsAll 73 = .ok (.return_, 1) := by decide +kernel
set_option maxRecDepth 20000 in
theorem ggX12_wrongParting_X12_isIn : GoodIn wsX12_wrongParting wsX12_isIn := goodIn_r _ [6] (by decide +kernel) (by decide +kernel)
set_option maxRecDepth 20000 in
theorem gX12_wrongParting_X12_isIn : GoodIn wsX12_wrongParting (va_wsS RX12 52 yX12_isIn wsX12_isIn) := goodIn_app (goodIn_of _ (by decide +kernel)) ggX12_wrongParting_X12_isIn
theorem dX12_wrongParting_0 : decode cX12_wrongParting 0 = .ok (.iload_n 1, 1) := by decide +kernel
theorem dX12_wrongParting_1 : decode cX12_wrongParting 1 = .ok (.i2l, 1) := by decide +kernel
theorem dX12_wrongParting_2 : decode cX12_wrongParting 2 = .ok (.lconst 0, 1) := by decide +kernel
theorem dX12_wrongParting_3 : decode cX12_wrongParting 3 = .ok (.ldc2_w 214, 3) := by decide +kernel
theorem dX12_wrongParting_6 : decode cX12_wrongParting 6 = .ok (.invokestatic 52, 3) := by decide +kernel
theorem dX12_wrongParting_9 : decode cX12_wrongParting 9 = .ok (.ifCond .ne 7, 3) := by decide +kernel
theorem dX12_wrongParting_12 : decode cX12_wrongParting 12 = .ok (.iconst (-1), 1) := by decide +kernel
theorem dX12_wrongParting_13 : decode cX12_wrongParting 13 = .ok (.goto 20, 3) := by decide +kernel
theorem dX12_wrongParting_16 : decode cX12_wrongParting 16 = .ok (.aload_n 0, 1) := by decide +kernel
theorem dX12_wrongParting_17 : decode cX12_wrongParting 17 = .ok (.getfield 9, 3) := by decide +kernel
theorem dX12_wrongParting_20 : decode cX12_wrongParting 20 = .ok (.iconst 0, 1) := by decide +kernel
theorem dX12_wrongParting_21 : decode cX12_wrongParting 21 = .ok (.iaload, 1) := by decide +kernel
theorem dX12_wrongParting_22 : decode cX12_wrongParting 22 = .ok (.bipush 6, 2) := by decide +kernel
theorem dX12_wrongParting_24 : decode cX12_wrongParting 24 = .ok (.if_icmp .le 8, 3) := by decide +kernel
theorem dX12_wrongParting_27 : decode cX12_wrongParting 27 = .ok (.bipush (-3), 2) := by decide +kernel
theorem dX12_wrongParting_29 : decode cX12_wrongParting 29 = .ok (.goto 4, 3) := by decide +kernel
theorem dX12_wrongParting_32 : decode cX12_wrongParting 32 = .ok (.iconst 0, 1) := by decide +kernel
theorem dX12_wrongParting_33 : decode cX12_wrongParting 33 = .ok (.ireturn, 1) := by decide +kernel
set_option maxRecDepth 20000 in
theorem ggX12_partings_X12_wrongParting : GoodIn wsX12_partings wsX12_wrongParting := goodIn_r _ [6, 7, 8, 9, 10, 5, 11, 100, 101, 102, 103, 104, 105, 106, 107, 108, 109, 110, 111, 112, 113, 114, 115, 116, 117, 118, 119, 120, 121, 122, 123] (by decide +kernel) (by decide +kernel)
set_option maxRecDepth 20000 in
theorem gX12_partings_X12_wrongParting : GoodIn wsX12_partings (wsV RX12 216 RX12 yX12_wrongParting wsX12_wrongParting) := goodIn_app (goodIn_of _ (by decide +kernel)) ggX12_partings_X12_wrongParting
set_option maxRecDepth 20000 in
theorem ggX12_partings_X12_partsAll : GoodIn wsX12_partings wsX12_partsAll := goodIn_r _ [15, 1, 16, 17, 18, 19, 8, 20, 21, 22, 23, 5, 24, 25, 26, 27, 28, 29, 30, 31, 32, 33, 34, 35, 36, 37, 38, 39, 40, 41, 42, 43, 44, 45, 46, 47, 48, 49, 50, 51, 52, 53, 54, 55, 56, 57, 58, 59, 60, 61, 62, 63, 64, 65, 66, 67, 68, 9, 10, 11, 69, 70, 71, 72, 73, 74, 75, 76, 77, 78, 79, 80, 81, 82, 83, 84, 85, 86, 87, 88, 89, 90, 91, 92, 93, 94, 95, 96, 97, 98, 99, 100, 101, 102, 103, 104, 105, 106, 107, 108, 109, 110, 111, 112, 113, 114, 115, 116, 117, 118, 119, 120, 121, 122, 123] (by decide +kernel) (by decide +kernel)
set_option maxRecDepth 20000 in
theorem gX12_partings_X12_partsAll : GoodIn wsX12_partings (wsV RX12 219 RX12 yX12_partsAll wsX12_partsAll) := goodIn_app (goodIn_of _ (by decide +kernel)) ggX12_partings_X12_partsAll
theorem dX12_partings_0 : decode cX12_partings 0 = .ok (.aload_n 0, 1) := by decide +kernel
theorem dX12_partings_1 : decode cX12_partings 1 = .ok (.iload_n 1, 1) := by decide +kernel
theorem dX12_partings_2 : decode cX12_partings 2 = .ok (.invokevirtual 216, 3) := by decide +kernel
theorem dX12_partings_5 : decode cX12_partings 5 = .ok (.istore_n 2, 1) := by decide +kernel
theorem dX12_partings_6 : decode cX12_partings 6 = .ok (.iload_n 2, 1) := by decide +kernel
theorem dX12_partings_7 : decode cX12_partings 7 = .ok (.ifCond .eq 5, 3) := by decide +kernel
theorem dX12_partings_10 : decode cX12_partings 10 = .ok (.iload_n 2, 1) := by decide +kernel
theorem dX12_partings_11 : decode cX12_partings 11 = .ok (.ireturn, 1) := by decide +kernel
theorem dX12_partings_12 : decode cX12_partings 12 = .ok (.aload_n 0, 1) := by decide +kernel
theorem dX12_partings_13 : decode cX12_partings 13 = .ok (.iload_n 1, 1) := by decide +kernel
theorem dX12_partings_14 : decode cX12_partings 14 = .ok (.bipush (-4), 2) := by decide +kernel
theorem dX12_partings_16 : decode cX12_partings 16 = .ok (.invokevirtual 219, 3) := by decide +kernel
theorem dX12_partings_19 : decode cX12_partings 19 = .ok (.aload_n 0, 1) := by decide +kernel
theorem dX12_partings_20 : decode cX12_partings 20 = .ok (.getfield 186, 3) := by decide +kernel
theorem dX12_partings_23 : decode cX12_partings 23 = .ok (.ireturn, 1) := by decide +kernel
set_option maxRecDepth 20000 in
theorem ggX12_uneven_X12_wrongParting : GoodIn wsX12_uneven wsX12_wrongParting := goodIn_r _ [6, 7, 8, 9, 10, 5, 11, 100, 101, 102, 103, 104, 105, 106, 107, 108, 109, 110, 111, 112, 113, 114, 115, 116, 117, 118, 119, 120, 121, 122, 123] (by decide +kernel) (by decide +kernel)
set_option maxRecDepth 20000 in
theorem gX12_uneven_X12_wrongParting : GoodIn wsX12_uneven (wsV RX12 216 RX12 yX12_wrongParting wsX12_wrongParting) := goodIn_app (goodIn_of _ (by decide +kernel)) ggX12_uneven_X12_wrongParting
set_option maxRecDepth 20000 in
theorem ggX12_uneven_X12_partsAll : GoodIn wsX12_uneven wsX12_partsAll := goodIn_r _ [15, 16, 1, 17, 18, 19, 8, 20, 21, 22, 23, 5, 24, 25, 26, 27, 28, 29, 30, 31, 32, 33, 34, 35, 36, 37, 38, 39, 40, 41, 42, 43, 44, 45, 46, 47, 48, 49, 50, 51, 52, 53, 54, 55, 56, 57, 58, 59, 60, 61, 62, 63, 64, 65, 66, 67, 68, 9, 10, 11, 69, 70, 71, 72, 73, 74, 75, 76, 77, 78, 79, 80, 81, 82, 83, 84, 85, 86, 87, 88, 89, 90, 91, 92, 93, 94, 95, 96, 97, 98, 99, 100, 101, 102, 103, 104, 105, 106, 107, 108, 109, 110, 111, 112, 113, 114, 115, 116, 117, 118, 119, 120, 121, 122, 123] (by decide +kernel) (by decide +kernel)
set_option maxRecDepth 20000 in
theorem gX12_uneven_X12_partsAll : GoodIn wsX12_uneven (wsV RX12 219 RX12 yX12_partsAll wsX12_partsAll) := goodIn_app (goodIn_of _ (by decide +kernel)) ggX12_uneven_X12_partsAll
theorem dX12_uneven_0 : decode cX12_uneven 0 = .ok (.aload_n 0, 1) := by decide +kernel
theorem dX12_uneven_1 : decode cX12_uneven 1 = .ok (.iload_n 1, 1) := by decide +kernel
theorem dX12_uneven_2 : decode cX12_uneven 2 = .ok (.invokevirtual 216, 3) := by decide +kernel
theorem dX12_uneven_5 : decode cX12_uneven 5 = .ok (.istore_n 2, 1) := by decide +kernel
theorem dX12_uneven_6 : decode cX12_uneven 6 = .ok (.iload_n 2, 1) := by decide +kernel
theorem dX12_uneven_7 : decode cX12_uneven 7 = .ok (.ifCond .eq 5, 3) := by decide +kernel
theorem dX12_uneven_10 : decode cX12_uneven 10 = .ok (.iload_n 2, 1) := by decide +kernel
theorem dX12_uneven_11 : decode cX12_uneven 11 = .ok (.ireturn, 1) := by decide +kernel
theorem dX12_uneven_12 : decode cX12_uneven 12 = .ok (.aload_n 0, 1) := by decide +kernel
theorem dX12_uneven_13 : decode cX12_uneven 13 = .ok (.iload_n 1, 1) := by decide +kernel
theorem dX12_uneven_14 : decode cX12_uneven 14 = .ok (.bipush (-4), 2) := by decide +kernel
theorem dX12_uneven_16 : decode cX12_uneven 16 = .ok (.invokevirtual 219, 3) := by decide +kernel
theorem dX12_uneven_19 : decode cX12_uneven 19 = .ok (.aload_n 0, 1) := by decide +kernel
theorem dX12_uneven_20 : decode cX12_uneven 20 = .ok (.getfield 189, 3) := by decide +kernel
theorem dX12_uneven_23 : decode cX12_uneven 23 = .ok (.ireturn, 1) := by decide +kernel
set_option maxRecDepth 20000 in
theorem ggX12_richest_X12_isHouse : GoodIn wsX12_richest wsX12_isHouse := goodIn_r _ [6, 7, 8, 9, 5, 10, 100, 101, 102, 103, 104, 105, 106, 107, 108, 109, 110, 111, 112, 113, 114, 115, 116, 117, 118, 119, 120, 121, 122, 123] (by decide +kernel) (by decide +kernel)
set_option maxRecDepth 20000 in
theorem gX12_richest_X12_isHouse : GoodIn wsX12_richest (wsV RX12 56 RX12 yX12_isHouse wsX12_isHouse) := goodIn_app (goodIn_of _ (by decide +kernel)) ggX12_richest_X12_isHouse
set_option maxRecDepth 20000 in
theorem ggX12_richest_X12_wrongParting : GoodIn wsX12_richest wsX12_wrongParting := goodIn_r _ [14, 15, 7, 8, 9, 5, 10, 100, 101, 102, 103, 104, 105, 106, 107, 108, 109, 110, 111, 112, 113, 114, 115, 116, 117, 118, 119, 120, 121, 122, 123] (by decide +kernel) (by decide +kernel)
set_option maxRecDepth 20000 in
theorem gX12_richest_X12_wrongParting : GoodIn wsX12_richest (wsV RX12 216 RX12 yX12_wrongParting wsX12_wrongParting) := goodIn_app (goodIn_of _ (by decide +kernel)) ggX12_richest_X12_wrongParting
set_option maxRecDepth 20000 in
theorem ggX12_richest_X12_partsAll : GoodIn wsX12_richest wsX12_partsAll := goodIn_r _ [19, 20, 21, 1, 22, 23, 7, 24, 25, 26, 27, 5, 28, 29, 30, 31, 32, 33, 34, 35, 36, 37, 38, 39, 40, 41, 42, 43, 44, 45, 46, 47, 48, 49, 50, 51, 52, 53, 54, 55, 56, 57, 58, 59, 60, 61, 62, 63, 64, 65, 66, 67, 68, 2, 3, 4, 6, 8, 9, 10, 69, 70, 71, 72, 73, 74, 75, 76, 77, 78, 79, 80, 81, 82, 83, 84, 85, 86, 87, 88, 89, 90, 91, 92, 93, 94, 95, 96, 97, 98, 99, 100, 101, 102, 103, 104, 105, 106, 107, 108, 109, 110, 111, 112, 113, 114, 115, 116, 117, 118, 119, 120, 121, 122, 123] (by decide +kernel) (by decide +kernel)
set_option maxRecDepth 20000 in
theorem gX12_richest_X12_partsAll : GoodIn wsX12_richest (wsV RX12 219 RX12 yX12_partsAll wsX12_partsAll) := goodIn_app (goodIn_of _ (by decide +kernel)) ggX12_richest_X12_partsAll
theorem dX12_richest_0 : decode cX12_richest 0 = .ok (.aload_n 0, 1) := by decide +kernel
theorem dX12_richest_1 : decode cX12_richest 1 = .ok (.iload_n 2, 1) := by decide +kernel
theorem dX12_richest_2 : decode cX12_richest 2 = .ok (.invokevirtual 56, 3) := by decide +kernel
theorem dX12_richest_5 : decode cX12_richest 5 = .ok (.ifCond .ne 7, 3) := by decide +kernel
theorem dX12_richest_8 : decode cX12_richest 8 = .ok (.iconst (-1), 1) := by decide +kernel
theorem dX12_richest_9 : decode cX12_richest 9 = .ok (.goto 8, 3) := by decide +kernel
theorem dX12_richest_12 : decode cX12_richest 12 = .ok (.aload_n 0, 1) := by decide +kernel
theorem dX12_richest_13 : decode cX12_richest 13 = .ok (.iload_n 1, 1) := by decide +kernel
theorem dX12_richest_14 : decode cX12_richest 14 = .ok (.invokevirtual 216, 3) := by decide +kernel
theorem dX12_richest_17 : decode cX12_richest 17 = .ok (.istore_n 3, 1) := by decide +kernel
theorem dX12_richest_18 : decode cX12_richest 18 = .ok (.iload_n 3, 1) := by decide +kernel
theorem dX12_richest_19 : decode cX12_richest 19 = .ok (.ifCond .eq 5, 3) := by decide +kernel
theorem dX12_richest_22 : decode cX12_richest 22 = .ok (.iload_n 3, 1) := by decide +kernel
theorem dX12_richest_23 : decode cX12_richest 23 = .ok (.ireturn, 1) := by decide +kernel
theorem dX12_richest_24 : decode cX12_richest 24 = .ok (.aload_n 0, 1) := by decide +kernel
theorem dX12_richest_25 : decode cX12_richest 25 = .ok (.iload_n 1, 1) := by decide +kernel
theorem dX12_richest_26 : decode cX12_richest 26 = .ok (.iload_n 2, 1) := by decide +kernel
theorem dX12_richest_27 : decode cX12_richest 27 = .ok (.invokevirtual 219, 3) := by decide +kernel
theorem dX12_richest_30 : decode cX12_richest 30 = .ok (.aload_n 0, 1) := by decide +kernel
theorem dX12_richest_31 : decode cX12_richest 31 = .ok (.getfield 192, 3) := by decide +kernel
theorem dX12_richest_34 : decode cX12_richest 34 = .ok (.ireturn, 1) := by decide +kernel
set_option maxRecDepth 20000 in
theorem ggX12_tooMany_X12_coins : GoodIn wsX12_tooMany wsX12_coins := goodIn_r _ [6, 1, 7, 8, 9, 5, 10, 11, 12, 13, 14, 15, 16, 17, 18, 19, 20, 21, 22, 23, 24, 25, 26, 27, 28, 29, 30, 31, 32, 33, 34, 35, 36, 37, 38] (by decide +kernel) (by decide +kernel)
set_option maxRecDepth 20000 in
theorem gX12_tooMany_X12_coins : GoodIn wsX12_tooMany (wsV RX12 180 RX12 yX12_coins wsX12_coins) := goodIn_app (goodIn_of _ (by decide +kernel)) ggX12_tooMany_X12_coins
theorem dX12_tooMany_0 : decode cX12_tooMany 0 = .ok (.aload_n 0, 1) := by decide +kernel
theorem dX12_tooMany_1 : decode cX12_tooMany 1 = .ok (.getfield 9, 3) := by decide +kernel
theorem dX12_tooMany_4 : decode cX12_tooMany 4 = .ok (.iconst 0, 1) := by decide +kernel
theorem dX12_tooMany_5 : decode cX12_tooMany 5 = .ok (.iaload, 1) := by decide +kernel
theorem dX12_tooMany_6 : decode cX12_tooMany 6 = .ok (.bipush 6, 2) := by decide +kernel
theorem dX12_tooMany_8 : decode cX12_tooMany 8 = .ok (.if_icmp .gt 12, 3) := by decide +kernel
theorem dX12_tooMany_11 : decode cX12_tooMany 11 = .ok (.aload_n 0, 1) := by decide +kernel
theorem dX12_tooMany_12 : decode cX12_tooMany 12 = .ok (.invokevirtual 180, 3) := by decide +kernel
theorem dX12_tooMany_15 : decode cX12_tooMany 15 = .ok (.bipush 20, 2) := by decide +kernel
theorem dX12_tooMany_17 : decode cX12_tooMany 17 = .ok (.if_icmp .le 7, 3) := by decide +kernel
theorem dX12_tooMany_20 : decode cX12_tooMany 20 = .ok (.iconst 1, 1) := by decide +kernel
theorem dX12_tooMany_21 : decode cX12_tooMany 21 = .ok (.goto 4, 3) := by decide +kernel
theorem dX12_tooMany_24 : decode cX12_tooMany 24 = .ok (.iconst 0, 1) := by decide +kernel
theorem dX12_tooMany_25 : decode cX12_tooMany 25 = .ok (.ireturn, 1) := by decide +kernel
set_option maxRecDepth 20000 in
theorem ggX12_hands_X12_tooMany : GoodIn wsX12_hands wsX12_tooMany := goodIn_r _ [6, 7, 8, 9, 10, 5, 11, 12, 13, 14, 15, 16, 17, 18, 19, 103, 104, 105, 106, 107, 108, 109, 110, 111, 112, 113, 114, 115, 116, 117, 118, 119, 120, 121, 122, 123, 124, 125, 126] (by decide +kernel) (by decide +kernel)
set_option maxRecDepth 20000 in
theorem gX12_hands_X12_tooMany : GoodIn wsX12_hands (wsV RX12 222 RX12 yX12_tooMany wsX12_tooMany) := goodIn_app (goodIn_of _ (by decide +kernel)) ggX12_hands_X12_tooMany
set_option maxRecDepth 20000 in
theorem ggX12_hands_X12_coins : GoodIn wsX12_hands wsX12_coins := goodIn_r _ [11, 7, 12, 13, 14, 5, 15, 16, 17, 18, 19, 103, 104, 105, 106, 107, 108, 109, 110, 111, 112, 113, 114, 115, 116, 117, 118, 119, 120, 121, 122, 123, 124, 125, 126] (by decide +kernel) (by decide +kernel)
set_option maxRecDepth 20000 in
theorem gX12_hands_X12_coins : GoodIn wsX12_hands (wsV RX12 180 RX12 yX12_coins wsX12_coins) := goodIn_app (goodIn_of _ (by decide +kernel)) ggX12_hands_X12_coins
set_option maxRecDepth 20000 in
theorem ggX12_hands_X12_partsAll : GoodIn wsX12_hands wsX12_partsAll := goodIn_r _ [23, 24, 25, 26, 1, 27, 7, 28, 12, 13, 14, 5, 15, 16, 17, 18, 19, 29, 30, 31, 32, 33, 34, 35, 36, 37, 38, 39, 40, 41, 42, 43, 44, 45, 46, 47, 48, 49, 50, 51, 52, 53, 54, 55, 56, 57, 58, 59, 60, 61, 62, 63, 64, 65, 66, 67, 68, 69, 70, 71, 72, 73, 74, 75, 76, 77, 78, 79, 80, 81, 82, 83, 84, 85, 86, 87, 88, 89, 90, 91, 92, 93, 94, 95, 96, 97, 98, 99, 100, 101, 102, 103, 104, 105, 106, 107, 108, 109, 110, 111, 112, 113, 114, 115, 116, 117, 118, 119, 120, 121, 122, 123, 124, 125, 126] (by decide +kernel) (by decide +kernel)
set_option maxRecDepth 20000 in
theorem gX12_hands_X12_partsAll : GoodIn wsX12_hands (wsV RX12 219 RX12 yX12_partsAll wsX12_partsAll) := goodIn_app (goodIn_of _ (by decide +kernel)) ggX12_hands_X12_partsAll
theorem dX12_hands_0 : decode cX12_hands 0 = .ok (.aload_n 0, 1) := by decide +kernel
theorem dX12_hands_1 : decode cX12_hands 1 = .ok (.invokevirtual 222, 3) := by decide +kernel
theorem dX12_hands_4 : decode cX12_hands 4 = .ok (.ifCond .eq 6, 3) := by decide +kernel
theorem dX12_hands_7 : decode cX12_hands 7 = .ok (.bipush (-3), 2) := by decide +kernel
theorem dX12_hands_9 : decode cX12_hands 9 = .ok (.ireturn, 1) := by decide +kernel
theorem dX12_hands_10 : decode cX12_hands 10 = .ok (.aload_n 0, 1) := by decide +kernel
theorem dX12_hands_11 : decode cX12_hands 11 = .ok (.aload_n 0, 1) := by decide +kernel
theorem dX12_hands_12 : decode cX12_hands 12 = .ok (.invokevirtual 180, 3) := by decide +kernel
theorem dX12_hands_15 : decode cX12_hands 15 = .ok (.bipush (-4), 2) := by decide +kernel
theorem dX12_hands_17 : decode cX12_hands 17 = .ok (.invokevirtual 219, 3) := by decide +kernel
theorem dX12_hands_20 : decode cX12_hands 20 = .ok (.aload_n 0, 1) := by decide +kernel
theorem dX12_hands_21 : decode cX12_hands 21 = .ok (.getfield 195, 3) := by decide +kernel
theorem dX12_hands_24 : decode cX12_hands 24 = .ok (.ireturn, 1) := by decide +kernel
set_option maxRecDepth 20000 in
theorem ggX12_any_X12_tooMany : GoodIn wsX12_any wsX12_tooMany := goodIn_r _ [6, 7, 8, 9, 10, 5, 11, 12, 13, 14, 15, 16, 17, 18, 19, 103, 104, 105, 106, 107, 108, 109, 110, 111, 112, 113, 114, 115, 116, 117, 118, 119, 120, 121, 122, 123, 124, 125, 126] (by decide +kernel) (by decide +kernel)
set_option maxRecDepth 20000 in
theorem gX12_any_X12_tooMany : GoodIn wsX12_any (wsV RX12 222 RX12 yX12_tooMany wsX12_tooMany) := goodIn_app (goodIn_of _ (by decide +kernel)) ggX12_any_X12_tooMany
set_option maxRecDepth 20000 in
theorem ggX12_any_X12_coins : GoodIn wsX12_any wsX12_coins := goodIn_r _ [11, 7, 12, 13, 14, 5, 15, 16, 17, 18, 19, 103, 104, 105, 106, 107, 108, 109, 110, 111, 112, 113, 114, 115, 116, 117, 118, 119, 120, 121, 122, 123, 124, 125, 126] (by decide +kernel) (by decide +kernel)
set_option maxRecDepth 20000 in
theorem gX12_any_X12_coins : GoodIn wsX12_any (wsV RX12 180 RX12 yX12_coins wsX12_coins) := goodIn_app (goodIn_of _ (by decide +kernel)) ggX12_any_X12_coins
set_option maxRecDepth 20000 in
theorem ggX12_any_X12_partsAll : GoodIn wsX12_any wsX12_partsAll := goodIn_r _ [23, 24, 25, 26, 27, 1, 7, 28, 12, 13, 14, 5, 15, 16, 17, 18, 19, 29, 30, 31, 32, 33, 34, 35, 36, 37, 38, 39, 40, 41, 42, 43, 44, 45, 46, 47, 48, 49, 50, 51, 52, 53, 54, 55, 56, 57, 58, 59, 60, 61, 62, 63, 64, 65, 66, 67, 68, 69, 70, 71, 72, 73, 74, 75, 76, 77, 78, 79, 80, 81, 82, 83, 84, 85, 86, 87, 88, 89, 90, 91, 92, 93, 94, 95, 96, 97, 98, 99, 100, 101, 102, 103, 104, 105, 106, 107, 108, 109, 110, 111, 112, 113, 114, 115, 116, 117, 118, 119, 120, 121, 122, 123, 124, 125, 126] (by decide +kernel) (by decide +kernel)
set_option maxRecDepth 20000 in
theorem gX12_any_X12_partsAll : GoodIn wsX12_any (wsV RX12 219 RX12 yX12_partsAll wsX12_partsAll) := goodIn_app (goodIn_of _ (by decide +kernel)) ggX12_any_X12_partsAll
theorem dX12_any_0 : decode cX12_any 0 = .ok (.aload_n 0, 1) := by decide +kernel
theorem dX12_any_1 : decode cX12_any 1 = .ok (.invokevirtual 222, 3) := by decide +kernel
theorem dX12_any_4 : decode cX12_any 4 = .ok (.ifCond .eq 6, 3) := by decide +kernel
theorem dX12_any_7 : decode cX12_any 7 = .ok (.bipush (-3), 2) := by decide +kernel
theorem dX12_any_9 : decode cX12_any 9 = .ok (.ireturn, 1) := by decide +kernel
theorem dX12_any_10 : decode cX12_any 10 = .ok (.aload_n 0, 1) := by decide +kernel
theorem dX12_any_11 : decode cX12_any 11 = .ok (.aload_n 0, 1) := by decide +kernel
theorem dX12_any_12 : decode cX12_any 12 = .ok (.invokevirtual 180, 3) := by decide +kernel
theorem dX12_any_15 : decode cX12_any 15 = .ok (.bipush (-4), 2) := by decide +kernel
theorem dX12_any_17 : decode cX12_any 17 = .ok (.invokevirtual 219, 3) := by decide +kernel
theorem dX12_any_20 : decode cX12_any 20 = .ok (.aload_n 0, 1) := by decide +kernel
theorem dX12_any_21 : decode cX12_any 21 = .ok (.getfield 198, 3) := by decide +kernel
theorem dX12_any_24 : decode cX12_any 24 = .ok (.ireturn, 1) := by decide +kernel
set_option maxRecDepth 20000 in
theorem ggX12_change_X12_isIn : GoodIn wsX12_change wsX12_isIn := goodIn_r _ [5] (by decide +kernel) (by decide +kernel)
set_option maxRecDepth 20000 in
theorem gX12_change_X12_isIn : GoodIn wsX12_change (va_wsS RX12 52 yX12_isIn wsX12_isIn) := goodIn_app (goodIn_of _ (by decide +kernel)) ggX12_change_X12_isIn
set_option maxRecDepth 20000 in
theorem ggX12_change_X12_breachesAll : GoodIn wsX12_change wsX12_breachesAll := goodIn_r _ [9, 1, 10, 11, 12, 4, 13, 14, 15, 16, 17, 18, 19, 20, 21, 22, 23, 24, 25, 26, 27, 28, 29, 30, 31, 32, 33, 2, 3, 5, 34, 35, 36, 37, 38, 39, 40, 41, 42, 43, 44, 45, 46, 47, 48, 49, 50, 51, 52, 53, 54, 55, 56, 65, 66, 67, 68, 69, 70, 71, 72, 73, 74, 75, 76, 77, 78, 79, 80, 81, 82, 83, 84, 85, 86, 87, 88] (by decide +kernel) (by decide +kernel)
set_option maxRecDepth 20000 in
theorem gX12_change_X12_breachesAll : GoodIn wsX12_change (wsV RX12 99 RX12 yX12_breachesAll wsX12_breachesAll) := goodIn_app (goodIn_of _ (by decide +kernel)) ggX12_change_X12_breachesAll
set_option maxRecDepth 20000 in
theorem ggX12_change_X12_changes : GoodIn wsX12_change wsX12_changes := goodIn_r _ [60, 18, 19, 20, 4, 21, 1, 61, 62, 63, 64, 65, 66, 67, 68, 69, 70, 71, 72, 73, 74, 75, 76, 77, 78, 79, 80, 81, 82, 83, 84, 85, 86, 87, 88] (by decide +kernel) (by decide +kernel)
set_option maxRecDepth 20000 in
theorem gX12_change_X12_changes : GoodIn wsX12_change (wsV RX12 150 RX12 yX12_changes wsX12_changes) := goodIn_app (goodIn_of _ (by decide +kernel)) ggX12_change_X12_changes
theorem dX12_change_0 : decode cX12_change 0 = .ok (.iload_n 1, 1) := by decide +kernel
theorem dX12_change_1 : decode cX12_change 1 = .ok (.i2l, 1) := by decide +kernel
theorem dX12_change_2 : decode cX12_change 2 = .ok (.lconst 0, 1) := by decide +kernel
theorem dX12_change_3 : decode cX12_change 3 = .ok (.lconst 1, 1) := by decide +kernel
theorem dX12_change_4 : decode cX12_change 4 = .ok (.invokestatic 52, 3) := by decide +kernel
theorem dX12_change_7 : decode cX12_change 7 = .ok (.ifCond .ne 5, 3) := by decide +kernel
theorem dX12_change_10 : decode cX12_change 10 = .ok (.iconst (-1), 1) := by decide +kernel
theorem dX12_change_11 : decode cX12_change 11 = .ok (.ireturn, 1) := by decide +kernel
theorem dX12_change_12 : decode cX12_change 12 = .ok (.aload_n 0, 1) := by decide +kernel
theorem dX12_change_13 : decode cX12_change 13 = .ok (.invokevirtual 99, 3) := by decide +kernel
theorem dX12_change_16 : decode cX12_change 16 = .ok (.istore_n 2, 1) := by decide +kernel
theorem dX12_change_17 : decode cX12_change 17 = .ok (.bipush (-4), 2) := by decide +kernel
theorem dX12_change_19 : decode cX12_change 19 = .ok (.istore_n 3, 1) := by decide +kernel
theorem dX12_change_20 : decode cX12_change 20 = .ok (.iconst 0, 1) := by decide +kernel
theorem dX12_change_21 : decode cX12_change 21 = .ok (.istore 4, 2) := by decide +kernel
theorem dX12_change_23 : decode cX12_change 23 = .ok (.iload 4, 2) := by decide +kernel
theorem dX12_change_25 : decode cX12_change 25 = .ok (.aload_n 0, 1) := by decide +kernel
theorem dX12_change_26 : decode cX12_change 26 = .ok (.getfield 9, 3) := by decide +kernel
theorem dX12_change_29 : decode cX12_change 29 = .ok (.iconst 0, 1) := by decide +kernel
theorem dX12_change_30 : decode cX12_change 30 = .ok (.iaload, 1) := by decide +kernel
theorem dX12_change_31 : decode cX12_change 31 = .ok (.if_icmp .ge 75, 3) := by decide +kernel
theorem dX12_change_34 : decode cX12_change 34 = .ok (.iload 4, 2) := by decide +kernel
theorem dX12_change_36 : decode cX12_change 36 = .ok (.iconst 1, 1) := by decide +kernel
theorem dX12_change_37 : decode cX12_change 37 = .ok (.iadd, 1) := by decide +kernel
theorem dX12_change_38 : decode cX12_change 38 = .ok (.istore 5, 2) := by decide +kernel
theorem dX12_change_40 : decode cX12_change 40 = .ok (.iload 5, 2) := by decide +kernel
theorem dX12_change_42 : decode cX12_change 42 = .ok (.aload_n 0, 1) := by decide +kernel
theorem dX12_change_43 : decode cX12_change 43 = .ok (.getfield 9, 3) := by decide +kernel
theorem dX12_change_46 : decode cX12_change 46 = .ok (.iconst 0, 1) := by decide +kernel
theorem dX12_change_47 : decode cX12_change 47 = .ok (.iaload, 1) := by decide +kernel
theorem dX12_change_48 : decode cX12_change 48 = .ok (.if_icmp .ge 52, 3) := by decide +kernel
theorem dX12_change_51 : decode cX12_change 51 = .ok (.aload_n 0, 1) := by decide +kernel
theorem dX12_change_52 : decode cX12_change 52 = .ok (.iload 4, 2) := by decide +kernel
theorem dX12_change_54 : decode cX12_change 54 = .ok (.iload 5, 2) := by decide +kernel
theorem dX12_change_56 : decode cX12_change 56 = .ok (.invokevirtual 150, 3) := by decide +kernel
theorem dX12_change_59 : decode cX12_change 59 = .ok (.aload_n 0, 1) := by decide +kernel
theorem dX12_change_60 : decode cX12_change 60 = .ok (.invokevirtual 99, 3) := by decide +kernel
theorem dX12_change_63 : decode cX12_change 63 = .ok (.istore 6, 2) := by decide +kernel
theorem dX12_change_65 : decode cX12_change 65 = .ok (.aload_n 0, 1) := by decide +kernel
theorem dX12_change_66 : decode cX12_change 66 = .ok (.iload 4, 2) := by decide +kernel
theorem dX12_change_68 : decode cX12_change 68 = .ok (.iload 5, 2) := by decide +kernel
theorem dX12_change_70 : decode cX12_change 70 = .ok (.invokevirtual 150, 3) := by decide +kernel
theorem dX12_change_73 : decode cX12_change 73 = .ok (.iload 6, 2) := by decide +kernel
theorem dX12_change_75 : decode cX12_change 75 = .ok (.iload_n 2, 1) := by decide +kernel
theorem dX12_change_76 : decode cX12_change 76 = .ok (.if_icmp .lt 6, 3) := by decide +kernel
theorem dX12_change_79 : decode cX12_change 79 = .ok (.goto 15, 3) := by decide +kernel
theorem dX12_change_82 : decode cX12_change 82 = .ok (.iload 6, 2) := by decide +kernel
theorem dX12_change_84 : decode cX12_change 84 = .ok (.istore_n 2, 1) := by decide +kernel
theorem dX12_change_85 : decode cX12_change 85 = .ok (.bipush 10, 2) := by decide +kernel
theorem dX12_change_87 : decode cX12_change 87 = .ok (.iload 4, 2) := by decide +kernel
theorem dX12_change_89 : decode cX12_change 89 = .ok (.imul, 1) := by decide +kernel
theorem dX12_change_90 : decode cX12_change 90 = .ok (.iload 5, 2) := by decide +kernel
theorem dX12_change_92 : decode cX12_change 92 = .ok (.iadd, 1) := by decide +kernel
theorem dX12_change_93 : decode cX12_change 93 = .ok (.istore_n 3, 1) := by decide +kernel
theorem dX12_change_94 : decode cX12_change 94 = .ok (.iinc 5 1, 3) := by decide +kernel
theorem dX12_change_97 : decode cX12_change 97 = .ok (.goto (-57), 3) := by decide +kernel
theorem dX12_change_100 : decode cX12_change 100 = .ok (.iinc 4 1, 3) := by decide +kernel
theorem dX12_change_103 : decode cX12_change 103 = .ok (.goto (-80), 3) := by decide +kernel
theorem dX12_change_106 : decode cX12_change 106 = .ok (.iload_n 1, 1) := by decide +kernel
theorem dX12_change_107 : decode cX12_change 107 = .ok (.ifCond .ne 7, 3) := by decide +kernel
theorem dX12_change_110 : decode cX12_change 110 = .ok (.iload_n 3, 1) := by decide +kernel
theorem dX12_change_111 : decode cX12_change 111 = .ok (.goto 13, 3) := by decide +kernel
theorem dX12_change_114 : decode cX12_change 114 = .ok (.iload_n 3, 1) := by decide +kernel
theorem dX12_change_115 : decode cX12_change 115 = .ok (.ifCond .ge 8, 3) := by decide +kernel
theorem dX12_change_118 : decode cX12_change 118 = .ok (.bipush (-4), 2) := by decide +kernel
theorem dX12_change_120 : decode cX12_change 120 = .ok (.goto 4, 3) := by decide +kernel
theorem dX12_change_123 : decode cX12_change 123 = .ok (.iload_n 2, 1) := by decide +kernel
theorem dX12_change_124 : decode cX12_change 124 = .ok (.ireturn, 1) := by decide +kernel
set_option maxRecDepth 20000 in
theorem ggX12_wedding_X12_isHouse : GoodIn wsX12_wedding wsX12_isHouse := goodIn_r _ [6, 1, 7, 8, 5, 9, 73, 74, 75, 76, 77, 78, 79, 80, 81, 82, 83, 84, 85, 86, 87, 88, 89, 90, 91, 92, 93, 94, 95, 96] (by decide +kernel) (by decide +kernel)
set_option maxRecDepth 20000 in
theorem gX12_wedding_X12_isHouse : GoodIn wsX12_wedding (wsV RX12 56 RX12 yX12_isHouse wsX12_isHouse) := goodIn_app (goodIn_of _ (by decide +kernel)) ggX12_wedding_X12_isHouse
set_option maxRecDepth 20000 in
theorem ggX12_wedding_X12_begins : GoodIn wsX12_wedding wsX12_begins := goodIn_r _ [13, 1, 14, 15, 16, 5, 17, 73, 74, 75, 76, 77, 78, 79, 80, 81, 82, 83, 84, 85, 86, 87, 88, 89, 90, 91, 92, 93, 94, 95, 96] (by decide +kernel) (by decide +kernel)
set_option maxRecDepth 20000 in
theorem gX12_wedding_X12_begins : GoodIn wsX12_wedding (wsV RX12 208 RX12 yX12_begins wsX12_begins) := goodIn_app (goodIn_of _ (by decide +kernel)) ggX12_wedding_X12_begins
set_option maxRecDepth 20000 in
theorem ggX12_wedding_X12_purse : GoodIn wsX12_wedding wsX12_purse := goodIn_r _ [21, 22, 23, 24, 5, 25, 1, 73, 74, 75, 76, 77, 78, 79, 80, 81, 82, 83, 84, 85, 86, 87, 88, 89, 90, 91, 92, 93, 94, 95, 96] (by decide +kernel) (by decide +kernel)
set_option maxRecDepth 20000 in
theorem gX12_wedding_X12_purse : GoodIn wsX12_wedding (wsV RX12 68 RX12 yX12_purse wsX12_purse) := goodIn_app (goodIn_of _ (by decide +kernel)) ggX12_wedding_X12_purse
set_option maxRecDepth 20000 in
theorem ggX12_wedding_X12_puts : GoodIn wsX12_wedding wsX12_puts := goodIn_r _ [29, 1, 73, 74, 75, 76, 77, 78, 79, 80, 81, 82, 83, 84, 85, 86, 87, 88, 89, 90, 91, 92, 93, 94, 95, 96] (by decide +kernel) (by decide +kernel)
set_option maxRecDepth 20000 in
theorem gX12_wedding_X12_puts : GoodIn wsX12_wedding (wsV RX12 125 RX12 yX12_puts wsX12_puts) := goodIn_app (goodIn_of _ (by decide +kernel)) ggX12_wedding_X12_puts
set_option maxRecDepth 20000 in
theorem ggX12_wedding_X12_breachesAll : GoodIn wsX12_wedding wsX12_breachesAll := goodIn_r _ [33, 1, 34, 35, 36, 5, 37, 18, 19, 20, 21, 22, 23, 24, 25, 38, 39, 40, 41, 42, 43, 44, 45, 2, 3, 4, 6, 7, 8, 9, 46, 47, 48, 49, 50, 51, 52, 53, 54, 55, 56, 57, 58, 59, 60, 61, 62, 63, 64, 65, 66, 67, 68, 73, 74, 75, 76, 77, 78, 79, 80, 81, 82, 83, 84, 85, 86, 87, 88, 89, 90, 91, 92, 93, 94, 95, 96] (by decide +kernel) (by decide +kernel)
set_option maxRecDepth 20000 in
theorem gX12_wedding_X12_breachesAll : GoodIn wsX12_wedding (wsV RX12 99 RX12 yX12_breachesAll wsX12_breachesAll) := goodIn_app (goodIn_of _ (by decide +kernel)) ggX12_wedding_X12_breachesAll
set_option maxRecDepth 20000 in
theorem ggX12_wedding_X12_ends : GoodIn wsX12_wedding wsX12_ends := goodIn_r _ [72, 14, 1, 15, 16, 5, 17, 73, 74, 75, 76, 77, 78, 79, 80, 81, 82, 83, 84, 85, 86, 87, 88, 89, 90, 91, 92, 93, 94, 95, 96] (by decide +kernel) (by decide +kernel)
set_option maxRecDepth 20000 in
theorem gX12_wedding_X12_ends : GoodIn wsX12_wedding (wsV RX12 211 RX12 yX12_ends wsX12_ends) := goodIn_app (goodIn_of _ (by decide +kernel)) ggX12_wedding_X12_ends
theorem dX12_wedding_0 : decode cX12_wedding 0 = .ok (.aload_n 0, 1) := by decide +kernel
theorem dX12_wedding_1 : decode cX12_wedding 1 = .ok (.iload_n 1, 1) := by decide +kernel
theorem dX12_wedding_2 : decode cX12_wedding 2 = .ok (.invokevirtual 56, 3) := by decide +kernel
theorem dX12_wedding_5 : decode cX12_wedding 5 = .ok (.ifCond .eq 13, 3) := by decide +kernel
theorem dX12_wedding_8 : decode cX12_wedding 8 = .ok (.aload_n 0, 1) := by decide +kernel
theorem dX12_wedding_9 : decode cX12_wedding 9 = .ok (.iload_n 1, 1) := by decide +kernel
theorem dX12_wedding_10 : decode cX12_wedding 10 = .ok (.iconst 1, 1) := by decide +kernel
theorem dX12_wedding_11 : decode cX12_wedding 11 = .ok (.iadd, 1) := by decide +kernel
theorem dX12_wedding_12 : decode cX12_wedding 12 = .ok (.invokevirtual 56, 3) := by decide +kernel
theorem dX12_wedding_15 : decode cX12_wedding 15 = .ok (.ifCond .ne 5, 3) := by decide +kernel
theorem dX12_wedding_18 : decode cX12_wedding 18 = .ok (.iconst (-1), 1) := by decide +kernel
theorem dX12_wedding_19 : decode cX12_wedding 19 = .ok (.ireturn, 1) := by decide +kernel
theorem dX12_wedding_20 : decode cX12_wedding 20 = .ok (.aload_n 0, 1) := by decide +kernel
theorem dX12_wedding_21 : decode cX12_wedding 21 = .ok (.invokevirtual 208, 3) := by decide +kernel
theorem dX12_wedding_24 : decode cX12_wedding 24 = .ok (.aload_n 0, 1) := by decide +kernel
theorem dX12_wedding_25 : decode cX12_wedding 25 = .ok (.iload_n 1, 1) := by decide +kernel
theorem dX12_wedding_26 : decode cX12_wedding 26 = .ok (.invokevirtual 68, 3) := by decide +kernel
theorem dX12_wedding_29 : decode cX12_wedding 29 = .ok (.aload_n 0, 1) := by decide +kernel
theorem dX12_wedding_30 : decode cX12_wedding 30 = .ok (.iload_n 1, 1) := by decide +kernel
theorem dX12_wedding_31 : decode cX12_wedding 31 = .ok (.iconst 1, 1) := by decide +kernel
theorem dX12_wedding_32 : decode cX12_wedding 32 = .ok (.iadd, 1) := by decide +kernel
theorem dX12_wedding_33 : decode cX12_wedding 33 = .ok (.invokevirtual 68, 3) := by decide +kernel
theorem dX12_wedding_36 : decode cX12_wedding 36 = .ok (.iadd, 1) := by decide +kernel
theorem dX12_wedding_37 : decode cX12_wedding 37 = .ok (.istore_n 2, 1) := by decide +kernel
theorem dX12_wedding_38 : decode cX12_wedding 38 = .ok (.aload_n 0, 1) := by decide +kernel
theorem dX12_wedding_39 : decode cX12_wedding 39 = .ok (.iload_n 1, 1) := by decide +kernel
theorem dX12_wedding_40 : decode cX12_wedding 40 = .ok (.iconst 2, 1) := by decide +kernel
theorem dX12_wedding_41 : decode cX12_wedding 41 = .ok (.iload_n 2, 1) := by decide +kernel
theorem dX12_wedding_42 : decode cX12_wedding 42 = .ok (.sipush 9999, 3) := by decide +kernel
theorem dX12_wedding_45 : decode cX12_wedding 45 = .ok (.if_icmp .le 9, 3) := by decide +kernel
theorem dX12_wedding_48 : decode cX12_wedding 48 = .ok (.sipush 9999, 3) := by decide +kernel
theorem dX12_wedding_51 : decode cX12_wedding 51 = .ok (.goto 4, 3) := by decide +kernel
theorem dX12_wedding_54 : decode cX12_wedding 54 = .ok (.iload_n 2, 1) := by decide +kernel
theorem dX12_wedding_55 : decode cX12_wedding 55 = .ok (.invokevirtual 125, 3) := by decide +kernel
theorem dX12_wedding_58 : decode cX12_wedding 58 = .ok (.iconst 2, 1) := by decide +kernel
theorem dX12_wedding_59 : decode cX12_wedding 59 = .ok (.iconst 3, 1) := by decide +kernel
theorem dX12_wedding_60 : decode cX12_wedding 60 = .ok (.iload_n 1, 1) := by decide +kernel
theorem dX12_wedding_61 : decode cX12_wedding 61 = .ok (.iconst 1, 1) := by decide +kernel
theorem dX12_wedding_62 : decode cX12_wedding 62 = .ok (.iadd, 1) := by decide +kernel
theorem dX12_wedding_63 : decode cX12_wedding 63 = .ok (.imul, 1) := by decide +kernel
theorem dX12_wedding_64 : decode cX12_wedding 64 = .ok (.iadd, 1) := by decide +kernel
theorem dX12_wedding_65 : decode cX12_wedding 65 = .ok (.istore_n 3, 1) := by decide +kernel
theorem dX12_wedding_66 : decode cX12_wedding 66 = .ok (.iload_n 3, 1) := by decide +kernel
theorem dX12_wedding_67 : decode cX12_wedding 67 = .ok (.iconst 2, 1) := by decide +kernel
theorem dX12_wedding_68 : decode cX12_wedding 68 = .ok (.iconst 3, 1) := by decide +kernel
theorem dX12_wedding_69 : decode cX12_wedding 69 = .ok (.aload_n 0, 1) := by decide +kernel
theorem dX12_wedding_70 : decode cX12_wedding 70 = .ok (.getfield 9, 3) := by decide +kernel
theorem dX12_wedding_73 : decode cX12_wedding 73 = .ok (.iconst 0, 1) := by decide +kernel
theorem dX12_wedding_74 : decode cX12_wedding 74 = .ok (.iaload, 1) := by decide +kernel
theorem dX12_wedding_75 : decode cX12_wedding 75 = .ok (.iconst 1, 1) := by decide +kernel
theorem dX12_wedding_76 : decode cX12_wedding 76 = .ok (.isub, 1) := by decide +kernel
theorem dX12_wedding_77 : decode cX12_wedding 77 = .ok (.imul, 1) := by decide +kernel
theorem dX12_wedding_78 : decode cX12_wedding 78 = .ok (.iadd, 1) := by decide +kernel
theorem dX12_wedding_79 : decode cX12_wedding 79 = .ok (.if_icmp .ge 23, 3) := by decide +kernel
theorem dX12_wedding_82 : decode cX12_wedding 82 = .ok (.aload_n 0, 1) := by decide +kernel
theorem dX12_wedding_83 : decode cX12_wedding 83 = .ok (.getfield 9, 3) := by decide +kernel
theorem dX12_wedding_86 : decode cX12_wedding 86 = .ok (.iload_n 3, 1) := by decide +kernel
theorem dX12_wedding_87 : decode cX12_wedding 87 = .ok (.aload_n 0, 1) := by decide +kernel
theorem dX12_wedding_88 : decode cX12_wedding 88 = .ok (.getfield 9, 3) := by decide +kernel
theorem dX12_wedding_91 : decode cX12_wedding 91 = .ok (.iload_n 3, 1) := by decide +kernel
theorem dX12_wedding_92 : decode cX12_wedding 92 = .ok (.iconst 3, 1) := by decide +kernel
theorem dX12_wedding_93 : decode cX12_wedding 93 = .ok (.iadd, 1) := by decide +kernel
theorem dX12_wedding_94 : decode cX12_wedding 94 = .ok (.iaload, 1) := by decide +kernel
theorem dX12_wedding_95 : decode cX12_wedding 95 = .ok (.iastore, 1) := by decide +kernel
theorem dX12_wedding_96 : decode cX12_wedding 96 = .ok (.iinc 3 1, 3) := by decide +kernel
theorem dX12_wedding_99 : decode cX12_wedding 99 = .ok (.goto (-33), 3) := by decide +kernel
theorem dX12_wedding_102 : decode cX12_wedding 102 = .ok (.aload_n 0, 1) := by decide +kernel
theorem dX12_wedding_103 : decode cX12_wedding 103 = .ok (.getfield 9, 3) := by decide +kernel
theorem dX12_wedding_106 : decode cX12_wedding 106 = .ok (.iconst 0, 1) := by decide +kernel
theorem dX12_wedding_107 : decode cX12_wedding 107 = .ok (.dup2, 1) := by decide +kernel
theorem dX12_wedding_108 : decode cX12_wedding 108 = .ok (.iaload, 1) := by decide +kernel
theorem dX12_wedding_109 : decode cX12_wedding 109 = .ok (.iconst 1, 1) := by decide +kernel
theorem dX12_wedding_110 : decode cX12_wedding 110 = .ok (.isub, 1) := by decide +kernel
theorem dX12_wedding_111 : decode cX12_wedding 111 = .ok (.iastore, 1) := by decide +kernel
theorem dX12_wedding_112 : decode cX12_wedding 112 = .ok (.aload_n 0, 1) := by decide +kernel
theorem dX12_wedding_113 : decode cX12_wedding 113 = .ok (.invokevirtual 99, 3) := by decide +kernel
theorem dX12_wedding_116 : decode cX12_wedding 116 = .ok (.istore_n 3, 1) := by decide +kernel
theorem dX12_wedding_117 : decode cX12_wedding 117 = .ok (.aload_n 0, 1) := by decide +kernel
theorem dX12_wedding_118 : decode cX12_wedding 118 = .ok (.invokevirtual 211, 3) := by decide +kernel
theorem dX12_wedding_121 : decode cX12_wedding 121 = .ok (.iload_n 3, 1) := by decide +kernel
theorem dX12_wedding_122 : decode cX12_wedding 122 = .ok (.ireturn, 1) := by decide +kernel
set_option maxRecDepth 20000 in
theorem ggX12_worth_X12_isHouse : GoodIn wsX12_worth wsX12_isHouse := goodIn_r _ [8, 3, 9, 10, 7, 11, 64, 65, 66, 67, 68, 69, 70, 71, 72, 73, 74, 75, 76, 77, 78, 79, 80, 81, 82, 83, 84, 85, 86, 87] (by decide +kernel) (by decide +kernel)
set_option maxRecDepth 20000 in
theorem gX12_worth_X12_isHouse : GoodIn wsX12_worth (wsV RX12 56 RX12 yX12_isHouse wsX12_isHouse) := goodIn_app (goodIn_of _ (by decide +kernel)) ggX12_worth_X12_isHouse
set_option maxRecDepth 20000 in
theorem ggX12_worth_X12_isIn : GoodIn wsX12_worth wsX12_isIn := goodIn_r _ [11] (by decide +kernel) (by decide +kernel)
set_option maxRecDepth 20000 in
theorem gX12_worth_X12_isIn : GoodIn wsX12_worth (va_wsS RX12 52 yX12_isIn wsX12_isIn) := goodIn_app (goodIn_of _ (by decide +kernel)) ggX12_worth_X12_isIn
set_option maxRecDepth 20000 in
theorem ggX12_worth_X12_mostOf : GoodIn wsX12_worth wsX12_mostOf := goodIn_r _ [15, 16, 17, 18, 7, 19, 3, 4, 5, 6, 8, 9, 10, 11, 20, 21, 22, 23, 24, 25, 26, 27, 28, 29, 30, 31, 32, 33, 34, 35, 36, 37, 38, 39, 40, 41, 42, 43, 44, 45, 46, 47, 64, 65, 66, 67, 68, 69, 70, 71, 72, 73, 74, 75, 76, 77, 78, 79, 80, 81, 82, 83, 84, 85, 86, 87] (by decide +kernel) (by decide +kernel)
set_option maxRecDepth 20000 in
theorem gX12_worth_X12_mostOf : GoodIn wsX12_worth (wsV RX12 167 RX12 yX12_mostOf wsX12_mostOf) := goodIn_app (goodIn_of _ (by decide +kernel)) ggX12_worth_X12_mostOf
set_option maxRecDepth 20000 in
theorem ggX12_worth_X12_begins : GoodIn wsX12_worth wsX12_begins := goodIn_r _ [51, 3, 52, 53, 54, 7, 55, 64, 65, 66, 67, 68, 69, 70, 71, 72, 73, 74, 75, 76, 77, 78, 79, 80, 81, 82, 83, 84, 85, 86, 87] (by decide +kernel) (by decide +kernel)
set_option maxRecDepth 20000 in
theorem gX12_worth_X12_begins : GoodIn wsX12_worth (wsV RX12 208 RX12 yX12_begins wsX12_begins) := goodIn_app (goodIn_of _ (by decide +kernel)) ggX12_worth_X12_begins
set_option maxRecDepth 20000 in
theorem ggX12_worth_X12_puts : GoodIn wsX12_worth wsX12_puts := goodIn_r _ [59, 3, 64, 65, 66, 67, 68, 69, 70, 71, 72, 73, 74, 75, 76, 77, 78, 79, 80, 81, 82, 83, 84, 85, 86, 87] (by decide +kernel) (by decide +kernel)
set_option maxRecDepth 20000 in
theorem gX12_worth_X12_puts : GoodIn wsX12_worth (wsV RX12 125 RX12 yX12_puts wsX12_puts) := goodIn_app (goodIn_of _ (by decide +kernel)) ggX12_worth_X12_puts
set_option maxRecDepth 20000 in
theorem ggX12_worth_X12_ends : GoodIn wsX12_worth wsX12_ends := goodIn_r _ [63, 52, 3, 53, 54, 7, 55, 64, 65, 66, 67, 68, 69, 70, 71, 72, 73, 74, 75, 76, 77, 78, 79, 80, 81, 82, 83, 84, 85, 86, 87] (by decide +kernel) (by decide +kernel)
set_option maxRecDepth 20000 in
theorem gX12_worth_X12_ends : GoodIn wsX12_worth (wsV RX12 211 RX12 yX12_ends wsX12_ends) := goodIn_app (goodIn_of _ (by decide +kernel)) ggX12_worth_X12_ends
theorem dX12_worth_0 : decode cX12_worth 0 = .ok (.aload_n 0, 1) := by decide +kernel
theorem dX12_worth_1 : decode cX12_worth 1 = .ok (.iload_n 1, 1) := by decide +kernel
theorem dX12_worth_2 : decode cX12_worth 2 = .ok (.invokevirtual 56, 3) := by decide +kernel
theorem dX12_worth_5 : decode cX12_worth 5 = .ok (.ifCond .eq 15, 3) := by decide +kernel
theorem dX12_worth_8 : decode cX12_worth 8 = .ok (.iload_n 2, 1) := by decide +kernel
theorem dX12_worth_9 : decode cX12_worth 9 = .ok (.i2l, 1) := by decide +kernel
theorem dX12_worth_10 : decode cX12_worth 10 = .ok (.lconst 0, 1) := by decide +kernel
theorem dX12_worth_11 : decode cX12_worth 11 = .ok (.ldc2_w 173, 3) := by decide +kernel
theorem dX12_worth_14 : decode cX12_worth 14 = .ok (.invokestatic 52, 3) := by decide +kernel
theorem dX12_worth_17 : decode cX12_worth 17 = .ok (.ifCond .ne 6, 3) := by decide +kernel
theorem dX12_worth_20 : decode cX12_worth 20 = .ok (.ldc 225, 2) := by decide +kernel
theorem dX12_worth_22 : decode cX12_worth 22 = .ok (.ireturn, 1) := by decide +kernel
theorem dX12_worth_23 : decode cX12_worth 23 = .ok (.aload_n 0, 1) := by decide +kernel
theorem dX12_worth_24 : decode cX12_worth 24 = .ok (.iload_n 1, 1) := by decide +kernel
theorem dX12_worth_25 : decode cX12_worth 25 = .ok (.invokevirtual 167, 3) := by decide +kernel
theorem dX12_worth_28 : decode cX12_worth 28 = .ok (.istore_n 3, 1) := by decide +kernel
theorem dX12_worth_29 : decode cX12_worth 29 = .ok (.aload_n 0, 1) := by decide +kernel
theorem dX12_worth_30 : decode cX12_worth 30 = .ok (.invokevirtual 208, 3) := by decide +kernel
theorem dX12_worth_33 : decode cX12_worth 33 = .ok (.iconst 2, 1) := by decide +kernel
theorem dX12_worth_34 : decode cX12_worth 34 = .ok (.iconst 3, 1) := by decide +kernel
theorem dX12_worth_35 : decode cX12_worth 35 = .ok (.aload_n 0, 1) := by decide +kernel
theorem dX12_worth_36 : decode cX12_worth 36 = .ok (.getfield 9, 3) := by decide +kernel
theorem dX12_worth_39 : decode cX12_worth 39 = .ok (.iconst 0, 1) := by decide +kernel
theorem dX12_worth_40 : decode cX12_worth 40 = .ok (.iaload, 1) := by decide +kernel
theorem dX12_worth_41 : decode cX12_worth 41 = .ok (.imul, 1) := by decide +kernel
theorem dX12_worth_42 : decode cX12_worth 42 = .ok (.iadd, 1) := by decide +kernel
theorem dX12_worth_43 : decode cX12_worth 43 = .ok (.iconst 1, 1) := by decide +kernel
theorem dX12_worth_44 : decode cX12_worth 44 = .ok (.isub, 1) := by decide +kernel
theorem dX12_worth_45 : decode cX12_worth 45 = .ok (.istore 4, 2) := by decide +kernel
theorem dX12_worth_47 : decode cX12_worth 47 = .ok (.iload 4, 2) := by decide +kernel
theorem dX12_worth_49 : decode cX12_worth 49 = .ok (.iconst 2, 1) := by decide +kernel
theorem dX12_worth_50 : decode cX12_worth 50 = .ok (.iconst 3, 1) := by decide +kernel
theorem dX12_worth_51 : decode cX12_worth 51 = .ok (.iload_n 1, 1) := by decide +kernel
theorem dX12_worth_52 : decode cX12_worth 52 = .ok (.iconst 1, 1) := by decide +kernel
theorem dX12_worth_53 : decode cX12_worth 53 = .ok (.iadd, 1) := by decide +kernel
theorem dX12_worth_54 : decode cX12_worth 54 = .ok (.imul, 1) := by decide +kernel
theorem dX12_worth_55 : decode cX12_worth 55 = .ok (.iadd, 1) := by decide +kernel
theorem dX12_worth_56 : decode cX12_worth 56 = .ok (.if_icmp .lt 25, 3) := by decide +kernel
theorem dX12_worth_59 : decode cX12_worth 59 = .ok (.aload_n 0, 1) := by decide +kernel
theorem dX12_worth_60 : decode cX12_worth 60 = .ok (.getfield 9, 3) := by decide +kernel
theorem dX12_worth_63 : decode cX12_worth 63 = .ok (.iload 4, 2) := by decide +kernel
theorem dX12_worth_65 : decode cX12_worth 65 = .ok (.iconst 3, 1) := by decide +kernel
theorem dX12_worth_66 : decode cX12_worth 66 = .ok (.iadd, 1) := by decide +kernel
theorem dX12_worth_67 : decode cX12_worth 67 = .ok (.aload_n 0, 1) := by decide +kernel
theorem dX12_worth_68 : decode cX12_worth 68 = .ok (.getfield 9, 3) := by decide +kernel
theorem dX12_worth_71 : decode cX12_worth 71 = .ok (.iload 4, 2) := by decide +kernel
theorem dX12_worth_73 : decode cX12_worth 73 = .ok (.iaload, 1) := by decide +kernel
theorem dX12_worth_74 : decode cX12_worth 74 = .ok (.iastore, 1) := by decide +kernel
theorem dX12_worth_75 : decode cX12_worth 75 = .ok (.iinc 4 (-1), 3) := by decide +kernel
theorem dX12_worth_78 : decode cX12_worth 78 = .ok (.goto (-31), 3) := by decide +kernel
theorem dX12_worth_81 : decode cX12_worth 81 = .ok (.aload_n 0, 1) := by decide +kernel
theorem dX12_worth_82 : decode cX12_worth 82 = .ok (.iload_n 1, 1) := by decide +kernel
theorem dX12_worth_83 : decode cX12_worth 83 = .ok (.iconst 1, 1) := by decide +kernel
theorem dX12_worth_84 : decode cX12_worth 84 = .ok (.iadd, 1) := by decide +kernel
theorem dX12_worth_85 : decode cX12_worth 85 = .ok (.iconst 0, 1) := by decide +kernel
theorem dX12_worth_86 : decode cX12_worth 86 = .ok (.iconst 0, 1) := by decide +kernel
theorem dX12_worth_87 : decode cX12_worth 87 = .ok (.invokevirtual 125, 3) := by decide +kernel
theorem dX12_worth_90 : decode cX12_worth 90 = .ok (.aload_n 0, 1) := by decide +kernel
theorem dX12_worth_91 : decode cX12_worth 91 = .ok (.iload_n 1, 1) := by decide +kernel
theorem dX12_worth_92 : decode cX12_worth 92 = .ok (.iconst 1, 1) := by decide +kernel
theorem dX12_worth_93 : decode cX12_worth 93 = .ok (.iadd, 1) := by decide +kernel
theorem dX12_worth_94 : decode cX12_worth 94 = .ok (.iconst 1, 1) := by decide +kernel
theorem dX12_worth_95 : decode cX12_worth 95 = .ok (.iconst 0, 1) := by decide +kernel
theorem dX12_worth_96 : decode cX12_worth 96 = .ok (.invokevirtual 125, 3) := by decide +kernel
theorem dX12_worth_99 : decode cX12_worth 99 = .ok (.aload_n 0, 1) := by decide +kernel
theorem dX12_worth_100 : decode cX12_worth 100 = .ok (.iload_n 1, 1) := by decide +kernel
theorem dX12_worth_101 : decode cX12_worth 101 = .ok (.iconst 1, 1) := by decide +kernel
theorem dX12_worth_102 : decode cX12_worth 102 = .ok (.iadd, 1) := by decide +kernel
theorem dX12_worth_103 : decode cX12_worth 103 = .ok (.iconst 2, 1) := by decide +kernel
theorem dX12_worth_104 : decode cX12_worth 104 = .ok (.iload_n 2, 1) := by decide +kernel
theorem dX12_worth_105 : decode cX12_worth 105 = .ok (.invokevirtual 125, 3) := by decide +kernel
theorem dX12_worth_108 : decode cX12_worth 108 = .ok (.aload_n 0, 1) := by decide +kernel
theorem dX12_worth_109 : decode cX12_worth 109 = .ok (.getfield 9, 3) := by decide +kernel
theorem dX12_worth_112 : decode cX12_worth 112 = .ok (.iconst 0, 1) := by decide +kernel
theorem dX12_worth_113 : decode cX12_worth 113 = .ok (.dup2, 1) := by decide +kernel
theorem dX12_worth_114 : decode cX12_worth 114 = .ok (.iaload, 1) := by decide +kernel
theorem dX12_worth_115 : decode cX12_worth 115 = .ok (.iconst 1, 1) := by decide +kernel
theorem dX12_worth_116 : decode cX12_worth 116 = .ok (.iadd, 1) := by decide +kernel
theorem dX12_worth_117 : decode cX12_worth 117 = .ok (.iastore, 1) := by decide +kernel
theorem dX12_worth_118 : decode cX12_worth 118 = .ok (.aload_n 0, 1) := by decide +kernel
theorem dX12_worth_119 : decode cX12_worth 119 = .ok (.iload_n 1, 1) := by decide +kernel
theorem dX12_worth_120 : decode cX12_worth 120 = .ok (.invokevirtual 167, 3) := by decide +kernel
theorem dX12_worth_123 : decode cX12_worth 123 = .ok (.istore 4, 2) := by decide +kernel
theorem dX12_worth_125 : decode cX12_worth 125 = .ok (.aload_n 0, 1) := by decide +kernel
theorem dX12_worth_126 : decode cX12_worth 126 = .ok (.invokevirtual 211, 3) := by decide +kernel
theorem dX12_worth_129 : decode cX12_worth 129 = .ok (.iload 4, 2) := by decide +kernel
theorem dX12_worth_131 : decode cX12_worth 131 = .ok (.iload_n 3, 1) := by decide +kernel
theorem dX12_worth_132 : decode cX12_worth 132 = .ok (.isub, 1) := by decide +kernel
theorem dX12_worth_133 : decode cX12_worth 133 = .ok (.ireturn, 1) := by decide +kernel
set_option maxRecDepth 20000 in
theorem ggX12_fitting_X12_isHouse : GoodIn wsX12_fitting wsX12_isHouse := goodIn_r _ [6, 7, 8, 9, 5, 10, 78, 79, 80, 81, 82, 83, 84, 85, 86, 87, 88, 89, 90, 91, 92, 93, 94, 95, 96, 97, 98, 99, 100, 101] (by decide +kernel) (by decide +kernel)
set_option maxRecDepth 20000 in
theorem gX12_fitting_X12_isHouse : GoodIn wsX12_fitting (wsV RX12 56 RX12 yX12_isHouse wsX12_isHouse) := goodIn_app (goodIn_of _ (by decide +kernel)) ggX12_fitting_X12_isHouse
set_option maxRecDepth 20000 in
theorem ggX12_fitting_X12_isIn : GoodIn wsX12_fitting wsX12_isIn := goodIn_r _ [10] (by decide +kernel) (by decide +kernel)
set_option maxRecDepth 20000 in
theorem gX12_fitting_X12_isIn : GoodIn wsX12_fitting (va_wsS RX12 52 yX12_isIn wsX12_isIn) := goodIn_app (goodIn_of _ (by decide +kernel)) ggX12_fitting_X12_isIn
set_option maxRecDepth 20000 in
theorem ggX12_fitting_X12_begins : GoodIn wsX12_fitting wsX12_begins := goodIn_r _ [14, 7, 15, 16, 17, 5, 18, 78, 79, 80, 81, 82, 83, 84, 85, 86, 87, 88, 89, 90, 91, 92, 93, 94, 95, 96, 97, 98, 99, 100, 101] (by decide +kernel) (by decide +kernel)
set_option maxRecDepth 20000 in
theorem gX12_fitting_X12_begins : GoodIn wsX12_fitting (wsV RX12 208 RX12 yX12_begins wsX12_begins) := goodIn_app (goodIn_of _ (by decide +kernel)) ggX12_fitting_X12_begins
set_option maxRecDepth 20000 in
theorem ggX12_fitting_X12_puts : GoodIn wsX12_fitting wsX12_puts := goodIn_r _ [22, 7, 78, 79, 80, 81, 82, 83, 84, 85, 86, 87, 88, 89, 90, 91, 92, 93, 94, 95, 96, 97, 98, 99, 100, 101] (by decide +kernel) (by decide +kernel)
set_option maxRecDepth 20000 in
theorem gX12_fitting_X12_puts : GoodIn wsX12_fitting (wsV RX12 125 RX12 yX12_puts wsX12_puts) := goodIn_app (goodIn_of _ (by decide +kernel)) ggX12_fitting_X12_puts
set_option maxRecDepth 20000 in
theorem ggX12_fitting_X12_isLawful : GoodIn wsX12_fitting wsX12_isLawful := goodIn_r _ [26, 27, 28, 29, 5, 30, 7, 31, 32, 33, 34, 35, 36, 37, 38, 39, 40, 41, 42, 43, 44, 45, 46, 47, 48, 49, 50, 2, 3, 4, 6, 8, 9, 10, 51, 52, 53, 54, 55, 56, 57, 58, 59, 60, 61, 62, 63, 64, 65, 66, 67, 68, 69, 70, 71, 72, 73, 78, 79, 80, 81, 82, 83, 84, 85, 86, 87, 88, 89, 90, 91, 92, 93, 94, 95, 96, 97, 98, 99, 100, 101] (by decide +kernel) (by decide +kernel)
set_option maxRecDepth 20000 in
theorem gX12_fitting_X12_isLawful : GoodIn wsX12_fitting (wsV RX12 183 RX12 yX12_isLawful wsX12_isLawful) := goodIn_app (goodIn_of _ (by decide +kernel)) ggX12_fitting_X12_isLawful
set_option maxRecDepth 20000 in
theorem ggX12_fitting_X12_ends : GoodIn wsX12_fitting wsX12_ends := goodIn_r _ [77, 15, 7, 16, 17, 5, 18, 78, 79, 80, 81, 82, 83, 84, 85, 86, 87, 88, 89, 90, 91, 92, 93, 94, 95, 96, 97, 98, 99, 100, 101] (by decide +kernel) (by decide +kernel)
set_option maxRecDepth 20000 in
theorem gX12_fitting_X12_ends : GoodIn wsX12_fitting (wsV RX12 211 RX12 yX12_ends wsX12_ends) := goodIn_app (goodIn_of _ (by decide +kernel)) ggX12_fitting_X12_ends
theorem dX12_fitting_0 : decode cX12_fitting 0 = .ok (.aload_n 0, 1) := by decide +kernel
theorem dX12_fitting_1 : decode cX12_fitting 1 = .ok (.iload_n 1, 1) := by decide +kernel
theorem dX12_fitting_2 : decode cX12_fitting 2 = .ok (.invokevirtual 56, 3) := by decide +kernel
theorem dX12_fitting_5 : decode cX12_fitting 5 = .ok (.ifCond .eq 15, 3) := by decide +kernel
theorem dX12_fitting_8 : decode cX12_fitting 8 = .ok (.iload_n 2, 1) := by decide +kernel
theorem dX12_fitting_9 : decode cX12_fitting 9 = .ok (.i2l, 1) := by decide +kernel
theorem dX12_fitting_10 : decode cX12_fitting 10 = .ok (.lconst 0, 1) := by decide +kernel
theorem dX12_fitting_11 : decode cX12_fitting 11 = .ok (.ldc2_w 226, 3) := by decide +kernel
theorem dX12_fitting_14 : decode cX12_fitting 14 = .ok (.invokestatic 52, 3) := by decide +kernel
theorem dX12_fitting_17 : decode cX12_fitting 17 = .ok (.ifCond .ne 5, 3) := by decide +kernel
theorem dX12_fitting_20 : decode cX12_fitting 20 = .ok (.iconst (-1), 1) := by decide +kernel
theorem dX12_fitting_21 : decode cX12_fitting 21 = .ok (.ireturn, 1) := by decide +kernel
theorem dX12_fitting_22 : decode cX12_fitting 22 = .ok (.iconst 0, 1) := by decide +kernel
theorem dX12_fitting_23 : decode cX12_fitting 23 = .ok (.istore_n 3, 1) := by decide +kernel
theorem dX12_fitting_24 : decode cX12_fitting 24 = .ok (.bipush (-4), 2) := by decide +kernel
theorem dX12_fitting_26 : decode cX12_fitting 26 = .ok (.istore 4, 2) := by decide +kernel
theorem dX12_fitting_28 : decode cX12_fitting 28 = .ok (.bipush (-4), 2) := by decide +kernel
theorem dX12_fitting_30 : decode cX12_fitting 30 = .ok (.istore 5, 2) := by decide +kernel
theorem dX12_fitting_32 : decode cX12_fitting 32 = .ok (.aload_n 0, 1) := by decide +kernel
theorem dX12_fitting_33 : decode cX12_fitting 33 = .ok (.invokevirtual 208, 3) := by decide +kernel
theorem dX12_fitting_36 : decode cX12_fitting 36 = .ok (.iconst 0, 1) := by decide +kernel
theorem dX12_fitting_37 : decode cX12_fitting 37 = .ok (.istore 6, 2) := by decide +kernel
theorem dX12_fitting_39 : decode cX12_fitting 39 = .ok (.iload 6, 2) := by decide +kernel
theorem dX12_fitting_41 : decode cX12_fitting 41 = .ok (.bipush 99, 2) := by decide +kernel
theorem dX12_fitting_43 : decode cX12_fitting 43 = .ok (.if_icmp .gt 48, 3) := by decide +kernel
theorem dX12_fitting_46 : decode cX12_fitting 46 = .ok (.aload_n 0, 1) := by decide +kernel
theorem dX12_fitting_47 : decode cX12_fitting 47 = .ok (.iload_n 1, 1) := by decide +kernel
theorem dX12_fitting_48 : decode cX12_fitting 48 = .ok (.iconst 2, 1) := by decide +kernel
theorem dX12_fitting_49 : decode cX12_fitting 49 = .ok (.iload 6, 2) := by decide +kernel
theorem dX12_fitting_51 : decode cX12_fitting 51 = .ok (.invokevirtual 125, 3) := by decide +kernel
theorem dX12_fitting_54 : decode cX12_fitting 54 = .ok (.aload_n 0, 1) := by decide +kernel
theorem dX12_fitting_55 : decode cX12_fitting 55 = .ok (.invokevirtual 183, 3) := by decide +kernel
theorem dX12_fitting_58 : decode cX12_fitting 58 = .ok (.ifCond .ne 6, 3) := by decide +kernel
theorem dX12_fitting_61 : decode cX12_fitting 61 = .ok (.goto 24, 3) := by decide +kernel
theorem dX12_fitting_64 : decode cX12_fitting 64 = .ok (.iinc 3 1, 3) := by decide +kernel
theorem dX12_fitting_67 : decode cX12_fitting 67 = .ok (.iload 4, 2) := by decide +kernel
theorem dX12_fitting_69 : decode cX12_fitting 69 = .ok (.ifCond .ge 8, 3) := by decide +kernel
theorem dX12_fitting_72 : decode cX12_fitting 72 = .ok (.iload 6, 2) := by decide +kernel
theorem dX12_fitting_74 : decode cX12_fitting 74 = .ok (.goto 5, 3) := by decide +kernel
theorem dX12_fitting_77 : decode cX12_fitting 77 = .ok (.iload 4, 2) := by decide +kernel
theorem dX12_fitting_79 : decode cX12_fitting 79 = .ok (.istore 4, 2) := by decide +kernel
theorem dX12_fitting_81 : decode cX12_fitting 81 = .ok (.iload 6, 2) := by decide +kernel
theorem dX12_fitting_83 : decode cX12_fitting 83 = .ok (.istore 5, 2) := by decide +kernel
theorem dX12_fitting_85 : decode cX12_fitting 85 = .ok (.iinc 6 1, 3) := by decide +kernel
theorem dX12_fitting_88 : decode cX12_fitting 88 = .ok (.goto (-49), 3) := by decide +kernel
theorem dX12_fitting_91 : decode cX12_fitting 91 = .ok (.aload_n 0, 1) := by decide +kernel
theorem dX12_fitting_92 : decode cX12_fitting 92 = .ok (.invokevirtual 211, 3) := by decide +kernel
theorem dX12_fitting_95 : decode cX12_fitting 95 = .ok (.iload_n 2, 1) := by decide +kernel
theorem dX12_fitting_96 : decode cX12_fitting 96 = .ok (.ifCond .ne 7, 3) := by decide +kernel
theorem dX12_fitting_99 : decode cX12_fitting 99 = .ok (.iload_n 3, 1) := by decide +kernel
theorem dX12_fitting_100 : decode cX12_fitting 100 = .ok (.goto 15, 3) := by decide +kernel
theorem dX12_fitting_103 : decode cX12_fitting 103 = .ok (.iload_n 2, 1) := by decide +kernel
theorem dX12_fitting_104 : decode cX12_fitting 104 = .ok (.iconst 1, 1) := by decide +kernel
theorem dX12_fitting_105 : decode cX12_fitting 105 = .ok (.if_icmp .ne 8, 3) := by decide +kernel
theorem dX12_fitting_108 : decode cX12_fitting 108 = .ok (.iload 4, 2) := by decide +kernel
theorem dX12_fitting_110 : decode cX12_fitting 110 = .ok (.goto 5, 3) := by decide +kernel
theorem dX12_fitting_113 : decode cX12_fitting 113 = .ok (.iload 5, 2) := by decide +kernel
theorem dX12_fitting_115 : decode cX12_fitting 115 = .ok (.ireturn, 1) := by decide +kernel
theorem dX12_toldAt_0 : decode cX12_toldAt 0 = .ok (.aload_n 0, 1) := by decide +kernel
theorem dX12_toldAt_1 : decode cX12_toldAt 1 = .ok (.getfield 31, 3) := by decide +kernel
theorem dX12_toldAt_4 : decode cX12_toldAt 4 = .ok (.bipush 100, 2) := by decide +kernel
theorem dX12_toldAt_6 : decode cX12_toldAt 6 = .ok (.iload_n 1, 1) := by decide +kernel
theorem dX12_toldAt_7 : decode cX12_toldAt 7 = .ok (.imul, 1) := by decide +kernel
theorem dX12_toldAt_8 : decode cX12_toldAt 8 = .ok (.iload_n 2, 1) := by decide +kernel
theorem dX12_toldAt_9 : decode cX12_toldAt 9 = .ok (.iadd, 1) := by decide +kernel
theorem dX12_toldAt_10 : decode cX12_toldAt 10 = .ok (.iaload, 1) := by decide +kernel
theorem dX12_toldAt_11 : decode cX12_toldAt 11 = .ok (.ireturn, 1) := by decide +kernel
set_option maxRecDepth 20000 in
theorem ggX12_given_X12_isShelf : GoodIn wsX12_given wsX12_isShelf := goodIn_r _ [6, 7, 8, 9, 5, 10] (by decide +kernel) (by decide +kernel)
set_option maxRecDepth 20000 in
theorem gX12_given_X12_isShelf : GoodIn wsX12_given (va_wsS RX12 154 yX12_isShelf wsX12_isShelf) := goodIn_app (goodIn_of _ (by decide +kernel)) ggX12_given_X12_isShelf
set_option maxRecDepth 20000 in
theorem ggX12_given_X12_isIn : GoodIn wsX12_given wsX12_isIn := goodIn_r _ [10] (by decide +kernel) (by decide +kernel)
set_option maxRecDepth 20000 in
theorem gX12_given_X12_isIn : GoodIn wsX12_given (va_wsS RX12 52 yX12_isIn wsX12_isIn) := goodIn_app (goodIn_of _ (by decide +kernel)) ggX12_given_X12_isIn
set_option maxRecDepth 20000 in
theorem ggX12_given_X12_wrongRow : GoodIn wsX12_given wsX12_wrongRow := goodIn_r _ [14, 15, 16, 3, 4, 5, 6, 7, 8, 9, 10, 106, 107, 108, 109, 110, 111, 112, 113, 114, 115, 116, 117, 118, 119, 120, 121, 122, 123, 124, 125, 126, 127, 128, 129] (by decide +kernel) (by decide +kernel)
set_option maxRecDepth 20000 in
theorem gX12_given_X12_wrongRow : GoodIn wsX12_given (wsV RX12 157 RX12 yX12_wrongRow wsX12_wrongRow) := goodIn_app (goodIn_of _ (by decide +kernel)) ggX12_given_X12_wrongRow
set_option maxRecDepth 20000 in
theorem ggX12_given_X12_toldAt : GoodIn wsX12_given wsX12_toldAt := goodIn_r _ [20, 21, 106, 107, 108, 109, 110, 111, 112, 113, 114, 115, 116, 117, 118, 119, 120, 121, 122, 123, 124, 125, 126, 127, 128, 129] (by decide +kernel) (by decide +kernel)
set_option maxRecDepth 20000 in
theorem gX12_given_X12_toldAt : GoodIn wsX12_given (wsV RX12 228 RX12 yX12_toldAt wsX12_toldAt) := goodIn_app (goodIn_of _ (by decide +kernel)) ggX12_given_X12_toldAt
set_option maxRecDepth 20000 in
theorem ggX12_given_X12_areTwo : GoodIn wsX12_given wsX12_areTwo := goodIn_r _ [25, 26, 27, 28, 5, 29, 30, 8, 9, 10, 106, 107, 108, 109, 110, 111, 112, 113, 114, 115, 116, 117, 118, 119, 120, 121, 122, 123, 124, 125, 126, 127, 128, 129] (by decide +kernel) (by decide +kernel)
set_option maxRecDepth 20000 in
theorem gX12_given_X12_areTwo : GoodIn wsX12_given (wsV RX12 132 RX12 yX12_areTwo wsX12_areTwo) := goodIn_app (goodIn_of _ (by decide +kernel)) ggX12_given_X12_areTwo
set_option maxRecDepth 20000 in
theorem ggX12_given_X12_begins : GoodIn wsX12_given wsX12_begins := goodIn_r _ [34, 30, 35, 36, 37, 5, 38, 106, 107, 108, 109, 110, 111, 112, 113, 114, 115, 116, 117, 118, 119, 120, 121, 122, 123, 124, 125, 126, 127, 128, 129] (by decide +kernel) (by decide +kernel)
set_option maxRecDepth 20000 in
theorem gX12_given_X12_begins : GoodIn wsX12_given (wsV RX12 208 RX12 yX12_begins wsX12_begins) := goodIn_app (goodIn_of _ (by decide +kernel)) ggX12_given_X12_begins
set_option maxRecDepth 20000 in
theorem ggX12_given_X12_givesIf : GoodIn wsX12_given wsX12_givesIf := goodIn_r _ [42, 43, 44, 45, 5, 46, 22, 23, 24, 25, 26, 27, 28, 29, 30, 8, 9, 10, 47, 48, 49, 50, 51, 52, 53, 54, 55, 56, 57, 58, 59, 60, 61, 62, 106, 107, 108, 109, 110, 111, 112, 113, 114, 115, 116, 117, 118, 119, 120, 121, 122, 123, 124, 125, 126, 127, 128, 129] (by decide +kernel) (by decide +kernel)
set_option maxRecDepth 20000 in
theorem gX12_given_X12_givesIf : GoodIn wsX12_given (wsV RX12 147 RX12 yX12_givesIf wsX12_givesIf) := goodIn_app (goodIn_of _ (by decide +kernel)) ggX12_given_X12_givesIf
set_option maxRecDepth 20000 in
theorem ggX12_given_X12_breachesAll : GoodIn wsX12_given wsX12_breachesAll := goodIn_r _ [66, 30, 67, 68, 69, 5, 70, 47, 48, 49, 50, 51, 52, 53, 54, 71, 72, 73, 74, 75, 76, 77, 78, 26, 27, 28, 29, 8, 9, 10, 79, 80, 81, 82, 83, 84, 85, 86, 87, 88, 89, 90, 91, 92, 93, 94, 95, 96, 97, 98, 99, 100, 101, 106, 107, 108, 109, 110, 111, 112, 113, 114, 115, 116, 117, 118, 119, 120, 121, 122, 123, 124, 125, 126, 127, 128, 129] (by decide +kernel) (by decide +kernel)
set_option maxRecDepth 20000 in
theorem gX12_given_X12_breachesAll : GoodIn wsX12_given (wsV RX12 99 RX12 yX12_breachesAll wsX12_breachesAll) := goodIn_app (goodIn_of _ (by decide +kernel)) ggX12_given_X12_breachesAll
set_option maxRecDepth 20000 in
theorem ggX12_given_X12_ends : GoodIn wsX12_given wsX12_ends := goodIn_r _ [105, 35, 30, 36, 37, 5, 38, 106, 107, 108, 109, 110, 111, 112, 113, 114, 115, 116, 117, 118, 119, 120, 121, 122, 123, 124, 125, 126, 127, 128, 129] (by decide +kernel) (by decide +kernel)
set_option maxRecDepth 20000 in
theorem gX12_given_X12_ends : GoodIn wsX12_given (wsV RX12 211 RX12 yX12_ends wsX12_ends) := goodIn_app (goodIn_of _ (by decide +kernel)) ggX12_given_X12_ends
theorem dX12_given_0 : decode cX12_given 0 = .ok (.iload_n 1, 1) := by decide +kernel
theorem dX12_given_1 : decode cX12_given 1 = .ok (.invokestatic 154, 3) := by decide +kernel
theorem dX12_given_4 : decode cX12_given 4 = .ok (.ifCond .eq 13, 3) := by decide +kernel
theorem dX12_given_7 : decode cX12_given 7 = .ok (.iload_n 2, 1) := by decide +kernel
theorem dX12_given_8 : decode cX12_given 8 = .ok (.i2l, 1) := by decide +kernel
theorem dX12_given_9 : decode cX12_given 9 = .ok (.lconst 0, 1) := by decide +kernel
theorem dX12_given_10 : decode cX12_given 10 = .ok (.lconst 1, 1) := by decide +kernel
theorem dX12_given_11 : decode cX12_given 11 = .ok (.invokestatic 52, 3) := by decide +kernel
theorem dX12_given_14 : decode cX12_given 14 = .ok (.ifCond .ne 7, 3) := by decide +kernel
theorem dX12_given_17 : decode cX12_given 17 = .ok (.iconst (-1), 1) := by decide +kernel
theorem dX12_given_18 : decode cX12_given 18 = .ok (.goto 9, 3) := by decide +kernel
theorem dX12_given_21 : decode cX12_given 21 = .ok (.aload_n 0, 1) := by decide +kernel
theorem dX12_given_22 : decode cX12_given 22 = .ok (.iload_n 1, 1) := by decide +kernel
theorem dX12_given_23 : decode cX12_given 23 = .ok (.iconst 1, 1) := by decide +kernel
theorem dX12_given_24 : decode cX12_given 24 = .ok (.invokevirtual 157, 3) := by decide +kernel
theorem dX12_given_27 : decode cX12_given 27 = .ok (.istore_n 3, 1) := by decide +kernel
theorem dX12_given_28 : decode cX12_given 28 = .ok (.iload_n 3, 1) := by decide +kernel
theorem dX12_given_29 : decode cX12_given 29 = .ok (.ifCond .ne 28, 3) := by decide +kernel
theorem dX12_given_32 : decode cX12_given 32 = .ok (.aload_n 0, 1) := by decide +kernel
theorem dX12_given_33 : decode cX12_given 33 = .ok (.getfield 28, 3) := by decide +kernel
theorem dX12_given_36 : decode cX12_given 36 = .ok (.iload_n 1, 1) := by decide +kernel
theorem dX12_given_37 : decode cX12_given 37 = .ok (.iaload, 1) := by decide +kernel
theorem dX12_given_38 : decode cX12_given 38 = .ok (.iconst 3, 1) := by decide +kernel
theorem dX12_given_39 : decode cX12_given 39 = .ok (.irem, 1) := by decide +kernel
theorem dX12_given_40 : decode cX12_given 40 = .ok (.ifCond .ne 14, 3) := by decide +kernel
theorem dX12_given_43 : decode cX12_given 43 = .ok (.aload_n 0, 1) := by decide +kernel
theorem dX12_given_44 : decode cX12_given 44 = .ok (.getfield 28, 3) := by decide +kernel
theorem dX12_given_47 : decode cX12_given 47 = .ok (.iload_n 1, 1) := by decide +kernel
theorem dX12_given_48 : decode cX12_given 48 = .ok (.iaload, 1) := by decide +kernel
theorem dX12_given_49 : decode cX12_given 49 = .ok (.bipush 24, 2) := by decide +kernel
theorem dX12_given_51 : decode cX12_given 51 = .ok (.if_icmp .le 6, 3) := by decide +kernel
theorem dX12_given_54 : decode cX12_given 54 = .ok (.bipush (-13), 2) := by decide +kernel
theorem dX12_given_56 : decode cX12_given 56 = .ok (.istore_n 3, 1) := by decide +kernel
theorem dX12_given_57 : decode cX12_given 57 = .ok (.iconst 0, 1) := by decide +kernel
theorem dX12_given_58 : decode cX12_given 58 = .ok (.istore 4, 2) := by decide +kernel
theorem dX12_given_60 : decode cX12_given 60 = .ok (.iload_n 3, 1) := by decide +kernel
theorem dX12_given_61 : decode cX12_given 61 = .ok (.ifCond .ne 70, 3) := by decide +kernel
theorem dX12_given_64 : decode cX12_given 64 = .ok (.iload 4, 2) := by decide +kernel
theorem dX12_given_66 : decode cX12_given 66 = .ok (.aload_n 0, 1) := by decide +kernel
theorem dX12_given_67 : decode cX12_given 67 = .ok (.getfield 28, 3) := by decide +kernel
