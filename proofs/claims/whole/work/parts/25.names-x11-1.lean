set_option maxRecDepth 20000 in
theorem ggX11_init_X7_init : GoodIn wsX11_init wsX7_init := goodIn_r _ [30, 31, 2, 3, 32, 33, 23, 34, 60, 61, 62, 63] (by decide +kernel) (by decide +kernel)
set_option maxRecDepth 20000 in
theorem gX11_init_X7_init : GoodIn wsX11_init (wsX7_init) := ggX11_init_X7_init
set_option maxRecDepth 20000 in
theorem ggX11_init_X3_init : GoodIn wsX11_init wsX3_init := goodIn_r _ [37, 38, 2, 3, 39, 87, 88, 89, 75, 90, 91, 92, 93] (by decide +kernel) (by decide +kernel)
set_option maxRecDepth 20000 in
theorem gX11_init_X3_init : GoodIn wsX11_init (wsX3_init) := ggX11_init_X3_init
set_option maxRecDepth 20000 in
theorem ggX11_init_X5_init : GoodIn wsX11_init wsX5_init := goodIn_r _ [42, 43, 2, 3, 23, 44, 45, 5, 6, 46, 47, 48, 49, 50, 29, 30, 31, 32, 33, 34, 76, 77, 78, 79, 80, 81, 82, 83, 60, 61, 62, 63] (by decide +kernel) (by decide +kernel)
set_option maxRecDepth 20000 in
theorem gX11_init_X5_init : GoodIn wsX11_init (wsX5_init) := ggX11_init_X5_init
set_option maxRecDepth 20000 in
theorem ggX11_init_X8_init : GoodIn wsX11_init wsX8_init := goodIn_r _ [53, 54, 2, 3, 23, 55, 84, 85, 86] (by decide +kernel) (by decide +kernel)
set_option maxRecDepth 20000 in
theorem gX11_init_X8_init : GoodIn wsX11_init (wsX8_init) := ggX11_init_X8_init
set_option maxRecDepth 20000 in
theorem ggX11_init_J7_fill_53178 : GoodIn wsX11_init wsJ7_fill_53178 := goodIn_r _ [59] (by decide +kernel) (by decide +kernel)
set_option maxRecDepth 20000 in
theorem gX11_init_J7_fill_53178 : GoodIn wsX11_init (va_wsS RX11 61 yJ7_fill_53178 wsJ7_fill_53178) := goodIn_app (goodIn_of _ (by decide +kernel)) ggX11_init_J7_fill_53178
theorem dX11_init_0 : decode cX11_init 0 = .ok (.aload_n 0, 1) := by decide +kernel
theorem dX11_init_1 : decode cX11_init 1 = .ok (.invokespecial 1, 3) := by decide +kernel
theorem dX11_init_4 : decode cX11_init 4 = .ok (.aload_n 0, 1) := by decide +kernel
theorem dX11_init_5 : decode cX11_init 5 = .ok (.new 7, 3) := by decide +kernel
theorem dX11_init_8 : decode cX11_init 8 = .ok (.dup, 1) := by decide +kernel
theorem dX11_init_9 : decode cX11_init 9 = .ok (.invokespecial 9, 3) := by decide +kernel
theorem dX11_init_12 : decode cX11_init 12 = .ok (.putfield 10, 3) := by decide +kernel
theorem dX11_init_15 : decode cX11_init 15 = .ok (.aload_n 0, 1) := by decide +kernel
theorem dX11_init_16 : decode cX11_init 16 = .ok (.new 7, 3) := by decide +kernel
theorem dX11_init_19 : decode cX11_init 19 = .ok (.dup, 1) := by decide +kernel
theorem dX11_init_20 : decode cX11_init 20 = .ok (.invokespecial 9, 3) := by decide +kernel
theorem dX11_init_23 : decode cX11_init 23 = .ok (.putfield 16, 3) := by decide +kernel
theorem dX11_init_26 : decode cX11_init 26 = .ok (.aload_n 0, 1) := by decide +kernel
theorem dX11_init_27 : decode cX11_init 27 = .ok (.new 7, 3) := by decide +kernel
theorem dX11_init_30 : decode cX11_init 30 = .ok (.dup, 1) := by decide +kernel
theorem dX11_init_31 : decode cX11_init 31 = .ok (.invokespecial 9, 3) := by decide +kernel
theorem dX11_init_34 : decode cX11_init 34 = .ok (.putfield 19, 3) := by decide +kernel
theorem dX11_init_37 : decode cX11_init 37 = .ok (.aload_n 0, 1) := by decide +kernel
theorem dX11_init_38 : decode cX11_init 38 = .ok (.new 22, 3) := by decide +kernel
theorem dX11_init_41 : decode cX11_init 41 = .ok (.dup, 1) := by decide +kernel
theorem dX11_init_42 : decode cX11_init 42 = .ok (.iconst 0, 1) := by decide +kernel
theorem dX11_init_43 : decode cX11_init 43 = .ok (.invokespecial 24, 3) := by decide +kernel
theorem dX11_init_46 : decode cX11_init 46 = .ok (.putfield 27, 3) := by decide +kernel
theorem dX11_init_49 : decode cX11_init 49 = .ok (.aload_n 0, 1) := by decide +kernel
theorem dX11_init_50 : decode cX11_init 50 = .ok (.new 31, 3) := by decide +kernel
theorem dX11_init_53 : decode cX11_init 53 = .ok (.dup, 1) := by decide +kernel
theorem dX11_init_54 : decode cX11_init 54 = .ok (.invokespecial 33, 3) := by decide +kernel
theorem dX11_init_57 : decode cX11_init 57 = .ok (.putfield 34, 3) := by decide +kernel
theorem dX11_init_60 : decode cX11_init 60 = .ok (.aload_n 0, 1) := by decide +kernel
theorem dX11_init_61 : decode cX11_init 61 = .ok (.new 38, 3) := by decide +kernel
theorem dX11_init_64 : decode cX11_init 64 = .ok (.dup, 1) := by decide +kernel
theorem dX11_init_65 : decode cX11_init 65 = .ok (.invokespecial 40, 3) := by decide +kernel
theorem dX11_init_68 : decode cX11_init 68 = .ok (.putfield 41, 3) := by decide +kernel
theorem dX11_init_71 : decode cX11_init 71 = .ok (.aload_n 0, 1) := by decide +kernel
theorem dX11_init_72 : decode cX11_init 72 = .ok (.bipush 8, 2) := by decide +kernel
theorem dX11_init_74 : decode cX11_init 74 = .ok (.anewarray 22, 3) := by decide +kernel
theorem dX11_init_77 : decode cX11_init 77 = .ok (.putfield 45, 3) := by decide +kernel
theorem dX11_init_80 : decode cX11_init 80 = .ok (.aload_n 0, 1) := by decide +kernel
theorem dX11_init_81 : decode cX11_init 81 = .ok (.bipush 8, 2) := by decide +kernel
theorem dX11_init_83 : decode cX11_init 83 = .ok (.newarray .int, 2) := by decide +kernel
theorem dX11_init_85 : decode cX11_init 85 = .ok (.putfield 49, 3) := by decide +kernel
theorem dX11_init_88 : decode cX11_init 88 = .ok (.aload_n 0, 1) := by decide +kernel
theorem dX11_init_89 : decode cX11_init 89 = .ok (.bipush 8, 2) := by decide +kernel
theorem dX11_init_91 : decode cX11_init 91 = .ok (.newarray .int, 2) := by decide +kernel
theorem dX11_init_93 : decode cX11_init 93 = .ok (.putfield 53, 3) := by decide +kernel
theorem dX11_init_96 : decode cX11_init 96 = .ok (.aload_n 0, 1) := by decide +kernel
theorem dX11_init_97 : decode cX11_init 97 = .ok (.bipush 8, 2) := by decide +kernel
theorem dX11_init_99 : decode cX11_init 99 = .ok (.bipush 100, 2) := by decide +kernel
theorem dX11_init_101 : decode cX11_init 101 = .ok (.multianewarray 56 2, 4) := by decide +kernel
theorem dX11_init_105 : decode cX11_init 105 = .ok (.putfield 58, 3) := by decide +kernel
theorem dX11_init_108 : decode cX11_init 108 = .ok (.aload_n 0, 1) := by decide +kernel
theorem dX11_init_109 : decode cX11_init 109 = .ok (.getfield 49, 3) := by decide +kernel
theorem dX11_init_112 : decode cX11_init 112 = .ok (.iconst (-1), 1) := by decide +kernel
theorem dX11_init_113 : decode cX11_init 113 = .ok (.invokestatic 61, 3) := by decide +kernel
theorem dX11_init_116 : decode cX11_init 116 = .ok (.return_, 1) := by decide +kernel
set_option maxRecDepth 20000 in
theorem ggX11_street_X11_sortRefusal : GoodIn wsX11_street wsX11_sortRefusal := goodIn_r _ [10, 11, 12, 13, 14, 9, 15, 16, 17, 18, 19, 20, 21, 22, 23, 194, 195, 196, 197, 198, 199, 200, 201, 202, 203, 204] (by decide +kernel) (by decide +kernel)
set_option maxRecDepth 20000 in
theorem gX11_street_X11_sortRefusal : GoodIn wsX11_street (wsV RX11 67 RX11 yX11_sortRefusal wsX11_sortRefusal) := goodIn_app (goodIn_of _ (by decide +kernel)) ggX11_street_X11_sortRefusal
set_option maxRecDepth 20000 in
theorem ggX11_street_X8_open : GoodIn wsX11_street wsX8_open := goodIn_r _ [28, 29, 30, 31, 32, 33, 34, 35, 205, 206, 207] (by decide +kernel) (by decide +kernel)
set_option maxRecDepth 20000 in
theorem gX11_street_X8_open : GoodIn wsX11_street (wsV RX11 71 RX8 yX8_open wsX8_open) := goodIn_app (goodIn_of _ (by decide +kernel)) ggX11_street_X8_open
set_option maxRecDepth 20000 in
theorem ggX11_street_X8_brokenPlace : GoodIn wsX11_street wsX8_brokenPlace := goodIn_r _ [39, 34, 40, 41, 42, 27, 43, 44, 45, 46, 47, 29, 48, 49, 50, 51, 52, 53, 54, 55, 56, 57, 58, 59, 60, 61, 62, 205, 206, 207] (by decide +kernel) (by decide +kernel)
set_option maxRecDepth 20000 in
theorem gX11_street_X8_brokenPlace : GoodIn wsX11_street (wsV RX11 74 RX8 yX8_brokenPlace wsX8_brokenPlace) := goodIn_app (goodIn_of _ (by decide +kernel)) ggX11_street_X8_brokenPlace
set_option maxRecDepth 20000 in
theorem ggX11_street_X7_become : GoodIn wsX11_street wsX7_become := goodIn_r _ [67, 68, 69, 70, 71, 208, 209, 210, 211] (by decide +kernel) (by decide +kernel)
set_option maxRecDepth 20000 in
theorem gX11_street_X7_become : GoodIn wsX11_street (wsV RX11 78 RX7 yX7_become wsX7_become) := goodIn_app (goodIn_of _ (by decide +kernel)) ggX11_street_X7_become
set_option maxRecDepth 20000 in
theorem ggX11_street_X8_wrongPlace : GoodIn wsX11_street wsX8_wrongPlace := goodIn_r _ [75, 34, 35, 76, 77, 78, 27, 79, 80, 81, 82, 83, 44, 45, 46, 47, 29, 84, 85, 86, 87, 57, 58, 59, 88, 89, 90, 91, 92, 9, 93, 94, 95, 96, 97, 98, 99, 100, 101, 102, 103, 104, 105, 106, 107, 108, 109, 110, 111, 112, 113, 114, 115, 116, 117, 118, 119, 120, 121, 122, 123, 124, 125, 126, 127, 128, 129, 130, 131, 132, 133, 134, 135, 136, 137, 138, 139, 140, 141, 142, 143, 144, 145, 146, 147, 148, 149, 150, 151, 152, 153, 154, 155, 156, 157, 66, 158, 70, 68, 69, 159, 160, 161, 162, 163, 164, 165, 166, 167, 168, 169, 170, 171, 172, 173, 174, 175, 176, 177, 178, 179, 180, 181, 182, 183, 184, 185, 186, 187, 188, 189, 40, 41, 42, 43, 48, 49, 50, 51, 52, 53, 54, 55, 56, 205, 206, 207, 208, 209, 210, 211, 212, 213, 214, 215, 216, 217, 218, 219] (by decide +kernel) (by decide +kernel)
set_option maxRecDepth 20000 in
theorem gX11_street_X8_wrongPlace : GoodIn wsX11_street (wsV RX11 82 RX8 yX8_wrongPlace wsX8_wrongPlace) := goodIn_app (goodIn_of _ (by decide +kernel)) ggX11_street_X8_wrongPlace
set_option maxRecDepth 20000 in
theorem ggX11_street_X8_statements : GoodIn wsX11_street wsX8_statements := goodIn_r _ [193, 35, 205, 206, 207] (by decide +kernel) (by decide +kernel)
set_option maxRecDepth 20000 in
theorem gX11_street_X8_statements : GoodIn wsX11_street (wsV RX11 86 RX8 yX8_statements wsX8_statements) := goodIn_app (goodIn_of _ (by decide +kernel)) ggX11_street_X8_statements
theorem dX11_street_0 : decode cX11_street 0 = .ok (.aload_n 0, 1) := by decide +kernel
theorem dX11_street_1 : decode cX11_street 1 = .ok (.iload_n 1, 1) := by decide +kernel
theorem dX11_street_2 : decode cX11_street 2 = .ok (.iconst 0, 1) := by decide +kernel
theorem dX11_street_3 : decode cX11_street 3 = .ok (.invokevirtual 67, 3) := by decide +kernel
theorem dX11_street_6 : decode cX11_street 6 = .ok (.istore_n 2, 1) := by decide +kernel
theorem dX11_street_7 : decode cX11_street 7 = .ok (.iload_n 2, 1) := by decide +kernel
theorem dX11_street_8 : decode cX11_street 8 = .ok (.ifCond .eq 5, 3) := by decide +kernel
theorem dX11_street_11 : decode cX11_street 11 = .ok (.iload_n 2, 1) := by decide +kernel
theorem dX11_street_12 : decode cX11_street 12 = .ok (.ireturn, 1) := by decide +kernel
theorem dX11_street_13 : decode cX11_street 13 = .ok (.aload_n 0, 1) := by decide +kernel
theorem dX11_street_14 : decode cX11_street 14 = .ok (.getfield 41, 3) := by decide +kernel
theorem dX11_street_17 : decode cX11_street 17 = .ok (.aload_n 0, 1) := by decide +kernel
theorem dX11_street_18 : decode cX11_street 18 = .ok (.getfield 58, 3) := by decide +kernel
theorem dX11_street_21 : decode cX11_street 21 = .ok (.iload_n 1, 1) := by decide +kernel
theorem dX11_street_22 : decode cX11_street 22 = .ok (.aaload, 1) := by decide +kernel
theorem dX11_street_23 : decode cX11_street 23 = .ok (.aload_n 0, 1) := by decide +kernel
theorem dX11_street_24 : decode cX11_street 24 = .ok (.getfield 53, 3) := by decide +kernel
theorem dX11_street_27 : decode cX11_street 27 = .ok (.iload_n 1, 1) := by decide +kernel
theorem dX11_street_28 : decode cX11_street 28 = .ok (.iaload, 1) := by decide +kernel
theorem dX11_street_29 : decode cX11_street 29 = .ok (.invokevirtual 71, 3) := by decide +kernel
theorem dX11_street_32 : decode cX11_street 32 = .ok (.aload_n 0, 1) := by decide +kernel
theorem dX11_street_33 : decode cX11_street 33 = .ok (.getfield 41, 3) := by decide +kernel
theorem dX11_street_36 : decode cX11_street 36 = .ok (.invokevirtual 74, 3) := by decide +kernel
theorem dX11_street_39 : decode cX11_street 39 = .ok (.istore_n 3, 1) := by decide +kernel
theorem dX11_street_40 : decode cX11_street 40 = .ok (.iload_n 3, 1) := by decide +kernel
theorem dX11_street_41 : decode cX11_street 41 = .ok (.ifCond .lt 9, 3) := by decide +kernel
theorem dX11_street_44 : decode cX11_street 44 = .ok (.sipush (-1000), 3) := by decide +kernel
theorem dX11_street_47 : decode cX11_street 47 = .ok (.iload_n 3, 1) := by decide +kernel
theorem dX11_street_48 : decode cX11_street 48 = .ok (.isub, 1) := by decide +kernel
theorem dX11_street_49 : decode cX11_street 49 = .ok (.ireturn, 1) := by decide +kernel
theorem dX11_street_50 : decode cX11_street 50 = .ok (.aload_n 0, 1) := by decide +kernel
theorem dX11_street_51 : decode cX11_street 51 = .ok (.getfield 19, 3) := by decide +kernel
theorem dX11_street_54 : decode cX11_street 54 = .ok (.aload_n 0, 1) := by decide +kernel
theorem dX11_street_55 : decode cX11_street 55 = .ok (.getfield 10, 3) := by decide +kernel
theorem dX11_street_58 : decode cX11_street 58 = .ok (.invokevirtual 78, 3) := by decide +kernel
theorem dX11_street_61 : decode cX11_street 61 = .ok (.aload_n 0, 1) := by decide +kernel
theorem dX11_street_62 : decode cX11_street 62 = .ok (.getfield 41, 3) := by decide +kernel
theorem dX11_street_65 : decode cX11_street 65 = .ok (.aload_n 0, 1) := by decide +kernel
theorem dX11_street_66 : decode cX11_street 66 = .ok (.getfield 19, 3) := by decide +kernel
theorem dX11_street_69 : decode cX11_street 69 = .ok (.invokevirtual 82, 3) := by decide +kernel
theorem dX11_street_72 : decode cX11_street 72 = .ok (.istore 4, 2) := by decide +kernel
theorem dX11_street_74 : decode cX11_street 74 = .ok (.iload 4, 2) := by decide +kernel
theorem dX11_street_76 : decode cX11_street 76 = .ok (.ifCond .lt 10, 3) := by decide +kernel
theorem dX11_street_79 : decode cX11_street 79 = .ok (.sipush (-2000), 3) := by decide +kernel
theorem dX11_street_82 : decode cX11_street 82 = .ok (.iload 4, 2) := by decide +kernel
theorem dX11_street_84 : decode cX11_street 84 = .ok (.isub, 1) := by decide +kernel
theorem dX11_street_85 : decode cX11_street 85 = .ok (.ireturn, 1) := by decide +kernel
theorem dX11_street_86 : decode cX11_street 86 = .ok (.aload_n 0, 1) := by decide +kernel
theorem dX11_street_87 : decode cX11_street 87 = .ok (.getfield 10, 3) := by decide +kernel
theorem dX11_street_90 : decode cX11_street 90 = .ok (.aload_n 0, 1) := by decide +kernel
theorem dX11_street_91 : decode cX11_street 91 = .ok (.getfield 19, 3) := by decide +kernel
theorem dX11_street_94 : decode cX11_street 94 = .ok (.invokevirtual 78, 3) := by decide +kernel
theorem dX11_street_97 : decode cX11_street 97 = .ok (.aload_n 0, 1) := by decide +kernel
theorem dX11_street_98 : decode cX11_street 98 = .ok (.getfield 41, 3) := by decide +kernel
theorem dX11_street_101 : decode cX11_street 101 = .ok (.invokevirtual 86, 3) := by decide +kernel
theorem dX11_street_104 : decode cX11_street 104 = .ok (.ireturn, 1) := by decide +kernel
set_option maxRecDepth 20000 in
theorem ggX11_house_X7_has : GoodIn wsX11_house wsX7_has := goodIn_r _ [9, 10, 209, 210, 211, 212] (by decide +kernel) (by decide +kernel)
set_option maxRecDepth 20000 in
theorem gX11_house_X7_has : GoodIn wsX11_house (wsV RX11 89 RX7 yX7_has wsX7_has) := goodIn_app (goodIn_of _ (by decide +kernel)) ggX11_house_X7_has
set_option maxRecDepth 20000 in
theorem ggX11_house_X0_kind : GoodIn wsX11_house wsX0_kind := goodIn_r _ [17] (by decide +kernel) (by decide +kernel)
set_option maxRecDepth 20000 in
theorem gX11_house_X0_kind_u96X0 : GoodIn wsX11_house (va_wsO RX11 96 RX0 "TwiceAsRich$House" ⟨"TwiceAsRich$House", "kind", "()I"⟩ yX0_kind wsX0_kind) := goodIn_app (goodIn_of _ (by decide +kernel)) ggX11_house_X0_kind
set_option maxRecDepth 20000 in
theorem ggX11_house_X1_kind : GoodIn wsX11_house wsX1_kind := goodIn_r _ [22] (by decide +kernel) (by decide +kernel)
set_option maxRecDepth 20000 in
theorem gX11_house_X1_kind_u96X1 : GoodIn wsX11_house (va_wsO RX11 96 RX1 "TwiceAsRich$House" ⟨"TwiceAsRich$House", "kind", "()I"⟩ yX1_kind wsX1_kind) := goodIn_app (goodIn_of _ (by decide +kernel)) ggX11_house_X1_kind
set_option maxRecDepth 20000 in
theorem ggX11_house_X2_kind : GoodIn wsX11_house wsX2_kind := goodIn_r _ [26] (by decide +kernel) (by decide +kernel)
set_option maxRecDepth 20000 in
theorem gX11_house_X2_kind_u96X2 : GoodIn wsX11_house (va_wsO RX11 96 RX2 "TwiceAsRich$House" ⟨"TwiceAsRich$House", "kind", "()I"⟩ yX2_kind wsX2_kind) := goodIn_app (goodIn_of _ (by decide +kernel)) ggX11_house_X2_kind
set_option maxRecDepth 20000 in
theorem ggX11_house_X3_kind : GoodIn wsX11_house wsX3_kind := goodIn_r _ [18] (by decide +kernel) (by decide +kernel)
set_option maxRecDepth 20000 in
theorem gX11_house_X3_kind : GoodIn wsX11_house (wsV RX11 96 RX3 yX3_kind wsX3_kind) := goodIn_app (goodIn_of _ (by decide +kernel)) ggX11_house_X3_kind
set_option maxRecDepth 20000 in
theorem ggX11_house_X4_kind : GoodIn wsX11_house wsX4_kind := goodIn_r _ [34] (by decide +kernel) (by decide +kernel)
set_option maxRecDepth 20000 in
theorem gX11_house_X4_kind_u96X4 : GoodIn wsX11_house (va_wsO RX11 96 RX4 "TwiceAsRich$House" ⟨"TwiceAsRich$House", "kind", "()I"⟩ yX4_kind wsX4_kind) := goodIn_app (goodIn_of _ (by decide +kernel)) ggX11_house_X4_kind
set_option maxRecDepth 20000 in
theorem ggX11_house_X6_kind : GoodIn wsX11_house wsX6_kind := goodIn_r _ [38] (by decide +kernel) (by decide +kernel)
set_option maxRecDepth 20000 in
theorem gX11_house_X6_kind_u96X6 : GoodIn wsX11_house (va_wsO RX11 96 RX6 "TwiceAsRich$House" ⟨"TwiceAsRich$House", "kind", "()I"⟩ yX6_kind wsX6_kind) := goodIn_app (goodIn_of _ (by decide +kernel)) ggX11_house_X6_kind
set_option maxRecDepth 20000 in
theorem ggX11_house_X9_kind : GoodIn wsX11_house wsX9_kind := goodIn_r _ [42] (by decide +kernel) (by decide +kernel)
set_option maxRecDepth 20000 in
theorem gX11_house_X9_kind_u96X9 : GoodIn wsX11_house (va_wsO RX11 96 RX9 "TwiceAsRich$House" ⟨"TwiceAsRich$House", "kind", "()I"⟩ yX9_kind wsX9_kind) := goodIn_app (goodIn_of _ (by decide +kernel)) ggX11_house_X9_kind
set_option maxRecDepth 20000 in
theorem ggX11_house_X10_kind : GoodIn wsX11_house wsX10_kind := goodIn_r _ [46] (by decide +kernel) (by decide +kernel)
set_option maxRecDepth 20000 in
theorem gX11_house_X10_kind_u96X10 : GoodIn wsX11_house (va_wsO RX11 96 RX10 "TwiceAsRich$House" ⟨"TwiceAsRich$House", "kind", "()I"⟩ yX10_kind wsX10_kind) := goodIn_app (goodIn_of _ (by decide +kernel)) ggX11_house_X10_kind
set_option maxRecDepth 20000 in
theorem ggX11_house_X3_isLookedAt : GoodIn wsX11_house wsX3_isLookedAt := goodIn_r _ [51] (by decide +kernel) (by decide +kernel)
set_option maxRecDepth 20000 in
theorem gX11_house_X3_isLookedAt_u106X0 : GoodIn wsX11_house (va_wsU RX11 106 RX0 "TwiceAsRich$House" ⟨"TwiceAsRich$House", "isLookedAt", "()Z"⟩ yX3_isLookedAt wsX3_isLookedAt) := goodIn_app (goodIn_of _ (by decide +kernel)) ggX11_house_X3_isLookedAt
set_option maxRecDepth 20000 in
theorem ggX11_house_X1_isLookedAt : GoodIn wsX11_house wsX1_isLookedAt := goodIn_r _ [55] (by decide +kernel) (by decide +kernel)
set_option maxRecDepth 20000 in
theorem gX11_house_X1_isLookedAt_u106X1 : GoodIn wsX11_house (va_wsO RX11 106 RX1 "TwiceAsRich$House" ⟨"TwiceAsRich$House", "isLookedAt", "()Z"⟩ yX1_isLookedAt wsX1_isLookedAt) := goodIn_app (goodIn_of _ (by decide +kernel)) ggX11_house_X1_isLookedAt
set_option maxRecDepth 20000 in
theorem gX11_house_X3_isLookedAt_u106X2 : GoodIn wsX11_house (va_wsU RX11 106 RX2 "TwiceAsRich$House" ⟨"TwiceAsRich$House", "isLookedAt", "()Z"⟩ yX3_isLookedAt wsX3_isLookedAt) := goodIn_app (goodIn_of _ (by decide +kernel)) ggX11_house_X3_isLookedAt
set_option maxRecDepth 20000 in
theorem gX11_house_X3_isLookedAt : GoodIn wsX11_house (wsV RX11 106 RX3 yX3_isLookedAt wsX3_isLookedAt) := goodIn_app (goodIn_of _ (by decide +kernel)) ggX11_house_X3_isLookedAt
set_option maxRecDepth 20000 in
theorem gX11_house_X3_isLookedAt_u106X4 : GoodIn wsX11_house (va_wsU RX11 106 RX4 "TwiceAsRich$House" ⟨"TwiceAsRich$House", "isLookedAt", "()Z"⟩ yX3_isLookedAt wsX3_isLookedAt) := goodIn_app (goodIn_of _ (by decide +kernel)) ggX11_house_X3_isLookedAt
set_option maxRecDepth 20000 in
theorem gX11_house_X3_isLookedAt_u106X6 : GoodIn wsX11_house (va_wsU RX11 106 RX6 "TwiceAsRich$House" ⟨"TwiceAsRich$House", "isLookedAt", "()Z"⟩ yX3_isLookedAt wsX3_isLookedAt) := goodIn_app (goodIn_of _ (by decide +kernel)) ggX11_house_X3_isLookedAt
set_option maxRecDepth 20000 in
theorem gX11_house_X3_isLookedAt_u106X9 : GoodIn wsX11_house (va_wsU RX11 106 RX9 "TwiceAsRich$House" ⟨"TwiceAsRich$House", "isLookedAt", "()Z"⟩ yX3_isLookedAt wsX3_isLookedAt) := goodIn_app (goodIn_of _ (by decide +kernel)) ggX11_house_X3_isLookedAt
set_option maxRecDepth 20000 in
theorem ggX11_house_X10_isLookedAt : GoodIn wsX11_house wsX10_isLookedAt := goodIn_r _ [64] (by decide +kernel) (by decide +kernel)
set_option maxRecDepth 20000 in
theorem gX11_house_X10_isLookedAt_u106X10 : GoodIn wsX11_house (va_wsO RX11 106 RX10 "TwiceAsRich$House" ⟨"TwiceAsRich$House", "isLookedAt", "()Z"⟩ yX10_isLookedAt wsX10_isLookedAt) := goodIn_app (goodIn_of _ (by decide +kernel)) ggX11_house_X10_isLookedAt
set_option maxRecDepth 20000 in
theorem ggX11_house_X0_shownOf : GoodIn wsX11_house wsX0_shownOf := goodIn_r _ [70, 71, 72, 73, 74, 75, 76, 37, 77, 78, 66, 79, 80, 30, 81, 213, 214, 215, 216, 217, 218, 219, 220] (by decide +kernel) (by decide +kernel)
set_option maxRecDepth 20000 in
theorem gX11_house_X0_shownOf_u110X0 : GoodIn wsX11_house (va_wsO RX11 110 RX0 "TwiceAsRich$House" ⟨"TwiceAsRich$House", "shownOf", "(I)I"⟩ yX0_shownOf wsX0_shownOf) := goodIn_app (goodIn_of _ (by decide +kernel)) ggX11_house_X0_shownOf
set_option maxRecDepth 20000 in
theorem ggX11_house_X3_shownOf : GoodIn wsX11_house wsX3_shownOf := goodIn_r _ [81] (by decide +kernel) (by decide +kernel)
set_option maxRecDepth 20000 in
theorem gX11_house_X3_shownOf_u110X1 : GoodIn wsX11_house (va_wsU RX11 110 RX1 "TwiceAsRich$House" ⟨"TwiceAsRich$House", "shownOf", "(I)I"⟩ yX3_shownOf wsX3_shownOf) := goodIn_app (goodIn_of _ (by decide +kernel)) ggX11_house_X3_shownOf
set_option maxRecDepth 20000 in
theorem gX11_house_X3_shownOf_u110X2 : GoodIn wsX11_house (va_wsU RX11 110 RX2 "TwiceAsRich$House" ⟨"TwiceAsRich$House", "shownOf", "(I)I"⟩ yX3_shownOf wsX3_shownOf) := goodIn_app (goodIn_of _ (by decide +kernel)) ggX11_house_X3_shownOf
set_option maxRecDepth 20000 in
theorem gX11_house_X3_shownOf : GoodIn wsX11_house (wsV RX11 110 RX3 yX3_shownOf wsX3_shownOf) := goodIn_app (goodIn_of _ (by decide +kernel)) ggX11_house_X3_shownOf
set_option maxRecDepth 20000 in
theorem ggX11_house_X4_shownOf : GoodIn wsX11_house wsX4_shownOf := goodIn_r _ [88] (by decide +kernel) (by decide +kernel)
set_option maxRecDepth 20000 in
theorem gX11_house_X4_shownOf_u110X4 : GoodIn wsX11_house (va_wsO RX11 110 RX4 "TwiceAsRich$House" ⟨"TwiceAsRich$House", "shownOf", "(I)I"⟩ yX4_shownOf wsX4_shownOf) := goodIn_app (goodIn_of _ (by decide +kernel)) ggX11_house_X4_shownOf
set_option maxRecDepth 20000 in
theorem ggX11_house_X6_shownOf : GoodIn wsX11_house wsX6_shownOf := goodIn_r _ [77, 78, 66, 79, 80, 30, 81] (by decide +kernel) (by decide +kernel)
set_option maxRecDepth 20000 in
theorem gX11_house_X6_shownOf_u110X6 : GoodIn wsX11_house (va_wsO RX11 110 RX6 "TwiceAsRich$House" ⟨"TwiceAsRich$House", "shownOf", "(I)I"⟩ yX6_shownOf wsX6_shownOf) := goodIn_app (goodIn_of _ (by decide +kernel)) ggX11_house_X6_shownOf
set_option maxRecDepth 20000 in
theorem gX11_house_X3_shownOf_u110X9 : GoodIn wsX11_house (va_wsU RX11 110 RX9 "TwiceAsRich$House" ⟨"TwiceAsRich$House", "shownOf", "(I)I"⟩ yX3_shownOf wsX3_shownOf) := goodIn_app (goodIn_of _ (by decide +kernel)) ggX11_house_X3_shownOf
set_option maxRecDepth 20000 in
theorem gX11_house_X3_shownOf_u110X10 : GoodIn wsX11_house (va_wsU RX11 110 RX10 "TwiceAsRich$House" ⟨"TwiceAsRich$House", "shownOf", "(I)I"⟩ yX3_shownOf wsX3_shownOf) := goodIn_app (goodIn_of _ (by decide +kernel)) ggX11_house_X3_shownOf
set_option maxRecDepth 20000 in
theorem ggX11_house_X7_mostOf : GoodIn wsX11_house wsX7_mostOf := goodIn_r _ [95, 96, 97, 98, 99, 100, 101, 102, 8, 103, 10, 104, 105, 106, 107, 108, 109, 110, 111, 112, 113, 114, 115, 116, 48, 49, 50, 30, 51, 52, 53, 54, 21, 55, 56, 117, 58, 59, 60, 61, 62, 63, 45, 64, 118, 66, 67, 68, 69, 16, 70, 71, 72, 73, 74, 75, 76, 37, 77, 78, 79, 80, 81, 82, 83, 119, 85, 86, 87, 33, 88, 89, 90, 91, 120, 121, 122, 123, 124, 125, 126, 127, 128, 129, 130, 25, 131, 132, 133, 134, 135, 136, 137, 138, 139, 140, 141, 142, 143, 144, 145, 146, 147, 148, 149, 41, 150, 151, 152, 153, 154, 155, 156, 157, 209, 210, 211, 212, 213, 214, 215, 216, 217, 218, 219, 220] (by decide +kernel) (by decide +kernel)
set_option maxRecDepth 20000 in
theorem gX11_house_X7_mostOf : GoodIn wsX11_house (wsV RX11 114 RX7 yX7_mostOf wsX7_mostOf) := goodIn_app (goodIn_of _ (by decide +kernel)) ggX11_house_X7_mostOf
set_option maxRecDepth 20000 in
theorem ggX11_house_X0_weekly : GoodIn wsX11_house wsX0_weekly := goodIn_r _ [163, 164, 165, 75, 166, 37, 167, 168, 159, 79, 169, 30, 170] (by decide +kernel) (by decide +kernel)
set_option maxRecDepth 20000 in
theorem gX11_house_X0_weekly_u117X0 : GoodIn wsX11_house (va_wsO RX11 117 RX0 "TwiceAsRich$House" ⟨"TwiceAsRich$House", "weekly", "()I"⟩ yX0_weekly wsX0_weekly) := goodIn_app (goodIn_of _ (by decide +kernel)) ggX11_house_X0_weekly
set_option maxRecDepth 20000 in
theorem ggX11_house_X1_weekly : GoodIn wsX11_house wsX1_weekly := goodIn_r _ [173, 174, 175, 176, 177, 178, 179, 45, 180, 213, 214, 215, 216, 217, 218, 219, 220] (by decide +kernel) (by decide +kernel)
set_option maxRecDepth 20000 in
theorem gX11_house_X1_weekly_u117X1 : GoodIn wsX11_house (va_wsO RX11 117 RX1 "TwiceAsRich$House" ⟨"TwiceAsRich$House", "weekly", "()I"⟩ yX1_weekly wsX1_weekly) := goodIn_app (goodIn_of _ (by decide +kernel)) ggX11_house_X1_weekly
set_option maxRecDepth 20000 in
theorem ggX11_house_X2_weekly : GoodIn wsX11_house wsX2_weekly := goodIn_r _ [183, 132, 133, 184, 159, 135, 169, 30, 170, 213, 214, 215, 216, 217, 218, 219, 220] (by decide +kernel) (by decide +kernel)
set_option maxRecDepth 20000 in
theorem gX11_house_X2_weekly_u117X2 : GoodIn wsX11_house (va_wsO RX11 117 RX2 "TwiceAsRich$House" ⟨"TwiceAsRich$House", "weekly", "()I"⟩ yX2_weekly wsX2_weekly) := goodIn_app (goodIn_of _ (by decide +kernel)) ggX11_house_X2_weekly
set_option maxRecDepth 20000 in
theorem ggX11_house_X3_weekly : GoodIn wsX11_house wsX3_weekly := goodIn_r _ [170] (by decide +kernel) (by decide +kernel)
set_option maxRecDepth 20000 in
theorem gX11_house_X3_weekly : GoodIn wsX11_house (wsV RX11 117 RX3 yX3_weekly wsX3_weekly) := goodIn_app (goodIn_of _ (by decide +kernel)) ggX11_house_X3_weekly
set_option maxRecDepth 20000 in
theorem ggX11_house_X4_weekly : GoodIn wsX11_house wsX4_weekly := goodIn_r _ [189, 190, 191, 146, 182, 25, 183, 132, 133, 184, 159, 135, 169, 30, 170, 213, 214, 215, 216, 217, 218, 219, 220] (by decide +kernel) (by decide +kernel)
set_option maxRecDepth 20000 in
theorem gX11_house_X4_weekly_u117X4 : GoodIn wsX11_house (va_wsO RX11 117 RX4 "TwiceAsRich$House" ⟨"TwiceAsRich$House", "weekly", "()I"⟩ yX4_weekly wsX4_weekly) := goodIn_app (goodIn_of _ (by decide +kernel)) ggX11_house_X4_weekly
set_option maxRecDepth 20000 in
theorem ggX11_house_X6_weekly : GoodIn wsX11_house wsX6_weekly := goodIn_r _ [167, 168, 159, 79, 169, 30, 170] (by decide +kernel) (by decide +kernel)
set_option maxRecDepth 20000 in
theorem gX11_house_X6_weekly_u117X6 : GoodIn wsX11_house (va_wsO RX11 117 RX6 "TwiceAsRich$House" ⟨"TwiceAsRich$House", "weekly", "()I"⟩ yX6_weekly wsX6_weekly) := goodIn_app (goodIn_of _ (by decide +kernel)) ggX11_house_X6_weekly
set_option maxRecDepth 20000 in
theorem ggX11_house_X9_weekly : GoodIn wsX11_house wsX9_weekly := goodIn_r _ [195, 196, 191, 152, 182, 25, 183, 132, 133, 184, 159, 135, 169, 30, 170, 213, 214, 215, 216, 217, 218, 219, 220] (by decide +kernel) (by decide +kernel)
set_option maxRecDepth 20000 in
theorem gX11_house_X9_weekly_u117X9 : GoodIn wsX11_house (va_wsO RX11 117 RX9 "TwiceAsRich$House" ⟨"TwiceAsRich$House", "weekly", "()I"⟩ yX9_weekly wsX9_weekly) := goodIn_app (goodIn_of _ (by decide +kernel)) ggX11_house_X9_weekly
set_option maxRecDepth 20000 in
theorem ggX11_house_X10_weekly : GoodIn wsX11_house wsX10_weekly := goodIn_r _ [180] (by decide +kernel) (by decide +kernel)
set_option maxRecDepth 20000 in
theorem gX11_house_X10_weekly_u117X10 : GoodIn wsX11_house (va_wsO RX11 117 RX10 "TwiceAsRich$House" ⟨"TwiceAsRich$House", "weekly", "()I"⟩ yX10_weekly wsX10_weekly) := goodIn_app (goodIn_of _ (by decide +kernel)) ggX11_house_X10_weekly
theorem dX11_house_0 : decode cX11_house 0 = .ok (.aload_n 0, 1) := by decide +kernel
theorem dX11_house_1 : decode cX11_house 1 = .ok (.getfield 10, 3) := by decide +kernel
theorem dX11_house_4 : decode cX11_house 4 = .ok (.iload_n 1, 1) := by decide +kernel
theorem dX11_house_5 : decode cX11_house 5 = .ok (.invokevirtual 89, 3) := by decide +kernel
theorem dX11_house_8 : decode cX11_house 8 = .ok (.ifCond .ne 5, 3) := by decide +kernel
theorem dX11_house_11 : decode cX11_house 11 = .ok (.iconst (-1), 1) := by decide +kernel
theorem dX11_house_12 : decode cX11_house 12 = .ok (.ireturn, 1) := by decide +kernel
theorem dX11_house_13 : decode cX11_house 13 = .ok (.aload_n 0, 1) := by decide +kernel
theorem dX11_house_14 : decode cX11_house 14 = .ok (.getfield 10, 3) := by decide +kernel
theorem dX11_house_17 : decode cX11_house 17 = .ok (.getfield 93, 3) := by decide +kernel
theorem dX11_house_20 : decode cX11_house 20 = .ok (.iload_n 1, 1) := by decide +kernel
theorem dX11_house_21 : decode cX11_house 21 = .ok (.aaload, 1) := by decide +kernel
theorem dX11_house_22 : decode cX11_house 22 = .ok (.astore_n 3, 1) := by decide +kernel
theorem dX11_house_23 : decode cX11_house 23 = .ok (.iload_n 2, 1) := by decide +kernel
theorem dX11_house_24 : decode cX11_house 24 = .ok (.tableswitch 100 0 5 #[40, 45, 50, 60, 86, 95], 40) := by decide +kernel
theorem dX11_house_64 : decode cX11_house 64 = .ok (.aload_n 3, 1) := by decide +kernel
theorem dX11_house_65 : decode cX11_house 65 = .ok (.invokevirtual 96, 3) := by decide +kernel
theorem dX11_house_68 : decode cX11_house 68 = .ok (.ireturn, 1) := by decide +kernel
theorem dX11_house_69 : decode cX11_house 69 = .ok (.aload_n 3, 1) := by decide +kernel
theorem dX11_house_70 : decode cX11_house 70 = .ok (.getfield 99, 3) := by decide +kernel
theorem dX11_house_73 : decode cX11_house 73 = .ok (.ireturn, 1) := by decide +kernel
theorem dX11_house_74 : decode cX11_house 74 = .ok (.aload_n 0, 1) := by decide +kernel
theorem dX11_house_75 : decode cX11_house 75 = .ok (.getfield 10, 3) := by decide +kernel
theorem dX11_house_78 : decode cX11_house 78 = .ok (.getfield 103, 3) := by decide +kernel
theorem dX11_house_81 : decode cX11_house 81 = .ok (.iload_n 1, 1) := by decide +kernel
theorem dX11_house_82 : decode cX11_house 82 = .ok (.iaload, 1) := by decide +kernel
theorem dX11_house_83 : decode cX11_house 83 = .ok (.ireturn, 1) := by decide +kernel
theorem dX11_house_84 : decode cX11_house 84 = .ok (.aload_n 3, 1) := by decide +kernel
theorem dX11_house_85 : decode cX11_house 85 = .ok (.invokevirtual 106, 3) := by decide +kernel
theorem dX11_house_88 : decode cX11_house 88 = .ok (.ifCond .eq 19, 3) := by decide +kernel
theorem dX11_house_91 : decode cX11_house 91 = .ok (.aload_n 3, 1) := by decide +kernel
theorem dX11_house_92 : decode cX11_house 92 = .ok (.aload_n 0, 1) := by decide +kernel
theorem dX11_house_93 : decode cX11_house 93 = .ok (.getfield 10, 3) := by decide +kernel
theorem dX11_house_96 : decode cX11_house 96 = .ok (.getfield 103, 3) := by decide +kernel
theorem dX11_house_99 : decode cX11_house 99 = .ok (.iload_n 1, 1) := by decide +kernel
theorem dX11_house_100 : decode cX11_house 100 = .ok (.iaload, 1) := by decide +kernel
theorem dX11_house_101 : decode cX11_house 101 = .ok (.invokevirtual 110, 3) := by decide +kernel
theorem dX11_house_104 : decode cX11_house 104 = .ok (.goto 5, 3) := by decide +kernel
theorem dX11_house_107 : decode cX11_house 107 = .ok (.bipush (-4), 2) := by decide +kernel
theorem dX11_house_109 : decode cX11_house 109 = .ok (.ireturn, 1) := by decide +kernel
theorem dX11_house_110 : decode cX11_house 110 = .ok (.aload_n 0, 1) := by decide +kernel
theorem dX11_house_111 : decode cX11_house 111 = .ok (.getfield 10, 3) := by decide +kernel
theorem dX11_house_114 : decode cX11_house 114 = .ok (.iload_n 1, 1) := by decide +kernel
theorem dX11_house_115 : decode cX11_house 115 = .ok (.invokevirtual 114, 3) := by decide +kernel
theorem dX11_house_118 : decode cX11_house 118 = .ok (.ireturn, 1) := by decide +kernel
theorem dX11_house_119 : decode cX11_house 119 = .ok (.aload_n 3, 1) := by decide +kernel
theorem dX11_house_120 : decode cX11_house 120 = .ok (.invokevirtual 117, 3) := by decide +kernel
theorem dX11_house_123 : decode cX11_house 123 = .ok (.ireturn, 1) := by decide +kernel
theorem dX11_house_124 : decode cX11_house 124 = .ok (.iconst (-1), 1) := by decide +kernel
theorem dX11_house_125 : decode cX11_house 125 = .ok (.ireturn, 1) := by decide +kernel
set_option maxRecDepth 20000 in
theorem ggX11_comes_X11_isPurse : GoodIn wsX11_comes wsX11_isPurse := goodIn_r _ [7] (by decide +kernel) (by decide +kernel)
set_option maxRecDepth 20000 in
theorem gX11_comes_X11_isPurse : GoodIn wsX11_comes (va_wsS RX11 120 yX11_isPurse wsX11_isPurse) := goodIn_app (goodIn_of _ (by decide +kernel)) ggX11_comes_X11_isPurse
set_option maxRecDepth 20000 in
theorem ggX11_comes_X11_houseRefusal : GoodIn wsX11_comes wsX11_houseRefusal := goodIn_r _ [11, 3, 12, 13, 6, 14, 15, 16, 17, 18, 19, 28, 29, 30, 31, 32, 33, 34, 35, 36, 37, 38] (by decide +kernel) (by decide +kernel)
set_option maxRecDepth 20000 in
theorem gX11_comes_X11_houseRefusal : GoodIn wsX11_comes (wsV RX11 123 RX11 yX11_houseRefusal wsX11_houseRefusal) := goodIn_app (goodIn_of _ (by decide +kernel)) ggX11_comes_X11_houseRefusal
set_option maxRecDepth 20000 in
theorem ggX11_comes_X7_insert : GoodIn wsX11_comes wsX7_insert := goodIn_r _ [24, 25, 26, 27, 39, 40, 41, 42] (by decide +kernel) (by decide +kernel)
set_option maxRecDepth 20000 in
theorem gX11_comes_X7_insert : GoodIn wsX11_comes (wsV RX11 129 RX7 yX7_insert wsX7_insert) := goodIn_app (goodIn_of _ (by decide +kernel)) ggX11_comes_X7_insert
theorem dX11_comes_0 : decode cX11_comes 0 = .ok (.iload_n 2, 1) := by decide +kernel
theorem dX11_comes_1 : decode cX11_comes 1 = .ok (.invokestatic 120, 3) := by decide +kernel
theorem dX11_comes_4 : decode cX11_comes 4 = .ok (.ifCond .ne 5, 3) := by decide +kernel
theorem dX11_comes_7 : decode cX11_comes 7 = .ok (.iconst (-1), 1) := by decide +kernel
theorem dX11_comes_8 : decode cX11_comes 8 = .ok (.ireturn, 1) := by decide +kernel
theorem dX11_comes_9 : decode cX11_comes 9 = .ok (.aload_n 0, 1) := by decide +kernel
theorem dX11_comes_10 : decode cX11_comes 10 = .ok (.iload_n 1, 1) := by decide +kernel
theorem dX11_comes_11 : decode cX11_comes 11 = .ok (.invokevirtual 123, 3) := by decide +kernel
theorem dX11_comes_14 : decode cX11_comes 14 = .ok (.istore_n 3, 1) := by decide +kernel
theorem dX11_comes_15 : decode cX11_comes 15 = .ok (.iload_n 3, 1) := by decide +kernel
theorem dX11_comes_16 : decode cX11_comes 16 = .ok (.ifCond .eq 5, 3) := by decide +kernel
theorem dX11_comes_19 : decode cX11_comes 19 = .ok (.iload_n 3, 1) := by decide +kernel
theorem dX11_comes_20 : decode cX11_comes 20 = .ok (.ireturn, 1) := by decide +kernel
theorem dX11_comes_21 : decode cX11_comes 21 = .ok (.aload_n 0, 1) := by decide +kernel
theorem dX11_comes_22 : decode cX11_comes 22 = .ok (.getfield 10, 3) := by decide +kernel
theorem dX11_comes_25 : decode cX11_comes 25 = .ok (.getfield 126, 3) := by decide +kernel
theorem dX11_comes_28 : decode cX11_comes 28 = .ok (.bipush 8, 2) := by decide +kernel
theorem dX11_comes_30 : decode cX11_comes 30 = .ok (.if_icmp .lt 6, 3) := by decide +kernel
theorem dX11_comes_33 : decode cX11_comes 33 = .ok (.bipush (-2), 2) := by decide +kernel
theorem dX11_comes_35 : decode cX11_comes 35 = .ok (.ireturn, 1) := by decide +kernel
theorem dX11_comes_36 : decode cX11_comes 36 = .ok (.aload_n 0, 1) := by decide +kernel
theorem dX11_comes_37 : decode cX11_comes 37 = .ok (.getfield 10, 3) := by decide +kernel
theorem dX11_comes_40 : decode cX11_comes 40 = .ok (.aload_n 0, 1) := by decide +kernel
theorem dX11_comes_41 : decode cX11_comes 41 = .ok (.getfield 10, 3) := by decide +kernel
theorem dX11_comes_44 : decode cX11_comes 44 = .ok (.getfield 126, 3) := by decide +kernel
theorem dX11_comes_47 : decode cX11_comes 47 = .ok (.aload_n 0, 1) := by decide +kernel
theorem dX11_comes_48 : decode cX11_comes 48 = .ok (.getfield 45, 3) := by decide +kernel
theorem dX11_comes_51 : decode cX11_comes 51 = .ok (.iload_n 1, 1) := by decide +kernel
theorem dX11_comes_52 : decode cX11_comes 52 = .ok (.aaload, 1) := by decide +kernel
theorem dX11_comes_53 : decode cX11_comes 53 = .ok (.iload_n 2, 1) := by decide +kernel
theorem dX11_comes_54 : decode cX11_comes 54 = .ok (.invokevirtual 129, 3) := by decide +kernel
theorem dX11_comes_57 : decode cX11_comes 57 = .ok (.aload_n 0, 1) := by decide +kernel
theorem dX11_comes_58 : decode cX11_comes 58 = .ok (.getfield 10, 3) := by decide +kernel
theorem dX11_comes_61 : decode cX11_comes 61 = .ok (.getfield 126, 3) := by decide +kernel
theorem dX11_comes_64 : decode cX11_comes 64 = .ok (.iconst 1, 1) := by decide +kernel
theorem dX11_comes_65 : decode cX11_comes 65 = .ok (.isub, 1) := by decide +kernel
theorem dX11_comes_66 : decode cX11_comes 66 = .ok (.ireturn, 1) := by decide +kernel
theorem dX11_round_0 : decode cX11_round 0 = .ok (.iload_n 1, 1) := by decide +kernel
theorem dX11_round_1 : decode cX11_round 1 = .ok (.ifCond .eq 10, 3) := by decide +kernel
theorem dX11_round_4 : decode cX11_round 4 = .ok (.iload_n 1, 1) := by decide +kernel
theorem dX11_round_5 : decode cX11_round 5 = .ok (.iconst 1, 1) := by decide +kernel
theorem dX11_round_6 : decode cX11_round 6 = .ok (.if_icmp .eq 5, 3) := by decide +kernel
theorem dX11_round_9 : decode cX11_round 9 = .ok (.iconst (-1), 1) := by decide +kernel
theorem dX11_round_10 : decode cX11_round 10 = .ok (.ireturn, 1) := by decide +kernel
theorem dX11_round_11 : decode cX11_round 11 = .ok (.aload_n 0, 1) := by decide +kernel
theorem dX11_round_12 : decode cX11_round 12 = .ok (.getfield 10, 3) := by decide +kernel
theorem dX11_round_15 : decode cX11_round 15 = .ok (.getfield 133, 3) := by decide +kernel
theorem dX11_round_18 : decode cX11_round 18 = .ok (.istore_n 2, 1) := by decide +kernel
theorem dX11_round_19 : decode cX11_round 19 = .ok (.aload_n 0, 1) := by decide +kernel
theorem dX11_round_20 : decode cX11_round 20 = .ok (.getfield 10, 3) := by decide +kernel
theorem dX11_round_23 : decode cX11_round 23 = .ok (.iload_n 1, 1) := by decide +kernel
theorem dX11_round_24 : decode cX11_round 24 = .ok (.putfield 133, 3) := by decide +kernel
theorem dX11_round_27 : decode cX11_round 27 = .ok (.iload_n 2, 1) := by decide +kernel
theorem dX11_round_28 : decode cX11_round 28 = .ok (.ireturn, 1) := by decide +kernel
set_option maxRecDepth 20000 in
theorem ggX11_give_X7_gift : GoodIn wsX11_give wsX7_gift := goodIn_r _ [7, 8, 9, 10, 11, 6, 12, 13, 14, 15, 16, 17, 29, 30, 31, 32] (by decide +kernel) (by decide +kernel)
set_option maxRecDepth 20000 in
theorem gX11_give_X7_gift : GoodIn wsX11_give (wsV RX11 136 RX7 yX7_gift wsX7_gift) := goodIn_app (goodIn_of _ (by decide +kernel)) ggX11_give_X7_gift
theorem dX11_give_0 : decode cX11_give 0 = .ok (.aload_n 0, 1) := by decide +kernel
theorem dX11_give_1 : decode cX11_give 1 = .ok (.getfield 10, 3) := by decide +kernel
theorem dX11_give_4 : decode cX11_give 4 = .ok (.iload_n 1, 1) := by decide +kernel
theorem dX11_give_5 : decode cX11_give 5 = .ok (.iload_n 2, 1) := by decide +kernel
theorem dX11_give_6 : decode cX11_give 6 = .ok (.iload_n 3, 1) := by decide +kernel
theorem dX11_give_7 : decode cX11_give 7 = .ok (.invokevirtual 136, 3) := by decide +kernel
theorem dX11_give_10 : decode cX11_give 10 = .ok (.istore 4, 2) := by decide +kernel
theorem dX11_give_12 : decode cX11_give 12 = .ok (.iload 4, 2) := by decide +kernel
theorem dX11_give_14 : decode cX11_give 14 = .ok (.ifCond .eq 8, 3) := by decide +kernel
theorem dX11_give_17 : decode cX11_give 17 = .ok (.iload 4, 2) := by decide +kernel
theorem dX11_give_19 : decode cX11_give 19 = .ok (.goto 12, 3) := by decide +kernel
theorem dX11_give_22 : decode cX11_give 22 = .ok (.aload_n 0, 1) := by decide +kernel
theorem dX11_give_23 : decode cX11_give 23 = .ok (.getfield 10, 3) := by decide +kernel
theorem dX11_give_26 : decode cX11_give 26 = .ok (.getfield 103, 3) := by decide +kernel
theorem dX11_give_29 : decode cX11_give 29 = .ok (.iload_n 1, 1) := by decide +kernel
theorem dX11_give_30 : decode cX11_give 30 = .ok (.iaload, 1) := by decide +kernel
theorem dX11_give_31 : decode cX11_give 31 = .ok (.ireturn, 1) := by decide +kernel
set_option maxRecDepth 20000 in
theorem ggX11_weeks_X7_earn : GoodIn wsX11_weeks wsX7_earn := goodIn_r _ [6, 7, 8, 9, 10, 11, 12, 13, 14, 15, 16, 17, 18, 19, 20, 21, 22, 23, 24, 25, 26, 27, 28, 29, 30, 31, 32, 33, 34, 35, 36, 37, 38, 39, 40, 41, 42, 43, 44, 45, 46, 47, 48, 49, 50, 51, 52, 53, 54, 55, 56, 57, 58, 59, 60, 61, 62, 63, 64, 65, 66, 67, 68, 84, 85, 86, 87, 88, 89, 90, 91, 92, 93, 94, 95] (by decide +kernel) (by decide +kernel)
set_option maxRecDepth 20000 in
theorem gX11_weeks_X7_earn : GoodIn wsX11_weeks (wsV RX11 140 RX7 yX7_earn wsX7_earn) := goodIn_app (goodIn_of _ (by decide +kernel)) ggX11_weeks_X7_earn
set_option maxRecDepth 20000 in
theorem ggX11_weeks_X7_allCoins : GoodIn wsX11_weeks wsX7_allCoins := goodIn_r _ [72, 7, 8, 84, 85, 86, 87] (by decide +kernel) (by decide +kernel)
set_option maxRecDepth 20000 in
theorem gX11_weeks_X7_allCoins : GoodIn wsX11_weeks (wsV RX11 143 RX7 yX7_allCoins wsX7_allCoins) := goodIn_app (goodIn_of _ (by decide +kernel)) ggX11_weeks_X7_allCoins
theorem dX11_weeks_0 : decode cX11_weeks 0 = .ok (.iload_n 1, 1) := by decide +kernel
theorem dX11_weeks_1 : decode cX11_weeks 1 = .ok (.iconst 1, 1) := by decide +kernel
theorem dX11_weeks_2 : decode cX11_weeks 2 = .ok (.if_icmp .lt 9, 3) := by decide +kernel
theorem dX11_weeks_5 : decode cX11_weeks 5 = .ok (.iload_n 1, 1) := by decide +kernel
theorem dX11_weeks_6 : decode cX11_weeks 6 = .ok (.bipush 99, 2) := by decide +kernel
theorem dX11_weeks_8 : decode cX11_weeks 8 = .ok (.if_icmp .le 5, 3) := by decide +kernel
theorem dX11_weeks_11 : decode cX11_weeks 11 = .ok (.iconst (-1), 1) := by decide +kernel
theorem dX11_weeks_12 : decode cX11_weeks 12 = .ok (.ireturn, 1) := by decide +kernel
theorem dX11_weeks_13 : decode cX11_weeks 13 = .ok (.aload_n 0, 1) := by decide +kernel
theorem dX11_weeks_14 : decode cX11_weeks 14 = .ok (.getfield 10, 3) := by decide +kernel
theorem dX11_weeks_17 : decode cX11_weeks 17 = .ok (.iload_n 1, 1) := by decide +kernel
theorem dX11_weeks_18 : decode cX11_weeks 18 = .ok (.invokevirtual 140, 3) := by decide +kernel
theorem dX11_weeks_21 : decode cX11_weeks 21 = .ok (.aload_n 0, 1) := by decide +kernel
theorem dX11_weeks_22 : decode cX11_weeks 22 = .ok (.getfield 10, 3) := by decide +kernel
theorem dX11_weeks_25 : decode cX11_weeks 25 = .ok (.invokevirtual 143, 3) := by decide +kernel
theorem dX11_weeks_28 : decode cX11_weeks 28 = .ok (.ireturn, 1) := by decide +kernel
set_option maxRecDepth 20000 in
theorem ggX11_lawful_X7_allBreaches : GoodIn wsX11_lawful wsX7_allBreaches := goodIn_r _ [6, 7, 8, 9, 10, 5, 11, 12, 13, 14, 15, 16, 17, 18, 19, 20, 21, 22, 23, 24, 25, 26, 27, 28, 29, 30, 31, 32, 33, 34, 35, 36, 37, 38, 39, 40, 41, 42, 43, 44, 45, 46, 47, 48, 49, 50, 51, 52, 53, 54, 55, 56, 57, 58, 59, 60, 61, 62, 63, 64, 65, 66, 67, 68, 69, 70, 71, 72, 73, 74, 75, 76, 77, 78, 79, 80, 81, 82, 83, 84, 85, 86, 87, 88, 89, 90, 91, 92, 93, 94, 95, 96, 97, 98, 99, 100, 101, 102, 103, 104, 105, 106, 107, 108, 109, 110, 111, 112, 113, 114, 115, 116, 117, 118, 119, 131, 132, 133, 134, 135, 136, 137, 138, 139, 140, 141, 142] (by decide +kernel) (by decide +kernel)
set_option maxRecDepth 20000 in
theorem gX11_lawful_X7_allBreaches : GoodIn wsX11_lawful (wsV RX11 146 RX7 yX7_allBreaches wsX7_allBreaches) := goodIn_app (goodIn_of _ (by decide +kernel)) ggX11_lawful_X7_allBreaches
theorem dX11_lawful_0 : decode cX11_lawful 0 = .ok (.aload_n 0, 1) := by decide +kernel
theorem dX11_lawful_1 : decode cX11_lawful 1 = .ok (.getfield 10, 3) := by decide +kernel
theorem dX11_lawful_4 : decode cX11_lawful 4 = .ok (.invokevirtual 146, 3) := by decide +kernel
theorem dX11_lawful_7 : decode cX11_lawful 7 = .ok (.ifCond .ne 7, 3) := by decide +kernel
theorem dX11_lawful_10 : decode cX11_lawful 10 = .ok (.iconst 1, 1) := by decide +kernel
theorem dX11_lawful_11 : decode cX11_lawful 11 = .ok (.goto 4, 3) := by decide +kernel
theorem dX11_lawful_14 : decode cX11_lawful 14 = .ok (.iconst 0, 1) := by decide +kernel
theorem dX11_lawful_15 : decode cX11_lawful 15 = .ok (.ireturn, 1) := by decide +kernel
set_option maxRecDepth 20000 in
theorem ggX11_breaches_X7_allBreaches : GoodIn wsX11_breaches wsX7_allBreaches := goodIn_r _ [6, 7, 8, 9, 10, 5, 11, 12, 13, 14, 15, 16, 17, 18, 19, 20, 21, 22, 23, 24, 25, 26, 27, 28, 29, 30, 31, 32, 33, 34, 35, 36, 37, 38, 39, 40, 41, 42, 43, 44, 45, 46, 47, 48, 49, 50, 51, 52, 53, 54, 55, 56, 57, 58, 59, 60, 61, 62, 63, 64, 65, 66, 67, 68, 69, 70, 71, 72, 73, 74, 75, 76, 77, 78, 79, 80, 81, 82, 83, 84, 85, 86, 87, 88, 89, 90, 91, 92, 93, 94, 95, 96, 97, 98, 99, 100, 101, 102, 103, 104, 105, 106, 107, 108, 109, 110, 111, 112, 113, 114, 115, 116, 117, 118, 119, 136, 137, 138, 139, 140, 141, 142, 143, 144, 145, 146, 147] (by decide +kernel) (by decide +kernel)
set_option maxRecDepth 20000 in
theorem gX11_breaches_X7_allBreaches : GoodIn wsX11_breaches (wsV RX11 146 RX7 yX7_allBreaches wsX7_allBreaches) := goodIn_app (goodIn_of _ (by decide +kernel)) ggX11_breaches_X7_allBreaches
set_option maxRecDepth 20000 in
theorem ggX11_breaches_X7_has : GoodIn wsX11_breaches wsX7_has := goodIn_r _ [123, 7, 136, 137, 138, 139] (by decide +kernel) (by decide +kernel)
set_option maxRecDepth 20000 in
theorem gX11_breaches_X7_has : GoodIn wsX11_breaches (wsV RX11 89 RX7 yX7_has wsX7_has) := goodIn_app (goodIn_of _ (by decide +kernel)) ggX11_breaches_X7_has
set_option maxRecDepth 20000 in
theorem ggX11_breaches_X7_breachesOf : GoodIn wsX11_breaches wsX7_breachesOf := goodIn_r _ [11, 12, 13, 14, 15, 5, 16, 7, 17, 18, 19, 20, 21, 22, 23, 24, 25, 26, 27, 28, 29, 30, 31, 32, 33, 34, 35, 36, 37, 38, 39, 40, 41, 42, 43, 44, 45, 46, 47, 48, 49, 50, 51, 52, 53, 54, 55, 56, 57, 58, 59, 60, 61, 62, 63, 64, 65, 66, 67, 68, 69, 70, 71, 72, 73, 74, 75, 76, 77, 78, 79, 80, 81, 82, 83, 84, 85, 86, 87, 88, 89, 90, 91, 92, 93, 94, 95, 96, 97, 98, 99, 100, 101, 102, 103, 104, 105, 106, 107, 108, 109, 110, 111, 112, 113, 114, 115, 116, 117, 118, 119, 136, 137, 138, 139, 140, 141, 142, 143, 144, 145, 146, 147] (by decide +kernel) (by decide +kernel)
set_option maxRecDepth 20000 in
theorem gX11_breaches_X7_breachesOf : GoodIn wsX11_breaches (wsV RX11 149 RX7 yX7_breachesOf wsX7_breachesOf) := goodIn_app (goodIn_of _ (by decide +kernel)) ggX11_breaches_X7_breachesOf
theorem dX11_breaches_0 : decode cX11_breaches 0 = .ok (.iload_n 1, 1) := by decide +kernel
theorem dX11_breaches_1 : decode cX11_breaches 1 = .ok (.iconst (-1), 1) := by decide +kernel
theorem dX11_breaches_2 : decode cX11_breaches 2 = .ok (.if_icmp .ne 11, 3) := by decide +kernel
theorem dX11_breaches_5 : decode cX11_breaches 5 = .ok (.aload_n 0, 1) := by decide +kernel
theorem dX11_breaches_6 : decode cX11_breaches 6 = .ok (.getfield 10, 3) := by decide +kernel
theorem dX11_breaches_9 : decode cX11_breaches 9 = .ok (.invokevirtual 146, 3) := by decide +kernel
theorem dX11_breaches_12 : decode cX11_breaches 12 = .ok (.ireturn, 1) := by decide +kernel
theorem dX11_breaches_13 : decode cX11_breaches 13 = .ok (.aload_n 0, 1) := by decide +kernel
theorem dX11_breaches_14 : decode cX11_breaches 14 = .ok (.getfield 10, 3) := by decide +kernel
theorem dX11_breaches_17 : decode cX11_breaches 17 = .ok (.iload_n 1, 1) := by decide +kernel
theorem dX11_breaches_18 : decode cX11_breaches 18 = .ok (.invokevirtual 89, 3) := by decide +kernel
theorem dX11_breaches_21 : decode cX11_breaches 21 = .ok (.ifCond .eq 14, 3) := by decide +kernel
theorem dX11_breaches_24 : decode cX11_breaches 24 = .ok (.aload_n 0, 1) := by decide +kernel
theorem dX11_breaches_25 : decode cX11_breaches 25 = .ok (.getfield 10, 3) := by decide +kernel
theorem dX11_breaches_28 : decode cX11_breaches 28 = .ok (.iload_n 1, 1) := by decide +kernel
theorem dX11_breaches_29 : decode cX11_breaches 29 = .ok (.invokevirtual 149, 3) := by decide +kernel
theorem dX11_breaches_32 : decode cX11_breaches 32 = .ok (.goto 4, 3) := by decide +kernel
theorem dX11_breaches_35 : decode cX11_breaches 35 = .ok (.iconst (-1), 1) := by decide +kernel
theorem dX11_breaches_36 : decode cX11_breaches 36 = .ok (.ireturn, 1) := by decide +kernel
set_option maxRecDepth 20000 in
theorem ggX11_held_X7_has : GoodIn wsX11_held wsX7_has := goodIn_r _ [6, 7, 131, 132, 133, 134] (by decide +kernel) (by decide +kernel)
set_option maxRecDepth 20000 in
theorem gX11_held_X7_has : GoodIn wsX11_held (wsV RX11 89 RX7 yX7_has wsX7_has) := goodIn_app (goodIn_of _ (by decide +kernel)) ggX11_held_X7_has
set_option maxRecDepth 20000 in
theorem ggX11_held_X7_holdersOf : GoodIn wsX11_held wsX7_holdersOf := goodIn_r _ [11, 12, 13, 14, 15, 5, 16, 7, 17, 18, 19, 20, 21, 22, 23, 24, 25, 26, 27, 28, 29, 30, 31, 32, 33, 34, 35, 36, 37, 38, 39, 40, 41, 42, 43, 44, 45, 46, 47, 48, 49, 50, 51, 52, 53, 54, 55, 56, 57, 58, 59, 60, 61, 62, 63, 64, 65, 66, 67, 68, 69, 70, 71, 72, 73, 74, 75, 76, 77, 78, 79, 80, 81, 82, 83, 84, 85, 86, 87, 88, 89, 90, 91, 92, 93, 94, 95, 96, 97, 98, 99, 100, 101, 102, 103, 104, 105, 106, 107, 108, 109, 110, 111, 112, 113, 114, 115, 116, 117, 118, 119, 131, 132, 133, 134, 135, 136, 137, 138, 139, 140, 141, 142] (by decide +kernel) (by decide +kernel)
set_option maxRecDepth 20000 in
theorem gX11_held_X7_holdersOf : GoodIn wsX11_held (wsV RX11 152 RX7 yX7_holdersOf wsX7_holdersOf) := goodIn_app (goodIn_of _ (by decide +kernel)) ggX11_held_X7_holdersOf
theorem dX11_held_0 : decode cX11_held 0 = .ok (.aload_n 0, 1) := by decide +kernel
theorem dX11_held_1 : decode cX11_held 1 = .ok (.getfield 10, 3) := by decide +kernel
theorem dX11_held_4 : decode cX11_held 4 = .ok (.iload_n 1, 1) := by decide +kernel
theorem dX11_held_5 : decode cX11_held 5 = .ok (.invokevirtual 89, 3) := by decide +kernel
theorem dX11_held_8 : decode cX11_held 8 = .ok (.ifCond .eq 14, 3) := by decide +kernel
theorem dX11_held_11 : decode cX11_held 11 = .ok (.aload_n 0, 1) := by decide +kernel
theorem dX11_held_12 : decode cX11_held 12 = .ok (.getfield 10, 3) := by decide +kernel
theorem dX11_held_15 : decode cX11_held 15 = .ok (.iload_n 1, 1) := by decide +kernel
theorem dX11_held_16 : decode cX11_held 16 = .ok (.invokevirtual 152, 3) := by decide +kernel
theorem dX11_held_19 : decode cX11_held 19 = .ok (.goto 4, 3) := by decide +kernel
theorem dX11_held_22 : decode cX11_held 22 = .ok (.iconst (-1), 1) := by decide +kernel
theorem dX11_held_23 : decode cX11_held 23 = .ok (.ireturn, 1) := by decide +kernel
set_option maxRecDepth 20000 in
theorem ggX11_free_X7_holdersOf : GoodIn wsX11_free wsX7_holdersOf := goodIn_r _ [8, 9, 10, 11, 12, 7, 13, 14, 15, 16, 17, 18, 19, 20, 21, 22, 23, 24, 25, 26, 27, 28, 29, 30, 31, 32, 33, 34, 35, 36, 37, 38, 39, 40, 41, 42, 43, 44, 45, 46, 47, 48, 49, 50, 51, 52, 53, 54, 55, 56, 57, 58, 59, 60, 61, 62, 63, 64, 65, 66, 67, 68, 69, 70, 71, 72, 73, 74, 75, 76, 77, 78, 79, 80, 81, 82, 83, 84, 85, 86, 87, 88, 89, 90, 91, 92, 93, 94, 95, 96, 97, 98, 99, 100, 101, 102, 103, 104, 105, 106, 107, 108, 109, 110, 111, 112, 113, 114, 115, 116, 117, 129, 130, 131, 132, 133, 134, 135, 136, 137, 138, 139, 140] (by decide +kernel) (by decide +kernel)
set_option maxRecDepth 20000 in
theorem gX11_free_X7_holdersOf : GoodIn wsX11_free (wsV RX11 152 RX7 yX7_holdersOf wsX7_holdersOf) := goodIn_app (goodIn_of _ (by decide +kernel)) ggX11_free_X7_holdersOf
theorem dX11_free_0 : decode cX11_free 0 = .ok (.iconst 0, 1) := by decide +kernel
theorem dX11_free_1 : decode cX11_free 1 = .ok (.istore_n 1, 1) := by decide +kernel
theorem dX11_free_2 : decode cX11_free 2 = .ok (.iconst 0, 1) := by decide +kernel
theorem dX11_free_3 : decode cX11_free 3 = .ok (.istore_n 2, 1) := by decide +kernel
theorem dX11_free_4 : decode cX11_free 4 = .ok (.iload_n 2, 1) := by decide +kernel
theorem dX11_free_5 : decode cX11_free 5 = .ok (.aload_n 0, 1) := by decide +kernel
theorem dX11_free_6 : decode cX11_free 6 = .ok (.getfield 10, 3) := by decide +kernel
theorem dX11_free_9 : decode cX11_free 9 = .ok (.getfield 126, 3) := by decide +kernel
theorem dX11_free_12 : decode cX11_free 12 = .ok (.if_icmp .ge 41, 3) := by decide +kernel
theorem dX11_free_15 : decode cX11_free 15 = .ok (.aload_n 0, 1) := by decide +kernel
theorem dX11_free_16 : decode cX11_free 16 = .ok (.getfield 10, 3) := by decide +kernel
theorem dX11_free_19 : decode cX11_free 19 = .ok (.getfield 103, 3) := by decide +kernel
theorem dX11_free_22 : decode cX11_free 22 = .ok (.iload_n 2, 1) := by decide +kernel
theorem dX11_free_23 : decode cX11_free 23 = .ok (.iaload, 1) := by decide +kernel
theorem dX11_free_24 : decode cX11_free 24 = .ok (.sipush 9999, 3) := by decide +kernel
theorem dX11_free_27 : decode cX11_free 27 = .ok (.if_icmp .ge 20, 3) := by decide +kernel
theorem dX11_free_30 : decode cX11_free 30 = .ok (.aload_n 0, 1) := by decide +kernel
theorem dX11_free_31 : decode cX11_free 31 = .ok (.getfield 10, 3) := by decide +kernel
theorem dX11_free_34 : decode cX11_free 34 = .ok (.iload_n 2, 1) := by decide +kernel
theorem dX11_free_35 : decode cX11_free 35 = .ok (.invokevirtual 152, 3) := by decide +kernel
theorem dX11_free_38 : decode cX11_free 38 = .ok (.ifCond .ne 9, 3) := by decide +kernel
theorem dX11_free_41 : decode cX11_free 41 = .ok (.iload_n 1, 1) := by decide +kernel
theorem dX11_free_42 : decode cX11_free 42 = .ok (.iconst 1, 1) := by decide +kernel
theorem dX11_free_43 : decode cX11_free 43 = .ok (.iload_n 2, 1) := by decide +kernel
theorem dX11_free_44 : decode cX11_free 44 = .ok (.ishl, 1) := by decide +kernel
theorem dX11_free_45 : decode cX11_free 45 = .ok (.ior, 1) := by decide +kernel
theorem dX11_free_46 : decode cX11_free 46 = .ok (.istore_n 1, 1) := by decide +kernel
theorem dX11_free_47 : decode cX11_free 47 = .ok (.iinc 2 1, 3) := by decide +kernel
theorem dX11_free_50 : decode cX11_free 50 = .ok (.goto (-46), 3) := by decide +kernel
theorem dX11_free_53 : decode cX11_free 53 = .ok (.iload_n 1, 1) := by decide +kernel
theorem dX11_free_54 : decode cX11_free 54 = .ok (.ireturn, 1) := by decide +kernel
set_option maxRecDepth 20000 in
theorem ggX11_partings_X11_partingRefusal : GoodIn wsX11_partings wsX11_partingRefusal := goodIn_r _ [8, 2, 9, 183, 184, 185, 186, 187, 188, 189, 190, 191, 192, 193, 202, 203, 204, 205] (by decide +kernel) (by decide +kernel)
set_option maxRecDepth 20000 in
theorem gX11_partings_X11_partingRefusal : GoodIn wsX11_partings (wsV RX11 155 RX11 yX11_partingRefusal wsX11_partingRefusal) := goodIn_app (goodIn_of _ (by decide +kernel)) ggX11_partings_X11_partingRefusal
set_option maxRecDepth 20000 in
theorem ggX11_partings_X5_search : GoodIn wsX11_partings wsX5_search := goodIn_r _ [14, 15, 16, 17, 18, 19, 20, 21, 22, 23, 24, 25, 26, 27, 28, 29, 30, 31, 32, 33, 34, 35, 36, 37, 38, 39, 40, 41, 42, 43, 44, 45, 46, 47, 48, 49, 50, 51, 13, 52, 53, 54, 55, 56, 57, 58, 59, 60, 61, 62, 63, 64, 65, 66, 67, 68, 69, 70, 71, 72, 73, 74, 75, 76, 77, 78, 79, 80, 81, 82, 83, 84, 85, 86, 87, 88, 89, 90, 91, 92, 93, 94, 95, 96, 97, 98, 99, 100, 101, 102, 103, 104, 105, 106, 107, 108, 109, 110, 111, 112, 113, 114, 115, 116, 117, 118, 119, 120, 121, 122, 123, 124, 125, 126, 127, 128, 129, 130, 131, 132, 133, 134, 135, 136, 137, 138, 139, 140, 141, 142, 143, 144, 145, 146, 147, 148, 149, 150, 151, 152, 153, 154, 155, 156, 157, 158, 159, 160, 161, 162, 163, 164, 165, 166, 167, 168, 169, 170, 171, 172, 173, 174, 175, 176, 177, 178, 179, 180, 181, 182, 194, 195, 196, 197, 198, 199, 200, 201, 202, 203, 204, 205, 206, 207, 208, 209, 210, 211, 212, 213] (by decide +kernel) (by decide +kernel)
set_option maxRecDepth 20000 in
theorem gX11_partings_X5_search : GoodIn wsX11_partings (wsV RX11 158 RX5 yX5_search wsX5_search) := goodIn_app (goodIn_of _ (by decide +kernel)) ggX11_partings_X5_search
theorem dX11_partings_0 : decode cX11_partings 0 = .ok (.aload_n 0, 1) := by decide +kernel
theorem dX11_partings_1 : decode cX11_partings 1 = .ok (.iload_n 1, 1) := by decide +kernel
theorem dX11_partings_2 : decode cX11_partings 2 = .ok (.invokevirtual 155, 3) := by decide +kernel
theorem dX11_partings_5 : decode cX11_partings 5 = .ok (.istore_n 2, 1) := by decide +kernel
theorem dX11_partings_6 : decode cX11_partings 6 = .ok (.iload_n 2, 1) := by decide +kernel
theorem dX11_partings_7 : decode cX11_partings 7 = .ok (.ifCond .eq 5, 3) := by decide +kernel
theorem dX11_partings_10 : decode cX11_partings 10 = .ok (.iload_n 2, 1) := by decide +kernel
theorem dX11_partings_11 : decode cX11_partings 11 = .ok (.ireturn, 1) := by decide +kernel
theorem dX11_partings_12 : decode cX11_partings 12 = .ok (.aload_n 0, 1) := by decide +kernel
theorem dX11_partings_13 : decode cX11_partings 13 = .ok (.getfield 34, 3) := by decide +kernel
theorem dX11_partings_16 : decode cX11_partings 16 = .ok (.aload_n 0, 1) := by decide +kernel
theorem dX11_partings_17 : decode cX11_partings 17 = .ok (.getfield 10, 3) := by decide +kernel
theorem dX11_partings_20 : decode cX11_partings 20 = .ok (.iload_n 1, 1) := by decide +kernel
theorem dX11_partings_21 : decode cX11_partings 21 = .ok (.invokevirtual 158, 3) := by decide +kernel
theorem dX11_partings_24 : decode cX11_partings 24 = .ok (.aload_n 0, 1) := by decide +kernel
theorem dX11_partings_25 : decode cX11_partings 25 = .ok (.getfield 34, 3) := by decide +kernel
theorem dX11_partings_28 : decode cX11_partings 28 = .ok (.getfield 162, 3) := by decide +kernel
theorem dX11_partings_31 : decode cX11_partings 31 = .ok (.ireturn, 1) := by decide +kernel
set_option maxRecDepth 20000 in
theorem ggX11_uneven_X11_partingRefusal : GoodIn wsX11_uneven wsX11_partingRefusal := goodIn_r _ [9, 2, 10, 184, 185, 186, 187, 188, 189, 190, 191, 192, 193, 194, 203, 204, 205, 206] (by decide +kernel) (by decide +kernel)
set_option maxRecDepth 20000 in
theorem gX11_uneven_X11_partingRefusal : GoodIn wsX11_uneven (wsV RX11 155 RX11 yX11_partingRefusal wsX11_partingRefusal) := goodIn_app (goodIn_of _ (by decide +kernel)) ggX11_uneven_X11_partingRefusal
set_option maxRecDepth 20000 in
theorem ggX11_uneven_X5_search : GoodIn wsX11_uneven wsX5_search := goodIn_r _ [15, 16, 17, 18, 19, 20, 21, 22, 23, 24, 25, 26, 27, 28, 29, 30, 31, 32, 33, 34, 35, 36, 37, 38, 39, 40, 41, 42, 43, 44, 45, 46, 47, 48, 49, 50, 51, 52, 14, 53, 54, 55, 56, 57, 58, 59, 60, 61, 62, 63, 64, 65, 66, 67, 68, 69, 70, 71, 72, 73, 74, 75, 76, 77, 78, 79, 80, 81, 82, 83, 84, 85, 86, 87, 88, 89, 90, 91, 92, 93, 94, 95, 96, 97, 98, 99, 100, 101, 102, 103, 104, 105, 106, 107, 108, 109, 110, 111, 112, 113, 114, 115, 116, 117, 118, 119, 120, 121, 122, 123, 124, 125, 126, 127, 128, 129, 130, 131, 132, 133, 134, 135, 136, 137, 138, 139, 140, 141, 142, 143, 144, 145, 146, 147, 148, 149, 150, 151, 152, 153, 154, 155, 156, 157, 158, 159, 160, 161, 162, 163, 164, 165, 166, 167, 168, 169, 170, 171, 172, 173, 174, 175, 176, 177, 178, 179, 180, 181, 182, 183, 195, 196, 197, 198, 199, 200, 201, 202, 203, 204, 205, 206, 207, 208, 209, 210, 211, 212, 213, 214] (by decide +kernel) (by decide +kernel)
set_option maxRecDepth 20000 in
theorem gX11_uneven_X5_search : GoodIn wsX11_uneven (wsV RX11 158 RX5 yX5_search wsX5_search) := goodIn_app (goodIn_of _ (by decide +kernel)) ggX11_uneven_X5_search
theorem dX11_uneven_0 : decode cX11_uneven 0 = .ok (.aload_n 0, 1) := by decide +kernel
theorem dX11_uneven_1 : decode cX11_uneven 1 = .ok (.iload_n 1, 1) := by decide +kernel
theorem dX11_uneven_2 : decode cX11_uneven 2 = .ok (.invokevirtual 155, 3) := by decide +kernel
theorem dX11_uneven_5 : decode cX11_uneven 5 = .ok (.istore_n 2, 1) := by decide +kernel
theorem dX11_uneven_6 : decode cX11_uneven 6 = .ok (.iload_n 2, 1) := by decide +kernel
theorem dX11_uneven_7 : decode cX11_uneven 7 = .ok (.ifCond .eq 5, 3) := by decide +kernel
theorem dX11_uneven_10 : decode cX11_uneven 10 = .ok (.iload_n 2, 1) := by decide +kernel
theorem dX11_uneven_11 : decode cX11_uneven 11 = .ok (.ireturn, 1) := by decide +kernel
theorem dX11_uneven_12 : decode cX11_uneven 12 = .ok (.aload_n 0, 1) := by decide +kernel
theorem dX11_uneven_13 : decode cX11_uneven 13 = .ok (.getfield 34, 3) := by decide +kernel
theorem dX11_uneven_16 : decode cX11_uneven 16 = .ok (.aload_n 0, 1) := by decide +kernel
theorem dX11_uneven_17 : decode cX11_uneven 17 = .ok (.getfield 10, 3) := by decide +kernel
theorem dX11_uneven_20 : decode cX11_uneven 20 = .ok (.iload_n 1, 1) := by decide +kernel
theorem dX11_uneven_21 : decode cX11_uneven 21 = .ok (.invokevirtual 158, 3) := by decide +kernel
theorem dX11_uneven_24 : decode cX11_uneven 24 = .ok (.aload_n 0, 1) := by decide +kernel
theorem dX11_uneven_25 : decode cX11_uneven 25 = .ok (.getfield 34, 3) := by decide +kernel
theorem dX11_uneven_28 : decode cX11_uneven 28 = .ok (.getfield 162, 3) := by decide +kernel
theorem dX11_uneven_31 : decode cX11_uneven 31 = .ok (.ifCond .ne 8, 3) := by decide +kernel
theorem dX11_uneven_34 : decode cX11_uneven 34 = .ok (.bipush (-4), 2) := by decide +kernel
theorem dX11_uneven_36 : decode cX11_uneven 36 = .ok (.goto 10, 3) := by decide +kernel
theorem dX11_uneven_39 : decode cX11_uneven 39 = .ok (.aload_n 0, 1) := by decide +kernel
theorem dX11_uneven_40 : decode cX11_uneven 40 = .ok (.getfield 34, 3) := by decide +kernel
theorem dX11_uneven_43 : decode cX11_uneven 43 = .ok (.getfield 165, 3) := by decide +kernel
theorem dX11_uneven_46 : decode cX11_uneven 46 = .ok (.ireturn, 1) := by decide +kernel
set_option maxRecDepth 20000 in
theorem ggX11_richest_X7_has : GoodIn wsX11_richest wsX7_has := goodIn_r _ [9, 10, 207, 208, 209, 210] (by decide +kernel) (by decide +kernel)
set_option maxRecDepth 20000 in
theorem gX11_richest_X7_has : GoodIn wsX11_richest (wsV RX11 89 RX7 yX7_has wsX7_has) := goodIn_app (goodIn_of _ (by decide +kernel)) ggX11_richest_X7_has
set_option maxRecDepth 20000 in
theorem ggX11_richest_X11_partingRefusal : GoodIn wsX11_richest wsX11_partingRefusal := goodIn_r _ [15, 1, 16, 188, 189, 190, 191, 192, 193, 194, 195, 196, 197, 198, 207, 208, 209, 210] (by decide +kernel) (by decide +kernel)
set_option maxRecDepth 20000 in
theorem gX11_richest_X11_partingRefusal : GoodIn wsX11_richest (wsV RX11 155 RX11 yX11_partingRefusal wsX11_partingRefusal) := goodIn_app (goodIn_of _ (by decide +kernel)) ggX11_richest_X11_partingRefusal
set_option maxRecDepth 20000 in
theorem ggX11_richest_X5_search : GoodIn wsX11_richest wsX5_search := goodIn_r _ [21, 22, 23, 24, 25, 26, 27, 28, 29, 30, 31, 32, 33, 34, 35, 36, 37, 38, 39, 40, 41, 8, 42, 43, 44, 10, 45, 46, 47, 48, 49, 50, 51, 52, 53, 54, 55, 56, 20, 57, 58, 59, 60, 61, 62, 63, 64, 65, 66, 67, 68, 69, 70, 71, 72, 73, 74, 75, 76, 77, 78, 79, 80, 81, 82, 83, 84, 85, 86, 87, 88, 89, 90, 91, 92, 93, 94, 95, 96, 97, 98, 99, 100, 101, 102, 103, 104, 105, 106, 107, 108, 109, 110, 111, 112, 113, 114, 115, 116, 117, 118, 119, 120, 121, 122, 123, 124, 125, 126, 127, 128, 129, 130, 131, 132, 133, 134, 135, 136, 137, 138, 139, 140, 141, 142, 143, 144, 145, 146, 147, 148, 149, 150, 151, 152, 153, 154, 155, 156, 157, 158, 159, 160, 161, 162, 163, 164, 165, 166, 167, 168, 169, 170, 171, 172, 173, 174, 175, 176, 177, 178, 179, 180, 181, 182, 183, 184, 185, 186, 187, 199, 200, 201, 202, 203, 204, 205, 206, 207, 208, 209, 210, 211, 212, 213, 214, 215, 216, 217, 218] (by decide +kernel) (by decide +kernel)
set_option maxRecDepth 20000 in
theorem gX11_richest_X5_search : GoodIn wsX11_richest (wsV RX11 158 RX5 yX5_search wsX5_search) := goodIn_app (goodIn_of _ (by decide +kernel)) ggX11_richest_X5_search
theorem dX11_richest_0 : decode cX11_richest 0 = .ok (.aload_n 0, 1) := by decide +kernel
theorem dX11_richest_1 : decode cX11_richest 1 = .ok (.getfield 10, 3) := by decide +kernel
theorem dX11_richest_4 : decode cX11_richest 4 = .ok (.iload_n 2, 1) := by decide +kernel
theorem dX11_richest_5 : decode cX11_richest 5 = .ok (.invokevirtual 89, 3) := by decide +kernel
theorem dX11_richest_8 : decode cX11_richest 8 = .ok (.ifCond .ne 5, 3) := by decide +kernel
theorem dX11_richest_11 : decode cX11_richest 11 = .ok (.iconst (-1), 1) := by decide +kernel
theorem dX11_richest_12 : decode cX11_richest 12 = .ok (.ireturn, 1) := by decide +kernel
theorem dX11_richest_13 : decode cX11_richest 13 = .ok (.aload_n 0, 1) := by decide +kernel
theorem dX11_richest_14 : decode cX11_richest 14 = .ok (.iload_n 1, 1) := by decide +kernel
theorem dX11_richest_15 : decode cX11_richest 15 = .ok (.invokevirtual 155, 3) := by decide +kernel
theorem dX11_richest_18 : decode cX11_richest 18 = .ok (.istore_n 3, 1) := by decide +kernel
theorem dX11_richest_19 : decode cX11_richest 19 = .ok (.iload_n 3, 1) := by decide +kernel
theorem dX11_richest_20 : decode cX11_richest 20 = .ok (.ifCond .eq 5, 3) := by decide +kernel
theorem dX11_richest_23 : decode cX11_richest 23 = .ok (.iload_n 3, 1) := by decide +kernel
theorem dX11_richest_24 : decode cX11_richest 24 = .ok (.ireturn, 1) := by decide +kernel
theorem dX11_richest_25 : decode cX11_richest 25 = .ok (.aload_n 0, 1) := by decide +kernel
theorem dX11_richest_26 : decode cX11_richest 26 = .ok (.getfield 34, 3) := by decide +kernel
theorem dX11_richest_29 : decode cX11_richest 29 = .ok (.aload_n 0, 1) := by decide +kernel
theorem dX11_richest_30 : decode cX11_richest 30 = .ok (.getfield 10, 3) := by decide +kernel
theorem dX11_richest_33 : decode cX11_richest 33 = .ok (.iload_n 1, 1) := by decide +kernel
theorem dX11_richest_34 : decode cX11_richest 34 = .ok (.invokevirtual 158, 3) := by decide +kernel
theorem dX11_richest_37 : decode cX11_richest 37 = .ok (.aload_n 0, 1) := by decide +kernel
theorem dX11_richest_38 : decode cX11_richest 38 = .ok (.getfield 34, 3) := by decide +kernel
theorem dX11_richest_41 : decode cX11_richest 41 = .ok (.getfield 162, 3) := by decide +kernel
theorem dX11_richest_44 : decode cX11_richest 44 = .ok (.ifCond .ne 8, 3) := by decide +kernel
theorem dX11_richest_47 : decode cX11_richest 47 = .ok (.bipush (-4), 2) := by decide +kernel
theorem dX11_richest_49 : decode cX11_richest 49 = .ok (.goto 12, 3) := by decide +kernel
theorem dX11_richest_52 : decode cX11_richest 52 = .ok (.aload_n 0, 1) := by decide +kernel
theorem dX11_richest_53 : decode cX11_richest 53 = .ok (.getfield 34, 3) := by decide +kernel
theorem dX11_richest_56 : decode cX11_richest 56 = .ok (.getfield 168, 3) := by decide +kernel
theorem dX11_richest_59 : decode cX11_richest 59 = .ok (.iload_n 2, 1) := by decide +kernel
theorem dX11_richest_60 : decode cX11_richest 60 = .ok (.iaload, 1) := by decide +kernel
theorem dX11_richest_61 : decode cX11_richest 61 = .ok (.ireturn, 1) := by decide +kernel
set_option maxRecDepth 20000 in
theorem ggX11_hands_X11_canBeParted : GoodIn wsX11_hands wsX11_canBeParted := goodIn_r _ [9, 2, 10, 11, 12, 13, 14, 15, 16, 17, 188, 189, 190, 191, 192, 193, 194, 195, 196, 197, 198, 207, 208, 209, 210] (by decide +kernel) (by decide +kernel)
set_option maxRecDepth 20000 in
theorem gX11_hands_X11_canBeParted : GoodIn wsX11_hands (wsV RX11 171 RX11 yX11_canBeParted wsX11_canBeParted) := goodIn_app (goodIn_of _ (by decide +kernel)) ggX11_hands_X11_canBeParted
set_option maxRecDepth 20000 in
theorem ggX11_hands_X7_allCoins : GoodIn wsX11_hands wsX7_allCoins := goodIn_r _ [15, 16, 17, 207, 208, 209, 210] (by decide +kernel) (by decide +kernel)
set_option maxRecDepth 20000 in
theorem gX11_hands_X7_allCoins : GoodIn wsX11_hands (wsV RX11 143 RX7 yX7_allCoins wsX7_allCoins) := goodIn_app (goodIn_of _ (by decide +kernel)) ggX11_hands_X7_allCoins
set_option maxRecDepth 20000 in
theorem ggX11_hands_X5_search : GoodIn wsX11_hands wsX5_search := goodIn_r _ [22, 23, 24, 25, 26, 27, 28, 29, 30, 31, 32, 33, 34, 35, 36, 37, 38, 39, 40, 41, 42, 14, 43, 44, 17, 16, 45, 46, 47, 48, 49, 50, 51, 52, 53, 54, 55, 56, 21, 57, 58, 59, 60, 61, 62, 63, 64, 65, 66, 67, 68, 69, 70, 71, 72, 73, 74, 75, 76, 77, 78, 79, 80, 81, 82, 83, 84, 85, 86, 87, 88, 89, 90, 91, 92, 93, 94, 95, 96, 97, 98, 99, 100, 101, 102, 103, 104, 105, 106, 107, 108, 109, 110, 111, 112, 113, 114, 115, 116, 117, 118, 119, 120, 121, 122, 123, 124, 125, 126, 127, 128, 129, 130, 131, 132, 133, 134, 135, 136, 137, 138, 139, 140, 141, 142, 143, 144, 145, 146, 147, 148, 149, 150, 151, 152, 153, 154, 155, 156, 157, 158, 159, 160, 161, 162, 163, 164, 165, 166, 167, 168, 169, 170, 171, 172, 173, 174, 175, 176, 177, 178, 179, 180, 181, 182, 183, 184, 185, 186, 187, 199, 200, 201, 202, 203, 204, 205, 206, 207, 208, 209, 210, 211, 212, 213, 214, 215, 216, 217, 218] (by decide +kernel) (by decide +kernel)
set_option maxRecDepth 20000 in
theorem gX11_hands_X5_search : GoodIn wsX11_hands (wsV RX11 158 RX5 yX5_search wsX5_search) := goodIn_app (goodIn_of _ (by decide +kernel)) ggX11_hands_X5_search
theorem dX11_hands_0 : decode cX11_hands 0 = .ok (.aload_n 0, 1) := by decide +kernel
theorem dX11_hands_1 : decode cX11_hands 1 = .ok (.invokevirtual 171, 3) := by decide +kernel
theorem dX11_hands_4 : decode cX11_hands 4 = .ok (.ifCond .ne 6, 3) := by decide +kernel
theorem dX11_hands_7 : decode cX11_hands 7 = .ok (.bipush (-3), 2) := by decide +kernel
theorem dX11_hands_9 : decode cX11_hands 9 = .ok (.ireturn, 1) := by decide +kernel
theorem dX11_hands_10 : decode cX11_hands 10 = .ok (.aload_n 0, 1) := by decide +kernel
theorem dX11_hands_11 : decode cX11_hands 11 = .ok (.getfield 34, 3) := by decide +kernel
theorem dX11_hands_14 : decode cX11_hands 14 = .ok (.aload_n 0, 1) := by decide +kernel
theorem dX11_hands_15 : decode cX11_hands 15 = .ok (.getfield 10, 3) := by decide +kernel
theorem dX11_hands_18 : decode cX11_hands 18 = .ok (.aload_n 0, 1) := by decide +kernel
theorem dX11_hands_19 : decode cX11_hands 19 = .ok (.getfield 10, 3) := by decide +kernel
theorem dX11_hands_22 : decode cX11_hands 22 = .ok (.invokevirtual 143, 3) := by decide +kernel
theorem dX11_hands_25 : decode cX11_hands 25 = .ok (.invokevirtual 158, 3) := by decide +kernel
theorem dX11_hands_28 : decode cX11_hands 28 = .ok (.aload_n 0, 1) := by decide +kernel
theorem dX11_hands_29 : decode cX11_hands 29 = .ok (.getfield 34, 3) := by decide +kernel
theorem dX11_hands_32 : decode cX11_hands 32 = .ok (.getfield 162, 3) := by decide +kernel
theorem dX11_hands_35 : decode cX11_hands 35 = .ok (.ifCond .ne 8, 3) := by decide +kernel
theorem dX11_hands_38 : decode cX11_hands 38 = .ok (.bipush (-4), 2) := by decide +kernel
theorem dX11_hands_40 : decode cX11_hands 40 = .ok (.goto 10, 3) := by decide +kernel
theorem dX11_hands_43 : decode cX11_hands 43 = .ok (.aload_n 0, 1) := by decide +kernel
theorem dX11_hands_44 : decode cX11_hands 44 = .ok (.getfield 34, 3) := by decide +kernel
theorem dX11_hands_47 : decode cX11_hands 47 = .ok (.getfield 174, 3) := by decide +kernel
theorem dX11_hands_50 : decode cX11_hands 50 = .ok (.ireturn, 1) := by decide +kernel
set_option maxRecDepth 20000 in
theorem ggX11_any_X11_canBeParted : GoodIn wsX11_any wsX11_canBeParted := goodIn_r _ [9, 2, 10, 11, 12, 13, 14, 15, 16, 17, 188, 189, 190, 191, 192, 193, 194, 195, 196, 197, 198, 207, 208, 209, 210] (by decide +kernel) (by decide +kernel)
set_option maxRecDepth 20000 in
theorem gX11_any_X11_canBeParted : GoodIn wsX11_any (wsV RX11 171 RX11 yX11_canBeParted wsX11_canBeParted) := goodIn_app (goodIn_of _ (by decide +kernel)) ggX11_any_X11_canBeParted
set_option maxRecDepth 20000 in
theorem ggX11_any_X7_allCoins : GoodIn wsX11_any wsX7_allCoins := goodIn_r _ [15, 16, 17, 207, 208, 209, 210] (by decide +kernel) (by decide +kernel)
set_option maxRecDepth 20000 in
theorem gX11_any_X7_allCoins : GoodIn wsX11_any (wsV RX11 143 RX7 yX7_allCoins wsX7_allCoins) := goodIn_app (goodIn_of _ (by decide +kernel)) ggX11_any_X7_allCoins
set_option maxRecDepth 20000 in
theorem ggX11_any_X5_search : GoodIn wsX11_any wsX5_search := goodIn_r _ [22, 23, 24, 25, 26, 27, 28, 29, 30, 31, 32, 33, 34, 35, 36, 37, 38, 39, 40, 41, 42, 14, 43, 44, 17, 16, 45, 46, 47, 48, 49, 50, 51, 52, 53, 54, 55, 56, 21, 57, 58, 59, 60, 61, 62, 63, 64, 65, 66, 67, 68, 69, 70, 71, 72, 73, 74, 75, 76, 77, 78, 79, 80, 81, 82, 83, 84, 85, 86, 87, 88, 89, 90, 91, 92, 93, 94, 95, 96, 97, 98, 99, 100, 101, 102, 103, 104, 105, 106, 107, 108, 109, 110, 111, 112, 113, 114, 115, 116, 117, 118, 119, 120, 121, 122, 123, 124, 125, 126, 127, 128, 129, 130, 131, 132, 133, 134, 135, 136, 137, 138, 139, 140, 141, 142, 143, 144, 145, 146, 147, 148, 149, 150, 151, 152, 153, 154, 155, 156, 157, 158, 159, 160, 161, 162, 163, 164, 165, 166, 167, 168, 169, 170, 171, 172, 173, 174, 175, 176, 177, 178, 179, 180, 181, 182, 183, 184, 185, 186, 187, 199, 200, 201, 202, 203, 204, 205, 206, 207, 208, 209, 210, 211, 212, 213, 214, 215, 216, 217, 218] (by decide +kernel) (by decide +kernel)
set_option maxRecDepth 20000 in
theorem gX11_any_X5_search : GoodIn wsX11_any (wsV RX11 158 RX5 yX5_search wsX5_search) := goodIn_app (goodIn_of _ (by decide +kernel)) ggX11_any_X5_search
theorem dX11_any_0 : decode cX11_any 0 = .ok (.aload_n 0, 1) := by decide +kernel
theorem dX11_any_1 : decode cX11_any 1 = .ok (.invokevirtual 171, 3) := by decide +kernel
theorem dX11_any_4 : decode cX11_any 4 = .ok (.ifCond .ne 6, 3) := by decide +kernel
theorem dX11_any_7 : decode cX11_any 7 = .ok (.bipush (-3), 2) := by decide +kernel
theorem dX11_any_9 : decode cX11_any 9 = .ok (.ireturn, 1) := by decide +kernel
theorem dX11_any_10 : decode cX11_any 10 = .ok (.aload_n 0, 1) := by decide +kernel
theorem dX11_any_11 : decode cX11_any 11 = .ok (.getfield 34, 3) := by decide +kernel
theorem dX11_any_14 : decode cX11_any 14 = .ok (.aload_n 0, 1) := by decide +kernel
theorem dX11_any_15 : decode cX11_any 15 = .ok (.getfield 10, 3) := by decide +kernel
theorem dX11_any_18 : decode cX11_any 18 = .ok (.aload_n 0, 1) := by decide +kernel
theorem dX11_any_19 : decode cX11_any 19 = .ok (.getfield 10, 3) := by decide +kernel
theorem dX11_any_22 : decode cX11_any 22 = .ok (.invokevirtual 143, 3) := by decide +kernel
theorem dX11_any_25 : decode cX11_any 25 = .ok (.invokevirtual 158, 3) := by decide +kernel
theorem dX11_any_28 : decode cX11_any 28 = .ok (.aload_n 0, 1) := by decide +kernel
theorem dX11_any_29 : decode cX11_any 29 = .ok (.getfield 34, 3) := by decide +kernel
theorem dX11_any_32 : decode cX11_any 32 = .ok (.getfield 162, 3) := by decide +kernel
theorem dX11_any_35 : decode cX11_any 35 = .ok (.ifCond .ne 8, 3) := by decide +kernel
theorem dX11_any_38 : decode cX11_any 38 = .ok (.bipush (-4), 2) := by decide +kernel
theorem dX11_any_40 : decode cX11_any 40 = .ok (.goto 10, 3) := by decide +kernel
theorem dX11_any_43 : decode cX11_any 43 = .ok (.aload_n 0, 1) := by decide +kernel
theorem dX11_any_44 : decode cX11_any 44 = .ok (.getfield 34, 3) := by decide +kernel
theorem dX11_any_47 : decode cX11_any 47 = .ok (.getfield 177, 3) := by decide +kernel
theorem dX11_any_50 : decode cX11_any 50 = .ok (.ireturn, 1) := by decide +kernel
set_option maxRecDepth 20000 in
theorem ggX11_change_X7_become : GoodIn wsX11_change wsX7_become := goodIn_r _ [8, 9, 10, 11, 12, 141, 142, 143, 144] (by decide +kernel) (by decide +kernel)
set_option maxRecDepth 20000 in
theorem gX11_change_X7_become : GoodIn wsX11_change (wsV RX11 78 RX7 yX7_become wsX7_become) := goodIn_app (goodIn_of _ (by decide +kernel)) ggX11_change_X7_become
set_option maxRecDepth 20000 in
theorem ggX11_change_X7_allBreaches : GoodIn wsX11_change wsX7_allBreaches := goodIn_r _ [16, 11, 17, 18, 19, 7, 20, 10, 21, 22, 23, 24, 25, 26, 27, 28, 12, 29, 30, 31, 32, 9, 33, 34, 35, 36, 37, 38, 39, 40, 41, 42, 43, 44, 45, 46, 47, 48, 49, 50, 51, 52, 53, 54, 55, 56, 57, 58, 59, 60, 61, 62, 63, 64, 65, 66, 67, 68, 69, 70, 71, 72, 73, 74, 75, 76, 77, 78, 79, 80, 81, 82, 83, 84, 85, 86, 87, 88, 89, 90, 91, 92, 93, 94, 95, 96, 97, 98, 99, 100, 101, 102, 103, 104, 105, 106, 107, 108, 109, 110, 111, 112, 113, 114, 115, 116, 117, 118, 119, 120, 121, 122, 123, 124, 125, 141, 142, 143, 144, 145, 146, 147, 148, 149, 150, 151, 152] (by decide +kernel) (by decide +kernel)
set_option maxRecDepth 20000 in
theorem gX11_change_X7_allBreaches : GoodIn wsX11_change (wsV RX11 146 RX7 yX7_allBreaches wsX7_allBreaches) := goodIn_app (goodIn_of _ (by decide +kernel)) ggX11_change_X7_allBreaches
set_option maxRecDepth 20000 in
theorem ggX11_change_X7_exchange : GoodIn wsX11_change wsX7_exchange := goodIn_r _ [129, 9, 10, 141, 142, 143, 144] (by decide +kernel) (by decide +kernel)
set_option maxRecDepth 20000 in
theorem gX11_change_X7_exchange : GoodIn wsX11_change (wsV RX11 180 RX7 yX7_exchange wsX7_exchange) := goodIn_app (goodIn_of _ (by decide +kernel)) ggX11_change_X7_exchange
theorem dX11_change_0 : decode cX11_change 0 = .ok (.iload_n 1, 1) := by decide +kernel
theorem dX11_change_1 : decode cX11_change 1 = .ok (.ifCond .eq 10, 3) := by decide +kernel
theorem dX11_change_4 : decode cX11_change 4 = .ok (.iload_n 1, 1) := by decide +kernel
theorem dX11_change_5 : decode cX11_change 5 = .ok (.iconst 1, 1) := by decide +kernel
theorem dX11_change_6 : decode cX11_change 6 = .ok (.if_icmp .eq 5, 3) := by decide +kernel
theorem dX11_change_9 : decode cX11_change 9 = .ok (.iconst (-1), 1) := by decide +kernel
theorem dX11_change_10 : decode cX11_change 10 = .ok (.ireturn, 1) := by decide +kernel
theorem dX11_change_11 : decode cX11_change 11 = .ok (.aload_n 0, 1) := by decide +kernel
theorem dX11_change_12 : decode cX11_change 12 = .ok (.getfield 19, 3) := by decide +kernel
theorem dX11_change_15 : decode cX11_change 15 = .ok (.aload_n 0, 1) := by decide +kernel
theorem dX11_change_16 : decode cX11_change 16 = .ok (.getfield 10, 3) := by decide +kernel
theorem dX11_change_19 : decode cX11_change 19 = .ok (.invokevirtual 78, 3) := by decide +kernel
theorem dX11_change_22 : decode cX11_change 22 = .ok (.aload_n 0, 1) := by decide +kernel
theorem dX11_change_23 : decode cX11_change 23 = .ok (.getfield 19, 3) := by decide +kernel
theorem dX11_change_26 : decode cX11_change 26 = .ok (.invokevirtual 146, 3) := by decide +kernel
theorem dX11_change_29 : decode cX11_change 29 = .ok (.istore_n 2, 1) := by decide +kernel
theorem dX11_change_30 : decode cX11_change 30 = .ok (.bipush (-4), 2) := by decide +kernel
theorem dX11_change_32 : decode cX11_change 32 = .ok (.istore_n 3, 1) := by decide +kernel
theorem dX11_change_33 : decode cX11_change 33 = .ok (.iconst 0, 1) := by decide +kernel
theorem dX11_change_34 : decode cX11_change 34 = .ok (.istore 4, 2) := by decide +kernel
theorem dX11_change_36 : decode cX11_change 36 = .ok (.iload 4, 2) := by decide +kernel
theorem dX11_change_38 : decode cX11_change 38 = .ok (.aload_n 0, 1) := by decide +kernel
theorem dX11_change_39 : decode cX11_change 39 = .ok (.getfield 19, 3) := by decide +kernel
theorem dX11_change_42 : decode cX11_change 42 = .ok (.getfield 126, 3) := by decide +kernel
theorem dX11_change_45 : decode cX11_change 45 = .ok (.if_icmp .ge 82, 3) := by decide +kernel
theorem dX11_change_48 : decode cX11_change 48 = .ok (.iload 4, 2) := by decide +kernel
theorem dX11_change_50 : decode cX11_change 50 = .ok (.iconst 1, 1) := by decide +kernel
theorem dX11_change_51 : decode cX11_change 51 = .ok (.iadd, 1) := by decide +kernel
theorem dX11_change_52 : decode cX11_change 52 = .ok (.istore 5, 2) := by decide +kernel
theorem dX11_change_54 : decode cX11_change 54 = .ok (.iload 5, 2) := by decide +kernel
theorem dX11_change_56 : decode cX11_change 56 = .ok (.aload_n 0, 1) := by decide +kernel
theorem dX11_change_57 : decode cX11_change 57 = .ok (.getfield 19, 3) := by decide +kernel
theorem dX11_change_60 : decode cX11_change 60 = .ok (.getfield 126, 3) := by decide +kernel
theorem dX11_change_63 : decode cX11_change 63 = .ok (.if_icmp .ge 58, 3) := by decide +kernel
theorem dX11_change_66 : decode cX11_change 66 = .ok (.aload_n 0, 1) := by decide +kernel
theorem dX11_change_67 : decode cX11_change 67 = .ok (.getfield 19, 3) := by decide +kernel
theorem dX11_change_70 : decode cX11_change 70 = .ok (.iload 4, 2) := by decide +kernel
theorem dX11_change_72 : decode cX11_change 72 = .ok (.iload 5, 2) := by decide +kernel
theorem dX11_change_74 : decode cX11_change 74 = .ok (.invokevirtual 180, 3) := by decide +kernel
theorem dX11_change_77 : decode cX11_change 77 = .ok (.aload_n 0, 1) := by decide +kernel
theorem dX11_change_78 : decode cX11_change 78 = .ok (.getfield 19, 3) := by decide +kernel
theorem dX11_change_81 : decode cX11_change 81 = .ok (.invokevirtual 146, 3) := by decide +kernel
theorem dX11_change_84 : decode cX11_change 84 = .ok (.istore 6, 2) := by decide +kernel
theorem dX11_change_86 : decode cX11_change 86 = .ok (.aload_n 0, 1) := by decide +kernel
theorem dX11_change_87 : decode cX11_change 87 = .ok (.getfield 19, 3) := by decide +kernel
theorem dX11_change_90 : decode cX11_change 90 = .ok (.iload 4, 2) := by decide +kernel
theorem dX11_change_92 : decode cX11_change 92 = .ok (.iload 5, 2) := by decide +kernel
theorem dX11_change_94 : decode cX11_change 94 = .ok (.invokevirtual 180, 3) := by decide +kernel
theorem dX11_change_97 : decode cX11_change 97 = .ok (.iload 6, 2) := by decide +kernel
theorem dX11_change_99 : decode cX11_change 99 = .ok (.iload_n 2, 1) := by decide +kernel
theorem dX11_change_100 : decode cX11_change 100 = .ok (.if_icmp .ge 15, 3) := by decide +kernel
theorem dX11_change_103 : decode cX11_change 103 = .ok (.iload 6, 2) := by decide +kernel
theorem dX11_change_105 : decode cX11_change 105 = .ok (.istore_n 2, 1) := by decide +kernel
theorem dX11_change_106 : decode cX11_change 106 = .ok (.bipush 10, 2) := by decide +kernel
theorem dX11_change_108 : decode cX11_change 108 = .ok (.iload 4, 2) := by decide +kernel
theorem dX11_change_110 : decode cX11_change 110 = .ok (.imul, 1) := by decide +kernel
theorem dX11_change_111 : decode cX11_change 111 = .ok (.iload 5, 2) := by decide +kernel
theorem dX11_change_113 : decode cX11_change 113 = .ok (.iadd, 1) := by decide +kernel
theorem dX11_change_114 : decode cX11_change 114 = .ok (.istore_n 3, 1) := by decide +kernel
theorem dX11_change_115 : decode cX11_change 115 = .ok (.iinc 5 1, 3) := by decide +kernel
theorem dX11_change_118 : decode cX11_change 118 = .ok (.goto (-64), 3) := by decide +kernel
theorem dX11_change_121 : decode cX11_change 121 = .ok (.iinc 4 1, 3) := by decide +kernel
theorem dX11_change_124 : decode cX11_change 124 = .ok (.goto (-88), 3) := by decide +kernel
theorem dX11_change_127 : decode cX11_change 127 = .ok (.iload_n 3, 1) := by decide +kernel
theorem dX11_change_128 : decode cX11_change 128 = .ok (.bipush (-4), 2) := by decide +kernel
theorem dX11_change_130 : decode cX11_change 130 = .ok (.if_icmp .eq 7, 3) := by decide +kernel
theorem dX11_change_133 : decode cX11_change 133 = .ok (.iload_n 1, 1) := by decide +kernel
theorem dX11_change_134 : decode cX11_change 134 = .ok (.ifCond .ne 7, 3) := by decide +kernel
theorem dX11_change_137 : decode cX11_change 137 = .ok (.iload_n 3, 1) := by decide +kernel
theorem dX11_change_138 : decode cX11_change 138 = .ok (.goto 4, 3) := by decide +kernel
theorem dX11_change_141 : decode cX11_change 141 = .ok (.iload_n 2, 1) := by decide +kernel
theorem dX11_change_142 : decode cX11_change 142 = .ok (.ireturn, 1) := by decide +kernel
set_option maxRecDepth 20000 in
theorem ggX11_wedding_X7_has : GoodIn wsX11_wedding wsX7_has := goodIn_r _ [12, 13, 149, 150, 151, 152] (by decide +kernel) (by decide +kernel)
set_option maxRecDepth 20000 in
theorem gX11_wedding_X7_has : GoodIn wsX11_wedding (wsV RX11 89 RX7 yX7_has wsX7_has) := goodIn_app (goodIn_of _ (by decide +kernel)) ggX11_wedding_X7_has
set_option maxRecDepth 20000 in
theorem ggX11_wedding_X7_become : GoodIn wsX11_wedding wsX7_become := goodIn_r _ [17, 18, 19, 13, 20, 149, 150, 151, 152] (by decide +kernel) (by decide +kernel)
set_option maxRecDepth 20000 in
theorem gX11_wedding_X7_become : GoodIn wsX11_wedding (wsV RX11 78 RX7 yX7_become wsX7_become) := goodIn_app (goodIn_of _ (by decide +kernel)) ggX11_wedding_X7_become
set_option maxRecDepth 20000 in
theorem ggX11_wedding_X7_remove : GoodIn wsX11_wedding wsX7_remove := goodIn_r _ [24, 13, 18, 19, 25, 9, 10, 11, 12, 149, 150, 151, 152] (by decide +kernel) (by decide +kernel)
set_option maxRecDepth 20000 in
theorem gX11_wedding_X7_remove : GoodIn wsX11_wedding (wsV RX11 189 RX7 yX7_remove wsX7_remove) := goodIn_app (goodIn_of _ (by decide +kernel)) ggX11_wedding_X7_remove
set_option maxRecDepth 20000 in
theorem ggX11_wedding_X7_allBreaches : GoodIn wsX11_wedding wsX7_allBreaches := goodIn_r _ [29, 13, 30, 31, 32, 11, 33, 19, 34, 35, 36, 37, 38, 39, 40, 41, 20, 42, 43, 44, 45, 18, 46, 47, 48, 49, 50, 51, 52, 53, 54, 55, 56, 57, 58, 59, 60, 61, 62, 63, 64, 65, 66, 67, 68, 69, 70, 71, 72, 73, 74, 75, 76, 77, 78, 79, 80, 81, 82, 83, 84, 85, 86, 87, 88, 89, 90, 91, 92, 93, 94, 95, 96, 97, 98, 99, 100, 101, 102, 103, 104, 105, 106, 107, 108, 109, 110, 111, 112, 113, 114, 115, 116, 117, 118, 119, 120, 121, 6, 122, 123, 124, 125, 126, 127, 128, 129, 130, 131, 132, 133, 134, 135, 136, 137, 149, 150, 151, 152, 153, 154, 155, 156, 157, 158, 159, 160] (by decide +kernel) (by decide +kernel)
set_option maxRecDepth 20000 in
theorem gX11_wedding_X7_allBreaches : GoodIn wsX11_wedding (wsV RX11 146 RX7 yX7_allBreaches wsX7_allBreaches) := goodIn_app (goodIn_of _ (by decide +kernel)) ggX11_wedding_X7_allBreaches
theorem dX11_wedding_0 : decode cX11_wedding 0 = .ok (.aload_n 0, 1) := by decide +kernel
theorem dX11_wedding_1 : decode cX11_wedding 1 = .ok (.getfield 10, 3) := by decide +kernel
theorem dX11_wedding_4 : decode cX11_wedding 4 = .ok (.iload_n 1, 1) := by decide +kernel
theorem dX11_wedding_5 : decode cX11_wedding 5 = .ok (.invokevirtual 89, 3) := by decide +kernel
theorem dX11_wedding_8 : decode cX11_wedding 8 = .ok (.ifCond .eq 16, 3) := by decide +kernel
theorem dX11_wedding_11 : decode cX11_wedding 11 = .ok (.aload_n 0, 1) := by decide +kernel
theorem dX11_wedding_12 : decode cX11_wedding 12 = .ok (.getfield 10, 3) := by decide +kernel
theorem dX11_wedding_15 : decode cX11_wedding 15 = .ok (.iload_n 1, 1) := by decide +kernel
theorem dX11_wedding_16 : decode cX11_wedding 16 = .ok (.iconst 1, 1) := by decide +kernel
theorem dX11_wedding_17 : decode cX11_wedding 17 = .ok (.iadd, 1) := by decide +kernel
theorem dX11_wedding_18 : decode cX11_wedding 18 = .ok (.invokevirtual 89, 3) := by decide +kernel
theorem dX11_wedding_21 : decode cX11_wedding 21 = .ok (.ifCond .ne 5, 3) := by decide +kernel
theorem dX11_wedding_24 : decode cX11_wedding 24 = .ok (.iconst (-1), 1) := by decide +kernel
theorem dX11_wedding_25 : decode cX11_wedding 25 = .ok (.ireturn, 1) := by decide +kernel
theorem dX11_wedding_26 : decode cX11_wedding 26 = .ok (.aload_n 0, 1) := by decide +kernel
theorem dX11_wedding_27 : decode cX11_wedding 27 = .ok (.getfield 19, 3) := by decide +kernel
theorem dX11_wedding_30 : decode cX11_wedding 30 = .ok (.aload_n 0, 1) := by decide +kernel
theorem dX11_wedding_31 : decode cX11_wedding 31 = .ok (.getfield 10, 3) := by decide +kernel
theorem dX11_wedding_34 : decode cX11_wedding 34 = .ok (.invokevirtual 78, 3) := by decide +kernel
theorem dX11_wedding_37 : decode cX11_wedding 37 = .ok (.aload_n 0, 1) := by decide +kernel
theorem dX11_wedding_38 : decode cX11_wedding 38 = .ok (.getfield 19, 3) := by decide +kernel
theorem dX11_wedding_41 : decode cX11_wedding 41 = .ok (.getfield 103, 3) := by decide +kernel
theorem dX11_wedding_44 : decode cX11_wedding 44 = .ok (.iload_n 1, 1) := by decide +kernel
theorem dX11_wedding_45 : decode cX11_wedding 45 = .ok (.sipush 9999, 3) := by decide +kernel
theorem dX11_wedding_48 : decode cX11_wedding 48 = .ok (.aload_n 0, 1) := by decide +kernel
theorem dX11_wedding_49 : decode cX11_wedding 49 = .ok (.getfield 19, 3) := by decide +kernel
theorem dX11_wedding_52 : decode cX11_wedding 52 = .ok (.getfield 103, 3) := by decide +kernel
theorem dX11_wedding_55 : decode cX11_wedding 55 = .ok (.iload_n 1, 1) := by decide +kernel
theorem dX11_wedding_56 : decode cX11_wedding 56 = .ok (.iaload, 1) := by decide +kernel
theorem dX11_wedding_57 : decode cX11_wedding 57 = .ok (.aload_n 0, 1) := by decide +kernel
theorem dX11_wedding_58 : decode cX11_wedding 58 = .ok (.getfield 19, 3) := by decide +kernel
theorem dX11_wedding_61 : decode cX11_wedding 61 = .ok (.getfield 103, 3) := by decide +kernel
theorem dX11_wedding_64 : decode cX11_wedding 64 = .ok (.iload_n 1, 1) := by decide +kernel
theorem dX11_wedding_65 : decode cX11_wedding 65 = .ok (.iconst 1, 1) := by decide +kernel
theorem dX11_wedding_66 : decode cX11_wedding 66 = .ok (.iadd, 1) := by decide +kernel
theorem dX11_wedding_67 : decode cX11_wedding 67 = .ok (.iaload, 1) := by decide +kernel
theorem dX11_wedding_68 : decode cX11_wedding 68 = .ok (.iadd, 1) := by decide +kernel
theorem dX11_wedding_69 : decode cX11_wedding 69 = .ok (.invokestatic 184, 3) := by decide +kernel
theorem dX11_wedding_72 : decode cX11_wedding 72 = .ok (.iastore, 1) := by decide +kernel
theorem dX11_wedding_73 : decode cX11_wedding 73 = .ok (.aload_n 0, 1) := by decide +kernel
theorem dX11_wedding_74 : decode cX11_wedding 74 = .ok (.getfield 19, 3) := by decide +kernel
theorem dX11_wedding_77 : decode cX11_wedding 77 = .ok (.iload_n 1, 1) := by decide +kernel
theorem dX11_wedding_78 : decode cX11_wedding 78 = .ok (.iconst 1, 1) := by decide +kernel
theorem dX11_wedding_79 : decode cX11_wedding 79 = .ok (.iadd, 1) := by decide +kernel
theorem dX11_wedding_80 : decode cX11_wedding 80 = .ok (.invokevirtual 189, 3) := by decide +kernel
theorem dX11_wedding_83 : decode cX11_wedding 83 = .ok (.aload_n 0, 1) := by decide +kernel
theorem dX11_wedding_84 : decode cX11_wedding 84 = .ok (.getfield 19, 3) := by decide +kernel
theorem dX11_wedding_87 : decode cX11_wedding 87 = .ok (.invokevirtual 146, 3) := by decide +kernel
theorem dX11_wedding_90 : decode cX11_wedding 90 = .ok (.ireturn, 1) := by decide +kernel
set_option maxRecDepth 20000 in
theorem ggX11_worth_X7_has : GoodIn wsX11_worth wsX7_has := goodIn_r _ [9, 10, 149, 150, 151, 152] (by decide +kernel) (by decide +kernel)
set_option maxRecDepth 20000 in
theorem gX11_worth_X7_has : GoodIn wsX11_worth (wsV RX11 89 RX7 yX7_has wsX7_has) := goodIn_app (goodIn_of _ (by decide +kernel)) ggX11_worth_X7_has
set_option maxRecDepth 20000 in
theorem ggX11_worth_X11_isPurse : GoodIn wsX11_worth wsX11_isPurse := goodIn_r _ [14] (by decide +kernel) (by decide +kernel)
set_option maxRecDepth 20000 in
theorem gX11_worth_X11_isPurse : GoodIn wsX11_worth (va_wsS RX11 120 yX11_isPurse wsX11_isPurse) := goodIn_app (goodIn_of _ (by decide +kernel)) ggX11_worth_X11_isPurse
set_option maxRecDepth 20000 in
theorem ggX11_worth_X7_become : GoodIn wsX11_worth wsX7_become := goodIn_r _ [18, 19, 20, 10, 21, 149, 150, 151, 152] (by decide +kernel) (by decide +kernel)
set_option maxRecDepth 20000 in
theorem gX11_worth_X7_become : GoodIn wsX11_worth (wsV RX11 78 RX7 yX7_become wsX7_become) := goodIn_app (goodIn_of _ (by decide +kernel)) ggX11_worth_X7_become
set_option maxRecDepth 20000 in
theorem ggX11_worth_X7_insert : GoodIn wsX11_worth wsX7_insert := goodIn_r _ [25, 10, 19, 20, 149, 150, 151, 152] (by decide +kernel) (by decide +kernel)
set_option maxRecDepth 20000 in
theorem gX11_worth_X7_insert : GoodIn wsX11_worth (wsV RX11 129 RX7 yX7_insert wsX7_insert) := goodIn_app (goodIn_of _ (by decide +kernel)) ggX11_worth_X7_insert
set_option maxRecDepth 20000 in
theorem ggX11_worth_X7_mostOf : GoodIn wsX11_worth wsX7_mostOf := goodIn_r _ [29, 30, 31, 32, 33, 34, 35, 36, 8, 37, 10, 38, 39, 40, 41, 21, 42, 43, 44, 45, 19, 46, 20, 47, 48, 49, 50, 51, 52, 53, 54, 55, 56, 57, 58, 59, 60, 61, 62, 63, 64, 65, 66, 67, 68, 69, 70, 71, 72, 73, 74, 75, 76, 77, 78, 79, 80, 81, 82, 83, 84, 85, 86, 87, 88, 89, 90, 91, 92, 93, 94, 95, 96, 97, 98, 99, 100, 101, 102, 103, 104, 105, 106, 107, 108, 109, 110, 111, 112, 113, 114, 115, 116, 117, 118, 119, 120, 121, 122, 123, 124, 125, 126, 127, 128, 129, 130, 131, 132, 133, 134, 135, 136, 137, 149, 150, 151, 152, 153, 154, 155, 156, 157, 158, 159, 160] (by decide +kernel) (by decide +kernel)
set_option maxRecDepth 20000 in
theorem gX11_worth_X7_mostOf : GoodIn wsX11_worth (wsV RX11 114 RX7 yX7_mostOf wsX7_mostOf) := goodIn_app (goodIn_of _ (by decide +kernel)) ggX11_worth_X7_mostOf
theorem dX11_worth_0 : decode cX11_worth 0 = .ok (.aload_n 0, 1) := by decide +kernel
theorem dX11_worth_1 : decode cX11_worth 1 = .ok (.getfield 10, 3) := by decide +kernel
theorem dX11_worth_4 : decode cX11_worth 4 = .ok (.iload_n 1, 1) := by decide +kernel
theorem dX11_worth_5 : decode cX11_worth 5 = .ok (.invokevirtual 89, 3) := by decide +kernel
theorem dX11_worth_8 : decode cX11_worth 8 = .ok (.ifCond .eq 10, 3) := by decide +kernel
theorem dX11_worth_11 : decode cX11_worth 11 = .ok (.iload_n 2, 1) := by decide +kernel
theorem dX11_worth_12 : decode cX11_worth 12 = .ok (.invokestatic 120, 3) := by decide +kernel
theorem dX11_worth_15 : decode cX11_worth 15 = .ok (.ifCond .ne 6, 3) := by decide +kernel
theorem dX11_worth_18 : decode cX11_worth 18 = .ok (.ldc 192, 2) := by decide +kernel
theorem dX11_worth_20 : decode cX11_worth 20 = .ok (.ireturn, 1) := by decide +kernel
theorem dX11_worth_21 : decode cX11_worth 21 = .ok (.aload_n 0, 1) := by decide +kernel
theorem dX11_worth_22 : decode cX11_worth 22 = .ok (.getfield 19, 3) := by decide +kernel
theorem dX11_worth_25 : decode cX11_worth 25 = .ok (.aload_n 0, 1) := by decide +kernel
theorem dX11_worth_26 : decode cX11_worth 26 = .ok (.getfield 10, 3) := by decide +kernel
theorem dX11_worth_29 : decode cX11_worth 29 = .ok (.invokevirtual 78, 3) := by decide +kernel
theorem dX11_worth_32 : decode cX11_worth 32 = .ok (.aload_n 0, 1) := by decide +kernel
theorem dX11_worth_33 : decode cX11_worth 33 = .ok (.getfield 19, 3) := by decide +kernel
theorem dX11_worth_36 : decode cX11_worth 36 = .ok (.iload_n 1, 1) := by decide +kernel
theorem dX11_worth_37 : decode cX11_worth 37 = .ok (.iconst 1, 1) := by decide +kernel
theorem dX11_worth_38 : decode cX11_worth 38 = .ok (.iadd, 1) := by decide +kernel
theorem dX11_worth_39 : decode cX11_worth 39 = .ok (.aload_n 0, 1) := by decide +kernel
theorem dX11_worth_40 : decode cX11_worth 40 = .ok (.getfield 27, 3) := by decide +kernel
theorem dX11_worth_43 : decode cX11_worth 43 = .ok (.iload_n 2, 1) := by decide +kernel
theorem dX11_worth_44 : decode cX11_worth 44 = .ok (.invokevirtual 129, 3) := by decide +kernel
theorem dX11_worth_47 : decode cX11_worth 47 = .ok (.aload_n 0, 1) := by decide +kernel
theorem dX11_worth_48 : decode cX11_worth 48 = .ok (.getfield 19, 3) := by decide +kernel
theorem dX11_worth_51 : decode cX11_worth 51 = .ok (.iload_n 1, 1) := by decide +kernel
theorem dX11_worth_52 : decode cX11_worth 52 = .ok (.invokevirtual 114, 3) := by decide +kernel
theorem dX11_worth_55 : decode cX11_worth 55 = .ok (.aload_n 0, 1) := by decide +kernel
theorem dX11_worth_56 : decode cX11_worth 56 = .ok (.getfield 10, 3) := by decide +kernel
theorem dX11_worth_59 : decode cX11_worth 59 = .ok (.iload_n 1, 1) := by decide +kernel
theorem dX11_worth_60 : decode cX11_worth 60 = .ok (.invokevirtual 114, 3) := by decide +kernel
theorem dX11_worth_63 : decode cX11_worth 63 = .ok (.isub, 1) := by decide +kernel
theorem dX11_worth_64 : decode cX11_worth 64 = .ok (.ireturn, 1) := by decide +kernel
set_option maxRecDepth 20000 in
theorem ggX11_fitting_X7_has : GoodIn wsX11_fitting wsX7_has := goodIn_r _ [8, 9, 141, 142, 143, 144] (by decide +kernel) (by decide +kernel)
set_option maxRecDepth 20000 in
theorem gX11_fitting_X7_has : GoodIn wsX11_fitting (wsV RX11 89 RX7 yX7_has wsX7_has) := goodIn_app (goodIn_of _ (by decide +kernel)) ggX11_fitting_X7_has
set_option maxRecDepth 20000 in
theorem ggX11_fitting_X7_become : GoodIn wsX11_fitting wsX7_become := goodIn_r _ [13, 14, 15, 9, 16, 141, 142, 143, 144] (by decide +kernel) (by decide +kernel)
set_option maxRecDepth 20000 in
theorem gX11_fitting_X7_become : GoodIn wsX11_fitting (wsV RX11 78 RX7 yX7_become wsX7_become) := goodIn_app (goodIn_of _ (by decide +kernel)) ggX11_fitting_X7_become
set_option maxRecDepth 20000 in
theorem ggX11_fitting_X7_allBreaches : GoodIn wsX11_fitting wsX7_allBreaches := goodIn_r _ [20, 9, 21, 22, 23, 7, 24, 15, 25, 26, 27, 28, 29, 30, 31, 32, 16, 33, 34, 35, 36, 14, 37, 38, 39, 40, 41, 42, 43, 44, 45, 46, 47, 48, 49, 50, 51, 52, 53, 54, 55, 56, 57, 58, 59, 60, 61, 62, 63, 64, 65, 66, 67, 68, 69, 70, 71, 72, 73, 74, 75, 76, 77, 78, 79, 80, 81, 82, 83, 84, 85, 86, 87, 88, 89, 90, 91, 92, 93, 94, 95, 96, 97, 98, 99, 100, 101, 102, 103, 104, 105, 106, 107, 108, 109, 110, 111, 112, 113, 114, 115, 116, 117, 118, 119, 120, 121, 122, 123, 124, 125, 126, 127, 128, 129, 141, 142, 143, 144, 145, 146, 147, 148, 149, 150, 151, 152] (by decide +kernel) (by decide +kernel)
set_option maxRecDepth 20000 in
theorem gX11_fitting_X7_allBreaches : GoodIn wsX11_fitting (wsV RX11 146 RX7 yX7_allBreaches wsX7_allBreaches) := goodIn_app (goodIn_of _ (by decide +kernel)) ggX11_fitting_X7_allBreaches
theorem dX11_fitting_0 : decode cX11_fitting 0 = .ok (.aload_n 0, 1) := by decide +kernel
theorem dX11_fitting_1 : decode cX11_fitting 1 = .ok (.getfield 10, 3) := by decide +kernel
theorem dX11_fitting_4 : decode cX11_fitting 4 = .ok (.iload_n 1, 1) := by decide +kernel
theorem dX11_fitting_5 : decode cX11_fitting 5 = .ok (.invokevirtual 89, 3) := by decide +kernel
theorem dX11_fitting_8 : decode cX11_fitting 8 = .ok (.ifCond .eq 12, 3) := by decide +kernel
theorem dX11_fitting_11 : decode cX11_fitting 11 = .ok (.iload_n 2, 1) := by decide +kernel
theorem dX11_fitting_12 : decode cX11_fitting 12 = .ok (.ifCond .lt 8, 3) := by decide +kernel
theorem dX11_fitting_15 : decode cX11_fitting 15 = .ok (.iload_n 2, 1) := by decide +kernel
theorem dX11_fitting_16 : decode cX11_fitting 16 = .ok (.iconst 2, 1) := by decide +kernel
theorem dX11_fitting_17 : decode cX11_fitting 17 = .ok (.if_icmp .le 5, 3) := by decide +kernel
theorem dX11_fitting_20 : decode cX11_fitting 20 = .ok (.iconst (-1), 1) := by decide +kernel
theorem dX11_fitting_21 : decode cX11_fitting 21 = .ok (.ireturn, 1) := by decide +kernel
theorem dX11_fitting_22 : decode cX11_fitting 22 = .ok (.aload_n 0, 1) := by decide +kernel
theorem dX11_fitting_23 : decode cX11_fitting 23 = .ok (.getfield 19, 3) := by decide +kernel
theorem dX11_fitting_26 : decode cX11_fitting 26 = .ok (.aload_n 0, 1) := by decide +kernel
theorem dX11_fitting_27 : decode cX11_fitting 27 = .ok (.getfield 10, 3) := by decide +kernel
theorem dX11_fitting_30 : decode cX11_fitting 30 = .ok (.invokevirtual 78, 3) := by decide +kernel
theorem dX11_fitting_33 : decode cX11_fitting 33 = .ok (.iconst 0, 1) := by decide +kernel
theorem dX11_fitting_34 : decode cX11_fitting 34 = .ok (.istore_n 3, 1) := by decide +kernel
theorem dX11_fitting_35 : decode cX11_fitting 35 = .ok (.bipush (-4), 2) := by decide +kernel
theorem dX11_fitting_37 : decode cX11_fitting 37 = .ok (.istore 4, 2) := by decide +kernel
theorem dX11_fitting_39 : decode cX11_fitting 39 = .ok (.bipush (-4), 2) := by decide +kernel
theorem dX11_fitting_41 : decode cX11_fitting 41 = .ok (.istore 5, 2) := by decide +kernel
theorem dX11_fitting_43 : decode cX11_fitting 43 = .ok (.iconst 0, 1) := by decide +kernel
theorem dX11_fitting_44 : decode cX11_fitting 44 = .ok (.istore 6, 2) := by decide +kernel
theorem dX11_fitting_46 : decode cX11_fitting 46 = .ok (.iload 6, 2) := by decide +kernel
theorem dX11_fitting_48 : decode cX11_fitting 48 = .ok (.bipush 100, 2) := by decide +kernel
theorem dX11_fitting_50 : decode cX11_fitting 50 = .ok (.if_icmp .ge 53, 3) := by decide +kernel
theorem dX11_fitting_53 : decode cX11_fitting 53 = .ok (.aload_n 0, 1) := by decide +kernel
theorem dX11_fitting_54 : decode cX11_fitting 54 = .ok (.getfield 19, 3) := by decide +kernel
theorem dX11_fitting_57 : decode cX11_fitting 57 = .ok (.getfield 103, 3) := by decide +kernel
theorem dX11_fitting_60 : decode cX11_fitting 60 = .ok (.iload_n 1, 1) := by decide +kernel
theorem dX11_fitting_61 : decode cX11_fitting 61 = .ok (.iload 6, 2) := by decide +kernel
theorem dX11_fitting_63 : decode cX11_fitting 63 = .ok (.iastore, 1) := by decide +kernel
theorem dX11_fitting_64 : decode cX11_fitting 64 = .ok (.aload_n 0, 1) := by decide +kernel
theorem dX11_fitting_65 : decode cX11_fitting 65 = .ok (.getfield 19, 3) := by decide +kernel
theorem dX11_fitting_68 : decode cX11_fitting 68 = .ok (.invokevirtual 146, 3) := by decide +kernel
theorem dX11_fitting_71 : decode cX11_fitting 71 = .ok (.ifCond .ne 26, 3) := by decide +kernel
theorem dX11_fitting_74 : decode cX11_fitting 74 = .ok (.iinc 3 1, 3) := by decide +kernel
theorem dX11_fitting_77 : decode cX11_fitting 77 = .ok (.iload 4, 2) := by decide +kernel
theorem dX11_fitting_79 : decode cX11_fitting 79 = .ok (.bipush (-4), 2) := by decide +kernel
theorem dX11_fitting_81 : decode cX11_fitting 81 = .ok (.if_icmp .ne 8, 3) := by decide +kernel
theorem dX11_fitting_84 : decode cX11_fitting 84 = .ok (.iload 6, 2) := by decide +kernel
theorem dX11_fitting_86 : decode cX11_fitting 86 = .ok (.goto 5, 3) := by decide +kernel
theorem dX11_fitting_89 : decode cX11_fitting 89 = .ok (.iload 4, 2) := by decide +kernel
theorem dX11_fitting_91 : decode cX11_fitting 91 = .ok (.istore 4, 2) := by decide +kernel
theorem dX11_fitting_93 : decode cX11_fitting 93 = .ok (.iload 6, 2) := by decide +kernel
theorem dX11_fitting_95 : decode cX11_fitting 95 = .ok (.istore 5, 2) := by decide +kernel
theorem dX11_fitting_97 : decode cX11_fitting 97 = .ok (.iinc 6 1, 3) := by decide +kernel
theorem dX11_fitting_100 : decode cX11_fitting 100 = .ok (.goto (-54), 3) := by decide +kernel
theorem dX11_fitting_103 : decode cX11_fitting 103 = .ok (.iload_n 2, 1) := by decide +kernel
theorem dX11_fitting_104 : decode cX11_fitting 104 = .ok (.ifCond .ne 5, 3) := by decide +kernel
theorem dX11_fitting_107 : decode cX11_fitting 107 = .ok (.iload_n 3, 1) := by decide +kernel
theorem dX11_fitting_108 : decode cX11_fitting 108 = .ok (.ireturn, 1) := by decide +kernel
theorem dX11_fitting_109 : decode cX11_fitting 109 = .ok (.iload_n 2, 1) := by decide +kernel
theorem dX11_fitting_110 : decode cX11_fitting 110 = .ok (.iconst 1, 1) := by decide +kernel
theorem dX11_fitting_111 : decode cX11_fitting 111 = .ok (.if_icmp .ne 8, 3) := by decide +kernel
theorem dX11_fitting_114 : decode cX11_fitting 114 = .ok (.iload 4, 2) := by decide +kernel
theorem dX11_fitting_116 : decode cX11_fitting 116 = .ok (.goto 5, 3) := by decide +kernel
theorem dX11_fitting_119 : decode cX11_fitting 119 = .ok (.iload 5, 2) := by decide +kernel
theorem dX11_fitting_121 : decode cX11_fitting 121 = .ok (.ireturn, 1) := by decide +kernel
set_option maxRecDepth 20000 in
theorem ggX11_given_X11_sortRefusal : GoodIn wsX11_given wsX11_sortRefusal := goodIn_r _ [9, 10, 11, 12, 13, 8, 14, 15, 16, 17, 18, 19, 20, 21, 22, 162, 163, 164, 165, 166, 167, 168, 169, 170, 171, 172] (by decide +kernel) (by decide +kernel)
set_option maxRecDepth 20000 in
theorem gX11_given_X11_sortRefusal : GoodIn wsX11_given (wsV RX11 67 RX11 yX11_sortRefusal wsX11_sortRefusal) := goodIn_app (goodIn_of _ (by decide +kernel)) ggX11_given_X11_sortRefusal
set_option maxRecDepth 20000 in
theorem ggX11_given_X11_areGifts : GoodIn wsX11_given wsX11_areGifts := goodIn_r _ [26, 4, 27, 28, 29, 30, 31, 32, 33, 34, 35, 36, 162, 163, 164, 165, 166, 167, 168, 169, 170, 171, 172, 173, 174, 175, 176] (by decide +kernel) (by decide +kernel)
set_option maxRecDepth 20000 in
theorem gX11_given_X11_areGifts : GoodIn wsX11_given (wsV RX11 193 RX11 yX11_areGifts wsX11_areGifts) := goodIn_app (goodIn_of _ (by decide +kernel)) ggX11_given_X11_areGifts
set_option maxRecDepth 20000 in
theorem ggX11_given_X7_become : GoodIn wsX11_given wsX7_become := goodIn_r _ [40, 41, 42, 36, 43, 173, 174, 175, 176] (by decide +kernel) (by decide +kernel)
set_option maxRecDepth 20000 in
theorem gX11_given_X7_become : GoodIn wsX11_given (wsV RX11 78 RX7 yX7_become wsX7_become) := goodIn_app (goodIn_of _ (by decide +kernel)) ggX11_given_X7_become
set_option maxRecDepth 20000 in
theorem ggX11_given_X7_gift : GoodIn wsX11_given wsX7_gift := goodIn_r _ [47, 42, 48, 28, 29, 30, 31, 32, 33, 34, 35, 36, 173, 174, 175, 176] (by decide +kernel) (by decide +kernel)
set_option maxRecDepth 20000 in
theorem gX11_given_X7_gift : GoodIn wsX11_given (wsV RX11 136 RX7 yX7_gift wsX7_gift) := goodIn_app (goodIn_of _ (by decide +kernel)) ggX11_given_X7_gift
set_option maxRecDepth 20000 in
theorem ggX11_given_X7_allBreaches : GoodIn wsX11_given wsX7_allBreaches := goodIn_r _ [52, 36, 53, 54, 55, 30, 56, 42, 57, 58, 59, 60, 61, 62, 63, 64, 43, 65, 66, 67, 68, 41, 69, 70, 71, 72, 73, 74, 75, 76, 77, 78, 79, 80, 81, 82, 83, 84, 85, 86, 87, 88, 89, 90, 91, 92, 93, 94, 95, 96, 97, 98, 99, 100, 101, 102, 103, 104, 105, 106, 107, 108, 109, 110, 111, 112, 113, 114, 115, 116, 117, 118, 119, 120, 121, 122, 123, 124, 125, 126, 127, 128, 129, 130, 131, 132, 133, 134, 135, 136, 137, 138, 139, 140, 141, 142, 143, 144, 145, 146, 147, 148, 149, 150, 151, 152, 153, 154, 155, 156, 157, 158, 159, 160, 161, 173, 174, 175, 176, 177, 178, 179, 180, 181, 182, 183, 184] (by decide +kernel) (by decide +kernel)
set_option maxRecDepth 20000 in
theorem gX11_given_X7_allBreaches : GoodIn wsX11_given (wsV RX11 146 RX7 yX7_allBreaches wsX7_allBreaches) := goodIn_app (goodIn_of _ (by decide +kernel)) ggX11_given_X7_allBreaches
theorem dX11_given_0 : decode cX11_given 0 = .ok (.iload_n 2, 1) := by decide +kernel
theorem dX11_given_1 : decode cX11_given 1 = .ok (.ifCond .eq 10, 3) := by decide +kernel
theorem dX11_given_4 : decode cX11_given 4 = .ok (.iload_n 2, 1) := by decide +kernel
theorem dX11_given_5 : decode cX11_given 5 = .ok (.iconst 1, 1) := by decide +kernel
theorem dX11_given_6 : decode cX11_given 6 = .ok (.if_icmp .eq 5, 3) := by decide +kernel
theorem dX11_given_9 : decode cX11_given 9 = .ok (.iconst (-1), 1) := by decide +kernel
theorem dX11_given_10 : decode cX11_given 10 = .ok (.ireturn, 1) := by decide +kernel
theorem dX11_given_11 : decode cX11_given 11 = .ok (.aload_n 0, 1) := by decide +kernel
theorem dX11_given_12 : decode cX11_given 12 = .ok (.iload_n 1, 1) := by decide +kernel
theorem dX11_given_13 : decode cX11_given 13 = .ok (.iconst 1, 1) := by decide +kernel
theorem dX11_given_14 : decode cX11_given 14 = .ok (.invokevirtual 67, 3) := by decide +kernel
theorem dX11_given_17 : decode cX11_given 17 = .ok (.istore_n 3, 1) := by decide +kernel
theorem dX11_given_18 : decode cX11_given 18 = .ok (.iload_n 3, 1) := by decide +kernel
theorem dX11_given_19 : decode cX11_given 19 = .ok (.ifCond .eq 5, 3) := by decide +kernel
theorem dX11_given_22 : decode cX11_given 22 = .ok (.iload_n 3, 1) := by decide +kernel
theorem dX11_given_23 : decode cX11_given 23 = .ok (.ireturn, 1) := by decide +kernel
