theorem dX11_given_24 : decode cX11_given 24 = .ok (.aload_n 0, 1) := by decide +kernel
theorem dX11_given_25 : decode cX11_given 25 = .ok (.aload_n 0, 1) := by decide +kernel
theorem dX11_given_26 : decode cX11_given 26 = .ok (.getfield 58, 3) := by decide +kernel
theorem dX11_given_29 : decode cX11_given 29 = .ok (.iload_n 1, 1) := by decide +kernel
theorem dX11_given_30 : decode cX11_given 30 = .ok (.aaload, 1) := by decide +kernel
theorem dX11_given_31 : decode cX11_given 31 = .ok (.aload_n 0, 1) := by decide +kernel
theorem dX11_given_32 : decode cX11_given 32 = .ok (.getfield 53, 3) := by decide +kernel
theorem dX11_given_35 : decode cX11_given 35 = .ok (.iload_n 1, 1) := by decide +kernel
theorem dX11_given_36 : decode cX11_given 36 = .ok (.iaload, 1) := by decide +kernel
theorem dX11_given_37 : decode cX11_given 37 = .ok (.invokevirtual 193, 3) := by decide +kernel
theorem dX11_given_40 : decode cX11_given 40 = .ok (.ifCond .ne 6, 3) := by decide +kernel
theorem dX11_given_43 : decode cX11_given 43 = .ok (.bipush (-13), 2) := by decide +kernel
theorem dX11_given_45 : decode cX11_given 45 = .ok (.ireturn, 1) := by decide +kernel
theorem dX11_given_46 : decode cX11_given 46 = .ok (.aload_n 0, 1) := by decide +kernel
theorem dX11_given_47 : decode cX11_given 47 = .ok (.getfield 19, 3) := by decide +kernel
theorem dX11_given_50 : decode cX11_given 50 = .ok (.aload_n 0, 1) := by decide +kernel
theorem dX11_given_51 : decode cX11_given 51 = .ok (.getfield 10, 3) := by decide +kernel
theorem dX11_given_54 : decode cX11_given 54 = .ok (.invokevirtual 78, 3) := by decide +kernel
theorem dX11_given_57 : decode cX11_given 57 = .ok (.iconst 0, 1) := by decide +kernel
theorem dX11_given_58 : decode cX11_given 58 = .ok (.istore 4, 2) := by decide +kernel
theorem dX11_given_60 : decode cX11_given 60 = .ok (.iconst 0, 1) := by decide +kernel
theorem dX11_given_61 : decode cX11_given 61 = .ok (.istore 5, 2) := by decide +kernel
theorem dX11_given_63 : decode cX11_given 63 = .ok (.iload 5, 2) := by decide +kernel
theorem dX11_given_65 : decode cX11_given 65 = .ok (.iconst 3, 1) := by decide +kernel
theorem dX11_given_66 : decode cX11_given 66 = .ok (.iadd, 1) := by decide +kernel
theorem dX11_given_67 : decode cX11_given 67 = .ok (.aload_n 0, 1) := by decide +kernel
theorem dX11_given_68 : decode cX11_given 68 = .ok (.getfield 53, 3) := by decide +kernel
theorem dX11_given_71 : decode cX11_given 71 = .ok (.iload_n 1, 1) := by decide +kernel
theorem dX11_given_72 : decode cX11_given 72 = .ok (.iaload, 1) := by decide +kernel
theorem dX11_given_73 : decode cX11_given 73 = .ok (.if_icmp .gt 53, 3) := by decide +kernel
theorem dX11_given_76 : decode cX11_given 76 = .ok (.aload_n 0, 1) := by decide +kernel
theorem dX11_given_77 : decode cX11_given 77 = .ok (.getfield 19, 3) := by decide +kernel
theorem dX11_given_80 : decode cX11_given 80 = .ok (.aload_n 0, 1) := by decide +kernel
theorem dX11_given_81 : decode cX11_given 81 = .ok (.getfield 58, 3) := by decide +kernel
theorem dX11_given_84 : decode cX11_given 84 = .ok (.iload_n 1, 1) := by decide +kernel
theorem dX11_given_85 : decode cX11_given 85 = .ok (.aaload, 1) := by decide +kernel
theorem dX11_given_86 : decode cX11_given 86 = .ok (.iload 5, 2) := by decide +kernel
theorem dX11_given_88 : decode cX11_given 88 = .ok (.iaload, 1) := by decide +kernel
theorem dX11_given_89 : decode cX11_given 89 = .ok (.aload_n 0, 1) := by decide +kernel
theorem dX11_given_90 : decode cX11_given 90 = .ok (.getfield 58, 3) := by decide +kernel
theorem dX11_given_93 : decode cX11_given 93 = .ok (.iload_n 1, 1) := by decide +kernel
theorem dX11_given_94 : decode cX11_given 94 = .ok (.aaload, 1) := by decide +kernel
theorem dX11_given_95 : decode cX11_given 95 = .ok (.iload 5, 2) := by decide +kernel
theorem dX11_given_97 : decode cX11_given 97 = .ok (.iconst 1, 1) := by decide +kernel
theorem dX11_given_98 : decode cX11_given 98 = .ok (.iadd, 1) := by decide +kernel
theorem dX11_given_99 : decode cX11_given 99 = .ok (.iaload, 1) := by decide +kernel
theorem dX11_given_100 : decode cX11_given 100 = .ok (.aload_n 0, 1) := by decide +kernel
theorem dX11_given_101 : decode cX11_given 101 = .ok (.getfield 58, 3) := by decide +kernel
theorem dX11_given_104 : decode cX11_given 104 = .ok (.iload_n 1, 1) := by decide +kernel
theorem dX11_given_105 : decode cX11_given 105 = .ok (.aaload, 1) := by decide +kernel
theorem dX11_given_106 : decode cX11_given 106 = .ok (.iload 5, 2) := by decide +kernel
theorem dX11_given_108 : decode cX11_given 108 = .ok (.iconst 2, 1) := by decide +kernel
theorem dX11_given_109 : decode cX11_given 109 = .ok (.iadd, 1) := by decide +kernel
theorem dX11_given_110 : decode cX11_given 110 = .ok (.iaload, 1) := by decide +kernel
theorem dX11_given_111 : decode cX11_given 111 = .ok (.invokevirtual 136, 3) := by decide +kernel
theorem dX11_given_114 : decode cX11_given 114 = .ok (.ifCond .ne 6, 3) := by decide +kernel
theorem dX11_given_117 : decode cX11_given 117 = .ok (.iinc 4 1, 3) := by decide +kernel
theorem dX11_given_120 : decode cX11_given 120 = .ok (.iinc 5 3, 3) := by decide +kernel
theorem dX11_given_123 : decode cX11_given 123 = .ok (.goto (-60), 3) := by decide +kernel
theorem dX11_given_126 : decode cX11_given 126 = .ok (.iload_n 2, 1) := by decide +kernel
theorem dX11_given_127 : decode cX11_given 127 = .ok (.ifCond .ne 13, 3) := by decide +kernel
theorem dX11_given_130 : decode cX11_given 130 = .ok (.aload_n 0, 1) := by decide +kernel
theorem dX11_given_131 : decode cX11_given 131 = .ok (.getfield 19, 3) := by decide +kernel
theorem dX11_given_134 : decode cX11_given 134 = .ok (.invokevirtual 146, 3) := by decide +kernel
theorem dX11_given_137 : decode cX11_given 137 = .ok (.goto 5, 3) := by decide +kernel
theorem dX11_given_140 : decode cX11_given 140 = .ok (.iload 4, 2) := by decide +kernel
theorem dX11_given_142 : decode cX11_given 142 = .ok (.ireturn, 1) := by decide +kernel
set_option maxRecDepth 20000 in
theorem ggX11_tax_X11_isPurse : GoodIn wsX11_tax wsX11_isPurse := goodIn_r _ [11] (by decide +kernel) (by decide +kernel)
set_option maxRecDepth 20000 in
theorem gX11_tax_X11_isPurse : GoodIn wsX11_tax (va_wsS RX11 120 yX11_isPurse wsX11_isPurse) := goodIn_app (goodIn_of _ (by decide +kernel)) ggX11_tax_X11_isPurse
theorem dX11_tax_0 : decode cX11_tax 0 = .ok (.iload_n 1, 1) := by decide +kernel
theorem dX11_tax_1 : decode cX11_tax 1 = .ok (.invokestatic 120, 3) := by decide +kernel
theorem dX11_tax_4 : decode cX11_tax 4 = .ok (.ifCond .ne 5, 3) := by decide +kernel
theorem dX11_tax_7 : decode cX11_tax 7 = .ok (.iconst (-1), 1) := by decide +kernel
theorem dX11_tax_8 : decode cX11_tax 8 = .ok (.ireturn, 1) := by decide +kernel
theorem dX11_tax_9 : decode cX11_tax 9 = .ok (.iconst 0, 1) := by decide +kernel
theorem dX11_tax_10 : decode cX11_tax 10 = .ok (.istore_n 2, 1) := by decide +kernel
theorem dX11_tax_11 : decode cX11_tax 11 = .ok (.iconst 0, 1) := by decide +kernel
theorem dX11_tax_12 : decode cX11_tax 12 = .ok (.istore_n 3, 1) := by decide +kernel
theorem dX11_tax_13 : decode cX11_tax 13 = .ok (.iload_n 3, 1) := by decide +kernel
theorem dX11_tax_14 : decode cX11_tax 14 = .ok (.aload_n 0, 1) := by decide +kernel
theorem dX11_tax_15 : decode cX11_tax 15 = .ok (.getfield 10, 3) := by decide +kernel
theorem dX11_tax_18 : decode cX11_tax 18 = .ok (.getfield 126, 3) := by decide +kernel
theorem dX11_tax_21 : decode cX11_tax 21 = .ok (.if_icmp .ge 25, 3) := by decide +kernel
theorem dX11_tax_24 : decode cX11_tax 24 = .ok (.iload_n 2, 1) := by decide +kernel
theorem dX11_tax_25 : decode cX11_tax 25 = .ok (.aload_n 0, 1) := by decide +kernel
theorem dX11_tax_26 : decode cX11_tax 26 = .ok (.getfield 10, 3) := by decide +kernel
theorem dX11_tax_29 : decode cX11_tax 29 = .ok (.getfield 103, 3) := by decide +kernel
theorem dX11_tax_32 : decode cX11_tax 32 = .ok (.iload_n 3, 1) := by decide +kernel
theorem dX11_tax_33 : decode cX11_tax 33 = .ok (.iaload, 1) := by decide +kernel
theorem dX11_tax_34 : decode cX11_tax 34 = .ok (.iload_n 1, 1) := by decide +kernel
theorem dX11_tax_35 : decode cX11_tax 35 = .ok (.invokestatic 184, 3) := by decide +kernel
theorem dX11_tax_38 : decode cX11_tax 38 = .ok (.iadd, 1) := by decide +kernel
theorem dX11_tax_39 : decode cX11_tax 39 = .ok (.istore_n 2, 1) := by decide +kernel
theorem dX11_tax_40 : decode cX11_tax 40 = .ok (.iinc 3 1, 3) := by decide +kernel
theorem dX11_tax_43 : decode cX11_tax 43 = .ok (.goto (-30), 3) := by decide +kernel
theorem dX11_tax_46 : decode cX11_tax 46 = .ok (.iload_n 2, 1) := by decide +kernel
theorem dX11_tax_47 : decode cX11_tax 47 = .ok (.ireturn, 1) := by decide +kernel
set_option maxRecDepth 20000 in
theorem ggX11_seeded_X7_become : GoodIn wsX11_seeded wsX7_become := goodIn_r _ [8, 9, 10, 11, 12, 153, 154, 155, 156] (by decide +kernel) (by decide +kernel)
set_option maxRecDepth 20000 in
theorem gX11_seeded_X7_become : GoodIn wsX11_seeded (wsV RX11 78 RX7 yX7_become wsX7_become) := goodIn_app (goodIn_of _ (by decide +kernel)) ggX11_seeded_X7_become
set_option maxRecDepth 20000 in
theorem ggX11_seeded_X11_nextDraw : GoodIn wsX11_seeded wsX11_nextDraw := goodIn_r _ [16, 17] (by decide +kernel) (by decide +kernel)
set_option maxRecDepth 20000 in
theorem gX11_seeded_X11_nextDraw : GoodIn wsX11_seeded (va_wsS RX11 197 yX11_nextDraw wsX11_nextDraw) := goodIn_app (goodIn_of _ (by decide +kernel)) ggX11_seeded_X11_nextDraw
set_option maxRecDepth 20000 in
theorem ggX11_seeded_X11_drawnBelow : GoodIn wsX11_seeded wsX11_drawnBelow := goodIn_r _ [20, 21, 22] (by decide +kernel) (by decide +kernel)
set_option maxRecDepth 20000 in
theorem gX11_seeded_X11_drawnBelow : GoodIn wsX11_seeded (va_wsS RX11 200 yX11_drawnBelow wsX11_drawnBelow) := goodIn_app (goodIn_of _ (by decide +kernel)) ggX11_seeded_X11_drawnBelow
set_option maxRecDepth 20000 in
theorem ggX11_seeded_X7_ahead : GoodIn wsX11_seeded wsX7_ahead := goodIn_r _ [26, 11, 27, 28, 29, 7, 30, 12, 153, 154, 155, 156] (by decide +kernel) (by decide +kernel)
set_option maxRecDepth 20000 in
theorem gX11_seeded_X7_ahead : GoodIn wsX11_seeded (wsV RX11 203 RX7 yX7_ahead wsX7_ahead) := goodIn_app (goodIn_of _ (by decide +kernel)) ggX11_seeded_X7_ahead
set_option maxRecDepth 20000 in
theorem ggX11_seeded_X7_behind : GoodIn wsX11_seeded wsX7_behind := goodIn_r _ [34, 11, 27, 28, 29, 7, 30, 12, 153, 154, 155, 156] (by decide +kernel) (by decide +kernel)
set_option maxRecDepth 20000 in
theorem gX11_seeded_X7_behind : GoodIn wsX11_seeded (wsV RX11 206 RX7 yX7_behind wsX7_behind) := goodIn_app (goodIn_of _ (by decide +kernel)) ggX11_seeded_X7_behind
set_option maxRecDepth 20000 in
theorem ggX11_seeded_X7_steal : GoodIn wsX11_seeded wsX7_steal := goodIn_r _ [38, 10, 153, 154, 155, 156] (by decide +kernel) (by decide +kernel)
set_option maxRecDepth 20000 in
theorem gX11_seeded_X7_steal : GoodIn wsX11_seeded (wsV RX11 209 RX7 yX7_steal wsX7_steal) := goodIn_app (goodIn_of _ (by decide +kernel)) ggX11_seeded_X7_steal
set_option maxRecDepth 20000 in
theorem ggX11_seeded_X7_allBreaches : GoodIn wsX11_seeded wsX7_allBreaches := goodIn_r _ [42, 11, 43, 44, 45, 7, 46, 10, 47, 24, 25, 26, 27, 28, 29, 30, 12, 48, 49, 50, 51, 9, 52, 53, 54, 55, 56, 57, 58, 59, 60, 61, 62, 63, 64, 65, 66, 67, 68, 69, 70, 71, 72, 73, 74, 75, 76, 77, 78, 79, 80, 81, 82, 83, 84, 85, 86, 87, 88, 89, 90, 91, 92, 93, 94, 95, 96, 97, 98, 99, 100, 101, 102, 103, 104, 105, 106, 107, 108, 109, 110, 111, 112, 113, 114, 115, 116, 117, 118, 119, 120, 121, 122, 123, 124, 125, 126, 127, 128, 129, 130, 131, 132, 133, 134, 135, 136, 137, 138, 139, 140, 141, 32, 33, 34, 153, 154, 155, 156, 157, 158, 159, 160, 161, 162, 163, 164] (by decide +kernel) (by decide +kernel)
set_option maxRecDepth 20000 in
theorem gX11_seeded_X7_allBreaches : GoodIn wsX11_seeded (wsV RX11 146 RX7 yX7_allBreaches wsX7_allBreaches) := goodIn_app (goodIn_of _ (by decide +kernel)) ggX11_seeded_X7_allBreaches
theorem dX11_seeded_0 : decode cX11_seeded 0 = .ok (.iload_n 1, 1) := by decide +kernel
theorem dX11_seeded_1 : decode cX11_seeded 1 = .ok (.iconst 1, 1) := by decide +kernel
theorem dX11_seeded_2 : decode cX11_seeded 2 = .ok (.if_icmp .lt 9, 3) := by decide +kernel
theorem dX11_seeded_5 : decode cX11_seeded 5 = .ok (.iload_n 1, 1) := by decide +kernel
theorem dX11_seeded_6 : decode cX11_seeded 6 = .ok (.bipush 40, 2) := by decide +kernel
theorem dX11_seeded_8 : decode cX11_seeded 8 = .ok (.if_icmp .le 5, 3) := by decide +kernel
theorem dX11_seeded_11 : decode cX11_seeded 11 = .ok (.iconst (-1), 1) := by decide +kernel
theorem dX11_seeded_12 : decode cX11_seeded 12 = .ok (.ireturn, 1) := by decide +kernel
theorem dX11_seeded_13 : decode cX11_seeded 13 = .ok (.aload_n 0, 1) := by decide +kernel
theorem dX11_seeded_14 : decode cX11_seeded 14 = .ok (.getfield 10, 3) := by decide +kernel
theorem dX11_seeded_17 : decode cX11_seeded 17 = .ok (.getfield 126, 3) := by decide +kernel
theorem dX11_seeded_20 : decode cX11_seeded 20 = .ok (.ifCond .ne 6, 3) := by decide +kernel
theorem dX11_seeded_23 : decode cX11_seeded 23 = .ok (.bipush (-3), 2) := by decide +kernel
theorem dX11_seeded_25 : decode cX11_seeded 25 = .ok (.ireturn, 1) := by decide +kernel
theorem dX11_seeded_26 : decode cX11_seeded 26 = .ok (.aload_n 0, 1) := by decide +kernel
theorem dX11_seeded_27 : decode cX11_seeded 27 = .ok (.getfield 19, 3) := by decide +kernel
theorem dX11_seeded_30 : decode cX11_seeded 30 = .ok (.aload_n 0, 1) := by decide +kernel
theorem dX11_seeded_31 : decode cX11_seeded 31 = .ok (.getfield 10, 3) := by decide +kernel
theorem dX11_seeded_34 : decode cX11_seeded 34 = .ok (.invokevirtual 78, 3) := by decide +kernel
theorem dX11_seeded_37 : decode cX11_seeded 37 = .ok (.iload_n 2, 1) := by decide +kernel
theorem dX11_seeded_38 : decode cX11_seeded 38 = .ok (.istore_n 3, 1) := by decide +kernel
theorem dX11_seeded_39 : decode cX11_seeded 39 = .ok (.iconst 0, 1) := by decide +kernel
theorem dX11_seeded_40 : decode cX11_seeded 40 = .ok (.istore 4, 2) := by decide +kernel
theorem dX11_seeded_42 : decode cX11_seeded 42 = .ok (.iconst 0, 1) := by decide +kernel
theorem dX11_seeded_43 : decode cX11_seeded 43 = .ok (.istore 5, 2) := by decide +kernel
theorem dX11_seeded_45 : decode cX11_seeded 45 = .ok (.iload 5, 2) := by decide +kernel
theorem dX11_seeded_47 : decode cX11_seeded 47 = .ok (.iload_n 1, 1) := by decide +kernel
theorem dX11_seeded_48 : decode cX11_seeded 48 = .ok (.if_icmp .ge 87, 3) := by decide +kernel
theorem dX11_seeded_51 : decode cX11_seeded 51 = .ok (.iload_n 3, 1) := by decide +kernel
theorem dX11_seeded_52 : decode cX11_seeded 52 = .ok (.invokestatic 197, 3) := by decide +kernel
theorem dX11_seeded_55 : decode cX11_seeded 55 = .ok (.istore_n 3, 1) := by decide +kernel
theorem dX11_seeded_56 : decode cX11_seeded 56 = .ok (.iload_n 3, 1) := by decide +kernel
theorem dX11_seeded_57 : decode cX11_seeded 57 = .ok (.aload_n 0, 1) := by decide +kernel
theorem dX11_seeded_58 : decode cX11_seeded 58 = .ok (.getfield 19, 3) := by decide +kernel
theorem dX11_seeded_61 : decode cX11_seeded 61 = .ok (.getfield 126, 3) := by decide +kernel
theorem dX11_seeded_64 : decode cX11_seeded 64 = .ok (.invokestatic 200, 3) := by decide +kernel
theorem dX11_seeded_67 : decode cX11_seeded 67 = .ok (.istore 6, 2) := by decide +kernel
theorem dX11_seeded_69 : decode cX11_seeded 69 = .ok (.iload_n 3, 1) := by decide +kernel
theorem dX11_seeded_70 : decode cX11_seeded 70 = .ok (.invokestatic 197, 3) := by decide +kernel
theorem dX11_seeded_73 : decode cX11_seeded 73 = .ok (.istore_n 3, 1) := by decide +kernel
theorem dX11_seeded_74 : decode cX11_seeded 74 = .ok (.iload_n 3, 1) := by decide +kernel
theorem dX11_seeded_75 : decode cX11_seeded 75 = .ok (.iconst 2, 1) := by decide +kernel
theorem dX11_seeded_76 : decode cX11_seeded 76 = .ok (.invokestatic 200, 3) := by decide +kernel
theorem dX11_seeded_79 : decode cX11_seeded 79 = .ok (.ifCond .ne 15, 3) := by decide +kernel
theorem dX11_seeded_82 : decode cX11_seeded 82 = .ok (.aload_n 0, 1) := by decide +kernel
theorem dX11_seeded_83 : decode cX11_seeded 83 = .ok (.getfield 19, 3) := by decide +kernel
theorem dX11_seeded_86 : decode cX11_seeded 86 = .ok (.iload 6, 2) := by decide +kernel
theorem dX11_seeded_88 : decode cX11_seeded 88 = .ok (.invokevirtual 203, 3) := by decide +kernel
theorem dX11_seeded_91 : decode cX11_seeded 91 = .ok (.goto 12, 3) := by decide +kernel
theorem dX11_seeded_94 : decode cX11_seeded 94 = .ok (.aload_n 0, 1) := by decide +kernel
theorem dX11_seeded_95 : decode cX11_seeded 95 = .ok (.getfield 19, 3) := by decide +kernel
theorem dX11_seeded_98 : decode cX11_seeded 98 = .ok (.iload 6, 2) := by decide +kernel
theorem dX11_seeded_100 : decode cX11_seeded 100 = .ok (.invokevirtual 206, 3) := by decide +kernel
theorem dX11_seeded_103 : decode cX11_seeded 103 = .ok (.istore 7, 2) := by decide +kernel
theorem dX11_seeded_105 : decode cX11_seeded 105 = .ok (.aload_n 0, 1) := by decide +kernel
theorem dX11_seeded_106 : decode cX11_seeded 106 = .ok (.getfield 19, 3) := by decide +kernel
theorem dX11_seeded_109 : decode cX11_seeded 109 = .ok (.iload 6, 2) := by decide +kernel
theorem dX11_seeded_111 : decode cX11_seeded 111 = .ok (.iload 7, 2) := by decide +kernel
theorem dX11_seeded_113 : decode cX11_seeded 113 = .ok (.invokevirtual 209, 3) := by decide +kernel
theorem dX11_seeded_116 : decode cX11_seeded 116 = .ok (.aload_n 0, 1) := by decide +kernel
theorem dX11_seeded_117 : decode cX11_seeded 117 = .ok (.getfield 19, 3) := by decide +kernel
theorem dX11_seeded_120 : decode cX11_seeded 120 = .ok (.invokevirtual 146, 3) := by decide +kernel
theorem dX11_seeded_123 : decode cX11_seeded 123 = .ok (.ifCond .ne 6, 3) := by decide +kernel
theorem dX11_seeded_126 : decode cX11_seeded 126 = .ok (.iinc 4 1, 3) := by decide +kernel
theorem dX11_seeded_129 : decode cX11_seeded 129 = .ok (.iinc 5 1, 3) := by decide +kernel
theorem dX11_seeded_132 : decode cX11_seeded 132 = .ok (.goto (-87), 3) := by decide +kernel
theorem dX11_seeded_135 : decode cX11_seeded 135 = .ok (.iload 4, 2) := by decide +kernel
theorem dX11_seeded_137 : decode cX11_seeded 137 = .ok (.ireturn, 1) := by decide +kernel
set_option maxRecDepth 20000 in
theorem ggX11_judge_X11_rowRefusal : GoodIn wsX11_judge wsX11_rowRefusal := goodIn_r _ [15, 1, 16, 17, 14, 18, 19, 20, 21, 22, 23, 28, 29, 30, 31, 32, 33, 34, 35, 36, 37, 38] (by decide +kernel) (by decide +kernel)
set_option maxRecDepth 20000 in
theorem gX11_judge_X11_rowRefusal : GoodIn wsX11_judge (wsV RX11 212 RX11 yX11_rowRefusal wsX11_rowRefusal) := goodIn_app (goodIn_of _ (by decide +kernel)) ggX11_judge_X11_rowRefusal
set_option maxRecDepth 20000 in
theorem ggX11_judge_X11_leastOf : GoodIn wsX11_judge wsX11_leastOf := goodIn_r _ [26, 27] (by decide +kernel) (by decide +kernel)
set_option maxRecDepth 20000 in
theorem gX11_judge_X11_leastOf : GoodIn wsX11_judge (va_wsS RX11 215 yX11_leastOf wsX11_leastOf) := goodIn_app (goodIn_of _ (by decide +kernel)) ggX11_judge_X11_leastOf
theorem dX11_judge_0 : decode cX11_judge 0 = .ok (.aload_n 0, 1) := by decide +kernel
theorem dX11_judge_1 : decode cX11_judge 1 = .ok (.iload_n 1, 1) := by decide +kernel
theorem dX11_judge_2 : decode cX11_judge 2 = .ok (.invokevirtual 212, 3) := by decide +kernel
theorem dX11_judge_5 : decode cX11_judge 5 = .ok (.istore_n 2, 1) := by decide +kernel
theorem dX11_judge_6 : decode cX11_judge 6 = .ok (.iload_n 2, 1) := by decide +kernel
theorem dX11_judge_7 : decode cX11_judge 7 = .ok (.ifCond .eq 5, 3) := by decide +kernel
theorem dX11_judge_10 : decode cX11_judge 10 = .ok (.iload_n 2, 1) := by decide +kernel
theorem dX11_judge_11 : decode cX11_judge 11 = .ok (.ireturn, 1) := by decide +kernel
theorem dX11_judge_12 : decode cX11_judge 12 = .ok (.aload_n 0, 1) := by decide +kernel
theorem dX11_judge_13 : decode cX11_judge 13 = .ok (.getfield 49, 3) := by decide +kernel
theorem dX11_judge_16 : decode cX11_judge 16 = .ok (.iload_n 1, 1) := by decide +kernel
theorem dX11_judge_17 : decode cX11_judge 17 = .ok (.iaload, 1) := by decide +kernel
theorem dX11_judge_18 : decode cX11_judge 18 = .ok (.invokestatic 215, 3) := by decide +kernel
theorem dX11_judge_21 : decode cX11_judge 21 = .ok (.istore_n 3, 1) := by decide +kernel
theorem dX11_judge_22 : decode cX11_judge 22 = .ok (.aload_n 0, 1) := by decide +kernel
theorem dX11_judge_23 : decode cX11_judge 23 = .ok (.getfield 53, 3) := by decide +kernel
theorem dX11_judge_26 : decode cX11_judge 26 = .ok (.iload_n 1, 1) := by decide +kernel
theorem dX11_judge_27 : decode cX11_judge 27 = .ok (.iaload, 1) := by decide +kernel
theorem dX11_judge_28 : decode cX11_judge 28 = .ok (.aload_n 0, 1) := by decide +kernel
theorem dX11_judge_29 : decode cX11_judge 29 = .ok (.getfield 10, 3) := by decide +kernel
theorem dX11_judge_32 : decode cX11_judge 32 = .ok (.getfield 126, 3) := by decide +kernel
theorem dX11_judge_35 : decode cX11_judge 35 = .ok (.invokestatic 184, 3) := by decide +kernel
theorem dX11_judge_38 : decode cX11_judge 38 = .ok (.istore 4, 2) := by decide +kernel
theorem dX11_judge_40 : decode cX11_judge 40 = .ok (.iconst 0, 1) := by decide +kernel
theorem dX11_judge_41 : decode cX11_judge 41 = .ok (.istore 5, 2) := by decide +kernel
theorem dX11_judge_43 : decode cX11_judge 43 = .ok (.iload 5, 2) := by decide +kernel
theorem dX11_judge_45 : decode cX11_judge 45 = .ok (.iload 4, 2) := by decide +kernel
theorem dX11_judge_47 : decode cX11_judge 47 = .ok (.if_icmp .ge 47, 3) := by decide +kernel
theorem dX11_judge_50 : decode cX11_judge 50 = .ok (.aload_n 0, 1) := by decide +kernel
theorem dX11_judge_51 : decode cX11_judge 51 = .ok (.getfield 58, 3) := by decide +kernel
theorem dX11_judge_54 : decode cX11_judge 54 = .ok (.iload_n 1, 1) := by decide +kernel
theorem dX11_judge_55 : decode cX11_judge 55 = .ok (.aaload, 1) := by decide +kernel
theorem dX11_judge_56 : decode cX11_judge 56 = .ok (.iload 5, 2) := by decide +kernel
theorem dX11_judge_58 : decode cX11_judge 58 = .ok (.iaload, 1) := by decide +kernel
theorem dX11_judge_59 : decode cX11_judge 59 = .ok (.iload_n 3, 1) := by decide +kernel
theorem dX11_judge_60 : decode cX11_judge 60 = .ok (.if_icmp .eq 28, 3) := by decide +kernel
theorem dX11_judge_63 : decode cX11_judge 63 = .ok (.aload_n 0, 1) := by decide +kernel
theorem dX11_judge_64 : decode cX11_judge 64 = .ok (.getfield 58, 3) := by decide +kernel
theorem dX11_judge_67 : decode cX11_judge 67 = .ok (.iload_n 1, 1) := by decide +kernel
theorem dX11_judge_68 : decode cX11_judge 68 = .ok (.aaload, 1) := by decide +kernel
theorem dX11_judge_69 : decode cX11_judge 69 = .ok (.iload 5, 2) := by decide +kernel
theorem dX11_judge_71 : decode cX11_judge 71 = .ok (.iaload, 1) := by decide +kernel
theorem dX11_judge_72 : decode cX11_judge 72 = .ok (.aload_n 0, 1) := by decide +kernel
theorem dX11_judge_73 : decode cX11_judge 73 = .ok (.getfield 10, 3) := by decide +kernel
theorem dX11_judge_76 : decode cX11_judge 76 = .ok (.getfield 103, 3) := by decide +kernel
theorem dX11_judge_79 : decode cX11_judge 79 = .ok (.iload 5, 2) := by decide +kernel
theorem dX11_judge_81 : decode cX11_judge 81 = .ok (.iaload, 1) := by decide +kernel
theorem dX11_judge_82 : decode cX11_judge 82 = .ok (.if_icmp .eq 6, 3) := by decide +kernel
theorem dX11_judge_85 : decode cX11_judge 85 = .ok (.iload 5, 2) := by decide +kernel
theorem dX11_judge_87 : decode cX11_judge 87 = .ok (.ireturn, 1) := by decide +kernel
theorem dX11_judge_88 : decode cX11_judge 88 = .ok (.iinc 5 1, 3) := by decide +kernel
theorem dX11_judge_91 : decode cX11_judge 91 = .ok (.goto (-48), 3) := by decide +kernel
theorem dX11_judge_94 : decode cX11_judge 94 = .ok (.aload_n 0, 1) := by decide +kernel
theorem dX11_judge_95 : decode cX11_judge 95 = .ok (.getfield 53, 3) := by decide +kernel
theorem dX11_judge_98 : decode cX11_judge 98 = .ok (.iload_n 1, 1) := by decide +kernel
theorem dX11_judge_99 : decode cX11_judge 99 = .ok (.iaload, 1) := by decide +kernel
theorem dX11_judge_100 : decode cX11_judge 100 = .ok (.aload_n 0, 1) := by decide +kernel
theorem dX11_judge_101 : decode cX11_judge 101 = .ok (.getfield 10, 3) := by decide +kernel
theorem dX11_judge_104 : decode cX11_judge 104 = .ok (.getfield 126, 3) := by decide +kernel
theorem dX11_judge_107 : decode cX11_judge 107 = .ok (.if_icmp .ne 8, 3) := by decide +kernel
theorem dX11_judge_110 : decode cX11_judge 110 = .ok (.bipush (-4), 2) := by decide +kernel
theorem dX11_judge_112 : decode cX11_judge 112 = .ok (.goto 5, 3) := by decide +kernel
theorem dX11_judge_115 : decode cX11_judge 115 = .ok (.iload 4, 2) := by decide +kernel
theorem dX11_judge_117 : decode cX11_judge 117 = .ok (.ireturn, 1) := by decide +kernel
set_option maxRecDepth 20000 in
theorem ggX11_image_X7_become : GoodIn wsX11_image wsX7_become := goodIn_r _ [8, 9, 10, 11, 12, 28, 29, 30, 31] (by decide +kernel) (by decide +kernel)
set_option maxRecDepth 20000 in
theorem gX11_image_X7_become : GoodIn wsX11_image (wsV RX11 78 RX7 yX7_become wsX7_become) := goodIn_app (goodIn_of _ (by decide +kernel)) ggX11_image_X7_become
set_option maxRecDepth 20000 in
theorem ggX11_image_X7_allCoins : GoodIn wsX11_image wsX7_allCoins := goodIn_r _ [16, 11, 10, 28, 29, 30, 31] (by decide +kernel) (by decide +kernel)
set_option maxRecDepth 20000 in
theorem gX11_image_X7_allCoins : GoodIn wsX11_image (wsV RX11 143 RX7 yX7_allCoins wsX7_allCoins) := goodIn_app (goodIn_of _ (by decide +kernel)) ggX11_image_X7_allCoins
theorem dX11_image_0 : decode cX11_image 0 = .ok (.aload_n 0, 1) := by decide +kernel
theorem dX11_image_1 : decode cX11_image 1 = .ok (.getfield 16, 3) := by decide +kernel
theorem dX11_image_4 : decode cX11_image 4 = .ok (.aload_n 0, 1) := by decide +kernel
theorem dX11_image_5 : decode cX11_image 5 = .ok (.getfield 10, 3) := by decide +kernel
theorem dX11_image_8 : decode cX11_image 8 = .ok (.invokevirtual 78, 3) := by decide +kernel
theorem dX11_image_11 : decode cX11_image 11 = .ok (.aload_n 0, 1) := by decide +kernel
theorem dX11_image_12 : decode cX11_image 12 = .ok (.iconst 1, 1) := by decide +kernel
theorem dX11_image_13 : decode cX11_image 13 = .ok (.putfield 218, 3) := by decide +kernel
theorem dX11_image_16 : decode cX11_image 16 = .ok (.aload_n 0, 1) := by decide +kernel
theorem dX11_image_17 : decode cX11_image 17 = .ok (.getfield 10, 3) := by decide +kernel
theorem dX11_image_20 : decode cX11_image 20 = .ok (.invokevirtual 143, 3) := by decide +kernel
theorem dX11_image_23 : decode cX11_image 23 = .ok (.ireturn, 1) := by decide +kernel
set_option maxRecDepth 20000 in
theorem ggX11_restore_X7_become : GoodIn wsX11_restore wsX7_become := goodIn_r _ [8, 9, 10, 11, 12, 28, 29, 30, 31] (by decide +kernel) (by decide +kernel)
set_option maxRecDepth 20000 in
theorem gX11_restore_X7_become : GoodIn wsX11_restore (wsV RX11 78 RX7 yX7_become wsX7_become) := goodIn_app (goodIn_of _ (by decide +kernel)) ggX11_restore_X7_become
set_option maxRecDepth 20000 in
theorem ggX11_restore_X7_allCoins : GoodIn wsX11_restore wsX7_allCoins := goodIn_r _ [16, 11, 10, 28, 29, 30, 31] (by decide +kernel) (by decide +kernel)
set_option maxRecDepth 20000 in
theorem gX11_restore_X7_allCoins : GoodIn wsX11_restore (wsV RX11 143 RX7 yX7_allCoins wsX7_allCoins) := goodIn_app (goodIn_of _ (by decide +kernel)) ggX11_restore_X7_allCoins
theorem dX11_restore_0 : decode cX11_restore 0 = .ok (.aload_n 0, 1) := by decide +kernel
theorem dX11_restore_1 : decode cX11_restore 1 = .ok (.getfield 218, 3) := by decide +kernel
theorem dX11_restore_4 : decode cX11_restore 4 = .ok (.ifCond .ne 6, 3) := by decide +kernel
theorem dX11_restore_7 : decode cX11_restore 7 = .ok (.bipush (-3), 2) := by decide +kernel
theorem dX11_restore_9 : decode cX11_restore 9 = .ok (.ireturn, 1) := by decide +kernel
theorem dX11_restore_10 : decode cX11_restore 10 = .ok (.aload_n 0, 1) := by decide +kernel
theorem dX11_restore_11 : decode cX11_restore 11 = .ok (.getfield 10, 3) := by decide +kernel
theorem dX11_restore_14 : decode cX11_restore 14 = .ok (.aload_n 0, 1) := by decide +kernel
theorem dX11_restore_15 : decode cX11_restore 15 = .ok (.getfield 16, 3) := by decide +kernel
theorem dX11_restore_18 : decode cX11_restore 18 = .ok (.invokevirtual 78, 3) := by decide +kernel
theorem dX11_restore_21 : decode cX11_restore 21 = .ok (.aload_n 0, 1) := by decide +kernel
theorem dX11_restore_22 : decode cX11_restore 22 = .ok (.getfield 10, 3) := by decide +kernel
theorem dX11_restore_25 : decode cX11_restore 25 = .ok (.invokevirtual 143, 3) := by decide +kernel
theorem dX11_restore_28 : decode cX11_restore 28 = .ok (.ireturn, 1) := by decide +kernel
set_option maxRecDepth 20000 in
theorem ggX11_count_X7_allCoins : GoodIn wsX11_count wsX7_allCoins := goodIn_r _ [8, 9, 10, 137, 138, 139, 140] (by decide +kernel) (by decide +kernel)
set_option maxRecDepth 20000 in
theorem gX11_count_X7_allCoins : GoodIn wsX11_count (wsV RX11 143 RX7 yX7_allCoins wsX7_allCoins) := goodIn_app (goodIn_of _ (by decide +kernel)) ggX11_count_X7_allCoins
set_option maxRecDepth 20000 in
theorem ggX11_count_X7_housesWithoutBreach : GoodIn wsX11_count wsX7_housesWithoutBreach := goodIn_r _ [14, 9, 15, 16, 17, 7, 18, 10, 19, 20, 21, 22, 23, 24, 25, 26, 27, 28, 29, 30, 31, 32, 33, 34, 35, 36, 37, 38, 39, 40, 41, 42, 43, 44, 45, 46, 47, 48, 49, 50, 51, 52, 53, 54, 55, 56, 57, 58, 59, 60, 61, 62, 63, 64, 65, 66, 67, 68, 69, 70, 71, 72, 73, 74, 75, 76, 77, 78, 79, 80, 81, 82, 83, 84, 85, 86, 87, 88, 89, 90, 91, 92, 93, 94, 95, 96, 97, 98, 99, 100, 101, 102, 103, 104, 105, 106, 107, 108, 109, 110, 111, 112, 113, 114, 115, 116, 117, 118, 119, 120, 121, 122, 123, 124, 125, 137, 138, 139, 140, 141, 142, 143, 144, 145, 146, 147, 148] (by decide +kernel) (by decide +kernel)
set_option maxRecDepth 20000 in
theorem gX11_count_X7_housesWithoutBreach : GoodIn wsX11_count (wsV RX11 222 RX7 yX7_housesWithoutBreach wsX7_housesWithoutBreach) := goodIn_app (goodIn_of _ (by decide +kernel)) ggX11_count_X7_housesWithoutBreach
theorem dX11_count_0 : decode cX11_count 0 = .ok (.iload_n 1, 1) := by decide +kernel
theorem dX11_count_1 : decode cX11_count 1 = .ok (.tableswitch 63 0 3 #[31, 39, 47, 55], 31) := by decide +kernel
theorem dX11_count_32 : decode cX11_count 32 = .ok (.aload_n 0, 1) := by decide +kernel
theorem dX11_count_33 : decode cX11_count 33 = .ok (.getfield 10, 3) := by decide +kernel
theorem dX11_count_36 : decode cX11_count 36 = .ok (.getfield 126, 3) := by decide +kernel
theorem dX11_count_39 : decode cX11_count 39 = .ok (.ireturn, 1) := by decide +kernel
theorem dX11_count_40 : decode cX11_count 40 = .ok (.aload_n 0, 1) := by decide +kernel
theorem dX11_count_41 : decode cX11_count 41 = .ok (.getfield 10, 3) := by decide +kernel
theorem dX11_count_44 : decode cX11_count 44 = .ok (.getfield 133, 3) := by decide +kernel
theorem dX11_count_47 : decode cX11_count 47 = .ok (.ireturn, 1) := by decide +kernel
theorem dX11_count_48 : decode cX11_count 48 = .ok (.aload_n 0, 1) := by decide +kernel
theorem dX11_count_49 : decode cX11_count 49 = .ok (.getfield 10, 3) := by decide +kernel
theorem dX11_count_52 : decode cX11_count 52 = .ok (.invokevirtual 143, 3) := by decide +kernel
theorem dX11_count_55 : decode cX11_count 55 = .ok (.ireturn, 1) := by decide +kernel
theorem dX11_count_56 : decode cX11_count 56 = .ok (.aload_n 0, 1) := by decide +kernel
theorem dX11_count_57 : decode cX11_count 57 = .ok (.getfield 10, 3) := by decide +kernel
theorem dX11_count_60 : decode cX11_count 60 = .ok (.invokevirtual 222, 3) := by decide +kernel
theorem dX11_count_63 : decode cX11_count 63 = .ok (.ireturn, 1) := by decide +kernel
theorem dX11_count_64 : decode cX11_count 64 = .ok (.iconst (-1), 1) := by decide +kernel
theorem dX11_count_65 : decode cX11_count 65 = .ok (.ireturn, 1) := by decide +kernel
set_option maxRecDepth 20000 in
theorem ggX11_keep_X11_isShelf : GoodIn wsX11_keep wsX11_isShelf := goodIn_r _ [6] (by decide +kernel) (by decide +kernel)
set_option maxRecDepth 20000 in
theorem gX11_keep_X11_isShelf : GoodIn wsX11_keep (va_wsS RX11 225 yX11_isShelf wsX11_isShelf) := goodIn_app (goodIn_of _ (by decide +kernel)) ggX11_keep_X11_isShelf
set_option maxRecDepth 20000 in
theorem ggX11_keep_X11_isHouse : GoodIn wsX11_keep wsX11_isHouse := goodIn_r _ [9] (by decide +kernel) (by decide +kernel)
set_option maxRecDepth 20000 in
theorem gX11_keep_X11_isHouse : GoodIn wsX11_keep (va_wsS RX11 228 yX11_isHouse wsX11_isHouse) := goodIn_app (goodIn_of _ (by decide +kernel)) ggX11_keep_X11_isHouse
set_option maxRecDepth 20000 in
theorem ggX11_keep_X11_houseOfKind : GoodIn wsX11_keep wsX11_houseOfKind := goodIn_r _ [12, 13, 14, 15, 16, 17, 18, 19, 20, 21, 22, 23, 24, 25, 26, 27, 28, 29, 30, 31, 32, 33, 34, 35, 36, 37, 38, 39, 40, 41, 42, 43, 44, 45, 46, 47, 48, 49, 50, 51, 52, 53, 54, 55, 56, 57, 58, 59, 60, 61, 62, 63, 64, 65, 66, 67, 68, 69, 70, 71, 83, 84, 85, 86, 87, 88, 89, 90] (by decide +kernel) (by decide +kernel)
set_option maxRecDepth 20000 in
theorem gX11_keep_X11_houseOfKind : GoodIn wsX11_keep (va_wsS RX11 232 yX11_houseOfKind wsX11_houseOfKind) := goodIn_app (goodIn_of _ (by decide +kernel)) ggX11_keep_X11_houseOfKind
theorem dX11_keep_0 : decode cX11_keep 0 = .ok (.iload_n 1, 1) := by decide +kernel
theorem dX11_keep_1 : decode cX11_keep 1 = .ok (.invokestatic 225, 3) := by decide +kernel
theorem dX11_keep_4 : decode cX11_keep 4 = .ok (.ifCond .eq 12, 3) := by decide +kernel
theorem dX11_keep_7 : decode cX11_keep 7 = .ok (.iload_n 2, 1) := by decide +kernel
theorem dX11_keep_8 : decode cX11_keep 8 = .ok (.ifCond .lt 8, 3) := by decide +kernel
theorem dX11_keep_11 : decode cX11_keep 11 = .ok (.iload_n 2, 1) := by decide +kernel
theorem dX11_keep_12 : decode cX11_keep 12 = .ok (.iconst 1, 1) := by decide +kernel
theorem dX11_keep_13 : decode cX11_keep 13 = .ok (.if_icmp .le 5, 3) := by decide +kernel
theorem dX11_keep_16 : decode cX11_keep 16 = .ok (.iconst (-1), 1) := by decide +kernel
theorem dX11_keep_17 : decode cX11_keep 17 = .ok (.ireturn, 1) := by decide +kernel
theorem dX11_keep_18 : decode cX11_keep 18 = .ok (.iload_n 2, 1) := by decide +kernel
theorem dX11_keep_19 : decode cX11_keep 19 = .ok (.iconst 1, 1) := by decide +kernel
theorem dX11_keep_20 : decode cX11_keep 20 = .ok (.if_icmp .ne 14, 3) := by decide +kernel
theorem dX11_keep_23 : decode cX11_keep 23 = .ok (.iload_n 3, 1) := by decide +kernel
theorem dX11_keep_24 : decode cX11_keep 24 = .ok (.iload 4, 2) := by decide +kernel
theorem dX11_keep_26 : decode cX11_keep 26 = .ok (.invokestatic 228, 3) := by decide +kernel
theorem dX11_keep_29 : decode cX11_keep 29 = .ok (.ifCond .ne 5, 3) := by decide +kernel
theorem dX11_keep_32 : decode cX11_keep 32 = .ok (.iconst (-1), 1) := by decide +kernel
theorem dX11_keep_33 : decode cX11_keep 33 = .ok (.ireturn, 1) := by decide +kernel
theorem dX11_keep_34 : decode cX11_keep 34 = .ok (.aload_n 0, 1) := by decide +kernel
theorem dX11_keep_35 : decode cX11_keep 35 = .ok (.getfield 45, 3) := by decide +kernel
theorem dX11_keep_38 : decode cX11_keep 38 = .ok (.iload_n 1, 1) := by decide +kernel
theorem dX11_keep_39 : decode cX11_keep 39 = .ok (.iload_n 2, 1) := by decide +kernel
theorem dX11_keep_40 : decode cX11_keep 40 = .ok (.iconst 1, 1) := by decide +kernel
theorem dX11_keep_41 : decode cX11_keep 41 = .ok (.if_icmp .ne 12, 3) := by decide +kernel
theorem dX11_keep_44 : decode cX11_keep 44 = .ok (.iload_n 3, 1) := by decide +kernel
theorem dX11_keep_45 : decode cX11_keep 45 = .ok (.iload 4, 2) := by decide +kernel
theorem dX11_keep_47 : decode cX11_keep 47 = .ok (.invokestatic 232, 3) := by decide +kernel
theorem dX11_keep_50 : decode cX11_keep 50 = .ok (.goto 4, 3) := by decide +kernel
theorem dX11_keep_53 : decode cX11_keep 53 = .ok (.aconst_null, 1) := by decide +kernel
theorem dX11_keep_54 : decode cX11_keep 54 = .ok (.aastore, 1) := by decide +kernel
theorem dX11_keep_55 : decode cX11_keep 55 = .ok (.aload_n 0, 1) := by decide +kernel
theorem dX11_keep_56 : decode cX11_keep 56 = .ok (.getfield 49, 3) := by decide +kernel
theorem dX11_keep_59 : decode cX11_keep 59 = .ok (.iload_n 1, 1) := by decide +kernel
theorem dX11_keep_60 : decode cX11_keep 60 = .ok (.iconst (-1), 1) := by decide +kernel
theorem dX11_keep_61 : decode cX11_keep 61 = .ok (.iastore, 1) := by decide +kernel
theorem dX11_keep_62 : decode cX11_keep 62 = .ok (.iconst 0, 1) := by decide +kernel
theorem dX11_keep_63 : decode cX11_keep 63 = .ok (.ireturn, 1) := by decide +kernel
set_option maxRecDepth 20000 in
theorem ggX11_row_X11_isShelf : GoodIn wsX11_row wsX11_isShelf := goodIn_r _ [8] (by decide +kernel) (by decide +kernel)
set_option maxRecDepth 20000 in
theorem gX11_row_X11_isShelf : GoodIn wsX11_row (va_wsS RX11 225 yX11_isShelf wsX11_isShelf) := goodIn_app (goodIn_of _ (by decide +kernel)) ggX11_row_X11_isShelf
set_option maxRecDepth 20000 in
theorem ggX11_row_J7_fill_53178 : GoodIn wsX11_row wsJ7_fill_53178 := goodIn_r _ [12] (by decide +kernel) (by decide +kernel)
set_option maxRecDepth 20000 in
theorem gX11_row_J7_fill_53178 : GoodIn wsX11_row (va_wsS RX11 61 yJ7_fill_53178 wsJ7_fill_53178) := goodIn_app (goodIn_of _ (by decide +kernel)) ggX11_row_J7_fill_53178
theorem dX11_row_0 : decode cX11_row 0 = .ok (.iload_n 1, 1) := by decide +kernel
theorem dX11_row_1 : decode cX11_row 1 = .ok (.invokestatic 225, 3) := by decide +kernel
theorem dX11_row_4 : decode cX11_row 4 = .ok (.ifCond .eq 18, 3) := by decide +kernel
theorem dX11_row_7 : decode cX11_row 7 = .ok (.iload_n 2, 1) := by decide +kernel
theorem dX11_row_8 : decode cX11_row 8 = .ok (.ifCond .lt 14, 3) := by decide +kernel
theorem dX11_row_11 : decode cX11_row 11 = .ok (.iload_n 2, 1) := by decide +kernel
theorem dX11_row_12 : decode cX11_row 12 = .ok (.iconst 2, 1) := by decide +kernel
theorem dX11_row_13 : decode cX11_row 13 = .ok (.if_icmp .gt 9, 3) := by decide +kernel
theorem dX11_row_16 : decode cX11_row 16 = .ok (.iload_n 3, 1) := by decide +kernel
theorem dX11_row_17 : decode cX11_row 17 = .ok (.bipush 100, 2) := by decide +kernel
theorem dX11_row_19 : decode cX11_row 19 = .ok (.if_icmp .le 5, 3) := by decide +kernel
theorem dX11_row_22 : decode cX11_row 22 = .ok (.iconst (-1), 1) := by decide +kernel
theorem dX11_row_23 : decode cX11_row 23 = .ok (.ireturn, 1) := by decide +kernel
theorem dX11_row_24 : decode cX11_row 24 = .ok (.iload_n 3, 1) := by decide +kernel
theorem dX11_row_25 : decode cX11_row 25 = .ok (.ifCond .ge 6, 3) := by decide +kernel
theorem dX11_row_28 : decode cX11_row 28 = .ok (.bipush (-14), 2) := by decide +kernel
theorem dX11_row_30 : decode cX11_row 30 = .ok (.ireturn, 1) := by decide +kernel
theorem dX11_row_31 : decode cX11_row 31 = .ok (.aload_n 0, 1) := by decide +kernel
theorem dX11_row_32 : decode cX11_row 32 = .ok (.getfield 45, 3) := by decide +kernel
theorem dX11_row_35 : decode cX11_row 35 = .ok (.iload_n 1, 1) := by decide +kernel
theorem dX11_row_36 : decode cX11_row 36 = .ok (.aconst_null, 1) := by decide +kernel
theorem dX11_row_37 : decode cX11_row 37 = .ok (.aastore, 1) := by decide +kernel
theorem dX11_row_38 : decode cX11_row 38 = .ok (.aload_n 0, 1) := by decide +kernel
theorem dX11_row_39 : decode cX11_row 39 = .ok (.getfield 49, 3) := by decide +kernel
theorem dX11_row_42 : decode cX11_row 42 = .ok (.iload_n 1, 1) := by decide +kernel
theorem dX11_row_43 : decode cX11_row 43 = .ok (.iload_n 2, 1) := by decide +kernel
theorem dX11_row_44 : decode cX11_row 44 = .ok (.iastore, 1) := by decide +kernel
theorem dX11_row_45 : decode cX11_row 45 = .ok (.aload_n 0, 1) := by decide +kernel
theorem dX11_row_46 : decode cX11_row 46 = .ok (.getfield 53, 3) := by decide +kernel
theorem dX11_row_49 : decode cX11_row 49 = .ok (.iload_n 1, 1) := by decide +kernel
theorem dX11_row_50 : decode cX11_row 50 = .ok (.iload_n 3, 1) := by decide +kernel
theorem dX11_row_51 : decode cX11_row 51 = .ok (.iastore, 1) := by decide +kernel
theorem dX11_row_52 : decode cX11_row 52 = .ok (.aload_n 0, 1) := by decide +kernel
theorem dX11_row_53 : decode cX11_row 53 = .ok (.getfield 58, 3) := by decide +kernel
theorem dX11_row_56 : decode cX11_row 56 = .ok (.iload_n 1, 1) := by decide +kernel
theorem dX11_row_57 : decode cX11_row 57 = .ok (.aaload, 1) := by decide +kernel
theorem dX11_row_58 : decode cX11_row 58 = .ok (.iconst 0, 1) := by decide +kernel
theorem dX11_row_59 : decode cX11_row 59 = .ok (.invokestatic 61, 3) := by decide +kernel
theorem dX11_row_62 : decode cX11_row 62 = .ok (.iconst 0, 1) := by decide +kernel
theorem dX11_row_63 : decode cX11_row 63 = .ok (.ireturn, 1) := by decide +kernel
set_option maxRecDepth 20000 in
theorem ggX11_put_X11_rowRefusal : GoodIn wsX11_put wsX11_rowRefusal := goodIn_r _ [7, 2, 8, 9, 6, 10, 11, 12, 13, 14, 15, 24, 25, 26, 27, 28, 29, 30, 31, 32, 33, 34] (by decide +kernel) (by decide +kernel)
set_option maxRecDepth 20000 in
theorem gX11_put_X11_rowRefusal : GoodIn wsX11_put (wsV RX11 212 RX11 yX11_rowRefusal wsX11_rowRefusal) := goodIn_app (goodIn_of _ (by decide +kernel)) ggX11_put_X11_rowRefusal
set_option maxRecDepth 20000 in
theorem ggX11_put_X11_isPlace : GoodIn wsX11_put wsX11_isPlace := goodIn_r _ [19, 20, 24, 25, 26, 27, 28, 29, 30, 31, 32, 33, 34] (by decide +kernel) (by decide +kernel)
set_option maxRecDepth 20000 in
theorem gX11_put_X11_isPlace : GoodIn wsX11_put (wsV RX11 236 RX11 yX11_isPlace wsX11_isPlace) := goodIn_app (goodIn_of _ (by decide +kernel)) ggX11_put_X11_isPlace
set_option maxRecDepth 20000 in
theorem ggX11_put_X11_lowestBits : GoodIn wsX11_put wsX11_lowestBits := goodIn_r _ [23] (by decide +kernel) (by decide +kernel)
set_option maxRecDepth 20000 in
theorem gX11_put_X11_lowestBits : GoodIn wsX11_put (va_wsS RX11 239 yX11_lowestBits wsX11_lowestBits) := goodIn_app (goodIn_of _ (by decide +kernel)) ggX11_put_X11_lowestBits
theorem dX11_put_0 : decode cX11_put 0 = .ok (.aload_n 0, 1) := by decide +kernel
theorem dX11_put_1 : decode cX11_put 1 = .ok (.iload_n 1, 1) := by decide +kernel
theorem dX11_put_2 : decode cX11_put 2 = .ok (.invokevirtual 212, 3) := by decide +kernel
theorem dX11_put_5 : decode cX11_put 5 = .ok (.istore 4, 2) := by decide +kernel
theorem dX11_put_7 : decode cX11_put 7 = .ok (.iload 4, 2) := by decide +kernel
theorem dX11_put_9 : decode cX11_put 9 = .ok (.ifCond .eq 6, 3) := by decide +kernel
theorem dX11_put_12 : decode cX11_put 12 = .ok (.iload 4, 2) := by decide +kernel
theorem dX11_put_14 : decode cX11_put 14 = .ok (.ireturn, 1) := by decide +kernel
theorem dX11_put_15 : decode cX11_put 15 = .ok (.aload_n 0, 1) := by decide +kernel
theorem dX11_put_16 : decode cX11_put 16 = .ok (.iload_n 1, 1) := by decide +kernel
theorem dX11_put_17 : decode cX11_put 17 = .ok (.iload_n 2, 1) := by decide +kernel
theorem dX11_put_18 : decode cX11_put 18 = .ok (.invokevirtual 236, 3) := by decide +kernel
theorem dX11_put_21 : decode cX11_put 21 = .ok (.ifCond .ne 6, 3) := by decide +kernel
theorem dX11_put_24 : decode cX11_put 24 = .ok (.bipush (-13), 2) := by decide +kernel
theorem dX11_put_26 : decode cX11_put 26 = .ok (.ireturn, 1) := by decide +kernel
theorem dX11_put_27 : decode cX11_put 27 = .ok (.aload_n 0, 1) := by decide +kernel
theorem dX11_put_28 : decode cX11_put 28 = .ok (.getfield 58, 3) := by decide +kernel
theorem dX11_put_31 : decode cX11_put 31 = .ok (.iload_n 1, 1) := by decide +kernel
theorem dX11_put_32 : decode cX11_put 32 = .ok (.aaload, 1) := by decide +kernel
theorem dX11_put_33 : decode cX11_put 33 = .ok (.iload_n 2, 1) := by decide +kernel
theorem dX11_put_34 : decode cX11_put 34 = .ok (.aload_n 0, 1) := by decide +kernel
theorem dX11_put_35 : decode cX11_put 35 = .ok (.getfield 49, 3) := by decide +kernel
theorem dX11_put_38 : decode cX11_put 38 = .ok (.iload_n 1, 1) := by decide +kernel
theorem dX11_put_39 : decode cX11_put 39 = .ok (.iaload, 1) := by decide +kernel
theorem dX11_put_40 : decode cX11_put 40 = .ok (.iload_n 3, 1) := by decide +kernel
theorem dX11_put_41 : decode cX11_put 41 = .ok (.invokestatic 239, 3) := by decide +kernel
theorem dX11_put_44 : decode cX11_put 44 = .ok (.iastore, 1) := by decide +kernel
theorem dX11_put_45 : decode cX11_put 45 = .ok (.iconst 0, 1) := by decide +kernel
theorem dX11_put_46 : decode cX11_put 46 = .ok (.ireturn, 1) := by decide +kernel
set_option maxRecDepth 20000 in
theorem ggX11_element_X11_isShelf : GoodIn wsX11_element wsX11_isShelf := goodIn_r _ [10] (by decide +kernel) (by decide +kernel)
set_option maxRecDepth 20000 in
theorem gX11_element_X11_isShelf : GoodIn wsX11_element (va_wsS RX11 225 yX11_isShelf wsX11_isShelf) := goodIn_app (goodIn_of _ (by decide +kernel)) ggX11_element_X11_isShelf
set_option maxRecDepth 20000 in
theorem ggX11_element_X11_isPlace : GoodIn wsX11_element wsX11_isPlace := goodIn_r _ [14, 15, 16, 17, 18, 19, 20, 21, 22, 23, 24, 25, 26] (by decide +kernel) (by decide +kernel)
set_option maxRecDepth 20000 in
theorem gX11_element_X11_isPlace : GoodIn wsX11_element (wsV RX11 236 RX11 yX11_isPlace wsX11_isPlace) := goodIn_app (goodIn_of _ (by decide +kernel)) ggX11_element_X11_isPlace
theorem dX11_element_0 : decode cX11_element 0 = .ok (.iload_n 1, 1) := by decide +kernel
theorem dX11_element_1 : decode cX11_element 1 = .ok (.invokestatic 225, 3) := by decide +kernel
theorem dX11_element_4 : decode cX11_element 4 = .ok (.ifCond .ne 13, 3) := by decide +kernel
theorem dX11_element_7 : decode cX11_element 7 = .ok (.new 242, 3) := by decide +kernel
theorem dX11_element_10 : decode cX11_element 10 = .ok (.dup, 1) := by decide +kernel
theorem dX11_element_11 : decode cX11_element 11 = .ok (.ldc 244, 2) := by decide +kernel
theorem dX11_element_13 : decode cX11_element 13 = .ok (.invokespecial 246, 3) := by decide +kernel
theorem dX11_element_16 : decode cX11_element 16 = .ok (.athrow, 1) := by decide +kernel
theorem dX11_element_17 : decode cX11_element 17 = .ok (.aload_n 0, 1) := by decide +kernel
theorem dX11_element_18 : decode cX11_element 18 = .ok (.getfield 49, 3) := by decide +kernel
theorem dX11_element_21 : decode cX11_element 21 = .ok (.iload_n 1, 1) := by decide +kernel
theorem dX11_element_22 : decode cX11_element 22 = .ok (.iaload, 1) := by decide +kernel
theorem dX11_element_23 : decode cX11_element 23 = .ok (.iconst (-1), 1) := by decide +kernel
theorem dX11_element_24 : decode cX11_element 24 = .ok (.if_icmp .eq 12, 3) := by decide +kernel
theorem dX11_element_27 : decode cX11_element 27 = .ok (.aload_n 0, 1) := by decide +kernel
theorem dX11_element_28 : decode cX11_element 28 = .ok (.iload_n 1, 1) := by decide +kernel
theorem dX11_element_29 : decode cX11_element 29 = .ok (.iload_n 2, 1) := by decide +kernel
theorem dX11_element_30 : decode cX11_element 30 = .ok (.invokevirtual 236, 3) := by decide +kernel
theorem dX11_element_33 : decode cX11_element 33 = .ok (.ifCond .ne 13, 3) := by decide +kernel
theorem dX11_element_36 : decode cX11_element 36 = .ok (.new 249, 3) := by decide +kernel
theorem dX11_element_39 : decode cX11_element 39 = .ok (.dup, 1) := by decide +kernel
theorem dX11_element_40 : decode cX11_element 40 = .ok (.ldc 251, 2) := by decide +kernel
theorem dX11_element_42 : decode cX11_element 42 = .ok (.invokespecial 253, 3) := by decide +kernel
theorem dX11_element_45 : decode cX11_element 45 = .ok (.athrow, 1) := by decide +kernel
theorem dX11_element_46 : decode cX11_element 46 = .ok (.aload_n 0, 1) := by decide +kernel
theorem dX11_element_47 : decode cX11_element 47 = .ok (.getfield 58, 3) := by decide +kernel
theorem dX11_element_50 : decode cX11_element 50 = .ok (.iload_n 1, 1) := by decide +kernel
theorem dX11_element_51 : decode cX11_element 51 = .ok (.aaload, 1) := by decide +kernel
theorem dX11_element_52 : decode cX11_element 52 = .ok (.iload_n 2, 1) := by decide +kernel
theorem dX11_element_53 : decode cX11_element 53 = .ok (.iaload, 1) := by decide +kernel
theorem dX11_element_54 : decode cX11_element 54 = .ok (.i2l, 1) := by decide +kernel
theorem dX11_element_55 : decode cX11_element 55 = .ok (.lreturn, 1) := by decide +kernel
set_option maxRecDepth 20000 in
theorem ggX11_copy_X11_isShelf : GoodIn wsX11_copy wsX11_isShelf := goodIn_r _ [10] (by decide +kernel) (by decide +kernel)
set_option maxRecDepth 20000 in
theorem gX11_copy_X11_isShelf : GoodIn wsX11_copy (va_wsS RX11 225 yX11_isShelf wsX11_isShelf) := goodIn_app (goodIn_of _ (by decide +kernel)) ggX11_copy_X11_isShelf
set_option maxRecDepth 20000 in
theorem ggX11_copy_X11_holdsNothing : GoodIn wsX11_copy wsX11_holdsNothing := goodIn_r _ [14, 15, 1, 21, 22, 23, 24, 25, 26, 27, 28, 29, 30, 31] (by decide +kernel) (by decide +kernel)
set_option maxRecDepth 20000 in
theorem gX11_copy_X11_holdsNothing : GoodIn wsX11_copy (wsV RX11 254 RX11 yX11_holdsNothing wsX11_holdsNothing) := goodIn_app (goodIn_of _ (by decide +kernel)) ggX11_copy_X11_holdsNothing
set_option maxRecDepth 20000 in
theorem ggX11_copy_X11_isStretch : GoodIn wsX11_copy wsX11_isStretch := goodIn_r _ [19, 20, 21, 22, 23, 24, 25, 26, 27, 28, 29, 30, 31] (by decide +kernel) (by decide +kernel)
set_option maxRecDepth 20000 in
theorem gX11_copy_X11_isStretch : GoodIn wsX11_copy (wsV RX11 257 RX11 yX11_isStretch wsX11_isStretch) := goodIn_app (goodIn_of _ (by decide +kernel)) ggX11_copy_X11_isStretch
theorem dX11_copy_0 : decode cX11_copy 0 = .ok (.iload_n 1, 1) := by decide +kernel
theorem dX11_copy_1 : decode cX11_copy 1 = .ok (.invokestatic 225, 3) := by decide +kernel
theorem dX11_copy_4 : decode cX11_copy 4 = .ok (.ifCond .eq 10, 3) := by decide +kernel
theorem dX11_copy_7 : decode cX11_copy 7 = .ok (.iload_n 3, 1) := by decide +kernel
theorem dX11_copy_8 : decode cX11_copy 8 = .ok (.invokestatic 225, 3) := by decide +kernel
theorem dX11_copy_11 : decode cX11_copy 11 = .ok (.ifCond .ne 5, 3) := by decide +kernel
theorem dX11_copy_14 : decode cX11_copy 14 = .ok (.iconst (-1), 1) := by decide +kernel
theorem dX11_copy_15 : decode cX11_copy 15 = .ok (.ireturn, 1) := by decide +kernel
theorem dX11_copy_16 : decode cX11_copy 16 = .ok (.aload_n 0, 1) := by decide +kernel
theorem dX11_copy_17 : decode cX11_copy 17 = .ok (.iload_n 1, 1) := by decide +kernel
theorem dX11_copy_18 : decode cX11_copy 18 = .ok (.invokevirtual 254, 3) := by decide +kernel
theorem dX11_copy_21 : decode cX11_copy 21 = .ok (.ifCond .ne 11, 3) := by decide +kernel
theorem dX11_copy_24 : decode cX11_copy 24 = .ok (.aload_n 0, 1) := by decide +kernel
theorem dX11_copy_25 : decode cX11_copy 25 = .ok (.iload_n 3, 1) := by decide +kernel
theorem dX11_copy_26 : decode cX11_copy 26 = .ok (.invokevirtual 254, 3) := by decide +kernel
theorem dX11_copy_29 : decode cX11_copy 29 = .ok (.ifCond .eq 6, 3) := by decide +kernel
theorem dX11_copy_32 : decode cX11_copy 32 = .ok (.bipush (-11), 2) := by decide +kernel
theorem dX11_copy_34 : decode cX11_copy 34 = .ok (.ireturn, 1) := by decide +kernel
theorem dX11_copy_35 : decode cX11_copy 35 = .ok (.aload_n 0, 1) := by decide +kernel
theorem dX11_copy_36 : decode cX11_copy 36 = .ok (.getfield 49, 3) := by decide +kernel
theorem dX11_copy_39 : decode cX11_copy 39 = .ok (.iload_n 1, 1) := by decide +kernel
theorem dX11_copy_40 : decode cX11_copy 40 = .ok (.iaload, 1) := by decide +kernel
theorem dX11_copy_41 : decode cX11_copy 41 = .ok (.iconst (-1), 1) := by decide +kernel
theorem dX11_copy_42 : decode cX11_copy 42 = .ok (.if_icmp .eq 18, 3) := by decide +kernel
theorem dX11_copy_45 : decode cX11_copy 45 = .ok (.aload_n 0, 1) := by decide +kernel
theorem dX11_copy_46 : decode cX11_copy 46 = .ok (.getfield 49, 3) := by decide +kernel
theorem dX11_copy_49 : decode cX11_copy 49 = .ok (.iload_n 1, 1) := by decide +kernel
theorem dX11_copy_50 : decode cX11_copy 50 = .ok (.iaload, 1) := by decide +kernel
theorem dX11_copy_51 : decode cX11_copy 51 = .ok (.aload_n 0, 1) := by decide +kernel
theorem dX11_copy_52 : decode cX11_copy 52 = .ok (.getfield 49, 3) := by decide +kernel
theorem dX11_copy_55 : decode cX11_copy 55 = .ok (.iload_n 3, 1) := by decide +kernel
theorem dX11_copy_56 : decode cX11_copy 56 = .ok (.iaload, 1) := by decide +kernel
theorem dX11_copy_57 : decode cX11_copy 57 = .ok (.if_icmp .eq 6, 3) := by decide +kernel
theorem dX11_copy_60 : decode cX11_copy 60 = .ok (.bipush (-12), 2) := by decide +kernel
theorem dX11_copy_62 : decode cX11_copy 62 = .ok (.ireturn, 1) := by decide +kernel
theorem dX11_copy_63 : decode cX11_copy 63 = .ok (.iload 5, 2) := by decide +kernel
theorem dX11_copy_65 : decode cX11_copy 65 = .ok (.ifCond .lt 26, 3) := by decide +kernel
theorem dX11_copy_68 : decode cX11_copy 68 = .ok (.aload_n 0, 1) := by decide +kernel
theorem dX11_copy_69 : decode cX11_copy 69 = .ok (.iload_n 1, 1) := by decide +kernel
theorem dX11_copy_70 : decode cX11_copy 70 = .ok (.iload_n 2, 1) := by decide +kernel
theorem dX11_copy_71 : decode cX11_copy 71 = .ok (.iload 5, 2) := by decide +kernel
theorem dX11_copy_73 : decode cX11_copy 73 = .ok (.invokevirtual 257, 3) := by decide +kernel
theorem dX11_copy_76 : decode cX11_copy 76 = .ok (.ifCond .eq 15, 3) := by decide +kernel
theorem dX11_copy_79 : decode cX11_copy 79 = .ok (.aload_n 0, 1) := by decide +kernel
theorem dX11_copy_80 : decode cX11_copy 80 = .ok (.iload_n 3, 1) := by decide +kernel
theorem dX11_copy_81 : decode cX11_copy 81 = .ok (.iload 4, 2) := by decide +kernel
theorem dX11_copy_83 : decode cX11_copy 83 = .ok (.iload 5, 2) := by decide +kernel
theorem dX11_copy_85 : decode cX11_copy 85 = .ok (.invokevirtual 257, 3) := by decide +kernel
theorem dX11_copy_88 : decode cX11_copy 88 = .ok (.ifCond .ne 6, 3) := by decide +kernel
theorem dX11_copy_91 : decode cX11_copy 91 = .ok (.bipush (-13), 2) := by decide +kernel
theorem dX11_copy_93 : decode cX11_copy 93 = .ok (.ireturn, 1) := by decide +kernel
theorem dX11_copy_94 : decode cX11_copy 94 = .ok (.aload_n 0, 1) := by decide +kernel
theorem dX11_copy_95 : decode cX11_copy 95 = .ok (.getfield 58, 3) := by decide +kernel
theorem dX11_copy_98 : decode cX11_copy 98 = .ok (.iload_n 1, 1) := by decide +kernel
theorem dX11_copy_99 : decode cX11_copy 99 = .ok (.aaload, 1) := by decide +kernel
theorem dX11_copy_100 : decode cX11_copy 100 = .ok (.iload_n 2, 1) := by decide +kernel
theorem dX11_copy_101 : decode cX11_copy 101 = .ok (.aload_n 0, 1) := by decide +kernel
theorem dX11_copy_102 : decode cX11_copy 102 = .ok (.getfield 58, 3) := by decide +kernel
theorem dX11_copy_105 : decode cX11_copy 105 = .ok (.iload_n 3, 1) := by decide +kernel
theorem dX11_copy_106 : decode cX11_copy 106 = .ok (.aaload, 1) := by decide +kernel
theorem dX11_copy_107 : decode cX11_copy 107 = .ok (.iload 4, 2) := by decide +kernel
theorem dX11_copy_109 : decode cX11_copy 109 = .ok (.iload 5, 2) := by decide +kernel
theorem dX11_copy_111 : decode cX11_copy 111 = .ok (.invokestatic 261, 3) := by decide +kernel
theorem dX11_copy_114 : decode cX11_copy 114 = .ok (.iload 5, 2) := by decide +kernel
theorem dX11_copy_116 : decode cX11_copy 116 = .ok (.ireturn, 1) := by decide +kernel
set_option maxRecDepth 20000 in
theorem ggX11_fee_X11_houseRefusal : GoodIn wsX11_fee wsX11_houseRefusal := goodIn_r _ [6, 1, 7, 8, 5, 9, 10, 11, 12, 13, 14, 74, 75, 76, 77, 78, 79, 80, 81, 82, 83, 84] (by decide +kernel) (by decide +kernel)
set_option maxRecDepth 20000 in
theorem gX11_fee_X11_houseRefusal : GoodIn wsX11_fee (wsV RX11 123 RX11 yX11_houseRefusal wsX11_houseRefusal) := goodIn_app (goodIn_of _ (by decide +kernel)) ggX11_fee_X11_houseRefusal
set_option maxRecDepth 20000 in
theorem ggX11_fee_X0_price : GoodIn wsX11_fee wsX0_price := goodIn_r _ [21, 22, 23, 24, 25, 26, 27, 28, 29, 30, 16, 31, 32, 33, 34, 85, 86, 87, 88, 89, 90, 91, 92] (by decide +kernel) (by decide +kernel)
set_option maxRecDepth 20000 in
theorem gX11_fee_X0_price_u267X0 : GoodIn wsX11_fee (va_wsO RX11 267 RX0 "TwiceAsRich$House" ⟨"TwiceAsRich$House", "price", "()I"⟩ yX0_price wsX0_price) := goodIn_app (goodIn_of _ (by decide +kernel)) ggX11_fee_X0_price
set_option maxRecDepth 20000 in
theorem ggX11_fee_X1_price : GoodIn wsX11_fee wsX1_price := goodIn_r _ [38, 39, 40, 41, 42, 43, 44, 45, 16, 46, 32, 33, 34] (by decide +kernel) (by decide +kernel)
set_option maxRecDepth 20000 in
theorem gX11_fee_X1_price_u267X1 : GoodIn wsX11_fee (va_wsO RX11 267 RX1 "TwiceAsRich$House" ⟨"TwiceAsRich$House", "price", "()I"⟩ yX1_price wsX1_price) := goodIn_app (goodIn_of _ (by decide +kernel)) ggX11_fee_X1_price
set_option maxRecDepth 20000 in
theorem ggX11_fee_X2_price : GoodIn wsX11_fee wsX2_price := goodIn_r _ [50, 51, 52, 53, 16, 54, 32, 33, 34, 85, 86, 87, 88, 89, 90, 91, 92] (by decide +kernel) (by decide +kernel)
set_option maxRecDepth 20000 in
theorem gX11_fee_X2_price_u267X2 : GoodIn wsX11_fee (va_wsO RX11 267 RX2 "TwiceAsRich$House" ⟨"TwiceAsRich$House", "price", "()I"⟩ yX2_price wsX2_price) := goodIn_app (goodIn_of _ (by decide +kernel)) ggX11_fee_X2_price
set_option maxRecDepth 20000 in
theorem ggX11_fee_X3_price : GoodIn wsX11_fee wsX3_price := goodIn_r _ [34] (by decide +kernel) (by decide +kernel)
set_option maxRecDepth 20000 in
theorem gX11_fee_X3_price : GoodIn wsX11_fee (wsV RX11 267 RX3 yX3_price wsX3_price) := goodIn_app (goodIn_of _ (by decide +kernel)) ggX11_fee_X3_price
set_option maxRecDepth 20000 in
theorem ggX11_fee_X4_price : GoodIn wsX11_fee wsX4_price := goodIn_r _ [60, 61, 62, 63, 48, 49, 50, 51, 52, 53, 16, 54, 32, 33, 34, 85, 86, 87, 88, 89, 90, 91, 92] (by decide +kernel) (by decide +kernel)
set_option maxRecDepth 20000 in
theorem gX11_fee_X4_price_u267X4 : GoodIn wsX11_fee (va_wsO RX11 267 RX4 "TwiceAsRich$House" ⟨"TwiceAsRich$House", "price", "()I"⟩ yX4_price wsX4_price) := goodIn_app (goodIn_of _ (by decide +kernel)) ggX11_fee_X4_price
set_option maxRecDepth 20000 in
theorem ggX11_fee_X6_price : GoodIn wsX11_fee wsX6_price := goodIn_r _ [29, 30, 16, 31, 32, 33, 34] (by decide +kernel) (by decide +kernel)
set_option maxRecDepth 20000 in
theorem gX11_fee_X6_price_u267X6 : GoodIn wsX11_fee (va_wsO RX11 267 RX6 "TwiceAsRich$House" ⟨"TwiceAsRich$House", "price", "()I"⟩ yX6_price wsX6_price) := goodIn_app (goodIn_of _ (by decide +kernel)) ggX11_fee_X6_price
set_option maxRecDepth 20000 in
theorem ggX11_fee_X9_price : GoodIn wsX11_fee wsX9_price := goodIn_r _ [68, 69, 70, 71, 62, 72, 48, 49, 50, 51, 52, 53, 16, 54, 32, 33, 34, 85, 86, 87, 88, 89, 90, 91, 92] (by decide +kernel) (by decide +kernel)
set_option maxRecDepth 20000 in
theorem gX11_fee_X9_price_u267X9 : GoodIn wsX11_fee (va_wsO RX11 267 RX9 "TwiceAsRich$House" ⟨"TwiceAsRich$House", "price", "()I"⟩ yX9_price wsX9_price) := goodIn_app (goodIn_of _ (by decide +kernel)) ggX11_fee_X9_price
set_option maxRecDepth 20000 in
theorem ggX11_fee_X10_price : GoodIn wsX11_fee wsX10_price := goodIn_r _ [44, 45, 16, 46, 32, 33, 34] (by decide +kernel) (by decide +kernel)
set_option maxRecDepth 20000 in
theorem gX11_fee_X10_price_u267X10 : GoodIn wsX11_fee (va_wsO RX11 267 RX10 "TwiceAsRich$House" ⟨"TwiceAsRich$House", "price", "()I"⟩ yX10_price wsX10_price) := goodIn_app (goodIn_of _ (by decide +kernel)) ggX11_fee_X10_price
theorem dX11_fee_0 : decode cX11_fee 0 = .ok (.aload_n 0, 1) := by decide +kernel
theorem dX11_fee_1 : decode cX11_fee 1 = .ok (.iload_n 1, 1) := by decide +kernel
theorem dX11_fee_2 : decode cX11_fee 2 = .ok (.invokevirtual 123, 3) := by decide +kernel
theorem dX11_fee_5 : decode cX11_fee 5 = .ok (.istore_n 2, 1) := by decide +kernel
theorem dX11_fee_6 : decode cX11_fee 6 = .ok (.iload_n 2, 1) := by decide +kernel
theorem dX11_fee_7 : decode cX11_fee 7 = .ok (.ifCond .eq 7, 3) := by decide +kernel
theorem dX11_fee_10 : decode cX11_fee 10 = .ok (.iload_n 2, 1) := by decide +kernel
theorem dX11_fee_11 : decode cX11_fee 11 = .ok (.goto 12, 3) := by decide +kernel
theorem dX11_fee_14 : decode cX11_fee 14 = .ok (.aload_n 0, 1) := by decide +kernel
theorem dX11_fee_15 : decode cX11_fee 15 = .ok (.getfield 45, 3) := by decide +kernel
theorem dX11_fee_18 : decode cX11_fee 18 = .ok (.iload_n 1, 1) := by decide +kernel
theorem dX11_fee_19 : decode cX11_fee 19 = .ok (.aaload, 1) := by decide +kernel
theorem dX11_fee_20 : decode cX11_fee 20 = .ok (.invokevirtual 267, 3) := by decide +kernel
theorem dX11_fee_23 : decode cX11_fee 23 = .ok (.ireturn, 1) := by decide +kernel
set_option maxRecDepth 20000 in
theorem ggX11_toss_X11_houseRefusal : GoodIn wsX11_toss wsX11_houseRefusal := goodIn_r _ [10, 4, 11, 12, 9, 13, 14, 15, 16, 17, 18, 123, 124, 125, 126, 127, 128, 129, 130, 131, 132, 133] (by decide +kernel) (by decide +kernel)
set_option maxRecDepth 20000 in
theorem gX11_toss_X11_houseRefusal : GoodIn wsX11_toss (wsV RX11 123 RX11 yX11_houseRefusal wsX11_houseRefusal) := goodIn_app (goodIn_of _ (by decide +kernel)) ggX11_toss_X11_houseRefusal
set_option maxRecDepth 20000 in
theorem ggX11_toss_X3_hasFailure : GoodIn wsX11_toss wsX3_hasFailure := goodIn_r _ [24, 25, 134, 135, 136, 137, 138, 139, 140, 141] (by decide +kernel) (by decide +kernel)
set_option maxRecDepth 20000 in
theorem gX11_toss_X3_hasFailure_u270X0 : GoodIn wsX11_toss (va_wsU RX11 270 RX0 "TwiceAsRich$House" ⟨"TwiceAsRich$House", "hasFailure", "()Z"⟩ yX3_hasFailure wsX3_hasFailure) := goodIn_app (goodIn_of _ (by decide +kernel)) ggX11_toss_X3_hasFailure
set_option maxRecDepth 20000 in
theorem ggX11_toss_X1_hasFailure : GoodIn wsX11_toss wsX1_hasFailure := goodIn_r _ [30, 31, 32, 134, 135, 136, 137, 138, 139, 140, 141] (by decide +kernel) (by decide +kernel)
set_option maxRecDepth 20000 in
theorem gX11_toss_X1_hasFailure_u270X1 : GoodIn wsX11_toss (va_wsO RX11 270 RX1 "TwiceAsRich$House" ⟨"TwiceAsRich$House", "hasFailure", "()Z"⟩ yX1_hasFailure wsX1_hasFailure) := goodIn_app (goodIn_of _ (by decide +kernel)) ggX11_toss_X1_hasFailure
set_option maxRecDepth 20000 in
theorem gX11_toss_X3_hasFailure_u270X2 : GoodIn wsX11_toss (va_wsU RX11 270 RX2 "TwiceAsRich$House" ⟨"TwiceAsRich$House", "hasFailure", "()Z"⟩ yX3_hasFailure wsX3_hasFailure) := goodIn_app (goodIn_of _ (by decide +kernel)) ggX11_toss_X3_hasFailure
set_option maxRecDepth 20000 in
theorem gX11_toss_X3_hasFailure : GoodIn wsX11_toss (wsV RX11 270 RX3 yX3_hasFailure wsX3_hasFailure) := goodIn_app (goodIn_of _ (by decide +kernel)) ggX11_toss_X3_hasFailure
set_option maxRecDepth 20000 in
theorem gX11_toss_X3_hasFailure_u270X4 : GoodIn wsX11_toss (va_wsU RX11 270 RX4 "TwiceAsRich$House" ⟨"TwiceAsRich$House", "hasFailure", "()Z"⟩ yX3_hasFailure wsX3_hasFailure) := goodIn_app (goodIn_of _ (by decide +kernel)) ggX11_toss_X3_hasFailure
set_option maxRecDepth 20000 in
theorem gX11_toss_X3_hasFailure_u270X6 : GoodIn wsX11_toss (va_wsU RX11 270 RX6 "TwiceAsRich$House" ⟨"TwiceAsRich$House", "hasFailure", "()Z"⟩ yX3_hasFailure wsX3_hasFailure) := goodIn_app (goodIn_of _ (by decide +kernel)) ggX11_toss_X3_hasFailure
set_option maxRecDepth 20000 in
theorem gX11_toss_X3_hasFailure_u270X9 : GoodIn wsX11_toss (va_wsU RX11 270 RX9 "TwiceAsRich$House" ⟨"TwiceAsRich$House", "hasFailure", "()Z"⟩ yX3_hasFailure wsX3_hasFailure) := goodIn_app (goodIn_of _ (by decide +kernel)) ggX11_toss_X3_hasFailure
set_option maxRecDepth 20000 in
theorem ggX11_toss_X10_hasFailure : GoodIn wsX11_toss wsX10_hasFailure := goodIn_r _ [42] (by decide +kernel) (by decide +kernel)
set_option maxRecDepth 20000 in
theorem gX11_toss_X10_hasFailure_u270X10 : GoodIn wsX11_toss (va_wsO RX11 270 RX10 "TwiceAsRich$House" ⟨"TwiceAsRich$House", "hasFailure", "()Z"⟩ yX10_hasFailure wsX10_hasFailure) := goodIn_app (goodIn_of _ (by decide +kernel)) ggX11_toss_X10_hasFailure
set_option maxRecDepth 20000 in
theorem ggX11_toss_X0_fail : GoodIn wsX11_toss wsX0_fail := goodIn_ca (goodIn_r _ [49, 50, 51] (by decide +kernel) (by decide +kernel)) (goodIn_sub (fun _ h => List.mem_cons_of_mem _ (List.mem_append_left _ (List.mem_append_left _ (List.mem_append_right _ h)))) (by decide +kernel))
set_option maxRecDepth 20000 in
theorem gX11_toss_X0_fail_u273X0 : GoodIn wsX11_toss (va_wsO RX11 273 RX0 "TwiceAsRich$House" ⟨"TwiceAsRich$House", "fail", "()V"⟩ yX0_fail wsX0_fail) := goodIn_app (goodIn_of _ (by decide +kernel)) ggX11_toss_X0_fail
set_option maxRecDepth 20000 in
theorem ggX11_toss_X3_fail : GoodIn wsX11_toss wsX3_fail := goodIn_ca (goodIn_r _ [52, 55, 56] (by decide +kernel) (by decide +kernel)) (goodIn_sub (fun _ h => List.mem_cons_of_mem _ (List.mem_append_left _ (List.mem_append_right _ h))) (by decide +kernel))
set_option maxRecDepth 20000 in
theorem gX11_toss_X3_fail_u273X1 : GoodIn wsX11_toss (va_wsU RX11 273 RX1 "TwiceAsRich$House" ⟨"TwiceAsRich$House", "fail", "()V"⟩ yX3_fail wsX3_fail) := goodIn_app (goodIn_of _ (by decide +kernel)) ggX11_toss_X3_fail
set_option maxRecDepth 20000 in
theorem gX11_toss_X3_fail_u273X2 : GoodIn wsX11_toss (va_wsU RX11 273 RX2 "TwiceAsRich$House" ⟨"TwiceAsRich$House", "fail", "()V"⟩ yX3_fail wsX3_fail) := goodIn_app (goodIn_of _ (by decide +kernel)) ggX11_toss_X3_fail
set_option maxRecDepth 20000 in
theorem gX11_toss_X3_fail : GoodIn wsX11_toss (wsV RX11 273 RX3 yX3_fail wsX3_fail) := goodIn_app (goodIn_of _ (by decide +kernel)) ggX11_toss_X3_fail
set_option maxRecDepth 20000 in
theorem gX11_toss_X3_fail_u273X4 : GoodIn wsX11_toss (va_wsU RX11 273 RX4 "TwiceAsRich$House" ⟨"TwiceAsRich$House", "fail", "()V"⟩ yX3_fail wsX3_fail) := goodIn_app (goodIn_of _ (by decide +kernel)) ggX11_toss_X3_fail
set_option maxRecDepth 20000 in
theorem gX11_toss_X3_fail_u273X6 : GoodIn wsX11_toss (va_wsU RX11 273 RX6 "TwiceAsRich$House" ⟨"TwiceAsRich$House", "fail", "()V"⟩ yX3_fail wsX3_fail) := goodIn_app (goodIn_of _ (by decide +kernel)) ggX11_toss_X3_fail
set_option maxRecDepth 20000 in
theorem ggX11_toss_X9_fail : GoodIn wsX11_toss wsX9_fail := goodIn_ca (goodIn_r _ [65, 66, 67] (by decide +kernel) (by decide +kernel)) (goodIn_sub (fun _ h => List.mem_cons_of_mem _ (List.mem_append_right _ h)) (by decide +kernel))
set_option maxRecDepth 20000 in
theorem gX11_toss_X9_fail_u273X9 : GoodIn wsX11_toss (va_wsO RX11 273 RX9 "TwiceAsRich$House" ⟨"TwiceAsRich$House", "fail", "()V"⟩ yX9_fail wsX9_fail) := goodIn_app (goodIn_of _ (by decide +kernel)) ggX11_toss_X9_fail
set_option maxRecDepth 20000 in
theorem gX11_toss_X3_fail_u273X10 : GoodIn wsX11_toss (va_wsU RX11 273 RX10 "TwiceAsRich$House" ⟨"TwiceAsRich$House", "fail", "()V"⟩ yX3_fail wsX3_fail) := goodIn_app (goodIn_of _ (by decide +kernel)) ggX11_toss_X3_fail
set_option maxRecDepth 20000 in
theorem ggX11_toss_X0_price : GoodIn wsX11_toss wsX0_price := goodIn_r _ [74, 75, 76, 77, 78, 79, 80, 81, 82, 83, 70, 84, 85, 23, 86, 134, 135, 136, 137, 138, 139, 140, 141] (by decide +kernel) (by decide +kernel)
set_option maxRecDepth 20000 in
theorem gX11_toss_X0_price_u267X0 : GoodIn wsX11_toss (va_wsO RX11 267 RX0 "TwiceAsRich$House" ⟨"TwiceAsRich$House", "price", "()I"⟩ yX0_price wsX0_price) := goodIn_app (goodIn_of _ (by decide +kernel)) ggX11_toss_X0_price
set_option maxRecDepth 20000 in
theorem ggX11_toss_X1_price : GoodIn wsX11_toss wsX1_price := goodIn_r _ [89, 90, 91, 92, 93, 41, 94, 95, 70, 96, 85, 23, 86] (by decide +kernel) (by decide +kernel)
set_option maxRecDepth 20000 in
theorem gX11_toss_X1_price_u267X1 : GoodIn wsX11_toss (va_wsO RX11 267 RX1 "TwiceAsRich$House" ⟨"TwiceAsRich$House", "price", "()I"⟩ yX1_price wsX1_price) := goodIn_app (goodIn_of _ (by decide +kernel)) ggX11_toss_X1_price
set_option maxRecDepth 20000 in
theorem ggX11_toss_X2_price : GoodIn wsX11_toss wsX2_price := goodIn_r _ [100, 101, 102, 103, 70, 104, 85, 23, 86, 134, 135, 136, 137, 138, 139, 140, 141] (by decide +kernel) (by decide +kernel)
set_option maxRecDepth 20000 in
theorem gX11_toss_X2_price_u267X2 : GoodIn wsX11_toss (va_wsO RX11 267 RX2 "TwiceAsRich$House" ⟨"TwiceAsRich$House", "price", "()I"⟩ yX2_price wsX2_price) := goodIn_app (goodIn_of _ (by decide +kernel)) ggX11_toss_X2_price
set_option maxRecDepth 20000 in
theorem ggX11_toss_X3_price : GoodIn wsX11_toss wsX3_price := goodIn_r _ [86] (by decide +kernel) (by decide +kernel)
set_option maxRecDepth 20000 in
theorem gX11_toss_X3_price : GoodIn wsX11_toss (wsV RX11 267 RX3 yX3_price wsX3_price) := goodIn_app (goodIn_of _ (by decide +kernel)) ggX11_toss_X3_price
set_option maxRecDepth 20000 in
theorem ggX11_toss_X4_price : GoodIn wsX11_toss wsX4_price := goodIn_r _ [110, 111, 112, 113, 98, 99, 100, 101, 102, 103, 70, 104, 85, 23, 86, 134, 135, 136, 137, 138, 139, 140, 141] (by decide +kernel) (by decide +kernel)
set_option maxRecDepth 20000 in
theorem gX11_toss_X4_price_u267X4 : GoodIn wsX11_toss (va_wsO RX11 267 RX4 "TwiceAsRich$House" ⟨"TwiceAsRich$House", "price", "()I"⟩ yX4_price wsX4_price) := goodIn_app (goodIn_of _ (by decide +kernel)) ggX11_toss_X4_price
set_option maxRecDepth 20000 in
theorem ggX11_toss_X6_price : GoodIn wsX11_toss wsX6_price := goodIn_r _ [82, 83, 70, 84, 85, 23, 86] (by decide +kernel) (by decide +kernel)
set_option maxRecDepth 20000 in
theorem gX11_toss_X6_price_u267X6 : GoodIn wsX11_toss (va_wsO RX11 267 RX6 "TwiceAsRich$House" ⟨"TwiceAsRich$House", "price", "()I"⟩ yX6_price wsX6_price) := goodIn_app (goodIn_of _ (by decide +kernel)) ggX11_toss_X6_price
set_option maxRecDepth 20000 in
theorem ggX11_toss_X9_price : GoodIn wsX11_toss wsX9_price := goodIn_r _ [117, 118, 119, 120, 112, 121, 98, 99, 100, 101, 102, 103, 70, 104, 85, 23, 86, 134, 135, 136, 137, 138, 139, 140, 141] (by decide +kernel) (by decide +kernel)
set_option maxRecDepth 20000 in
theorem gX11_toss_X9_price_u267X9 : GoodIn wsX11_toss (va_wsO RX11 267 RX9 "TwiceAsRich$House" ⟨"TwiceAsRich$House", "price", "()I"⟩ yX9_price wsX9_price) := goodIn_app (goodIn_of _ (by decide +kernel)) ggX11_toss_X9_price
set_option maxRecDepth 20000 in
theorem ggX11_toss_X10_price : GoodIn wsX11_toss wsX10_price := goodIn_r _ [94, 95, 70, 96, 85, 23, 86] (by decide +kernel) (by decide +kernel)
set_option maxRecDepth 20000 in
theorem gX11_toss_X10_price_u267X10 : GoodIn wsX11_toss (va_wsO RX11 267 RX10 "TwiceAsRich$House" ⟨"TwiceAsRich$House", "price", "()I"⟩ yX10_price wsX10_price) := goodIn_app (goodIn_of _ (by decide +kernel)) ggX11_toss_X10_price
theorem dX11_toss_0 : decode cX11_toss 0 = .ok (.aload_n 0, 1) := by decide +kernel
theorem dX11_toss_1 : decode cX11_toss 1 = .ok (.iload_n 1, 1) := by decide +kernel
theorem dX11_toss_2 : decode cX11_toss 2 = .ok (.invokevirtual 123, 3) := by decide +kernel
theorem dX11_toss_5 : decode cX11_toss 5 = .ok (.istore_n 2, 1) := by decide +kernel
theorem dX11_toss_6 : decode cX11_toss 6 = .ok (.iload_n 2, 1) := by decide +kernel
theorem dX11_toss_7 : decode cX11_toss 7 = .ok (.ifCond .eq 5, 3) := by decide +kernel
theorem dX11_toss_10 : decode cX11_toss 10 = .ok (.iload_n 2, 1) := by decide +kernel
theorem dX11_toss_11 : decode cX11_toss 11 = .ok (.ireturn, 1) := by decide +kernel
theorem dX11_toss_12 : decode cX11_toss 12 = .ok (.aload_n 0, 1) := by decide +kernel
theorem dX11_toss_13 : decode cX11_toss 13 = .ok (.getfield 45, 3) := by decide +kernel
theorem dX11_toss_16 : decode cX11_toss 16 = .ok (.iload_n 1, 1) := by decide +kernel
theorem dX11_toss_17 : decode cX11_toss 17 = .ok (.aaload, 1) := by decide +kernel
theorem dX11_toss_18 : decode cX11_toss 18 = .ok (.astore_n 3, 1) := by decide +kernel
theorem dX11_toss_19 : decode cX11_toss 19 = .ok (.aload_n 3, 1) := by decide +kernel
theorem dX11_toss_20 : decode cX11_toss 20 = .ok (.invokevirtual 270, 3) := by decide +kernel
theorem dX11_toss_23 : decode cX11_toss 23 = .ok (.ifCond .ne 6, 3) := by decide +kernel
theorem dX11_toss_26 : decode cX11_toss 26 = .ok (.bipush (-15), 2) := by decide +kernel
theorem dX11_toss_28 : decode cX11_toss 28 = .ok (.ireturn, 1) := by decide +kernel
theorem dX11_toss_29 : decode cX11_toss 29 = .ok (.aload_n 3, 1) := by decide +kernel
theorem dX11_toss_30 : decode cX11_toss 30 = .ok (.invokevirtual 273, 3) := by decide +kernel
theorem dX11_toss_33 : decode cX11_toss 33 = .ok (.goto 31, 3) := by decide +kernel
theorem dX11_toss_36 : decode cX11_toss 36 = .ok (.astore 4, 2) := by decide +kernel
theorem dX11_toss_38 : decode cX11_toss 38 = .ok (.sipush 200, 3) := by decide +kernel
theorem dX11_toss_41 : decode cX11_toss 41 = .ok (.aload_n 3, 1) := by decide +kernel
theorem dX11_toss_42 : decode cX11_toss 42 = .ok (.invokevirtual 267, 3) := by decide +kernel
theorem dX11_toss_45 : decode cX11_toss 45 = .ok (.iadd, 1) := by decide +kernel
theorem dX11_toss_46 : decode cX11_toss 46 = .ok (.ireturn, 1) := by decide +kernel
theorem dX11_toss_47 : decode cX11_toss 47 = .ok (.astore 4, 2) := by decide +kernel
theorem dX11_toss_49 : decode cX11_toss 49 = .ok (.bipush 100, 2) := by decide +kernel
theorem dX11_toss_51 : decode cX11_toss 51 = .ok (.aload_n 3, 1) := by decide +kernel
theorem dX11_toss_52 : decode cX11_toss 52 = .ok (.getfield 99, 3) := by decide +kernel
theorem dX11_toss_55 : decode cX11_toss 55 = .ok (.iadd, 1) := by decide +kernel
theorem dX11_toss_56 : decode cX11_toss 56 = .ok (.ireturn, 1) := by decide +kernel
theorem dX11_toss_57 : decode cX11_toss 57 = .ok (.astore 4, 2) := by decide +kernel
theorem dX11_toss_59 : decode cX11_toss 59 = .ok (.aload_n 3, 1) := by decide +kernel
theorem dX11_toss_60 : decode cX11_toss 60 = .ok (.getfield 99, 3) := by decide +kernel
theorem dX11_toss_63 : decode cX11_toss 63 = .ok (.ireturn, 1) := by decide +kernel
theorem dX11_toss_64 : decode cX11_toss 64 = .ok (.bipush (-15), 2) := by decide +kernel
theorem dX11_toss_66 : decode cX11_toss 66 = .ok (.ireturn, 1) := by decide +kernel
theorem dX11_isPurse_0 : decode cX11_isPurse 0 = .ok (.iload_n 0, 1) := by decide +kernel
theorem dX11_isPurse_1 : decode cX11_isPurse 1 = .ok (.ifCond .lt 14, 3) := by decide +kernel
theorem dX11_isPurse_4 : decode cX11_isPurse 4 = .ok (.iload_n 0, 1) := by decide +kernel
theorem dX11_isPurse_5 : decode cX11_isPurse 5 = .ok (.sipush 9999, 3) := by decide +kernel
theorem dX11_isPurse_8 : decode cX11_isPurse 8 = .ok (.if_icmp .gt 7, 3) := by decide +kernel
theorem dX11_isPurse_11 : decode cX11_isPurse 11 = .ok (.iconst 1, 1) := by decide +kernel
theorem dX11_isPurse_12 : decode cX11_isPurse 12 = .ok (.goto 4, 3) := by decide +kernel
theorem dX11_isPurse_15 : decode cX11_isPurse 15 = .ok (.iconst 0, 1) := by decide +kernel
theorem dX11_isPurse_16 : decode cX11_isPurse 16 = .ok (.ireturn, 1) := by decide +kernel
theorem dX11_isHouse_0 : decode cX11_isHouse 0 = .ok (.iload_n 0, 1) := by decide +kernel
theorem dX11_isHouse_1 : decode cX11_isHouse 1 = .ok (.ifCond .lt 23, 3) := by decide +kernel
theorem dX11_isHouse_4 : decode cX11_isHouse 4 = .ok (.iload_n 0, 1) := by decide +kernel
theorem dX11_isHouse_5 : decode cX11_isHouse 5 = .ok (.bipush 8, 2) := by decide +kernel
theorem dX11_isHouse_7 : decode cX11_isHouse 7 = .ok (.if_icmp .ge 17, 3) := by decide +kernel
theorem dX11_isHouse_10 : decode cX11_isHouse 10 = .ok (.iload_n 1, 1) := by decide +kernel
theorem dX11_isHouse_11 : decode cX11_isHouse 11 = .ok (.ifCond .lt 13, 3) := by decide +kernel
theorem dX11_isHouse_14 : decode cX11_isHouse 14 = .ok (.iload_n 1, 1) := by decide +kernel
theorem dX11_isHouse_15 : decode cX11_isHouse 15 = .ok (.bipush 9, 2) := by decide +kernel
theorem dX11_isHouse_17 : decode cX11_isHouse 17 = .ok (.if_icmp .gt 7, 3) := by decide +kernel
theorem dX11_isHouse_20 : decode cX11_isHouse 20 = .ok (.iconst 1, 1) := by decide +kernel
theorem dX11_isHouse_21 : decode cX11_isHouse 21 = .ok (.goto 4, 3) := by decide +kernel
theorem dX11_isHouse_24 : decode cX11_isHouse 24 = .ok (.iconst 0, 1) := by decide +kernel
theorem dX11_isHouse_25 : decode cX11_isHouse 25 = .ok (.ireturn, 1) := by decide +kernel
theorem dX11_isShelf_0 : decode cX11_isShelf 0 = .ok (.iload_n 0, 1) := by decide +kernel
theorem dX11_isShelf_1 : decode cX11_isShelf 1 = .ok (.ifCond .lt 13, 3) := by decide +kernel
theorem dX11_isShelf_4 : decode cX11_isShelf 4 = .ok (.iload_n 0, 1) := by decide +kernel
theorem dX11_isShelf_5 : decode cX11_isShelf 5 = .ok (.bipush 8, 2) := by decide +kernel
theorem dX11_isShelf_7 : decode cX11_isShelf 7 = .ok (.if_icmp .ge 7, 3) := by decide +kernel
theorem dX11_isShelf_10 : decode cX11_isShelf 10 = .ok (.iconst 1, 1) := by decide +kernel
theorem dX11_isShelf_11 : decode cX11_isShelf 11 = .ok (.goto 4, 3) := by decide +kernel
theorem dX11_isShelf_14 : decode cX11_isShelf 14 = .ok (.iconst 0, 1) := by decide +kernel
theorem dX11_isShelf_15 : decode cX11_isShelf 15 = .ok (.ireturn, 1) := by decide +kernel
theorem dX11_holdsNothing_0 : decode cX11_holdsNothing 0 = .ok (.aload_n 0, 1) := by decide +kernel
theorem dX11_holdsNothing_1 : decode cX11_holdsNothing 1 = .ok (.getfield 45, 3) := by decide +kernel
theorem dX11_holdsNothing_4 : decode cX11_holdsNothing 4 = .ok (.iload_n 1, 1) := by decide +kernel
theorem dX11_holdsNothing_5 : decode cX11_holdsNothing 5 = .ok (.aaload, 1) := by decide +kernel
theorem dX11_holdsNothing_6 : decode cX11_holdsNothing 6 = .ok (.ifnonnull 17, 3) := by decide +kernel
theorem dX11_holdsNothing_9 : decode cX11_holdsNothing 9 = .ok (.aload_n 0, 1) := by decide +kernel
theorem dX11_holdsNothing_10 : decode cX11_holdsNothing 10 = .ok (.getfield 49, 3) := by decide +kernel
theorem dX11_holdsNothing_13 : decode cX11_holdsNothing 13 = .ok (.iload_n 1, 1) := by decide +kernel
theorem dX11_holdsNothing_14 : decode cX11_holdsNothing 14 = .ok (.iaload, 1) := by decide +kernel
theorem dX11_holdsNothing_15 : decode cX11_holdsNothing 15 = .ok (.iconst (-1), 1) := by decide +kernel
theorem dX11_holdsNothing_16 : decode cX11_holdsNothing 16 = .ok (.if_icmp .ne 7, 3) := by decide +kernel
theorem dX11_holdsNothing_19 : decode cX11_holdsNothing 19 = .ok (.iconst 1, 1) := by decide +kernel
theorem dX11_holdsNothing_20 : decode cX11_holdsNothing 20 = .ok (.goto 4, 3) := by decide +kernel
theorem dX11_holdsNothing_23 : decode cX11_holdsNothing 23 = .ok (.iconst 0, 1) := by decide +kernel
theorem dX11_holdsNothing_24 : decode cX11_holdsNothing 24 = .ok (.ireturn, 1) := by decide +kernel
theorem dX11_isPlace_0 : decode cX11_isPlace 0 = .ok (.iload_n 2, 1) := by decide +kernel
theorem dX11_isPlace_1 : decode cX11_isPlace 1 = .ok (.ifCond .lt 17, 3) := by decide +kernel
theorem dX11_isPlace_4 : decode cX11_isPlace 4 = .ok (.iload_n 2, 1) := by decide +kernel
theorem dX11_isPlace_5 : decode cX11_isPlace 5 = .ok (.aload_n 0, 1) := by decide +kernel
theorem dX11_isPlace_6 : decode cX11_isPlace 6 = .ok (.getfield 53, 3) := by decide +kernel
theorem dX11_isPlace_9 : decode cX11_isPlace 9 = .ok (.iload_n 1, 1) := by decide +kernel
theorem dX11_isPlace_10 : decode cX11_isPlace 10 = .ok (.iaload, 1) := by decide +kernel
theorem dX11_isPlace_11 : decode cX11_isPlace 11 = .ok (.if_icmp .ge 7, 3) := by decide +kernel
theorem dX11_isPlace_14 : decode cX11_isPlace 14 = .ok (.iconst 1, 1) := by decide +kernel
theorem dX11_isPlace_15 : decode cX11_isPlace 15 = .ok (.goto 4, 3) := by decide +kernel
theorem dX11_isPlace_18 : decode cX11_isPlace 18 = .ok (.iconst 0, 1) := by decide +kernel
theorem dX11_isPlace_19 : decode cX11_isPlace 19 = .ok (.ireturn, 1) := by decide +kernel
theorem dX11_isStretch_0 : decode cX11_isStretch 0 = .ok (.iload_n 2, 1) := by decide +kernel
theorem dX11_isStretch_1 : decode cX11_isStretch 1 = .ok (.ifCond .lt 19, 3) := by decide +kernel
theorem dX11_isStretch_4 : decode cX11_isStretch 4 = .ok (.iload_n 2, 1) := by decide +kernel
theorem dX11_isStretch_5 : decode cX11_isStretch 5 = .ok (.aload_n 0, 1) := by decide +kernel
theorem dX11_isStretch_6 : decode cX11_isStretch 6 = .ok (.getfield 53, 3) := by decide +kernel
theorem dX11_isStretch_9 : decode cX11_isStretch 9 = .ok (.iload_n 1, 1) := by decide +kernel
theorem dX11_isStretch_10 : decode cX11_isStretch 10 = .ok (.iaload, 1) := by decide +kernel
theorem dX11_isStretch_11 : decode cX11_isStretch 11 = .ok (.iload_n 3, 1) := by decide +kernel
theorem dX11_isStretch_12 : decode cX11_isStretch 12 = .ok (.isub, 1) := by decide +kernel
theorem dX11_isStretch_13 : decode cX11_isStretch 13 = .ok (.if_icmp .gt 7, 3) := by decide +kernel
theorem dX11_isStretch_16 : decode cX11_isStretch 16 = .ok (.iconst 1, 1) := by decide +kernel
theorem dX11_isStretch_17 : decode cX11_isStretch 17 = .ok (.goto 4, 3) := by decide +kernel
theorem dX11_isStretch_20 : decode cX11_isStretch 20 = .ok (.iconst 0, 1) := by decide +kernel
theorem dX11_isStretch_21 : decode cX11_isStretch 21 = .ok (.ireturn, 1) := by decide +kernel
set_option maxRecDepth 20000 in
theorem ggX11_rowRefusal_X11_isShelf : GoodIn wsX11_rowRefusal wsX11_isShelf := goodIn_r _ [5] (by decide +kernel) (by decide +kernel)
set_option maxRecDepth 20000 in
theorem gX11_rowRefusal_X11_isShelf : GoodIn wsX11_rowRefusal (va_wsS RX11 225 yX11_isShelf wsX11_isShelf) := goodIn_app (goodIn_of _ (by decide +kernel)) ggX11_rowRefusal_X11_isShelf
set_option maxRecDepth 20000 in
theorem ggX11_rowRefusal_X11_holdsNothing : GoodIn wsX11_rowRefusal wsX11_holdsNothing := goodIn_r _ [9, 10, 1, 11, 12, 13, 14, 15, 16, 17, 18, 19, 20, 21] (by decide +kernel) (by decide +kernel)
set_option maxRecDepth 20000 in
theorem gX11_rowRefusal_X11_holdsNothing : GoodIn wsX11_rowRefusal (wsV RX11 254 RX11 yX11_holdsNothing wsX11_holdsNothing) := goodIn_app (goodIn_of _ (by decide +kernel)) ggX11_rowRefusal_X11_holdsNothing
theorem dX11_rowRefusal_0 : decode cX11_rowRefusal 0 = .ok (.iload_n 1, 1) := by decide +kernel
theorem dX11_rowRefusal_1 : decode cX11_rowRefusal 1 = .ok (.invokestatic 225, 3) := by decide +kernel
theorem dX11_rowRefusal_4 : decode cX11_rowRefusal 4 = .ok (.ifCond .ne 5, 3) := by decide +kernel
theorem dX11_rowRefusal_7 : decode cX11_rowRefusal 7 = .ok (.iconst (-1), 1) := by decide +kernel
theorem dX11_rowRefusal_8 : decode cX11_rowRefusal 8 = .ok (.ireturn, 1) := by decide +kernel
theorem dX11_rowRefusal_9 : decode cX11_rowRefusal 9 = .ok (.aload_n 0, 1) := by decide +kernel
theorem dX11_rowRefusal_10 : decode cX11_rowRefusal 10 = .ok (.iload_n 1, 1) := by decide +kernel
theorem dX11_rowRefusal_11 : decode cX11_rowRefusal 11 = .ok (.invokevirtual 254, 3) := by decide +kernel
theorem dX11_rowRefusal_14 : decode cX11_rowRefusal 14 = .ok (.ifCond .eq 6, 3) := by decide +kernel
theorem dX11_rowRefusal_17 : decode cX11_rowRefusal 17 = .ok (.bipush (-11), 2) := by decide +kernel
theorem dX11_rowRefusal_19 : decode cX11_rowRefusal 19 = .ok (.ireturn, 1) := by decide +kernel
theorem dX11_rowRefusal_20 : decode cX11_rowRefusal 20 = .ok (.aload_n 0, 1) := by decide +kernel
theorem dX11_rowRefusal_21 : decode cX11_rowRefusal 21 = .ok (.getfield 49, 3) := by decide +kernel
theorem dX11_rowRefusal_24 : decode cX11_rowRefusal 24 = .ok (.iload_n 1, 1) := by decide +kernel
theorem dX11_rowRefusal_25 : decode cX11_rowRefusal 25 = .ok (.iaload, 1) := by decide +kernel
theorem dX11_rowRefusal_26 : decode cX11_rowRefusal 26 = .ok (.iconst (-1), 1) := by decide +kernel
theorem dX11_rowRefusal_27 : decode cX11_rowRefusal 27 = .ok (.if_icmp .ne 8, 3) := by decide +kernel
theorem dX11_rowRefusal_30 : decode cX11_rowRefusal 30 = .ok (.bipush (-12), 2) := by decide +kernel
theorem dX11_rowRefusal_32 : decode cX11_rowRefusal 32 = .ok (.goto 4, 3) := by decide +kernel
theorem dX11_rowRefusal_35 : decode cX11_rowRefusal 35 = .ok (.iconst 0, 1) := by decide +kernel
theorem dX11_rowRefusal_36 : decode cX11_rowRefusal 36 = .ok (.ireturn, 1) := by decide +kernel
set_option maxRecDepth 20000 in
theorem ggX11_sortRefusal_X11_rowRefusal : GoodIn wsX11_sortRefusal wsX11_rowRefusal := goodIn_r _ [6, 1, 7, 8, 5, 9, 10, 11, 12, 13, 14, 15, 16, 17, 18, 19, 20, 21, 22, 23, 24, 25] (by decide +kernel) (by decide +kernel)
set_option maxRecDepth 20000 in
theorem gX11_sortRefusal_X11_rowRefusal : GoodIn wsX11_sortRefusal (wsV RX11 212 RX11 yX11_rowRefusal wsX11_rowRefusal) := goodIn_app (goodIn_of _ (by decide +kernel)) ggX11_sortRefusal_X11_rowRefusal
theorem dX11_sortRefusal_0 : decode cX11_sortRefusal 0 = .ok (.aload_n 0, 1) := by decide +kernel
theorem dX11_sortRefusal_1 : decode cX11_sortRefusal 1 = .ok (.iload_n 1, 1) := by decide +kernel
theorem dX11_sortRefusal_2 : decode cX11_sortRefusal 2 = .ok (.invokevirtual 212, 3) := by decide +kernel
theorem dX11_sortRefusal_5 : decode cX11_sortRefusal 5 = .ok (.istore_n 3, 1) := by decide +kernel
theorem dX11_sortRefusal_6 : decode cX11_sortRefusal 6 = .ok (.iload_n 3, 1) := by decide +kernel
theorem dX11_sortRefusal_7 : decode cX11_sortRefusal 7 = .ok (.ifCond .eq 5, 3) := by decide +kernel
theorem dX11_sortRefusal_10 : decode cX11_sortRefusal 10 = .ok (.iload_n 3, 1) := by decide +kernel
theorem dX11_sortRefusal_11 : decode cX11_sortRefusal 11 = .ok (.ireturn, 1) := by decide +kernel
theorem dX11_sortRefusal_12 : decode cX11_sortRefusal 12 = .ok (.aload_n 0, 1) := by decide +kernel
theorem dX11_sortRefusal_13 : decode cX11_sortRefusal 13 = .ok (.getfield 49, 3) := by decide +kernel
theorem dX11_sortRefusal_16 : decode cX11_sortRefusal 16 = .ok (.iload_n 1, 1) := by decide +kernel
theorem dX11_sortRefusal_17 : decode cX11_sortRefusal 17 = .ok (.iaload, 1) := by decide +kernel
theorem dX11_sortRefusal_18 : decode cX11_sortRefusal 18 = .ok (.iload_n 2, 1) := by decide +kernel
theorem dX11_sortRefusal_19 : decode cX11_sortRefusal 19 = .ok (.if_icmp .ne 7, 3) := by decide +kernel
theorem dX11_sortRefusal_22 : decode cX11_sortRefusal 22 = .ok (.iconst 0, 1) := by decide +kernel
theorem dX11_sortRefusal_23 : decode cX11_sortRefusal 23 = .ok (.goto 5, 3) := by decide +kernel
theorem dX11_sortRefusal_26 : decode cX11_sortRefusal 26 = .ok (.bipush (-12), 2) := by decide +kernel
theorem dX11_sortRefusal_28 : decode cX11_sortRefusal 28 = .ok (.ireturn, 1) := by decide +kernel
set_option maxRecDepth 20000 in
theorem ggX11_houseRefusal_X11_isShelf : GoodIn wsX11_houseRefusal wsX11_isShelf := goodIn_r _ [5] (by decide +kernel) (by decide +kernel)
set_option maxRecDepth 20000 in
theorem gX11_houseRefusal_X11_isShelf : GoodIn wsX11_houseRefusal (va_wsS RX11 225 yX11_isShelf wsX11_isShelf) := goodIn_app (goodIn_of _ (by decide +kernel)) ggX11_houseRefusal_X11_isShelf
set_option maxRecDepth 20000 in
theorem ggX11_houseRefusal_X11_holdsNothing : GoodIn wsX11_houseRefusal wsX11_holdsNothing := goodIn_r _ [9, 1, 10, 11, 12, 13, 14, 15, 16, 17, 18, 19, 20, 21] (by decide +kernel) (by decide +kernel)
set_option maxRecDepth 20000 in
theorem gX11_houseRefusal_X11_holdsNothing : GoodIn wsX11_houseRefusal (wsV RX11 254 RX11 yX11_holdsNothing wsX11_holdsNothing) := goodIn_app (goodIn_of _ (by decide +kernel)) ggX11_houseRefusal_X11_holdsNothing
theorem dX11_houseRefusal_0 : decode cX11_houseRefusal 0 = .ok (.iload_n 1, 1) := by decide +kernel
theorem dX11_houseRefusal_1 : decode cX11_houseRefusal 1 = .ok (.invokestatic 225, 3) := by decide +kernel
theorem dX11_houseRefusal_4 : decode cX11_houseRefusal 4 = .ok (.ifCond .ne 5, 3) := by decide +kernel
theorem dX11_houseRefusal_7 : decode cX11_houseRefusal 7 = .ok (.iconst (-1), 1) := by decide +kernel
theorem dX11_houseRefusal_8 : decode cX11_houseRefusal 8 = .ok (.ireturn, 1) := by decide +kernel
theorem dX11_houseRefusal_9 : decode cX11_houseRefusal 9 = .ok (.aload_n 0, 1) := by decide +kernel
theorem dX11_houseRefusal_10 : decode cX11_houseRefusal 10 = .ok (.iload_n 1, 1) := by decide +kernel
theorem dX11_houseRefusal_11 : decode cX11_houseRefusal 11 = .ok (.invokevirtual 254, 3) := by decide +kernel
theorem dX11_houseRefusal_14 : decode cX11_houseRefusal 14 = .ok (.ifCond .eq 6, 3) := by decide +kernel
theorem dX11_houseRefusal_17 : decode cX11_houseRefusal 17 = .ok (.bipush (-11), 2) := by decide +kernel
theorem dX11_houseRefusal_19 : decode cX11_houseRefusal 19 = .ok (.ireturn, 1) := by decide +kernel
theorem dX11_houseRefusal_20 : decode cX11_houseRefusal 20 = .ok (.aload_n 0, 1) := by decide +kernel
theorem dX11_houseRefusal_21 : decode cX11_houseRefusal 21 = .ok (.getfield 45, 3) := by decide +kernel
theorem dX11_houseRefusal_24 : decode cX11_houseRefusal 24 = .ok (.iload_n 1, 1) := by decide +kernel
theorem dX11_houseRefusal_25 : decode cX11_houseRefusal 25 = .ok (.aaload, 1) := by decide +kernel
theorem dX11_houseRefusal_26 : decode cX11_houseRefusal 26 = .ok (.ifnonnull 8, 3) := by decide +kernel
theorem dX11_houseRefusal_29 : decode cX11_houseRefusal 29 = .ok (.bipush (-12), 2) := by decide +kernel
theorem dX11_houseRefusal_31 : decode cX11_houseRefusal 31 = .ok (.goto 4, 3) := by decide +kernel
theorem dX11_houseRefusal_34 : decode cX11_houseRefusal 34 = .ok (.iconst 0, 1) := by decide +kernel
theorem dX11_houseRefusal_35 : decode cX11_houseRefusal 35 = .ok (.ireturn, 1) := by decide +kernel
theorem dX11_partingRefusal_0 : decode cX11_partingRefusal 0 = .ok (.iload_n 1, 1) := by decide +kernel
theorem dX11_partingRefusal_1 : decode cX11_partingRefusal 1 = .ok (.ifCond .lt 9, 3) := by decide +kernel
theorem dX11_partingRefusal_4 : decode cX11_partingRefusal 4 = .ok (.iload_n 1, 1) := by decide +kernel
theorem dX11_partingRefusal_5 : decode cX11_partingRefusal 5 = .ok (.bipush 20, 2) := by decide +kernel
theorem dX11_partingRefusal_7 : decode cX11_partingRefusal 7 = .ok (.if_icmp .le 5, 3) := by decide +kernel
theorem dX11_partingRefusal_10 : decode cX11_partingRefusal 10 = .ok (.iconst (-1), 1) := by decide +kernel
theorem dX11_partingRefusal_11 : decode cX11_partingRefusal 11 = .ok (.ireturn, 1) := by decide +kernel
theorem dX11_partingRefusal_12 : decode cX11_partingRefusal 12 = .ok (.aload_n 0, 1) := by decide +kernel
theorem dX11_partingRefusal_13 : decode cX11_partingRefusal 13 = .ok (.getfield 10, 3) := by decide +kernel
theorem dX11_partingRefusal_16 : decode cX11_partingRefusal 16 = .ok (.getfield 126, 3) := by decide +kernel
theorem dX11_partingRefusal_19 : decode cX11_partingRefusal 19 = .ok (.bipush 6, 2) := by decide +kernel
theorem dX11_partingRefusal_21 : decode cX11_partingRefusal 21 = .ok (.if_icmp .le 8, 3) := by decide +kernel
theorem dX11_partingRefusal_24 : decode cX11_partingRefusal 24 = .ok (.bipush (-3), 2) := by decide +kernel
theorem dX11_partingRefusal_26 : decode cX11_partingRefusal 26 = .ok (.goto 4, 3) := by decide +kernel
theorem dX11_partingRefusal_29 : decode cX11_partingRefusal 29 = .ok (.iconst 0, 1) := by decide +kernel
theorem dX11_partingRefusal_30 : decode cX11_partingRefusal 30 = .ok (.ireturn, 1) := by decide +kernel
set_option maxRecDepth 20000 in
theorem ggX11_canBeParted_X7_allCoins : GoodIn wsX11_canBeParted wsX7_allCoins := goodIn_r _ [7, 8, 9, 21, 22, 23, 24] (by decide +kernel) (by decide +kernel)
set_option maxRecDepth 20000 in
theorem gX11_canBeParted_X7_allCoins : GoodIn wsX11_canBeParted (wsV RX11 143 RX7 yX7_allCoins wsX7_allCoins) := goodIn_app (goodIn_of _ (by decide +kernel)) ggX11_canBeParted_X7_allCoins
theorem dX11_canBeParted_0 : decode cX11_canBeParted 0 = .ok (.aload_n 0, 1) := by decide +kernel
theorem dX11_canBeParted_1 : decode cX11_canBeParted 1 = .ok (.getfield 10, 3) := by decide +kernel
theorem dX11_canBeParted_4 : decode cX11_canBeParted 4 = .ok (.getfield 126, 3) := by decide +kernel
theorem dX11_canBeParted_7 : decode cX11_canBeParted 7 = .ok (.bipush 6, 2) := by decide +kernel
theorem dX11_canBeParted_9 : decode cX11_canBeParted 9 = .ok (.if_icmp .gt 19, 3) := by decide +kernel
theorem dX11_canBeParted_12 : decode cX11_canBeParted 12 = .ok (.aload_n 0, 1) := by decide +kernel
theorem dX11_canBeParted_13 : decode cX11_canBeParted 13 = .ok (.getfield 10, 3) := by decide +kernel
theorem dX11_canBeParted_16 : decode cX11_canBeParted 16 = .ok (.invokevirtual 143, 3) := by decide +kernel
theorem dX11_canBeParted_19 : decode cX11_canBeParted 19 = .ok (.bipush 20, 2) := by decide +kernel
theorem dX11_canBeParted_21 : decode cX11_canBeParted 21 = .ok (.if_icmp .gt 7, 3) := by decide +kernel
theorem dX11_canBeParted_24 : decode cX11_canBeParted 24 = .ok (.iconst 1, 1) := by decide +kernel
theorem dX11_canBeParted_25 : decode cX11_canBeParted 25 = .ok (.goto 4, 3) := by decide +kernel
theorem dX11_canBeParted_28 : decode cX11_canBeParted 28 = .ok (.iconst 0, 1) := by decide +kernel
theorem dX11_canBeParted_29 : decode cX11_canBeParted 29 = .ok (.ireturn, 1) := by decide +kernel
set_option maxRecDepth 20000 in
theorem ggX11_areGifts_X7_hasTwo : GoodIn wsX11_areGifts wsX7_hasTwo := goodIn_r _ [6, 7, 8, 9, 5, 10, 11, 23, 24, 25, 26] (by decide +kernel) (by decide +kernel)
set_option maxRecDepth 20000 in
theorem gX11_areGifts_X7_hasTwo : GoodIn wsX11_areGifts (wsV RX11 278 RX7 yX7_hasTwo wsX7_hasTwo) := goodIn_app (goodIn_of _ (by decide +kernel)) ggX11_areGifts_X7_hasTwo
theorem dX11_areGifts_0 : decode cX11_areGifts 0 = .ok (.iload_n 2, 1) := by decide +kernel
theorem dX11_areGifts_1 : decode cX11_areGifts 1 = .ok (.iconst 3, 1) := by decide +kernel
theorem dX11_areGifts_2 : decode cX11_areGifts 2 = .ok (.irem, 1) := by decide +kernel
theorem dX11_areGifts_3 : decode cX11_areGifts 3 = .ok (.ifCond .ne 9, 3) := by decide +kernel
theorem dX11_areGifts_6 : decode cX11_areGifts 6 = .ok (.iload_n 2, 1) := by decide +kernel
theorem dX11_areGifts_7 : decode cX11_areGifts 7 = .ok (.bipush 24, 2) := by decide +kernel
theorem dX11_areGifts_9 : decode cX11_areGifts 9 = .ok (.if_icmp .le 5, 3) := by decide +kernel
theorem dX11_areGifts_12 : decode cX11_areGifts 12 = .ok (.iconst 0, 1) := by decide +kernel
theorem dX11_areGifts_13 : decode cX11_areGifts 13 = .ok (.ireturn, 1) := by decide +kernel
theorem dX11_areGifts_14 : decode cX11_areGifts 14 = .ok (.iconst 0, 1) := by decide +kernel
theorem dX11_areGifts_15 : decode cX11_areGifts 15 = .ok (.istore_n 3, 1) := by decide +kernel
theorem dX11_areGifts_16 : decode cX11_areGifts 16 = .ok (.iload_n 3, 1) := by decide +kernel
theorem dX11_areGifts_17 : decode cX11_areGifts 17 = .ok (.iconst 3, 1) := by decide +kernel
theorem dX11_areGifts_18 : decode cX11_areGifts 18 = .ok (.iadd, 1) := by decide +kernel
theorem dX11_areGifts_19 : decode cX11_areGifts 19 = .ok (.iload_n 2, 1) := by decide +kernel
theorem dX11_areGifts_20 : decode cX11_areGifts 20 = .ok (.if_icmp .gt 49, 3) := by decide +kernel
theorem dX11_areGifts_23 : decode cX11_areGifts 23 = .ok (.aload_n 0, 1) := by decide +kernel
theorem dX11_areGifts_24 : decode cX11_areGifts 24 = .ok (.getfield 10, 3) := by decide +kernel
theorem dX11_areGifts_27 : decode cX11_areGifts 27 = .ok (.aload_n 1, 1) := by decide +kernel
theorem dX11_areGifts_28 : decode cX11_areGifts 28 = .ok (.iload_n 3, 1) := by decide +kernel
theorem dX11_areGifts_29 : decode cX11_areGifts 29 = .ok (.iaload, 1) := by decide +kernel
theorem dX11_areGifts_30 : decode cX11_areGifts 30 = .ok (.aload_n 1, 1) := by decide +kernel
theorem dX11_areGifts_31 : decode cX11_areGifts 31 = .ok (.iload_n 3, 1) := by decide +kernel
theorem dX11_areGifts_32 : decode cX11_areGifts 32 = .ok (.iconst 1, 1) := by decide +kernel
theorem dX11_areGifts_33 : decode cX11_areGifts 33 = .ok (.iadd, 1) := by decide +kernel
theorem dX11_areGifts_34 : decode cX11_areGifts 34 = .ok (.iaload, 1) := by decide +kernel
theorem dX11_areGifts_35 : decode cX11_areGifts 35 = .ok (.invokevirtual 278, 3) := by decide +kernel
theorem dX11_areGifts_38 : decode cX11_areGifts 38 = .ok (.ifCond .eq 23, 3) := by decide +kernel
theorem dX11_areGifts_41 : decode cX11_areGifts 41 = .ok (.aload_n 1, 1) := by decide +kernel
theorem dX11_areGifts_42 : decode cX11_areGifts 42 = .ok (.iload_n 3, 1) := by decide +kernel
theorem dX11_areGifts_43 : decode cX11_areGifts 43 = .ok (.iconst 2, 1) := by decide +kernel
theorem dX11_areGifts_44 : decode cX11_areGifts 44 = .ok (.iadd, 1) := by decide +kernel
theorem dX11_areGifts_45 : decode cX11_areGifts 45 = .ok (.iaload, 1) := by decide +kernel
theorem dX11_areGifts_46 : decode cX11_areGifts 46 = .ok (.iconst 1, 1) := by decide +kernel
theorem dX11_areGifts_47 : decode cX11_areGifts 47 = .ok (.if_icmp .lt 14, 3) := by decide +kernel
theorem dX11_areGifts_50 : decode cX11_areGifts 50 = .ok (.aload_n 1, 1) := by decide +kernel
theorem dX11_areGifts_51 : decode cX11_areGifts 51 = .ok (.iload_n 3, 1) := by decide +kernel
theorem dX11_areGifts_52 : decode cX11_areGifts 52 = .ok (.iconst 2, 1) := by decide +kernel
theorem dX11_areGifts_53 : decode cX11_areGifts 53 = .ok (.iadd, 1) := by decide +kernel
theorem dX11_areGifts_54 : decode cX11_areGifts 54 = .ok (.iaload, 1) := by decide +kernel
theorem dX11_areGifts_55 : decode cX11_areGifts 55 = .ok (.sipush 9999, 3) := by decide +kernel
theorem dX11_areGifts_58 : decode cX11_areGifts 58 = .ok (.if_icmp .le 5, 3) := by decide +kernel
theorem dX11_areGifts_61 : decode cX11_areGifts 61 = .ok (.iconst 0, 1) := by decide +kernel
theorem dX11_areGifts_62 : decode cX11_areGifts 62 = .ok (.ireturn, 1) := by decide +kernel
theorem dX11_areGifts_63 : decode cX11_areGifts 63 = .ok (.iinc 3 3, 3) := by decide +kernel
theorem dX11_areGifts_66 : decode cX11_areGifts 66 = .ok (.goto (-50), 3) := by decide +kernel
theorem dX11_areGifts_69 : decode cX11_areGifts 69 = .ok (.iconst 1, 1) := by decide +kernel
theorem dX11_areGifts_70 : decode cX11_areGifts 70 = .ok (.ireturn, 1) := by decide +kernel
theorem dX11_lowestBits_0 : decode cX11_lowestBits 0 = .ok (.iload_n 0, 1) := by decide +kernel
theorem dX11_lowestBits_1 : decode cX11_lowestBits 1 = .ok (.lookupswitch 33 #[(0, 27), (1, 30)], 27) := by decide +kernel
theorem dX11_lowestBits_28 : decode cX11_lowestBits 28 = .ok (.iload_n 1, 1) := by decide +kernel
theorem dX11_lowestBits_29 : decode cX11_lowestBits 29 = .ok (.i2b, 1) := by decide +kernel
theorem dX11_lowestBits_30 : decode cX11_lowestBits 30 = .ok (.ireturn, 1) := by decide +kernel
theorem dX11_lowestBits_31 : decode cX11_lowestBits 31 = .ok (.iload_n 1, 1) := by decide +kernel
theorem dX11_lowestBits_32 : decode cX11_lowestBits 32 = .ok (.i2s, 1) := by decide +kernel
theorem dX11_lowestBits_33 : decode cX11_lowestBits 33 = .ok (.ireturn, 1) := by decide +kernel
theorem dX11_lowestBits_34 : decode cX11_lowestBits 34 = .ok (.iload_n 1, 1) := by decide +kernel
theorem dX11_lowestBits_35 : decode cX11_lowestBits 35 = .ok (.ireturn, 1) := by decide +kernel
theorem dX11_leastOf_0 : decode cX11_leastOf 0 = .ok (.iload_n 0, 1) := by decide +kernel
theorem dX11_leastOf_1 : decode cX11_leastOf 1 = .ok (.lookupswitch 34 #[(0, 27), (1, 30)], 27) := by decide +kernel
theorem dX11_leastOf_28 : decode cX11_leastOf 28 = .ok (.bipush (-128), 2) := by decide +kernel
theorem dX11_leastOf_30 : decode cX11_leastOf 30 = .ok (.ireturn, 1) := by decide +kernel
theorem dX11_leastOf_31 : decode cX11_leastOf 31 = .ok (.sipush (-32768), 3) := by decide +kernel
theorem dX11_leastOf_34 : decode cX11_leastOf 34 = .ok (.ireturn, 1) := by decide +kernel
theorem dX11_leastOf_35 : decode cX11_leastOf 35 = .ok (.ldc_w 281, 3) := by decide +kernel
theorem dX11_leastOf_38 : decode cX11_leastOf 38 = .ok (.ireturn, 1) := by decide +kernel
theorem dX11_nextDraw_0 : decode cX11_nextDraw 0 = .ok (.iload_n 0, 1) := by decide +kernel
theorem dX11_nextDraw_1 : decode cX11_nextDraw 1 = .ok (.ldc_w 282, 3) := by decide +kernel
theorem dX11_nextDraw_4 : decode cX11_nextDraw 4 = .ok (.imul, 1) := by decide +kernel
theorem dX11_nextDraw_5 : decode cX11_nextDraw 5 = .ok (.sipush 12345, 3) := by decide +kernel
theorem dX11_nextDraw_8 : decode cX11_nextDraw 8 = .ok (.iadd, 1) := by decide +kernel
theorem dX11_nextDraw_9 : decode cX11_nextDraw 9 = .ok (.ireturn, 1) := by decide +kernel
theorem dX11_drawnBelow_0 : decode cX11_drawnBelow 0 = .ok (.iload_n 1, 1) := by decide +kernel
theorem dX11_drawnBelow_1 : decode cX11_drawnBelow 1 = .ok (.iconst 1, 1) := by decide +kernel
theorem dX11_drawnBelow_2 : decode cX11_drawnBelow 2 = .ok (.if_icmp .ge 7, 3) := by decide +kernel
theorem dX11_drawnBelow_5 : decode cX11_drawnBelow 5 = .ok (.iconst 0, 1) := by decide +kernel
theorem dX11_drawnBelow_6 : decode cX11_drawnBelow 6 = .ok (.goto 14, 3) := by decide +kernel
theorem dX11_drawnBelow_9 : decode cX11_drawnBelow 9 = .ok (.iload_n 0, 1) := by decide +kernel
theorem dX11_drawnBelow_10 : decode cX11_drawnBelow 10 = .ok (.ldc_w 283, 3) := by decide +kernel
theorem dX11_drawnBelow_13 : decode cX11_drawnBelow 13 = .ok (.iand, 1) := by decide +kernel
theorem dX11_drawnBelow_14 : decode cX11_drawnBelow 14 = .ok (.ldc_w 284, 3) := by decide +kernel
theorem dX11_drawnBelow_17 : decode cX11_drawnBelow 17 = .ok (.idiv, 1) := by decide +kernel
theorem dX11_drawnBelow_18 : decode cX11_drawnBelow 18 = .ok (.iload_n 1, 1) := by decide +kernel
theorem dX11_drawnBelow_19 : decode cX11_drawnBelow 19 = .ok (.irem, 1) := by decide +kernel
theorem dX11_drawnBelow_20 : decode cX11_drawnBelow 20 = .ok (.ireturn, 1) := by decide +kernel
set_option maxRecDepth 20000 in
theorem ggX11_houseOfKind_X2_init : GoodIn wsX11_houseOfKind wsX2_init := goodIn_r _ [27, 28, 29, 24, 30, 31, 32, 33, 34, 64, 66, 60, 67, 63, 61, 65, 62] (by decide +kernel) (by decide +kernel)
set_option maxRecDepth 20000 in
theorem gX11_houseOfKind_X2_init : GoodIn wsX11_houseOfKind (wsX2_init) := ggX11_houseOfKind_X2_init
set_option maxRecDepth 20000 in
theorem ggX11_houseOfKind_X6_init : GoodIn wsX11_houseOfKind wsX6_init := goodIn_r _ [37, 38, 29, 24, 30, 31, 32, 33, 34, 64, 66, 60, 67, 63, 61, 65, 62] (by decide +kernel) (by decide +kernel)
set_option maxRecDepth 20000 in
theorem gX11_houseOfKind_X6_init : GoodIn wsX11_houseOfKind (wsX6_init) := ggX11_houseOfKind_X6_init
set_option maxRecDepth 20000 in
theorem ggX11_houseOfKind_X10_init : GoodIn wsX11_houseOfKind wsX10_init := goodIn_r _ [41, 42, 29, 24, 30, 31, 32, 33, 34, 64, 66, 60, 67, 63, 61, 65, 62] (by decide +kernel) (by decide +kernel)
set_option maxRecDepth 20000 in
theorem gX11_houseOfKind_X10_init : GoodIn wsX11_houseOfKind (wsX10_init) := ggX11_houseOfKind_X10_init
set_option maxRecDepth 20000 in
theorem ggX11_houseOfKind_X4_init : GoodIn wsX11_houseOfKind wsX4_init := goodIn_r _ [45, 46, 26, 3, 27, 28, 29, 24, 30, 31, 32, 33, 34, 64, 66, 60, 67, 63, 61, 65, 62] (by decide +kernel) (by decide +kernel)
set_option maxRecDepth 20000 in
theorem gX11_houseOfKind_X4_init : GoodIn wsX11_houseOfKind (wsX4_init) := ggX11_houseOfKind_X4_init
set_option maxRecDepth 20000 in
theorem ggX11_houseOfKind_X0_init : GoodIn wsX11_houseOfKind wsX0_init := goodIn_r _ [49, 50, 36, 6, 37, 38, 29, 24, 30, 31, 32, 33, 34, 64, 66, 60, 67, 63, 61, 65, 62] (by decide +kernel) (by decide +kernel)
set_option maxRecDepth 20000 in
theorem gX11_houseOfKind_X0_init : GoodIn wsX11_houseOfKind (wsX0_init) := ggX11_houseOfKind_X0_init
set_option maxRecDepth 20000 in
theorem ggX11_houseOfKind_X9_init : GoodIn wsX11_houseOfKind wsX9_init := goodIn_r _ [53, 54, 26, 3, 27, 28, 29, 24, 30, 31, 32, 33, 34, 64, 66, 60, 67, 63, 61, 65, 62] (by decide +kernel) (by decide +kernel)
set_option maxRecDepth 20000 in
theorem gX11_houseOfKind_X9_init : GoodIn wsX11_houseOfKind (wsX9_init) := ggX11_houseOfKind_X9_init
set_option maxRecDepth 20000 in
theorem ggX11_houseOfKind_X1_init : GoodIn wsX11_houseOfKind wsX1_init := goodIn_r _ [57, 58, 40, 9, 41, 42, 29, 24, 30, 31, 32, 33, 34, 64, 66, 60, 67, 63, 61, 65, 62] (by decide +kernel) (by decide +kernel)
set_option maxRecDepth 20000 in
theorem gX11_houseOfKind_X1_init : GoodIn wsX11_houseOfKind (wsX1_init) := ggX11_houseOfKind_X1_init
set_option maxRecDepth 20000 in
theorem ggX11_houseOfKind_X3_init : GoodIn wsX11_houseOfKind wsX3_init := goodIn_r _ [30, 31, 32, 33, 34, 64, 66, 60, 67, 63, 61, 65, 62] (by decide +kernel) (by decide +kernel)
set_option maxRecDepth 20000 in
theorem gX11_houseOfKind_X3_init : GoodIn wsX11_houseOfKind (wsX3_init) := ggX11_houseOfKind_X3_init
theorem dX11_houseOfKind_0 : decode cX11_houseOfKind 0 = .ok (.iload_n 0, 1) := by decide +kernel
theorem dX11_houseOfKind_1 : decode cX11_houseOfKind 1 = .ok (.tableswitch 106 1 7 #[43, 52, 61, 70, 79, 88, 97], 43) := by decide +kernel
theorem dX11_houseOfKind_44 : decode cX11_houseOfKind 44 = .ok (.new 285, 3) := by decide +kernel
theorem dX11_houseOfKind_47 : decode cX11_houseOfKind 47 = .ok (.dup, 1) := by decide +kernel
theorem dX11_houseOfKind_48 : decode cX11_houseOfKind 48 = .ok (.iload_n 1, 1) := by decide +kernel
theorem dX11_houseOfKind_49 : decode cX11_houseOfKind 49 = .ok (.invokespecial 287, 3) := by decide +kernel
theorem dX11_houseOfKind_52 : decode cX11_houseOfKind 52 = .ok (.areturn, 1) := by decide +kernel
theorem dX11_houseOfKind_53 : decode cX11_houseOfKind 53 = .ok (.new 288, 3) := by decide +kernel
theorem dX11_houseOfKind_56 : decode cX11_houseOfKind 56 = .ok (.dup, 1) := by decide +kernel
theorem dX11_houseOfKind_57 : decode cX11_houseOfKind 57 = .ok (.iload_n 1, 1) := by decide +kernel
theorem dX11_houseOfKind_58 : decode cX11_houseOfKind 58 = .ok (.invokespecial 290, 3) := by decide +kernel
theorem dX11_houseOfKind_61 : decode cX11_houseOfKind 61 = .ok (.areturn, 1) := by decide +kernel
theorem dX11_houseOfKind_62 : decode cX11_houseOfKind 62 = .ok (.new 291, 3) := by decide +kernel
theorem dX11_houseOfKind_65 : decode cX11_houseOfKind 65 = .ok (.dup, 1) := by decide +kernel
theorem dX11_houseOfKind_66 : decode cX11_houseOfKind 66 = .ok (.iload_n 1, 1) := by decide +kernel
theorem dX11_houseOfKind_67 : decode cX11_houseOfKind 67 = .ok (.invokespecial 293, 3) := by decide +kernel
theorem dX11_houseOfKind_70 : decode cX11_houseOfKind 70 = .ok (.areturn, 1) := by decide +kernel
theorem dX11_houseOfKind_71 : decode cX11_houseOfKind 71 = .ok (.new 294, 3) := by decide +kernel
theorem dX11_houseOfKind_74 : decode cX11_houseOfKind 74 = .ok (.dup, 1) := by decide +kernel
theorem dX11_houseOfKind_75 : decode cX11_houseOfKind 75 = .ok (.iload_n 1, 1) := by decide +kernel
theorem dX11_houseOfKind_76 : decode cX11_houseOfKind 76 = .ok (.invokespecial 296, 3) := by decide +kernel
theorem dX11_houseOfKind_79 : decode cX11_houseOfKind 79 = .ok (.areturn, 1) := by decide +kernel
theorem dX11_houseOfKind_80 : decode cX11_houseOfKind 80 = .ok (.new 297, 3) := by decide +kernel
theorem dX11_houseOfKind_83 : decode cX11_houseOfKind 83 = .ok (.dup, 1) := by decide +kernel
theorem dX11_houseOfKind_84 : decode cX11_houseOfKind 84 = .ok (.iload_n 1, 1) := by decide +kernel
theorem dX11_houseOfKind_85 : decode cX11_houseOfKind 85 = .ok (.invokespecial 299, 3) := by decide +kernel
theorem dX11_houseOfKind_88 : decode cX11_houseOfKind 88 = .ok (.areturn, 1) := by decide +kernel
theorem dX11_houseOfKind_89 : decode cX11_houseOfKind 89 = .ok (.new 300, 3) := by decide +kernel
theorem dX11_houseOfKind_92 : decode cX11_houseOfKind 92 = .ok (.dup, 1) := by decide +kernel
theorem dX11_houseOfKind_93 : decode cX11_houseOfKind 93 = .ok (.iload_n 1, 1) := by decide +kernel
theorem dX11_houseOfKind_94 : decode cX11_houseOfKind 94 = .ok (.invokespecial 302, 3) := by decide +kernel
theorem dX11_houseOfKind_97 : decode cX11_houseOfKind 97 = .ok (.areturn, 1) := by decide +kernel
theorem dX11_houseOfKind_98 : decode cX11_houseOfKind 98 = .ok (.new 303, 3) := by decide +kernel
theorem dX11_houseOfKind_101 : decode cX11_houseOfKind 101 = .ok (.dup, 1) := by decide +kernel
theorem dX11_houseOfKind_102 : decode cX11_houseOfKind 102 = .ok (.iload_n 1, 1) := by decide +kernel
theorem dX11_houseOfKind_103 : decode cX11_houseOfKind 103 = .ok (.invokespecial 305, 3) := by decide +kernel
theorem dX11_houseOfKind_106 : decode cX11_houseOfKind 106 = .ok (.areturn, 1) := by decide +kernel
theorem dX11_houseOfKind_107 : decode cX11_houseOfKind 107 = .ok (.new 22, 3) := by decide +kernel
theorem dX11_houseOfKind_110 : decode cX11_houseOfKind 110 = .ok (.dup, 1) := by decide +kernel
theorem dX11_houseOfKind_111 : decode cX11_houseOfKind 111 = .ok (.iload_n 1, 1) := by decide +kernel
theorem dX11_houseOfKind_112 : decode cX11_houseOfKind 112 = .ok (.invokespecial 24, 3) := by decide +kernel
theorem dX11_houseOfKind_115 : decode cX11_houseOfKind 115 = .ok (.areturn, 1) := by decide +kernel
