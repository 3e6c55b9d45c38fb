theorem dX12_gives_1 : decode cX12_gives 1 = .ok (.iload_n 1, 1) := by decide +kernel
theorem dX12_gives_2 : decode cX12_gives 2 = .ok (.iconst 2, 1) := by decide +kernel
theorem dX12_gives_3 : decode cX12_gives 3 = .ok (.aload_n 0, 1) := by decide +kernel
theorem dX12_gives_4 : decode cX12_gives 4 = .ok (.iload_n 1, 1) := by decide +kernel
theorem dX12_gives_5 : decode cX12_gives 5 = .ok (.invokevirtual 68, 3) := by decide +kernel
theorem dX12_gives_8 : decode cX12_gives 8 = .ok (.iload_n 3, 1) := by decide +kernel
theorem dX12_gives_9 : decode cX12_gives 9 = .ok (.isub, 1) := by decide +kernel
theorem dX12_gives_10 : decode cX12_gives 10 = .ok (.invokevirtual 125, 3) := by decide +kernel
theorem dX12_gives_13 : decode cX12_gives 13 = .ok (.aload_n 0, 1) := by decide +kernel
theorem dX12_gives_14 : decode cX12_gives 14 = .ok (.iload_n 2, 1) := by decide +kernel
theorem dX12_gives_15 : decode cX12_gives 15 = .ok (.iconst 2, 1) := by decide +kernel
theorem dX12_gives_16 : decode cX12_gives 16 = .ok (.aload_n 0, 1) := by decide +kernel
theorem dX12_gives_17 : decode cX12_gives 17 = .ok (.iload_n 2, 1) := by decide +kernel
theorem dX12_gives_18 : decode cX12_gives 18 = .ok (.invokevirtual 68, 3) := by decide +kernel
theorem dX12_gives_21 : decode cX12_gives 21 = .ok (.iload_n 3, 1) := by decide +kernel
theorem dX12_gives_22 : decode cX12_gives 22 = .ok (.iadd, 1) := by decide +kernel
theorem dX12_gives_23 : decode cX12_gives 23 = .ok (.invokevirtual 125, 3) := by decide +kernel
theorem dX12_gives_26 : decode cX12_gives 26 = .ok (.return_, 1) := by decide +kernel
set_option maxRecDepth 20000 in
theorem ggX12_givesIf_X12_wrongGift : GoodIn wsX12_givesIf wsX12_wrongGift := goodIn_r _ [5, 6, 7, 8, 4, 9, 10, 11, 12, 13, 14, 15, 16, 17, 18, 19, 20, 21, 22, 23, 24, 25, 34, 35, 36, 37, 38, 39, 40, 41, 42, 43, 44, 45, 46, 47, 48, 49, 50, 51, 52, 53, 54, 55, 56, 57] (by decide +kernel) (by decide +kernel)
set_option maxRecDepth 20000 in
theorem gX12_givesIf_X12_wrongGift : GoodIn wsX12_givesIf (wsV RX12 136 RX12 yX12_wrongGift wsX12_wrongGift) := goodIn_app (goodIn_of _ (by decide +kernel)) ggX12_givesIf_X12_wrongGift
set_option maxRecDepth 20000 in
theorem ggX12_givesIf_X12_gives : GoodIn wsX12_givesIf wsX12_gives := goodIn_r _ [29, 18, 19, 20, 4, 21, 22, 23, 24, 25, 14, 30, 31, 32, 33, 34, 35, 36, 37, 38, 39, 40, 41, 42, 43, 44, 45, 46, 47, 48, 49, 50, 51, 52, 53, 54, 55, 56, 57] (by decide +kernel) (by decide +kernel)
set_option maxRecDepth 20000 in
theorem gX12_givesIf_X12_gives : GoodIn wsX12_givesIf (wsV RX12 140 RX12 yX12_gives wsX12_gives) := goodIn_app (goodIn_of _ (by decide +kernel)) ggX12_givesIf_X12_gives
theorem dX12_givesIf_0 : decode cX12_givesIf 0 = .ok (.aload_n 0, 1) := by decide +kernel
theorem dX12_givesIf_1 : decode cX12_givesIf 1 = .ok (.iload_n 1, 1) := by decide +kernel
theorem dX12_givesIf_2 : decode cX12_givesIf 2 = .ok (.iload_n 2, 1) := by decide +kernel
theorem dX12_givesIf_3 : decode cX12_givesIf 3 = .ok (.iload_n 3, 1) := by decide +kernel
theorem dX12_givesIf_4 : decode cX12_givesIf 4 = .ok (.invokevirtual 136, 3) := by decide +kernel
theorem dX12_givesIf_7 : decode cX12_givesIf 7 = .ok (.ifCond .eq 5, 3) := by decide +kernel
theorem dX12_givesIf_10 : decode cX12_givesIf 10 = .ok (.iconst 0, 1) := by decide +kernel
theorem dX12_givesIf_11 : decode cX12_givesIf 11 = .ok (.ireturn, 1) := by decide +kernel
theorem dX12_givesIf_12 : decode cX12_givesIf 12 = .ok (.aload_n 0, 1) := by decide +kernel
theorem dX12_givesIf_13 : decode cX12_givesIf 13 = .ok (.iload_n 1, 1) := by decide +kernel
theorem dX12_givesIf_14 : decode cX12_givesIf 14 = .ok (.iload_n 2, 1) := by decide +kernel
theorem dX12_givesIf_15 : decode cX12_givesIf 15 = .ok (.iload_n 3, 1) := by decide +kernel
theorem dX12_givesIf_16 : decode cX12_givesIf 16 = .ok (.invokevirtual 140, 3) := by decide +kernel
theorem dX12_givesIf_19 : decode cX12_givesIf 19 = .ok (.iconst 1, 1) := by decide +kernel
theorem dX12_givesIf_20 : decode cX12_givesIf 20 = .ok (.ireturn, 1) := by decide +kernel
set_option maxRecDepth 20000 in
theorem ggX12_changes_X12_get : GoodIn wsX12_changes wsX12_get := goodIn_r _ [5, 6, 11, 12, 13, 14, 15, 16, 17, 18, 19, 20, 21, 22, 23, 24, 25, 26, 27, 28, 29, 30, 31, 32, 33, 34] (by decide +kernel) (by decide +kernel)
set_option maxRecDepth 20000 in
theorem gX12_changes_X12_get : GoodIn wsX12_changes (wsV RX12 64 RX12 yX12_get wsX12_get) := goodIn_app (goodIn_of _ (by decide +kernel)) ggX12_changes_X12_get
set_option maxRecDepth 20000 in
theorem ggX12_changes_X12_puts : GoodIn wsX12_changes wsX12_puts := goodIn_r _ [10, 6, 11, 12, 13, 14, 15, 16, 17, 18, 19, 20, 21, 22, 23, 24, 25, 26, 27, 28, 29, 30, 31, 32, 33, 34] (by decide +kernel) (by decide +kernel)
set_option maxRecDepth 20000 in
theorem gX12_changes_X12_puts : GoodIn wsX12_changes (wsV RX12 125 RX12 yX12_puts wsX12_puts) := goodIn_app (goodIn_of _ (by decide +kernel)) ggX12_changes_X12_puts
theorem dX12_changes_0 : decode cX12_changes 0 = .ok (.iconst 0, 1) := by decide +kernel
theorem dX12_changes_1 : decode cX12_changes 1 = .ok (.istore_n 3, 1) := by decide +kernel
theorem dX12_changes_2 : decode cX12_changes 2 = .ok (.iload_n 3, 1) := by decide +kernel
theorem dX12_changes_3 : decode cX12_changes 3 = .ok (.iconst 3, 1) := by decide +kernel
theorem dX12_changes_4 : decode cX12_changes 4 = .ok (.if_icmp .ge 37, 3) := by decide +kernel
theorem dX12_changes_7 : decode cX12_changes 7 = .ok (.aload_n 0, 1) := by decide +kernel
theorem dX12_changes_8 : decode cX12_changes 8 = .ok (.iload_n 1, 1) := by decide +kernel
theorem dX12_changes_9 : decode cX12_changes 9 = .ok (.iload_n 3, 1) := by decide +kernel
theorem dX12_changes_10 : decode cX12_changes 10 = .ok (.invokevirtual 64, 3) := by decide +kernel
theorem dX12_changes_13 : decode cX12_changes 13 = .ok (.istore 4, 2) := by decide +kernel
theorem dX12_changes_15 : decode cX12_changes 15 = .ok (.aload_n 0, 1) := by decide +kernel
theorem dX12_changes_16 : decode cX12_changes 16 = .ok (.iload_n 1, 1) := by decide +kernel
theorem dX12_changes_17 : decode cX12_changes 17 = .ok (.iload_n 3, 1) := by decide +kernel
theorem dX12_changes_18 : decode cX12_changes 18 = .ok (.aload_n 0, 1) := by decide +kernel
theorem dX12_changes_19 : decode cX12_changes 19 = .ok (.iload_n 2, 1) := by decide +kernel
theorem dX12_changes_20 : decode cX12_changes 20 = .ok (.iload_n 3, 1) := by decide +kernel
theorem dX12_changes_21 : decode cX12_changes 21 = .ok (.invokevirtual 64, 3) := by decide +kernel
theorem dX12_changes_24 : decode cX12_changes 24 = .ok (.invokevirtual 125, 3) := by decide +kernel
theorem dX12_changes_27 : decode cX12_changes 27 = .ok (.aload_n 0, 1) := by decide +kernel
theorem dX12_changes_28 : decode cX12_changes 28 = .ok (.iload_n 2, 1) := by decide +kernel
theorem dX12_changes_29 : decode cX12_changes 29 = .ok (.iload_n 3, 1) := by decide +kernel
theorem dX12_changes_30 : decode cX12_changes 30 = .ok (.iload 4, 2) := by decide +kernel
theorem dX12_changes_32 : decode cX12_changes 32 = .ok (.invokevirtual 125, 3) := by decide +kernel
theorem dX12_changes_35 : decode cX12_changes 35 = .ok (.iinc 3 1, 3) := by decide +kernel
theorem dX12_changes_38 : decode cX12_changes 38 = .ok (.goto (-36), 3) := by decide +kernel
theorem dX12_changes_41 : decode cX12_changes 41 = .ok (.return_, 1) := by decide +kernel
set_option maxRecDepth 20000 in
theorem ggX12_comesTold_X12_adds : GoodIn wsX12_comesTold wsX12_adds := goodIn_r _ [7, 2, 8, 9, 10, 6, 11, 12, 13, 14, 15, 51, 52, 53, 54, 55, 56, 57, 58, 59, 60, 61, 62, 63, 64, 65, 66, 67, 68, 69, 70, 71, 72, 73, 74] (by decide +kernel) (by decide +kernel)
set_option maxRecDepth 20000 in
theorem gX12_comesTold_X12_adds : GoodIn wsX12_comesTold (wsV RX12 143 RX12 yX12_adds wsX12_adds) := goodIn_app (goodIn_of _ (by decide +kernel)) ggX12_comesTold_X12_adds
set_option maxRecDepth 20000 in
theorem ggX12_comesTold_X12_givesIf : GoodIn wsX12_comesTold wsX12_givesIf := goodIn_r _ [19, 20, 21, 22, 6, 23, 24, 25, 26, 27, 28, 29, 30, 31, 2, 32, 33, 34, 35, 36, 37, 38, 39, 40, 41, 42, 43, 44, 45, 46, 12, 13, 14, 15, 51, 52, 53, 54, 55, 56, 57, 58, 59, 60, 61, 62, 63, 64, 65, 66, 67, 68, 69, 70, 71, 72, 73, 74] (by decide +kernel) (by decide +kernel)
set_option maxRecDepth 20000 in
theorem gX12_comesTold_X12_givesIf : GoodIn wsX12_comesTold (wsV RX12 147 RX12 yX12_givesIf wsX12_givesIf) := goodIn_app (goodIn_of _ (by decide +kernel)) ggX12_comesTold_X12_givesIf
set_option maxRecDepth 20000 in
theorem ggX12_comesTold_X12_areTwo : GoodIn wsX12_comesTold wsX12_areTwo := goodIn_r _ [27, 28, 29, 30, 6, 31, 2, 32, 33, 34, 51, 52, 53, 54, 55, 56, 57, 58, 59, 60, 61, 62, 63, 64, 65, 66, 67, 68, 69, 70, 71, 72, 73, 74] (by decide +kernel) (by decide +kernel)
set_option maxRecDepth 20000 in
theorem gX12_comesTold_X12_areTwo : GoodIn wsX12_comesTold (wsV RX12 132 RX12 yX12_areTwo wsX12_areTwo) := goodIn_app (goodIn_of _ (by decide +kernel)) ggX12_comesTold_X12_areTwo
set_option maxRecDepth 20000 in
theorem ggX12_comesTold_X12_changes : GoodIn wsX12_comesTold wsX12_changes := goodIn_r _ [50, 39, 40, 41, 6, 42, 2, 12, 13, 14, 15, 51, 52, 53, 54, 55, 56, 57, 58, 59, 60, 61, 62, 63, 64, 65, 66, 67, 68, 69, 70, 71, 72, 73, 74] (by decide +kernel) (by decide +kernel)
set_option maxRecDepth 20000 in
theorem gX12_comesTold_X12_changes : GoodIn wsX12_comesTold (wsV RX12 150 RX12 yX12_changes wsX12_changes) := goodIn_app (goodIn_of _ (by decide +kernel)) ggX12_comesTold_X12_changes
theorem dX12_comesTold_0 : decode cX12_comesTold 0 = .ok (.aload_n 0, 1) := by decide +kernel
theorem dX12_comesTold_1 : decode cX12_comesTold 1 = .ok (.getfield 40, 3) := by decide +kernel
theorem dX12_comesTold_4 : decode cX12_comesTold 4 = .ok (.iconst 0, 1) := by decide +kernel
theorem dX12_comesTold_5 : decode cX12_comesTold 5 = .ok (.iaload, 1) := by decide +kernel
theorem dX12_comesTold_6 : decode cX12_comesTold 6 = .ok (.istore_n 2, 1) := by decide +kernel
theorem dX12_comesTold_7 : decode cX12_comesTold 7 = .ok (.aload_n 0, 1) := by decide +kernel
theorem dX12_comesTold_8 : decode cX12_comesTold 8 = .ok (.getfield 40, 3) := by decide +kernel
theorem dX12_comesTold_11 : decode cX12_comesTold 11 = .ok (.iconst 1, 1) := by decide +kernel
theorem dX12_comesTold_12 : decode cX12_comesTold 12 = .ok (.iaload, 1) := by decide +kernel
theorem dX12_comesTold_13 : decode cX12_comesTold 13 = .ok (.istore_n 3, 1) := by decide +kernel
theorem dX12_comesTold_14 : decode cX12_comesTold 14 = .ok (.iload_n 1, 1) := by decide +kernel
theorem dX12_comesTold_15 : decode cX12_comesTold 15 = .ok (.lookupswitch 116 #[(103, 84), (104, 41), (109, 97), (114, 68)], 41) := by decide +kernel
theorem dX12_comesTold_56 : decode cX12_comesTold 56 = .ok (.iload_n 2, 1) := by decide +kernel
theorem dX12_comesTold_57 : decode cX12_comesTold 57 = .ok (.bipush 8, 2) := by decide +kernel
theorem dX12_comesTold_59 : decode cX12_comesTold 59 = .ok (.if_icmp .ge 22, 3) := by decide +kernel
theorem dX12_comesTold_62 : decode cX12_comesTold 62 = .ok (.aload_n 0, 1) := by decide +kernel
theorem dX12_comesTold_63 : decode cX12_comesTold 63 = .ok (.iload_n 2, 1) := by decide +kernel
theorem dX12_comesTold_64 : decode cX12_comesTold 64 = .ok (.iload_n 3, 1) := by decide +kernel
theorem dX12_comesTold_65 : decode cX12_comesTold 65 = .ok (.aload_n 0, 1) := by decide +kernel
theorem dX12_comesTold_66 : decode cX12_comesTold 66 = .ok (.getfield 40, 3) := by decide +kernel
theorem dX12_comesTold_69 : decode cX12_comesTold 69 = .ok (.iconst 2, 1) := by decide +kernel
theorem dX12_comesTold_70 : decode cX12_comesTold 70 = .ok (.iaload, 1) := by decide +kernel
theorem dX12_comesTold_71 : decode cX12_comesTold 71 = .ok (.invokevirtual 143, 3) := by decide +kernel
theorem dX12_comesTold_74 : decode cX12_comesTold 74 = .ok (.ifCond .eq 7, 3) := by decide +kernel
theorem dX12_comesTold_77 : decode cX12_comesTold 77 = .ok (.iconst 1, 1) := by decide +kernel
theorem dX12_comesTold_78 : decode cX12_comesTold 78 = .ok (.goto 4, 3) := by decide +kernel
theorem dX12_comesTold_81 : decode cX12_comesTold 81 = .ok (.iconst 0, 1) := by decide +kernel
theorem dX12_comesTold_82 : decode cX12_comesTold 82 = .ok (.ireturn, 1) := by decide +kernel
theorem dX12_comesTold_83 : decode cX12_comesTold 83 = .ok (.iload_n 2, 1) := by decide +kernel
theorem dX12_comesTold_84 : decode cX12_comesTold 84 = .ok (.iconst 1, 1) := by decide +kernel
theorem dX12_comesTold_85 : decode cX12_comesTold 85 = .ok (.if_icmp .le 5, 3) := by decide +kernel
theorem dX12_comesTold_88 : decode cX12_comesTold 88 = .ok (.iconst 0, 1) := by decide +kernel
theorem dX12_comesTold_89 : decode cX12_comesTold 89 = .ok (.ireturn, 1) := by decide +kernel
theorem dX12_comesTold_90 : decode cX12_comesTold 90 = .ok (.aload_n 0, 1) := by decide +kernel
theorem dX12_comesTold_91 : decode cX12_comesTold 91 = .ok (.getfield 9, 3) := by decide +kernel
theorem dX12_comesTold_94 : decode cX12_comesTold 94 = .ok (.iconst 1, 1) := by decide +kernel
theorem dX12_comesTold_95 : decode cX12_comesTold 95 = .ok (.iload_n 2, 1) := by decide +kernel
theorem dX12_comesTold_96 : decode cX12_comesTold 96 = .ok (.iastore, 1) := by decide +kernel
theorem dX12_comesTold_97 : decode cX12_comesTold 97 = .ok (.iconst 1, 1) := by decide +kernel
theorem dX12_comesTold_98 : decode cX12_comesTold 98 = .ok (.ireturn, 1) := by decide +kernel
theorem dX12_comesTold_99 : decode cX12_comesTold 99 = .ok (.aload_n 0, 1) := by decide +kernel
theorem dX12_comesTold_100 : decode cX12_comesTold 100 = .ok (.iload_n 2, 1) := by decide +kernel
theorem dX12_comesTold_101 : decode cX12_comesTold 101 = .ok (.iload_n 3, 1) := by decide +kernel
theorem dX12_comesTold_102 : decode cX12_comesTold 102 = .ok (.aload_n 0, 1) := by decide +kernel
theorem dX12_comesTold_103 : decode cX12_comesTold 103 = .ok (.getfield 40, 3) := by decide +kernel
theorem dX12_comesTold_106 : decode cX12_comesTold 106 = .ok (.iconst 2, 1) := by decide +kernel
theorem dX12_comesTold_107 : decode cX12_comesTold 107 = .ok (.iaload, 1) := by decide +kernel
theorem dX12_comesTold_108 : decode cX12_comesTold 108 = .ok (.invokevirtual 147, 3) := by decide +kernel
theorem dX12_comesTold_111 : decode cX12_comesTold 111 = .ok (.ireturn, 1) := by decide +kernel
theorem dX12_comesTold_112 : decode cX12_comesTold 112 = .ok (.aload_n 0, 1) := by decide +kernel
theorem dX12_comesTold_113 : decode cX12_comesTold 113 = .ok (.iload_n 2, 1) := by decide +kernel
theorem dX12_comesTold_114 : decode cX12_comesTold 114 = .ok (.iload_n 3, 1) := by decide +kernel
theorem dX12_comesTold_115 : decode cX12_comesTold 115 = .ok (.invokevirtual 132, 3) := by decide +kernel
theorem dX12_comesTold_118 : decode cX12_comesTold 118 = .ok (.ifCond .ne 5, 3) := by decide +kernel
theorem dX12_comesTold_121 : decode cX12_comesTold 121 = .ok (.iconst 0, 1) := by decide +kernel
theorem dX12_comesTold_122 : decode cX12_comesTold 122 = .ok (.ireturn, 1) := by decide +kernel
theorem dX12_comesTold_123 : decode cX12_comesTold 123 = .ok (.aload_n 0, 1) := by decide +kernel
theorem dX12_comesTold_124 : decode cX12_comesTold 124 = .ok (.iload_n 2, 1) := by decide +kernel
theorem dX12_comesTold_125 : decode cX12_comesTold 125 = .ok (.iload_n 3, 1) := by decide +kernel
theorem dX12_comesTold_126 : decode cX12_comesTold 126 = .ok (.invokevirtual 150, 3) := by decide +kernel
theorem dX12_comesTold_129 : decode cX12_comesTold 129 = .ok (.iconst 1, 1) := by decide +kernel
theorem dX12_comesTold_130 : decode cX12_comesTold 130 = .ok (.ireturn, 1) := by decide +kernel
theorem dX12_comesTold_131 : decode cX12_comesTold 131 = .ok (.aload_n 0, 1) := by decide +kernel
theorem dX12_comesTold_132 : decode cX12_comesTold 132 = .ok (.getfield 9, 3) := by decide +kernel
theorem dX12_comesTold_135 : decode cX12_comesTold 135 = .ok (.iconst 0, 1) := by decide +kernel
theorem dX12_comesTold_136 : decode cX12_comesTold 136 = .ok (.iaload, 1) := by decide +kernel
theorem dX12_comesTold_137 : decode cX12_comesTold 137 = .ok (.ifCond .ne 5, 3) := by decide +kernel
theorem dX12_comesTold_140 : decode cX12_comesTold 140 = .ok (.iconst 0, 1) := by decide +kernel
theorem dX12_comesTold_141 : decode cX12_comesTold 141 = .ok (.ireturn, 1) := by decide +kernel
theorem dX12_comesTold_142 : decode cX12_comesTold 142 = .ok (.aload_n 0, 1) := by decide +kernel
theorem dX12_comesTold_143 : decode cX12_comesTold 143 = .ok (.getfield 9, 3) := by decide +kernel
theorem dX12_comesTold_146 : decode cX12_comesTold 146 = .ok (.iconst 0, 1) := by decide +kernel
theorem dX12_comesTold_147 : decode cX12_comesTold 147 = .ok (.dup2, 1) := by decide +kernel
theorem dX12_comesTold_148 : decode cX12_comesTold 148 = .ok (.iaload, 1) := by decide +kernel
theorem dX12_comesTold_149 : decode cX12_comesTold 149 = .ok (.iconst 1, 1) := by decide +kernel
theorem dX12_comesTold_150 : decode cX12_comesTold 150 = .ok (.isub, 1) := by decide +kernel
theorem dX12_comesTold_151 : decode cX12_comesTold 151 = .ok (.iastore, 1) := by decide +kernel
theorem dX12_comesTold_152 : decode cX12_comesTold 152 = .ok (.iconst 1, 1) := by decide +kernel
theorem dX12_comesTold_153 : decode cX12_comesTold 153 = .ok (.ireturn, 1) := by decide +kernel
set_option maxRecDepth 20000 in
theorem ggX12_wrongRow_X12_isShelf : GoodIn wsX12_wrongRow wsX12_isShelf := goodIn_r _ [6, 7, 8, 9, 5, 10] (by decide +kernel) (by decide +kernel)
set_option maxRecDepth 20000 in
theorem gX12_wrongRow_X12_isShelf : GoodIn wsX12_wrongRow (va_wsS RX12 154 yX12_isShelf wsX12_isShelf) := goodIn_app (goodIn_of _ (by decide +kernel)) ggX12_wrongRow_X12_isShelf
theorem dX12_wrongRow_0 : decode cX12_wrongRow 0 = .ok (.iload_n 1, 1) := by decide +kernel
theorem dX12_wrongRow_1 : decode cX12_wrongRow 1 = .ok (.invokestatic 154, 3) := by decide +kernel
theorem dX12_wrongRow_4 : decode cX12_wrongRow 4 = .ok (.ifCond .ne 7, 3) := by decide +kernel
theorem dX12_wrongRow_7 : decode cX12_wrongRow 7 = .ok (.iconst (-1), 1) := by decide +kernel
theorem dX12_wrongRow_8 : decode cX12_wrongRow 8 = .ok (.goto 47, 3) := by decide +kernel
theorem dX12_wrongRow_11 : decode cX12_wrongRow 11 = .ok (.aload_n 0, 1) := by decide +kernel
theorem dX12_wrongRow_12 : decode cX12_wrongRow 12 = .ok (.getfield 22, 3) := by decide +kernel
theorem dX12_wrongRow_15 : decode cX12_wrongRow 15 = .ok (.iload_n 1, 1) := by decide +kernel
theorem dX12_wrongRow_16 : decode cX12_wrongRow 16 = .ok (.iaload, 1) := by decide +kernel
theorem dX12_wrongRow_17 : decode cX12_wrongRow 17 = .ok (.ifCond .ne 8, 3) := by decide +kernel
theorem dX12_wrongRow_20 : decode cX12_wrongRow 20 = .ok (.bipush (-11), 2) := by decide +kernel
theorem dX12_wrongRow_22 : decode cX12_wrongRow 22 = .ok (.goto 33, 3) := by decide +kernel
theorem dX12_wrongRow_25 : decode cX12_wrongRow 25 = .ok (.aload_n 0, 1) := by decide +kernel
theorem dX12_wrongRow_26 : decode cX12_wrongRow 26 = .ok (.getfield 22, 3) := by decide +kernel
theorem dX12_wrongRow_29 : decode cX12_wrongRow 29 = .ok (.iload_n 1, 1) := by decide +kernel
theorem dX12_wrongRow_30 : decode cX12_wrongRow 30 = .ok (.iaload, 1) := by decide +kernel
theorem dX12_wrongRow_31 : decode cX12_wrongRow 31 = .ok (.iconst 2, 1) := by decide +kernel
theorem dX12_wrongRow_32 : decode cX12_wrongRow 32 = .ok (.if_icmp .ne 17, 3) := by decide +kernel
theorem dX12_wrongRow_35 : decode cX12_wrongRow 35 = .ok (.iload_n 2, 1) := by decide +kernel
theorem dX12_wrongRow_36 : decode cX12_wrongRow 36 = .ok (.ifCond .lt 18, 3) := by decide +kernel
theorem dX12_wrongRow_39 : decode cX12_wrongRow 39 = .ok (.aload_n 0, 1) := by decide +kernel
theorem dX12_wrongRow_40 : decode cX12_wrongRow 40 = .ok (.getfield 25, 3) := by decide +kernel
theorem dX12_wrongRow_43 : decode cX12_wrongRow 43 = .ok (.iload_n 1, 1) := by decide +kernel
theorem dX12_wrongRow_44 : decode cX12_wrongRow 44 = .ok (.iaload, 1) := by decide +kernel
theorem dX12_wrongRow_45 : decode cX12_wrongRow 45 = .ok (.iload_n 2, 1) := by decide +kernel
theorem dX12_wrongRow_46 : decode cX12_wrongRow 46 = .ok (.if_icmp .eq 8, 3) := by decide +kernel
theorem dX12_wrongRow_49 : decode cX12_wrongRow 49 = .ok (.bipush (-12), 2) := by decide +kernel
theorem dX12_wrongRow_51 : decode cX12_wrongRow 51 = .ok (.goto 4, 3) := by decide +kernel
theorem dX12_wrongRow_54 : decode cX12_wrongRow 54 = .ok (.iconst 0, 1) := by decide +kernel
theorem dX12_wrongRow_55 : decode cX12_wrongRow 55 = .ok (.ireturn, 1) := by decide +kernel
set_option maxRecDepth 20000 in
theorem ggX12_street_X12_wrongRow : GoodIn wsX12_street wsX12_wrongRow := goodIn_r _ [11, 12, 13, 14, 15, 10, 16, 17, 18, 19, 20, 89, 90, 91, 92, 93, 94, 95, 96, 97, 98, 99, 100, 101, 102, 103, 104, 105, 106, 107, 108, 109, 110, 111, 112] (by decide +kernel) (by decide +kernel)
set_option maxRecDepth 20000 in
theorem gX12_street_X12_wrongRow : GoodIn wsX12_street (wsV RX12 157 RX12 yX12_wrongRow wsX12_wrongRow) := goodIn_app (goodIn_of _ (by decide +kernel)) ggX12_street_X12_wrongRow
set_option maxRecDepth 20000 in
theorem ggX12_street_X12_readsStatement : GoodIn wsX12_street wsX12_readsStatement := goodIn_r _ [24, 25, 4, 26, 27, 28, 10, 29, 3, 30, 1, 31, 32, 33, 34, 35, 36, 37, 18, 19, 20, 89, 90, 91, 92, 93, 94, 95, 96, 97, 98, 99, 100, 101, 102, 103, 104, 105, 106, 107, 108, 109, 110, 111, 112] (by decide +kernel) (by decide +kernel)
set_option maxRecDepth 20000 in
theorem gX12_street_X12_readsStatement : GoodIn wsX12_street (wsV RX12 160 RX12 yX12_readsStatement wsX12_readsStatement) := goodIn_app (goodIn_of _ (by decide +kernel)) ggX12_street_X12_readsStatement
set_option maxRecDepth 20000 in
theorem ggX12_street_X12_lays : GoodIn wsX12_street wsX12_lays := goodIn_r _ [40] (by decide +kernel) (by decide +kernel)
set_option maxRecDepth 20000 in
theorem gX12_street_X12_lays : GoodIn wsX12_street (va_wsS RX12 60 yX12_lays wsX12_lays) := goodIn_app (goodIn_of _ (by decide +kernel)) ggX12_street_X12_lays
set_option maxRecDepth 20000 in
theorem ggX12_street_X12_here : GoodIn wsX12_street wsX12_here := goodIn_r _ [29, 4, 3, 30, 1, 89, 90, 91, 92, 93, 94, 95, 96, 97, 98, 99, 100, 101, 102, 103, 104, 105, 106, 107, 108, 109, 110, 111, 112] (by decide +kernel) (by decide +kernel)
set_option maxRecDepth 20000 in
theorem gX12_street_X12_here : GoodIn wsX12_street (wsV RX12 112 RX12 yX12_here wsX12_here) := goodIn_app (goodIn_of _ (by decide +kernel)) ggX12_street_X12_here
set_option maxRecDepth 20000 in
theorem ggX12_street_X12_comesTold : GoodIn wsX12_street wsX12_comesTold := goodIn_r _ [44, 37, 5, 45, 46, 47, 10, 48, 49, 50, 51, 52, 53, 54, 55, 56, 57, 58, 59, 60, 61, 62, 63, 64, 65, 66, 67, 68, 69, 70, 71, 72, 18, 19, 20, 73, 74, 75, 76, 77, 78, 79, 80, 81, 82, 83, 84, 85, 86, 87, 88, 89, 90, 91, 92, 93, 94, 95, 96, 97, 98, 99, 100, 101, 102, 103, 104, 105, 106, 107, 108, 109, 110, 111, 112] (by decide +kernel) (by decide +kernel)
set_option maxRecDepth 20000 in
theorem gX12_street_X12_comesTold : GoodIn wsX12_street (wsV RX12 164 RX12 yX12_comesTold wsX12_comesTold) := goodIn_app (goodIn_of _ (by decide +kernel)) ggX12_street_X12_comesTold
theorem dX12_street_0 : decode cX12_street 0 = .ok (.aload_n 0, 1) := by decide +kernel
theorem dX12_street_1 : decode cX12_street 1 = .ok (.iload_n 1, 1) := by decide +kernel
theorem dX12_street_2 : decode cX12_street 2 = .ok (.iconst 0, 1) := by decide +kernel
theorem dX12_street_3 : decode cX12_street 3 = .ok (.invokevirtual 157, 3) := by decide +kernel
theorem dX12_street_6 : decode cX12_street 6 = .ok (.istore_n 2, 1) := by decide +kernel
theorem dX12_street_7 : decode cX12_street 7 = .ok (.iload_n 2, 1) := by decide +kernel
theorem dX12_street_8 : decode cX12_street 8 = .ok (.ifCond .eq 5, 3) := by decide +kernel
theorem dX12_street_11 : decode cX12_street 11 = .ok (.iload_n 2, 1) := by decide +kernel
theorem dX12_street_12 : decode cX12_street 12 = .ok (.ireturn, 1) := by decide +kernel
theorem dX12_street_13 : decode cX12_street 13 = .ok (.aload_n 0, 1) := by decide +kernel
theorem dX12_street_14 : decode cX12_street 14 = .ok (.bipush 100, 2) := by decide +kernel
theorem dX12_street_16 : decode cX12_street 16 = .ok (.iload_n 1, 1) := by decide +kernel
theorem dX12_street_17 : decode cX12_street 17 = .ok (.imul, 1) := by decide +kernel
theorem dX12_street_18 : decode cX12_street 18 = .ok (.putfield 109, 3) := by decide +kernel
theorem dX12_street_21 : decode cX12_street 21 = .ok (.aload_n 0, 1) := by decide +kernel
theorem dX12_street_22 : decode cX12_street 22 = .ok (.aload_n 0, 1) := by decide +kernel
theorem dX12_street_23 : decode cX12_street 23 = .ok (.getfield 28, 3) := by decide +kernel
theorem dX12_street_26 : decode cX12_street 26 = .ok (.iload_n 1, 1) := by decide +kernel
theorem dX12_street_27 : decode cX12_street 27 = .ok (.iaload, 1) := by decide +kernel
theorem dX12_street_28 : decode cX12_street 28 = .ok (.putfield 106, 3) := by decide +kernel
theorem dX12_street_31 : decode cX12_street 31 = .ok (.aload_n 0, 1) := by decide +kernel
theorem dX12_street_32 : decode cX12_street 32 = .ok (.iconst 0, 1) := by decide +kernel
theorem dX12_street_33 : decode cX12_street 33 = .ok (.putfield 103, 3) := by decide +kernel
theorem dX12_street_36 : decode cX12_street 36 = .ok (.iconst 0, 1) := by decide +kernel
theorem dX12_street_37 : decode cX12_street 37 = .ok (.istore_n 3, 1) := by decide +kernel
theorem dX12_street_38 : decode cX12_street 38 = .ok (.aload_n 0, 1) := by decide +kernel
theorem dX12_street_39 : decode cX12_street 39 = .ok (.invokevirtual 160, 3) := by decide +kernel
theorem dX12_street_42 : decode cX12_street 42 = .ok (.ifCond .ne 12, 3) := by decide +kernel
theorem dX12_street_45 : decode cX12_street 45 = .ok (.sipush (-1000), 3) := by decide +kernel
theorem dX12_street_48 : decode cX12_street 48 = .ok (.aload_n 0, 1) := by decide +kernel
theorem dX12_street_49 : decode cX12_street 49 = .ok (.getfield 103, 3) := by decide +kernel
theorem dX12_street_52 : decode cX12_street 52 = .ok (.isub, 1) := by decide +kernel
theorem dX12_street_53 : decode cX12_street 53 = .ok (.ireturn, 1) := by decide +kernel
theorem dX12_street_54 : decode cX12_street 54 = .ok (.iinc 3 1, 3) := by decide +kernel
theorem dX12_street_57 : decode cX12_street 57 = .ok (.aload_n 0, 1) := by decide +kernel
theorem dX12_street_58 : decode cX12_street 58 = .ok (.getfield 103, 3) := by decide +kernel
theorem dX12_street_61 : decode cX12_street 61 = .ok (.aload_n 0, 1) := by decide +kernel
theorem dX12_street_62 : decode cX12_street 62 = .ok (.getfield 106, 3) := by decide +kernel
theorem dX12_street_65 : decode cX12_street 65 = .ok (.if_icmp .lt (-27), 3) := by decide +kernel
theorem dX12_street_68 : decode cX12_street 68 = .ok (.aload_n 0, 1) := by decide +kernel
theorem dX12_street_69 : decode cX12_street 69 = .ok (.getfield 9, 3) := by decide +kernel
theorem dX12_street_72 : decode cX12_street 72 = .ok (.aload_n 0, 1) := by decide +kernel
theorem dX12_street_73 : decode cX12_street 73 = .ok (.getfield 16, 3) := by decide +kernel
theorem dX12_street_76 : decode cX12_street 76 = .ok (.invokestatic 60, 3) := by decide +kernel
theorem dX12_street_79 : decode cX12_street 79 = .ok (.aload_n 0, 1) := by decide +kernel
theorem dX12_street_80 : decode cX12_street 80 = .ok (.iconst 0, 1) := by decide +kernel
theorem dX12_street_81 : decode cX12_street 81 = .ok (.putfield 103, 3) := by decide +kernel
theorem dX12_street_84 : decode cX12_street 84 = .ok (.aload_n 0, 1) := by decide +kernel
theorem dX12_street_85 : decode cX12_street 85 = .ok (.getfield 103, 3) := by decide +kernel
theorem dX12_street_88 : decode cX12_street 88 = .ok (.aload_n 0, 1) := by decide +kernel
theorem dX12_street_89 : decode cX12_street 89 = .ok (.getfield 106, 3) := by decide +kernel
theorem dX12_street_92 : decode cX12_street 92 = .ok (.if_icmp .ge 51, 3) := by decide +kernel
theorem dX12_street_95 : decode cX12_street 95 = .ok (.aload_n 0, 1) := by decide +kernel
theorem dX12_street_96 : decode cX12_street 96 = .ok (.getfield 103, 3) := by decide +kernel
theorem dX12_street_99 : decode cX12_street 99 = .ok (.istore 4, 2) := by decide +kernel
theorem dX12_street_101 : decode cX12_street 101 = .ok (.aload_n 0, 1) := by decide +kernel
theorem dX12_street_102 : decode cX12_street 102 = .ok (.invokevirtual 112, 3) := by decide +kernel
theorem dX12_street_105 : decode cX12_street 105 = .ok (.istore 5, 2) := by decide +kernel
theorem dX12_street_107 : decode cX12_street 107 = .ok (.aload_n 0, 1) := by decide +kernel
theorem dX12_street_108 : decode cX12_street 108 = .ok (.invokevirtual 160, 3) := by decide +kernel
theorem dX12_street_111 : decode cX12_street 111 = .ok (.istore 6, 2) := by decide +kernel
theorem dX12_street_113 : decode cX12_street 113 = .ok (.aload_n 0, 1) := by decide +kernel
theorem dX12_street_114 : decode cX12_street 114 = .ok (.iload 5, 2) := by decide +kernel
theorem dX12_street_116 : decode cX12_street 116 = .ok (.invokevirtual 164, 3) := by decide +kernel
theorem dX12_street_119 : decode cX12_street 119 = .ok (.ifCond .ne 21, 3) := by decide +kernel
theorem dX12_street_122 : decode cX12_street 122 = .ok (.aload_n 0, 1) := by decide +kernel
theorem dX12_street_123 : decode cX12_street 123 = .ok (.getfield 16, 3) := by decide +kernel
theorem dX12_street_126 : decode cX12_street 126 = .ok (.aload_n 0, 1) := by decide +kernel
theorem dX12_street_127 : decode cX12_street 127 = .ok (.getfield 9, 3) := by decide +kernel
theorem dX12_street_130 : decode cX12_street 130 = .ok (.invokestatic 60, 3) := by decide +kernel
theorem dX12_street_133 : decode cX12_street 133 = .ok (.sipush (-2000), 3) := by decide +kernel
theorem dX12_street_136 : decode cX12_street 136 = .ok (.iload 4, 2) := by decide +kernel
theorem dX12_street_138 : decode cX12_street 138 = .ok (.isub, 1) := by decide +kernel
theorem dX12_street_139 : decode cX12_street 139 = .ok (.ireturn, 1) := by decide +kernel
theorem dX12_street_140 : decode cX12_street 140 = .ok (.goto (-56), 3) := by decide +kernel
theorem dX12_street_143 : decode cX12_street 143 = .ok (.iload_n 3, 1) := by decide +kernel
theorem dX12_street_144 : decode cX12_street 144 = .ok (.ireturn, 1) := by decide +kernel
set_option maxRecDepth 20000 in
theorem ggX12_house_X12_isHouse : GoodIn wsX12_house wsX12_isHouse := goodIn_r _ [5, 6, 7, 8, 4, 9, 49, 50, 51, 52, 53, 54, 55, 56, 57, 58, 59, 60, 61, 62, 63, 64, 65, 66, 67, 68, 69, 70, 71, 72] (by decide +kernel) (by decide +kernel)
set_option maxRecDepth 20000 in
theorem gX12_house_X12_isHouse : GoodIn wsX12_house (wsV RX12 56 RX12 yX12_isHouse wsX12_isHouse) := goodIn_app (goodIn_of _ (by decide +kernel)) ggX12_house_X12_isHouse
set_option maxRecDepth 20000 in
theorem ggX12_house_X12_get : GoodIn wsX12_house wsX12_get := goodIn_r _ [13, 6, 49, 50, 51, 52, 53, 54, 55, 56, 57, 58, 59, 60, 61, 62, 63, 64, 65, 66, 67, 68, 69, 70, 71, 72] (by decide +kernel) (by decide +kernel)
set_option maxRecDepth 20000 in
theorem gX12_house_X12_get : GoodIn wsX12_house (wsV RX12 64 RX12 yX12_get wsX12_get) := goodIn_app (goodIn_of _ (by decide +kernel)) ggX12_house_X12_get
set_option maxRecDepth 20000 in
theorem ggX12_house_X12_isLookedAt : GoodIn wsX12_house wsX12_isLookedAt := goodIn_r _ [17, 18, 19, 20, 4, 21, 10, 11, 12, 13, 6, 49, 50, 51, 52, 53, 54, 55, 56, 57, 58, 59, 60, 61, 62, 63, 64, 65, 66, 67, 68, 69, 70, 71, 72] (by decide +kernel) (by decide +kernel)
set_option maxRecDepth 20000 in
theorem gX12_house_X12_isLookedAt : GoodIn wsX12_house (wsV RX12 81 RX12 yX12_isLookedAt wsX12_isLookedAt) := goodIn_app (goodIn_of _ (by decide +kernel)) ggX12_house_X12_isLookedAt
set_option maxRecDepth 20000 in
theorem ggX12_house_X12_shows : GoodIn wsX12_house wsX12_shows := goodIn_r _ [25, 26, 27, 28, 4, 29, 10, 11, 12, 13, 6, 18, 19, 20, 21, 30, 31, 32, 33, 49, 50, 51, 52, 53, 54, 55, 56, 57, 58, 59, 60, 61, 62, 63, 64, 65, 66, 67, 68, 69, 70, 71, 72] (by decide +kernel) (by decide +kernel)
set_option maxRecDepth 20000 in
theorem gX12_house_X12_shows : GoodIn wsX12_house (wsV RX12 84 RX12 yX12_shows wsX12_shows) := goodIn_app (goodIn_of _ (by decide +kernel)) ggX12_house_X12_shows
set_option maxRecDepth 20000 in
theorem ggX12_house_X12_mostOf : GoodIn wsX12_house wsX12_mostOf := goodIn_r _ [37, 38, 39, 40, 4, 41, 6, 1, 2, 3, 5, 7, 8, 9, 14, 15, 16, 17, 18, 19, 20, 21, 10, 11, 12, 13, 22, 23, 24, 25, 26, 27, 28, 29, 30, 31, 32, 33, 42, 43, 44, 45, 49, 50, 51, 52, 53, 54, 55, 56, 57, 58, 59, 60, 61, 62, 63, 64, 65, 66, 67, 68, 69, 70, 71, 72] (by decide +kernel) (by decide +kernel)
set_option maxRecDepth 20000 in
theorem gX12_house_X12_mostOf : GoodIn wsX12_house (wsV RX12 167 RX12 yX12_mostOf wsX12_mostOf) := goodIn_app (goodIn_of _ (by decide +kernel)) ggX12_house_X12_mostOf
set_option maxRecDepth 20000 in
theorem ggX12_house_X12_kind : GoodIn wsX12_house wsX12_kind := goodIn_r _ [21, 10, 11, 12, 4, 13, 6, 49, 50, 51, 52, 53, 54, 55, 56, 57, 58, 59, 60, 61, 62, 63, 64, 65, 66, 67, 68, 69, 70, 71, 72] (by decide +kernel) (by decide +kernel)
set_option maxRecDepth 20000 in
theorem gX12_house_X12_kind : GoodIn wsX12_house (wsV RX12 72 RX12 yX12_kind wsX12_kind) := goodIn_app (goodIn_of _ (by decide +kernel)) ggX12_house_X12_kind
set_option maxRecDepth 20000 in
theorem ggX12_house_X12_figure : GoodIn wsX12_house wsX12_figure := goodIn_r _ [33, 10, 11, 12, 4, 13, 6, 49, 50, 51, 52, 53, 54, 55, 56, 57, 58, 59, 60, 61, 62, 63, 64, 65, 66, 67, 68, 69, 70, 71, 72] (by decide +kernel) (by decide +kernel)
set_option maxRecDepth 20000 in
theorem gX12_house_X12_figure : GoodIn wsX12_house (wsV RX12 75 RX12 yX12_figure wsX12_figure) := goodIn_app (goodIn_of _ (by decide +kernel)) ggX12_house_X12_figure
set_option maxRecDepth 20000 in
theorem ggX12_house_X12_earnsBy : GoodIn wsX12_house wsX12_earnsBy := goodIn_r _ [48] (by decide +kernel) (by decide +kernel)
set_option maxRecDepth 20000 in
theorem gX12_house_X12_earnsBy : GoodIn wsX12_house (va_wsS RX12 170 yX12_earnsBy wsX12_earnsBy) := goodIn_app (goodIn_of _ (by decide +kernel)) ggX12_house_X12_earnsBy
theorem dX12_house_0 : decode cX12_house 0 = .ok (.aload_n 0, 1) := by decide +kernel
theorem dX12_house_1 : decode cX12_house 1 = .ok (.iload_n 1, 1) := by decide +kernel
theorem dX12_house_2 : decode cX12_house 2 = .ok (.invokevirtual 56, 3) := by decide +kernel
theorem dX12_house_5 : decode cX12_house 5 = .ok (.ifCond .ne 5, 3) := by decide +kernel
theorem dX12_house_8 : decode cX12_house 8 = .ok (.iconst (-1), 1) := by decide +kernel
theorem dX12_house_9 : decode cX12_house 9 = .ok (.ireturn, 1) := by decide +kernel
theorem dX12_house_10 : decode cX12_house 10 = .ok (.iload_n 2, 1) := by decide +kernel
theorem dX12_house_11 : decode cX12_house 11 = .ok (.tableswitch 83 0 5 #[37, 37, 37, 44, 63, 69], 37) := by decide +kernel
theorem dX12_house_48 : decode cX12_house 48 = .ok (.aload_n 0, 1) := by decide +kernel
theorem dX12_house_49 : decode cX12_house 49 = .ok (.iload_n 1, 1) := by decide +kernel
theorem dX12_house_50 : decode cX12_house 50 = .ok (.iload_n 2, 1) := by decide +kernel
theorem dX12_house_51 : decode cX12_house 51 = .ok (.invokevirtual 64, 3) := by decide +kernel
theorem dX12_house_54 : decode cX12_house 54 = .ok (.ireturn, 1) := by decide +kernel
theorem dX12_house_55 : decode cX12_house 55 = .ok (.aload_n 0, 1) := by decide +kernel
theorem dX12_house_56 : decode cX12_house 56 = .ok (.iload_n 1, 1) := by decide +kernel
theorem dX12_house_57 : decode cX12_house 57 = .ok (.invokevirtual 81, 3) := by decide +kernel
theorem dX12_house_60 : decode cX12_house 60 = .ok (.ifCond .eq 11, 3) := by decide +kernel
theorem dX12_house_63 : decode cX12_house 63 = .ok (.aload_n 0, 1) := by decide +kernel
theorem dX12_house_64 : decode cX12_house 64 = .ok (.iload_n 1, 1) := by decide +kernel
theorem dX12_house_65 : decode cX12_house 65 = .ok (.invokevirtual 84, 3) := by decide +kernel
theorem dX12_house_68 : decode cX12_house 68 = .ok (.goto 5, 3) := by decide +kernel
theorem dX12_house_71 : decode cX12_house 71 = .ok (.bipush (-4), 2) := by decide +kernel
theorem dX12_house_73 : decode cX12_house 73 = .ok (.ireturn, 1) := by decide +kernel
theorem dX12_house_74 : decode cX12_house 74 = .ok (.aload_n 0, 1) := by decide +kernel
theorem dX12_house_75 : decode cX12_house 75 = .ok (.iload_n 1, 1) := by decide +kernel
theorem dX12_house_76 : decode cX12_house 76 = .ok (.invokevirtual 167, 3) := by decide +kernel
theorem dX12_house_79 : decode cX12_house 79 = .ok (.ireturn, 1) := by decide +kernel
theorem dX12_house_80 : decode cX12_house 80 = .ok (.aload_n 0, 1) := by decide +kernel
theorem dX12_house_81 : decode cX12_house 81 = .ok (.iload_n 1, 1) := by decide +kernel
theorem dX12_house_82 : decode cX12_house 82 = .ok (.invokevirtual 72, 3) := by decide +kernel
theorem dX12_house_85 : decode cX12_house 85 = .ok (.aload_n 0, 1) := by decide +kernel
theorem dX12_house_86 : decode cX12_house 86 = .ok (.iload_n 1, 1) := by decide +kernel
theorem dX12_house_87 : decode cX12_house 87 = .ok (.invokevirtual 75, 3) := by decide +kernel
theorem dX12_house_90 : decode cX12_house 90 = .ok (.invokestatic 170, 3) := by decide +kernel
theorem dX12_house_93 : decode cX12_house 93 = .ok (.ireturn, 1) := by decide +kernel
theorem dX12_house_94 : decode cX12_house 94 = .ok (.iconst (-1), 1) := by decide +kernel
theorem dX12_house_95 : decode cX12_house 95 = .ok (.ireturn, 1) := by decide +kernel
set_option maxRecDepth 20000 in
theorem ggX12_wrongKept_X12_isShelf : GoodIn wsX12_wrongKept wsX12_isShelf := goodIn_r _ [5, 6, 7, 8, 4, 9] (by decide +kernel) (by decide +kernel)
set_option maxRecDepth 20000 in
theorem gX12_wrongKept_X12_isShelf : GoodIn wsX12_wrongKept (va_wsS RX12 154 yX12_isShelf wsX12_isShelf) := goodIn_app (goodIn_of _ (by decide +kernel)) ggX12_wrongKept_X12_isShelf
theorem dX12_wrongKept_0 : decode cX12_wrongKept 0 = .ok (.iload_n 1, 1) := by decide +kernel
theorem dX12_wrongKept_1 : decode cX12_wrongKept 1 = .ok (.invokestatic 154, 3) := by decide +kernel
theorem dX12_wrongKept_4 : decode cX12_wrongKept 4 = .ok (.ifCond .ne 7, 3) := by decide +kernel
theorem dX12_wrongKept_7 : decode cX12_wrongKept 7 = .ok (.iconst (-1), 1) := by decide +kernel
theorem dX12_wrongKept_8 : decode cX12_wrongKept 8 = .ok (.goto 33, 3) := by decide +kernel
theorem dX12_wrongKept_11 : decode cX12_wrongKept 11 = .ok (.aload_n 0, 1) := by decide +kernel
theorem dX12_wrongKept_12 : decode cX12_wrongKept 12 = .ok (.getfield 22, 3) := by decide +kernel
theorem dX12_wrongKept_15 : decode cX12_wrongKept 15 = .ok (.iload_n 1, 1) := by decide +kernel
theorem dX12_wrongKept_16 : decode cX12_wrongKept 16 = .ok (.iaload, 1) := by decide +kernel
theorem dX12_wrongKept_17 : decode cX12_wrongKept 17 = .ok (.ifCond .ne 8, 3) := by decide +kernel
theorem dX12_wrongKept_20 : decode cX12_wrongKept 20 = .ok (.bipush (-11), 2) := by decide +kernel
theorem dX12_wrongKept_22 : decode cX12_wrongKept 22 = .ok (.goto 19, 3) := by decide +kernel
theorem dX12_wrongKept_25 : decode cX12_wrongKept 25 = .ok (.aload_n 0, 1) := by decide +kernel
theorem dX12_wrongKept_26 : decode cX12_wrongKept 26 = .ok (.getfield 22, 3) := by decide +kernel
theorem dX12_wrongKept_29 : decode cX12_wrongKept 29 = .ok (.iload_n 1, 1) := by decide +kernel
theorem dX12_wrongKept_30 : decode cX12_wrongKept 30 = .ok (.iaload, 1) := by decide +kernel
theorem dX12_wrongKept_31 : decode cX12_wrongKept 31 = .ok (.iconst 1, 1) := by decide +kernel
theorem dX12_wrongKept_32 : decode cX12_wrongKept 32 = .ok (.if_icmp .ne 7, 3) := by decide +kernel
theorem dX12_wrongKept_35 : decode cX12_wrongKept 35 = .ok (.iconst 0, 1) := by decide +kernel
theorem dX12_wrongKept_36 : decode cX12_wrongKept 36 = .ok (.goto 5, 3) := by decide +kernel
theorem dX12_wrongKept_39 : decode cX12_wrongKept 39 = .ok (.bipush (-12), 2) := by decide +kernel
theorem dX12_wrongKept_41 : decode cX12_wrongKept 41 = .ok (.ireturn, 1) := by decide +kernel
set_option maxRecDepth 20000 in
theorem ggX12_comes_X12_isIn : GoodIn wsX12_comes wsX12_isIn := goodIn_r _ [8] (by decide +kernel) (by decide +kernel)
set_option maxRecDepth 20000 in
theorem gX12_comes_X12_isIn : GoodIn wsX12_comes (va_wsS RX12 52 yX12_isIn wsX12_isIn) := goodIn_app (goodIn_of _ (by decide +kernel)) ggX12_comes_X12_isIn
set_option maxRecDepth 20000 in
theorem ggX12_comes_X12_wrongKept : GoodIn wsX12_comes wsX12_wrongKept := goodIn_r _ [12, 13, 14, 15, 7, 16, 17, 5, 6, 8, 30, 31, 32, 33, 34, 35, 36, 37, 38, 39, 40, 41, 42, 43, 44, 45, 46, 47, 48, 49, 50, 51, 52, 53] (by decide +kernel) (by decide +kernel)
set_option maxRecDepth 20000 in
theorem gX12_comes_X12_wrongKept : GoodIn wsX12_comes (wsV RX12 175 RX12 yX12_wrongKept wsX12_wrongKept) := goodIn_app (goodIn_of _ (by decide +kernel)) ggX12_comes_X12_wrongKept
set_option maxRecDepth 20000 in
theorem ggX12_comes_X12_adds : GoodIn wsX12_comes wsX12_adds := goodIn_r _ [21, 4, 22, 23, 24, 7, 25, 26, 27, 28, 29, 30, 31, 32, 33, 34, 35, 36, 37, 38, 39, 40, 41, 42, 43, 44, 45, 46, 47, 48, 49, 50, 51, 52, 53] (by decide +kernel) (by decide +kernel)
set_option maxRecDepth 20000 in
theorem gX12_comes_X12_adds : GoodIn wsX12_comes (wsV RX12 143 RX12 yX12_adds wsX12_adds) := goodIn_app (goodIn_of _ (by decide +kernel)) ggX12_comes_X12_adds
theorem dX12_comes_0 : decode cX12_comes 0 = .ok (.iload_n 2, 1) := by decide +kernel
theorem dX12_comes_1 : decode cX12_comes 1 = .ok (.i2l, 1) := by decide +kernel
theorem dX12_comes_2 : decode cX12_comes 2 = .ok (.lconst 0, 1) := by decide +kernel
theorem dX12_comes_3 : decode cX12_comes 3 = .ok (.ldc2_w 173, 3) := by decide +kernel
theorem dX12_comes_6 : decode cX12_comes 6 = .ok (.invokestatic 52, 3) := by decide +kernel
theorem dX12_comes_9 : decode cX12_comes 9 = .ok (.ifCond .ne 7, 3) := by decide +kernel
theorem dX12_comes_12 : decode cX12_comes 12 = .ok (.iconst (-1), 1) := by decide +kernel
theorem dX12_comes_13 : decode cX12_comes 13 = .ok (.goto 8, 3) := by decide +kernel
theorem dX12_comes_16 : decode cX12_comes 16 = .ok (.aload_n 0, 1) := by decide +kernel
theorem dX12_comes_17 : decode cX12_comes 17 = .ok (.iload_n 1, 1) := by decide +kernel
theorem dX12_comes_18 : decode cX12_comes 18 = .ok (.invokevirtual 175, 3) := by decide +kernel
theorem dX12_comes_21 : decode cX12_comes 21 = .ok (.istore_n 3, 1) := by decide +kernel
theorem dX12_comes_22 : decode cX12_comes 22 = .ok (.iload_n 3, 1) := by decide +kernel
theorem dX12_comes_23 : decode cX12_comes 23 = .ok (.ifCond .eq 5, 3) := by decide +kernel
theorem dX12_comes_26 : decode cX12_comes 26 = .ok (.iload_n 3, 1) := by decide +kernel
theorem dX12_comes_27 : decode cX12_comes 27 = .ok (.ireturn, 1) := by decide +kernel
theorem dX12_comes_28 : decode cX12_comes 28 = .ok (.aload_n 0, 1) := by decide +kernel
theorem dX12_comes_29 : decode cX12_comes 29 = .ok (.aload_n 0, 1) := by decide +kernel
theorem dX12_comes_30 : decode cX12_comes 30 = .ok (.getfield 34, 3) := by decide +kernel
theorem dX12_comes_33 : decode cX12_comes 33 = .ok (.iload_n 1, 1) := by decide +kernel
theorem dX12_comes_34 : decode cX12_comes 34 = .ok (.iaload, 1) := by decide +kernel
theorem dX12_comes_35 : decode cX12_comes 35 = .ok (.aload_n 0, 1) := by decide +kernel
theorem dX12_comes_36 : decode cX12_comes 36 = .ok (.getfield 37, 3) := by decide +kernel
theorem dX12_comes_39 : decode cX12_comes 39 = .ok (.iload_n 1, 1) := by decide +kernel
theorem dX12_comes_40 : decode cX12_comes 40 = .ok (.iaload, 1) := by decide +kernel
theorem dX12_comes_41 : decode cX12_comes 41 = .ok (.iload_n 2, 1) := by decide +kernel
theorem dX12_comes_42 : decode cX12_comes 42 = .ok (.invokevirtual 143, 3) := by decide +kernel
theorem dX12_comes_45 : decode cX12_comes 45 = .ok (.ifCond .eq 14, 3) := by decide +kernel
theorem dX12_comes_48 : decode cX12_comes 48 = .ok (.aload_n 0, 1) := by decide +kernel
theorem dX12_comes_49 : decode cX12_comes 49 = .ok (.getfield 9, 3) := by decide +kernel
theorem dX12_comes_52 : decode cX12_comes 52 = .ok (.iconst 0, 1) := by decide +kernel
theorem dX12_comes_53 : decode cX12_comes 53 = .ok (.iaload, 1) := by decide +kernel
theorem dX12_comes_54 : decode cX12_comes 54 = .ok (.iconst 1, 1) := by decide +kernel
theorem dX12_comes_55 : decode cX12_comes 55 = .ok (.isub, 1) := by decide +kernel
theorem dX12_comes_56 : decode cX12_comes 56 = .ok (.goto 5, 3) := by decide +kernel
theorem dX12_comes_59 : decode cX12_comes 59 = .ok (.bipush (-2), 2) := by decide +kernel
theorem dX12_comes_61 : decode cX12_comes 61 = .ok (.ireturn, 1) := by decide +kernel
set_option maxRecDepth 20000 in
theorem ggX12_round_X12_isIn : GoodIn wsX12_round wsX12_isIn := goodIn_r _ [5] (by decide +kernel) (by decide +kernel)
set_option maxRecDepth 20000 in
theorem gX12_round_X12_isIn : GoodIn wsX12_round (va_wsS RX12 52 yX12_isIn wsX12_isIn) := goodIn_app (goodIn_of _ (by decide +kernel)) ggX12_round_X12_isIn
theorem dX12_round_0 : decode cX12_round 0 = .ok (.iload_n 1, 1) := by decide +kernel
theorem dX12_round_1 : decode cX12_round 1 = .ok (.i2l, 1) := by decide +kernel
theorem dX12_round_2 : decode cX12_round 2 = .ok (.lconst 0, 1) := by decide +kernel
theorem dX12_round_3 : decode cX12_round 3 = .ok (.lconst 1, 1) := by decide +kernel
theorem dX12_round_4 : decode cX12_round 4 = .ok (.invokestatic 52, 3) := by decide +kernel
theorem dX12_round_7 : decode cX12_round 7 = .ok (.ifCond .ne 5, 3) := by decide +kernel
theorem dX12_round_10 : decode cX12_round 10 = .ok (.iconst (-1), 1) := by decide +kernel
theorem dX12_round_11 : decode cX12_round 11 = .ok (.ireturn, 1) := by decide +kernel
theorem dX12_round_12 : decode cX12_round 12 = .ok (.aload_n 0, 1) := by decide +kernel
theorem dX12_round_13 : decode cX12_round 13 = .ok (.getfield 9, 3) := by decide +kernel
theorem dX12_round_16 : decode cX12_round 16 = .ok (.iconst 1, 1) := by decide +kernel
theorem dX12_round_17 : decode cX12_round 17 = .ok (.iaload, 1) := by decide +kernel
theorem dX12_round_18 : decode cX12_round 18 = .ok (.istore_n 2, 1) := by decide +kernel
theorem dX12_round_19 : decode cX12_round 19 = .ok (.aload_n 0, 1) := by decide +kernel
theorem dX12_round_20 : decode cX12_round 20 = .ok (.getfield 9, 3) := by decide +kernel
theorem dX12_round_23 : decode cX12_round 23 = .ok (.iconst 1, 1) := by decide +kernel
theorem dX12_round_24 : decode cX12_round 24 = .ok (.iload_n 1, 1) := by decide +kernel
theorem dX12_round_25 : decode cX12_round 25 = .ok (.iastore, 1) := by decide +kernel
theorem dX12_round_26 : decode cX12_round 26 = .ok (.iload_n 2, 1) := by decide +kernel
theorem dX12_round_27 : decode cX12_round 27 = .ok (.ireturn, 1) := by decide +kernel
set_option maxRecDepth 20000 in
theorem ggX12_give_X12_wrongGift : GoodIn wsX12_give wsX12_wrongGift := goodIn_r _ [5, 6, 7, 8, 4, 9, 10, 11, 12, 13, 14, 15, 16, 17, 18, 19, 20, 21, 22, 23, 24, 25, 34, 35, 36, 37, 38, 39, 40, 41, 42, 43, 44, 45, 46, 47, 48, 49, 50, 51, 52, 53, 54, 55, 56, 57] (by decide +kernel) (by decide +kernel)
set_option maxRecDepth 20000 in
theorem gX12_give_X12_wrongGift : GoodIn wsX12_give (wsV RX12 136 RX12 yX12_wrongGift wsX12_wrongGift) := goodIn_app (goodIn_of _ (by decide +kernel)) ggX12_give_X12_wrongGift
set_option maxRecDepth 20000 in
theorem ggX12_give_X12_gives : GoodIn wsX12_give wsX12_gives := goodIn_r _ [29, 18, 19, 20, 4, 21, 22, 23, 24, 25, 14, 30, 31, 32, 33, 34, 35, 36, 37, 38, 39, 40, 41, 42, 43, 44, 45, 46, 47, 48, 49, 50, 51, 52, 53, 54, 55, 56, 57] (by decide +kernel) (by decide +kernel)
set_option maxRecDepth 20000 in
theorem gX12_give_X12_gives : GoodIn wsX12_give (wsV RX12 140 RX12 yX12_gives wsX12_gives) := goodIn_app (goodIn_of _ (by decide +kernel)) ggX12_give_X12_gives
set_option maxRecDepth 20000 in
theorem ggX12_give_X12_purse : GoodIn wsX12_give wsX12_purse := goodIn_r _ [21, 22, 23, 24, 4, 25, 14, 34, 35, 36, 37, 38, 39, 40, 41, 42, 43, 44, 45, 46, 47, 48, 49, 50, 51, 52, 53, 54, 55, 56, 57] (by decide +kernel) (by decide +kernel)
set_option maxRecDepth 20000 in
theorem gX12_give_X12_purse : GoodIn wsX12_give (wsV RX12 68 RX12 yX12_purse wsX12_purse) := goodIn_app (goodIn_of _ (by decide +kernel)) ggX12_give_X12_purse
theorem dX12_give_0 : decode cX12_give 0 = .ok (.aload_n 0, 1) := by decide +kernel
theorem dX12_give_1 : decode cX12_give 1 = .ok (.iload_n 1, 1) := by decide +kernel
theorem dX12_give_2 : decode cX12_give 2 = .ok (.iload_n 2, 1) := by decide +kernel
theorem dX12_give_3 : decode cX12_give 3 = .ok (.iload_n 3, 1) := by decide +kernel
theorem dX12_give_4 : decode cX12_give 4 = .ok (.invokevirtual 136, 3) := by decide +kernel
theorem dX12_give_7 : decode cX12_give 7 = .ok (.istore 4, 2) := by decide +kernel
theorem dX12_give_9 : decode cX12_give 9 = .ok (.iload 4, 2) := by decide +kernel
theorem dX12_give_11 : decode cX12_give 11 = .ok (.ifCond .eq 6, 3) := by decide +kernel
theorem dX12_give_14 : decode cX12_give 14 = .ok (.iload 4, 2) := by decide +kernel
theorem dX12_give_16 : decode cX12_give 16 = .ok (.ireturn, 1) := by decide +kernel
theorem dX12_give_17 : decode cX12_give 17 = .ok (.aload_n 0, 1) := by decide +kernel
theorem dX12_give_18 : decode cX12_give 18 = .ok (.iload_n 1, 1) := by decide +kernel
theorem dX12_give_19 : decode cX12_give 19 = .ok (.iload_n 2, 1) := by decide +kernel
theorem dX12_give_20 : decode cX12_give 20 = .ok (.iload_n 3, 1) := by decide +kernel
theorem dX12_give_21 : decode cX12_give 21 = .ok (.invokevirtual 140, 3) := by decide +kernel
theorem dX12_give_24 : decode cX12_give 24 = .ok (.aload_n 0, 1) := by decide +kernel
theorem dX12_give_25 : decode cX12_give 25 = .ok (.iload_n 1, 1) := by decide +kernel
theorem dX12_give_26 : decode cX12_give 26 = .ok (.invokevirtual 68, 3) := by decide +kernel
theorem dX12_give_29 : decode cX12_give 29 = .ok (.ireturn, 1) := by decide +kernel
set_option maxRecDepth 20000 in
theorem ggX12_weeks_X12_isIn : GoodIn wsX12_weeks wsX12_isIn := goodIn_r _ [6] (by decide +kernel) (by decide +kernel)
set_option maxRecDepth 20000 in
theorem gX12_weeks_X12_isIn : GoodIn wsX12_weeks (va_wsS RX12 52 yX12_isIn wsX12_isIn) := goodIn_app (goodIn_of _ (by decide +kernel)) ggX12_weeks_X12_isIn
set_option maxRecDepth 20000 in
theorem ggX12_weeks_X12_purse : GoodIn wsX12_weeks wsX12_purse := goodIn_r _ [10, 11, 12, 13, 5, 14, 2, 34, 35, 36, 37, 38, 39, 40, 41, 42, 43, 44, 45, 46, 47, 48, 49, 50, 51, 52, 53, 54, 55, 56, 57] (by decide +kernel) (by decide +kernel)
set_option maxRecDepth 20000 in
theorem gX12_weeks_X12_purse : GoodIn wsX12_weeks (wsV RX12 68 RX12 yX12_purse wsX12_purse) := goodIn_app (goodIn_of _ (by decide +kernel)) ggX12_weeks_X12_purse
set_option maxRecDepth 20000 in
theorem ggX12_weeks_X12_kind : GoodIn wsX12_weeks wsX12_kind := goodIn_r _ [18, 11, 12, 13, 5, 14, 2, 34, 35, 36, 37, 38, 39, 40, 41, 42, 43, 44, 45, 46, 47, 48, 49, 50, 51, 52, 53, 54, 55, 56, 57] (by decide +kernel) (by decide +kernel)
set_option maxRecDepth 20000 in
theorem gX12_weeks_X12_kind : GoodIn wsX12_weeks (wsV RX12 72 RX12 yX12_kind wsX12_kind) := goodIn_app (goodIn_of _ (by decide +kernel)) ggX12_weeks_X12_kind
set_option maxRecDepth 20000 in
theorem ggX12_weeks_X12_figure : GoodIn wsX12_weeks wsX12_figure := goodIn_r _ [22, 11, 12, 13, 5, 14, 2, 34, 35, 36, 37, 38, 39, 40, 41, 42, 43, 44, 45, 46, 47, 48, 49, 50, 51, 52, 53, 54, 55, 56, 57] (by decide +kernel) (by decide +kernel)
set_option maxRecDepth 20000 in
theorem gX12_weeks_X12_figure : GoodIn wsX12_weeks (wsV RX12 75 RX12 yX12_figure wsX12_figure) := goodIn_app (goodIn_of _ (by decide +kernel)) ggX12_weeks_X12_figure
set_option maxRecDepth 20000 in
theorem ggX12_weeks_X12_earnsBy : GoodIn wsX12_weeks wsX12_earnsBy := goodIn_r _ [25] (by decide +kernel) (by decide +kernel)
set_option maxRecDepth 20000 in
theorem gX12_weeks_X12_earnsBy : GoodIn wsX12_weeks (va_wsS RX12 170 yX12_earnsBy wsX12_earnsBy) := goodIn_app (goodIn_of _ (by decide +kernel)) ggX12_weeks_X12_earnsBy
set_option maxRecDepth 20000 in
theorem ggX12_weeks_X12_puts : GoodIn wsX12_weeks wsX12_puts := goodIn_r _ [29, 2, 34, 35, 36, 37, 38, 39, 40, 41, 42, 43, 44, 45, 46, 47, 48, 49, 50, 51, 52, 53, 54, 55, 56, 57] (by decide +kernel) (by decide +kernel)
set_option maxRecDepth 20000 in
theorem gX12_weeks_X12_puts : GoodIn wsX12_weeks (wsV RX12 125 RX12 yX12_puts wsX12_puts) := goodIn_app (goodIn_of _ (by decide +kernel)) ggX12_weeks_X12_puts
set_option maxRecDepth 20000 in
theorem ggX12_weeks_X12_coins : GoodIn wsX12_weeks wsX12_coins := goodIn_r _ [33, 2, 7, 8, 9, 5, 10, 11, 12, 13, 14, 34, 35, 36, 37, 38, 39, 40, 41, 42, 43, 44, 45, 46, 47, 48, 49, 50, 51, 52, 53, 54, 55, 56, 57] (by decide +kernel) (by decide +kernel)
set_option maxRecDepth 20000 in
theorem gX12_weeks_X12_coins : GoodIn wsX12_weeks (wsV RX12 180 RX12 yX12_coins wsX12_coins) := goodIn_app (goodIn_of _ (by decide +kernel)) ggX12_weeks_X12_coins
theorem dX12_weeks_0 : decode cX12_weeks 0 = .ok (.iload_n 1, 1) := by decide +kernel
theorem dX12_weeks_1 : decode cX12_weeks 1 = .ok (.i2l, 1) := by decide +kernel
theorem dX12_weeks_2 : decode cX12_weeks 2 = .ok (.lconst 1, 1) := by decide +kernel
theorem dX12_weeks_3 : decode cX12_weeks 3 = .ok (.ldc2_w 178, 3) := by decide +kernel
theorem dX12_weeks_6 : decode cX12_weeks 6 = .ok (.invokestatic 52, 3) := by decide +kernel
theorem dX12_weeks_9 : decode cX12_weeks 9 = .ok (.ifCond .ne 5, 3) := by decide +kernel
theorem dX12_weeks_12 : decode cX12_weeks 12 = .ok (.iconst (-1), 1) := by decide +kernel
theorem dX12_weeks_13 : decode cX12_weeks 13 = .ok (.ireturn, 1) := by decide +kernel
theorem dX12_weeks_14 : decode cX12_weeks 14 = .ok (.iconst 0, 1) := by decide +kernel
theorem dX12_weeks_15 : decode cX12_weeks 15 = .ok (.istore_n 2, 1) := by decide +kernel
theorem dX12_weeks_16 : decode cX12_weeks 16 = .ok (.iload_n 2, 1) := by decide +kernel
theorem dX12_weeks_17 : decode cX12_weeks 17 = .ok (.aload_n 0, 1) := by decide +kernel
theorem dX12_weeks_18 : decode cX12_weeks 18 = .ok (.getfield 9, 3) := by decide +kernel
theorem dX12_weeks_21 : decode cX12_weeks 21 = .ok (.iconst 0, 1) := by decide +kernel
theorem dX12_weeks_22 : decode cX12_weeks 22 = .ok (.iaload, 1) := by decide +kernel
theorem dX12_weeks_23 : decode cX12_weeks 23 = .ok (.if_icmp .ge 51, 3) := by decide +kernel
theorem dX12_weeks_26 : decode cX12_weeks 26 = .ok (.aload_n 0, 1) := by decide +kernel
theorem dX12_weeks_27 : decode cX12_weeks 27 = .ok (.iload_n 2, 1) := by decide +kernel
theorem dX12_weeks_28 : decode cX12_weeks 28 = .ok (.invokevirtual 68, 3) := by decide +kernel
theorem dX12_weeks_31 : decode cX12_weeks 31 = .ok (.iload_n 1, 1) := by decide +kernel
theorem dX12_weeks_32 : decode cX12_weeks 32 = .ok (.aload_n 0, 1) := by decide +kernel
theorem dX12_weeks_33 : decode cX12_weeks 33 = .ok (.iload_n 2, 1) := by decide +kernel
theorem dX12_weeks_34 : decode cX12_weeks 34 = .ok (.invokevirtual 72, 3) := by decide +kernel
theorem dX12_weeks_37 : decode cX12_weeks 37 = .ok (.aload_n 0, 1) := by decide +kernel
theorem dX12_weeks_38 : decode cX12_weeks 38 = .ok (.iload_n 2, 1) := by decide +kernel
theorem dX12_weeks_39 : decode cX12_weeks 39 = .ok (.invokevirtual 75, 3) := by decide +kernel
theorem dX12_weeks_42 : decode cX12_weeks 42 = .ok (.invokestatic 170, 3) := by decide +kernel
theorem dX12_weeks_45 : decode cX12_weeks 45 = .ok (.imul, 1) := by decide +kernel
theorem dX12_weeks_46 : decode cX12_weeks 46 = .ok (.iadd, 1) := by decide +kernel
theorem dX12_weeks_47 : decode cX12_weeks 47 = .ok (.istore_n 3, 1) := by decide +kernel
theorem dX12_weeks_48 : decode cX12_weeks 48 = .ok (.aload_n 0, 1) := by decide +kernel
theorem dX12_weeks_49 : decode cX12_weeks 49 = .ok (.iload_n 2, 1) := by decide +kernel
theorem dX12_weeks_50 : decode cX12_weeks 50 = .ok (.iconst 2, 1) := by decide +kernel
theorem dX12_weeks_51 : decode cX12_weeks 51 = .ok (.iload_n 3, 1) := by decide +kernel
theorem dX12_weeks_52 : decode cX12_weeks 52 = .ok (.sipush 9999, 3) := by decide +kernel
theorem dX12_weeks_55 : decode cX12_weeks 55 = .ok (.if_icmp .le 9, 3) := by decide +kernel
theorem dX12_weeks_58 : decode cX12_weeks 58 = .ok (.sipush 9999, 3) := by decide +kernel
theorem dX12_weeks_61 : decode cX12_weeks 61 = .ok (.goto 4, 3) := by decide +kernel
theorem dX12_weeks_64 : decode cX12_weeks 64 = .ok (.iload_n 3, 1) := by decide +kernel
theorem dX12_weeks_65 : decode cX12_weeks 65 = .ok (.invokevirtual 125, 3) := by decide +kernel
theorem dX12_weeks_68 : decode cX12_weeks 68 = .ok (.iinc 2 1, 3) := by decide +kernel
theorem dX12_weeks_71 : decode cX12_weeks 71 = .ok (.goto (-55), 3) := by decide +kernel
theorem dX12_weeks_74 : decode cX12_weeks 74 = .ok (.aload_n 0, 1) := by decide +kernel
theorem dX12_weeks_75 : decode cX12_weeks 75 = .ok (.invokevirtual 180, 3) := by decide +kernel
theorem dX12_weeks_78 : decode cX12_weeks 78 = .ok (.ireturn, 1) := by decide +kernel
set_option maxRecDepth 20000 in
theorem ggX12_lawful_X12_isLawful : GoodIn wsX12_lawful wsX12_isLawful := goodIn_r _ [5, 6, 7, 8, 4, 9, 10, 11, 12, 13, 14, 15, 16, 17, 18, 19, 20, 21, 22, 23, 24, 25, 26, 27, 28, 29, 30, 31, 32, 33, 34, 35, 36, 37, 38, 39, 40, 41, 42, 43, 44, 45, 46, 47, 48, 49, 50, 51, 52, 53, 54, 55, 56, 57, 58, 59, 60, 61, 62, 63, 64, 65, 66, 67, 68, 69, 70, 71, 72, 73, 74, 75, 76, 77, 78, 79, 80, 81, 82, 83, 84] (by decide +kernel) (by decide +kernel)
set_option maxRecDepth 20000 in
theorem gX12_lawful_X12_isLawful : GoodIn wsX12_lawful (wsV RX12 183 RX12 yX12_isLawful wsX12_isLawful) := goodIn_app (goodIn_of _ (by decide +kernel)) ggX12_lawful_X12_isLawful
theorem dX12_lawful_0 : decode cX12_lawful 0 = .ok (.aload_n 0, 1) := by decide +kernel
theorem dX12_lawful_1 : decode cX12_lawful 1 = .ok (.invokevirtual 183, 3) := by decide +kernel
theorem dX12_lawful_4 : decode cX12_lawful 4 = .ok (.ifCond .eq 7, 3) := by decide +kernel
theorem dX12_lawful_7 : decode cX12_lawful 7 = .ok (.iconst 1, 1) := by decide +kernel
theorem dX12_lawful_8 : decode cX12_lawful 8 = .ok (.goto 4, 3) := by decide +kernel
theorem dX12_lawful_11 : decode cX12_lawful 11 = .ok (.iconst 0, 1) := by decide +kernel
theorem dX12_lawful_12 : decode cX12_lawful 12 = .ok (.ireturn, 1) := by decide +kernel
set_option maxRecDepth 20000 in
theorem ggX12_breaches_X12_breachesAll : GoodIn wsX12_breaches wsX12_breachesAll := goodIn_r _ [5, 6, 7, 8, 9, 4, 10, 11, 12, 13, 14, 15, 16, 17, 18, 19, 20, 21, 22, 23, 24, 25, 26, 27, 28, 29, 30, 31, 32, 33, 34, 35, 36, 37, 38, 39, 40, 41, 42, 43, 44, 45, 46, 47, 48, 49, 50, 51, 52, 53, 54, 55, 56, 57, 58, 59, 60, 61, 62, 63, 64, 65, 66, 67, 68, 69, 70, 71, 72, 73, 74, 75, 76, 77, 78, 79, 80] (by decide +kernel) (by decide +kernel)
set_option maxRecDepth 20000 in
theorem gX12_breaches_X12_breachesAll : GoodIn wsX12_breaches (wsV RX12 99 RX12 yX12_breachesAll wsX12_breachesAll) := goodIn_app (goodIn_of _ (by decide +kernel)) ggX12_breaches_X12_breachesAll
set_option maxRecDepth 20000 in
theorem ggX12_breaches_X12_isHouse : GoodIn wsX12_breaches wsX12_isHouse := goodIn_r _ [30, 6, 31, 32, 4, 33, 57, 58, 59, 60, 61, 62, 63, 64, 65, 66, 67, 68, 69, 70, 71, 72, 73, 74, 75, 76, 77, 78, 79, 80] (by decide +kernel) (by decide +kernel)
set_option maxRecDepth 20000 in
theorem gX12_breaches_X12_isHouse : GoodIn wsX12_breaches (wsV RX12 56 RX12 yX12_isHouse wsX12_isHouse) := goodIn_app (goodIn_of _ (by decide +kernel)) ggX12_breaches_X12_isHouse
set_option maxRecDepth 20000 in
theorem ggX12_breaches_X12_breachesOf : GoodIn wsX12_breaches wsX12_breachesOf := goodIn_r _ [10, 11, 12, 13, 4, 14, 15, 16, 17, 18, 6, 19, 20, 21, 22, 23, 24, 25, 26, 27, 28, 29, 30, 31, 32, 33, 34, 35, 36, 37, 38, 39, 40, 41, 42, 43, 44, 45, 46, 47, 48, 49, 50, 51, 52, 53, 54, 55, 56, 57, 58, 59, 60, 61, 62, 63, 64, 65, 66, 67, 68, 69, 70, 71, 72, 73, 74, 75, 76, 77, 78, 79, 80] (by decide +kernel) (by decide +kernel)
set_option maxRecDepth 20000 in
theorem gX12_breaches_X12_breachesOf : GoodIn wsX12_breaches (wsV RX12 96 RX12 yX12_breachesOf wsX12_breachesOf) := goodIn_app (goodIn_of _ (by decide +kernel)) ggX12_breaches_X12_breachesOf
theorem dX12_breaches_0 : decode cX12_breaches 0 = .ok (.iload_n 1, 1) := by decide +kernel
theorem dX12_breaches_1 : decode cX12_breaches 1 = .ok (.iconst (-1), 1) := by decide +kernel
theorem dX12_breaches_2 : decode cX12_breaches 2 = .ok (.if_icmp .ne 10, 3) := by decide +kernel
theorem dX12_breaches_5 : decode cX12_breaches 5 = .ok (.aload_n 0, 1) := by decide +kernel
theorem dX12_breaches_6 : decode cX12_breaches 6 = .ok (.invokevirtual 99, 3) := by decide +kernel
theorem dX12_breaches_9 : decode cX12_breaches 9 = .ok (.goto 20, 3) := by decide +kernel
theorem dX12_breaches_12 : decode cX12_breaches 12 = .ok (.aload_n 0, 1) := by decide +kernel
theorem dX12_breaches_13 : decode cX12_breaches 13 = .ok (.iload_n 1, 1) := by decide +kernel
theorem dX12_breaches_14 : decode cX12_breaches 14 = .ok (.invokevirtual 56, 3) := by decide +kernel
theorem dX12_breaches_17 : decode cX12_breaches 17 = .ok (.ifCond .eq 11, 3) := by decide +kernel
theorem dX12_breaches_20 : decode cX12_breaches 20 = .ok (.aload_n 0, 1) := by decide +kernel
theorem dX12_breaches_21 : decode cX12_breaches 21 = .ok (.iload_n 1, 1) := by decide +kernel
theorem dX12_breaches_22 : decode cX12_breaches 22 = .ok (.invokevirtual 96, 3) := by decide +kernel
theorem dX12_breaches_25 : decode cX12_breaches 25 = .ok (.goto 4, 3) := by decide +kernel
theorem dX12_breaches_28 : decode cX12_breaches 28 = .ok (.iconst (-1), 1) := by decide +kernel
theorem dX12_breaches_29 : decode cX12_breaches 29 = .ok (.ireturn, 1) := by decide +kernel
set_option maxRecDepth 20000 in
theorem ggX12_held_X12_isHouse : GoodIn wsX12_held wsX12_isHouse := goodIn_r _ [5, 6, 7, 8, 4, 9, 46, 47, 48, 49, 50, 51, 52, 53, 54, 55, 56, 57, 58, 59, 60, 61, 62, 63, 64, 65, 66, 67, 68, 69] (by decide +kernel) (by decide +kernel)
set_option maxRecDepth 20000 in
theorem gX12_held_X12_isHouse : GoodIn wsX12_held (wsV RX12 56 RX12 yX12_isHouse wsX12_isHouse) := goodIn_app (goodIn_of _ (by decide +kernel)) ggX12_held_X12_isHouse
set_option maxRecDepth 20000 in
theorem ggX12_held_X12_purse : GoodIn wsX12_held wsX12_purse := goodIn_r _ [13, 14, 15, 16, 4, 17, 6, 46, 47, 48, 49, 50, 51, 52, 53, 54, 55, 56, 57, 58, 59, 60, 61, 62, 63, 64, 65, 66, 67, 68, 69] (by decide +kernel) (by decide +kernel)
set_option maxRecDepth 20000 in
theorem gX12_held_X12_purse : GoodIn wsX12_held (wsV RX12 68 RX12 yX12_purse wsX12_purse) := goodIn_app (goodIn_of _ (by decide +kernel)) ggX12_held_X12_purse
set_option maxRecDepth 20000 in
theorem ggX12_held_X12_tooMuchBy : GoodIn wsX12_held wsX12_tooMuchBy := goodIn_r _ [21, 22, 23, 24, 4, 25, 6, 1, 2, 3, 5, 7, 8, 9, 26, 27, 28, 29, 30, 31, 32, 33, 14, 15, 16, 17, 34, 35, 36, 37, 10, 11, 12, 13, 38, 39, 40, 41, 42, 43, 44, 45, 46, 47, 48, 49, 50, 51, 52, 53, 54, 55, 56, 57, 58, 59, 60, 61, 62, 63, 64, 65, 66, 67, 68, 69] (by decide +kernel) (by decide +kernel)
set_option maxRecDepth 20000 in
theorem gX12_held_X12_tooMuchBy : GoodIn wsX12_held (wsV RX12 90 RX12 yX12_tooMuchBy wsX12_tooMuchBy) := goodIn_app (goodIn_of _ (by decide +kernel)) ggX12_held_X12_tooMuchBy
theorem dX12_held_0 : decode cX12_held 0 = .ok (.aload_n 0, 1) := by decide +kernel
theorem dX12_held_1 : decode cX12_held 1 = .ok (.iload_n 1, 1) := by decide +kernel
theorem dX12_held_2 : decode cX12_held 2 = .ok (.invokevirtual 56, 3) := by decide +kernel
theorem dX12_held_5 : decode cX12_held 5 = .ok (.ifCond .eq 18, 3) := by decide +kernel
theorem dX12_held_8 : decode cX12_held 8 = .ok (.aload_n 0, 1) := by decide +kernel
theorem dX12_held_9 : decode cX12_held 9 = .ok (.iload_n 1, 1) := by decide +kernel
theorem dX12_held_10 : decode cX12_held 10 = .ok (.aload_n 0, 1) := by decide +kernel
theorem dX12_held_11 : decode cX12_held 11 = .ok (.iload_n 1, 1) := by decide +kernel
theorem dX12_held_12 : decode cX12_held 12 = .ok (.invokevirtual 68, 3) := by decide +kernel
theorem dX12_held_15 : decode cX12_held 15 = .ok (.iconst 1, 1) := by decide +kernel
theorem dX12_held_16 : decode cX12_held 16 = .ok (.iadd, 1) := by decide +kernel
theorem dX12_held_17 : decode cX12_held 17 = .ok (.invokevirtual 90, 3) := by decide +kernel
theorem dX12_held_20 : decode cX12_held 20 = .ok (.goto 4, 3) := by decide +kernel
theorem dX12_held_23 : decode cX12_held 23 = .ok (.iconst (-1), 1) := by decide +kernel
theorem dX12_held_24 : decode cX12_held 24 = .ok (.ireturn, 1) := by decide +kernel
set_option maxRecDepth 20000 in
theorem ggX12_free_X12_purse : GoodIn wsX12_free wsX12_purse := goodIn_r _ [6, 7, 8, 9, 5, 10, 1, 46, 47, 48, 49, 50, 51, 52, 53, 54, 55, 56, 57, 58, 59, 60, 61, 62, 63, 64, 65, 66, 67, 68, 69] (by decide +kernel) (by decide +kernel)
set_option maxRecDepth 20000 in
theorem gX12_free_X12_purse : GoodIn wsX12_free (wsV RX12 68 RX12 yX12_purse wsX12_purse) := goodIn_app (goodIn_of _ (by decide +kernel)) ggX12_free_X12_purse
set_option maxRecDepth 20000 in
theorem ggX12_free_X12_tooMuchBy : GoodIn wsX12_free wsX12_tooMuchBy := goodIn_r _ [14, 15, 16, 17, 5, 18, 1, 19, 20, 21, 22, 23, 24, 25, 26, 27, 28, 29, 30, 31, 32, 33, 7, 8, 9, 10, 34, 35, 36, 37, 2, 3, 4, 6, 38, 39, 40, 41, 42, 43, 44, 45, 46, 47, 48, 49, 50, 51, 52, 53, 54, 55, 56, 57, 58, 59, 60, 61, 62, 63, 64, 65, 66, 67, 68, 69] (by decide +kernel) (by decide +kernel)
set_option maxRecDepth 20000 in
theorem gX12_free_X12_tooMuchBy : GoodIn wsX12_free (wsV RX12 90 RX12 yX12_tooMuchBy wsX12_tooMuchBy) := goodIn_app (goodIn_of _ (by decide +kernel)) ggX12_free_X12_tooMuchBy
theorem dX12_free_0 : decode cX12_free 0 = .ok (.iconst 0, 1) := by decide +kernel
theorem dX12_free_1 : decode cX12_free 1 = .ok (.istore_n 1, 1) := by decide +kernel
theorem dX12_free_2 : decode cX12_free 2 = .ok (.iconst 0, 1) := by decide +kernel
theorem dX12_free_3 : decode cX12_free 3 = .ok (.istore_n 2, 1) := by decide +kernel
theorem dX12_free_4 : decode cX12_free 4 = .ok (.iload_n 2, 1) := by decide +kernel
theorem dX12_free_5 : decode cX12_free 5 = .ok (.aload_n 0, 1) := by decide +kernel
theorem dX12_free_6 : decode cX12_free 6 = .ok (.getfield 9, 3) := by decide +kernel
theorem dX12_free_9 : decode cX12_free 9 = .ok (.iconst 0, 1) := by decide +kernel
theorem dX12_free_10 : decode cX12_free 10 = .ok (.iaload, 1) := by decide +kernel
theorem dX12_free_11 : decode cX12_free 11 = .ok (.if_icmp .ge 45, 3) := by decide +kernel
theorem dX12_free_14 : decode cX12_free 14 = .ok (.iload_n 1, 1) := by decide +kernel
theorem dX12_free_15 : decode cX12_free 15 = .ok (.aload_n 0, 1) := by decide +kernel
theorem dX12_free_16 : decode cX12_free 16 = .ok (.iload_n 2, 1) := by decide +kernel
theorem dX12_free_17 : decode cX12_free 17 = .ok (.invokevirtual 68, 3) := by decide +kernel
theorem dX12_free_20 : decode cX12_free 20 = .ok (.sipush 9999, 3) := by decide +kernel
theorem dX12_free_23 : decode cX12_free 23 = .ok (.if_icmp .ge 24, 3) := by decide +kernel
theorem dX12_free_26 : decode cX12_free 26 = .ok (.aload_n 0, 1) := by decide +kernel
theorem dX12_free_27 : decode cX12_free 27 = .ok (.iload_n 2, 1) := by decide +kernel
theorem dX12_free_28 : decode cX12_free 28 = .ok (.aload_n 0, 1) := by decide +kernel
theorem dX12_free_29 : decode cX12_free 29 = .ok (.iload_n 2, 1) := by decide +kernel
theorem dX12_free_30 : decode cX12_free 30 = .ok (.invokevirtual 68, 3) := by decide +kernel
theorem dX12_free_33 : decode cX12_free 33 = .ok (.iconst 1, 1) := by decide +kernel
theorem dX12_free_34 : decode cX12_free 34 = .ok (.iadd, 1) := by decide +kernel
theorem dX12_free_35 : decode cX12_free 35 = .ok (.invokevirtual 90, 3) := by decide +kernel
theorem dX12_free_38 : decode cX12_free 38 = .ok (.ifCond .ne 9, 3) := by decide +kernel
theorem dX12_free_41 : decode cX12_free 41 = .ok (.iconst 1, 1) := by decide +kernel
theorem dX12_free_42 : decode cX12_free 42 = .ok (.iload_n 2, 1) := by decide +kernel
theorem dX12_free_43 : decode cX12_free 43 = .ok (.ishl, 1) := by decide +kernel
theorem dX12_free_44 : decode cX12_free 44 = .ok (.goto 4, 3) := by decide +kernel
theorem dX12_free_47 : decode cX12_free 47 = .ok (.iconst 0, 1) := by decide +kernel
theorem dX12_free_48 : decode cX12_free 48 = .ok (.ior, 1) := by decide +kernel
theorem dX12_free_49 : decode cX12_free 49 = .ok (.istore_n 1, 1) := by decide +kernel
theorem dX12_free_50 : decode cX12_free 50 = .ok (.iinc 2 1, 3) := by decide +kernel
theorem dX12_free_53 : decode cX12_free 53 = .ok (.goto (-49), 3) := by decide +kernel
theorem dX12_free_56 : decode cX12_free 56 = .ok (.iload_n 1, 1) := by decide +kernel
theorem dX12_free_57 : decode cX12_free 57 = .ok (.ireturn, 1) := by decide +kernel
set_option maxRecDepth 20000 in
theorem ggX12_partsAre_X12_isLawful : GoodIn wsX12_partsAre wsX12_isLawful := goodIn_r _ [12, 13, 14, 15, 11, 16, 2, 17, 18, 19, 20, 21, 22, 23, 24, 25, 26, 27, 28, 29, 30, 31, 32, 33, 34, 35, 36, 37, 38, 39, 40, 41, 42, 43, 44, 45, 46, 47, 48, 49, 50, 51, 52, 53, 54, 55, 56, 57, 58, 59, 60, 61, 62, 63, 64, 65, 66, 67, 68, 69, 70, 71, 72, 73, 74, 75, 76, 77, 78, 79, 80, 81, 82, 83, 84, 85, 86, 87, 88, 89, 90] (by decide +kernel) (by decide +kernel)
set_option maxRecDepth 20000 in
theorem gX12_partsAre_X12_isLawful : GoodIn wsX12_partsAre (wsV RX12 183 RX12 yX12_isLawful wsX12_isLawful) := goodIn_app (goodIn_of _ (by decide +kernel)) ggX12_partsAre_X12_isLawful
set_option maxRecDepth 20000 in
theorem ggX12_partsAre_X12_purse : GoodIn wsX12_partsAre wsX12_purse := goodIn_r _ [24, 25, 26, 27, 11, 28, 2, 67, 68, 69, 70, 71, 72, 73, 74, 75, 76, 77, 78, 79, 80, 81, 82, 83, 84, 85, 86, 87, 88, 89, 90] (by decide +kernel) (by decide +kernel)
set_option maxRecDepth 20000 in
theorem gX12_partsAre_X12_purse : GoodIn wsX12_partsAre (wsV RX12 68 RX12 yX12_purse wsX12_purse) := goodIn_app (goodIn_of _ (by decide +kernel)) ggX12_partsAre_X12_purse
set_option maxRecDepth 20000 in
theorem ggX12_partsAre_X12_isHouse : GoodIn wsX12_partsAre wsX12_isHouse := goodIn_r _ [40, 2, 41, 42, 11, 43, 67, 68, 69, 70, 71, 72, 73, 74, 75, 76, 77, 78, 79, 80, 81, 82, 83, 84, 85, 86, 87, 88, 89, 90] (by decide +kernel) (by decide +kernel)
set_option maxRecDepth 20000 in
theorem gX12_partsAre_X12_isHouse : GoodIn wsX12_partsAre (wsV RX12 56 RX12 yX12_isHouse wsX12_isHouse) := goodIn_app (goodIn_of _ (by decide +kernel)) ggX12_partsAre_X12_isHouse
theorem dX12_partsAre_0 : decode cX12_partsAre 0 = .ok (.aload_n 0, 1) := by decide +kernel
theorem dX12_partsAre_1 : decode cX12_partsAre 1 = .ok (.invokevirtual 183, 3) := by decide +kernel
theorem dX12_partsAre_4 : decode cX12_partsAre 4 = .ok (.ifCond .ne 4, 3) := by decide +kernel
theorem dX12_partsAre_7 : decode cX12_partsAre 7 = .ok (.return_, 1) := by decide +kernel
theorem dX12_partsAre_8 : decode cX12_partsAre 8 = .ok (.aload_n 0, 1) := by decide +kernel
theorem dX12_partsAre_9 : decode cX12_partsAre 9 = .ok (.dup, 1) := by decide +kernel
theorem dX12_partsAre_10 : decode cX12_partsAre 10 = .ok (.getfield 186, 3) := by decide +kernel
theorem dX12_partsAre_13 : decode cX12_partsAre 13 = .ok (.iconst 1, 1) := by decide +kernel
theorem dX12_partsAre_14 : decode cX12_partsAre 14 = .ok (.iadd, 1) := by decide +kernel
theorem dX12_partsAre_15 : decode cX12_partsAre 15 = .ok (.putfield 186, 3) := by decide +kernel
theorem dX12_partsAre_18 : decode cX12_partsAre 18 = .ok (.sipush 9999, 3) := by decide +kernel
theorem dX12_partsAre_21 : decode cX12_partsAre 21 = .ok (.istore_n 2, 1) := by decide +kernel
theorem dX12_partsAre_22 : decode cX12_partsAre 22 = .ok (.iconst 0, 1) := by decide +kernel
theorem dX12_partsAre_23 : decode cX12_partsAre 23 = .ok (.istore_n 3, 1) := by decide +kernel
theorem dX12_partsAre_24 : decode cX12_partsAre 24 = .ok (.iconst 0, 1) := by decide +kernel
theorem dX12_partsAre_25 : decode cX12_partsAre 25 = .ok (.istore 4, 2) := by decide +kernel
theorem dX12_partsAre_27 : decode cX12_partsAre 27 = .ok (.iconst 0, 1) := by decide +kernel
theorem dX12_partsAre_28 : decode cX12_partsAre 28 = .ok (.istore 5, 2) := by decide +kernel
theorem dX12_partsAre_30 : decode cX12_partsAre 30 = .ok (.iconst 0, 1) := by decide +kernel
theorem dX12_partsAre_31 : decode cX12_partsAre 31 = .ok (.istore 6, 2) := by decide +kernel
theorem dX12_partsAre_33 : decode cX12_partsAre 33 = .ok (.iconst 0, 1) := by decide +kernel
theorem dX12_partsAre_34 : decode cX12_partsAre 34 = .ok (.istore 7, 2) := by decide +kernel
theorem dX12_partsAre_36 : decode cX12_partsAre 36 = .ok (.iload 7, 2) := by decide +kernel
theorem dX12_partsAre_38 : decode cX12_partsAre 38 = .ok (.aload_n 0, 1) := by decide +kernel
theorem dX12_partsAre_39 : decode cX12_partsAre 39 = .ok (.getfield 9, 3) := by decide +kernel
theorem dX12_partsAre_42 : decode cX12_partsAre 42 = .ok (.iconst 0, 1) := by decide +kernel
theorem dX12_partsAre_43 : decode cX12_partsAre 43 = .ok (.iaload, 1) := by decide +kernel
theorem dX12_partsAre_44 : decode cX12_partsAre 44 = .ok (.if_icmp .ge 107, 3) := by decide +kernel
theorem dX12_partsAre_47 : decode cX12_partsAre 47 = .ok (.aload_n 0, 1) := by decide +kernel
theorem dX12_partsAre_48 : decode cX12_partsAre 48 = .ok (.iload 7, 2) := by decide +kernel
theorem dX12_partsAre_50 : decode cX12_partsAre 50 = .ok (.invokevirtual 68, 3) := by decide +kernel
theorem dX12_partsAre_53 : decode cX12_partsAre 53 = .ok (.istore 8, 2) := by decide +kernel
theorem dX12_partsAre_55 : decode cX12_partsAre 55 = .ok (.iload 8, 2) := by decide +kernel
theorem dX12_partsAre_57 : decode cX12_partsAre 57 = .ok (.iload_n 2, 1) := by decide +kernel
theorem dX12_partsAre_58 : decode cX12_partsAre 58 = .ok (.if_icmp .ge 8, 3) := by decide +kernel
theorem dX12_partsAre_61 : decode cX12_partsAre 61 = .ok (.iload 8, 2) := by decide +kernel
theorem dX12_partsAre_63 : decode cX12_partsAre 63 = .ok (.goto 4, 3) := by decide +kernel
theorem dX12_partsAre_66 : decode cX12_partsAre 66 = .ok (.iload_n 2, 1) := by decide +kernel
theorem dX12_partsAre_67 : decode cX12_partsAre 67 = .ok (.istore_n 2, 1) := by decide +kernel
theorem dX12_partsAre_68 : decode cX12_partsAre 68 = .ok (.iload 8, 2) := by decide +kernel
theorem dX12_partsAre_70 : decode cX12_partsAre 70 = .ok (.iload_n 3, 1) := by decide +kernel
theorem dX12_partsAre_71 : decode cX12_partsAre 71 = .ok (.if_icmp .le 8, 3) := by decide +kernel
theorem dX12_partsAre_74 : decode cX12_partsAre 74 = .ok (.iload 8, 2) := by decide +kernel
theorem dX12_partsAre_76 : decode cX12_partsAre 76 = .ok (.goto 4, 3) := by decide +kernel
theorem dX12_partsAre_79 : decode cX12_partsAre 79 = .ok (.iload_n 3, 1) := by decide +kernel
theorem dX12_partsAre_80 : decode cX12_partsAre 80 = .ok (.istore_n 3, 1) := by decide +kernel
theorem dX12_partsAre_81 : decode cX12_partsAre 81 = .ok (.iload 4, 2) := by decide +kernel
theorem dX12_partsAre_83 : decode cX12_partsAre 83 = .ok (.aload_n 0, 1) := by decide +kernel
theorem dX12_partsAre_84 : decode cX12_partsAre 84 = .ok (.getfield 43, 3) := by decide +kernel
theorem dX12_partsAre_87 : decode cX12_partsAre 87 = .ok (.iload 7, 2) := by decide +kernel
theorem dX12_partsAre_89 : decode cX12_partsAre 89 = .ok (.iaload, 1) := by decide +kernel
theorem dX12_partsAre_90 : decode cX12_partsAre 90 = .ok (.iload 8, 2) := by decide +kernel
theorem dX12_partsAre_92 : decode cX12_partsAre 92 = .ok (.isub, 1) := by decide +kernel
theorem dX12_partsAre_93 : decode cX12_partsAre 93 = .ok (.iadd, 1) := by decide +kernel
theorem dX12_partsAre_94 : decode cX12_partsAre 94 = .ok (.istore 4, 2) := by decide +kernel
theorem dX12_partsAre_96 : decode cX12_partsAre 96 = .ok (.iload 5, 2) := by decide +kernel
theorem dX12_partsAre_98 : decode cX12_partsAre 98 = .ok (.iload 4, 2) := by decide +kernel
theorem dX12_partsAre_100 : decode cX12_partsAre 100 = .ok (.ifCond .ge 9, 3) := by decide +kernel
theorem dX12_partsAre_103 : decode cX12_partsAre 103 = .ok (.iload 4, 2) := by decide +kernel
theorem dX12_partsAre_105 : decode cX12_partsAre 105 = .ok (.ineg, 1) := by decide +kernel
theorem dX12_partsAre_106 : decode cX12_partsAre 106 = .ok (.goto 5, 3) := by decide +kernel
theorem dX12_partsAre_109 : decode cX12_partsAre 109 = .ok (.iload 4, 2) := by decide +kernel
theorem dX12_partsAre_111 : decode cX12_partsAre 111 = .ok (.iadd, 1) := by decide +kernel
theorem dX12_partsAre_112 : decode cX12_partsAre 112 = .ok (.istore 5, 2) := by decide +kernel
theorem dX12_partsAre_114 : decode cX12_partsAre 114 = .ok (.iload 6, 2) := by decide +kernel
theorem dX12_partsAre_116 : decode cX12_partsAre 116 = .ok (.iload 8, 2) := by decide +kernel
theorem dX12_partsAre_118 : decode cX12_partsAre 118 = .ok (.aload_n 0, 1) := by decide +kernel
theorem dX12_partsAre_119 : decode cX12_partsAre 119 = .ok (.getfield 43, 3) := by decide +kernel
theorem dX12_partsAre_122 : decode cX12_partsAre 122 = .ok (.iload 7, 2) := by decide +kernel
theorem dX12_partsAre_124 : decode cX12_partsAre 124 = .ok (.iaload, 1) := by decide +kernel
theorem dX12_partsAre_125 : decode cX12_partsAre 125 = .ok (.if_icmp .ge 16, 3) := by decide +kernel
theorem dX12_partsAre_128 : decode cX12_partsAre 128 = .ok (.aload_n 0, 1) := by decide +kernel
theorem dX12_partsAre_129 : decode cX12_partsAre 129 = .ok (.getfield 43, 3) := by decide +kernel
theorem dX12_partsAre_132 : decode cX12_partsAre 132 = .ok (.iload 7, 2) := by decide +kernel
theorem dX12_partsAre_134 : decode cX12_partsAre 134 = .ok (.iaload, 1) := by decide +kernel
theorem dX12_partsAre_135 : decode cX12_partsAre 135 = .ok (.iload 8, 2) := by decide +kernel
theorem dX12_partsAre_137 : decode cX12_partsAre 137 = .ok (.isub, 1) := by decide +kernel
theorem dX12_partsAre_138 : decode cX12_partsAre 138 = .ok (.goto 4, 3) := by decide +kernel
theorem dX12_partsAre_141 : decode cX12_partsAre 141 = .ok (.iconst 0, 1) := by decide +kernel
theorem dX12_partsAre_142 : decode cX12_partsAre 142 = .ok (.iadd, 1) := by decide +kernel
theorem dX12_partsAre_143 : decode cX12_partsAre 143 = .ok (.istore 6, 2) := by decide +kernel
theorem dX12_partsAre_145 : decode cX12_partsAre 145 = .ok (.iinc 7 1, 3) := by decide +kernel
theorem dX12_partsAre_148 : decode cX12_partsAre 148 = .ok (.goto (-112), 3) := by decide +kernel
theorem dX12_partsAre_151 : decode cX12_partsAre 151 = .ok (.aload_n 0, 1) := by decide +kernel
theorem dX12_partsAre_152 : decode cX12_partsAre 152 = .ok (.getfield 9, 3) := by decide +kernel
theorem dX12_partsAre_155 : decode cX12_partsAre 155 = .ok (.iconst 0, 1) := by decide +kernel
theorem dX12_partsAre_156 : decode cX12_partsAre 156 = .ok (.iaload, 1) := by decide +kernel
theorem dX12_partsAre_157 : decode cX12_partsAre 157 = .ok (.ifCond .ne 7, 3) := by decide +kernel
theorem dX12_partsAre_160 : decode cX12_partsAre 160 = .ok (.iconst 0, 1) := by decide +kernel
theorem dX12_partsAre_161 : decode cX12_partsAre 161 = .ok (.goto 6, 3) := by decide +kernel
theorem dX12_partsAre_164 : decode cX12_partsAre 164 = .ok (.iload_n 3, 1) := by decide +kernel
theorem dX12_partsAre_165 : decode cX12_partsAre 165 = .ok (.iload_n 2, 1) := by decide +kernel
theorem dX12_partsAre_166 : decode cX12_partsAre 166 = .ok (.isub, 1) := by decide +kernel
theorem dX12_partsAre_167 : decode cX12_partsAre 167 = .ok (.istore 7, 2) := by decide +kernel
theorem dX12_partsAre_169 : decode cX12_partsAre 169 = .ok (.aload_n 0, 1) := by decide +kernel
theorem dX12_partsAre_170 : decode cX12_partsAre 170 = .ok (.iload 7, 2) := by decide +kernel
theorem dX12_partsAre_172 : decode cX12_partsAre 172 = .ok (.aload_n 0, 1) := by decide +kernel
theorem dX12_partsAre_173 : decode cX12_partsAre 173 = .ok (.getfield 189, 3) := by decide +kernel
theorem dX12_partsAre_176 : decode cX12_partsAre 176 = .ok (.if_icmp .le 8, 3) := by decide +kernel
theorem dX12_partsAre_179 : decode cX12_partsAre 179 = .ok (.iload 7, 2) := by decide +kernel
theorem dX12_partsAre_181 : decode cX12_partsAre 181 = .ok (.goto 7, 3) := by decide +kernel
theorem dX12_partsAre_184 : decode cX12_partsAre 184 = .ok (.aload_n 0, 1) := by decide +kernel
theorem dX12_partsAre_185 : decode cX12_partsAre 185 = .ok (.getfield 189, 3) := by decide +kernel
theorem dX12_partsAre_188 : decode cX12_partsAre 188 = .ok (.putfield 189, 3) := by decide +kernel
theorem dX12_partsAre_191 : decode cX12_partsAre 191 = .ok (.aload_n 0, 1) := by decide +kernel
theorem dX12_partsAre_192 : decode cX12_partsAre 192 = .ok (.aload_n 0, 1) := by decide +kernel
theorem dX12_partsAre_193 : decode cX12_partsAre 193 = .ok (.iload_n 1, 1) := by decide +kernel
theorem dX12_partsAre_194 : decode cX12_partsAre 194 = .ok (.invokevirtual 56, 3) := by decide +kernel
theorem dX12_partsAre_197 : decode cX12_partsAre 197 = .ok (.ifCond .eq 23, 3) := by decide +kernel
theorem dX12_partsAre_200 : decode cX12_partsAre 200 = .ok (.aload_n 0, 1) := by decide +kernel
theorem dX12_partsAre_201 : decode cX12_partsAre 201 = .ok (.iload_n 1, 1) := by decide +kernel
theorem dX12_partsAre_202 : decode cX12_partsAre 202 = .ok (.invokevirtual 68, 3) := by decide +kernel
theorem dX12_partsAre_205 : decode cX12_partsAre 205 = .ok (.aload_n 0, 1) := by decide +kernel
theorem dX12_partsAre_206 : decode cX12_partsAre 206 = .ok (.getfield 192, 3) := by decide +kernel
theorem dX12_partsAre_209 : decode cX12_partsAre 209 = .ok (.if_icmp .le 11, 3) := by decide +kernel
theorem dX12_partsAre_212 : decode cX12_partsAre 212 = .ok (.aload_n 0, 1) := by decide +kernel
theorem dX12_partsAre_213 : decode cX12_partsAre 213 = .ok (.iload_n 1, 1) := by decide +kernel
theorem dX12_partsAre_214 : decode cX12_partsAre 214 = .ok (.invokevirtual 68, 3) := by decide +kernel
theorem dX12_partsAre_217 : decode cX12_partsAre 217 = .ok (.goto 7, 3) := by decide +kernel
