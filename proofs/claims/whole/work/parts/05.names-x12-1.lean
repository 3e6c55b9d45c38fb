theorem dX12_init_0 : decode cX12_init 0 = .ok (.aload_n 0, 1) := by decide +kernel
theorem dX12_init_1 : decode cX12_init 1 = .ok (.invokespecial 1, 3) := by decide +kernel
theorem dX12_init_4 : decode cX12_init 4 = .ok (.aload_n 0, 1) := by decide +kernel
theorem dX12_init_5 : decode cX12_init 5 = .ok (.bipush 29, 2) := by decide +kernel
theorem dX12_init_7 : decode cX12_init 7 = .ok (.newarray .int, 2) := by decide +kernel
theorem dX12_init_9 : decode cX12_init 9 = .ok (.putfield 9, 3) := by decide +kernel
theorem dX12_init_12 : decode cX12_init 12 = .ok (.aload_n 0, 1) := by decide +kernel
theorem dX12_init_13 : decode cX12_init 13 = .ok (.bipush 29, 2) := by decide +kernel
theorem dX12_init_15 : decode cX12_init 15 = .ok (.newarray .int, 2) := by decide +kernel
theorem dX12_init_17 : decode cX12_init 17 = .ok (.putfield 13, 3) := by decide +kernel
theorem dX12_init_20 : decode cX12_init 20 = .ok (.aload_n 0, 1) := by decide +kernel
theorem dX12_init_21 : decode cX12_init 21 = .ok (.bipush 29, 2) := by decide +kernel
theorem dX12_init_23 : decode cX12_init 23 = .ok (.newarray .int, 2) := by decide +kernel
theorem dX12_init_25 : decode cX12_init 25 = .ok (.putfield 16, 3) := by decide +kernel
theorem dX12_init_28 : decode cX12_init 28 = .ok (.aload_n 0, 1) := by decide +kernel
theorem dX12_init_29 : decode cX12_init 29 = .ok (.bipush 29, 2) := by decide +kernel
theorem dX12_init_31 : decode cX12_init 31 = .ok (.newarray .int, 2) := by decide +kernel
theorem dX12_init_33 : decode cX12_init 33 = .ok (.putfield 19, 3) := by decide +kernel
theorem dX12_init_36 : decode cX12_init 36 = .ok (.aload_n 0, 1) := by decide +kernel
theorem dX12_init_37 : decode cX12_init 37 = .ok (.bipush 8, 2) := by decide +kernel
theorem dX12_init_39 : decode cX12_init 39 = .ok (.newarray .int, 2) := by decide +kernel
theorem dX12_init_41 : decode cX12_init 41 = .ok (.putfield 22, 3) := by decide +kernel
theorem dX12_init_44 : decode cX12_init 44 = .ok (.aload_n 0, 1) := by decide +kernel
theorem dX12_init_45 : decode cX12_init 45 = .ok (.bipush 8, 2) := by decide +kernel
theorem dX12_init_47 : decode cX12_init 47 = .ok (.newarray .int, 2) := by decide +kernel
theorem dX12_init_49 : decode cX12_init 49 = .ok (.putfield 25, 3) := by decide +kernel
theorem dX12_init_52 : decode cX12_init 52 = .ok (.aload_n 0, 1) := by decide +kernel
theorem dX12_init_53 : decode cX12_init 53 = .ok (.bipush 8, 2) := by decide +kernel
theorem dX12_init_55 : decode cX12_init 55 = .ok (.newarray .int, 2) := by decide +kernel
theorem dX12_init_57 : decode cX12_init 57 = .ok (.putfield 28, 3) := by decide +kernel
theorem dX12_init_60 : decode cX12_init 60 = .ok (.aload_n 0, 1) := by decide +kernel
theorem dX12_init_61 : decode cX12_init 61 = .ok (.sipush 800, 3) := by decide +kernel
theorem dX12_init_64 : decode cX12_init 64 = .ok (.newarray .int, 2) := by decide +kernel
theorem dX12_init_66 : decode cX12_init 66 = .ok (.putfield 31, 3) := by decide +kernel
theorem dX12_init_69 : decode cX12_init 69 = .ok (.aload_n 0, 1) := by decide +kernel
theorem dX12_init_70 : decode cX12_init 70 = .ok (.bipush 8, 2) := by decide +kernel
theorem dX12_init_72 : decode cX12_init 72 = .ok (.newarray .int, 2) := by decide +kernel
theorem dX12_init_74 : decode cX12_init 74 = .ok (.putfield 34, 3) := by decide +kernel
theorem dX12_init_77 : decode cX12_init 77 = .ok (.aload_n 0, 1) := by decide +kernel
theorem dX12_init_78 : decode cX12_init 78 = .ok (.bipush 8, 2) := by decide +kernel
theorem dX12_init_80 : decode cX12_init 80 = .ok (.newarray .int, 2) := by decide +kernel
theorem dX12_init_82 : decode cX12_init 82 = .ok (.putfield 37, 3) := by decide +kernel
theorem dX12_init_85 : decode cX12_init 85 = .ok (.aload_n 0, 1) := by decide +kernel
theorem dX12_init_86 : decode cX12_init 86 = .ok (.iconst 3, 1) := by decide +kernel
theorem dX12_init_87 : decode cX12_init 87 = .ok (.newarray .int, 2) := by decide +kernel
theorem dX12_init_89 : decode cX12_init 89 = .ok (.putfield 40, 3) := by decide +kernel
theorem dX12_init_92 : decode cX12_init 92 = .ok (.aload_n 0, 1) := by decide +kernel
theorem dX12_init_93 : decode cX12_init 93 = .ok (.bipush 8, 2) := by decide +kernel
theorem dX12_init_95 : decode cX12_init 95 = .ok (.newarray .int, 2) := by decide +kernel
theorem dX12_init_97 : decode cX12_init 97 = .ok (.putfield 43, 3) := by decide +kernel
theorem dX12_init_100 : decode cX12_init 100 = .ok (.return_, 1) := by decide +kernel
theorem dX12_thrown_0 : decode cX12_thrown 0 = .ok (.aload_n 0, 1) := by decide +kernel
theorem dX12_thrown_1 : decode cX12_thrown 1 = .ok (.getfield 46, 3) := by decide +kernel
theorem dX12_thrown_4 : decode cX12_thrown 4 = .ok (.ireturn, 1) := by decide +kernel
theorem dX12_isIn_0 : decode cX12_isIn 0 = .ok (.lload_n 0, 1) := by decide +kernel
theorem dX12_isIn_1 : decode cX12_isIn 1 = .ok (.lload_n 2, 1) := by decide +kernel
theorem dX12_isIn_2 : decode cX12_isIn 2 = .ok (.lcmp, 1) := by decide +kernel
theorem dX12_isIn_3 : decode cX12_isIn 3 = .ok (.ifCond .lt 14, 3) := by decide +kernel
theorem dX12_isIn_6 : decode cX12_isIn 6 = .ok (.lload_n 0, 1) := by decide +kernel
theorem dX12_isIn_7 : decode cX12_isIn 7 = .ok (.lload 4, 2) := by decide +kernel
theorem dX12_isIn_9 : decode cX12_isIn 9 = .ok (.lcmp, 1) := by decide +kernel
theorem dX12_isIn_10 : decode cX12_isIn 10 = .ok (.ifCond .gt 7, 3) := by decide +kernel
theorem dX12_isIn_13 : decode cX12_isIn 13 = .ok (.iconst 1, 1) := by decide +kernel
theorem dX12_isIn_14 : decode cX12_isIn 14 = .ok (.goto 4, 3) := by decide +kernel
theorem dX12_isIn_17 : decode cX12_isIn 17 = .ok (.iconst 0, 1) := by decide +kernel
theorem dX12_isIn_18 : decode cX12_isIn 18 = .ok (.ireturn, 1) := by decide +kernel
set_option maxRecDepth 20000 in
theorem ggX12_isShelf_X12_isIn : GoodIn wsX12_isShelf wsX12_isIn := goodIn_r _ [5] (by decide +kernel) (by decide +kernel)
set_option maxRecDepth 20000 in
theorem gX12_isShelf_X12_isIn : GoodIn wsX12_isShelf (va_wsS RX12 52 yX12_isIn wsX12_isIn) := goodIn_app (goodIn_of _ (by decide +kernel)) ggX12_isShelf_X12_isIn
theorem dX12_isShelf_0 : decode cX12_isShelf 0 = .ok (.iload_n 0, 1) := by decide +kernel
theorem dX12_isShelf_1 : decode cX12_isShelf 1 = .ok (.i2l, 1) := by decide +kernel
theorem dX12_isShelf_2 : decode cX12_isShelf 2 = .ok (.lconst 0, 1) := by decide +kernel
theorem dX12_isShelf_3 : decode cX12_isShelf 3 = .ok (.ldc2_w 50, 3) := by decide +kernel
theorem dX12_isShelf_6 : decode cX12_isShelf 6 = .ok (.invokestatic 52, 3) := by decide +kernel
theorem dX12_isShelf_9 : decode cX12_isShelf 9 = .ok (.ireturn, 1) := by decide +kernel
set_option maxRecDepth 20000 in
theorem ggX12_isHouse_X12_isIn : GoodIn wsX12_isHouse wsX12_isIn := goodIn_r _ [5] (by decide +kernel) (by decide +kernel)
set_option maxRecDepth 20000 in
theorem gX12_isHouse_X12_isIn : GoodIn wsX12_isHouse (va_wsS RX12 52 yX12_isIn wsX12_isIn) := goodIn_app (goodIn_of _ (by decide +kernel)) ggX12_isHouse_X12_isIn
theorem dX12_isHouse_0 : decode cX12_isHouse 0 = .ok (.iload_n 1, 1) := by decide +kernel
theorem dX12_isHouse_1 : decode cX12_isHouse 1 = .ok (.i2l, 1) := by decide +kernel
theorem dX12_isHouse_2 : decode cX12_isHouse 2 = .ok (.lconst 0, 1) := by decide +kernel
theorem dX12_isHouse_3 : decode cX12_isHouse 3 = .ok (.aload_n 0, 1) := by decide +kernel
theorem dX12_isHouse_4 : decode cX12_isHouse 4 = .ok (.getfield 9, 3) := by decide +kernel
theorem dX12_isHouse_7 : decode cX12_isHouse 7 = .ok (.iconst 0, 1) := by decide +kernel
theorem dX12_isHouse_8 : decode cX12_isHouse 8 = .ok (.iaload, 1) := by decide +kernel
theorem dX12_isHouse_9 : decode cX12_isHouse 9 = .ok (.iconst 1, 1) := by decide +kernel
theorem dX12_isHouse_10 : decode cX12_isHouse 10 = .ok (.isub, 1) := by decide +kernel
theorem dX12_isHouse_11 : decode cX12_isHouse 11 = .ok (.i2l, 1) := by decide +kernel
theorem dX12_isHouse_12 : decode cX12_isHouse 12 = .ok (.invokestatic 52, 3) := by decide +kernel
theorem dX12_isHouse_15 : decode cX12_isHouse 15 = .ok (.ireturn, 1) := by decide +kernel
set_option maxRecDepth 20000 in
theorem ggX12_areTwo_X12_isHouse : GoodIn wsX12_areTwo wsX12_isHouse := goodIn_r _ [5, 6, 7, 8, 4, 9, 10, 11, 12, 13, 14, 15, 16, 17, 18, 19, 20, 21, 22, 23, 24, 25, 26, 27, 28, 29, 30, 31, 32, 33] (by decide +kernel) (by decide +kernel)
set_option maxRecDepth 20000 in
theorem gX12_areTwo_X12_isHouse : GoodIn wsX12_areTwo (wsV RX12 56 RX12 yX12_isHouse wsX12_isHouse) := goodIn_app (goodIn_of _ (by decide +kernel)) ggX12_areTwo_X12_isHouse
theorem dX12_areTwo_0 : decode cX12_areTwo 0 = .ok (.aload_n 0, 1) := by decide +kernel
theorem dX12_areTwo_1 : decode cX12_areTwo 1 = .ok (.iload_n 1, 1) := by decide +kernel
theorem dX12_areTwo_2 : decode cX12_areTwo 2 = .ok (.invokevirtual 56, 3) := by decide +kernel
theorem dX12_areTwo_5 : decode cX12_areTwo 5 = .ok (.ifCond .eq 20, 3) := by decide +kernel
theorem dX12_areTwo_8 : decode cX12_areTwo 8 = .ok (.aload_n 0, 1) := by decide +kernel
theorem dX12_areTwo_9 : decode cX12_areTwo 9 = .ok (.iload_n 2, 1) := by decide +kernel
theorem dX12_areTwo_10 : decode cX12_areTwo 10 = .ok (.invokevirtual 56, 3) := by decide +kernel
theorem dX12_areTwo_13 : decode cX12_areTwo 13 = .ok (.ifCond .eq 12, 3) := by decide +kernel
theorem dX12_areTwo_16 : decode cX12_areTwo 16 = .ok (.iload_n 1, 1) := by decide +kernel
theorem dX12_areTwo_17 : decode cX12_areTwo 17 = .ok (.iload_n 2, 1) := by decide +kernel
theorem dX12_areTwo_18 : decode cX12_areTwo 18 = .ok (.if_icmp .eq 7, 3) := by decide +kernel
theorem dX12_areTwo_21 : decode cX12_areTwo 21 = .ok (.iconst 1, 1) := by decide +kernel
theorem dX12_areTwo_22 : decode cX12_areTwo 22 = .ok (.goto 4, 3) := by decide +kernel
theorem dX12_areTwo_25 : decode cX12_areTwo 25 = .ok (.iconst 0, 1) := by decide +kernel
theorem dX12_areTwo_26 : decode cX12_areTwo 26 = .ok (.ireturn, 1) := by decide +kernel
theorem dX12_lays_0 : decode cX12_lays 0 = .ok (.iconst 0, 1) := by decide +kernel
theorem dX12_lays_1 : decode cX12_lays 1 = .ok (.istore_n 2, 1) := by decide +kernel
theorem dX12_lays_2 : decode cX12_lays 2 = .ok (.iload_n 2, 1) := by decide +kernel
theorem dX12_lays_3 : decode cX12_lays 3 = .ok (.bipush 29, 2) := by decide +kernel
theorem dX12_lays_5 : decode cX12_lays 5 = .ok (.if_icmp .ge 15, 3) := by decide +kernel
theorem dX12_lays_8 : decode cX12_lays 8 = .ok (.aload_n 1, 1) := by decide +kernel
theorem dX12_lays_9 : decode cX12_lays 9 = .ok (.iload_n 2, 1) := by decide +kernel
theorem dX12_lays_10 : decode cX12_lays 10 = .ok (.aload_n 0, 1) := by decide +kernel
theorem dX12_lays_11 : decode cX12_lays 11 = .ok (.iload_n 2, 1) := by decide +kernel
theorem dX12_lays_12 : decode cX12_lays 12 = .ok (.iaload, 1) := by decide +kernel
theorem dX12_lays_13 : decode cX12_lays 13 = .ok (.iastore, 1) := by decide +kernel
theorem dX12_lays_14 : decode cX12_lays 14 = .ok (.iinc 2 1, 3) := by decide +kernel
theorem dX12_lays_17 : decode cX12_lays 17 = .ok (.goto (-15), 3) := by decide +kernel
theorem dX12_lays_20 : decode cX12_lays 20 = .ok (.return_, 1) := by decide +kernel
set_option maxRecDepth 20000 in
theorem ggX12_begins_X12_lays : GoodIn wsX12_begins wsX12_lays := goodIn_r _ [6] (by decide +kernel) (by decide +kernel)
set_option maxRecDepth 20000 in
theorem gX12_begins_X12_lays : GoodIn wsX12_begins (va_wsS RX12 60 yX12_lays wsX12_lays) := goodIn_app (goodIn_of _ (by decide +kernel)) ggX12_begins_X12_lays
theorem dX12_begins_0 : decode cX12_begins 0 = .ok (.aload_n 0, 1) := by decide +kernel
theorem dX12_begins_1 : decode cX12_begins 1 = .ok (.getfield 9, 3) := by decide +kernel
theorem dX12_begins_4 : decode cX12_begins 4 = .ok (.aload_n 0, 1) := by decide +kernel
theorem dX12_begins_5 : decode cX12_begins 5 = .ok (.getfield 19, 3) := by decide +kernel
theorem dX12_begins_8 : decode cX12_begins 8 = .ok (.invokestatic 60, 3) := by decide +kernel
theorem dX12_begins_11 : decode cX12_begins 11 = .ok (.return_, 1) := by decide +kernel
set_option maxRecDepth 20000 in
theorem ggX12_ends_X12_lays : GoodIn wsX12_ends wsX12_lays := goodIn_r _ [6] (by decide +kernel) (by decide +kernel)
set_option maxRecDepth 20000 in
theorem gX12_ends_X12_lays : GoodIn wsX12_ends (va_wsS RX12 60 yX12_lays wsX12_lays) := goodIn_app (goodIn_of _ (by decide +kernel)) ggX12_ends_X12_lays
theorem dX12_ends_0 : decode cX12_ends 0 = .ok (.aload_n 0, 1) := by decide +kernel
theorem dX12_ends_1 : decode cX12_ends 1 = .ok (.getfield 19, 3) := by decide +kernel
theorem dX12_ends_4 : decode cX12_ends 4 = .ok (.aload_n 0, 1) := by decide +kernel
theorem dX12_ends_5 : decode cX12_ends 5 = .ok (.getfield 9, 3) := by decide +kernel
theorem dX12_ends_8 : decode cX12_ends 8 = .ok (.invokestatic 60, 3) := by decide +kernel
theorem dX12_ends_11 : decode cX12_ends 11 = .ok (.return_, 1) := by decide +kernel
theorem dX12_get_0 : decode cX12_get 0 = .ok (.aload_n 0, 1) := by decide +kernel
theorem dX12_get_1 : decode cX12_get 1 = .ok (.getfield 9, 3) := by decide +kernel
theorem dX12_get_4 : decode cX12_get 4 = .ok (.iconst 2, 1) := by decide +kernel
theorem dX12_get_5 : decode cX12_get 5 = .ok (.iconst 3, 1) := by decide +kernel
theorem dX12_get_6 : decode cX12_get 6 = .ok (.iload_n 1, 1) := by decide +kernel
theorem dX12_get_7 : decode cX12_get 7 = .ok (.imul, 1) := by decide +kernel
theorem dX12_get_8 : decode cX12_get 8 = .ok (.iadd, 1) := by decide +kernel
theorem dX12_get_9 : decode cX12_get 9 = .ok (.iload_n 2, 1) := by decide +kernel
theorem dX12_get_10 : decode cX12_get 10 = .ok (.iadd, 1) := by decide +kernel
theorem dX12_get_11 : decode cX12_get 11 = .ok (.iaload, 1) := by decide +kernel
theorem dX12_get_12 : decode cX12_get 12 = .ok (.ireturn, 1) := by decide +kernel
theorem dX12_puts_0 : decode cX12_puts 0 = .ok (.aload_n 0, 1) := by decide +kernel
theorem dX12_puts_1 : decode cX12_puts 1 = .ok (.getfield 9, 3) := by decide +kernel
theorem dX12_puts_4 : decode cX12_puts 4 = .ok (.iconst 2, 1) := by decide +kernel
theorem dX12_puts_5 : decode cX12_puts 5 = .ok (.iconst 3, 1) := by decide +kernel
theorem dX12_puts_6 : decode cX12_puts 6 = .ok (.iload_n 1, 1) := by decide +kernel
theorem dX12_puts_7 : decode cX12_puts 7 = .ok (.imul, 1) := by decide +kernel
theorem dX12_puts_8 : decode cX12_puts 8 = .ok (.iadd, 1) := by decide +kernel
theorem dX12_puts_9 : decode cX12_puts 9 = .ok (.iload_n 2, 1) := by decide +kernel
theorem dX12_puts_10 : decode cX12_puts 10 = .ok (.iadd, 1) := by decide +kernel
theorem dX12_puts_11 : decode cX12_puts 11 = .ok (.iload_n 3, 1) := by decide +kernel
theorem dX12_puts_12 : decode cX12_puts 12 = .ok (.iastore, 1) := by decide +kernel
theorem dX12_puts_13 : decode cX12_puts 13 = .ok (.return_, 1) := by decide +kernel
set_option maxRecDepth 20000 in
theorem ggX12_kind_X12_get : GoodIn wsX12_kind wsX12_get := goodIn_r _ [5, 6, 7, 8, 9, 10, 11, 12, 13, 14, 15, 16, 17, 18, 19, 20, 21, 22, 23, 24, 25, 26, 27, 28, 29, 30] (by decide +kernel) (by decide +kernel)
set_option maxRecDepth 20000 in
theorem gX12_kind_X12_get : GoodIn wsX12_kind (wsV RX12 64 RX12 yX12_get wsX12_get) := goodIn_app (goodIn_of _ (by decide +kernel)) ggX12_kind_X12_get
theorem dX12_kind_0 : decode cX12_kind 0 = .ok (.aload_n 0, 1) := by decide +kernel
theorem dX12_kind_1 : decode cX12_kind 1 = .ok (.iload_n 1, 1) := by decide +kernel
theorem dX12_kind_2 : decode cX12_kind 2 = .ok (.iconst 0, 1) := by decide +kernel
theorem dX12_kind_3 : decode cX12_kind 3 = .ok (.invokevirtual 64, 3) := by decide +kernel
theorem dX12_kind_6 : decode cX12_kind 6 = .ok (.ireturn, 1) := by decide +kernel
set_option maxRecDepth 20000 in
theorem ggX12_figure_X12_get : GoodIn wsX12_figure wsX12_get := goodIn_r _ [5, 6, 7, 8, 9, 10, 11, 12, 13, 14, 15, 16, 17, 18, 19, 20, 21, 22, 23, 24, 25, 26, 27, 28, 29, 30] (by decide +kernel) (by decide +kernel)
set_option maxRecDepth 20000 in
theorem gX12_figure_X12_get : GoodIn wsX12_figure (wsV RX12 64 RX12 yX12_get wsX12_get) := goodIn_app (goodIn_of _ (by decide +kernel)) ggX12_figure_X12_get
theorem dX12_figure_0 : decode cX12_figure 0 = .ok (.aload_n 0, 1) := by decide +kernel
theorem dX12_figure_1 : decode cX12_figure 1 = .ok (.iload_n 1, 1) := by decide +kernel
theorem dX12_figure_2 : decode cX12_figure 2 = .ok (.iconst 1, 1) := by decide +kernel
theorem dX12_figure_3 : decode cX12_figure 3 = .ok (.invokevirtual 64, 3) := by decide +kernel
theorem dX12_figure_6 : decode cX12_figure 6 = .ok (.ireturn, 1) := by decide +kernel
set_option maxRecDepth 20000 in
theorem ggX12_purse_X12_get : GoodIn wsX12_purse wsX12_get := goodIn_r _ [5, 6, 7, 8, 9, 10, 11, 12, 13, 14, 15, 16, 17, 18, 19, 20, 21, 22, 23, 24, 25, 26, 27, 28, 29, 30] (by decide +kernel) (by decide +kernel)
set_option maxRecDepth 20000 in
theorem gX12_purse_X12_get : GoodIn wsX12_purse (wsV RX12 64 RX12 yX12_get wsX12_get) := goodIn_app (goodIn_of _ (by decide +kernel)) ggX12_purse_X12_get
theorem dX12_purse_0 : decode cX12_purse 0 = .ok (.aload_n 0, 1) := by decide +kernel
theorem dX12_purse_1 : decode cX12_purse 1 = .ok (.iload_n 1, 1) := by decide +kernel
theorem dX12_purse_2 : decode cX12_purse 2 = .ok (.iconst 2, 1) := by decide +kernel
theorem dX12_purse_3 : decode cX12_purse 3 = .ok (.invokevirtual 64, 3) := by decide +kernel
theorem dX12_purse_6 : decode cX12_purse 6 = .ok (.ireturn, 1) := by decide +kernel
set_option maxRecDepth 20000 in
theorem ggX12_coins_X12_purse : GoodIn wsX12_coins wsX12_purse := goodIn_r _ [6, 7, 8, 9, 5, 10, 1, 11, 12, 13, 14, 15, 16, 17, 18, 19, 20, 21, 22, 23, 24, 25, 26, 27, 28, 29, 30, 31, 32, 33, 34] (by decide +kernel) (by decide +kernel)
set_option maxRecDepth 20000 in
theorem gX12_coins_X12_purse : GoodIn wsX12_coins (wsV RX12 68 RX12 yX12_purse wsX12_purse) := goodIn_app (goodIn_of _ (by decide +kernel)) ggX12_coins_X12_purse
theorem dX12_coins_0 : decode cX12_coins 0 = .ok (.iconst 0, 1) := by decide +kernel
theorem dX12_coins_1 : decode cX12_coins 1 = .ok (.istore_n 1, 1) := by decide +kernel
theorem dX12_coins_2 : decode cX12_coins 2 = .ok (.iconst 0, 1) := by decide +kernel
theorem dX12_coins_3 : decode cX12_coins 3 = .ok (.istore_n 2, 1) := by decide +kernel
theorem dX12_coins_4 : decode cX12_coins 4 = .ok (.iload_n 2, 1) := by decide +kernel
theorem dX12_coins_5 : decode cX12_coins 5 = .ok (.aload_n 0, 1) := by decide +kernel
theorem dX12_coins_6 : decode cX12_coins 6 = .ok (.getfield 9, 3) := by decide +kernel
theorem dX12_coins_9 : decode cX12_coins 9 = .ok (.iconst 0, 1) := by decide +kernel
theorem dX12_coins_10 : decode cX12_coins 10 = .ok (.iaload, 1) := by decide +kernel
theorem dX12_coins_11 : decode cX12_coins 11 = .ok (.if_icmp .ge 17, 3) := by decide +kernel
theorem dX12_coins_14 : decode cX12_coins 14 = .ok (.iload_n 1, 1) := by decide +kernel
theorem dX12_coins_15 : decode cX12_coins 15 = .ok (.aload_n 0, 1) := by decide +kernel
theorem dX12_coins_16 : decode cX12_coins 16 = .ok (.iload_n 2, 1) := by decide +kernel
theorem dX12_coins_17 : decode cX12_coins 17 = .ok (.invokevirtual 68, 3) := by decide +kernel
theorem dX12_coins_20 : decode cX12_coins 20 = .ok (.iadd, 1) := by decide +kernel
theorem dX12_coins_21 : decode cX12_coins 21 = .ok (.istore_n 1, 1) := by decide +kernel
theorem dX12_coins_22 : decode cX12_coins 22 = .ok (.iinc 2 1, 3) := by decide +kernel
theorem dX12_coins_25 : decode cX12_coins 25 = .ok (.goto (-21), 3) := by decide +kernel
theorem dX12_coins_28 : decode cX12_coins 28 = .ok (.iload_n 1, 1) := by decide +kernel
theorem dX12_coins_29 : decode cX12_coins 29 = .ok (.ireturn, 1) := by decide +kernel
set_option maxRecDepth 20000 in
theorem ggX12_isLookedAt_X12_kind : GoodIn wsX12_isLookedAt wsX12_kind := goodIn_r _ [5, 6, 7, 8, 4, 9, 10, 11, 12, 13, 14, 15, 16, 17, 18, 19, 20, 21, 22, 23, 24, 25, 26, 27, 28, 29, 30, 31, 32, 33, 34] (by decide +kernel) (by decide +kernel)
set_option maxRecDepth 20000 in
theorem gX12_isLookedAt_X12_kind : GoodIn wsX12_isLookedAt (wsV RX12 72 RX12 yX12_kind wsX12_kind) := goodIn_app (goodIn_of _ (by decide +kernel)) ggX12_isLookedAt_X12_kind
theorem dX12_isLookedAt_0 : decode cX12_isLookedAt 0 = .ok (.aload_n 0, 1) := by decide +kernel
theorem dX12_isLookedAt_1 : decode cX12_isLookedAt 1 = .ok (.iload_n 1, 1) := by decide +kernel
theorem dX12_isLookedAt_2 : decode cX12_isLookedAt 2 = .ok (.invokevirtual 72, 3) := by decide +kernel
theorem dX12_isLookedAt_5 : decode cX12_isLookedAt 5 = .ok (.iconst 3, 1) := by decide +kernel
theorem dX12_isLookedAt_6 : decode cX12_isLookedAt 6 = .ok (.if_icmp .eq 7, 3) := by decide +kernel
theorem dX12_isLookedAt_9 : decode cX12_isLookedAt 9 = .ok (.iconst 1, 1) := by decide +kernel
theorem dX12_isLookedAt_10 : decode cX12_isLookedAt 10 = .ok (.goto 4, 3) := by decide +kernel
theorem dX12_isLookedAt_13 : decode cX12_isLookedAt 13 = .ok (.iconst 0, 1) := by decide +kernel
theorem dX12_isLookedAt_14 : decode cX12_isLookedAt 14 = .ok (.ireturn, 1) := by decide +kernel
set_option maxRecDepth 20000 in
theorem ggX12_shows_X12_purse : GoodIn wsX12_shows wsX12_purse := goodIn_r _ [5, 6, 7, 8, 4, 9, 10, 19, 20, 21, 22, 23, 24, 25, 26, 27, 28, 29, 30, 31, 32, 33, 34, 35, 36, 37, 38, 39, 40, 41, 42] (by decide +kernel) (by decide +kernel)
set_option maxRecDepth 20000 in
theorem gX12_shows_X12_purse : GoodIn wsX12_shows (wsV RX12 68 RX12 yX12_purse wsX12_purse) := goodIn_app (goodIn_of _ (by decide +kernel)) ggX12_shows_X12_purse
set_option maxRecDepth 20000 in
theorem ggX12_shows_X12_kind : GoodIn wsX12_shows wsX12_kind := goodIn_r _ [14, 6, 7, 8, 4, 9, 10, 19, 20, 21, 22, 23, 24, 25, 26, 27, 28, 29, 30, 31, 32, 33, 34, 35, 36, 37, 38, 39, 40, 41, 42] (by decide +kernel) (by decide +kernel)
set_option maxRecDepth 20000 in
theorem gX12_shows_X12_kind : GoodIn wsX12_shows (wsV RX12 72 RX12 yX12_kind wsX12_kind) := goodIn_app (goodIn_of _ (by decide +kernel)) ggX12_shows_X12_kind
set_option maxRecDepth 20000 in
theorem ggX12_shows_X12_figure : GoodIn wsX12_shows wsX12_figure := goodIn_r _ [18, 6, 7, 8, 4, 9, 10, 19, 20, 21, 22, 23, 24, 25, 26, 27, 28, 29, 30, 31, 32, 33, 34, 35, 36, 37, 38, 39, 40, 41, 42] (by decide +kernel) (by decide +kernel)
set_option maxRecDepth 20000 in
theorem gX12_shows_X12_figure : GoodIn wsX12_shows (wsV RX12 75 RX12 yX12_figure wsX12_figure) := goodIn_app (goodIn_of _ (by decide +kernel)) ggX12_shows_X12_figure
theorem dX12_shows_0 : decode cX12_shows 0 = .ok (.aload_n 0, 1) := by decide +kernel
theorem dX12_shows_1 : decode cX12_shows 1 = .ok (.iload_n 1, 1) := by decide +kernel
theorem dX12_shows_2 : decode cX12_shows 2 = .ok (.invokevirtual 68, 3) := by decide +kernel
theorem dX12_shows_5 : decode cX12_shows 5 = .ok (.istore_n 2, 1) := by decide +kernel
theorem dX12_shows_6 : decode cX12_shows 6 = .ok (.aload_n 0, 1) := by decide +kernel
theorem dX12_shows_7 : decode cX12_shows 7 = .ok (.iload_n 1, 1) := by decide +kernel
theorem dX12_shows_8 : decode cX12_shows 8 = .ok (.invokevirtual 72, 3) := by decide +kernel
theorem dX12_shows_11 : decode cX12_shows 11 = .ok (.tableswitch 55 2 5 #[29, 55, 37, 41], 29) := by decide +kernel
theorem dX12_shows_40 : decode cX12_shows 40 = .ok (.bipush 9, 2) := by decide +kernel
theorem dX12_shows_42 : decode cX12_shows 42 = .ok (.iload_n 2, 1) := by decide +kernel
theorem dX12_shows_43 : decode cX12_shows 43 = .ok (.imul, 1) := by decide +kernel
theorem dX12_shows_44 : decode cX12_shows 44 = .ok (.bipush 10, 2) := by decide +kernel
theorem dX12_shows_46 : decode cX12_shows 46 = .ok (.idiv, 1) := by decide +kernel
theorem dX12_shows_47 : decode cX12_shows 47 = .ok (.ireturn, 1) := by decide +kernel
theorem dX12_shows_48 : decode cX12_shows 48 = .ok (.iload_n 2, 1) := by decide +kernel
theorem dX12_shows_49 : decode cX12_shows 49 = .ok (.iconst 2, 1) := by decide +kernel
theorem dX12_shows_50 : decode cX12_shows 50 = .ok (.idiv, 1) := by decide +kernel
theorem dX12_shows_51 : decode cX12_shows 51 = .ok (.ireturn, 1) := by decide +kernel
theorem dX12_shows_52 : decode cX12_shows 52 = .ok (.bipush 9, 2) := by decide +kernel
theorem dX12_shows_54 : decode cX12_shows 54 = .ok (.iload_n 2, 1) := by decide +kernel
theorem dX12_shows_55 : decode cX12_shows 55 = .ok (.imul, 1) := by decide +kernel
theorem dX12_shows_56 : decode cX12_shows 56 = .ok (.bipush 10, 2) := by decide +kernel
theorem dX12_shows_58 : decode cX12_shows 58 = .ok (.idiv, 1) := by decide +kernel
theorem dX12_shows_59 : decode cX12_shows 59 = .ok (.aload_n 0, 1) := by decide +kernel
theorem dX12_shows_60 : decode cX12_shows 60 = .ok (.iload_n 1, 1) := by decide +kernel
theorem dX12_shows_61 : decode cX12_shows 61 = .ok (.invokevirtual 75, 3) := by decide +kernel
theorem dX12_shows_64 : decode cX12_shows 64 = .ok (.iadd, 1) := by decide +kernel
theorem dX12_shows_65 : decode cX12_shows 65 = .ok (.ireturn, 1) := by decide +kernel
theorem dX12_shows_66 : decode cX12_shows 66 = .ok (.iload_n 2, 1) := by decide +kernel
theorem dX12_shows_67 : decode cX12_shows 67 = .ok (.ireturn, 1) := by decide +kernel
set_option maxRecDepth 20000 in
theorem ggX12_mayHave_X12_figure : GoodIn wsX12_mayHave wsX12_figure := goodIn_r _ [5, 6, 7, 8, 4, 9, 10, 15, 16, 17, 18, 19, 20, 21, 22, 23, 24, 25, 26, 27, 28, 29, 30, 31, 32, 33, 34, 35, 36, 37, 38] (by decide +kernel) (by decide +kernel)
set_option maxRecDepth 20000 in
theorem gX12_mayHave_X12_figure : GoodIn wsX12_mayHave (wsV RX12 75 RX12 yX12_figure wsX12_figure) := goodIn_app (goodIn_of _ (by decide +kernel)) ggX12_mayHave_X12_figure
set_option maxRecDepth 20000 in
theorem ggX12_mayHave_X12_kind : GoodIn wsX12_mayHave wsX12_kind := goodIn_r _ [14, 6, 7, 8, 4, 9, 10, 15, 16, 17, 18, 19, 20, 21, 22, 23, 24, 25, 26, 27, 28, 29, 30, 31, 32, 33, 34, 35, 36, 37, 38] (by decide +kernel) (by decide +kernel)
set_option maxRecDepth 20000 in
theorem gX12_mayHave_X12_kind : GoodIn wsX12_mayHave (wsV RX12 72 RX12 yX12_kind wsX12_kind) := goodIn_app (goodIn_of _ (by decide +kernel)) ggX12_mayHave_X12_kind
theorem dX12_mayHave_0 : decode cX12_mayHave 0 = .ok (.aload_n 0, 1) := by decide +kernel
theorem dX12_mayHave_1 : decode cX12_mayHave 1 = .ok (.iload_n 1, 1) := by decide +kernel
theorem dX12_mayHave_2 : decode cX12_mayHave 2 = .ok (.invokevirtual 75, 3) := by decide +kernel
theorem dX12_mayHave_5 : decode cX12_mayHave 5 = .ok (.istore_n 3, 1) := by decide +kernel
theorem dX12_mayHave_6 : decode cX12_mayHave 6 = .ok (.aload_n 0, 1) := by decide +kernel
theorem dX12_mayHave_7 : decode cX12_mayHave 7 = .ok (.iload_n 1, 1) := by decide +kernel
theorem dX12_mayHave_8 : decode cX12_mayHave 8 = .ok (.invokevirtual 72, 3) := by decide +kernel
theorem dX12_mayHave_11 : decode cX12_mayHave 11 = .ok (.tableswitch 80 1 7 #[41, 80, 47, 51, 80, 72, 47], 41) := by decide +kernel
theorem dX12_mayHave_52 : decode cX12_mayHave 52 = .ok (.iconst 2, 1) := by decide +kernel
theorem dX12_mayHave_53 : decode cX12_mayHave 53 = .ok (.iload_n 2, 1) := by decide +kernel
theorem dX12_mayHave_54 : decode cX12_mayHave 54 = .ok (.imul, 1) := by decide +kernel
theorem dX12_mayHave_55 : decode cX12_mayHave 55 = .ok (.iload_n 3, 1) := by decide +kernel
theorem dX12_mayHave_56 : decode cX12_mayHave 56 = .ok (.iadd, 1) := by decide +kernel
theorem dX12_mayHave_57 : decode cX12_mayHave 57 = .ok (.ireturn, 1) := by decide +kernel
theorem dX12_mayHave_58 : decode cX12_mayHave 58 = .ok (.sipush 9999, 3) := by decide +kernel
theorem dX12_mayHave_61 : decode cX12_mayHave 61 = .ok (.ireturn, 1) := by decide +kernel
theorem dX12_mayHave_62 : decode cX12_mayHave 62 = .ok (.iconst 2, 1) := by decide +kernel
theorem dX12_mayHave_63 : decode cX12_mayHave 63 = .ok (.iload_n 2, 1) := by decide +kernel
theorem dX12_mayHave_64 : decode cX12_mayHave 64 = .ok (.imul, 1) := by decide +kernel
theorem dX12_mayHave_65 : decode cX12_mayHave 65 = .ok (.iload_n 3, 1) := by decide +kernel
theorem dX12_mayHave_66 : decode cX12_mayHave 66 = .ok (.iadd, 1) := by decide +kernel
theorem dX12_mayHave_67 : decode cX12_mayHave 67 = .ok (.iconst 1, 1) := by decide +kernel
theorem dX12_mayHave_68 : decode cX12_mayHave 68 = .ok (.if_icmp .ge 7, 3) := by decide +kernel
theorem dX12_mayHave_71 : decode cX12_mayHave 71 = .ok (.iconst 0, 1) := by decide +kernel
theorem dX12_mayHave_72 : decode cX12_mayHave 72 = .ok (.goto 10, 3) := by decide +kernel
theorem dX12_mayHave_75 : decode cX12_mayHave 75 = .ok (.iconst 2, 1) := by decide +kernel
theorem dX12_mayHave_76 : decode cX12_mayHave 76 = .ok (.iload_n 2, 1) := by decide +kernel
theorem dX12_mayHave_77 : decode cX12_mayHave 77 = .ok (.imul, 1) := by decide +kernel
theorem dX12_mayHave_78 : decode cX12_mayHave 78 = .ok (.iload_n 3, 1) := by decide +kernel
theorem dX12_mayHave_79 : decode cX12_mayHave 79 = .ok (.iadd, 1) := by decide +kernel
theorem dX12_mayHave_80 : decode cX12_mayHave 80 = .ok (.iconst 1, 1) := by decide +kernel
theorem dX12_mayHave_81 : decode cX12_mayHave 81 = .ok (.isub, 1) := by decide +kernel
theorem dX12_mayHave_82 : decode cX12_mayHave 82 = .ok (.ireturn, 1) := by decide +kernel
theorem dX12_mayHave_83 : decode cX12_mayHave 83 = .ok (.iconst 4, 1) := by decide +kernel
theorem dX12_mayHave_84 : decode cX12_mayHave 84 = .ok (.iload_n 2, 1) := by decide +kernel
theorem dX12_mayHave_85 : decode cX12_mayHave 85 = .ok (.imul, 1) := by decide +kernel
theorem dX12_mayHave_86 : decode cX12_mayHave 86 = .ok (.iconst 2, 1) := by decide +kernel
theorem dX12_mayHave_87 : decode cX12_mayHave 87 = .ok (.iload_n 3, 1) := by decide +kernel
theorem dX12_mayHave_88 : decode cX12_mayHave 88 = .ok (.imul, 1) := by decide +kernel
theorem dX12_mayHave_89 : decode cX12_mayHave 89 = .ok (.iadd, 1) := by decide +kernel
theorem dX12_mayHave_90 : decode cX12_mayHave 90 = .ok (.ireturn, 1) := by decide +kernel
theorem dX12_mayHave_91 : decode cX12_mayHave 91 = .ok (.iconst 2, 1) := by decide +kernel
theorem dX12_mayHave_92 : decode cX12_mayHave 92 = .ok (.iload_n 2, 1) := by decide +kernel
theorem dX12_mayHave_93 : decode cX12_mayHave 93 = .ok (.imul, 1) := by decide +kernel
theorem dX12_mayHave_94 : decode cX12_mayHave 94 = .ok (.ireturn, 1) := by decide +kernel
theorem dX12_earnsBy_0 : decode cX12_earnsBy 0 = .ok (.iload_n 0, 1) := by decide +kernel
theorem dX12_earnsBy_1 : decode cX12_earnsBy 1 = .ok (.tableswitch 63 1 7 #[43, 47, 49, 51, 49, 55, 61], 43) := by decide +kernel
theorem dX12_earnsBy_44 : decode cX12_earnsBy 44 = .ok (.iconst 2, 1) := by decide +kernel
theorem dX12_earnsBy_45 : decode cX12_earnsBy 45 = .ok (.iload_n 1, 1) := by decide +kernel
theorem dX12_earnsBy_46 : decode cX12_earnsBy 46 = .ok (.iadd, 1) := by decide +kernel
theorem dX12_earnsBy_47 : decode cX12_earnsBy 47 = .ok (.ireturn, 1) := by decide +kernel
theorem dX12_earnsBy_48 : decode cX12_earnsBy 48 = .ok (.iconst 1, 1) := by decide +kernel
theorem dX12_earnsBy_49 : decode cX12_earnsBy 49 = .ok (.ireturn, 1) := by decide +kernel
theorem dX12_earnsBy_50 : decode cX12_earnsBy 50 = .ok (.iconst 0, 1) := by decide +kernel
theorem dX12_earnsBy_51 : decode cX12_earnsBy 51 = .ok (.ireturn, 1) := by decide +kernel
theorem dX12_earnsBy_52 : decode cX12_earnsBy 52 = .ok (.iconst 1, 1) := by decide +kernel
theorem dX12_earnsBy_53 : decode cX12_earnsBy 53 = .ok (.iload_n 1, 1) := by decide +kernel
theorem dX12_earnsBy_54 : decode cX12_earnsBy 54 = .ok (.iadd, 1) := by decide +kernel
theorem dX12_earnsBy_55 : decode cX12_earnsBy 55 = .ok (.ireturn, 1) := by decide +kernel
theorem dX12_earnsBy_56 : decode cX12_earnsBy 56 = .ok (.iconst 4, 1) := by decide +kernel
theorem dX12_earnsBy_57 : decode cX12_earnsBy 57 = .ok (.iconst 2, 1) := by decide +kernel
theorem dX12_earnsBy_58 : decode cX12_earnsBy 58 = .ok (.iload_n 1, 1) := by decide +kernel
theorem dX12_earnsBy_59 : decode cX12_earnsBy 59 = .ok (.imul, 1) := by decide +kernel
theorem dX12_earnsBy_60 : decode cX12_earnsBy 60 = .ok (.iadd, 1) := by decide +kernel
theorem dX12_earnsBy_61 : decode cX12_earnsBy 61 = .ok (.ireturn, 1) := by decide +kernel
theorem dX12_earnsBy_62 : decode cX12_earnsBy 62 = .ok (.iload_n 1, 1) := by decide +kernel
theorem dX12_earnsBy_63 : decode cX12_earnsBy 63 = .ok (.ireturn, 1) := by decide +kernel
theorem dX12_earnsBy_64 : decode cX12_earnsBy 64 = .ok (.iconst 2, 1) := by decide +kernel
theorem dX12_earnsBy_65 : decode cX12_earnsBy 65 = .ok (.ireturn, 1) := by decide +kernel
set_option maxRecDepth 20000 in
theorem ggX12_beside_X12_isHouse : GoodIn wsX12_beside wsX12_isHouse := goodIn_r _ [6, 1, 7, 8, 5, 9, 10, 11, 12, 13, 14, 15, 16, 17, 18, 19, 20, 21, 22, 23, 24, 25, 26, 27, 28, 29, 30, 31, 32, 33] (by decide +kernel) (by decide +kernel)
set_option maxRecDepth 20000 in
theorem gX12_beside_X12_isHouse : GoodIn wsX12_beside (wsV RX12 56 RX12 yX12_isHouse wsX12_isHouse) := goodIn_app (goodIn_of _ (by decide +kernel)) ggX12_beside_X12_isHouse
theorem dX12_beside_0 : decode cX12_beside 0 = .ok (.aload_n 0, 1) := by decide +kernel
theorem dX12_beside_1 : decode cX12_beside 1 = .ok (.getfield 9, 3) := by decide +kernel
theorem dX12_beside_4 : decode cX12_beside 4 = .ok (.iconst 0, 1) := by decide +kernel
theorem dX12_beside_5 : decode cX12_beside 5 = .ok (.iaload, 1) := by decide +kernel
theorem dX12_beside_6 : decode cX12_beside 6 = .ok (.istore_n 3, 1) := by decide +kernel
theorem dX12_beside_7 : decode cX12_beside 7 = .ok (.iload_n 2, 1) := by decide +kernel
theorem dX12_beside_8 : decode cX12_beside 8 = .ok (.ifCond .ne 9, 3) := by decide +kernel
theorem dX12_beside_11 : decode cX12_beside 11 = .ok (.iload_n 1, 1) := by decide +kernel
theorem dX12_beside_12 : decode cX12_beside 12 = .ok (.iconst 1, 1) := by decide +kernel
theorem dX12_beside_13 : decode cX12_beside 13 = .ok (.isub, 1) := by decide +kernel
theorem dX12_beside_14 : decode cX12_beside 14 = .ok (.goto 6, 3) := by decide +kernel
theorem dX12_beside_17 : decode cX12_beside 17 = .ok (.iload_n 1, 1) := by decide +kernel
theorem dX12_beside_18 : decode cX12_beside 18 = .ok (.iconst 1, 1) := by decide +kernel
theorem dX12_beside_19 : decode cX12_beside 19 = .ok (.iadd, 1) := by decide +kernel
theorem dX12_beside_20 : decode cX12_beside 20 = .ok (.istore 4, 2) := by decide +kernel
theorem dX12_beside_22 : decode cX12_beside 22 = .ok (.aload_n 0, 1) := by decide +kernel
theorem dX12_beside_23 : decode cX12_beside 23 = .ok (.iload 4, 2) := by decide +kernel
theorem dX12_beside_25 : decode cX12_beside 25 = .ok (.invokevirtual 56, 3) := by decide +kernel
theorem dX12_beside_28 : decode cX12_beside 28 = .ok (.ifCond .eq 6, 3) := by decide +kernel
theorem dX12_beside_31 : decode cX12_beside 31 = .ok (.iload 4, 2) := by decide +kernel
theorem dX12_beside_33 : decode cX12_beside 33 = .ok (.ireturn, 1) := by decide +kernel
theorem dX12_beside_34 : decode cX12_beside 34 = .ok (.aload_n 0, 1) := by decide +kernel
theorem dX12_beside_35 : decode cX12_beside 35 = .ok (.getfield 9, 3) := by decide +kernel
theorem dX12_beside_38 : decode cX12_beside 38 = .ok (.iconst 1, 1) := by decide +kernel
theorem dX12_beside_39 : decode cX12_beside 39 = .ok (.iaload, 1) := by decide +kernel
theorem dX12_beside_40 : decode cX12_beside 40 = .ok (.iconst 1, 1) := by decide +kernel
theorem dX12_beside_41 : decode cX12_beside 41 = .ok (.if_icmp .ne 17, 3) := by decide +kernel
theorem dX12_beside_44 : decode cX12_beside 44 = .ok (.iload_n 3, 1) := by decide +kernel
theorem dX12_beside_45 : decode cX12_beside 45 = .ok (.iconst 3, 1) := by decide +kernel
theorem dX12_beside_46 : decode cX12_beside 46 = .ok (.if_icmp .lt 12, 3) := by decide +kernel
theorem dX12_beside_49 : decode cX12_beside 49 = .ok (.iload 4, 2) := by decide +kernel
theorem dX12_beside_51 : decode cX12_beside 51 = .ok (.iload_n 3, 1) := by decide +kernel
theorem dX12_beside_52 : decode cX12_beside 52 = .ok (.iadd, 1) := by decide +kernel
theorem dX12_beside_53 : decode cX12_beside 53 = .ok (.iload_n 3, 1) := by decide +kernel
theorem dX12_beside_54 : decode cX12_beside 54 = .ok (.irem, 1) := by decide +kernel
theorem dX12_beside_55 : decode cX12_beside 55 = .ok (.goto 5, 3) := by decide +kernel
theorem dX12_beside_58 : decode cX12_beside 58 = .ok (.bipush (-4), 2) := by decide +kernel
theorem dX12_beside_60 : decode cX12_beside 60 = .ok (.ireturn, 1) := by decide +kernel
set_option maxRecDepth 20000 in
theorem ggX12_tooMuchBy_X12_beside : GoodIn wsX12_tooMuchBy wsX12_beside := goodIn_r _ [5, 6, 7, 8, 9, 4, 10, 11, 12, 13, 42, 43, 44, 45, 46, 47, 48, 49, 50, 51, 52, 53, 54, 55, 56, 57, 58, 59, 60, 61, 62, 63, 64, 65] (by decide +kernel) (by decide +kernel)
set_option maxRecDepth 20000 in
theorem gX12_tooMuchBy_X12_beside : GoodIn wsX12_tooMuchBy (wsV RX12 78 RX12 yX12_beside wsX12_beside) := goodIn_app (goodIn_of _ (by decide +kernel)) ggX12_tooMuchBy_X12_beside
set_option maxRecDepth 20000 in
theorem ggX12_tooMuchBy_X12_isLookedAt : GoodIn wsX12_tooMuchBy wsX12_isLookedAt := goodIn_r _ [17, 18, 19, 20, 4, 21, 22, 23, 24, 25, 6, 42, 43, 44, 45, 46, 47, 48, 49, 50, 51, 52, 53, 54, 55, 56, 57, 58, 59, 60, 61, 62, 63, 64, 65] (by decide +kernel) (by decide +kernel)
set_option maxRecDepth 20000 in
theorem gX12_tooMuchBy_X12_isLookedAt : GoodIn wsX12_tooMuchBy (wsV RX12 81 RX12 yX12_isLookedAt wsX12_isLookedAt) := goodIn_app (goodIn_of _ (by decide +kernel)) ggX12_tooMuchBy_X12_isLookedAt
set_option maxRecDepth 20000 in
theorem ggX12_tooMuchBy_X12_shows : GoodIn wsX12_tooMuchBy wsX12_shows := goodIn_r _ [29, 30, 31, 32, 4, 33, 22, 23, 24, 25, 6, 18, 19, 20, 21, 34, 35, 36, 37, 42, 43, 44, 45, 46, 47, 48, 49, 50, 51, 52, 53, 54, 55, 56, 57, 58, 59, 60, 61, 62, 63, 64, 65] (by decide +kernel) (by decide +kernel)
set_option maxRecDepth 20000 in
theorem gX12_tooMuchBy_X12_shows : GoodIn wsX12_tooMuchBy (wsV RX12 84 RX12 yX12_shows wsX12_shows) := goodIn_app (goodIn_of _ (by decide +kernel)) ggX12_tooMuchBy_X12_shows
set_option maxRecDepth 20000 in
theorem ggX12_tooMuchBy_X12_mayHave : GoodIn wsX12_tooMuchBy wsX12_mayHave := goodIn_r _ [41, 34, 35, 36, 4, 37, 22, 23, 24, 25, 6, 18, 19, 20, 21, 42, 43, 44, 45, 46, 47, 48, 49, 50, 51, 52, 53, 54, 55, 56, 57, 58, 59, 60, 61, 62, 63, 64, 65] (by decide +kernel) (by decide +kernel)
set_option maxRecDepth 20000 in
theorem gX12_tooMuchBy_X12_mayHave : GoodIn wsX12_tooMuchBy (wsV RX12 87 RX12 yX12_mayHave wsX12_mayHave) := goodIn_app (goodIn_of _ (by decide +kernel)) ggX12_tooMuchBy_X12_mayHave
theorem dX12_tooMuchBy_0 : decode cX12_tooMuchBy 0 = .ok (.iconst 0, 1) := by decide +kernel
theorem dX12_tooMuchBy_1 : decode cX12_tooMuchBy 1 = .ok (.istore_n 3, 1) := by decide +kernel
theorem dX12_tooMuchBy_2 : decode cX12_tooMuchBy 2 = .ok (.iconst 0, 1) := by decide +kernel
theorem dX12_tooMuchBy_3 : decode cX12_tooMuchBy 3 = .ok (.istore 4, 2) := by decide +kernel
theorem dX12_tooMuchBy_5 : decode cX12_tooMuchBy 5 = .ok (.iload 4, 2) := by decide +kernel
theorem dX12_tooMuchBy_7 : decode cX12_tooMuchBy 7 = .ok (.iconst 2, 1) := by decide +kernel
theorem dX12_tooMuchBy_8 : decode cX12_tooMuchBy 8 = .ok (.if_icmp .ge 54, 3) := by decide +kernel
theorem dX12_tooMuchBy_11 : decode cX12_tooMuchBy 11 = .ok (.aload_n 0, 1) := by decide +kernel
theorem dX12_tooMuchBy_12 : decode cX12_tooMuchBy 12 = .ok (.iload_n 1, 1) := by decide +kernel
theorem dX12_tooMuchBy_13 : decode cX12_tooMuchBy 13 = .ok (.iload 4, 2) := by decide +kernel
theorem dX12_tooMuchBy_15 : decode cX12_tooMuchBy 15 = .ok (.invokevirtual 78, 3) := by decide +kernel
theorem dX12_tooMuchBy_18 : decode cX12_tooMuchBy 18 = .ok (.istore 5, 2) := by decide +kernel
theorem dX12_tooMuchBy_20 : decode cX12_tooMuchBy 20 = .ok (.iload 5, 2) := by decide +kernel
theorem dX12_tooMuchBy_22 : decode cX12_tooMuchBy 22 = .ok (.ifCond .lt 34, 3) := by decide +kernel
theorem dX12_tooMuchBy_25 : decode cX12_tooMuchBy 25 = .ok (.aload_n 0, 1) := by decide +kernel
theorem dX12_tooMuchBy_26 : decode cX12_tooMuchBy 26 = .ok (.iload 5, 2) := by decide +kernel
theorem dX12_tooMuchBy_28 : decode cX12_tooMuchBy 28 = .ok (.invokevirtual 81, 3) := by decide +kernel
theorem dX12_tooMuchBy_31 : decode cX12_tooMuchBy 31 = .ok (.ifCond .eq 25, 3) := by decide +kernel
theorem dX12_tooMuchBy_34 : decode cX12_tooMuchBy 34 = .ok (.iload_n 2, 1) := by decide +kernel
theorem dX12_tooMuchBy_35 : decode cX12_tooMuchBy 35 = .ok (.aload_n 0, 1) := by decide +kernel
theorem dX12_tooMuchBy_36 : decode cX12_tooMuchBy 36 = .ok (.iload_n 1, 1) := by decide +kernel
theorem dX12_tooMuchBy_37 : decode cX12_tooMuchBy 37 = .ok (.aload_n 0, 1) := by decide +kernel
theorem dX12_tooMuchBy_38 : decode cX12_tooMuchBy 38 = .ok (.iload 5, 2) := by decide +kernel
theorem dX12_tooMuchBy_40 : decode cX12_tooMuchBy 40 = .ok (.invokevirtual 84, 3) := by decide +kernel
theorem dX12_tooMuchBy_43 : decode cX12_tooMuchBy 43 = .ok (.invokevirtual 87, 3) := by decide +kernel
theorem dX12_tooMuchBy_46 : decode cX12_tooMuchBy 46 = .ok (.if_icmp .le 10, 3) := by decide +kernel
theorem dX12_tooMuchBy_49 : decode cX12_tooMuchBy 49 = .ok (.iload_n 3, 1) := by decide +kernel
theorem dX12_tooMuchBy_50 : decode cX12_tooMuchBy 50 = .ok (.iconst 1, 1) := by decide +kernel
theorem dX12_tooMuchBy_51 : decode cX12_tooMuchBy 51 = .ok (.iload 5, 2) := by decide +kernel
theorem dX12_tooMuchBy_53 : decode cX12_tooMuchBy 53 = .ok (.ishl, 1) := by decide +kernel
theorem dX12_tooMuchBy_54 : decode cX12_tooMuchBy 54 = .ok (.ior, 1) := by decide +kernel
theorem dX12_tooMuchBy_55 : decode cX12_tooMuchBy 55 = .ok (.istore_n 3, 1) := by decide +kernel
theorem dX12_tooMuchBy_56 : decode cX12_tooMuchBy 56 = .ok (.iinc 4 1, 3) := by decide +kernel
theorem dX12_tooMuchBy_59 : decode cX12_tooMuchBy 59 = .ok (.goto (-54), 3) := by decide +kernel
theorem dX12_tooMuchBy_62 : decode cX12_tooMuchBy 62 = .ok (.iload_n 3, 1) := by decide +kernel
theorem dX12_tooMuchBy_63 : decode cX12_tooMuchBy 63 = .ok (.ireturn, 1) := by decide +kernel
theorem dX12_bits_0 : decode cX12_bits 0 = .ok (.iconst 0, 1) := by decide +kernel
theorem dX12_bits_1 : decode cX12_bits 1 = .ok (.istore_n 1, 1) := by decide +kernel
theorem dX12_bits_2 : decode cX12_bits 2 = .ok (.iload_n 0, 1) := by decide +kernel
theorem dX12_bits_3 : decode cX12_bits 3 = .ok (.istore_n 2, 1) := by decide +kernel
theorem dX12_bits_4 : decode cX12_bits 4 = .ok (.iload_n 2, 1) := by decide +kernel
theorem dX12_bits_5 : decode cX12_bits 5 = .ok (.ifCond .le 16, 3) := by decide +kernel
theorem dX12_bits_8 : decode cX12_bits 8 = .ok (.iload_n 1, 1) := by decide +kernel
theorem dX12_bits_9 : decode cX12_bits 9 = .ok (.iload_n 2, 1) := by decide +kernel
theorem dX12_bits_10 : decode cX12_bits 10 = .ok (.iconst 1, 1) := by decide +kernel
theorem dX12_bits_11 : decode cX12_bits 11 = .ok (.iand, 1) := by decide +kernel
theorem dX12_bits_12 : decode cX12_bits 12 = .ok (.iadd, 1) := by decide +kernel
theorem dX12_bits_13 : decode cX12_bits 13 = .ok (.istore_n 1, 1) := by decide +kernel
theorem dX12_bits_14 : decode cX12_bits 14 = .ok (.iload_n 2, 1) := by decide +kernel
theorem dX12_bits_15 : decode cX12_bits 15 = .ok (.iconst 1, 1) := by decide +kernel
theorem dX12_bits_16 : decode cX12_bits 16 = .ok (.ishr, 1) := by decide +kernel
theorem dX12_bits_17 : decode cX12_bits 17 = .ok (.istore_n 2, 1) := by decide +kernel
theorem dX12_bits_18 : decode cX12_bits 18 = .ok (.goto (-14), 3) := by decide +kernel
theorem dX12_bits_21 : decode cX12_bits 21 = .ok (.iload_n 1, 1) := by decide +kernel
theorem dX12_bits_22 : decode cX12_bits 22 = .ok (.ireturn, 1) := by decide +kernel
set_option maxRecDepth 20000 in
theorem ggX12_breachesOf_X12_purse : GoodIn wsX12_breachesOf wsX12_purse := goodIn_r _ [5, 6, 7, 8, 4, 9, 10, 49, 50, 51, 52, 53, 54, 55, 56, 57, 58, 59, 60, 61, 62, 63, 64, 65, 66, 67, 68, 69, 70, 71, 72] (by decide +kernel) (by decide +kernel)
set_option maxRecDepth 20000 in
theorem gX12_breachesOf_X12_purse : GoodIn wsX12_breachesOf (wsV RX12 68 RX12 yX12_purse wsX12_purse) := goodIn_app (goodIn_of _ (by decide +kernel)) ggX12_breachesOf_X12_purse
set_option maxRecDepth 20000 in
theorem ggX12_breachesOf_X12_tooMuchBy : GoodIn wsX12_breachesOf wsX12_tooMuchBy := goodIn_r _ [14, 15, 16, 17, 4, 18, 10, 19, 20, 21, 22, 23, 24, 25, 26, 27, 28, 29, 30, 31, 32, 33, 6, 7, 8, 9, 34, 35, 36, 37, 1, 2, 3, 5, 38, 39, 40, 41, 42, 43, 44, 45, 49, 50, 51, 52, 53, 54, 55, 56, 57, 58, 59, 60, 61, 62, 63, 64, 65, 66, 67, 68, 69, 70, 71, 72] (by decide +kernel) (by decide +kernel)
set_option maxRecDepth 20000 in
theorem gX12_breachesOf_X12_tooMuchBy : GoodIn wsX12_breachesOf (wsV RX12 90 RX12 yX12_tooMuchBy wsX12_tooMuchBy) := goodIn_app (goodIn_of _ (by decide +kernel)) ggX12_breachesOf_X12_tooMuchBy
set_option maxRecDepth 20000 in
theorem ggX12_breachesOf_X12_bits : GoodIn wsX12_breachesOf wsX12_bits := goodIn_r _ [48] (by decide +kernel) (by decide +kernel)
set_option maxRecDepth 20000 in
theorem gX12_breachesOf_X12_bits : GoodIn wsX12_breachesOf (va_wsS RX12 93 yX12_bits wsX12_bits) := goodIn_app (goodIn_of _ (by decide +kernel)) ggX12_breachesOf_X12_bits
theorem dX12_breachesOf_0 : decode cX12_breachesOf 0 = .ok (.aload_n 0, 1) := by decide +kernel
theorem dX12_breachesOf_1 : decode cX12_breachesOf 1 = .ok (.iload_n 1, 1) := by decide +kernel
theorem dX12_breachesOf_2 : decode cX12_breachesOf 2 = .ok (.aload_n 0, 1) := by decide +kernel
theorem dX12_breachesOf_3 : decode cX12_breachesOf 3 = .ok (.iload_n 1, 1) := by decide +kernel
theorem dX12_breachesOf_4 : decode cX12_breachesOf 4 = .ok (.invokevirtual 68, 3) := by decide +kernel
theorem dX12_breachesOf_7 : decode cX12_breachesOf 7 = .ok (.invokevirtual 90, 3) := by decide +kernel
theorem dX12_breachesOf_10 : decode cX12_breachesOf 10 = .ok (.invokestatic 93, 3) := by decide +kernel
theorem dX12_breachesOf_13 : decode cX12_breachesOf 13 = .ok (.ireturn, 1) := by decide +kernel
set_option maxRecDepth 20000 in
theorem ggX12_breachesAll_X12_breachesOf : GoodIn wsX12_breachesAll wsX12_breachesOf := goodIn_r _ [6, 7, 8, 9, 5, 10, 11, 12, 13, 14, 1, 15, 16, 17, 18, 19, 20, 21, 22, 23, 24, 25, 26, 27, 28, 29, 30, 31, 32, 33, 34, 35, 36, 37, 38, 39, 40, 41, 42, 43, 44, 45, 46, 47, 48, 49, 50, 51, 52, 53, 54, 55, 56, 57, 58, 59, 60, 61, 62, 63, 64, 65, 66, 67, 68, 69, 70, 71, 72, 73, 74, 75, 76] (by decide +kernel) (by decide +kernel)
set_option maxRecDepth 20000 in
theorem gX12_breachesAll_X12_breachesOf : GoodIn wsX12_breachesAll (wsV RX12 96 RX12 yX12_breachesOf wsX12_breachesOf) := goodIn_app (goodIn_of _ (by decide +kernel)) ggX12_breachesAll_X12_breachesOf
theorem dX12_breachesAll_0 : decode cX12_breachesAll 0 = .ok (.iconst 0, 1) := by decide +kernel
theorem dX12_breachesAll_1 : decode cX12_breachesAll 1 = .ok (.istore_n 1, 1) := by decide +kernel
theorem dX12_breachesAll_2 : decode cX12_breachesAll 2 = .ok (.iconst 0, 1) := by decide +kernel
theorem dX12_breachesAll_3 : decode cX12_breachesAll 3 = .ok (.istore_n 2, 1) := by decide +kernel
theorem dX12_breachesAll_4 : decode cX12_breachesAll 4 = .ok (.iload_n 2, 1) := by decide +kernel
theorem dX12_breachesAll_5 : decode cX12_breachesAll 5 = .ok (.aload_n 0, 1) := by decide +kernel
theorem dX12_breachesAll_6 : decode cX12_breachesAll 6 = .ok (.getfield 9, 3) := by decide +kernel
theorem dX12_breachesAll_9 : decode cX12_breachesAll 9 = .ok (.iconst 0, 1) := by decide +kernel
theorem dX12_breachesAll_10 : decode cX12_breachesAll 10 = .ok (.iaload, 1) := by decide +kernel
theorem dX12_breachesAll_11 : decode cX12_breachesAll 11 = .ok (.if_icmp .ge 17, 3) := by decide +kernel
theorem dX12_breachesAll_14 : decode cX12_breachesAll 14 = .ok (.iload_n 1, 1) := by decide +kernel
theorem dX12_breachesAll_15 : decode cX12_breachesAll 15 = .ok (.aload_n 0, 1) := by decide +kernel
theorem dX12_breachesAll_16 : decode cX12_breachesAll 16 = .ok (.iload_n 2, 1) := by decide +kernel
theorem dX12_breachesAll_17 : decode cX12_breachesAll 17 = .ok (.invokevirtual 96, 3) := by decide +kernel
theorem dX12_breachesAll_20 : decode cX12_breachesAll 20 = .ok (.iadd, 1) := by decide +kernel
theorem dX12_breachesAll_21 : decode cX12_breachesAll 21 = .ok (.istore_n 1, 1) := by decide +kernel
theorem dX12_breachesAll_22 : decode cX12_breachesAll 22 = .ok (.iinc 2 1, 3) := by decide +kernel
theorem dX12_breachesAll_25 : decode cX12_breachesAll 25 = .ok (.goto (-21), 3) := by decide +kernel
theorem dX12_breachesAll_28 : decode cX12_breachesAll 28 = .ok (.iload_n 1, 1) := by decide +kernel
theorem dX12_breachesAll_29 : decode cX12_breachesAll 29 = .ok (.ireturn, 1) := by decide +kernel
set_option maxRecDepth 20000 in
theorem ggX12_isLawful_X12_breachesAll : GoodIn wsX12_isLawful wsX12_breachesAll := goodIn_r _ [5, 6, 7, 8, 9, 4, 10, 11, 12, 13, 14, 15, 16, 17, 18, 19, 20, 21, 22, 23, 24, 25, 26, 27, 28, 29, 30, 31, 32, 33, 34, 35, 36, 37, 38, 39, 40, 41, 42, 43, 44, 45, 46, 47, 48, 49, 50, 51, 52, 53, 54, 55, 56, 57, 58, 59, 60, 61, 62, 63, 64, 65, 66, 67, 68, 69, 70, 71, 72, 73, 74, 75, 76, 77, 78, 79, 80] (by decide +kernel) (by decide +kernel)
set_option maxRecDepth 20000 in
theorem gX12_isLawful_X12_breachesAll : GoodIn wsX12_isLawful (wsV RX12 99 RX12 yX12_breachesAll wsX12_breachesAll) := goodIn_app (goodIn_of _ (by decide +kernel)) ggX12_isLawful_X12_breachesAll
theorem dX12_isLawful_0 : decode cX12_isLawful 0 = .ok (.aload_n 0, 1) := by decide +kernel
theorem dX12_isLawful_1 : decode cX12_isLawful 1 = .ok (.invokevirtual 99, 3) := by decide +kernel
theorem dX12_isLawful_4 : decode cX12_isLawful 4 = .ok (.ifCond .ne 7, 3) := by decide +kernel
theorem dX12_isLawful_7 : decode cX12_isLawful 7 = .ok (.iconst 1, 1) := by decide +kernel
theorem dX12_isLawful_8 : decode cX12_isLawful 8 = .ok (.goto 4, 3) := by decide +kernel
theorem dX12_isLawful_11 : decode cX12_isLawful 11 = .ok (.iconst 0, 1) := by decide +kernel
theorem dX12_isLawful_12 : decode cX12_isLawful 12 = .ok (.ireturn, 1) := by decide +kernel
set_option maxRecDepth 20000 in
theorem ggX12_mostOf_X12_beside : GoodIn wsX12_mostOf wsX12_beside := goodIn_r _ [5, 6, 7, 8, 9, 4, 10, 11, 12, 13, 42, 43, 44, 45, 46, 47, 48, 49, 50, 51, 52, 53, 54, 55, 56, 57, 58, 59, 60, 61, 62, 63, 64, 65] (by decide +kernel) (by decide +kernel)
set_option maxRecDepth 20000 in
theorem gX12_mostOf_X12_beside : GoodIn wsX12_mostOf (wsV RX12 78 RX12 yX12_beside wsX12_beside) := goodIn_app (goodIn_of _ (by decide +kernel)) ggX12_mostOf_X12_beside
set_option maxRecDepth 20000 in
theorem ggX12_mostOf_X12_isLookedAt : GoodIn wsX12_mostOf wsX12_isLookedAt := goodIn_r _ [17, 18, 19, 20, 4, 21, 22, 23, 24, 25, 6, 42, 43, 44, 45, 46, 47, 48, 49, 50, 51, 52, 53, 54, 55, 56, 57, 58, 59, 60, 61, 62, 63, 64, 65] (by decide +kernel) (by decide +kernel)
set_option maxRecDepth 20000 in
theorem gX12_mostOf_X12_isLookedAt : GoodIn wsX12_mostOf (wsV RX12 81 RX12 yX12_isLookedAt wsX12_isLookedAt) := goodIn_app (goodIn_of _ (by decide +kernel)) ggX12_mostOf_X12_isLookedAt
set_option maxRecDepth 20000 in
theorem ggX12_mostOf_X12_shows : GoodIn wsX12_mostOf wsX12_shows := goodIn_r _ [29, 30, 31, 32, 4, 33, 22, 23, 24, 25, 6, 18, 19, 20, 21, 34, 35, 36, 37, 42, 43, 44, 45, 46, 47, 48, 49, 50, 51, 52, 53, 54, 55, 56, 57, 58, 59, 60, 61, 62, 63, 64, 65] (by decide +kernel) (by decide +kernel)
set_option maxRecDepth 20000 in
theorem gX12_mostOf_X12_shows : GoodIn wsX12_mostOf (wsV RX12 84 RX12 yX12_shows wsX12_shows) := goodIn_app (goodIn_of _ (by decide +kernel)) ggX12_mostOf_X12_shows
set_option maxRecDepth 20000 in
theorem ggX12_mostOf_X12_mayHave : GoodIn wsX12_mostOf wsX12_mayHave := goodIn_r _ [41, 34, 35, 36, 4, 37, 22, 23, 24, 25, 6, 18, 19, 20, 21, 42, 43, 44, 45, 46, 47, 48, 49, 50, 51, 52, 53, 54, 55, 56, 57, 58, 59, 60, 61, 62, 63, 64, 65] (by decide +kernel) (by decide +kernel)
set_option maxRecDepth 20000 in
theorem gX12_mostOf_X12_mayHave : GoodIn wsX12_mostOf (wsV RX12 87 RX12 yX12_mayHave wsX12_mayHave) := goodIn_app (goodIn_of _ (by decide +kernel)) ggX12_mostOf_X12_mayHave
theorem dX12_mostOf_0 : decode cX12_mostOf 0 = .ok (.sipush 9999, 3) := by decide +kernel
theorem dX12_mostOf_3 : decode cX12_mostOf 3 = .ok (.istore_n 2, 1) := by decide +kernel
theorem dX12_mostOf_4 : decode cX12_mostOf 4 = .ok (.iconst 0, 1) := by decide +kernel
theorem dX12_mostOf_5 : decode cX12_mostOf 5 = .ok (.istore_n 3, 1) := by decide +kernel
theorem dX12_mostOf_6 : decode cX12_mostOf 6 = .ok (.iload_n 3, 1) := by decide +kernel
theorem dX12_mostOf_7 : decode cX12_mostOf 7 = .ok (.iconst 2, 1) := by decide +kernel
theorem dX12_mostOf_8 : decode cX12_mostOf 8 = .ok (.if_icmp .ge 60, 3) := by decide +kernel
theorem dX12_mostOf_11 : decode cX12_mostOf 11 = .ok (.aload_n 0, 1) := by decide +kernel
theorem dX12_mostOf_12 : decode cX12_mostOf 12 = .ok (.iload_n 1, 1) := by decide +kernel
theorem dX12_mostOf_13 : decode cX12_mostOf 13 = .ok (.iload_n 3, 1) := by decide +kernel
theorem dX12_mostOf_14 : decode cX12_mostOf 14 = .ok (.invokevirtual 78, 3) := by decide +kernel
theorem dX12_mostOf_17 : decode cX12_mostOf 17 = .ok (.istore 4, 2) := by decide +kernel
theorem dX12_mostOf_19 : decode cX12_mostOf 19 = .ok (.iload 4, 2) := by decide +kernel
theorem dX12_mostOf_21 : decode cX12_mostOf 21 = .ok (.ifCond .lt 41, 3) := by decide +kernel
theorem dX12_mostOf_24 : decode cX12_mostOf 24 = .ok (.aload_n 0, 1) := by decide +kernel
theorem dX12_mostOf_25 : decode cX12_mostOf 25 = .ok (.iload 4, 2) := by decide +kernel
theorem dX12_mostOf_27 : decode cX12_mostOf 27 = .ok (.invokevirtual 81, 3) := by decide +kernel
theorem dX12_mostOf_30 : decode cX12_mostOf 30 = .ok (.ifCond .ne 6, 3) := by decide +kernel
theorem dX12_mostOf_33 : decode cX12_mostOf 33 = .ok (.goto 29, 3) := by decide +kernel
theorem dX12_mostOf_36 : decode cX12_mostOf 36 = .ok (.aload_n 0, 1) := by decide +kernel
theorem dX12_mostOf_37 : decode cX12_mostOf 37 = .ok (.iload_n 1, 1) := by decide +kernel
theorem dX12_mostOf_38 : decode cX12_mostOf 38 = .ok (.aload_n 0, 1) := by decide +kernel
theorem dX12_mostOf_39 : decode cX12_mostOf 39 = .ok (.iload 4, 2) := by decide +kernel
theorem dX12_mostOf_41 : decode cX12_mostOf 41 = .ok (.invokevirtual 84, 3) := by decide +kernel
theorem dX12_mostOf_44 : decode cX12_mostOf 44 = .ok (.invokevirtual 87, 3) := by decide +kernel
theorem dX12_mostOf_47 : decode cX12_mostOf 47 = .ok (.istore 5, 2) := by decide +kernel
theorem dX12_mostOf_49 : decode cX12_mostOf 49 = .ok (.iload 5, 2) := by decide +kernel
theorem dX12_mostOf_51 : decode cX12_mostOf 51 = .ok (.iload_n 2, 1) := by decide +kernel
theorem dX12_mostOf_52 : decode cX12_mostOf 52 = .ok (.if_icmp .ge 8, 3) := by decide +kernel
theorem dX12_mostOf_55 : decode cX12_mostOf 55 = .ok (.iload 5, 2) := by decide +kernel
theorem dX12_mostOf_57 : decode cX12_mostOf 57 = .ok (.goto 4, 3) := by decide +kernel
theorem dX12_mostOf_60 : decode cX12_mostOf 60 = .ok (.iload_n 2, 1) := by decide +kernel
theorem dX12_mostOf_61 : decode cX12_mostOf 61 = .ok (.istore_n 2, 1) := by decide +kernel
theorem dX12_mostOf_62 : decode cX12_mostOf 62 = .ok (.iinc 3 1, 3) := by decide +kernel
theorem dX12_mostOf_65 : decode cX12_mostOf 65 = .ok (.goto (-59), 3) := by decide +kernel
theorem dX12_mostOf_68 : decode cX12_mostOf 68 = .ok (.iload_n 2, 1) := by decide +kernel
theorem dX12_mostOf_69 : decode cX12_mostOf 69 = .ok (.ireturn, 1) := by decide +kernel
theorem dX12_here_0 : decode cX12_here 0 = .ok (.aload_n 0, 1) := by decide +kernel
theorem dX12_here_1 : decode cX12_here 1 = .ok (.getfield 103, 3) := by decide +kernel
theorem dX12_here_4 : decode cX12_here 4 = .ok (.aload_n 0, 1) := by decide +kernel
theorem dX12_here_5 : decode cX12_here 5 = .ok (.getfield 106, 3) := by decide +kernel
theorem dX12_here_8 : decode cX12_here 8 = .ok (.if_icmp .ge 20, 3) := by decide +kernel
theorem dX12_here_11 : decode cX12_here 11 = .ok (.aload_n 0, 1) := by decide +kernel
theorem dX12_here_12 : decode cX12_here 12 = .ok (.getfield 31, 3) := by decide +kernel
theorem dX12_here_15 : decode cX12_here 15 = .ok (.aload_n 0, 1) := by decide +kernel
theorem dX12_here_16 : decode cX12_here 16 = .ok (.getfield 109, 3) := by decide +kernel
theorem dX12_here_19 : decode cX12_here 19 = .ok (.aload_n 0, 1) := by decide +kernel
theorem dX12_here_20 : decode cX12_here 20 = .ok (.getfield 103, 3) := by decide +kernel
theorem dX12_here_23 : decode cX12_here 23 = .ok (.iadd, 1) := by decide +kernel
theorem dX12_here_24 : decode cX12_here 24 = .ok (.iaload, 1) := by decide +kernel
theorem dX12_here_25 : decode cX12_here 25 = .ok (.goto 6, 3) := by decide +kernel
theorem dX12_here_28 : decode cX12_here 28 = .ok (.sipush (-1000), 3) := by decide +kernel
theorem dX12_here_31 : decode cX12_here 31 = .ok (.ireturn, 1) := by decide +kernel
set_option maxRecDepth 20000 in
theorem ggX12_readsNumber_X12_here : GoodIn wsX12_readsNumber wsX12_here := goodIn_r _ [10, 3, 11, 12, 13, 17, 18, 19, 20, 21, 22, 23, 24, 25, 26, 27, 28, 29, 30, 31, 32, 33, 34, 35, 36, 37, 38, 39, 40] (by decide +kernel) (by decide +kernel)
set_option maxRecDepth 20000 in
theorem gX12_readsNumber_X12_here : GoodIn wsX12_readsNumber (wsV RX12 112 RX12 yX12_here wsX12_here) := goodIn_app (goodIn_of _ (by decide +kernel)) ggX12_readsNumber_X12_here
set_option maxRecDepth 20000 in
theorem ggX12_readsNumber_X12_isIn : GoodIn wsX12_readsNumber wsX12_isIn := goodIn_r _ [16] (by decide +kernel) (by decide +kernel)
set_option maxRecDepth 20000 in
theorem gX12_readsNumber_X12_isIn : GoodIn wsX12_readsNumber (va_wsS RX12 52 yX12_isIn wsX12_isIn) := goodIn_app (goodIn_of _ (by decide +kernel)) ggX12_readsNumber_X12_isIn
theorem dX12_readsNumber_0 : decode cX12_readsNumber 0 = .ok (.iconst 0, 1) := by decide +kernel
theorem dX12_readsNumber_1 : decode cX12_readsNumber 1 = .ok (.istore_n 2, 1) := by decide +kernel
theorem dX12_readsNumber_2 : decode cX12_readsNumber 2 = .ok (.iconst 0, 1) := by decide +kernel
theorem dX12_readsNumber_3 : decode cX12_readsNumber 3 = .ok (.istore_n 3, 1) := by decide +kernel
theorem dX12_readsNumber_4 : decode cX12_readsNumber 4 = .ok (.iload_n 3, 1) := by decide +kernel
theorem dX12_readsNumber_5 : decode cX12_readsNumber 5 = .ok (.iload_n 1, 1) := by decide +kernel
theorem dX12_readsNumber_6 : decode cX12_readsNumber 6 = .ok (.if_icmp .ge 49, 3) := by decide +kernel
theorem dX12_readsNumber_9 : decode cX12_readsNumber 9 = .ok (.aload_n 0, 1) := by decide +kernel
theorem dX12_readsNumber_10 : decode cX12_readsNumber 10 = .ok (.invokevirtual 112, 3) := by decide +kernel
theorem dX12_readsNumber_13 : decode cX12_readsNumber 13 = .ok (.i2l, 1) := by decide +kernel
theorem dX12_readsNumber_14 : decode cX12_readsNumber 14 = .ok (.ldc2_w 115, 3) := by decide +kernel
theorem dX12_readsNumber_17 : decode cX12_readsNumber 17 = .ok (.ldc2_w 117, 3) := by decide +kernel
theorem dX12_readsNumber_20 : decode cX12_readsNumber 20 = .ok (.invokestatic 52, 3) := by decide +kernel
theorem dX12_readsNumber_23 : decode cX12_readsNumber 23 = .ok (.ifCond .eq 32, 3) := by decide +kernel
theorem dX12_readsNumber_26 : decode cX12_readsNumber 26 = .ok (.bipush 10, 2) := by decide +kernel
theorem dX12_readsNumber_28 : decode cX12_readsNumber 28 = .ok (.iload_n 2, 1) := by decide +kernel
theorem dX12_readsNumber_29 : decode cX12_readsNumber 29 = .ok (.imul, 1) := by decide +kernel
theorem dX12_readsNumber_30 : decode cX12_readsNumber 30 = .ok (.aload_n 0, 1) := by decide +kernel
theorem dX12_readsNumber_31 : decode cX12_readsNumber 31 = .ok (.invokevirtual 112, 3) := by decide +kernel
theorem dX12_readsNumber_34 : decode cX12_readsNumber 34 = .ok (.iadd, 1) := by decide +kernel
theorem dX12_readsNumber_35 : decode cX12_readsNumber 35 = .ok (.bipush 48, 2) := by decide +kernel
theorem dX12_readsNumber_37 : decode cX12_readsNumber 37 = .ok (.isub, 1) := by decide +kernel
theorem dX12_readsNumber_38 : decode cX12_readsNumber 38 = .ok (.istore_n 2, 1) := by decide +kernel
theorem dX12_readsNumber_39 : decode cX12_readsNumber 39 = .ok (.aload_n 0, 1) := by decide +kernel
theorem dX12_readsNumber_40 : decode cX12_readsNumber 40 = .ok (.dup, 1) := by decide +kernel
theorem dX12_readsNumber_41 : decode cX12_readsNumber 41 = .ok (.getfield 103, 3) := by decide +kernel
theorem dX12_readsNumber_44 : decode cX12_readsNumber 44 = .ok (.iconst 1, 1) := by decide +kernel
theorem dX12_readsNumber_45 : decode cX12_readsNumber 45 = .ok (.iadd, 1) := by decide +kernel
theorem dX12_readsNumber_46 : decode cX12_readsNumber 46 = .ok (.putfield 103, 3) := by decide +kernel
theorem dX12_readsNumber_49 : decode cX12_readsNumber 49 = .ok (.iinc 3 1, 3) := by decide +kernel
theorem dX12_readsNumber_52 : decode cX12_readsNumber 52 = .ok (.goto (-48), 3) := by decide +kernel
theorem dX12_readsNumber_55 : decode cX12_readsNumber 55 = .ok (.aload_n 0, 1) := by decide +kernel
theorem dX12_readsNumber_56 : decode cX12_readsNumber 56 = .ok (.getfield 40, 3) := by decide +kernel
theorem dX12_readsNumber_59 : decode cX12_readsNumber 59 = .ok (.aload_n 0, 1) := by decide +kernel
theorem dX12_readsNumber_60 : decode cX12_readsNumber 60 = .ok (.getfield 119, 3) := by decide +kernel
theorem dX12_readsNumber_63 : decode cX12_readsNumber 63 = .ok (.iload_n 2, 1) := by decide +kernel
theorem dX12_readsNumber_64 : decode cX12_readsNumber 64 = .ok (.iastore, 1) := by decide +kernel
theorem dX12_readsNumber_65 : decode cX12_readsNumber 65 = .ok (.aload_n 0, 1) := by decide +kernel
theorem dX12_readsNumber_66 : decode cX12_readsNumber 66 = .ok (.dup, 1) := by decide +kernel
theorem dX12_readsNumber_67 : decode cX12_readsNumber 67 = .ok (.getfield 119, 3) := by decide +kernel
theorem dX12_readsNumber_70 : decode cX12_readsNumber 70 = .ok (.iconst 1, 1) := by decide +kernel
theorem dX12_readsNumber_71 : decode cX12_readsNumber 71 = .ok (.iadd, 1) := by decide +kernel
theorem dX12_readsNumber_72 : decode cX12_readsNumber 72 = .ok (.putfield 119, 3) := by decide +kernel
theorem dX12_readsNumber_75 : decode cX12_readsNumber 75 = .ok (.iload_n 3, 1) := by decide +kernel
theorem dX12_readsNumber_76 : decode cX12_readsNumber 76 = .ok (.ifCond .le 7, 3) := by decide +kernel
theorem dX12_readsNumber_79 : decode cX12_readsNumber 79 = .ok (.iconst 1, 1) := by decide +kernel
theorem dX12_readsNumber_80 : decode cX12_readsNumber 80 = .ok (.goto 4, 3) := by decide +kernel
theorem dX12_readsNumber_83 : decode cX12_readsNumber 83 = .ok (.iconst 0, 1) := by decide +kernel
theorem dX12_readsNumber_84 : decode cX12_readsNumber 84 = .ok (.ireturn, 1) := by decide +kernel
set_option maxRecDepth 20000 in
theorem ggX12_readsStatement_X12_here : GoodIn wsX12_readsStatement wsX12_here := goodIn_r _ [7, 2, 8, 9, 10, 21, 22, 23, 24, 25, 26, 27, 28, 29, 30, 31, 32, 33, 34, 35, 36, 37, 38, 39, 40, 41, 42, 43, 44] (by decide +kernel) (by decide +kernel)
set_option maxRecDepth 20000 in
theorem gX12_readsStatement_X12_here : GoodIn wsX12_readsStatement (wsV RX12 112 RX12 yX12_here wsX12_here) := goodIn_app (goodIn_of _ (by decide +kernel)) ggX12_readsStatement_X12_here
set_option maxRecDepth 20000 in
theorem ggX12_readsStatement_X12_readsNumber : GoodIn wsX12_readsStatement wsX12_readsNumber := goodIn_r _ [14, 15, 16, 2, 17, 1, 3, 4, 5, 6, 7, 8, 9, 10, 18, 19, 20, 21, 22, 23, 24, 25, 26, 27, 28, 29, 30, 31, 32, 33, 34, 35, 36, 37, 38, 39, 40, 41, 42, 43, 44] (by decide +kernel) (by decide +kernel)
set_option maxRecDepth 20000 in
theorem gX12_readsStatement_X12_readsNumber : GoodIn wsX12_readsStatement (wsV RX12 122 RX12 yX12_readsNumber wsX12_readsNumber) := goodIn_app (goodIn_of _ (by decide +kernel)) ggX12_readsStatement_X12_readsNumber
theorem dX12_readsStatement_0 : decode cX12_readsStatement 0 = .ok (.aload_n 0, 1) := by decide +kernel
theorem dX12_readsStatement_1 : decode cX12_readsStatement 1 = .ok (.invokevirtual 112, 3) := by decide +kernel
theorem dX12_readsStatement_4 : decode cX12_readsStatement 4 = .ok (.istore_n 1, 1) := by decide +kernel
theorem dX12_readsStatement_5 : decode cX12_readsStatement 5 = .ok (.aload_n 0, 1) := by decide +kernel
theorem dX12_readsStatement_6 : decode cX12_readsStatement 6 = .ok (.iconst 0, 1) := by decide +kernel
theorem dX12_readsStatement_7 : decode cX12_readsStatement 7 = .ok (.putfield 119, 3) := by decide +kernel
theorem dX12_readsStatement_10 : decode cX12_readsStatement 10 = .ok (.iconst 1, 1) := by decide +kernel
theorem dX12_readsStatement_11 : decode cX12_readsStatement 11 = .ok (.istore_n 2, 1) := by decide +kernel
theorem dX12_readsStatement_12 : decode cX12_readsStatement 12 = .ok (.iload_n 1, 1) := by decide +kernel
theorem dX12_readsStatement_13 : decode cX12_readsStatement 13 = .ok (.bipush 104, 2) := by decide +kernel
theorem dX12_readsStatement_15 : decode cX12_readsStatement 15 = .ok (.if_icmp .eq 29, 3) := by decide +kernel
theorem dX12_readsStatement_18 : decode cX12_readsStatement 18 = .ok (.iload_n 1, 1) := by decide +kernel
theorem dX12_readsStatement_19 : decode cX12_readsStatement 19 = .ok (.bipush 114, 2) := by decide +kernel
theorem dX12_readsStatement_21 : decode cX12_readsStatement 21 = .ok (.if_icmp .eq 23, 3) := by decide +kernel
theorem dX12_readsStatement_24 : decode cX12_readsStatement 24 = .ok (.iload_n 1, 1) := by decide +kernel
theorem dX12_readsStatement_25 : decode cX12_readsStatement 25 = .ok (.bipush 103, 2) := by decide +kernel
theorem dX12_readsStatement_27 : decode cX12_readsStatement 27 = .ok (.if_icmp .eq 17, 3) := by decide +kernel
theorem dX12_readsStatement_30 : decode cX12_readsStatement 30 = .ok (.iload_n 1, 1) := by decide +kernel
theorem dX12_readsStatement_31 : decode cX12_readsStatement 31 = .ok (.bipush 109, 2) := by decide +kernel
theorem dX12_readsStatement_33 : decode cX12_readsStatement 33 = .ok (.if_icmp .eq 11, 3) := by decide +kernel
theorem dX12_readsStatement_36 : decode cX12_readsStatement 36 = .ok (.iload_n 1, 1) := by decide +kernel
theorem dX12_readsStatement_37 : decode cX12_readsStatement 37 = .ok (.bipush 117, 2) := by decide +kernel
theorem dX12_readsStatement_39 : decode cX12_readsStatement 39 = .ok (.if_icmp .eq 5, 3) := by decide +kernel
theorem dX12_readsStatement_42 : decode cX12_readsStatement 42 = .ok (.iconst 0, 1) := by decide +kernel
theorem dX12_readsStatement_43 : decode cX12_readsStatement 43 = .ok (.ireturn, 1) := by decide +kernel
theorem dX12_readsStatement_44 : decode cX12_readsStatement 44 = .ok (.aload_n 0, 1) := by decide +kernel
theorem dX12_readsStatement_45 : decode cX12_readsStatement 45 = .ok (.dup, 1) := by decide +kernel
theorem dX12_readsStatement_46 : decode cX12_readsStatement 46 = .ok (.getfield 103, 3) := by decide +kernel
theorem dX12_readsStatement_49 : decode cX12_readsStatement 49 = .ok (.iconst 1, 1) := by decide +kernel
theorem dX12_readsStatement_50 : decode cX12_readsStatement 50 = .ok (.iadd, 1) := by decide +kernel
theorem dX12_readsStatement_51 : decode cX12_readsStatement 51 = .ok (.putfield 103, 3) := by decide +kernel
theorem dX12_readsStatement_54 : decode cX12_readsStatement 54 = .ok (.iload_n 1, 1) := by decide +kernel
theorem dX12_readsStatement_55 : decode cX12_readsStatement 55 = .ok (.bipush 117, 2) := by decide +kernel
theorem dX12_readsStatement_57 : decode cX12_readsStatement 57 = .ok (.if_icmp .eq 9, 3) := by decide +kernel
theorem dX12_readsStatement_60 : decode cX12_readsStatement 60 = .ok (.aload_n 0, 1) := by decide +kernel
theorem dX12_readsStatement_61 : decode cX12_readsStatement 61 = .ok (.iconst 1, 1) := by decide +kernel
theorem dX12_readsStatement_62 : decode cX12_readsStatement 62 = .ok (.invokevirtual 122, 3) := by decide +kernel
theorem dX12_readsStatement_65 : decode cX12_readsStatement 65 = .ok (.istore_n 2, 1) := by decide +kernel
theorem dX12_readsStatement_66 : decode cX12_readsStatement 66 = .ok (.iload_n 2, 1) := by decide +kernel
theorem dX12_readsStatement_67 : decode cX12_readsStatement 67 = .ok (.ifCond .eq 21, 3) := by decide +kernel
theorem dX12_readsStatement_70 : decode cX12_readsStatement 70 = .ok (.iload_n 1, 1) := by decide +kernel
theorem dX12_readsStatement_71 : decode cX12_readsStatement 71 = .ok (.bipush 117, 2) := by decide +kernel
theorem dX12_readsStatement_73 : decode cX12_readsStatement 73 = .ok (.if_icmp .eq 15, 3) := by decide +kernel
theorem dX12_readsStatement_76 : decode cX12_readsStatement 76 = .ok (.iload_n 1, 1) := by decide +kernel
theorem dX12_readsStatement_77 : decode cX12_readsStatement 77 = .ok (.bipush 114, 2) := by decide +kernel
theorem dX12_readsStatement_79 : decode cX12_readsStatement 79 = .ok (.if_icmp .eq 9, 3) := by decide +kernel
theorem dX12_readsStatement_82 : decode cX12_readsStatement 82 = .ok (.aload_n 0, 1) := by decide +kernel
theorem dX12_readsStatement_83 : decode cX12_readsStatement 83 = .ok (.iconst 1, 1) := by decide +kernel
theorem dX12_readsStatement_84 : decode cX12_readsStatement 84 = .ok (.invokevirtual 122, 3) := by decide +kernel
theorem dX12_readsStatement_87 : decode cX12_readsStatement 87 = .ok (.istore_n 2, 1) := by decide +kernel
theorem dX12_readsStatement_88 : decode cX12_readsStatement 88 = .ok (.iload_n 2, 1) := by decide +kernel
theorem dX12_readsStatement_89 : decode cX12_readsStatement 89 = .ok (.ifCond .eq 21, 3) := by decide +kernel
theorem dX12_readsStatement_92 : decode cX12_readsStatement 92 = .ok (.iload_n 1, 1) := by decide +kernel
theorem dX12_readsStatement_93 : decode cX12_readsStatement 93 = .ok (.bipush 104, 2) := by decide +kernel
theorem dX12_readsStatement_95 : decode cX12_readsStatement 95 = .ok (.if_icmp .eq 9, 3) := by decide +kernel
theorem dX12_readsStatement_98 : decode cX12_readsStatement 98 = .ok (.iload_n 1, 1) := by decide +kernel
theorem dX12_readsStatement_99 : decode cX12_readsStatement 99 = .ok (.bipush 103, 2) := by decide +kernel
theorem dX12_readsStatement_101 : decode cX12_readsStatement 101 = .ok (.if_icmp .ne 9, 3) := by decide +kernel
theorem dX12_readsStatement_104 : decode cX12_readsStatement 104 = .ok (.aload_n 0, 1) := by decide +kernel
theorem dX12_readsStatement_105 : decode cX12_readsStatement 105 = .ok (.iconst 4, 1) := by decide +kernel
theorem dX12_readsStatement_106 : decode cX12_readsStatement 106 = .ok (.invokevirtual 122, 3) := by decide +kernel
theorem dX12_readsStatement_109 : decode cX12_readsStatement 109 = .ok (.istore_n 2, 1) := by decide +kernel
theorem dX12_readsStatement_110 : decode cX12_readsStatement 110 = .ok (.iload_n 2, 1) := by decide +kernel
theorem dX12_readsStatement_111 : decode cX12_readsStatement 111 = .ok (.ifCond .eq 12, 3) := by decide +kernel
theorem dX12_readsStatement_114 : decode cX12_readsStatement 114 = .ok (.aload_n 0, 1) := by decide +kernel
theorem dX12_readsStatement_115 : decode cX12_readsStatement 115 = .ok (.invokevirtual 112, 3) := by decide +kernel
theorem dX12_readsStatement_118 : decode cX12_readsStatement 118 = .ok (.bipush 59, 2) := by decide +kernel
theorem dX12_readsStatement_120 : decode cX12_readsStatement 120 = .ok (.if_icmp .eq 5, 3) := by decide +kernel
theorem dX12_readsStatement_123 : decode cX12_readsStatement 123 = .ok (.iconst 0, 1) := by decide +kernel
theorem dX12_readsStatement_124 : decode cX12_readsStatement 124 = .ok (.ireturn, 1) := by decide +kernel
theorem dX12_readsStatement_125 : decode cX12_readsStatement 125 = .ok (.aload_n 0, 1) := by decide +kernel
theorem dX12_readsStatement_126 : decode cX12_readsStatement 126 = .ok (.dup, 1) := by decide +kernel
theorem dX12_readsStatement_127 : decode cX12_readsStatement 127 = .ok (.getfield 103, 3) := by decide +kernel
theorem dX12_readsStatement_130 : decode cX12_readsStatement 130 = .ok (.iconst 1, 1) := by decide +kernel
theorem dX12_readsStatement_131 : decode cX12_readsStatement 131 = .ok (.iadd, 1) := by decide +kernel
theorem dX12_readsStatement_132 : decode cX12_readsStatement 132 = .ok (.putfield 103, 3) := by decide +kernel
theorem dX12_readsStatement_135 : decode cX12_readsStatement 135 = .ok (.iconst 1, 1) := by decide +kernel
theorem dX12_readsStatement_136 : decode cX12_readsStatement 136 = .ok (.ireturn, 1) := by decide +kernel
set_option maxRecDepth 20000 in
theorem ggX12_joins_X12_puts : GoodIn wsX12_joins wsX12_puts := goodIn_r _ [6, 1, 7, 8, 9, 10, 11, 12, 13, 14, 15, 16, 17, 18, 19, 20, 21, 22, 23, 24, 25, 26, 27, 28, 29, 30] (by decide +kernel) (by decide +kernel)
set_option maxRecDepth 20000 in
theorem gX12_joins_X12_puts : GoodIn wsX12_joins (wsV RX12 125 RX12 yX12_puts wsX12_puts) := goodIn_app (goodIn_of _ (by decide +kernel)) ggX12_joins_X12_puts
theorem dX12_joins_0 : decode cX12_joins 0 = .ok (.aload_n 0, 1) := by decide +kernel
theorem dX12_joins_1 : decode cX12_joins 1 = .ok (.aload_n 0, 1) := by decide +kernel
theorem dX12_joins_2 : decode cX12_joins 2 = .ok (.getfield 9, 3) := by decide +kernel
theorem dX12_joins_5 : decode cX12_joins 5 = .ok (.iconst 0, 1) := by decide +kernel
theorem dX12_joins_6 : decode cX12_joins 6 = .ok (.iaload, 1) := by decide +kernel
theorem dX12_joins_7 : decode cX12_joins 7 = .ok (.iconst 0, 1) := by decide +kernel
theorem dX12_joins_8 : decode cX12_joins 8 = .ok (.iload_n 1, 1) := by decide +kernel
theorem dX12_joins_9 : decode cX12_joins 9 = .ok (.invokevirtual 125, 3) := by decide +kernel
theorem dX12_joins_12 : decode cX12_joins 12 = .ok (.aload_n 0, 1) := by decide +kernel
theorem dX12_joins_13 : decode cX12_joins 13 = .ok (.aload_n 0, 1) := by decide +kernel
theorem dX12_joins_14 : decode cX12_joins 14 = .ok (.getfield 9, 3) := by decide +kernel
theorem dX12_joins_17 : decode cX12_joins 17 = .ok (.iconst 0, 1) := by decide +kernel
theorem dX12_joins_18 : decode cX12_joins 18 = .ok (.iaload, 1) := by decide +kernel
theorem dX12_joins_19 : decode cX12_joins 19 = .ok (.iconst 1, 1) := by decide +kernel
theorem dX12_joins_20 : decode cX12_joins 20 = .ok (.iload_n 2, 1) := by decide +kernel
theorem dX12_joins_21 : decode cX12_joins 21 = .ok (.invokevirtual 125, 3) := by decide +kernel
theorem dX12_joins_24 : decode cX12_joins 24 = .ok (.aload_n 0, 1) := by decide +kernel
theorem dX12_joins_25 : decode cX12_joins 25 = .ok (.aload_n 0, 1) := by decide +kernel
theorem dX12_joins_26 : decode cX12_joins 26 = .ok (.getfield 9, 3) := by decide +kernel
theorem dX12_joins_29 : decode cX12_joins 29 = .ok (.iconst 0, 1) := by decide +kernel
theorem dX12_joins_30 : decode cX12_joins 30 = .ok (.iaload, 1) := by decide +kernel
theorem dX12_joins_31 : decode cX12_joins 31 = .ok (.iconst 2, 1) := by decide +kernel
theorem dX12_joins_32 : decode cX12_joins 32 = .ok (.iload_n 3, 1) := by decide +kernel
theorem dX12_joins_33 : decode cX12_joins 33 = .ok (.invokevirtual 125, 3) := by decide +kernel
theorem dX12_joins_36 : decode cX12_joins 36 = .ok (.aload_n 0, 1) := by decide +kernel
theorem dX12_joins_37 : decode cX12_joins 37 = .ok (.getfield 9, 3) := by decide +kernel
theorem dX12_joins_40 : decode cX12_joins 40 = .ok (.iconst 0, 1) := by decide +kernel
theorem dX12_joins_41 : decode cX12_joins 41 = .ok (.dup2, 1) := by decide +kernel
theorem dX12_joins_42 : decode cX12_joins 42 = .ok (.iaload, 1) := by decide +kernel
theorem dX12_joins_43 : decode cX12_joins 43 = .ok (.iconst 1, 1) := by decide +kernel
theorem dX12_joins_44 : decode cX12_joins 44 = .ok (.iadd, 1) := by decide +kernel
theorem dX12_joins_45 : decode cX12_joins 45 = .ok (.iastore, 1) := by decide +kernel
theorem dX12_joins_46 : decode cX12_joins 46 = .ok (.return_, 1) := by decide +kernel
set_option maxRecDepth 20000 in
theorem ggX12_adds_X12_joins : GoodIn wsX12_adds wsX12_joins := goodIn_r _ [6, 1, 7, 8, 9, 5, 10, 11, 12, 13, 14, 15, 16, 17, 18, 19, 20, 21, 22, 23, 24, 25, 26, 27, 28, 29, 30, 31, 32, 33, 34] (by decide +kernel) (by decide +kernel)
set_option maxRecDepth 20000 in
theorem gX12_adds_X12_joins : GoodIn wsX12_adds (wsV RX12 129 RX12 yX12_joins wsX12_joins) := goodIn_app (goodIn_of _ (by decide +kernel)) ggX12_adds_X12_joins
theorem dX12_adds_0 : decode cX12_adds 0 = .ok (.aload_n 0, 1) := by decide +kernel
theorem dX12_adds_1 : decode cX12_adds 1 = .ok (.getfield 9, 3) := by decide +kernel
theorem dX12_adds_4 : decode cX12_adds 4 = .ok (.iconst 0, 1) := by decide +kernel
theorem dX12_adds_5 : decode cX12_adds 5 = .ok (.iaload, 1) := by decide +kernel
theorem dX12_adds_6 : decode cX12_adds 6 = .ok (.bipush 8, 2) := by decide +kernel
theorem dX12_adds_8 : decode cX12_adds 8 = .ok (.if_icmp .ne 5, 3) := by decide +kernel
theorem dX12_adds_11 : decode cX12_adds 11 = .ok (.iconst 0, 1) := by decide +kernel
theorem dX12_adds_12 : decode cX12_adds 12 = .ok (.ireturn, 1) := by decide +kernel
theorem dX12_adds_13 : decode cX12_adds 13 = .ok (.aload_n 0, 1) := by decide +kernel
theorem dX12_adds_14 : decode cX12_adds 14 = .ok (.iload_n 1, 1) := by decide +kernel
theorem dX12_adds_15 : decode cX12_adds 15 = .ok (.iload_n 2, 1) := by decide +kernel
theorem dX12_adds_16 : decode cX12_adds 16 = .ok (.iload_n 3, 1) := by decide +kernel
theorem dX12_adds_17 : decode cX12_adds 17 = .ok (.invokevirtual 129, 3) := by decide +kernel
theorem dX12_adds_20 : decode cX12_adds 20 = .ok (.iconst 1, 1) := by decide +kernel
theorem dX12_adds_21 : decode cX12_adds 21 = .ok (.ireturn, 1) := by decide +kernel
set_option maxRecDepth 20000 in
theorem ggX12_wrongGift_X12_areTwo : GoodIn wsX12_wrongGift wsX12_areTwo := goodIn_r _ [5, 6, 7, 8, 4, 9, 10, 11, 12, 13, 22, 23, 24, 25, 26, 27, 28, 29, 30, 31, 32, 33, 34, 35, 36, 37, 38, 39, 40, 41, 42, 43, 44, 45] (by decide +kernel) (by decide +kernel)
set_option maxRecDepth 20000 in
theorem gX12_wrongGift_X12_areTwo : GoodIn wsX12_wrongGift (wsV RX12 132 RX12 yX12_areTwo wsX12_areTwo) := goodIn_app (goodIn_of _ (by decide +kernel)) ggX12_wrongGift_X12_areTwo
set_option maxRecDepth 20000 in
theorem ggX12_wrongGift_X12_purse : GoodIn wsX12_wrongGift wsX12_purse := goodIn_r _ [17, 18, 19, 20, 4, 21, 10, 22, 23, 24, 25, 26, 27, 28, 29, 30, 31, 32, 33, 34, 35, 36, 37, 38, 39, 40, 41, 42, 43, 44, 45] (by decide +kernel) (by decide +kernel)
set_option maxRecDepth 20000 in
theorem gX12_wrongGift_X12_purse : GoodIn wsX12_wrongGift (wsV RX12 68 RX12 yX12_purse wsX12_purse) := goodIn_app (goodIn_of _ (by decide +kernel)) ggX12_wrongGift_X12_purse
theorem dX12_wrongGift_0 : decode cX12_wrongGift 0 = .ok (.aload_n 0, 1) := by decide +kernel
theorem dX12_wrongGift_1 : decode cX12_wrongGift 1 = .ok (.iload_n 1, 1) := by decide +kernel
theorem dX12_wrongGift_2 : decode cX12_wrongGift 2 = .ok (.iload_n 2, 1) := by decide +kernel
theorem dX12_wrongGift_3 : decode cX12_wrongGift 3 = .ok (.invokevirtual 132, 3) := by decide +kernel
theorem dX12_wrongGift_6 : decode cX12_wrongGift 6 = .ok (.ifCond .eq 8, 3) := by decide +kernel
theorem dX12_wrongGift_9 : decode cX12_wrongGift 9 = .ok (.iload_n 3, 1) := by decide +kernel
theorem dX12_wrongGift_10 : decode cX12_wrongGift 10 = .ok (.iconst 1, 1) := by decide +kernel
theorem dX12_wrongGift_11 : decode cX12_wrongGift 11 = .ok (.if_icmp .ge 7, 3) := by decide +kernel
theorem dX12_wrongGift_14 : decode cX12_wrongGift 14 = .ok (.iconst (-1), 1) := by decide +kernel
theorem dX12_wrongGift_15 : decode cX12_wrongGift 15 = .ok (.goto 36, 3) := by decide +kernel
theorem dX12_wrongGift_18 : decode cX12_wrongGift 18 = .ok (.aload_n 0, 1) := by decide +kernel
theorem dX12_wrongGift_19 : decode cX12_wrongGift 19 = .ok (.iload_n 1, 1) := by decide +kernel
theorem dX12_wrongGift_20 : decode cX12_wrongGift 20 = .ok (.invokevirtual 68, 3) := by decide +kernel
theorem dX12_wrongGift_23 : decode cX12_wrongGift 23 = .ok (.iload_n 3, 1) := by decide +kernel
theorem dX12_wrongGift_24 : decode cX12_wrongGift 24 = .ok (.if_icmp .ge 8, 3) := by decide +kernel
theorem dX12_wrongGift_27 : decode cX12_wrongGift 27 = .ok (.bipush (-3), 2) := by decide +kernel
theorem dX12_wrongGift_29 : decode cX12_wrongGift 29 = .ok (.goto 22, 3) := by decide +kernel
theorem dX12_wrongGift_32 : decode cX12_wrongGift 32 = .ok (.aload_n 0, 1) := by decide +kernel
theorem dX12_wrongGift_33 : decode cX12_wrongGift 33 = .ok (.iload_n 2, 1) := by decide +kernel
theorem dX12_wrongGift_34 : decode cX12_wrongGift 34 = .ok (.invokevirtual 68, 3) := by decide +kernel
theorem dX12_wrongGift_37 : decode cX12_wrongGift 37 = .ok (.sipush 9999, 3) := by decide +kernel
theorem dX12_wrongGift_40 : decode cX12_wrongGift 40 = .ok (.iload_n 3, 1) := by decide +kernel
theorem dX12_wrongGift_41 : decode cX12_wrongGift 41 = .ok (.isub, 1) := by decide +kernel
theorem dX12_wrongGift_42 : decode cX12_wrongGift 42 = .ok (.if_icmp .le 8, 3) := by decide +kernel
theorem dX12_wrongGift_45 : decode cX12_wrongGift 45 = .ok (.bipush (-2), 2) := by decide +kernel
theorem dX12_wrongGift_47 : decode cX12_wrongGift 47 = .ok (.goto 4, 3) := by decide +kernel
theorem dX12_wrongGift_50 : decode cX12_wrongGift 50 = .ok (.iconst 0, 1) := by decide +kernel
theorem dX12_wrongGift_51 : decode cX12_wrongGift 51 = .ok (.ireturn, 1) := by decide +kernel
set_option maxRecDepth 20000 in
theorem ggX12_gives_X12_purse : GoodIn wsX12_gives wsX12_purse := goodIn_r _ [5, 6, 7, 8, 4, 9, 10, 15, 16, 17, 18, 19, 20, 21, 22, 23, 24, 25, 26, 27, 28, 29, 30, 31, 32, 33, 34, 35, 36, 37, 38] (by decide +kernel) (by decide +kernel)
set_option maxRecDepth 20000 in
theorem gX12_gives_X12_purse : GoodIn wsX12_gives (wsV RX12 68 RX12 yX12_purse wsX12_purse) := goodIn_app (goodIn_of _ (by decide +kernel)) ggX12_gives_X12_purse
set_option maxRecDepth 20000 in
theorem ggX12_gives_X12_puts : GoodIn wsX12_gives wsX12_puts := goodIn_r _ [14, 10, 15, 16, 17, 18, 19, 20, 21, 22, 23, 24, 25, 26, 27, 28, 29, 30, 31, 32, 33, 34, 35, 36, 37, 38] (by decide +kernel) (by decide +kernel)
set_option maxRecDepth 20000 in
theorem gX12_gives_X12_puts : GoodIn wsX12_gives (wsV RX12 125 RX12 yX12_puts wsX12_puts) := goodIn_app (goodIn_of _ (by decide +kernel)) ggX12_gives_X12_puts
theorem dX12_gives_0 : decode cX12_gives 0 = .ok (.aload_n 0, 1) := by decide +kernel
