theorem dX12_init_0 : decode cX12_init 0 = .ok (.aload_n 0, 1) := by decide +kernel
theorem dX12_init_1 : decode cX12_init 1 = .ok (.invokespecial 1, 3) := by decide +kernel
theorem dX12_init_4 : decode cX12_init 4 = .ok (.aload_n 0, 1) := by decide +kernel
theorem dX12_init_5 : decode cX12_init 5 = .ok (.bipush 29, 2) := by decide +kernel
theorem dX12_init_7 : decode cX12_init 7 = .ok (.newarray .int, 2) := by decide +kernel
theorem dX12_init_9 : decode cX12_init 9 = .ok (.putfield 9, 3) := by decide +kernel
theorem dX12_init_12 : decode cX12_init 12 = .ok (.aload_n 0, 1) := by decide +kernel
theorem dX12_init_13 : decode cX12_init 13 = .ok (.bipush 29, 2) := by decide +kernel
theorem dX12_init_15 : decode cX12_init 15 = .ok (.newarray .int, 2) := by decide +kernel
theorem dX12_init_17 : decode cX12_init 17 = .ok (.putfield 13, 3) := by decide +kernel
theorem dX12_init_20 : decode cX12_init 20 = .ok (.aload_n 0, 1) := by decide +kernel
theorem dX12_init_21 : decode cX12_init 21 = .ok (.bipush 29, 2) := by decide +kernel
theorem dX12_init_23 : decode cX12_init 23 = .ok (.newarray .int, 2) := by decide +kernel
theorem dX12_init_25 : decode cX12_init 25 = .ok (.putfield 16, 3) := by decide +kernel
theorem dX12_init_28 : decode cX12_init 28 = .ok (.aload_n 0, 1) := by decide +kernel
theorem dX12_init_29 : decode cX12_init 29 = .ok (.bipush 29, 2) := by decide +kernel
theorem dX12_init_31 : decode cX12_init 31 = .ok (.newarray .int, 2) := by decide +kernel
theorem dX12_init_33 : decode cX12_init 33 = .ok (.putfield 19, 3) := by decide +kernel
theorem dX12_init_36 : decode cX12_init 36 = .ok (.aload_n 0, 1) := by decide +kernel
theorem dX12_init_37 : decode cX12_init 37 = .ok (.bipush 8, 2) := by decide +kernel
theorem dX12_init_39 : decode cX12_init 39 = .ok (.newarray .int, 2) := by decide +kernel
theorem dX12_init_41 : decode cX12_init 41 = .ok (.putfield 22, 3) := by decide +kernel
theorem dX12_init_44 : decode cX12_init 44 = .ok (.aload_n 0, 1) := by decide +kernel
theorem dX12_init_45 : decode cX12_init 45 = .ok (.bipush 8, 2) := by decide +kernel
theorem dX12_init_47 : decode cX12_init 47 = .ok (.newarray .int, 2) := by decide +kernel
theorem dX12_init_49 : decode cX12_init 49 = .ok (.putfield 25, 3) := by decide +kernel
theorem dX12_init_52 : decode cX12_init 52 = .ok (.aload_n 0, 1) := by decide +kernel
theorem dX12_init_53 : decode cX12_init 53 = .ok (.bipush 8, 2) := by decide +kernel
theorem dX12_init_55 : decode cX12_init 55 = .ok (.newarray .int, 2) := by decide +kernel
theorem dX12_init_57 : decode cX12_init 57 = .ok (.putfield 28, 3) := by decide +kernel
theorem dX12_init_60 : decode cX12_init 60 = .ok (.aload_n 0, 1) := by decide +kernel
theorem dX12_init_61 : decode cX12_init 61 = .ok (.sipush 800, 3) := by decide +kernel
theorem dX12_init_64 : decode cX12_init 64 = .ok (.newarray .int, 2) := by decide +kernel
theorem dX12_init_66 : decode cX12_init 66 = .ok (.putfield 31, 3) := by decide +kernel
theorem dX12_init_69 : decode cX12_init 69 = .ok (.aload_n 0, 1) := by decide +kernel
theorem dX12_init_70 : decode cX12_init 70 = .ok (.bipush 8, 2) := by decide +kernel
theorem dX12_init_72 : decode cX12_init 72 = .ok (.newarray .int, 2) := by decide +kernel
theorem dX12_init_74 : decode cX12_init 74 = .ok (.putfield 34, 3) := by decide +kernel
theorem dX12_init_77 : decode cX12_init 77 = .ok (.aload_n 0, 1) := by decide +kernel
theorem dX12_init_78 : decode cX12_init 78 = .ok (.bipush 8, 2) := by decide +kernel
theorem dX12_init_80 : decode cX12_init 80 = .ok (.newarray .int, 2) := by decide +kernel
theorem dX12_init_82 : decode cX12_init 82 = .ok (.putfield 37, 3) := by decide +kernel
theorem dX12_init_85 : decode cX12_init 85 = .ok (.aload_n 0, 1) := by decide +kernel
theorem dX12_init_86 : decode cX12_init 86 = .ok (.iconst 3, 1) := by decide +kernel
theorem dX12_init_87 : decode cX12_init 87 = .ok (.newarray .int, 2) := by decide +kernel
theorem dX12_init_89 : decode cX12_init 89 = .ok (.putfield 40, 3) := by decide +kernel
theorem dX12_init_92 : decode cX12_init 92 = .ok (.aload_n 0, 1) := by decide +kernel
theorem dX12_init_93 : decode cX12_init 93 = .ok (.bipush 8, 2) := by decide +kernel
theorem dX12_init_95 : decode cX12_init 95 = .ok (.newarray .int, 2) := by decide +kernel
theorem dX12_init_97 : decode cX12_init 97 = .ok (.putfield 43, 3) := by decide +kernel
theorem dX12_init_100 : decode cX12_init 100 = .ok (.return_, 1) := by decide +kernel
theorem dX12_thrown_0 : decode cX12_thrown 0 = .ok (.aload_n 0, 1) := by decide +kernel
theorem dX12_thrown_1 : decode cX12_thrown 1 = .ok (.getfield 46, 3) := by decide +kernel
theorem dX12_thrown_4 : decode cX12_thrown 4 = .ok (.ireturn, 1) := by decide +kernel
theorem dX12_isIn_0 : decode cX12_isIn 0 = .ok (.lload_n 0, 1) := by decide +kernel
theorem dX12_isIn_1 : decode cX12_isIn 1 = .ok (.lload_n 2, 1) := by decide +kernel
theorem dX12_isIn_2 : decode cX12_isIn 2 = .ok (.lcmp, 1) := by decide +kernel
theorem dX12_isIn_3 : decode cX12_isIn 3 = .ok (.ifCond .lt 14, 3) := by decide +kernel
theorem dX12_isIn_6 : decode cX12_isIn 6 = .ok (.lload_n 0, 1) := by decide +kernel
theorem dX12_isIn_7 : decode cX12_isIn 7 = .ok (.lload 4, 2) := by decide +kernel
theorem dX12_isIn_9 : decode cX12_isIn 9 = .ok (.lcmp, 1) := by decide +kernel
theorem dX12_isIn_10 : decode cX12_isIn 10 = .ok (.ifCond .gt 7, 3) := by decide +kernel
theorem dX12_isIn_13 : decode cX12_isIn 13 = .ok (.iconst 1, 1) := by decide +kernel
theorem dX12_isIn_14 : decode cX12_isIn 14 = .ok (.goto 4, 3) := by decide +kernel
theorem dX12_isIn_17 : decode cX12_isIn 17 = .ok (.iconst 0, 1) := by decide +kernel
theorem dX12_isIn_18 : decode cX12_isIn 18 = .ok (.ireturn, 1) := by decide +kernel
set_option maxRecDepth 20000 in
theorem ggX12_isShelf_X12_isIn : GoodIn wsX12_isShelf wsX12_isIn := goodIn_r _ [5] (by decide +kernel) (by decide +kernel)
set_option maxRecDepth 20000 in
theorem gX12_isShelf_X12_isIn : GoodIn wsX12_isShelf (va_wsS RX12 52 yX12_isIn wsX12_isIn) := goodIn_app (goodIn_of _ (by decide +kernel)) ggX12_isShelf_X12_isIn
theorem dX12_isShelf_0 : decode cX12_isShelf 0 = .ok (.iload_n 0, 1) := by decide +kernel
theorem dX12_isShelf_1 : decode cX12_isShelf 1 = .ok (.i2l, 1) := by decide +kernel
theorem dX12_isShelf_2 : decode cX12_isShelf 2 = .ok (.lconst 0, 1) := by decide +kernel
theorem dX12_isShelf_3 : decode cX12_isShelf 3 = .ok (.ldc2_w 50, 3) := by decide +kernel
theorem dX12_isShelf_6 : decode cX12_isShelf 6 = .ok (.invokestatic 52, 3) := by decide +kernel
theorem dX12_isShelf_9 : decode cX12_isShelf 9 = .ok (.ireturn, 1) := by decide +kernel
set_option maxRecDepth 20000 in
theorem ggX12_isHouse_X12_isIn : GoodIn wsX12_isHouse wsX12_isIn := goodIn_r _ [5] (by decide +kernel) (by decide +kernel)
set_option maxRecDepth 20000 in
theorem gX12_isHouse_X12_isIn : GoodIn wsX12_isHouse (va_wsS RX12 52 yX12_isIn wsX12_isIn) := goodIn_app (goodIn_of _ (by decide +kernel)) ggX12_isHouse_X12_isIn
theorem dX12_isHouse_0 : decode cX12_isHouse 0 = .ok (.iload_n 1, 1) := by decide +kernel
theorem dX12_isHouse_1 : decode cX12_isHouse 1 = .ok (.i2l, 1) := by decide +kernel
theorem dX12_isHouse_2 : decode cX12_isHouse 2 = .ok (.lconst 0, 1) := by decide +kernel
theorem dX12_isHouse_3 : decode cX12_isHouse 3 = .ok (.aload_n 0, 1) := by decide +kernel
theorem dX12_isHouse_4 : decode cX12_isHouse 4 = .ok (.getfield 9, 3) := by decide +kernel
theorem dX12_isHouse_7 : decode cX12_isHouse 7 = .ok (.iconst 0, 1) := by decide +kernel
theorem dX12_isHouse_8 : decode cX12_isHouse 8 = .ok (.iaload, 1) := by decide +kernel
theorem dX12_isHouse_9 : decode cX12_isHouse 9 = .ok (.iconst 1, 1) := by decide +kernel
theorem dX12_isHouse_10 : decode cX12_isHouse 10 = .ok (.isub, 1) := by decide +kernel
theorem dX12_isHouse_11 : decode cX12_isHouse 11 = .ok (.i2l, 1) := by decide +kernel
theorem dX12_isHouse_12 : decode cX12_isHouse 12 = .ok (.invokestatic 52, 3) := by decide +kernel
theorem dX12_isHouse_15 : decode cX12_isHouse 15 = .ok (.ireturn, 1) := by decide +kernel
set_option maxRecDepth 20000 in
theorem ggX12_areTwo_X12_isHouse : GoodIn wsX12_areTwo wsX12_isHouse := goodIn_r _ [5, 6, 7, 8, 4, 9, 10, 11, 12, 13, 14, 15, 16, 17, 18, 19, 20, 21, 22, 23, 24, 25, 26, 27, 28, 29, 30, 31, 32, 33] (by decide +kernel) (by decide +kernel)
set_option maxRecDepth 20000 in
theorem gX12_areTwo_X12_isHouse : GoodIn wsX12_areTwo (wsV RX12 56 RX12 yX12_isHouse wsX12_isHouse) := goodIn_app (goodIn_of _ (by decide +kernel)) ggX12_areTwo_X12_isHouse
theorem dX12_areTwo_0 : decode cX12_areTwo 0 = .ok (.aload_n 0, 1) := by decide +kernel
theorem dX12_areTwo_1 : decode cX12_areTwo 1 = .ok (.iload_n 1, 1) := by decide +kernel
theorem dX12_areTwo_2 : decode cX12_areTwo 2 = .ok (.invokevirtual 56, 3) := by decide +kernel
theorem dX12_areTwo_5 : decode cX12_areTwo 5 = .ok (.ifCond .eq 20, 3) := by decide +kernel
theorem dX12_areTwo_8 : decode cX12_areTwo 8 = .ok (.aload_n 0, 1) := by decide +kernel
theorem dX12_areTwo_9 : decode cX12_areTwo 9 = .ok (.iload_n 2, 1) := by decide +kernel
theorem dX12_areTwo_10 : decode cX12_areTwo 10 = .ok (.invokevirtual 56, 3) := by decide +kernel
theorem dX12_areTwo_13 : decode cX12_areTwo 13 = .ok (.ifCond .eq 12, 3) := by decide +kernel
theorem dX12_areTwo_16 : decode cX12_areTwo 16 = .ok (.iload_n 1, 1) := by decide +kernel
theorem dX12_areTwo_17 : decode cX12_areTwo 17 = .ok (.iload_n 2, 1) := by decide +kernel
theorem dX12_areTwo_18 : decode cX12_areTwo 18 = .ok (.if_icmp .eq 7, 3) := by decide +kernel
theorem dX12_areTwo_21 : decode cX12_areTwo 21 = .ok (.iconst 1, 1) := by decide +kernel
theorem dX12_areTwo_22 : decode cX12_areTwo 22 = .ok (.goto 4, 3) := by decide +kernel
theorem dX12_areTwo_25 : decode cX12_areTwo 25 = .ok (.iconst 0, 1) := by decide +kernel
theorem dX12_areTwo_26 : decode cX12_areTwo 26 = .ok (.ireturn, 1) := by decide +kernel
theorem dX12_lays_0 : decode cX12_lays 0 = .ok (.iconst 0, 1) := by decide +kernel
theorem dX12_lays_1 : decode cX12_lays 1 = .ok (.istore_n 2, 1) := by decide +kernel
theorem dX12_lays_2 : decode cX12_lays 2 = .ok (.iload_n 2, 1) := by decide +kernel
theorem dX12_lays_3 : decode cX12_lays 3 = .ok (.bipush 29, 2) := by decide +kernel
theorem dX12_lays_5 : decode cX12_lays 5 = .ok (.if_icmp .ge 15, 3) := by decide +kernel
theorem dX12_lays_8 : decode cX12_lays 8 = .ok (.aload_n 1, 1) := by decide +kernel
theorem dX12_lays_9 : decode cX12_lays 9 = .ok (.iload_n 2, 1) := by decide +kernel
theorem dX12_lays_10 : decode cX12_lays 10 = .ok (.aload_n 0, 1) := by decide +kernel
theorem dX12_lays_11 : decode cX12_lays 11 = .ok (.iload_n 2, 1) := by decide +kernel
theorem dX12_lays_12 : decode cX12_lays 12 = .ok (.iaload, 1) := by decide +kernel
theorem dX12_lays_13 : decode cX12_lays 13 = .ok (.iastore, 1) := by decide +kernel
theorem dX12_lays_14 : decode cX12_lays 14 = .ok (.iinc 2 1, 3) := by decide +kernel
theorem dX12_lays_17 : decode cX12_lays 17 = .ok (.goto (-15), 3) := by decide +kernel
theorem dX12_lays_20 : decode cX12_lays 20 = .ok (.return_, 1) := by decide +kernel
set_option maxRecDepth 20000 in
theorem ggX12_begins_X12_lays : GoodIn wsX12_begins wsX12_lays := goodIn_r _ [6] (by decide +kernel) (by decide +kernel)
set_option maxRecDepth 20000 in
theorem gX12_begins_X12_lays : GoodIn wsX12_begins (va_wsS RX12 60 yX12_lays wsX12_lays) := goodIn_app (goodIn_of _ (by decide +kernel)) ggX12_begins_X12_lays
theorem dX12_begins_0 : decode cX12_begins 0 = .ok (.aload_n 0, 1) := by decide +kernel
theorem dX12_begins_1 : decode cX12_begins 1 = .ok (.getfield 9, 3) := by decide +kernel
theorem dX12_begins_4 : decode cX12_begins 4 = .ok (.aload_n 0, 1) := by decide +kernel
theorem dX12_begins_5 : decode cX12_begins 5 = .ok (.getfield 19, 3) := by decide +kernel
theorem dX12_begins_8 : decode cX12_begins 8 = .ok (.invokestatic 60, 3) := by decide +kernel
theorem dX12_begins_11 : decode cX12_begins 11 = .ok (.return_, 1) := by decide +kernel
set_option maxRecDepth 20000 in
theorem ggX12_ends_X12_lays : GoodIn wsX12_ends wsX12_lays := goodIn_r _ [6] (by decide +kernel) (by decide +kernel)
set_option maxRecDepth 20000 in
theorem gX12_ends_X12_lays : GoodIn wsX12_ends (va_wsS RX12 60 yX12_lays wsX12_lays) := goodIn_app (goodIn_of _ (by decide +kernel)) ggX12_ends_X12_lays
theorem dX12_ends_0 : decode cX12_ends 0 = .ok (.aload_n 0, 1) := by decide +kernel
theorem dX12_ends_1 : decode cX12_ends 1 = .ok (.getfield 19, 3) := by decide +kernel
theorem dX12_ends_4 : decode cX12_ends 4 = .ok (.aload_n 0, 1) := by decide +kernel
theorem dX12_ends_5 : decode cX12_ends 5 = .ok (.getfield 9, 3) := by decide +kernel
theorem dX12_ends_8 : decode cX12_ends 8 = .ok (.invokestatic 60, 3) := by decide +kernel
theorem dX12_ends_11 : decode cX12_ends 11 = .ok (.return_, 1) := by decide +kernel
theorem dX12_get_0 : decode cX12_get 0 = .ok (.aload_n 0, 1) := by decide +kernel
theorem dX12_get_1 : decode cX12_get 1 = .ok (.getfield 9, 3) := by decide +kernel
theorem dX12_get_4 : decode cX12_get 4 = .ok (.iconst 2, 1) := by decide +kernel
theorem dX12_get_5 : decode cX12_get 5 = .ok (.iconst 3, 1) := by decide +kernel
theorem dX12_get_6 : decode cX12_get 6 = .ok (.iload_n 1, 1) := by decide +kernel
theorem dX12_get_7 : decode cX12_get 7 = .ok (.imul, 1) := by decide +kernel
theorem dX12_get_8 : decode cX12_get 8 = .ok (.iadd, 1) := by decide +kernel
theorem dX12_get_9 : decode cX12_get 9 = .ok (.iload_n 2, 1) := by decide +kernel
theorem dX12_get_10 : decode cX12_get 10 = .ok (.iadd, 1) := by decide +kernel
theorem dX12_get_11 : decode cX12_get 11 = .ok (.iaload, 1) := by decide +kernel
theorem dX12_get_12 : decode cX12_get 12 = .ok (.ireturn, 1) := by decide +kernel
theorem dX12_puts_0 : decode cX12_puts 0 = .ok (.aload_n 0, 1) := by decide +kernel
theorem dX12_puts_1 : decode cX12_puts 1 = .ok (.getfield 9, 3) := by decide +kernel
theorem dX12_puts_4 : decode cX12_puts 4 = .ok (.iconst 2, 1) := by decide +kernel
theorem dX12_puts_5 : decode cX12_puts 5 = .ok (.iconst 3, 1) := by decide +kernel
theorem dX12_puts_6 : decode cX12_puts 6 = .ok (.iload_n 1, 1) := by decide +kernel
theorem dX12_puts_7 : decode cX12_puts 7 = .ok (.imul, 1) := by decide +kernel
theorem dX12_puts_8 : decode cX12_puts 8 = .ok (.iadd, 1) := by decide +kernel
theorem dX12_puts_9 : decode cX12_puts 9 = .ok (.iload_n 2, 1) := by decide +kernel
theorem dX12_puts_10 : decode cX12_puts 10 = .ok (.iadd, 1) := by decide +kernel
theorem dX12_puts_11 : decode cX12_puts 11 = .ok (.iload_n 3, 1) := by decide +kernel
theorem dX12_puts_12 : decode cX12_puts 12 = .ok (.iastore, 1) := by decide +kernel
theorem dX12_puts_13 : decode cX12_puts 13 = .ok (.return_, 1) := by decide +kernel
set_option maxRecDepth 20000 in
theorem ggX12_kind_X12_get : GoodIn wsX12_kind wsX12_get := goodIn_r _ [5, 6, 7, 8, 9, 10, 11, 12, 13, 14, 15, 16, 17, 18, 19, 20, 21, 22, 23, 24, 25, 26, 27, 28, 29, 30] (by decide +kernel) (by decide +kernel)
set_option maxRecDepth 20000 in
theorem gX12_kind_X12_get : GoodIn wsX12_kind (wsV RX12 64 RX12 yX12_get wsX12_get) := goodIn_app (goodIn_of _ (by decide +kernel)) ggX12_kind_X12_get
theorem dX12_kind_0 : decode cX12_kind 0 = .ok (.aload_n 0, 1) := by decide +kernel
theorem dX12_kind_1 : decode cX12_kind 1 = .ok (.iload_n 1, 1) := by decide +kernel
theorem dX12_kind_2 : decode cX12_kind 2 = .ok (.iconst 0, 1) := by decide +kernel
theorem dX12_kind_3 : decode cX12_kind 3 = .ok (.invokevirtual 64, 3) := by decide +kernel
theorem dX12_kind_6 : decode cX12_kind 6 = .ok (.ireturn, 1) := by decide +kernel
set_option maxRecDepth 20000 in
theorem ggX12_figure_X12_get : GoodIn wsX12_figure wsX12_get := goodIn_r _ [5, 6, 7, 8, 9, 10, 11, 12, 13, 14, 15, 16, 17, 18, 19, 20, 21, 22, 23, 24, 25, 26, 27, 28, 29, 30] (by decide +kernel) (by decide +kernel)
set_option maxRecDepth 20000 in
theorem gX12_figure_X12_get : GoodIn wsX12_figure (wsV RX12 64 RX12 yX12_get wsX12_get) := goodIn_app (goodIn_of _ (by decide +kernel)) ggX12_figure_X12_get
theorem dX12_figure_0 : decode cX12_figure 0 = .ok (.aload_n 0, 1) := by decide +kernel
theorem dX12_figure_1 : decode cX12_figure 1 = .ok (.iload_n 1, 1) := by decide +kernel
theorem dX12_figure_2 : decode cX12_figure 2 = .ok (.iconst 1, 1) := by decide +kernel
theorem dX12_figure_3 : decode cX12_figure 3 = .ok (.invokevirtual 64, 3) := by decide +kernel
theorem dX12_figure_6 : decode cX12_figure 6 = .ok (.ireturn, 1) := by decide +kernel
set_option maxRecDepth 20000 in
theorem ggX12_purse_X12_get : GoodIn wsX12_purse wsX12_get := goodIn_r _ [5, 6, 7, 8, 9, 10, 11, 12, 13, 14, 15, 16, 17, 18, 19, 20, 21, 22, 23, 24, 25, 26, 27, 28, 29, 30] (by decide +kernel) (by decide +kernel)
set_option maxRecDepth 20000 in
theorem gX12_purse_X12_get : GoodIn wsX12_purse (wsV RX12 64 RX12 yX12_get wsX12_get) := goodIn_app (goodIn_of _ (by decide +kernel)) ggX12_purse_X12_get
theorem dX12_purse_0 : decode cX12_purse 0 = .ok (.aload_n 0, 1) := by decide +kernel
theorem dX12_purse_1 : decode cX12_purse 1 = .ok (.iload_n 1, 1) := by decide +kernel
theorem dX12_purse_2 : decode cX12_purse 2 = .ok (.iconst 2, 1) := by decide +kernel
theorem dX12_purse_3 : decode cX12_purse 3 = .ok (.invokevirtual 64, 3) := by decide +kernel
theorem dX12_purse_6 : decode cX12_purse 6 = .ok (.ireturn, 1) := by decide +kernel
set_option maxRecDepth 20000 in
theorem ggX12_coins_X12_purse : GoodIn wsX12_coins wsX12_purse := goodIn_r _ [6, 7, 8, 9, 5, 10, 1, 11, 12, 13, 14, 15, 16, 17, 18, 19, 20, 21, 22, 23, 24, 25, 26, 27, 28, 29, 30, 31, 32, 33, 34] (by decide +kernel) (by decide +kernel)
set_option maxRecDepth 20000 in
theorem gX12_coins_X12_purse : GoodIn wsX12_coins (wsV RX12 68 RX12 yX12_purse wsX12_purse) := goodIn_app (goodIn_of _ (by decide +kernel)) ggX12_coins_X12_purse
theorem dX12_coins_0 : decode cX12_coins 0 = .ok (.iconst 0, 1) := by decide +kernel
theorem dX12_coins_1 : decode cX12_coins 1 = .ok (.istore_n 1, 1) := by decide +kernel
theorem dX12_coins_2 : decode cX12_coins 2 = .ok (.iconst 0, 1) := by decide +kernel
theorem dX12_coins_3 : decode cX12_coins 3 = .ok (.istore_n 2, 1) := by decide +kernel
theorem dX12_coins_4 : decode cX12_coins 4 = .ok (.iload_n 2, 1) := by decide +kernel
theorem dX12_coins_5 : decode cX12_coins 5 = .ok (.aload_n 0, 1) := by decide +kernel
theorem dX12_coins_6 : decode cX12_coins 6 = .ok (.getfield 9, 3) := by decide +kernel
theorem dX12_coins_9 : decode cX12_coins 9 = .ok (.iconst 0, 1) := by decide +kernel
theorem dX12_coins_10 : decode cX12_coins 10 = .ok (.iaload, 1) := by decide +kernel
theorem dX12_coins_11 : decode cX12_coins 11 = .ok (.if_icmp .ge 17, 3) := by decide +kernel
theorem dX12_coins_14 : decode cX12_coins 14 = .ok (.iload_n 1, 1) := by decide +kernel
theorem dX12_coins_15 : decode cX12_coins 15 = .ok (.aload_n 0, 1) := by decide +kernel
theorem dX12_coins_16 : decode cX12_coins 16 = .ok (.iload_n 2, 1) := by decide +kernel
theorem dX12_coins_17 : decode cX12_coins 17 = .ok (.invokevirtual 68, 3) := by decide +kernel
theorem dX12_coins_20 : decode cX12_coins 20 = .ok (.iadd, 1) := by decide +kernel
theorem dX12_coins_21 : decode cX12_coins 21 = .ok (.istore_n 1, 1) := by decide +kernel
theorem dX12_coins_22 : decode cX12_coins 22 = .ok (.iinc 2 1, 3) := by decide +kernel
theorem dX12_coins_25 : decode cX12_coins 25 = .ok (.goto (-21), 3) := by decide +kernel
theorem dX12_coins_28 : decode cX12_coins 28 = .ok (.iload_n 1, 1) := by decide +kernel
theorem dX12_coins_29 : decode cX12_coins 29 = .ok (.ireturn, 1) := by decide +kernel
set_option maxRecDepth 20000 in
theorem ggX12_isLookedAt_X12_kind : GoodIn wsX12_isLookedAt wsX12_kind := goodIn_r _ [5, 6, 7, 8, 4, 9, 10, 11, 12, 13, 14, 15, 16, 17, 18, 19, 20, 21, 22, 23, 24, 25, 26, 27, 28, 29, 30, 31, 32, 33, 34] (by decide +kernel) (by decide +kernel)
set_option maxRecDepth 20000 in
theorem gX12_isLookedAt_X12_kind : GoodIn wsX12_isLookedAt (wsV RX12 72 RX12 yX12_kind wsX12_kind) := goodIn_app (goodIn_of _ (by decide +kernel)) ggX12_isLookedAt_X12_kind
theorem dX12_isLookedAt_0 : decode cX12_isLookedAt 0 = .ok (.aload_n 0, 1) := by decide +kernel
theorem dX12_isLookedAt_1 : decode cX12_isLookedAt 1 = .ok (.iload_n 1, 1) := by decide +kernel
theorem dX12_isLookedAt_2 : decode cX12_isLookedAt 2 = .ok (.invokevirtual 72, 3) := by decide +kernel
theorem dX12_isLookedAt_5 : decode cX12_isLookedAt 5 = .ok (.iconst 3, 1) := by decide +kernel
theorem dX12_isLookedAt_6 : decode cX12_isLookedAt 6 = .ok (.if_icmp .eq 7, 3) := by decide +kernel
theorem dX12_isLookedAt_9 : decode cX12_isLookedAt 9 = .ok (.iconst 1, 1) := by decide +kernel
theorem dX12_isLookedAt_10 : decode cX12_isLookedAt 10 = .ok (.goto 4, 3) := by decide +kernel
theorem dX12_isLookedAt_13 : decode cX12_isLookedAt 13 = .ok (.iconst 0, 1) := by decide +kernel
theorem dX12_isLookedAt_14 : decode cX12_isLookedAt 14 = .ok (.ireturn, 1) := by decide +kernel
set_option maxRecDepth 20000 in
theorem ggX12_shows_X12_purse : GoodIn wsX12_shows wsX12_purse := goodIn_r _ [5, 6, 7, 8, 4, 9, 10, 19, 20, 21, 22, 23, 24, 25, 26, 27, 28, 29, 30, 31, 32, 33, 34, 35, 36, 37, 38, 39, 40, 41, 42] (by decide +kernel) (by decide +kernel)
set_option maxRecDepth 20000 in
theorem gX12_shows_X12_purse : GoodIn wsX12_shows (wsV RX12 68 RX12 yX12_purse wsX12_purse) := goodIn_app (goodIn_of _ (by decide +kernel)) ggX12_shows_X12_purse
set_option maxRecDepth 20000 in
theorem ggX12_shows_X12_kind : GoodIn wsX12_shows wsX12_kind := goodIn_r _ [14, 6, 7, 8, 4, 9, 10, 19, 20, 21, 22, 23, 24, 25, 26, 27, 28, 29, 30, 31, 32, 33, 34, 35, 36, 37, 38, 39, 40, 41, 42] (by decide +kernel) (by decide +kernel)
set_option maxRecDepth 20000 in
theorem gX12_shows_X12_kind : GoodIn wsX12_shows (wsV RX12 72 RX12 yX12_kind wsX12_kind) := goodIn_app (goodIn_of _ (by decide +kernel)) ggX12_shows_X12_kind
set_option maxRecDepth 20000 in
theorem ggX12_shows_X12_figure : GoodIn wsX12_shows wsX12_figure := goodIn_r _ [18, 6, 7, 8, 4, 9, 10, 19, 20, 21, 22, 23, 24, 25, 26, 27, 28, 29, 30, 31, 32, 33, 34, 35, 36, 37, 38, 39, 40, 41, 42] (by decide +kernel) (by decide +kernel)
set_option maxRecDepth 20000 in
theorem gX12_shows_X12_figure : GoodIn wsX12_shows (wsV RX12 75 RX12 yX12_figure wsX12_figure) := goodIn_app (goodIn_of _ (by decide +kernel)) ggX12_shows_X12_figure
theorem dX12_shows_0 : decode cX12_shows 0 = .ok (.aload_n 0, 1) := by decide +kernel
theorem dX12_shows_1 : decode cX12_shows 1 = .ok (.iload_n 1, 1) := by decide +kernel
theorem dX12_shows_2 : decode cX12_shows 2 = .ok (.invokevirtual 68, 3) := by decide +kernel
theorem dX12_shows_5 : decode cX12_shows 5 = .ok (.istore_n 2, 1) := by decide +kernel
theorem dX12_shows_6 : decode cX12_shows 6 = .ok (.aload_n 0, 1) := by decide +kernel
theorem dX12_shows_7 : decode cX12_shows 7 = .ok (.iload_n 1, 1) := by decide +kernel
theorem dX12_shows_8 : decode cX12_shows 8 = .ok (.invokevirtual 72, 3) := by decide +kernel
theorem dX12_shows_11 : decode cX12_shows 11 = .ok (.tableswitch 55 2 5 #[29, 55, 37, 41], 29) := by decide +kernel
theorem dX12_shows_40 : decode cX12_shows 40 = .ok (.bipush 9, 2) := by decide +kernel
theorem dX12_shows_42 : decode cX12_shows 42 = .ok (.iload_n 2, 1) := by decide +kernel
theorem dX12_shows_43 : decode cX12_shows 43 = .ok (.imul, 1) := by decide +kernel
theorem dX12_shows_44 : decode cX12_shows 44 = .ok (.bipush 10, 2) := by decide +kernel
theorem dX12_shows_46 : decode cX12_shows 46 = .ok (.idiv, 1) := by decide +kernel
theorem dX12_shows_47 : decode cX12_shows 47 = .ok (.ireturn, 1) := by decide +kernel
theorem dX12_shows_48 : decode cX12_shows 48 = .ok (.iload_n 2, 1) := by decide +kernel
theorem dX12_shows_49 : decode cX12_shows 49 = .ok (.iconst 2, 1) := by decide +kernel
theorem dX12_shows_50 : decode cX12_shows 50 = .ok (.idiv, 1) := by decide +kernel
theorem dX12_shows_51 : decode cX12_shows 51 = .ok (.ireturn, 1) := by decide +kernel
theorem dX12_shows_52 : decode cX12_shows 52 = .ok (.bipush 9, 2) := by decide +kernel
theorem dX12_shows_54 : decode cX12_shows 54 = .ok (.iload_n 2, 1) := by decide +kernel
theorem dX12_shows_55 : decode cX12_shows 55 = .ok (.imul, 1) := by decide +kernel
theorem dX12_shows_56 : decode cX12_shows 56 = .ok (.bipush 10, 2) := by decide +kernel
theorem dX12_shows_58 : decode cX12_shows 58 = .ok (.idiv, 1) := by decide +kernel
theorem dX12_shows_59 : decode cX12_shows 59 = .ok (.aload_n 0, 1) := by decide +kernel
theorem dX12_shows_60 : decode cX12_shows 60 = .ok (.iload_n 1, 1) := by decide +kernel
theorem dX12_shows_61 : decode cX12_shows 61 = .ok (.invokevirtual 75, 3) := by decide +kernel
theorem dX12_shows_64 : decode cX12_shows 64 = .ok (.iadd, 1) := by decide +kernel
theorem dX12_shows_65 : decode cX12_shows 65 = .ok (.ireturn, 1) := by decide +kernel
theorem dX12_shows_66 : decode cX12_shows 66 = .ok (.iload_n 2, 1) := by decide +kernel
theorem dX12_shows_67 : decode cX12_shows 67 = .ok (.ireturn, 1) := by decide +kernel
set_option maxRecDepth 20000 in
theorem ggX12_mayHave_X12_figure : GoodIn wsX12_mayHave wsX12_figure := goodIn_r _ [5, 6, 7, 8, 4, 9, 10, 15, 16, 17, 18, 19, 20, 21, 22, 23, 24, 25, 26, 27, 28, 29, 30, 31, 32, 33, 34, 35, 36, 37, 38] (by decide +kernel) (by decide +kernel)
set_option maxRecDepth 20000 in
theorem gX12_mayHave_X12_figure : GoodIn wsX12_mayHave (wsV RX12 75 RX12 yX12_figure wsX12_figure) := goodIn_app (goodIn_of _ (by decide +kernel)) ggX12_mayHave_X12_figure
set_option maxRecDepth 20000 in
theorem ggX12_mayHave_X12_kind : GoodIn wsX12_mayHave wsX12_kind := goodIn_r _ [14, 6, 7, 8, 4, 9, 10, 15, 16, 17, 18, 19, 20, 21, 22, 23, 24, 25, 26, 27, 28, 29, 30, 31, 32, 33, 34, 35, 36, 37, 38] (by decide +kernel) (by decide +kernel)
set_option maxRecDepth 20000 in
theorem gX12_mayHave_X12_kind : GoodIn wsX12_mayHave (wsV RX12 72 RX12 yX12_kind wsX12_kind) := goodIn_app (goodIn_of _ (by decide +kernel)) ggX12_mayHave_X12_kind
theorem dX12_mayHave_0 : decode cX12_mayHave 0 = .ok (.aload_n 0, 1) := by decide +kernel
theorem dX12_mayHave_1 : decode cX12_mayHave 1 = .ok (.iload_n 1, 1) := by decide +kernel
theorem dX12_mayHave_2 : decode cX12_mayHave 2 = .ok (.invokevirtual 75, 3) := by decide +kernel
theorem dX12_mayHave_5 : decode cX12_mayHave 5 = .ok (.istore_n 3, 1) := by decide +kernel
theorem dX12_mayHave_6 : decode cX12_mayHave 6 = .ok (.aload_n 0, 1) := by decide +kernel
theorem dX12_mayHave_7 : decode cX12_mayHave 7 = .ok (.iload_n 1, 1) := by decide +kernel
theorem dX12_mayHave_8 : decode cX12_mayHave 8 = .ok (.invokevirtual 72, 3) := by decide +kernel
theorem dX12_mayHave_11 : decode cX12_mayHave 11 = .ok (.tableswitch 80 1 7 #[41, 80, 47, 51, 80, 72, 47], 41) := by decide +kernel
theorem dX12_mayHave_52 : decode cX12_mayHave 52 = .ok (.iconst 2, 1) := by decide +kernel
theorem dX12_mayHave_53 : decode cX12_mayHave 53 = .ok (.iload_n 2, 1) := by decide +kernel
theorem dX12_mayHave_54 : decode cX12_mayHave 54 = .ok (.imul, 1) := by decide +kernel
theorem dX12_mayHave_55 : decode cX12_mayHave 55 = .ok (.iload_n 3, 1) := by decide +kernel
theorem dX12_mayHave_56 : decode cX12_mayHave 56 = .ok (.iadd, 1) := by decide +kernel
theorem dX12_mayHave_57 : decode cX12_mayHave 57 = .ok (.ireturn, 1) := by decide +kernel
theorem dX12_mayHave_58 : decode cX12_mayHave 58 = .ok (.sipush 9999, 3) := by decide +kernel
theorem dX12_mayHave_61 : decode cX12_mayHave 61 = .ok (.ireturn, 1) := by decide +kernel
theorem dX12_mayHave_62 : decode cX12_mayHave 62 = .ok (.iconst 2, 1) := by decide +kernel
theorem dX12_mayHave_63 : decode cX12_mayHave 63 = .ok (.iload_n 2, 1) := by decide +kernel
theorem dX12_mayHave_64 : decode cX12_mayHave 64 = .ok (.imul, 1) := by decide +kernel
theorem dX12_mayHave_65 : decode cX12_mayHave 65 = .ok (.iload_n 3, 1) := by decide +kernel
theorem dX12_mayHave_66 : decode cX12_mayHave 66 = .ok (.iadd, 1) := by decide +kernel
theorem dX12_mayHave_67 : decode cX12_mayHave 67 = .ok (.iconst 1, 1) := by decide +kernel
theorem dX12_mayHave_68 : decode cX12_mayHave 68 = .ok (.if_icmp .ge 7, 3) := by decide +kernel
theorem dX12_mayHave_71 : decode cX12_mayHave 71 = .ok (.iconst 0, 1) := by decide +kernel
theorem dX12_mayHave_72 : decode cX12_mayHave 72 = .ok (.goto 10, 3) := by decide +kernel
theorem dX12_mayHave_75 : decode cX12_mayHave 75 = .ok (.iconst 2, 1) := by decide +kernel
theorem dX12_mayHave_76 : decode cX12_mayHave 76 = .ok (.iload_n 2, 1) := by decide +kernel
theorem dX12_mayHave_77 : decode cX12_mayHave 77 = .ok (.imul, 1) := by decide +kernel
theorem dX12_mayHave_78 : decode cX12_mayHave 78 = .ok (.iload_n 3, 1) := by decide +kernel
theorem dX12_mayHave_79 : decode cX12_mayHave 79 = .ok (.iadd, 1) := by decide +kernel
theorem dX12_mayHave_80 : decode cX12_mayHave 80 = .ok (.iconst 1, 1) := by decide +kernel
theorem dX12_mayHave_81 : decode cX12_mayHave 81 = .ok (.isub, 1) := by decide +kernel
theorem dX12_mayHave_82 : decode cX12_mayHave 82 = .ok (.ireturn, 1) := by decide +kernel
theorem dX12_mayHave_83 : decode cX12_mayHave 83 = .ok (.iconst 4, 1) := by decide +kernel
theorem dX12_mayHave_84 : decode cX12_mayHave 84 = .ok (.iload_n 2, 1) := by decide +kernel
theorem dX12_mayHave_85 : decode cX12_mayHave 85 = .ok (.imul, 1) := by decide +kernel
theorem dX12_mayHave_86 : decode cX12_mayHave 86 = .ok (.iconst 2, 1) := by decide +kernel
theorem dX12_mayHave_87 : decode cX12_mayHave 87 = .ok (.iload_n 3, 1) := by decide +kernel
theorem dX12_mayHave_88 : decode cX12_mayHave 88 = .ok (.imul, 1) := by decide +kernel
theorem dX12_mayHave_89 : decode cX12_mayHave 89 = .ok (.iadd, 1) := by decide +kernel
theorem dX12_mayHave_90 : decode cX12_mayHave 90 = .ok (.ireturn, 1) := by decide +kernel
theorem dX12_mayHave_91 : decode cX12_mayHave 91 = .ok (.iconst 2, 1) := by decide +kernel
theorem dX12_mayHave_92 : decode cX12_mayHave 92 = .ok (.iload_n 2, 1) := by decide +kernel
theorem dX12_mayHave_93 : decode cX12_mayHave 93 = .ok (.imul, 1) := by decide +kernel
theorem dX12_mayHave_94 : decode cX12_mayHave 94 = .ok (.ireturn, 1) := by decide +kernel
theorem dX12_earnsBy_0 : decode cX12_earnsBy 0 = .ok (.iload_n 0, 1) := by decide +kernel
theorem dX12_earnsBy_1 : decode cX12_earnsBy 1 = .ok (.tableswitch 63 1 7 #[43, 47, 49, 51, 49, 55, 61], 43) := by decide +kernel
theorem dX12_earnsBy_44 : decode cX12_earnsBy 44 = .ok (.iconst 2, 1) := by decide +kernel
theorem dX12_earnsBy_45 : decode cX12_earnsBy 45 = .ok (.iload_n 1, 1) := by decide +kernel
theorem dX12_earnsBy_46 : decode cX12_earnsBy 46 = .ok (.iadd, 1) := by decide +kernel
theorem dX12_earnsBy_47 : decode cX12_earnsBy 47 = .ok (.ireturn, 1) := by decide +kernel
theorem dX12_earnsBy_48 : decode cX12_earnsBy 48 = .ok (.iconst 1, 1) := by decide +kernel
theorem dX12_earnsBy_49 : decode cX12_earnsBy 49 = .ok (.ireturn, 1) := by decide +kernel
theorem dX12_earnsBy_50 : decode cX12_earnsBy 50 = .ok (.iconst 0, 1) := by decide +kernel
theorem dX12_earnsBy_51 : decode cX12_earnsBy 51 = .ok (.ireturn, 1) := by decide +kernel
theorem dX12_earnsBy_52 : decode cX12_earnsBy 52 = .ok (.iconst 1, 1) := by decide +kernel
theorem dX12_earnsBy_53 : decode cX12_earnsBy 53 = .ok (.iload_n 1, 1) := by decide +kernel
theorem dX12_earnsBy_54 : decode cX12_earnsBy 54 = .ok (.iadd, 1) := by decide +kernel
theorem dX12_earnsBy_55 : decode cX12_earnsBy 55 = .ok (.ireturn, 1) := by decide +kernel
theorem dX12_earnsBy_56 : decode cX12_earnsBy 56 = .ok (.iconst 4, 1) := by decide +kernel
theorem dX12_earnsBy_57 : decode cX12_earnsBy 57 = .ok (.iconst 2, 1) := by decide +kernel
theorem dX12_earnsBy_58 : decode cX12_earnsBy 58 = .ok (.iload_n 1, 1) := by decide +kernel
theorem dX12_earnsBy_59 : decode cX12_earnsBy 59 = .ok (.imul, 1) := by decide +kernel
theorem dX12_earnsBy_60 : decode cX12_earnsBy 60 = .ok (.iadd, 1) := by decide +kernel
theorem dX12_earnsBy_61 : decode cX12_earnsBy 61 = .ok (.ireturn, 1) := by decide +kernel
theorem dX12_earnsBy_62 : decode cX12_earnsBy 62 = .ok (.iload_n 1, 1) := by decide +kernel
theorem dX12_earnsBy_63 : decode cX12_earnsBy 63 = .ok (.ireturn, 1) := by decide +kernel
theorem dX12_earnsBy_64 : decode cX12_earnsBy 64 = .ok (.iconst 2, 1) := by decide +kernel
theorem dX12_earnsBy_65 : decode cX12_earnsBy 65 = .ok (.ireturn, 1) := by decide +kernel
set_option maxRecDepth 20000 in
theorem ggX12_beside_X12_isHouse : GoodIn wsX12_beside wsX12_isHouse := goodIn_r _ [6, 1, 7, 8, 5, 9, 10, 11, 12, 13, 14, 15, 16, 17, 18, 19, 20, 21, 22, 23, 24, 25, 26, 27, 28, 29, 30, 31, 32, 33] (by decide +kernel) (by decide +kernel)
set_option maxRecDepth 20000 in
theorem gX12_beside_X12_isHouse : GoodIn wsX12_beside (wsV RX12 56 RX12 yX12_isHouse wsX12_isHouse) := goodIn_app (goodIn_of _ (by decide +kernel)) ggX12_beside_X12_isHouse
theorem dX12_beside_0 : decode cX12_beside 0 = .ok (.aload_n 0, 1) := by decide +kernel
theorem dX12_beside_1 : decode cX12_beside 1 = .ok (.getfield 9, 3) := by decide +kernel
theorem dX12_beside_4 : decode cX12_beside 4 = .ok (.iconst 0, 1) := by decide +kernel
theorem dX12_beside_5 : decode cX12_beside 5 = .ok (.iaload, 1) := by decide +kernel
theorem dX12_beside_6 : decode cX12_beside 6 = .ok (.istore_n 3, 1) := by decide +kernel
theorem dX12_beside_7 : decode cX12_beside 7 = .ok (.iload_n 2, 1) := by decide +kernel
theorem dX12_beside_8 : decode cX12_beside 8 = .ok (.ifCond .ne 9, 3) := by decide +kernel
theorem dX12_beside_11 : decode cX12_beside 11 = .ok (.iload_n 1, 1) := by decide +kernel
theorem dX12_beside_12 : decode cX12_beside 12 = .ok (.iconst 1, 1) := by decide +kernel
theorem dX12_beside_13 : decode cX12_beside 13 = .ok (.isub, 1) := by decide +kernel
theorem dX12_beside_14 : decode cX12_beside 14 = .ok (.goto 6, 3) := by decide +kernel
theorem dX12_beside_17 : decode cX12_beside 17 = .ok (.iload_n 1, 1) := by decide +kernel
theorem dX12_beside_18 : decode cX12_beside 18 = .ok (.iconst 1, 1) := by decide +kernel
theorem dX12_beside_19 : decode cX12_beside 19 = .ok (.iadd, 1) := by decide +kernel
theorem dX12_beside_20 : decode cX12_beside 20 = .ok (.istore 4, 2) := by decide +kernel
theorem dX12_beside_22 : decode cX12_beside 22 = .ok (.aload_n 0, 1) := by decide +kernel
theorem dX12_beside_23 : decode cX12_beside 23 = .ok (.iload 4, 2) := by decide +kernel
theorem dX12_beside_25 : decode cX12_beside 25 = .ok (.invokevirtual 56, 3) := by decide +kernel
theorem dX12_beside_28 : decode cX12_beside 28 = .ok (.ifCond .eq 6, 3) := by decide +kernel
theorem dX12_beside_31 : decode cX12_beside 31 = .ok (.iload 4, 2) := by decide +kernel
theorem dX12_beside_33 : decode cX12_beside 33 = .ok (.ireturn, 1) := by decide +kernel
theorem dX12_beside_34 : decode cX12_beside 34 = .ok (.aload_n 0, 1) := by decide +kernel
theorem dX12_beside_35 : decode cX12_beside 35 = .ok (.getfield 9, 3) := by decide +kernel
theorem dX12_beside_38 : decode cX12_beside 38 = .ok (.iconst 1, 1) := by decide +kernel
theorem dX12_beside_39 : decode cX12_beside 39 = .ok (.iaload, 1) := by decide +kernel
theorem dX12_beside_40 : decode cX12_beside 40 = .ok (.iconst 1, 1) := by decide +kernel
theorem dX12_beside_41 : decode cX12_beside 41 = .ok (.if_icmp .ne 17, 3) := by decide +kernel
theorem dX12_beside_44 : decode cX12_beside 44 = .ok (.iload_n 3, 1) := by decide +kernel
theorem dX12_beside_45 : decode cX12_beside 45 = .ok (.iconst 3, 1) := by decide +kernel
theorem dX12_beside_46 : decode cX12_beside 46 = .ok (.if_icmp .lt 12, 3) := by decide +kernel
theorem dX12_beside_49 : decode cX12_beside 49 = .ok (.iload 4, 2) := by decide +kernel
theorem dX12_beside_51 : decode cX12_beside 51 = .ok (.iload_n 3, 1) := by decide +kernel
theorem dX12_beside_52 : decode cX12_beside 52 = .ok (.iadd, 1) := by decide +kernel
theorem dX12_beside_53 : decode cX12_beside 53 = .ok (.iload_n 3, 1) := by decide +kernel
theorem dX12_beside_54 : decode cX12_beside 54 = .ok (.irem, 1) := by decide +kernel
theorem dX12_beside_55 : decode cX12_beside 55 = .ok (.goto 5, 3) := by decide +kernel
theorem dX12_beside_58 : decode cX12_beside 58 = .ok (.bipush (-4), 2) := by decide +kernel
theorem dX12_beside_60 : decode cX12_beside 60 = .ok (.ireturn, 1) := by decide +kernel
set_option maxRecDepth 20000 in
theorem ggX12_tooMuchBy_X12_beside : GoodIn wsX12_tooMuchBy wsX12_beside := goodIn_r _ [5, 6, 7, 8, 9, 4, 10, 11, 12, 13, 42, 43, 44, 45, 46, 47, 48, 49, 50, 51, 52, 53, 54, 55, 56, 57, 58, 59, 60, 61, 62, 63, 64, 65] (by decide +kernel) (by decide +kernel)
set_option maxRecDepth 20000 in
theorem gX12_tooMuchBy_X12_beside : GoodIn wsX12_tooMuchBy (wsV RX12 78 RX12 yX12_beside wsX12_beside) := goodIn_app (goodIn_of _ (by decide +kernel)) ggX12_tooMuchBy_X12_beside
set_option maxRecDepth 20000 in
theorem ggX12_tooMuchBy_X12_isLookedAt : GoodIn wsX12_tooMuchBy wsX12_isLookedAt := goodIn_r _ [17, 18, 19, 20, 4, 21, 22, 23, 24, 25, 6, 42, 43, 44, 45, 46, 47, 48, 49, 50, 51, 52, 53, 54, 55, 56, 57, 58, 59, 60, 61, 62, 63, 64, 65] (by decide +kernel) (by decide +kernel)
set_option maxRecDepth 20000 in
theorem gX12_tooMuchBy_X12_isLookedAt : GoodIn wsX12_tooMuchBy (wsV RX12 81 RX12 yX12_isLookedAt wsX12_isLookedAt) := goodIn_app (goodIn_of _ (by decide +kernel)) ggX12_tooMuchBy_X12_isLookedAt
set_option maxRecDepth 20000 in
theorem ggX12_tooMuchBy_X12_shows : GoodIn wsX12_tooMuchBy wsX12_shows := goodIn_r _ [29, 30, 31, 32, 4, 33, 22, 23, 24, 25, 6, 18, 19, 20, 21, 34, 35, 36, 37, 42, 43, 44, 45, 46, 47, 48, 49, 50, 51, 52, 53, 54, 55, 56, 57, 58, 59, 60, 61, 62, 63, 64, 65] (by decide +kernel) (by decide +kernel)
set_option maxRecDepth 20000 in
theorem gX12_tooMuchBy_X12_shows : GoodIn wsX12_tooMuchBy (wsV RX12 84 RX12 yX12_shows wsX12_shows) := goodIn_app (goodIn_of _ (by decide +kernel)) ggX12_tooMuchBy_X12_shows
set_option maxRecDepth 20000 in
theorem ggX12_tooMuchBy_X12_mayHave : GoodIn wsX12_tooMuchBy wsX12_mayHave := goodIn_r _ [41, 34, 35, 36, 4, 37, 22, 23, 24, 25, 6, 18, 19, 20, 21, 42, 43, 44, 45, 46, 47, 48, 49, 50, 51, 52, 53, 54, 55, 56, 57, 58, 59, 60, 61, 62, 63, 64, 65] (by decide +kernel) (by decide +kernel)
set_option maxRecDepth 20000 in
theorem gX12_tooMuchBy_X12_mayHave : GoodIn wsX12_tooMuchBy (wsV RX12 87 RX12 yX12_mayHave wsX12_mayHave) := goodIn_app (goodIn_of _ (by decide +kernel)) ggX12_tooMuchBy_X12_mayHave
theorem dX12_tooMuchBy_0 : decode cX12_tooMuchBy 0 = .ok (.iconst 0, 1) := by decide +kernel
theorem dX12_tooMuchBy_1 : decode cX12_tooMuchBy 1 = .ok (.istore_n 3, 1) := by decide +kernel
theorem dX12_tooMuchBy_2 : decode cX12_tooMuchBy 2 = .ok (.iconst 0, 1) := by decide +kernel
theorem dX12_tooMuchBy_3 : decode cX12_tooMuchBy 3 = .ok (.istore 4, 2) := by decide +kernel
theorem dX12_tooMuchBy_5 : decode cX12_tooMuchBy 5 = .ok (.iload 4, 2) := by decide +kernel
theorem dX12_tooMuchBy_7 : decode cX12_tooMuchBy 7 = .ok (.iconst 2, 1) := by decide +kernel
theorem dX12_tooMuchBy_8 : decode cX12_tooMuchBy 8 = .ok (.if_icmp .ge 54, 3) := by decide +kernel
theorem dX12_tooMuchBy_11 : decode cX12_tooMuchBy 11 = .ok (.aload_n 0, 1) := by decide +kernel
theorem dX12_tooMuchBy_12 : decode cX12_tooMuchBy 12 = .ok (.iload_n 1, 1) := by decide +kernel
theorem dX12_tooMuchBy_13 : decode cX12_tooMuchBy 13 = .ok (.iload 4, 2) := by decide +kernel
theorem dX12_tooMuchBy_15 : decode cX12_tooMuchBy 15 = .ok (.invokevirtual 78, 3) := by decide +kernel
theorem dX12_tooMuchBy_18 : decode cX12_tooMuchBy 18 = .ok (.istore 5, 2) := by decide +kernel
theorem dX12_tooMuchBy_20 : decode cX12_tooMuchBy 20 = .ok (.iload 5, 2) := by decide +kernel
theorem dX12_tooMuchBy_22 : decode cX12_tooMuchBy 22 = .ok (.ifCond .lt 34, 3) := by decide +kernel
theorem dX12_tooMuchBy_25 : decode cX12_tooMuchBy 25 = .ok (.aload_n 0, 1) := by decide +kernel
theorem dX12_tooMuchBy_26 : decode cX12_tooMuchBy 26 = .ok (.iload 5, 2) := by decide +kernel
theorem dX12_tooMuchBy_28 : decode cX12_tooMuchBy 28 = .ok (.invokevirtual 81, 3) := by decide +kernel
theorem dX12_tooMuchBy_31 : decode cX12_tooMuchBy 31 = .ok (.ifCond .eq 25, 3) := by decide +kernel
theorem dX12_tooMuchBy_34 : decode cX12_tooMuchBy 34 = .ok (.iload_n 2, 1) := by decide +kernel
theorem dX12_tooMuchBy_35 : decode cX12_tooMuchBy 35 = .ok (.aload_n 0, 1) := by decide +kernel
theorem dX12_tooMuchBy_36 : decode cX12_tooMuchBy 36 = .ok (.iload_n 1, 1) := by decide +kernel
theorem dX12_tooMuchBy_37 : decode cX12_tooMuchBy 37 = .ok (.aload_n 0, 1) := by decide +kernel
theorem dX12_tooMuchBy_38 : decode cX12_tooMuchBy 38 = .ok (.iload 5, 2) := by decide +kernel
theorem dX12_tooMuchBy_40 : decode cX12_tooMuchBy 40 = .ok (.invokevirtual 84, 3) := by decide +kernel
theorem dX12_tooMuchBy_43 : decode cX12_tooMuchBy 43 = .ok (.invokevirtual 87, 3) := by decide +kernel
theorem dX12_tooMuchBy_46 : decode cX12_tooMuchBy 46 = .ok (.if_icmp .le 10, 3) := by decide +kernel
theorem dX12_tooMuchBy_49 : decode cX12_tooMuchBy 49 = .ok (.iload_n 3, 1) := by decide +kernel
theorem dX12_tooMuchBy_50 : decode cX12_tooMuchBy 50 = .ok (.iconst 1, 1) := by decide +kernel
theorem dX12_tooMuchBy_51 : decode cX12_tooMuchBy 51 = .ok (.iload 5, 2) := by decide +kernel
theorem dX12_tooMuchBy_53 : decode cX12_tooMuchBy 53 = .ok (.ishl, 1) := by decide +kernel
theorem dX12_tooMuchBy_54 : decode cX12_tooMuchBy 54 = .ok (.ior, 1) := by decide +kernel
theorem dX12_tooMuchBy_55 : decode cX12_tooMuchBy 55 = .ok (.istore_n 3, 1) := by decide +kernel
theorem dX12_tooMuchBy_56 : decode cX12_tooMuchBy 56 = .ok (.iinc 4 1, 3) := by decide +kernel
theorem dX12_tooMuchBy_59 : decode cX12_tooMuchBy 59 = .ok (.goto (-54), 3) := by decide +kernel
theorem dX12_tooMuchBy_62 : decode cX12_tooMuchBy 62 = .ok (.iload_n 3, 1) := by decide +kernel
theorem dX12_tooMuchBy_63 : decode cX12_tooMuchBy 63 = .ok (.ireturn, 1) := by decide +kernel
theorem dX12_bits_0 : decode cX12_bits 0 = .ok (.iconst 0, 1) := by decide +kernel
theorem dX12_bits_1 : decode cX12_bits 1 = .ok (.istore_n 1, 1) := by decide +kernel
theorem dX12_bits_2 : decode cX12_bits 2 = .ok (.iload_n 0, 1) := by decide +kernel
theorem dX12_bits_3 : decode cX12_bits 3 = .ok (.istore_n 2, 1) := by decide +kernel
theorem dX12_bits_4 : decode cX12_bits 4 = .ok (.iload_n 2, 1) := by decide +kernel
theorem dX12_bits_5 : decode cX12_bits 5 = .ok (.ifCond .le 16, 3) := by decide +kernel
theorem dX12_bits_8 : decode cX12_bits 8 = .ok (.iload_n 1, 1) := by decide +kernel
theorem dX12_bits_9 : decode cX12_bits 9 = .ok (.iload_n 2, 1) := by decide +kernel
theorem dX12_bits_10 : decode cX12_bits 10 = .ok (.iconst 1, 1) := by decide +kernel
theorem dX12_bits_11 : decode cX12_bits 11 = .ok (.iand, 1) := by decide +kernel
theorem dX12_bits_12 : decode cX12_bits 12 = .ok (.iadd, 1) := by decide +kernel
theorem dX12_bits_13 : decode cX12_bits 13 = .ok (.istore_n 1, 1) := by decide +kernel
theorem dX12_bits_14 : decode cX12_bits 14 = .ok (.iload_n 2, 1) := by decide +kernel
theorem dX12_bits_15 : decode cX12_bits 15 = .ok (.iconst 1, 1) := by decide +kernel
theorem dX12_bits_16 : decode cX12_bits 16 = .ok (.ishr, 1) := by decide +kernel
theorem dX12_bits_17 : decode cX12_bits 17 = .ok (.istore_n 2, 1) := by decide +kernel
theorem dX12_bits_18 : decode cX12_bits 18 = .ok (.goto (-14), 3) := by decide +kernel
theorem dX12_bits_21 : decode cX12_bits 21 = .ok (.iload_n 1, 1) := by decide +kernel
theorem dX12_bits_22 : decode cX12_bits 22 = .ok (.ireturn, 1) := by decide +kernel
set_option maxRecDepth 20000 in
theorem ggX12_breachesOf_X12_purse : GoodIn wsX12_breachesOf wsX12_purse := goodIn_r _ [5, 6, 7, 8, 4, 9, 10, 49, 50, 51, 52, 53, 54, 55, 56, 57, 58, 59, 60, 61, 62, 63, 64, 65, 66, 67, 68, 69, 70, 71, 72] (by decide +kernel) (by decide +kernel)
set_option maxRecDepth 20000 in
theorem gX12_breachesOf_X12_purse : GoodIn wsX12_breachesOf (wsV RX12 68 RX12 yX12_purse wsX12_purse) := goodIn_app (goodIn_of _ (by decide +kernel)) ggX12_breachesOf_X12_purse
set_option maxRecDepth 20000 in
theorem ggX12_breachesOf_X12_tooMuchBy : GoodIn wsX12_breachesOf wsX12_tooMuchBy := goodIn_r _ [14, 15, 16, 17, 4, 18, 10, 19, 20, 21, 22, 23, 24, 25, 26, 27, 28, 29, 30, 31, 32, 33, 6, 7, 8, 9, 34, 35, 36, 37, 1, 2, 3, 5, 38, 39, 40, 41, 42, 43, 44, 45, 49, 50, 51, 52, 53, 54, 55, 56, 57, 58, 59, 60, 61, 62, 63, 64, 65, 66, 67, 68, 69, 70, 71, 72] (by decide +kernel) (by decide +kernel)
set_option maxRecDepth 20000 in
theorem gX12_breachesOf_X12_tooMuchBy : GoodIn wsX12_breachesOf (wsV RX12 90 RX12 yX12_tooMuchBy wsX12_tooMuchBy) := goodIn_app (goodIn_of _ (by decide +kernel)) ggX12_breachesOf_X12_tooMuchBy
set_option maxRecDepth 20000 in
theorem ggX12_breachesOf_X12_bits : GoodIn wsX12_breachesOf wsX12_bits := goodIn_r _ [48] (by decide +kernel) (by decide +kernel)
set_option maxRecDepth 20000 in
theorem gX12_breachesOf_X12_bits : GoodIn wsX12_breachesOf (va_wsS RX12 93 yX12_bits wsX12_bits) := goodIn_app (goodIn_of _ (by decide +kernel)) ggX12_breachesOf_X12_bits
theorem dX12_breachesOf_0 : decode cX12_breachesOf 0 = .ok (.aload_n 0, 1) := by decide +kernel
theorem dX12_breachesOf_1 : decode cX12_breachesOf 1 = .ok (.iload_n 1, 1) := by decide +kernel
theorem dX12_breachesOf_2 : decode cX12_breachesOf 2 = .ok (.aload_n 0, 1) := by decide +kernel
theorem dX12_breachesOf_3 : decode cX12_breachesOf 3 = .ok (.iload_n 1, 1) := by decide +kernel
theorem dX12_breachesOf_4 : decode cX12_breachesOf 4 = .ok (.invokevirtual 68, 3) := by decide +kernel
theorem dX12_breachesOf_7 : decode cX12_breachesOf 7 = .ok (.invokevirtual 90, 3) := by decide +kernel
theorem dX12_breachesOf_10 : decode cX12_breachesOf 10 = .ok (.invokestatic 93, 3) := by decide +kernel
theorem dX12_breachesOf_13 : decode cX12_breachesOf 13 = .ok (.ireturn, 1) := by decide +kernel
set_option maxRecDepth 20000 in
theorem ggX12_breachesAll_X12_breachesOf : GoodIn wsX12_breachesAll wsX12_breachesOf := goodIn_r _ [6, 7, 8, 9, 5, 10, 11, 12, 13, 14, 1, 15, 16, 17, 18, 19, 20, 21, 22, 23, 24, 25, 26, 27, 28, 29, 30, 31, 32, 33, 34, 35, 36, 37, 38, 39, 40, 41, 42, 43, 44, 45, 46, 47, 48, 49, 50, 51, 52, 53, 54, 55, 56, 57, 58, 59, 60, 61, 62, 63, 64, 65, 66, 67, 68, 69, 70, 71, 72, 73, 74, 75, 76] (by decide +kernel) (by decide +kernel)
set_option maxRecDepth 20000 in
theorem gX12_breachesAll_X12_breachesOf : GoodIn wsX12_breachesAll (wsV RX12 96 RX12 yX12_breachesOf wsX12_breachesOf) := goodIn_app (goodIn_of _ (by decide +kernel)) ggX12_breachesAll_X12_breachesOf
theorem dX12_breachesAll_0 : decode cX12_breachesAll 0 = .ok (.iconst 0, 1) := by decide +kernel
theorem dX12_breachesAll_1 : decode cX12_breachesAll 1 = .ok (.istore_n 1, 1) := by decide +kernel
theorem dX12_breachesAll_2 : decode cX12_breachesAll 2 = .ok (.iconst 0, 1) := by decide +kernel
theorem dX12_breachesAll_3 : decode cX12_breachesAll 3 = .ok (.istore_n 2, 1) := by decide +kernel
theorem dX12_breachesAll_4 : decode cX12_breachesAll 4 = .ok (.iload_n 2, 1) := by decide +kernel
theorem dX12_breachesAll_5 : decode cX12_breachesAll 5 = .ok (.aload_n 0, 1) := by decide +kernel
theorem dX12_breachesAll_6 : decode cX12_breachesAll 6 = .ok (.getfield 9, 3) := by decide +kernel
theorem dX12_breachesAll_9 : decode cX12_breachesAll 9 = .ok (.iconst 0, 1) := by decide +kernel
theorem dX12_breachesAll_10 : decode cX12_breachesAll 10 = .ok (.iaload, 1) := by decide +kernel
theorem dX12_breachesAll_11 : decode cX12_breachesAll 11 = .ok (.if_icmp .ge 17, 3) := by decide +kernel
theorem dX12_breachesAll_14 : decode cX12_breachesAll 14 = .ok (.iload_n 1, 1) := by decide +kernel
theorem dX12_breachesAll_15 : decode cX12_breachesAll 15 = .ok (.aload_n 0, 1) := by decide +kernel
theorem dX12_breachesAll_16 : decode cX12_breachesAll 16 = .ok (.iload_n 2, 1) := by decide +kernel
theorem dX12_breachesAll_17 : decode cX12_breachesAll 17 = .ok (.invokevirtual 96, 3) := by decide +kernel
theorem dX12_breachesAll_20 : decode cX12_breachesAll 20 = .ok (.iadd, 1) := by decide +kernel
theorem dX12_breachesAll_21 : decode cX12_breachesAll 21 = .ok (.istore_n 1, 1) := by decide +kernel
theorem dX12_breachesAll_22 : decode cX12_breachesAll 22 = .ok (.iinc 2 1, 3) := by decide +kernel
theorem dX12_breachesAll_25 : decode cX12_breachesAll 25 = .ok (.goto (-21), 3) := by decide +kernel
theorem dX12_breachesAll_28 : decode cX12_breachesAll 28 = .ok (.iload_n 1, 1) := by decide +kernel
theorem dX12_breachesAll_29 : decode cX12_breachesAll 29 = .ok (.ireturn, 1) := by decide +kernel
set_option maxRecDepth 20000 in
theorem ggX12_isLawful_X12_breachesAll : GoodIn wsX12_isLawful wsX12_breachesAll := goodIn_r _ [5, 6, 7, 8, 9, 4, 10, 11, 12, 13, 14, 15, 16, 17, 18, 19, 20, 21, 22, 23, 24, 25, 26, 27, 28, 29, 30, 31, 32, 33, 34, 35, 36, 37, 38, 39, 40, 41, 42, 43, 44, 45, 46, 47, 48, 49, 50, 51, 52, 53, 54, 55, 56, 57, 58, 59, 60, 61, 62, 63, 64, 65, 66, 67, 68, 69, 70, 71, 72, 73, 74, 75, 76, 77, 78, 79, 80] (by decide +kernel) (by decide +kernel)
set_option maxRecDepth 20000 in
theorem gX12_isLawful_X12_breachesAll : GoodIn wsX12_isLawful (wsV RX12 99 RX12 yX12_breachesAll wsX12_breachesAll) := goodIn_app (goodIn_of _ (by decide +kernel)) ggX12_isLawful_X12_breachesAll
theorem dX12_isLawful_0 : decode cX12_isLawful 0 = .ok (.aload_n 0, 1) := by decide +kernel
theorem dX12_isLawful_1 : decode cX12_isLawful 1 = .ok (.invokevirtual 99, 3) := by decide +kernel
theorem dX12_isLawful_4 : decode cX12_isLawful 4 = .ok (.ifCond .ne 7, 3) := by decide +kernel
theorem dX12_isLawful_7 : decode cX12_isLawful 7 = .ok (.iconst 1, 1) := by decide +kernel
theorem dX12_isLawful_8 : decode cX12_isLawful 8 = .ok (.goto 4, 3) := by decide +kernel
theorem dX12_isLawful_11 : decode cX12_isLawful 11 = .ok (.iconst 0, 1) := by decide +kernel
theorem dX12_isLawful_12 : decode cX12_isLawful 12 = .ok (.ireturn, 1) := by decide +kernel
set_option maxRecDepth 20000 in
theorem ggX12_mostOf_X12_beside : GoodIn wsX12_mostOf wsX12_beside := goodIn_r _ [5, 6, 7, 8, 9, 4, 10, 11, 12, 13, 42, 43, 44, 45, 46, 47, 48, 49, 50, 51, 52, 53, 54, 55, 56, 57, 58, 59, 60, 61, 62, 63, 64, 65] (by decide +kernel) (by decide +kernel)
set_option maxRecDepth 20000 in
theorem gX12_mostOf_X12_beside : GoodIn wsX12_mostOf (wsV RX12 78 RX12 yX12_beside wsX12_beside) := goodIn_app (goodIn_of _ (by decide +kernel)) ggX12_mostOf_X12_beside
set_option maxRecDepth 20000 in
theorem ggX12_mostOf_X12_isLookedAt : GoodIn wsX12_mostOf wsX12_isLookedAt := goodIn_r _ [17, 18, 19, 20, 4, 21, 22, 23, 24, 25, 6, 42, 43, 44, 45, 46, 47, 48, 49, 50, 51, 52, 53, 54, 55, 56, 57, 58, 59, 60, 61, 62, 63, 64, 65] (by decide +kernel) (by decide +kernel)
set_option maxRecDepth 20000 in
theorem gX12_mostOf_X12_isLookedAt : GoodIn wsX12_mostOf (wsV RX12 81 RX12 yX12_isLookedAt wsX12_isLookedAt) := goodIn_app (goodIn_of _ (by decide +kernel)) ggX12_mostOf_X12_isLookedAt
set_option maxRecDepth 20000 in
theorem ggX12_mostOf_X12_shows : GoodIn wsX12_mostOf wsX12_shows := goodIn_r _ [29, 30, 31, 32, 4, 33, 22, 23, 24, 25, 6, 18, 19, 20, 21, 34, 35, 36, 37, 42, 43, 44, 45, 46, 47, 48, 49, 50, 51, 52, 53, 54, 55, 56, 57, 58, 59, 60, 61, 62, 63, 64, 65] (by decide +kernel) (by decide +kernel)
set_option maxRecDepth 20000 in
theorem gX12_mostOf_X12_shows : GoodIn wsX12_mostOf (wsV RX12 84 RX12 yX12_shows wsX12_shows) := goodIn_app (goodIn_of _ (by decide +kernel)) ggX12_mostOf_X12_shows
set_option maxRecDepth 20000 in
theorem ggX12_mostOf_X12_mayHave : GoodIn wsX12_mostOf wsX12_mayHave := goodIn_r _ [41, 34, 35, 36, 4, 37, 22, 23, 24, 25, 6, 18, 19, 20, 21, 42, 43, 44, 45, 46, 47, 48, 49, 50, 51, 52, 53, 54, 55, 56, 57, 58, 59, 60, 61, 62, 63, 64, 65] (by decide +kernel) (by decide +kernel)
set_option maxRecDepth 20000 in
theorem gX12_mostOf_X12_mayHave : GoodIn wsX12_mostOf (wsV RX12 87 RX12 yX12_mayHave wsX12_mayHave) := goodIn_app (goodIn_of _ (by decide +kernel)) ggX12_mostOf_X12_mayHave
theorem dX12_mostOf_0 : decode cX12_mostOf 0 = .ok (.sipush 9999, 3) := by decide +kernel
theorem dX12_mostOf_3 : decode cX12_mostOf 3 = .ok (.istore_n 2, 1) := by decide +kernel
theorem dX12_mostOf_4 : decode cX12_mostOf 4 = .ok (.iconst 0, 1) := by decide +kernel
theorem dX12_mostOf_5 : decode cX12_mostOf 5 = .ok (.istore_n 3, 1) := by decide +kernel
theorem dX12_mostOf_6 : decode cX12_mostOf 6 = .ok (.iload_n 3, 1) := by decide +kernel
theorem dX12_mostOf_7 : decode cX12_mostOf 7 = .ok (.iconst 2, 1) := by decide +kernel
theorem dX12_mostOf_8 : decode cX12_mostOf 8 = .ok (.if_icmp .ge 60, 3) := by decide +kernel
theorem dX12_mostOf_11 : decode cX12_mostOf 11 = .ok (.aload_n 0, 1) := by decide +kernel
theorem dX12_mostOf_12 : decode cX12_mostOf 12 = .ok (.iload_n 1, 1) := by decide +kernel
theorem dX12_mostOf_13 : decode cX12_mostOf 13 = .ok (.iload_n 3, 1) := by decide +kernel
theorem dX12_mostOf_14 : decode cX12_mostOf 14 = .ok (.invokevirtual 78, 3) := by decide +kernel
theorem dX12_mostOf_17 : decode cX12_mostOf 17 = .ok (.istore 4, 2) := by decide +kernel
theorem dX12_mostOf_19 : decode cX12_mostOf 19 = .ok (.iload 4, 2) := by decide +kernel
theorem dX12_mostOf_21 : decode cX12_mostOf 21 = .ok (.ifCond .lt 41, 3) := by decide +kernel
theorem dX12_mostOf_24 : decode cX12_mostOf 24 = .ok (.aload_n 0, 1) := by decide +kernel
theorem dX12_mostOf_25 : decode cX12_mostOf 25 = .ok (.iload 4, 2) := by decide +kernel
theorem dX12_mostOf_27 : decode cX12_mostOf 27 = .ok (.invokevirtual 81, 3) := by decide +kernel
theorem dX12_mostOf_30 : decode cX12_mostOf 30 = .ok (.ifCond .ne 6, 3) := by decide +kernel
theorem dX12_mostOf_33 : decode cX12_mostOf 33 = .ok (.goto 29, 3) := by decide +kernel
theorem dX12_mostOf_36 : decode cX12_mostOf 36 = .ok (.aload_n 0, 1) := by decide +kernel
theorem dX12_mostOf_37 : decode cX12_mostOf 37 = .ok (.iload_n 1, 1) := by decide +kernel
theorem dX12_mostOf_38 : decode cX12_mostOf 38 = .ok (.aload_n 0, 1) := by decide +kernel
theorem dX12_mostOf_39 : decode cX12_mostOf 39 = .ok (.iload 4, 2) := by decide +kernel
theorem dX12_mostOf_41 : decode cX12_mostOf 41 = .ok (.invokevirtual 84, 3) := by decide +kernel
theorem dX12_mostOf_44 : decode cX12_mostOf 44 = .ok (.invokevirtual 87, 3) := by decide +kernel
theorem dX12_mostOf_47 : decode cX12_mostOf 47 = .ok (.istore 5, 2) := by decide +kernel
theorem dX12_mostOf_49 : decode cX12_mostOf 49 = .ok (.iload 5, 2) := by decide +kernel
theorem dX12_mostOf_51 : decode cX12_mostOf 51 = .ok (.iload_n 2, 1) := by decide +kernel
theorem dX12_mostOf_52 : decode cX12_mostOf 52 = .ok (.if_icmp .ge 8, 3) := by decide +kernel
theorem dX12_mostOf_55 : decode cX12_mostOf 55 = .ok (.iload 5, 2) := by decide +kernel
theorem dX12_mostOf_57 : decode cX12_mostOf 57 = .ok (.goto 4, 3) := by decide +kernel
theorem dX12_mostOf_60 : decode cX12_mostOf 60 = .ok (.iload_n 2, 1) := by decide +kernel
theorem dX12_mostOf_61 : decode cX12_mostOf 61 = .ok (.istore_n 2, 1) := by decide +kernel
theorem dX12_mostOf_62 : decode cX12_mostOf 62 = .ok (.iinc 3 1, 3) := by decide +kernel
theorem dX12_mostOf_65 : decode cX12_mostOf 65 = .ok (.goto (-59), 3) := by decide +kernel
theorem dX12_mostOf_68 : decode cX12_mostOf 68 = .ok (.iload_n 2, 1) := by decide +kernel
theorem dX12_mostOf_69 : decode cX12_mostOf 69 = .ok (.ireturn, 1) := by decide +kernel
theorem dX12_here_0 : decode cX12_here 0 = .ok (.aload_n 0, 1) := by decide +kernel
theorem dX12_here_1 : decode cX12_here 1 = .ok (.getfield 103, 3) := by decide +kernel
theorem dX12_here_4 : decode cX12_here 4 = .ok (.aload_n 0, 1) := by decide +kernel
theorem dX12_here_5 : decode cX12_here 5 = .ok (.getfield 106, 3) := by decide +kernel
theorem dX12_here_8 : decode cX12_here 8 = .ok (.if_icmp .ge 20, 3) := by decide +kernel
theorem dX12_here_11 : decode cX12_here 11 = .ok (.aload_n 0, 1) := by decide +kernel
theorem dX12_here_12 : decode cX12_here 12 = .ok (.getfield 31, 3) := by decide +kernel
theorem dX12_here_15 : decode cX12_here 15 = .ok (.aload_n 0, 1) := by decide +kernel
theorem dX12_here_16 : decode cX12_here 16 = .ok (.getfield 109, 3) := by decide +kernel
theorem dX12_here_19 : decode cX12_here 19 = .ok (.aload_n 0, 1) := by decide +kernel
theorem dX12_here_20 : decode cX12_here 20 = .ok (.getfield 103, 3) := by decide +kernel
theorem dX12_here_23 : decode cX12_here 23 = .ok (.iadd, 1) := by decide +kernel
theorem dX12_here_24 : decode cX12_here 24 = .ok (.iaload, 1) := by decide +kernel
theorem dX12_here_25 : decode cX12_here 25 = .ok (.goto 6, 3) := by decide +kernel
theorem dX12_here_28 : decode cX12_here 28 = .ok (.sipush (-1000), 3) := by decide +kernel
theorem dX12_here_31 : decode cX12_here 31 = .ok (.ireturn, 1) := by decide +kernel
set_option maxRecDepth 20000 in
theorem ggX12_readsNumber_X12_here : GoodIn wsX12_readsNumber wsX12_here := goodIn_r _ [10, 3, 11, 12, 13, 17, 18, 19, 20, 21, 22, 23, 24, 25, 26, 27, 28, 29, 30, 31, 32, 33, 34, 35, 36, 37, 38, 39, 40] (by decide +kernel) (by decide +kernel)
set_option maxRecDepth 20000 in
theorem gX12_readsNumber_X12_here : GoodIn wsX12_readsNumber (wsV RX12 112 RX12 yX12_here wsX12_here) := goodIn_app (goodIn_of _ (by decide +kernel)) ggX12_readsNumber_X12_here
set_option maxRecDepth 20000 in
theorem ggX12_readsNumber_X12_isIn : GoodIn wsX12_readsNumber wsX12_isIn := goodIn_r _ [16] (by decide +kernel) (by decide +kernel)
set_option maxRecDepth 20000 in
theorem gX12_readsNumber_X12_isIn : GoodIn wsX12_readsNumber (va_wsS RX12 52 yX12_isIn wsX12_isIn) := goodIn_app (goodIn_of _ (by decide +kernel)) ggX12_readsNumber_X12_isIn
theorem dX12_readsNumber_0 : decode cX12_readsNumber 0 = .ok (.iconst 0, 1) := by decide +kernel
theorem dX12_readsNumber_1 : decode cX12_readsNumber 1 = .ok (.istore_n 2, 1) := by decide +kernel
theorem dX12_readsNumber_2 : decode cX12_readsNumber 2 = .ok (.iconst 0, 1) := by decide +kernel
theorem dX12_readsNumber_3 : decode cX12_readsNumber 3 = .ok (.istore_n 3, 1) := by decide +kernel
theorem dX12_readsNumber_4 : decode cX12_readsNumber 4 = .ok (.iload_n 3, 1) := by decide +kernel
theorem dX12_readsNumber_5 : decode cX12_readsNumber 5 = .ok (.iload_n 1, 1) := by decide +kernel
theorem dX12_readsNumber_6 : decode cX12_readsNumber 6 = .ok (.if_icmp .ge 49, 3) := by decide +kernel
theorem dX12_readsNumber_9 : decode cX12_readsNumber 9 = .ok (.aload_n 0, 1) := by decide +kernel
theorem dX12_readsNumber_10 : decode cX12_readsNumber 10 = .ok (.invokevirtual 112, 3) := by decide +kernel
theorem dX12_readsNumber_13 : decode cX12_readsNumber 13 = .ok (.i2l, 1) := by decide +kernel
theorem dX12_readsNumber_14 : decode cX12_readsNumber 14 = .ok (.ldc2_w 115, 3) := by decide +kernel
theorem dX12_readsNumber_17 : decode cX12_readsNumber 17 = .ok (.ldc2_w 117, 3) := by decide +kernel
theorem dX12_readsNumber_20 : decode cX12_readsNumber 20 = .ok (.invokestatic 52, 3) := by decide +kernel
theorem dX12_readsNumber_23 : decode cX12_readsNumber 23 = .ok (.ifCond .eq 32, 3) := by decide +kernel
theorem dX12_readsNumber_26 : decode cX12_readsNumber 26 = .ok (.bipush 10, 2) := by decide +kernel
theorem dX12_readsNumber_28 : decode cX12_readsNumber 28 = .ok (.iload_n 2, 1) := by decide +kernel
theorem dX12_readsNumber_29 : decode cX12_readsNumber 29 = .ok (.imul, 1) := by decide +kernel
theorem dX12_readsNumber_30 : decode cX12_readsNumber 30 = .ok (.aload_n 0, 1) := by decide +kernel
theorem dX12_readsNumber_31 : decode cX12_readsNumber 31 = .ok (.invokevirtual 112, 3) := by decide +kernel
theorem dX12_readsNumber_34 : decode cX12_readsNumber 34 = .ok (.iadd, 1) := by decide +kernel
theorem dX12_readsNumber_35 : decode cX12_readsNumber 35 = .ok (.bipush 48, 2) := by decide +kernel
theorem dX12_readsNumber_37 : decode cX12_readsNumber 37 = .ok (.isub, 1) := by decide +kernel
theorem dX12_readsNumber_38 : decode cX12_readsNumber 38 = .ok (.istore_n 2, 1) := by decide +kernel
theorem dX12_readsNumber_39 : decode cX12_readsNumber 39 = .ok (.aload_n 0, 1) := by decide +kernel
theorem dX12_readsNumber_40 : decode cX12_readsNumber 40 = .ok (.dup, 1) := by decide +kernel
theorem dX12_readsNumber_41 : decode cX12_readsNumber 41 = .ok (.getfield 103, 3) := by decide +kernel
theorem dX12_readsNumber_44 : decode cX12_readsNumber 44 = .ok (.iconst 1, 1) := by decide +kernel
theorem dX12_readsNumber_45 : decode cX12_readsNumber 45 = .ok (.iadd, 1) := by decide +kernel
theorem dX12_readsNumber_46 : decode cX12_readsNumber 46 = .ok (.putfield 103, 3) := by decide +kernel
theorem dX12_readsNumber_49 : decode cX12_readsNumber 49 = .ok (.iinc 3 1, 3) := by decide +kernel
theorem dX12_readsNumber_52 : decode cX12_readsNumber 52 = .ok (.goto (-48), 3) := by decide +kernel
theorem dX12_readsNumber_55 : decode cX12_readsNumber 55 = .ok (.aload_n 0, 1) := by decide +kernel
theorem dX12_readsNumber_56 : decode cX12_readsNumber 56 = .ok (.getfield 40, 3) := by decide +kernel
theorem dX12_readsNumber_59 : decode cX12_readsNumber 59 = .ok (.aload_n 0, 1) := by decide +kernel
theorem dX12_readsNumber_60 : decode cX12_readsNumber 60 = .ok (.getfield 119, 3) := by decide +kernel
theorem dX12_readsNumber_63 : decode cX12_readsNumber 63 = .ok (.iload_n 2, 1) := by decide +kernel
theorem dX12_readsNumber_64 : decode cX12_readsNumber 64 = .ok (.iastore, 1) := by decide +kernel
theorem dX12_readsNumber_65 : decode cX12_readsNumber 65 = .ok (.aload_n 0, 1) := by decide +kernel
theorem dX12_readsNumber_66 : decode cX12_readsNumber 66 = .ok (.dup, 1) := by decide +kernel
theorem dX12_readsNumber_67 : decode cX12_readsNumber 67 = .ok (.getfield 119, 3) := by decide +kernel
theorem dX12_readsNumber_70 : decode cX12_readsNumber 70 = .ok (.iconst 1, 1) := by decide +kernel
theorem dX12_readsNumber_71 : decode cX12_readsNumber 71 = .ok (.iadd, 1) := by decide +kernel
theorem dX12_readsNumber_72 : decode cX12_readsNumber 72 = .ok (.putfield 119, 3) := by decide +kernel
theorem dX12_readsNumber_75 : decode cX12_readsNumber 75 = .ok (.iload_n 3, 1) := by decide +kernel
theorem dX12_readsNumber_76 : decode cX12_readsNumber 76 = .ok (.ifCond .le 7, 3) := by decide +kernel
theorem dX12_readsNumber_79 : decode cX12_readsNumber 79 = .ok (.iconst 1, 1) := by decide +kernel
theorem dX12_readsNumber_80 : decode cX12_readsNumber 80 = .ok (.goto 4, 3) := by decide +kernel
theorem dX12_readsNumber_83 : decode cX12_readsNumber 83 = .ok (.iconst 0, 1) := by decide +kernel
theorem dX12_readsNumber_84 : decode cX12_readsNumber 84 = .ok (.ireturn, 1) := by decide +kernel
set_option maxRecDepth 20000 in
theorem ggX12_readsStatement_X12_here : GoodIn wsX12_readsStatement wsX12_here := goodIn_r _ [7, 2, 8, 9, 10, 21, 22, 23, 24, 25, 26, 27, 28, 29, 30, 31, 32, 33, 34, 35, 36, 37, 38, 39, 40, 41, 42, 43, 44] (by decide +kernel) (by decide +kernel)
set_option maxRecDepth 20000 in
theorem gX12_readsStatement_X12_here : GoodIn wsX12_readsStatement (wsV RX12 112 RX12 yX12_here wsX12_here) := goodIn_app (goodIn_of _ (by decide +kernel)) ggX12_readsStatement_X12_here
set_option maxRecDepth 20000 in
theorem ggX12_readsStatement_X12_readsNumber : GoodIn wsX12_readsStatement wsX12_readsNumber := goodIn_r _ [14, 15, 16, 2, 17, 1, 3, 4, 5, 6, 7, 8, 9, 10, 18, 19, 20, 21, 22, 23, 24, 25, 26, 27, 28, 29, 30, 31, 32, 33, 34, 35, 36, 37, 38, 39, 40, 41, 42, 43, 44] (by decide +kernel) (by decide +kernel)
set_option maxRecDepth 20000 in
theorem gX12_readsStatement_X12_readsNumber : GoodIn wsX12_readsStatement (wsV RX12 122 RX12 yX12_readsNumber wsX12_readsNumber) := goodIn_app (goodIn_of _ (by decide +kernel)) ggX12_readsStatement_X12_readsNumber
theorem dX12_readsStatement_0 : decode cX12_readsStatement 0 = .ok (.aload_n 0, 1) := by decide +kernel
theorem dX12_readsStatement_1 : decode cX12_readsStatement 1 = .ok (.invokevirtual 112, 3) := by decide +kernel
theorem dX12_readsStatement_4 : decode cX12_readsStatement 4 = .ok (.istore_n 1, 1) := by decide +kernel
theorem dX12_readsStatement_5 : decode cX12_readsStatement 5 = .ok (.aload_n 0, 1) := by decide +kernel
theorem dX12_readsStatement_6 : decode cX12_readsStatement 6 = .ok (.iconst 0, 1) := by decide +kernel
theorem dX12_readsStatement_7 : decode cX12_readsStatement 7 = .ok (.putfield 119, 3) := by decide +kernel
theorem dX12_readsStatement_10 : decode cX12_readsStatement 10 = .ok (.iconst 1, 1) := by decide +kernel
theorem dX12_readsStatement_11 : decode cX12_readsStatement 11 = .ok (.istore_n 2, 1) := by decide +kernel
theorem dX12_readsStatement_12 : decode cX12_readsStatement 12 = .ok (.iload_n 1, 1) := by decide +kernel
theorem dX12_readsStatement_13 : decode cX12_readsStatement 13 = .ok (.bipush 104, 2) := by decide +kernel
theorem dX12_readsStatement_15 : decode cX12_readsStatement 15 = .ok (.if_icmp .eq 29, 3) := by decide +kernel
theorem dX12_readsStatement_18 : decode cX12_readsStatement 18 = .ok (.iload_n 1, 1) := by decide +kernel
theorem dX12_readsStatement_19 : decode cX12_readsStatement 19 = .ok (.bipush 114, 2) := by decide +kernel
theorem dX12_readsStatement_21 : decode cX12_readsStatement 21 = .ok (.if_icmp .eq 23, 3) := by decide +kernel
theorem dX12_readsStatement_24 : decode cX12_readsStatement 24 = .ok (.iload_n 1, 1) := by decide +kernel
theorem dX12_readsStatement_25 : decode cX12_readsStatement 25 = .ok (.bipush 103, 2) := by decide +kernel
theorem dX12_readsStatement_27 : decode cX12_readsStatement 27 = .ok (.if_icmp .eq 17, 3) := by decide +kernel
theorem dX12_readsStatement_30 : decode cX12_readsStatement 30 = .ok (.iload_n 1, 1) := by decide +kernel
theorem dX12_readsStatement_31 : decode cX12_readsStatement 31 = .ok (.bipush 109, 2) := by decide +kernel
theorem dX12_readsStatement_33 : decode cX12_readsStatement 33 = .ok (.if_icmp .eq 11, 3) := by decide +kernel
theorem dX12_readsStatement_36 : decode cX12_readsStatement 36 = .ok (.iload_n 1, 1) := by decide +kernel
theorem dX12_readsStatement_37 : decode cX12_readsStatement 37 = .ok (.bipush 117, 2) := by decide +kernel
theorem dX12_readsStatement_39 : decode cX12_readsStatement 39 = .ok (.if_icmp .eq 5, 3) := by decide +kernel
theorem dX12_readsStatement_42 : decode cX12_readsStatement 42 = .ok (.iconst 0, 1) := by decide +kernel
theorem dX12_readsStatement_43 : decode cX12_readsStatement 43 = .ok (.ireturn, 1) := by decide +kernel
theorem dX12_readsStatement_44 : decode cX12_readsStatement 44 = .ok (.aload_n 0, 1) := by decide +kernel
theorem dX12_readsStatement_45 : decode cX12_readsStatement 45 = .ok (.dup, 1) := by decide +kernel
theorem dX12_readsStatement_46 : decode cX12_readsStatement 46 = .ok (.getfield 103, 3) := by decide +kernel
theorem dX12_readsStatement_49 : decode cX12_readsStatement 49 = .ok (.iconst 1, 1) := by decide +kernel
theorem dX12_readsStatement_50 : decode cX12_readsStatement 50 = .ok (.iadd, 1) := by decide +kernel
theorem dX12_readsStatement_51 : decode cX12_readsStatement 51 = .ok (.putfield 103, 3) := by decide +kernel
theorem dX12_readsStatement_54 : decode cX12_readsStatement 54 = .ok (.iload_n 1, 1) := by decide +kernel
theorem dX12_readsStatement_55 : decode cX12_readsStatement 55 = .ok (.bipush 117, 2) := by decide +kernel
theorem dX12_readsStatement_57 : decode cX12_readsStatement 57 = .ok (.if_icmp .eq 9, 3) := by decide +kernel
theorem dX12_readsStatement_60 : decode cX12_readsStatement 60 = .ok (.aload_n 0, 1) := by decide +kernel
theorem dX12_readsStatement_61 : decode cX12_readsStatement 61 = .ok (.iconst 1, 1) := by decide +kernel
theorem dX12_readsStatement_62 : decode cX12_readsStatement 62 = .ok (.invokevirtual 122, 3) := by decide +kernel
theorem dX12_readsStatement_65 : decode cX12_readsStatement 65 = .ok (.istore_n 2, 1) := by decide +kernel
theorem dX12_readsStatement_66 : decode cX12_readsStatement 66 = .ok (.iload_n 2, 1) := by decide +kernel
theorem dX12_readsStatement_67 : decode cX12_readsStatement 67 = .ok (.ifCond .eq 21, 3) := by decide +kernel
theorem dX12_readsStatement_70 : decode cX12_readsStatement 70 = .ok (.iload_n 1, 1) := by decide +kernel
theorem dX12_readsStatement_71 : decode cX12_readsStatement 71 = .ok (.bipush 117, 2) := by decide +kernel
theorem dX12_readsStatement_73 : decode cX12_readsStatement 73 = .ok (.if_icmp .eq 15, 3) := by decide +kernel
theorem dX12_readsStatement_76 : decode cX12_readsStatement 76 = .ok (.iload_n 1, 1) := by decide +kernel
theorem dX12_readsStatement_77 : decode cX12_readsStatement 77 = .ok (.bipush 114, 2) := by decide +kernel
theorem dX12_readsStatement_79 : decode cX12_readsStatement 79 = .ok (.if_icmp .eq 9, 3) := by decide +kernel
theorem dX12_readsStatement_82 : decode cX12_readsStatement 82 = .ok (.aload_n 0, 1) := by decide +kernel
theorem dX12_readsStatement_83 : decode cX12_readsStatement 83 = .ok (.iconst 1, 1) := by decide +kernel
theorem dX12_readsStatement_84 : decode cX12_readsStatement 84 = .ok (.invokevirtual 122, 3) := by decide +kernel
theorem dX12_readsStatement_87 : decode cX12_readsStatement 87 = .ok (.istore_n 2, 1) := by decide +kernel
theorem dX12_readsStatement_88 : decode cX12_readsStatement 88 = .ok (.iload_n 2, 1) := by decide +kernel
theorem dX12_readsStatement_89 : decode cX12_readsStatement 89 = .ok (.ifCond .eq 21, 3) := by decide +kernel
theorem dX12_readsStatement_92 : decode cX12_readsStatement 92 = .ok (.iload_n 1, 1) := by decide +kernel
theorem dX12_readsStatement_93 : decode cX12_readsStatement 93 = .ok (.bipush 104, 2) := by decide +kernel
theorem dX12_readsStatement_95 : decode cX12_readsStatement 95 = .ok (.if_icmp .eq 9, 3) := by decide +kernel
theorem dX12_readsStatement_98 : decode cX12_readsStatement 98 = .ok (.iload_n 1, 1) := by decide +kernel
theorem dX12_readsStatement_99 : decode cX12_readsStatement 99 = .ok (.bipush 103, 2) := by decide +kernel
theorem dX12_readsStatement_101 : decode cX12_readsStatement 101 = .ok (.if_icmp .ne 9, 3) := by decide +kernel
theorem dX12_readsStatement_104 : decode cX12_readsStatement 104 = .ok (.aload_n 0, 1) := by decide +kernel
theorem dX12_readsStatement_105 : decode cX12_readsStatement 105 = .ok (.iconst 4, 1) := by decide +kernel
theorem dX12_readsStatement_106 : decode cX12_readsStatement 106 = .ok (.invokevirtual 122, 3) := by decide +kernel
theorem dX12_readsStatement_109 : decode cX12_readsStatement 109 = .ok (.istore_n 2, 1) := by decide +kernel
theorem dX12_readsStatement_110 : decode cX12_readsStatement 110 = .ok (.iload_n 2, 1) := by decide +kernel
theorem dX12_readsStatement_111 : decode cX12_readsStatement 111 = .ok (.ifCond .eq 12, 3) := by decide +kernel
theorem dX12_readsStatement_114 : decode cX12_readsStatement 114 = .ok (.aload_n 0, 1) := by decide +kernel
theorem dX12_readsStatement_115 : decode cX12_readsStatement 115 = .ok (.invokevirtual 112, 3) := by decide +kernel
theorem dX12_readsStatement_118 : decode cX12_readsStatement 118 = .ok (.bipush 59, 2) := by decide +kernel
theorem dX12_readsStatement_120 : decode cX12_readsStatement 120 = .ok (.if_icmp .eq 5, 3) := by decide +kernel
theorem dX12_readsStatement_123 : decode cX12_readsStatement 123 = .ok (.iconst 0, 1) := by decide +kernel
theorem dX12_readsStatement_124 : decode cX12_readsStatement 124 = .ok (.ireturn, 1) := by decide +kernel
theorem dX12_readsStatement_125 : decode cX12_readsStatement 125 = .ok (.aload_n 0, 1) := by decide +kernel
theorem dX12_readsStatement_126 : decode cX12_readsStatement 126 = .ok (.dup, 1) := by decide +kernel
theorem dX12_readsStatement_127 : decode cX12_readsStatement 127 = .ok (.getfield 103, 3) := by decide +kernel
theorem dX12_readsStatement_130 : decode cX12_readsStatement 130 = .ok (.iconst 1, 1) := by decide +kernel
theorem dX12_readsStatement_131 : decode cX12_readsStatement 131 = .ok (.iadd, 1) := by decide +kernel
theorem dX12_readsStatement_132 : decode cX12_readsStatement 132 = .ok (.putfield 103, 3) := by decide +kernel
theorem dX12_readsStatement_135 : decode cX12_readsStatement 135 = .ok (.iconst 1, 1) := by decide +kernel
theorem dX12_readsStatement_136 : decode cX12_readsStatement 136 = .ok (.ireturn, 1) := by decide +kernel
set_option maxRecDepth 20000 in
theorem ggX12_joins_X12_puts : GoodIn wsX12_joins wsX12_puts := goodIn_r _ [6, 1, 7, 8, 9, 10, 11, 12, 13, 14, 15, 16, 17, 18, 19, 20, 21, 22, 23, 24, 25, 26, 27, 28, 29, 30] (by decide +kernel) (by decide +kernel)
set_option maxRecDepth 20000 in
theorem gX12_joins_X12_puts : GoodIn wsX12_joins (wsV RX12 125 RX12 yX12_puts wsX12_puts) := goodIn_app (goodIn_of _ (by decide +kernel)) ggX12_joins_X12_puts
theorem dX12_joins_0 : decode cX12_joins 0 = .ok (.aload_n 0, 1) := by decide +kernel
theorem dX12_joins_1 : decode cX12_joins 1 = .ok (.aload_n 0, 1) := by decide +kernel
theorem dX12_joins_2 : decode cX12_joins 2 = .ok (.getfield 9, 3) := by decide +kernel
theorem dX12_joins_5 : decode cX12_joins 5 = .ok (.iconst 0, 1) := by decide +kernel
theorem dX12_joins_6 : decode cX12_joins 6 = .ok (.iaload, 1) := by decide +kernel
theorem dX12_joins_7 : decode cX12_joins 7 = .ok (.iconst 0, 1) := by decide +kernel
theorem dX12_joins_8 : decode cX12_joins 8 = .ok (.iload_n 1, 1) := by decide +kernel
theorem dX12_joins_9 : decode cX12_joins 9 = .ok (.invokevirtual 125, 3) := by decide +kernel
theorem dX12_joins_12 : decode cX12_joins 12 = .ok (.aload_n 0, 1) := by decide +kernel
theorem dX12_joins_13 : decode cX12_joins 13 = .ok (.aload_n 0, 1) := by decide +kernel
theorem dX12_joins_14 : decode cX12_joins 14 = .ok (.getfield 9, 3) := by decide +kernel
theorem dX12_joins_17 : decode cX12_joins 17 = .ok (.iconst 0, 1) := by decide +kernel
theorem dX12_joins_18 : decode cX12_joins 18 = .ok (.iaload, 1) := by decide +kernel
theorem dX12_joins_19 : decode cX12_joins 19 = .ok (.iconst 1, 1) := by decide +kernel
theorem dX12_joins_20 : decode cX12_joins 20 = .ok (.iload_n 2, 1) := by decide +kernel
theorem dX12_joins_21 : decode cX12_joins 21 = .ok (.invokevirtual 125, 3) := by decide +kernel
theorem dX12_joins_24 : decode cX12_joins 24 = .ok (.aload_n 0, 1) := by decide +kernel
theorem dX12_joins_25 : decode cX12_joins 25 = .ok (.aload_n 0, 1) := by decide +kernel
theorem dX12_joins_26 : decode cX12_joins 26 = .ok (.getfield 9, 3) := by decide +kernel
theorem dX12_joins_29 : decode cX12_joins 29 = .ok (.iconst 0, 1) := by decide +kernel
theorem dX12_joins_30 : decode cX12_joins 30 = .ok (.iaload, 1) := by decide +kernel
theorem dX12_joins_31 : decode cX12_joins 31 = .ok (.iconst 2, 1) := by decide +kernel
theorem dX12_joins_32 : decode cX12_joins 32 = .ok (.iload_n 3, 1) := by decide +kernel
theorem dX12_joins_33 : decode cX12_joins 33 = .ok (.invokevirtual 125, 3) := by decide +kernel
theorem dX12_joins_36 : decode cX12_joins 36 = .ok (.aload_n 0, 1) := by decide +kernel
theorem dX12_joins_37 : decode cX12_joins 37 = .ok (.getfield 9, 3) := by decide +kernel
theorem dX12_joins_40 : decode cX12_joins 40 = .ok (.iconst 0, 1) := by decide +kernel
theorem dX12_joins_41 : decode cX12_joins 41 = .ok (.dup2, 1) := by decide +kernel
theorem dX12_joins_42 : decode cX12_joins 42 = .ok (.iaload, 1) := by decide +kernel
theorem dX12_joins_43 : decode cX12_joins 43 = .ok (.iconst 1, 1) := by decide +kernel
theorem dX12_joins_44 : decode cX12_joins 44 = .ok (.iadd, 1) := by decide +kernel
theorem dX12_joins_45 : decode cX12_joins 45 = .ok (.iastore, 1) := by decide +kernel
theorem dX12_joins_46 : decode cX12_joins 46 = .ok (.return_, 1) := by decide +kernel
set_option maxRecDepth 20000 in
theorem ggX12_adds_X12_joins : GoodIn wsX12_adds wsX12_joins := goodIn_r _ [6, 1, 7, 8, 9, 5, 10, 11, 12, 13, 14, 15, 16, 17, 18, 19, 20, 21, 22, 23, 24, 25, 26, 27, 28, 29, 30, 31, 32, 33, 34] (by decide +kernel) (by decide +kernel)
set_option maxRecDepth 20000 in
theorem gX12_adds_X12_joins : GoodIn wsX12_adds (wsV RX12 129 RX12 yX12_joins wsX12_joins) := goodIn_app (goodIn_of _ (by decide +kernel)) ggX12_adds_X12_joins
theorem dX12_adds_0 : decode cX12_adds 0 = .ok (.aload_n 0, 1) := by decide +kernel
theorem dX12_adds_1 : decode cX12_adds 1 = .ok (.getfield 9, 3) := by decide +kernel
theorem dX12_adds_4 : decode cX12_adds 4 = .ok (.iconst 0, 1) := by decide +kernel
theorem dX12_adds_5 : decode cX12_adds 5 = .ok (.iaload, 1) := by decide +kernel
theorem dX12_adds_6 : decode cX12_adds 6 = .ok (.bipush 8, 2) := by decide +kernel
theorem dX12_adds_8 : decode cX12_adds 8 = .ok (.if_icmp .ne 5, 3) := by decide +kernel
theorem dX12_adds_11 : decode cX12_adds 11 = .ok (.iconst 0, 1) := by decide +kernel
theorem dX12_adds_12 : decode cX12_adds 12 = .ok (.ireturn, 1) := by decide +kernel
theorem dX12_adds_13 : decode cX12_adds 13 = .ok (.aload_n 0, 1) := by decide +kernel
theorem dX12_adds_14 : decode cX12_adds 14 = .ok (.iload_n 1, 1) := by decide +kernel
theorem dX12_adds_15 : decode cX12_adds 15 = .ok (.iload_n 2, 1) := by decide +kernel
theorem dX12_adds_16 : decode cX12_adds 16 = .ok (.iload_n 3, 1) := by decide +kernel
theorem dX12_adds_17 : decode cX12_adds 17 = .ok (.invokevirtual 129, 3) := by decide +kernel
theorem dX12_adds_20 : decode cX12_adds 20 = .ok (.iconst 1, 1) := by decide +kernel
theorem dX12_adds_21 : decode cX12_adds 21 = .ok (.ireturn, 1) := by decide +kernel
set_option maxRecDepth 20000 in
theorem ggX12_wrongGift_X12_areTwo : GoodIn wsX12_wrongGift wsX12_areTwo := goodIn_r _ [5, 6, 7, 8, 4, 9, 10, 11, 12, 13, 22, 23, 24, 25, 26, 27, 28, 29, 30, 31, 32, 33, 34, 35, 36, 37, 38, 39, 40, 41, 42, 43, 44, 45] (by decide +kernel) (by decide +kernel)
set_option maxRecDepth 20000 in
theorem gX12_wrongGift_X12_areTwo : GoodIn wsX12_wrongGift (wsV RX12 132 RX12 yX12_areTwo wsX12_areTwo) := goodIn_app (goodIn_of _ (by decide +kernel)) ggX12_wrongGift_X12_areTwo
set_option maxRecDepth 20000 in
theorem ggX12_wrongGift_X12_purse : GoodIn wsX12_wrongGift wsX12_purse := goodIn_r _ [17, 18, 19, 20, 4, 21, 10, 22, 23, 24, 25, 26, 27, 28, 29, 30, 31, 32, 33, 34, 35, 36, 37, 38, 39, 40, 41, 42, 43, 44, 45] (by decide +kernel) (by decide +kernel)
set_option maxRecDepth 20000 in
theorem gX12_wrongGift_X12_purse : GoodIn wsX12_wrongGift (wsV RX12 68 RX12 yX12_purse wsX12_purse) := goodIn_app (goodIn_of _ (by decide +kernel)) ggX12_wrongGift_X12_purse
theorem dX12_wrongGift_0 : decode cX12_wrongGift 0 = .ok (.aload_n 0, 1) := by decide +kernel
theorem dX12_wrongGift_1 : decode cX12_wrongGift 1 = .ok (.iload_n 1, 1) := by decide +kernel
theorem dX12_wrongGift_2 : decode cX12_wrongGift 2 = .ok (.iload_n 2, 1) := by decide +kernel
theorem dX12_wrongGift_3 : decode cX12_wrongGift 3 = .ok (.invokevirtual 132, 3) := by decide +kernel
theorem dX12_wrongGift_6 : decode cX12_wrongGift 6 = .ok (.ifCond .eq 8, 3) := by decide +kernel
theorem dX12_wrongGift_9 : decode cX12_wrongGift 9 = .ok (.iload_n 3, 1) := by decide +kernel
theorem dX12_wrongGift_10 : decode cX12_wrongGift 10 = .ok (.iconst 1, 1) := by decide +kernel
theorem dX12_wrongGift_11 : decode cX12_wrongGift 11 = .ok (.if_icmp .ge 7, 3) := by decide +kernel
theorem dX12_wrongGift_14 : decode cX12_wrongGift 14 = .ok (.iconst (-1), 1) := by decide +kernel
theorem dX12_wrongGift_15 : decode cX12_wrongGift 15 = .ok (.goto 36, 3) := by decide +kernel
theorem dX12_wrongGift_18 : decode cX12_wrongGift 18 = .ok (.aload_n 0, 1) := by decide +kernel
theorem dX12_wrongGift_19 : decode cX12_wrongGift 19 = .ok (.iload_n 1, 1) := by decide +kernel
theorem dX12_wrongGift_20 : decode cX12_wrongGift 20 = .ok (.invokevirtual 68, 3) := by decide +kernel
theorem dX12_wrongGift_23 : decode cX12_wrongGift 23 = .ok (.iload_n 3, 1) := by decide +kernel
theorem dX12_wrongGift_24 : decode cX12_wrongGift 24 = .ok (.if_icmp .ge 8, 3) := by decide +kernel
theorem dX12_wrongGift_27 : decode cX12_wrongGift 27 = .ok (.bipush (-3), 2) := by decide +kernel
theorem dX12_wrongGift_29 : decode cX12_wrongGift 29 = .ok (.goto 22, 3) := by decide +kernel
theorem dX12_wrongGift_32 : decode cX12_wrongGift 32 = .ok (.aload_n 0, 1) := by decide +kernel
theorem dX12_wrongGift_33 : decode cX12_wrongGift 33 = .ok (.iload_n 2, 1) := by decide +kernel
theorem dX12_wrongGift_34 : decode cX12_wrongGift 34 = .ok (.invokevirtual 68, 3) := by decide +kernel
theorem dX12_wrongGift_37 : decode cX12_wrongGift 37 = .ok (.sipush 9999, 3) := by decide +kernel
theorem dX12_wrongGift_40 : decode cX12_wrongGift 40 = .ok (.iload_n 3, 1) := by decide +kernel
theorem dX12_wrongGift_41 : decode cX12_wrongGift 41 = .ok (.isub, 1) := by decide +kernel
theorem dX12_wrongGift_42 : decode cX12_wrongGift 42 = .ok (.if_icmp .le 8, 3) := by decide +kernel
theorem dX12_wrongGift_45 : decode cX12_wrongGift 45 = .ok (.bipush (-2), 2) := by decide +kernel
theorem dX12_wrongGift_47 : decode cX12_wrongGift 47 = .ok (.goto 4, 3) := by decide +kernel
theorem dX12_wrongGift_50 : decode cX12_wrongGift 50 = .ok (.iconst 0, 1) := by decide +kernel
theorem dX12_wrongGift_51 : decode cX12_wrongGift 51 = .ok (.ireturn, 1) := by decide +kernel
set_option maxRecDepth 20000 in
theorem ggX12_gives_X12_purse : GoodIn wsX12_gives wsX12_purse := goodIn_r _ [5, 6, 7, 8, 4, 9, 10, 15, 16, 17, 18, 19, 20, 21, 22, 23, 24, 25, 26, 27, 28, 29, 30, 31, 32, 33, 34, 35, 36, 37, 38] (by decide +kernel) (by decide +kernel)
set_option maxRecDepth 20000 in
theorem gX12_gives_X12_purse : GoodIn wsX12_gives (wsV RX12 68 RX12 yX12_purse wsX12_purse) := goodIn_app (goodIn_of _ (by decide +kernel)) ggX12_gives_X12_purse
set_option maxRecDepth 20000 in
theorem ggX12_gives_X12_puts : GoodIn wsX12_gives wsX12_puts := goodIn_r _ [14, 10, 15, 16, 17, 18, 19, 20, 21, 22, 23, 24, 25, 26, 27, 28, 29, 30, 31, 32, 33, 34, 35, 36, 37, 38] (by decide +kernel) (by decide +kernel)
set_option maxRecDepth 20000 in
theorem gX12_gives_X12_puts : GoodIn wsX12_gives (wsV RX12 125 RX12 yX12_puts wsX12_puts) := goodIn_app (goodIn_of _ (by decide +kernel)) ggX12_gives_X12_puts
theorem dX12_gives_0 : decode cX12_gives 0 = .ok (.aload_n 0, 1) := by decide +kernel
theorem dX12_gives_1 : decode cX12_gives 1 = .ok (.iload_n 1, 1) := by decide +kernel
theorem dX12_gives_2 : decode cX12_gives 2 = .ok (.iconst 2, 1) := by decide +kernel
theorem dX12_gives_3 : decode cX12_gives 3 = .ok (.aload_n 0, 1) := by decide +kernel
theorem dX12_gives_4 : decode cX12_gives 4 = .ok (.iload_n 1, 1) := by decide +kernel
theorem dX12_gives_5 : decode cX12_gives 5 = .ok (.invokevirtual 68, 3) := by decide +kernel
theorem dX12_gives_8 : decode cX12_gives 8 = .ok (.iload_n 3, 1) := by decide +kernel
theorem dX12_gives_9 : decode cX12_gives 9 = .ok (.isub, 1) := by decide +kernel
theorem dX12_gives_10 : decode cX12_gives 10 = .ok (.invokevirtual 125, 3) := by decide +kernel
theorem dX12_gives_13 : decode cX12_gives 13 = .ok (.aload_n 0, 1) := by decide +kernel
theorem dX12_gives_14 : decode cX12_gives 14 = .ok (.iload_n 2, 1) := by decide +kernel
theorem dX12_gives_15 : decode cX12_gives 15 = .ok (.iconst 2, 1) := by decide +kernel
theorem dX12_gives_16 : decode cX12_gives 16 = .ok (.aload_n 0, 1) := by decide +kernel
theorem dX12_gives_17 : decode cX12_gives 17 = .ok (.iload_n 2, 1) := by decide +kernel
theorem dX12_gives_18 : decode cX12_gives 18 = .ok (.invokevirtual 68, 3) := by decide +kernel
theorem dX12_gives_21 : decode cX12_gives 21 = .ok (.iload_n 3, 1) := by decide +kernel
theorem dX12_gives_22 : decode cX12_gives 22 = .ok (.iadd, 1) := by decide +kernel
theorem dX12_gives_23 : decode cX12_gives 23 = .ok (.invokevirtual 125, 3) := by decide +kernel
theorem dX12_gives_26 : decode cX12_gives 26 = .ok (.return_, 1) := by decide +kernel
set_option maxRecDepth 20000 in
theorem ggX12_givesIf_X12_wrongGift : GoodIn wsX12_givesIf wsX12_wrongGift := goodIn_r _ [5, 6, 7, 8, 4, 9, 10, 11, 12, 13, 14, 15, 16, 17, 18, 19, 20, 21, 22, 23, 24, 25, 34, 35, 36, 37, 38, 39, 40, 41, 42, 43, 44, 45, 46, 47, 48, 49, 50, 51, 52, 53, 54, 55, 56, 57] (by decide +kernel) (by decide +kernel)
set_option maxRecDepth 20000 in
theorem gX12_givesIf_X12_wrongGift : GoodIn wsX12_givesIf (wsV RX12 136 RX12 yX12_wrongGift wsX12_wrongGift) := goodIn_app (goodIn_of _ (by decide +kernel)) ggX12_givesIf_X12_wrongGift
set_option maxRecDepth 20000 in
theorem ggX12_givesIf_X12_gives : GoodIn wsX12_givesIf wsX12_gives := goodIn_r _ [29, 18, 19, 20, 4, 21, 22, 23, 24, 25, 14, 30, 31, 32, 33, 34, 35, 36, 37, 38, 39, 40, 41, 42, 43, 44, 45, 46, 47, 48, 49, 50, 51, 52, 53, 54, 55, 56, 57] (by decide +kernel) (by decide +kernel)
set_option maxRecDepth 20000 in
theorem gX12_givesIf_X12_gives : GoodIn wsX12_givesIf (wsV RX12 140 RX12 yX12_gives wsX12_gives) := goodIn_app (goodIn_of _ (by decide +kernel)) ggX12_givesIf_X12_gives
theorem dX12_givesIf_0 : decode cX12_givesIf 0 = .ok (.aload_n 0, 1) := by decide +kernel
theorem dX12_givesIf_1 : decode cX12_givesIf 1 = .ok (.iload_n 1, 1) := by decide +kernel
theorem dX12_givesIf_2 : decode cX12_givesIf 2 = .ok (.iload_n 2, 1) := by decide +kernel
theorem dX12_givesIf_3 : decode cX12_givesIf 3 = .ok (.iload_n 3, 1) := by decide +kernel
theorem dX12_givesIf_4 : decode cX12_givesIf 4 = .ok (.invokevirtual 136, 3) := by decide +kernel
theorem dX12_givesIf_7 : decode cX12_givesIf 7 = .ok (.ifCond .eq 5, 3) := by decide +kernel
theorem dX12_givesIf_10 : decode cX12_givesIf 10 = .ok (.iconst 0, 1) := by decide +kernel
theorem dX12_givesIf_11 : decode cX12_givesIf 11 = .ok (.ireturn, 1) := by decide +kernel
theorem dX12_givesIf_12 : decode cX12_givesIf 12 = .ok (.aload_n 0, 1) := by decide +kernel
theorem dX12_givesIf_13 : decode cX12_givesIf 13 = .ok (.iload_n 1, 1) := by decide +kernel
theorem dX12_givesIf_14 : decode cX12_givesIf 14 = .ok (.iload_n 2, 1) := by decide +kernel
theorem dX12_givesIf_15 : decode cX12_givesIf 15 = .ok (.iload_n 3, 1) := by decide +kernel
theorem dX12_givesIf_16 : decode cX12_givesIf 16 = .ok (.invokevirtual 140, 3) := by decide +kernel
theorem dX12_givesIf_19 : decode cX12_givesIf 19 = .ok (.iconst 1, 1) := by decide +kernel
theorem dX12_givesIf_20 : decode cX12_givesIf 20 = .ok (.ireturn, 1) := by decide +kernel
set_option maxRecDepth 20000 in
theorem ggX12_changes_X12_get : GoodIn wsX12_changes wsX12_get := goodIn_r _ [5, 6, 11, 12, 13, 14, 15, 16, 17, 18, 19, 20, 21, 22, 23, 24, 25, 26, 27, 28, 29, 30, 31, 32, 33, 34] (by decide +kernel) (by decide +kernel)
set_option maxRecDepth 20000 in
theorem gX12_changes_X12_get : GoodIn wsX12_changes (wsV RX12 64 RX12 yX12_get wsX12_get) := goodIn_app (goodIn_of _ (by decide +kernel)) ggX12_changes_X12_get
set_option maxRecDepth 20000 in
theorem ggX12_changes_X12_puts : GoodIn wsX12_changes wsX12_puts := goodIn_r _ [10, 6, 11, 12, 13, 14, 15, 16, 17, 18, 19, 20, 21, 22, 23, 24, 25, 26, 27, 28, 29, 30, 31, 32, 33, 34] (by decide +kernel) (by decide +kernel)
set_option maxRecDepth 20000 in
theorem gX12_changes_X12_puts : GoodIn wsX12_changes (wsV RX12 125 RX12 yX12_puts wsX12_puts) := goodIn_app (goodIn_of _ (by decide +kernel)) ggX12_changes_X12_puts
theorem dX12_changes_0 : decode cX12_changes 0 = .ok (.iconst 0, 1) := by decide +kernel
theorem dX12_changes_1 : decode cX12_changes 1 = .ok (.istore_n 3, 1) := by decide +kernel
theorem dX12_changes_2 : decode cX12_changes 2 = .ok (.iload_n 3, 1) := by decide +kernel
theorem dX12_changes_3 : decode cX12_changes 3 = .ok (.iconst 3, 1) := by decide +kernel
theorem dX12_changes_4 : decode cX12_changes 4 = .ok (.if_icmp .ge 37, 3) := by decide +kernel
theorem dX12_changes_7 : decode cX12_changes 7 = .ok (.aload_n 0, 1) := by decide +kernel
theorem dX12_changes_8 : decode cX12_changes 8 = .ok (.iload_n 1, 1) := by decide +kernel
theorem dX12_changes_9 : decode cX12_changes 9 = .ok (.iload_n 3, 1) := by decide +kernel
theorem dX12_changes_10 : decode cX12_changes 10 = .ok (.invokevirtual 64, 3) := by decide +kernel
theorem dX12_changes_13 : decode cX12_changes 13 = .ok (.istore 4, 2) := by decide +kernel
theorem dX12_changes_15 : decode cX12_changes 15 = .ok (.aload_n 0, 1) := by decide +kernel
theorem dX12_changes_16 : decode cX12_changes 16 = .ok (.iload_n 1, 1) := by decide +kernel
theorem dX12_changes_17 : decode cX12_changes 17 = .ok (.iload_n 3, 1) := by decide +kernel
theorem dX12_changes_18 : decode cX12_changes 18 = .ok (.aload_n 0, 1) := by decide +kernel
theorem dX12_changes_19 : decode cX12_changes 19 = .ok (.iload_n 2, 1) := by decide +kernel
theorem dX12_changes_20 : decode cX12_changes 20 = .ok (.iload_n 3, 1) := by decide +kernel
theorem dX12_changes_21 : decode cX12_changes 21 = .ok (.invokevirtual 64, 3) := by decide +kernel
theorem dX12_changes_24 : decode cX12_changes 24 = .ok (.invokevirtual 125, 3) := by decide +kernel
theorem dX12_changes_27 : decode cX12_changes 27 = .ok (.aload_n 0, 1) := by decide +kernel
theorem dX12_changes_28 : decode cX12_changes 28 = .ok (.iload_n 2, 1) := by decide +kernel
theorem dX12_changes_29 : decode cX12_changes 29 = .ok (.iload_n 3, 1) := by decide +kernel
theorem dX12_changes_30 : decode cX12_changes 30 = .ok (.iload 4, 2) := by decide +kernel
theorem dX12_changes_32 : decode cX12_changes 32 = .ok (.invokevirtual 125, 3) := by decide +kernel
theorem dX12_changes_35 : decode cX12_changes 35 = .ok (.iinc 3 1, 3) := by decide +kernel
theorem dX12_changes_38 : decode cX12_changes 38 = .ok (.goto (-36), 3) := by decide +kernel
theorem dX12_changes_41 : decode cX12_changes 41 = .ok (.return_, 1) := by decide +kernel
set_option maxRecDepth 20000 in
theorem ggX12_comesTold_X12_adds : GoodIn wsX12_comesTold wsX12_adds := goodIn_r _ [7, 2, 8, 9, 10, 6, 11, 12, 13, 14, 15, 51, 52, 53, 54, 55, 56, 57, 58, 59, 60, 61, 62, 63, 64, 65, 66, 67, 68, 69, 70, 71, 72, 73, 74] (by decide +kernel) (by decide +kernel)
set_option maxRecDepth 20000 in
theorem gX12_comesTold_X12_adds : GoodIn wsX12_comesTold (wsV RX12 143 RX12 yX12_adds wsX12_adds) := goodIn_app (goodIn_of _ (by decide +kernel)) ggX12_comesTold_X12_adds
set_option maxRecDepth 20000 in
theorem ggX12_comesTold_X12_givesIf : GoodIn wsX12_comesTold wsX12_givesIf := goodIn_r _ [19, 20, 21, 22, 6, 23, 24, 25, 26, 27, 28, 29, 30, 31, 2, 32, 33, 34, 35, 36, 37, 38, 39, 40, 41, 42, 43, 44, 45, 46, 12, 13, 14, 15, 51, 52, 53, 54, 55, 56, 57, 58, 59, 60, 61, 62, 63, 64, 65, 66, 67, 68, 69, 70, 71, 72, 73, 74] (by decide +kernel) (by decide +kernel)
set_option maxRecDepth 20000 in
theorem gX12_comesTold_X12_givesIf : GoodIn wsX12_comesTold (wsV RX12 147 RX12 yX12_givesIf wsX12_givesIf) := goodIn_app (goodIn_of _ (by decide +kernel)) ggX12_comesTold_X12_givesIf
set_option maxRecDepth 20000 in
theorem ggX12_comesTold_X12_areTwo : GoodIn wsX12_comesTold wsX12_areTwo := goodIn_r _ [27, 28, 29, 30, 6, 31, 2, 32, 33, 34, 51, 52, 53, 54, 55, 56, 57, 58, 59, 60, 61, 62, 63, 64, 65, 66, 67, 68, 69, 70, 71, 72, 73, 74] (by decide +kernel) (by decide +kernel)
set_option maxRecDepth 20000 in
theorem gX12_comesTold_X12_areTwo : GoodIn wsX12_comesTold (wsV RX12 132 RX12 yX12_areTwo wsX12_areTwo) := goodIn_app (goodIn_of _ (by decide +kernel)) ggX12_comesTold_X12_areTwo
set_option maxRecDepth 20000 in
theorem ggX12_comesTold_X12_changes : GoodIn wsX12_comesTold wsX12_changes := goodIn_r _ [50, 39, 40, 41, 6, 42, 2, 12, 13, 14, 15, 51, 52, 53, 54, 55, 56, 57, 58, 59, 60, 61, 62, 63, 64, 65, 66, 67, 68, 69, 70, 71, 72, 73, 74] (by decide +kernel) (by decide +kernel)
set_option maxRecDepth 20000 in
theorem gX12_comesTold_X12_changes : GoodIn wsX12_comesTold (wsV RX12 150 RX12 yX12_changes wsX12_changes) := goodIn_app (goodIn_of _ (by decide +kernel)) ggX12_comesTold_X12_changes
theorem dX12_comesTold_0 : decode cX12_comesTold 0 = .ok (.aload_n 0, 1) := by decide +kernel
theorem dX12_comesTold_1 : decode cX12_comesTold 1 = .ok (.getfield 40, 3) := by decide +kernel
theorem dX12_comesTold_4 : decode cX12_comesTold 4 = .ok (.iconst 0, 1) := by decide +kernel
theorem dX12_comesTold_5 : decode cX12_comesTold 5 = .ok (.iaload, 1) := by decide +kernel
theorem dX12_comesTold_6 : decode cX12_comesTold 6 = .ok (.istore_n 2, 1) := by decide +kernel
theorem dX12_comesTold_7 : decode cX12_comesTold 7 = .ok (.aload_n 0, 1) := by decide +kernel
theorem dX12_comesTold_8 : decode cX12_comesTold 8 = .ok (.getfield 40, 3) := by decide +kernel
theorem dX12_comesTold_11 : decode cX12_comesTold 11 = .ok (.iconst 1, 1) := by decide +kernel
theorem dX12_comesTold_12 : decode cX12_comesTold 12 = .ok (.iaload, 1) := by decide +kernel
theorem dX12_comesTold_13 : decode cX12_comesTold 13 = .ok (.istore_n 3, 1) := by decide +kernel
theorem dX12_comesTold_14 : decode cX12_comesTold 14 = .ok (.iload_n 1, 1) := by decide +kernel
theorem dX12_comesTold_15 : decode cX12_comesTold 15 = .ok (.lookupswitch 116 #[(103, 84), (104, 41), (109, 97), (114, 68)], 41) := by decide +kernel
theorem dX12_comesTold_56 : decode cX12_comesTold 56 = .ok (.iload_n 2, 1) := by decide +kernel
theorem dX12_comesTold_57 : decode cX12_comesTold 57 = .ok (.bipush 8, 2) := by decide +kernel
theorem dX12_comesTold_59 : decode cX12_comesTold 59 = .ok (.if_icmp .ge 22, 3) := by decide +kernel
theorem dX12_comesTold_62 : decode cX12_comesTold 62 = .ok (.aload_n 0, 1) := by decide +kernel
theorem dX12_comesTold_63 : decode cX12_comesTold 63 = .ok (.iload_n 2, 1) := by decide +kernel
theorem dX12_comesTold_64 : decode cX12_comesTold 64 = .ok (.iload_n 3, 1) := by decide +kernel
theorem dX12_comesTold_65 : decode cX12_comesTold 65 = .ok (.aload_n 0, 1) := by decide +kernel
theorem dX12_comesTold_66 : decode cX12_comesTold 66 = .ok (.getfield 40, 3) := by decide +kernel
theorem dX12_comesTold_69 : decode cX12_comesTold 69 = .ok (.iconst 2, 1) := by decide +kernel
theorem dX12_comesTold_70 : decode cX12_comesTold 70 = .ok (.iaload, 1) := by decide +kernel
theorem dX12_comesTold_71 : decode cX12_comesTold 71 = .ok (.invokevirtual 143, 3) := by decide +kernel
theorem dX12_comesTold_74 : decode cX12_comesTold 74 = .ok (.ifCond .eq 7, 3) := by decide +kernel
theorem dX12_comesTold_77 : decode cX12_comesTold 77 = .ok (.iconst 1, 1) := by decide +kernel
theorem dX12_comesTold_78 : decode cX12_comesTold 78 = .ok (.goto 4, 3) := by decide +kernel
theorem dX12_comesTold_81 : decode cX12_comesTold 81 = .ok (.iconst 0, 1) := by decide +kernel
theorem dX12_comesTold_82 : decode cX12_comesTold 82 = .ok (.ireturn, 1) := by decide +kernel
theorem dX12_comesTold_83 : decode cX12_comesTold 83 = .ok (.iload_n 2, 1) := by decide +kernel
theorem dX12_comesTold_84 : decode cX12_comesTold 84 = .ok (.iconst 1, 1) := by decide +kernel
theorem dX12_comesTold_85 : decode cX12_comesTold 85 = .ok (.if_icmp .le 5, 3) := by decide +kernel
theorem dX12_comesTold_88 : decode cX12_comesTold 88 = .ok (.iconst 0, 1) := by decide +kernel
theorem dX12_comesTold_89 : decode cX12_comesTold 89 = .ok (.ireturn, 1) := by decide +kernel
theorem dX12_comesTold_90 : decode cX12_comesTold 90 = .ok (.aload_n 0, 1) := by decide +kernel
theorem dX12_comesTold_91 : decode cX12_comesTold 91 = .ok (.getfield 9, 3) := by decide +kernel
theorem dX12_comesTold_94 : decode cX12_comesTold 94 = .ok (.iconst 1, 1) := by decide +kernel
theorem dX12_comesTold_95 : decode cX12_comesTold 95 = .ok (.iload_n 2, 1) := by decide +kernel
theorem dX12_comesTold_96 : decode cX12_comesTold 96 = .ok (.iastore, 1) := by decide +kernel
theorem dX12_comesTold_97 : decode cX12_comesTold 97 = .ok (.iconst 1, 1) := by decide +kernel
theorem dX12_comesTold_98 : decode cX12_comesTold 98 = .ok (.ireturn, 1) := by decide +kernel
theorem dX12_comesTold_99 : decode cX12_comesTold 99 = .ok (.aload_n 0, 1) := by decide +kernel
theorem dX12_comesTold_100 : decode cX12_comesTold 100 = .ok (.iload_n 2, 1) := by decide +kernel
theorem dX12_comesTold_101 : decode cX12_comesTold 101 = .ok (.iload_n 3, 1) := by decide +kernel
theorem dX12_comesTold_102 : decode cX12_comesTold 102 = .ok (.aload_n 0, 1) := by decide +kernel
theorem dX12_comesTold_103 : decode cX12_comesTold 103 = .ok (.getfield 40, 3) := by decide +kernel
theorem dX12_comesTold_106 : decode cX12_comesTold 106 = .ok (.iconst 2, 1) := by decide +kernel
theorem dX12_comesTold_107 : decode cX12_comesTold 107 = .ok (.iaload, 1) := by decide +kernel
theorem dX12_comesTold_108 : decode cX12_comesTold 108 = .ok (.invokevirtual 147, 3) := by decide +kernel
theorem dX12_comesTold_111 : decode cX12_comesTold 111 = .ok (.ireturn, 1) := by decide +kernel
theorem dX12_comesTold_112 : decode cX12_comesTold 112 = .ok (.aload_n 0, 1) := by decide +kernel
theorem dX12_comesTold_113 : decode cX12_comesTold 113 = .ok (.iload_n 2, 1) := by decide +kernel
theorem dX12_comesTold_114 : decode cX12_comesTold 114 = .ok (.iload_n 3, 1) := by decide +kernel
theorem dX12_comesTold_115 : decode cX12_comesTold 115 = .ok (.invokevirtual 132, 3) := by decide +kernel
theorem dX12_comesTold_118 : decode cX12_comesTold 118 = .ok (.ifCond .ne 5, 3) := by decide +kernel
theorem dX12_comesTold_121 : decode cX12_comesTold 121 = .ok (.iconst 0, 1) := by decide +kernel
theorem dX12_comesTold_122 : decode cX12_comesTold 122 = .ok (.ireturn, 1) := by decide +kernel
theorem dX12_comesTold_123 : decode cX12_comesTold 123 = .ok (.aload_n 0, 1) := by decide +kernel
theorem dX12_comesTold_124 : decode cX12_comesTold 124 = .ok (.iload_n 2, 1) := by decide +kernel
theorem dX12_comesTold_125 : decode cX12_comesTold 125 = .ok (.iload_n 3, 1) := by decide +kernel
theorem dX12_comesTold_126 : decode cX12_comesTold 126 = .ok (.invokevirtual 150, 3) := by decide +kernel
theorem dX12_comesTold_129 : decode cX12_comesTold 129 = .ok (.iconst 1, 1) := by decide +kernel
theorem dX12_comesTold_130 : decode cX12_comesTold 130 = .ok (.ireturn, 1) := by decide +kernel
theorem dX12_comesTold_131 : decode cX12_comesTold 131 = .ok (.aload_n 0, 1) := by decide +kernel
theorem dX12_comesTold_132 : decode cX12_comesTold 132 = .ok (.getfield 9, 3) := by decide +kernel
theorem dX12_comesTold_135 : decode cX12_comesTold 135 = .ok (.iconst 0, 1) := by decide +kernel
theorem dX12_comesTold_136 : decode cX12_comesTold 136 = .ok (.iaload, 1) := by decide +kernel
theorem dX12_comesTold_137 : decode cX12_comesTold 137 = .ok (.ifCond .ne 5, 3) := by decide +kernel
theorem dX12_comesTold_140 : decode cX12_comesTold 140 = .ok (.iconst 0, 1) := by decide +kernel
theorem dX12_comesTold_141 : decode cX12_comesTold 141 = .ok (.ireturn, 1) := by decide +kernel
theorem dX12_comesTold_142 : decode cX12_comesTold 142 = .ok (.aload_n 0, 1) := by decide +kernel
theorem dX12_comesTold_143 : decode cX12_comesTold 143 = .ok (.getfield 9, 3) := by decide +kernel
theorem dX12_comesTold_146 : decode cX12_comesTold 146 = .ok (.iconst 0, 1) := by decide +kernel
theorem dX12_comesTold_147 : decode cX12_comesTold 147 = .ok (.dup2, 1) := by decide +kernel
theorem dX12_comesTold_148 : decode cX12_comesTold 148 = .ok (.iaload, 1) := by decide +kernel
theorem dX12_comesTold_149 : decode cX12_comesTold 149 = .ok (.iconst 1, 1) := by decide +kernel
theorem dX12_comesTold_150 : decode cX12_comesTold 150 = .ok (.isub, 1) := by decide +kernel
theorem dX12_comesTold_151 : decode cX12_comesTold 151 = .ok (.iastore, 1) := by decide +kernel
theorem dX12_comesTold_152 : decode cX12_comesTold 152 = .ok (.iconst 1, 1) := by decide +kernel
theorem dX12_comesTold_153 : decode cX12_comesTold 153 = .ok (.ireturn, 1) := by decide +kernel
set_option maxRecDepth 20000 in
theorem ggX12_wrongRow_X12_isShelf : GoodIn wsX12_wrongRow wsX12_isShelf := goodIn_r _ [6, 7, 8, 9, 5, 10] (by decide +kernel) (by decide +kernel)
set_option maxRecDepth 20000 in
theorem gX12_wrongRow_X12_isShelf : GoodIn wsX12_wrongRow (va_wsS RX12 154 yX12_isShelf wsX12_isShelf) := goodIn_app (goodIn_of _ (by decide +kernel)) ggX12_wrongRow_X12_isShelf
theorem dX12_wrongRow_0 : decode cX12_wrongRow 0 = .ok (.iload_n 1, 1) := by decide +kernel
theorem dX12_wrongRow_1 : decode cX12_wrongRow 1 = .ok (.invokestatic 154, 3) := by decide +kernel
theorem dX12_wrongRow_4 : decode cX12_wrongRow 4 = .ok (.ifCond .ne 7, 3) := by decide +kernel
theorem dX12_wrongRow_7 : decode cX12_wrongRow 7 = .ok (.iconst (-1), 1) := by decide +kernel
theorem dX12_wrongRow_8 : decode cX12_wrongRow 8 = .ok (.goto 47, 3) := by decide +kernel
theorem dX12_wrongRow_11 : decode cX12_wrongRow 11 = .ok (.aload_n 0, 1) := by decide +kernel
theorem dX12_wrongRow_12 : decode cX12_wrongRow 12 = .ok (.getfield 22, 3) := by decide +kernel
theorem dX12_wrongRow_15 : decode cX12_wrongRow 15 = .ok (.iload_n 1, 1) := by decide +kernel
theorem dX12_wrongRow_16 : decode cX12_wrongRow 16 = .ok (.iaload, 1) := by decide +kernel
theorem dX12_wrongRow_17 : decode cX12_wrongRow 17 = .ok (.ifCond .ne 8, 3) := by decide +kernel
theorem dX12_wrongRow_20 : decode cX12_wrongRow 20 = .ok (.bipush (-11), 2) := by decide +kernel
theorem dX12_wrongRow_22 : decode cX12_wrongRow 22 = .ok (.goto 33, 3) := by decide +kernel
theorem dX12_wrongRow_25 : decode cX12_wrongRow 25 = .ok (.aload_n 0, 1) := by decide +kernel
theorem dX12_wrongRow_26 : decode cX12_wrongRow 26 = .ok (.getfield 22, 3) := by decide +kernel
theorem dX12_wrongRow_29 : decode cX12_wrongRow 29 = .ok (.iload_n 1, 1) := by decide +kernel
theorem dX12_wrongRow_30 : decode cX12_wrongRow 30 = .ok (.iaload, 1) := by decide +kernel
theorem dX12_wrongRow_31 : decode cX12_wrongRow 31 = .ok (.iconst 2, 1) := by decide +kernel
theorem dX12_wrongRow_32 : decode cX12_wrongRow 32 = .ok (.if_icmp .ne 17, 3) := by decide +kernel
theorem dX12_wrongRow_35 : decode cX12_wrongRow 35 = .ok (.iload_n 2, 1) := by decide +kernel
theorem dX12_wrongRow_36 : decode cX12_wrongRow 36 = .ok (.ifCond .lt 18, 3) := by decide +kernel
theorem dX12_wrongRow_39 : decode cX12_wrongRow 39 = .ok (.aload_n 0, 1) := by decide +kernel
theorem dX12_wrongRow_40 : decode cX12_wrongRow 40 = .ok (.getfield 25, 3) := by decide +kernel
theorem dX12_wrongRow_43 : decode cX12_wrongRow 43 = .ok (.iload_n 1, 1) := by decide +kernel
theorem dX12_wrongRow_44 : decode cX12_wrongRow 44 = .ok (.iaload, 1) := by decide +kernel
theorem dX12_wrongRow_45 : decode cX12_wrongRow 45 = .ok (.iload_n 2, 1) := by decide +kernel
theorem dX12_wrongRow_46 : decode cX12_wrongRow 46 = .ok (.if_icmp .eq 8, 3) := by decide +kernel
theorem dX12_wrongRow_49 : decode cX12_wrongRow 49 = .ok (.bipush (-12), 2) := by decide +kernel
theorem dX12_wrongRow_51 : decode cX12_wrongRow 51 = .ok (.goto 4, 3) := by decide +kernel
theorem dX12_wrongRow_54 : decode cX12_wrongRow 54 = .ok (.iconst 0, 1) := by decide +kernel
theorem dX12_wrongRow_55 : decode cX12_wrongRow 55 = .ok (.ireturn, 1) := by decide +kernel
set_option maxRecDepth 20000 in
theorem ggX12_street_X12_wrongRow : GoodIn wsX12_street wsX12_wrongRow := goodIn_r _ [11, 12, 13, 14, 15, 10, 16, 17, 18, 19, 20, 89, 90, 91, 92, 93, 94, 95, 96, 97, 98, 99, 100, 101, 102, 103, 104, 105, 106, 107, 108, 109, 110, 111, 112] (by decide +kernel) (by decide +kernel)
set_option maxRecDepth 20000 in
theorem gX12_street_X12_wrongRow : GoodIn wsX12_street (wsV RX12 157 RX12 yX12_wrongRow wsX12_wrongRow) := goodIn_app (goodIn_of _ (by decide +kernel)) ggX12_street_X12_wrongRow
set_option maxRecDepth 20000 in
theorem ggX12_street_X12_readsStatement : GoodIn wsX12_street wsX12_readsStatement := goodIn_r _ [24, 25, 4, 26, 27, 28, 10, 29, 3, 30, 1, 31, 32, 33, 34, 35, 36, 37, 18, 19, 20, 89, 90, 91, 92, 93, 94, 95, 96, 97, 98, 99, 100, 101, 102, 103, 104, 105, 106, 107, 108, 109, 110, 111, 112] (by decide +kernel) (by decide +kernel)
set_option maxRecDepth 20000 in
theorem gX12_street_X12_readsStatement : GoodIn wsX12_street (wsV RX12 160 RX12 yX12_readsStatement wsX12_readsStatement) := goodIn_app (goodIn_of _ (by decide +kernel)) ggX12_street_X12_readsStatement
set_option maxRecDepth 20000 in
theorem ggX12_street_X12_lays : GoodIn wsX12_street wsX12_lays := goodIn_r _ [40] (by decide +kernel) (by decide +kernel)
set_option maxRecDepth 20000 in
theorem gX12_street_X12_lays : GoodIn wsX12_street (va_wsS RX12 60 yX12_lays wsX12_lays) := goodIn_app (goodIn_of _ (by decide +kernel)) ggX12_street_X12_lays
set_option maxRecDepth 20000 in
theorem ggX12_street_X12_here : GoodIn wsX12_street wsX12_here := goodIn_r _ [29, 4, 3, 30, 1, 89, 90, 91, 92, 93, 94, 95, 96, 97, 98, 99, 100, 101, 102, 103, 104, 105, 106, 107, 108, 109, 110, 111, 112] (by decide +kernel) (by decide +kernel)
set_option maxRecDepth 20000 in
theorem gX12_street_X12_here : GoodIn wsX12_street (wsV RX12 112 RX12 yX12_here wsX12_here) := goodIn_app (goodIn_of _ (by decide +kernel)) ggX12_street_X12_here
set_option maxRecDepth 20000 in
theorem ggX12_street_X12_comesTold : GoodIn wsX12_street wsX12_comesTold := goodIn_r _ [44, 37, 5, 45, 46, 47, 10, 48, 49, 50, 51, 52, 53, 54, 55, 56, 57, 58, 59, 60, 61, 62, 63, 64, 65, 66, 67, 68, 69, 70, 71, 72, 18, 19, 20, 73, 74, 75, 76, 77, 78, 79, 80, 81, 82, 83, 84, 85, 86, 87, 88, 89, 90, 91, 92, 93, 94, 95, 96, 97, 98, 99, 100, 101, 102, 103, 104, 105, 106, 107, 108, 109, 110, 111, 112] (by decide +kernel) (by decide +kernel)
set_option maxRecDepth 20000 in
theorem gX12_street_X12_comesTold : GoodIn wsX12_street (wsV RX12 164 RX12 yX12_comesTold wsX12_comesTold) := goodIn_app (goodIn_of _ (by decide +kernel)) ggX12_street_X12_comesTold
theorem dX12_street_0 : decode cX12_street 0 = .ok (.aload_n 0, 1) := by decide +kernel
theorem dX12_street_1 : decode cX12_street 1 = .ok (.iload_n 1, 1) := by decide +kernel
theorem dX12_street_2 : decode cX12_street 2 = .ok (.iconst 0, 1) := by decide +kernel
theorem dX12_street_3 : decode cX12_street 3 = .ok (.invokevirtual 157, 3) := by decide +kernel
theorem dX12_street_6 : decode cX12_street 6 = .ok (.istore_n 2, 1) := by decide +kernel
theorem dX12_street_7 : decode cX12_street 7 = .ok (.iload_n 2, 1) := by decide +kernel
theorem dX12_street_8 : decode cX12_street 8 = .ok (.ifCond .eq 5, 3) := by decide +kernel
theorem dX12_street_11 : decode cX12_street 11 = .ok (.iload_n 2, 1) := by decide +kernel
theorem dX12_street_12 : decode cX12_street 12 = .ok (.ireturn, 1) := by decide +kernel
theorem dX12_street_13 : decode cX12_street 13 = .ok (.aload_n 0, 1) := by decide +kernel
theorem dX12_street_14 : decode cX12_street 14 = .ok (.bipush 100, 2) := by decide +kernel
theorem dX12_street_16 : decode cX12_street 16 = .ok (.iload_n 1, 1) := by decide +kernel
theorem dX12_street_17 : decode cX12_street 17 = .ok (.imul, 1) := by decide +kernel
theorem dX12_street_18 : decode cX12_street 18 = .ok (.putfield 109, 3) := by decide +kernel
theorem dX12_street_21 : decode cX12_street 21 = .ok (.aload_n 0, 1) := by decide +kernel
theorem dX12_street_22 : decode cX12_street 22 = .ok (.aload_n 0, 1) := by decide +kernel
theorem dX12_street_23 : decode cX12_street 23 = .ok (.getfield 28, 3) := by decide +kernel
theorem dX12_street_26 : decode cX12_street 26 = .ok (.iload_n 1, 1) := by decide +kernel
theorem dX12_street_27 : decode cX12_street 27 = .ok (.iaload, 1) := by decide +kernel
theorem dX12_street_28 : decode cX12_street 28 = .ok (.putfield 106, 3) := by decide +kernel
theorem dX12_street_31 : decode cX12_street 31 = .ok (.aload_n 0, 1) := by decide +kernel
theorem dX12_street_32 : decode cX12_street 32 = .ok (.iconst 0, 1) := by decide +kernel
theorem dX12_street_33 : decode cX12_street 33 = .ok (.putfield 103, 3) := by decide +kernel
theorem dX12_street_36 : decode cX12_street 36 = .ok (.iconst 0, 1) := by decide +kernel
theorem dX12_street_37 : decode cX12_street 37 = .ok (.istore_n 3, 1) := by decide +kernel
theorem dX12_street_38 : decode cX12_street 38 = .ok (.aload_n 0, 1) := by decide +kernel
theorem dX12_street_39 : decode cX12_street 39 = .ok (.invokevirtual 160, 3) := by decide +kernel
theorem dX12_street_42 : decode cX12_street 42 = .ok (.ifCond .ne 12, 3) := by decide +kernel
theorem dX12_street_45 : decode cX12_street 45 = .ok (.sipush (-1000), 3) := by decide +kernel
theorem dX12_street_48 : decode cX12_street 48 = .ok (.aload_n 0, 1) := by decide +kernel
theorem dX12_street_49 : decode cX12_street 49 = .ok (.getfield 103, 3) := by decide +kernel
theorem dX12_street_52 : decode cX12_street 52 = .ok (.isub, 1) := by decide +kernel
theorem dX12_street_53 : decode cX12_street 53 = .ok (.ireturn, 1) := by decide +kernel
theorem dX12_street_54 : decode cX12_street 54 = .ok (.iinc 3 1, 3) := by decide +kernel
theorem dX12_street_57 : decode cX12_street 57 = .ok (.aload_n 0, 1) := by decide +kernel
theorem dX12_street_58 : decode cX12_street 58 = .ok (.getfield 103, 3) := by decide +kernel
theorem dX12_street_61 : decode cX12_street 61 = .ok (.aload_n 0, 1) := by decide +kernel
theorem dX12_street_62 : decode cX12_street 62 = .ok (.getfield 106, 3) := by decide +kernel
theorem dX12_street_65 : decode cX12_street 65 = .ok (.if_icmp .lt (-27), 3) := by decide +kernel
theorem dX12_street_68 : decode cX12_street 68 = .ok (.aload_n 0, 1) := by decide +kernel
theorem dX12_street_69 : decode cX12_street 69 = .ok (.getfield 9, 3) := by decide +kernel
theorem dX12_street_72 : decode cX12_street 72 = .ok (.aload_n 0, 1) := by decide +kernel
theorem dX12_street_73 : decode cX12_street 73 = .ok (.getfield 16, 3) := by decide +kernel
theorem dX12_street_76 : decode cX12_street 76 = .ok (.invokestatic 60, 3) := by decide +kernel
theorem dX12_street_79 : decode cX12_street 79 = .ok (.aload_n 0, 1) := by decide +kernel
theorem dX12_street_80 : decode cX12_street 80 = .ok (.iconst 0, 1) := by decide +kernel
theorem dX12_street_81 : decode cX12_street 81 = .ok (.putfield 103, 3) := by decide +kernel
theorem dX12_street_84 : decode cX12_street 84 = .ok (.aload_n 0, 1) := by decide +kernel
theorem dX12_street_85 : decode cX12_street 85 = .ok (.getfield 103, 3) := by decide +kernel
theorem dX12_street_88 : decode cX12_street 88 = .ok (.aload_n 0, 1) := by decide +kernel
theorem dX12_street_89 : decode cX12_street 89 = .ok (.getfield 106, 3) := by decide +kernel
theorem dX12_street_92 : decode cX12_street 92 = .ok (.if_icmp .ge 51, 3) := by decide +kernel
theorem dX12_street_95 : decode cX12_street 95 = .ok (.aload_n 0, 1) := by decide +kernel
theorem dX12_street_96 : decode cX12_street 96 = .ok (.getfield 103, 3) := by decide +kernel
theorem dX12_street_99 : decode cX12_street 99 = .ok (.istore 4, 2) := by decide +kernel
theorem dX12_street_101 : decode cX12_street 101 = .ok (.aload_n 0, 1) := by decide +kernel
theorem dX12_street_102 : decode cX12_street 102 = .ok (.invokevirtual 112, 3) := by decide +kernel
theorem dX12_street_105 : decode cX12_street 105 = .ok (.istore 5, 2) := by decide +kernel
theorem dX12_street_107 : decode cX12_street 107 = .ok (.aload_n 0, 1) := by decide +kernel
theorem dX12_street_108 : decode cX12_street 108 = .ok (.invokevirtual 160, 3) := by decide +kernel
theorem dX12_street_111 : decode cX12_street 111 = .ok (.istore 6, 2) := by decide +kernel
theorem dX12_street_113 : decode cX12_street 113 = .ok (.aload_n 0, 1) := by decide +kernel
theorem dX12_street_114 : decode cX12_street 114 = .ok (.iload 5, 2) := by decide +kernel
theorem dX12_street_116 : decode cX12_street 116 = .ok (.invokevirtual 164, 3) := by decide +kernel
theorem dX12_street_119 : decode cX12_street 119 = .ok (.ifCond .ne 21, 3) := by decide +kernel
theorem dX12_street_122 : decode cX12_street 122 = .ok (.aload_n 0, 1) := by decide +kernel
theorem dX12_street_123 : decode cX12_street 123 = .ok (.getfield 16, 3) := by decide +kernel
theorem dX12_street_126 : decode cX12_street 126 = .ok (.aload_n 0, 1) := by decide +kernel
theorem dX12_street_127 : decode cX12_street 127 = .ok (.getfield 9, 3) := by decide +kernel
theorem dX12_street_130 : decode cX12_street 130 = .ok (.invokestatic 60, 3) := by decide +kernel
theorem dX12_street_133 : decode cX12_street 133 = .ok (.sipush (-2000), 3) := by decide +kernel
theorem dX12_street_136 : decode cX12_street 136 = .ok (.iload 4, 2) := by decide +kernel
theorem dX12_street_138 : decode cX12_street 138 = .ok (.isub, 1) := by decide +kernel
theorem dX12_street_139 : decode cX12_street 139 = .ok (.ireturn, 1) := by decide +kernel
theorem dX12_street_140 : decode cX12_street 140 = .ok (.goto (-56), 3) := by decide +kernel
theorem dX12_street_143 : decode cX12_street 143 = .ok (.iload_n 3, 1) := by decide +kernel
theorem dX12_street_144 : decode cX12_street 144 = .ok (.ireturn, 1) := by decide +kernel
set_option maxRecDepth 20000 in
theorem ggX12_house_X12_isHouse : GoodIn wsX12_house wsX12_isHouse := goodIn_r _ [5, 6, 7, 8, 4, 9, 49, 50, 51, 52, 53, 54, 55, 56, 57, 58, 59, 60, 61, 62, 63, 64, 65, 66, 67, 68, 69, 70, 71, 72] (by decide +kernel) (by decide +kernel)
set_option maxRecDepth 20000 in
theorem gX12_house_X12_isHouse : GoodIn wsX12_house (wsV RX12 56 RX12 yX12_isHouse wsX12_isHouse) := goodIn_app (goodIn_of _ (by decide +kernel)) ggX12_house_X12_isHouse
set_option maxRecDepth 20000 in
theorem ggX12_house_X12_get : GoodIn wsX12_house wsX12_get := goodIn_r _ [13, 6, 49, 50, 51, 52, 53, 54, 55, 56, 57, 58, 59, 60, 61, 62, 63, 64, 65, 66, 67, 68, 69, 70, 71, 72] (by decide +kernel) (by decide +kernel)
set_option maxRecDepth 20000 in
theorem gX12_house_X12_get : GoodIn wsX12_house (wsV RX12 64 RX12 yX12_get wsX12_get) := goodIn_app (goodIn_of _ (by decide +kernel)) ggX12_house_X12_get
set_option maxRecDepth 20000 in
theorem ggX12_house_X12_isLookedAt : GoodIn wsX12_house wsX12_isLookedAt := goodIn_r _ [17, 18, 19, 20, 4, 21, 10, 11, 12, 13, 6, 49, 50, 51, 52, 53, 54, 55, 56, 57, 58, 59, 60, 61, 62, 63, 64, 65, 66, 67, 68, 69, 70, 71, 72] (by decide +kernel) (by decide +kernel)
set_option maxRecDepth 20000 in
theorem gX12_house_X12_isLookedAt : GoodIn wsX12_house (wsV RX12 81 RX12 yX12_isLookedAt wsX12_isLookedAt) := goodIn_app (goodIn_of _ (by decide +kernel)) ggX12_house_X12_isLookedAt
set_option maxRecDepth 20000 in
theorem ggX12_house_X12_shows : GoodIn wsX12_house wsX12_shows := goodIn_r _ [25, 26, 27, 28, 4, 29, 10, 11, 12, 13, 6, 18, 19, 20, 21, 30, 31, 32, 33, 49, 50, 51, 52, 53, 54, 55, 56, 57, 58, 59, 60, 61, 62, 63, 64, 65, 66, 67, 68, 69, 70, 71, 72] (by decide +kernel) (by decide +kernel)
set_option maxRecDepth 20000 in
theorem gX12_house_X12_shows : GoodIn wsX12_house (wsV RX12 84 RX12 yX12_shows wsX12_shows) := goodIn_app (goodIn_of _ (by decide +kernel)) ggX12_house_X12_shows
set_option maxRecDepth 20000 in
theorem ggX12_house_X12_mostOf : GoodIn wsX12_house wsX12_mostOf := goodIn_r _ [37, 38, 39, 40, 4, 41, 6, 1, 2, 3, 5, 7, 8, 9, 14, 15, 16, 17, 18, 19, 20, 21, 10, 11, 12, 13, 22, 23, 24, 25, 26, 27, 28, 29, 30, 31, 32, 33, 42, 43, 44, 45, 49, 50, 51, 52, 53, 54, 55, 56, 57, 58, 59, 60, 61, 62, 63, 64, 65, 66, 67, 68, 69, 70, 71, 72] (by decide +kernel) (by decide +kernel)
set_option maxRecDepth 20000 in
theorem gX12_house_X12_mostOf : GoodIn wsX12_house (wsV RX12 167 RX12 yX12_mostOf wsX12_mostOf) := goodIn_app (goodIn_of _ (by decide +kernel)) ggX12_house_X12_mostOf
set_option maxRecDepth 20000 in
theorem ggX12_house_X12_kind : GoodIn wsX12_house wsX12_kind := goodIn_r _ [21, 10, 11, 12, 4, 13, 6, 49, 50, 51, 52, 53, 54, 55, 56, 57, 58, 59, 60, 61, 62, 63, 64, 65, 66, 67, 68, 69, 70, 71, 72] (by decide +kernel) (by decide +kernel)
set_option maxRecDepth 20000 in
theorem gX12_house_X12_kind : GoodIn wsX12_house (wsV RX12 72 RX12 yX12_kind wsX12_kind) := goodIn_app (goodIn_of _ (by decide +kernel)) ggX12_house_X12_kind
set_option maxRecDepth 20000 in
theorem ggX12_house_X12_figure : GoodIn wsX12_house wsX12_figure := goodIn_r _ [33, 10, 11, 12, 4, 13, 6, 49, 50, 51, 52, 53, 54, 55, 56, 57, 58, 59, 60, 61, 62, 63, 64, 65, 66, 67, 68, 69, 70, 71, 72] (by decide +kernel) (by decide +kernel)
set_option maxRecDepth 20000 in
theorem gX12_house_X12_figure : GoodIn wsX12_house (wsV RX12 75 RX12 yX12_figure wsX12_figure) := goodIn_app (goodIn_of _ (by decide +kernel)) ggX12_house_X12_figure
set_option maxRecDepth 20000 in
theorem ggX12_house_X12_earnsBy : GoodIn wsX12_house wsX12_earnsBy := goodIn_r _ [48] (by decide +kernel) (by decide +kernel)
set_option maxRecDepth 20000 in
theorem gX12_house_X12_earnsBy : GoodIn wsX12_house (va_wsS RX12 170 yX12_earnsBy wsX12_earnsBy) := goodIn_app (goodIn_of _ (by decide +kernel)) ggX12_house_X12_earnsBy
theorem dX12_house_0 : decode cX12_house 0 = .ok (.aload_n 0, 1) := by decide +kernel
theorem dX12_house_1 : decode cX12_house 1 = .ok (.iload_n 1, 1) := by decide +kernel
theorem dX12_house_2 : decode cX12_house 2 = .ok (.invokevirtual 56, 3) := by decide +kernel
theorem dX12_house_5 : decode cX12_house 5 = .ok (.ifCond .ne 5, 3) := by decide +kernel
theorem dX12_house_8 : decode cX12_house 8 = .ok (.iconst (-1), 1) := by decide +kernel
theorem dX12_house_9 : decode cX12_house 9 = .ok (.ireturn, 1) := by decide +kernel
theorem dX12_house_10 : decode cX12_house 10 = .ok (.iload_n 2, 1) := by decide +kernel
theorem dX12_house_11 : decode cX12_house 11 = .ok (.tableswitch 83 0 5 #[37, 37, 37, 44, 63, 69], 37) := by decide +kernel
theorem dX12_house_48 : decode cX12_house 48 = .ok (.aload_n 0, 1) := by decide +kernel
theorem dX12_house_49 : decode cX12_house 49 = .ok (.iload_n 1, 1) := by decide +kernel
theorem dX12_house_50 : decode cX12_house 50 = .ok (.iload_n 2, 1) := by decide +kernel
theorem dX12_house_51 : decode cX12_house 51 = .ok (.invokevirtual 64, 3) := by decide +kernel
theorem dX12_house_54 : decode cX12_house 54 = .ok (.ireturn, 1) := by decide +kernel
theorem dX12_house_55 : decode cX12_house 55 = .ok (.aload_n 0, 1) := by decide +kernel
theorem dX12_house_56 : decode cX12_house 56 = .ok (.iload_n 1, 1) := by decide +kernel
theorem dX12_house_57 : decode cX12_house 57 = .ok (.invokevirtual 81, 3) := by decide +kernel
theorem dX12_house_60 : decode cX12_house 60 = .ok (.ifCond .eq 11, 3) := by decide +kernel
theorem dX12_house_63 : decode cX12_house 63 = .ok (.aload_n 0, 1) := by decide +kernel
theorem dX12_house_64 : decode cX12_house 64 = .ok (.iload_n 1, 1) := by decide +kernel
theorem dX12_house_65 : decode cX12_house 65 = .ok (.invokevirtual 84, 3) := by decide +kernel
theorem dX12_house_68 : decode cX12_house 68 = .ok (.goto 5, 3) := by decide +kernel
theorem dX12_house_71 : decode cX12_house 71 = .ok (.bipush (-4), 2) := by decide +kernel
theorem dX12_house_73 : decode cX12_house 73 = .ok (.ireturn, 1) := by decide +kernel
theorem dX12_house_74 : decode cX12_house 74 = .ok (.aload_n 0, 1) := by decide +kernel
theorem dX12_house_75 : decode cX12_house 75 = .ok (.iload_n 1, 1) := by decide +kernel
theorem dX12_house_76 : decode cX12_house 76 = .ok (.invokevirtual 167, 3) := by decide +kernel
theorem dX12_house_79 : decode cX12_house 79 = .ok (.ireturn, 1) := by decide +kernel
theorem dX12_house_80 : decode cX12_house 80 = .ok (.aload_n 0, 1) := by decide +kernel
theorem dX12_house_81 : decode cX12_house 81 = .ok (.iload_n 1, 1) := by decide +kernel
theorem dX12_house_82 : decode cX12_house 82 = .ok (.invokevirtual 72, 3) := by decide +kernel
theorem dX12_house_85 : decode cX12_house 85 = .ok (.aload_n 0, 1) := by decide +kernel
theorem dX12_house_86 : decode cX12_house 86 = .ok (.iload_n 1, 1) := by decide +kernel
theorem dX12_house_87 : decode cX12_house 87 = .ok (.invokevirtual 75, 3) := by decide +kernel
theorem dX12_house_90 : decode cX12_house 90 = .ok (.invokestatic 170, 3) := by decide +kernel
theorem dX12_house_93 : decode cX12_house 93 = .ok (.ireturn, 1) := by decide +kernel
theorem dX12_house_94 : decode cX12_house 94 = .ok (.iconst (-1), 1) := by decide +kernel
theorem dX12_house_95 : decode cX12_house 95 = .ok (.ireturn, 1) := by decide +kernel
set_option maxRecDepth 20000 in
theorem ggX12_wrongKept_X12_isShelf : GoodIn wsX12_wrongKept wsX12_isShelf := goodIn_r _ [5, 6, 7, 8, 4, 9] (by decide +kernel) (by decide +kernel)
set_option maxRecDepth 20000 in
theorem gX12_wrongKept_X12_isShelf : GoodIn wsX12_wrongKept (va_wsS RX12 154 yX12_isShelf wsX12_isShelf) := goodIn_app (goodIn_of _ (by decide +kernel)) ggX12_wrongKept_X12_isShelf
theorem dX12_wrongKept_0 : decode cX12_wrongKept 0 = .ok (.iload_n 1, 1) := by decide +kernel
theorem dX12_wrongKept_1 : decode cX12_wrongKept 1 = .ok (.invokestatic 154, 3) := by decide +kernel
theorem dX12_wrongKept_4 : decode cX12_wrongKept 4 = .ok (.ifCond .ne 7, 3) := by decide +kernel
theorem dX12_wrongKept_7 : decode cX12_wrongKept 7 = .ok (.iconst (-1), 1) := by decide +kernel
theorem dX12_wrongKept_8 : decode cX12_wrongKept 8 = .ok (.goto 33, 3) := by decide +kernel
theorem dX12_wrongKept_11 : decode cX12_wrongKept 11 = .ok (.aload_n 0, 1) := by decide +kernel
theorem dX12_wrongKept_12 : decode cX12_wrongKept 12 = .ok (.getfield 22, 3) := by decide +kernel
theorem dX12_wrongKept_15 : decode cX12_wrongKept 15 = .ok (.iload_n 1, 1) := by decide +kernel
theorem dX12_wrongKept_16 : decode cX12_wrongKept 16 = .ok (.iaload, 1) := by decide +kernel
theorem dX12_wrongKept_17 : decode cX12_wrongKept 17 = .ok (.ifCond .ne 8, 3) := by decide +kernel
theorem dX12_wrongKept_20 : decode cX12_wrongKept 20 = .ok (.bipush (-11), 2) := by decide +kernel
theorem dX12_wrongKept_22 : decode cX12_wrongKept 22 = .ok (.goto 19, 3) := by decide +kernel
theorem dX12_wrongKept_25 : decode cX12_wrongKept 25 = .ok (.aload_n 0, 1) := by decide +kernel
theorem dX12_wrongKept_26 : decode cX12_wrongKept 26 = .ok (.getfield 22, 3) := by decide +kernel
theorem dX12_wrongKept_29 : decode cX12_wrongKept 29 = .ok (.iload_n 1, 1) := by decide +kernel
theorem dX12_wrongKept_30 : decode cX12_wrongKept 30 = .ok (.iaload, 1) := by decide +kernel
theorem dX12_wrongKept_31 : decode cX12_wrongKept 31 = .ok (.iconst 1, 1) := by decide +kernel
theorem dX12_wrongKept_32 : decode cX12_wrongKept 32 = .ok (.if_icmp .ne 7, 3) := by decide +kernel
theorem dX12_wrongKept_35 : decode cX12_wrongKept 35 = .ok (.iconst 0, 1) := by decide +kernel
theorem dX12_wrongKept_36 : decode cX12_wrongKept 36 = .ok (.goto 5, 3) := by decide +kernel
theorem dX12_wrongKept_39 : decode cX12_wrongKept 39 = .ok (.bipush (-12), 2) := by decide +kernel
theorem dX12_wrongKept_41 : decode cX12_wrongKept 41 = .ok (.ireturn, 1) := by decide +kernel
set_option maxRecDepth 20000 in
theorem ggX12_comes_X12_isIn : GoodIn wsX12_comes wsX12_isIn := goodIn_r _ [8] (by decide +kernel) (by decide +kernel)
set_option maxRecDepth 20000 in
theorem gX12_comes_X12_isIn : GoodIn wsX12_comes (va_wsS RX12 52 yX12_isIn wsX12_isIn) := goodIn_app (goodIn_of _ (by decide +kernel)) ggX12_comes_X12_isIn
set_option maxRecDepth 20000 in
theorem ggX12_comes_X12_wrongKept : GoodIn wsX12_comes wsX12_wrongKept := goodIn_r _ [12, 13, 14, 15, 7, 16, 17, 5, 6, 8, 30, 31, 32, 33, 34, 35, 36, 37, 38, 39, 40, 41, 42, 43, 44, 45, 46, 47, 48, 49, 50, 51, 52, 53] (by decide +kernel) (by decide +kernel)
set_option maxRecDepth 20000 in
theorem gX12_comes_X12_wrongKept : GoodIn wsX12_comes (wsV RX12 175 RX12 yX12_wrongKept wsX12_wrongKept) := goodIn_app (goodIn_of _ (by decide +kernel)) ggX12_comes_X12_wrongKept
set_option maxRecDepth 20000 in
theorem ggX12_comes_X12_adds : GoodIn wsX12_comes wsX12_adds := goodIn_r _ [21, 4, 22, 23, 24, 7, 25, 26, 27, 28, 29, 30, 31, 32, 33, 34, 35, 36, 37, 38, 39, 40, 41, 42, 43, 44, 45, 46, 47, 48, 49, 50, 51, 52, 53] (by decide +kernel) (by decide +kernel)
set_option maxRecDepth 20000 in
theorem gX12_comes_X12_adds : GoodIn wsX12_comes (wsV RX12 143 RX12 yX12_adds wsX12_adds) := goodIn_app (goodIn_of _ (by decide +kernel)) ggX12_comes_X12_adds
theorem dX12_comes_0 : decode cX12_comes 0 = .ok (.iload_n 2, 1) := by decide +kernel
theorem dX12_comes_1 : decode cX12_comes 1 = .ok (.i2l, 1) := by decide +kernel
theorem dX12_comes_2 : decode cX12_comes 2 = .ok (.lconst 0, 1) := by decide +kernel
theorem dX12_comes_3 : decode cX12_comes 3 = .ok (.ldc2_w 173, 3) := by decide +kernel
theorem dX12_comes_6 : decode cX12_comes 6 = .ok (.invokestatic 52, 3) := by decide +kernel
theorem dX12_comes_9 : decode cX12_comes 9 = .ok (.ifCond .ne 7, 3) := by decide +kernel
theorem dX12_comes_12 : decode cX12_comes 12 = .ok (.iconst (-1), 1) := by decide +kernel
theorem dX12_comes_13 : decode cX12_comes 13 = .ok (.goto 8, 3) := by decide +kernel
theorem dX12_comes_16 : decode cX12_comes 16 = .ok (.aload_n 0, 1) := by decide +kernel
theorem dX12_comes_17 : decode cX12_comes 17 = .ok (.iload_n 1, 1) := by decide +kernel
theorem dX12_comes_18 : decode cX12_comes 18 = .ok (.invokevirtual 175, 3) := by decide +kernel
theorem dX12_comes_21 : decode cX12_comes 21 = .ok (.istore_n 3, 1) := by decide +kernel
theorem dX12_comes_22 : decode cX12_comes 22 = .ok (.iload_n 3, 1) := by decide +kernel
theorem dX12_comes_23 : decode cX12_comes 23 = .ok (.ifCond .eq 5, 3) := by decide +kernel
theorem dX12_comes_26 : decode cX12_comes 26 = .ok (.iload_n 3, 1) := by decide +kernel
theorem dX12_comes_27 : decode cX12_comes 27 = .ok (.ireturn, 1) := by decide +kernel
theorem dX12_comes_28 : decode cX12_comes 28 = .ok (.aload_n 0, 1) := by decide +kernel
theorem dX12_comes_29 : decode cX12_comes 29 = .ok (.aload_n 0, 1) := by decide +kernel
theorem dX12_comes_30 : decode cX12_comes 30 = .ok (.getfield 34, 3) := by decide +kernel
theorem dX12_comes_33 : decode cX12_comes 33 = .ok (.iload_n 1, 1) := by decide +kernel
theorem dX12_comes_34 : decode cX12_comes 34 = .ok (.iaload, 1) := by decide +kernel
theorem dX12_comes_35 : decode cX12_comes 35 = .ok (.aload_n 0, 1) := by decide +kernel
theorem dX12_comes_36 : decode cX12_comes 36 = .ok (.getfield 37, 3) := by decide +kernel
theorem dX12_comes_39 : decode cX12_comes 39 = .ok (.iload_n 1, 1) := by decide +kernel
theorem dX12_comes_40 : decode cX12_comes 40 = .ok (.iaload, 1) := by decide +kernel
theorem dX12_comes_41 : decode cX12_comes 41 = .ok (.iload_n 2, 1) := by decide +kernel
theorem dX12_comes_42 : decode cX12_comes 42 = .ok (.invokevirtual 143, 3) := by decide +kernel
theorem dX12_comes_45 : decode cX12_comes 45 = .ok (.ifCond .eq 14, 3) := by decide +kernel
theorem dX12_comes_48 : decode cX12_comes 48 = .ok (.aload_n 0, 1) := by decide +kernel
theorem dX12_comes_49 : decode cX12_comes 49 = .ok (.getfield 9, 3) := by decide +kernel
theorem dX12_comes_52 : decode cX12_comes 52 = .ok (.iconst 0, 1) := by decide +kernel
theorem dX12_comes_53 : decode cX12_comes 53 = .ok (.iaload, 1) := by decide +kernel
theorem dX12_comes_54 : decode cX12_comes 54 = .ok (.iconst 1, 1) := by decide +kernel
theorem dX12_comes_55 : decode cX12_comes 55 = .ok (.isub, 1) := by decide +kernel
theorem dX12_comes_56 : decode cX12_comes 56 = .ok (.goto 5, 3) := by decide +kernel
theorem dX12_comes_59 : decode cX12_comes 59 = .ok (.bipush (-2), 2) := by decide +kernel
theorem dX12_comes_61 : decode cX12_comes 61 = .ok (.ireturn, 1) := by decide +kernel
set_option maxRecDepth 20000 in
theorem ggX12_round_X12_isIn : GoodIn wsX12_round wsX12_isIn := goodIn_r _ [5] (by decide +kernel) (by decide +kernel)
set_option maxRecDepth 20000 in
theorem gX12_round_X12_isIn : GoodIn wsX12_round (va_wsS RX12 52 yX12_isIn wsX12_isIn) := goodIn_app (goodIn_of _ (by decide +kernel)) ggX12_round_X12_isIn
theorem dX12_round_0 : decode cX12_round 0 = .ok (.iload_n 1, 1) := by decide +kernel
theorem dX12_round_1 : decode cX12_round 1 = .ok (.i2l, 1) := by decide +kernel
theorem dX12_round_2 : decode cX12_round 2 = .ok (.lconst 0, 1) := by decide +kernel
theorem dX12_round_3 : decode cX12_round 3 = .ok (.lconst 1, 1) := by decide +kernel
theorem dX12_round_4 : decode cX12_round 4 = .ok (.invokestatic 52, 3) := by decide +kernel
theorem dX12_round_7 : decode cX12_round 7 = .ok (.ifCond .ne 5, 3) := by decide +kernel
theorem dX12_round_10 : decode cX12_round 10 = .ok (.iconst (-1), 1) := by decide +kernel
theorem dX12_round_11 : decode cX12_round 11 = .ok (.ireturn, 1) := by decide +kernel
theorem dX12_round_12 : decode cX12_round 12 = .ok (.aload_n 0, 1) := by decide +kernel
theorem dX12_round_13 : decode cX12_round 13 = .ok (.getfield 9, 3) := by decide +kernel
theorem dX12_round_16 : decode cX12_round 16 = .ok (.iconst 1, 1) := by decide +kernel
theorem dX12_round_17 : decode cX12_round 17 = .ok (.iaload, 1) := by decide +kernel
theorem dX12_round_18 : decode cX12_round 18 = .ok (.istore_n 2, 1) := by decide +kernel
theorem dX12_round_19 : decode cX12_round 19 = .ok (.aload_n 0, 1) := by decide +kernel
theorem dX12_round_20 : decode cX12_round 20 = .ok (.getfield 9, 3) := by decide +kernel
theorem dX12_round_23 : decode cX12_round 23 = .ok (.iconst 1, 1) := by decide +kernel
theorem dX12_round_24 : decode cX12_round 24 = .ok (.iload_n 1, 1) := by decide +kernel
theorem dX12_round_25 : decode cX12_round 25 = .ok (.iastore, 1) := by decide +kernel
theorem dX12_round_26 : decode cX12_round 26 = .ok (.iload_n 2, 1) := by decide +kernel
theorem dX12_round_27 : decode cX12_round 27 = .ok (.ireturn, 1) := by decide +kernel
set_option maxRecDepth 20000 in
theorem ggX12_give_X12_wrongGift : GoodIn wsX12_give wsX12_wrongGift := goodIn_r _ [5, 6, 7, 8, 4, 9, 10, 11, 12, 13, 14, 15, 16, 17, 18, 19, 20, 21, 22, 23, 24, 25, 34, 35, 36, 37, 38, 39, 40, 41, 42, 43, 44, 45, 46, 47, 48, 49, 50, 51, 52, 53, 54, 55, 56, 57] (by decide +kernel) (by decide +kernel)
set_option maxRecDepth 20000 in
theorem gX12_give_X12_wrongGift : GoodIn wsX12_give (wsV RX12 136 RX12 yX12_wrongGift wsX12_wrongGift) := goodIn_app (goodIn_of _ (by decide +kernel)) ggX12_give_X12_wrongGift
set_option maxRecDepth 20000 in
theorem ggX12_give_X12_gives : GoodIn wsX12_give wsX12_gives := goodIn_r _ [29, 18, 19, 20, 4, 21, 22, 23, 24, 25, 14, 30, 31, 32, 33, 34, 35, 36, 37, 38, 39, 40, 41, 42, 43, 44, 45, 46, 47, 48, 49, 50, 51, 52, 53, 54, 55, 56, 57] (by decide +kernel) (by decide +kernel)
set_option maxRecDepth 20000 in
theorem gX12_give_X12_gives : GoodIn wsX12_give (wsV RX12 140 RX12 yX12_gives wsX12_gives) := goodIn_app (goodIn_of _ (by decide +kernel)) ggX12_give_X12_gives
set_option maxRecDepth 20000 in
theorem ggX12_give_X12_purse : GoodIn wsX12_give wsX12_purse := goodIn_r _ [21, 22, 23, 24, 4, 25, 14, 34, 35, 36, 37, 38, 39, 40, 41, 42, 43, 44, 45, 46, 47, 48, 49, 50, 51, 52, 53, 54, 55, 56, 57] (by decide +kernel) (by decide +kernel)
set_option maxRecDepth 20000 in
theorem gX12_give_X12_purse : GoodIn wsX12_give (wsV RX12 68 RX12 yX12_purse wsX12_purse) := goodIn_app (goodIn_of _ (by decide +kernel)) ggX12_give_X12_purse
theorem dX12_give_0 : decode cX12_give 0 = .ok (.aload_n 0, 1) := by decide +kernel
theorem dX12_give_1 : decode cX12_give 1 = .ok (.iload_n 1, 1) := by decide +kernel
theorem dX12_give_2 : decode cX12_give 2 = .ok (.iload_n 2, 1) := by decide +kernel
theorem dX12_give_3 : decode cX12_give 3 = .ok (.iload_n 3, 1) := by decide +kernel
theorem dX12_give_4 : decode cX12_give 4 = .ok (.invokevirtual 136, 3) := by decide +kernel
theorem dX12_give_7 : decode cX12_give 7 = .ok (.istore 4, 2) := by decide +kernel
theorem dX12_give_9 : decode cX12_give 9 = .ok (.iload 4, 2) := by decide +kernel
theorem dX12_give_11 : decode cX12_give 11 = .ok (.ifCond .eq 6, 3) := by decide +kernel
theorem dX12_give_14 : decode cX12_give 14 = .ok (.iload 4, 2) := by decide +kernel
theorem dX12_give_16 : decode cX12_give 16 = .ok (.ireturn, 1) := by decide +kernel
theorem dX12_give_17 : decode cX12_give 17 = .ok (.aload_n 0, 1) := by decide +kernel
theorem dX12_give_18 : decode cX12_give 18 = .ok (.iload_n 1, 1) := by decide +kernel
theorem dX12_give_19 : decode cX12_give 19 = .ok (.iload_n 2, 1) := by decide +kernel
theorem dX12_give_20 : decode cX12_give 20 = .ok (.iload_n 3, 1) := by decide +kernel
theorem dX12_give_21 : decode cX12_give 21 = .ok (.invokevirtual 140, 3) := by decide +kernel
theorem dX12_give_24 : decode cX12_give 24 = .ok (.aload_n 0, 1) := by decide +kernel
theorem dX12_give_25 : decode cX12_give 25 = .ok (.iload_n 1, 1) := by decide +kernel
theorem dX12_give_26 : decode cX12_give 26 = .ok (.invokevirtual 68, 3) := by decide +kernel
theorem dX12_give_29 : decode cX12_give 29 = .ok (.ireturn, 1) := by decide +kernel
set_option maxRecDepth 20000 in
theorem ggX12_weeks_X12_isIn : GoodIn wsX12_weeks wsX12_isIn := goodIn_r _ [6] (by decide +kernel) (by decide +kernel)
set_option maxRecDepth 20000 in
theorem gX12_weeks_X12_isIn : GoodIn wsX12_weeks (va_wsS RX12 52 yX12_isIn wsX12_isIn) := goodIn_app (goodIn_of _ (by decide +kernel)) ggX12_weeks_X12_isIn
set_option maxRecDepth 20000 in
theorem ggX12_weeks_X12_purse : GoodIn wsX12_weeks wsX12_purse := goodIn_r _ [10, 11, 12, 13, 5, 14, 2, 34, 35, 36, 37, 38, 39, 40, 41, 42, 43, 44, 45, 46, 47, 48, 49, 50, 51, 52, 53, 54, 55, 56, 57] (by decide +kernel) (by decide +kernel)
set_option maxRecDepth 20000 in
theorem gX12_weeks_X12_purse : GoodIn wsX12_weeks (wsV RX12 68 RX12 yX12_purse wsX12_purse) := goodIn_app (goodIn_of _ (by decide +kernel)) ggX12_weeks_X12_purse
set_option maxRecDepth 20000 in
theorem ggX12_weeks_X12_kind : GoodIn wsX12_weeks wsX12_kind := goodIn_r _ [18, 11, 12, 13, 5, 14, 2, 34, 35, 36, 37, 38, 39, 40, 41, 42, 43, 44, 45, 46, 47, 48, 49, 50, 51, 52, 53, 54, 55, 56, 57] (by decide +kernel) (by decide +kernel)
set_option maxRecDepth 20000 in
theorem gX12_weeks_X12_kind : GoodIn wsX12_weeks (wsV RX12 72 RX12 yX12_kind wsX12_kind) := goodIn_app (goodIn_of _ (by decide +kernel)) ggX12_weeks_X12_kind
set_option maxRecDepth 20000 in
theorem ggX12_weeks_X12_figure : GoodIn wsX12_weeks wsX12_figure := goodIn_r _ [22, 11, 12, 13, 5, 14, 2, 34, 35, 36, 37, 38, 39, 40, 41, 42, 43, 44, 45, 46, 47, 48, 49, 50, 51, 52, 53, 54, 55, 56, 57] (by decide +kernel) (by decide +kernel)
set_option maxRecDepth 20000 in
theorem gX12_weeks_X12_figure : GoodIn wsX12_weeks (wsV RX12 75 RX12 yX12_figure wsX12_figure) := goodIn_app (goodIn_of _ (by decide +kernel)) ggX12_weeks_X12_figure
set_option maxRecDepth 20000 in
theorem ggX12_weeks_X12_earnsBy : GoodIn wsX12_weeks wsX12_earnsBy := goodIn_r _ [25] (by decide +kernel) (by decide +kernel)
set_option maxRecDepth 20000 in
theorem gX12_weeks_X12_earnsBy : GoodIn wsX12_weeks (va_wsS RX12 170 yX12_earnsBy wsX12_earnsBy) := goodIn_app (goodIn_of _ (by decide +kernel)) ggX12_weeks_X12_earnsBy
set_option maxRecDepth 20000 in
theorem ggX12_weeks_X12_puts : GoodIn wsX12_weeks wsX12_puts := goodIn_r _ [29, 2, 34, 35, 36, 37, 38, 39, 40, 41, 42, 43, 44, 45, 46, 47, 48, 49, 50, 51, 52, 53, 54, 55, 56, 57] (by decide +kernel) (by decide +kernel)
set_option maxRecDepth 20000 in
theorem gX12_weeks_X12_puts : GoodIn wsX12_weeks (wsV RX12 125 RX12 yX12_puts wsX12_puts) := goodIn_app (goodIn_of _ (by decide +kernel)) ggX12_weeks_X12_puts
set_option maxRecDepth 20000 in
theorem ggX12_weeks_X12_coins : GoodIn wsX12_weeks wsX12_coins := goodIn_r _ [33, 2, 7, 8, 9, 5, 10, 11, 12, 13, 14, 34, 35, 36, 37, 38, 39, 40, 41, 42, 43, 44, 45, 46, 47, 48, 49, 50, 51, 52, 53, 54, 55, 56, 57] (by decide +kernel) (by decide +kernel)
set_option maxRecDepth 20000 in
theorem gX12_weeks_X12_coins : GoodIn wsX12_weeks (wsV RX12 180 RX12 yX12_coins wsX12_coins) := goodIn_app (goodIn_of _ (by decide +kernel)) ggX12_weeks_X12_coins
theorem dX12_weeks_0 : decode cX12_weeks 0 = .ok (.iload_n 1, 1) := by decide +kernel
theorem dX12_weeks_1 : decode cX12_weeks 1 = .ok (.i2l, 1) := by decide +kernel
theorem dX12_weeks_2 : decode cX12_weeks 2 = .ok (.lconst 1, 1) := by decide +kernel
theorem dX12_weeks_3 : decode cX12_weeks 3 = .ok (.ldc2_w 178, 3) := by decide +kernel
theorem dX12_weeks_6 : decode cX12_weeks 6 = .ok (.invokestatic 52, 3) := by decide +kernel
theorem dX12_weeks_9 : decode cX12_weeks 9 = .ok (.ifCond .ne 5, 3) := by decide +kernel
theorem dX12_weeks_12 : decode cX12_weeks 12 = .ok (.iconst (-1), 1) := by decide +kernel
theorem dX12_weeks_13 : decode cX12_weeks 13 = .ok (.ireturn, 1) := by decide +kernel
theorem dX12_weeks_14 : decode cX12_weeks 14 = .ok (.iconst 0, 1) := by decide +kernel
theorem dX12_weeks_15 : decode cX12_weeks 15 = .ok (.istore_n 2, 1) := by decide +kernel
theorem dX12_weeks_16 : decode cX12_weeks 16 = .ok (.iload_n 2, 1) := by decide +kernel
theorem dX12_weeks_17 : decode cX12_weeks 17 = .ok (.aload_n 0, 1) := by decide +kernel
theorem dX12_weeks_18 : decode cX12_weeks 18 = .ok (.getfield 9, 3) := by decide +kernel
theorem dX12_weeks_21 : decode cX12_weeks 21 = .ok (.iconst 0, 1) := by decide +kernel
theorem dX12_weeks_22 : decode cX12_weeks 22 = .ok (.iaload, 1) := by decide +kernel
theorem dX12_weeks_23 : decode cX12_weeks 23 = .ok (.if_icmp .ge 51, 3) := by decide +kernel
theorem dX12_weeks_26 : decode cX12_weeks 26 = .ok (.aload_n 0, 1) := by decide +kernel
theorem dX12_weeks_27 : decode cX12_weeks 27 = .ok (.iload_n 2, 1) := by decide +kernel
theorem dX12_weeks_28 : decode cX12_weeks 28 = .ok (.invokevirtual 68, 3) := by decide +kernel
theorem dX12_weeks_31 : decode cX12_weeks 31 = .ok (.iload_n 1, 1) := by decide +kernel
theorem dX12_weeks_32 : decode cX12_weeks 32 = .ok (.aload_n 0, 1) := by decide +kernel
theorem dX12_weeks_33 : decode cX12_weeks 33 = .ok (.iload_n 2, 1) := by decide +kernel
theorem dX12_weeks_34 : decode cX12_weeks 34 = .ok (.invokevirtual 72, 3) := by decide +kernel
theorem dX12_weeks_37 : decode cX12_weeks 37 = .ok (.aload_n 0, 1) := by decide +kernel
theorem dX12_weeks_38 : decode cX12_weeks 38 = .ok (.iload_n 2, 1) := by decide +kernel
theorem dX12_weeks_39 : decode cX12_weeks 39 = .ok (.invokevirtual 75, 3) := by decide +kernel
theorem dX12_weeks_42 : decode cX12_weeks 42 = .ok (.invokestatic 170, 3) := by decide +kernel
theorem dX12_weeks_45 : decode cX12_weeks 45 = .ok (.imul, 1) := by decide +kernel
theorem dX12_weeks_46 : decode cX12_weeks 46 = .ok (.iadd, 1) := by decide +kernel
theorem dX12_weeks_47 : decode cX12_weeks 47 = .ok (.istore_n 3, 1) := by decide +kernel
theorem dX12_weeks_48 : decode cX12_weeks 48 = .ok (.aload_n 0, 1) := by decide +kernel
theorem dX12_weeks_49 : decode cX12_weeks 49 = .ok (.iload_n 2, 1) := by decide +kernel
theorem dX12_weeks_50 : decode cX12_weeks 50 = .ok (.iconst 2, 1) := by decide +kernel
theorem dX12_weeks_51 : decode cX12_weeks 51 = .ok (.iload_n 3, 1) := by decide +kernel
theorem dX12_weeks_52 : decode cX12_weeks 52 = .ok (.sipush 9999, 3) := by decide +kernel
theorem dX12_weeks_55 : decode cX12_weeks 55 = .ok (.if_icmp .le 9, 3) := by decide +kernel
theorem dX12_weeks_58 : decode cX12_weeks 58 = .ok (.sipush 9999, 3) := by decide +kernel
theorem dX12_weeks_61 : decode cX12_weeks 61 = .ok (.goto 4, 3) := by decide +kernel
theorem dX12_weeks_64 : decode cX12_weeks 64 = .ok (.iload_n 3, 1) := by decide +kernel
theorem dX12_weeks_65 : decode cX12_weeks 65 = .ok (.invokevirtual 125, 3) := by decide +kernel
theorem dX12_weeks_68 : decode cX12_weeks 68 = .ok (.iinc 2 1, 3) := by decide +kernel
theorem dX12_weeks_71 : decode cX12_weeks 71 = .ok (.goto (-55), 3) := by decide +kernel
theorem dX12_weeks_74 : decode cX12_weeks 74 = .ok (.aload_n 0, 1) := by decide +kernel
theorem dX12_weeks_75 : decode cX12_weeks 75 = .ok (.invokevirtual 180, 3) := by decide +kernel
theorem dX12_weeks_78 : decode cX12_weeks 78 = .ok (.ireturn, 1) := by decide +kernel
set_option maxRecDepth 20000 in
theorem ggX12_lawful_X12_isLawful : GoodIn wsX12_lawful wsX12_isLawful := goodIn_r _ [5, 6, 7, 8, 4, 9, 10, 11, 12, 13, 14, 15, 16, 17, 18, 19, 20, 21, 22, 23, 24, 25, 26, 27, 28, 29, 30, 31, 32, 33, 34, 35, 36, 37, 38, 39, 40, 41, 42, 43, 44, 45, 46, 47, 48, 49, 50, 51, 52, 53, 54, 55, 56, 57, 58, 59, 60, 61, 62, 63, 64, 65, 66, 67, 68, 69, 70, 71, 72, 73, 74, 75, 76, 77, 78, 79, 80, 81, 82, 83, 84] (by decide +kernel) (by decide +kernel)
set_option maxRecDepth 20000 in
theorem gX12_lawful_X12_isLawful : GoodIn wsX12_lawful (wsV RX12 183 RX12 yX12_isLawful wsX12_isLawful) := goodIn_app (goodIn_of _ (by decide +kernel)) ggX12_lawful_X12_isLawful
theorem dX12_lawful_0 : decode cX12_lawful 0 = .ok (.aload_n 0, 1) := by decide +kernel
theorem dX12_lawful_1 : decode cX12_lawful 1 = .ok (.invokevirtual 183, 3) := by decide +kernel
theorem dX12_lawful_4 : decode cX12_lawful 4 = .ok (.ifCond .eq 7, 3) := by decide +kernel
theorem dX12_lawful_7 : decode cX12_lawful 7 = .ok (.iconst 1, 1) := by decide +kernel
theorem dX12_lawful_8 : decode cX12_lawful 8 = .ok (.goto 4, 3) := by decide +kernel
theorem dX12_lawful_11 : decode cX12_lawful 11 = .ok (.iconst 0, 1) := by decide +kernel
theorem dX12_lawful_12 : decode cX12_lawful 12 = .ok (.ireturn, 1) := by decide +kernel
set_option maxRecDepth 20000 in
theorem ggX12_breaches_X12_breachesAll : GoodIn wsX12_breaches wsX12_breachesAll := goodIn_r _ [5, 6, 7, 8, 9, 4, 10, 11, 12, 13, 14, 15, 16, 17, 18, 19, 20, 21, 22, 23, 24, 25, 26, 27, 28, 29, 30, 31, 32, 33, 34, 35, 36, 37, 38, 39, 40, 41, 42, 43, 44, 45, 46, 47, 48, 49, 50, 51, 52, 53, 54, 55, 56, 57, 58, 59, 60, 61, 62, 63, 64, 65, 66, 67, 68, 69, 70, 71, 72, 73, 74, 75, 76, 77, 78, 79, 80] (by decide +kernel) (by decide +kernel)
set_option maxRecDepth 20000 in
theorem gX12_breaches_X12_breachesAll : GoodIn wsX12_breaches (wsV RX12 99 RX12 yX12_breachesAll wsX12_breachesAll) := goodIn_app (goodIn_of _ (by decide +kernel)) ggX12_breaches_X12_breachesAll
set_option maxRecDepth 20000 in
theorem ggX12_breaches_X12_isHouse : GoodIn wsX12_breaches wsX12_isHouse := goodIn_r _ [30, 6, 31, 32, 4, 33, 57, 58, 59, 60, 61, 62, 63, 64, 65, 66, 67, 68, 69, 70, 71, 72, 73, 74, 75, 76, 77, 78, 79, 80] (by decide +kernel) (by decide +kernel)
set_option maxRecDepth 20000 in
theorem gX12_breaches_X12_isHouse : GoodIn wsX12_breaches (wsV RX12 56 RX12 yX12_isHouse wsX12_isHouse) := goodIn_app (goodIn_of _ (by decide +kernel)) ggX12_breaches_X12_isHouse
set_option maxRecDepth 20000 in
theorem ggX12_breaches_X12_breachesOf : GoodIn wsX12_breaches wsX12_breachesOf := goodIn_r _ [10, 11, 12, 13, 4, 14, 15, 16, 17, 18, 6, 19, 20, 21, 22, 23, 24, 25, 26, 27, 28, 29, 30, 31, 32, 33, 34, 35, 36, 37, 38, 39, 40, 41, 42, 43, 44, 45, 46, 47, 48, 49, 50, 51, 52, 53, 54, 55, 56, 57, 58, 59, 60, 61, 62, 63, 64, 65, 66, 67, 68, 69, 70, 71, 72, 73, 74, 75, 76, 77, 78, 79, 80] (by decide +kernel) (by decide +kernel)
set_option maxRecDepth 20000 in
theorem gX12_breaches_X12_breachesOf : GoodIn wsX12_breaches (wsV RX12 96 RX12 yX12_breachesOf wsX12_breachesOf) := goodIn_app (goodIn_of _ (by decide +kernel)) ggX12_breaches_X12_breachesOf
theorem dX12_breaches_0 : decode cX12_breaches 0 = .ok (.iload_n 1, 1) := by decide +kernel
theorem dX12_breaches_1 : decode cX12_breaches 1 = .ok (.iconst (-1), 1) := by decide +kernel
theorem dX12_breaches_2 : decode cX12_breaches 2 = .ok (.if_icmp .ne 10, 3) := by decide +kernel
theorem dX12_breaches_5 : decode cX12_breaches 5 = .ok (.aload_n 0, 1) := by decide +kernel
theorem dX12_breaches_6 : decode cX12_breaches 6 = .ok (.invokevirtual 99, 3) := by decide +kernel
theorem dX12_breaches_9 : decode cX12_breaches 9 = .ok (.goto 20, 3) := by decide +kernel
theorem dX12_breaches_12 : decode cX12_breaches 12 = .ok (.aload_n 0, 1) := by decide +kernel
theorem dX12_breaches_13 : decode cX12_breaches 13 = .ok (.iload_n 1, 1) := by decide +kernel
theorem dX12_breaches_14 : decode cX12_breaches 14 = .ok (.invokevirtual 56, 3) := by decide +kernel
theorem dX12_breaches_17 : decode cX12_breaches 17 = .ok (.ifCond .eq 11, 3) := by decide +kernel
theorem dX12_breaches_20 : decode cX12_breaches 20 = .ok (.aload_n 0, 1) := by decide +kernel
theorem dX12_breaches_21 : decode cX12_breaches 21 = .ok (.iload_n 1, 1) := by decide +kernel
theorem dX12_breaches_22 : decode cX12_breaches 22 = .ok (.invokevirtual 96, 3) := by decide +kernel
theorem dX12_breaches_25 : decode cX12_breaches 25 = .ok (.goto 4, 3) := by decide +kernel
theorem dX12_breaches_28 : decode cX12_breaches 28 = .ok (.iconst (-1), 1) := by decide +kernel
theorem dX12_breaches_29 : decode cX12_breaches 29 = .ok (.ireturn, 1) := by decide +kernel
set_option maxRecDepth 20000 in
theorem ggX12_held_X12_isHouse : GoodIn wsX12_held wsX12_isHouse := goodIn_r _ [5, 6, 7, 8, 4, 9, 46, 47, 48, 49, 50, 51, 52, 53, 54, 55, 56, 57, 58, 59, 60, 61, 62, 63, 64, 65, 66, 67, 68, 69] (by decide +kernel) (by decide +kernel)
set_option maxRecDepth 20000 in
theorem gX12_held_X12_isHouse : GoodIn wsX12_held (wsV RX12 56 RX12 yX12_isHouse wsX12_isHouse) := goodIn_app (goodIn_of _ (by decide +kernel)) ggX12_held_X12_isHouse
set_option maxRecDepth 20000 in
theorem ggX12_held_X12_purse : GoodIn wsX12_held wsX12_purse := goodIn_r _ [13, 14, 15, 16, 4, 17, 6, 46, 47, 48, 49, 50, 51, 52, 53, 54, 55, 56, 57, 58, 59, 60, 61, 62, 63, 64, 65, 66, 67, 68, 69] (by decide +kernel) (by decide +kernel)
set_option maxRecDepth 20000 in
theorem gX12_held_X12_purse : GoodIn wsX12_held (wsV RX12 68 RX12 yX12_purse wsX12_purse) := goodIn_app (goodIn_of _ (by decide +kernel)) ggX12_held_X12_purse
set_option maxRecDepth 20000 in
theorem ggX12_held_X12_tooMuchBy : GoodIn wsX12_held wsX12_tooMuchBy := goodIn_r _ [21, 22, 23, 24, 4, 25, 6, 1, 2, 3, 5, 7, 8, 9, 26, 27, 28, 29, 30, 31, 32, 33, 14, 15, 16, 17, 34, 35, 36, 37, 10, 11, 12, 13, 38, 39, 40, 41, 42, 43, 44, 45, 46, 47, 48, 49, 50, 51, 52, 53, 54, 55, 56, 57, 58, 59, 60, 61, 62, 63, 64, 65, 66, 67, 68, 69] (by decide +kernel) (by decide +kernel)
set_option maxRecDepth 20000 in
theorem gX12_held_X12_tooMuchBy : GoodIn wsX12_held (wsV RX12 90 RX12 yX12_tooMuchBy wsX12_tooMuchBy) := goodIn_app (goodIn_of _ (by decide +kernel)) ggX12_held_X12_tooMuchBy
theorem dX12_held_0 : decode cX12_held 0 = .ok (.aload_n 0, 1) := by decide +kernel
theorem dX12_held_1 : decode cX12_held 1 = .ok (.iload_n 1, 1) := by decide +kernel
theorem dX12_held_2 : decode cX12_held 2 = .ok (.invokevirtual 56, 3) := by decide +kernel
theorem dX12_held_5 : decode cX12_held 5 = .ok (.ifCond .eq 18, 3) := by decide +kernel
theorem dX12_held_8 : decode cX12_held 8 = .ok (.aload_n 0, 1) := by decide +kernel
theorem dX12_held_9 : decode cX12_held 9 = .ok (.iload_n 1, 1) := by decide +kernel
theorem dX12_held_10 : decode cX12_held 10 = .ok (.aload_n 0, 1) := by decide +kernel
theorem dX12_held_11 : decode cX12_held 11 = .ok (.iload_n 1, 1) := by decide +kernel
theorem dX12_held_12 : decode cX12_held 12 = .ok (.invokevirtual 68, 3) := by decide +kernel
theorem dX12_held_15 : decode cX12_held 15 = .ok (.iconst 1, 1) := by decide +kernel
theorem dX12_held_16 : decode cX12_held 16 = .ok (.iadd, 1) := by decide +kernel
theorem dX12_held_17 : decode cX12_held 17 = .ok (.invokevirtual 90, 3) := by decide +kernel
theorem dX12_held_20 : decode cX12_held 20 = .ok (.goto 4, 3) := by decide +kernel
theorem dX12_held_23 : decode cX12_held 23 = .ok (.iconst (-1), 1) := by decide +kernel
theorem dX12_held_24 : decode cX12_held 24 = .ok (.ireturn, 1) := by decide +kernel
set_option maxRecDepth 20000 in
theorem ggX12_free_X12_purse : GoodIn wsX12_free wsX12_purse := goodIn_r _ [6, 7, 8, 9, 5, 10, 1, 46, 47, 48, 49, 50, 51, 52, 53, 54, 55, 56, 57, 58, 59, 60, 61, 62, 63, 64, 65, 66, 67, 68, 69] (by decide +kernel) (by decide +kernel)
set_option maxRecDepth 20000 in
theorem gX12_free_X12_purse : GoodIn wsX12_free (wsV RX12 68 RX12 yX12_purse wsX12_purse) := goodIn_app (goodIn_of _ (by decide +kernel)) ggX12_free_X12_purse
set_option maxRecDepth 20000 in
theorem ggX12_free_X12_tooMuchBy : GoodIn wsX12_free wsX12_tooMuchBy := goodIn_r _ [14, 15, 16, 17, 5, 18, 1, 19, 20, 21, 22, 23, 24, 25, 26, 27, 28, 29, 30, 31, 32, 33, 7, 8, 9, 10, 34, 35, 36, 37, 2, 3, 4, 6, 38, 39, 40, 41, 42, 43, 44, 45, 46, 47, 48, 49, 50, 51, 52, 53, 54, 55, 56, 57, 58, 59, 60, 61, 62, 63, 64, 65, 66, 67, 68, 69] (by decide +kernel) (by decide +kernel)
set_option maxRecDepth 20000 in
theorem gX12_free_X12_tooMuchBy : GoodIn wsX12_free (wsV RX12 90 RX12 yX12_tooMuchBy wsX12_tooMuchBy) := goodIn_app (goodIn_of _ (by decide +kernel)) ggX12_free_X12_tooMuchBy
theorem dX12_free_0 : decode cX12_free 0 = .ok (.iconst 0, 1) := by decide +kernel
theorem dX12_free_1 : decode cX12_free 1 = .ok (.istore_n 1, 1) := by decide +kernel
theorem dX12_free_2 : decode cX12_free 2 = .ok (.iconst 0, 1) := by decide +kernel
theorem dX12_free_3 : decode cX12_free 3 = .ok (.istore_n 2, 1) := by decide +kernel
theorem dX12_free_4 : decode cX12_free 4 = .ok (.iload_n 2, 1) := by decide +kernel
theorem dX12_free_5 : decode cX12_free 5 = .ok (.aload_n 0, 1) := by decide +kernel
theorem dX12_free_6 : decode cX12_free 6 = .ok (.getfield 9, 3) := by decide +kernel
theorem dX12_free_9 : decode cX12_free 9 = .ok (.iconst 0, 1) := by decide +kernel
theorem dX12_free_10 : decode cX12_free 10 = .ok (.iaload, 1) := by decide +kernel
theorem dX12_free_11 : decode cX12_free 11 = .ok (.if_icmp .ge 45, 3) := by decide +kernel
theorem dX12_free_14 : decode cX12_free 14 = .ok (.iload_n 1, 1) := by decide +kernel
theorem dX12_free_15 : decode cX12_free 15 = .ok (.aload_n 0, 1) := by decide +kernel
theorem dX12_free_16 : decode cX12_free 16 = .ok (.iload_n 2, 1) := by decide +kernel
theorem dX12_free_17 : decode cX12_free 17 = .ok (.invokevirtual 68, 3) := by decide +kernel
theorem dX12_free_20 : decode cX12_free 20 = .ok (.sipush 9999, 3) := by decide +kernel
theorem dX12_free_23 : decode cX12_free 23 = .ok (.if_icmp .ge 24, 3) := by decide +kernel
theorem dX12_free_26 : decode cX12_free 26 = .ok (.aload_n 0, 1) := by decide +kernel
theorem dX12_free_27 : decode cX12_free 27 = .ok (.iload_n 2, 1) := by decide +kernel
theorem dX12_free_28 : decode cX12_free 28 = .ok (.aload_n 0, 1) := by decide +kernel
theorem dX12_free_29 : decode cX12_free 29 = .ok (.iload_n 2, 1) := by decide +kernel
theorem dX12_free_30 : decode cX12_free 30 = .ok (.invokevirtual 68, 3) := by decide +kernel
theorem dX12_free_33 : decode cX12_free 33 = .ok (.iconst 1, 1) := by decide +kernel
theorem dX12_free_34 : decode cX12_free 34 = .ok (.iadd, 1) := by decide +kernel
theorem dX12_free_35 : decode cX12_free 35 = .ok (.invokevirtual 90, 3) := by decide +kernel
theorem dX12_free_38 : decode cX12_free 38 = .ok (.ifCond .ne 9, 3) := by decide +kernel
theorem dX12_free_41 : decode cX12_free 41 = .ok (.iconst 1, 1) := by decide +kernel
theorem dX12_free_42 : decode cX12_free 42 = .ok (.iload_n 2, 1) := by decide +kernel
theorem dX12_free_43 : decode cX12_free 43 = .ok (.ishl, 1) := by decide +kernel
theorem dX12_free_44 : decode cX12_free 44 = .ok (.goto 4, 3) := by decide +kernel
theorem dX12_free_47 : decode cX12_free 47 = .ok (.iconst 0, 1) := by decide +kernel
theorem dX12_free_48 : decode cX12_free 48 = .ok (.ior, 1) := by decide +kernel
theorem dX12_free_49 : decode cX12_free 49 = .ok (.istore_n 1, 1) := by decide +kernel
theorem dX12_free_50 : decode cX12_free 50 = .ok (.iinc 2 1, 3) := by decide +kernel
theorem dX12_free_53 : decode cX12_free 53 = .ok (.goto (-49), 3) := by decide +kernel
theorem dX12_free_56 : decode cX12_free 56 = .ok (.iload_n 1, 1) := by decide +kernel
theorem dX12_free_57 : decode cX12_free 57 = .ok (.ireturn, 1) := by decide +kernel
set_option maxRecDepth 20000 in
theorem ggX12_partsAre_X12_isLawful : GoodIn wsX12_partsAre wsX12_isLawful := goodIn_r _ [12, 13, 14, 15, 11, 16, 2, 17, 18, 19, 20, 21, 22, 23, 24, 25, 26, 27, 28, 29, 30, 31, 32, 33, 34, 35, 36, 37, 38, 39, 40, 41, 42, 43, 44, 45, 46, 47, 48, 49, 50, 51, 52, 53, 54, 55, 56, 57, 58, 59, 60, 61, 62, 63, 64, 65, 66, 67, 68, 69, 70, 71, 72, 73, 74, 75, 76, 77, 78, 79, 80, 81, 82, 83, 84, 85, 86, 87, 88, 89, 90] (by decide +kernel) (by decide +kernel)
set_option maxRecDepth 20000 in
theorem gX12_partsAre_X12_isLawful : GoodIn wsX12_partsAre (wsV RX12 183 RX12 yX12_isLawful wsX12_isLawful) := goodIn_app (goodIn_of _ (by decide +kernel)) ggX12_partsAre_X12_isLawful
set_option maxRecDepth 20000 in
theorem ggX12_partsAre_X12_purse : GoodIn wsX12_partsAre wsX12_purse := goodIn_r _ [24, 25, 26, 27, 11, 28, 2, 67, 68, 69, 70, 71, 72, 73, 74, 75, 76, 77, 78, 79, 80, 81, 82, 83, 84, 85, 86, 87, 88, 89, 90] (by decide +kernel) (by decide +kernel)
set_option maxRecDepth 20000 in
theorem gX12_partsAre_X12_purse : GoodIn wsX12_partsAre (wsV RX12 68 RX12 yX12_purse wsX12_purse) := goodIn_app (goodIn_of _ (by decide +kernel)) ggX12_partsAre_X12_purse
set_option maxRecDepth 20000 in
theorem ggX12_partsAre_X12_isHouse : GoodIn wsX12_partsAre wsX12_isHouse := goodIn_r _ [40, 2, 41, 42, 11, 43, 67, 68, 69, 70, 71, 72, 73, 74, 75, 76, 77, 78, 79, 80, 81, 82, 83, 84, 85, 86, 87, 88, 89, 90] (by decide +kernel) (by decide +kernel)
set_option maxRecDepth 20000 in
theorem gX12_partsAre_X12_isHouse : GoodIn wsX12_partsAre (wsV RX12 56 RX12 yX12_isHouse wsX12_isHouse) := goodIn_app (goodIn_of _ (by decide +kernel)) ggX12_partsAre_X12_isHouse
theorem dX12_partsAre_0 : decode cX12_partsAre 0 = .ok (.aload_n 0, 1) := by decide +kernel
theorem dX12_partsAre_1 : decode cX12_partsAre 1 = .ok (.invokevirtual 183, 3) := by decide +kernel
theorem dX12_partsAre_4 : decode cX12_partsAre 4 = .ok (.ifCond .ne 4, 3) := by decide +kernel
theorem dX12_partsAre_7 : decode cX12_partsAre 7 = .ok (.return_, 1) := by decide +kernel
theorem dX12_partsAre_8 : decode cX12_partsAre 8 = .ok (.aload_n 0, 1) := by decide +kernel
theorem dX12_partsAre_9 : decode cX12_partsAre 9 = .ok (.dup, 1) := by decide +kernel
theorem dX12_partsAre_10 : decode cX12_partsAre 10 = .ok (.getfield 186, 3) := by decide +kernel
theorem dX12_partsAre_13 : decode cX12_partsAre 13 = .ok (.iconst 1, 1) := by decide +kernel
theorem dX12_partsAre_14 : decode cX12_partsAre 14 = .ok (.iadd, 1) := by decide +kernel
theorem dX12_partsAre_15 : decode cX12_partsAre 15 = .ok (.putfield 186, 3) := by decide +kernel
theorem dX12_partsAre_18 : decode cX12_partsAre 18 = .ok (.sipush 9999, 3) := by decide +kernel
theorem dX12_partsAre_21 : decode cX12_partsAre 21 = .ok (.istore_n 2, 1) := by decide +kernel
theorem dX12_partsAre_22 : decode cX12_partsAre 22 = .ok (.iconst 0, 1) := by decide +kernel
theorem dX12_partsAre_23 : decode cX12_partsAre 23 = .ok (.istore_n 3, 1) := by decide +kernel
theorem dX12_partsAre_24 : decode cX12_partsAre 24 = .ok (.iconst 0, 1) := by decide +kernel
theorem dX12_partsAre_25 : decode cX12_partsAre 25 = .ok (.istore 4, 2) := by decide +kernel
theorem dX12_partsAre_27 : decode cX12_partsAre 27 = .ok (.iconst 0, 1) := by decide +kernel
theorem dX12_partsAre_28 : decode cX12_partsAre 28 = .ok (.istore 5, 2) := by decide +kernel
theorem dX12_partsAre_30 : decode cX12_partsAre 30 = .ok (.iconst 0, 1) := by decide +kernel
theorem dX12_partsAre_31 : decode cX12_partsAre 31 = .ok (.istore 6, 2) := by decide +kernel
theorem dX12_partsAre_33 : decode cX12_partsAre 33 = .ok (.iconst 0, 1) := by decide +kernel
theorem dX12_partsAre_34 : decode cX12_partsAre 34 = .ok (.istore 7, 2) := by decide +kernel
theorem dX12_partsAre_36 : decode cX12_partsAre 36 = .ok (.iload 7, 2) := by decide +kernel
theorem dX12_partsAre_38 : decode cX12_partsAre 38 = .ok (.aload_n 0, 1) := by decide +kernel
theorem dX12_partsAre_39 : decode cX12_partsAre 39 = .ok (.getfield 9, 3) := by decide +kernel
theorem dX12_partsAre_42 : decode cX12_partsAre 42 = .ok (.iconst 0, 1) := by decide +kernel
theorem dX12_partsAre_43 : decode cX12_partsAre 43 = .ok (.iaload, 1) := by decide +kernel
theorem dX12_partsAre_44 : decode cX12_partsAre 44 = .ok (.if_icmp .ge 107, 3) := by decide +kernel
theorem dX12_partsAre_47 : decode cX12_partsAre 47 = .ok (.aload_n 0, 1) := by decide +kernel
theorem dX12_partsAre_48 : decode cX12_partsAre 48 = .ok (.iload 7, 2) := by decide +kernel
theorem dX12_partsAre_50 : decode cX12_partsAre 50 = .ok (.invokevirtual 68, 3) := by decide +kernel
theorem dX12_partsAre_53 : decode cX12_partsAre 53 = .ok (.istore 8, 2) := by decide +kernel
theorem dX12_partsAre_55 : decode cX12_partsAre 55 = .ok (.iload 8, 2) := by decide +kernel
theorem dX12_partsAre_57 : decode cX12_partsAre 57 = .ok (.iload_n 2, 1) := by decide +kernel
theorem dX12_partsAre_58 : decode cX12_partsAre 58 = .ok (.if_icmp .ge 8, 3) := by decide +kernel
theorem dX12_partsAre_61 : decode cX12_partsAre 61 = .ok (.iload 8, 2) := by decide +kernel
theorem dX12_partsAre_63 : decode cX12_partsAre 63 = .ok (.goto 4, 3) := by decide +kernel
theorem dX12_partsAre_66 : decode cX12_partsAre 66 = .ok (.iload_n 2, 1) := by decide +kernel
theorem dX12_partsAre_67 : decode cX12_partsAre 67 = .ok (.istore_n 2, 1) := by decide +kernel
theorem dX12_partsAre_68 : decode cX12_partsAre 68 = .ok (.iload 8, 2) := by decide +kernel
theorem dX12_partsAre_70 : decode cX12_partsAre 70 = .ok (.iload_n 3, 1) := by decide +kernel
theorem dX12_partsAre_71 : decode cX12_partsAre 71 = .ok (.if_icmp .le 8, 3) := by decide +kernel
theorem dX12_partsAre_74 : decode cX12_partsAre 74 = .ok (.iload 8, 2) := by decide +kernel
theorem dX12_partsAre_76 : decode cX12_partsAre 76 = .ok (.goto 4, 3) := by decide +kernel
theorem dX12_partsAre_79 : decode cX12_partsAre 79 = .ok (.iload_n 3, 1) := by decide +kernel
theorem dX12_partsAre_80 : decode cX12_partsAre 80 = .ok (.istore_n 3, 1) := by decide +kernel
theorem dX12_partsAre_81 : decode cX12_partsAre 81 = .ok (.iload 4, 2) := by decide +kernel
theorem dX12_partsAre_83 : decode cX12_partsAre 83 = .ok (.aload_n 0, 1) := by decide +kernel
theorem dX12_partsAre_84 : decode cX12_partsAre 84 = .ok (.getfield 43, 3) := by decide +kernel
theorem dX12_partsAre_87 : decode cX12_partsAre 87 = .ok (.iload 7, 2) := by decide +kernel
theorem dX12_partsAre_89 : decode cX12_partsAre 89 = .ok (.iaload, 1) := by decide +kernel
theorem dX12_partsAre_90 : decode cX12_partsAre 90 = .ok (.iload 8, 2) := by decide +kernel
theorem dX12_partsAre_92 : decode cX12_partsAre 92 = .ok (.isub, 1) := by decide +kernel
theorem dX12_partsAre_93 : decode cX12_partsAre 93 = .ok (.iadd, 1) := by decide +kernel
theorem dX12_partsAre_94 : decode cX12_partsAre 94 = .ok (.istore 4, 2) := by decide +kernel
theorem dX12_partsAre_96 : decode cX12_partsAre 96 = .ok (.iload 5, 2) := by decide +kernel
theorem dX12_partsAre_98 : decode cX12_partsAre 98 = .ok (.iload 4, 2) := by decide +kernel
theorem dX12_partsAre_100 : decode cX12_partsAre 100 = .ok (.ifCond .ge 9, 3) := by decide +kernel
theorem dX12_partsAre_103 : decode cX12_partsAre 103 = .ok (.iload 4, 2) := by decide +kernel
theorem dX12_partsAre_105 : decode cX12_partsAre 105 = .ok (.ineg, 1) := by decide +kernel
theorem dX12_partsAre_106 : decode cX12_partsAre 106 = .ok (.goto 5, 3) := by decide +kernel
theorem dX12_partsAre_109 : decode cX12_partsAre 109 = .ok (.iload 4, 2) := by decide +kernel
theorem dX12_partsAre_111 : decode cX12_partsAre 111 = .ok (.iadd, 1) := by decide +kernel
theorem dX12_partsAre_112 : decode cX12_partsAre 112 = .ok (.istore 5, 2) := by decide +kernel
theorem dX12_partsAre_114 : decode cX12_partsAre 114 = .ok (.iload 6, 2) := by decide +kernel
theorem dX12_partsAre_116 : decode cX12_partsAre 116 = .ok (.iload 8, 2) := by decide +kernel
theorem dX12_partsAre_118 : decode cX12_partsAre 118 = .ok (.aload_n 0, 1) := by decide +kernel
theorem dX12_partsAre_119 : decode cX12_partsAre 119 = .ok (.getfield 43, 3) := by decide +kernel
theorem dX12_partsAre_122 : decode cX12_partsAre 122 = .ok (.iload 7, 2) := by decide +kernel
theorem dX12_partsAre_124 : decode cX12_partsAre 124 = .ok (.iaload, 1) := by decide +kernel
theorem dX12_partsAre_125 : decode cX12_partsAre 125 = .ok (.if_icmp .ge 16, 3) := by decide +kernel
theorem dX12_partsAre_128 : decode cX12_partsAre 128 = .ok (.aload_n 0, 1) := by decide +kernel
theorem dX12_partsAre_129 : decode cX12_partsAre 129 = .ok (.getfield 43, 3) := by decide +kernel
theorem dX12_partsAre_132 : decode cX12_partsAre 132 = .ok (.iload 7, 2) := by decide +kernel
theorem dX12_partsAre_134 : decode cX12_partsAre 134 = .ok (.iaload, 1) := by decide +kernel
theorem dX12_partsAre_135 : decode cX12_partsAre 135 = .ok (.iload 8, 2) := by decide +kernel
theorem dX12_partsAre_137 : decode cX12_partsAre 137 = .ok (.isub, 1) := by decide +kernel
theorem dX12_partsAre_138 : decode cX12_partsAre 138 = .ok (.goto 4, 3) := by decide +kernel
theorem dX12_partsAre_141 : decode cX12_partsAre 141 = .ok (.iconst 0, 1) := by decide +kernel
theorem dX12_partsAre_142 : decode cX12_partsAre 142 = .ok (.iadd, 1) := by decide +kernel
theorem dX12_partsAre_143 : decode cX12_partsAre 143 = .ok (.istore 6, 2) := by decide +kernel
theorem dX12_partsAre_145 : decode cX12_partsAre 145 = .ok (.iinc 7 1, 3) := by decide +kernel
theorem dX12_partsAre_148 : decode cX12_partsAre 148 = .ok (.goto (-112), 3) := by decide +kernel
theorem dX12_partsAre_151 : decode cX12_partsAre 151 = .ok (.aload_n 0, 1) := by decide +kernel
theorem dX12_partsAre_152 : decode cX12_partsAre 152 = .ok (.getfield 9, 3) := by decide +kernel
theorem dX12_partsAre_155 : decode cX12_partsAre 155 = .ok (.iconst 0, 1) := by decide +kernel
theorem dX12_partsAre_156 : decode cX12_partsAre 156 = .ok (.iaload, 1) := by decide +kernel
theorem dX12_partsAre_157 : decode cX12_partsAre 157 = .ok (.ifCond .ne 7, 3) := by decide +kernel
theorem dX12_partsAre_160 : decode cX12_partsAre 160 = .ok (.iconst 0, 1) := by decide +kernel
theorem dX12_partsAre_161 : decode cX12_partsAre 161 = .ok (.goto 6, 3) := by decide +kernel
theorem dX12_partsAre_164 : decode cX12_partsAre 164 = .ok (.iload_n 3, 1) := by decide +kernel
theorem dX12_partsAre_165 : decode cX12_partsAre 165 = .ok (.iload_n 2, 1) := by decide +kernel
theorem dX12_partsAre_166 : decode cX12_partsAre 166 = .ok (.isub, 1) := by decide +kernel
theorem dX12_partsAre_167 : decode cX12_partsAre 167 = .ok (.istore 7, 2) := by decide +kernel
theorem dX12_partsAre_169 : decode cX12_partsAre 169 = .ok (.aload_n 0, 1) := by decide +kernel
theorem dX12_partsAre_170 : decode cX12_partsAre 170 = .ok (.iload 7, 2) := by decide +kernel
theorem dX12_partsAre_172 : decode cX12_partsAre 172 = .ok (.aload_n 0, 1) := by decide +kernel
theorem dX12_partsAre_173 : decode cX12_partsAre 173 = .ok (.getfield 189, 3) := by decide +kernel
theorem dX12_partsAre_176 : decode cX12_partsAre 176 = .ok (.if_icmp .le 8, 3) := by decide +kernel
theorem dX12_partsAre_179 : decode cX12_partsAre 179 = .ok (.iload 7, 2) := by decide +kernel
theorem dX12_partsAre_181 : decode cX12_partsAre 181 = .ok (.goto 7, 3) := by decide +kernel
theorem dX12_partsAre_184 : decode cX12_partsAre 184 = .ok (.aload_n 0, 1) := by decide +kernel
theorem dX12_partsAre_185 : decode cX12_partsAre 185 = .ok (.getfield 189, 3) := by decide +kernel
theorem dX12_partsAre_188 : decode cX12_partsAre 188 = .ok (.putfield 189, 3) := by decide +kernel
theorem dX12_partsAre_191 : decode cX12_partsAre 191 = .ok (.aload_n 0, 1) := by decide +kernel
theorem dX12_partsAre_192 : decode cX12_partsAre 192 = .ok (.aload_n 0, 1) := by decide +kernel
theorem dX12_partsAre_193 : decode cX12_partsAre 193 = .ok (.iload_n 1, 1) := by decide +kernel
theorem dX12_partsAre_194 : decode cX12_partsAre 194 = .ok (.invokevirtual 56, 3) := by decide +kernel
theorem dX12_partsAre_197 : decode cX12_partsAre 197 = .ok (.ifCond .eq 23, 3) := by decide +kernel
theorem dX12_partsAre_200 : decode cX12_partsAre 200 = .ok (.aload_n 0, 1) := by decide +kernel
theorem dX12_partsAre_201 : decode cX12_partsAre 201 = .ok (.iload_n 1, 1) := by decide +kernel
theorem dX12_partsAre_202 : decode cX12_partsAre 202 = .ok (.invokevirtual 68, 3) := by decide +kernel
theorem dX12_partsAre_205 : decode cX12_partsAre 205 = .ok (.aload_n 0, 1) := by decide +kernel
theorem dX12_partsAre_206 : decode cX12_partsAre 206 = .ok (.getfield 192, 3) := by decide +kernel
theorem dX12_partsAre_209 : decode cX12_partsAre 209 = .ok (.if_icmp .le 11, 3) := by decide +kernel
theorem dX12_partsAre_212 : decode cX12_partsAre 212 = .ok (.aload_n 0, 1) := by decide +kernel
theorem dX12_partsAre_213 : decode cX12_partsAre 213 = .ok (.iload_n 1, 1) := by decide +kernel
theorem dX12_partsAre_214 : decode cX12_partsAre 214 = .ok (.invokevirtual 68, 3) := by decide +kernel
theorem dX12_partsAre_217 : decode cX12_partsAre 217 = .ok (.goto 7, 3) := by decide +kernel
theorem dX12_partsAre_220 : decode cX12_partsAre 220 = .ok (.aload_n 0, 1) := by decide +kernel
theorem dX12_partsAre_221 : decode cX12_partsAre 221 = .ok (.getfield 192, 3) := by decide +kernel
theorem dX12_partsAre_224 : decode cX12_partsAre 224 = .ok (.putfield 192, 3) := by decide +kernel
theorem dX12_partsAre_227 : decode cX12_partsAre 227 = .ok (.aload_n 0, 1) := by decide +kernel
theorem dX12_partsAre_228 : decode cX12_partsAre 228 = .ok (.aload_n 0, 1) := by decide +kernel
theorem dX12_partsAre_229 : decode cX12_partsAre 229 = .ok (.getfield 195, 3) := by decide +kernel
theorem dX12_partsAre_232 : decode cX12_partsAre 232 = .ok (.ifCond .lt 12, 3) := by decide +kernel
theorem dX12_partsAre_235 : decode cX12_partsAre 235 = .ok (.iload 5, 2) := by decide +kernel
theorem dX12_partsAre_237 : decode cX12_partsAre 237 = .ok (.aload_n 0, 1) := by decide +kernel
theorem dX12_partsAre_238 : decode cX12_partsAre 238 = .ok (.getfield 195, 3) := by decide +kernel
theorem dX12_partsAre_241 : decode cX12_partsAre 241 = .ok (.if_icmp .ge 8, 3) := by decide +kernel
theorem dX12_partsAre_244 : decode cX12_partsAre 244 = .ok (.iload 5, 2) := by decide +kernel
theorem dX12_partsAre_246 : decode cX12_partsAre 246 = .ok (.goto 7, 3) := by decide +kernel
theorem dX12_partsAre_249 : decode cX12_partsAre 249 = .ok (.aload_n 0, 1) := by decide +kernel
theorem dX12_partsAre_250 : decode cX12_partsAre 250 = .ok (.getfield 195, 3) := by decide +kernel
theorem dX12_partsAre_253 : decode cX12_partsAre 253 = .ok (.putfield 195, 3) := by decide +kernel
theorem dX12_partsAre_256 : decode cX12_partsAre 256 = .ok (.aload_n 0, 1) := by decide +kernel
theorem dX12_partsAre_257 : decode cX12_partsAre 257 = .ok (.aload_n 0, 1) := by decide +kernel
theorem dX12_partsAre_258 : decode cX12_partsAre 258 = .ok (.getfield 198, 3) := by decide +kernel
theorem dX12_partsAre_261 : decode cX12_partsAre 261 = .ok (.ifCond .lt 12, 3) := by decide +kernel
theorem dX12_partsAre_264 : decode cX12_partsAre 264 = .ok (.iload 6, 2) := by decide +kernel
theorem dX12_partsAre_266 : decode cX12_partsAre 266 = .ok (.aload_n 0, 1) := by decide +kernel
theorem dX12_partsAre_267 : decode cX12_partsAre 267 = .ok (.getfield 198, 3) := by decide +kernel
theorem dX12_partsAre_270 : decode cX12_partsAre 270 = .ok (.if_icmp .ge 8, 3) := by decide +kernel
theorem dX12_partsAre_273 : decode cX12_partsAre 273 = .ok (.iload 6, 2) := by decide +kernel
theorem dX12_partsAre_275 : decode cX12_partsAre 275 = .ok (.goto 7, 3) := by decide +kernel
theorem dX12_partsAre_278 : decode cX12_partsAre 278 = .ok (.aload_n 0, 1) := by decide +kernel
theorem dX12_partsAre_279 : decode cX12_partsAre 279 = .ok (.getfield 198, 3) := by decide +kernel
theorem dX12_partsAre_282 : decode cX12_partsAre 282 = .ok (.putfield 198, 3) := by decide +kernel
theorem dX12_partsAre_285 : decode cX12_partsAre 285 = .ok (.return_, 1) := by decide +kernel
set_option maxRecDepth 20000 in
theorem ggX12_parts_X12_partsAre : GoodIn wsX12_parts wsX12_partsAre := goodIn_r _ [6, 7, 1, 8, 9, 10, 11, 12, 13, 14, 15, 5, 16, 17, 18, 19, 20, 21, 22, 23, 24, 25, 26, 27, 28, 29, 30, 31, 32, 33, 34, 35, 36, 37, 38, 39, 40, 41, 42, 43, 44, 45, 46, 47, 48, 49, 50, 51, 52, 53, 54, 55, 56, 57, 58, 59, 60, 61, 62, 63, 64, 65, 66, 67, 68, 69, 70, 78, 79, 80, 81, 82, 83, 84, 85, 86, 87, 88, 89, 90, 91, 92, 93, 94, 95, 96, 97, 98, 99, 100, 101] (by decide +kernel) (by decide +kernel)
set_option maxRecDepth 20000 in
theorem gX12_parts_X12_partsAre : GoodIn wsX12_parts (wsV RX12 201 RX12 yX12_partsAre wsX12_partsAre) := goodIn_app (goodIn_of _ (by decide +kernel)) ggX12_parts_X12_partsAre
set_option maxRecDepth 20000 in
theorem ggX12_parts_X12_puts : GoodIn wsX12_parts wsX12_puts := goodIn_r _ [74, 1, 78, 79, 80, 81, 82, 83, 84, 85, 86, 87, 88, 89, 90, 91, 92, 93, 94, 95, 96, 97, 98, 99, 100, 101] (by decide +kernel) (by decide +kernel)
set_option maxRecDepth 20000 in
theorem gX12_parts_X12_puts : GoodIn wsX12_parts (wsV RX12 125 RX12 yX12_puts wsX12_puts) := goodIn_app (goodIn_of _ (by decide +kernel)) ggX12_parts_X12_puts
set_option maxRecDepth 20000 in
theorem ggX12_parts_X12_parts : GoodIn wsX12_parts wsX12_parts := goodIn_r _ [0, 1, 2, 3, 4, 5, 6, 7, 8, 9, 10, 11, 12, 13, 14, 15, 16, 17, 18, 19, 20, 21, 22, 23, 24, 25, 26, 27, 28, 29, 30, 31, 32, 33, 34, 35, 36, 37, 38, 39, 40, 41, 42, 43, 44, 45, 46, 47, 48, 49, 50, 51, 52, 53, 54, 55, 56, 57, 58, 59, 60, 61, 62, 63, 64, 65, 66, 67, 68, 69, 70, 71, 72, 73, 74, 75, 76, 77, 78, 79, 80, 81, 82, 83, 84, 85, 86, 87, 88, 89, 90, 91, 92, 93, 94, 95, 96, 97, 98, 99, 100, 101] (by decide +kernel) (by decide +kernel)
set_option maxRecDepth 20000 in
theorem gX12_parts_X12_parts : GoodIn wsX12_parts (wsV RX12 205 RX12 yX12_parts wsX12_parts) := goodIn_app (goodIn_of _ (by decide +kernel)) ggX12_parts_X12_parts
theorem dX12_parts_0 : decode cX12_parts 0 = .ok (.iload_n 1, 1) := by decide +kernel
theorem dX12_parts_1 : decode cX12_parts 1 = .ok (.aload_n 0, 1) := by decide +kernel
theorem dX12_parts_2 : decode cX12_parts 2 = .ok (.getfield 9, 3) := by decide +kernel
theorem dX12_parts_5 : decode cX12_parts 5 = .ok (.iconst 0, 1) := by decide +kernel
theorem dX12_parts_6 : decode cX12_parts 6 = .ok (.iaload, 1) := by decide +kernel
theorem dX12_parts_7 : decode cX12_parts 7 = .ok (.if_icmp .ne 13, 3) := by decide +kernel
theorem dX12_parts_10 : decode cX12_parts 10 = .ok (.iload_n 2, 1) := by decide +kernel
theorem dX12_parts_11 : decode cX12_parts 11 = .ok (.ifCond .ne 8, 3) := by decide +kernel
theorem dX12_parts_14 : decode cX12_parts 14 = .ok (.aload_n 0, 1) := by decide +kernel
theorem dX12_parts_15 : decode cX12_parts 15 = .ok (.iload_n 3, 1) := by decide +kernel
theorem dX12_parts_16 : decode cX12_parts 16 = .ok (.invokevirtual 201, 3) := by decide +kernel
theorem dX12_parts_19 : decode cX12_parts 19 = .ok (.return_, 1) := by decide +kernel
theorem dX12_parts_20 : decode cX12_parts 20 = .ok (.aload_n 0, 1) := by decide +kernel
theorem dX12_parts_21 : decode cX12_parts 21 = .ok (.getfield 9, 3) := by decide +kernel
theorem dX12_parts_24 : decode cX12_parts 24 = .ok (.iconst 0, 1) := by decide +kernel
theorem dX12_parts_25 : decode cX12_parts 25 = .ok (.iaload, 1) := by decide +kernel
theorem dX12_parts_26 : decode cX12_parts 26 = .ok (.iconst 1, 1) := by decide +kernel
theorem dX12_parts_27 : decode cX12_parts 27 = .ok (.isub, 1) := by decide +kernel
theorem dX12_parts_28 : decode cX12_parts 28 = .ok (.iload_n 1, 1) := by decide +kernel
theorem dX12_parts_29 : decode cX12_parts 29 = .ok (.isub, 1) := by decide +kernel
theorem dX12_parts_30 : decode cX12_parts 30 = .ok (.istore 4, 2) := by decide +kernel
theorem dX12_parts_32 : decode cX12_parts 32 = .ok (.iload 4, 2) := by decide +kernel
theorem dX12_parts_34 : decode cX12_parts 34 = .ok (.ifCond .ne 11, 3) := by decide +kernel
theorem dX12_parts_37 : decode cX12_parts 37 = .ok (.iload_n 2, 1) := by decide +kernel
theorem dX12_parts_38 : decode cX12_parts 38 = .ok (.ifCond .le 7, 3) := by decide +kernel
theorem dX12_parts_41 : decode cX12_parts 41 = .ok (.iload_n 2, 1) := by decide +kernel
theorem dX12_parts_42 : decode cX12_parts 42 = .ok (.goto 4, 3) := by decide +kernel
theorem dX12_parts_45 : decode cX12_parts 45 = .ok (.iconst 1, 1) := by decide +kernel
theorem dX12_parts_46 : decode cX12_parts 46 = .ok (.istore 5, 2) := by decide +kernel
theorem dX12_parts_48 : decode cX12_parts 48 = .ok (.iload 5, 2) := by decide +kernel
theorem dX12_parts_50 : decode cX12_parts 50 = .ok (.istore 6, 2) := by decide +kernel
theorem dX12_parts_52 : decode cX12_parts 52 = .ok (.iload 6, 2) := by decide +kernel
theorem dX12_parts_54 : decode cX12_parts 54 = .ok (.iload_n 2, 1) := by decide +kernel
theorem dX12_parts_55 : decode cX12_parts 55 = .ok (.iload 4, 2) := by decide +kernel
theorem dX12_parts_57 : decode cX12_parts 57 = .ok (.isub, 1) := by decide +kernel
theorem dX12_parts_58 : decode cX12_parts 58 = .ok (.if_icmp .gt 29, 3) := by decide +kernel
theorem dX12_parts_61 : decode cX12_parts 61 = .ok (.aload_n 0, 1) := by decide +kernel
theorem dX12_parts_62 : decode cX12_parts 62 = .ok (.iload_n 1, 1) := by decide +kernel
theorem dX12_parts_63 : decode cX12_parts 63 = .ok (.iconst 2, 1) := by decide +kernel
theorem dX12_parts_64 : decode cX12_parts 64 = .ok (.iload 6, 2) := by decide +kernel
theorem dX12_parts_66 : decode cX12_parts 66 = .ok (.invokevirtual 125, 3) := by decide +kernel
theorem dX12_parts_69 : decode cX12_parts 69 = .ok (.aload_n 0, 1) := by decide +kernel
theorem dX12_parts_70 : decode cX12_parts 70 = .ok (.iload_n 1, 1) := by decide +kernel
theorem dX12_parts_71 : decode cX12_parts 71 = .ok (.iconst 1, 1) := by decide +kernel
theorem dX12_parts_72 : decode cX12_parts 72 = .ok (.iadd, 1) := by decide +kernel
theorem dX12_parts_73 : decode cX12_parts 73 = .ok (.iload_n 2, 1) := by decide +kernel
theorem dX12_parts_74 : decode cX12_parts 74 = .ok (.iload 6, 2) := by decide +kernel
theorem dX12_parts_76 : decode cX12_parts 76 = .ok (.isub, 1) := by decide +kernel
theorem dX12_parts_77 : decode cX12_parts 77 = .ok (.iload_n 3, 1) := by decide +kernel
theorem dX12_parts_78 : decode cX12_parts 78 = .ok (.invokevirtual 205, 3) := by decide +kernel
theorem dX12_parts_81 : decode cX12_parts 81 = .ok (.iinc 6 1, 3) := by decide +kernel
theorem dX12_parts_84 : decode cX12_parts 84 = .ok (.goto (-32), 3) := by decide +kernel
theorem dX12_parts_87 : decode cX12_parts 87 = .ok (.return_, 1) := by decide +kernel
set_option maxRecDepth 20000 in
theorem ggX12_partsAll_X12_purse : GoodIn wsX12_partsAll wsX12_purse := goodIn_r _ [12, 13, 14, 15, 11, 16, 6, 91, 92, 93, 94, 95, 96, 97, 98, 99, 100, 101, 102, 103, 104, 105, 106, 107, 108, 109, 110, 111, 112, 113, 114] (by decide +kernel) (by decide +kernel)
set_option maxRecDepth 20000 in
theorem gX12_partsAll_X12_purse : GoodIn wsX12_partsAll (wsV RX12 68 RX12 yX12_purse wsX12_purse) := goodIn_app (goodIn_of _ (by decide +kernel)) ggX12_partsAll_X12_purse
set_option maxRecDepth 20000 in
theorem ggX12_partsAll_X12_begins : GoodIn wsX12_partsAll wsX12_begins := goodIn_r _ [20, 6, 21, 22, 23, 11, 24, 91, 92, 93, 94, 95, 96, 97, 98, 99, 100, 101, 102, 103, 104, 105, 106, 107, 108, 109, 110, 111, 112, 113, 114] (by decide +kernel) (by decide +kernel)
set_option maxRecDepth 20000 in
theorem gX12_partsAll_X12_begins : GoodIn wsX12_partsAll (wsV RX12 208 RX12 yX12_begins wsX12_begins) := goodIn_app (goodIn_of _ (by decide +kernel)) ggX12_partsAll_X12_begins
set_option maxRecDepth 20000 in
theorem ggX12_partsAll_X12_parts : GoodIn wsX12_partsAll wsX12_parts := goodIn_r _ [28, 6, 29, 30, 31, 11, 32, 1, 7, 2, 3, 4, 5, 33, 34, 35, 36, 37, 38, 39, 40, 41, 42, 43, 44, 8, 9, 10, 12, 13, 14, 15, 16, 45, 46, 47, 48, 49, 50, 51, 52, 53, 54, 55, 56, 57, 58, 59, 60, 61, 62, 63, 64, 65, 66, 67, 68, 69, 70, 71, 72, 73, 74, 75, 76, 77, 78, 79, 80, 81, 82, 83, 84, 85, 86, 25, 26, 27, 91, 92, 93, 94, 95, 96, 97, 98, 99, 100, 101, 102, 103, 104, 105, 106, 107, 108, 109, 110, 111, 112, 113, 114] (by decide +kernel) (by decide +kernel)
set_option maxRecDepth 20000 in
theorem gX12_partsAll_X12_parts : GoodIn wsX12_partsAll (wsV RX12 205 RX12 yX12_parts wsX12_parts) := goodIn_app (goodIn_of _ (by decide +kernel)) ggX12_partsAll_X12_parts
set_option maxRecDepth 20000 in
theorem ggX12_partsAll_X12_ends : GoodIn wsX12_partsAll wsX12_ends := goodIn_r _ [90, 21, 6, 22, 23, 11, 24, 91, 92, 93, 94, 95, 96, 97, 98, 99, 100, 101, 102, 103, 104, 105, 106, 107, 108, 109, 110, 111, 112, 113, 114] (by decide +kernel) (by decide +kernel)
set_option maxRecDepth 20000 in
theorem gX12_partsAll_X12_ends : GoodIn wsX12_partsAll (wsV RX12 211 RX12 yX12_ends wsX12_ends) := goodIn_app (goodIn_of _ (by decide +kernel)) ggX12_partsAll_X12_ends
theorem dX12_partsAll_0 : decode cX12_partsAll 0 = .ok (.aload_n 0, 1) := by decide +kernel
theorem dX12_partsAll_1 : decode cX12_partsAll 1 = .ok (.iconst 0, 1) := by decide +kernel
theorem dX12_partsAll_2 : decode cX12_partsAll 2 = .ok (.putfield 186, 3) := by decide +kernel
theorem dX12_partsAll_5 : decode cX12_partsAll 5 = .ok (.aload_n 0, 1) := by decide +kernel
theorem dX12_partsAll_6 : decode cX12_partsAll 6 = .ok (.bipush (-4), 2) := by decide +kernel
theorem dX12_partsAll_8 : decode cX12_partsAll 8 = .ok (.putfield 189, 3) := by decide +kernel
theorem dX12_partsAll_11 : decode cX12_partsAll 11 = .ok (.aload_n 0, 1) := by decide +kernel
theorem dX12_partsAll_12 : decode cX12_partsAll 12 = .ok (.bipush (-4), 2) := by decide +kernel
theorem dX12_partsAll_14 : decode cX12_partsAll 14 = .ok (.putfield 192, 3) := by decide +kernel
theorem dX12_partsAll_17 : decode cX12_partsAll 17 = .ok (.aload_n 0, 1) := by decide +kernel
theorem dX12_partsAll_18 : decode cX12_partsAll 18 = .ok (.bipush (-4), 2) := by decide +kernel
theorem dX12_partsAll_20 : decode cX12_partsAll 20 = .ok (.putfield 195, 3) := by decide +kernel
theorem dX12_partsAll_23 : decode cX12_partsAll 23 = .ok (.aload_n 0, 1) := by decide +kernel
theorem dX12_partsAll_24 : decode cX12_partsAll 24 = .ok (.bipush (-4), 2) := by decide +kernel
theorem dX12_partsAll_26 : decode cX12_partsAll 26 = .ok (.putfield 198, 3) := by decide +kernel
theorem dX12_partsAll_29 : decode cX12_partsAll 29 = .ok (.iconst 0, 1) := by decide +kernel
theorem dX12_partsAll_30 : decode cX12_partsAll 30 = .ok (.istore_n 3, 1) := by decide +kernel
theorem dX12_partsAll_31 : decode cX12_partsAll 31 = .ok (.iload_n 3, 1) := by decide +kernel
theorem dX12_partsAll_32 : decode cX12_partsAll 32 = .ok (.aload_n 0, 1) := by decide +kernel
theorem dX12_partsAll_33 : decode cX12_partsAll 33 = .ok (.getfield 9, 3) := by decide +kernel
theorem dX12_partsAll_36 : decode cX12_partsAll 36 = .ok (.iconst 0, 1) := by decide +kernel
theorem dX12_partsAll_37 : decode cX12_partsAll 37 = .ok (.iaload, 1) := by decide +kernel
theorem dX12_partsAll_38 : decode cX12_partsAll 38 = .ok (.if_icmp .ge 20, 3) := by decide +kernel
theorem dX12_partsAll_41 : decode cX12_partsAll 41 = .ok (.aload_n 0, 1) := by decide +kernel
theorem dX12_partsAll_42 : decode cX12_partsAll 42 = .ok (.getfield 43, 3) := by decide +kernel
theorem dX12_partsAll_45 : decode cX12_partsAll 45 = .ok (.iload_n 3, 1) := by decide +kernel
theorem dX12_partsAll_46 : decode cX12_partsAll 46 = .ok (.aload_n 0, 1) := by decide +kernel
theorem dX12_partsAll_47 : decode cX12_partsAll 47 = .ok (.iload_n 3, 1) := by decide +kernel
theorem dX12_partsAll_48 : decode cX12_partsAll 48 = .ok (.invokevirtual 68, 3) := by decide +kernel
theorem dX12_partsAll_51 : decode cX12_partsAll 51 = .ok (.iastore, 1) := by decide +kernel
theorem dX12_partsAll_52 : decode cX12_partsAll 52 = .ok (.iinc 3 1, 3) := by decide +kernel
theorem dX12_partsAll_55 : decode cX12_partsAll 55 = .ok (.goto (-24), 3) := by decide +kernel
theorem dX12_partsAll_58 : decode cX12_partsAll 58 = .ok (.aload_n 0, 1) := by decide +kernel
theorem dX12_partsAll_59 : decode cX12_partsAll 59 = .ok (.invokevirtual 208, 3) := by decide +kernel
theorem dX12_partsAll_62 : decode cX12_partsAll 62 = .ok (.aload_n 0, 1) := by decide +kernel
theorem dX12_partsAll_63 : decode cX12_partsAll 63 = .ok (.iconst 0, 1) := by decide +kernel
theorem dX12_partsAll_64 : decode cX12_partsAll 64 = .ok (.iload_n 1, 1) := by decide +kernel
theorem dX12_partsAll_65 : decode cX12_partsAll 65 = .ok (.iload_n 2, 1) := by decide +kernel
theorem dX12_partsAll_66 : decode cX12_partsAll 66 = .ok (.invokevirtual 205, 3) := by decide +kernel
theorem dX12_partsAll_69 : decode cX12_partsAll 69 = .ok (.aload_n 0, 1) := by decide +kernel
theorem dX12_partsAll_70 : decode cX12_partsAll 70 = .ok (.invokevirtual 211, 3) := by decide +kernel
theorem dX12_partsAll_73 : decode cX12_partsAll 73 = .ok (.return_, 1) := by decide +kernel
set_option maxRecDepth 20000 in
theorem ggX12_wrongParting_X12_isIn : GoodIn wsX12_wrongParting wsX12_isIn := goodIn_r _ [6] (by decide +kernel) (by decide +kernel)
set_option maxRecDepth 20000 in
theorem gX12_wrongParting_X12_isIn : GoodIn wsX12_wrongParting (va_wsS RX12 52 yX12_isIn wsX12_isIn) := goodIn_app (goodIn_of _ (by decide +kernel)) ggX12_wrongParting_X12_isIn
theorem dX12_wrongParting_0 : decode cX12_wrongParting 0 = .ok (.iload_n 1, 1) := by decide +kernel
theorem dX12_wrongParting_1 : decode cX12_wrongParting 1 = .ok (.i2l, 1) := by decide +kernel
theorem dX12_wrongParting_2 : decode cX12_wrongParting 2 = .ok (.lconst 0, 1) := by decide +kernel
theorem dX12_wrongParting_3 : decode cX12_wrongParting 3 = .ok (.ldc2_w 214, 3) := by decide +kernel
theorem dX12_wrongParting_6 : decode cX12_wrongParting 6 = .ok (.invokestatic 52, 3) := by decide +kernel
theorem dX12_wrongParting_9 : decode cX12_wrongParting 9 = .ok (.ifCond .ne 7, 3) := by decide +kernel
theorem dX12_wrongParting_12 : decode cX12_wrongParting 12 = .ok (.iconst (-1), 1) := by decide +kernel
theorem dX12_wrongParting_13 : decode cX12_wrongParting 13 = .ok (.goto 20, 3) := by decide +kernel
theorem dX12_wrongParting_16 : decode cX12_wrongParting 16 = .ok (.aload_n 0, 1) := by decide +kernel
theorem dX12_wrongParting_17 : decode cX12_wrongParting 17 = .ok (.getfield 9, 3) := by decide +kernel
theorem dX12_wrongParting_20 : decode cX12_wrongParting 20 = .ok (.iconst 0, 1) := by decide +kernel
theorem dX12_wrongParting_21 : decode cX12_wrongParting 21 = .ok (.iaload, 1) := by decide +kernel
theorem dX12_wrongParting_22 : decode cX12_wrongParting 22 = .ok (.bipush 6, 2) := by decide +kernel
theorem dX12_wrongParting_24 : decode cX12_wrongParting 24 = .ok (.if_icmp .le 8, 3) := by decide +kernel
theorem dX12_wrongParting_27 : decode cX12_wrongParting 27 = .ok (.bipush (-3), 2) := by decide +kernel
theorem dX12_wrongParting_29 : decode cX12_wrongParting 29 = .ok (.goto 4, 3) := by decide +kernel
theorem dX12_wrongParting_32 : decode cX12_wrongParting 32 = .ok (.iconst 0, 1) := by decide +kernel
theorem dX12_wrongParting_33 : decode cX12_wrongParting 33 = .ok (.ireturn, 1) := by decide +kernel
set_option maxRecDepth 20000 in
theorem ggX12_partings_X12_wrongParting : GoodIn wsX12_partings wsX12_wrongParting := goodIn_r _ [6, 7, 8, 9, 10, 5, 11, 100, 101, 102, 103, 104, 105, 106, 107, 108, 109, 110, 111, 112, 113, 114, 115, 116, 117, 118, 119, 120, 121, 122, 123] (by decide +kernel) (by decide +kernel)
set_option maxRecDepth 20000 in
theorem gX12_partings_X12_wrongParting : GoodIn wsX12_partings (wsV RX12 216 RX12 yX12_wrongParting wsX12_wrongParting) := goodIn_app (goodIn_of _ (by decide +kernel)) ggX12_partings_X12_wrongParting
set_option maxRecDepth 20000 in
theorem ggX12_partings_X12_partsAll : GoodIn wsX12_partings wsX12_partsAll := goodIn_r _ [15, 1, 16, 17, 18, 19, 8, 20, 21, 22, 23, 5, 24, 25, 26, 27, 28, 29, 30, 31, 32, 33, 34, 35, 36, 37, 38, 39, 40, 41, 42, 43, 44, 45, 46, 47, 48, 49, 50, 51, 52, 53, 54, 55, 56, 57, 58, 59, 60, 61, 62, 63, 64, 65, 66, 67, 68, 9, 10, 11, 69, 70, 71, 72, 73, 74, 75, 76, 77, 78, 79, 80, 81, 82, 83, 84, 85, 86, 87, 88, 89, 90, 91, 92, 93, 94, 95, 96, 97, 98, 99, 100, 101, 102, 103, 104, 105, 106, 107, 108, 109, 110, 111, 112, 113, 114, 115, 116, 117, 118, 119, 120, 121, 122, 123] (by decide +kernel) (by decide +kernel)
set_option maxRecDepth 20000 in
theorem gX12_partings_X12_partsAll : GoodIn wsX12_partings (wsV RX12 219 RX12 yX12_partsAll wsX12_partsAll) := goodIn_app (goodIn_of _ (by decide +kernel)) ggX12_partings_X12_partsAll
theorem dX12_partings_0 : decode cX12_partings 0 = .ok (.aload_n 0, 1) := by decide +kernel
theorem dX12_partings_1 : decode cX12_partings 1 = .ok (.iload_n 1, 1) := by decide +kernel
theorem dX12_partings_2 : decode cX12_partings 2 = .ok (.invokevirtual 216, 3) := by decide +kernel
theorem dX12_partings_5 : decode cX12_partings 5 = .ok (.istore_n 2, 1) := by decide +kernel
theorem dX12_partings_6 : decode cX12_partings 6 = .ok (.iload_n 2, 1) := by decide +kernel
theorem dX12_partings_7 : decode cX12_partings 7 = .ok (.ifCond .eq 5, 3) := by decide +kernel
theorem dX12_partings_10 : decode cX12_partings 10 = .ok (.iload_n 2, 1) := by decide +kernel
theorem dX12_partings_11 : decode cX12_partings 11 = .ok (.ireturn, 1) := by decide +kernel
theorem dX12_partings_12 : decode cX12_partings 12 = .ok (.aload_n 0, 1) := by decide +kernel
theorem dX12_partings_13 : decode cX12_partings 13 = .ok (.iload_n 1, 1) := by decide +kernel
theorem dX12_partings_14 : decode cX12_partings 14 = .ok (.bipush (-4), 2) := by decide +kernel
theorem dX12_partings_16 : decode cX12_partings 16 = .ok (.invokevirtual 219, 3) := by decide +kernel
theorem dX12_partings_19 : decode cX12_partings 19 = .ok (.aload_n 0, 1) := by decide +kernel
theorem dX12_partings_20 : decode cX12_partings 20 = .ok (.getfield 186, 3) := by decide +kernel
theorem dX12_partings_23 : decode cX12_partings 23 = .ok (.ireturn, 1) := by decide +kernel
set_option maxRecDepth 20000 in
theorem ggX12_uneven_X12_wrongParting : GoodIn wsX12_uneven wsX12_wrongParting := goodIn_r _ [6, 7, 8, 9, 10, 5, 11, 100, 101, 102, 103, 104, 105, 106, 107, 108, 109, 110, 111, 112, 113, 114, 115, 116, 117, 118, 119, 120, 121, 122, 123] (by decide +kernel) (by decide +kernel)
set_option maxRecDepth 20000 in
theorem gX12_uneven_X12_wrongParting : GoodIn wsX12_uneven (wsV RX12 216 RX12 yX12_wrongParting wsX12_wrongParting) := goodIn_app (goodIn_of _ (by decide +kernel)) ggX12_uneven_X12_wrongParting
set_option maxRecDepth 20000 in
theorem ggX12_uneven_X12_partsAll : GoodIn wsX12_uneven wsX12_partsAll := goodIn_r _ [15, 16, 1, 17, 18, 19, 8, 20, 21, 22, 23, 5, 24, 25, 26, 27, 28, 29, 30, 31, 32, 33, 34, 35, 36, 37, 38, 39, 40, 41, 42, 43, 44, 45, 46, 47, 48, 49, 50, 51, 52, 53, 54, 55, 56, 57, 58, 59, 60, 61, 62, 63, 64, 65, 66, 67, 68, 9, 10, 11, 69, 70, 71, 72, 73, 74, 75, 76, 77, 78, 79, 80, 81, 82, 83, 84, 85, 86, 87, 88, 89, 90, 91, 92, 93, 94, 95, 96, 97, 98, 99, 100, 101, 102, 103, 104, 105, 106, 107, 108, 109, 110, 111, 112, 113, 114, 115, 116, 117, 118, 119, 120, 121, 122, 123] (by decide +kernel) (by decide +kernel)
set_option maxRecDepth 20000 in
theorem gX12_uneven_X12_partsAll : GoodIn wsX12_uneven (wsV RX12 219 RX12 yX12_partsAll wsX12_partsAll) := goodIn_app (goodIn_of _ (by decide +kernel)) ggX12_uneven_X12_partsAll
theorem dX12_uneven_0 : decode cX12_uneven 0 = .ok (.aload_n 0, 1) := by decide +kernel
theorem dX12_uneven_1 : decode cX12_uneven 1 = .ok (.iload_n 1, 1) := by decide +kernel
theorem dX12_uneven_2 : decode cX12_uneven 2 = .ok (.invokevirtual 216, 3) := by decide +kernel
theorem dX12_uneven_5 : decode cX12_uneven 5 = .ok (.istore_n 2, 1) := by decide +kernel
theorem dX12_uneven_6 : decode cX12_uneven 6 = .ok (.iload_n 2, 1) := by decide +kernel
theorem dX12_uneven_7 : decode cX12_uneven 7 = .ok (.ifCond .eq 5, 3) := by decide +kernel
theorem dX12_uneven_10 : decode cX12_uneven 10 = .ok (.iload_n 2, 1) := by decide +kernel
theorem dX12_uneven_11 : decode cX12_uneven 11 = .ok (.ireturn, 1) := by decide +kernel
theorem dX12_uneven_12 : decode cX12_uneven 12 = .ok (.aload_n 0, 1) := by decide +kernel
theorem dX12_uneven_13 : decode cX12_uneven 13 = .ok (.iload_n 1, 1) := by decide +kernel
theorem dX12_uneven_14 : decode cX12_uneven 14 = .ok (.bipush (-4), 2) := by decide +kernel
theorem dX12_uneven_16 : decode cX12_uneven 16 = .ok (.invokevirtual 219, 3) := by decide +kernel
theorem dX12_uneven_19 : decode cX12_uneven 19 = .ok (.aload_n 0, 1) := by decide +kernel
theorem dX12_uneven_20 : decode cX12_uneven 20 = .ok (.getfield 189, 3) := by decide +kernel
theorem dX12_uneven_23 : decode cX12_uneven 23 = .ok (.ireturn, 1) := by decide +kernel
set_option maxRecDepth 20000 in
theorem ggX12_richest_X12_isHouse : GoodIn wsX12_richest wsX12_isHouse := goodIn_r _ [6, 7, 8, 9, 5, 10, 100, 101, 102, 103, 104, 105, 106, 107, 108, 109, 110, 111, 112, 113, 114, 115, 116, 117, 118, 119, 120, 121, 122, 123] (by decide +kernel) (by decide +kernel)
set_option maxRecDepth 20000 in
theorem gX12_richest_X12_isHouse : GoodIn wsX12_richest (wsV RX12 56 RX12 yX12_isHouse wsX12_isHouse) := goodIn_app (goodIn_of _ (by decide +kernel)) ggX12_richest_X12_isHouse
set_option maxRecDepth 20000 in
theorem ggX12_richest_X12_wrongParting : GoodIn wsX12_richest wsX12_wrongParting := goodIn_r _ [14, 15, 7, 8, 9, 5, 10, 100, 101, 102, 103, 104, 105, 106, 107, 108, 109, 110, 111, 112, 113, 114, 115, 116, 117, 118, 119, 120, 121, 122, 123] (by decide +kernel) (by decide +kernel)
set_option maxRecDepth 20000 in
theorem gX12_richest_X12_wrongParting : GoodIn wsX12_richest (wsV RX12 216 RX12 yX12_wrongParting wsX12_wrongParting) := goodIn_app (goodIn_of _ (by decide +kernel)) ggX12_richest_X12_wrongParting
set_option maxRecDepth 20000 in
theorem ggX12_richest_X12_partsAll : GoodIn wsX12_richest wsX12_partsAll := goodIn_r _ [19, 20, 21, 1, 22, 23, 7, 24, 25, 26, 27, 5, 28, 29, 30, 31, 32, 33, 34, 35, 36, 37, 38, 39, 40, 41, 42, 43, 44, 45, 46, 47, 48, 49, 50, 51, 52, 53, 54, 55, 56, 57, 58, 59, 60, 61, 62, 63, 64, 65, 66, 67, 68, 2, 3, 4, 6, 8, 9, 10, 69, 70, 71, 72, 73, 74, 75, 76, 77, 78, 79, 80, 81, 82, 83, 84, 85, 86, 87, 88, 89, 90, 91, 92, 93, 94, 95, 96, 97, 98, 99, 100, 101, 102, 103, 104, 105, 106, 107, 108, 109, 110, 111, 112, 113, 114, 115, 116, 117, 118, 119, 120, 121, 122, 123] (by decide +kernel) (by decide +kernel)
set_option maxRecDepth 20000 in
theorem gX12_richest_X12_partsAll : GoodIn wsX12_richest (wsV RX12 219 RX12 yX12_partsAll wsX12_partsAll) := goodIn_app (goodIn_of _ (by decide +kernel)) ggX12_richest_X12_partsAll
theorem dX12_richest_0 : decode cX12_richest 0 = .ok (.aload_n 0, 1) := by decide +kernel
theorem dX12_richest_1 : decode cX12_richest 1 = .ok (.iload_n 2, 1) := by decide +kernel
theorem dX12_richest_2 : decode cX12_richest 2 = .ok (.invokevirtual 56, 3) := by decide +kernel
theorem dX12_richest_5 : decode cX12_richest 5 = .ok (.ifCond .ne 7, 3) := by decide +kernel
theorem dX12_richest_8 : decode cX12_richest 8 = .ok (.iconst (-1), 1) := by decide +kernel
theorem dX12_richest_9 : decode cX12_richest 9 = .ok (.goto 8, 3) := by decide +kernel
theorem dX12_richest_12 : decode cX12_richest 12 = .ok (.aload_n 0, 1) := by decide +kernel
theorem dX12_richest_13 : decode cX12_richest 13 = .ok (.iload_n 1, 1) := by decide +kernel
theorem dX12_richest_14 : decode cX12_richest 14 = .ok (.invokevirtual 216, 3) := by decide +kernel
theorem dX12_richest_17 : decode cX12_richest 17 = .ok (.istore_n 3, 1) := by decide +kernel
theorem dX12_richest_18 : decode cX12_richest 18 = .ok (.iload_n 3, 1) := by decide +kernel
theorem dX12_richest_19 : decode cX12_richest 19 = .ok (.ifCond .eq 5, 3) := by decide +kernel
theorem dX12_richest_22 : decode cX12_richest 22 = .ok (.iload_n 3, 1) := by decide +kernel
theorem dX12_richest_23 : decode cX12_richest 23 = .ok (.ireturn, 1) := by decide +kernel
theorem dX12_richest_24 : decode cX12_richest 24 = .ok (.aload_n 0, 1) := by decide +kernel
theorem dX12_richest_25 : decode cX12_richest 25 = .ok (.iload_n 1, 1) := by decide +kernel
theorem dX12_richest_26 : decode cX12_richest 26 = .ok (.iload_n 2, 1) := by decide +kernel
theorem dX12_richest_27 : decode cX12_richest 27 = .ok (.invokevirtual 219, 3) := by decide +kernel
theorem dX12_richest_30 : decode cX12_richest 30 = .ok (.aload_n 0, 1) := by decide +kernel
theorem dX12_richest_31 : decode cX12_richest 31 = .ok (.getfield 192, 3) := by decide +kernel
theorem dX12_richest_34 : decode cX12_richest 34 = .ok (.ireturn, 1) := by decide +kernel
set_option maxRecDepth 20000 in
theorem ggX12_tooMany_X12_coins : GoodIn wsX12_tooMany wsX12_coins := goodIn_r _ [6, 1, 7, 8, 9, 5, 10, 11, 12, 13, 14, 15, 16, 17, 18, 19, 20, 21, 22, 23, 24, 25, 26, 27, 28, 29, 30, 31, 32, 33, 34, 35, 36, 37, 38] (by decide +kernel) (by decide +kernel)
set_option maxRecDepth 20000 in
theorem gX12_tooMany_X12_coins : GoodIn wsX12_tooMany (wsV RX12 180 RX12 yX12_coins wsX12_coins) := goodIn_app (goodIn_of _ (by decide +kernel)) ggX12_tooMany_X12_coins
theorem dX12_tooMany_0 : decode cX12_tooMany 0 = .ok (.aload_n 0, 1) := by decide +kernel
theorem dX12_tooMany_1 : decode cX12_tooMany 1 = .ok (.getfield 9, 3) := by decide +kernel
theorem dX12_tooMany_4 : decode cX12_tooMany 4 = .ok (.iconst 0, 1) := by decide +kernel
theorem dX12_tooMany_5 : decode cX12_tooMany 5 = .ok (.iaload, 1) := by decide +kernel
theorem dX12_tooMany_6 : decode cX12_tooMany 6 = .ok (.bipush 6, 2) := by decide +kernel
theorem dX12_tooMany_8 : decode cX12_tooMany 8 = .ok (.if_icmp .gt 12, 3) := by decide +kernel
theorem dX12_tooMany_11 : decode cX12_tooMany 11 = .ok (.aload_n 0, 1) := by decide +kernel
theorem dX12_tooMany_12 : decode cX12_tooMany 12 = .ok (.invokevirtual 180, 3) := by decide +kernel
theorem dX12_tooMany_15 : decode cX12_tooMany 15 = .ok (.bipush 20, 2) := by decide +kernel
theorem dX12_tooMany_17 : decode cX12_tooMany 17 = .ok (.if_icmp .le 7, 3) := by decide +kernel
theorem dX12_tooMany_20 : decode cX12_tooMany 20 = .ok (.iconst 1, 1) := by decide +kernel
theorem dX12_tooMany_21 : decode cX12_tooMany 21 = .ok (.goto 4, 3) := by decide +kernel
theorem dX12_tooMany_24 : decode cX12_tooMany 24 = .ok (.iconst 0, 1) := by decide +kernel
theorem dX12_tooMany_25 : decode cX12_tooMany 25 = .ok (.ireturn, 1) := by decide +kernel
set_option maxRecDepth 20000 in
theorem ggX12_hands_X12_tooMany : GoodIn wsX12_hands wsX12_tooMany := goodIn_r _ [6, 7, 8, 9, 10, 5, 11, 12, 13, 14, 15, 16, 17, 18, 19, 103, 104, 105, 106, 107, 108, 109, 110, 111, 112, 113, 114, 115, 116, 117, 118, 119, 120, 121, 122, 123, 124, 125, 126] (by decide +kernel) (by decide +kernel)
set_option maxRecDepth 20000 in
theorem gX12_hands_X12_tooMany : GoodIn wsX12_hands (wsV RX12 222 RX12 yX12_tooMany wsX12_tooMany) := goodIn_app (goodIn_of _ (by decide +kernel)) ggX12_hands_X12_tooMany
set_option maxRecDepth 20000 in
theorem ggX12_hands_X12_coins : GoodIn wsX12_hands wsX12_coins := goodIn_r _ [11, 7, 12, 13, 14, 5, 15, 16, 17, 18, 19, 103, 104, 105, 106, 107, 108, 109, 110, 111, 112, 113, 114, 115, 116, 117, 118, 119, 120, 121, 122, 123, 124, 125, 126] (by decide +kernel) (by decide +kernel)
set_option maxRecDepth 20000 in
theorem gX12_hands_X12_coins : GoodIn wsX12_hands (wsV RX12 180 RX12 yX12_coins wsX12_coins) := goodIn_app (goodIn_of _ (by decide +kernel)) ggX12_hands_X12_coins
set_option maxRecDepth 20000 in
theorem ggX12_hands_X12_partsAll : GoodIn wsX12_hands wsX12_partsAll := goodIn_r _ [23, 24, 25, 26, 1, 27, 7, 28, 12, 13, 14, 5, 15, 16, 17, 18, 19, 29, 30, 31, 32, 33, 34, 35, 36, 37, 38, 39, 40, 41, 42, 43, 44, 45, 46, 47, 48, 49, 50, 51, 52, 53, 54, 55, 56, 57, 58, 59, 60, 61, 62, 63, 64, 65, 66, 67, 68, 69, 70, 71, 72, 73, 74, 75, 76, 77, 78, 79, 80, 81, 82, 83, 84, 85, 86, 87, 88, 89, 90, 91, 92, 93, 94, 95, 96, 97, 98, 99, 100, 101, 102, 103, 104, 105, 106, 107, 108, 109, 110, 111, 112, 113, 114, 115, 116, 117, 118, 119, 120, 121, 122, 123, 124, 125, 126] (by decide +kernel) (by decide +kernel)
set_option maxRecDepth 20000 in
theorem gX12_hands_X12_partsAll : GoodIn wsX12_hands (wsV RX12 219 RX12 yX12_partsAll wsX12_partsAll) := goodIn_app (goodIn_of _ (by decide +kernel)) ggX12_hands_X12_partsAll
theorem dX12_hands_0 : decode cX12_hands 0 = .ok (.aload_n 0, 1) := by decide +kernel
theorem dX12_hands_1 : decode cX12_hands 1 = .ok (.invokevirtual 222, 3) := by decide +kernel
theorem dX12_hands_4 : decode cX12_hands 4 = .ok (.ifCond .eq 6, 3) := by decide +kernel
theorem dX12_hands_7 : decode cX12_hands 7 = .ok (.bipush (-3), 2) := by decide +kernel
theorem dX12_hands_9 : decode cX12_hands 9 = .ok (.ireturn, 1) := by decide +kernel
theorem dX12_hands_10 : decode cX12_hands 10 = .ok (.aload_n 0, 1) := by decide +kernel
theorem dX12_hands_11 : decode cX12_hands 11 = .ok (.aload_n 0, 1) := by decide +kernel
theorem dX12_hands_12 : decode cX12_hands 12 = .ok (.invokevirtual 180, 3) := by decide +kernel
theorem dX12_hands_15 : decode cX12_hands 15 = .ok (.bipush (-4), 2) := by decide +kernel
theorem dX12_hands_17 : decode cX12_hands 17 = .ok (.invokevirtual 219, 3) := by decide +kernel
theorem dX12_hands_20 : decode cX12_hands 20 = .ok (.aload_n 0, 1) := by decide +kernel
theorem dX12_hands_21 : decode cX12_hands 21 = .ok (.getfield 195, 3) := by decide +kernel
theorem dX12_hands_24 : decode cX12_hands 24 = .ok (.ireturn, 1) := by decide +kernel
set_option maxRecDepth 20000 in
theorem ggX12_any_X12_tooMany : GoodIn wsX12_any wsX12_tooMany := goodIn_r _ [6, 7, 8, 9, 10, 5, 11, 12, 13, 14, 15, 16, 17, 18, 19, 103, 104, 105, 106, 107, 108, 109, 110, 111, 112, 113, 114, 115, 116, 117, 118, 119, 120, 121, 122, 123, 124, 125, 126] (by decide +kernel) (by decide +kernel)
set_option maxRecDepth 20000 in
theorem gX12_any_X12_tooMany : GoodIn wsX12_any (wsV RX12 222 RX12 yX12_tooMany wsX12_tooMany) := goodIn_app (goodIn_of _ (by decide +kernel)) ggX12_any_X12_tooMany
set_option maxRecDepth 20000 in
theorem ggX12_any_X12_coins : GoodIn wsX12_any wsX12_coins := goodIn_r _ [11, 7, 12, 13, 14, 5, 15, 16, 17, 18, 19, 103, 104, 105, 106, 107, 108, 109, 110, 111, 112, 113, 114, 115, 116, 117, 118, 119, 120, 121, 122, 123, 124, 125, 126] (by decide +kernel) (by decide +kernel)
set_option maxRecDepth 20000 in
theorem gX12_any_X12_coins : GoodIn wsX12_any (wsV RX12 180 RX12 yX12_coins wsX12_coins) := goodIn_app (goodIn_of _ (by decide +kernel)) ggX12_any_X12_coins
set_option maxRecDepth 20000 in
theorem ggX12_any_X12_partsAll : GoodIn wsX12_any wsX12_partsAll := goodIn_r _ [23, 24, 25, 26, 27, 1, 7, 28, 12, 13, 14, 5, 15, 16, 17, 18, 19, 29, 30, 31, 32, 33, 34, 35, 36, 37, 38, 39, 40, 41, 42, 43, 44, 45, 46, 47, 48, 49, 50, 51, 52, 53, 54, 55, 56, 57, 58, 59, 60, 61, 62, 63, 64, 65, 66, 67, 68, 69, 70, 71, 72, 73, 74, 75, 76, 77, 78, 79, 80, 81, 82, 83, 84, 85, 86, 87, 88, 89, 90, 91, 92, 93, 94, 95, 96, 97, 98, 99, 100, 101, 102, 103, 104, 105, 106, 107, 108, 109, 110, 111, 112, 113, 114, 115, 116, 117, 118, 119, 120, 121, 122, 123, 124, 125, 126] (by decide +kernel) (by decide +kernel)
set_option maxRecDepth 20000 in
theorem gX12_any_X12_partsAll : GoodIn wsX12_any (wsV RX12 219 RX12 yX12_partsAll wsX12_partsAll) := goodIn_app (goodIn_of _ (by decide +kernel)) ggX12_any_X12_partsAll
theorem dX12_any_0 : decode cX12_any 0 = .ok (.aload_n 0, 1) := by decide +kernel
theorem dX12_any_1 : decode cX12_any 1 = .ok (.invokevirtual 222, 3) := by decide +kernel
theorem dX12_any_4 : decode cX12_any 4 = .ok (.ifCond .eq 6, 3) := by decide +kernel
theorem dX12_any_7 : decode cX12_any 7 = .ok (.bipush (-3), 2) := by decide +kernel
theorem dX12_any_9 : decode cX12_any 9 = .ok (.ireturn, 1) := by decide +kernel
theorem dX12_any_10 : decode cX12_any 10 = .ok (.aload_n 0, 1) := by decide +kernel
theorem dX12_any_11 : decode cX12_any 11 = .ok (.aload_n 0, 1) := by decide +kernel
theorem dX12_any_12 : decode cX12_any 12 = .ok (.invokevirtual 180, 3) := by decide +kernel
theorem dX12_any_15 : decode cX12_any 15 = .ok (.bipush (-4), 2) := by decide +kernel
theorem dX12_any_17 : decode cX12_any 17 = .ok (.invokevirtual 219, 3) := by decide +kernel
theorem dX12_any_20 : decode cX12_any 20 = .ok (.aload_n 0, 1) := by decide +kernel
theorem dX12_any_21 : decode cX12_any 21 = .ok (.getfield 198, 3) := by decide +kernel
theorem dX12_any_24 : decode cX12_any 24 = .ok (.ireturn, 1) := by decide +kernel
set_option maxRecDepth 20000 in
theorem ggX12_change_X12_isIn : GoodIn wsX12_change wsX12_isIn := goodIn_r _ [5] (by decide +kernel) (by decide +kernel)
set_option maxRecDepth 20000 in
theorem gX12_change_X12_isIn : GoodIn wsX12_change (va_wsS RX12 52 yX12_isIn wsX12_isIn) := goodIn_app (goodIn_of _ (by decide +kernel)) ggX12_change_X12_isIn
set_option maxRecDepth 20000 in
theorem ggX12_change_X12_breachesAll : GoodIn wsX12_change wsX12_breachesAll := goodIn_r _ [9, 1, 10, 11, 12, 4, 13, 14, 15, 16, 17, 18, 19, 20, 21, 22, 23, 24, 25, 26, 27, 28, 29, 30, 31, 32, 33, 2, 3, 5, 34, 35, 36, 37, 38, 39, 40, 41, 42, 43, 44, 45, 46, 47, 48, 49, 50, 51, 52, 53, 54, 55, 56, 65, 66, 67, 68, 69, 70, 71, 72, 73, 74, 75, 76, 77, 78, 79, 80, 81, 82, 83, 84, 85, 86, 87, 88] (by decide +kernel) (by decide +kernel)
set_option maxRecDepth 20000 in
theorem gX12_change_X12_breachesAll : GoodIn wsX12_change (wsV RX12 99 RX12 yX12_breachesAll wsX12_breachesAll) := goodIn_app (goodIn_of _ (by decide +kernel)) ggX12_change_X12_breachesAll
set_option maxRecDepth 20000 in
theorem ggX12_change_X12_changes : GoodIn wsX12_change wsX12_changes := goodIn_r _ [60, 18, 19, 20, 4, 21, 1, 61, 62, 63, 64, 65, 66, 67, 68, 69, 70, 71, 72, 73, 74, 75, 76, 77, 78, 79, 80, 81, 82, 83, 84, 85, 86, 87, 88] (by decide +kernel) (by decide +kernel)
set_option maxRecDepth 20000 in
theorem gX12_change_X12_changes : GoodIn wsX12_change (wsV RX12 150 RX12 yX12_changes wsX12_changes) := goodIn_app (goodIn_of _ (by decide +kernel)) ggX12_change_X12_changes
theorem dX12_change_0 : decode cX12_change 0 = .ok (.iload_n 1, 1) := by decide +kernel
theorem dX12_change_1 : decode cX12_change 1 = .ok (.i2l, 1) := by decide +kernel
theorem dX12_change_2 : decode cX12_change 2 = .ok (.lconst 0, 1) := by decide +kernel
theorem dX12_change_3 : decode cX12_change 3 = .ok (.lconst 1, 1) := by decide +kernel
theorem dX12_change_4 : decode cX12_change 4 = .ok (.invokestatic 52, 3) := by decide +kernel
theorem dX12_change_7 : decode cX12_change 7 = .ok (.ifCond .ne 5, 3) := by decide +kernel
theorem dX12_change_10 : decode cX12_change 10 = .ok (.iconst (-1), 1) := by decide +kernel
theorem dX12_change_11 : decode cX12_change 11 = .ok (.ireturn, 1) := by decide +kernel
theorem dX12_change_12 : decode cX12_change 12 = .ok (.aload_n 0, 1) := by decide +kernel
theorem dX12_change_13 : decode cX12_change 13 = .ok (.invokevirtual 99, 3) := by decide +kernel
theorem dX12_change_16 : decode cX12_change 16 = .ok (.istore_n 2, 1) := by decide +kernel
theorem dX12_change_17 : decode cX12_change 17 = .ok (.bipush (-4), 2) := by decide +kernel
theorem dX12_change_19 : decode cX12_change 19 = .ok (.istore_n 3, 1) := by decide +kernel
theorem dX12_change_20 : decode cX12_change 20 = .ok (.iconst 0, 1) := by decide +kernel
theorem dX12_change_21 : decode cX12_change 21 = .ok (.istore 4, 2) := by decide +kernel
theorem dX12_change_23 : decode cX12_change 23 = .ok (.iload 4, 2) := by decide +kernel
theorem dX12_change_25 : decode cX12_change 25 = .ok (.aload_n 0, 1) := by decide +kernel
theorem dX12_change_26 : decode cX12_change 26 = .ok (.getfield 9, 3) := by decide +kernel
theorem dX12_change_29 : decode cX12_change 29 = .ok (.iconst 0, 1) := by decide +kernel
theorem dX12_change_30 : decode cX12_change 30 = .ok (.iaload, 1) := by decide +kernel
theorem dX12_change_31 : decode cX12_change 31 = .ok (.if_icmp .ge 75, 3) := by decide +kernel
theorem dX12_change_34 : decode cX12_change 34 = .ok (.iload 4, 2) := by decide +kernel
theorem dX12_change_36 : decode cX12_change 36 = .ok (.iconst 1, 1) := by decide +kernel
theorem dX12_change_37 : decode cX12_change 37 = .ok (.iadd, 1) := by decide +kernel
theorem dX12_change_38 : decode cX12_change 38 = .ok (.istore 5, 2) := by decide +kernel
theorem dX12_change_40 : decode cX12_change 40 = .ok (.iload 5, 2) := by decide +kernel
theorem dX12_change_42 : decode cX12_change 42 = .ok (.aload_n 0, 1) := by decide +kernel
theorem dX12_change_43 : decode cX12_change 43 = .ok (.getfield 9, 3) := by decide +kernel
theorem dX12_change_46 : decode cX12_change 46 = .ok (.iconst 0, 1) := by decide +kernel
theorem dX12_change_47 : decode cX12_change 47 = .ok (.iaload, 1) := by decide +kernel
theorem dX12_change_48 : decode cX12_change 48 = .ok (.if_icmp .ge 52, 3) := by decide +kernel
theorem dX12_change_51 : decode cX12_change 51 = .ok (.aload_n 0, 1) := by decide +kernel
theorem dX12_change_52 : decode cX12_change 52 = .ok (.iload 4, 2) := by decide +kernel
theorem dX12_change_54 : decode cX12_change 54 = .ok (.iload 5, 2) := by decide +kernel
theorem dX12_change_56 : decode cX12_change 56 = .ok (.invokevirtual 150, 3) := by decide +kernel
theorem dX12_change_59 : decode cX12_change 59 = .ok (.aload_n 0, 1) := by decide +kernel
theorem dX12_change_60 : decode cX12_change 60 = .ok (.invokevirtual 99, 3) := by decide +kernel
theorem dX12_change_63 : decode cX12_change 63 = .ok (.istore 6, 2) := by decide +kernel
theorem dX12_change_65 : decode cX12_change 65 = .ok (.aload_n 0, 1) := by decide +kernel
theorem dX12_change_66 : decode cX12_change 66 = .ok (.iload 4, 2) := by decide +kernel
theorem dX12_change_68 : decode cX12_change 68 = .ok (.iload 5, 2) := by decide +kernel
theorem dX12_change_70 : decode cX12_change 70 = .ok (.invokevirtual 150, 3) := by decide +kernel
theorem dX12_change_73 : decode cX12_change 73 = .ok (.iload 6, 2) := by decide +kernel
theorem dX12_change_75 : decode cX12_change 75 = .ok (.iload_n 2, 1) := by decide +kernel
theorem dX12_change_76 : decode cX12_change 76 = .ok (.if_icmp .lt 6, 3) := by decide +kernel
theorem dX12_change_79 : decode cX12_change 79 = .ok (.goto 15, 3) := by decide +kernel
theorem dX12_change_82 : decode cX12_change 82 = .ok (.iload 6, 2) := by decide +kernel
theorem dX12_change_84 : decode cX12_change 84 = .ok (.istore_n 2, 1) := by decide +kernel
theorem dX12_change_85 : decode cX12_change 85 = .ok (.bipush 10, 2) := by decide +kernel
theorem dX12_change_87 : decode cX12_change 87 = .ok (.iload 4, 2) := by decide +kernel
theorem dX12_change_89 : decode cX12_change 89 = .ok (.imul, 1) := by decide +kernel
theorem dX12_change_90 : decode cX12_change 90 = .ok (.iload 5, 2) := by decide +kernel
theorem dX12_change_92 : decode cX12_change 92 = .ok (.iadd, 1) := by decide +kernel
theorem dX12_change_93 : decode cX12_change 93 = .ok (.istore_n 3, 1) := by decide +kernel
theorem dX12_change_94 : decode cX12_change 94 = .ok (.iinc 5 1, 3) := by decide +kernel
theorem dX12_change_97 : decode cX12_change 97 = .ok (.goto (-57), 3) := by decide +kernel
theorem dX12_change_100 : decode cX12_change 100 = .ok (.iinc 4 1, 3) := by decide +kernel
theorem dX12_change_103 : decode cX12_change 103 = .ok (.goto (-80), 3) := by decide +kernel
theorem dX12_change_106 : decode cX12_change 106 = .ok (.iload_n 1, 1) := by decide +kernel
theorem dX12_change_107 : decode cX12_change 107 = .ok (.ifCond .ne 7, 3) := by decide +kernel
theorem dX12_change_110 : decode cX12_change 110 = .ok (.iload_n 3, 1) := by decide +kernel
theorem dX12_change_111 : decode cX12_change 111 = .ok (.goto 13, 3) := by decide +kernel
theorem dX12_change_114 : decode cX12_change 114 = .ok (.iload_n 3, 1) := by decide +kernel
theorem dX12_change_115 : decode cX12_change 115 = .ok (.ifCond .ge 8, 3) := by decide +kernel
theorem dX12_change_118 : decode cX12_change 118 = .ok (.bipush (-4), 2) := by decide +kernel
theorem dX12_change_120 : decode cX12_change 120 = .ok (.goto 4, 3) := by decide +kernel
theorem dX12_change_123 : decode cX12_change 123 = .ok (.iload_n 2, 1) := by decide +kernel
theorem dX12_change_124 : decode cX12_change 124 = .ok (.ireturn, 1) := by decide +kernel
set_option maxRecDepth 20000 in
theorem ggX12_wedding_X12_isHouse : GoodIn wsX12_wedding wsX12_isHouse := goodIn_r _ [6, 1, 7, 8, 5, 9, 73, 74, 75, 76, 77, 78, 79, 80, 81, 82, 83, 84, 85, 86, 87, 88, 89, 90, 91, 92, 93, 94, 95, 96] (by decide +kernel) (by decide +kernel)
set_option maxRecDepth 20000 in
theorem gX12_wedding_X12_isHouse : GoodIn wsX12_wedding (wsV RX12 56 RX12 yX12_isHouse wsX12_isHouse) := goodIn_app (goodIn_of _ (by decide +kernel)) ggX12_wedding_X12_isHouse
set_option maxRecDepth 20000 in
theorem ggX12_wedding_X12_begins : GoodIn wsX12_wedding wsX12_begins := goodIn_r _ [13, 1, 14, 15, 16, 5, 17, 73, 74, 75, 76, 77, 78, 79, 80, 81, 82, 83, 84, 85, 86, 87, 88, 89, 90, 91, 92, 93, 94, 95, 96] (by decide +kernel) (by decide +kernel)
set_option maxRecDepth 20000 in
theorem gX12_wedding_X12_begins : GoodIn wsX12_wedding (wsV RX12 208 RX12 yX12_begins wsX12_begins) := goodIn_app (goodIn_of _ (by decide +kernel)) ggX12_wedding_X12_begins
set_option maxRecDepth 20000 in
theorem ggX12_wedding_X12_purse : GoodIn wsX12_wedding wsX12_purse := goodIn_r _ [21, 22, 23, 24, 5, 25, 1, 73, 74, 75, 76, 77, 78, 79, 80, 81, 82, 83, 84, 85, 86, 87, 88, 89, 90, 91, 92, 93, 94, 95, 96] (by decide +kernel) (by decide +kernel)
set_option maxRecDepth 20000 in
theorem gX12_wedding_X12_purse : GoodIn wsX12_wedding (wsV RX12 68 RX12 yX12_purse wsX12_purse) := goodIn_app (goodIn_of _ (by decide +kernel)) ggX12_wedding_X12_purse
set_option maxRecDepth 20000 in
theorem ggX12_wedding_X12_puts : GoodIn wsX12_wedding wsX12_puts := goodIn_r _ [29, 1, 73, 74, 75, 76, 77, 78, 79, 80, 81, 82, 83, 84, 85, 86, 87, 88, 89, 90, 91, 92, 93, 94, 95, 96] (by decide +kernel) (by decide +kernel)
set_option maxRecDepth 20000 in
theorem gX12_wedding_X12_puts : GoodIn wsX12_wedding (wsV RX12 125 RX12 yX12_puts wsX12_puts) := goodIn_app (goodIn_of _ (by decide +kernel)) ggX12_wedding_X12_puts
set_option maxRecDepth 20000 in
theorem ggX12_wedding_X12_breachesAll : GoodIn wsX12_wedding wsX12_breachesAll := goodIn_r _ [33, 1, 34, 35, 36, 5, 37, 18, 19, 20, 21, 22, 23, 24, 25, 38, 39, 40, 41, 42, 43, 44, 45, 2, 3, 4, 6, 7, 8, 9, 46, 47, 48, 49, 50, 51, 52, 53, 54, 55, 56, 57, 58, 59, 60, 61, 62, 63, 64, 65, 66, 67, 68, 73, 74, 75, 76, 77, 78, 79, 80, 81, 82, 83, 84, 85, 86, 87, 88, 89, 90, 91, 92, 93, 94, 95, 96] (by decide +kernel) (by decide +kernel)
set_option maxRecDepth 20000 in
theorem gX12_wedding_X12_breachesAll : GoodIn wsX12_wedding (wsV RX12 99 RX12 yX12_breachesAll wsX12_breachesAll) := goodIn_app (goodIn_of _ (by decide +kernel)) ggX12_wedding_X12_breachesAll
set_option maxRecDepth 20000 in
theorem ggX12_wedding_X12_ends : GoodIn wsX12_wedding wsX12_ends := goodIn_r _ [72, 14, 1, 15, 16, 5, 17, 73, 74, 75, 76, 77, 78, 79, 80, 81, 82, 83, 84, 85, 86, 87, 88, 89, 90, 91, 92, 93, 94, 95, 96] (by decide +kernel) (by decide +kernel)
set_option maxRecDepth 20000 in
theorem gX12_wedding_X12_ends : GoodIn wsX12_wedding (wsV RX12 211 RX12 yX12_ends wsX12_ends) := goodIn_app (goodIn_of _ (by decide +kernel)) ggX12_wedding_X12_ends
theorem dX12_wedding_0 : decode cX12_wedding 0 = .ok (.aload_n 0, 1) := by decide +kernel
theorem dX12_wedding_1 : decode cX12_wedding 1 = .ok (.iload_n 1, 1) := by decide +kernel
theorem dX12_wedding_2 : decode cX12_wedding 2 = .ok (.invokevirtual 56, 3) := by decide +kernel
theorem dX12_wedding_5 : decode cX12_wedding 5 = .ok (.ifCond .eq 13, 3) := by decide +kernel
theorem dX12_wedding_8 : decode cX12_wedding 8 = .ok (.aload_n 0, 1) := by decide +kernel
theorem dX12_wedding_9 : decode cX12_wedding 9 = .ok (.iload_n 1, 1) := by decide +kernel
theorem dX12_wedding_10 : decode cX12_wedding 10 = .ok (.iconst 1, 1) := by decide +kernel
theorem dX12_wedding_11 : decode cX12_wedding 11 = .ok (.iadd, 1) := by decide +kernel
theorem dX12_wedding_12 : decode cX12_wedding 12 = .ok (.invokevirtual 56, 3) := by decide +kernel
theorem dX12_wedding_15 : decode cX12_wedding 15 = .ok (.ifCond .ne 5, 3) := by decide +kernel
theorem dX12_wedding_18 : decode cX12_wedding 18 = .ok (.iconst (-1), 1) := by decide +kernel
theorem dX12_wedding_19 : decode cX12_wedding 19 = .ok (.ireturn, 1) := by decide +kernel
theorem dX12_wedding_20 : decode cX12_wedding 20 = .ok (.aload_n 0, 1) := by decide +kernel
theorem dX12_wedding_21 : decode cX12_wedding 21 = .ok (.invokevirtual 208, 3) := by decide +kernel
theorem dX12_wedding_24 : decode cX12_wedding 24 = .ok (.aload_n 0, 1) := by decide +kernel
theorem dX12_wedding_25 : decode cX12_wedding 25 = .ok (.iload_n 1, 1) := by decide +kernel
theorem dX12_wedding_26 : decode cX12_wedding 26 = .ok (.invokevirtual 68, 3) := by decide +kernel
theorem dX12_wedding_29 : decode cX12_wedding 29 = .ok (.aload_n 0, 1) := by decide +kernel
theorem dX12_wedding_30 : decode cX12_wedding 30 = .ok (.iload_n 1, 1) := by decide +kernel
theorem dX12_wedding_31 : decode cX12_wedding 31 = .ok (.iconst 1, 1) := by decide +kernel
theorem dX12_wedding_32 : decode cX12_wedding 32 = .ok (.iadd, 1) := by decide +kernel
theorem dX12_wedding_33 : decode cX12_wedding 33 = .ok (.invokevirtual 68, 3) := by decide +kernel
theorem dX12_wedding_36 : decode cX12_wedding 36 = .ok (.iadd, 1) := by decide +kernel
theorem dX12_wedding_37 : decode cX12_wedding 37 = .ok (.istore_n 2, 1) := by decide +kernel
theorem dX12_wedding_38 : decode cX12_wedding 38 = .ok (.aload_n 0, 1) := by decide +kernel
theorem dX12_wedding_39 : decode cX12_wedding 39 = .ok (.iload_n 1, 1) := by decide +kernel
theorem dX12_wedding_40 : decode cX12_wedding 40 = .ok (.iconst 2, 1) := by decide +kernel
theorem dX12_wedding_41 : decode cX12_wedding 41 = .ok (.iload_n 2, 1) := by decide +kernel
theorem dX12_wedding_42 : decode cX12_wedding 42 = .ok (.sipush 9999, 3) := by decide +kernel
theorem dX12_wedding_45 : decode cX12_wedding 45 = .ok (.if_icmp .le 9, 3) := by decide +kernel
theorem dX12_wedding_48 : decode cX12_wedding 48 = .ok (.sipush 9999, 3) := by decide +kernel
theorem dX12_wedding_51 : decode cX12_wedding 51 = .ok (.goto 4, 3) := by decide +kernel
theorem dX12_wedding_54 : decode cX12_wedding 54 = .ok (.iload_n 2, 1) := by decide +kernel
theorem dX12_wedding_55 : decode cX12_wedding 55 = .ok (.invokevirtual 125, 3) := by decide +kernel
theorem dX12_wedding_58 : decode cX12_wedding 58 = .ok (.iconst 2, 1) := by decide +kernel
theorem dX12_wedding_59 : decode cX12_wedding 59 = .ok (.iconst 3, 1) := by decide +kernel
theorem dX12_wedding_60 : decode cX12_wedding 60 = .ok (.iload_n 1, 1) := by decide +kernel
theorem dX12_wedding_61 : decode cX12_wedding 61 = .ok (.iconst 1, 1) := by decide +kernel
theorem dX12_wedding_62 : decode cX12_wedding 62 = .ok (.iadd, 1) := by decide +kernel
theorem dX12_wedding_63 : decode cX12_wedding 63 = .ok (.imul, 1) := by decide +kernel
theorem dX12_wedding_64 : decode cX12_wedding 64 = .ok (.iadd, 1) := by decide +kernel
theorem dX12_wedding_65 : decode cX12_wedding 65 = .ok (.istore_n 3, 1) := by decide +kernel
theorem dX12_wedding_66 : decode cX12_wedding 66 = .ok (.iload_n 3, 1) := by decide +kernel
theorem dX12_wedding_67 : decode cX12_wedding 67 = .ok (.iconst 2, 1) := by decide +kernel
theorem dX12_wedding_68 : decode cX12_wedding 68 = .ok (.iconst 3, 1) := by decide +kernel
theorem dX12_wedding_69 : decode cX12_wedding 69 = .ok (.aload_n 0, 1) := by decide +kernel
theorem dX12_wedding_70 : decode cX12_wedding 70 = .ok (.getfield 9, 3) := by decide +kernel
theorem dX12_wedding_73 : decode cX12_wedding 73 = .ok (.iconst 0, 1) := by decide +kernel
theorem dX12_wedding_74 : decode cX12_wedding 74 = .ok (.iaload, 1) := by decide +kernel
theorem dX12_wedding_75 : decode cX12_wedding 75 = .ok (.iconst 1, 1) := by decide +kernel
theorem dX12_wedding_76 : decode cX12_wedding 76 = .ok (.isub, 1) := by decide +kernel
theorem dX12_wedding_77 : decode cX12_wedding 77 = .ok (.imul, 1) := by decide +kernel
theorem dX12_wedding_78 : decode cX12_wedding 78 = .ok (.iadd, 1) := by decide +kernel
theorem dX12_wedding_79 : decode cX12_wedding 79 = .ok (.if_icmp .ge 23, 3) := by decide +kernel
theorem dX12_wedding_82 : decode cX12_wedding 82 = .ok (.aload_n 0, 1) := by decide +kernel
theorem dX12_wedding_83 : decode cX12_wedding 83 = .ok (.getfield 9, 3) := by decide +kernel
theorem dX12_wedding_86 : decode cX12_wedding 86 = .ok (.iload_n 3, 1) := by decide +kernel
theorem dX12_wedding_87 : decode cX12_wedding 87 = .ok (.aload_n 0, 1) := by decide +kernel
theorem dX12_wedding_88 : decode cX12_wedding 88 = .ok (.getfield 9, 3) := by decide +kernel
theorem dX12_wedding_91 : decode cX12_wedding 91 = .ok (.iload_n 3, 1) := by decide +kernel
theorem dX12_wedding_92 : decode cX12_wedding 92 = .ok (.iconst 3, 1) := by decide +kernel
theorem dX12_wedding_93 : decode cX12_wedding 93 = .ok (.iadd, 1) := by decide +kernel
theorem dX12_wedding_94 : decode cX12_wedding 94 = .ok (.iaload, 1) := by decide +kernel
theorem dX12_wedding_95 : decode cX12_wedding 95 = .ok (.iastore, 1) := by decide +kernel
theorem dX12_wedding_96 : decode cX12_wedding 96 = .ok (.iinc 3 1, 3) := by decide +kernel
theorem dX12_wedding_99 : decode cX12_wedding 99 = .ok (.goto (-33), 3) := by decide +kernel
theorem dX12_wedding_102 : decode cX12_wedding 102 = .ok (.aload_n 0, 1) := by decide +kernel
theorem dX12_wedding_103 : decode cX12_wedding 103 = .ok (.getfield 9, 3) := by decide +kernel
theorem dX12_wedding_106 : decode cX12_wedding 106 = .ok (.iconst 0, 1) := by decide +kernel
theorem dX12_wedding_107 : decode cX12_wedding 107 = .ok (.dup2, 1) := by decide +kernel
theorem dX12_wedding_108 : decode cX12_wedding 108 = .ok (.iaload, 1) := by decide +kernel
theorem dX12_wedding_109 : decode cX12_wedding 109 = .ok (.iconst 1, 1) := by decide +kernel
theorem dX12_wedding_110 : decode cX12_wedding 110 = .ok (.isub, 1) := by decide +kernel
theorem dX12_wedding_111 : decode cX12_wedding 111 = .ok (.iastore, 1) := by decide +kernel
theorem dX12_wedding_112 : decode cX12_wedding 112 = .ok (.aload_n 0, 1) := by decide +kernel
theorem dX12_wedding_113 : decode cX12_wedding 113 = .ok (.invokevirtual 99, 3) := by decide +kernel
theorem dX12_wedding_116 : decode cX12_wedding 116 = .ok (.istore_n 3, 1) := by decide +kernel
theorem dX12_wedding_117 : decode cX12_wedding 117 = .ok (.aload_n 0, 1) := by decide +kernel
theorem dX12_wedding_118 : decode cX12_wedding 118 = .ok (.invokevirtual 211, 3) := by decide +kernel
theorem dX12_wedding_121 : decode cX12_wedding 121 = .ok (.iload_n 3, 1) := by decide +kernel
theorem dX12_wedding_122 : decode cX12_wedding 122 = .ok (.ireturn, 1) := by decide +kernel
set_option maxRecDepth 20000 in
theorem ggX12_worth_X12_isHouse : GoodIn wsX12_worth wsX12_isHouse := goodIn_r _ [8, 3, 9, 10, 7, 11, 64, 65, 66, 67, 68, 69, 70, 71, 72, 73, 74, 75, 76, 77, 78, 79, 80, 81, 82, 83, 84, 85, 86, 87] (by decide +kernel) (by decide +kernel)
set_option maxRecDepth 20000 in
theorem gX12_worth_X12_isHouse : GoodIn wsX12_worth (wsV RX12 56 RX12 yX12_isHouse wsX12_isHouse) := goodIn_app (goodIn_of _ (by decide +kernel)) ggX12_worth_X12_isHouse
set_option maxRecDepth 20000 in
theorem ggX12_worth_X12_isIn : GoodIn wsX12_worth wsX12_isIn := goodIn_r _ [11] (by decide +kernel) (by decide +kernel)
set_option maxRecDepth 20000 in
theorem gX12_worth_X12_isIn : GoodIn wsX12_worth (va_wsS RX12 52 yX12_isIn wsX12_isIn) := goodIn_app (goodIn_of _ (by decide +kernel)) ggX12_worth_X12_isIn
set_option maxRecDepth 20000 in
theorem ggX12_worth_X12_mostOf : GoodIn wsX12_worth wsX12_mostOf := goodIn_r _ [15, 16, 17, 18, 7, 19, 3, 4, 5, 6, 8, 9, 10, 11, 20, 21, 22, 23, 24, 25, 26, 27, 28, 29, 30, 31, 32, 33, 34, 35, 36, 37, 38, 39, 40, 41, 42, 43, 44, 45, 46, 47, 64, 65, 66, 67, 68, 69, 70, 71, 72, 73, 74, 75, 76, 77, 78, 79, 80, 81, 82, 83, 84, 85, 86, 87] (by decide +kernel) (by decide +kernel)
set_option maxRecDepth 20000 in
theorem gX12_worth_X12_mostOf : GoodIn wsX12_worth (wsV RX12 167 RX12 yX12_mostOf wsX12_mostOf) := goodIn_app (goodIn_of _ (by decide +kernel)) ggX12_worth_X12_mostOf
set_option maxRecDepth 20000 in
theorem ggX12_worth_X12_begins : GoodIn wsX12_worth wsX12_begins := goodIn_r _ [51, 3, 52, 53, 54, 7, 55, 64, 65, 66, 67, 68, 69, 70, 71, 72, 73, 74, 75, 76, 77, 78, 79, 80, 81, 82, 83, 84, 85, 86, 87] (by decide +kernel) (by decide +kernel)
set_option maxRecDepth 20000 in
theorem gX12_worth_X12_begins : GoodIn wsX12_worth (wsV RX12 208 RX12 yX12_begins wsX12_begins) := goodIn_app (goodIn_of _ (by decide +kernel)) ggX12_worth_X12_begins
set_option maxRecDepth 20000 in
theorem ggX12_worth_X12_puts : GoodIn wsX12_worth wsX12_puts := goodIn_r _ [59, 3, 64, 65, 66, 67, 68, 69, 70, 71, 72, 73, 74, 75, 76, 77, 78, 79, 80, 81, 82, 83, 84, 85, 86, 87] (by decide +kernel) (by decide +kernel)
set_option maxRecDepth 20000 in
theorem gX12_worth_X12_puts : GoodIn wsX12_worth (wsV RX12 125 RX12 yX12_puts wsX12_puts) := goodIn_app (goodIn_of _ (by decide +kernel)) ggX12_worth_X12_puts
set_option maxRecDepth 20000 in
theorem ggX12_worth_X12_ends : GoodIn wsX12_worth wsX12_ends := goodIn_r _ [63, 52, 3, 53, 54, 7, 55, 64, 65, 66, 67, 68, 69, 70, 71, 72, 73, 74, 75, 76, 77, 78, 79, 80, 81, 82, 83, 84, 85, 86, 87] (by decide +kernel) (by decide +kernel)
set_option maxRecDepth 20000 in
theorem gX12_worth_X12_ends : GoodIn wsX12_worth (wsV RX12 211 RX12 yX12_ends wsX12_ends) := goodIn_app (goodIn_of _ (by decide +kernel)) ggX12_worth_X12_ends
theorem dX12_worth_0 : decode cX12_worth 0 = .ok (.aload_n 0, 1) := by decide +kernel
theorem dX12_worth_1 : decode cX12_worth 1 = .ok (.iload_n 1, 1) := by decide +kernel
theorem dX12_worth_2 : decode cX12_worth 2 = .ok (.invokevirtual 56, 3) := by decide +kernel
theorem dX12_worth_5 : decode cX12_worth 5 = .ok (.ifCond .eq 15, 3) := by decide +kernel
theorem dX12_worth_8 : decode cX12_worth 8 = .ok (.iload_n 2, 1) := by decide +kernel
theorem dX12_worth_9 : decode cX12_worth 9 = .ok (.i2l, 1) := by decide +kernel
theorem dX12_worth_10 : decode cX12_worth 10 = .ok (.lconst 0, 1) := by decide +kernel
theorem dX12_worth_11 : decode cX12_worth 11 = .ok (.ldc2_w 173, 3) := by decide +kernel
theorem dX12_worth_14 : decode cX12_worth 14 = .ok (.invokestatic 52, 3) := by decide +kernel
theorem dX12_worth_17 : decode cX12_worth 17 = .ok (.ifCond .ne 6, 3) := by decide +kernel
theorem dX12_worth_20 : decode cX12_worth 20 = .ok (.ldc 225, 2) := by decide +kernel
theorem dX12_worth_22 : decode cX12_worth 22 = .ok (.ireturn, 1) := by decide +kernel
theorem dX12_worth_23 : decode cX12_worth 23 = .ok (.aload_n 0, 1) := by decide +kernel
theorem dX12_worth_24 : decode cX12_worth 24 = .ok (.iload_n 1, 1) := by decide +kernel
theorem dX12_worth_25 : decode cX12_worth 25 = .ok (.invokevirtual 167, 3) := by decide +kernel
theorem dX12_worth_28 : decode cX12_worth 28 = .ok (.istore_n 3, 1) := by decide +kernel
theorem dX12_worth_29 : decode cX12_worth 29 = .ok (.aload_n 0, 1) := by decide +kernel
theorem dX12_worth_30 : decode cX12_worth 30 = .ok (.invokevirtual 208, 3) := by decide +kernel
theorem dX12_worth_33 : decode cX12_worth 33 = .ok (.iconst 2, 1) := by decide +kernel
theorem dX12_worth_34 : decode cX12_worth 34 = .ok (.iconst 3, 1) := by decide +kernel
theorem dX12_worth_35 : decode cX12_worth 35 = .ok (.aload_n 0, 1) := by decide +kernel
theorem dX12_worth_36 : decode cX12_worth 36 = .ok (.getfield 9, 3) := by decide +kernel
theorem dX12_worth_39 : decode cX12_worth 39 = .ok (.iconst 0, 1) := by decide +kernel
theorem dX12_worth_40 : decode cX12_worth 40 = .ok (.iaload, 1) := by decide +kernel
theorem dX12_worth_41 : decode cX12_worth 41 = .ok (.imul, 1) := by decide +kernel
theorem dX12_worth_42 : decode cX12_worth 42 = .ok (.iadd, 1) := by decide +kernel
theorem dX12_worth_43 : decode cX12_worth 43 = .ok (.iconst 1, 1) := by decide +kernel
theorem dX12_worth_44 : decode cX12_worth 44 = .ok (.isub, 1) := by decide +kernel
theorem dX12_worth_45 : decode cX12_worth 45 = .ok (.istore 4, 2) := by decide +kernel
theorem dX12_worth_47 : decode cX12_worth 47 = .ok (.iload 4, 2) := by decide +kernel
theorem dX12_worth_49 : decode cX12_worth 49 = .ok (.iconst 2, 1) := by decide +kernel
theorem dX12_worth_50 : decode cX12_worth 50 = .ok (.iconst 3, 1) := by decide +kernel
theorem dX12_worth_51 : decode cX12_worth 51 = .ok (.iload_n 1, 1) := by decide +kernel
theorem dX12_worth_52 : decode cX12_worth 52 = .ok (.iconst 1, 1) := by decide +kernel
theorem dX12_worth_53 : decode cX12_worth 53 = .ok (.iadd, 1) := by decide +kernel
theorem dX12_worth_54 : decode cX12_worth 54 = .ok (.imul, 1) := by decide +kernel
theorem dX12_worth_55 : decode cX12_worth 55 = .ok (.iadd, 1) := by decide +kernel
theorem dX12_worth_56 : decode cX12_worth 56 = .ok (.if_icmp .lt 25, 3) := by decide +kernel
theorem dX12_worth_59 : decode cX12_worth 59 = .ok (.aload_n 0, 1) := by decide +kernel
theorem dX12_worth_60 : decode cX12_worth 60 = .ok (.getfield 9, 3) := by decide +kernel
theorem dX12_worth_63 : decode cX12_worth 63 = .ok (.iload 4, 2) := by decide +kernel
theorem dX12_worth_65 : decode cX12_worth 65 = .ok (.iconst 3, 1) := by decide +kernel
theorem dX12_worth_66 : decode cX12_worth 66 = .ok (.iadd, 1) := by decide +kernel
theorem dX12_worth_67 : decode cX12_worth 67 = .ok (.aload_n 0, 1) := by decide +kernel
theorem dX12_worth_68 : decode cX12_worth 68 = .ok (.getfield 9, 3) := by decide +kernel
theorem dX12_worth_71 : decode cX12_worth 71 = .ok (.iload 4, 2) := by decide +kernel
theorem dX12_worth_73 : decode cX12_worth 73 = .ok (.iaload, 1) := by decide +kernel
theorem dX12_worth_74 : decode cX12_worth 74 = .ok (.iastore, 1) := by decide +kernel
theorem dX12_worth_75 : decode cX12_worth 75 = .ok (.iinc 4 (-1), 3) := by decide +kernel
theorem dX12_worth_78 : decode cX12_worth 78 = .ok (.goto (-31), 3) := by decide +kernel
theorem dX12_worth_81 : decode cX12_worth 81 = .ok (.aload_n 0, 1) := by decide +kernel
theorem dX12_worth_82 : decode cX12_worth 82 = .ok (.iload_n 1, 1) := by decide +kernel
theorem dX12_worth_83 : decode cX12_worth 83 = .ok (.iconst 1, 1) := by decide +kernel
theorem dX12_worth_84 : decode cX12_worth 84 = .ok (.iadd, 1) := by decide +kernel
theorem dX12_worth_85 : decode cX12_worth 85 = .ok (.iconst 0, 1) := by decide +kernel
theorem dX12_worth_86 : decode cX12_worth 86 = .ok (.iconst 0, 1) := by decide +kernel
theorem dX12_worth_87 : decode cX12_worth 87 = .ok (.invokevirtual 125, 3) := by decide +kernel
theorem dX12_worth_90 : decode cX12_worth 90 = .ok (.aload_n 0, 1) := by decide +kernel
theorem dX12_worth_91 : decode cX12_worth 91 = .ok (.iload_n 1, 1) := by decide +kernel
theorem dX12_worth_92 : decode cX12_worth 92 = .ok (.iconst 1, 1) := by decide +kernel
theorem dX12_worth_93 : decode cX12_worth 93 = .ok (.iadd, 1) := by decide +kernel
theorem dX12_worth_94 : decode cX12_worth 94 = .ok (.iconst 1, 1) := by decide +kernel
theorem dX12_worth_95 : decode cX12_worth 95 = .ok (.iconst 0, 1) := by decide +kernel
theorem dX12_worth_96 : decode cX12_worth 96 = .ok (.invokevirtual 125, 3) := by decide +kernel
theorem dX12_worth_99 : decode cX12_worth 99 = .ok (.aload_n 0, 1) := by decide +kernel
theorem dX12_worth_100 : decode cX12_worth 100 = .ok (.iload_n 1, 1) := by decide +kernel
theorem dX12_worth_101 : decode cX12_worth 101 = .ok (.iconst 1, 1) := by decide +kernel
theorem dX12_worth_102 : decode cX12_worth 102 = .ok (.iadd, 1) := by decide +kernel
theorem dX12_worth_103 : decode cX12_worth 103 = .ok (.iconst 2, 1) := by decide +kernel
theorem dX12_worth_104 : decode cX12_worth 104 = .ok (.iload_n 2, 1) := by decide +kernel
theorem dX12_worth_105 : decode cX12_worth 105 = .ok (.invokevirtual 125, 3) := by decide +kernel
theorem dX12_worth_108 : decode cX12_worth 108 = .ok (.aload_n 0, 1) := by decide +kernel
theorem dX12_worth_109 : decode cX12_worth 109 = .ok (.getfield 9, 3) := by decide +kernel
theorem dX12_worth_112 : decode cX12_worth 112 = .ok (.iconst 0, 1) := by decide +kernel
theorem dX12_worth_113 : decode cX12_worth 113 = .ok (.dup2, 1) := by decide +kernel
theorem dX12_worth_114 : decode cX12_worth 114 = .ok (.iaload, 1) := by decide +kernel
theorem dX12_worth_115 : decode cX12_worth 115 = .ok (.iconst 1, 1) := by decide +kernel
theorem dX12_worth_116 : decode cX12_worth 116 = .ok (.iadd, 1) := by decide +kernel
theorem dX12_worth_117 : decode cX12_worth 117 = .ok (.iastore, 1) := by decide +kernel
theorem dX12_worth_118 : decode cX12_worth 118 = .ok (.aload_n 0, 1) := by decide +kernel
theorem dX12_worth_119 : decode cX12_worth 119 = .ok (.iload_n 1, 1) := by decide +kernel
theorem dX12_worth_120 : decode cX12_worth 120 = .ok (.invokevirtual 167, 3) := by decide +kernel
theorem dX12_worth_123 : decode cX12_worth 123 = .ok (.istore 4, 2) := by decide +kernel
theorem dX12_worth_125 : decode cX12_worth 125 = .ok (.aload_n 0, 1) := by decide +kernel
theorem dX12_worth_126 : decode cX12_worth 126 = .ok (.invokevirtual 211, 3) := by decide +kernel
theorem dX12_worth_129 : decode cX12_worth 129 = .ok (.iload 4, 2) := by decide +kernel
theorem dX12_worth_131 : decode cX12_worth 131 = .ok (.iload_n 3, 1) := by decide +kernel
theorem dX12_worth_132 : decode cX12_worth 132 = .ok (.isub, 1) := by decide +kernel
theorem dX12_worth_133 : decode cX12_worth 133 = .ok (.ireturn, 1) := by decide +kernel
set_option maxRecDepth 20000 in
theorem ggX12_fitting_X12_isHouse : GoodIn wsX12_fitting wsX12_isHouse := goodIn_r _ [6, 7, 8, 9, 5, 10, 78, 79, 80, 81, 82, 83, 84, 85, 86, 87, 88, 89, 90, 91, 92, 93, 94, 95, 96, 97, 98, 99, 100, 101] (by decide +kernel) (by decide +kernel)
set_option maxRecDepth 20000 in
theorem gX12_fitting_X12_isHouse : GoodIn wsX12_fitting (wsV RX12 56 RX12 yX12_isHouse wsX12_isHouse) := goodIn_app (goodIn_of _ (by decide +kernel)) ggX12_fitting_X12_isHouse
set_option maxRecDepth 20000 in
theorem ggX12_fitting_X12_isIn : GoodIn wsX12_fitting wsX12_isIn := goodIn_r _ [10] (by decide +kernel) (by decide +kernel)
set_option maxRecDepth 20000 in
theorem gX12_fitting_X12_isIn : GoodIn wsX12_fitting (va_wsS RX12 52 yX12_isIn wsX12_isIn) := goodIn_app (goodIn_of _ (by decide +kernel)) ggX12_fitting_X12_isIn
set_option maxRecDepth 20000 in
theorem ggX12_fitting_X12_begins : GoodIn wsX12_fitting wsX12_begins := goodIn_r _ [14, 7, 15, 16, 17, 5, 18, 78, 79, 80, 81, 82, 83, 84, 85, 86, 87, 88, 89, 90, 91, 92, 93, 94, 95, 96, 97, 98, 99, 100, 101] (by decide +kernel) (by decide +kernel)
set_option maxRecDepth 20000 in
theorem gX12_fitting_X12_begins : GoodIn wsX12_fitting (wsV RX12 208 RX12 yX12_begins wsX12_begins) := goodIn_app (goodIn_of _ (by decide +kernel)) ggX12_fitting_X12_begins
set_option maxRecDepth 20000 in
theorem ggX12_fitting_X12_puts : GoodIn wsX12_fitting wsX12_puts := goodIn_r _ [22, 7, 78, 79, 80, 81, 82, 83, 84, 85, 86, 87, 88, 89, 90, 91, 92, 93, 94, 95, 96, 97, 98, 99, 100, 101] (by decide +kernel) (by decide +kernel)
set_option maxRecDepth 20000 in
theorem gX12_fitting_X12_puts : GoodIn wsX12_fitting (wsV RX12 125 RX12 yX12_puts wsX12_puts) := goodIn_app (goodIn_of _ (by decide +kernel)) ggX12_fitting_X12_puts
set_option maxRecDepth 20000 in
theorem ggX12_fitting_X12_isLawful : GoodIn wsX12_fitting wsX12_isLawful := goodIn_r _ [26, 27, 28, 29, 5, 30, 7, 31, 32, 33, 34, 35, 36, 37, 38, 39, 40, 41, 42, 43, 44, 45, 46, 47, 48, 49, 50, 2, 3, 4, 6, 8, 9, 10, 51, 52, 53, 54, 55, 56, 57, 58, 59, 60, 61, 62, 63, 64, 65, 66, 67, 68, 69, 70, 71, 72, 73, 78, 79, 80, 81, 82, 83, 84, 85, 86, 87, 88, 89, 90, 91, 92, 93, 94, 95, 96, 97, 98, 99, 100, 101] (by decide +kernel) (by decide +kernel)
set_option maxRecDepth 20000 in
theorem gX12_fitting_X12_isLawful : GoodIn wsX12_fitting (wsV RX12 183 RX12 yX12_isLawful wsX12_isLawful) := goodIn_app (goodIn_of _ (by decide +kernel)) ggX12_fitting_X12_isLawful
set_option maxRecDepth 20000 in
theorem ggX12_fitting_X12_ends : GoodIn wsX12_fitting wsX12_ends := goodIn_r _ [77, 15, 7, 16, 17, 5, 18, 78, 79, 80, 81, 82, 83, 84, 85, 86, 87, 88, 89, 90, 91, 92, 93, 94, 95, 96, 97, 98, 99, 100, 101] (by decide +kernel) (by decide +kernel)
set_option maxRecDepth 20000 in
theorem gX12_fitting_X12_ends : GoodIn wsX12_fitting (wsV RX12 211 RX12 yX12_ends wsX12_ends) := goodIn_app (goodIn_of _ (by decide +kernel)) ggX12_fitting_X12_ends
theorem dX12_fitting_0 : decode cX12_fitting 0 = .ok (.aload_n 0, 1) := by decide +kernel
theorem dX12_fitting_1 : decode cX12_fitting 1 = .ok (.iload_n 1, 1) := by decide +kernel
theorem dX12_fitting_2 : decode cX12_fitting 2 = .ok (.invokevirtual 56, 3) := by decide +kernel
theorem dX12_fitting_5 : decode cX12_fitting 5 = .ok (.ifCond .eq 15, 3) := by decide +kernel
theorem dX12_fitting_8 : decode cX12_fitting 8 = .ok (.iload_n 2, 1) := by decide +kernel
theorem dX12_fitting_9 : decode cX12_fitting 9 = .ok (.i2l, 1) := by decide +kernel
theorem dX12_fitting_10 : decode cX12_fitting 10 = .ok (.lconst 0, 1) := by decide +kernel
theorem dX12_fitting_11 : decode cX12_fitting 11 = .ok (.ldc2_w 226, 3) := by decide +kernel
theorem dX12_fitting_14 : decode cX12_fitting 14 = .ok (.invokestatic 52, 3) := by decide +kernel
theorem dX12_fitting_17 : decode cX12_fitting 17 = .ok (.ifCond .ne 5, 3) := by decide +kernel
theorem dX12_fitting_20 : decode cX12_fitting 20 = .ok (.iconst (-1), 1) := by decide +kernel
theorem dX12_fitting_21 : decode cX12_fitting 21 = .ok (.ireturn, 1) := by decide +kernel
theorem dX12_fitting_22 : decode cX12_fitting 22 = .ok (.iconst 0, 1) := by decide +kernel
theorem dX12_fitting_23 : decode cX12_fitting 23 = .ok (.istore_n 3, 1) := by decide +kernel
theorem dX12_fitting_24 : decode cX12_fitting 24 = .ok (.bipush (-4), 2) := by decide +kernel
theorem dX12_fitting_26 : decode cX12_fitting 26 = .ok (.istore 4, 2) := by decide +kernel
theorem dX12_fitting_28 : decode cX12_fitting 28 = .ok (.bipush (-4), 2) := by decide +kernel
theorem dX12_fitting_30 : decode cX12_fitting 30 = .ok (.istore 5, 2) := by decide +kernel
theorem dX12_fitting_32 : decode cX12_fitting 32 = .ok (.aload_n 0, 1) := by decide +kernel
theorem dX12_fitting_33 : decode cX12_fitting 33 = .ok (.invokevirtual 208, 3) := by decide +kernel
theorem dX12_fitting_36 : decode cX12_fitting 36 = .ok (.iconst 0, 1) := by decide +kernel
theorem dX12_fitting_37 : decode cX12_fitting 37 = .ok (.istore 6, 2) := by decide +kernel
theorem dX12_fitting_39 : decode cX12_fitting 39 = .ok (.iload 6, 2) := by decide +kernel
theorem dX12_fitting_41 : decode cX12_fitting 41 = .ok (.bipush 99, 2) := by decide +kernel
theorem dX12_fitting_43 : decode cX12_fitting 43 = .ok (.if_icmp .gt 48, 3) := by decide +kernel
theorem dX12_fitting_46 : decode cX12_fitting 46 = .ok (.aload_n 0, 1) := by decide +kernel
theorem dX12_fitting_47 : decode cX12_fitting 47 = .ok (.iload_n 1, 1) := by decide +kernel
theorem dX12_fitting_48 : decode cX12_fitting 48 = .ok (.iconst 2, 1) := by decide +kernel
theorem dX12_fitting_49 : decode cX12_fitting 49 = .ok (.iload 6, 2) := by decide +kernel
theorem dX12_fitting_51 : decode cX12_fitting 51 = .ok (.invokevirtual 125, 3) := by decide +kernel
theorem dX12_fitting_54 : decode cX12_fitting 54 = .ok (.aload_n 0, 1) := by decide +kernel
theorem dX12_fitting_55 : decode cX12_fitting 55 = .ok (.invokevirtual 183, 3) := by decide +kernel
theorem dX12_fitting_58 : decode cX12_fitting 58 = .ok (.ifCond .ne 6, 3) := by decide +kernel
theorem dX12_fitting_61 : decode cX12_fitting 61 = .ok (.goto 24, 3) := by decide +kernel
theorem dX12_fitting_64 : decode cX12_fitting 64 = .ok (.iinc 3 1, 3) := by decide +kernel
theorem dX12_fitting_67 : decode cX12_fitting 67 = .ok (.iload 4, 2) := by decide +kernel
theorem dX12_fitting_69 : decode cX12_fitting 69 = .ok (.ifCond .ge 8, 3) := by decide +kernel
theorem dX12_fitting_72 : decode cX12_fitting 72 = .ok (.iload 6, 2) := by decide +kernel
theorem dX12_fitting_74 : decode cX12_fitting 74 = .ok (.goto 5, 3) := by decide +kernel
theorem dX12_fitting_77 : decode cX12_fitting 77 = .ok (.iload 4, 2) := by decide +kernel
theorem dX12_fitting_79 : decode cX12_fitting 79 = .ok (.istore 4, 2) := by decide +kernel
theorem dX12_fitting_81 : decode cX12_fitting 81 = .ok (.iload 6, 2) := by decide +kernel
theorem dX12_fitting_83 : decode cX12_fitting 83 = .ok (.istore 5, 2) := by decide +kernel
theorem dX12_fitting_85 : decode cX12_fitting 85 = .ok (.iinc 6 1, 3) := by decide +kernel
theorem dX12_fitting_88 : decode cX12_fitting 88 = .ok (.goto (-49), 3) := by decide +kernel
theorem dX12_fitting_91 : decode cX12_fitting 91 = .ok (.aload_n 0, 1) := by decide +kernel
theorem dX12_fitting_92 : decode cX12_fitting 92 = .ok (.invokevirtual 211, 3) := by decide +kernel
theorem dX12_fitting_95 : decode cX12_fitting 95 = .ok (.iload_n 2, 1) := by decide +kernel
theorem dX12_fitting_96 : decode cX12_fitting 96 = .ok (.ifCond .ne 7, 3) := by decide +kernel
theorem dX12_fitting_99 : decode cX12_fitting 99 = .ok (.iload_n 3, 1) := by decide +kernel
theorem dX12_fitting_100 : decode cX12_fitting 100 = .ok (.goto 15, 3) := by decide +kernel
theorem dX12_fitting_103 : decode cX12_fitting 103 = .ok (.iload_n 2, 1) := by decide +kernel
theorem dX12_fitting_104 : decode cX12_fitting 104 = .ok (.iconst 1, 1) := by decide +kernel
theorem dX12_fitting_105 : decode cX12_fitting 105 = .ok (.if_icmp .ne 8, 3) := by decide +kernel
theorem dX12_fitting_108 : decode cX12_fitting 108 = .ok (.iload 4, 2) := by decide +kernel
theorem dX12_fitting_110 : decode cX12_fitting 110 = .ok (.goto 5, 3) := by decide +kernel
theorem dX12_fitting_113 : decode cX12_fitting 113 = .ok (.iload 5, 2) := by decide +kernel
theorem dX12_fitting_115 : decode cX12_fitting 115 = .ok (.ireturn, 1) := by decide +kernel
theorem dX12_toldAt_0 : decode cX12_toldAt 0 = .ok (.aload_n 0, 1) := by decide +kernel
theorem dX12_toldAt_1 : decode cX12_toldAt 1 = .ok (.getfield 31, 3) := by decide +kernel
theorem dX12_toldAt_4 : decode cX12_toldAt 4 = .ok (.bipush 100, 2) := by decide +kernel
theorem dX12_toldAt_6 : decode cX12_toldAt 6 = .ok (.iload_n 1, 1) := by decide +kernel
theorem dX12_toldAt_7 : decode cX12_toldAt 7 = .ok (.imul, 1) := by decide +kernel
theorem dX12_toldAt_8 : decode cX12_toldAt 8 = .ok (.iload_n 2, 1) := by decide +kernel
theorem dX12_toldAt_9 : decode cX12_toldAt 9 = .ok (.iadd, 1) := by decide +kernel
theorem dX12_toldAt_10 : decode cX12_toldAt 10 = .ok (.iaload, 1) := by decide +kernel
theorem dX12_toldAt_11 : decode cX12_toldAt 11 = .ok (.ireturn, 1) := by decide +kernel
set_option maxRecDepth 20000 in
theorem ggX12_given_X12_isShelf : GoodIn wsX12_given wsX12_isShelf := goodIn_r _ [6, 7, 8, 9, 5, 10] (by decide +kernel) (by decide +kernel)
set_option maxRecDepth 20000 in
theorem gX12_given_X12_isShelf : GoodIn wsX12_given (va_wsS RX12 154 yX12_isShelf wsX12_isShelf) := goodIn_app (goodIn_of _ (by decide +kernel)) ggX12_given_X12_isShelf
set_option maxRecDepth 20000 in
theorem ggX12_given_X12_isIn : GoodIn wsX12_given wsX12_isIn := goodIn_r _ [10] (by decide +kernel) (by decide +kernel)
set_option maxRecDepth 20000 in
theorem gX12_given_X12_isIn : GoodIn wsX12_given (va_wsS RX12 52 yX12_isIn wsX12_isIn) := goodIn_app (goodIn_of _ (by decide +kernel)) ggX12_given_X12_isIn
set_option maxRecDepth 20000 in
theorem ggX12_given_X12_wrongRow : GoodIn wsX12_given wsX12_wrongRow := goodIn_r _ [14, 15, 16, 3, 4, 5, 6, 7, 8, 9, 10, 106, 107, 108, 109, 110, 111, 112, 113, 114, 115, 116, 117, 118, 119, 120, 121, 122, 123, 124, 125, 126, 127, 128, 129] (by decide +kernel) (by decide +kernel)
set_option maxRecDepth 20000 in
theorem gX12_given_X12_wrongRow : GoodIn wsX12_given (wsV RX12 157 RX12 yX12_wrongRow wsX12_wrongRow) := goodIn_app (goodIn_of _ (by decide +kernel)) ggX12_given_X12_wrongRow
set_option maxRecDepth 20000 in
theorem ggX12_given_X12_toldAt : GoodIn wsX12_given wsX12_toldAt := goodIn_r _ [20, 21, 106, 107, 108, 109, 110, 111, 112, 113, 114, 115, 116, 117, 118, 119, 120, 121, 122, 123, 124, 125, 126, 127, 128, 129] (by decide +kernel) (by decide +kernel)
set_option maxRecDepth 20000 in
theorem gX12_given_X12_toldAt : GoodIn wsX12_given (wsV RX12 228 RX12 yX12_toldAt wsX12_toldAt) := goodIn_app (goodIn_of _ (by decide +kernel)) ggX12_given_X12_toldAt
set_option maxRecDepth 20000 in
theorem ggX12_given_X12_areTwo : GoodIn wsX12_given wsX12_areTwo := goodIn_r _ [25, 26, 27, 28, 5, 29, 30, 8, 9, 10, 106, 107, 108, 109, 110, 111, 112, 113, 114, 115, 116, 117, 118, 119, 120, 121, 122, 123, 124, 125, 126, 127, 128, 129] (by decide +kernel) (by decide +kernel)
set_option maxRecDepth 20000 in
theorem gX12_given_X12_areTwo : GoodIn wsX12_given (wsV RX12 132 RX12 yX12_areTwo wsX12_areTwo) := goodIn_app (goodIn_of _ (by decide +kernel)) ggX12_given_X12_areTwo
set_option maxRecDepth 20000 in
theorem ggX12_given_X12_begins : GoodIn wsX12_given wsX12_begins := goodIn_r _ [34, 30, 35, 36, 37, 5, 38, 106, 107, 108, 109, 110, 111, 112, 113, 114, 115, 116, 117, 118, 119, 120, 121, 122, 123, 124, 125, 126, 127, 128, 129] (by decide +kernel) (by decide +kernel)
set_option maxRecDepth 20000 in
theorem gX12_given_X12_begins : GoodIn wsX12_given (wsV RX12 208 RX12 yX12_begins wsX12_begins) := goodIn_app (goodIn_of _ (by decide +kernel)) ggX12_given_X12_begins
set_option maxRecDepth 20000 in
theorem ggX12_given_X12_givesIf : GoodIn wsX12_given wsX12_givesIf := goodIn_r _ [42, 43, 44, 45, 5, 46, 22, 23, 24, 25, 26, 27, 28, 29, 30, 8, 9, 10, 47, 48, 49, 50, 51, 52, 53, 54, 55, 56, 57, 58, 59, 60, 61, 62, 106, 107, 108, 109, 110, 111, 112, 113, 114, 115, 116, 117, 118, 119, 120, 121, 122, 123, 124, 125, 126, 127, 128, 129] (by decide +kernel) (by decide +kernel)
set_option maxRecDepth 20000 in
theorem gX12_given_X12_givesIf : GoodIn wsX12_given (wsV RX12 147 RX12 yX12_givesIf wsX12_givesIf) := goodIn_app (goodIn_of _ (by decide +kernel)) ggX12_given_X12_givesIf
set_option maxRecDepth 20000 in
theorem ggX12_given_X12_breachesAll : GoodIn wsX12_given wsX12_breachesAll := goodIn_r _ [66, 30, 67, 68, 69, 5, 70, 47, 48, 49, 50, 51, 52, 53, 54, 71, 72, 73, 74, 75, 76, 77, 78, 26, 27, 28, 29, 8, 9, 10, 79, 80, 81, 82, 83, 84, 85, 86, 87, 88, 89, 90, 91, 92, 93, 94, 95, 96, 97, 98, 99, 100, 101, 106, 107, 108, 109, 110, 111, 112, 113, 114, 115, 116, 117, 118, 119, 120, 121, 122, 123, 124, 125, 126, 127, 128, 129] (by decide +kernel) (by decide +kernel)
set_option maxRecDepth 20000 in
theorem gX12_given_X12_breachesAll : GoodIn wsX12_given (wsV RX12 99 RX12 yX12_breachesAll wsX12_breachesAll) := goodIn_app (goodIn_of _ (by decide +kernel)) ggX12_given_X12_breachesAll
set_option maxRecDepth 20000 in
theorem ggX12_given_X12_ends : GoodIn wsX12_given wsX12_ends := goodIn_r _ [105, 35, 30, 36, 37, 5, 38, 106, 107, 108, 109, 110, 111, 112, 113, 114, 115, 116, 117, 118, 119, 120, 121, 122, 123, 124, 125, 126, 127, 128, 129] (by decide +kernel) (by decide +kernel)
set_option maxRecDepth 20000 in
theorem gX12_given_X12_ends : GoodIn wsX12_given (wsV RX12 211 RX12 yX12_ends wsX12_ends) := goodIn_app (goodIn_of _ (by decide +kernel)) ggX12_given_X12_ends
theorem dX12_given_0 : decode cX12_given 0 = .ok (.iload_n 1, 1) := by decide +kernel
theorem dX12_given_1 : decode cX12_given 1 = .ok (.invokestatic 154, 3) := by decide +kernel
theorem dX12_given_4 : decode cX12_given 4 = .ok (.ifCond .eq 13, 3) := by decide +kernel
theorem dX12_given_7 : decode cX12_given 7 = .ok (.iload_n 2, 1) := by decide +kernel
theorem dX12_given_8 : decode cX12_given 8 = .ok (.i2l, 1) := by decide +kernel
theorem dX12_given_9 : decode cX12_given 9 = .ok (.lconst 0, 1) := by decide +kernel
theorem dX12_given_10 : decode cX12_given 10 = .ok (.lconst 1, 1) := by decide +kernel
theorem dX12_given_11 : decode cX12_given 11 = .ok (.invokestatic 52, 3) := by decide +kernel
theorem dX12_given_14 : decode cX12_given 14 = .ok (.ifCond .ne 7, 3) := by decide +kernel
theorem dX12_given_17 : decode cX12_given 17 = .ok (.iconst (-1), 1) := by decide +kernel
theorem dX12_given_18 : decode cX12_given 18 = .ok (.goto 9, 3) := by decide +kernel
theorem dX12_given_21 : decode cX12_given 21 = .ok (.aload_n 0, 1) := by decide +kernel
theorem dX12_given_22 : decode cX12_given 22 = .ok (.iload_n 1, 1) := by decide +kernel
theorem dX12_given_23 : decode cX12_given 23 = .ok (.iconst 1, 1) := by decide +kernel
theorem dX12_given_24 : decode cX12_given 24 = .ok (.invokevirtual 157, 3) := by decide +kernel
theorem dX12_given_27 : decode cX12_given 27 = .ok (.istore_n 3, 1) := by decide +kernel
theorem dX12_given_28 : decode cX12_given 28 = .ok (.iload_n 3, 1) := by decide +kernel
theorem dX12_given_29 : decode cX12_given 29 = .ok (.ifCond .ne 28, 3) := by decide +kernel
theorem dX12_given_32 : decode cX12_given 32 = .ok (.aload_n 0, 1) := by decide +kernel
theorem dX12_given_33 : decode cX12_given 33 = .ok (.getfield 28, 3) := by decide +kernel
theorem dX12_given_36 : decode cX12_given 36 = .ok (.iload_n 1, 1) := by decide +kernel
theorem dX12_given_37 : decode cX12_given 37 = .ok (.iaload, 1) := by decide +kernel
theorem dX12_given_38 : decode cX12_given 38 = .ok (.iconst 3, 1) := by decide +kernel
theorem dX12_given_39 : decode cX12_given 39 = .ok (.irem, 1) := by decide +kernel
theorem dX12_given_40 : decode cX12_given 40 = .ok (.ifCond .ne 14, 3) := by decide +kernel
theorem dX12_given_43 : decode cX12_given 43 = .ok (.aload_n 0, 1) := by decide +kernel
theorem dX12_given_44 : decode cX12_given 44 = .ok (.getfield 28, 3) := by decide +kernel
theorem dX12_given_47 : decode cX12_given 47 = .ok (.iload_n 1, 1) := by decide +kernel
theorem dX12_given_48 : decode cX12_given 48 = .ok (.iaload, 1) := by decide +kernel
theorem dX12_given_49 : decode cX12_given 49 = .ok (.bipush 24, 2) := by decide +kernel
theorem dX12_given_51 : decode cX12_given 51 = .ok (.if_icmp .le 6, 3) := by decide +kernel
theorem dX12_given_54 : decode cX12_given 54 = .ok (.bipush (-13), 2) := by decide +kernel
theorem dX12_given_56 : decode cX12_given 56 = .ok (.istore_n 3, 1) := by decide +kernel
theorem dX12_given_57 : decode cX12_given 57 = .ok (.iconst 0, 1) := by decide +kernel
theorem dX12_given_58 : decode cX12_given 58 = .ok (.istore 4, 2) := by decide +kernel
theorem dX12_given_60 : decode cX12_given 60 = .ok (.iload_n 3, 1) := by decide +kernel
theorem dX12_given_61 : decode cX12_given 61 = .ok (.ifCond .ne 70, 3) := by decide +kernel
theorem dX12_given_64 : decode cX12_given 64 = .ok (.iload 4, 2) := by decide +kernel
theorem dX12_given_66 : decode cX12_given 66 = .ok (.aload_n 0, 1) := by decide +kernel
theorem dX12_given_67 : decode cX12_given 67 = .ok (.getfield 28, 3) := by decide +kernel
theorem dX12_given_70 : decode cX12_given 70 = .ok (.iload_n 1, 1) := by decide +kernel
theorem dX12_given_71 : decode cX12_given 71 = .ok (.iaload, 1) := by decide +kernel
theorem dX12_given_72 : decode cX12_given 72 = .ok (.if_icmp .ge 59, 3) := by decide +kernel
theorem dX12_given_75 : decode cX12_given 75 = .ok (.aload_n 0, 1) := by decide +kernel
theorem dX12_given_76 : decode cX12_given 76 = .ok (.aload_n 0, 1) := by decide +kernel
theorem dX12_given_77 : decode cX12_given 77 = .ok (.iload_n 1, 1) := by decide +kernel
theorem dX12_given_78 : decode cX12_given 78 = .ok (.iload 4, 2) := by decide +kernel
theorem dX12_given_80 : decode cX12_given 80 = .ok (.invokevirtual 228, 3) := by decide +kernel
theorem dX12_given_83 : decode cX12_given 83 = .ok (.aload_n 0, 1) := by decide +kernel
theorem dX12_given_84 : decode cX12_given 84 = .ok (.iload_n 1, 1) := by decide +kernel
theorem dX12_given_85 : decode cX12_given 85 = .ok (.iload 4, 2) := by decide +kernel
theorem dX12_given_87 : decode cX12_given 87 = .ok (.iconst 1, 1) := by decide +kernel
theorem dX12_given_88 : decode cX12_given 88 = .ok (.iadd, 1) := by decide +kernel
theorem dX12_given_89 : decode cX12_given 89 = .ok (.invokevirtual 228, 3) := by decide +kernel
theorem dX12_given_92 : decode cX12_given 92 = .ok (.invokevirtual 132, 3) := by decide +kernel
theorem dX12_given_95 : decode cX12_given 95 = .ok (.ifCond .eq 27, 3) := by decide +kernel
theorem dX12_given_98 : decode cX12_given 98 = .ok (.aload_n 0, 1) := by decide +kernel
theorem dX12_given_99 : decode cX12_given 99 = .ok (.iload_n 1, 1) := by decide +kernel
theorem dX12_given_100 : decode cX12_given 100 = .ok (.iload 4, 2) := by decide +kernel
theorem dX12_given_102 : decode cX12_given 102 = .ok (.iconst 2, 1) := by decide +kernel
theorem dX12_given_103 : decode cX12_given 103 = .ok (.iadd, 1) := by decide +kernel
theorem dX12_given_104 : decode cX12_given 104 = .ok (.invokevirtual 228, 3) := by decide +kernel
theorem dX12_given_107 : decode cX12_given 107 = .ok (.i2l, 1) := by decide +kernel
theorem dX12_given_108 : decode cX12_given 108 = .ok (.lconst 1, 1) := by decide +kernel
theorem dX12_given_109 : decode cX12_given 109 = .ok (.ldc2_w 173, 3) := by decide +kernel
theorem dX12_given_112 : decode cX12_given 112 = .ok (.invokestatic 52, 3) := by decide +kernel
theorem dX12_given_115 : decode cX12_given 115 = .ok (.ifCond .eq 7, 3) := by decide +kernel
theorem dX12_given_118 : decode cX12_given 118 = .ok (.iconst 0, 1) := by decide +kernel
theorem dX12_given_119 : decode cX12_given 119 = .ok (.goto 5, 3) := by decide +kernel
theorem dX12_given_122 : decode cX12_given 122 = .ok (.bipush (-13), 2) := by decide +kernel
theorem dX12_given_124 : decode cX12_given 124 = .ok (.istore_n 3, 1) := by decide +kernel
theorem dX12_given_125 : decode cX12_given 125 = .ok (.iinc 4 3, 3) := by decide +kernel
theorem dX12_given_128 : decode cX12_given 128 = .ok (.goto (-68), 3) := by decide +kernel
theorem dX12_given_131 : decode cX12_given 131 = .ok (.iload_n 3, 1) := by decide +kernel
theorem dX12_given_132 : decode cX12_given 132 = .ok (.ifCond .eq 5, 3) := by decide +kernel
theorem dX12_given_135 : decode cX12_given 135 = .ok (.iload_n 3, 1) := by decide +kernel
theorem dX12_given_136 : decode cX12_given 136 = .ok (.ireturn, 1) := by decide +kernel
theorem dX12_given_137 : decode cX12_given 137 = .ok (.aload_n 0, 1) := by decide +kernel
theorem dX12_given_138 : decode cX12_given 138 = .ok (.invokevirtual 208, 3) := by decide +kernel
theorem dX12_given_141 : decode cX12_given 141 = .ok (.iconst 0, 1) := by decide +kernel
theorem dX12_given_142 : decode cX12_given 142 = .ok (.istore 4, 2) := by decide +kernel
theorem dX12_given_144 : decode cX12_given 144 = .ok (.iconst 0, 1) := by decide +kernel
theorem dX12_given_145 : decode cX12_given 145 = .ok (.istore 5, 2) := by decide +kernel
theorem dX12_given_147 : decode cX12_given 147 = .ok (.iload 5, 2) := by decide +kernel
theorem dX12_given_149 : decode cX12_given 149 = .ok (.aload_n 0, 1) := by decide +kernel
theorem dX12_given_150 : decode cX12_given 150 = .ok (.getfield 28, 3) := by decide +kernel
theorem dX12_given_153 : decode cX12_given 153 = .ok (.iload_n 1, 1) := by decide +kernel
theorem dX12_given_154 : decode cX12_given 154 = .ok (.iaload, 1) := by decide +kernel
theorem dX12_given_155 : decode cX12_given 155 = .ok (.if_icmp .ge 51, 3) := by decide +kernel
theorem dX12_given_158 : decode cX12_given 158 = .ok (.iload 4, 2) := by decide +kernel
theorem dX12_given_160 : decode cX12_given 160 = .ok (.aload_n 0, 1) := by decide +kernel
theorem dX12_given_161 : decode cX12_given 161 = .ok (.aload_n 0, 1) := by decide +kernel
theorem dX12_given_162 : decode cX12_given 162 = .ok (.iload_n 1, 1) := by decide +kernel
theorem dX12_given_163 : decode cX12_given 163 = .ok (.iload 5, 2) := by decide +kernel
theorem dX12_given_165 : decode cX12_given 165 = .ok (.invokevirtual 228, 3) := by decide +kernel
theorem dX12_given_168 : decode cX12_given 168 = .ok (.aload_n 0, 1) := by decide +kernel
theorem dX12_given_169 : decode cX12_given 169 = .ok (.iload_n 1, 1) := by decide +kernel
theorem dX12_given_170 : decode cX12_given 170 = .ok (.iload 5, 2) := by decide +kernel
theorem dX12_given_172 : decode cX12_given 172 = .ok (.iconst 1, 1) := by decide +kernel
theorem dX12_given_173 : decode cX12_given 173 = .ok (.iadd, 1) := by decide +kernel
theorem dX12_given_174 : decode cX12_given 174 = .ok (.invokevirtual 228, 3) := by decide +kernel
theorem dX12_given_177 : decode cX12_given 177 = .ok (.aload_n 0, 1) := by decide +kernel
theorem dX12_given_178 : decode cX12_given 178 = .ok (.iload_n 1, 1) := by decide +kernel
theorem dX12_given_179 : decode cX12_given 179 = .ok (.iload 5, 2) := by decide +kernel
theorem dX12_given_181 : decode cX12_given 181 = .ok (.iconst 2, 1) := by decide +kernel
theorem dX12_given_182 : decode cX12_given 182 = .ok (.iadd, 1) := by decide +kernel
theorem dX12_given_183 : decode cX12_given 183 = .ok (.invokevirtual 228, 3) := by decide +kernel
theorem dX12_given_186 : decode cX12_given 186 = .ok (.invokevirtual 147, 3) := by decide +kernel
theorem dX12_given_189 : decode cX12_given 189 = .ok (.ifCond .eq 7, 3) := by decide +kernel
theorem dX12_given_192 : decode cX12_given 192 = .ok (.iconst 1, 1) := by decide +kernel
theorem dX12_given_193 : decode cX12_given 193 = .ok (.goto 4, 3) := by decide +kernel
theorem dX12_given_196 : decode cX12_given 196 = .ok (.iconst 0, 1) := by decide +kernel
theorem dX12_given_197 : decode cX12_given 197 = .ok (.iadd, 1) := by decide +kernel
theorem dX12_given_198 : decode cX12_given 198 = .ok (.istore 4, 2) := by decide +kernel
theorem dX12_given_200 : decode cX12_given 200 = .ok (.iinc 5 3, 3) := by decide +kernel
theorem dX12_given_203 : decode cX12_given 203 = .ok (.goto (-56), 3) := by decide +kernel
theorem dX12_given_206 : decode cX12_given 206 = .ok (.aload_n 0, 1) := by decide +kernel
theorem dX12_given_207 : decode cX12_given 207 = .ok (.invokevirtual 99, 3) := by decide +kernel
theorem dX12_given_210 : decode cX12_given 210 = .ok (.istore 5, 2) := by decide +kernel
theorem dX12_given_212 : decode cX12_given 212 = .ok (.aload_n 0, 1) := by decide +kernel
theorem dX12_given_213 : decode cX12_given 213 = .ok (.invokevirtual 211, 3) := by decide +kernel
theorem dX12_given_216 : decode cX12_given 216 = .ok (.iload_n 2, 1) := by decide +kernel
theorem dX12_given_217 : decode cX12_given 217 = .ok (.ifCond .ne 8, 3) := by decide +kernel
theorem dX12_given_220 : decode cX12_given 220 = .ok (.iload 5, 2) := by decide +kernel
theorem dX12_given_222 : decode cX12_given 222 = .ok (.goto 5, 3) := by decide +kernel
theorem dX12_given_225 : decode cX12_given 225 = .ok (.iload 4, 2) := by decide +kernel
theorem dX12_given_227 : decode cX12_given 227 = .ok (.ireturn, 1) := by decide +kernel
set_option maxRecDepth 20000 in
theorem ggX12_tax_X12_isIn : GoodIn wsX12_tax wsX12_isIn := goodIn_r _ [6] (by decide +kernel) (by decide +kernel)
set_option maxRecDepth 20000 in
theorem gX12_tax_X12_isIn : GoodIn wsX12_tax (va_wsS RX12 52 yX12_isIn wsX12_isIn) := goodIn_app (goodIn_of _ (by decide +kernel)) ggX12_tax_X12_isIn
set_option maxRecDepth 20000 in
theorem ggX12_tax_X12_purse : GoodIn wsX12_tax wsX12_purse := goodIn_r _ [10, 11, 12, 13, 5, 14, 2, 15, 16, 17, 18, 19, 20, 21, 22, 23, 24, 25, 26, 27, 28, 29, 30, 31, 32, 33, 34, 35, 36, 37, 38] (by decide +kernel) (by decide +kernel)
set_option maxRecDepth 20000 in
theorem gX12_tax_X12_purse : GoodIn wsX12_tax (wsV RX12 68 RX12 yX12_purse wsX12_purse) := goodIn_app (goodIn_of _ (by decide +kernel)) ggX12_tax_X12_purse
theorem dX12_tax_0 : decode cX12_tax 0 = .ok (.iload_n 1, 1) := by decide +kernel
theorem dX12_tax_1 : decode cX12_tax 1 = .ok (.i2l, 1) := by decide +kernel
theorem dX12_tax_2 : decode cX12_tax 2 = .ok (.lconst 0, 1) := by decide +kernel
theorem dX12_tax_3 : decode cX12_tax 3 = .ok (.ldc2_w 173, 3) := by decide +kernel
theorem dX12_tax_6 : decode cX12_tax 6 = .ok (.invokestatic 52, 3) := by decide +kernel
theorem dX12_tax_9 : decode cX12_tax 9 = .ok (.ifCond .ne 5, 3) := by decide +kernel
theorem dX12_tax_12 : decode cX12_tax 12 = .ok (.iconst (-1), 1) := by decide +kernel
theorem dX12_tax_13 : decode cX12_tax 13 = .ok (.ireturn, 1) := by decide +kernel
theorem dX12_tax_14 : decode cX12_tax 14 = .ok (.iconst 0, 1) := by decide +kernel
theorem dX12_tax_15 : decode cX12_tax 15 = .ok (.istore_n 2, 1) := by decide +kernel
theorem dX12_tax_16 : decode cX12_tax 16 = .ok (.iconst 0, 1) := by decide +kernel
theorem dX12_tax_17 : decode cX12_tax 17 = .ok (.istore_n 3, 1) := by decide +kernel
theorem dX12_tax_18 : decode cX12_tax 18 = .ok (.iload_n 3, 1) := by decide +kernel
theorem dX12_tax_19 : decode cX12_tax 19 = .ok (.aload_n 0, 1) := by decide +kernel
theorem dX12_tax_20 : decode cX12_tax 20 = .ok (.getfield 9, 3) := by decide +kernel
theorem dX12_tax_23 : decode cX12_tax 23 = .ok (.iconst 0, 1) := by decide +kernel
theorem dX12_tax_24 : decode cX12_tax 24 = .ok (.iaload, 1) := by decide +kernel
theorem dX12_tax_25 : decode cX12_tax 25 = .ok (.if_icmp .ge 30, 3) := by decide +kernel
theorem dX12_tax_28 : decode cX12_tax 28 = .ok (.iload_n 2, 1) := by decide +kernel
theorem dX12_tax_29 : decode cX12_tax 29 = .ok (.aload_n 0, 1) := by decide +kernel
theorem dX12_tax_30 : decode cX12_tax 30 = .ok (.iload_n 3, 1) := by decide +kernel
theorem dX12_tax_31 : decode cX12_tax 31 = .ok (.invokevirtual 68, 3) := by decide +kernel
theorem dX12_tax_34 : decode cX12_tax 34 = .ok (.iload_n 1, 1) := by decide +kernel
theorem dX12_tax_35 : decode cX12_tax 35 = .ok (.if_icmp .ge 11, 3) := by decide +kernel
theorem dX12_tax_38 : decode cX12_tax 38 = .ok (.aload_n 0, 1) := by decide +kernel
theorem dX12_tax_39 : decode cX12_tax 39 = .ok (.iload_n 3, 1) := by decide +kernel
theorem dX12_tax_40 : decode cX12_tax 40 = .ok (.invokevirtual 68, 3) := by decide +kernel
theorem dX12_tax_43 : decode cX12_tax 43 = .ok (.goto 4, 3) := by decide +kernel
theorem dX12_tax_46 : decode cX12_tax 46 = .ok (.iload_n 1, 1) := by decide +kernel
theorem dX12_tax_47 : decode cX12_tax 47 = .ok (.iadd, 1) := by decide +kernel
theorem dX12_tax_48 : decode cX12_tax 48 = .ok (.istore_n 2, 1) := by decide +kernel
theorem dX12_tax_49 : decode cX12_tax 49 = .ok (.iinc 3 1, 3) := by decide +kernel
theorem dX12_tax_52 : decode cX12_tax 52 = .ok (.goto (-34), 3) := by decide +kernel
theorem dX12_tax_55 : decode cX12_tax 55 = .ok (.iload_n 2, 1) := by decide +kernel
theorem dX12_tax_56 : decode cX12_tax 56 = .ok (.ireturn, 1) := by decide +kernel
theorem dX12_drawn_0 : decode cX12_drawn 0 = .ok (.aload_n 0, 1) := by decide +kernel
theorem dX12_drawn_1 : decode cX12_drawn 1 = .ok (.aload_n 0, 1) := by decide +kernel
theorem dX12_drawn_2 : decode cX12_drawn 2 = .ok (.getfield 231, 3) := by decide +kernel
theorem dX12_drawn_5 : decode cX12_drawn 5 = .ok (.ldc 234, 2) := by decide +kernel
theorem dX12_drawn_7 : decode cX12_drawn 7 = .ok (.imul, 1) := by decide +kernel
theorem dX12_drawn_8 : decode cX12_drawn 8 = .ok (.sipush 12345, 3) := by decide +kernel
theorem dX12_drawn_11 : decode cX12_drawn 11 = .ok (.iadd, 1) := by decide +kernel
theorem dX12_drawn_12 : decode cX12_drawn 12 = .ok (.putfield 231, 3) := by decide +kernel
theorem dX12_drawn_15 : decode cX12_drawn 15 = .ok (.aload_n 0, 1) := by decide +kernel
theorem dX12_drawn_16 : decode cX12_drawn 16 = .ok (.getfield 231, 3) := by decide +kernel
theorem dX12_drawn_19 : decode cX12_drawn 19 = .ok (.ldc 235, 2) := by decide +kernel
theorem dX12_drawn_21 : decode cX12_drawn 21 = .ok (.iand, 1) := by decide +kernel
theorem dX12_drawn_22 : decode cX12_drawn 22 = .ok (.ldc 236, 2) := by decide +kernel
theorem dX12_drawn_24 : decode cX12_drawn 24 = .ok (.idiv, 1) := by decide +kernel
theorem dX12_drawn_25 : decode cX12_drawn 25 = .ok (.iload_n 1, 1) := by decide +kernel
theorem dX12_drawn_26 : decode cX12_drawn 26 = .ok (.irem, 1) := by decide +kernel
theorem dX12_drawn_27 : decode cX12_drawn 27 = .ok (.ireturn, 1) := by decide +kernel
set_option maxRecDepth 20000 in
theorem ggX12_seeded_X12_isIn : GoodIn wsX12_seeded wsX12_isIn := goodIn_r _ [7] (by decide +kernel) (by decide +kernel)
set_option maxRecDepth 20000 in
theorem gX12_seeded_X12_isIn : GoodIn wsX12_seeded (va_wsS RX12 52 yX12_isIn wsX12_isIn) := goodIn_app (goodIn_of _ (by decide +kernel)) ggX12_seeded_X12_isIn
set_option maxRecDepth 20000 in
theorem ggX12_seeded_X12_begins : GoodIn wsX12_seeded wsX12_begins := goodIn_r _ [11, 2, 12, 13, 14, 6, 15, 102, 103, 104, 105, 106, 107, 108, 109, 110, 111, 112, 113, 114, 115, 116, 117, 118, 119, 120, 121, 122, 123, 124, 125] (by decide +kernel) (by decide +kernel)
set_option maxRecDepth 20000 in
theorem gX12_seeded_X12_begins : GoodIn wsX12_seeded (wsV RX12 208 RX12 yX12_begins wsX12_begins) := goodIn_app (goodIn_of _ (by decide +kernel)) ggX12_seeded_X12_begins
set_option maxRecDepth 20000 in
theorem ggX12_seeded_X12_drawn : GoodIn wsX12_seeded wsX12_drawn := goodIn_r _ [19, 3, 20, 21, 22, 102, 103, 104, 105, 106, 107, 108, 109, 110, 111, 112, 113, 114, 115, 116, 117, 118, 119, 120, 121, 122, 123, 124, 125] (by decide +kernel) (by decide +kernel)
set_option maxRecDepth 20000 in
theorem gX12_seeded_X12_drawn : GoodIn wsX12_seeded (wsV RX12 239 RX12 yX12_drawn wsX12_drawn) := goodIn_app (goodIn_of _ (by decide +kernel)) ggX12_seeded_X12_drawn
set_option maxRecDepth 20000 in
theorem ggX12_seeded_X12_beside : GoodIn wsX12_seeded wsX12_beside := goodIn_r _ [26, 2, 27, 28, 29, 6, 30, 4, 5, 7, 102, 103, 104, 105, 106, 107, 108, 109, 110, 111, 112, 113, 114, 115, 116, 117, 118, 119, 120, 121, 122, 123, 124, 125] (by decide +kernel) (by decide +kernel)
set_option maxRecDepth 20000 in
theorem gX12_seeded_X12_beside : GoodIn wsX12_seeded (wsV RX12 78 RX12 yX12_beside wsX12_beside) := goodIn_app (goodIn_of _ (by decide +kernel)) ggX12_seeded_X12_beside
set_option maxRecDepth 20000 in
theorem ggX12_seeded_X12_givesIf : GoodIn wsX12_seeded wsX12_givesIf := goodIn_r _ [34, 35, 36, 37, 6, 38, 39, 40, 41, 42, 27, 28, 29, 30, 2, 4, 5, 7, 43, 44, 45, 46, 47, 48, 49, 50, 51, 52, 53, 54, 55, 56, 57, 58, 102, 103, 104, 105, 106, 107, 108, 109, 110, 111, 112, 113, 114, 115, 116, 117, 118, 119, 120, 121, 122, 123, 124, 125] (by decide +kernel) (by decide +kernel)
set_option maxRecDepth 20000 in
theorem gX12_seeded_X12_givesIf : GoodIn wsX12_seeded (wsV RX12 147 RX12 yX12_givesIf wsX12_givesIf) := goodIn_app (goodIn_of _ (by decide +kernel)) ggX12_seeded_X12_givesIf
set_option maxRecDepth 20000 in
theorem ggX12_seeded_X12_isLawful : GoodIn wsX12_seeded wsX12_isLawful := goodIn_r _ [62, 63, 64, 65, 6, 66, 2, 67, 68, 69, 70, 43, 44, 45, 46, 47, 48, 49, 50, 71, 72, 73, 74, 23, 24, 25, 26, 27, 28, 29, 30, 4, 5, 7, 75, 76, 77, 78, 79, 80, 81, 82, 83, 84, 85, 86, 87, 88, 89, 90, 91, 92, 93, 94, 95, 96, 97, 102, 103, 104, 105, 106, 107, 108, 109, 110, 111, 112, 113, 114, 115, 116, 117, 118, 119, 120, 121, 122, 123, 124, 125] (by decide +kernel) (by decide +kernel)
set_option maxRecDepth 20000 in
theorem gX12_seeded_X12_isLawful : GoodIn wsX12_seeded (wsV RX12 183 RX12 yX12_isLawful wsX12_isLawful) := goodIn_app (goodIn_of _ (by decide +kernel)) ggX12_seeded_X12_isLawful
set_option maxRecDepth 20000 in
theorem ggX12_seeded_X12_ends : GoodIn wsX12_seeded wsX12_ends := goodIn_r _ [101, 12, 2, 13, 14, 6, 15, 102, 103, 104, 105, 106, 107, 108, 109, 110, 111, 112, 113, 114, 115, 116, 117, 118, 119, 120, 121, 122, 123, 124, 125] (by decide +kernel) (by decide +kernel)
set_option maxRecDepth 20000 in
theorem gX12_seeded_X12_ends : GoodIn wsX12_seeded (wsV RX12 211 RX12 yX12_ends wsX12_ends) := goodIn_app (goodIn_of _ (by decide +kernel)) ggX12_seeded_X12_ends
theorem dX12_seeded_0 : decode cX12_seeded 0 = .ok (.iload_n 1, 1) := by decide +kernel
theorem dX12_seeded_1 : decode cX12_seeded 1 = .ok (.i2l, 1) := by decide +kernel
theorem dX12_seeded_2 : decode cX12_seeded 2 = .ok (.lconst 1, 1) := by decide +kernel
theorem dX12_seeded_3 : decode cX12_seeded 3 = .ok (.ldc2_w 237, 3) := by decide +kernel
theorem dX12_seeded_6 : decode cX12_seeded 6 = .ok (.invokestatic 52, 3) := by decide +kernel
theorem dX12_seeded_9 : decode cX12_seeded 9 = .ok (.ifCond .ne 5, 3) := by decide +kernel
theorem dX12_seeded_12 : decode cX12_seeded 12 = .ok (.iconst (-1), 1) := by decide +kernel
theorem dX12_seeded_13 : decode cX12_seeded 13 = .ok (.ireturn, 1) := by decide +kernel
theorem dX12_seeded_14 : decode cX12_seeded 14 = .ok (.aload_n 0, 1) := by decide +kernel
theorem dX12_seeded_15 : decode cX12_seeded 15 = .ok (.getfield 9, 3) := by decide +kernel
theorem dX12_seeded_18 : decode cX12_seeded 18 = .ok (.iconst 0, 1) := by decide +kernel
theorem dX12_seeded_19 : decode cX12_seeded 19 = .ok (.iaload, 1) := by decide +kernel
theorem dX12_seeded_20 : decode cX12_seeded 20 = .ok (.ifCond .ne 6, 3) := by decide +kernel
theorem dX12_seeded_23 : decode cX12_seeded 23 = .ok (.bipush (-3), 2) := by decide +kernel
theorem dX12_seeded_25 : decode cX12_seeded 25 = .ok (.ireturn, 1) := by decide +kernel
theorem dX12_seeded_26 : decode cX12_seeded 26 = .ok (.aload_n 0, 1) := by decide +kernel
theorem dX12_seeded_27 : decode cX12_seeded 27 = .ok (.invokevirtual 208, 3) := by decide +kernel
theorem dX12_seeded_30 : decode cX12_seeded 30 = .ok (.aload_n 0, 1) := by decide +kernel
theorem dX12_seeded_31 : decode cX12_seeded 31 = .ok (.iload_n 2, 1) := by decide +kernel
theorem dX12_seeded_32 : decode cX12_seeded 32 = .ok (.putfield 231, 3) := by decide +kernel
theorem dX12_seeded_35 : decode cX12_seeded 35 = .ok (.iconst 0, 1) := by decide +kernel
theorem dX12_seeded_36 : decode cX12_seeded 36 = .ok (.istore_n 3, 1) := by decide +kernel
theorem dX12_seeded_37 : decode cX12_seeded 37 = .ok (.iconst 0, 1) := by decide +kernel
theorem dX12_seeded_38 : decode cX12_seeded 38 = .ok (.istore 4, 2) := by decide +kernel
theorem dX12_seeded_40 : decode cX12_seeded 40 = .ok (.iload 4, 2) := by decide +kernel
theorem dX12_seeded_42 : decode cX12_seeded 42 = .ok (.iload_n 1, 1) := by decide +kernel
theorem dX12_seeded_43 : decode cX12_seeded 43 = .ok (.if_icmp .ge 73, 3) := by decide +kernel
theorem dX12_seeded_46 : decode cX12_seeded 46 = .ok (.aload_n 0, 1) := by decide +kernel
theorem dX12_seeded_47 : decode cX12_seeded 47 = .ok (.aload_n 0, 1) := by decide +kernel
theorem dX12_seeded_48 : decode cX12_seeded 48 = .ok (.getfield 9, 3) := by decide +kernel
theorem dX12_seeded_51 : decode cX12_seeded 51 = .ok (.iconst 0, 1) := by decide +kernel
theorem dX12_seeded_52 : decode cX12_seeded 52 = .ok (.iaload, 1) := by decide +kernel
theorem dX12_seeded_53 : decode cX12_seeded 53 = .ok (.invokevirtual 239, 3) := by decide +kernel
theorem dX12_seeded_56 : decode cX12_seeded 56 = .ok (.istore 5, 2) := by decide +kernel
theorem dX12_seeded_58 : decode cX12_seeded 58 = .ok (.aload_n 0, 1) := by decide +kernel
theorem dX12_seeded_59 : decode cX12_seeded 59 = .ok (.iload 5, 2) := by decide +kernel
theorem dX12_seeded_61 : decode cX12_seeded 61 = .ok (.aload_n 0, 1) := by decide +kernel
theorem dX12_seeded_62 : decode cX12_seeded 62 = .ok (.iconst 2, 1) := by decide +kernel
theorem dX12_seeded_63 : decode cX12_seeded 63 = .ok (.invokevirtual 239, 3) := by decide +kernel
theorem dX12_seeded_66 : decode cX12_seeded 66 = .ok (.invokevirtual 78, 3) := by decide +kernel
theorem dX12_seeded_69 : decode cX12_seeded 69 = .ok (.istore 6, 2) := by decide +kernel
theorem dX12_seeded_71 : decode cX12_seeded 71 = .ok (.iload 6, 2) := by decide +kernel
theorem dX12_seeded_73 : decode cX12_seeded 73 = .ok (.ifCond .lt 19, 3) := by decide +kernel
theorem dX12_seeded_76 : decode cX12_seeded 76 = .ok (.aload_n 0, 1) := by decide +kernel
theorem dX12_seeded_77 : decode cX12_seeded 77 = .ok (.iload 6, 2) := by decide +kernel
theorem dX12_seeded_79 : decode cX12_seeded 79 = .ok (.iload 5, 2) := by decide +kernel
theorem dX12_seeded_81 : decode cX12_seeded 81 = .ok (.iconst 1, 1) := by decide +kernel
theorem dX12_seeded_82 : decode cX12_seeded 82 = .ok (.invokevirtual 147, 3) := by decide +kernel
theorem dX12_seeded_85 : decode cX12_seeded 85 = .ok (.ifCond .eq 7, 3) := by decide +kernel
theorem dX12_seeded_88 : decode cX12_seeded 88 = .ok (.iconst 1, 1) := by decide +kernel
theorem dX12_seeded_89 : decode cX12_seeded 89 = .ok (.goto 4, 3) := by decide +kernel
theorem dX12_seeded_92 : decode cX12_seeded 92 = .ok (.iconst 0, 1) := by decide +kernel
theorem dX12_seeded_93 : decode cX12_seeded 93 = .ok (.istore 7, 2) := by decide +kernel
theorem dX12_seeded_95 : decode cX12_seeded 95 = .ok (.iload_n 3, 1) := by decide +kernel
theorem dX12_seeded_96 : decode cX12_seeded 96 = .ok (.aload_n 0, 1) := by decide +kernel
theorem dX12_seeded_97 : decode cX12_seeded 97 = .ok (.invokevirtual 183, 3) := by decide +kernel
theorem dX12_seeded_100 : decode cX12_seeded 100 = .ok (.ifCond .eq 7, 3) := by decide +kernel
theorem dX12_seeded_103 : decode cX12_seeded 103 = .ok (.iconst 1, 1) := by decide +kernel
theorem dX12_seeded_104 : decode cX12_seeded 104 = .ok (.goto 4, 3) := by decide +kernel
theorem dX12_seeded_107 : decode cX12_seeded 107 = .ok (.iconst 0, 1) := by decide +kernel
theorem dX12_seeded_108 : decode cX12_seeded 108 = .ok (.iadd, 1) := by decide +kernel
theorem dX12_seeded_109 : decode cX12_seeded 109 = .ok (.istore_n 3, 1) := by decide +kernel
theorem dX12_seeded_110 : decode cX12_seeded 110 = .ok (.iinc 4 1, 3) := by decide +kernel
theorem dX12_seeded_113 : decode cX12_seeded 113 = .ok (.goto (-73), 3) := by decide +kernel
theorem dX12_seeded_116 : decode cX12_seeded 116 = .ok (.aload_n 0, 1) := by decide +kernel
theorem dX12_seeded_117 : decode cX12_seeded 117 = .ok (.invokevirtual 211, 3) := by decide +kernel
theorem dX12_seeded_120 : decode cX12_seeded 120 = .ok (.iload_n 3, 1) := by decide +kernel
theorem dX12_seeded_121 : decode cX12_seeded 121 = .ok (.ireturn, 1) := by decide +kernel
set_option maxRecDepth 20000 in
theorem ggX12_judge_X12_wrongRow : GoodIn wsX12_judge wsX12_wrongRow := goodIn_r _ [9, 10, 1, 11, 12, 8, 13, 14, 15, 16, 17, 31, 32, 33, 34, 35, 36, 37, 38, 39, 40, 41, 42, 43, 44, 45, 46, 47, 48, 49, 50, 51, 52, 53, 54] (by decide +kernel) (by decide +kernel)
set_option maxRecDepth 20000 in
theorem gX12_judge_X12_wrongRow : GoodIn wsX12_judge (wsV RX12 157 RX12 yX12_wrongRow wsX12_wrongRow) := goodIn_app (goodIn_of _ (by decide +kernel)) ggX12_judge_X12_wrongRow
set_option maxRecDepth 20000 in
theorem ggX12_judge_X12_toldAt : GoodIn wsX12_judge wsX12_toldAt := goodIn_r _ [21, 22, 31, 32, 33, 34, 35, 36, 37, 38, 39, 40, 41, 42, 43, 44, 45, 46, 47, 48, 49, 50, 51, 52, 53, 54] (by decide +kernel) (by decide +kernel)
set_option maxRecDepth 20000 in
theorem gX12_judge_X12_toldAt : GoodIn wsX12_judge (wsV RX12 228 RX12 yX12_toldAt wsX12_toldAt) := goodIn_app (goodIn_of _ (by decide +kernel)) ggX12_judge_X12_toldAt
set_option maxRecDepth 20000 in
theorem ggX12_judge_X12_purse : GoodIn wsX12_judge wsX12_purse := goodIn_r _ [26, 27, 28, 29, 8, 30, 4, 31, 32, 33, 34, 35, 36, 37, 38, 39, 40, 41, 42, 43, 44, 45, 46, 47, 48, 49, 50, 51, 52, 53, 54] (by decide +kernel) (by decide +kernel)
set_option maxRecDepth 20000 in
theorem gX12_judge_X12_purse : GoodIn wsX12_judge (wsV RX12 68 RX12 yX12_purse wsX12_purse) := goodIn_app (goodIn_of _ (by decide +kernel)) ggX12_judge_X12_purse
theorem dX12_judge_0 : decode cX12_judge 0 = .ok (.aload_n 0, 1) := by decide +kernel
theorem dX12_judge_1 : decode cX12_judge 1 = .ok (.iload_n 1, 1) := by decide +kernel
theorem dX12_judge_2 : decode cX12_judge 2 = .ok (.iconst (-1), 1) := by decide +kernel
theorem dX12_judge_3 : decode cX12_judge 3 = .ok (.invokevirtual 157, 3) := by decide +kernel
theorem dX12_judge_6 : decode cX12_judge 6 = .ok (.istore_n 2, 1) := by decide +kernel
theorem dX12_judge_7 : decode cX12_judge 7 = .ok (.iload_n 2, 1) := by decide +kernel
theorem dX12_judge_8 : decode cX12_judge 8 = .ok (.ifCond .eq 5, 3) := by decide +kernel
theorem dX12_judge_11 : decode cX12_judge 11 = .ok (.iload_n 2, 1) := by decide +kernel
theorem dX12_judge_12 : decode cX12_judge 12 = .ok (.ireturn, 1) := by decide +kernel
theorem dX12_judge_13 : decode cX12_judge 13 = .ok (.aload_n 0, 1) := by decide +kernel
theorem dX12_judge_14 : decode cX12_judge 14 = .ok (.getfield 25, 3) := by decide +kernel
theorem dX12_judge_17 : decode cX12_judge 17 = .ok (.iload_n 1, 1) := by decide +kernel
theorem dX12_judge_18 : decode cX12_judge 18 = .ok (.iaload, 1) := by decide +kernel
theorem dX12_judge_19 : decode cX12_judge 19 = .ok (.ifCond .ne 8, 3) := by decide +kernel
theorem dX12_judge_22 : decode cX12_judge 22 = .ok (.bipush (-128), 2) := by decide +kernel
theorem dX12_judge_24 : decode cX12_judge 24 = .ok (.goto 21, 3) := by decide +kernel
theorem dX12_judge_27 : decode cX12_judge 27 = .ok (.aload_n 0, 1) := by decide +kernel
theorem dX12_judge_28 : decode cX12_judge 28 = .ok (.getfield 25, 3) := by decide +kernel
theorem dX12_judge_31 : decode cX12_judge 31 = .ok (.iload_n 1, 1) := by decide +kernel
theorem dX12_judge_32 : decode cX12_judge 32 = .ok (.iaload, 1) := by decide +kernel
theorem dX12_judge_33 : decode cX12_judge 33 = .ok (.iconst 1, 1) := by decide +kernel
theorem dX12_judge_34 : decode cX12_judge 34 = .ok (.if_icmp .ne 9, 3) := by decide +kernel
theorem dX12_judge_37 : decode cX12_judge 37 = .ok (.sipush (-32768), 3) := by decide +kernel
theorem dX12_judge_40 : decode cX12_judge 40 = .ok (.goto 5, 3) := by decide +kernel
theorem dX12_judge_43 : decode cX12_judge 43 = .ok (.ldc 242, 2) := by decide +kernel
theorem dX12_judge_45 : decode cX12_judge 45 = .ok (.istore_n 3, 1) := by decide +kernel
theorem dX12_judge_46 : decode cX12_judge 46 = .ok (.iconst 0, 1) := by decide +kernel
theorem dX12_judge_47 : decode cX12_judge 47 = .ok (.istore 4, 2) := by decide +kernel
theorem dX12_judge_49 : decode cX12_judge 49 = .ok (.iload 4, 2) := by decide +kernel
theorem dX12_judge_51 : decode cX12_judge 51 = .ok (.aload_n 0, 1) := by decide +kernel
theorem dX12_judge_52 : decode cX12_judge 52 = .ok (.getfield 28, 3) := by decide +kernel
theorem dX12_judge_55 : decode cX12_judge 55 = .ok (.iload_n 1, 1) := by decide +kernel
theorem dX12_judge_56 : decode cX12_judge 56 = .ok (.iaload, 1) := by decide +kernel
theorem dX12_judge_57 : decode cX12_judge 57 = .ok (.if_icmp .ge 50, 3) := by decide +kernel
theorem dX12_judge_60 : decode cX12_judge 60 = .ok (.iload 4, 2) := by decide +kernel
theorem dX12_judge_62 : decode cX12_judge 62 = .ok (.aload_n 0, 1) := by decide +kernel
theorem dX12_judge_63 : decode cX12_judge 63 = .ok (.getfield 9, 3) := by decide +kernel
theorem dX12_judge_66 : decode cX12_judge 66 = .ok (.iconst 0, 1) := by decide +kernel
theorem dX12_judge_67 : decode cX12_judge 67 = .ok (.iaload, 1) := by decide +kernel
theorem dX12_judge_68 : decode cX12_judge 68 = .ok (.if_icmp .eq 30, 3) := by decide +kernel
theorem dX12_judge_71 : decode cX12_judge 71 = .ok (.aload_n 0, 1) := by decide +kernel
theorem dX12_judge_72 : decode cX12_judge 72 = .ok (.iload_n 1, 1) := by decide +kernel
theorem dX12_judge_73 : decode cX12_judge 73 = .ok (.iload 4, 2) := by decide +kernel
theorem dX12_judge_75 : decode cX12_judge 75 = .ok (.invokevirtual 228, 3) := by decide +kernel
theorem dX12_judge_78 : decode cX12_judge 78 = .ok (.iload_n 3, 1) := by decide +kernel
theorem dX12_judge_79 : decode cX12_judge 79 = .ok (.if_icmp .eq 22, 3) := by decide +kernel
theorem dX12_judge_82 : decode cX12_judge 82 = .ok (.aload_n 0, 1) := by decide +kernel
theorem dX12_judge_83 : decode cX12_judge 83 = .ok (.iload_n 1, 1) := by decide +kernel
theorem dX12_judge_84 : decode cX12_judge 84 = .ok (.iload 4, 2) := by decide +kernel
theorem dX12_judge_86 : decode cX12_judge 86 = .ok (.invokevirtual 228, 3) := by decide +kernel
theorem dX12_judge_89 : decode cX12_judge 89 = .ok (.aload_n 0, 1) := by decide +kernel
theorem dX12_judge_90 : decode cX12_judge 90 = .ok (.iload 4, 2) := by decide +kernel
theorem dX12_judge_92 : decode cX12_judge 92 = .ok (.invokevirtual 68, 3) := by decide +kernel
theorem dX12_judge_95 : decode cX12_judge 95 = .ok (.if_icmp .eq 6, 3) := by decide +kernel
theorem dX12_judge_98 : decode cX12_judge 98 = .ok (.iload 4, 2) := by decide +kernel
theorem dX12_judge_100 : decode cX12_judge 100 = .ok (.ireturn, 1) := by decide +kernel
theorem dX12_judge_101 : decode cX12_judge 101 = .ok (.iinc 4 1, 3) := by decide +kernel
theorem dX12_judge_104 : decode cX12_judge 104 = .ok (.goto (-55), 3) := by decide +kernel
theorem dX12_judge_107 : decode cX12_judge 107 = .ok (.aload_n 0, 1) := by decide +kernel
theorem dX12_judge_108 : decode cX12_judge 108 = .ok (.getfield 28, 3) := by decide +kernel
theorem dX12_judge_111 : decode cX12_judge 111 = .ok (.iload_n 1, 1) := by decide +kernel
theorem dX12_judge_112 : decode cX12_judge 112 = .ok (.iaload, 1) := by decide +kernel
theorem dX12_judge_113 : decode cX12_judge 113 = .ok (.aload_n 0, 1) := by decide +kernel
theorem dX12_judge_114 : decode cX12_judge 114 = .ok (.getfield 9, 3) := by decide +kernel
theorem dX12_judge_117 : decode cX12_judge 117 = .ok (.iconst 0, 1) := by decide +kernel
theorem dX12_judge_118 : decode cX12_judge 118 = .ok (.iaload, 1) := by decide +kernel
theorem dX12_judge_119 : decode cX12_judge 119 = .ok (.if_icmp .ge 12, 3) := by decide +kernel
theorem dX12_judge_122 : decode cX12_judge 122 = .ok (.aload_n 0, 1) := by decide +kernel
theorem dX12_judge_123 : decode cX12_judge 123 = .ok (.getfield 28, 3) := by decide +kernel
theorem dX12_judge_126 : decode cX12_judge 126 = .ok (.iload_n 1, 1) := by decide +kernel
theorem dX12_judge_127 : decode cX12_judge 127 = .ok (.iaload, 1) := by decide +kernel
theorem dX12_judge_128 : decode cX12_judge 128 = .ok (.goto 5, 3) := by decide +kernel
theorem dX12_judge_131 : decode cX12_judge 131 = .ok (.bipush (-4), 2) := by decide +kernel
theorem dX12_judge_133 : decode cX12_judge 133 = .ok (.ireturn, 1) := by decide +kernel
set_option maxRecDepth 20000 in
theorem ggX12_image_X12_lays : GoodIn wsX12_image wsX12_lays := goodIn_r _ [7] (by decide +kernel) (by decide +kernel)
set_option maxRecDepth 20000 in
theorem gX12_image_X12_lays : GoodIn wsX12_image (va_wsS RX12 60 yX12_lays wsX12_lays) := goodIn_app (goodIn_of _ (by decide +kernel)) ggX12_image_X12_lays
set_option maxRecDepth 20000 in
theorem ggX12_image_X12_coins : GoodIn wsX12_image wsX12_coins := goodIn_r _ [11, 1, 12, 13, 14, 6, 15, 16, 17, 18, 19, 20, 21, 22, 23, 24, 25, 26, 27, 28, 29, 30, 31, 32, 33, 34, 35, 36, 37, 38, 39, 40, 41, 42, 43] (by decide +kernel) (by decide +kernel)
set_option maxRecDepth 20000 in
theorem gX12_image_X12_coins : GoodIn wsX12_image (wsV RX12 180 RX12 yX12_coins wsX12_coins) := goodIn_app (goodIn_of _ (by decide +kernel)) ggX12_image_X12_coins
theorem dX12_image_0 : decode cX12_image 0 = .ok (.aload_n 0, 1) := by decide +kernel
theorem dX12_image_1 : decode cX12_image 1 = .ok (.getfield 9, 3) := by decide +kernel
theorem dX12_image_4 : decode cX12_image 4 = .ok (.aload_n 0, 1) := by decide +kernel
theorem dX12_image_5 : decode cX12_image 5 = .ok (.getfield 13, 3) := by decide +kernel
theorem dX12_image_8 : decode cX12_image 8 = .ok (.invokestatic 60, 3) := by decide +kernel
theorem dX12_image_11 : decode cX12_image 11 = .ok (.aload_n 0, 1) := by decide +kernel
theorem dX12_image_12 : decode cX12_image 12 = .ok (.iconst 1, 1) := by decide +kernel
theorem dX12_image_13 : decode cX12_image 13 = .ok (.putfield 243, 3) := by decide +kernel
theorem dX12_image_16 : decode cX12_image 16 = .ok (.aload_n 0, 1) := by decide +kernel
theorem dX12_image_17 : decode cX12_image 17 = .ok (.invokevirtual 180, 3) := by decide +kernel
theorem dX12_image_20 : decode cX12_image 20 = .ok (.ireturn, 1) := by decide +kernel
set_option maxRecDepth 20000 in
theorem ggX12_restore_X12_lays : GoodIn wsX12_restore wsX12_lays := goodIn_r _ [7] (by decide +kernel) (by decide +kernel)
set_option maxRecDepth 20000 in
theorem gX12_restore_X12_lays : GoodIn wsX12_restore (va_wsS RX12 60 yX12_lays wsX12_lays) := goodIn_app (goodIn_of _ (by decide +kernel)) ggX12_restore_X12_lays
set_option maxRecDepth 20000 in
theorem ggX12_restore_X12_coins : GoodIn wsX12_restore wsX12_coins := goodIn_r _ [11, 3, 12, 13, 14, 6, 15, 16, 17, 18, 19, 20, 21, 22, 23, 24, 25, 26, 27, 28, 29, 30, 31, 32, 33, 34, 35, 36, 37, 38, 39, 40, 41, 42, 43] (by decide +kernel) (by decide +kernel)
set_option maxRecDepth 20000 in
theorem gX12_restore_X12_coins : GoodIn wsX12_restore (wsV RX12 180 RX12 yX12_coins wsX12_coins) := goodIn_app (goodIn_of _ (by decide +kernel)) ggX12_restore_X12_coins
theorem dX12_restore_0 : decode cX12_restore 0 = .ok (.aload_n 0, 1) := by decide +kernel
theorem dX12_restore_1 : decode cX12_restore 1 = .ok (.getfield 243, 3) := by decide +kernel
theorem dX12_restore_4 : decode cX12_restore 4 = .ok (.ifCond .ne 6, 3) := by decide +kernel
theorem dX12_restore_7 : decode cX12_restore 7 = .ok (.bipush (-3), 2) := by decide +kernel
theorem dX12_restore_9 : decode cX12_restore 9 = .ok (.ireturn, 1) := by decide +kernel
theorem dX12_restore_10 : decode cX12_restore 10 = .ok (.aload_n 0, 1) := by decide +kernel
theorem dX12_restore_11 : decode cX12_restore 11 = .ok (.getfield 13, 3) := by decide +kernel
theorem dX12_restore_14 : decode cX12_restore 14 = .ok (.aload_n 0, 1) := by decide +kernel
theorem dX12_restore_15 : decode cX12_restore 15 = .ok (.getfield 9, 3) := by decide +kernel
theorem dX12_restore_18 : decode cX12_restore 18 = .ok (.invokestatic 60, 3) := by decide +kernel
theorem dX12_restore_21 : decode cX12_restore 21 = .ok (.aload_n 0, 1) := by decide +kernel
theorem dX12_restore_22 : decode cX12_restore 22 = .ok (.invokevirtual 180, 3) := by decide +kernel
theorem dX12_restore_25 : decode cX12_restore 25 = .ok (.ireturn, 1) := by decide +kernel
set_option maxRecDepth 20000 in
theorem ggX12_count_X12_coins : GoodIn wsX12_count wsX12_coins := goodIn_r _ [6, 1, 7, 8, 9, 5, 10, 11, 12, 13, 14, 57, 58, 59, 60, 61, 62, 63, 64, 65, 66, 67, 68, 69, 70, 71, 72, 73, 74, 75, 76, 77, 78, 79, 80] (by decide +kernel) (by decide +kernel)
set_option maxRecDepth 20000 in
theorem gX12_count_X12_coins : GoodIn wsX12_count (wsV RX12 180 RX12 yX12_coins wsX12_coins) := goodIn_app (goodIn_of _ (by decide +kernel)) ggX12_count_X12_coins
set_option maxRecDepth 20000 in
theorem ggX12_count_X12_breachesOf : GoodIn wsX12_count wsX12_breachesOf := goodIn_r _ [18, 7, 8, 9, 5, 10, 11, 12, 13, 14, 1, 19, 20, 21, 22, 23, 24, 25, 26, 27, 28, 29, 30, 31, 32, 33, 34, 35, 36, 37, 38, 39, 40, 41, 42, 43, 44, 45, 46, 47, 48, 49, 50, 51, 52, 53, 54, 55, 56, 57, 58, 59, 60, 61, 62, 63, 64, 65, 66, 67, 68, 69, 70, 71, 72, 73, 74, 75, 76, 77, 78, 79, 80] (by decide +kernel) (by decide +kernel)
set_option maxRecDepth 20000 in
theorem gX12_count_X12_breachesOf : GoodIn wsX12_count (wsV RX12 96 RX12 yX12_breachesOf wsX12_breachesOf) := goodIn_app (goodIn_of _ (by decide +kernel)) ggX12_count_X12_breachesOf
theorem dX12_count_0 : decode cX12_count 0 = .ok (.iconst 0, 1) := by decide +kernel
theorem dX12_count_1 : decode cX12_count 1 = .ok (.istore_n 2, 1) := by decide +kernel
theorem dX12_count_2 : decode cX12_count 2 = .ok (.iload_n 1, 1) := by decide +kernel
theorem dX12_count_3 : decode cX12_count 3 = .ok (.tableswitch 77 0 3 #[29, 29, 36, 41], 29) := by decide +kernel
theorem dX12_count_32 : decode cX12_count 32 = .ok (.aload_n 0, 1) := by decide +kernel
theorem dX12_count_33 : decode cX12_count 33 = .ok (.getfield 9, 3) := by decide +kernel
theorem dX12_count_36 : decode cX12_count 36 = .ok (.iload_n 1, 1) := by decide +kernel
theorem dX12_count_37 : decode cX12_count 37 = .ok (.iaload, 1) := by decide +kernel
theorem dX12_count_38 : decode cX12_count 38 = .ok (.ireturn, 1) := by decide +kernel
theorem dX12_count_39 : decode cX12_count 39 = .ok (.aload_n 0, 1) := by decide +kernel
theorem dX12_count_40 : decode cX12_count 40 = .ok (.invokevirtual 180, 3) := by decide +kernel
theorem dX12_count_43 : decode cX12_count 43 = .ok (.ireturn, 1) := by decide +kernel
theorem dX12_count_44 : decode cX12_count 44 = .ok (.iconst 0, 1) := by decide +kernel
theorem dX12_count_45 : decode cX12_count 45 = .ok (.istore_n 3, 1) := by decide +kernel
theorem dX12_count_46 : decode cX12_count 46 = .ok (.iload_n 3, 1) := by decide +kernel
theorem dX12_count_47 : decode cX12_count 47 = .ok (.aload_n 0, 1) := by decide +kernel
theorem dX12_count_48 : decode cX12_count 48 = .ok (.getfield 9, 3) := by decide +kernel
theorem dX12_count_51 : decode cX12_count 51 = .ok (.iconst 0, 1) := by decide +kernel
theorem dX12_count_52 : decode cX12_count 52 = .ok (.iaload, 1) := by decide +kernel
theorem dX12_count_53 : decode cX12_count 53 = .ok (.if_icmp .ge 25, 3) := by decide +kernel
theorem dX12_count_56 : decode cX12_count 56 = .ok (.iload_n 2, 1) := by decide +kernel
theorem dX12_count_57 : decode cX12_count 57 = .ok (.aload_n 0, 1) := by decide +kernel
theorem dX12_count_58 : decode cX12_count 58 = .ok (.iload_n 3, 1) := by decide +kernel
theorem dX12_count_59 : decode cX12_count 59 = .ok (.invokevirtual 96, 3) := by decide +kernel
theorem dX12_count_62 : decode cX12_count 62 = .ok (.ifCond .ne 7, 3) := by decide +kernel
theorem dX12_count_65 : decode cX12_count 65 = .ok (.iconst 1, 1) := by decide +kernel
theorem dX12_count_66 : decode cX12_count 66 = .ok (.goto 4, 3) := by decide +kernel
theorem dX12_count_69 : decode cX12_count 69 = .ok (.iconst 0, 1) := by decide +kernel
theorem dX12_count_70 : decode cX12_count 70 = .ok (.iadd, 1) := by decide +kernel
theorem dX12_count_71 : decode cX12_count 71 = .ok (.istore_n 2, 1) := by decide +kernel
theorem dX12_count_72 : decode cX12_count 72 = .ok (.iinc 3 1, 3) := by decide +kernel
theorem dX12_count_75 : decode cX12_count 75 = .ok (.goto (-29), 3) := by decide +kernel
theorem dX12_count_78 : decode cX12_count 78 = .ok (.iload_n 2, 1) := by decide +kernel
theorem dX12_count_79 : decode cX12_count 79 = .ok (.ireturn, 1) := by decide +kernel
theorem dX12_count_80 : decode cX12_count 80 = .ok (.iconst (-1), 1) := by decide +kernel
theorem dX12_count_81 : decode cX12_count 81 = .ok (.ireturn, 1) := by decide +kernel
theorem dX12_feeBy_0 : decode cX12_feeBy 0 = .ok (.iload_n 0, 1) := by decide +kernel
theorem dX12_feeBy_1 : decode cX12_feeBy 1 = .ok (.tableswitch 77 1 7 #[43, 49, 51, 54, 62, 66, 74], 43) := by decide +kernel
theorem dX12_feeBy_44 : decode cX12_feeBy 44 = .ok (.iconst 5, 1) := by decide +kernel
theorem dX12_feeBy_45 : decode cX12_feeBy 45 = .ok (.iload_n 1, 1) := by decide +kernel
theorem dX12_feeBy_46 : decode cX12_feeBy 46 = .ok (.iconst 1, 1) := by decide +kernel
theorem dX12_feeBy_47 : decode cX12_feeBy 47 = .ok (.iadd, 1) := by decide +kernel
theorem dX12_feeBy_48 : decode cX12_feeBy 48 = .ok (.imul, 1) := by decide +kernel
theorem dX12_feeBy_49 : decode cX12_feeBy 49 = .ok (.ireturn, 1) := by decide +kernel
theorem dX12_feeBy_50 : decode cX12_feeBy 50 = .ok (.iconst 3, 1) := by decide +kernel
theorem dX12_feeBy_51 : decode cX12_feeBy 51 = .ok (.ireturn, 1) := by decide +kernel
theorem dX12_feeBy_52 : decode cX12_feeBy 52 = .ok (.bipush 8, 2) := by decide +kernel
theorem dX12_feeBy_54 : decode cX12_feeBy 54 = .ok (.ireturn, 1) := by decide +kernel
theorem dX12_feeBy_55 : decode cX12_feeBy 55 = .ok (.iconst 5, 1) := by decide +kernel
theorem dX12_feeBy_56 : decode cX12_feeBy 56 = .ok (.iload_n 1, 1) := by decide +kernel
theorem dX12_feeBy_57 : decode cX12_feeBy 57 = .ok (.iconst 1, 1) := by decide +kernel
theorem dX12_feeBy_58 : decode cX12_feeBy 58 = .ok (.iadd, 1) := by decide +kernel
theorem dX12_feeBy_59 : decode cX12_feeBy 59 = .ok (.imul, 1) := by decide +kernel
theorem dX12_feeBy_60 : decode cX12_feeBy 60 = .ok (.iconst 1, 1) := by decide +kernel
theorem dX12_feeBy_61 : decode cX12_feeBy 61 = .ok (.iadd, 1) := by decide +kernel
theorem dX12_feeBy_62 : decode cX12_feeBy 62 = .ok (.ireturn, 1) := by decide +kernel
theorem dX12_feeBy_63 : decode cX12_feeBy 63 = .ok (.iconst 3, 1) := by decide +kernel
theorem dX12_feeBy_64 : decode cX12_feeBy 64 = .ok (.iload_n 1, 1) := by decide +kernel
theorem dX12_feeBy_65 : decode cX12_feeBy 65 = .ok (.iadd, 1) := by decide +kernel
theorem dX12_feeBy_66 : decode cX12_feeBy 66 = .ok (.ireturn, 1) := by decide +kernel
theorem dX12_feeBy_67 : decode cX12_feeBy 67 = .ok (.iconst 5, 1) := by decide +kernel
theorem dX12_feeBy_68 : decode cX12_feeBy 68 = .ok (.iload_n 1, 1) := by decide +kernel
theorem dX12_feeBy_69 : decode cX12_feeBy 69 = .ok (.iconst 1, 1) := by decide +kernel
theorem dX12_feeBy_70 : decode cX12_feeBy 70 = .ok (.iadd, 1) := by decide +kernel
theorem dX12_feeBy_71 : decode cX12_feeBy 71 = .ok (.imul, 1) := by decide +kernel
theorem dX12_feeBy_72 : decode cX12_feeBy 72 = .ok (.iload_n 1, 1) := by decide +kernel
theorem dX12_feeBy_73 : decode cX12_feeBy 73 = .ok (.isub, 1) := by decide +kernel
theorem dX12_feeBy_74 : decode cX12_feeBy 74 = .ok (.ireturn, 1) := by decide +kernel
theorem dX12_feeBy_75 : decode cX12_feeBy 75 = .ok (.bipush 16, 2) := by decide +kernel
theorem dX12_feeBy_77 : decode cX12_feeBy 77 = .ok (.ireturn, 1) := by decide +kernel
theorem dX12_feeBy_78 : decode cX12_feeBy 78 = .ok (.iconst 5, 1) := by decide +kernel
theorem dX12_feeBy_79 : decode cX12_feeBy 79 = .ok (.ireturn, 1) := by decide +kernel
set_option maxRecDepth 20000 in
theorem ggX12_keep_X12_isShelf : GoodIn wsX12_keep wsX12_isShelf := goodIn_r _ [9, 1, 10, 11, 8, 12] (by decide +kernel) (by decide +kernel)
set_option maxRecDepth 20000 in
theorem gX12_keep_X12_isShelf : GoodIn wsX12_keep (va_wsS RX12 154 yX12_isShelf wsX12_isShelf) := goodIn_app (goodIn_of _ (by decide +kernel)) ggX12_keep_X12_isShelf
set_option maxRecDepth 20000 in
theorem ggX12_keep_X12_isIn : GoodIn wsX12_keep wsX12_isIn := goodIn_r _ [12] (by decide +kernel) (by decide +kernel)
set_option maxRecDepth 20000 in
theorem gX12_keep_X12_isIn : GoodIn wsX12_keep (va_wsS RX12 52 yX12_isIn wsX12_isIn) := goodIn_app (goodIn_of _ (by decide +kernel)) ggX12_keep_X12_isIn
theorem dX12_keep_0 : decode cX12_keep 0 = .ok (.iload_n 1, 1) := by decide +kernel
theorem dX12_keep_1 : decode cX12_keep 1 = .ok (.invokestatic 154, 3) := by decide +kernel
theorem dX12_keep_4 : decode cX12_keep 4 = .ok (.ifCond .eq 43, 3) := by decide +kernel
theorem dX12_keep_7 : decode cX12_keep 7 = .ok (.iload_n 2, 1) := by decide +kernel
theorem dX12_keep_8 : decode cX12_keep 8 = .ok (.i2l, 1) := by decide +kernel
theorem dX12_keep_9 : decode cX12_keep 9 = .ok (.lconst 0, 1) := by decide +kernel
theorem dX12_keep_10 : decode cX12_keep 10 = .ok (.lconst 1, 1) := by decide +kernel
theorem dX12_keep_11 : decode cX12_keep 11 = .ok (.invokestatic 52, 3) := by decide +kernel
theorem dX12_keep_14 : decode cX12_keep 14 = .ok (.ifCond .eq 33, 3) := by decide +kernel
theorem dX12_keep_17 : decode cX12_keep 17 = .ok (.iload_n 2, 1) := by decide +kernel
theorem dX12_keep_18 : decode cX12_keep 18 = .ok (.iconst 1, 1) := by decide +kernel
theorem dX12_keep_19 : decode cX12_keep 19 = .ok (.if_icmp .ne 30, 3) := by decide +kernel
theorem dX12_keep_22 : decode cX12_keep 22 = .ok (.iload_n 3, 1) := by decide +kernel
theorem dX12_keep_23 : decode cX12_keep 23 = .ok (.i2l, 1) := by decide +kernel
theorem dX12_keep_24 : decode cX12_keep 24 = .ok (.lconst 0, 1) := by decide +kernel
theorem dX12_keep_25 : decode cX12_keep 25 = .ok (.ldc2_w 50, 3) := by decide +kernel
theorem dX12_keep_28 : decode cX12_keep 28 = .ok (.invokestatic 52, 3) := by decide +kernel
theorem dX12_keep_31 : decode cX12_keep 31 = .ok (.ifCond .eq 16, 3) := by decide +kernel
theorem dX12_keep_34 : decode cX12_keep 34 = .ok (.iload 4, 2) := by decide +kernel
theorem dX12_keep_36 : decode cX12_keep 36 = .ok (.i2l, 1) := by decide +kernel
theorem dX12_keep_37 : decode cX12_keep 37 = .ok (.lconst 0, 1) := by decide +kernel
theorem dX12_keep_38 : decode cX12_keep 38 = .ok (.ldc2_w 247, 3) := by decide +kernel
theorem dX12_keep_41 : decode cX12_keep 41 = .ok (.invokestatic 52, 3) := by decide +kernel
theorem dX12_keep_44 : decode cX12_keep 44 = .ok (.ifCond .ne 5, 3) := by decide +kernel
theorem dX12_keep_47 : decode cX12_keep 47 = .ok (.iconst (-1), 1) := by decide +kernel
theorem dX12_keep_48 : decode cX12_keep 48 = .ok (.ireturn, 1) := by decide +kernel
theorem dX12_keep_49 : decode cX12_keep 49 = .ok (.aload_n 0, 1) := by decide +kernel
theorem dX12_keep_50 : decode cX12_keep 50 = .ok (.getfield 22, 3) := by decide +kernel
theorem dX12_keep_53 : decode cX12_keep 53 = .ok (.iload_n 1, 1) := by decide +kernel
theorem dX12_keep_54 : decode cX12_keep 54 = .ok (.iload_n 2, 1) := by decide +kernel
theorem dX12_keep_55 : decode cX12_keep 55 = .ok (.iastore, 1) := by decide +kernel
theorem dX12_keep_56 : decode cX12_keep 56 = .ok (.aload_n 0, 1) := by decide +kernel
theorem dX12_keep_57 : decode cX12_keep 57 = .ok (.getfield 34, 3) := by decide +kernel
theorem dX12_keep_60 : decode cX12_keep 60 = .ok (.iload_n 1, 1) := by decide +kernel
theorem dX12_keep_61 : decode cX12_keep 61 = .ok (.iload_n 3, 1) := by decide +kernel
theorem dX12_keep_62 : decode cX12_keep 62 = .ok (.iastore, 1) := by decide +kernel
theorem dX12_keep_63 : decode cX12_keep 63 = .ok (.aload_n 0, 1) := by decide +kernel
theorem dX12_keep_64 : decode cX12_keep 64 = .ok (.getfield 37, 3) := by decide +kernel
theorem dX12_keep_67 : decode cX12_keep 67 = .ok (.iload_n 1, 1) := by decide +kernel
theorem dX12_keep_68 : decode cX12_keep 68 = .ok (.iload 4, 2) := by decide +kernel
theorem dX12_keep_70 : decode cX12_keep 70 = .ok (.iastore, 1) := by decide +kernel
theorem dX12_keep_71 : decode cX12_keep 71 = .ok (.iconst 0, 1) := by decide +kernel
theorem dX12_keep_72 : decode cX12_keep 72 = .ok (.ireturn, 1) := by decide +kernel
set_option maxRecDepth 20000 in
theorem ggX12_row_X12_isShelf : GoodIn wsX12_row wsX12_isShelf := goodIn_r _ [9, 10, 11, 12, 8, 13] (by decide +kernel) (by decide +kernel)
set_option maxRecDepth 20000 in
theorem gX12_row_X12_isShelf : GoodIn wsX12_row (va_wsS RX12 154 yX12_isShelf wsX12_isShelf) := goodIn_app (goodIn_of _ (by decide +kernel)) ggX12_row_X12_isShelf
set_option maxRecDepth 20000 in
theorem ggX12_row_X12_isIn : GoodIn wsX12_row wsX12_isIn := goodIn_r _ [13] (by decide +kernel) (by decide +kernel)
set_option maxRecDepth 20000 in
theorem gX12_row_X12_isIn : GoodIn wsX12_row (va_wsS RX12 52 yX12_isIn wsX12_isIn) := goodIn_app (goodIn_of _ (by decide +kernel)) ggX12_row_X12_isIn
theorem dX12_row_0 : decode cX12_row 0 = .ok (.iload_n 1, 1) := by decide +kernel
theorem dX12_row_1 : decode cX12_row 1 = .ok (.invokestatic 154, 3) := by decide +kernel
theorem dX12_row_4 : decode cX12_row 4 = .ok (.ifCond .eq 21, 3) := by decide +kernel
theorem dX12_row_7 : decode cX12_row 7 = .ok (.iload_n 2, 1) := by decide +kernel
theorem dX12_row_8 : decode cX12_row 8 = .ok (.i2l, 1) := by decide +kernel
theorem dX12_row_9 : decode cX12_row 9 = .ok (.lconst 0, 1) := by decide +kernel
theorem dX12_row_10 : decode cX12_row 10 = .ok (.ldc2_w 226, 3) := by decide +kernel
theorem dX12_row_13 : decode cX12_row 13 = .ok (.invokestatic 52, 3) := by decide +kernel
theorem dX12_row_16 : decode cX12_row 16 = .ok (.ifCond .eq 9, 3) := by decide +kernel
theorem dX12_row_19 : decode cX12_row 19 = .ok (.iload_n 3, 1) := by decide +kernel
theorem dX12_row_20 : decode cX12_row 20 = .ok (.bipush 100, 2) := by decide +kernel
theorem dX12_row_22 : decode cX12_row 22 = .ok (.if_icmp .le 5, 3) := by decide +kernel
theorem dX12_row_25 : decode cX12_row 25 = .ok (.iconst (-1), 1) := by decide +kernel
theorem dX12_row_26 : decode cX12_row 26 = .ok (.ireturn, 1) := by decide +kernel
theorem dX12_row_27 : decode cX12_row 27 = .ok (.iload_n 3, 1) := by decide +kernel
theorem dX12_row_28 : decode cX12_row 28 = .ok (.ifCond .ge 6, 3) := by decide +kernel
theorem dX12_row_31 : decode cX12_row 31 = .ok (.bipush (-14), 2) := by decide +kernel
theorem dX12_row_33 : decode cX12_row 33 = .ok (.ireturn, 1) := by decide +kernel
theorem dX12_row_34 : decode cX12_row 34 = .ok (.aload_n 0, 1) := by decide +kernel
theorem dX12_row_35 : decode cX12_row 35 = .ok (.getfield 22, 3) := by decide +kernel
theorem dX12_row_38 : decode cX12_row 38 = .ok (.iload_n 1, 1) := by decide +kernel
theorem dX12_row_39 : decode cX12_row 39 = .ok (.iconst 2, 1) := by decide +kernel
theorem dX12_row_40 : decode cX12_row 40 = .ok (.iastore, 1) := by decide +kernel
theorem dX12_row_41 : decode cX12_row 41 = .ok (.aload_n 0, 1) := by decide +kernel
theorem dX12_row_42 : decode cX12_row 42 = .ok (.getfield 25, 3) := by decide +kernel
theorem dX12_row_45 : decode cX12_row 45 = .ok (.iload_n 1, 1) := by decide +kernel
theorem dX12_row_46 : decode cX12_row 46 = .ok (.iload_n 2, 1) := by decide +kernel
theorem dX12_row_47 : decode cX12_row 47 = .ok (.iastore, 1) := by decide +kernel
theorem dX12_row_48 : decode cX12_row 48 = .ok (.aload_n 0, 1) := by decide +kernel
theorem dX12_row_49 : decode cX12_row 49 = .ok (.getfield 28, 3) := by decide +kernel
theorem dX12_row_52 : decode cX12_row 52 = .ok (.iload_n 1, 1) := by decide +kernel
theorem dX12_row_53 : decode cX12_row 53 = .ok (.iload_n 3, 1) := by decide +kernel
theorem dX12_row_54 : decode cX12_row 54 = .ok (.iastore, 1) := by decide +kernel
theorem dX12_row_55 : decode cX12_row 55 = .ok (.iconst 0, 1) := by decide +kernel
theorem dX12_row_56 : decode cX12_row 56 = .ok (.istore 4, 2) := by decide +kernel
theorem dX12_row_58 : decode cX12_row 58 = .ok (.iload 4, 2) := by decide +kernel
theorem dX12_row_60 : decode cX12_row 60 = .ok (.bipush 100, 2) := by decide +kernel
theorem dX12_row_62 : decode cX12_row 62 = .ok (.if_icmp .ge 22, 3) := by decide +kernel
theorem dX12_row_65 : decode cX12_row 65 = .ok (.aload_n 0, 1) := by decide +kernel
theorem dX12_row_66 : decode cX12_row 66 = .ok (.getfield 31, 3) := by decide +kernel
theorem dX12_row_69 : decode cX12_row 69 = .ok (.bipush 100, 2) := by decide +kernel
theorem dX12_row_71 : decode cX12_row 71 = .ok (.iload_n 1, 1) := by decide +kernel
theorem dX12_row_72 : decode cX12_row 72 = .ok (.imul, 1) := by decide +kernel
theorem dX12_row_73 : decode cX12_row 73 = .ok (.iload 4, 2) := by decide +kernel
theorem dX12_row_75 : decode cX12_row 75 = .ok (.iadd, 1) := by decide +kernel
theorem dX12_row_76 : decode cX12_row 76 = .ok (.iconst 0, 1) := by decide +kernel
theorem dX12_row_77 : decode cX12_row 77 = .ok (.iastore, 1) := by decide +kernel
theorem dX12_row_78 : decode cX12_row 78 = .ok (.iinc 4 1, 3) := by decide +kernel
theorem dX12_row_81 : decode cX12_row 81 = .ok (.goto (-23), 3) := by decide +kernel
theorem dX12_row_84 : decode cX12_row 84 = .ok (.iconst 0, 1) := by decide +kernel
theorem dX12_row_85 : decode cX12_row 85 = .ok (.ireturn, 1) := by decide +kernel
set_option maxRecDepth 20000 in
theorem ggX12_put_X12_wrongRow : GoodIn wsX12_put wsX12_wrongRow := goodIn_r _ [8, 9, 3, 10, 11, 7, 12, 13, 14, 15, 16, 17, 18, 19, 20, 21, 22, 23, 24, 25, 26, 27, 28, 29, 30, 31, 32, 33, 34, 35, 36, 37, 38, 39, 40] (by decide +kernel) (by decide +kernel)
set_option maxRecDepth 20000 in
theorem gX12_put_X12_wrongRow : GoodIn wsX12_put (wsV RX12 157 RX12 yX12_wrongRow wsX12_wrongRow) := goodIn_app (goodIn_of _ (by decide +kernel)) ggX12_put_X12_wrongRow
set_option maxRecDepth 20000 in
theorem ggX12_put_X12_isIn : GoodIn wsX12_put wsX12_isIn := goodIn_r _ [16] (by decide +kernel) (by decide +kernel)
set_option maxRecDepth 20000 in
theorem gX12_put_X12_isIn : GoodIn wsX12_put (va_wsS RX12 52 yX12_isIn wsX12_isIn) := goodIn_app (goodIn_of _ (by decide +kernel)) ggX12_put_X12_isIn
theorem dX12_put_0 : decode cX12_put 0 = .ok (.aload_n 0, 1) := by decide +kernel
theorem dX12_put_1 : decode cX12_put 1 = .ok (.iload_n 1, 1) := by decide +kernel
theorem dX12_put_2 : decode cX12_put 2 = .ok (.iconst (-1), 1) := by decide +kernel
theorem dX12_put_3 : decode cX12_put 3 = .ok (.invokevirtual 157, 3) := by decide +kernel
theorem dX12_put_6 : decode cX12_put 6 = .ok (.istore 4, 2) := by decide +kernel
theorem dX12_put_8 : decode cX12_put 8 = .ok (.iload 4, 2) := by decide +kernel
theorem dX12_put_10 : decode cX12_put 10 = .ok (.ifCond .eq 6, 3) := by decide +kernel
theorem dX12_put_13 : decode cX12_put 13 = .ok (.iload 4, 2) := by decide +kernel
theorem dX12_put_15 : decode cX12_put 15 = .ok (.ireturn, 1) := by decide +kernel
theorem dX12_put_16 : decode cX12_put 16 = .ok (.iload_n 2, 1) := by decide +kernel
theorem dX12_put_17 : decode cX12_put 17 = .ok (.i2l, 1) := by decide +kernel
theorem dX12_put_18 : decode cX12_put 18 = .ok (.lconst 0, 1) := by decide +kernel
theorem dX12_put_19 : decode cX12_put 19 = .ok (.aload_n 0, 1) := by decide +kernel
theorem dX12_put_20 : decode cX12_put 20 = .ok (.getfield 28, 3) := by decide +kernel
theorem dX12_put_23 : decode cX12_put 23 = .ok (.iload_n 1, 1) := by decide +kernel
theorem dX12_put_24 : decode cX12_put 24 = .ok (.iaload, 1) := by decide +kernel
theorem dX12_put_25 : decode cX12_put 25 = .ok (.iconst 1, 1) := by decide +kernel
theorem dX12_put_26 : decode cX12_put 26 = .ok (.isub, 1) := by decide +kernel
theorem dX12_put_27 : decode cX12_put 27 = .ok (.i2l, 1) := by decide +kernel
theorem dX12_put_28 : decode cX12_put 28 = .ok (.invokestatic 52, 3) := by decide +kernel
theorem dX12_put_31 : decode cX12_put 31 = .ok (.ifCond .ne 6, 3) := by decide +kernel
theorem dX12_put_34 : decode cX12_put 34 = .ok (.bipush (-13), 2) := by decide +kernel
theorem dX12_put_36 : decode cX12_put 36 = .ok (.ireturn, 1) := by decide +kernel
theorem dX12_put_37 : decode cX12_put 37 = .ok (.aload_n 0, 1) := by decide +kernel
theorem dX12_put_38 : decode cX12_put 38 = .ok (.getfield 31, 3) := by decide +kernel
theorem dX12_put_41 : decode cX12_put 41 = .ok (.bipush 100, 2) := by decide +kernel
theorem dX12_put_43 : decode cX12_put 43 = .ok (.iload_n 1, 1) := by decide +kernel
theorem dX12_put_44 : decode cX12_put 44 = .ok (.imul, 1) := by decide +kernel
theorem dX12_put_45 : decode cX12_put 45 = .ok (.iload_n 2, 1) := by decide +kernel
theorem dX12_put_46 : decode cX12_put 46 = .ok (.iadd, 1) := by decide +kernel
theorem dX12_put_47 : decode cX12_put 47 = .ok (.aload_n 0, 1) := by decide +kernel
theorem dX12_put_48 : decode cX12_put 48 = .ok (.getfield 25, 3) := by decide +kernel
theorem dX12_put_51 : decode cX12_put 51 = .ok (.iload_n 1, 1) := by decide +kernel
theorem dX12_put_52 : decode cX12_put 52 = .ok (.iaload, 1) := by decide +kernel
theorem dX12_put_53 : decode cX12_put 53 = .ok (.ifCond .ne 8, 3) := by decide +kernel
theorem dX12_put_56 : decode cX12_put 56 = .ok (.iload_n 3, 1) := by decide +kernel
theorem dX12_put_57 : decode cX12_put 57 = .ok (.i2b, 1) := by decide +kernel
theorem dX12_put_58 : decode cX12_put 58 = .ok (.goto 19, 3) := by decide +kernel
theorem dX12_put_61 : decode cX12_put 61 = .ok (.aload_n 0, 1) := by decide +kernel
theorem dX12_put_62 : decode cX12_put 62 = .ok (.getfield 25, 3) := by decide +kernel
theorem dX12_put_65 : decode cX12_put 65 = .ok (.iload_n 1, 1) := by decide +kernel
theorem dX12_put_66 : decode cX12_put 66 = .ok (.iaload, 1) := by decide +kernel
theorem dX12_put_67 : decode cX12_put 67 = .ok (.iconst 1, 1) := by decide +kernel
theorem dX12_put_68 : decode cX12_put 68 = .ok (.if_icmp .ne 8, 3) := by decide +kernel
theorem dX12_put_71 : decode cX12_put 71 = .ok (.iload_n 3, 1) := by decide +kernel
theorem dX12_put_72 : decode cX12_put 72 = .ok (.i2s, 1) := by decide +kernel
theorem dX12_put_73 : decode cX12_put 73 = .ok (.goto 4, 3) := by decide +kernel
theorem dX12_put_76 : decode cX12_put 76 = .ok (.iload_n 3, 1) := by decide +kernel
theorem dX12_put_77 : decode cX12_put 77 = .ok (.iastore, 1) := by decide +kernel
theorem dX12_put_78 : decode cX12_put 78 = .ok (.iconst 0, 1) := by decide +kernel
theorem dX12_put_79 : decode cX12_put 79 = .ok (.ireturn, 1) := by decide +kernel
set_option maxRecDepth 20000 in
theorem ggX12_element_X12_isShelf : GoodIn wsX12_element wsX12_isShelf := goodIn_r _ [8, 9, 10, 11, 7, 12] (by decide +kernel) (by decide +kernel)
set_option maxRecDepth 20000 in
theorem gX12_element_X12_isShelf : GoodIn wsX12_element (va_wsS RX12 154 yX12_isShelf wsX12_isShelf) := goodIn_app (goodIn_of _ (by decide +kernel)) ggX12_element_X12_isShelf
set_option maxRecDepth 20000 in
theorem ggX12_element_X12_isIn : GoodIn wsX12_element wsX12_isIn := goodIn_r _ [12] (by decide +kernel) (by decide +kernel)
set_option maxRecDepth 20000 in
theorem gX12_element_X12_isIn : GoodIn wsX12_element (va_wsS RX12 52 yX12_isIn wsX12_isIn) := goodIn_app (goodIn_of _ (by decide +kernel)) ggX12_element_X12_isIn
theorem dX12_element_0 : decode cX12_element 0 = .ok (.aload_n 0, 1) := by decide +kernel
theorem dX12_element_1 : decode cX12_element 1 = .ok (.iload_n 1, 1) := by decide +kernel
theorem dX12_element_2 : decode cX12_element 2 = .ok (.invokestatic 154, 3) := by decide +kernel
theorem dX12_element_5 : decode cX12_element 5 = .ok (.ifCond .ne 7, 3) := by decide +kernel
theorem dX12_element_8 : decode cX12_element 8 = .ok (.iconst 1, 1) := by decide +kernel
theorem dX12_element_9 : decode cX12_element 9 = .ok (.goto 36, 3) := by decide +kernel
theorem dX12_element_12 : decode cX12_element 12 = .ok (.aload_n 0, 1) := by decide +kernel
theorem dX12_element_13 : decode cX12_element 13 = .ok (.getfield 22, 3) := by decide +kernel
theorem dX12_element_16 : decode cX12_element 16 = .ok (.iload_n 1, 1) := by decide +kernel
theorem dX12_element_17 : decode cX12_element 17 = .ok (.iaload, 1) := by decide +kernel
theorem dX12_element_18 : decode cX12_element 18 = .ok (.iconst 2, 1) := by decide +kernel
theorem dX12_element_19 : decode cX12_element 19 = .ok (.if_icmp .ne 21, 3) := by decide +kernel
theorem dX12_element_22 : decode cX12_element 22 = .ok (.iload_n 2, 1) := by decide +kernel
theorem dX12_element_23 : decode cX12_element 23 = .ok (.i2l, 1) := by decide +kernel
theorem dX12_element_24 : decode cX12_element 24 = .ok (.lconst 0, 1) := by decide +kernel
theorem dX12_element_25 : decode cX12_element 25 = .ok (.aload_n 0, 1) := by decide +kernel
theorem dX12_element_26 : decode cX12_element 26 = .ok (.getfield 28, 3) := by decide +kernel
theorem dX12_element_29 : decode cX12_element 29 = .ok (.iload_n 1, 1) := by decide +kernel
theorem dX12_element_30 : decode cX12_element 30 = .ok (.iaload, 1) := by decide +kernel
theorem dX12_element_31 : decode cX12_element 31 = .ok (.iconst 1, 1) := by decide +kernel
theorem dX12_element_32 : decode cX12_element 32 = .ok (.isub, 1) := by decide +kernel
theorem dX12_element_33 : decode cX12_element 33 = .ok (.i2l, 1) := by decide +kernel
theorem dX12_element_34 : decode cX12_element 34 = .ok (.invokestatic 52, 3) := by decide +kernel
theorem dX12_element_37 : decode cX12_element 37 = .ok (.ifCond .ne 7, 3) := by decide +kernel
theorem dX12_element_40 : decode cX12_element 40 = .ok (.iconst 2, 1) := by decide +kernel
theorem dX12_element_41 : decode cX12_element 41 = .ok (.goto 4, 3) := by decide +kernel
theorem dX12_element_44 : decode cX12_element 44 = .ok (.iconst 0, 1) := by decide +kernel
theorem dX12_element_45 : decode cX12_element 45 = .ok (.putfield 46, 3) := by decide +kernel
theorem dX12_element_48 : decode cX12_element 48 = .ok (.aload_n 0, 1) := by decide +kernel
theorem dX12_element_49 : decode cX12_element 49 = .ok (.getfield 46, 3) := by decide +kernel
theorem dX12_element_52 : decode cX12_element 52 = .ok (.ifCond .ne 18, 3) := by decide +kernel
theorem dX12_element_55 : decode cX12_element 55 = .ok (.aload_n 0, 1) := by decide +kernel
theorem dX12_element_56 : decode cX12_element 56 = .ok (.getfield 31, 3) := by decide +kernel
theorem dX12_element_59 : decode cX12_element 59 = .ok (.bipush 100, 2) := by decide +kernel
theorem dX12_element_61 : decode cX12_element 61 = .ok (.iload_n 1, 1) := by decide +kernel
theorem dX12_element_62 : decode cX12_element 62 = .ok (.imul, 1) := by decide +kernel
theorem dX12_element_63 : decode cX12_element 63 = .ok (.iload_n 2, 1) := by decide +kernel
theorem dX12_element_64 : decode cX12_element 64 = .ok (.iadd, 1) := by decide +kernel
theorem dX12_element_65 : decode cX12_element 65 = .ok (.iaload, 1) := by decide +kernel
theorem dX12_element_66 : decode cX12_element 66 = .ok (.i2l, 1) := by decide +kernel
theorem dX12_element_67 : decode cX12_element 67 = .ok (.goto 4, 3) := by decide +kernel
theorem dX12_element_70 : decode cX12_element 70 = .ok (.lconst 0, 1) := by decide +kernel
theorem dX12_element_71 : decode cX12_element 71 = .ok (.lreturn, 1) := by decide +kernel
set_option maxRecDepth 20000 in
theorem ggX12_copy_X12_isShelf : GoodIn wsX12_copy wsX12_isShelf := goodIn_r _ [8, 9, 10, 11, 7, 12] (by decide +kernel) (by decide +kernel)
set_option maxRecDepth 20000 in
theorem gX12_copy_X12_isShelf : GoodIn wsX12_copy (va_wsS RX12 154 yX12_isShelf wsX12_isShelf) := goodIn_app (goodIn_of _ (by decide +kernel)) ggX12_copy_X12_isShelf
theorem dX12_copy_0 : decode cX12_copy 0 = .ok (.iload_n 1, 1) := by decide +kernel
theorem dX12_copy_1 : decode cX12_copy 1 = .ok (.invokestatic 154, 3) := by decide +kernel
theorem dX12_copy_4 : decode cX12_copy 4 = .ok (.ifCond .eq 10, 3) := by decide +kernel
theorem dX12_copy_7 : decode cX12_copy 7 = .ok (.iload_n 3, 1) := by decide +kernel
theorem dX12_copy_8 : decode cX12_copy 8 = .ok (.invokestatic 154, 3) := by decide +kernel
theorem dX12_copy_11 : decode cX12_copy 11 = .ok (.ifCond .ne 5, 3) := by decide +kernel
theorem dX12_copy_14 : decode cX12_copy 14 = .ok (.iconst (-1), 1) := by decide +kernel
theorem dX12_copy_15 : decode cX12_copy 15 = .ok (.ireturn, 1) := by decide +kernel
theorem dX12_copy_16 : decode cX12_copy 16 = .ok (.aload_n 0, 1) := by decide +kernel
theorem dX12_copy_17 : decode cX12_copy 17 = .ok (.getfield 22, 3) := by decide +kernel
theorem dX12_copy_20 : decode cX12_copy 20 = .ok (.iload_n 1, 1) := by decide +kernel
theorem dX12_copy_21 : decode cX12_copy 21 = .ok (.iaload, 1) := by decide +kernel
theorem dX12_copy_22 : decode cX12_copy 22 = .ok (.ifCond .eq 12, 3) := by decide +kernel
theorem dX12_copy_25 : decode cX12_copy 25 = .ok (.aload_n 0, 1) := by decide +kernel
theorem dX12_copy_26 : decode cX12_copy 26 = .ok (.getfield 22, 3) := by decide +kernel
theorem dX12_copy_29 : decode cX12_copy 29 = .ok (.iload_n 3, 1) := by decide +kernel
theorem dX12_copy_30 : decode cX12_copy 30 = .ok (.iaload, 1) := by decide +kernel
theorem dX12_copy_31 : decode cX12_copy 31 = .ok (.ifCond .ne 6, 3) := by decide +kernel
theorem dX12_copy_34 : decode cX12_copy 34 = .ok (.bipush (-11), 2) := by decide +kernel
theorem dX12_copy_36 : decode cX12_copy 36 = .ok (.ireturn, 1) := by decide +kernel
theorem dX12_copy_37 : decode cX12_copy 37 = .ok (.aload_n 0, 1) := by decide +kernel
theorem dX12_copy_38 : decode cX12_copy 38 = .ok (.getfield 22, 3) := by decide +kernel
theorem dX12_copy_41 : decode cX12_copy 41 = .ok (.iload_n 1, 1) := by decide +kernel
theorem dX12_copy_42 : decode cX12_copy 42 = .ok (.iaload, 1) := by decide +kernel
theorem dX12_copy_43 : decode cX12_copy 43 = .ok (.iconst 2, 1) := by decide +kernel
theorem dX12_copy_44 : decode cX12_copy 44 = .ok (.if_icmp .ne 28, 3) := by decide +kernel
theorem dX12_copy_47 : decode cX12_copy 47 = .ok (.aload_n 0, 1) := by decide +kernel
theorem dX12_copy_48 : decode cX12_copy 48 = .ok (.getfield 22, 3) := by decide +kernel
theorem dX12_copy_51 : decode cX12_copy 51 = .ok (.iload_n 3, 1) := by decide +kernel
theorem dX12_copy_52 : decode cX12_copy 52 = .ok (.iaload, 1) := by decide +kernel
theorem dX12_copy_53 : decode cX12_copy 53 = .ok (.iconst 2, 1) := by decide +kernel
theorem dX12_copy_54 : decode cX12_copy 54 = .ok (.if_icmp .ne 18, 3) := by decide +kernel
theorem dX12_copy_57 : decode cX12_copy 57 = .ok (.aload_n 0, 1) := by decide +kernel
theorem dX12_copy_58 : decode cX12_copy 58 = .ok (.getfield 25, 3) := by decide +kernel
theorem dX12_copy_61 : decode cX12_copy 61 = .ok (.iload_n 1, 1) := by decide +kernel
theorem dX12_copy_62 : decode cX12_copy 62 = .ok (.iaload, 1) := by decide +kernel
theorem dX12_copy_63 : decode cX12_copy 63 = .ok (.aload_n 0, 1) := by decide +kernel
theorem dX12_copy_64 : decode cX12_copy 64 = .ok (.getfield 25, 3) := by decide +kernel
theorem dX12_copy_67 : decode cX12_copy 67 = .ok (.iload_n 3, 1) := by decide +kernel
theorem dX12_copy_68 : decode cX12_copy 68 = .ok (.iaload, 1) := by decide +kernel
theorem dX12_copy_69 : decode cX12_copy 69 = .ok (.if_icmp .eq 6, 3) := by decide +kernel
theorem dX12_copy_72 : decode cX12_copy 72 = .ok (.bipush (-12), 2) := by decide +kernel
theorem dX12_copy_74 : decode cX12_copy 74 = .ok (.ireturn, 1) := by decide +kernel
theorem dX12_copy_75 : decode cX12_copy 75 = .ok (.iload 5, 2) := by decide +kernel
theorem dX12_copy_77 : decode cX12_copy 77 = .ok (.ifCond .lt 39, 3) := by decide +kernel
theorem dX12_copy_80 : decode cX12_copy 80 = .ok (.iload_n 2, 1) := by decide +kernel
theorem dX12_copy_81 : decode cX12_copy 81 = .ok (.ifCond .lt 35, 3) := by decide +kernel
theorem dX12_copy_84 : decode cX12_copy 84 = .ok (.iload 4, 2) := by decide +kernel
theorem dX12_copy_86 : decode cX12_copy 86 = .ok (.ifCond .lt 30, 3) := by decide +kernel
theorem dX12_copy_89 : decode cX12_copy 89 = .ok (.iload 5, 2) := by decide +kernel
theorem dX12_copy_91 : decode cX12_copy 91 = .ok (.aload_n 0, 1) := by decide +kernel
theorem dX12_copy_92 : decode cX12_copy 92 = .ok (.getfield 28, 3) := by decide +kernel
theorem dX12_copy_95 : decode cX12_copy 95 = .ok (.iload_n 1, 1) := by decide +kernel
theorem dX12_copy_96 : decode cX12_copy 96 = .ok (.iaload, 1) := by decide +kernel
theorem dX12_copy_97 : decode cX12_copy 97 = .ok (.iload_n 2, 1) := by decide +kernel
theorem dX12_copy_98 : decode cX12_copy 98 = .ok (.isub, 1) := by decide +kernel
theorem dX12_copy_99 : decode cX12_copy 99 = .ok (.if_icmp .gt 17, 3) := by decide +kernel
theorem dX12_copy_102 : decode cX12_copy 102 = .ok (.iload 5, 2) := by decide +kernel
theorem dX12_copy_104 : decode cX12_copy 104 = .ok (.aload_n 0, 1) := by decide +kernel
theorem dX12_copy_105 : decode cX12_copy 105 = .ok (.getfield 28, 3) := by decide +kernel
theorem dX12_copy_108 : decode cX12_copy 108 = .ok (.iload_n 3, 1) := by decide +kernel
theorem dX12_copy_109 : decode cX12_copy 109 = .ok (.iaload, 1) := by decide +kernel
theorem dX12_copy_110 : decode cX12_copy 110 = .ok (.iload 4, 2) := by decide +kernel
theorem dX12_copy_112 : decode cX12_copy 112 = .ok (.isub, 1) := by decide +kernel
theorem dX12_copy_113 : decode cX12_copy 113 = .ok (.if_icmp .le 6, 3) := by decide +kernel
theorem dX12_copy_116 : decode cX12_copy 116 = .ok (.bipush (-13), 2) := by decide +kernel
theorem dX12_copy_118 : decode cX12_copy 118 = .ok (.ireturn, 1) := by decide +kernel
theorem dX12_copy_119 : decode cX12_copy 119 = .ok (.iconst 0, 1) := by decide +kernel
theorem dX12_copy_120 : decode cX12_copy 120 = .ok (.istore 6, 2) := by decide +kernel
theorem dX12_copy_122 : decode cX12_copy 122 = .ok (.iload 6, 2) := by decide +kernel
theorem dX12_copy_124 : decode cX12_copy 124 = .ok (.iload 5, 2) := by decide +kernel
theorem dX12_copy_126 : decode cX12_copy 126 = .ok (.if_icmp .ge 58, 3) := by decide +kernel
theorem dX12_copy_129 : decode cX12_copy 129 = .ok (.iload_n 2, 1) := by decide +kernel
theorem dX12_copy_130 : decode cX12_copy 130 = .ok (.iload 4, 2) := by decide +kernel
theorem dX12_copy_132 : decode cX12_copy 132 = .ok (.if_icmp .le 8, 3) := by decide +kernel
theorem dX12_copy_135 : decode cX12_copy 135 = .ok (.iload 6, 2) := by decide +kernel
theorem dX12_copy_137 : decode cX12_copy 137 = .ok (.goto 10, 3) := by decide +kernel
theorem dX12_copy_140 : decode cX12_copy 140 = .ok (.iload 5, 2) := by decide +kernel
theorem dX12_copy_142 : decode cX12_copy 142 = .ok (.iconst 1, 1) := by decide +kernel
theorem dX12_copy_143 : decode cX12_copy 143 = .ok (.isub, 1) := by decide +kernel
theorem dX12_copy_144 : decode cX12_copy 144 = .ok (.iload 6, 2) := by decide +kernel
theorem dX12_copy_146 : decode cX12_copy 146 = .ok (.isub, 1) := by decide +kernel
theorem dX12_copy_147 : decode cX12_copy 147 = .ok (.istore 7, 2) := by decide +kernel
theorem dX12_copy_149 : decode cX12_copy 149 = .ok (.aload_n 0, 1) := by decide +kernel
theorem dX12_copy_150 : decode cX12_copy 150 = .ok (.getfield 31, 3) := by decide +kernel
theorem dX12_copy_153 : decode cX12_copy 153 = .ok (.bipush 100, 2) := by decide +kernel
theorem dX12_copy_155 : decode cX12_copy 155 = .ok (.iload_n 3, 1) := by decide +kernel
theorem dX12_copy_156 : decode cX12_copy 156 = .ok (.imul, 1) := by decide +kernel
theorem dX12_copy_157 : decode cX12_copy 157 = .ok (.iload 4, 2) := by decide +kernel
theorem dX12_copy_159 : decode cX12_copy 159 = .ok (.iadd, 1) := by decide +kernel
theorem dX12_copy_160 : decode cX12_copy 160 = .ok (.iload 7, 2) := by decide +kernel
theorem dX12_copy_162 : decode cX12_copy 162 = .ok (.iadd, 1) := by decide +kernel
theorem dX12_copy_163 : decode cX12_copy 163 = .ok (.aload_n 0, 1) := by decide +kernel
theorem dX12_copy_164 : decode cX12_copy 164 = .ok (.getfield 31, 3) := by decide +kernel
theorem dX12_copy_167 : decode cX12_copy 167 = .ok (.bipush 100, 2) := by decide +kernel
theorem dX12_copy_169 : decode cX12_copy 169 = .ok (.iload_n 1, 1) := by decide +kernel
theorem dX12_copy_170 : decode cX12_copy 170 = .ok (.imul, 1) := by decide +kernel
theorem dX12_copy_171 : decode cX12_copy 171 = .ok (.iload_n 2, 1) := by decide +kernel
theorem dX12_copy_172 : decode cX12_copy 172 = .ok (.iadd, 1) := by decide +kernel
theorem dX12_copy_173 : decode cX12_copy 173 = .ok (.iload 7, 2) := by decide +kernel
theorem dX12_copy_175 : decode cX12_copy 175 = .ok (.iadd, 1) := by decide +kernel
theorem dX12_copy_176 : decode cX12_copy 176 = .ok (.iaload, 1) := by decide +kernel
theorem dX12_copy_177 : decode cX12_copy 177 = .ok (.iastore, 1) := by decide +kernel
theorem dX12_copy_178 : decode cX12_copy 178 = .ok (.iinc 6 1, 3) := by decide +kernel
theorem dX12_copy_181 : decode cX12_copy 181 = .ok (.goto (-59), 3) := by decide +kernel
theorem dX12_copy_184 : decode cX12_copy 184 = .ok (.iload 5, 2) := by decide +kernel
theorem dX12_copy_186 : decode cX12_copy 186 = .ok (.ireturn, 1) := by decide +kernel
set_option maxRecDepth 20000 in
theorem ggX12_fee_X12_wrongKept : GoodIn wsX12_fee wsX12_wrongKept := goodIn_r _ [7, 8, 9, 10, 6, 11, 12, 13, 14, 15, 19, 20, 21, 22, 23, 24, 25, 26, 27, 28, 29, 30, 31, 32, 33, 34, 35, 36, 37, 38, 39, 40, 41, 42] (by decide +kernel) (by decide +kernel)
set_option maxRecDepth 20000 in
theorem gX12_fee_X12_wrongKept : GoodIn wsX12_fee (wsV RX12 175 RX12 yX12_wrongKept wsX12_wrongKept) := goodIn_app (goodIn_of _ (by decide +kernel)) ggX12_fee_X12_wrongKept
set_option maxRecDepth 20000 in
theorem ggX12_fee_X12_feeBy : GoodIn wsX12_fee wsX12_feeBy := goodIn_r _ [18] (by decide +kernel) (by decide +kernel)
set_option maxRecDepth 20000 in
theorem gX12_fee_X12_feeBy : GoodIn wsX12_fee (va_wsS RX12 249 yX12_feeBy wsX12_feeBy) := goodIn_app (goodIn_of _ (by decide +kernel)) ggX12_fee_X12_feeBy
theorem dX12_fee_0 : decode cX12_fee 0 = .ok (.aload_n 0, 1) := by decide +kernel
theorem dX12_fee_1 : decode cX12_fee 1 = .ok (.iload_n 1, 1) := by decide +kernel
theorem dX12_fee_2 : decode cX12_fee 2 = .ok (.invokevirtual 175, 3) := by decide +kernel
theorem dX12_fee_5 : decode cX12_fee 5 = .ok (.istore_n 2, 1) := by decide +kernel
theorem dX12_fee_6 : decode cX12_fee 6 = .ok (.iload_n 2, 1) := by decide +kernel
theorem dX12_fee_7 : decode cX12_fee 7 = .ok (.ifCond .eq 7, 3) := by decide +kernel
theorem dX12_fee_10 : decode cX12_fee 10 = .ok (.iload_n 2, 1) := by decide +kernel
theorem dX12_fee_11 : decode cX12_fee 11 = .ok (.goto 18, 3) := by decide +kernel
theorem dX12_fee_14 : decode cX12_fee 14 = .ok (.aload_n 0, 1) := by decide +kernel
theorem dX12_fee_15 : decode cX12_fee 15 = .ok (.getfield 34, 3) := by decide +kernel
theorem dX12_fee_18 : decode cX12_fee 18 = .ok (.iload_n 1, 1) := by decide +kernel
theorem dX12_fee_19 : decode cX12_fee 19 = .ok (.iaload, 1) := by decide +kernel
theorem dX12_fee_20 : decode cX12_fee 20 = .ok (.aload_n 0, 1) := by decide +kernel
theorem dX12_fee_21 : decode cX12_fee 21 = .ok (.getfield 37, 3) := by decide +kernel
theorem dX12_fee_24 : decode cX12_fee 24 = .ok (.iload_n 1, 1) := by decide +kernel
theorem dX12_fee_25 : decode cX12_fee 25 = .ok (.iaload, 1) := by decide +kernel
theorem dX12_fee_26 : decode cX12_fee 26 = .ok (.invokestatic 249, 3) := by decide +kernel
theorem dX12_fee_29 : decode cX12_fee 29 = .ok (.ireturn, 1) := by decide +kernel
set_option maxRecDepth 20000 in
theorem ggX12_toss_X12_wrongKept : GoodIn wsX12_toss wsX12_wrongKept := goodIn_r _ [7, 8, 9, 10, 6, 11, 12, 13, 14, 15, 19, 20, 21, 22, 23, 24, 25, 26, 27, 28, 29, 30, 31, 32, 33, 34, 35, 36, 37, 38, 39, 40, 41, 42] (by decide +kernel) (by decide +kernel)
set_option maxRecDepth 20000 in
theorem gX12_toss_X12_wrongKept : GoodIn wsX12_toss (wsV RX12 175 RX12 yX12_wrongKept wsX12_wrongKept) := goodIn_app (goodIn_of _ (by decide +kernel)) ggX12_toss_X12_wrongKept
set_option maxRecDepth 20000 in
theorem ggX12_toss_X12_feeBy : GoodIn wsX12_toss wsX12_feeBy := goodIn_r _ [18] (by decide +kernel) (by decide +kernel)
set_option maxRecDepth 20000 in
theorem gX12_toss_X12_feeBy : GoodIn wsX12_toss (va_wsS RX12 249 yX12_feeBy wsX12_feeBy) := goodIn_app (goodIn_of _ (by decide +kernel)) ggX12_toss_X12_feeBy
theorem dX12_toss_0 : decode cX12_toss 0 = .ok (.aload_n 0, 1) := by decide +kernel
theorem dX12_toss_1 : decode cX12_toss 1 = .ok (.iload_n 1, 1) := by decide +kernel
theorem dX12_toss_2 : decode cX12_toss 2 = .ok (.invokevirtual 175, 3) := by decide +kernel
theorem dX12_toss_5 : decode cX12_toss 5 = .ok (.istore_n 2, 1) := by decide +kernel
theorem dX12_toss_6 : decode cX12_toss 6 = .ok (.iload_n 2, 1) := by decide +kernel
theorem dX12_toss_7 : decode cX12_toss 7 = .ok (.ifCond .eq 5, 3) := by decide +kernel
theorem dX12_toss_10 : decode cX12_toss 10 = .ok (.iload_n 2, 1) := by decide +kernel
theorem dX12_toss_11 : decode cX12_toss 11 = .ok (.ireturn, 1) := by decide +kernel
theorem dX12_toss_12 : decode cX12_toss 12 = .ok (.aload_n 0, 1) := by decide +kernel
theorem dX12_toss_13 : decode cX12_toss 13 = .ok (.getfield 34, 3) := by decide +kernel
theorem dX12_toss_16 : decode cX12_toss 16 = .ok (.iload_n 1, 1) := by decide +kernel
theorem dX12_toss_17 : decode cX12_toss 17 = .ok (.iaload, 1) := by decide +kernel
theorem dX12_toss_18 : decode cX12_toss 18 = .ok (.istore_n 3, 1) := by decide +kernel
theorem dX12_toss_19 : decode cX12_toss 19 = .ok (.aload_n 0, 1) := by decide +kernel
theorem dX12_toss_20 : decode cX12_toss 20 = .ok (.getfield 37, 3) := by decide +kernel
theorem dX12_toss_23 : decode cX12_toss 23 = .ok (.iload_n 1, 1) := by decide +kernel
theorem dX12_toss_24 : decode cX12_toss 24 = .ok (.iaload, 1) := by decide +kernel
theorem dX12_toss_25 : decode cX12_toss 25 = .ok (.istore 4, 2) := by decide +kernel
theorem dX12_toss_27 : decode cX12_toss 27 = .ok (.iload_n 3, 1) := by decide +kernel
theorem dX12_toss_28 : decode cX12_toss 28 = .ok (.iconst 3, 1) := by decide +kernel
theorem dX12_toss_29 : decode cX12_toss 29 = .ok (.if_icmp .eq 8, 3) := by decide +kernel
theorem dX12_toss_32 : decode cX12_toss 32 = .ok (.iload 4, 2) := by decide +kernel
theorem dX12_toss_34 : decode cX12_toss 34 = .ok (.ifCond .ne 8, 3) := by decide +kernel
theorem dX12_toss_37 : decode cX12_toss 37 = .ok (.bipush (-15), 2) := by decide +kernel
theorem dX12_toss_39 : decode cX12_toss 39 = .ok (.goto 37, 3) := by decide +kernel
theorem dX12_toss_42 : decode cX12_toss 42 = .ok (.iload_n 3, 1) := by decide +kernel
theorem dX12_toss_43 : decode cX12_toss 43 = .ok (.iconst 5, 1) := by decide +kernel
theorem dX12_toss_44 : decode cX12_toss 44 = .ok (.if_icmp .ne 11, 3) := by decide +kernel
theorem dX12_toss_47 : decode cX12_toss 47 = .ok (.bipush 100, 2) := by decide +kernel
theorem dX12_toss_49 : decode cX12_toss 49 = .ok (.iload 4, 2) := by decide +kernel
theorem dX12_toss_51 : decode cX12_toss 51 = .ok (.iadd, 1) := by decide +kernel
theorem dX12_toss_52 : decode cX12_toss 52 = .ok (.goto 24, 3) := by decide +kernel
theorem dX12_toss_55 : decode cX12_toss 55 = .ok (.iload_n 3, 1) := by decide +kernel
theorem dX12_toss_56 : decode cX12_toss 56 = .ok (.bipush 6, 2) := by decide +kernel
theorem dX12_toss_58 : decode cX12_toss 58 = .ok (.if_icmp .ne 16, 3) := by decide +kernel
theorem dX12_toss_61 : decode cX12_toss 61 = .ok (.sipush 200, 3) := by decide +kernel
theorem dX12_toss_64 : decode cX12_toss 64 = .ok (.iload_n 3, 1) := by decide +kernel
theorem dX12_toss_65 : decode cX12_toss 65 = .ok (.iload 4, 2) := by decide +kernel
theorem dX12_toss_67 : decode cX12_toss 67 = .ok (.invokestatic 249, 3) := by decide +kernel
theorem dX12_toss_70 : decode cX12_toss 70 = .ok (.iadd, 1) := by decide +kernel
theorem dX12_toss_71 : decode cX12_toss 71 = .ok (.goto 5, 3) := by decide +kernel
theorem dX12_toss_74 : decode cX12_toss 74 = .ok (.iload 4, 2) := by decide +kernel
theorem dX12_toss_76 : decode cX12_toss 76 = .ok (.ireturn, 1) := by decide +kernel
theorem dJ9_abs_0f7a4_0 : decode cJ9_abs_0f7a4 0 = .ok (.iload_n 0, 1) := by decide +kernel
theorem dJ9_abs_0f7a4_1 : decode cJ9_abs_0f7a4 1 = .ok (.ifCond .ge 8, 3) := by decide +kernel
theorem dJ9_abs_0f7a4_4 : decode cJ9_abs_0f7a4 4 = .ok (.iload_n 0, 1) := by decide +kernel
theorem dJ9_abs_0f7a4_5 : decode cJ9_abs_0f7a4 5 = .ok (.ineg, 1) := by decide +kernel
theorem dJ9_abs_0f7a4_6 : decode cJ9_abs_0f7a4 6 = .ok (.goto 4, 3) := by decide +kernel
theorem dJ9_abs_0f7a4_9 : decode cJ9_abs_0f7a4 9 = .ok (.iload_n 0, 1) := by decide +kernel
theorem dJ9_abs_0f7a4_10 : decode cJ9_abs_0f7a4 10 = .ok (.ireturn, 1) := by decide +kernel
theorem dJ9_max_7cf53_0 : decode cJ9_max_7cf53 0 = .ok (.iload_n 0, 1) := by decide +kernel
theorem dJ9_max_7cf53_1 : decode cJ9_max_7cf53 1 = .ok (.iload_n 1, 1) := by decide +kernel
theorem dJ9_max_7cf53_2 : decode cJ9_max_7cf53 2 = .ok (.if_icmp .lt 7, 3) := by decide +kernel
theorem dJ9_max_7cf53_5 : decode cJ9_max_7cf53 5 = .ok (.iload_n 0, 1) := by decide +kernel
theorem dJ9_max_7cf53_6 : decode cJ9_max_7cf53 6 = .ok (.goto 4, 3) := by decide +kernel
theorem dJ9_max_7cf53_9 : decode cJ9_max_7cf53 9 = .ok (.iload_n 1, 1) := by decide +kernel
theorem dJ9_max_7cf53_10 : decode cJ9_max_7cf53 10 = .ok (.ireturn, 1) := by decide +kernel
theorem dJ9_min_7cf53_0 : decode cJ9_min_7cf53 0 = .ok (.iload_n 0, 1) := by decide +kernel
theorem dJ9_min_7cf53_1 : decode cJ9_min_7cf53 1 = .ok (.iload_n 1, 1) := by decide +kernel
theorem dJ9_min_7cf53_2 : decode cJ9_min_7cf53 2 = .ok (.if_icmp .gt 7, 3) := by decide +kernel
theorem dJ9_min_7cf53_5 : decode cJ9_min_7cf53 5 = .ok (.iload_n 0, 1) := by decide +kernel
theorem dJ9_min_7cf53_6 : decode cJ9_min_7cf53 6 = .ok (.goto 4, 3) := by decide +kernel
theorem dJ9_min_7cf53_9 : decode cJ9_min_7cf53 9 = .ok (.iload_n 1, 1) := by decide +kernel
theorem dJ9_min_7cf53_10 : decode cJ9_min_7cf53 10 = .ok (.ireturn, 1) := by decide +kernel
theorem dJ7_fill_53178_0 : decode cJ7_fill_53178 0 = .ok (.iconst 0, 1) := by decide +kernel
theorem dJ7_fill_53178_1 : decode cJ7_fill_53178 1 = .ok (.istore_n 2, 1) := by decide +kernel
theorem dJ7_fill_53178_2 : decode cJ7_fill_53178 2 = .ok (.aload_n 0, 1) := by decide +kernel
theorem dJ7_fill_53178_3 : decode cJ7_fill_53178 3 = .ok (.arraylength, 1) := by decide +kernel
theorem dJ7_fill_53178_4 : decode cJ7_fill_53178 4 = .ok (.istore_n 3, 1) := by decide +kernel
theorem dJ7_fill_53178_5 : decode cJ7_fill_53178 5 = .ok (.iload_n 2, 1) := by decide +kernel
theorem dJ7_fill_53178_6 : decode cJ7_fill_53178 6 = .ok (.iload_n 3, 1) := by decide +kernel
theorem dJ7_fill_53178_7 : decode cJ7_fill_53178 7 = .ok (.if_icmp .ge 13, 3) := by decide +kernel
theorem dJ7_fill_53178_10 : decode cJ7_fill_53178 10 = .ok (.aload_n 0, 1) := by decide +kernel
theorem dJ7_fill_53178_11 : decode cJ7_fill_53178 11 = .ok (.iload_n 2, 1) := by decide +kernel
theorem dJ7_fill_53178_12 : decode cJ7_fill_53178 12 = .ok (.iload_n 1, 1) := by decide +kernel
theorem dJ7_fill_53178_13 : decode cJ7_fill_53178 13 = .ok (.iastore, 1) := by decide +kernel
theorem dJ7_fill_53178_14 : decode cJ7_fill_53178 14 = .ok (.iinc 2 1, 3) := by decide +kernel
theorem dJ7_fill_53178_17 : decode cJ7_fill_53178 17 = .ok (.goto (-12), 3) := by decide +kernel
theorem dJ7_fill_53178_20 : decode cJ7_fill_53178 20 = .ok (.return_, 1) := by decide +kernel
