theorem dX12_given_70 : decode cX12_given 70 = .ok (.iload_n 1, 1) := by decide +kernel
theorem dX12_given_71 : decode cX12_given 71 = .ok (.iaload, 1) := by decide +kernel
theorem dX12_given_72 : decode cX12_given 72 = .ok (.if_icmp .ge 59, 3) := by decide +kernel
theorem dX12_given_75 : decode cX12_given 75 = .ok (.aload_n 0, 1) := by decide +kernel
theorem dX12_given_76 : decode cX12_given 76 = .ok (.aload_n 0, 1) := by decide +kernel
theorem dX12_given_77 : decode cX12_given 77 = .ok (.iload_n 1, 1) := by decide +kernel
theorem dX12_given_78 : decode cX12_given 78 = .ok (.iload 4, 2) := by decide +kernel
theorem dX12_given_80 : decode cX12_given 80 = .ok (.invokevirtual 228, 3) := by decide +kernel
theorem dX12_given_83 : decode cX12_given 83 = .ok (.aload_n 0, 1) := by decide +kernel
theorem dX12_given_84 : decode cX12_given 84 = .ok (.iload_n 1, 1) := by decide +kernel
theorem dX12_given_85 : decode cX12_given 85 = .ok (.iload 4, 2) := by decide +kernel
theorem dX12_given_87 : decode cX12_given 87 = .ok (.iconst 1, 1) := by decide +kernel
theorem dX12_given_88 : decode cX12_given 88 = .ok (.iadd, 1) := by decide +kernel
theorem dX12_given_89 : decode cX12_given 89 = .ok (.invokevirtual 228, 3) := by decide +kernel
theorem dX12_given_92 : decode cX12_given 92 = .ok (.invokevirtual 132, 3) := by decide +kernel
theorem dX12_given_95 : decode cX12_given 95 = .ok (.ifCond .eq 27, 3) := by decide +kernel
theorem dX12_given_98 : decode cX12_given 98 = .ok (.aload_n 0, 1) := by decide +kernel
theorem dX12_given_99 : decode cX12_given 99 = .ok (.iload_n 1, 1) := by decide +kernel
theorem dX12_given_100 : decode cX12_given 100 = .ok (.iload 4, 2) := by decide +kernel
theorem dX12_given_102 : decode cX12_given 102 = .ok (.iconst 2, 1) := by decide +kernel
theorem dX12_given_103 : decode cX12_given 103 = .ok (.iadd, 1) := by decide +kernel
theorem dX12_given_104 : decode cX12_given 104 = .ok (.invokevirtual 228, 3) := by decide +kernel
theorem dX12_given_107 : decode cX12_given 107 = .ok (.i2l, 1) := by decide +kernel
theorem dX12_given_108 : decode cX12_given 108 = .ok (.lconst 1, 1) := by decide +kernel
theorem dX12_given_109 : decode cX12_given 109 = .ok (.ldc2_w 173, 3) := by decide +kernel
theorem dX12_given_112 : decode cX12_given 112 = .ok (.invokestatic 52, 3) := by decide +kernel
theorem dX12_given_115 : decode cX12_given 115 = .ok (.ifCond .eq 7, 3) := by decide +kernel
theorem dX12_given_118 : decode cX12_given 118 = .ok (.iconst 0, 1) := by decide +kernel
theorem dX12_given_119 : decode cX12_given 119 = .ok (.goto 5, 3) := by decide +kernel
theorem dX12_given_122 : decode cX12_given 122 = .ok (.bipush (-13), 2) := by decide +kernel
theorem dX12_given_124 : decode cX12_given 124 = .ok (.istore_n 3, 1) := by decide +kernel
theorem dX12_given_125 : decode cX12_given 125 = .ok (.iinc 4 3, 3) := by decide +kernel
theorem dX12_given_128 : decode cX12_given 128 = .ok (.goto (-68), 3) := by decide +kernel
theorem dX12_given_131 : decode cX12_given 131 = .ok (.iload_n 3, 1) := by decide +kernel
theorem dX12_given_132 : decode cX12_given 132 = .ok (.ifCond .eq 5, 3) := by decide +kernel
theorem dX12_given_135 : decode cX12_given 135 = .ok (.iload_n 3, 1) := by decide +kernel
theorem dX12_given_136 : decode cX12_given 136 = .ok (.ireturn, 1) := by decide +kernel
theorem dX12_given_137 : decode cX12_given 137 = .ok (.aload_n 0, 1) := by decide +kernel
theorem dX12_given_138 : decode cX12_given 138 = .ok (.invokevirtual 208, 3) := by decide +kernel
theorem dX12_given_141 : decode cX12_given 141 = .ok (.iconst 0, 1) := by decide +kernel
theorem dX12_given_142 : decode cX12_given 142 = .ok (.istore 4, 2) := by decide +kernel
theorem dX12_given_144 : decode cX12_given 144 = .ok (.iconst 0, 1) := by decide +kernel
theorem dX12_given_145 : decode cX12_given 145 = .ok (.istore 5, 2) := by decide +kernel
theorem dX12_given_147 : decode cX12_given 147 = .ok (.iload 5, 2) := by decide +kernel
theorem dX12_given_149 : decode cX12_given 149 = .ok (.aload_n 0, 1) := by decide +kernel
theorem dX12_given_150 : decode cX12_given 150 = .ok (.getfield 28, 3) := by decide +kernel
theorem dX12_given_153 : decode cX12_given 153 = .ok (.iload_n 1, 1) := by decide +kernel
theorem dX12_given_154 : decode cX12_given 154 = .ok (.iaload, 1) := by decide +kernel
theorem dX12_given_155 : decode cX12_given 155 = .ok (.if_icmp .ge 51, 3) := by decide +kernel
theorem dX12_given_158 : decode cX12_given 158 = .ok (.iload 4, 2) := by decide +kernel
theorem dX12_given_160 : decode cX12_given 160 = .ok (.aload_n 0, 1) := by decide +kernel
theorem dX12_given_161 : decode cX12_given 161 = .ok (.aload_n 0, 1) := by decide +kernel
theorem dX12_given_162 : decode cX12_given 162 = .ok (.iload_n 1, 1) := by decide +kernel
theorem dX12_given_163 : decode cX12_given 163 = .ok (.iload 5, 2) := by decide +kernel
theorem dX12_given_165 : decode cX12_given 165 = .ok (.invokevirtual 228, 3) := by decide +kernel
theorem dX12_given_168 : decode cX12_given 168 = .ok (.aload_n 0, 1) := by decide +kernel
theorem dX12_given_169 : decode cX12_given 169 = .ok (.iload_n 1, 1) := by decide +kernel
theorem dX12_given_170 : decode cX12_given 170 = .ok (.iload 5, 2) := by decide +kernel
theorem dX12_given_172 : decode cX12_given 172 = .ok (.iconst 1, 1) := by decide +kernel
theorem dX12_given_173 : decode cX12_given 173 = .ok (.iadd, 1) := by decide +kernel
theorem dX12_given_174 : decode cX12_given 174 = .ok (.invokevirtual 228, 3) := by decide +kernel
theorem dX12_given_177 : decode cX12_given 177 = .ok (.aload_n 0, 1) := by decide +kernel
theorem dX12_given_178 : decode cX12_given 178 = .ok (.iload_n 1, 1) := by decide +kernel
theorem dX12_given_179 : decode cX12_given 179 = .ok (.iload 5, 2) := by decide +kernel
theorem dX12_given_181 : decode cX12_given 181 = .ok (.iconst 2, 1) := by decide +kernel
theorem dX12_given_182 : decode cX12_given 182 = .ok (.iadd, 1) := by decide +kernel
theorem dX12_given_183 : decode cX12_given 183 = .ok (.invokevirtual 228, 3) := by decide +kernel
theorem dX12_given_186 : decode cX12_given 186 = .ok (.invokevirtual 147, 3) := by decide +kernel
theorem dX12_given_189 : decode cX12_given 189 = .ok (.ifCond .eq 7, 3) := by decide +kernel
theorem dX12_given_192 : decode cX12_given 192 = .ok (.iconst 1, 1) := by decide +kernel
theorem dX12_given_193 : decode cX12_given 193 = .ok (.goto 4, 3) := by decide +kernel
theorem dX12_given_196 : decode cX12_given 196 = .ok (.iconst 0, 1) := by decide +kernel
theorem dX12_given_197 : decode cX12_given 197 = .ok (.iadd, 1) := by decide +kernel
theorem dX12_given_198 : decode cX12_given 198 = .ok (.istore 4, 2) := by decide +kernel
theorem dX12_given_200 : decode cX12_given 200 = .ok (.iinc 5 3, 3) := by decide +kernel
theorem dX12_given_203 : decode cX12_given 203 = .ok (.goto (-56), 3) := by decide +kernel
theorem dX12_given_206 : decode cX12_given 206 = .ok (.aload_n 0, 1) := by decide +kernel
theorem dX12_given_207 : decode cX12_given 207 = .ok (.invokevirtual 99, 3) := by decide +kernel
theorem dX12_given_210 : decode cX12_given 210 = .ok (.istore 5, 2) := by decide +kernel
theorem dX12_given_212 : decode cX12_given 212 = .ok (.aload_n 0, 1) := by decide +kernel
theorem dX12_given_213 : decode cX12_given 213 = .ok (.invokevirtual 211, 3) := by decide +kernel
theorem dX12_given_216 : decode cX12_given 216 = .ok (.iload_n 2, 1) := by decide +kernel
theorem dX12_given_217 : decode cX12_given 217 = .ok (.ifCond .ne 8, 3) := by decide +kernel
theorem dX12_given_220 : decode cX12_given 220 = .ok (.iload 5, 2) := by decide +kernel
theorem dX12_given_222 : decode cX12_given 222 = .ok (.goto 5, 3) := by decide +kernel
theorem dX12_given_225 : decode cX12_given 225 = .ok (.iload 4, 2) := by decide +kernel
theorem dX12_given_227 : decode cX12_given 227 = .ok (.ireturn, 1) := by decide +kernel
set_option maxRecDepth 20000 in
theorem ggX12_tax_X12_isIn : GoodIn wsX12_tax wsX12_isIn := goodIn_r _ [6] (by decide +kernel) (by decide +kernel)
set_option maxRecDepth 20000 in
theorem gX12_tax_X12_isIn : GoodIn wsX12_tax (va_wsS RX12 52 yX12_isIn wsX12_isIn) := goodIn_app (goodIn_of _ (by decide +kernel)) ggX12_tax_X12_isIn
set_option maxRecDepth 20000 in
theorem ggX12_tax_X12_purse : GoodIn wsX12_tax wsX12_purse := goodIn_r _ [10, 11, 12, 13, 5, 14, 2, 15, 16, 17, 18, 19, 20, 21, 22, 23, 24, 25, 26, 27, 28, 29, 30, 31, 32, 33, 34, 35, 36, 37, 38] (by decide +kernel) (by decide +kernel)
set_option maxRecDepth 20000 in
theorem gX12_tax_X12_purse : GoodIn wsX12_tax (wsV RX12 68 RX12 yX12_purse wsX12_purse) := goodIn_app (goodIn_of _ (by decide +kernel)) ggX12_tax_X12_purse
theorem dX12_tax_0 : decode cX12_tax 0 = .ok (.iload_n 1, 1) := by decide +kernel
theorem dX12_tax_1 : decode cX12_tax 1 = .ok (.i2l, 1) := by decide +kernel
theorem dX12_tax_2 : decode cX12_tax 2 = .ok (.lconst 0, 1) := by decide +kernel
theorem dX12_tax_3 : decode cX12_tax 3 = .ok (.ldc2_w 173, 3) := by decide +kernel
theorem dX12_tax_6 : decode cX12_tax 6 = .ok (.invokestatic 52, 3) := by decide +kernel
theorem dX12_tax_9 : decode cX12_tax 9 = .ok (.ifCond .ne 5, 3) := by decide +kernel
theorem dX12_tax_12 : decode cX12_tax 12 = .ok (.iconst (-1), 1) := by decide +kernel
theorem dX12_tax_13 : decode cX12_tax 13 = .ok (.ireturn, 1) := by decide +kernel
theorem dX12_tax_14 : decode cX12_tax 14 = .ok (.iconst 0, 1) := by decide +kernel
theorem dX12_tax_15 : decode cX12_tax 15 = .ok (.istore_n 2, 1) := by decide +kernel
theorem dX12_tax_16 : decode cX12_tax 16 = .ok (.iconst 0, 1) := by decide +kernel
theorem dX12_tax_17 : decode cX12_tax 17 = .ok (.istore_n 3, 1) := by decide +kernel
theorem dX12_tax_18 : decode cX12_tax 18 = .ok (.iload_n 3, 1) := by decide +kernel
theorem dX12_tax_19 : decode cX12_tax 19 = .ok (.aload_n 0, 1) := by decide +kernel
theorem dX12_tax_20 : decode cX12_tax 20 = .ok (.getfield 9, 3) := by decide +kernel
theorem dX12_tax_23 : decode cX12_tax 23 = .ok (.iconst 0, 1) := by decide +kernel
theorem dX12_tax_24 : decode cX12_tax 24 = .ok (.iaload, 1) := by decide +kernel
theorem dX12_tax_25 : decode cX12_tax 25 = .ok (.if_icmp .ge 30, 3) := by decide +kernel
theorem dX12_tax_28 : decode cX12_tax 28 = .ok (.iload_n 2, 1) := by decide +kernel
theorem dX12_tax_29 : decode cX12_tax 29 = .ok (.aload_n 0, 1) := by decide +kernel
theorem dX12_tax_30 : decode cX12_tax 30 = .ok (.iload_n 3, 1) := by decide +kernel
theorem dX12_tax_31 : decode cX12_tax 31 = .ok (.invokevirtual 68, 3) := by decide +kernel
theorem dX12_tax_34 : decode cX12_tax 34 = .ok (.iload_n 1, 1) := by decide +kernel
theorem dX12_tax_35 : decode cX12_tax 35 = .ok (.if_icmp .ge 11, 3) := by decide +kernel
theorem dX12_tax_38 : decode cX12_tax 38 = .ok (.aload_n 0, 1) := by decide +kernel
theorem dX12_tax_39 : decode cX12_tax 39 = .ok (.iload_n 3, 1) := by decide +kernel
theorem dX12_tax_40 : decode cX12_tax 40 = .ok (.invokevirtual 68, 3) := by decide +kernel
theorem dX12_tax_43 : decode cX12_tax 43 = .ok (.goto 4, 3) := by decide +kernel
theorem dX12_tax_46 : decode cX12_tax 46 = .ok (.iload_n 1, 1) := by decide +kernel
theorem dX12_tax_47 : decode cX12_tax 47 = .ok (.iadd, 1) := by decide +kernel
theorem dX12_tax_48 : decode cX12_tax 48 = .ok (.istore_n 2, 1) := by decide +kernel
theorem dX12_tax_49 : decode cX12_tax 49 = .ok (.iinc 3 1, 3) := by decide +kernel
theorem dX12_tax_52 : decode cX12_tax 52 = .ok (.goto (-34), 3) := by decide +kernel
theorem dX12_tax_55 : decode cX12_tax 55 = .ok (.iload_n 2, 1) := by decide +kernel
theorem dX12_tax_56 : decode cX12_tax 56 = .ok (.ireturn, 1) := by decide +kernel
theorem dX12_drawn_0 : decode cX12_drawn 0 = .ok (.aload_n 0, 1) := by decide +kernel
theorem dX12_drawn_1 : decode cX12_drawn 1 = .ok (.aload_n 0, 1) := by decide +kernel
theorem dX12_drawn_2 : decode cX12_drawn 2 = .ok (.getfield 231, 3) := by decide +kernel
theorem dX12_drawn_5 : decode cX12_drawn 5 = .ok (.ldc 234, 2) := by decide +kernel
theorem dX12_drawn_7 : decode cX12_drawn 7 = .ok (.imul, 1) := by decide +kernel
theorem dX12_drawn_8 : decode cX12_drawn 8 = .ok (.sipush 12345, 3) := by decide +kernel
theorem dX12_drawn_11 : decode cX12_drawn 11 = .ok (.iadd, 1) := by decide +kernel
theorem dX12_drawn_12 : decode cX12_drawn 12 = .ok (.putfield 231, 3) := by decide +kernel
theorem dX12_drawn_15 : decode cX12_drawn 15 = .ok (.aload_n 0, 1) := by decide +kernel
theorem dX12_drawn_16 : decode cX12_drawn 16 = .ok (.getfield 231, 3) := by decide +kernel
theorem dX12_drawn_19 : decode cX12_drawn 19 = .ok (.ldc 235, 2) := by decide +kernel
theorem dX12_drawn_21 : decode cX12_drawn 21 = .ok (.iand, 1) := by decide +kernel
theorem dX12_drawn_22 : decode cX12_drawn 22 = .ok (.ldc 236, 2) := by decide +kernel
theorem dX12_drawn_24 : decode cX12_drawn 24 = .ok (.idiv, 1) := by decide +kernel
theorem dX12_drawn_25 : decode cX12_drawn 25 = .ok (.iload_n 1, 1) := by decide +kernel
theorem dX12_drawn_26 : decode cX12_drawn 26 = .ok (.irem, 1) := by decide +kernel
theorem dX12_drawn_27 : decode cX12_drawn 27 = .ok (.ireturn, 1) := by decide +kernel
set_option maxRecDepth 20000 in
theorem ggX12_seeded_X12_isIn : GoodIn wsX12_seeded wsX12_isIn := goodIn_r _ [7] (by decide +kernel) (by decide +kernel)
set_option maxRecDepth 20000 in
theorem gX12_seeded_X12_isIn : GoodIn wsX12_seeded (va_wsS RX12 52 yX12_isIn wsX12_isIn) := goodIn_app (goodIn_of _ (by decide +kernel)) ggX12_seeded_X12_isIn
set_option maxRecDepth 20000 in
theorem ggX12_seeded_X12_begins : GoodIn wsX12_seeded wsX12_begins := goodIn_r _ [11, 2, 12, 13, 14, 6, 15, 102, 103, 104, 105, 106, 107, 108, 109, 110, 111, 112, 113, 114, 115, 116, 117, 118, 119, 120, 121, 122, 123, 124, 125] (by decide +kernel) (by decide +kernel)
set_option maxRecDepth 20000 in
theorem gX12_seeded_X12_begins : GoodIn wsX12_seeded (wsV RX12 208 RX12 yX12_begins wsX12_begins) := goodIn_app (goodIn_of _ (by decide +kernel)) ggX12_seeded_X12_begins
set_option maxRecDepth 20000 in
theorem ggX12_seeded_X12_drawn : GoodIn wsX12_seeded wsX12_drawn := goodIn_r _ [19, 3, 20, 21, 22, 102, 103, 104, 105, 106, 107, 108, 109, 110, 111, 112, 113, 114, 115, 116, 117, 118, 119, 120, 121, 122, 123, 124, 125] (by decide +kernel) (by decide +kernel)
set_option maxRecDepth 20000 in
theorem gX12_seeded_X12_drawn : GoodIn wsX12_seeded (wsV RX12 239 RX12 yX12_drawn wsX12_drawn) := goodIn_app (goodIn_of _ (by decide +kernel)) ggX12_seeded_X12_drawn
set_option maxRecDepth 20000 in
theorem ggX12_seeded_X12_beside : GoodIn wsX12_seeded wsX12_beside := goodIn_r _ [26, 2, 27, 28, 29, 6, 30, 4, 5, 7, 102, 103, 104, 105, 106, 107, 108, 109, 110, 111, 112, 113, 114, 115, 116, 117, 118, 119, 120, 121, 122, 123, 124, 125] (by decide +kernel) (by decide +kernel)
set_option maxRecDepth 20000 in
theorem gX12_seeded_X12_beside : GoodIn wsX12_seeded (wsV RX12 78 RX12 yX12_beside wsX12_beside) := goodIn_app (goodIn_of _ (by decide +kernel)) ggX12_seeded_X12_beside
set_option maxRecDepth 20000 in
theorem ggX12_seeded_X12_givesIf : GoodIn wsX12_seeded wsX12_givesIf := goodIn_r _ [34, 35, 36, 37, 6, 38, 39, 40, 41, 42, 27, 28, 29, 30, 2, 4, 5, 7, 43, 44, 45, 46, 47, 48, 49, 50, 51, 52, 53, 54, 55, 56, 57, 58, 102, 103, 104, 105, 106, 107, 108, 109, 110, 111, 112, 113, 114, 115, 116, 117, 118, 119, 120, 121, 122, 123, 124, 125] (by decide +kernel) (by decide +kernel)
set_option maxRecDepth 20000 in
theorem gX12_seeded_X12_givesIf : GoodIn wsX12_seeded (wsV RX12 147 RX12 yX12_givesIf wsX12_givesIf) := goodIn_app (goodIn_of _ (by decide +kernel)) ggX12_seeded_X12_givesIf
set_option maxRecDepth 20000 in
theorem ggX12_seeded_X12_isLawful : GoodIn wsX12_seeded wsX12_isLawful := goodIn_r _ [62, 63, 64, 65, 6, 66, 2, 67, 68, 69, 70, 43, 44, 45, 46, 47, 48, 49, 50, 71, 72, 73, 74, 23, 24, 25, 26, 27, 28, 29, 30, 4, 5, 7, 75, 76, 77, 78, 79, 80, 81, 82, 83, 84, 85, 86, 87, 88, 89, 90, 91, 92, 93, 94, 95, 96, 97, 102, 103, 104, 105, 106, 107, 108, 109, 110, 111, 112, 113, 114, 115, 116, 117, 118, 119, 120, 121, 122, 123, 124, 125] (by decide +kernel) (by decide +kernel)
set_option maxRecDepth 20000 in
theorem gX12_seeded_X12_isLawful : GoodIn wsX12_seeded (wsV RX12 183 RX12 yX12_isLawful wsX12_isLawful) := goodIn_app (goodIn_of _ (by decide +kernel)) ggX12_seeded_X12_isLawful
set_option maxRecDepth 20000 in
theorem ggX12_seeded_X12_ends : GoodIn wsX12_seeded wsX12_ends := goodIn_r _ [101, 12, 2, 13, 14, 6, 15, 102, 103, 104, 105, 106, 107, 108, 109, 110, 111, 112, 113, 114, 115, 116, 117, 118, 119, 120, 121, 122, 123, 124, 125] (by decide +kernel) (by decide +kernel)
set_option maxRecDepth 20000 in
theorem gX12_seeded_X12_ends : GoodIn wsX12_seeded (wsV RX12 211 RX12 yX12_ends wsX12_ends) := goodIn_app (goodIn_of _ (by decide +kernel)) ggX12_seeded_X12_ends
theorem dX12_seeded_0 : decode cX12_seeded 0 = .ok (.iload_n 1, 1) := by decide +kernel
theorem dX12_seeded_1 : decode cX12_seeded 1 = .ok (.i2l, 1) := by decide +kernel
theorem dX12_seeded_2 : decode cX12_seeded 2 = .ok (.lconst 1, 1) := by decide +kernel
theorem dX12_seeded_3 : decode cX12_seeded 3 = .ok (.ldc2_w 237, 3) := by decide +kernel
theorem dX12_seeded_6 : decode cX12_seeded 6 = .ok (.invokestatic 52, 3) := by decide +kernel
theorem dX12_seeded_9 : decode cX12_seeded 9 = .ok (.ifCond .ne 5, 3) := by decide +kernel
theorem dX12_seeded_12 : decode cX12_seeded 12 = .ok (.iconst (-1), 1) := by decide +kernel
theorem dX12_seeded_13 : decode cX12_seeded 13 = .ok (.ireturn, 1) := by decide +kernel
theorem dX12_seeded_14 : decode cX12_seeded 14 = .ok (.aload_n 0, 1) := by decide +kernel
theorem dX12_seeded_15 : decode cX12_seeded 15 = .ok (.getfield 9, 3) := by decide +kernel
theorem dX12_seeded_18 : decode cX12_seeded 18 = .ok (.iconst 0, 1) := by decide +kernel
theorem dX12_seeded_19 : decode cX12_seeded 19 = .ok (.iaload, 1) := by decide +kernel
theorem dX12_seeded_20 : decode cX12_seeded 20 = .ok (.ifCond .ne 6, 3) := by decide +kernel
theorem dX12_seeded_23 : decode cX12_seeded 23 = .ok (.bipush (-3), 2) := by decide +kernel
theorem dX12_seeded_25 : decode cX12_seeded 25 = .ok (.ireturn, 1) := by decide +kernel
theorem dX12_seeded_26 : decode cX12_seeded 26 = .ok (.aload_n 0, 1) := by decide +kernel
theorem dX12_seeded_27 : decode cX12_seeded 27 = .ok (.invokevirtual 208, 3) := by decide +kernel
theorem dX12_seeded_30 : decode cX12_seeded 30 = .ok (.aload_n 0, 1) := by decide +kernel
theorem dX12_seeded_31 : decode cX12_seeded 31 = .ok (.iload_n 2, 1) := by decide +kernel
theorem dX12_seeded_32 : decode cX12_seeded 32 = .ok (.putfield 231, 3) := by decide +kernel
theorem dX12_seeded_35 : decode cX12_seeded 35 = .ok (.iconst 0, 1) := by decide +kernel
theorem dX12_seeded_36 : decode cX12_seeded 36 = .ok (.istore_n 3, 1) := by decide +kernel
theorem dX12_seeded_37 : decode cX12_seeded 37 = .ok (.iconst 0, 1) := by decide +kernel
theorem dX12_seeded_38 : decode cX12_seeded 38 = .ok (.istore 4, 2) := by decide +kernel
theorem dX12_seeded_40 : decode cX12_seeded 40 = .ok (.iload 4, 2) := by decide +kernel
theorem dX12_seeded_42 : decode cX12_seeded 42 = .ok (.iload_n 1, 1) := by decide +kernel
theorem dX12_seeded_43 : decode cX12_seeded 43 = .ok (.if_icmp .ge 73, 3) := by decide +kernel
theorem dX12_seeded_46 : decode cX12_seeded 46 = .ok (.aload_n 0, 1) := by decide +kernel
theorem dX12_seeded_47 : decode cX12_seeded 47 = .ok (.aload_n 0, 1) := by decide +kernel
theorem dX12_seeded_48 : decode cX12_seeded 48 = .ok (.getfield 9, 3) := by decide +kernel
theorem dX12_seeded_51 : decode cX12_seeded 51 = .ok (.iconst 0, 1) := by decide +kernel
theorem dX12_seeded_52 : decode cX12_seeded 52 = .ok (.iaload, 1) := by decide +kernel
theorem dX12_seeded_53 : decode cX12_seeded 53 = .ok (.invokevirtual 239, 3) := by decide +kernel
theorem dX12_seeded_56 : decode cX12_seeded 56 = .ok (.istore 5, 2) := by decide +kernel
theorem dX12_seeded_58 : decode cX12_seeded 58 = .ok (.aload_n 0, 1) := by decide +kernel
theorem dX12_seeded_59 : decode cX12_seeded 59 = .ok (.iload 5, 2) := by decide +kernel
theorem dX12_seeded_61 : decode cX12_seeded 61 = .ok (.aload_n 0, 1) := by decide +kernel
theorem dX12_seeded_62 : decode cX12_seeded 62 = .ok (.iconst 2, 1) := by decide +kernel
theorem dX12_seeded_63 : decode cX12_seeded 63 = .ok (.invokevirtual 239, 3) := by decide +kernel
theorem dX12_seeded_66 : decode cX12_seeded 66 = .ok (.invokevirtual 78, 3) := by decide +kernel
theorem dX12_seeded_69 : decode cX12_seeded 69 = .ok (.istore 6, 2) := by decide +kernel
theorem dX12_seeded_71 : decode cX12_seeded 71 = .ok (.iload 6, 2) := by decide +kernel
theorem dX12_seeded_73 : decode cX12_seeded 73 = .ok (.ifCond .lt 19, 3) := by decide +kernel
theorem dX12_seeded_76 : decode cX12_seeded 76 = .ok (.aload_n 0, 1) := by decide +kernel
theorem dX12_seeded_77 : decode cX12_seeded 77 = .ok (.iload 6, 2) := by decide +kernel
theorem dX12_seeded_79 : decode cX12_seeded 79 = .ok (.iload 5, 2) := by decide +kernel
theorem dX12_seeded_81 : decode cX12_seeded 81 = .ok (.iconst 1, 1) := by decide +kernel
theorem dX12_seeded_82 : decode cX12_seeded 82 = .ok (.invokevirtual 147, 3) := by decide +kernel
theorem dX12_seeded_85 : decode cX12_seeded 85 = .ok (.ifCond .eq 7, 3) := by decide +kernel
theorem dX12_seeded_88 : decode cX12_seeded 88 = .ok (.iconst 1, 1) := by decide +kernel
theorem dX12_seeded_89 : decode cX12_seeded 89 = .ok (.goto 4, 3) := by decide +kernel
theorem dX12_seeded_92 : decode cX12_seeded 92 = .ok (.iconst 0, 1) := by decide +kernel
theorem dX12_seeded_93 : decode cX12_seeded 93 = .ok (.istore 7, 2) := by decide +kernel
theorem dX12_seeded_95 : decode cX12_seeded 95 = .ok (.iload_n 3, 1) := by decide +kernel
theorem dX12_seeded_96 : decode cX12_seeded 96 = .ok (.aload_n 0, 1) := by decide +kernel
theorem dX12_seeded_97 : decode cX12_seeded 97 = .ok (.invokevirtual 183, 3) := by decide +kernel
theorem dX12_seeded_100 : decode cX12_seeded 100 = .ok (.ifCond .eq 7, 3) := by decide +kernel
theorem dX12_seeded_103 : decode cX12_seeded 103 = .ok (.iconst 1, 1) := by decide +kernel
theorem dX12_seeded_104 : decode cX12_seeded 104 = .ok (.goto 4, 3) := by decide +kernel
theorem dX12_seeded_107 : decode cX12_seeded 107 = .ok (.iconst 0, 1) := by decide +kernel
theorem dX12_seeded_108 : decode cX12_seeded 108 = .ok (.iadd, 1) := by decide +kernel
theorem dX12_seeded_109 : decode cX12_seeded 109 = .ok (.istore_n 3, 1) := by decide +kernel
theorem dX12_seeded_110 : decode cX12_seeded 110 = .ok (.iinc 4 1, 3) := by decide +kernel
theorem dX12_seeded_113 : decode cX12_seeded 113 = .ok (.goto (-73), 3) := by decide +kernel
theorem dX12_seeded_116 : decode cX12_seeded 116 = .ok (.aload_n 0, 1) := by decide +kernel
theorem dX12_seeded_117 : decode cX12_seeded 117 = .ok (.invokevirtual 211, 3) := by decide +kernel
theorem dX12_seeded_120 : decode cX12_seeded 120 = .ok (.iload_n 3, 1) := by decide +kernel
theorem dX12_seeded_121 : decode cX12_seeded 121 = .ok (.ireturn, 1) := by decide +kernel
set_option maxRecDepth 20000 in
theorem ggX12_judge_X12_wrongRow : GoodIn wsX12_judge wsX12_wrongRow := goodIn_r _ [9, 10, 1, 11, 12, 8, 13, 14, 15, 16, 17, 31, 32, 33, 34, 35, 36, 37, 38, 39, 40, 41, 42, 43, 44, 45, 46, 47, 48, 49, 50, 51, 52, 53, 54] (by decide +kernel) (by decide +kernel)
set_option maxRecDepth 20000 in
theorem gX12_judge_X12_wrongRow : GoodIn wsX12_judge (wsV RX12 157 RX12 yX12_wrongRow wsX12_wrongRow) := goodIn_app (goodIn_of _ (by decide +kernel)) ggX12_judge_X12_wrongRow
set_option maxRecDepth 20000 in
theorem ggX12_judge_X12_toldAt : GoodIn wsX12_judge wsX12_toldAt := goodIn_r _ [21, 22, 31, 32, 33, 34, 35, 36, 37, 38, 39, 40, 41, 42, 43, 44, 45, 46, 47, 48, 49, 50, 51, 52, 53, 54] (by decide +kernel) (by decide +kernel)
set_option maxRecDepth 20000 in
theorem gX12_judge_X12_toldAt : GoodIn wsX12_judge (wsV RX12 228 RX12 yX12_toldAt wsX12_toldAt) := goodIn_app (goodIn_of _ (by decide +kernel)) ggX12_judge_X12_toldAt
set_option maxRecDepth 20000 in
theorem ggX12_judge_X12_purse : GoodIn wsX12_judge wsX12_purse := goodIn_r _ [26, 27, 28, 29, 8, 30, 4, 31, 32, 33, 34, 35, 36, 37, 38, 39, 40, 41, 42, 43, 44, 45, 46, 47, 48, 49, 50, 51, 52, 53, 54] (by decide +kernel) (by decide +kernel)
set_option maxRecDepth 20000 in
theorem gX12_judge_X12_purse : GoodIn wsX12_judge (wsV RX12 68 RX12 yX12_purse wsX12_purse) := goodIn_app (goodIn_of _ (by decide +kernel)) ggX12_judge_X12_purse
theorem dX12_judge_0 : decode cX12_judge 0 = .ok (.aload_n 0, 1) := by decide +kernel
theorem dX12_judge_1 : decode cX12_judge 1 = .ok (.iload_n 1, 1) := by decide +kernel
theorem dX12_judge_2 : decode cX12_judge 2 = .ok (.iconst (-1), 1) := by decide +kernel
theorem dX12_judge_3 : decode cX12_judge 3 = .ok (.invokevirtual 157, 3) := by decide +kernel
theorem dX12_judge_6 : decode cX12_judge 6 = .ok (.istore_n 2, 1) := by decide +kernel
theorem dX12_judge_7 : decode cX12_judge 7 = .ok (.iload_n 2, 1) := by decide +kernel
theorem dX12_judge_8 : decode cX12_judge 8 = .ok (.ifCond .eq 5, 3) := by decide +kernel
theorem dX12_judge_11 : decode cX12_judge 11 = .ok (.iload_n 2, 1) := by decide +kernel
theorem dX12_judge_12 : decode cX12_judge 12 = .ok (.ireturn, 1) := by decide +kernel
theorem dX12_judge_13 : decode cX12_judge 13 = .ok (.aload_n 0, 1) := by decide +kernel
theorem dX12_judge_14 : decode cX12_judge 14 = .ok (.getfield 25, 3) := by decide +kernel
theorem dX12_judge_17 : decode cX12_judge 17 = .ok (.iload_n 1, 1) := by decide +kernel
theorem dX12_judge_18 : decode cX12_judge 18 = .ok (.iaload, 1) := by decide +kernel
theorem dX12_judge_19 : decode cX12_judge 19 = .ok (.ifCond .ne 8, 3) := by decide +kernel
theorem dX12_judge_22 : decode cX12_judge 22 = .ok (.bipush (-128), 2) := by decide +kernel
theorem dX12_judge_24 : decode cX12_judge 24 = .ok (.goto 21, 3) := by decide +kernel
theorem dX12_judge_27 : decode cX12_judge 27 = .ok (.aload_n 0, 1) := by decide +kernel
theorem dX12_judge_28 : decode cX12_judge 28 = .ok (.getfield 25, 3) := by decide +kernel
theorem dX12_judge_31 : decode cX12_judge 31 = .ok (.iload_n 1, 1) := by decide +kernel
theorem dX12_judge_32 : decode cX12_judge 32 = .ok (.iaload, 1) := by decide +kernel
theorem dX12_judge_33 : decode cX12_judge 33 = .ok (.iconst 1, 1) := by decide +kernel
theorem dX12_judge_34 : decode cX12_judge 34 = .ok (.if_icmp .ne 9, 3) := by decide +kernel
theorem dX12_judge_37 : decode cX12_judge 37 = .ok (.sipush (-32768), 3) := by decide +kernel
theorem dX12_judge_40 : decode cX12_judge 40 = .ok (.goto 5, 3) := by decide +kernel
theorem dX12_judge_43 : decode cX12_judge 43 = .ok (.ldc 242, 2) := by decide +kernel
theorem dX12_judge_45 : decode cX12_judge 45 = .ok (.istore_n 3, 1) := by decide +kernel
theorem dX12_judge_46 : decode cX12_judge 46 = .ok (.iconst 0, 1) := by decide +kernel
theorem dX12_judge_47 : decode cX12_judge 47 = .ok (.istore 4, 2) := by decide +kernel
theorem dX12_judge_49 : decode cX12_judge 49 = .ok (.iload 4, 2) := by decide +kernel
theorem dX12_judge_51 : decode cX12_judge 51 = .ok (.aload_n 0, 1) := by decide +kernel
theorem dX12_judge_52 : decode cX12_judge 52 = .ok (.getfield 28, 3) := by decide +kernel
theorem dX12_judge_55 : decode cX12_judge 55 = .ok (.iload_n 1, 1) := by decide +kernel
theorem dX12_judge_56 : decode cX12_judge 56 = .ok (.iaload, 1) := by decide +kernel
theorem dX12_judge_57 : decode cX12_judge 57 = .ok (.if_icmp .ge 50, 3) := by decide +kernel
theorem dX12_judge_60 : decode cX12_judge 60 = .ok (.iload 4, 2) := by decide +kernel
theorem dX12_judge_62 : decode cX12_judge 62 = .ok (.aload_n 0, 1) := by decide +kernel
theorem dX12_judge_63 : decode cX12_judge 63 = .ok (.getfield 9, 3) := by decide +kernel
theorem dX12_judge_66 : decode cX12_judge 66 = .ok (.iconst 0, 1) := by decide +kernel
theorem dX12_judge_67 : decode cX12_judge 67 = .ok (.iaload, 1) := by decide +kernel
theorem dX12_judge_68 : decode cX12_judge 68 = .ok (.if_icmp .eq 30, 3) := by decide +kernel
theorem dX12_judge_71 : decode cX12_judge 71 = .ok (.aload_n 0, 1) := by decide +kernel
theorem dX12_judge_72 : decode cX12_judge 72 = .ok (.iload_n 1, 1) := by decide +kernel
theorem dX12_judge_73 : decode cX12_judge 73 = .ok (.iload 4, 2) := by decide +kernel
theorem dX12_judge_75 : decode cX12_judge 75 = .ok (.invokevirtual 228, 3) := by decide +kernel
theorem dX12_judge_78 : decode cX12_judge 78 = .ok (.iload_n 3, 1) := by decide +kernel
theorem dX12_judge_79 : decode cX12_judge 79 = .ok (.if_icmp .eq 22, 3) := by decide +kernel
theorem dX12_judge_82 : decode cX12_judge 82 = .ok (.aload_n 0, 1) := by decide +kernel
theorem dX12_judge_83 : decode cX12_judge 83 = .ok (.iload_n 1, 1) := by decide +kernel
theorem dX12_judge_84 : decode cX12_judge 84 = .ok (.iload 4, 2) := by decide +kernel
theorem dX12_judge_86 : decode cX12_judge 86 = .ok (.invokevirtual 228, 3) := by decide +kernel
theorem dX12_judge_89 : decode cX12_judge 89 = .ok (.aload_n 0, 1) := by decide +kernel
theorem dX12_judge_90 : decode cX12_judge 90 = .ok (.iload 4, 2) := by decide +kernel
theorem dX12_judge_92 : decode cX12_judge 92 = .ok (.invokevirtual 68, 3) := by decide +kernel
theorem dX12_judge_95 : decode cX12_judge 95 = .ok (.if_icmp .eq 6, 3) := by decide +kernel
theorem dX12_judge_98 : decode cX12_judge 98 = .ok (.iload 4, 2) := by decide +kernel
theorem dX12_judge_100 : decode cX12_judge 100 = .ok (.ireturn, 1) := by decide +kernel
theorem dX12_judge_101 : decode cX12_judge 101 = .ok (.iinc 4 1, 3) := by decide +kernel
theorem dX12_judge_104 : decode cX12_judge 104 = .ok (.goto (-55), 3) := by decide +kernel
theorem dX12_judge_107 : decode cX12_judge 107 = .ok (.aload_n 0, 1) := by decide +kernel
theorem dX12_judge_108 : decode cX12_judge 108 = .ok (.getfield 28, 3) := by decide +kernel
theorem dX12_judge_111 : decode cX12_judge 111 = .ok (.iload_n 1, 1) := by decide +kernel
theorem dX12_judge_112 : decode cX12_judge 112 = .ok (.iaload, 1) := by decide +kernel
theorem dX12_judge_113 : decode cX12_judge 113 = .ok (.aload_n 0, 1) := by decide +kernel
theorem dX12_judge_114 : decode cX12_judge 114 = .ok (.getfield 9, 3) := by decide +kernel
theorem dX12_judge_117 : decode cX12_judge 117 = .ok (.iconst 0, 1) := by decide +kernel
theorem dX12_judge_118 : decode cX12_judge 118 = .ok (.iaload, 1) := by decide +kernel
theorem dX12_judge_119 : decode cX12_judge 119 = .ok (.if_icmp .ge 12, 3) := by decide +kernel
theorem dX12_judge_122 : decode cX12_judge 122 = .ok (.aload_n 0, 1) := by decide +kernel
theorem dX12_judge_123 : decode cX12_judge 123 = .ok (.getfield 28, 3) := by decide +kernel
theorem dX12_judge_126 : decode cX12_judge 126 = .ok (.iload_n 1, 1) := by decide +kernel
theorem dX12_judge_127 : decode cX12_judge 127 = .ok (.iaload, 1) := by decide +kernel
theorem dX12_judge_128 : decode cX12_judge 128 = .ok (.goto 5, 3) := by decide +kernel
theorem dX12_judge_131 : decode cX12_judge 131 = .ok (.bipush (-4), 2) := by decide +kernel
theorem dX12_judge_133 : decode cX12_judge 133 = .ok (.ireturn, 1) := by decide +kernel
set_option maxRecDepth 20000 in
theorem ggX12_image_X12_lays : GoodIn wsX12_image wsX12_lays := goodIn_r _ [7] (by decide +kernel) (by decide +kernel)
set_option maxRecDepth 20000 in
theorem gX12_image_X12_lays : GoodIn wsX12_image (va_wsS RX12 60 yX12_lays wsX12_lays) := goodIn_app (goodIn_of _ (by decide +kernel)) ggX12_image_X12_lays
set_option maxRecDepth 20000 in
theorem ggX12_image_X12_coins : GoodIn wsX12_image wsX12_coins := goodIn_r _ [11, 1, 12, 13, 14, 6, 15, 16, 17, 18, 19, 20, 21, 22, 23, 24, 25, 26, 27, 28, 29, 30, 31, 32, 33, 34, 35, 36, 37, 38, 39, 40, 41, 42, 43] (by decide +kernel) (by decide +kernel)
set_option maxRecDepth 20000 in
theorem gX12_image_X12_coins : GoodIn wsX12_image (wsV RX12 180 RX12 yX12_coins wsX12_coins) := goodIn_app (goodIn_of _ (by decide +kernel)) ggX12_image_X12_coins
theorem dX12_image_0 : decode cX12_image 0 = .ok (.aload_n 0, 1) := by decide +kernel
theorem dX12_image_1 : decode cX12_image 1 = .ok (.getfield 9, 3) := by decide +kernel
theorem dX12_image_4 : decode cX12_image 4 = .ok (.aload_n 0, 1) := by decide +kernel
theorem dX12_image_5 : decode cX12_image 5 = .ok (.getfield 13, 3) := by decide +kernel
theorem dX12_image_8 : decode cX12_image 8 = .ok (.invokestatic 60, 3) := by decide +kernel
theorem dX12_image_11 : decode cX12_image 11 = .ok (.aload_n 0, 1) := by decide +kernel
theorem dX12_image_12 : decode cX12_image 12 = .ok (.iconst 1, 1) := by decide +kernel
theorem dX12_image_13 : decode cX12_image 13 = .ok (.putfield 243, 3) := by decide +kernel
theorem dX12_image_16 : decode cX12_image 16 = .ok (.aload_n 0, 1) := by decide +kernel
theorem dX12_image_17 : decode cX12_image 17 = .ok (.invokevirtual 180, 3) := by decide +kernel
theorem dX12_image_20 : decode cX12_image 20 = .ok (.ireturn, 1) := by decide +kernel
set_option maxRecDepth 20000 in
theorem ggX12_restore_X12_lays : GoodIn wsX12_restore wsX12_lays := goodIn_r _ [7] (by decide +kernel) (by decide +kernel)
set_option maxRecDepth 20000 in
theorem gX12_restore_X12_lays : GoodIn wsX12_restore (va_wsS RX12 60 yX12_lays wsX12_lays) := goodIn_app (goodIn_of _ (by decide +kernel)) ggX12_restore_X12_lays
set_option maxRecDepth 20000 in
theorem ggX12_restore_X12_coins : GoodIn wsX12_restore wsX12_coins := goodIn_r _ [11, 3, 12, 13, 14, 6, 15, 16, 17, 18, 19, 20, 21, 22, 23, 24, 25, 26, 27, 28, 29, 30, 31, 32, 33, 34, 35, 36, 37, 38, 39, 40, 41, 42, 43] (by decide +kernel) (by decide +kernel)
set_option maxRecDepth 20000 in
theorem gX12_restore_X12_coins : GoodIn wsX12_restore (wsV RX12 180 RX12 yX12_coins wsX12_coins) := goodIn_app (goodIn_of _ (by decide +kernel)) ggX12_restore_X12_coins
theorem dX12_restore_0 : decode cX12_restore 0 = .ok (.aload_n 0, 1) := by decide +kernel
theorem dX12_restore_1 : decode cX12_restore 1 = .ok (.getfield 243, 3) := by decide +kernel
theorem dX12_restore_4 : decode cX12_restore 4 = .ok (.ifCond .ne 6, 3) := by decide +kernel
theorem dX12_restore_7 : decode cX12_restore 7 = .ok (.bipush (-3), 2) := by decide +kernel
theorem dX12_restore_9 : decode cX12_restore 9 = .ok (.ireturn, 1) := by decide +kernel
theorem dX12_restore_10 : decode cX12_restore 10 = .ok (.aload_n 0, 1) := by decide +kernel
theorem dX12_restore_11 : decode cX12_restore 11 = .ok (.getfield 13, 3) := by decide +kernel
theorem dX12_restore_14 : decode cX12_restore 14 = .ok (.aload_n 0, 1) := by decide +kernel
theorem dX12_restore_15 : decode cX12_restore 15 = .ok (.getfield 9, 3) := by decide +kernel
theorem dX12_restore_18 : decode cX12_restore 18 = .ok (.invokestatic 60, 3) := by decide +kernel
theorem dX12_restore_21 : decode cX12_restore 21 = .ok (.aload_n 0, 1) := by decide +kernel
theorem dX12_restore_22 : decode cX12_restore 22 = .ok (.invokevirtual 180, 3) := by decide +kernel
theorem dX12_restore_25 : decode cX12_restore 25 = .ok (.ireturn, 1) := by decide +kernel
set_option maxRecDepth 20000 in
theorem ggX12_count_X12_coins : GoodIn wsX12_count wsX12_coins := goodIn_r _ [6, 1, 7, 8, 9, 5, 10, 11, 12, 13, 14, 57, 58, 59, 60, 61, 62, 63, 64, 65, 66, 67, 68, 69, 70, 71, 72, 73, 74, 75, 76, 77, 78, 79, 80] (by decide +kernel) (by decide +kernel)
set_option maxRecDepth 20000 in
theorem gX12_count_X12_coins : GoodIn wsX12_count (wsV RX12 180 RX12 yX12_coins wsX12_coins) := goodIn_app (goodIn_of _ (by decide +kernel)) ggX12_count_X12_coins
set_option maxRecDepth 20000 in
theorem ggX12_count_X12_breachesOf : GoodIn wsX12_count wsX12_breachesOf := goodIn_r _ [18, 7, 8, 9, 5, 10, 11, 12, 13, 14, 1, 19, 20, 21, 22, 23, 24, 25, 26, 27, 28, 29, 30, 31, 32, 33, 34, 35, 36, 37, 38, 39, 40, 41, 42, 43, 44, 45, 46, 47, 48, 49, 50, 51, 52, 53, 54, 55, 56, 57, 58, 59, 60, 61, 62, 63, 64, 65, 66, 67, 68, 69, 70, 71, 72, 73, 74, 75, 76, 77, 78, 79, 80] (by decide +kernel) (by decide +kernel)
set_option maxRecDepth 20000 in
theorem gX12_count_X12_breachesOf : GoodIn wsX12_count (wsV RX12 96 RX12 yX12_breachesOf wsX12_breachesOf) := goodIn_app (goodIn_of _ (by decide +kernel)) ggX12_count_X12_breachesOf
theorem dX12_count_0 : decode cX12_count 0 = .ok (.iconst 0, 1) := by decide +kernel
theorem dX12_count_1 : decode cX12_count 1 = .ok (.istore_n 2, 1) := by decide +kernel
theorem dX12_count_2 : decode cX12_count 2 = .ok (.iload_n 1, 1) := by decide +kernel
theorem dX12_count_3 : decode cX12_count 3 = .ok (.tableswitch 77 0 3 #[29, 29, 36, 41], 29) := by decide +kernel
theorem dX12_count_32 : decode cX12_count 32 = .ok (.aload_n 0, 1) := by decide +kernel
theorem dX12_count_33 : decode cX12_count 33 = .ok (.getfield 9, 3) := by decide +kernel
theorem dX12_count_36 : decode cX12_count 36 = .ok (.iload_n 1, 1) := by decide +kernel
theorem dX12_count_37 : decode cX12_count 37 = .ok (.iaload, 1) := by decide +kernel
theorem dX12_count_38 : decode cX12_count 38 = .ok (.ireturn, 1) := by decide +kernel
theorem dX12_count_39 : decode cX12_count 39 = .ok (.aload_n 0, 1) := by decide +kernel
theorem dX12_count_40 : decode cX12_count 40 = .ok (.invokevirtual 180, 3) := by decide +kernel
theorem dX12_count_43 : decode cX12_count 43 = .ok (.ireturn, 1) := by decide +kernel
theorem dX12_count_44 : decode cX12_count 44 = .ok (.iconst 0, 1) := by decide +kernel
theorem dX12_count_45 : decode cX12_count 45 = .ok (.istore_n 3, 1) := by decide +kernel
theorem dX12_count_46 : decode cX12_count 46 = .ok (.iload_n 3, 1) := by decide +kernel
theorem dX12_count_47 : decode cX12_count 47 = .ok (.aload_n 0, 1) := by decide +kernel
theorem dX12_count_48 : decode cX12_count 48 = .ok (.getfield 9, 3) := by decide +kernel
theorem dX12_count_51 : decode cX12_count 51 = .ok (.iconst 0, 1) := by decide +kernel
theorem dX12_count_52 : decode cX12_count 52 = .ok (.iaload, 1) := by decide +kernel
theorem dX12_count_53 : decode cX12_count 53 = .ok (.if_icmp .ge 25, 3) := by decide +kernel
theorem dX12_count_56 : decode cX12_count 56 = .ok (.iload_n 2, 1) := by decide +kernel
theorem dX12_count_57 : decode cX12_count 57 = .ok (.aload_n 0, 1) := by decide +kernel
theorem dX12_count_58 : decode cX12_count 58 = .ok (.iload_n 3, 1) := by decide +kernel
theorem dX12_count_59 : decode cX12_count 59 = .ok (.invokevirtual 96, 3) := by decide +kernel
theorem dX12_count_62 : decode cX12_count 62 = .ok (.ifCond .ne 7, 3) := by decide +kernel
theorem dX12_count_65 : decode cX12_count 65 = .ok (.iconst 1, 1) := by decide +kernel
theorem dX12_count_66 : decode cX12_count 66 = .ok (.goto 4, 3) := by decide +kernel
theorem dX12_count_69 : decode cX12_count 69 = .ok (.iconst 0, 1) := by decide +kernel
theorem dX12_count_70 : decode cX12_count 70 = .ok (.iadd, 1) := by decide +kernel
theorem dX12_count_71 : decode cX12_count 71 = .ok (.istore_n 2, 1) := by decide +kernel
theorem dX12_count_72 : decode cX12_count 72 = .ok (.iinc 3 1, 3) := by decide +kernel
theorem dX12_count_75 : decode cX12_count 75 = .ok (.goto (-29), 3) := by decide +kernel
theorem dX12_count_78 : decode cX12_count 78 = .ok (.iload_n 2, 1) := by decide +kernel
theorem dX12_count_79 : decode cX12_count 79 = .ok (.ireturn, 1) := by decide +kernel
theorem dX12_count_80 : decode cX12_count 80 = .ok (.iconst (-1), 1) := by decide +kernel
theorem dX12_count_81 : decode cX12_count 81 = .ok (.ireturn, 1) := by decide +kernel
theorem dX12_feeBy_0 : decode cX12_feeBy 0 = .ok (.iload_n 0, 1) := by decide +kernel
theorem dX12_feeBy_1 : decode cX12_feeBy 1 = .ok (.tableswitch 77 1 7 #[43, 49, 51, 54, 62, 66, 74], 43) := by decide +kernel
theorem dX12_feeBy_44 : decode cX12_feeBy 44 = .ok (.iconst 5, 1) := by decide +kernel
theorem dX12_feeBy_45 : decode cX12_feeBy 45 = .ok (.iload_n 1, 1) := by decide +kernel
theorem dX12_feeBy_46 : decode cX12_feeBy 46 = .ok (.iconst 1, 1) := by decide +kernel
theorem dX12_feeBy_47 : decode cX12_feeBy 47 = .ok (.iadd, 1) := by decide +kernel
theorem dX12_feeBy_48 : decode cX12_feeBy 48 = .ok (.imul, 1) := by decide +kernel
theorem dX12_feeBy_49 : decode cX12_feeBy 49 = .ok (.ireturn, 1) := by decide +kernel
theorem dX12_feeBy_50 : decode cX12_feeBy 50 = .ok (.iconst 3, 1) := by decide +kernel
theorem dX12_feeBy_51 : decode cX12_feeBy 51 = .ok (.ireturn, 1) := by decide +kernel
theorem dX12_feeBy_52 : decode cX12_feeBy 52 = .ok (.bipush 8, 2) := by decide +kernel
theorem dX12_feeBy_54 : decode cX12_feeBy 54 = .ok (.ireturn, 1) := by decide +kernel
theorem dX12_feeBy_55 : decode cX12_feeBy 55 = .ok (.iconst 5, 1) := by decide +kernel
theorem dX12_feeBy_56 : decode cX12_feeBy 56 = .ok (.iload_n 1, 1) := by decide +kernel
theorem dX12_feeBy_57 : decode cX12_feeBy 57 = .ok (.iconst 1, 1) := by decide +kernel
theorem dX12_feeBy_58 : decode cX12_feeBy 58 = .ok (.iadd, 1) := by decide +kernel
theorem dX12_feeBy_59 : decode cX12_feeBy 59 = .ok (.imul, 1) := by decide +kernel
theorem dX12_feeBy_60 : decode cX12_feeBy 60 = .ok (.iconst 1, 1) := by decide +kernel
theorem dX12_feeBy_61 : decode cX12_feeBy 61 = .ok (.iadd, 1) := by decide +kernel
theorem dX12_feeBy_62 : decode cX12_feeBy 62 = .ok (.ireturn, 1) := by decide +kernel
theorem dX12_feeBy_63 : decode cX12_feeBy 63 = .ok (.iconst 3, 1) := by decide +kernel
theorem dX12_feeBy_64 : decode cX12_feeBy 64 = .ok (.iload_n 1, 1) := by decide +kernel
theorem dX12_feeBy_65 : decode cX12_feeBy 65 = .ok (.iadd, 1) := by decide +kernel
theorem dX12_feeBy_66 : decode cX12_feeBy 66 = .ok (.ireturn, 1) := by decide +kernel
theorem dX12_feeBy_67 : decode cX12_feeBy 67 = .ok (.iconst 5, 1) := by decide +kernel
theorem dX12_feeBy_68 : decode cX12_feeBy 68 = .ok (.iload_n 1, 1) := by decide +kernel
theorem dX12_feeBy_69 : decode cX12_feeBy 69 = .ok (.iconst 1, 1) := by decide +kernel
theorem dX12_feeBy_70 : decode cX12_feeBy 70 = .ok (.iadd, 1) := by decide +kernel
theorem dX12_feeBy_71 : decode cX12_feeBy 71 = .ok (.imul, 1) := by decide +kernel
theorem dX12_feeBy_72 : decode cX12_feeBy 72 = .ok (.iload_n 1, 1) := by decide +kernel
theorem dX12_feeBy_73 : decode cX12_feeBy 73 = .ok (.isub, 1) := by decide +kernel
theorem dX12_feeBy_74 : decode cX12_feeBy 74 = .ok (.ireturn, 1) := by decide +kernel
theorem dX12_feeBy_75 : decode cX12_feeBy 75 = .ok (.bipush 16, 2) := by decide +kernel
theorem dX12_feeBy_77 : decode cX12_feeBy 77 = .ok (.ireturn, 1) := by decide +kernel
theorem dX12_feeBy_78 : decode cX12_feeBy 78 = .ok (.iconst 5, 1) := by decide +kernel
theorem dX12_feeBy_79 : decode cX12_feeBy 79 = .ok (.ireturn, 1) := by decide +kernel
set_option maxRecDepth 20000 in
theorem ggX12_keep_X12_isShelf : GoodIn wsX12_keep wsX12_isShelf := goodIn_r _ [9, 1, 10, 11, 8, 12] (by decide +kernel) (by decide +kernel)
set_option maxRecDepth 20000 in
theorem gX12_keep_X12_isShelf : GoodIn wsX12_keep (va_wsS RX12 154 yX12_isShelf wsX12_isShelf) := goodIn_app (goodIn_of _ (by decide +kernel)) ggX12_keep_X12_isShelf
set_option maxRecDepth 20000 in
theorem ggX12_keep_X12_isIn : GoodIn wsX12_keep wsX12_isIn := goodIn_r _ [12] (by decide +kernel) (by decide +kernel)
set_option maxRecDepth 20000 in
theorem gX12_keep_X12_isIn : GoodIn wsX12_keep (va_wsS RX12 52 yX12_isIn wsX12_isIn) := goodIn_app (goodIn_of _ (by decide +kernel)) ggX12_keep_X12_isIn
theorem dX12_keep_0 : decode cX12_keep 0 = .ok (.iload_n 1, 1) := by decide +kernel
theorem dX12_keep_1 : decode cX12_keep 1 = .ok (.invokestatic 154, 3) := by decide +kernel
theorem dX12_keep_4 : decode cX12_keep 4 = .ok (.ifCond .eq 43, 3) := by decide +kernel
theorem dX12_keep_7 : decode cX12_keep 7 = .ok (.iload_n 2, 1) := by decide +kernel
theorem dX12_keep_8 : decode cX12_keep 8 = .ok (.i2l, 1) := by decide +kernel
theorem dX12_keep_9 : decode cX12_keep 9 = .ok (.lconst 0, 1) := by decide +kernel
theorem dX12_keep_10 : decode cX12_keep 10 = .ok (.lconst 1, 1) := by decide +kernel
theorem dX12_keep_11 : decode cX12_keep 11 = .ok (.invokestatic 52, 3) := by decide +kernel
theorem dX12_keep_14 : decode cX12_keep 14 = .ok (.ifCond .eq 33, 3) := by decide +kernel
theorem dX12_keep_17 : decode cX12_keep 17 = .ok (.iload_n 2, 1) := by decide +kernel
theorem dX12_keep_18 : decode cX12_keep 18 = .ok (.iconst 1, 1) := by decide +kernel
theorem dX12_keep_19 : decode cX12_keep 19 = .ok (.if_icmp .ne 30, 3) := by decide +kernel
theorem dX12_keep_22 : decode cX12_keep 22 = .ok (.iload_n 3, 1) := by decide +kernel
theorem dX12_keep_23 : decode cX12_keep 23 = .ok (.i2l, 1) := by decide +kernel
theorem dX12_keep_24 : decode cX12_keep 24 = .ok (.lconst 0, 1) := by decide +kernel
theorem dX12_keep_25 : decode cX12_keep 25 = .ok (.ldc2_w 50, 3) := by decide +kernel
theorem dX12_keep_28 : decode cX12_keep 28 = .ok (.invokestatic 52, 3) := by decide +kernel
theorem dX12_keep_31 : decode cX12_keep 31 = .ok (.ifCond .eq 16, 3) := by decide +kernel
theorem dX12_keep_34 : decode cX12_keep 34 = .ok (.iload 4, 2) := by decide +kernel
theorem dX12_keep_36 : decode cX12_keep 36 = .ok (.i2l, 1) := by decide +kernel
theorem dX12_keep_37 : decode cX12_keep 37 = .ok (.lconst 0, 1) := by decide +kernel
theorem dX12_keep_38 : decode cX12_keep 38 = .ok (.ldc2_w 247, 3) := by decide +kernel
theorem dX12_keep_41 : decode cX12_keep 41 = .ok (.invokestatic 52, 3) := by decide +kernel
theorem dX12_keep_44 : decode cX12_keep 44 = .ok (.ifCond .ne 5, 3) := by decide +kernel
theorem dX12_keep_47 : decode cX12_keep 47 = .ok (.iconst (-1), 1) := by decide +kernel
theorem dX12_keep_48 : decode cX12_keep 48 = .ok (.ireturn, 1) := by decide +kernel
theorem dX12_keep_49 : decode cX12_keep 49 = .ok (.aload_n 0, 1) := by decide +kernel
theorem dX12_keep_50 : decode cX12_keep 50 = .ok (.getfield 22, 3) := by decide +kernel
theorem dX12_keep_53 : decode cX12_keep 53 = .ok (.iload_n 1, 1) := by decide +kernel
theorem dX12_keep_54 : decode cX12_keep 54 = .ok (.iload_n 2, 1) := by decide +kernel
theorem dX12_keep_55 : decode cX12_keep 55 = .ok (.iastore, 1) := by decide +kernel
theorem dX12_keep_56 : decode cX12_keep 56 = .ok (.aload_n 0, 1) := by decide +kernel
theorem dX12_keep_57 : decode cX12_keep 57 = .ok (.getfield 34, 3) := by decide +kernel
theorem dX12_keep_60 : decode cX12_keep 60 = .ok (.iload_n 1, 1) := by decide +kernel
theorem dX12_keep_61 : decode cX12_keep 61 = .ok (.iload_n 3, 1) := by decide +kernel
theorem dX12_keep_62 : decode cX12_keep 62 = .ok (.iastore, 1) := by decide +kernel
theorem dX12_keep_63 : decode cX12_keep 63 = .ok (.aload_n 0, 1) := by decide +kernel
theorem dX12_keep_64 : decode cX12_keep 64 = .ok (.getfield 37, 3) := by decide +kernel
theorem dX12_keep_67 : decode cX12_keep 67 = .ok (.iload_n 1, 1) := by decide +kernel
theorem dX12_keep_68 : decode cX12_keep 68 = .ok (.iload 4, 2) := by decide +kernel
theorem dX12_keep_70 : decode cX12_keep 70 = .ok (.iastore, 1) := by decide +kernel
theorem dX12_keep_71 : decode cX12_keep 71 = .ok (.iconst 0, 1) := by decide +kernel
theorem dX12_keep_72 : decode cX12_keep 72 = .ok (.ireturn, 1) := by decide +kernel
set_option maxRecDepth 20000 in
theorem ggX12_row_X12_isShelf : GoodIn wsX12_row wsX12_isShelf := goodIn_r _ [9, 10, 11, 12, 8, 13] (by decide +kernel) (by decide +kernel)
set_option maxRecDepth 20000 in
theorem gX12_row_X12_isShelf : GoodIn wsX12_row (va_wsS RX12 154 yX12_isShelf wsX12_isShelf) := goodIn_app (goodIn_of _ (by decide +kernel)) ggX12_row_X12_isShelf
set_option maxRecDepth 20000 in
theorem ggX12_row_X12_isIn : GoodIn wsX12_row wsX12_isIn := goodIn_r _ [13] (by decide +kernel) (by decide +kernel)
set_option maxRecDepth 20000 in
theorem gX12_row_X12_isIn : GoodIn wsX12_row (va_wsS RX12 52 yX12_isIn wsX12_isIn) := goodIn_app (goodIn_of _ (by decide +kernel)) ggX12_row_X12_isIn
theorem dX12_row_0 : decode cX12_row 0 = .ok (.iload_n 1, 1) := by decide +kernel
theorem dX12_row_1 : decode cX12_row 1 = .ok (.invokestatic 154, 3) := by decide +kernel
theorem dX12_row_4 : decode cX12_row 4 = .ok (.ifCond .eq 21, 3) := by decide +kernel
theorem dX12_row_7 : decode cX12_row 7 = .ok (.iload_n 2, 1) := by decide +kernel
theorem dX12_row_8 : decode cX12_row 8 = .ok (.i2l, 1) := by decide +kernel
theorem dX12_row_9 : decode cX12_row 9 = .ok (.lconst 0, 1) := by decide +kernel
theorem dX12_row_10 : decode cX12_row 10 = .ok (.ldc2_w 226, 3) := by decide +kernel
theorem dX12_row_13 : decode cX12_row 13 = .ok (.invokestatic 52, 3) := by decide +kernel
theorem dX12_row_16 : decode cX12_row 16 = .ok (.ifCond .eq 9, 3) := by decide +kernel
theorem dX12_row_19 : decode cX12_row 19 = .ok (.iload_n 3, 1) := by decide +kernel
theorem dX12_row_20 : decode cX12_row 20 = .ok (.bipush 100, 2) := by decide +kernel
theorem dX12_row_22 : decode cX12_row 22 = .ok (.if_icmp .le 5, 3) := by decide +kernel
theorem dX12_row_25 : decode cX12_row 25 = .ok (.iconst (-1), 1) := by decide +kernel
theorem dX12_row_26 : decode cX12_row 26 = .ok (.ireturn, 1) := by decide +kernel
theorem dX12_row_27 : decode cX12_row 27 = .ok (.iload_n 3, 1) := by decide +kernel
theorem dX12_row_28 : decode cX12_row 28 = .ok (.ifCond .ge 6, 3) := by decide +kernel
theorem dX12_row_31 : decode cX12_row 31 = .ok (.bipush (-14), 2) := by decide +kernel
theorem dX12_row_33 : decode cX12_row 33 = .ok (.ireturn, 1) := by decide +kernel
theorem dX12_row_34 : decode cX12_row 34 = .ok (.aload_n 0, 1) := by decide +kernel
theorem dX12_row_35 : decode cX12_row 35 = .ok (.getfield 22, 3) := by decide +kernel
theorem dX12_row_38 : decode cX12_row 38 = .ok (.iload_n 1, 1) := by decide +kernel
theorem dX12_row_39 : decode cX12_row 39 = .ok (.iconst 2, 1) := by decide +kernel
theorem dX12_row_40 : decode cX12_row 40 = .ok (.iastore, 1) := by decide +kernel
theorem dX12_row_41 : decode cX12_row 41 = .ok (.aload_n 0, 1) := by decide +kernel
theorem dX12_row_42 : decode cX12_row 42 = .ok (.getfield 25, 3) := by decide +kernel
theorem dX12_row_45 : decode cX12_row 45 = .ok (.iload_n 1, 1) := by decide +kernel
theorem dX12_row_46 : decode cX12_row 46 = .ok (.iload_n 2, 1) := by decide +kernel
theorem dX12_row_47 : decode cX12_row 47 = .ok (.iastore, 1) := by decide +kernel
theorem dX12_row_48 : decode cX12_row 48 = .ok (.aload_n 0, 1) := by decide +kernel
theorem dX12_row_49 : decode cX12_row 49 = .ok (.getfield 28, 3) := by decide +kernel
theorem dX12_row_52 : decode cX12_row 52 = .ok (.iload_n 1, 1) := by decide +kernel
theorem dX12_row_53 : decode cX12_row 53 = .ok (.iload_n 3, 1) := by decide +kernel
theorem dX12_row_54 : decode cX12_row 54 = .ok (.iastore, 1) := by decide +kernel
theorem dX12_row_55 : decode cX12_row 55 = .ok (.iconst 0, 1) := by decide +kernel
theorem dX12_row_56 : decode cX12_row 56 = .ok (.istore 4, 2) := by decide +kernel
theorem dX12_row_58 : decode cX12_row 58 = .ok (.iload 4, 2) := by decide +kernel
theorem dX12_row_60 : decode cX12_row 60 = .ok (.bipush 100, 2) := by decide +kernel
theorem dX12_row_62 : decode cX12_row 62 = .ok (.if_icmp .ge 22, 3) := by decide +kernel
theorem dX12_row_65 : decode cX12_row 65 = .ok (.aload_n 0, 1) := by decide +kernel
theorem dX12_row_66 : decode cX12_row 66 = .ok (.getfield 31, 3) := by decide +kernel
theorem dX12_row_69 : decode cX12_row 69 = .ok (.bipush 100, 2) := by decide +kernel
theorem dX12_row_71 : decode cX12_row 71 = .ok (.iload_n 1, 1) := by decide +kernel
theorem dX12_row_72 : decode cX12_row 72 = .ok (.imul, 1) := by decide +kernel
theorem dX12_row_73 : decode cX12_row 73 = .ok (.iload 4, 2) := by decide +kernel
theorem dX12_row_75 : decode cX12_row 75 = .ok (.iadd, 1) := by decide +kernel
theorem dX12_row_76 : decode cX12_row 76 = .ok (.iconst 0, 1) := by decide +kernel
theorem dX12_row_77 : decode cX12_row 77 = .ok (.iastore, 1) := by decide +kernel
theorem dX12_row_78 : decode cX12_row 78 = .ok (.iinc 4 1, 3) := by decide +kernel
theorem dX12_row_81 : decode cX12_row 81 = .ok (.goto (-23), 3) := by decide +kernel
theorem dX12_row_84 : decode cX12_row 84 = .ok (.iconst 0, 1) := by decide +kernel
theorem dX12_row_85 : decode cX12_row 85 = .ok (.ireturn, 1) := by decide +kernel
set_option maxRecDepth 20000 in
theorem ggX12_put_X12_wrongRow : GoodIn wsX12_put wsX12_wrongRow := goodIn_r _ [8, 9, 3, 10, 11, 7, 12, 13, 14, 15, 16, 17, 18, 19, 20, 21, 22, 23, 24, 25, 26, 27, 28, 29, 30, 31, 32, 33, 34, 35, 36, 37, 38, 39, 40] (by decide +kernel) (by decide +kernel)
set_option maxRecDepth 20000 in
theorem gX12_put_X12_wrongRow : GoodIn wsX12_put (wsV RX12 157 RX12 yX12_wrongRow wsX12_wrongRow) := goodIn_app (goodIn_of _ (by decide +kernel)) ggX12_put_X12_wrongRow
set_option maxRecDepth 20000 in
theorem ggX12_put_X12_isIn : GoodIn wsX12_put wsX12_isIn := goodIn_r _ [16] (by decide +kernel) (by decide +kernel)
set_option maxRecDepth 20000 in
theorem gX12_put_X12_isIn : GoodIn wsX12_put (va_wsS RX12 52 yX12_isIn wsX12_isIn) := goodIn_app (goodIn_of _ (by decide +kernel)) ggX12_put_X12_isIn
theorem dX12_put_0 : decode cX12_put 0 = .ok (.aload_n 0, 1) := by decide +kernel
theorem dX12_put_1 : decode cX12_put 1 = .ok (.iload_n 1, 1) := by decide +kernel
theorem dX12_put_2 : decode cX12_put 2 = .ok (.iconst (-1), 1) := by decide +kernel
theorem dX12_put_3 : decode cX12_put 3 = .ok (.invokevirtual 157, 3) := by decide +kernel
theorem dX12_put_6 : decode cX12_put 6 = .ok (.istore 4, 2) := by decide +kernel
theorem dX12_put_8 : decode cX12_put 8 = .ok (.iload 4, 2) := by decide +kernel
theorem dX12_put_10 : decode cX12_put 10 = .ok (.ifCond .eq 6, 3) := by decide +kernel
theorem dX12_put_13 : decode cX12_put 13 = .ok (.iload 4, 2) := by decide +kernel
theorem dX12_put_15 : decode cX12_put 15 = .ok (.ireturn, 1) := by decide +kernel
theorem dX12_put_16 : decode cX12_put 16 = .ok (.iload_n 2, 1) := by decide +kernel
theorem dX12_put_17 : decode cX12_put 17 = .ok (.i2l, 1) := by decide +kernel
theorem dX12_put_18 : decode cX12_put 18 = .ok (.lconst 0, 1) := by decide +kernel
theorem dX12_put_19 : decode cX12_put 19 = .ok (.aload_n 0, 1) := by decide +kernel
theorem dX12_put_20 : decode cX12_put 20 = .ok (.getfield 28, 3) := by decide +kernel
theorem dX12_put_23 : decode cX12_put 23 = .ok (.iload_n 1, 1) := by decide +kernel
theorem dX12_put_24 : decode cX12_put 24 = .ok (.iaload, 1) := by decide +kernel
theorem dX12_put_25 : decode cX12_put 25 = .ok (.iconst 1, 1) := by decide +kernel
theorem dX12_put_26 : decode cX12_put 26 = .ok (.isub, 1) := by decide +kernel
theorem dX12_put_27 : decode cX12_put 27 = .ok (.i2l, 1) := by decide +kernel
theorem dX12_put_28 : decode cX12_put 28 = .ok (.invokestatic 52, 3) := by decide +kernel
theorem dX12_put_31 : decode cX12_put 31 = .ok (.ifCond .ne 6, 3) := by decide +kernel
theorem dX12_put_34 : decode cX12_put 34 = .ok (.bipush (-13), 2) := by decide +kernel
theorem dX12_put_36 : decode cX12_put 36 = .ok (.ireturn, 1) := by decide +kernel
theorem dX12_put_37 : decode cX12_put 37 = .ok (.aload_n 0, 1) := by decide +kernel
theorem dX12_put_38 : decode cX12_put 38 = .ok (.getfield 31, 3) := by decide +kernel
theorem dX12_put_41 : decode cX12_put 41 = .ok (.bipush 100, 2) := by decide +kernel
theorem dX12_put_43 : decode cX12_put 43 = .ok (.iload_n 1, 1) := by decide +kernel
theorem dX12_put_44 : decode cX12_put 44 = .ok (.imul, 1) := by decide +kernel
theorem dX12_put_45 : decode cX12_put 45 = .ok (.iload_n 2, 1) := by decide +kernel
theorem dX12_put_46 : decode cX12_put 46 = .ok (.iadd, 1) := by decide +kernel
theorem dX12_put_47 : decode cX12_put 47 = .ok (.aload_n 0, 1) := by decide +kernel
theorem dX12_put_48 : decode cX12_put 48 = .ok (.getfield 25, 3) := by decide +kernel
theorem dX12_put_51 : decode cX12_put 51 = .ok (.iload_n 1, 1) := by decide +kernel
theorem dX12_put_52 : decode cX12_put 52 = .ok (.iaload, 1) := by decide +kernel
theorem dX12_put_53 : decode cX12_put 53 = .ok (.ifCond .ne 8, 3) := by decide +kernel
theorem dX12_put_56 : decode cX12_put 56 = .ok (.iload_n 3, 1) := by decide +kernel
theorem dX12_put_57 : decode cX12_put 57 = .ok (.i2b, 1) := by decide +kernel
theorem dX12_put_58 : decode cX12_put 58 = .ok (.goto 19, 3) := by decide +kernel
theorem dX12_put_61 : decode cX12_put 61 = .ok (.aload_n 0, 1) := by decide +kernel
theorem dX12_put_62 : decode cX12_put 62 = .ok (.getfield 25, 3) := by decide +kernel
theorem dX12_put_65 : decode cX12_put 65 = .ok (.iload_n 1, 1) := by decide +kernel
theorem dX12_put_66 : decode cX12_put 66 = .ok (.iaload, 1) := by decide +kernel
theorem dX12_put_67 : decode cX12_put 67 = .ok (.iconst 1, 1) := by decide +kernel
theorem dX12_put_68 : decode cX12_put 68 = .ok (.if_icmp .ne 8, 3) := by decide +kernel
theorem dX12_put_71 : decode cX12_put 71 = .ok (.iload_n 3, 1) := by decide +kernel
theorem dX12_put_72 : decode cX12_put 72 = .ok (.i2s, 1) := by decide +kernel
theorem dX12_put_73 : decode cX12_put 73 = .ok (.goto 4, 3) := by decide +kernel
theorem dX12_put_76 : decode cX12_put 76 = .ok (.iload_n 3, 1) := by decide +kernel
theorem dX12_put_77 : decode cX12_put 77 = .ok (.iastore, 1) := by decide +kernel
theorem dX12_put_78 : decode cX12_put 78 = .ok (.iconst 0, 1) := by decide +kernel
theorem dX12_put_79 : decode cX12_put 79 = .ok (.ireturn, 1) := by decide +kernel
set_option maxRecDepth 20000 in
theorem ggX12_element_X12_isShelf : GoodIn wsX12_element wsX12_isShelf := goodIn_r _ [8, 9, 10, 11, 7, 12] (by decide +kernel) (by decide +kernel)
set_option maxRecDepth 20000 in
theorem gX12_element_X12_isShelf : GoodIn wsX12_element (va_wsS RX12 154 yX12_isShelf wsX12_isShelf) := goodIn_app (goodIn_of _ (by decide +kernel)) ggX12_element_X12_isShelf
set_option maxRecDepth 20000 in
theorem ggX12_element_X12_isIn : GoodIn wsX12_element wsX12_isIn := goodIn_r _ [12] (by decide +kernel) (by decide +kernel)
set_option maxRecDepth 20000 in
theorem gX12_element_X12_isIn : GoodIn wsX12_element (va_wsS RX12 52 yX12_isIn wsX12_isIn) := goodIn_app (goodIn_of _ (by decide +kernel)) ggX12_element_X12_isIn
theorem dX12_element_0 : decode cX12_element 0 = .ok (.aload_n 0, 1) := by decide +kernel
theorem dX12_element_1 : decode cX12_element 1 = .ok (.iload_n 1, 1) := by decide +kernel
theorem dX12_element_2 : decode cX12_element 2 = .ok (.invokestatic 154, 3) := by decide +kernel
theorem dX12_element_5 : decode cX12_element 5 = .ok (.ifCond .ne 7, 3) := by decide +kernel
theorem dX12_element_8 : decode cX12_element 8 = .ok (.iconst 1, 1) := by decide +kernel
theorem dX12_element_9 : decode cX12_element 9 = .ok (.goto 36, 3) := by decide +kernel
theorem dX12_element_12 : decode cX12_element 12 = .ok (.aload_n 0, 1) := by decide +kernel
theorem dX12_element_13 : decode cX12_element 13 = .ok (.getfield 22, 3) := by decide +kernel
theorem dX12_element_16 : decode cX12_element 16 = .ok (.iload_n 1, 1) := by decide +kernel
theorem dX12_element_17 : decode cX12_element 17 = .ok (.iaload, 1) := by decide +kernel
theorem dX12_element_18 : decode cX12_element 18 = .ok (.iconst 2, 1) := by decide +kernel
theorem dX12_element_19 : decode cX12_element 19 = .ok (.if_icmp .ne 21, 3) := by decide +kernel
theorem dX12_element_22 : decode cX12_element 22 = .ok (.iload_n 2, 1) := by decide +kernel
theorem dX12_element_23 : decode cX12_element 23 = .ok (.i2l, 1) := by decide +kernel
theorem dX12_element_24 : decode cX12_element 24 = .ok (.lconst 0, 1) := by decide +kernel
theorem dX12_element_25 : decode cX12_element 25 = .ok (.aload_n 0, 1) := by decide +kernel
theorem dX12_element_26 : decode cX12_element 26 = .ok (.getfield 28, 3) := by decide +kernel
theorem dX12_element_29 : decode cX12_element 29 = .ok (.iload_n 1, 1) := by decide +kernel
theorem dX12_element_30 : decode cX12_element 30 = .ok (.iaload, 1) := by decide +kernel
theorem dX12_element_31 : decode cX12_element 31 = .ok (.iconst 1, 1) := by decide +kernel
theorem dX12_element_32 : decode cX12_element 32 = .ok (.isub, 1) := by decide +kernel
theorem dX12_element_33 : decode cX12_element 33 = .ok (.i2l, 1) := by decide +kernel
theorem dX12_element_34 : decode cX12_element 34 = .ok (.invokestatic 52, 3) := by decide +kernel
theorem dX12_element_37 : decode cX12_element 37 = .ok (.ifCond .ne 7, 3) := by decide +kernel
theorem dX12_element_40 : decode cX12_element 40 = .ok (.iconst 2, 1) := by decide +kernel
theorem dX12_element_41 : decode cX12_element 41 = .ok (.goto 4, 3) := by decide +kernel
theorem dX12_element_44 : decode cX12_element 44 = .ok (.iconst 0, 1) := by decide +kernel
theorem dX12_element_45 : decode cX12_element 45 = .ok (.putfield 46, 3) := by decide +kernel
theorem dX12_element_48 : decode cX12_element 48 = .ok (.aload_n 0, 1) := by decide +kernel
theorem dX12_element_49 : decode cX12_element 49 = .ok (.getfield 46, 3) := by decide +kernel
theorem dX12_element_52 : decode cX12_element 52 = .ok (.ifCond .ne 18, 3) := by decide +kernel
theorem dX12_element_55 : decode cX12_element 55 = .ok (.aload_n 0, 1) := by decide +kernel
theorem dX12_element_56 : decode cX12_element 56 = .ok (.getfield 31, 3) := by decide +kernel
theorem dX12_element_59 : decode cX12_element 59 = .ok (.bipush 100, 2) := by decide +kernel
theorem dX12_element_61 : decode cX12_element 61 = .ok (.iload_n 1, 1) := by decide +kernel
theorem dX12_element_62 : decode cX12_element 62 = .ok (.imul, 1) := by decide +kernel
theorem dX12_element_63 : decode cX12_element 63 = .ok (.iload_n 2, 1) := by decide +kernel
theorem dX12_element_64 : decode cX12_element 64 = .ok (.iadd, 1) := by decide +kernel
theorem dX12_element_65 : decode cX12_element 65 = .ok (.iaload, 1) := by decide +kernel
theorem dX12_element_66 : decode cX12_element 66 = .ok (.i2l, 1) := by decide +kernel
theorem dX12_element_67 : decode cX12_element 67 = .ok (.goto 4, 3) := by decide +kernel
theorem dX12_element_70 : decode cX12_element 70 = .ok (.lconst 0, 1) := by decide +kernel
theorem dX12_element_71 : decode cX12_element 71 = .ok (.lreturn, 1) := by decide +kernel
set_option maxRecDepth 20000 in
theorem ggX12_copy_X12_isShelf : GoodIn wsX12_copy wsX12_isShelf := goodIn_r _ [8, 9, 10, 11, 7, 12] (by decide +kernel) (by decide +kernel)
set_option maxRecDepth 20000 in
theorem gX12_copy_X12_isShelf : GoodIn wsX12_copy (va_wsS RX12 154 yX12_isShelf wsX12_isShelf) := goodIn_app (goodIn_of _ (by decide +kernel)) ggX12_copy_X12_isShelf
theorem dX12_copy_0 : decode cX12_copy 0 = .ok (.iload_n 1, 1) := by decide +kernel
theorem dX12_copy_1 : decode cX12_copy 1 = .ok (.invokestatic 154, 3) := by decide +kernel
theorem dX12_copy_4 : decode cX12_copy 4 = .ok (.ifCond .eq 10, 3) := by decide +kernel
theorem dX12_copy_7 : decode cX12_copy 7 = .ok (.iload_n 3, 1) := by decide +kernel
theorem dX12_copy_8 : decode cX12_copy 8 = .ok (.invokestatic 154, 3) := by decide +kernel
theorem dX12_copy_11 : decode cX12_copy 11 = .ok (.ifCond .ne 5, 3) := by decide +kernel
theorem dX12_copy_14 : decode cX12_copy 14 = .ok (.iconst (-1), 1) := by decide +kernel
theorem dX12_copy_15 : decode cX12_copy 15 = .ok (.ireturn, 1) := by decide +kernel
theorem dX12_copy_16 : decode cX12_copy 16 = .ok (.aload_n 0, 1) := by decide +kernel
theorem dX12_copy_17 : decode cX12_copy 17 = .ok (.getfield 22, 3) := by decide +kernel
theorem dX12_copy_20 : decode cX12_copy 20 = .ok (.iload_n 1, 1) := by decide +kernel
theorem dX12_copy_21 : decode cX12_copy 21 = .ok (.iaload, 1) := by decide +kernel
theorem dX12_copy_22 : decode cX12_copy 22 = .ok (.ifCond .eq 12, 3) := by decide +kernel
theorem dX12_copy_25 : decode cX12_copy 25 = .ok (.aload_n 0, 1) := by decide +kernel
theorem dX12_copy_26 : decode cX12_copy 26 = .ok (.getfield 22, 3) := by decide +kernel
theorem dX12_copy_29 : decode cX12_copy 29 = .ok (.iload_n 3, 1) := by decide +kernel
theorem dX12_copy_30 : decode cX12_copy 30 = .ok (.iaload, 1) := by decide +kernel
theorem dX12_copy_31 : decode cX12_copy 31 = .ok (.ifCond .ne 6, 3) := by decide +kernel
theorem dX12_copy_34 : decode cX12_copy 34 = .ok (.bipush (-11), 2) := by decide +kernel
theorem dX12_copy_36 : decode cX12_copy 36 = .ok (.ireturn, 1) := by decide +kernel
theorem dX12_copy_37 : decode cX12_copy 37 = .ok (.aload_n 0, 1) := by decide +kernel
theorem dX12_copy_38 : decode cX12_copy 38 = .ok (.getfield 22, 3) := by decide +kernel
theorem dX12_copy_41 : decode cX12_copy 41 = .ok (.iload_n 1, 1) := by decide +kernel
theorem dX12_copy_42 : decode cX12_copy 42 = .ok (.iaload, 1) := by decide +kernel
theorem dX12_copy_43 : decode cX12_copy 43 = .ok (.iconst 2, 1) := by decide +kernel
theorem dX12_copy_44 : decode cX12_copy 44 = .ok (.if_icmp .ne 28, 3) := by decide +kernel
theorem dX12_copy_47 : decode cX12_copy 47 = .ok (.aload_n 0, 1) := by decide +kernel
theorem dX12_copy_48 : decode cX12_copy 48 = .ok (.getfield 22, 3) := by decide +kernel
theorem dX12_copy_51 : decode cX12_copy 51 = .ok (.iload_n 3, 1) := by decide +kernel
theorem dX12_copy_52 : decode cX12_copy 52 = .ok (.iaload, 1) := by decide +kernel
theorem dX12_copy_53 : decode cX12_copy 53 = .ok (.iconst 2, 1) := by decide +kernel
theorem dX12_copy_54 : decode cX12_copy 54 = .ok (.if_icmp .ne 18, 3) := by decide +kernel
theorem dX12_copy_57 : decode cX12_copy 57 = .ok (.aload_n 0, 1) := by decide +kernel
theorem dX12_copy_58 : decode cX12_copy 58 = .ok (.getfield 25, 3) := by decide +kernel
theorem dX12_copy_61 : decode cX12_copy 61 = .ok (.iload_n 1, 1) := by decide +kernel
theorem dX12_copy_62 : decode cX12_copy 62 = .ok (.iaload, 1) := by decide +kernel
theorem dX12_copy_63 : decode cX12_copy 63 = .ok (.aload_n 0, 1) := by decide +kernel
theorem dX12_copy_64 : decode cX12_copy 64 = .ok (.getfield 25, 3) := by decide +kernel
theorem dX12_copy_67 : decode cX12_copy 67 = .ok (.iload_n 3, 1) := by decide +kernel
theorem dX12_copy_68 : decode cX12_copy 68 = .ok (.iaload, 1) := by decide +kernel
theorem dX12_copy_69 : decode cX12_copy 69 = .ok (.if_icmp .eq 6, 3) := by decide +kernel
theorem dX12_copy_72 : decode cX12_copy 72 = .ok (.bipush (-12), 2) := by decide +kernel
theorem dX12_copy_74 : decode cX12_copy 74 = .ok (.ireturn, 1) := by decide +kernel
theorem dX12_copy_75 : decode cX12_copy 75 = .ok (.iload 5, 2) := by decide +kernel
theorem dX12_copy_77 : decode cX12_copy 77 = .ok (.ifCond .lt 39, 3) := by decide +kernel
theorem dX12_copy_80 : decode cX12_copy 80 = .ok (.iload_n 2, 1) := by decide +kernel
theorem dX12_copy_81 : decode cX12_copy 81 = .ok (.ifCond .lt 35, 3) := by decide +kernel
theorem dX12_copy_84 : decode cX12_copy 84 = .ok (.iload 4, 2) := by decide +kernel
theorem dX12_copy_86 : decode cX12_copy 86 = .ok (.ifCond .lt 30, 3) := by decide +kernel
theorem dX12_copy_89 : decode cX12_copy 89 = .ok (.iload 5, 2) := by decide +kernel
theorem dX12_copy_91 : decode cX12_copy 91 = .ok (.aload_n 0, 1) := by decide +kernel
theorem dX12_copy_92 : decode cX12_copy 92 = .ok (.getfield 28, 3) := by decide +kernel
theorem dX12_copy_95 : decode cX12_copy 95 = .ok (.iload_n 1, 1) := by decide +kernel
theorem dX12_copy_96 : decode cX12_copy 96 = .ok (.iaload, 1) := by decide +kernel
theorem dX12_copy_97 : decode cX12_copy 97 = .ok (.iload_n 2, 1) := by decide +kernel
theorem dX12_copy_98 : decode cX12_copy 98 = .ok (.isub, 1) := by decide +kernel
theorem dX12_copy_99 : decode cX12_copy 99 = .ok (.if_icmp .gt 17, 3) := by decide +kernel
theorem dX12_copy_102 : decode cX12_copy 102 = .ok (.iload 5, 2) := by decide +kernel
theorem dX12_copy_104 : decode cX12_copy 104 = .ok (.aload_n 0, 1) := by decide +kernel
theorem dX12_copy_105 : decode cX12_copy 105 = .ok (.getfield 28, 3) := by decide +kernel
theorem dX12_copy_108 : decode cX12_copy 108 = .ok (.iload_n 3, 1) := by decide +kernel
theorem dX12_copy_109 : decode cX12_copy 109 = .ok (.iaload, 1) := by decide +kernel
theorem dX12_copy_110 : decode cX12_copy 110 = .ok (.iload 4, 2) := by decide +kernel
theorem dX12_copy_112 : decode cX12_copy 112 = .ok (.isub, 1) := by decide +kernel
theorem dX12_copy_113 : decode cX12_copy 113 = .ok (.if_icmp .le 6, 3) := by decide +kernel
theorem dX12_copy_116 : decode cX12_copy 116 = .ok (.bipush (-13), 2) := by decide +kernel
theorem dX12_copy_118 : decode cX12_copy 118 = .ok (.ireturn, 1) := by decide +kernel
theorem dX12_copy_119 : decode cX12_copy 119 = .ok (.iconst 0, 1) := by decide +kernel
theorem dX12_copy_120 : decode cX12_copy 120 = .ok (.istore 6, 2) := by decide +kernel
theorem dX12_copy_122 : decode cX12_copy 122 = .ok (.iload 6, 2) := by decide +kernel
theorem dX12_copy_124 : decode cX12_copy 124 = .ok (.iload 5, 2) := by decide +kernel
theorem dX12_copy_126 : decode cX12_copy 126 = .ok (.if_icmp .ge 58, 3) := by decide +kernel
theorem dX12_copy_129 : decode cX12_copy 129 = .ok (.iload_n 2, 1) := by decide +kernel
theorem dX12_copy_130 : decode cX12_copy 130 = .ok (.iload 4, 2) := by decide +kernel
theorem dX12_copy_132 : decode cX12_copy 132 = .ok (.if_icmp .le 8, 3) := by decide +kernel
theorem dX12_copy_135 : decode cX12_copy 135 = .ok (.iload 6, 2) := by decide +kernel
theorem dX12_copy_137 : decode cX12_copy 137 = .ok (.goto 10, 3) := by decide +kernel
theorem dX12_copy_140 : decode cX12_copy 140 = .ok (.iload 5, 2) := by decide +kernel
theorem dX12_copy_142 : decode cX12_copy 142 = .ok (.iconst 1, 1) := by decide +kernel
theorem dX12_copy_143 : decode cX12_copy 143 = .ok (.isub, 1) := by decide +kernel
theorem dX12_copy_144 : decode cX12_copy 144 = .ok (.iload 6, 2) := by decide +kernel
theorem dX12_copy_146 : decode cX12_copy 146 = .ok (.isub, 1) := by decide +kernel
theorem dX12_copy_147 : decode cX12_copy 147 = .ok (.istore 7, 2) := by decide +kernel
theorem dX12_copy_149 : decode cX12_copy 149 = .ok (.aload_n 0, 1) := by decide +kernel
theorem dX12_copy_150 : decode cX12_copy 150 = .ok (.getfield 31, 3) := by decide +kernel
theorem dX12_copy_153 : decode cX12_copy 153 = .ok (.bipush 100, 2) := by decide +kernel
theorem dX12_copy_155 : decode cX12_copy 155 = .ok (.iload_n 3, 1) := by decide +kernel
theorem dX12_copy_156 : decode cX12_copy 156 = .ok (.imul, 1) := by decide +kernel
theorem dX12_copy_157 : decode cX12_copy 157 = .ok (.iload 4, 2) := by decide +kernel
theorem dX12_copy_159 : decode cX12_copy 159 = .ok (.iadd, 1) := by decide +kernel
theorem dX12_copy_160 : decode cX12_copy 160 = .ok (.iload 7, 2) := by decide +kernel
theorem dX12_copy_162 : decode cX12_copy 162 = .ok (.iadd, 1) := by decide +kernel
theorem dX12_copy_163 : decode cX12_copy 163 = .ok (.aload_n 0, 1) := by decide +kernel
theorem dX12_copy_164 : decode cX12_copy 164 = .ok (.getfield 31, 3) := by decide +kernel
theorem dX12_copy_167 : decode cX12_copy 167 = .ok (.bipush 100, 2) := by decide +kernel
theorem dX12_copy_169 : decode cX12_copy 169 = .ok (.iload_n 1, 1) := by decide +kernel
theorem dX12_copy_170 : decode cX12_copy 170 = .ok (.imul, 1) := by decide +kernel
theorem dX12_copy_171 : decode cX12_copy 171 = .ok (.iload_n 2, 1) := by decide +kernel
theorem dX12_copy_172 : decode cX12_copy 172 = .ok (.iadd, 1) := by decide +kernel
theorem dX12_copy_173 : decode cX12_copy 173 = .ok (.iload 7, 2) := by decide +kernel
theorem dX12_copy_175 : decode cX12_copy 175 = .ok (.iadd, 1) := by decide +kernel
theorem dX12_copy_176 : decode cX12_copy 176 = .ok (.iaload, 1) := by decide +kernel
theorem dX12_copy_177 : decode cX12_copy 177 = .ok (.iastore, 1) := by decide +kernel
theorem dX12_copy_178 : decode cX12_copy 178 = .ok (.iinc 6 1, 3) := by decide +kernel
theorem dX12_copy_181 : decode cX12_copy 181 = .ok (.goto (-59), 3) := by decide +kernel
theorem dX12_copy_184 : decode cX12_copy 184 = .ok (.iload 5, 2) := by decide +kernel
theorem dX12_copy_186 : decode cX12_copy 186 = .ok (.ireturn, 1) := by decide +kernel
set_option maxRecDepth 20000 in
theorem ggX12_fee_X12_wrongKept : GoodIn wsX12_fee wsX12_wrongKept := goodIn_r _ [7, 8, 9, 10, 6, 11, 12, 13, 14, 15, 19, 20, 21, 22, 23, 24, 25, 26, 27, 28, 29, 30, 31, 32, 33, 34, 35, 36, 37, 38, 39, 40, 41, 42] (by decide +kernel) (by decide +kernel)
set_option maxRecDepth 20000 in
theorem gX12_fee_X12_wrongKept : GoodIn wsX12_fee (wsV RX12 175 RX12 yX12_wrongKept wsX12_wrongKept) := goodIn_app (goodIn_of _ (by decide +kernel)) ggX12_fee_X12_wrongKept
set_option maxRecDepth 20000 in
theorem ggX12_fee_X12_feeBy : GoodIn wsX12_fee wsX12_feeBy := goodIn_r _ [18] (by decide +kernel) (by decide +kernel)
set_option maxRecDepth 20000 in
theorem gX12_fee_X12_feeBy : GoodIn wsX12_fee (va_wsS RX12 249 yX12_feeBy wsX12_feeBy) := goodIn_app (goodIn_of _ (by decide +kernel)) ggX12_fee_X12_feeBy
theorem dX12_fee_0 : decode cX12_fee 0 = .ok (.aload_n 0, 1) := by decide +kernel
theorem dX12_fee_1 : decode cX12_fee 1 = .ok (.iload_n 1, 1) := by decide +kernel
theorem dX12_fee_2 : decode cX12_fee 2 = .ok (.invokevirtual 175, 3) := by decide +kernel
theorem dX12_fee_5 : decode cX12_fee 5 = .ok (.istore_n 2, 1) := by decide +kernel
theorem dX12_fee_6 : decode cX12_fee 6 = .ok (.iload_n 2, 1) := by decide +kernel
theorem dX12_fee_7 : decode cX12_fee 7 = .ok (.ifCond .eq 7, 3) := by decide +kernel
theorem dX12_fee_10 : decode cX12_fee 10 = .ok (.iload_n 2, 1) := by decide +kernel
theorem dX12_fee_11 : decode cX12_fee 11 = .ok (.goto 18, 3) := by decide +kernel
theorem dX12_fee_14 : decode cX12_fee 14 = .ok (.aload_n 0, 1) := by decide +kernel
theorem dX12_fee_15 : decode cX12_fee 15 = .ok (.getfield 34, 3) := by decide +kernel
theorem dX12_fee_18 : decode cX12_fee 18 = .ok (.iload_n 1, 1) := by decide +kernel
theorem dX12_fee_19 : decode cX12_fee 19 = .ok (.iaload, 1) := by decide +kernel
theorem dX12_fee_20 : decode cX12_fee 20 = .ok (.aload_n 0, 1) := by decide +kernel
theorem dX12_fee_21 : decode cX12_fee 21 = .ok (.getfield 37, 3) := by decide +kernel
theorem dX12_fee_24 : decode cX12_fee 24 = .ok (.iload_n 1, 1) := by decide +kernel
theorem dX12_fee_25 : decode cX12_fee 25 = .ok (.iaload, 1) := by decide +kernel
theorem dX12_fee_26 : decode cX12_fee 26 = .ok (.invokestatic 249, 3) := by decide +kernel
theorem dX12_fee_29 : decode cX12_fee 29 = .ok (.ireturn, 1) := by decide +kernel
set_option maxRecDepth 20000 in
theorem ggX12_toss_X12_wrongKept : GoodIn wsX12_toss wsX12_wrongKept := goodIn_r _ [7, 8, 9, 10, 6, 11, 12, 13, 14, 15, 19, 20, 21, 22, 23, 24, 25, 26, 27, 28, 29, 30, 31, 32, 33, 34, 35, 36, 37, 38, 39, 40, 41, 42] (by decide +kernel) (by decide +kernel)
set_option maxRecDepth 20000 in
theorem gX12_toss_X12_wrongKept : GoodIn wsX12_toss (wsV RX12 175 RX12 yX12_wrongKept wsX12_wrongKept) := goodIn_app (goodIn_of _ (by decide +kernel)) ggX12_toss_X12_wrongKept
set_option maxRecDepth 20000 in
theorem ggX12_toss_X12_feeBy : GoodIn wsX12_toss wsX12_feeBy := goodIn_r _ [18] (by decide +kernel) (by decide +kernel)
set_option maxRecDepth 20000 in
theorem gX12_toss_X12_feeBy : GoodIn wsX12_toss (va_wsS RX12 249 yX12_feeBy wsX12_feeBy) := goodIn_app (goodIn_of _ (by decide +kernel)) ggX12_toss_X12_feeBy
theorem dX12_toss_0 : decode cX12_toss 0 = .ok (.aload_n 0, 1) := by decide +kernel
theorem dX12_toss_1 : decode cX12_toss 1 = .ok (.iload_n 1, 1) := by decide +kernel
theorem dX12_toss_2 : decode cX12_toss 2 = .ok (.invokevirtual 175, 3) := by decide +kernel
theorem dX12_toss_5 : decode cX12_toss 5 = .ok (.istore_n 2, 1) := by decide +kernel
theorem dX12_toss_6 : decode cX12_toss 6 = .ok (.iload_n 2, 1) := by decide +kernel
theorem dX12_toss_7 : decode cX12_toss 7 = .ok (.ifCond .eq 5, 3) := by decide +kernel
theorem dX12_toss_10 : decode cX12_toss 10 = .ok (.iload_n 2, 1) := by decide +kernel
theorem dX12_toss_11 : decode cX12_toss 11 = .ok (.ireturn, 1) := by decide +kernel
theorem dX12_toss_12 : decode cX12_toss 12 = .ok (.aload_n 0, 1) := by decide +kernel
theorem dX12_toss_13 : decode cX12_toss 13 = .ok (.getfield 34, 3) := by decide +kernel
theorem dX12_toss_16 : decode cX12_toss 16 = .ok (.iload_n 1, 1) := by decide +kernel
theorem dX12_toss_17 : decode cX12_toss 17 = .ok (.iaload, 1) := by decide +kernel
theorem dX12_toss_18 : decode cX12_toss 18 = .ok (.istore_n 3, 1) := by decide +kernel
theorem dX12_toss_19 : decode cX12_toss 19 = .ok (.aload_n 0, 1) := by decide +kernel
theorem dX12_toss_20 : decode cX12_toss 20 = .ok (.getfield 37, 3) := by decide +kernel
theorem dX12_toss_23 : decode cX12_toss 23 = .ok (.iload_n 1, 1) := by decide +kernel
theorem dX12_toss_24 : decode cX12_toss 24 = .ok (.iaload, 1) := by decide +kernel
theorem dX12_toss_25 : decode cX12_toss 25 = .ok (.istore 4, 2) := by decide +kernel
theorem dX12_toss_27 : decode cX12_toss 27 = .ok (.iload_n 3, 1) := by decide +kernel
theorem dX12_toss_28 : decode cX12_toss 28 = .ok (.iconst 3, 1) := by decide +kernel
theorem dX12_toss_29 : decode cX12_toss 29 = .ok (.if_icmp .eq 8, 3) := by decide +kernel
theorem dX12_toss_32 : decode cX12_toss 32 = .ok (.iload 4, 2) := by decide +kernel
theorem dX12_toss_34 : decode cX12_toss 34 = .ok (.ifCond .ne 8, 3) := by decide +kernel
theorem dX12_toss_37 : decode cX12_toss 37 = .ok (.bipush (-15), 2) := by decide +kernel
theorem dX12_toss_39 : decode cX12_toss 39 = .ok (.goto 37, 3) := by decide +kernel
theorem dX12_toss_42 : decode cX12_toss 42 = .ok (.iload_n 3, 1) := by decide +kernel
theorem dX12_toss_43 : decode cX12_toss 43 = .ok (.iconst 5, 1) := by decide +kernel
theorem dX12_toss_44 : decode cX12_toss 44 = .ok (.if_icmp .ne 11, 3) := by decide +kernel
theorem dX12_toss_47 : decode cX12_toss 47 = .ok (.bipush 100, 2) := by decide +kernel
theorem dX12_toss_49 : decode cX12_toss 49 = .ok (.iload 4, 2) := by decide +kernel
theorem dX12_toss_51 : decode cX12_toss 51 = .ok (.iadd, 1) := by decide +kernel
theorem dX12_toss_52 : decode cX12_toss 52 = .ok (.goto 24, 3) := by decide +kernel
theorem dX12_toss_55 : decode cX12_toss 55 = .ok (.iload_n 3, 1) := by decide +kernel
theorem dX12_toss_56 : decode cX12_toss 56 = .ok (.bipush 6, 2) := by decide +kernel
theorem dX12_toss_58 : decode cX12_toss 58 = .ok (.if_icmp .ne 16, 3) := by decide +kernel
theorem dX12_toss_61 : decode cX12_toss 61 = .ok (.sipush 200, 3) := by decide +kernel
theorem dX12_toss_64 : decode cX12_toss 64 = .ok (.iload_n 3, 1) := by decide +kernel
theorem dX12_toss_65 : decode cX12_toss 65 = .ok (.iload 4, 2) := by decide +kernel
theorem dX12_toss_67 : decode cX12_toss 67 = .ok (.invokestatic 249, 3) := by decide +kernel
theorem dX12_toss_70 : decode cX12_toss 70 = .ok (.iadd, 1) := by decide +kernel
theorem dX12_toss_71 : decode cX12_toss 71 = .ok (.goto 5, 3) := by decide +kernel
theorem dX12_toss_74 : decode cX12_toss 74 = .ok (.iload 4, 2) := by decide +kernel
theorem dX12_toss_76 : decode cX12_toss 76 = .ok (.ireturn, 1) := by decide +kernel
theorem dJ9_abs_0f7a4_0 : decode cJ9_abs_0f7a4 0 = .ok (.iload_n 0, 1) := by decide +kernel
theorem dJ9_abs_0f7a4_1 : decode cJ9_abs_0f7a4 1 = .ok (.ifCond .ge 8, 3) := by decide +kernel
theorem dJ9_abs_0f7a4_4 : decode cJ9_abs_0f7a4 4 = .ok (.iload_n 0, 1) := by decide +kernel
theorem dJ9_abs_0f7a4_5 : decode cJ9_abs_0f7a4 5 = .ok (.ineg, 1) := by decide +kernel
theorem dJ9_abs_0f7a4_6 : decode cJ9_abs_0f7a4 6 = .ok (.goto 4, 3) := by decide +kernel
theorem dJ9_abs_0f7a4_9 : decode cJ9_abs_0f7a4 9 = .ok (.iload_n 0, 1) := by decide +kernel
theorem dJ9_abs_0f7a4_10 : decode cJ9_abs_0f7a4 10 = .ok (.ireturn, 1) := by decide +kernel
theorem dJ9_max_7cf53_0 : decode cJ9_max_7cf53 0 = .ok (.iload_n 0, 1) := by decide +kernel
theorem dJ9_max_7cf53_1 : decode cJ9_max_7cf53 1 = .ok (.iload_n 1, 1) := by decide +kernel
theorem dJ9_max_7cf53_2 : decode cJ9_max_7cf53 2 = .ok (.if_icmp .lt 7, 3) := by decide +kernel
theorem dJ9_max_7cf53_5 : decode cJ9_max_7cf53 5 = .ok (.iload_n 0, 1) := by decide +kernel
theorem dJ9_max_7cf53_6 : decode cJ9_max_7cf53 6 = .ok (.goto 4, 3) := by decide +kernel
theorem dJ9_max_7cf53_9 : decode cJ9_max_7cf53 9 = .ok (.iload_n 1, 1) := by decide +kernel
theorem dJ9_max_7cf53_10 : decode cJ9_max_7cf53 10 = .ok (.ireturn, 1) := by decide +kernel
theorem dJ9_min_7cf53_0 : decode cJ9_min_7cf53 0 = .ok (.iload_n 0, 1) := by decide +kernel
theorem dJ9_min_7cf53_1 : decode cJ9_min_7cf53 1 = .ok (.iload_n 1, 1) := by decide +kernel
theorem dJ9_min_7cf53_2 : decode cJ9_min_7cf53 2 = .ok (.if_icmp .gt 7, 3) := by decide +kernel
theorem dJ9_min_7cf53_5 : decode cJ9_min_7cf53 5 = .ok (.iload_n 0, 1) := by decide +kernel
theorem dJ9_min_7cf53_6 : decode cJ9_min_7cf53 6 = .ok (.goto 4, 3) := by decide +kernel
theorem dJ9_min_7cf53_9 : decode cJ9_min_7cf53 9 = .ok (.iload_n 1, 1) := by decide +kernel
theorem dJ9_min_7cf53_10 : decode cJ9_min_7cf53 10 = .ok (.ireturn, 1) := by decide +kernel
theorem dJ7_fill_53178_0 : decode cJ7_fill_53178 0 = .ok (.iconst 0, 1) := by decide +kernel
theorem dJ7_fill_53178_1 : decode cJ7_fill_53178 1 = .ok (.istore_n 2, 1) := by decide +kernel
theorem dJ7_fill_53178_2 : decode cJ7_fill_53178 2 = .ok (.aload_n 0, 1) := by decide +kernel
theorem dJ7_fill_53178_3 : decode cJ7_fill_53178 3 = .ok (.arraylength, 1) := by decide +kernel
theorem dJ7_fill_53178_4 : decode cJ7_fill_53178 4 = .ok (.istore_n 3, 1) := by decide +kernel
theorem dJ7_fill_53178_5 : decode cJ7_fill_53178 5 = .ok (.iload_n 2, 1) := by decide +kernel
theorem dJ7_fill_53178_6 : decode cJ7_fill_53178 6 = .ok (.iload_n 3, 1) := by decide +kernel
theorem dJ7_fill_53178_7 : decode cJ7_fill_53178 7 = .ok (.if_icmp .ge 13, 3) := by decide +kernel
theorem dJ7_fill_53178_10 : decode cJ7_fill_53178 10 = .ok (.aload_n 0, 1) := by decide +kernel
theorem dJ7_fill_53178_11 : decode cJ7_fill_53178 11 = .ok (.iload_n 2, 1) := by decide +kernel
theorem dJ7_fill_53178_12 : decode cJ7_fill_53178 12 = .ok (.iload_n 1, 1) := by decide +kernel
theorem dJ7_fill_53178_13 : decode cJ7_fill_53178 13 = .ok (.iastore, 1) := by decide +kernel
theorem dJ7_fill_53178_14 : decode cJ7_fill_53178 14 = .ok (.iinc 2 1, 3) := by decide +kernel
theorem dJ7_fill_53178_17 : decode cJ7_fill_53178 17 = .ok (.goto (-12), 3) := by decide +kernel
theorem dJ7_fill_53178_20 : decode cJ7_fill_53178 20 = .ok (.return_, 1) := by decide +kernel
