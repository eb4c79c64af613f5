theorem dX4_stripeIs_399 : decode cX4_stripeIs 399 = .ok (.putfield 54, 3) := by decide +kernel
theorem dX4_stripeIs_402 : decode cX4_stripeIs 402 = .ok (.aload_n 0, 1) := by decide +kernel
theorem dX4_stripeIs_403 : decode cX4_stripeIs 403 = .ok (.getfield 60, 3) := by decide +kernel
theorem dX4_stripeIs_406 : decode cX4_stripeIs 406 = .ok (.iconst 4, 1) := by decide +kernel
theorem dX4_stripeIs_407 : decode cX4_stripeIs 407 = .ok (.dup2, 1) := by decide +kernel
theorem dX4_stripeIs_408 : decode cX4_stripeIs 408 = .ok (.iaload, 1) := by decide +kernel
theorem dX4_stripeIs_409 : decode cX4_stripeIs 409 = .ok (.iconst 1, 1) := by decide +kernel
theorem dX4_stripeIs_410 : decode cX4_stripeIs 410 = .ok (.iadd, 1) := by decide +kernel
theorem dX4_stripeIs_411 : decode cX4_stripeIs 411 = .ok (.iastore, 1) := by decide +kernel
theorem dX4_stripeIs_412 : decode cX4_stripeIs 412 = .ok (.aload_n 0, 1) := by decide +kernel
theorem dX4_stripeIs_413 : decode cX4_stripeIs 413 = .ok (.getfield 60, 3) := by decide +kernel
theorem dX4_stripeIs_416 : decode cX4_stripeIs 416 = .ok (.bipush 9, 2) := by decide +kernel
theorem dX4_stripeIs_418 : decode cX4_stripeIs 418 = .ok (.iload_n 3, 1) := by decide +kernel
theorem dX4_stripeIs_419 : decode cX4_stripeIs 419 = .ok (.iadd, 1) := by decide +kernel
theorem dX4_stripeIs_420 : decode cX4_stripeIs 420 = .ok (.dup2, 1) := by decide +kernel
theorem dX4_stripeIs_421 : decode cX4_stripeIs 421 = .ok (.iaload, 1) := by decide +kernel
theorem dX4_stripeIs_422 : decode cX4_stripeIs 422 = .ok (.iconst 1, 1) := by decide +kernel
theorem dX4_stripeIs_423 : decode cX4_stripeIs 423 = .ok (.iadd, 1) := by decide +kernel
theorem dX4_stripeIs_424 : decode cX4_stripeIs 424 = .ok (.iastore, 1) := by decide +kernel
theorem dX4_stripeIs_425 : decode cX4_stripeIs 425 = .ok (.iconst 0, 1) := by decide +kernel
theorem dX4_stripeIs_426 : decode cX4_stripeIs 426 = .ok (.ireturn, 1) := by decide +kernel
set_option maxRecDepth 20000 in
theorem ggX4_write_X4_isBlock : GoodIn wsX4_write wsX4_isBlock := goodIn_r _ [8, 9, 2, 10, 11, 7, 12, 122, 123, 124, 125, 126, 127, 128, 129, 130, 131, 132, 133, 134, 135, 136, 137, 138, 139, 140, 141, 142, 143, 144, 145, 146] (by decide +kernel) (by decide +kernel)
set_option maxRecDepth 20000 in
theorem gX4_write_X4_isBlock : GoodIn wsX4_write (wsV RX4 96 RX4 yX4_isBlock wsX4_isBlock) := goodIn_app (goodIn_of _ (by decide +kernel)) ggX4_write_X4_isBlock
set_option maxRecDepth 20000 in
theorem ggX4_write_X4_in : GoodIn wsX4_write wsX4_in := goodIn_r _ [12] (by decide +kernel) (by decide +kernel)
set_option maxRecDepth 20000 in
theorem gX4_write_X4_in : GoodIn wsX4_write (va_wsS RX4 74 yX4_in wsX4_in) := goodIn_app (goodIn_of _ (by decide +kernel)) ggX4_write_X4_in
set_option maxRecDepth 20000 in
theorem ggX4_write_X4_stripeIs : GoodIn wsX4_write wsX4_stripeIs := goodIn_r _ [16, 17, 2, 3, 18, 19, 20, 21, 22, 23, 24, 25, 26, 27, 28, 7, 29, 30, 31, 32, 33, 34, 35, 36, 37, 38, 39, 40, 41, 42, 43, 44, 45, 46, 47, 48, 49, 50, 51, 52, 53, 54, 55, 56, 57, 58, 59, 60, 61, 62, 63, 64, 65, 66, 67, 68, 69, 70, 71, 72, 73, 74, 75, 76, 77, 78, 79, 80, 81, 82, 83, 84, 85, 86, 87, 88, 89, 90, 91, 92, 93, 94, 95, 96, 97, 98, 99, 100, 101, 102, 103, 104, 105, 106, 107, 108, 109, 110, 111, 112, 113, 114, 115, 1, 116, 117, 118, 119, 120, 121, 122, 123, 124, 125, 126, 127, 128, 129, 130, 131, 132, 133, 134, 135, 136, 137, 138, 139, 140, 141, 142, 143, 144, 145, 146] (by decide +kernel) (by decide +kernel)
set_option maxRecDepth 20000 in
theorem gX4_write_X4_stripeIs : GoodIn wsX4_write (wsV RX4 170 RX4 yX4_stripeIs wsX4_stripeIs) := goodIn_app (goodIn_of _ (by decide +kernel)) ggX4_write_X4_stripeIs
theorem dX4_write_0 : decode cX4_write 0 = .ok (.aload_n 0, 1) := by decide +kernel
theorem dX4_write_1 : decode cX4_write 1 = .ok (.getfield 103, 3) := by decide +kernel
theorem dX4_write_4 : decode cX4_write 4 = .ok (.ifCond .eq 6, 3) := by decide +kernel
theorem dX4_write_7 : decode cX4_write 7 = .ok (.bipush (-100), 2) := by decide +kernel
theorem dX4_write_9 : decode cX4_write 9 = .ok (.ireturn, 1) := by decide +kernel
theorem dX4_write_10 : decode cX4_write 10 = .ok (.aload_n 0, 1) := by decide +kernel
theorem dX4_write_11 : decode cX4_write 11 = .ok (.iload_n 1, 1) := by decide +kernel
theorem dX4_write_12 : decode cX4_write 12 = .ok (.i2l, 1) := by decide +kernel
theorem dX4_write_13 : decode cX4_write 13 = .ok (.invokevirtual 96, 3) := by decide +kernel
theorem dX4_write_16 : decode cX4_write 16 = .ok (.ifCond .ne 6, 3) := by decide +kernel
theorem dX4_write_19 : decode cX4_write 19 = .ok (.bipush (-101), 2) := by decide +kernel
theorem dX4_write_21 : decode cX4_write 21 = .ok (.ireturn, 1) := by decide +kernel
theorem dX4_write_22 : decode cX4_write 22 = .ok (.iload_n 2, 1) := by decide +kernel
theorem dX4_write_23 : decode cX4_write 23 = .ok (.i2l, 1) := by decide +kernel
theorem dX4_write_24 : decode cX4_write 24 = .ok (.lconst 1, 1) := by decide +kernel
theorem dX4_write_25 : decode cX4_write 25 = .ok (.iconst 2, 1) := by decide +kernel
theorem dX4_write_26 : decode cX4_write 26 = .ok (.aload_n 0, 1) := by decide +kernel
theorem dX4_write_27 : decode cX4_write 27 = .ok (.getfield 69, 3) := by decide +kernel
theorem dX4_write_30 : decode cX4_write 30 = .ok (.iconst 1, 1) := by decide +kernel
theorem dX4_write_31 : decode cX4_write 31 = .ok (.isub, 1) := by decide +kernel
theorem dX4_write_32 : decode cX4_write 32 = .ok (.imul, 1) := by decide +kernel
theorem dX4_write_33 : decode cX4_write 33 = .ok (.i2l, 1) := by decide +kernel
theorem dX4_write_34 : decode cX4_write 34 = .ok (.invokestatic 74, 3) := by decide +kernel
theorem dX4_write_37 : decode cX4_write 37 = .ok (.ifCond .ne 6, 3) := by decide +kernel
theorem dX4_write_40 : decode cX4_write 40 = .ok (.bipush (-102), 2) := by decide +kernel
theorem dX4_write_42 : decode cX4_write 42 = .ok (.ireturn, 1) := by decide +kernel
theorem dX4_write_43 : decode cX4_write 43 = .ok (.aload_n 0, 1) := by decide +kernel
theorem dX4_write_44 : decode cX4_write 44 = .ok (.iload_n 1, 1) := by decide +kernel
theorem dX4_write_45 : decode cX4_write 45 = .ok (.i2l, 1) := by decide +kernel
theorem dX4_write_46 : decode cX4_write 46 = .ok (.iload_n 2, 1) := by decide +kernel
theorem dX4_write_47 : decode cX4_write 47 = .ok (.i2l, 1) := by decide +kernel
theorem dX4_write_48 : decode cX4_write 48 = .ok (.ladd, 1) := by decide +kernel
theorem dX4_write_49 : decode cX4_write 49 = .ok (.lconst 1, 1) := by decide +kernel
theorem dX4_write_50 : decode cX4_write 50 = .ok (.lsub, 1) := by decide +kernel
theorem dX4_write_51 : decode cX4_write 51 = .ok (.invokevirtual 96, 3) := by decide +kernel
theorem dX4_write_54 : decode cX4_write 54 = .ok (.ifCond .ne 6, 3) := by decide +kernel
theorem dX4_write_57 : decode cX4_write 57 = .ok (.bipush (-101), 2) := by decide +kernel
theorem dX4_write_59 : decode cX4_write 59 = .ok (.ireturn, 1) := by decide +kernel
theorem dX4_write_60 : decode cX4_write 60 = .ok (.iconst 0, 1) := by decide +kernel
theorem dX4_write_61 : decode cX4_write 61 = .ok (.istore 4, 2) := by decide +kernel
theorem dX4_write_63 : decode cX4_write 63 = .ok (.iload 4, 2) := by decide +kernel
theorem dX4_write_65 : decode cX4_write 65 = .ok (.iload_n 2, 1) := by decide +kernel
theorem dX4_write_66 : decode cX4_write 66 = .ok (.if_icmp .ge 129, 3) := by decide +kernel
theorem dX4_write_69 : decode cX4_write 69 = .ok (.iload_n 1, 1) := by decide +kernel
theorem dX4_write_70 : decode cX4_write 70 = .ok (.iload 4, 2) := by decide +kernel
theorem dX4_write_72 : decode cX4_write 72 = .ok (.iadd, 1) := by decide +kernel
theorem dX4_write_73 : decode cX4_write 73 = .ok (.aload_n 0, 1) := by decide +kernel
theorem dX4_write_74 : decode cX4_write 74 = .ok (.getfield 69, 3) := by decide +kernel
theorem dX4_write_77 : decode cX4_write 77 = .ok (.iconst 1, 1) := by decide +kernel
theorem dX4_write_78 : decode cX4_write 78 = .ok (.isub, 1) := by decide +kernel
theorem dX4_write_79 : decode cX4_write 79 = .ok (.idiv, 1) := by decide +kernel
theorem dX4_write_80 : decode cX4_write 80 = .ok (.istore 5, 2) := by decide +kernel
theorem dX4_write_82 : decode cX4_write 82 = .ok (.iconst 0, 1) := by decide +kernel
theorem dX4_write_83 : decode cX4_write 83 = .ok (.istore 6, 2) := by decide +kernel
theorem dX4_write_85 : decode cX4_write 85 = .ok (.iload 4, 2) := by decide +kernel
theorem dX4_write_87 : decode cX4_write 87 = .ok (.iload_n 2, 1) := by decide +kernel
theorem dX4_write_88 : decode cX4_write 88 = .ok (.if_icmp .ge 86, 3) := by decide +kernel
theorem dX4_write_91 : decode cX4_write 91 = .ok (.iload_n 1, 1) := by decide +kernel
theorem dX4_write_92 : decode cX4_write 92 = .ok (.iload 4, 2) := by decide +kernel
theorem dX4_write_94 : decode cX4_write 94 = .ok (.iadd, 1) := by decide +kernel
theorem dX4_write_95 : decode cX4_write 95 = .ok (.aload_n 0, 1) := by decide +kernel
theorem dX4_write_96 : decode cX4_write 96 = .ok (.getfield 69, 3) := by decide +kernel
theorem dX4_write_99 : decode cX4_write 99 = .ok (.iconst 1, 1) := by decide +kernel
theorem dX4_write_100 : decode cX4_write 100 = .ok (.isub, 1) := by decide +kernel
theorem dX4_write_101 : decode cX4_write 101 = .ok (.idiv, 1) := by decide +kernel
theorem dX4_write_102 : decode cX4_write 102 = .ok (.iload 5, 2) := by decide +kernel
theorem dX4_write_104 : decode cX4_write 104 = .ok (.if_icmp .ne 70, 3) := by decide +kernel
theorem dX4_write_107 : decode cX4_write 107 = .ok (.iload_n 1, 1) := by decide +kernel
theorem dX4_write_108 : decode cX4_write 108 = .ok (.iload 4, 2) := by decide +kernel
theorem dX4_write_110 : decode cX4_write 110 = .ok (.iadd, 1) := by decide +kernel
theorem dX4_write_111 : decode cX4_write 111 = .ok (.aload_n 0, 1) := by decide +kernel
theorem dX4_write_112 : decode cX4_write 112 = .ok (.getfield 69, 3) := by decide +kernel
theorem dX4_write_115 : decode cX4_write 115 = .ok (.iconst 1, 1) := by decide +kernel
theorem dX4_write_116 : decode cX4_write 116 = .ok (.isub, 1) := by decide +kernel
theorem dX4_write_117 : decode cX4_write 117 = .ok (.irem, 1) := by decide +kernel
theorem dX4_write_118 : decode cX4_write 118 = .ok (.istore 7, 2) := by decide +kernel
theorem dX4_write_120 : decode cX4_write 120 = .ok (.iload 6, 2) := by decide +kernel
theorem dX4_write_122 : decode cX4_write 122 = .ok (.iconst 1, 1) := by decide +kernel
theorem dX4_write_123 : decode cX4_write 123 = .ok (.iload 7, 2) := by decide +kernel
theorem dX4_write_125 : decode cX4_write 125 = .ok (.ishl, 1) := by decide +kernel
theorem dX4_write_126 : decode cX4_write 126 = .ok (.ior, 1) := by decide +kernel
theorem dX4_write_127 : decode cX4_write 127 = .ok (.istore 6, 2) := by decide +kernel
theorem dX4_write_129 : decode cX4_write 129 = .ok (.iconst 0, 1) := by decide +kernel
theorem dX4_write_130 : decode cX4_write 130 = .ok (.istore 8, 2) := by decide +kernel
theorem dX4_write_132 : decode cX4_write 132 = .ok (.iload 8, 2) := by decide +kernel
theorem dX4_write_134 : decode cX4_write 134 = .ok (.bipush 8, 2) := by decide +kernel
theorem dX4_write_136 : decode cX4_write 136 = .ok (.if_icmp .ge 32, 3) := by decide +kernel
theorem dX4_write_139 : decode cX4_write 139 = .ok (.aload_n 0, 1) := by decide +kernel
theorem dX4_write_140 : decode cX4_write 140 = .ok (.getfield 66, 3) := by decide +kernel
theorem dX4_write_143 : decode cX4_write 143 = .ok (.bipush 8, 2) := by decide +kernel
theorem dX4_write_145 : decode cX4_write 145 = .ok (.iload 7, 2) := by decide +kernel
theorem dX4_write_147 : decode cX4_write 147 = .ok (.imul, 1) := by decide +kernel
theorem dX4_write_148 : decode cX4_write 148 = .ok (.iload 8, 2) := by decide +kernel
theorem dX4_write_150 : decode cX4_write 150 = .ok (.iadd, 1) := by decide +kernel
theorem dX4_write_151 : decode cX4_write 151 = .ok (.iload_n 3, 1) := by decide +kernel
theorem dX4_write_152 : decode cX4_write 152 = .ok (.bipush 8, 2) := by decide +kernel
theorem dX4_write_154 : decode cX4_write 154 = .ok (.iload 4, 2) := by decide +kernel
theorem dX4_write_156 : decode cX4_write 156 = .ok (.imul, 1) := by decide +kernel
theorem dX4_write_157 : decode cX4_write 157 = .ok (.iadd, 1) := by decide +kernel
theorem dX4_write_158 : decode cX4_write 158 = .ok (.iload 8, 2) := by decide +kernel
theorem dX4_write_160 : decode cX4_write 160 = .ok (.iadd, 1) := by decide +kernel
theorem dX4_write_161 : decode cX4_write 161 = .ok (.iastore, 1) := by decide +kernel
theorem dX4_write_162 : decode cX4_write 162 = .ok (.iinc 8 1, 3) := by decide +kernel
theorem dX4_write_165 : decode cX4_write 165 = .ok (.goto (-33), 3) := by decide +kernel
theorem dX4_write_168 : decode cX4_write 168 = .ok (.iinc 4 1, 3) := by decide +kernel
theorem dX4_write_171 : decode cX4_write 171 = .ok (.goto (-86), 3) := by decide +kernel
theorem dX4_write_174 : decode cX4_write 174 = .ok (.aload_n 0, 1) := by decide +kernel
theorem dX4_write_175 : decode cX4_write 175 = .ok (.iload 5, 2) := by decide +kernel
theorem dX4_write_177 : decode cX4_write 177 = .ok (.iload 6, 2) := by decide +kernel
theorem dX4_write_179 : decode cX4_write 179 = .ok (.invokevirtual 170, 3) := by decide +kernel
theorem dX4_write_182 : decode cX4_write 182 = .ok (.istore 7, 2) := by decide +kernel
theorem dX4_write_184 : decode cX4_write 184 = .ok (.iload 7, 2) := by decide +kernel
theorem dX4_write_186 : decode cX4_write 186 = .ok (.ifCond .eq 6, 3) := by decide +kernel
theorem dX4_write_189 : decode cX4_write 189 = .ok (.iload 7, 2) := by decide +kernel
theorem dX4_write_191 : decode cX4_write 191 = .ok (.ireturn, 1) := by decide +kernel
theorem dX4_write_192 : decode cX4_write 192 = .ok (.goto (-129), 3) := by decide +kernel
theorem dX4_write_195 : decode cX4_write 195 = .ok (.iload_n 2, 1) := by decide +kernel
theorem dX4_write_196 : decode cX4_write 196 = .ok (.ireturn, 1) := by decide +kernel
set_option maxRecDepth 20000 in
theorem ggX4_from_X4_latest : GoodIn wsX4_from wsX4_latest := goodIn_r _ [6, 7, 8, 9, 10, 44, 45, 46, 47, 48, 49, 50, 51, 52, 53, 54, 55, 56, 57, 58, 59, 60, 61, 62, 63, 64, 65, 66, 67, 68] (by decide +kernel) (by decide +kernel)
set_option maxRecDepth 20000 in
theorem gX4_from_X4_latest : GoodIn wsX4_from (wsV RX4 140 RX4 yX4_latest wsX4_latest) := goodIn_app (goodIn_of _ (by decide +kernel)) ggX4_from_X4_latest
set_option maxRecDepth 20000 in
theorem ggX4_from_X4_memberOf : GoodIn wsX4_from wsX4_memberOf := goodIn_r _ [14, 1, 15, 16, 17, 5, 18, 44, 45, 46, 47, 48, 49, 50, 51, 52, 53, 54, 55, 56, 57, 58, 59, 60, 61, 62, 63, 64, 65, 66, 67, 68] (by decide +kernel) (by decide +kernel)
set_option maxRecDepth 20000 in
theorem gX4_from_X4_memberOf : GoodIn wsX4_from (wsV RX4 100 RX4 yX4_memberOf wsX4_memberOf) := goodIn_app (goodIn_of _ (by decide +kernel)) ggX4_from_X4_memberOf
set_option maxRecDepth 20000 in
theorem ggX4_from_X4_isThere : GoodIn wsX4_from wsX4_isThere := goodIn_r _ [22, 23, 24, 25, 26, 27, 5, 28, 29, 30, 31, 32, 33, 34, 35, 36, 37, 38, 39, 44, 45, 46, 47, 48, 49, 50, 51, 52, 53, 54, 55, 56, 57, 58, 59, 60, 61, 62, 63, 64, 65, 66, 67, 68] (by decide +kernel) (by decide +kernel)
set_option maxRecDepth 20000 in
theorem gX4_from_X4_isThere : GoodIn wsX4_from (wsV RX4 93 RX4 yX4_isThere wsX4_isThere) := goodIn_app (goodIn_of _ (by decide +kernel)) ggX4_from_X4_isThere
set_option maxRecDepth 20000 in
theorem ggX4_from_X4_othersThere : GoodIn wsX4_from wsX4_othersThere := goodIn_r _ [43, 1, 19, 20, 21, 5, 22, 23, 24, 25, 26, 27, 28, 29, 30, 31, 32, 33, 34, 35, 36, 37, 38, 39, 44, 45, 46, 47, 48, 49, 50, 51, 52, 53, 54, 55, 56, 57, 58, 59, 60, 61, 62, 63, 64, 65, 66, 67, 68] (by decide +kernel) (by decide +kernel)
set_option maxRecDepth 20000 in
theorem gX4_from_X4_othersThere : GoodIn wsX4_from (wsV RX4 173 RX4 yX4_othersThere wsX4_othersThere) := goodIn_app (goodIn_of _ (by decide +kernel)) ggX4_from_X4_othersThere
theorem dX4_from_0 : decode cX4_from 0 = .ok (.iload_n 1, 1) := by decide +kernel
theorem dX4_from_1 : decode cX4_from 1 = .ok (.aload_n 0, 1) := by decide +kernel
theorem dX4_from_2 : decode cX4_from 2 = .ok (.getfield 69, 3) := by decide +kernel
theorem dX4_from_5 : decode cX4_from 5 = .ok (.iconst 1, 1) := by decide +kernel
theorem dX4_from_6 : decode cX4_from 6 = .ok (.isub, 1) := by decide +kernel
theorem dX4_from_7 : decode cX4_from 7 = .ok (.idiv, 1) := by decide +kernel
theorem dX4_from_8 : decode cX4_from 8 = .ok (.istore_n 2, 1) := by decide +kernel
theorem dX4_from_9 : decode cX4_from 9 = .ok (.iload_n 1, 1) := by decide +kernel
theorem dX4_from_10 : decode cX4_from 10 = .ok (.aload_n 0, 1) := by decide +kernel
theorem dX4_from_11 : decode cX4_from 11 = .ok (.getfield 69, 3) := by decide +kernel
theorem dX4_from_14 : decode cX4_from 14 = .ok (.iconst 1, 1) := by decide +kernel
theorem dX4_from_15 : decode cX4_from 15 = .ok (.isub, 1) := by decide +kernel
theorem dX4_from_16 : decode cX4_from 16 = .ok (.irem, 1) := by decide +kernel
theorem dX4_from_17 : decode cX4_from 17 = .ok (.istore_n 3, 1) := by decide +kernel
theorem dX4_from_18 : decode cX4_from 18 = .ok (.aload_n 0, 1) := by decide +kernel
theorem dX4_from_19 : decode cX4_from 19 = .ok (.iload_n 2, 1) := by decide +kernel
theorem dX4_from_20 : decode cX4_from 20 = .ok (.iload_n 3, 1) := by decide +kernel
theorem dX4_from_21 : decode cX4_from 21 = .ok (.invokevirtual 140, 3) := by decide +kernel
theorem dX4_from_24 : decode cX4_from 24 = .ok (.iconst (-1), 1) := by decide +kernel
theorem dX4_from_25 : decode cX4_from 25 = .ok (.if_icmp .eq 5, 3) := by decide +kernel
theorem dX4_from_28 : decode cX4_from 28 = .ok (.iconst 1, 1) := by decide +kernel
theorem dX4_from_29 : decode cX4_from 29 = .ok (.ireturn, 1) := by decide +kernel
theorem dX4_from_30 : decode cX4_from 30 = .ok (.aload_n 0, 1) := by decide +kernel
theorem dX4_from_31 : decode cX4_from 31 = .ok (.iload_n 2, 1) := by decide +kernel
theorem dX4_from_32 : decode cX4_from 32 = .ok (.iload_n 3, 1) := by decide +kernel
theorem dX4_from_33 : decode cX4_from 33 = .ok (.invokevirtual 100, 3) := by decide +kernel
theorem dX4_from_36 : decode cX4_from 36 = .ok (.istore 4, 2) := by decide +kernel
theorem dX4_from_38 : decode cX4_from 38 = .ok (.aload_n 0, 1) := by decide +kernel
theorem dX4_from_39 : decode cX4_from 39 = .ok (.iload 4, 2) := by decide +kernel
theorem dX4_from_41 : decode cX4_from 41 = .ok (.iload_n 2, 1) := by decide +kernel
theorem dX4_from_42 : decode cX4_from 42 = .ok (.invokevirtual 93, 3) := by decide +kernel
theorem dX4_from_45 : decode cX4_from 45 = .ok (.ifCond .eq 7, 3) := by decide +kernel
theorem dX4_from_48 : decode cX4_from 48 = .ok (.iconst 0, 1) := by decide +kernel
theorem dX4_from_49 : decode cX4_from 49 = .ok (.goto 18, 3) := by decide +kernel
theorem dX4_from_52 : decode cX4_from 52 = .ok (.aload_n 0, 1) := by decide +kernel
theorem dX4_from_53 : decode cX4_from 53 = .ok (.iload 4, 2) := by decide +kernel
theorem dX4_from_55 : decode cX4_from 55 = .ok (.iload_n 2, 1) := by decide +kernel
theorem dX4_from_56 : decode cX4_from 56 = .ok (.invokevirtual 173, 3) := by decide +kernel
theorem dX4_from_59 : decode cX4_from 59 = .ok (.ifCond .eq 7, 3) := by decide +kernel
theorem dX4_from_62 : decode cX4_from 62 = .ok (.iconst 2, 1) := by decide +kernel
theorem dX4_from_63 : decode cX4_from 63 = .ok (.goto 4, 3) := by decide +kernel
theorem dX4_from_66 : decode cX4_from 66 = .ok (.iconst 3, 1) := by decide +kernel
theorem dX4_from_67 : decode cX4_from 67 = .ok (.ireturn, 1) := by decide +kernel
set_option maxRecDepth 20000 in
theorem ggX4_look_X4_isBlock : GoodIn wsX4_look wsX4_isBlock := goodIn_r _ [6, 7, 8, 9, 10, 5, 11, 57, 58, 59, 60, 61, 62, 63, 64, 65, 66, 67, 68, 69, 70, 71, 72, 73, 74, 75, 76, 77, 78, 79, 80, 81] (by decide +kernel) (by decide +kernel)
set_option maxRecDepth 20000 in
theorem gX4_look_X4_isBlock : GoodIn wsX4_look (wsV RX4 96 RX4 yX4_isBlock wsX4_isBlock) := goodIn_app (goodIn_of _ (by decide +kernel)) ggX4_look_X4_isBlock
set_option maxRecDepth 20000 in
theorem ggX4_look_X4_from : GoodIn wsX4_look wsX4_from := goodIn_r _ [15, 8, 16, 17, 18, 5, 19, 20, 21, 22, 23, 24, 25, 26, 27, 28, 29, 30, 31, 32, 33, 34, 35, 36, 37, 38, 39, 40, 41, 42, 43, 44, 45, 46, 47, 48, 49, 50, 51, 52, 53, 54, 55, 56, 57, 58, 59, 60, 61, 62, 63, 64, 65, 66, 67, 68, 69, 70, 71, 72, 73, 74, 75, 76, 77, 78, 79, 80, 81] (by decide +kernel) (by decide +kernel)
set_option maxRecDepth 20000 in
theorem gX4_look_X4_from : GoodIn wsX4_look (wsV RX4 176 RX4 yX4_from wsX4_from) := goodIn_app (goodIn_of _ (by decide +kernel)) ggX4_look_X4_from
theorem dX4_look_0 : decode cX4_look 0 = .ok (.aload_n 0, 1) := by decide +kernel
theorem dX4_look_1 : decode cX4_look 1 = .ok (.getfield 103, 3) := by decide +kernel
theorem dX4_look_4 : decode cX4_look 4 = .ok (.ifCond .eq 8, 3) := by decide +kernel
theorem dX4_look_7 : decode cX4_look 7 = .ok (.bipush (-100), 2) := by decide +kernel
theorem dX4_look_9 : decode cX4_look 9 = .ok (.goto 22, 3) := by decide +kernel
theorem dX4_look_12 : decode cX4_look 12 = .ok (.aload_n 0, 1) := by decide +kernel
theorem dX4_look_13 : decode cX4_look 13 = .ok (.iload_n 1, 1) := by decide +kernel
theorem dX4_look_14 : decode cX4_look 14 = .ok (.i2l, 1) := by decide +kernel
theorem dX4_look_15 : decode cX4_look 15 = .ok (.invokevirtual 96, 3) := by decide +kernel
theorem dX4_look_18 : decode cX4_look 18 = .ok (.ifCond .eq 11, 3) := by decide +kernel
theorem dX4_look_21 : decode cX4_look 21 = .ok (.aload_n 0, 1) := by decide +kernel
theorem dX4_look_22 : decode cX4_look 22 = .ok (.iload_n 1, 1) := by decide +kernel
theorem dX4_look_23 : decode cX4_look 23 = .ok (.invokevirtual 176, 3) := by decide +kernel
theorem dX4_look_26 : decode cX4_look 26 = .ok (.goto 5, 3) := by decide +kernel
theorem dX4_look_29 : decode cX4_look 29 = .ok (.bipush (-101), 2) := by decide +kernel
theorem dX4_look_31 : decode cX4_look 31 = .ok (.ireturn, 1) := by decide +kernel
set_option maxRecDepth 20000 in
theorem ggX4_word_X4_isBlock : GoodIn wsX4_word wsX4_isBlock := goodIn_r _ [9, 10, 4, 11, 12, 8, 13, 72, 73, 74, 75, 76, 77, 78, 79, 80, 81, 82, 83, 84, 85, 86, 87, 88, 89, 90, 91, 92, 93, 94, 95, 96] (by decide +kernel) (by decide +kernel)
set_option maxRecDepth 20000 in
theorem gX4_word_X4_isBlock : GoodIn wsX4_word (wsV RX4 96 RX4 yX4_isBlock wsX4_isBlock) := goodIn_app (goodIn_of _ (by decide +kernel)) ggX4_word_X4_isBlock
set_option maxRecDepth 20000 in
theorem ggX4_word_X4_in : GoodIn wsX4_word wsX4_in := goodIn_r _ [13] (by decide +kernel) (by decide +kernel)
set_option maxRecDepth 20000 in
theorem gX4_word_X4_in : GoodIn wsX4_word (va_wsS RX4 74 yX4_in wsX4_in) := goodIn_app (goodIn_of _ (by decide +kernel)) ggX4_word_X4_in
set_option maxRecDepth 20000 in
theorem ggX4_word_X4_from : GoodIn wsX4_word wsX4_from := goodIn_r _ [17, 4, 18, 19, 20, 8, 21, 22, 23, 24, 25, 26, 27, 28, 29, 30, 31, 32, 33, 34, 35, 36, 37, 38, 39, 40, 41, 42, 43, 44, 45, 46, 47, 48, 49, 50, 51, 52, 53, 54, 55, 56, 57, 58, 72, 73, 74, 75, 76, 77, 78, 79, 80, 81, 82, 83, 84, 85, 86, 87, 88, 89, 90, 91, 92, 93, 94, 95, 96] (by decide +kernel) (by decide +kernel)
set_option maxRecDepth 20000 in
theorem gX4_word_X4_from : GoodIn wsX4_word (wsV RX4 176 RX4 yX4_from wsX4_from) := goodIn_app (goodIn_of _ (by decide +kernel)) ggX4_word_X4_from
set_option maxRecDepth 20000 in
theorem ggX4_word_X4_memberOf : GoodIn wsX4_word wsX4_memberOf := goodIn_r _ [29, 4, 30, 31, 32, 8, 33, 72, 73, 74, 75, 76, 77, 78, 79, 80, 81, 82, 83, 84, 85, 86, 87, 88, 89, 90, 91, 92, 93, 94, 95, 96] (by decide +kernel) (by decide +kernel)
set_option maxRecDepth 20000 in
theorem gX4_word_X4_memberOf : GoodIn wsX4_word (wsV RX4 100 RX4 yX4_memberOf wsX4_memberOf) := goodIn_app (goodIn_of _ (by decide +kernel)) ggX4_word_X4_memberOf
set_option maxRecDepth 20000 in
theorem ggX4_word_X4_others : GoodIn wsX4_word wsX4_others := goodIn_r _ [62, 4, 54, 40, 41, 42, 8, 43, 72, 73, 74, 75, 76, 77, 78, 79, 80, 81, 82, 83, 84, 85, 86, 87, 88, 89, 90, 91, 92, 93, 94, 95, 96] (by decide +kernel) (by decide +kernel)
set_option maxRecDepth 20000 in
theorem gX4_word_X4_others : GoodIn wsX4_word (wsV RX4 181 RX4 yX4_others wsX4_others) := goodIn_app (goodIn_of _ (by decide +kernel)) ggX4_word_X4_others
set_option maxRecDepth 20000 in
theorem ggX4_word_X4_newest : GoodIn wsX4_word wsX4_newest := goodIn_r _ [66, 67, 54, 18, 19, 20, 8, 21, 22, 23, 24, 25, 68, 69, 70, 71, 30, 31, 32, 33, 4, 26, 27, 28, 29, 40, 41, 42, 43, 72, 73, 74, 75, 76, 77, 78, 79, 80, 81, 82, 83, 84, 85, 86, 87, 88, 89, 90, 91, 92, 93, 94, 95, 96] (by decide +kernel) (by decide +kernel)
set_option maxRecDepth 20000 in
theorem gX4_word_X4_newest : GoodIn wsX4_word (wsV RX4 160 RX4 yX4_newest wsX4_newest) := goodIn_app (goodIn_of _ (by decide +kernel)) ggX4_word_X4_newest
theorem dX4_word_0 : decode cX4_word 0 = .ok (.aload_n 0, 1) := by decide +kernel
theorem dX4_word_1 : decode cX4_word 1 = .ok (.aload_n 0, 1) := by decide +kernel
theorem dX4_word_2 : decode cX4_word 2 = .ok (.iload_n 1, 1) := by decide +kernel
theorem dX4_word_3 : decode cX4_word 3 = .ok (.i2l, 1) := by decide +kernel
theorem dX4_word_4 : decode cX4_word 4 = .ok (.invokevirtual 96, 3) := by decide +kernel
theorem dX4_word_7 : decode cX4_word 7 = .ok (.ifCond .eq 15, 3) := by decide +kernel
theorem dX4_word_10 : decode cX4_word 10 = .ok (.iload_n 2, 1) := by decide +kernel
theorem dX4_word_11 : decode cX4_word 11 = .ok (.i2l, 1) := by decide +kernel
theorem dX4_word_12 : decode cX4_word 12 = .ok (.lconst 0, 1) := by decide +kernel
theorem dX4_word_13 : decode cX4_word 13 = .ok (.ldc2_w 179, 3) := by decide +kernel
theorem dX4_word_16 : decode cX4_word 16 = .ok (.invokestatic 74, 3) := by decide +kernel
theorem dX4_word_19 : decode cX4_word 19 = .ok (.ifCond .ne 7, 3) := by decide +kernel
theorem dX4_word_22 : decode cX4_word 22 = .ok (.iconst 1, 1) := by decide +kernel
theorem dX4_word_23 : decode cX4_word 23 = .ok (.goto 24, 3) := by decide +kernel
theorem dX4_word_26 : decode cX4_word 26 = .ok (.aload_n 0, 1) := by decide +kernel
theorem dX4_word_27 : decode cX4_word 27 = .ok (.getfield 103, 3) := by decide +kernel
theorem dX4_word_30 : decode cX4_word 30 = .ok (.ifCond .ne 12, 3) := by decide +kernel
theorem dX4_word_33 : decode cX4_word 33 = .ok (.aload_n 0, 1) := by decide +kernel
theorem dX4_word_34 : decode cX4_word 34 = .ok (.iload_n 1, 1) := by decide +kernel
theorem dX4_word_35 : decode cX4_word 35 = .ok (.invokevirtual 176, 3) := by decide +kernel
theorem dX4_word_38 : decode cX4_word 38 = .ok (.iconst 3, 1) := by decide +kernel
theorem dX4_word_39 : decode cX4_word 39 = .ok (.if_icmp .ne 7, 3) := by decide +kernel
theorem dX4_word_42 : decode cX4_word 42 = .ok (.iconst 2, 1) := by decide +kernel
theorem dX4_word_43 : decode cX4_word 43 = .ok (.goto 4, 3) := by decide +kernel
theorem dX4_word_46 : decode cX4_word 46 = .ok (.iconst 0, 1) := by decide +kernel
theorem dX4_word_47 : decode cX4_word 47 = .ok (.putfield 1, 3) := by decide +kernel
theorem dX4_word_50 : decode cX4_word 50 = .ok (.aload_n 0, 1) := by decide +kernel
theorem dX4_word_51 : decode cX4_word 51 = .ok (.getfield 1, 3) := by decide +kernel
theorem dX4_word_54 : decode cX4_word 54 = .ok (.ifCond .le 5, 3) := by decide +kernel
theorem dX4_word_57 : decode cX4_word 57 = .ok (.iconst 0, 1) := by decide +kernel
theorem dX4_word_58 : decode cX4_word 58 = .ok (.ireturn, 1) := by decide +kernel
theorem dX4_word_59 : decode cX4_word 59 = .ok (.iload_n 1, 1) := by decide +kernel
theorem dX4_word_60 : decode cX4_word 60 = .ok (.aload_n 0, 1) := by decide +kernel
theorem dX4_word_61 : decode cX4_word 61 = .ok (.getfield 69, 3) := by decide +kernel
theorem dX4_word_64 : decode cX4_word 64 = .ok (.iconst 1, 1) := by decide +kernel
theorem dX4_word_65 : decode cX4_word 65 = .ok (.isub, 1) := by decide +kernel
theorem dX4_word_66 : decode cX4_word 66 = .ok (.idiv, 1) := by decide +kernel
theorem dX4_word_67 : decode cX4_word 67 = .ok (.istore_n 3, 1) := by decide +kernel
theorem dX4_word_68 : decode cX4_word 68 = .ok (.iload_n 1, 1) := by decide +kernel
theorem dX4_word_69 : decode cX4_word 69 = .ok (.aload_n 0, 1) := by decide +kernel
theorem dX4_word_70 : decode cX4_word 70 = .ok (.getfield 69, 3) := by decide +kernel
theorem dX4_word_73 : decode cX4_word 73 = .ok (.iconst 1, 1) := by decide +kernel
theorem dX4_word_74 : decode cX4_word 74 = .ok (.isub, 1) := by decide +kernel
theorem dX4_word_75 : decode cX4_word 75 = .ok (.irem, 1) := by decide +kernel
theorem dX4_word_76 : decode cX4_word 76 = .ok (.istore 4, 2) := by decide +kernel
theorem dX4_word_78 : decode cX4_word 78 = .ok (.aload_n 0, 1) := by decide +kernel
theorem dX4_word_79 : decode cX4_word 79 = .ok (.iload_n 1, 1) := by decide +kernel
theorem dX4_word_80 : decode cX4_word 80 = .ok (.invokevirtual 176, 3) := by decide +kernel
theorem dX4_word_83 : decode cX4_word 83 = .ok (.iconst 2, 1) := by decide +kernel
theorem dX4_word_84 : decode cX4_word 84 = .ok (.if_icmp .ne 19, 3) := by decide +kernel
theorem dX4_word_87 : decode cX4_word 87 = .ok (.aload_n 0, 1) := by decide +kernel
theorem dX4_word_88 : decode cX4_word 88 = .ok (.aload_n 0, 1) := by decide +kernel
theorem dX4_word_89 : decode cX4_word 89 = .ok (.iload_n 3, 1) := by decide +kernel
theorem dX4_word_90 : decode cX4_word 90 = .ok (.iload 4, 2) := by decide +kernel
theorem dX4_word_92 : decode cX4_word 92 = .ok (.invokevirtual 100, 3) := by decide +kernel
theorem dX4_word_95 : decode cX4_word 95 = .ok (.iload_n 3, 1) := by decide +kernel
theorem dX4_word_96 : decode cX4_word 96 = .ok (.iload_n 2, 1) := by decide +kernel
theorem dX4_word_97 : decode cX4_word 97 = .ok (.invokevirtual 181, 3) := by decide +kernel
theorem dX4_word_100 : decode cX4_word 100 = .ok (.goto 11, 3) := by decide +kernel
theorem dX4_word_103 : decode cX4_word 103 = .ok (.aload_n 0, 1) := by decide +kernel
theorem dX4_word_104 : decode cX4_word 104 = .ok (.iload_n 3, 1) := by decide +kernel
theorem dX4_word_105 : decode cX4_word 105 = .ok (.iload 4, 2) := by decide +kernel
theorem dX4_word_107 : decode cX4_word 107 = .ok (.iload_n 2, 1) := by decide +kernel
theorem dX4_word_108 : decode cX4_word 108 = .ok (.invokevirtual 160, 3) := by decide +kernel
theorem dX4_word_111 : decode cX4_word 111 = .ok (.ireturn, 1) := by decide +kernel
set_option maxRecDepth 20000 in
theorem ggX4_others_X4_at : GoodIn wsX4_others wsX4_at := goodIn_r _ [7] (by decide +kernel) (by decide +kernel)
set_option maxRecDepth 20000 in
theorem gX4_others_X4_at : GoodIn wsX4_others (wsV RX4 82 RX4 yX4_at wsX4_at) := goodIn_app (goodIn_of _ (by decide +kernel)) ggX4_others_X4_at
theorem dX4_others_0 : decode cX4_others 0 = .ok (.iconst 0, 1) := by decide +kernel
theorem dX4_others_1 : decode cX4_others 1 = .ok (.istore 4, 2) := by decide +kernel
theorem dX4_others_3 : decode cX4_others 3 = .ok (.iconst 0, 1) := by decide +kernel
theorem dX4_others_4 : decode cX4_others 4 = .ok (.istore 5, 2) := by decide +kernel
theorem dX4_others_6 : decode cX4_others 6 = .ok (.iload 5, 2) := by decide +kernel
theorem dX4_others_8 : decode cX4_others 8 = .ok (.aload_n 0, 1) := by decide +kernel
theorem dX4_others_9 : decode cX4_others 9 = .ok (.getfield 69, 3) := by decide +kernel
theorem dX4_others_12 : decode cX4_others 12 = .ok (.if_icmp .ge 41, 3) := by decide +kernel
theorem dX4_others_15 : decode cX4_others 15 = .ok (.iload 4, 2) := by decide +kernel
theorem dX4_others_17 : decode cX4_others 17 = .ok (.iload 5, 2) := by decide +kernel
theorem dX4_others_19 : decode cX4_others 19 = .ok (.iload_n 1, 1) := by decide +kernel
theorem dX4_others_20 : decode cX4_others 20 = .ok (.if_icmp .ne 7, 3) := by decide +kernel
theorem dX4_others_23 : decode cX4_others 23 = .ok (.iconst 0, 1) := by decide +kernel
theorem dX4_others_24 : decode cX4_others 24 = .ok (.goto 20, 3) := by decide +kernel
theorem dX4_others_27 : decode cX4_others 27 = .ok (.aload_n 0, 1) := by decide +kernel
theorem dX4_others_28 : decode cX4_others 28 = .ok (.getfield 13, 3) := by decide +kernel
theorem dX4_others_31 : decode cX4_others 31 = .ok (.bipush 8, 2) := by decide +kernel
theorem dX4_others_33 : decode cX4_others 33 = .ok (.aload_n 0, 1) := by decide +kernel
theorem dX4_others_34 : decode cX4_others 34 = .ok (.iload 5, 2) := by decide +kernel
theorem dX4_others_36 : decode cX4_others 36 = .ok (.iload_n 2, 1) := by decide +kernel
theorem dX4_others_37 : decode cX4_others 37 = .ok (.invokevirtual 82, 3) := by decide +kernel
theorem dX4_others_40 : decode cX4_others 40 = .ok (.imul, 1) := by decide +kernel
theorem dX4_others_41 : decode cX4_others 41 = .ok (.iload_n 3, 1) := by decide +kernel
theorem dX4_others_42 : decode cX4_others 42 = .ok (.iadd, 1) := by decide +kernel
theorem dX4_others_43 : decode cX4_others 43 = .ok (.iaload, 1) := by decide +kernel
theorem dX4_others_44 : decode cX4_others 44 = .ok (.ixor, 1) := by decide +kernel
theorem dX4_others_45 : decode cX4_others 45 = .ok (.istore 4, 2) := by decide +kernel
theorem dX4_others_47 : decode cX4_others 47 = .ok (.iinc 5 1, 3) := by decide +kernel
theorem dX4_others_50 : decode cX4_others 50 = .ok (.goto (-44), 3) := by decide +kernel
theorem dX4_others_53 : decode cX4_others 53 = .ok (.iload 4, 2) := by decide +kernel
theorem dX4_others_55 : decode cX4_others 55 = .ok (.ireturn, 1) := by decide +kernel
set_option maxRecDepth 20000 in
theorem ggX4_drain_X4_in : GoodIn wsX4_drain wsX4_in := goodIn_r _ [7] (by decide +kernel) (by decide +kernel)
set_option maxRecDepth 20000 in
theorem gX4_drain_X4_in : GoodIn wsX4_drain (va_wsS RX4 74 yX4_in wsX4_in) := goodIn_app (goodIn_of _ (by decide +kernel)) ggX4_drain_X4_in
set_option maxRecDepth 20000 in
theorem ggX4_drain_X4_drained : GoodIn wsX4_drain wsX4_drained := goodIn_r _ [11, 12, 13, 14, 3, 15, 16, 17, 18, 19, 20, 21, 22, 6, 23, 24, 25, 26, 27, 28, 29, 30, 31, 32, 33, 34, 35, 36, 37, 38, 39, 40, 41, 42, 43, 44, 45, 46, 47, 48, 49, 50, 51, 52, 53, 54, 55, 56, 57, 58, 59, 60, 61, 62, 63, 64, 65, 1, 66, 67, 68, 69, 70, 71, 72, 73, 74, 75, 76, 77, 78, 79, 80, 81, 82, 83, 84, 85, 86, 87, 88, 89, 90, 91, 92, 93, 94, 95, 96, 97, 98, 99, 100] (by decide +kernel) (by decide +kernel)
set_option maxRecDepth 20000 in
theorem gX4_drain_X4_drained : GoodIn wsX4_drain (wsV RX4 167 RX4 yX4_drained wsX4_drained) := goodIn_app (goodIn_of _ (by decide +kernel)) ggX4_drain_X4_drained
theorem dX4_drain_0 : decode cX4_drain 0 = .ok (.aload_n 0, 1) := by decide +kernel
theorem dX4_drain_1 : decode cX4_drain 1 = .ok (.getfield 103, 3) := by decide +kernel
theorem dX4_drain_4 : decode cX4_drain 4 = .ok (.ifCond .eq 6, 3) := by decide +kernel
theorem dX4_drain_7 : decode cX4_drain 7 = .ok (.bipush (-100), 2) := by decide +kernel
theorem dX4_drain_9 : decode cX4_drain 9 = .ok (.ireturn, 1) := by decide +kernel
theorem dX4_drain_10 : decode cX4_drain 10 = .ok (.iload_n 1, 1) := by decide +kernel
theorem dX4_drain_11 : decode cX4_drain 11 = .ok (.i2l, 1) := by decide +kernel
theorem dX4_drain_12 : decode cX4_drain 12 = .ok (.lconst 1, 1) := by decide +kernel
theorem dX4_drain_13 : decode cX4_drain 13 = .ok (.ldc2_w 184, 3) := by decide +kernel
theorem dX4_drain_16 : decode cX4_drain 16 = .ok (.invokestatic 74, 3) := by decide +kernel
theorem dX4_drain_19 : decode cX4_drain 19 = .ok (.ifCond .ne 6, 3) := by decide +kernel
theorem dX4_drain_22 : decode cX4_drain 22 = .ok (.bipush (-102), 2) := by decide +kernel
theorem dX4_drain_24 : decode cX4_drain 24 = .ok (.ireturn, 1) := by decide +kernel
theorem dX4_drain_25 : decode cX4_drain 25 = .ok (.iconst 0, 1) := by decide +kernel
theorem dX4_drain_26 : decode cX4_drain 26 = .ok (.istore_n 2, 1) := by decide +kernel
theorem dX4_drain_27 : decode cX4_drain 27 = .ok (.iload_n 2, 1) := by decide +kernel
theorem dX4_drain_28 : decode cX4_drain 28 = .ok (.iload_n 1, 1) := by decide +kernel
theorem dX4_drain_29 : decode cX4_drain 29 = .ok (.if_icmp .ge 26, 3) := by decide +kernel
theorem dX4_drain_32 : decode cX4_drain 32 = .ok (.aload_n 0, 1) := by decide +kernel
theorem dX4_drain_33 : decode cX4_drain 33 = .ok (.getfield 120, 3) := by decide +kernel
theorem dX4_drain_36 : decode cX4_drain 36 = .ok (.ifCond .le 19, 3) := by decide +kernel
theorem dX4_drain_39 : decode cX4_drain 39 = .ok (.aload_n 0, 1) := by decide +kernel
theorem dX4_drain_40 : decode cX4_drain 40 = .ok (.invokevirtual 167, 3) := by decide +kernel
theorem dX4_drain_43 : decode cX4_drain 43 = .ok (.ifCond .ne 6, 3) := by decide +kernel
theorem dX4_drain_46 : decode cX4_drain 46 = .ok (.bipush (-106), 2) := by decide +kernel
theorem dX4_drain_48 : decode cX4_drain 48 = .ok (.ireturn, 1) := by decide +kernel
theorem dX4_drain_49 : decode cX4_drain 49 = .ok (.iinc 2 1, 3) := by decide +kernel
theorem dX4_drain_52 : decode cX4_drain 52 = .ok (.goto (-25), 3) := by decide +kernel
theorem dX4_drain_55 : decode cX4_drain 55 = .ok (.aload_n 0, 1) := by decide +kernel
theorem dX4_drain_56 : decode cX4_drain 56 = .ok (.getfield 120, 3) := by decide +kernel
theorem dX4_drain_59 : decode cX4_drain 59 = .ok (.ireturn, 1) := by decide +kernel
theorem dX4_notOn_0 : decode cX4_notOn 0 = .ok (.iconst 0, 1) := by decide +kernel
theorem dX4_notOn_1 : decode cX4_notOn 1 = .ok (.istore_n 1, 1) := by decide +kernel
theorem dX4_notOn_2 : decode cX4_notOn 2 = .ok (.iload_n 1, 1) := by decide +kernel
theorem dX4_notOn_3 : decode cX4_notOn 3 = .ok (.aload_n 0, 1) := by decide +kernel
theorem dX4_notOn_4 : decode cX4_notOn 4 = .ok (.getfield 69, 3) := by decide +kernel
theorem dX4_notOn_7 : decode cX4_notOn 7 = .ok (.if_icmp .ge 20, 3) := by decide +kernel
theorem dX4_notOn_10 : decode cX4_notOn 10 = .ok (.aload_n 0, 1) := by decide +kernel
theorem dX4_notOn_11 : decode cX4_notOn 11 = .ok (.getfield 24, 3) := by decide +kernel
theorem dX4_notOn_14 : decode cX4_notOn 14 = .ok (.iload_n 1, 1) := by decide +kernel
theorem dX4_notOn_15 : decode cX4_notOn 15 = .ok (.iaload, 1) := by decide +kernel
theorem dX4_notOn_16 : decode cX4_notOn 16 = .ok (.ifCond .eq 5, 3) := by decide +kernel
theorem dX4_notOn_19 : decode cX4_notOn 19 = .ok (.iload_n 1, 1) := by decide +kernel
theorem dX4_notOn_20 : decode cX4_notOn 20 = .ok (.ireturn, 1) := by decide +kernel
theorem dX4_notOn_21 : decode cX4_notOn 21 = .ok (.iinc 1 1, 3) := by decide +kernel
theorem dX4_notOn_24 : decode cX4_notOn 24 = .ok (.goto (-22), 3) := by decide +kernel
theorem dX4_notOn_27 : decode cX4_notOn 27 = .ok (.iconst (-1), 1) := by decide +kernel
theorem dX4_notOn_28 : decode cX4_notOn 28 = .ok (.ireturn, 1) := by decide +kernel
set_option maxRecDepth 20000 in
theorem ggX4_lose_X4_in : GoodIn wsX4_lose wsX4_in := goodIn_r _ [7] (by decide +kernel) (by decide +kernel)
set_option maxRecDepth 20000 in
theorem gX4_lose_X4_in : GoodIn wsX4_lose (va_wsS RX4 74 yX4_in wsX4_in) := goodIn_app (goodIn_of _ (by decide +kernel)) ggX4_lose_X4_in
set_option maxRecDepth 20000 in
theorem ggX4_lose_X4_notOn : GoodIn wsX4_lose wsX4_notOn := goodIn_r _ [11, 2, 3, 12, 13, 14, 15, 16, 17, 18, 19, 20, 21, 22, 23, 24, 25, 26, 27, 28, 29, 30, 31, 32, 33, 34, 35, 36] (by decide +kernel) (by decide +kernel)
set_option maxRecDepth 20000 in
theorem gX4_lose_X4_notOn : GoodIn wsX4_lose (wsV RX4 186 RX4 yX4_notOn wsX4_notOn) := goodIn_app (goodIn_of _ (by decide +kernel)) ggX4_lose_X4_notOn
theorem dX4_lose_0 : decode cX4_lose 0 = .ok (.aload_n 0, 1) := by decide +kernel
theorem dX4_lose_1 : decode cX4_lose 1 = .ok (.getfield 103, 3) := by decide +kernel
theorem dX4_lose_4 : decode cX4_lose 4 = .ok (.ifCond .eq 6, 3) := by decide +kernel
theorem dX4_lose_7 : decode cX4_lose 7 = .ok (.bipush (-100), 2) := by decide +kernel
theorem dX4_lose_9 : decode cX4_lose 9 = .ok (.ireturn, 1) := by decide +kernel
theorem dX4_lose_10 : decode cX4_lose 10 = .ok (.iload_n 1, 1) := by decide +kernel
theorem dX4_lose_11 : decode cX4_lose 11 = .ok (.i2l, 1) := by decide +kernel
theorem dX4_lose_12 : decode cX4_lose 12 = .ok (.lconst 0, 1) := by decide +kernel
theorem dX4_lose_13 : decode cX4_lose 13 = .ok (.aload_n 0, 1) := by decide +kernel
theorem dX4_lose_14 : decode cX4_lose 14 = .ok (.getfield 69, 3) := by decide +kernel
theorem dX4_lose_17 : decode cX4_lose 17 = .ok (.iconst 1, 1) := by decide +kernel
theorem dX4_lose_18 : decode cX4_lose 18 = .ok (.isub, 1) := by decide +kernel
theorem dX4_lose_19 : decode cX4_lose 19 = .ok (.i2l, 1) := by decide +kernel
theorem dX4_lose_20 : decode cX4_lose 20 = .ok (.invokestatic 74, 3) := by decide +kernel
theorem dX4_lose_23 : decode cX4_lose 23 = .ok (.ifCond .ne 6, 3) := by decide +kernel
theorem dX4_lose_26 : decode cX4_lose 26 = .ok (.bipush (-101), 2) := by decide +kernel
theorem dX4_lose_28 : decode cX4_lose 28 = .ok (.ireturn, 1) := by decide +kernel
theorem dX4_lose_29 : decode cX4_lose 29 = .ok (.aload_n 0, 1) := by decide +kernel
theorem dX4_lose_30 : decode cX4_lose 30 = .ok (.invokevirtual 186, 3) := by decide +kernel
theorem dX4_lose_33 : decode cX4_lose 33 = .ok (.iconst (-1), 1) := by decide +kernel
theorem dX4_lose_34 : decode cX4_lose 34 = .ok (.if_icmp .eq 6, 3) := by decide +kernel
theorem dX4_lose_37 : decode cX4_lose 37 = .ok (.bipush (-103), 2) := by decide +kernel
theorem dX4_lose_39 : decode cX4_lose 39 = .ok (.ireturn, 1) := by decide +kernel
theorem dX4_lose_40 : decode cX4_lose 40 = .ok (.aload_n 0, 1) := by decide +kernel
theorem dX4_lose_41 : decode cX4_lose 41 = .ok (.getfield 24, 3) := by decide +kernel
theorem dX4_lose_44 : decode cX4_lose 44 = .ok (.iload_n 1, 1) := by decide +kernel
theorem dX4_lose_45 : decode cX4_lose 45 = .ok (.iconst 1, 1) := by decide +kernel
theorem dX4_lose_46 : decode cX4_lose 46 = .ok (.iastore, 1) := by decide +kernel
theorem dX4_lose_47 : decode cX4_lose 47 = .ok (.iconst 1, 1) := by decide +kernel
theorem dX4_lose_48 : decode cX4_lose 48 = .ok (.ireturn, 1) := by decide +kernel
set_option maxRecDepth 20000 in
theorem ggX4_spare_X4_notOn : GoodIn wsX4_spare wsX4_notOn := goodIn_r _ [11, 12, 2, 17, 18, 19, 20, 21, 22, 23, 24, 25, 26, 27, 28, 29, 30, 31, 32, 33, 34, 35, 36, 37, 38, 39, 40, 41] (by decide +kernel) (by decide +kernel)
set_option maxRecDepth 20000 in
theorem gX4_spare_X4_notOn : GoodIn wsX4_spare (wsV RX4 186 RX4 yX4_notOn wsX4_notOn) := goodIn_app (goodIn_of _ (by decide +kernel)) ggX4_spare_X4_notOn
set_option maxRecDepth 20000 in
theorem ggX4_spare_X4_at : GoodIn wsX4_spare wsX4_at := goodIn_r _ [16] (by decide +kernel) (by decide +kernel)
set_option maxRecDepth 20000 in
theorem gX4_spare_X4_at : GoodIn wsX4_spare (wsV RX4 82 RX4 yX4_at wsX4_at) := goodIn_app (goodIn_of _ (by decide +kernel)) ggX4_spare_X4_at
theorem dX4_spare_0 : decode cX4_spare 0 = .ok (.aload_n 0, 1) := by decide +kernel
theorem dX4_spare_1 : decode cX4_spare 1 = .ok (.getfield 103, 3) := by decide +kernel
theorem dX4_spare_4 : decode cX4_spare 4 = .ok (.ifCond .eq 6, 3) := by decide +kernel
theorem dX4_spare_7 : decode cX4_spare 7 = .ok (.bipush (-100), 2) := by decide +kernel
theorem dX4_spare_9 : decode cX4_spare 9 = .ok (.ireturn, 1) := by decide +kernel
theorem dX4_spare_10 : decode cX4_spare 10 = .ok (.aload_n 0, 1) := by decide +kernel
theorem dX4_spare_11 : decode cX4_spare 11 = .ok (.invokevirtual 186, 3) := by decide +kernel
theorem dX4_spare_14 : decode cX4_spare 14 = .ok (.istore_n 1, 1) := by decide +kernel
theorem dX4_spare_15 : decode cX4_spare 15 = .ok (.iload_n 1, 1) := by decide +kernel
theorem dX4_spare_16 : decode cX4_spare 16 = .ok (.iconst (-1), 1) := by decide +kernel
theorem dX4_spare_17 : decode cX4_spare 17 = .ok (.if_icmp .eq 13, 3) := by decide +kernel
theorem dX4_spare_20 : decode cX4_spare 20 = .ok (.aload_n 0, 1) := by decide +kernel
theorem dX4_spare_21 : decode cX4_spare 21 = .ok (.getfield 24, 3) := by decide +kernel
theorem dX4_spare_24 : decode cX4_spare 24 = .ok (.iload_n 1, 1) := by decide +kernel
theorem dX4_spare_25 : decode cX4_spare 25 = .ok (.iaload, 1) := by decide +kernel
theorem dX4_spare_26 : decode cX4_spare 26 = .ok (.iconst 1, 1) := by decide +kernel
theorem dX4_spare_27 : decode cX4_spare 27 = .ok (.if_icmp .eq 6, 3) := by decide +kernel
theorem dX4_spare_30 : decode cX4_spare 30 = .ok (.bipush (-103), 2) := by decide +kernel
theorem dX4_spare_32 : decode cX4_spare 32 = .ok (.ireturn, 1) := by decide +kernel
theorem dX4_spare_33 : decode cX4_spare 33 = .ok (.aload_n 0, 1) := by decide +kernel
theorem dX4_spare_34 : decode cX4_spare 34 = .ok (.getfield 24, 3) := by decide +kernel
theorem dX4_spare_37 : decode cX4_spare 37 = .ok (.iload_n 1, 1) := by decide +kernel
theorem dX4_spare_38 : decode cX4_spare 38 = .ok (.iconst 2, 1) := by decide +kernel
theorem dX4_spare_39 : decode cX4_spare 39 = .ok (.iastore, 1) := by decide +kernel
theorem dX4_spare_40 : decode cX4_spare 40 = .ok (.aload_n 0, 1) := by decide +kernel
theorem dX4_spare_41 : decode cX4_spare 41 = .ok (.getfield 27, 3) := by decide +kernel
theorem dX4_spare_44 : decode cX4_spare 44 = .ok (.iload_n 1, 1) := by decide +kernel
theorem dX4_spare_45 : decode cX4_spare 45 = .ok (.iconst 0, 1) := by decide +kernel
theorem dX4_spare_46 : decode cX4_spare 46 = .ok (.iastore, 1) := by decide +kernel
theorem dX4_spare_47 : decode cX4_spare 47 = .ok (.iconst 0, 1) := by decide +kernel
theorem dX4_spare_48 : decode cX4_spare 48 = .ok (.istore_n 2, 1) := by decide +kernel
theorem dX4_spare_49 : decode cX4_spare 49 = .ok (.iload_n 2, 1) := by decide +kernel
theorem dX4_spare_50 : decode cX4_spare 50 = .ok (.bipush 24, 2) := by decide +kernel
theorem dX4_spare_52 : decode cX4_spare 52 = .ok (.if_icmp .ge 59, 3) := by decide +kernel
theorem dX4_spare_55 : decode cX4_spare 55 = .ok (.aload_n 0, 1) := by decide +kernel
theorem dX4_spare_56 : decode cX4_spare 56 = .ok (.iload_n 1, 1) := by decide +kernel
theorem dX4_spare_57 : decode cX4_spare 57 = .ok (.iload_n 2, 1) := by decide +kernel
theorem dX4_spare_58 : decode cX4_spare 58 = .ok (.invokevirtual 82, 3) := by decide +kernel
theorem dX4_spare_61 : decode cX4_spare 61 = .ok (.istore_n 3, 1) := by decide +kernel
theorem dX4_spare_62 : decode cX4_spare 62 = .ok (.aload_n 0, 1) := by decide +kernel
theorem dX4_spare_63 : decode cX4_spare 63 = .ok (.getfield 20, 3) := by decide +kernel
theorem dX4_spare_66 : decode cX4_spare 66 = .ok (.iload_n 3, 1) := by decide +kernel
theorem dX4_spare_67 : decode cX4_spare 67 = .ok (.iconst 0, 1) := by decide +kernel
theorem dX4_spare_68 : decode cX4_spare 68 = .ok (.bastore, 1) := by decide +kernel
theorem dX4_spare_69 : decode cX4_spare 69 = .ok (.aload_n 0, 1) := by decide +kernel
theorem dX4_spare_70 : decode cX4_spare 70 = .ok (.getfield 17, 3) := by decide +kernel
theorem dX4_spare_73 : decode cX4_spare 73 = .ok (.iload_n 3, 1) := by decide +kernel
theorem dX4_spare_74 : decode cX4_spare 74 = .ok (.iconst 0, 1) := by decide +kernel
theorem dX4_spare_75 : decode cX4_spare 75 = .ok (.iastore, 1) := by decide +kernel
theorem dX4_spare_76 : decode cX4_spare 76 = .ok (.iconst 0, 1) := by decide +kernel
theorem dX4_spare_77 : decode cX4_spare 77 = .ok (.istore 4, 2) := by decide +kernel
theorem dX4_spare_79 : decode cX4_spare 79 = .ok (.iload 4, 2) := by decide +kernel
theorem dX4_spare_81 : decode cX4_spare 81 = .ok (.bipush 8, 2) := by decide +kernel
theorem dX4_spare_83 : decode cX4_spare 83 = .ok (.if_icmp .ge 22, 3) := by decide +kernel
theorem dX4_spare_86 : decode cX4_spare 86 = .ok (.aload_n 0, 1) := by decide +kernel
theorem dX4_spare_87 : decode cX4_spare 87 = .ok (.getfield 13, 3) := by decide +kernel
theorem dX4_spare_90 : decode cX4_spare 90 = .ok (.bipush 8, 2) := by decide +kernel
theorem dX4_spare_92 : decode cX4_spare 92 = .ok (.iload_n 3, 1) := by decide +kernel
theorem dX4_spare_93 : decode cX4_spare 93 = .ok (.imul, 1) := by decide +kernel
theorem dX4_spare_94 : decode cX4_spare 94 = .ok (.iload 4, 2) := by decide +kernel
theorem dX4_spare_96 : decode cX4_spare 96 = .ok (.iadd, 1) := by decide +kernel
theorem dX4_spare_97 : decode cX4_spare 97 = .ok (.iconst 0, 1) := by decide +kernel
theorem dX4_spare_98 : decode cX4_spare 98 = .ok (.iastore, 1) := by decide +kernel
theorem dX4_spare_99 : decode cX4_spare 99 = .ok (.iinc 4 1, 3) := by decide +kernel
theorem dX4_spare_102 : decode cX4_spare 102 = .ok (.goto (-23), 3) := by decide +kernel
theorem dX4_spare_105 : decode cX4_spare 105 = .ok (.iinc 2 1, 3) := by decide +kernel
theorem dX4_spare_108 : decode cX4_spare 108 = .ok (.goto (-59), 3) := by decide +kernel
theorem dX4_spare_111 : decode cX4_spare 111 = .ok (.iload_n 1, 1) := by decide +kernel
theorem dX4_spare_112 : decode cX4_spare 112 = .ok (.ireturn, 1) := by decide +kernel
set_option maxRecDepth 20000 in
theorem ggX4_freshIsOthers_X4_others : GoodIn wsX4_freshIsOthers wsX4_others := goodIn_r _ [6, 7, 8, 9, 10, 11, 5, 12, 13, 14, 15, 16, 17, 18, 19, 20, 21, 22, 23, 24, 25, 26, 27, 28, 29, 30, 31, 32, 33, 34, 35, 36, 37] (by decide +kernel) (by decide +kernel)
set_option maxRecDepth 20000 in
theorem gX4_freshIsOthers_X4_others : GoodIn wsX4_freshIsOthers (wsV RX4 181 RX4 yX4_others wsX4_others) := goodIn_app (goodIn_of _ (by decide +kernel)) ggX4_freshIsOthers_X4_others
theorem dX4_freshIsOthers_0 : decode cX4_freshIsOthers 0 = .ok (.iconst 0, 1) := by decide +kernel
theorem dX4_freshIsOthers_1 : decode cX4_freshIsOthers 1 = .ok (.istore_n 3, 1) := by decide +kernel
theorem dX4_freshIsOthers_2 : decode cX4_freshIsOthers 2 = .ok (.iload_n 3, 1) := by decide +kernel
theorem dX4_freshIsOthers_3 : decode cX4_freshIsOthers 3 = .ok (.bipush 8, 2) := by decide +kernel
theorem dX4_freshIsOthers_5 : decode cX4_freshIsOthers 5 = .ok (.if_icmp .ge 22, 3) := by decide +kernel
theorem dX4_freshIsOthers_8 : decode cX4_freshIsOthers 8 = .ok (.aload_n 0, 1) := by decide +kernel
theorem dX4_freshIsOthers_9 : decode cX4_freshIsOthers 9 = .ok (.getfield 63, 3) := by decide +kernel
theorem dX4_freshIsOthers_12 : decode cX4_freshIsOthers 12 = .ok (.iload_n 3, 1) := by decide +kernel
theorem dX4_freshIsOthers_13 : decode cX4_freshIsOthers 13 = .ok (.aload_n 0, 1) := by decide +kernel
theorem dX4_freshIsOthers_14 : decode cX4_freshIsOthers 14 = .ok (.iload_n 1, 1) := by decide +kernel
theorem dX4_freshIsOthers_15 : decode cX4_freshIsOthers 15 = .ok (.iload_n 2, 1) := by decide +kernel
theorem dX4_freshIsOthers_16 : decode cX4_freshIsOthers 16 = .ok (.iload_n 3, 1) := by decide +kernel
theorem dX4_freshIsOthers_17 : decode cX4_freshIsOthers 17 = .ok (.invokevirtual 181, 3) := by decide +kernel
theorem dX4_freshIsOthers_20 : decode cX4_freshIsOthers 20 = .ok (.iastore, 1) := by decide +kernel
theorem dX4_freshIsOthers_21 : decode cX4_freshIsOthers 21 = .ok (.iinc 3 1, 3) := by decide +kernel
theorem dX4_freshIsOthers_24 : decode cX4_freshIsOthers 24 = .ok (.goto (-22), 3) := by decide +kernel
theorem dX4_freshIsOthers_27 : decode cX4_freshIsOthers 27 = .ok (.return_, 1) := by decide +kernel
set_option maxRecDepth 20000 in
theorem ggX4_buildsUp_X4_drained : GoodIn wsX4_buildsUp wsX4_drained := goodIn_r _ [14, 7, 15, 4, 2, 3, 16, 17, 18, 19, 20, 21, 22, 13, 23, 5, 24, 25, 26, 27, 28, 29, 30, 31, 32, 33, 34, 35, 36, 37, 38, 39, 9, 1, 40, 41, 42, 43, 44, 45, 46, 47, 48, 49, 50, 51, 6, 52, 53, 54, 55, 56, 57, 58, 59, 60, 61, 62, 63, 64, 65, 66, 67, 68, 69, 70, 71, 8, 88, 89, 90, 91, 92, 93, 94, 95, 96, 97, 98, 99, 100, 101, 102, 103, 104, 105, 106, 107, 108, 109, 110, 111, 112] (by decide +kernel) (by decide +kernel)
set_option maxRecDepth 20000 in
theorem gX4_buildsUp_X4_drained : GoodIn wsX4_buildsUp (wsV RX4 167 RX4 yX4_drained wsX4_drained) := goodIn_app (goodIn_of _ (by decide +kernel)) ggX4_buildsUp_X4_drained
set_option maxRecDepth 20000 in
theorem ggX4_buildsUp_X4_othersThere : GoodIn wsX4_buildsUp wsX4_othersThere := goodIn_r _ [75, 5, 76, 77, 78, 13, 79, 6, 52, 53, 54, 55, 56, 36, 37, 38, 39, 9, 1, 64, 65, 66, 67, 51, 88, 89, 90, 91, 92, 93, 94, 95, 96, 97, 98, 99, 100, 101, 102, 103, 104, 105, 106, 107, 108, 109, 110, 111, 112] (by decide +kernel) (by decide +kernel)
set_option maxRecDepth 20000 in
theorem gX4_buildsUp_X4_othersThere : GoodIn wsX4_buildsUp (wsV RX4 173 RX4 yX4_othersThere wsX4_othersThere) := goodIn_app (goodIn_of _ (by decide +kernel)) ggX4_buildsUp_X4_othersThere
set_option maxRecDepth 20000 in
theorem ggX4_buildsUp_X4_freshIsOthers : GoodIn wsX4_buildsUp wsX4_freshIsOthers := goodIn_r _ [83, 44, 84, 85, 86, 13, 87, 5, 51, 53, 54, 55, 56, 88, 89, 90, 91, 92, 93, 94, 95, 96, 97, 98, 99, 100, 101, 102, 103, 104, 105, 106, 107, 108, 109, 110, 111, 112] (by decide +kernel) (by decide +kernel)
set_option maxRecDepth 20000 in
theorem gX4_buildsUp_X4_freshIsOthers : GoodIn wsX4_buildsUp (wsV RX4 189 RX4 yX4_freshIsOthers wsX4_freshIsOthers) := goodIn_app (goodIn_of _ (by decide +kernel)) ggX4_buildsUp_X4_freshIsOthers
set_option maxRecDepth 20000 in
theorem ggX4_buildsUp_X4_chunkIs : GoodIn wsX4_buildsUp wsX4_chunkIs := goodIn_r _ [48, 49, 50, 51, 44, 6, 52, 53, 54, 55, 13, 56, 57, 58, 59, 60, 4, 61, 62, 63, 5, 1, 64, 65, 66, 67, 88, 89, 90, 91, 92, 93, 94, 95, 96, 97, 98, 99, 100, 101, 102, 103, 104, 105, 106, 107, 108, 109, 110, 111, 112] (by decide +kernel) (by decide +kernel)
set_option maxRecDepth 20000 in
theorem gX4_buildsUp_X4_chunkIs : GoodIn wsX4_buildsUp (wsV RX4 130 RX4 yX4_chunkIs wsX4_chunkIs) := goodIn_app (goodIn_of _ (by decide +kernel)) ggX4_buildsUp_X4_chunkIs
set_option maxRecDepth 20000 in
theorem ggX4_buildsUp_X4_at : GoodIn wsX4_buildsUp wsX4_at := goodIn_r _ [56] (by decide +kernel) (by decide +kernel)
set_option maxRecDepth 20000 in
theorem gX4_buildsUp_X4_at : GoodIn wsX4_buildsUp (wsV RX4 82 RX4 yX4_at wsX4_at) := goodIn_app (goodIn_of _ (by decide +kernel)) ggX4_buildsUp_X4_at
set_option maxRecDepth 20000 in
theorem ggX4_buildsUp_X4_markIs : GoodIn wsX4_buildsUp wsX4_markIs := goodIn_r _ [71, 4, 7, 8, 57, 58, 59, 13, 60, 61, 62, 63, 5, 1, 88, 89, 90, 91, 92, 93, 94, 95, 96, 97, 98, 99, 100, 101, 102, 103, 104, 105, 106, 107, 108, 109, 110, 111, 112] (by decide +kernel) (by decide +kernel)
set_option maxRecDepth 20000 in
theorem gX4_buildsUp_X4_markIs : GoodIn wsX4_buildsUp (wsV RX4 137 RX4 yX4_markIs wsX4_markIs) := goodIn_app (goodIn_of _ (by decide +kernel)) ggX4_buildsUp_X4_markIs
theorem dX4_buildsUp_0 : decode cX4_buildsUp 0 = .ok (.aload_n 0, 1) := by decide +kernel
theorem dX4_buildsUp_1 : decode cX4_buildsUp 1 = .ok (.getfield 27, 3) := by decide +kernel
theorem dX4_buildsUp_4 : decode cX4_buildsUp 4 = .ok (.iload_n 1, 1) := by decide +kernel
theorem dX4_buildsUp_5 : decode cX4_buildsUp 5 = .ok (.iaload, 1) := by decide +kernel
theorem dX4_buildsUp_6 : decode cX4_buildsUp 6 = .ok (.istore_n 2, 1) := by decide +kernel
theorem dX4_buildsUp_7 : decode cX4_buildsUp 7 = .ok (.iconst 0, 1) := by decide +kernel
theorem dX4_buildsUp_8 : decode cX4_buildsUp 8 = .ok (.istore_n 3, 1) := by decide +kernel
theorem dX4_buildsUp_9 : decode cX4_buildsUp 9 = .ok (.iconst 0, 1) := by decide +kernel
theorem dX4_buildsUp_10 : decode cX4_buildsUp 10 = .ok (.istore 4, 2) := by decide +kernel
theorem dX4_buildsUp_12 : decode cX4_buildsUp 12 = .ok (.iload 4, 2) := by decide +kernel
theorem dX4_buildsUp_14 : decode cX4_buildsUp 14 = .ok (.aload_n 0, 1) := by decide +kernel
theorem dX4_buildsUp_15 : decode cX4_buildsUp 15 = .ok (.getfield 120, 3) := by decide +kernel
theorem dX4_buildsUp_18 : decode cX4_buildsUp 18 = .ok (.if_icmp .ge 29, 3) := by decide +kernel
theorem dX4_buildsUp_21 : decode cX4_buildsUp 21 = .ok (.aload_n 0, 1) := by decide +kernel
theorem dX4_buildsUp_22 : decode cX4_buildsUp 22 = .ok (.getfield 33, 3) := by decide +kernel
theorem dX4_buildsUp_25 : decode cX4_buildsUp 25 = .ok (.iload 4, 2) := by decide +kernel
theorem dX4_buildsUp_27 : decode cX4_buildsUp 27 = .ok (.iaload, 1) := by decide +kernel
theorem dX4_buildsUp_28 : decode cX4_buildsUp 28 = .ok (.iload_n 2, 1) := by decide +kernel
theorem dX4_buildsUp_29 : decode cX4_buildsUp 29 = .ok (.if_icmp .ne 10, 3) := by decide +kernel
theorem dX4_buildsUp_32 : decode cX4_buildsUp 32 = .ok (.iload 4, 2) := by decide +kernel
theorem dX4_buildsUp_34 : decode cX4_buildsUp 34 = .ok (.iconst 1, 1) := by decide +kernel
theorem dX4_buildsUp_35 : decode cX4_buildsUp 35 = .ok (.iadd, 1) := by decide +kernel
theorem dX4_buildsUp_36 : decode cX4_buildsUp 36 = .ok (.goto 4, 3) := by decide +kernel
theorem dX4_buildsUp_39 : decode cX4_buildsUp 39 = .ok (.iload_n 3, 1) := by decide +kernel
theorem dX4_buildsUp_40 : decode cX4_buildsUp 40 = .ok (.istore_n 3, 1) := by decide +kernel
theorem dX4_buildsUp_41 : decode cX4_buildsUp 41 = .ok (.iinc 4 1, 3) := by decide +kernel
theorem dX4_buildsUp_44 : decode cX4_buildsUp 44 = .ok (.goto (-32), 3) := by decide +kernel
theorem dX4_buildsUp_47 : decode cX4_buildsUp 47 = .ok (.iconst 0, 1) := by decide +kernel
theorem dX4_buildsUp_48 : decode cX4_buildsUp 48 = .ok (.istore 4, 2) := by decide +kernel
theorem dX4_buildsUp_50 : decode cX4_buildsUp 50 = .ok (.iload 4, 2) := by decide +kernel
theorem dX4_buildsUp_52 : decode cX4_buildsUp 52 = .ok (.iload_n 3, 1) := by decide +kernel
theorem dX4_buildsUp_53 : decode cX4_buildsUp 53 = .ok (.if_icmp .ge 18, 3) := by decide +kernel
theorem dX4_buildsUp_56 : decode cX4_buildsUp 56 = .ok (.aload_n 0, 1) := by decide +kernel
theorem dX4_buildsUp_57 : decode cX4_buildsUp 57 = .ok (.invokevirtual 167, 3) := by decide +kernel
theorem dX4_buildsUp_60 : decode cX4_buildsUp 60 = .ok (.ifCond .ne 5, 3) := by decide +kernel
theorem dX4_buildsUp_63 : decode cX4_buildsUp 63 = .ok (.iconst 0, 1) := by decide +kernel
theorem dX4_buildsUp_64 : decode cX4_buildsUp 64 = .ok (.ireturn, 1) := by decide +kernel
theorem dX4_buildsUp_65 : decode cX4_buildsUp 65 = .ok (.iinc 4 1, 3) := by decide +kernel
theorem dX4_buildsUp_68 : decode cX4_buildsUp 68 = .ok (.goto (-18), 3) := by decide +kernel
theorem dX4_buildsUp_71 : decode cX4_buildsUp 71 = .ok (.aload_n 0, 1) := by decide +kernel
theorem dX4_buildsUp_72 : decode cX4_buildsUp 72 = .ok (.iload_n 1, 1) := by decide +kernel
theorem dX4_buildsUp_73 : decode cX4_buildsUp 73 = .ok (.iload_n 2, 1) := by decide +kernel
theorem dX4_buildsUp_74 : decode cX4_buildsUp 74 = .ok (.invokevirtual 173, 3) := by decide +kernel
theorem dX4_buildsUp_77 : decode cX4_buildsUp 77 = .ok (.ifCond .eq 35, 3) := by decide +kernel
theorem dX4_buildsUp_80 : decode cX4_buildsUp 80 = .ok (.aload_n 0, 1) := by decide +kernel
theorem dX4_buildsUp_81 : decode cX4_buildsUp 81 = .ok (.getfield 60, 3) := by decide +kernel
theorem dX4_buildsUp_84 : decode cX4_buildsUp 84 = .ok (.iconst 3, 1) := by decide +kernel
theorem dX4_buildsUp_85 : decode cX4_buildsUp 85 = .ok (.dup2, 1) := by decide +kernel
theorem dX4_buildsUp_86 : decode cX4_buildsUp 86 = .ok (.iaload, 1) := by decide +kernel
theorem dX4_buildsUp_87 : decode cX4_buildsUp 87 = .ok (.aload_n 0, 1) := by decide +kernel
theorem dX4_buildsUp_88 : decode cX4_buildsUp 88 = .ok (.getfield 69, 3) := by decide +kernel
theorem dX4_buildsUp_91 : decode cX4_buildsUp 91 = .ok (.iconst 1, 1) := by decide +kernel
theorem dX4_buildsUp_92 : decode cX4_buildsUp 92 = .ok (.isub, 1) := by decide +kernel
theorem dX4_buildsUp_93 : decode cX4_buildsUp 93 = .ok (.iadd, 1) := by decide +kernel
theorem dX4_buildsUp_94 : decode cX4_buildsUp 94 = .ok (.iastore, 1) := by decide +kernel
theorem dX4_buildsUp_95 : decode cX4_buildsUp 95 = .ok (.aload_n 0, 1) := by decide +kernel
theorem dX4_buildsUp_96 : decode cX4_buildsUp 96 = .ok (.iload_n 1, 1) := by decide +kernel
theorem dX4_buildsUp_97 : decode cX4_buildsUp 97 = .ok (.iload_n 2, 1) := by decide +kernel
theorem dX4_buildsUp_98 : decode cX4_buildsUp 98 = .ok (.invokevirtual 189, 3) := by decide +kernel
theorem dX4_buildsUp_101 : decode cX4_buildsUp 101 = .ok (.aload_n 0, 1) := by decide +kernel
theorem dX4_buildsUp_102 : decode cX4_buildsUp 102 = .ok (.iload_n 1, 1) := by decide +kernel
theorem dX4_buildsUp_103 : decode cX4_buildsUp 103 = .ok (.iload_n 2, 1) := by decide +kernel
theorem dX4_buildsUp_104 : decode cX4_buildsUp 104 = .ok (.invokevirtual 130, 3) := by decide +kernel
theorem dX4_buildsUp_107 : decode cX4_buildsUp 107 = .ok (.ifCond .ne 28, 3) := by decide +kernel
theorem dX4_buildsUp_110 : decode cX4_buildsUp 110 = .ok (.iconst 0, 1) := by decide +kernel
theorem dX4_buildsUp_111 : decode cX4_buildsUp 111 = .ok (.ireturn, 1) := by decide +kernel
theorem dX4_buildsUp_112 : decode cX4_buildsUp 112 = .ok (.aload_n 0, 1) := by decide +kernel
theorem dX4_buildsUp_113 : decode cX4_buildsUp 113 = .ok (.getfield 20, 3) := by decide +kernel
theorem dX4_buildsUp_116 : decode cX4_buildsUp 116 = .ok (.aload_n 0, 1) := by decide +kernel
theorem dX4_buildsUp_117 : decode cX4_buildsUp 117 = .ok (.iload_n 1, 1) := by decide +kernel
theorem dX4_buildsUp_118 : decode cX4_buildsUp 118 = .ok (.iload_n 2, 1) := by decide +kernel
theorem dX4_buildsUp_119 : decode cX4_buildsUp 119 = .ok (.invokevirtual 82, 3) := by decide +kernel
theorem dX4_buildsUp_122 : decode cX4_buildsUp 122 = .ok (.iconst 1, 1) := by decide +kernel
theorem dX4_buildsUp_123 : decode cX4_buildsUp 123 = .ok (.bastore, 1) := by decide +kernel
theorem dX4_buildsUp_124 : decode cX4_buildsUp 124 = .ok (.aload_n 0, 1) := by decide +kernel
theorem dX4_buildsUp_125 : decode cX4_buildsUp 125 = .ok (.getfield 60, 3) := by decide +kernel
theorem dX4_buildsUp_128 : decode cX4_buildsUp 128 = .ok (.bipush 8, 2) := by decide +kernel
theorem dX4_buildsUp_130 : decode cX4_buildsUp 130 = .ok (.dup2, 1) := by decide +kernel
theorem dX4_buildsUp_131 : decode cX4_buildsUp 131 = .ok (.iaload, 1) := by decide +kernel
theorem dX4_buildsUp_132 : decode cX4_buildsUp 132 = .ok (.iconst 1, 1) := by decide +kernel
theorem dX4_buildsUp_133 : decode cX4_buildsUp 133 = .ok (.iadd, 1) := by decide +kernel
theorem dX4_buildsUp_134 : decode cX4_buildsUp 134 = .ok (.iastore, 1) := by decide +kernel
theorem dX4_buildsUp_135 : decode cX4_buildsUp 135 = .ok (.aload_n 0, 1) := by decide +kernel
theorem dX4_buildsUp_136 : decode cX4_buildsUp 136 = .ok (.getfield 27, 3) := by decide +kernel
theorem dX4_buildsUp_139 : decode cX4_buildsUp 139 = .ok (.iload_n 1, 1) := by decide +kernel
theorem dX4_buildsUp_140 : decode cX4_buildsUp 140 = .ok (.dup2, 1) := by decide +kernel
theorem dX4_buildsUp_141 : decode cX4_buildsUp 141 = .ok (.iaload, 1) := by decide +kernel
theorem dX4_buildsUp_142 : decode cX4_buildsUp 142 = .ok (.iconst 1, 1) := by decide +kernel
theorem dX4_buildsUp_143 : decode cX4_buildsUp 143 = .ok (.iadd, 1) := by decide +kernel
theorem dX4_buildsUp_144 : decode cX4_buildsUp 144 = .ok (.iastore, 1) := by decide +kernel
theorem dX4_buildsUp_145 : decode cX4_buildsUp 145 = .ok (.aload_n 0, 1) := by decide +kernel
theorem dX4_buildsUp_146 : decode cX4_buildsUp 146 = .ok (.getfield 27, 3) := by decide +kernel
theorem dX4_buildsUp_149 : decode cX4_buildsUp 149 = .ok (.iload_n 1, 1) := by decide +kernel
theorem dX4_buildsUp_150 : decode cX4_buildsUp 150 = .ok (.iaload, 1) := by decide +kernel
theorem dX4_buildsUp_151 : decode cX4_buildsUp 151 = .ok (.bipush 24, 2) := by decide +kernel
theorem dX4_buildsUp_153 : decode cX4_buildsUp 153 = .ok (.if_icmp .ne 27, 3) := by decide +kernel
theorem dX4_buildsUp_156 : decode cX4_buildsUp 156 = .ok (.aload_n 0, 1) := by decide +kernel
theorem dX4_buildsUp_157 : decode cX4_buildsUp 157 = .ok (.aload_n 0, 1) := by decide +kernel
theorem dX4_buildsUp_158 : decode cX4_buildsUp 158 = .ok (.getfield 117, 3) := by decide +kernel
theorem dX4_buildsUp_161 : decode cX4_buildsUp 161 = .ok (.aload_n 0, 1) := by decide +kernel
theorem dX4_buildsUp_162 : decode cX4_buildsUp 162 = .ok (.getfield 51, 3) := by decide +kernel
theorem dX4_buildsUp_165 : decode cX4_buildsUp 165 = .ok (.invokevirtual 137, 3) := by decide +kernel
theorem dX4_buildsUp_168 : decode cX4_buildsUp 168 = .ok (.ifCond .ne 5, 3) := by decide +kernel
theorem dX4_buildsUp_171 : decode cX4_buildsUp 171 = .ok (.iconst 0, 1) := by decide +kernel
theorem dX4_buildsUp_172 : decode cX4_buildsUp 172 = .ok (.ireturn, 1) := by decide +kernel
theorem dX4_buildsUp_173 : decode cX4_buildsUp 173 = .ok (.aload_n 0, 1) := by decide +kernel
theorem dX4_buildsUp_174 : decode cX4_buildsUp 174 = .ok (.getfield 24, 3) := by decide +kernel
theorem dX4_buildsUp_177 : decode cX4_buildsUp 177 = .ok (.iload_n 1, 1) := by decide +kernel
theorem dX4_buildsUp_178 : decode cX4_buildsUp 178 = .ok (.iconst 0, 1) := by decide +kernel
theorem dX4_buildsUp_179 : decode cX4_buildsUp 179 = .ok (.iastore, 1) := by decide +kernel
theorem dX4_buildsUp_180 : decode cX4_buildsUp 180 = .ok (.iconst 1, 1) := by decide +kernel
theorem dX4_buildsUp_181 : decode cX4_buildsUp 181 = .ok (.ireturn, 1) := by decide +kernel
set_option maxRecDepth 20000 in
theorem ggX4_build_X4_in : GoodIn wsX4_build wsX4_in := goodIn_r _ [8] (by decide +kernel) (by decide +kernel)
set_option maxRecDepth 20000 in
theorem gX4_build_X4_in : GoodIn wsX4_build (va_wsS RX4 74 yX4_in wsX4_in) := goodIn_app (goodIn_of _ (by decide +kernel)) ggX4_build_X4_in
set_option maxRecDepth 20000 in
theorem ggX4_build_X4_notOn : GoodIn wsX4_build wsX4_notOn := goodIn_r _ [12, 13, 3, 100, 101, 102, 103, 104, 105, 106, 107, 108, 109, 110, 111, 112, 113, 114, 115, 116, 117, 118, 119, 120, 121, 122, 123, 124] (by decide +kernel) (by decide +kernel)
set_option maxRecDepth 20000 in
theorem gX4_build_X4_notOn : GoodIn wsX4_build (wsV RX4 186 RX4 yX4_notOn wsX4_notOn) := goodIn_app (goodIn_of _ (by decide +kernel)) ggX4_build_X4_notOn
set_option maxRecDepth 20000 in
theorem ggX4_build_X4_buildsUp : GoodIn wsX4_build wsX4_buildsUp := goodIn_r _ [17, 4, 18, 19, 20, 13, 21, 22, 23, 3, 24, 25, 26, 7, 27, 28, 29, 30, 31, 32, 33, 34, 35, 36, 37, 38, 39, 40, 41, 42, 43, 44, 45, 46, 47, 48, 49, 50, 51, 52, 53, 54, 55, 56, 57, 58, 59, 60, 61, 62, 63, 64, 65, 66, 67, 68, 69, 70, 71, 72, 73, 74, 1, 75, 76, 77, 78, 79, 80, 81, 82, 83, 84, 85, 86, 87, 88, 89, 90, 91, 92, 93, 94, 95, 96, 97, 98, 99, 100, 101, 102, 103, 104, 105, 106, 107, 108, 109, 110, 111, 112, 113, 114, 115, 116, 117, 118, 119, 120, 121, 122, 123, 124] (by decide +kernel) (by decide +kernel)
set_option maxRecDepth 20000 in
theorem gX4_build_X4_buildsUp : GoodIn wsX4_build (wsV RX4 192 RX4 yX4_buildsUp wsX4_buildsUp) := goodIn_app (goodIn_of _ (by decide +kernel)) ggX4_build_X4_buildsUp
theorem dX4_build_0 : decode cX4_build 0 = .ok (.aload_n 0, 1) := by decide +kernel
theorem dX4_build_1 : decode cX4_build 1 = .ok (.getfield 103, 3) := by decide +kernel
theorem dX4_build_4 : decode cX4_build 4 = .ok (.ifCond .eq 6, 3) := by decide +kernel
theorem dX4_build_7 : decode cX4_build 7 = .ok (.bipush (-100), 2) := by decide +kernel
theorem dX4_build_9 : decode cX4_build 9 = .ok (.ireturn, 1) := by decide +kernel
theorem dX4_build_10 : decode cX4_build 10 = .ok (.iload_n 1, 1) := by decide +kernel
theorem dX4_build_11 : decode cX4_build 11 = .ok (.i2l, 1) := by decide +kernel
theorem dX4_build_12 : decode cX4_build 12 = .ok (.lconst 1, 1) := by decide +kernel
theorem dX4_build_13 : decode cX4_build 13 = .ok (.ldc2_w 72, 3) := by decide +kernel
theorem dX4_build_16 : decode cX4_build 16 = .ok (.invokestatic 74, 3) := by decide +kernel
theorem dX4_build_19 : decode cX4_build 19 = .ok (.ifCond .ne 6, 3) := by decide +kernel
theorem dX4_build_22 : decode cX4_build 22 = .ok (.bipush (-102), 2) := by decide +kernel
theorem dX4_build_24 : decode cX4_build 24 = .ok (.ireturn, 1) := by decide +kernel
theorem dX4_build_25 : decode cX4_build 25 = .ok (.aload_n 0, 1) := by decide +kernel
theorem dX4_build_26 : decode cX4_build 26 = .ok (.invokevirtual 186, 3) := by decide +kernel
theorem dX4_build_29 : decode cX4_build 29 = .ok (.istore_n 2, 1) := by decide +kernel
theorem dX4_build_30 : decode cX4_build 30 = .ok (.iload_n 2, 1) := by decide +kernel
theorem dX4_build_31 : decode cX4_build 31 = .ok (.iconst (-1), 1) := by decide +kernel
theorem dX4_build_32 : decode cX4_build 32 = .ok (.if_icmp .eq 13, 3) := by decide +kernel
theorem dX4_build_35 : decode cX4_build 35 = .ok (.aload_n 0, 1) := by decide +kernel
theorem dX4_build_36 : decode cX4_build 36 = .ok (.getfield 24, 3) := by decide +kernel
theorem dX4_build_39 : decode cX4_build 39 = .ok (.iload_n 2, 1) := by decide +kernel
theorem dX4_build_40 : decode cX4_build 40 = .ok (.iaload, 1) := by decide +kernel
theorem dX4_build_41 : decode cX4_build 41 = .ok (.iconst 2, 1) := by decide +kernel
theorem dX4_build_42 : decode cX4_build 42 = .ok (.if_icmp .eq 6, 3) := by decide +kernel
theorem dX4_build_45 : decode cX4_build 45 = .ok (.bipush (-103), 2) := by decide +kernel
theorem dX4_build_47 : decode cX4_build 47 = .ok (.ireturn, 1) := by decide +kernel
theorem dX4_build_48 : decode cX4_build 48 = .ok (.iconst 0, 1) := by decide +kernel
theorem dX4_build_49 : decode cX4_build 49 = .ok (.istore_n 3, 1) := by decide +kernel
theorem dX4_build_50 : decode cX4_build 50 = .ok (.iload_n 3, 1) := by decide +kernel
theorem dX4_build_51 : decode cX4_build 51 = .ok (.iload_n 1, 1) := by decide +kernel
theorem dX4_build_52 : decode cX4_build 52 = .ok (.if_icmp .ge 30, 3) := by decide +kernel
theorem dX4_build_55 : decode cX4_build 55 = .ok (.aload_n 0, 1) := by decide +kernel
theorem dX4_build_56 : decode cX4_build 56 = .ok (.getfield 24, 3) := by decide +kernel
theorem dX4_build_59 : decode cX4_build 59 = .ok (.iload_n 2, 1) := by decide +kernel
theorem dX4_build_60 : decode cX4_build 60 = .ok (.iaload, 1) := by decide +kernel
theorem dX4_build_61 : decode cX4_build 61 = .ok (.iconst 2, 1) := by decide +kernel
theorem dX4_build_62 : decode cX4_build 62 = .ok (.if_icmp .ne 20, 3) := by decide +kernel
theorem dX4_build_65 : decode cX4_build 65 = .ok (.aload_n 0, 1) := by decide +kernel
theorem dX4_build_66 : decode cX4_build 66 = .ok (.iload_n 2, 1) := by decide +kernel
theorem dX4_build_67 : decode cX4_build 67 = .ok (.invokevirtual 192, 3) := by decide +kernel
theorem dX4_build_70 : decode cX4_build 70 = .ok (.ifCond .ne 6, 3) := by decide +kernel
theorem dX4_build_73 : decode cX4_build 73 = .ok (.bipush (-106), 2) := by decide +kernel
theorem dX4_build_75 : decode cX4_build 75 = .ok (.ireturn, 1) := by decide +kernel
theorem dX4_build_76 : decode cX4_build 76 = .ok (.iinc 3 1, 3) := by decide +kernel
theorem dX4_build_79 : decode cX4_build 79 = .ok (.goto (-29), 3) := by decide +kernel
theorem dX4_build_82 : decode cX4_build 82 = .ok (.aload_n 0, 1) := by decide +kernel
theorem dX4_build_83 : decode cX4_build 83 = .ok (.getfield 24, 3) := by decide +kernel
theorem dX4_build_86 : decode cX4_build 86 = .ok (.iload_n 2, 1) := by decide +kernel
theorem dX4_build_87 : decode cX4_build 87 = .ok (.iaload, 1) := by decide +kernel
theorem dX4_build_88 : decode cX4_build 88 = .ok (.iconst 2, 1) := by decide +kernel
theorem dX4_build_89 : decode cX4_build 89 = .ok (.if_icmp .ne 15, 3) := by decide +kernel
theorem dX4_build_92 : decode cX4_build 92 = .ok (.bipush 24, 2) := by decide +kernel
theorem dX4_build_94 : decode cX4_build 94 = .ok (.aload_n 0, 1) := by decide +kernel
theorem dX4_build_95 : decode cX4_build 95 = .ok (.getfield 27, 3) := by decide +kernel
theorem dX4_build_98 : decode cX4_build 98 = .ok (.iload_n 2, 1) := by decide +kernel
theorem dX4_build_99 : decode cX4_build 99 = .ok (.iaload, 1) := by decide +kernel
theorem dX4_build_100 : decode cX4_build 100 = .ok (.isub, 1) := by decide +kernel
theorem dX4_build_101 : decode cX4_build 101 = .ok (.goto 4, 3) := by decide +kernel
theorem dX4_build_104 : decode cX4_build 104 = .ok (.iconst 0, 1) := by decide +kernel
theorem dX4_build_105 : decode cX4_build 105 = .ok (.ireturn, 1) := by decide +kernel
set_option maxRecDepth 20000 in
theorem ggX4_scrub_X4_in : GoodIn wsX4_scrub wsX4_in := goodIn_r _ [9] (by decide +kernel) (by decide +kernel)
set_option maxRecDepth 20000 in
theorem gX4_scrub_X4_in : GoodIn wsX4_scrub (va_wsS RX4 74 yX4_in wsX4_in) := goodIn_app (goodIn_of _ (by decide +kernel)) ggX4_scrub_X4_in
set_option maxRecDepth 20000 in
theorem ggX4_scrub_X4_notOn : GoodIn wsX4_scrub wsX4_notOn := goodIn_r _ [13, 5, 14, 63, 64, 65, 66, 67, 68, 69, 70, 71, 72, 73, 74, 75, 76, 77, 78, 79, 80, 81, 82, 83, 84, 85, 86, 87] (by decide +kernel) (by decide +kernel)
set_option maxRecDepth 20000 in
theorem gX4_scrub_X4_notOn : GoodIn wsX4_scrub (wsV RX4 186 RX4 yX4_notOn wsX4_notOn) := goodIn_app (goodIn_of _ (by decide +kernel)) ggX4_scrub_X4_notOn
set_option maxRecDepth 20000 in
theorem ggX4_scrub_X4_isThere : GoodIn wsX4_scrub wsX4_isThere := goodIn_r _ [18, 19, 20, 21, 22, 23, 8, 24, 25, 26, 27, 28, 14, 29, 30, 31, 32, 33, 34, 63, 64, 65, 66, 67, 68, 69, 70, 71, 72, 73, 74, 75, 76, 77, 78, 79, 80, 81, 82, 83, 84, 85, 86, 87] (by decide +kernel) (by decide +kernel)
set_option maxRecDepth 20000 in
theorem gX4_scrub_X4_isThere : GoodIn wsX4_scrub (wsV RX4 93 RX4 yX4_isThere wsX4_isThere) := goodIn_app (goodIn_of _ (by decide +kernel)) ggX4_scrub_X4_isThere
set_option maxRecDepth 20000 in
theorem ggX4_scrub_X4_isEven : GoodIn wsX4_scrub wsX4_isEven := goodIn_r _ [38, 39, 40, 41, 8, 42, 5, 34, 21, 22, 23, 24, 63, 64, 65, 66, 67, 68, 69, 70, 71, 72, 73, 74, 75, 76, 77, 78, 79, 80, 81, 82, 83, 84, 85, 86, 87] (by decide +kernel) (by decide +kernel)
set_option maxRecDepth 20000 in
theorem gX4_scrub_X4_isEven : GoodIn wsX4_scrub (wsV RX4 195 RX4 yX4_isEven wsX4_isEven) := goodIn_app (goodIn_of _ (by decide +kernel)) ggX4_scrub_X4_isEven
set_option maxRecDepth 20000 in
theorem ggX4_scrub_X4_parityOf : GoodIn wsX4_scrub wsX4_parityOf := goodIn_r _ [46, 5, 63, 64, 65, 66, 67, 68, 69, 70, 71, 72, 73, 74, 75, 76, 77, 78, 79, 80, 81, 82, 83, 84, 85, 86, 87] (by decide +kernel) (by decide +kernel)
set_option maxRecDepth 20000 in
theorem gX4_scrub_X4_parityOf : GoodIn wsX4_scrub (wsV RX4 78 RX4 yX4_parityOf wsX4_parityOf) := goodIn_app (goodIn_of _ (by decide +kernel)) ggX4_scrub_X4_parityOf
set_option maxRecDepth 20000 in
theorem ggX4_scrub_X4_freshIsOthers : GoodIn wsX4_scrub wsX4_freshIsOthers := goodIn_r _ [50, 51, 39, 40, 41, 8, 42, 5, 34, 21, 22, 23, 24, 63, 64, 65, 66, 67, 68, 69, 70, 71, 72, 73, 74, 75, 76, 77, 78, 79, 80, 81, 82, 83, 84, 85, 86, 87] (by decide +kernel) (by decide +kernel)
set_option maxRecDepth 20000 in
theorem gX4_scrub_X4_freshIsOthers : GoodIn wsX4_scrub (wsV RX4 189 RX4 yX4_freshIsOthers wsX4_freshIsOthers) := goodIn_app (goodIn_of _ (by decide +kernel)) ggX4_scrub_X4_freshIsOthers
set_option maxRecDepth 20000 in
theorem ggX4_scrub_X4_chunkIs : GoodIn wsX4_scrub wsX4_chunkIs := goodIn_r _ [55, 56, 57, 34, 51, 19, 20, 21, 22, 23, 8, 24, 58, 59, 60, 61, 4, 62, 1, 3, 5, 29, 30, 31, 32, 33, 63, 64, 65, 66, 67, 68, 69, 70, 71, 72, 73, 74, 75, 76, 77, 78, 79, 80, 81, 82, 83, 84, 85, 86, 87] (by decide +kernel) (by decide +kernel)
set_option maxRecDepth 20000 in
theorem gX4_scrub_X4_chunkIs : GoodIn wsX4_scrub (wsV RX4 130 RX4 yX4_chunkIs wsX4_chunkIs) := goodIn_app (goodIn_of _ (by decide +kernel)) ggX4_scrub_X4_chunkIs
theorem dX4_scrub_0 : decode cX4_scrub 0 = .ok (.aload_n 0, 1) := by decide +kernel
theorem dX4_scrub_1 : decode cX4_scrub 1 = .ok (.getfield 103, 3) := by decide +kernel
theorem dX4_scrub_4 : decode cX4_scrub 4 = .ok (.ifCond .eq 6, 3) := by decide +kernel
theorem dX4_scrub_7 : decode cX4_scrub 7 = .ok (.bipush (-100), 2) := by decide +kernel
theorem dX4_scrub_9 : decode cX4_scrub 9 = .ok (.ireturn, 1) := by decide +kernel
theorem dX4_scrub_10 : decode cX4_scrub 10 = .ok (.iload_n 1, 1) := by decide +kernel
theorem dX4_scrub_11 : decode cX4_scrub 11 = .ok (.i2l, 1) := by decide +kernel
theorem dX4_scrub_12 : decode cX4_scrub 12 = .ok (.lconst 1, 1) := by decide +kernel
theorem dX4_scrub_13 : decode cX4_scrub 13 = .ok (.ldc2_w 72, 3) := by decide +kernel
theorem dX4_scrub_16 : decode cX4_scrub 16 = .ok (.invokestatic 74, 3) := by decide +kernel
theorem dX4_scrub_19 : decode cX4_scrub 19 = .ok (.ifCond .ne 6, 3) := by decide +kernel
theorem dX4_scrub_22 : decode cX4_scrub 22 = .ok (.bipush (-102), 2) := by decide +kernel
theorem dX4_scrub_24 : decode cX4_scrub 24 = .ok (.ireturn, 1) := by decide +kernel
theorem dX4_scrub_25 : decode cX4_scrub 25 = .ok (.aload_n 0, 1) := by decide +kernel
theorem dX4_scrub_26 : decode cX4_scrub 26 = .ok (.invokevirtual 186, 3) := by decide +kernel
theorem dX4_scrub_29 : decode cX4_scrub 29 = .ok (.iconst (-1), 1) := by decide +kernel
theorem dX4_scrub_30 : decode cX4_scrub 30 = .ok (.if_icmp .eq 6, 3) := by decide +kernel
theorem dX4_scrub_33 : decode cX4_scrub 33 = .ok (.bipush (-103), 2) := by decide +kernel
theorem dX4_scrub_35 : decode cX4_scrub 35 = .ok (.ireturn, 1) := by decide +kernel
theorem dX4_scrub_36 : decode cX4_scrub 36 = .ok (.iconst 0, 1) := by decide +kernel
theorem dX4_scrub_37 : decode cX4_scrub 37 = .ok (.istore_n 2, 1) := by decide +kernel
theorem dX4_scrub_38 : decode cX4_scrub 38 = .ok (.iconst 0, 1) := by decide +kernel
theorem dX4_scrub_39 : decode cX4_scrub 39 = .ok (.istore_n 3, 1) := by decide +kernel
theorem dX4_scrub_40 : decode cX4_scrub 40 = .ok (.iload_n 3, 1) := by decide +kernel
theorem dX4_scrub_41 : decode cX4_scrub 41 = .ok (.iload_n 1, 1) := by decide +kernel
theorem dX4_scrub_42 : decode cX4_scrub 42 = .ok (.if_icmp .ge 162, 3) := by decide +kernel
theorem dX4_scrub_45 : decode cX4_scrub 45 = .ok (.aload_n 0, 1) := by decide +kernel
theorem dX4_scrub_46 : decode cX4_scrub 46 = .ok (.getfield 107, 3) := by decide +kernel
theorem dX4_scrub_49 : decode cX4_scrub 49 = .ok (.istore 4, 2) := by decide +kernel
theorem dX4_scrub_51 : decode cX4_scrub 51 = .ok (.aload_n 0, 1) := by decide +kernel
theorem dX4_scrub_52 : decode cX4_scrub 52 = .ok (.aload_n 0, 1) := by decide +kernel
theorem dX4_scrub_53 : decode cX4_scrub 53 = .ok (.getfield 107, 3) := by decide +kernel
theorem dX4_scrub_56 : decode cX4_scrub 56 = .ok (.iconst 1, 1) := by decide +kernel
theorem dX4_scrub_57 : decode cX4_scrub 57 = .ok (.iadd, 1) := by decide +kernel
theorem dX4_scrub_58 : decode cX4_scrub 58 = .ok (.bipush 24, 2) := by decide +kernel
theorem dX4_scrub_60 : decode cX4_scrub 60 = .ok (.irem, 1) := by decide +kernel
theorem dX4_scrub_61 : decode cX4_scrub 61 = .ok (.putfield 107, 3) := by decide +kernel
theorem dX4_scrub_64 : decode cX4_scrub 64 = .ok (.aload_n 0, 1) := by decide +kernel
theorem dX4_scrub_65 : decode cX4_scrub 65 = .ok (.getfield 60, 3) := by decide +kernel
theorem dX4_scrub_68 : decode cX4_scrub 68 = .ok (.iconst 3, 1) := by decide +kernel
theorem dX4_scrub_69 : decode cX4_scrub 69 = .ok (.dup2, 1) := by decide +kernel
theorem dX4_scrub_70 : decode cX4_scrub 70 = .ok (.iaload, 1) := by decide +kernel
theorem dX4_scrub_71 : decode cX4_scrub 71 = .ok (.aload_n 0, 1) := by decide +kernel
theorem dX4_scrub_72 : decode cX4_scrub 72 = .ok (.getfield 69, 3) := by decide +kernel
theorem dX4_scrub_75 : decode cX4_scrub 75 = .ok (.iadd, 1) := by decide +kernel
theorem dX4_scrub_76 : decode cX4_scrub 76 = .ok (.iastore, 1) := by decide +kernel
theorem dX4_scrub_77 : decode cX4_scrub 77 = .ok (.iconst 0, 1) := by decide +kernel
theorem dX4_scrub_78 : decode cX4_scrub 78 = .ok (.istore 5, 2) := by decide +kernel
theorem dX4_scrub_80 : decode cX4_scrub 80 = .ok (.iconst (-1), 1) := by decide +kernel
theorem dX4_scrub_81 : decode cX4_scrub 81 = .ok (.istore 6, 2) := by decide +kernel
theorem dX4_scrub_83 : decode cX4_scrub 83 = .ok (.iconst 0, 1) := by decide +kernel
theorem dX4_scrub_84 : decode cX4_scrub 84 = .ok (.istore 7, 2) := by decide +kernel
theorem dX4_scrub_86 : decode cX4_scrub 86 = .ok (.iload 7, 2) := by decide +kernel
theorem dX4_scrub_88 : decode cX4_scrub 88 = .ok (.aload_n 0, 1) := by decide +kernel
theorem dX4_scrub_89 : decode cX4_scrub 89 = .ok (.getfield 69, 3) := by decide +kernel
theorem dX4_scrub_92 : decode cX4_scrub 92 = .ok (.if_icmp .ge 27, 3) := by decide +kernel
theorem dX4_scrub_95 : decode cX4_scrub 95 = .ok (.aload_n 0, 1) := by decide +kernel
theorem dX4_scrub_96 : decode cX4_scrub 96 = .ok (.iload 7, 2) := by decide +kernel
theorem dX4_scrub_98 : decode cX4_scrub 98 = .ok (.iload 4, 2) := by decide +kernel
theorem dX4_scrub_100 : decode cX4_scrub 100 = .ok (.invokevirtual 93, 3) := by decide +kernel
theorem dX4_scrub_103 : decode cX4_scrub 103 = .ok (.ifCond .ne 10, 3) := by decide +kernel
theorem dX4_scrub_106 : decode cX4_scrub 106 = .ok (.iinc 5 1, 3) := by decide +kernel
theorem dX4_scrub_109 : decode cX4_scrub 109 = .ok (.iload 7, 2) := by decide +kernel
theorem dX4_scrub_111 : decode cX4_scrub 111 = .ok (.istore 6, 2) := by decide +kernel
theorem dX4_scrub_113 : decode cX4_scrub 113 = .ok (.iinc 7 1, 3) := by decide +kernel
theorem dX4_scrub_116 : decode cX4_scrub 116 = .ok (.goto (-30), 3) := by decide +kernel
theorem dX4_scrub_119 : decode cX4_scrub 119 = .ok (.iload 5, 2) := by decide +kernel
theorem dX4_scrub_121 : decode cX4_scrub 121 = .ok (.ifCond .ne 21, 3) := by decide +kernel
theorem dX4_scrub_124 : decode cX4_scrub 124 = .ok (.aload_n 0, 1) := by decide +kernel
theorem dX4_scrub_125 : decode cX4_scrub 125 = .ok (.iload 4, 2) := by decide +kernel
theorem dX4_scrub_127 : decode cX4_scrub 127 = .ok (.invokevirtual 195, 3) := by decide +kernel
theorem dX4_scrub_130 : decode cX4_scrub 130 = .ok (.ifCond .ne 12, 3) := by decide +kernel
theorem dX4_scrub_133 : decode cX4_scrub 133 = .ok (.aload_n 0, 1) := by decide +kernel
theorem dX4_scrub_134 : decode cX4_scrub 134 = .ok (.iload 4, 2) := by decide +kernel
theorem dX4_scrub_136 : decode cX4_scrub 136 = .ok (.invokevirtual 78, 3) := by decide +kernel
theorem dX4_scrub_139 : decode cX4_scrub 139 = .ok (.goto 15, 3) := by decide +kernel
theorem dX4_scrub_142 : decode cX4_scrub 142 = .ok (.iload 5, 2) := by decide +kernel
theorem dX4_scrub_144 : decode cX4_scrub 144 = .ok (.iconst 1, 1) := by decide +kernel
theorem dX4_scrub_145 : decode cX4_scrub 145 = .ok (.if_icmp .ne 8, 3) := by decide +kernel
theorem dX4_scrub_148 : decode cX4_scrub 148 = .ok (.iload 6, 2) := by decide +kernel
theorem dX4_scrub_150 : decode cX4_scrub 150 = .ok (.goto 4, 3) := by decide +kernel
theorem dX4_scrub_153 : decode cX4_scrub 153 = .ok (.iconst (-1), 1) := by decide +kernel
theorem dX4_scrub_154 : decode cX4_scrub 154 = .ok (.istore 6, 2) := by decide +kernel
theorem dX4_scrub_156 : decode cX4_scrub 156 = .ok (.iload 6, 2) := by decide +kernel
theorem dX4_scrub_158 : decode cX4_scrub 158 = .ok (.iconst (-1), 1) := by decide +kernel
theorem dX4_scrub_159 : decode cX4_scrub 159 = .ok (.if_icmp .eq 39, 3) := by decide +kernel
theorem dX4_scrub_162 : decode cX4_scrub 162 = .ok (.aload_n 0, 1) := by decide +kernel
theorem dX4_scrub_163 : decode cX4_scrub 163 = .ok (.iload 6, 2) := by decide +kernel
theorem dX4_scrub_165 : decode cX4_scrub 165 = .ok (.iload 4, 2) := by decide +kernel
theorem dX4_scrub_167 : decode cX4_scrub 167 = .ok (.invokevirtual 189, 3) := by decide +kernel
theorem dX4_scrub_170 : decode cX4_scrub 170 = .ok (.aload_n 0, 1) := by decide +kernel
theorem dX4_scrub_171 : decode cX4_scrub 171 = .ok (.iload 6, 2) := by decide +kernel
theorem dX4_scrub_173 : decode cX4_scrub 173 = .ok (.iload 4, 2) := by decide +kernel
theorem dX4_scrub_175 : decode cX4_scrub 175 = .ok (.invokevirtual 130, 3) := by decide +kernel
theorem dX4_scrub_178 : decode cX4_scrub 178 = .ok (.ifCond .ne 6, 3) := by decide +kernel
theorem dX4_scrub_181 : decode cX4_scrub 181 = .ok (.bipush (-106), 2) := by decide +kernel
theorem dX4_scrub_183 : decode cX4_scrub 183 = .ok (.ireturn, 1) := by decide +kernel
theorem dX4_scrub_184 : decode cX4_scrub 184 = .ok (.iinc 2 1, 3) := by decide +kernel
theorem dX4_scrub_187 : decode cX4_scrub 187 = .ok (.aload_n 0, 1) := by decide +kernel
theorem dX4_scrub_188 : decode cX4_scrub 188 = .ok (.getfield 60, 3) := by decide +kernel
theorem dX4_scrub_191 : decode cX4_scrub 191 = .ok (.bipush 7, 2) := by decide +kernel
theorem dX4_scrub_193 : decode cX4_scrub 193 = .ok (.dup2, 1) := by decide +kernel
theorem dX4_scrub_194 : decode cX4_scrub 194 = .ok (.iaload, 1) := by decide +kernel
theorem dX4_scrub_195 : decode cX4_scrub 195 = .ok (.iconst 1, 1) := by decide +kernel
theorem dX4_scrub_196 : decode cX4_scrub 196 = .ok (.iadd, 1) := by decide +kernel
theorem dX4_scrub_197 : decode cX4_scrub 197 = .ok (.iastore, 1) := by decide +kernel
theorem dX4_scrub_198 : decode cX4_scrub 198 = .ok (.iinc 3 1, 3) := by decide +kernel
theorem dX4_scrub_201 : decode cX4_scrub 201 = .ok (.goto (-161), 3) := by decide +kernel
theorem dX4_scrub_204 : decode cX4_scrub 204 = .ok (.iload_n 2, 1) := by decide +kernel
theorem dX4_scrub_205 : decode cX4_scrub 205 = .ok (.ireturn, 1) := by decide +kernel
set_option maxRecDepth 20000 in
theorem ggX4_isEven_X4_others : GoodIn wsX4_isEven wsX4_others := goodIn_r _ [5, 6, 7, 8, 9, 10, 4, 11, 12, 13, 14, 15, 16, 17, 18, 19, 20, 21, 22, 23, 24, 25, 26, 27, 28, 29, 30, 31, 32, 33, 34, 35, 36] (by decide +kernel) (by decide +kernel)
set_option maxRecDepth 20000 in
theorem gX4_isEven_X4_others : GoodIn wsX4_isEven (wsV RX4 181 RX4 yX4_others wsX4_others) := goodIn_app (goodIn_of _ (by decide +kernel)) ggX4_isEven_X4_others
theorem dX4_isEven_0 : decode cX4_isEven 0 = .ok (.iconst 1, 1) := by decide +kernel
theorem dX4_isEven_1 : decode cX4_isEven 1 = .ok (.istore_n 2, 1) := by decide +kernel
theorem dX4_isEven_2 : decode cX4_isEven 2 = .ok (.iconst 0, 1) := by decide +kernel
theorem dX4_isEven_3 : decode cX4_isEven 3 = .ok (.istore_n 3, 1) := by decide +kernel
theorem dX4_isEven_4 : decode cX4_isEven 4 = .ok (.iload_n 3, 1) := by decide +kernel
theorem dX4_isEven_5 : decode cX4_isEven 5 = .ok (.bipush 8, 2) := by decide +kernel
theorem dX4_isEven_7 : decode cX4_isEven 7 = .ok (.if_icmp .ge 29, 3) := by decide +kernel
theorem dX4_isEven_10 : decode cX4_isEven 10 = .ok (.iload_n 2, 1) := by decide +kernel
theorem dX4_isEven_11 : decode cX4_isEven 11 = .ok (.ifCond .eq 17, 3) := by decide +kernel
theorem dX4_isEven_14 : decode cX4_isEven 14 = .ok (.aload_n 0, 1) := by decide +kernel
theorem dX4_isEven_15 : decode cX4_isEven 15 = .ok (.iconst (-1), 1) := by decide +kernel
theorem dX4_isEven_16 : decode cX4_isEven 16 = .ok (.iload_n 1, 1) := by decide +kernel
theorem dX4_isEven_17 : decode cX4_isEven 17 = .ok (.iload_n 3, 1) := by decide +kernel
theorem dX4_isEven_18 : decode cX4_isEven 18 = .ok (.invokevirtual 181, 3) := by decide +kernel
theorem dX4_isEven_21 : decode cX4_isEven 21 = .ok (.ifCond .ne 7, 3) := by decide +kernel
theorem dX4_isEven_24 : decode cX4_isEven 24 = .ok (.iconst 1, 1) := by decide +kernel
theorem dX4_isEven_25 : decode cX4_isEven 25 = .ok (.goto 4, 3) := by decide +kernel
theorem dX4_isEven_28 : decode cX4_isEven 28 = .ok (.iconst 0, 1) := by decide +kernel
theorem dX4_isEven_29 : decode cX4_isEven 29 = .ok (.istore_n 2, 1) := by decide +kernel
theorem dX4_isEven_30 : decode cX4_isEven 30 = .ok (.iinc 3 1, 3) := by decide +kernel
theorem dX4_isEven_33 : decode cX4_isEven 33 = .ok (.goto (-29), 3) := by decide +kernel
theorem dX4_isEven_36 : decode cX4_isEven 36 = .ok (.iload_n 2, 1) := by decide +kernel
theorem dX4_isEven_37 : decode cX4_isEven 37 = .ok (.ireturn, 1) := by decide +kernel
set_option maxRecDepth 20000 in
theorem ggX4_rot_X4_in : GoodIn wsX4_rot wsX4_in := goodIn_r _ [8] (by decide +kernel) (by decide +kernel)
set_option maxRecDepth 20000 in
theorem gX4_rot_X4_in : GoodIn wsX4_rot (va_wsS RX4 74 yX4_in wsX4_in) := goodIn_app (goodIn_of _ (by decide +kernel)) ggX4_rot_X4_in
set_option maxRecDepth 20000 in
theorem ggX4_rot_X4_at : GoodIn wsX4_rot wsX4_at := goodIn_r _ [12] (by decide +kernel) (by decide +kernel)
set_option maxRecDepth 20000 in
theorem gX4_rot_X4_at : GoodIn wsX4_rot (wsV RX4 82 RX4 yX4_at wsX4_at) := goodIn_app (goodIn_of _ (by decide +kernel)) ggX4_rot_X4_at
theorem dX4_rot_0 : decode cX4_rot 0 = .ok (.iload_n 1, 1) := by decide +kernel
theorem dX4_rot_1 : decode cX4_rot 1 = .ok (.i2l, 1) := by decide +kernel
theorem dX4_rot_2 : decode cX4_rot 2 = .ok (.lconst 0, 1) := by decide +kernel
theorem dX4_rot_3 : decode cX4_rot 3 = .ok (.aload_n 0, 1) := by decide +kernel
theorem dX4_rot_4 : decode cX4_rot 4 = .ok (.getfield 69, 3) := by decide +kernel
theorem dX4_rot_7 : decode cX4_rot 7 = .ok (.iconst 1, 1) := by decide +kernel
theorem dX4_rot_8 : decode cX4_rot 8 = .ok (.isub, 1) := by decide +kernel
theorem dX4_rot_9 : decode cX4_rot 9 = .ok (.i2l, 1) := by decide +kernel
theorem dX4_rot_10 : decode cX4_rot 10 = .ok (.invokestatic 74, 3) := by decide +kernel
theorem dX4_rot_13 : decode cX4_rot 13 = .ok (.ifCond .eq 27, 3) := by decide +kernel
theorem dX4_rot_16 : decode cX4_rot 16 = .ok (.iload_n 2, 1) := by decide +kernel
theorem dX4_rot_17 : decode cX4_rot 17 = .ok (.i2l, 1) := by decide +kernel
theorem dX4_rot_18 : decode cX4_rot 18 = .ok (.lconst 0, 1) := by decide +kernel
theorem dX4_rot_19 : decode cX4_rot 19 = .ok (.ldc2_w 198, 3) := by decide +kernel
theorem dX4_rot_22 : decode cX4_rot 22 = .ok (.invokestatic 74, 3) := by decide +kernel
theorem dX4_rot_25 : decode cX4_rot 25 = .ok (.ifCond .eq 15, 3) := by decide +kernel
theorem dX4_rot_28 : decode cX4_rot 28 = .ok (.iload_n 3, 1) := by decide +kernel
theorem dX4_rot_29 : decode cX4_rot 29 = .ok (.i2l, 1) := by decide +kernel
theorem dX4_rot_30 : decode cX4_rot 30 = .ok (.lconst 0, 1) := by decide +kernel
theorem dX4_rot_31 : decode cX4_rot 31 = .ok (.ldc2_w 179, 3) := by decide +kernel
theorem dX4_rot_34 : decode cX4_rot 34 = .ok (.invokestatic 74, 3) := by decide +kernel
theorem dX4_rot_37 : decode cX4_rot 37 = .ok (.ifCond .ne 6, 3) := by decide +kernel
theorem dX4_rot_40 : decode cX4_rot 40 = .ok (.bipush (-101), 2) := by decide +kernel
theorem dX4_rot_42 : decode cX4_rot 42 = .ok (.ireturn, 1) := by decide +kernel
theorem dX4_rot_43 : decode cX4_rot 43 = .ok (.bipush 8, 2) := by decide +kernel
theorem dX4_rot_45 : decode cX4_rot 45 = .ok (.aload_n 0, 1) := by decide +kernel
theorem dX4_rot_46 : decode cX4_rot 46 = .ok (.iload_n 1, 1) := by decide +kernel
theorem dX4_rot_47 : decode cX4_rot 47 = .ok (.iload_n 2, 1) := by decide +kernel
theorem dX4_rot_48 : decode cX4_rot 48 = .ok (.invokevirtual 82, 3) := by decide +kernel
theorem dX4_rot_51 : decode cX4_rot 51 = .ok (.imul, 1) := by decide +kernel
theorem dX4_rot_52 : decode cX4_rot 52 = .ok (.iload_n 3, 1) := by decide +kernel
theorem dX4_rot_53 : decode cX4_rot 53 = .ok (.iadd, 1) := by decide +kernel
theorem dX4_rot_54 : decode cX4_rot 54 = .ok (.istore 5, 2) := by decide +kernel
theorem dX4_rot_56 : decode cX4_rot 56 = .ok (.aload_n 0, 1) := by decide +kernel
theorem dX4_rot_57 : decode cX4_rot 57 = .ok (.getfield 13, 3) := by decide +kernel
theorem dX4_rot_60 : decode cX4_rot 60 = .ok (.iload 5, 2) := by decide +kernel
theorem dX4_rot_62 : decode cX4_rot 62 = .ok (.dup2, 1) := by decide +kernel
theorem dX4_rot_63 : decode cX4_rot 63 = .ok (.iaload, 1) := by decide +kernel
theorem dX4_rot_64 : decode cX4_rot 64 = .ok (.iload 4, 2) := by decide +kernel
theorem dX4_rot_66 : decode cX4_rot 66 = .ok (.ixor, 1) := by decide +kernel
theorem dX4_rot_67 : decode cX4_rot 67 = .ok (.iastore, 1) := by decide +kernel
theorem dX4_rot_68 : decode cX4_rot 68 = .ok (.aload_n 0, 1) := by decide +kernel
theorem dX4_rot_69 : decode cX4_rot 69 = .ok (.getfield 13, 3) := by decide +kernel
theorem dX4_rot_72 : decode cX4_rot 72 = .ok (.iload 5, 2) := by decide +kernel
theorem dX4_rot_74 : decode cX4_rot 74 = .ok (.iaload, 1) := by decide +kernel
theorem dX4_rot_75 : decode cX4_rot 75 = .ok (.ireturn, 1) := by decide +kernel
set_option maxRecDepth 20000 in
theorem ggX4_cut_X4_in : GoodIn wsX4_cut wsX4_in := goodIn_r _ [10] (by decide +kernel) (by decide +kernel)
set_option maxRecDepth 20000 in
theorem gX4_cut_X4_in : GoodIn wsX4_cut (va_wsS RX4 74 yX4_in wsX4_in) := goodIn_app (goodIn_of _ (by decide +kernel)) ggX4_cut_X4_in
theorem dX4_cut_0 : decode cX4_cut 0 = .ok (.aload_n 0, 1) := by decide +kernel
theorem dX4_cut_1 : decode cX4_cut 1 = .ok (.getfield 103, 3) := by decide +kernel
theorem dX4_cut_4 : decode cX4_cut 4 = .ok (.ifCond .eq 6, 3) := by decide +kernel
theorem dX4_cut_7 : decode cX4_cut 7 = .ok (.bipush (-100), 2) := by decide +kernel
theorem dX4_cut_9 : decode cX4_cut 9 = .ok (.ireturn, 1) := by decide +kernel
theorem dX4_cut_10 : decode cX4_cut 10 = .ok (.iload_n 1, 1) := by decide +kernel
theorem dX4_cut_11 : decode cX4_cut 11 = .ok (.i2l, 1) := by decide +kernel
theorem dX4_cut_12 : decode cX4_cut 12 = .ok (.ldc2_w 200, 3) := by decide +kernel
theorem dX4_cut_15 : decode cX4_cut 15 = .ok (.ldc2_w 202, 3) := by decide +kernel
theorem dX4_cut_18 : decode cX4_cut 18 = .ok (.invokestatic 74, 3) := by decide +kernel
theorem dX4_cut_21 : decode cX4_cut 21 = .ok (.ifCond .eq 15, 3) := by decide +kernel
theorem dX4_cut_24 : decode cX4_cut 24 = .ok (.iload_n 2, 1) := by decide +kernel
theorem dX4_cut_25 : decode cX4_cut 25 = .ok (.i2l, 1) := by decide +kernel
theorem dX4_cut_26 : decode cX4_cut 26 = .ok (.lconst 0, 1) := by decide +kernel
theorem dX4_cut_27 : decode cX4_cut 27 = .ok (.ldc2_w 204, 3) := by decide +kernel
theorem dX4_cut_30 : decode cX4_cut 30 = .ok (.invokestatic 74, 3) := by decide +kernel
theorem dX4_cut_33 : decode cX4_cut 33 = .ok (.ifCond .ne 6, 3) := by decide +kernel
theorem dX4_cut_36 : decode cX4_cut 36 = .ok (.bipush (-102), 2) := by decide +kernel
theorem dX4_cut_38 : decode cX4_cut 38 = .ok (.ireturn, 1) := by decide +kernel
theorem dX4_cut_39 : decode cX4_cut 39 = .ok (.aload_n 0, 1) := by decide +kernel
theorem dX4_cut_40 : decode cX4_cut 40 = .ok (.iload_n 1, 1) := by decide +kernel
theorem dX4_cut_41 : decode cX4_cut 41 = .ok (.putfield 57, 3) := by decide +kernel
theorem dX4_cut_44 : decode cX4_cut 44 = .ok (.aload_n 0, 1) := by decide +kernel
theorem dX4_cut_45 : decode cX4_cut 45 = .ok (.iload_n 2, 1) := by decide +kernel
theorem dX4_cut_46 : decode cX4_cut 46 = .ok (.putfield 114, 3) := by decide +kernel
theorem dX4_cut_49 : decode cX4_cut 49 = .ok (.iconst 1, 1) := by decide +kernel
theorem dX4_cut_50 : decode cX4_cut 50 = .ok (.ireturn, 1) := by decide +kernel
set_option maxRecDepth 20000 in
theorem ggX4_start_X4_in : GoodIn wsX4_start wsX4_in := goodIn_r _ [15] (by decide +kernel) (by decide +kernel)
set_option maxRecDepth 20000 in
theorem gX4_start_X4_in : GoodIn wsX4_start (va_wsS RX4 74 yX4_in wsX4_in) := goodIn_app (goodIn_of _ (by decide +kernel)) ggX4_start_X4_in
set_option maxRecDepth 20000 in
theorem ggX4_start_X4_cellsOf : GoodIn wsX4_start wsX4_cellsOf := goodIn_r _ [19, 20, 21, 22, 73, 74, 75, 76, 77, 78, 79, 80, 81, 82, 83, 84, 85, 86, 87, 88, 89, 90, 91, 92, 93, 94, 95, 96, 97] (by decide +kernel) (by decide +kernel)
set_option maxRecDepth 20000 in
theorem gX4_start_X4_cellsOf : GoodIn wsX4_start (wsV RX4 123 RX4 yX4_cellsOf wsX4_cellsOf) := goodIn_app (goodIn_of _ (by decide +kernel)) ggX4_start_X4_cellsOf
set_option maxRecDepth 20000 in
theorem ggX4_start_X4_done : GoodIn wsX4_start wsX4_done := goodIn_r _ [26, 27, 21, 22, 20, 28, 29, 30, 14, 31, 32, 33, 34, 35, 36, 37, 38, 39, 40, 41, 42, 43, 44, 45, 46, 47, 48, 49, 50, 51, 52, 53, 54, 55, 56, 57, 58, 59, 60, 61, 62, 63, 64, 9, 4, 1, 11, 65, 66, 67, 68, 73, 74, 75, 76, 77, 78, 79, 80, 81, 82, 83, 84, 85, 86, 87, 88, 89, 90, 91, 92, 93, 94, 95, 96, 97] (by decide +kernel) (by decide +kernel)
set_option maxRecDepth 20000 in
theorem gX4_start_X4_done : GoodIn wsX4_start (wsV RX4 133 RX4 yX4_done wsX4_done) := goodIn_app (goodIn_of _ (by decide +kernel)) ggX4_start_X4_done
set_option maxRecDepth 20000 in
theorem ggX4_start_X4_markIs : GoodIn wsX4_start wsX4_markIs := goodIn_r _ [72, 9, 5, 6, 61, 62, 63, 14, 64, 4, 1, 11, 21, 41, 73, 74, 75, 76, 77, 78, 79, 80, 81, 82, 83, 84, 85, 86, 87, 88, 89, 90, 91, 92, 93, 94, 95, 96, 97] (by decide +kernel) (by decide +kernel)
set_option maxRecDepth 20000 in
theorem gX4_start_X4_markIs : GoodIn wsX4_start (wsV RX4 137 RX4 yX4_markIs wsX4_markIs) := goodIn_app (goodIn_of _ (by decide +kernel)) ggX4_start_X4_markIs
theorem dX4_start_0 : decode cX4_start 0 = .ok (.aload_n 0, 1) := by decide +kernel
theorem dX4_start_1 : decode cX4_start 1 = .ok (.getfield 103, 3) := by decide +kernel
theorem dX4_start_4 : decode cX4_start 4 = .ok (.ifCond .ne 6, 3) := by decide +kernel
theorem dX4_start_7 : decode cX4_start 7 = .ok (.bipush (-103), 2) := by decide +kernel
theorem dX4_start_9 : decode cX4_start 9 = .ok (.ireturn, 1) := by decide +kernel
theorem dX4_start_10 : decode cX4_start 10 = .ok (.iload_n 1, 1) := by decide +kernel
theorem dX4_start_11 : decode cX4_start 11 = .ok (.i2l, 1) := by decide +kernel
theorem dX4_start_12 : decode cX4_start 12 = .ok (.ldc2_w 200, 3) := by decide +kernel
theorem dX4_start_15 : decode cX4_start 15 = .ok (.ldc2_w 202, 3) := by decide +kernel
theorem dX4_start_18 : decode cX4_start 18 = .ok (.invokestatic 74, 3) := by decide +kernel
theorem dX4_start_21 : decode cX4_start 21 = .ok (.ifCond .ne 6, 3) := by decide +kernel
theorem dX4_start_24 : decode cX4_start 24 = .ok (.bipush (-102), 2) := by decide +kernel
theorem dX4_start_26 : decode cX4_start 26 = .ok (.ireturn, 1) := by decide +kernel
theorem dX4_start_27 : decode cX4_start 27 = .ok (.aload_n 0, 1) := by decide +kernel
theorem dX4_start_28 : decode cX4_start 28 = .ok (.iconst 0, 1) := by decide +kernel
theorem dX4_start_29 : decode cX4_start 29 = .ok (.putfield 103, 3) := by decide +kernel
theorem dX4_start_32 : decode cX4_start 32 = .ok (.aload_n 0, 1) := by decide +kernel
theorem dX4_start_33 : decode cX4_start 33 = .ok (.iload_n 1, 1) := by decide +kernel
theorem dX4_start_34 : decode cX4_start 34 = .ok (.putfield 57, 3) := by decide +kernel
theorem dX4_start_37 : decode cX4_start 37 = .ok (.aload_n 0, 1) := by decide +kernel
theorem dX4_start_38 : decode cX4_start 38 = .ok (.getfield 117, 3) := by decide +kernel
theorem dX4_start_41 : decode cX4_start 41 = .ok (.istore_n 2, 1) := by decide +kernel
theorem dX4_start_42 : decode cX4_start 42 = .ok (.aload_n 0, 1) := by decide +kernel
theorem dX4_start_43 : decode cX4_start 43 = .ok (.getfield 51, 3) := by decide +kernel
theorem dX4_start_46 : decode cX4_start 46 = .ok (.istore_n 3, 1) := by decide +kernel
theorem dX4_start_47 : decode cX4_start 47 = .ok (.iconst 0, 1) := by decide +kernel
theorem dX4_start_48 : decode cX4_start 48 = .ok (.istore 4, 2) := by decide +kernel
theorem dX4_start_50 : decode cX4_start 50 = .ok (.iload 4, 2) := by decide +kernel
theorem dX4_start_52 : decode cX4_start 52 = .ok (.aload_n 0, 1) := by decide +kernel
theorem dX4_start_53 : decode cX4_start 53 = .ok (.getfield 120, 3) := by decide +kernel
theorem dX4_start_56 : decode cX4_start 56 = .ok (.if_icmp .ge 54, 3) := by decide +kernel
theorem dX4_start_59 : decode cX4_start 59 = .ok (.iload_n 2, 1) := by decide +kernel
theorem dX4_start_60 : decode cX4_start 60 = .ok (.aload_n 0, 1) := by decide +kernel
theorem dX4_start_61 : decode cX4_start 61 = .ok (.iload 4, 2) := by decide +kernel
theorem dX4_start_63 : decode cX4_start 63 = .ok (.invokevirtual 123, 3) := by decide +kernel
theorem dX4_start_66 : decode cX4_start 66 = .ok (.iadd, 1) := by decide +kernel
theorem dX4_start_67 : decode cX4_start 67 = .ok (.bipush 32, 2) := by decide +kernel
theorem dX4_start_69 : decode cX4_start 69 = .ok (.irem, 1) := by decide +kernel
theorem dX4_start_70 : decode cX4_start 70 = .ok (.istore_n 2, 1) := by decide +kernel
theorem dX4_start_71 : decode cX4_start 71 = .ok (.aload_n 0, 1) := by decide +kernel
theorem dX4_start_72 : decode cX4_start 72 = .ok (.getfield 36, 3) := by decide +kernel
theorem dX4_start_75 : decode cX4_start 75 = .ok (.iload 4, 2) := by decide +kernel
theorem dX4_start_77 : decode cX4_start 77 = .ok (.iaload, 1) := by decide +kernel
theorem dX4_start_78 : decode cX4_start 78 = .ok (.iconst 1, 1) := by decide +kernel
theorem dX4_start_79 : decode cX4_start 79 = .ok (.iadd, 1) := by decide +kernel
theorem dX4_start_80 : decode cX4_start 80 = .ok (.istore_n 3, 1) := by decide +kernel
theorem dX4_start_81 : decode cX4_start 81 = .ok (.aload_n 0, 1) := by decide +kernel
theorem dX4_start_82 : decode cX4_start 82 = .ok (.iload 4, 2) := by decide +kernel
theorem dX4_start_84 : decode cX4_start 84 = .ok (.invokevirtual 133, 3) := by decide +kernel
theorem dX4_start_87 : decode cX4_start 87 = .ok (.ifCond .ne 6, 3) := by decide +kernel
theorem dX4_start_90 : decode cX4_start 90 = .ok (.bipush (-106), 2) := by decide +kernel
theorem dX4_start_92 : decode cX4_start 92 = .ok (.ireturn, 1) := by decide +kernel
theorem dX4_start_93 : decode cX4_start 93 = .ok (.aload_n 0, 1) := by decide +kernel
theorem dX4_start_94 : decode cX4_start 94 = .ok (.getfield 60, 3) := by decide +kernel
theorem dX4_start_97 : decode cX4_start 97 = .ok (.bipush 6, 2) := by decide +kernel
theorem dX4_start_99 : decode cX4_start 99 = .ok (.dup2, 1) := by decide +kernel
theorem dX4_start_100 : decode cX4_start 100 = .ok (.iaload, 1) := by decide +kernel
theorem dX4_start_101 : decode cX4_start 101 = .ok (.iconst 1, 1) := by decide +kernel
theorem dX4_start_102 : decode cX4_start 102 = .ok (.iadd, 1) := by decide +kernel
theorem dX4_start_103 : decode cX4_start 103 = .ok (.iastore, 1) := by decide +kernel
theorem dX4_start_104 : decode cX4_start 104 = .ok (.iinc 4 1, 3) := by decide +kernel
theorem dX4_start_107 : decode cX4_start 107 = .ok (.goto (-57), 3) := by decide +kernel
theorem dX4_start_110 : decode cX4_start 110 = .ok (.aload_n 0, 1) := by decide +kernel
theorem dX4_start_111 : decode cX4_start 111 = .ok (.iload_n 2, 1) := by decide +kernel
theorem dX4_start_112 : decode cX4_start 112 = .ok (.iload_n 3, 1) := by decide +kernel
theorem dX4_start_113 : decode cX4_start 113 = .ok (.invokevirtual 137, 3) := by decide +kernel
theorem dX4_start_116 : decode cX4_start 116 = .ok (.ifCond .ne 6, 3) := by decide +kernel
theorem dX4_start_119 : decode cX4_start 119 = .ok (.bipush (-106), 2) := by decide +kernel
theorem dX4_start_121 : decode cX4_start 121 = .ok (.ireturn, 1) := by decide +kernel
theorem dX4_start_122 : decode cX4_start 122 = .ok (.aload_n 0, 1) := by decide +kernel
theorem dX4_start_123 : decode cX4_start 123 = .ok (.getfield 120, 3) := by decide +kernel
theorem dX4_start_126 : decode cX4_start 126 = .ok (.istore 4, 2) := by decide +kernel
theorem dX4_start_128 : decode cX4_start 128 = .ok (.aload_n 0, 1) := by decide +kernel
theorem dX4_start_129 : decode cX4_start 129 = .ok (.iconst 0, 1) := by decide +kernel
theorem dX4_start_130 : decode cX4_start 130 = .ok (.putfield 120, 3) := by decide +kernel
theorem dX4_start_133 : decode cX4_start 133 = .ok (.aload_n 0, 1) := by decide +kernel
theorem dX4_start_134 : decode cX4_start 134 = .ok (.iload_n 3, 1) := by decide +kernel
theorem dX4_start_135 : decode cX4_start 135 = .ok (.putfield 54, 3) := by decide +kernel
theorem dX4_start_138 : decode cX4_start 138 = .ok (.aload_n 0, 1) := by decide +kernel
theorem dX4_start_139 : decode cX4_start 139 = .ok (.iconst (-1), 1) := by decide +kernel
theorem dX4_start_140 : decode cX4_start 140 = .ok (.putfield 57, 3) := by decide +kernel
theorem dX4_start_143 : decode cX4_start 143 = .ok (.aload_n 0, 1) := by decide +kernel
theorem dX4_start_144 : decode cX4_start 144 = .ok (.iconst 0, 1) := by decide +kernel
theorem dX4_start_145 : decode cX4_start 145 = .ok (.putfield 107, 3) := by decide +kernel
theorem dX4_start_148 : decode cX4_start 148 = .ok (.iload 4, 2) := by decide +kernel
theorem dX4_start_150 : decode cX4_start 150 = .ok (.ireturn, 1) := by decide +kernel
set_option maxRecDepth 20000 in
theorem ggX4_chunk_X4_in : GoodIn wsX4_chunk wsX4_in := goodIn_r _ [10] (by decide +kernel) (by decide +kernel)
set_option maxRecDepth 20000 in
theorem gX4_chunk_X4_in : GoodIn wsX4_chunk (va_wsS RX4 74 yX4_in wsX4_in) := goodIn_app (goodIn_of _ (by decide +kernel)) ggX4_chunk_X4_in
set_option maxRecDepth 20000 in
theorem ggX4_chunk_X4_at : GoodIn wsX4_chunk wsX4_at := goodIn_r _ [14] (by decide +kernel) (by decide +kernel)
set_option maxRecDepth 20000 in
theorem gX4_chunk_X4_at : GoodIn wsX4_chunk (wsV RX4 82 RX4 yX4_at wsX4_at) := goodIn_app (goodIn_of _ (by decide +kernel)) ggX4_chunk_X4_at
set_option maxRecDepth 20000 in
theorem ggX4_chunk_X4_isThere : GoodIn wsX4_chunk wsX4_isThere := goodIn_r _ [18, 6, 5, 11, 12, 13, 9, 14, 19, 20, 21, 22, 23, 24, 25, 26, 27, 28, 4, 29, 30, 31, 32, 33, 34, 35, 36, 37, 38, 39, 40, 41, 42, 43, 44, 45, 46, 47, 48, 49, 50, 51, 52, 53] (by decide +kernel) (by decide +kernel)
set_option maxRecDepth 20000 in
theorem gX4_chunk_X4_isThere : GoodIn wsX4_chunk (wsV RX4 93 RX4 yX4_isThere wsX4_isThere) := goodIn_app (goodIn_of _ (by decide +kernel)) ggX4_chunk_X4_isThere
theorem dX4_chunk_0 : decode cX4_chunk 0 = .ok (.iload_n 1, 1) := by decide +kernel
theorem dX4_chunk_1 : decode cX4_chunk 1 = .ok (.i2l, 1) := by decide +kernel
theorem dX4_chunk_2 : decode cX4_chunk 2 = .ok (.lconst 0, 1) := by decide +kernel
theorem dX4_chunk_3 : decode cX4_chunk 3 = .ok (.aload_n 0, 1) := by decide +kernel
theorem dX4_chunk_4 : decode cX4_chunk 4 = .ok (.getfield 69, 3) := by decide +kernel
theorem dX4_chunk_7 : decode cX4_chunk 7 = .ok (.iconst 1, 1) := by decide +kernel
theorem dX4_chunk_8 : decode cX4_chunk 8 = .ok (.isub, 1) := by decide +kernel
theorem dX4_chunk_9 : decode cX4_chunk 9 = .ok (.i2l, 1) := by decide +kernel
theorem dX4_chunk_10 : decode cX4_chunk 10 = .ok (.invokestatic 74, 3) := by decide +kernel
theorem dX4_chunk_13 : decode cX4_chunk 13 = .ok (.ifCond .eq 15, 3) := by decide +kernel
theorem dX4_chunk_16 : decode cX4_chunk 16 = .ok (.iload_n 2, 1) := by decide +kernel
theorem dX4_chunk_17 : decode cX4_chunk 17 = .ok (.i2l, 1) := by decide +kernel
theorem dX4_chunk_18 : decode cX4_chunk 18 = .ok (.lconst 0, 1) := by decide +kernel
theorem dX4_chunk_19 : decode cX4_chunk 19 = .ok (.ldc2_w 198, 3) := by decide +kernel
theorem dX4_chunk_22 : decode cX4_chunk 22 = .ok (.invokestatic 74, 3) := by decide +kernel
theorem dX4_chunk_25 : decode cX4_chunk 25 = .ok (.ifCond .ne 6, 3) := by decide +kernel
theorem dX4_chunk_28 : decode cX4_chunk 28 = .ok (.bipush (-101), 2) := by decide +kernel
theorem dX4_chunk_30 : decode cX4_chunk 30 = .ok (.ireturn, 1) := by decide +kernel
theorem dX4_chunk_31 : decode cX4_chunk 31 = .ok (.aload_n 0, 1) := by decide +kernel
theorem dX4_chunk_32 : decode cX4_chunk 32 = .ok (.iload_n 1, 1) := by decide +kernel
theorem dX4_chunk_33 : decode cX4_chunk 33 = .ok (.iload_n 2, 1) := by decide +kernel
theorem dX4_chunk_34 : decode cX4_chunk 34 = .ok (.invokevirtual 82, 3) := by decide +kernel
theorem dX4_chunk_37 : decode cX4_chunk 37 = .ok (.istore 4, 2) := by decide +kernel
theorem dX4_chunk_39 : decode cX4_chunk 39 = .ok (.iload_n 3, 1) := by decide +kernel
theorem dX4_chunk_40 : decode cX4_chunk 40 = .ok (.i2l, 1) := by decide +kernel
theorem dX4_chunk_41 : decode cX4_chunk 41 = .ok (.lconst 0, 1) := by decide +kernel
theorem dX4_chunk_42 : decode cX4_chunk 42 = .ok (.ldc2_w 179, 3) := by decide +kernel
theorem dX4_chunk_45 : decode cX4_chunk 45 = .ok (.invokestatic 74, 3) := by decide +kernel
theorem dX4_chunk_48 : decode cX4_chunk 48 = .ok (.ifCond .eq 16, 3) := by decide +kernel
theorem dX4_chunk_51 : decode cX4_chunk 51 = .ok (.aload_n 0, 1) := by decide +kernel
theorem dX4_chunk_52 : decode cX4_chunk 52 = .ok (.getfield 13, 3) := by decide +kernel
theorem dX4_chunk_55 : decode cX4_chunk 55 = .ok (.bipush 8, 2) := by decide +kernel
theorem dX4_chunk_57 : decode cX4_chunk 57 = .ok (.iload 4, 2) := by decide +kernel
theorem dX4_chunk_59 : decode cX4_chunk 59 = .ok (.imul, 1) := by decide +kernel
theorem dX4_chunk_60 : decode cX4_chunk 60 = .ok (.iload_n 3, 1) := by decide +kernel
theorem dX4_chunk_61 : decode cX4_chunk 61 = .ok (.iadd, 1) := by decide +kernel
theorem dX4_chunk_62 : decode cX4_chunk 62 = .ok (.iaload, 1) := by decide +kernel
theorem dX4_chunk_63 : decode cX4_chunk 63 = .ok (.ireturn, 1) := by decide +kernel
theorem dX4_chunk_64 : decode cX4_chunk 64 = .ok (.iload_n 3, 1) := by decide +kernel
theorem dX4_chunk_65 : decode cX4_chunk 65 = .ok (.bipush 8, 2) := by decide +kernel
theorem dX4_chunk_67 : decode cX4_chunk 67 = .ok (.if_icmp .ne 13, 3) := by decide +kernel
theorem dX4_chunk_70 : decode cX4_chunk 70 = .ok (.aload_n 0, 1) := by decide +kernel
theorem dX4_chunk_71 : decode cX4_chunk 71 = .ok (.getfield 17, 3) := by decide +kernel
theorem dX4_chunk_74 : decode cX4_chunk 74 = .ok (.iload 4, 2) := by decide +kernel
theorem dX4_chunk_76 : decode cX4_chunk 76 = .ok (.iaload, 1) := by decide +kernel
theorem dX4_chunk_77 : decode cX4_chunk 77 = .ok (.goto 52, 3) := by decide +kernel
theorem dX4_chunk_80 : decode cX4_chunk 80 = .ok (.iload_n 3, 1) := by decide +kernel
theorem dX4_chunk_81 : decode cX4_chunk 81 = .ok (.bipush 9, 2) := by decide +kernel
theorem dX4_chunk_83 : decode cX4_chunk 83 = .ok (.if_icmp .ne 21, 3) := by decide +kernel
theorem dX4_chunk_86 : decode cX4_chunk 86 = .ok (.aload_n 0, 1) := by decide +kernel
theorem dX4_chunk_87 : decode cX4_chunk 87 = .ok (.getfield 20, 3) := by decide +kernel
theorem dX4_chunk_90 : decode cX4_chunk 90 = .ok (.iload 4, 2) := by decide +kernel
theorem dX4_chunk_92 : decode cX4_chunk 92 = .ok (.baload, 1) := by decide +kernel
theorem dX4_chunk_93 : decode cX4_chunk 93 = .ok (.ifCond .eq 7, 3) := by decide +kernel
theorem dX4_chunk_96 : decode cX4_chunk 96 = .ok (.iconst 1, 1) := by decide +kernel
theorem dX4_chunk_97 : decode cX4_chunk 97 = .ok (.goto 32, 3) := by decide +kernel
theorem dX4_chunk_100 : decode cX4_chunk 100 = .ok (.iconst 0, 1) := by decide +kernel
theorem dX4_chunk_101 : decode cX4_chunk 101 = .ok (.goto 28, 3) := by decide +kernel
theorem dX4_chunk_104 : decode cX4_chunk 104 = .ok (.iload_n 3, 1) := by decide +kernel
theorem dX4_chunk_105 : decode cX4_chunk 105 = .ok (.bipush 10, 2) := by decide +kernel
theorem dX4_chunk_107 : decode cX4_chunk 107 = .ok (.if_icmp .ne 20, 3) := by decide +kernel
theorem dX4_chunk_110 : decode cX4_chunk 110 = .ok (.aload_n 0, 1) := by decide +kernel
theorem dX4_chunk_111 : decode cX4_chunk 111 = .ok (.iload_n 1, 1) := by decide +kernel
theorem dX4_chunk_112 : decode cX4_chunk 112 = .ok (.iload_n 2, 1) := by decide +kernel
theorem dX4_chunk_113 : decode cX4_chunk 113 = .ok (.invokevirtual 93, 3) := by decide +kernel
theorem dX4_chunk_116 : decode cX4_chunk 116 = .ok (.ifCond .eq 7, 3) := by decide +kernel
theorem dX4_chunk_119 : decode cX4_chunk 119 = .ok (.iconst 1, 1) := by decide +kernel
theorem dX4_chunk_120 : decode cX4_chunk 120 = .ok (.goto 9, 3) := by decide +kernel
theorem dX4_chunk_123 : decode cX4_chunk 123 = .ok (.iconst 0, 1) := by decide +kernel
theorem dX4_chunk_124 : decode cX4_chunk 124 = .ok (.goto 5, 3) := by decide +kernel
theorem dX4_chunk_127 : decode cX4_chunk 127 = .ok (.bipush (-102), 2) := by decide +kernel
theorem dX4_chunk_129 : decode cX4_chunk 129 = .ok (.ireturn, 1) := by decide +kernel
set_option maxRecDepth 20000 in
theorem ggX4_member_X4_in : GoodIn wsX4_member wsX4_in := goodIn_r _ [8] (by decide +kernel) (by decide +kernel)
set_option maxRecDepth 20000 in
theorem gX4_member_X4_in : GoodIn wsX4_member (va_wsS RX4 74 yX4_in wsX4_in) := goodIn_app (goodIn_of _ (by decide +kernel)) ggX4_member_X4_in
theorem dX4_member_0 : decode cX4_member 0 = .ok (.iload_n 1, 1) := by decide +kernel
theorem dX4_member_1 : decode cX4_member 1 = .ok (.i2l, 1) := by decide +kernel
theorem dX4_member_2 : decode cX4_member 2 = .ok (.lconst 0, 1) := by decide +kernel
theorem dX4_member_3 : decode cX4_member 3 = .ok (.aload_n 0, 1) := by decide +kernel
theorem dX4_member_4 : decode cX4_member 4 = .ok (.getfield 69, 3) := by decide +kernel
theorem dX4_member_7 : decode cX4_member 7 = .ok (.iconst 1, 1) := by decide +kernel
theorem dX4_member_8 : decode cX4_member 8 = .ok (.isub, 1) := by decide +kernel
theorem dX4_member_9 : decode cX4_member 9 = .ok (.i2l, 1) := by decide +kernel
theorem dX4_member_10 : decode cX4_member 10 = .ok (.invokestatic 74, 3) := by decide +kernel
theorem dX4_member_13 : decode cX4_member 13 = .ok (.ifCond .ne 6, 3) := by decide +kernel
theorem dX4_member_16 : decode cX4_member 16 = .ok (.bipush (-101), 2) := by decide +kernel
theorem dX4_member_18 : decode cX4_member 18 = .ok (.ireturn, 1) := by decide +kernel
theorem dX4_member_19 : decode cX4_member 19 = .ok (.iload_n 2, 1) := by decide +kernel
theorem dX4_member_20 : decode cX4_member 20 = .ok (.ifCond .ne 12, 3) := by decide +kernel
theorem dX4_member_23 : decode cX4_member 23 = .ok (.aload_n 0, 1) := by decide +kernel
theorem dX4_member_24 : decode cX4_member 24 = .ok (.getfield 24, 3) := by decide +kernel
theorem dX4_member_27 : decode cX4_member 27 = .ok (.iload_n 1, 1) := by decide +kernel
theorem dX4_member_28 : decode cX4_member 28 = .ok (.iaload, 1) := by decide +kernel
theorem dX4_member_29 : decode cX4_member 29 = .ok (.goto 61, 3) := by decide +kernel
theorem dX4_member_32 : decode cX4_member 32 = .ok (.iload_n 2, 1) := by decide +kernel
theorem dX4_member_33 : decode cX4_member 33 = .ok (.iconst 1, 1) := by decide +kernel
theorem dX4_member_34 : decode cX4_member 34 = .ok (.if_icmp .ne 40, 3) := by decide +kernel
theorem dX4_member_37 : decode cX4_member 37 = .ok (.aload_n 0, 1) := by decide +kernel
theorem dX4_member_38 : decode cX4_member 38 = .ok (.getfield 24, 3) := by decide +kernel
theorem dX4_member_41 : decode cX4_member 41 = .ok (.iload_n 1, 1) := by decide +kernel
theorem dX4_member_42 : decode cX4_member 42 = .ok (.iaload, 1) := by decide +kernel
theorem dX4_member_43 : decode cX4_member 43 = .ok (.ifCond .ne 8, 3) := by decide +kernel
theorem dX4_member_46 : decode cX4_member 46 = .ok (.bipush 24, 2) := by decide +kernel
theorem dX4_member_48 : decode cX4_member 48 = .ok (.goto 42, 3) := by decide +kernel
theorem dX4_member_51 : decode cX4_member 51 = .ok (.aload_n 0, 1) := by decide +kernel
theorem dX4_member_52 : decode cX4_member 52 = .ok (.getfield 24, 3) := by decide +kernel
theorem dX4_member_55 : decode cX4_member 55 = .ok (.iload_n 1, 1) := by decide +kernel
theorem dX4_member_56 : decode cX4_member 56 = .ok (.iaload, 1) := by decide +kernel
theorem dX4_member_57 : decode cX4_member 57 = .ok (.iconst 2, 1) := by decide +kernel
theorem dX4_member_58 : decode cX4_member 58 = .ok (.if_icmp .ne 12, 3) := by decide +kernel
theorem dX4_member_61 : decode cX4_member 61 = .ok (.aload_n 0, 1) := by decide +kernel
theorem dX4_member_62 : decode cX4_member 62 = .ok (.getfield 27, 3) := by decide +kernel
theorem dX4_member_65 : decode cX4_member 65 = .ok (.iload_n 1, 1) := by decide +kernel
theorem dX4_member_66 : decode cX4_member 66 = .ok (.iaload, 1) := by decide +kernel
theorem dX4_member_67 : decode cX4_member 67 = .ok (.goto 23, 3) := by decide +kernel
theorem dX4_member_70 : decode cX4_member 70 = .ok (.iconst 0, 1) := by decide +kernel
theorem dX4_member_71 : decode cX4_member 71 = .ok (.goto 19, 3) := by decide +kernel
theorem dX4_member_74 : decode cX4_member 74 = .ok (.iload_n 2, 1) := by decide +kernel
theorem dX4_member_75 : decode cX4_member 75 = .ok (.iconst 2, 1) := by decide +kernel
theorem dX4_member_76 : decode cX4_member 76 = .ok (.if_icmp .ne 12, 3) := by decide +kernel
theorem dX4_member_79 : decode cX4_member 79 = .ok (.aload_n 0, 1) := by decide +kernel
theorem dX4_member_80 : decode cX4_member 80 = .ok (.getfield 30, 3) := by decide +kernel
theorem dX4_member_83 : decode cX4_member 83 = .ok (.iload_n 1, 1) := by decide +kernel
theorem dX4_member_84 : decode cX4_member 84 = .ok (.iaload, 1) := by decide +kernel
theorem dX4_member_85 : decode cX4_member 85 = .ok (.goto 5, 3) := by decide +kernel
theorem dX4_member_88 : decode cX4_member 88 = .ok (.bipush (-102), 2) := by decide +kernel
theorem dX4_member_90 : decode cX4_member 90 = .ok (.ireturn, 1) := by decide +kernel
set_option maxRecDepth 20000 in
theorem ggX4_journal_X4_free : GoodIn wsX4_journal wsX4_free := goodIn_r _ [10, 2, 11, 12, 13, 9, 14, 15, 16, 17, 18, 19, 20, 21, 22, 23, 24, 25, 26, 27, 28, 29, 30, 31, 32, 33, 34, 35, 36, 37, 38, 39, 40, 41, 42] (by decide +kernel) (by decide +kernel)
set_option maxRecDepth 20000 in
theorem gX4_journal_X4_free : GoodIn wsX4_journal (wsV RX4 163 RX4 yX4_free wsX4_free) := goodIn_app (goodIn_of _ (by decide +kernel)) ggX4_journal_X4_free
theorem dX4_journal_0 : decode cX4_journal 0 = .ok (.iload_n 1, 1) := by decide +kernel
theorem dX4_journal_1 : decode cX4_journal 1 = .ok (.tableswitch 94 0 4 #[35, 52, 68, 84, 89], 35) := by decide +kernel
theorem dX4_journal_36 : decode cX4_journal 36 = .ok (.aload_n 0, 1) := by decide +kernel
theorem dX4_journal_37 : decode cX4_journal 37 = .ok (.getfield 103, 3) := by decide +kernel
theorem dX4_journal_40 : decode cX4_journal 40 = .ok (.ifCond .eq 8, 3) := by decide +kernel
theorem dX4_journal_43 : decode cX4_journal 43 = .ok (.bipush 32, 2) := by decide +kernel
theorem dX4_journal_45 : decode cX4_journal 45 = .ok (.goto 7, 3) := by decide +kernel
theorem dX4_journal_48 : decode cX4_journal 48 = .ok (.aload_n 0, 1) := by decide +kernel
theorem dX4_journal_49 : decode cX4_journal 49 = .ok (.invokevirtual 163, 3) := by decide +kernel
theorem dX4_journal_52 : decode cX4_journal 52 = .ok (.ireturn, 1) := by decide +kernel
theorem dX4_journal_53 : decode cX4_journal 53 = .ok (.aload_n 0, 1) := by decide +kernel
theorem dX4_journal_54 : decode cX4_journal 54 = .ok (.getfield 103, 3) := by decide +kernel
theorem dX4_journal_57 : decode cX4_journal 57 = .ok (.ifCond .eq 7, 3) := by decide +kernel
theorem dX4_journal_60 : decode cX4_journal 60 = .ok (.iconst 0, 1) := by decide +kernel
theorem dX4_journal_61 : decode cX4_journal 61 = .ok (.goto 7, 3) := by decide +kernel
theorem dX4_journal_64 : decode cX4_journal 64 = .ok (.aload_n 0, 1) := by decide +kernel
theorem dX4_journal_65 : decode cX4_journal 65 = .ok (.getfield 120, 3) := by decide +kernel
theorem dX4_journal_68 : decode cX4_journal 68 = .ok (.ireturn, 1) := by decide +kernel
theorem dX4_journal_69 : decode cX4_journal 69 = .ok (.aload_n 0, 1) := by decide +kernel
theorem dX4_journal_70 : decode cX4_journal 70 = .ok (.getfield 103, 3) := by decide +kernel
theorem dX4_journal_73 : decode cX4_journal 73 = .ok (.ifCond .eq 7, 3) := by decide +kernel
theorem dX4_journal_76 : decode cX4_journal 76 = .ok (.iconst 0, 1) := by decide +kernel
theorem dX4_journal_77 : decode cX4_journal 77 = .ok (.goto 7, 3) := by decide +kernel
theorem dX4_journal_80 : decode cX4_journal 80 = .ok (.aload_n 0, 1) := by decide +kernel
theorem dX4_journal_81 : decode cX4_journal 81 = .ok (.getfield 54, 3) := by decide +kernel
theorem dX4_journal_84 : decode cX4_journal 84 = .ok (.ireturn, 1) := by decide +kernel
theorem dX4_journal_85 : decode cX4_journal 85 = .ok (.aload_n 0, 1) := by decide +kernel
theorem dX4_journal_86 : decode cX4_journal 86 = .ok (.getfield 117, 3) := by decide +kernel
theorem dX4_journal_89 : decode cX4_journal 89 = .ok (.ireturn, 1) := by decide +kernel
theorem dX4_journal_90 : decode cX4_journal 90 = .ok (.aload_n 0, 1) := by decide +kernel
theorem dX4_journal_91 : decode cX4_journal 91 = .ok (.getfield 51, 3) := by decide +kernel
theorem dX4_journal_94 : decode cX4_journal 94 = .ok (.ireturn, 1) := by decide +kernel
theorem dX4_journal_95 : decode cX4_journal 95 = .ok (.bipush (-102), 2) := by decide +kernel
theorem dX4_journal_97 : decode cX4_journal 97 = .ok (.ireturn, 1) := by decide +kernel
set_option maxRecDepth 20000 in
theorem ggX4_record_X4_in : GoodIn wsX4_record wsX4_in := goodIn_r _ [11] (by decide +kernel) (by decide +kernel)
set_option maxRecDepth 20000 in
theorem gX4_record_X4_in : GoodIn wsX4_record (va_wsS RX4 74 yX4_in wsX4_in) := goodIn_app (goodIn_of _ (by decide +kernel)) ggX4_record_X4_in
theorem dX4_record_0 : decode cX4_record 0 = .ok (.aload_n 0, 1) := by decide +kernel
theorem dX4_record_1 : decode cX4_record 1 = .ok (.getfield 103, 3) := by decide +kernel
theorem dX4_record_4 : decode cX4_record 4 = .ok (.ifCond .ne 19, 3) := by decide +kernel
theorem dX4_record_7 : decode cX4_record 7 = .ok (.iload_n 1, 1) := by decide +kernel
theorem dX4_record_8 : decode cX4_record 8 = .ok (.i2l, 1) := by decide +kernel
theorem dX4_record_9 : decode cX4_record 9 = .ok (.lconst 0, 1) := by decide +kernel
theorem dX4_record_10 : decode cX4_record 10 = .ok (.aload_n 0, 1) := by decide +kernel
theorem dX4_record_11 : decode cX4_record 11 = .ok (.getfield 120, 3) := by decide +kernel
theorem dX4_record_14 : decode cX4_record 14 = .ok (.iconst 1, 1) := by decide +kernel
theorem dX4_record_15 : decode cX4_record 15 = .ok (.isub, 1) := by decide +kernel
theorem dX4_record_16 : decode cX4_record 16 = .ok (.i2l, 1) := by decide +kernel
theorem dX4_record_17 : decode cX4_record 17 = .ok (.invokestatic 74, 3) := by decide +kernel
theorem dX4_record_20 : decode cX4_record 20 = .ok (.ifCond .ne 6, 3) := by decide +kernel
theorem dX4_record_23 : decode cX4_record 23 = .ok (.bipush (-101), 2) := by decide +kernel
theorem dX4_record_25 : decode cX4_record 25 = .ok (.ireturn, 1) := by decide +kernel
theorem dX4_record_26 : decode cX4_record 26 = .ok (.iload_n 2, 1) := by decide +kernel
theorem dX4_record_27 : decode cX4_record 27 = .ok (.ifCond .ne 12, 3) := by decide +kernel
theorem dX4_record_30 : decode cX4_record 30 = .ok (.aload_n 0, 1) := by decide +kernel
theorem dX4_record_31 : decode cX4_record 31 = .ok (.getfield 33, 3) := by decide +kernel
theorem dX4_record_34 : decode cX4_record 34 = .ok (.iload_n 1, 1) := by decide +kernel
theorem dX4_record_35 : decode cX4_record 35 = .ok (.iaload, 1) := by decide +kernel
theorem dX4_record_36 : decode cX4_record 36 = .ok (.goto 69, 3) := by decide +kernel
theorem dX4_record_39 : decode cX4_record 39 = .ok (.iload_n 2, 1) := by decide +kernel
theorem dX4_record_40 : decode cX4_record 40 = .ok (.iconst 1, 1) := by decide +kernel
theorem dX4_record_41 : decode cX4_record 41 = .ok (.if_icmp .ne 12, 3) := by decide +kernel
theorem dX4_record_44 : decode cX4_record 44 = .ok (.aload_n 0, 1) := by decide +kernel
theorem dX4_record_45 : decode cX4_record 45 = .ok (.getfield 39, 3) := by decide +kernel
theorem dX4_record_48 : decode cX4_record 48 = .ok (.iload_n 1, 1) := by decide +kernel
theorem dX4_record_49 : decode cX4_record 49 = .ok (.iaload, 1) := by decide +kernel
theorem dX4_record_50 : decode cX4_record 50 = .ok (.goto 55, 3) := by decide +kernel
theorem dX4_record_53 : decode cX4_record 53 = .ok (.iload_n 2, 1) := by decide +kernel
theorem dX4_record_54 : decode cX4_record 54 = .ok (.iconst 2, 1) := by decide +kernel
theorem dX4_record_55 : decode cX4_record 55 = .ok (.if_icmp .ne 20, 3) := by decide +kernel
theorem dX4_record_58 : decode cX4_record 58 = .ok (.aload_n 0, 1) := by decide +kernel
theorem dX4_record_59 : decode cX4_record 59 = .ok (.getfield 42, 3) := by decide +kernel
theorem dX4_record_62 : decode cX4_record 62 = .ok (.iload_n 1, 1) := by decide +kernel
theorem dX4_record_63 : decode cX4_record 63 = .ok (.baload, 1) := by decide +kernel
theorem dX4_record_64 : decode cX4_record 64 = .ok (.ifCond .eq 7, 3) := by decide +kernel
theorem dX4_record_67 : decode cX4_record 67 = .ok (.iconst 1, 1) := by decide +kernel
theorem dX4_record_68 : decode cX4_record 68 = .ok (.goto 37, 3) := by decide +kernel
theorem dX4_record_71 : decode cX4_record 71 = .ok (.iconst 0, 1) := by decide +kernel
theorem dX4_record_72 : decode cX4_record 72 = .ok (.goto 33, 3) := by decide +kernel
theorem dX4_record_75 : decode cX4_record 75 = .ok (.iload_n 2, 1) := by decide +kernel
theorem dX4_record_76 : decode cX4_record 76 = .ok (.iconst 3, 1) := by decide +kernel
theorem dX4_record_77 : decode cX4_record 77 = .ok (.if_icmp .ne 12, 3) := by decide +kernel
theorem dX4_record_80 : decode cX4_record 80 = .ok (.aload_n 0, 1) := by decide +kernel
theorem dX4_record_81 : decode cX4_record 81 = .ok (.getfield 36, 3) := by decide +kernel
theorem dX4_record_84 : decode cX4_record 84 = .ok (.iload_n 1, 1) := by decide +kernel
theorem dX4_record_85 : decode cX4_record 85 = .ok (.iaload, 1) := by decide +kernel
theorem dX4_record_86 : decode cX4_record 86 = .ok (.goto 19, 3) := by decide +kernel
theorem dX4_record_89 : decode cX4_record 89 = .ok (.iload_n 2, 1) := by decide +kernel
theorem dX4_record_90 : decode cX4_record 90 = .ok (.iconst 4, 1) := by decide +kernel
theorem dX4_record_91 : decode cX4_record 91 = .ok (.if_icmp .ne 12, 3) := by decide +kernel
theorem dX4_record_94 : decode cX4_record 94 = .ok (.aload_n 0, 1) := by decide +kernel
theorem dX4_record_95 : decode cX4_record 95 = .ok (.getfield 45, 3) := by decide +kernel
theorem dX4_record_98 : decode cX4_record 98 = .ok (.iload_n 1, 1) := by decide +kernel
theorem dX4_record_99 : decode cX4_record 99 = .ok (.iaload, 1) := by decide +kernel
theorem dX4_record_100 : decode cX4_record 100 = .ok (.goto 5, 3) := by decide +kernel
theorem dX4_record_103 : decode cX4_record 103 = .ok (.bipush (-102), 2) := by decide +kernel
theorem dX4_record_105 : decode cX4_record 105 = .ok (.ireturn, 1) := by decide +kernel
set_option maxRecDepth 20000 in
theorem ggX4_count_X4_in : GoodIn wsX4_count wsX4_in := goodIn_r _ [6] (by decide +kernel) (by decide +kernel)
set_option maxRecDepth 20000 in
theorem gX4_count_X4_in : GoodIn wsX4_count (va_wsS RX4 74 yX4_in wsX4_in) := goodIn_app (goodIn_of _ (by decide +kernel)) ggX4_count_X4_in
theorem dX4_count_0 : decode cX4_count 0 = .ok (.iload_n 1, 1) := by decide +kernel
theorem dX4_count_1 : decode cX4_count 1 = .ok (.i2l, 1) := by decide +kernel
theorem dX4_count_2 : decode cX4_count 2 = .ok (.lconst 0, 1) := by decide +kernel
theorem dX4_count_3 : decode cX4_count 3 = .ok (.ldc2_w 206, 3) := by decide +kernel
theorem dX4_count_6 : decode cX4_count 6 = .ok (.invokestatic 74, 3) := by decide +kernel
theorem dX4_count_9 : decode cX4_count 9 = .ok (.ifCond .eq 12, 3) := by decide +kernel
theorem dX4_count_12 : decode cX4_count 12 = .ok (.aload_n 0, 1) := by decide +kernel
theorem dX4_count_13 : decode cX4_count 13 = .ok (.getfield 60, 3) := by decide +kernel
theorem dX4_count_16 : decode cX4_count 16 = .ok (.iload_n 1, 1) := by decide +kernel
theorem dX4_count_17 : decode cX4_count 17 = .ok (.iaload, 1) := by decide +kernel
theorem dX4_count_18 : decode cX4_count 18 = .ok (.goto 5, 3) := by decide +kernel
theorem dX4_count_21 : decode cX4_count 21 = .ok (.bipush (-102), 2) := by decide +kernel
theorem dX4_count_23 : decode cX4_count 23 = .ok (.ireturn, 1) := by decide +kernel
set_option maxRecDepth 20000 in
theorem ggX4_audit_X4_othersThere : GoodIn wsX4_audit wsX4_othersThere := goodIn_r _ [5, 6, 7, 8, 9, 4, 10, 11, 12, 13, 14, 15, 16, 17, 18, 19, 20, 21, 22, 23, 24, 25, 26, 27, 36, 37, 38, 39, 40, 41, 42, 43, 44, 45, 46, 47, 48, 49, 50, 51, 52, 53, 54, 55, 56, 57, 58, 59, 60] (by decide +kernel) (by decide +kernel)
set_option maxRecDepth 20000 in
theorem gX4_audit_X4_othersThere : GoodIn wsX4_audit (wsV RX4 173 RX4 yX4_othersThere wsX4_othersThere) := goodIn_app (goodIn_of _ (by decide +kernel)) ggX4_audit_X4_othersThere
set_option maxRecDepth 20000 in
theorem ggX4_audit_X4_isEven : GoodIn wsX4_audit wsX4_isEven := goodIn_r _ [31, 32, 33, 34, 4, 35, 6, 27, 13, 14, 15, 16, 36, 37, 38, 39, 40, 41, 42, 43, 44, 45, 46, 47, 48, 49, 50, 51, 52, 53, 54, 55, 56, 57, 58, 59, 60] (by decide +kernel) (by decide +kernel)
set_option maxRecDepth 20000 in
theorem gX4_audit_X4_isEven : GoodIn wsX4_audit (wsV RX4 195 RX4 yX4_isEven wsX4_isEven) := goodIn_app (goodIn_of _ (by decide +kernel)) ggX4_audit_X4_isEven
theorem dX4_audit_0 : decode cX4_audit 0 = .ok (.iconst 0, 1) := by decide +kernel
theorem dX4_audit_1 : decode cX4_audit 1 = .ok (.istore_n 1, 1) := by decide +kernel
theorem dX4_audit_2 : decode cX4_audit 2 = .ok (.iconst 0, 1) := by decide +kernel
theorem dX4_audit_3 : decode cX4_audit 3 = .ok (.istore_n 2, 1) := by decide +kernel
theorem dX4_audit_4 : decode cX4_audit 4 = .ok (.iload_n 2, 1) := by decide +kernel
theorem dX4_audit_5 : decode cX4_audit 5 = .ok (.bipush 24, 2) := by decide +kernel
theorem dX4_audit_7 : decode cX4_audit 7 = .ok (.if_icmp .ge 34, 3) := by decide +kernel
theorem dX4_audit_10 : decode cX4_audit 10 = .ok (.iload_n 1, 1) := by decide +kernel
theorem dX4_audit_11 : decode cX4_audit 11 = .ok (.aload_n 0, 1) := by decide +kernel
theorem dX4_audit_12 : decode cX4_audit 12 = .ok (.iconst (-1), 1) := by decide +kernel
theorem dX4_audit_13 : decode cX4_audit 13 = .ok (.iload_n 2, 1) := by decide +kernel
theorem dX4_audit_14 : decode cX4_audit 14 = .ok (.invokevirtual 173, 3) := by decide +kernel
theorem dX4_audit_17 : decode cX4_audit 17 = .ok (.ifCond .eq 15, 3) := by decide +kernel
theorem dX4_audit_20 : decode cX4_audit 20 = .ok (.aload_n 0, 1) := by decide +kernel
theorem dX4_audit_21 : decode cX4_audit 21 = .ok (.iload_n 2, 1) := by decide +kernel
theorem dX4_audit_22 : decode cX4_audit 22 = .ok (.invokevirtual 195, 3) := by decide +kernel
theorem dX4_audit_25 : decode cX4_audit 25 = .ok (.ifCond .ne 7, 3) := by decide +kernel
theorem dX4_audit_28 : decode cX4_audit 28 = .ok (.iconst 1, 1) := by decide +kernel
theorem dX4_audit_29 : decode cX4_audit 29 = .ok (.goto 4, 3) := by decide +kernel
theorem dX4_audit_32 : decode cX4_audit 32 = .ok (.iconst 0, 1) := by decide +kernel
theorem dX4_audit_33 : decode cX4_audit 33 = .ok (.iadd, 1) := by decide +kernel
theorem dX4_audit_34 : decode cX4_audit 34 = .ok (.istore_n 1, 1) := by decide +kernel
theorem dX4_audit_35 : decode cX4_audit 35 = .ok (.iinc 2 1, 3) := by decide +kernel
theorem dX4_audit_38 : decode cX4_audit 38 = .ok (.goto (-34), 3) := by decide +kernel
theorem dX4_audit_41 : decode cX4_audit 41 = .ok (.iload_n 1, 1) := by decide +kernel
theorem dX4_audit_42 : decode cX4_audit 42 = .ok (.ireturn, 1) := by decide +kernel
