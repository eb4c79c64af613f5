theorem dX4_thrown_0 : decode cX4_thrown 0 = .ok (.aload_n 0, 1) := by decide +kernel
theorem dX4_thrown_1 : decode cX4_thrown 1 = .ok (.getfield 1, 3) := by decide +kernel
theorem dX4_thrown_4 : decode cX4_thrown 4 = .ok (.ireturn, 1) := by decide +kernel
theorem dX4_init_0 : decode cX4_init 0 = .ok (.aload_n 0, 1) := by decide +kernel
theorem dX4_init_1 : decode cX4_init 1 = .ok (.invokespecial 7, 3) := by decide +kernel
theorem dX4_init_4 : decode cX4_init 4 = .ok (.aload_n 0, 1) := by decide +kernel
theorem dX4_init_5 : decode cX4_init 5 = .ok (.sipush 1152, 3) := by decide +kernel
theorem dX4_init_8 : decode cX4_init 8 = .ok (.newarray .int, 2) := by decide +kernel
theorem dX4_init_10 : decode cX4_init 10 = .ok (.putfield 13, 3) := by decide +kernel
theorem dX4_init_13 : decode cX4_init 13 = .ok (.aload_n 0, 1) := by decide +kernel
theorem dX4_init_14 : decode cX4_init 14 = .ok (.sipush 144, 3) := by decide +kernel
theorem dX4_init_17 : decode cX4_init 17 = .ok (.newarray .int, 2) := by decide +kernel
theorem dX4_init_19 : decode cX4_init 19 = .ok (.putfield 17, 3) := by decide +kernel
theorem dX4_init_22 : decode cX4_init 22 = .ok (.aload_n 0, 1) := by decide +kernel
theorem dX4_init_23 : decode cX4_init 23 = .ok (.sipush 144, 3) := by decide +kernel
theorem dX4_init_26 : decode cX4_init 26 = .ok (.newarray .boolean, 2) := by decide +kernel
theorem dX4_init_28 : decode cX4_init 28 = .ok (.putfield 20, 3) := by decide +kernel
theorem dX4_init_31 : decode cX4_init 31 = .ok (.aload_n 0, 1) := by decide +kernel
theorem dX4_init_32 : decode cX4_init 32 = .ok (.bipush 6, 2) := by decide +kernel
theorem dX4_init_34 : decode cX4_init 34 = .ok (.newarray .int, 2) := by decide +kernel
theorem dX4_init_36 : decode cX4_init 36 = .ok (.putfield 24, 3) := by decide +kernel
theorem dX4_init_39 : decode cX4_init 39 = .ok (.aload_n 0, 1) := by decide +kernel
theorem dX4_init_40 : decode cX4_init 40 = .ok (.bipush 6, 2) := by decide +kernel
theorem dX4_init_42 : decode cX4_init 42 = .ok (.newarray .int, 2) := by decide +kernel
theorem dX4_init_44 : decode cX4_init 44 = .ok (.putfield 27, 3) := by decide +kernel
theorem dX4_init_47 : decode cX4_init 47 = .ok (.aload_n 0, 1) := by decide +kernel
theorem dX4_init_48 : decode cX4_init 48 = .ok (.bipush 6, 2) := by decide +kernel
theorem dX4_init_50 : decode cX4_init 50 = .ok (.newarray .int, 2) := by decide +kernel
theorem dX4_init_52 : decode cX4_init 52 = .ok (.putfield 30, 3) := by decide +kernel
theorem dX4_init_55 : decode cX4_init 55 = .ok (.aload_n 0, 1) := by decide +kernel
theorem dX4_init_56 : decode cX4_init 56 = .ok (.bipush 16, 2) := by decide +kernel
theorem dX4_init_58 : decode cX4_init 58 = .ok (.newarray .int, 2) := by decide +kernel
theorem dX4_init_60 : decode cX4_init 60 = .ok (.putfield 33, 3) := by decide +kernel
theorem dX4_init_63 : decode cX4_init 63 = .ok (.aload_n 0, 1) := by decide +kernel
theorem dX4_init_64 : decode cX4_init 64 = .ok (.bipush 16, 2) := by decide +kernel
theorem dX4_init_66 : decode cX4_init 66 = .ok (.newarray .int, 2) := by decide +kernel
theorem dX4_init_68 : decode cX4_init 68 = .ok (.putfield 36, 3) := by decide +kernel
theorem dX4_init_71 : decode cX4_init 71 = .ok (.aload_n 0, 1) := by decide +kernel
theorem dX4_init_72 : decode cX4_init 72 = .ok (.bipush 16, 2) := by decide +kernel
theorem dX4_init_74 : decode cX4_init 74 = .ok (.newarray .int, 2) := by decide +kernel
theorem dX4_init_76 : decode cX4_init 76 = .ok (.putfield 39, 3) := by decide +kernel
theorem dX4_init_79 : decode cX4_init 79 = .ok (.aload_n 0, 1) := by decide +kernel
theorem dX4_init_80 : decode cX4_init 80 = .ok (.bipush 16, 2) := by decide +kernel
theorem dX4_init_82 : decode cX4_init 82 = .ok (.newarray .boolean, 2) := by decide +kernel
theorem dX4_init_84 : decode cX4_init 84 = .ok (.putfield 42, 3) := by decide +kernel
theorem dX4_init_87 : decode cX4_init 87 = .ok (.aload_n 0, 1) := by decide +kernel
theorem dX4_init_88 : decode cX4_init 88 = .ok (.bipush 16, 2) := by decide +kernel
theorem dX4_init_90 : decode cX4_init 90 = .ok (.newarray .int, 2) := by decide +kernel
theorem dX4_init_92 : decode cX4_init 92 = .ok (.putfield 45, 3) := by decide +kernel
theorem dX4_init_95 : decode cX4_init 95 = .ok (.aload_n 0, 1) := by decide +kernel
theorem dX4_init_96 : decode cX4_init 96 = .ok (.sipush 768, 3) := by decide +kernel
theorem dX4_init_99 : decode cX4_init 99 = .ok (.newarray .int, 2) := by decide +kernel
theorem dX4_init_101 : decode cX4_init 101 = .ok (.putfield 48, 3) := by decide +kernel
theorem dX4_init_104 : decode cX4_init 104 = .ok (.aload_n 0, 1) := by decide +kernel
theorem dX4_init_105 : decode cX4_init 105 = .ok (.iconst 1, 1) := by decide +kernel
theorem dX4_init_106 : decode cX4_init 106 = .ok (.putfield 51, 3) := by decide +kernel
theorem dX4_init_109 : decode cX4_init 109 = .ok (.aload_n 0, 1) := by decide +kernel
theorem dX4_init_110 : decode cX4_init 110 = .ok (.iconst 1, 1) := by decide +kernel
theorem dX4_init_111 : decode cX4_init 111 = .ok (.putfield 54, 3) := by decide +kernel
theorem dX4_init_114 : decode cX4_init 114 = .ok (.aload_n 0, 1) := by decide +kernel
theorem dX4_init_115 : decode cX4_init 115 = .ok (.iconst (-1), 1) := by decide +kernel
theorem dX4_init_116 : decode cX4_init 116 = .ok (.putfield 57, 3) := by decide +kernel
theorem dX4_init_119 : decode cX4_init 119 = .ok (.aload_n 0, 1) := by decide +kernel
theorem dX4_init_120 : decode cX4_init 120 = .ok (.bipush 13, 2) := by decide +kernel
theorem dX4_init_122 : decode cX4_init 122 = .ok (.newarray .int, 2) := by decide +kernel
theorem dX4_init_124 : decode cX4_init 124 = .ok (.putfield 60, 3) := by decide +kernel
theorem dX4_init_127 : decode cX4_init 127 = .ok (.aload_n 0, 1) := by decide +kernel
theorem dX4_init_128 : decode cX4_init 128 = .ok (.bipush 8, 2) := by decide +kernel
theorem dX4_init_130 : decode cX4_init 130 = .ok (.newarray .int, 2) := by decide +kernel
theorem dX4_init_132 : decode cX4_init 132 = .ok (.putfield 63, 3) := by decide +kernel
theorem dX4_init_135 : decode cX4_init 135 = .ok (.aload_n 0, 1) := by decide +kernel
theorem dX4_init_136 : decode cX4_init 136 = .ok (.bipush 48, 2) := by decide +kernel
theorem dX4_init_138 : decode cX4_init 138 = .ok (.newarray .int, 2) := by decide +kernel
theorem dX4_init_140 : decode cX4_init 140 = .ok (.putfield 66, 3) := by decide +kernel
theorem dX4_init_143 : decode cX4_init 143 = .ok (.aload_n 0, 1) := by decide +kernel
theorem dX4_init_144 : decode cX4_init 144 = .ok (.iconst 3, 1) := by decide +kernel
theorem dX4_init_145 : decode cX4_init 145 = .ok (.iload_n 1, 1) := by decide +kernel
theorem dX4_init_146 : decode cX4_init 146 = .ok (.iconst 4, 1) := by decide +kernel
theorem dX4_init_147 : decode cX4_init 147 = .ok (.irem, 1) := by decide +kernel
theorem dX4_init_148 : decode cX4_init 148 = .ok (.iconst 4, 1) := by decide +kernel
theorem dX4_init_149 : decode cX4_init 149 = .ok (.iadd, 1) := by decide +kernel
theorem dX4_init_150 : decode cX4_init 150 = .ok (.iconst 4, 1) := by decide +kernel
theorem dX4_init_151 : decode cX4_init 151 = .ok (.irem, 1) := by decide +kernel
theorem dX4_init_152 : decode cX4_init 152 = .ok (.iadd, 1) := by decide +kernel
theorem dX4_init_153 : decode cX4_init 153 = .ok (.putfield 69, 3) := by decide +kernel
theorem dX4_init_156 : decode cX4_init 156 = .ok (.return_, 1) := by decide +kernel
theorem dX4_in_0 : decode cX4_in 0 = .ok (.lload_n 2, 1) := by decide +kernel
theorem dX4_in_1 : decode cX4_in 1 = .ok (.lload_n 0, 1) := by decide +kernel
theorem dX4_in_2 : decode cX4_in 2 = .ok (.lcmp, 1) := by decide +kernel
theorem dX4_in_3 : decode cX4_in 3 = .ok (.ifCond .gt 14, 3) := by decide +kernel
theorem dX4_in_6 : decode cX4_in 6 = .ok (.lload_n 0, 1) := by decide +kernel
theorem dX4_in_7 : decode cX4_in 7 = .ok (.lload 4, 2) := by decide +kernel
theorem dX4_in_9 : decode cX4_in 9 = .ok (.lcmp, 1) := by decide +kernel
theorem dX4_in_10 : decode cX4_in 10 = .ok (.ifCond .gt 7, 3) := by decide +kernel
theorem dX4_in_13 : decode cX4_in 13 = .ok (.iconst 1, 1) := by decide +kernel
theorem dX4_in_14 : decode cX4_in 14 = .ok (.goto 4, 3) := by decide +kernel
theorem dX4_in_17 : decode cX4_in 17 = .ok (.iconst 0, 1) := by decide +kernel
theorem dX4_in_18 : decode cX4_in 18 = .ok (.ireturn, 1) := by decide +kernel
theorem dX4_members_0 : decode cX4_members 0 = .ok (.aload_n 0, 1) := by decide +kernel
theorem dX4_members_1 : decode cX4_members 1 = .ok (.getfield 69, 3) := by decide +kernel
theorem dX4_members_4 : decode cX4_members 4 = .ok (.ireturn, 1) := by decide +kernel
set_option maxRecDepth 20000 in
theorem ggX4_isBlock_X4_in : GoodIn wsX4_isBlock wsX4_in := goodIn_r _ [6] (by decide +kernel) (by decide +kernel)
set_option maxRecDepth 20000 in
theorem gX4_isBlock_X4_in : GoodIn wsX4_isBlock (va_wsS RX4 74 yX4_in wsX4_in) := goodIn_app (goodIn_of _ (by decide +kernel)) ggX4_isBlock_X4_in
theorem dX4_isBlock_0 : decode cX4_isBlock 0 = .ok (.lload_n 1, 1) := by decide +kernel
theorem dX4_isBlock_1 : decode cX4_isBlock 1 = .ok (.lconst 0, 1) := by decide +kernel
theorem dX4_isBlock_2 : decode cX4_isBlock 2 = .ok (.ldc2_w 72, 3) := by decide +kernel
theorem dX4_isBlock_5 : decode cX4_isBlock 5 = .ok (.aload_n 0, 1) := by decide +kernel
theorem dX4_isBlock_6 : decode cX4_isBlock 6 = .ok (.getfield 69, 3) := by decide +kernel
theorem dX4_isBlock_9 : decode cX4_isBlock 9 = .ok (.i2l, 1) := by decide +kernel
theorem dX4_isBlock_10 : decode cX4_isBlock 10 = .ok (.lconst 1, 1) := by decide +kernel
theorem dX4_isBlock_11 : decode cX4_isBlock 11 = .ok (.lsub, 1) := by decide +kernel
theorem dX4_isBlock_12 : decode cX4_isBlock 12 = .ok (.lmul, 1) := by decide +kernel
theorem dX4_isBlock_13 : decode cX4_isBlock 13 = .ok (.lconst 1, 1) := by decide +kernel
theorem dX4_isBlock_14 : decode cX4_isBlock 14 = .ok (.lsub, 1) := by decide +kernel
theorem dX4_isBlock_15 : decode cX4_isBlock 15 = .ok (.invokestatic 74, 3) := by decide +kernel
theorem dX4_isBlock_18 : decode cX4_isBlock 18 = .ok (.ireturn, 1) := by decide +kernel
theorem dX4_parityOf_0 : decode cX4_parityOf 0 = .ok (.aload_n 0, 1) := by decide +kernel
theorem dX4_parityOf_1 : decode cX4_parityOf 1 = .ok (.getfield 69, 3) := by decide +kernel
theorem dX4_parityOf_4 : decode cX4_parityOf 4 = .ok (.iconst 1, 1) := by decide +kernel
theorem dX4_parityOf_5 : decode cX4_parityOf 5 = .ok (.isub, 1) := by decide +kernel
theorem dX4_parityOf_6 : decode cX4_parityOf 6 = .ok (.iload_n 1, 1) := by decide +kernel
theorem dX4_parityOf_7 : decode cX4_parityOf 7 = .ok (.aload_n 0, 1) := by decide +kernel
theorem dX4_parityOf_8 : decode cX4_parityOf 8 = .ok (.getfield 69, 3) := by decide +kernel
theorem dX4_parityOf_11 : decode cX4_parityOf 11 = .ok (.irem, 1) := by decide +kernel
theorem dX4_parityOf_12 : decode cX4_parityOf 12 = .ok (.isub, 1) := by decide +kernel
theorem dX4_parityOf_13 : decode cX4_parityOf 13 = .ok (.ireturn, 1) := by decide +kernel
set_option maxRecDepth 20000 in
theorem ggX4_memberOf_X4_parityOf : GoodIn wsX4_memberOf wsX4_parityOf := goodIn_r _ [6, 1, 7, 8, 9, 10, 11, 12, 13, 14, 15, 16, 17, 18, 19, 20, 21, 22, 23, 24, 25, 26, 27, 28, 29, 30, 31] (by decide +kernel) (by decide +kernel)
set_option maxRecDepth 20000 in
theorem gX4_memberOf_X4_parityOf : GoodIn wsX4_memberOf (wsV RX4 78 RX4 yX4_parityOf wsX4_parityOf) := goodIn_app (goodIn_of _ (by decide +kernel)) ggX4_memberOf_X4_parityOf
theorem dX4_memberOf_0 : decode cX4_memberOf 0 = .ok (.aload_n 0, 1) := by decide +kernel
theorem dX4_memberOf_1 : decode cX4_memberOf 1 = .ok (.iload_n 1, 1) := by decide +kernel
theorem dX4_memberOf_2 : decode cX4_memberOf 2 = .ok (.invokevirtual 78, 3) := by decide +kernel
theorem dX4_memberOf_5 : decode cX4_memberOf 5 = .ok (.iconst 1, 1) := by decide +kernel
theorem dX4_memberOf_6 : decode cX4_memberOf 6 = .ok (.iadd, 1) := by decide +kernel
theorem dX4_memberOf_7 : decode cX4_memberOf 7 = .ok (.iload_n 2, 1) := by decide +kernel
theorem dX4_memberOf_8 : decode cX4_memberOf 8 = .ok (.iadd, 1) := by decide +kernel
theorem dX4_memberOf_9 : decode cX4_memberOf 9 = .ok (.aload_n 0, 1) := by decide +kernel
theorem dX4_memberOf_10 : decode cX4_memberOf 10 = .ok (.getfield 69, 3) := by decide +kernel
theorem dX4_memberOf_13 : decode cX4_memberOf 13 = .ok (.irem, 1) := by decide +kernel
theorem dX4_memberOf_14 : decode cX4_memberOf 14 = .ok (.ireturn, 1) := by decide +kernel
theorem dX4_at_0 : decode cX4_at 0 = .ok (.bipush 24, 2) := by decide +kernel
theorem dX4_at_2 : decode cX4_at 2 = .ok (.iload_n 1, 1) := by decide +kernel
theorem dX4_at_3 : decode cX4_at 3 = .ok (.imul, 1) := by decide +kernel
theorem dX4_at_4 : decode cX4_at 4 = .ok (.iload_n 2, 1) := by decide +kernel
theorem dX4_at_5 : decode cX4_at 5 = .ok (.iadd, 1) := by decide +kernel
theorem dX4_at_6 : decode cX4_at 6 = .ok (.ireturn, 1) := by decide +kernel
theorem dX4_isOn_0 : decode cX4_isOn 0 = .ok (.aload_n 0, 1) := by decide +kernel
theorem dX4_isOn_1 : decode cX4_isOn 1 = .ok (.getfield 24, 3) := by decide +kernel
theorem dX4_isOn_4 : decode cX4_isOn 4 = .ok (.iload_n 1, 1) := by decide +kernel
theorem dX4_isOn_5 : decode cX4_isOn 5 = .ok (.iaload, 1) := by decide +kernel
theorem dX4_isOn_6 : decode cX4_isOn 6 = .ok (.ifCond .eq 23, 3) := by decide +kernel
theorem dX4_isOn_9 : decode cX4_isOn 9 = .ok (.aload_n 0, 1) := by decide +kernel
theorem dX4_isOn_10 : decode cX4_isOn 10 = .ok (.getfield 24, 3) := by decide +kernel
theorem dX4_isOn_13 : decode cX4_isOn 13 = .ok (.iload_n 1, 1) := by decide +kernel
theorem dX4_isOn_14 : decode cX4_isOn 14 = .ok (.iaload, 1) := by decide +kernel
theorem dX4_isOn_15 : decode cX4_isOn 15 = .ok (.iconst 2, 1) := by decide +kernel
theorem dX4_isOn_16 : decode cX4_isOn 16 = .ok (.if_icmp .ne 17, 3) := by decide +kernel
theorem dX4_isOn_19 : decode cX4_isOn 19 = .ok (.iload_n 2, 1) := by decide +kernel
theorem dX4_isOn_20 : decode cX4_isOn 20 = .ok (.aload_n 0, 1) := by decide +kernel
theorem dX4_isOn_21 : decode cX4_isOn 21 = .ok (.getfield 27, 3) := by decide +kernel
theorem dX4_isOn_24 : decode cX4_isOn 24 = .ok (.iload_n 1, 1) := by decide +kernel
theorem dX4_isOn_25 : decode cX4_isOn 25 = .ok (.iaload, 1) := by decide +kernel
theorem dX4_isOn_26 : decode cX4_isOn 26 = .ok (.if_icmp .ge 7, 3) := by decide +kernel
theorem dX4_isOn_29 : decode cX4_isOn 29 = .ok (.iconst 1, 1) := by decide +kernel
theorem dX4_isOn_30 : decode cX4_isOn 30 = .ok (.goto 4, 3) := by decide +kernel
theorem dX4_isOn_33 : decode cX4_isOn 33 = .ok (.iconst 0, 1) := by decide +kernel
theorem dX4_isOn_34 : decode cX4_isOn 34 = .ok (.ireturn, 1) := by decide +kernel
theorem dX4_sumOf_0 : decode cX4_sumOf 0 = .ok (.iconst 0, 1) := by decide +kernel
theorem dX4_sumOf_1 : decode cX4_sumOf 1 = .ok (.istore_n 2, 1) := by decide +kernel
theorem dX4_sumOf_2 : decode cX4_sumOf 2 = .ok (.iconst 0, 1) := by decide +kernel
theorem dX4_sumOf_3 : decode cX4_sumOf 3 = .ok (.istore_n 3, 1) := by decide +kernel
theorem dX4_sumOf_4 : decode cX4_sumOf 4 = .ok (.iload_n 3, 1) := by decide +kernel
theorem dX4_sumOf_5 : decode cX4_sumOf 5 = .ok (.bipush 8, 2) := by decide +kernel
theorem dX4_sumOf_7 : decode cX4_sumOf 7 = .ok (.if_icmp .ge 29, 3) := by decide +kernel
theorem dX4_sumOf_10 : decode cX4_sumOf 10 = .ok (.iload_n 2, 1) := by decide +kernel
theorem dX4_sumOf_11 : decode cX4_sumOf 11 = .ok (.aload_n 0, 1) := by decide +kernel
theorem dX4_sumOf_12 : decode cX4_sumOf 12 = .ok (.getfield 13, 3) := by decide +kernel
theorem dX4_sumOf_15 : decode cX4_sumOf 15 = .ok (.bipush 8, 2) := by decide +kernel
theorem dX4_sumOf_17 : decode cX4_sumOf 17 = .ok (.iload_n 1, 1) := by decide +kernel
theorem dX4_sumOf_18 : decode cX4_sumOf 18 = .ok (.imul, 1) := by decide +kernel
theorem dX4_sumOf_19 : decode cX4_sumOf 19 = .ok (.iload_n 3, 1) := by decide +kernel
theorem dX4_sumOf_20 : decode cX4_sumOf 20 = .ok (.iadd, 1) := by decide +kernel
theorem dX4_sumOf_21 : decode cX4_sumOf 21 = .ok (.iaload, 1) := by decide +kernel
theorem dX4_sumOf_22 : decode cX4_sumOf 22 = .ok (.iconst 2, 1) := by decide +kernel
theorem dX4_sumOf_23 : decode cX4_sumOf 23 = .ok (.iload_n 3, 1) := by decide +kernel
theorem dX4_sumOf_24 : decode cX4_sumOf 24 = .ok (.imul, 1) := by decide +kernel
theorem dX4_sumOf_25 : decode cX4_sumOf 25 = .ok (.iconst 1, 1) := by decide +kernel
theorem dX4_sumOf_26 : decode cX4_sumOf 26 = .ok (.iadd, 1) := by decide +kernel
theorem dX4_sumOf_27 : decode cX4_sumOf 27 = .ok (.imul, 1) := by decide +kernel
theorem dX4_sumOf_28 : decode cX4_sumOf 28 = .ok (.iadd, 1) := by decide +kernel
theorem dX4_sumOf_29 : decode cX4_sumOf 29 = .ok (.istore_n 2, 1) := by decide +kernel
theorem dX4_sumOf_30 : decode cX4_sumOf 30 = .ok (.iinc 3 1, 3) := by decide +kernel
theorem dX4_sumOf_33 : decode cX4_sumOf 33 = .ok (.goto (-29), 3) := by decide +kernel
theorem dX4_sumOf_36 : decode cX4_sumOf 36 = .ok (.iload_n 2, 1) := by decide +kernel
theorem dX4_sumOf_37 : decode cX4_sumOf 37 = .ok (.ireturn, 1) := by decide +kernel
set_option maxRecDepth 20000 in
theorem ggX4_isThere_X4_at : GoodIn wsX4_isThere wsX4_at := goodIn_r _ [7] (by decide +kernel) (by decide +kernel)
set_option maxRecDepth 20000 in
theorem gX4_isThere_X4_at : GoodIn wsX4_isThere (wsV RX4 82 RX4 yX4_at wsX4_at) := goodIn_app (goodIn_of _ (by decide +kernel)) ggX4_isThere_X4_at
set_option maxRecDepth 20000 in
theorem ggX4_isThere_X4_isOn : GoodIn wsX4_isThere wsX4_isOn := goodIn_r _ [11, 12, 13, 19, 20, 21, 22, 23, 24, 25, 26, 27, 28, 29, 30, 31, 32, 33, 34, 35, 36, 37, 38, 39, 40, 41, 42, 43] (by decide +kernel) (by decide +kernel)
set_option maxRecDepth 20000 in
theorem gX4_isThere_X4_isOn : GoodIn wsX4_isThere (wsV RX4 86 RX4 yX4_isOn wsX4_isOn) := goodIn_app (goodIn_of _ (by decide +kernel)) ggX4_isThere_X4_isOn
set_option maxRecDepth 20000 in
theorem ggX4_isThere_X4_sumOf : GoodIn wsX4_isThere wsX4_sumOf := goodIn_r _ [17, 18, 19, 20, 21, 22, 23, 24, 25, 26, 27, 28, 29, 30, 31, 32, 33, 34, 35, 36, 37, 38, 39, 40, 41, 42, 43] (by decide +kernel) (by decide +kernel)
set_option maxRecDepth 20000 in
theorem gX4_isThere_X4_sumOf : GoodIn wsX4_isThere (wsV RX4 90 RX4 yX4_sumOf wsX4_sumOf) := goodIn_app (goodIn_of _ (by decide +kernel)) ggX4_isThere_X4_sumOf
theorem dX4_isThere_0 : decode cX4_isThere 0 = .ok (.aload_n 0, 1) := by decide +kernel
theorem dX4_isThere_1 : decode cX4_isThere 1 = .ok (.iload_n 1, 1) := by decide +kernel
theorem dX4_isThere_2 : decode cX4_isThere 2 = .ok (.iload_n 2, 1) := by decide +kernel
theorem dX4_isThere_3 : decode cX4_isThere 3 = .ok (.invokevirtual 82, 3) := by decide +kernel
theorem dX4_isThere_6 : decode cX4_isThere 6 = .ok (.istore_n 3, 1) := by decide +kernel
theorem dX4_isThere_7 : decode cX4_isThere 7 = .ok (.aload_n 0, 1) := by decide +kernel
theorem dX4_isThere_8 : decode cX4_isThere 8 = .ok (.iload_n 1, 1) := by decide +kernel
theorem dX4_isThere_9 : decode cX4_isThere 9 = .ok (.iload_n 2, 1) := by decide +kernel
theorem dX4_isThere_10 : decode cX4_isThere 10 = .ok (.invokevirtual 86, 3) := by decide +kernel
theorem dX4_isThere_13 : decode cX4_isThere 13 = .ok (.ifCond .eq 30, 3) := by decide +kernel
theorem dX4_isThere_16 : decode cX4_isThere 16 = .ok (.aload_n 0, 1) := by decide +kernel
theorem dX4_isThere_17 : decode cX4_isThere 17 = .ok (.getfield 20, 3) := by decide +kernel
theorem dX4_isThere_20 : decode cX4_isThere 20 = .ok (.iload_n 3, 1) := by decide +kernel
theorem dX4_isThere_21 : decode cX4_isThere 21 = .ok (.baload, 1) := by decide +kernel
theorem dX4_isThere_22 : decode cX4_isThere 22 = .ok (.ifCond .ne 21, 3) := by decide +kernel
theorem dX4_isThere_25 : decode cX4_isThere 25 = .ok (.aload_n 0, 1) := by decide +kernel
theorem dX4_isThere_26 : decode cX4_isThere 26 = .ok (.getfield 17, 3) := by decide +kernel
theorem dX4_isThere_29 : decode cX4_isThere 29 = .ok (.iload_n 3, 1) := by decide +kernel
theorem dX4_isThere_30 : decode cX4_isThere 30 = .ok (.iaload, 1) := by decide +kernel
theorem dX4_isThere_31 : decode cX4_isThere 31 = .ok (.aload_n 0, 1) := by decide +kernel
theorem dX4_isThere_32 : decode cX4_isThere 32 = .ok (.iload_n 3, 1) := by decide +kernel
theorem dX4_isThere_33 : decode cX4_isThere 33 = .ok (.invokevirtual 90, 3) := by decide +kernel
theorem dX4_isThere_36 : decode cX4_isThere 36 = .ok (.if_icmp .ne 7, 3) := by decide +kernel
theorem dX4_isThere_39 : decode cX4_isThere 39 = .ok (.iconst 1, 1) := by decide +kernel
theorem dX4_isThere_40 : decode cX4_isThere 40 = .ok (.goto 4, 3) := by decide +kernel
theorem dX4_isThere_43 : decode cX4_isThere 43 = .ok (.iconst 0, 1) := by decide +kernel
theorem dX4_isThere_44 : decode cX4_isThere 44 = .ok (.ireturn, 1) := by decide +kernel
set_option maxRecDepth 20000 in
theorem ggX4_othersThere_X4_isThere : GoodIn wsX4_othersThere wsX4_isThere := goodIn_r _ [6, 7, 8, 9, 10, 11, 5, 12, 13, 14, 15, 16, 17, 18, 19, 20, 21, 22, 23, 24, 25, 26, 27, 28, 29, 30, 31, 32, 33, 34, 35, 36, 37, 38, 39, 40, 41, 42, 43, 44, 45, 46, 47, 48] (by decide +kernel) (by decide +kernel)
set_option maxRecDepth 20000 in
theorem gX4_othersThere_X4_isThere : GoodIn wsX4_othersThere (wsV RX4 93 RX4 yX4_isThere wsX4_isThere) := goodIn_app (goodIn_of _ (by decide +kernel)) ggX4_othersThere_X4_isThere
theorem dX4_othersThere_0 : decode cX4_othersThere 0 = .ok (.iconst 1, 1) := by decide +kernel
theorem dX4_othersThere_1 : decode cX4_othersThere 1 = .ok (.istore_n 3, 1) := by decide +kernel
theorem dX4_othersThere_2 : decode cX4_othersThere 2 = .ok (.iconst 0, 1) := by decide +kernel
theorem dX4_othersThere_3 : decode cX4_othersThere 3 = .ok (.istore 4, 2) := by decide +kernel
theorem dX4_othersThere_5 : decode cX4_othersThere 5 = .ok (.iload 4, 2) := by decide +kernel
theorem dX4_othersThere_7 : decode cX4_othersThere 7 = .ok (.aload_n 0, 1) := by decide +kernel
theorem dX4_othersThere_8 : decode cX4_othersThere 8 = .ok (.getfield 69, 3) := by decide +kernel
theorem dX4_othersThere_11 : decode cX4_othersThere 11 = .ok (.if_icmp .ge 35, 3) := by decide +kernel
theorem dX4_othersThere_14 : decode cX4_othersThere 14 = .ok (.iload_n 3, 1) := by decide +kernel
theorem dX4_othersThere_15 : decode cX4_othersThere 15 = .ok (.ifCond .eq 23, 3) := by decide +kernel
theorem dX4_othersThere_18 : decode cX4_othersThere 18 = .ok (.iload 4, 2) := by decide +kernel
theorem dX4_othersThere_20 : decode cX4_othersThere 20 = .ok (.iload_n 1, 1) := by decide +kernel
theorem dX4_othersThere_21 : decode cX4_othersThere 21 = .ok (.if_icmp .eq 13, 3) := by decide +kernel
theorem dX4_othersThere_24 : decode cX4_othersThere 24 = .ok (.aload_n 0, 1) := by decide +kernel
theorem dX4_othersThere_25 : decode cX4_othersThere 25 = .ok (.iload 4, 2) := by decide +kernel
theorem dX4_othersThere_27 : decode cX4_othersThere 27 = .ok (.iload_n 2, 1) := by decide +kernel
theorem dX4_othersThere_28 : decode cX4_othersThere 28 = .ok (.invokevirtual 93, 3) := by decide +kernel
theorem dX4_othersThere_31 : decode cX4_othersThere 31 = .ok (.ifCond .eq 7, 3) := by decide +kernel
theorem dX4_othersThere_34 : decode cX4_othersThere 34 = .ok (.iconst 1, 1) := by decide +kernel
theorem dX4_othersThere_35 : decode cX4_othersThere 35 = .ok (.goto 4, 3) := by decide +kernel
theorem dX4_othersThere_38 : decode cX4_othersThere 38 = .ok (.iconst 0, 1) := by decide +kernel
theorem dX4_othersThere_39 : decode cX4_othersThere 39 = .ok (.istore_n 3, 1) := by decide +kernel
theorem dX4_othersThere_40 : decode cX4_othersThere 40 = .ok (.iinc 4 1, 3) := by decide +kernel
theorem dX4_othersThere_43 : decode cX4_othersThere 43 = .ok (.goto (-38), 3) := by decide +kernel
theorem dX4_othersThere_46 : decode cX4_othersThere 46 = .ok (.iload_n 3, 1) := by decide +kernel
theorem dX4_othersThere_47 : decode cX4_othersThere 47 = .ok (.ireturn, 1) := by decide +kernel
set_option maxRecDepth 20000 in
theorem ggX4_place_X4_isBlock : GoodIn wsX4_place wsX4_isBlock := goodIn_r _ [6, 7, 1, 8, 9, 5, 10, 19, 20, 21, 22, 23, 24, 25, 26, 27, 28, 29, 30, 31, 32, 33, 34, 35, 36, 37, 38, 39, 40, 41, 42, 43] (by decide +kernel) (by decide +kernel)
set_option maxRecDepth 20000 in
theorem gX4_place_X4_isBlock : GoodIn wsX4_place (wsV RX4 96 RX4 yX4_isBlock wsX4_isBlock) := goodIn_app (goodIn_of _ (by decide +kernel)) ggX4_place_X4_isBlock
set_option maxRecDepth 20000 in
theorem ggX4_place_X4_memberOf : GoodIn wsX4_place wsX4_memberOf := goodIn_r _ [14, 1, 15, 16, 17, 5, 18, 19, 20, 21, 22, 23, 24, 25, 26, 27, 28, 29, 30, 31, 32, 33, 34, 35, 36, 37, 38, 39, 40, 41, 42, 43] (by decide +kernel) (by decide +kernel)
set_option maxRecDepth 20000 in
theorem gX4_place_X4_memberOf : GoodIn wsX4_place (wsV RX4 100 RX4 yX4_memberOf wsX4_memberOf) := goodIn_app (goodIn_of _ (by decide +kernel)) ggX4_place_X4_memberOf
set_option maxRecDepth 20000 in
theorem ggX4_place_X4_parityOf : GoodIn wsX4_place wsX4_parityOf := goodIn_r _ [18, 1, 19, 20, 21, 22, 23, 24, 25, 26, 27, 28, 29, 30, 31, 32, 33, 34, 35, 36, 37, 38, 39, 40, 41, 42, 43] (by decide +kernel) (by decide +kernel)
set_option maxRecDepth 20000 in
theorem gX4_place_X4_parityOf : GoodIn wsX4_place (wsV RX4 78 RX4 yX4_parityOf wsX4_parityOf) := goodIn_app (goodIn_of _ (by decide +kernel)) ggX4_place_X4_parityOf
theorem dX4_place_0 : decode cX4_place 0 = .ok (.aload_n 0, 1) := by decide +kernel
theorem dX4_place_1 : decode cX4_place 1 = .ok (.iload_n 1, 1) := by decide +kernel
theorem dX4_place_2 : decode cX4_place 2 = .ok (.i2l, 1) := by decide +kernel
theorem dX4_place_3 : decode cX4_place 3 = .ok (.invokevirtual 96, 3) := by decide +kernel
theorem dX4_place_6 : decode cX4_place 6 = .ok (.ifCond .ne 6, 3) := by decide +kernel
theorem dX4_place_9 : decode cX4_place 9 = .ok (.bipush (-101), 2) := by decide +kernel
theorem dX4_place_11 : decode cX4_place 11 = .ok (.ireturn, 1) := by decide +kernel
theorem dX4_place_12 : decode cX4_place 12 = .ok (.iload_n 1, 1) := by decide +kernel
theorem dX4_place_13 : decode cX4_place 13 = .ok (.aload_n 0, 1) := by decide +kernel
theorem dX4_place_14 : decode cX4_place 14 = .ok (.getfield 69, 3) := by decide +kernel
theorem dX4_place_17 : decode cX4_place 17 = .ok (.iconst 1, 1) := by decide +kernel
theorem dX4_place_18 : decode cX4_place 18 = .ok (.isub, 1) := by decide +kernel
theorem dX4_place_19 : decode cX4_place 19 = .ok (.idiv, 1) := by decide +kernel
theorem dX4_place_20 : decode cX4_place 20 = .ok (.istore_n 3, 1) := by decide +kernel
theorem dX4_place_21 : decode cX4_place 21 = .ok (.iload_n 2, 1) := by decide +kernel
theorem dX4_place_22 : decode cX4_place 22 = .ok (.ifCond .ne 7, 3) := by decide +kernel
theorem dX4_place_25 : decode cX4_place 25 = .ok (.iload_n 3, 1) := by decide +kernel
theorem dX4_place_26 : decode cX4_place 26 = .ok (.goto 39, 3) := by decide +kernel
theorem dX4_place_29 : decode cX4_place 29 = .ok (.iload_n 2, 1) := by decide +kernel
theorem dX4_place_30 : decode cX4_place 30 = .ok (.iconst 1, 1) := by decide +kernel
theorem dX4_place_31 : decode cX4_place 31 = .ok (.if_icmp .ne 19, 3) := by decide +kernel
theorem dX4_place_34 : decode cX4_place 34 = .ok (.aload_n 0, 1) := by decide +kernel
theorem dX4_place_35 : decode cX4_place 35 = .ok (.iload_n 3, 1) := by decide +kernel
theorem dX4_place_36 : decode cX4_place 36 = .ok (.iload_n 1, 1) := by decide +kernel
theorem dX4_place_37 : decode cX4_place 37 = .ok (.aload_n 0, 1) := by decide +kernel
theorem dX4_place_38 : decode cX4_place 38 = .ok (.getfield 69, 3) := by decide +kernel
theorem dX4_place_41 : decode cX4_place 41 = .ok (.iconst 1, 1) := by decide +kernel
theorem dX4_place_42 : decode cX4_place 42 = .ok (.isub, 1) := by decide +kernel
theorem dX4_place_43 : decode cX4_place 43 = .ok (.irem, 1) := by decide +kernel
theorem dX4_place_44 : decode cX4_place 44 = .ok (.invokevirtual 100, 3) := by decide +kernel
theorem dX4_place_47 : decode cX4_place 47 = .ok (.goto 18, 3) := by decide +kernel
theorem dX4_place_50 : decode cX4_place 50 = .ok (.iload_n 2, 1) := by decide +kernel
theorem dX4_place_51 : decode cX4_place 51 = .ok (.iconst 2, 1) := by decide +kernel
theorem dX4_place_52 : decode cX4_place 52 = .ok (.if_icmp .ne 11, 3) := by decide +kernel
theorem dX4_place_55 : decode cX4_place 55 = .ok (.aload_n 0, 1) := by decide +kernel
theorem dX4_place_56 : decode cX4_place 56 = .ok (.iload_n 3, 1) := by decide +kernel
theorem dX4_place_57 : decode cX4_place 57 = .ok (.invokevirtual 78, 3) := by decide +kernel
theorem dX4_place_60 : decode cX4_place 60 = .ok (.goto 5, 3) := by decide +kernel
theorem dX4_place_63 : decode cX4_place 63 = .ok (.bipush (-102), 2) := by decide +kernel
theorem dX4_place_65 : decode cX4_place 65 = .ok (.ireturn, 1) := by decide +kernel
theorem dX4_goes_0 : decode cX4_goes 0 = .ok (.aload_n 0, 1) := by decide +kernel
theorem dX4_goes_1 : decode cX4_goes 1 = .ok (.getfield 60, 3) := by decide +kernel
theorem dX4_goes_4 : decode cX4_goes 4 = .ok (.iconst 0, 1) := by decide +kernel
theorem dX4_goes_5 : decode cX4_goes 5 = .ok (.dup2, 1) := by decide +kernel
theorem dX4_goes_6 : decode cX4_goes 6 = .ok (.iaload, 1) := by decide +kernel
theorem dX4_goes_7 : decode cX4_goes 7 = .ok (.iconst 1, 1) := by decide +kernel
theorem dX4_goes_8 : decode cX4_goes 8 = .ok (.iadd, 1) := by decide +kernel
theorem dX4_goes_9 : decode cX4_goes 9 = .ok (.iastore, 1) := by decide +kernel
theorem dX4_goes_10 : decode cX4_goes 10 = .ok (.aload_n 0, 1) := by decide +kernel
theorem dX4_goes_11 : decode cX4_goes 11 = .ok (.getfield 57, 3) := by decide +kernel
theorem dX4_goes_14 : decode cX4_goes 14 = .ok (.ifCond .ne 7, 3) := by decide +kernel
theorem dX4_goes_17 : decode cX4_goes 17 = .ok (.iconst 1, 1) := by decide +kernel
theorem dX4_goes_18 : decode cX4_goes 18 = .ok (.goto 4, 3) := by decide +kernel
theorem dX4_goes_21 : decode cX4_goes 21 = .ok (.iconst 0, 1) := by decide +kernel
theorem dX4_goes_22 : decode cX4_goes 22 = .ok (.istore_n 1, 1) := by decide +kernel
theorem dX4_goes_23 : decode cX4_goes 23 = .ok (.aload_n 0, 1) := by decide +kernel
theorem dX4_goes_24 : decode cX4_goes 24 = .ok (.aload_n 0, 1) := by decide +kernel
theorem dX4_goes_25 : decode cX4_goes 25 = .ok (.getfield 57, 3) := by decide +kernel
theorem dX4_goes_28 : decode cX4_goes 28 = .ok (.iconst (-1), 1) := by decide +kernel
theorem dX4_goes_29 : decode cX4_goes 29 = .ok (.if_icmp .le 12, 3) := by decide +kernel
theorem dX4_goes_32 : decode cX4_goes 32 = .ok (.aload_n 0, 1) := by decide +kernel
theorem dX4_goes_33 : decode cX4_goes 33 = .ok (.getfield 57, 3) := by decide +kernel
theorem dX4_goes_36 : decode cX4_goes 36 = .ok (.iconst 1, 1) := by decide +kernel
theorem dX4_goes_37 : decode cX4_goes 37 = .ok (.isub, 1) := by decide +kernel
theorem dX4_goes_38 : decode cX4_goes 38 = .ok (.goto 4, 3) := by decide +kernel
theorem dX4_goes_41 : decode cX4_goes 41 = .ok (.iconst (-1), 1) := by decide +kernel
theorem dX4_goes_42 : decode cX4_goes 42 = .ok (.putfield 57, 3) := by decide +kernel
theorem dX4_goes_45 : decode cX4_goes 45 = .ok (.iload_n 1, 1) := by decide +kernel
theorem dX4_goes_46 : decode cX4_goes 46 = .ok (.ifCond .eq 41, 3) := by decide +kernel
theorem dX4_goes_49 : decode cX4_goes 49 = .ok (.aload_n 0, 1) := by decide +kernel
theorem dX4_goes_50 : decode cX4_goes 50 = .ok (.iconst 1, 1) := by decide +kernel
theorem dX4_goes_51 : decode cX4_goes 51 = .ok (.putfield 103, 3) := by decide +kernel
theorem dX4_goes_54 : decode cX4_goes 54 = .ok (.aload_n 0, 1) := by decide +kernel
theorem dX4_goes_55 : decode cX4_goes 55 = .ok (.iconst (-1), 1) := by decide +kernel
theorem dX4_goes_56 : decode cX4_goes 56 = .ok (.putfield 57, 3) := by decide +kernel
theorem dX4_goes_59 : decode cX4_goes 59 = .ok (.aload_n 0, 1) := by decide +kernel
theorem dX4_goes_60 : decode cX4_goes 60 = .ok (.iconst 0, 1) := by decide +kernel
theorem dX4_goes_61 : decode cX4_goes 61 = .ok (.putfield 107, 3) := by decide +kernel
theorem dX4_goes_64 : decode cX4_goes 64 = .ok (.iconst 0, 1) := by decide +kernel
theorem dX4_goes_65 : decode cX4_goes 65 = .ok (.istore_n 2, 1) := by decide +kernel
theorem dX4_goes_66 : decode cX4_goes 66 = .ok (.iload_n 2, 1) := by decide +kernel
theorem dX4_goes_67 : decode cX4_goes 67 = .ok (.aload_n 0, 1) := by decide +kernel
theorem dX4_goes_68 : decode cX4_goes 68 = .ok (.getfield 69, 3) := by decide +kernel
theorem dX4_goes_71 : decode cX4_goes 71 = .ok (.if_icmp .ge 16, 3) := by decide +kernel
theorem dX4_goes_74 : decode cX4_goes 74 = .ok (.aload_n 0, 1) := by decide +kernel
theorem dX4_goes_75 : decode cX4_goes 75 = .ok (.getfield 27, 3) := by decide +kernel
theorem dX4_goes_78 : decode cX4_goes 78 = .ok (.iload_n 2, 1) := by decide +kernel
theorem dX4_goes_79 : decode cX4_goes 79 = .ok (.iconst 0, 1) := by decide +kernel
theorem dX4_goes_80 : decode cX4_goes 80 = .ok (.iastore, 1) := by decide +kernel
theorem dX4_goes_81 : decode cX4_goes 81 = .ok (.iinc 2 1, 3) := by decide +kernel
theorem dX4_goes_84 : decode cX4_goes 84 = .ok (.goto (-18), 3) := by decide +kernel
theorem dX4_goes_87 : decode cX4_goes 87 = .ok (.iload_n 1, 1) := by decide +kernel
theorem dX4_goes_88 : decode cX4_goes 88 = .ok (.ireturn, 1) := by decide +kernel
set_option maxRecDepth 20000 in
theorem ggX4_chunkIs_X4_at : GoodIn wsX4_chunkIs wsX4_at := goodIn_r _ [11] (by decide +kernel) (by decide +kernel)
set_option maxRecDepth 20000 in
theorem gX4_chunkIs_X4_at : GoodIn wsX4_chunkIs (wsV RX4 82 RX4 yX4_at wsX4_at) := goodIn_app (goodIn_of _ (by decide +kernel)) ggX4_chunkIs_X4_at
set_option maxRecDepth 20000 in
theorem ggX4_chunkIs_X4_goes : GoodIn wsX4_chunkIs wsX4_goes := goodIn_r _ [15, 16, 17, 18, 19, 20, 21, 26, 27, 28, 29, 30, 31, 32, 33, 34, 35, 36, 37, 38, 39, 40, 41, 42, 43, 44, 45, 46, 47, 48, 49, 50] (by decide +kernel) (by decide +kernel)
set_option maxRecDepth 20000 in
theorem gX4_chunkIs_X4_goes : GoodIn wsX4_chunkIs (wsV RX4 110 RX4 yX4_goes wsX4_goes) := goodIn_app (goodIn_of _ (by decide +kernel)) ggX4_chunkIs_X4_goes
set_option maxRecDepth 20000 in
theorem ggX4_chunkIs_X4_sumOf : GoodIn wsX4_chunkIs wsX4_sumOf := goodIn_r _ [25, 3, 26, 27, 28, 29, 30, 31, 32, 33, 34, 35, 36, 37, 38, 39, 40, 41, 42, 43, 44, 45, 46, 47, 48, 49, 50] (by decide +kernel) (by decide +kernel)
set_option maxRecDepth 20000 in
theorem gX4_chunkIs_X4_sumOf : GoodIn wsX4_chunkIs (wsV RX4 90 RX4 yX4_sumOf wsX4_sumOf) := goodIn_app (goodIn_of _ (by decide +kernel)) ggX4_chunkIs_X4_sumOf
theorem dX4_chunkIs_0 : decode cX4_chunkIs 0 = .ok (.aload_n 0, 1) := by decide +kernel
theorem dX4_chunkIs_1 : decode cX4_chunkIs 1 = .ok (.iload_n 1, 1) := by decide +kernel
theorem dX4_chunkIs_2 : decode cX4_chunkIs 2 = .ok (.iload_n 2, 1) := by decide +kernel
theorem dX4_chunkIs_3 : decode cX4_chunkIs 3 = .ok (.invokevirtual 82, 3) := by decide +kernel
theorem dX4_chunkIs_6 : decode cX4_chunkIs 6 = .ok (.istore_n 3, 1) := by decide +kernel
theorem dX4_chunkIs_7 : decode cX4_chunkIs 7 = .ok (.aload_n 0, 1) := by decide +kernel
theorem dX4_chunkIs_8 : decode cX4_chunkIs 8 = .ok (.getfield 30, 3) := by decide +kernel
theorem dX4_chunkIs_11 : decode cX4_chunkIs 11 = .ok (.iload_n 1, 1) := by decide +kernel
theorem dX4_chunkIs_12 : decode cX4_chunkIs 12 = .ok (.dup2, 1) := by decide +kernel
theorem dX4_chunkIs_13 : decode cX4_chunkIs 13 = .ok (.iaload, 1) := by decide +kernel
theorem dX4_chunkIs_14 : decode cX4_chunkIs 14 = .ok (.iconst 1, 1) := by decide +kernel
theorem dX4_chunkIs_15 : decode cX4_chunkIs 15 = .ok (.iadd, 1) := by decide +kernel
theorem dX4_chunkIs_16 : decode cX4_chunkIs 16 = .ok (.iastore, 1) := by decide +kernel
theorem dX4_chunkIs_17 : decode cX4_chunkIs 17 = .ok (.aload_n 0, 1) := by decide +kernel
theorem dX4_chunkIs_18 : decode cX4_chunkIs 18 = .ok (.invokevirtual 110, 3) := by decide +kernel
theorem dX4_chunkIs_21 : decode cX4_chunkIs 21 = .ok (.istore 4, 2) := by decide +kernel
theorem dX4_chunkIs_23 : decode cX4_chunkIs 23 = .ok (.iload 4, 2) := by decide +kernel
theorem dX4_chunkIs_25 : decode cX4_chunkIs 25 = .ok (.ifCond .eq 10, 3) := by decide +kernel
theorem dX4_chunkIs_28 : decode cX4_chunkIs 28 = .ok (.aload_n 0, 1) := by decide +kernel
theorem dX4_chunkIs_29 : decode cX4_chunkIs 29 = .ok (.getfield 114, 3) := by decide +kernel
theorem dX4_chunkIs_32 : decode cX4_chunkIs 32 = .ok (.goto 5, 3) := by decide +kernel
theorem dX4_chunkIs_35 : decode cX4_chunkIs 35 = .ok (.bipush 8, 2) := by decide +kernel
theorem dX4_chunkIs_37 : decode cX4_chunkIs 37 = .ok (.istore 5, 2) := by decide +kernel
theorem dX4_chunkIs_39 : decode cX4_chunkIs 39 = .ok (.iconst 0, 1) := by decide +kernel
theorem dX4_chunkIs_40 : decode cX4_chunkIs 40 = .ok (.istore 6, 2) := by decide +kernel
theorem dX4_chunkIs_42 : decode cX4_chunkIs 42 = .ok (.iload 6, 2) := by decide +kernel
theorem dX4_chunkIs_44 : decode cX4_chunkIs 44 = .ok (.iload 5, 2) := by decide +kernel
theorem dX4_chunkIs_46 : decode cX4_chunkIs 46 = .ok (.if_icmp .ge 28, 3) := by decide +kernel
theorem dX4_chunkIs_49 : decode cX4_chunkIs 49 = .ok (.aload_n 0, 1) := by decide +kernel
theorem dX4_chunkIs_50 : decode cX4_chunkIs 50 = .ok (.getfield 13, 3) := by decide +kernel
theorem dX4_chunkIs_53 : decode cX4_chunkIs 53 = .ok (.bipush 8, 2) := by decide +kernel
theorem dX4_chunkIs_55 : decode cX4_chunkIs 55 = .ok (.iload_n 3, 1) := by decide +kernel
theorem dX4_chunkIs_56 : decode cX4_chunkIs 56 = .ok (.imul, 1) := by decide +kernel
theorem dX4_chunkIs_57 : decode cX4_chunkIs 57 = .ok (.iload 6, 2) := by decide +kernel
theorem dX4_chunkIs_59 : decode cX4_chunkIs 59 = .ok (.iadd, 1) := by decide +kernel
theorem dX4_chunkIs_60 : decode cX4_chunkIs 60 = .ok (.aload_n 0, 1) := by decide +kernel
theorem dX4_chunkIs_61 : decode cX4_chunkIs 61 = .ok (.getfield 63, 3) := by decide +kernel
theorem dX4_chunkIs_64 : decode cX4_chunkIs 64 = .ok (.iload 6, 2) := by decide +kernel
theorem dX4_chunkIs_66 : decode cX4_chunkIs 66 = .ok (.iaload, 1) := by decide +kernel
theorem dX4_chunkIs_67 : decode cX4_chunkIs 67 = .ok (.iastore, 1) := by decide +kernel
theorem dX4_chunkIs_68 : decode cX4_chunkIs 68 = .ok (.iinc 6 1, 3) := by decide +kernel
theorem dX4_chunkIs_71 : decode cX4_chunkIs 71 = .ok (.goto (-29), 3) := by decide +kernel
theorem dX4_chunkIs_74 : decode cX4_chunkIs 74 = .ok (.aload_n 0, 1) := by decide +kernel
theorem dX4_chunkIs_75 : decode cX4_chunkIs 75 = .ok (.getfield 20, 3) := by decide +kernel
theorem dX4_chunkIs_78 : decode cX4_chunkIs 78 = .ok (.iload_n 3, 1) := by decide +kernel
theorem dX4_chunkIs_79 : decode cX4_chunkIs 79 = .ok (.iload 4, 2) := by decide +kernel
theorem dX4_chunkIs_81 : decode cX4_chunkIs 81 = .ok (.bastore, 1) := by decide +kernel
theorem dX4_chunkIs_82 : decode cX4_chunkIs 82 = .ok (.iload 4, 2) := by decide +kernel
theorem dX4_chunkIs_84 : decode cX4_chunkIs 84 = .ok (.ifCond .ne 14, 3) := by decide +kernel
theorem dX4_chunkIs_87 : decode cX4_chunkIs 87 = .ok (.aload_n 0, 1) := by decide +kernel
theorem dX4_chunkIs_88 : decode cX4_chunkIs 88 = .ok (.getfield 17, 3) := by decide +kernel
theorem dX4_chunkIs_91 : decode cX4_chunkIs 91 = .ok (.iload_n 3, 1) := by decide +kernel
theorem dX4_chunkIs_92 : decode cX4_chunkIs 92 = .ok (.aload_n 0, 1) := by decide +kernel
theorem dX4_chunkIs_93 : decode cX4_chunkIs 93 = .ok (.iload_n 3, 1) := by decide +kernel
theorem dX4_chunkIs_94 : decode cX4_chunkIs 94 = .ok (.invokevirtual 90, 3) := by decide +kernel
theorem dX4_chunkIs_97 : decode cX4_chunkIs 97 = .ok (.iastore, 1) := by decide +kernel
theorem dX4_chunkIs_98 : decode cX4_chunkIs 98 = .ok (.iload 4, 2) := by decide +kernel
theorem dX4_chunkIs_100 : decode cX4_chunkIs 100 = .ok (.ifCond .ne 7, 3) := by decide +kernel
theorem dX4_chunkIs_103 : decode cX4_chunkIs 103 = .ok (.iconst 1, 1) := by decide +kernel
theorem dX4_chunkIs_104 : decode cX4_chunkIs 104 = .ok (.goto 4, 3) := by decide +kernel
theorem dX4_chunkIs_107 : decode cX4_chunkIs 107 = .ok (.iconst 0, 1) := by decide +kernel
theorem dX4_chunkIs_108 : decode cX4_chunkIs 108 = .ok (.ireturn, 1) := by decide +kernel
set_option maxRecDepth 20000 in
theorem ggX4_markIs_X4_goes : GoodIn wsX4_markIs wsX4_goes := goodIn_r _ [8, 1, 9, 10, 11, 12, 13, 14, 15, 16, 17, 18, 19, 20, 21, 22, 23, 24, 25, 26, 27, 28, 29, 30, 31, 32, 33, 34, 35, 36, 37, 38] (by decide +kernel) (by decide +kernel)
set_option maxRecDepth 20000 in
theorem gX4_markIs_X4_goes : GoodIn wsX4_markIs (wsV RX4 110 RX4 yX4_goes wsX4_goes) := goodIn_app (goodIn_of _ (by decide +kernel)) ggX4_markIs_X4_goes
theorem dX4_markIs_0 : decode cX4_markIs 0 = .ok (.aload_n 0, 1) := by decide +kernel
theorem dX4_markIs_1 : decode cX4_markIs 1 = .ok (.getfield 60, 3) := by decide +kernel
theorem dX4_markIs_4 : decode cX4_markIs 4 = .ok (.iconst 2, 1) := by decide +kernel
theorem dX4_markIs_5 : decode cX4_markIs 5 = .ok (.dup2, 1) := by decide +kernel
theorem dX4_markIs_6 : decode cX4_markIs 6 = .ok (.iaload, 1) := by decide +kernel
theorem dX4_markIs_7 : decode cX4_markIs 7 = .ok (.iconst 1, 1) := by decide +kernel
theorem dX4_markIs_8 : decode cX4_markIs 8 = .ok (.iadd, 1) := by decide +kernel
theorem dX4_markIs_9 : decode cX4_markIs 9 = .ok (.iastore, 1) := by decide +kernel
theorem dX4_markIs_10 : decode cX4_markIs 10 = .ok (.aload_n 0, 1) := by decide +kernel
theorem dX4_markIs_11 : decode cX4_markIs 11 = .ok (.invokevirtual 110, 3) := by decide +kernel
theorem dX4_markIs_14 : decode cX4_markIs 14 = .ok (.ifCond .eq 5, 3) := by decide +kernel
theorem dX4_markIs_17 : decode cX4_markIs 17 = .ok (.iconst 0, 1) := by decide +kernel
theorem dX4_markIs_18 : decode cX4_markIs 18 = .ok (.ireturn, 1) := by decide +kernel
theorem dX4_markIs_19 : decode cX4_markIs 19 = .ok (.aload_n 0, 1) := by decide +kernel
theorem dX4_markIs_20 : decode cX4_markIs 20 = .ok (.iload_n 1, 1) := by decide +kernel
theorem dX4_markIs_21 : decode cX4_markIs 21 = .ok (.putfield 117, 3) := by decide +kernel
theorem dX4_markIs_24 : decode cX4_markIs 24 = .ok (.aload_n 0, 1) := by decide +kernel
theorem dX4_markIs_25 : decode cX4_markIs 25 = .ok (.iload_n 2, 1) := by decide +kernel
theorem dX4_markIs_26 : decode cX4_markIs 26 = .ok (.putfield 51, 3) := by decide +kernel
theorem dX4_markIs_29 : decode cX4_markIs 29 = .ok (.iconst 1, 1) := by decide +kernel
theorem dX4_markIs_30 : decode cX4_markIs 30 = .ok (.ireturn, 1) := by decide +kernel
theorem dX4_cellsOf_0 : decode cX4_cellsOf 0 = .ok (.aload_n 0, 1) := by decide +kernel
theorem dX4_cellsOf_1 : decode cX4_cellsOf 1 = .ok (.getfield 42, 3) := by decide +kernel
theorem dX4_cellsOf_4 : decode cX4_cellsOf 4 = .ok (.iload_n 1, 1) := by decide +kernel
theorem dX4_cellsOf_5 : decode cX4_cellsOf 5 = .ok (.baload, 1) := by decide +kernel
theorem dX4_cellsOf_6 : decode cX4_cellsOf 6 = .ok (.ifCond .eq 7, 3) := by decide +kernel
theorem dX4_cellsOf_9 : decode cX4_cellsOf 9 = .ok (.iconst 3, 1) := by decide +kernel
theorem dX4_cellsOf_10 : decode cX4_cellsOf 10 = .ok (.goto 4, 3) := by decide +kernel
theorem dX4_cellsOf_13 : decode cX4_cellsOf 13 = .ok (.iconst 2, 1) := by decide +kernel
theorem dX4_cellsOf_14 : decode cX4_cellsOf 14 = .ok (.istore_n 2, 1) := by decide +kernel
theorem dX4_cellsOf_15 : decode cX4_cellsOf 15 = .ok (.iconst 0, 1) := by decide +kernel
theorem dX4_cellsOf_16 : decode cX4_cellsOf 16 = .ok (.istore_n 3, 1) := by decide +kernel
theorem dX4_cellsOf_17 : decode cX4_cellsOf 17 = .ok (.iload_n 3, 1) := by decide +kernel
theorem dX4_cellsOf_18 : decode cX4_cellsOf 18 = .ok (.aload_n 0, 1) := by decide +kernel
theorem dX4_cellsOf_19 : decode cX4_cellsOf 19 = .ok (.getfield 69, 3) := by decide +kernel
theorem dX4_cellsOf_22 : decode cX4_cellsOf 22 = .ok (.iconst 1, 1) := by decide +kernel
theorem dX4_cellsOf_23 : decode cX4_cellsOf 23 = .ok (.isub, 1) := by decide +kernel
theorem dX4_cellsOf_24 : decode cX4_cellsOf 24 = .ok (.if_icmp .ge 22, 3) := by decide +kernel
theorem dX4_cellsOf_27 : decode cX4_cellsOf 27 = .ok (.iload_n 2, 1) := by decide +kernel
theorem dX4_cellsOf_28 : decode cX4_cellsOf 28 = .ok (.aload_n 0, 1) := by decide +kernel
theorem dX4_cellsOf_29 : decode cX4_cellsOf 29 = .ok (.getfield 39, 3) := by decide +kernel
theorem dX4_cellsOf_32 : decode cX4_cellsOf 32 = .ok (.iload_n 1, 1) := by decide +kernel
theorem dX4_cellsOf_33 : decode cX4_cellsOf 33 = .ok (.iaload, 1) := by decide +kernel
theorem dX4_cellsOf_34 : decode cX4_cellsOf 34 = .ok (.iload_n 3, 1) := by decide +kernel
theorem dX4_cellsOf_35 : decode cX4_cellsOf 35 = .ok (.ishr, 1) := by decide +kernel
theorem dX4_cellsOf_36 : decode cX4_cellsOf 36 = .ok (.iconst 1, 1) := by decide +kernel
theorem dX4_cellsOf_37 : decode cX4_cellsOf 37 = .ok (.iand, 1) := by decide +kernel
theorem dX4_cellsOf_38 : decode cX4_cellsOf 38 = .ok (.iadd, 1) := by decide +kernel
theorem dX4_cellsOf_39 : decode cX4_cellsOf 39 = .ok (.istore_n 2, 1) := by decide +kernel
theorem dX4_cellsOf_40 : decode cX4_cellsOf 40 = .ok (.iinc 3 1, 3) := by decide +kernel
theorem dX4_cellsOf_43 : decode cX4_cellsOf 43 = .ok (.goto (-26), 3) := by decide +kernel
theorem dX4_cellsOf_46 : decode cX4_cellsOf 46 = .ok (.iload_n 2, 1) := by decide +kernel
theorem dX4_cellsOf_47 : decode cX4_cellsOf 47 = .ok (.ireturn, 1) := by decide +kernel
set_option maxRecDepth 20000 in
theorem ggX4_free_X4_cellsOf : GoodIn wsX4_free wsX4_cellsOf := goodIn_r _ [6, 7, 8, 9, 10, 11, 12, 13, 14, 15, 16, 17, 18, 19, 20, 21, 22, 23, 24, 25, 26, 27, 28, 29, 30, 31, 32, 33, 34] (by decide +kernel) (by decide +kernel)
set_option maxRecDepth 20000 in
theorem gX4_free_X4_cellsOf : GoodIn wsX4_free (wsV RX4 123 RX4 yX4_cellsOf wsX4_cellsOf) := goodIn_app (goodIn_of _ (by decide +kernel)) ggX4_free_X4_cellsOf
theorem dX4_free_0 : decode cX4_free 0 = .ok (.bipush 32, 2) := by decide +kernel
theorem dX4_free_2 : decode cX4_free 2 = .ok (.istore_n 1, 1) := by decide +kernel
theorem dX4_free_3 : decode cX4_free 3 = .ok (.iconst 0, 1) := by decide +kernel
theorem dX4_free_4 : decode cX4_free 4 = .ok (.istore_n 2, 1) := by decide +kernel
theorem dX4_free_5 : decode cX4_free 5 = .ok (.iload_n 2, 1) := by decide +kernel
theorem dX4_free_6 : decode cX4_free 6 = .ok (.aload_n 0, 1) := by decide +kernel
theorem dX4_free_7 : decode cX4_free 7 = .ok (.getfield 120, 3) := by decide +kernel
theorem dX4_free_10 : decode cX4_free 10 = .ok (.if_icmp .ge 17, 3) := by decide +kernel
theorem dX4_free_13 : decode cX4_free 13 = .ok (.iload_n 1, 1) := by decide +kernel
theorem dX4_free_14 : decode cX4_free 14 = .ok (.aload_n 0, 1) := by decide +kernel
theorem dX4_free_15 : decode cX4_free 15 = .ok (.iload_n 2, 1) := by decide +kernel
theorem dX4_free_16 : decode cX4_free 16 = .ok (.invokevirtual 123, 3) := by decide +kernel
theorem dX4_free_19 : decode cX4_free 19 = .ok (.isub, 1) := by decide +kernel
theorem dX4_free_20 : decode cX4_free 20 = .ok (.istore_n 1, 1) := by decide +kernel
theorem dX4_free_21 : decode cX4_free 21 = .ok (.iinc 2 1, 3) := by decide +kernel
theorem dX4_free_24 : decode cX4_free 24 = .ok (.goto (-19), 3) := by decide +kernel
theorem dX4_free_27 : decode cX4_free 27 = .ok (.iload_n 1, 1) := by decide +kernel
theorem dX4_free_28 : decode cX4_free 28 = .ok (.ireturn, 1) := by decide +kernel
theorem dX4_freshFrom_0 : decode cX4_freshFrom 0 = .ok (.iconst 0, 1) := by decide +kernel
theorem dX4_freshFrom_1 : decode cX4_freshFrom 1 = .ok (.istore_n 3, 1) := by decide +kernel
theorem dX4_freshFrom_2 : decode cX4_freshFrom 2 = .ok (.iload_n 3, 1) := by decide +kernel
theorem dX4_freshFrom_3 : decode cX4_freshFrom 3 = .ok (.bipush 8, 2) := by decide +kernel
theorem dX4_freshFrom_5 : decode cX4_freshFrom 5 = .ok (.if_icmp .ge 31, 3) := by decide +kernel
theorem dX4_freshFrom_8 : decode cX4_freshFrom 8 = .ok (.aload_n 0, 1) := by decide +kernel
theorem dX4_freshFrom_9 : decode cX4_freshFrom 9 = .ok (.getfield 63, 3) := by decide +kernel
theorem dX4_freshFrom_12 : decode cX4_freshFrom 12 = .ok (.iload_n 3, 1) := by decide +kernel
theorem dX4_freshFrom_13 : decode cX4_freshFrom 13 = .ok (.aload_n 0, 1) := by decide +kernel
theorem dX4_freshFrom_14 : decode cX4_freshFrom 14 = .ok (.getfield 48, 3) := by decide +kernel
theorem dX4_freshFrom_17 : decode cX4_freshFrom 17 = .ok (.bipush 8, 2) := by decide +kernel
theorem dX4_freshFrom_19 : decode cX4_freshFrom 19 = .ok (.bipush 6, 2) := by decide +kernel
theorem dX4_freshFrom_21 : decode cX4_freshFrom 21 = .ok (.iload_n 1, 1) := by decide +kernel
theorem dX4_freshFrom_22 : decode cX4_freshFrom 22 = .ok (.imul, 1) := by decide +kernel
theorem dX4_freshFrom_23 : decode cX4_freshFrom 23 = .ok (.iload_n 2, 1) := by decide +kernel
theorem dX4_freshFrom_24 : decode cX4_freshFrom 24 = .ok (.iadd, 1) := by decide +kernel
theorem dX4_freshFrom_25 : decode cX4_freshFrom 25 = .ok (.imul, 1) := by decide +kernel
theorem dX4_freshFrom_26 : decode cX4_freshFrom 26 = .ok (.iload_n 3, 1) := by decide +kernel
theorem dX4_freshFrom_27 : decode cX4_freshFrom 27 = .ok (.iadd, 1) := by decide +kernel
theorem dX4_freshFrom_28 : decode cX4_freshFrom 28 = .ok (.iaload, 1) := by decide +kernel
theorem dX4_freshFrom_29 : decode cX4_freshFrom 29 = .ok (.iastore, 1) := by decide +kernel
theorem dX4_freshFrom_30 : decode cX4_freshFrom 30 = .ok (.iinc 3 1, 3) := by decide +kernel
theorem dX4_freshFrom_33 : decode cX4_freshFrom 33 = .ok (.goto (-31), 3) := by decide +kernel
theorem dX4_freshFrom_36 : decode cX4_freshFrom 36 = .ok (.return_, 1) := by decide +kernel
set_option maxRecDepth 20000 in
theorem ggX4_done_X4_memberOf : GoodIn wsX4_done wsX4_memberOf := goodIn_r _ [9, 2, 10, 11, 12, 8, 13, 51, 52, 53, 54, 55, 56, 57, 58, 59, 60, 61, 62, 63, 64, 65, 66, 67, 68, 69, 70, 71, 72, 73, 74, 75] (by decide +kernel) (by decide +kernel)
set_option maxRecDepth 20000 in
theorem gX4_done_X4_memberOf : GoodIn wsX4_done (wsV RX4 100 RX4 yX4_memberOf wsX4_memberOf) := goodIn_app (goodIn_of _ (by decide +kernel)) ggX4_done_X4_memberOf
set_option maxRecDepth 20000 in
theorem ggX4_done_X4_isOn : GoodIn wsX4_done wsX4_isOn := goodIn_r _ [17, 18, 19, 51, 52, 53, 54, 55, 56, 57, 58, 59, 60, 61, 62, 63, 64, 65, 66, 67, 68, 69, 70, 71, 72, 73, 74, 75] (by decide +kernel) (by decide +kernel)
set_option maxRecDepth 20000 in
theorem gX4_done_X4_isOn : GoodIn wsX4_done (wsV RX4 86 RX4 yX4_isOn wsX4_isOn) := goodIn_app (goodIn_of _ (by decide +kernel)) ggX4_done_X4_isOn
set_option maxRecDepth 20000 in
theorem ggX4_done_X4_freshFrom : GoodIn wsX4_done wsX4_freshFrom := goodIn_r _ [23, 24, 25, 51, 52, 53, 54, 55, 56, 57, 58, 59, 60, 61, 62, 63, 64, 65, 66, 67, 68, 69, 70, 71, 72, 73, 74, 75] (by decide +kernel) (by decide +kernel)
set_option maxRecDepth 20000 in
theorem gX4_done_X4_freshFrom : GoodIn wsX4_done (wsV RX4 126 RX4 yX4_freshFrom wsX4_freshFrom) := goodIn_app (goodIn_of _ (by decide +kernel)) ggX4_done_X4_freshFrom
set_option maxRecDepth 20000 in
theorem ggX4_done_X4_chunkIs : GoodIn wsX4_done wsX4_chunkIs := goodIn_r _ [29, 30, 31, 32, 24, 33, 34, 35, 36, 37, 8, 38, 39, 40, 41, 42, 43, 44, 45, 46, 2, 19, 47, 48, 49, 50, 51, 52, 53, 54, 55, 56, 57, 58, 59, 60, 61, 62, 63, 64, 65, 66, 67, 68, 69, 70, 71, 72, 73, 74, 75] (by decide +kernel) (by decide +kernel)
set_option maxRecDepth 20000 in
theorem gX4_done_X4_chunkIs : GoodIn wsX4_done (wsV RX4 130 RX4 yX4_chunkIs wsX4_chunkIs) := goodIn_app (goodIn_of _ (by decide +kernel)) ggX4_done_X4_chunkIs
set_option maxRecDepth 20000 in
theorem ggX4_done_X4_parityOf : GoodIn wsX4_done wsX4_parityOf := goodIn_r _ [13, 2, 51, 52, 53, 54, 55, 56, 57, 58, 59, 60, 61, 62, 63, 64, 65, 66, 67, 68, 69, 70, 71, 72, 73, 74, 75] (by decide +kernel) (by decide +kernel)
set_option maxRecDepth 20000 in
theorem gX4_done_X4_parityOf : GoodIn wsX4_done (wsV RX4 78 RX4 yX4_parityOf wsX4_parityOf) := goodIn_app (goodIn_of _ (by decide +kernel)) ggX4_done_X4_parityOf
theorem dX4_done_0 : decode cX4_done 0 = .ok (.aload_n 0, 1) := by decide +kernel
theorem dX4_done_1 : decode cX4_done 1 = .ok (.getfield 33, 3) := by decide +kernel
theorem dX4_done_4 : decode cX4_done 4 = .ok (.iload_n 1, 1) := by decide +kernel
theorem dX4_done_5 : decode cX4_done 5 = .ok (.iaload, 1) := by decide +kernel
theorem dX4_done_6 : decode cX4_done 6 = .ok (.istore_n 2, 1) := by decide +kernel
theorem dX4_done_7 : decode cX4_done 7 = .ok (.iconst 0, 1) := by decide +kernel
theorem dX4_done_8 : decode cX4_done 8 = .ok (.istore_n 3, 1) := by decide +kernel
theorem dX4_done_9 : decode cX4_done 9 = .ok (.iload_n 3, 1) := by decide +kernel
theorem dX4_done_10 : decode cX4_done 10 = .ok (.aload_n 0, 1) := by decide +kernel
theorem dX4_done_11 : decode cX4_done 11 = .ok (.getfield 69, 3) := by decide +kernel
theorem dX4_done_14 : decode cX4_done 14 = .ok (.iconst 1, 1) := by decide +kernel
theorem dX4_done_15 : decode cX4_done 15 = .ok (.isub, 1) := by decide +kernel
theorem dX4_done_16 : decode cX4_done 16 = .ok (.if_icmp .ge 59, 3) := by decide +kernel
theorem dX4_done_19 : decode cX4_done 19 = .ok (.aload_n 0, 1) := by decide +kernel
theorem dX4_done_20 : decode cX4_done 20 = .ok (.iload_n 2, 1) := by decide +kernel
theorem dX4_done_21 : decode cX4_done 21 = .ok (.iload_n 3, 1) := by decide +kernel
theorem dX4_done_22 : decode cX4_done 22 = .ok (.invokevirtual 100, 3) := by decide +kernel
theorem dX4_done_25 : decode cX4_done 25 = .ok (.istore 4, 2) := by decide +kernel
theorem dX4_done_27 : decode cX4_done 27 = .ok (.aload_n 0, 1) := by decide +kernel
theorem dX4_done_28 : decode cX4_done 28 = .ok (.getfield 39, 3) := by decide +kernel
theorem dX4_done_31 : decode cX4_done 31 = .ok (.iload_n 1, 1) := by decide +kernel
theorem dX4_done_32 : decode cX4_done 32 = .ok (.iaload, 1) := by decide +kernel
theorem dX4_done_33 : decode cX4_done 33 = .ok (.iload_n 3, 1) := by decide +kernel
theorem dX4_done_34 : decode cX4_done 34 = .ok (.ishr, 1) := by decide +kernel
theorem dX4_done_35 : decode cX4_done 35 = .ok (.iconst 1, 1) := by decide +kernel
theorem dX4_done_36 : decode cX4_done 36 = .ok (.iand, 1) := by decide +kernel
theorem dX4_done_37 : decode cX4_done 37 = .ok (.iconst 1, 1) := by decide +kernel
theorem dX4_done_38 : decode cX4_done 38 = .ok (.if_icmp .ne 31, 3) := by decide +kernel
theorem dX4_done_41 : decode cX4_done 41 = .ok (.aload_n 0, 1) := by decide +kernel
theorem dX4_done_42 : decode cX4_done 42 = .ok (.iload 4, 2) := by decide +kernel
theorem dX4_done_44 : decode cX4_done 44 = .ok (.iload_n 2, 1) := by decide +kernel
theorem dX4_done_45 : decode cX4_done 45 = .ok (.invokevirtual 86, 3) := by decide +kernel
theorem dX4_done_48 : decode cX4_done 48 = .ok (.ifCond .eq 21, 3) := by decide +kernel
theorem dX4_done_51 : decode cX4_done 51 = .ok (.aload_n 0, 1) := by decide +kernel
theorem dX4_done_52 : decode cX4_done 52 = .ok (.iload_n 1, 1) := by decide +kernel
theorem dX4_done_53 : decode cX4_done 53 = .ok (.iload_n 3, 1) := by decide +kernel
theorem dX4_done_54 : decode cX4_done 54 = .ok (.invokevirtual 126, 3) := by decide +kernel
theorem dX4_done_57 : decode cX4_done 57 = .ok (.aload_n 0, 1) := by decide +kernel
theorem dX4_done_58 : decode cX4_done 58 = .ok (.iload 4, 2) := by decide +kernel
theorem dX4_done_60 : decode cX4_done 60 = .ok (.iload_n 2, 1) := by decide +kernel
theorem dX4_done_61 : decode cX4_done 61 = .ok (.invokevirtual 130, 3) := by decide +kernel
theorem dX4_done_64 : decode cX4_done 64 = .ok (.ifCond .ne 5, 3) := by decide +kernel
theorem dX4_done_67 : decode cX4_done 67 = .ok (.iconst 0, 1) := by decide +kernel
theorem dX4_done_68 : decode cX4_done 68 = .ok (.ireturn, 1) := by decide +kernel
theorem dX4_done_69 : decode cX4_done 69 = .ok (.iinc 3 1, 3) := by decide +kernel
theorem dX4_done_72 : decode cX4_done 72 = .ok (.goto (-63), 3) := by decide +kernel
theorem dX4_done_75 : decode cX4_done 75 = .ok (.aload_n 0, 1) := by decide +kernel
theorem dX4_done_76 : decode cX4_done 76 = .ok (.getfield 42, 3) := by decide +kernel
theorem dX4_done_79 : decode cX4_done 79 = .ok (.iload_n 1, 1) := by decide +kernel
theorem dX4_done_80 : decode cX4_done 80 = .ok (.baload, 1) := by decide +kernel
theorem dX4_done_81 : decode cX4_done 81 = .ok (.ifCond .eq 33, 3) := by decide +kernel
theorem dX4_done_84 : decode cX4_done 84 = .ok (.aload_n 0, 1) := by decide +kernel
theorem dX4_done_85 : decode cX4_done 85 = .ok (.aload_n 0, 1) := by decide +kernel
theorem dX4_done_86 : decode cX4_done 86 = .ok (.iload_n 2, 1) := by decide +kernel
theorem dX4_done_87 : decode cX4_done 87 = .ok (.invokevirtual 78, 3) := by decide +kernel
theorem dX4_done_90 : decode cX4_done 90 = .ok (.iload_n 2, 1) := by decide +kernel
theorem dX4_done_91 : decode cX4_done 91 = .ok (.invokevirtual 86, 3) := by decide +kernel
theorem dX4_done_94 : decode cX4_done 94 = .ok (.ifCond .eq 20, 3) := by decide +kernel
theorem dX4_done_97 : decode cX4_done 97 = .ok (.aload_n 0, 1) := by decide +kernel
theorem dX4_done_98 : decode cX4_done 98 = .ok (.iload_n 1, 1) := by decide +kernel
theorem dX4_done_99 : decode cX4_done 99 = .ok (.iconst 5, 1) := by decide +kernel
theorem dX4_done_100 : decode cX4_done 100 = .ok (.invokevirtual 126, 3) := by decide +kernel
theorem dX4_done_103 : decode cX4_done 103 = .ok (.aload_n 0, 1) := by decide +kernel
theorem dX4_done_104 : decode cX4_done 104 = .ok (.aload_n 0, 1) := by decide +kernel
theorem dX4_done_105 : decode cX4_done 105 = .ok (.iload_n 2, 1) := by decide +kernel
theorem dX4_done_106 : decode cX4_done 106 = .ok (.invokevirtual 78, 3) := by decide +kernel
theorem dX4_done_109 : decode cX4_done 109 = .ok (.iload_n 2, 1) := by decide +kernel
theorem dX4_done_110 : decode cX4_done 110 = .ok (.invokevirtual 130, 3) := by decide +kernel
theorem dX4_done_113 : decode cX4_done 113 = .ok (.ireturn, 1) := by decide +kernel
theorem dX4_done_114 : decode cX4_done 114 = .ok (.iconst 1, 1) := by decide +kernel
theorem dX4_done_115 : decode cX4_done 115 = .ok (.ireturn, 1) := by decide +kernel
set_option maxRecDepth 20000 in
theorem ggX4_drained_X4_cellsOf : GoodIn wsX4_drained wsX4_cellsOf := goodIn_r _ [14, 7, 15, 6, 68, 69, 70, 71, 72, 73, 74, 75, 76, 77, 78, 79, 80, 81, 82, 83, 84, 85, 86, 87, 88, 89, 90, 91, 92] (by decide +kernel) (by decide +kernel)
set_option maxRecDepth 20000 in
theorem gX4_drained_X4_cellsOf : GoodIn wsX4_drained (wsV RX4 123 RX4 yX4_cellsOf wsX4_cellsOf) := goodIn_app (goodIn_of _ (by decide +kernel)) ggX4_drained_X4_cellsOf
set_option maxRecDepth 20000 in
theorem ggX4_drained_X4_done : GoodIn wsX4_drained wsX4_done := goodIn_r _ [19, 5, 15, 6, 7, 20, 21, 22, 13, 23, 24, 25, 26, 27, 28, 29, 30, 31, 32, 33, 34, 35, 36, 37, 38, 9, 39, 40, 41, 42, 43, 44, 45, 46, 47, 48, 49, 50, 51, 52, 53, 54, 55, 3, 56, 57, 58, 59, 60, 61, 62, 68, 69, 70, 71, 72, 73, 74, 75, 76, 77, 78, 79, 80, 81, 82, 83, 84, 85, 86, 87, 88, 89, 90, 91, 92] (by decide +kernel) (by decide +kernel)
set_option maxRecDepth 20000 in
theorem gX4_drained_X4_done : GoodIn wsX4_drained (wsV RX4 133 RX4 yX4_done wsX4_done) := goodIn_app (goodIn_of _ (by decide +kernel)) ggX4_drained_X4_done
set_option maxRecDepth 20000 in
theorem ggX4_drained_X4_markIs : GoodIn wsX4_drained wsX4_markIs := goodIn_r _ [66, 3, 1, 67, 52, 53, 54, 13, 55, 56, 57, 58, 15, 33, 68, 69, 70, 71, 72, 73, 74, 75, 76, 77, 78, 79, 80, 81, 82, 83, 84, 85, 86, 87, 88, 89, 90, 91, 92] (by decide +kernel) (by decide +kernel)
set_option maxRecDepth 20000 in
theorem gX4_drained_X4_markIs : GoodIn wsX4_drained (wsV RX4 137 RX4 yX4_markIs wsX4_markIs) := goodIn_app (goodIn_of _ (by decide +kernel)) ggX4_drained_X4_markIs
theorem dX4_drained_0 : decode cX4_drained 0 = .ok (.aload_n 0, 1) := by decide +kernel
theorem dX4_drained_1 : decode cX4_drained 1 = .ok (.getfield 117, 3) := by decide +kernel
theorem dX4_drained_4 : decode cX4_drained 4 = .ok (.aload_n 0, 1) := by decide +kernel
theorem dX4_drained_5 : decode cX4_drained 5 = .ok (.iconst 0, 1) := by decide +kernel
theorem dX4_drained_6 : decode cX4_drained 6 = .ok (.invokevirtual 123, 3) := by decide +kernel
theorem dX4_drained_9 : decode cX4_drained 9 = .ok (.iadd, 1) := by decide +kernel
theorem dX4_drained_10 : decode cX4_drained 10 = .ok (.bipush 32, 2) := by decide +kernel
theorem dX4_drained_12 : decode cX4_drained 12 = .ok (.irem, 1) := by decide +kernel
theorem dX4_drained_13 : decode cX4_drained 13 = .ok (.istore_n 1, 1) := by decide +kernel
theorem dX4_drained_14 : decode cX4_drained 14 = .ok (.aload_n 0, 1) := by decide +kernel
theorem dX4_drained_15 : decode cX4_drained 15 = .ok (.iconst 0, 1) := by decide +kernel
theorem dX4_drained_16 : decode cX4_drained 16 = .ok (.invokevirtual 133, 3) := by decide +kernel
theorem dX4_drained_19 : decode cX4_drained 19 = .ok (.ifCond .eq 19, 3) := by decide +kernel
theorem dX4_drained_22 : decode cX4_drained 22 = .ok (.aload_n 0, 1) := by decide +kernel
theorem dX4_drained_23 : decode cX4_drained 23 = .ok (.iload_n 1, 1) := by decide +kernel
theorem dX4_drained_24 : decode cX4_drained 24 = .ok (.aload_n 0, 1) := by decide +kernel
theorem dX4_drained_25 : decode cX4_drained 25 = .ok (.getfield 36, 3) := by decide +kernel
theorem dX4_drained_28 : decode cX4_drained 28 = .ok (.iconst 0, 1) := by decide +kernel
theorem dX4_drained_29 : decode cX4_drained 29 = .ok (.iaload, 1) := by decide +kernel
theorem dX4_drained_30 : decode cX4_drained 30 = .ok (.iconst 1, 1) := by decide +kernel
theorem dX4_drained_31 : decode cX4_drained 31 = .ok (.iadd, 1) := by decide +kernel
theorem dX4_drained_32 : decode cX4_drained 32 = .ok (.invokevirtual 137, 3) := by decide +kernel
theorem dX4_drained_35 : decode cX4_drained 35 = .ok (.ifCond .ne 5, 3) := by decide +kernel
theorem dX4_drained_38 : decode cX4_drained 38 = .ok (.iconst 0, 1) := by decide +kernel
theorem dX4_drained_39 : decode cX4_drained 39 = .ok (.ireturn, 1) := by decide +kernel
theorem dX4_drained_40 : decode cX4_drained 40 = .ok (.aload_n 0, 1) := by decide +kernel
theorem dX4_drained_41 : decode cX4_drained 41 = .ok (.getfield 60, 3) := by decide +kernel
theorem dX4_drained_44 : decode cX4_drained 44 = .ok (.iconst 5, 1) := by decide +kernel
theorem dX4_drained_45 : decode cX4_drained 45 = .ok (.dup2, 1) := by decide +kernel
theorem dX4_drained_46 : decode cX4_drained 46 = .ok (.iaload, 1) := by decide +kernel
theorem dX4_drained_47 : decode cX4_drained 47 = .ok (.iconst 1, 1) := by decide +kernel
theorem dX4_drained_48 : decode cX4_drained 48 = .ok (.iadd, 1) := by decide +kernel
theorem dX4_drained_49 : decode cX4_drained 49 = .ok (.iastore, 1) := by decide +kernel
theorem dX4_drained_50 : decode cX4_drained 50 = .ok (.iconst 1, 1) := by decide +kernel
theorem dX4_drained_51 : decode cX4_drained 51 = .ok (.istore_n 2, 1) := by decide +kernel
theorem dX4_drained_52 : decode cX4_drained 52 = .ok (.iload_n 2, 1) := by decide +kernel
theorem dX4_drained_53 : decode cX4_drained 53 = .ok (.aload_n 0, 1) := by decide +kernel
theorem dX4_drained_54 : decode cX4_drained 54 = .ok (.getfield 120, 3) := by decide +kernel
theorem dX4_drained_57 : decode cX4_drained 57 = .ok (.if_icmp .ge 117, 3) := by decide +kernel
theorem dX4_drained_60 : decode cX4_drained 60 = .ok (.aload_n 0, 1) := by decide +kernel
theorem dX4_drained_61 : decode cX4_drained 61 = .ok (.getfield 33, 3) := by decide +kernel
theorem dX4_drained_64 : decode cX4_drained 64 = .ok (.iload_n 2, 1) := by decide +kernel
theorem dX4_drained_65 : decode cX4_drained 65 = .ok (.iconst 1, 1) := by decide +kernel
theorem dX4_drained_66 : decode cX4_drained 66 = .ok (.isub, 1) := by decide +kernel
theorem dX4_drained_67 : decode cX4_drained 67 = .ok (.aload_n 0, 1) := by decide +kernel
theorem dX4_drained_68 : decode cX4_drained 68 = .ok (.getfield 33, 3) := by decide +kernel
theorem dX4_drained_71 : decode cX4_drained 71 = .ok (.iload_n 2, 1) := by decide +kernel
theorem dX4_drained_72 : decode cX4_drained 72 = .ok (.iaload, 1) := by decide +kernel
theorem dX4_drained_73 : decode cX4_drained 73 = .ok (.iastore, 1) := by decide +kernel
theorem dX4_drained_74 : decode cX4_drained 74 = .ok (.aload_n 0, 1) := by decide +kernel
theorem dX4_drained_75 : decode cX4_drained 75 = .ok (.getfield 36, 3) := by decide +kernel
theorem dX4_drained_78 : decode cX4_drained 78 = .ok (.iload_n 2, 1) := by decide +kernel
theorem dX4_drained_79 : decode cX4_drained 79 = .ok (.iconst 1, 1) := by decide +kernel
theorem dX4_drained_80 : decode cX4_drained 80 = .ok (.isub, 1) := by decide +kernel
theorem dX4_drained_81 : decode cX4_drained 81 = .ok (.aload_n 0, 1) := by decide +kernel
theorem dX4_drained_82 : decode cX4_drained 82 = .ok (.getfield 36, 3) := by decide +kernel
theorem dX4_drained_85 : decode cX4_drained 85 = .ok (.iload_n 2, 1) := by decide +kernel
theorem dX4_drained_86 : decode cX4_drained 86 = .ok (.iaload, 1) := by decide +kernel
theorem dX4_drained_87 : decode cX4_drained 87 = .ok (.iastore, 1) := by decide +kernel
theorem dX4_drained_88 : decode cX4_drained 88 = .ok (.aload_n 0, 1) := by decide +kernel
theorem dX4_drained_89 : decode cX4_drained 89 = .ok (.getfield 39, 3) := by decide +kernel
theorem dX4_drained_92 : decode cX4_drained 92 = .ok (.iload_n 2, 1) := by decide +kernel
theorem dX4_drained_93 : decode cX4_drained 93 = .ok (.iconst 1, 1) := by decide +kernel
theorem dX4_drained_94 : decode cX4_drained 94 = .ok (.isub, 1) := by decide +kernel
theorem dX4_drained_95 : decode cX4_drained 95 = .ok (.aload_n 0, 1) := by decide +kernel
theorem dX4_drained_96 : decode cX4_drained 96 = .ok (.getfield 39, 3) := by decide +kernel
theorem dX4_drained_99 : decode cX4_drained 99 = .ok (.iload_n 2, 1) := by decide +kernel
theorem dX4_drained_100 : decode cX4_drained 100 = .ok (.iaload, 1) := by decide +kernel
theorem dX4_drained_101 : decode cX4_drained 101 = .ok (.iastore, 1) := by decide +kernel
theorem dX4_drained_102 : decode cX4_drained 102 = .ok (.aload_n 0, 1) := by decide +kernel
theorem dX4_drained_103 : decode cX4_drained 103 = .ok (.getfield 42, 3) := by decide +kernel
theorem dX4_drained_106 : decode cX4_drained 106 = .ok (.iload_n 2, 1) := by decide +kernel
theorem dX4_drained_107 : decode cX4_drained 107 = .ok (.iconst 1, 1) := by decide +kernel
theorem dX4_drained_108 : decode cX4_drained 108 = .ok (.isub, 1) := by decide +kernel
theorem dX4_drained_109 : decode cX4_drained 109 = .ok (.aload_n 0, 1) := by decide +kernel
theorem dX4_drained_110 : decode cX4_drained 110 = .ok (.getfield 42, 3) := by decide +kernel
theorem dX4_drained_113 : decode cX4_drained 113 = .ok (.iload_n 2, 1) := by decide +kernel
theorem dX4_drained_114 : decode cX4_drained 114 = .ok (.baload, 1) := by decide +kernel
theorem dX4_drained_115 : decode cX4_drained 115 = .ok (.bastore, 1) := by decide +kernel
theorem dX4_drained_116 : decode cX4_drained 116 = .ok (.aload_n 0, 1) := by decide +kernel
theorem dX4_drained_117 : decode cX4_drained 117 = .ok (.getfield 45, 3) := by decide +kernel
theorem dX4_drained_120 : decode cX4_drained 120 = .ok (.iload_n 2, 1) := by decide +kernel
theorem dX4_drained_121 : decode cX4_drained 121 = .ok (.iconst 1, 1) := by decide +kernel
theorem dX4_drained_122 : decode cX4_drained 122 = .ok (.isub, 1) := by decide +kernel
theorem dX4_drained_123 : decode cX4_drained 123 = .ok (.aload_n 0, 1) := by decide +kernel
theorem dX4_drained_124 : decode cX4_drained 124 = .ok (.getfield 45, 3) := by decide +kernel
theorem dX4_drained_127 : decode cX4_drained 127 = .ok (.iload_n 2, 1) := by decide +kernel
theorem dX4_drained_128 : decode cX4_drained 128 = .ok (.iaload, 1) := by decide +kernel
theorem dX4_drained_129 : decode cX4_drained 129 = .ok (.iastore, 1) := by decide +kernel
theorem dX4_drained_130 : decode cX4_drained 130 = .ok (.iconst 0, 1) := by decide +kernel
theorem dX4_drained_131 : decode cX4_drained 131 = .ok (.istore_n 3, 1) := by decide +kernel
theorem dX4_drained_132 : decode cX4_drained 132 = .ok (.iload_n 3, 1) := by decide +kernel
theorem dX4_drained_133 : decode cX4_drained 133 = .ok (.bipush 48, 2) := by decide +kernel
theorem dX4_drained_135 : decode cX4_drained 135 = .ok (.if_icmp .ge 33, 3) := by decide +kernel
theorem dX4_drained_138 : decode cX4_drained 138 = .ok (.aload_n 0, 1) := by decide +kernel
theorem dX4_drained_139 : decode cX4_drained 139 = .ok (.getfield 48, 3) := by decide +kernel
theorem dX4_drained_142 : decode cX4_drained 142 = .ok (.bipush 48, 2) := by decide +kernel
theorem dX4_drained_144 : decode cX4_drained 144 = .ok (.iload_n 2, 1) := by decide +kernel
theorem dX4_drained_145 : decode cX4_drained 145 = .ok (.iconst 1, 1) := by decide +kernel
theorem dX4_drained_146 : decode cX4_drained 146 = .ok (.isub, 1) := by decide +kernel
theorem dX4_drained_147 : decode cX4_drained 147 = .ok (.imul, 1) := by decide +kernel
theorem dX4_drained_148 : decode cX4_drained 148 = .ok (.iload_n 3, 1) := by decide +kernel
theorem dX4_drained_149 : decode cX4_drained 149 = .ok (.iadd, 1) := by decide +kernel
theorem dX4_drained_150 : decode cX4_drained 150 = .ok (.aload_n 0, 1) := by decide +kernel
theorem dX4_drained_151 : decode cX4_drained 151 = .ok (.getfield 48, 3) := by decide +kernel
theorem dX4_drained_154 : decode cX4_drained 154 = .ok (.bipush 48, 2) := by decide +kernel
theorem dX4_drained_156 : decode cX4_drained 156 = .ok (.iload_n 2, 1) := by decide +kernel
theorem dX4_drained_157 : decode cX4_drained 157 = .ok (.imul, 1) := by decide +kernel
theorem dX4_drained_158 : decode cX4_drained 158 = .ok (.iload_n 3, 1) := by decide +kernel
theorem dX4_drained_159 : decode cX4_drained 159 = .ok (.iadd, 1) := by decide +kernel
theorem dX4_drained_160 : decode cX4_drained 160 = .ok (.iaload, 1) := by decide +kernel
theorem dX4_drained_161 : decode cX4_drained 161 = .ok (.iastore, 1) := by decide +kernel
theorem dX4_drained_162 : decode cX4_drained 162 = .ok (.iinc 3 1, 3) := by decide +kernel
theorem dX4_drained_165 : decode cX4_drained 165 = .ok (.goto (-33), 3) := by decide +kernel
theorem dX4_drained_168 : decode cX4_drained 168 = .ok (.iinc 2 1, 3) := by decide +kernel
theorem dX4_drained_171 : decode cX4_drained 171 = .ok (.goto (-119), 3) := by decide +kernel
theorem dX4_drained_174 : decode cX4_drained 174 = .ok (.aload_n 0, 1) := by decide +kernel
theorem dX4_drained_175 : decode cX4_drained 175 = .ok (.dup, 1) := by decide +kernel
theorem dX4_drained_176 : decode cX4_drained 176 = .ok (.getfield 120, 3) := by decide +kernel
theorem dX4_drained_179 : decode cX4_drained 179 = .ok (.iconst 1, 1) := by decide +kernel
theorem dX4_drained_180 : decode cX4_drained 180 = .ok (.isub, 1) := by decide +kernel
theorem dX4_drained_181 : decode cX4_drained 181 = .ok (.putfield 120, 3) := by decide +kernel
theorem dX4_drained_184 : decode cX4_drained 184 = .ok (.iconst 1, 1) := by decide +kernel
theorem dX4_drained_185 : decode cX4_drained 185 = .ok (.ireturn, 1) := by decide +kernel
theorem dX4_latest_0 : decode cX4_latest 0 = .ok (.aload_n 0, 1) := by decide +kernel
theorem dX4_latest_1 : decode cX4_latest 1 = .ok (.getfield 120, 3) := by decide +kernel
theorem dX4_latest_4 : decode cX4_latest 4 = .ok (.iconst 1, 1) := by decide +kernel
theorem dX4_latest_5 : decode cX4_latest 5 = .ok (.isub, 1) := by decide +kernel
theorem dX4_latest_6 : decode cX4_latest 6 = .ok (.istore_n 3, 1) := by decide +kernel
theorem dX4_latest_7 : decode cX4_latest 7 = .ok (.iload_n 3, 1) := by decide +kernel
theorem dX4_latest_8 : decode cX4_latest 8 = .ok (.ifCond .lt 61, 3) := by decide +kernel
theorem dX4_latest_11 : decode cX4_latest 11 = .ok (.iload_n 2, 1) := by decide +kernel
theorem dX4_latest_12 : decode cX4_latest 12 = .ok (.iconst 5, 1) := by decide +kernel
theorem dX4_latest_13 : decode cX4_latest 13 = .ok (.if_icmp .ne 12, 3) := by decide +kernel
theorem dX4_latest_16 : decode cX4_latest 16 = .ok (.aload_n 0, 1) := by decide +kernel
theorem dX4_latest_17 : decode cX4_latest 17 = .ok (.getfield 42, 3) := by decide +kernel
theorem dX4_latest_20 : decode cX4_latest 20 = .ok (.iload_n 3, 1) := by decide +kernel
theorem dX4_latest_21 : decode cX4_latest 21 = .ok (.baload, 1) := by decide +kernel
theorem dX4_latest_22 : decode cX4_latest 22 = .ok (.goto 22, 3) := by decide +kernel
theorem dX4_latest_25 : decode cX4_latest 25 = .ok (.aload_n 0, 1) := by decide +kernel
theorem dX4_latest_26 : decode cX4_latest 26 = .ok (.getfield 39, 3) := by decide +kernel
theorem dX4_latest_29 : decode cX4_latest 29 = .ok (.iload_n 3, 1) := by decide +kernel
theorem dX4_latest_30 : decode cX4_latest 30 = .ok (.iaload, 1) := by decide +kernel
theorem dX4_latest_31 : decode cX4_latest 31 = .ok (.iload_n 2, 1) := by decide +kernel
theorem dX4_latest_32 : decode cX4_latest 32 = .ok (.ishr, 1) := by decide +kernel
theorem dX4_latest_33 : decode cX4_latest 33 = .ok (.iconst 1, 1) := by decide +kernel
theorem dX4_latest_34 : decode cX4_latest 34 = .ok (.iand, 1) := by decide +kernel
theorem dX4_latest_35 : decode cX4_latest 35 = .ok (.iconst 1, 1) := by decide +kernel
theorem dX4_latest_36 : decode cX4_latest 36 = .ok (.if_icmp .ne 7, 3) := by decide +kernel
theorem dX4_latest_39 : decode cX4_latest 39 = .ok (.iconst 1, 1) := by decide +kernel
theorem dX4_latest_40 : decode cX4_latest 40 = .ok (.goto 4, 3) := by decide +kernel
theorem dX4_latest_43 : decode cX4_latest 43 = .ok (.iconst 0, 1) := by decide +kernel
theorem dX4_latest_44 : decode cX4_latest 44 = .ok (.istore 4, 2) := by decide +kernel
theorem dX4_latest_46 : decode cX4_latest 46 = .ok (.aload_n 0, 1) := by decide +kernel
theorem dX4_latest_47 : decode cX4_latest 47 = .ok (.getfield 33, 3) := by decide +kernel
theorem dX4_latest_50 : decode cX4_latest 50 = .ok (.iload_n 3, 1) := by decide +kernel
theorem dX4_latest_51 : decode cX4_latest 51 = .ok (.iaload, 1) := by decide +kernel
theorem dX4_latest_52 : decode cX4_latest 52 = .ok (.iload_n 1, 1) := by decide +kernel
theorem dX4_latest_53 : decode cX4_latest 53 = .ok (.if_icmp .ne 10, 3) := by decide +kernel
theorem dX4_latest_56 : decode cX4_latest 56 = .ok (.iload 4, 2) := by decide +kernel
theorem dX4_latest_58 : decode cX4_latest 58 = .ok (.ifCond .eq 5, 3) := by decide +kernel
theorem dX4_latest_61 : decode cX4_latest 61 = .ok (.iload_n 3, 1) := by decide +kernel
theorem dX4_latest_62 : decode cX4_latest 62 = .ok (.ireturn, 1) := by decide +kernel
theorem dX4_latest_63 : decode cX4_latest 63 = .ok (.iinc 3 (-1), 3) := by decide +kernel
theorem dX4_latest_66 : decode cX4_latest 66 = .ok (.goto (-59), 3) := by decide +kernel
theorem dX4_latest_69 : decode cX4_latest 69 = .ok (.iconst (-1), 1) := by decide +kernel
theorem dX4_latest_70 : decode cX4_latest 70 = .ok (.ireturn, 1) := by decide +kernel
set_option maxRecDepth 20000 in
theorem ggX4_memberOfRow_X4_parityOf : GoodIn wsX4_memberOfRow wsX4_parityOf := goodIn_r _ [5, 6, 11, 12, 13, 14, 15, 16, 17, 18, 19, 20, 21, 22, 23, 24, 25, 26, 27, 28, 29, 30, 31, 32, 33, 34, 35] (by decide +kernel) (by decide +kernel)
set_option maxRecDepth 20000 in
theorem gX4_memberOfRow_X4_parityOf : GoodIn wsX4_memberOfRow (wsV RX4 78 RX4 yX4_parityOf wsX4_parityOf) := goodIn_app (goodIn_of _ (by decide +kernel)) ggX4_memberOfRow_X4_parityOf
set_option maxRecDepth 20000 in
theorem ggX4_memberOfRow_X4_memberOf : GoodIn wsX4_memberOfRow wsX4_memberOf := goodIn_r _ [10, 6, 1, 2, 3, 4, 5, 11, 12, 13, 14, 15, 16, 17, 18, 19, 20, 21, 22, 23, 24, 25, 26, 27, 28, 29, 30, 31, 32, 33, 34, 35] (by decide +kernel) (by decide +kernel)
set_option maxRecDepth 20000 in
theorem gX4_memberOfRow_X4_memberOf : GoodIn wsX4_memberOfRow (wsV RX4 100 RX4 yX4_memberOf wsX4_memberOf) := goodIn_app (goodIn_of _ (by decide +kernel)) ggX4_memberOfRow_X4_memberOf
theorem dX4_memberOfRow_0 : decode cX4_memberOfRow 0 = .ok (.iload_n 2, 1) := by decide +kernel
theorem dX4_memberOfRow_1 : decode cX4_memberOfRow 1 = .ok (.iconst 5, 1) := by decide +kernel
theorem dX4_memberOfRow_2 : decode cX4_memberOfRow 2 = .ok (.if_icmp .ne 11, 3) := by decide +kernel
theorem dX4_memberOfRow_5 : decode cX4_memberOfRow 5 = .ok (.aload_n 0, 1) := by decide +kernel
theorem dX4_memberOfRow_6 : decode cX4_memberOfRow 6 = .ok (.iload_n 1, 1) := by decide +kernel
theorem dX4_memberOfRow_7 : decode cX4_memberOfRow 7 = .ok (.invokevirtual 78, 3) := by decide +kernel
theorem dX4_memberOfRow_10 : decode cX4_memberOfRow 10 = .ok (.goto 9, 3) := by decide +kernel
theorem dX4_memberOfRow_13 : decode cX4_memberOfRow 13 = .ok (.aload_n 0, 1) := by decide +kernel
theorem dX4_memberOfRow_14 : decode cX4_memberOfRow 14 = .ok (.iload_n 1, 1) := by decide +kernel
theorem dX4_memberOfRow_15 : decode cX4_memberOfRow 15 = .ok (.iload_n 2, 1) := by decide +kernel
theorem dX4_memberOfRow_16 : decode cX4_memberOfRow 16 = .ok (.invokevirtual 100, 3) := by decide +kernel
theorem dX4_memberOfRow_19 : decode cX4_memberOfRow 19 = .ok (.ireturn, 1) := by decide +kernel
set_option maxRecDepth 20000 in
theorem ggX4_hasNewest_X4_latest : GoodIn wsX4_hasNewest wsX4_latest := goodIn_r _ [5, 6, 7, 8, 9, 44, 45, 46, 47, 48, 49, 50, 51, 52, 53, 54, 55, 56, 57, 58, 59, 60, 61, 62, 63, 64, 65, 66, 67, 68] (by decide +kernel) (by decide +kernel)
set_option maxRecDepth 20000 in
theorem gX4_hasNewest_X4_latest : GoodIn wsX4_hasNewest (wsV RX4 140 RX4 yX4_latest wsX4_latest) := goodIn_app (goodIn_of _ (by decide +kernel)) ggX4_hasNewest_X4_latest
set_option maxRecDepth 20000 in
theorem ggX4_hasNewest_X4_memberOfRow : GoodIn wsX4_hasNewest wsX4_memberOfRow := goodIn_r _ [13, 14, 15, 16, 4, 17, 18, 19, 20, 21, 22, 44, 45, 46, 47, 48, 49, 50, 51, 52, 53, 54, 55, 56, 57, 58, 59, 60, 61, 62, 63, 64, 65, 66, 67, 68] (by decide +kernel) (by decide +kernel)
set_option maxRecDepth 20000 in
theorem gX4_hasNewest_X4_memberOfRow : GoodIn wsX4_hasNewest (wsV RX4 143 RX4 yX4_memberOfRow wsX4_memberOfRow) := goodIn_app (goodIn_of _ (by decide +kernel)) ggX4_hasNewest_X4_memberOfRow
set_option maxRecDepth 20000 in
theorem ggX4_hasNewest_X4_isThere : GoodIn wsX4_hasNewest wsX4_isThere := goodIn_r _ [26, 27, 28, 29, 30, 31, 4, 32, 33, 34, 35, 36, 37, 38, 39, 40, 41, 42, 43, 44, 45, 46, 47, 48, 49, 50, 51, 52, 53, 54, 55, 56, 57, 58, 59, 60, 61, 62, 63, 64, 65, 66, 67, 68] (by decide +kernel) (by decide +kernel)
set_option maxRecDepth 20000 in
theorem gX4_hasNewest_X4_isThere : GoodIn wsX4_hasNewest (wsV RX4 93 RX4 yX4_isThere wsX4_isThere) := goodIn_app (goodIn_of _ (by decide +kernel)) ggX4_hasNewest_X4_isThere
theorem dX4_hasNewest_0 : decode cX4_hasNewest 0 = .ok (.aload_n 0, 1) := by decide +kernel
theorem dX4_hasNewest_1 : decode cX4_hasNewest 1 = .ok (.iload_n 1, 1) := by decide +kernel
theorem dX4_hasNewest_2 : decode cX4_hasNewest 2 = .ok (.iload_n 2, 1) := by decide +kernel
theorem dX4_hasNewest_3 : decode cX4_hasNewest 3 = .ok (.invokevirtual 140, 3) := by decide +kernel
theorem dX4_hasNewest_6 : decode cX4_hasNewest 6 = .ok (.iconst (-1), 1) := by decide +kernel
theorem dX4_hasNewest_7 : decode cX4_hasNewest 7 = .ok (.if_icmp .ne 17, 3) := by decide +kernel
theorem dX4_hasNewest_10 : decode cX4_hasNewest 10 = .ok (.aload_n 0, 1) := by decide +kernel
theorem dX4_hasNewest_11 : decode cX4_hasNewest 11 = .ok (.aload_n 0, 1) := by decide +kernel
theorem dX4_hasNewest_12 : decode cX4_hasNewest 12 = .ok (.iload_n 1, 1) := by decide +kernel
theorem dX4_hasNewest_13 : decode cX4_hasNewest 13 = .ok (.iload_n 2, 1) := by decide +kernel
theorem dX4_hasNewest_14 : decode cX4_hasNewest 14 = .ok (.invokevirtual 143, 3) := by decide +kernel
theorem dX4_hasNewest_17 : decode cX4_hasNewest 17 = .ok (.iload_n 1, 1) := by decide +kernel
theorem dX4_hasNewest_18 : decode cX4_hasNewest 18 = .ok (.invokevirtual 93, 3) := by decide +kernel
theorem dX4_hasNewest_21 : decode cX4_hasNewest 21 = .ok (.ifCond .eq 7, 3) := by decide +kernel
theorem dX4_hasNewest_24 : decode cX4_hasNewest 24 = .ok (.iconst 1, 1) := by decide +kernel
theorem dX4_hasNewest_25 : decode cX4_hasNewest 25 = .ok (.goto 4, 3) := by decide +kernel
theorem dX4_hasNewest_28 : decode cX4_hasNewest 28 = .ok (.iconst 0, 1) := by decide +kernel
theorem dX4_hasNewest_29 : decode cX4_hasNewest 29 = .ok (.ireturn, 1) := by decide +kernel
set_option maxRecDepth 20000 in
theorem ggX4_newest_X4_latest : GoodIn wsX4_newest wsX4_latest := goodIn_r _ [7, 8, 9, 10, 11, 29, 30, 31, 32, 33, 34, 35, 36, 37, 38, 39, 40, 41, 42, 43, 44, 45, 46, 47, 48, 49, 50, 51, 52, 53] (by decide +kernel) (by decide +kernel)
set_option maxRecDepth 20000 in
theorem gX4_newest_X4_latest : GoodIn wsX4_newest (wsV RX4 140 RX4 yX4_latest wsX4_latest) := goodIn_app (goodIn_of _ (by decide +kernel)) ggX4_newest_X4_latest
set_option maxRecDepth 20000 in
theorem ggX4_newest_X4_memberOfRow : GoodIn wsX4_newest wsX4_memberOfRow := goodIn_r _ [15, 16, 17, 18, 6, 19, 20, 21, 22, 23, 24, 29, 30, 31, 32, 33, 34, 35, 36, 37, 38, 39, 40, 41, 42, 43, 44, 45, 46, 47, 48, 49, 50, 51, 52, 53] (by decide +kernel) (by decide +kernel)
set_option maxRecDepth 20000 in
theorem gX4_newest_X4_memberOfRow : GoodIn wsX4_newest (wsV RX4 143 RX4 yX4_memberOfRow wsX4_memberOfRow) := goodIn_app (goodIn_of _ (by decide +kernel)) ggX4_newest_X4_memberOfRow
set_option maxRecDepth 20000 in
theorem ggX4_newest_X4_at : GoodIn wsX4_newest wsX4_at := goodIn_r _ [28] (by decide +kernel) (by decide +kernel)
set_option maxRecDepth 20000 in
theorem gX4_newest_X4_at : GoodIn wsX4_newest (wsV RX4 82 RX4 yX4_at wsX4_at) := goodIn_app (goodIn_of _ (by decide +kernel)) ggX4_newest_X4_at
theorem dX4_newest_0 : decode cX4_newest 0 = .ok (.aload_n 0, 1) := by decide +kernel
theorem dX4_newest_1 : decode cX4_newest 1 = .ok (.iload_n 1, 1) := by decide +kernel
theorem dX4_newest_2 : decode cX4_newest 2 = .ok (.iload_n 2, 1) := by decide +kernel
theorem dX4_newest_3 : decode cX4_newest 3 = .ok (.invokevirtual 140, 3) := by decide +kernel
theorem dX4_newest_6 : decode cX4_newest 6 = .ok (.istore 4, 2) := by decide +kernel
theorem dX4_newest_8 : decode cX4_newest 8 = .ok (.iload 4, 2) := by decide +kernel
theorem dX4_newest_10 : decode cX4_newest 10 = .ok (.iconst (-1), 1) := by decide +kernel
theorem dX4_newest_11 : decode cX4_newest 11 = .ok (.if_icmp .eq 23, 3) := by decide +kernel
theorem dX4_newest_14 : decode cX4_newest 14 = .ok (.aload_n 0, 1) := by decide +kernel
theorem dX4_newest_15 : decode cX4_newest 15 = .ok (.getfield 48, 3) := by decide +kernel
theorem dX4_newest_18 : decode cX4_newest 18 = .ok (.bipush 8, 2) := by decide +kernel
theorem dX4_newest_20 : decode cX4_newest 20 = .ok (.bipush 6, 2) := by decide +kernel
theorem dX4_newest_22 : decode cX4_newest 22 = .ok (.iload 4, 2) := by decide +kernel
theorem dX4_newest_24 : decode cX4_newest 24 = .ok (.imul, 1) := by decide +kernel
theorem dX4_newest_25 : decode cX4_newest 25 = .ok (.iload_n 2, 1) := by decide +kernel
theorem dX4_newest_26 : decode cX4_newest 26 = .ok (.iadd, 1) := by decide +kernel
theorem dX4_newest_27 : decode cX4_newest 27 = .ok (.imul, 1) := by decide +kernel
theorem dX4_newest_28 : decode cX4_newest 28 = .ok (.iload_n 3, 1) := by decide +kernel
theorem dX4_newest_29 : decode cX4_newest 29 = .ok (.iadd, 1) := by decide +kernel
theorem dX4_newest_30 : decode cX4_newest 30 = .ok (.iaload, 1) := by decide +kernel
theorem dX4_newest_31 : decode cX4_newest 31 = .ok (.goto 24, 3) := by decide +kernel
theorem dX4_newest_34 : decode cX4_newest 34 = .ok (.aload_n 0, 1) := by decide +kernel
theorem dX4_newest_35 : decode cX4_newest 35 = .ok (.getfield 13, 3) := by decide +kernel
theorem dX4_newest_38 : decode cX4_newest 38 = .ok (.bipush 8, 2) := by decide +kernel
theorem dX4_newest_40 : decode cX4_newest 40 = .ok (.aload_n 0, 1) := by decide +kernel
theorem dX4_newest_41 : decode cX4_newest 41 = .ok (.aload_n 0, 1) := by decide +kernel
theorem dX4_newest_42 : decode cX4_newest 42 = .ok (.iload_n 1, 1) := by decide +kernel
theorem dX4_newest_43 : decode cX4_newest 43 = .ok (.iload_n 2, 1) := by decide +kernel
theorem dX4_newest_44 : decode cX4_newest 44 = .ok (.invokevirtual 143, 3) := by decide +kernel
theorem dX4_newest_47 : decode cX4_newest 47 = .ok (.iload_n 1, 1) := by decide +kernel
theorem dX4_newest_48 : decode cX4_newest 48 = .ok (.invokevirtual 82, 3) := by decide +kernel
theorem dX4_newest_51 : decode cX4_newest 51 = .ok (.imul, 1) := by decide +kernel
theorem dX4_newest_52 : decode cX4_newest 52 = .ok (.iload_n 3, 1) := by decide +kernel
theorem dX4_newest_53 : decode cX4_newest 53 = .ok (.iadd, 1) := by decide +kernel
theorem dX4_newest_54 : decode cX4_newest 54 = .ok (.iaload, 1) := by decide +kernel
theorem dX4_newest_55 : decode cX4_newest 55 = .ok (.ireturn, 1) := by decide +kernel
set_option maxRecDepth 20000 in
theorem ggX4_can_X4_hasNewest : GoodIn wsX4_can wsX4_hasNewest := goodIn_r _ [6, 7, 8, 9, 5, 10, 11, 12, 13, 14, 15, 16, 17, 18, 19, 20, 21, 22, 1, 23, 24, 25, 26, 27, 28, 29, 30, 31, 32, 33, 34, 35, 36, 37, 38, 39, 40, 41, 42, 43, 44, 45, 46, 47, 48, 49, 50, 51, 52, 53, 54, 55, 56, 57, 58, 59, 60, 61, 62, 63, 64, 65, 66, 67, 68, 69, 70, 71, 72] (by decide +kernel) (by decide +kernel)
set_option maxRecDepth 20000 in
theorem gX4_can_X4_hasNewest : GoodIn wsX4_can (wsV RX4 146 RX4 yX4_hasNewest wsX4_hasNewest) := goodIn_app (goodIn_of _ (by decide +kernel)) ggX4_can_X4_hasNewest
theorem dX4_can_0 : decode cX4_can 0 = .ok (.iload_n 3, 1) := by decide +kernel
theorem dX4_can_1 : decode cX4_can 1 = .ok (.iconst 3, 1) := by decide +kernel
theorem dX4_can_2 : decode cX4_can 2 = .ok (.if_icmp .eq 12, 3) := by decide +kernel
theorem dX4_can_5 : decode cX4_can 5 = .ok (.aload_n 0, 1) := by decide +kernel
theorem dX4_can_6 : decode cX4_can 6 = .ok (.iload_n 1, 1) := by decide +kernel
theorem dX4_can_7 : decode cX4_can 7 = .ok (.iconst 5, 1) := by decide +kernel
theorem dX4_can_8 : decode cX4_can 8 = .ok (.invokevirtual 146, 3) := by decide +kernel
theorem dX4_can_11 : decode cX4_can 11 = .ok (.ifCond .eq 7, 3) := by decide +kernel
theorem dX4_can_14 : decode cX4_can 14 = .ok (.iconst 1, 1) := by decide +kernel
theorem dX4_can_15 : decode cX4_can 15 = .ok (.goto 4, 3) := by decide +kernel
theorem dX4_can_18 : decode cX4_can 18 = .ok (.iconst 0, 1) := by decide +kernel
theorem dX4_can_19 : decode cX4_can 19 = .ok (.istore 4, 2) := by decide +kernel
theorem dX4_can_21 : decode cX4_can 21 = .ok (.iconst 0, 1) := by decide +kernel
theorem dX4_can_22 : decode cX4_can 22 = .ok (.istore 5, 2) := by decide +kernel
theorem dX4_can_24 : decode cX4_can 24 = .ok (.iload 5, 2) := by decide +kernel
theorem dX4_can_26 : decode cX4_can 26 = .ok (.aload_n 0, 1) := by decide +kernel
theorem dX4_can_27 : decode cX4_can 27 = .ok (.getfield 69, 3) := by decide +kernel
theorem dX4_can_30 : decode cX4_can 30 = .ok (.iconst 1, 1) := by decide +kernel
theorem dX4_can_31 : decode cX4_can 31 = .ok (.isub, 1) := by decide +kernel
theorem dX4_can_32 : decode cX4_can 32 = .ok (.if_icmp .ge 63, 3) := by decide +kernel
theorem dX4_can_35 : decode cX4_can 35 = .ok (.iload_n 2, 1) := by decide +kernel
theorem dX4_can_36 : decode cX4_can 36 = .ok (.iload 5, 2) := by decide +kernel
theorem dX4_can_38 : decode cX4_can 38 = .ok (.ishr, 1) := by decide +kernel
theorem dX4_can_39 : decode cX4_can 39 = .ok (.iconst 1, 1) := by decide +kernel
theorem dX4_can_40 : decode cX4_can 40 = .ok (.iand, 1) := by decide +kernel
theorem dX4_can_41 : decode cX4_can 41 = .ok (.iconst 1, 1) := by decide +kernel
theorem dX4_can_42 : decode cX4_can 42 = .ok (.if_icmp .ne 7, 3) := by decide +kernel
theorem dX4_can_45 : decode cX4_can 45 = .ok (.iconst 1, 1) := by decide +kernel
theorem dX4_can_46 : decode cX4_can 46 = .ok (.goto 4, 3) := by decide +kernel
theorem dX4_can_49 : decode cX4_can 49 = .ok (.iconst 0, 1) := by decide +kernel
theorem dX4_can_50 : decode cX4_can 50 = .ok (.istore 6, 2) := by decide +kernel
theorem dX4_can_52 : decode cX4_can 52 = .ok (.iload 4, 2) := by decide +kernel
theorem dX4_can_54 : decode cX4_can 54 = .ok (.ifCond .eq 32, 3) := by decide +kernel
theorem dX4_can_57 : decode cX4_can 57 = .ok (.iload 6, 2) := by decide +kernel
theorem dX4_can_59 : decode cX4_can 59 = .ok (.iload_n 3, 1) := by decide +kernel
theorem dX4_can_60 : decode cX4_can 60 = .ok (.iconst 2, 1) := by decide +kernel
theorem dX4_can_61 : decode cX4_can 61 = .ok (.if_icmp .ne 7, 3) := by decide +kernel
theorem dX4_can_64 : decode cX4_can 64 = .ok (.iconst 1, 1) := by decide +kernel
theorem dX4_can_65 : decode cX4_can 65 = .ok (.goto 4, 3) := by decide +kernel
theorem dX4_can_68 : decode cX4_can 68 = .ok (.iconst 0, 1) := by decide +kernel
theorem dX4_can_69 : decode cX4_can 69 = .ok (.if_icmp .ne 13, 3) := by decide +kernel
theorem dX4_can_72 : decode cX4_can 72 = .ok (.aload_n 0, 1) := by decide +kernel
theorem dX4_can_73 : decode cX4_can 73 = .ok (.iload_n 1, 1) := by decide +kernel
theorem dX4_can_74 : decode cX4_can 74 = .ok (.iload 5, 2) := by decide +kernel
theorem dX4_can_76 : decode cX4_can 76 = .ok (.invokevirtual 146, 3) := by decide +kernel
theorem dX4_can_79 : decode cX4_can 79 = .ok (.ifCond .eq 7, 3) := by decide +kernel
theorem dX4_can_82 : decode cX4_can 82 = .ok (.iconst 1, 1) := by decide +kernel
theorem dX4_can_83 : decode cX4_can 83 = .ok (.goto 4, 3) := by decide +kernel
theorem dX4_can_86 : decode cX4_can 86 = .ok (.iconst 0, 1) := by decide +kernel
theorem dX4_can_87 : decode cX4_can 87 = .ok (.istore 4, 2) := by decide +kernel
theorem dX4_can_89 : decode cX4_can 89 = .ok (.iinc 5 1, 3) := by decide +kernel
theorem dX4_can_92 : decode cX4_can 92 = .ok (.goto (-68), 3) := by decide +kernel
theorem dX4_can_95 : decode cX4_can 95 = .ok (.iload 4, 2) := by decide +kernel
theorem dX4_can_97 : decode cX4_can 97 = .ok (.ireturn, 1) := by decide +kernel
set_option maxRecDepth 20000 in
theorem ggX4_wayOf_X4_parityOf : GoodIn wsX4_wayOf wsX4_parityOf := goodIn_r _ [6, 1, 52, 53, 54, 55, 56, 57, 58, 59, 60, 61, 62, 63, 64, 65, 66, 67, 68, 69, 70, 71, 72, 73, 74, 75, 76] (by decide +kernel) (by decide +kernel)
set_option maxRecDepth 20000 in
theorem gX4_wayOf_X4_parityOf : GoodIn wsX4_wayOf (wsV RX4 78 RX4 yX4_parityOf wsX4_parityOf) := goodIn_app (goodIn_of _ (by decide +kernel)) ggX4_wayOf_X4_parityOf
set_option maxRecDepth 20000 in
theorem ggX4_wayOf_X4_isOn : GoodIn wsX4_wayOf wsX4_isOn := goodIn_r _ [10, 11, 12, 52, 53, 54, 55, 56, 57, 58, 59, 60, 61, 62, 63, 64, 65, 66, 67, 68, 69, 70, 71, 72, 73, 74, 75, 76] (by decide +kernel) (by decide +kernel)
set_option maxRecDepth 20000 in
theorem gX4_wayOf_X4_isOn : GoodIn wsX4_wayOf (wsV RX4 86 RX4 yX4_isOn wsX4_isOn) := goodIn_app (goodIn_of _ (by decide +kernel)) ggX4_wayOf_X4_isOn
set_option maxRecDepth 20000 in
theorem ggX4_wayOf_X4_can : GoodIn wsX4_wayOf wsX4_can := goodIn_r _ [16, 1, 17, 18, 19, 5, 20, 21, 22, 23, 24, 25, 26, 27, 28, 29, 30, 31, 32, 2, 3, 4, 6, 33, 34, 35, 36, 37, 38, 39, 40, 41, 42, 43, 44, 45, 46, 7, 8, 9, 10, 11, 12, 47, 48, 49, 50, 51, 52, 53, 54, 55, 56, 57, 58, 59, 60, 61, 62, 63, 64, 65, 66, 67, 68, 69, 70, 71, 72, 73, 74, 75, 76] (by decide +kernel) (by decide +kernel)
set_option maxRecDepth 20000 in
theorem gX4_wayOf_X4_can : GoodIn wsX4_wayOf (wsV RX4 149 RX4 yX4_can wsX4_can) := goodIn_app (goodIn_of _ (by decide +kernel)) ggX4_wayOf_X4_can
theorem dX4_wayOf_0 : decode cX4_wayOf 0 = .ok (.iconst 0, 1) := by decide +kernel
theorem dX4_wayOf_1 : decode cX4_wayOf 1 = .ok (.istore_n 3, 1) := by decide +kernel
theorem dX4_wayOf_2 : decode cX4_wayOf 2 = .ok (.iconst 0, 1) := by decide +kernel
theorem dX4_wayOf_3 : decode cX4_wayOf 3 = .ok (.istore 4, 2) := by decide +kernel
theorem dX4_wayOf_5 : decode cX4_wayOf 5 = .ok (.iload 4, 2) := by decide +kernel
theorem dX4_wayOf_7 : decode cX4_wayOf 7 = .ok (.aload_n 0, 1) := by decide +kernel
theorem dX4_wayOf_8 : decode cX4_wayOf 8 = .ok (.getfield 69, 3) := by decide +kernel
theorem dX4_wayOf_11 : decode cX4_wayOf 11 = .ok (.iconst 1, 1) := by decide +kernel
theorem dX4_wayOf_12 : decode cX4_wayOf 12 = .ok (.isub, 1) := by decide +kernel
theorem dX4_wayOf_13 : decode cX4_wayOf 13 = .ok (.if_icmp .ge 18, 3) := by decide +kernel
theorem dX4_wayOf_16 : decode cX4_wayOf 16 = .ok (.iload_n 3, 1) := by decide +kernel
theorem dX4_wayOf_17 : decode cX4_wayOf 17 = .ok (.iload_n 2, 1) := by decide +kernel
theorem dX4_wayOf_18 : decode cX4_wayOf 18 = .ok (.iload 4, 2) := by decide +kernel
theorem dX4_wayOf_20 : decode cX4_wayOf 20 = .ok (.ishr, 1) := by decide +kernel
theorem dX4_wayOf_21 : decode cX4_wayOf 21 = .ok (.iconst 1, 1) := by decide +kernel
theorem dX4_wayOf_22 : decode cX4_wayOf 22 = .ok (.iand, 1) := by decide +kernel
theorem dX4_wayOf_23 : decode cX4_wayOf 23 = .ok (.iadd, 1) := by decide +kernel
theorem dX4_wayOf_24 : decode cX4_wayOf 24 = .ok (.istore_n 3, 1) := by decide +kernel
theorem dX4_wayOf_25 : decode cX4_wayOf 25 = .ok (.iinc 4 1, 3) := by decide +kernel
theorem dX4_wayOf_28 : decode cX4_wayOf 28 = .ok (.goto (-23), 3) := by decide +kernel
theorem dX4_wayOf_31 : decode cX4_wayOf 31 = .ok (.iload_n 3, 1) := by decide +kernel
theorem dX4_wayOf_32 : decode cX4_wayOf 32 = .ok (.aload_n 0, 1) := by decide +kernel
theorem dX4_wayOf_33 : decode cX4_wayOf 33 = .ok (.getfield 69, 3) := by decide +kernel
theorem dX4_wayOf_36 : decode cX4_wayOf 36 = .ok (.iconst 1, 1) := by decide +kernel
theorem dX4_wayOf_37 : decode cX4_wayOf 37 = .ok (.isub, 1) := by decide +kernel
theorem dX4_wayOf_38 : decode cX4_wayOf 38 = .ok (.if_icmp .ne 5, 3) := by decide +kernel
theorem dX4_wayOf_41 : decode cX4_wayOf 41 = .ok (.iconst 0, 1) := by decide +kernel
theorem dX4_wayOf_42 : decode cX4_wayOf 42 = .ok (.ireturn, 1) := by decide +kernel
theorem dX4_wayOf_43 : decode cX4_wayOf 43 = .ok (.aload_n 0, 1) := by decide +kernel
theorem dX4_wayOf_44 : decode cX4_wayOf 44 = .ok (.aload_n 0, 1) := by decide +kernel
theorem dX4_wayOf_45 : decode cX4_wayOf 45 = .ok (.iload_n 1, 1) := by decide +kernel
theorem dX4_wayOf_46 : decode cX4_wayOf 46 = .ok (.invokevirtual 78, 3) := by decide +kernel
theorem dX4_wayOf_49 : decode cX4_wayOf 49 = .ok (.iload_n 1, 1) := by decide +kernel
theorem dX4_wayOf_50 : decode cX4_wayOf 50 = .ok (.invokevirtual 86, 3) := by decide +kernel
theorem dX4_wayOf_53 : decode cX4_wayOf 53 = .ok (.ifCond .ne 5, 3) := by decide +kernel
theorem dX4_wayOf_56 : decode cX4_wayOf 56 = .ok (.iconst 1, 1) := by decide +kernel
theorem dX4_wayOf_57 : decode cX4_wayOf 57 = .ok (.ireturn, 1) := by decide +kernel
theorem dX4_wayOf_58 : decode cX4_wayOf 58 = .ok (.iload_n 3, 1) := by decide +kernel
theorem dX4_wayOf_59 : decode cX4_wayOf 59 = .ok (.iconst 1, 1) := by decide +kernel
theorem dX4_wayOf_60 : decode cX4_wayOf 60 = .ok (.iadd, 1) := by decide +kernel
theorem dX4_wayOf_61 : decode cX4_wayOf 61 = .ok (.aload_n 0, 1) := by decide +kernel
theorem dX4_wayOf_62 : decode cX4_wayOf 62 = .ok (.getfield 69, 3) := by decide +kernel
theorem dX4_wayOf_65 : decode cX4_wayOf 65 = .ok (.iconst 1, 1) := by decide +kernel
theorem dX4_wayOf_66 : decode cX4_wayOf 66 = .ok (.isub, 1) := by decide +kernel
theorem dX4_wayOf_67 : decode cX4_wayOf 67 = .ok (.iload_n 3, 1) := by decide +kernel
theorem dX4_wayOf_68 : decode cX4_wayOf 68 = .ok (.isub, 1) := by decide +kernel
theorem dX4_wayOf_69 : decode cX4_wayOf 69 = .ok (.if_icmp .gt 7, 3) := by decide +kernel
theorem dX4_wayOf_72 : decode cX4_wayOf 72 = .ok (.iconst 2, 1) := by decide +kernel
theorem dX4_wayOf_73 : decode cX4_wayOf 73 = .ok (.goto 4, 3) := by decide +kernel
theorem dX4_wayOf_76 : decode cX4_wayOf 76 = .ok (.iconst 3, 1) := by decide +kernel
theorem dX4_wayOf_77 : decode cX4_wayOf 77 = .ok (.istore 4, 2) := by decide +kernel
theorem dX4_wayOf_79 : decode cX4_wayOf 79 = .ok (.aload_n 0, 1) := by decide +kernel
theorem dX4_wayOf_80 : decode cX4_wayOf 80 = .ok (.iload_n 1, 1) := by decide +kernel
theorem dX4_wayOf_81 : decode cX4_wayOf 81 = .ok (.iload_n 2, 1) := by decide +kernel
theorem dX4_wayOf_82 : decode cX4_wayOf 82 = .ok (.iload 4, 2) := by decide +kernel
theorem dX4_wayOf_84 : decode cX4_wayOf 84 = .ok (.invokevirtual 149, 3) := by decide +kernel
theorem dX4_wayOf_87 : decode cX4_wayOf 87 = .ok (.ifCond .eq 8, 3) := by decide +kernel
theorem dX4_wayOf_90 : decode cX4_wayOf 90 = .ok (.iload 4, 2) := by decide +kernel
theorem dX4_wayOf_92 : decode cX4_wayOf 92 = .ok (.goto 24, 3) := by decide +kernel
theorem dX4_wayOf_95 : decode cX4_wayOf 95 = .ok (.aload_n 0, 1) := by decide +kernel
theorem dX4_wayOf_96 : decode cX4_wayOf 96 = .ok (.iload_n 1, 1) := by decide +kernel
theorem dX4_wayOf_97 : decode cX4_wayOf 97 = .ok (.iload_n 2, 1) := by decide +kernel
theorem dX4_wayOf_98 : decode cX4_wayOf 98 = .ok (.iconst 5, 1) := by decide +kernel
theorem dX4_wayOf_99 : decode cX4_wayOf 99 = .ok (.iload 4, 2) := by decide +kernel
theorem dX4_wayOf_101 : decode cX4_wayOf 101 = .ok (.isub, 1) := by decide +kernel
theorem dX4_wayOf_102 : decode cX4_wayOf 102 = .ok (.invokevirtual 149, 3) := by decide +kernel
theorem dX4_wayOf_105 : decode cX4_wayOf 105 = .ok (.ifCond .eq 10, 3) := by decide +kernel
theorem dX4_wayOf_108 : decode cX4_wayOf 108 = .ok (.iconst 5, 1) := by decide +kernel
theorem dX4_wayOf_109 : decode cX4_wayOf 109 = .ok (.iload 4, 2) := by decide +kernel
theorem dX4_wayOf_111 : decode cX4_wayOf 111 = .ok (.isub, 1) := by decide +kernel
theorem dX4_wayOf_112 : decode cX4_wayOf 112 = .ok (.goto 4, 3) := by decide +kernel
theorem dX4_wayOf_115 : decode cX4_wayOf 115 = .ok (.iconst (-1), 1) := by decide +kernel
theorem dX4_wayOf_116 : decode cX4_wayOf 116 = .ok (.ireturn, 1) := by decide +kernel
set_option maxRecDepth 20000 in
theorem ggX4_reads_X4_latest : GoodIn wsX4_reads wsX4_latest := goodIn_r _ [6, 7, 8, 9, 10, 11, 12, 13, 14, 15, 16, 17, 18, 19, 20, 21, 22, 23, 24, 25, 26, 27, 28, 29, 30, 31, 32, 33, 34, 35] (by decide +kernel) (by decide +kernel)
set_option maxRecDepth 20000 in
theorem gX4_reads_X4_latest : GoodIn wsX4_reads (wsV RX4 140 RX4 yX4_latest wsX4_latest) := goodIn_app (goodIn_of _ (by decide +kernel)) ggX4_reads_X4_latest
theorem dX4_reads_0 : decode cX4_reads 0 = .ok (.iload_n 3, 1) := by decide +kernel
theorem dX4_reads_1 : decode cX4_reads 1 = .ok (.iconst 2, 1) := by decide +kernel
theorem dX4_reads_2 : decode cX4_reads 2 = .ok (.if_icmp .ne 17, 3) := by decide +kernel
theorem dX4_reads_5 : decode cX4_reads 5 = .ok (.aload_n 0, 1) := by decide +kernel
theorem dX4_reads_6 : decode cX4_reads 6 = .ok (.iload_n 1, 1) := by decide +kernel
theorem dX4_reads_7 : decode cX4_reads 7 = .ok (.iconst 5, 1) := by decide +kernel
theorem dX4_reads_8 : decode cX4_reads 8 = .ok (.invokevirtual 140, 3) := by decide +kernel
theorem dX4_reads_11 : decode cX4_reads 11 = .ok (.iconst (-1), 1) := by decide +kernel
theorem dX4_reads_12 : decode cX4_reads 12 = .ok (.if_icmp .ne 7, 3) := by decide +kernel
theorem dX4_reads_15 : decode cX4_reads 15 = .ok (.iconst 1, 1) := by decide +kernel
theorem dX4_reads_16 : decode cX4_reads 16 = .ok (.goto 4, 3) := by decide +kernel
theorem dX4_reads_19 : decode cX4_reads 19 = .ok (.iconst 0, 1) := by decide +kernel
theorem dX4_reads_20 : decode cX4_reads 20 = .ok (.istore 4, 2) := by decide +kernel
theorem dX4_reads_22 : decode cX4_reads 22 = .ok (.iconst 0, 1) := by decide +kernel
theorem dX4_reads_23 : decode cX4_reads 23 = .ok (.istore 5, 2) := by decide +kernel
theorem dX4_reads_25 : decode cX4_reads 25 = .ok (.iload 5, 2) := by decide +kernel
theorem dX4_reads_27 : decode cX4_reads 27 = .ok (.aload_n 0, 1) := by decide +kernel
theorem dX4_reads_28 : decode cX4_reads 28 = .ok (.getfield 69, 3) := by decide +kernel
theorem dX4_reads_31 : decode cX4_reads 31 = .ok (.iconst 1, 1) := by decide +kernel
theorem dX4_reads_32 : decode cX4_reads 32 = .ok (.isub, 1) := by decide +kernel
theorem dX4_reads_33 : decode cX4_reads 33 = .ok (.if_icmp .ge 67, 3) := by decide +kernel
theorem dX4_reads_36 : decode cX4_reads 36 = .ok (.iload_n 3, 1) := by decide +kernel
theorem dX4_reads_37 : decode cX4_reads 37 = .ok (.iconst 1, 1) := by decide +kernel
theorem dX4_reads_38 : decode cX4_reads 38 = .ok (.if_icmp .le 62, 3) := by decide +kernel
theorem dX4_reads_41 : decode cX4_reads 41 = .ok (.iload_n 2, 1) := by decide +kernel
theorem dX4_reads_42 : decode cX4_reads 42 = .ok (.iload 5, 2) := by decide +kernel
theorem dX4_reads_44 : decode cX4_reads 44 = .ok (.ishr, 1) := by decide +kernel
theorem dX4_reads_45 : decode cX4_reads 45 = .ok (.iconst 1, 1) := by decide +kernel
theorem dX4_reads_46 : decode cX4_reads 46 = .ok (.iand, 1) := by decide +kernel
theorem dX4_reads_47 : decode cX4_reads 47 = .ok (.iconst 1, 1) := by decide +kernel
theorem dX4_reads_48 : decode cX4_reads 48 = .ok (.if_icmp .ne 7, 3) := by decide +kernel
theorem dX4_reads_51 : decode cX4_reads 51 = .ok (.iconst 1, 1) := by decide +kernel
theorem dX4_reads_52 : decode cX4_reads 52 = .ok (.goto 4, 3) := by decide +kernel
theorem dX4_reads_55 : decode cX4_reads 55 = .ok (.iconst 0, 1) := by decide +kernel
theorem dX4_reads_56 : decode cX4_reads 56 = .ok (.istore 6, 2) := by decide +kernel
theorem dX4_reads_58 : decode cX4_reads 58 = .ok (.iload 4, 2) := by decide +kernel
theorem dX4_reads_60 : decode cX4_reads 60 = .ok (.iload 6, 2) := by decide +kernel
theorem dX4_reads_62 : decode cX4_reads 62 = .ok (.iload_n 3, 1) := by decide +kernel
theorem dX4_reads_63 : decode cX4_reads 63 = .ok (.iconst 2, 1) := by decide +kernel
theorem dX4_reads_64 : decode cX4_reads 64 = .ok (.if_icmp .ne 7, 3) := by decide +kernel
theorem dX4_reads_67 : decode cX4_reads 67 = .ok (.iconst 1, 1) := by decide +kernel
theorem dX4_reads_68 : decode cX4_reads 68 = .ok (.goto 4, 3) := by decide +kernel
theorem dX4_reads_71 : decode cX4_reads 71 = .ok (.iconst 0, 1) := by decide +kernel
theorem dX4_reads_72 : decode cX4_reads 72 = .ok (.if_icmp .ne 18, 3) := by decide +kernel
theorem dX4_reads_75 : decode cX4_reads 75 = .ok (.aload_n 0, 1) := by decide +kernel
theorem dX4_reads_76 : decode cX4_reads 76 = .ok (.iload_n 1, 1) := by decide +kernel
theorem dX4_reads_77 : decode cX4_reads 77 = .ok (.iload 5, 2) := by decide +kernel
theorem dX4_reads_79 : decode cX4_reads 79 = .ok (.invokevirtual 140, 3) := by decide +kernel
theorem dX4_reads_82 : decode cX4_reads 82 = .ok (.iconst (-1), 1) := by decide +kernel
theorem dX4_reads_83 : decode cX4_reads 83 = .ok (.if_icmp .ne 7, 3) := by decide +kernel
theorem dX4_reads_86 : decode cX4_reads 86 = .ok (.iconst 1, 1) := by decide +kernel
theorem dX4_reads_87 : decode cX4_reads 87 = .ok (.goto 4, 3) := by decide +kernel
theorem dX4_reads_90 : decode cX4_reads 90 = .ok (.iconst 0, 1) := by decide +kernel
theorem dX4_reads_91 : decode cX4_reads 91 = .ok (.iadd, 1) := by decide +kernel
theorem dX4_reads_92 : decode cX4_reads 92 = .ok (.istore 4, 2) := by decide +kernel
theorem dX4_reads_94 : decode cX4_reads 94 = .ok (.iinc 5 1, 3) := by decide +kernel
theorem dX4_reads_97 : decode cX4_reads 97 = .ok (.goto (-72), 3) := by decide +kernel
theorem dX4_reads_100 : decode cX4_reads 100 = .ok (.iload 4, 2) := by decide +kernel
theorem dX4_reads_102 : decode cX4_reads 102 = .ok (.ireturn, 1) := by decide +kernel
set_option maxRecDepth 20000 in
theorem ggX4_stripeIs_X4_wayOf : GoodIn wsX4_stripeIs wsX4_wayOf := goodIn_r _ [16, 2, 17, 18, 19, 15, 20, 21, 22, 23, 24, 25, 26, 27, 28, 29, 30, 31, 32, 33, 34, 35, 36, 37, 38, 5, 9, 8, 4, 39, 40, 41, 42, 43, 44, 45, 46, 47, 48, 49, 50, 51, 52, 53, 54, 55, 56, 57, 58, 59, 60, 61, 110, 111, 112, 113, 114, 115, 116, 117, 118, 119, 120, 121, 122, 123, 124, 125, 126, 127, 128, 129, 130, 131, 132, 133, 134] (by decide +kernel) (by decide +kernel)
set_option maxRecDepth 20000 in
theorem gX4_stripeIs_X4_wayOf : GoodIn wsX4_stripeIs (wsV RX4 153 RX4 yX4_wayOf wsX4_wayOf) := goodIn_app (goodIn_of _ (by decide +kernel)) ggX4_stripeIs_X4_wayOf
set_option maxRecDepth 20000 in
theorem ggX4_stripeIs_X4_reads : GoodIn wsX4_stripeIs wsX4_reads := goodIn_r _ [65, 2, 35, 36, 37, 15, 38, 5, 9, 8, 4, 110, 111, 112, 113, 114, 115, 116, 117, 118, 119, 120, 121, 122, 123, 124, 125, 126, 127, 128, 129, 130, 131, 132, 133, 134] (by decide +kernel) (by decide +kernel)
set_option maxRecDepth 20000 in
theorem gX4_stripeIs_X4_reads : GoodIn wsX4_stripeIs (wsV RX4 156 RX4 yX4_reads wsX4_reads) := goodIn_app (goodIn_of _ (by decide +kernel)) ggX4_stripeIs_X4_reads
set_option maxRecDepth 20000 in
theorem ggX4_stripeIs_X4_newest : GoodIn wsX4_stripeIs wsX4_newest := goodIn_r _ [69, 11, 61, 35, 36, 37, 15, 38, 5, 9, 8, 4, 39, 40, 41, 42, 17, 18, 19, 20, 2, 43, 44, 45, 46, 53, 54, 55, 56, 110, 111, 112, 113, 114, 115, 116, 117, 118, 119, 120, 121, 122, 123, 124, 125, 126, 127, 128, 129, 130, 131, 132, 133, 134] (by decide +kernel) (by decide +kernel)
set_option maxRecDepth 20000 in
theorem gX4_stripeIs_X4_newest : GoodIn wsX4_stripeIs (wsV RX4 160 RX4 yX4_newest wsX4_newest) := goodIn_app (goodIn_of _ (by decide +kernel)) ggX4_stripeIs_X4_newest
set_option maxRecDepth 20000 in
theorem ggX4_stripeIs_X4_free : GoodIn wsX4_stripeIs wsX4_free := goodIn_r _ [73, 5, 74, 75, 76, 15, 77, 9, 2, 8, 110, 111, 112, 113, 114, 115, 116, 117, 118, 119, 120, 121, 122, 123, 124, 125, 126, 127, 128, 129, 130, 131, 132, 133, 134] (by decide +kernel) (by decide +kernel)
set_option maxRecDepth 20000 in
theorem gX4_stripeIs_X4_free : GoodIn wsX4_stripeIs (wsV RX4 163 RX4 yX4_free wsX4_free) := goodIn_app (goodIn_of _ (by decide +kernel)) ggX4_stripeIs_X4_free
set_option maxRecDepth 20000 in
theorem ggX4_stripeIs_X4_drained : GoodIn wsX4_stripeIs wsX4_drained := goodIn_r _ [81, 82, 6, 1, 5, 4, 8, 9, 10, 11, 74, 75, 76, 15, 77, 2, 83, 84, 85, 86, 43, 44, 45, 46, 17, 18, 19, 20, 21, 22, 23, 24, 25, 26, 87, 88, 89, 90, 91, 92, 93, 94, 95, 96, 97, 61, 51, 52, 53, 54, 55, 56, 98, 99, 100, 101, 102, 103, 104, 57, 58, 59, 60, 105, 106, 107, 108, 109, 110, 111, 112, 113, 114, 115, 116, 117, 118, 119, 120, 121, 122, 123, 124, 125, 126, 127, 128, 129, 130, 131, 132, 133, 134] (by decide +kernel) (by decide +kernel)
set_option maxRecDepth 20000 in
theorem gX4_stripeIs_X4_drained : GoodIn wsX4_stripeIs (wsV RX4 167 RX4 yX4_drained wsX4_drained) := goodIn_app (goodIn_of _ (by decide +kernel)) ggX4_stripeIs_X4_drained
set_option maxRecDepth 20000 in
theorem ggX4_stripeIs_X4_goes : GoodIn wsX4_stripeIs wsX4_goes := goodIn_r _ [101, 1, 102, 103, 104, 2, 26, 110, 111, 112, 113, 114, 115, 116, 117, 118, 119, 120, 121, 122, 123, 124, 125, 126, 127, 128, 129, 130, 131, 132, 133, 134] (by decide +kernel) (by decide +kernel)
set_option maxRecDepth 20000 in
theorem gX4_stripeIs_X4_goes : GoodIn wsX4_stripeIs (wsV RX4 110 RX4 yX4_goes wsX4_goes) := goodIn_app (goodIn_of _ (by decide +kernel)) ggX4_stripeIs_X4_goes
theorem dX4_stripeIs_0 : decode cX4_stripeIs 0 = .ok (.aload_n 0, 1) := by decide +kernel
theorem dX4_stripeIs_1 : decode cX4_stripeIs 1 = .ok (.iload_n 1, 1) := by decide +kernel
theorem dX4_stripeIs_2 : decode cX4_stripeIs 2 = .ok (.iload_n 2, 1) := by decide +kernel
theorem dX4_stripeIs_3 : decode cX4_stripeIs 3 = .ok (.invokevirtual 153, 3) := by decide +kernel
theorem dX4_stripeIs_6 : decode cX4_stripeIs 6 = .ok (.istore_n 3, 1) := by decide +kernel
theorem dX4_stripeIs_7 : decode cX4_stripeIs 7 = .ok (.iload_n 3, 1) := by decide +kernel
theorem dX4_stripeIs_8 : decode cX4_stripeIs 8 = .ok (.iconst (-1), 1) := by decide +kernel
theorem dX4_stripeIs_9 : decode cX4_stripeIs 9 = .ok (.if_icmp .ne 6, 3) := by decide +kernel
theorem dX4_stripeIs_12 : decode cX4_stripeIs 12 = .ok (.bipush (-105), 2) := by decide +kernel
theorem dX4_stripeIs_14 : decode cX4_stripeIs 14 = .ok (.ireturn, 1) := by decide +kernel
theorem dX4_stripeIs_15 : decode cX4_stripeIs 15 = .ok (.aload_n 0, 1) := by decide +kernel
theorem dX4_stripeIs_16 : decode cX4_stripeIs 16 = .ok (.getfield 60, 3) := by decide +kernel
theorem dX4_stripeIs_19 : decode cX4_stripeIs 19 = .ok (.iconst 3, 1) := by decide +kernel
theorem dX4_stripeIs_20 : decode cX4_stripeIs 20 = .ok (.dup2, 1) := by decide +kernel
theorem dX4_stripeIs_21 : decode cX4_stripeIs 21 = .ok (.iaload, 1) := by decide +kernel
theorem dX4_stripeIs_22 : decode cX4_stripeIs 22 = .ok (.aload_n 0, 1) := by decide +kernel
theorem dX4_stripeIs_23 : decode cX4_stripeIs 23 = .ok (.iload_n 1, 1) := by decide +kernel
theorem dX4_stripeIs_24 : decode cX4_stripeIs 24 = .ok (.iload_n 2, 1) := by decide +kernel
theorem dX4_stripeIs_25 : decode cX4_stripeIs 25 = .ok (.iload_n 3, 1) := by decide +kernel
theorem dX4_stripeIs_26 : decode cX4_stripeIs 26 = .ok (.invokevirtual 156, 3) := by decide +kernel
theorem dX4_stripeIs_29 : decode cX4_stripeIs 29 = .ok (.iadd, 1) := by decide +kernel
theorem dX4_stripeIs_30 : decode cX4_stripeIs 30 = .ok (.iastore, 1) := by decide +kernel
theorem dX4_stripeIs_31 : decode cX4_stripeIs 31 = .ok (.iload_n 3, 1) := by decide +kernel
theorem dX4_stripeIs_32 : decode cX4_stripeIs 32 = .ok (.iconst 1, 1) := by decide +kernel
theorem dX4_stripeIs_33 : decode cX4_stripeIs 33 = .ok (.if_icmp .eq 7, 3) := by decide +kernel
theorem dX4_stripeIs_36 : decode cX4_stripeIs 36 = .ok (.iconst 1, 1) := by decide +kernel
theorem dX4_stripeIs_37 : decode cX4_stripeIs 37 = .ok (.goto 4, 3) := by decide +kernel
theorem dX4_stripeIs_40 : decode cX4_stripeIs 40 = .ok (.iconst 0, 1) := by decide +kernel
theorem dX4_stripeIs_41 : decode cX4_stripeIs 41 = .ok (.istore 4, 2) := by decide +kernel
theorem dX4_stripeIs_43 : decode cX4_stripeIs 43 = .ok (.iconst 0, 1) := by decide +kernel
theorem dX4_stripeIs_44 : decode cX4_stripeIs 44 = .ok (.istore 5, 2) := by decide +kernel
theorem dX4_stripeIs_46 : decode cX4_stripeIs 46 = .ok (.iload 5, 2) := by decide +kernel
theorem dX4_stripeIs_48 : decode cX4_stripeIs 48 = .ok (.bipush 8, 2) := by decide +kernel
theorem dX4_stripeIs_50 : decode cX4_stripeIs 50 = .ok (.if_icmp .ge 142, 3) := by decide +kernel
theorem dX4_stripeIs_53 : decode cX4_stripeIs 53 = .ok (.iload_n 3, 1) := by decide +kernel
theorem dX4_stripeIs_54 : decode cX4_stripeIs 54 = .ok (.iconst 2, 1) := by decide +kernel
theorem dX4_stripeIs_55 : decode cX4_stripeIs 55 = .ok (.if_icmp .ne 14, 3) := by decide +kernel
theorem dX4_stripeIs_58 : decode cX4_stripeIs 58 = .ok (.aload_n 0, 1) := by decide +kernel
theorem dX4_stripeIs_59 : decode cX4_stripeIs 59 = .ok (.iload_n 1, 1) := by decide +kernel
theorem dX4_stripeIs_60 : decode cX4_stripeIs 60 = .ok (.iconst 5, 1) := by decide +kernel
theorem dX4_stripeIs_61 : decode cX4_stripeIs 61 = .ok (.iload 5, 2) := by decide +kernel
theorem dX4_stripeIs_63 : decode cX4_stripeIs 63 = .ok (.invokevirtual 160, 3) := by decide +kernel
theorem dX4_stripeIs_66 : decode cX4_stripeIs 66 = .ok (.goto 4, 3) := by decide +kernel
theorem dX4_stripeIs_69 : decode cX4_stripeIs 69 = .ok (.iconst 0, 1) := by decide +kernel
theorem dX4_stripeIs_70 : decode cX4_stripeIs 70 = .ok (.istore 6, 2) := by decide +kernel
theorem dX4_stripeIs_72 : decode cX4_stripeIs 72 = .ok (.iconst 0, 1) := by decide +kernel
theorem dX4_stripeIs_73 : decode cX4_stripeIs 73 = .ok (.istore 7, 2) := by decide +kernel
theorem dX4_stripeIs_75 : decode cX4_stripeIs 75 = .ok (.iload 7, 2) := by decide +kernel
theorem dX4_stripeIs_77 : decode cX4_stripeIs 77 = .ok (.aload_n 0, 1) := by decide +kernel
theorem dX4_stripeIs_78 : decode cX4_stripeIs 78 = .ok (.getfield 69, 3) := by decide +kernel
theorem dX4_stripeIs_81 : decode cX4_stripeIs 81 = .ok (.iconst 1, 1) := by decide +kernel
theorem dX4_stripeIs_82 : decode cX4_stripeIs 82 = .ok (.isub, 1) := by decide +kernel
theorem dX4_stripeIs_83 : decode cX4_stripeIs 83 = .ok (.if_icmp .ge 91, 3) := by decide +kernel
theorem dX4_stripeIs_86 : decode cX4_stripeIs 86 = .ok (.iload_n 2, 1) := by decide +kernel
theorem dX4_stripeIs_87 : decode cX4_stripeIs 87 = .ok (.iload 7, 2) := by decide +kernel
theorem dX4_stripeIs_89 : decode cX4_stripeIs 89 = .ok (.ishr, 1) := by decide +kernel
theorem dX4_stripeIs_90 : decode cX4_stripeIs 90 = .ok (.iconst 1, 1) := by decide +kernel
theorem dX4_stripeIs_91 : decode cX4_stripeIs 91 = .ok (.iand, 1) := by decide +kernel
theorem dX4_stripeIs_92 : decode cX4_stripeIs 92 = .ok (.iconst 1, 1) := by decide +kernel
theorem dX4_stripeIs_93 : decode cX4_stripeIs 93 = .ok (.if_icmp .ne 7, 3) := by decide +kernel
theorem dX4_stripeIs_96 : decode cX4_stripeIs 96 = .ok (.iconst 1, 1) := by decide +kernel
theorem dX4_stripeIs_97 : decode cX4_stripeIs 97 = .ok (.goto 4, 3) := by decide +kernel
theorem dX4_stripeIs_100 : decode cX4_stripeIs 100 = .ok (.iconst 0, 1) := by decide +kernel
theorem dX4_stripeIs_101 : decode cX4_stripeIs 101 = .ok (.istore 8, 2) := by decide +kernel
theorem dX4_stripeIs_103 : decode cX4_stripeIs 103 = .ok (.iload 6, 2) := by decide +kernel
theorem dX4_stripeIs_105 : decode cX4_stripeIs 105 = .ok (.iload 8, 2) := by decide +kernel
theorem dX4_stripeIs_107 : decode cX4_stripeIs 107 = .ok (.ifCond .eq 19, 3) := by decide +kernel
theorem dX4_stripeIs_110 : decode cX4_stripeIs 110 = .ok (.aload_n 0, 1) := by decide +kernel
theorem dX4_stripeIs_111 : decode cX4_stripeIs 111 = .ok (.getfield 66, 3) := by decide +kernel
theorem dX4_stripeIs_114 : decode cX4_stripeIs 114 = .ok (.bipush 8, 2) := by decide +kernel
theorem dX4_stripeIs_116 : decode cX4_stripeIs 116 = .ok (.iload 7, 2) := by decide +kernel
theorem dX4_stripeIs_118 : decode cX4_stripeIs 118 = .ok (.imul, 1) := by decide +kernel
theorem dX4_stripeIs_119 : decode cX4_stripeIs 119 = .ok (.iload 5, 2) := by decide +kernel
theorem dX4_stripeIs_121 : decode cX4_stripeIs 121 = .ok (.iadd, 1) := by decide +kernel
theorem dX4_stripeIs_122 : decode cX4_stripeIs 122 = .ok (.iaload, 1) := by decide +kernel
theorem dX4_stripeIs_123 : decode cX4_stripeIs 123 = .ok (.goto 4, 3) := by decide +kernel
theorem dX4_stripeIs_126 : decode cX4_stripeIs 126 = .ok (.iconst 0, 1) := by decide +kernel
theorem dX4_stripeIs_127 : decode cX4_stripeIs 127 = .ok (.ixor, 1) := by decide +kernel
theorem dX4_stripeIs_128 : decode cX4_stripeIs 128 = .ok (.istore 6, 2) := by decide +kernel
theorem dX4_stripeIs_130 : decode cX4_stripeIs 130 = .ok (.iload 6, 2) := by decide +kernel
theorem dX4_stripeIs_132 : decode cX4_stripeIs 132 = .ok (.iload_n 3, 1) := by decide +kernel
theorem dX4_stripeIs_133 : decode cX4_stripeIs 133 = .ok (.iconst 1, 1) := by decide +kernel
theorem dX4_stripeIs_134 : decode cX4_stripeIs 134 = .ok (.if_icmp .le 30, 3) := by decide +kernel
theorem dX4_stripeIs_137 : decode cX4_stripeIs 137 = .ok (.iload 8, 2) := by decide +kernel
theorem dX4_stripeIs_139 : decode cX4_stripeIs 139 = .ok (.iload_n 3, 1) := by decide +kernel
theorem dX4_stripeIs_140 : decode cX4_stripeIs 140 = .ok (.iconst 2, 1) := by decide +kernel
theorem dX4_stripeIs_141 : decode cX4_stripeIs 141 = .ok (.if_icmp .ne 7, 3) := by decide +kernel
theorem dX4_stripeIs_144 : decode cX4_stripeIs 144 = .ok (.iconst 1, 1) := by decide +kernel
theorem dX4_stripeIs_145 : decode cX4_stripeIs 145 = .ok (.goto 4, 3) := by decide +kernel
theorem dX4_stripeIs_148 : decode cX4_stripeIs 148 = .ok (.iconst 0, 1) := by decide +kernel
theorem dX4_stripeIs_149 : decode cX4_stripeIs 149 = .ok (.if_icmp .ne 15, 3) := by decide +kernel
theorem dX4_stripeIs_152 : decode cX4_stripeIs 152 = .ok (.aload_n 0, 1) := by decide +kernel
theorem dX4_stripeIs_153 : decode cX4_stripeIs 153 = .ok (.iload_n 1, 1) := by decide +kernel
theorem dX4_stripeIs_154 : decode cX4_stripeIs 154 = .ok (.iload 7, 2) := by decide +kernel
theorem dX4_stripeIs_156 : decode cX4_stripeIs 156 = .ok (.iload 5, 2) := by decide +kernel
theorem dX4_stripeIs_158 : decode cX4_stripeIs 158 = .ok (.invokevirtual 160, 3) := by decide +kernel
theorem dX4_stripeIs_161 : decode cX4_stripeIs 161 = .ok (.goto 4, 3) := by decide +kernel
theorem dX4_stripeIs_164 : decode cX4_stripeIs 164 = .ok (.iconst 0, 1) := by decide +kernel
theorem dX4_stripeIs_165 : decode cX4_stripeIs 165 = .ok (.ixor, 1) := by decide +kernel
theorem dX4_stripeIs_166 : decode cX4_stripeIs 166 = .ok (.istore 6, 2) := by decide +kernel
theorem dX4_stripeIs_168 : decode cX4_stripeIs 168 = .ok (.iinc 7 1, 3) := by decide +kernel
theorem dX4_stripeIs_171 : decode cX4_stripeIs 171 = .ok (.goto (-96), 3) := by decide +kernel
theorem dX4_stripeIs_174 : decode cX4_stripeIs 174 = .ok (.aload_n 0, 1) := by decide +kernel
theorem dX4_stripeIs_175 : decode cX4_stripeIs 175 = .ok (.getfield 66, 3) := by decide +kernel
theorem dX4_stripeIs_178 : decode cX4_stripeIs 178 = .ok (.bipush 40, 2) := by decide +kernel
theorem dX4_stripeIs_180 : decode cX4_stripeIs 180 = .ok (.iload 5, 2) := by decide +kernel
theorem dX4_stripeIs_182 : decode cX4_stripeIs 182 = .ok (.iadd, 1) := by decide +kernel
theorem dX4_stripeIs_183 : decode cX4_stripeIs 183 = .ok (.iload 6, 2) := by decide +kernel
theorem dX4_stripeIs_185 : decode cX4_stripeIs 185 = .ok (.iastore, 1) := by decide +kernel
theorem dX4_stripeIs_186 : decode cX4_stripeIs 186 = .ok (.iinc 5 1, 3) := by decide +kernel
theorem dX4_stripeIs_189 : decode cX4_stripeIs 189 = .ok (.goto (-143), 3) := by decide +kernel
theorem dX4_stripeIs_192 : decode cX4_stripeIs 192 = .ok (.iload 4, 2) := by decide +kernel
theorem dX4_stripeIs_194 : decode cX4_stripeIs 194 = .ok (.ifCond .eq 7, 3) := by decide +kernel
theorem dX4_stripeIs_197 : decode cX4_stripeIs 197 = .ok (.iconst 3, 1) := by decide +kernel
theorem dX4_stripeIs_198 : decode cX4_stripeIs 198 = .ok (.goto 4, 3) := by decide +kernel
theorem dX4_stripeIs_201 : decode cX4_stripeIs 201 = .ok (.iconst 2, 1) := by decide +kernel
theorem dX4_stripeIs_202 : decode cX4_stripeIs 202 = .ok (.istore 5, 2) := by decide +kernel
theorem dX4_stripeIs_204 : decode cX4_stripeIs 204 = .ok (.iconst 0, 1) := by decide +kernel
theorem dX4_stripeIs_205 : decode cX4_stripeIs 205 = .ok (.istore 6, 2) := by decide +kernel
theorem dX4_stripeIs_207 : decode cX4_stripeIs 207 = .ok (.iload 6, 2) := by decide +kernel
theorem dX4_stripeIs_209 : decode cX4_stripeIs 209 = .ok (.aload_n 0, 1) := by decide +kernel
theorem dX4_stripeIs_210 : decode cX4_stripeIs 210 = .ok (.getfield 69, 3) := by decide +kernel
theorem dX4_stripeIs_213 : decode cX4_stripeIs 213 = .ok (.iconst 1, 1) := by decide +kernel
theorem dX4_stripeIs_214 : decode cX4_stripeIs 214 = .ok (.isub, 1) := by decide +kernel
theorem dX4_stripeIs_215 : decode cX4_stripeIs 215 = .ok (.if_icmp .ge 20, 3) := by decide +kernel
theorem dX4_stripeIs_218 : decode cX4_stripeIs 218 = .ok (.iload 5, 2) := by decide +kernel
theorem dX4_stripeIs_220 : decode cX4_stripeIs 220 = .ok (.iload_n 2, 1) := by decide +kernel
theorem dX4_stripeIs_221 : decode cX4_stripeIs 221 = .ok (.iload 6, 2) := by decide +kernel
theorem dX4_stripeIs_223 : decode cX4_stripeIs 223 = .ok (.ishr, 1) := by decide +kernel
theorem dX4_stripeIs_224 : decode cX4_stripeIs 224 = .ok (.iconst 1, 1) := by decide +kernel
theorem dX4_stripeIs_225 : decode cX4_stripeIs 225 = .ok (.iand, 1) := by decide +kernel
theorem dX4_stripeIs_226 : decode cX4_stripeIs 226 = .ok (.iadd, 1) := by decide +kernel
theorem dX4_stripeIs_227 : decode cX4_stripeIs 227 = .ok (.istore 5, 2) := by decide +kernel
theorem dX4_stripeIs_229 : decode cX4_stripeIs 229 = .ok (.iinc 6 1, 3) := by decide +kernel
theorem dX4_stripeIs_232 : decode cX4_stripeIs 232 = .ok (.goto (-25), 3) := by decide +kernel
theorem dX4_stripeIs_235 : decode cX4_stripeIs 235 = .ok (.aload_n 0, 1) := by decide +kernel
theorem dX4_stripeIs_236 : decode cX4_stripeIs 236 = .ok (.invokevirtual 163, 3) := by decide +kernel
theorem dX4_stripeIs_239 : decode cX4_stripeIs 239 = .ok (.iload 5, 2) := by decide +kernel
theorem dX4_stripeIs_241 : decode cX4_stripeIs 241 = .ok (.if_icmp .ge 13, 3) := by decide +kernel
theorem dX4_stripeIs_244 : decode cX4_stripeIs 244 = .ok (.aload_n 0, 1) := by decide +kernel
theorem dX4_stripeIs_245 : decode cX4_stripeIs 245 = .ok (.invokevirtual 167, 3) := by decide +kernel
theorem dX4_stripeIs_248 : decode cX4_stripeIs 248 = .ok (.ifCond .ne (-13), 3) := by decide +kernel
theorem dX4_stripeIs_251 : decode cX4_stripeIs 251 = .ok (.bipush (-106), 2) := by decide +kernel
theorem dX4_stripeIs_253 : decode cX4_stripeIs 253 = .ok (.ireturn, 1) := by decide +kernel
theorem dX4_stripeIs_254 : decode cX4_stripeIs 254 = .ok (.iconst 0, 1) := by decide +kernel
theorem dX4_stripeIs_255 : decode cX4_stripeIs 255 = .ok (.istore 6, 2) := by decide +kernel
theorem dX4_stripeIs_257 : decode cX4_stripeIs 257 = .ok (.iload 6, 2) := by decide +kernel
theorem dX4_stripeIs_259 : decode cX4_stripeIs 259 = .ok (.iload 5, 2) := by decide +kernel
theorem dX4_stripeIs_261 : decode cX4_stripeIs 261 = .ok (.if_icmp .ge 29, 3) := by decide +kernel
theorem dX4_stripeIs_264 : decode cX4_stripeIs 264 = .ok (.aload_n 0, 1) := by decide +kernel
theorem dX4_stripeIs_265 : decode cX4_stripeIs 265 = .ok (.getfield 60, 3) := by decide +kernel
theorem dX4_stripeIs_268 : decode cX4_stripeIs 268 = .ok (.iconst 1, 1) := by decide +kernel
theorem dX4_stripeIs_269 : decode cX4_stripeIs 269 = .ok (.dup2, 1) := by decide +kernel
theorem dX4_stripeIs_270 : decode cX4_stripeIs 270 = .ok (.iaload, 1) := by decide +kernel
theorem dX4_stripeIs_271 : decode cX4_stripeIs 271 = .ok (.iconst 1, 1) := by decide +kernel
theorem dX4_stripeIs_272 : decode cX4_stripeIs 272 = .ok (.iadd, 1) := by decide +kernel
theorem dX4_stripeIs_273 : decode cX4_stripeIs 273 = .ok (.iastore, 1) := by decide +kernel
theorem dX4_stripeIs_274 : decode cX4_stripeIs 274 = .ok (.aload_n 0, 1) := by decide +kernel
theorem dX4_stripeIs_275 : decode cX4_stripeIs 275 = .ok (.invokevirtual 110, 3) := by decide +kernel
theorem dX4_stripeIs_278 : decode cX4_stripeIs 278 = .ok (.ifCond .eq 6, 3) := by decide +kernel
theorem dX4_stripeIs_281 : decode cX4_stripeIs 281 = .ok (.bipush (-106), 2) := by decide +kernel
theorem dX4_stripeIs_283 : decode cX4_stripeIs 283 = .ok (.ireturn, 1) := by decide +kernel
theorem dX4_stripeIs_284 : decode cX4_stripeIs 284 = .ok (.iinc 6 1, 3) := by decide +kernel
theorem dX4_stripeIs_287 : decode cX4_stripeIs 287 = .ok (.goto (-30), 3) := by decide +kernel
theorem dX4_stripeIs_290 : decode cX4_stripeIs 290 = .ok (.aload_n 0, 1) := by decide +kernel
theorem dX4_stripeIs_291 : decode cX4_stripeIs 291 = .ok (.getfield 33, 3) := by decide +kernel
theorem dX4_stripeIs_294 : decode cX4_stripeIs 294 = .ok (.aload_n 0, 1) := by decide +kernel
theorem dX4_stripeIs_295 : decode cX4_stripeIs 295 = .ok (.getfield 120, 3) := by decide +kernel
theorem dX4_stripeIs_298 : decode cX4_stripeIs 298 = .ok (.iload_n 1, 1) := by decide +kernel
theorem dX4_stripeIs_299 : decode cX4_stripeIs 299 = .ok (.iastore, 1) := by decide +kernel
theorem dX4_stripeIs_300 : decode cX4_stripeIs 300 = .ok (.aload_n 0, 1) := by decide +kernel
theorem dX4_stripeIs_301 : decode cX4_stripeIs 301 = .ok (.getfield 36, 3) := by decide +kernel
theorem dX4_stripeIs_304 : decode cX4_stripeIs 304 = .ok (.aload_n 0, 1) := by decide +kernel
theorem dX4_stripeIs_305 : decode cX4_stripeIs 305 = .ok (.getfield 120, 3) := by decide +kernel
theorem dX4_stripeIs_308 : decode cX4_stripeIs 308 = .ok (.aload_n 0, 1) := by decide +kernel
theorem dX4_stripeIs_309 : decode cX4_stripeIs 309 = .ok (.getfield 54, 3) := by decide +kernel
theorem dX4_stripeIs_312 : decode cX4_stripeIs 312 = .ok (.iastore, 1) := by decide +kernel
theorem dX4_stripeIs_313 : decode cX4_stripeIs 313 = .ok (.aload_n 0, 1) := by decide +kernel
theorem dX4_stripeIs_314 : decode cX4_stripeIs 314 = .ok (.getfield 39, 3) := by decide +kernel
theorem dX4_stripeIs_317 : decode cX4_stripeIs 317 = .ok (.aload_n 0, 1) := by decide +kernel
theorem dX4_stripeIs_318 : decode cX4_stripeIs 318 = .ok (.getfield 120, 3) := by decide +kernel
theorem dX4_stripeIs_321 : decode cX4_stripeIs 321 = .ok (.iload_n 2, 1) := by decide +kernel
theorem dX4_stripeIs_322 : decode cX4_stripeIs 322 = .ok (.iastore, 1) := by decide +kernel
theorem dX4_stripeIs_323 : decode cX4_stripeIs 323 = .ok (.aload_n 0, 1) := by decide +kernel
theorem dX4_stripeIs_324 : decode cX4_stripeIs 324 = .ok (.getfield 42, 3) := by decide +kernel
theorem dX4_stripeIs_327 : decode cX4_stripeIs 327 = .ok (.aload_n 0, 1) := by decide +kernel
theorem dX4_stripeIs_328 : decode cX4_stripeIs 328 = .ok (.getfield 120, 3) := by decide +kernel
theorem dX4_stripeIs_331 : decode cX4_stripeIs 331 = .ok (.iload 4, 2) := by decide +kernel
theorem dX4_stripeIs_333 : decode cX4_stripeIs 333 = .ok (.bastore, 1) := by decide +kernel
theorem dX4_stripeIs_334 : decode cX4_stripeIs 334 = .ok (.aload_n 0, 1) := by decide +kernel
theorem dX4_stripeIs_335 : decode cX4_stripeIs 335 = .ok (.getfield 45, 3) := by decide +kernel
theorem dX4_stripeIs_338 : decode cX4_stripeIs 338 = .ok (.aload_n 0, 1) := by decide +kernel
theorem dX4_stripeIs_339 : decode cX4_stripeIs 339 = .ok (.getfield 120, 3) := by decide +kernel
theorem dX4_stripeIs_342 : decode cX4_stripeIs 342 = .ok (.iload_n 3, 1) := by decide +kernel
theorem dX4_stripeIs_343 : decode cX4_stripeIs 343 = .ok (.iastore, 1) := by decide +kernel
theorem dX4_stripeIs_344 : decode cX4_stripeIs 344 = .ok (.iconst 0, 1) := by decide +kernel
theorem dX4_stripeIs_345 : decode cX4_stripeIs 345 = .ok (.istore 6, 2) := by decide +kernel
theorem dX4_stripeIs_347 : decode cX4_stripeIs 347 = .ok (.iload 6, 2) := by decide +kernel
theorem dX4_stripeIs_349 : decode cX4_stripeIs 349 = .ok (.bipush 48, 2) := by decide +kernel
theorem dX4_stripeIs_351 : decode cX4_stripeIs 351 = .ok (.if_icmp .ge 31, 3) := by decide +kernel
theorem dX4_stripeIs_354 : decode cX4_stripeIs 354 = .ok (.aload_n 0, 1) := by decide +kernel
theorem dX4_stripeIs_355 : decode cX4_stripeIs 355 = .ok (.getfield 48, 3) := by decide +kernel
theorem dX4_stripeIs_358 : decode cX4_stripeIs 358 = .ok (.bipush 48, 2) := by decide +kernel
theorem dX4_stripeIs_360 : decode cX4_stripeIs 360 = .ok (.aload_n 0, 1) := by decide +kernel
theorem dX4_stripeIs_361 : decode cX4_stripeIs 361 = .ok (.getfield 120, 3) := by decide +kernel
theorem dX4_stripeIs_364 : decode cX4_stripeIs 364 = .ok (.imul, 1) := by decide +kernel
theorem dX4_stripeIs_365 : decode cX4_stripeIs 365 = .ok (.iload 6, 2) := by decide +kernel
theorem dX4_stripeIs_367 : decode cX4_stripeIs 367 = .ok (.iadd, 1) := by decide +kernel
theorem dX4_stripeIs_368 : decode cX4_stripeIs 368 = .ok (.aload_n 0, 1) := by decide +kernel
theorem dX4_stripeIs_369 : decode cX4_stripeIs 369 = .ok (.getfield 66, 3) := by decide +kernel
theorem dX4_stripeIs_372 : decode cX4_stripeIs 372 = .ok (.iload 6, 2) := by decide +kernel
theorem dX4_stripeIs_374 : decode cX4_stripeIs 374 = .ok (.iaload, 1) := by decide +kernel
theorem dX4_stripeIs_375 : decode cX4_stripeIs 375 = .ok (.iastore, 1) := by decide +kernel
theorem dX4_stripeIs_376 : decode cX4_stripeIs 376 = .ok (.iinc 6 1, 3) := by decide +kernel
theorem dX4_stripeIs_379 : decode cX4_stripeIs 379 = .ok (.goto (-32), 3) := by decide +kernel
theorem dX4_stripeIs_382 : decode cX4_stripeIs 382 = .ok (.aload_n 0, 1) := by decide +kernel
theorem dX4_stripeIs_383 : decode cX4_stripeIs 383 = .ok (.dup, 1) := by decide +kernel
theorem dX4_stripeIs_384 : decode cX4_stripeIs 384 = .ok (.getfield 120, 3) := by decide +kernel
theorem dX4_stripeIs_387 : decode cX4_stripeIs 387 = .ok (.iconst 1, 1) := by decide +kernel
theorem dX4_stripeIs_388 : decode cX4_stripeIs 388 = .ok (.iadd, 1) := by decide +kernel
theorem dX4_stripeIs_389 : decode cX4_stripeIs 389 = .ok (.putfield 120, 3) := by decide +kernel
theorem dX4_stripeIs_392 : decode cX4_stripeIs 392 = .ok (.aload_n 0, 1) := by decide +kernel
theorem dX4_stripeIs_393 : decode cX4_stripeIs 393 = .ok (.dup, 1) := by decide +kernel
theorem dX4_stripeIs_394 : decode cX4_stripeIs 394 = .ok (.getfield 54, 3) := by decide +kernel
theorem dX4_stripeIs_397 : decode cX4_stripeIs 397 = .ok (.iconst 1, 1) := by decide +kernel
theorem dX4_stripeIs_398 : decode cX4_stripeIs 398 = .ok (.iadd, 1) := by decide +kernel
