set_option maxRecDepth 20000 in
theorem ggX3_init_J9_floorMod_7cf53 : GoodIn wsX3_init wsJ9_floorMod_7cf53 := goodIn_r _ [24] (by decide +kernel) (by decide +kernel)
set_option maxRecDepth 20000 in
theorem gX3_init_J9_floorMod_7cf53 : GoodIn wsX3_init (va_wsS RX3 30 yJ9_floorMod_7cf53 wsJ9_floorMod_7cf53) := goodIn_app (goodIn_of _ (by decide +kernel)) ggX3_init_J9_floorMod_7cf53
set_option maxRecDepth 20000 in
theorem ggX3_init_X0_init : GoodIn wsX3_init wsX0_init := goodIn_r _ [26, 27, 2, 3, 4, 28, 29, 30, 31, 32, 33, 34, 64, 65, 66, 67, 68, 69] (by decide +kernel) (by decide +kernel)
set_option maxRecDepth 20000 in
theorem gX3_init_X0_init_n48 : GoodIn wsX3_init (wsX0_init) := ggX3_init_X0_init
set_option maxRecDepth 20000 in
theorem ggX3_init_X2_init : GoodIn wsX3_init wsX2_init := goodIn_r _ [36, 37, 2, 3, 38, 39, 40, 41, 42, 43, 44, 45, 46, 47, 48, 49, 50, 51, 52, 4, 53, 70, 71, 72, 73, 74, 75, 76, 77, 78, 79] (by decide +kernel) (by decide +kernel)
set_option maxRecDepth 20000 in
theorem gX3_init_X2_init_n51 : GoodIn wsX3_init (wsX2_init) := ggX3_init_X2_init
theorem dX3_init_0 : decode cX3_init 0 = .ok (.aload_n 0, 1) := by decide +kernel
theorem dX3_init_1 : decode cX3_init 1 = .ok (.invokespecial 3, 3) := by decide +kernel
theorem dX3_init_4 : decode cX3_init 4 = .ok (.aload_n 0, 1) := by decide +kernel
theorem dX3_init_5 : decode cX3_init 5 = .ok (.bipush 13, 2) := by decide +kernel
theorem dX3_init_7 : decode cX3_init 7 = .ok (.newarray .int, 2) := by decide +kernel
theorem dX3_init_9 : decode cX3_init 9 = .ok (.putfield 9, 3) := by decide +kernel
theorem dX3_init_12 : decode cX3_init 12 = .ok (.aload_n 0, 1) := by decide +kernel
theorem dX3_init_13 : decode cX3_init 13 = .ok (.bipush 8, 2) := by decide +kernel
theorem dX3_init_15 : decode cX3_init 15 = .ok (.newarray .int, 2) := by decide +kernel
theorem dX3_init_17 : decode cX3_init 17 = .ok (.putfield 13, 3) := by decide +kernel
theorem dX3_init_20 : decode cX3_init 20 = .ok (.aload_n 0, 1) := by decide +kernel
theorem dX3_init_21 : decode cX3_init 21 = .ok (.iconst 0, 1) := by decide +kernel
theorem dX3_init_22 : decode cX3_init 22 = .ok (.putfield 16, 3) := by decide +kernel
theorem dX3_init_25 : decode cX3_init 25 = .ok (.aload_n 0, 1) := by decide +kernel
theorem dX3_init_26 : decode cX3_init 26 = .ok (.iconst (-1), 1) := by decide +kernel
theorem dX3_init_27 : decode cX3_init 27 = .ok (.putfield 20, 3) := by decide +kernel
theorem dX3_init_30 : decode cX3_init 30 = .ok (.aload_n 0, 1) := by decide +kernel
theorem dX3_init_31 : decode cX3_init 31 = .ok (.iconst 0, 1) := by decide +kernel
theorem dX3_init_32 : decode cX3_init 32 = .ok (.putfield 24, 3) := by decide +kernel
theorem dX3_init_35 : decode cX3_init 35 = .ok (.aload_n 0, 1) := by decide +kernel
theorem dX3_init_36 : decode cX3_init 36 = .ok (.iconst 0, 1) := by decide +kernel
theorem dX3_init_37 : decode cX3_init 37 = .ok (.putfield 27, 3) := by decide +kernel
theorem dX3_init_40 : decode cX3_init 40 = .ok (.aload_n 0, 1) := by decide +kernel
theorem dX3_init_41 : decode cX3_init 41 = .ok (.iconst 3, 1) := by decide +kernel
theorem dX3_init_42 : decode cX3_init 42 = .ok (.iload_n 1, 1) := by decide +kernel
theorem dX3_init_43 : decode cX3_init 43 = .ok (.iconst 4, 1) := by decide +kernel
theorem dX3_init_44 : decode cX3_init 44 = .ok (.invokestatic 30, 3) := by decide +kernel
theorem dX3_init_47 : decode cX3_init 47 = .ok (.iadd, 1) := by decide +kernel
theorem dX3_init_48 : decode cX3_init 48 = .ok (.putfield 36, 3) := by decide +kernel
theorem dX3_init_51 : decode cX3_init 51 = .ok (.aload_n 0, 1) := by decide +kernel
theorem dX3_init_52 : decode cX3_init 52 = .ok (.aload_n 0, 1) := by decide +kernel
theorem dX3_init_53 : decode cX3_init 53 = .ok (.getfield 36, 3) := by decide +kernel
theorem dX3_init_56 : decode cX3_init 56 = .ok (.iconst 1, 1) := by decide +kernel
theorem dX3_init_57 : decode cX3_init 57 = .ok (.isub, 1) := by decide +kernel
theorem dX3_init_58 : decode cX3_init 58 = .ok (.putfield 39, 3) := by decide +kernel
theorem dX3_init_61 : decode cX3_init 61 = .ok (.aload_n 0, 1) := by decide +kernel
theorem dX3_init_62 : decode cX3_init 62 = .ok (.aload_n 0, 1) := by decide +kernel
theorem dX3_init_63 : decode cX3_init 63 = .ok (.getfield 36, 3) := by decide +kernel
theorem dX3_init_66 : decode cX3_init 66 = .ok (.anewarray 42, 3) := by decide +kernel
theorem dX3_init_69 : decode cX3_init 69 = .ok (.putfield 44, 3) := by decide +kernel
theorem dX3_init_72 : decode cX3_init 72 = .ok (.iconst 0, 1) := by decide +kernel
theorem dX3_init_73 : decode cX3_init 73 = .ok (.istore_n 2, 1) := by decide +kernel
theorem dX3_init_74 : decode cX3_init 74 = .ok (.iload_n 2, 1) := by decide +kernel
theorem dX3_init_75 : decode cX3_init 75 = .ok (.aload_n 0, 1) := by decide +kernel
theorem dX3_init_76 : decode cX3_init 76 = .ok (.getfield 36, 3) := by decide +kernel
theorem dX3_init_79 : decode cX3_init 79 = .ok (.if_icmp .ge 22, 3) := by decide +kernel
theorem dX3_init_82 : decode cX3_init 82 = .ok (.aload_n 0, 1) := by decide +kernel
theorem dX3_init_83 : decode cX3_init 83 = .ok (.getfield 44, 3) := by decide +kernel
theorem dX3_init_86 : decode cX3_init 86 = .ok (.iload_n 2, 1) := by decide +kernel
theorem dX3_init_87 : decode cX3_init 87 = .ok (.new 42, 3) := by decide +kernel
theorem dX3_init_90 : decode cX3_init 90 = .ok (.dup, 1) := by decide +kernel
theorem dX3_init_91 : decode cX3_init 91 = .ok (.invokespecial 48, 3) := by decide +kernel
theorem dX3_init_94 : decode cX3_init 94 = .ok (.aastore, 1) := by decide +kernel
theorem dX3_init_95 : decode cX3_init 95 = .ok (.iinc 2 1, 3) := by decide +kernel
theorem dX3_init_98 : decode cX3_init 98 = .ok (.goto (-24), 3) := by decide +kernel
theorem dX3_init_101 : decode cX3_init 101 = .ok (.aload_n 0, 1) := by decide +kernel
theorem dX3_init_102 : decode cX3_init 102 = .ok (.new 49, 3) := by decide +kernel
theorem dX3_init_105 : decode cX3_init 105 = .ok (.dup, 1) := by decide +kernel
theorem dX3_init_106 : decode cX3_init 106 = .ok (.aload_n 0, 1) := by decide +kernel
theorem dX3_init_107 : decode cX3_init 107 = .ok (.getfield 36, 3) := by decide +kernel
theorem dX3_init_110 : decode cX3_init 110 = .ok (.invokespecial 51, 3) := by decide +kernel
theorem dX3_init_113 : decode cX3_init 113 = .ok (.putfield 54, 3) := by decide +kernel
theorem dX3_init_116 : decode cX3_init 116 = .ok (.return_, 1) := by decide +kernel
theorem dX3_members_0 : decode cX3_members 0 = .ok (.aload_n 0, 1) := by decide +kernel
theorem dX3_members_1 : decode cX3_members 1 = .ok (.getfield 36, 3) := by decide +kernel
theorem dX3_members_4 : decode cX3_members 4 = .ok (.ireturn, 1) := by decide +kernel
set_option maxRecDepth 20000 in
theorem ggX3_place_X3_isBlock : GoodIn wsX3_place wsX3_isBlock := goodIn_r _ [6, 1, 16, 17, 18, 19, 20, 21, 22, 23, 24, 25] (by decide +kernel) (by decide +kernel)
set_option maxRecDepth 20000 in
theorem gX3_place_X3_isBlock : GoodIn wsX3_place (wsV RX3 58 RX3 yX3_isBlock wsX3_isBlock) := goodIn_app (goodIn_of _ (by decide +kernel)) ggX3_place_X3_isBlock
set_option maxRecDepth 20000 in
theorem ggX3_place_X3_memberOf : GoodIn wsX3_place wsX3_memberOf := goodIn_r _ [10, 11, 12, 13, 14, 5, 15, 16, 17, 18, 19, 20, 21, 22, 23, 24, 25] (by decide +kernel) (by decide +kernel)
set_option maxRecDepth 20000 in
theorem gX3_place_X3_memberOf : GoodIn wsX3_place (wsV RX3 62 RX3 yX3_memberOf wsX3_memberOf) := goodIn_app (goodIn_of _ (by decide +kernel)) ggX3_place_X3_memberOf
set_option maxRecDepth 20000 in
theorem ggX3_place_X3_parityMember : GoodIn wsX3_place wsX3_parityMember := goodIn_r _ [15, 11, 16, 17, 18, 19, 20, 21, 22, 23, 24, 25] (by decide +kernel) (by decide +kernel)
set_option maxRecDepth 20000 in
theorem gX3_place_X3_parityMember : GoodIn wsX3_place (wsV RX3 65 RX3 yX3_parityMember wsX3_parityMember) := goodIn_app (goodIn_of _ (by decide +kernel)) ggX3_place_X3_parityMember
theorem dX3_place_0 : decode cX3_place 0 = .ok (.aload_n 0, 1) := by decide +kernel
theorem dX3_place_1 : decode cX3_place 1 = .ok (.iload_n 1, 1) := by decide +kernel
theorem dX3_place_2 : decode cX3_place 2 = .ok (.invokevirtual 58, 3) := by decide +kernel
theorem dX3_place_5 : decode cX3_place 5 = .ok (.ifCond .ne 6, 3) := by decide +kernel
theorem dX3_place_8 : decode cX3_place 8 = .ok (.bipush (-101), 2) := by decide +kernel
theorem dX3_place_10 : decode cX3_place 10 = .ok (.ireturn, 1) := by decide +kernel
theorem dX3_place_11 : decode cX3_place 11 = .ok (.iload_n 1, 1) := by decide +kernel
theorem dX3_place_12 : decode cX3_place 12 = .ok (.aload_n 0, 1) := by decide +kernel
theorem dX3_place_13 : decode cX3_place 13 = .ok (.getfield 39, 3) := by decide +kernel
theorem dX3_place_16 : decode cX3_place 16 = .ok (.idiv, 1) := by decide +kernel
theorem dX3_place_17 : decode cX3_place 17 = .ok (.istore_n 3, 1) := by decide +kernel
theorem dX3_place_18 : decode cX3_place 18 = .ok (.iload_n 2, 1) := by decide +kernel
theorem dX3_place_19 : decode cX3_place 19 = .ok (.tableswitch 45 0 2 #[25, 27, 39], 25) := by decide +kernel
theorem dX3_place_44 : decode cX3_place 44 = .ok (.iload_n 3, 1) := by decide +kernel
theorem dX3_place_45 : decode cX3_place 45 = .ok (.ireturn, 1) := by decide +kernel
theorem dX3_place_46 : decode cX3_place 46 = .ok (.aload_n 0, 1) := by decide +kernel
theorem dX3_place_47 : decode cX3_place 47 = .ok (.iload_n 3, 1) := by decide +kernel
theorem dX3_place_48 : decode cX3_place 48 = .ok (.iload_n 1, 1) := by decide +kernel
theorem dX3_place_49 : decode cX3_place 49 = .ok (.aload_n 0, 1) := by decide +kernel
theorem dX3_place_50 : decode cX3_place 50 = .ok (.getfield 39, 3) := by decide +kernel
theorem dX3_place_53 : decode cX3_place 53 = .ok (.irem, 1) := by decide +kernel
theorem dX3_place_54 : decode cX3_place 54 = .ok (.invokevirtual 62, 3) := by decide +kernel
theorem dX3_place_57 : decode cX3_place 57 = .ok (.ireturn, 1) := by decide +kernel
theorem dX3_place_58 : decode cX3_place 58 = .ok (.aload_n 0, 1) := by decide +kernel
theorem dX3_place_59 : decode cX3_place 59 = .ok (.iload_n 3, 1) := by decide +kernel
theorem dX3_place_60 : decode cX3_place 60 = .ok (.invokevirtual 65, 3) := by decide +kernel
theorem dX3_place_63 : decode cX3_place 63 = .ok (.ireturn, 1) := by decide +kernel
theorem dX3_place_64 : decode cX3_place 64 = .ok (.bipush (-102), 2) := by decide +kernel
theorem dX3_place_66 : decode cX3_place 66 = .ok (.ireturn, 1) := by decide +kernel
set_option maxRecDepth 20000 in
theorem ggX3_write_X3_isBlock : GoodIn wsX3_write wsX3_isBlock := goodIn_r _ [14, 2, 176, 177, 178, 179, 180, 181, 182, 183, 184, 185] (by decide +kernel) (by decide +kernel)
set_option maxRecDepth 20000 in
theorem gX3_write_X3_isBlock : GoodIn wsX3_write (wsV RX3 58 RX3 yX3_isBlock wsX3_isBlock) := goodIn_app (goodIn_of _ (by decide +kernel)) ggX3_write_X3_isBlock
set_option maxRecDepth 20000 in
theorem ggX3_write_X3_writeStripe : GoodIn wsX3_write wsX3_writeStripe := goodIn_r _ [18, 19, 2, 20, 21, 22, 23, 24, 25, 26, 27, 28, 29, 30, 31, 32, 33, 34, 35, 36, 37, 38, 39, 40, 41, 42, 43, 44, 13, 45, 46, 47, 48, 49, 50, 51, 52, 53, 54, 55, 56, 57, 58, 59, 60, 61, 62, 63, 64, 65, 66, 67, 68, 69, 70, 71, 72, 73, 74, 75, 76, 77, 78, 79, 80, 81, 82, 83, 84, 85, 86, 87, 88, 89, 90, 91, 92, 93, 94, 95, 96, 97, 98, 99, 100, 101, 102, 103, 104, 105, 106, 107, 108, 109, 110, 111, 112, 113, 114, 115, 116, 117, 118, 119, 120, 121, 122, 123, 124, 125, 126, 127, 128, 129, 130, 131, 132, 133, 134, 135, 136, 137, 138, 139, 140, 141, 142, 143, 144, 145, 146, 147, 148, 149, 1, 150, 151, 152, 153, 154, 155, 156, 157, 158, 159, 160, 161, 162, 163, 164, 165, 166, 167, 168, 169, 170, 171, 172, 173, 174, 175, 176, 177, 178, 179, 180, 181, 182, 183, 184, 185, 186, 187, 188, 189, 190, 191, 192, 193, 194, 195, 196, 197, 198, 199, 200, 201] (by decide +kernel) (by decide +kernel)
set_option maxRecDepth 20000 in
theorem gX3_write_X3_writeStripe : GoodIn wsX3_write (wsV RX3 75 RX3 yX3_writeStripe wsX3_writeStripe) := goodIn_app (goodIn_of _ (by decide +kernel)) ggX3_write_X3_writeStripe
theorem dX3_write_0 : decode cX3_write 0 = .ok (.aload_n 0, 1) := by decide +kernel
theorem dX3_write_1 : decode cX3_write 1 = .ok (.getfield 16, 3) := by decide +kernel
theorem dX3_write_4 : decode cX3_write 4 = .ok (.ifCond .eq 6, 3) := by decide +kernel
theorem dX3_write_7 : decode cX3_write 7 = .ok (.bipush (-100), 2) := by decide +kernel
theorem dX3_write_9 : decode cX3_write 9 = .ok (.ireturn, 1) := by decide +kernel
theorem dX3_write_10 : decode cX3_write 10 = .ok (.aload_n 0, 1) := by decide +kernel
theorem dX3_write_11 : decode cX3_write 11 = .ok (.iload_n 1, 1) := by decide +kernel
theorem dX3_write_12 : decode cX3_write 12 = .ok (.invokevirtual 58, 3) := by decide +kernel
theorem dX3_write_15 : decode cX3_write 15 = .ok (.ifCond .ne 6, 3) := by decide +kernel
theorem dX3_write_18 : decode cX3_write 18 = .ok (.bipush (-101), 2) := by decide +kernel
theorem dX3_write_20 : decode cX3_write 20 = .ok (.ireturn, 1) := by decide +kernel
theorem dX3_write_21 : decode cX3_write 21 = .ok (.iload_n 2, 1) := by decide +kernel
theorem dX3_write_22 : decode cX3_write 22 = .ok (.iconst 1, 1) := by decide +kernel
theorem dX3_write_23 : decode cX3_write 23 = .ok (.if_icmp .lt 13, 3) := by decide +kernel
theorem dX3_write_26 : decode cX3_write 26 = .ok (.iload_n 2, 1) := by decide +kernel
theorem dX3_write_27 : decode cX3_write 27 = .ok (.iconst 2, 1) := by decide +kernel
theorem dX3_write_28 : decode cX3_write 28 = .ok (.aload_n 0, 1) := by decide +kernel
theorem dX3_write_29 : decode cX3_write 29 = .ok (.getfield 39, 3) := by decide +kernel
theorem dX3_write_32 : decode cX3_write 32 = .ok (.imul, 1) := by decide +kernel
theorem dX3_write_33 : decode cX3_write 33 = .ok (.if_icmp .le 6, 3) := by decide +kernel
theorem dX3_write_36 : decode cX3_write 36 = .ok (.bipush (-102), 2) := by decide +kernel
theorem dX3_write_38 : decode cX3_write 38 = .ok (.ireturn, 1) := by decide +kernel
theorem dX3_write_39 : decode cX3_write 39 = .ok (.iload_n 1, 1) := by decide +kernel
theorem dX3_write_40 : decode cX3_write 40 = .ok (.iload_n 2, 1) := by decide +kernel
theorem dX3_write_41 : decode cX3_write 41 = .ok (.iadd, 1) := by decide +kernel
theorem dX3_write_42 : decode cX3_write 42 = .ok (.iconst 1, 1) := by decide +kernel
theorem dX3_write_43 : decode cX3_write 43 = .ok (.isub, 1) := by decide +kernel
theorem dX3_write_44 : decode cX3_write 44 = .ok (.istore 4, 2) := by decide +kernel
theorem dX3_write_46 : decode cX3_write 46 = .ok (.aload_n 0, 1) := by decide +kernel
theorem dX3_write_47 : decode cX3_write 47 = .ok (.iload 4, 2) := by decide +kernel
theorem dX3_write_49 : decode cX3_write 49 = .ok (.invokevirtual 58, 3) := by decide +kernel
theorem dX3_write_52 : decode cX3_write 52 = .ok (.ifCond .ne 6, 3) := by decide +kernel
theorem dX3_write_55 : decode cX3_write 55 = .ok (.bipush (-101), 2) := by decide +kernel
theorem dX3_write_57 : decode cX3_write 57 = .ok (.ireturn, 1) := by decide +kernel
theorem dX3_write_58 : decode cX3_write 58 = .ok (.iload_n 1, 1) := by decide +kernel
theorem dX3_write_59 : decode cX3_write 59 = .ok (.aload_n 0, 1) := by decide +kernel
theorem dX3_write_60 : decode cX3_write 60 = .ok (.getfield 39, 3) := by decide +kernel
theorem dX3_write_63 : decode cX3_write 63 = .ok (.idiv, 1) := by decide +kernel
theorem dX3_write_64 : decode cX3_write 64 = .ok (.istore 5, 2) := by decide +kernel
theorem dX3_write_66 : decode cX3_write 66 = .ok (.iload 5, 2) := by decide +kernel
theorem dX3_write_68 : decode cX3_write 68 = .ok (.iload 4, 2) := by decide +kernel
theorem dX3_write_70 : decode cX3_write 70 = .ok (.aload_n 0, 1) := by decide +kernel
theorem dX3_write_71 : decode cX3_write 71 = .ok (.getfield 39, 3) := by decide +kernel
theorem dX3_write_74 : decode cX3_write 74 = .ok (.idiv, 1) := by decide +kernel
theorem dX3_write_75 : decode cX3_write 75 = .ok (.if_icmp .gt 72, 3) := by decide +kernel
theorem dX3_write_78 : decode cX3_write 78 = .ok (.iload_n 1, 1) := by decide +kernel
theorem dX3_write_79 : decode cX3_write 79 = .ok (.iload 5, 2) := by decide +kernel
theorem dX3_write_81 : decode cX3_write 81 = .ok (.aload_n 0, 1) := by decide +kernel
theorem dX3_write_82 : decode cX3_write 82 = .ok (.getfield 39, 3) := by decide +kernel
theorem dX3_write_85 : decode cX3_write 85 = .ok (.imul, 1) := by decide +kernel
theorem dX3_write_86 : decode cX3_write 86 = .ok (.invokestatic 69, 3) := by decide +kernel
theorem dX3_write_89 : decode cX3_write 89 = .ok (.istore 6, 2) := by decide +kernel
theorem dX3_write_91 : decode cX3_write 91 = .ok (.iload 4, 2) := by decide +kernel
theorem dX3_write_93 : decode cX3_write 93 = .ok (.iload 5, 2) := by decide +kernel
theorem dX3_write_95 : decode cX3_write 95 = .ok (.aload_n 0, 1) := by decide +kernel
theorem dX3_write_96 : decode cX3_write 96 = .ok (.getfield 39, 3) := by decide +kernel
theorem dX3_write_99 : decode cX3_write 99 = .ok (.imul, 1) := by decide +kernel
theorem dX3_write_100 : decode cX3_write 100 = .ok (.aload_n 0, 1) := by decide +kernel
theorem dX3_write_101 : decode cX3_write 101 = .ok (.getfield 39, 3) := by decide +kernel
theorem dX3_write_104 : decode cX3_write 104 = .ok (.iadd, 1) := by decide +kernel
theorem dX3_write_105 : decode cX3_write 105 = .ok (.iconst 1, 1) := by decide +kernel
theorem dX3_write_106 : decode cX3_write 106 = .ok (.isub, 1) := by decide +kernel
theorem dX3_write_107 : decode cX3_write 107 = .ok (.invokestatic 72, 3) := by decide +kernel
theorem dX3_write_110 : decode cX3_write 110 = .ok (.istore 7, 2) := by decide +kernel
theorem dX3_write_112 : decode cX3_write 112 = .ok (.aload_n 0, 1) := by decide +kernel
theorem dX3_write_113 : decode cX3_write 113 = .ok (.iload 5, 2) := by decide +kernel
theorem dX3_write_115 : decode cX3_write 115 = .ok (.iload 6, 2) := by decide +kernel
theorem dX3_write_117 : decode cX3_write 117 = .ok (.iload 7, 2) := by decide +kernel
theorem dX3_write_119 : decode cX3_write 119 = .ok (.iload_n 3, 1) := by decide +kernel
theorem dX3_write_120 : decode cX3_write 120 = .ok (.bipush 8, 2) := by decide +kernel
theorem dX3_write_122 : decode cX3_write 122 = .ok (.iload 6, 2) := by decide +kernel
theorem dX3_write_124 : decode cX3_write 124 = .ok (.iload_n 1, 1) := by decide +kernel
theorem dX3_write_125 : decode cX3_write 125 = .ok (.isub, 1) := by decide +kernel
theorem dX3_write_126 : decode cX3_write 126 = .ok (.imul, 1) := by decide +kernel
theorem dX3_write_127 : decode cX3_write 127 = .ok (.iadd, 1) := by decide +kernel
theorem dX3_write_128 : decode cX3_write 128 = .ok (.invokevirtual 75, 3) := by decide +kernel
theorem dX3_write_131 : decode cX3_write 131 = .ok (.istore 8, 2) := by decide +kernel
theorem dX3_write_133 : decode cX3_write 133 = .ok (.iload 8, 2) := by decide +kernel
theorem dX3_write_135 : decode cX3_write 135 = .ok (.ifCond .eq 6, 3) := by decide +kernel
theorem dX3_write_138 : decode cX3_write 138 = .ok (.iload 8, 2) := by decide +kernel
theorem dX3_write_140 : decode cX3_write 140 = .ok (.ireturn, 1) := by decide +kernel
theorem dX3_write_141 : decode cX3_write 141 = .ok (.iinc 5 1, 3) := by decide +kernel
theorem dX3_write_144 : decode cX3_write 144 = .ok (.goto (-78), 3) := by decide +kernel
theorem dX3_write_147 : decode cX3_write 147 = .ok (.iload_n 2, 1) := by decide +kernel
theorem dX3_write_148 : decode cX3_write 148 = .ok (.ireturn, 1) := by decide +kernel
set_option maxRecDepth 20000 in
theorem ggX3_look_X3_isBlock : GoodIn wsX3_look wsX3_isBlock := goodIn_r _ [7, 2, 62, 63, 64, 65, 66, 67, 68, 69, 70, 71] (by decide +kernel) (by decide +kernel)
set_option maxRecDepth 20000 in
theorem gX3_look_X3_isBlock : GoodIn wsX3_look (wsV RX3 58 RX3 yX3_isBlock wsX3_isBlock) := goodIn_app (goodIn_of _ (by decide +kernel)) ggX3_look_X3_isBlock
set_option maxRecDepth 20000 in
theorem ggX3_look_X3_sourceOf : GoodIn wsX3_look wsX3_sourceOf := goodIn_r _ [11, 12, 13, 14, 15, 16, 17, 18, 19, 20, 21, 22, 23, 24, 25, 26, 27, 28, 29, 30, 31, 32, 6, 33, 34, 35, 36, 37, 38, 39, 40, 41, 42, 43, 44, 45, 46, 47, 48, 49, 50, 51, 52, 53, 54, 55, 56, 57, 58, 59, 60, 61, 62, 63, 64, 65, 66, 67, 68, 69, 70, 71, 72, 73, 74, 75, 76, 77, 78, 79, 80, 81, 82, 83, 84, 85, 86, 87] (by decide +kernel) (by decide +kernel)
set_option maxRecDepth 20000 in
theorem gX3_look_X3_sourceOf : GoodIn wsX3_look (wsV RX3 79 RX3 yX3_sourceOf wsX3_sourceOf) := goodIn_app (goodIn_of _ (by decide +kernel)) ggX3_look_X3_sourceOf
theorem dX3_look_0 : decode cX3_look 0 = .ok (.aload_n 0, 1) := by decide +kernel
theorem dX3_look_1 : decode cX3_look 1 = .ok (.getfield 16, 3) := by decide +kernel
theorem dX3_look_4 : decode cX3_look 4 = .ok (.ifCond .eq 6, 3) := by decide +kernel
theorem dX3_look_7 : decode cX3_look 7 = .ok (.bipush (-100), 2) := by decide +kernel
theorem dX3_look_9 : decode cX3_look 9 = .ok (.ireturn, 1) := by decide +kernel
theorem dX3_look_10 : decode cX3_look 10 = .ok (.aload_n 0, 1) := by decide +kernel
theorem dX3_look_11 : decode cX3_look 11 = .ok (.iload_n 1, 1) := by decide +kernel
theorem dX3_look_12 : decode cX3_look 12 = .ok (.invokevirtual 58, 3) := by decide +kernel
theorem dX3_look_15 : decode cX3_look 15 = .ok (.ifCond .ne 6, 3) := by decide +kernel
theorem dX3_look_18 : decode cX3_look 18 = .ok (.bipush (-101), 2) := by decide +kernel
theorem dX3_look_20 : decode cX3_look 20 = .ok (.ireturn, 1) := by decide +kernel
theorem dX3_look_21 : decode cX3_look 21 = .ok (.aload_n 0, 1) := by decide +kernel
theorem dX3_look_22 : decode cX3_look 22 = .ok (.iload_n 1, 1) := by decide +kernel
theorem dX3_look_23 : decode cX3_look 23 = .ok (.aload_n 0, 1) := by decide +kernel
theorem dX3_look_24 : decode cX3_look 24 = .ok (.getfield 39, 3) := by decide +kernel
theorem dX3_look_27 : decode cX3_look 27 = .ok (.idiv, 1) := by decide +kernel
theorem dX3_look_28 : decode cX3_look 28 = .ok (.iload_n 1, 1) := by decide +kernel
theorem dX3_look_29 : decode cX3_look 29 = .ok (.aload_n 0, 1) := by decide +kernel
theorem dX3_look_30 : decode cX3_look 30 = .ok (.getfield 39, 3) := by decide +kernel
theorem dX3_look_33 : decode cX3_look 33 = .ok (.irem, 1) := by decide +kernel
theorem dX3_look_34 : decode cX3_look 34 = .ok (.invokevirtual 79, 3) := by decide +kernel
theorem dX3_look_37 : decode cX3_look 37 = .ok (.ireturn, 1) := by decide +kernel
theorem dX3_word_0 : decode cX3_word 0 = .ok (.aload_n 0, 1) := by decide +kernel
theorem dX3_word_1 : decode cX3_word 1 = .ok (.iload_n 1, 1) := by decide +kernel
theorem dX3_word_2 : decode cX3_word 2 = .ok (.invokevirtual 58, 3) := by decide +kernel
theorem dX3_word_5 : decode cX3_word 5 = .ok (.ifCond .eq 13, 3) := by decide +kernel
theorem dX3_word_8 : decode cX3_word 8 = .ok (.iload_n 2, 1) := by decide +kernel
theorem dX3_word_9 : decode cX3_word 9 = .ok (.ifCond .lt 9, 3) := by decide +kernel
theorem dX3_word_12 : decode cX3_word 12 = .ok (.iload_n 2, 1) := by decide +kernel
theorem dX3_word_13 : decode cX3_word 13 = .ok (.bipush 8, 2) := by decide +kernel
theorem dX3_word_15 : decode cX3_word 15 = .ok (.if_icmp .lt 13, 3) := by decide +kernel
theorem dX3_word_18 : decode cX3_word 18 = .ok (.new 82, 3) := by decide +kernel
theorem dX3_word_21 : decode cX3_word 21 = .ok (.dup, 1) := by decide +kernel
theorem dX3_word_22 : decode cX3_word 22 = .ok (.ldc 84, 2) := by decide +kernel
theorem dX3_word_24 : decode cX3_word 24 = .ok (.invokespecial 86, 3) := by decide +kernel
theorem dX3_word_27 : decode cX3_word 27 = .ok (.athrow, 1) := by decide +kernel
theorem dX3_word_28 : decode cX3_word 28 = .ok (.aload_n 0, 1) := by decide +kernel
theorem dX3_word_29 : decode cX3_word 29 = .ok (.getfield 16, 3) := by decide +kernel
theorem dX3_word_32 : decode cX3_word 32 = .ok (.ifCond .eq 13, 3) := by decide +kernel
theorem dX3_word_35 : decode cX3_word 35 = .ok (.new 89, 3) := by decide +kernel
theorem dX3_word_38 : decode cX3_word 38 = .ok (.dup, 1) := by decide +kernel
theorem dX3_word_39 : decode cX3_word 39 = .ok (.ldc 91, 2) := by decide +kernel
theorem dX3_word_41 : decode cX3_word 41 = .ok (.invokespecial 93, 3) := by decide +kernel
theorem dX3_word_44 : decode cX3_word 44 = .ok (.athrow, 1) := by decide +kernel
theorem dX3_word_45 : decode cX3_word 45 = .ok (.iload_n 1, 1) := by decide +kernel
theorem dX3_word_46 : decode cX3_word 46 = .ok (.aload_n 0, 1) := by decide +kernel
theorem dX3_word_47 : decode cX3_word 47 = .ok (.getfield 39, 3) := by decide +kernel
theorem dX3_word_50 : decode cX3_word 50 = .ok (.idiv, 1) := by decide +kernel
theorem dX3_word_51 : decode cX3_word 51 = .ok (.istore_n 3, 1) := by decide +kernel
theorem dX3_word_52 : decode cX3_word 52 = .ok (.iload_n 1, 1) := by decide +kernel
theorem dX3_word_53 : decode cX3_word 53 = .ok (.aload_n 0, 1) := by decide +kernel
theorem dX3_word_54 : decode cX3_word 54 = .ok (.getfield 39, 3) := by decide +kernel
theorem dX3_word_57 : decode cX3_word 57 = .ok (.irem, 1) := by decide +kernel
theorem dX3_word_58 : decode cX3_word 58 = .ok (.istore 4, 2) := by decide +kernel
theorem dX3_word_60 : decode cX3_word 60 = .ok (.aload_n 0, 1) := by decide +kernel
theorem dX3_word_61 : decode cX3_word 61 = .ok (.iload_n 3, 1) := by decide +kernel
theorem dX3_word_62 : decode cX3_word 62 = .ok (.iload 4, 2) := by decide +kernel
theorem dX3_word_64 : decode cX3_word 64 = .ok (.invokevirtual 79, 3) := by decide +kernel
theorem dX3_word_67 : decode cX3_word 67 = .ok (.istore 5, 2) := by decide +kernel
theorem dX3_word_69 : decode cX3_word 69 = .ok (.iload 5, 2) := by decide +kernel
theorem dX3_word_71 : decode cX3_word 71 = .ok (.iconst 3, 1) := by decide +kernel
theorem dX3_word_72 : decode cX3_word 72 = .ok (.if_icmp .ne 13, 3) := by decide +kernel
theorem dX3_word_75 : decode cX3_word 75 = .ok (.new 89, 3) := by decide +kernel
theorem dX3_word_78 : decode cX3_word 78 = .ok (.dup, 1) := by decide +kernel
theorem dX3_word_79 : decode cX3_word 79 = .ok (.ldc 94, 2) := by decide +kernel
theorem dX3_word_81 : decode cX3_word 81 = .ok (.invokespecial 93, 3) := by decide +kernel
theorem dX3_word_84 : decode cX3_word 84 = .ok (.athrow, 1) := by decide +kernel
theorem dX3_word_85 : decode cX3_word 85 = .ok (.aload_n 0, 1) := by decide +kernel
theorem dX3_word_86 : decode cX3_word 86 = .ok (.invokevirtual 96, 3) := by decide +kernel
theorem dX3_word_89 : decode cX3_word 89 = .ok (.iload 5, 2) := by decide +kernel
theorem dX3_word_91 : decode cX3_word 91 = .ok (.iconst 2, 1) := by decide +kernel
theorem dX3_word_92 : decode cX3_word 92 = .ok (.if_icmp .ne 18, 3) := by decide +kernel
theorem dX3_word_95 : decode cX3_word 95 = .ok (.aload_n 0, 1) := by decide +kernel
theorem dX3_word_96 : decode cX3_word 96 = .ok (.aload_n 0, 1) := by decide +kernel
theorem dX3_word_97 : decode cX3_word 97 = .ok (.iload_n 3, 1) := by decide +kernel
theorem dX3_word_98 : decode cX3_word 98 = .ok (.iload 4, 2) := by decide +kernel
theorem dX3_word_100 : decode cX3_word 100 = .ok (.invokevirtual 62, 3) := by decide +kernel
theorem dX3_word_103 : decode cX3_word 103 = .ok (.iload_n 3, 1) := by decide +kernel
theorem dX3_word_104 : decode cX3_word 104 = .ok (.invokevirtual 99, 3) := by decide +kernel
theorem dX3_word_107 : decode cX3_word 107 = .ok (.goto 11, 3) := by decide +kernel
theorem dX3_word_110 : decode cX3_word 110 = .ok (.aload_n 0, 1) := by decide +kernel
theorem dX3_word_111 : decode cX3_word 111 = .ok (.iload_n 3, 1) := by decide +kernel
theorem dX3_word_112 : decode cX3_word 112 = .ok (.iload 4, 2) := by decide +kernel
theorem dX3_word_114 : decode cX3_word 114 = .ok (.invokevirtual 103, 3) := by decide +kernel
theorem dX3_word_117 : decode cX3_word 117 = .ok (.pop, 1) := by decide +kernel
theorem dX3_word_118 : decode cX3_word 118 = .ok (.aload_n 0, 1) := by decide +kernel
theorem dX3_word_119 : decode cX3_word 119 = .ok (.getfield 13, 3) := by decide +kernel
theorem dX3_word_122 : decode cX3_word 122 = .ok (.iload_n 2, 1) := by decide +kernel
theorem dX3_word_123 : decode cX3_word 123 = .ok (.iaload, 1) := by decide +kernel
theorem dX3_word_124 : decode cX3_word 124 = .ok (.ireturn, 1) := by decide +kernel
set_option maxRecDepth 20000 in
theorem ggX3_drain_X3_drainOldest : GoodIn wsX3_drain wsX3_drainOldest := goodIn_r _ [11, 2, 12, 13, 14, 15, 16, 17, 18, 19, 20, 21, 10, 22, 23, 24, 25, 26, 27, 28, 29, 30, 31, 32, 33, 34, 35, 36, 37, 38, 39, 40, 41, 42, 43, 44, 45, 46, 47, 48, 49, 50, 51, 52, 1, 53, 54, 55, 56, 57, 58, 59, 60, 61, 62, 63, 64, 65, 66, 67, 68, 69, 70, 71, 72, 73, 74, 75, 76, 77, 78, 79, 80, 81, 82, 83, 84, 85, 86, 87, 88, 89, 90, 91, 92, 93, 94, 95, 96, 97, 98, 99, 100, 101, 102, 103, 104, 105, 106, 107, 108, 109, 110, 111, 112, 113, 114, 115] (by decide +kernel) (by decide +kernel)
set_option maxRecDepth 20000 in
theorem gX3_drain_X3_drainOldest : GoodIn wsX3_drain (wsV RX3 110 RX3 yX3_drainOldest wsX3_drainOldest) := goodIn_app (goodIn_of _ (by decide +kernel)) ggX3_drain_X3_drainOldest
theorem dX3_drain_0 : decode cX3_drain 0 = .ok (.aload_n 0, 1) := by decide +kernel
theorem dX3_drain_1 : decode cX3_drain 1 = .ok (.getfield 16, 3) := by decide +kernel
theorem dX3_drain_4 : decode cX3_drain 4 = .ok (.ifCond .eq 6, 3) := by decide +kernel
theorem dX3_drain_7 : decode cX3_drain 7 = .ok (.bipush (-100), 2) := by decide +kernel
theorem dX3_drain_9 : decode cX3_drain 9 = .ok (.ireturn, 1) := by decide +kernel
theorem dX3_drain_10 : decode cX3_drain 10 = .ok (.iload_n 1, 1) := by decide +kernel
theorem dX3_drain_11 : decode cX3_drain 11 = .ok (.iconst 1, 1) := by decide +kernel
theorem dX3_drain_12 : decode cX3_drain 12 = .ok (.if_icmp .lt 9, 3) := by decide +kernel
theorem dX3_drain_15 : decode cX3_drain 15 = .ok (.iload_n 1, 1) := by decide +kernel
theorem dX3_drain_16 : decode cX3_drain 16 = .ok (.bipush 32, 2) := by decide +kernel
theorem dX3_drain_18 : decode cX3_drain 18 = .ok (.if_icmp .le 6, 3) := by decide +kernel
theorem dX3_drain_21 : decode cX3_drain 21 = .ok (.bipush (-102), 2) := by decide +kernel
theorem dX3_drain_23 : decode cX3_drain 23 = .ok (.ireturn, 1) := by decide +kernel
theorem dX3_drain_24 : decode cX3_drain 24 = .ok (.aload_n 0, 1) := by decide +kernel
theorem dX3_drain_25 : decode cX3_drain 25 = .ok (.iload_n 1, 1) := by decide +kernel
theorem dX3_drain_26 : decode cX3_drain 26 = .ok (.aload_n 0, 1) := by decide +kernel
theorem dX3_drain_27 : decode cX3_drain 27 = .ok (.getfield 54, 3) := by decide +kernel
theorem dX3_drain_30 : decode cX3_drain 30 = .ok (.getfield 107, 3) := by decide +kernel
theorem dX3_drain_33 : decode cX3_drain 33 = .ok (.invokestatic 72, 3) := by decide +kernel
theorem dX3_drain_36 : decode cX3_drain 36 = .ok (.invokevirtual 110, 3) := by decide +kernel
theorem dX3_drain_39 : decode cX3_drain 39 = .ok (.ifCond .eq 13, 3) := by decide +kernel
theorem dX3_drain_42 : decode cX3_drain 42 = .ok (.aload_n 0, 1) := by decide +kernel
theorem dX3_drain_43 : decode cX3_drain 43 = .ok (.getfield 54, 3) := by decide +kernel
theorem dX3_drain_46 : decode cX3_drain 46 = .ok (.getfield 107, 3) := by decide +kernel
theorem dX3_drain_49 : decode cX3_drain 49 = .ok (.goto 5, 3) := by decide +kernel
theorem dX3_drain_52 : decode cX3_drain 52 = .ok (.bipush (-106), 2) := by decide +kernel
theorem dX3_drain_54 : decode cX3_drain 54 = .ok (.ireturn, 1) := by decide +kernel
set_option maxRecDepth 20000 in
theorem ggX3_lose_X3_isMember : GoodIn wsX3_lose wsX3_isMember := goodIn_r _ [7, 8, 17, 18, 19, 20, 21, 22, 23, 24, 25, 26] (by decide +kernel) (by decide +kernel)
set_option maxRecDepth 20000 in
theorem gX3_lose_X3_isMember : GoodIn wsX3_lose (wsV RX3 113 RX3 yX3_isMember wsX3_isMember) := goodIn_app (goodIn_of _ (by decide +kernel)) ggX3_lose_X3_isMember
set_option maxRecDepth 20000 in
theorem ggX3_lose_X3_allOn : GoodIn wsX3_lose wsX3_allOn := goodIn_r _ [12, 13, 14, 15, 6, 16, 8, 2, 17, 18, 19, 20, 21, 22, 23, 24, 25, 26, 27, 28, 29, 30, 31, 32] (by decide +kernel) (by decide +kernel)
set_option maxRecDepth 20000 in
theorem gX3_lose_X3_allOn : GoodIn wsX3_lose (wsV RX3 116 RX3 yX3_allOn wsX3_allOn) := goodIn_app (goodIn_of _ (by decide +kernel)) ggX3_lose_X3_allOn
theorem dX3_lose_0 : decode cX3_lose 0 = .ok (.aload_n 0, 1) := by decide +kernel
theorem dX3_lose_1 : decode cX3_lose 1 = .ok (.getfield 16, 3) := by decide +kernel
theorem dX3_lose_4 : decode cX3_lose 4 = .ok (.ifCond .eq 6, 3) := by decide +kernel
theorem dX3_lose_7 : decode cX3_lose 7 = .ok (.bipush (-100), 2) := by decide +kernel
theorem dX3_lose_9 : decode cX3_lose 9 = .ok (.ireturn, 1) := by decide +kernel
theorem dX3_lose_10 : decode cX3_lose 10 = .ok (.aload_n 0, 1) := by decide +kernel
theorem dX3_lose_11 : decode cX3_lose 11 = .ok (.iload_n 1, 1) := by decide +kernel
theorem dX3_lose_12 : decode cX3_lose 12 = .ok (.invokevirtual 113, 3) := by decide +kernel
theorem dX3_lose_15 : decode cX3_lose 15 = .ok (.ifCond .ne 6, 3) := by decide +kernel
theorem dX3_lose_18 : decode cX3_lose 18 = .ok (.bipush (-101), 2) := by decide +kernel
theorem dX3_lose_20 : decode cX3_lose 20 = .ok (.ireturn, 1) := by decide +kernel
theorem dX3_lose_21 : decode cX3_lose 21 = .ok (.aload_n 0, 1) := by decide +kernel
theorem dX3_lose_22 : decode cX3_lose 22 = .ok (.invokevirtual 116, 3) := by decide +kernel
theorem dX3_lose_25 : decode cX3_lose 25 = .ok (.ifCond .ne 6, 3) := by decide +kernel
theorem dX3_lose_28 : decode cX3_lose 28 = .ok (.bipush (-103), 2) := by decide +kernel
theorem dX3_lose_30 : decode cX3_lose 30 = .ok (.ireturn, 1) := by decide +kernel
theorem dX3_lose_31 : decode cX3_lose 31 = .ok (.aload_n 0, 1) := by decide +kernel
theorem dX3_lose_32 : decode cX3_lose 32 = .ok (.getfield 44, 3) := by decide +kernel
theorem dX3_lose_35 : decode cX3_lose 35 = .ok (.iload_n 1, 1) := by decide +kernel
theorem dX3_lose_36 : decode cX3_lose 36 = .ok (.aaload, 1) := by decide +kernel
theorem dX3_lose_37 : decode cX3_lose 37 = .ok (.iconst 1, 1) := by decide +kernel
theorem dX3_lose_38 : decode cX3_lose 38 = .ok (.putfield 120, 3) := by decide +kernel
theorem dX3_lose_41 : decode cX3_lose 41 = .ok (.aload_n 0, 1) := by decide +kernel
theorem dX3_lose_42 : decode cX3_lose 42 = .ok (.getfield 44, 3) := by decide +kernel
theorem dX3_lose_45 : decode cX3_lose 45 = .ok (.iload_n 1, 1) := by decide +kernel
theorem dX3_lose_46 : decode cX3_lose 46 = .ok (.aaload, 1) := by decide +kernel
theorem dX3_lose_47 : decode cX3_lose 47 = .ok (.iconst 0, 1) := by decide +kernel
theorem dX3_lose_48 : decode cX3_lose 48 = .ok (.putfield 123, 3) := by decide +kernel
theorem dX3_lose_51 : decode cX3_lose 51 = .ok (.iconst 1, 1) := by decide +kernel
theorem dX3_lose_52 : decode cX3_lose 52 = .ok (.ireturn, 1) := by decide +kernel
set_option maxRecDepth 20000 in
theorem ggX3_spare_X3_memberThat : GoodIn wsX3_spare wsX3_memberThat := goodIn_r _ [7, 8, 2, 18, 19, 20, 21, 22, 23, 24, 25, 26, 27, 28, 29, 30, 31, 32, 33] (by decide +kernel) (by decide +kernel)
set_option maxRecDepth 20000 in
theorem gX3_spare_X3_memberThat : GoodIn wsX3_spare (wsV RX3 126 RX3 yX3_memberThat wsX3_memberThat) := goodIn_app (goodIn_of _ (by decide +kernel)) ggX3_spare_X3_memberThat
set_option maxRecDepth 20000 in
theorem ggX3_spare_X0_replace : GoodIn wsX3_spare wsX0_replace := goodIn_r _ [12, 13, 14, 15, 16, 17, 28, 29, 30, 31, 32, 33] (by decide +kernel) (by decide +kernel)
set_option maxRecDepth 20000 in
theorem gX3_spare_X0_replace_n129 : GoodIn wsX3_spare (wsX0_replace) := ggX3_spare_X0_replace
theorem dX3_spare_0 : decode cX3_spare 0 = .ok (.aload_n 0, 1) := by decide +kernel
theorem dX3_spare_1 : decode cX3_spare 1 = .ok (.getfield 16, 3) := by decide +kernel
theorem dX3_spare_4 : decode cX3_spare 4 = .ok (.ifCond .eq 6, 3) := by decide +kernel
theorem dX3_spare_7 : decode cX3_spare 7 = .ok (.bipush (-100), 2) := by decide +kernel
theorem dX3_spare_9 : decode cX3_spare 9 = .ok (.ireturn, 1) := by decide +kernel
theorem dX3_spare_10 : decode cX3_spare 10 = .ok (.aload_n 0, 1) := by decide +kernel
theorem dX3_spare_11 : decode cX3_spare 11 = .ok (.iconst 1, 1) := by decide +kernel
theorem dX3_spare_12 : decode cX3_spare 12 = .ok (.invokevirtual 126, 3) := by decide +kernel
theorem dX3_spare_15 : decode cX3_spare 15 = .ok (.istore_n 1, 1) := by decide +kernel
theorem dX3_spare_16 : decode cX3_spare 16 = .ok (.iload_n 1, 1) := by decide +kernel
theorem dX3_spare_17 : decode cX3_spare 17 = .ok (.iconst (-1), 1) := by decide +kernel
theorem dX3_spare_18 : decode cX3_spare 18 = .ok (.if_icmp .ne 6, 3) := by decide +kernel
theorem dX3_spare_21 : decode cX3_spare 21 = .ok (.bipush (-103), 2) := by decide +kernel
theorem dX3_spare_23 : decode cX3_spare 23 = .ok (.ireturn, 1) := by decide +kernel
theorem dX3_spare_24 : decode cX3_spare 24 = .ok (.aload_n 0, 1) := by decide +kernel
theorem dX3_spare_25 : decode cX3_spare 25 = .ok (.getfield 44, 3) := by decide +kernel
theorem dX3_spare_28 : decode cX3_spare 28 = .ok (.iload_n 1, 1) := by decide +kernel
theorem dX3_spare_29 : decode cX3_spare 29 = .ok (.aaload, 1) := by decide +kernel
theorem dX3_spare_30 : decode cX3_spare 30 = .ok (.invokevirtual 129, 3) := by decide +kernel
theorem dX3_spare_33 : decode cX3_spare 33 = .ok (.iload_n 1, 1) := by decide +kernel
theorem dX3_spare_34 : decode cX3_spare 34 = .ok (.ireturn, 1) := by decide +kernel
set_option maxRecDepth 20000 in
theorem ggX3_build_X3_memberThat : GoodIn wsX3_build wsX3_memberThat := goodIn_r _ [7, 8, 2, 127, 128, 129, 130, 131, 132, 133, 134, 135, 136, 137, 138, 139, 140, 141, 142] (by decide +kernel) (by decide +kernel)
set_option maxRecDepth 20000 in
theorem gX3_build_X3_memberThat : GoodIn wsX3_build (wsV RX3 126 RX3 yX3_memberThat wsX3_memberThat) := goodIn_app (goodIn_of _ (by decide +kernel)) ggX3_build_X3_memberThat
set_option maxRecDepth 20000 in
theorem ggX3_build_X3_buildStripe : GoodIn wsX3_build wsX3_buildStripe := goodIn_r _ [12, 13, 2, 14, 15, 16, 17, 18, 19, 20, 21, 22, 23, 24, 25, 26, 27, 28, 29, 6, 30, 31, 32, 33, 34, 8, 35, 36, 37, 38, 39, 40, 41, 42, 43, 44, 45, 46, 47, 48, 49, 50, 51, 52, 53, 54, 55, 56, 57, 58, 59, 60, 61, 62, 1, 63, 64, 65, 66, 67, 68, 69, 70, 71, 72, 73, 74, 75, 76, 77, 78, 79, 80, 81, 82, 83, 84, 85, 86, 87, 88, 89, 90, 91, 92, 93, 94, 95, 96, 97, 98, 99, 100, 101, 102, 103, 104, 105, 106, 107, 108, 109, 110, 111, 112, 113, 114, 115, 116, 117, 118, 119, 120, 121, 122, 123, 124, 125, 126, 127, 128, 129, 130, 131, 132, 133, 134, 135, 136, 137, 138, 139, 140, 141, 142, 143, 144, 145, 146, 147, 148, 149, 150, 151, 152] (by decide +kernel) (by decide +kernel)
set_option maxRecDepth 20000 in
theorem gX3_build_X3_buildStripe : GoodIn wsX3_build (wsV RX3 132 RX3 yX3_buildStripe wsX3_buildStripe) := goodIn_app (goodIn_of _ (by decide +kernel)) ggX3_build_X3_buildStripe
theorem dX3_build_0 : decode cX3_build 0 = .ok (.aload_n 0, 1) := by decide +kernel
theorem dX3_build_1 : decode cX3_build 1 = .ok (.getfield 16, 3) := by decide +kernel
theorem dX3_build_4 : decode cX3_build 4 = .ok (.ifCond .eq 6, 3) := by decide +kernel
theorem dX3_build_7 : decode cX3_build 7 = .ok (.bipush (-100), 2) := by decide +kernel
theorem dX3_build_9 : decode cX3_build 9 = .ok (.ireturn, 1) := by decide +kernel
theorem dX3_build_10 : decode cX3_build 10 = .ok (.iload_n 1, 1) := by decide +kernel
theorem dX3_build_11 : decode cX3_build 11 = .ok (.iconst 1, 1) := by decide +kernel
theorem dX3_build_12 : decode cX3_build 12 = .ok (.if_icmp .lt 9, 3) := by decide +kernel
theorem dX3_build_15 : decode cX3_build 15 = .ok (.iload_n 1, 1) := by decide +kernel
theorem dX3_build_16 : decode cX3_build 16 = .ok (.bipush 24, 2) := by decide +kernel
theorem dX3_build_18 : decode cX3_build 18 = .ok (.if_icmp .le 6, 3) := by decide +kernel
theorem dX3_build_21 : decode cX3_build 21 = .ok (.bipush (-102), 2) := by decide +kernel
theorem dX3_build_23 : decode cX3_build 23 = .ok (.ireturn, 1) := by decide +kernel
theorem dX3_build_24 : decode cX3_build 24 = .ok (.aload_n 0, 1) := by decide +kernel
theorem dX3_build_25 : decode cX3_build 25 = .ok (.iconst 2, 1) := by decide +kernel
theorem dX3_build_26 : decode cX3_build 26 = .ok (.invokevirtual 126, 3) := by decide +kernel
theorem dX3_build_29 : decode cX3_build 29 = .ok (.istore_n 2, 1) := by decide +kernel
theorem dX3_build_30 : decode cX3_build 30 = .ok (.iload_n 2, 1) := by decide +kernel
theorem dX3_build_31 : decode cX3_build 31 = .ok (.iconst (-1), 1) := by decide +kernel
theorem dX3_build_32 : decode cX3_build 32 = .ok (.if_icmp .ne 6, 3) := by decide +kernel
theorem dX3_build_35 : decode cX3_build 35 = .ok (.bipush (-103), 2) := by decide +kernel
theorem dX3_build_37 : decode cX3_build 37 = .ok (.ireturn, 1) := by decide +kernel
theorem dX3_build_38 : decode cX3_build 38 = .ok (.aload_n 0, 1) := by decide +kernel
theorem dX3_build_39 : decode cX3_build 39 = .ok (.getfield 44, 3) := by decide +kernel
theorem dX3_build_42 : decode cX3_build 42 = .ok (.iload_n 2, 1) := by decide +kernel
theorem dX3_build_43 : decode cX3_build 43 = .ok (.aaload, 1) := by decide +kernel
theorem dX3_build_44 : decode cX3_build 44 = .ok (.astore_n 3, 1) := by decide +kernel
theorem dX3_build_45 : decode cX3_build 45 = .ok (.iconst 0, 1) := by decide +kernel
theorem dX3_build_46 : decode cX3_build 46 = .ok (.istore 4, 2) := by decide +kernel
theorem dX3_build_48 : decode cX3_build 48 = .ok (.iload 4, 2) := by decide +kernel
theorem dX3_build_50 : decode cX3_build 50 = .ok (.iload_n 1, 1) := by decide +kernel
theorem dX3_build_51 : decode cX3_build 51 = .ok (.if_icmp .ge 33, 3) := by decide +kernel
theorem dX3_build_54 : decode cX3_build 54 = .ok (.aload_n 3, 1) := by decide +kernel
theorem dX3_build_55 : decode cX3_build 55 = .ok (.getfield 123, 3) := by decide +kernel
theorem dX3_build_58 : decode cX3_build 58 = .ok (.bipush 24, 2) := by decide +kernel
theorem dX3_build_60 : decode cX3_build 60 = .ok (.if_icmp .ge 24, 3) := by decide +kernel
theorem dX3_build_63 : decode cX3_build 63 = .ok (.aload_n 0, 1) := by decide +kernel
theorem dX3_build_64 : decode cX3_build 64 = .ok (.iload_n 2, 1) := by decide +kernel
theorem dX3_build_65 : decode cX3_build 65 = .ok (.aload_n 3, 1) := by decide +kernel
theorem dX3_build_66 : decode cX3_build 66 = .ok (.getfield 123, 3) := by decide +kernel
theorem dX3_build_69 : decode cX3_build 69 = .ok (.invokevirtual 132, 3) := by decide +kernel
theorem dX3_build_72 : decode cX3_build 72 = .ok (.ifCond .ne 6, 3) := by decide +kernel
theorem dX3_build_75 : decode cX3_build 75 = .ok (.bipush (-106), 2) := by decide +kernel
theorem dX3_build_77 : decode cX3_build 77 = .ok (.ireturn, 1) := by decide +kernel
theorem dX3_build_78 : decode cX3_build 78 = .ok (.iinc 4 1, 3) := by decide +kernel
theorem dX3_build_81 : decode cX3_build 81 = .ok (.goto (-33), 3) := by decide +kernel
theorem dX3_build_84 : decode cX3_build 84 = .ok (.bipush 24, 2) := by decide +kernel
theorem dX3_build_86 : decode cX3_build 86 = .ok (.aload_n 3, 1) := by decide +kernel
theorem dX3_build_87 : decode cX3_build 87 = .ok (.getfield 123, 3) := by decide +kernel
theorem dX3_build_90 : decode cX3_build 90 = .ok (.isub, 1) := by decide +kernel
theorem dX3_build_91 : decode cX3_build 91 = .ok (.ireturn, 1) := by decide +kernel
set_option maxRecDepth 20000 in
theorem ggX3_scrub_X3_allOn : GoodIn wsX3_scrub wsX3_allOn := goodIn_r _ [8, 9, 10, 11, 7, 12, 13, 14, 85, 86, 87, 88, 89, 90, 91, 92, 93, 94, 95, 96, 97, 98, 99, 100] (by decide +kernel) (by decide +kernel)
set_option maxRecDepth 20000 in
theorem gX3_scrub_X3_allOn : GoodIn wsX3_scrub (wsV RX3 116 RX3 yX3_allOn wsX3_allOn) := goodIn_app (goodIn_of _ (by decide +kernel)) ggX3_scrub_X3_allOn
set_option maxRecDepth 20000 in
theorem ggX3_scrub_X3_scrubStripe : GoodIn wsX3_scrub wsX3_scrubStripe := goodIn_r _ [18, 2, 13, 19, 20, 21, 7, 22, 14, 23, 24, 25, 26, 27, 28, 29, 30, 31, 32, 33, 34, 35, 36, 37, 38, 39, 40, 41, 42, 43, 44, 45, 46, 47, 48, 49, 50, 51, 52, 53, 54, 55, 56, 57, 58, 59, 60, 61, 62, 63, 64, 65, 66, 67, 68, 69, 70, 71, 72, 73, 74, 75, 76, 1, 3, 77, 78, 79, 80, 81, 82, 83, 84, 85, 86, 87, 88, 89, 90, 91, 92, 93, 94, 95, 96, 97, 98, 99, 100] (by decide +kernel) (by decide +kernel)
set_option maxRecDepth 20000 in
theorem gX3_scrub_X3_scrubStripe : GoodIn wsX3_scrub (wsV RX3 135 RX3 yX3_scrubStripe wsX3_scrubStripe) := goodIn_app (goodIn_of _ (by decide +kernel)) ggX3_scrub_X3_scrubStripe
theorem dX3_scrub_0 : decode cX3_scrub 0 = .ok (.aload_n 0, 1) := by decide +kernel
theorem dX3_scrub_1 : decode cX3_scrub 1 = .ok (.getfield 16, 3) := by decide +kernel
theorem dX3_scrub_4 : decode cX3_scrub 4 = .ok (.ifCond .eq 6, 3) := by decide +kernel
theorem dX3_scrub_7 : decode cX3_scrub 7 = .ok (.bipush (-100), 2) := by decide +kernel
theorem dX3_scrub_9 : decode cX3_scrub 9 = .ok (.ireturn, 1) := by decide +kernel
theorem dX3_scrub_10 : decode cX3_scrub 10 = .ok (.iload_n 1, 1) := by decide +kernel
theorem dX3_scrub_11 : decode cX3_scrub 11 = .ok (.iconst 1, 1) := by decide +kernel
theorem dX3_scrub_12 : decode cX3_scrub 12 = .ok (.if_icmp .lt 9, 3) := by decide +kernel
theorem dX3_scrub_15 : decode cX3_scrub 15 = .ok (.iload_n 1, 1) := by decide +kernel
theorem dX3_scrub_16 : decode cX3_scrub 16 = .ok (.bipush 24, 2) := by decide +kernel
theorem dX3_scrub_18 : decode cX3_scrub 18 = .ok (.if_icmp .le 6, 3) := by decide +kernel
theorem dX3_scrub_21 : decode cX3_scrub 21 = .ok (.bipush (-102), 2) := by decide +kernel
theorem dX3_scrub_23 : decode cX3_scrub 23 = .ok (.ireturn, 1) := by decide +kernel
theorem dX3_scrub_24 : decode cX3_scrub 24 = .ok (.aload_n 0, 1) := by decide +kernel
theorem dX3_scrub_25 : decode cX3_scrub 25 = .ok (.invokevirtual 116, 3) := by decide +kernel
theorem dX3_scrub_28 : decode cX3_scrub 28 = .ok (.ifCond .ne 6, 3) := by decide +kernel
theorem dX3_scrub_31 : decode cX3_scrub 31 = .ok (.bipush (-103), 2) := by decide +kernel
theorem dX3_scrub_33 : decode cX3_scrub 33 = .ok (.ireturn, 1) := by decide +kernel
theorem dX3_scrub_34 : decode cX3_scrub 34 = .ok (.aload_n 0, 1) := by decide +kernel
theorem dX3_scrub_35 : decode cX3_scrub 35 = .ok (.getfield 9, 3) := by decide +kernel
theorem dX3_scrub_38 : decode cX3_scrub 38 = .ok (.bipush 7, 2) := by decide +kernel
theorem dX3_scrub_40 : decode cX3_scrub 40 = .ok (.iaload, 1) := by decide +kernel
theorem dX3_scrub_41 : decode cX3_scrub 41 = .ok (.istore_n 2, 1) := by decide +kernel
theorem dX3_scrub_42 : decode cX3_scrub 42 = .ok (.iconst 0, 1) := by decide +kernel
theorem dX3_scrub_43 : decode cX3_scrub 43 = .ok (.istore_n 3, 1) := by decide +kernel
theorem dX3_scrub_44 : decode cX3_scrub 44 = .ok (.iload_n 3, 1) := by decide +kernel
theorem dX3_scrub_45 : decode cX3_scrub 45 = .ok (.iload_n 1, 1) := by decide +kernel
theorem dX3_scrub_46 : decode cX3_scrub 46 = .ok (.if_icmp .ge 36, 3) := by decide +kernel
theorem dX3_scrub_49 : decode cX3_scrub 49 = .ok (.aload_n 0, 1) := by decide +kernel
theorem dX3_scrub_50 : decode cX3_scrub 50 = .ok (.aload_n 0, 1) := by decide +kernel
theorem dX3_scrub_51 : decode cX3_scrub 51 = .ok (.getfield 27, 3) := by decide +kernel
theorem dX3_scrub_54 : decode cX3_scrub 54 = .ok (.invokevirtual 135, 3) := by decide +kernel
theorem dX3_scrub_57 : decode cX3_scrub 57 = .ok (.ifCond .ne 6, 3) := by decide +kernel
theorem dX3_scrub_60 : decode cX3_scrub 60 = .ok (.bipush (-106), 2) := by decide +kernel
theorem dX3_scrub_62 : decode cX3_scrub 62 = .ok (.ireturn, 1) := by decide +kernel
theorem dX3_scrub_63 : decode cX3_scrub 63 = .ok (.aload_n 0, 1) := by decide +kernel
theorem dX3_scrub_64 : decode cX3_scrub 64 = .ok (.aload_n 0, 1) := by decide +kernel
theorem dX3_scrub_65 : decode cX3_scrub 65 = .ok (.getfield 27, 3) := by decide +kernel
theorem dX3_scrub_68 : decode cX3_scrub 68 = .ok (.iconst 1, 1) := by decide +kernel
theorem dX3_scrub_69 : decode cX3_scrub 69 = .ok (.iadd, 1) := by decide +kernel
theorem dX3_scrub_70 : decode cX3_scrub 70 = .ok (.bipush 24, 2) := by decide +kernel
theorem dX3_scrub_72 : decode cX3_scrub 72 = .ok (.irem, 1) := by decide +kernel
theorem dX3_scrub_73 : decode cX3_scrub 73 = .ok (.putfield 27, 3) := by decide +kernel
theorem dX3_scrub_76 : decode cX3_scrub 76 = .ok (.iinc 3 1, 3) := by decide +kernel
theorem dX3_scrub_79 : decode cX3_scrub 79 = .ok (.goto (-35), 3) := by decide +kernel
theorem dX3_scrub_82 : decode cX3_scrub 82 = .ok (.aload_n 0, 1) := by decide +kernel
theorem dX3_scrub_83 : decode cX3_scrub 83 = .ok (.getfield 9, 3) := by decide +kernel
theorem dX3_scrub_86 : decode cX3_scrub 86 = .ok (.bipush 7, 2) := by decide +kernel
theorem dX3_scrub_88 : decode cX3_scrub 88 = .ok (.iaload, 1) := by decide +kernel
theorem dX3_scrub_89 : decode cX3_scrub 89 = .ok (.iload_n 2, 1) := by decide +kernel
theorem dX3_scrub_90 : decode cX3_scrub 90 = .ok (.isub, 1) := by decide +kernel
theorem dX3_scrub_91 : decode cX3_scrub 91 = .ok (.ireturn, 1) := by decide +kernel
set_option maxRecDepth 20000 in
theorem ggX3_rot_X3_isMember : GoodIn wsX3_rot wsX3_isMember := goodIn_r _ [6, 7, 11, 12, 13, 14, 15, 16, 17, 18, 19, 20] (by decide +kernel) (by decide +kernel)
set_option maxRecDepth 20000 in
theorem gX3_rot_X3_isMember : GoodIn wsX3_rot (wsV RX3 113 RX3 yX3_isMember wsX3_isMember) := goodIn_app (goodIn_of _ (by decide +kernel)) ggX3_rot_X3_isMember
set_option maxRecDepth 20000 in
theorem ggX3_rot_X3_isStripe : GoodIn wsX3_rot wsX3_isStripe := goodIn_r _ [10] (by decide +kernel) (by decide +kernel)
set_option maxRecDepth 20000 in
theorem gX3_rot_X3_isStripe : GoodIn wsX3_rot (va_wsS RX3 138 yX3_isStripe wsX3_isStripe) := goodIn_app (goodIn_of _ (by decide +kernel)) ggX3_rot_X3_isStripe
theorem dX3_rot_0 : decode cX3_rot 0 = .ok (.aload_n 0, 1) := by decide +kernel
theorem dX3_rot_1 : decode cX3_rot 1 = .ok (.iload_n 1, 1) := by decide +kernel
theorem dX3_rot_2 : decode cX3_rot 2 = .ok (.invokevirtual 113, 3) := by decide +kernel
theorem dX3_rot_5 : decode cX3_rot 5 = .ok (.ifCond .eq 20, 3) := by decide +kernel
theorem dX3_rot_8 : decode cX3_rot 8 = .ok (.iload_n 2, 1) := by decide +kernel
theorem dX3_rot_9 : decode cX3_rot 9 = .ok (.invokestatic 138, 3) := by decide +kernel
theorem dX3_rot_12 : decode cX3_rot 12 = .ok (.ifCond .eq 13, 3) := by decide +kernel
theorem dX3_rot_15 : decode cX3_rot 15 = .ok (.iload_n 3, 1) := by decide +kernel
theorem dX3_rot_16 : decode cX3_rot 16 = .ok (.ifCond .lt 9, 3) := by decide +kernel
theorem dX3_rot_19 : decode cX3_rot 19 = .ok (.iload_n 3, 1) := by decide +kernel
theorem dX3_rot_20 : decode cX3_rot 20 = .ok (.bipush 8, 2) := by decide +kernel
theorem dX3_rot_22 : decode cX3_rot 22 = .ok (.if_icmp .lt 6, 3) := by decide +kernel
theorem dX3_rot_25 : decode cX3_rot 25 = .ok (.bipush (-101), 2) := by decide +kernel
theorem dX3_rot_27 : decode cX3_rot 27 = .ok (.ireturn, 1) := by decide +kernel
theorem dX3_rot_28 : decode cX3_rot 28 = .ok (.aload_n 0, 1) := by decide +kernel
theorem dX3_rot_29 : decode cX3_rot 29 = .ok (.getfield 44, 3) := by decide +kernel
theorem dX3_rot_32 : decode cX3_rot 32 = .ok (.iload_n 1, 1) := by decide +kernel
theorem dX3_rot_33 : decode cX3_rot 33 = .ok (.aaload, 1) := by decide +kernel
theorem dX3_rot_34 : decode cX3_rot 34 = .ok (.getfield 141, 3) := by decide +kernel
theorem dX3_rot_37 : decode cX3_rot 37 = .ok (.astore 5, 2) := by decide +kernel
theorem dX3_rot_39 : decode cX3_rot 39 = .ok (.aload 5, 2) := by decide +kernel
theorem dX3_rot_41 : decode cX3_rot 41 = .ok (.iload_n 2, 1) := by decide +kernel
theorem dX3_rot_42 : decode cX3_rot 42 = .ok (.bipush 8, 2) := by decide +kernel
theorem dX3_rot_44 : decode cX3_rot 44 = .ok (.imul, 1) := by decide +kernel
theorem dX3_rot_45 : decode cX3_rot 45 = .ok (.iload_n 3, 1) := by decide +kernel
theorem dX3_rot_46 : decode cX3_rot 46 = .ok (.iadd, 1) := by decide +kernel
theorem dX3_rot_47 : decode cX3_rot 47 = .ok (.dup2, 1) := by decide +kernel
theorem dX3_rot_48 : decode cX3_rot 48 = .ok (.iaload, 1) := by decide +kernel
theorem dX3_rot_49 : decode cX3_rot 49 = .ok (.iload 4, 2) := by decide +kernel
theorem dX3_rot_51 : decode cX3_rot 51 = .ok (.ixor, 1) := by decide +kernel
theorem dX3_rot_52 : decode cX3_rot 52 = .ok (.iastore, 1) := by decide +kernel
theorem dX3_rot_53 : decode cX3_rot 53 = .ok (.aload 5, 2) := by decide +kernel
theorem dX3_rot_55 : decode cX3_rot 55 = .ok (.iload_n 2, 1) := by decide +kernel
theorem dX3_rot_56 : decode cX3_rot 56 = .ok (.bipush 8, 2) := by decide +kernel
theorem dX3_rot_58 : decode cX3_rot 58 = .ok (.imul, 1) := by decide +kernel
theorem dX3_rot_59 : decode cX3_rot 59 = .ok (.iload_n 3, 1) := by decide +kernel
theorem dX3_rot_60 : decode cX3_rot 60 = .ok (.iadd, 1) := by decide +kernel
theorem dX3_rot_61 : decode cX3_rot 61 = .ok (.iaload, 1) := by decide +kernel
theorem dX3_rot_62 : decode cX3_rot 62 = .ok (.ireturn, 1) := by decide +kernel
set_option maxRecDepth 20000 in
theorem ggX3_cut_X3_isCut : GoodIn wsX3_cut wsX3_isCut := goodIn_r _ [7] (by decide +kernel) (by decide +kernel)
set_option maxRecDepth 20000 in
theorem gX3_cut_X3_isCut : GoodIn wsX3_cut (va_wsS RX3 144 yX3_isCut wsX3_isCut) := goodIn_app (goodIn_of _ (by decide +kernel)) ggX3_cut_X3_isCut
theorem dX3_cut_0 : decode cX3_cut 0 = .ok (.aload_n 0, 1) := by decide +kernel
theorem dX3_cut_1 : decode cX3_cut 1 = .ok (.getfield 16, 3) := by decide +kernel
theorem dX3_cut_4 : decode cX3_cut 4 = .ok (.ifCond .eq 6, 3) := by decide +kernel
theorem dX3_cut_7 : decode cX3_cut 7 = .ok (.bipush (-100), 2) := by decide +kernel
theorem dX3_cut_9 : decode cX3_cut 9 = .ok (.ireturn, 1) := by decide +kernel
theorem dX3_cut_10 : decode cX3_cut 10 = .ok (.iload_n 1, 1) := by decide +kernel
theorem dX3_cut_11 : decode cX3_cut 11 = .ok (.invokestatic 144, 3) := by decide +kernel
theorem dX3_cut_14 : decode cX3_cut 14 = .ok (.ifCond .eq 13, 3) := by decide +kernel
theorem dX3_cut_17 : decode cX3_cut 17 = .ok (.iload_n 2, 1) := by decide +kernel
theorem dX3_cut_18 : decode cX3_cut 18 = .ok (.ifCond .lt 9, 3) := by decide +kernel
theorem dX3_cut_21 : decode cX3_cut 21 = .ok (.iload_n 2, 1) := by decide +kernel
theorem dX3_cut_22 : decode cX3_cut 22 = .ok (.bipush 8, 2) := by decide +kernel
theorem dX3_cut_24 : decode cX3_cut 24 = .ok (.if_icmp .le 6, 3) := by decide +kernel
theorem dX3_cut_27 : decode cX3_cut 27 = .ok (.bipush (-102), 2) := by decide +kernel
theorem dX3_cut_29 : decode cX3_cut 29 = .ok (.ireturn, 1) := by decide +kernel
theorem dX3_cut_30 : decode cX3_cut 30 = .ok (.aload_n 0, 1) := by decide +kernel
theorem dX3_cut_31 : decode cX3_cut 31 = .ok (.iload_n 1, 1) := by decide +kernel
theorem dX3_cut_32 : decode cX3_cut 32 = .ok (.putfield 20, 3) := by decide +kernel
theorem dX3_cut_35 : decode cX3_cut 35 = .ok (.aload_n 0, 1) := by decide +kernel
theorem dX3_cut_36 : decode cX3_cut 36 = .ok (.iload_n 2, 1) := by decide +kernel
theorem dX3_cut_37 : decode cX3_cut 37 = .ok (.putfield 24, 3) := by decide +kernel
theorem dX3_cut_40 : decode cX3_cut 40 = .ok (.iconst 1, 1) := by decide +kernel
theorem dX3_cut_41 : decode cX3_cut 41 = .ok (.ireturn, 1) := by decide +kernel
set_option maxRecDepth 20000 in
theorem ggX3_start_X3_isCut : GoodIn wsX3_start wsX3_isCut := goodIn_r _ [7] (by decide +kernel) (by decide +kernel)
set_option maxRecDepth 20000 in
theorem gX3_start_X3_isCut : GoodIn wsX3_start (va_wsS RX3 144 yX3_isCut wsX3_isCut) := goodIn_app (goodIn_of _ (by decide +kernel)) ggX3_start_X3_isCut
set_option maxRecDepth 20000 in
theorem ggX3_start_X3_doAgain : GoodIn wsX3_start wsX3_doAgain := goodIn_r _ [11, 3, 12, 13, 14, 15, 16, 17, 18, 19, 20, 21, 6, 22, 23, 24, 25, 26, 27, 28, 29, 30, 31, 32, 33, 34, 35, 36, 37, 38, 39, 40, 41, 42, 43, 44, 45, 46, 47, 48, 49, 50, 51, 2, 1, 52, 53, 54, 55, 56, 57, 58, 59, 60, 61, 62, 63, 64, 65, 66, 89, 90, 91, 92, 93, 94, 95, 96, 97, 98, 99, 100, 101, 102, 103, 104, 105, 106, 107, 108, 109, 110, 111, 112, 113, 114] (by decide +kernel) (by decide +kernel)
set_option maxRecDepth 20000 in
theorem gX3_start_X3_doAgain : GoodIn wsX3_start (wsV RX3 147 RX3 yX3_doAgain wsX3_doAgain) := goodIn_app (goodIn_of _ (by decide +kernel)) ggX3_start_X3_doAgain
set_option maxRecDepth 20000 in
theorem ggX3_start_X3_putMark : GoodIn wsX3_start wsX3_putMark := goodIn_r _ [70, 12, 3, 48, 49, 50, 6, 51, 2, 1, 52, 23, 24, 53, 39, 54, 55, 56, 42, 71, 14, 72, 73, 74, 75, 76, 77, 18, 78, 13, 15, 16, 17, 79, 34, 80, 81, 37, 82, 83, 84, 85, 86, 87, 88, 89, 90, 91, 92, 93, 94, 95, 96, 97, 98, 109, 110, 111, 112, 113, 114, 99, 100, 101, 102, 103, 104, 105, 106, 107, 108] (by decide +kernel) (by decide +kernel)
set_option maxRecDepth 20000 in
theorem gX3_start_X3_putMark : GoodIn wsX3_start (wsV RX3 150 RX3 yX3_putMark wsX3_putMark) := goodIn_app (goodIn_of _ (by decide +kernel)) ggX3_start_X3_putMark
theorem dX3_start_0 : decode cX3_start 0 = .ok (.aload_n 0, 1) := by decide +kernel
theorem dX3_start_1 : decode cX3_start 1 = .ok (.getfield 16, 3) := by decide +kernel
theorem dX3_start_4 : decode cX3_start 4 = .ok (.ifCond .ne 6, 3) := by decide +kernel
theorem dX3_start_7 : decode cX3_start 7 = .ok (.bipush (-103), 2) := by decide +kernel
theorem dX3_start_9 : decode cX3_start 9 = .ok (.ireturn, 1) := by decide +kernel
theorem dX3_start_10 : decode cX3_start 10 = .ok (.iload_n 1, 1) := by decide +kernel
theorem dX3_start_11 : decode cX3_start 11 = .ok (.invokestatic 144, 3) := by decide +kernel
theorem dX3_start_14 : decode cX3_start 14 = .ok (.ifCond .ne 6, 3) := by decide +kernel
theorem dX3_start_17 : decode cX3_start 17 = .ok (.bipush (-102), 2) := by decide +kernel
theorem dX3_start_19 : decode cX3_start 19 = .ok (.ireturn, 1) := by decide +kernel
theorem dX3_start_20 : decode cX3_start 20 = .ok (.aload_n 0, 1) := by decide +kernel
theorem dX3_start_21 : decode cX3_start 21 = .ok (.iconst 0, 1) := by decide +kernel
theorem dX3_start_22 : decode cX3_start 22 = .ok (.putfield 16, 3) := by decide +kernel
theorem dX3_start_25 : decode cX3_start 25 = .ok (.aload_n 0, 1) := by decide +kernel
theorem dX3_start_26 : decode cX3_start 26 = .ok (.iload_n 1, 1) := by decide +kernel
theorem dX3_start_27 : decode cX3_start 27 = .ok (.putfield 20, 3) := by decide +kernel
theorem dX3_start_30 : decode cX3_start 30 = .ok (.aload_n 0, 1) := by decide +kernel
theorem dX3_start_31 : decode cX3_start 31 = .ok (.getfield 54, 3) := by decide +kernel
theorem dX3_start_34 : decode cX3_start 34 = .ok (.getfield 107, 3) := by decide +kernel
theorem dX3_start_37 : decode cX3_start 37 = .ok (.istore_n 2, 1) := by decide +kernel
theorem dX3_start_38 : decode cX3_start 38 = .ok (.aload_n 0, 1) := by decide +kernel
theorem dX3_start_39 : decode cX3_start 39 = .ok (.iload_n 2, 1) := by decide +kernel
theorem dX3_start_40 : decode cX3_start 40 = .ok (.invokevirtual 147, 3) := by decide +kernel
theorem dX3_start_43 : decode cX3_start 43 = .ok (.ifCond .eq 11, 3) := by decide +kernel
theorem dX3_start_46 : decode cX3_start 46 = .ok (.aload_n 0, 1) := by decide +kernel
theorem dX3_start_47 : decode cX3_start 47 = .ok (.iload_n 2, 1) := by decide +kernel
theorem dX3_start_48 : decode cX3_start 48 = .ok (.invokevirtual 150, 3) := by decide +kernel
theorem dX3_start_51 : decode cX3_start 51 = .ok (.ifCond .ne 6, 3) := by decide +kernel
theorem dX3_start_54 : decode cX3_start 54 = .ok (.bipush (-106), 2) := by decide +kernel
theorem dX3_start_56 : decode cX3_start 56 = .ok (.ireturn, 1) := by decide +kernel
theorem dX3_start_57 : decode cX3_start 57 = .ok (.aload_n 0, 1) := by decide +kernel
theorem dX3_start_58 : decode cX3_start 58 = .ok (.iconst (-1), 1) := by decide +kernel
theorem dX3_start_59 : decode cX3_start 59 = .ok (.putfield 20, 3) := by decide +kernel
theorem dX3_start_62 : decode cX3_start 62 = .ok (.iload_n 2, 1) := by decide +kernel
theorem dX3_start_63 : decode cX3_start 63 = .ok (.ireturn, 1) := by decide +kernel
set_option maxRecDepth 20000 in
theorem ggX3_chunk_X3_isMember : GoodIn wsX3_chunk wsX3_isMember := goodIn_r _ [6, 7, 26, 27, 28, 29, 30, 31, 32, 33, 34, 35] (by decide +kernel) (by decide +kernel)
set_option maxRecDepth 20000 in
theorem gX3_chunk_X3_isMember : GoodIn wsX3_chunk (wsV RX3 113 RX3 yX3_isMember wsX3_isMember) := goodIn_app (goodIn_of _ (by decide +kernel)) ggX3_chunk_X3_isMember
set_option maxRecDepth 20000 in
theorem ggX3_chunk_X3_isStripe : GoodIn wsX3_chunk wsX3_isStripe := goodIn_r _ [10] (by decide +kernel) (by decide +kernel)
set_option maxRecDepth 20000 in
theorem gX3_chunk_X3_isStripe : GoodIn wsX3_chunk (va_wsS RX3 138 yX3_isStripe wsX3_isStripe) := goodIn_app (goodIn_of _ (by decide +kernel)) ggX3_chunk_X3_isStripe
set_option maxRecDepth 20000 in
theorem ggX3_chunk_X0_isThere : GoodIn wsX3_chunk wsX0_isThere := goodIn_r _ [14, 15, 16, 17, 18, 19, 20, 12, 21, 22, 23, 24, 25, 36, 37, 38, 39, 40, 41] (by decide +kernel) (by decide +kernel)
set_option maxRecDepth 20000 in
theorem gX3_chunk_X0_isThere_n160 : GoodIn wsX3_chunk (wsX0_isThere) := ggX3_chunk_X0_isThere
theorem dX3_chunk_0 : decode cX3_chunk 0 = .ok (.aload_n 0, 1) := by decide +kernel
theorem dX3_chunk_1 : decode cX3_chunk 1 = .ok (.iload_n 1, 1) := by decide +kernel
theorem dX3_chunk_2 : decode cX3_chunk 2 = .ok (.invokevirtual 113, 3) := by decide +kernel
theorem dX3_chunk_5 : decode cX3_chunk 5 = .ok (.ifCond .eq 10, 3) := by decide +kernel
theorem dX3_chunk_8 : decode cX3_chunk 8 = .ok (.iload_n 2, 1) := by decide +kernel
theorem dX3_chunk_9 : decode cX3_chunk 9 = .ok (.invokestatic 138, 3) := by decide +kernel
theorem dX3_chunk_12 : decode cX3_chunk 12 = .ok (.ifCond .ne 6, 3) := by decide +kernel
theorem dX3_chunk_15 : decode cX3_chunk 15 = .ok (.bipush (-101), 2) := by decide +kernel
theorem dX3_chunk_17 : decode cX3_chunk 17 = .ok (.ireturn, 1) := by decide +kernel
theorem dX3_chunk_18 : decode cX3_chunk 18 = .ok (.aload_n 0, 1) := by decide +kernel
theorem dX3_chunk_19 : decode cX3_chunk 19 = .ok (.getfield 44, 3) := by decide +kernel
theorem dX3_chunk_22 : decode cX3_chunk 22 = .ok (.iload_n 1, 1) := by decide +kernel
theorem dX3_chunk_23 : decode cX3_chunk 23 = .ok (.aaload, 1) := by decide +kernel
theorem dX3_chunk_24 : decode cX3_chunk 24 = .ok (.astore 4, 2) := by decide +kernel
theorem dX3_chunk_26 : decode cX3_chunk 26 = .ok (.iload_n 3, 1) := by decide +kernel
theorem dX3_chunk_27 : decode cX3_chunk 27 = .ok (.ifCond .lt 22, 3) := by decide +kernel
theorem dX3_chunk_30 : decode cX3_chunk 30 = .ok (.iload_n 3, 1) := by decide +kernel
theorem dX3_chunk_31 : decode cX3_chunk 31 = .ok (.bipush 8, 2) := by decide +kernel
theorem dX3_chunk_33 : decode cX3_chunk 33 = .ok (.if_icmp .ge 16, 3) := by decide +kernel
theorem dX3_chunk_36 : decode cX3_chunk 36 = .ok (.aload 4, 2) := by decide +kernel
theorem dX3_chunk_38 : decode cX3_chunk 38 = .ok (.getfield 141, 3) := by decide +kernel
theorem dX3_chunk_41 : decode cX3_chunk 41 = .ok (.iload_n 2, 1) := by decide +kernel
theorem dX3_chunk_42 : decode cX3_chunk 42 = .ok (.bipush 8, 2) := by decide +kernel
theorem dX3_chunk_44 : decode cX3_chunk 44 = .ok (.imul, 1) := by decide +kernel
theorem dX3_chunk_45 : decode cX3_chunk 45 = .ok (.iload_n 3, 1) := by decide +kernel
theorem dX3_chunk_46 : decode cX3_chunk 46 = .ok (.iadd, 1) := by decide +kernel
theorem dX3_chunk_47 : decode cX3_chunk 47 = .ok (.iaload, 1) := by decide +kernel
theorem dX3_chunk_48 : decode cX3_chunk 48 = .ok (.ireturn, 1) := by decide +kernel
theorem dX3_chunk_49 : decode cX3_chunk 49 = .ok (.iload_n 3, 1) := by decide +kernel
theorem dX3_chunk_50 : decode cX3_chunk 50 = .ok (.tableswitch 65 8 10 #[26, 34, 50], 26) := by decide +kernel
theorem dX3_chunk_76 : decode cX3_chunk 76 = .ok (.aload 4, 2) := by decide +kernel
theorem dX3_chunk_78 : decode cX3_chunk 78 = .ok (.getfield 153, 3) := by decide +kernel
theorem dX3_chunk_81 : decode cX3_chunk 81 = .ok (.iload_n 2, 1) := by decide +kernel
theorem dX3_chunk_82 : decode cX3_chunk 82 = .ok (.iaload, 1) := by decide +kernel
theorem dX3_chunk_83 : decode cX3_chunk 83 = .ok (.ireturn, 1) := by decide +kernel
theorem dX3_chunk_84 : decode cX3_chunk 84 = .ok (.aload 4, 2) := by decide +kernel
theorem dX3_chunk_86 : decode cX3_chunk 86 = .ok (.getfield 156, 3) := by decide +kernel
theorem dX3_chunk_89 : decode cX3_chunk 89 = .ok (.iload_n 2, 1) := by decide +kernel
theorem dX3_chunk_90 : decode cX3_chunk 90 = .ok (.baload, 1) := by decide +kernel
theorem dX3_chunk_91 : decode cX3_chunk 91 = .ok (.ifCond .eq 7, 3) := by decide +kernel
theorem dX3_chunk_94 : decode cX3_chunk 94 = .ok (.iconst 1, 1) := by decide +kernel
theorem dX3_chunk_95 : decode cX3_chunk 95 = .ok (.goto 4, 3) := by decide +kernel
theorem dX3_chunk_98 : decode cX3_chunk 98 = .ok (.iconst 0, 1) := by decide +kernel
theorem dX3_chunk_99 : decode cX3_chunk 99 = .ok (.ireturn, 1) := by decide +kernel
theorem dX3_chunk_100 : decode cX3_chunk 100 = .ok (.aload 4, 2) := by decide +kernel
theorem dX3_chunk_102 : decode cX3_chunk 102 = .ok (.iload_n 2, 1) := by decide +kernel
theorem dX3_chunk_103 : decode cX3_chunk 103 = .ok (.invokevirtual 160, 3) := by decide +kernel
theorem dX3_chunk_106 : decode cX3_chunk 106 = .ok (.ifCond .eq 7, 3) := by decide +kernel
theorem dX3_chunk_109 : decode cX3_chunk 109 = .ok (.iconst 1, 1) := by decide +kernel
theorem dX3_chunk_110 : decode cX3_chunk 110 = .ok (.goto 4, 3) := by decide +kernel
theorem dX3_chunk_113 : decode cX3_chunk 113 = .ok (.iconst 0, 1) := by decide +kernel
theorem dX3_chunk_114 : decode cX3_chunk 114 = .ok (.ireturn, 1) := by decide +kernel
theorem dX3_chunk_115 : decode cX3_chunk 115 = .ok (.bipush (-102), 2) := by decide +kernel
theorem dX3_chunk_117 : decode cX3_chunk 117 = .ok (.ireturn, 1) := by decide +kernel
set_option maxRecDepth 20000 in
theorem ggX3_member_X3_isMember : GoodIn wsX3_member wsX3_isMember := goodIn_r _ [6, 7, 8, 9, 10, 11, 12, 13, 14, 15, 16, 17] (by decide +kernel) (by decide +kernel)
set_option maxRecDepth 20000 in
theorem gX3_member_X3_isMember : GoodIn wsX3_member (wsV RX3 113 RX3 yX3_isMember wsX3_isMember) := goodIn_app (goodIn_of _ (by decide +kernel)) ggX3_member_X3_isMember
theorem dX3_member_0 : decode cX3_member 0 = .ok (.aload_n 0, 1) := by decide +kernel
theorem dX3_member_1 : decode cX3_member 1 = .ok (.iload_n 1, 1) := by decide +kernel
theorem dX3_member_2 : decode cX3_member 2 = .ok (.invokevirtual 113, 3) := by decide +kernel
theorem dX3_member_5 : decode cX3_member 5 = .ok (.ifCond .ne 6, 3) := by decide +kernel
theorem dX3_member_8 : decode cX3_member 8 = .ok (.bipush (-101), 2) := by decide +kernel
theorem dX3_member_10 : decode cX3_member 10 = .ok (.ireturn, 1) := by decide +kernel
theorem dX3_member_11 : decode cX3_member 11 = .ok (.iload_n 2, 1) := by decide +kernel
theorem dX3_member_12 : decode cX3_member 12 = .ok (.tableswitch 58 0 2 #[28, 38, 48], 28) := by decide +kernel
theorem dX3_member_40 : decode cX3_member 40 = .ok (.aload_n 0, 1) := by decide +kernel
theorem dX3_member_41 : decode cX3_member 41 = .ok (.getfield 44, 3) := by decide +kernel
theorem dX3_member_44 : decode cX3_member 44 = .ok (.iload_n 1, 1) := by decide +kernel
theorem dX3_member_45 : decode cX3_member 45 = .ok (.aaload, 1) := by decide +kernel
theorem dX3_member_46 : decode cX3_member 46 = .ok (.getfield 120, 3) := by decide +kernel
theorem dX3_member_49 : decode cX3_member 49 = .ok (.ireturn, 1) := by decide +kernel
theorem dX3_member_50 : decode cX3_member 50 = .ok (.aload_n 0, 1) := by decide +kernel
theorem dX3_member_51 : decode cX3_member 51 = .ok (.getfield 44, 3) := by decide +kernel
theorem dX3_member_54 : decode cX3_member 54 = .ok (.iload_n 1, 1) := by decide +kernel
theorem dX3_member_55 : decode cX3_member 55 = .ok (.aaload, 1) := by decide +kernel
theorem dX3_member_56 : decode cX3_member 56 = .ok (.getfield 123, 3) := by decide +kernel
theorem dX3_member_59 : decode cX3_member 59 = .ok (.ireturn, 1) := by decide +kernel
theorem dX3_member_60 : decode cX3_member 60 = .ok (.aload_n 0, 1) := by decide +kernel
theorem dX3_member_61 : decode cX3_member 61 = .ok (.getfield 44, 3) := by decide +kernel
theorem dX3_member_64 : decode cX3_member 64 = .ok (.iload_n 1, 1) := by decide +kernel
theorem dX3_member_65 : decode cX3_member 65 = .ok (.aaload, 1) := by decide +kernel
theorem dX3_member_66 : decode cX3_member 66 = .ok (.getfield 163, 3) := by decide +kernel
theorem dX3_member_69 : decode cX3_member 69 = .ok (.ireturn, 1) := by decide +kernel
theorem dX3_member_70 : decode cX3_member 70 = .ok (.bipush (-102), 2) := by decide +kernel
theorem dX3_member_72 : decode cX3_member 72 = .ok (.ireturn, 1) := by decide +kernel
set_option maxRecDepth 20000 in
theorem ggX3_journal_X2_freeCells : GoodIn wsX3_journal wsX2_freeCells := goodIn_r _ [6, 7, 28, 29, 30, 31, 32, 33] (by decide +kernel) (by decide +kernel)
set_option maxRecDepth 20000 in
theorem gX3_journal_X2_freeCells_n166 : GoodIn wsX3_journal (wsX2_freeCells) := ggX3_journal_X2_freeCells
set_option maxRecDepth 20000 in
theorem ggX3_journal_X3_recordsKnown : GoodIn wsX3_journal wsX3_recordsKnown := goodIn_r _ [12, 1, 2, 18, 19, 20, 21, 22, 23, 24, 25, 26, 27, 28, 29, 30, 31, 32, 33] (by decide +kernel) (by decide +kernel)
set_option maxRecDepth 20000 in
theorem gX3_journal_X3_recordsKnown : GoodIn wsX3_journal (wsV RX3 170 RX3 yX3_recordsKnown wsX3_recordsKnown) := goodIn_app (goodIn_of _ (by decide +kernel)) ggX3_journal_X3_recordsKnown
set_option maxRecDepth 20000 in
theorem ggX3_journal_X2_nextSerial : GoodIn wsX3_journal wsX2_nextSerial := goodIn_r _ [15, 16, 17, 28, 29, 30, 31, 32, 33] (by decide +kernel) (by decide +kernel)
set_option maxRecDepth 20000 in
theorem gX3_journal_X2_nextSerial_n173 : GoodIn wsX3_journal (wsX2_nextSerial) := ggX3_journal_X2_nextSerial
theorem dX3_journal_0 : decode cX3_journal 0 = .ok (.iload_n 1, 1) := by decide +kernel
theorem dX3_journal_1 : decode cX3_journal 1 = .ok (.tableswitch 95 0 4 #[35, 55, 60, 79, 87], 35) := by decide +kernel
theorem dX3_journal_36 : decode cX3_journal 36 = .ok (.aload_n 0, 1) := by decide +kernel
theorem dX3_journal_37 : decode cX3_journal 37 = .ok (.getfield 16, 3) := by decide +kernel
theorem dX3_journal_40 : decode cX3_journal 40 = .ok (.ifCond .eq 8, 3) := by decide +kernel
theorem dX3_journal_43 : decode cX3_journal 43 = .ok (.bipush 32, 2) := by decide +kernel
theorem dX3_journal_45 : decode cX3_journal 45 = .ok (.goto 10, 3) := by decide +kernel
theorem dX3_journal_48 : decode cX3_journal 48 = .ok (.aload_n 0, 1) := by decide +kernel
theorem dX3_journal_49 : decode cX3_journal 49 = .ok (.getfield 54, 3) := by decide +kernel
theorem dX3_journal_52 : decode cX3_journal 52 = .ok (.invokevirtual 166, 3) := by decide +kernel
theorem dX3_journal_55 : decode cX3_journal 55 = .ok (.ireturn, 1) := by decide +kernel
theorem dX3_journal_56 : decode cX3_journal 56 = .ok (.aload_n 0, 1) := by decide +kernel
theorem dX3_journal_57 : decode cX3_journal 57 = .ok (.invokevirtual 170, 3) := by decide +kernel
theorem dX3_journal_60 : decode cX3_journal 60 = .ok (.ireturn, 1) := by decide +kernel
theorem dX3_journal_61 : decode cX3_journal 61 = .ok (.aload_n 0, 1) := by decide +kernel
theorem dX3_journal_62 : decode cX3_journal 62 = .ok (.getfield 16, 3) := by decide +kernel
theorem dX3_journal_65 : decode cX3_journal 65 = .ok (.ifCond .eq 7, 3) := by decide +kernel
theorem dX3_journal_68 : decode cX3_journal 68 = .ok (.iconst 0, 1) := by decide +kernel
theorem dX3_journal_69 : decode cX3_journal 69 = .ok (.goto 10, 3) := by decide +kernel
theorem dX3_journal_72 : decode cX3_journal 72 = .ok (.aload_n 0, 1) := by decide +kernel
theorem dX3_journal_73 : decode cX3_journal 73 = .ok (.getfield 54, 3) := by decide +kernel
theorem dX3_journal_76 : decode cX3_journal 76 = .ok (.invokevirtual 173, 3) := by decide +kernel
theorem dX3_journal_79 : decode cX3_journal 79 = .ok (.ireturn, 1) := by decide +kernel
theorem dX3_journal_80 : decode cX3_journal 80 = .ok (.aload_n 0, 1) := by decide +kernel
theorem dX3_journal_81 : decode cX3_journal 81 = .ok (.getfield 54, 3) := by decide +kernel
theorem dX3_journal_84 : decode cX3_journal 84 = .ok (.getfield 176, 3) := by decide +kernel
theorem dX3_journal_87 : decode cX3_journal 87 = .ok (.ireturn, 1) := by decide +kernel
theorem dX3_journal_88 : decode cX3_journal 88 = .ok (.aload_n 0, 1) := by decide +kernel
theorem dX3_journal_89 : decode cX3_journal 89 = .ok (.getfield 54, 3) := by decide +kernel
theorem dX3_journal_92 : decode cX3_journal 92 = .ok (.getfield 179, 3) := by decide +kernel
theorem dX3_journal_95 : decode cX3_journal 95 = .ok (.ireturn, 1) := by decide +kernel
theorem dX3_journal_96 : decode cX3_journal 96 = .ok (.bipush (-102), 2) := by decide +kernel
theorem dX3_journal_98 : decode cX3_journal 98 = .ok (.ireturn, 1) := by decide +kernel
set_option maxRecDepth 20000 in
theorem ggX3_record_X3_recordsKnown : GoodIn wsX3_record wsX3_recordsKnown := goodIn_r _ [7, 8, 1, 24, 25, 26, 27, 28, 29, 30, 31, 32, 33, 38, 39, 40, 41, 42, 43] (by decide +kernel) (by decide +kernel)
set_option maxRecDepth 20000 in
theorem gX3_record_X3_recordsKnown : GoodIn wsX3_record (wsV RX3 170 RX3 yX3_recordsKnown wsX3_recordsKnown) := goodIn_app (goodIn_of _ (by decide +kernel)) ggX3_record_X3_recordsKnown
set_option maxRecDepth 20000 in
theorem ggX3_record_X2_entry : GoodIn wsX3_record wsX2_entry := goodIn_r _ [12, 13, 14, 38, 39, 40, 41, 42, 43] (by decide +kernel) (by decide +kernel)
set_option maxRecDepth 20000 in
theorem gX3_record_X2_entry_n182 : GoodIn wsX3_record (wsX2_entry) := ggX3_record_X2_entry
set_option maxRecDepth 20000 in
theorem ggX3_record_X3_allData : GoodIn wsX3_record wsX3_allData := goodIn_r _ [18, 2, 24, 25, 26, 27, 28, 29, 30, 31, 32, 33] (by decide +kernel) (by decide +kernel)
set_option maxRecDepth 20000 in
theorem gX3_record_X3_allData : GoodIn wsX3_record (wsV RX3 194 RX3 yX3_allData wsX3_allData) := goodIn_app (goodIn_of _ (by decide +kernel)) ggX3_record_X3_allData
set_option maxRecDepth 20000 in
theorem ggX3_record_X1_has : GoodIn wsX3_record wsX1_has := goodIn_r _ [22, 23, 34, 35, 36, 37] (by decide +kernel) (by decide +kernel)
set_option maxRecDepth 20000 in
theorem gX3_record_X1_has_n197 : GoodIn wsX3_record (wsX1_has) := ggX3_record_X1_has
theorem dX3_record_0 : decode cX3_record 0 = .ok (.iload_n 1, 1) := by decide +kernel
theorem dX3_record_1 : decode cX3_record 1 = .ok (.ifCond .lt 11, 3) := by decide +kernel
theorem dX3_record_4 : decode cX3_record 4 = .ok (.iload_n 1, 1) := by decide +kernel
theorem dX3_record_5 : decode cX3_record 5 = .ok (.aload_n 0, 1) := by decide +kernel
theorem dX3_record_6 : decode cX3_record 6 = .ok (.invokevirtual 170, 3) := by decide +kernel
theorem dX3_record_9 : decode cX3_record 9 = .ok (.if_icmp .lt 6, 3) := by decide +kernel
theorem dX3_record_12 : decode cX3_record 12 = .ok (.bipush (-101), 2) := by decide +kernel
theorem dX3_record_14 : decode cX3_record 14 = .ok (.ireturn, 1) := by decide +kernel
theorem dX3_record_15 : decode cX3_record 15 = .ok (.aload_n 0, 1) := by decide +kernel
theorem dX3_record_16 : decode cX3_record 16 = .ok (.getfield 54, 3) := by decide +kernel
theorem dX3_record_19 : decode cX3_record 19 = .ok (.iload_n 1, 1) := by decide +kernel
theorem dX3_record_20 : decode cX3_record 20 = .ok (.invokevirtual 182, 3) := by decide +kernel
theorem dX3_record_23 : decode cX3_record 23 = .ok (.astore_n 3, 1) := by decide +kernel
theorem dX3_record_24 : decode cX3_record 24 = .ok (.iload_n 2, 1) := by decide +kernel
theorem dX3_record_25 : decode cX3_record 25 = .ok (.tableswitch 82 0 4 #[35, 40, 50, 67, 77], 35) := by decide +kernel
theorem dX3_record_60 : decode cX3_record 60 = .ok (.aload_n 3, 1) := by decide +kernel
theorem dX3_record_61 : decode cX3_record 61 = .ok (.getfield 186, 3) := by decide +kernel
theorem dX3_record_64 : decode cX3_record 64 = .ok (.ireturn, 1) := by decide +kernel
theorem dX3_record_65 : decode cX3_record 65 = .ok (.aload_n 3, 1) := by decide +kernel
theorem dX3_record_66 : decode cX3_record 66 = .ok (.getfield 191, 3) := by decide +kernel
theorem dX3_record_69 : decode cX3_record 69 = .ok (.aload_n 0, 1) := by decide +kernel
theorem dX3_record_70 : decode cX3_record 70 = .ok (.invokevirtual 194, 3) := by decide +kernel
theorem dX3_record_73 : decode cX3_record 73 = .ok (.iand, 1) := by decide +kernel
theorem dX3_record_74 : decode cX3_record 74 = .ok (.ireturn, 1) := by decide +kernel
theorem dX3_record_75 : decode cX3_record 75 = .ok (.aload_n 3, 1) := by decide +kernel
theorem dX3_record_76 : decode cX3_record 76 = .ok (.aload_n 0, 1) := by decide +kernel
theorem dX3_record_77 : decode cX3_record 77 = .ok (.getfield 39, 3) := by decide +kernel
theorem dX3_record_80 : decode cX3_record 80 = .ok (.invokevirtual 197, 3) := by decide +kernel
theorem dX3_record_83 : decode cX3_record 83 = .ok (.ifCond .eq 7, 3) := by decide +kernel
theorem dX3_record_86 : decode cX3_record 86 = .ok (.iconst 1, 1) := by decide +kernel
theorem dX3_record_87 : decode cX3_record 87 = .ok (.goto 4, 3) := by decide +kernel
theorem dX3_record_90 : decode cX3_record 90 = .ok (.iconst 0, 1) := by decide +kernel
theorem dX3_record_91 : decode cX3_record 91 = .ok (.ireturn, 1) := by decide +kernel
theorem dX3_record_92 : decode cX3_record 92 = .ok (.aload_n 0, 1) := by decide +kernel
theorem dX3_record_93 : decode cX3_record 93 = .ok (.getfield 54, 3) := by decide +kernel
theorem dX3_record_96 : decode cX3_record 96 = .ok (.getfield 179, 3) := by decide +kernel
theorem dX3_record_99 : decode cX3_record 99 = .ok (.iload_n 1, 1) := by decide +kernel
theorem dX3_record_100 : decode cX3_record 100 = .ok (.iadd, 1) := by decide +kernel
theorem dX3_record_101 : decode cX3_record 101 = .ok (.ireturn, 1) := by decide +kernel
theorem dX3_record_102 : decode cX3_record 102 = .ok (.aload_n 3, 1) := by decide +kernel
theorem dX3_record_103 : decode cX3_record 103 = .ok (.getfield 200, 3) := by decide +kernel
theorem dX3_record_106 : decode cX3_record 106 = .ok (.ireturn, 1) := by decide +kernel
theorem dX3_record_107 : decode cX3_record 107 = .ok (.bipush (-102), 2) := by decide +kernel
theorem dX3_record_109 : decode cX3_record 109 = .ok (.ireturn, 1) := by decide +kernel
theorem dX3_count_0 : decode cX3_count 0 = .ok (.iload_n 1, 1) := by decide +kernel
theorem dX3_count_1 : decode cX3_count 1 = .ok (.ifCond .lt 9, 3) := by decide +kernel
theorem dX3_count_4 : decode cX3_count 4 = .ok (.iload_n 1, 1) := by decide +kernel
theorem dX3_count_5 : decode cX3_count 5 = .ok (.bipush 13, 2) := by decide +kernel
theorem dX3_count_7 : decode cX3_count 7 = .ok (.if_icmp .lt 8, 3) := by decide +kernel
theorem dX3_count_10 : decode cX3_count 10 = .ok (.bipush (-102), 2) := by decide +kernel
theorem dX3_count_12 : decode cX3_count 12 = .ok (.goto 9, 3) := by decide +kernel
theorem dX3_count_15 : decode cX3_count 15 = .ok (.aload_n 0, 1) := by decide +kernel
theorem dX3_count_16 : decode cX3_count 16 = .ok (.getfield 9, 3) := by decide +kernel
theorem dX3_count_19 : decode cX3_count 19 = .ok (.iload_n 1, 1) := by decide +kernel
theorem dX3_count_20 : decode cX3_count 20 = .ok (.iaload, 1) := by decide +kernel
theorem dX3_count_21 : decode cX3_count 21 = .ok (.ireturn, 1) := by decide +kernel
set_option maxRecDepth 20000 in
theorem ggX3_audit_X3_countNotThere : GoodIn wsX3_audit wsX3_countNotThere := goodIn_r _ [5, 6, 7, 8, 9, 10, 11, 12, 13, 14, 15, 16, 17, 18, 19, 20, 21, 22, 40, 41, 42, 43, 44, 45, 46, 47, 48, 49, 50, 51, 52, 53, 54, 55] (by decide +kernel) (by decide +kernel)
set_option maxRecDepth 20000 in
theorem gX3_audit_X3_countNotThere : GoodIn wsX3_audit (wsV RX3 203 RX3 yX3_countNotThere wsX3_countNotThere) := goodIn_app (goodIn_of _ (by decide +kernel)) ggX3_audit_X3_countNotThere
set_option maxRecDepth 20000 in
theorem ggX3_audit_X3_xorIsZero : GoodIn wsX3_audit wsX3_xorIsZero := goodIn_r _ [26, 27, 28, 29, 30, 4, 31, 32, 33, 34, 35, 6, 7, 36, 37, 38, 39, 40, 41, 42, 43, 44, 45, 46, 47, 48, 49, 50, 51, 52, 53, 54, 55] (by decide +kernel) (by decide +kernel)
set_option maxRecDepth 20000 in
theorem gX3_audit_X3_xorIsZero : GoodIn wsX3_audit (wsV RX3 206 RX3 yX3_xorIsZero wsX3_xorIsZero) := goodIn_app (goodIn_of _ (by decide +kernel)) ggX3_audit_X3_xorIsZero
theorem dX3_audit_0 : decode cX3_audit 0 = .ok (.iconst 0, 1) := by decide +kernel
theorem dX3_audit_1 : decode cX3_audit 1 = .ok (.istore_n 1, 1) := by decide +kernel
theorem dX3_audit_2 : decode cX3_audit 2 = .ok (.iconst 0, 1) := by decide +kernel
theorem dX3_audit_3 : decode cX3_audit 3 = .ok (.istore_n 2, 1) := by decide +kernel
theorem dX3_audit_4 : decode cX3_audit 4 = .ok (.iload_n 2, 1) := by decide +kernel
theorem dX3_audit_5 : decode cX3_audit 5 = .ok (.bipush 24, 2) := by decide +kernel
theorem dX3_audit_7 : decode cX3_audit 7 = .ok (.if_icmp .ge 28, 3) := by decide +kernel
theorem dX3_audit_10 : decode cX3_audit 10 = .ok (.aload_n 0, 1) := by decide +kernel
theorem dX3_audit_11 : decode cX3_audit 11 = .ok (.iload_n 2, 1) := by decide +kernel
theorem dX3_audit_12 : decode cX3_audit 12 = .ok (.invokevirtual 203, 3) := by decide +kernel
theorem dX3_audit_15 : decode cX3_audit 15 = .ok (.ifCond .ne 14, 3) := by decide +kernel
theorem dX3_audit_18 : decode cX3_audit 18 = .ok (.aload_n 0, 1) := by decide +kernel
theorem dX3_audit_19 : decode cX3_audit 19 = .ok (.iload_n 2, 1) := by decide +kernel
theorem dX3_audit_20 : decode cX3_audit 20 = .ok (.invokevirtual 206, 3) := by decide +kernel
theorem dX3_audit_23 : decode cX3_audit 23 = .ok (.ifCond .ne 6, 3) := by decide +kernel
theorem dX3_audit_26 : decode cX3_audit 26 = .ok (.iinc 1 1, 3) := by decide +kernel
theorem dX3_audit_29 : decode cX3_audit 29 = .ok (.iinc 2 1, 3) := by decide +kernel
theorem dX3_audit_32 : decode cX3_audit 32 = .ok (.goto (-28), 3) := by decide +kernel
theorem dX3_audit_35 : decode cX3_audit 35 = .ok (.iload_n 1, 1) := by decide +kernel
theorem dX3_audit_36 : decode cX3_audit 36 = .ok (.ireturn, 1) := by decide +kernel
theorem dX3_isBlock_0 : decode cX3_isBlock 0 = .ok (.iload_n 1, 1) := by decide +kernel
theorem dX3_isBlock_1 : decode cX3_isBlock 1 = .ok (.ifCond .lt 18, 3) := by decide +kernel
theorem dX3_isBlock_4 : decode cX3_isBlock 4 = .ok (.iload_n 1, 1) := by decide +kernel
theorem dX3_isBlock_5 : decode cX3_isBlock 5 = .ok (.bipush 24, 2) := by decide +kernel
theorem dX3_isBlock_7 : decode cX3_isBlock 7 = .ok (.aload_n 0, 1) := by decide +kernel
theorem dX3_isBlock_8 : decode cX3_isBlock 8 = .ok (.getfield 39, 3) := by decide +kernel
theorem dX3_isBlock_11 : decode cX3_isBlock 11 = .ok (.imul, 1) := by decide +kernel
theorem dX3_isBlock_12 : decode cX3_isBlock 12 = .ok (.if_icmp .ge 7, 3) := by decide +kernel
theorem dX3_isBlock_15 : decode cX3_isBlock 15 = .ok (.iconst 1, 1) := by decide +kernel
theorem dX3_isBlock_16 : decode cX3_isBlock 16 = .ok (.goto 4, 3) := by decide +kernel
theorem dX3_isBlock_19 : decode cX3_isBlock 19 = .ok (.iconst 0, 1) := by decide +kernel
theorem dX3_isBlock_20 : decode cX3_isBlock 20 = .ok (.ireturn, 1) := by decide +kernel
theorem dX3_isMember_0 : decode cX3_isMember 0 = .ok (.iload_n 1, 1) := by decide +kernel
theorem dX3_isMember_1 : decode cX3_isMember 1 = .ok (.ifCond .lt 15, 3) := by decide +kernel
theorem dX3_isMember_4 : decode cX3_isMember 4 = .ok (.iload_n 1, 1) := by decide +kernel
theorem dX3_isMember_5 : decode cX3_isMember 5 = .ok (.aload_n 0, 1) := by decide +kernel
theorem dX3_isMember_6 : decode cX3_isMember 6 = .ok (.getfield 36, 3) := by decide +kernel
theorem dX3_isMember_9 : decode cX3_isMember 9 = .ok (.if_icmp .ge 7, 3) := by decide +kernel
theorem dX3_isMember_12 : decode cX3_isMember 12 = .ok (.iconst 1, 1) := by decide +kernel
theorem dX3_isMember_13 : decode cX3_isMember 13 = .ok (.goto 4, 3) := by decide +kernel
theorem dX3_isMember_16 : decode cX3_isMember 16 = .ok (.iconst 0, 1) := by decide +kernel
theorem dX3_isMember_17 : decode cX3_isMember 17 = .ok (.ireturn, 1) := by decide +kernel
theorem dX3_isStripe_0 : decode cX3_isStripe 0 = .ok (.iload_n 0, 1) := by decide +kernel
theorem dX3_isStripe_1 : decode cX3_isStripe 1 = .ok (.ifCond .lt 13, 3) := by decide +kernel
theorem dX3_isStripe_4 : decode cX3_isStripe 4 = .ok (.iload_n 0, 1) := by decide +kernel
theorem dX3_isStripe_5 : decode cX3_isStripe 5 = .ok (.bipush 24, 2) := by decide +kernel
theorem dX3_isStripe_7 : decode cX3_isStripe 7 = .ok (.if_icmp .ge 7, 3) := by decide +kernel
theorem dX3_isStripe_10 : decode cX3_isStripe 10 = .ok (.iconst 1, 1) := by decide +kernel
theorem dX3_isStripe_11 : decode cX3_isStripe 11 = .ok (.goto 4, 3) := by decide +kernel
theorem dX3_isStripe_14 : decode cX3_isStripe 14 = .ok (.iconst 0, 1) := by decide +kernel
theorem dX3_isStripe_15 : decode cX3_isStripe 15 = .ok (.ireturn, 1) := by decide +kernel
theorem dX3_isCut_0 : decode cX3_isCut 0 = .ok (.iload_n 0, 1) := by decide +kernel
theorem dX3_isCut_1 : decode cX3_isCut 1 = .ok (.iconst (-1), 1) := by decide +kernel
theorem dX3_isCut_2 : decode cX3_isCut 2 = .ok (.if_icmp .lt 14, 3) := by decide +kernel
theorem dX3_isCut_5 : decode cX3_isCut 5 = .ok (.iload_n 0, 1) := by decide +kernel
theorem dX3_isCut_6 : decode cX3_isCut 6 = .ok (.sipush 1000, 3) := by decide +kernel
theorem dX3_isCut_9 : decode cX3_isCut 9 = .ok (.if_icmp .gt 7, 3) := by decide +kernel
theorem dX3_isCut_12 : decode cX3_isCut 12 = .ok (.iconst 1, 1) := by decide +kernel
theorem dX3_isCut_13 : decode cX3_isCut 13 = .ok (.goto 4, 3) := by decide +kernel
theorem dX3_isCut_16 : decode cX3_isCut 16 = .ok (.iconst 0, 1) := by decide +kernel
theorem dX3_isCut_17 : decode cX3_isCut 17 = .ok (.ireturn, 1) := by decide +kernel
theorem dX3_parityMember_0 : decode cX3_parityMember 0 = .ok (.aload_n 0, 1) := by decide +kernel
theorem dX3_parityMember_1 : decode cX3_parityMember 1 = .ok (.getfield 36, 3) := by decide +kernel
theorem dX3_parityMember_4 : decode cX3_parityMember 4 = .ok (.iconst 1, 1) := by decide +kernel
theorem dX3_parityMember_5 : decode cX3_parityMember 5 = .ok (.isub, 1) := by decide +kernel
theorem dX3_parityMember_6 : decode cX3_parityMember 6 = .ok (.iload_n 1, 1) := by decide +kernel
theorem dX3_parityMember_7 : decode cX3_parityMember 7 = .ok (.aload_n 0, 1) := by decide +kernel
theorem dX3_parityMember_8 : decode cX3_parityMember 8 = .ok (.getfield 36, 3) := by decide +kernel
theorem dX3_parityMember_11 : decode cX3_parityMember 11 = .ok (.irem, 1) := by decide +kernel
theorem dX3_parityMember_12 : decode cX3_parityMember 12 = .ok (.isub, 1) := by decide +kernel
theorem dX3_parityMember_13 : decode cX3_parityMember 13 = .ok (.ireturn, 1) := by decide +kernel
set_option maxRecDepth 20000 in
theorem ggX3_memberOf_X3_parityMember : GoodIn wsX3_memberOf wsX3_parityMember := goodIn_r _ [6, 1, 7, 8, 9, 10, 11, 12, 13, 14, 15, 16] (by decide +kernel) (by decide +kernel)
set_option maxRecDepth 20000 in
theorem gX3_memberOf_X3_parityMember : GoodIn wsX3_memberOf (wsV RX3 65 RX3 yX3_parityMember wsX3_parityMember) := goodIn_app (goodIn_of _ (by decide +kernel)) ggX3_memberOf_X3_parityMember
theorem dX3_memberOf_0 : decode cX3_memberOf 0 = .ok (.aload_n 0, 1) := by decide +kernel
theorem dX3_memberOf_1 : decode cX3_memberOf 1 = .ok (.iload_n 1, 1) := by decide +kernel
theorem dX3_memberOf_2 : decode cX3_memberOf 2 = .ok (.invokevirtual 65, 3) := by decide +kernel
theorem dX3_memberOf_5 : decode cX3_memberOf 5 = .ok (.iconst 1, 1) := by decide +kernel
theorem dX3_memberOf_6 : decode cX3_memberOf 6 = .ok (.iadd, 1) := by decide +kernel
theorem dX3_memberOf_7 : decode cX3_memberOf 7 = .ok (.iload_n 2, 1) := by decide +kernel
theorem dX3_memberOf_8 : decode cX3_memberOf 8 = .ok (.iadd, 1) := by decide +kernel
theorem dX3_memberOf_9 : decode cX3_memberOf 9 = .ok (.aload_n 0, 1) := by decide +kernel
theorem dX3_memberOf_10 : decode cX3_memberOf 10 = .ok (.getfield 36, 3) := by decide +kernel
theorem dX3_memberOf_13 : decode cX3_memberOf 13 = .ok (.irem, 1) := by decide +kernel
theorem dX3_memberOf_14 : decode cX3_memberOf 14 = .ok (.ireturn, 1) := by decide +kernel
theorem dX3_allData_0 : decode cX3_allData 0 = .ok (.iconst 1, 1) := by decide +kernel
theorem dX3_allData_1 : decode cX3_allData 1 = .ok (.aload_n 0, 1) := by decide +kernel
theorem dX3_allData_2 : decode cX3_allData 2 = .ok (.getfield 39, 3) := by decide +kernel
theorem dX3_allData_5 : decode cX3_allData 5 = .ok (.ishl, 1) := by decide +kernel
theorem dX3_allData_6 : decode cX3_allData 6 = .ok (.iconst 1, 1) := by decide +kernel
theorem dX3_allData_7 : decode cX3_allData 7 = .ok (.isub, 1) := by decide +kernel
theorem dX3_allData_8 : decode cX3_allData 8 = .ok (.ireturn, 1) := by decide +kernel
theorem dX3_recordsKnown_0 : decode cX3_recordsKnown 0 = .ok (.aload_n 0, 1) := by decide +kernel
theorem dX3_recordsKnown_1 : decode cX3_recordsKnown 1 = .ok (.getfield 16, 3) := by decide +kernel
theorem dX3_recordsKnown_4 : decode cX3_recordsKnown 4 = .ok (.ifCond .eq 7, 3) := by decide +kernel
theorem dX3_recordsKnown_7 : decode cX3_recordsKnown 7 = .ok (.iconst 0, 1) := by decide +kernel
theorem dX3_recordsKnown_8 : decode cX3_recordsKnown 8 = .ok (.goto 10, 3) := by decide +kernel
theorem dX3_recordsKnown_11 : decode cX3_recordsKnown 11 = .ok (.aload_n 0, 1) := by decide +kernel
theorem dX3_recordsKnown_12 : decode cX3_recordsKnown 12 = .ok (.getfield 54, 3) := by decide +kernel
theorem dX3_recordsKnown_15 : decode cX3_recordsKnown 15 = .ok (.getfield 107, 3) := by decide +kernel
theorem dX3_recordsKnown_18 : decode cX3_recordsKnown 18 = .ok (.ireturn, 1) := by decide +kernel
theorem dX3_memberThat_0 : decode cX3_memberThat 0 = .ok (.iconst 0, 1) := by decide +kernel
theorem dX3_memberThat_1 : decode cX3_memberThat 1 = .ok (.istore_n 2, 1) := by decide +kernel
theorem dX3_memberThat_2 : decode cX3_memberThat 2 = .ok (.iload_n 2, 1) := by decide +kernel
theorem dX3_memberThat_3 : decode cX3_memberThat 3 = .ok (.aload_n 0, 1) := by decide +kernel
theorem dX3_memberThat_4 : decode cX3_memberThat 4 = .ok (.getfield 36, 3) := by decide +kernel
theorem dX3_memberThat_7 : decode cX3_memberThat 7 = .ok (.if_icmp .ge 24, 3) := by decide +kernel
theorem dX3_memberThat_10 : decode cX3_memberThat 10 = .ok (.aload_n 0, 1) := by decide +kernel
theorem dX3_memberThat_11 : decode cX3_memberThat 11 = .ok (.getfield 44, 3) := by decide +kernel
theorem dX3_memberThat_14 : decode cX3_memberThat 14 = .ok (.iload_n 2, 1) := by decide +kernel
theorem dX3_memberThat_15 : decode cX3_memberThat 15 = .ok (.aaload, 1) := by decide +kernel
theorem dX3_memberThat_16 : decode cX3_memberThat 16 = .ok (.getfield 120, 3) := by decide +kernel
theorem dX3_memberThat_19 : decode cX3_memberThat 19 = .ok (.iload_n 1, 1) := by decide +kernel
theorem dX3_memberThat_20 : decode cX3_memberThat 20 = .ok (.if_icmp .ne 5, 3) := by decide +kernel
theorem dX3_memberThat_23 : decode cX3_memberThat 23 = .ok (.iload_n 2, 1) := by decide +kernel
theorem dX3_memberThat_24 : decode cX3_memberThat 24 = .ok (.ireturn, 1) := by decide +kernel
theorem dX3_memberThat_25 : decode cX3_memberThat 25 = .ok (.iinc 2 1, 3) := by decide +kernel
theorem dX3_memberThat_28 : decode cX3_memberThat 28 = .ok (.goto (-26), 3) := by decide +kernel
theorem dX3_memberThat_31 : decode cX3_memberThat 31 = .ok (.iconst (-1), 1) := by decide +kernel
theorem dX3_memberThat_32 : decode cX3_memberThat 32 = .ok (.ireturn, 1) := by decide +kernel
set_option maxRecDepth 20000 in
theorem ggX3_allOn_X3_memberThat : GoodIn wsX3_allOn wsX3_memberThat := goodIn_r _ [5, 6, 7, 8, 9, 10, 11, 12, 13, 14, 15, 16, 17, 18, 19, 20, 21, 22, 23] (by decide +kernel) (by decide +kernel)
set_option maxRecDepth 20000 in
theorem gX3_allOn_X3_memberThat : GoodIn wsX3_allOn (wsV RX3 126 RX3 yX3_memberThat wsX3_memberThat) := goodIn_app (goodIn_of _ (by decide +kernel)) ggX3_allOn_X3_memberThat
theorem dX3_allOn_0 : decode cX3_allOn 0 = .ok (.aload_n 0, 1) := by decide +kernel
theorem dX3_allOn_1 : decode cX3_allOn 1 = .ok (.iconst 1, 1) := by decide +kernel
theorem dX3_allOn_2 : decode cX3_allOn 2 = .ok (.invokevirtual 126, 3) := by decide +kernel
theorem dX3_allOn_5 : decode cX3_allOn 5 = .ok (.iconst (-1), 1) := by decide +kernel
theorem dX3_allOn_6 : decode cX3_allOn 6 = .ok (.if_icmp .ne 16, 3) := by decide +kernel
theorem dX3_allOn_9 : decode cX3_allOn 9 = .ok (.aload_n 0, 1) := by decide +kernel
theorem dX3_allOn_10 : decode cX3_allOn 10 = .ok (.iconst 2, 1) := by decide +kernel
theorem dX3_allOn_11 : decode cX3_allOn 11 = .ok (.invokevirtual 126, 3) := by decide +kernel
theorem dX3_allOn_14 : decode cX3_allOn 14 = .ok (.iconst (-1), 1) := by decide +kernel
theorem dX3_allOn_15 : decode cX3_allOn 15 = .ok (.if_icmp .ne 7, 3) := by decide +kernel
theorem dX3_allOn_18 : decode cX3_allOn 18 = .ok (.iconst 1, 1) := by decide +kernel
theorem dX3_allOn_19 : decode cX3_allOn 19 = .ok (.goto 4, 3) := by decide +kernel
theorem dX3_allOn_22 : decode cX3_allOn 22 = .ok (.iconst 0, 1) := by decide +kernel
theorem dX3_allOn_23 : decode cX3_allOn 23 = .ok (.ireturn, 1) := by decide +kernel
set_option maxRecDepth 20000 in
theorem ggX3_countNotThere_X0_isThere : GoodIn wsX3_countNotThere wsX0_isThere := goodIn_r _ [6, 7, 8, 9, 10, 11, 12, 4, 13, 14, 15, 16, 17, 28, 29, 30, 31, 32, 33] (by decide +kernel) (by decide +kernel)
set_option maxRecDepth 20000 in
theorem gX3_countNotThere_X0_isThere_n160 : GoodIn wsX3_countNotThere (wsX0_isThere) := ggX3_countNotThere_X0_isThere
theorem dX3_countNotThere_0 : decode cX3_countNotThere 0 = .ok (.iconst 0, 1) := by decide +kernel
theorem dX3_countNotThere_1 : decode cX3_countNotThere 1 = .ok (.istore_n 2, 1) := by decide +kernel
theorem dX3_countNotThere_2 : decode cX3_countNotThere 2 = .ok (.iconst 0, 1) := by decide +kernel
theorem dX3_countNotThere_3 : decode cX3_countNotThere 3 = .ok (.istore_n 3, 1) := by decide +kernel
theorem dX3_countNotThere_4 : decode cX3_countNotThere 4 = .ok (.iload_n 3, 1) := by decide +kernel
