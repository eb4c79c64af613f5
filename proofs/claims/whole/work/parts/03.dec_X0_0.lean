theorem dX0_init_0 : decode cX0_init 0 = .ok (.aload_n 0, 1) := by decide +kernel
theorem dX0_init_1 : decode cX0_init 1 = .ok (.invokespecial 3, 3) := by decide +kernel
theorem dX0_init_4 : decode cX0_init 4 = .ok (.aload_n 0, 1) := by decide +kernel
theorem dX0_init_5 : decode cX0_init 5 = .ok (.sipush 192, 3) := by decide +kernel
theorem dX0_init_8 : decode cX0_init 8 = .ok (.newarray .int, 2) := by decide +kernel
theorem dX0_init_10 : decode cX0_init 10 = .ok (.putfield 9, 3) := by decide +kernel
theorem dX0_init_13 : decode cX0_init 13 = .ok (.aload_n 0, 1) := by decide +kernel
theorem dX0_init_14 : decode cX0_init 14 = .ok (.bipush 24, 2) := by decide +kernel
theorem dX0_init_16 : decode cX0_init 16 = .ok (.newarray .int, 2) := by decide +kernel
theorem dX0_init_18 : decode cX0_init 18 = .ok (.putfield 15, 3) := by decide +kernel
theorem dX0_init_21 : decode cX0_init 21 = .ok (.aload_n 0, 1) := by decide +kernel
theorem dX0_init_22 : decode cX0_init 22 = .ok (.bipush 24, 2) := by decide +kernel
theorem dX0_init_24 : decode cX0_init 24 = .ok (.newarray .boolean, 2) := by decide +kernel
theorem dX0_init_26 : decode cX0_init 26 = .ok (.putfield 18, 3) := by decide +kernel
theorem dX0_init_29 : decode cX0_init 29 = .ok (.aload_n 0, 1) := by decide +kernel
theorem dX0_init_30 : decode cX0_init 30 = .ok (.iconst 0, 1) := by decide +kernel
theorem dX0_init_31 : decode cX0_init 31 = .ok (.putfield 22, 3) := by decide +kernel
theorem dX0_init_34 : decode cX0_init 34 = .ok (.aload_n 0, 1) := by decide +kernel
theorem dX0_init_35 : decode cX0_init 35 = .ok (.bipush 24, 2) := by decide +kernel
theorem dX0_init_37 : decode cX0_init 37 = .ok (.putfield 26, 3) := by decide +kernel
theorem dX0_init_40 : decode cX0_init 40 = .ok (.aload_n 0, 1) := by decide +kernel
theorem dX0_init_41 : decode cX0_init 41 = .ok (.iconst 0, 1) := by decide +kernel
theorem dX0_init_42 : decode cX0_init 42 = .ok (.putfield 29, 3) := by decide +kernel
theorem dX0_init_45 : decode cX0_init 45 = .ok (.return_, 1) := by decide +kernel
theorem dX0_isOn_0 : decode cX0_isOn 0 = .ok (.iload_n 1, 1) := by decide +kernel
theorem dX0_isOn_1 : decode cX0_isOn 1 = .ok (.aload_n 0, 1) := by decide +kernel
theorem dX0_isOn_2 : decode cX0_isOn 2 = .ok (.getfield 26, 3) := by decide +kernel
theorem dX0_isOn_5 : decode cX0_isOn 5 = .ok (.if_icmp .ge 7, 3) := by decide +kernel
theorem dX0_isOn_8 : decode cX0_isOn 8 = .ok (.iconst 1, 1) := by decide +kernel
theorem dX0_isOn_9 : decode cX0_isOn 9 = .ok (.goto 4, 3) := by decide +kernel
theorem dX0_isOn_12 : decode cX0_isOn 12 = .ok (.iconst 0, 1) := by decide +kernel
theorem dX0_isOn_13 : decode cX0_isOn 13 = .ok (.ireturn, 1) := by decide +kernel
set_option maxRecDepth 20000 in
theorem ggX0_isThere_X0_isOn : GoodIn wsX0_isThere wsX0_isOn := goodIn_r _ [8, 9, 13, 14, 15, 16, 17, 18] (by decide +kernel) (by decide +kernel)
set_option maxRecDepth 20000 in
theorem gX0_isThere_X0_isOn : GoodIn wsX0_isThere (wsV RX0 32 RX0 yX0_isOn wsX0_isOn) := goodIn_app (goodIn_of _ (by decide +kernel)) ggX0_isThere_X0_isOn
set_option maxRecDepth 20000 in
theorem ggX0_isThere_X0_sumOf : GoodIn wsX0_isThere wsX0_sumOf := goodIn_r _ [12] (by decide +kernel) (by decide +kernel)
set_option maxRecDepth 20000 in
theorem gX0_isThere_X0_sumOf : GoodIn wsX0_isThere (va_wsS RX0 36 yX0_sumOf wsX0_sumOf) := goodIn_app (goodIn_of _ (by decide +kernel)) ggX0_isThere_X0_sumOf
theorem dX0_isThere_0 : decode cX0_isThere 0 = .ok (.aload_n 0, 1) := by decide +kernel
theorem dX0_isThere_1 : decode cX0_isThere 1 = .ok (.iload_n 1, 1) := by decide +kernel
theorem dX0_isThere_2 : decode cX0_isThere 2 = .ok (.invokevirtual 32, 3) := by decide +kernel
theorem dX0_isThere_5 : decode cX0_isThere 5 = .ok (.ifCond .eq 36, 3) := by decide +kernel
theorem dX0_isThere_8 : decode cX0_isThere 8 = .ok (.aload_n 0, 1) := by decide +kernel
theorem dX0_isThere_9 : decode cX0_isThere 9 = .ok (.getfield 18, 3) := by decide +kernel
theorem dX0_isThere_12 : decode cX0_isThere 12 = .ok (.iload_n 1, 1) := by decide +kernel
theorem dX0_isThere_13 : decode cX0_isThere 13 = .ok (.baload, 1) := by decide +kernel
theorem dX0_isThere_14 : decode cX0_isThere 14 = .ok (.ifCond .ne 27, 3) := by decide +kernel
theorem dX0_isThere_17 : decode cX0_isThere 17 = .ok (.aload_n 0, 1) := by decide +kernel
theorem dX0_isThere_18 : decode cX0_isThere 18 = .ok (.getfield 15, 3) := by decide +kernel
theorem dX0_isThere_21 : decode cX0_isThere 21 = .ok (.iload_n 1, 1) := by decide +kernel
theorem dX0_isThere_22 : decode cX0_isThere 22 = .ok (.iaload, 1) := by decide +kernel
theorem dX0_isThere_23 : decode cX0_isThere 23 = .ok (.aload_n 0, 1) := by decide +kernel
theorem dX0_isThere_24 : decode cX0_isThere 24 = .ok (.getfield 9, 3) := by decide +kernel
theorem dX0_isThere_27 : decode cX0_isThere 27 = .ok (.iload_n 1, 1) := by decide +kernel
theorem dX0_isThere_28 : decode cX0_isThere 28 = .ok (.bipush 8, 2) := by decide +kernel
theorem dX0_isThere_30 : decode cX0_isThere 30 = .ok (.imul, 1) := by decide +kernel
theorem dX0_isThere_31 : decode cX0_isThere 31 = .ok (.invokestatic 36, 3) := by decide +kernel
theorem dX0_isThere_34 : decode cX0_isThere 34 = .ok (.if_icmp .ne 7, 3) := by decide +kernel
theorem dX0_isThere_37 : decode cX0_isThere 37 = .ok (.iconst 1, 1) := by decide +kernel
theorem dX0_isThere_38 : decode cX0_isThere 38 = .ok (.goto 4, 3) := by decide +kernel
theorem dX0_isThere_41 : decode cX0_isThere 41 = .ok (.iconst 0, 1) := by decide +kernel
theorem dX0_isThere_42 : decode cX0_isThere 42 = .ok (.ireturn, 1) := by decide +kernel
theorem dX0_sumOf_0 : decode cX0_sumOf 0 = .ok (.iconst 0, 1) := by decide +kernel
theorem dX0_sumOf_1 : decode cX0_sumOf 1 = .ok (.istore_n 2, 1) := by decide +kernel
theorem dX0_sumOf_2 : decode cX0_sumOf 2 = .ok (.iconst 0, 1) := by decide +kernel
theorem dX0_sumOf_3 : decode cX0_sumOf 3 = .ok (.istore_n 3, 1) := by decide +kernel
theorem dX0_sumOf_4 : decode cX0_sumOf 4 = .ok (.iload_n 3, 1) := by decide +kernel
theorem dX0_sumOf_5 : decode cX0_sumOf 5 = .ok (.bipush 8, 2) := by decide +kernel
theorem dX0_sumOf_7 : decode cX0_sumOf 7 = .ok (.if_icmp .ge 23, 3) := by decide +kernel
theorem dX0_sumOf_10 : decode cX0_sumOf 10 = .ok (.iload_n 2, 1) := by decide +kernel
theorem dX0_sumOf_11 : decode cX0_sumOf 11 = .ok (.aload_n 0, 1) := by decide +kernel
theorem dX0_sumOf_12 : decode cX0_sumOf 12 = .ok (.iload_n 1, 1) := by decide +kernel
theorem dX0_sumOf_13 : decode cX0_sumOf 13 = .ok (.iload_n 3, 1) := by decide +kernel
theorem dX0_sumOf_14 : decode cX0_sumOf 14 = .ok (.iadd, 1) := by decide +kernel
theorem dX0_sumOf_15 : decode cX0_sumOf 15 = .ok (.iaload, 1) := by decide +kernel
theorem dX0_sumOf_16 : decode cX0_sumOf 16 = .ok (.iconst 2, 1) := by decide +kernel
theorem dX0_sumOf_17 : decode cX0_sumOf 17 = .ok (.iload_n 3, 1) := by decide +kernel
theorem dX0_sumOf_18 : decode cX0_sumOf 18 = .ok (.imul, 1) := by decide +kernel
theorem dX0_sumOf_19 : decode cX0_sumOf 19 = .ok (.iconst 1, 1) := by decide +kernel
theorem dX0_sumOf_20 : decode cX0_sumOf 20 = .ok (.iadd, 1) := by decide +kernel
theorem dX0_sumOf_21 : decode cX0_sumOf 21 = .ok (.imul, 1) := by decide +kernel
theorem dX0_sumOf_22 : decode cX0_sumOf 22 = .ok (.iadd, 1) := by decide +kernel
theorem dX0_sumOf_23 : decode cX0_sumOf 23 = .ok (.istore_n 2, 1) := by decide +kernel
theorem dX0_sumOf_24 : decode cX0_sumOf 24 = .ok (.iinc 3 1, 3) := by decide +kernel
theorem dX0_sumOf_27 : decode cX0_sumOf 27 = .ok (.goto (-23), 3) := by decide +kernel
theorem dX0_sumOf_30 : decode cX0_sumOf 30 = .ok (.iload_n 2, 1) := by decide +kernel
theorem dX0_sumOf_31 : decode cX0_sumOf 31 = .ok (.ireturn, 1) := by decide +kernel
set_option maxRecDepth 20000 in
theorem ggX0_take_X0_sumOf : GoodIn wsX0_take wsX0_sumOf := goodIn_r _ [8] (by decide +kernel) (by decide +kernel)
set_option maxRecDepth 20000 in
theorem gX0_take_X0_sumOf : GoodIn wsX0_take (va_wsS RX0 36 yX0_sumOf wsX0_sumOf) := goodIn_app (goodIn_of _ (by decide +kernel)) ggX0_take_X0_sumOf
theorem dX0_take_0 : decode cX0_take 0 = .ok (.iconst 0, 1) := by decide +kernel
theorem dX0_take_1 : decode cX0_take 1 = .ok (.istore 5, 2) := by decide +kernel
theorem dX0_take_3 : decode cX0_take 3 = .ok (.iload 5, 2) := by decide +kernel
theorem dX0_take_5 : decode cX0_take 5 = .ok (.bipush 8, 2) := by decide +kernel
theorem dX0_take_7 : decode cX0_take 7 = .ok (.if_icmp .ge 34, 3) := by decide +kernel
theorem dX0_take_10 : decode cX0_take 10 = .ok (.iload 5, 2) := by decide +kernel
theorem dX0_take_12 : decode cX0_take 12 = .ok (.iload 4, 2) := by decide +kernel
theorem dX0_take_14 : decode cX0_take 14 = .ok (.if_icmp .ge 27, 3) := by decide +kernel
theorem dX0_take_17 : decode cX0_take 17 = .ok (.aload_n 0, 1) := by decide +kernel
theorem dX0_take_18 : decode cX0_take 18 = .ok (.getfield 9, 3) := by decide +kernel
theorem dX0_take_21 : decode cX0_take 21 = .ok (.iload_n 1, 1) := by decide +kernel
theorem dX0_take_22 : decode cX0_take 22 = .ok (.bipush 8, 2) := by decide +kernel
theorem dX0_take_24 : decode cX0_take 24 = .ok (.imul, 1) := by decide +kernel
theorem dX0_take_25 : decode cX0_take 25 = .ok (.iload 5, 2) := by decide +kernel
theorem dX0_take_27 : decode cX0_take 27 = .ok (.iadd, 1) := by decide +kernel
theorem dX0_take_28 : decode cX0_take 28 = .ok (.aload_n 2, 1) := by decide +kernel
theorem dX0_take_29 : decode cX0_take 29 = .ok (.iload_n 3, 1) := by decide +kernel
theorem dX0_take_30 : decode cX0_take 30 = .ok (.iload 5, 2) := by decide +kernel
theorem dX0_take_32 : decode cX0_take 32 = .ok (.iadd, 1) := by decide +kernel
theorem dX0_take_33 : decode cX0_take 33 = .ok (.iaload, 1) := by decide +kernel
theorem dX0_take_34 : decode cX0_take 34 = .ok (.iastore, 1) := by decide +kernel
theorem dX0_take_35 : decode cX0_take 35 = .ok (.iinc 5 1, 3) := by decide +kernel
theorem dX0_take_38 : decode cX0_take 38 = .ok (.goto (-35), 3) := by decide +kernel
theorem dX0_take_41 : decode cX0_take 41 = .ok (.iload 4, 2) := by decide +kernel
theorem dX0_take_43 : decode cX0_take 43 = .ok (.bipush 8, 2) := by decide +kernel
theorem dX0_take_45 : decode cX0_take 45 = .ok (.if_icmp .le 14, 3) := by decide +kernel
theorem dX0_take_48 : decode cX0_take 48 = .ok (.aload_n 0, 1) := by decide +kernel
theorem dX0_take_49 : decode cX0_take 49 = .ok (.getfield 15, 3) := by decide +kernel
theorem dX0_take_52 : decode cX0_take 52 = .ok (.iload_n 1, 1) := by decide +kernel
theorem dX0_take_53 : decode cX0_take 53 = .ok (.aload_n 2, 1) := by decide +kernel
theorem dX0_take_54 : decode cX0_take 54 = .ok (.iload_n 3, 1) := by decide +kernel
theorem dX0_take_55 : decode cX0_take 55 = .ok (.invokestatic 36, 3) := by decide +kernel
theorem dX0_take_58 : decode cX0_take 58 = .ok (.iastore, 1) := by decide +kernel
theorem dX0_take_59 : decode cX0_take 59 = .ok (.aload_n 0, 1) := by decide +kernel
theorem dX0_take_60 : decode cX0_take 60 = .ok (.getfield 18, 3) := by decide +kernel
theorem dX0_take_63 : decode cX0_take 63 = .ok (.iload_n 1, 1) := by decide +kernel
theorem dX0_take_64 : decode cX0_take 64 = .ok (.iload 4, 2) := by decide +kernel
theorem dX0_take_66 : decode cX0_take 66 = .ok (.bipush 8, 2) := by decide +kernel
theorem dX0_take_68 : decode cX0_take 68 = .ok (.if_icmp .gt 7, 3) := by decide +kernel
theorem dX0_take_71 : decode cX0_take 71 = .ok (.iconst 1, 1) := by decide +kernel
theorem dX0_take_72 : decode cX0_take 72 = .ok (.goto 4, 3) := by decide +kernel
theorem dX0_take_75 : decode cX0_take 75 = .ok (.iconst 0, 1) := by decide +kernel
theorem dX0_take_76 : decode cX0_take 76 = .ok (.bastore, 1) := by decide +kernel
theorem dX0_take_77 : decode cX0_take 77 = .ok (.aload_n 0, 1) := by decide +kernel
theorem dX0_take_78 : decode cX0_take 78 = .ok (.dup, 1) := by decide +kernel
theorem dX0_take_79 : decode cX0_take 79 = .ok (.getfield 29, 3) := by decide +kernel
theorem dX0_take_82 : decode cX0_take 82 = .ok (.iconst 1, 1) := by decide +kernel
theorem dX0_take_83 : decode cX0_take 83 = .ok (.iadd, 1) := by decide +kernel
theorem dX0_take_84 : decode cX0_take 84 = .ok (.putfield 29, 3) := by decide +kernel
theorem dX0_take_87 : decode cX0_take 87 = .ok (.return_, 1) := by decide +kernel
theorem dX0_replace_0 : decode cX0_replace 0 = .ok (.iconst 0, 1) := by decide +kernel
theorem dX0_replace_1 : decode cX0_replace 1 = .ok (.istore_n 1, 1) := by decide +kernel
theorem dX0_replace_2 : decode cX0_replace 2 = .ok (.iload_n 1, 1) := by decide +kernel
theorem dX0_replace_3 : decode cX0_replace 3 = .ok (.sipush 192, 3) := by decide +kernel
theorem dX0_replace_6 : decode cX0_replace 6 = .ok (.if_icmp .ge 16, 3) := by decide +kernel
theorem dX0_replace_9 : decode cX0_replace 9 = .ok (.aload_n 0, 1) := by decide +kernel
theorem dX0_replace_10 : decode cX0_replace 10 = .ok (.getfield 9, 3) := by decide +kernel
theorem dX0_replace_13 : decode cX0_replace 13 = .ok (.iload_n 1, 1) := by decide +kernel
theorem dX0_replace_14 : decode cX0_replace 14 = .ok (.iconst 0, 1) := by decide +kernel
theorem dX0_replace_15 : decode cX0_replace 15 = .ok (.iastore, 1) := by decide +kernel
theorem dX0_replace_16 : decode cX0_replace 16 = .ok (.iinc 1 1, 3) := by decide +kernel
theorem dX0_replace_19 : decode cX0_replace 19 = .ok (.goto (-17), 3) := by decide +kernel
theorem dX0_replace_22 : decode cX0_replace 22 = .ok (.iconst 0, 1) := by decide +kernel
theorem dX0_replace_23 : decode cX0_replace 23 = .ok (.istore_n 1, 1) := by decide +kernel
theorem dX0_replace_24 : decode cX0_replace 24 = .ok (.iload_n 1, 1) := by decide +kernel
theorem dX0_replace_25 : decode cX0_replace 25 = .ok (.bipush 24, 2) := by decide +kernel
theorem dX0_replace_27 : decode cX0_replace 27 = .ok (.if_icmp .ge 23, 3) := by decide +kernel
theorem dX0_replace_30 : decode cX0_replace 30 = .ok (.aload_n 0, 1) := by decide +kernel
theorem dX0_replace_31 : decode cX0_replace 31 = .ok (.getfield 15, 3) := by decide +kernel
theorem dX0_replace_34 : decode cX0_replace 34 = .ok (.iload_n 1, 1) := by decide +kernel
theorem dX0_replace_35 : decode cX0_replace 35 = .ok (.iconst 0, 1) := by decide +kernel
theorem dX0_replace_36 : decode cX0_replace 36 = .ok (.iastore, 1) := by decide +kernel
theorem dX0_replace_37 : decode cX0_replace 37 = .ok (.aload_n 0, 1) := by decide +kernel
theorem dX0_replace_38 : decode cX0_replace 38 = .ok (.getfield 18, 3) := by decide +kernel
theorem dX0_replace_41 : decode cX0_replace 41 = .ok (.iload_n 1, 1) := by decide +kernel
theorem dX0_replace_42 : decode cX0_replace 42 = .ok (.iconst 0, 1) := by decide +kernel
theorem dX0_replace_43 : decode cX0_replace 43 = .ok (.bastore, 1) := by decide +kernel
theorem dX0_replace_44 : decode cX0_replace 44 = .ok (.iinc 1 1, 3) := by decide +kernel
theorem dX0_replace_47 : decode cX0_replace 47 = .ok (.goto (-23), 3) := by decide +kernel
theorem dX0_replace_50 : decode cX0_replace 50 = .ok (.aload_n 0, 1) := by decide +kernel
theorem dX0_replace_51 : decode cX0_replace 51 = .ok (.iconst 2, 1) := by decide +kernel
theorem dX0_replace_52 : decode cX0_replace 52 = .ok (.putfield 22, 3) := by decide +kernel
theorem dX0_replace_55 : decode cX0_replace 55 = .ok (.aload_n 0, 1) := by decide +kernel
theorem dX0_replace_56 : decode cX0_replace 56 = .ok (.iconst 0, 1) := by decide +kernel
theorem dX0_replace_57 : decode cX0_replace 57 = .ok (.putfield 26, 3) := by decide +kernel
theorem dX0_replace_60 : decode cX0_replace 60 = .ok (.return_, 1) := by decide +kernel
theorem dX0_forgetBuilding_0 : decode cX0_forgetBuilding 0 = .ok (.aload_n 0, 1) := by decide +kernel
theorem dX0_forgetBuilding_1 : decode cX0_forgetBuilding 1 = .ok (.getfield 22, 3) := by decide +kernel
theorem dX0_forgetBuilding_4 : decode cX0_forgetBuilding 4 = .ok (.iconst 2, 1) := by decide +kernel
theorem dX0_forgetBuilding_5 : decode cX0_forgetBuilding 5 = .ok (.if_icmp .ne 8, 3) := by decide +kernel
theorem dX0_forgetBuilding_8 : decode cX0_forgetBuilding 8 = .ok (.aload_n 0, 1) := by decide +kernel
theorem dX0_forgetBuilding_9 : decode cX0_forgetBuilding 9 = .ok (.iconst 0, 1) := by decide +kernel
theorem dX0_forgetBuilding_10 : decode cX0_forgetBuilding 10 = .ok (.putfield 26, 3) := by decide +kernel
theorem dX0_forgetBuilding_13 : decode cX0_forgetBuilding 13 = .ok (.return_, 1) := by decide +kernel
