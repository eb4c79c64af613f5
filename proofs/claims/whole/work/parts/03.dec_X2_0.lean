set_option maxRecDepth 20000 in
theorem ggX2_init_X1_init : GoodIn wsX2_init wsX1_init := goodIn_r _ [14, 15, 2, 3, 16, 17, 18, 19, 20, 27, 28, 29, 30] (by decide +kernel) (by decide +kernel)
set_option maxRecDepth 20000 in
theorem gX2_init_X1_init_n33 : GoodIn wsX2_init (wsX1_init) := ggX2_init_X1_init
theorem dX2_init_0 : decode cX2_init 0 = .ok (.aload_n 0, 1) := by decide +kernel
theorem dX2_init_1 : decode cX2_init 1 = .ok (.invokespecial 3, 3) := by decide +kernel
theorem dX2_init_4 : decode cX2_init 4 = .ok (.aload_n 0, 1) := by decide +kernel
theorem dX2_init_5 : decode cX2_init 5 = .ok (.bipush 11, 2) := by decide +kernel
theorem dX2_init_7 : decode cX2_init 7 = .ok (.anewarray 9, 3) := by decide +kernel
theorem dX2_init_10 : decode cX2_init 10 = .ok (.putfield 11, 3) := by decide +kernel
theorem dX2_init_13 : decode cX2_init 13 = .ok (.aload_n 0, 1) := by decide +kernel
theorem dX2_init_14 : decode cX2_init 14 = .ok (.iconst 0, 1) := by decide +kernel
theorem dX2_init_15 : decode cX2_init 15 = .ok (.putfield 17, 3) := by decide +kernel
theorem dX2_init_18 : decode cX2_init 18 = .ok (.aload_n 0, 1) := by decide +kernel
theorem dX2_init_19 : decode cX2_init 19 = .ok (.iconst 0, 1) := by decide +kernel
theorem dX2_init_20 : decode cX2_init 20 = .ok (.putfield 21, 3) := by decide +kernel
theorem dX2_init_23 : decode cX2_init 23 = .ok (.aload_n 0, 1) := by decide +kernel
theorem dX2_init_24 : decode cX2_init 24 = .ok (.iconst 0, 1) := by decide +kernel
theorem dX2_init_25 : decode cX2_init 25 = .ok (.putfield 24, 3) := by decide +kernel
theorem dX2_init_28 : decode cX2_init 28 = .ok (.aload_n 0, 1) := by decide +kernel
theorem dX2_init_29 : decode cX2_init 29 = .ok (.iconst 0, 1) := by decide +kernel
theorem dX2_init_30 : decode cX2_init 30 = .ok (.putfield 27, 3) := by decide +kernel
theorem dX2_init_33 : decode cX2_init 33 = .ok (.aload_n 0, 1) := by decide +kernel
theorem dX2_init_34 : decode cX2_init 34 = .ok (.iconst 1, 1) := by decide +kernel
theorem dX2_init_35 : decode cX2_init 35 = .ok (.putfield 30, 3) := by decide +kernel
theorem dX2_init_38 : decode cX2_init 38 = .ok (.iconst 0, 1) := by decide +kernel
theorem dX2_init_39 : decode cX2_init 39 = .ok (.istore_n 2, 1) := by decide +kernel
theorem dX2_init_40 : decode cX2_init 40 = .ok (.iload_n 2, 1) := by decide +kernel
theorem dX2_init_41 : decode cX2_init 41 = .ok (.bipush 11, 2) := by decide +kernel
theorem dX2_init_43 : decode cX2_init 43 = .ok (.if_icmp .ge 23, 3) := by decide +kernel
theorem dX2_init_46 : decode cX2_init 46 = .ok (.aload_n 0, 1) := by decide +kernel
theorem dX2_init_47 : decode cX2_init 47 = .ok (.getfield 11, 3) := by decide +kernel
theorem dX2_init_50 : decode cX2_init 50 = .ok (.iload_n 2, 1) := by decide +kernel
theorem dX2_init_51 : decode cX2_init 51 = .ok (.new 9, 3) := by decide +kernel
theorem dX2_init_54 : decode cX2_init 54 = .ok (.dup, 1) := by decide +kernel
theorem dX2_init_55 : decode cX2_init 55 = .ok (.iload_n 1, 1) := by decide +kernel
theorem dX2_init_56 : decode cX2_init 56 = .ok (.invokespecial 33, 3) := by decide +kernel
theorem dX2_init_59 : decode cX2_init 59 = .ok (.aastore, 1) := by decide +kernel
theorem dX2_init_60 : decode cX2_init 60 = .ok (.iinc 2 1, 3) := by decide +kernel
theorem dX2_init_63 : decode cX2_init 63 = .ok (.goto (-23), 3) := by decide +kernel
theorem dX2_init_66 : decode cX2_init 66 = .ok (.return_, 1) := by decide +kernel
theorem dX2_entry_0 : decode cX2_entry 0 = .ok (.aload_n 0, 1) := by decide +kernel
theorem dX2_entry_1 : decode cX2_entry 1 = .ok (.getfield 11, 3) := by decide +kernel
theorem dX2_entry_4 : decode cX2_entry 4 = .ok (.aload_n 0, 1) := by decide +kernel
theorem dX2_entry_5 : decode cX2_entry 5 = .ok (.getfield 17, 3) := by decide +kernel
theorem dX2_entry_8 : decode cX2_entry 8 = .ok (.iload_n 1, 1) := by decide +kernel
theorem dX2_entry_9 : decode cX2_entry 9 = .ok (.iadd, 1) := by decide +kernel
theorem dX2_entry_10 : decode cX2_entry 10 = .ok (.bipush 11, 2) := by decide +kernel
theorem dX2_entry_12 : decode cX2_entry 12 = .ok (.irem, 1) := by decide +kernel
theorem dX2_entry_13 : decode cX2_entry 13 = .ok (.aaload, 1) := by decide +kernel
theorem dX2_entry_14 : decode cX2_entry 14 = .ok (.areturn, 1) := by decide +kernel
set_option maxRecDepth 20000 in
theorem ggX2_made_X2_entry : GoodIn wsX2_made wsX2_entry := goodIn_r _ [6, 7, 8, 9, 10, 11, 12, 13, 14] (by decide +kernel) (by decide +kernel)
set_option maxRecDepth 20000 in
theorem gX2_made_X2_entry : GoodIn wsX2_made (wsV RX2 36 RX2 yX2_entry wsX2_entry) := goodIn_app (goodIn_of _ (by decide +kernel)) ggX2_made_X2_entry
theorem dX2_made_0 : decode cX2_made 0 = .ok (.aload_n 0, 1) := by decide +kernel
theorem dX2_made_1 : decode cX2_made 1 = .ok (.aload_n 0, 1) := by decide +kernel
theorem dX2_made_2 : decode cX2_made 2 = .ok (.getfield 21, 3) := by decide +kernel
theorem dX2_made_5 : decode cX2_made 5 = .ok (.invokevirtual 36, 3) := by decide +kernel
theorem dX2_made_8 : decode cX2_made 8 = .ok (.areturn, 1) := by decide +kernel
set_option maxRecDepth 20000 in
theorem ggX2_addMade_X2_made : GoodIn wsX2_addMade wsX2_made := goodIn_r _ [7, 2, 8, 9, 10, 6, 11, 12, 13, 26, 27, 28, 29, 30, 31] (by decide +kernel) (by decide +kernel)
set_option maxRecDepth 20000 in
theorem gX2_addMade_X2_made : GoodIn wsX2_addMade (wsV RX2 40 RX2 yX2_made wsX2_made) := goodIn_app (goodIn_of _ (by decide +kernel)) ggX2_addMade_X2_made
set_option maxRecDepth 20000 in
theorem ggX2_addMade_X1_cells : GoodIn wsX2_addMade wsX1_cells := goodIn_r _ [17, 18, 19, 20, 21, 22, 23, 24, 25, 32, 33, 34, 35] (by decide +kernel) (by decide +kernel)
set_option maxRecDepth 20000 in
theorem gX2_addMade_X1_cells_n44 : GoodIn wsX2_addMade (wsX1_cells) := ggX2_addMade_X1_cells
theorem dX2_addMade_0 : decode cX2_addMade 0 = .ok (.aload_n 0, 1) := by decide +kernel
theorem dX2_addMade_1 : decode cX2_addMade 1 = .ok (.dup, 1) := by decide +kernel
theorem dX2_addMade_2 : decode cX2_addMade 2 = .ok (.getfield 24, 3) := by decide +kernel
theorem dX2_addMade_5 : decode cX2_addMade 5 = .ok (.aload_n 0, 1) := by decide +kernel
theorem dX2_addMade_6 : decode cX2_addMade 6 = .ok (.invokevirtual 40, 3) := by decide +kernel
theorem dX2_addMade_9 : decode cX2_addMade 9 = .ok (.invokevirtual 44, 3) := by decide +kernel
theorem dX2_addMade_12 : decode cX2_addMade 12 = .ok (.iadd, 1) := by decide +kernel
theorem dX2_addMade_13 : decode cX2_addMade 13 = .ok (.putfield 24, 3) := by decide +kernel
theorem dX2_addMade_16 : decode cX2_addMade 16 = .ok (.aload_n 0, 1) := by decide +kernel
theorem dX2_addMade_17 : decode cX2_addMade 17 = .ok (.dup, 1) := by decide +kernel
theorem dX2_addMade_18 : decode cX2_addMade 18 = .ok (.getfield 21, 3) := by decide +kernel
theorem dX2_addMade_21 : decode cX2_addMade 21 = .ok (.iconst 1, 1) := by decide +kernel
theorem dX2_addMade_22 : decode cX2_addMade 22 = .ok (.iadd, 1) := by decide +kernel
theorem dX2_addMade_23 : decode cX2_addMade 23 = .ok (.putfield 21, 3) := by decide +kernel
theorem dX2_addMade_26 : decode cX2_addMade 26 = .ok (.return_, 1) := by decide +kernel
theorem dX2_freeCells_0 : decode cX2_freeCells 0 = .ok (.bipush 32, 2) := by decide +kernel
theorem dX2_freeCells_2 : decode cX2_freeCells 2 = .ok (.aload_n 0, 1) := by decide +kernel
theorem dX2_freeCells_3 : decode cX2_freeCells 3 = .ok (.getfield 24, 3) := by decide +kernel
theorem dX2_freeCells_6 : decode cX2_freeCells 6 = .ok (.isub, 1) := by decide +kernel
theorem dX2_freeCells_7 : decode cX2_freeCells 7 = .ok (.ireturn, 1) := by decide +kernel
theorem dX2_nextSerial_0 : decode cX2_nextSerial 0 = .ok (.aload_n 0, 1) := by decide +kernel
theorem dX2_nextSerial_1 : decode cX2_nextSerial 1 = .ok (.getfield 30, 3) := by decide +kernel
theorem dX2_nextSerial_4 : decode cX2_nextSerial 4 = .ok (.aload_n 0, 1) := by decide +kernel
theorem dX2_nextSerial_5 : decode cX2_nextSerial 5 = .ok (.getfield 21, 3) := by decide +kernel
theorem dX2_nextSerial_8 : decode cX2_nextSerial 8 = .ok (.iadd, 1) := by decide +kernel
theorem dX2_nextSerial_9 : decode cX2_nextSerial 9 = .ok (.ireturn, 1) := by decide +kernel
set_option maxRecDepth 20000 in
theorem ggX2_latestWith_X2_entry : GoodIn wsX2_latestWith wsX2_entry := goodIn_r _ [6, 7, 8, 14, 15, 16, 17, 18, 19] (by decide +kernel) (by decide +kernel)
set_option maxRecDepth 20000 in
theorem gX2_latestWith_X2_entry : GoodIn wsX2_latestWith (wsV RX2 36 RX2 yX2_entry wsX2_entry) := goodIn_app (goodIn_of _ (by decide +kernel)) ggX2_latestWith_X2_entry
set_option maxRecDepth 20000 in
theorem ggX2_latestWith_X1_has : GoodIn wsX2_latestWith wsX1_has := goodIn_r _ [12, 13, 20, 21, 22, 23] (by decide +kernel) (by decide +kernel)
set_option maxRecDepth 20000 in
theorem gX2_latestWith_X1_has_n51 : GoodIn wsX2_latestWith (wsX1_has) := ggX2_latestWith_X1_has
theorem dX2_latestWith_0 : decode cX2_latestWith 0 = .ok (.aload_n 0, 1) := by decide +kernel
theorem dX2_latestWith_1 : decode cX2_latestWith 1 = .ok (.getfield 21, 3) := by decide +kernel
theorem dX2_latestWith_4 : decode cX2_latestWith 4 = .ok (.iconst 1, 1) := by decide +kernel
theorem dX2_latestWith_5 : decode cX2_latestWith 5 = .ok (.isub, 1) := by decide +kernel
theorem dX2_latestWith_6 : decode cX2_latestWith 6 = .ok (.istore_n 3, 1) := by decide +kernel
theorem dX2_latestWith_7 : decode cX2_latestWith 7 = .ok (.iload_n 3, 1) := by decide +kernel
theorem dX2_latestWith_8 : decode cX2_latestWith 8 = .ok (.ifCond .lt 37, 3) := by decide +kernel
theorem dX2_latestWith_11 : decode cX2_latestWith 11 = .ok (.aload_n 0, 1) := by decide +kernel
theorem dX2_latestWith_12 : decode cX2_latestWith 12 = .ok (.iload_n 3, 1) := by decide +kernel
theorem dX2_latestWith_13 : decode cX2_latestWith 13 = .ok (.invokevirtual 36, 3) := by decide +kernel
theorem dX2_latestWith_16 : decode cX2_latestWith 16 = .ok (.astore 4, 2) := by decide +kernel
theorem dX2_latestWith_18 : decode cX2_latestWith 18 = .ok (.aload 4, 2) := by decide +kernel
theorem dX2_latestWith_20 : decode cX2_latestWith 20 = .ok (.getfield 48, 3) := by decide +kernel
theorem dX2_latestWith_23 : decode cX2_latestWith 23 = .ok (.iload_n 1, 1) := by decide +kernel
theorem dX2_latestWith_24 : decode cX2_latestWith 24 = .ok (.if_icmp .ne 15, 3) := by decide +kernel
theorem dX2_latestWith_27 : decode cX2_latestWith 27 = .ok (.aload 4, 2) := by decide +kernel
theorem dX2_latestWith_29 : decode cX2_latestWith 29 = .ok (.iload_n 2, 1) := by decide +kernel
theorem dX2_latestWith_30 : decode cX2_latestWith 30 = .ok (.invokevirtual 51, 3) := by decide +kernel
theorem dX2_latestWith_33 : decode cX2_latestWith 33 = .ok (.ifCond .eq 6, 3) := by decide +kernel
theorem dX2_latestWith_36 : decode cX2_latestWith 36 = .ok (.aload 4, 2) := by decide +kernel
theorem dX2_latestWith_38 : decode cX2_latestWith 38 = .ok (.areturn, 1) := by decide +kernel
theorem dX2_latestWith_39 : decode cX2_latestWith 39 = .ok (.iinc 3 (-1), 3) := by decide +kernel
theorem dX2_latestWith_42 : decode cX2_latestWith 42 = .ok (.goto (-35), 3) := by decide +kernel
theorem dX2_latestWith_45 : decode cX2_latestWith 45 = .ok (.aconst_null, 1) := by decide +kernel
theorem dX2_latestWith_46 : decode cX2_latestWith 46 = .ok (.areturn, 1) := by decide +kernel
set_option maxRecDepth 20000 in
theorem ggX2_recordsUpTo_X2_entry : GoodIn wsX2_recordsUpTo wsX2_entry := goodIn_r _ [6, 7, 8, 9, 10, 11, 12, 13, 14] (by decide +kernel) (by decide +kernel)
set_option maxRecDepth 20000 in
theorem gX2_recordsUpTo_X2_entry : GoodIn wsX2_recordsUpTo (wsV RX2 36 RX2 yX2_entry wsX2_entry) := goodIn_app (goodIn_of _ (by decide +kernel)) ggX2_recordsUpTo_X2_entry
theorem dX2_recordsUpTo_0 : decode cX2_recordsUpTo 0 = .ok (.iconst 0, 1) := by decide +kernel
theorem dX2_recordsUpTo_1 : decode cX2_recordsUpTo 1 = .ok (.istore_n 2, 1) := by decide +kernel
theorem dX2_recordsUpTo_2 : decode cX2_recordsUpTo 2 = .ok (.iconst 0, 1) := by decide +kernel
theorem dX2_recordsUpTo_3 : decode cX2_recordsUpTo 3 = .ok (.istore_n 3, 1) := by decide +kernel
theorem dX2_recordsUpTo_4 : decode cX2_recordsUpTo 4 = .ok (.iload_n 3, 1) := by decide +kernel
theorem dX2_recordsUpTo_5 : decode cX2_recordsUpTo 5 = .ok (.aload_n 0, 1) := by decide +kernel
theorem dX2_recordsUpTo_6 : decode cX2_recordsUpTo 6 = .ok (.getfield 21, 3) := by decide +kernel
theorem dX2_recordsUpTo_9 : decode cX2_recordsUpTo 9 = .ok (.if_icmp .ge 25, 3) := by decide +kernel
theorem dX2_recordsUpTo_12 : decode cX2_recordsUpTo 12 = .ok (.aload_n 0, 1) := by decide +kernel
theorem dX2_recordsUpTo_13 : decode cX2_recordsUpTo 13 = .ok (.iload_n 3, 1) := by decide +kernel
theorem dX2_recordsUpTo_14 : decode cX2_recordsUpTo 14 = .ok (.invokevirtual 36, 3) := by decide +kernel
theorem dX2_recordsUpTo_17 : decode cX2_recordsUpTo 17 = .ok (.getfield 48, 3) := by decide +kernel
theorem dX2_recordsUpTo_20 : decode cX2_recordsUpTo 20 = .ok (.iload_n 1, 1) := by decide +kernel
theorem dX2_recordsUpTo_21 : decode cX2_recordsUpTo 21 = .ok (.if_icmp .ne 7, 3) := by decide +kernel
theorem dX2_recordsUpTo_24 : decode cX2_recordsUpTo 24 = .ok (.iload_n 3, 1) := by decide +kernel
theorem dX2_recordsUpTo_25 : decode cX2_recordsUpTo 25 = .ok (.iconst 1, 1) := by decide +kernel
theorem dX2_recordsUpTo_26 : decode cX2_recordsUpTo 26 = .ok (.iadd, 1) := by decide +kernel
theorem dX2_recordsUpTo_27 : decode cX2_recordsUpTo 27 = .ok (.istore_n 2, 1) := by decide +kernel
theorem dX2_recordsUpTo_28 : decode cX2_recordsUpTo 28 = .ok (.iinc 3 1, 3) := by decide +kernel
theorem dX2_recordsUpTo_31 : decode cX2_recordsUpTo 31 = .ok (.goto (-27), 3) := by decide +kernel
theorem dX2_recordsUpTo_34 : decode cX2_recordsUpTo 34 = .ok (.iload_n 2, 1) := by decide +kernel
theorem dX2_recordsUpTo_35 : decode cX2_recordsUpTo 35 = .ok (.ireturn, 1) := by decide +kernel
set_option maxRecDepth 20000 in
theorem ggX2_recordsToFree_X2_freeCells : GoodIn wsX2_recordsToFree wsX2_freeCells := goodIn_r _ [6, 7, 26, 27, 28, 29, 30, 31] (by decide +kernel) (by decide +kernel)
set_option maxRecDepth 20000 in
theorem gX2_recordsToFree_X2_freeCells : GoodIn wsX2_recordsToFree (wsV RX2 55 RX2 yX2_freeCells wsX2_freeCells) := goodIn_app (goodIn_of _ (by decide +kernel)) ggX2_recordsToFree_X2_freeCells
set_option maxRecDepth 20000 in
theorem ggX2_recordsToFree_X2_entry : GoodIn wsX2_recordsToFree wsX2_entry := goodIn_r _ [11, 12, 13, 26, 27, 28, 29, 30, 31] (by decide +kernel) (by decide +kernel)
set_option maxRecDepth 20000 in
theorem gX2_recordsToFree_X2_entry : GoodIn wsX2_recordsToFree (wsV RX2 36 RX2 yX2_entry wsX2_entry) := goodIn_app (goodIn_of _ (by decide +kernel)) ggX2_recordsToFree_X2_entry
set_option maxRecDepth 20000 in
theorem ggX2_recordsToFree_X1_cells : GoodIn wsX2_recordsToFree wsX1_cells := goodIn_r _ [17, 18, 19, 20, 21, 22, 23, 24, 25, 32, 33, 34, 35] (by decide +kernel) (by decide +kernel)
set_option maxRecDepth 20000 in
theorem gX2_recordsToFree_X1_cells_n44 : GoodIn wsX2_recordsToFree (wsX1_cells) := ggX2_recordsToFree_X1_cells
theorem dX2_recordsToFree_0 : decode cX2_recordsToFree 0 = .ok (.aload_n 0, 1) := by decide +kernel
theorem dX2_recordsToFree_1 : decode cX2_recordsToFree 1 = .ok (.invokevirtual 55, 3) := by decide +kernel
theorem dX2_recordsToFree_4 : decode cX2_recordsToFree 4 = .ok (.istore_n 2, 1) := by decide +kernel
theorem dX2_recordsToFree_5 : decode cX2_recordsToFree 5 = .ok (.iconst 0, 1) := by decide +kernel
theorem dX2_recordsToFree_6 : decode cX2_recordsToFree 6 = .ok (.istore_n 3, 1) := by decide +kernel
theorem dX2_recordsToFree_7 : decode cX2_recordsToFree 7 = .ok (.iload_n 3, 1) := by decide +kernel
theorem dX2_recordsToFree_8 : decode cX2_recordsToFree 8 = .ok (.aload_n 0, 1) := by decide +kernel
theorem dX2_recordsToFree_9 : decode cX2_recordsToFree 9 = .ok (.getfield 21, 3) := by decide +kernel
theorem dX2_recordsToFree_12 : decode cX2_recordsToFree 12 = .ok (.if_icmp .ge 25, 3) := by decide +kernel
theorem dX2_recordsToFree_15 : decode cX2_recordsToFree 15 = .ok (.iload_n 2, 1) := by decide +kernel
theorem dX2_recordsToFree_16 : decode cX2_recordsToFree 16 = .ok (.iload_n 1, 1) := by decide +kernel
theorem dX2_recordsToFree_17 : decode cX2_recordsToFree 17 = .ok (.if_icmp .ge 20, 3) := by decide +kernel
theorem dX2_recordsToFree_20 : decode cX2_recordsToFree 20 = .ok (.iload_n 2, 1) := by decide +kernel
theorem dX2_recordsToFree_21 : decode cX2_recordsToFree 21 = .ok (.aload_n 0, 1) := by decide +kernel
theorem dX2_recordsToFree_22 : decode cX2_recordsToFree 22 = .ok (.iload_n 3, 1) := by decide +kernel
theorem dX2_recordsToFree_23 : decode cX2_recordsToFree 23 = .ok (.invokevirtual 36, 3) := by decide +kernel
theorem dX2_recordsToFree_26 : decode cX2_recordsToFree 26 = .ok (.invokevirtual 44, 3) := by decide +kernel
theorem dX2_recordsToFree_29 : decode cX2_recordsToFree 29 = .ok (.iadd, 1) := by decide +kernel
theorem dX2_recordsToFree_30 : decode cX2_recordsToFree 30 = .ok (.istore_n 2, 1) := by decide +kernel
theorem dX2_recordsToFree_31 : decode cX2_recordsToFree 31 = .ok (.iinc 3 1, 3) := by decide +kernel
theorem dX2_recordsToFree_34 : decode cX2_recordsToFree 34 = .ok (.goto (-27), 3) := by decide +kernel
theorem dX2_recordsToFree_37 : decode cX2_recordsToFree 37 = .ok (.iload_n 3, 1) := by decide +kernel
theorem dX2_recordsToFree_38 : decode cX2_recordsToFree 38 = .ok (.ireturn, 1) := by decide +kernel
set_option maxRecDepth 20000 in
theorem ggX2_free_X2_entry : GoodIn wsX2_free wsX2_entry := goodIn_r _ [10, 11, 5, 24, 25, 26, 27, 28, 29] (by decide +kernel) (by decide +kernel)
set_option maxRecDepth 20000 in
theorem gX2_free_X2_entry : GoodIn wsX2_free (wsV RX2 36 RX2 yX2_entry wsX2_entry) := goodIn_app (goodIn_of _ (by decide +kernel)) ggX2_free_X2_entry
set_option maxRecDepth 20000 in
theorem ggX2_free_X1_cells : GoodIn wsX2_free wsX1_cells := goodIn_r _ [15, 16, 17, 18, 19, 20, 21, 22, 23, 30, 31, 32, 33] (by decide +kernel) (by decide +kernel)
set_option maxRecDepth 20000 in
theorem gX2_free_X1_cells_n44 : GoodIn wsX2_free (wsX1_cells) := ggX2_free_X1_cells
theorem dX2_free_0 : decode cX2_free 0 = .ok (.iconst 0, 1) := by decide +kernel
theorem dX2_free_1 : decode cX2_free 1 = .ok (.istore_n 2, 1) := by decide +kernel
theorem dX2_free_2 : decode cX2_free 2 = .ok (.iload_n 2, 1) := by decide +kernel
theorem dX2_free_3 : decode cX2_free 3 = .ok (.iload_n 1, 1) := by decide +kernel
theorem dX2_free_4 : decode cX2_free 4 = .ok (.if_icmp .ge 81, 3) := by decide +kernel
theorem dX2_free_7 : decode cX2_free 7 = .ok (.aload_n 0, 1) := by decide +kernel
theorem dX2_free_8 : decode cX2_free 8 = .ok (.getfield 21, 3) := by decide +kernel
theorem dX2_free_11 : decode cX2_free 11 = .ok (.ifCond .le 74, 3) := by decide +kernel
theorem dX2_free_14 : decode cX2_free 14 = .ok (.aload_n 0, 1) := by decide +kernel
theorem dX2_free_15 : decode cX2_free 15 = .ok (.iconst 0, 1) := by decide +kernel
theorem dX2_free_16 : decode cX2_free 16 = .ok (.invokevirtual 36, 3) := by decide +kernel
theorem dX2_free_19 : decode cX2_free 19 = .ok (.invokevirtual 44, 3) := by decide +kernel
theorem dX2_free_22 : decode cX2_free 22 = .ok (.istore_n 3, 1) := by decide +kernel
theorem dX2_free_23 : decode cX2_free 23 = .ok (.aload_n 0, 1) := by decide +kernel
theorem dX2_free_24 : decode cX2_free 24 = .ok (.aload_n 0, 1) := by decide +kernel
theorem dX2_free_25 : decode cX2_free 25 = .ok (.getfield 27, 3) := by decide +kernel
theorem dX2_free_28 : decode cX2_free 28 = .ok (.iload_n 3, 1) := by decide +kernel
theorem dX2_free_29 : decode cX2_free 29 = .ok (.iadd, 1) := by decide +kernel
theorem dX2_free_30 : decode cX2_free 30 = .ok (.bipush 32, 2) := by decide +kernel
theorem dX2_free_32 : decode cX2_free 32 = .ok (.irem, 1) := by decide +kernel
theorem dX2_free_33 : decode cX2_free 33 = .ok (.putfield 27, 3) := by decide +kernel
theorem dX2_free_36 : decode cX2_free 36 = .ok (.aload_n 0, 1) := by decide +kernel
theorem dX2_free_37 : decode cX2_free 37 = .ok (.dup, 1) := by decide +kernel
theorem dX2_free_38 : decode cX2_free 38 = .ok (.getfield 30, 3) := by decide +kernel
theorem dX2_free_41 : decode cX2_free 41 = .ok (.iconst 1, 1) := by decide +kernel
theorem dX2_free_42 : decode cX2_free 42 = .ok (.iadd, 1) := by decide +kernel
theorem dX2_free_43 : decode cX2_free 43 = .ok (.putfield 30, 3) := by decide +kernel
theorem dX2_free_46 : decode cX2_free 46 = .ok (.aload_n 0, 1) := by decide +kernel
theorem dX2_free_47 : decode cX2_free 47 = .ok (.dup, 1) := by decide +kernel
theorem dX2_free_48 : decode cX2_free 48 = .ok (.getfield 24, 3) := by decide +kernel
theorem dX2_free_51 : decode cX2_free 51 = .ok (.iload_n 3, 1) := by decide +kernel
theorem dX2_free_52 : decode cX2_free 52 = .ok (.isub, 1) := by decide +kernel
theorem dX2_free_53 : decode cX2_free 53 = .ok (.putfield 24, 3) := by decide +kernel
theorem dX2_free_56 : decode cX2_free 56 = .ok (.aload_n 0, 1) := by decide +kernel
theorem dX2_free_57 : decode cX2_free 57 = .ok (.aload_n 0, 1) := by decide +kernel
theorem dX2_free_58 : decode cX2_free 58 = .ok (.getfield 17, 3) := by decide +kernel
theorem dX2_free_61 : decode cX2_free 61 = .ok (.iconst 1, 1) := by decide +kernel
theorem dX2_free_62 : decode cX2_free 62 = .ok (.iadd, 1) := by decide +kernel
theorem dX2_free_63 : decode cX2_free 63 = .ok (.bipush 11, 2) := by decide +kernel
theorem dX2_free_65 : decode cX2_free 65 = .ok (.irem, 1) := by decide +kernel
theorem dX2_free_66 : decode cX2_free 66 = .ok (.putfield 17, 3) := by decide +kernel
theorem dX2_free_69 : decode cX2_free 69 = .ok (.aload_n 0, 1) := by decide +kernel
theorem dX2_free_70 : decode cX2_free 70 = .ok (.dup, 1) := by decide +kernel
theorem dX2_free_71 : decode cX2_free 71 = .ok (.getfield 21, 3) := by decide +kernel
theorem dX2_free_74 : decode cX2_free 74 = .ok (.iconst 1, 1) := by decide +kernel
theorem dX2_free_75 : decode cX2_free 75 = .ok (.isub, 1) := by decide +kernel
theorem dX2_free_76 : decode cX2_free 76 = .ok (.putfield 21, 3) := by decide +kernel
theorem dX2_free_79 : decode cX2_free 79 = .ok (.iinc 2 1, 3) := by decide +kernel
theorem dX2_free_82 : decode cX2_free 82 = .ok (.goto (-80), 3) := by decide +kernel
theorem dX2_free_85 : decode cX2_free 85 = .ok (.return_, 1) := by decide +kernel
