theorem dX1_init_0 : decode cX1_init 0 = .ok (.aload_n 0, 1) := by decide +kernel
theorem dX1_init_1 : decode cX1_init 1 = .ok (.invokespecial 3, 3) := by decide +kernel
theorem dX1_init_4 : decode cX1_init 4 = .ok (.aload_n 0, 1) := by decide +kernel
theorem dX1_init_5 : decode cX1_init 5 = .ok (.iconst 0, 1) := by decide +kernel
theorem dX1_init_6 : decode cX1_init 6 = .ok (.putfield 9, 3) := by decide +kernel
theorem dX1_init_9 : decode cX1_init 9 = .ok (.aload_n 0, 1) := by decide +kernel
theorem dX1_init_10 : decode cX1_init 10 = .ok (.iconst 0, 1) := by decide +kernel
theorem dX1_init_11 : decode cX1_init 11 = .ok (.putfield 15, 3) := by decide +kernel
theorem dX1_init_14 : decode cX1_init 14 = .ok (.aload_n 0, 1) := by decide +kernel
theorem dX1_init_15 : decode cX1_init 15 = .ok (.iconst 0, 1) := by decide +kernel
theorem dX1_init_16 : decode cX1_init 16 = .ok (.putfield 18, 3) := by decide +kernel
theorem dX1_init_19 : decode cX1_init 19 = .ok (.aload_n 0, 1) := by decide +kernel
theorem dX1_init_20 : decode cX1_init 20 = .ok (.iload_n 1, 1) := by decide +kernel
theorem dX1_init_21 : decode cX1_init 21 = .ok (.bipush 8, 2) := by decide +kernel
theorem dX1_init_23 : decode cX1_init 23 = .ok (.imul, 1) := by decide +kernel
theorem dX1_init_24 : decode cX1_init 24 = .ok (.newarray .int, 2) := by decide +kernel
theorem dX1_init_26 : decode cX1_init 26 = .ok (.putfield 21, 3) := by decide +kernel
theorem dX1_init_29 : decode cX1_init 29 = .ok (.return_, 1) := by decide +kernel
theorem dX1_begin_0 : decode cX1_begin 0 = .ok (.aload_n 0, 1) := by decide +kernel
theorem dX1_begin_1 : decode cX1_begin 1 = .ok (.iload_n 1, 1) := by decide +kernel
theorem dX1_begin_2 : decode cX1_begin 2 = .ok (.putfield 9, 3) := by decide +kernel
theorem dX1_begin_5 : decode cX1_begin 5 = .ok (.aload_n 0, 1) := by decide +kernel
theorem dX1_begin_6 : decode cX1_begin 6 = .ok (.iconst 0, 1) := by decide +kernel
theorem dX1_begin_7 : decode cX1_begin 7 = .ok (.putfield 15, 3) := by decide +kernel
theorem dX1_begin_10 : decode cX1_begin 10 = .ok (.return_, 1) := by decide +kernel
theorem dX1_has_0 : decode cX1_has 0 = .ok (.aload_n 0, 1) := by decide +kernel
theorem dX1_has_1 : decode cX1_has 1 = .ok (.getfield 15, 3) := by decide +kernel
theorem dX1_has_4 : decode cX1_has 4 = .ok (.iload_n 1, 1) := by decide +kernel
theorem dX1_has_5 : decode cX1_has 5 = .ok (.ishr, 1) := by decide +kernel
theorem dX1_has_6 : decode cX1_has 6 = .ok (.iconst 1, 1) := by decide +kernel
theorem dX1_has_7 : decode cX1_has 7 = .ok (.iand, 1) := by decide +kernel
theorem dX1_has_8 : decode cX1_has 8 = .ok (.iconst 1, 1) := by decide +kernel
theorem dX1_has_9 : decode cX1_has 9 = .ok (.if_icmp .ne 7, 3) := by decide +kernel
theorem dX1_has_12 : decode cX1_has 12 = .ok (.iconst 1, 1) := by decide +kernel
theorem dX1_has_13 : decode cX1_has 13 = .ok (.goto 4, 3) := by decide +kernel
theorem dX1_has_16 : decode cX1_has 16 = .ok (.iconst 0, 1) := by decide +kernel
theorem dX1_has_17 : decode cX1_has 17 = .ok (.ireturn, 1) := by decide +kernel
set_option maxRecDepth 20000 in
theorem ggX1_cells_J6_bitCount_0f7a4 : GoodIn wsX1_cells wsJ6_bitCount_0f7a4 := goodIn_r _ [5, 6, 7, 8] (by decide +kernel) (by decide +kernel)
set_option maxRecDepth 20000 in
theorem gX1_cells_J6_bitCount_0f7a4 : GoodIn wsX1_cells (va_wsS RX1 25 yJ6_bitCount_0f7a4 wsJ6_bitCount_0f7a4) := goodIn_app (goodIn_of _ (by decide +kernel)) ggX1_cells_J6_bitCount_0f7a4
theorem dX1_cells_0 : decode cX1_cells 0 = .ok (.aload_n 0, 1) := by decide +kernel
theorem dX1_cells_1 : decode cX1_cells 1 = .ok (.getfield 15, 3) := by decide +kernel
theorem dX1_cells_4 : decode cX1_cells 4 = .ok (.invokestatic 25, 3) := by decide +kernel
theorem dX1_cells_7 : decode cX1_cells 7 = .ok (.iconst 2, 1) := by decide +kernel
theorem dX1_cells_8 : decode cX1_cells 8 = .ok (.iadd, 1) := by decide +kernel
theorem dX1_cells_9 : decode cX1_cells 9 = .ok (.ireturn, 1) := by decide +kernel
theorem dX1_addDatum_0 : decode cX1_addDatum 0 = .ok (.aload_n 0, 1) := by decide +kernel
theorem dX1_addDatum_1 : decode cX1_addDatum 1 = .ok (.dup, 1) := by decide +kernel
theorem dX1_addDatum_2 : decode cX1_addDatum 2 = .ok (.getfield 15, 3) := by decide +kernel
theorem dX1_addDatum_5 : decode cX1_addDatum 5 = .ok (.iconst 1, 1) := by decide +kernel
theorem dX1_addDatum_6 : decode cX1_addDatum 6 = .ok (.iload_n 1, 1) := by decide +kernel
theorem dX1_addDatum_7 : decode cX1_addDatum 7 = .ok (.ishl, 1) := by decide +kernel
theorem dX1_addDatum_8 : decode cX1_addDatum 8 = .ok (.ior, 1) := by decide +kernel
theorem dX1_addDatum_9 : decode cX1_addDatum 9 = .ok (.putfield 15, 3) := by decide +kernel
theorem dX1_addDatum_12 : decode cX1_addDatum 12 = .ok (.iconst 0, 1) := by decide +kernel
theorem dX1_addDatum_13 : decode cX1_addDatum 13 = .ok (.istore_n 3, 1) := by decide +kernel
theorem dX1_addDatum_14 : decode cX1_addDatum 14 = .ok (.iload_n 3, 1) := by decide +kernel
theorem dX1_addDatum_15 : decode cX1_addDatum 15 = .ok (.bipush 8, 2) := by decide +kernel
theorem dX1_addDatum_17 : decode cX1_addDatum 17 = .ok (.if_icmp .ge 23, 3) := by decide +kernel
theorem dX1_addDatum_20 : decode cX1_addDatum 20 = .ok (.aload_n 0, 1) := by decide +kernel
theorem dX1_addDatum_21 : decode cX1_addDatum 21 = .ok (.getfield 21, 3) := by decide +kernel
theorem dX1_addDatum_24 : decode cX1_addDatum 24 = .ok (.iload_n 1, 1) := by decide +kernel
theorem dX1_addDatum_25 : decode cX1_addDatum 25 = .ok (.bipush 8, 2) := by decide +kernel
theorem dX1_addDatum_27 : decode cX1_addDatum 27 = .ok (.imul, 1) := by decide +kernel
theorem dX1_addDatum_28 : decode cX1_addDatum 28 = .ok (.iload_n 3, 1) := by decide +kernel
theorem dX1_addDatum_29 : decode cX1_addDatum 29 = .ok (.iadd, 1) := by decide +kernel
theorem dX1_addDatum_30 : decode cX1_addDatum 30 = .ok (.iload_n 2, 1) := by decide +kernel
theorem dX1_addDatum_31 : decode cX1_addDatum 31 = .ok (.iload_n 3, 1) := by decide +kernel
theorem dX1_addDatum_32 : decode cX1_addDatum 32 = .ok (.iadd, 1) := by decide +kernel
theorem dX1_addDatum_33 : decode cX1_addDatum 33 = .ok (.iastore, 1) := by decide +kernel
theorem dX1_addDatum_34 : decode cX1_addDatum 34 = .ok (.iinc 3 1, 3) := by decide +kernel
theorem dX1_addDatum_37 : decode cX1_addDatum 37 = .ok (.goto (-23), 3) := by decide +kernel
theorem dX1_addDatum_40 : decode cX1_addDatum 40 = .ok (.return_, 1) := by decide +kernel
theorem dX1_addWords_0 : decode cX1_addWords 0 = .ok (.aload_n 0, 1) := by decide +kernel
theorem dX1_addWords_1 : decode cX1_addWords 1 = .ok (.dup, 1) := by decide +kernel
theorem dX1_addWords_2 : decode cX1_addWords 2 = .ok (.getfield 15, 3) := by decide +kernel
theorem dX1_addWords_5 : decode cX1_addWords 5 = .ok (.iconst 1, 1) := by decide +kernel
theorem dX1_addWords_6 : decode cX1_addWords 6 = .ok (.iload_n 1, 1) := by decide +kernel
theorem dX1_addWords_7 : decode cX1_addWords 7 = .ok (.ishl, 1) := by decide +kernel
theorem dX1_addWords_8 : decode cX1_addWords 8 = .ok (.ior, 1) := by decide +kernel
theorem dX1_addWords_9 : decode cX1_addWords 9 = .ok (.putfield 15, 3) := by decide +kernel
theorem dX1_addWords_12 : decode cX1_addWords 12 = .ok (.iconst 0, 1) := by decide +kernel
theorem dX1_addWords_13 : decode cX1_addWords 13 = .ok (.istore_n 3, 1) := by decide +kernel
theorem dX1_addWords_14 : decode cX1_addWords 14 = .ok (.iload_n 3, 1) := by decide +kernel
theorem dX1_addWords_15 : decode cX1_addWords 15 = .ok (.bipush 8, 2) := by decide +kernel
theorem dX1_addWords_17 : decode cX1_addWords 17 = .ok (.if_icmp .ge 23, 3) := by decide +kernel
theorem dX1_addWords_20 : decode cX1_addWords 20 = .ok (.aload_n 0, 1) := by decide +kernel
theorem dX1_addWords_21 : decode cX1_addWords 21 = .ok (.getfield 21, 3) := by decide +kernel
theorem dX1_addWords_24 : decode cX1_addWords 24 = .ok (.iload_n 1, 1) := by decide +kernel
theorem dX1_addWords_25 : decode cX1_addWords 25 = .ok (.bipush 8, 2) := by decide +kernel
theorem dX1_addWords_27 : decode cX1_addWords 27 = .ok (.imul, 1) := by decide +kernel
theorem dX1_addWords_28 : decode cX1_addWords 28 = .ok (.iload_n 3, 1) := by decide +kernel
theorem dX1_addWords_29 : decode cX1_addWords 29 = .ok (.iadd, 1) := by decide +kernel
theorem dX1_addWords_30 : decode cX1_addWords 30 = .ok (.aload_n 2, 1) := by decide +kernel
theorem dX1_addWords_31 : decode cX1_addWords 31 = .ok (.iload_n 3, 1) := by decide +kernel
theorem dX1_addWords_32 : decode cX1_addWords 32 = .ok (.iaload, 1) := by decide +kernel
theorem dX1_addWords_33 : decode cX1_addWords 33 = .ok (.iastore, 1) := by decide +kernel
theorem dX1_addWords_34 : decode cX1_addWords 34 = .ok (.iinc 3 1, 3) := by decide +kernel
theorem dX1_addWords_37 : decode cX1_addWords 37 = .ok (.goto (-23), 3) := by decide +kernel
theorem dX1_addWords_40 : decode cX1_addWords 40 = .ok (.return_, 1) := by decide +kernel
