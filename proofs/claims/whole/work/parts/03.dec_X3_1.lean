theorem dX3_countNotThere_5 : decode cX3_countNotThere 5 = .ok (.aload_n 0, 1) := by decide +kernel
theorem dX3_countNotThere_6 : decode cX3_countNotThere 6 = .ok (.getfield 36, 3) := by decide +kernel
theorem dX3_countNotThere_9 : decode cX3_countNotThere 9 = .ok (.if_icmp .ge 25, 3) := by decide +kernel
theorem dX3_countNotThere_12 : decode cX3_countNotThere 12 = .ok (.aload_n 0, 1) := by decide +kernel
theorem dX3_countNotThere_13 : decode cX3_countNotThere 13 = .ok (.getfield 44, 3) := by decide +kernel
theorem dX3_countNotThere_16 : decode cX3_countNotThere 16 = .ok (.iload_n 3, 1) := by decide +kernel
theorem dX3_countNotThere_17 : decode cX3_countNotThere 17 = .ok (.aaload, 1) := by decide +kernel
theorem dX3_countNotThere_18 : decode cX3_countNotThere 18 = .ok (.iload_n 1, 1) := by decide +kernel
theorem dX3_countNotThere_19 : decode cX3_countNotThere 19 = .ok (.invokevirtual 160, 3) := by decide +kernel
theorem dX3_countNotThere_22 : decode cX3_countNotThere 22 = .ok (.ifCond .ne 6, 3) := by decide +kernel
theorem dX3_countNotThere_25 : decode cX3_countNotThere 25 = .ok (.iinc 2 1, 3) := by decide +kernel
theorem dX3_countNotThere_28 : decode cX3_countNotThere 28 = .ok (.iinc 3 1, 3) := by decide +kernel
theorem dX3_countNotThere_31 : decode cX3_countNotThere 31 = .ok (.goto (-27), 3) := by decide +kernel
theorem dX3_countNotThere_34 : decode cX3_countNotThere 34 = .ok (.iload_n 2, 1) := by decide +kernel
theorem dX3_countNotThere_35 : decode cX3_countNotThere 35 = .ok (.ireturn, 1) := by decide +kernel
set_option maxRecDepth 20000 in
theorem ggX3_othersThere_X3_countNotThere : GoodIn wsX3_othersThere wsX3_countNotThere := goodIn_r _ [6, 7, 1, 8, 9, 10, 11, 12, 13, 14, 15, 16, 17, 18, 19, 20, 21, 22, 23, 24, 25, 26, 27, 28, 29, 30, 31, 32, 33, 34, 35, 36, 37, 38] (by decide +kernel) (by decide +kernel)
set_option maxRecDepth 20000 in
theorem gX3_othersThere_X3_countNotThere : GoodIn wsX3_othersThere (wsV RX3 203 RX3 yX3_countNotThere wsX3_countNotThere) := goodIn_app (goodIn_of _ (by decide +kernel)) ggX3_othersThere_X3_countNotThere
set_option maxRecDepth 20000 in
theorem ggX3_othersThere_X0_isThere : GoodIn wsX3_othersThere wsX0_isThere := goodIn_r _ [11, 12, 13, 14, 15, 16, 17, 9, 18, 19, 20, 21, 22, 33, 34, 35, 36, 37, 38] (by decide +kernel) (by decide +kernel)
set_option maxRecDepth 20000 in
theorem gX3_othersThere_X0_isThere_n160 : GoodIn wsX3_othersThere (wsX0_isThere) := ggX3_othersThere_X0_isThere
theorem dX3_othersThere_0 : decode cX3_othersThere 0 = .ok (.aload_n 0, 1) := by decide +kernel
theorem dX3_othersThere_1 : decode cX3_othersThere 1 = .ok (.iload_n 2, 1) := by decide +kernel
theorem dX3_othersThere_2 : decode cX3_othersThere 2 = .ok (.invokevirtual 203, 3) := by decide +kernel
theorem dX3_othersThere_5 : decode cX3_othersThere 5 = .ok (.aload_n 0, 1) := by decide +kernel
theorem dX3_othersThere_6 : decode cX3_othersThere 6 = .ok (.getfield 44, 3) := by decide +kernel
theorem dX3_othersThere_9 : decode cX3_othersThere 9 = .ok (.iload_n 1, 1) := by decide +kernel
theorem dX3_othersThere_10 : decode cX3_othersThere 10 = .ok (.aaload, 1) := by decide +kernel
theorem dX3_othersThere_11 : decode cX3_othersThere 11 = .ok (.iload_n 2, 1) := by decide +kernel
theorem dX3_othersThere_12 : decode cX3_othersThere 12 = .ok (.invokevirtual 160, 3) := by decide +kernel
theorem dX3_othersThere_15 : decode cX3_othersThere 15 = .ok (.ifCond .eq 7, 3) := by decide +kernel
theorem dX3_othersThere_18 : decode cX3_othersThere 18 = .ok (.iconst 0, 1) := by decide +kernel
theorem dX3_othersThere_19 : decode cX3_othersThere 19 = .ok (.goto 4, 3) := by decide +kernel
theorem dX3_othersThere_22 : decode cX3_othersThere 22 = .ok (.iconst 1, 1) := by decide +kernel
theorem dX3_othersThere_23 : decode cX3_othersThere 23 = .ok (.if_icmp .ne 7, 3) := by decide +kernel
theorem dX3_othersThere_26 : decode cX3_othersThere 26 = .ok (.iconst 1, 1) := by decide +kernel
theorem dX3_othersThere_27 : decode cX3_othersThere 27 = .ok (.goto 4, 3) := by decide +kernel
theorem dX3_othersThere_30 : decode cX3_othersThere 30 = .ok (.iconst 0, 1) := by decide +kernel
theorem dX3_othersThere_31 : decode cX3_othersThere 31 = .ok (.ireturn, 1) := by decide +kernel
set_option maxRecDepth 20000 in
theorem ggX3_sourceOf_X2_latestWith : GoodIn wsX3_sourceOf wsX2_latestWith := goodIn_r _ [6, 7, 8, 9, 10, 4, 11, 12, 13, 14, 15, 16, 17, 18, 62, 63, 64, 65, 66, 67, 68, 69, 70, 71] (by decide +kernel) (by decide +kernel)
set_option maxRecDepth 20000 in
theorem gX3_sourceOf_X2_latestWith_n209 : GoodIn wsX3_sourceOf (wsX2_latestWith) := ggX3_sourceOf_X2_latestWith
set_option maxRecDepth 20000 in
theorem ggX3_sourceOf_X3_memberOf : GoodIn wsX3_sourceOf wsX3_memberOf := goodIn_r _ [23, 24, 25, 26, 27, 22, 28, 52, 53, 54, 55, 56, 57, 58, 59, 60, 61] (by decide +kernel) (by decide +kernel)
set_option maxRecDepth 20000 in
theorem gX3_sourceOf_X3_memberOf : GoodIn wsX3_sourceOf (wsV RX3 62 RX3 yX3_memberOf wsX3_memberOf) := goodIn_app (goodIn_of _ (by decide +kernel)) ggX3_sourceOf_X3_memberOf
set_option maxRecDepth 20000 in
theorem ggX3_sourceOf_X0_isThere : GoodIn wsX3_sourceOf wsX0_isThere := goodIn_r _ [32, 33, 34, 35, 36, 37, 38, 30, 39, 40, 41, 42, 43, 72, 73, 74, 75, 76, 77] (by decide +kernel) (by decide +kernel)
set_option maxRecDepth 20000 in
theorem gX3_sourceOf_X0_isThere_n160 : GoodIn wsX3_sourceOf (wsX0_isThere) := ggX3_sourceOf_X0_isThere
set_option maxRecDepth 20000 in
theorem ggX3_sourceOf_X3_othersThere : GoodIn wsX3_sourceOf wsX3_othersThere := goodIn_r _ [47, 2, 48, 49, 50, 22, 51, 24, 29, 30, 31, 32, 33, 34, 35, 36, 37, 38, 39, 40, 41, 42, 43, 52, 53, 54, 55, 56, 57, 58, 59, 60, 61, 72, 73, 74, 75, 76, 77] (by decide +kernel) (by decide +kernel)
set_option maxRecDepth 20000 in
theorem gX3_sourceOf_X3_othersThere : GoodIn wsX3_sourceOf (wsV RX3 213 RX3 yX3_othersThere wsX3_othersThere) := goodIn_app (goodIn_of _ (by decide +kernel)) ggX3_sourceOf_X3_othersThere
theorem dX3_sourceOf_0 : decode cX3_sourceOf 0 = .ok (.aload_n 0, 1) := by decide +kernel
theorem dX3_sourceOf_1 : decode cX3_sourceOf 1 = .ok (.getfield 54, 3) := by decide +kernel
theorem dX3_sourceOf_4 : decode cX3_sourceOf 4 = .ok (.iload_n 1, 1) := by decide +kernel
theorem dX3_sourceOf_5 : decode cX3_sourceOf 5 = .ok (.iload_n 2, 1) := by decide +kernel
theorem dX3_sourceOf_6 : decode cX3_sourceOf 6 = .ok (.invokevirtual 209, 3) := by decide +kernel
theorem dX3_sourceOf_9 : decode cX3_sourceOf 9 = .ok (.ifnull 5, 3) := by decide +kernel
theorem dX3_sourceOf_12 : decode cX3_sourceOf 12 = .ok (.iconst 1, 1) := by decide +kernel
theorem dX3_sourceOf_13 : decode cX3_sourceOf 13 = .ok (.ireturn, 1) := by decide +kernel
theorem dX3_sourceOf_14 : decode cX3_sourceOf 14 = .ok (.aload_n 0, 1) := by decide +kernel
theorem dX3_sourceOf_15 : decode cX3_sourceOf 15 = .ok (.iload_n 1, 1) := by decide +kernel
theorem dX3_sourceOf_16 : decode cX3_sourceOf 16 = .ok (.iload_n 2, 1) := by decide +kernel
theorem dX3_sourceOf_17 : decode cX3_sourceOf 17 = .ok (.invokevirtual 62, 3) := by decide +kernel
theorem dX3_sourceOf_20 : decode cX3_sourceOf 20 = .ok (.istore_n 3, 1) := by decide +kernel
theorem dX3_sourceOf_21 : decode cX3_sourceOf 21 = .ok (.aload_n 0, 1) := by decide +kernel
theorem dX3_sourceOf_22 : decode cX3_sourceOf 22 = .ok (.getfield 44, 3) := by decide +kernel
theorem dX3_sourceOf_25 : decode cX3_sourceOf 25 = .ok (.iload_n 3, 1) := by decide +kernel
theorem dX3_sourceOf_26 : decode cX3_sourceOf 26 = .ok (.aaload, 1) := by decide +kernel
theorem dX3_sourceOf_27 : decode cX3_sourceOf 27 = .ok (.iload_n 1, 1) := by decide +kernel
theorem dX3_sourceOf_28 : decode cX3_sourceOf 28 = .ok (.invokevirtual 160, 3) := by decide +kernel
theorem dX3_sourceOf_31 : decode cX3_sourceOf 31 = .ok (.ifCond .eq 5, 3) := by decide +kernel
theorem dX3_sourceOf_34 : decode cX3_sourceOf 34 = .ok (.iconst 0, 1) := by decide +kernel
theorem dX3_sourceOf_35 : decode cX3_sourceOf 35 = .ok (.ireturn, 1) := by decide +kernel
theorem dX3_sourceOf_36 : decode cX3_sourceOf 36 = .ok (.aload_n 0, 1) := by decide +kernel
theorem dX3_sourceOf_37 : decode cX3_sourceOf 37 = .ok (.iload_n 3, 1) := by decide +kernel
theorem dX3_sourceOf_38 : decode cX3_sourceOf 38 = .ok (.iload_n 1, 1) := by decide +kernel
theorem dX3_sourceOf_39 : decode cX3_sourceOf 39 = .ok (.invokevirtual 213, 3) := by decide +kernel
theorem dX3_sourceOf_42 : decode cX3_sourceOf 42 = .ok (.ifCond .eq 7, 3) := by decide +kernel
theorem dX3_sourceOf_45 : decode cX3_sourceOf 45 = .ok (.iconst 2, 1) := by decide +kernel
theorem dX3_sourceOf_46 : decode cX3_sourceOf 46 = .ok (.goto 4, 3) := by decide +kernel
theorem dX3_sourceOf_49 : decode cX3_sourceOf 49 = .ok (.iconst 3, 1) := by decide +kernel
theorem dX3_sourceOf_50 : decode cX3_sourceOf 50 = .ok (.ireturn, 1) := by decide +kernel
set_option maxRecDepth 20000 in
theorem ggX3_isNewestNone_X2_latestWith : GoodIn wsX3_isNewestNone wsX2_latestWith := goodIn_r _ [6, 7, 8, 9, 10, 4, 11, 12, 13, 14, 15, 16, 17, 18, 54, 55, 56, 57, 58, 59, 60, 61, 62, 63] (by decide +kernel) (by decide +kernel)
set_option maxRecDepth 20000 in
theorem gX3_isNewestNone_X2_latestWith_n209 : GoodIn wsX3_isNewestNone (wsX2_latestWith) := ggX3_isNewestNone_X2_latestWith
set_option maxRecDepth 20000 in
theorem ggX3_isNewestNone_X3_memberOf : GoodIn wsX3_isNewestNone wsX3_memberOf := goodIn_r _ [23, 24, 25, 26, 27, 22, 28, 44, 45, 46, 47, 48, 49, 50, 51, 52, 53] (by decide +kernel) (by decide +kernel)
set_option maxRecDepth 20000 in
theorem gX3_isNewestNone_X3_memberOf : GoodIn wsX3_isNewestNone (wsV RX3 62 RX3 yX3_memberOf wsX3_memberOf) := goodIn_app (goodIn_of _ (by decide +kernel)) ggX3_isNewestNone_X3_memberOf
set_option maxRecDepth 20000 in
theorem ggX3_isNewestNone_X0_isThere : GoodIn wsX3_isNewestNone wsX0_isThere := goodIn_r _ [32, 33, 34, 35, 36, 37, 38, 30, 39, 40, 41, 42, 43, 64, 65, 66, 67, 68, 69] (by decide +kernel) (by decide +kernel)
set_option maxRecDepth 20000 in
theorem gX3_isNewestNone_X0_isThere_n160 : GoodIn wsX3_isNewestNone (wsX0_isThere) := ggX3_isNewestNone_X0_isThere
theorem dX3_isNewestNone_0 : decode cX3_isNewestNone 0 = .ok (.aload_n 0, 1) := by decide +kernel
theorem dX3_isNewestNone_1 : decode cX3_isNewestNone 1 = .ok (.getfield 54, 3) := by decide +kernel
theorem dX3_isNewestNone_4 : decode cX3_isNewestNone 4 = .ok (.iload_n 1, 1) := by decide +kernel
theorem dX3_isNewestNone_5 : decode cX3_isNewestNone 5 = .ok (.iload_n 2, 1) := by decide +kernel
theorem dX3_isNewestNone_6 : decode cX3_isNewestNone 6 = .ok (.invokevirtual 209, 3) := by decide +kernel
theorem dX3_isNewestNone_9 : decode cX3_isNewestNone 9 = .ok (.ifnonnull 25, 3) := by decide +kernel
theorem dX3_isNewestNone_12 : decode cX3_isNewestNone 12 = .ok (.aload_n 0, 1) := by decide +kernel
theorem dX3_isNewestNone_13 : decode cX3_isNewestNone 13 = .ok (.getfield 44, 3) := by decide +kernel
theorem dX3_isNewestNone_16 : decode cX3_isNewestNone 16 = .ok (.aload_n 0, 1) := by decide +kernel
theorem dX3_isNewestNone_17 : decode cX3_isNewestNone 17 = .ok (.iload_n 1, 1) := by decide +kernel
theorem dX3_isNewestNone_18 : decode cX3_isNewestNone 18 = .ok (.iload_n 2, 1) := by decide +kernel
theorem dX3_isNewestNone_19 : decode cX3_isNewestNone 19 = .ok (.invokevirtual 62, 3) := by decide +kernel
theorem dX3_isNewestNone_22 : decode cX3_isNewestNone 22 = .ok (.aaload, 1) := by decide +kernel
theorem dX3_isNewestNone_23 : decode cX3_isNewestNone 23 = .ok (.iload_n 1, 1) := by decide +kernel
theorem dX3_isNewestNone_24 : decode cX3_isNewestNone 24 = .ok (.invokevirtual 160, 3) := by decide +kernel
theorem dX3_isNewestNone_27 : decode cX3_isNewestNone 27 = .ok (.ifCond .ne 7, 3) := by decide +kernel
theorem dX3_isNewestNone_30 : decode cX3_isNewestNone 30 = .ok (.iconst 1, 1) := by decide +kernel
theorem dX3_isNewestNone_31 : decode cX3_isNewestNone 31 = .ok (.goto 4, 3) := by decide +kernel
theorem dX3_isNewestNone_34 : decode cX3_isNewestNone 34 = .ok (.iconst 0, 1) := by decide +kernel
theorem dX3_isNewestNone_35 : decode cX3_isNewestNone 35 = .ok (.ireturn, 1) := by decide +kernel
set_option maxRecDepth 20000 in
theorem ggX3_haveNewest_X3_isNewestNone : GoodIn wsX3_haveNewest wsX3_isNewestNone := goodIn_r _ [6, 7, 8, 9, 10, 11, 12, 13, 14, 15, 16, 17, 18, 19, 20, 21, 22, 23, 24, 25, 26, 27, 5, 28, 1, 29, 30, 31, 32, 33, 34, 35, 36, 37, 38, 39, 40, 41, 42, 43, 44, 45, 46, 47, 48, 49, 50, 51, 52, 53, 54, 55, 56, 57, 58, 59, 60, 61, 62, 63, 64, 65, 66, 67, 68, 69, 70, 71, 72, 73] (by decide +kernel) (by decide +kernel)
set_option maxRecDepth 20000 in
theorem gX3_haveNewest_X3_isNewestNone : GoodIn wsX3_haveNewest (wsV RX3 216 RX3 yX3_isNewestNone wsX3_isNewestNone) := goodIn_app (goodIn_of _ (by decide +kernel)) ggX3_haveNewest_X3_isNewestNone
theorem dX3_haveNewest_0 : decode cX3_haveNewest 0 = .ok (.iconst 0, 1) := by decide +kernel
theorem dX3_haveNewest_1 : decode cX3_haveNewest 1 = .ok (.istore_n 3, 1) := by decide +kernel
theorem dX3_haveNewest_2 : decode cX3_haveNewest 2 = .ok (.iload_n 3, 1) := by decide +kernel
theorem dX3_haveNewest_3 : decode cX3_haveNewest 3 = .ok (.aload_n 0, 1) := by decide +kernel
theorem dX3_haveNewest_4 : decode cX3_haveNewest 4 = .ok (.getfield 36, 3) := by decide +kernel
theorem dX3_haveNewest_7 : decode cX3_haveNewest 7 = .ok (.if_icmp .ge 41, 3) := by decide +kernel
theorem dX3_haveNewest_10 : decode cX3_haveNewest 10 = .ok (.iload_n 2, 1) := by decide +kernel
theorem dX3_haveNewest_11 : decode cX3_haveNewest 11 = .ok (.iload_n 3, 1) := by decide +kernel
theorem dX3_haveNewest_12 : decode cX3_haveNewest 12 = .ok (.ishr, 1) := by decide +kernel
theorem dX3_haveNewest_13 : decode cX3_haveNewest 13 = .ok (.iconst 1, 1) := by decide +kernel
theorem dX3_haveNewest_14 : decode cX3_haveNewest 14 = .ok (.iand, 1) := by decide +kernel
theorem dX3_haveNewest_15 : decode cX3_haveNewest 15 = .ok (.iconst 1, 1) := by decide +kernel
theorem dX3_haveNewest_16 : decode cX3_haveNewest 16 = .ok (.if_icmp .ne 7, 3) := by decide +kernel
theorem dX3_haveNewest_19 : decode cX3_haveNewest 19 = .ok (.iconst 1, 1) := by decide +kernel
theorem dX3_haveNewest_20 : decode cX3_haveNewest 20 = .ok (.goto 4, 3) := by decide +kernel
theorem dX3_haveNewest_23 : decode cX3_haveNewest 23 = .ok (.iconst 0, 1) := by decide +kernel
theorem dX3_haveNewest_24 : decode cX3_haveNewest 24 = .ok (.istore 4, 2) := by decide +kernel
theorem dX3_haveNewest_26 : decode cX3_haveNewest 26 = .ok (.iload 4, 2) := by decide +kernel
theorem dX3_haveNewest_28 : decode cX3_haveNewest 28 = .ok (.ifCond .eq 14, 3) := by decide +kernel
theorem dX3_haveNewest_31 : decode cX3_haveNewest 31 = .ok (.aload_n 0, 1) := by decide +kernel
theorem dX3_haveNewest_32 : decode cX3_haveNewest 32 = .ok (.iload_n 1, 1) := by decide +kernel
theorem dX3_haveNewest_33 : decode cX3_haveNewest 33 = .ok (.iload_n 3, 1) := by decide +kernel
theorem dX3_haveNewest_34 : decode cX3_haveNewest 34 = .ok (.invokevirtual 216, 3) := by decide +kernel
theorem dX3_haveNewest_37 : decode cX3_haveNewest 37 = .ok (.ifCond .eq 5, 3) := by decide +kernel
theorem dX3_haveNewest_40 : decode cX3_haveNewest 40 = .ok (.iconst 0, 1) := by decide +kernel
theorem dX3_haveNewest_41 : decode cX3_haveNewest 41 = .ok (.ireturn, 1) := by decide +kernel
theorem dX3_haveNewest_42 : decode cX3_haveNewest 42 = .ok (.iinc 3 1, 3) := by decide +kernel
theorem dX3_haveNewest_45 : decode cX3_haveNewest 45 = .ok (.goto (-43), 3) := by decide +kernel
theorem dX3_haveNewest_48 : decode cX3_haveNewest 48 = .ok (.iconst 1, 1) := by decide +kernel
theorem dX3_haveNewest_49 : decode cX3_haveNewest 49 = .ok (.ireturn, 1) := by decide +kernel
theorem dX3_clearMixed_0 : decode cX3_clearMixed 0 = .ok (.iconst 0, 1) := by decide +kernel
theorem dX3_clearMixed_1 : decode cX3_clearMixed 1 = .ok (.istore_n 1, 1) := by decide +kernel
theorem dX3_clearMixed_2 : decode cX3_clearMixed 2 = .ok (.iload_n 1, 1) := by decide +kernel
theorem dX3_clearMixed_3 : decode cX3_clearMixed 3 = .ok (.bipush 8, 2) := by decide +kernel
theorem dX3_clearMixed_5 : decode cX3_clearMixed 5 = .ok (.if_icmp .ge 16, 3) := by decide +kernel
theorem dX3_clearMixed_8 : decode cX3_clearMixed 8 = .ok (.aload_n 0, 1) := by decide +kernel
theorem dX3_clearMixed_9 : decode cX3_clearMixed 9 = .ok (.getfield 13, 3) := by decide +kernel
theorem dX3_clearMixed_12 : decode cX3_clearMixed 12 = .ok (.iload_n 1, 1) := by decide +kernel
theorem dX3_clearMixed_13 : decode cX3_clearMixed 13 = .ok (.iconst 0, 1) := by decide +kernel
theorem dX3_clearMixed_14 : decode cX3_clearMixed 14 = .ok (.iastore, 1) := by decide +kernel
theorem dX3_clearMixed_15 : decode cX3_clearMixed 15 = .ok (.iinc 1 1, 3) := by decide +kernel
theorem dX3_clearMixed_18 : decode cX3_clearMixed 18 = .ok (.goto (-16), 3) := by decide +kernel
theorem dX3_clearMixed_21 : decode cX3_clearMixed 21 = .ok (.return_, 1) := by decide +kernel
theorem dX3_mix_0 : decode cX3_mix 0 = .ok (.iconst 0, 1) := by decide +kernel
theorem dX3_mix_1 : decode cX3_mix 1 = .ok (.istore_n 3, 1) := by decide +kernel
theorem dX3_mix_2 : decode cX3_mix 2 = .ok (.iload_n 3, 1) := by decide +kernel
theorem dX3_mix_3 : decode cX3_mix 3 = .ok (.bipush 8, 2) := by decide +kernel
theorem dX3_mix_5 : decode cX3_mix 5 = .ok (.if_icmp .ge 23, 3) := by decide +kernel
theorem dX3_mix_8 : decode cX3_mix 8 = .ok (.aload_n 0, 1) := by decide +kernel
theorem dX3_mix_9 : decode cX3_mix 9 = .ok (.getfield 13, 3) := by decide +kernel
theorem dX3_mix_12 : decode cX3_mix 12 = .ok (.iload_n 3, 1) := by decide +kernel
theorem dX3_mix_13 : decode cX3_mix 13 = .ok (.dup2, 1) := by decide +kernel
theorem dX3_mix_14 : decode cX3_mix 14 = .ok (.iaload, 1) := by decide +kernel
theorem dX3_mix_15 : decode cX3_mix 15 = .ok (.aload_n 1, 1) := by decide +kernel
theorem dX3_mix_16 : decode cX3_mix 16 = .ok (.iload_n 2, 1) := by decide +kernel
theorem dX3_mix_17 : decode cX3_mix 17 = .ok (.iload_n 3, 1) := by decide +kernel
theorem dX3_mix_18 : decode cX3_mix 18 = .ok (.iadd, 1) := by decide +kernel
theorem dX3_mix_19 : decode cX3_mix 19 = .ok (.iaload, 1) := by decide +kernel
theorem dX3_mix_20 : decode cX3_mix 20 = .ok (.ixor, 1) := by decide +kernel
theorem dX3_mix_21 : decode cX3_mix 21 = .ok (.iastore, 1) := by decide +kernel
theorem dX3_mix_22 : decode cX3_mix 22 = .ok (.iinc 3 1, 3) := by decide +kernel
theorem dX3_mix_25 : decode cX3_mix 25 = .ok (.goto (-23), 3) := by decide +kernel
theorem dX3_mix_28 : decode cX3_mix 28 = .ok (.return_, 1) := by decide +kernel
set_option maxRecDepth 20000 in
theorem ggX3_mixOthers_X3_mix : GoodIn wsX3_mixOthers wsX3_mix := goodIn_r _ [7, 8, 9, 10, 11, 12, 13, 14, 15, 16, 17, 18] (by decide +kernel) (by decide +kernel)
set_option maxRecDepth 20000 in
theorem gX3_mixOthers_X3_mix : GoodIn wsX3_mixOthers (wsV RX3 219 RX3 yX3_mix wsX3_mix) := goodIn_app (goodIn_of _ (by decide +kernel)) ggX3_mixOthers_X3_mix
theorem dX3_mixOthers_0 : decode cX3_mixOthers 0 = .ok (.iconst 0, 1) := by decide +kernel
theorem dX3_mixOthers_1 : decode cX3_mixOthers 1 = .ok (.istore_n 3, 1) := by decide +kernel
theorem dX3_mixOthers_2 : decode cX3_mixOthers 2 = .ok (.iload_n 3, 1) := by decide +kernel
theorem dX3_mixOthers_3 : decode cX3_mixOthers 3 = .ok (.aload_n 0, 1) := by decide +kernel
theorem dX3_mixOthers_4 : decode cX3_mixOthers 4 = .ok (.getfield 36, 3) := by decide +kernel
theorem dX3_mixOthers_7 : decode cX3_mixOthers 7 = .ok (.if_icmp .ge 31, 3) := by decide +kernel
theorem dX3_mixOthers_10 : decode cX3_mixOthers 10 = .ok (.iload_n 3, 1) := by decide +kernel
theorem dX3_mixOthers_11 : decode cX3_mixOthers 11 = .ok (.iload_n 1, 1) := by decide +kernel
theorem dX3_mixOthers_12 : decode cX3_mixOthers 12 = .ok (.if_icmp .eq 20, 3) := by decide +kernel
theorem dX3_mixOthers_15 : decode cX3_mixOthers 15 = .ok (.aload_n 0, 1) := by decide +kernel
theorem dX3_mixOthers_16 : decode cX3_mixOthers 16 = .ok (.aload_n 0, 1) := by decide +kernel
theorem dX3_mixOthers_17 : decode cX3_mixOthers 17 = .ok (.getfield 44, 3) := by decide +kernel
theorem dX3_mixOthers_20 : decode cX3_mixOthers 20 = .ok (.iload_n 3, 1) := by decide +kernel
theorem dX3_mixOthers_21 : decode cX3_mixOthers 21 = .ok (.aaload, 1) := by decide +kernel
theorem dX3_mixOthers_22 : decode cX3_mixOthers 22 = .ok (.getfield 141, 3) := by decide +kernel
theorem dX3_mixOthers_25 : decode cX3_mixOthers 25 = .ok (.iload_n 2, 1) := by decide +kernel
theorem dX3_mixOthers_26 : decode cX3_mixOthers 26 = .ok (.bipush 8, 2) := by decide +kernel
theorem dX3_mixOthers_28 : decode cX3_mixOthers 28 = .ok (.imul, 1) := by decide +kernel
theorem dX3_mixOthers_29 : decode cX3_mixOthers 29 = .ok (.invokevirtual 219, 3) := by decide +kernel
theorem dX3_mixOthers_32 : decode cX3_mixOthers 32 = .ok (.iinc 3 1, 3) := by decide +kernel
theorem dX3_mixOthers_35 : decode cX3_mixOthers 35 = .ok (.goto (-33), 3) := by decide +kernel
theorem dX3_mixOthers_38 : decode cX3_mixOthers 38 = .ok (.return_, 1) := by decide +kernel
set_option maxRecDepth 20000 in
theorem ggX3_mixNewest_X2_latestWith : GoodIn wsX3_mixNewest wsX2_latestWith := goodIn_r _ [6, 7, 8, 9, 10, 4, 11, 12, 13, 14, 15, 16, 17, 18, 54, 55, 56, 57, 58, 59, 44, 45, 46, 47] (by decide +kernel) (by decide +kernel)
set_option maxRecDepth 20000 in
theorem gX3_mixNewest_X2_latestWith_n209 : GoodIn wsX3_mixNewest (wsX2_latestWith) := ggX3_mixNewest_X2_latestWith
set_option maxRecDepth 20000 in
theorem ggX3_mixNewest_X3_mix : GoodIn wsX3_mixNewest wsX3_mix := goodIn_r _ [23, 24, 34, 35, 36, 37, 38, 39, 40, 41, 42, 43] (by decide +kernel) (by decide +kernel)
set_option maxRecDepth 20000 in
theorem gX3_mixNewest_X3_mix : GoodIn wsX3_mixNewest (wsV RX3 219 RX3 yX3_mix wsX3_mix) := goodIn_app (goodIn_of _ (by decide +kernel)) ggX3_mixNewest_X3_mix
set_option maxRecDepth 20000 in
theorem ggX3_mixNewest_X3_memberOf : GoodIn wsX3_mixNewest wsX3_memberOf := goodIn_r _ [28, 29, 30, 31, 32, 22, 33, 34, 35, 36, 37, 38, 39, 40, 41, 42, 43] (by decide +kernel) (by decide +kernel)
set_option maxRecDepth 20000 in
theorem gX3_mixNewest_X3_memberOf : GoodIn wsX3_mixNewest (wsV RX3 62 RX3 yX3_memberOf wsX3_memberOf) := goodIn_app (goodIn_of _ (by decide +kernel)) ggX3_mixNewest_X3_memberOf
theorem dX3_mixNewest_0 : decode cX3_mixNewest 0 = .ok (.aload_n 0, 1) := by decide +kernel
theorem dX3_mixNewest_1 : decode cX3_mixNewest 1 = .ok (.getfield 54, 3) := by decide +kernel
theorem dX3_mixNewest_4 : decode cX3_mixNewest 4 = .ok (.iload_n 1, 1) := by decide +kernel
theorem dX3_mixNewest_5 : decode cX3_mixNewest 5 = .ok (.iload_n 2, 1) := by decide +kernel
theorem dX3_mixNewest_6 : decode cX3_mixNewest 6 = .ok (.invokevirtual 209, 3) := by decide +kernel
theorem dX3_mixNewest_9 : decode cX3_mixNewest 9 = .ok (.astore_n 3, 1) := by decide +kernel
theorem dX3_mixNewest_10 : decode cX3_mixNewest 10 = .ok (.aload_n 3, 1) := by decide +kernel
theorem dX3_mixNewest_11 : decode cX3_mixNewest 11 = .ok (.ifnull 17, 3) := by decide +kernel
theorem dX3_mixNewest_14 : decode cX3_mixNewest 14 = .ok (.aload_n 0, 1) := by decide +kernel
theorem dX3_mixNewest_15 : decode cX3_mixNewest 15 = .ok (.aload_n 3, 1) := by decide +kernel
theorem dX3_mixNewest_16 : decode cX3_mixNewest 16 = .ok (.getfield 223, 3) := by decide +kernel
theorem dX3_mixNewest_19 : decode cX3_mixNewest 19 = .ok (.iload_n 2, 1) := by decide +kernel
theorem dX3_mixNewest_20 : decode cX3_mixNewest 20 = .ok (.bipush 8, 2) := by decide +kernel
theorem dX3_mixNewest_22 : decode cX3_mixNewest 22 = .ok (.imul, 1) := by decide +kernel
theorem dX3_mixNewest_23 : decode cX3_mixNewest 23 = .ok (.invokevirtual 219, 3) := by decide +kernel
theorem dX3_mixNewest_26 : decode cX3_mixNewest 26 = .ok (.iconst 0, 1) := by decide +kernel
theorem dX3_mixNewest_27 : decode cX3_mixNewest 27 = .ok (.ireturn, 1) := by decide +kernel
theorem dX3_mixNewest_28 : decode cX3_mixNewest 28 = .ok (.aload_n 0, 1) := by decide +kernel
theorem dX3_mixNewest_29 : decode cX3_mixNewest 29 = .ok (.aload_n 0, 1) := by decide +kernel
theorem dX3_mixNewest_30 : decode cX3_mixNewest 30 = .ok (.getfield 44, 3) := by decide +kernel
theorem dX3_mixNewest_33 : decode cX3_mixNewest 33 = .ok (.aload_n 0, 1) := by decide +kernel
theorem dX3_mixNewest_34 : decode cX3_mixNewest 34 = .ok (.iload_n 1, 1) := by decide +kernel
theorem dX3_mixNewest_35 : decode cX3_mixNewest 35 = .ok (.iload_n 2, 1) := by decide +kernel
theorem dX3_mixNewest_36 : decode cX3_mixNewest 36 = .ok (.invokevirtual 62, 3) := by decide +kernel
theorem dX3_mixNewest_39 : decode cX3_mixNewest 39 = .ok (.aaload, 1) := by decide +kernel
theorem dX3_mixNewest_40 : decode cX3_mixNewest 40 = .ok (.getfield 141, 3) := by decide +kernel
theorem dX3_mixNewest_43 : decode cX3_mixNewest 43 = .ok (.iload_n 1, 1) := by decide +kernel
theorem dX3_mixNewest_44 : decode cX3_mixNewest 44 = .ok (.bipush 8, 2) := by decide +kernel
theorem dX3_mixNewest_46 : decode cX3_mixNewest 46 = .ok (.imul, 1) := by decide +kernel
theorem dX3_mixNewest_47 : decode cX3_mixNewest 47 = .ok (.invokevirtual 219, 3) := by decide +kernel
theorem dX3_mixNewest_50 : decode cX3_mixNewest 50 = .ok (.iconst 1, 1) := by decide +kernel
theorem dX3_mixNewest_51 : decode cX3_mixNewest 51 = .ok (.ireturn, 1) := by decide +kernel
set_option maxRecDepth 20000 in
theorem ggX3_xorIsZero_X3_clearMixed : GoodIn wsX3_xorIsZero wsX3_clearMixed := goodIn_r _ [6, 1, 17, 18, 19, 20, 21, 22, 23, 24, 25, 26] (by decide +kernel) (by decide +kernel)
set_option maxRecDepth 20000 in
theorem gX3_xorIsZero_X3_clearMixed : GoodIn wsX3_xorIsZero (wsV RX3 96 RX3 yX3_clearMixed wsX3_clearMixed) := goodIn_app (goodIn_of _ (by decide +kernel)) ggX3_xorIsZero_X3_clearMixed
set_option maxRecDepth 20000 in
theorem ggX3_xorIsZero_X3_mixOthers : GoodIn wsX3_xorIsZero wsX3_mixOthers := goodIn_r _ [10, 11, 12, 13, 14, 15, 5, 16, 1, 17, 18, 19, 20, 21, 22, 23, 24, 25, 26, 27, 28, 29, 30, 31, 32] (by decide +kernel) (by decide +kernel)
set_option maxRecDepth 20000 in
theorem gX3_xorIsZero_X3_mixOthers : GoodIn wsX3_xorIsZero (wsV RX3 99 RX3 yX3_mixOthers wsX3_mixOthers) := goodIn_app (goodIn_of _ (by decide +kernel)) ggX3_xorIsZero_X3_mixOthers
theorem dX3_xorIsZero_0 : decode cX3_xorIsZero 0 = .ok (.aload_n 0, 1) := by decide +kernel
theorem dX3_xorIsZero_1 : decode cX3_xorIsZero 1 = .ok (.invokevirtual 96, 3) := by decide +kernel
theorem dX3_xorIsZero_4 : decode cX3_xorIsZero 4 = .ok (.aload_n 0, 1) := by decide +kernel
theorem dX3_xorIsZero_5 : decode cX3_xorIsZero 5 = .ok (.iconst (-1), 1) := by decide +kernel
theorem dX3_xorIsZero_6 : decode cX3_xorIsZero 6 = .ok (.iload_n 1, 1) := by decide +kernel
theorem dX3_xorIsZero_7 : decode cX3_xorIsZero 7 = .ok (.invokevirtual 99, 3) := by decide +kernel
theorem dX3_xorIsZero_10 : decode cX3_xorIsZero 10 = .ok (.iconst 0, 1) := by decide +kernel
theorem dX3_xorIsZero_11 : decode cX3_xorIsZero 11 = .ok (.istore_n 2, 1) := by decide +kernel
theorem dX3_xorIsZero_12 : decode cX3_xorIsZero 12 = .ok (.iload_n 2, 1) := by decide +kernel
theorem dX3_xorIsZero_13 : decode cX3_xorIsZero 13 = .ok (.bipush 8, 2) := by decide +kernel
theorem dX3_xorIsZero_15 : decode cX3_xorIsZero 15 = .ok (.if_icmp .ge 20, 3) := by decide +kernel
theorem dX3_xorIsZero_18 : decode cX3_xorIsZero 18 = .ok (.aload_n 0, 1) := by decide +kernel
theorem dX3_xorIsZero_19 : decode cX3_xorIsZero 19 = .ok (.getfield 13, 3) := by decide +kernel
theorem dX3_xorIsZero_22 : decode cX3_xorIsZero 22 = .ok (.iload_n 2, 1) := by decide +kernel
theorem dX3_xorIsZero_23 : decode cX3_xorIsZero 23 = .ok (.iaload, 1) := by decide +kernel
theorem dX3_xorIsZero_24 : decode cX3_xorIsZero 24 = .ok (.ifCond .eq 5, 3) := by decide +kernel
theorem dX3_xorIsZero_27 : decode cX3_xorIsZero 27 = .ok (.iconst 0, 1) := by decide +kernel
theorem dX3_xorIsZero_28 : decode cX3_xorIsZero 28 = .ok (.ireturn, 1) := by decide +kernel
theorem dX3_xorIsZero_29 : decode cX3_xorIsZero 29 = .ok (.iinc 2 1, 3) := by decide +kernel
theorem dX3_xorIsZero_32 : decode cX3_xorIsZero 32 = .ok (.goto (-20), 3) := by decide +kernel
theorem dX3_xorIsZero_35 : decode cX3_xorIsZero 35 = .ok (.iconst 1, 1) := by decide +kernel
theorem dX3_xorIsZero_36 : decode cX3_xorIsZero 36 = .ok (.ireturn, 1) := by decide +kernel
set_option maxRecDepth 20000 in
theorem ggX3_powerStays_X0_forgetBuilding : GoodIn wsX3_powerStays wsX0_forgetBuilding := goodIn_r _ [10, 11, 12, 23, 24, 25, 26, 27, 28] (by decide +kernel) (by decide +kernel)
set_option maxRecDepth 20000 in
theorem gX3_powerStays_X0_forgetBuilding_n224 : GoodIn wsX3_powerStays (wsX0_forgetBuilding) := ggX3_powerStays_X0_forgetBuilding
theorem dX3_powerStays_0 : decode cX3_powerStays 0 = .ok (.aload_n 0, 1) := by decide +kernel
theorem dX3_powerStays_1 : decode cX3_powerStays 1 = .ok (.getfield 9, 3) := by decide +kernel
theorem dX3_powerStays_4 : decode cX3_powerStays 4 = .ok (.iconst 0, 1) := by decide +kernel
theorem dX3_powerStays_5 : decode cX3_powerStays 5 = .ok (.dup2, 1) := by decide +kernel
theorem dX3_powerStays_6 : decode cX3_powerStays 6 = .ok (.iaload, 1) := by decide +kernel
theorem dX3_powerStays_7 : decode cX3_powerStays 7 = .ok (.iconst 1, 1) := by decide +kernel
theorem dX3_powerStays_8 : decode cX3_powerStays 8 = .ok (.iadd, 1) := by decide +kernel
theorem dX3_powerStays_9 : decode cX3_powerStays 9 = .ok (.iastore, 1) := by decide +kernel
theorem dX3_powerStays_10 : decode cX3_powerStays 10 = .ok (.aload_n 0, 1) := by decide +kernel
theorem dX3_powerStays_11 : decode cX3_powerStays 11 = .ok (.getfield 20, 3) := by decide +kernel
theorem dX3_powerStays_14 : decode cX3_powerStays 14 = .ok (.ifCond .eq 26, 3) := by decide +kernel
theorem dX3_powerStays_17 : decode cX3_powerStays 17 = .ok (.aload_n 0, 1) := by decide +kernel
theorem dX3_powerStays_18 : decode cX3_powerStays 18 = .ok (.aload_n 0, 1) := by decide +kernel
theorem dX3_powerStays_19 : decode cX3_powerStays 19 = .ok (.getfield 20, 3) := by decide +kernel
theorem dX3_powerStays_22 : decode cX3_powerStays 22 = .ok (.ifCond .ge 7, 3) := by decide +kernel
theorem dX3_powerStays_25 : decode cX3_powerStays 25 = .ok (.iconst (-1), 1) := by decide +kernel
theorem dX3_powerStays_26 : decode cX3_powerStays 26 = .ok (.goto 9, 3) := by decide +kernel
theorem dX3_powerStays_29 : decode cX3_powerStays 29 = .ok (.aload_n 0, 1) := by decide +kernel
theorem dX3_powerStays_30 : decode cX3_powerStays 30 = .ok (.getfield 20, 3) := by decide +kernel
theorem dX3_powerStays_33 : decode cX3_powerStays 33 = .ok (.iconst 1, 1) := by decide +kernel
theorem dX3_powerStays_34 : decode cX3_powerStays 34 = .ok (.isub, 1) := by decide +kernel
theorem dX3_powerStays_35 : decode cX3_powerStays 35 = .ok (.putfield 20, 3) := by decide +kernel
theorem dX3_powerStays_38 : decode cX3_powerStays 38 = .ok (.iconst 1, 1) := by decide +kernel
theorem dX3_powerStays_39 : decode cX3_powerStays 39 = .ok (.ireturn, 1) := by decide +kernel
theorem dX3_powerStays_40 : decode cX3_powerStays 40 = .ok (.aload_n 0, 1) := by decide +kernel
theorem dX3_powerStays_41 : decode cX3_powerStays 41 = .ok (.iconst (-1), 1) := by decide +kernel
theorem dX3_powerStays_42 : decode cX3_powerStays 42 = .ok (.putfield 20, 3) := by decide +kernel
theorem dX3_powerStays_45 : decode cX3_powerStays 45 = .ok (.aload_n 0, 1) := by decide +kernel
theorem dX3_powerStays_46 : decode cX3_powerStays 46 = .ok (.iconst 1, 1) := by decide +kernel
theorem dX3_powerStays_47 : decode cX3_powerStays 47 = .ok (.putfield 16, 3) := by decide +kernel
theorem dX3_powerStays_50 : decode cX3_powerStays 50 = .ok (.aload_n 0, 1) := by decide +kernel
theorem dX3_powerStays_51 : decode cX3_powerStays 51 = .ok (.iconst 0, 1) := by decide +kernel
theorem dX3_powerStays_52 : decode cX3_powerStays 52 = .ok (.putfield 27, 3) := by decide +kernel
theorem dX3_powerStays_55 : decode cX3_powerStays 55 = .ok (.iconst 0, 1) := by decide +kernel
theorem dX3_powerStays_56 : decode cX3_powerStays 56 = .ok (.istore_n 1, 1) := by decide +kernel
theorem dX3_powerStays_57 : decode cX3_powerStays 57 = .ok (.iload_n 1, 1) := by decide +kernel
theorem dX3_powerStays_58 : decode cX3_powerStays 58 = .ok (.aload_n 0, 1) := by decide +kernel
theorem dX3_powerStays_59 : decode cX3_powerStays 59 = .ok (.getfield 36, 3) := by decide +kernel
theorem dX3_powerStays_62 : decode cX3_powerStays 62 = .ok (.if_icmp .ge 18, 3) := by decide +kernel
theorem dX3_powerStays_65 : decode cX3_powerStays 65 = .ok (.aload_n 0, 1) := by decide +kernel
theorem dX3_powerStays_66 : decode cX3_powerStays 66 = .ok (.getfield 44, 3) := by decide +kernel
theorem dX3_powerStays_69 : decode cX3_powerStays 69 = .ok (.iload_n 1, 1) := by decide +kernel
theorem dX3_powerStays_70 : decode cX3_powerStays 70 = .ok (.aaload, 1) := by decide +kernel
theorem dX3_powerStays_71 : decode cX3_powerStays 71 = .ok (.invokevirtual 224, 3) := by decide +kernel
theorem dX3_powerStays_74 : decode cX3_powerStays 74 = .ok (.iinc 1 1, 3) := by decide +kernel
theorem dX3_powerStays_77 : decode cX3_powerStays 77 = .ok (.goto (-20), 3) := by decide +kernel
theorem dX3_powerStays_80 : decode cX3_powerStays 80 = .ok (.iconst 0, 1) := by decide +kernel
theorem dX3_powerStays_81 : decode cX3_powerStays 81 = .ok (.ireturn, 1) := by decide +kernel
set_option maxRecDepth 20000 in
theorem ggX3_putChunk_X3_powerStays : GoodIn wsX3_putChunk wsX3_powerStays := goodIn_r _ [7, 8, 9, 10, 11, 12, 1, 13, 14, 15, 16, 17, 18, 29, 30, 31, 32, 33, 34, 35, 36, 37, 38, 39, 40, 41, 42, 43, 44] (by decide +kernel) (by decide +kernel)
set_option maxRecDepth 20000 in
theorem gX3_putChunk_X3_powerStays : GoodIn wsX3_putChunk (wsV RX3 227 RX3 yX3_powerStays wsX3_powerStays) := goodIn_app (goodIn_of _ (by decide +kernel)) ggX3_putChunk_X3_powerStays
set_option maxRecDepth 20000 in
theorem ggX3_putChunk_X0_take : GoodIn wsX3_putChunk wsX0_take := goodIn_r _ [21, 22, 23, 24, 25, 26, 27, 14, 28, 39, 40, 41, 42, 43, 44] (by decide +kernel) (by decide +kernel)
set_option maxRecDepth 20000 in
theorem gX3_putChunk_X0_take_n230 : GoodIn wsX3_putChunk (wsX0_take) := ggX3_putChunk_X0_take
theorem dX3_putChunk_0 : decode cX3_putChunk 0 = .ok (.aload_n 0, 1) := by decide +kernel
theorem dX3_putChunk_1 : decode cX3_putChunk 1 = .ok (.invokevirtual 227, 3) := by decide +kernel
theorem dX3_putChunk_4 : decode cX3_putChunk 4 = .ok (.istore 5, 2) := by decide +kernel
theorem dX3_putChunk_6 : decode cX3_putChunk 6 = .ok (.aload_n 0, 1) := by decide +kernel
theorem dX3_putChunk_7 : decode cX3_putChunk 7 = .ok (.getfield 44, 3) := by decide +kernel
theorem dX3_putChunk_10 : decode cX3_putChunk 10 = .ok (.iload_n 1, 1) := by decide +kernel
theorem dX3_putChunk_11 : decode cX3_putChunk 11 = .ok (.aaload, 1) := by decide +kernel
theorem dX3_putChunk_12 : decode cX3_putChunk 12 = .ok (.iload_n 2, 1) := by decide +kernel
theorem dX3_putChunk_13 : decode cX3_putChunk 13 = .ok (.aload_n 3, 1) := by decide +kernel
theorem dX3_putChunk_14 : decode cX3_putChunk 14 = .ok (.iload 4, 2) := by decide +kernel
theorem dX3_putChunk_16 : decode cX3_putChunk 16 = .ok (.iload 5, 2) := by decide +kernel
theorem dX3_putChunk_18 : decode cX3_putChunk 18 = .ok (.ifCond .eq 8, 3) := by decide +kernel
theorem dX3_putChunk_21 : decode cX3_putChunk 21 = .ok (.bipush 9, 2) := by decide +kernel
theorem dX3_putChunk_23 : decode cX3_putChunk 23 = .ok (.goto 7, 3) := by decide +kernel
theorem dX3_putChunk_26 : decode cX3_putChunk 26 = .ok (.aload_n 0, 1) := by decide +kernel
theorem dX3_putChunk_27 : decode cX3_putChunk 27 = .ok (.getfield 24, 3) := by decide +kernel
theorem dX3_putChunk_30 : decode cX3_putChunk 30 = .ok (.invokevirtual 230, 3) := by decide +kernel
theorem dX3_putChunk_33 : decode cX3_putChunk 33 = .ok (.iload 5, 2) := by decide +kernel
theorem dX3_putChunk_35 : decode cX3_putChunk 35 = .ok (.ireturn, 1) := by decide +kernel
set_option maxRecDepth 20000 in
theorem ggX3_putCells_X3_powerStays : GoodIn wsX3_putCells wsX3_powerStays := goodIn_r _ [6, 1, 7, 8, 9, 10, 11, 12, 13, 14, 15, 16, 17, 18, 19, 20, 21, 22, 23, 24, 25, 26, 27, 28, 29, 30, 31, 32, 33] (by decide +kernel) (by decide +kernel)
set_option maxRecDepth 20000 in
theorem gX3_putCells_X3_powerStays : GoodIn wsX3_putCells (wsV RX3 227 RX3 yX3_powerStays wsX3_powerStays) := goodIn_app (goodIn_of _ (by decide +kernel)) ggX3_putCells_X3_powerStays
theorem dX3_putCells_0 : decode cX3_putCells 0 = .ok (.iconst 0, 1) := by decide +kernel
theorem dX3_putCells_1 : decode cX3_putCells 1 = .ok (.istore_n 2, 1) := by decide +kernel
theorem dX3_putCells_2 : decode cX3_putCells 2 = .ok (.iload_n 2, 1) := by decide +kernel
theorem dX3_putCells_3 : decode cX3_putCells 3 = .ok (.iload_n 1, 1) := by decide +kernel
theorem dX3_putCells_4 : decode cX3_putCells 4 = .ok (.if_icmp .ge 28, 3) := by decide +kernel
theorem dX3_putCells_7 : decode cX3_putCells 7 = .ok (.aload_n 0, 1) := by decide +kernel
theorem dX3_putCells_8 : decode cX3_putCells 8 = .ok (.getfield 9, 3) := by decide +kernel
theorem dX3_putCells_11 : decode cX3_putCells 11 = .ok (.iconst 1, 1) := by decide +kernel
theorem dX3_putCells_12 : decode cX3_putCells 12 = .ok (.dup2, 1) := by decide +kernel
theorem dX3_putCells_13 : decode cX3_putCells 13 = .ok (.iaload, 1) := by decide +kernel
theorem dX3_putCells_14 : decode cX3_putCells 14 = .ok (.iconst 1, 1) := by decide +kernel
theorem dX3_putCells_15 : decode cX3_putCells 15 = .ok (.iadd, 1) := by decide +kernel
theorem dX3_putCells_16 : decode cX3_putCells 16 = .ok (.iastore, 1) := by decide +kernel
theorem dX3_putCells_17 : decode cX3_putCells 17 = .ok (.aload_n 0, 1) := by decide +kernel
theorem dX3_putCells_18 : decode cX3_putCells 18 = .ok (.invokevirtual 227, 3) := by decide +kernel
theorem dX3_putCells_21 : decode cX3_putCells 21 = .ok (.ifCond .ne 5, 3) := by decide +kernel
theorem dX3_putCells_24 : decode cX3_putCells 24 = .ok (.iconst 0, 1) := by decide +kernel
theorem dX3_putCells_25 : decode cX3_putCells 25 = .ok (.ireturn, 1) := by decide +kernel
theorem dX3_putCells_26 : decode cX3_putCells 26 = .ok (.iinc 2 1, 3) := by decide +kernel
theorem dX3_putCells_29 : decode cX3_putCells 29 = .ok (.goto (-27), 3) := by decide +kernel
theorem dX3_putCells_32 : decode cX3_putCells 32 = .ok (.iconst 1, 1) := by decide +kernel
theorem dX3_putCells_33 : decode cX3_putCells 33 = .ok (.ireturn, 1) := by decide +kernel
set_option maxRecDepth 20000 in
theorem ggX3_putMark_X3_powerStays : GoodIn wsX3_putMark wsX3_powerStays := goodIn_r _ [7, 1, 8, 9, 10, 11, 12, 13, 14, 15, 16, 17, 18, 45, 46, 47, 48, 49, 50, 51, 52, 53, 54, 55, 56, 57, 58, 59, 60] (by decide +kernel) (by decide +kernel)
set_option maxRecDepth 20000 in
theorem gX3_putMark_X3_powerStays : GoodIn wsX3_putMark (wsV RX3 227 RX3 yX3_powerStays wsX3_powerStays) := goodIn_app (goodIn_of _ (by decide +kernel)) ggX3_putMark_X3_powerStays
set_option maxRecDepth 20000 in
theorem ggX3_putMark_X2_free : GoodIn wsX3_putMark wsX2_free := goodIn_r _ [22, 23, 24, 25, 26, 27, 28, 29, 30, 20, 31, 32, 33, 34, 35, 36, 37, 38, 39, 40, 41, 42, 43, 44, 61, 62, 63, 64, 65, 66, 67, 68, 69, 70] (by decide +kernel) (by decide +kernel)
set_option maxRecDepth 20000 in
theorem gX3_putMark_X2_free_n234 : GoodIn wsX3_putMark (wsX2_free) := ggX3_putMark_X2_free
theorem dX3_putMark_0 : decode cX3_putMark 0 = .ok (.aload_n 0, 1) := by decide +kernel
theorem dX3_putMark_1 : decode cX3_putMark 1 = .ok (.getfield 9, 3) := by decide +kernel
theorem dX3_putMark_4 : decode cX3_putMark 4 = .ok (.iconst 2, 1) := by decide +kernel
theorem dX3_putMark_5 : decode cX3_putMark 5 = .ok (.dup2, 1) := by decide +kernel
theorem dX3_putMark_6 : decode cX3_putMark 6 = .ok (.iaload, 1) := by decide +kernel
theorem dX3_putMark_7 : decode cX3_putMark 7 = .ok (.iconst 1, 1) := by decide +kernel
theorem dX3_putMark_8 : decode cX3_putMark 8 = .ok (.iadd, 1) := by decide +kernel
theorem dX3_putMark_9 : decode cX3_putMark 9 = .ok (.iastore, 1) := by decide +kernel
theorem dX3_putMark_10 : decode cX3_putMark 10 = .ok (.aload_n 0, 1) := by decide +kernel
theorem dX3_putMark_11 : decode cX3_putMark 11 = .ok (.invokevirtual 227, 3) := by decide +kernel
theorem dX3_putMark_14 : decode cX3_putMark 14 = .ok (.ifCond .ne 5, 3) := by decide +kernel
theorem dX3_putMark_17 : decode cX3_putMark 17 = .ok (.iconst 0, 1) := by decide +kernel
theorem dX3_putMark_18 : decode cX3_putMark 18 = .ok (.ireturn, 1) := by decide +kernel
theorem dX3_putMark_19 : decode cX3_putMark 19 = .ok (.aload_n 0, 1) := by decide +kernel
theorem dX3_putMark_20 : decode cX3_putMark 20 = .ok (.getfield 54, 3) := by decide +kernel
theorem dX3_putMark_23 : decode cX3_putMark 23 = .ok (.iload_n 1, 1) := by decide +kernel
theorem dX3_putMark_24 : decode cX3_putMark 24 = .ok (.invokevirtual 234, 3) := by decide +kernel
theorem dX3_putMark_27 : decode cX3_putMark 27 = .ok (.iconst 1, 1) := by decide +kernel
theorem dX3_putMark_28 : decode cX3_putMark 28 = .ok (.ireturn, 1) := by decide +kernel
set_option maxRecDepth 20000 in
theorem ggX3_putEntry_X3_memberOf : GoodIn wsX3_putEntry wsX3_memberOf := goodIn_r _ [7, 1, 8, 9, 10, 6, 11, 49, 50, 51, 52, 53, 54, 55, 56, 57, 58] (by decide +kernel) (by decide +kernel)
set_option maxRecDepth 20000 in
theorem gX3_putEntry_X3_memberOf : GoodIn wsX3_putEntry (wsV RX3 62 RX3 yX3_memberOf wsX3_memberOf) := goodIn_app (goodIn_of _ (by decide +kernel)) ggX3_putEntry_X3_memberOf
set_option maxRecDepth 20000 in
theorem ggX3_putEntry_X1_has : GoodIn wsX3_putEntry wsX1_has := goodIn_r _ [15, 16, 59, 60, 61, 62] (by decide +kernel) (by decide +kernel)
set_option maxRecDepth 20000 in
theorem gX3_putEntry_X1_has_n197 : GoodIn wsX3_putEntry (wsX1_has) := ggX3_putEntry_X1_has
set_option maxRecDepth 20000 in
theorem ggX3_putEntry_X0_isOn : GoodIn wsX3_putEntry wsX0_isOn := goodIn_r _ [20, 21, 63, 64, 65, 66, 67, 68] (by decide +kernel) (by decide +kernel)
set_option maxRecDepth 20000 in
theorem gX3_putEntry_X0_isOn_n237 : GoodIn wsX3_putEntry (wsX0_isOn) := ggX3_putEntry_X0_isOn
set_option maxRecDepth 20000 in
theorem ggX3_putEntry_X3_putChunk : GoodIn wsX3_putEntry wsX3_putChunk := goodIn_r _ [25, 2, 26, 27, 28, 29, 6, 30, 31, 32, 33, 34, 1, 35, 18, 36, 37, 38, 21, 39, 40, 41, 42, 43, 44, 45, 46, 47, 48, 49, 50, 51, 52, 53, 54, 55, 56, 57, 58, 63, 64, 65, 66, 67, 68] (by decide +kernel) (by decide +kernel)
set_option maxRecDepth 20000 in
theorem gX3_putEntry_X3_putChunk : GoodIn wsX3_putEntry (wsV RX3 240 RX3 yX3_putChunk wsX3_putChunk) := goodIn_app (goodIn_of _ (by decide +kernel)) ggX3_putEntry_X3_putChunk
theorem dX3_putEntry_0 : decode cX3_putEntry 0 = .ok (.iconst 0, 1) := by decide +kernel
theorem dX3_putEntry_1 : decode cX3_putEntry 1 = .ok (.istore_n 2, 1) := by decide +kernel
theorem dX3_putEntry_2 : decode cX3_putEntry 2 = .ok (.iload_n 2, 1) := by decide +kernel
theorem dX3_putEntry_3 : decode cX3_putEntry 3 = .ok (.aload_n 0, 1) := by decide +kernel
theorem dX3_putEntry_4 : decode cX3_putEntry 4 = .ok (.getfield 36, 3) := by decide +kernel
theorem dX3_putEntry_7 : decode cX3_putEntry 7 = .ok (.if_icmp .ge 65, 3) := by decide +kernel
theorem dX3_putEntry_10 : decode cX3_putEntry 10 = .ok (.aload_n 0, 1) := by decide +kernel
theorem dX3_putEntry_11 : decode cX3_putEntry 11 = .ok (.aload_n 1, 1) := by decide +kernel
theorem dX3_putEntry_12 : decode cX3_putEntry 12 = .ok (.getfield 186, 3) := by decide +kernel
theorem dX3_putEntry_15 : decode cX3_putEntry 15 = .ok (.iload_n 2, 1) := by decide +kernel
theorem dX3_putEntry_16 : decode cX3_putEntry 16 = .ok (.invokevirtual 62, 3) := by decide +kernel
theorem dX3_putEntry_19 : decode cX3_putEntry 19 = .ok (.istore_n 3, 1) := by decide +kernel
theorem dX3_putEntry_20 : decode cX3_putEntry 20 = .ok (.aload_n 1, 1) := by decide +kernel
theorem dX3_putEntry_21 : decode cX3_putEntry 21 = .ok (.iload_n 2, 1) := by decide +kernel
theorem dX3_putEntry_22 : decode cX3_putEntry 22 = .ok (.invokevirtual 197, 3) := by decide +kernel
theorem dX3_putEntry_25 : decode cX3_putEntry 25 = .ok (.ifCond .eq 41, 3) := by decide +kernel
theorem dX3_putEntry_28 : decode cX3_putEntry 28 = .ok (.aload_n 0, 1) := by decide +kernel
theorem dX3_putEntry_29 : decode cX3_putEntry 29 = .ok (.getfield 44, 3) := by decide +kernel
theorem dX3_putEntry_32 : decode cX3_putEntry 32 = .ok (.iload_n 3, 1) := by decide +kernel
theorem dX3_putEntry_33 : decode cX3_putEntry 33 = .ok (.aaload, 1) := by decide +kernel
theorem dX3_putEntry_34 : decode cX3_putEntry 34 = .ok (.aload_n 1, 1) := by decide +kernel
theorem dX3_putEntry_35 : decode cX3_putEntry 35 = .ok (.getfield 186, 3) := by decide +kernel
theorem dX3_putEntry_38 : decode cX3_putEntry 38 = .ok (.invokevirtual 237, 3) := by decide +kernel
theorem dX3_putEntry_41 : decode cX3_putEntry 41 = .ok (.ifCond .eq 25, 3) := by decide +kernel
theorem dX3_putEntry_44 : decode cX3_putEntry 44 = .ok (.aload_n 0, 1) := by decide +kernel
theorem dX3_putEntry_45 : decode cX3_putEntry 45 = .ok (.iload_n 3, 1) := by decide +kernel
theorem dX3_putEntry_46 : decode cX3_putEntry 46 = .ok (.aload_n 1, 1) := by decide +kernel
theorem dX3_putEntry_47 : decode cX3_putEntry 47 = .ok (.getfield 186, 3) := by decide +kernel
theorem dX3_putEntry_50 : decode cX3_putEntry 50 = .ok (.aload_n 1, 1) := by decide +kernel
theorem dX3_putEntry_51 : decode cX3_putEntry 51 = .ok (.getfield 223, 3) := by decide +kernel
theorem dX3_putEntry_54 : decode cX3_putEntry 54 = .ok (.iload_n 2, 1) := by decide +kernel
theorem dX3_putEntry_55 : decode cX3_putEntry 55 = .ok (.bipush 8, 2) := by decide +kernel
theorem dX3_putEntry_57 : decode cX3_putEntry 57 = .ok (.imul, 1) := by decide +kernel
theorem dX3_putEntry_58 : decode cX3_putEntry 58 = .ok (.invokevirtual 240, 3) := by decide +kernel
theorem dX3_putEntry_61 : decode cX3_putEntry 61 = .ok (.ifCond .ne 5, 3) := by decide +kernel
theorem dX3_putEntry_64 : decode cX3_putEntry 64 = .ok (.iconst 0, 1) := by decide +kernel
theorem dX3_putEntry_65 : decode cX3_putEntry 65 = .ok (.ireturn, 1) := by decide +kernel
theorem dX3_putEntry_66 : decode cX3_putEntry 66 = .ok (.iinc 2 1, 3) := by decide +kernel
theorem dX3_putEntry_69 : decode cX3_putEntry 69 = .ok (.goto (-67), 3) := by decide +kernel
theorem dX3_putEntry_72 : decode cX3_putEntry 72 = .ok (.iconst 1, 1) := by decide +kernel
theorem dX3_putEntry_73 : decode cX3_putEntry 73 = .ok (.ireturn, 1) := by decide +kernel
set_option maxRecDepth 20000 in
theorem ggX3_drainOldest_X2_entry : GoodIn wsX3_drainOldest wsX2_entry := goodIn_r _ [6, 7, 8, 92, 93, 94, 95, 96, 97] (by decide +kernel) (by decide +kernel)
set_option maxRecDepth 20000 in
theorem gX3_drainOldest_X2_entry_n182 : GoodIn wsX3_drainOldest (wsX2_entry) := ggX3_drainOldest_X2_entry
set_option maxRecDepth 20000 in
theorem ggX3_drainOldest_X3_putEntry : GoodIn wsX3_drainOldest wsX3_putEntry := goodIn_r _ [13, 14, 15, 16, 17, 18, 12, 19, 20, 21, 22, 23, 24, 25, 26, 27, 28, 29, 30, 31, 32, 33, 34, 35, 36, 37, 38, 39, 40, 41, 42, 2, 43, 44, 45, 46, 47, 48, 49, 50, 51, 52, 53, 54, 55, 56, 57, 58, 59, 82, 83, 84, 85, 86, 87, 88, 89, 90, 91, 98, 99, 100, 101, 102, 103, 104, 105, 106, 107] (by decide +kernel) (by decide +kernel)
set_option maxRecDepth 20000 in
theorem gX3_drainOldest_X3_putEntry : GoodIn wsX3_drainOldest (wsV RX3 244 RX3 yX3_putEntry wsX3_putEntry) := goodIn_app (goodIn_of _ (by decide +kernel)) ggX3_drainOldest_X3_putEntry
set_option maxRecDepth 20000 in
theorem ggX3_drainOldest_X3_putMark : GoodIn wsX3_drainOldest wsX3_putMark := goodIn_r _ [63, 2, 1, 39, 40, 41, 12, 42, 43, 44, 45, 14, 15, 46, 30, 47, 48, 49, 33, 64, 4, 65, 66, 67, 68, 69, 70, 8, 71, 3, 5, 6, 7, 72, 25, 73, 74, 28, 75, 76, 77, 78, 79, 80, 81, 82, 83, 84, 85, 86, 87, 88, 89, 90, 91, 102, 103, 104, 105, 106, 107, 92, 93, 94, 95, 96, 97, 98, 99, 100, 101] (by decide +kernel) (by decide +kernel)
set_option maxRecDepth 20000 in
theorem gX3_drainOldest_X3_putMark : GoodIn wsX3_drainOldest (wsV RX3 150 RX3 yX3_putMark wsX3_putMark) := goodIn_app (goodIn_of _ (by decide +kernel)) ggX3_drainOldest_X3_putMark
theorem dX3_drainOldest_0 : decode cX3_drainOldest 0 = .ok (.iconst 0, 1) := by decide +kernel
theorem dX3_drainOldest_1 : decode cX3_drainOldest 1 = .ok (.istore_n 2, 1) := by decide +kernel
theorem dX3_drainOldest_2 : decode cX3_drainOldest 2 = .ok (.iload_n 2, 1) := by decide +kernel
theorem dX3_drainOldest_3 : decode cX3_drainOldest 3 = .ok (.iload_n 1, 1) := by decide +kernel
theorem dX3_drainOldest_4 : decode cX3_drainOldest 4 = .ok (.if_icmp .ge 44, 3) := by decide +kernel
theorem dX3_drainOldest_7 : decode cX3_drainOldest 7 = .ok (.aload_n 0, 1) := by decide +kernel
theorem dX3_drainOldest_8 : decode cX3_drainOldest 8 = .ok (.aload_n 0, 1) := by decide +kernel
theorem dX3_drainOldest_9 : decode cX3_drainOldest 9 = .ok (.getfield 54, 3) := by decide +kernel
theorem dX3_drainOldest_12 : decode cX3_drainOldest 12 = .ok (.iconst 0, 1) := by decide +kernel
theorem dX3_drainOldest_13 : decode cX3_drainOldest 13 = .ok (.invokevirtual 182, 3) := by decide +kernel
theorem dX3_drainOldest_16 : decode cX3_drainOldest 16 = .ok (.invokevirtual 244, 3) := by decide +kernel
theorem dX3_drainOldest_19 : decode cX3_drainOldest 19 = .ok (.ifCond .eq 11, 3) := by decide +kernel
theorem dX3_drainOldest_22 : decode cX3_drainOldest 22 = .ok (.aload_n 0, 1) := by decide +kernel
theorem dX3_drainOldest_23 : decode cX3_drainOldest 23 = .ok (.iconst 1, 1) := by decide +kernel
theorem dX3_drainOldest_24 : decode cX3_drainOldest 24 = .ok (.invokevirtual 150, 3) := by decide +kernel
theorem dX3_drainOldest_27 : decode cX3_drainOldest 27 = .ok (.ifCond .ne 5, 3) := by decide +kernel
theorem dX3_drainOldest_30 : decode cX3_drainOldest 30 = .ok (.iconst 0, 1) := by decide +kernel
theorem dX3_drainOldest_31 : decode cX3_drainOldest 31 = .ok (.ireturn, 1) := by decide +kernel
theorem dX3_drainOldest_32 : decode cX3_drainOldest 32 = .ok (.aload_n 0, 1) := by decide +kernel
theorem dX3_drainOldest_33 : decode cX3_drainOldest 33 = .ok (.getfield 9, 3) := by decide +kernel
theorem dX3_drainOldest_36 : decode cX3_drainOldest 36 = .ok (.iconst 5, 1) := by decide +kernel
theorem dX3_drainOldest_37 : decode cX3_drainOldest 37 = .ok (.dup2, 1) := by decide +kernel
theorem dX3_drainOldest_38 : decode cX3_drainOldest 38 = .ok (.iaload, 1) := by decide +kernel
theorem dX3_drainOldest_39 : decode cX3_drainOldest 39 = .ok (.iconst 1, 1) := by decide +kernel
theorem dX3_drainOldest_40 : decode cX3_drainOldest 40 = .ok (.iadd, 1) := by decide +kernel
theorem dX3_drainOldest_41 : decode cX3_drainOldest 41 = .ok (.iastore, 1) := by decide +kernel
theorem dX3_drainOldest_42 : decode cX3_drainOldest 42 = .ok (.iinc 2 1, 3) := by decide +kernel
theorem dX3_drainOldest_45 : decode cX3_drainOldest 45 = .ok (.goto (-43), 3) := by decide +kernel
theorem dX3_drainOldest_48 : decode cX3_drainOldest 48 = .ok (.iconst 1, 1) := by decide +kernel
theorem dX3_drainOldest_49 : decode cX3_drainOldest 49 = .ok (.ireturn, 1) := by decide +kernel
set_option maxRecDepth 20000 in
theorem ggX3_doAgain_X2_entry : GoodIn wsX3_doAgain wsX2_entry := goodIn_r _ [6, 7, 8, 70, 71, 72, 73, 74, 75] (by decide +kernel) (by decide +kernel)
set_option maxRecDepth 20000 in
theorem gX3_doAgain_X2_entry_n182 : GoodIn wsX3_doAgain (wsX2_entry) := ggX3_doAgain_X2_entry
set_option maxRecDepth 20000 in
theorem ggX3_doAgain_X3_putEntry : GoodIn wsX3_doAgain wsX3_putEntry := goodIn_r _ [13, 14, 15, 16, 17, 18, 12, 19, 20, 21, 22, 23, 24, 25, 26, 27, 28, 29, 30, 31, 32, 33, 34, 35, 36, 37, 38, 39, 40, 41, 42, 2, 43, 44, 45, 46, 47, 48, 49, 50, 51, 52, 53, 54, 55, 56, 57, 58, 59, 60, 61, 62, 63, 64, 65, 66, 67, 68, 69, 76, 77, 78, 79, 80, 81, 82, 83, 84, 85] (by decide +kernel) (by decide +kernel)
set_option maxRecDepth 20000 in
theorem gX3_doAgain_X3_putEntry : GoodIn wsX3_doAgain (wsV RX3 244 RX3 yX3_putEntry wsX3_putEntry) := goodIn_app (goodIn_of _ (by decide +kernel)) ggX3_doAgain_X3_putEntry
theorem dX3_doAgain_0 : decode cX3_doAgain 0 = .ok (.iconst 0, 1) := by decide +kernel
theorem dX3_doAgain_1 : decode cX3_doAgain 1 = .ok (.istore_n 2, 1) := by decide +kernel
theorem dX3_doAgain_2 : decode cX3_doAgain 2 = .ok (.iload_n 2, 1) := by decide +kernel
theorem dX3_doAgain_3 : decode cX3_doAgain 3 = .ok (.iload_n 1, 1) := by decide +kernel
theorem dX3_doAgain_4 : decode cX3_doAgain 4 = .ok (.if_icmp .ge 37, 3) := by decide +kernel
theorem dX3_doAgain_7 : decode cX3_doAgain 7 = .ok (.aload_n 0, 1) := by decide +kernel
theorem dX3_doAgain_8 : decode cX3_doAgain 8 = .ok (.aload_n 0, 1) := by decide +kernel
theorem dX3_doAgain_9 : decode cX3_doAgain 9 = .ok (.getfield 54, 3) := by decide +kernel
theorem dX3_doAgain_12 : decode cX3_doAgain 12 = .ok (.iload_n 2, 1) := by decide +kernel
theorem dX3_doAgain_13 : decode cX3_doAgain 13 = .ok (.invokevirtual 182, 3) := by decide +kernel
theorem dX3_doAgain_16 : decode cX3_doAgain 16 = .ok (.invokevirtual 244, 3) := by decide +kernel
theorem dX3_doAgain_19 : decode cX3_doAgain 19 = .ok (.ifCond .ne 5, 3) := by decide +kernel
theorem dX3_doAgain_22 : decode cX3_doAgain 22 = .ok (.iconst 0, 1) := by decide +kernel
theorem dX3_doAgain_23 : decode cX3_doAgain 23 = .ok (.ireturn, 1) := by decide +kernel
theorem dX3_doAgain_24 : decode cX3_doAgain 24 = .ok (.aload_n 0, 1) := by decide +kernel
theorem dX3_doAgain_25 : decode cX3_doAgain 25 = .ok (.getfield 9, 3) := by decide +kernel
theorem dX3_doAgain_28 : decode cX3_doAgain 28 = .ok (.bipush 6, 2) := by decide +kernel
theorem dX3_doAgain_30 : decode cX3_doAgain 30 = .ok (.dup2, 1) := by decide +kernel
theorem dX3_doAgain_31 : decode cX3_doAgain 31 = .ok (.iaload, 1) := by decide +kernel
theorem dX3_doAgain_32 : decode cX3_doAgain 32 = .ok (.iconst 1, 1) := by decide +kernel
theorem dX3_doAgain_33 : decode cX3_doAgain 33 = .ok (.iadd, 1) := by decide +kernel
theorem dX3_doAgain_34 : decode cX3_doAgain 34 = .ok (.iastore, 1) := by decide +kernel
theorem dX3_doAgain_35 : decode cX3_doAgain 35 = .ok (.iinc 2 1, 3) := by decide +kernel
theorem dX3_doAgain_38 : decode cX3_doAgain 38 = .ok (.goto (-36), 3) := by decide +kernel
theorem dX3_doAgain_41 : decode cX3_doAgain 41 = .ok (.iconst 1, 1) := by decide +kernel
theorem dX3_doAgain_42 : decode cX3_doAgain 42 = .ok (.ireturn, 1) := by decide +kernel
set_option maxRecDepth 20000 in
theorem ggX3_writeStripe_X2_made : GoodIn wsX3_writeStripe wsX2_made := goodIn_r _ [7, 8, 9, 10, 11, 5, 12, 13, 14, 175, 176, 177, 178, 179, 180] (by decide +kernel) (by decide +kernel)
set_option maxRecDepth 20000 in
theorem gX3_writeStripe_X2_made_n248 : GoodIn wsX3_writeStripe (wsX2_made) := ggX3_writeStripe_X2_made
set_option maxRecDepth 20000 in
theorem ggX3_writeStripe_X1_begin : GoodIn wsX3_writeStripe wsX1_begin := goodIn_r _ [18, 19, 20, 171, 172, 173, 174] (by decide +kernel) (by decide +kernel)
set_option maxRecDepth 20000 in
theorem gX3_writeStripe_X1_begin_n252 : GoodIn wsX3_writeStripe (wsX1_begin) := ggX3_writeStripe_X1_begin
set_option maxRecDepth 20000 in
theorem ggX3_writeStripe_X1_addDatum : GoodIn wsX3_writeStripe wsX1_addDatum := goodIn_r _ [23, 20, 24, 171, 172, 173, 174] (by decide +kernel) (by decide +kernel)
set_option maxRecDepth 20000 in
theorem gX3_writeStripe_X1_addDatum_n255 : GoodIn wsX3_writeStripe (wsX1_addDatum) := ggX3_writeStripe_X1_addDatum
set_option maxRecDepth 20000 in
theorem ggX3_writeStripe_X3_chooseWay : GoodIn wsX3_writeStripe wsX3_chooseWay := goodIn_r _ [29, 30, 31, 32, 33, 28, 34, 2, 35, 36, 37, 38, 39, 40, 41, 42, 43, 44, 45, 46, 47, 48, 49, 50, 51, 52, 53, 54, 55, 56, 1, 57, 5, 58, 59, 8, 9, 10, 11, 12, 13, 14, 60, 16, 61, 62, 20, 63, 64, 65, 66, 67, 68, 69, 70, 71, 72, 73, 74, 75, 76, 77, 78, 79, 80, 81, 82, 83, 161, 162, 163, 164, 165, 166, 167, 168, 169, 170, 181, 182, 183, 184, 185, 186, 175, 176, 177, 178, 179, 180, 171, 172, 173, 174] (by decide +kernel) (by decide +kernel)
set_option maxRecDepth 20000 in
theorem gX3_writeStripe_X3_chooseWay : GoodIn wsX3_writeStripe (wsV RX3 258 RX3 yX3_chooseWay wsX3_chooseWay) := goodIn_app (goodIn_of _ (by decide +kernel)) ggX3_writeStripe_X3_chooseWay
set_option maxRecDepth 20000 in
theorem ggX3_writeStripe_X3_addParity : GoodIn wsX3_writeStripe wsX3_addParity := goodIn_r _ [87, 39, 3, 2, 88, 45, 46, 47, 28, 48, 31, 32, 33, 34, 89, 90, 91, 92, 60, 16, 61, 62, 20, 93, 94, 95, 96, 97, 98, 99, 100, 1, 30, 57, 5, 58, 59, 8, 9, 10, 11, 12, 13, 14, 63, 64, 65, 66, 35, 36, 37, 38, 101, 102, 103, 24, 171, 172, 173, 174, 161, 162, 163, 164, 165, 166, 167, 168, 169, 170, 181, 182, 183, 184, 185, 186, 175, 176, 177, 178, 179, 180] (by decide +kernel) (by decide +kernel)
set_option maxRecDepth 20000 in
theorem gX3_writeStripe_X3_addParity : GoodIn wsX3_writeStripe (wsV RX3 261 RX3 yX3_addParity wsX3_addParity) := goodIn_app (goodIn_of _ (by decide +kernel)) ggX3_writeStripe_X3_addParity
set_option maxRecDepth 20000 in
theorem ggX3_writeStripe_X1_cells : GoodIn wsX3_writeStripe wsX1_cells := goodIn_r _ [106, 20, 107, 78, 79, 80, 81, 82, 83, 171, 172, 173, 174] (by decide +kernel) (by decide +kernel)
set_option maxRecDepth 20000 in
theorem gX3_writeStripe_X1_cells_n265 : GoodIn wsX3_writeStripe (wsX1_cells) := ggX3_writeStripe_X1_cells
set_option maxRecDepth 20000 in
theorem ggX3_writeStripe_X2_recordsToFree : GoodIn wsX3_writeStripe wsX2_recordsToFree := goodIn_r _ [110, 8, 111, 112, 113, 5, 114, 115, 9, 10, 11, 12, 13, 14, 104, 16, 105, 106, 20, 107, 78, 79, 80, 81, 82, 83, 175, 176, 177, 178, 179, 180, 171, 172, 173, 174] (by decide +kernel) (by decide +kernel)
set_option maxRecDepth 20000 in
theorem gX3_writeStripe_X2_recordsToFree_n268 : GoodIn wsX3_writeStripe (wsX2_recordsToFree) := ggX3_writeStripe_X2_recordsToFree
set_option maxRecDepth 20000 in
theorem ggX3_writeStripe_X3_drainOldest : GoodIn wsX3_writeStripe wsX3_drainOldest := goodIn_r _ [119, 1, 3, 10, 5, 11, 12, 13, 14, 120, 121, 122, 28, 123, 39, 30, 63, 64, 65, 66, 35, 36, 37, 38, 60, 16, 61, 62, 20, 40, 41, 42, 43, 44, 124, 125, 126, 127, 128, 129, 130, 131, 132, 133, 134, 135, 136, 137, 138, 139, 140, 141, 142, 72, 71, 70, 143, 74, 75, 76, 144, 145, 146, 147, 148, 149, 150, 8, 151, 152, 115, 9, 104, 105, 106, 107, 78, 79, 80, 81, 82, 83, 161, 162, 163, 164, 165, 166, 167, 168, 169, 170, 175, 176, 177, 178, 179, 180, 171, 172, 173, 174, 181, 182, 183, 184, 185, 186] (by decide +kernel) (by decide +kernel)
set_option maxRecDepth 20000 in
theorem gX3_writeStripe_X3_drainOldest : GoodIn wsX3_writeStripe (wsV RX3 110 RX3 yX3_drainOldest wsX3_drainOldest) := goodIn_app (goodIn_of _ (by decide +kernel)) ggX3_writeStripe_X3_drainOldest
set_option maxRecDepth 20000 in
theorem ggX3_writeStripe_X3_putCells : GoodIn wsX3_writeStripe wsX3_putCells := goodIn_r _ [156, 3, 129, 130, 131, 28, 132, 133, 134, 135, 39, 30, 136, 41, 137, 138, 139, 44, 161, 162, 163, 164, 165, 166, 167, 168, 169, 170, 181, 182, 183, 184, 185, 186] (by decide +kernel) (by decide +kernel)
set_option maxRecDepth 20000 in
theorem gX3_writeStripe_X3_putCells : GoodIn wsX3_writeStripe (wsV RX3 271 RX3 yX3_putCells wsX3_putCells) := goodIn_app (goodIn_of _ (by decide +kernel)) ggX3_writeStripe_X3_putCells
set_option maxRecDepth 20000 in
theorem ggX3_writeStripe_X2_addMade : GoodIn wsX3_writeStripe wsX2_addMade := goodIn_r _ [159, 115, 8, 160, 4, 6, 5, 7, 9, 10, 11, 12, 13, 14, 104, 16, 105, 106, 20, 107, 78, 79, 80, 81, 82, 83, 175, 176, 177, 178, 179, 180, 171, 172, 173, 174] (by decide +kernel) (by decide +kernel)
set_option maxRecDepth 20000 in
theorem gX3_writeStripe_X2_addMade_n274 : GoodIn wsX3_writeStripe (wsX2_addMade) := ggX3_writeStripe_X2_addMade
theorem dX3_writeStripe_0 : decode cX3_writeStripe 0 = .ok (.aload_n 0, 1) := by decide +kernel
theorem dX3_writeStripe_1 : decode cX3_writeStripe 1 = .ok (.getfield 54, 3) := by decide +kernel
theorem dX3_writeStripe_4 : decode cX3_writeStripe 4 = .ok (.invokevirtual 248, 3) := by decide +kernel
theorem dX3_writeStripe_7 : decode cX3_writeStripe 7 = .ok (.astore 5, 2) := by decide +kernel
theorem dX3_writeStripe_9 : decode cX3_writeStripe 9 = .ok (.aload 5, 2) := by decide +kernel
theorem dX3_writeStripe_11 : decode cX3_writeStripe 11 = .ok (.iload_n 1, 1) := by decide +kernel
theorem dX3_writeStripe_12 : decode cX3_writeStripe 12 = .ok (.invokevirtual 252, 3) := by decide +kernel
theorem dX3_writeStripe_15 : decode cX3_writeStripe 15 = .ok (.iload_n 2, 1) := by decide +kernel
theorem dX3_writeStripe_16 : decode cX3_writeStripe 16 = .ok (.istore 6, 2) := by decide +kernel
theorem dX3_writeStripe_18 : decode cX3_writeStripe 18 = .ok (.iload 6, 2) := by decide +kernel
theorem dX3_writeStripe_20 : decode cX3_writeStripe 20 = .ok (.iload_n 3, 1) := by decide +kernel
theorem dX3_writeStripe_21 : decode cX3_writeStripe 21 = .ok (.if_icmp .gt 31, 3) := by decide +kernel
theorem dX3_writeStripe_24 : decode cX3_writeStripe 24 = .ok (.aload 5, 2) := by decide +kernel
theorem dX3_writeStripe_26 : decode cX3_writeStripe 26 = .ok (.iload 6, 2) := by decide +kernel
theorem dX3_writeStripe_28 : decode cX3_writeStripe 28 = .ok (.aload_n 0, 1) := by decide +kernel
theorem dX3_writeStripe_29 : decode cX3_writeStripe 29 = .ok (.getfield 39, 3) := by decide +kernel
theorem dX3_writeStripe_32 : decode cX3_writeStripe 32 = .ok (.irem, 1) := by decide +kernel
theorem dX3_writeStripe_33 : decode cX3_writeStripe 33 = .ok (.iload 4, 2) := by decide +kernel
theorem dX3_writeStripe_35 : decode cX3_writeStripe 35 = .ok (.bipush 8, 2) := by decide +kernel
theorem dX3_writeStripe_37 : decode cX3_writeStripe 37 = .ok (.iload 6, 2) := by decide +kernel
theorem dX3_writeStripe_39 : decode cX3_writeStripe 39 = .ok (.iload_n 2, 1) := by decide +kernel
theorem dX3_writeStripe_40 : decode cX3_writeStripe 40 = .ok (.isub, 1) := by decide +kernel
theorem dX3_writeStripe_41 : decode cX3_writeStripe 41 = .ok (.imul, 1) := by decide +kernel
theorem dX3_writeStripe_42 : decode cX3_writeStripe 42 = .ok (.iadd, 1) := by decide +kernel
theorem dX3_writeStripe_43 : decode cX3_writeStripe 43 = .ok (.invokevirtual 255, 3) := by decide +kernel
theorem dX3_writeStripe_46 : decode cX3_writeStripe 46 = .ok (.iinc 6 1, 3) := by decide +kernel
theorem dX3_writeStripe_49 : decode cX3_writeStripe 49 = .ok (.goto (-31), 3) := by decide +kernel
theorem dX3_writeStripe_52 : decode cX3_writeStripe 52 = .ok (.aload 5, 2) := by decide +kernel
theorem dX3_writeStripe_54 : decode cX3_writeStripe 54 = .ok (.aload_n 0, 1) := by decide +kernel
theorem dX3_writeStripe_55 : decode cX3_writeStripe 55 = .ok (.iload_n 1, 1) := by decide +kernel
theorem dX3_writeStripe_56 : decode cX3_writeStripe 56 = .ok (.aload 5, 2) := by decide +kernel
theorem dX3_writeStripe_58 : decode cX3_writeStripe 58 = .ok (.getfield 191, 3) := by decide +kernel
theorem dX3_writeStripe_61 : decode cX3_writeStripe 61 = .ok (.invokevirtual 258, 3) := by decide +kernel
theorem dX3_writeStripe_64 : decode cX3_writeStripe 64 = .ok (.putfield 200, 3) := by decide +kernel
theorem dX3_writeStripe_67 : decode cX3_writeStripe 67 = .ok (.aload 5, 2) := by decide +kernel
theorem dX3_writeStripe_69 : decode cX3_writeStripe 69 = .ok (.getfield 200, 3) := by decide +kernel
theorem dX3_writeStripe_72 : decode cX3_writeStripe 72 = .ok (.iconst (-1), 1) := by decide +kernel
theorem dX3_writeStripe_73 : decode cX3_writeStripe 73 = .ok (.if_icmp .ne 6, 3) := by decide +kernel
theorem dX3_writeStripe_76 : decode cX3_writeStripe 76 = .ok (.bipush (-105), 2) := by decide +kernel
theorem dX3_writeStripe_78 : decode cX3_writeStripe 78 = .ok (.ireturn, 1) := by decide +kernel
theorem dX3_writeStripe_79 : decode cX3_writeStripe 79 = .ok (.aload 5, 2) := by decide +kernel
theorem dX3_writeStripe_81 : decode cX3_writeStripe 81 = .ok (.getfield 200, 3) := by decide +kernel
theorem dX3_writeStripe_84 : decode cX3_writeStripe 84 = .ok (.iconst 1, 1) := by decide +kernel
theorem dX3_writeStripe_85 : decode cX3_writeStripe 85 = .ok (.if_icmp .eq 9, 3) := by decide +kernel
theorem dX3_writeStripe_88 : decode cX3_writeStripe 88 = .ok (.aload_n 0, 1) := by decide +kernel
theorem dX3_writeStripe_89 : decode cX3_writeStripe 89 = .ok (.aload 5, 2) := by decide +kernel
theorem dX3_writeStripe_91 : decode cX3_writeStripe 91 = .ok (.invokevirtual 261, 3) := by decide +kernel
theorem dX3_writeStripe_94 : decode cX3_writeStripe 94 = .ok (.aload_n 0, 1) := by decide +kernel
theorem dX3_writeStripe_95 : decode cX3_writeStripe 95 = .ok (.aload_n 0, 1) := by decide +kernel
theorem dX3_writeStripe_96 : decode cX3_writeStripe 96 = .ok (.getfield 54, 3) := by decide +kernel
theorem dX3_writeStripe_99 : decode cX3_writeStripe 99 = .ok (.aload 5, 2) := by decide +kernel
theorem dX3_writeStripe_101 : decode cX3_writeStripe 101 = .ok (.invokevirtual 265, 3) := by decide +kernel
theorem dX3_writeStripe_104 : decode cX3_writeStripe 104 = .ok (.invokevirtual 268, 3) := by decide +kernel
theorem dX3_writeStripe_107 : decode cX3_writeStripe 107 = .ok (.invokevirtual 110, 3) := by decide +kernel
theorem dX3_writeStripe_110 : decode cX3_writeStripe 110 = .ok (.ifCond .eq 15, 3) := by decide +kernel
theorem dX3_writeStripe_113 : decode cX3_writeStripe 113 = .ok (.aload_n 0, 1) := by decide +kernel
theorem dX3_writeStripe_114 : decode cX3_writeStripe 114 = .ok (.aload 5, 2) := by decide +kernel
theorem dX3_writeStripe_116 : decode cX3_writeStripe 116 = .ok (.invokevirtual 265, 3) := by decide +kernel
theorem dX3_writeStripe_119 : decode cX3_writeStripe 119 = .ok (.invokevirtual 271, 3) := by decide +kernel
theorem dX3_writeStripe_122 : decode cX3_writeStripe 122 = .ok (.ifCond .ne 6, 3) := by decide +kernel
theorem dX3_writeStripe_125 : decode cX3_writeStripe 125 = .ok (.bipush (-106), 2) := by decide +kernel
theorem dX3_writeStripe_127 : decode cX3_writeStripe 127 = .ok (.ireturn, 1) := by decide +kernel
theorem dX3_writeStripe_128 : decode cX3_writeStripe 128 = .ok (.aload_n 0, 1) := by decide +kernel
theorem dX3_writeStripe_129 : decode cX3_writeStripe 129 = .ok (.getfield 54, 3) := by decide +kernel
theorem dX3_writeStripe_132 : decode cX3_writeStripe 132 = .ok (.invokevirtual 274, 3) := by decide +kernel
theorem dX3_writeStripe_135 : decode cX3_writeStripe 135 = .ok (.aload_n 0, 1) := by decide +kernel
theorem dX3_writeStripe_136 : decode cX3_writeStripe 136 = .ok (.getfield 9, 3) := by decide +kernel
theorem dX3_writeStripe_139 : decode cX3_writeStripe 139 = .ok (.iconst 4, 1) := by decide +kernel
theorem dX3_writeStripe_140 : decode cX3_writeStripe 140 = .ok (.dup2, 1) := by decide +kernel
theorem dX3_writeStripe_141 : decode cX3_writeStripe 141 = .ok (.iaload, 1) := by decide +kernel
theorem dX3_writeStripe_142 : decode cX3_writeStripe 142 = .ok (.iconst 1, 1) := by decide +kernel
theorem dX3_writeStripe_143 : decode cX3_writeStripe 143 = .ok (.iadd, 1) := by decide +kernel
theorem dX3_writeStripe_144 : decode cX3_writeStripe 144 = .ok (.iastore, 1) := by decide +kernel
theorem dX3_writeStripe_145 : decode cX3_writeStripe 145 = .ok (.aload_n 0, 1) := by decide +kernel
theorem dX3_writeStripe_146 : decode cX3_writeStripe 146 = .ok (.getfield 9, 3) := by decide +kernel
theorem dX3_writeStripe_149 : decode cX3_writeStripe 149 = .ok (.bipush 9, 2) := by decide +kernel
theorem dX3_writeStripe_151 : decode cX3_writeStripe 151 = .ok (.aload 5, 2) := by decide +kernel
theorem dX3_writeStripe_153 : decode cX3_writeStripe 153 = .ok (.getfield 200, 3) := by decide +kernel
theorem dX3_writeStripe_156 : decode cX3_writeStripe 156 = .ok (.iadd, 1) := by decide +kernel
theorem dX3_writeStripe_157 : decode cX3_writeStripe 157 = .ok (.dup2, 1) := by decide +kernel
theorem dX3_writeStripe_158 : decode cX3_writeStripe 158 = .ok (.iaload, 1) := by decide +kernel
theorem dX3_writeStripe_159 : decode cX3_writeStripe 159 = .ok (.iconst 1, 1) := by decide +kernel
theorem dX3_writeStripe_160 : decode cX3_writeStripe 160 = .ok (.iadd, 1) := by decide +kernel
theorem dX3_writeStripe_161 : decode cX3_writeStripe 161 = .ok (.iastore, 1) := by decide +kernel
theorem dX3_writeStripe_162 : decode cX3_writeStripe 162 = .ok (.iconst 0, 1) := by decide +kernel
theorem dX3_writeStripe_163 : decode cX3_writeStripe 163 = .ok (.ireturn, 1) := by decide +kernel
set_option maxRecDepth 20000 in
theorem ggX3_chooseWay_X3_allData : GoodIn wsX3_chooseWay wsX3_allData := goodIn_r _ [6, 7, 68, 69, 70, 71, 72, 73, 74, 75, 76, 77] (by decide +kernel) (by decide +kernel)
set_option maxRecDepth 20000 in
theorem gX3_chooseWay_X3_allData : GoodIn wsX3_chooseWay (wsV RX3 194 RX3 yX3_allData wsX3_allData) := goodIn_app (goodIn_of _ (by decide +kernel)) ggX3_chooseWay_X3_allData
set_option maxRecDepth 20000 in
theorem ggX3_chooseWay_X3_parityMember : GoodIn wsX3_chooseWay wsX3_parityMember := goodIn_r _ [11, 12, 68, 69, 70, 71, 72, 73, 74, 75, 76, 77] (by decide +kernel) (by decide +kernel)
set_option maxRecDepth 20000 in
theorem gX3_chooseWay_X3_parityMember : GoodIn wsX3_chooseWay (wsV RX3 65 RX3 yX3_parityMember wsX3_parityMember) := goodIn_app (goodIn_of _ (by decide +kernel)) ggX3_chooseWay_X3_parityMember
set_option maxRecDepth 20000 in
theorem ggX3_chooseWay_X0_isOn : GoodIn wsX3_chooseWay wsX0_isOn := goodIn_r _ [16, 17, 78, 79, 80, 81, 82, 83] (by decide +kernel) (by decide +kernel)
set_option maxRecDepth 20000 in
theorem gX3_chooseWay_X0_isOn_n237 : GoodIn wsX3_chooseWay (wsX0_isOn) := ggX3_chooseWay_X0_isOn
set_option maxRecDepth 20000 in
theorem ggX3_chooseWay_X3_needed : GoodIn wsX3_chooseWay wsX3_needed := goodIn_r _ [21, 7, 2, 3, 4, 5, 6, 68, 69, 70, 71, 72, 73, 74, 75, 76, 77] (by decide +kernel) (by decide +kernel)
set_option maxRecDepth 20000 in
theorem gX3_chooseWay_X3_needed : GoodIn wsX3_chooseWay (wsV RX3 277 RX3 yX3_needed wsX3_needed) := goodIn_app (goodIn_of _ (by decide +kernel)) ggX3_chooseWay_X3_needed
set_option maxRecDepth 20000 in
theorem ggX3_chooseWay_X3_haveNewest : GoodIn wsX3_chooseWay wsX3_haveNewest := goodIn_r _ [25, 12, 26, 27, 28, 5, 29, 30, 1, 31, 32, 33, 34, 35, 36, 37, 38, 39, 40, 41, 42, 43, 44, 45, 46, 47, 48, 49, 50, 8, 9, 10, 11, 51, 14, 52, 53, 54, 55, 56, 57, 13, 15, 16, 17, 58, 59, 60, 68, 69, 70, 71, 72, 73, 74, 75, 76, 77, 84, 85, 86, 87, 88, 89, 90, 91, 92, 93, 78, 79, 80, 81, 82, 83] (by decide +kernel) (by decide +kernel)
set_option maxRecDepth 20000 in
theorem gX3_chooseWay_X3_haveNewest : GoodIn wsX3_chooseWay (wsV RX3 280 RX3 yX3_haveNewest wsX3_haveNewest) := goodIn_app (goodIn_of _ (by decide +kernel)) ggX3_chooseWay_X3_haveNewest
set_option maxRecDepth 20000 in
theorem ggX3_chooseWay_J6_bitCount_0f7a4 : GoodIn wsX3_chooseWay wsJ6_bitCount_0f7a4 := goodIn_r _ [64, 65, 66, 67] (by decide +kernel) (by decide +kernel)
set_option maxRecDepth 20000 in
theorem gX3_chooseWay_J6_bitCount_0f7a4 : GoodIn wsX3_chooseWay (va_wsS RX3 283 yJ6_bitCount_0f7a4 wsJ6_bitCount_0f7a4) := goodIn_app (goodIn_of _ (by decide +kernel)) ggX3_chooseWay_J6_bitCount_0f7a4
theorem dX3_chooseWay_0 : decode cX3_chooseWay 0 = .ok (.iload_n 2, 1) := by decide +kernel
theorem dX3_chooseWay_1 : decode cX3_chooseWay 1 = .ok (.aload_n 0, 1) := by decide +kernel
theorem dX3_chooseWay_2 : decode cX3_chooseWay 2 = .ok (.invokevirtual 194, 3) := by decide +kernel
theorem dX3_chooseWay_5 : decode cX3_chooseWay 5 = .ok (.if_icmp .ne 5, 3) := by decide +kernel
theorem dX3_chooseWay_8 : decode cX3_chooseWay 8 = .ok (.iconst 0, 1) := by decide +kernel
theorem dX3_chooseWay_9 : decode cX3_chooseWay 9 = .ok (.ireturn, 1) := by decide +kernel
theorem dX3_chooseWay_10 : decode cX3_chooseWay 10 = .ok (.aload_n 0, 1) := by decide +kernel
theorem dX3_chooseWay_11 : decode cX3_chooseWay 11 = .ok (.getfield 44, 3) := by decide +kernel
theorem dX3_chooseWay_14 : decode cX3_chooseWay 14 = .ok (.aload_n 0, 1) := by decide +kernel
theorem dX3_chooseWay_15 : decode cX3_chooseWay 15 = .ok (.iload_n 1, 1) := by decide +kernel
theorem dX3_chooseWay_16 : decode cX3_chooseWay 16 = .ok (.invokevirtual 65, 3) := by decide +kernel
theorem dX3_chooseWay_19 : decode cX3_chooseWay 19 = .ok (.aaload, 1) := by decide +kernel
theorem dX3_chooseWay_20 : decode cX3_chooseWay 20 = .ok (.iload_n 1, 1) := by decide +kernel
theorem dX3_chooseWay_21 : decode cX3_chooseWay 21 = .ok (.invokevirtual 237, 3) := by decide +kernel
theorem dX3_chooseWay_24 : decode cX3_chooseWay 24 = .ok (.ifCond .ne 5, 3) := by decide +kernel
theorem dX3_chooseWay_27 : decode cX3_chooseWay 27 = .ok (.iconst 1, 1) := by decide +kernel
theorem dX3_chooseWay_28 : decode cX3_chooseWay 28 = .ok (.ireturn, 1) := by decide +kernel
theorem dX3_chooseWay_29 : decode cX3_chooseWay 29 = .ok (.aload_n 0, 1) := by decide +kernel
theorem dX3_chooseWay_30 : decode cX3_chooseWay 30 = .ok (.iconst 2, 1) := by decide +kernel
theorem dX3_chooseWay_31 : decode cX3_chooseWay 31 = .ok (.iload_n 2, 1) := by decide +kernel
theorem dX3_chooseWay_32 : decode cX3_chooseWay 32 = .ok (.invokevirtual 277, 3) := by decide +kernel
theorem dX3_chooseWay_35 : decode cX3_chooseWay 35 = .ok (.istore_n 3, 1) := by decide +kernel
theorem dX3_chooseWay_36 : decode cX3_chooseWay 36 = .ok (.aload_n 0, 1) := by decide +kernel
theorem dX3_chooseWay_37 : decode cX3_chooseWay 37 = .ok (.iconst 3, 1) := by decide +kernel
theorem dX3_chooseWay_38 : decode cX3_chooseWay 38 = .ok (.iload_n 2, 1) := by decide +kernel
theorem dX3_chooseWay_39 : decode cX3_chooseWay 39 = .ok (.invokevirtual 277, 3) := by decide +kernel
theorem dX3_chooseWay_42 : decode cX3_chooseWay 42 = .ok (.istore 4, 2) := by decide +kernel
theorem dX3_chooseWay_44 : decode cX3_chooseWay 44 = .ok (.aload_n 0, 1) := by decide +kernel
theorem dX3_chooseWay_45 : decode cX3_chooseWay 45 = .ok (.iload_n 1, 1) := by decide +kernel
theorem dX3_chooseWay_46 : decode cX3_chooseWay 46 = .ok (.iload_n 3, 1) := by decide +kernel
theorem dX3_chooseWay_47 : decode cX3_chooseWay 47 = .ok (.invokevirtual 280, 3) := by decide +kernel
theorem dX3_chooseWay_50 : decode cX3_chooseWay 50 = .ok (.istore 5, 2) := by decide +kernel
theorem dX3_chooseWay_52 : decode cX3_chooseWay 52 = .ok (.aload_n 0, 1) := by decide +kernel
theorem dX3_chooseWay_53 : decode cX3_chooseWay 53 = .ok (.iload_n 1, 1) := by decide +kernel
theorem dX3_chooseWay_54 : decode cX3_chooseWay 54 = .ok (.iload 4, 2) := by decide +kernel
theorem dX3_chooseWay_56 : decode cX3_chooseWay 56 = .ok (.invokevirtual 280, 3) := by decide +kernel
theorem dX3_chooseWay_59 : decode cX3_chooseWay 59 = .ok (.istore 6, 2) := by decide +kernel
theorem dX3_chooseWay_61 : decode cX3_chooseWay 61 = .ok (.iload 5, 2) := by decide +kernel
theorem dX3_chooseWay_63 : decode cX3_chooseWay 63 = .ok (.ifCond .eq 26, 3) := by decide +kernel
theorem dX3_chooseWay_66 : decode cX3_chooseWay 66 = .ok (.iload 6, 2) := by decide +kernel
theorem dX3_chooseWay_68 : decode cX3_chooseWay 68 = .ok (.ifCond .eq 21, 3) := by decide +kernel
theorem dX3_chooseWay_71 : decode cX3_chooseWay 71 = .ok (.iload_n 3, 1) := by decide +kernel
theorem dX3_chooseWay_72 : decode cX3_chooseWay 72 = .ok (.invokestatic 283, 3) := by decide +kernel
theorem dX3_chooseWay_75 : decode cX3_chooseWay 75 = .ok (.iload 4, 2) := by decide +kernel
theorem dX3_chooseWay_77 : decode cX3_chooseWay 77 = .ok (.invokestatic 283, 3) := by decide +kernel
theorem dX3_chooseWay_80 : decode cX3_chooseWay 80 = .ok (.if_icmp .gt 7, 3) := by decide +kernel
theorem dX3_chooseWay_83 : decode cX3_chooseWay 83 = .ok (.iconst 2, 1) := by decide +kernel
theorem dX3_chooseWay_84 : decode cX3_chooseWay 84 = .ok (.goto 4, 3) := by decide +kernel
theorem dX3_chooseWay_87 : decode cX3_chooseWay 87 = .ok (.iconst 3, 1) := by decide +kernel
theorem dX3_chooseWay_88 : decode cX3_chooseWay 88 = .ok (.ireturn, 1) := by decide +kernel
theorem dX3_chooseWay_89 : decode cX3_chooseWay 89 = .ok (.iload 5, 2) := by decide +kernel
theorem dX3_chooseWay_91 : decode cX3_chooseWay 91 = .ok (.ifCond .eq 5, 3) := by decide +kernel
theorem dX3_chooseWay_94 : decode cX3_chooseWay 94 = .ok (.iconst 2, 1) := by decide +kernel
theorem dX3_chooseWay_95 : decode cX3_chooseWay 95 = .ok (.ireturn, 1) := by decide +kernel
theorem dX3_chooseWay_96 : decode cX3_chooseWay 96 = .ok (.iload 6, 2) := by decide +kernel
theorem dX3_chooseWay_98 : decode cX3_chooseWay 98 = .ok (.ifCond .eq 7, 3) := by decide +kernel
theorem dX3_chooseWay_101 : decode cX3_chooseWay 101 = .ok (.iconst 3, 1) := by decide +kernel
theorem dX3_chooseWay_102 : decode cX3_chooseWay 102 = .ok (.goto 4, 3) := by decide +kernel
theorem dX3_chooseWay_105 : decode cX3_chooseWay 105 = .ok (.iconst (-1), 1) := by decide +kernel
theorem dX3_chooseWay_106 : decode cX3_chooseWay 106 = .ok (.ireturn, 1) := by decide +kernel
set_option maxRecDepth 20000 in
theorem ggX3_needed_X3_allData : GoodIn wsX3_needed wsX3_allData := goodIn_r _ [6, 1, 7, 8, 9, 10, 11, 12, 13, 14, 15, 16] (by decide +kernel) (by decide +kernel)
set_option maxRecDepth 20000 in
theorem gX3_needed_X3_allData : GoodIn wsX3_needed (wsV RX3 194 RX3 yX3_allData wsX3_allData) := goodIn_app (goodIn_of _ (by decide +kernel)) ggX3_needed_X3_allData
theorem dX3_needed_0 : decode cX3_needed 0 = .ok (.iload_n 1, 1) := by decide +kernel
theorem dX3_needed_1 : decode cX3_needed 1 = .ok (.lookupswitch 45 #[(2, 27), (3, 36)], 27) := by decide +kernel
theorem dX3_needed_28 : decode cX3_needed 28 = .ok (.iload_n 2, 1) := by decide +kernel
theorem dX3_needed_29 : decode cX3_needed 29 = .ok (.iconst 1, 1) := by decide +kernel
theorem dX3_needed_30 : decode cX3_needed 30 = .ok (.aload_n 0, 1) := by decide +kernel
theorem dX3_needed_31 : decode cX3_needed 31 = .ok (.getfield 39, 3) := by decide +kernel
theorem dX3_needed_34 : decode cX3_needed 34 = .ok (.ishl, 1) := by decide +kernel
theorem dX3_needed_35 : decode cX3_needed 35 = .ok (.ior, 1) := by decide +kernel
theorem dX3_needed_36 : decode cX3_needed 36 = .ok (.ireturn, 1) := by decide +kernel
theorem dX3_needed_37 : decode cX3_needed 37 = .ok (.aload_n 0, 1) := by decide +kernel
theorem dX3_needed_38 : decode cX3_needed 38 = .ok (.invokevirtual 194, 3) := by decide +kernel
theorem dX3_needed_41 : decode cX3_needed 41 = .ok (.iload_n 2, 1) := by decide +kernel
theorem dX3_needed_42 : decode cX3_needed 42 = .ok (.iconst (-1), 1) := by decide +kernel
theorem dX3_needed_43 : decode cX3_needed 43 = .ok (.ixor, 1) := by decide +kernel
theorem dX3_needed_44 : decode cX3_needed 44 = .ok (.iand, 1) := by decide +kernel
theorem dX3_needed_45 : decode cX3_needed 45 = .ok (.ireturn, 1) := by decide +kernel
theorem dX3_needed_46 : decode cX3_needed 46 = .ok (.iconst 0, 1) := by decide +kernel
theorem dX3_needed_47 : decode cX3_needed 47 = .ok (.ireturn, 1) := by decide +kernel
set_option maxRecDepth 20000 in
theorem ggX3_addParity_X3_needed : GoodIn wsX3_addParity wsX3_needed := goodIn_r _ [9, 3, 10, 11, 12, 8, 13, 60, 61, 62, 63, 64, 65, 66, 67, 68, 69] (by decide +kernel) (by decide +kernel)
set_option maxRecDepth 20000 in
theorem gX3_addParity_X3_needed : GoodIn wsX3_addParity (wsV RX3 277 RX3 yX3_needed wsX3_needed) := goodIn_app (goodIn_of _ (by decide +kernel)) ggX3_addParity_X3_needed
set_option maxRecDepth 20000 in
theorem ggX3_addParity_X3_clearMixed : GoodIn wsX3_addParity wsX3_clearMixed := goodIn_r _ [17, 4, 60, 61, 62, 63, 64, 65, 66, 67, 68, 69] (by decide +kernel) (by decide +kernel)
set_option maxRecDepth 20000 in
theorem gX3_addParity_X3_clearMixed : GoodIn wsX3_addParity (wsV RX3 96 RX3 yX3_clearMixed wsX3_clearMixed) := goodIn_app (goodIn_of _ (by decide +kernel)) ggX3_addParity_X3_clearMixed
set_option maxRecDepth 20000 in
theorem ggX3_addParity_X1_has : GoodIn wsX3_addParity wsX1_has := goodIn_r _ [21, 22, 56, 57, 58, 59] (by decide +kernel) (by decide +kernel)
set_option maxRecDepth 20000 in
theorem gX3_addParity_X1_has_n197 : GoodIn wsX3_addParity (wsX1_has) := ggX3_addParity_X1_has
set_option maxRecDepth 20000 in
theorem ggX3_addParity_X3_mix : GoodIn wsX3_addParity wsX3_mix := goodIn_r _ [26, 4, 60, 61, 62, 63, 64, 65, 66, 67, 68, 69] (by decide +kernel) (by decide +kernel)
set_option maxRecDepth 20000 in
theorem gX3_addParity_X3_mix : GoodIn wsX3_addParity (wsV RX3 219 RX3 yX3_mix wsX3_mix) := goodIn_app (goodIn_of _ (by decide +kernel)) ggX3_addParity_X3_mix
set_option maxRecDepth 20000 in
theorem ggX3_addParity_X3_mixNewest : GoodIn wsX3_addParity wsX3_mixNewest := goodIn_r _ [30, 31, 32, 33, 34, 35, 36, 37, 38, 39, 40, 41, 42, 43, 18, 19, 20, 21, 22, 23, 24, 25, 8, 26, 4, 44, 45, 46, 47, 1, 48, 49, 50, 51, 60, 61, 62, 63, 64, 65, 66, 67, 68, 69, 56, 57, 58, 59, 70, 71, 72, 73, 74, 75, 76, 77, 78, 79, 80, 81] (by decide +kernel) (by decide +kernel)
set_option maxRecDepth 20000 in
theorem gX3_addParity_X3_mixNewest : GoodIn wsX3_addParity (wsV RX3 103 RX3 yX3_mixNewest wsX3_mixNewest) := goodIn_app (goodIn_of _ (by decide +kernel)) ggX3_addParity_X3_mixNewest
set_option maxRecDepth 20000 in
theorem ggX3_addParity_X1_addWords : GoodIn wsX3_addParity wsX1_addWords := goodIn_r _ [54, 22, 55, 56, 57, 58, 59] (by decide +kernel) (by decide +kernel)
set_option maxRecDepth 20000 in
theorem gX3_addParity_X1_addWords_n288 : GoodIn wsX3_addParity (wsX1_addWords) := ggX3_addParity_X1_addWords
theorem dX3_addParity_0 : decode cX3_addParity 0 = .ok (.aload_n 0, 1) := by decide +kernel
theorem dX3_addParity_1 : decode cX3_addParity 1 = .ok (.aload_n 1, 1) := by decide +kernel
theorem dX3_addParity_2 : decode cX3_addParity 2 = .ok (.getfield 200, 3) := by decide +kernel
theorem dX3_addParity_5 : decode cX3_addParity 5 = .ok (.aload_n 1, 1) := by decide +kernel
theorem dX3_addParity_6 : decode cX3_addParity 6 = .ok (.getfield 191, 3) := by decide +kernel
theorem dX3_addParity_9 : decode cX3_addParity 9 = .ok (.invokevirtual 277, 3) := by decide +kernel
theorem dX3_addParity_12 : decode cX3_addParity 12 = .ok (.istore_n 2, 1) := by decide +kernel
theorem dX3_addParity_13 : decode cX3_addParity 13 = .ok (.aload_n 0, 1) := by decide +kernel
theorem dX3_addParity_14 : decode cX3_addParity 14 = .ok (.invokevirtual 96, 3) := by decide +kernel
theorem dX3_addParity_17 : decode cX3_addParity 17 = .ok (.iconst 0, 1) := by decide +kernel
theorem dX3_addParity_18 : decode cX3_addParity 18 = .ok (.istore_n 3, 1) := by decide +kernel
theorem dX3_addParity_19 : decode cX3_addParity 19 = .ok (.iload_n 3, 1) := by decide +kernel
theorem dX3_addParity_20 : decode cX3_addParity 20 = .ok (.aload_n 0, 1) := by decide +kernel
theorem dX3_addParity_21 : decode cX3_addParity 21 = .ok (.getfield 36, 3) := by decide +kernel
theorem dX3_addParity_24 : decode cX3_addParity 24 = .ok (.if_icmp .ge 60, 3) := by decide +kernel
theorem dX3_addParity_27 : decode cX3_addParity 27 = .ok (.aload_n 1, 1) := by decide +kernel
theorem dX3_addParity_28 : decode cX3_addParity 28 = .ok (.iload_n 3, 1) := by decide +kernel
theorem dX3_addParity_29 : decode cX3_addParity 29 = .ok (.invokevirtual 197, 3) := by decide +kernel
theorem dX3_addParity_32 : decode cX3_addParity 32 = .ok (.ifCond .eq 15, 3) := by decide +kernel
theorem dX3_addParity_35 : decode cX3_addParity 35 = .ok (.aload_n 0, 1) := by decide +kernel
theorem dX3_addParity_36 : decode cX3_addParity 36 = .ok (.aload_n 1, 1) := by decide +kernel
theorem dX3_addParity_37 : decode cX3_addParity 37 = .ok (.getfield 223, 3) := by decide +kernel
theorem dX3_addParity_40 : decode cX3_addParity 40 = .ok (.iload_n 3, 1) := by decide +kernel
theorem dX3_addParity_41 : decode cX3_addParity 41 = .ok (.bipush 8, 2) := by decide +kernel
theorem dX3_addParity_43 : decode cX3_addParity 43 = .ok (.imul, 1) := by decide +kernel
theorem dX3_addParity_44 : decode cX3_addParity 44 = .ok (.invokevirtual 219, 3) := by decide +kernel
theorem dX3_addParity_47 : decode cX3_addParity 47 = .ok (.iload_n 2, 1) := by decide +kernel
theorem dX3_addParity_48 : decode cX3_addParity 48 = .ok (.iload_n 3, 1) := by decide +kernel
theorem dX3_addParity_49 : decode cX3_addParity 49 = .ok (.ishr, 1) := by decide +kernel
theorem dX3_addParity_50 : decode cX3_addParity 50 = .ok (.iconst 1, 1) := by decide +kernel
theorem dX3_addParity_51 : decode cX3_addParity 51 = .ok (.iand, 1) := by decide +kernel
theorem dX3_addParity_52 : decode cX3_addParity 52 = .ok (.iconst 1, 1) := by decide +kernel
theorem dX3_addParity_53 : decode cX3_addParity 53 = .ok (.if_icmp .ne 25, 3) := by decide +kernel
theorem dX3_addParity_56 : decode cX3_addParity 56 = .ok (.aload_n 0, 1) := by decide +kernel
theorem dX3_addParity_57 : decode cX3_addParity 57 = .ok (.aload_n 1, 1) := by decide +kernel
theorem dX3_addParity_58 : decode cX3_addParity 58 = .ok (.getfield 186, 3) := by decide +kernel
theorem dX3_addParity_61 : decode cX3_addParity 61 = .ok (.iload_n 3, 1) := by decide +kernel
theorem dX3_addParity_62 : decode cX3_addParity 62 = .ok (.invokevirtual 103, 3) := by decide +kernel
theorem dX3_addParity_65 : decode cX3_addParity 65 = .ok (.ifCond .eq 13, 3) := by decide +kernel
theorem dX3_addParity_68 : decode cX3_addParity 68 = .ok (.aload_n 0, 1) := by decide +kernel
theorem dX3_addParity_69 : decode cX3_addParity 69 = .ok (.getfield 9, 3) := by decide +kernel
theorem dX3_addParity_72 : decode cX3_addParity 72 = .ok (.iconst 3, 1) := by decide +kernel
theorem dX3_addParity_73 : decode cX3_addParity 73 = .ok (.dup2, 1) := by decide +kernel
theorem dX3_addParity_74 : decode cX3_addParity 74 = .ok (.iaload, 1) := by decide +kernel
theorem dX3_addParity_75 : decode cX3_addParity 75 = .ok (.iconst 1, 1) := by decide +kernel
theorem dX3_addParity_76 : decode cX3_addParity 76 = .ok (.iadd, 1) := by decide +kernel
theorem dX3_addParity_77 : decode cX3_addParity 77 = .ok (.iastore, 1) := by decide +kernel
theorem dX3_addParity_78 : decode cX3_addParity 78 = .ok (.iinc 3 1, 3) := by decide +kernel
theorem dX3_addParity_81 : decode cX3_addParity 81 = .ok (.goto (-62), 3) := by decide +kernel
theorem dX3_addParity_84 : decode cX3_addParity 84 = .ok (.aload_n 1, 1) := by decide +kernel
theorem dX3_addParity_85 : decode cX3_addParity 85 = .ok (.aload_n 0, 1) := by decide +kernel
theorem dX3_addParity_86 : decode cX3_addParity 86 = .ok (.getfield 39, 3) := by decide +kernel
theorem dX3_addParity_89 : decode cX3_addParity 89 = .ok (.aload_n 0, 1) := by decide +kernel
theorem dX3_addParity_90 : decode cX3_addParity 90 = .ok (.getfield 13, 3) := by decide +kernel
theorem dX3_addParity_93 : decode cX3_addParity 93 = .ok (.invokevirtual 288, 3) := by decide +kernel
theorem dX3_addParity_96 : decode cX3_addParity 96 = .ok (.return_, 1) := by decide +kernel
set_option maxRecDepth 20000 in
theorem ggX3_buildStripe_X2_recordsUpTo : GoodIn wsX3_buildStripe wsX2_recordsUpTo := goodIn_r _ [8, 9, 10, 11, 12, 6, 13, 14, 15, 135, 136, 137, 138, 139, 140, 141, 142, 143, 144] (by decide +kernel) (by decide +kernel)
set_option maxRecDepth 20000 in
theorem gX3_buildStripe_X2_recordsUpTo_n292 : GoodIn wsX3_buildStripe (wsX2_recordsUpTo) := ggX3_buildStripe_X2_recordsUpTo
set_option maxRecDepth 20000 in
theorem ggX3_buildStripe_X3_drainOldest : GoodIn wsX3_buildStripe wsX3_drainOldest := goodIn_r _ [20, 1, 3, 11, 6, 12, 13, 14, 15, 21, 22, 23, 19, 24, 25, 2, 26, 27, 28, 29, 30, 31, 32, 33, 34, 35, 36, 37, 38, 39, 40, 41, 42, 43, 44, 45, 46, 47, 48, 49, 50, 51, 52, 53, 54, 55, 56, 57, 58, 59, 60, 61, 62, 63, 64, 65, 66, 67, 68, 69, 70, 71, 72, 73, 74, 75, 76, 9, 77, 78, 79, 10, 80, 81, 82, 83, 84, 85, 86, 87, 88, 89, 119, 120, 121, 122, 123, 124, 125, 126, 127, 128, 135, 136, 137, 138, 139, 140, 141, 142, 143, 144, 129, 130, 131, 132, 133, 134] (by decide +kernel) (by decide +kernel)
set_option maxRecDepth 20000 in
theorem gX3_buildStripe_X3_drainOldest : GoodIn wsX3_buildStripe (wsV RX3 110 RX3 yX3_drainOldest wsX3_drainOldest) := goodIn_app (goodIn_of _ (by decide +kernel)) ggX3_buildStripe_X3_drainOldest
set_option maxRecDepth 20000 in
theorem ggX3_buildStripe_X3_othersThere : GoodIn wsX3_buildStripe wsX3_othersThere := goodIn_r _ [93, 2, 94, 95, 96, 19, 97, 25, 98, 40, 99, 100, 65, 64, 63, 101, 39, 41, 42, 43, 67, 68, 69, 119, 120, 121, 122, 123, 124, 125, 126, 127, 128, 129, 130, 131, 132, 133, 134] (by decide +kernel) (by decide +kernel)
set_option maxRecDepth 20000 in
theorem gX3_buildStripe_X3_othersThere : GoodIn wsX3_buildStripe (wsV RX3 213 RX3 yX3_othersThere wsX3_othersThere) := goodIn_app (goodIn_of _ (by decide +kernel)) ggX3_buildStripe_X3_othersThere
set_option maxRecDepth 20000 in
theorem ggX3_buildStripe_X3_putOthersXor : GoodIn wsX3_buildStripe wsX3_putOthersXor := goodIn_r _ [105, 106, 107, 108, 109, 19, 110, 111, 112, 113, 114, 25, 2, 115, 116, 117, 118, 44, 45, 46, 47, 48, 49, 50, 51, 52, 3, 53, 54, 55, 56, 40, 57, 58, 59, 43, 60, 61, 62, 63, 64, 65, 66, 67, 68, 69, 119, 120, 121, 122, 123, 124, 125, 126, 127, 128, 129, 130, 131, 132, 133, 134] (by decide +kernel) (by decide +kernel)
set_option maxRecDepth 20000 in
theorem gX3_buildStripe_X3_putOthersXor : GoodIn wsX3_buildStripe (wsV RX3 295 RX3 yX3_putOthersXor wsX3_putOthersXor) := goodIn_app (goodIn_of _ (by decide +kernel)) ggX3_buildStripe_X3_putOthersXor
set_option maxRecDepth 20000 in
theorem ggX3_buildStripe_X3_putMark : GoodIn wsX3_buildStripe wsX3_putMark := goodIn_r _ [73, 3, 1, 49, 50, 51, 19, 52, 53, 54, 55, 25, 2, 56, 40, 57, 58, 59, 43, 74, 6, 75, 76, 9, 77, 78, 79, 15, 10, 11, 12, 13, 14, 80, 35, 81, 82, 38, 83, 84, 85, 86, 87, 88, 89, 119, 120, 121, 122, 123, 124, 125, 126, 127, 128, 129, 130, 131, 132, 133, 134, 135, 136, 137, 138, 139, 140, 141, 142, 143, 144] (by decide +kernel) (by decide +kernel)
set_option maxRecDepth 20000 in
theorem gX3_buildStripe_X3_putMark : GoodIn wsX3_buildStripe (wsV RX3 150 RX3 yX3_putMark wsX3_putMark) := goodIn_app (goodIn_of _ (by decide +kernel)) ggX3_buildStripe_X3_putMark
theorem dX3_buildStripe_0 : decode cX3_buildStripe 0 = .ok (.aload_n 0, 1) := by decide +kernel
theorem dX3_buildStripe_1 : decode cX3_buildStripe 1 = .ok (.aload_n 0, 1) := by decide +kernel
theorem dX3_buildStripe_2 : decode cX3_buildStripe 2 = .ok (.getfield 54, 3) := by decide +kernel
theorem dX3_buildStripe_5 : decode cX3_buildStripe 5 = .ok (.iload_n 2, 1) := by decide +kernel
theorem dX3_buildStripe_6 : decode cX3_buildStripe 6 = .ok (.invokevirtual 292, 3) := by decide +kernel
theorem dX3_buildStripe_9 : decode cX3_buildStripe 9 = .ok (.invokevirtual 110, 3) := by decide +kernel
theorem dX3_buildStripe_12 : decode cX3_buildStripe 12 = .ok (.ifCond .ne 5, 3) := by decide +kernel
theorem dX3_buildStripe_15 : decode cX3_buildStripe 15 = .ok (.iconst 0, 1) := by decide +kernel
theorem dX3_buildStripe_16 : decode cX3_buildStripe 16 = .ok (.ireturn, 1) := by decide +kernel
theorem dX3_buildStripe_17 : decode cX3_buildStripe 17 = .ok (.aload_n 0, 1) := by decide +kernel
theorem dX3_buildStripe_18 : decode cX3_buildStripe 18 = .ok (.getfield 44, 3) := by decide +kernel
theorem dX3_buildStripe_21 : decode cX3_buildStripe 21 = .ok (.iload_n 1, 1) := by decide +kernel
theorem dX3_buildStripe_22 : decode cX3_buildStripe 22 = .ok (.aaload, 1) := by decide +kernel
theorem dX3_buildStripe_23 : decode cX3_buildStripe 23 = .ok (.astore_n 3, 1) := by decide +kernel
theorem dX3_buildStripe_24 : decode cX3_buildStripe 24 = .ok (.aload_n 0, 1) := by decide +kernel
theorem dX3_buildStripe_25 : decode cX3_buildStripe 25 = .ok (.iload_n 1, 1) := by decide +kernel
theorem dX3_buildStripe_26 : decode cX3_buildStripe 26 = .ok (.iload_n 2, 1) := by decide +kernel
theorem dX3_buildStripe_27 : decode cX3_buildStripe 27 = .ok (.invokevirtual 213, 3) := by decide +kernel
theorem dX3_buildStripe_30 : decode cX3_buildStripe 30 = .ok (.ifCond .ne 24, 3) := by decide +kernel
theorem dX3_buildStripe_33 : decode cX3_buildStripe 33 = .ok (.aload_n 3, 1) := by decide +kernel
theorem dX3_buildStripe_34 : decode cX3_buildStripe 34 = .ok (.getfield 156, 3) := by decide +kernel
theorem dX3_buildStripe_37 : decode cX3_buildStripe 37 = .ok (.iload_n 2, 1) := by decide +kernel
theorem dX3_buildStripe_38 : decode cX3_buildStripe 38 = .ok (.iconst 1, 1) := by decide +kernel
theorem dX3_buildStripe_39 : decode cX3_buildStripe 39 = .ok (.bastore, 1) := by decide +kernel
theorem dX3_buildStripe_40 : decode cX3_buildStripe 40 = .ok (.aload_n 0, 1) := by decide +kernel
theorem dX3_buildStripe_41 : decode cX3_buildStripe 41 = .ok (.getfield 9, 3) := by decide +kernel
theorem dX3_buildStripe_44 : decode cX3_buildStripe 44 = .ok (.bipush 8, 2) := by decide +kernel
theorem dX3_buildStripe_46 : decode cX3_buildStripe 46 = .ok (.dup2, 1) := by decide +kernel
theorem dX3_buildStripe_47 : decode cX3_buildStripe 47 = .ok (.iaload, 1) := by decide +kernel
theorem dX3_buildStripe_48 : decode cX3_buildStripe 48 = .ok (.iconst 1, 1) := by decide +kernel
theorem dX3_buildStripe_49 : decode cX3_buildStripe 49 = .ok (.iadd, 1) := by decide +kernel
theorem dX3_buildStripe_50 : decode cX3_buildStripe 50 = .ok (.iastore, 1) := by decide +kernel
theorem dX3_buildStripe_51 : decode cX3_buildStripe 51 = .ok (.goto 27, 3) := by decide +kernel
theorem dX3_buildStripe_54 : decode cX3_buildStripe 54 = .ok (.aload_n 0, 1) := by decide +kernel
theorem dX3_buildStripe_55 : decode cX3_buildStripe 55 = .ok (.getfield 9, 3) := by decide +kernel
theorem dX3_buildStripe_58 : decode cX3_buildStripe 58 = .ok (.iconst 3, 1) := by decide +kernel
theorem dX3_buildStripe_59 : decode cX3_buildStripe 59 = .ok (.dup2, 1) := by decide +kernel
theorem dX3_buildStripe_60 : decode cX3_buildStripe 60 = .ok (.iaload, 1) := by decide +kernel
theorem dX3_buildStripe_61 : decode cX3_buildStripe 61 = .ok (.aload_n 0, 1) := by decide +kernel
theorem dX3_buildStripe_62 : decode cX3_buildStripe 62 = .ok (.getfield 39, 3) := by decide +kernel
theorem dX3_buildStripe_65 : decode cX3_buildStripe 65 = .ok (.iadd, 1) := by decide +kernel
theorem dX3_buildStripe_66 : decode cX3_buildStripe 66 = .ok (.iastore, 1) := by decide +kernel
theorem dX3_buildStripe_67 : decode cX3_buildStripe 67 = .ok (.aload_n 0, 1) := by decide +kernel
theorem dX3_buildStripe_68 : decode cX3_buildStripe 68 = .ok (.iload_n 1, 1) := by decide +kernel
theorem dX3_buildStripe_69 : decode cX3_buildStripe 69 = .ok (.iload_n 2, 1) := by decide +kernel
theorem dX3_buildStripe_70 : decode cX3_buildStripe 70 = .ok (.invokevirtual 295, 3) := by decide +kernel
theorem dX3_buildStripe_73 : decode cX3_buildStripe 73 = .ok (.ifCond .ne 5, 3) := by decide +kernel
theorem dX3_buildStripe_76 : decode cX3_buildStripe 76 = .ok (.iconst 0, 1) := by decide +kernel
theorem dX3_buildStripe_77 : decode cX3_buildStripe 77 = .ok (.ireturn, 1) := by decide +kernel
theorem dX3_buildStripe_78 : decode cX3_buildStripe 78 = .ok (.aload_n 3, 1) := by decide +kernel
theorem dX3_buildStripe_79 : decode cX3_buildStripe 79 = .ok (.iload_n 2, 1) := by decide +kernel
theorem dX3_buildStripe_80 : decode cX3_buildStripe 80 = .ok (.iconst 1, 1) := by decide +kernel
theorem dX3_buildStripe_81 : decode cX3_buildStripe 81 = .ok (.iadd, 1) := by decide +kernel
theorem dX3_buildStripe_82 : decode cX3_buildStripe 82 = .ok (.putfield 123, 3) := by decide +kernel
theorem dX3_buildStripe_85 : decode cX3_buildStripe 85 = .ok (.aload_n 3, 1) := by decide +kernel
theorem dX3_buildStripe_86 : decode cX3_buildStripe 86 = .ok (.getfield 123, 3) := by decide +kernel
theorem dX3_buildStripe_89 : decode cX3_buildStripe 89 = .ok (.bipush 24, 2) := by decide +kernel
theorem dX3_buildStripe_91 : decode cX3_buildStripe 91 = .ok (.if_icmp .ge 5, 3) := by decide +kernel
theorem dX3_buildStripe_94 : decode cX3_buildStripe 94 = .ok (.iconst 1, 1) := by decide +kernel
theorem dX3_buildStripe_95 : decode cX3_buildStripe 95 = .ok (.ireturn, 1) := by decide +kernel
theorem dX3_buildStripe_96 : decode cX3_buildStripe 96 = .ok (.aload_n 0, 1) := by decide +kernel
theorem dX3_buildStripe_97 : decode cX3_buildStripe 97 = .ok (.iconst 0, 1) := by decide +kernel
theorem dX3_buildStripe_98 : decode cX3_buildStripe 98 = .ok (.invokevirtual 150, 3) := by decide +kernel
theorem dX3_buildStripe_101 : decode cX3_buildStripe 101 = .ok (.ifCond .ne 5, 3) := by decide +kernel
theorem dX3_buildStripe_104 : decode cX3_buildStripe 104 = .ok (.iconst 0, 1) := by decide +kernel
theorem dX3_buildStripe_105 : decode cX3_buildStripe 105 = .ok (.ireturn, 1) := by decide +kernel
theorem dX3_buildStripe_106 : decode cX3_buildStripe 106 = .ok (.aload_n 3, 1) := by decide +kernel
theorem dX3_buildStripe_107 : decode cX3_buildStripe 107 = .ok (.iconst 0, 1) := by decide +kernel
theorem dX3_buildStripe_108 : decode cX3_buildStripe 108 = .ok (.putfield 120, 3) := by decide +kernel
theorem dX3_buildStripe_111 : decode cX3_buildStripe 111 = .ok (.iconst 1, 1) := by decide +kernel
theorem dX3_buildStripe_112 : decode cX3_buildStripe 112 = .ok (.ireturn, 1) := by decide +kernel
set_option maxRecDepth 20000 in
theorem ggX3_scrubStripe_X3_countNotThere : GoodIn wsX3_scrubStripe wsX3_countNotThere := goodIn_r _ [7, 2, 8, 9, 10, 11, 12, 13, 14, 15, 16, 17, 18, 19, 20, 21, 22, 23, 73, 74, 75, 76, 77, 78, 79, 80, 81, 82, 83, 84, 85, 86, 87, 88] (by decide +kernel) (by decide +kernel)
set_option maxRecDepth 20000 in
theorem gX3_scrubStripe_X3_countNotThere : GoodIn wsX3_scrubStripe (wsV RX3 203 RX3 yX3_countNotThere wsX3_countNotThere) := goodIn_app (goodIn_of _ (by decide +kernel)) ggX3_scrubStripe_X3_countNotThere
set_option maxRecDepth 20000 in
theorem ggX3_scrubStripe_X3_xorIsZero : GoodIn wsX3_scrubStripe wsX3_xorIsZero := goodIn_r _ [27, 28, 29, 30, 31, 6, 32, 33, 34, 35, 36, 2, 8, 37, 38, 39, 40, 73, 74, 75, 76, 77, 78, 79, 80, 81, 82, 83, 84, 85, 86, 87, 88] (by decide +kernel) (by decide +kernel)
set_option maxRecDepth 20000 in
theorem gX3_scrubStripe_X3_xorIsZero : GoodIn wsX3_scrubStripe (wsV RX3 206 RX3 yX3_xorIsZero wsX3_xorIsZero) := goodIn_app (goodIn_of _ (by decide +kernel)) ggX3_scrubStripe_X3_xorIsZero
set_option maxRecDepth 20000 in
theorem ggX3_scrubStripe_X3_parityMember : GoodIn wsX3_scrubStripe wsX3_parityMember := goodIn_r _ [44, 2, 73, 74, 75, 76, 77, 78, 79, 80, 81, 82] (by decide +kernel) (by decide +kernel)
set_option maxRecDepth 20000 in
theorem gX3_scrubStripe_X3_parityMember : GoodIn wsX3_scrubStripe (wsV RX3 65 RX3 yX3_parityMember wsX3_parityMember) := goodIn_app (goodIn_of _ (by decide +kernel)) ggX3_scrubStripe_X3_parityMember
set_option maxRecDepth 20000 in
theorem ggX3_scrubStripe_X3_firstNotThere : GoodIn wsX3_scrubStripe wsX3_firstNotThere := goodIn_r _ [48, 2, 8, 9, 10, 11, 12, 13, 14, 15, 16, 17, 18, 19, 20, 21, 22, 23, 73, 74, 75, 76, 77, 78, 79, 80, 81, 82, 83, 84, 85, 86, 87, 88] (by decide +kernel) (by decide +kernel)
set_option maxRecDepth 20000 in
theorem gX3_scrubStripe_X3_firstNotThere : GoodIn wsX3_scrubStripe (wsV RX3 298 RX3 yX3_firstNotThere wsX3_firstNotThere) := goodIn_app (goodIn_of _ (by decide +kernel)) ggX3_scrubStripe_X3_firstNotThere
set_option maxRecDepth 20000 in
theorem ggX3_scrubStripe_X3_putOthersXor : GoodIn wsX3_scrubStripe wsX3_putOthersXor := goodIn_r _ [52, 28, 29, 30, 31, 6, 32, 33, 34, 35, 36, 2, 8, 37, 38, 39, 40, 53, 54, 55, 56, 57, 58, 59, 60, 61, 1, 62, 63, 64, 65, 10, 66, 67, 68, 20, 69, 70, 71, 15, 14, 13, 72, 21, 22, 23, 73, 74, 75, 76, 77, 78, 79, 80, 81, 82, 83, 84, 85, 86, 87, 88] (by decide +kernel) (by decide +kernel)
set_option maxRecDepth 20000 in
theorem gX3_scrubStripe_X3_putOthersXor : GoodIn wsX3_scrubStripe (wsV RX3 295 RX3 yX3_putOthersXor wsX3_putOthersXor) := goodIn_app (goodIn_of _ (by decide +kernel)) ggX3_scrubStripe_X3_putOthersXor
theorem dX3_scrubStripe_0 : decode cX3_scrubStripe 0 = .ok (.aload_n 0, 1) := by decide +kernel
theorem dX3_scrubStripe_1 : decode cX3_scrubStripe 1 = .ok (.getfield 9, 3) := by decide +kernel
theorem dX3_scrubStripe_4 : decode cX3_scrubStripe 4 = .ok (.iconst 3, 1) := by decide +kernel
theorem dX3_scrubStripe_5 : decode cX3_scrubStripe 5 = .ok (.dup2, 1) := by decide +kernel
theorem dX3_scrubStripe_6 : decode cX3_scrubStripe 6 = .ok (.iaload, 1) := by decide +kernel
theorem dX3_scrubStripe_7 : decode cX3_scrubStripe 7 = .ok (.aload_n 0, 1) := by decide +kernel
theorem dX3_scrubStripe_8 : decode cX3_scrubStripe 8 = .ok (.getfield 36, 3) := by decide +kernel
theorem dX3_scrubStripe_11 : decode cX3_scrubStripe 11 = .ok (.iadd, 1) := by decide +kernel
theorem dX3_scrubStripe_12 : decode cX3_scrubStripe 12 = .ok (.iastore, 1) := by decide +kernel
theorem dX3_scrubStripe_13 : decode cX3_scrubStripe 13 = .ok (.aload_n 0, 1) := by decide +kernel
theorem dX3_scrubStripe_14 : decode cX3_scrubStripe 14 = .ok (.iload_n 1, 1) := by decide +kernel
theorem dX3_scrubStripe_15 : decode cX3_scrubStripe 15 = .ok (.invokevirtual 203, 3) := by decide +kernel
theorem dX3_scrubStripe_18 : decode cX3_scrubStripe 18 = .ok (.istore_n 2, 1) := by decide +kernel
theorem dX3_scrubStripe_19 : decode cX3_scrubStripe 19 = .ok (.iload_n 2, 1) := by decide +kernel
theorem dX3_scrubStripe_20 : decode cX3_scrubStripe 20 = .ok (.iconst 1, 1) := by decide +kernel
theorem dX3_scrubStripe_21 : decode cX3_scrubStripe 21 = .ok (.if_icmp .gt 15, 3) := by decide +kernel
theorem dX3_scrubStripe_24 : decode cX3_scrubStripe 24 = .ok (.iload_n 2, 1) := by decide +kernel
theorem dX3_scrubStripe_25 : decode cX3_scrubStripe 25 = .ok (.ifCond .ne 13, 3) := by decide +kernel
theorem dX3_scrubStripe_28 : decode cX3_scrubStripe 28 = .ok (.aload_n 0, 1) := by decide +kernel
theorem dX3_scrubStripe_29 : decode cX3_scrubStripe 29 = .ok (.iload_n 1, 1) := by decide +kernel
theorem dX3_scrubStripe_30 : decode cX3_scrubStripe 30 = .ok (.invokevirtual 206, 3) := by decide +kernel
theorem dX3_scrubStripe_33 : decode cX3_scrubStripe 33 = .ok (.ifCond .eq 5, 3) := by decide +kernel
theorem dX3_scrubStripe_36 : decode cX3_scrubStripe 36 = .ok (.iconst 1, 1) := by decide +kernel
theorem dX3_scrubStripe_37 : decode cX3_scrubStripe 37 = .ok (.ireturn, 1) := by decide +kernel
theorem dX3_scrubStripe_38 : decode cX3_scrubStripe 38 = .ok (.aload_n 0, 1) := by decide +kernel
theorem dX3_scrubStripe_39 : decode cX3_scrubStripe 39 = .ok (.iload_n 2, 1) := by decide +kernel
theorem dX3_scrubStripe_40 : decode cX3_scrubStripe 40 = .ok (.ifCond .ne 11, 3) := by decide +kernel
theorem dX3_scrubStripe_43 : decode cX3_scrubStripe 43 = .ok (.aload_n 0, 1) := by decide +kernel
theorem dX3_scrubStripe_44 : decode cX3_scrubStripe 44 = .ok (.iload_n 1, 1) := by decide +kernel
theorem dX3_scrubStripe_45 : decode cX3_scrubStripe 45 = .ok (.invokevirtual 65, 3) := by decide +kernel
theorem dX3_scrubStripe_48 : decode cX3_scrubStripe 48 = .ok (.goto 8, 3) := by decide +kernel
theorem dX3_scrubStripe_51 : decode cX3_scrubStripe 51 = .ok (.aload_n 0, 1) := by decide +kernel
theorem dX3_scrubStripe_52 : decode cX3_scrubStripe 52 = .ok (.iload_n 1, 1) := by decide +kernel
theorem dX3_scrubStripe_53 : decode cX3_scrubStripe 53 = .ok (.invokevirtual 298, 3) := by decide +kernel
theorem dX3_scrubStripe_56 : decode cX3_scrubStripe 56 = .ok (.iload_n 1, 1) := by decide +kernel
theorem dX3_scrubStripe_57 : decode cX3_scrubStripe 57 = .ok (.invokevirtual 295, 3) := by decide +kernel
theorem dX3_scrubStripe_60 : decode cX3_scrubStripe 60 = .ok (.ifCond .ne 5, 3) := by decide +kernel
theorem dX3_scrubStripe_63 : decode cX3_scrubStripe 63 = .ok (.iconst 0, 1) := by decide +kernel
theorem dX3_scrubStripe_64 : decode cX3_scrubStripe 64 = .ok (.ireturn, 1) := by decide +kernel
theorem dX3_scrubStripe_65 : decode cX3_scrubStripe 65 = .ok (.aload_n 0, 1) := by decide +kernel
theorem dX3_scrubStripe_66 : decode cX3_scrubStripe 66 = .ok (.getfield 9, 3) := by decide +kernel
theorem dX3_scrubStripe_69 : decode cX3_scrubStripe 69 = .ok (.bipush 7, 2) := by decide +kernel
theorem dX3_scrubStripe_71 : decode cX3_scrubStripe 71 = .ok (.dup2, 1) := by decide +kernel
theorem dX3_scrubStripe_72 : decode cX3_scrubStripe 72 = .ok (.iaload, 1) := by decide +kernel
theorem dX3_scrubStripe_73 : decode cX3_scrubStripe 73 = .ok (.iconst 1, 1) := by decide +kernel
theorem dX3_scrubStripe_74 : decode cX3_scrubStripe 74 = .ok (.iadd, 1) := by decide +kernel
theorem dX3_scrubStripe_75 : decode cX3_scrubStripe 75 = .ok (.iastore, 1) := by decide +kernel
theorem dX3_scrubStripe_76 : decode cX3_scrubStripe 76 = .ok (.iconst 1, 1) := by decide +kernel
theorem dX3_scrubStripe_77 : decode cX3_scrubStripe 77 = .ok (.ireturn, 1) := by decide +kernel
set_option maxRecDepth 20000 in
theorem ggX3_firstNotThere_X0_isThere : GoodIn wsX3_firstNotThere wsX0_isThere := goodIn_r _ [6, 7, 8, 9, 10, 11, 12, 4, 13, 14, 15, 16, 17, 28, 29, 30, 31, 32, 33] (by decide +kernel) (by decide +kernel)
set_option maxRecDepth 20000 in
theorem gX3_firstNotThere_X0_isThere_n160 : GoodIn wsX3_firstNotThere (wsX0_isThere) := ggX3_firstNotThere_X0_isThere
theorem dX3_firstNotThere_0 : decode cX3_firstNotThere 0 = .ok (.iconst 0, 1) := by decide +kernel
theorem dX3_firstNotThere_1 : decode cX3_firstNotThere 1 = .ok (.istore_n 2, 1) := by decide +kernel
theorem dX3_firstNotThere_2 : decode cX3_firstNotThere 2 = .ok (.iload_n 2, 1) := by decide +kernel
theorem dX3_firstNotThere_3 : decode cX3_firstNotThere 3 = .ok (.aload_n 0, 1) := by decide +kernel
theorem dX3_firstNotThere_4 : decode cX3_firstNotThere 4 = .ok (.getfield 36, 3) := by decide +kernel
theorem dX3_firstNotThere_7 : decode cX3_firstNotThere 7 = .ok (.iconst 1, 1) := by decide +kernel
theorem dX3_firstNotThere_8 : decode cX3_firstNotThere 8 = .ok (.isub, 1) := by decide +kernel
theorem dX3_firstNotThere_9 : decode cX3_firstNotThere 9 = .ok (.if_icmp .ge 22, 3) := by decide +kernel
theorem dX3_firstNotThere_12 : decode cX3_firstNotThere 12 = .ok (.aload_n 0, 1) := by decide +kernel
theorem dX3_firstNotThere_13 : decode cX3_firstNotThere 13 = .ok (.getfield 44, 3) := by decide +kernel
theorem dX3_firstNotThere_16 : decode cX3_firstNotThere 16 = .ok (.iload_n 2, 1) := by decide +kernel
theorem dX3_firstNotThere_17 : decode cX3_firstNotThere 17 = .ok (.aaload, 1) := by decide +kernel
theorem dX3_firstNotThere_18 : decode cX3_firstNotThere 18 = .ok (.iload_n 1, 1) := by decide +kernel
theorem dX3_firstNotThere_19 : decode cX3_firstNotThere 19 = .ok (.invokevirtual 160, 3) := by decide +kernel
theorem dX3_firstNotThere_22 : decode cX3_firstNotThere 22 = .ok (.ifCond .eq 9, 3) := by decide +kernel
theorem dX3_firstNotThere_25 : decode cX3_firstNotThere 25 = .ok (.iinc 2 1, 3) := by decide +kernel
theorem dX3_firstNotThere_28 : decode cX3_firstNotThere 28 = .ok (.goto (-26), 3) := by decide +kernel
theorem dX3_firstNotThere_31 : decode cX3_firstNotThere 31 = .ok (.iload_n 2, 1) := by decide +kernel
theorem dX3_firstNotThere_32 : decode cX3_firstNotThere 32 = .ok (.ireturn, 1) := by decide +kernel
set_option maxRecDepth 20000 in
theorem ggX3_putOthersXor_X3_clearMixed : GoodIn wsX3_putOthersXor wsX3_clearMixed := goodIn_r _ [6, 1, 46, 47, 48, 49, 50, 51, 52, 53, 54, 55] (by decide +kernel) (by decide +kernel)
set_option maxRecDepth 20000 in
theorem gX3_putOthersXor_X3_clearMixed : GoodIn wsX3_putOthersXor (wsV RX3 96 RX3 yX3_clearMixed wsX3_clearMixed) := goodIn_app (goodIn_of _ (by decide +kernel)) ggX3_putOthersXor_X3_clearMixed
set_option maxRecDepth 20000 in
theorem ggX3_putOthersXor_X3_mixOthers : GoodIn wsX3_putOthersXor wsX3_mixOthers := goodIn_r _ [10, 11, 12, 13, 14, 15, 5, 16, 1, 46, 47, 48, 49, 50, 51, 52, 53, 54, 55, 56, 57, 58, 59, 60, 61] (by decide +kernel) (by decide +kernel)
set_option maxRecDepth 20000 in
theorem gX3_putOthersXor_X3_mixOthers : GoodIn wsX3_putOthersXor (wsV RX3 99 RX3 yX3_mixOthers wsX3_mixOthers) := goodIn_app (goodIn_of _ (by decide +kernel)) ggX3_putOthersXor_X3_mixOthers
set_option maxRecDepth 20000 in
theorem ggX3_putOthersXor_X3_putChunk : GoodIn wsX3_putOthersXor wsX3_putChunk := goodIn_r _ [20, 12, 21, 22, 23, 24, 5, 25, 26, 27, 28, 29, 11, 30, 31, 32, 33, 34, 35, 36, 37, 38, 39, 40, 41, 42, 43, 44, 45, 46, 47, 48, 49, 50, 51, 52, 53, 54, 55, 56, 57, 58, 59, 60, 61] (by decide +kernel) (by decide +kernel)
set_option maxRecDepth 20000 in
theorem gX3_putOthersXor_X3_putChunk : GoodIn wsX3_putOthersXor (wsV RX3 240 RX3 yX3_putChunk wsX3_putChunk) := goodIn_app (goodIn_of _ (by decide +kernel)) ggX3_putOthersXor_X3_putChunk
theorem dX3_putOthersXor_0 : decode cX3_putOthersXor 0 = .ok (.aload_n 0, 1) := by decide +kernel
theorem dX3_putOthersXor_1 : decode cX3_putOthersXor 1 = .ok (.invokevirtual 96, 3) := by decide +kernel
theorem dX3_putOthersXor_4 : decode cX3_putOthersXor 4 = .ok (.aload_n 0, 1) := by decide +kernel
theorem dX3_putOthersXor_5 : decode cX3_putOthersXor 5 = .ok (.iload_n 1, 1) := by decide +kernel
theorem dX3_putOthersXor_6 : decode cX3_putOthersXor 6 = .ok (.iload_n 2, 1) := by decide +kernel
theorem dX3_putOthersXor_7 : decode cX3_putOthersXor 7 = .ok (.invokevirtual 99, 3) := by decide +kernel
theorem dX3_putOthersXor_10 : decode cX3_putOthersXor 10 = .ok (.aload_n 0, 1) := by decide +kernel
theorem dX3_putOthersXor_11 : decode cX3_putOthersXor 11 = .ok (.iload_n 1, 1) := by decide +kernel
theorem dX3_putOthersXor_12 : decode cX3_putOthersXor 12 = .ok (.iload_n 2, 1) := by decide +kernel
theorem dX3_putOthersXor_13 : decode cX3_putOthersXor 13 = .ok (.aload_n 0, 1) := by decide +kernel
theorem dX3_putOthersXor_14 : decode cX3_putOthersXor 14 = .ok (.getfield 13, 3) := by decide +kernel
theorem dX3_putOthersXor_17 : decode cX3_putOthersXor 17 = .ok (.iconst 0, 1) := by decide +kernel
theorem dX3_putOthersXor_18 : decode cX3_putOthersXor 18 = .ok (.invokevirtual 240, 3) := by decide +kernel
theorem dX3_putOthersXor_21 : decode cX3_putOthersXor 21 = .ok (.ireturn, 1) := by decide +kernel
