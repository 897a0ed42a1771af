theorem dX7_admit_189 : decode cX7_admit 189 = .ok (.aload_n 0, 1) := by decide +kernel
theorem dX7_admit_190 : decode cX7_admit 190 = .ok (.getfield 7, 3) := by decide +kernel
theorem dX7_admit_193 : decode cX7_admit 193 = .ok (.bipush 67, 2) := by decide +kernel
theorem dX7_admit_195 : decode cX7_admit 195 = .ok (.iaload, 1) := by decide +kernel
theorem dX7_admit_196 : decode cX7_admit 196 = .ok (.invokevirtual 45, 3) := by decide +kernel
theorem dX7_admit_199 : decode cX7_admit 199 = .ok (.aload_n 0, 1) := by decide +kernel
theorem dX7_admit_200 : decode cX7_admit 200 = .ok (.iload_n 1, 1) := by decide +kernel
theorem dX7_admit_201 : decode cX7_admit 201 = .ok (.bipush 8, 2) := by decide +kernel
theorem dX7_admit_203 : decode cX7_admit 203 = .ok (.ldc 30, 2) := by decide +kernel
theorem dX7_admit_205 : decode cX7_admit 205 = .ok (.invokevirtual 45, 3) := by decide +kernel
theorem dX7_admit_208 : decode cX7_admit 208 = .ok (.return_, 1) := by decide +kernel
set_option maxRecDepth 20000 in
theorem ggX7_offerNow_X7_of : GoodIn wsX7_offerNow wsX7_of := goodIn_r _ [5, 6, 40, 41, 42, 43, 44, 45, 46, 47, 48] (by decide +kernel) (by decide +kernel)
set_option maxRecDepth 20000 in
theorem gX7_offerNow_X7_of : GoodIn wsX7_offerNow (wsV RX7 35 RX7 yX7_of wsX7_of) := goodIn_app (goodIn_of _ (by decide +kernel)) ggX7_offerNow_X7_of
set_option maxRecDepth 20000 in
theorem ggX7_offerNow_X7_put : GoodIn wsX7_offerNow wsX7_put := goodIn_r _ [10, 6, 40, 41, 42, 43, 44, 45, 46, 47, 48] (by decide +kernel) (by decide +kernel)
set_option maxRecDepth 20000 in
theorem gX7_offerNow_X7_put : GoodIn wsX7_offerNow (wsV RX7 45 RX7 yX7_put wsX7_put) := goodIn_app (goodIn_of _ (by decide +kernel)) ggX7_offerNow_X7_put
set_option maxRecDepth 20000 in
theorem ggX7_offerNow_X7_expectedCost : GoodIn wsX7_offerNow wsX7_expectedCost := goodIn_r _ [14, 6, 40, 41, 42, 43, 44, 45, 46, 47, 48] (by decide +kernel) (by decide +kernel)
set_option maxRecDepth 20000 in
theorem gX7_offerNow_X7_expectedCost : GoodIn wsX7_offerNow (wsV RX7 49 RX7 yX7_expectedCost wsX7_expectedCost) := goodIn_app (goodIn_of _ (by decide +kernel)) ggX7_offerNow_X7_expectedCost
set_option maxRecDepth 20000 in
theorem ggX7_offerNow_X7_whyRefused : GoodIn wsX7_offerNow wsX7_whyRefused := goodIn_r _ [18, 6, 19, 20, 21, 4, 22, 23, 24, 25, 26, 27, 28, 29, 30, 1, 2, 3, 5, 40, 41, 42, 43, 44, 45, 46, 47, 48] (by decide +kernel) (by decide +kernel)
set_option maxRecDepth 20000 in
theorem gX7_offerNow_X7_whyRefused : GoodIn wsX7_offerNow (wsV RX7 52 RX7 yX7_whyRefused wsX7_whyRefused) := goodIn_app (goodIn_of _ (by decide +kernel)) ggX7_offerNow_X7_whyRefused
set_option maxRecDepth 20000 in
theorem ggX7_offerNow_X7_refuse : GoodIn wsX7_offerNow wsX7_refuse := goodIn_r _ [34, 6, 35, 1, 2, 3, 4, 5, 7, 8, 9, 10, 40, 41, 42, 43, 44, 45, 46, 47, 48] (by decide +kernel) (by decide +kernel)
set_option maxRecDepth 20000 in
theorem gX7_offerNow_X7_refuse : GoodIn wsX7_offerNow (wsV RX7 55 RX7 yX7_refuse wsX7_refuse) := goodIn_app (goodIn_of _ (by decide +kernel)) ggX7_offerNow_X7_refuse
set_option maxRecDepth 20000 in
theorem ggX7_offerNow_X7_admit : GoodIn wsX7_offerNow wsX7_admit := goodIn_r _ [39, 6, 35, 1, 2, 3, 4, 5, 7, 8, 9, 10, 40, 41, 42, 43, 44, 45, 46, 47, 48] (by decide +kernel) (by decide +kernel)
set_option maxRecDepth 20000 in
theorem gX7_offerNow_X7_admit : GoodIn wsX7_offerNow (wsV RX7 59 RX7 yX7_admit wsX7_admit) := goodIn_app (goodIn_of _ (by decide +kernel)) ggX7_offerNow_X7_admit
theorem dX7_offerNow_0 : decode cX7_offerNow 0 = .ok (.aload_n 0, 1) := by decide +kernel
theorem dX7_offerNow_1 : decode cX7_offerNow 1 = .ok (.iload_n 1, 1) := by decide +kernel
theorem dX7_offerNow_2 : decode cX7_offerNow 2 = .ok (.bipush 6, 2) := by decide +kernel
theorem dX7_offerNow_4 : decode cX7_offerNow 4 = .ok (.aload_n 0, 1) := by decide +kernel
theorem dX7_offerNow_5 : decode cX7_offerNow 5 = .ok (.iload_n 1, 1) := by decide +kernel
theorem dX7_offerNow_6 : decode cX7_offerNow 6 = .ok (.bipush 6, 2) := by decide +kernel
theorem dX7_offerNow_8 : decode cX7_offerNow 8 = .ok (.invokevirtual 35, 3) := by decide +kernel
theorem dX7_offerNow_11 : decode cX7_offerNow 11 = .ok (.iconst 1, 1) := by decide +kernel
theorem dX7_offerNow_12 : decode cX7_offerNow 12 = .ok (.iadd, 1) := by decide +kernel
theorem dX7_offerNow_13 : decode cX7_offerNow 13 = .ok (.invokevirtual 45, 3) := by decide +kernel
theorem dX7_offerNow_16 : decode cX7_offerNow 16 = .ok (.aload_n 0, 1) := by decide +kernel
theorem dX7_offerNow_17 : decode cX7_offerNow 17 = .ok (.iload_n 1, 1) := by decide +kernel
theorem dX7_offerNow_18 : decode cX7_offerNow 18 = .ok (.iconst 4, 1) := by decide +kernel
theorem dX7_offerNow_19 : decode cX7_offerNow 19 = .ok (.aload_n 0, 1) := by decide +kernel
theorem dX7_offerNow_20 : decode cX7_offerNow 20 = .ok (.aload_n 0, 1) := by decide +kernel
theorem dX7_offerNow_21 : decode cX7_offerNow 21 = .ok (.iload_n 1, 1) := by decide +kernel
theorem dX7_offerNow_22 : decode cX7_offerNow 22 = .ok (.iconst 1, 1) := by decide +kernel
theorem dX7_offerNow_23 : decode cX7_offerNow 23 = .ok (.invokevirtual 35, 3) := by decide +kernel
theorem dX7_offerNow_26 : decode cX7_offerNow 26 = .ok (.invokevirtual 49, 3) := by decide +kernel
theorem dX7_offerNow_29 : decode cX7_offerNow 29 = .ok (.invokevirtual 45, 3) := by decide +kernel
theorem dX7_offerNow_32 : decode cX7_offerNow 32 = .ok (.aload_n 0, 1) := by decide +kernel
theorem dX7_offerNow_33 : decode cX7_offerNow 33 = .ok (.aload_n 0, 1) := by decide +kernel
theorem dX7_offerNow_34 : decode cX7_offerNow 34 = .ok (.iload_n 1, 1) := by decide +kernel
theorem dX7_offerNow_35 : decode cX7_offerNow 35 = .ok (.iconst 0, 1) := by decide +kernel
theorem dX7_offerNow_36 : decode cX7_offerNow 36 = .ok (.invokevirtual 35, 3) := by decide +kernel
theorem dX7_offerNow_39 : decode cX7_offerNow 39 = .ok (.aload_n 0, 1) := by decide +kernel
theorem dX7_offerNow_40 : decode cX7_offerNow 40 = .ok (.iload_n 1, 1) := by decide +kernel
theorem dX7_offerNow_41 : decode cX7_offerNow 41 = .ok (.iconst 4, 1) := by decide +kernel
theorem dX7_offerNow_42 : decode cX7_offerNow 42 = .ok (.invokevirtual 35, 3) := by decide +kernel
theorem dX7_offerNow_45 : decode cX7_offerNow 45 = .ok (.invokevirtual 52, 3) := by decide +kernel
theorem dX7_offerNow_48 : decode cX7_offerNow 48 = .ok (.istore_n 2, 1) := by decide +kernel
theorem dX7_offerNow_49 : decode cX7_offerNow 49 = .ok (.iload_n 2, 1) := by decide +kernel
theorem dX7_offerNow_50 : decode cX7_offerNow 50 = .ok (.ifCond .le 12, 3) := by decide +kernel
theorem dX7_offerNow_53 : decode cX7_offerNow 53 = .ok (.aload_n 0, 1) := by decide +kernel
theorem dX7_offerNow_54 : decode cX7_offerNow 54 = .ok (.iload_n 1, 1) := by decide +kernel
theorem dX7_offerNow_55 : decode cX7_offerNow 55 = .ok (.iload_n 2, 1) := by decide +kernel
theorem dX7_offerNow_56 : decode cX7_offerNow 56 = .ok (.invokevirtual 55, 3) := by decide +kernel
theorem dX7_offerNow_59 : decode cX7_offerNow 59 = .ok (.goto 8, 3) := by decide +kernel
theorem dX7_offerNow_62 : decode cX7_offerNow 62 = .ok (.aload_n 0, 1) := by decide +kernel
theorem dX7_offerNow_63 : decode cX7_offerNow 63 = .ok (.iload_n 1, 1) := by decide +kernel
theorem dX7_offerNow_64 : decode cX7_offerNow 64 = .ok (.invokevirtual 59, 3) := by decide +kernel
theorem dX7_offerNow_67 : decode cX7_offerNow 67 = .ok (.iload_n 2, 1) := by decide +kernel
theorem dX7_offerNow_68 : decode cX7_offerNow 68 = .ok (.ireturn, 1) := by decide +kernel
set_option maxRecDepth 20000 in
theorem ggX7_leaveQueue_X7_inQueue : GoodIn wsX7_leaveQueue wsX7_inQueue := goodIn_r _ [6, 1, 7, 8, 9, 10, 11, 12, 13, 14, 15] (by decide +kernel) (by decide +kernel)
set_option maxRecDepth 20000 in
theorem gX7_leaveQueue_X7_inQueue : GoodIn wsX7_leaveQueue (wsV RX7 31 RX7 yX7_inQueue wsX7_inQueue) := goodIn_app (goodIn_of _ (by decide +kernel)) ggX7_leaveQueue_X7_inQueue
theorem dX7_leaveQueue_0 : decode cX7_leaveQueue 0 = .ok (.aload_n 0, 1) := by decide +kernel
theorem dX7_leaveQueue_1 : decode cX7_leaveQueue 1 = .ok (.getfield 7, 3) := by decide +kernel
theorem dX7_leaveQueue_4 : decode cX7_leaveQueue 4 = .ok (.bipush 25, 2) := by decide +kernel
theorem dX7_leaveQueue_6 : decode cX7_leaveQueue 6 = .ok (.iload_n 1, 1) := by decide +kernel
theorem dX7_leaveQueue_7 : decode cX7_leaveQueue 7 = .ok (.iadd, 1) := by decide +kernel
theorem dX7_leaveQueue_8 : decode cX7_leaveQueue 8 = .ok (.dup2, 1) := by decide +kernel
theorem dX7_leaveQueue_9 : decode cX7_leaveQueue 9 = .ok (.iaload, 1) := by decide +kernel
theorem dX7_leaveQueue_10 : decode cX7_leaveQueue 10 = .ok (.iconst 1, 1) := by decide +kernel
theorem dX7_leaveQueue_11 : decode cX7_leaveQueue 11 = .ok (.isub, 1) := by decide +kernel
theorem dX7_leaveQueue_12 : decode cX7_leaveQueue 12 = .ok (.iastore, 1) := by decide +kernel
theorem dX7_leaveQueue_13 : decode cX7_leaveQueue 13 = .ok (.iload_n 2, 1) := by decide +kernel
theorem dX7_leaveQueue_14 : decode cX7_leaveQueue 14 = .ok (.istore_n 3, 1) := by decide +kernel
theorem dX7_leaveQueue_15 : decode cX7_leaveQueue 15 = .ok (.iload_n 3, 1) := by decide +kernel
theorem dX7_leaveQueue_16 : decode cX7_leaveQueue 16 = .ok (.aload_n 0, 1) := by decide +kernel
theorem dX7_leaveQueue_17 : decode cX7_leaveQueue 17 = .ok (.getfield 7, 3) := by decide +kernel
theorem dX7_leaveQueue_20 : decode cX7_leaveQueue 20 = .ok (.bipush 25, 2) := by decide +kernel
theorem dX7_leaveQueue_22 : decode cX7_leaveQueue 22 = .ok (.iload_n 1, 1) := by decide +kernel
theorem dX7_leaveQueue_23 : decode cX7_leaveQueue 23 = .ok (.iadd, 1) := by decide +kernel
theorem dX7_leaveQueue_24 : decode cX7_leaveQueue 24 = .ok (.iaload, 1) := by decide +kernel
theorem dX7_leaveQueue_25 : decode cX7_leaveQueue 25 = .ok (.if_icmp .ge 31, 3) := by decide +kernel
theorem dX7_leaveQueue_28 : decode cX7_leaveQueue 28 = .ok (.aload_n 0, 1) := by decide +kernel
theorem dX7_leaveQueue_29 : decode cX7_leaveQueue 29 = .ok (.getfield 7, 3) := by decide +kernel
theorem dX7_leaveQueue_32 : decode cX7_leaveQueue 32 = .ok (.bipush 28, 2) := by decide +kernel
theorem dX7_leaveQueue_34 : decode cX7_leaveQueue 34 = .ok (.bipush 8, 2) := by decide +kernel
theorem dX7_leaveQueue_36 : decode cX7_leaveQueue 36 = .ok (.iload_n 1, 1) := by decide +kernel
theorem dX7_leaveQueue_37 : decode cX7_leaveQueue 37 = .ok (.imul, 1) := by decide +kernel
theorem dX7_leaveQueue_38 : decode cX7_leaveQueue 38 = .ok (.iadd, 1) := by decide +kernel
theorem dX7_leaveQueue_39 : decode cX7_leaveQueue 39 = .ok (.iload_n 3, 1) := by decide +kernel
theorem dX7_leaveQueue_40 : decode cX7_leaveQueue 40 = .ok (.iadd, 1) := by decide +kernel
theorem dX7_leaveQueue_41 : decode cX7_leaveQueue 41 = .ok (.aload_n 0, 1) := by decide +kernel
theorem dX7_leaveQueue_42 : decode cX7_leaveQueue 42 = .ok (.iload_n 1, 1) := by decide +kernel
theorem dX7_leaveQueue_43 : decode cX7_leaveQueue 43 = .ok (.iload_n 3, 1) := by decide +kernel
theorem dX7_leaveQueue_44 : decode cX7_leaveQueue 44 = .ok (.iconst 1, 1) := by decide +kernel
theorem dX7_leaveQueue_45 : decode cX7_leaveQueue 45 = .ok (.iadd, 1) := by decide +kernel
theorem dX7_leaveQueue_46 : decode cX7_leaveQueue 46 = .ok (.invokevirtual 31, 3) := by decide +kernel
theorem dX7_leaveQueue_49 : decode cX7_leaveQueue 49 = .ok (.iastore, 1) := by decide +kernel
theorem dX7_leaveQueue_50 : decode cX7_leaveQueue 50 = .ok (.iinc 3 1, 3) := by decide +kernel
theorem dX7_leaveQueue_53 : decode cX7_leaveQueue 53 = .ok (.goto (-38), 3) := by decide +kernel
theorem dX7_leaveQueue_56 : decode cX7_leaveQueue 56 = .ok (.return_, 1) := by decide +kernel
set_option maxRecDepth 20000 in
theorem ggX7_refuseLate_X7_inQueue : GoodIn wsX7_refuseLate wsX7_inQueue := goodIn_r _ [6, 1, 32, 33, 34, 35, 36, 37, 38, 39, 40] (by decide +kernel) (by decide +kernel)
set_option maxRecDepth 20000 in
theorem gX7_refuseLate_X7_inQueue : GoodIn wsX7_refuseLate (wsV RX7 31 RX7 yX7_inQueue wsX7_inQueue) := goodIn_app (goodIn_of _ (by decide +kernel)) ggX7_refuseLate_X7_inQueue
set_option maxRecDepth 20000 in
theorem ggX7_refuseLate_X7_of : GoodIn wsX7_refuseLate wsX7_of := goodIn_r _ [10, 1, 32, 33, 34, 35, 36, 37, 38, 39, 40] (by decide +kernel) (by decide +kernel)
set_option maxRecDepth 20000 in
theorem gX7_refuseLate_X7_of : GoodIn wsX7_refuseLate (wsV RX7 35 RX7 yX7_of wsX7_of) := goodIn_app (goodIn_of _ (by decide +kernel)) ggX7_refuseLate_X7_of
set_option maxRecDepth 20000 in
theorem ggX7_refuseLate_X7_leaveQueue : GoodIn wsX7_refuseLate wsX7_leaveQueue := goodIn_r _ [14, 1, 2, 3, 4, 5, 6, 32, 33, 34, 35, 36, 37, 38, 39, 40] (by decide +kernel) (by decide +kernel)
set_option maxRecDepth 20000 in
theorem gX7_refuseLate_X7_leaveQueue : GoodIn wsX7_refuseLate (wsV RX7 63 RX7 yX7_leaveQueue wsX7_leaveQueue) := goodIn_app (goodIn_of _ (by decide +kernel)) ggX7_refuseLate_X7_leaveQueue
set_option maxRecDepth 20000 in
theorem ggX7_refuseLate_X7_refuse : GoodIn wsX7_refuseLate wsX7_refuse := goodIn_r _ [18, 1, 19, 7, 8, 9, 5, 10, 20, 21, 22, 23, 32, 33, 34, 35, 36, 37, 38, 39, 40] (by decide +kernel) (by decide +kernel)
set_option maxRecDepth 20000 in
theorem gX7_refuseLate_X7_refuse : GoodIn wsX7_refuseLate (wsV RX7 55 RX7 yX7_refuse wsX7_refuse) := goodIn_app (goodIn_of _ (by decide +kernel)) ggX7_refuseLate_X7_refuse
set_option maxRecDepth 20000 in
theorem ggX7_refuseLate_X7_addTokens : GoodIn wsX7_refuseLate wsX7_addTokens := goodIn_r _ [27, 1, 28, 29, 30, 5, 31, 32, 33, 34, 35, 36, 37, 38, 39, 40] (by decide +kernel) (by decide +kernel)
set_option maxRecDepth 20000 in
theorem gX7_refuseLate_X7_addTokens : GoodIn wsX7_refuseLate (wsV RX7 66 RX7 yX7_addTokens wsX7_addTokens) := goodIn_app (goodIn_of _ (by decide +kernel)) ggX7_refuseLate_X7_addTokens
theorem dX7_refuseLate_0 : decode cX7_refuseLate 0 = .ok (.iconst 0, 1) := by decide +kernel
theorem dX7_refuseLate_1 : decode cX7_refuseLate 1 = .ok (.istore_n 2, 1) := by decide +kernel
theorem dX7_refuseLate_2 : decode cX7_refuseLate 2 = .ok (.iload_n 2, 1) := by decide +kernel
theorem dX7_refuseLate_3 : decode cX7_refuseLate 3 = .ok (.aload_n 0, 1) := by decide +kernel
theorem dX7_refuseLate_4 : decode cX7_refuseLate 4 = .ok (.getfield 7, 3) := by decide +kernel
theorem dX7_refuseLate_7 : decode cX7_refuseLate 7 = .ok (.bipush 25, 2) := by decide +kernel
theorem dX7_refuseLate_9 : decode cX7_refuseLate 9 = .ok (.iload_n 1, 1) := by decide +kernel
theorem dX7_refuseLate_10 : decode cX7_refuseLate 10 = .ok (.iadd, 1) := by decide +kernel
theorem dX7_refuseLate_11 : decode cX7_refuseLate 11 = .ok (.iaload, 1) := by decide +kernel
theorem dX7_refuseLate_12 : decode cX7_refuseLate 12 = .ok (.if_icmp .ge 87, 3) := by decide +kernel
theorem dX7_refuseLate_15 : decode cX7_refuseLate 15 = .ok (.aload_n 0, 1) := by decide +kernel
theorem dX7_refuseLate_16 : decode cX7_refuseLate 16 = .ok (.iload_n 1, 1) := by decide +kernel
theorem dX7_refuseLate_17 : decode cX7_refuseLate 17 = .ok (.iload_n 2, 1) := by decide +kernel
theorem dX7_refuseLate_18 : decode cX7_refuseLate 18 = .ok (.invokevirtual 31, 3) := by decide +kernel
theorem dX7_refuseLate_21 : decode cX7_refuseLate 21 = .ok (.istore_n 3, 1) := by decide +kernel
theorem dX7_refuseLate_22 : decode cX7_refuseLate 22 = .ok (.aload_n 0, 1) := by decide +kernel
theorem dX7_refuseLate_23 : decode cX7_refuseLate 23 = .ok (.iload_n 3, 1) := by decide +kernel
theorem dX7_refuseLate_24 : decode cX7_refuseLate 24 = .ok (.iconst 3, 1) := by decide +kernel
theorem dX7_refuseLate_25 : decode cX7_refuseLate 25 = .ok (.invokevirtual 35, 3) := by decide +kernel
theorem dX7_refuseLate_28 : decode cX7_refuseLate 28 = .ok (.ifCond .ne 31, 3) := by decide +kernel
theorem dX7_refuseLate_31 : decode cX7_refuseLate 31 = .ok (.aload_n 0, 1) := by decide +kernel
theorem dX7_refuseLate_32 : decode cX7_refuseLate 32 = .ok (.getfield 7, 3) := by decide +kernel
theorem dX7_refuseLate_35 : decode cX7_refuseLate 35 = .ok (.bipush 67, 2) := by decide +kernel
theorem dX7_refuseLate_37 : decode cX7_refuseLate 37 = .ok (.iaload, 1) := by decide +kernel
theorem dX7_refuseLate_38 : decode cX7_refuseLate 38 = .ok (.aload_n 0, 1) := by decide +kernel
theorem dX7_refuseLate_39 : decode cX7_refuseLate 39 = .ok (.iload_n 3, 1) := by decide +kernel
theorem dX7_refuseLate_40 : decode cX7_refuseLate 40 = .ok (.bipush 9, 2) := by decide +kernel
theorem dX7_refuseLate_42 : decode cX7_refuseLate 42 = .ok (.invokevirtual 35, 3) := by decide +kernel
theorem dX7_refuseLate_45 : decode cX7_refuseLate 45 = .ok (.isub, 1) := by decide +kernel
theorem dX7_refuseLate_46 : decode cX7_refuseLate 46 = .ok (.aload_n 0, 1) := by decide +kernel
theorem dX7_refuseLate_47 : decode cX7_refuseLate 47 = .ok (.getfield 7, 3) := by decide +kernel
theorem dX7_refuseLate_50 : decode cX7_refuseLate 50 = .ok (.iconst 1, 1) := by decide +kernel
theorem dX7_refuseLate_51 : decode cX7_refuseLate 51 = .ok (.iaload, 1) := by decide +kernel
theorem dX7_refuseLate_52 : decode cX7_refuseLate 52 = .ok (.if_icmp .lt 7, 3) := by decide +kernel
theorem dX7_refuseLate_55 : decode cX7_refuseLate 55 = .ok (.iconst 1, 1) := by decide +kernel
theorem dX7_refuseLate_56 : decode cX7_refuseLate 56 = .ok (.goto 4, 3) := by decide +kernel
theorem dX7_refuseLate_59 : decode cX7_refuseLate 59 = .ok (.iconst 0, 1) := by decide +kernel
theorem dX7_refuseLate_60 : decode cX7_refuseLate 60 = .ok (.istore 4, 2) := by decide +kernel
theorem dX7_refuseLate_62 : decode cX7_refuseLate 62 = .ok (.iload 4, 2) := by decide +kernel
theorem dX7_refuseLate_64 : decode cX7_refuseLate 64 = .ok (.ifCond .eq 29, 3) := by decide +kernel
theorem dX7_refuseLate_67 : decode cX7_refuseLate 67 = .ok (.aload_n 0, 1) := by decide +kernel
theorem dX7_refuseLate_68 : decode cX7_refuseLate 68 = .ok (.iload_n 1, 1) := by decide +kernel
theorem dX7_refuseLate_69 : decode cX7_refuseLate 69 = .ok (.iload_n 2, 1) := by decide +kernel
theorem dX7_refuseLate_70 : decode cX7_refuseLate 70 = .ok (.invokevirtual 63, 3) := by decide +kernel
theorem dX7_refuseLate_73 : decode cX7_refuseLate 73 = .ok (.aload_n 0, 1) := by decide +kernel
theorem dX7_refuseLate_74 : decode cX7_refuseLate 74 = .ok (.iload_n 3, 1) := by decide +kernel
theorem dX7_refuseLate_75 : decode cX7_refuseLate 75 = .ok (.iconst 5, 1) := by decide +kernel
theorem dX7_refuseLate_76 : decode cX7_refuseLate 76 = .ok (.invokevirtual 55, 3) := by decide +kernel
theorem dX7_refuseLate_79 : decode cX7_refuseLate 79 = .ok (.aload_n 0, 1) := by decide +kernel
theorem dX7_refuseLate_80 : decode cX7_refuseLate 80 = .ok (.iload_n 1, 1) := by decide +kernel
theorem dX7_refuseLate_81 : decode cX7_refuseLate 81 = .ok (.aload_n 0, 1) := by decide +kernel
theorem dX7_refuseLate_82 : decode cX7_refuseLate 82 = .ok (.iload_n 3, 1) := by decide +kernel
theorem dX7_refuseLate_83 : decode cX7_refuseLate 83 = .ok (.iconst 4, 1) := by decide +kernel
theorem dX7_refuseLate_84 : decode cX7_refuseLate 84 = .ok (.invokevirtual 35, 3) := by decide +kernel
theorem dX7_refuseLate_87 : decode cX7_refuseLate 87 = .ok (.invokevirtual 66, 3) := by decide +kernel
theorem dX7_refuseLate_90 : decode cX7_refuseLate 90 = .ok (.goto 6, 3) := by decide +kernel
theorem dX7_refuseLate_93 : decode cX7_refuseLate 93 = .ok (.iinc 2 1, 3) := by decide +kernel
theorem dX7_refuseLate_96 : decode cX7_refuseLate 96 = .ok (.goto (-94), 3) := by decide +kernel
theorem dX7_refuseLate_99 : decode cX7_refuseLate 99 = .ok (.return_, 1) := by decide +kernel
theorem dX7_nextClass_0 : decode cX7_nextClass 0 = .ok (.ldc 30, 2) := by decide +kernel
theorem dX7_nextClass_2 : decode cX7_nextClass 2 = .ok (.istore_n 1, 1) := by decide +kernel
theorem dX7_nextClass_3 : decode cX7_nextClass 3 = .ok (.iconst 0, 1) := by decide +kernel
theorem dX7_nextClass_4 : decode cX7_nextClass 4 = .ok (.istore_n 2, 1) := by decide +kernel
theorem dX7_nextClass_5 : decode cX7_nextClass 5 = .ok (.iload_n 2, 1) := by decide +kernel
theorem dX7_nextClass_6 : decode cX7_nextClass 6 = .ok (.iconst 3, 1) := by decide +kernel
theorem dX7_nextClass_7 : decode cX7_nextClass 7 = .ok (.if_icmp .ge 52, 3) := by decide +kernel
theorem dX7_nextClass_10 : decode cX7_nextClass 10 = .ok (.aload_n 0, 1) := by decide +kernel
theorem dX7_nextClass_11 : decode cX7_nextClass 11 = .ok (.getfield 7, 3) := by decide +kernel
theorem dX7_nextClass_14 : decode cX7_nextClass 14 = .ok (.bipush 25, 2) := by decide +kernel
theorem dX7_nextClass_16 : decode cX7_nextClass 16 = .ok (.iload_n 2, 1) := by decide +kernel
theorem dX7_nextClass_17 : decode cX7_nextClass 17 = .ok (.iadd, 1) := by decide +kernel
theorem dX7_nextClass_18 : decode cX7_nextClass 18 = .ok (.iaload, 1) := by decide +kernel
theorem dX7_nextClass_19 : decode cX7_nextClass 19 = .ok (.ifCond .le 32, 3) := by decide +kernel
theorem dX7_nextClass_22 : decode cX7_nextClass 22 = .ok (.iload_n 1, 1) := by decide +kernel
theorem dX7_nextClass_23 : decode cX7_nextClass 23 = .ok (.ifCond .lt 24, 3) := by decide +kernel
theorem dX7_nextClass_26 : decode cX7_nextClass 26 = .ok (.aload_n 0, 1) := by decide +kernel
theorem dX7_nextClass_27 : decode cX7_nextClass 27 = .ok (.getfield 7, 3) := by decide +kernel
theorem dX7_nextClass_30 : decode cX7_nextClass 30 = .ok (.bipush 19, 2) := by decide +kernel
theorem dX7_nextClass_32 : decode cX7_nextClass 32 = .ok (.iload_n 2, 1) := by decide +kernel
theorem dX7_nextClass_33 : decode cX7_nextClass 33 = .ok (.iadd, 1) := by decide +kernel
theorem dX7_nextClass_34 : decode cX7_nextClass 34 = .ok (.iaload, 1) := by decide +kernel
theorem dX7_nextClass_35 : decode cX7_nextClass 35 = .ok (.aload_n 0, 1) := by decide +kernel
theorem dX7_nextClass_36 : decode cX7_nextClass 36 = .ok (.getfield 7, 3) := by decide +kernel
theorem dX7_nextClass_39 : decode cX7_nextClass 39 = .ok (.bipush 19, 2) := by decide +kernel
theorem dX7_nextClass_41 : decode cX7_nextClass 41 = .ok (.iload_n 1, 1) := by decide +kernel
theorem dX7_nextClass_42 : decode cX7_nextClass 42 = .ok (.iadd, 1) := by decide +kernel
theorem dX7_nextClass_43 : decode cX7_nextClass 43 = .ok (.iaload, 1) := by decide +kernel
theorem dX7_nextClass_44 : decode cX7_nextClass 44 = .ok (.if_icmp .ge 7, 3) := by decide +kernel
theorem dX7_nextClass_47 : decode cX7_nextClass 47 = .ok (.iload_n 2, 1) := by decide +kernel
theorem dX7_nextClass_48 : decode cX7_nextClass 48 = .ok (.goto 4, 3) := by decide +kernel
theorem dX7_nextClass_51 : decode cX7_nextClass 51 = .ok (.iload_n 1, 1) := by decide +kernel
theorem dX7_nextClass_52 : decode cX7_nextClass 52 = .ok (.istore_n 1, 1) := by decide +kernel
theorem dX7_nextClass_53 : decode cX7_nextClass 53 = .ok (.iinc 2 1, 3) := by decide +kernel
theorem dX7_nextClass_56 : decode cX7_nextClass 56 = .ok (.goto (-51), 3) := by decide +kernel
theorem dX7_nextClass_59 : decode cX7_nextClass 59 = .ok (.iload_n 1, 1) := by decide +kernel
theorem dX7_nextClass_60 : decode cX7_nextClass 60 = .ok (.ireturn, 1) := by decide +kernel
set_option maxRecDepth 20000 in
theorem ggX7_work_X7_inQueue : GoodIn wsX7_work wsX7_inQueue := goodIn_r _ [6, 1, 27, 28, 29, 30, 31, 32, 33, 34, 35] (by decide +kernel) (by decide +kernel)
set_option maxRecDepth 20000 in
theorem gX7_work_X7_inQueue : GoodIn wsX7_work (wsV RX7 31 RX7 yX7_inQueue wsX7_inQueue) := goodIn_app (goodIn_of _ (by decide +kernel)) ggX7_work_X7_inQueue
set_option maxRecDepth 20000 in
theorem ggX7_work_X7_put : GoodIn wsX7_work wsX7_put := goodIn_r _ [10, 1, 27, 28, 29, 30, 31, 32, 33, 34, 35] (by decide +kernel) (by decide +kernel)
set_option maxRecDepth 20000 in
theorem gX7_work_X7_put : GoodIn wsX7_work (wsV RX7 45 RX7 yX7_put wsX7_put) := goodIn_app (goodIn_of _ (by decide +kernel)) ggX7_work_X7_put
set_option maxRecDepth 20000 in
theorem ggX7_work_X7_of : GoodIn wsX7_work wsX7_of := goodIn_r _ [14, 1, 27, 28, 29, 30, 31, 32, 33, 34, 35] (by decide +kernel) (by decide +kernel)
set_option maxRecDepth 20000 in
theorem gX7_work_X7_of : GoodIn wsX7_work (wsV RX7 35 RX7 yX7_of wsX7_of) := goodIn_app (goodIn_of _ (by decide +kernel)) ggX7_work_X7_of
set_option maxRecDepth 20000 in
theorem ggX7_work_X7_ofClass : GoodIn wsX7_work wsX7_ofClass := goodIn_r _ [18, 1, 27, 28, 29, 30, 31, 32, 33, 34, 35] (by decide +kernel) (by decide +kernel)
set_option maxRecDepth 20000 in
theorem gX7_work_X7_ofClass : GoodIn wsX7_work (wsV RX7 38 RX7 yX7_ofClass wsX7_ofClass) := goodIn_app (goodIn_of _ (by decide +kernel)) ggX7_work_X7_ofClass
set_option maxRecDepth 20000 in
theorem ggX7_work_X7_leaveQueue : GoodIn wsX7_work wsX7_leaveQueue := goodIn_r _ [22, 1, 2, 3, 4, 5, 6, 27, 28, 29, 30, 31, 32, 33, 34, 35] (by decide +kernel) (by decide +kernel)
set_option maxRecDepth 20000 in
theorem gX7_work_X7_leaveQueue : GoodIn wsX7_work (wsV RX7 63 RX7 yX7_leaveQueue wsX7_leaveQueue) := goodIn_app (goodIn_of _ (by decide +kernel)) ggX7_work_X7_leaveQueue
set_option maxRecDepth 20000 in
theorem ggX7_work_X7_addTokens : GoodIn wsX7_work wsX7_addTokens := goodIn_r _ [26, 1, 15, 16, 17, 5, 18, 27, 28, 29, 30, 31, 32, 33, 34, 35] (by decide +kernel) (by decide +kernel)
set_option maxRecDepth 20000 in
theorem gX7_work_X7_addTokens : GoodIn wsX7_work (wsV RX7 66 RX7 yX7_addTokens wsX7_addTokens) := goodIn_app (goodIn_of _ (by decide +kernel)) ggX7_work_X7_addTokens
theorem dX7_work_0 : decode cX7_work 0 = .ok (.aload_n 0, 1) := by decide +kernel
theorem dX7_work_1 : decode cX7_work 1 = .ok (.iload_n 1, 1) := by decide +kernel
theorem dX7_work_2 : decode cX7_work 2 = .ok (.iconst 0, 1) := by decide +kernel
theorem dX7_work_3 : decode cX7_work 3 = .ok (.invokevirtual 31, 3) := by decide +kernel
theorem dX7_work_6 : decode cX7_work 6 = .ok (.istore_n 2, 1) := by decide +kernel
theorem dX7_work_7 : decode cX7_work 7 = .ok (.aload_n 0, 1) := by decide +kernel
theorem dX7_work_8 : decode cX7_work 8 = .ok (.iload_n 2, 1) := by decide +kernel
theorem dX7_work_9 : decode cX7_work 9 = .ok (.iconst 3, 1) := by decide +kernel
theorem dX7_work_10 : decode cX7_work 10 = .ok (.iconst 1, 1) := by decide +kernel
theorem dX7_work_11 : decode cX7_work 11 = .ok (.invokevirtual 45, 3) := by decide +kernel
theorem dX7_work_14 : decode cX7_work 14 = .ok (.aload_n 0, 1) := by decide +kernel
theorem dX7_work_15 : decode cX7_work 15 = .ok (.iload_n 2, 1) := by decide +kernel
theorem dX7_work_16 : decode cX7_work 16 = .ok (.iconst 5, 1) := by decide +kernel
theorem dX7_work_17 : decode cX7_work 17 = .ok (.aload_n 0, 1) := by decide +kernel
theorem dX7_work_18 : decode cX7_work 18 = .ok (.iload_n 2, 1) := by decide +kernel
theorem dX7_work_19 : decode cX7_work 19 = .ok (.iconst 5, 1) := by decide +kernel
theorem dX7_work_20 : decode cX7_work 20 = .ok (.invokevirtual 35, 3) := by decide +kernel
theorem dX7_work_23 : decode cX7_work 23 = .ok (.iconst 1, 1) := by decide +kernel
theorem dX7_work_24 : decode cX7_work 24 = .ok (.iadd, 1) := by decide +kernel
theorem dX7_work_25 : decode cX7_work 25 = .ok (.invokevirtual 45, 3) := by decide +kernel
theorem dX7_work_28 : decode cX7_work 28 = .ok (.aload_n 0, 1) := by decide +kernel
theorem dX7_work_29 : decode cX7_work 29 = .ok (.getfield 7, 3) := by decide +kernel
theorem dX7_work_32 : decode cX7_work 32 = .ok (.bipush 22, 2) := by decide +kernel
theorem dX7_work_34 : decode cX7_work 34 = .ok (.iload_n 1, 1) := by decide +kernel
theorem dX7_work_35 : decode cX7_work 35 = .ok (.iadd, 1) := by decide +kernel
theorem dX7_work_36 : decode cX7_work 36 = .ok (.dup2, 1) := by decide +kernel
theorem dX7_work_37 : decode cX7_work 37 = .ok (.iaload, 1) := by decide +kernel
theorem dX7_work_38 : decode cX7_work 38 = .ok (.iconst 1, 1) := by decide +kernel
theorem dX7_work_39 : decode cX7_work 39 = .ok (.iadd, 1) := by decide +kernel
theorem dX7_work_40 : decode cX7_work 40 = .ok (.iastore, 1) := by decide +kernel
theorem dX7_work_41 : decode cX7_work 41 = .ok (.aload_n 0, 1) := by decide +kernel
theorem dX7_work_42 : decode cX7_work 42 = .ok (.getfield 7, 3) := by decide +kernel
theorem dX7_work_45 : decode cX7_work 45 = .ok (.bipush 19, 2) := by decide +kernel
theorem dX7_work_47 : decode cX7_work 47 = .ok (.iload_n 1, 1) := by decide +kernel
theorem dX7_work_48 : decode cX7_work 48 = .ok (.iadd, 1) := by decide +kernel
theorem dX7_work_49 : decode cX7_work 49 = .ok (.dup2, 1) := by decide +kernel
theorem dX7_work_50 : decode cX7_work 50 = .ok (.iaload, 1) := by decide +kernel
theorem dX7_work_51 : decode cX7_work 51 = .ok (.sipush 2520, 3) := by decide +kernel
theorem dX7_work_54 : decode cX7_work 54 = .ok (.aload_n 0, 1) := by decide +kernel
theorem dX7_work_55 : decode cX7_work 55 = .ok (.iload_n 1, 1) := by decide +kernel
theorem dX7_work_56 : decode cX7_work 56 = .ok (.iconst 0, 1) := by decide +kernel
theorem dX7_work_57 : decode cX7_work 57 = .ok (.invokevirtual 38, 3) := by decide +kernel
theorem dX7_work_60 : decode cX7_work 60 = .ok (.idiv, 1) := by decide +kernel
theorem dX7_work_61 : decode cX7_work 61 = .ok (.iadd, 1) := by decide +kernel
theorem dX7_work_62 : decode cX7_work 62 = .ok (.iastore, 1) := by decide +kernel
theorem dX7_work_63 : decode cX7_work 63 = .ok (.aload_n 0, 1) := by decide +kernel
theorem dX7_work_64 : decode cX7_work 64 = .ok (.iload_n 2, 1) := by decide +kernel
theorem dX7_work_65 : decode cX7_work 65 = .ok (.iconst 5, 1) := by decide +kernel
theorem dX7_work_66 : decode cX7_work 66 = .ok (.invokevirtual 35, 3) := by decide +kernel
theorem dX7_work_69 : decode cX7_work 69 = .ok (.aload_n 0, 1) := by decide +kernel
theorem dX7_work_70 : decode cX7_work 70 = .ok (.iload_n 2, 1) := by decide +kernel
theorem dX7_work_71 : decode cX7_work 71 = .ok (.iconst 2, 1) := by decide +kernel
theorem dX7_work_72 : decode cX7_work 72 = .ok (.invokevirtual 35, 3) := by decide +kernel
theorem dX7_work_75 : decode cX7_work 75 = .ok (.if_icmp .ge 5, 3) := by decide +kernel
theorem dX7_work_78 : decode cX7_work 78 = .ok (.iconst 0, 1) := by decide +kernel
theorem dX7_work_79 : decode cX7_work 79 = .ok (.ireturn, 1) := by decide +kernel
theorem dX7_work_80 : decode cX7_work 80 = .ok (.aload_n 0, 1) := by decide +kernel
theorem dX7_work_81 : decode cX7_work 81 = .ok (.iload_n 1, 1) := by decide +kernel
theorem dX7_work_82 : decode cX7_work 82 = .ok (.iconst 0, 1) := by decide +kernel
theorem dX7_work_83 : decode cX7_work 83 = .ok (.invokevirtual 63, 3) := by decide +kernel
theorem dX7_work_86 : decode cX7_work 86 = .ok (.aload_n 0, 1) := by decide +kernel
theorem dX7_work_87 : decode cX7_work 87 = .ok (.iload_n 2, 1) := by decide +kernel
theorem dX7_work_88 : decode cX7_work 88 = .ok (.iconst 3, 1) := by decide +kernel
theorem dX7_work_89 : decode cX7_work 89 = .ok (.iconst 2, 1) := by decide +kernel
theorem dX7_work_90 : decode cX7_work 90 = .ok (.invokevirtual 45, 3) := by decide +kernel
theorem dX7_work_93 : decode cX7_work 93 = .ok (.aload_n 0, 1) := by decide +kernel
theorem dX7_work_94 : decode cX7_work 94 = .ok (.iload_n 2, 1) := by decide +kernel
theorem dX7_work_95 : decode cX7_work 95 = .ok (.bipush 8, 2) := by decide +kernel
theorem dX7_work_97 : decode cX7_work 97 = .ok (.aload_n 0, 1) := by decide +kernel
theorem dX7_work_98 : decode cX7_work 98 = .ok (.getfield 7, 3) := by decide +kernel
theorem dX7_work_101 : decode cX7_work 101 = .ok (.bipush 67, 2) := by decide +kernel
theorem dX7_work_103 : decode cX7_work 103 = .ok (.iaload, 1) := by decide +kernel
theorem dX7_work_104 : decode cX7_work 104 = .ok (.invokevirtual 45, 3) := by decide +kernel
theorem dX7_work_107 : decode cX7_work 107 = .ok (.bipush 70, 2) := by decide +kernel
theorem dX7_work_109 : decode cX7_work 109 = .ok (.aload_n 0, 1) := by decide +kernel
theorem dX7_work_110 : decode cX7_work 110 = .ok (.iload_n 2, 1) := by decide +kernel
theorem dX7_work_111 : decode cX7_work 111 = .ok (.iconst 1, 1) := by decide +kernel
theorem dX7_work_112 : decode cX7_work 112 = .ok (.invokevirtual 35, 3) := by decide +kernel
theorem dX7_work_115 : decode cX7_work 115 = .ok (.iadd, 1) := by decide +kernel
theorem dX7_work_116 : decode cX7_work 116 = .ok (.istore_n 3, 1) := by decide +kernel
theorem dX7_work_117 : decode cX7_work 117 = .ok (.aload_n 0, 1) := by decide +kernel
theorem dX7_work_118 : decode cX7_work 118 = .ok (.getfield 7, 3) := by decide +kernel
theorem dX7_work_121 : decode cX7_work 121 = .ok (.iload_n 3, 1) := by decide +kernel
theorem dX7_work_122 : decode cX7_work 122 = .ok (.dup2, 1) := by decide +kernel
theorem dX7_work_123 : decode cX7_work 123 = .ok (.iaload, 1) := by decide +kernel
theorem dX7_work_124 : decode cX7_work 124 = .ok (.bipush 16, 2) := by decide +kernel
theorem dX7_work_126 : decode cX7_work 126 = .ok (.aload_n 0, 1) := by decide +kernel
theorem dX7_work_127 : decode cX7_work 127 = .ok (.iload_n 2, 1) := by decide +kernel
theorem dX7_work_128 : decode cX7_work 128 = .ok (.iconst 2, 1) := by decide +kernel
theorem dX7_work_129 : decode cX7_work 129 = .ok (.invokevirtual 35, 3) := by decide +kernel
theorem dX7_work_132 : decode cX7_work 132 = .ok (.imul, 1) := by decide +kernel
theorem dX7_work_133 : decode cX7_work 133 = .ok (.aload_n 0, 1) := by decide +kernel
theorem dX7_work_134 : decode cX7_work 134 = .ok (.getfield 7, 3) := by decide +kernel
theorem dX7_work_137 : decode cX7_work 137 = .ok (.iload_n 3, 1) := by decide +kernel
theorem dX7_work_138 : decode cX7_work 138 = .ok (.iaload, 1) := by decide +kernel
theorem dX7_work_139 : decode cX7_work 139 = .ok (.isub, 1) := by decide +kernel
theorem dX7_work_140 : decode cX7_work 140 = .ok (.iconst 4, 1) := by decide +kernel
theorem dX7_work_141 : decode cX7_work 141 = .ok (.idiv, 1) := by decide +kernel
theorem dX7_work_142 : decode cX7_work 142 = .ok (.iadd, 1) := by decide +kernel
theorem dX7_work_143 : decode cX7_work 143 = .ok (.iastore, 1) := by decide +kernel
theorem dX7_work_144 : decode cX7_work 144 = .ok (.aload_n 0, 1) := by decide +kernel
theorem dX7_work_145 : decode cX7_work 145 = .ok (.iload_n 2, 1) := by decide +kernel
theorem dX7_work_146 : decode cX7_work 146 = .ok (.iconst 4, 1) := by decide +kernel
theorem dX7_work_147 : decode cX7_work 147 = .ok (.invokevirtual 35, 3) := by decide +kernel
theorem dX7_work_150 : decode cX7_work 150 = .ok (.aload_n 0, 1) := by decide +kernel
theorem dX7_work_151 : decode cX7_work 151 = .ok (.iload_n 2, 1) := by decide +kernel
theorem dX7_work_152 : decode cX7_work 152 = .ok (.iconst 2, 1) := by decide +kernel
theorem dX7_work_153 : decode cX7_work 153 = .ok (.invokevirtual 35, 3) := by decide +kernel
theorem dX7_work_156 : decode cX7_work 156 = .ok (.isub, 1) := by decide +kernel
theorem dX7_work_157 : decode cX7_work 157 = .ok (.istore 4, 2) := by decide +kernel
theorem dX7_work_159 : decode cX7_work 159 = .ok (.iload 4, 2) := by decide +kernel
theorem dX7_work_161 : decode cX7_work 161 = .ok (.ifCond .le 13, 3) := by decide +kernel
theorem dX7_work_164 : decode cX7_work 164 = .ok (.aload_n 0, 1) := by decide +kernel
theorem dX7_work_165 : decode cX7_work 165 = .ok (.iload_n 1, 1) := by decide +kernel
theorem dX7_work_166 : decode cX7_work 166 = .ok (.iload 4, 2) := by decide +kernel
theorem dX7_work_168 : decode cX7_work 168 = .ok (.invokevirtual 66, 3) := by decide +kernel
theorem dX7_work_171 : decode cX7_work 171 = .ok (.goto 17, 3) := by decide +kernel
theorem dX7_work_174 : decode cX7_work 174 = .ok (.aload_n 0, 1) := by decide +kernel
theorem dX7_work_175 : decode cX7_work 175 = .ok (.getfield 7, 3) := by decide +kernel
theorem dX7_work_178 : decode cX7_work 178 = .ok (.bipush 16, 2) := by decide +kernel
theorem dX7_work_180 : decode cX7_work 180 = .ok (.iload_n 1, 1) := by decide +kernel
theorem dX7_work_181 : decode cX7_work 181 = .ok (.iadd, 1) := by decide +kernel
theorem dX7_work_182 : decode cX7_work 182 = .ok (.dup2, 1) := by decide +kernel
theorem dX7_work_183 : decode cX7_work 183 = .ok (.iaload, 1) := by decide +kernel
theorem dX7_work_184 : decode cX7_work 184 = .ok (.iload 4, 2) := by decide +kernel
theorem dX7_work_186 : decode cX7_work 186 = .ok (.iadd, 1) := by decide +kernel
theorem dX7_work_187 : decode cX7_work 187 = .ok (.iastore, 1) := by decide +kernel
theorem dX7_work_188 : decode cX7_work 188 = .ok (.iconst 1, 1) := by decide +kernel
theorem dX7_work_189 : decode cX7_work 189 = .ok (.ireturn, 1) := by decide +kernel
set_option maxRecDepth 20000 in
theorem ggX7_tick_X7_ofClass : GoodIn wsX7_tick wsX7_ofClass := goodIn_r _ [6, 1, 64, 65, 66, 67, 68, 69, 70, 71, 72] (by decide +kernel) (by decide +kernel)
set_option maxRecDepth 20000 in
theorem gX7_tick_X7_ofClass : GoodIn wsX7_tick (wsV RX7 38 RX7 yX7_ofClass wsX7_ofClass) := goodIn_app (goodIn_of _ (by decide +kernel)) ggX7_tick_X7_ofClass
set_option maxRecDepth 20000 in
theorem ggX7_tick_X7_addTokens : GoodIn wsX7_tick wsX7_addTokens := goodIn_r _ [10, 1, 2, 3, 4, 5, 6, 64, 65, 66, 67, 68, 69, 70, 71, 72] (by decide +kernel) (by decide +kernel)
set_option maxRecDepth 20000 in
theorem gX7_tick_X7_addTokens : GoodIn wsX7_tick (wsV RX7 66 RX7 yX7_addTokens wsX7_addTokens) := goodIn_app (goodIn_of _ (by decide +kernel)) ggX7_tick_X7_addTokens
set_option maxRecDepth 20000 in
theorem ggX7_tick_X7_of : GoodIn wsX7_tick wsX7_of := goodIn_r _ [14, 1, 64, 65, 66, 67, 68, 69, 70, 71, 72] (by decide +kernel) (by decide +kernel)
set_option maxRecDepth 20000 in
theorem gX7_tick_X7_of : GoodIn wsX7_tick (wsV RX7 35 RX7 yX7_of wsX7_of) := goodIn_app (goodIn_of _ (by decide +kernel)) ggX7_tick_X7_of
set_option maxRecDepth 20000 in
theorem ggX7_tick_X7_offerNow : GoodIn wsX7_tick wsX7_offerNow := goodIn_r _ [18, 11, 12, 13, 5, 14, 1, 19, 20, 21, 22, 23, 24, 25, 26, 27, 28, 29, 30, 2, 3, 4, 6, 31, 32, 33, 34, 35, 36, 37, 38, 39, 40, 41, 42, 43, 44, 45, 46, 47, 64, 65, 66, 67, 68, 69, 70, 71, 72] (by decide +kernel) (by decide +kernel)
set_option maxRecDepth 20000 in
theorem gX7_tick_X7_offerNow : GoodIn wsX7_tick (wsV RX7 69 RX7 yX7_offerNow wsX7_offerNow) := goodIn_app (goodIn_of _ (by decide +kernel)) ggX7_tick_X7_offerNow
set_option maxRecDepth 20000 in
theorem ggX7_tick_X7_refuseLate : GoodIn wsX7_tick wsX7_refuseLate := goodIn_r _ [51, 1, 35, 36, 37, 5, 38, 11, 12, 13, 14, 52, 53, 54, 55, 39, 40, 41, 42, 43, 19, 20, 21, 22, 7, 8, 9, 10, 2, 3, 4, 6, 64, 65, 66, 67, 68, 69, 70, 71, 72] (by decide +kernel) (by decide +kernel)
set_option maxRecDepth 20000 in
theorem gX7_tick_X7_refuseLate : GoodIn wsX7_tick (wsV RX7 72 RX7 yX7_refuseLate wsX7_refuseLate) := goodIn_app (goodIn_of _ (by decide +kernel)) ggX7_tick_X7_refuseLate
set_option maxRecDepth 20000 in
theorem ggX7_tick_X7_nextClass : GoodIn wsX7_tick wsX7_nextClass := goodIn_r _ [59, 43, 1, 64, 65, 66, 67, 68, 69, 70, 71, 72] (by decide +kernel) (by decide +kernel)
set_option maxRecDepth 20000 in
theorem gX7_tick_X7_nextClass : GoodIn wsX7_tick (wsV RX7 75 RX7 yX7_nextClass wsX7_nextClass) := goodIn_app (goodIn_of _ (by decide +kernel)) ggX7_tick_X7_nextClass
set_option maxRecDepth 20000 in
theorem ggX7_tick_X7_work : GoodIn wsX7_tick wsX7_work := goodIn_r _ [63, 1, 35, 36, 37, 5, 38, 19, 20, 21, 22, 11, 12, 13, 14, 2, 3, 4, 6, 52, 53, 54, 55, 7, 8, 9, 10, 64, 65, 66, 67, 68, 69, 70, 71, 72] (by decide +kernel) (by decide +kernel)
set_option maxRecDepth 20000 in
theorem gX7_tick_X7_work : GoodIn wsX7_tick (wsV RX7 79 RX7 yX7_work wsX7_work) := goodIn_app (goodIn_of _ (by decide +kernel)) ggX7_tick_X7_work
theorem dX7_tick_0 : decode cX7_tick 0 = .ok (.iconst 0, 1) := by decide +kernel
theorem dX7_tick_1 : decode cX7_tick 1 = .ok (.istore_n 1, 1) := by decide +kernel
theorem dX7_tick_2 : decode cX7_tick 2 = .ok (.iload_n 1, 1) := by decide +kernel
theorem dX7_tick_3 : decode cX7_tick 3 = .ok (.iconst 3, 1) := by decide +kernel
theorem dX7_tick_4 : decode cX7_tick 4 = .ok (.if_icmp .ge 20, 3) := by decide +kernel
theorem dX7_tick_7 : decode cX7_tick 7 = .ok (.aload_n 0, 1) := by decide +kernel
theorem dX7_tick_8 : decode cX7_tick 8 = .ok (.iload_n 1, 1) := by decide +kernel
theorem dX7_tick_9 : decode cX7_tick 9 = .ok (.aload_n 0, 1) := by decide +kernel
theorem dX7_tick_10 : decode cX7_tick 10 = .ok (.iload_n 1, 1) := by decide +kernel
theorem dX7_tick_11 : decode cX7_tick 11 = .ok (.iconst 1, 1) := by decide +kernel
theorem dX7_tick_12 : decode cX7_tick 12 = .ok (.invokevirtual 38, 3) := by decide +kernel
theorem dX7_tick_15 : decode cX7_tick 15 = .ok (.invokevirtual 66, 3) := by decide +kernel
theorem dX7_tick_18 : decode cX7_tick 18 = .ok (.iinc 1 1, 3) := by decide +kernel
theorem dX7_tick_21 : decode cX7_tick 21 = .ok (.goto (-19), 3) := by decide +kernel
theorem dX7_tick_24 : decode cX7_tick 24 = .ok (.iconst 0, 1) := by decide +kernel
theorem dX7_tick_25 : decode cX7_tick 25 = .ok (.istore_n 1, 1) := by decide +kernel
theorem dX7_tick_26 : decode cX7_tick 26 = .ok (.iload_n 1, 1) := by decide +kernel
theorem dX7_tick_27 : decode cX7_tick 27 = .ok (.aload_n 0, 1) := by decide +kernel
theorem dX7_tick_28 : decode cX7_tick 28 = .ok (.getfield 7, 3) := by decide +kernel
theorem dX7_tick_31 : decode cX7_tick 31 = .ok (.bipush 69, 2) := by decide +kernel
theorem dX7_tick_33 : decode cX7_tick 33 = .ok (.iaload, 1) := by decide +kernel
theorem dX7_tick_34 : decode cX7_tick 34 = .ok (.if_icmp .ge 42, 3) := by decide +kernel
theorem dX7_tick_37 : decode cX7_tick 37 = .ok (.aload_n 0, 1) := by decide +kernel
theorem dX7_tick_38 : decode cX7_tick 38 = .ok (.iload_n 1, 1) := by decide +kernel
theorem dX7_tick_39 : decode cX7_tick 39 = .ok (.iconst 3, 1) := by decide +kernel
theorem dX7_tick_40 : decode cX7_tick 40 = .ok (.invokevirtual 35, 3) := by decide +kernel
theorem dX7_tick_43 : decode cX7_tick 43 = .ok (.iconst 3, 1) := by decide +kernel
theorem dX7_tick_44 : decode cX7_tick 44 = .ok (.if_icmp .ne 26, 3) := by decide +kernel
theorem dX7_tick_47 : decode cX7_tick 47 = .ok (.aload_n 0, 1) := by decide +kernel
theorem dX7_tick_48 : decode cX7_tick 48 = .ok (.iload_n 1, 1) := by decide +kernel
theorem dX7_tick_49 : decode cX7_tick 49 = .ok (.bipush 8, 2) := by decide +kernel
theorem dX7_tick_51 : decode cX7_tick 51 = .ok (.invokevirtual 35, 3) := by decide +kernel
theorem dX7_tick_54 : decode cX7_tick 54 = .ok (.aload_n 0, 1) := by decide +kernel
theorem dX7_tick_55 : decode cX7_tick 55 = .ok (.getfield 7, 3) := by decide +kernel
theorem dX7_tick_58 : decode cX7_tick 58 = .ok (.bipush 67, 2) := by decide +kernel
theorem dX7_tick_60 : decode cX7_tick 60 = .ok (.iaload, 1) := by decide +kernel
theorem dX7_tick_61 : decode cX7_tick 61 = .ok (.if_icmp .gt 9, 3) := by decide +kernel
theorem dX7_tick_64 : decode cX7_tick 64 = .ok (.aload_n 0, 1) := by decide +kernel
theorem dX7_tick_65 : decode cX7_tick 65 = .ok (.iload_n 1, 1) := by decide +kernel
theorem dX7_tick_66 : decode cX7_tick 66 = .ok (.invokevirtual 69, 3) := by decide +kernel
theorem dX7_tick_69 : decode cX7_tick 69 = .ok (.pop, 1) := by decide +kernel
theorem dX7_tick_70 : decode cX7_tick 70 = .ok (.iinc 1 1, 3) := by decide +kernel
theorem dX7_tick_73 : decode cX7_tick 73 = .ok (.goto (-47), 3) := by decide +kernel
theorem dX7_tick_76 : decode cX7_tick 76 = .ok (.iconst 0, 1) := by decide +kernel
theorem dX7_tick_77 : decode cX7_tick 77 = .ok (.istore_n 1, 1) := by decide +kernel
theorem dX7_tick_78 : decode cX7_tick 78 = .ok (.iload_n 1, 1) := by decide +kernel
theorem dX7_tick_79 : decode cX7_tick 79 = .ok (.iconst 3, 1) := by decide +kernel
theorem dX7_tick_80 : decode cX7_tick 80 = .ok (.if_icmp .ge 14, 3) := by decide +kernel
theorem dX7_tick_83 : decode cX7_tick 83 = .ok (.aload_n 0, 1) := by decide +kernel
theorem dX7_tick_84 : decode cX7_tick 84 = .ok (.iload_n 1, 1) := by decide +kernel
theorem dX7_tick_85 : decode cX7_tick 85 = .ok (.invokevirtual 72, 3) := by decide +kernel
theorem dX7_tick_88 : decode cX7_tick 88 = .ok (.iinc 1 1, 3) := by decide +kernel
theorem dX7_tick_91 : decode cX7_tick 91 = .ok (.goto (-13), 3) := by decide +kernel
theorem dX7_tick_94 : decode cX7_tick 94 = .ok (.iconst 0, 1) := by decide +kernel
theorem dX7_tick_95 : decode cX7_tick 95 = .ok (.istore_n 1, 1) := by decide +kernel
theorem dX7_tick_96 : decode cX7_tick 96 = .ok (.iconst 0, 1) := by decide +kernel
theorem dX7_tick_97 : decode cX7_tick 97 = .ok (.istore_n 2, 1) := by decide +kernel
theorem dX7_tick_98 : decode cX7_tick 98 = .ok (.iload_n 2, 1) := by decide +kernel
theorem dX7_tick_99 : decode cX7_tick 99 = .ok (.aload_n 0, 1) := by decide +kernel
theorem dX7_tick_100 : decode cX7_tick 100 = .ok (.getfield 7, 3) := by decide +kernel
theorem dX7_tick_103 : decode cX7_tick 103 = .ok (.iconst 0, 1) := by decide +kernel
theorem dX7_tick_104 : decode cX7_tick 104 = .ok (.iaload, 1) := by decide +kernel
theorem dX7_tick_105 : decode cX7_tick 105 = .ok (.if_icmp .ge 48, 3) := by decide +kernel
theorem dX7_tick_108 : decode cX7_tick 108 = .ok (.aload_n 0, 1) := by decide +kernel
theorem dX7_tick_109 : decode cX7_tick 109 = .ok (.invokevirtual 75, 3) := by decide +kernel
theorem dX7_tick_112 : decode cX7_tick 112 = .ok (.istore_n 3, 1) := by decide +kernel
theorem dX7_tick_113 : decode cX7_tick 113 = .ok (.iload_n 3, 1) := by decide +kernel
theorem dX7_tick_114 : decode cX7_tick 114 = .ok (.ifCond .ge 17, 3) := by decide +kernel
theorem dX7_tick_117 : decode cX7_tick 117 = .ok (.aload_n 0, 1) := by decide +kernel
theorem dX7_tick_118 : decode cX7_tick 118 = .ok (.getfield 7, 3) := by decide +kernel
theorem dX7_tick_121 : decode cX7_tick 121 = .ok (.bipush 68, 2) := by decide +kernel
theorem dX7_tick_123 : decode cX7_tick 123 = .ok (.dup2, 1) := by decide +kernel
theorem dX7_tick_124 : decode cX7_tick 124 = .ok (.iaload, 1) := by decide +kernel
theorem dX7_tick_125 : decode cX7_tick 125 = .ok (.iconst 1, 1) := by decide +kernel
theorem dX7_tick_126 : decode cX7_tick 126 = .ok (.iadd, 1) := by decide +kernel
theorem dX7_tick_127 : decode cX7_tick 127 = .ok (.iastore, 1) := by decide +kernel
theorem dX7_tick_128 : decode cX7_tick 128 = .ok (.goto 19, 3) := by decide +kernel
theorem dX7_tick_131 : decode cX7_tick 131 = .ok (.iload_n 1, 1) := by decide +kernel
theorem dX7_tick_132 : decode cX7_tick 132 = .ok (.aload_n 0, 1) := by decide +kernel
theorem dX7_tick_133 : decode cX7_tick 133 = .ok (.iload_n 3, 1) := by decide +kernel
theorem dX7_tick_134 : decode cX7_tick 134 = .ok (.invokevirtual 79, 3) := by decide +kernel
theorem dX7_tick_137 : decode cX7_tick 137 = .ok (.ifCond .eq 7, 3) := by decide +kernel
theorem dX7_tick_140 : decode cX7_tick 140 = .ok (.iconst 1, 1) := by decide +kernel
theorem dX7_tick_141 : decode cX7_tick 141 = .ok (.goto 4, 3) := by decide +kernel
theorem dX7_tick_144 : decode cX7_tick 144 = .ok (.iconst 0, 1) := by decide +kernel
theorem dX7_tick_145 : decode cX7_tick 145 = .ok (.iadd, 1) := by decide +kernel
theorem dX7_tick_146 : decode cX7_tick 146 = .ok (.istore_n 1, 1) := by decide +kernel
theorem dX7_tick_147 : decode cX7_tick 147 = .ok (.iinc 2 1, 3) := by decide +kernel
theorem dX7_tick_150 : decode cX7_tick 150 = .ok (.goto (-52), 3) := by decide +kernel
theorem dX7_tick_153 : decode cX7_tick 153 = .ok (.aload_n 0, 1) := by decide +kernel
theorem dX7_tick_154 : decode cX7_tick 154 = .ok (.getfield 7, 3) := by decide +kernel
theorem dX7_tick_157 : decode cX7_tick 157 = .ok (.bipush 67, 2) := by decide +kernel
theorem dX7_tick_159 : decode cX7_tick 159 = .ok (.dup2, 1) := by decide +kernel
theorem dX7_tick_160 : decode cX7_tick 160 = .ok (.iaload, 1) := by decide +kernel
theorem dX7_tick_161 : decode cX7_tick 161 = .ok (.iconst 1, 1) := by decide +kernel
theorem dX7_tick_162 : decode cX7_tick 162 = .ok (.iadd, 1) := by decide +kernel
theorem dX7_tick_163 : decode cX7_tick 163 = .ok (.iastore, 1) := by decide +kernel
theorem dX7_tick_164 : decode cX7_tick 164 = .ok (.iload_n 1, 1) := by decide +kernel
theorem dX7_tick_165 : decode cX7_tick 165 = .ok (.ireturn, 1) := by decide +kernel
theorem dX7_lowest_0 : decode cX7_lowest 0 = .ok (.iload_n 0, 1) := by decide +kernel
theorem dX7_lowest_1 : decode cX7_lowest 1 = .ok (.iconst 3, 1) := by decide +kernel
theorem dX7_lowest_2 : decode cX7_lowest 2 = .ok (.if_icmp .ne 7, 3) := by decide +kernel
theorem dX7_lowest_5 : decode cX7_lowest 5 = .ok (.iconst 0, 1) := by decide +kernel
theorem dX7_lowest_6 : decode cX7_lowest 6 = .ok (.goto 4, 3) := by decide +kernel
theorem dX7_lowest_9 : decode cX7_lowest 9 = .ok (.iconst 1, 1) := by decide +kernel
theorem dX7_lowest_10 : decode cX7_lowest 10 = .ok (.ireturn, 1) := by decide +kernel
theorem dX7_highest_0 : decode cX7_highest 0 = .ok (.iload_n 0, 1) := by decide +kernel
theorem dX7_highest_1 : decode cX7_highest 1 = .ok (.iconst 1, 1) := by decide +kernel
theorem dX7_highest_2 : decode cX7_highest 2 = .ok (.if_icmp .ne 8, 3) := by decide +kernel
theorem dX7_highest_5 : decode cX7_highest 5 = .ok (.bipush 60, 2) := by decide +kernel
theorem dX7_highest_7 : decode cX7_highest 7 = .ok (.goto 14, 3) := by decide +kernel
theorem dX7_highest_10 : decode cX7_highest 10 = .ok (.iload_n 0, 1) := by decide +kernel
theorem dX7_highest_11 : decode cX7_highest 11 = .ok (.iconst 3, 1) := by decide +kernel
theorem dX7_highest_12 : decode cX7_highest 12 = .ok (.if_icmp .ne 7, 3) := by decide +kernel
theorem dX7_highest_15 : decode cX7_highest 15 = .ok (.iconst 4, 1) := by decide +kernel
theorem dX7_highest_16 : decode cX7_highest 16 = .ok (.goto 5, 3) := by decide +kernel
theorem dX7_highest_19 : decode cX7_highest 19 = .ok (.bipush 20, 2) := by decide +kernel
theorem dX7_highest_21 : decode cX7_highest 21 = .ok (.ireturn, 1) := by decide +kernel
set_option maxRecDepth 20000 in
theorem ggX7_set_X7_in : GoodIn wsX7_set wsX7_in := goodIn_r _ [7] (by decide +kernel) (by decide +kernel)
set_option maxRecDepth 20000 in
theorem gX7_set_X7_in : GoodIn wsX7_set (va_wsS RX7 22 yX7_in wsX7_in) := goodIn_app (goodIn_of _ (by decide +kernel)) ggX7_set_X7_in
set_option maxRecDepth 20000 in
theorem ggX7_set_X7_lowest : GoodIn wsX7_set wsX7_lowest := goodIn_r _ [10] (by decide +kernel) (by decide +kernel)
set_option maxRecDepth 20000 in
theorem gX7_set_X7_lowest : GoodIn wsX7_set (va_wsS RX7 84 yX7_lowest wsX7_lowest) := goodIn_app (goodIn_of _ (by decide +kernel)) ggX7_set_X7_lowest
set_option maxRecDepth 20000 in
theorem ggX7_set_X7_highest : GoodIn wsX7_set wsX7_highest := goodIn_r _ [13] (by decide +kernel) (by decide +kernel)
set_option maxRecDepth 20000 in
theorem gX7_set_X7_highest : GoodIn wsX7_set (va_wsS RX7 87 yX7_highest wsX7_highest) := goodIn_app (goodIn_of _ (by decide +kernel)) ggX7_set_X7_highest
set_option maxRecDepth 20000 in
theorem ggX7_set_X7_record : GoodIn wsX7_set wsX7_record := goodIn_r _ [17, 18, 19, 3, 20, 21, 22, 23, 24, 25, 26, 27, 28] (by decide +kernel) (by decide +kernel)
set_option maxRecDepth 20000 in
theorem gX7_set_X7_record : GoodIn wsX7_set (wsV RX7 91 RX7 yX7_record wsX7_record) := goodIn_app (goodIn_of _ (by decide +kernel)) ggX7_set_X7_record
theorem dX7_set_0 : decode cX7_set 0 = .ok (.iload_n 1, 1) := by decide +kernel
theorem dX7_set_1 : decode cX7_set 1 = .ok (.iconst 0, 1) := by decide +kernel
theorem dX7_set_2 : decode cX7_set 2 = .ok (.iconst 3, 1) := by decide +kernel
theorem dX7_set_3 : decode cX7_set 3 = .ok (.invokestatic 22, 3) := by decide +kernel
theorem dX7_set_6 : decode cX7_set 6 = .ok (.ifCond .ne 6, 3) := by decide +kernel
theorem dX7_set_9 : decode cX7_set 9 = .ok (.ldc 83, 2) := by decide +kernel
theorem dX7_set_11 : decode cX7_set 11 = .ok (.ireturn, 1) := by decide +kernel
theorem dX7_set_12 : decode cX7_set 12 = .ok (.iload_n 2, 1) := by decide +kernel
theorem dX7_set_13 : decode cX7_set 13 = .ok (.iload_n 1, 1) := by decide +kernel
theorem dX7_set_14 : decode cX7_set 14 = .ok (.invokestatic 84, 3) := by decide +kernel
theorem dX7_set_17 : decode cX7_set 17 = .ok (.iload_n 1, 1) := by decide +kernel
theorem dX7_set_18 : decode cX7_set 18 = .ok (.invokestatic 87, 3) := by decide +kernel
theorem dX7_set_21 : decode cX7_set 21 = .ok (.invokestatic 22, 3) := by decide +kernel
theorem dX7_set_24 : decode cX7_set 24 = .ok (.ifCond .ne 6, 3) := by decide +kernel
theorem dX7_set_27 : decode cX7_set 27 = .ok (.ldc 90, 2) := by decide +kernel
theorem dX7_set_29 : decode cX7_set 29 = .ok (.ireturn, 1) := by decide +kernel
theorem dX7_set_30 : decode cX7_set 30 = .ok (.aload_n 0, 1) := by decide +kernel
theorem dX7_set_31 : decode cX7_set 31 = .ok (.invokevirtual 91, 3) := by decide +kernel
theorem dX7_set_34 : decode cX7_set 34 = .ok (.aload_n 0, 1) := by decide +kernel
theorem dX7_set_35 : decode cX7_set 35 = .ok (.getfield 7, 3) := by decide +kernel
theorem dX7_set_38 : decode cX7_set 38 = .ok (.iconst 0, 1) := by decide +kernel
theorem dX7_set_39 : decode cX7_set 39 = .ok (.iload_n 1, 1) := by decide +kernel
theorem dX7_set_40 : decode cX7_set 40 = .ok (.iadd, 1) := by decide +kernel
theorem dX7_set_41 : decode cX7_set 41 = .ok (.iaload, 1) := by decide +kernel
theorem dX7_set_42 : decode cX7_set 42 = .ok (.istore_n 3, 1) := by decide +kernel
theorem dX7_set_43 : decode cX7_set 43 = .ok (.aload_n 0, 1) := by decide +kernel
theorem dX7_set_44 : decode cX7_set 44 = .ok (.getfield 7, 3) := by decide +kernel
theorem dX7_set_47 : decode cX7_set 47 = .ok (.iconst 0, 1) := by decide +kernel
theorem dX7_set_48 : decode cX7_set 48 = .ok (.iload_n 1, 1) := by decide +kernel
theorem dX7_set_49 : decode cX7_set 49 = .ok (.iadd, 1) := by decide +kernel
theorem dX7_set_50 : decode cX7_set 50 = .ok (.iload_n 2, 1) := by decide +kernel
theorem dX7_set_51 : decode cX7_set 51 = .ok (.iastore, 1) := by decide +kernel
theorem dX7_set_52 : decode cX7_set 52 = .ok (.iload_n 3, 1) := by decide +kernel
theorem dX7_set_53 : decode cX7_set 53 = .ok (.ireturn, 1) := by decide +kernel
theorem dX7_highestOfClass_0 : decode cX7_highestOfClass 0 = .ok (.iload_n 0, 1) := by decide +kernel
theorem dX7_highestOfClass_1 : decode cX7_highestOfClass 1 = .ok (.ifCond .ne 8, 3) := by decide +kernel
theorem dX7_highestOfClass_4 : decode cX7_highestOfClass 4 = .ok (.bipush 9, 2) := by decide +kernel
theorem dX7_highestOfClass_6 : decode cX7_highestOfClass 6 = .ok (.goto 15, 3) := by decide +kernel
theorem dX7_highestOfClass_9 : decode cX7_highestOfClass 9 = .ok (.iload_n 0, 1) := by decide +kernel
theorem dX7_highestOfClass_10 : decode cX7_highestOfClass 10 = .ok (.iconst 1, 1) := by decide +kernel
theorem dX7_highestOfClass_11 : decode cX7_highestOfClass 11 = .ok (.if_icmp .ne 8, 3) := by decide +kernel
theorem dX7_highestOfClass_14 : decode cX7_highestOfClass 14 = .ok (.bipush 20, 2) := by decide +kernel
theorem dX7_highestOfClass_16 : decode cX7_highestOfClass 16 = .ok (.goto 5, 3) := by decide +kernel
theorem dX7_highestOfClass_19 : decode cX7_highestOfClass 19 = .ok (.bipush 99, 2) := by decide +kernel
theorem dX7_highestOfClass_21 : decode cX7_highestOfClass 21 = .ok (.ireturn, 1) := by decide +kernel
set_option maxRecDepth 20000 in
theorem ggX7_setClass_X7_isClass : GoodIn wsX7_setClass wsX7_isClass := goodIn_r _ [7, 8, 9, 6, 10] (by decide +kernel) (by decide +kernel)
set_option maxRecDepth 20000 in
theorem gX7_setClass_X7_isClass : GoodIn wsX7_setClass (va_wsS RX7 94 yX7_isClass wsX7_isClass) := goodIn_app (goodIn_of _ (by decide +kernel)) ggX7_setClass_X7_isClass
set_option maxRecDepth 20000 in
theorem ggX7_setClass_X7_in : GoodIn wsX7_setClass wsX7_in := goodIn_r _ [10] (by decide +kernel) (by decide +kernel)
set_option maxRecDepth 20000 in
theorem gX7_setClass_X7_in : GoodIn wsX7_setClass (va_wsS RX7 22 yX7_in wsX7_in) := goodIn_app (goodIn_of _ (by decide +kernel)) ggX7_setClass_X7_in
set_option maxRecDepth 20000 in
theorem ggX7_setClass_X7_highestOfClass : GoodIn wsX7_setClass wsX7_highestOfClass := goodIn_r _ [13] (by decide +kernel) (by decide +kernel)
set_option maxRecDepth 20000 in
theorem gX7_setClass_X7_highestOfClass : GoodIn wsX7_setClass (va_wsS RX7 97 yX7_highestOfClass wsX7_highestOfClass) := goodIn_app (goodIn_of _ (by decide +kernel)) ggX7_setClass_X7_highestOfClass
set_option maxRecDepth 20000 in
theorem ggX7_setClass_X7_record : GoodIn wsX7_setClass wsX7_record := goodIn_r _ [17, 18, 19, 3, 24, 25, 26, 27, 28, 29, 30, 31, 32] (by decide +kernel) (by decide +kernel)
set_option maxRecDepth 20000 in
theorem gX7_setClass_X7_record : GoodIn wsX7_setClass (wsV RX7 91 RX7 yX7_record wsX7_record) := goodIn_app (goodIn_of _ (by decide +kernel)) ggX7_setClass_X7_record
set_option maxRecDepth 20000 in
theorem ggX7_setClass_X7_ofClass : GoodIn wsX7_setClass wsX7_ofClass := goodIn_r _ [23, 3, 24, 25, 26, 27, 28, 29, 30, 31, 32] (by decide +kernel) (by decide +kernel)
set_option maxRecDepth 20000 in
theorem gX7_setClass_X7_ofClass : GoodIn wsX7_setClass (wsV RX7 38 RX7 yX7_ofClass wsX7_ofClass) := goodIn_app (goodIn_of _ (by decide +kernel)) ggX7_setClass_X7_ofClass
theorem dX7_setClass_0 : decode cX7_setClass 0 = .ok (.iload_n 1, 1) := by decide +kernel
theorem dX7_setClass_1 : decode cX7_setClass 1 = .ok (.invokestatic 94, 3) := by decide +kernel
theorem dX7_setClass_4 : decode cX7_setClass 4 = .ok (.ifCond .eq 12, 3) := by decide +kernel
theorem dX7_setClass_7 : decode cX7_setClass 7 = .ok (.iload_n 2, 1) := by decide +kernel
theorem dX7_setClass_8 : decode cX7_setClass 8 = .ok (.iconst 0, 1) := by decide +kernel
theorem dX7_setClass_9 : decode cX7_setClass 9 = .ok (.iconst 3, 1) := by decide +kernel
theorem dX7_setClass_10 : decode cX7_setClass 10 = .ok (.invokestatic 22, 3) := by decide +kernel
theorem dX7_setClass_13 : decode cX7_setClass 13 = .ok (.ifCond .ne 6, 3) := by decide +kernel
theorem dX7_setClass_16 : decode cX7_setClass 16 = .ok (.ldc 83, 2) := by decide +kernel
theorem dX7_setClass_18 : decode cX7_setClass 18 = .ok (.ireturn, 1) := by decide +kernel
theorem dX7_setClass_19 : decode cX7_setClass 19 = .ok (.iload_n 3, 1) := by decide +kernel
theorem dX7_setClass_20 : decode cX7_setClass 20 = .ok (.iload_n 2, 1) := by decide +kernel
theorem dX7_setClass_21 : decode cX7_setClass 21 = .ok (.iconst 1, 1) := by decide +kernel
theorem dX7_setClass_22 : decode cX7_setClass 22 = .ok (.if_icmp .ne 7, 3) := by decide +kernel
theorem dX7_setClass_25 : decode cX7_setClass 25 = .ok (.iconst 0, 1) := by decide +kernel
theorem dX7_setClass_26 : decode cX7_setClass 26 = .ok (.goto 4, 3) := by decide +kernel
theorem dX7_setClass_29 : decode cX7_setClass 29 = .ok (.iconst 1, 1) := by decide +kernel
theorem dX7_setClass_30 : decode cX7_setClass 30 = .ok (.iload_n 2, 1) := by decide +kernel
theorem dX7_setClass_31 : decode cX7_setClass 31 = .ok (.invokestatic 97, 3) := by decide +kernel
theorem dX7_setClass_34 : decode cX7_setClass 34 = .ok (.invokestatic 22, 3) := by decide +kernel
theorem dX7_setClass_37 : decode cX7_setClass 37 = .ok (.ifCond .ne 6, 3) := by decide +kernel
theorem dX7_setClass_40 : decode cX7_setClass 40 = .ok (.ldc 90, 2) := by decide +kernel
theorem dX7_setClass_42 : decode cX7_setClass 42 = .ok (.ireturn, 1) := by decide +kernel
theorem dX7_setClass_43 : decode cX7_setClass 43 = .ok (.aload_n 0, 1) := by decide +kernel
theorem dX7_setClass_44 : decode cX7_setClass 44 = .ok (.invokevirtual 91, 3) := by decide +kernel
theorem dX7_setClass_47 : decode cX7_setClass 47 = .ok (.aload_n 0, 1) := by decide +kernel
theorem dX7_setClass_48 : decode cX7_setClass 48 = .ok (.iload_n 1, 1) := by decide +kernel
theorem dX7_setClass_49 : decode cX7_setClass 49 = .ok (.iload_n 2, 1) := by decide +kernel
theorem dX7_setClass_50 : decode cX7_setClass 50 = .ok (.invokevirtual 38, 3) := by decide +kernel
theorem dX7_setClass_53 : decode cX7_setClass 53 = .ok (.istore 4, 2) := by decide +kernel
theorem dX7_setClass_55 : decode cX7_setClass 55 = .ok (.aload_n 0, 1) := by decide +kernel
theorem dX7_setClass_56 : decode cX7_setClass 56 = .ok (.getfield 7, 3) := by decide +kernel
theorem dX7_setClass_59 : decode cX7_setClass 59 = .ok (.iconst 4, 1) := by decide +kernel
theorem dX7_setClass_60 : decode cX7_setClass 60 = .ok (.iconst 4, 1) := by decide +kernel
theorem dX7_setClass_61 : decode cX7_setClass 61 = .ok (.iload_n 1, 1) := by decide +kernel
theorem dX7_setClass_62 : decode cX7_setClass 62 = .ok (.imul, 1) := by decide +kernel
theorem dX7_setClass_63 : decode cX7_setClass 63 = .ok (.iadd, 1) := by decide +kernel
theorem dX7_setClass_64 : decode cX7_setClass 64 = .ok (.iload_n 2, 1) := by decide +kernel
theorem dX7_setClass_65 : decode cX7_setClass 65 = .ok (.iadd, 1) := by decide +kernel
theorem dX7_setClass_66 : decode cX7_setClass 66 = .ok (.iload_n 3, 1) := by decide +kernel
theorem dX7_setClass_67 : decode cX7_setClass 67 = .ok (.iastore, 1) := by decide +kernel
theorem dX7_setClass_68 : decode cX7_setClass 68 = .ok (.iload 4, 2) := by decide +kernel
theorem dX7_setClass_70 : decode cX7_setClass 70 = .ok (.ireturn, 1) := by decide +kernel
set_option maxRecDepth 20000 in
theorem ggX7_noOffer_X7_isClass : GoodIn wsX7_noOffer wsX7_isClass := goodIn_r _ [8, 9, 10, 7, 11] (by decide +kernel) (by decide +kernel)
set_option maxRecDepth 20000 in
theorem gX7_noOffer_X7_isClass : GoodIn wsX7_noOffer (va_wsS RX7 94 yX7_isClass wsX7_isClass) := goodIn_app (goodIn_of _ (by decide +kernel)) ggX7_noOffer_X7_isClass
set_option maxRecDepth 20000 in
theorem ggX7_noOffer_X7_isShape : GoodIn wsX7_noOffer wsX7_isShape := goodIn_r _ [14, 9, 10, 7, 11] (by decide +kernel) (by decide +kernel)
set_option maxRecDepth 20000 in
theorem gX7_noOffer_X7_isShape : GoodIn wsX7_noOffer (va_wsS RX7 100 yX7_isShape wsX7_isShape) := goodIn_app (goodIn_of _ (by decide +kernel)) ggX7_noOffer_X7_isShape
set_option maxRecDepth 20000 in
theorem ggX7_noOffer_X7_in : GoodIn wsX7_noOffer wsX7_in := goodIn_r _ [11] (by decide +kernel) (by decide +kernel)
set_option maxRecDepth 20000 in
theorem gX7_noOffer_X7_in : GoodIn wsX7_noOffer (va_wsS RX7 22 yX7_in wsX7_in) := goodIn_app (goodIn_of _ (by decide +kernel)) ggX7_noOffer_X7_in
theorem dX7_noOffer_0 : decode cX7_noOffer 0 = .ok (.iload_n 1, 1) := by decide +kernel
theorem dX7_noOffer_1 : decode cX7_noOffer 1 = .ok (.invokestatic 94, 3) := by decide +kernel
theorem dX7_noOffer_4 : decode cX7_noOffer 4 = .ok (.ifCond .eq 10, 3) := by decide +kernel
theorem dX7_noOffer_7 : decode cX7_noOffer 7 = .ok (.iload_n 2, 1) := by decide +kernel
theorem dX7_noOffer_8 : decode cX7_noOffer 8 = .ok (.invokestatic 100, 3) := by decide +kernel
theorem dX7_noOffer_11 : decode cX7_noOffer 11 = .ok (.ifCond .ne 6, 3) := by decide +kernel
theorem dX7_noOffer_14 : decode cX7_noOffer 14 = .ok (.ldc 83, 2) := by decide +kernel
theorem dX7_noOffer_16 : decode cX7_noOffer 16 = .ok (.ireturn, 1) := by decide +kernel
theorem dX7_noOffer_17 : decode cX7_noOffer 17 = .ok (.iload_n 3, 1) := by decide +kernel
theorem dX7_noOffer_18 : decode cX7_noOffer 18 = .ok (.iconst 1, 1) := by decide +kernel
theorem dX7_noOffer_19 : decode cX7_noOffer 19 = .ok (.bipush 60, 2) := by decide +kernel
theorem dX7_noOffer_21 : decode cX7_noOffer 21 = .ok (.invokestatic 22, 3) := by decide +kernel
theorem dX7_noOffer_24 : decode cX7_noOffer 24 = .ok (.ifCond .ne 6, 3) := by decide +kernel
theorem dX7_noOffer_27 : decode cX7_noOffer 27 = .ok (.ldc 90, 2) := by decide +kernel
theorem dX7_noOffer_29 : decode cX7_noOffer 29 = .ok (.ireturn, 1) := by decide +kernel
theorem dX7_noOffer_30 : decode cX7_noOffer 30 = .ok (.aload_n 0, 1) := by decide +kernel
theorem dX7_noOffer_31 : decode cX7_noOffer 31 = .ok (.getfield 7, 3) := by decide +kernel
theorem dX7_noOffer_34 : decode cX7_noOffer 34 = .ok (.bipush 69, 2) := by decide +kernel
theorem dX7_noOffer_36 : decode cX7_noOffer 36 = .ok (.iaload, 1) := by decide +kernel
theorem dX7_noOffer_37 : decode cX7_noOffer 37 = .ok (.bipush 32, 2) := by decide +kernel
theorem dX7_noOffer_39 : decode cX7_noOffer 39 = .ok (.if_icmp .ne 8, 3) := by decide +kernel
theorem dX7_noOffer_42 : decode cX7_noOffer 42 = .ok (.ldc 103, 2) := by decide +kernel
theorem dX7_noOffer_44 : decode cX7_noOffer 44 = .ok (.goto 4, 3) := by decide +kernel
theorem dX7_noOffer_47 : decode cX7_noOffer 47 = .ok (.iconst 0, 1) := by decide +kernel
theorem dX7_noOffer_48 : decode cX7_noOffer 48 = .ok (.ireturn, 1) := by decide +kernel
set_option maxRecDepth 20000 in
theorem ggX7_doOffer_X7_put : GoodIn wsX7_doOffer wsX7_put := goodIn_r _ [6, 1, 44, 45, 46, 47, 48, 49, 50, 51, 52] (by decide +kernel) (by decide +kernel)
set_option maxRecDepth 20000 in
theorem gX7_doOffer_X7_put : GoodIn wsX7_doOffer (wsV RX7 45 RX7 yX7_put wsX7_put) := goodIn_app (goodIn_of _ (by decide +kernel)) ggX7_doOffer_X7_put
set_option maxRecDepth 20000 in
theorem ggX7_doOffer_X7_offerNow : GoodIn wsX7_doOffer wsX7_offerNow := goodIn_r _ [10, 11, 12, 13, 5, 14, 1, 2, 3, 4, 6, 15, 16, 17, 18, 19, 20, 21, 22, 23, 24, 25, 26, 27, 28, 29, 30, 31, 32, 33, 34, 35, 36, 37, 38, 39, 40, 41, 42, 43, 44, 45, 46, 47, 48, 49, 50, 51, 52] (by decide +kernel) (by decide +kernel)
set_option maxRecDepth 20000 in
theorem gX7_doOffer_X7_offerNow : GoodIn wsX7_doOffer (wsV RX7 69 RX7 yX7_offerNow wsX7_offerNow) := goodIn_app (goodIn_of _ (by decide +kernel)) ggX7_doOffer_X7_offerNow
theorem dX7_doOffer_0 : decode cX7_doOffer 0 = .ok (.aload_n 0, 1) := by decide +kernel
theorem dX7_doOffer_1 : decode cX7_doOffer 1 = .ok (.getfield 7, 3) := by decide +kernel
theorem dX7_doOffer_4 : decode cX7_doOffer 4 = .ok (.bipush 69, 2) := by decide +kernel
theorem dX7_doOffer_6 : decode cX7_doOffer 6 = .ok (.iaload, 1) := by decide +kernel
theorem dX7_doOffer_7 : decode cX7_doOffer 7 = .ok (.istore 4, 2) := by decide +kernel
theorem dX7_doOffer_9 : decode cX7_doOffer 9 = .ok (.aload_n 0, 1) := by decide +kernel
theorem dX7_doOffer_10 : decode cX7_doOffer 10 = .ok (.getfield 7, 3) := by decide +kernel
theorem dX7_doOffer_13 : decode cX7_doOffer 13 = .ok (.bipush 69, 2) := by decide +kernel
theorem dX7_doOffer_15 : decode cX7_doOffer 15 = .ok (.dup2, 1) := by decide +kernel
theorem dX7_doOffer_16 : decode cX7_doOffer 16 = .ok (.iaload, 1) := by decide +kernel
theorem dX7_doOffer_17 : decode cX7_doOffer 17 = .ok (.iconst 1, 1) := by decide +kernel
theorem dX7_doOffer_18 : decode cX7_doOffer 18 = .ok (.iadd, 1) := by decide +kernel
theorem dX7_doOffer_19 : decode cX7_doOffer 19 = .ok (.iastore, 1) := by decide +kernel
theorem dX7_doOffer_20 : decode cX7_doOffer 20 = .ok (.aload_n 0, 1) := by decide +kernel
theorem dX7_doOffer_21 : decode cX7_doOffer 21 = .ok (.iload 4, 2) := by decide +kernel
theorem dX7_doOffer_23 : decode cX7_doOffer 23 = .ok (.iconst 0, 1) := by decide +kernel
theorem dX7_doOffer_24 : decode cX7_doOffer 24 = .ok (.iload_n 1, 1) := by decide +kernel
theorem dX7_doOffer_25 : decode cX7_doOffer 25 = .ok (.invokevirtual 45, 3) := by decide +kernel
theorem dX7_doOffer_28 : decode cX7_doOffer 28 = .ok (.aload_n 0, 1) := by decide +kernel
theorem dX7_doOffer_29 : decode cX7_doOffer 29 = .ok (.iload 4, 2) := by decide +kernel
theorem dX7_doOffer_31 : decode cX7_doOffer 31 = .ok (.iconst 1, 1) := by decide +kernel
theorem dX7_doOffer_32 : decode cX7_doOffer 32 = .ok (.iload_n 2, 1) := by decide +kernel
theorem dX7_doOffer_33 : decode cX7_doOffer 33 = .ok (.invokevirtual 45, 3) := by decide +kernel
theorem dX7_doOffer_36 : decode cX7_doOffer 36 = .ok (.aload_n 0, 1) := by decide +kernel
theorem dX7_doOffer_37 : decode cX7_doOffer 37 = .ok (.iload 4, 2) := by decide +kernel
theorem dX7_doOffer_39 : decode cX7_doOffer 39 = .ok (.iconst 2, 1) := by decide +kernel
theorem dX7_doOffer_40 : decode cX7_doOffer 40 = .ok (.iload_n 3, 1) := by decide +kernel
theorem dX7_doOffer_41 : decode cX7_doOffer 41 = .ok (.invokevirtual 45, 3) := by decide +kernel
theorem dX7_doOffer_44 : decode cX7_doOffer 44 = .ok (.aload_n 0, 1) := by decide +kernel
theorem dX7_doOffer_45 : decode cX7_doOffer 45 = .ok (.iload 4, 2) := by decide +kernel
theorem dX7_doOffer_47 : decode cX7_doOffer 47 = .ok (.iconst 5, 1) := by decide +kernel
theorem dX7_doOffer_48 : decode cX7_doOffer 48 = .ok (.iconst 0, 1) := by decide +kernel
theorem dX7_doOffer_49 : decode cX7_doOffer 49 = .ok (.invokevirtual 45, 3) := by decide +kernel
theorem dX7_doOffer_52 : decode cX7_doOffer 52 = .ok (.aload_n 0, 1) := by decide +kernel
theorem dX7_doOffer_53 : decode cX7_doOffer 53 = .ok (.iload 4, 2) := by decide +kernel
theorem dX7_doOffer_55 : decode cX7_doOffer 55 = .ok (.bipush 6, 2) := by decide +kernel
theorem dX7_doOffer_57 : decode cX7_doOffer 57 = .ok (.iconst 0, 1) := by decide +kernel
theorem dX7_doOffer_58 : decode cX7_doOffer 58 = .ok (.invokevirtual 45, 3) := by decide +kernel
theorem dX7_doOffer_61 : decode cX7_doOffer 61 = .ok (.aload_n 0, 1) := by decide +kernel
theorem dX7_doOffer_62 : decode cX7_doOffer 62 = .ok (.iload 4, 2) := by decide +kernel
theorem dX7_doOffer_64 : decode cX7_doOffer 64 = .ok (.bipush 7, 2) := by decide +kernel
theorem dX7_doOffer_66 : decode cX7_doOffer 66 = .ok (.iconst 0, 1) := by decide +kernel
theorem dX7_doOffer_67 : decode cX7_doOffer 67 = .ok (.invokevirtual 45, 3) := by decide +kernel
theorem dX7_doOffer_70 : decode cX7_doOffer 70 = .ok (.aload_n 0, 1) := by decide +kernel
theorem dX7_doOffer_71 : decode cX7_doOffer 71 = .ok (.iload 4, 2) := by decide +kernel
theorem dX7_doOffer_73 : decode cX7_doOffer 73 = .ok (.invokevirtual 69, 3) := by decide +kernel
theorem dX7_doOffer_76 : decode cX7_doOffer 76 = .ok (.ireturn, 1) := by decide +kernel
set_option maxRecDepth 20000 in
theorem ggX7_offer_X7_noOffer : GoodIn wsX7_offer wsX7_noOffer := goodIn_r _ [5, 6, 7, 8, 9, 10, 11, 4, 12, 13, 14, 15, 16, 17, 18, 70, 71, 72, 73, 74, 75, 76, 77, 78] (by decide +kernel) (by decide +kernel)
set_option maxRecDepth 20000 in
theorem gX7_offer_X7_noOffer : GoodIn wsX7_offer (wsV RX7 104 RX7 yX7_noOffer wsX7_noOffer) := goodIn_app (goodIn_of _ (by decide +kernel)) ggX7_offer_X7_noOffer
set_option maxRecDepth 20000 in
theorem ggX7_offer_X7_record : GoodIn wsX7_offer wsX7_record := goodIn_r _ [22, 23, 24, 8, 70, 71, 72, 73, 74, 75, 76, 77, 78] (by decide +kernel) (by decide +kernel)
set_option maxRecDepth 20000 in
theorem gX7_offer_X7_record : GoodIn wsX7_offer (wsV RX7 91 RX7 yX7_record wsX7_record) := goodIn_app (goodIn_of _ (by decide +kernel)) ggX7_offer_X7_record
set_option maxRecDepth 20000 in
theorem ggX7_offer_X7_doOffer : GoodIn wsX7_offer wsX7_doOffer := goodIn_r _ [28, 8, 29, 30, 31, 4, 32, 33, 34, 35, 36, 37, 38, 39, 40, 41, 42, 43, 44, 45, 46, 47, 48, 49, 50, 51, 52, 53, 54, 55, 56, 57, 58, 59, 60, 61, 62, 63, 64, 65, 66, 67, 68, 69, 70, 71, 72, 73, 74, 75, 76, 77, 78] (by decide +kernel) (by decide +kernel)
set_option maxRecDepth 20000 in
theorem gX7_offer_X7_doOffer : GoodIn wsX7_offer (wsV RX7 108 RX7 yX7_doOffer wsX7_doOffer) := goodIn_app (goodIn_of _ (by decide +kernel)) ggX7_offer_X7_doOffer
theorem dX7_offer_0 : decode cX7_offer 0 = .ok (.aload_n 0, 1) := by decide +kernel
theorem dX7_offer_1 : decode cX7_offer 1 = .ok (.iload_n 1, 1) := by decide +kernel
theorem dX7_offer_2 : decode cX7_offer 2 = .ok (.iload_n 2, 1) := by decide +kernel
theorem dX7_offer_3 : decode cX7_offer 3 = .ok (.iload_n 3, 1) := by decide +kernel
theorem dX7_offer_4 : decode cX7_offer 4 = .ok (.invokevirtual 104, 3) := by decide +kernel
theorem dX7_offer_7 : decode cX7_offer 7 = .ok (.istore 4, 2) := by decide +kernel
theorem dX7_offer_9 : decode cX7_offer 9 = .ok (.iload 4, 2) := by decide +kernel
theorem dX7_offer_11 : decode cX7_offer 11 = .ok (.ifCond .ge 6, 3) := by decide +kernel
theorem dX7_offer_14 : decode cX7_offer 14 = .ok (.iload 4, 2) := by decide +kernel
theorem dX7_offer_16 : decode cX7_offer 16 = .ok (.ireturn, 1) := by decide +kernel
theorem dX7_offer_17 : decode cX7_offer 17 = .ok (.aload_n 0, 1) := by decide +kernel
theorem dX7_offer_18 : decode cX7_offer 18 = .ok (.invokevirtual 91, 3) := by decide +kernel
theorem dX7_offer_21 : decode cX7_offer 21 = .ok (.aload_n 0, 1) := by decide +kernel
theorem dX7_offer_22 : decode cX7_offer 22 = .ok (.iload_n 1, 1) := by decide +kernel
theorem dX7_offer_23 : decode cX7_offer 23 = .ok (.iload_n 2, 1) := by decide +kernel
theorem dX7_offer_24 : decode cX7_offer 24 = .ok (.iload_n 3, 1) := by decide +kernel
theorem dX7_offer_25 : decode cX7_offer 25 = .ok (.invokevirtual 108, 3) := by decide +kernel
theorem dX7_offer_28 : decode cX7_offer 28 = .ok (.ireturn, 1) := by decide +kernel
set_option maxRecDepth 20000 in
theorem ggX7_noAdvance_X7_in : GoodIn wsX7_noAdvance wsX7_in := goodIn_r _ [7] (by decide +kernel) (by decide +kernel)
set_option maxRecDepth 20000 in
theorem gX7_noAdvance_X7_in : GoodIn wsX7_noAdvance (va_wsS RX7 22 yX7_in wsX7_in) := goodIn_app (goodIn_of _ (by decide +kernel)) ggX7_noAdvance_X7_in
theorem dX7_noAdvance_0 : decode cX7_noAdvance 0 = .ok (.iload_n 1, 1) := by decide +kernel
theorem dX7_noAdvance_1 : decode cX7_noAdvance 1 = .ok (.iconst 1, 1) := by decide +kernel
theorem dX7_noAdvance_2 : decode cX7_noAdvance 2 = .ok (.bipush 99, 2) := by decide +kernel
theorem dX7_noAdvance_4 : decode cX7_noAdvance 4 = .ok (.invokestatic 22, 3) := by decide +kernel
theorem dX7_noAdvance_7 : decode cX7_noAdvance 7 = .ok (.ifCond .ne 8, 3) := by decide +kernel
theorem dX7_noAdvance_10 : decode cX7_noAdvance 10 = .ok (.ldc 90, 2) := by decide +kernel
theorem dX7_noAdvance_12 : decode cX7_noAdvance 12 = .ok (.goto 24, 3) := by decide +kernel
theorem dX7_noAdvance_15 : decode cX7_noAdvance 15 = .ok (.aload_n 0, 1) := by decide +kernel
theorem dX7_noAdvance_16 : decode cX7_noAdvance 16 = .ok (.getfield 7, 3) := by decide +kernel
theorem dX7_noAdvance_19 : decode cX7_noAdvance 19 = .ok (.bipush 67, 2) := by decide +kernel
theorem dX7_noAdvance_21 : decode cX7_noAdvance 21 = .ok (.iaload, 1) := by decide +kernel
theorem dX7_noAdvance_22 : decode cX7_noAdvance 22 = .ok (.iload_n 1, 1) := by decide +kernel
theorem dX7_noAdvance_23 : decode cX7_noAdvance 23 = .ok (.iadd, 1) := by decide +kernel
theorem dX7_noAdvance_24 : decode cX7_noAdvance 24 = .ok (.sipush 999, 3) := by decide +kernel
theorem dX7_noAdvance_27 : decode cX7_noAdvance 27 = .ok (.if_icmp .le 8, 3) := by decide +kernel
theorem dX7_noAdvance_30 : decode cX7_noAdvance 30 = .ok (.ldc 103, 2) := by decide +kernel
theorem dX7_noAdvance_32 : decode cX7_noAdvance 32 = .ok (.goto 4, 3) := by decide +kernel
theorem dX7_noAdvance_35 : decode cX7_noAdvance 35 = .ok (.iconst 0, 1) := by decide +kernel
theorem dX7_noAdvance_36 : decode cX7_noAdvance 36 = .ok (.ireturn, 1) := by decide +kernel
set_option maxRecDepth 20000 in
theorem ggX7_doAdvance_X7_tick : GoodIn wsX7_doAdvance wsX7_tick := goodIn_r _ [5, 6, 7, 8, 9, 4, 10, 11, 12, 13, 14, 15, 16, 17, 18, 19, 20, 21, 22, 23, 24, 25, 26, 27, 28, 29, 30, 31, 32, 33, 34, 35, 36, 37, 38, 39, 40, 41, 42, 43, 44, 45, 46, 47, 48, 49, 50, 51, 52, 53, 54, 55, 56, 57, 58, 59, 60, 61, 62, 63, 64, 65, 66, 67, 68, 69, 70, 71, 72, 73, 74, 75, 76] (by decide +kernel) (by decide +kernel)
set_option maxRecDepth 20000 in
theorem gX7_doAdvance_X7_tick : GoodIn wsX7_doAdvance (wsV RX7 111 RX7 yX7_tick wsX7_tick) := goodIn_app (goodIn_of _ (by decide +kernel)) ggX7_doAdvance_X7_tick
theorem dX7_doAdvance_0 : decode cX7_doAdvance 0 = .ok (.iconst 0, 1) := by decide +kernel
theorem dX7_doAdvance_1 : decode cX7_doAdvance 1 = .ok (.istore_n 2, 1) := by decide +kernel
theorem dX7_doAdvance_2 : decode cX7_doAdvance 2 = .ok (.iconst 0, 1) := by decide +kernel
theorem dX7_doAdvance_3 : decode cX7_doAdvance 3 = .ok (.istore_n 3, 1) := by decide +kernel
theorem dX7_doAdvance_4 : decode cX7_doAdvance 4 = .ok (.iload_n 3, 1) := by decide +kernel
theorem dX7_doAdvance_5 : decode cX7_doAdvance 5 = .ok (.iload_n 1, 1) := by decide +kernel
theorem dX7_doAdvance_6 : decode cX7_doAdvance 6 = .ok (.if_icmp .ge 16, 3) := by decide +kernel
theorem dX7_doAdvance_9 : decode cX7_doAdvance 9 = .ok (.iload_n 2, 1) := by decide +kernel
theorem dX7_doAdvance_10 : decode cX7_doAdvance 10 = .ok (.aload_n 0, 1) := by decide +kernel
theorem dX7_doAdvance_11 : decode cX7_doAdvance 11 = .ok (.invokevirtual 111, 3) := by decide +kernel
theorem dX7_doAdvance_14 : decode cX7_doAdvance 14 = .ok (.iadd, 1) := by decide +kernel
theorem dX7_doAdvance_15 : decode cX7_doAdvance 15 = .ok (.istore_n 2, 1) := by decide +kernel
theorem dX7_doAdvance_16 : decode cX7_doAdvance 16 = .ok (.iinc 3 1, 3) := by decide +kernel
theorem dX7_doAdvance_19 : decode cX7_doAdvance 19 = .ok (.goto (-15), 3) := by decide +kernel
theorem dX7_doAdvance_22 : decode cX7_doAdvance 22 = .ok (.iload_n 2, 1) := by decide +kernel
theorem dX7_doAdvance_23 : decode cX7_doAdvance 23 = .ok (.ireturn, 1) := by decide +kernel
set_option maxRecDepth 20000 in
theorem ggX7_advance_X7_noAdvance : GoodIn wsX7_advance wsX7_noAdvance := goodIn_r _ [5, 6, 7, 8, 9, 10, 4, 11, 87, 88, 89, 90, 91, 92, 93, 94, 95] (by decide +kernel) (by decide +kernel)
set_option maxRecDepth 20000 in
theorem gX7_advance_X7_noAdvance : GoodIn wsX7_advance (wsV RX7 114 RX7 yX7_noAdvance wsX7_noAdvance) := goodIn_app (goodIn_of _ (by decide +kernel)) ggX7_advance_X7_noAdvance
set_option maxRecDepth 20000 in
theorem ggX7_advance_X7_record : GoodIn wsX7_advance wsX7_record := goodIn_r _ [15, 16, 17, 7, 87, 88, 89, 90, 91, 92, 93, 94, 95] (by decide +kernel) (by decide +kernel)
set_option maxRecDepth 20000 in
theorem gX7_advance_X7_record : GoodIn wsX7_advance (wsV RX7 91 RX7 yX7_record wsX7_record) := goodIn_app (goodIn_of _ (by decide +kernel)) ggX7_advance_X7_record
set_option maxRecDepth 20000 in
theorem ggX7_advance_X7_doAdvance : GoodIn wsX7_advance wsX7_doAdvance := goodIn_r _ [21, 22, 23, 24, 4, 25, 7, 26, 27, 28, 29, 30, 31, 32, 33, 34, 35, 36, 37, 38, 39, 40, 41, 42, 43, 44, 45, 46, 47, 48, 49, 50, 51, 52, 53, 54, 55, 56, 57, 58, 59, 60, 61, 62, 63, 64, 65, 66, 67, 68, 69, 70, 71, 72, 73, 74, 75, 76, 77, 78, 79, 80, 81, 82, 83, 84, 85, 86, 87, 88, 89, 90, 91, 92, 93, 94, 95] (by decide +kernel) (by decide +kernel)
set_option maxRecDepth 20000 in
theorem gX7_advance_X7_doAdvance : GoodIn wsX7_advance (wsV RX7 117 RX7 yX7_doAdvance wsX7_doAdvance) := goodIn_app (goodIn_of _ (by decide +kernel)) ggX7_advance_X7_doAdvance
theorem dX7_advance_0 : decode cX7_advance 0 = .ok (.aload_n 0, 1) := by decide +kernel
theorem dX7_advance_1 : decode cX7_advance 1 = .ok (.iload_n 1, 1) := by decide +kernel
theorem dX7_advance_2 : decode cX7_advance 2 = .ok (.invokevirtual 114, 3) := by decide +kernel
theorem dX7_advance_5 : decode cX7_advance 5 = .ok (.istore_n 2, 1) := by decide +kernel
theorem dX7_advance_6 : decode cX7_advance 6 = .ok (.iload_n 2, 1) := by decide +kernel
theorem dX7_advance_7 : decode cX7_advance 7 = .ok (.ifCond .ge 5, 3) := by decide +kernel
theorem dX7_advance_10 : decode cX7_advance 10 = .ok (.iload_n 2, 1) := by decide +kernel
theorem dX7_advance_11 : decode cX7_advance 11 = .ok (.ireturn, 1) := by decide +kernel
theorem dX7_advance_12 : decode cX7_advance 12 = .ok (.aload_n 0, 1) := by decide +kernel
theorem dX7_advance_13 : decode cX7_advance 13 = .ok (.invokevirtual 91, 3) := by decide +kernel
theorem dX7_advance_16 : decode cX7_advance 16 = .ok (.aload_n 0, 1) := by decide +kernel
theorem dX7_advance_17 : decode cX7_advance 17 = .ok (.iload_n 1, 1) := by decide +kernel
theorem dX7_advance_18 : decode cX7_advance 18 = .ok (.invokevirtual 117, 3) := by decide +kernel
theorem dX7_advance_21 : decode cX7_advance 21 = .ok (.ireturn, 1) := by decide +kernel
set_option maxRecDepth 20000 in
theorem ggX7_append_X7_in : GoodIn wsX7_append wsX7_in := goodIn_r _ [8] (by decide +kernel) (by decide +kernel)
set_option maxRecDepth 20000 in
theorem gX7_append_X7_in : GoodIn wsX7_append (va_wsS RX7 22 yX7_in wsX7_in) := goodIn_app (goodIn_of _ (by decide +kernel)) ggX7_append_X7_in
theorem dX7_append_0 : decode cX7_append 0 = .ok (.iload_n 1, 1) := by decide +kernel
theorem dX7_append_1 : decode cX7_append 1 = .ok (.bipush 32, 2) := by decide +kernel
theorem dX7_append_3 : decode cX7_append 3 = .ok (.bipush 126, 2) := by decide +kernel
theorem dX7_append_5 : decode cX7_append 5 = .ok (.invokestatic 22, 3) := by decide +kernel
theorem dX7_append_8 : decode cX7_append 8 = .ok (.ifCond .ne 6, 3) := by decide +kernel
theorem dX7_append_11 : decode cX7_append 11 = .ok (.ldc 90, 2) := by decide +kernel
theorem dX7_append_13 : decode cX7_append 13 = .ok (.ireturn, 1) := by decide +kernel
theorem dX7_append_14 : decode cX7_append 14 = .ok (.aload_n 0, 1) := by decide +kernel
theorem dX7_append_15 : decode cX7_append 15 = .ok (.getfield 120, 3) := by decide +kernel
theorem dX7_append_18 : decode cX7_append 18 = .ok (.bipush 80, 2) := by decide +kernel
theorem dX7_append_20 : decode cX7_append 20 = .ok (.if_icmp .ne 6, 3) := by decide +kernel
theorem dX7_append_23 : decode cX7_append 23 = .ok (.ldc 103, 2) := by decide +kernel
theorem dX7_append_25 : decode cX7_append 25 = .ok (.ireturn, 1) := by decide +kernel
theorem dX7_append_26 : decode cX7_append 26 = .ok (.aload_n 0, 1) := by decide +kernel
theorem dX7_append_27 : decode cX7_append 27 = .ok (.getfield 19, 3) := by decide +kernel
theorem dX7_append_30 : decode cX7_append 30 = .ok (.aload_n 0, 1) := by decide +kernel
theorem dX7_append_31 : decode cX7_append 31 = .ok (.getfield 120, 3) := by decide +kernel
theorem dX7_append_34 : decode cX7_append 34 = .ok (.iload_n 1, 1) := by decide +kernel
theorem dX7_append_35 : decode cX7_append 35 = .ok (.iastore, 1) := by decide +kernel
theorem dX7_append_36 : decode cX7_append 36 = .ok (.aload_n 0, 1) := by decide +kernel
theorem dX7_append_37 : decode cX7_append 37 = .ok (.dup, 1) := by decide +kernel
theorem dX7_append_38 : decode cX7_append 38 = .ok (.getfield 120, 3) := by decide +kernel
theorem dX7_append_41 : decode cX7_append 41 = .ok (.iconst 1, 1) := by decide +kernel
theorem dX7_append_42 : decode cX7_append 42 = .ok (.iadd, 1) := by decide +kernel
theorem dX7_append_43 : decode cX7_append 43 = .ok (.putfield 120, 3) := by decide +kernel
theorem dX7_append_46 : decode cX7_append 46 = .ok (.aload_n 0, 1) := by decide +kernel
theorem dX7_append_47 : decode cX7_append 47 = .ok (.getfield 120, 3) := by decide +kernel
theorem dX7_append_50 : decode cX7_append 50 = .ok (.ireturn, 1) := by decide +kernel
theorem dX7_clearText_0 : decode cX7_clearText 0 = .ok (.aload_n 0, 1) := by decide +kernel
theorem dX7_clearText_1 : decode cX7_clearText 1 = .ok (.getfield 120, 3) := by decide +kernel
theorem dX7_clearText_4 : decode cX7_clearText 4 = .ok (.istore_n 1, 1) := by decide +kernel
theorem dX7_clearText_5 : decode cX7_clearText 5 = .ok (.aload_n 0, 1) := by decide +kernel
theorem dX7_clearText_6 : decode cX7_clearText 6 = .ok (.iconst 0, 1) := by decide +kernel
theorem dX7_clearText_7 : decode cX7_clearText 7 = .ok (.putfield 120, 3) := by decide +kernel
theorem dX7_clearText_10 : decode cX7_clearText 10 = .ok (.iload_n 1, 1) := by decide +kernel
theorem dX7_clearText_11 : decode cX7_clearText 11 = .ok (.ireturn, 1) := by decide +kernel
theorem dX7_at_0 : decode cX7_at 0 = .ok (.iload_n 1, 1) := by decide +kernel
theorem dX7_at_1 : decode cX7_at 1 = .ok (.aload_n 0, 1) := by decide +kernel
theorem dX7_at_2 : decode cX7_at 2 = .ok (.getfield 120, 3) := by decide +kernel
theorem dX7_at_5 : decode cX7_at 5 = .ok (.if_icmp .ge 12, 3) := by decide +kernel
theorem dX7_at_8 : decode cX7_at 8 = .ok (.aload_n 0, 1) := by decide +kernel
theorem dX7_at_9 : decode cX7_at 9 = .ok (.getfield 19, 3) := by decide +kernel
theorem dX7_at_12 : decode cX7_at 12 = .ok (.iload_n 1, 1) := by decide +kernel
theorem dX7_at_13 : decode cX7_at 13 = .ok (.iaload, 1) := by decide +kernel
theorem dX7_at_14 : decode cX7_at 14 = .ok (.goto 4, 3) := by decide +kernel
theorem dX7_at_17 : decode cX7_at 17 = .ok (.iconst 0, 1) := by decide +kernel
theorem dX7_at_18 : decode cX7_at 18 = .ok (.ireturn, 1) := by decide +kernel
set_option maxRecDepth 20000 in
theorem ggX7_readNumber_X7_at : GoodIn wsX7_readNumber wsX7_at := goodIn_r _ [6, 7, 8, 12, 13, 14, 15, 16, 17, 18, 19, 20] (by decide +kernel) (by decide +kernel)
set_option maxRecDepth 20000 in
theorem gX7_readNumber_X7_at : GoodIn wsX7_readNumber (wsV RX7 126 RX7 yX7_at wsX7_at) := goodIn_app (goodIn_of _ (by decide +kernel)) ggX7_readNumber_X7_at
set_option maxRecDepth 20000 in
theorem ggX7_readNumber_X7_in : GoodIn wsX7_readNumber wsX7_in := goodIn_r _ [11] (by decide +kernel) (by decide +kernel)
set_option maxRecDepth 20000 in
theorem gX7_readNumber_X7_in : GoodIn wsX7_readNumber (va_wsS RX7 22 yX7_in wsX7_in) := goodIn_app (goodIn_of _ (by decide +kernel)) ggX7_readNumber_X7_in
