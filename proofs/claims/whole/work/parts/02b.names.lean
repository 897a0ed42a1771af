set_option maxRecDepth 20000 in
theorem ggX0_init_X4_init : GoodIn wsX0_init wsX4_init := goodIn_r _ [14, 15, 2, 3, 16, 17, 18, 19, 20, 21, 22, 23, 24, 25, 26, 27, 28, 29, 30, 31, 32, 33, 34, 35, 36, 37, 38, 39, 40, 41, 42, 43, 44, 45, 46, 47, 48, 49, 50, 51, 52, 53, 54, 55, 56, 57, 58, 59, 60, 61, 62, 63, 64, 81, 65, 66, 67, 68, 69, 70, 71, 72, 73, 74, 75, 82, 83, 84, 85, 86, 87, 88, 89, 90, 91, 92, 93, 94, 95, 96, 97, 98, 99] (by decide +kernel) (by decide +kernel)
set_option maxRecDepth 20000 in
theorem gX0_init_X4_init : GoodIn wsX0_init (wsX4_init) := ggX0_init_X4_init
theorem dX0_init_0 : decode cX0_init 0 = .ok (.aload_n 0, 1) := by decide +kernel
theorem dX0_init_1 : decode cX0_init 1 = .ok (.invokespecial 3, 3) := by decide +kernel
theorem dX0_init_4 : decode cX0_init 4 = .ok (.aload_n 0, 1) := by decide +kernel
theorem dX0_init_5 : decode cX0_init 5 = .ok (.new 9, 3) := by decide +kernel
theorem dX0_init_8 : decode cX0_init 8 = .ok (.dup, 1) := by decide +kernel
theorem dX0_init_9 : decode cX0_init 9 = .ok (.invokespecial 11, 3) := by decide +kernel
theorem dX0_init_12 : decode cX0_init 12 = .ok (.putfield 12, 3) := by decide +kernel
theorem dX0_init_15 : decode cX0_init 15 = .ok (.aload_n 0, 1) := by decide +kernel
theorem dX0_init_16 : decode cX0_init 16 = .ok (.new 9, 3) := by decide +kernel
theorem dX0_init_19 : decode cX0_init 19 = .ok (.dup, 1) := by decide +kernel
theorem dX0_init_20 : decode cX0_init 20 = .ok (.invokespecial 11, 3) := by decide +kernel
theorem dX0_init_23 : decode cX0_init 23 = .ok (.putfield 18, 3) := by decide +kernel
theorem dX0_init_26 : decode cX0_init 26 = .ok (.aload_n 0, 1) := by decide +kernel
theorem dX0_init_27 : decode cX0_init 27 = .ok (.new 9, 3) := by decide +kernel
theorem dX0_init_30 : decode cX0_init 30 = .ok (.dup, 1) := by decide +kernel
theorem dX0_init_31 : decode cX0_init 31 = .ok (.invokespecial 11, 3) := by decide +kernel
theorem dX0_init_34 : decode cX0_init 34 = .ok (.putfield 21, 3) := by decide +kernel
theorem dX0_init_37 : decode cX0_init 37 = .ok (.aload_n 0, 1) := by decide +kernel
theorem dX0_init_38 : decode cX0_init 38 = .ok (.new 9, 3) := by decide +kernel
theorem dX0_init_41 : decode cX0_init 41 = .ok (.dup, 1) := by decide +kernel
theorem dX0_init_42 : decode cX0_init 42 = .ok (.invokespecial 11, 3) := by decide +kernel
theorem dX0_init_45 : decode cX0_init 45 = .ok (.putfield 24, 3) := by decide +kernel
theorem dX0_init_48 : decode cX0_init 48 = .ok (.aload_n 0, 1) := by decide +kernel
theorem dX0_init_49 : decode cX0_init 49 = .ok (.iconst 0, 1) := by decide +kernel
theorem dX0_init_50 : decode cX0_init 50 = .ok (.putfield 27, 3) := by decide +kernel
theorem dX0_init_53 : decode cX0_init 53 = .ok (.return_, 1) := by decide +kernel
set_option maxRecDepth 20000 in
theorem ggX0_keep_X4_copyFrom : GoodIn wsX0_keep wsX4_copyFrom := goodIn_r _ [14, 15, 16, 17, 18, 19, 20, 21, 22, 23, 24, 25, 26, 27, 28, 29, 30, 31, 32, 33, 34, 35, 36, 37, 38, 39, 40, 41, 42, 43, 44, 45, 46, 13, 47, 48, 49, 50, 51, 52, 53, 54, 55, 56, 57, 58, 59, 60, 61, 62, 63, 69, 70, 71, 72, 73, 74, 75, 76, 77, 78, 79, 80, 81, 82, 83, 84, 85, 86, 87, 88, 89, 90, 91, 92, 93, 94, 95, 96, 97, 98] (by decide +kernel) (by decide +kernel)
set_option maxRecDepth 20000 in
theorem gX0_keep_X4_copyFrom : GoodIn wsX0_keep (wsV RX0 31 RX4 yX4_copyFrom wsX4_copyFrom) := goodIn_app (goodIn_of _ (by decide +kernel)) ggX0_keep_X4_copyFrom
theorem dX0_keep_0 : decode cX0_keep 0 = .ok (.aload_n 0, 1) := by decide +kernel
theorem dX0_keep_1 : decode cX0_keep 1 = .ok (.getfield 24, 3) := by decide +kernel
theorem dX0_keep_4 : decode cX0_keep 4 = .ok (.astore_n 2, 1) := by decide +kernel
theorem dX0_keep_5 : decode cX0_keep 5 = .ok (.aload_n 0, 1) := by decide +kernel
theorem dX0_keep_6 : decode cX0_keep 6 = .ok (.aload_n 0, 1) := by decide +kernel
theorem dX0_keep_7 : decode cX0_keep 7 = .ok (.getfield 21, 3) := by decide +kernel
theorem dX0_keep_10 : decode cX0_keep 10 = .ok (.putfield 24, 3) := by decide +kernel
theorem dX0_keep_13 : decode cX0_keep 13 = .ok (.aload_n 0, 1) := by decide +kernel
theorem dX0_keep_14 : decode cX0_keep 14 = .ok (.aload_n 0, 1) := by decide +kernel
theorem dX0_keep_15 : decode cX0_keep 15 = .ok (.getfield 18, 3) := by decide +kernel
theorem dX0_keep_18 : decode cX0_keep 18 = .ok (.putfield 21, 3) := by decide +kernel
theorem dX0_keep_21 : decode cX0_keep 21 = .ok (.aload_n 0, 1) := by decide +kernel
theorem dX0_keep_22 : decode cX0_keep 22 = .ok (.aload_n 0, 1) := by decide +kernel
theorem dX0_keep_23 : decode cX0_keep 23 = .ok (.getfield 12, 3) := by decide +kernel
theorem dX0_keep_26 : decode cX0_keep 26 = .ok (.putfield 18, 3) := by decide +kernel
theorem dX0_keep_29 : decode cX0_keep 29 = .ok (.aload_n 0, 1) := by decide +kernel
theorem dX0_keep_30 : decode cX0_keep 30 = .ok (.aload_n 2, 1) := by decide +kernel
theorem dX0_keep_31 : decode cX0_keep 31 = .ok (.putfield 12, 3) := by decide +kernel
theorem dX0_keep_34 : decode cX0_keep 34 = .ok (.aload_n 0, 1) := by decide +kernel
theorem dX0_keep_35 : decode cX0_keep 35 = .ok (.getfield 12, 3) := by decide +kernel
theorem dX0_keep_38 : decode cX0_keep 38 = .ok (.aload_n 1, 1) := by decide +kernel
theorem dX0_keep_39 : decode cX0_keep 39 = .ok (.invokevirtual 31, 3) := by decide +kernel
theorem dX0_keep_42 : decode cX0_keep 42 = .ok (.aload_n 0, 1) := by decide +kernel
theorem dX0_keep_43 : decode cX0_keep 43 = .ok (.aload_n 0, 1) := by decide +kernel
theorem dX0_keep_44 : decode cX0_keep 44 = .ok (.getfield 27, 3) := by decide +kernel
theorem dX0_keep_47 : decode cX0_keep 47 = .ok (.iconst 1, 1) := by decide +kernel
theorem dX0_keep_48 : decode cX0_keep 48 = .ok (.iadd, 1) := by decide +kernel
theorem dX0_keep_49 : decode cX0_keep 49 = .ok (.iconst 4, 1) := by decide +kernel
theorem dX0_keep_50 : decode cX0_keep 50 = .ok (.invokestatic 35, 3) := by decide +kernel
theorem dX0_keep_53 : decode cX0_keep 53 = .ok (.putfield 27, 3) := by decide +kernel
theorem dX0_keep_56 : decode cX0_keep 56 = .ok (.return_, 1) := by decide +kernel
set_option maxRecDepth 20000 in
theorem ggX0_restore_X4_copyFrom : GoodIn wsX0_restore wsX4_copyFrom := goodIn_r _ [14, 15, 16, 17, 18, 19, 20, 21, 22, 23, 24, 25, 26, 27, 28, 29, 30, 31, 32, 33, 34, 35, 36, 37, 38, 39, 40, 41, 42, 43, 44, 45, 46, 13, 47, 48, 49, 50, 51, 52, 53, 54, 55, 56, 57, 58, 59, 60, 61, 62, 63, 69, 70, 71, 72, 73, 74, 75, 76, 77, 78, 79, 80, 81, 82, 83, 84, 85, 86, 87, 88, 89, 90, 91, 92, 93, 94, 95, 96, 97, 98] (by decide +kernel) (by decide +kernel)
set_option maxRecDepth 20000 in
theorem gX0_restore_X4_copyFrom : GoodIn wsX0_restore (wsV RX0 31 RX4 yX4_copyFrom wsX4_copyFrom) := goodIn_app (goodIn_of _ (by decide +kernel)) ggX0_restore_X4_copyFrom
theorem dX0_restore_0 : decode cX0_restore 0 = .ok (.aload_n 1, 1) := by decide +kernel
theorem dX0_restore_1 : decode cX0_restore 1 = .ok (.aload_n 0, 1) := by decide +kernel
theorem dX0_restore_2 : decode cX0_restore 2 = .ok (.getfield 12, 3) := by decide +kernel
theorem dX0_restore_5 : decode cX0_restore 5 = .ok (.invokevirtual 31, 3) := by decide +kernel
theorem dX0_restore_8 : decode cX0_restore 8 = .ok (.aload_n 0, 1) := by decide +kernel
theorem dX0_restore_9 : decode cX0_restore 9 = .ok (.getfield 12, 3) := by decide +kernel
theorem dX0_restore_12 : decode cX0_restore 12 = .ok (.astore_n 2, 1) := by decide +kernel
theorem dX0_restore_13 : decode cX0_restore 13 = .ok (.aload_n 0, 1) := by decide +kernel
theorem dX0_restore_14 : decode cX0_restore 14 = .ok (.aload_n 0, 1) := by decide +kernel
theorem dX0_restore_15 : decode cX0_restore 15 = .ok (.getfield 18, 3) := by decide +kernel
theorem dX0_restore_18 : decode cX0_restore 18 = .ok (.putfield 12, 3) := by decide +kernel
theorem dX0_restore_21 : decode cX0_restore 21 = .ok (.aload_n 0, 1) := by decide +kernel
theorem dX0_restore_22 : decode cX0_restore 22 = .ok (.aload_n 0, 1) := by decide +kernel
theorem dX0_restore_23 : decode cX0_restore 23 = .ok (.getfield 21, 3) := by decide +kernel
theorem dX0_restore_26 : decode cX0_restore 26 = .ok (.putfield 18, 3) := by decide +kernel
theorem dX0_restore_29 : decode cX0_restore 29 = .ok (.aload_n 0, 1) := by decide +kernel
theorem dX0_restore_30 : decode cX0_restore 30 = .ok (.aload_n 0, 1) := by decide +kernel
theorem dX0_restore_31 : decode cX0_restore 31 = .ok (.getfield 24, 3) := by decide +kernel
theorem dX0_restore_34 : decode cX0_restore 34 = .ok (.putfield 21, 3) := by decide +kernel
theorem dX0_restore_37 : decode cX0_restore 37 = .ok (.aload_n 0, 1) := by decide +kernel
theorem dX0_restore_38 : decode cX0_restore 38 = .ok (.aload_n 2, 1) := by decide +kernel
theorem dX0_restore_39 : decode cX0_restore 39 = .ok (.putfield 24, 3) := by decide +kernel
theorem dX0_restore_42 : decode cX0_restore 42 = .ok (.aload_n 0, 1) := by decide +kernel
theorem dX0_restore_43 : decode cX0_restore 43 = .ok (.aload_n 0, 1) := by decide +kernel
theorem dX0_restore_44 : decode cX0_restore 44 = .ok (.getfield 27, 3) := by decide +kernel
theorem dX0_restore_47 : decode cX0_restore 47 = .ok (.iconst 1, 1) := by decide +kernel
theorem dX0_restore_48 : decode cX0_restore 48 = .ok (.isub, 1) := by decide +kernel
theorem dX0_restore_49 : decode cX0_restore 49 = .ok (.iconst 0, 1) := by decide +kernel
theorem dX0_restore_50 : decode cX0_restore 50 = .ok (.invokestatic 41, 3) := by decide +kernel
theorem dX0_restore_53 : decode cX0_restore 53 = .ok (.putfield 27, 3) := by decide +kernel
theorem dX0_restore_56 : decode cX0_restore 56 = .ok (.return_, 1) := by decide +kernel
set_option maxRecDepth 20000 in
theorem ggX1_init_X3_init : GoodIn wsX1_init wsX3_init := goodIn_r _ [16, 17, 2, 3, 18, 19, 24] (by decide +kernel) (by decide +kernel)
set_option maxRecDepth 20000 in
theorem gX1_init_X3_init : GoodIn wsX1_init (wsX3_init) := ggX1_init_X3_init
set_option maxRecDepth 20000 in
theorem ggX1_init_X3_put : GoodIn wsX1_init wsX3_put := goodIn_r _ [23, 19, 24] (by decide +kernel) (by decide +kernel)
set_option maxRecDepth 20000 in
theorem gX1_init_X3_put : GoodIn wsX1_init (wsV RX1 39 RX3 yX3_put wsX3_put) := goodIn_app (goodIn_of _ (by decide +kernel)) ggX1_init_X3_put
theorem dX1_init_0 : decode cX1_init 0 = .ok (.aload_n 0, 1) := by decide +kernel
theorem dX1_init_1 : decode cX1_init 1 = .ok (.invokespecial 3, 3) := by decide +kernel
theorem dX1_init_4 : decode cX1_init 4 = .ok (.aload_n 0, 1) := by decide +kernel
theorem dX1_init_5 : decode cX1_init 5 = .ok (.new 9, 3) := by decide +kernel
theorem dX1_init_8 : decode cX1_init 8 = .ok (.dup, 1) := by decide +kernel
theorem dX1_init_9 : decode cX1_init 9 = .ok (.iconst 4, 1) := by decide +kernel
theorem dX1_init_10 : decode cX1_init 10 = .ok (.invokespecial 11, 3) := by decide +kernel
theorem dX1_init_13 : decode cX1_init 13 = .ok (.putfield 14, 3) := by decide +kernel
theorem dX1_init_16 : decode cX1_init 16 = .ok (.aload_n 0, 1) := by decide +kernel
theorem dX1_init_17 : decode cX1_init 17 = .ok (.new 9, 3) := by decide +kernel
theorem dX1_init_20 : decode cX1_init 20 = .ok (.dup, 1) := by decide +kernel
theorem dX1_init_21 : decode cX1_init 21 = .ok (.bipush 6, 2) := by decide +kernel
theorem dX1_init_23 : decode cX1_init 23 = .ok (.invokespecial 11, 3) := by decide +kernel
theorem dX1_init_26 : decode cX1_init 26 = .ok (.putfield 20, 3) := by decide +kernel
theorem dX1_init_29 : decode cX1_init 29 = .ok (.aload_n 0, 1) := by decide +kernel
theorem dX1_init_30 : decode cX1_init 30 = .ok (.new 9, 3) := by decide +kernel
theorem dX1_init_33 : decode cX1_init 33 = .ok (.dup, 1) := by decide +kernel
theorem dX1_init_34 : decode cX1_init 34 = .ok (.bipush 8, 2) := by decide +kernel
theorem dX1_init_36 : decode cX1_init 36 = .ok (.invokespecial 11, 3) := by decide +kernel
theorem dX1_init_39 : decode cX1_init 39 = .ok (.putfield 23, 3) := by decide +kernel
theorem dX1_init_42 : decode cX1_init 42 = .ok (.aload_n 0, 1) := by decide +kernel
theorem dX1_init_43 : decode cX1_init 43 = .ok (.iconst 0, 1) := by decide +kernel
theorem dX1_init_44 : decode cX1_init 44 = .ok (.putfield 26, 3) := by decide +kernel
theorem dX1_init_47 : decode cX1_init 47 = .ok (.aload_n 0, 1) := by decide +kernel
theorem dX1_init_48 : decode cX1_init 48 = .ok (.bipush 30, 2) := by decide +kernel
theorem dX1_init_50 : decode cX1_init 50 = .ok (.putfield 30, 3) := by decide +kernel
theorem dX1_init_53 : decode cX1_init 53 = .ok (.aload_n 0, 1) := by decide +kernel
theorem dX1_init_54 : decode cX1_init 54 = .ok (.iconst 0, 1) := by decide +kernel
theorem dX1_init_55 : decode cX1_init 55 = .ok (.putfield 33, 3) := by decide +kernel
theorem dX1_init_58 : decode cX1_init 58 = .ok (.aload_n 0, 1) := by decide +kernel
theorem dX1_init_59 : decode cX1_init 59 = .ok (.iconst 0, 1) := by decide +kernel
theorem dX1_init_60 : decode cX1_init 60 = .ok (.putfield 36, 3) := by decide +kernel
theorem dX1_init_63 : decode cX1_init 63 = .ok (.aload_n 0, 1) := by decide +kernel
theorem dX1_init_64 : decode cX1_init 64 = .ok (.getfield 14, 3) := by decide +kernel
theorem dX1_init_67 : decode cX1_init 67 = .ok (.iconst 0, 1) := by decide +kernel
theorem dX1_init_68 : decode cX1_init 68 = .ok (.iconst 1, 1) := by decide +kernel
theorem dX1_init_69 : decode cX1_init 69 = .ok (.invokevirtual 39, 3) := by decide +kernel
theorem dX1_init_72 : decode cX1_init 72 = .ok (.aload_n 0, 1) := by decide +kernel
theorem dX1_init_73 : decode cX1_init 73 = .ok (.getfield 14, 3) := by decide +kernel
theorem dX1_init_76 : decode cX1_init 76 = .ok (.iconst 1, 1) := by decide +kernel
theorem dX1_init_77 : decode cX1_init 77 = .ok (.iconst 2, 1) := by decide +kernel
theorem dX1_init_78 : decode cX1_init 78 = .ok (.invokevirtual 39, 3) := by decide +kernel
theorem dX1_init_81 : decode cX1_init 81 = .ok (.aload_n 0, 1) := by decide +kernel
theorem dX1_init_82 : decode cX1_init 82 = .ok (.getfield 14, 3) := by decide +kernel
theorem dX1_init_85 : decode cX1_init 85 = .ok (.iconst 2, 1) := by decide +kernel
theorem dX1_init_86 : decode cX1_init 86 = .ok (.bipush 30, 2) := by decide +kernel
theorem dX1_init_88 : decode cX1_init 88 = .ok (.invokevirtual 39, 3) := by decide +kernel
theorem dX1_init_91 : decode cX1_init 91 = .ok (.aload_n 0, 1) := by decide +kernel
theorem dX1_init_92 : decode cX1_init 92 = .ok (.getfield 14, 3) := by decide +kernel
theorem dX1_init_95 : decode cX1_init 95 = .ok (.iconst 3, 1) := by decide +kernel
theorem dX1_init_96 : decode cX1_init 96 = .ok (.bipush 40, 2) := by decide +kernel
theorem dX1_init_98 : decode cX1_init 98 = .ok (.invokevirtual 39, 3) := by decide +kernel
theorem dX1_init_101 : decode cX1_init 101 = .ok (.return_, 1) := by decide +kernel
set_option maxRecDepth 20000 in
theorem ggX1_gain_X3_at : GoodIn wsX1_gain wsX3_at := goodIn_r _ [11, 12, 20] (by decide +kernel) (by decide +kernel)
set_option maxRecDepth 20000 in
theorem gX1_gain_X3_at : GoodIn wsX1_gain (wsV RX1 43 RX3 yX3_at wsX3_at) := goodIn_app (goodIn_of _ (by decide +kernel)) ggX1_gain_X3_at
theorem dX1_gain_0 : decode cX1_gain 0 = .ok (.aload_n 0, 1) := by decide +kernel
theorem dX1_gain_1 : decode cX1_gain 1 = .ok (.getfield 14, 3) := by decide +kernel
theorem dX1_gain_4 : decode cX1_gain 4 = .ok (.iconst 2, 1) := by decide +kernel
theorem dX1_gain_5 : decode cX1_gain 5 = .ok (.invokevirtual 43, 3) := by decide +kernel
theorem dX1_gain_8 : decode cX1_gain 8 = .ok (.istore_n 2, 1) := by decide +kernel
theorem dX1_gain_9 : decode cX1_gain 9 = .ok (.aload_n 0, 1) := by decide +kernel
theorem dX1_gain_10 : decode cX1_gain 10 = .ok (.getfield 30, 3) := by decide +kernel
theorem dX1_gain_13 : decode cX1_gain 13 = .ok (.iload_n 2, 1) := by decide +kernel
theorem dX1_gain_14 : decode cX1_gain 14 = .ok (.if_icmp .ge 17, 3) := by decide +kernel
theorem dX1_gain_17 : decode cX1_gain 17 = .ok (.aload_n 0, 1) := by decide +kernel
theorem dX1_gain_18 : decode cX1_gain 18 = .ok (.aload_n 0, 1) := by decide +kernel
theorem dX1_gain_19 : decode cX1_gain 19 = .ok (.getfield 30, 3) := by decide +kernel
theorem dX1_gain_22 : decode cX1_gain 22 = .ok (.iload_n 1, 1) := by decide +kernel
theorem dX1_gain_23 : decode cX1_gain 23 = .ok (.iadd, 1) := by decide +kernel
theorem dX1_gain_24 : decode cX1_gain 24 = .ok (.iload_n 2, 1) := by decide +kernel
theorem dX1_gain_25 : decode cX1_gain 25 = .ok (.invokestatic 47, 3) := by decide +kernel
theorem dX1_gain_28 : decode cX1_gain 28 = .ok (.putfield 30, 3) := by decide +kernel
theorem dX1_gain_31 : decode cX1_gain 31 = .ok (.return_, 1) := by decide +kernel
set_option maxRecDepth 20000 in
theorem ggX1_join_X3_put : GoodIn wsX1_join wsX3_put := goodIn_r _ [7, 8, 16] (by decide +kernel) (by decide +kernel)
set_option maxRecDepth 20000 in
theorem gX1_join_X3_put : GoodIn wsX1_join (wsV RX1 39 RX3 yX3_put wsX3_put) := goodIn_app (goodIn_of _ (by decide +kernel)) ggX1_join_X3_put
theorem dX1_join_0 : decode cX1_join 0 = .ok (.aload_n 0, 1) := by decide +kernel
theorem dX1_join_1 : decode cX1_join 1 = .ok (.getfield 26, 3) := by decide +kernel
theorem dX1_join_4 : decode cX1_join 4 = .ok (.bipush 8, 2) := by decide +kernel
theorem dX1_join_6 : decode cX1_join 6 = .ok (.if_icmp .ge 25, 3) := by decide +kernel
theorem dX1_join_9 : decode cX1_join 9 = .ok (.aload_n 0, 1) := by decide +kernel
theorem dX1_join_10 : decode cX1_join 10 = .ok (.getfield 23, 3) := by decide +kernel
theorem dX1_join_13 : decode cX1_join 13 = .ok (.aload_n 0, 1) := by decide +kernel
theorem dX1_join_14 : decode cX1_join 14 = .ok (.getfield 26, 3) := by decide +kernel
theorem dX1_join_17 : decode cX1_join 17 = .ok (.iload_n 1, 1) := by decide +kernel
theorem dX1_join_18 : decode cX1_join 18 = .ok (.invokevirtual 39, 3) := by decide +kernel
theorem dX1_join_21 : decode cX1_join 21 = .ok (.aload_n 0, 1) := by decide +kernel
theorem dX1_join_22 : decode cX1_join 22 = .ok (.dup, 1) := by decide +kernel
theorem dX1_join_23 : decode cX1_join 23 = .ok (.getfield 26, 3) := by decide +kernel
theorem dX1_join_26 : decode cX1_join 26 = .ok (.iconst 1, 1) := by decide +kernel
theorem dX1_join_27 : decode cX1_join 27 = .ok (.iadd, 1) := by decide +kernel
theorem dX1_join_28 : decode cX1_join 28 = .ok (.putfield 26, 3) := by decide +kernel
theorem dX1_join_31 : decode cX1_join 31 = .ok (.return_, 1) := by decide +kernel
set_option maxRecDepth 20000 in
theorem ggX1_leave_X3_at : GoodIn wsX1_leave wsX3_at := goodIn_r _ [7, 8, 20] (by decide +kernel) (by decide +kernel)
set_option maxRecDepth 20000 in
theorem gX1_leave_X3_at : GoodIn wsX1_leave (wsV RX1 43 RX3 yX3_at wsX3_at) := goodIn_app (goodIn_of _ (by decide +kernel)) ggX1_leave_X3_at
set_option maxRecDepth 20000 in
theorem ggX1_leave_X3_put : GoodIn wsX1_leave wsX3_put := goodIn_r _ [12, 8, 20] (by decide +kernel) (by decide +kernel)
set_option maxRecDepth 20000 in
theorem gX1_leave_X3_put : GoodIn wsX1_leave (wsV RX1 39 RX3 yX3_put wsX3_put) := goodIn_app (goodIn_of _ (by decide +kernel)) ggX1_leave_X3_put
theorem dX1_leave_0 : decode cX1_leave 0 = .ok (.aload_n 0, 1) := by decide +kernel
theorem dX1_leave_1 : decode cX1_leave 1 = .ok (.getfield 26, 3) := by decide +kernel
theorem dX1_leave_4 : decode cX1_leave 4 = .ok (.ifCond .le 47, 3) := by decide +kernel
theorem dX1_leave_7 : decode cX1_leave 7 = .ok (.aload_n 0, 1) := by decide +kernel
theorem dX1_leave_8 : decode cX1_leave 8 = .ok (.dup, 1) := by decide +kernel
theorem dX1_leave_9 : decode cX1_leave 9 = .ok (.getfield 26, 3) := by decide +kernel
theorem dX1_leave_12 : decode cX1_leave 12 = .ok (.iconst 1, 1) := by decide +kernel
theorem dX1_leave_13 : decode cX1_leave 13 = .ok (.isub, 1) := by decide +kernel
theorem dX1_leave_14 : decode cX1_leave 14 = .ok (.putfield 26, 3) := by decide +kernel
theorem dX1_leave_17 : decode cX1_leave 17 = .ok (.iload_n 1, 1) := by decide +kernel
theorem dX1_leave_18 : decode cX1_leave 18 = .ok (.istore_n 2, 1) := by decide +kernel
theorem dX1_leave_19 : decode cX1_leave 19 = .ok (.iload_n 2, 1) := by decide +kernel
theorem dX1_leave_20 : decode cX1_leave 20 = .ok (.aload_n 0, 1) := by decide +kernel
theorem dX1_leave_21 : decode cX1_leave 21 = .ok (.getfield 26, 3) := by decide +kernel
theorem dX1_leave_24 : decode cX1_leave 24 = .ok (.if_icmp .ge 27, 3) := by decide +kernel
theorem dX1_leave_27 : decode cX1_leave 27 = .ok (.aload_n 0, 1) := by decide +kernel
theorem dX1_leave_28 : decode cX1_leave 28 = .ok (.getfield 23, 3) := by decide +kernel
theorem dX1_leave_31 : decode cX1_leave 31 = .ok (.iload_n 2, 1) := by decide +kernel
theorem dX1_leave_32 : decode cX1_leave 32 = .ok (.aload_n 0, 1) := by decide +kernel
theorem dX1_leave_33 : decode cX1_leave 33 = .ok (.getfield 23, 3) := by decide +kernel
theorem dX1_leave_36 : decode cX1_leave 36 = .ok (.iload_n 2, 1) := by decide +kernel
theorem dX1_leave_37 : decode cX1_leave 37 = .ok (.iconst 1, 1) := by decide +kernel
theorem dX1_leave_38 : decode cX1_leave 38 = .ok (.iadd, 1) := by decide +kernel
theorem dX1_leave_39 : decode cX1_leave 39 = .ok (.invokevirtual 43, 3) := by decide +kernel
theorem dX1_leave_42 : decode cX1_leave 42 = .ok (.invokevirtual 39, 3) := by decide +kernel
theorem dX1_leave_45 : decode cX1_leave 45 = .ok (.iinc 2 1, 3) := by decide +kernel
theorem dX1_leave_48 : decode cX1_leave 48 = .ok (.goto (-29), 3) := by decide +kernel
theorem dX1_leave_51 : decode cX1_leave 51 = .ok (.return_, 1) := by decide +kernel
set_option maxRecDepth 20000 in
theorem ggX1_copyFrom_X3_copyFrom : GoodIn wsX1_copyFrom wsX3_copyFrom := goodIn_r _ [12, 13, 21] (by decide +kernel) (by decide +kernel)
set_option maxRecDepth 20000 in
theorem gX1_copyFrom_X3_copyFrom : GoodIn wsX1_copyFrom (wsV RX1 53 RX3 yX3_copyFrom wsX3_copyFrom) := goodIn_app (goodIn_of _ (by decide +kernel)) ggX1_copyFrom_X3_copyFrom
theorem dX1_copyFrom_0 : decode cX1_copyFrom 0 = .ok (.aload_n 0, 1) := by decide +kernel
theorem dX1_copyFrom_1 : decode cX1_copyFrom 1 = .ok (.getfield 14, 3) := by decide +kernel
theorem dX1_copyFrom_4 : decode cX1_copyFrom 4 = .ok (.aload_n 1, 1) := by decide +kernel
theorem dX1_copyFrom_5 : decode cX1_copyFrom 5 = .ok (.getfield 14, 3) := by decide +kernel
theorem dX1_copyFrom_8 : decode cX1_copyFrom 8 = .ok (.invokevirtual 53, 3) := by decide +kernel
theorem dX1_copyFrom_11 : decode cX1_copyFrom 11 = .ok (.aload_n 0, 1) := by decide +kernel
theorem dX1_copyFrom_12 : decode cX1_copyFrom 12 = .ok (.getfield 20, 3) := by decide +kernel
theorem dX1_copyFrom_15 : decode cX1_copyFrom 15 = .ok (.aload_n 1, 1) := by decide +kernel
theorem dX1_copyFrom_16 : decode cX1_copyFrom 16 = .ok (.getfield 20, 3) := by decide +kernel
theorem dX1_copyFrom_19 : decode cX1_copyFrom 19 = .ok (.invokevirtual 53, 3) := by decide +kernel
theorem dX1_copyFrom_22 : decode cX1_copyFrom 22 = .ok (.aload_n 0, 1) := by decide +kernel
theorem dX1_copyFrom_23 : decode cX1_copyFrom 23 = .ok (.getfield 23, 3) := by decide +kernel
theorem dX1_copyFrom_26 : decode cX1_copyFrom 26 = .ok (.aload_n 1, 1) := by decide +kernel
theorem dX1_copyFrom_27 : decode cX1_copyFrom 27 = .ok (.getfield 23, 3) := by decide +kernel
theorem dX1_copyFrom_30 : decode cX1_copyFrom 30 = .ok (.invokevirtual 53, 3) := by decide +kernel
theorem dX1_copyFrom_33 : decode cX1_copyFrom 33 = .ok (.aload_n 0, 1) := by decide +kernel
theorem dX1_copyFrom_34 : decode cX1_copyFrom 34 = .ok (.aload_n 1, 1) := by decide +kernel
theorem dX1_copyFrom_35 : decode cX1_copyFrom 35 = .ok (.getfield 26, 3) := by decide +kernel
theorem dX1_copyFrom_38 : decode cX1_copyFrom 38 = .ok (.putfield 26, 3) := by decide +kernel
theorem dX1_copyFrom_41 : decode cX1_copyFrom 41 = .ok (.aload_n 0, 1) := by decide +kernel
theorem dX1_copyFrom_42 : decode cX1_copyFrom 42 = .ok (.aload_n 1, 1) := by decide +kernel
theorem dX1_copyFrom_43 : decode cX1_copyFrom 43 = .ok (.getfield 30, 3) := by decide +kernel
theorem dX1_copyFrom_46 : decode cX1_copyFrom 46 = .ok (.putfield 30, 3) := by decide +kernel
theorem dX1_copyFrom_49 : decode cX1_copyFrom 49 = .ok (.aload_n 0, 1) := by decide +kernel
theorem dX1_copyFrom_50 : decode cX1_copyFrom 50 = .ok (.aload_n 1, 1) := by decide +kernel
theorem dX1_copyFrom_51 : decode cX1_copyFrom 51 = .ok (.getfield 33, 3) := by decide +kernel
theorem dX1_copyFrom_54 : decode cX1_copyFrom 54 = .ok (.putfield 33, 3) := by decide +kernel
theorem dX1_copyFrom_57 : decode cX1_copyFrom 57 = .ok (.aload_n 0, 1) := by decide +kernel
theorem dX1_copyFrom_58 : decode cX1_copyFrom 58 = .ok (.aload_n 1, 1) := by decide +kernel
theorem dX1_copyFrom_59 : decode cX1_copyFrom 59 = .ok (.getfield 36, 3) := by decide +kernel
theorem dX1_copyFrom_62 : decode cX1_copyFrom 62 = .ok (.putfield 36, 3) := by decide +kernel
theorem dX1_copyFrom_65 : decode cX1_copyFrom 65 = .ok (.return_, 1) := by decide +kernel
theorem dX2_init_0 : decode cX2_init 0 = .ok (.aload_n 0, 1) := by decide +kernel
theorem dX2_init_1 : decode cX2_init 1 = .ok (.invokespecial 3, 3) := by decide +kernel
theorem dX2_init_4 : decode cX2_init 4 = .ok (.aload_n 0, 1) := by decide +kernel
theorem dX2_init_5 : decode cX2_init 5 = .ok (.iload_n 1, 1) := by decide +kernel
theorem dX2_init_6 : decode cX2_init 6 = .ok (.putfield 9, 3) := by decide +kernel
theorem dX2_init_9 : decode cX2_init 9 = .ok (.return_, 1) := by decide +kernel
theorem dX2_begin_0 : decode cX2_begin 0 = .ok (.aload_n 0, 1) := by decide +kernel
theorem dX2_begin_1 : decode cX2_begin 1 = .ok (.iload_n 1, 1) := by decide +kernel
theorem dX2_begin_2 : decode cX2_begin 2 = .ok (.putfield 15, 3) := by decide +kernel
theorem dX2_begin_5 : decode cX2_begin 5 = .ok (.aload_n 0, 1) := by decide +kernel
theorem dX2_begin_6 : decode cX2_begin 6 = .ok (.iload_n 2, 1) := by decide +kernel
theorem dX2_begin_7 : decode cX2_begin 7 = .ok (.putfield 18, 3) := by decide +kernel
theorem dX2_begin_10 : decode cX2_begin 10 = .ok (.aload_n 0, 1) := by decide +kernel
theorem dX2_begin_11 : decode cX2_begin 11 = .ok (.iload_n 3, 1) := by decide +kernel
theorem dX2_begin_12 : decode cX2_begin 12 = .ok (.putfield 21, 3) := by decide +kernel
theorem dX2_begin_15 : decode cX2_begin 15 = .ok (.aload_n 0, 1) := by decide +kernel
theorem dX2_begin_16 : decode cX2_begin 16 = .ok (.iconst 0, 1) := by decide +kernel
theorem dX2_begin_17 : decode cX2_begin 17 = .ok (.putfield 24, 3) := by decide +kernel
theorem dX2_begin_20 : decode cX2_begin 20 = .ok (.aload_n 0, 1) := by decide +kernel
theorem dX2_begin_21 : decode cX2_begin 21 = .ok (.iconst 0, 1) := by decide +kernel
theorem dX2_begin_22 : decode cX2_begin 22 = .ok (.putfield 27, 3) := by decide +kernel
theorem dX2_begin_25 : decode cX2_begin 25 = .ok (.aload_n 0, 1) := by decide +kernel
theorem dX2_begin_26 : decode cX2_begin 26 = .ok (.iconst 0, 1) := by decide +kernel
theorem dX2_begin_27 : decode cX2_begin 27 = .ok (.putfield 30, 3) := by decide +kernel
theorem dX2_begin_30 : decode cX2_begin 30 = .ok (.aload_n 0, 1) := by decide +kernel
theorem dX2_begin_31 : decode cX2_begin 31 = .ok (.iconst 0, 1) := by decide +kernel
theorem dX2_begin_32 : decode cX2_begin 32 = .ok (.putfield 33, 3) := by decide +kernel
theorem dX2_begin_35 : decode cX2_begin 35 = .ok (.aload_n 0, 1) := by decide +kernel
theorem dX2_begin_36 : decode cX2_begin 36 = .ok (.iconst 0, 1) := by decide +kernel
theorem dX2_begin_37 : decode cX2_begin 37 = .ok (.putfield 36, 3) := by decide +kernel
theorem dX2_begin_40 : decode cX2_begin 40 = .ok (.aload_n 0, 1) := by decide +kernel
theorem dX2_begin_41 : decode cX2_begin 41 = .ok (.iconst 0, 1) := by decide +kernel
theorem dX2_begin_42 : decode cX2_begin 42 = .ok (.putfield 39, 3) := by decide +kernel
theorem dX2_begin_45 : decode cX2_begin 45 = .ok (.aload_n 0, 1) := by decide +kernel
theorem dX2_begin_46 : decode cX2_begin 46 = .ok (.iconst 0, 1) := by decide +kernel
theorem dX2_begin_47 : decode cX2_begin 47 = .ok (.putfield 42, 3) := by decide +kernel
theorem dX2_begin_50 : decode cX2_begin 50 = .ok (.return_, 1) := by decide +kernel
theorem dX2_isSettled_0 : decode cX2_isSettled 0 = .ok (.aload_n 0, 1) := by decide +kernel
theorem dX2_isSettled_1 : decode cX2_isSettled 1 = .ok (.getfield 24, 3) := by decide +kernel
theorem dX2_isSettled_4 : decode cX2_isSettled 4 = .ok (.iconst 2, 1) := by decide +kernel
theorem dX2_isSettled_5 : decode cX2_isSettled 5 = .ok (.if_icmp .eq 11, 3) := by decide +kernel
theorem dX2_isSettled_8 : decode cX2_isSettled 8 = .ok (.aload_n 0, 1) := by decide +kernel
theorem dX2_isSettled_9 : decode cX2_isSettled 9 = .ok (.getfield 24, 3) := by decide +kernel
theorem dX2_isSettled_12 : decode cX2_isSettled 12 = .ok (.iconst 4, 1) := by decide +kernel
theorem dX2_isSettled_13 : decode cX2_isSettled 13 = .ok (.if_icmp .ne 7, 3) := by decide +kernel
theorem dX2_isSettled_16 : decode cX2_isSettled 16 = .ok (.iconst 1, 1) := by decide +kernel
theorem dX2_isSettled_17 : decode cX2_isSettled 17 = .ok (.goto 4, 3) := by decide +kernel
theorem dX2_isSettled_20 : decode cX2_isSettled 20 = .ok (.iconst 0, 1) := by decide +kernel
theorem dX2_isSettled_21 : decode cX2_isSettled 21 = .ok (.ireturn, 1) := by decide +kernel
theorem dX2_copyFrom_0 : decode cX2_copyFrom 0 = .ok (.aload_n 0, 1) := by decide +kernel
theorem dX2_copyFrom_1 : decode cX2_copyFrom 1 = .ok (.aload_n 1, 1) := by decide +kernel
theorem dX2_copyFrom_2 : decode cX2_copyFrom 2 = .ok (.getfield 15, 3) := by decide +kernel
theorem dX2_copyFrom_5 : decode cX2_copyFrom 5 = .ok (.putfield 15, 3) := by decide +kernel
theorem dX2_copyFrom_8 : decode cX2_copyFrom 8 = .ok (.aload_n 0, 1) := by decide +kernel
theorem dX2_copyFrom_9 : decode cX2_copyFrom 9 = .ok (.aload_n 1, 1) := by decide +kernel
theorem dX2_copyFrom_10 : decode cX2_copyFrom 10 = .ok (.getfield 18, 3) := by decide +kernel
theorem dX2_copyFrom_13 : decode cX2_copyFrom 13 = .ok (.putfield 18, 3) := by decide +kernel
theorem dX2_copyFrom_16 : decode cX2_copyFrom 16 = .ok (.aload_n 0, 1) := by decide +kernel
theorem dX2_copyFrom_17 : decode cX2_copyFrom 17 = .ok (.aload_n 1, 1) := by decide +kernel
theorem dX2_copyFrom_18 : decode cX2_copyFrom 18 = .ok (.getfield 21, 3) := by decide +kernel
theorem dX2_copyFrom_21 : decode cX2_copyFrom 21 = .ok (.putfield 21, 3) := by decide +kernel
theorem dX2_copyFrom_24 : decode cX2_copyFrom 24 = .ok (.aload_n 0, 1) := by decide +kernel
theorem dX2_copyFrom_25 : decode cX2_copyFrom 25 = .ok (.aload_n 1, 1) := by decide +kernel
theorem dX2_copyFrom_26 : decode cX2_copyFrom 26 = .ok (.getfield 24, 3) := by decide +kernel
theorem dX2_copyFrom_29 : decode cX2_copyFrom 29 = .ok (.putfield 24, 3) := by decide +kernel
theorem dX2_copyFrom_32 : decode cX2_copyFrom 32 = .ok (.aload_n 0, 1) := by decide +kernel
theorem dX2_copyFrom_33 : decode cX2_copyFrom 33 = .ok (.aload_n 1, 1) := by decide +kernel
theorem dX2_copyFrom_34 : decode cX2_copyFrom 34 = .ok (.getfield 27, 3) := by decide +kernel
theorem dX2_copyFrom_37 : decode cX2_copyFrom 37 = .ok (.putfield 27, 3) := by decide +kernel
theorem dX2_copyFrom_40 : decode cX2_copyFrom 40 = .ok (.aload_n 0, 1) := by decide +kernel
theorem dX2_copyFrom_41 : decode cX2_copyFrom 41 = .ok (.aload_n 1, 1) := by decide +kernel
theorem dX2_copyFrom_42 : decode cX2_copyFrom 42 = .ok (.getfield 30, 3) := by decide +kernel
theorem dX2_copyFrom_45 : decode cX2_copyFrom 45 = .ok (.putfield 30, 3) := by decide +kernel
theorem dX2_copyFrom_48 : decode cX2_copyFrom 48 = .ok (.aload_n 0, 1) := by decide +kernel
theorem dX2_copyFrom_49 : decode cX2_copyFrom 49 = .ok (.aload_n 1, 1) := by decide +kernel
theorem dX2_copyFrom_50 : decode cX2_copyFrom 50 = .ok (.getfield 33, 3) := by decide +kernel
theorem dX2_copyFrom_53 : decode cX2_copyFrom 53 = .ok (.putfield 33, 3) := by decide +kernel
theorem dX2_copyFrom_56 : decode cX2_copyFrom 56 = .ok (.aload_n 0, 1) := by decide +kernel
theorem dX2_copyFrom_57 : decode cX2_copyFrom 57 = .ok (.aload_n 1, 1) := by decide +kernel
theorem dX2_copyFrom_58 : decode cX2_copyFrom 58 = .ok (.getfield 36, 3) := by decide +kernel
theorem dX2_copyFrom_61 : decode cX2_copyFrom 61 = .ok (.putfield 36, 3) := by decide +kernel
theorem dX2_copyFrom_64 : decode cX2_copyFrom 64 = .ok (.aload_n 0, 1) := by decide +kernel
theorem dX2_copyFrom_65 : decode cX2_copyFrom 65 = .ok (.aload_n 1, 1) := by decide +kernel
theorem dX2_copyFrom_66 : decode cX2_copyFrom 66 = .ok (.getfield 39, 3) := by decide +kernel
theorem dX2_copyFrom_69 : decode cX2_copyFrom 69 = .ok (.putfield 39, 3) := by decide +kernel
theorem dX2_copyFrom_72 : decode cX2_copyFrom 72 = .ok (.aload_n 0, 1) := by decide +kernel
theorem dX2_copyFrom_73 : decode cX2_copyFrom 73 = .ok (.aload_n 1, 1) := by decide +kernel
theorem dX2_copyFrom_74 : decode cX2_copyFrom 74 = .ok (.getfield 42, 3) := by decide +kernel
theorem dX2_copyFrom_77 : decode cX2_copyFrom 77 = .ok (.putfield 42, 3) := by decide +kernel
theorem dX2_copyFrom_80 : decode cX2_copyFrom 80 = .ok (.return_, 1) := by decide +kernel
theorem dX3_init_0 : decode cX3_init 0 = .ok (.aload_n 0, 1) := by decide +kernel
theorem dX3_init_1 : decode cX3_init 1 = .ok (.invokespecial 1, 3) := by decide +kernel
theorem dX3_init_4 : decode cX3_init 4 = .ok (.aload_n 0, 1) := by decide +kernel
theorem dX3_init_5 : decode cX3_init 5 = .ok (.iload_n 1, 1) := by decide +kernel
theorem dX3_init_6 : decode cX3_init 6 = .ok (.ifCond .ge 7, 3) := by decide +kernel
theorem dX3_init_9 : decode cX3_init 9 = .ok (.iconst 0, 1) := by decide +kernel
theorem dX3_init_10 : decode cX3_init 10 = .ok (.goto 4, 3) := by decide +kernel
theorem dX3_init_13 : decode cX3_init 13 = .ok (.iload_n 1, 1) := by decide +kernel
theorem dX3_init_14 : decode cX3_init 14 = .ok (.newarray .int, 2) := by decide +kernel
theorem dX3_init_16 : decode cX3_init 16 = .ok (.putfield 7, 3) := by decide +kernel
theorem dX3_init_19 : decode cX3_init 19 = .ok (.return_, 1) := by decide +kernel
theorem dX3_at_0 : decode cX3_at 0 = .ok (.iload_n 1, 1) := by decide +kernel
theorem dX3_at_1 : decode cX3_at 1 = .ok (.ifCond .lt 21, 3) := by decide +kernel
theorem dX3_at_4 : decode cX3_at 4 = .ok (.iload_n 1, 1) := by decide +kernel
theorem dX3_at_5 : decode cX3_at 5 = .ok (.aload_n 0, 1) := by decide +kernel
theorem dX3_at_6 : decode cX3_at 6 = .ok (.getfield 7, 3) := by decide +kernel
theorem dX3_at_9 : decode cX3_at 9 = .ok (.arraylength, 1) := by decide +kernel
theorem dX3_at_10 : decode cX3_at 10 = .ok (.if_icmp .ge 12, 3) := by decide +kernel
theorem dX3_at_13 : decode cX3_at 13 = .ok (.aload_n 0, 1) := by decide +kernel
theorem dX3_at_14 : decode cX3_at 14 = .ok (.getfield 7, 3) := by decide +kernel
theorem dX3_at_17 : decode cX3_at 17 = .ok (.iload_n 1, 1) := by decide +kernel
theorem dX3_at_18 : decode cX3_at 18 = .ok (.iaload, 1) := by decide +kernel
theorem dX3_at_19 : decode cX3_at 19 = .ok (.goto 4, 3) := by decide +kernel
theorem dX3_at_22 : decode cX3_at 22 = .ok (.iconst 0, 1) := by decide +kernel
theorem dX3_at_23 : decode cX3_at 23 = .ok (.ireturn, 1) := by decide +kernel
theorem dX3_put_0 : decode cX3_put 0 = .ok (.iload_n 1, 1) := by decide +kernel
theorem dX3_put_1 : decode cX3_put 1 = .ok (.ifCond .lt 19, 3) := by decide +kernel
theorem dX3_put_4 : decode cX3_put 4 = .ok (.iload_n 1, 1) := by decide +kernel
theorem dX3_put_5 : decode cX3_put 5 = .ok (.aload_n 0, 1) := by decide +kernel
theorem dX3_put_6 : decode cX3_put 6 = .ok (.getfield 7, 3) := by decide +kernel
theorem dX3_put_9 : decode cX3_put 9 = .ok (.arraylength, 1) := by decide +kernel
theorem dX3_put_10 : decode cX3_put 10 = .ok (.if_icmp .ge 10, 3) := by decide +kernel
theorem dX3_put_13 : decode cX3_put 13 = .ok (.aload_n 0, 1) := by decide +kernel
theorem dX3_put_14 : decode cX3_put 14 = .ok (.getfield 7, 3) := by decide +kernel
theorem dX3_put_17 : decode cX3_put 17 = .ok (.iload_n 1, 1) := by decide +kernel
theorem dX3_put_18 : decode cX3_put 18 = .ok (.iload_n 2, 1) := by decide +kernel
theorem dX3_put_19 : decode cX3_put 19 = .ok (.iastore, 1) := by decide +kernel
theorem dX3_put_20 : decode cX3_put 20 = .ok (.return_, 1) := by decide +kernel
theorem dX3_copyFrom_0 : decode cX3_copyFrom 0 = .ok (.iconst 0, 1) := by decide +kernel
theorem dX3_copyFrom_1 : decode cX3_copyFrom 1 = .ok (.istore_n 2, 1) := by decide +kernel
theorem dX3_copyFrom_2 : decode cX3_copyFrom 2 = .ok (.iload_n 2, 1) := by decide +kernel
theorem dX3_copyFrom_3 : decode cX3_copyFrom 3 = .ok (.aload_n 0, 1) := by decide +kernel
theorem dX3_copyFrom_4 : decode cX3_copyFrom 4 = .ok (.getfield 7, 3) := by decide +kernel
theorem dX3_copyFrom_7 : decode cX3_copyFrom 7 = .ok (.arraylength, 1) := by decide +kernel
theorem dX3_copyFrom_8 : decode cX3_copyFrom 8 = .ok (.if_icmp .ge 30, 3) := by decide +kernel
theorem dX3_copyFrom_11 : decode cX3_copyFrom 11 = .ok (.iload_n 2, 1) := by decide +kernel
theorem dX3_copyFrom_12 : decode cX3_copyFrom 12 = .ok (.aload_n 1, 1) := by decide +kernel
theorem dX3_copyFrom_13 : decode cX3_copyFrom 13 = .ok (.getfield 7, 3) := by decide +kernel
theorem dX3_copyFrom_16 : decode cX3_copyFrom 16 = .ok (.arraylength, 1) := by decide +kernel
theorem dX3_copyFrom_17 : decode cX3_copyFrom 17 = .ok (.if_icmp .ge 21, 3) := by decide +kernel
theorem dX3_copyFrom_20 : decode cX3_copyFrom 20 = .ok (.aload_n 0, 1) := by decide +kernel
theorem dX3_copyFrom_21 : decode cX3_copyFrom 21 = .ok (.getfield 7, 3) := by decide +kernel
theorem dX3_copyFrom_24 : decode cX3_copyFrom 24 = .ok (.iload_n 2, 1) := by decide +kernel
theorem dX3_copyFrom_25 : decode cX3_copyFrom 25 = .ok (.aload_n 1, 1) := by decide +kernel
theorem dX3_copyFrom_26 : decode cX3_copyFrom 26 = .ok (.getfield 7, 3) := by decide +kernel
theorem dX3_copyFrom_29 : decode cX3_copyFrom 29 = .ok (.iload_n 2, 1) := by decide +kernel
theorem dX3_copyFrom_30 : decode cX3_copyFrom 30 = .ok (.iaload, 1) := by decide +kernel
theorem dX3_copyFrom_31 : decode cX3_copyFrom 31 = .ok (.iastore, 1) := by decide +kernel
theorem dX3_copyFrom_32 : decode cX3_copyFrom 32 = .ok (.iinc 2 1, 3) := by decide +kernel
theorem dX3_copyFrom_35 : decode cX3_copyFrom 35 = .ok (.goto (-33), 3) := by decide +kernel
theorem dX3_copyFrom_38 : decode cX3_copyFrom 38 = .ok (.return_, 1) := by decide +kernel
set_option maxRecDepth 20000 in
theorem ggX4_init_X3_init : GoodIn wsX4_init wsX3_init := goodIn_r _ [26, 27, 2, 3, 28, 29, 53] (by decide +kernel) (by decide +kernel)
set_option maxRecDepth 20000 in
theorem gX4_init_X3_init : GoodIn wsX4_init (wsX3_init) := ggX4_init_X3_init
set_option maxRecDepth 20000 in
theorem ggX4_init_X1_init : GoodIn wsX4_init wsX1_init := goodIn_r _ [32, 33, 2, 3, 34, 5, 6, 35, 36, 37, 38, 39, 40, 41, 42, 25, 26, 27, 28, 29, 43, 44, 45, 46, 53, 65, 66, 67, 68, 69, 70, 71] (by decide +kernel) (by decide +kernel)
set_option maxRecDepth 20000 in
theorem gX4_init_X1_init : GoodIn wsX4_init (wsX1_init) := ggX4_init_X1_init
set_option maxRecDepth 20000 in
theorem ggX4_init_X3_put : GoodIn wsX4_init wsX3_put := goodIn_r _ [46, 29, 53] (by decide +kernel) (by decide +kernel)
set_option maxRecDepth 20000 in
theorem gX4_init_X3_put : GoodIn wsX4_init (wsV RX4 58 RX3 yX3_put wsX3_put) := goodIn_app (goodIn_of _ (by decide +kernel)) ggX4_init_X3_put
set_option maxRecDepth 20000 in
theorem ggX4_init_X2_init : GoodIn wsX4_init wsX2_init := goodIn_r _ [50, 51, 2, 3, 52, 72, 73, 74, 75, 76, 77, 78, 79, 80, 81, 82] (by decide +kernel) (by decide +kernel)
set_option maxRecDepth 20000 in
theorem gX4_init_X2_init : GoodIn wsX4_init (wsX2_init) := ggX4_init_X2_init
theorem dX4_init_0 : decode cX4_init 0 = .ok (.aload_n 0, 1) := by decide +kernel
theorem dX4_init_1 : decode cX4_init 1 = .ok (.invokespecial 3, 3) := by decide +kernel
theorem dX4_init_4 : decode cX4_init 4 = .ok (.aload_n 0, 1) := by decide +kernel
theorem dX4_init_5 : decode cX4_init 5 = .ok (.new 9, 3) := by decide +kernel
theorem dX4_init_8 : decode cX4_init 8 = .ok (.dup, 1) := by decide +kernel
theorem dX4_init_9 : decode cX4_init 9 = .ok (.iconst 4, 1) := by decide +kernel
theorem dX4_init_10 : decode cX4_init 10 = .ok (.invokespecial 11, 3) := by decide +kernel
theorem dX4_init_13 : decode cX4_init 13 = .ok (.putfield 14, 3) := by decide +kernel
theorem dX4_init_16 : decode cX4_init 16 = .ok (.aload_n 0, 1) := by decide +kernel
theorem dX4_init_17 : decode cX4_init 17 = .ok (.new 9, 3) := by decide +kernel
theorem dX4_init_20 : decode cX4_init 20 = .ok (.dup, 1) := by decide +kernel
theorem dX4_init_21 : decode cX4_init 21 = .ok (.iconst 5, 1) := by decide +kernel
theorem dX4_init_22 : decode cX4_init 22 = .ok (.invokespecial 11, 3) := by decide +kernel
theorem dX4_init_25 : decode cX4_init 25 = .ok (.putfield 20, 3) := by decide +kernel
theorem dX4_init_28 : decode cX4_init 28 = .ok (.aload_n 0, 1) := by decide +kernel
theorem dX4_init_29 : decode cX4_init 29 = .ok (.new 23, 3) := by decide +kernel
theorem dX4_init_32 : decode cX4_init 32 = .ok (.dup, 1) := by decide +kernel
theorem dX4_init_33 : decode cX4_init 33 = .ok (.invokespecial 25, 3) := by decide +kernel
theorem dX4_init_36 : decode cX4_init 36 = .ok (.putfield 26, 3) := by decide +kernel
theorem dX4_init_39 : decode cX4_init 39 = .ok (.aload_n 0, 1) := by decide +kernel
theorem dX4_init_40 : decode cX4_init 40 = .ok (.new 23, 3) := by decide +kernel
theorem dX4_init_43 : decode cX4_init 43 = .ok (.dup, 1) := by decide +kernel
theorem dX4_init_44 : decode cX4_init 44 = .ok (.invokespecial 25, 3) := by decide +kernel
theorem dX4_init_47 : decode cX4_init 47 = .ok (.putfield 30, 3) := by decide +kernel
theorem dX4_init_50 : decode cX4_init 50 = .ok (.aload_n 0, 1) := by decide +kernel
theorem dX4_init_51 : decode cX4_init 51 = .ok (.new 23, 3) := by decide +kernel
theorem dX4_init_54 : decode cX4_init 54 = .ok (.dup, 1) := by decide +kernel
theorem dX4_init_55 : decode cX4_init 55 = .ok (.invokespecial 25, 3) := by decide +kernel
theorem dX4_init_58 : decode cX4_init 58 = .ok (.putfield 33, 3) := by decide +kernel
theorem dX4_init_61 : decode cX4_init 61 = .ok (.aload_n 0, 1) := by decide +kernel
theorem dX4_init_62 : decode cX4_init 62 = .ok (.bipush 32, 2) := by decide +kernel
theorem dX4_init_64 : decode cX4_init 64 = .ok (.anewarray 36, 3) := by decide +kernel
theorem dX4_init_67 : decode cX4_init 67 = .ok (.putfield 38, 3) := by decide +kernel
theorem dX4_init_70 : decode cX4_init 70 = .ok (.aload_n 0, 1) := by decide +kernel
theorem dX4_init_71 : decode cX4_init 71 = .ok (.iconst 0, 1) := by decide +kernel
theorem dX4_init_72 : decode cX4_init 72 = .ok (.putfield 42, 3) := by decide +kernel
theorem dX4_init_75 : decode cX4_init 75 = .ok (.aload_n 0, 1) := by decide +kernel
theorem dX4_init_76 : decode cX4_init 76 = .ok (.iconst 0, 1) := by decide +kernel
theorem dX4_init_77 : decode cX4_init 77 = .ok (.putfield 46, 3) := by decide +kernel
theorem dX4_init_80 : decode cX4_init 80 = .ok (.aload_n 0, 1) := by decide +kernel
theorem dX4_init_81 : decode cX4_init 81 = .ok (.iconst 0, 1) := by decide +kernel
theorem dX4_init_82 : decode cX4_init 82 = .ok (.putfield 49, 3) := by decide +kernel
theorem dX4_init_85 : decode cX4_init 85 = .ok (.aload_n 0, 1) := by decide +kernel
theorem dX4_init_86 : decode cX4_init 86 = .ok (.iconst 0, 1) := by decide +kernel
theorem dX4_init_87 : decode cX4_init 87 = .ok (.putfield 52, 3) := by decide +kernel
theorem dX4_init_90 : decode cX4_init 90 = .ok (.aload_n 0, 1) := by decide +kernel
theorem dX4_init_91 : decode cX4_init 91 = .ok (.iconst 0, 1) := by decide +kernel
theorem dX4_init_92 : decode cX4_init 92 = .ok (.putfield 55, 3) := by decide +kernel
theorem dX4_init_95 : decode cX4_init 95 = .ok (.aload_n 0, 1) := by decide +kernel
theorem dX4_init_96 : decode cX4_init 96 = .ok (.getfield 14, 3) := by decide +kernel
theorem dX4_init_99 : decode cX4_init 99 = .ok (.iconst 0, 1) := by decide +kernel
theorem dX4_init_100 : decode cX4_init 100 = .ok (.iconst 4, 1) := by decide +kernel
theorem dX4_init_101 : decode cX4_init 101 = .ok (.invokevirtual 58, 3) := by decide +kernel
theorem dX4_init_104 : decode cX4_init 104 = .ok (.aload_n 0, 1) := by decide +kernel
theorem dX4_init_105 : decode cX4_init 105 = .ok (.getfield 14, 3) := by decide +kernel
theorem dX4_init_108 : decode cX4_init 108 = .ok (.iconst 1, 1) := by decide +kernel
theorem dX4_init_109 : decode cX4_init 109 = .ok (.bipush 20, 2) := by decide +kernel
theorem dX4_init_111 : decode cX4_init 111 = .ok (.invokevirtual 58, 3) := by decide +kernel
theorem dX4_init_114 : decode cX4_init 114 = .ok (.aload_n 0, 1) := by decide +kernel
theorem dX4_init_115 : decode cX4_init 115 = .ok (.getfield 14, 3) := by decide +kernel
theorem dX4_init_118 : decode cX4_init 118 = .ok (.iconst 2, 1) := by decide +kernel
theorem dX4_init_119 : decode cX4_init 119 = .ok (.iconst 3, 1) := by decide +kernel
theorem dX4_init_120 : decode cX4_init 120 = .ok (.invokevirtual 58, 3) := by decide +kernel
theorem dX4_init_123 : decode cX4_init 123 = .ok (.aload_n 0, 1) := by decide +kernel
theorem dX4_init_124 : decode cX4_init 124 = .ok (.getfield 14, 3) := by decide +kernel
theorem dX4_init_127 : decode cX4_init 127 = .ok (.iconst 3, 1) := by decide +kernel
theorem dX4_init_128 : decode cX4_init 128 = .ok (.iconst 1, 1) := by decide +kernel
theorem dX4_init_129 : decode cX4_init 129 = .ok (.invokevirtual 58, 3) := by decide +kernel
theorem dX4_init_132 : decode cX4_init 132 = .ok (.iconst 0, 1) := by decide +kernel
theorem dX4_init_133 : decode cX4_init 133 = .ok (.istore_n 1, 1) := by decide +kernel
theorem dX4_init_134 : decode cX4_init 134 = .ok (.iload_n 1, 1) := by decide +kernel
theorem dX4_init_135 : decode cX4_init 135 = .ok (.iconst 5, 1) := by decide +kernel
theorem dX4_init_136 : decode cX4_init 136 = .ok (.if_icmp .ge 20, 3) := by decide +kernel
theorem dX4_init_139 : decode cX4_init 139 = .ok (.aload_n 0, 1) := by decide +kernel
theorem dX4_init_140 : decode cX4_init 140 = .ok (.getfield 20, 3) := by decide +kernel
theorem dX4_init_143 : decode cX4_init 143 = .ok (.iload_n 1, 1) := by decide +kernel
theorem dX4_init_144 : decode cX4_init 144 = .ok (.sipush 128, 3) := by decide +kernel
theorem dX4_init_147 : decode cX4_init 147 = .ok (.invokevirtual 58, 3) := by decide +kernel
theorem dX4_init_150 : decode cX4_init 150 = .ok (.iinc 1 1, 3) := by decide +kernel
theorem dX4_init_153 : decode cX4_init 153 = .ok (.goto (-19), 3) := by decide +kernel
theorem dX4_init_156 : decode cX4_init 156 = .ok (.iconst 0, 1) := by decide +kernel
theorem dX4_init_157 : decode cX4_init 157 = .ok (.istore_n 1, 1) := by decide +kernel
theorem dX4_init_158 : decode cX4_init 158 = .ok (.iload_n 1, 1) := by decide +kernel
theorem dX4_init_159 : decode cX4_init 159 = .ok (.aload_n 0, 1) := by decide +kernel
theorem dX4_init_160 : decode cX4_init 160 = .ok (.getfield 38, 3) := by decide +kernel
theorem dX4_init_163 : decode cX4_init 163 = .ok (.arraylength, 1) := by decide +kernel
theorem dX4_init_164 : decode cX4_init 164 = .ok (.if_icmp .ge 23, 3) := by decide +kernel
theorem dX4_init_167 : decode cX4_init 167 = .ok (.aload_n 0, 1) := by decide +kernel
theorem dX4_init_168 : decode cX4_init 168 = .ok (.getfield 38, 3) := by decide +kernel
theorem dX4_init_171 : decode cX4_init 171 = .ok (.iload_n 1, 1) := by decide +kernel
theorem dX4_init_172 : decode cX4_init 172 = .ok (.new 36, 3) := by decide +kernel
theorem dX4_init_175 : decode cX4_init 175 = .ok (.dup, 1) := by decide +kernel
theorem dX4_init_176 : decode cX4_init 176 = .ok (.iload_n 1, 1) := by decide +kernel
theorem dX4_init_177 : decode cX4_init 177 = .ok (.invokespecial 62, 3) := by decide +kernel
theorem dX4_init_180 : decode cX4_init 180 = .ok (.aastore, 1) := by decide +kernel
theorem dX4_init_181 : decode cX4_init 181 = .ok (.iinc 1 1, 3) := by decide +kernel
theorem dX4_init_184 : decode cX4_init 184 = .ok (.goto (-26), 3) := by decide +kernel
theorem dX4_init_187 : decode cX4_init 187 = .ok (.return_, 1) := by decide +kernel
set_option maxRecDepth 20000 in
theorem ggX4_copyFrom_X3_copyFrom : GoodIn wsX4_copyFrom wsX3_copyFrom := goodIn_r _ [15, 16, 62] (by decide +kernel) (by decide +kernel)
set_option maxRecDepth 20000 in
theorem gX4_copyFrom_X3_copyFrom : GoodIn wsX4_copyFrom (wsV RX4 63 RX3 yX3_copyFrom wsX3_copyFrom) := goodIn_app (goodIn_of _ (by decide +kernel)) ggX4_copyFrom_X3_copyFrom
set_option maxRecDepth 20000 in
theorem ggX4_copyFrom_X1_copyFrom : GoodIn wsX4_copyFrom wsX1_copyFrom := goodIn_r _ [21, 22, 23, 24, 25, 26, 27, 28, 29, 12, 13, 14, 15, 16, 63, 64, 65, 66, 67, 68, 69, 62] (by decide +kernel) (by decide +kernel)
set_option maxRecDepth 20000 in
theorem gX4_copyFrom_X1_copyFrom : GoodIn wsX4_copyFrom (wsV RX4 67 RX1 yX1_copyFrom wsX1_copyFrom) := goodIn_app (goodIn_of _ (by decide +kernel)) ggX4_copyFrom_X1_copyFrom
set_option maxRecDepth 20000 in
theorem ggX4_copyFrom_X4_find : GoodIn wsX4_copyFrom wsX4_find := goodIn_r _ [34, 6, 35, 51, 52, 53, 54, 55, 56, 57, 58, 59, 60, 61] (by decide +kernel) (by decide +kernel)
set_option maxRecDepth 20000 in
theorem gX4_copyFrom_X4_find : GoodIn wsX4_copyFrom (wsV RX4 70 RX4 yX4_find wsX4_find) := goodIn_app (goodIn_of _ (by decide +kernel)) ggX4_copyFrom_X4_find
set_option maxRecDepth 20000 in
theorem ggX4_copyFrom_X2_copyFrom : GoodIn wsX4_copyFrom wsX2_copyFrom := goodIn_r _ [40, 41, 42, 43, 44, 45, 46, 47, 48, 49, 50, 70, 71, 72, 73, 74, 75, 76, 77, 78, 79, 80] (by decide +kernel) (by decide +kernel)
set_option maxRecDepth 20000 in
theorem gX4_copyFrom_X2_copyFrom : GoodIn wsX4_copyFrom (wsV RX4 74 RX2 yX2_copyFrom wsX2_copyFrom) := goodIn_app (goodIn_of _ (by decide +kernel)) ggX4_copyFrom_X2_copyFrom
theorem dX4_copyFrom_0 : decode cX4_copyFrom 0 = .ok (.aload_n 0, 1) := by decide +kernel
theorem dX4_copyFrom_1 : decode cX4_copyFrom 1 = .ok (.getfield 14, 3) := by decide +kernel
theorem dX4_copyFrom_4 : decode cX4_copyFrom 4 = .ok (.aload_n 1, 1) := by decide +kernel
theorem dX4_copyFrom_5 : decode cX4_copyFrom 5 = .ok (.getfield 14, 3) := by decide +kernel
theorem dX4_copyFrom_8 : decode cX4_copyFrom 8 = .ok (.invokevirtual 63, 3) := by decide +kernel
theorem dX4_copyFrom_11 : decode cX4_copyFrom 11 = .ok (.aload_n 0, 1) := by decide +kernel
theorem dX4_copyFrom_12 : decode cX4_copyFrom 12 = .ok (.getfield 20, 3) := by decide +kernel
theorem dX4_copyFrom_15 : decode cX4_copyFrom 15 = .ok (.aload_n 1, 1) := by decide +kernel
theorem dX4_copyFrom_16 : decode cX4_copyFrom 16 = .ok (.getfield 20, 3) := by decide +kernel
theorem dX4_copyFrom_19 : decode cX4_copyFrom 19 = .ok (.invokevirtual 63, 3) := by decide +kernel
theorem dX4_copyFrom_22 : decode cX4_copyFrom 22 = .ok (.aload_n 0, 1) := by decide +kernel
theorem dX4_copyFrom_23 : decode cX4_copyFrom 23 = .ok (.getfield 26, 3) := by decide +kernel
theorem dX4_copyFrom_26 : decode cX4_copyFrom 26 = .ok (.aload_n 1, 1) := by decide +kernel
theorem dX4_copyFrom_27 : decode cX4_copyFrom 27 = .ok (.getfield 26, 3) := by decide +kernel
theorem dX4_copyFrom_30 : decode cX4_copyFrom 30 = .ok (.invokevirtual 67, 3) := by decide +kernel
theorem dX4_copyFrom_33 : decode cX4_copyFrom 33 = .ok (.aload_n 0, 1) := by decide +kernel
theorem dX4_copyFrom_34 : decode cX4_copyFrom 34 = .ok (.getfield 30, 3) := by decide +kernel
theorem dX4_copyFrom_37 : decode cX4_copyFrom 37 = .ok (.aload_n 1, 1) := by decide +kernel
theorem dX4_copyFrom_38 : decode cX4_copyFrom 38 = .ok (.getfield 30, 3) := by decide +kernel
theorem dX4_copyFrom_41 : decode cX4_copyFrom 41 = .ok (.invokevirtual 67, 3) := by decide +kernel
theorem dX4_copyFrom_44 : decode cX4_copyFrom 44 = .ok (.aload_n 0, 1) := by decide +kernel
theorem dX4_copyFrom_45 : decode cX4_copyFrom 45 = .ok (.getfield 33, 3) := by decide +kernel
theorem dX4_copyFrom_48 : decode cX4_copyFrom 48 = .ok (.aload_n 1, 1) := by decide +kernel
theorem dX4_copyFrom_49 : decode cX4_copyFrom 49 = .ok (.getfield 33, 3) := by decide +kernel
theorem dX4_copyFrom_52 : decode cX4_copyFrom 52 = .ok (.invokevirtual 67, 3) := by decide +kernel
theorem dX4_copyFrom_55 : decode cX4_copyFrom 55 = .ok (.aload_n 0, 1) := by decide +kernel
theorem dX4_copyFrom_56 : decode cX4_copyFrom 56 = .ok (.aload_n 1, 1) := by decide +kernel
theorem dX4_copyFrom_57 : decode cX4_copyFrom 57 = .ok (.getfield 42, 3) := by decide +kernel
theorem dX4_copyFrom_60 : decode cX4_copyFrom 60 = .ok (.putfield 42, 3) := by decide +kernel
theorem dX4_copyFrom_63 : decode cX4_copyFrom 63 = .ok (.aload_n 0, 1) := by decide +kernel
theorem dX4_copyFrom_64 : decode cX4_copyFrom 64 = .ok (.aload_n 1, 1) := by decide +kernel
theorem dX4_copyFrom_65 : decode cX4_copyFrom 65 = .ok (.getfield 46, 3) := by decide +kernel
theorem dX4_copyFrom_68 : decode cX4_copyFrom 68 = .ok (.putfield 46, 3) := by decide +kernel
theorem dX4_copyFrom_71 : decode cX4_copyFrom 71 = .ok (.aload_n 0, 1) := by decide +kernel
theorem dX4_copyFrom_72 : decode cX4_copyFrom 72 = .ok (.aload_n 1, 1) := by decide +kernel
theorem dX4_copyFrom_73 : decode cX4_copyFrom 73 = .ok (.getfield 49, 3) := by decide +kernel
theorem dX4_copyFrom_76 : decode cX4_copyFrom 76 = .ok (.putfield 49, 3) := by decide +kernel
theorem dX4_copyFrom_79 : decode cX4_copyFrom 79 = .ok (.aload_n 0, 1) := by decide +kernel
theorem dX4_copyFrom_80 : decode cX4_copyFrom 80 = .ok (.aload_n 1, 1) := by decide +kernel
theorem dX4_copyFrom_81 : decode cX4_copyFrom 81 = .ok (.getfield 52, 3) := by decide +kernel
theorem dX4_copyFrom_84 : decode cX4_copyFrom 84 = .ok (.putfield 52, 3) := by decide +kernel
theorem dX4_copyFrom_87 : decode cX4_copyFrom 87 = .ok (.aload_n 0, 1) := by decide +kernel
theorem dX4_copyFrom_88 : decode cX4_copyFrom 88 = .ok (.aload_n 1, 1) := by decide +kernel
theorem dX4_copyFrom_89 : decode cX4_copyFrom 89 = .ok (.getfield 55, 3) := by decide +kernel
theorem dX4_copyFrom_92 : decode cX4_copyFrom 92 = .ok (.putfield 55, 3) := by decide +kernel
theorem dX4_copyFrom_95 : decode cX4_copyFrom 95 = .ok (.iconst 0, 1) := by decide +kernel
theorem dX4_copyFrom_96 : decode cX4_copyFrom 96 = .ok (.istore_n 2, 1) := by decide +kernel
theorem dX4_copyFrom_97 : decode cX4_copyFrom 97 = .ok (.iload_n 2, 1) := by decide +kernel
theorem dX4_copyFrom_98 : decode cX4_copyFrom 98 = .ok (.aload_n 0, 1) := by decide +kernel
theorem dX4_copyFrom_99 : decode cX4_copyFrom 99 = .ok (.getfield 42, 3) := by decide +kernel
theorem dX4_copyFrom_102 : decode cX4_copyFrom 102 = .ok (.if_icmp .ge 37, 3) := by decide +kernel
theorem dX4_copyFrom_105 : decode cX4_copyFrom 105 = .ok (.aload_n 0, 1) := by decide +kernel
theorem dX4_copyFrom_106 : decode cX4_copyFrom 106 = .ok (.iload_n 2, 1) := by decide +kernel
theorem dX4_copyFrom_107 : decode cX4_copyFrom 107 = .ok (.invokevirtual 70, 3) := by decide +kernel
theorem dX4_copyFrom_110 : decode cX4_copyFrom 110 = .ok (.astore_n 3, 1) := by decide +kernel
theorem dX4_copyFrom_111 : decode cX4_copyFrom 111 = .ok (.aload_n 1, 1) := by decide +kernel
theorem dX4_copyFrom_112 : decode cX4_copyFrom 112 = .ok (.iload_n 2, 1) := by decide +kernel
theorem dX4_copyFrom_113 : decode cX4_copyFrom 113 = .ok (.invokevirtual 70, 3) := by decide +kernel
theorem dX4_copyFrom_116 : decode cX4_copyFrom 116 = .ok (.astore 4, 2) := by decide +kernel
theorem dX4_copyFrom_118 : decode cX4_copyFrom 118 = .ok (.aload_n 3, 1) := by decide +kernel
theorem dX4_copyFrom_119 : decode cX4_copyFrom 119 = .ok (.ifnull 14, 3) := by decide +kernel
theorem dX4_copyFrom_122 : decode cX4_copyFrom 122 = .ok (.aload 4, 2) := by decide +kernel
theorem dX4_copyFrom_124 : decode cX4_copyFrom 124 = .ok (.ifnull 9, 3) := by decide +kernel
theorem dX4_copyFrom_127 : decode cX4_copyFrom 127 = .ok (.aload_n 3, 1) := by decide +kernel
theorem dX4_copyFrom_128 : decode cX4_copyFrom 128 = .ok (.aload 4, 2) := by decide +kernel
theorem dX4_copyFrom_130 : decode cX4_copyFrom 130 = .ok (.invokevirtual 74, 3) := by decide +kernel
theorem dX4_copyFrom_133 : decode cX4_copyFrom 133 = .ok (.iinc 2 1, 3) := by decide +kernel
theorem dX4_copyFrom_136 : decode cX4_copyFrom 136 = .ok (.goto (-39), 3) := by decide +kernel
theorem dX4_copyFrom_139 : decode cX4_copyFrom 139 = .ok (.return_, 1) := by decide +kernel
theorem dX4_lane_0 : decode cX4_lane 0 = .ok (.iload_n 1, 1) := by decide +kernel
theorem dX4_lane_1 : decode cX4_lane 1 = .ok (.lookupswitch 37 #[(0, 27), (1, 32)], 27) := by decide +kernel
theorem dX4_lane_28 : decode cX4_lane 28 = .ok (.aload_n 0, 1) := by decide +kernel
theorem dX4_lane_29 : decode cX4_lane 29 = .ok (.getfield 26, 3) := by decide +kernel
theorem dX4_lane_32 : decode cX4_lane 32 = .ok (.areturn, 1) := by decide +kernel
theorem dX4_lane_33 : decode cX4_lane 33 = .ok (.aload_n 0, 1) := by decide +kernel
theorem dX4_lane_34 : decode cX4_lane 34 = .ok (.getfield 30, 3) := by decide +kernel
theorem dX4_lane_37 : decode cX4_lane 37 = .ok (.areturn, 1) := by decide +kernel
theorem dX4_lane_38 : decode cX4_lane 38 = .ok (.aload_n 0, 1) := by decide +kernel
theorem dX4_lane_39 : decode cX4_lane 39 = .ok (.getfield 33, 3) := by decide +kernel
theorem dX4_lane_42 : decode cX4_lane 42 = .ok (.areturn, 1) := by decide +kernel
theorem dX4_find_0 : decode cX4_find 0 = .ok (.iload_n 1, 1) := by decide +kernel
theorem dX4_find_1 : decode cX4_find 1 = .ok (.ifCond .lt 29, 3) := by decide +kernel
theorem dX4_find_4 : decode cX4_find 4 = .ok (.iload_n 1, 1) := by decide +kernel
theorem dX4_find_5 : decode cX4_find 5 = .ok (.aload_n 0, 1) := by decide +kernel
theorem dX4_find_6 : decode cX4_find 6 = .ok (.getfield 42, 3) := by decide +kernel
theorem dX4_find_9 : decode cX4_find 9 = .ok (.if_icmp .ge 21, 3) := by decide +kernel
theorem dX4_find_12 : decode cX4_find 12 = .ok (.iload_n 1, 1) := by decide +kernel
theorem dX4_find_13 : decode cX4_find 13 = .ok (.aload_n 0, 1) := by decide +kernel
theorem dX4_find_14 : decode cX4_find 14 = .ok (.getfield 38, 3) := by decide +kernel
theorem dX4_find_17 : decode cX4_find 17 = .ok (.arraylength, 1) := by decide +kernel
theorem dX4_find_18 : decode cX4_find 18 = .ok (.if_icmp .ge 12, 3) := by decide +kernel
theorem dX4_find_21 : decode cX4_find 21 = .ok (.aload_n 0, 1) := by decide +kernel
theorem dX4_find_22 : decode cX4_find 22 = .ok (.getfield 38, 3) := by decide +kernel
theorem dX4_find_25 : decode cX4_find 25 = .ok (.iload_n 1, 1) := by decide +kernel
theorem dX4_find_26 : decode cX4_find 26 = .ok (.aaload, 1) := by decide +kernel
theorem dX4_find_27 : decode cX4_find 27 = .ok (.goto 4, 3) := by decide +kernel
theorem dX4_find_30 : decode cX4_find 30 = .ok (.aconst_null, 1) := by decide +kernel
theorem dX4_find_31 : decode cX4_find 31 = .ok (.areturn, 1) := by decide +kernel
set_option maxRecDepth 20000 in
theorem ggX4_errorOfOffer_X6_isKind : GoodIn wsX4_errorOfOffer wsX6_isKind := goodIn_r _ [7] (by decide +kernel) (by decide +kernel)
set_option maxRecDepth 20000 in
theorem gX4_errorOfOffer_X6_isKind_n77 : GoodIn wsX4_errorOfOffer (wsX6_isKind) := ggX4_errorOfOffer_X6_isKind
set_option maxRecDepth 20000 in
theorem ggX4_errorOfOffer_X6_isShape : GoodIn wsX4_errorOfOffer wsX6_isShape := goodIn_r _ [9] (by decide +kernel) (by decide +kernel)
set_option maxRecDepth 20000 in
theorem gX4_errorOfOffer_X6_isShape_n81 : GoodIn wsX4_errorOfOffer (wsX6_isShape) := ggX4_errorOfOffer_X6_isShape
set_option maxRecDepth 20000 in
theorem ggX4_errorOfOffer_X6_isBetween : GoodIn wsX4_errorOfOffer wsX6_isBetween := goodIn_r _ [11] (by decide +kernel) (by decide +kernel)
set_option maxRecDepth 20000 in
theorem gX4_errorOfOffer_X6_isBetween_n85 : GoodIn wsX4_errorOfOffer (wsX6_isBetween) := ggX4_errorOfOffer_X6_isBetween
theorem dX4_errorOfOffer_0 : decode cX4_errorOfOffer 0 = .ok (.iload_n 1, 1) := by decide +kernel
theorem dX4_errorOfOffer_1 : decode cX4_errorOfOffer 1 = .ok (.invokestatic 77, 3) := by decide +kernel
theorem dX4_errorOfOffer_4 : decode cX4_errorOfOffer 4 = .ok (.ifCond .eq 10, 3) := by decide +kernel
theorem dX4_errorOfOffer_7 : decode cX4_errorOfOffer 7 = .ok (.iload_n 2, 1) := by decide +kernel
theorem dX4_errorOfOffer_8 : decode cX4_errorOfOffer 8 = .ok (.invokestatic 81, 3) := by decide +kernel
theorem dX4_errorOfOffer_11 : decode cX4_errorOfOffer 11 = .ok (.ifCond .ne 6, 3) := by decide +kernel
theorem dX4_errorOfOffer_14 : decode cX4_errorOfOffer 14 = .ok (.ldc 84, 2) := by decide +kernel
theorem dX4_errorOfOffer_16 : decode cX4_errorOfOffer 16 = .ok (.ireturn, 1) := by decide +kernel
theorem dX4_errorOfOffer_17 : decode cX4_errorOfOffer 17 = .ok (.iconst 1, 1) := by decide +kernel
theorem dX4_errorOfOffer_18 : decode cX4_errorOfOffer 18 = .ok (.iload_n 3, 1) := by decide +kernel
theorem dX4_errorOfOffer_19 : decode cX4_errorOfOffer 19 = .ok (.bipush 60, 2) := by decide +kernel
theorem dX4_errorOfOffer_21 : decode cX4_errorOfOffer 21 = .ok (.invokestatic 85, 3) := by decide +kernel
theorem dX4_errorOfOffer_24 : decode cX4_errorOfOffer 24 = .ok (.ifCond .ne 6, 3) := by decide +kernel
theorem dX4_errorOfOffer_27 : decode cX4_errorOfOffer 27 = .ok (.ldc 89, 2) := by decide +kernel
theorem dX4_errorOfOffer_29 : decode cX4_errorOfOffer 29 = .ok (.ireturn, 1) := by decide +kernel
theorem dX4_errorOfOffer_30 : decode cX4_errorOfOffer 30 = .ok (.aload_n 0, 1) := by decide +kernel
theorem dX4_errorOfOffer_31 : decode cX4_errorOfOffer 31 = .ok (.getfield 42, 3) := by decide +kernel
theorem dX4_errorOfOffer_34 : decode cX4_errorOfOffer 34 = .ok (.bipush 32, 2) := by decide +kernel
theorem dX4_errorOfOffer_36 : decode cX4_errorOfOffer 36 = .ok (.if_icmp .lt 8, 3) := by decide +kernel
theorem dX4_errorOfOffer_39 : decode cX4_errorOfOffer 39 = .ok (.ldc 90, 2) := by decide +kernel
theorem dX4_errorOfOffer_41 : decode cX4_errorOfOffer 41 = .ok (.goto 4, 3) := by decide +kernel
theorem dX4_errorOfOffer_44 : decode cX4_errorOfOffer 44 = .ok (.iconst 0, 1) := by decide +kernel
theorem dX4_errorOfOffer_45 : decode cX4_errorOfOffer 45 = .ok (.ireturn, 1) := by decide +kernel
set_option maxRecDepth 20000 in
theorem ggX4_errorOfTicks_X6_isBetween : GoodIn wsX4_errorOfTicks wsX6_isBetween := goodIn_r _ [6] (by decide +kernel) (by decide +kernel)
set_option maxRecDepth 20000 in
theorem gX4_errorOfTicks_X6_isBetween_n85 : GoodIn wsX4_errorOfTicks (wsX6_isBetween) := ggX4_errorOfTicks_X6_isBetween
theorem dX4_errorOfTicks_0 : decode cX4_errorOfTicks 0 = .ok (.iconst 1, 1) := by decide +kernel
theorem dX4_errorOfTicks_1 : decode cX4_errorOfTicks 1 = .ok (.iload_n 1, 1) := by decide +kernel
theorem dX4_errorOfTicks_2 : decode cX4_errorOfTicks 2 = .ok (.bipush 99, 2) := by decide +kernel
theorem dX4_errorOfTicks_4 : decode cX4_errorOfTicks 4 = .ok (.invokestatic 85, 3) := by decide +kernel
theorem dX4_errorOfTicks_7 : decode cX4_errorOfTicks 7 = .ok (.ifCond .ne 6, 3) := by decide +kernel
theorem dX4_errorOfTicks_10 : decode cX4_errorOfTicks 10 = .ok (.ldc 89, 2) := by decide +kernel
theorem dX4_errorOfTicks_12 : decode cX4_errorOfTicks 12 = .ok (.ireturn, 1) := by decide +kernel
theorem dX4_errorOfTicks_13 : decode cX4_errorOfTicks 13 = .ok (.aload_n 0, 1) := by decide +kernel
theorem dX4_errorOfTicks_14 : decode cX4_errorOfTicks 14 = .ok (.getfield 52, 3) := by decide +kernel
theorem dX4_errorOfTicks_17 : decode cX4_errorOfTicks 17 = .ok (.iload_n 1, 1) := by decide +kernel
theorem dX4_errorOfTicks_18 : decode cX4_errorOfTicks 18 = .ok (.iadd, 1) := by decide +kernel
theorem dX4_errorOfTicks_19 : decode cX4_errorOfTicks 19 = .ok (.sipush 999, 3) := by decide +kernel
theorem dX4_errorOfTicks_22 : decode cX4_errorOfTicks 22 = .ok (.if_icmp .le 8, 3) := by decide +kernel
theorem dX4_errorOfTicks_25 : decode cX4_errorOfTicks 25 = .ok (.ldc 90, 2) := by decide +kernel
theorem dX4_errorOfTicks_27 : decode cX4_errorOfTicks 27 = .ok (.goto 4, 3) := by decide +kernel
theorem dX4_errorOfTicks_30 : decode cX4_errorOfTicks 30 = .ok (.iconst 0, 1) := by decide +kernel
theorem dX4_errorOfTicks_31 : decode cX4_errorOfTicks 31 = .ok (.ireturn, 1) := by decide +kernel
set_option maxRecDepth 20000 in
theorem ggX4_offerNew_X2_begin : GoodIn wsX4_offerNew wsX2_begin := goodIn_r _ [9, 10, 11, 12, 13, 14, 15, 16, 17, 18, 19, 116, 117, 118, 119, 120, 121, 122, 123, 124, 125, 126] (by decide +kernel) (by decide +kernel)
set_option maxRecDepth 20000 in
theorem gX4_offerNew_X2_begin : GoodIn wsX4_offerNew (wsV RX4 91 RX2 yX2_begin wsX2_begin) := goodIn_app (goodIn_of _ (by decide +kernel)) ggX4_offerNew_X2_begin
set_option maxRecDepth 20000 in
theorem ggX4_offerNew_X4_offerNow : GoodIn wsX4_offerNew wsX4_offerNow := goodIn_r _ [24, 25, 26, 27, 28, 29, 30, 31, 23, 32, 33, 34, 35, 36, 37, 38, 39, 40, 41, 42, 43, 44, 45, 46, 47, 48, 49, 50, 51, 52, 53, 54, 55, 56, 57, 58, 59, 60, 61, 62, 63, 64, 65, 66, 67, 68, 1, 2, 69, 70, 71, 72, 73, 74, 75, 76, 77, 78, 79, 80, 81, 82, 83, 84, 85, 86, 87, 88, 89, 90, 91, 92, 93, 94, 95, 96, 97, 98, 99, 100, 101, 102, 4, 103, 104, 116, 117, 118, 119, 120, 121, 122, 123, 124, 125, 126, 105, 106, 107, 108, 109, 110, 111, 112, 113, 114, 115, 127, 128, 129, 130, 131, 132, 133, 134] (by decide +kernel) (by decide +kernel)
set_option maxRecDepth 20000 in
theorem gX4_offerNew_X4_offerNow : GoodIn wsX4_offerNew (wsV RX4 95 RX4 yX4_offerNow wsX4_offerNow) := goodIn_app (goodIn_of _ (by decide +kernel)) ggX4_offerNew_X4_offerNow
theorem dX4_offerNew_0 : decode cX4_offerNew 0 = .ok (.aload_n 0, 1) := by decide +kernel
theorem dX4_offerNew_1 : decode cX4_offerNew 1 = .ok (.getfield 42, 3) := by decide +kernel
theorem dX4_offerNew_4 : decode cX4_offerNew 4 = .ok (.ifCond .lt 27, 3) := by decide +kernel
theorem dX4_offerNew_7 : decode cX4_offerNew 7 = .ok (.aload_n 0, 1) := by decide +kernel
theorem dX4_offerNew_8 : decode cX4_offerNew 8 = .ok (.getfield 42, 3) := by decide +kernel
theorem dX4_offerNew_11 : decode cX4_offerNew 11 = .ok (.aload_n 0, 1) := by decide +kernel
theorem dX4_offerNew_12 : decode cX4_offerNew 12 = .ok (.getfield 38, 3) := by decide +kernel
theorem dX4_offerNew_15 : decode cX4_offerNew 15 = .ok (.arraylength, 1) := by decide +kernel
theorem dX4_offerNew_16 : decode cX4_offerNew 16 = .ok (.if_icmp .ge 15, 3) := by decide +kernel
theorem dX4_offerNew_19 : decode cX4_offerNew 19 = .ok (.aload_n 0, 1) := by decide +kernel
theorem dX4_offerNew_20 : decode cX4_offerNew 20 = .ok (.getfield 38, 3) := by decide +kernel
theorem dX4_offerNew_23 : decode cX4_offerNew 23 = .ok (.aload_n 0, 1) := by decide +kernel
theorem dX4_offerNew_24 : decode cX4_offerNew 24 = .ok (.getfield 42, 3) := by decide +kernel
theorem dX4_offerNew_27 : decode cX4_offerNew 27 = .ok (.aaload, 1) := by decide +kernel
theorem dX4_offerNew_28 : decode cX4_offerNew 28 = .ok (.goto 4, 3) := by decide +kernel
theorem dX4_offerNew_31 : decode cX4_offerNew 31 = .ok (.aconst_null, 1) := by decide +kernel
theorem dX4_offerNew_32 : decode cX4_offerNew 32 = .ok (.astore 4, 2) := by decide +kernel
theorem dX4_offerNew_34 : decode cX4_offerNew 34 = .ok (.aload 4, 2) := by decide +kernel
theorem dX4_offerNew_36 : decode cX4_offerNew 36 = .ok (.ifnonnull 6, 3) := by decide +kernel
theorem dX4_offerNew_39 : decode cX4_offerNew 39 = .ok (.ldc 90, 2) := by decide +kernel
theorem dX4_offerNew_41 : decode cX4_offerNew 41 = .ok (.ireturn, 1) := by decide +kernel
theorem dX4_offerNew_42 : decode cX4_offerNew 42 = .ok (.aload_n 0, 1) := by decide +kernel
theorem dX4_offerNew_43 : decode cX4_offerNew 43 = .ok (.dup, 1) := by decide +kernel
theorem dX4_offerNew_44 : decode cX4_offerNew 44 = .ok (.getfield 42, 3) := by decide +kernel
theorem dX4_offerNew_47 : decode cX4_offerNew 47 = .ok (.iconst 1, 1) := by decide +kernel
theorem dX4_offerNew_48 : decode cX4_offerNew 48 = .ok (.iadd, 1) := by decide +kernel
theorem dX4_offerNew_49 : decode cX4_offerNew 49 = .ok (.putfield 42, 3) := by decide +kernel
theorem dX4_offerNew_52 : decode cX4_offerNew 52 = .ok (.aload_n 0, 1) := by decide +kernel
theorem dX4_offerNew_53 : decode cX4_offerNew 53 = .ok (.dup, 1) := by decide +kernel
theorem dX4_offerNew_54 : decode cX4_offerNew 54 = .ok (.getfield 46, 3) := by decide +kernel
theorem dX4_offerNew_57 : decode cX4_offerNew 57 = .ok (.iconst 1, 1) := by decide +kernel
theorem dX4_offerNew_58 : decode cX4_offerNew 58 = .ok (.iadd, 1) := by decide +kernel
theorem dX4_offerNew_59 : decode cX4_offerNew 59 = .ok (.putfield 46, 3) := by decide +kernel
theorem dX4_offerNew_62 : decode cX4_offerNew 62 = .ok (.aload 4, 2) := by decide +kernel
theorem dX4_offerNew_64 : decode cX4_offerNew 64 = .ok (.iload_n 1, 1) := by decide +kernel
theorem dX4_offerNew_65 : decode cX4_offerNew 65 = .ok (.iload_n 2, 1) := by decide +kernel
theorem dX4_offerNew_66 : decode cX4_offerNew 66 = .ok (.iload_n 3, 1) := by decide +kernel
theorem dX4_offerNew_67 : decode cX4_offerNew 67 = .ok (.invokevirtual 91, 3) := by decide +kernel
theorem dX4_offerNew_70 : decode cX4_offerNew 70 = .ok (.aload_n 0, 1) := by decide +kernel
theorem dX4_offerNew_71 : decode cX4_offerNew 71 = .ok (.aload 4, 2) := by decide +kernel
theorem dX4_offerNew_73 : decode cX4_offerNew 73 = .ok (.invokevirtual 95, 3) := by decide +kernel
theorem dX4_offerNew_76 : decode cX4_offerNew 76 = .ok (.ireturn, 1) := by decide +kernel
set_option maxRecDepth 20000 in
theorem ggX4_letPass_X4_tick : GoodIn wsX4_letPass wsX4_tick := goodIn_r _ [5, 6, 7, 8, 9, 10, 11, 12, 13, 14, 4, 15, 16, 17, 18, 19, 20, 21, 22, 23, 24, 25, 26, 27, 28, 29, 30, 31, 32, 33, 34, 35, 36, 37, 38, 39, 40, 41, 42, 43, 44, 45, 46, 47, 48, 49, 50, 51, 52, 53, 54, 55, 56, 57, 58, 59, 60, 61, 62, 63, 64, 65, 66, 67, 68, 69, 70, 71, 72, 73, 74, 75, 76, 77, 78, 79, 80, 81, 82, 83, 84, 85, 86, 87, 88, 89, 90, 91, 92, 93, 94, 95, 96, 97, 98, 99, 100, 101, 102, 103, 104, 105, 106, 107, 108, 109, 110, 111, 112, 113, 114, 115, 116, 117, 118, 119, 120, 121, 122, 123, 124, 125, 126, 127, 128, 129, 130, 131, 132, 133, 134, 135, 136, 137, 138, 139, 140, 141, 142, 143, 144, 145, 146, 147, 148, 149, 150, 151, 152, 153, 154, 155, 156, 157, 158, 159] (by decide +kernel) (by decide +kernel)
set_option maxRecDepth 20000 in
theorem gX4_letPass_X4_tick : GoodIn wsX4_letPass (wsV RX4 99 RX4 yX4_tick wsX4_tick) := goodIn_app (goodIn_of _ (by decide +kernel)) ggX4_letPass_X4_tick
theorem dX4_letPass_0 : decode cX4_letPass 0 = .ok (.iconst 0, 1) := by decide +kernel
theorem dX4_letPass_1 : decode cX4_letPass 1 = .ok (.istore_n 2, 1) := by decide +kernel
theorem dX4_letPass_2 : decode cX4_letPass 2 = .ok (.iconst 0, 1) := by decide +kernel
theorem dX4_letPass_3 : decode cX4_letPass 3 = .ok (.istore_n 3, 1) := by decide +kernel
theorem dX4_letPass_4 : decode cX4_letPass 4 = .ok (.iload_n 3, 1) := by decide +kernel
theorem dX4_letPass_5 : decode cX4_letPass 5 = .ok (.iload_n 1, 1) := by decide +kernel
theorem dX4_letPass_6 : decode cX4_letPass 6 = .ok (.if_icmp .ge 16, 3) := by decide +kernel
theorem dX4_letPass_9 : decode cX4_letPass 9 = .ok (.iload_n 2, 1) := by decide +kernel
theorem dX4_letPass_10 : decode cX4_letPass 10 = .ok (.aload_n 0, 1) := by decide +kernel
theorem dX4_letPass_11 : decode cX4_letPass 11 = .ok (.invokevirtual 99, 3) := by decide +kernel
theorem dX4_letPass_14 : decode cX4_letPass 14 = .ok (.iadd, 1) := by decide +kernel
theorem dX4_letPass_15 : decode cX4_letPass 15 = .ok (.istore_n 2, 1) := by decide +kernel
theorem dX4_letPass_16 : decode cX4_letPass 16 = .ok (.iinc 3 1, 3) := by decide +kernel
theorem dX4_letPass_19 : decode cX4_letPass 19 = .ok (.goto (-15), 3) := by decide +kernel
theorem dX4_letPass_22 : decode cX4_letPass 22 = .ok (.iload_n 2, 1) := by decide +kernel
theorem dX4_letPass_23 : decode cX4_letPass 23 = .ok (.ireturn, 1) := by decide +kernel
set_option maxRecDepth 20000 in
theorem ggX4_expectedCost_X3_at : GoodIn wsX4_expectedCost wsX3_at := goodIn_r _ [10, 11, 23] (by decide +kernel) (by decide +kernel)
set_option maxRecDepth 20000 in
theorem gX4_expectedCost_X3_at : GoodIn wsX4_expectedCost (wsV RX4 103 RX3 yX3_at wsX3_at) := goodIn_app (goodIn_of _ (by decide +kernel)) ggX4_expectedCost_X3_at
theorem dX4_expectedCost_0 : decode cX4_expectedCost 0 = .ok (.iconst 1, 1) := by decide +kernel
theorem dX4_expectedCost_1 : decode cX4_expectedCost 1 = .ok (.aload_n 0, 1) := by decide +kernel
theorem dX4_expectedCost_2 : decode cX4_expectedCost 2 = .ok (.getfield 20, 3) := by decide +kernel
theorem dX4_expectedCost_5 : decode cX4_expectedCost 5 = .ok (.iload_n 1, 1) := by decide +kernel
theorem dX4_expectedCost_6 : decode cX4_expectedCost 6 = .ok (.invokevirtual 103, 3) := by decide +kernel
theorem dX4_expectedCost_9 : decode cX4_expectedCost 9 = .ok (.bipush 16, 2) := by decide +kernel
theorem dX4_expectedCost_11 : decode cX4_expectedCost 11 = .ok (.idiv, 1) := by decide +kernel
theorem dX4_expectedCost_12 : decode cX4_expectedCost 12 = .ok (.invokestatic 107, 3) := by decide +kernel
theorem dX4_expectedCost_15 : decode cX4_expectedCost 15 = .ok (.ireturn, 1) := by decide +kernel
set_option maxRecDepth 20000 in
theorem ggX4_backlogOf_X3_at : GoodIn wsX4_backlogOf wsX3_at := goodIn_r _ [13, 14, 40] (by decide +kernel) (by decide +kernel)
set_option maxRecDepth 20000 in
theorem gX4_backlogOf_X3_at : GoodIn wsX4_backlogOf (wsV RX4 103 RX3 yX3_at wsX3_at) := goodIn_app (goodIn_of _ (by decide +kernel)) ggX4_backlogOf_X3_at
set_option maxRecDepth 20000 in
theorem ggX4_backlogOf_X4_find : GoodIn wsX4_backlogOf wsX4_find := goodIn_r _ [19, 20, 21, 41, 42, 43, 44, 45, 46, 47, 48, 49, 50, 51] (by decide +kernel) (by decide +kernel)
set_option maxRecDepth 20000 in
theorem gX4_backlogOf_X4_find : GoodIn wsX4_backlogOf (wsV RX4 70 RX4 yX4_find wsX4_find) := goodIn_app (goodIn_of _ (by decide +kernel)) ggX4_backlogOf_X4_find
theorem dX4_backlogOf_0 : decode cX4_backlogOf 0 = .ok (.iconst 0, 1) := by decide +kernel
theorem dX4_backlogOf_1 : decode cX4_backlogOf 1 = .ok (.istore_n 2, 1) := by decide +kernel
theorem dX4_backlogOf_2 : decode cX4_backlogOf 2 = .ok (.iconst 0, 1) := by decide +kernel
theorem dX4_backlogOf_3 : decode cX4_backlogOf 3 = .ok (.istore_n 3, 1) := by decide +kernel
theorem dX4_backlogOf_4 : decode cX4_backlogOf 4 = .ok (.iload_n 3, 1) := by decide +kernel
theorem dX4_backlogOf_5 : decode cX4_backlogOf 5 = .ok (.aload_n 1, 1) := by decide +kernel
theorem dX4_backlogOf_6 : decode cX4_backlogOf 6 = .ok (.getfield 113, 3) := by decide +kernel
theorem dX4_backlogOf_9 : decode cX4_backlogOf 9 = .ok (.if_icmp .ge 46, 3) := by decide +kernel
theorem dX4_backlogOf_12 : decode cX4_backlogOf 12 = .ok (.aload_n 0, 1) := by decide +kernel
theorem dX4_backlogOf_13 : decode cX4_backlogOf 13 = .ok (.aload_n 1, 1) := by decide +kernel
theorem dX4_backlogOf_14 : decode cX4_backlogOf 14 = .ok (.getfield 116, 3) := by decide +kernel
theorem dX4_backlogOf_17 : decode cX4_backlogOf 17 = .ok (.iload_n 3, 1) := by decide +kernel
theorem dX4_backlogOf_18 : decode cX4_backlogOf 18 = .ok (.invokevirtual 103, 3) := by decide +kernel
theorem dX4_backlogOf_21 : decode cX4_backlogOf 21 = .ok (.invokevirtual 70, 3) := by decide +kernel
theorem dX4_backlogOf_24 : decode cX4_backlogOf 24 = .ok (.astore 4, 2) := by decide +kernel
theorem dX4_backlogOf_26 : decode cX4_backlogOf 26 = .ok (.aload 4, 2) := by decide +kernel
theorem dX4_backlogOf_28 : decode cX4_backlogOf 28 = .ok (.ifnull 21, 3) := by decide +kernel
theorem dX4_backlogOf_31 : decode cX4_backlogOf 31 = .ok (.iload_n 2, 1) := by decide +kernel
theorem dX4_backlogOf_32 : decode cX4_backlogOf 32 = .ok (.iconst 1, 1) := by decide +kernel
theorem dX4_backlogOf_33 : decode cX4_backlogOf 33 = .ok (.aload 4, 2) := by decide +kernel
theorem dX4_backlogOf_35 : decode cX4_backlogOf 35 = .ok (.getfield 119, 3) := by decide +kernel
theorem dX4_backlogOf_38 : decode cX4_backlogOf 38 = .ok (.aload 4, 2) := by decide +kernel
theorem dX4_backlogOf_40 : decode cX4_backlogOf 40 = .ok (.getfield 122, 3) := by decide +kernel
theorem dX4_backlogOf_43 : decode cX4_backlogOf 43 = .ok (.isub, 1) := by decide +kernel
theorem dX4_backlogOf_44 : decode cX4_backlogOf 44 = .ok (.invokestatic 107, 3) := by decide +kernel
theorem dX4_backlogOf_47 : decode cX4_backlogOf 47 = .ok (.iadd, 1) := by decide +kernel
theorem dX4_backlogOf_48 : decode cX4_backlogOf 48 = .ok (.istore_n 2, 1) := by decide +kernel
theorem dX4_backlogOf_49 : decode cX4_backlogOf 49 = .ok (.iinc 3 1, 3) := by decide +kernel
theorem dX4_backlogOf_52 : decode cX4_backlogOf 52 = .ok (.goto (-48), 3) := by decide +kernel
theorem dX4_backlogOf_55 : decode cX4_backlogOf 55 = .ok (.iload_n 2, 1) := by decide +kernel
theorem dX4_backlogOf_56 : decode cX4_backlogOf 56 = .ok (.ireturn, 1) := by decide +kernel
set_option maxRecDepth 20000 in
theorem ggX4_firstRefusal_X3_at : GoodIn wsX4_firstRefusal wsX3_at := goodIn_r _ [12, 13, 53] (by decide +kernel) (by decide +kernel)
set_option maxRecDepth 20000 in
theorem gX4_firstRefusal_X3_at : GoodIn wsX4_firstRefusal (wsV RX4 103 RX3 yX3_at wsX3_at) := goodIn_app (goodIn_of _ (by decide +kernel)) ggX4_firstRefusal_X3_at
set_option maxRecDepth 20000 in
theorem ggX4_firstRefusal_X4_backlogOf : GoodIn wsX4_firstRefusal wsX4_backlogOf := goodIn_r _ [18, 2, 19, 20, 21, 22, 23, 24, 25, 8, 9, 10, 11, 12, 13, 26, 27, 28, 17, 29, 30, 31, 35, 36, 37, 38, 39, 40, 41, 54, 55, 56, 57, 58, 59, 60, 61, 62, 63, 64, 53, 42, 43, 44, 45, 46, 47, 48, 49, 50, 51, 52] (by decide +kernel) (by decide +kernel)
set_option maxRecDepth 20000 in
theorem gX4_firstRefusal_X4_backlogOf : GoodIn wsX4_firstRefusal (wsV RX4 126 RX4 yX4_backlogOf wsX4_backlogOf) := goodIn_app (goodIn_of _ (by decide +kernel)) ggX4_firstRefusal_X4_backlogOf
set_option maxRecDepth 20000 in
theorem ggX4_firstRefusal_X6_quotient : GoodIn wsX4_firstRefusal wsX6_quotient := goodIn_r _ [34] (by decide +kernel) (by decide +kernel)
set_option maxRecDepth 20000 in
theorem gX4_firstRefusal_X6_quotient_n130 : GoodIn wsX4_firstRefusal (wsX6_quotient) := ggX4_firstRefusal_X6_quotient
theorem dX4_firstRefusal_0 : decode cX4_firstRefusal 0 = .ok (.iload_n 2, 1) := by decide +kernel
theorem dX4_firstRefusal_1 : decode cX4_firstRefusal 1 = .ok (.aload_n 1, 1) := by decide +kernel
theorem dX4_firstRefusal_2 : decode cX4_firstRefusal 2 = .ok (.getfield 125, 3) := by decide +kernel
theorem dX4_firstRefusal_5 : decode cX4_firstRefusal 5 = .ok (.iconst 3, 1) := by decide +kernel
theorem dX4_firstRefusal_6 : decode cX4_firstRefusal 6 = .ok (.invokevirtual 103, 3) := by decide +kernel
theorem dX4_firstRefusal_9 : decode cX4_firstRefusal 9 = .ok (.if_icmp .le 5, 3) := by decide +kernel
theorem dX4_firstRefusal_12 : decode cX4_firstRefusal 12 = .ok (.iconst 1, 1) := by decide +kernel
theorem dX4_firstRefusal_13 : decode cX4_firstRefusal 13 = .ok (.ireturn, 1) := by decide +kernel
theorem dX4_firstRefusal_14 : decode cX4_firstRefusal 14 = .ok (.aload_n 1, 1) := by decide +kernel
theorem dX4_firstRefusal_15 : decode cX4_firstRefusal 15 = .ok (.getfield 113, 3) := by decide +kernel
theorem dX4_firstRefusal_18 : decode cX4_firstRefusal 18 = .ok (.bipush 8, 2) := by decide +kernel
theorem dX4_firstRefusal_20 : decode cX4_firstRefusal 20 = .ok (.if_icmp .lt 5, 3) := by decide +kernel
theorem dX4_firstRefusal_23 : decode cX4_firstRefusal 23 = .ok (.iconst 2, 1) := by decide +kernel
theorem dX4_firstRefusal_24 : decode cX4_firstRefusal 24 = .ok (.ireturn, 1) := by decide +kernel
theorem dX4_firstRefusal_25 : decode cX4_firstRefusal 25 = .ok (.aload_n 0, 1) := by decide +kernel
theorem dX4_firstRefusal_26 : decode cX4_firstRefusal 26 = .ok (.getfield 26, 3) := by decide +kernel
theorem dX4_firstRefusal_29 : decode cX4_firstRefusal 29 = .ok (.getfield 125, 3) := by decide +kernel
theorem dX4_firstRefusal_32 : decode cX4_firstRefusal 32 = .ok (.iconst 0, 1) := by decide +kernel
theorem dX4_firstRefusal_33 : decode cX4_firstRefusal 33 = .ok (.invokevirtual 103, 3) := by decide +kernel
theorem dX4_firstRefusal_36 : decode cX4_firstRefusal 36 = .ok (.aload_n 0, 1) := by decide +kernel
theorem dX4_firstRefusal_37 : decode cX4_firstRefusal 37 = .ok (.getfield 30, 3) := by decide +kernel
theorem dX4_firstRefusal_40 : decode cX4_firstRefusal 40 = .ok (.getfield 125, 3) := by decide +kernel
theorem dX4_firstRefusal_43 : decode cX4_firstRefusal 43 = .ok (.iconst 0, 1) := by decide +kernel
theorem dX4_firstRefusal_44 : decode cX4_firstRefusal 44 = .ok (.invokevirtual 103, 3) := by decide +kernel
theorem dX4_firstRefusal_47 : decode cX4_firstRefusal 47 = .ok (.iadd, 1) := by decide +kernel
theorem dX4_firstRefusal_48 : decode cX4_firstRefusal 48 = .ok (.aload_n 0, 1) := by decide +kernel
theorem dX4_firstRefusal_49 : decode cX4_firstRefusal 49 = .ok (.getfield 33, 3) := by decide +kernel
theorem dX4_firstRefusal_52 : decode cX4_firstRefusal 52 = .ok (.getfield 125, 3) := by decide +kernel
theorem dX4_firstRefusal_55 : decode cX4_firstRefusal 55 = .ok (.iconst 0, 1) := by decide +kernel
theorem dX4_firstRefusal_56 : decode cX4_firstRefusal 56 = .ok (.invokevirtual 103, 3) := by decide +kernel
theorem dX4_firstRefusal_59 : decode cX4_firstRefusal 59 = .ok (.iadd, 1) := by decide +kernel
theorem dX4_firstRefusal_60 : decode cX4_firstRefusal 60 = .ok (.istore_n 3, 1) := by decide +kernel
theorem dX4_firstRefusal_61 : decode cX4_firstRefusal 61 = .ok (.aload_n 1, 1) := by decide +kernel
theorem dX4_firstRefusal_62 : decode cX4_firstRefusal 62 = .ok (.getfield 125, 3) := by decide +kernel
theorem dX4_firstRefusal_65 : decode cX4_firstRefusal 65 = .ok (.iconst 0, 1) := by decide +kernel
theorem dX4_firstRefusal_66 : decode cX4_firstRefusal 66 = .ok (.invokevirtual 103, 3) := by decide +kernel
theorem dX4_firstRefusal_69 : decode cX4_firstRefusal 69 = .ok (.aload_n 0, 1) := by decide +kernel
theorem dX4_firstRefusal_70 : decode cX4_firstRefusal 70 = .ok (.getfield 14, 3) := by decide +kernel
theorem dX4_firstRefusal_73 : decode cX4_firstRefusal 73 = .ok (.iconst 0, 1) := by decide +kernel
theorem dX4_firstRefusal_74 : decode cX4_firstRefusal 74 = .ok (.invokevirtual 103, 3) := by decide +kernel
theorem dX4_firstRefusal_77 : decode cX4_firstRefusal 77 = .ok (.imul, 1) := by decide +kernel
theorem dX4_firstRefusal_78 : decode cX4_firstRefusal 78 = .ok (.istore 4, 2) := by decide +kernel
theorem dX4_firstRefusal_80 : decode cX4_firstRefusal 80 = .ok (.aload_n 0, 1) := by decide +kernel
theorem dX4_firstRefusal_81 : decode cX4_firstRefusal 81 = .ok (.aload_n 1, 1) := by decide +kernel
theorem dX4_firstRefusal_82 : decode cX4_firstRefusal 82 = .ok (.invokevirtual 126, 3) := by decide +kernel
theorem dX4_firstRefusal_85 : decode cX4_firstRefusal 85 = .ok (.iload_n 2, 1) := by decide +kernel
theorem dX4_firstRefusal_86 : decode cX4_firstRefusal 86 = .ok (.iadd, 1) := by decide +kernel
theorem dX4_firstRefusal_87 : decode cX4_firstRefusal 87 = .ok (.iload_n 3, 1) := by decide +kernel
theorem dX4_firstRefusal_88 : decode cX4_firstRefusal 88 = .ok (.imul, 1) := by decide +kernel
theorem dX4_firstRefusal_89 : decode cX4_firstRefusal 89 = .ok (.iload 4, 2) := by decide +kernel
theorem dX4_firstRefusal_91 : decode cX4_firstRefusal 91 = .ok (.invokestatic 130, 3) := by decide +kernel
theorem dX4_firstRefusal_94 : decode cX4_firstRefusal 94 = .ok (.istore 5, 2) := by decide +kernel
theorem dX4_firstRefusal_96 : decode cX4_firstRefusal 96 = .ok (.iload 5, 2) := by decide +kernel
theorem dX4_firstRefusal_98 : decode cX4_firstRefusal 98 = .ok (.aload_n 0, 1) := by decide +kernel
theorem dX4_firstRefusal_99 : decode cX4_firstRefusal 99 = .ok (.getfield 14, 3) := by decide +kernel
theorem dX4_firstRefusal_102 : decode cX4_firstRefusal 102 = .ok (.iconst 1, 1) := by decide +kernel
theorem dX4_firstRefusal_103 : decode cX4_firstRefusal 103 = .ok (.invokevirtual 103, 3) := by decide +kernel
theorem dX4_firstRefusal_106 : decode cX4_firstRefusal 106 = .ok (.if_icmp .le 5, 3) := by decide +kernel
theorem dX4_firstRefusal_109 : decode cX4_firstRefusal 109 = .ok (.iconst 3, 1) := by decide +kernel
theorem dX4_firstRefusal_110 : decode cX4_firstRefusal 110 = .ok (.ireturn, 1) := by decide +kernel
theorem dX4_firstRefusal_111 : decode cX4_firstRefusal 111 = .ok (.aload_n 1, 1) := by decide +kernel
theorem dX4_firstRefusal_112 : decode cX4_firstRefusal 112 = .ok (.getfield 133, 3) := by decide +kernel
theorem dX4_firstRefusal_115 : decode cX4_firstRefusal 115 = .ok (.iload_n 2, 1) := by decide +kernel
theorem dX4_firstRefusal_116 : decode cX4_firstRefusal 116 = .ok (.if_icmp .ge 7, 3) := by decide +kernel
