theorem dX4_firstRefusal_119 : decode cX4_firstRefusal 119 = .ok (.iconst 4, 1) := by decide +kernel
theorem dX4_firstRefusal_120 : decode cX4_firstRefusal 120 = .ok (.goto 4, 3) := by decide +kernel
theorem dX4_firstRefusal_123 : decode cX4_firstRefusal 123 = .ok (.iconst 0, 1) := by decide +kernel
theorem dX4_firstRefusal_124 : decode cX4_firstRefusal 124 = .ok (.ireturn, 1) := by decide +kernel
set_option maxRecDepth 20000 in
theorem ggX4_offerNow_X4_expectedCost : GoodIn wsX4_offerNow wsX4_expectedCost := goodIn_r _ [9, 10, 11, 12, 13, 14, 15, 16, 17, 18, 19, 20, 96, 97, 98, 99, 100, 101, 102, 103, 104, 105, 106, 107] (by decide +kernel) (by decide +kernel)
set_option maxRecDepth 20000 in
theorem gX4_offerNow_X4_expectedCost : GoodIn wsX4_offerNow (wsV RX4 139 RX4 yX4_expectedCost wsX4_expectedCost) := goodIn_app (goodIn_of _ (by decide +kernel)) ggX4_offerNow_X4_expectedCost
set_option maxRecDepth 20000 in
theorem ggX4_offerNow_X4_lane : GoodIn wsX4_offerNow wsX4_lane := goodIn_r _ [24, 25, 26, 27, 96, 97, 98, 99, 100, 101, 102, 103, 104, 105, 106] (by decide +kernel) (by decide +kernel)
set_option maxRecDepth 20000 in
theorem gX4_offerNow_X4_lane : GoodIn wsX4_offerNow (wsV RX4 148 RX4 yX4_lane wsX4_lane) := goodIn_app (goodIn_of _ (by decide +kernel)) ggX4_offerNow_X4_lane
set_option maxRecDepth 20000 in
theorem ggX4_offerNow_X4_firstRefusal : GoodIn wsX4_offerNow wsX4_firstRefusal := goodIn_r _ [31, 32, 33, 25, 26, 27, 34, 35, 15, 16, 17, 18, 19, 20, 36, 37, 38, 8, 39, 40, 2, 41, 11, 12, 13, 14, 42, 43, 44, 45, 46, 47, 48, 49, 50, 108, 109, 110, 111, 112, 113, 114, 96, 97, 98, 99, 100, 101, 102, 103, 104, 105, 106, 107, 85, 86, 87, 88, 89, 90, 91, 92, 93, 94, 95] (by decide +kernel) (by decide +kernel)
set_option maxRecDepth 20000 in
theorem gX4_offerNow_X4_firstRefusal : GoodIn wsX4_offerNow (wsV RX4 152 RX4 yX4_firstRefusal wsX4_firstRefusal) := goodIn_app (goodIn_of _ (by decide +kernel)) ggX4_offerNow_X4_firstRefusal
set_option maxRecDepth 20000 in
theorem ggX4_offerNow_X4_admit : GoodIn wsX4_offerNow wsX4_admit := goodIn_r _ [54, 4, 33, 35, 2, 55, 56, 57, 58, 21, 22, 23, 8, 24, 25, 26, 27, 59, 60, 61, 62, 63, 11, 12, 13, 14, 64, 65, 66, 67, 68, 69, 70, 71, 72, 73, 18, 74, 20, 85, 86, 87, 88, 89, 90, 91, 92, 93, 94, 95, 108, 109, 110, 111, 112, 113, 114, 96, 97, 98, 99, 100, 101, 102, 103, 104, 105, 106, 107] (by decide +kernel) (by decide +kernel)
set_option maxRecDepth 20000 in
theorem gX4_offerNow_X4_admit : GoodIn wsX4_offerNow (wsV RX4 156 RX4 yX4_admit wsX4_admit) := goodIn_app (goodIn_of _ (by decide +kernel)) ggX4_offerNow_X4_admit
set_option maxRecDepth 20000 in
theorem ggX4_offerNow_X4_refuse : GoodIn wsX4_offerNow wsX4_refuse := goodIn_r _ [78, 4, 79, 80, 3, 34, 56, 57, 81, 82, 83, 21, 22, 23, 8, 24, 25, 26, 27, 15, 16, 17, 18, 19, 20, 84, 72, 73, 74, 85, 86, 87, 88, 89, 90, 91, 92, 93, 94, 95, 108, 109, 110, 111, 112, 113, 114, 96, 97, 98, 99, 100, 101, 102, 103, 104, 105, 106, 107] (by decide +kernel) (by decide +kernel)
set_option maxRecDepth 20000 in
theorem gX4_offerNow_X4_refuse : GoodIn wsX4_offerNow (wsV RX4 159 RX4 yX4_refuse wsX4_refuse) := goodIn_app (goodIn_of _ (by decide +kernel)) ggX4_offerNow_X4_refuse
theorem dX4_offerNow_0 : decode cX4_offerNow 0 = .ok (.aload_n 1, 1) := by decide +kernel
theorem dX4_offerNow_1 : decode cX4_offerNow 1 = .ok (.aload_n 0, 1) := by decide +kernel
theorem dX4_offerNow_2 : decode cX4_offerNow 2 = .ok (.aload_n 1, 1) := by decide +kernel
theorem dX4_offerNow_3 : decode cX4_offerNow 3 = .ok (.getfield 136, 3) := by decide +kernel
theorem dX4_offerNow_6 : decode cX4_offerNow 6 = .ok (.invokevirtual 139, 3) := by decide +kernel
theorem dX4_offerNow_9 : decode cX4_offerNow 9 = .ok (.putfield 119, 3) := by decide +kernel
theorem dX4_offerNow_12 : decode cX4_offerNow 12 = .ok (.aload_n 1, 1) := by decide +kernel
theorem dX4_offerNow_13 : decode cX4_offerNow 13 = .ok (.dup, 1) := by decide +kernel
theorem dX4_offerNow_14 : decode cX4_offerNow 14 = .ok (.getfield 142, 3) := by decide +kernel
theorem dX4_offerNow_17 : decode cX4_offerNow 17 = .ok (.iconst 1, 1) := by decide +kernel
theorem dX4_offerNow_18 : decode cX4_offerNow 18 = .ok (.iadd, 1) := by decide +kernel
theorem dX4_offerNow_19 : decode cX4_offerNow 19 = .ok (.putfield 142, 3) := by decide +kernel
theorem dX4_offerNow_22 : decode cX4_offerNow 22 = .ok (.aload_n 0, 1) := by decide +kernel
theorem dX4_offerNow_23 : decode cX4_offerNow 23 = .ok (.aload_n 0, 1) := by decide +kernel
theorem dX4_offerNow_24 : decode cX4_offerNow 24 = .ok (.aload_n 1, 1) := by decide +kernel
theorem dX4_offerNow_25 : decode cX4_offerNow 25 = .ok (.getfield 145, 3) := by decide +kernel
theorem dX4_offerNow_28 : decode cX4_offerNow 28 = .ok (.invokevirtual 148, 3) := by decide +kernel
theorem dX4_offerNow_31 : decode cX4_offerNow 31 = .ok (.aload_n 1, 1) := by decide +kernel
theorem dX4_offerNow_32 : decode cX4_offerNow 32 = .ok (.getfield 119, 3) := by decide +kernel
theorem dX4_offerNow_35 : decode cX4_offerNow 35 = .ok (.invokevirtual 152, 3) := by decide +kernel
theorem dX4_offerNow_38 : decode cX4_offerNow 38 = .ok (.istore_n 2, 1) := by decide +kernel
theorem dX4_offerNow_39 : decode cX4_offerNow 39 = .ok (.iload_n 2, 1) := by decide +kernel
theorem dX4_offerNow_40 : decode cX4_offerNow 40 = .ok (.ifCond .ne 11, 3) := by decide +kernel
theorem dX4_offerNow_43 : decode cX4_offerNow 43 = .ok (.aload_n 0, 1) := by decide +kernel
theorem dX4_offerNow_44 : decode cX4_offerNow 44 = .ok (.aload_n 1, 1) := by decide +kernel
theorem dX4_offerNow_45 : decode cX4_offerNow 45 = .ok (.invokevirtual 156, 3) := by decide +kernel
theorem dX4_offerNow_48 : decode cX4_offerNow 48 = .ok (.goto 9, 3) := by decide +kernel
theorem dX4_offerNow_51 : decode cX4_offerNow 51 = .ok (.aload_n 0, 1) := by decide +kernel
theorem dX4_offerNow_52 : decode cX4_offerNow 52 = .ok (.aload_n 1, 1) := by decide +kernel
theorem dX4_offerNow_53 : decode cX4_offerNow 53 = .ok (.iload_n 2, 1) := by decide +kernel
theorem dX4_offerNow_54 : decode cX4_offerNow 54 = .ok (.invokevirtual 159, 3) := by decide +kernel
theorem dX4_offerNow_57 : decode cX4_offerNow 57 = .ok (.iload_n 2, 1) := by decide +kernel
theorem dX4_offerNow_58 : decode cX4_offerNow 58 = .ok (.ireturn, 1) := by decide +kernel
set_option maxRecDepth 20000 in
theorem ggX4_admit_X4_lane : GoodIn wsX4_admit wsX4_lane := goodIn_r _ [13, 14, 15, 16, 57, 58, 59, 60, 61, 62, 63, 64, 65, 66, 67] (by decide +kernel) (by decide +kernel)
set_option maxRecDepth 20000 in
theorem gX4_admit_X4_lane : GoodIn wsX4_admit (wsV RX4 148 RX4 yX4_lane wsX4_lane) := goodIn_app (goodIn_of _ (by decide +kernel)) ggX4_admit_X4_lane
set_option maxRecDepth 20000 in
theorem ggX4_admit_X4_catchUp : GoodIn wsX4_admit wsX4_catchUp := goodIn_r _ [20, 2, 21, 22, 23, 24, 25, 9, 10, 11, 12, 13, 14, 15, 16, 50, 51, 52, 53, 54, 55, 56, 57, 58, 59, 60, 61, 62, 63, 64, 65, 66, 67] (by decide +kernel) (by decide +kernel)
set_option maxRecDepth 20000 in
theorem gX4_admit_X4_catchUp : GoodIn wsX4_admit (wsV RX4 163 RX4 yX4_catchUp wsX4_catchUp) := goodIn_app (goodIn_of _ (by decide +kernel)) ggX4_admit_X4_catchUp
set_option maxRecDepth 20000 in
theorem ggX4_admit_X1_join : GoodIn wsX4_admit wsX1_join := goodIn_r _ [30, 31, 32, 33, 34, 35, 36, 37, 38, 50, 51, 52, 53, 54, 55, 56, 68] (by decide +kernel) (by decide +kernel)
set_option maxRecDepth 20000 in
theorem gX4_admit_X1_join : GoodIn wsX4_admit (wsV RX4 169 RX1 yX1_join wsX1_join) := goodIn_app (goodIn_of _ (by decide +kernel)) ggX4_admit_X1_join
theorem dX4_admit_0 : decode cX4_admit 0 = .ok (.aload_n 0, 1) := by decide +kernel
theorem dX4_admit_1 : decode cX4_admit 1 = .ok (.aload_n 1, 1) := by decide +kernel
theorem dX4_admit_2 : decode cX4_admit 2 = .ok (.getfield 145, 3) := by decide +kernel
theorem dX4_admit_5 : decode cX4_admit 5 = .ok (.invokevirtual 148, 3) := by decide +kernel
theorem dX4_admit_8 : decode cX4_admit 8 = .ok (.astore_n 2, 1) := by decide +kernel
theorem dX4_admit_9 : decode cX4_admit 9 = .ok (.aload_n 2, 1) := by decide +kernel
theorem dX4_admit_10 : decode cX4_admit 10 = .ok (.getfield 113, 3) := by decide +kernel
theorem dX4_admit_13 : decode cX4_admit 13 = .ok (.ifCond .ne 11, 3) := by decide +kernel
theorem dX4_admit_16 : decode cX4_admit 16 = .ok (.aload_n 0, 1) := by decide +kernel
theorem dX4_admit_17 : decode cX4_admit 17 = .ok (.aload_n 1, 1) := by decide +kernel
theorem dX4_admit_18 : decode cX4_admit 18 = .ok (.getfield 145, 3) := by decide +kernel
theorem dX4_admit_21 : decode cX4_admit 21 = .ok (.invokevirtual 163, 3) := by decide +kernel
theorem dX4_admit_24 : decode cX4_admit 24 = .ok (.aload_n 2, 1) := by decide +kernel
theorem dX4_admit_25 : decode cX4_admit 25 = .ok (.dup, 1) := by decide +kernel
theorem dX4_admit_26 : decode cX4_admit 26 = .ok (.getfield 133, 3) := by decide +kernel
theorem dX4_admit_29 : decode cX4_admit 29 = .ok (.aload_n 1, 1) := by decide +kernel
theorem dX4_admit_30 : decode cX4_admit 30 = .ok (.getfield 119, 3) := by decide +kernel
theorem dX4_admit_33 : decode cX4_admit 33 = .ok (.isub, 1) := by decide +kernel
theorem dX4_admit_34 : decode cX4_admit 34 = .ok (.putfield 133, 3) := by decide +kernel
theorem dX4_admit_37 : decode cX4_admit 37 = .ok (.aload_n 2, 1) := by decide +kernel
theorem dX4_admit_38 : decode cX4_admit 38 = .ok (.aload_n 1, 1) := by decide +kernel
theorem dX4_admit_39 : decode cX4_admit 39 = .ok (.getfield 166, 3) := by decide +kernel
theorem dX4_admit_42 : decode cX4_admit 42 = .ok (.invokevirtual 169, 3) := by decide +kernel
theorem dX4_admit_45 : decode cX4_admit 45 = .ok (.aload_n 1, 1) := by decide +kernel
theorem dX4_admit_46 : decode cX4_admit 46 = .ok (.iconst 0, 1) := by decide +kernel
theorem dX4_admit_47 : decode cX4_admit 47 = .ok (.putfield 172, 3) := by decide +kernel
theorem dX4_admit_50 : decode cX4_admit 50 = .ok (.aload_n 1, 1) := by decide +kernel
theorem dX4_admit_51 : decode cX4_admit 51 = .ok (.aload_n 0, 1) := by decide +kernel
theorem dX4_admit_52 : decode cX4_admit 52 = .ok (.getfield 52, 3) := by decide +kernel
theorem dX4_admit_55 : decode cX4_admit 55 = .ok (.putfield 175, 3) := by decide +kernel
theorem dX4_admit_58 : decode cX4_admit 58 = .ok (.return_, 1) := by decide +kernel
set_option maxRecDepth 20000 in
theorem ggX4_catchUp_X4_lane : GoodIn wsX4_catchUp wsX4_lane := goodIn_r _ [11, 12, 13, 14, 22, 23, 24, 25, 26, 27, 28, 29, 30, 31, 32] (by decide +kernel) (by decide +kernel)
set_option maxRecDepth 20000 in
theorem gX4_catchUp_X4_lane : GoodIn wsX4_catchUp (wsV RX4 148 RX4 yX4_lane wsX4_lane) := goodIn_app (goodIn_of _ (by decide +kernel)) ggX4_catchUp_X4_lane
theorem dX4_catchUp_0 : decode cX4_catchUp 0 = .ok (.aconst_null, 1) := by decide +kernel
theorem dX4_catchUp_1 : decode cX4_catchUp 1 = .ok (.astore_n 2, 1) := by decide +kernel
theorem dX4_catchUp_2 : decode cX4_catchUp 2 = .ok (.iconst 0, 1) := by decide +kernel
theorem dX4_catchUp_3 : decode cX4_catchUp 3 = .ok (.istore_n 3, 1) := by decide +kernel
theorem dX4_catchUp_4 : decode cX4_catchUp 4 = .ok (.iload_n 3, 1) := by decide +kernel
theorem dX4_catchUp_5 : decode cX4_catchUp 5 = .ok (.iconst 3, 1) := by decide +kernel
theorem dX4_catchUp_6 : decode cX4_catchUp 6 = .ok (.if_icmp .ge 48, 3) := by decide +kernel
theorem dX4_catchUp_9 : decode cX4_catchUp 9 = .ok (.aload_n 0, 1) := by decide +kernel
theorem dX4_catchUp_10 : decode cX4_catchUp 10 = .ok (.iload_n 3, 1) := by decide +kernel
theorem dX4_catchUp_11 : decode cX4_catchUp 11 = .ok (.invokevirtual 148, 3) := by decide +kernel
theorem dX4_catchUp_14 : decode cX4_catchUp 14 = .ok (.astore 4, 2) := by decide +kernel
theorem dX4_catchUp_16 : decode cX4_catchUp 16 = .ok (.iload_n 3, 1) := by decide +kernel
theorem dX4_catchUp_17 : decode cX4_catchUp 17 = .ok (.iload_n 1, 1) := by decide +kernel
theorem dX4_catchUp_18 : decode cX4_catchUp 18 = .ok (.if_icmp .eq 30, 3) := by decide +kernel
theorem dX4_catchUp_21 : decode cX4_catchUp 21 = .ok (.aload 4, 2) := by decide +kernel
theorem dX4_catchUp_23 : decode cX4_catchUp 23 = .ok (.getfield 113, 3) := by decide +kernel
theorem dX4_catchUp_26 : decode cX4_catchUp 26 = .ok (.ifCond .le 22, 3) := by decide +kernel
theorem dX4_catchUp_29 : decode cX4_catchUp 29 = .ok (.aload_n 2, 1) := by decide +kernel
theorem dX4_catchUp_30 : decode cX4_catchUp 30 = .ok (.ifnull 15, 3) := by decide +kernel
theorem dX4_catchUp_33 : decode cX4_catchUp 33 = .ok (.aload 4, 2) := by decide +kernel
theorem dX4_catchUp_35 : decode cX4_catchUp 35 = .ok (.getfield 178, 3) := by decide +kernel
theorem dX4_catchUp_38 : decode cX4_catchUp 38 = .ok (.aload_n 2, 1) := by decide +kernel
theorem dX4_catchUp_39 : decode cX4_catchUp 39 = .ok (.getfield 178, 3) := by decide +kernel
theorem dX4_catchUp_42 : decode cX4_catchUp 42 = .ok (.if_icmp .ge 6, 3) := by decide +kernel
theorem dX4_catchUp_45 : decode cX4_catchUp 45 = .ok (.aload 4, 2) := by decide +kernel
theorem dX4_catchUp_47 : decode cX4_catchUp 47 = .ok (.astore_n 2, 1) := by decide +kernel
theorem dX4_catchUp_48 : decode cX4_catchUp 48 = .ok (.iinc 3 1, 3) := by decide +kernel
theorem dX4_catchUp_51 : decode cX4_catchUp 51 = .ok (.goto (-47), 3) := by decide +kernel
theorem dX4_catchUp_54 : decode cX4_catchUp 54 = .ok (.aload_n 2, 1) := by decide +kernel
theorem dX4_catchUp_55 : decode cX4_catchUp 55 = .ok (.ifnull 26, 3) := by decide +kernel
theorem dX4_catchUp_58 : decode cX4_catchUp 58 = .ok (.aload_n 0, 1) := by decide +kernel
theorem dX4_catchUp_59 : decode cX4_catchUp 59 = .ok (.iload_n 1, 1) := by decide +kernel
theorem dX4_catchUp_60 : decode cX4_catchUp 60 = .ok (.invokevirtual 148, 3) := by decide +kernel
theorem dX4_catchUp_63 : decode cX4_catchUp 63 = .ok (.aload_n 0, 1) := by decide +kernel
theorem dX4_catchUp_64 : decode cX4_catchUp 64 = .ok (.iload_n 1, 1) := by decide +kernel
theorem dX4_catchUp_65 : decode cX4_catchUp 65 = .ok (.invokevirtual 148, 3) := by decide +kernel
theorem dX4_catchUp_68 : decode cX4_catchUp 68 = .ok (.getfield 178, 3) := by decide +kernel
theorem dX4_catchUp_71 : decode cX4_catchUp 71 = .ok (.aload_n 2, 1) := by decide +kernel
theorem dX4_catchUp_72 : decode cX4_catchUp 72 = .ok (.getfield 178, 3) := by decide +kernel
theorem dX4_catchUp_75 : decode cX4_catchUp 75 = .ok (.invokestatic 107, 3) := by decide +kernel
theorem dX4_catchUp_78 : decode cX4_catchUp 78 = .ok (.putfield 178, 3) := by decide +kernel
theorem dX4_catchUp_81 : decode cX4_catchUp 81 = .ok (.return_, 1) := by decide +kernel
set_option maxRecDepth 20000 in
theorem ggX4_refuse_X4_lane : GoodIn wsX4_refuse wsX4_lane := goodIn_r _ [15, 16, 17, 18, 47, 48, 49, 50, 51, 52, 53, 54, 55, 56, 57] (by decide +kernel) (by decide +kernel)
set_option maxRecDepth 20000 in
theorem gX4_refuse_X4_lane : GoodIn wsX4_refuse (wsV RX4 148 RX4 yX4_lane wsX4_lane) := goodIn_app (goodIn_of _ (by decide +kernel)) ggX4_refuse_X4_lane
set_option maxRecDepth 20000 in
theorem ggX4_refuse_X3_at : GoodIn wsX4_refuse wsX3_at := goodIn_r _ [23, 24, 58] (by decide +kernel) (by decide +kernel)
set_option maxRecDepth 20000 in
theorem gX4_refuse_X3_at : GoodIn wsX4_refuse (wsV RX4 103 RX3 yX3_at wsX3_at) := goodIn_app (goodIn_of _ (by decide +kernel)) ggX4_refuse_X3_at
set_option maxRecDepth 20000 in
theorem ggX4_refuse_X3_put : GoodIn wsX4_refuse wsX3_put := goodIn_r _ [28, 24, 58] (by decide +kernel) (by decide +kernel)
set_option maxRecDepth 20000 in
theorem gX4_refuse_X3_put : GoodIn wsX4_refuse (wsV RX4 58 RX3 yX3_put wsX3_put) := goodIn_app (goodIn_of _ (by decide +kernel)) ggX4_refuse_X3_put
theorem dX4_refuse_0 : decode cX4_refuse 0 = .ok (.aload_n 0, 1) := by decide +kernel
theorem dX4_refuse_1 : decode cX4_refuse 1 = .ok (.aload_n 1, 1) := by decide +kernel
theorem dX4_refuse_2 : decode cX4_refuse 2 = .ok (.getfield 145, 3) := by decide +kernel
theorem dX4_refuse_5 : decode cX4_refuse 5 = .ok (.invokevirtual 148, 3) := by decide +kernel
theorem dX4_refuse_8 : decode cX4_refuse 8 = .ok (.getfield 181, 3) := by decide +kernel
theorem dX4_refuse_11 : decode cX4_refuse 11 = .ok (.astore_n 3, 1) := by decide +kernel
theorem dX4_refuse_12 : decode cX4_refuse 12 = .ok (.aload_n 3, 1) := by decide +kernel
theorem dX4_refuse_13 : decode cX4_refuse 13 = .ok (.iload_n 2, 1) := by decide +kernel
theorem dX4_refuse_14 : decode cX4_refuse 14 = .ok (.aload_n 3, 1) := by decide +kernel
theorem dX4_refuse_15 : decode cX4_refuse 15 = .ok (.iload_n 2, 1) := by decide +kernel
theorem dX4_refuse_16 : decode cX4_refuse 16 = .ok (.invokevirtual 103, 3) := by decide +kernel
theorem dX4_refuse_19 : decode cX4_refuse 19 = .ok (.iconst 1, 1) := by decide +kernel
theorem dX4_refuse_20 : decode cX4_refuse 20 = .ok (.iadd, 1) := by decide +kernel
theorem dX4_refuse_21 : decode cX4_refuse 21 = .ok (.invokevirtual 58, 3) := by decide +kernel
theorem dX4_refuse_24 : decode cX4_refuse 24 = .ok (.aload_n 1, 1) := by decide +kernel
theorem dX4_refuse_25 : decode cX4_refuse 25 = .ok (.iload_n 2, 1) := by decide +kernel
theorem dX4_refuse_26 : decode cX4_refuse 26 = .ok (.putfield 184, 3) := by decide +kernel
theorem dX4_refuse_29 : decode cX4_refuse 29 = .ok (.aload_n 1, 1) := by decide +kernel
theorem dX4_refuse_30 : decode cX4_refuse 30 = .ok (.getfield 142, 3) := by decide +kernel
theorem dX4_refuse_33 : decode cX4_refuse 33 = .ok (.aload_n 0, 1) := by decide +kernel
theorem dX4_refuse_34 : decode cX4_refuse 34 = .ok (.getfield 14, 3) := by decide +kernel
theorem dX4_refuse_37 : decode cX4_refuse 37 = .ok (.iconst 3, 1) := by decide +kernel
theorem dX4_refuse_38 : decode cX4_refuse 38 = .ok (.invokevirtual 103, 3) := by decide +kernel
theorem dX4_refuse_41 : decode cX4_refuse 41 = .ok (.if_icmp .gt 35, 3) := by decide +kernel
theorem dX4_refuse_44 : decode cX4_refuse 44 = .ok (.aload_n 1, 1) := by decide +kernel
theorem dX4_refuse_45 : decode cX4_refuse 45 = .ok (.iconst 3, 1) := by decide +kernel
theorem dX4_refuse_46 : decode cX4_refuse 46 = .ok (.putfield 172, 3) := by decide +kernel
theorem dX4_refuse_49 : decode cX4_refuse 49 = .ok (.aload_n 1, 1) := by decide +kernel
theorem dX4_refuse_50 : decode cX4_refuse 50 = .ok (.aload_n 0, 1) := by decide +kernel
theorem dX4_refuse_51 : decode cX4_refuse 51 = .ok (.getfield 52, 3) := by decide +kernel
theorem dX4_refuse_54 : decode cX4_refuse 54 = .ok (.aload_n 0, 1) := by decide +kernel
theorem dX4_refuse_55 : decode cX4_refuse 55 = .ok (.getfield 14, 3) := by decide +kernel
theorem dX4_refuse_58 : decode cX4_refuse 58 = .ok (.iconst 2, 1) := by decide +kernel
theorem dX4_refuse_59 : decode cX4_refuse 59 = .ok (.invokevirtual 103, 3) := by decide +kernel
theorem dX4_refuse_62 : decode cX4_refuse 62 = .ok (.aload_n 1, 1) := by decide +kernel
theorem dX4_refuse_63 : decode cX4_refuse 63 = .ok (.getfield 142, 3) := by decide +kernel
theorem dX4_refuse_66 : decode cX4_refuse 66 = .ok (.iconst 1, 1) := by decide +kernel
theorem dX4_refuse_67 : decode cX4_refuse 67 = .ok (.isub, 1) := by decide +kernel
theorem dX4_refuse_68 : decode cX4_refuse 68 = .ok (.ishl, 1) := by decide +kernel
theorem dX4_refuse_69 : decode cX4_refuse 69 = .ok (.iadd, 1) := by decide +kernel
theorem dX4_refuse_70 : decode cX4_refuse 70 = .ok (.putfield 187, 3) := by decide +kernel
theorem dX4_refuse_73 : decode cX4_refuse 73 = .ok (.goto 28, 3) := by decide +kernel
theorem dX4_refuse_76 : decode cX4_refuse 76 = .ok (.aload_n 1, 1) := by decide +kernel
theorem dX4_refuse_77 : decode cX4_refuse 77 = .ok (.iconst 4, 1) := by decide +kernel
theorem dX4_refuse_78 : decode cX4_refuse 78 = .ok (.putfield 172, 3) := by decide +kernel
theorem dX4_refuse_81 : decode cX4_refuse 81 = .ok (.aload_n 0, 1) := by decide +kernel
theorem dX4_refuse_82 : decode cX4_refuse 82 = .ok (.dup, 1) := by decide +kernel
theorem dX4_refuse_83 : decode cX4_refuse 83 = .ok (.getfield 46, 3) := by decide +kernel
theorem dX4_refuse_86 : decode cX4_refuse 86 = .ok (.iconst 1, 1) := by decide +kernel
theorem dX4_refuse_87 : decode cX4_refuse 87 = .ok (.isub, 1) := by decide +kernel
theorem dX4_refuse_88 : decode cX4_refuse 88 = .ok (.putfield 46, 3) := by decide +kernel
theorem dX4_refuse_91 : decode cX4_refuse 91 = .ok (.aload_n 0, 1) := by decide +kernel
theorem dX4_refuse_92 : decode cX4_refuse 92 = .ok (.dup, 1) := by decide +kernel
theorem dX4_refuse_93 : decode cX4_refuse 93 = .ok (.getfield 49, 3) := by decide +kernel
theorem dX4_refuse_96 : decode cX4_refuse 96 = .ok (.iconst 1, 1) := by decide +kernel
theorem dX4_refuse_97 : decode cX4_refuse 97 = .ok (.iadd, 1) := by decide +kernel
theorem dX4_refuse_98 : decode cX4_refuse 98 = .ok (.putfield 49, 3) := by decide +kernel
theorem dX4_refuse_101 : decode cX4_refuse 101 = .ok (.return_, 1) := by decide +kernel
set_option maxRecDepth 20000 in
theorem ggX4_tick_X4_lane : GoodIn wsX4_tick wsX4_lane := goodIn_r _ [11, 12, 13, 14, 133, 134, 135, 136, 137, 138, 139, 140, 141, 142, 143] (by decide +kernel) (by decide +kernel)
set_option maxRecDepth 20000 in
theorem gX4_tick_X4_lane : GoodIn wsX4_tick (wsV RX4 148 RX4 yX4_lane wsX4_lane) := goodIn_app (goodIn_of _ (by decide +kernel)) ggX4_tick_X4_lane
set_option maxRecDepth 20000 in
theorem ggX4_tick_X3_at : GoodIn wsX4_tick wsX3_at := goodIn_r _ [19, 20, 155] (by decide +kernel) (by decide +kernel)
set_option maxRecDepth 20000 in
theorem gX4_tick_X3_at : GoodIn wsX4_tick (wsV RX4 103 RX3 yX3_at wsX3_at) := goodIn_app (goodIn_of _ (by decide +kernel)) ggX4_tick_X3_at
set_option maxRecDepth 20000 in
theorem ggX4_tick_X1_gain : GoodIn wsX4_tick wsX1_gain := goodIn_r _ [25, 26, 27, 28, 29, 30, 31, 32, 16, 17, 18, 19, 20, 126, 127, 128, 129, 130, 131, 132, 155] (by decide +kernel) (by decide +kernel)
set_option maxRecDepth 20000 in
theorem gX4_tick_X1_gain : GoodIn wsX4_tick (wsV RX4 189 RX1 yX1_gain wsX1_gain) := goodIn_app (goodIn_of _ (by decide +kernel)) ggX4_tick_X1_gain
set_option maxRecDepth 20000 in
theorem ggX4_tick_X4_find : GoodIn wsX4_tick wsX4_find := goodIn_r _ [36, 2, 37, 133, 134, 135, 136, 137, 138, 139, 140, 141, 142, 143] (by decide +kernel) (by decide +kernel)
set_option maxRecDepth 20000 in
theorem gX4_tick_X4_find : GoodIn wsX4_tick (wsV RX4 70 RX4 yX4_find wsX4_find) := goodIn_app (goodIn_of _ (by decide +kernel)) ggX4_tick_X4_find
set_option maxRecDepth 20000 in
theorem ggX4_tick_X4_offerNow : GoodIn wsX4_tick wsX4_offerNow := goodIn_r _ [41, 42, 43, 44, 45, 46, 47, 48, 10, 49, 50, 51, 52, 30, 53, 15, 16, 17, 18, 19, 20, 7, 8, 9, 11, 12, 13, 14, 54, 55, 56, 57, 1, 58, 6, 59, 60, 61, 62, 63, 64, 65, 33, 34, 35, 36, 2, 37, 66, 67, 68, 69, 70, 71, 72, 73, 3, 5, 74, 75, 76, 77, 78, 79, 80, 81, 82, 24, 83, 84, 85, 86, 87, 88, 89, 90, 91, 92, 93, 94, 95, 4, 96, 97, 98, 144, 145, 146, 147, 148, 149, 150, 151, 152, 153, 154, 133, 134, 135, 136, 137, 138, 139, 140, 141, 142, 143, 155, 126, 127, 128, 129, 130, 131, 132] (by decide +kernel) (by decide +kernel)
set_option maxRecDepth 20000 in
theorem gX4_tick_X4_offerNow : GoodIn wsX4_tick (wsV RX4 95 RX4 yX4_offerNow wsX4_offerNow) := goodIn_app (goodIn_of _ (by decide +kernel)) ggX4_tick_X4_offerNow
set_option maxRecDepth 20000 in
theorem ggX4_tick_X4_refuseThoseWhoWaited : GoodIn wsX4_tick wsX4_refuseThoseWhoWaited := goodIn_r _ [102, 58, 64, 43, 15, 16, 17, 18, 19, 20, 33, 34, 35, 10, 36, 2, 37, 103, 104, 105, 106, 3, 5, 74, 6, 107, 108, 109, 24, 110, 84, 85, 32, 86, 87, 88, 89, 90, 91, 92, 93, 45, 94, 95, 44, 4, 96, 97, 7, 8, 9, 11, 12, 13, 14, 98, 21, 22, 23, 25, 26, 27, 28, 29, 30, 31, 126, 127, 128, 129, 130, 131, 132, 144, 145, 146, 147, 148, 149, 150, 151, 152, 153, 154, 155, 133, 134, 135, 136, 137, 138, 139, 140, 141, 142, 143] (by decide +kernel) (by decide +kernel)
set_option maxRecDepth 20000 in
theorem gX4_tick_X4_refuseThoseWhoWaited : GoodIn wsX4_tick (wsV RX4 192 RX4 yX4_refuseThoseWhoWaited wsX4_refuseThoseWhoWaited) := goodIn_app (goodIn_of _ (by decide +kernel)) ggX4_tick_X4_refuseThoseWhoWaited
set_option maxRecDepth 20000 in
theorem ggX4_tick_X4_workOneUnit : GoodIn wsX4_tick wsX4_workOneUnit := goodIn_r _ [114, 115, 116, 79, 1, 64, 65, 3, 117, 118, 119, 120, 10, 121, 58, 7, 8, 9, 11, 12, 13, 14, 15, 16, 17, 18, 19, 20, 66, 67, 68, 33, 34, 35, 36, 2, 37, 122, 123, 124, 125, 5, 4, 96, 50, 42, 43, 59, 107, 108, 109, 24, 110, 84, 85, 32, 86, 87, 88, 89, 98, 21, 22, 23, 25, 26, 27, 28, 29, 30, 31, 133, 134, 135, 136, 137, 138, 139, 140, 141, 142, 143, 126, 127, 128, 129, 130, 131, 132, 144, 145, 146, 147, 148, 149, 150, 151, 152, 153, 154, 155] (by decide +kernel) (by decide +kernel)
set_option maxRecDepth 20000 in
theorem gX4_tick_X4_workOneUnit : GoodIn wsX4_tick (wsV RX4 195 RX4 yX4_workOneUnit wsX4_workOneUnit) := goodIn_app (goodIn_of _ (by decide +kernel)) ggX4_tick_X4_workOneUnit
theorem dX4_tick_0 : decode cX4_tick 0 = .ok (.iconst 0, 1) := by decide +kernel
theorem dX4_tick_1 : decode cX4_tick 1 = .ok (.istore_n 1, 1) := by decide +kernel
theorem dX4_tick_2 : decode cX4_tick 2 = .ok (.iload_n 1, 1) := by decide +kernel
theorem dX4_tick_3 : decode cX4_tick 3 = .ok (.iconst 3, 1) := by decide +kernel
theorem dX4_tick_4 : decode cX4_tick 4 = .ok (.if_icmp .ge 29, 3) := by decide +kernel
theorem dX4_tick_7 : decode cX4_tick 7 = .ok (.aload_n 0, 1) := by decide +kernel
theorem dX4_tick_8 : decode cX4_tick 8 = .ok (.iload_n 1, 1) := by decide +kernel
theorem dX4_tick_9 : decode cX4_tick 9 = .ok (.invokevirtual 148, 3) := by decide +kernel
theorem dX4_tick_12 : decode cX4_tick 12 = .ok (.aload_n 0, 1) := by decide +kernel
theorem dX4_tick_13 : decode cX4_tick 13 = .ok (.iload_n 1, 1) := by decide +kernel
theorem dX4_tick_14 : decode cX4_tick 14 = .ok (.invokevirtual 148, 3) := by decide +kernel
theorem dX4_tick_17 : decode cX4_tick 17 = .ok (.getfield 125, 3) := by decide +kernel
theorem dX4_tick_20 : decode cX4_tick 20 = .ok (.iconst 1, 1) := by decide +kernel
theorem dX4_tick_21 : decode cX4_tick 21 = .ok (.invokevirtual 103, 3) := by decide +kernel
theorem dX4_tick_24 : decode cX4_tick 24 = .ok (.invokevirtual 189, 3) := by decide +kernel
theorem dX4_tick_27 : decode cX4_tick 27 = .ok (.iinc 1 1, 3) := by decide +kernel
theorem dX4_tick_30 : decode cX4_tick 30 = .ok (.goto (-28), 3) := by decide +kernel
theorem dX4_tick_33 : decode cX4_tick 33 = .ok (.iconst 0, 1) := by decide +kernel
theorem dX4_tick_34 : decode cX4_tick 34 = .ok (.istore_n 1, 1) := by decide +kernel
theorem dX4_tick_35 : decode cX4_tick 35 = .ok (.iload_n 1, 1) := by decide +kernel
theorem dX4_tick_36 : decode cX4_tick 36 = .ok (.aload_n 0, 1) := by decide +kernel
theorem dX4_tick_37 : decode cX4_tick 37 = .ok (.getfield 42, 3) := by decide +kernel
theorem dX4_tick_40 : decode cX4_tick 40 = .ok (.if_icmp .ge 44, 3) := by decide +kernel
theorem dX4_tick_43 : decode cX4_tick 43 = .ok (.aload_n 0, 1) := by decide +kernel
theorem dX4_tick_44 : decode cX4_tick 44 = .ok (.iload_n 1, 1) := by decide +kernel
theorem dX4_tick_45 : decode cX4_tick 45 = .ok (.invokevirtual 70, 3) := by decide +kernel
theorem dX4_tick_48 : decode cX4_tick 48 = .ok (.astore_n 2, 1) := by decide +kernel
theorem dX4_tick_49 : decode cX4_tick 49 = .ok (.aload_n 2, 1) := by decide +kernel
theorem dX4_tick_50 : decode cX4_tick 50 = .ok (.ifnull 28, 3) := by decide +kernel
theorem dX4_tick_53 : decode cX4_tick 53 = .ok (.aload_n 2, 1) := by decide +kernel
theorem dX4_tick_54 : decode cX4_tick 54 = .ok (.getfield 172, 3) := by decide +kernel
theorem dX4_tick_57 : decode cX4_tick 57 = .ok (.iconst 3, 1) := by decide +kernel
theorem dX4_tick_58 : decode cX4_tick 58 = .ok (.if_icmp .ne 20, 3) := by decide +kernel
theorem dX4_tick_61 : decode cX4_tick 61 = .ok (.aload_n 2, 1) := by decide +kernel
theorem dX4_tick_62 : decode cX4_tick 62 = .ok (.getfield 187, 3) := by decide +kernel
theorem dX4_tick_65 : decode cX4_tick 65 = .ok (.aload_n 0, 1) := by decide +kernel
theorem dX4_tick_66 : decode cX4_tick 66 = .ok (.getfield 52, 3) := by decide +kernel
theorem dX4_tick_69 : decode cX4_tick 69 = .ok (.if_icmp .gt 9, 3) := by decide +kernel
theorem dX4_tick_72 : decode cX4_tick 72 = .ok (.aload_n 0, 1) := by decide +kernel
theorem dX4_tick_73 : decode cX4_tick 73 = .ok (.aload_n 2, 1) := by decide +kernel
theorem dX4_tick_74 : decode cX4_tick 74 = .ok (.invokevirtual 95, 3) := by decide +kernel
theorem dX4_tick_77 : decode cX4_tick 77 = .ok (.pop, 1) := by decide +kernel
theorem dX4_tick_78 : decode cX4_tick 78 = .ok (.iinc 1 1, 3) := by decide +kernel
theorem dX4_tick_81 : decode cX4_tick 81 = .ok (.goto (-46), 3) := by decide +kernel
theorem dX4_tick_84 : decode cX4_tick 84 = .ok (.iconst 0, 1) := by decide +kernel
theorem dX4_tick_85 : decode cX4_tick 85 = .ok (.istore_n 1, 1) := by decide +kernel
theorem dX4_tick_86 : decode cX4_tick 86 = .ok (.iload_n 1, 1) := by decide +kernel
theorem dX4_tick_87 : decode cX4_tick 87 = .ok (.iconst 3, 1) := by decide +kernel
theorem dX4_tick_88 : decode cX4_tick 88 = .ok (.if_icmp .ge 18, 3) := by decide +kernel
theorem dX4_tick_91 : decode cX4_tick 91 = .ok (.aload_n 0, 1) := by decide +kernel
theorem dX4_tick_92 : decode cX4_tick 92 = .ok (.aload_n 0, 1) := by decide +kernel
theorem dX4_tick_93 : decode cX4_tick 93 = .ok (.iload_n 1, 1) := by decide +kernel
theorem dX4_tick_94 : decode cX4_tick 94 = .ok (.invokevirtual 148, 3) := by decide +kernel
theorem dX4_tick_97 : decode cX4_tick 97 = .ok (.invokevirtual 192, 3) := by decide +kernel
theorem dX4_tick_100 : decode cX4_tick 100 = .ok (.iinc 1 1, 3) := by decide +kernel
theorem dX4_tick_103 : decode cX4_tick 103 = .ok (.goto (-17), 3) := by decide +kernel
theorem dX4_tick_106 : decode cX4_tick 106 = .ok (.iconst 0, 1) := by decide +kernel
theorem dX4_tick_107 : decode cX4_tick 107 = .ok (.istore_n 1, 1) := by decide +kernel
theorem dX4_tick_108 : decode cX4_tick 108 = .ok (.iconst 0, 1) := by decide +kernel
theorem dX4_tick_109 : decode cX4_tick 109 = .ok (.istore_n 2, 1) := by decide +kernel
theorem dX4_tick_110 : decode cX4_tick 110 = .ok (.iload_n 2, 1) := by decide +kernel
theorem dX4_tick_111 : decode cX4_tick 111 = .ok (.aload_n 0, 1) := by decide +kernel
theorem dX4_tick_112 : decode cX4_tick 112 = .ok (.getfield 14, 3) := by decide +kernel
theorem dX4_tick_115 : decode cX4_tick 115 = .ok (.iconst 0, 1) := by decide +kernel
theorem dX4_tick_116 : decode cX4_tick 116 = .ok (.invokevirtual 103, 3) := by decide +kernel
theorem dX4_tick_119 : decode cX4_tick 119 = .ok (.if_icmp .ge 16, 3) := by decide +kernel
theorem dX4_tick_122 : decode cX4_tick 122 = .ok (.iload_n 1, 1) := by decide +kernel
theorem dX4_tick_123 : decode cX4_tick 123 = .ok (.aload_n 0, 1) := by decide +kernel
theorem dX4_tick_124 : decode cX4_tick 124 = .ok (.invokevirtual 195, 3) := by decide +kernel
theorem dX4_tick_127 : decode cX4_tick 127 = .ok (.iadd, 1) := by decide +kernel
theorem dX4_tick_128 : decode cX4_tick 128 = .ok (.istore_n 1, 1) := by decide +kernel
theorem dX4_tick_129 : decode cX4_tick 129 = .ok (.iinc 2 1, 3) := by decide +kernel
theorem dX4_tick_132 : decode cX4_tick 132 = .ok (.goto (-22), 3) := by decide +kernel
theorem dX4_tick_135 : decode cX4_tick 135 = .ok (.aload_n 0, 1) := by decide +kernel
theorem dX4_tick_136 : decode cX4_tick 136 = .ok (.dup, 1) := by decide +kernel
theorem dX4_tick_137 : decode cX4_tick 137 = .ok (.getfield 52, 3) := by decide +kernel
theorem dX4_tick_140 : decode cX4_tick 140 = .ok (.iconst 1, 1) := by decide +kernel
theorem dX4_tick_141 : decode cX4_tick 141 = .ok (.iadd, 1) := by decide +kernel
theorem dX4_tick_142 : decode cX4_tick 142 = .ok (.putfield 52, 3) := by decide +kernel
theorem dX4_tick_145 : decode cX4_tick 145 = .ok (.iload_n 1, 1) := by decide +kernel
theorem dX4_tick_146 : decode cX4_tick 146 = .ok (.ireturn, 1) := by decide +kernel
set_option maxRecDepth 20000 in
theorem ggX4_refuseThoseWhoWaited_X3_at : GoodIn wsX4_refuseThoseWhoWaited wsX3_at := goodIn_r _ [8, 9, 84] (by decide +kernel) (by decide +kernel)
set_option maxRecDepth 20000 in
theorem gX4_refuseThoseWhoWaited_X3_at : GoodIn wsX4_refuseThoseWhoWaited (wsV RX4 103 RX3 yX3_at wsX3_at) := goodIn_app (goodIn_of _ (by decide +kernel)) ggX4_refuseThoseWhoWaited_X3_at
set_option maxRecDepth 20000 in
theorem ggX4_refuseThoseWhoWaited_X4_find : GoodIn wsX4_refuseThoseWhoWaited wsX4_find := goodIn_r _ [14, 15, 16, 85, 86, 87, 88, 89, 90, 91, 92, 93, 94, 95] (by decide +kernel) (by decide +kernel)
set_option maxRecDepth 20000 in
theorem gX4_refuseThoseWhoWaited_X4_find : GoodIn wsX4_refuseThoseWhoWaited (wsV RX4 70 RX4 yX4_find wsX4_find) := goodIn_app (goodIn_of _ (by decide +kernel)) ggX4_refuseThoseWhoWaited_X4_find
set_option maxRecDepth 20000 in
theorem ggX4_refuseThoseWhoWaited_X4_hasWaitedTooLong : GoodIn wsX4_refuseThoseWhoWaited wsX4_hasWaitedTooLong := goodIn_r _ [20, 21, 22, 23, 24, 4, 5, 6, 7, 8, 9, 73, 74, 75, 76, 77, 78, 79, 80, 81, 82, 83, 85, 86, 87, 88, 89, 90, 91, 92, 93, 94, 95, 84] (by decide +kernel) (by decide +kernel)
set_option maxRecDepth 20000 in
theorem gX4_refuseThoseWhoWaited_X4_hasWaitedTooLong : GoodIn wsX4_refuseThoseWhoWaited (wsV RX4 198 RX4 yX4_hasWaitedTooLong wsX4_hasWaitedTooLong) := goodIn_app (goodIn_of _ (by decide +kernel)) ggX4_refuseThoseWhoWaited_X4_hasWaitedTooLong
set_option maxRecDepth 20000 in
theorem ggX4_refuseThoseWhoWaited_X1_leave : GoodIn wsX4_refuseThoseWhoWaited wsX1_leave := goodIn_r _ [29, 30, 31, 32, 5, 6, 7, 8, 9, 33, 34, 35, 36, 66, 67, 68, 69, 70, 71, 72, 84] (by decide +kernel) (by decide +kernel)
set_option maxRecDepth 20000 in
theorem gX4_refuseThoseWhoWaited_X1_leave : GoodIn wsX4_refuseThoseWhoWaited (wsV RX4 202 RX1 yX1_leave wsX1_leave) := goodIn_app (goodIn_of _ (by decide +kernel)) ggX4_refuseThoseWhoWaited_X1_leave
set_option maxRecDepth 20000 in
theorem ggX4_refuseThoseWhoWaited_X4_refuse : GoodIn wsX4_refuseThoseWhoWaited wsX4_refuse := goodIn_r _ [40, 41, 42, 43, 44, 24, 21, 22, 45, 46, 47, 48, 49, 50, 13, 51, 52, 53, 54, 4, 5, 6, 7, 8, 9, 55, 34, 35, 36, 73, 74, 75, 76, 77, 78, 79, 80, 81, 82, 83, 66, 67, 68, 69, 70, 71, 72, 85, 86, 87, 88, 89, 90, 91, 92, 93, 94, 95, 84] (by decide +kernel) (by decide +kernel)
set_option maxRecDepth 20000 in
theorem gX4_refuseThoseWhoWaited_X4_refuse : GoodIn wsX4_refuseThoseWhoWaited (wsV RX4 159 RX4 yX4_refuse wsX4_refuse) := goodIn_app (goodIn_of _ (by decide +kernel)) ggX4_refuseThoseWhoWaited_X4_refuse
set_option maxRecDepth 20000 in
theorem ggX4_refuseThoseWhoWaited_X1_gain : GoodIn wsX4_refuseThoseWhoWaited wsX1_gain := goodIn_r _ [59, 60, 61, 62, 63, 64, 65, 32, 5, 6, 7, 8, 9, 66, 67, 68, 69, 70, 71, 72, 84] (by decide +kernel) (by decide +kernel)
set_option maxRecDepth 20000 in
theorem gX4_refuseThoseWhoWaited_X1_gain : GoodIn wsX4_refuseThoseWhoWaited (wsV RX4 189 RX1 yX1_gain wsX1_gain) := goodIn_app (goodIn_of _ (by decide +kernel)) ggX4_refuseThoseWhoWaited_X1_gain
theorem dX4_refuseThoseWhoWaited_0 : decode cX4_refuseThoseWhoWaited 0 = .ok (.iconst 0, 1) := by decide +kernel
theorem dX4_refuseThoseWhoWaited_1 : decode cX4_refuseThoseWhoWaited 1 = .ok (.istore_n 2, 1) := by decide +kernel
theorem dX4_refuseThoseWhoWaited_2 : decode cX4_refuseThoseWhoWaited 2 = .ok (.aload_n 1, 1) := by decide +kernel
theorem dX4_refuseThoseWhoWaited_3 : decode cX4_refuseThoseWhoWaited 3 = .ok (.getfield 113, 3) := by decide +kernel
theorem dX4_refuseThoseWhoWaited_6 : decode cX4_refuseThoseWhoWaited 6 = .ok (.istore_n 3, 1) := by decide +kernel
theorem dX4_refuseThoseWhoWaited_7 : decode cX4_refuseThoseWhoWaited 7 = .ok (.iload_n 3, 1) := by decide +kernel
theorem dX4_refuseThoseWhoWaited_8 : decode cX4_refuseThoseWhoWaited 8 = .ok (.ifCond .le 64, 3) := by decide +kernel
theorem dX4_refuseThoseWhoWaited_11 : decode cX4_refuseThoseWhoWaited 11 = .ok (.aload_n 0, 1) := by decide +kernel
theorem dX4_refuseThoseWhoWaited_12 : decode cX4_refuseThoseWhoWaited 12 = .ok (.aload_n 1, 1) := by decide +kernel
theorem dX4_refuseThoseWhoWaited_13 : decode cX4_refuseThoseWhoWaited 13 = .ok (.getfield 116, 3) := by decide +kernel
theorem dX4_refuseThoseWhoWaited_16 : decode cX4_refuseThoseWhoWaited 16 = .ok (.iload_n 2, 1) := by decide +kernel
theorem dX4_refuseThoseWhoWaited_17 : decode cX4_refuseThoseWhoWaited 17 = .ok (.invokevirtual 103, 3) := by decide +kernel
theorem dX4_refuseThoseWhoWaited_20 : decode cX4_refuseThoseWhoWaited 20 = .ok (.invokevirtual 70, 3) := by decide +kernel
theorem dX4_refuseThoseWhoWaited_23 : decode cX4_refuseThoseWhoWaited 23 = .ok (.astore 4, 2) := by decide +kernel
theorem dX4_refuseThoseWhoWaited_25 : decode cX4_refuseThoseWhoWaited 25 = .ok (.aload 4, 2) := by decide +kernel
theorem dX4_refuseThoseWhoWaited_27 : decode cX4_refuseThoseWhoWaited 27 = .ok (.ifnull 36, 3) := by decide +kernel
theorem dX4_refuseThoseWhoWaited_30 : decode cX4_refuseThoseWhoWaited 30 = .ok (.aload_n 0, 1) := by decide +kernel
theorem dX4_refuseThoseWhoWaited_31 : decode cX4_refuseThoseWhoWaited 31 = .ok (.aload 4, 2) := by decide +kernel
theorem dX4_refuseThoseWhoWaited_33 : decode cX4_refuseThoseWhoWaited 33 = .ok (.invokevirtual 198, 3) := by decide +kernel
theorem dX4_refuseThoseWhoWaited_36 : decode cX4_refuseThoseWhoWaited 36 = .ok (.ifCond .eq 27, 3) := by decide +kernel
theorem dX4_refuseThoseWhoWaited_39 : decode cX4_refuseThoseWhoWaited 39 = .ok (.aload_n 1, 1) := by decide +kernel
theorem dX4_refuseThoseWhoWaited_40 : decode cX4_refuseThoseWhoWaited 40 = .ok (.iload_n 2, 1) := by decide +kernel
theorem dX4_refuseThoseWhoWaited_41 : decode cX4_refuseThoseWhoWaited 41 = .ok (.invokevirtual 202, 3) := by decide +kernel
theorem dX4_refuseThoseWhoWaited_44 : decode cX4_refuseThoseWhoWaited 44 = .ok (.aload_n 0, 1) := by decide +kernel
theorem dX4_refuseThoseWhoWaited_45 : decode cX4_refuseThoseWhoWaited 45 = .ok (.aload 4, 2) := by decide +kernel
theorem dX4_refuseThoseWhoWaited_47 : decode cX4_refuseThoseWhoWaited 47 = .ok (.iconst 5, 1) := by decide +kernel
theorem dX4_refuseThoseWhoWaited_48 : decode cX4_refuseThoseWhoWaited 48 = .ok (.invokevirtual 159, 3) := by decide +kernel
theorem dX4_refuseThoseWhoWaited_51 : decode cX4_refuseThoseWhoWaited 51 = .ok (.aload_n 1, 1) := by decide +kernel
theorem dX4_refuseThoseWhoWaited_52 : decode cX4_refuseThoseWhoWaited 52 = .ok (.aload 4, 2) := by decide +kernel
theorem dX4_refuseThoseWhoWaited_54 : decode cX4_refuseThoseWhoWaited 54 = .ok (.getfield 119, 3) := by decide +kernel
theorem dX4_refuseThoseWhoWaited_57 : decode cX4_refuseThoseWhoWaited 57 = .ok (.invokevirtual 189, 3) := by decide +kernel
theorem dX4_refuseThoseWhoWaited_60 : decode cX4_refuseThoseWhoWaited 60 = .ok (.goto 6, 3) := by decide +kernel
theorem dX4_refuseThoseWhoWaited_63 : decode cX4_refuseThoseWhoWaited 63 = .ok (.iinc 2 1, 3) := by decide +kernel
theorem dX4_refuseThoseWhoWaited_66 : decode cX4_refuseThoseWhoWaited 66 = .ok (.iinc 3 (-1), 3) := by decide +kernel
theorem dX4_refuseThoseWhoWaited_69 : decode cX4_refuseThoseWhoWaited 69 = .ok (.goto (-62), 3) := by decide +kernel
theorem dX4_refuseThoseWhoWaited_72 : decode cX4_refuseThoseWhoWaited 72 = .ok (.return_, 1) := by decide +kernel
set_option maxRecDepth 20000 in
theorem ggX4_hasWaitedTooLong_X3_at : GoodIn wsX4_hasWaitedTooLong wsX3_at := goodIn_r _ [9, 10, 33] (by decide +kernel) (by decide +kernel)
set_option maxRecDepth 20000 in
theorem gX4_hasWaitedTooLong_X3_at : GoodIn wsX4_hasWaitedTooLong (wsV RX4 103 RX3 yX3_at wsX3_at) := goodIn_app (goodIn_of _ (by decide +kernel)) ggX4_hasWaitedTooLong_X3_at
theorem dX4_hasWaitedTooLong_0 : decode cX4_hasWaitedTooLong 0 = .ok (.aload_n 1, 1) := by decide +kernel
theorem dX4_hasWaitedTooLong_1 : decode cX4_hasWaitedTooLong 1 = .ok (.getfield 172, 3) := by decide +kernel
theorem dX4_hasWaitedTooLong_4 : decode cX4_hasWaitedTooLong 4 = .ok (.ifCond .ne 27, 3) := by decide +kernel
theorem dX4_hasWaitedTooLong_7 : decode cX4_hasWaitedTooLong 7 = .ok (.aload_n 0, 1) := by decide +kernel
theorem dX4_hasWaitedTooLong_8 : decode cX4_hasWaitedTooLong 8 = .ok (.getfield 52, 3) := by decide +kernel
theorem dX4_hasWaitedTooLong_11 : decode cX4_hasWaitedTooLong 11 = .ok (.aload_n 1, 1) := by decide +kernel
theorem dX4_hasWaitedTooLong_12 : decode cX4_hasWaitedTooLong 12 = .ok (.getfield 175, 3) := by decide +kernel
theorem dX4_hasWaitedTooLong_15 : decode cX4_hasWaitedTooLong 15 = .ok (.isub, 1) := by decide +kernel
theorem dX4_hasWaitedTooLong_16 : decode cX4_hasWaitedTooLong 16 = .ok (.aload_n 0, 1) := by decide +kernel
theorem dX4_hasWaitedTooLong_17 : decode cX4_hasWaitedTooLong 17 = .ok (.getfield 14, 3) := by decide +kernel
theorem dX4_hasWaitedTooLong_20 : decode cX4_hasWaitedTooLong 20 = .ok (.iconst 1, 1) := by decide +kernel
theorem dX4_hasWaitedTooLong_21 : decode cX4_hasWaitedTooLong 21 = .ok (.invokevirtual 103, 3) := by decide +kernel
theorem dX4_hasWaitedTooLong_24 : decode cX4_hasWaitedTooLong 24 = .ok (.if_icmp .lt 7, 3) := by decide +kernel
theorem dX4_hasWaitedTooLong_27 : decode cX4_hasWaitedTooLong 27 = .ok (.iconst 1, 1) := by decide +kernel
theorem dX4_hasWaitedTooLong_28 : decode cX4_hasWaitedTooLong 28 = .ok (.goto 4, 3) := by decide +kernel
theorem dX4_hasWaitedTooLong_31 : decode cX4_hasWaitedTooLong 31 = .ok (.iconst 0, 1) := by decide +kernel
theorem dX4_hasWaitedTooLong_32 : decode cX4_hasWaitedTooLong 32 = .ok (.ireturn, 1) := by decide +kernel
set_option maxRecDepth 20000 in
theorem ggX4_workOneUnit_X4_nextLane : GoodIn wsX4_workOneUnit wsX4_nextLane := goodIn_r _ [13, 14, 3, 15, 16, 17, 12, 18, 19, 20, 21, 82, 83, 84, 85, 86, 87, 88, 71, 72, 73, 74, 75, 76, 77, 78, 79, 80, 81] (by decide +kernel) (by decide +kernel)
set_option maxRecDepth 20000 in
theorem gX4_workOneUnit_X4_nextLane : GoodIn wsX4_workOneUnit (wsV RX4 205 RX4 yX4_nextLane wsX4_nextLane) := goodIn_app (goodIn_of _ (by decide +kernel)) ggX4_workOneUnit_X4_nextLane
set_option maxRecDepth 20000 in
theorem ggX4_workOneUnit_X3_at : GoodIn wsX4_workOneUnit wsX3_at := goodIn_r _ [26, 27, 100] (by decide +kernel) (by decide +kernel)
set_option maxRecDepth 20000 in
theorem gX4_workOneUnit_X3_at : GoodIn wsX4_workOneUnit (wsV RX4 103 RX3 yX3_at wsX3_at) := goodIn_app (goodIn_of _ (by decide +kernel)) ggX4_workOneUnit_X3_at
set_option maxRecDepth 20000 in
theorem ggX4_workOneUnit_X6_quotient : GoodIn wsX4_workOneUnit wsX6_quotient := goodIn_r _ [30] (by decide +kernel) (by decide +kernel)
set_option maxRecDepth 20000 in
theorem gX4_workOneUnit_X6_quotient_n130 : GoodIn wsX4_workOneUnit (wsX6_quotient) := ggX4_workOneUnit_X6_quotient
set_option maxRecDepth 20000 in
theorem ggX4_workOneUnit_X4_find : GoodIn wsX4_workOneUnit wsX4_find := goodIn_r _ [34, 35, 36, 71, 72, 73, 74, 75, 76, 77, 78, 79, 80, 81] (by decide +kernel) (by decide +kernel)
set_option maxRecDepth 20000 in
theorem gX4_workOneUnit_X4_find : GoodIn wsX4_workOneUnit (wsV RX4 70 RX4 yX4_find wsX4_find) := goodIn_app (goodIn_of _ (by decide +kernel)) ggX4_workOneUnit_X4_find
set_option maxRecDepth 20000 in
theorem ggX4_workOneUnit_X4_complete : GoodIn wsX4_workOneUnit wsX4_complete := goodIn_r _ [40, 7, 41, 42, 43, 44, 45, 8, 46, 47, 48, 49, 50, 51, 52, 53, 54, 55, 23, 24, 25, 26, 27, 56, 57, 58, 59, 22, 60, 61, 62, 63, 64, 65, 66, 67, 68, 69, 70, 89, 90, 91, 92, 93, 94, 95, 96, 97, 98, 99, 71, 72, 73, 74, 75, 76, 77, 78, 79, 80, 81, 82, 83, 84, 85, 86, 87, 88, 100] (by decide +kernel) (by decide +kernel)
set_option maxRecDepth 20000 in
theorem gX4_workOneUnit_X4_complete : GoodIn wsX4_workOneUnit (wsV RX4 213 RX4 yX4_complete wsX4_complete) := goodIn_app (goodIn_of _ (by decide +kernel)) ggX4_workOneUnit_X4_complete
theorem dX4_workOneUnit_0 : decode cX4_workOneUnit 0 = .ok (.aload_n 0, 1) := by decide +kernel
theorem dX4_workOneUnit_1 : decode cX4_workOneUnit 1 = .ok (.invokevirtual 205, 3) := by decide +kernel
theorem dX4_workOneUnit_4 : decode cX4_workOneUnit 4 = .ok (.astore_n 1, 1) := by decide +kernel
theorem dX4_workOneUnit_5 : decode cX4_workOneUnit 5 = .ok (.aload_n 1, 1) := by decide +kernel
theorem dX4_workOneUnit_6 : decode cX4_workOneUnit 6 = .ok (.ifnonnull 15, 3) := by decide +kernel
theorem dX4_workOneUnit_9 : decode cX4_workOneUnit 9 = .ok (.aload_n 0, 1) := by decide +kernel
theorem dX4_workOneUnit_10 : decode cX4_workOneUnit 10 = .ok (.dup, 1) := by decide +kernel
theorem dX4_workOneUnit_11 : decode cX4_workOneUnit 11 = .ok (.getfield 55, 3) := by decide +kernel
theorem dX4_workOneUnit_14 : decode cX4_workOneUnit 14 = .ok (.iconst 1, 1) := by decide +kernel
theorem dX4_workOneUnit_15 : decode cX4_workOneUnit 15 = .ok (.iadd, 1) := by decide +kernel
theorem dX4_workOneUnit_16 : decode cX4_workOneUnit 16 = .ok (.putfield 55, 3) := by decide +kernel
theorem dX4_workOneUnit_19 : decode cX4_workOneUnit 19 = .ok (.iconst 0, 1) := by decide +kernel
theorem dX4_workOneUnit_20 : decode cX4_workOneUnit 20 = .ok (.ireturn, 1) := by decide +kernel
theorem dX4_workOneUnit_21 : decode cX4_workOneUnit 21 = .ok (.aload_n 1, 1) := by decide +kernel
theorem dX4_workOneUnit_22 : decode cX4_workOneUnit 22 = .ok (.dup, 1) := by decide +kernel
theorem dX4_workOneUnit_23 : decode cX4_workOneUnit 23 = .ok (.getfield 209, 3) := by decide +kernel
theorem dX4_workOneUnit_26 : decode cX4_workOneUnit 26 = .ok (.iconst 1, 1) := by decide +kernel
theorem dX4_workOneUnit_27 : decode cX4_workOneUnit 27 = .ok (.iadd, 1) := by decide +kernel
theorem dX4_workOneUnit_28 : decode cX4_workOneUnit 28 = .ok (.putfield 209, 3) := by decide +kernel
theorem dX4_workOneUnit_31 : decode cX4_workOneUnit 31 = .ok (.aload_n 1, 1) := by decide +kernel
theorem dX4_workOneUnit_32 : decode cX4_workOneUnit 32 = .ok (.dup, 1) := by decide +kernel
theorem dX4_workOneUnit_33 : decode cX4_workOneUnit 33 = .ok (.getfield 178, 3) := by decide +kernel
theorem dX4_workOneUnit_36 : decode cX4_workOneUnit 36 = .ok (.sipush 2520, 3) := by decide +kernel
theorem dX4_workOneUnit_39 : decode cX4_workOneUnit 39 = .ok (.aload_n 1, 1) := by decide +kernel
theorem dX4_workOneUnit_40 : decode cX4_workOneUnit 40 = .ok (.getfield 125, 3) := by decide +kernel
theorem dX4_workOneUnit_43 : decode cX4_workOneUnit 43 = .ok (.iconst 0, 1) := by decide +kernel
theorem dX4_workOneUnit_44 : decode cX4_workOneUnit 44 = .ok (.invokevirtual 103, 3) := by decide +kernel
theorem dX4_workOneUnit_47 : decode cX4_workOneUnit 47 = .ok (.invokestatic 130, 3) := by decide +kernel
theorem dX4_workOneUnit_50 : decode cX4_workOneUnit 50 = .ok (.iadd, 1) := by decide +kernel
theorem dX4_workOneUnit_51 : decode cX4_workOneUnit 51 = .ok (.putfield 178, 3) := by decide +kernel
theorem dX4_workOneUnit_54 : decode cX4_workOneUnit 54 = .ok (.aload_n 0, 1) := by decide +kernel
theorem dX4_workOneUnit_55 : decode cX4_workOneUnit 55 = .ok (.aload_n 1, 1) := by decide +kernel
theorem dX4_workOneUnit_56 : decode cX4_workOneUnit 56 = .ok (.getfield 116, 3) := by decide +kernel
theorem dX4_workOneUnit_59 : decode cX4_workOneUnit 59 = .ok (.iconst 0, 1) := by decide +kernel
theorem dX4_workOneUnit_60 : decode cX4_workOneUnit 60 = .ok (.invokevirtual 103, 3) := by decide +kernel
theorem dX4_workOneUnit_63 : decode cX4_workOneUnit 63 = .ok (.invokevirtual 70, 3) := by decide +kernel
theorem dX4_workOneUnit_66 : decode cX4_workOneUnit 66 = .ok (.astore_n 2, 1) := by decide +kernel
theorem dX4_workOneUnit_67 : decode cX4_workOneUnit 67 = .ok (.aload_n 2, 1) := by decide +kernel
theorem dX4_workOneUnit_68 : decode cX4_workOneUnit 68 = .ok (.ifnonnull 5, 3) := by decide +kernel
theorem dX4_workOneUnit_71 : decode cX4_workOneUnit 71 = .ok (.iconst 0, 1) := by decide +kernel
theorem dX4_workOneUnit_72 : decode cX4_workOneUnit 72 = .ok (.ireturn, 1) := by decide +kernel
theorem dX4_workOneUnit_73 : decode cX4_workOneUnit 73 = .ok (.aload_n 2, 1) := by decide +kernel
theorem dX4_workOneUnit_74 : decode cX4_workOneUnit 74 = .ok (.dup, 1) := by decide +kernel
theorem dX4_workOneUnit_75 : decode cX4_workOneUnit 75 = .ok (.getfield 122, 3) := by decide +kernel
theorem dX4_workOneUnit_78 : decode cX4_workOneUnit 78 = .ok (.iconst 1, 1) := by decide +kernel
theorem dX4_workOneUnit_79 : decode cX4_workOneUnit 79 = .ok (.iadd, 1) := by decide +kernel
theorem dX4_workOneUnit_80 : decode cX4_workOneUnit 80 = .ok (.putfield 122, 3) := by decide +kernel
theorem dX4_workOneUnit_83 : decode cX4_workOneUnit 83 = .ok (.aload_n 2, 1) := by decide +kernel
theorem dX4_workOneUnit_84 : decode cX4_workOneUnit 84 = .ok (.iconst 1, 1) := by decide +kernel
theorem dX4_workOneUnit_85 : decode cX4_workOneUnit 85 = .ok (.putfield 172, 3) := by decide +kernel
theorem dX4_workOneUnit_88 : decode cX4_workOneUnit 88 = .ok (.aload_n 2, 1) := by decide +kernel
theorem dX4_workOneUnit_89 : decode cX4_workOneUnit 89 = .ok (.getfield 122, 3) := by decide +kernel
theorem dX4_workOneUnit_92 : decode cX4_workOneUnit 92 = .ok (.aload_n 2, 1) := by decide +kernel
theorem dX4_workOneUnit_93 : decode cX4_workOneUnit 93 = .ok (.getfield 210, 3) := by decide +kernel
theorem dX4_workOneUnit_96 : decode cX4_workOneUnit 96 = .ok (.if_icmp .ge 5, 3) := by decide +kernel
theorem dX4_workOneUnit_99 : decode cX4_workOneUnit 99 = .ok (.iconst 0, 1) := by decide +kernel
theorem dX4_workOneUnit_100 : decode cX4_workOneUnit 100 = .ok (.ireturn, 1) := by decide +kernel
theorem dX4_workOneUnit_101 : decode cX4_workOneUnit 101 = .ok (.aload_n 0, 1) := by decide +kernel
theorem dX4_workOneUnit_102 : decode cX4_workOneUnit 102 = .ok (.aload_n 1, 1) := by decide +kernel
theorem dX4_workOneUnit_103 : decode cX4_workOneUnit 103 = .ok (.aload_n 2, 1) := by decide +kernel
theorem dX4_workOneUnit_104 : decode cX4_workOneUnit 104 = .ok (.invokevirtual 213, 3) := by decide +kernel
theorem dX4_workOneUnit_107 : decode cX4_workOneUnit 107 = .ok (.iconst 1, 1) := by decide +kernel
theorem dX4_workOneUnit_108 : decode cX4_workOneUnit 108 = .ok (.ireturn, 1) := by decide +kernel
set_option maxRecDepth 20000 in
theorem ggX4_nextLane_X4_lane : GoodIn wsX4_nextLane wsX4_lane := goodIn_r _ [7, 8, 9, 10, 18, 19, 20, 21, 22, 23, 24, 25, 26, 27, 28] (by decide +kernel) (by decide +kernel)
set_option maxRecDepth 20000 in
theorem gX4_nextLane_X4_lane : GoodIn wsX4_nextLane (wsV RX4 148 RX4 yX4_lane wsX4_lane) := goodIn_app (goodIn_of _ (by decide +kernel)) ggX4_nextLane_X4_lane
theorem dX4_nextLane_0 : decode cX4_nextLane 0 = .ok (.aconst_null, 1) := by decide +kernel
theorem dX4_nextLane_1 : decode cX4_nextLane 1 = .ok (.astore_n 1, 1) := by decide +kernel
theorem dX4_nextLane_2 : decode cX4_nextLane 2 = .ok (.iconst 0, 1) := by decide +kernel
theorem dX4_nextLane_3 : decode cX4_nextLane 3 = .ok (.istore_n 2, 1) := by decide +kernel
theorem dX4_nextLane_4 : decode cX4_nextLane 4 = .ok (.iload_n 2, 1) := by decide +kernel
theorem dX4_nextLane_5 : decode cX4_nextLane 5 = .ok (.iconst 3, 1) := by decide +kernel
theorem dX4_nextLane_6 : decode cX4_nextLane 6 = .ok (.if_icmp .ge 39, 3) := by decide +kernel
theorem dX4_nextLane_9 : decode cX4_nextLane 9 = .ok (.aload_n 0, 1) := by decide +kernel
theorem dX4_nextLane_10 : decode cX4_nextLane 10 = .ok (.iload_n 2, 1) := by decide +kernel
theorem dX4_nextLane_11 : decode cX4_nextLane 11 = .ok (.invokevirtual 148, 3) := by decide +kernel
theorem dX4_nextLane_14 : decode cX4_nextLane 14 = .ok (.astore_n 3, 1) := by decide +kernel
theorem dX4_nextLane_15 : decode cX4_nextLane 15 = .ok (.aload_n 3, 1) := by decide +kernel
theorem dX4_nextLane_16 : decode cX4_nextLane 16 = .ok (.getfield 113, 3) := by decide +kernel
theorem dX4_nextLane_19 : decode cX4_nextLane 19 = .ok (.ifCond .le 20, 3) := by decide +kernel
theorem dX4_nextLane_22 : decode cX4_nextLane 22 = .ok (.aload_n 1, 1) := by decide +kernel
theorem dX4_nextLane_23 : decode cX4_nextLane 23 = .ok (.ifnull 14, 3) := by decide +kernel
theorem dX4_nextLane_26 : decode cX4_nextLane 26 = .ok (.aload_n 3, 1) := by decide +kernel
theorem dX4_nextLane_27 : decode cX4_nextLane 27 = .ok (.getfield 178, 3) := by decide +kernel
theorem dX4_nextLane_30 : decode cX4_nextLane 30 = .ok (.aload_n 1, 1) := by decide +kernel
theorem dX4_nextLane_31 : decode cX4_nextLane 31 = .ok (.getfield 178, 3) := by decide +kernel
theorem dX4_nextLane_34 : decode cX4_nextLane 34 = .ok (.if_icmp .ge 5, 3) := by decide +kernel
theorem dX4_nextLane_37 : decode cX4_nextLane 37 = .ok (.aload_n 3, 1) := by decide +kernel
theorem dX4_nextLane_38 : decode cX4_nextLane 38 = .ok (.astore_n 1, 1) := by decide +kernel
theorem dX4_nextLane_39 : decode cX4_nextLane 39 = .ok (.iinc 2 1, 3) := by decide +kernel
theorem dX4_nextLane_42 : decode cX4_nextLane 42 = .ok (.goto (-38), 3) := by decide +kernel
theorem dX4_nextLane_45 : decode cX4_nextLane 45 = .ok (.aload_n 1, 1) := by decide +kernel
theorem dX4_nextLane_46 : decode cX4_nextLane 46 = .ok (.areturn, 1) := by decide +kernel
set_option maxRecDepth 20000 in
theorem ggX4_complete_X1_leave : GoodIn wsX4_complete wsX1_leave := goodIn_r _ [14, 15, 16, 17, 18, 19, 20, 21, 22, 23, 24, 25, 26, 61, 62, 63, 64, 65, 66, 67, 68] (by decide +kernel) (by decide +kernel)
set_option maxRecDepth 20000 in
theorem gX4_complete_X1_leave : GoodIn wsX4_complete (wsV RX4 202 RX1 yX1_leave wsX1_leave) := goodIn_app (goodIn_of _ (by decide +kernel)) ggX4_complete_X1_leave
set_option maxRecDepth 20000 in
theorem ggX4_complete_X3_at : GoodIn wsX4_complete wsX3_at := goodIn_r _ [21, 22, 68] (by decide +kernel) (by decide +kernel)
set_option maxRecDepth 20000 in
theorem gX4_complete_X3_at : GoodIn wsX4_complete (wsV RX4 103 RX3 yX3_at wsX3_at) := goodIn_app (goodIn_of _ (by decide +kernel)) ggX4_complete_X3_at
set_option maxRecDepth 20000 in
theorem ggX4_complete_X3_put : GoodIn wsX4_complete wsX3_put := goodIn_r _ [26, 22, 68] (by decide +kernel) (by decide +kernel)
set_option maxRecDepth 20000 in
theorem gX4_complete_X3_put : GoodIn wsX4_complete (wsV RX4 58 RX3 yX3_put wsX3_put) := goodIn_app (goodIn_of _ (by decide +kernel)) ggX4_complete_X3_put
set_option maxRecDepth 20000 in
theorem ggX4_complete_X1_gain : GoodIn wsX4_complete wsX1_gain := goodIn_r _ [32, 33, 34, 35, 36, 37, 38, 17, 18, 19, 20, 21, 22, 61, 62, 63, 64, 65, 66, 67, 68] (by decide +kernel) (by decide +kernel)
set_option maxRecDepth 20000 in
theorem gX4_complete_X1_gain : GoodIn wsX4_complete (wsV RX4 189 RX1 yX1_gain wsX1_gain) := goodIn_app (goodIn_of _ (by decide +kernel)) ggX4_complete_X1_gain
theorem dX4_complete_0 : decode cX4_complete 0 = .ok (.aload_n 2, 1) := by decide +kernel
theorem dX4_complete_1 : decode cX4_complete 1 = .ok (.iconst 2, 1) := by decide +kernel
theorem dX4_complete_2 : decode cX4_complete 2 = .ok (.putfield 172, 3) := by decide +kernel
theorem dX4_complete_5 : decode cX4_complete 5 = .ok (.aload_n 2, 1) := by decide +kernel
theorem dX4_complete_6 : decode cX4_complete 6 = .ok (.aload_n 0, 1) := by decide +kernel
theorem dX4_complete_7 : decode cX4_complete 7 = .ok (.getfield 52, 3) := by decide +kernel
theorem dX4_complete_10 : decode cX4_complete 10 = .ok (.putfield 187, 3) := by decide +kernel
theorem dX4_complete_13 : decode cX4_complete 13 = .ok (.aload_n 0, 1) := by decide +kernel
theorem dX4_complete_14 : decode cX4_complete 14 = .ok (.dup, 1) := by decide +kernel
theorem dX4_complete_15 : decode cX4_complete 15 = .ok (.getfield 46, 3) := by decide +kernel
theorem dX4_complete_18 : decode cX4_complete 18 = .ok (.iconst 1, 1) := by decide +kernel
theorem dX4_complete_19 : decode cX4_complete 19 = .ok (.isub, 1) := by decide +kernel
theorem dX4_complete_20 : decode cX4_complete 20 = .ok (.putfield 46, 3) := by decide +kernel
theorem dX4_complete_23 : decode cX4_complete 23 = .ok (.aload_n 1, 1) := by decide +kernel
theorem dX4_complete_24 : decode cX4_complete 24 = .ok (.iconst 0, 1) := by decide +kernel
theorem dX4_complete_25 : decode cX4_complete 25 = .ok (.invokevirtual 202, 3) := by decide +kernel
theorem dX4_complete_28 : decode cX4_complete 28 = .ok (.aload_n 0, 1) := by decide +kernel
theorem dX4_complete_29 : decode cX4_complete 29 = .ok (.getfield 20, 3) := by decide +kernel
theorem dX4_complete_32 : decode cX4_complete 32 = .ok (.aload_n 2, 1) := by decide +kernel
theorem dX4_complete_33 : decode cX4_complete 33 = .ok (.getfield 136, 3) := by decide +kernel
theorem dX4_complete_36 : decode cX4_complete 36 = .ok (.invokevirtual 103, 3) := by decide +kernel
theorem dX4_complete_39 : decode cX4_complete 39 = .ok (.istore_n 3, 1) := by decide +kernel
theorem dX4_complete_40 : decode cX4_complete 40 = .ok (.aload_n 0, 1) := by decide +kernel
theorem dX4_complete_41 : decode cX4_complete 41 = .ok (.getfield 20, 3) := by decide +kernel
theorem dX4_complete_44 : decode cX4_complete 44 = .ok (.aload_n 2, 1) := by decide +kernel
theorem dX4_complete_45 : decode cX4_complete 45 = .ok (.getfield 136, 3) := by decide +kernel
theorem dX4_complete_48 : decode cX4_complete 48 = .ok (.iload_n 3, 1) := by decide +kernel
theorem dX4_complete_49 : decode cX4_complete 49 = .ok (.bipush 16, 2) := by decide +kernel
theorem dX4_complete_51 : decode cX4_complete 51 = .ok (.aload_n 2, 1) := by decide +kernel
theorem dX4_complete_52 : decode cX4_complete 52 = .ok (.getfield 210, 3) := by decide +kernel
theorem dX4_complete_55 : decode cX4_complete 55 = .ok (.imul, 1) := by decide +kernel
theorem dX4_complete_56 : decode cX4_complete 56 = .ok (.iload_n 3, 1) := by decide +kernel
theorem dX4_complete_57 : decode cX4_complete 57 = .ok (.isub, 1) := by decide +kernel
theorem dX4_complete_58 : decode cX4_complete 58 = .ok (.iconst 4, 1) := by decide +kernel
theorem dX4_complete_59 : decode cX4_complete 59 = .ok (.idiv, 1) := by decide +kernel
theorem dX4_complete_60 : decode cX4_complete 60 = .ok (.iadd, 1) := by decide +kernel
theorem dX4_complete_61 : decode cX4_complete 61 = .ok (.invokevirtual 58, 3) := by decide +kernel
theorem dX4_complete_64 : decode cX4_complete 64 = .ok (.aload_n 2, 1) := by decide +kernel
theorem dX4_complete_65 : decode cX4_complete 65 = .ok (.getfield 119, 3) := by decide +kernel
theorem dX4_complete_68 : decode cX4_complete 68 = .ok (.aload_n 2, 1) := by decide +kernel
theorem dX4_complete_69 : decode cX4_complete 69 = .ok (.getfield 210, 3) := by decide +kernel
theorem dX4_complete_72 : decode cX4_complete 72 = .ok (.if_icmp .le 19, 3) := by decide +kernel
theorem dX4_complete_75 : decode cX4_complete 75 = .ok (.aload_n 1, 1) := by decide +kernel
theorem dX4_complete_76 : decode cX4_complete 76 = .ok (.aload_n 2, 1) := by decide +kernel
theorem dX4_complete_77 : decode cX4_complete 77 = .ok (.getfield 119, 3) := by decide +kernel
theorem dX4_complete_80 : decode cX4_complete 80 = .ok (.aload_n 2, 1) := by decide +kernel
theorem dX4_complete_81 : decode cX4_complete 81 = .ok (.getfield 210, 3) := by decide +kernel
theorem dX4_complete_84 : decode cX4_complete 84 = .ok (.isub, 1) := by decide +kernel
theorem dX4_complete_85 : decode cX4_complete 85 = .ok (.invokevirtual 189, 3) := by decide +kernel
theorem dX4_complete_88 : decode cX4_complete 88 = .ok (.goto 21, 3) := by decide +kernel
theorem dX4_complete_91 : decode cX4_complete 91 = .ok (.aload_n 1, 1) := by decide +kernel
theorem dX4_complete_92 : decode cX4_complete 92 = .ok (.dup, 1) := by decide +kernel
theorem dX4_complete_93 : decode cX4_complete 93 = .ok (.getfield 133, 3) := by decide +kernel
theorem dX4_complete_96 : decode cX4_complete 96 = .ok (.aload_n 2, 1) := by decide +kernel
theorem dX4_complete_97 : decode cX4_complete 97 = .ok (.getfield 210, 3) := by decide +kernel
theorem dX4_complete_100 : decode cX4_complete 100 = .ok (.aload_n 2, 1) := by decide +kernel
theorem dX4_complete_101 : decode cX4_complete 101 = .ok (.getfield 119, 3) := by decide +kernel
theorem dX4_complete_104 : decode cX4_complete 104 = .ok (.isub, 1) := by decide +kernel
theorem dX4_complete_105 : decode cX4_complete 105 = .ok (.isub, 1) := by decide +kernel
theorem dX4_complete_106 : decode cX4_complete 106 = .ok (.putfield 133, 3) := by decide +kernel
theorem dX4_complete_109 : decode cX4_complete 109 = .ok (.return_, 1) := by decide +kernel
set_option maxRecDepth 20000 in
theorem ggX5_init_X3_init : GoodIn wsX5_init wsX3_init := goodIn_r _ [11, 12, 2, 3, 13, 14, 15] (by decide +kernel) (by decide +kernel)
set_option maxRecDepth 20000 in
theorem gX5_init_X3_init : GoodIn wsX5_init (wsX3_init) := ggX5_init_X3_init
theorem dX5_init_0 : decode cX5_init 0 = .ok (.aload_n 0, 1) := by decide +kernel
theorem dX5_init_1 : decode cX5_init 1 = .ok (.invokespecial 3, 3) := by decide +kernel
theorem dX5_init_4 : decode cX5_init 4 = .ok (.aload_n 0, 1) := by decide +kernel
theorem dX5_init_5 : decode cX5_init 5 = .ok (.new 9, 3) := by decide +kernel
theorem dX5_init_8 : decode cX5_init 8 = .ok (.dup, 1) := by decide +kernel
theorem dX5_init_9 : decode cX5_init 9 = .ok (.bipush 80, 2) := by decide +kernel
theorem dX5_init_11 : decode cX5_init 11 = .ok (.invokespecial 11, 3) := by decide +kernel
theorem dX5_init_14 : decode cX5_init 14 = .ok (.putfield 14, 3) := by decide +kernel
theorem dX5_init_17 : decode cX5_init 17 = .ok (.aload_n 0, 1) := by decide +kernel
theorem dX5_init_18 : decode cX5_init 18 = .ok (.iconst 0, 1) := by decide +kernel
theorem dX5_init_19 : decode cX5_init 19 = .ok (.putfield 20, 3) := by decide +kernel
theorem dX5_init_22 : decode cX5_init 22 = .ok (.return_, 1) := by decide +kernel
set_option maxRecDepth 20000 in
theorem ggX5_add_X3_put : GoodIn wsX5_add wsX3_put := goodIn_r _ [7, 8, 11] (by decide +kernel) (by decide +kernel)
set_option maxRecDepth 20000 in
theorem gX5_add_X3_put : GoodIn wsX5_add (wsV RX5 24 RX3 yX3_put wsX3_put) := goodIn_app (goodIn_of _ (by decide +kernel)) ggX5_add_X3_put
theorem dX5_add_0 : decode cX5_add 0 = .ok (.aload_n 0, 1) := by decide +kernel
theorem dX5_add_1 : decode cX5_add 1 = .ok (.getfield 20, 3) := by decide +kernel
theorem dX5_add_4 : decode cX5_add 4 = .ok (.bipush 80, 2) := by decide +kernel
theorem dX5_add_6 : decode cX5_add 6 = .ok (.if_icmp .ge 25, 3) := by decide +kernel
theorem dX5_add_9 : decode cX5_add 9 = .ok (.aload_n 0, 1) := by decide +kernel
theorem dX5_add_10 : decode cX5_add 10 = .ok (.getfield 14, 3) := by decide +kernel
theorem dX5_add_13 : decode cX5_add 13 = .ok (.aload_n 0, 1) := by decide +kernel
theorem dX5_add_14 : decode cX5_add 14 = .ok (.getfield 20, 3) := by decide +kernel
theorem dX5_add_17 : decode cX5_add 17 = .ok (.iload_n 1, 1) := by decide +kernel
theorem dX5_add_18 : decode cX5_add 18 = .ok (.invokevirtual 24, 3) := by decide +kernel
theorem dX5_add_21 : decode cX5_add 21 = .ok (.aload_n 0, 1) := by decide +kernel
theorem dX5_add_22 : decode cX5_add 22 = .ok (.dup, 1) := by decide +kernel
theorem dX5_add_23 : decode cX5_add 23 = .ok (.getfield 20, 3) := by decide +kernel
theorem dX5_add_26 : decode cX5_add 26 = .ok (.iconst 1, 1) := by decide +kernel
theorem dX5_add_27 : decode cX5_add 27 = .ok (.iadd, 1) := by decide +kernel
theorem dX5_add_28 : decode cX5_add 28 = .ok (.putfield 20, 3) := by decide +kernel
theorem dX5_add_31 : decode cX5_add 31 = .ok (.return_, 1) := by decide +kernel
set_option maxRecDepth 20000 in
theorem ggX5_firstFault_X3_at : GoodIn wsX5_firstFault wsX3_at := goodIn_r _ [8, 9, 25] (by decide +kernel) (by decide +kernel)
set_option maxRecDepth 20000 in
theorem gX5_firstFault_X3_at : GoodIn wsX5_firstFault (wsV RX5 28 RX3 yX3_at wsX3_at) := goodIn_app (goodIn_of _ (by decide +kernel)) ggX5_firstFault_X3_at
set_option maxRecDepth 20000 in
theorem ggX5_firstFault_X5_expectedAfter : GoodIn wsX5_firstFault wsX5_expectedAfter := goodIn_r _ [13, 14, 15, 16, 17, 18, 12, 19, 20, 21, 22] (by decide +kernel) (by decide +kernel)
set_option maxRecDepth 20000 in
theorem gX5_firstFault_X5_expectedAfter : GoodIn wsX5_firstFault (va_wsS RX5 32 yX5_expectedAfter wsX5_expectedAfter) := goodIn_app (goodIn_of _ (by decide +kernel)) ggX5_firstFault_X5_expectedAfter
theorem dX5_firstFault_0 : decode cX5_firstFault 0 = .ok (.iconst 0, 1) := by decide +kernel
theorem dX5_firstFault_1 : decode cX5_firstFault 1 = .ok (.istore_n 1, 1) := by decide +kernel
theorem dX5_firstFault_2 : decode cX5_firstFault 2 = .ok (.iconst 0, 1) := by decide +kernel
theorem dX5_firstFault_3 : decode cX5_firstFault 3 = .ok (.istore_n 2, 1) := by decide +kernel
theorem dX5_firstFault_4 : decode cX5_firstFault 4 = .ok (.iload_n 2, 1) := by decide +kernel
theorem dX5_firstFault_5 : decode cX5_firstFault 5 = .ok (.aload_n 0, 1) := by decide +kernel
theorem dX5_firstFault_6 : decode cX5_firstFault 6 = .ok (.getfield 20, 3) := by decide +kernel
theorem dX5_firstFault_9 : decode cX5_firstFault 9 = .ok (.if_icmp .ge 30, 3) := by decide +kernel
theorem dX5_firstFault_12 : decode cX5_firstFault 12 = .ok (.iload_n 1, 1) := by decide +kernel
theorem dX5_firstFault_13 : decode cX5_firstFault 13 = .ok (.aload_n 0, 1) := by decide +kernel
theorem dX5_firstFault_14 : decode cX5_firstFault 14 = .ok (.getfield 14, 3) := by decide +kernel
theorem dX5_firstFault_17 : decode cX5_firstFault 17 = .ok (.iload_n 2, 1) := by decide +kernel
theorem dX5_firstFault_18 : decode cX5_firstFault 18 = .ok (.invokevirtual 28, 3) := by decide +kernel
theorem dX5_firstFault_21 : decode cX5_firstFault 21 = .ok (.invokestatic 32, 3) := by decide +kernel
theorem dX5_firstFault_24 : decode cX5_firstFault 24 = .ok (.istore_n 1, 1) := by decide +kernel
theorem dX5_firstFault_25 : decode cX5_firstFault 25 = .ok (.iload_n 1, 1) := by decide +kernel
theorem dX5_firstFault_26 : decode cX5_firstFault 26 = .ok (.bipush 7, 2) := by decide +kernel
theorem dX5_firstFault_28 : decode cX5_firstFault 28 = .ok (.if_icmp .ne 5, 3) := by decide +kernel
theorem dX5_firstFault_31 : decode cX5_firstFault 31 = .ok (.iload_n 2, 1) := by decide +kernel
theorem dX5_firstFault_32 : decode cX5_firstFault 32 = .ok (.ireturn, 1) := by decide +kernel
theorem dX5_firstFault_33 : decode cX5_firstFault 33 = .ok (.iinc 2 1, 3) := by decide +kernel
theorem dX5_firstFault_36 : decode cX5_firstFault 36 = .ok (.goto (-32), 3) := by decide +kernel
theorem dX5_firstFault_39 : decode cX5_firstFault 39 = .ok (.iload_n 1, 1) := by decide +kernel
theorem dX5_firstFault_40 : decode cX5_firstFault 40 = .ok (.iconst 4, 1) := by decide +kernel
theorem dX5_firstFault_41 : decode cX5_firstFault 41 = .ok (.if_icmp .eq 14, 3) := by decide +kernel
theorem dX5_firstFault_44 : decode cX5_firstFault 44 = .ok (.iload_n 1, 1) := by decide +kernel
theorem dX5_firstFault_45 : decode cX5_firstFault 45 = .ok (.iconst 5, 1) := by decide +kernel
theorem dX5_firstFault_46 : decode cX5_firstFault 46 = .ok (.if_icmp .eq 9, 3) := by decide +kernel
theorem dX5_firstFault_49 : decode cX5_firstFault 49 = .ok (.iload_n 1, 1) := by decide +kernel
theorem dX5_firstFault_50 : decode cX5_firstFault 50 = .ok (.bipush 6, 2) := by decide +kernel
theorem dX5_firstFault_52 : decode cX5_firstFault 52 = .ok (.if_icmp .ne 8, 3) := by decide +kernel
theorem dX5_firstFault_55 : decode cX5_firstFault 55 = .ok (.ldc 36, 2) := by decide +kernel
theorem dX5_firstFault_57 : decode cX5_firstFault 57 = .ok (.goto 7, 3) := by decide +kernel
theorem dX5_firstFault_60 : decode cX5_firstFault 60 = .ok (.aload_n 0, 1) := by decide +kernel
theorem dX5_firstFault_61 : decode cX5_firstFault 61 = .ok (.getfield 20, 3) := by decide +kernel
theorem dX5_firstFault_64 : decode cX5_firstFault 64 = .ok (.ireturn, 1) := by decide +kernel
set_option maxRecDepth 20000 in
theorem ggX5_expectedAfter_X6_isBetween : GoodIn wsX5_expectedAfter wsX6_isBetween := goodIn_r _ [3] (by decide +kernel) (by decide +kernel)
set_option maxRecDepth 20000 in
theorem gX5_expectedAfter_X6_isBetween_n37 : GoodIn wsX5_expectedAfter (wsX6_isBetween) := ggX5_expectedAfter_X6_isBetween
set_option maxRecDepth 20000 in
theorem ggX5_expectedAfter_X5_expectedAfterFirstOfCost : GoodIn wsX5_expectedAfter wsX5_expectedAfterFirstOfCost := goodIn_r _ [7, 1, 2, 3] (by decide +kernel) (by decide +kernel)
set_option maxRecDepth 20000 in
theorem gX5_expectedAfter_X5_expectedAfterFirstOfCost : GoodIn wsX5_expectedAfter (va_wsS RX5 41 yX5_expectedAfterFirstOfCost wsX5_expectedAfterFirstOfCost) := goodIn_app (goodIn_of _ (by decide +kernel)) ggX5_expectedAfter_X5_expectedAfterFirstOfCost
set_option maxRecDepth 20000 in
theorem ggX5_expectedAfter_X5_expectedAfterNumber : GoodIn wsX5_expectedAfter wsX5_expectedAfterNumber := goodIn_r _ [10, 1, 2, 3] (by decide +kernel) (by decide +kernel)
set_option maxRecDepth 20000 in
theorem gX5_expectedAfter_X5_expectedAfterNumber : GoodIn wsX5_expectedAfter (va_wsS RX5 44 yX5_expectedAfterNumber wsX5_expectedAfterNumber) := goodIn_app (goodIn_of _ (by decide +kernel)) ggX5_expectedAfter_X5_expectedAfterNumber
theorem dX5_expectedAfter_0 : decode cX5_expectedAfter 0 = .ok (.iload_n 0, 1) := by decide +kernel
theorem dX5_expectedAfter_1 : decode cX5_expectedAfter 1 = .ok (.tableswitch 98 0 3 #[31, 57, 75, 80], 31) := by decide +kernel
theorem dX5_expectedAfter_32 : decode cX5_expectedAfter 32 = .ok (.iload_n 1, 1) := by decide +kernel
theorem dX5_expectedAfter_33 : decode cX5_expectedAfter 33 = .ok (.bipush 43, 2) := by decide +kernel
theorem dX5_expectedAfter_35 : decode cX5_expectedAfter 35 = .ok (.if_icmp .ne 5, 3) := by decide +kernel
theorem dX5_expectedAfter_38 : decode cX5_expectedAfter 38 = .ok (.iconst 3, 1) := by decide +kernel
theorem dX5_expectedAfter_39 : decode cX5_expectedAfter 39 = .ok (.ireturn, 1) := by decide +kernel
theorem dX5_expectedAfter_40 : decode cX5_expectedAfter 40 = .ok (.bipush 48, 2) := by decide +kernel
theorem dX5_expectedAfter_42 : decode cX5_expectedAfter 42 = .ok (.iload_n 1, 1) := by decide +kernel
theorem dX5_expectedAfter_43 : decode cX5_expectedAfter 43 = .ok (.bipush 50, 2) := by decide +kernel
theorem dX5_expectedAfter_45 : decode cX5_expectedAfter 45 = .ok (.invokestatic 37, 3) := by decide +kernel
theorem dX5_expectedAfter_48 : decode cX5_expectedAfter 48 = .ok (.ifCond .eq 7, 3) := by decide +kernel
theorem dX5_expectedAfter_51 : decode cX5_expectedAfter 51 = .ok (.iconst 1, 1) := by decide +kernel
theorem dX5_expectedAfter_52 : decode cX5_expectedAfter 52 = .ok (.goto 5, 3) := by decide +kernel
theorem dX5_expectedAfter_55 : decode cX5_expectedAfter 55 = .ok (.bipush 7, 2) := by decide +kernel
theorem dX5_expectedAfter_57 : decode cX5_expectedAfter 57 = .ok (.ireturn, 1) := by decide +kernel
theorem dX5_expectedAfter_58 : decode cX5_expectedAfter 58 = .ok (.bipush 97, 2) := by decide +kernel
theorem dX5_expectedAfter_60 : decode cX5_expectedAfter 60 = .ok (.iload_n 1, 1) := by decide +kernel
theorem dX5_expectedAfter_61 : decode cX5_expectedAfter 61 = .ok (.bipush 101, 2) := by decide +kernel
theorem dX5_expectedAfter_63 : decode cX5_expectedAfter 63 = .ok (.invokestatic 37, 3) := by decide +kernel
theorem dX5_expectedAfter_66 : decode cX5_expectedAfter 66 = .ok (.ifCond .eq 7, 3) := by decide +kernel
theorem dX5_expectedAfter_69 : decode cX5_expectedAfter 69 = .ok (.iconst 2, 1) := by decide +kernel
theorem dX5_expectedAfter_70 : decode cX5_expectedAfter 70 = .ok (.goto 5, 3) := by decide +kernel
theorem dX5_expectedAfter_73 : decode cX5_expectedAfter 73 = .ok (.bipush 7, 2) := by decide +kernel
theorem dX5_expectedAfter_75 : decode cX5_expectedAfter 75 = .ok (.ireturn, 1) := by decide +kernel
theorem dX5_expectedAfter_76 : decode cX5_expectedAfter 76 = .ok (.iload_n 1, 1) := by decide +kernel
theorem dX5_expectedAfter_77 : decode cX5_expectedAfter 77 = .ok (.invokestatic 41, 3) := by decide +kernel
theorem dX5_expectedAfter_80 : decode cX5_expectedAfter 80 = .ok (.ireturn, 1) := by decide +kernel
theorem dX5_expectedAfter_81 : decode cX5_expectedAfter 81 = .ok (.bipush 49, 2) := by decide +kernel
theorem dX5_expectedAfter_83 : decode cX5_expectedAfter 83 = .ok (.iload_n 1, 1) := by decide +kernel
theorem dX5_expectedAfter_84 : decode cX5_expectedAfter 84 = .ok (.bipush 57, 2) := by decide +kernel
theorem dX5_expectedAfter_86 : decode cX5_expectedAfter 86 = .ok (.invokestatic 37, 3) := by decide +kernel
theorem dX5_expectedAfter_89 : decode cX5_expectedAfter 89 = .ok (.ifCond .eq 7, 3) := by decide +kernel
theorem dX5_expectedAfter_92 : decode cX5_expectedAfter 92 = .ok (.iconst 4, 1) := by decide +kernel
theorem dX5_expectedAfter_93 : decode cX5_expectedAfter 93 = .ok (.goto 5, 3) := by decide +kernel
theorem dX5_expectedAfter_96 : decode cX5_expectedAfter 96 = .ok (.bipush 7, 2) := by decide +kernel
theorem dX5_expectedAfter_98 : decode cX5_expectedAfter 98 = .ok (.ireturn, 1) := by decide +kernel
theorem dX5_expectedAfter_99 : decode cX5_expectedAfter 99 = .ok (.iload_n 0, 1) := by decide +kernel
theorem dX5_expectedAfter_100 : decode cX5_expectedAfter 100 = .ok (.iload_n 1, 1) := by decide +kernel
theorem dX5_expectedAfter_101 : decode cX5_expectedAfter 101 = .ok (.invokestatic 44, 3) := by decide +kernel
theorem dX5_expectedAfter_104 : decode cX5_expectedAfter 104 = .ok (.ireturn, 1) := by decide +kernel
set_option maxRecDepth 20000 in
theorem ggX5_expectedAfterFirstOfCost_X6_isBetween : GoodIn wsX5_expectedAfterFirstOfCost wsX6_isBetween := goodIn_r _ [3] (by decide +kernel) (by decide +kernel)
set_option maxRecDepth 20000 in
theorem gX5_expectedAfterFirstOfCost_X6_isBetween_n37 : GoodIn wsX5_expectedAfterFirstOfCost (wsX6_isBetween) := ggX5_expectedAfterFirstOfCost_X6_isBetween
theorem dX5_expectedAfterFirstOfCost_0 : decode cX5_expectedAfterFirstOfCost 0 = .ok (.bipush 49, 2) := by decide +kernel
theorem dX5_expectedAfterFirstOfCost_2 : decode cX5_expectedAfterFirstOfCost 2 = .ok (.iload_n 0, 1) := by decide +kernel
theorem dX5_expectedAfterFirstOfCost_3 : decode cX5_expectedAfterFirstOfCost 3 = .ok (.bipush 53, 2) := by decide +kernel
theorem dX5_expectedAfterFirstOfCost_5 : decode cX5_expectedAfterFirstOfCost 5 = .ok (.invokestatic 37, 3) := by decide +kernel
theorem dX5_expectedAfterFirstOfCost_8 : decode cX5_expectedAfterFirstOfCost 8 = .ok (.ifCond .eq 5, 3) := by decide +kernel
theorem dX5_expectedAfterFirstOfCost_11 : decode cX5_expectedAfterFirstOfCost 11 = .ok (.iconst 4, 1) := by decide +kernel
theorem dX5_expectedAfterFirstOfCost_12 : decode cX5_expectedAfterFirstOfCost 12 = .ok (.ireturn, 1) := by decide +kernel
theorem dX5_expectedAfterFirstOfCost_13 : decode cX5_expectedAfterFirstOfCost 13 = .ok (.iload_n 0, 1) := by decide +kernel
theorem dX5_expectedAfterFirstOfCost_14 : decode cX5_expectedAfterFirstOfCost 14 = .ok (.bipush 54, 2) := by decide +kernel
theorem dX5_expectedAfterFirstOfCost_16 : decode cX5_expectedAfterFirstOfCost 16 = .ok (.if_icmp .ne 5, 3) := by decide +kernel
theorem dX5_expectedAfterFirstOfCost_19 : decode cX5_expectedAfterFirstOfCost 19 = .ok (.iconst 5, 1) := by decide +kernel
theorem dX5_expectedAfterFirstOfCost_20 : decode cX5_expectedAfterFirstOfCost 20 = .ok (.ireturn, 1) := by decide +kernel
theorem dX5_expectedAfterFirstOfCost_21 : decode cX5_expectedAfterFirstOfCost 21 = .ok (.bipush 55, 2) := by decide +kernel
theorem dX5_expectedAfterFirstOfCost_23 : decode cX5_expectedAfterFirstOfCost 23 = .ok (.iload_n 0, 1) := by decide +kernel
theorem dX5_expectedAfterFirstOfCost_24 : decode cX5_expectedAfterFirstOfCost 24 = .ok (.bipush 57, 2) := by decide +kernel
theorem dX5_expectedAfterFirstOfCost_26 : decode cX5_expectedAfterFirstOfCost 26 = .ok (.invokestatic 37, 3) := by decide +kernel
theorem dX5_expectedAfterFirstOfCost_29 : decode cX5_expectedAfterFirstOfCost 29 = .ok (.ifCond .eq 8, 3) := by decide +kernel
theorem dX5_expectedAfterFirstOfCost_32 : decode cX5_expectedAfterFirstOfCost 32 = .ok (.bipush 6, 2) := by decide +kernel
theorem dX5_expectedAfterFirstOfCost_34 : decode cX5_expectedAfterFirstOfCost 34 = .ok (.goto 5, 3) := by decide +kernel
theorem dX5_expectedAfterFirstOfCost_37 : decode cX5_expectedAfterFirstOfCost 37 = .ok (.bipush 7, 2) := by decide +kernel
theorem dX5_expectedAfterFirstOfCost_39 : decode cX5_expectedAfterFirstOfCost 39 = .ok (.ireturn, 1) := by decide +kernel
set_option maxRecDepth 20000 in
theorem ggX5_expectedAfterNumber_X6_isBetween : GoodIn wsX5_expectedAfterNumber wsX6_isBetween := goodIn_r _ [3] (by decide +kernel) (by decide +kernel)
set_option maxRecDepth 20000 in
theorem gX5_expectedAfterNumber_X6_isBetween_n37 : GoodIn wsX5_expectedAfterNumber (wsX6_isBetween) := ggX5_expectedAfterNumber_X6_isBetween
theorem dX5_expectedAfterNumber_0 : decode cX5_expectedAfterNumber 0 = .ok (.iload_n 1, 1) := by decide +kernel
theorem dX5_expectedAfterNumber_1 : decode cX5_expectedAfterNumber 1 = .ok (.bipush 59, 2) := by decide +kernel
theorem dX5_expectedAfterNumber_3 : decode cX5_expectedAfterNumber 3 = .ok (.if_icmp .ne 5, 3) := by decide +kernel
theorem dX5_expectedAfterNumber_6 : decode cX5_expectedAfterNumber 6 = .ok (.iconst 0, 1) := by decide +kernel
theorem dX5_expectedAfterNumber_7 : decode cX5_expectedAfterNumber 7 = .ok (.ireturn, 1) := by decide +kernel
theorem dX5_expectedAfterNumber_8 : decode cX5_expectedAfterNumber 8 = .ok (.iload_n 0, 1) := by decide +kernel
theorem dX5_expectedAfterNumber_9 : decode cX5_expectedAfterNumber 9 = .ok (.iconst 4, 1) := by decide +kernel
theorem dX5_expectedAfterNumber_10 : decode cX5_expectedAfterNumber 10 = .ok (.if_icmp .ne 17, 3) := by decide +kernel
theorem dX5_expectedAfterNumber_13 : decode cX5_expectedAfterNumber 13 = .ok (.bipush 48, 2) := by decide +kernel
theorem dX5_expectedAfterNumber_15 : decode cX5_expectedAfterNumber 15 = .ok (.iload_n 1, 1) := by decide +kernel
theorem dX5_expectedAfterNumber_16 : decode cX5_expectedAfterNumber 16 = .ok (.bipush 57, 2) := by decide +kernel
theorem dX5_expectedAfterNumber_18 : decode cX5_expectedAfterNumber 18 = .ok (.invokestatic 37, 3) := by decide +kernel
theorem dX5_expectedAfterNumber_21 : decode cX5_expectedAfterNumber 21 = .ok (.ifCond .eq 6, 3) := by decide +kernel
theorem dX5_expectedAfterNumber_24 : decode cX5_expectedAfterNumber 24 = .ok (.bipush 6, 2) := by decide +kernel
theorem dX5_expectedAfterNumber_26 : decode cX5_expectedAfterNumber 26 = .ok (.ireturn, 1) := by decide +kernel
theorem dX5_expectedAfterNumber_27 : decode cX5_expectedAfterNumber 27 = .ok (.iload_n 0, 1) := by decide +kernel
theorem dX5_expectedAfterNumber_28 : decode cX5_expectedAfterNumber 28 = .ok (.iconst 5, 1) := by decide +kernel
theorem dX5_expectedAfterNumber_29 : decode cX5_expectedAfterNumber 29 = .ok (.if_icmp .ne 14, 3) := by decide +kernel
theorem dX5_expectedAfterNumber_32 : decode cX5_expectedAfterNumber 32 = .ok (.iload_n 1, 1) := by decide +kernel
theorem dX5_expectedAfterNumber_33 : decode cX5_expectedAfterNumber 33 = .ok (.bipush 48, 2) := by decide +kernel
theorem dX5_expectedAfterNumber_35 : decode cX5_expectedAfterNumber 35 = .ok (.if_icmp .ne 8, 3) := by decide +kernel
theorem dX5_expectedAfterNumber_38 : decode cX5_expectedAfterNumber 38 = .ok (.bipush 6, 2) := by decide +kernel
theorem dX5_expectedAfterNumber_40 : decode cX5_expectedAfterNumber 40 = .ok (.goto 5, 3) := by decide +kernel
theorem dX5_expectedAfterNumber_43 : decode cX5_expectedAfterNumber 43 = .ok (.bipush 7, 2) := by decide +kernel
theorem dX5_expectedAfterNumber_45 : decode cX5_expectedAfterNumber 45 = .ok (.ireturn, 1) := by decide +kernel
set_option maxRecDepth 20000 in
theorem ggX5_startsStep_X3_at : GoodIn wsX5_startsStep wsX3_at := goodIn_r _ [6, 7, 10] (by decide +kernel) (by decide +kernel)
set_option maxRecDepth 20000 in
theorem gX5_startsStep_X3_at : GoodIn wsX5_startsStep (wsV RX5 28 RX3 yX3_at wsX3_at) := goodIn_app (goodIn_of _ (by decide +kernel)) ggX5_startsStep_X3_at
theorem dX5_startsStep_0 : decode cX5_startsStep 0 = .ok (.iload_n 1, 1) := by decide +kernel
theorem dX5_startsStep_1 : decode cX5_startsStep 1 = .ok (.ifCond .eq 18, 3) := by decide +kernel
theorem dX5_startsStep_4 : decode cX5_startsStep 4 = .ok (.aload_n 0, 1) := by decide +kernel
theorem dX5_startsStep_5 : decode cX5_startsStep 5 = .ok (.getfield 14, 3) := by decide +kernel
theorem dX5_startsStep_8 : decode cX5_startsStep 8 = .ok (.iload_n 1, 1) := by decide +kernel
theorem dX5_startsStep_9 : decode cX5_startsStep 9 = .ok (.iconst 1, 1) := by decide +kernel
theorem dX5_startsStep_10 : decode cX5_startsStep 10 = .ok (.isub, 1) := by decide +kernel
theorem dX5_startsStep_11 : decode cX5_startsStep 11 = .ok (.invokevirtual 28, 3) := by decide +kernel
theorem dX5_startsStep_14 : decode cX5_startsStep 14 = .ok (.bipush 59, 2) := by decide +kernel
theorem dX5_startsStep_16 : decode cX5_startsStep 16 = .ok (.if_icmp .ne 7, 3) := by decide +kernel
theorem dX5_startsStep_19 : decode cX5_startsStep 19 = .ok (.iconst 1, 1) := by decide +kernel
theorem dX5_startsStep_20 : decode cX5_startsStep 20 = .ok (.goto 4, 3) := by decide +kernel
theorem dX5_startsStep_23 : decode cX5_startsStep 23 = .ok (.iconst 0, 1) := by decide +kernel
theorem dX5_startsStep_24 : decode cX5_startsStep 24 = .ok (.ireturn, 1) := by decide +kernel
set_option maxRecDepth 20000 in
theorem ggX5_numberAt_X3_at : GoodIn wsX5_numberAt wsX3_at := goodIn_r _ [7, 8, 14] (by decide +kernel) (by decide +kernel)
set_option maxRecDepth 20000 in
theorem gX5_numberAt_X3_at : GoodIn wsX5_numberAt (wsV RX5 28 RX3 yX3_at wsX3_at) := goodIn_app (goodIn_of _ (by decide +kernel)) ggX5_numberAt_X3_at
set_option maxRecDepth 20000 in
theorem ggX5_numberAt_X6_isBetween : GoodIn wsX5_numberAt wsX6_isBetween := goodIn_r _ [11] (by decide +kernel) (by decide +kernel)
set_option maxRecDepth 20000 in
theorem gX5_numberAt_X6_isBetween_n37 : GoodIn wsX5_numberAt (wsX6_isBetween) := ggX5_numberAt_X6_isBetween
theorem dX5_numberAt_0 : decode cX5_numberAt 0 = .ok (.aload_n 0, 1) := by decide +kernel
theorem dX5_numberAt_1 : decode cX5_numberAt 1 = .ok (.getfield 14, 3) := by decide +kernel
theorem dX5_numberAt_4 : decode cX5_numberAt 4 = .ok (.iload_n 1, 1) := by decide +kernel
theorem dX5_numberAt_5 : decode cX5_numberAt 5 = .ok (.invokevirtual 28, 3) := by decide +kernel
theorem dX5_numberAt_8 : decode cX5_numberAt 8 = .ok (.bipush 48, 2) := by decide +kernel
theorem dX5_numberAt_10 : decode cX5_numberAt 10 = .ok (.isub, 1) := by decide +kernel
theorem dX5_numberAt_11 : decode cX5_numberAt 11 = .ok (.istore_n 2, 1) := by decide +kernel
theorem dX5_numberAt_12 : decode cX5_numberAt 12 = .ok (.iload_n 1, 1) := by decide +kernel
theorem dX5_numberAt_13 : decode cX5_numberAt 13 = .ok (.iconst 1, 1) := by decide +kernel
theorem dX5_numberAt_14 : decode cX5_numberAt 14 = .ok (.iadd, 1) := by decide +kernel
theorem dX5_numberAt_15 : decode cX5_numberAt 15 = .ok (.istore_n 3, 1) := by decide +kernel
theorem dX5_numberAt_16 : decode cX5_numberAt 16 = .ok (.iload_n 3, 1) := by decide +kernel
theorem dX5_numberAt_17 : decode cX5_numberAt 17 = .ok (.aload_n 0, 1) := by decide +kernel
theorem dX5_numberAt_18 : decode cX5_numberAt 18 = .ok (.getfield 20, 3) := by decide +kernel
theorem dX5_numberAt_21 : decode cX5_numberAt 21 = .ok (.if_icmp .ge 38, 3) := by decide +kernel
theorem dX5_numberAt_24 : decode cX5_numberAt 24 = .ok (.bipush 48, 2) := by decide +kernel
theorem dX5_numberAt_26 : decode cX5_numberAt 26 = .ok (.aload_n 0, 1) := by decide +kernel
theorem dX5_numberAt_27 : decode cX5_numberAt 27 = .ok (.getfield 14, 3) := by decide +kernel
theorem dX5_numberAt_30 : decode cX5_numberAt 30 = .ok (.iload_n 3, 1) := by decide +kernel
theorem dX5_numberAt_31 : decode cX5_numberAt 31 = .ok (.invokevirtual 28, 3) := by decide +kernel
theorem dX5_numberAt_34 : decode cX5_numberAt 34 = .ok (.bipush 57, 2) := by decide +kernel
theorem dX5_numberAt_36 : decode cX5_numberAt 36 = .ok (.invokestatic 37, 3) := by decide +kernel
theorem dX5_numberAt_39 : decode cX5_numberAt 39 = .ok (.ifCond .eq 20, 3) := by decide +kernel
theorem dX5_numberAt_42 : decode cX5_numberAt 42 = .ok (.iload_n 2, 1) := by decide +kernel
theorem dX5_numberAt_43 : decode cX5_numberAt 43 = .ok (.bipush 10, 2) := by decide +kernel
theorem dX5_numberAt_45 : decode cX5_numberAt 45 = .ok (.imul, 1) := by decide +kernel
theorem dX5_numberAt_46 : decode cX5_numberAt 46 = .ok (.aload_n 0, 1) := by decide +kernel
theorem dX5_numberAt_47 : decode cX5_numberAt 47 = .ok (.getfield 14, 3) := by decide +kernel
theorem dX5_numberAt_50 : decode cX5_numberAt 50 = .ok (.iload_n 3, 1) := by decide +kernel
theorem dX5_numberAt_51 : decode cX5_numberAt 51 = .ok (.invokevirtual 28, 3) := by decide +kernel
theorem dX5_numberAt_54 : decode cX5_numberAt 54 = .ok (.iadd, 1) := by decide +kernel
theorem dX5_numberAt_55 : decode cX5_numberAt 55 = .ok (.bipush 48, 2) := by decide +kernel
theorem dX5_numberAt_57 : decode cX5_numberAt 57 = .ok (.isub, 1) := by decide +kernel
theorem dX5_numberAt_58 : decode cX5_numberAt 58 = .ok (.ireturn, 1) := by decide +kernel
theorem dX5_numberAt_59 : decode cX5_numberAt 59 = .ok (.iload_n 2, 1) := by decide +kernel
theorem dX5_numberAt_60 : decode cX5_numberAt 60 = .ok (.ireturn, 1) := by decide +kernel
set_option maxRecDepth 20000 in
theorem ggX6_init_X4_init : GoodIn wsX6_init wsX4_init := goodIn_r _ [19, 20, 2, 3, 21, 22, 23, 24, 25, 26, 27, 28, 29, 30, 31, 32, 33, 34, 35, 36, 37, 38, 39, 40, 41, 42, 43, 44, 45, 46, 47, 48, 49, 50, 51, 52, 53, 54, 55, 56, 57, 58, 59, 60, 61, 62, 63, 64, 65, 66, 67, 68, 69, 109, 87, 88, 89, 90, 91, 92, 93, 94, 95, 96, 97, 110, 111, 112, 113, 114, 115, 116, 117, 118, 119, 120, 121, 122, 123, 124, 125, 126, 127] (by decide +kernel) (by decide +kernel)
set_option maxRecDepth 20000 in
theorem gX6_init_X4_init : GoodIn wsX6_init (wsX4_init) := ggX6_init_X4_init
set_option maxRecDepth 20000 in
theorem ggX6_init_X0_init : GoodIn wsX6_init wsX0_init := goodIn_r _ [71, 72, 2, 3, 73, 5, 6, 74, 75, 76, 77, 78, 79, 18, 19, 20, 21, 22, 23, 24, 25, 26, 27, 28, 29, 30, 31, 32, 33, 34, 35, 36, 37, 38, 39, 40, 41, 42, 43, 44, 45, 46, 47, 48, 49, 50, 51, 52, 53, 54, 55, 56, 57, 58, 59, 60, 61, 62, 63, 64, 65, 66, 67, 68, 69, 87, 88, 89, 90, 91, 92, 93, 94, 95, 96, 97, 102, 103, 104, 105, 106, 109, 110, 111, 112, 113, 114, 115, 116, 117, 118, 119, 120, 121, 122, 123, 124, 125, 126, 127] (by decide +kernel) (by decide +kernel)
set_option maxRecDepth 20000 in
theorem gX6_init_X0_init_n21 : GoodIn wsX6_init (wsX0_init) := ggX6_init_X0_init
set_option maxRecDepth 20000 in
theorem ggX6_init_X5_init : GoodIn wsX6_init wsX5_init := goodIn_r _ [81, 82, 2, 3, 83, 22, 23, 84, 85, 86, 42, 43, 44, 45, 46, 109, 107, 108] (by decide +kernel) (by decide +kernel)
set_option maxRecDepth 20000 in
theorem gX6_init_X5_init_n28 : GoodIn wsX6_init (wsX5_init) := ggX6_init_X5_init
theorem dX6_init_0 : decode cX6_init 0 = .ok (.aload_n 0, 1) := by decide +kernel
theorem dX6_init_1 : decode cX6_init 1 = .ok (.invokespecial 1, 3) := by decide +kernel
theorem dX6_init_4 : decode cX6_init 4 = .ok (.aload_n 0, 1) := by decide +kernel
theorem dX6_init_5 : decode cX6_init 5 = .ok (.new 7, 3) := by decide +kernel
theorem dX6_init_8 : decode cX6_init 8 = .ok (.dup, 1) := by decide +kernel
theorem dX6_init_9 : decode cX6_init 9 = .ok (.invokespecial 9, 3) := by decide +kernel
theorem dX6_init_12 : decode cX6_init 12 = .ok (.putfield 10, 3) := by decide +kernel
theorem dX6_init_15 : decode cX6_init 15 = .ok (.aload_n 0, 1) := by decide +kernel
theorem dX6_init_16 : decode cX6_init 16 = .ok (.new 7, 3) := by decide +kernel
theorem dX6_init_19 : decode cX6_init 19 = .ok (.dup, 1) := by decide +kernel
theorem dX6_init_20 : decode cX6_init 20 = .ok (.invokespecial 9, 3) := by decide +kernel
theorem dX6_init_23 : decode cX6_init 23 = .ok (.putfield 16, 3) := by decide +kernel
theorem dX6_init_26 : decode cX6_init 26 = .ok (.aload_n 0, 1) := by decide +kernel
theorem dX6_init_27 : decode cX6_init 27 = .ok (.new 19, 3) := by decide +kernel
theorem dX6_init_30 : decode cX6_init 30 = .ok (.dup, 1) := by decide +kernel
theorem dX6_init_31 : decode cX6_init 31 = .ok (.invokespecial 21, 3) := by decide +kernel
theorem dX6_init_34 : decode cX6_init 34 = .ok (.putfield 22, 3) := by decide +kernel
theorem dX6_init_37 : decode cX6_init 37 = .ok (.aload_n 0, 1) := by decide +kernel
theorem dX6_init_38 : decode cX6_init 38 = .ok (.new 26, 3) := by decide +kernel
theorem dX6_init_41 : decode cX6_init 41 = .ok (.dup, 1) := by decide +kernel
theorem dX6_init_42 : decode cX6_init 42 = .ok (.invokespecial 28, 3) := by decide +kernel
theorem dX6_init_45 : decode cX6_init 45 = .ok (.putfield 29, 3) := by decide +kernel
theorem dX6_init_48 : decode cX6_init 48 = .ok (.return_, 1) := by decide +kernel
set_option maxRecDepth 20000 in
theorem ggX6_set_X6_isSetting : GoodIn wsX6_set wsX6_isSetting := goodIn_r _ [9] (by decide +kernel) (by decide +kernel)
set_option maxRecDepth 20000 in
theorem gX6_set_X6_isSetting : GoodIn wsX6_set (va_wsS RX6 33 yX6_isSetting wsX6_isSetting) := goodIn_app (goodIn_of _ (by decide +kernel)) ggX6_set_X6_isSetting
set_option maxRecDepth 20000 in
theorem ggX6_set_X6_isServerValue : GoodIn wsX6_set wsX6_isServerValue := goodIn_r _ [12, 13, 14, 8, 15] (by decide +kernel) (by decide +kernel)
set_option maxRecDepth 20000 in
theorem gX6_set_X6_isServerValue : GoodIn wsX6_set (va_wsS RX6 38 yX6_isServerValue wsX6_isServerValue) := goodIn_app (goodIn_of _ (by decide +kernel)) ggX6_set_X6_isServerValue
set_option maxRecDepth 20000 in
theorem ggX6_set_X0_keep : GoodIn wsX6_set wsX0_keep := goodIn_r _ [20, 21, 22, 23, 24, 25, 26, 27, 28, 29, 30, 31, 32, 33, 34, 35, 36, 37, 38, 39, 40, 41, 42, 43, 44, 45, 46, 47, 48, 49, 50, 51, 52, 53, 54, 55, 56, 57, 58, 59, 60, 61, 62, 63, 64, 65, 66, 67, 68, 69, 70, 71, 72, 73, 74, 75, 76, 77, 78, 79, 80, 81, 82, 83, 107, 108, 109, 110, 111, 96, 97, 98, 99, 100, 101, 102, 103, 104, 105, 106, 112, 113, 114, 115, 116, 117, 118, 119, 120, 121, 122, 123, 124, 125, 126, 127, 128, 129, 130] (by decide +kernel) (by decide +kernel)
set_option maxRecDepth 20000 in
theorem gX6_set_X0_keep : GoodIn wsX6_set (wsV RX6 43 RX0 yX0_keep wsX0_keep) := goodIn_app (goodIn_of _ (by decide +kernel)) ggX6_set_X0_keep
set_option maxRecDepth 20000 in
theorem ggX6_set_X3_at : GoodIn wsX6_set wsX3_at := goodIn_r _ [87, 50, 112] (by decide +kernel) (by decide +kernel)
set_option maxRecDepth 20000 in
theorem gX6_set_X3_at : GoodIn wsX6_set (wsV RX6 51 RX3 yX3_at wsX3_at) := goodIn_app (goodIn_of _ (by decide +kernel)) ggX6_set_X3_at
set_option maxRecDepth 20000 in
theorem ggX6_set_X3_put : GoodIn wsX6_set wsX3_put := goodIn_r _ [91, 50, 112] (by decide +kernel) (by decide +kernel)
set_option maxRecDepth 20000 in
theorem gX6_set_X3_put : GoodIn wsX6_set (wsV RX6 57 RX3 yX3_put wsX3_put) := goodIn_app (goodIn_of _ (by decide +kernel)) ggX6_set_X3_put
theorem dX6_set_0 : decode cX6_set 0 = .ok (.iload_n 1, 1) := by decide +kernel
theorem dX6_set_1 : decode cX6_set 1 = .ok (.invokestatic 33, 3) := by decide +kernel
theorem dX6_set_4 : decode cX6_set 4 = .ok (.ifCond .ne 6, 3) := by decide +kernel
theorem dX6_set_7 : decode cX6_set 7 = .ok (.ldc 37, 2) := by decide +kernel
theorem dX6_set_9 : decode cX6_set 9 = .ok (.ireturn, 1) := by decide +kernel
theorem dX6_set_10 : decode cX6_set 10 = .ok (.iload_n 1, 1) := by decide +kernel
theorem dX6_set_11 : decode cX6_set 11 = .ok (.iload_n 2, 1) := by decide +kernel
