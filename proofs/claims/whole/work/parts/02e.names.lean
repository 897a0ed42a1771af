theorem dX6_quotient_5 : decode cX6_quotient 5 = .ok (.iconst 0, 1) := by decide +kernel
theorem dX6_quotient_6 : decode cX6_quotient 6 = .ok (.goto 6, 3) := by decide +kernel
theorem dX6_quotient_9 : decode cX6_quotient 9 = .ok (.iload_n 0, 1) := by decide +kernel
theorem dX6_quotient_10 : decode cX6_quotient 10 = .ok (.iload_n 1, 1) := by decide +kernel
theorem dX6_quotient_11 : decode cX6_quotient 11 = .ok (.idiv, 1) := by decide +kernel
theorem dX6_quotient_12 : decode cX6_quotient 12 = .ok (.ireturn, 1) := by decide +kernel
set_option maxRecDepth 20000 in
theorem ggX6_takeStep_X3_at : GoodIn wsX6_takeStep wsX3_at := goodIn_r _ [8, 9, 188] (by decide +kernel) (by decide +kernel)
set_option maxRecDepth 20000 in
theorem gX6_takeStep_X3_at : GoodIn wsX6_takeStep (wsV RX6 51 RX3 yX3_at wsX3_at) := goodIn_app (goodIn_of _ (by decide +kernel)) ggX6_takeStep_X3_at
set_option maxRecDepth 20000 in
theorem ggX6_takeStep_X5_numberAt : GoodIn wsX6_takeStep wsX5_numberAt := goodIn_r _ [14, 15, 16, 17, 5, 6, 7, 8, 9, 18, 19, 20, 186, 187, 188] (by decide +kernel) (by decide +kernel)
set_option maxRecDepth 20000 in
theorem gX6_takeStep_X5_numberAt : GoodIn wsX6_takeStep (wsV RX6 201 RX5 yX5_numberAt wsX5_numberAt) := goodIn_app (goodIn_of _ (by decide +kernel)) ggX6_takeStep_X5_numberAt
set_option maxRecDepth 20000 in
theorem ggX6_takeStep_X4_errorOfTicks : GoodIn wsX6_takeStep wsX4_errorOfTicks := goodIn_r _ [25, 26, 27, 28, 18, 19, 20, 189, 190, 191, 192, 193, 194, 195, 196, 197, 198, 199] (by decide +kernel) (by decide +kernel)
set_option maxRecDepth 20000 in
theorem gX6_takeStep_X4_errorOfTicks : GoodIn wsX6_takeStep (wsV RX6 81 RX4 yX4_errorOfTicks wsX4_errorOfTicks) := goodIn_app (goodIn_of _ (by decide +kernel)) ggX6_takeStep_X4_errorOfTicks
set_option maxRecDepth 20000 in
theorem ggX6_takeStep_X4_letPass : GoodIn wsX6_takeStep wsX4_letPass := goodIn_r _ [32, 33, 34, 35, 24, 36, 37, 38, 39, 40, 27, 41, 42, 43, 44, 45, 46, 47, 48, 49, 5, 6, 7, 8, 9, 50, 51, 52, 53, 54, 55, 56, 57, 58, 59, 60, 61, 62, 63, 64, 65, 66, 67, 68, 69, 70, 71, 72, 73, 74, 75, 76, 77, 78, 79, 80, 81, 82, 83, 84, 85, 86, 87, 88, 89, 90, 91, 92, 93, 94, 95, 19, 96, 97, 98, 99, 100, 101, 102, 103, 104, 105, 106, 107, 108, 109, 110, 111, 112, 113, 114, 115, 116, 117, 118, 119, 120, 121, 122, 123, 124, 125, 126, 127, 128, 129, 130, 131, 132, 133, 134, 135, 136, 137, 138, 139, 140, 141, 142, 143, 144, 145, 146, 147, 148, 149, 150, 151, 152, 153, 200, 201, 202, 203, 204, 205, 206, 189, 190, 191, 192, 193, 194, 195, 196, 197, 198, 199, 207, 208, 209, 210, 211, 212, 213, 214, 215, 216, 217, 188] (by decide +kernel) (by decide +kernel)
set_option maxRecDepth 20000 in
theorem gX6_takeStep_X4_letPass : GoodIn wsX6_takeStep (wsV RX6 84 RX4 yX4_letPass wsX4_letPass) := goodIn_app (goodIn_of _ (by decide +kernel)) ggX6_takeStep_X4_letPass
set_option maxRecDepth 20000 in
theorem ggX6_takeStep_X4_errorOfOffer : GoodIn wsX6_takeStep wsX4_errorOfOffer := goodIn_r _ [157, 158, 26, 38, 28, 159, 19, 160, 161, 162, 18, 20, 189, 190, 191, 192, 193, 194, 195, 196, 197, 198, 199] (by decide +kernel) (by decide +kernel)
set_option maxRecDepth 20000 in
theorem gX6_takeStep_X4_errorOfOffer : GoodIn wsX6_takeStep (wsV RX6 74 RX4 yX4_errorOfOffer wsX4_errorOfOffer) := goodIn_app (goodIn_of _ (by decide +kernel)) ggX6_takeStep_X4_errorOfOffer
set_option maxRecDepth 20000 in
theorem ggX6_takeStep_X4_offerNew : GoodIn wsX6_takeStep wsX4_offerNew := goodIn_r _ [166, 38, 66, 28, 124, 167, 168, 169, 170, 171, 172, 173, 174, 175, 176, 177, 178, 179, 180, 181, 67, 68, 69, 24, 70, 71, 72, 73, 74, 75, 76, 77, 78, 79, 80, 81, 59, 82, 49, 5, 6, 7, 8, 9, 42, 43, 44, 45, 46, 47, 48, 83, 84, 85, 86, 37, 87, 41, 88, 89, 90, 91, 92, 93, 94, 62, 63, 64, 65, 95, 19, 96, 97, 98, 99, 100, 101, 39, 27, 102, 103, 104, 105, 106, 107, 108, 109, 110, 53, 111, 112, 113, 114, 115, 116, 117, 118, 119, 120, 121, 122, 123, 40, 125, 126, 189, 190, 191, 192, 193, 194, 195, 196, 197, 198, 199, 207, 208, 209, 210, 211, 212, 213, 214, 215, 216, 217, 188, 200, 201, 202, 203, 204, 205, 206] (by decide +kernel) (by decide +kernel)
set_option maxRecDepth 20000 in
theorem gX6_takeStep_X4_offerNew : GoodIn wsX6_takeStep (wsV RX6 78 RX4 yX4_offerNew wsX4_offerNew) := goodIn_app (goodIn_of _ (by decide +kernel)) ggX6_takeStep_X4_offerNew
theorem dX6_takeStep_0 : decode cX6_takeStep 0 = .ok (.aload_n 0, 1) := by decide +kernel
theorem dX6_takeStep_1 : decode cX6_takeStep 1 = .ok (.getfield 29, 3) := by decide +kernel
theorem dX6_takeStep_4 : decode cX6_takeStep 4 = .ok (.getfield 198, 3) := by decide +kernel
theorem dX6_takeStep_7 : decode cX6_takeStep 7 = .ok (.iload_n 1, 1) := by decide +kernel
theorem dX6_takeStep_8 : decode cX6_takeStep 8 = .ok (.invokevirtual 51, 3) := by decide +kernel
theorem dX6_takeStep_11 : decode cX6_takeStep 11 = .ok (.bipush 43, 2) := by decide +kernel
theorem dX6_takeStep_13 : decode cX6_takeStep 13 = .ok (.if_icmp .ne 38, 3) := by decide +kernel
theorem dX6_takeStep_16 : decode cX6_takeStep 16 = .ok (.aload_n 0, 1) := by decide +kernel
theorem dX6_takeStep_17 : decode cX6_takeStep 17 = .ok (.getfield 29, 3) := by decide +kernel
theorem dX6_takeStep_20 : decode cX6_takeStep 20 = .ok (.iload_n 1, 1) := by decide +kernel
theorem dX6_takeStep_21 : decode cX6_takeStep 21 = .ok (.iconst 1, 1) := by decide +kernel
theorem dX6_takeStep_22 : decode cX6_takeStep 22 = .ok (.iadd, 1) := by decide +kernel
theorem dX6_takeStep_23 : decode cX6_takeStep 23 = .ok (.invokevirtual 201, 3) := by decide +kernel
theorem dX6_takeStep_26 : decode cX6_takeStep 26 = .ok (.istore_n 2, 1) := by decide +kernel
theorem dX6_takeStep_27 : decode cX6_takeStep 27 = .ok (.aload_n 0, 1) := by decide +kernel
theorem dX6_takeStep_28 : decode cX6_takeStep 28 = .ok (.getfield 10, 3) := by decide +kernel
theorem dX6_takeStep_31 : decode cX6_takeStep 31 = .ok (.iload_n 2, 1) := by decide +kernel
theorem dX6_takeStep_32 : decode cX6_takeStep 32 = .ok (.invokevirtual 81, 3) := by decide +kernel
theorem dX6_takeStep_35 : decode cX6_takeStep 35 = .ok (.ifCond .eq 5, 3) := by decide +kernel
theorem dX6_takeStep_38 : decode cX6_takeStep 38 = .ok (.iconst 0, 1) := by decide +kernel
theorem dX6_takeStep_39 : decode cX6_takeStep 39 = .ok (.ireturn, 1) := by decide +kernel
theorem dX6_takeStep_40 : decode cX6_takeStep 40 = .ok (.aload_n 0, 1) := by decide +kernel
theorem dX6_takeStep_41 : decode cX6_takeStep 41 = .ok (.getfield 10, 3) := by decide +kernel
theorem dX6_takeStep_44 : decode cX6_takeStep 44 = .ok (.iload_n 2, 1) := by decide +kernel
theorem dX6_takeStep_45 : decode cX6_takeStep 45 = .ok (.invokevirtual 84, 3) := by decide +kernel
theorem dX6_takeStep_48 : decode cX6_takeStep 48 = .ok (.pop, 1) := by decide +kernel
theorem dX6_takeStep_49 : decode cX6_takeStep 49 = .ok (.iconst 1, 1) := by decide +kernel
theorem dX6_takeStep_50 : decode cX6_takeStep 50 = .ok (.ireturn, 1) := by decide +kernel
theorem dX6_takeStep_51 : decode cX6_takeStep 51 = .ok (.aload_n 0, 1) := by decide +kernel
theorem dX6_takeStep_52 : decode cX6_takeStep 52 = .ok (.getfield 29, 3) := by decide +kernel
theorem dX6_takeStep_55 : decode cX6_takeStep 55 = .ok (.getfield 198, 3) := by decide +kernel
theorem dX6_takeStep_58 : decode cX6_takeStep 58 = .ok (.iload_n 1, 1) := by decide +kernel
theorem dX6_takeStep_59 : decode cX6_takeStep 59 = .ok (.invokevirtual 51, 3) := by decide +kernel
theorem dX6_takeStep_62 : decode cX6_takeStep 62 = .ok (.bipush 48, 2) := by decide +kernel
theorem dX6_takeStep_64 : decode cX6_takeStep 64 = .ok (.isub, 1) := by decide +kernel
theorem dX6_takeStep_65 : decode cX6_takeStep 65 = .ok (.istore_n 2, 1) := by decide +kernel
theorem dX6_takeStep_66 : decode cX6_takeStep 66 = .ok (.aload_n 0, 1) := by decide +kernel
theorem dX6_takeStep_67 : decode cX6_takeStep 67 = .ok (.getfield 29, 3) := by decide +kernel
theorem dX6_takeStep_70 : decode cX6_takeStep 70 = .ok (.getfield 198, 3) := by decide +kernel
theorem dX6_takeStep_73 : decode cX6_takeStep 73 = .ok (.iload_n 1, 1) := by decide +kernel
theorem dX6_takeStep_74 : decode cX6_takeStep 74 = .ok (.iconst 1, 1) := by decide +kernel
theorem dX6_takeStep_75 : decode cX6_takeStep 75 = .ok (.iadd, 1) := by decide +kernel
theorem dX6_takeStep_76 : decode cX6_takeStep 76 = .ok (.invokevirtual 51, 3) := by decide +kernel
theorem dX6_takeStep_79 : decode cX6_takeStep 79 = .ok (.bipush 97, 2) := by decide +kernel
theorem dX6_takeStep_81 : decode cX6_takeStep 81 = .ok (.isub, 1) := by decide +kernel
theorem dX6_takeStep_82 : decode cX6_takeStep 82 = .ok (.istore_n 3, 1) := by decide +kernel
theorem dX6_takeStep_83 : decode cX6_takeStep 83 = .ok (.aload_n 0, 1) := by decide +kernel
theorem dX6_takeStep_84 : decode cX6_takeStep 84 = .ok (.getfield 29, 3) := by decide +kernel
theorem dX6_takeStep_87 : decode cX6_takeStep 87 = .ok (.iload_n 1, 1) := by decide +kernel
theorem dX6_takeStep_88 : decode cX6_takeStep 88 = .ok (.iconst 2, 1) := by decide +kernel
theorem dX6_takeStep_89 : decode cX6_takeStep 89 = .ok (.iadd, 1) := by decide +kernel
theorem dX6_takeStep_90 : decode cX6_takeStep 90 = .ok (.invokevirtual 201, 3) := by decide +kernel
theorem dX6_takeStep_93 : decode cX6_takeStep 93 = .ok (.istore 4, 2) := by decide +kernel
theorem dX6_takeStep_95 : decode cX6_takeStep 95 = .ok (.aload_n 0, 1) := by decide +kernel
theorem dX6_takeStep_96 : decode cX6_takeStep 96 = .ok (.getfield 10, 3) := by decide +kernel
theorem dX6_takeStep_99 : decode cX6_takeStep 99 = .ok (.iload_n 2, 1) := by decide +kernel
theorem dX6_takeStep_100 : decode cX6_takeStep 100 = .ok (.iload_n 3, 1) := by decide +kernel
theorem dX6_takeStep_101 : decode cX6_takeStep 101 = .ok (.iload 4, 2) := by decide +kernel
theorem dX6_takeStep_103 : decode cX6_takeStep 103 = .ok (.invokevirtual 74, 3) := by decide +kernel
theorem dX6_takeStep_106 : decode cX6_takeStep 106 = .ok (.ifCond .eq 5, 3) := by decide +kernel
theorem dX6_takeStep_109 : decode cX6_takeStep 109 = .ok (.iconst 0, 1) := by decide +kernel
theorem dX6_takeStep_110 : decode cX6_takeStep 110 = .ok (.ireturn, 1) := by decide +kernel
theorem dX6_takeStep_111 : decode cX6_takeStep 111 = .ok (.aload_n 0, 1) := by decide +kernel
theorem dX6_takeStep_112 : decode cX6_takeStep 112 = .ok (.getfield 10, 3) := by decide +kernel
theorem dX6_takeStep_115 : decode cX6_takeStep 115 = .ok (.iload_n 2, 1) := by decide +kernel
theorem dX6_takeStep_116 : decode cX6_takeStep 116 = .ok (.iload_n 3, 1) := by decide +kernel
theorem dX6_takeStep_117 : decode cX6_takeStep 117 = .ok (.iload 4, 2) := by decide +kernel
theorem dX6_takeStep_119 : decode cX6_takeStep 119 = .ok (.invokevirtual 78, 3) := by decide +kernel
theorem dX6_takeStep_122 : decode cX6_takeStep 122 = .ok (.pop, 1) := by decide +kernel
theorem dX6_takeStep_123 : decode cX6_takeStep 123 = .ok (.iconst 1, 1) := by decide +kernel
theorem dX6_takeStep_124 : decode cX6_takeStep 124 = .ok (.ireturn, 1) := by decide +kernel
set_option maxRecDepth 20000 in
theorem ggX6_beginTrial_X4_copyFrom : GoodIn wsX6_beginTrial wsX4_copyFrom := goodIn_r _ [8, 9, 10, 11, 12, 13, 14, 15, 16, 17, 18, 19, 20, 21, 22, 23, 24, 25, 26, 27, 28, 29, 30, 31, 32, 33, 34, 35, 36, 37, 38, 39, 40, 7, 41, 42, 43, 44, 45, 46, 47, 48, 49, 50, 51, 52, 53, 54, 55, 56, 57, 66, 67, 68, 69, 70, 71, 72, 73, 74, 75, 76, 77, 78, 79, 80, 81, 82, 83, 84, 85, 86, 87, 88, 89, 90, 91, 92, 93, 94, 95] (by decide +kernel) (by decide +kernel)
set_option maxRecDepth 20000 in
theorem gX6_beginTrial_X4_copyFrom : GoodIn wsX6_beginTrial (wsV RX6 185 RX4 yX4_copyFrom wsX4_copyFrom) := goodIn_app (goodIn_of _ (by decide +kernel)) ggX6_beginTrial_X4_copyFrom
set_option maxRecDepth 20000 in
theorem ggX6_beginTrial_X3_put : GoodIn wsX6_beginTrial wsX3_put := goodIn_r _ [61, 24, 77] (by decide +kernel) (by decide +kernel)
set_option maxRecDepth 20000 in
theorem gX6_beginTrial_X3_put : GoodIn wsX6_beginTrial (wsV RX6 57 RX3 yX3_put wsX3_put) := goodIn_app (goodIn_of _ (by decide +kernel)) ggX6_beginTrial_X3_put
theorem dX6_beginTrial_0 : decode cX6_beginTrial 0 = .ok (.aload_n 0, 1) := by decide +kernel
theorem dX6_beginTrial_1 : decode cX6_beginTrial 1 = .ok (.getfield 16, 3) := by decide +kernel
theorem dX6_beginTrial_4 : decode cX6_beginTrial 4 = .ok (.aload_n 0, 1) := by decide +kernel
theorem dX6_beginTrial_5 : decode cX6_beginTrial 5 = .ok (.getfield 10, 3) := by decide +kernel
theorem dX6_beginTrial_8 : decode cX6_beginTrial 8 = .ok (.invokevirtual 185, 3) := by decide +kernel
theorem dX6_beginTrial_11 : decode cX6_beginTrial 11 = .ok (.aload_n 0, 1) := by decide +kernel
theorem dX6_beginTrial_12 : decode cX6_beginTrial 12 = .ok (.getfield 16, 3) := by decide +kernel
theorem dX6_beginTrial_15 : decode cX6_beginTrial 15 = .ok (.getfield 47, 3) := by decide +kernel
theorem dX6_beginTrial_18 : decode cX6_beginTrial 18 = .ok (.iconst 0, 1) := by decide +kernel
theorem dX6_beginTrial_19 : decode cX6_beginTrial 19 = .ok (.iload_n 1, 1) := by decide +kernel
theorem dX6_beginTrial_20 : decode cX6_beginTrial 20 = .ok (.invokevirtual 57, 3) := by decide +kernel
theorem dX6_beginTrial_23 : decode cX6_beginTrial 23 = .ok (.return_, 1) := by decide +kernel
set_option maxRecDepth 20000 in
theorem ggX6_ticksOfTrial_X6_beginTrial : GoodIn wsX6_ticksOfTrial wsX6_beginTrial := goodIn_r _ [8, 1, 9, 10, 11, 12, 13, 14, 15, 16, 17, 18, 19, 20, 21, 22, 23, 24, 25, 26, 27, 28, 29, 30, 31, 32, 33, 34, 35, 36, 37, 38, 39, 40, 41, 42, 43, 44, 45, 46, 47, 48, 49, 50, 51, 52, 53, 54, 55, 56, 57, 58, 59, 60, 61, 62, 63, 64, 65, 66, 67, 68, 171, 172, 173, 174, 175, 176, 177, 178, 179, 180, 181, 182, 183, 184, 185, 186, 187, 188, 189, 190, 191, 192, 193, 194, 195, 196, 197, 198, 199, 200, 201, 202, 203, 204] (by decide +kernel) (by decide +kernel)
set_option maxRecDepth 20000 in
theorem gX6_ticksOfTrial_X6_beginTrial : GoodIn wsX6_ticksOfTrial (wsV RX6 204 RX6 yX6_beginTrial wsX6_beginTrial) := goodIn_app (goodIn_of _ (by decide +kernel)) ggX6_ticksOfTrial_X6_beginTrial
set_option maxRecDepth 20000 in
theorem ggX6_ticksOfTrial_X4_tick : GoodIn wsX6_ticksOfTrial wsX4_tick := goodIn_r _ [72, 73, 21, 74, 75, 24, 16, 76, 77, 78, 14, 79, 18, 19, 20, 80, 81, 82, 29, 83, 31, 84, 85, 86, 35, 87, 37, 41, 88, 89, 90, 91, 92, 45, 46, 47, 48, 49, 93, 94, 95, 96, 97, 98, 99, 100, 101, 102, 103, 104, 17, 105, 106, 107, 108, 109, 110, 111, 112, 113, 114, 115, 116, 117, 118, 119, 120, 7, 121, 122, 123, 124, 125, 126, 127, 128, 129, 130, 131, 132, 133, 134, 135, 136, 40, 39, 137, 66, 67, 68, 138, 139, 140, 141, 142, 143, 22, 23, 144, 145, 146, 147, 148, 149, 150, 151, 152, 153, 154, 155, 156, 157, 158, 159, 160, 25, 161, 162, 163, 164, 165, 166, 167, 168, 169, 170, 187, 188, 189, 190, 191, 192, 193, 175, 176, 177, 178, 179, 180, 181, 182, 183, 184, 185, 194, 195, 196, 197, 198, 199, 200, 201, 202, 203, 204, 186] (by decide +kernel) (by decide +kernel)
set_option maxRecDepth 20000 in
theorem gX6_ticksOfTrial_X4_tick : GoodIn wsX6_ticksOfTrial (wsV RX6 192 RX4 yX4_tick wsX4_tick) := goodIn_app (goodIn_of _ (by decide +kernel)) ggX6_ticksOfTrial_X4_tick
theorem dX6_ticksOfTrial_0 : decode cX6_ticksOfTrial 0 = .ok (.aload_n 0, 1) := by decide +kernel
theorem dX6_ticksOfTrial_1 : decode cX6_ticksOfTrial 1 = .ok (.iload_n 1, 1) := by decide +kernel
theorem dX6_ticksOfTrial_2 : decode cX6_ticksOfTrial 2 = .ok (.invokevirtual 204, 3) := by decide +kernel
theorem dX6_ticksOfTrial_5 : decode cX6_ticksOfTrial 5 = .ok (.iconst 0, 1) := by decide +kernel
theorem dX6_ticksOfTrial_6 : decode cX6_ticksOfTrial 6 = .ok (.istore_n 2, 1) := by decide +kernel
theorem dX6_ticksOfTrial_7 : decode cX6_ticksOfTrial 7 = .ok (.iload_n 2, 1) := by decide +kernel
theorem dX6_ticksOfTrial_8 : decode cX6_ticksOfTrial 8 = .ok (.sipush 400, 3) := by decide +kernel
theorem dX6_ticksOfTrial_11 : decode cX6_ticksOfTrial 11 = .ok (.if_icmp .ge 27, 3) := by decide +kernel
theorem dX6_ticksOfTrial_14 : decode cX6_ticksOfTrial 14 = .ok (.aload_n 0, 1) := by decide +kernel
theorem dX6_ticksOfTrial_15 : decode cX6_ticksOfTrial 15 = .ok (.getfield 16, 3) := by decide +kernel
theorem dX6_ticksOfTrial_18 : decode cX6_ticksOfTrial 18 = .ok (.getfield 207, 3) := by decide +kernel
theorem dX6_ticksOfTrial_21 : decode cX6_ticksOfTrial 21 = .ok (.ifCond .le 17, 3) := by decide +kernel
theorem dX6_ticksOfTrial_24 : decode cX6_ticksOfTrial 24 = .ok (.aload_n 0, 1) := by decide +kernel
theorem dX6_ticksOfTrial_25 : decode cX6_ticksOfTrial 25 = .ok (.getfield 16, 3) := by decide +kernel
theorem dX6_ticksOfTrial_28 : decode cX6_ticksOfTrial 28 = .ok (.invokevirtual 192, 3) := by decide +kernel
theorem dX6_ticksOfTrial_31 : decode cX6_ticksOfTrial 31 = .ok (.pop, 1) := by decide +kernel
theorem dX6_ticksOfTrial_32 : decode cX6_ticksOfTrial 32 = .ok (.iinc 2 1, 3) := by decide +kernel
theorem dX6_ticksOfTrial_35 : decode cX6_ticksOfTrial 35 = .ok (.goto (-28), 3) := by decide +kernel
theorem dX6_ticksOfTrial_38 : decode cX6_ticksOfTrial 38 = .ok (.aload_n 0, 1) := by decide +kernel
theorem dX6_ticksOfTrial_39 : decode cX6_ticksOfTrial 39 = .ok (.getfield 16, 3) := by decide +kernel
theorem dX6_ticksOfTrial_42 : decode cX6_ticksOfTrial 42 = .ok (.getfield 207, 3) := by decide +kernel
theorem dX6_ticksOfTrial_45 : decode cX6_ticksOfTrial 45 = .ok (.ifCond .ne 7, 3) := by decide +kernel
theorem dX6_ticksOfTrial_48 : decode cX6_ticksOfTrial 48 = .ok (.iload_n 2, 1) := by decide +kernel
theorem dX6_ticksOfTrial_49 : decode cX6_ticksOfTrial 49 = .ok (.goto 5, 3) := by decide +kernel
theorem dX6_ticksOfTrial_52 : decode cX6_ticksOfTrial 52 = .ok (.ldc 100, 2) := by decide +kernel
theorem dX6_ticksOfTrial_54 : decode cX6_ticksOfTrial 54 = .ok (.ireturn, 1) := by decide +kernel
set_option maxRecDepth 20000 in
theorem ggX6_trialEndsWithoutRejection_X6_beginTrial : GoodIn wsX6_trialEndsWithoutRejection wsX6_beginTrial := goodIn_r _ [9, 1, 4, 10, 11, 12, 13, 14, 15, 16, 17, 18, 19, 20, 21, 22, 23, 24, 25, 26, 27, 28, 29, 30, 31, 32, 33, 34, 35, 36, 37, 38, 39, 40, 41, 42, 43, 44, 45, 46, 47, 48, 49, 50, 51, 52, 53, 54, 55, 56, 57, 58, 59, 60, 61, 62, 63, 64, 65, 66, 67, 68, 171, 172, 173, 174, 175, 176, 177, 178, 179, 180, 181, 182, 183, 184, 185, 186, 187, 188, 189, 190, 191, 192, 193, 194, 195, 196, 197, 198, 199, 200, 201, 202, 203, 204] (by decide +kernel) (by decide +kernel)
set_option maxRecDepth 20000 in
theorem gX6_trialEndsWithoutRejection_X6_beginTrial : GoodIn wsX6_trialEndsWithoutRejection (wsV RX6 204 RX6 yX6_beginTrial wsX6_beginTrial) := goodIn_app (goodIn_of _ (by decide +kernel)) ggX6_trialEndsWithoutRejection_X6_beginTrial
set_option maxRecDepth 20000 in
theorem ggX6_trialEndsWithoutRejection_X4_tick : GoodIn wsX6_trialEndsWithoutRejection wsX4_tick := goodIn_r _ [72, 73, 21, 74, 75, 24, 16, 76, 77, 78, 14, 79, 18, 19, 20, 80, 81, 82, 29, 83, 31, 84, 85, 86, 35, 87, 37, 41, 88, 89, 90, 91, 92, 45, 46, 47, 48, 49, 93, 94, 95, 96, 97, 98, 99, 100, 101, 102, 103, 104, 17, 105, 106, 107, 108, 109, 110, 111, 112, 113, 114, 115, 116, 117, 118, 119, 120, 8, 121, 122, 123, 124, 125, 126, 127, 128, 129, 130, 131, 132, 133, 134, 135, 136, 40, 39, 137, 66, 67, 68, 138, 139, 140, 141, 142, 143, 22, 23, 144, 145, 146, 147, 148, 149, 150, 151, 152, 153, 154, 155, 156, 157, 158, 159, 160, 25, 161, 162, 163, 164, 165, 166, 167, 168, 169, 170, 187, 188, 189, 190, 191, 192, 193, 175, 176, 177, 178, 179, 180, 181, 182, 183, 184, 185, 194, 195, 196, 197, 198, 199, 200, 201, 202, 203, 204, 186] (by decide +kernel) (by decide +kernel)
set_option maxRecDepth 20000 in
theorem gX6_trialEndsWithoutRejection_X4_tick : GoodIn wsX6_trialEndsWithoutRejection (wsV RX6 192 RX4 yX4_tick wsX4_tick) := goodIn_app (goodIn_of _ (by decide +kernel)) ggX6_trialEndsWithoutRejection_X4_tick
theorem dX6_trialEndsWithoutRejection_0 : decode cX6_trialEndsWithoutRejection 0 = .ok (.aload_n 0, 1) := by decide +kernel
theorem dX6_trialEndsWithoutRejection_1 : decode cX6_trialEndsWithoutRejection 1 = .ok (.iload_n 1, 1) := by decide +kernel
theorem dX6_trialEndsWithoutRejection_2 : decode cX6_trialEndsWithoutRejection 2 = .ok (.invokevirtual 204, 3) := by decide +kernel
theorem dX6_trialEndsWithoutRejection_5 : decode cX6_trialEndsWithoutRejection 5 = .ok (.iconst 0, 1) := by decide +kernel
theorem dX6_trialEndsWithoutRejection_6 : decode cX6_trialEndsWithoutRejection 6 = .ok (.istore_n 2, 1) := by decide +kernel
theorem dX6_trialEndsWithoutRejection_7 : decode cX6_trialEndsWithoutRejection 7 = .ok (.iload_n 2, 1) := by decide +kernel
theorem dX6_trialEndsWithoutRejection_8 : decode cX6_trialEndsWithoutRejection 8 = .ok (.sipush 400, 3) := by decide +kernel
theorem dX6_trialEndsWithoutRejection_11 : decode cX6_trialEndsWithoutRejection 11 = .ok (.if_icmp .ge 44, 3) := by decide +kernel
theorem dX6_trialEndsWithoutRejection_14 : decode cX6_trialEndsWithoutRejection 14 = .ok (.aload_n 0, 1) := by decide +kernel
theorem dX6_trialEndsWithoutRejection_15 : decode cX6_trialEndsWithoutRejection 15 = .ok (.getfield 16, 3) := by decide +kernel
theorem dX6_trialEndsWithoutRejection_18 : decode cX6_trialEndsWithoutRejection 18 = .ok (.getfield 207, 3) := by decide +kernel
theorem dX6_trialEndsWithoutRejection_21 : decode cX6_trialEndsWithoutRejection 21 = .ok (.ifCond .le 34, 3) := by decide +kernel
theorem dX6_trialEndsWithoutRejection_24 : decode cX6_trialEndsWithoutRejection 24 = .ok (.aload_n 0, 1) := by decide +kernel
theorem dX6_trialEndsWithoutRejection_25 : decode cX6_trialEndsWithoutRejection 25 = .ok (.getfield 16, 3) := by decide +kernel
theorem dX6_trialEndsWithoutRejection_28 : decode cX6_trialEndsWithoutRejection 28 = .ok (.getfield 210, 3) := by decide +kernel
theorem dX6_trialEndsWithoutRejection_31 : decode cX6_trialEndsWithoutRejection 31 = .ok (.aload_n 0, 1) := by decide +kernel
theorem dX6_trialEndsWithoutRejection_32 : decode cX6_trialEndsWithoutRejection 32 = .ok (.getfield 10, 3) := by decide +kernel
theorem dX6_trialEndsWithoutRejection_35 : decode cX6_trialEndsWithoutRejection 35 = .ok (.getfield 210, 3) := by decide +kernel
theorem dX6_trialEndsWithoutRejection_38 : decode cX6_trialEndsWithoutRejection 38 = .ok (.if_icmp .ne 17, 3) := by decide +kernel
theorem dX6_trialEndsWithoutRejection_41 : decode cX6_trialEndsWithoutRejection 41 = .ok (.aload_n 0, 1) := by decide +kernel
theorem dX6_trialEndsWithoutRejection_42 : decode cX6_trialEndsWithoutRejection 42 = .ok (.getfield 16, 3) := by decide +kernel
theorem dX6_trialEndsWithoutRejection_45 : decode cX6_trialEndsWithoutRejection 45 = .ok (.invokevirtual 192, 3) := by decide +kernel
theorem dX6_trialEndsWithoutRejection_48 : decode cX6_trialEndsWithoutRejection 48 = .ok (.pop, 1) := by decide +kernel
theorem dX6_trialEndsWithoutRejection_49 : decode cX6_trialEndsWithoutRejection 49 = .ok (.iinc 2 1, 3) := by decide +kernel
theorem dX6_trialEndsWithoutRejection_52 : decode cX6_trialEndsWithoutRejection 52 = .ok (.goto (-45), 3) := by decide +kernel
theorem dX6_trialEndsWithoutRejection_55 : decode cX6_trialEndsWithoutRejection 55 = .ok (.aload_n 0, 1) := by decide +kernel
theorem dX6_trialEndsWithoutRejection_56 : decode cX6_trialEndsWithoutRejection 56 = .ok (.getfield 16, 3) := by decide +kernel
theorem dX6_trialEndsWithoutRejection_59 : decode cX6_trialEndsWithoutRejection 59 = .ok (.getfield 207, 3) := by decide +kernel
theorem dX6_trialEndsWithoutRejection_62 : decode cX6_trialEndsWithoutRejection 62 = .ok (.ifCond .ne 24, 3) := by decide +kernel
theorem dX6_trialEndsWithoutRejection_65 : decode cX6_trialEndsWithoutRejection 65 = .ok (.aload_n 0, 1) := by decide +kernel
theorem dX6_trialEndsWithoutRejection_66 : decode cX6_trialEndsWithoutRejection 66 = .ok (.getfield 16, 3) := by decide +kernel
theorem dX6_trialEndsWithoutRejection_69 : decode cX6_trialEndsWithoutRejection 69 = .ok (.getfield 210, 3) := by decide +kernel
theorem dX6_trialEndsWithoutRejection_72 : decode cX6_trialEndsWithoutRejection 72 = .ok (.aload_n 0, 1) := by decide +kernel
theorem dX6_trialEndsWithoutRejection_73 : decode cX6_trialEndsWithoutRejection 73 = .ok (.getfield 10, 3) := by decide +kernel
theorem dX6_trialEndsWithoutRejection_76 : decode cX6_trialEndsWithoutRejection 76 = .ok (.getfield 210, 3) := by decide +kernel
theorem dX6_trialEndsWithoutRejection_79 : decode cX6_trialEndsWithoutRejection 79 = .ok (.if_icmp .ne 7, 3) := by decide +kernel
theorem dX6_trialEndsWithoutRejection_82 : decode cX6_trialEndsWithoutRejection 82 = .ok (.iconst 1, 1) := by decide +kernel
theorem dX6_trialEndsWithoutRejection_83 : decode cX6_trialEndsWithoutRejection 83 = .ok (.goto 4, 3) := by decide +kernel
theorem dX6_trialEndsWithoutRejection_86 : decode cX6_trialEndsWithoutRejection 86 = .ok (.iconst 0, 1) := by decide +kernel
theorem dX6_trialEndsWithoutRejection_87 : decode cX6_trialEndsWithoutRejection 87 = .ok (.ireturn, 1) := by decide +kernel
theorem dX7_init_0 : decode cX7_init 0 = .ok (.aload_n 0, 1) := by decide +kernel
theorem dX7_init_1 : decode cX7_init 1 = .ok (.invokespecial 1, 3) := by decide +kernel
theorem dX7_init_4 : decode cX7_init 4 = .ok (.aload_n 0, 1) := by decide +kernel
theorem dX7_init_5 : decode cX7_init 5 = .ok (.sipush 395, 3) := by decide +kernel
theorem dX7_init_8 : decode cX7_init 8 = .ok (.newarray .int, 2) := by decide +kernel
theorem dX7_init_10 : decode cX7_init 10 = .ok (.putfield 7, 3) := by decide +kernel
theorem dX7_init_13 : decode cX7_init 13 = .ok (.aload_n 0, 1) := by decide +kernel
theorem dX7_init_14 : decode cX7_init 14 = .ok (.sipush 395, 3) := by decide +kernel
theorem dX7_init_17 : decode cX7_init 17 = .ok (.newarray .int, 2) := by decide +kernel
theorem dX7_init_19 : decode cX7_init 19 = .ok (.putfield 13, 3) := by decide +kernel
theorem dX7_init_22 : decode cX7_init 22 = .ok (.aload_n 0, 1) := by decide +kernel
theorem dX7_init_23 : decode cX7_init 23 = .ok (.sipush 1580, 3) := by decide +kernel
theorem dX7_init_26 : decode cX7_init 26 = .ok (.newarray .int, 2) := by decide +kernel
theorem dX7_init_28 : decode cX7_init 28 = .ok (.putfield 16, 3) := by decide +kernel
theorem dX7_init_31 : decode cX7_init 31 = .ok (.aload_n 0, 1) := by decide +kernel
theorem dX7_init_32 : decode cX7_init 32 = .ok (.bipush 80, 2) := by decide +kernel
theorem dX7_init_34 : decode cX7_init 34 = .ok (.newarray .int, 2) := by decide +kernel
theorem dX7_init_36 : decode cX7_init 36 = .ok (.putfield 19, 3) := by decide +kernel
theorem dX7_init_39 : decode cX7_init 39 = .ok (.aload_n 0, 1) := by decide +kernel
theorem dX7_init_40 : decode cX7_init 40 = .ok (.getfield 7, 3) := by decide +kernel
theorem dX7_init_43 : decode cX7_init 43 = .ok (.iconst 0, 1) := by decide +kernel
theorem dX7_init_44 : decode cX7_init 44 = .ok (.iconst 4, 1) := by decide +kernel
theorem dX7_init_45 : decode cX7_init 45 = .ok (.iastore, 1) := by decide +kernel
theorem dX7_init_46 : decode cX7_init 46 = .ok (.aload_n 0, 1) := by decide +kernel
theorem dX7_init_47 : decode cX7_init 47 = .ok (.getfield 7, 3) := by decide +kernel
theorem dX7_init_50 : decode cX7_init 50 = .ok (.iconst 1, 1) := by decide +kernel
theorem dX7_init_51 : decode cX7_init 51 = .ok (.bipush 20, 2) := by decide +kernel
theorem dX7_init_53 : decode cX7_init 53 = .ok (.iastore, 1) := by decide +kernel
theorem dX7_init_54 : decode cX7_init 54 = .ok (.aload_n 0, 1) := by decide +kernel
theorem dX7_init_55 : decode cX7_init 55 = .ok (.getfield 7, 3) := by decide +kernel
theorem dX7_init_58 : decode cX7_init 58 = .ok (.iconst 2, 1) := by decide +kernel
theorem dX7_init_59 : decode cX7_init 59 = .ok (.iconst 3, 1) := by decide +kernel
theorem dX7_init_60 : decode cX7_init 60 = .ok (.iastore, 1) := by decide +kernel
theorem dX7_init_61 : decode cX7_init 61 = .ok (.aload_n 0, 1) := by decide +kernel
theorem dX7_init_62 : decode cX7_init 62 = .ok (.getfield 7, 3) := by decide +kernel
theorem dX7_init_65 : decode cX7_init 65 = .ok (.iconst 3, 1) := by decide +kernel
theorem dX7_init_66 : decode cX7_init 66 = .ok (.iconst 1, 1) := by decide +kernel
theorem dX7_init_67 : decode cX7_init 67 = .ok (.iastore, 1) := by decide +kernel
theorem dX7_init_68 : decode cX7_init 68 = .ok (.iconst 0, 1) := by decide +kernel
theorem dX7_init_69 : decode cX7_init 69 = .ok (.istore_n 1, 1) := by decide +kernel
theorem dX7_init_70 : decode cX7_init 70 = .ok (.iload_n 1, 1) := by decide +kernel
theorem dX7_init_71 : decode cX7_init 71 = .ok (.iconst 3, 1) := by decide +kernel
theorem dX7_init_72 : decode cX7_init 72 = .ok (.if_icmp .ge 74, 3) := by decide +kernel
theorem dX7_init_75 : decode cX7_init 75 = .ok (.aload_n 0, 1) := by decide +kernel
theorem dX7_init_76 : decode cX7_init 76 = .ok (.getfield 7, 3) := by decide +kernel
theorem dX7_init_79 : decode cX7_init 79 = .ok (.iconst 4, 1) := by decide +kernel
theorem dX7_init_80 : decode cX7_init 80 = .ok (.iconst 4, 1) := by decide +kernel
theorem dX7_init_81 : decode cX7_init 81 = .ok (.iload_n 1, 1) := by decide +kernel
theorem dX7_init_82 : decode cX7_init 82 = .ok (.imul, 1) := by decide +kernel
theorem dX7_init_83 : decode cX7_init 83 = .ok (.iadd, 1) := by decide +kernel
theorem dX7_init_84 : decode cX7_init 84 = .ok (.iconst 0, 1) := by decide +kernel
theorem dX7_init_85 : decode cX7_init 85 = .ok (.iadd, 1) := by decide +kernel
theorem dX7_init_86 : decode cX7_init 86 = .ok (.iconst 1, 1) := by decide +kernel
theorem dX7_init_87 : decode cX7_init 87 = .ok (.iastore, 1) := by decide +kernel
theorem dX7_init_88 : decode cX7_init 88 = .ok (.aload_n 0, 1) := by decide +kernel
theorem dX7_init_89 : decode cX7_init 89 = .ok (.getfield 7, 3) := by decide +kernel
theorem dX7_init_92 : decode cX7_init 92 = .ok (.iconst 4, 1) := by decide +kernel
theorem dX7_init_93 : decode cX7_init 93 = .ok (.iconst 4, 1) := by decide +kernel
theorem dX7_init_94 : decode cX7_init 94 = .ok (.iload_n 1, 1) := by decide +kernel
theorem dX7_init_95 : decode cX7_init 95 = .ok (.imul, 1) := by decide +kernel
theorem dX7_init_96 : decode cX7_init 96 = .ok (.iadd, 1) := by decide +kernel
theorem dX7_init_97 : decode cX7_init 97 = .ok (.iconst 1, 1) := by decide +kernel
theorem dX7_init_98 : decode cX7_init 98 = .ok (.iadd, 1) := by decide +kernel
theorem dX7_init_99 : decode cX7_init 99 = .ok (.iconst 2, 1) := by decide +kernel
theorem dX7_init_100 : decode cX7_init 100 = .ok (.iastore, 1) := by decide +kernel
theorem dX7_init_101 : decode cX7_init 101 = .ok (.aload_n 0, 1) := by decide +kernel
theorem dX7_init_102 : decode cX7_init 102 = .ok (.getfield 7, 3) := by decide +kernel
theorem dX7_init_105 : decode cX7_init 105 = .ok (.iconst 4, 1) := by decide +kernel
theorem dX7_init_106 : decode cX7_init 106 = .ok (.iconst 4, 1) := by decide +kernel
theorem dX7_init_107 : decode cX7_init 107 = .ok (.iload_n 1, 1) := by decide +kernel
theorem dX7_init_108 : decode cX7_init 108 = .ok (.imul, 1) := by decide +kernel
theorem dX7_init_109 : decode cX7_init 109 = .ok (.iadd, 1) := by decide +kernel
theorem dX7_init_110 : decode cX7_init 110 = .ok (.iconst 2, 1) := by decide +kernel
theorem dX7_init_111 : decode cX7_init 111 = .ok (.iadd, 1) := by decide +kernel
theorem dX7_init_112 : decode cX7_init 112 = .ok (.bipush 30, 2) := by decide +kernel
theorem dX7_init_114 : decode cX7_init 114 = .ok (.iastore, 1) := by decide +kernel
theorem dX7_init_115 : decode cX7_init 115 = .ok (.aload_n 0, 1) := by decide +kernel
theorem dX7_init_116 : decode cX7_init 116 = .ok (.getfield 7, 3) := by decide +kernel
theorem dX7_init_119 : decode cX7_init 119 = .ok (.iconst 4, 1) := by decide +kernel
theorem dX7_init_120 : decode cX7_init 120 = .ok (.iconst 4, 1) := by decide +kernel
theorem dX7_init_121 : decode cX7_init 121 = .ok (.iload_n 1, 1) := by decide +kernel
theorem dX7_init_122 : decode cX7_init 122 = .ok (.imul, 1) := by decide +kernel
theorem dX7_init_123 : decode cX7_init 123 = .ok (.iadd, 1) := by decide +kernel
theorem dX7_init_124 : decode cX7_init 124 = .ok (.iconst 3, 1) := by decide +kernel
theorem dX7_init_125 : decode cX7_init 125 = .ok (.iadd, 1) := by decide +kernel
theorem dX7_init_126 : decode cX7_init 126 = .ok (.bipush 40, 2) := by decide +kernel
theorem dX7_init_128 : decode cX7_init 128 = .ok (.iastore, 1) := by decide +kernel
theorem dX7_init_129 : decode cX7_init 129 = .ok (.aload_n 0, 1) := by decide +kernel
theorem dX7_init_130 : decode cX7_init 130 = .ok (.getfield 7, 3) := by decide +kernel
theorem dX7_init_133 : decode cX7_init 133 = .ok (.bipush 16, 2) := by decide +kernel
theorem dX7_init_135 : decode cX7_init 135 = .ok (.iload_n 1, 1) := by decide +kernel
theorem dX7_init_136 : decode cX7_init 136 = .ok (.iadd, 1) := by decide +kernel
theorem dX7_init_137 : decode cX7_init 137 = .ok (.bipush 30, 2) := by decide +kernel
theorem dX7_init_139 : decode cX7_init 139 = .ok (.iastore, 1) := by decide +kernel
theorem dX7_init_140 : decode cX7_init 140 = .ok (.iinc 1 1, 3) := by decide +kernel
theorem dX7_init_143 : decode cX7_init 143 = .ok (.goto (-73), 3) := by decide +kernel
theorem dX7_init_146 : decode cX7_init 146 = .ok (.iconst 0, 1) := by decide +kernel
theorem dX7_init_147 : decode cX7_init 147 = .ok (.istore_n 1, 1) := by decide +kernel
theorem dX7_init_148 : decode cX7_init 148 = .ok (.iload_n 1, 1) := by decide +kernel
theorem dX7_init_149 : decode cX7_init 149 = .ok (.iconst 5, 1) := by decide +kernel
theorem dX7_init_150 : decode cX7_init 150 = .ok (.if_icmp .ge 21, 3) := by decide +kernel
theorem dX7_init_153 : decode cX7_init 153 = .ok (.aload_n 0, 1) := by decide +kernel
theorem dX7_init_154 : decode cX7_init 154 = .ok (.getfield 7, 3) := by decide +kernel
theorem dX7_init_157 : decode cX7_init 157 = .ok (.bipush 70, 2) := by decide +kernel
theorem dX7_init_159 : decode cX7_init 159 = .ok (.iload_n 1, 1) := by decide +kernel
theorem dX7_init_160 : decode cX7_init 160 = .ok (.iadd, 1) := by decide +kernel
theorem dX7_init_161 : decode cX7_init 161 = .ok (.sipush 128, 3) := by decide +kernel
theorem dX7_init_164 : decode cX7_init 164 = .ok (.iastore, 1) := by decide +kernel
theorem dX7_init_165 : decode cX7_init 165 = .ok (.iinc 1 1, 3) := by decide +kernel
theorem dX7_init_168 : decode cX7_init 168 = .ok (.goto (-20), 3) := by decide +kernel
theorem dX7_init_171 : decode cX7_init 171 = .ok (.return_, 1) := by decide +kernel
theorem dX7_in_0 : decode cX7_in 0 = .ok (.iload_n 0, 1) := by decide +kernel
theorem dX7_in_1 : decode cX7_in 1 = .ok (.iload_n 1, 1) := by decide +kernel
theorem dX7_in_2 : decode cX7_in 2 = .ok (.if_icmp .lt 12, 3) := by decide +kernel
theorem dX7_in_5 : decode cX7_in 5 = .ok (.iload_n 0, 1) := by decide +kernel
theorem dX7_in_6 : decode cX7_in 6 = .ok (.iload_n 2, 1) := by decide +kernel
theorem dX7_in_7 : decode cX7_in 7 = .ok (.if_icmp .gt 7, 3) := by decide +kernel
theorem dX7_in_10 : decode cX7_in 10 = .ok (.iconst 1, 1) := by decide +kernel
theorem dX7_in_11 : decode cX7_in 11 = .ok (.goto 4, 3) := by decide +kernel
theorem dX7_in_14 : decode cX7_in 14 = .ok (.iconst 0, 1) := by decide +kernel
theorem dX7_in_15 : decode cX7_in 15 = .ok (.ireturn, 1) := by decide +kernel
set_option maxRecDepth 20000 in
theorem ggX7_isClass_X7_in : GoodIn wsX7_isClass wsX7_in := goodIn_r _ [4] (by decide +kernel) (by decide +kernel)
set_option maxRecDepth 20000 in
theorem gX7_isClass_X7_in : GoodIn wsX7_isClass (va_wsS RX7 22 yX7_in wsX7_in) := goodIn_app (goodIn_of _ (by decide +kernel)) ggX7_isClass_X7_in
theorem dX7_isClass_0 : decode cX7_isClass 0 = .ok (.iload_n 0, 1) := by decide +kernel
theorem dX7_isClass_1 : decode cX7_isClass 1 = .ok (.iconst 0, 1) := by decide +kernel
theorem dX7_isClass_2 : decode cX7_isClass 2 = .ok (.iconst 2, 1) := by decide +kernel
theorem dX7_isClass_3 : decode cX7_isClass 3 = .ok (.invokestatic 22, 3) := by decide +kernel
theorem dX7_isClass_6 : decode cX7_isClass 6 = .ok (.ireturn, 1) := by decide +kernel
set_option maxRecDepth 20000 in
theorem ggX7_isShape_X7_in : GoodIn wsX7_isShape wsX7_in := goodIn_r _ [4] (by decide +kernel) (by decide +kernel)
set_option maxRecDepth 20000 in
theorem gX7_isShape_X7_in : GoodIn wsX7_isShape (va_wsS RX7 22 yX7_in wsX7_in) := goodIn_app (goodIn_of _ (by decide +kernel)) ggX7_isShape_X7_in
theorem dX7_isShape_0 : decode cX7_isShape 0 = .ok (.iload_n 0, 1) := by decide +kernel
theorem dX7_isShape_1 : decode cX7_isShape 1 = .ok (.iconst 0, 1) := by decide +kernel
theorem dX7_isShape_2 : decode cX7_isShape 2 = .ok (.iconst 4, 1) := by decide +kernel
theorem dX7_isShape_3 : decode cX7_isShape 3 = .ok (.invokestatic 22, 3) := by decide +kernel
theorem dX7_isShape_6 : decode cX7_isShape 6 = .ok (.ireturn, 1) := by decide +kernel
set_option maxRecDepth 20000 in
theorem ggX7_isRequest_X7_in : GoodIn wsX7_isRequest wsX7_in := goodIn_r _ [5] (by decide +kernel) (by decide +kernel)
set_option maxRecDepth 20000 in
theorem gX7_isRequest_X7_in : GoodIn wsX7_isRequest (va_wsS RX7 22 yX7_in wsX7_in) := goodIn_app (goodIn_of _ (by decide +kernel)) ggX7_isRequest_X7_in
theorem dX7_isRequest_0 : decode cX7_isRequest 0 = .ok (.iload_n 1, 1) := by decide +kernel
theorem dX7_isRequest_1 : decode cX7_isRequest 1 = .ok (.iconst 0, 1) := by decide +kernel
theorem dX7_isRequest_2 : decode cX7_isRequest 2 = .ok (.aload_n 0, 1) := by decide +kernel
theorem dX7_isRequest_3 : decode cX7_isRequest 3 = .ok (.getfield 7, 3) := by decide +kernel
theorem dX7_isRequest_6 : decode cX7_isRequest 6 = .ok (.bipush 69, 2) := by decide +kernel
theorem dX7_isRequest_8 : decode cX7_isRequest 8 = .ok (.iaload, 1) := by decide +kernel
theorem dX7_isRequest_9 : decode cX7_isRequest 9 = .ok (.iconst 1, 1) := by decide +kernel
theorem dX7_isRequest_10 : decode cX7_isRequest 10 = .ok (.isub, 1) := by decide +kernel
theorem dX7_isRequest_11 : decode cX7_isRequest 11 = .ok (.invokestatic 22, 3) := by decide +kernel
theorem dX7_isRequest_14 : decode cX7_isRequest 14 = .ok (.ireturn, 1) := by decide +kernel
theorem dX7_ofClass_0 : decode cX7_ofClass 0 = .ok (.aload_n 0, 1) := by decide +kernel
theorem dX7_ofClass_1 : decode cX7_ofClass 1 = .ok (.getfield 7, 3) := by decide +kernel
theorem dX7_ofClass_4 : decode cX7_ofClass 4 = .ok (.iconst 4, 1) := by decide +kernel
theorem dX7_ofClass_5 : decode cX7_ofClass 5 = .ok (.iconst 4, 1) := by decide +kernel
theorem dX7_ofClass_6 : decode cX7_ofClass 6 = .ok (.iload_n 1, 1) := by decide +kernel
theorem dX7_ofClass_7 : decode cX7_ofClass 7 = .ok (.imul, 1) := by decide +kernel
theorem dX7_ofClass_8 : decode cX7_ofClass 8 = .ok (.iadd, 1) := by decide +kernel
theorem dX7_ofClass_9 : decode cX7_ofClass 9 = .ok (.iload_n 2, 1) := by decide +kernel
theorem dX7_ofClass_10 : decode cX7_ofClass 10 = .ok (.iadd, 1) := by decide +kernel
theorem dX7_ofClass_11 : decode cX7_ofClass 11 = .ok (.iaload, 1) := by decide +kernel
theorem dX7_ofClass_12 : decode cX7_ofClass 12 = .ok (.ireturn, 1) := by decide +kernel
theorem dX7_of_0 : decode cX7_of 0 = .ok (.aload_n 0, 1) := by decide +kernel
theorem dX7_of_1 : decode cX7_of 1 = .ok (.getfield 7, 3) := by decide +kernel
theorem dX7_of_4 : decode cX7_of 4 = .ok (.bipush 75, 2) := by decide +kernel
theorem dX7_of_6 : decode cX7_of 6 = .ok (.bipush 10, 2) := by decide +kernel
theorem dX7_of_8 : decode cX7_of 8 = .ok (.iload_n 1, 1) := by decide +kernel
theorem dX7_of_9 : decode cX7_of 9 = .ok (.imul, 1) := by decide +kernel
theorem dX7_of_10 : decode cX7_of 10 = .ok (.iadd, 1) := by decide +kernel
theorem dX7_of_11 : decode cX7_of 11 = .ok (.iload_n 2, 1) := by decide +kernel
theorem dX7_of_12 : decode cX7_of 12 = .ok (.iadd, 1) := by decide +kernel
theorem dX7_of_13 : decode cX7_of 13 = .ok (.iaload, 1) := by decide +kernel
theorem dX7_of_14 : decode cX7_of 14 = .ok (.ireturn, 1) := by decide +kernel
theorem dX7_put_0 : decode cX7_put 0 = .ok (.aload_n 0, 1) := by decide +kernel
theorem dX7_put_1 : decode cX7_put 1 = .ok (.getfield 7, 3) := by decide +kernel
theorem dX7_put_4 : decode cX7_put 4 = .ok (.bipush 75, 2) := by decide +kernel
theorem dX7_put_6 : decode cX7_put 6 = .ok (.bipush 10, 2) := by decide +kernel
theorem dX7_put_8 : decode cX7_put 8 = .ok (.iload_n 1, 1) := by decide +kernel
theorem dX7_put_9 : decode cX7_put 9 = .ok (.imul, 1) := by decide +kernel
theorem dX7_put_10 : decode cX7_put 10 = .ok (.iadd, 1) := by decide +kernel
theorem dX7_put_11 : decode cX7_put 11 = .ok (.iload_n 2, 1) := by decide +kernel
theorem dX7_put_12 : decode cX7_put 12 = .ok (.iadd, 1) := by decide +kernel
theorem dX7_put_13 : decode cX7_put 13 = .ok (.iload_n 3, 1) := by decide +kernel
theorem dX7_put_14 : decode cX7_put 14 = .ok (.iastore, 1) := by decide +kernel
theorem dX7_put_15 : decode cX7_put 15 = .ok (.return_, 1) := by decide +kernel
theorem dX7_inQueue_0 : decode cX7_inQueue 0 = .ok (.aload_n 0, 1) := by decide +kernel
theorem dX7_inQueue_1 : decode cX7_inQueue 1 = .ok (.getfield 7, 3) := by decide +kernel
theorem dX7_inQueue_4 : decode cX7_inQueue 4 = .ok (.bipush 28, 2) := by decide +kernel
theorem dX7_inQueue_6 : decode cX7_inQueue 6 = .ok (.bipush 8, 2) := by decide +kernel
theorem dX7_inQueue_8 : decode cX7_inQueue 8 = .ok (.iload_n 1, 1) := by decide +kernel
theorem dX7_inQueue_9 : decode cX7_inQueue 9 = .ok (.imul, 1) := by decide +kernel
theorem dX7_inQueue_10 : decode cX7_inQueue 10 = .ok (.iadd, 1) := by decide +kernel
theorem dX7_inQueue_11 : decode cX7_inQueue 11 = .ok (.iload_n 2, 1) := by decide +kernel
theorem dX7_inQueue_12 : decode cX7_inQueue 12 = .ok (.iadd, 1) := by decide +kernel
theorem dX7_inQueue_13 : decode cX7_inQueue 13 = .ok (.iaload, 1) := by decide +kernel
theorem dX7_inQueue_14 : decode cX7_inQueue 14 = .ok (.ireturn, 1) := by decide +kernel
theorem dX7_record_0 : decode cX7_record 0 = .ok (.aload_n 0, 1) := by decide +kernel
theorem dX7_record_1 : decode cX7_record 1 = .ok (.getfield 26, 3) := by decide +kernel
theorem dX7_record_4 : decode cX7_record 4 = .ok (.iconst 4, 1) := by decide +kernel
theorem dX7_record_5 : decode cX7_record 5 = .ok (.if_icmp .ne 44, 3) := by decide +kernel
theorem dX7_record_8 : decode cX7_record 8 = .ok (.iconst 0, 1) := by decide +kernel
theorem dX7_record_9 : decode cX7_record 9 = .ok (.istore_n 1, 1) := by decide +kernel
theorem dX7_record_10 : decode cX7_record 10 = .ok (.iload_n 1, 1) := by decide +kernel
theorem dX7_record_11 : decode cX7_record 11 = .ok (.sipush 1185, 3) := by decide +kernel
theorem dX7_record_14 : decode cX7_record 14 = .ok (.if_icmp .ge 25, 3) := by decide +kernel
theorem dX7_record_17 : decode cX7_record 17 = .ok (.aload_n 0, 1) := by decide +kernel
theorem dX7_record_18 : decode cX7_record 18 = .ok (.getfield 16, 3) := by decide +kernel
theorem dX7_record_21 : decode cX7_record 21 = .ok (.iload_n 1, 1) := by decide +kernel
theorem dX7_record_22 : decode cX7_record 22 = .ok (.aload_n 0, 1) := by decide +kernel
theorem dX7_record_23 : decode cX7_record 23 = .ok (.getfield 16, 3) := by decide +kernel
theorem dX7_record_26 : decode cX7_record 26 = .ok (.sipush 395, 3) := by decide +kernel
theorem dX7_record_29 : decode cX7_record 29 = .ok (.iload_n 1, 1) := by decide +kernel
theorem dX7_record_30 : decode cX7_record 30 = .ok (.iadd, 1) := by decide +kernel
theorem dX7_record_31 : decode cX7_record 31 = .ok (.iaload, 1) := by decide +kernel
theorem dX7_record_32 : decode cX7_record 32 = .ok (.iastore, 1) := by decide +kernel
theorem dX7_record_33 : decode cX7_record 33 = .ok (.iinc 1 1, 3) := by decide +kernel
theorem dX7_record_36 : decode cX7_record 36 = .ok (.goto (-26), 3) := by decide +kernel
theorem dX7_record_39 : decode cX7_record 39 = .ok (.aload_n 0, 1) := by decide +kernel
theorem dX7_record_40 : decode cX7_record 40 = .ok (.dup, 1) := by decide +kernel
theorem dX7_record_41 : decode cX7_record 41 = .ok (.getfield 26, 3) := by decide +kernel
theorem dX7_record_44 : decode cX7_record 44 = .ok (.iconst 1, 1) := by decide +kernel
theorem dX7_record_45 : decode cX7_record 45 = .ok (.isub, 1) := by decide +kernel
theorem dX7_record_46 : decode cX7_record 46 = .ok (.putfield 26, 3) := by decide +kernel
theorem dX7_record_49 : decode cX7_record 49 = .ok (.iconst 0, 1) := by decide +kernel
theorem dX7_record_50 : decode cX7_record 50 = .ok (.istore_n 1, 1) := by decide +kernel
theorem dX7_record_51 : decode cX7_record 51 = .ok (.iload_n 1, 1) := by decide +kernel
theorem dX7_record_52 : decode cX7_record 52 = .ok (.sipush 395, 3) := by decide +kernel
theorem dX7_record_55 : decode cX7_record 55 = .ok (.if_icmp .ge 30, 3) := by decide +kernel
theorem dX7_record_58 : decode cX7_record 58 = .ok (.aload_n 0, 1) := by decide +kernel
theorem dX7_record_59 : decode cX7_record 59 = .ok (.getfield 16, 3) := by decide +kernel
theorem dX7_record_62 : decode cX7_record 62 = .ok (.sipush 395, 3) := by decide +kernel
theorem dX7_record_65 : decode cX7_record 65 = .ok (.aload_n 0, 1) := by decide +kernel
theorem dX7_record_66 : decode cX7_record 66 = .ok (.getfield 26, 3) := by decide +kernel
theorem dX7_record_69 : decode cX7_record 69 = .ok (.imul, 1) := by decide +kernel
theorem dX7_record_70 : decode cX7_record 70 = .ok (.iload_n 1, 1) := by decide +kernel
theorem dX7_record_71 : decode cX7_record 71 = .ok (.iadd, 1) := by decide +kernel
theorem dX7_record_72 : decode cX7_record 72 = .ok (.aload_n 0, 1) := by decide +kernel
theorem dX7_record_73 : decode cX7_record 73 = .ok (.getfield 7, 3) := by decide +kernel
theorem dX7_record_76 : decode cX7_record 76 = .ok (.iload_n 1, 1) := by decide +kernel
theorem dX7_record_77 : decode cX7_record 77 = .ok (.iaload, 1) := by decide +kernel
theorem dX7_record_78 : decode cX7_record 78 = .ok (.iastore, 1) := by decide +kernel
theorem dX7_record_79 : decode cX7_record 79 = .ok (.iinc 1 1, 3) := by decide +kernel
theorem dX7_record_82 : decode cX7_record 82 = .ok (.goto (-31), 3) := by decide +kernel
theorem dX7_record_85 : decode cX7_record 85 = .ok (.aload_n 0, 1) := by decide +kernel
theorem dX7_record_86 : decode cX7_record 86 = .ok (.dup, 1) := by decide +kernel
theorem dX7_record_87 : decode cX7_record 87 = .ok (.getfield 26, 3) := by decide +kernel
theorem dX7_record_90 : decode cX7_record 90 = .ok (.iconst 1, 1) := by decide +kernel
theorem dX7_record_91 : decode cX7_record 91 = .ok (.iadd, 1) := by decide +kernel
theorem dX7_record_92 : decode cX7_record 92 = .ok (.putfield 26, 3) := by decide +kernel
theorem dX7_record_95 : decode cX7_record 95 = .ok (.return_, 1) := by decide +kernel
theorem dX7_undo_0 : decode cX7_undo 0 = .ok (.aload_n 0, 1) := by decide +kernel
theorem dX7_undo_1 : decode cX7_undo 1 = .ok (.getfield 26, 3) := by decide +kernel
theorem dX7_undo_4 : decode cX7_undo 4 = .ok (.ifCond .ne 6, 3) := by decide +kernel
theorem dX7_undo_7 : decode cX7_undo 7 = .ok (.ldc 30, 2) := by decide +kernel
theorem dX7_undo_9 : decode cX7_undo 9 = .ok (.ireturn, 1) := by decide +kernel
theorem dX7_undo_10 : decode cX7_undo 10 = .ok (.aload_n 0, 1) := by decide +kernel
theorem dX7_undo_11 : decode cX7_undo 11 = .ok (.dup, 1) := by decide +kernel
theorem dX7_undo_12 : decode cX7_undo 12 = .ok (.getfield 26, 3) := by decide +kernel
theorem dX7_undo_15 : decode cX7_undo 15 = .ok (.iconst 1, 1) := by decide +kernel
theorem dX7_undo_16 : decode cX7_undo 16 = .ok (.isub, 1) := by decide +kernel
theorem dX7_undo_17 : decode cX7_undo 17 = .ok (.putfield 26, 3) := by decide +kernel
theorem dX7_undo_20 : decode cX7_undo 20 = .ok (.iconst 0, 1) := by decide +kernel
theorem dX7_undo_21 : decode cX7_undo 21 = .ok (.istore_n 1, 1) := by decide +kernel
theorem dX7_undo_22 : decode cX7_undo 22 = .ok (.iload_n 1, 1) := by decide +kernel
theorem dX7_undo_23 : decode cX7_undo 23 = .ok (.sipush 395, 3) := by decide +kernel
theorem dX7_undo_26 : decode cX7_undo 26 = .ok (.if_icmp .ge 30, 3) := by decide +kernel
theorem dX7_undo_29 : decode cX7_undo 29 = .ok (.aload_n 0, 1) := by decide +kernel
theorem dX7_undo_30 : decode cX7_undo 30 = .ok (.getfield 7, 3) := by decide +kernel
theorem dX7_undo_33 : decode cX7_undo 33 = .ok (.iload_n 1, 1) := by decide +kernel
theorem dX7_undo_34 : decode cX7_undo 34 = .ok (.aload_n 0, 1) := by decide +kernel
theorem dX7_undo_35 : decode cX7_undo 35 = .ok (.getfield 16, 3) := by decide +kernel
theorem dX7_undo_38 : decode cX7_undo 38 = .ok (.sipush 395, 3) := by decide +kernel
theorem dX7_undo_41 : decode cX7_undo 41 = .ok (.aload_n 0, 1) := by decide +kernel
theorem dX7_undo_42 : decode cX7_undo 42 = .ok (.getfield 26, 3) := by decide +kernel
theorem dX7_undo_45 : decode cX7_undo 45 = .ok (.imul, 1) := by decide +kernel
theorem dX7_undo_46 : decode cX7_undo 46 = .ok (.iload_n 1, 1) := by decide +kernel
theorem dX7_undo_47 : decode cX7_undo 47 = .ok (.iadd, 1) := by decide +kernel
theorem dX7_undo_48 : decode cX7_undo 48 = .ok (.iaload, 1) := by decide +kernel
theorem dX7_undo_49 : decode cX7_undo 49 = .ok (.iastore, 1) := by decide +kernel
theorem dX7_undo_50 : decode cX7_undo 50 = .ok (.iinc 1 1, 3) := by decide +kernel
theorem dX7_undo_53 : decode cX7_undo 53 = .ok (.goto (-31), 3) := by decide +kernel
theorem dX7_undo_56 : decode cX7_undo 56 = .ok (.aload_n 0, 1) := by decide +kernel
theorem dX7_undo_57 : decode cX7_undo 57 = .ok (.getfield 26, 3) := by decide +kernel
theorem dX7_undo_60 : decode cX7_undo 60 = .ok (.ireturn, 1) := by decide +kernel
theorem dX7_putAside_0 : decode cX7_putAside 0 = .ok (.iconst 0, 1) := by decide +kernel
theorem dX7_putAside_1 : decode cX7_putAside 1 = .ok (.istore_n 1, 1) := by decide +kernel
theorem dX7_putAside_2 : decode cX7_putAside 2 = .ok (.iload_n 1, 1) := by decide +kernel
theorem dX7_putAside_3 : decode cX7_putAside 3 = .ok (.sipush 395, 3) := by decide +kernel
theorem dX7_putAside_6 : decode cX7_putAside 6 = .ok (.if_icmp .ge 21, 3) := by decide +kernel
theorem dX7_putAside_9 : decode cX7_putAside 9 = .ok (.aload_n 0, 1) := by decide +kernel
theorem dX7_putAside_10 : decode cX7_putAside 10 = .ok (.getfield 13, 3) := by decide +kernel
theorem dX7_putAside_13 : decode cX7_putAside 13 = .ok (.iload_n 1, 1) := by decide +kernel
theorem dX7_putAside_14 : decode cX7_putAside 14 = .ok (.aload_n 0, 1) := by decide +kernel
theorem dX7_putAside_15 : decode cX7_putAside 15 = .ok (.getfield 7, 3) := by decide +kernel
theorem dX7_putAside_18 : decode cX7_putAside 18 = .ok (.iload_n 1, 1) := by decide +kernel
theorem dX7_putAside_19 : decode cX7_putAside 19 = .ok (.iaload, 1) := by decide +kernel
theorem dX7_putAside_20 : decode cX7_putAside 20 = .ok (.iastore, 1) := by decide +kernel
theorem dX7_putAside_21 : decode cX7_putAside 21 = .ok (.iinc 1 1, 3) := by decide +kernel
theorem dX7_putAside_24 : decode cX7_putAside 24 = .ok (.goto (-22), 3) := by decide +kernel
theorem dX7_putAside_27 : decode cX7_putAside 27 = .ok (.return_, 1) := by decide +kernel
theorem dX7_putBack_0 : decode cX7_putBack 0 = .ok (.iconst 0, 1) := by decide +kernel
theorem dX7_putBack_1 : decode cX7_putBack 1 = .ok (.istore_n 1, 1) := by decide +kernel
theorem dX7_putBack_2 : decode cX7_putBack 2 = .ok (.iload_n 1, 1) := by decide +kernel
theorem dX7_putBack_3 : decode cX7_putBack 3 = .ok (.sipush 395, 3) := by decide +kernel
theorem dX7_putBack_6 : decode cX7_putBack 6 = .ok (.if_icmp .ge 21, 3) := by decide +kernel
theorem dX7_putBack_9 : decode cX7_putBack 9 = .ok (.aload_n 0, 1) := by decide +kernel
theorem dX7_putBack_10 : decode cX7_putBack 10 = .ok (.getfield 7, 3) := by decide +kernel
theorem dX7_putBack_13 : decode cX7_putBack 13 = .ok (.iload_n 1, 1) := by decide +kernel
theorem dX7_putBack_14 : decode cX7_putBack 14 = .ok (.aload_n 0, 1) := by decide +kernel
theorem dX7_putBack_15 : decode cX7_putBack 15 = .ok (.getfield 13, 3) := by decide +kernel
theorem dX7_putBack_18 : decode cX7_putBack 18 = .ok (.iload_n 1, 1) := by decide +kernel
theorem dX7_putBack_19 : decode cX7_putBack 19 = .ok (.iaload, 1) := by decide +kernel
theorem dX7_putBack_20 : decode cX7_putBack 20 = .ok (.iastore, 1) := by decide +kernel
theorem dX7_putBack_21 : decode cX7_putBack 21 = .ok (.iinc 1 1, 3) := by decide +kernel
theorem dX7_putBack_24 : decode cX7_putBack 24 = .ok (.goto (-22), 3) := by decide +kernel
theorem dX7_putBack_27 : decode cX7_putBack 27 = .ok (.return_, 1) := by decide +kernel
theorem dX7_expectedCost_0 : decode cX7_expectedCost 0 = .ok (.aload_n 0, 1) := by decide +kernel
theorem dX7_expectedCost_1 : decode cX7_expectedCost 1 = .ok (.getfield 7, 3) := by decide +kernel
theorem dX7_expectedCost_4 : decode cX7_expectedCost 4 = .ok (.bipush 70, 2) := by decide +kernel
theorem dX7_expectedCost_6 : decode cX7_expectedCost 6 = .ok (.iload_n 1, 1) := by decide +kernel
theorem dX7_expectedCost_7 : decode cX7_expectedCost 7 = .ok (.iadd, 1) := by decide +kernel
theorem dX7_expectedCost_8 : decode cX7_expectedCost 8 = .ok (.iaload, 1) := by decide +kernel
theorem dX7_expectedCost_9 : decode cX7_expectedCost 9 = .ok (.bipush 16, 2) := by decide +kernel
theorem dX7_expectedCost_11 : decode cX7_expectedCost 11 = .ok (.idiv, 1) := by decide +kernel
theorem dX7_expectedCost_12 : decode cX7_expectedCost 12 = .ok (.istore_n 2, 1) := by decide +kernel
theorem dX7_expectedCost_13 : decode cX7_expectedCost 13 = .ok (.iload_n 2, 1) := by decide +kernel
theorem dX7_expectedCost_14 : decode cX7_expectedCost 14 = .ok (.iconst 1, 1) := by decide +kernel
theorem dX7_expectedCost_15 : decode cX7_expectedCost 15 = .ok (.if_icmp .ge 7, 3) := by decide +kernel
theorem dX7_expectedCost_18 : decode cX7_expectedCost 18 = .ok (.iconst 1, 1) := by decide +kernel
theorem dX7_expectedCost_19 : decode cX7_expectedCost 19 = .ok (.goto 4, 3) := by decide +kernel
theorem dX7_expectedCost_22 : decode cX7_expectedCost 22 = .ok (.iload_n 2, 1) := by decide +kernel
theorem dX7_expectedCost_23 : decode cX7_expectedCost 23 = .ok (.ireturn, 1) := by decide +kernel
set_option maxRecDepth 20000 in
theorem ggX7_backlogOf_X7_inQueue : GoodIn wsX7_backlogOf wsX7_inQueue := goodIn_r _ [6, 1, 11, 12, 13, 14, 15, 16, 17, 18, 19] (by decide +kernel) (by decide +kernel)
set_option maxRecDepth 20000 in
theorem gX7_backlogOf_X7_inQueue : GoodIn wsX7_backlogOf (wsV RX7 31 RX7 yX7_inQueue wsX7_inQueue) := goodIn_app (goodIn_of _ (by decide +kernel)) ggX7_backlogOf_X7_inQueue
set_option maxRecDepth 20000 in
theorem ggX7_backlogOf_X7_of : GoodIn wsX7_backlogOf wsX7_of := goodIn_r _ [10, 1, 11, 12, 13, 14, 15, 16, 17, 18, 19] (by decide +kernel) (by decide +kernel)
set_option maxRecDepth 20000 in
theorem gX7_backlogOf_X7_of : GoodIn wsX7_backlogOf (wsV RX7 35 RX7 yX7_of wsX7_of) := goodIn_app (goodIn_of _ (by decide +kernel)) ggX7_backlogOf_X7_of
theorem dX7_backlogOf_0 : decode cX7_backlogOf 0 = .ok (.iconst 0, 1) := by decide +kernel
theorem dX7_backlogOf_1 : decode cX7_backlogOf 1 = .ok (.istore_n 2, 1) := by decide +kernel
theorem dX7_backlogOf_2 : decode cX7_backlogOf 2 = .ok (.iconst 0, 1) := by decide +kernel
theorem dX7_backlogOf_3 : decode cX7_backlogOf 3 = .ok (.istore_n 3, 1) := by decide +kernel
theorem dX7_backlogOf_4 : decode cX7_backlogOf 4 = .ok (.iload_n 3, 1) := by decide +kernel
theorem dX7_backlogOf_5 : decode cX7_backlogOf 5 = .ok (.aload_n 0, 1) := by decide +kernel
theorem dX7_backlogOf_6 : decode cX7_backlogOf 6 = .ok (.getfield 7, 3) := by decide +kernel
theorem dX7_backlogOf_9 : decode cX7_backlogOf 9 = .ok (.bipush 25, 2) := by decide +kernel
theorem dX7_backlogOf_11 : decode cX7_backlogOf 11 = .ok (.iload_n 1, 1) := by decide +kernel
theorem dX7_backlogOf_12 : decode cX7_backlogOf 12 = .ok (.iadd, 1) := by decide +kernel
theorem dX7_backlogOf_13 : decode cX7_backlogOf 13 = .ok (.iaload, 1) := by decide +kernel
theorem dX7_backlogOf_14 : decode cX7_backlogOf 14 = .ok (.if_icmp .ge 49, 3) := by decide +kernel
theorem dX7_backlogOf_17 : decode cX7_backlogOf 17 = .ok (.aload_n 0, 1) := by decide +kernel
theorem dX7_backlogOf_18 : decode cX7_backlogOf 18 = .ok (.aload_n 0, 1) := by decide +kernel
theorem dX7_backlogOf_19 : decode cX7_backlogOf 19 = .ok (.iload_n 1, 1) := by decide +kernel
theorem dX7_backlogOf_20 : decode cX7_backlogOf 20 = .ok (.iload_n 3, 1) := by decide +kernel
theorem dX7_backlogOf_21 : decode cX7_backlogOf 21 = .ok (.invokevirtual 31, 3) := by decide +kernel
theorem dX7_backlogOf_24 : decode cX7_backlogOf 24 = .ok (.iconst 4, 1) := by decide +kernel
theorem dX7_backlogOf_25 : decode cX7_backlogOf 25 = .ok (.invokevirtual 35, 3) := by decide +kernel
theorem dX7_backlogOf_28 : decode cX7_backlogOf 28 = .ok (.aload_n 0, 1) := by decide +kernel
theorem dX7_backlogOf_29 : decode cX7_backlogOf 29 = .ok (.aload_n 0, 1) := by decide +kernel
theorem dX7_backlogOf_30 : decode cX7_backlogOf 30 = .ok (.iload_n 1, 1) := by decide +kernel
theorem dX7_backlogOf_31 : decode cX7_backlogOf 31 = .ok (.iload_n 3, 1) := by decide +kernel
theorem dX7_backlogOf_32 : decode cX7_backlogOf 32 = .ok (.invokevirtual 31, 3) := by decide +kernel
theorem dX7_backlogOf_35 : decode cX7_backlogOf 35 = .ok (.iconst 5, 1) := by decide +kernel
theorem dX7_backlogOf_36 : decode cX7_backlogOf 36 = .ok (.invokevirtual 35, 3) := by decide +kernel
theorem dX7_backlogOf_39 : decode cX7_backlogOf 39 = .ok (.isub, 1) := by decide +kernel
theorem dX7_backlogOf_40 : decode cX7_backlogOf 40 = .ok (.istore 4, 2) := by decide +kernel
theorem dX7_backlogOf_42 : decode cX7_backlogOf 42 = .ok (.iload_n 2, 1) := by decide +kernel
theorem dX7_backlogOf_43 : decode cX7_backlogOf 43 = .ok (.iload 4, 2) := by decide +kernel
theorem dX7_backlogOf_45 : decode cX7_backlogOf 45 = .ok (.iconst 1, 1) := by decide +kernel
theorem dX7_backlogOf_46 : decode cX7_backlogOf 46 = .ok (.if_icmp .ge 7, 3) := by decide +kernel
theorem dX7_backlogOf_49 : decode cX7_backlogOf 49 = .ok (.iconst 1, 1) := by decide +kernel
theorem dX7_backlogOf_50 : decode cX7_backlogOf 50 = .ok (.goto 5, 3) := by decide +kernel
theorem dX7_backlogOf_53 : decode cX7_backlogOf 53 = .ok (.iload 4, 2) := by decide +kernel
theorem dX7_backlogOf_55 : decode cX7_backlogOf 55 = .ok (.iadd, 1) := by decide +kernel
theorem dX7_backlogOf_56 : decode cX7_backlogOf 56 = .ok (.istore_n 2, 1) := by decide +kernel
theorem dX7_backlogOf_57 : decode cX7_backlogOf 57 = .ok (.iinc 3 1, 3) := by decide +kernel
theorem dX7_backlogOf_60 : decode cX7_backlogOf 60 = .ok (.goto (-56), 3) := by decide +kernel
theorem dX7_backlogOf_63 : decode cX7_backlogOf 63 = .ok (.iload_n 2, 1) := by decide +kernel
theorem dX7_backlogOf_64 : decode cX7_backlogOf 64 = .ok (.ireturn, 1) := by decide +kernel
set_option maxRecDepth 20000 in
theorem ggX7_whyRefused_X7_ofClass : GoodIn wsX7_whyRefused wsX7_ofClass := goodIn_r _ [6, 1, 19, 20, 21, 22, 23, 24, 25, 26, 27] (by decide +kernel) (by decide +kernel)
set_option maxRecDepth 20000 in
theorem gX7_whyRefused_X7_ofClass : GoodIn wsX7_whyRefused (wsV RX7 38 RX7 yX7_ofClass wsX7_ofClass) := goodIn_app (goodIn_of _ (by decide +kernel)) ggX7_whyRefused_X7_ofClass
set_option maxRecDepth 20000 in
theorem ggX7_whyRefused_X7_backlogOf : GoodIn wsX7_whyRefused wsX7_backlogOf := goodIn_r _ [10, 1, 11, 12, 13, 5, 14, 15, 16, 17, 18, 19, 20, 21, 22, 23, 24, 25, 26, 27] (by decide +kernel) (by decide +kernel)
set_option maxRecDepth 20000 in
theorem gX7_whyRefused_X7_backlogOf : GoodIn wsX7_whyRefused (wsV RX7 41 RX7 yX7_backlogOf wsX7_backlogOf) := goodIn_app (goodIn_of _ (by decide +kernel)) ggX7_whyRefused_X7_backlogOf
theorem dX7_whyRefused_0 : decode cX7_whyRefused 0 = .ok (.iload_n 2, 1) := by decide +kernel
theorem dX7_whyRefused_1 : decode cX7_whyRefused 1 = .ok (.aload_n 0, 1) := by decide +kernel
theorem dX7_whyRefused_2 : decode cX7_whyRefused 2 = .ok (.iload_n 1, 1) := by decide +kernel
theorem dX7_whyRefused_3 : decode cX7_whyRefused 3 = .ok (.iconst 3, 1) := by decide +kernel
theorem dX7_whyRefused_4 : decode cX7_whyRefused 4 = .ok (.invokevirtual 38, 3) := by decide +kernel
theorem dX7_whyRefused_7 : decode cX7_whyRefused 7 = .ok (.if_icmp .le 5, 3) := by decide +kernel
theorem dX7_whyRefused_10 : decode cX7_whyRefused 10 = .ok (.iconst 1, 1) := by decide +kernel
theorem dX7_whyRefused_11 : decode cX7_whyRefused 11 = .ok (.ireturn, 1) := by decide +kernel
theorem dX7_whyRefused_12 : decode cX7_whyRefused 12 = .ok (.aload_n 0, 1) := by decide +kernel
theorem dX7_whyRefused_13 : decode cX7_whyRefused 13 = .ok (.getfield 7, 3) := by decide +kernel
theorem dX7_whyRefused_16 : decode cX7_whyRefused 16 = .ok (.bipush 25, 2) := by decide +kernel
theorem dX7_whyRefused_18 : decode cX7_whyRefused 18 = .ok (.iload_n 1, 1) := by decide +kernel
theorem dX7_whyRefused_19 : decode cX7_whyRefused 19 = .ok (.iadd, 1) := by decide +kernel
theorem dX7_whyRefused_20 : decode cX7_whyRefused 20 = .ok (.iaload, 1) := by decide +kernel
theorem dX7_whyRefused_21 : decode cX7_whyRefused 21 = .ok (.bipush 8, 2) := by decide +kernel
theorem dX7_whyRefused_23 : decode cX7_whyRefused 23 = .ok (.if_icmp .ne 5, 3) := by decide +kernel
theorem dX7_whyRefused_26 : decode cX7_whyRefused 26 = .ok (.iconst 2, 1) := by decide +kernel
theorem dX7_whyRefused_27 : decode cX7_whyRefused 27 = .ok (.ireturn, 1) := by decide +kernel
theorem dX7_whyRefused_28 : decode cX7_whyRefused 28 = .ok (.aload_n 0, 1) := by decide +kernel
theorem dX7_whyRefused_29 : decode cX7_whyRefused 29 = .ok (.iconst 0, 1) := by decide +kernel
theorem dX7_whyRefused_30 : decode cX7_whyRefused 30 = .ok (.iconst 0, 1) := by decide +kernel
theorem dX7_whyRefused_31 : decode cX7_whyRefused 31 = .ok (.invokevirtual 38, 3) := by decide +kernel
theorem dX7_whyRefused_34 : decode cX7_whyRefused 34 = .ok (.aload_n 0, 1) := by decide +kernel
theorem dX7_whyRefused_35 : decode cX7_whyRefused 35 = .ok (.iconst 1, 1) := by decide +kernel
theorem dX7_whyRefused_36 : decode cX7_whyRefused 36 = .ok (.iconst 0, 1) := by decide +kernel
theorem dX7_whyRefused_37 : decode cX7_whyRefused 37 = .ok (.invokevirtual 38, 3) := by decide +kernel
theorem dX7_whyRefused_40 : decode cX7_whyRefused 40 = .ok (.iadd, 1) := by decide +kernel
theorem dX7_whyRefused_41 : decode cX7_whyRefused 41 = .ok (.aload_n 0, 1) := by decide +kernel
theorem dX7_whyRefused_42 : decode cX7_whyRefused 42 = .ok (.iconst 2, 1) := by decide +kernel
theorem dX7_whyRefused_43 : decode cX7_whyRefused 43 = .ok (.iconst 0, 1) := by decide +kernel
theorem dX7_whyRefused_44 : decode cX7_whyRefused 44 = .ok (.invokevirtual 38, 3) := by decide +kernel
theorem dX7_whyRefused_47 : decode cX7_whyRefused 47 = .ok (.iadd, 1) := by decide +kernel
theorem dX7_whyRefused_48 : decode cX7_whyRefused 48 = .ok (.istore_n 3, 1) := by decide +kernel
theorem dX7_whyRefused_49 : decode cX7_whyRefused 49 = .ok (.aload_n 0, 1) := by decide +kernel
theorem dX7_whyRefused_50 : decode cX7_whyRefused 50 = .ok (.iload_n 1, 1) := by decide +kernel
theorem dX7_whyRefused_51 : decode cX7_whyRefused 51 = .ok (.invokevirtual 41, 3) := by decide +kernel
theorem dX7_whyRefused_54 : decode cX7_whyRefused 54 = .ok (.iload_n 2, 1) := by decide +kernel
theorem dX7_whyRefused_55 : decode cX7_whyRefused 55 = .ok (.iadd, 1) := by decide +kernel
theorem dX7_whyRefused_56 : decode cX7_whyRefused 56 = .ok (.iload_n 3, 1) := by decide +kernel
theorem dX7_whyRefused_57 : decode cX7_whyRefused 57 = .ok (.imul, 1) := by decide +kernel
theorem dX7_whyRefused_58 : decode cX7_whyRefused 58 = .ok (.aload_n 0, 1) := by decide +kernel
theorem dX7_whyRefused_59 : decode cX7_whyRefused 59 = .ok (.iload_n 1, 1) := by decide +kernel
theorem dX7_whyRefused_60 : decode cX7_whyRefused 60 = .ok (.iconst 0, 1) := by decide +kernel
theorem dX7_whyRefused_61 : decode cX7_whyRefused 61 = .ok (.invokevirtual 38, 3) := by decide +kernel
theorem dX7_whyRefused_64 : decode cX7_whyRefused 64 = .ok (.aload_n 0, 1) := by decide +kernel
theorem dX7_whyRefused_65 : decode cX7_whyRefused 65 = .ok (.getfield 7, 3) := by decide +kernel
theorem dX7_whyRefused_68 : decode cX7_whyRefused 68 = .ok (.iconst 0, 1) := by decide +kernel
theorem dX7_whyRefused_69 : decode cX7_whyRefused 69 = .ok (.iaload, 1) := by decide +kernel
theorem dX7_whyRefused_70 : decode cX7_whyRefused 70 = .ok (.imul, 1) := by decide +kernel
theorem dX7_whyRefused_71 : decode cX7_whyRefused 71 = .ok (.idiv, 1) := by decide +kernel
theorem dX7_whyRefused_72 : decode cX7_whyRefused 72 = .ok (.istore 4, 2) := by decide +kernel
theorem dX7_whyRefused_74 : decode cX7_whyRefused 74 = .ok (.iload 4, 2) := by decide +kernel
theorem dX7_whyRefused_76 : decode cX7_whyRefused 76 = .ok (.aload_n 0, 1) := by decide +kernel
theorem dX7_whyRefused_77 : decode cX7_whyRefused 77 = .ok (.getfield 7, 3) := by decide +kernel
theorem dX7_whyRefused_80 : decode cX7_whyRefused 80 = .ok (.iconst 1, 1) := by decide +kernel
theorem dX7_whyRefused_81 : decode cX7_whyRefused 81 = .ok (.iaload, 1) := by decide +kernel
theorem dX7_whyRefused_82 : decode cX7_whyRefused 82 = .ok (.if_icmp .le 5, 3) := by decide +kernel
theorem dX7_whyRefused_85 : decode cX7_whyRefused 85 = .ok (.iconst 3, 1) := by decide +kernel
theorem dX7_whyRefused_86 : decode cX7_whyRefused 86 = .ok (.ireturn, 1) := by decide +kernel
theorem dX7_whyRefused_87 : decode cX7_whyRefused 87 = .ok (.aload_n 0, 1) := by decide +kernel
theorem dX7_whyRefused_88 : decode cX7_whyRefused 88 = .ok (.getfield 7, 3) := by decide +kernel
theorem dX7_whyRefused_91 : decode cX7_whyRefused 91 = .ok (.bipush 16, 2) := by decide +kernel
theorem dX7_whyRefused_93 : decode cX7_whyRefused 93 = .ok (.iload_n 1, 1) := by decide +kernel
theorem dX7_whyRefused_94 : decode cX7_whyRefused 94 = .ok (.iadd, 1) := by decide +kernel
theorem dX7_whyRefused_95 : decode cX7_whyRefused 95 = .ok (.iaload, 1) := by decide +kernel
theorem dX7_whyRefused_96 : decode cX7_whyRefused 96 = .ok (.iload_n 2, 1) := by decide +kernel
theorem dX7_whyRefused_97 : decode cX7_whyRefused 97 = .ok (.if_icmp .ge 7, 3) := by decide +kernel
theorem dX7_whyRefused_100 : decode cX7_whyRefused 100 = .ok (.iconst 4, 1) := by decide +kernel
theorem dX7_whyRefused_101 : decode cX7_whyRefused 101 = .ok (.goto 4, 3) := by decide +kernel
theorem dX7_whyRefused_104 : decode cX7_whyRefused 104 = .ok (.iconst 0, 1) := by decide +kernel
theorem dX7_whyRefused_105 : decode cX7_whyRefused 105 = .ok (.ireturn, 1) := by decide +kernel
set_option maxRecDepth 20000 in
theorem ggX7_addTokens_X7_ofClass : GoodIn wsX7_addTokens wsX7_ofClass := goodIn_r _ [6, 1, 7, 8, 9, 10, 11, 12, 13, 14, 15] (by decide +kernel) (by decide +kernel)
set_option maxRecDepth 20000 in
theorem gX7_addTokens_X7_ofClass : GoodIn wsX7_addTokens (wsV RX7 38 RX7 yX7_ofClass wsX7_ofClass) := goodIn_app (goodIn_of _ (by decide +kernel)) ggX7_addTokens_X7_ofClass
theorem dX7_addTokens_0 : decode cX7_addTokens 0 = .ok (.aload_n 0, 1) := by decide +kernel
theorem dX7_addTokens_1 : decode cX7_addTokens 1 = .ok (.getfield 7, 3) := by decide +kernel
theorem dX7_addTokens_4 : decode cX7_addTokens 4 = .ok (.bipush 16, 2) := by decide +kernel
theorem dX7_addTokens_6 : decode cX7_addTokens 6 = .ok (.iload_n 1, 1) := by decide +kernel
theorem dX7_addTokens_7 : decode cX7_addTokens 7 = .ok (.iadd, 1) := by decide +kernel
theorem dX7_addTokens_8 : decode cX7_addTokens 8 = .ok (.iaload, 1) := by decide +kernel
theorem dX7_addTokens_9 : decode cX7_addTokens 9 = .ok (.istore_n 3, 1) := by decide +kernel
theorem dX7_addTokens_10 : decode cX7_addTokens 10 = .ok (.aload_n 0, 1) := by decide +kernel
theorem dX7_addTokens_11 : decode cX7_addTokens 11 = .ok (.iload_n 1, 1) := by decide +kernel
theorem dX7_addTokens_12 : decode cX7_addTokens 12 = .ok (.iconst 2, 1) := by decide +kernel
theorem dX7_addTokens_13 : decode cX7_addTokens 13 = .ok (.invokevirtual 38, 3) := by decide +kernel
theorem dX7_addTokens_16 : decode cX7_addTokens 16 = .ok (.istore 4, 2) := by decide +kernel
theorem dX7_addTokens_18 : decode cX7_addTokens 18 = .ok (.iload_n 3, 1) := by decide +kernel
theorem dX7_addTokens_19 : decode cX7_addTokens 19 = .ok (.iload_n 2, 1) := by decide +kernel
theorem dX7_addTokens_20 : decode cX7_addTokens 20 = .ok (.iadd, 1) := by decide +kernel
theorem dX7_addTokens_21 : decode cX7_addTokens 21 = .ok (.iload 4, 2) := by decide +kernel
theorem dX7_addTokens_23 : decode cX7_addTokens 23 = .ok (.if_icmp .ge 9, 3) := by decide +kernel
theorem dX7_addTokens_26 : decode cX7_addTokens 26 = .ok (.iload_n 3, 1) := by decide +kernel
theorem dX7_addTokens_27 : decode cX7_addTokens 27 = .ok (.iload_n 2, 1) := by decide +kernel
theorem dX7_addTokens_28 : decode cX7_addTokens 28 = .ok (.iadd, 1) := by decide +kernel
theorem dX7_addTokens_29 : decode cX7_addTokens 29 = .ok (.goto 5, 3) := by decide +kernel
theorem dX7_addTokens_32 : decode cX7_addTokens 32 = .ok (.iload 4, 2) := by decide +kernel
theorem dX7_addTokens_34 : decode cX7_addTokens 34 = .ok (.istore 5, 2) := by decide +kernel
theorem dX7_addTokens_36 : decode cX7_addTokens 36 = .ok (.aload_n 0, 1) := by decide +kernel
theorem dX7_addTokens_37 : decode cX7_addTokens 37 = .ok (.getfield 7, 3) := by decide +kernel
theorem dX7_addTokens_40 : decode cX7_addTokens 40 = .ok (.bipush 16, 2) := by decide +kernel
theorem dX7_addTokens_42 : decode cX7_addTokens 42 = .ok (.iload_n 1, 1) := by decide +kernel
theorem dX7_addTokens_43 : decode cX7_addTokens 43 = .ok (.iadd, 1) := by decide +kernel
theorem dX7_addTokens_44 : decode cX7_addTokens 44 = .ok (.iload_n 3, 1) := by decide +kernel
theorem dX7_addTokens_45 : decode cX7_addTokens 45 = .ok (.iload 4, 2) := by decide +kernel
theorem dX7_addTokens_47 : decode cX7_addTokens 47 = .ok (.if_icmp .le 7, 3) := by decide +kernel
theorem dX7_addTokens_50 : decode cX7_addTokens 50 = .ok (.iload_n 3, 1) := by decide +kernel
theorem dX7_addTokens_51 : decode cX7_addTokens 51 = .ok (.goto 5, 3) := by decide +kernel
theorem dX7_addTokens_54 : decode cX7_addTokens 54 = .ok (.iload 5, 2) := by decide +kernel
theorem dX7_addTokens_56 : decode cX7_addTokens 56 = .ok (.iastore, 1) := by decide +kernel
theorem dX7_addTokens_57 : decode cX7_addTokens 57 = .ok (.return_, 1) := by decide +kernel
set_option maxRecDepth 20000 in
theorem ggX7_refuse_X7_of : GoodIn wsX7_refuse wsX7_of := goodIn_r _ [7, 1, 12, 13, 14, 15, 16, 17, 18, 19, 20] (by decide +kernel) (by decide +kernel)
set_option maxRecDepth 20000 in
theorem gX7_refuse_X7_of : GoodIn wsX7_refuse (wsV RX7 35 RX7 yX7_of wsX7_of) := goodIn_app (goodIn_of _ (by decide +kernel)) ggX7_refuse_X7_of
set_option maxRecDepth 20000 in
theorem ggX7_refuse_X7_put : GoodIn wsX7_refuse wsX7_put := goodIn_r _ [11, 1, 12, 13, 14, 15, 16, 17, 18, 19, 20] (by decide +kernel) (by decide +kernel)
set_option maxRecDepth 20000 in
theorem gX7_refuse_X7_put : GoodIn wsX7_refuse (wsV RX7 45 RX7 yX7_put wsX7_put) := goodIn_app (goodIn_of _ (by decide +kernel)) ggX7_refuse_X7_put
theorem dX7_refuse_0 : decode cX7_refuse 0 = .ok (.aload_n 0, 1) := by decide +kernel
theorem dX7_refuse_1 : decode cX7_refuse 1 = .ok (.iload_n 1, 1) := by decide +kernel
theorem dX7_refuse_2 : decode cX7_refuse 2 = .ok (.bipush 6, 2) := by decide +kernel
theorem dX7_refuse_4 : decode cX7_refuse 4 = .ok (.invokevirtual 35, 3) := by decide +kernel
theorem dX7_refuse_7 : decode cX7_refuse 7 = .ok (.istore_n 3, 1) := by decide +kernel
theorem dX7_refuse_8 : decode cX7_refuse 8 = .ok (.aload_n 0, 1) := by decide +kernel
theorem dX7_refuse_9 : decode cX7_refuse 9 = .ok (.getfield 7, 3) := by decide +kernel
theorem dX7_refuse_12 : decode cX7_refuse 12 = .ok (.bipush 52, 2) := by decide +kernel
theorem dX7_refuse_14 : decode cX7_refuse 14 = .ok (.iconst 5, 1) := by decide +kernel
theorem dX7_refuse_15 : decode cX7_refuse 15 = .ok (.aload_n 0, 1) := by decide +kernel
theorem dX7_refuse_16 : decode cX7_refuse 16 = .ok (.iload_n 1, 1) := by decide +kernel
theorem dX7_refuse_17 : decode cX7_refuse 17 = .ok (.iconst 0, 1) := by decide +kernel
theorem dX7_refuse_18 : decode cX7_refuse 18 = .ok (.invokevirtual 35, 3) := by decide +kernel
theorem dX7_refuse_21 : decode cX7_refuse 21 = .ok (.imul, 1) := by decide +kernel
theorem dX7_refuse_22 : decode cX7_refuse 22 = .ok (.iadd, 1) := by decide +kernel
theorem dX7_refuse_23 : decode cX7_refuse 23 = .ok (.iload_n 2, 1) := by decide +kernel
theorem dX7_refuse_24 : decode cX7_refuse 24 = .ok (.iadd, 1) := by decide +kernel
theorem dX7_refuse_25 : decode cX7_refuse 25 = .ok (.iconst 1, 1) := by decide +kernel
theorem dX7_refuse_26 : decode cX7_refuse 26 = .ok (.isub, 1) := by decide +kernel
theorem dX7_refuse_27 : decode cX7_refuse 27 = .ok (.dup2, 1) := by decide +kernel
theorem dX7_refuse_28 : decode cX7_refuse 28 = .ok (.iaload, 1) := by decide +kernel
theorem dX7_refuse_29 : decode cX7_refuse 29 = .ok (.iconst 1, 1) := by decide +kernel
theorem dX7_refuse_30 : decode cX7_refuse 30 = .ok (.iadd, 1) := by decide +kernel
theorem dX7_refuse_31 : decode cX7_refuse 31 = .ok (.iastore, 1) := by decide +kernel
theorem dX7_refuse_32 : decode cX7_refuse 32 = .ok (.aload_n 0, 1) := by decide +kernel
theorem dX7_refuse_33 : decode cX7_refuse 33 = .ok (.iload_n 1, 1) := by decide +kernel
theorem dX7_refuse_34 : decode cX7_refuse 34 = .ok (.bipush 7, 2) := by decide +kernel
theorem dX7_refuse_36 : decode cX7_refuse 36 = .ok (.iload_n 2, 1) := by decide +kernel
theorem dX7_refuse_37 : decode cX7_refuse 37 = .ok (.invokevirtual 45, 3) := by decide +kernel
theorem dX7_refuse_40 : decode cX7_refuse 40 = .ok (.iload_n 3, 1) := by decide +kernel
theorem dX7_refuse_41 : decode cX7_refuse 41 = .ok (.aload_n 0, 1) := by decide +kernel
theorem dX7_refuse_42 : decode cX7_refuse 42 = .ok (.getfield 7, 3) := by decide +kernel
theorem dX7_refuse_45 : decode cX7_refuse 45 = .ok (.iconst 3, 1) := by decide +kernel
theorem dX7_refuse_46 : decode cX7_refuse 46 = .ok (.iaload, 1) := by decide +kernel
theorem dX7_refuse_47 : decode cX7_refuse 47 = .ok (.if_icmp .gt 7, 3) := by decide +kernel
theorem dX7_refuse_50 : decode cX7_refuse 50 = .ok (.iconst 1, 1) := by decide +kernel
theorem dX7_refuse_51 : decode cX7_refuse 51 = .ok (.goto 4, 3) := by decide +kernel
theorem dX7_refuse_54 : decode cX7_refuse 54 = .ok (.iconst 0, 1) := by decide +kernel
theorem dX7_refuse_55 : decode cX7_refuse 55 = .ok (.istore 4, 2) := by decide +kernel
theorem dX7_refuse_57 : decode cX7_refuse 57 = .ok (.aload_n 0, 1) := by decide +kernel
theorem dX7_refuse_58 : decode cX7_refuse 58 = .ok (.iload_n 1, 1) := by decide +kernel
theorem dX7_refuse_59 : decode cX7_refuse 59 = .ok (.iconst 3, 1) := by decide +kernel
theorem dX7_refuse_60 : decode cX7_refuse 60 = .ok (.iload 4, 2) := by decide +kernel
theorem dX7_refuse_62 : decode cX7_refuse 62 = .ok (.ifCond .eq 7, 3) := by decide +kernel
theorem dX7_refuse_65 : decode cX7_refuse 65 = .ok (.iconst 3, 1) := by decide +kernel
theorem dX7_refuse_66 : decode cX7_refuse 66 = .ok (.goto 4, 3) := by decide +kernel
theorem dX7_refuse_69 : decode cX7_refuse 69 = .ok (.iconst 4, 1) := by decide +kernel
theorem dX7_refuse_70 : decode cX7_refuse 70 = .ok (.invokevirtual 45, 3) := by decide +kernel
theorem dX7_refuse_73 : decode cX7_refuse 73 = .ok (.aload_n 0, 1) := by decide +kernel
theorem dX7_refuse_74 : decode cX7_refuse 74 = .ok (.iload_n 1, 1) := by decide +kernel
theorem dX7_refuse_75 : decode cX7_refuse 75 = .ok (.bipush 8, 2) := by decide +kernel
theorem dX7_refuse_77 : decode cX7_refuse 77 = .ok (.iload 4, 2) := by decide +kernel
theorem dX7_refuse_79 : decode cX7_refuse 79 = .ok (.ifCond .eq 24, 3) := by decide +kernel
theorem dX7_refuse_82 : decode cX7_refuse 82 = .ok (.aload_n 0, 1) := by decide +kernel
theorem dX7_refuse_83 : decode cX7_refuse 83 = .ok (.getfield 7, 3) := by decide +kernel
theorem dX7_refuse_86 : decode cX7_refuse 86 = .ok (.bipush 67, 2) := by decide +kernel
theorem dX7_refuse_88 : decode cX7_refuse 88 = .ok (.iaload, 1) := by decide +kernel
theorem dX7_refuse_89 : decode cX7_refuse 89 = .ok (.aload_n 0, 1) := by decide +kernel
theorem dX7_refuse_90 : decode cX7_refuse 90 = .ok (.getfield 7, 3) := by decide +kernel
theorem dX7_refuse_93 : decode cX7_refuse 93 = .ok (.iconst 2, 1) := by decide +kernel
theorem dX7_refuse_94 : decode cX7_refuse 94 = .ok (.iaload, 1) := by decide +kernel
theorem dX7_refuse_95 : decode cX7_refuse 95 = .ok (.iload_n 3, 1) := by decide +kernel
theorem dX7_refuse_96 : decode cX7_refuse 96 = .ok (.iconst 1, 1) := by decide +kernel
theorem dX7_refuse_97 : decode cX7_refuse 97 = .ok (.isub, 1) := by decide +kernel
theorem dX7_refuse_98 : decode cX7_refuse 98 = .ok (.ishl, 1) := by decide +kernel
theorem dX7_refuse_99 : decode cX7_refuse 99 = .ok (.iadd, 1) := by decide +kernel
theorem dX7_refuse_100 : decode cX7_refuse 100 = .ok (.goto 5, 3) := by decide +kernel
theorem dX7_refuse_103 : decode cX7_refuse 103 = .ok (.ldc 30, 2) := by decide +kernel
theorem dX7_refuse_105 : decode cX7_refuse 105 = .ok (.invokevirtual 45, 3) := by decide +kernel
theorem dX7_refuse_108 : decode cX7_refuse 108 = .ok (.return_, 1) := by decide +kernel
set_option maxRecDepth 20000 in
theorem ggX7_admit_X7_of : GoodIn wsX7_admit wsX7_of := goodIn_r _ [7, 1, 12, 13, 14, 15, 16, 17, 18, 19, 20] (by decide +kernel) (by decide +kernel)
set_option maxRecDepth 20000 in
theorem gX7_admit_X7_of : GoodIn wsX7_admit (wsV RX7 35 RX7 yX7_of wsX7_of) := goodIn_app (goodIn_of _ (by decide +kernel)) ggX7_admit_X7_of
set_option maxRecDepth 20000 in
theorem ggX7_admit_X7_put : GoodIn wsX7_admit wsX7_put := goodIn_r _ [11, 1, 12, 13, 14, 15, 16, 17, 18, 19, 20] (by decide +kernel) (by decide +kernel)
set_option maxRecDepth 20000 in
theorem gX7_admit_X7_put : GoodIn wsX7_admit (wsV RX7 45 RX7 yX7_put wsX7_put) := goodIn_app (goodIn_of _ (by decide +kernel)) ggX7_admit_X7_put
theorem dX7_admit_0 : decode cX7_admit 0 = .ok (.aload_n 0, 1) := by decide +kernel
theorem dX7_admit_1 : decode cX7_admit 1 = .ok (.iload_n 1, 1) := by decide +kernel
theorem dX7_admit_2 : decode cX7_admit 2 = .ok (.iconst 0, 1) := by decide +kernel
theorem dX7_admit_3 : decode cX7_admit 3 = .ok (.invokevirtual 35, 3) := by decide +kernel
theorem dX7_admit_6 : decode cX7_admit 6 = .ok (.istore_n 2, 1) := by decide +kernel
theorem dX7_admit_7 : decode cX7_admit 7 = .ok (.aload_n 0, 1) := by decide +kernel
theorem dX7_admit_8 : decode cX7_admit 8 = .ok (.getfield 7, 3) := by decide +kernel
theorem dX7_admit_11 : decode cX7_admit 11 = .ok (.bipush 16, 2) := by decide +kernel
theorem dX7_admit_13 : decode cX7_admit 13 = .ok (.iload_n 2, 1) := by decide +kernel
theorem dX7_admit_14 : decode cX7_admit 14 = .ok (.iadd, 1) := by decide +kernel
theorem dX7_admit_15 : decode cX7_admit 15 = .ok (.dup2, 1) := by decide +kernel
theorem dX7_admit_16 : decode cX7_admit 16 = .ok (.iaload, 1) := by decide +kernel
theorem dX7_admit_17 : decode cX7_admit 17 = .ok (.aload_n 0, 1) := by decide +kernel
theorem dX7_admit_18 : decode cX7_admit 18 = .ok (.iload_n 1, 1) := by decide +kernel
theorem dX7_admit_19 : decode cX7_admit 19 = .ok (.iconst 4, 1) := by decide +kernel
theorem dX7_admit_20 : decode cX7_admit 20 = .ok (.invokevirtual 35, 3) := by decide +kernel
theorem dX7_admit_23 : decode cX7_admit 23 = .ok (.isub, 1) := by decide +kernel
theorem dX7_admit_24 : decode cX7_admit 24 = .ok (.iastore, 1) := by decide +kernel
theorem dX7_admit_25 : decode cX7_admit 25 = .ok (.ldc 30, 2) := by decide +kernel
theorem dX7_admit_27 : decode cX7_admit 27 = .ok (.istore_n 3, 1) := by decide +kernel
theorem dX7_admit_28 : decode cX7_admit 28 = .ok (.iconst 0, 1) := by decide +kernel
theorem dX7_admit_29 : decode cX7_admit 29 = .ok (.istore 4, 2) := by decide +kernel
theorem dX7_admit_31 : decode cX7_admit 31 = .ok (.iload 4, 2) := by decide +kernel
theorem dX7_admit_33 : decode cX7_admit 33 = .ok (.iconst 3, 1) := by decide +kernel
theorem dX7_admit_34 : decode cX7_admit 34 = .ok (.if_icmp .ge 73, 3) := by decide +kernel
theorem dX7_admit_37 : decode cX7_admit 37 = .ok (.iload 4, 2) := by decide +kernel
theorem dX7_admit_39 : decode cX7_admit 39 = .ok (.iload_n 2, 1) := by decide +kernel
theorem dX7_admit_40 : decode cX7_admit 40 = .ok (.if_icmp .eq 20, 3) := by decide +kernel
theorem dX7_admit_43 : decode cX7_admit 43 = .ok (.aload_n 0, 1) := by decide +kernel
theorem dX7_admit_44 : decode cX7_admit 44 = .ok (.getfield 7, 3) := by decide +kernel
theorem dX7_admit_47 : decode cX7_admit 47 = .ok (.bipush 25, 2) := by decide +kernel
theorem dX7_admit_49 : decode cX7_admit 49 = .ok (.iload 4, 2) := by decide +kernel
theorem dX7_admit_51 : decode cX7_admit 51 = .ok (.iadd, 1) := by decide +kernel
theorem dX7_admit_52 : decode cX7_admit 52 = .ok (.iaload, 1) := by decide +kernel
theorem dX7_admit_53 : decode cX7_admit 53 = .ok (.ifCond .le 7, 3) := by decide +kernel
theorem dX7_admit_56 : decode cX7_admit 56 = .ok (.iconst 1, 1) := by decide +kernel
theorem dX7_admit_57 : decode cX7_admit 57 = .ok (.goto 4, 3) := by decide +kernel
theorem dX7_admit_60 : decode cX7_admit 60 = .ok (.iconst 0, 1) := by decide +kernel
theorem dX7_admit_61 : decode cX7_admit 61 = .ok (.istore 5, 2) := by decide +kernel
theorem dX7_admit_63 : decode cX7_admit 63 = .ok (.iload 5, 2) := by decide +kernel
theorem dX7_admit_65 : decode cX7_admit 65 = .ok (.ifCond .eq 34, 3) := by decide +kernel
theorem dX7_admit_68 : decode cX7_admit 68 = .ok (.iload_n 3, 1) := by decide +kernel
theorem dX7_admit_69 : decode cX7_admit 69 = .ok (.ifCond .lt 17, 3) := by decide +kernel
theorem dX7_admit_72 : decode cX7_admit 72 = .ok (.aload_n 0, 1) := by decide +kernel
theorem dX7_admit_73 : decode cX7_admit 73 = .ok (.getfield 7, 3) := by decide +kernel
theorem dX7_admit_76 : decode cX7_admit 76 = .ok (.bipush 19, 2) := by decide +kernel
theorem dX7_admit_78 : decode cX7_admit 78 = .ok (.iload 4, 2) := by decide +kernel
theorem dX7_admit_80 : decode cX7_admit 80 = .ok (.iadd, 1) := by decide +kernel
theorem dX7_admit_81 : decode cX7_admit 81 = .ok (.iaload, 1) := by decide +kernel
theorem dX7_admit_82 : decode cX7_admit 82 = .ok (.iload_n 3, 1) := by decide +kernel
theorem dX7_admit_83 : decode cX7_admit 83 = .ok (.if_icmp .ge 16, 3) := by decide +kernel
theorem dX7_admit_86 : decode cX7_admit 86 = .ok (.aload_n 0, 1) := by decide +kernel
theorem dX7_admit_87 : decode cX7_admit 87 = .ok (.getfield 7, 3) := by decide +kernel
theorem dX7_admit_90 : decode cX7_admit 90 = .ok (.bipush 19, 2) := by decide +kernel
theorem dX7_admit_92 : decode cX7_admit 92 = .ok (.iload 4, 2) := by decide +kernel
theorem dX7_admit_94 : decode cX7_admit 94 = .ok (.iadd, 1) := by decide +kernel
theorem dX7_admit_95 : decode cX7_admit 95 = .ok (.iaload, 1) := by decide +kernel
theorem dX7_admit_96 : decode cX7_admit 96 = .ok (.goto 4, 3) := by decide +kernel
theorem dX7_admit_99 : decode cX7_admit 99 = .ok (.iload_n 3, 1) := by decide +kernel
theorem dX7_admit_100 : decode cX7_admit 100 = .ok (.istore_n 3, 1) := by decide +kernel
theorem dX7_admit_101 : decode cX7_admit 101 = .ok (.iinc 4 1, 3) := by decide +kernel
theorem dX7_admit_104 : decode cX7_admit 104 = .ok (.goto (-73), 3) := by decide +kernel
theorem dX7_admit_107 : decode cX7_admit 107 = .ok (.aload_n 0, 1) := by decide +kernel
theorem dX7_admit_108 : decode cX7_admit 108 = .ok (.getfield 7, 3) := by decide +kernel
theorem dX7_admit_111 : decode cX7_admit 111 = .ok (.bipush 25, 2) := by decide +kernel
theorem dX7_admit_113 : decode cX7_admit 113 = .ok (.iload_n 2, 1) := by decide +kernel
theorem dX7_admit_114 : decode cX7_admit 114 = .ok (.iadd, 1) := by decide +kernel
theorem dX7_admit_115 : decode cX7_admit 115 = .ok (.iaload, 1) := by decide +kernel
theorem dX7_admit_116 : decode cX7_admit 116 = .ok (.ifCond .ne 26, 3) := by decide +kernel
theorem dX7_admit_119 : decode cX7_admit 119 = .ok (.iload_n 3, 1) := by decide +kernel
theorem dX7_admit_120 : decode cX7_admit 120 = .ok (.aload_n 0, 1) := by decide +kernel
theorem dX7_admit_121 : decode cX7_admit 121 = .ok (.getfield 7, 3) := by decide +kernel
theorem dX7_admit_124 : decode cX7_admit 124 = .ok (.bipush 19, 2) := by decide +kernel
theorem dX7_admit_126 : decode cX7_admit 126 = .ok (.iload_n 2, 1) := by decide +kernel
theorem dX7_admit_127 : decode cX7_admit 127 = .ok (.iadd, 1) := by decide +kernel
theorem dX7_admit_128 : decode cX7_admit 128 = .ok (.iaload, 1) := by decide +kernel
theorem dX7_admit_129 : decode cX7_admit 129 = .ok (.if_icmp .le 13, 3) := by decide +kernel
theorem dX7_admit_132 : decode cX7_admit 132 = .ok (.aload_n 0, 1) := by decide +kernel
theorem dX7_admit_133 : decode cX7_admit 133 = .ok (.getfield 7, 3) := by decide +kernel
theorem dX7_admit_136 : decode cX7_admit 136 = .ok (.bipush 19, 2) := by decide +kernel
theorem dX7_admit_138 : decode cX7_admit 138 = .ok (.iload_n 2, 1) := by decide +kernel
theorem dX7_admit_139 : decode cX7_admit 139 = .ok (.iadd, 1) := by decide +kernel
theorem dX7_admit_140 : decode cX7_admit 140 = .ok (.iload_n 3, 1) := by decide +kernel
theorem dX7_admit_141 : decode cX7_admit 141 = .ok (.iastore, 1) := by decide +kernel
theorem dX7_admit_142 : decode cX7_admit 142 = .ok (.aload_n 0, 1) := by decide +kernel
theorem dX7_admit_143 : decode cX7_admit 143 = .ok (.getfield 7, 3) := by decide +kernel
theorem dX7_admit_146 : decode cX7_admit 146 = .ok (.bipush 28, 2) := by decide +kernel
theorem dX7_admit_148 : decode cX7_admit 148 = .ok (.bipush 8, 2) := by decide +kernel
theorem dX7_admit_150 : decode cX7_admit 150 = .ok (.iload_n 2, 1) := by decide +kernel
theorem dX7_admit_151 : decode cX7_admit 151 = .ok (.imul, 1) := by decide +kernel
theorem dX7_admit_152 : decode cX7_admit 152 = .ok (.iadd, 1) := by decide +kernel
theorem dX7_admit_153 : decode cX7_admit 153 = .ok (.aload_n 0, 1) := by decide +kernel
theorem dX7_admit_154 : decode cX7_admit 154 = .ok (.getfield 7, 3) := by decide +kernel
theorem dX7_admit_157 : decode cX7_admit 157 = .ok (.bipush 25, 2) := by decide +kernel
theorem dX7_admit_159 : decode cX7_admit 159 = .ok (.iload_n 2, 1) := by decide +kernel
theorem dX7_admit_160 : decode cX7_admit 160 = .ok (.iadd, 1) := by decide +kernel
theorem dX7_admit_161 : decode cX7_admit 161 = .ok (.iaload, 1) := by decide +kernel
theorem dX7_admit_162 : decode cX7_admit 162 = .ok (.iadd, 1) := by decide +kernel
theorem dX7_admit_163 : decode cX7_admit 163 = .ok (.iload_n 1, 1) := by decide +kernel
theorem dX7_admit_164 : decode cX7_admit 164 = .ok (.iastore, 1) := by decide +kernel
theorem dX7_admit_165 : decode cX7_admit 165 = .ok (.aload_n 0, 1) := by decide +kernel
theorem dX7_admit_166 : decode cX7_admit 166 = .ok (.getfield 7, 3) := by decide +kernel
theorem dX7_admit_169 : decode cX7_admit 169 = .ok (.bipush 25, 2) := by decide +kernel
theorem dX7_admit_171 : decode cX7_admit 171 = .ok (.iload_n 2, 1) := by decide +kernel
theorem dX7_admit_172 : decode cX7_admit 172 = .ok (.iadd, 1) := by decide +kernel
theorem dX7_admit_173 : decode cX7_admit 173 = .ok (.dup2, 1) := by decide +kernel
theorem dX7_admit_174 : decode cX7_admit 174 = .ok (.iaload, 1) := by decide +kernel
theorem dX7_admit_175 : decode cX7_admit 175 = .ok (.iconst 1, 1) := by decide +kernel
theorem dX7_admit_176 : decode cX7_admit 176 = .ok (.iadd, 1) := by decide +kernel
theorem dX7_admit_177 : decode cX7_admit 177 = .ok (.iastore, 1) := by decide +kernel
theorem dX7_admit_178 : decode cX7_admit 178 = .ok (.aload_n 0, 1) := by decide +kernel
theorem dX7_admit_179 : decode cX7_admit 179 = .ok (.iload_n 1, 1) := by decide +kernel
theorem dX7_admit_180 : decode cX7_admit 180 = .ok (.iconst 3, 1) := by decide +kernel
theorem dX7_admit_181 : decode cX7_admit 181 = .ok (.iconst 0, 1) := by decide +kernel
theorem dX7_admit_182 : decode cX7_admit 182 = .ok (.invokevirtual 45, 3) := by decide +kernel
theorem dX7_admit_185 : decode cX7_admit 185 = .ok (.aload_n 0, 1) := by decide +kernel
theorem dX7_admit_186 : decode cX7_admit 186 = .ok (.iload_n 1, 1) := by decide +kernel
theorem dX7_admit_187 : decode cX7_admit 187 = .ok (.bipush 9, 2) := by decide +kernel
