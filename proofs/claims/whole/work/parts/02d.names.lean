theorem dX6_set_12 : decode cX6_set 12 = .ok (.invokestatic 38, 3) := by decide +kernel
theorem dX6_set_15 : decode cX6_set 15 = .ok (.ifCond .ne 6, 3) := by decide +kernel
theorem dX6_set_18 : decode cX6_set 18 = .ok (.ldc 42, 2) := by decide +kernel
theorem dX6_set_20 : decode cX6_set 20 = .ok (.ireturn, 1) := by decide +kernel
theorem dX6_set_21 : decode cX6_set 21 = .ok (.aload_n 0, 1) := by decide +kernel
theorem dX6_set_22 : decode cX6_set 22 = .ok (.getfield 22, 3) := by decide +kernel
theorem dX6_set_25 : decode cX6_set 25 = .ok (.aload_n 0, 1) := by decide +kernel
theorem dX6_set_26 : decode cX6_set 26 = .ok (.getfield 10, 3) := by decide +kernel
theorem dX6_set_29 : decode cX6_set 29 = .ok (.invokevirtual 43, 3) := by decide +kernel
theorem dX6_set_32 : decode cX6_set 32 = .ok (.aload_n 0, 1) := by decide +kernel
theorem dX6_set_33 : decode cX6_set 33 = .ok (.getfield 10, 3) := by decide +kernel
theorem dX6_set_36 : decode cX6_set 36 = .ok (.getfield 47, 3) := by decide +kernel
theorem dX6_set_39 : decode cX6_set 39 = .ok (.iload_n 1, 1) := by decide +kernel
theorem dX6_set_40 : decode cX6_set 40 = .ok (.invokevirtual 51, 3) := by decide +kernel
theorem dX6_set_43 : decode cX6_set 43 = .ok (.istore_n 3, 1) := by decide +kernel
theorem dX6_set_44 : decode cX6_set 44 = .ok (.aload_n 0, 1) := by decide +kernel
theorem dX6_set_45 : decode cX6_set 45 = .ok (.getfield 10, 3) := by decide +kernel
theorem dX6_set_48 : decode cX6_set 48 = .ok (.getfield 47, 3) := by decide +kernel
theorem dX6_set_51 : decode cX6_set 51 = .ok (.iload_n 1, 1) := by decide +kernel
theorem dX6_set_52 : decode cX6_set 52 = .ok (.iload_n 2, 1) := by decide +kernel
theorem dX6_set_53 : decode cX6_set 53 = .ok (.invokevirtual 57, 3) := by decide +kernel
theorem dX6_set_56 : decode cX6_set 56 = .ok (.iload_n 3, 1) := by decide +kernel
theorem dX6_set_57 : decode cX6_set 57 = .ok (.ireturn, 1) := by decide +kernel
set_option maxRecDepth 20000 in
theorem ggX6_setClass_X6_isKind : GoodIn wsX6_setClass wsX6_isKind := goodIn_r _ [9] (by decide +kernel) (by decide +kernel)
set_option maxRecDepth 20000 in
theorem gX6_setClass_X6_isKind : GoodIn wsX6_setClass (va_wsS RX6 61 yX6_isKind wsX6_isKind) := goodIn_app (goodIn_of _ (by decide +kernel)) ggX6_setClass_X6_isKind
set_option maxRecDepth 20000 in
theorem ggX6_setClass_X6_isSetting : GoodIn wsX6_setClass wsX6_isSetting := goodIn_r _ [12] (by decide +kernel) (by decide +kernel)
set_option maxRecDepth 20000 in
theorem gX6_setClass_X6_isSetting : GoodIn wsX6_setClass (va_wsS RX6 33 yX6_isSetting wsX6_isSetting) := goodIn_app (goodIn_of _ (by decide +kernel)) ggX6_setClass_X6_isSetting
set_option maxRecDepth 20000 in
theorem ggX6_setClass_X6_isClassValue : GoodIn wsX6_setClass wsX6_isClassValue := goodIn_r _ [15, 16, 17, 8, 18] (by decide +kernel) (by decide +kernel)
set_option maxRecDepth 20000 in
theorem gX6_setClass_X6_isClassValue : GoodIn wsX6_setClass (va_wsS RX6 64 yX6_isClassValue wsX6_isClassValue) := goodIn_app (goodIn_of _ (by decide +kernel)) ggX6_setClass_X6_isClassValue
set_option maxRecDepth 20000 in
theorem ggX6_setClass_X0_keep : GoodIn wsX6_setClass wsX0_keep := goodIn_r _ [23, 24, 25, 26, 27, 28, 29, 30, 31, 32, 33, 34, 35, 36, 37, 38, 39, 40, 41, 42, 43, 44, 45, 46, 47, 48, 49, 50, 51, 52, 53, 54, 55, 56, 57, 58, 59, 60, 61, 62, 63, 64, 65, 66, 67, 68, 69, 70, 71, 72, 73, 74, 75, 76, 77, 78, 79, 80, 81, 82, 83, 84, 85, 86, 110, 111, 112, 113, 114, 115, 116, 117, 118, 119, 120, 121, 122, 123, 124, 125, 126, 103, 104, 105, 106, 107, 108, 109, 127, 128, 129, 130, 131, 132, 133, 134, 135, 136, 137] (by decide +kernel) (by decide +kernel)
set_option maxRecDepth 20000 in
theorem gX6_setClass_X0_keep : GoodIn wsX6_setClass (wsV RX6 43 RX0 yX0_keep wsX0_keep) := goodIn_app (goodIn_of _ (by decide +kernel)) ggX6_setClass_X0_keep
set_option maxRecDepth 20000 in
theorem ggX6_setClass_X4_lane : GoodIn wsX6_setClass wsX4_lane := goodIn_r _ [90, 40, 41, 42, 115, 116, 117, 118, 119, 120, 121, 122, 123, 124, 125] (by decide +kernel) (by decide +kernel)
set_option maxRecDepth 20000 in
theorem gX6_setClass_X4_lane : GoodIn wsX6_setClass (wsV RX6 67 RX4 yX4_lane wsX4_lane) := goodIn_app (goodIn_of _ (by decide +kernel)) ggX6_setClass_X4_lane
set_option maxRecDepth 20000 in
theorem ggX6_setClass_X3_at : GoodIn wsX6_setClass wsX3_at := goodIn_r _ [94, 53, 126] (by decide +kernel) (by decide +kernel)
set_option maxRecDepth 20000 in
theorem gX6_setClass_X3_at : GoodIn wsX6_setClass (wsV RX6 51 RX3 yX3_at wsX3_at) := goodIn_app (goodIn_of _ (by decide +kernel)) ggX6_setClass_X3_at
set_option maxRecDepth 20000 in
theorem ggX6_setClass_X3_put : GoodIn wsX6_setClass wsX3_put := goodIn_r _ [98, 53, 126] (by decide +kernel) (by decide +kernel)
set_option maxRecDepth 20000 in
theorem gX6_setClass_X3_put : GoodIn wsX6_setClass (wsV RX6 57 RX3 yX3_put wsX3_put) := goodIn_app (goodIn_of _ (by decide +kernel)) ggX6_setClass_X3_put
theorem dX6_setClass_0 : decode cX6_setClass 0 = .ok (.iload_n 1, 1) := by decide +kernel
theorem dX6_setClass_1 : decode cX6_setClass 1 = .ok (.invokestatic 61, 3) := by decide +kernel
theorem dX6_setClass_4 : decode cX6_setClass 4 = .ok (.ifCond .eq 10, 3) := by decide +kernel
theorem dX6_setClass_7 : decode cX6_setClass 7 = .ok (.iload_n 2, 1) := by decide +kernel
theorem dX6_setClass_8 : decode cX6_setClass 8 = .ok (.invokestatic 33, 3) := by decide +kernel
theorem dX6_setClass_11 : decode cX6_setClass 11 = .ok (.ifCond .ne 6, 3) := by decide +kernel
theorem dX6_setClass_14 : decode cX6_setClass 14 = .ok (.ldc 37, 2) := by decide +kernel
theorem dX6_setClass_16 : decode cX6_setClass 16 = .ok (.ireturn, 1) := by decide +kernel
theorem dX6_setClass_17 : decode cX6_setClass 17 = .ok (.iload_n 2, 1) := by decide +kernel
theorem dX6_setClass_18 : decode cX6_setClass 18 = .ok (.iload_n 3, 1) := by decide +kernel
theorem dX6_setClass_19 : decode cX6_setClass 19 = .ok (.invokestatic 64, 3) := by decide +kernel
theorem dX6_setClass_22 : decode cX6_setClass 22 = .ok (.ifCond .ne 6, 3) := by decide +kernel
theorem dX6_setClass_25 : decode cX6_setClass 25 = .ok (.ldc 42, 2) := by decide +kernel
theorem dX6_setClass_27 : decode cX6_setClass 27 = .ok (.ireturn, 1) := by decide +kernel
theorem dX6_setClass_28 : decode cX6_setClass 28 = .ok (.aload_n 0, 1) := by decide +kernel
theorem dX6_setClass_29 : decode cX6_setClass 29 = .ok (.getfield 22, 3) := by decide +kernel
theorem dX6_setClass_32 : decode cX6_setClass 32 = .ok (.aload_n 0, 1) := by decide +kernel
theorem dX6_setClass_33 : decode cX6_setClass 33 = .ok (.getfield 10, 3) := by decide +kernel
theorem dX6_setClass_36 : decode cX6_setClass 36 = .ok (.invokevirtual 43, 3) := by decide +kernel
theorem dX6_setClass_39 : decode cX6_setClass 39 = .ok (.aload_n 0, 1) := by decide +kernel
theorem dX6_setClass_40 : decode cX6_setClass 40 = .ok (.getfield 10, 3) := by decide +kernel
theorem dX6_setClass_43 : decode cX6_setClass 43 = .ok (.iload_n 1, 1) := by decide +kernel
theorem dX6_setClass_44 : decode cX6_setClass 44 = .ok (.invokevirtual 67, 3) := by decide +kernel
theorem dX6_setClass_47 : decode cX6_setClass 47 = .ok (.astore 4, 2) := by decide +kernel
theorem dX6_setClass_49 : decode cX6_setClass 49 = .ok (.aload 4, 2) := by decide +kernel
theorem dX6_setClass_51 : decode cX6_setClass 51 = .ok (.getfield 71, 3) := by decide +kernel
theorem dX6_setClass_54 : decode cX6_setClass 54 = .ok (.iload_n 2, 1) := by decide +kernel
theorem dX6_setClass_55 : decode cX6_setClass 55 = .ok (.invokevirtual 51, 3) := by decide +kernel
theorem dX6_setClass_58 : decode cX6_setClass 58 = .ok (.istore 5, 2) := by decide +kernel
theorem dX6_setClass_60 : decode cX6_setClass 60 = .ok (.aload 4, 2) := by decide +kernel
theorem dX6_setClass_62 : decode cX6_setClass 62 = .ok (.getfield 71, 3) := by decide +kernel
theorem dX6_setClass_65 : decode cX6_setClass 65 = .ok (.iload_n 2, 1) := by decide +kernel
theorem dX6_setClass_66 : decode cX6_setClass 66 = .ok (.iload_n 3, 1) := by decide +kernel
theorem dX6_setClass_67 : decode cX6_setClass 67 = .ok (.invokevirtual 57, 3) := by decide +kernel
theorem dX6_setClass_70 : decode cX6_setClass 70 = .ok (.iload 5, 2) := by decide +kernel
theorem dX6_setClass_72 : decode cX6_setClass 72 = .ok (.ireturn, 1) := by decide +kernel
set_option maxRecDepth 20000 in
theorem ggX6_offer_X4_errorOfOffer : GoodIn wsX6_offer wsX4_errorOfOffer := goodIn_r _ [7, 8, 9, 10, 11, 12, 13, 14, 15, 16, 17, 18, 163, 164, 165, 166, 167, 168, 169, 170, 171, 172, 173] (by decide +kernel) (by decide +kernel)
set_option maxRecDepth 20000 in
theorem gX6_offer_X4_errorOfOffer : GoodIn wsX6_offer (wsV RX6 74 RX4 yX4_errorOfOffer wsX4_errorOfOffer) := goodIn_app (goodIn_of _ (by decide +kernel)) ggX6_offer_X4_errorOfOffer
set_option maxRecDepth 20000 in
theorem ggX6_offer_X0_keep : GoodIn wsX6_offer wsX0_keep := goodIn_r _ [23, 24, 25, 26, 27, 28, 29, 30, 31, 32, 33, 34, 35, 6, 36, 37, 38, 39, 40, 41, 10, 42, 43, 44, 45, 46, 47, 48, 49, 50, 51, 52, 53, 54, 55, 56, 57, 58, 59, 60, 61, 62, 63, 64, 65, 66, 67, 68, 69, 70, 71, 72, 73, 74, 75, 76, 77, 78, 79, 80, 81, 82, 83, 84, 174, 175, 176, 177, 178, 163, 164, 165, 166, 167, 168, 169, 170, 171, 172, 173, 179, 180, 181, 182, 183, 184, 185, 186, 187, 188, 189, 190, 191, 192, 193, 194, 195, 196, 197] (by decide +kernel) (by decide +kernel)
set_option maxRecDepth 20000 in
theorem gX6_offer_X0_keep : GoodIn wsX6_offer (wsV RX6 43 RX0 yX0_keep wsX0_keep) := goodIn_app (goodIn_of _ (by decide +kernel)) ggX6_offer_X0_keep
set_option maxRecDepth 20000 in
theorem ggX6_offer_X4_offerNew : GoodIn wsX6_offer wsX4_offerNew := goodIn_r _ [88, 10, 69, 11, 42, 89, 90, 91, 73, 92, 75, 76, 77, 78, 79, 80, 81, 82, 83, 84, 93, 94, 95, 6, 96, 97, 98, 99, 100, 101, 102, 103, 104, 38, 105, 106, 31, 107, 108, 109, 110, 49, 111, 51, 112, 113, 114, 115, 39, 40, 41, 116, 117, 118, 119, 120, 121, 37, 122, 123, 124, 125, 126, 127, 128, 65, 66, 67, 68, 129, 13, 130, 131, 132, 133, 134, 135, 136, 44, 137, 138, 139, 140, 141, 142, 143, 144, 145, 55, 146, 60, 59, 147, 148, 149, 150, 151, 152, 153, 154, 155, 156, 157, 43, 158, 163, 164, 165, 166, 167, 168, 169, 170, 171, 172, 173, 187, 188, 189, 190, 191, 192, 193, 194, 195, 196, 197, 179, 180, 181, 182, 183, 184, 185, 186] (by decide +kernel) (by decide +kernel)
set_option maxRecDepth 20000 in
theorem gX6_offer_X4_offerNew : GoodIn wsX6_offer (wsV RX6 78 RX4 yX4_offerNew wsX4_offerNew) := goodIn_app (goodIn_of _ (by decide +kernel)) ggX6_offer_X4_offerNew
theorem dX6_offer_0 : decode cX6_offer 0 = .ok (.aload_n 0, 1) := by decide +kernel
theorem dX6_offer_1 : decode cX6_offer 1 = .ok (.getfield 10, 3) := by decide +kernel
theorem dX6_offer_4 : decode cX6_offer 4 = .ok (.iload_n 1, 1) := by decide +kernel
theorem dX6_offer_5 : decode cX6_offer 5 = .ok (.iload_n 2, 1) := by decide +kernel
theorem dX6_offer_6 : decode cX6_offer 6 = .ok (.iload_n 3, 1) := by decide +kernel
theorem dX6_offer_7 : decode cX6_offer 7 = .ok (.invokevirtual 74, 3) := by decide +kernel
theorem dX6_offer_10 : decode cX6_offer 10 = .ok (.istore 4, 2) := by decide +kernel
theorem dX6_offer_12 : decode cX6_offer 12 = .ok (.iload 4, 2) := by decide +kernel
theorem dX6_offer_14 : decode cX6_offer 14 = .ok (.ifCond .eq 6, 3) := by decide +kernel
theorem dX6_offer_17 : decode cX6_offer 17 = .ok (.iload 4, 2) := by decide +kernel
theorem dX6_offer_19 : decode cX6_offer 19 = .ok (.ireturn, 1) := by decide +kernel
theorem dX6_offer_20 : decode cX6_offer 20 = .ok (.aload_n 0, 1) := by decide +kernel
theorem dX6_offer_21 : decode cX6_offer 21 = .ok (.getfield 22, 3) := by decide +kernel
theorem dX6_offer_24 : decode cX6_offer 24 = .ok (.aload_n 0, 1) := by decide +kernel
theorem dX6_offer_25 : decode cX6_offer 25 = .ok (.getfield 10, 3) := by decide +kernel
theorem dX6_offer_28 : decode cX6_offer 28 = .ok (.invokevirtual 43, 3) := by decide +kernel
theorem dX6_offer_31 : decode cX6_offer 31 = .ok (.aload_n 0, 1) := by decide +kernel
theorem dX6_offer_32 : decode cX6_offer 32 = .ok (.getfield 10, 3) := by decide +kernel
theorem dX6_offer_35 : decode cX6_offer 35 = .ok (.iload_n 1, 1) := by decide +kernel
theorem dX6_offer_36 : decode cX6_offer 36 = .ok (.iload_n 2, 1) := by decide +kernel
theorem dX6_offer_37 : decode cX6_offer 37 = .ok (.iload_n 3, 1) := by decide +kernel
theorem dX6_offer_38 : decode cX6_offer 38 = .ok (.invokevirtual 78, 3) := by decide +kernel
theorem dX6_offer_41 : decode cX6_offer 41 = .ok (.ireturn, 1) := by decide +kernel
set_option maxRecDepth 20000 in
theorem ggX6_advance_X4_errorOfTicks : GoodIn wsX6_advance wsX4_errorOfTicks := goodIn_r _ [7, 8, 9, 10, 11, 12, 13, 190, 191, 192, 193, 194, 195, 196, 197, 198, 199, 200] (by decide +kernel) (by decide +kernel)
set_option maxRecDepth 20000 in
theorem gX6_advance_X4_errorOfTicks : GoodIn wsX6_advance (wsV RX6 81 RX4 yX4_errorOfTicks wsX4_errorOfTicks) := goodIn_app (goodIn_of _ (by decide +kernel)) ggX6_advance_X4_errorOfTicks
set_option maxRecDepth 20000 in
theorem ggX6_advance_X0_keep : GoodIn wsX6_advance wsX0_keep := goodIn_r _ [18, 19, 20, 21, 22, 23, 24, 25, 26, 27, 28, 29, 30, 6, 31, 32, 33, 34, 35, 36, 37, 38, 39, 9, 40, 41, 42, 43, 44, 45, 46, 47, 48, 49, 50, 51, 52, 53, 54, 55, 56, 57, 58, 59, 60, 61, 62, 63, 64, 65, 66, 67, 68, 69, 70, 71, 72, 73, 74, 75, 76, 77, 78, 79, 201, 202, 203, 204, 205, 190, 191, 192, 193, 194, 195, 196, 197, 198, 199, 200, 206, 207, 208, 209, 210, 211, 212, 213, 214, 215, 216, 217, 218, 219, 220, 221, 222, 223, 224] (by decide +kernel) (by decide +kernel)
set_option maxRecDepth 20000 in
theorem gX6_advance_X0_keep : GoodIn wsX6_advance (wsV RX6 43 RX0 yX0_keep wsX0_keep) := goodIn_app (goodIn_of _ (by decide +kernel)) ggX6_advance_X0_keep
set_option maxRecDepth 20000 in
theorem ggX6_advance_X4_letPass : GoodIn wsX6_advance wsX4_letPass := goodIn_r _ [83, 84, 85, 86, 6, 87, 88, 37, 89, 90, 9, 32, 91, 92, 93, 94, 34, 35, 36, 95, 96, 97, 44, 98, 46, 99, 100, 101, 50, 102, 52, 56, 103, 25, 26, 27, 104, 60, 61, 62, 63, 64, 105, 106, 107, 108, 109, 110, 111, 112, 113, 114, 115, 116, 33, 117, 118, 119, 120, 121, 122, 123, 124, 125, 126, 127, 128, 129, 130, 131, 132, 12, 133, 134, 135, 136, 137, 138, 139, 140, 141, 142, 143, 144, 145, 146, 147, 148, 55, 54, 149, 150, 151, 152, 153, 154, 155, 156, 157, 158, 38, 39, 159, 160, 161, 162, 163, 164, 165, 166, 167, 168, 169, 170, 171, 172, 173, 174, 175, 40, 176, 177, 178, 179, 180, 181, 182, 183, 184, 185, 207, 208, 209, 210, 211, 212, 213, 190, 191, 192, 193, 194, 195, 196, 197, 198, 199, 200, 214, 215, 216, 217, 218, 219, 220, 221, 222, 223, 224, 206] (by decide +kernel) (by decide +kernel)
set_option maxRecDepth 20000 in
theorem gX6_advance_X4_letPass : GoodIn wsX6_advance (wsV RX6 84 RX4 yX4_letPass wsX4_letPass) := goodIn_app (goodIn_of _ (by decide +kernel)) ggX6_advance_X4_letPass
theorem dX6_advance_0 : decode cX6_advance 0 = .ok (.aload_n 0, 1) := by decide +kernel
theorem dX6_advance_1 : decode cX6_advance 1 = .ok (.getfield 10, 3) := by decide +kernel
theorem dX6_advance_4 : decode cX6_advance 4 = .ok (.iload_n 1, 1) := by decide +kernel
theorem dX6_advance_5 : decode cX6_advance 5 = .ok (.invokevirtual 81, 3) := by decide +kernel
theorem dX6_advance_8 : decode cX6_advance 8 = .ok (.istore_n 2, 1) := by decide +kernel
theorem dX6_advance_9 : decode cX6_advance 9 = .ok (.iload_n 2, 1) := by decide +kernel
theorem dX6_advance_10 : decode cX6_advance 10 = .ok (.ifCond .eq 5, 3) := by decide +kernel
theorem dX6_advance_13 : decode cX6_advance 13 = .ok (.iload_n 2, 1) := by decide +kernel
theorem dX6_advance_14 : decode cX6_advance 14 = .ok (.ireturn, 1) := by decide +kernel
theorem dX6_advance_15 : decode cX6_advance 15 = .ok (.aload_n 0, 1) := by decide +kernel
theorem dX6_advance_16 : decode cX6_advance 16 = .ok (.getfield 22, 3) := by decide +kernel
theorem dX6_advance_19 : decode cX6_advance 19 = .ok (.aload_n 0, 1) := by decide +kernel
theorem dX6_advance_20 : decode cX6_advance 20 = .ok (.getfield 10, 3) := by decide +kernel
theorem dX6_advance_23 : decode cX6_advance 23 = .ok (.invokevirtual 43, 3) := by decide +kernel
theorem dX6_advance_26 : decode cX6_advance 26 = .ok (.aload_n 0, 1) := by decide +kernel
theorem dX6_advance_27 : decode cX6_advance 27 = .ok (.getfield 10, 3) := by decide +kernel
theorem dX6_advance_30 : decode cX6_advance 30 = .ok (.iload_n 1, 1) := by decide +kernel
theorem dX6_advance_31 : decode cX6_advance 31 = .ok (.invokevirtual 84, 3) := by decide +kernel
theorem dX6_advance_34 : decode cX6_advance 34 = .ok (.ireturn, 1) := by decide +kernel
set_option maxRecDepth 20000 in
theorem ggX6_append_X5_add : GoodIn wsX6_append wsX5_add := goodIn_r _ [9, 10, 11, 12, 13, 14, 15, 16, 17, 22, 23, 24] (by decide +kernel) (by decide +kernel)
set_option maxRecDepth 20000 in
theorem gX6_append_X5_add : GoodIn wsX6_append (wsV RX6 92 RX5 yX5_add wsX5_add) := goodIn_app (goodIn_of _ (by decide +kernel)) ggX6_append_X5_add
theorem dX6_append_0 : decode cX6_append 0 = .ok (.iload_n 1, 1) := by decide +kernel
theorem dX6_append_1 : decode cX6_append 1 = .ok (.bipush 32, 2) := by decide +kernel
theorem dX6_append_3 : decode cX6_append 3 = .ok (.if_icmp .lt 9, 3) := by decide +kernel
theorem dX6_append_6 : decode cX6_append 6 = .ok (.iload_n 1, 1) := by decide +kernel
theorem dX6_append_7 : decode cX6_append 7 = .ok (.bipush 126, 2) := by decide +kernel
theorem dX6_append_9 : decode cX6_append 9 = .ok (.if_icmp .le 6, 3) := by decide +kernel
theorem dX6_append_12 : decode cX6_append 12 = .ok (.ldc 42, 2) := by decide +kernel
theorem dX6_append_14 : decode cX6_append 14 = .ok (.ireturn, 1) := by decide +kernel
theorem dX6_append_15 : decode cX6_append 15 = .ok (.aload_n 0, 1) := by decide +kernel
theorem dX6_append_16 : decode cX6_append 16 = .ok (.getfield 29, 3) := by decide +kernel
theorem dX6_append_19 : decode cX6_append 19 = .ok (.getfield 87, 3) := by decide +kernel
theorem dX6_append_22 : decode cX6_append 22 = .ok (.bipush 80, 2) := by decide +kernel
theorem dX6_append_24 : decode cX6_append 24 = .ok (.if_icmp .lt 6, 3) := by decide +kernel
theorem dX6_append_27 : decode cX6_append 27 = .ok (.ldc 91, 2) := by decide +kernel
theorem dX6_append_29 : decode cX6_append 29 = .ok (.ireturn, 1) := by decide +kernel
theorem dX6_append_30 : decode cX6_append 30 = .ok (.aload_n 0, 1) := by decide +kernel
theorem dX6_append_31 : decode cX6_append 31 = .ok (.getfield 29, 3) := by decide +kernel
theorem dX6_append_34 : decode cX6_append 34 = .ok (.iload_n 1, 1) := by decide +kernel
theorem dX6_append_35 : decode cX6_append 35 = .ok (.invokevirtual 92, 3) := by decide +kernel
theorem dX6_append_38 : decode cX6_append 38 = .ok (.aload_n 0, 1) := by decide +kernel
theorem dX6_append_39 : decode cX6_append 39 = .ok (.getfield 29, 3) := by decide +kernel
theorem dX6_append_42 : decode cX6_append 42 = .ok (.getfield 87, 3) := by decide +kernel
theorem dX6_append_45 : decode cX6_append 45 = .ok (.ireturn, 1) := by decide +kernel
theorem dX6_clearText_0 : decode cX6_clearText 0 = .ok (.aload_n 0, 1) := by decide +kernel
theorem dX6_clearText_1 : decode cX6_clearText 1 = .ok (.getfield 29, 3) := by decide +kernel
theorem dX6_clearText_4 : decode cX6_clearText 4 = .ok (.getfield 87, 3) := by decide +kernel
theorem dX6_clearText_7 : decode cX6_clearText 7 = .ok (.istore_n 1, 1) := by decide +kernel
theorem dX6_clearText_8 : decode cX6_clearText 8 = .ok (.aload_n 0, 1) := by decide +kernel
theorem dX6_clearText_9 : decode cX6_clearText 9 = .ok (.getfield 29, 3) := by decide +kernel
theorem dX6_clearText_12 : decode cX6_clearText 12 = .ok (.iconst 0, 1) := by decide +kernel
theorem dX6_clearText_13 : decode cX6_clearText 13 = .ok (.putfield 87, 3) := by decide +kernel
theorem dX6_clearText_16 : decode cX6_clearText 16 = .ok (.iload_n 1, 1) := by decide +kernel
theorem dX6_clearText_17 : decode cX6_clearText 17 = .ok (.ireturn, 1) := by decide +kernel
set_option maxRecDepth 20000 in
theorem ggX6_fault_X5_firstFault : GoodIn wsX6_fault wsX5_firstFault := goodIn_r _ [6, 7, 8, 9, 10, 11, 12, 13, 14, 15, 16, 17, 5, 18, 19, 20, 21, 22, 23, 24, 25, 26, 27, 32, 33, 34] (by decide +kernel) (by decide +kernel)
set_option maxRecDepth 20000 in
theorem gX6_fault_X5_firstFault : GoodIn wsX6_fault (wsV RX6 96 RX5 yX5_firstFault wsX5_firstFault) := goodIn_app (goodIn_of _ (by decide +kernel)) ggX6_fault_X5_firstFault
theorem dX6_fault_0 : decode cX6_fault 0 = .ok (.aload_n 0, 1) := by decide +kernel
theorem dX6_fault_1 : decode cX6_fault 1 = .ok (.getfield 29, 3) := by decide +kernel
theorem dX6_fault_4 : decode cX6_fault 4 = .ok (.invokevirtual 96, 3) := by decide +kernel
theorem dX6_fault_7 : decode cX6_fault 7 = .ok (.ireturn, 1) := by decide +kernel
set_option maxRecDepth 20000 in
theorem ggX6_run_X5_firstFault : GoodIn wsX6_run wsX5_firstFault := goodIn_r _ [11, 12, 13, 14, 15, 16, 17, 18, 19, 20, 21, 22, 10, 23, 24, 25, 26, 27, 28, 29, 30, 31, 32, 243, 244, 245] (by decide +kernel) (by decide +kernel)
set_option maxRecDepth 20000 in
theorem gX6_run_X5_firstFault : GoodIn wsX6_run (wsV RX6 96 RX5 yX5_firstFault wsX5_firstFault) := goodIn_app (goodIn_of _ (by decide +kernel)) ggX6_run_X5_firstFault
set_option maxRecDepth 20000 in
theorem ggX6_run_X0_keep : GoodIn wsX6_run wsX0_keep := goodIn_r _ [37, 38, 39, 40, 41, 42, 43, 44, 45, 46, 47, 48, 49, 50, 51, 52, 53, 54, 55, 56, 57, 58, 59, 60, 61, 62, 63, 64, 18, 65, 20, 66, 67, 68, 69, 70, 71, 72, 73, 74, 75, 76, 77, 78, 79, 80, 81, 82, 83, 84, 85, 86, 87, 88, 89, 90, 91, 92, 93, 94, 95, 96, 97, 98, 246, 247, 248, 249, 250, 251, 252, 253, 254, 255, 256, 257, 258, 259, 260, 261, 245, 262, 263, 264, 265, 266, 267, 268, 269, 270, 271, 272, 273, 274, 275, 276, 277, 278, 279] (by decide +kernel) (by decide +kernel)
set_option maxRecDepth 20000 in
theorem gX6_run_X0_keep : GoodIn wsX6_run (wsV RX6 43 RX0 yX0_keep wsX0_keep) := goodIn_app (goodIn_of _ (by decide +kernel)) ggX6_run_X0_keep
set_option maxRecDepth 20000 in
theorem ggX6_run_X5_startsStep : GoodIn wsX6_run wsX5_startsStep := goodIn_r _ [102, 13, 15, 16, 17, 18, 19, 20, 243, 244, 245] (by decide +kernel) (by decide +kernel)
set_option maxRecDepth 20000 in
theorem gX6_run_X5_startsStep : GoodIn wsX6_run (wsV RX6 102 RX5 yX5_startsStep wsX5_startsStep) := goodIn_app (goodIn_of _ (by decide +kernel)) ggX6_run_X5_startsStep
set_option maxRecDepth 20000 in
theorem ggX6_run_X6_takeStep : GoodIn wsX6_run wsX6_takeStep := goodIn_r _ [106, 1, 107, 5, 108, 16, 17, 18, 19, 20, 109, 110, 111, 10, 112, 13, 12, 15, 24, 25, 26, 113, 114, 115, 50, 116, 117, 60, 118, 119, 120, 121, 122, 123, 124, 125, 126, 127, 57, 128, 129, 52, 130, 131, 132, 133, 54, 55, 56, 134, 135, 136, 137, 69, 138, 71, 75, 139, 44, 45, 46, 140, 79, 80, 81, 82, 83, 141, 142, 143, 144, 145, 146, 147, 148, 149, 150, 151, 152, 53, 153, 154, 155, 156, 157, 158, 159, 160, 161, 162, 163, 164, 165, 166, 167, 168, 169, 170, 171, 172, 173, 174, 175, 176, 177, 178, 179, 180, 181, 182, 183, 184, 74, 73, 185, 186, 187, 188, 189, 190, 191, 192, 193, 194, 58, 59, 195, 196, 197, 198, 199, 200, 201, 202, 203, 204, 205, 206, 207, 208, 209, 210, 211, 61, 212, 213, 214, 215, 216, 217, 218, 219, 220, 221, 222, 223, 224, 225, 226, 227, 228, 229, 230, 231, 232, 233, 234, 235, 236, 237, 87, 238, 89, 90, 91, 92, 93, 94, 95, 96, 97, 98, 239, 240, 241, 242, 243, 244, 245, 251, 252, 253, 254, 255, 256, 257, 258, 259, 260, 261, 262, 263, 264, 265, 266, 267, 268, 269, 270, 271, 272, 273, 274, 275, 276, 277, 278, 279] (by decide +kernel) (by decide +kernel)
set_option maxRecDepth 20000 in
theorem gX6_run_X6_takeStep : GoodIn wsX6_run (wsV RX6 105 RX6 yX6_takeStep wsX6_takeStep) := goodIn_app (goodIn_of _ (by decide +kernel)) ggX6_run_X6_takeStep
theorem dX6_run_0 : decode cX6_run 0 = .ok (.aload_n 0, 1) := by decide +kernel
theorem dX6_run_1 : decode cX6_run 1 = .ok (.getfield 29, 3) := by decide +kernel
theorem dX6_run_4 : decode cX6_run 4 = .ok (.invokevirtual 96, 3) := by decide +kernel
theorem dX6_run_7 : decode cX6_run 7 = .ok (.ldc 100, 2) := by decide +kernel
theorem dX6_run_9 : decode cX6_run 9 = .ok (.if_icmp .eq 6, 3) := by decide +kernel
theorem dX6_run_12 : decode cX6_run 12 = .ok (.ldc 101, 2) := by decide +kernel
theorem dX6_run_14 : decode cX6_run 14 = .ok (.ireturn, 1) := by decide +kernel
theorem dX6_run_15 : decode cX6_run 15 = .ok (.aload_n 0, 1) := by decide +kernel
theorem dX6_run_16 : decode cX6_run 16 = .ok (.getfield 22, 3) := by decide +kernel
theorem dX6_run_19 : decode cX6_run 19 = .ok (.aload_n 0, 1) := by decide +kernel
theorem dX6_run_20 : decode cX6_run 20 = .ok (.getfield 10, 3) := by decide +kernel
theorem dX6_run_23 : decode cX6_run 23 = .ok (.invokevirtual 43, 3) := by decide +kernel
theorem dX6_run_26 : decode cX6_run 26 = .ok (.iconst 0, 1) := by decide +kernel
theorem dX6_run_27 : decode cX6_run 27 = .ok (.istore_n 1, 1) := by decide +kernel
theorem dX6_run_28 : decode cX6_run 28 = .ok (.iconst 0, 1) := by decide +kernel
theorem dX6_run_29 : decode cX6_run 29 = .ok (.istore_n 2, 1) := by decide +kernel
theorem dX6_run_30 : decode cX6_run 30 = .ok (.iload_n 2, 1) := by decide +kernel
theorem dX6_run_31 : decode cX6_run 31 = .ok (.aload_n 0, 1) := by decide +kernel
theorem dX6_run_32 : decode cX6_run 32 = .ok (.getfield 29, 3) := by decide +kernel
theorem dX6_run_35 : decode cX6_run 35 = .ok (.getfield 87, 3) := by decide +kernel
theorem dX6_run_38 : decode cX6_run 38 = .ok (.if_icmp .ge 33, 3) := by decide +kernel
theorem dX6_run_41 : decode cX6_run 41 = .ok (.aload_n 0, 1) := by decide +kernel
theorem dX6_run_42 : decode cX6_run 42 = .ok (.getfield 29, 3) := by decide +kernel
theorem dX6_run_45 : decode cX6_run 45 = .ok (.iload_n 2, 1) := by decide +kernel
theorem dX6_run_46 : decode cX6_run 46 = .ok (.invokevirtual 102, 3) := by decide +kernel
theorem dX6_run_49 : decode cX6_run 49 = .ok (.ifCond .eq 16, 3) := by decide +kernel
theorem dX6_run_52 : decode cX6_run 52 = .ok (.aload_n 0, 1) := by decide +kernel
theorem dX6_run_53 : decode cX6_run 53 = .ok (.iload_n 2, 1) := by decide +kernel
theorem dX6_run_54 : decode cX6_run 54 = .ok (.invokevirtual 105, 3) := by decide +kernel
theorem dX6_run_57 : decode cX6_run 57 = .ok (.ifCond .ne 5, 3) := by decide +kernel
theorem dX6_run_60 : decode cX6_run 60 = .ok (.iload_n 1, 1) := by decide +kernel
theorem dX6_run_61 : decode cX6_run 61 = .ok (.ireturn, 1) := by decide +kernel
theorem dX6_run_62 : decode cX6_run 62 = .ok (.iinc 1 1, 3) := by decide +kernel
theorem dX6_run_65 : decode cX6_run 65 = .ok (.iinc 2 1, 3) := by decide +kernel
theorem dX6_run_68 : decode cX6_run 68 = .ok (.goto (-38), 3) := by decide +kernel
theorem dX6_run_71 : decode cX6_run 71 = .ok (.iload_n 1, 1) := by decide +kernel
theorem dX6_run_72 : decode cX6_run 72 = .ok (.ireturn, 1) := by decide +kernel
set_option maxRecDepth 20000 in
theorem ggX6_undo_X0_restore : GoodIn wsX6_undo wsX0_restore := goodIn_r _ [9, 10, 11, 12, 13, 14, 15, 16, 17, 18, 19, 20, 21, 22, 23, 24, 25, 26, 27, 28, 29, 30, 31, 32, 33, 34, 35, 36, 37, 38, 39, 40, 41, 42, 43, 44, 45, 46, 47, 48, 49, 50, 51, 52, 53, 54, 55, 56, 57, 58, 59, 60, 61, 62, 63, 64, 65, 66, 67, 68, 69, 70, 71, 72, 77, 78, 79, 80, 81, 82, 83, 84, 85, 86, 87, 88, 89, 90, 91, 92, 93, 94, 95, 96, 97, 98, 99, 100, 101, 102, 103, 104, 105, 106, 107, 108, 109, 110, 111] (by decide +kernel) (by decide +kernel)
set_option maxRecDepth 20000 in
theorem gX6_undo_X0_restore : GoodIn wsX6_undo (wsV RX6 111 RX0 yX0_restore wsX0_restore) := goodIn_app (goodIn_of _ (by decide +kernel)) ggX6_undo_X0_restore
theorem dX6_undo_0 : decode cX6_undo 0 = .ok (.aload_n 0, 1) := by decide +kernel
theorem dX6_undo_1 : decode cX6_undo 1 = .ok (.getfield 22, 3) := by decide +kernel
theorem dX6_undo_4 : decode cX6_undo 4 = .ok (.getfield 108, 3) := by decide +kernel
theorem dX6_undo_7 : decode cX6_undo 7 = .ok (.ifCond .ne 6, 3) := by decide +kernel
theorem dX6_undo_10 : decode cX6_undo 10 = .ok (.ldc 100, 2) := by decide +kernel
theorem dX6_undo_12 : decode cX6_undo 12 = .ok (.ireturn, 1) := by decide +kernel
theorem dX6_undo_13 : decode cX6_undo 13 = .ok (.aload_n 0, 1) := by decide +kernel
theorem dX6_undo_14 : decode cX6_undo 14 = .ok (.getfield 22, 3) := by decide +kernel
theorem dX6_undo_17 : decode cX6_undo 17 = .ok (.aload_n 0, 1) := by decide +kernel
theorem dX6_undo_18 : decode cX6_undo 18 = .ok (.getfield 10, 3) := by decide +kernel
theorem dX6_undo_21 : decode cX6_undo 21 = .ok (.invokevirtual 111, 3) := by decide +kernel
theorem dX6_undo_24 : decode cX6_undo 24 = .ok (.aload_n 0, 1) := by decide +kernel
theorem dX6_undo_25 : decode cX6_undo 25 = .ok (.getfield 22, 3) := by decide +kernel
theorem dX6_undo_28 : decode cX6_undo 28 = .ok (.getfield 108, 3) := by decide +kernel
theorem dX6_undo_31 : decode cX6_undo 31 = .ok (.ireturn, 1) := by decide +kernel
set_option maxRecDepth 20000 in
theorem ggX6_setting_X6_isSetting : GoodIn wsX6_setting wsX6_isSetting := goodIn_r _ [7] (by decide +kernel) (by decide +kernel)
set_option maxRecDepth 20000 in
theorem gX6_setting_X6_isSetting : GoodIn wsX6_setting (va_wsS RX6 33 yX6_isSetting wsX6_isSetting) := goodIn_app (goodIn_of _ (by decide +kernel)) ggX6_setting_X6_isSetting
set_option maxRecDepth 20000 in
theorem ggX6_setting_X3_at : GoodIn wsX6_setting wsX3_at := goodIn_r _ [12, 13, 29] (by decide +kernel) (by decide +kernel)
set_option maxRecDepth 20000 in
theorem gX6_setting_X3_at : GoodIn wsX6_setting (wsV RX6 51 RX3 yX3_at wsX3_at) := goodIn_app (goodIn_of _ (by decide +kernel)) ggX6_setting_X3_at
theorem dX6_setting_0 : decode cX6_setting 0 = .ok (.iload_n 1, 1) := by decide +kernel
theorem dX6_setting_1 : decode cX6_setting 1 = .ok (.invokestatic 33, 3) := by decide +kernel
theorem dX6_setting_4 : decode cX6_setting 4 = .ok (.ifCond .eq 17, 3) := by decide +kernel
theorem dX6_setting_7 : decode cX6_setting 7 = .ok (.aload_n 0, 1) := by decide +kernel
theorem dX6_setting_8 : decode cX6_setting 8 = .ok (.getfield 10, 3) := by decide +kernel
theorem dX6_setting_11 : decode cX6_setting 11 = .ok (.getfield 47, 3) := by decide +kernel
theorem dX6_setting_14 : decode cX6_setting 14 = .ok (.iload_n 1, 1) := by decide +kernel
theorem dX6_setting_15 : decode cX6_setting 15 = .ok (.invokevirtual 51, 3) := by decide +kernel
theorem dX6_setting_18 : decode cX6_setting 18 = .ok (.goto 5, 3) := by decide +kernel
theorem dX6_setting_21 : decode cX6_setting 21 = .ok (.ldc 37, 2) := by decide +kernel
theorem dX6_setting_23 : decode cX6_setting 23 = .ok (.ireturn, 1) := by decide +kernel
set_option maxRecDepth 20000 in
theorem ggX6_classSetting_X6_isKind : GoodIn wsX6_classSetting wsX6_isKind := goodIn_r _ [7] (by decide +kernel) (by decide +kernel)
set_option maxRecDepth 20000 in
theorem gX6_classSetting_X6_isKind : GoodIn wsX6_classSetting (va_wsS RX6 61 yX6_isKind wsX6_isKind) := goodIn_app (goodIn_of _ (by decide +kernel)) ggX6_classSetting_X6_isKind
set_option maxRecDepth 20000 in
theorem ggX6_classSetting_X6_isSetting : GoodIn wsX6_classSetting wsX6_isSetting := goodIn_r _ [10] (by decide +kernel) (by decide +kernel)
set_option maxRecDepth 20000 in
theorem gX6_classSetting_X6_isSetting : GoodIn wsX6_classSetting (va_wsS RX6 33 yX6_isSetting wsX6_isSetting) := goodIn_app (goodIn_of _ (by decide +kernel)) ggX6_classSetting_X6_isSetting
set_option maxRecDepth 20000 in
theorem ggX6_classSetting_X4_lane : GoodIn wsX6_classSetting wsX4_lane := goodIn_r _ [15, 16, 17, 18, 36, 37, 38, 39, 40, 41, 42, 43, 44, 45, 46] (by decide +kernel) (by decide +kernel)
set_option maxRecDepth 20000 in
theorem gX6_classSetting_X4_lane : GoodIn wsX6_classSetting (wsV RX6 67 RX4 yX4_lane wsX4_lane) := goodIn_app (goodIn_of _ (by decide +kernel)) ggX6_classSetting_X4_lane
set_option maxRecDepth 20000 in
theorem ggX6_classSetting_X3_at : GoodIn wsX6_classSetting wsX3_at := goodIn_r _ [23, 24, 47] (by decide +kernel) (by decide +kernel)
set_option maxRecDepth 20000 in
theorem gX6_classSetting_X3_at : GoodIn wsX6_classSetting (wsV RX6 51 RX3 yX3_at wsX3_at) := goodIn_app (goodIn_of _ (by decide +kernel)) ggX6_classSetting_X3_at
theorem dX6_classSetting_0 : decode cX6_classSetting 0 = .ok (.iload_n 1, 1) := by decide +kernel
theorem dX6_classSetting_1 : decode cX6_classSetting 1 = .ok (.invokestatic 61, 3) := by decide +kernel
theorem dX6_classSetting_4 : decode cX6_classSetting 4 = .ok (.ifCond .eq 10, 3) := by decide +kernel
theorem dX6_classSetting_7 : decode cX6_classSetting 7 = .ok (.iload_n 2, 1) := by decide +kernel
theorem dX6_classSetting_8 : decode cX6_classSetting 8 = .ok (.invokestatic 33, 3) := by decide +kernel
theorem dX6_classSetting_11 : decode cX6_classSetting 11 = .ok (.ifCond .ne 6, 3) := by decide +kernel
theorem dX6_classSetting_14 : decode cX6_classSetting 14 = .ok (.ldc 37, 2) := by decide +kernel
theorem dX6_classSetting_16 : decode cX6_classSetting 16 = .ok (.ireturn, 1) := by decide +kernel
theorem dX6_classSetting_17 : decode cX6_classSetting 17 = .ok (.aload_n 0, 1) := by decide +kernel
theorem dX6_classSetting_18 : decode cX6_classSetting 18 = .ok (.getfield 10, 3) := by decide +kernel
theorem dX6_classSetting_21 : decode cX6_classSetting 21 = .ok (.iload_n 1, 1) := by decide +kernel
theorem dX6_classSetting_22 : decode cX6_classSetting 22 = .ok (.invokevirtual 67, 3) := by decide +kernel
theorem dX6_classSetting_25 : decode cX6_classSetting 25 = .ok (.getfield 71, 3) := by decide +kernel
theorem dX6_classSetting_28 : decode cX6_classSetting 28 = .ok (.iload_n 2, 1) := by decide +kernel
theorem dX6_classSetting_29 : decode cX6_classSetting 29 = .ok (.invokevirtual 51, 3) := by decide +kernel
theorem dX6_classSetting_32 : decode cX6_classSetting 32 = .ok (.ireturn, 1) := by decide +kernel
theorem dX6_clock_0 : decode cX6_clock 0 = .ok (.aload_n 0, 1) := by decide +kernel
theorem dX6_clock_1 : decode cX6_clock 1 = .ok (.getfield 10, 3) := by decide +kernel
theorem dX6_clock_4 : decode cX6_clock 4 = .ok (.getfield 114, 3) := by decide +kernel
theorem dX6_clock_7 : decode cX6_clock 7 = .ok (.ireturn, 1) := by decide +kernel
set_option maxRecDepth 20000 in
theorem ggX6_estimate_X6_isShape : GoodIn wsX6_estimate wsX6_isShape := goodIn_r _ [7] (by decide +kernel) (by decide +kernel)
set_option maxRecDepth 20000 in
theorem gX6_estimate_X6_isShape : GoodIn wsX6_estimate (va_wsS RX6 117 yX6_isShape wsX6_isShape) := goodIn_app (goodIn_of _ (by decide +kernel)) ggX6_estimate_X6_isShape
set_option maxRecDepth 20000 in
theorem ggX6_estimate_X3_at : GoodIn wsX6_estimate wsX3_at := goodIn_r _ [12, 13, 29] (by decide +kernel) (by decide +kernel)
set_option maxRecDepth 20000 in
theorem gX6_estimate_X3_at : GoodIn wsX6_estimate (wsV RX6 51 RX3 yX3_at wsX3_at) := goodIn_app (goodIn_of _ (by decide +kernel)) ggX6_estimate_X3_at
theorem dX6_estimate_0 : decode cX6_estimate 0 = .ok (.iload_n 1, 1) := by decide +kernel
theorem dX6_estimate_1 : decode cX6_estimate 1 = .ok (.invokestatic 117, 3) := by decide +kernel
theorem dX6_estimate_4 : decode cX6_estimate 4 = .ok (.ifCond .eq 17, 3) := by decide +kernel
theorem dX6_estimate_7 : decode cX6_estimate 7 = .ok (.aload_n 0, 1) := by decide +kernel
theorem dX6_estimate_8 : decode cX6_estimate 8 = .ok (.getfield 10, 3) := by decide +kernel
theorem dX6_estimate_11 : decode cX6_estimate 11 = .ok (.getfield 120, 3) := by decide +kernel
theorem dX6_estimate_14 : decode cX6_estimate 14 = .ok (.iload_n 1, 1) := by decide +kernel
theorem dX6_estimate_15 : decode cX6_estimate 15 = .ok (.invokevirtual 51, 3) := by decide +kernel
theorem dX6_estimate_18 : decode cX6_estimate 18 = .ok (.goto 5, 3) := by decide +kernel
theorem dX6_estimate_21 : decode cX6_estimate 21 = .ok (.ldc 37, 2) := by decide +kernel
theorem dX6_estimate_23 : decode cX6_estimate 23 = .ok (.ireturn, 1) := by decide +kernel
set_option maxRecDepth 20000 in
theorem ggX6_tokens_X6_isKind : GoodIn wsX6_tokens wsX6_isKind := goodIn_r _ [7] (by decide +kernel) (by decide +kernel)
set_option maxRecDepth 20000 in
theorem gX6_tokens_X6_isKind : GoodIn wsX6_tokens (va_wsS RX6 61 yX6_isKind wsX6_isKind) := goodIn_app (goodIn_of _ (by decide +kernel)) ggX6_tokens_X6_isKind
set_option maxRecDepth 20000 in
theorem ggX6_tokens_X4_lane : GoodIn wsX6_tokens wsX4_lane := goodIn_r _ [12, 13, 14, 15, 27, 28, 29, 30, 31, 32, 33, 34, 35, 36, 37] (by decide +kernel) (by decide +kernel)
set_option maxRecDepth 20000 in
theorem gX6_tokens_X4_lane : GoodIn wsX6_tokens (wsV RX6 67 RX4 yX4_lane wsX4_lane) := goodIn_app (goodIn_of _ (by decide +kernel)) ggX6_tokens_X4_lane
theorem dX6_tokens_0 : decode cX6_tokens 0 = .ok (.iload_n 1, 1) := by decide +kernel
theorem dX6_tokens_1 : decode cX6_tokens 1 = .ok (.invokestatic 61, 3) := by decide +kernel
theorem dX6_tokens_4 : decode cX6_tokens 4 = .ok (.ifCond .eq 17, 3) := by decide +kernel
theorem dX6_tokens_7 : decode cX6_tokens 7 = .ok (.aload_n 0, 1) := by decide +kernel
theorem dX6_tokens_8 : decode cX6_tokens 8 = .ok (.getfield 10, 3) := by decide +kernel
theorem dX6_tokens_11 : decode cX6_tokens 11 = .ok (.iload_n 1, 1) := by decide +kernel
theorem dX6_tokens_12 : decode cX6_tokens 12 = .ok (.invokevirtual 67, 3) := by decide +kernel
theorem dX6_tokens_15 : decode cX6_tokens 15 = .ok (.getfield 123, 3) := by decide +kernel
theorem dX6_tokens_18 : decode cX6_tokens 18 = .ok (.goto 5, 3) := by decide +kernel
theorem dX6_tokens_21 : decode cX6_tokens 21 = .ok (.ldc 37, 2) := by decide +kernel
theorem dX6_tokens_23 : decode cX6_tokens 23 = .ok (.ireturn, 1) := by decide +kernel
set_option maxRecDepth 20000 in
theorem ggX6_pass_X6_isKind : GoodIn wsX6_pass wsX6_isKind := goodIn_r _ [7] (by decide +kernel) (by decide +kernel)
set_option maxRecDepth 20000 in
theorem gX6_pass_X6_isKind : GoodIn wsX6_pass (va_wsS RX6 61 yX6_isKind wsX6_isKind) := goodIn_app (goodIn_of _ (by decide +kernel)) ggX6_pass_X6_isKind
set_option maxRecDepth 20000 in
theorem ggX6_pass_X4_lane : GoodIn wsX6_pass wsX4_lane := goodIn_r _ [12, 13, 14, 15, 27, 28, 29, 30, 31, 32, 33, 34, 35, 36, 37] (by decide +kernel) (by decide +kernel)
set_option maxRecDepth 20000 in
theorem gX6_pass_X4_lane : GoodIn wsX6_pass (wsV RX6 67 RX4 yX4_lane wsX4_lane) := goodIn_app (goodIn_of _ (by decide +kernel)) ggX6_pass_X4_lane
theorem dX6_pass_0 : decode cX6_pass 0 = .ok (.iload_n 1, 1) := by decide +kernel
theorem dX6_pass_1 : decode cX6_pass 1 = .ok (.invokestatic 61, 3) := by decide +kernel
theorem dX6_pass_4 : decode cX6_pass 4 = .ok (.ifCond .eq 17, 3) := by decide +kernel
theorem dX6_pass_7 : decode cX6_pass 7 = .ok (.aload_n 0, 1) := by decide +kernel
theorem dX6_pass_8 : decode cX6_pass 8 = .ok (.getfield 10, 3) := by decide +kernel
theorem dX6_pass_11 : decode cX6_pass 11 = .ok (.iload_n 1, 1) := by decide +kernel
theorem dX6_pass_12 : decode cX6_pass 12 = .ok (.invokevirtual 67, 3) := by decide +kernel
theorem dX6_pass_15 : decode cX6_pass 15 = .ok (.getfield 126, 3) := by decide +kernel
theorem dX6_pass_18 : decode cX6_pass 18 = .ok (.goto 5, 3) := by decide +kernel
theorem dX6_pass_21 : decode cX6_pass 21 = .ok (.ldc 37, 2) := by decide +kernel
theorem dX6_pass_23 : decode cX6_pass 23 = .ok (.ireturn, 1) := by decide +kernel
set_option maxRecDepth 20000 in
theorem ggX6_queued_X6_isKind : GoodIn wsX6_queued wsX6_isKind := goodIn_r _ [7] (by decide +kernel) (by decide +kernel)
set_option maxRecDepth 20000 in
theorem gX6_queued_X6_isKind : GoodIn wsX6_queued (va_wsS RX6 61 yX6_isKind wsX6_isKind) := goodIn_app (goodIn_of _ (by decide +kernel)) ggX6_queued_X6_isKind
set_option maxRecDepth 20000 in
theorem ggX6_queued_X4_lane : GoodIn wsX6_queued wsX4_lane := goodIn_r _ [12, 13, 14, 15, 27, 28, 29, 30, 31, 32, 33, 34, 35, 36, 37] (by decide +kernel) (by decide +kernel)
set_option maxRecDepth 20000 in
theorem gX6_queued_X4_lane : GoodIn wsX6_queued (wsV RX6 67 RX4 yX4_lane wsX4_lane) := goodIn_app (goodIn_of _ (by decide +kernel)) ggX6_queued_X4_lane
theorem dX6_queued_0 : decode cX6_queued 0 = .ok (.iload_n 1, 1) := by decide +kernel
theorem dX6_queued_1 : decode cX6_queued 1 = .ok (.invokestatic 61, 3) := by decide +kernel
theorem dX6_queued_4 : decode cX6_queued 4 = .ok (.ifCond .eq 17, 3) := by decide +kernel
theorem dX6_queued_7 : decode cX6_queued 7 = .ok (.aload_n 0, 1) := by decide +kernel
theorem dX6_queued_8 : decode cX6_queued 8 = .ok (.getfield 10, 3) := by decide +kernel
theorem dX6_queued_11 : decode cX6_queued 11 = .ok (.iload_n 1, 1) := by decide +kernel
theorem dX6_queued_12 : decode cX6_queued 12 = .ok (.invokevirtual 67, 3) := by decide +kernel
theorem dX6_queued_15 : decode cX6_queued 15 = .ok (.getfield 129, 3) := by decide +kernel
theorem dX6_queued_18 : decode cX6_queued 18 = .ok (.goto 5, 3) := by decide +kernel
theorem dX6_queued_21 : decode cX6_queued 21 = .ok (.ldc 37, 2) := by decide +kernel
theorem dX6_queued_23 : decode cX6_queued 23 = .ok (.ireturn, 1) := by decide +kernel
set_option maxRecDepth 20000 in
theorem ggX6_queuedAt_X6_isKind : GoodIn wsX6_queuedAt wsX6_isKind := goodIn_r _ [10] (by decide +kernel) (by decide +kernel)
set_option maxRecDepth 20000 in
theorem gX6_queuedAt_X6_isKind : GoodIn wsX6_queuedAt (va_wsS RX6 61 yX6_isKind wsX6_isKind) := goodIn_app (goodIn_of _ (by decide +kernel)) ggX6_queuedAt_X6_isKind
set_option maxRecDepth 20000 in
theorem ggX6_queuedAt_X4_lane : GoodIn wsX6_queuedAt wsX4_lane := goodIn_r _ [15, 16, 17, 18, 36, 37, 38, 39, 40, 41, 42, 43, 44, 45, 46] (by decide +kernel) (by decide +kernel)
set_option maxRecDepth 20000 in
theorem gX6_queuedAt_X4_lane : GoodIn wsX6_queuedAt (wsV RX6 67 RX4 yX4_lane wsX4_lane) := goodIn_app (goodIn_of _ (by decide +kernel)) ggX6_queuedAt_X4_lane
set_option maxRecDepth 20000 in
theorem ggX6_queuedAt_X3_at : GoodIn wsX6_queuedAt wsX3_at := goodIn_r _ [23, 24, 47] (by decide +kernel) (by decide +kernel)
set_option maxRecDepth 20000 in
theorem gX6_queuedAt_X3_at : GoodIn wsX6_queuedAt (wsV RX6 51 RX3 yX3_at wsX3_at) := goodIn_app (goodIn_of _ (by decide +kernel)) ggX6_queuedAt_X3_at
theorem dX6_queuedAt_0 : decode cX6_queuedAt 0 = .ok (.iload_n 1, 1) := by decide +kernel
theorem dX6_queuedAt_1 : decode cX6_queuedAt 1 = .ok (.invokestatic 61, 3) := by decide +kernel
theorem dX6_queuedAt_4 : decode cX6_queuedAt 4 = .ok (.ifCond .ne 6, 3) := by decide +kernel
theorem dX6_queuedAt_7 : decode cX6_queuedAt 7 = .ok (.ldc 37, 2) := by decide +kernel
theorem dX6_queuedAt_9 : decode cX6_queuedAt 9 = .ok (.ireturn, 1) := by decide +kernel
theorem dX6_queuedAt_10 : decode cX6_queuedAt 10 = .ok (.iload_n 2, 1) := by decide +kernel
theorem dX6_queuedAt_11 : decode cX6_queuedAt 11 = .ok (.ifCond .ge 6, 3) := by decide +kernel
theorem dX6_queuedAt_14 : decode cX6_queuedAt 14 = .ok (.ldc 42, 2) := by decide +kernel
theorem dX6_queuedAt_16 : decode cX6_queuedAt 16 = .ok (.ireturn, 1) := by decide +kernel
theorem dX6_queuedAt_17 : decode cX6_queuedAt 17 = .ok (.aload_n 0, 1) := by decide +kernel
theorem dX6_queuedAt_18 : decode cX6_queuedAt 18 = .ok (.getfield 10, 3) := by decide +kernel
theorem dX6_queuedAt_21 : decode cX6_queuedAt 21 = .ok (.iload_n 1, 1) := by decide +kernel
theorem dX6_queuedAt_22 : decode cX6_queuedAt 22 = .ok (.invokevirtual 67, 3) := by decide +kernel
theorem dX6_queuedAt_25 : decode cX6_queuedAt 25 = .ok (.astore_n 3, 1) := by decide +kernel
theorem dX6_queuedAt_26 : decode cX6_queuedAt 26 = .ok (.iload_n 2, 1) := by decide +kernel
theorem dX6_queuedAt_27 : decode cX6_queuedAt 27 = .ok (.aload_n 3, 1) := by decide +kernel
theorem dX6_queuedAt_28 : decode cX6_queuedAt 28 = .ok (.getfield 129, 3) := by decide +kernel
theorem dX6_queuedAt_31 : decode cX6_queuedAt 31 = .ok (.if_icmp .ge 14, 3) := by decide +kernel
theorem dX6_queuedAt_34 : decode cX6_queuedAt 34 = .ok (.aload_n 3, 1) := by decide +kernel
theorem dX6_queuedAt_35 : decode cX6_queuedAt 35 = .ok (.getfield 130, 3) := by decide +kernel
theorem dX6_queuedAt_38 : decode cX6_queuedAt 38 = .ok (.iload_n 2, 1) := by decide +kernel
theorem dX6_queuedAt_39 : decode cX6_queuedAt 39 = .ok (.invokevirtual 51, 3) := by decide +kernel
theorem dX6_queuedAt_42 : decode cX6_queuedAt 42 = .ok (.goto 5, 3) := by decide +kernel
theorem dX6_queuedAt_45 : decode cX6_queuedAt 45 = .ok (.ldc 100, 2) := by decide +kernel
theorem dX6_queuedAt_47 : decode cX6_queuedAt 47 = .ok (.ireturn, 1) := by decide +kernel
set_option maxRecDepth 20000 in
theorem ggX6_backlog_X6_isKind : GoodIn wsX6_backlog wsX6_isKind := goodIn_r _ [6] (by decide +kernel) (by decide +kernel)
set_option maxRecDepth 20000 in
theorem gX6_backlog_X6_isKind : GoodIn wsX6_backlog (va_wsS RX6 61 yX6_isKind wsX6_isKind) := goodIn_app (goodIn_of _ (by decide +kernel)) ggX6_backlog_X6_isKind
set_option maxRecDepth 20000 in
theorem ggX6_backlog_X4_lane : GoodIn wsX6_backlog wsX4_lane := goodIn_r _ [11, 12, 13, 14, 43, 44, 45, 46, 47, 48, 49, 50, 51, 52, 53] (by decide +kernel) (by decide +kernel)
set_option maxRecDepth 20000 in
theorem gX6_backlog_X4_lane : GoodIn wsX6_backlog (wsV RX6 67 RX4 yX4_lane wsX4_lane) := goodIn_app (goodIn_of _ (by decide +kernel)) ggX6_backlog_X4_lane
set_option maxRecDepth 20000 in
theorem ggX6_backlog_X4_backlogOf : GoodIn wsX6_backlog wsX4_backlogOf := goodIn_r _ [18, 19, 20, 21, 22, 23, 24, 25, 26, 27, 28, 29, 30, 31, 32, 33, 34, 35, 10, 36, 37, 38, 54, 55, 56, 57, 58, 59, 60, 61, 62, 63, 64, 65, 66, 67, 68, 69, 70, 71, 72, 43, 44, 45, 46, 47, 48, 49, 50, 51, 52, 53] (by decide +kernel) (by decide +kernel)
set_option maxRecDepth 20000 in
theorem gX6_backlog_X4_backlogOf : GoodIn wsX6_backlog (wsV RX6 133 RX4 yX4_backlogOf wsX4_backlogOf) := goodIn_app (goodIn_of _ (by decide +kernel)) ggX6_backlog_X4_backlogOf
theorem dX6_backlog_0 : decode cX6_backlog 0 = .ok (.iload_n 1, 1) := by decide +kernel
theorem dX6_backlog_1 : decode cX6_backlog 1 = .ok (.invokestatic 61, 3) := by decide +kernel
theorem dX6_backlog_4 : decode cX6_backlog 4 = .ok (.ifCond .eq 21, 3) := by decide +kernel
theorem dX6_backlog_7 : decode cX6_backlog 7 = .ok (.aload_n 0, 1) := by decide +kernel
theorem dX6_backlog_8 : decode cX6_backlog 8 = .ok (.getfield 10, 3) := by decide +kernel
theorem dX6_backlog_11 : decode cX6_backlog 11 = .ok (.aload_n 0, 1) := by decide +kernel
theorem dX6_backlog_12 : decode cX6_backlog 12 = .ok (.getfield 10, 3) := by decide +kernel
theorem dX6_backlog_15 : decode cX6_backlog 15 = .ok (.iload_n 1, 1) := by decide +kernel
theorem dX6_backlog_16 : decode cX6_backlog 16 = .ok (.invokevirtual 67, 3) := by decide +kernel
theorem dX6_backlog_19 : decode cX6_backlog 19 = .ok (.invokevirtual 133, 3) := by decide +kernel
theorem dX6_backlog_22 : decode cX6_backlog 22 = .ok (.goto 5, 3) := by decide +kernel
theorem dX6_backlog_25 : decode cX6_backlog 25 = .ok (.ldc 37, 2) := by decide +kernel
theorem dX6_backlog_27 : decode cX6_backlog 27 = .ok (.ireturn, 1) := by decide +kernel
set_option maxRecDepth 20000 in
theorem ggX6_worked_X6_isKind : GoodIn wsX6_worked wsX6_isKind := goodIn_r _ [7] (by decide +kernel) (by decide +kernel)
set_option maxRecDepth 20000 in
theorem gX6_worked_X6_isKind : GoodIn wsX6_worked (va_wsS RX6 61 yX6_isKind wsX6_isKind) := goodIn_app (goodIn_of _ (by decide +kernel)) ggX6_worked_X6_isKind
set_option maxRecDepth 20000 in
theorem ggX6_worked_X4_lane : GoodIn wsX6_worked wsX4_lane := goodIn_r _ [12, 13, 14, 15, 27, 28, 29, 30, 31, 32, 33, 34, 35, 36, 37] (by decide +kernel) (by decide +kernel)
set_option maxRecDepth 20000 in
theorem gX6_worked_X4_lane : GoodIn wsX6_worked (wsV RX6 67 RX4 yX4_lane wsX4_lane) := goodIn_app (goodIn_of _ (by decide +kernel)) ggX6_worked_X4_lane
theorem dX6_worked_0 : decode cX6_worked 0 = .ok (.iload_n 1, 1) := by decide +kernel
theorem dX6_worked_1 : decode cX6_worked 1 = .ok (.invokestatic 61, 3) := by decide +kernel
theorem dX6_worked_4 : decode cX6_worked 4 = .ok (.ifCond .eq 17, 3) := by decide +kernel
theorem dX6_worked_7 : decode cX6_worked 7 = .ok (.aload_n 0, 1) := by decide +kernel
theorem dX6_worked_8 : decode cX6_worked 8 = .ok (.getfield 10, 3) := by decide +kernel
theorem dX6_worked_11 : decode cX6_worked 11 = .ok (.iload_n 1, 1) := by decide +kernel
theorem dX6_worked_12 : decode cX6_worked 12 = .ok (.invokevirtual 67, 3) := by decide +kernel
theorem dX6_worked_15 : decode cX6_worked 15 = .ok (.getfield 137, 3) := by decide +kernel
theorem dX6_worked_18 : decode cX6_worked 18 = .ok (.goto 5, 3) := by decide +kernel
theorem dX6_worked_21 : decode cX6_worked 21 = .ok (.ldc 37, 2) := by decide +kernel
theorem dX6_worked_23 : decode cX6_worked 23 = .ok (.ireturn, 1) := by decide +kernel
set_option maxRecDepth 20000 in
theorem ggX6_refused_X6_isKind : GoodIn wsX6_refused wsX6_isKind := goodIn_r _ [7] (by decide +kernel) (by decide +kernel)
set_option maxRecDepth 20000 in
theorem gX6_refused_X6_isKind : GoodIn wsX6_refused (va_wsS RX6 61 yX6_isKind wsX6_isKind) := goodIn_app (goodIn_of _ (by decide +kernel)) ggX6_refused_X6_isKind
set_option maxRecDepth 20000 in
theorem ggX6_refused_X4_lane : GoodIn wsX6_refused wsX4_lane := goodIn_r _ [12, 13, 14, 15, 33, 34, 35, 36, 37, 38, 39, 40, 41, 42, 43] (by decide +kernel) (by decide +kernel)
set_option maxRecDepth 20000 in
theorem gX6_refused_X4_lane : GoodIn wsX6_refused (wsV RX6 67 RX4 yX4_lane wsX4_lane) := goodIn_app (goodIn_of _ (by decide +kernel)) ggX6_refused_X4_lane
set_option maxRecDepth 20000 in
theorem ggX6_refused_X3_at : GoodIn wsX6_refused wsX3_at := goodIn_r _ [20, 21, 44] (by decide +kernel) (by decide +kernel)
set_option maxRecDepth 20000 in
theorem gX6_refused_X3_at : GoodIn wsX6_refused (wsV RX6 51 RX3 yX3_at wsX3_at) := goodIn_app (goodIn_of _ (by decide +kernel)) ggX6_refused_X3_at
theorem dX6_refused_0 : decode cX6_refused 0 = .ok (.iload_n 1, 1) := by decide +kernel
theorem dX6_refused_1 : decode cX6_refused 1 = .ok (.invokestatic 61, 3) := by decide +kernel
theorem dX6_refused_4 : decode cX6_refused 4 = .ok (.ifCond .eq 13, 3) := by decide +kernel
theorem dX6_refused_7 : decode cX6_refused 7 = .ok (.iload_n 2, 1) := by decide +kernel
theorem dX6_refused_8 : decode cX6_refused 8 = .ok (.iconst 1, 1) := by decide +kernel
theorem dX6_refused_9 : decode cX6_refused 9 = .ok (.if_icmp .lt 8, 3) := by decide +kernel
theorem dX6_refused_12 : decode cX6_refused 12 = .ok (.iload_n 2, 1) := by decide +kernel
theorem dX6_refused_13 : decode cX6_refused 13 = .ok (.iconst 5, 1) := by decide +kernel
theorem dX6_refused_14 : decode cX6_refused 14 = .ok (.if_icmp .le 6, 3) := by decide +kernel
theorem dX6_refused_17 : decode cX6_refused 17 = .ok (.ldc 37, 2) := by decide +kernel
theorem dX6_refused_19 : decode cX6_refused 19 = .ok (.ireturn, 1) := by decide +kernel
theorem dX6_refused_20 : decode cX6_refused 20 = .ok (.aload_n 0, 1) := by decide +kernel
theorem dX6_refused_21 : decode cX6_refused 21 = .ok (.getfield 10, 3) := by decide +kernel
theorem dX6_refused_24 : decode cX6_refused 24 = .ok (.iload_n 1, 1) := by decide +kernel
theorem dX6_refused_25 : decode cX6_refused 25 = .ok (.invokevirtual 67, 3) := by decide +kernel
theorem dX6_refused_28 : decode cX6_refused 28 = .ok (.getfield 140, 3) := by decide +kernel
theorem dX6_refused_31 : decode cX6_refused 31 = .ok (.iload_n 2, 1) := by decide +kernel
theorem dX6_refused_32 : decode cX6_refused 32 = .ok (.invokevirtual 51, 3) := by decide +kernel
theorem dX6_refused_35 : decode cX6_refused 35 = .ok (.ireturn, 1) := by decide +kernel
theorem dX6_idle_0 : decode cX6_idle 0 = .ok (.aload_n 0, 1) := by decide +kernel
theorem dX6_idle_1 : decode cX6_idle 1 = .ok (.getfield 10, 3) := by decide +kernel
theorem dX6_idle_4 : decode cX6_idle 4 = .ok (.getfield 143, 3) := by decide +kernel
theorem dX6_idle_7 : decode cX6_idle 7 = .ok (.ireturn, 1) := by decide +kernel
set_option maxRecDepth 20000 in
theorem ggX6_workShare_X6_isKind : GoodIn wsX6_workShare wsX6_isKind := goodIn_r _ [7] (by decide +kernel) (by decide +kernel)
set_option maxRecDepth 20000 in
theorem gX6_workShare_X6_isKind : GoodIn wsX6_workShare (va_wsS RX6 61 yX6_isKind wsX6_isKind) := goodIn_app (goodIn_of _ (by decide +kernel)) ggX6_workShare_X6_isKind
set_option maxRecDepth 20000 in
theorem ggX6_workShare_X4_lane : GoodIn wsX6_workShare wsX4_lane := goodIn_r _ [12, 13, 14, 15, 27, 28, 29, 30, 31, 32, 33, 34, 35, 36, 37] (by decide +kernel) (by decide +kernel)
set_option maxRecDepth 20000 in
theorem gX6_workShare_X4_lane : GoodIn wsX6_workShare (wsV RX6 67 RX4 yX4_lane wsX4_lane) := goodIn_app (goodIn_of _ (by decide +kernel)) ggX6_workShare_X4_lane
theorem dX6_workShare_0 : decode cX6_workShare 0 = .ok (.iload_n 1, 1) := by decide +kernel
theorem dX6_workShare_1 : decode cX6_workShare 1 = .ok (.invokestatic 61, 3) := by decide +kernel
theorem dX6_workShare_4 : decode cX6_workShare 4 = .ok (.ifCond .ne 6, 3) := by decide +kernel
theorem dX6_workShare_7 : decode cX6_workShare 7 = .ok (.ldc 146, 2) := by decide +kernel
theorem dX6_workShare_9 : decode cX6_workShare 9 = .ok (.freturn, 1) := by decide +kernel
theorem dX6_workShare_10 : decode cX6_workShare 10 = .ok (.aload_n 0, 1) := by decide +kernel
theorem dX6_workShare_11 : decode cX6_workShare 11 = .ok (.getfield 10, 3) := by decide +kernel
theorem dX6_workShare_14 : decode cX6_workShare 14 = .ok (.iconst 0, 1) := by decide +kernel
theorem dX6_workShare_15 : decode cX6_workShare 15 = .ok (.invokevirtual 67, 3) := by decide +kernel
theorem dX6_workShare_18 : decode cX6_workShare 18 = .ok (.getfield 137, 3) := by decide +kernel
theorem dX6_workShare_21 : decode cX6_workShare 21 = .ok (.aload_n 0, 1) := by decide +kernel
theorem dX6_workShare_22 : decode cX6_workShare 22 = .ok (.getfield 10, 3) := by decide +kernel
theorem dX6_workShare_25 : decode cX6_workShare 25 = .ok (.iconst 1, 1) := by decide +kernel
theorem dX6_workShare_26 : decode cX6_workShare 26 = .ok (.invokevirtual 67, 3) := by decide +kernel
theorem dX6_workShare_29 : decode cX6_workShare 29 = .ok (.getfield 137, 3) := by decide +kernel
theorem dX6_workShare_32 : decode cX6_workShare 32 = .ok (.iadd, 1) := by decide +kernel
theorem dX6_workShare_33 : decode cX6_workShare 33 = .ok (.aload_n 0, 1) := by decide +kernel
theorem dX6_workShare_34 : decode cX6_workShare 34 = .ok (.getfield 10, 3) := by decide +kernel
theorem dX6_workShare_37 : decode cX6_workShare 37 = .ok (.iconst 2, 1) := by decide +kernel
theorem dX6_workShare_38 : decode cX6_workShare 38 = .ok (.invokevirtual 67, 3) := by decide +kernel
theorem dX6_workShare_41 : decode cX6_workShare 41 = .ok (.getfield 137, 3) := by decide +kernel
theorem dX6_workShare_44 : decode cX6_workShare 44 = .ok (.iadd, 1) := by decide +kernel
theorem dX6_workShare_45 : decode cX6_workShare 45 = .ok (.istore_n 2, 1) := by decide +kernel
theorem dX6_workShare_46 : decode cX6_workShare 46 = .ok (.iload_n 2, 1) := by decide +kernel
theorem dX6_workShare_47 : decode cX6_workShare 47 = .ok (.ifCond .ne 5, 3) := by decide +kernel
theorem dX6_workShare_50 : decode cX6_workShare 50 = .ok (.fconst 0, 1) := by decide +kernel
theorem dX6_workShare_51 : decode cX6_workShare 51 = .ok (.freturn, 1) := by decide +kernel
theorem dX6_workShare_52 : decode cX6_workShare 52 = .ok (.aload_n 0, 1) := by decide +kernel
theorem dX6_workShare_53 : decode cX6_workShare 53 = .ok (.getfield 10, 3) := by decide +kernel
theorem dX6_workShare_56 : decode cX6_workShare 56 = .ok (.iload_n 1, 1) := by decide +kernel
theorem dX6_workShare_57 : decode cX6_workShare 57 = .ok (.invokevirtual 67, 3) := by decide +kernel
theorem dX6_workShare_60 : decode cX6_workShare 60 = .ok (.getfield 137, 3) := by decide +kernel
theorem dX6_workShare_63 : decode cX6_workShare 63 = .ok (.i2f, 1) := by decide +kernel
theorem dX6_workShare_64 : decode cX6_workShare 64 = .ok (.iload_n 2, 1) := by decide +kernel
theorem dX6_workShare_65 : decode cX6_workShare 65 = .ok (.i2f, 1) := by decide +kernel
theorem dX6_workShare_66 : decode cX6_workShare 66 = .ok (.fdiv, 1) := by decide +kernel
theorem dX6_workShare_67 : decode cX6_workShare 67 = .ok (.freturn, 1) := by decide +kernel
theorem dX6_requests_0 : decode cX6_requests 0 = .ok (.aload_n 0, 1) := by decide +kernel
theorem dX6_requests_1 : decode cX6_requests 1 = .ok (.getfield 10, 3) := by decide +kernel
theorem dX6_requests_4 : decode cX6_requests 4 = .ok (.getfield 147, 3) := by decide +kernel
theorem dX6_requests_7 : decode cX6_requests 7 = .ok (.ireturn, 1) := by decide +kernel
set_option maxRecDepth 20000 in
theorem ggX6_state_X4_find : GoodIn wsX6_state wsX4_find := goodIn_r _ [8, 9, 10, 26, 27, 28, 29, 30, 31, 32, 33, 34, 35, 36] (by decide +kernel) (by decide +kernel)
set_option maxRecDepth 20000 in
theorem gX6_state_X4_find : GoodIn wsX6_state (wsV RX6 150 RX4 yX4_find wsX4_find) := goodIn_app (goodIn_of _ (by decide +kernel)) ggX6_state_X4_find
theorem dX6_state_0 : decode cX6_state 0 = .ok (.aload_n 0, 1) := by decide +kernel
theorem dX6_state_1 : decode cX6_state 1 = .ok (.getfield 10, 3) := by decide +kernel
theorem dX6_state_4 : decode cX6_state 4 = .ok (.iload_n 1, 1) := by decide +kernel
theorem dX6_state_5 : decode cX6_state 5 = .ok (.invokevirtual 150, 3) := by decide +kernel
theorem dX6_state_8 : decode cX6_state 8 = .ok (.astore_n 2, 1) := by decide +kernel
theorem dX6_state_9 : decode cX6_state 9 = .ok (.aload_n 2, 1) := by decide +kernel
theorem dX6_state_10 : decode cX6_state 10 = .ok (.ifnonnull 8, 3) := by decide +kernel
theorem dX6_state_13 : decode cX6_state 13 = .ok (.ldc 37, 2) := by decide +kernel
theorem dX6_state_15 : decode cX6_state 15 = .ok (.goto 7, 3) := by decide +kernel
theorem dX6_state_18 : decode cX6_state 18 = .ok (.aload_n 2, 1) := by decide +kernel
theorem dX6_state_19 : decode cX6_state 19 = .ok (.getfield 154, 3) := by decide +kernel
theorem dX6_state_22 : decode cX6_state 22 = .ok (.ireturn, 1) := by decide +kernel
set_option maxRecDepth 20000 in
theorem ggX6_price_X4_find : GoodIn wsX6_price wsX4_find := goodIn_r _ [8, 9, 10, 26, 27, 28, 29, 30, 31, 32, 33, 34, 35, 36] (by decide +kernel) (by decide +kernel)
set_option maxRecDepth 20000 in
theorem gX6_price_X4_find : GoodIn wsX6_price (wsV RX6 150 RX4 yX4_find wsX4_find) := goodIn_app (goodIn_of _ (by decide +kernel)) ggX6_price_X4_find
theorem dX6_price_0 : decode cX6_price 0 = .ok (.aload_n 0, 1) := by decide +kernel
theorem dX6_price_1 : decode cX6_price 1 = .ok (.getfield 10, 3) := by decide +kernel
theorem dX6_price_4 : decode cX6_price 4 = .ok (.iload_n 1, 1) := by decide +kernel
theorem dX6_price_5 : decode cX6_price 5 = .ok (.invokevirtual 150, 3) := by decide +kernel
theorem dX6_price_8 : decode cX6_price 8 = .ok (.astore_n 2, 1) := by decide +kernel
theorem dX6_price_9 : decode cX6_price 9 = .ok (.aload_n 2, 1) := by decide +kernel
theorem dX6_price_10 : decode cX6_price 10 = .ok (.ifnonnull 8, 3) := by decide +kernel
theorem dX6_price_13 : decode cX6_price 13 = .ok (.ldc 37, 2) := by decide +kernel
theorem dX6_price_15 : decode cX6_price 15 = .ok (.goto 7, 3) := by decide +kernel
theorem dX6_price_18 : decode cX6_price 18 = .ok (.aload_n 2, 1) := by decide +kernel
theorem dX6_price_19 : decode cX6_price 19 = .ok (.getfield 159, 3) := by decide +kernel
theorem dX6_price_22 : decode cX6_price 22 = .ok (.ireturn, 1) := by decide +kernel
set_option maxRecDepth 20000 in
theorem ggX6_done_X4_find : GoodIn wsX6_done wsX4_find := goodIn_r _ [8, 9, 10, 26, 27, 28, 29, 30, 31, 32, 33, 34, 35, 36] (by decide +kernel) (by decide +kernel)
set_option maxRecDepth 20000 in
theorem gX6_done_X4_find : GoodIn wsX6_done (wsV RX6 150 RX4 yX4_find wsX4_find) := goodIn_app (goodIn_of _ (by decide +kernel)) ggX6_done_X4_find
theorem dX6_done_0 : decode cX6_done 0 = .ok (.aload_n 0, 1) := by decide +kernel
theorem dX6_done_1 : decode cX6_done 1 = .ok (.getfield 10, 3) := by decide +kernel
theorem dX6_done_4 : decode cX6_done 4 = .ok (.iload_n 1, 1) := by decide +kernel
theorem dX6_done_5 : decode cX6_done 5 = .ok (.invokevirtual 150, 3) := by decide +kernel
theorem dX6_done_8 : decode cX6_done 8 = .ok (.astore_n 2, 1) := by decide +kernel
theorem dX6_done_9 : decode cX6_done 9 = .ok (.aload_n 2, 1) := by decide +kernel
theorem dX6_done_10 : decode cX6_done 10 = .ok (.ifnonnull 8, 3) := by decide +kernel
theorem dX6_done_13 : decode cX6_done 13 = .ok (.ldc 37, 2) := by decide +kernel
theorem dX6_done_15 : decode cX6_done 15 = .ok (.goto 7, 3) := by decide +kernel
theorem dX6_done_18 : decode cX6_done 18 = .ok (.aload_n 2, 1) := by decide +kernel
theorem dX6_done_19 : decode cX6_done 19 = .ok (.getfield 162, 3) := by decide +kernel
theorem dX6_done_22 : decode cX6_done 22 = .ok (.ireturn, 1) := by decide +kernel
set_option maxRecDepth 20000 in
theorem ggX6_offers_X4_find : GoodIn wsX6_offers wsX4_find := goodIn_r _ [8, 9, 10, 26, 27, 28, 29, 30, 31, 32, 33, 34, 35, 36] (by decide +kernel) (by decide +kernel)
set_option maxRecDepth 20000 in
theorem gX6_offers_X4_find : GoodIn wsX6_offers (wsV RX6 150 RX4 yX4_find wsX4_find) := goodIn_app (goodIn_of _ (by decide +kernel)) ggX6_offers_X4_find
theorem dX6_offers_0 : decode cX6_offers 0 = .ok (.aload_n 0, 1) := by decide +kernel
theorem dX6_offers_1 : decode cX6_offers 1 = .ok (.getfield 10, 3) := by decide +kernel
theorem dX6_offers_4 : decode cX6_offers 4 = .ok (.iload_n 1, 1) := by decide +kernel
theorem dX6_offers_5 : decode cX6_offers 5 = .ok (.invokevirtual 150, 3) := by decide +kernel
theorem dX6_offers_8 : decode cX6_offers 8 = .ok (.astore_n 2, 1) := by decide +kernel
theorem dX6_offers_9 : decode cX6_offers 9 = .ok (.aload_n 2, 1) := by decide +kernel
theorem dX6_offers_10 : decode cX6_offers 10 = .ok (.ifnonnull 8, 3) := by decide +kernel
theorem dX6_offers_13 : decode cX6_offers 13 = .ok (.ldc 37, 2) := by decide +kernel
theorem dX6_offers_15 : decode cX6_offers 15 = .ok (.goto 7, 3) := by decide +kernel
theorem dX6_offers_18 : decode cX6_offers 18 = .ok (.aload_n 2, 1) := by decide +kernel
theorem dX6_offers_19 : decode cX6_offers 19 = .ok (.getfield 163, 3) := by decide +kernel
theorem dX6_offers_22 : decode cX6_offers 22 = .ok (.ireturn, 1) := by decide +kernel
set_option maxRecDepth 20000 in
theorem ggX6_reason_X4_find : GoodIn wsX6_reason wsX4_find := goodIn_r _ [8, 9, 10, 26, 27, 28, 29, 30, 31, 32, 33, 34, 35, 36] (by decide +kernel) (by decide +kernel)
set_option maxRecDepth 20000 in
theorem gX6_reason_X4_find : GoodIn wsX6_reason (wsV RX6 150 RX4 yX4_find wsX4_find) := goodIn_app (goodIn_of _ (by decide +kernel)) ggX6_reason_X4_find
theorem dX6_reason_0 : decode cX6_reason 0 = .ok (.aload_n 0, 1) := by decide +kernel
theorem dX6_reason_1 : decode cX6_reason 1 = .ok (.getfield 10, 3) := by decide +kernel
theorem dX6_reason_4 : decode cX6_reason 4 = .ok (.iload_n 1, 1) := by decide +kernel
theorem dX6_reason_5 : decode cX6_reason 5 = .ok (.invokevirtual 150, 3) := by decide +kernel
theorem dX6_reason_8 : decode cX6_reason 8 = .ok (.astore_n 2, 1) := by decide +kernel
theorem dX6_reason_9 : decode cX6_reason 9 = .ok (.aload_n 2, 1) := by decide +kernel
theorem dX6_reason_10 : decode cX6_reason 10 = .ok (.ifnonnull 8, 3) := by decide +kernel
theorem dX6_reason_13 : decode cX6_reason 13 = .ok (.ldc 37, 2) := by decide +kernel
theorem dX6_reason_15 : decode cX6_reason 15 = .ok (.goto 7, 3) := by decide +kernel
theorem dX6_reason_18 : decode cX6_reason 18 = .ok (.aload_n 2, 1) := by decide +kernel
theorem dX6_reason_19 : decode cX6_reason 19 = .ok (.getfield 166, 3) := by decide +kernel
theorem dX6_reason_22 : decode cX6_reason 22 = .ok (.ireturn, 1) := by decide +kernel
set_option maxRecDepth 20000 in
theorem ggX6_when_X4_find : GoodIn wsX6_when wsX4_find := goodIn_r _ [10, 11, 12, 28, 29, 30, 31, 32, 33, 34, 35, 36, 37, 38] (by decide +kernel) (by decide +kernel)
set_option maxRecDepth 20000 in
theorem gX6_when_X4_find : GoodIn wsX6_when (wsV RX6 150 RX4 yX4_find wsX4_find) := goodIn_app (goodIn_of _ (by decide +kernel)) ggX6_when_X4_find
theorem dX6_when_0 : decode cX6_when 0 = .ok (.aload_n 0, 1) := by decide +kernel
theorem dX6_when_1 : decode cX6_when 1 = .ok (.getfield 10, 3) := by decide +kernel
theorem dX6_when_4 : decode cX6_when 4 = .ok (.iload_n 1, 1) := by decide +kernel
theorem dX6_when_5 : decode cX6_when 5 = .ok (.invokevirtual 150, 3) := by decide +kernel
theorem dX6_when_8 : decode cX6_when 8 = .ok (.astore_n 2, 1) := by decide +kernel
theorem dX6_when_9 : decode cX6_when 9 = .ok (.aload_n 2, 1) := by decide +kernel
theorem dX6_when_10 : decode cX6_when 10 = .ok (.ifnonnull 6, 3) := by decide +kernel
theorem dX6_when_13 : decode cX6_when 13 = .ok (.ldc 37, 2) := by decide +kernel
theorem dX6_when_15 : decode cX6_when 15 = .ok (.ireturn, 1) := by decide +kernel
theorem dX6_when_16 : decode cX6_when 16 = .ok (.aload_n 2, 1) := by decide +kernel
theorem dX6_when_17 : decode cX6_when 17 = .ok (.getfield 154, 3) := by decide +kernel
theorem dX6_when_20 : decode cX6_when 20 = .ok (.iconst 3, 1) := by decide +kernel
theorem dX6_when_21 : decode cX6_when 21 = .ok (.if_icmp .eq 11, 3) := by decide +kernel
theorem dX6_when_24 : decode cX6_when 24 = .ok (.aload_n 2, 1) := by decide +kernel
theorem dX6_when_25 : decode cX6_when 25 = .ok (.getfield 154, 3) := by decide +kernel
theorem dX6_when_28 : decode cX6_when 28 = .ok (.iconst 2, 1) := by decide +kernel
theorem dX6_when_29 : decode cX6_when 29 = .ok (.if_icmp .ne 10, 3) := by decide +kernel
theorem dX6_when_32 : decode cX6_when 32 = .ok (.aload_n 2, 1) := by decide +kernel
theorem dX6_when_33 : decode cX6_when 33 = .ok (.getfield 169, 3) := by decide +kernel
theorem dX6_when_36 : decode cX6_when 36 = .ok (.goto 5, 3) := by decide +kernel
theorem dX6_when_39 : decode cX6_when 39 = .ok (.ldc 100, 2) := by decide +kernel
theorem dX6_when_41 : decode cX6_when 41 = .ok (.ireturn, 1) := by decide +kernel
set_option maxRecDepth 20000 in
theorem ggX6_wouldRefuse_X6_isKind : GoodIn wsX6_wouldRefuse wsX6_isKind := goodIn_r _ [6] (by decide +kernel) (by decide +kernel)
set_option maxRecDepth 20000 in
theorem gX6_wouldRefuse_X6_isKind : GoodIn wsX6_wouldRefuse (va_wsS RX6 61 yX6_isKind wsX6_isKind) := goodIn_app (goodIn_of _ (by decide +kernel)) ggX6_wouldRefuse_X6_isKind
set_option maxRecDepth 20000 in
theorem ggX6_wouldRefuse_X6_isShape : GoodIn wsX6_wouldRefuse wsX6_isShape := goodIn_r _ [9] (by decide +kernel) (by decide +kernel)
set_option maxRecDepth 20000 in
theorem gX6_wouldRefuse_X6_isShape : GoodIn wsX6_wouldRefuse (va_wsS RX6 117 yX6_isShape wsX6_isShape) := goodIn_app (goodIn_of _ (by decide +kernel)) ggX6_wouldRefuse_X6_isShape
set_option maxRecDepth 20000 in
theorem ggX6_wouldRefuse_X4_lane : GoodIn wsX6_wouldRefuse wsX4_lane := goodIn_r _ [14, 15, 16, 17, 60, 61, 62, 63, 64, 65, 66, 67, 68, 69, 70] (by decide +kernel) (by decide +kernel)
set_option maxRecDepth 20000 in
theorem gX6_wouldRefuse_X4_lane : GoodIn wsX6_wouldRefuse (wsV RX6 67 RX4 yX4_lane wsX4_lane) := goodIn_app (goodIn_of _ (by decide +kernel)) ggX6_wouldRefuse_X4_lane
set_option maxRecDepth 20000 in
theorem ggX6_wouldRefuse_X4_expectedCost : GoodIn wsX6_wouldRefuse wsX4_expectedCost := goodIn_r _ [21, 22, 23, 24, 25, 26, 27, 28, 29, 30, 31, 32, 60, 61, 62, 63, 64, 65, 66, 67, 68, 69, 70, 71] (by decide +kernel) (by decide +kernel)
set_option maxRecDepth 20000 in
theorem gX6_wouldRefuse_X4_expectedCost : GoodIn wsX6_wouldRefuse (wsV RX6 172 RX4 yX4_expectedCost wsX4_expectedCost) := goodIn_app (goodIn_of _ (by decide +kernel)) ggX6_wouldRefuse_X4_expectedCost
set_option maxRecDepth 20000 in
theorem ggX6_wouldRefuse_X4_firstRefusal : GoodIn wsX6_wouldRefuse wsX4_firstRefusal := goodIn_r _ [36, 37, 38, 15, 16, 17, 39, 40, 27, 28, 29, 30, 31, 32, 41, 42, 43, 13, 44, 45, 46, 47, 23, 24, 25, 26, 48, 49, 50, 51, 52, 53, 54, 5, 55, 72, 73, 74, 75, 76, 77, 78, 60, 61, 62, 63, 64, 65, 66, 67, 68, 69, 70, 71, 79, 80, 81, 82, 83, 84, 85, 86, 87, 88, 89] (by decide +kernel) (by decide +kernel)
set_option maxRecDepth 20000 in
theorem gX6_wouldRefuse_X4_firstRefusal : GoodIn wsX6_wouldRefuse (wsV RX6 175 RX4 yX4_firstRefusal wsX4_firstRefusal) := goodIn_app (goodIn_of _ (by decide +kernel)) ggX6_wouldRefuse_X4_firstRefusal
theorem dX6_wouldRefuse_0 : decode cX6_wouldRefuse 0 = .ok (.iload_n 1, 1) := by decide +kernel
theorem dX6_wouldRefuse_1 : decode cX6_wouldRefuse 1 = .ok (.invokestatic 61, 3) := by decide +kernel
theorem dX6_wouldRefuse_4 : decode cX6_wouldRefuse 4 = .ok (.ifCond .eq 10, 3) := by decide +kernel
theorem dX6_wouldRefuse_7 : decode cX6_wouldRefuse 7 = .ok (.iload_n 2, 1) := by decide +kernel
theorem dX6_wouldRefuse_8 : decode cX6_wouldRefuse 8 = .ok (.invokestatic 117, 3) := by decide +kernel
theorem dX6_wouldRefuse_11 : decode cX6_wouldRefuse 11 = .ok (.ifCond .ne 6, 3) := by decide +kernel
theorem dX6_wouldRefuse_14 : decode cX6_wouldRefuse 14 = .ok (.ldc 37, 2) := by decide +kernel
theorem dX6_wouldRefuse_16 : decode cX6_wouldRefuse 16 = .ok (.ireturn, 1) := by decide +kernel
theorem dX6_wouldRefuse_17 : decode cX6_wouldRefuse 17 = .ok (.aload_n 0, 1) := by decide +kernel
theorem dX6_wouldRefuse_18 : decode cX6_wouldRefuse 18 = .ok (.getfield 10, 3) := by decide +kernel
theorem dX6_wouldRefuse_21 : decode cX6_wouldRefuse 21 = .ok (.aload_n 0, 1) := by decide +kernel
theorem dX6_wouldRefuse_22 : decode cX6_wouldRefuse 22 = .ok (.getfield 10, 3) := by decide +kernel
theorem dX6_wouldRefuse_25 : decode cX6_wouldRefuse 25 = .ok (.iload_n 1, 1) := by decide +kernel
theorem dX6_wouldRefuse_26 : decode cX6_wouldRefuse 26 = .ok (.invokevirtual 67, 3) := by decide +kernel
theorem dX6_wouldRefuse_29 : decode cX6_wouldRefuse 29 = .ok (.aload_n 0, 1) := by decide +kernel
theorem dX6_wouldRefuse_30 : decode cX6_wouldRefuse 30 = .ok (.getfield 10, 3) := by decide +kernel
theorem dX6_wouldRefuse_33 : decode cX6_wouldRefuse 33 = .ok (.iload_n 2, 1) := by decide +kernel
theorem dX6_wouldRefuse_34 : decode cX6_wouldRefuse 34 = .ok (.invokevirtual 172, 3) := by decide +kernel
theorem dX6_wouldRefuse_37 : decode cX6_wouldRefuse 37 = .ok (.invokevirtual 175, 3) := by decide +kernel
theorem dX6_wouldRefuse_40 : decode cX6_wouldRefuse 40 = .ok (.ireturn, 1) := by decide +kernel
set_option maxRecDepth 20000 in
theorem ggX6_ticksLeft_X3_at : GoodIn wsX6_ticksLeft wsX3_at := goodIn_r _ [7, 8, 191] (by decide +kernel) (by decide +kernel)
set_option maxRecDepth 20000 in
theorem gX6_ticksLeft_X3_at : GoodIn wsX6_ticksLeft (wsV RX6 51 RX3 yX3_at wsX3_at) := goodIn_app (goodIn_of _ (by decide +kernel)) ggX6_ticksLeft_X3_at
set_option maxRecDepth 20000 in
theorem ggX6_ticksLeft_X6_ticksOfTrial : GoodIn wsX6_ticksLeft wsX6_ticksOfTrial := goodIn_r _ [13, 14, 15, 16, 17, 18, 19, 12, 20, 1, 2, 21, 22, 23, 24, 25, 26, 27, 28, 29, 30, 31, 32, 33, 34, 35, 36, 37, 38, 6, 39, 8, 40, 41, 42, 43, 44, 45, 46, 47, 48, 49, 50, 51, 52, 53, 54, 55, 56, 57, 58, 59, 60, 61, 62, 63, 64, 65, 66, 67, 68, 69, 70, 71, 72, 73, 74, 75, 76, 77, 78, 79, 80, 81, 82, 83, 84, 85, 86, 87, 88, 4, 5, 7, 89, 90, 91, 92, 93, 94, 95, 96, 97, 98, 99, 100, 101, 102, 103, 104, 105, 106, 107, 108, 109, 110, 111, 112, 113, 114, 115, 116, 117, 118, 119, 120, 121, 122, 123, 124, 125, 126, 127, 128, 129, 130, 131, 132, 133, 134, 135, 136, 137, 138, 139, 140, 141, 142, 143, 144, 145, 146, 147, 148, 149, 150, 151, 152, 153, 154, 155, 156, 157, 158, 159, 160, 161, 162, 163, 164, 165, 166, 167, 168, 169, 170, 171, 172, 173, 174, 175, 176, 177, 178, 179, 180, 181, 182, 183, 184, 185, 186, 187, 188, 189, 190, 191, 192, 193, 194, 195, 196, 197, 198, 199, 200, 201, 202, 203, 204, 205, 206, 207, 208, 209] (by decide +kernel) (by decide +kernel)
set_option maxRecDepth 20000 in
theorem gX6_ticksLeft_X6_ticksOfTrial : GoodIn wsX6_ticksLeft (wsV RX6 179 RX6 yX6_ticksOfTrial wsX6_ticksOfTrial) := goodIn_app (goodIn_of _ (by decide +kernel)) ggX6_ticksLeft_X6_ticksOfTrial
theorem dX6_ticksLeft_0 : decode cX6_ticksLeft 0 = .ok (.aload_n 0, 1) := by decide +kernel
theorem dX6_ticksLeft_1 : decode cX6_ticksLeft 1 = .ok (.aload_n 0, 1) := by decide +kernel
theorem dX6_ticksLeft_2 : decode cX6_ticksLeft 2 = .ok (.getfield 10, 3) := by decide +kernel
theorem dX6_ticksLeft_5 : decode cX6_ticksLeft 5 = .ok (.getfield 47, 3) := by decide +kernel
theorem dX6_ticksLeft_8 : decode cX6_ticksLeft 8 = .ok (.iconst 0, 1) := by decide +kernel
theorem dX6_ticksLeft_9 : decode cX6_ticksLeft 9 = .ok (.invokevirtual 51, 3) := by decide +kernel
theorem dX6_ticksLeft_12 : decode cX6_ticksLeft 12 = .ok (.invokevirtual 179, 3) := by decide +kernel
theorem dX6_ticksLeft_15 : decode cX6_ticksLeft 15 = .ok (.ireturn, 1) := by decide +kernel
set_option maxRecDepth 20000 in
theorem ggX6_ticksIf_X6_isServerValue : GoodIn wsX6_ticksIf wsX6_isServerValue := goodIn_r _ [5, 6, 7, 4, 8] (by decide +kernel) (by decide +kernel)
set_option maxRecDepth 20000 in
theorem gX6_ticksIf_X6_isServerValue : GoodIn wsX6_ticksIf (va_wsS RX6 38 yX6_isServerValue wsX6_isServerValue) := goodIn_app (goodIn_of _ (by decide +kernel)) ggX6_ticksIf_X6_isServerValue
set_option maxRecDepth 20000 in
theorem ggX6_ticksIf_X6_ticksOfTrial : GoodIn wsX6_ticksIf wsX6_ticksOfTrial := goodIn_r _ [12, 13, 14, 15, 16, 17, 18, 4, 19, 20, 21, 22, 23, 24, 25, 26, 27, 28, 29, 30, 31, 32, 33, 34, 35, 36, 37, 38, 39, 40, 41, 42, 43, 44, 45, 46, 47, 48, 49, 50, 51, 52, 53, 54, 55, 56, 57, 58, 59, 60, 61, 62, 63, 64, 65, 66, 67, 68, 69, 70, 71, 72, 73, 74, 75, 76, 77, 78, 79, 80, 81, 82, 83, 84, 85, 86, 87, 88, 89, 90, 91, 92, 93, 94, 95, 96, 97, 98, 99, 100, 101, 102, 103, 104, 105, 106, 107, 108, 109, 110, 111, 112, 113, 114, 115, 116, 117, 118, 119, 120, 121, 122, 123, 124, 125, 126, 127, 128, 129, 130, 131, 132, 133, 134, 135, 136, 137, 138, 139, 140, 141, 142, 143, 144, 145, 146, 147, 148, 149, 150, 151, 152, 153, 154, 155, 156, 157, 158, 159, 160, 161, 162, 163, 164, 165, 166, 167, 168, 169, 170, 171, 172, 173, 174, 175, 176, 177, 178, 179, 180, 181, 182, 183, 184, 185, 186, 187, 188, 189, 190, 191, 192, 193, 194, 195, 196, 197, 198, 199, 200, 201, 202, 203, 204, 205, 206, 207, 208, 209, 210, 211, 212, 213, 214, 215] (by decide +kernel) (by decide +kernel)
set_option maxRecDepth 20000 in
theorem gX6_ticksIf_X6_ticksOfTrial : GoodIn wsX6_ticksIf (wsV RX6 179 RX6 yX6_ticksOfTrial wsX6_ticksOfTrial) := goodIn_app (goodIn_of _ (by decide +kernel)) ggX6_ticksIf_X6_ticksOfTrial
theorem dX6_ticksIf_0 : decode cX6_ticksIf 0 = .ok (.iconst 0, 1) := by decide +kernel
theorem dX6_ticksIf_1 : decode cX6_ticksIf 1 = .ok (.iload_n 1, 1) := by decide +kernel
theorem dX6_ticksIf_2 : decode cX6_ticksIf 2 = .ok (.invokestatic 38, 3) := by decide +kernel
theorem dX6_ticksIf_5 : decode cX6_ticksIf 5 = .ok (.ifCond .ne 6, 3) := by decide +kernel
theorem dX6_ticksIf_8 : decode cX6_ticksIf 8 = .ok (.ldc 42, 2) := by decide +kernel
theorem dX6_ticksIf_10 : decode cX6_ticksIf 10 = .ok (.ireturn, 1) := by decide +kernel
theorem dX6_ticksIf_11 : decode cX6_ticksIf 11 = .ok (.aload_n 0, 1) := by decide +kernel
theorem dX6_ticksIf_12 : decode cX6_ticksIf 12 = .ok (.iload_n 1, 1) := by decide +kernel
theorem dX6_ticksIf_13 : decode cX6_ticksIf 13 = .ok (.invokevirtual 179, 3) := by decide +kernel
theorem dX6_ticksIf_16 : decode cX6_ticksIf 16 = .ok (.ireturn, 1) := by decide +kernel
set_option maxRecDepth 20000 in
theorem ggX6_leastCapacity_X6_trialEndsWithoutRejection : GoodIn wsX6_leastCapacity wsX6_trialEndsWithoutRejection := goodIn_r _ [6, 7, 8, 9, 10, 11, 12, 13, 5, 14, 15, 16, 17, 18, 19, 20, 21, 22, 23, 24, 25, 26, 27, 28, 29, 30, 31, 32, 33, 34, 35, 36, 37, 38, 39, 40, 41, 42, 43, 44, 45, 46, 47, 48, 49, 50, 51, 52, 53, 54, 55, 56, 57, 58, 59, 60, 61, 62, 63, 64, 65, 66, 67, 68, 69, 70, 71, 72, 73, 74, 75, 76, 77, 78, 79, 80, 81, 82, 83, 84, 85, 86, 87, 88, 89, 90, 91, 92, 93, 94, 95, 96, 97, 98, 99, 100, 101, 102, 103, 104, 105, 106, 107, 108, 109, 110, 111, 112, 113, 114, 115, 116, 117, 118, 119, 120, 121, 122, 123, 124, 125, 126, 127, 128, 129, 130, 131, 132, 133, 134, 135, 136, 137, 138, 139, 140, 141, 142, 143, 144, 145, 146, 147, 148, 149, 150, 151, 152, 153, 154, 155, 156, 157, 158, 159, 160, 161, 162, 163, 164, 165, 166, 167, 168, 169, 170, 171, 172, 173, 174, 175, 176, 177, 178, 179, 180, 181, 182, 183, 184, 185, 186, 187, 188, 189, 190, 191, 192, 193, 194, 195, 196, 197, 198, 199, 200, 201, 202, 203, 204, 205, 206, 207, 208, 209] (by decide +kernel) (by decide +kernel)
set_option maxRecDepth 20000 in
theorem gX6_leastCapacity_X6_trialEndsWithoutRejection : GoodIn wsX6_leastCapacity (wsV RX6 182 RX6 yX6_trialEndsWithoutRejection wsX6_trialEndsWithoutRejection) := goodIn_app (goodIn_of _ (by decide +kernel)) ggX6_leastCapacity_X6_trialEndsWithoutRejection
theorem dX6_leastCapacity_0 : decode cX6_leastCapacity 0 = .ok (.iconst 1, 1) := by decide +kernel
theorem dX6_leastCapacity_1 : decode cX6_leastCapacity 1 = .ok (.istore_n 1, 1) := by decide +kernel
theorem dX6_leastCapacity_2 : decode cX6_leastCapacity 2 = .ok (.iload_n 1, 1) := by decide +kernel
theorem dX6_leastCapacity_3 : decode cX6_leastCapacity 3 = .ok (.bipush 20, 2) := by decide +kernel
theorem dX6_leastCapacity_5 : decode cX6_leastCapacity 5 = .ok (.if_icmp .gt 19, 3) := by decide +kernel
theorem dX6_leastCapacity_8 : decode cX6_leastCapacity 8 = .ok (.aload_n 0, 1) := by decide +kernel
theorem dX6_leastCapacity_9 : decode cX6_leastCapacity 9 = .ok (.iload_n 1, 1) := by decide +kernel
theorem dX6_leastCapacity_10 : decode cX6_leastCapacity 10 = .ok (.invokevirtual 182, 3) := by decide +kernel
theorem dX6_leastCapacity_13 : decode cX6_leastCapacity 13 = .ok (.ifCond .eq 5, 3) := by decide +kernel
theorem dX6_leastCapacity_16 : decode cX6_leastCapacity 16 = .ok (.iload_n 1, 1) := by decide +kernel
theorem dX6_leastCapacity_17 : decode cX6_leastCapacity 17 = .ok (.ireturn, 1) := by decide +kernel
theorem dX6_leastCapacity_18 : decode cX6_leastCapacity 18 = .ok (.iinc 1 1, 3) := by decide +kernel
theorem dX6_leastCapacity_21 : decode cX6_leastCapacity 21 = .ok (.goto (-19), 3) := by decide +kernel
theorem dX6_leastCapacity_24 : decode cX6_leastCapacity 24 = .ok (.ldc 100, 2) := by decide +kernel
theorem dX6_leastCapacity_26 : decode cX6_leastCapacity 26 = .ok (.ireturn, 1) := by decide +kernel
set_option maxRecDepth 20000 in
theorem ggX6_finish_X4_copyFrom : GoodIn wsX6_finish wsX4_copyFrom := goodIn_r _ [11, 12, 13, 14, 15, 16, 17, 18, 19, 20, 21, 22, 23, 24, 25, 26, 27, 28, 29, 30, 31, 32, 33, 34, 35, 36, 37, 38, 39, 40, 41, 42, 43, 10, 44, 45, 46, 47, 48, 49, 50, 51, 52, 53, 54, 55, 56, 57, 58, 59, 60, 187, 188, 189, 190, 191, 192, 193, 194, 195, 196, 197, 198, 199, 200, 201, 202, 203, 204, 205, 176, 177, 178, 179, 180, 181, 182, 183, 184, 185, 186] (by decide +kernel) (by decide +kernel)
set_option maxRecDepth 20000 in
theorem gX6_finish_X4_copyFrom : GoodIn wsX6_finish (wsV RX6 185 RX4 yX4_copyFrom wsX4_copyFrom) := goodIn_app (goodIn_of _ (by decide +kernel)) ggX6_finish_X4_copyFrom
set_option maxRecDepth 20000 in
theorem ggX6_finish_X4_find : GoodIn wsX6_finish wsX4_find := goodIn_r _ [44, 17, 45, 187, 188, 189, 190, 191, 192, 193, 194, 195, 196, 197] (by decide +kernel) (by decide +kernel)
set_option maxRecDepth 20000 in
theorem gX6_finish_X4_find : GoodIn wsX6_finish (wsV RX6 150 RX4 yX4_find wsX4_find) := goodIn_app (goodIn_of _ (by decide +kernel)) ggX6_finish_X4_find
set_option maxRecDepth 20000 in
theorem ggX6_finish_X2_isSettled : GoodIn wsX6_finish wsX2_isSettled := goodIn_r _ [65, 54, 176, 177, 178, 179, 180, 181, 182, 183, 184, 185, 186] (by decide +kernel) (by decide +kernel)
set_option maxRecDepth 20000 in
theorem gX6_finish_X2_isSettled : GoodIn wsX6_finish (wsV RX6 188 RX2 yX2_isSettled wsX2_isSettled) := goodIn_app (goodIn_of _ (by decide +kernel)) ggX6_finish_X2_isSettled
set_option maxRecDepth 20000 in
theorem ggX6_finish_X4_tick : GoodIn wsX6_finish wsX4_tick := goodIn_r _ [69, 70, 17, 71, 72, 20, 12, 73, 74, 75, 10, 76, 14, 15, 16, 77, 78, 79, 25, 80, 27, 81, 82, 83, 31, 84, 33, 37, 85, 86, 87, 88, 89, 41, 42, 43, 44, 45, 90, 91, 92, 93, 94, 95, 96, 97, 98, 99, 100, 101, 13, 102, 103, 104, 105, 106, 107, 108, 109, 110, 111, 112, 113, 114, 115, 116, 117, 118, 119, 120, 121, 122, 123, 124, 125, 126, 127, 128, 129, 130, 131, 132, 133, 134, 36, 35, 135, 136, 137, 138, 139, 140, 141, 142, 143, 144, 18, 19, 145, 146, 147, 148, 149, 150, 151, 152, 153, 154, 155, 156, 157, 158, 159, 160, 161, 21, 162, 163, 164, 165, 166, 167, 168, 169, 170, 171, 199, 200, 201, 202, 203, 204, 205, 187, 188, 189, 190, 191, 192, 193, 194, 195, 196, 197, 176, 177, 178, 179, 180, 181, 182, 183, 184, 185, 186, 198] (by decide +kernel) (by decide +kernel)
set_option maxRecDepth 20000 in
theorem gX6_finish_X4_tick : GoodIn wsX6_finish (wsV RX6 192 RX4 yX4_tick wsX4_tick) := goodIn_app (goodIn_of _ (by decide +kernel)) ggX6_finish_X4_tick
theorem dX6_finish_0 : decode cX6_finish 0 = .ok (.aload_n 0, 1) := by decide +kernel
theorem dX6_finish_1 : decode cX6_finish 1 = .ok (.getfield 16, 3) := by decide +kernel
theorem dX6_finish_4 : decode cX6_finish 4 = .ok (.aload_n 0, 1) := by decide +kernel
theorem dX6_finish_5 : decode cX6_finish 5 = .ok (.getfield 10, 3) := by decide +kernel
theorem dX6_finish_8 : decode cX6_finish 8 = .ok (.invokevirtual 185, 3) := by decide +kernel
theorem dX6_finish_11 : decode cX6_finish 11 = .ok (.aload_n 0, 1) := by decide +kernel
theorem dX6_finish_12 : decode cX6_finish 12 = .ok (.getfield 16, 3) := by decide +kernel
theorem dX6_finish_15 : decode cX6_finish 15 = .ok (.iload_n 1, 1) := by decide +kernel
theorem dX6_finish_16 : decode cX6_finish 16 = .ok (.invokevirtual 150, 3) := by decide +kernel
theorem dX6_finish_19 : decode cX6_finish 19 = .ok (.astore_n 2, 1) := by decide +kernel
theorem dX6_finish_20 : decode cX6_finish 20 = .ok (.aload_n 2, 1) := by decide +kernel
theorem dX6_finish_21 : decode cX6_finish 21 = .ok (.ifnonnull 6, 3) := by decide +kernel
theorem dX6_finish_24 : decode cX6_finish 24 = .ok (.ldc 37, 2) := by decide +kernel
theorem dX6_finish_26 : decode cX6_finish 26 = .ok (.ireturn, 1) := by decide +kernel
theorem dX6_finish_27 : decode cX6_finish 27 = .ok (.iconst 0, 1) := by decide +kernel
theorem dX6_finish_28 : decode cX6_finish 28 = .ok (.istore_n 3, 1) := by decide +kernel
theorem dX6_finish_29 : decode cX6_finish 29 = .ok (.iload_n 3, 1) := by decide +kernel
theorem dX6_finish_30 : decode cX6_finish 30 = .ok (.sipush 400, 3) := by decide +kernel
theorem dX6_finish_33 : decode cX6_finish 33 = .ok (.if_icmp .ge 24, 3) := by decide +kernel
theorem dX6_finish_36 : decode cX6_finish 36 = .ok (.aload_n 2, 1) := by decide +kernel
theorem dX6_finish_37 : decode cX6_finish 37 = .ok (.invokevirtual 188, 3) := by decide +kernel
theorem dX6_finish_40 : decode cX6_finish 40 = .ok (.ifCond .ne 17, 3) := by decide +kernel
theorem dX6_finish_43 : decode cX6_finish 43 = .ok (.aload_n 0, 1) := by decide +kernel
theorem dX6_finish_44 : decode cX6_finish 44 = .ok (.getfield 16, 3) := by decide +kernel
theorem dX6_finish_47 : decode cX6_finish 47 = .ok (.invokevirtual 192, 3) := by decide +kernel
theorem dX6_finish_50 : decode cX6_finish 50 = .ok (.pop, 1) := by decide +kernel
theorem dX6_finish_51 : decode cX6_finish 51 = .ok (.iinc 3 1, 3) := by decide +kernel
theorem dX6_finish_54 : decode cX6_finish 54 = .ok (.goto (-25), 3) := by decide +kernel
theorem dX6_finish_57 : decode cX6_finish 57 = .ok (.aload_n 2, 1) := by decide +kernel
theorem dX6_finish_58 : decode cX6_finish 58 = .ok (.getfield 154, 3) := by decide +kernel
theorem dX6_finish_61 : decode cX6_finish 61 = .ok (.iconst 2, 1) := by decide +kernel
theorem dX6_finish_62 : decode cX6_finish 62 = .ok (.if_icmp .ne 10, 3) := by decide +kernel
theorem dX6_finish_65 : decode cX6_finish 65 = .ok (.aload_n 2, 1) := by decide +kernel
theorem dX6_finish_66 : decode cX6_finish 66 = .ok (.getfield 169, 3) := by decide +kernel
theorem dX6_finish_69 : decode cX6_finish 69 = .ok (.goto 5, 3) := by decide +kernel
theorem dX6_finish_72 : decode cX6_finish 72 = .ok (.ldc 100, 2) := by decide +kernel
theorem dX6_finish_74 : decode cX6_finish 74 = .ok (.ireturn, 1) := by decide +kernel
theorem dX6_isKind_0 : decode cX6_isKind 0 = .ok (.iload_n 0, 1) := by decide +kernel
theorem dX6_isKind_1 : decode cX6_isKind 1 = .ok (.ifCond .lt 12, 3) := by decide +kernel
theorem dX6_isKind_4 : decode cX6_isKind 4 = .ok (.iload_n 0, 1) := by decide +kernel
theorem dX6_isKind_5 : decode cX6_isKind 5 = .ok (.iconst 3, 1) := by decide +kernel
theorem dX6_isKind_6 : decode cX6_isKind 6 = .ok (.if_icmp .ge 7, 3) := by decide +kernel
theorem dX6_isKind_9 : decode cX6_isKind 9 = .ok (.iconst 1, 1) := by decide +kernel
theorem dX6_isKind_10 : decode cX6_isKind 10 = .ok (.goto 4, 3) := by decide +kernel
theorem dX6_isKind_13 : decode cX6_isKind 13 = .ok (.iconst 0, 1) := by decide +kernel
theorem dX6_isKind_14 : decode cX6_isKind 14 = .ok (.ireturn, 1) := by decide +kernel
theorem dX6_isShape_0 : decode cX6_isShape 0 = .ok (.iload_n 0, 1) := by decide +kernel
theorem dX6_isShape_1 : decode cX6_isShape 1 = .ok (.ifCond .lt 12, 3) := by decide +kernel
theorem dX6_isShape_4 : decode cX6_isShape 4 = .ok (.iload_n 0, 1) := by decide +kernel
theorem dX6_isShape_5 : decode cX6_isShape 5 = .ok (.iconst 5, 1) := by decide +kernel
theorem dX6_isShape_6 : decode cX6_isShape 6 = .ok (.if_icmp .ge 7, 3) := by decide +kernel
theorem dX6_isShape_9 : decode cX6_isShape 9 = .ok (.iconst 1, 1) := by decide +kernel
theorem dX6_isShape_10 : decode cX6_isShape 10 = .ok (.goto 4, 3) := by decide +kernel
theorem dX6_isShape_13 : decode cX6_isShape 13 = .ok (.iconst 0, 1) := by decide +kernel
theorem dX6_isShape_14 : decode cX6_isShape 14 = .ok (.ireturn, 1) := by decide +kernel
theorem dX6_isSetting_0 : decode cX6_isSetting 0 = .ok (.iload_n 0, 1) := by decide +kernel
theorem dX6_isSetting_1 : decode cX6_isSetting 1 = .ok (.ifCond .lt 12, 3) := by decide +kernel
theorem dX6_isSetting_4 : decode cX6_isSetting 4 = .ok (.iload_n 0, 1) := by decide +kernel
theorem dX6_isSetting_5 : decode cX6_isSetting 5 = .ok (.iconst 4, 1) := by decide +kernel
theorem dX6_isSetting_6 : decode cX6_isSetting 6 = .ok (.if_icmp .ge 7, 3) := by decide +kernel
theorem dX6_isSetting_9 : decode cX6_isSetting 9 = .ok (.iconst 1, 1) := by decide +kernel
theorem dX6_isSetting_10 : decode cX6_isSetting 10 = .ok (.goto 4, 3) := by decide +kernel
theorem dX6_isSetting_13 : decode cX6_isSetting 13 = .ok (.iconst 0, 1) := by decide +kernel
theorem dX6_isSetting_14 : decode cX6_isSetting 14 = .ok (.ireturn, 1) := by decide +kernel
theorem dX6_isBetween_0 : decode cX6_isBetween 0 = .ok (.iload_n 0, 1) := by decide +kernel
theorem dX6_isBetween_1 : decode cX6_isBetween 1 = .ok (.iload_n 1, 1) := by decide +kernel
theorem dX6_isBetween_2 : decode cX6_isBetween 2 = .ok (.if_icmp .gt 12, 3) := by decide +kernel
theorem dX6_isBetween_5 : decode cX6_isBetween 5 = .ok (.iload_n 1, 1) := by decide +kernel
theorem dX6_isBetween_6 : decode cX6_isBetween 6 = .ok (.iload_n 2, 1) := by decide +kernel
theorem dX6_isBetween_7 : decode cX6_isBetween 7 = .ok (.if_icmp .gt 7, 3) := by decide +kernel
theorem dX6_isBetween_10 : decode cX6_isBetween 10 = .ok (.iconst 1, 1) := by decide +kernel
theorem dX6_isBetween_11 : decode cX6_isBetween 11 = .ok (.goto 4, 3) := by decide +kernel
theorem dX6_isBetween_14 : decode cX6_isBetween 14 = .ok (.iconst 0, 1) := by decide +kernel
theorem dX6_isBetween_15 : decode cX6_isBetween 15 = .ok (.ireturn, 1) := by decide +kernel
set_option maxRecDepth 20000 in
theorem ggX6_isServerValue_X6_isBetween : GoodIn wsX6_isServerValue wsX6_isBetween := goodIn_r _ [4] (by decide +kernel) (by decide +kernel)
set_option maxRecDepth 20000 in
theorem gX6_isServerValue_X6_isBetween : GoodIn wsX6_isServerValue (va_wsS RX6 194 yX6_isBetween wsX6_isBetween) := goodIn_app (goodIn_of _ (by decide +kernel)) ggX6_isServerValue_X6_isBetween
theorem dX6_isServerValue_0 : decode cX6_isServerValue 0 = .ok (.iload_n 0, 1) := by decide +kernel
theorem dX6_isServerValue_1 : decode cX6_isServerValue 1 = .ok (.tableswitch 62 0 3 #[31, 39, 47, 55], 31) := by decide +kernel
theorem dX6_isServerValue_32 : decode cX6_isServerValue 32 = .ok (.iconst 1, 1) := by decide +kernel
theorem dX6_isServerValue_33 : decode cX6_isServerValue 33 = .ok (.iload_n 1, 1) := by decide +kernel
theorem dX6_isServerValue_34 : decode cX6_isServerValue 34 = .ok (.bipush 20, 2) := by decide +kernel
theorem dX6_isServerValue_36 : decode cX6_isServerValue 36 = .ok (.invokestatic 194, 3) := by decide +kernel
theorem dX6_isServerValue_39 : decode cX6_isServerValue 39 = .ok (.ireturn, 1) := by decide +kernel
theorem dX6_isServerValue_40 : decode cX6_isServerValue 40 = .ok (.iconst 1, 1) := by decide +kernel
theorem dX6_isServerValue_41 : decode cX6_isServerValue 41 = .ok (.iload_n 1, 1) := by decide +kernel
theorem dX6_isServerValue_42 : decode cX6_isServerValue 42 = .ok (.bipush 60, 2) := by decide +kernel
theorem dX6_isServerValue_44 : decode cX6_isServerValue 44 = .ok (.invokestatic 194, 3) := by decide +kernel
theorem dX6_isServerValue_47 : decode cX6_isServerValue 47 = .ok (.ireturn, 1) := by decide +kernel
theorem dX6_isServerValue_48 : decode cX6_isServerValue 48 = .ok (.iconst 1, 1) := by decide +kernel
theorem dX6_isServerValue_49 : decode cX6_isServerValue 49 = .ok (.iload_n 1, 1) := by decide +kernel
theorem dX6_isServerValue_50 : decode cX6_isServerValue 50 = .ok (.bipush 20, 2) := by decide +kernel
theorem dX6_isServerValue_52 : decode cX6_isServerValue 52 = .ok (.invokestatic 194, 3) := by decide +kernel
theorem dX6_isServerValue_55 : decode cX6_isServerValue 55 = .ok (.ireturn, 1) := by decide +kernel
theorem dX6_isServerValue_56 : decode cX6_isServerValue 56 = .ok (.iconst 0, 1) := by decide +kernel
theorem dX6_isServerValue_57 : decode cX6_isServerValue 57 = .ok (.iload_n 1, 1) := by decide +kernel
theorem dX6_isServerValue_58 : decode cX6_isServerValue 58 = .ok (.iconst 4, 1) := by decide +kernel
theorem dX6_isServerValue_59 : decode cX6_isServerValue 59 = .ok (.invokestatic 194, 3) := by decide +kernel
theorem dX6_isServerValue_62 : decode cX6_isServerValue 62 = .ok (.ireturn, 1) := by decide +kernel
theorem dX6_isServerValue_63 : decode cX6_isServerValue 63 = .ok (.iconst 0, 1) := by decide +kernel
theorem dX6_isServerValue_64 : decode cX6_isServerValue 64 = .ok (.ireturn, 1) := by decide +kernel
set_option maxRecDepth 20000 in
theorem ggX6_isClassValue_X6_isBetween : GoodIn wsX6_isClassValue wsX6_isBetween := goodIn_r _ [4] (by decide +kernel) (by decide +kernel)
set_option maxRecDepth 20000 in
theorem gX6_isClassValue_X6_isBetween : GoodIn wsX6_isClassValue (va_wsS RX6 194 yX6_isBetween wsX6_isBetween) := goodIn_app (goodIn_of _ (by decide +kernel)) ggX6_isClassValue_X6_isBetween
theorem dX6_isClassValue_0 : decode cX6_isClassValue 0 = .ok (.iload_n 0, 1) := by decide +kernel
theorem dX6_isClassValue_1 : decode cX6_isClassValue 1 = .ok (.tableswitch 55 0 3 #[31, 39, 47, 47], 31) := by decide +kernel
theorem dX6_isClassValue_32 : decode cX6_isClassValue 32 = .ok (.iconst 1, 1) := by decide +kernel
theorem dX6_isClassValue_33 : decode cX6_isClassValue 33 = .ok (.iload_n 1, 1) := by decide +kernel
theorem dX6_isClassValue_34 : decode cX6_isClassValue 34 = .ok (.bipush 9, 2) := by decide +kernel
theorem dX6_isClassValue_36 : decode cX6_isClassValue 36 = .ok (.invokestatic 194, 3) := by decide +kernel
theorem dX6_isClassValue_39 : decode cX6_isClassValue 39 = .ok (.ireturn, 1) := by decide +kernel
theorem dX6_isClassValue_40 : decode cX6_isClassValue 40 = .ok (.iconst 0, 1) := by decide +kernel
theorem dX6_isClassValue_41 : decode cX6_isClassValue 41 = .ok (.iload_n 1, 1) := by decide +kernel
theorem dX6_isClassValue_42 : decode cX6_isClassValue 42 = .ok (.bipush 20, 2) := by decide +kernel
theorem dX6_isClassValue_44 : decode cX6_isClassValue 44 = .ok (.invokestatic 194, 3) := by decide +kernel
theorem dX6_isClassValue_47 : decode cX6_isClassValue 47 = .ok (.ireturn, 1) := by decide +kernel
theorem dX6_isClassValue_48 : decode cX6_isClassValue 48 = .ok (.iconst 1, 1) := by decide +kernel
theorem dX6_isClassValue_49 : decode cX6_isClassValue 49 = .ok (.iload_n 1, 1) := by decide +kernel
theorem dX6_isClassValue_50 : decode cX6_isClassValue 50 = .ok (.bipush 99, 2) := by decide +kernel
theorem dX6_isClassValue_52 : decode cX6_isClassValue 52 = .ok (.invokestatic 194, 3) := by decide +kernel
theorem dX6_isClassValue_55 : decode cX6_isClassValue 55 = .ok (.ireturn, 1) := by decide +kernel
theorem dX6_isClassValue_56 : decode cX6_isClassValue 56 = .ok (.iconst 0, 1) := by decide +kernel
theorem dX6_isClassValue_57 : decode cX6_isClassValue 57 = .ok (.ireturn, 1) := by decide +kernel
theorem dX6_quotient_0 : decode cX6_quotient 0 = .ok (.iload_n 1, 1) := by decide +kernel
theorem dX6_quotient_1 : decode cX6_quotient 1 = .ok (.iconst 1, 1) := by decide +kernel
theorem dX6_quotient_2 : decode cX6_quotient 2 = .ok (.if_icmp .ge 7, 3) := by decide +kernel
