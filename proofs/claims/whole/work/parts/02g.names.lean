theorem dX7_readNumber_0 : decode cX7_readNumber 0 = .ok (.iload_n 1, 1) := by decide +kernel
theorem dX7_readNumber_1 : decode cX7_readNumber 1 = .ok (.istore_n 3, 1) := by decide +kernel
theorem dX7_readNumber_2 : decode cX7_readNumber 2 = .ok (.aload_n 0, 1) := by decide +kernel
theorem dX7_readNumber_3 : decode cX7_readNumber 3 = .ok (.iconst 0, 1) := by decide +kernel
theorem dX7_readNumber_4 : decode cX7_readNumber 4 = .ok (.putfield 123, 3) := by decide +kernel
theorem dX7_readNumber_7 : decode cX7_readNumber 7 = .ok (.aload_n 0, 1) := by decide +kernel
theorem dX7_readNumber_8 : decode cX7_readNumber 8 = .ok (.iload_n 3, 1) := by decide +kernel
theorem dX7_readNumber_9 : decode cX7_readNumber 9 = .ok (.invokevirtual 126, 3) := by decide +kernel
theorem dX7_readNumber_12 : decode cX7_readNumber 12 = .ok (.aload_n 0, 1) := by decide +kernel
theorem dX7_readNumber_13 : decode cX7_readNumber 13 = .ok (.getfield 123, 3) := by decide +kernel
theorem dX7_readNumber_16 : decode cX7_readNumber 16 = .ok (.ifCond .ne 8, 3) := by decide +kernel
theorem dX7_readNumber_19 : decode cX7_readNumber 19 = .ok (.bipush 49, 2) := by decide +kernel
theorem dX7_readNumber_21 : decode cX7_readNumber 21 = .ok (.goto 5, 3) := by decide +kernel
theorem dX7_readNumber_24 : decode cX7_readNumber 24 = .ok (.bipush 48, 2) := by decide +kernel
theorem dX7_readNumber_26 : decode cX7_readNumber 26 = .ok (.bipush 57, 2) := by decide +kernel
theorem dX7_readNumber_28 : decode cX7_readNumber 28 = .ok (.invokestatic 22, 3) := by decide +kernel
theorem dX7_readNumber_31 : decode cX7_readNumber 31 = .ok (.ifCond .eq 49, 3) := by decide +kernel
theorem dX7_readNumber_34 : decode cX7_readNumber 34 = .ok (.bipush 10, 2) := by decide +kernel
theorem dX7_readNumber_36 : decode cX7_readNumber 36 = .ok (.aload_n 0, 1) := by decide +kernel
theorem dX7_readNumber_37 : decode cX7_readNumber 37 = .ok (.getfield 123, 3) := by decide +kernel
theorem dX7_readNumber_40 : decode cX7_readNumber 40 = .ok (.imul, 1) := by decide +kernel
theorem dX7_readNumber_41 : decode cX7_readNumber 41 = .ok (.aload_n 0, 1) := by decide +kernel
theorem dX7_readNumber_42 : decode cX7_readNumber 42 = .ok (.iload_n 3, 1) := by decide +kernel
theorem dX7_readNumber_43 : decode cX7_readNumber 43 = .ok (.invokevirtual 126, 3) := by decide +kernel
theorem dX7_readNumber_46 : decode cX7_readNumber 46 = .ok (.iadd, 1) := by decide +kernel
theorem dX7_readNumber_47 : decode cX7_readNumber 47 = .ok (.bipush 48, 2) := by decide +kernel
theorem dX7_readNumber_49 : decode cX7_readNumber 49 = .ok (.isub, 1) := by decide +kernel
theorem dX7_readNumber_50 : decode cX7_readNumber 50 = .ok (.iload_n 2, 1) := by decide +kernel
theorem dX7_readNumber_51 : decode cX7_readNumber 51 = .ok (.if_icmp .gt 29, 3) := by decide +kernel
theorem dX7_readNumber_54 : decode cX7_readNumber 54 = .ok (.aload_n 0, 1) := by decide +kernel
theorem dX7_readNumber_55 : decode cX7_readNumber 55 = .ok (.bipush 10, 2) := by decide +kernel
theorem dX7_readNumber_57 : decode cX7_readNumber 57 = .ok (.aload_n 0, 1) := by decide +kernel
theorem dX7_readNumber_58 : decode cX7_readNumber 58 = .ok (.getfield 123, 3) := by decide +kernel
theorem dX7_readNumber_61 : decode cX7_readNumber 61 = .ok (.imul, 1) := by decide +kernel
theorem dX7_readNumber_62 : decode cX7_readNumber 62 = .ok (.aload_n 0, 1) := by decide +kernel
theorem dX7_readNumber_63 : decode cX7_readNumber 63 = .ok (.iload_n 3, 1) := by decide +kernel
theorem dX7_readNumber_64 : decode cX7_readNumber 64 = .ok (.invokevirtual 126, 3) := by decide +kernel
theorem dX7_readNumber_67 : decode cX7_readNumber 67 = .ok (.iadd, 1) := by decide +kernel
theorem dX7_readNumber_68 : decode cX7_readNumber 68 = .ok (.bipush 48, 2) := by decide +kernel
theorem dX7_readNumber_70 : decode cX7_readNumber 70 = .ok (.isub, 1) := by decide +kernel
theorem dX7_readNumber_71 : decode cX7_readNumber 71 = .ok (.putfield 123, 3) := by decide +kernel
theorem dX7_readNumber_74 : decode cX7_readNumber 74 = .ok (.iinc 3 1, 3) := by decide +kernel
theorem dX7_readNumber_77 : decode cX7_readNumber 77 = .ok (.goto (-70), 3) := by decide +kernel
theorem dX7_readNumber_80 : decode cX7_readNumber 80 = .ok (.aload_n 0, 1) := by decide +kernel
theorem dX7_readNumber_81 : decode cX7_readNumber 81 = .ok (.getfield 123, 3) := by decide +kernel
theorem dX7_readNumber_84 : decode cX7_readNumber 84 = .ok (.ifCond .ne 9, 3) := by decide +kernel
theorem dX7_readNumber_87 : decode cX7_readNumber 87 = .ok (.iconst (-1), 1) := by decide +kernel
theorem dX7_readNumber_88 : decode cX7_readNumber 88 = .ok (.iload_n 3, 1) := by decide +kernel
theorem dX7_readNumber_89 : decode cX7_readNumber 89 = .ok (.isub, 1) := by decide +kernel
theorem dX7_readNumber_90 : decode cX7_readNumber 90 = .ok (.goto 4, 3) := by decide +kernel
theorem dX7_readNumber_93 : decode cX7_readNumber 93 = .ok (.iload_n 3, 1) := by decide +kernel
theorem dX7_readNumber_94 : decode cX7_readNumber 94 = .ok (.ireturn, 1) := by decide +kernel
set_option maxRecDepth 20000 in
theorem ggX7_readStep_X7_at : GoodIn wsX7_readStep wsX7_at := goodIn_r _ [7, 8, 9, 18, 19, 20, 21, 22, 23, 24, 25, 26] (by decide +kernel) (by decide +kernel)
set_option maxRecDepth 20000 in
theorem gX7_readStep_X7_at : GoodIn wsX7_readStep (wsV RX7 126 RX7 yX7_at wsX7_at) := goodIn_app (goodIn_of _ (by decide +kernel)) ggX7_readStep_X7_at
set_option maxRecDepth 20000 in
theorem ggX7_readStep_X7_readNumber : GoodIn wsX7_readStep wsX7_readNumber := goodIn_r _ [13, 14, 3, 4, 5, 6, 7, 8, 9, 15, 16, 17, 18, 19, 20, 21, 22, 23, 24, 25, 26] (by decide +kernel) (by decide +kernel)
set_option maxRecDepth 20000 in
theorem gX7_readStep_X7_readNumber : GoodIn wsX7_readStep (wsV RX7 132 RX7 yX7_readNumber wsX7_readNumber) := goodIn_app (goodIn_of _ (by decide +kernel)) ggX7_readStep_X7_readNumber
set_option maxRecDepth 20000 in
theorem ggX7_readStep_X7_in : GoodIn wsX7_readStep wsX7_in := goodIn_r _ [17] (by decide +kernel) (by decide +kernel)
set_option maxRecDepth 20000 in
theorem gX7_readStep_X7_in : GoodIn wsX7_readStep (va_wsS RX7 22 yX7_in wsX7_in) := goodIn_app (goodIn_of _ (by decide +kernel)) ggX7_readStep_X7_in
theorem dX7_readStep_0 : decode cX7_readStep 0 = .ok (.aload_n 0, 1) := by decide +kernel
theorem dX7_readStep_1 : decode cX7_readStep 1 = .ok (.iconst (-1), 1) := by decide +kernel
theorem dX7_readStep_2 : decode cX7_readStep 2 = .ok (.putfield 129, 3) := by decide +kernel
theorem dX7_readStep_5 : decode cX7_readStep 5 = .ok (.aload_n 0, 1) := by decide +kernel
theorem dX7_readStep_6 : decode cX7_readStep 6 = .ok (.iload_n 1, 1) := by decide +kernel
theorem dX7_readStep_7 : decode cX7_readStep 7 = .ok (.invokevirtual 126, 3) := by decide +kernel
theorem dX7_readStep_10 : decode cX7_readStep 10 = .ok (.bipush 43, 2) := by decide +kernel
theorem dX7_readStep_12 : decode cX7_readStep 12 = .ok (.if_icmp .ne 13, 3) := by decide +kernel
theorem dX7_readStep_15 : decode cX7_readStep 15 = .ok (.aload_n 0, 1) := by decide +kernel
theorem dX7_readStep_16 : decode cX7_readStep 16 = .ok (.iload_n 1, 1) := by decide +kernel
theorem dX7_readStep_17 : decode cX7_readStep 17 = .ok (.iconst 1, 1) := by decide +kernel
theorem dX7_readStep_18 : decode cX7_readStep 18 = .ok (.iadd, 1) := by decide +kernel
theorem dX7_readStep_19 : decode cX7_readStep 19 = .ok (.bipush 99, 2) := by decide +kernel
theorem dX7_readStep_21 : decode cX7_readStep 21 = .ok (.invokevirtual 132, 3) := by decide +kernel
theorem dX7_readStep_24 : decode cX7_readStep 24 = .ok (.ireturn, 1) := by decide +kernel
theorem dX7_readStep_25 : decode cX7_readStep 25 = .ok (.aload_n 0, 1) := by decide +kernel
theorem dX7_readStep_26 : decode cX7_readStep 26 = .ok (.iload_n 1, 1) := by decide +kernel
theorem dX7_readStep_27 : decode cX7_readStep 27 = .ok (.invokevirtual 126, 3) := by decide +kernel
theorem dX7_readStep_30 : decode cX7_readStep 30 = .ok (.bipush 48, 2) := by decide +kernel
theorem dX7_readStep_32 : decode cX7_readStep 32 = .ok (.bipush 50, 2) := by decide +kernel
theorem dX7_readStep_34 : decode cX7_readStep 34 = .ok (.invokestatic 22, 3) := by decide +kernel
theorem dX7_readStep_37 : decode cX7_readStep 37 = .ok (.ifCond .ne 7, 3) := by decide +kernel
theorem dX7_readStep_40 : decode cX7_readStep 40 = .ok (.iconst (-1), 1) := by decide +kernel
theorem dX7_readStep_41 : decode cX7_readStep 41 = .ok (.iload_n 1, 1) := by decide +kernel
theorem dX7_readStep_42 : decode cX7_readStep 42 = .ok (.isub, 1) := by decide +kernel
theorem dX7_readStep_43 : decode cX7_readStep 43 = .ok (.ireturn, 1) := by decide +kernel
theorem dX7_readStep_44 : decode cX7_readStep 44 = .ok (.aload_n 0, 1) := by decide +kernel
theorem dX7_readStep_45 : decode cX7_readStep 45 = .ok (.iload_n 1, 1) := by decide +kernel
theorem dX7_readStep_46 : decode cX7_readStep 46 = .ok (.iconst 1, 1) := by decide +kernel
theorem dX7_readStep_47 : decode cX7_readStep 47 = .ok (.iadd, 1) := by decide +kernel
theorem dX7_readStep_48 : decode cX7_readStep 48 = .ok (.invokevirtual 126, 3) := by decide +kernel
theorem dX7_readStep_51 : decode cX7_readStep 51 = .ok (.bipush 97, 2) := by decide +kernel
theorem dX7_readStep_53 : decode cX7_readStep 53 = .ok (.bipush 101, 2) := by decide +kernel
theorem dX7_readStep_55 : decode cX7_readStep 55 = .ok (.invokestatic 22, 3) := by decide +kernel
theorem dX7_readStep_58 : decode cX7_readStep 58 = .ok (.ifCond .ne 8, 3) := by decide +kernel
theorem dX7_readStep_61 : decode cX7_readStep 61 = .ok (.bipush (-2), 2) := by decide +kernel
theorem dX7_readStep_63 : decode cX7_readStep 63 = .ok (.iload_n 1, 1) := by decide +kernel
theorem dX7_readStep_64 : decode cX7_readStep 64 = .ok (.isub, 1) := by decide +kernel
theorem dX7_readStep_65 : decode cX7_readStep 65 = .ok (.ireturn, 1) := by decide +kernel
theorem dX7_readStep_66 : decode cX7_readStep 66 = .ok (.aload_n 0, 1) := by decide +kernel
theorem dX7_readStep_67 : decode cX7_readStep 67 = .ok (.aload_n 0, 1) := by decide +kernel
theorem dX7_readStep_68 : decode cX7_readStep 68 = .ok (.iload_n 1, 1) := by decide +kernel
theorem dX7_readStep_69 : decode cX7_readStep 69 = .ok (.invokevirtual 126, 3) := by decide +kernel
theorem dX7_readStep_72 : decode cX7_readStep 72 = .ok (.bipush 48, 2) := by decide +kernel
theorem dX7_readStep_74 : decode cX7_readStep 74 = .ok (.isub, 1) := by decide +kernel
theorem dX7_readStep_75 : decode cX7_readStep 75 = .ok (.putfield 129, 3) := by decide +kernel
theorem dX7_readStep_78 : decode cX7_readStep 78 = .ok (.aload_n 0, 1) := by decide +kernel
theorem dX7_readStep_79 : decode cX7_readStep 79 = .ok (.aload_n 0, 1) := by decide +kernel
theorem dX7_readStep_80 : decode cX7_readStep 80 = .ok (.iload_n 1, 1) := by decide +kernel
theorem dX7_readStep_81 : decode cX7_readStep 81 = .ok (.iconst 1, 1) := by decide +kernel
theorem dX7_readStep_82 : decode cX7_readStep 82 = .ok (.iadd, 1) := by decide +kernel
theorem dX7_readStep_83 : decode cX7_readStep 83 = .ok (.invokevirtual 126, 3) := by decide +kernel
theorem dX7_readStep_86 : decode cX7_readStep 86 = .ok (.bipush 97, 2) := by decide +kernel
theorem dX7_readStep_88 : decode cX7_readStep 88 = .ok (.isub, 1) := by decide +kernel
theorem dX7_readStep_89 : decode cX7_readStep 89 = .ok (.putfield 135, 3) := by decide +kernel
theorem dX7_readStep_92 : decode cX7_readStep 92 = .ok (.aload_n 0, 1) := by decide +kernel
theorem dX7_readStep_93 : decode cX7_readStep 93 = .ok (.iload_n 1, 1) := by decide +kernel
theorem dX7_readStep_94 : decode cX7_readStep 94 = .ok (.iconst 2, 1) := by decide +kernel
theorem dX7_readStep_95 : decode cX7_readStep 95 = .ok (.iadd, 1) := by decide +kernel
theorem dX7_readStep_96 : decode cX7_readStep 96 = .ok (.bipush 60, 2) := by decide +kernel
theorem dX7_readStep_98 : decode cX7_readStep 98 = .ok (.invokevirtual 132, 3) := by decide +kernel
theorem dX7_readStep_101 : decode cX7_readStep 101 = .ok (.ireturn, 1) := by decide +kernel
set_option maxRecDepth 20000 in
theorem ggX7_findFault_X7_readStep : GoodIn wsX7_findFault wsX7_readStep := goodIn_r _ [8, 9, 10, 11, 12, 13, 7, 14, 1, 3, 15, 16, 17, 18, 19, 20, 21, 22, 23, 24, 25, 26, 27, 28, 29, 30, 31] (by decide +kernel) (by decide +kernel)
set_option maxRecDepth 20000 in
theorem gX7_findFault_X7_readStep : GoodIn wsX7_findFault (wsV RX7 138 RX7 yX7_readStep wsX7_readStep) := goodIn_app (goodIn_of _ (by decide +kernel)) ggX7_findFault_X7_readStep
theorem dX7_findFault_0 : decode cX7_findFault 0 = .ok (.iconst 0, 1) := by decide +kernel
theorem dX7_findFault_1 : decode cX7_findFault 1 = .ok (.istore_n 1, 1) := by decide +kernel
theorem dX7_findFault_2 : decode cX7_findFault 2 = .ok (.aload_n 0, 1) := by decide +kernel
theorem dX7_findFault_3 : decode cX7_findFault 3 = .ok (.iload_n 1, 1) := by decide +kernel
theorem dX7_findFault_4 : decode cX7_findFault 4 = .ok (.invokevirtual 138, 3) := by decide +kernel
theorem dX7_findFault_7 : decode cX7_findFault 7 = .ok (.istore_n 1, 1) := by decide +kernel
theorem dX7_findFault_8 : decode cX7_findFault 8 = .ok (.iload_n 1, 1) := by decide +kernel
theorem dX7_findFault_9 : decode cX7_findFault 9 = .ok (.ifCond .ge 7, 3) := by decide +kernel
theorem dX7_findFault_12 : decode cX7_findFault 12 = .ok (.iconst (-1), 1) := by decide +kernel
theorem dX7_findFault_13 : decode cX7_findFault 13 = .ok (.iload_n 1, 1) := by decide +kernel
theorem dX7_findFault_14 : decode cX7_findFault 14 = .ok (.isub, 1) := by decide +kernel
theorem dX7_findFault_15 : decode cX7_findFault 15 = .ok (.ireturn, 1) := by decide +kernel
theorem dX7_findFault_16 : decode cX7_findFault 16 = .ok (.iload_n 1, 1) := by decide +kernel
theorem dX7_findFault_17 : decode cX7_findFault 17 = .ok (.aload_n 0, 1) := by decide +kernel
theorem dX7_findFault_18 : decode cX7_findFault 18 = .ok (.getfield 120, 3) := by decide +kernel
theorem dX7_findFault_21 : decode cX7_findFault 21 = .ok (.if_icmp .ne 6, 3) := by decide +kernel
theorem dX7_findFault_24 : decode cX7_findFault 24 = .ok (.ldc 30, 2) := by decide +kernel
theorem dX7_findFault_26 : decode cX7_findFault 26 = .ok (.ireturn, 1) := by decide +kernel
theorem dX7_findFault_27 : decode cX7_findFault 27 = .ok (.aload_n 0, 1) := by decide +kernel
theorem dX7_findFault_28 : decode cX7_findFault 28 = .ok (.getfield 19, 3) := by decide +kernel
theorem dX7_findFault_31 : decode cX7_findFault 31 = .ok (.iload_n 1, 1) := by decide +kernel
theorem dX7_findFault_32 : decode cX7_findFault 32 = .ok (.iaload, 1) := by decide +kernel
theorem dX7_findFault_33 : decode cX7_findFault 33 = .ok (.bipush 59, 2) := by decide +kernel
theorem dX7_findFault_35 : decode cX7_findFault 35 = .ok (.if_icmp .eq 5, 3) := by decide +kernel
theorem dX7_findFault_38 : decode cX7_findFault 38 = .ok (.iload_n 1, 1) := by decide +kernel
theorem dX7_findFault_39 : decode cX7_findFault 39 = .ok (.ireturn, 1) := by decide +kernel
theorem dX7_findFault_40 : decode cX7_findFault 40 = .ok (.iinc 1 1, 3) := by decide +kernel
theorem dX7_findFault_43 : decode cX7_findFault 43 = .ok (.goto (-41), 3) := by decide +kernel
set_option maxRecDepth 20000 in
theorem ggX7_fault_X7_findFault : GoodIn wsX7_fault wsX7_findFault := goodIn_r _ [5, 6, 7, 8, 9, 10, 11, 4, 12, 13, 14, 15, 16, 17, 18, 19, 20, 21, 22, 23, 24, 25, 26, 27, 28, 29, 30, 31, 32, 33, 34, 35] (by decide +kernel) (by decide +kernel)
set_option maxRecDepth 20000 in
theorem gX7_fault_X7_findFault : GoodIn wsX7_fault (wsV RX7 141 RX7 yX7_findFault wsX7_findFault) := goodIn_app (goodIn_of _ (by decide +kernel)) ggX7_fault_X7_findFault
theorem dX7_fault_0 : decode cX7_fault 0 = .ok (.aload_n 0, 1) := by decide +kernel
theorem dX7_fault_1 : decode cX7_fault 1 = .ok (.invokevirtual 141, 3) := by decide +kernel
theorem dX7_fault_4 : decode cX7_fault 4 = .ok (.ireturn, 1) := by decide +kernel
set_option maxRecDepth 20000 in
theorem ggX7_run_X7_findFault : GoodIn wsX7_run wsX7_findFault := goodIn_r _ [10, 2, 11, 12, 13, 14, 15, 9, 16, 3, 5, 17, 18, 19, 20, 21, 22, 23, 24, 4, 25, 26, 27, 124, 125, 126, 127, 128, 129, 130, 131, 132] (by decide +kernel) (by decide +kernel)
set_option maxRecDepth 20000 in
theorem gX7_run_X7_findFault : GoodIn wsX7_run (wsV RX7 141 RX7 yX7_findFault wsX7_findFault) := goodIn_app (goodIn_of _ (by decide +kernel)) ggX7_run_X7_findFault
set_option maxRecDepth 20000 in
theorem ggX7_run_X7_record : GoodIn wsX7_run wsX7_record := goodIn_r _ [31, 32, 33, 34, 124, 125, 126, 127, 128, 129, 130, 131, 132] (by decide +kernel) (by decide +kernel)
set_option maxRecDepth 20000 in
theorem gX7_run_X7_record : GoodIn wsX7_run (wsV RX7 91 RX7 yX7_record wsX7_record) := goodIn_app (goodIn_of _ (by decide +kernel)) ggX7_run_X7_record
set_option maxRecDepth 20000 in
theorem ggX7_run_X7_readStep : GoodIn wsX7_run wsX7_readStep := goodIn_r _ [16, 3, 5, 17, 18, 19, 9, 20, 2, 12, 21, 22, 23, 24, 4, 25, 26, 27, 124, 125, 126, 127, 128, 129, 130, 131, 132] (by decide +kernel) (by decide +kernel)
set_option maxRecDepth 20000 in
theorem gX7_run_X7_readStep : GoodIn wsX7_run (wsV RX7 138 RX7 yX7_readStep wsX7_readStep) := goodIn_app (goodIn_of _ (by decide +kernel)) ggX7_run_X7_readStep
set_option maxRecDepth 20000 in
theorem ggX7_run_X7_noAdvance : GoodIn wsX7_run wsX7_noAdvance := goodIn_r _ [38, 39, 34, 40, 25, 26, 9, 27, 124, 125, 126, 127, 128, 129, 130, 131, 132] (by decide +kernel) (by decide +kernel)
set_option maxRecDepth 20000 in
theorem gX7_run_X7_noAdvance : GoodIn wsX7_run (wsV RX7 114 RX7 yX7_noAdvance wsX7_noAdvance) := goodIn_app (goodIn_of _ (by decide +kernel)) ggX7_run_X7_noAdvance
set_option maxRecDepth 20000 in
theorem ggX7_run_X7_noOffer : GoodIn wsX7_run wsX7_noOffer := goodIn_r _ [44, 45, 39, 34, 40, 46, 47, 9, 48, 25, 26, 27, 49, 50, 51, 124, 125, 126, 127, 128, 129, 130, 131, 132] (by decide +kernel) (by decide +kernel)
set_option maxRecDepth 20000 in
theorem gX7_run_X7_noOffer : GoodIn wsX7_run (wsV RX7 104 RX7 yX7_noOffer wsX7_noOffer) := goodIn_app (goodIn_of _ (by decide +kernel)) ggX7_run_X7_noOffer
set_option maxRecDepth 20000 in
theorem ggX7_run_X7_doAdvance : GoodIn wsX7_run wsX7_doAdvance := goodIn_r _ [55, 56, 57, 58, 9, 59, 34, 60, 61, 62, 63, 64, 65, 66, 67, 68, 69, 70, 71, 72, 73, 74, 75, 76, 77, 78, 79, 80, 81, 82, 83, 84, 85, 86, 87, 88, 89, 90, 91, 92, 93, 94, 95, 96, 97, 98, 99, 11, 100, 101, 102, 103, 104, 105, 106, 107, 108, 109, 110, 111, 112, 113, 114, 115, 116, 117, 118, 119, 124, 125, 126, 127, 128, 129, 130, 131, 132] (by decide +kernel) (by decide +kernel)
set_option maxRecDepth 20000 in
theorem gX7_run_X7_doAdvance : GoodIn wsX7_run (wsV RX7 117 RX7 yX7_doAdvance wsX7_doAdvance) := goodIn_app (goodIn_of _ (by decide +kernel)) ggX7_run_X7_doAdvance
set_option maxRecDepth 20000 in
theorem ggX7_run_X7_doOffer : GoodIn wsX7_run wsX7_doOffer := goodIn_r _ [123, 34, 76, 77, 78, 9, 79, 72, 73, 74, 75, 68, 69, 70, 71, 80, 81, 82, 83, 84, 85, 86, 87, 60, 61, 62, 63, 88, 89, 90, 91, 92, 93, 94, 95, 96, 97, 98, 99, 11, 100, 101, 102, 103, 124, 125, 126, 127, 128, 129, 130, 131, 132] (by decide +kernel) (by decide +kernel)
set_option maxRecDepth 20000 in
theorem gX7_run_X7_doOffer : GoodIn wsX7_run (wsV RX7 108 RX7 yX7_doOffer wsX7_doOffer) := goodIn_app (goodIn_of _ (by decide +kernel)) ggX7_run_X7_doOffer
theorem dX7_run_0 : decode cX7_run 0 = .ok (.aload_n 0, 1) := by decide +kernel
theorem dX7_run_1 : decode cX7_run 1 = .ok (.invokevirtual 141, 3) := by decide +kernel
theorem dX7_run_4 : decode cX7_run 4 = .ok (.ifCond .lt 6, 3) := by decide +kernel
theorem dX7_run_7 : decode cX7_run 7 = .ok (.ldc 144, 2) := by decide +kernel
theorem dX7_run_9 : decode cX7_run 9 = .ok (.ireturn, 1) := by decide +kernel
theorem dX7_run_10 : decode cX7_run 10 = .ok (.aload_n 0, 1) := by decide +kernel
theorem dX7_run_11 : decode cX7_run 11 = .ok (.invokevirtual 91, 3) := by decide +kernel
theorem dX7_run_14 : decode cX7_run 14 = .ok (.iconst 0, 1) := by decide +kernel
theorem dX7_run_15 : decode cX7_run 15 = .ok (.istore_n 1, 1) := by decide +kernel
theorem dX7_run_16 : decode cX7_run 16 = .ok (.iconst 0, 1) := by decide +kernel
theorem dX7_run_17 : decode cX7_run 17 = .ok (.istore_n 2, 1) := by decide +kernel
theorem dX7_run_18 : decode cX7_run 18 = .ok (.iconst 1, 1) := by decide +kernel
theorem dX7_run_19 : decode cX7_run 19 = .ok (.istore_n 3, 1) := by decide +kernel
theorem dX7_run_20 : decode cX7_run 20 = .ok (.iload_n 3, 1) := by decide +kernel
theorem dX7_run_21 : decode cX7_run 21 = .ok (.ifCond .eq 119, 3) := by decide +kernel
theorem dX7_run_24 : decode cX7_run 24 = .ok (.iload_n 2, 1) := by decide +kernel
theorem dX7_run_25 : decode cX7_run 25 = .ok (.aload_n 0, 1) := by decide +kernel
theorem dX7_run_26 : decode cX7_run 26 = .ok (.getfield 120, 3) := by decide +kernel
theorem dX7_run_29 : decode cX7_run 29 = .ok (.if_icmp .ge 111, 3) := by decide +kernel
theorem dX7_run_32 : decode cX7_run 32 = .ok (.aload_n 0, 1) := by decide +kernel
theorem dX7_run_33 : decode cX7_run 33 = .ok (.iload_n 2, 1) := by decide +kernel
theorem dX7_run_34 : decode cX7_run 34 = .ok (.invokevirtual 138, 3) := by decide +kernel
theorem dX7_run_37 : decode cX7_run 37 = .ok (.iconst 1, 1) := by decide +kernel
theorem dX7_run_38 : decode cX7_run 38 = .ok (.iadd, 1) := by decide +kernel
theorem dX7_run_39 : decode cX7_run 39 = .ok (.istore_n 2, 1) := by decide +kernel
theorem dX7_run_40 : decode cX7_run 40 = .ok (.aload_n 0, 1) := by decide +kernel
theorem dX7_run_41 : decode cX7_run 41 = .ok (.getfield 129, 3) := by decide +kernel
theorem dX7_run_44 : decode cX7_run 44 = .ok (.istore 4, 2) := by decide +kernel
theorem dX7_run_46 : decode cX7_run 46 = .ok (.iload 4, 2) := by decide +kernel
theorem dX7_run_48 : decode cX7_run 48 = .ok (.ifCond .ge 14, 3) := by decide +kernel
theorem dX7_run_51 : decode cX7_run 51 = .ok (.aload_n 0, 1) := by decide +kernel
theorem dX7_run_52 : decode cX7_run 52 = .ok (.aload_n 0, 1) := by decide +kernel
theorem dX7_run_53 : decode cX7_run 53 = .ok (.getfield 123, 3) := by decide +kernel
theorem dX7_run_56 : decode cX7_run 56 = .ok (.invokevirtual 114, 3) := by decide +kernel
theorem dX7_run_59 : decode cX7_run 59 = .ok (.goto 17, 3) := by decide +kernel
theorem dX7_run_62 : decode cX7_run 62 = .ok (.aload_n 0, 1) := by decide +kernel
theorem dX7_run_63 : decode cX7_run 63 = .ok (.iload 4, 2) := by decide +kernel
theorem dX7_run_65 : decode cX7_run 65 = .ok (.aload_n 0, 1) := by decide +kernel
theorem dX7_run_66 : decode cX7_run 66 = .ok (.getfield 135, 3) := by decide +kernel
theorem dX7_run_69 : decode cX7_run 69 = .ok (.aload_n 0, 1) := by decide +kernel
theorem dX7_run_70 : decode cX7_run 70 = .ok (.getfield 123, 3) := by decide +kernel
theorem dX7_run_73 : decode cX7_run 73 = .ok (.invokevirtual 104, 3) := by decide +kernel
theorem dX7_run_76 : decode cX7_run 76 = .ok (.ifCond .ne 7, 3) := by decide +kernel
theorem dX7_run_79 : decode cX7_run 79 = .ok (.iconst 1, 1) := by decide +kernel
theorem dX7_run_80 : decode cX7_run 80 = .ok (.goto 4, 3) := by decide +kernel
theorem dX7_run_83 : decode cX7_run 83 = .ok (.iconst 0, 1) := by decide +kernel
theorem dX7_run_84 : decode cX7_run 84 = .ok (.istore_n 3, 1) := by decide +kernel
theorem dX7_run_85 : decode cX7_run 85 = .ok (.iload_n 3, 1) := by decide +kernel
theorem dX7_run_86 : decode cX7_run 86 = .ok (.ifCond .eq 20, 3) := by decide +kernel
theorem dX7_run_89 : decode cX7_run 89 = .ok (.iload 4, 2) := by decide +kernel
theorem dX7_run_91 : decode cX7_run 91 = .ok (.ifCond .ge 15, 3) := by decide +kernel
theorem dX7_run_94 : decode cX7_run 94 = .ok (.aload_n 0, 1) := by decide +kernel
theorem dX7_run_95 : decode cX7_run 95 = .ok (.aload_n 0, 1) := by decide +kernel
theorem dX7_run_96 : decode cX7_run 96 = .ok (.getfield 123, 3) := by decide +kernel
theorem dX7_run_99 : decode cX7_run 99 = .ok (.invokevirtual 117, 3) := by decide +kernel
theorem dX7_run_102 : decode cX7_run 102 = .ok (.pop, 1) := by decide +kernel
theorem dX7_run_103 : decode cX7_run 103 = .ok (.goto 22, 3) := by decide +kernel
theorem dX7_run_106 : decode cX7_run 106 = .ok (.iload_n 3, 1) := by decide +kernel
theorem dX7_run_107 : decode cX7_run 107 = .ok (.ifCond .eq 18, 3) := by decide +kernel
theorem dX7_run_110 : decode cX7_run 110 = .ok (.aload_n 0, 1) := by decide +kernel
theorem dX7_run_111 : decode cX7_run 111 = .ok (.iload 4, 2) := by decide +kernel
theorem dX7_run_113 : decode cX7_run 113 = .ok (.aload_n 0, 1) := by decide +kernel
theorem dX7_run_114 : decode cX7_run 114 = .ok (.getfield 135, 3) := by decide +kernel
theorem dX7_run_117 : decode cX7_run 117 = .ok (.aload_n 0, 1) := by decide +kernel
theorem dX7_run_118 : decode cX7_run 118 = .ok (.getfield 123, 3) := by decide +kernel
theorem dX7_run_121 : decode cX7_run 121 = .ok (.invokevirtual 108, 3) := by decide +kernel
theorem dX7_run_124 : decode cX7_run 124 = .ok (.pop, 1) := by decide +kernel
theorem dX7_run_125 : decode cX7_run 125 = .ok (.iload_n 1, 1) := by decide +kernel
theorem dX7_run_126 : decode cX7_run 126 = .ok (.iload_n 3, 1) := by decide +kernel
theorem dX7_run_127 : decode cX7_run 127 = .ok (.ifCond .eq 7, 3) := by decide +kernel
theorem dX7_run_130 : decode cX7_run 130 = .ok (.iconst 1, 1) := by decide +kernel
theorem dX7_run_131 : decode cX7_run 131 = .ok (.goto 4, 3) := by decide +kernel
theorem dX7_run_134 : decode cX7_run 134 = .ok (.iconst 0, 1) := by decide +kernel
theorem dX7_run_135 : decode cX7_run 135 = .ok (.iadd, 1) := by decide +kernel
theorem dX7_run_136 : decode cX7_run 136 = .ok (.istore_n 1, 1) := by decide +kernel
theorem dX7_run_137 : decode cX7_run 137 = .ok (.goto (-117), 3) := by decide +kernel
theorem dX7_run_140 : decode cX7_run 140 = .ok (.iload_n 1, 1) := by decide +kernel
theorem dX7_run_141 : decode cX7_run 141 = .ok (.ireturn, 1) := by decide +kernel
set_option maxRecDepth 20000 in
theorem ggX7_setting_X7_in : GoodIn wsX7_setting wsX7_in := goodIn_r _ [6] (by decide +kernel) (by decide +kernel)
set_option maxRecDepth 20000 in
theorem gX7_setting_X7_in : GoodIn wsX7_setting (va_wsS RX7 22 yX7_in wsX7_in) := goodIn_app (goodIn_of _ (by decide +kernel)) ggX7_setting_X7_in
theorem dX7_setting_0 : decode cX7_setting 0 = .ok (.iload_n 1, 1) := by decide +kernel
theorem dX7_setting_1 : decode cX7_setting 1 = .ok (.iconst 0, 1) := by decide +kernel
theorem dX7_setting_2 : decode cX7_setting 2 = .ok (.iconst 3, 1) := by decide +kernel
theorem dX7_setting_3 : decode cX7_setting 3 = .ok (.invokestatic 22, 3) := by decide +kernel
theorem dX7_setting_6 : decode cX7_setting 6 = .ok (.ifCond .eq 14, 3) := by decide +kernel
theorem dX7_setting_9 : decode cX7_setting 9 = .ok (.aload_n 0, 1) := by decide +kernel
theorem dX7_setting_10 : decode cX7_setting 10 = .ok (.getfield 7, 3) := by decide +kernel
theorem dX7_setting_13 : decode cX7_setting 13 = .ok (.iconst 0, 1) := by decide +kernel
theorem dX7_setting_14 : decode cX7_setting 14 = .ok (.iload_n 1, 1) := by decide +kernel
theorem dX7_setting_15 : decode cX7_setting 15 = .ok (.iadd, 1) := by decide +kernel
theorem dX7_setting_16 : decode cX7_setting 16 = .ok (.iaload, 1) := by decide +kernel
theorem dX7_setting_17 : decode cX7_setting 17 = .ok (.goto 5, 3) := by decide +kernel
theorem dX7_setting_20 : decode cX7_setting 20 = .ok (.ldc 83, 2) := by decide +kernel
theorem dX7_setting_22 : decode cX7_setting 22 = .ok (.ireturn, 1) := by decide +kernel
set_option maxRecDepth 20000 in
theorem ggX7_classSetting_X7_isClass : GoodIn wsX7_classSetting wsX7_isClass := goodIn_r _ [5, 6, 7, 4, 8] (by decide +kernel) (by decide +kernel)
set_option maxRecDepth 20000 in
theorem gX7_classSetting_X7_isClass : GoodIn wsX7_classSetting (va_wsS RX7 94 yX7_isClass wsX7_isClass) := goodIn_app (goodIn_of _ (by decide +kernel)) ggX7_classSetting_X7_isClass
set_option maxRecDepth 20000 in
theorem ggX7_classSetting_X7_in : GoodIn wsX7_classSetting wsX7_in := goodIn_r _ [8] (by decide +kernel) (by decide +kernel)
set_option maxRecDepth 20000 in
theorem gX7_classSetting_X7_in : GoodIn wsX7_classSetting (va_wsS RX7 22 yX7_in wsX7_in) := goodIn_app (goodIn_of _ (by decide +kernel)) ggX7_classSetting_X7_in
set_option maxRecDepth 20000 in
theorem ggX7_classSetting_X7_ofClass : GoodIn wsX7_classSetting wsX7_ofClass := goodIn_r _ [12, 13, 14, 15, 16, 17, 18, 19, 20, 21, 22] (by decide +kernel) (by decide +kernel)
set_option maxRecDepth 20000 in
theorem gX7_classSetting_X7_ofClass : GoodIn wsX7_classSetting (wsV RX7 38 RX7 yX7_ofClass wsX7_ofClass) := goodIn_app (goodIn_of _ (by decide +kernel)) ggX7_classSetting_X7_ofClass
theorem dX7_classSetting_0 : decode cX7_classSetting 0 = .ok (.iload_n 1, 1) := by decide +kernel
theorem dX7_classSetting_1 : decode cX7_classSetting 1 = .ok (.invokestatic 94, 3) := by decide +kernel
theorem dX7_classSetting_4 : decode cX7_classSetting 4 = .ok (.ifCond .eq 21, 3) := by decide +kernel
theorem dX7_classSetting_7 : decode cX7_classSetting 7 = .ok (.iload_n 2, 1) := by decide +kernel
theorem dX7_classSetting_8 : decode cX7_classSetting 8 = .ok (.iconst 0, 1) := by decide +kernel
theorem dX7_classSetting_9 : decode cX7_classSetting 9 = .ok (.iconst 3, 1) := by decide +kernel
theorem dX7_classSetting_10 : decode cX7_classSetting 10 = .ok (.invokestatic 22, 3) := by decide +kernel
theorem dX7_classSetting_13 : decode cX7_classSetting 13 = .ok (.ifCond .eq 12, 3) := by decide +kernel
theorem dX7_classSetting_16 : decode cX7_classSetting 16 = .ok (.aload_n 0, 1) := by decide +kernel
theorem dX7_classSetting_17 : decode cX7_classSetting 17 = .ok (.iload_n 1, 1) := by decide +kernel
theorem dX7_classSetting_18 : decode cX7_classSetting 18 = .ok (.iload_n 2, 1) := by decide +kernel
theorem dX7_classSetting_19 : decode cX7_classSetting 19 = .ok (.invokevirtual 38, 3) := by decide +kernel
theorem dX7_classSetting_22 : decode cX7_classSetting 22 = .ok (.goto 5, 3) := by decide +kernel
theorem dX7_classSetting_25 : decode cX7_classSetting 25 = .ok (.ldc 83, 2) := by decide +kernel
theorem dX7_classSetting_27 : decode cX7_classSetting 27 = .ok (.ireturn, 1) := by decide +kernel
theorem dX7_clock_0 : decode cX7_clock 0 = .ok (.aload_n 0, 1) := by decide +kernel
theorem dX7_clock_1 : decode cX7_clock 1 = .ok (.getfield 7, 3) := by decide +kernel
theorem dX7_clock_4 : decode cX7_clock 4 = .ok (.bipush 67, 2) := by decide +kernel
theorem dX7_clock_6 : decode cX7_clock 6 = .ok (.iaload, 1) := by decide +kernel
theorem dX7_clock_7 : decode cX7_clock 7 = .ok (.ireturn, 1) := by decide +kernel
set_option maxRecDepth 20000 in
theorem ggX7_estimate_X7_isShape : GoodIn wsX7_estimate wsX7_isShape := goodIn_r _ [6, 7, 8, 5, 9] (by decide +kernel) (by decide +kernel)
set_option maxRecDepth 20000 in
theorem gX7_estimate_X7_isShape : GoodIn wsX7_estimate (va_wsS RX7 100 yX7_isShape wsX7_isShape) := goodIn_app (goodIn_of _ (by decide +kernel)) ggX7_estimate_X7_isShape
theorem dX7_estimate_0 : decode cX7_estimate 0 = .ok (.iload_n 1, 1) := by decide +kernel
theorem dX7_estimate_1 : decode cX7_estimate 1 = .ok (.invokestatic 100, 3) := by decide +kernel
theorem dX7_estimate_4 : decode cX7_estimate 4 = .ok (.ifCond .eq 15, 3) := by decide +kernel
theorem dX7_estimate_7 : decode cX7_estimate 7 = .ok (.aload_n 0, 1) := by decide +kernel
theorem dX7_estimate_8 : decode cX7_estimate 8 = .ok (.getfield 7, 3) := by decide +kernel
theorem dX7_estimate_11 : decode cX7_estimate 11 = .ok (.bipush 70, 2) := by decide +kernel
theorem dX7_estimate_13 : decode cX7_estimate 13 = .ok (.iload_n 1, 1) := by decide +kernel
theorem dX7_estimate_14 : decode cX7_estimate 14 = .ok (.iadd, 1) := by decide +kernel
theorem dX7_estimate_15 : decode cX7_estimate 15 = .ok (.iaload, 1) := by decide +kernel
theorem dX7_estimate_16 : decode cX7_estimate 16 = .ok (.goto 5, 3) := by decide +kernel
theorem dX7_estimate_19 : decode cX7_estimate 19 = .ok (.ldc 83, 2) := by decide +kernel
theorem dX7_estimate_21 : decode cX7_estimate 21 = .ok (.ireturn, 1) := by decide +kernel
set_option maxRecDepth 20000 in
theorem ggX7_tokens_X7_isClass : GoodIn wsX7_tokens wsX7_isClass := goodIn_r _ [6, 7, 8, 5, 9] (by decide +kernel) (by decide +kernel)
set_option maxRecDepth 20000 in
theorem gX7_tokens_X7_isClass : GoodIn wsX7_tokens (va_wsS RX7 94 yX7_isClass wsX7_isClass) := goodIn_app (goodIn_of _ (by decide +kernel)) ggX7_tokens_X7_isClass
theorem dX7_tokens_0 : decode cX7_tokens 0 = .ok (.iload_n 1, 1) := by decide +kernel
theorem dX7_tokens_1 : decode cX7_tokens 1 = .ok (.invokestatic 94, 3) := by decide +kernel
theorem dX7_tokens_4 : decode cX7_tokens 4 = .ok (.ifCond .eq 15, 3) := by decide +kernel
theorem dX7_tokens_7 : decode cX7_tokens 7 = .ok (.aload_n 0, 1) := by decide +kernel
theorem dX7_tokens_8 : decode cX7_tokens 8 = .ok (.getfield 7, 3) := by decide +kernel
theorem dX7_tokens_11 : decode cX7_tokens 11 = .ok (.bipush 16, 2) := by decide +kernel
theorem dX7_tokens_13 : decode cX7_tokens 13 = .ok (.iload_n 1, 1) := by decide +kernel
theorem dX7_tokens_14 : decode cX7_tokens 14 = .ok (.iadd, 1) := by decide +kernel
theorem dX7_tokens_15 : decode cX7_tokens 15 = .ok (.iaload, 1) := by decide +kernel
theorem dX7_tokens_16 : decode cX7_tokens 16 = .ok (.goto 5, 3) := by decide +kernel
theorem dX7_tokens_19 : decode cX7_tokens 19 = .ok (.ldc 83, 2) := by decide +kernel
theorem dX7_tokens_21 : decode cX7_tokens 21 = .ok (.ireturn, 1) := by decide +kernel
set_option maxRecDepth 20000 in
theorem ggX7_pass_X7_isClass : GoodIn wsX7_pass wsX7_isClass := goodIn_r _ [6, 7, 8, 5, 9] (by decide +kernel) (by decide +kernel)
set_option maxRecDepth 20000 in
theorem gX7_pass_X7_isClass : GoodIn wsX7_pass (va_wsS RX7 94 yX7_isClass wsX7_isClass) := goodIn_app (goodIn_of _ (by decide +kernel)) ggX7_pass_X7_isClass
theorem dX7_pass_0 : decode cX7_pass 0 = .ok (.iload_n 1, 1) := by decide +kernel
theorem dX7_pass_1 : decode cX7_pass 1 = .ok (.invokestatic 94, 3) := by decide +kernel
theorem dX7_pass_4 : decode cX7_pass 4 = .ok (.ifCond .eq 15, 3) := by decide +kernel
theorem dX7_pass_7 : decode cX7_pass 7 = .ok (.aload_n 0, 1) := by decide +kernel
theorem dX7_pass_8 : decode cX7_pass 8 = .ok (.getfield 7, 3) := by decide +kernel
theorem dX7_pass_11 : decode cX7_pass 11 = .ok (.bipush 19, 2) := by decide +kernel
theorem dX7_pass_13 : decode cX7_pass 13 = .ok (.iload_n 1, 1) := by decide +kernel
theorem dX7_pass_14 : decode cX7_pass 14 = .ok (.iadd, 1) := by decide +kernel
theorem dX7_pass_15 : decode cX7_pass 15 = .ok (.iaload, 1) := by decide +kernel
theorem dX7_pass_16 : decode cX7_pass 16 = .ok (.goto 5, 3) := by decide +kernel
theorem dX7_pass_19 : decode cX7_pass 19 = .ok (.ldc 83, 2) := by decide +kernel
theorem dX7_pass_21 : decode cX7_pass 21 = .ok (.ireturn, 1) := by decide +kernel
set_option maxRecDepth 20000 in
theorem ggX7_queued_X7_isClass : GoodIn wsX7_queued wsX7_isClass := goodIn_r _ [6, 7, 8, 5, 9] (by decide +kernel) (by decide +kernel)
set_option maxRecDepth 20000 in
theorem gX7_queued_X7_isClass : GoodIn wsX7_queued (va_wsS RX7 94 yX7_isClass wsX7_isClass) := goodIn_app (goodIn_of _ (by decide +kernel)) ggX7_queued_X7_isClass
theorem dX7_queued_0 : decode cX7_queued 0 = .ok (.iload_n 1, 1) := by decide +kernel
theorem dX7_queued_1 : decode cX7_queued 1 = .ok (.invokestatic 94, 3) := by decide +kernel
theorem dX7_queued_4 : decode cX7_queued 4 = .ok (.ifCond .eq 15, 3) := by decide +kernel
theorem dX7_queued_7 : decode cX7_queued 7 = .ok (.aload_n 0, 1) := by decide +kernel
theorem dX7_queued_8 : decode cX7_queued 8 = .ok (.getfield 7, 3) := by decide +kernel
theorem dX7_queued_11 : decode cX7_queued 11 = .ok (.bipush 25, 2) := by decide +kernel
theorem dX7_queued_13 : decode cX7_queued 13 = .ok (.iload_n 1, 1) := by decide +kernel
theorem dX7_queued_14 : decode cX7_queued 14 = .ok (.iadd, 1) := by decide +kernel
theorem dX7_queued_15 : decode cX7_queued 15 = .ok (.iaload, 1) := by decide +kernel
theorem dX7_queued_16 : decode cX7_queued 16 = .ok (.goto 5, 3) := by decide +kernel
theorem dX7_queued_19 : decode cX7_queued 19 = .ok (.ldc 83, 2) := by decide +kernel
theorem dX7_queued_21 : decode cX7_queued 21 = .ok (.ireturn, 1) := by decide +kernel
set_option maxRecDepth 20000 in
theorem ggX7_queuedAt_X7_isClass : GoodIn wsX7_queuedAt wsX7_isClass := goodIn_r _ [8, 9, 10, 7, 11] (by decide +kernel) (by decide +kernel)
set_option maxRecDepth 20000 in
theorem gX7_queuedAt_X7_isClass : GoodIn wsX7_queuedAt (va_wsS RX7 94 yX7_isClass wsX7_isClass) := goodIn_app (goodIn_of _ (by decide +kernel)) ggX7_queuedAt_X7_isClass
set_option maxRecDepth 20000 in
theorem ggX7_queuedAt_X7_inQueue : GoodIn wsX7_queuedAt wsX7_inQueue := goodIn_r _ [15, 3, 16, 17, 18, 19, 20, 21, 22, 23, 24] (by decide +kernel) (by decide +kernel)
set_option maxRecDepth 20000 in
theorem gX7_queuedAt_X7_inQueue : GoodIn wsX7_queuedAt (wsV RX7 31 RX7 yX7_inQueue wsX7_inQueue) := goodIn_app (goodIn_of _ (by decide +kernel)) ggX7_queuedAt_X7_inQueue
theorem dX7_queuedAt_0 : decode cX7_queuedAt 0 = .ok (.iload_n 1, 1) := by decide +kernel
theorem dX7_queuedAt_1 : decode cX7_queuedAt 1 = .ok (.invokestatic 94, 3) := by decide +kernel
theorem dX7_queuedAt_4 : decode cX7_queuedAt 4 = .ok (.ifCond .ne 6, 3) := by decide +kernel
theorem dX7_queuedAt_7 : decode cX7_queuedAt 7 = .ok (.ldc 83, 2) := by decide +kernel
theorem dX7_queuedAt_9 : decode cX7_queuedAt 9 = .ok (.ireturn, 1) := by decide +kernel
theorem dX7_queuedAt_10 : decode cX7_queuedAt 10 = .ok (.iload_n 2, 1) := by decide +kernel
theorem dX7_queuedAt_11 : decode cX7_queuedAt 11 = .ok (.ifCond .ge 6, 3) := by decide +kernel
theorem dX7_queuedAt_14 : decode cX7_queuedAt 14 = .ok (.ldc 90, 2) := by decide +kernel
theorem dX7_queuedAt_16 : decode cX7_queuedAt 16 = .ok (.ireturn, 1) := by decide +kernel
theorem dX7_queuedAt_17 : decode cX7_queuedAt 17 = .ok (.iload_n 2, 1) := by decide +kernel
theorem dX7_queuedAt_18 : decode cX7_queuedAt 18 = .ok (.aload_n 0, 1) := by decide +kernel
theorem dX7_queuedAt_19 : decode cX7_queuedAt 19 = .ok (.getfield 7, 3) := by decide +kernel
theorem dX7_queuedAt_22 : decode cX7_queuedAt 22 = .ok (.bipush 25, 2) := by decide +kernel
theorem dX7_queuedAt_24 : decode cX7_queuedAt 24 = .ok (.iload_n 1, 1) := by decide +kernel
theorem dX7_queuedAt_25 : decode cX7_queuedAt 25 = .ok (.iadd, 1) := by decide +kernel
theorem dX7_queuedAt_26 : decode cX7_queuedAt 26 = .ok (.iaload, 1) := by decide +kernel
theorem dX7_queuedAt_27 : decode cX7_queuedAt 27 = .ok (.if_icmp .ge 12, 3) := by decide +kernel
theorem dX7_queuedAt_30 : decode cX7_queuedAt 30 = .ok (.aload_n 0, 1) := by decide +kernel
theorem dX7_queuedAt_31 : decode cX7_queuedAt 31 = .ok (.iload_n 1, 1) := by decide +kernel
theorem dX7_queuedAt_32 : decode cX7_queuedAt 32 = .ok (.iload_n 2, 1) := by decide +kernel
theorem dX7_queuedAt_33 : decode cX7_queuedAt 33 = .ok (.invokevirtual 31, 3) := by decide +kernel
theorem dX7_queuedAt_36 : decode cX7_queuedAt 36 = .ok (.goto 5, 3) := by decide +kernel
theorem dX7_queuedAt_39 : decode cX7_queuedAt 39 = .ok (.ldc 30, 2) := by decide +kernel
theorem dX7_queuedAt_41 : decode cX7_queuedAt 41 = .ok (.ireturn, 1) := by decide +kernel
set_option maxRecDepth 20000 in
theorem ggX7_backlog_X7_isClass : GoodIn wsX7_backlog wsX7_isClass := goodIn_r _ [5, 6, 7, 4, 8] (by decide +kernel) (by decide +kernel)
set_option maxRecDepth 20000 in
theorem gX7_backlog_X7_isClass : GoodIn wsX7_backlog (va_wsS RX7 94 yX7_isClass wsX7_isClass) := goodIn_app (goodIn_of _ (by decide +kernel)) ggX7_backlog_X7_isClass
set_option maxRecDepth 20000 in
theorem ggX7_backlog_X7_backlogOf : GoodIn wsX7_backlog wsX7_backlogOf := goodIn_r _ [12, 13, 14, 15, 16, 4, 17, 18, 19, 20, 21, 22, 23, 24, 25, 26, 27, 28, 29, 30] (by decide +kernel) (by decide +kernel)
set_option maxRecDepth 20000 in
theorem gX7_backlog_X7_backlogOf : GoodIn wsX7_backlog (wsV RX7 41 RX7 yX7_backlogOf wsX7_backlogOf) := goodIn_app (goodIn_of _ (by decide +kernel)) ggX7_backlog_X7_backlogOf
theorem dX7_backlog_0 : decode cX7_backlog 0 = .ok (.iload_n 1, 1) := by decide +kernel
theorem dX7_backlog_1 : decode cX7_backlog 1 = .ok (.invokestatic 94, 3) := by decide +kernel
theorem dX7_backlog_4 : decode cX7_backlog 4 = .ok (.ifCond .eq 11, 3) := by decide +kernel
theorem dX7_backlog_7 : decode cX7_backlog 7 = .ok (.aload_n 0, 1) := by decide +kernel
theorem dX7_backlog_8 : decode cX7_backlog 8 = .ok (.iload_n 1, 1) := by decide +kernel
theorem dX7_backlog_9 : decode cX7_backlog 9 = .ok (.invokevirtual 41, 3) := by decide +kernel
theorem dX7_backlog_12 : decode cX7_backlog 12 = .ok (.goto 5, 3) := by decide +kernel
theorem dX7_backlog_15 : decode cX7_backlog 15 = .ok (.ldc 83, 2) := by decide +kernel
theorem dX7_backlog_17 : decode cX7_backlog 17 = .ok (.ireturn, 1) := by decide +kernel
set_option maxRecDepth 20000 in
theorem ggX7_worked_X7_isClass : GoodIn wsX7_worked wsX7_isClass := goodIn_r _ [6, 7, 8, 5, 9] (by decide +kernel) (by decide +kernel)
set_option maxRecDepth 20000 in
theorem gX7_worked_X7_isClass : GoodIn wsX7_worked (va_wsS RX7 94 yX7_isClass wsX7_isClass) := goodIn_app (goodIn_of _ (by decide +kernel)) ggX7_worked_X7_isClass
theorem dX7_worked_0 : decode cX7_worked 0 = .ok (.iload_n 1, 1) := by decide +kernel
theorem dX7_worked_1 : decode cX7_worked 1 = .ok (.invokestatic 94, 3) := by decide +kernel
theorem dX7_worked_4 : decode cX7_worked 4 = .ok (.ifCond .eq 15, 3) := by decide +kernel
theorem dX7_worked_7 : decode cX7_worked 7 = .ok (.aload_n 0, 1) := by decide +kernel
theorem dX7_worked_8 : decode cX7_worked 8 = .ok (.getfield 7, 3) := by decide +kernel
theorem dX7_worked_11 : decode cX7_worked 11 = .ok (.bipush 22, 2) := by decide +kernel
theorem dX7_worked_13 : decode cX7_worked 13 = .ok (.iload_n 1, 1) := by decide +kernel
theorem dX7_worked_14 : decode cX7_worked 14 = .ok (.iadd, 1) := by decide +kernel
theorem dX7_worked_15 : decode cX7_worked 15 = .ok (.iaload, 1) := by decide +kernel
theorem dX7_worked_16 : decode cX7_worked 16 = .ok (.goto 5, 3) := by decide +kernel
theorem dX7_worked_19 : decode cX7_worked 19 = .ok (.ldc 83, 2) := by decide +kernel
theorem dX7_worked_21 : decode cX7_worked 21 = .ok (.ireturn, 1) := by decide +kernel
set_option maxRecDepth 20000 in
theorem ggX7_refused_X7_isClass : GoodIn wsX7_refused wsX7_isClass := goodIn_r _ [6, 7, 8, 5, 9] (by decide +kernel) (by decide +kernel)
set_option maxRecDepth 20000 in
theorem gX7_refused_X7_isClass : GoodIn wsX7_refused (va_wsS RX7 94 yX7_isClass wsX7_isClass) := goodIn_app (goodIn_of _ (by decide +kernel)) ggX7_refused_X7_isClass
set_option maxRecDepth 20000 in
theorem ggX7_refused_X7_in : GoodIn wsX7_refused wsX7_in := goodIn_r _ [9] (by decide +kernel) (by decide +kernel)
set_option maxRecDepth 20000 in
theorem gX7_refused_X7_in : GoodIn wsX7_refused (va_wsS RX7 22 yX7_in wsX7_in) := goodIn_app (goodIn_of _ (by decide +kernel)) ggX7_refused_X7_in
theorem dX7_refused_0 : decode cX7_refused 0 = .ok (.iload_n 1, 1) := by decide +kernel
theorem dX7_refused_1 : decode cX7_refused 1 = .ok (.invokestatic 94, 3) := by decide +kernel
theorem dX7_refused_4 : decode cX7_refused 4 = .ok (.ifCond .eq 30, 3) := by decide +kernel
theorem dX7_refused_7 : decode cX7_refused 7 = .ok (.iload_n 2, 1) := by decide +kernel
theorem dX7_refused_8 : decode cX7_refused 8 = .ok (.iconst 1, 1) := by decide +kernel
theorem dX7_refused_9 : decode cX7_refused 9 = .ok (.iconst 5, 1) := by decide +kernel
theorem dX7_refused_10 : decode cX7_refused 10 = .ok (.invokestatic 22, 3) := by decide +kernel
theorem dX7_refused_13 : decode cX7_refused 13 = .ok (.ifCond .eq 21, 3) := by decide +kernel
theorem dX7_refused_16 : decode cX7_refused 16 = .ok (.aload_n 0, 1) := by decide +kernel
theorem dX7_refused_17 : decode cX7_refused 17 = .ok (.getfield 7, 3) := by decide +kernel
theorem dX7_refused_20 : decode cX7_refused 20 = .ok (.bipush 52, 2) := by decide +kernel
theorem dX7_refused_22 : decode cX7_refused 22 = .ok (.iconst 5, 1) := by decide +kernel
theorem dX7_refused_23 : decode cX7_refused 23 = .ok (.iload_n 1, 1) := by decide +kernel
theorem dX7_refused_24 : decode cX7_refused 24 = .ok (.imul, 1) := by decide +kernel
theorem dX7_refused_25 : decode cX7_refused 25 = .ok (.iadd, 1) := by decide +kernel
theorem dX7_refused_26 : decode cX7_refused 26 = .ok (.iload_n 2, 1) := by decide +kernel
theorem dX7_refused_27 : decode cX7_refused 27 = .ok (.iadd, 1) := by decide +kernel
theorem dX7_refused_28 : decode cX7_refused 28 = .ok (.iconst 1, 1) := by decide +kernel
theorem dX7_refused_29 : decode cX7_refused 29 = .ok (.isub, 1) := by decide +kernel
theorem dX7_refused_30 : decode cX7_refused 30 = .ok (.iaload, 1) := by decide +kernel
theorem dX7_refused_31 : decode cX7_refused 31 = .ok (.goto 5, 3) := by decide +kernel
theorem dX7_refused_34 : decode cX7_refused 34 = .ok (.ldc 83, 2) := by decide +kernel
theorem dX7_refused_36 : decode cX7_refused 36 = .ok (.ireturn, 1) := by decide +kernel
theorem dX7_idle_0 : decode cX7_idle 0 = .ok (.aload_n 0, 1) := by decide +kernel
theorem dX7_idle_1 : decode cX7_idle 1 = .ok (.getfield 7, 3) := by decide +kernel
theorem dX7_idle_4 : decode cX7_idle 4 = .ok (.bipush 68, 2) := by decide +kernel
theorem dX7_idle_6 : decode cX7_idle 6 = .ok (.iaload, 1) := by decide +kernel
theorem dX7_idle_7 : decode cX7_idle 7 = .ok (.ireturn, 1) := by decide +kernel
set_option maxRecDepth 20000 in
theorem ggX7_workShare_X7_isClass : GoodIn wsX7_workShare wsX7_isClass := goodIn_r _ [6, 7, 8, 5, 9] (by decide +kernel) (by decide +kernel)
set_option maxRecDepth 20000 in
theorem gX7_workShare_X7_isClass : GoodIn wsX7_workShare (va_wsS RX7 94 yX7_isClass wsX7_isClass) := goodIn_app (goodIn_of _ (by decide +kernel)) ggX7_workShare_X7_isClass
theorem dX7_workShare_0 : decode cX7_workShare 0 = .ok (.iload_n 1, 1) := by decide +kernel
theorem dX7_workShare_1 : decode cX7_workShare 1 = .ok (.invokestatic 94, 3) := by decide +kernel
theorem dX7_workShare_4 : decode cX7_workShare 4 = .ok (.ifCond .ne 6, 3) := by decide +kernel
theorem dX7_workShare_7 : decode cX7_workShare 7 = .ok (.ldc 145, 2) := by decide +kernel
theorem dX7_workShare_9 : decode cX7_workShare 9 = .ok (.freturn, 1) := by decide +kernel
theorem dX7_workShare_10 : decode cX7_workShare 10 = .ok (.aload_n 0, 1) := by decide +kernel
theorem dX7_workShare_11 : decode cX7_workShare 11 = .ok (.getfield 7, 3) := by decide +kernel
theorem dX7_workShare_14 : decode cX7_workShare 14 = .ok (.bipush 22, 2) := by decide +kernel
theorem dX7_workShare_16 : decode cX7_workShare 16 = .ok (.iaload, 1) := by decide +kernel
theorem dX7_workShare_17 : decode cX7_workShare 17 = .ok (.aload_n 0, 1) := by decide +kernel
theorem dX7_workShare_18 : decode cX7_workShare 18 = .ok (.getfield 7, 3) := by decide +kernel
theorem dX7_workShare_21 : decode cX7_workShare 21 = .ok (.bipush 23, 2) := by decide +kernel
theorem dX7_workShare_23 : decode cX7_workShare 23 = .ok (.iaload, 1) := by decide +kernel
theorem dX7_workShare_24 : decode cX7_workShare 24 = .ok (.iadd, 1) := by decide +kernel
theorem dX7_workShare_25 : decode cX7_workShare 25 = .ok (.aload_n 0, 1) := by decide +kernel
theorem dX7_workShare_26 : decode cX7_workShare 26 = .ok (.getfield 7, 3) := by decide +kernel
theorem dX7_workShare_29 : decode cX7_workShare 29 = .ok (.bipush 24, 2) := by decide +kernel
theorem dX7_workShare_31 : decode cX7_workShare 31 = .ok (.iaload, 1) := by decide +kernel
theorem dX7_workShare_32 : decode cX7_workShare 32 = .ok (.iadd, 1) := by decide +kernel
theorem dX7_workShare_33 : decode cX7_workShare 33 = .ok (.istore_n 2, 1) := by decide +kernel
theorem dX7_workShare_34 : decode cX7_workShare 34 = .ok (.iload_n 2, 1) := by decide +kernel
theorem dX7_workShare_35 : decode cX7_workShare 35 = .ok (.ifCond .ne 7, 3) := by decide +kernel
theorem dX7_workShare_38 : decode cX7_workShare 38 = .ok (.fconst 0, 1) := by decide +kernel
theorem dX7_workShare_39 : decode cX7_workShare 39 = .ok (.goto 16, 3) := by decide +kernel
theorem dX7_workShare_42 : decode cX7_workShare 42 = .ok (.aload_n 0, 1) := by decide +kernel
theorem dX7_workShare_43 : decode cX7_workShare 43 = .ok (.getfield 7, 3) := by decide +kernel
theorem dX7_workShare_46 : decode cX7_workShare 46 = .ok (.bipush 22, 2) := by decide +kernel
theorem dX7_workShare_48 : decode cX7_workShare 48 = .ok (.iload_n 1, 1) := by decide +kernel
theorem dX7_workShare_49 : decode cX7_workShare 49 = .ok (.iadd, 1) := by decide +kernel
theorem dX7_workShare_50 : decode cX7_workShare 50 = .ok (.iaload, 1) := by decide +kernel
theorem dX7_workShare_51 : decode cX7_workShare 51 = .ok (.i2f, 1) := by decide +kernel
theorem dX7_workShare_52 : decode cX7_workShare 52 = .ok (.iload_n 2, 1) := by decide +kernel
theorem dX7_workShare_53 : decode cX7_workShare 53 = .ok (.i2f, 1) := by decide +kernel
theorem dX7_workShare_54 : decode cX7_workShare 54 = .ok (.fdiv, 1) := by decide +kernel
theorem dX7_workShare_55 : decode cX7_workShare 55 = .ok (.freturn, 1) := by decide +kernel
theorem dX7_requests_0 : decode cX7_requests 0 = .ok (.aload_n 0, 1) := by decide +kernel
theorem dX7_requests_1 : decode cX7_requests 1 = .ok (.getfield 7, 3) := by decide +kernel
theorem dX7_requests_4 : decode cX7_requests 4 = .ok (.bipush 69, 2) := by decide +kernel
theorem dX7_requests_6 : decode cX7_requests 6 = .ok (.iaload, 1) := by decide +kernel
theorem dX7_requests_7 : decode cX7_requests 7 = .ok (.ireturn, 1) := by decide +kernel
set_option maxRecDepth 20000 in
theorem ggX7_told_X7_isRequest : GoodIn wsX7_told wsX7_isRequest := goodIn_r _ [6, 7, 8, 9, 5, 10, 15, 16, 17, 18, 19, 20, 21, 22, 23] (by decide +kernel) (by decide +kernel)
set_option maxRecDepth 20000 in
theorem gX7_told_X7_isRequest : GoodIn wsX7_told (wsV RX7 146 RX7 yX7_isRequest wsX7_isRequest) := goodIn_app (goodIn_of _ (by decide +kernel)) ggX7_told_X7_isRequest
set_option maxRecDepth 20000 in
theorem ggX7_told_X7_of : GoodIn wsX7_told wsX7_of := goodIn_r _ [14, 7, 15, 16, 17, 18, 19, 20, 21, 22, 23] (by decide +kernel) (by decide +kernel)
set_option maxRecDepth 20000 in
theorem gX7_told_X7_of : GoodIn wsX7_told (wsV RX7 35 RX7 yX7_of wsX7_of) := goodIn_app (goodIn_of _ (by decide +kernel)) ggX7_told_X7_of
theorem dX7_told_0 : decode cX7_told 0 = .ok (.aload_n 0, 1) := by decide +kernel
theorem dX7_told_1 : decode cX7_told 1 = .ok (.iload_n 1, 1) := by decide +kernel
theorem dX7_told_2 : decode cX7_told 2 = .ok (.invokevirtual 146, 3) := by decide +kernel
theorem dX7_told_5 : decode cX7_told 5 = .ok (.ifCond .eq 12, 3) := by decide +kernel
theorem dX7_told_8 : decode cX7_told 8 = .ok (.aload_n 0, 1) := by decide +kernel
theorem dX7_told_9 : decode cX7_told 9 = .ok (.iload_n 1, 1) := by decide +kernel
theorem dX7_told_10 : decode cX7_told 10 = .ok (.iload_n 2, 1) := by decide +kernel
theorem dX7_told_11 : decode cX7_told 11 = .ok (.invokevirtual 35, 3) := by decide +kernel
theorem dX7_told_14 : decode cX7_told 14 = .ok (.goto 5, 3) := by decide +kernel
theorem dX7_told_17 : decode cX7_told 17 = .ok (.ldc 83, 2) := by decide +kernel
theorem dX7_told_19 : decode cX7_told 19 = .ok (.ireturn, 1) := by decide +kernel
set_option maxRecDepth 20000 in
theorem ggX7_state_X7_told : GoodIn wsX7_state wsX7_told := goodIn_r _ [5, 6, 7, 8, 9, 4, 10, 11, 12, 13, 14, 15, 16, 17, 18, 19, 20, 21, 22, 23, 24, 25, 26, 27] (by decide +kernel) (by decide +kernel)
set_option maxRecDepth 20000 in
theorem gX7_state_X7_told : GoodIn wsX7_state (wsV RX7 149 RX7 yX7_told wsX7_told) := goodIn_app (goodIn_of _ (by decide +kernel)) ggX7_state_X7_told
theorem dX7_state_0 : decode cX7_state 0 = .ok (.aload_n 0, 1) := by decide +kernel
theorem dX7_state_1 : decode cX7_state 1 = .ok (.iload_n 1, 1) := by decide +kernel
theorem dX7_state_2 : decode cX7_state 2 = .ok (.iconst 3, 1) := by decide +kernel
theorem dX7_state_3 : decode cX7_state 3 = .ok (.invokevirtual 149, 3) := by decide +kernel
theorem dX7_state_6 : decode cX7_state 6 = .ok (.ireturn, 1) := by decide +kernel
set_option maxRecDepth 20000 in
theorem ggX7_price_X7_told : GoodIn wsX7_price wsX7_told := goodIn_r _ [5, 6, 7, 8, 9, 4, 10, 11, 12, 13, 14, 15, 16, 17, 18, 19, 20, 21, 22, 23, 24, 25, 26, 27] (by decide +kernel) (by decide +kernel)
set_option maxRecDepth 20000 in
theorem gX7_price_X7_told : GoodIn wsX7_price (wsV RX7 149 RX7 yX7_told wsX7_told) := goodIn_app (goodIn_of _ (by decide +kernel)) ggX7_price_X7_told
theorem dX7_price_0 : decode cX7_price 0 = .ok (.aload_n 0, 1) := by decide +kernel
theorem dX7_price_1 : decode cX7_price 1 = .ok (.iload_n 1, 1) := by decide +kernel
theorem dX7_price_2 : decode cX7_price 2 = .ok (.iconst 4, 1) := by decide +kernel
theorem dX7_price_3 : decode cX7_price 3 = .ok (.invokevirtual 149, 3) := by decide +kernel
theorem dX7_price_6 : decode cX7_price 6 = .ok (.ireturn, 1) := by decide +kernel
set_option maxRecDepth 20000 in
theorem ggX7_done_X7_told : GoodIn wsX7_done wsX7_told := goodIn_r _ [5, 6, 7, 8, 9, 4, 10, 11, 12, 13, 14, 15, 16, 17, 18, 19, 20, 21, 22, 23, 24, 25, 26, 27] (by decide +kernel) (by decide +kernel)
set_option maxRecDepth 20000 in
theorem gX7_done_X7_told : GoodIn wsX7_done (wsV RX7 149 RX7 yX7_told wsX7_told) := goodIn_app (goodIn_of _ (by decide +kernel)) ggX7_done_X7_told
theorem dX7_done_0 : decode cX7_done 0 = .ok (.aload_n 0, 1) := by decide +kernel
theorem dX7_done_1 : decode cX7_done 1 = .ok (.iload_n 1, 1) := by decide +kernel
theorem dX7_done_2 : decode cX7_done 2 = .ok (.iconst 5, 1) := by decide +kernel
theorem dX7_done_3 : decode cX7_done 3 = .ok (.invokevirtual 149, 3) := by decide +kernel
theorem dX7_done_6 : decode cX7_done 6 = .ok (.ireturn, 1) := by decide +kernel
set_option maxRecDepth 20000 in
theorem ggX7_offers_X7_told : GoodIn wsX7_offers wsX7_told := goodIn_r _ [5, 6, 7, 8, 9, 4, 10, 11, 12, 13, 14, 15, 16, 17, 18, 19, 20, 21, 22, 23, 24, 25, 26, 27] (by decide +kernel) (by decide +kernel)
set_option maxRecDepth 20000 in
theorem gX7_offers_X7_told : GoodIn wsX7_offers (wsV RX7 149 RX7 yX7_told wsX7_told) := goodIn_app (goodIn_of _ (by decide +kernel)) ggX7_offers_X7_told
theorem dX7_offers_0 : decode cX7_offers 0 = .ok (.aload_n 0, 1) := by decide +kernel
theorem dX7_offers_1 : decode cX7_offers 1 = .ok (.iload_n 1, 1) := by decide +kernel
theorem dX7_offers_2 : decode cX7_offers 2 = .ok (.bipush 6, 2) := by decide +kernel
theorem dX7_offers_4 : decode cX7_offers 4 = .ok (.invokevirtual 149, 3) := by decide +kernel
theorem dX7_offers_7 : decode cX7_offers 7 = .ok (.ireturn, 1) := by decide +kernel
set_option maxRecDepth 20000 in
theorem ggX7_reason_X7_told : GoodIn wsX7_reason wsX7_told := goodIn_r _ [5, 6, 7, 8, 9, 4, 10, 11, 12, 13, 14, 15, 16, 17, 18, 19, 20, 21, 22, 23, 24, 25, 26, 27] (by decide +kernel) (by decide +kernel)
set_option maxRecDepth 20000 in
theorem gX7_reason_X7_told : GoodIn wsX7_reason (wsV RX7 149 RX7 yX7_told wsX7_told) := goodIn_app (goodIn_of _ (by decide +kernel)) ggX7_reason_X7_told
theorem dX7_reason_0 : decode cX7_reason 0 = .ok (.aload_n 0, 1) := by decide +kernel
theorem dX7_reason_1 : decode cX7_reason 1 = .ok (.iload_n 1, 1) := by decide +kernel
theorem dX7_reason_2 : decode cX7_reason 2 = .ok (.bipush 7, 2) := by decide +kernel
theorem dX7_reason_4 : decode cX7_reason 4 = .ok (.invokevirtual 149, 3) := by decide +kernel
theorem dX7_reason_7 : decode cX7_reason 7 = .ok (.ireturn, 1) := by decide +kernel
set_option maxRecDepth 20000 in
theorem ggX7_when_X7_told : GoodIn wsX7_when wsX7_told := goodIn_r _ [5, 6, 7, 8, 9, 4, 10, 11, 12, 13, 14, 15, 16, 17, 18, 19, 20, 21, 22, 23, 24, 25, 26, 27] (by decide +kernel) (by decide +kernel)
set_option maxRecDepth 20000 in
theorem gX7_when_X7_told : GoodIn wsX7_when (wsV RX7 149 RX7 yX7_told wsX7_told) := goodIn_app (goodIn_of _ (by decide +kernel)) ggX7_when_X7_told
theorem dX7_when_0 : decode cX7_when 0 = .ok (.aload_n 0, 1) := by decide +kernel
theorem dX7_when_1 : decode cX7_when 1 = .ok (.iload_n 1, 1) := by decide +kernel
theorem dX7_when_2 : decode cX7_when 2 = .ok (.bipush 8, 2) := by decide +kernel
theorem dX7_when_4 : decode cX7_when 4 = .ok (.invokevirtual 149, 3) := by decide +kernel
theorem dX7_when_7 : decode cX7_when 7 = .ok (.ireturn, 1) := by decide +kernel
set_option maxRecDepth 20000 in
theorem ggX7_wouldRefuse_X7_isClass : GoodIn wsX7_wouldRefuse wsX7_isClass := goodIn_r _ [5, 6, 7, 4, 8] (by decide +kernel) (by decide +kernel)
set_option maxRecDepth 20000 in
theorem gX7_wouldRefuse_X7_isClass : GoodIn wsX7_wouldRefuse (va_wsS RX7 94 yX7_isClass wsX7_isClass) := goodIn_app (goodIn_of _ (by decide +kernel)) ggX7_wouldRefuse_X7_isClass
set_option maxRecDepth 20000 in
theorem ggX7_wouldRefuse_X7_isShape : GoodIn wsX7_wouldRefuse wsX7_isShape := goodIn_r _ [11, 6, 7, 4, 8] (by decide +kernel) (by decide +kernel)
set_option maxRecDepth 20000 in
theorem gX7_wouldRefuse_X7_isShape : GoodIn wsX7_wouldRefuse (va_wsS RX7 100 yX7_isShape wsX7_isShape) := goodIn_app (goodIn_of _ (by decide +kernel)) ggX7_wouldRefuse_X7_isShape
set_option maxRecDepth 20000 in
theorem ggX7_wouldRefuse_X7_expectedCost : GoodIn wsX7_wouldRefuse wsX7_expectedCost := goodIn_r _ [15, 16, 37, 38, 39, 40, 41, 42, 43, 44, 45] (by decide +kernel) (by decide +kernel)
set_option maxRecDepth 20000 in
theorem gX7_wouldRefuse_X7_expectedCost : GoodIn wsX7_wouldRefuse (wsV RX7 49 RX7 yX7_expectedCost wsX7_expectedCost) := goodIn_app (goodIn_of _ (by decide +kernel)) ggX7_wouldRefuse_X7_expectedCost
set_option maxRecDepth 20000 in
theorem ggX7_wouldRefuse_X7_whyRefused : GoodIn wsX7_wouldRefuse wsX7_whyRefused := goodIn_r _ [20, 16, 21, 22, 23, 4, 24, 25, 26, 27, 28, 29, 30, 31, 32, 33, 34, 35, 36, 37, 38, 39, 40, 41, 42, 43, 44, 45] (by decide +kernel) (by decide +kernel)
set_option maxRecDepth 20000 in
theorem gX7_wouldRefuse_X7_whyRefused : GoodIn wsX7_wouldRefuse (wsV RX7 52 RX7 yX7_whyRefused wsX7_whyRefused) := goodIn_app (goodIn_of _ (by decide +kernel)) ggX7_wouldRefuse_X7_whyRefused
theorem dX7_wouldRefuse_0 : decode cX7_wouldRefuse 0 = .ok (.iload_n 1, 1) := by decide +kernel
theorem dX7_wouldRefuse_1 : decode cX7_wouldRefuse 1 = .ok (.invokestatic 94, 3) := by decide +kernel
theorem dX7_wouldRefuse_4 : decode cX7_wouldRefuse 4 = .ok (.ifCond .eq 23, 3) := by decide +kernel
theorem dX7_wouldRefuse_7 : decode cX7_wouldRefuse 7 = .ok (.iload_n 2, 1) := by decide +kernel
theorem dX7_wouldRefuse_8 : decode cX7_wouldRefuse 8 = .ok (.invokestatic 100, 3) := by decide +kernel
theorem dX7_wouldRefuse_11 : decode cX7_wouldRefuse 11 = .ok (.ifCond .eq 16, 3) := by decide +kernel
theorem dX7_wouldRefuse_14 : decode cX7_wouldRefuse 14 = .ok (.aload_n 0, 1) := by decide +kernel
theorem dX7_wouldRefuse_15 : decode cX7_wouldRefuse 15 = .ok (.iload_n 1, 1) := by decide +kernel
theorem dX7_wouldRefuse_16 : decode cX7_wouldRefuse 16 = .ok (.aload_n 0, 1) := by decide +kernel
theorem dX7_wouldRefuse_17 : decode cX7_wouldRefuse 17 = .ok (.iload_n 2, 1) := by decide +kernel
theorem dX7_wouldRefuse_18 : decode cX7_wouldRefuse 18 = .ok (.invokevirtual 49, 3) := by decide +kernel
theorem dX7_wouldRefuse_21 : decode cX7_wouldRefuse 21 = .ok (.invokevirtual 52, 3) := by decide +kernel
theorem dX7_wouldRefuse_24 : decode cX7_wouldRefuse 24 = .ok (.goto 5, 3) := by decide +kernel
theorem dX7_wouldRefuse_27 : decode cX7_wouldRefuse 27 = .ok (.ldc 83, 2) := by decide +kernel
theorem dX7_wouldRefuse_29 : decode cX7_wouldRefuse 29 = .ok (.ireturn, 1) := by decide +kernel
set_option maxRecDepth 20000 in
theorem ggX7_inState_X7_of : GoodIn wsX7_inState wsX7_of := goodIn_r _ [6, 1, 7, 8, 9, 10, 11, 12, 13, 14, 15] (by decide +kernel) (by decide +kernel)
set_option maxRecDepth 20000 in
theorem gX7_inState_X7_of : GoodIn wsX7_inState (wsV RX7 35 RX7 yX7_of wsX7_of) := goodIn_app (goodIn_of _ (by decide +kernel)) ggX7_inState_X7_of
theorem dX7_inState_0 : decode cX7_inState 0 = .ok (.iconst 0, 1) := by decide +kernel
theorem dX7_inState_1 : decode cX7_inState 1 = .ok (.istore_n 2, 1) := by decide +kernel
theorem dX7_inState_2 : decode cX7_inState 2 = .ok (.iconst 0, 1) := by decide +kernel
theorem dX7_inState_3 : decode cX7_inState 3 = .ok (.istore_n 3, 1) := by decide +kernel
theorem dX7_inState_4 : decode cX7_inState 4 = .ok (.iload_n 3, 1) := by decide +kernel
theorem dX7_inState_5 : decode cX7_inState 5 = .ok (.aload_n 0, 1) := by decide +kernel
theorem dX7_inState_6 : decode cX7_inState 6 = .ok (.getfield 7, 3) := by decide +kernel
theorem dX7_inState_9 : decode cX7_inState 9 = .ok (.bipush 69, 2) := by decide +kernel
theorem dX7_inState_11 : decode cX7_inState 11 = .ok (.iaload, 1) := by decide +kernel
theorem dX7_inState_12 : decode cX7_inState 12 = .ok (.if_icmp .ge 27, 3) := by decide +kernel
theorem dX7_inState_15 : decode cX7_inState 15 = .ok (.iload_n 2, 1) := by decide +kernel
theorem dX7_inState_16 : decode cX7_inState 16 = .ok (.aload_n 0, 1) := by decide +kernel
theorem dX7_inState_17 : decode cX7_inState 17 = .ok (.iload_n 3, 1) := by decide +kernel
theorem dX7_inState_18 : decode cX7_inState 18 = .ok (.iconst 3, 1) := by decide +kernel
theorem dX7_inState_19 : decode cX7_inState 19 = .ok (.invokevirtual 35, 3) := by decide +kernel
theorem dX7_inState_22 : decode cX7_inState 22 = .ok (.iload_n 1, 1) := by decide +kernel
theorem dX7_inState_23 : decode cX7_inState 23 = .ok (.if_icmp .ne 7, 3) := by decide +kernel
theorem dX7_inState_26 : decode cX7_inState 26 = .ok (.iconst 1, 1) := by decide +kernel
theorem dX7_inState_27 : decode cX7_inState 27 = .ok (.goto 4, 3) := by decide +kernel
theorem dX7_inState_30 : decode cX7_inState 30 = .ok (.iconst 0, 1) := by decide +kernel
theorem dX7_inState_31 : decode cX7_inState 31 = .ok (.iadd, 1) := by decide +kernel
theorem dX7_inState_32 : decode cX7_inState 32 = .ok (.istore_n 2, 1) := by decide +kernel
theorem dX7_inState_33 : decode cX7_inState 33 = .ok (.iinc 3 1, 3) := by decide +kernel
theorem dX7_inState_36 : decode cX7_inState 36 = .ok (.goto (-32), 3) := by decide +kernel
theorem dX7_inState_39 : decode cX7_inState 39 = .ok (.iload_n 2, 1) := by decide +kernel
theorem dX7_inState_40 : decode cX7_inState 40 = .ok (.ireturn, 1) := by decide +kernel
set_option maxRecDepth 20000 in
theorem ggX7_isOver_X7_inState : GoodIn wsX7_isOver wsX7_inState := goodIn_r _ [6, 1, 7, 8, 9, 5, 10, 11, 12, 13, 14, 15, 16, 17, 18, 19] (by decide +kernel) (by decide +kernel)
set_option maxRecDepth 20000 in
theorem gX7_isOver_X7_inState : GoodIn wsX7_isOver (wsV RX7 152 RX7 yX7_inState wsX7_inState) := goodIn_app (goodIn_of _ (by decide +kernel)) ggX7_isOver_X7_inState
theorem dX7_isOver_0 : decode cX7_isOver 0 = .ok (.aload_n 0, 1) := by decide +kernel
theorem dX7_isOver_1 : decode cX7_isOver 1 = .ok (.iconst 2, 1) := by decide +kernel
theorem dX7_isOver_2 : decode cX7_isOver 2 = .ok (.invokevirtual 152, 3) := by decide +kernel
theorem dX7_isOver_5 : decode cX7_isOver 5 = .ok (.aload_n 0, 1) := by decide +kernel
theorem dX7_isOver_6 : decode cX7_isOver 6 = .ok (.iconst 4, 1) := by decide +kernel
theorem dX7_isOver_7 : decode cX7_isOver 7 = .ok (.invokevirtual 152, 3) := by decide +kernel
theorem dX7_isOver_10 : decode cX7_isOver 10 = .ok (.iadd, 1) := by decide +kernel
theorem dX7_isOver_11 : decode cX7_isOver 11 = .ok (.aload_n 0, 1) := by decide +kernel
theorem dX7_isOver_12 : decode cX7_isOver 12 = .ok (.getfield 7, 3) := by decide +kernel
theorem dX7_isOver_15 : decode cX7_isOver 15 = .ok (.bipush 69, 2) := by decide +kernel
theorem dX7_isOver_17 : decode cX7_isOver 17 = .ok (.iaload, 1) := by decide +kernel
theorem dX7_isOver_18 : decode cX7_isOver 18 = .ok (.if_icmp .ne 7, 3) := by decide +kernel
theorem dX7_isOver_21 : decode cX7_isOver 21 = .ok (.iconst 1, 1) := by decide +kernel
theorem dX7_isOver_22 : decode cX7_isOver 22 = .ok (.goto 4, 3) := by decide +kernel
theorem dX7_isOver_25 : decode cX7_isOver 25 = .ok (.iconst 0, 1) := by decide +kernel
theorem dX7_isOver_26 : decode cX7_isOver 26 = .ok (.ireturn, 1) := by decide +kernel
set_option maxRecDepth 20000 in
theorem ggX7_ticksToEnd_X7_isOver : GoodIn wsX7_ticksToEnd wsX7_isOver := goodIn_r _ [5, 6, 7, 8, 9, 4, 10, 11, 12, 13, 14, 76, 77, 78, 79, 80, 81, 82, 83, 84] (by decide +kernel) (by decide +kernel)
set_option maxRecDepth 20000 in
theorem gX7_ticksToEnd_X7_isOver : GoodIn wsX7_ticksToEnd (wsV RX7 155 RX7 yX7_isOver wsX7_isOver) := goodIn_app (goodIn_of _ (by decide +kernel)) ggX7_ticksToEnd_X7_isOver
set_option maxRecDepth 20000 in
theorem ggX7_ticksToEnd_X7_tick : GoodIn wsX7_ticksToEnd wsX7_tick := goodIn_r _ [18, 6, 19, 20, 21, 4, 22, 23, 24, 25, 26, 11, 12, 13, 14, 27, 28, 29, 30, 31, 32, 33, 34, 35, 36, 37, 38, 39, 40, 41, 42, 43, 44, 45, 46, 47, 48, 49, 50, 51, 52, 53, 54, 55, 56, 57, 58, 59, 60, 61, 62, 63, 64, 65, 66, 67, 68, 69, 70, 71, 72, 73, 74, 75, 76, 77, 78, 79, 80, 81, 82, 83, 84] (by decide +kernel) (by decide +kernel)
set_option maxRecDepth 20000 in
theorem gX7_ticksToEnd_X7_tick : GoodIn wsX7_ticksToEnd (wsV RX7 111 RX7 yX7_tick wsX7_tick) := goodIn_app (goodIn_of _ (by decide +kernel)) ggX7_ticksToEnd_X7_tick
theorem dX7_ticksToEnd_0 : decode cX7_ticksToEnd 0 = .ok (.iconst 0, 1) := by decide +kernel
theorem dX7_ticksToEnd_1 : decode cX7_ticksToEnd 1 = .ok (.istore_n 1, 1) := by decide +kernel
theorem dX7_ticksToEnd_2 : decode cX7_ticksToEnd 2 = .ok (.aload_n 0, 1) := by decide +kernel
theorem dX7_ticksToEnd_3 : decode cX7_ticksToEnd 3 = .ok (.invokevirtual 155, 3) := by decide +kernel
theorem dX7_ticksToEnd_6 : decode cX7_ticksToEnd 6 = .ok (.ifCond .ne 21, 3) := by decide +kernel
theorem dX7_ticksToEnd_9 : decode cX7_ticksToEnd 9 = .ok (.iload_n 1, 1) := by decide +kernel
theorem dX7_ticksToEnd_10 : decode cX7_ticksToEnd 10 = .ok (.sipush 400, 3) := by decide +kernel
theorem dX7_ticksToEnd_13 : decode cX7_ticksToEnd 13 = .ok (.if_icmp .gt 14, 3) := by decide +kernel
theorem dX7_ticksToEnd_16 : decode cX7_ticksToEnd 16 = .ok (.aload_n 0, 1) := by decide +kernel
theorem dX7_ticksToEnd_17 : decode cX7_ticksToEnd 17 = .ok (.invokevirtual 111, 3) := by decide +kernel
theorem dX7_ticksToEnd_20 : decode cX7_ticksToEnd 20 = .ok (.pop, 1) := by decide +kernel
theorem dX7_ticksToEnd_21 : decode cX7_ticksToEnd 21 = .ok (.iinc 1 1, 3) := by decide +kernel
theorem dX7_ticksToEnd_24 : decode cX7_ticksToEnd 24 = .ok (.goto (-22), 3) := by decide +kernel
theorem dX7_ticksToEnd_27 : decode cX7_ticksToEnd 27 = .ok (.iload_n 1, 1) := by decide +kernel
theorem dX7_ticksToEnd_28 : decode cX7_ticksToEnd 28 = .ok (.ireturn, 1) := by decide +kernel
set_option maxRecDepth 20000 in
theorem ggX7_ticksWith_X7_putAside : GoodIn wsX7_ticksWith wsX7_putAside := goodIn_r _ [7, 8, 1, 89, 90, 91, 92, 93, 94, 95, 96, 97] (by decide +kernel) (by decide +kernel)
set_option maxRecDepth 20000 in
theorem gX7_ticksWith_X7_putAside : GoodIn wsX7_ticksWith (wsV RX7 159 RX7 yX7_putAside wsX7_putAside) := goodIn_app (goodIn_of _ (by decide +kernel)) ggX7_ticksWith_X7_putAside
set_option maxRecDepth 20000 in
theorem ggX7_ticksWith_X7_ticksToEnd : GoodIn wsX7_ticksWith wsX7_ticksToEnd := goodIn_r _ [12, 13, 14, 15, 6, 16, 1, 17, 18, 19, 20, 21, 22, 23, 24, 25, 26, 27, 28, 29, 30, 31, 32, 33, 34, 35, 36, 37, 38, 39, 40, 41, 42, 43, 44, 45, 46, 47, 48, 49, 50, 51, 52, 53, 54, 55, 56, 57, 58, 59, 60, 61, 62, 63, 64, 2, 65, 66, 67, 68, 69, 70, 71, 72, 73, 74, 75, 76, 77, 78, 79, 80, 81, 82, 83, 84, 89, 90, 91, 92, 93, 94, 95, 96, 97] (by decide +kernel) (by decide +kernel)
set_option maxRecDepth 20000 in
theorem gX7_ticksWith_X7_ticksToEnd : GoodIn wsX7_ticksWith (wsV RX7 162 RX7 yX7_ticksToEnd wsX7_ticksToEnd) := goodIn_app (goodIn_of _ (by decide +kernel)) ggX7_ticksWith_X7_ticksToEnd
set_option maxRecDepth 20000 in
theorem ggX7_ticksWith_X7_putBack : GoodIn wsX7_ticksWith wsX7_putBack := goodIn_r _ [88, 1, 8, 89, 90, 91, 92, 93, 94, 95, 96, 97] (by decide +kernel) (by decide +kernel)
set_option maxRecDepth 20000 in
theorem gX7_ticksWith_X7_putBack : GoodIn wsX7_ticksWith (wsV RX7 165 RX7 yX7_putBack wsX7_putBack) := goodIn_app (goodIn_of _ (by decide +kernel)) ggX7_ticksWith_X7_putBack
theorem dX7_ticksWith_0 : decode cX7_ticksWith 0 = .ok (.aload_n 0, 1) := by decide +kernel
theorem dX7_ticksWith_1 : decode cX7_ticksWith 1 = .ok (.invokevirtual 159, 3) := by decide +kernel
theorem dX7_ticksWith_4 : decode cX7_ticksWith 4 = .ok (.aload_n 0, 1) := by decide +kernel
theorem dX7_ticksWith_5 : decode cX7_ticksWith 5 = .ok (.getfield 7, 3) := by decide +kernel
theorem dX7_ticksWith_8 : decode cX7_ticksWith 8 = .ok (.iconst 0, 1) := by decide +kernel
theorem dX7_ticksWith_9 : decode cX7_ticksWith 9 = .ok (.iload_n 1, 1) := by decide +kernel
theorem dX7_ticksWith_10 : decode cX7_ticksWith 10 = .ok (.iastore, 1) := by decide +kernel
theorem dX7_ticksWith_11 : decode cX7_ticksWith 11 = .ok (.aload_n 0, 1) := by decide +kernel
theorem dX7_ticksWith_12 : decode cX7_ticksWith 12 = .ok (.invokevirtual 162, 3) := by decide +kernel
theorem dX7_ticksWith_15 : decode cX7_ticksWith 15 = .ok (.istore_n 2, 1) := by decide +kernel
theorem dX7_ticksWith_16 : decode cX7_ticksWith 16 = .ok (.aload_n 0, 1) := by decide +kernel
theorem dX7_ticksWith_17 : decode cX7_ticksWith 17 = .ok (.invokevirtual 165, 3) := by decide +kernel
theorem dX7_ticksWith_20 : decode cX7_ticksWith 20 = .ok (.iload_n 2, 1) := by decide +kernel
theorem dX7_ticksWith_21 : decode cX7_ticksWith 21 = .ok (.sipush 400, 3) := by decide +kernel
theorem dX7_ticksWith_24 : decode cX7_ticksWith 24 = .ok (.if_icmp .le 8, 3) := by decide +kernel
theorem dX7_ticksWith_27 : decode cX7_ticksWith 27 = .ok (.ldc 30, 2) := by decide +kernel
theorem dX7_ticksWith_29 : decode cX7_ticksWith 29 = .ok (.goto 4, 3) := by decide +kernel
theorem dX7_ticksWith_32 : decode cX7_ticksWith 32 = .ok (.iload_n 2, 1) := by decide +kernel
theorem dX7_ticksWith_33 : decode cX7_ticksWith 33 = .ok (.ireturn, 1) := by decide +kernel
set_option maxRecDepth 20000 in
theorem ggX7_ticksLeft_X7_ticksWith : GoodIn wsX7_ticksLeft wsX7_ticksWith := goodIn_r _ [6, 1, 7, 8, 9, 10, 5, 11, 12, 13, 14, 15, 16, 17, 18, 19, 20, 21, 22, 23, 24, 25, 26, 27, 28, 29, 30, 31, 32, 33, 34, 35, 36, 37, 38, 39, 40, 41, 42, 43, 44, 45, 46, 47, 48, 49, 50, 51, 52, 53, 54, 55, 56, 57, 58, 59, 60, 61, 62, 63, 64, 65, 66, 67, 68, 69, 70, 71, 72, 73, 74, 75, 76, 77, 78, 79, 80, 81, 82, 83, 84, 85, 86, 87, 88, 89, 90, 91, 92, 93, 94, 95, 96, 97, 98, 99, 100, 101] (by decide +kernel) (by decide +kernel)
set_option maxRecDepth 20000 in
theorem gX7_ticksLeft_X7_ticksWith : GoodIn wsX7_ticksLeft (wsV RX7 168 RX7 yX7_ticksWith wsX7_ticksWith) := goodIn_app (goodIn_of _ (by decide +kernel)) ggX7_ticksLeft_X7_ticksWith
theorem dX7_ticksLeft_0 : decode cX7_ticksLeft 0 = .ok (.aload_n 0, 1) := by decide +kernel
theorem dX7_ticksLeft_1 : decode cX7_ticksLeft 1 = .ok (.aload_n 0, 1) := by decide +kernel
theorem dX7_ticksLeft_2 : decode cX7_ticksLeft 2 = .ok (.getfield 7, 3) := by decide +kernel
theorem dX7_ticksLeft_5 : decode cX7_ticksLeft 5 = .ok (.iconst 0, 1) := by decide +kernel
theorem dX7_ticksLeft_6 : decode cX7_ticksLeft 6 = .ok (.iaload, 1) := by decide +kernel
theorem dX7_ticksLeft_7 : decode cX7_ticksLeft 7 = .ok (.invokevirtual 168, 3) := by decide +kernel
theorem dX7_ticksLeft_10 : decode cX7_ticksLeft 10 = .ok (.ireturn, 1) := by decide +kernel
set_option maxRecDepth 20000 in
theorem ggX7_ticksIf_X7_in : GoodIn wsX7_ticksIf wsX7_in := goodIn_r _ [5] (by decide +kernel) (by decide +kernel)
set_option maxRecDepth 20000 in
theorem gX7_ticksIf_X7_in : GoodIn wsX7_ticksIf (va_wsS RX7 22 yX7_in wsX7_in) := goodIn_app (goodIn_of _ (by decide +kernel)) ggX7_ticksIf_X7_in
set_option maxRecDepth 20000 in
theorem ggX7_ticksIf_X7_ticksWith : GoodIn wsX7_ticksIf wsX7_ticksWith := goodIn_r _ [9, 10, 11, 12, 13, 14, 4, 15, 16, 17, 18, 19, 20, 21, 22, 23, 24, 25, 26, 27, 28, 29, 30, 31, 32, 33, 34, 35, 36, 37, 38, 39, 40, 41, 42, 43, 44, 45, 46, 47, 48, 49, 50, 51, 52, 53, 54, 55, 56, 57, 58, 59, 60, 61, 62, 63, 64, 65, 66, 67, 68, 69, 70, 71, 72, 73, 74, 75, 76, 77, 78, 79, 80, 81, 82, 83, 84, 85, 86, 87, 88, 89, 90, 91, 92, 93, 94, 95, 96, 97, 98, 99, 100, 101, 102, 103, 104, 105] (by decide +kernel) (by decide +kernel)
set_option maxRecDepth 20000 in
theorem gX7_ticksIf_X7_ticksWith : GoodIn wsX7_ticksIf (wsV RX7 168 RX7 yX7_ticksWith wsX7_ticksWith) := goodIn_app (goodIn_of _ (by decide +kernel)) ggX7_ticksIf_X7_ticksWith
theorem dX7_ticksIf_0 : decode cX7_ticksIf 0 = .ok (.iload_n 1, 1) := by decide +kernel
theorem dX7_ticksIf_1 : decode cX7_ticksIf 1 = .ok (.iconst 1, 1) := by decide +kernel
theorem dX7_ticksIf_2 : decode cX7_ticksIf 2 = .ok (.bipush 20, 2) := by decide +kernel
theorem dX7_ticksIf_4 : decode cX7_ticksIf 4 = .ok (.invokestatic 22, 3) := by decide +kernel
theorem dX7_ticksIf_7 : decode cX7_ticksIf 7 = .ok (.ifCond .eq 11, 3) := by decide +kernel
theorem dX7_ticksIf_10 : decode cX7_ticksIf 10 = .ok (.aload_n 0, 1) := by decide +kernel
theorem dX7_ticksIf_11 : decode cX7_ticksIf 11 = .ok (.iload_n 1, 1) := by decide +kernel
theorem dX7_ticksIf_12 : decode cX7_ticksIf 12 = .ok (.invokevirtual 168, 3) := by decide +kernel
theorem dX7_ticksIf_15 : decode cX7_ticksIf 15 = .ok (.goto 5, 3) := by decide +kernel
theorem dX7_ticksIf_18 : decode cX7_ticksIf 18 = .ok (.ldc 90, 2) := by decide +kernel
theorem dX7_ticksIf_20 : decode cX7_ticksIf 20 = .ok (.ireturn, 1) := by decide +kernel
set_option maxRecDepth 20000 in
theorem ggX7_leastCapacity_X7_putAside : GoodIn wsX7_leastCapacity wsX7_putAside := goodIn_r _ [7, 8, 2, 89, 90, 91, 92, 93, 94, 95, 96, 97] (by decide +kernel) (by decide +kernel)
set_option maxRecDepth 20000 in
theorem gX7_leastCapacity_X7_putAside : GoodIn wsX7_leastCapacity (wsV RX7 159 RX7 yX7_putAside wsX7_putAside) := goodIn_app (goodIn_of _ (by decide +kernel)) ggX7_leastCapacity_X7_putAside
set_option maxRecDepth 20000 in
theorem ggX7_leastCapacity_X7_inState : GoodIn wsX7_leastCapacity wsX7_inState := goodIn_r _ [12, 2, 13, 14, 15, 6, 16, 89, 90, 91, 92, 93, 94, 95, 96, 97] (by decide +kernel) (by decide +kernel)
set_option maxRecDepth 20000 in
theorem gX7_leastCapacity_X7_inState : GoodIn wsX7_leastCapacity (wsV RX7 152 RX7 yX7_inState wsX7_inState) := goodIn_app (goodIn_of _ (by decide +kernel)) ggX7_leastCapacity_X7_inState
set_option maxRecDepth 20000 in
theorem ggX7_leastCapacity_X7_ticksToEnd : GoodIn wsX7_leastCapacity wsX7_ticksToEnd := goodIn_r _ [20, 21, 22, 23, 6, 24, 2, 9, 10, 11, 12, 13, 14, 15, 16, 25, 26, 27, 28, 29, 30, 31, 32, 33, 34, 35, 36, 37, 38, 39, 40, 41, 42, 43, 44, 45, 46, 47, 48, 49, 50, 51, 52, 53, 54, 55, 56, 57, 58, 59, 60, 61, 62, 63, 64, 1, 65, 66, 67, 68, 69, 70, 71, 72, 73, 74, 75, 76, 77, 78, 79, 80, 81, 82, 83, 84, 89, 90, 91, 92, 93, 94, 95, 96, 97] (by decide +kernel) (by decide +kernel)
set_option maxRecDepth 20000 in
theorem gX7_leastCapacity_X7_ticksToEnd : GoodIn wsX7_leastCapacity (wsV RX7 162 RX7 yX7_ticksToEnd wsX7_ticksToEnd) := goodIn_app (goodIn_of _ (by decide +kernel)) ggX7_leastCapacity_X7_ticksToEnd
set_option maxRecDepth 20000 in
theorem ggX7_leastCapacity_X7_putBack : GoodIn wsX7_leastCapacity wsX7_putBack := goodIn_r _ [88, 2, 8, 89, 90, 91, 92, 93, 94, 95, 96, 97] (by decide +kernel) (by decide +kernel)
set_option maxRecDepth 20000 in
theorem gX7_leastCapacity_X7_putBack : GoodIn wsX7_leastCapacity (wsV RX7 165 RX7 yX7_putBack wsX7_putBack) := goodIn_app (goodIn_of _ (by decide +kernel)) ggX7_leastCapacity_X7_putBack
theorem dX7_leastCapacity_0 : decode cX7_leastCapacity 0 = .ok (.ldc 30, 2) := by decide +kernel
theorem dX7_leastCapacity_2 : decode cX7_leastCapacity 2 = .ok (.istore_n 1, 1) := by decide +kernel
theorem dX7_leastCapacity_3 : decode cX7_leastCapacity 3 = .ok (.iconst 1, 1) := by decide +kernel
theorem dX7_leastCapacity_4 : decode cX7_leastCapacity 4 = .ok (.istore_n 2, 1) := by decide +kernel
theorem dX7_leastCapacity_5 : decode cX7_leastCapacity 5 = .ok (.iload_n 2, 1) := by decide +kernel
theorem dX7_leastCapacity_6 : decode cX7_leastCapacity 6 = .ok (.bipush 20, 2) := by decide +kernel
theorem dX7_leastCapacity_8 : decode cX7_leastCapacity 8 = .ok (.if_icmp .gt 63, 3) := by decide +kernel
theorem dX7_leastCapacity_11 : decode cX7_leastCapacity 11 = .ok (.iload_n 1, 1) := by decide +kernel
theorem dX7_leastCapacity_12 : decode cX7_leastCapacity 12 = .ok (.ifCond .ge 59, 3) := by decide +kernel
theorem dX7_leastCapacity_15 : decode cX7_leastCapacity 15 = .ok (.aload_n 0, 1) := by decide +kernel
theorem dX7_leastCapacity_16 : decode cX7_leastCapacity 16 = .ok (.invokevirtual 159, 3) := by decide +kernel
theorem dX7_leastCapacity_19 : decode cX7_leastCapacity 19 = .ok (.aload_n 0, 1) := by decide +kernel
theorem dX7_leastCapacity_20 : decode cX7_leastCapacity 20 = .ok (.iconst 4, 1) := by decide +kernel
theorem dX7_leastCapacity_21 : decode cX7_leastCapacity 21 = .ok (.invokevirtual 152, 3) := by decide +kernel
theorem dX7_leastCapacity_24 : decode cX7_leastCapacity 24 = .ok (.istore_n 3, 1) := by decide +kernel
theorem dX7_leastCapacity_25 : decode cX7_leastCapacity 25 = .ok (.aload_n 0, 1) := by decide +kernel
theorem dX7_leastCapacity_26 : decode cX7_leastCapacity 26 = .ok (.getfield 7, 3) := by decide +kernel
theorem dX7_leastCapacity_29 : decode cX7_leastCapacity 29 = .ok (.iconst 0, 1) := by decide +kernel
theorem dX7_leastCapacity_30 : decode cX7_leastCapacity 30 = .ok (.iload_n 2, 1) := by decide +kernel
theorem dX7_leastCapacity_31 : decode cX7_leastCapacity 31 = .ok (.iastore, 1) := by decide +kernel
theorem dX7_leastCapacity_32 : decode cX7_leastCapacity 32 = .ok (.aload_n 0, 1) := by decide +kernel
theorem dX7_leastCapacity_33 : decode cX7_leastCapacity 33 = .ok (.invokevirtual 162, 3) := by decide +kernel
theorem dX7_leastCapacity_36 : decode cX7_leastCapacity 36 = .ok (.istore 4, 2) := by decide +kernel
theorem dX7_leastCapacity_38 : decode cX7_leastCapacity 38 = .ok (.iload 4, 2) := by decide +kernel
theorem dX7_leastCapacity_40 : decode cX7_leastCapacity 40 = .ok (.sipush 400, 3) := by decide +kernel
theorem dX7_leastCapacity_43 : decode cX7_leastCapacity 43 = .ok (.if_icmp .gt 16, 3) := by decide +kernel
theorem dX7_leastCapacity_46 : decode cX7_leastCapacity 46 = .ok (.aload_n 0, 1) := by decide +kernel
theorem dX7_leastCapacity_47 : decode cX7_leastCapacity 47 = .ok (.iconst 4, 1) := by decide +kernel
theorem dX7_leastCapacity_48 : decode cX7_leastCapacity 48 = .ok (.invokevirtual 152, 3) := by decide +kernel
theorem dX7_leastCapacity_51 : decode cX7_leastCapacity 51 = .ok (.iload_n 3, 1) := by decide +kernel
theorem dX7_leastCapacity_52 : decode cX7_leastCapacity 52 = .ok (.if_icmp .ne 7, 3) := by decide +kernel
theorem dX7_leastCapacity_55 : decode cX7_leastCapacity 55 = .ok (.iload_n 2, 1) := by decide +kernel
theorem dX7_leastCapacity_56 : decode cX7_leastCapacity 56 = .ok (.goto 4, 3) := by decide +kernel
theorem dX7_leastCapacity_59 : decode cX7_leastCapacity 59 = .ok (.iload_n 1, 1) := by decide +kernel
theorem dX7_leastCapacity_60 : decode cX7_leastCapacity 60 = .ok (.istore_n 1, 1) := by decide +kernel
theorem dX7_leastCapacity_61 : decode cX7_leastCapacity 61 = .ok (.aload_n 0, 1) := by decide +kernel
theorem dX7_leastCapacity_62 : decode cX7_leastCapacity 62 = .ok (.invokevirtual 165, 3) := by decide +kernel
theorem dX7_leastCapacity_65 : decode cX7_leastCapacity 65 = .ok (.iinc 2 1, 3) := by decide +kernel
theorem dX7_leastCapacity_68 : decode cX7_leastCapacity 68 = .ok (.goto (-63), 3) := by decide +kernel
theorem dX7_leastCapacity_71 : decode cX7_leastCapacity 71 = .ok (.iload_n 1, 1) := by decide +kernel
theorem dX7_leastCapacity_72 : decode cX7_leastCapacity 72 = .ok (.ireturn, 1) := by decide +kernel
set_option maxRecDepth 20000 in
theorem ggX7_finish_X7_isRequest : GoodIn wsX7_finish wsX7_isRequest := goodIn_r _ [7, 8, 9, 10, 6, 11, 85, 86, 87, 88, 89, 90, 91, 92, 93] (by decide +kernel) (by decide +kernel)
set_option maxRecDepth 20000 in
theorem gX7_finish_X7_isRequest : GoodIn wsX7_finish (wsV RX7 146 RX7 yX7_isRequest wsX7_isRequest) := goodIn_app (goodIn_of _ (by decide +kernel)) ggX7_finish_X7_isRequest
set_option maxRecDepth 20000 in
theorem ggX7_finish_X7_putAside : GoodIn wsX7_finish wsX7_putAside := goodIn_r _ [15, 16, 8, 85, 86, 87, 88, 89, 90, 91, 92, 93] (by decide +kernel) (by decide +kernel)
set_option maxRecDepth 20000 in
theorem gX7_finish_X7_putAside : GoodIn wsX7_finish (wsV RX7 159 RX7 yX7_putAside wsX7_putAside) := goodIn_app (goodIn_of _ (by decide +kernel)) ggX7_finish_X7_putAside
set_option maxRecDepth 20000 in
theorem ggX7_finish_X7_of : GoodIn wsX7_finish wsX7_of := goodIn_r _ [20, 8, 85, 86, 87, 88, 89, 90, 91, 92, 93] (by decide +kernel) (by decide +kernel)
set_option maxRecDepth 20000 in
theorem gX7_finish_X7_of : GoodIn wsX7_finish (wsV RX7 35 RX7 yX7_of wsX7_of) := goodIn_app (goodIn_of _ (by decide +kernel)) ggX7_finish_X7_of
set_option maxRecDepth 20000 in
theorem ggX7_finish_X7_tick : GoodIn wsX7_finish wsX7_tick := goodIn_r _ [24, 8, 25, 26, 27, 6, 28, 29, 30, 31, 32, 17, 18, 19, 20, 33, 34, 35, 36, 37, 38, 39, 40, 41, 42, 43, 44, 45, 46, 47, 48, 49, 50, 51, 52, 53, 54, 55, 56, 57, 58, 59, 60, 2, 61, 62, 63, 64, 65, 66, 67, 68, 69, 70, 71, 72, 73, 74, 75, 76, 77, 78, 79, 80, 85, 86, 87, 88, 89, 90, 91, 92, 93] (by decide +kernel) (by decide +kernel)
set_option maxRecDepth 20000 in
theorem gX7_finish_X7_tick : GoodIn wsX7_finish (wsV RX7 111 RX7 yX7_tick wsX7_tick) := goodIn_app (goodIn_of _ (by decide +kernel)) ggX7_finish_X7_tick
set_option maxRecDepth 20000 in
theorem ggX7_finish_X7_putBack : GoodIn wsX7_finish wsX7_putBack := goodIn_r _ [84, 8, 16, 85, 86, 87, 88, 89, 90, 91, 92, 93] (by decide +kernel) (by decide +kernel)
set_option maxRecDepth 20000 in
theorem gX7_finish_X7_putBack : GoodIn wsX7_finish (wsV RX7 165 RX7 yX7_putBack wsX7_putBack) := goodIn_app (goodIn_of _ (by decide +kernel)) ggX7_finish_X7_putBack
theorem dX7_finish_0 : decode cX7_finish 0 = .ok (.aload_n 0, 1) := by decide +kernel
theorem dX7_finish_1 : decode cX7_finish 1 = .ok (.iload_n 1, 1) := by decide +kernel
theorem dX7_finish_2 : decode cX7_finish 2 = .ok (.invokevirtual 146, 3) := by decide +kernel
theorem dX7_finish_5 : decode cX7_finish 5 = .ok (.ifCond .ne 6, 3) := by decide +kernel
theorem dX7_finish_8 : decode cX7_finish 8 = .ok (.ldc 83, 2) := by decide +kernel
theorem dX7_finish_10 : decode cX7_finish 10 = .ok (.ireturn, 1) := by decide +kernel
theorem dX7_finish_11 : decode cX7_finish 11 = .ok (.aload_n 0, 1) := by decide +kernel
theorem dX7_finish_12 : decode cX7_finish 12 = .ok (.invokevirtual 159, 3) := by decide +kernel
theorem dX7_finish_15 : decode cX7_finish 15 = .ok (.iconst 0, 1) := by decide +kernel
theorem dX7_finish_16 : decode cX7_finish 16 = .ok (.istore_n 2, 1) := by decide +kernel
theorem dX7_finish_17 : decode cX7_finish 17 = .ok (.iload_n 2, 1) := by decide +kernel
theorem dX7_finish_18 : decode cX7_finish 18 = .ok (.sipush 400, 3) := by decide +kernel
theorem dX7_finish_21 : decode cX7_finish 21 = .ok (.if_icmp .ge 34, 3) := by decide +kernel
theorem dX7_finish_24 : decode cX7_finish 24 = .ok (.aload_n 0, 1) := by decide +kernel
theorem dX7_finish_25 : decode cX7_finish 25 = .ok (.iload_n 1, 1) := by decide +kernel
theorem dX7_finish_26 : decode cX7_finish 26 = .ok (.iconst 3, 1) := by decide +kernel
theorem dX7_finish_27 : decode cX7_finish 27 = .ok (.invokevirtual 35, 3) := by decide +kernel
theorem dX7_finish_30 : decode cX7_finish 30 = .ok (.iconst 2, 1) := by decide +kernel
theorem dX7_finish_31 : decode cX7_finish 31 = .ok (.if_icmp .eq 24, 3) := by decide +kernel
theorem dX7_finish_34 : decode cX7_finish 34 = .ok (.aload_n 0, 1) := by decide +kernel
theorem dX7_finish_35 : decode cX7_finish 35 = .ok (.iload_n 1, 1) := by decide +kernel
theorem dX7_finish_36 : decode cX7_finish 36 = .ok (.iconst 3, 1) := by decide +kernel
theorem dX7_finish_37 : decode cX7_finish 37 = .ok (.invokevirtual 35, 3) := by decide +kernel
theorem dX7_finish_40 : decode cX7_finish 40 = .ok (.iconst 4, 1) := by decide +kernel
theorem dX7_finish_41 : decode cX7_finish 41 = .ok (.if_icmp .eq 14, 3) := by decide +kernel
theorem dX7_finish_44 : decode cX7_finish 44 = .ok (.aload_n 0, 1) := by decide +kernel
theorem dX7_finish_45 : decode cX7_finish 45 = .ok (.invokevirtual 111, 3) := by decide +kernel
theorem dX7_finish_48 : decode cX7_finish 48 = .ok (.pop, 1) := by decide +kernel
theorem dX7_finish_49 : decode cX7_finish 49 = .ok (.iinc 2 1, 3) := by decide +kernel
theorem dX7_finish_52 : decode cX7_finish 52 = .ok (.goto (-35), 3) := by decide +kernel
theorem dX7_finish_55 : decode cX7_finish 55 = .ok (.aload_n 0, 1) := by decide +kernel
theorem dX7_finish_56 : decode cX7_finish 56 = .ok (.iload_n 1, 1) := by decide +kernel
theorem dX7_finish_57 : decode cX7_finish 57 = .ok (.iconst 3, 1) := by decide +kernel
theorem dX7_finish_58 : decode cX7_finish 58 = .ok (.invokevirtual 35, 3) := by decide +kernel
theorem dX7_finish_61 : decode cX7_finish 61 = .ok (.iconst 2, 1) := by decide +kernel
theorem dX7_finish_62 : decode cX7_finish 62 = .ok (.if_icmp .ne 13, 3) := by decide +kernel
theorem dX7_finish_65 : decode cX7_finish 65 = .ok (.aload_n 0, 1) := by decide +kernel
theorem dX7_finish_66 : decode cX7_finish 66 = .ok (.iload_n 1, 1) := by decide +kernel
theorem dX7_finish_67 : decode cX7_finish 67 = .ok (.bipush 8, 2) := by decide +kernel
theorem dX7_finish_69 : decode cX7_finish 69 = .ok (.invokevirtual 35, 3) := by decide +kernel
theorem dX7_finish_72 : decode cX7_finish 72 = .ok (.goto 5, 3) := by decide +kernel
theorem dX7_finish_75 : decode cX7_finish 75 = .ok (.ldc 30, 2) := by decide +kernel
theorem dX7_finish_77 : decode cX7_finish 77 = .ok (.istore_n 2, 1) := by decide +kernel
theorem dX7_finish_78 : decode cX7_finish 78 = .ok (.aload_n 0, 1) := by decide +kernel
theorem dX7_finish_79 : decode cX7_finish 79 = .ok (.invokevirtual 165, 3) := by decide +kernel
theorem dX7_finish_82 : decode cX7_finish 82 = .ok (.iload_n 2, 1) := by decide +kernel
theorem dX7_finish_83 : decode cX7_finish 83 = .ok (.ireturn, 1) := by decide +kernel
theorem dJ9_max_7cf53_0 : decode cJ9_max_7cf53 0 = .ok (.iload_n 0, 1) := by decide +kernel
theorem dJ9_max_7cf53_1 : decode cJ9_max_7cf53 1 = .ok (.iload_n 1, 1) := by decide +kernel
theorem dJ9_max_7cf53_2 : decode cJ9_max_7cf53 2 = .ok (.if_icmp .lt 7, 3) := by decide +kernel
theorem dJ9_max_7cf53_5 : decode cJ9_max_7cf53 5 = .ok (.iload_n 0, 1) := by decide +kernel
theorem dJ9_max_7cf53_6 : decode cJ9_max_7cf53 6 = .ok (.goto 4, 3) := by decide +kernel
theorem dJ9_max_7cf53_9 : decode cJ9_max_7cf53 9 = .ok (.iload_n 1, 1) := by decide +kernel
theorem dJ9_max_7cf53_10 : decode cJ9_max_7cf53 10 = .ok (.ireturn, 1) := by decide +kernel
theorem dJ9_min_7cf53_0 : decode cJ9_min_7cf53 0 = .ok (.iload_n 0, 1) := by decide +kernel
theorem dJ9_min_7cf53_1 : decode cJ9_min_7cf53 1 = .ok (.iload_n 1, 1) := by decide +kernel
theorem dJ9_min_7cf53_2 : decode cJ9_min_7cf53 2 = .ok (.if_icmp .gt 7, 3) := by decide +kernel
theorem dJ9_min_7cf53_5 : decode cJ9_min_7cf53 5 = .ok (.iload_n 0, 1) := by decide +kernel
theorem dJ9_min_7cf53_6 : decode cJ9_min_7cf53 6 = .ok (.goto 4, 3) := by decide +kernel
theorem dJ9_min_7cf53_9 : decode cJ9_min_7cf53 9 = .ok (.iload_n 1, 1) := by decide +kernel
theorem dJ9_min_7cf53_10 : decode cJ9_min_7cf53 10 = .ok (.ireturn, 1) := by decide +kernel
