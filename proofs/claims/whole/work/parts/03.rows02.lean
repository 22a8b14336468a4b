theorem dX3_run_36 : decode cX3_run 36 = .ok (.getfield 18, 3) := by decide +kernel
theorem dX3_run_39 : decode cX3_run 39 = .ok (.if_icmp .ge 62, 3) := by decide +kernel
theorem dX3_run_42 : decode cX3_run 42 = .ok (.aload_n 0, 1) := by decide +kernel
theorem dX3_run_43 : decode cX3_run 43 = .ok (.iload_n 1, 1) := by decide +kernel
theorem dX3_run_44 : decode cX3_run 44 = .ok (.iload 5, 2) := by decide +kernel
theorem dX3_run_46 : decode cX3_run 46 = .ok (.invokevirtual 105, 3) := by decide +kernel
theorem dX3_run_49 : decode cX3_run 49 = .ok (.istore 6, 2) := by decide +kernel
theorem dX3_run_51 : decode cX3_run 51 = .ok (.iload 4, 2) := by decide +kernel
theorem dX3_run_53 : decode cX3_run 53 = .ok (.iload 6, 2) := by decide +kernel
theorem dX3_run_55 : decode cX3_run 55 = .ok (.invokestatic 15, 3) := by decide +kernel
theorem dX3_run_58 : decode cX3_run 58 = .ok (.istore 4, 2) := by decide +kernel
theorem dX3_run_60 : decode cX3_run 60 = .ok (.iload 6, 2) := by decide +kernel
theorem dX3_run_62 : decode cX3_run 62 = .ok (.ifCond .ne 33, 3) := by decide +kernel
theorem dX3_run_65 : decode cX3_run 65 = .ok (.aload_n 0, 1) := by decide +kernel
theorem dX3_run_66 : decode cX3_run 66 = .ok (.getfield 24, 3) := by decide +kernel
theorem dX3_run_69 : decode cX3_run 69 = .ok (.iload_n 1, 1) := by decide +kernel
theorem dX3_run_70 : decode cX3_run 70 = .ok (.aaload, 1) := by decide +kernel
theorem dX3_run_71 : decode cX3_run 71 = .ok (.iload 5, 2) := by decide +kernel
theorem dX3_run_73 : decode cX3_run 73 = .ok (.invokevirtual 108, 3) := by decide +kernel
theorem dX3_run_76 : decode cX3_run 76 = .ok (.istore 7, 2) := by decide +kernel
theorem dX3_run_78 : decode cX3_run 78 = .ok (.iload_n 2, 1) := by decide +kernel
theorem dX3_run_79 : decode cX3_run 79 = .ok (.iconst (-1), 1) := by decide +kernel
theorem dX3_run_80 : decode cX3_run 80 = .ok (.if_icmp .eq 9, 3) := by decide +kernel
theorem dX3_run_83 : decode cX3_run 83 = .ok (.iload 7, 2) := by decide +kernel
theorem dX3_run_85 : decode cX3_run 85 = .ok (.iload_n 3, 1) := by decide +kernel
theorem dX3_run_86 : decode cX3_run 86 = .ok (.if_icmp .ge 9, 3) := by decide +kernel
theorem dX3_run_89 : decode cX3_run 89 = .ok (.iload 5, 2) := by decide +kernel
theorem dX3_run_91 : decode cX3_run 91 = .ok (.istore_n 2, 1) := by decide +kernel
theorem dX3_run_92 : decode cX3_run 92 = .ok (.iload 7, 2) := by decide +kernel
theorem dX3_run_94 : decode cX3_run 94 = .ok (.istore_n 3, 1) := by decide +kernel
theorem dX3_run_95 : decode cX3_run 95 = .ok (.iinc 5 1, 3) := by decide +kernel
theorem dX3_run_98 : decode cX3_run 98 = .ok (.goto (-65), 3) := by decide +kernel
theorem dX3_run_101 : decode cX3_run 101 = .ok (.iload_n 2, 1) := by decide +kernel
theorem dX3_run_102 : decode cX3_run 102 = .ok (.iconst (-1), 1) := by decide +kernel
theorem dX3_run_103 : decode cX3_run 103 = .ok (.if_icmp .ne 8, 3) := by decide +kernel
theorem dX3_run_106 : decode cX3_run 106 = .ok (.iconst (-1), 1) := by decide +kernel
theorem dX3_run_107 : decode cX3_run 107 = .ok (.iload 4, 2) := by decide +kernel
theorem dX3_run_109 : decode cX3_run 109 = .ok (.isub, 1) := by decide +kernel
theorem dX3_run_110 : decode cX3_run 110 = .ok (.ireturn, 1) := by decide +kernel
theorem dX3_run_111 : decode cX3_run 111 = .ok (.aload_n 0, 1) := by decide +kernel
theorem dX3_run_112 : decode cX3_run 112 = .ok (.iconst 0, 1) := by decide +kernel
theorem dX3_run_113 : decode cX3_run 113 = .ok (.putfield 112, 3) := by decide +kernel
theorem dX3_run_116 : decode cX3_run 116 = .ok (.aload_n 0, 1) := by decide +kernel
theorem dX3_run_117 : decode cX3_run 117 = .ok (.iload_n 1, 1) := by decide +kernel
theorem dX3_run_118 : decode cX3_run 118 = .ok (.iload_n 2, 1) := by decide +kernel
theorem dX3_run_119 : decode cX3_run 119 = .ok (.invokevirtual 115, 3) := by decide +kernel
theorem dX3_run_122 : decode cX3_run 122 = .ok (.iload_n 2, 1) := by decide +kernel
theorem dX3_run_123 : decode cX3_run 123 = .ok (.ireturn, 1) := by decide +kernel
set_option maxRecDepth 20000 in
theorem ggX3_drop_X3_isPlacedWork : GoodIn wsX3_drop wsX3_isPlacedWork := goodIn_r _ [7, 1, 8, 9, 10, 6, 11, 12, 13, 14, 15, 16, 17, 43, 44, 45, 46, 47, 48, 49, 50, 51, 52, 53, 54, 55, 56, 57, 58, 59, 60] (by decide +kernel) (by decide +kernel)
set_option maxRecDepth 20000 in
theorem gX3_drop_X3_isPlacedWork : GoodIn wsX3_drop (wsV RX3 119 RX3 yX3_isPlacedWork wsX3_isPlacedWork) := goodIn_app (goodIn_of _ (by decide +kernel)) ggX3_drop_X3_isPlacedWork
set_option maxRecDepth 20000 in
theorem ggX3_drop_X2_isFixed : GoodIn wsX3_drop wsX2_isFixed := goodIn_r _ [20, 21, 51, 52, 53, 54, 55, 56, 57, 58, 59, 60] (by decide +kernel) (by decide +kernel)
set_option maxRecDepth 20000 in
theorem gX3_drop_X2_isFixed_n101 : GoodIn wsX3_drop (wsX2_isFixed) := ggX3_drop_X2_isFixed
set_option maxRecDepth 20000 in
theorem ggX3_drop_X3_putAt : GoodIn wsX3_drop wsX3_putAt := goodIn_r _ [25, 1, 2, 26, 27, 28, 6, 29, 30, 31, 32, 33, 34, 35, 36, 37, 38, 39, 40, 41, 42, 43, 44, 45, 46, 47, 48, 49, 50, 51, 52, 53, 54, 55, 56, 57, 58, 59, 60, 61, 62, 63] (by decide +kernel) (by decide +kernel)
set_option maxRecDepth 20000 in
theorem gX3_drop_X3_putAt : GoodIn wsX3_drop (wsV RX3 115 RX3 yX3_putAt wsX3_putAt) := goodIn_app (goodIn_of _ (by decide +kernel)) ggX3_drop_X3_putAt
theorem dX3_drop_0 : decode cX3_drop 0 = .ok (.aload_n 0, 1) := by decide +kernel
theorem dX3_drop_1 : decode cX3_drop 1 = .ok (.iload_n 1, 1) := by decide +kernel
theorem dX3_drop_2 : decode cX3_drop 2 = .ok (.invokevirtual 119, 3) := by decide +kernel
theorem dX3_drop_5 : decode cX3_drop 5 = .ok (.ifCond .eq 15, 3) := by decide +kernel
theorem dX3_drop_8 : decode cX3_drop 8 = .ok (.aload_n 0, 1) := by decide +kernel
theorem dX3_drop_9 : decode cX3_drop 9 = .ok (.getfield 24, 3) := by decide +kernel
theorem dX3_drop_12 : decode cX3_drop 12 = .ok (.iload_n 1, 1) := by decide +kernel
theorem dX3_drop_13 : decode cX3_drop 13 = .ok (.aaload, 1) := by decide +kernel
theorem dX3_drop_14 : decode cX3_drop 14 = .ok (.invokevirtual 101, 3) := by decide +kernel
theorem dX3_drop_17 : decode cX3_drop 17 = .ok (.ifCond .eq 5, 3) := by decide +kernel
theorem dX3_drop_20 : decode cX3_drop 20 = .ok (.iconst 0, 1) := by decide +kernel
theorem dX3_drop_21 : decode cX3_drop 21 = .ok (.ireturn, 1) := by decide +kernel
theorem dX3_drop_22 : decode cX3_drop 22 = .ok (.aload_n 0, 1) := by decide +kernel
theorem dX3_drop_23 : decode cX3_drop 23 = .ok (.iconst 0, 1) := by decide +kernel
theorem dX3_drop_24 : decode cX3_drop 24 = .ok (.putfield 112, 3) := by decide +kernel
theorem dX3_drop_27 : decode cX3_drop 27 = .ok (.aload_n 0, 1) := by decide +kernel
theorem dX3_drop_28 : decode cX3_drop 28 = .ok (.iload_n 1, 1) := by decide +kernel
theorem dX3_drop_29 : decode cX3_drop 29 = .ok (.iconst (-1), 1) := by decide +kernel
theorem dX3_drop_30 : decode cX3_drop 30 = .ok (.invokevirtual 115, 3) := by decide +kernel
theorem dX3_drop_33 : decode cX3_drop 33 = .ok (.iconst 1, 1) := by decide +kernel
theorem dX3_drop_34 : decode cX3_drop 34 = .ok (.ireturn, 1) := by decide +kernel
set_option maxRecDepth 20000 in
theorem ggX3_may_X3_isWork : GoodIn wsX3_may wsX3_isWork := goodIn_r _ [5, 6, 56, 57, 58, 59, 60, 61, 62, 63] (by decide +kernel) (by decide +kernel)
set_option maxRecDepth 20000 in
theorem gX3_may_X3_isWork : GoodIn wsX3_may (wsV RX3 62 RX3 yX3_isWork wsX3_isWork) := goodIn_app (goodIn_of _ (by decide +kernel)) ggX3_may_X3_isWork
set_option maxRecDepth 20000 in
theorem ggX3_may_X3_isHour : GoodIn wsX3_may wsX3_isHour := goodIn_r _ [10, 11, 56, 57, 58, 59, 60, 61, 62, 63] (by decide +kernel) (by decide +kernel)
set_option maxRecDepth 20000 in
theorem gX3_may_X3_isHour : GoodIn wsX3_may (wsV RX3 73 RX3 yX3_isHour wsX3_isHour) := goodIn_app (goodIn_of _ (by decide +kernel)) ggX3_may_X3_isHour
set_option maxRecDepth 20000 in
theorem ggX3_may_X3_firstBrokenRule : GoodIn wsX3_may wsX3_firstBrokenRule := goodIn_r _ [15, 16, 11, 17, 18, 19, 20, 21, 22, 23, 24, 25, 26, 27, 28, 29, 30, 31, 32, 33, 34, 35, 4, 36, 37, 38, 39, 40, 6, 41, 42, 43, 44, 45, 46, 47, 48, 49, 50, 51, 52, 53, 54, 55, 56, 57, 58, 59, 60, 61, 62, 63, 64, 65, 66, 67, 68, 69, 70, 71, 72, 73] (by decide +kernel) (by decide +kernel)
set_option maxRecDepth 20000 in
theorem gX3_may_X3_firstBrokenRule : GoodIn wsX3_may (wsV RX3 105 RX3 yX3_firstBrokenRule wsX3_firstBrokenRule) := goodIn_app (goodIn_of _ (by decide +kernel)) ggX3_may_X3_firstBrokenRule
theorem dX3_may_0 : decode cX3_may 0 = .ok (.aload_n 0, 1) := by decide +kernel
theorem dX3_may_1 : decode cX3_may 1 = .ok (.iload_n 1, 1) := by decide +kernel
theorem dX3_may_2 : decode cX3_may 2 = .ok (.invokevirtual 62, 3) := by decide +kernel
theorem dX3_may_5 : decode cX3_may 5 = .ok (.ifCond .eq 24, 3) := by decide +kernel
theorem dX3_may_8 : decode cX3_may 8 = .ok (.aload_n 0, 1) := by decide +kernel
theorem dX3_may_9 : decode cX3_may 9 = .ok (.iload_n 2, 1) := by decide +kernel
theorem dX3_may_10 : decode cX3_may 10 = .ok (.invokevirtual 73, 3) := by decide +kernel
theorem dX3_may_13 : decode cX3_may 13 = .ok (.ifCond .eq 16, 3) := by decide +kernel
theorem dX3_may_16 : decode cX3_may 16 = .ok (.aload_n 0, 1) := by decide +kernel
theorem dX3_may_17 : decode cX3_may 17 = .ok (.iload_n 1, 1) := by decide +kernel
theorem dX3_may_18 : decode cX3_may 18 = .ok (.iload_n 2, 1) := by decide +kernel
theorem dX3_may_19 : decode cX3_may 19 = .ok (.invokevirtual 105, 3) := by decide +kernel
theorem dX3_may_22 : decode cX3_may 22 = .ok (.ifCond .ne 7, 3) := by decide +kernel
theorem dX3_may_25 : decode cX3_may 25 = .ok (.iconst 1, 1) := by decide +kernel
theorem dX3_may_26 : decode cX3_may 26 = .ok (.goto 4, 3) := by decide +kernel
theorem dX3_may_29 : decode cX3_may 29 = .ok (.iconst 0, 1) := by decide +kernel
theorem dX3_may_30 : decode cX3_may 30 = .ok (.ireturn, 1) := by decide +kernel
set_option maxRecDepth 20000 in
theorem ggX3_all_X3_findPlan : GoodIn wsX3_all wsX3_findPlan := goodIn_r _ [7, 2, 1, 8, 9, 10, 11, 12, 13, 14, 15, 16, 17, 18, 19, 20, 21, 22, 23, 24, 25, 26, 27, 28, 29, 30, 6, 31, 32, 33, 34, 35, 36, 37, 38, 39, 40, 41, 42, 43, 44, 45, 46, 47, 48, 49, 50, 51, 52, 53, 54, 55, 56, 57, 58, 59, 60, 61, 62, 63, 64, 65, 66, 67, 68, 69, 70, 71, 72, 73, 74, 75, 76, 77, 78, 79, 80, 81, 82, 83, 84, 85, 86, 87, 88, 89, 90, 91, 92, 93, 94, 95, 96, 97, 98, 99, 100, 101, 102, 103, 104, 105, 106, 107, 108, 109, 110, 111, 112, 113, 114, 138, 139, 140, 141, 142, 143, 144, 145, 146, 147, 148, 149, 150, 151, 152, 153, 154, 155, 156, 157, 158, 159, 160, 161, 162, 163, 164, 165] (by decide +kernel) (by decide +kernel)
set_option maxRecDepth 20000 in
theorem gX3_all_X3_findPlan : GoodIn wsX3_all (wsV RX3 122 RX3 yX3_findPlan wsX3_findPlan) := goodIn_app (goodIn_of _ (by decide +kernel)) ggX3_all_X3_findPlan
set_option maxRecDepth 20000 in
theorem ggX3_all_X3_takePlan : GoodIn wsX3_all wsX3_takePlan := goodIn_r _ [118, 119, 1, 2, 120, 121, 122, 6, 123, 8, 124, 125, 82, 83, 84, 126, 127, 128, 129, 130, 131, 132, 133, 134, 68, 69, 70, 138, 139, 140, 141, 142, 143, 144, 145, 146, 147, 148, 149, 150, 151, 152, 153, 154, 155, 156, 157, 158, 159, 160, 161, 162, 163, 164, 165, 166, 167, 168] (by decide +kernel) (by decide +kernel)
set_option maxRecDepth 20000 in
theorem gX3_all_X3_takePlan : GoodIn wsX3_all (wsV RX3 126 RX3 yX3_takePlan wsX3_takePlan) := goodIn_app (goodIn_of _ (by decide +kernel)) ggX3_all_X3_takePlan
set_option maxRecDepth 20000 in
theorem ggX3_all_X1_bestCost : GoodIn wsX3_all wsX1_bestCost := goodIn_r _ [137, 15, 75, 146, 147, 148, 149, 150, 151, 152, 153, 154, 155] (by decide +kernel) (by decide +kernel)
set_option maxRecDepth 20000 in
theorem gX3_all_X1_bestCost_n129 : GoodIn wsX3_all (wsX1_bestCost) := ggX3_all_X1_bestCost
theorem dX3_all_0 : decode cX3_all 0 = .ok (.aload_n 0, 1) := by decide +kernel
theorem dX3_all_1 : decode cX3_all 1 = .ok (.getfield 53, 3) := by decide +kernel
theorem dX3_all_4 : decode cX3_all 4 = .ok (.ifCond .eq 12, 3) := by decide +kernel
theorem dX3_all_7 : decode cX3_all 7 = .ok (.aload_n 0, 1) := by decide +kernel
theorem dX3_all_8 : decode cX3_all 8 = .ok (.iconst (-1), 1) := by decide +kernel
theorem dX3_all_9 : decode cX3_all 9 = .ok (.iconst 0, 1) := by decide +kernel
theorem dX3_all_10 : decode cX3_all 10 = .ok (.invokevirtual 122, 3) := by decide +kernel
theorem dX3_all_13 : decode cX3_all 13 = .ok (.ifCond .ne 5, 3) := by decide +kernel
theorem dX3_all_16 : decode cX3_all 16 = .ok (.iconst (-1), 1) := by decide +kernel
theorem dX3_all_17 : decode cX3_all 17 = .ok (.ireturn, 1) := by decide +kernel
theorem dX3_all_18 : decode cX3_all 18 = .ok (.aload_n 0, 1) := by decide +kernel
theorem dX3_all_19 : decode cX3_all 19 = .ok (.invokevirtual 126, 3) := by decide +kernel
theorem dX3_all_22 : decode cX3_all 22 = .ok (.aload_n 0, 1) := by decide +kernel
theorem dX3_all_23 : decode cX3_all 23 = .ok (.getfield 45, 3) := by decide +kernel
theorem dX3_all_26 : decode cX3_all 26 = .ok (.invokevirtual 129, 3) := by decide +kernel
theorem dX3_all_29 : decode cX3_all 29 = .ok (.ireturn, 1) := by decide +kernel
set_option maxRecDepth 20000 in
theorem ggX3_late_X3_isWork : GoodIn wsX3_late wsX3_isWork := goodIn_r _ [9, 2, 154, 155, 156, 157, 158, 159, 160, 161] (by decide +kernel) (by decide +kernel)
set_option maxRecDepth 20000 in
theorem gX3_late_X3_isWork : GoodIn wsX3_late (wsV RX3 62 RX3 yX3_isWork wsX3_isWork) := goodIn_app (goodIn_of _ (by decide +kernel)) ggX3_late_X3_isWork
set_option maxRecDepth 20000 in
theorem ggX3_late_X3_isHour : GoodIn wsX3_late wsX3_isHour := goodIn_r _ [13, 14, 154, 155, 156, 157, 158, 159, 160, 161] (by decide +kernel) (by decide +kernel)
set_option maxRecDepth 20000 in
theorem gX3_late_X3_isHour : GoodIn wsX3_late (wsV RX3 73 RX3 yX3_isHour wsX3_isHour) := goodIn_app (goodIn_of _ (by decide +kernel)) ggX3_late_X3_isHour
set_option maxRecDepth 20000 in
theorem ggX3_late_X2_isFixed : GoodIn wsX3_late wsX2_isFixed := goodIn_r _ [18, 19, 162, 163, 164, 165, 166, 167, 168, 169, 170, 171] (by decide +kernel) (by decide +kernel)
set_option maxRecDepth 20000 in
theorem gX3_late_X2_isFixed_n101 : GoodIn wsX3_late (wsX2_isFixed) := ggX3_late_X2_isFixed
set_option maxRecDepth 20000 in
theorem ggX3_late_X3_placedWorks : GoodIn wsX3_late wsX3_placedWorks := goodIn_r _ [23, 2, 1, 24, 16, 25, 26, 27, 154, 155, 156, 157, 158, 159, 160, 161, 162, 163, 164, 165, 166, 167, 168, 169, 170, 171] (by decide +kernel) (by decide +kernel)
set_option maxRecDepth 20000 in
theorem gX3_late_X3_placedWorks : GoodIn wsX3_late (wsV RX3 133 RX3 yX3_placedWorks wsX3_placedWorks) := goodIn_app (goodIn_of _ (by decide +kernel)) ggX3_late_X3_placedWorks
set_option maxRecDepth 20000 in
theorem ggX3_late_X3_findPlan : GoodIn wsX3_late wsX3_findPlan := goodIn_r _ [31, 3, 2, 1, 32, 33, 34, 35, 36, 37, 38, 39, 40, 41, 16, 42, 43, 44, 45, 46, 47, 48, 49, 50, 51, 52, 8, 53, 54, 55, 56, 57, 58, 59, 60, 61, 62, 63, 64, 65, 14, 4, 15, 17, 18, 19, 66, 67, 68, 69, 70, 71, 72, 73, 74, 75, 76, 77, 78, 79, 80, 81, 82, 83, 84, 85, 86, 87, 88, 89, 90, 91, 92, 93, 94, 95, 96, 97, 98, 99, 100, 101, 102, 103, 104, 105, 106, 107, 108, 109, 110, 111, 112, 113, 114, 115, 116, 117, 118, 119, 120, 121, 122, 123, 124, 125, 126, 127, 128, 129, 130, 154, 155, 156, 157, 158, 159, 160, 161, 172, 173, 174, 175, 176, 177, 178, 179, 180, 181, 162, 163, 164, 165, 166, 167, 168, 169, 170, 171] (by decide +kernel) (by decide +kernel)
set_option maxRecDepth 20000 in
theorem gX3_late_X3_findPlan : GoodIn wsX3_late (wsV RX3 122 RX3 yX3_findPlan wsX3_findPlan) := goodIn_app (goodIn_of _ (by decide +kernel)) ggX3_late_X3_findPlan
set_option maxRecDepth 20000 in
theorem ggX3_late_X3_takePlan : GoodIn wsX3_late wsX3_takePlan := goodIn_r _ [134, 135, 2, 3, 136, 137, 138, 8, 139, 1, 140, 141, 98, 99, 100, 142, 143, 144, 145, 146, 147, 148, 149, 150, 84, 85, 86, 154, 155, 156, 157, 158, 159, 160, 161, 172, 173, 174, 175, 176, 177, 178, 179, 180, 181, 162, 163, 164, 165, 166, 167, 168, 169, 170, 171, 182, 183, 184] (by decide +kernel) (by decide +kernel)
set_option maxRecDepth 20000 in
theorem gX3_late_X3_takePlan : GoodIn wsX3_late (wsV RX3 126 RX3 yX3_takePlan wsX3_takePlan) := goodIn_app (goodIn_of _ (by decide +kernel)) ggX3_late_X3_takePlan
set_option maxRecDepth 20000 in
theorem ggX3_late_X1_bestCost : GoodIn wsX3_late wsX1_bestCost := goodIn_r _ [153, 38, 91, 172, 173, 174, 175, 176, 177, 178, 179, 180, 181] (by decide +kernel) (by decide +kernel)
set_option maxRecDepth 20000 in
theorem gX3_late_X1_bestCost_n129 : GoodIn wsX3_late (wsX1_bestCost) := ggX3_late_X1_bestCost
theorem dX3_late_0 : decode cX3_late 0 = .ok (.aload_n 0, 1) := by decide +kernel
theorem dX3_late_1 : decode cX3_late 1 = .ok (.iload_n 1, 1) := by decide +kernel
theorem dX3_late_2 : decode cX3_late 2 = .ok (.invokevirtual 62, 3) := by decide +kernel
theorem dX3_late_5 : decode cX3_late 5 = .ok (.ifCond .eq 34, 3) := by decide +kernel
theorem dX3_late_8 : decode cX3_late 8 = .ok (.aload_n 0, 1) := by decide +kernel
theorem dX3_late_9 : decode cX3_late 9 = .ok (.iload_n 2, 1) := by decide +kernel
theorem dX3_late_10 : decode cX3_late 10 = .ok (.invokevirtual 73, 3) := by decide +kernel
theorem dX3_late_13 : decode cX3_late 13 = .ok (.ifCond .eq 26, 3) := by decide +kernel
theorem dX3_late_16 : decode cX3_late 16 = .ok (.aload_n 0, 1) := by decide +kernel
theorem dX3_late_17 : decode cX3_late 17 = .ok (.getfield 24, 3) := by decide +kernel
theorem dX3_late_20 : decode cX3_late 20 = .ok (.iload_n 1, 1) := by decide +kernel
theorem dX3_late_21 : decode cX3_late 21 = .ok (.aaload, 1) := by decide +kernel
theorem dX3_late_22 : decode cX3_late 22 = .ok (.invokevirtual 101, 3) := by decide +kernel
theorem dX3_late_25 : decode cX3_late 25 = .ok (.ifCond .ne 14, 3) := by decide +kernel
theorem dX3_late_28 : decode cX3_late 28 = .ok (.aload_n 0, 1) := by decide +kernel
theorem dX3_late_29 : decode cX3_late 29 = .ok (.invokevirtual 133, 3) := by decide +kernel
theorem dX3_late_32 : decode cX3_late 32 = .ok (.aload_n 0, 1) := by decide +kernel
theorem dX3_late_33 : decode cX3_late 33 = .ok (.getfield 53, 3) := by decide +kernel
theorem dX3_late_36 : decode cX3_late 36 = .ok (.if_icmp .ge 5, 3) := by decide +kernel
theorem dX3_late_39 : decode cX3_late 39 = .ok (.iconst (-1), 1) := by decide +kernel
theorem dX3_late_40 : decode cX3_late 40 = .ok (.ireturn, 1) := by decide +kernel
theorem dX3_late_41 : decode cX3_late 41 = .ok (.aload_n 0, 1) := by decide +kernel
theorem dX3_late_42 : decode cX3_late 42 = .ok (.iload_n 1, 1) := by decide +kernel
theorem dX3_late_43 : decode cX3_late 43 = .ok (.iload_n 2, 1) := by decide +kernel
theorem dX3_late_44 : decode cX3_late 44 = .ok (.invokevirtual 122, 3) := by decide +kernel
theorem dX3_late_47 : decode cX3_late 47 = .ok (.ifCond .ne 5, 3) := by decide +kernel
theorem dX3_late_50 : decode cX3_late 50 = .ok (.iconst (-1), 1) := by decide +kernel
theorem dX3_late_51 : decode cX3_late 51 = .ok (.ireturn, 1) := by decide +kernel
theorem dX3_late_52 : decode cX3_late 52 = .ok (.aload_n 0, 1) := by decide +kernel
theorem dX3_late_53 : decode cX3_late 53 = .ok (.invokevirtual 126, 3) := by decide +kernel
theorem dX3_late_56 : decode cX3_late 56 = .ok (.aload_n 0, 1) := by decide +kernel
theorem dX3_late_57 : decode cX3_late 57 = .ok (.getfield 45, 3) := by decide +kernel
theorem dX3_late_60 : decode cX3_late 60 = .ok (.invokevirtual 129, 3) := by decide +kernel
theorem dX3_late_63 : decode cX3_late 63 = .ok (.ldc 136, 2) := by decide +kernel
theorem dX3_late_65 : decode cX3_late 65 = .ok (.idiv, 1) := by decide +kernel
theorem dX3_late_66 : decode cX3_late 66 = .ok (.ireturn, 1) := by decide +kernel
set_option maxRecDepth 20000 in
theorem ggX3_moved_X3_hasBit : GoodIn wsX3_moved wsX3_hasBit := goodIn_r _ [6] (by decide +kernel) (by decide +kernel)
set_option maxRecDepth 20000 in
theorem gX3_moved_X3_hasBit : GoodIn wsX3_moved (va_wsS RX3 137 yX3_hasBit wsX3_hasBit) := goodIn_app (goodIn_of _ (by decide +kernel)) ggX3_moved_X3_hasBit
theorem dX3_moved_0 : decode cX3_moved 0 = .ok (.iconst 0, 1) := by decide +kernel
theorem dX3_moved_1 : decode cX3_moved 1 = .ok (.istore_n 2, 1) := by decide +kernel
theorem dX3_moved_2 : decode cX3_moved 2 = .ok (.iconst 0, 1) := by decide +kernel
theorem dX3_moved_3 : decode cX3_moved 3 = .ok (.istore_n 3, 1) := by decide +kernel
theorem dX3_moved_4 : decode cX3_moved 4 = .ok (.iload_n 3, 1) := by decide +kernel
theorem dX3_moved_5 : decode cX3_moved 5 = .ok (.aload_n 0, 1) := by decide +kernel
theorem dX3_moved_6 : decode cX3_moved 6 = .ok (.getfield 53, 3) := by decide +kernel
theorem dX3_moved_9 : decode cX3_moved 9 = .ok (.if_icmp .ge 31, 3) := by decide +kernel
theorem dX3_moved_12 : decode cX3_moved 12 = .ok (.aload_n 0, 1) := by decide +kernel
theorem dX3_moved_13 : decode cX3_moved 13 = .ok (.getfield 112, 3) := by decide +kernel
theorem dX3_moved_16 : decode cX3_moved 16 = .ok (.i2l, 1) := by decide +kernel
theorem dX3_moved_17 : decode cX3_moved 17 = .ok (.iload_n 3, 1) := by decide +kernel
theorem dX3_moved_18 : decode cX3_moved 18 = .ok (.invokestatic 137, 3) := by decide +kernel
theorem dX3_moved_21 : decode cX3_moved 21 = .ok (.ifCond .eq 13, 3) := by decide +kernel
theorem dX3_moved_24 : decode cX3_moved 24 = .ok (.iload_n 2, 1) := by decide +kernel
theorem dX3_moved_25 : decode cX3_moved 25 = .ok (.iload_n 1, 1) := by decide +kernel
theorem dX3_moved_26 : decode cX3_moved 26 = .ok (.if_icmp .ne 5, 3) := by decide +kernel
theorem dX3_moved_29 : decode cX3_moved 29 = .ok (.iload_n 3, 1) := by decide +kernel
theorem dX3_moved_30 : decode cX3_moved 30 = .ok (.ireturn, 1) := by decide +kernel
theorem dX3_moved_31 : decode cX3_moved 31 = .ok (.iinc 2 1, 3) := by decide +kernel
theorem dX3_moved_34 : decode cX3_moved 34 = .ok (.iinc 3 1, 3) := by decide +kernel
theorem dX3_moved_37 : decode cX3_moved 37 = .ok (.goto (-33), 3) := by decide +kernel
theorem dX3_moved_40 : decode cX3_moved 40 = .ok (.iconst (-1), 1) := by decide +kernel
theorem dX3_moved_41 : decode cX3_moved 41 = .ok (.ireturn, 1) := by decide +kernel
set_option maxRecDepth 20000 in
theorem ggX3_start_X3_isPlacedWork : GoodIn wsX3_start wsX3_isPlacedWork := goodIn_r _ [6, 1, 7, 8, 9, 5, 10, 11, 12, 13, 14, 15, 16, 17, 18, 19, 20, 21, 22, 23, 24, 25, 26, 27, 28, 29, 30, 31, 32, 33, 34] (by decide +kernel) (by decide +kernel)
set_option maxRecDepth 20000 in
theorem gX3_start_X3_isPlacedWork : GoodIn wsX3_start (wsV RX3 119 RX3 yX3_isPlacedWork wsX3_isPlacedWork) := goodIn_app (goodIn_of _ (by decide +kernel)) ggX3_start_X3_isPlacedWork
theorem dX3_start_0 : decode cX3_start 0 = .ok (.aload_n 0, 1) := by decide +kernel
theorem dX3_start_1 : decode cX3_start 1 = .ok (.iload_n 1, 1) := by decide +kernel
theorem dX3_start_2 : decode cX3_start 2 = .ok (.invokevirtual 119, 3) := by decide +kernel
theorem dX3_start_5 : decode cX3_start 5 = .ok (.ifCond .eq 15, 3) := by decide +kernel
theorem dX3_start_8 : decode cX3_start 8 = .ok (.aload_n 0, 1) := by decide +kernel
theorem dX3_start_9 : decode cX3_start 9 = .ok (.getfield 24, 3) := by decide +kernel
theorem dX3_start_12 : decode cX3_start 12 = .ok (.iload_n 1, 1) := by decide +kernel
theorem dX3_start_13 : decode cX3_start 13 = .ok (.aaload, 1) := by decide +kernel
theorem dX3_start_14 : decode cX3_start 14 = .ok (.getfield 141, 3) := by decide +kernel
theorem dX3_start_17 : decode cX3_start 17 = .ok (.goto 4, 3) := by decide +kernel
theorem dX3_start_20 : decode cX3_start 20 = .ok (.iconst (-1), 1) := by decide +kernel
theorem dX3_start_21 : decode cX3_start 21 = .ok (.ireturn, 1) := by decide +kernel
set_option maxRecDepth 20000 in
theorem ggX3_least_X3_isPlacedWork : GoodIn wsX3_least wsX3_isPlacedWork := goodIn_r _ [7, 1, 8, 9, 10, 6, 11, 2, 12, 13, 14, 15, 16, 31, 32, 33, 34, 35, 36, 37, 38, 39, 40, 41, 42, 43, 44, 45, 46, 47, 48] (by decide +kernel) (by decide +kernel)
set_option maxRecDepth 20000 in
theorem gX3_least_X3_isPlacedWork : GoodIn wsX3_least (wsV RX3 119 RX3 yX3_isPlacedWork wsX3_isPlacedWork) := goodIn_app (goodIn_of _ (by decide +kernel)) ggX3_least_X3_isPlacedWork
set_option maxRecDepth 20000 in
theorem ggX3_least_X2_delayFrom : GoodIn wsX3_least wsX2_delayFrom := goodIn_r _ [19, 20, 21, 22, 23, 24, 25, 26, 27, 13, 28, 29, 30, 39, 40, 41, 42, 43, 44, 45, 46, 47, 48] (by decide +kernel) (by decide +kernel)
set_option maxRecDepth 20000 in
theorem gX3_least_X2_delayFrom_n108 : GoodIn wsX3_least (wsX2_delayFrom) := ggX3_least_X2_delayFrom
theorem dX3_least_0 : decode cX3_least 0 = .ok (.iload_n 1, 1) := by decide +kernel
theorem dX3_least_1 : decode cX3_least 1 = .ok (.iconst (-1), 1) := by decide +kernel
theorem dX3_least_2 : decode cX3_least 2 = .ok (.if_icmp .eq 34, 3) := by decide +kernel
theorem dX3_least_5 : decode cX3_least 5 = .ok (.aload_n 0, 1) := by decide +kernel
theorem dX3_least_6 : decode cX3_least 6 = .ok (.iload_n 1, 1) := by decide +kernel
theorem dX3_least_7 : decode cX3_least 7 = .ok (.invokevirtual 119, 3) := by decide +kernel
theorem dX3_least_10 : decode cX3_least 10 = .ok (.ifCond .eq 24, 3) := by decide +kernel
theorem dX3_least_13 : decode cX3_least 13 = .ok (.aload_n 0, 1) := by decide +kernel
theorem dX3_least_14 : decode cX3_least 14 = .ok (.getfield 24, 3) := by decide +kernel
theorem dX3_least_17 : decode cX3_least 17 = .ok (.iload_n 1, 1) := by decide +kernel
theorem dX3_least_18 : decode cX3_least 18 = .ok (.aaload, 1) := by decide +kernel
theorem dX3_least_19 : decode cX3_least 19 = .ok (.aload_n 0, 1) := by decide +kernel
theorem dX3_least_20 : decode cX3_least 20 = .ok (.getfield 24, 3) := by decide +kernel
theorem dX3_least_23 : decode cX3_least 23 = .ok (.iload_n 1, 1) := by decide +kernel
theorem dX3_least_24 : decode cX3_least 24 = .ok (.aaload, 1) := by decide +kernel
theorem dX3_least_25 : decode cX3_least 25 = .ok (.getfield 141, 3) := by decide +kernel
theorem dX3_least_28 : decode cX3_least 28 = .ok (.invokevirtual 108, 3) := by decide +kernel
theorem dX3_least_31 : decode cX3_least 31 = .ok (.goto 4, 3) := by decide +kernel
theorem dX3_least_34 : decode cX3_least 34 = .ok (.iconst (-1), 1) := by decide +kernel
theorem dX3_least_35 : decode cX3_least 35 = .ok (.ireturn, 1) := by decide +kernel
theorem dX3_least_36 : decode cX3_least 36 = .ok (.iconst 0, 1) := by decide +kernel
theorem dX3_least_37 : decode cX3_least 37 = .ok (.istore_n 2, 1) := by decide +kernel
theorem dX3_least_38 : decode cX3_least 38 = .ok (.iconst 0, 1) := by decide +kernel
theorem dX3_least_39 : decode cX3_least 39 = .ok (.istore_n 3, 1) := by decide +kernel
theorem dX3_least_40 : decode cX3_least 40 = .ok (.iload_n 3, 1) := by decide +kernel
theorem dX3_least_41 : decode cX3_least 41 = .ok (.aload_n 0, 1) := by decide +kernel
theorem dX3_least_42 : decode cX3_least 42 = .ok (.getfield 53, 3) := by decide +kernel
theorem dX3_least_45 : decode cX3_least 45 = .ok (.if_icmp .ge 38, 3) := by decide +kernel
theorem dX3_least_48 : decode cX3_least 48 = .ok (.aload_n 0, 1) := by decide +kernel
theorem dX3_least_49 : decode cX3_least 49 = .ok (.iload_n 3, 1) := by decide +kernel
theorem dX3_least_50 : decode cX3_least 50 = .ok (.invokevirtual 119, 3) := by decide +kernel
theorem dX3_least_53 : decode cX3_least 53 = .ok (.ifCond .eq 24, 3) := by decide +kernel
theorem dX3_least_56 : decode cX3_least 56 = .ok (.iload_n 2, 1) := by decide +kernel
theorem dX3_least_57 : decode cX3_least 57 = .ok (.aload_n 0, 1) := by decide +kernel
theorem dX3_least_58 : decode cX3_least 58 = .ok (.getfield 24, 3) := by decide +kernel
theorem dX3_least_61 : decode cX3_least 61 = .ok (.iload_n 3, 1) := by decide +kernel
theorem dX3_least_62 : decode cX3_least 62 = .ok (.aaload, 1) := by decide +kernel
theorem dX3_least_63 : decode cX3_least 63 = .ok (.aload_n 0, 1) := by decide +kernel
theorem dX3_least_64 : decode cX3_least 64 = .ok (.getfield 24, 3) := by decide +kernel
theorem dX3_least_67 : decode cX3_least 67 = .ok (.iload_n 3, 1) := by decide +kernel
theorem dX3_least_68 : decode cX3_least 68 = .ok (.aaload, 1) := by decide +kernel
theorem dX3_least_69 : decode cX3_least 69 = .ok (.getfield 141, 3) := by decide +kernel
theorem dX3_least_72 : decode cX3_least 72 = .ok (.invokevirtual 108, 3) := by decide +kernel
theorem dX3_least_75 : decode cX3_least 75 = .ok (.iadd, 1) := by decide +kernel
theorem dX3_least_76 : decode cX3_least 76 = .ok (.istore_n 2, 1) := by decide +kernel
theorem dX3_least_77 : decode cX3_least 77 = .ok (.iinc 3 1, 3) := by decide +kernel
theorem dX3_least_80 : decode cX3_least 80 = .ok (.goto (-40), 3) := by decide +kernel
theorem dX3_least_83 : decode cX3_least 83 = .ok (.iload_n 2, 1) := by decide +kernel
theorem dX3_least_84 : decode cX3_least 84 = .ok (.ireturn, 1) := by decide +kernel
set_option maxRecDepth 20000 in
theorem ggX3_act_X3_isWork : GoodIn wsX3_act wsX3_isWork := goodIn_r _ [9, 10, 22, 23, 24, 25, 26, 27, 28, 29] (by decide +kernel) (by decide +kernel)
set_option maxRecDepth 20000 in
theorem gX3_act_X3_isWork : GoodIn wsX3_act (wsV RX3 62 RX3 yX3_isWork wsX3_isWork) := goodIn_app (goodIn_of _ (by decide +kernel)) ggX3_act_X3_isWork
set_option maxRecDepth 20000 in
theorem ggX3_act_X3_isWithin : GoodIn wsX3_act wsX3_isWithin := goodIn_r _ [13] (by decide +kernel) (by decide +kernel)
set_option maxRecDepth 20000 in
theorem gX3_act_X3_isWithin : GoodIn wsX3_act (va_wsS RX3 49 yX3_isWithin wsX3_isWithin) := goodIn_app (goodIn_of _ (by decide +kernel)) ggX3_act_X3_isWithin
set_option maxRecDepth 20000 in
theorem ggX3_act_X3_hasBit : GoodIn wsX3_act wsX3_hasBit := goodIn_r _ [16] (by decide +kernel) (by decide +kernel)
set_option maxRecDepth 20000 in
theorem gX3_act_X3_hasBit : GoodIn wsX3_act (va_wsS RX3 137 yX3_hasBit wsX3_hasBit) := goodIn_app (goodIn_of _ (by decide +kernel)) ggX3_act_X3_hasBit
set_option maxRecDepth 20000 in
theorem ggX3_act_X2_isPlaced : GoodIn wsX3_act wsX2_isPlaced := goodIn_r _ [20, 21, 30, 31, 32, 33, 34, 35, 36, 37, 38, 39] (by decide +kernel) (by decide +kernel)
set_option maxRecDepth 20000 in
theorem gX3_act_X2_isPlaced_n153 : GoodIn wsX3_act (wsX2_isPlaced) := ggX3_act_X2_isPlaced
theorem dX3_act_0 : decode cX3_act 0 = .ok (.aload_n 0, 1) := by decide +kernel
theorem dX3_act_1 : decode cX3_act 1 = .ok (.iload_n 1, 1) := by decide +kernel
theorem dX3_act_2 : decode cX3_act 2 = .ok (.invokevirtual 62, 3) := by decide +kernel
theorem dX3_act_5 : decode cX3_act 5 = .ok (.ifCond .eq 21, 3) := by decide +kernel
theorem dX3_act_8 : decode cX3_act 8 = .ok (.iload_n 2, 1) := by decide +kernel
theorem dX3_act_9 : decode cX3_act 9 = .ok (.iconst 0, 1) := by decide +kernel
theorem dX3_act_10 : decode cX3_act 10 = .ok (.iconst 5, 1) := by decide +kernel
theorem dX3_act_11 : decode cX3_act 11 = .ok (.invokestatic 49, 3) := by decide +kernel
theorem dX3_act_14 : decode cX3_act 14 = .ok (.ifCond .eq 12, 3) := by decide +kernel
theorem dX3_act_17 : decode cX3_act 17 = .ok (.iload_n 3, 1) := by decide +kernel
theorem dX3_act_18 : decode cX3_act 18 = .ok (.iconst 0, 1) := by decide +kernel
theorem dX3_act_19 : decode cX3_act 19 = .ok (.iconst 2, 1) := by decide +kernel
theorem dX3_act_20 : decode cX3_act 20 = .ok (.invokestatic 49, 3) := by decide +kernel
theorem dX3_act_23 : decode cX3_act 23 = .ok (.ifCond .ne 5, 3) := by decide +kernel
theorem dX3_act_26 : decode cX3_act 26 = .ok (.iconst (-1), 1) := by decide +kernel
theorem dX3_act_27 : decode cX3_act 27 = .ok (.ireturn, 1) := by decide +kernel
theorem dX3_act_28 : decode cX3_act 28 = .ok (.aload_n 0, 1) := by decide +kernel
theorem dX3_act_29 : decode cX3_act 29 = .ok (.getfield 24, 3) := by decide +kernel
theorem dX3_act_32 : decode cX3_act 32 = .ok (.iload_n 1, 1) := by decide +kernel
theorem dX3_act_33 : decode cX3_act 33 = .ok (.aaload, 1) := by decide +kernel
theorem dX3_act_34 : decode cX3_act 34 = .ok (.astore 4, 2) := by decide +kernel
theorem dX3_act_36 : decode cX3_act 36 = .ok (.getstatic 144, 3) := by decide +kernel
theorem dX3_act_39 : decode cX3_act 39 = .ok (.iload_n 2, 1) := by decide +kernel
theorem dX3_act_40 : decode cX3_act 40 = .ok (.iaload, 1) := by decide +kernel
theorem dX3_act_41 : decode cX3_act 41 = .ok (.i2l, 1) := by decide +kernel
theorem dX3_act_42 : decode cX3_act 42 = .ok (.iload_n 3, 1) := by decide +kernel
theorem dX3_act_43 : decode cX3_act 43 = .ok (.invokestatic 137, 3) := by decide +kernel
theorem dX3_act_46 : decode cX3_act 46 = .ok (.ifCond .eq 20, 3) := by decide +kernel
theorem dX3_act_49 : decode cX3_act 49 = .ok (.getstatic 147, 3) := by decide +kernel
theorem dX3_act_52 : decode cX3_act 52 = .ok (.iload_n 2, 1) := by decide +kernel
theorem dX3_act_53 : decode cX3_act 53 = .ok (.iaload, 1) := by decide +kernel
theorem dX3_act_54 : decode cX3_act 54 = .ok (.i2l, 1) := by decide +kernel
theorem dX3_act_55 : decode cX3_act 55 = .ok (.aload 4, 2) := by decide +kernel
theorem dX3_act_57 : decode cX3_act 57 = .ok (.getfield 150, 3) := by decide +kernel
theorem dX3_act_60 : decode cX3_act 60 = .ok (.invokestatic 137, 3) := by decide +kernel
theorem dX3_act_63 : decode cX3_act 63 = .ok (.ifCond .ne 5, 3) := by decide +kernel
theorem dX3_act_66 : decode cX3_act 66 = .ok (.iconst (-1), 1) := by decide +kernel
theorem dX3_act_67 : decode cX3_act 67 = .ok (.ireturn, 1) := by decide +kernel
theorem dX3_act_68 : decode cX3_act 68 = .ok (.iload_n 2, 1) := by decide +kernel
theorem dX3_act_69 : decode cX3_act 69 = .ok (.ifCond .ne 13, 3) := by decide +kernel
theorem dX3_act_72 : decode cX3_act 72 = .ok (.aload 4, 2) := by decide +kernel
theorem dX3_act_74 : decode cX3_act 74 = .ok (.invokevirtual 153, 3) := by decide +kernel
theorem dX3_act_77 : decode cX3_act 77 = .ok (.ifCond .ne 5, 3) := by decide +kernel
theorem dX3_act_80 : decode cX3_act 80 = .ok (.iconst (-1), 1) := by decide +kernel
theorem dX3_act_81 : decode cX3_act 81 = .ok (.ireturn, 1) := by decide +kernel
theorem dX3_act_82 : decode cX3_act 82 = .ok (.aload 4, 2) := by decide +kernel
theorem dX3_act_84 : decode cX3_act 84 = .ok (.getstatic 156, 3) := by decide +kernel
theorem dX3_act_87 : decode cX3_act 87 = .ok (.iload_n 2, 1) := by decide +kernel
theorem dX3_act_88 : decode cX3_act 88 = .ok (.iaload, 1) := by decide +kernel
theorem dX3_act_89 : decode cX3_act 89 = .ok (.putfield 150, 3) := by decide +kernel
theorem dX3_act_92 : decode cX3_act 92 = .ok (.aload 4, 2) := by decide +kernel
theorem dX3_act_94 : decode cX3_act 94 = .ok (.getfield 150, 3) := by decide +kernel
theorem dX3_act_97 : decode cX3_act 97 = .ok (.ireturn, 1) := by decide +kernel
set_option maxRecDepth 20000 in
theorem ggX3_state_X3_isWork : GoodIn wsX3_state wsX3_isWork := goodIn_r _ [6, 7, 8, 9, 10, 11, 12, 13, 14, 15] (by decide +kernel) (by decide +kernel)
set_option maxRecDepth 20000 in
theorem gX3_state_X3_isWork : GoodIn wsX3_state (wsV RX3 62 RX3 yX3_isWork wsX3_isWork) := goodIn_app (goodIn_of _ (by decide +kernel)) ggX3_state_X3_isWork
theorem dX3_state_0 : decode cX3_state 0 = .ok (.aload_n 0, 1) := by decide +kernel
theorem dX3_state_1 : decode cX3_state 1 = .ok (.iload_n 1, 1) := by decide +kernel
theorem dX3_state_2 : decode cX3_state 2 = .ok (.invokevirtual 62, 3) := by decide +kernel
theorem dX3_state_5 : decode cX3_state 5 = .ok (.ifCond .eq 15, 3) := by decide +kernel
theorem dX3_state_8 : decode cX3_state 8 = .ok (.aload_n 0, 1) := by decide +kernel
theorem dX3_state_9 : decode cX3_state 9 = .ok (.getfield 24, 3) := by decide +kernel
theorem dX3_state_12 : decode cX3_state 12 = .ok (.iload_n 1, 1) := by decide +kernel
theorem dX3_state_13 : decode cX3_state 13 = .ok (.aaload, 1) := by decide +kernel
theorem dX3_state_14 : decode cX3_state 14 = .ok (.getfield 150, 3) := by decide +kernel
theorem dX3_state_17 : decode cX3_state 17 = .ok (.goto 4, 3) := by decide +kernel
theorem dX3_state_20 : decode cX3_state 20 = .ok (.iconst (-1), 1) := by decide +kernel
theorem dX3_state_21 : decode cX3_state 21 = .ok (.ireturn, 1) := by decide +kernel
set_option maxRecDepth 20000 in
theorem ggX3_notice_X0_isKept : GoodIn wsX3_notice wsX0_isKept := goodIn_r _ [5, 6, 15, 16, 17] (by decide +kernel) (by decide +kernel)
set_option maxRecDepth 20000 in
theorem gX3_notice_X0_isKept_n159 : GoodIn wsX3_notice (wsX0_isKept) := ggX3_notice_X0_isKept
theorem dX3_notice_0 : decode cX3_notice 0 = .ok (.aload_n 0, 1) := by decide +kernel
theorem dX3_notice_1 : decode cX3_notice 1 = .ok (.getfield 38, 3) := by decide +kernel
theorem dX3_notice_4 : decode cX3_notice 4 = .ok (.iload_n 1, 1) := by decide +kernel
theorem dX3_notice_5 : decode cX3_notice 5 = .ok (.invokevirtual 159, 3) := by decide +kernel
theorem dX3_notice_8 : decode cX3_notice 8 = .ok (.ifCond .ne 5, 3) := by decide +kernel
theorem dX3_notice_11 : decode cX3_notice 11 = .ok (.iconst (-1), 1) := by decide +kernel
theorem dX3_notice_12 : decode cX3_notice 12 = .ok (.ireturn, 1) := by decide +kernel
theorem dX3_notice_13 : decode cX3_notice 13 = .ok (.iload_n 2, 1) := by decide +kernel
theorem dX3_notice_14 : decode cX3_notice 14 = .ok (.lookupswitch 46 #[(0, 26), (1, 36)], 26) := by decide +kernel
theorem dX3_notice_40 : decode cX3_notice 40 = .ok (.aload_n 0, 1) := by decide +kernel
theorem dX3_notice_41 : decode cX3_notice 41 = .ok (.getfield 38, 3) := by decide +kernel
theorem dX3_notice_44 : decode cX3_notice 44 = .ok (.getfield 162, 3) := by decide +kernel
theorem dX3_notice_47 : decode cX3_notice 47 = .ok (.iload_n 1, 1) := by decide +kernel
theorem dX3_notice_48 : decode cX3_notice 48 = .ok (.iaload, 1) := by decide +kernel
theorem dX3_notice_49 : decode cX3_notice 49 = .ok (.ireturn, 1) := by decide +kernel
theorem dX3_notice_50 : decode cX3_notice 50 = .ok (.aload_n 0, 1) := by decide +kernel
theorem dX3_notice_51 : decode cX3_notice 51 = .ok (.getfield 38, 3) := by decide +kernel
theorem dX3_notice_54 : decode cX3_notice 54 = .ok (.getfield 164, 3) := by decide +kernel
theorem dX3_notice_57 : decode cX3_notice 57 = .ok (.iload_n 1, 1) := by decide +kernel
theorem dX3_notice_58 : decode cX3_notice 58 = .ok (.iaload, 1) := by decide +kernel
theorem dX3_notice_59 : decode cX3_notice 59 = .ok (.ireturn, 1) := by decide +kernel
theorem dX3_notice_60 : decode cX3_notice 60 = .ok (.iconst (-1), 1) := by decide +kernel
theorem dX3_notice_61 : decode cX3_notice 61 = .ok (.ireturn, 1) := by decide +kernel
set_option maxRecDepth 20000 in
theorem ggX3_rate_X3_isWithin : GoodIn wsX3_rate wsX3_isWithin := goodIn_r _ [6] (by decide +kernel) (by decide +kernel)
set_option maxRecDepth 20000 in
theorem gX3_rate_X3_isWithin : GoodIn wsX3_rate (va_wsS RX3 49 yX3_isWithin wsX3_isWithin) := goodIn_app (goodIn_of _ (by decide +kernel)) ggX3_rate_X3_isWithin
theorem dX3_rate_0 : decode cX3_rate 0 = .ok (.iload_n 1, 1) := by decide +kernel
theorem dX3_rate_1 : decode cX3_rate 1 = .ok (.iconst 0, 1) := by decide +kernel
theorem dX3_rate_2 : decode cX3_rate 2 = .ok (.ldc 167, 2) := by decide +kernel
theorem dX3_rate_4 : decode cX3_rate 4 = .ok (.invokestatic 49, 3) := by decide +kernel
theorem dX3_rate_7 : decode cX3_rate 7 = .ok (.ifCond .ne 5, 3) := by decide +kernel
theorem dX3_rate_10 : decode cX3_rate 10 = .ok (.iconst 0, 1) := by decide +kernel
theorem dX3_rate_11 : decode cX3_rate 11 = .ok (.ireturn, 1) := by decide +kernel
theorem dX3_rate_12 : decode cX3_rate 12 = .ok (.aload_n 0, 1) := by decide +kernel
theorem dX3_rate_13 : decode cX3_rate 13 = .ok (.iload_n 1, 1) := by decide +kernel
theorem dX3_rate_14 : decode cX3_rate 14 = .ok (.putfield 168, 3) := by decide +kernel
theorem dX3_rate_17 : decode cX3_rate 17 = .ok (.iconst 1, 1) := by decide +kernel
theorem dX3_rate_18 : decode cX3_rate 18 = .ok (.ireturn, 1) := by decide +kernel
set_option maxRecDepth 20000 in
theorem ggX3_paid_X3_costOf : GoodIn wsX3_paid wsX3_costOf := goodIn_r _ [6, 7, 8, 9, 10, 11, 12, 5, 13, 14, 15, 16, 17, 1, 18, 19, 20, 21, 22, 23, 24, 25, 26, 27, 28, 29, 30, 31, 32, 33, 34, 35, 36, 37, 38, 39, 40, 41, 42, 43, 44, 45, 46, 47, 48, 49, 50, 51, 52, 53, 54] (by decide +kernel) (by decide +kernel)
set_option maxRecDepth 20000 in
theorem gX3_paid_X3_costOf : GoodIn wsX3_paid (wsV RX3 171 RX3 yX3_costOf wsX3_costOf) := goodIn_app (goodIn_of _ (by decide +kernel)) ggX3_paid_X3_costOf
theorem dX3_paid_0 : decode cX3_paid 0 = .ok (.iload_n 1, 1) := by decide +kernel
theorem dX3_paid_1 : decode cX3_paid 1 = .ok (.iconst (-1), 1) := by decide +kernel
theorem dX3_paid_2 : decode cX3_paid 2 = .ok (.if_icmp .eq 9, 3) := by decide +kernel
theorem dX3_paid_5 : decode cX3_paid 5 = .ok (.aload_n 0, 1) := by decide +kernel
theorem dX3_paid_6 : decode cX3_paid 6 = .ok (.iload_n 1, 1) := by decide +kernel
theorem dX3_paid_7 : decode cX3_paid 7 = .ok (.invokevirtual 171, 3) := by decide +kernel
theorem dX3_paid_10 : decode cX3_paid 10 = .ok (.lreturn, 1) := by decide +kernel
theorem dX3_paid_11 : decode cX3_paid 11 = .ok (.lconst 0, 1) := by decide +kernel
theorem dX3_paid_12 : decode cX3_paid 12 = .ok (.lstore_n 2, 1) := by decide +kernel
theorem dX3_paid_13 : decode cX3_paid 13 = .ok (.iconst 0, 1) := by decide +kernel
theorem dX3_paid_14 : decode cX3_paid 14 = .ok (.istore 4, 2) := by decide +kernel
theorem dX3_paid_16 : decode cX3_paid 16 = .ok (.iload 4, 2) := by decide +kernel
theorem dX3_paid_18 : decode cX3_paid 18 = .ok (.aload_n 0, 1) := by decide +kernel
theorem dX3_paid_19 : decode cX3_paid 19 = .ok (.getfield 53, 3) := by decide +kernel
theorem dX3_paid_22 : decode cX3_paid 22 = .ok (.if_icmp .ge 18, 3) := by decide +kernel
theorem dX3_paid_25 : decode cX3_paid 25 = .ok (.lload_n 2, 1) := by decide +kernel
theorem dX3_paid_26 : decode cX3_paid 26 = .ok (.aload_n 0, 1) := by decide +kernel
theorem dX3_paid_27 : decode cX3_paid 27 = .ok (.iload 4, 2) := by decide +kernel
theorem dX3_paid_29 : decode cX3_paid 29 = .ok (.invokevirtual 171, 3) := by decide +kernel
theorem dX3_paid_32 : decode cX3_paid 32 = .ok (.ladd, 1) := by decide +kernel
theorem dX3_paid_33 : decode cX3_paid 33 = .ok (.lstore_n 2, 1) := by decide +kernel
theorem dX3_paid_34 : decode cX3_paid 34 = .ok (.iinc 4 1, 3) := by decide +kernel
theorem dX3_paid_37 : decode cX3_paid 37 = .ok (.goto (-21), 3) := by decide +kernel
theorem dX3_paid_40 : decode cX3_paid 40 = .ok (.lload_n 2, 1) := by decide +kernel
theorem dX3_paid_41 : decode cX3_paid 41 = .ok (.lreturn, 1) := by decide +kernel
set_option maxRecDepth 20000 in
theorem ggX3_open_X3_isHour : GoodIn wsX3_open wsX3_isHour := goodIn_r _ [7, 8, 36, 37, 38, 39, 40, 41, 42, 43] (by decide +kernel) (by decide +kernel)
set_option maxRecDepth 20000 in
theorem gX3_open_X3_isHour : GoodIn wsX3_open (wsV RX3 73 RX3 yX3_isHour wsX3_isHour) := goodIn_app (goodIn_of _ (by decide +kernel)) ggX3_open_X3_isHour
set_option maxRecDepth 20000 in
theorem ggX3_open_X3_isPlacedWork : GoodIn wsX3_open wsX3_isPlacedWork := goodIn_r _ [12, 2, 13, 14, 15, 6, 16, 1, 17, 18, 19, 20, 21, 36, 37, 38, 39, 40, 41, 42, 43, 44, 45, 46, 47, 48, 49, 50, 51, 52, 53] (by decide +kernel) (by decide +kernel)
set_option maxRecDepth 20000 in
theorem gX3_open_X3_isPlacedWork : GoodIn wsX3_open (wsV RX3 119 RX3 yX3_isPlacedWork wsX3_isPlacedWork) := goodIn_app (goodIn_of _ (by decide +kernel)) ggX3_open_X3_isPlacedWork
set_option maxRecDepth 20000 in
theorem ggX3_open_X2_spanFrom : GoodIn wsX3_open wsX2_spanFrom := goodIn_r _ [24, 25, 26, 27, 18, 28, 29, 30, 31, 6, 32, 44, 45, 46, 47, 48, 49, 50, 51, 52, 53] (by decide +kernel) (by decide +kernel)
set_option maxRecDepth 20000 in
theorem gX3_open_X2_spanFrom_n175 : GoodIn wsX3_open (wsX2_spanFrom) := ggX3_open_X2_spanFrom
set_option maxRecDepth 20000 in
theorem ggX3_open_X3_hasBit : GoodIn wsX3_open wsX3_hasBit := goodIn_r _ [35] (by decide +kernel) (by decide +kernel)
set_option maxRecDepth 20000 in
theorem gX3_open_X3_hasBit : GoodIn wsX3_open (va_wsS RX3 137 yX3_hasBit wsX3_hasBit) := goodIn_app (goodIn_of _ (by decide +kernel)) ggX3_open_X3_hasBit
theorem dX3_open_0 : decode cX3_open 0 = .ok (.aload_n 0, 1) := by decide +kernel
theorem dX3_open_1 : decode cX3_open 1 = .ok (.iload_n 1, 1) := by decide +kernel
theorem dX3_open_2 : decode cX3_open 2 = .ok (.invokevirtual 73, 3) := by decide +kernel
theorem dX3_open_5 : decode cX3_open 5 = .ok (.ifCond .ne 5, 3) := by decide +kernel
theorem dX3_open_8 : decode cX3_open 8 = .ok (.iconst (-1), 1) := by decide +kernel
theorem dX3_open_9 : decode cX3_open 9 = .ok (.ireturn, 1) := by decide +kernel
theorem dX3_open_10 : decode cX3_open 10 = .ok (.iconst 0, 1) := by decide +kernel
theorem dX3_open_11 : decode cX3_open 11 = .ok (.istore_n 2, 1) := by decide +kernel
theorem dX3_open_12 : decode cX3_open 12 = .ok (.iconst 0, 1) := by decide +kernel
theorem dX3_open_13 : decode cX3_open 13 = .ok (.istore_n 3, 1) := by decide +kernel
theorem dX3_open_14 : decode cX3_open 14 = .ok (.iload_n 3, 1) := by decide +kernel
theorem dX3_open_15 : decode cX3_open 15 = .ok (.aload_n 0, 1) := by decide +kernel
theorem dX3_open_16 : decode cX3_open 16 = .ok (.getfield 53, 3) := by decide +kernel
theorem dX3_open_19 : decode cX3_open 19 = .ok (.if_icmp .ge 45, 3) := by decide +kernel
theorem dX3_open_22 : decode cX3_open 22 = .ok (.aload_n 0, 1) := by decide +kernel
theorem dX3_open_23 : decode cX3_open 23 = .ok (.iload_n 3, 1) := by decide +kernel
theorem dX3_open_24 : decode cX3_open 24 = .ok (.invokevirtual 119, 3) := by decide +kernel
theorem dX3_open_27 : decode cX3_open 27 = .ok (.ifCond .eq 31, 3) := by decide +kernel
theorem dX3_open_30 : decode cX3_open 30 = .ok (.aload_n 0, 1) := by decide +kernel
theorem dX3_open_31 : decode cX3_open 31 = .ok (.getfield 24, 3) := by decide +kernel
theorem dX3_open_34 : decode cX3_open 34 = .ok (.iload_n 3, 1) := by decide +kernel
theorem dX3_open_35 : decode cX3_open 35 = .ok (.aaload, 1) := by decide +kernel
theorem dX3_open_36 : decode cX3_open 36 = .ok (.aload_n 0, 1) := by decide +kernel
theorem dX3_open_37 : decode cX3_open 37 = .ok (.getfield 24, 3) := by decide +kernel
theorem dX3_open_40 : decode cX3_open 40 = .ok (.iload_n 3, 1) := by decide +kernel
theorem dX3_open_41 : decode cX3_open 41 = .ok (.aaload, 1) := by decide +kernel
theorem dX3_open_42 : decode cX3_open 42 = .ok (.getfield 141, 3) := by decide +kernel
theorem dX3_open_45 : decode cX3_open 45 = .ok (.invokevirtual 175, 3) := by decide +kernel
theorem dX3_open_48 : decode cX3_open 48 = .ok (.iload_n 1, 1) := by decide +kernel
theorem dX3_open_49 : decode cX3_open 49 = .ok (.invokestatic 137, 3) := by decide +kernel
theorem dX3_open_52 : decode cX3_open 52 = .ok (.ifCond .eq 6, 3) := by decide +kernel
theorem dX3_open_55 : decode cX3_open 55 = .ok (.iinc 2 1, 3) := by decide +kernel
theorem dX3_open_58 : decode cX3_open 58 = .ok (.iinc 3 1, 3) := by decide +kernel
theorem dX3_open_61 : decode cX3_open 61 = .ok (.goto (-47), 3) := by decide +kernel
theorem dX3_open_64 : decode cX3_open 64 = .ok (.iload_n 2, 1) := by decide +kernel
theorem dX3_open_65 : decode cX3_open 65 = .ok (.ireturn, 1) := by decide +kernel
set_option maxRecDepth 20000 in
theorem ggX3_holds_X3_isPlacedWork : GoodIn wsX3_holds wsX3_isPlacedWork := goodIn_r _ [7, 2, 8, 9, 10, 6, 11, 1, 12, 13, 14, 15, 16, 56, 57, 58, 59, 60, 61, 62, 63, 64, 65, 66, 67, 68, 69, 70, 71, 72, 73] (by decide +kernel) (by decide +kernel)
set_option maxRecDepth 20000 in
theorem gX3_holds_X3_isPlacedWork : GoodIn wsX3_holds (wsV RX3 119 RX3 yX3_isPlacedWork wsX3_isPlacedWork) := goodIn_app (goodIn_of _ (by decide +kernel)) ggX3_holds_X3_isPlacedWork
set_option maxRecDepth 20000 in
theorem ggX3_holds_X3_firstBrokenRule : GoodIn wsX3_holds wsX3_firstBrokenRule := goodIn_r _ [20, 2, 21, 22, 13, 23, 24, 25, 26, 27, 28, 29, 30, 31, 32, 33, 34, 35, 36, 37, 38, 39, 6, 40, 41, 42, 43, 44, 1, 12, 14, 15, 16, 45, 46, 47, 48, 49, 50, 51, 52, 53, 54, 55, 56, 57, 58, 59, 60, 61, 62, 63, 64, 65, 66, 67, 68, 69, 70, 71, 72, 73] (by decide +kernel) (by decide +kernel)
set_option maxRecDepth 20000 in
theorem gX3_holds_X3_firstBrokenRule : GoodIn wsX3_holds (wsV RX3 105 RX3 yX3_firstBrokenRule wsX3_firstBrokenRule) := goodIn_app (goodIn_of _ (by decide +kernel)) ggX3_holds_X3_firstBrokenRule
theorem dX3_holds_0 : decode cX3_holds 0 = .ok (.iconst 0, 1) := by decide +kernel
theorem dX3_holds_1 : decode cX3_holds 1 = .ok (.istore_n 1, 1) := by decide +kernel
theorem dX3_holds_2 : decode cX3_holds 2 = .ok (.iload_n 1, 1) := by decide +kernel
theorem dX3_holds_3 : decode cX3_holds 3 = .ok (.aload_n 0, 1) := by decide +kernel
theorem dX3_holds_4 : decode cX3_holds 4 = .ok (.getfield 53, 3) := by decide +kernel
theorem dX3_holds_7 : decode cX3_holds 7 = .ok (.if_icmp .ge 36, 3) := by decide +kernel
theorem dX3_holds_10 : decode cX3_holds 10 = .ok (.aload_n 0, 1) := by decide +kernel
theorem dX3_holds_11 : decode cX3_holds 11 = .ok (.iload_n 1, 1) := by decide +kernel
theorem dX3_holds_12 : decode cX3_holds 12 = .ok (.invokevirtual 119, 3) := by decide +kernel
theorem dX3_holds_15 : decode cX3_holds 15 = .ok (.ifCond .eq 22, 3) := by decide +kernel
theorem dX3_holds_18 : decode cX3_holds 18 = .ok (.aload_n 0, 1) := by decide +kernel
theorem dX3_holds_19 : decode cX3_holds 19 = .ok (.iload_n 1, 1) := by decide +kernel
theorem dX3_holds_20 : decode cX3_holds 20 = .ok (.aload_n 0, 1) := by decide +kernel
theorem dX3_holds_21 : decode cX3_holds 21 = .ok (.getfield 24, 3) := by decide +kernel
theorem dX3_holds_24 : decode cX3_holds 24 = .ok (.iload_n 1, 1) := by decide +kernel
theorem dX3_holds_25 : decode cX3_holds 25 = .ok (.aaload, 1) := by decide +kernel
theorem dX3_holds_26 : decode cX3_holds 26 = .ok (.getfield 141, 3) := by decide +kernel
theorem dX3_holds_29 : decode cX3_holds 29 = .ok (.invokevirtual 105, 3) := by decide +kernel
theorem dX3_holds_32 : decode cX3_holds 32 = .ok (.ifCond .eq 5, 3) := by decide +kernel
theorem dX3_holds_35 : decode cX3_holds 35 = .ok (.iconst 0, 1) := by decide +kernel
theorem dX3_holds_36 : decode cX3_holds 36 = .ok (.ireturn, 1) := by decide +kernel
theorem dX3_holds_37 : decode cX3_holds 37 = .ok (.iinc 1 1, 3) := by decide +kernel
theorem dX3_holds_40 : decode cX3_holds 40 = .ok (.goto (-38), 3) := by decide +kernel
theorem dX3_holds_43 : decode cX3_holds 43 = .ok (.iconst 1, 1) := by decide +kernel
theorem dX3_holds_44 : decode cX3_holds 44 = .ok (.ireturn, 1) := by decide +kernel
set_option maxRecDepth 20000 in
theorem ggX3_count_X3_placedWorks : GoodIn wsX3_count wsX3_placedWorks := goodIn_r _ [8, 2, 9, 10, 11, 12, 13, 14, 15, 16, 17, 18, 19, 20, 21, 22, 26, 27, 28, 29, 30, 31, 32, 33, 34, 35] (by decide +kernel) (by decide +kernel)
set_option maxRecDepth 20000 in
theorem gX3_count_X3_placedWorks : GoodIn wsX3_count (wsV RX3 133 RX3 yX3_placedWorks wsX3_placedWorks) := goodIn_app (goodIn_of _ (by decide +kernel)) ggX3_count_X3_placedWorks
theorem dX3_count_0 : decode cX3_count 0 = .ok (.iload_n 1, 1) := by decide +kernel
theorem dX3_count_1 : decode cX3_count 1 = .ok (.tableswitch 54 0 3 #[31, 36, 41, 46], 31) := by decide +kernel
theorem dX3_count_32 : decode cX3_count 32 = .ok (.aload_n 0, 1) := by decide +kernel
theorem dX3_count_33 : decode cX3_count 33 = .ok (.getfield 18, 3) := by decide +kernel
theorem dX3_count_36 : decode cX3_count 36 = .ok (.ireturn, 1) := by decide +kernel
theorem dX3_count_37 : decode cX3_count 37 = .ok (.aload_n 0, 1) := by decide +kernel
theorem dX3_count_38 : decode cX3_count 38 = .ok (.getfield 53, 3) := by decide +kernel
theorem dX3_count_41 : decode cX3_count 41 = .ok (.ireturn, 1) := by decide +kernel
theorem dX3_count_42 : decode cX3_count 42 = .ok (.aload_n 0, 1) := by decide +kernel
theorem dX3_count_43 : decode cX3_count 43 = .ok (.invokevirtual 133, 3) := by decide +kernel
theorem dX3_count_46 : decode cX3_count 46 = .ok (.ireturn, 1) := by decide +kernel
theorem dX3_count_47 : decode cX3_count 47 = .ok (.aload_n 0, 1) := by decide +kernel
theorem dX3_count_48 : decode cX3_count 48 = .ok (.getfield 38, 3) := by decide +kernel
theorem dX3_count_51 : decode cX3_count 51 = .ok (.getfield 178, 3) := by decide +kernel
theorem dX3_count_54 : decode cX3_count 54 = .ok (.ireturn, 1) := by decide +kernel
theorem dX3_count_55 : decode cX3_count 55 = .ok (.iconst (-1), 1) := by decide +kernel
theorem dX3_count_56 : decode cX3_count 56 = .ok (.ireturn, 1) := by decide +kernel
theorem dX3_isWork_0 : decode cX3_isWork 0 = .ok (.iload_n 1, 1) := by decide +kernel
theorem dX3_isWork_1 : decode cX3_isWork 1 = .ok (.ifCond .lt 15, 3) := by decide +kernel
theorem dX3_isWork_4 : decode cX3_isWork 4 = .ok (.iload_n 1, 1) := by decide +kernel
theorem dX3_isWork_5 : decode cX3_isWork 5 = .ok (.aload_n 0, 1) := by decide +kernel
theorem dX3_isWork_6 : decode cX3_isWork 6 = .ok (.getfield 53, 3) := by decide +kernel
theorem dX3_isWork_9 : decode cX3_isWork 9 = .ok (.if_icmp .ge 7, 3) := by decide +kernel
theorem dX3_isWork_12 : decode cX3_isWork 12 = .ok (.iconst 1, 1) := by decide +kernel
theorem dX3_isWork_13 : decode cX3_isWork 13 = .ok (.goto 4, 3) := by decide +kernel
theorem dX3_isWork_16 : decode cX3_isWork 16 = .ok (.iconst 0, 1) := by decide +kernel
theorem dX3_isWork_17 : decode cX3_isWork 17 = .ok (.ireturn, 1) := by decide +kernel
set_option maxRecDepth 20000 in
theorem ggX3_isPlacedWork_X3_isWork : GoodIn wsX3_isPlacedWork wsX3_isWork := goodIn_r _ [6, 7, 13, 14, 15, 16, 17, 18, 19, 20] (by decide +kernel) (by decide +kernel)
set_option maxRecDepth 20000 in
theorem gX3_isPlacedWork_X3_isWork : GoodIn wsX3_isPlacedWork (wsV RX3 62 RX3 yX3_isWork wsX3_isWork) := goodIn_app (goodIn_of _ (by decide +kernel)) ggX3_isPlacedWork_X3_isWork
set_option maxRecDepth 20000 in
theorem ggX3_isPlacedWork_X2_isPlaced : GoodIn wsX3_isPlacedWork wsX2_isPlaced := goodIn_r _ [11, 12, 21, 22, 23, 24, 25, 26, 27, 28, 29, 30] (by decide +kernel) (by decide +kernel)
set_option maxRecDepth 20000 in
theorem gX3_isPlacedWork_X2_isPlaced_n153 : GoodIn wsX3_isPlacedWork (wsX2_isPlaced) := ggX3_isPlacedWork_X2_isPlaced
theorem dX3_isPlacedWork_0 : decode cX3_isPlacedWork 0 = .ok (.aload_n 0, 1) := by decide +kernel
theorem dX3_isPlacedWork_1 : decode cX3_isPlacedWork 1 = .ok (.iload_n 1, 1) := by decide +kernel
theorem dX3_isPlacedWork_2 : decode cX3_isPlacedWork 2 = .ok (.invokevirtual 62, 3) := by decide +kernel
theorem dX3_isPlacedWork_5 : decode cX3_isPlacedWork 5 = .ok (.ifCond .eq 19, 3) := by decide +kernel
theorem dX3_isPlacedWork_8 : decode cX3_isPlacedWork 8 = .ok (.aload_n 0, 1) := by decide +kernel
theorem dX3_isPlacedWork_9 : decode cX3_isPlacedWork 9 = .ok (.getfield 24, 3) := by decide +kernel
theorem dX3_isPlacedWork_12 : decode cX3_isPlacedWork 12 = .ok (.iload_n 1, 1) := by decide +kernel
theorem dX3_isPlacedWork_13 : decode cX3_isPlacedWork 13 = .ok (.aaload, 1) := by decide +kernel
theorem dX3_isPlacedWork_14 : decode cX3_isPlacedWork 14 = .ok (.invokevirtual 153, 3) := by decide +kernel
theorem dX3_isPlacedWork_17 : decode cX3_isPlacedWork 17 = .ok (.ifCond .eq 7, 3) := by decide +kernel
theorem dX3_isPlacedWork_20 : decode cX3_isPlacedWork 20 = .ok (.iconst 1, 1) := by decide +kernel
theorem dX3_isPlacedWork_21 : decode cX3_isPlacedWork 21 = .ok (.goto 4, 3) := by decide +kernel
theorem dX3_isPlacedWork_24 : decode cX3_isPlacedWork 24 = .ok (.iconst 0, 1) := by decide +kernel
theorem dX3_isPlacedWork_25 : decode cX3_isPlacedWork 25 = .ok (.ireturn, 1) := by decide +kernel
theorem dX3_isHour_0 : decode cX3_isHour 0 = .ok (.iload_n 1, 1) := by decide +kernel
theorem dX3_isHour_1 : decode cX3_isHour 1 = .ok (.ifCond .lt 15, 3) := by decide +kernel
theorem dX3_isHour_4 : decode cX3_isHour 4 = .ok (.iload_n 1, 1) := by decide +kernel
theorem dX3_isHour_5 : decode cX3_isHour 5 = .ok (.aload_n 0, 1) := by decide +kernel
theorem dX3_isHour_6 : decode cX3_isHour 6 = .ok (.getfield 18, 3) := by decide +kernel
theorem dX3_isHour_9 : decode cX3_isHour 9 = .ok (.if_icmp .ge 7, 3) := by decide +kernel
theorem dX3_isHour_12 : decode cX3_isHour 12 = .ok (.iconst 1, 1) := by decide +kernel
theorem dX3_isHour_13 : decode cX3_isHour 13 = .ok (.goto 4, 3) := by decide +kernel
theorem dX3_isHour_16 : decode cX3_isHour 16 = .ok (.iconst 0, 1) := by decide +kernel
theorem dX3_isHour_17 : decode cX3_isHour 17 = .ok (.ireturn, 1) := by decide +kernel
theorem dX3_isCrew_0 : decode cX3_isCrew 0 = .ok (.iload_n 0, 1) := by decide +kernel
theorem dX3_isCrew_1 : decode cX3_isCrew 1 = .ok (.ifCond .lt 12, 3) := by decide +kernel
theorem dX3_isCrew_4 : decode cX3_isCrew 4 = .ok (.iload_n 0, 1) := by decide +kernel
theorem dX3_isCrew_5 : decode cX3_isCrew 5 = .ok (.iconst 4, 1) := by decide +kernel
theorem dX3_isCrew_6 : decode cX3_isCrew 6 = .ok (.if_icmp .ge 7, 3) := by decide +kernel
theorem dX3_isCrew_9 : decode cX3_isCrew 9 = .ok (.iconst 1, 1) := by decide +kernel
theorem dX3_isCrew_10 : decode cX3_isCrew 10 = .ok (.goto 4, 3) := by decide +kernel
theorem dX3_isCrew_13 : decode cX3_isCrew 13 = .ok (.iconst 0, 1) := by decide +kernel
theorem dX3_isCrew_14 : decode cX3_isCrew 14 = .ok (.ireturn, 1) := by decide +kernel
set_option maxRecDepth 20000 in
theorem ggX3_placedWorks_X2_isPlaced : GoodIn wsX3_placedWorks wsX2_isPlaced := goodIn_r _ [6, 7, 16, 17, 18, 19, 20, 21, 22, 23, 24, 25] (by decide +kernel) (by decide +kernel)
set_option maxRecDepth 20000 in
theorem gX3_placedWorks_X2_isPlaced_n153 : GoodIn wsX3_placedWorks (wsX2_isPlaced) := ggX3_placedWorks_X2_isPlaced
theorem dX3_placedWorks_0 : decode cX3_placedWorks 0 = .ok (.iconst 0, 1) := by decide +kernel
theorem dX3_placedWorks_1 : decode cX3_placedWorks 1 = .ok (.istore_n 1, 1) := by decide +kernel
theorem dX3_placedWorks_2 : decode cX3_placedWorks 2 = .ok (.iconst 0, 1) := by decide +kernel
theorem dX3_placedWorks_3 : decode cX3_placedWorks 3 = .ok (.istore_n 2, 1) := by decide +kernel
theorem dX3_placedWorks_4 : decode cX3_placedWorks 4 = .ok (.iload_n 2, 1) := by decide +kernel
theorem dX3_placedWorks_5 : decode cX3_placedWorks 5 = .ok (.aload_n 0, 1) := by decide +kernel
theorem dX3_placedWorks_6 : decode cX3_placedWorks 6 = .ok (.getfield 53, 3) := by decide +kernel
theorem dX3_placedWorks_9 : decode cX3_placedWorks 9 = .ok (.if_icmp .ge 24, 3) := by decide +kernel
theorem dX3_placedWorks_12 : decode cX3_placedWorks 12 = .ok (.aload_n 0, 1) := by decide +kernel
theorem dX3_placedWorks_13 : decode cX3_placedWorks 13 = .ok (.getfield 24, 3) := by decide +kernel
theorem dX3_placedWorks_16 : decode cX3_placedWorks 16 = .ok (.iload_n 2, 1) := by decide +kernel
theorem dX3_placedWorks_17 : decode cX3_placedWorks 17 = .ok (.aaload, 1) := by decide +kernel
theorem dX3_placedWorks_18 : decode cX3_placedWorks 18 = .ok (.invokevirtual 153, 3) := by decide +kernel
theorem dX3_placedWorks_21 : decode cX3_placedWorks 21 = .ok (.ifCond .eq 6, 3) := by decide +kernel
theorem dX3_placedWorks_24 : decode cX3_placedWorks 24 = .ok (.iinc 1 1, 3) := by decide +kernel
theorem dX3_placedWorks_27 : decode cX3_placedWorks 27 = .ok (.iinc 2 1, 3) := by decide +kernel
theorem dX3_placedWorks_30 : decode cX3_placedWorks 30 = .ok (.goto (-26), 3) := by decide +kernel
theorem dX3_placedWorks_33 : decode cX3_placedWorks 33 = .ok (.iload_n 1, 1) := by decide +kernel
theorem dX3_placedWorks_34 : decode cX3_placedWorks 34 = .ok (.ireturn, 1) := by decide +kernel
set_option maxRecDepth 20000 in
theorem ggX3_costOf_X3_isPlacedWork : GoodIn wsX3_costOf wsX3_isPlacedWork := goodIn_r _ [8, 1, 9, 10, 11, 7, 12, 13, 14, 15, 16, 17, 18, 33, 34, 35, 36, 37, 38, 39, 40, 41, 42, 43, 44, 45, 46, 47, 48, 49, 50] (by decide +kernel) (by decide +kernel)
set_option maxRecDepth 20000 in
theorem gX3_costOf_X3_isPlacedWork : GoodIn wsX3_costOf (wsV RX3 119 RX3 yX3_isPlacedWork wsX3_isPlacedWork) := goodIn_app (goodIn_of _ (by decide +kernel)) ggX3_costOf_X3_isPlacedWork
set_option maxRecDepth 20000 in
theorem ggX3_costOf_X2_delayFrom : GoodIn wsX3_costOf wsX2_delayFrom := goodIn_r _ [21, 22, 23, 24, 25, 26, 27, 28, 29, 15, 30, 31, 32, 41, 42, 43, 44, 45, 46, 47, 48, 49, 50] (by decide +kernel) (by decide +kernel)
set_option maxRecDepth 20000 in
theorem gX3_costOf_X2_delayFrom_n108 : GoodIn wsX3_costOf (wsX2_delayFrom) := ggX3_costOf_X2_delayFrom
theorem dX3_costOf_0 : decode cX3_costOf 0 = .ok (.aload_n 0, 1) := by decide +kernel
theorem dX3_costOf_1 : decode cX3_costOf 1 = .ok (.iload_n 1, 1) := by decide +kernel
theorem dX3_costOf_2 : decode cX3_costOf 2 = .ok (.invokevirtual 119, 3) := by decide +kernel
theorem dX3_costOf_5 : decode cX3_costOf 5 = .ok (.ifCond .ne 5, 3) := by decide +kernel
theorem dX3_costOf_8 : decode cX3_costOf 8 = .ok (.lconst 0, 1) := by decide +kernel
theorem dX3_costOf_9 : decode cX3_costOf 9 = .ok (.lreturn, 1) := by decide +kernel
theorem dX3_costOf_10 : decode cX3_costOf 10 = .ok (.aload_n 0, 1) := by decide +kernel
theorem dX3_costOf_11 : decode cX3_costOf 11 = .ok (.getfield 24, 3) := by decide +kernel
theorem dX3_costOf_14 : decode cX3_costOf 14 = .ok (.iload_n 1, 1) := by decide +kernel
theorem dX3_costOf_15 : decode cX3_costOf 15 = .ok (.aaload, 1) := by decide +kernel
theorem dX3_costOf_16 : decode cX3_costOf 16 = .ok (.aload_n 0, 1) := by decide +kernel
theorem dX3_costOf_17 : decode cX3_costOf 17 = .ok (.getfield 24, 3) := by decide +kernel
theorem dX3_costOf_20 : decode cX3_costOf 20 = .ok (.iload_n 1, 1) := by decide +kernel
theorem dX3_costOf_21 : decode cX3_costOf 21 = .ok (.aaload, 1) := by decide +kernel
theorem dX3_costOf_22 : decode cX3_costOf 22 = .ok (.getfield 141, 3) := by decide +kernel
theorem dX3_costOf_25 : decode cX3_costOf 25 = .ok (.invokevirtual 108, 3) := by decide +kernel
theorem dX3_costOf_28 : decode cX3_costOf 28 = .ok (.i2l, 1) := by decide +kernel
theorem dX3_costOf_29 : decode cX3_costOf 29 = .ok (.lstore_n 2, 1) := by decide +kernel
theorem dX3_costOf_30 : decode cX3_costOf 30 = .ok (.lload_n 2, 1) := by decide +kernel
theorem dX3_costOf_31 : decode cX3_costOf 31 = .ok (.aload_n 0, 1) := by decide +kernel
theorem dX3_costOf_32 : decode cX3_costOf 32 = .ok (.getfield 168, 3) := by decide +kernel
theorem dX3_costOf_35 : decode cX3_costOf 35 = .ok (.i2l, 1) := by decide +kernel
theorem dX3_costOf_36 : decode cX3_costOf 36 = .ok (.lmul, 1) := by decide +kernel
theorem dX3_costOf_37 : decode cX3_costOf 37 = .ok (.ldc2_w 181, 3) := by decide +kernel
theorem dX3_costOf_40 : decode cX3_costOf 40 = .ok (.ldiv, 1) := by decide +kernel
theorem dX3_costOf_41 : decode cX3_costOf 41 = .ok (.lreturn, 1) := by decide +kernel
set_option maxRecDepth 20000 in
theorem ggX3_firstBrokenRule_X2_firstBrokenAlone : GoodIn wsX3_firstBrokenRule wsX2_firstBrokenAlone := goodIn_r _ [6, 7, 8, 9, 10, 11, 12, 13, 14, 15, 4, 16, 17, 18, 19, 20, 21, 22, 23, 52, 53, 54, 55, 56, 57, 58, 59, 60, 61] (by decide +kernel) (by decide +kernel)
set_option maxRecDepth 20000 in
theorem gX3_firstBrokenRule_X2_firstBrokenAlone_n183 : GoodIn wsX3_firstBrokenRule (wsX2_firstBrokenAlone) := ggX3_firstBrokenRule_X2_firstBrokenAlone
set_option maxRecDepth 20000 in
theorem ggX3_firstBrokenRule_X3_clashesWithNear : GoodIn wsX3_firstBrokenRule wsX3_clashesWithNear := goodIn_r _ [27, 28, 1, 29, 4, 30, 31, 32, 33, 34, 22, 35, 36, 37, 38, 13, 14, 15, 16, 10, 11, 44, 45, 46, 47, 48, 49, 50, 51, 52, 53, 54, 55, 56, 57, 58, 59, 60, 61] (by decide +kernel) (by decide +kernel)
set_option maxRecDepth 20000 in
theorem gX3_firstBrokenRule_X3_clashesWithNear : GoodIn wsX3_firstBrokenRule (wsV RX3 186 RX3 yX3_clashesWithNear wsX3_clashesWithNear) := goodIn_app (goodIn_of _ (by decide +kernel)) ggX3_firstBrokenRule_X3_clashesWithNear
set_option maxRecDepth 20000 in
theorem ggX3_firstBrokenRule_X3_clashesWithCrew : GoodIn wsX3_firstBrokenRule wsX3_clashesWithCrew := goodIn_r _ [42, 1, 28, 43, 29, 4, 30, 31, 32, 36, 37, 38, 13, 14, 15, 16, 10, 11, 44, 45, 46, 47, 48, 49, 50, 51, 52, 53, 54, 55, 56, 57, 58, 59, 60, 61] (by decide +kernel) (by decide +kernel)
set_option maxRecDepth 20000 in
theorem gX3_firstBrokenRule_X3_clashesWithCrew : GoodIn wsX3_firstBrokenRule (wsV RX3 189 RX3 yX3_clashesWithCrew wsX3_clashesWithCrew) := goodIn_app (goodIn_of _ (by decide +kernel)) ggX3_firstBrokenRule_X3_clashesWithCrew
theorem dX3_firstBrokenRule_0 : decode cX3_firstBrokenRule 0 = .ok (.aload_n 0, 1) := by decide +kernel
theorem dX3_firstBrokenRule_1 : decode cX3_firstBrokenRule 1 = .ok (.getfield 24, 3) := by decide +kernel
theorem dX3_firstBrokenRule_4 : decode cX3_firstBrokenRule 4 = .ok (.iload_n 1, 1) := by decide +kernel
theorem dX3_firstBrokenRule_5 : decode cX3_firstBrokenRule 5 = .ok (.aaload, 1) := by decide +kernel
theorem dX3_firstBrokenRule_6 : decode cX3_firstBrokenRule 6 = .ok (.iload_n 2, 1) := by decide +kernel
theorem dX3_firstBrokenRule_7 : decode cX3_firstBrokenRule 7 = .ok (.aload_n 0, 1) := by decide +kernel
theorem dX3_firstBrokenRule_8 : decode cX3_firstBrokenRule 8 = .ok (.getfield 18, 3) := by decide +kernel
theorem dX3_firstBrokenRule_11 : decode cX3_firstBrokenRule 11 = .ok (.invokevirtual 183, 3) := by decide +kernel
theorem dX3_firstBrokenRule_14 : decode cX3_firstBrokenRule 14 = .ok (.istore_n 3, 1) := by decide +kernel
theorem dX3_firstBrokenRule_15 : decode cX3_firstBrokenRule 15 = .ok (.iload_n 3, 1) := by decide +kernel
theorem dX3_firstBrokenRule_16 : decode cX3_firstBrokenRule 16 = .ok (.ifCond .eq 5, 3) := by decide +kernel
theorem dX3_firstBrokenRule_19 : decode cX3_firstBrokenRule 19 = .ok (.iload_n 3, 1) := by decide +kernel
theorem dX3_firstBrokenRule_20 : decode cX3_firstBrokenRule 20 = .ok (.ireturn, 1) := by decide +kernel
theorem dX3_firstBrokenRule_21 : decode cX3_firstBrokenRule 21 = .ok (.aload_n 0, 1) := by decide +kernel
theorem dX3_firstBrokenRule_22 : decode cX3_firstBrokenRule 22 = .ok (.iload_n 1, 1) := by decide +kernel
theorem dX3_firstBrokenRule_23 : decode cX3_firstBrokenRule 23 = .ok (.iload_n 2, 1) := by decide +kernel
theorem dX3_firstBrokenRule_24 : decode cX3_firstBrokenRule 24 = .ok (.invokevirtual 186, 3) := by decide +kernel
theorem dX3_firstBrokenRule_27 : decode cX3_firstBrokenRule 27 = .ok (.ifCond .eq 5, 3) := by decide +kernel
theorem dX3_firstBrokenRule_30 : decode cX3_firstBrokenRule 30 = .ok (.iconst 5, 1) := by decide +kernel
theorem dX3_firstBrokenRule_31 : decode cX3_firstBrokenRule 31 = .ok (.ireturn, 1) := by decide +kernel
theorem dX3_firstBrokenRule_32 : decode cX3_firstBrokenRule 32 = .ok (.aload_n 0, 1) := by decide +kernel
theorem dX3_firstBrokenRule_33 : decode cX3_firstBrokenRule 33 = .ok (.iload_n 1, 1) := by decide +kernel
theorem dX3_firstBrokenRule_34 : decode cX3_firstBrokenRule 34 = .ok (.iload_n 2, 1) := by decide +kernel
theorem dX3_firstBrokenRule_35 : decode cX3_firstBrokenRule 35 = .ok (.invokevirtual 189, 3) := by decide +kernel
theorem dX3_firstBrokenRule_38 : decode cX3_firstBrokenRule 38 = .ok (.ifCond .eq 8, 3) := by decide +kernel
theorem dX3_firstBrokenRule_41 : decode cX3_firstBrokenRule 41 = .ok (.bipush 6, 2) := by decide +kernel
theorem dX3_firstBrokenRule_43 : decode cX3_firstBrokenRule 43 = .ok (.goto 4, 3) := by decide +kernel
theorem dX3_firstBrokenRule_46 : decode cX3_firstBrokenRule 46 = .ok (.iconst 0, 1) := by decide +kernel
theorem dX3_firstBrokenRule_47 : decode cX3_firstBrokenRule 47 = .ok (.ireturn, 1) := by decide +kernel
set_option maxRecDepth 20000 in
theorem ggX3_clashesWithNear_X2_isPlaced : GoodIn wsX3_clashesWithNear wsX2_isPlaced := goodIn_r _ [6, 7, 29, 30, 31, 32, 33, 34, 35, 36, 37, 38] (by decide +kernel) (by decide +kernel)
set_option maxRecDepth 20000 in
theorem gX3_clashesWithNear_X2_isPlaced_n153 : GoodIn wsX3_clashesWithNear (wsX2_isPlaced) := ggX3_clashesWithNear_X2_isPlaced
set_option maxRecDepth 20000 in
theorem ggX3_clashesWithNear_X3_hasBit : GoodIn wsX3_clashesWithNear wsX3_hasBit := goodIn_r _ [11] (by decide +kernel) (by decide +kernel)
set_option maxRecDepth 20000 in
theorem gX3_clashesWithNear_X3_hasBit : GoodIn wsX3_clashesWithNear (va_wsS RX3 137 yX3_hasBit wsX3_hasBit) := goodIn_app (goodIn_of _ (by decide +kernel)) ggX3_clashesWithNear_X3_hasBit
set_option maxRecDepth 20000 in
theorem ggX3_clashesWithNear_X2_isApart : GoodIn wsX3_clashesWithNear wsX2_isApart := goodIn_r _ [14, 7, 15, 16, 17, 4, 18, 19, 20, 29, 30, 31, 32, 33, 34, 35, 36, 37, 38] (by decide +kernel) (by decide +kernel)
set_option maxRecDepth 20000 in
theorem gX3_clashesWithNear_X2_isApart_n192 : GoodIn wsX3_clashesWithNear (wsX2_isApart) := ggX3_clashesWithNear_X2_isApart
theorem dX3_clashesWithNear_0 : decode cX3_clashesWithNear 0 = .ok (.iconst 0, 1) := by decide +kernel
theorem dX3_clashesWithNear_1 : decode cX3_clashesWithNear 1 = .ok (.istore_n 3, 1) := by decide +kernel
theorem dX3_clashesWithNear_2 : decode cX3_clashesWithNear 2 = .ok (.iload_n 3, 1) := by decide +kernel
theorem dX3_clashesWithNear_3 : decode cX3_clashesWithNear 3 = .ok (.aload_n 0, 1) := by decide +kernel
theorem dX3_clashesWithNear_4 : decode cX3_clashesWithNear 4 = .ok (.getfield 53, 3) := by decide +kernel
theorem dX3_clashesWithNear_7 : decode cX3_clashesWithNear 7 = .ok (.if_icmp .ge 65, 3) := by decide +kernel
theorem dX3_clashesWithNear_10 : decode cX3_clashesWithNear 10 = .ok (.iload_n 3, 1) := by decide +kernel
theorem dX3_clashesWithNear_11 : decode cX3_clashesWithNear 11 = .ok (.iload_n 1, 1) := by decide +kernel
theorem dX3_clashesWithNear_12 : decode cX3_clashesWithNear 12 = .ok (.if_icmp .eq 54, 3) := by decide +kernel
theorem dX3_clashesWithNear_15 : decode cX3_clashesWithNear 15 = .ok (.aload_n 0, 1) := by decide +kernel
theorem dX3_clashesWithNear_16 : decode cX3_clashesWithNear 16 = .ok (.getfield 24, 3) := by decide +kernel
theorem dX3_clashesWithNear_19 : decode cX3_clashesWithNear 19 = .ok (.iload_n 3, 1) := by decide +kernel
theorem dX3_clashesWithNear_20 : decode cX3_clashesWithNear 20 = .ok (.aaload, 1) := by decide +kernel
theorem dX3_clashesWithNear_21 : decode cX3_clashesWithNear 21 = .ok (.invokevirtual 153, 3) := by decide +kernel
theorem dX3_clashesWithNear_24 : decode cX3_clashesWithNear 24 = .ok (.ifCond .eq 42, 3) := by decide +kernel
theorem dX3_clashesWithNear_27 : decode cX3_clashesWithNear 27 = .ok (.aload_n 0, 1) := by decide +kernel
theorem dX3_clashesWithNear_28 : decode cX3_clashesWithNear 28 = .ok (.getfield 24, 3) := by decide +kernel
theorem dX3_clashesWithNear_31 : decode cX3_clashesWithNear 31 = .ok (.iload_n 1, 1) := by decide +kernel
theorem dX3_clashesWithNear_32 : decode cX3_clashesWithNear 32 = .ok (.aaload, 1) := by decide +kernel
theorem dX3_clashesWithNear_33 : decode cX3_clashesWithNear 33 = .ok (.getfield 66, 3) := by decide +kernel
theorem dX3_clashesWithNear_36 : decode cX3_clashesWithNear 36 = .ok (.i2l, 1) := by decide +kernel
theorem dX3_clashesWithNear_37 : decode cX3_clashesWithNear 37 = .ok (.iload_n 3, 1) := by decide +kernel
theorem dX3_clashesWithNear_38 : decode cX3_clashesWithNear 38 = .ok (.invokestatic 137, 3) := by decide +kernel
theorem dX3_clashesWithNear_41 : decode cX3_clashesWithNear 41 = .ok (.ifCond .eq 25, 3) := by decide +kernel
theorem dX3_clashesWithNear_44 : decode cX3_clashesWithNear 44 = .ok (.aload_n 0, 1) := by decide +kernel
theorem dX3_clashesWithNear_45 : decode cX3_clashesWithNear 45 = .ok (.getfield 24, 3) := by decide +kernel
theorem dX3_clashesWithNear_48 : decode cX3_clashesWithNear 48 = .ok (.iload_n 1, 1) := by decide +kernel
theorem dX3_clashesWithNear_49 : decode cX3_clashesWithNear 49 = .ok (.aaload, 1) := by decide +kernel
theorem dX3_clashesWithNear_50 : decode cX3_clashesWithNear 50 = .ok (.iload_n 2, 1) := by decide +kernel
theorem dX3_clashesWithNear_51 : decode cX3_clashesWithNear 51 = .ok (.aload_n 0, 1) := by decide +kernel
theorem dX3_clashesWithNear_52 : decode cX3_clashesWithNear 52 = .ok (.getfield 24, 3) := by decide +kernel
theorem dX3_clashesWithNear_55 : decode cX3_clashesWithNear 55 = .ok (.iload_n 3, 1) := by decide +kernel
theorem dX3_clashesWithNear_56 : decode cX3_clashesWithNear 56 = .ok (.aaload, 1) := by decide +kernel
theorem dX3_clashesWithNear_57 : decode cX3_clashesWithNear 57 = .ok (.iconst 0, 1) := by decide +kernel
theorem dX3_clashesWithNear_58 : decode cX3_clashesWithNear 58 = .ok (.invokevirtual 192, 3) := by decide +kernel
theorem dX3_clashesWithNear_61 : decode cX3_clashesWithNear 61 = .ok (.ifCond .ne 5, 3) := by decide +kernel
theorem dX3_clashesWithNear_64 : decode cX3_clashesWithNear 64 = .ok (.iconst 1, 1) := by decide +kernel
theorem dX3_clashesWithNear_65 : decode cX3_clashesWithNear 65 = .ok (.ireturn, 1) := by decide +kernel
theorem dX3_clashesWithNear_66 : decode cX3_clashesWithNear 66 = .ok (.iinc 3 1, 3) := by decide +kernel
theorem dX3_clashesWithNear_69 : decode cX3_clashesWithNear 69 = .ok (.goto (-67), 3) := by decide +kernel
theorem dX3_clashesWithNear_72 : decode cX3_clashesWithNear 72 = .ok (.iconst 0, 1) := by decide +kernel
theorem dX3_clashesWithNear_73 : decode cX3_clashesWithNear 73 = .ok (.ireturn, 1) := by decide +kernel
set_option maxRecDepth 20000 in
theorem ggX3_clashesWithCrew_X2_isPlaced : GoodIn wsX3_clashesWithCrew wsX2_isPlaced := goodIn_r _ [7, 8, 26, 27, 28, 29, 30, 31, 32, 33, 34, 35] (by decide +kernel) (by decide +kernel)
set_option maxRecDepth 20000 in
theorem gX3_clashesWithCrew_X2_isPlaced_n153 : GoodIn wsX3_clashesWithCrew (wsX2_isPlaced) := ggX3_clashesWithCrew_X2_isPlaced
set_option maxRecDepth 20000 in
theorem ggX3_clashesWithCrew_X2_isApart : GoodIn wsX3_clashesWithCrew wsX2_isApart := goodIn_r _ [11, 8, 12, 13, 14, 5, 15, 16, 17, 26, 27, 28, 29, 30, 31, 32, 33, 34, 35] (by decide +kernel) (by decide +kernel)
set_option maxRecDepth 20000 in
theorem gX3_clashesWithCrew_X2_isApart_n192 : GoodIn wsX3_clashesWithCrew (wsX2_isApart) := ggX3_clashesWithCrew_X2_isApart
theorem dX3_clashesWithCrew_0 : decode cX3_clashesWithCrew 0 = .ok (.aload_n 0, 1) := by decide +kernel
theorem dX3_clashesWithCrew_1 : decode cX3_clashesWithCrew 1 = .ok (.getfield 24, 3) := by decide +kernel
theorem dX3_clashesWithCrew_4 : decode cX3_clashesWithCrew 4 = .ok (.iload_n 1, 1) := by decide +kernel
theorem dX3_clashesWithCrew_5 : decode cX3_clashesWithCrew 5 = .ok (.aaload, 1) := by decide +kernel
theorem dX3_clashesWithCrew_6 : decode cX3_clashesWithCrew 6 = .ok (.getfield 98, 3) := by decide +kernel
theorem dX3_clashesWithCrew_9 : decode cX3_clashesWithCrew 9 = .ok (.istore_n 3, 1) := by decide +kernel
theorem dX3_clashesWithCrew_10 : decode cX3_clashesWithCrew 10 = .ok (.iconst 0, 1) := by decide +kernel
theorem dX3_clashesWithCrew_11 : decode cX3_clashesWithCrew 11 = .ok (.istore 4, 2) := by decide +kernel
theorem dX3_clashesWithCrew_13 : decode cX3_clashesWithCrew 13 = .ok (.iload 4, 2) := by decide +kernel
theorem dX3_clashesWithCrew_15 : decode cX3_clashesWithCrew 15 = .ok (.aload_n 0, 1) := by decide +kernel
theorem dX3_clashesWithCrew_16 : decode cX3_clashesWithCrew 16 = .ok (.getfield 53, 3) := by decide +kernel
theorem dX3_clashesWithCrew_19 : decode cX3_clashesWithCrew 19 = .ok (.if_icmp .ge 70, 3) := by decide +kernel
theorem dX3_clashesWithCrew_22 : decode cX3_clashesWithCrew 22 = .ok (.iload 4, 2) := by decide +kernel
theorem dX3_clashesWithCrew_24 : decode cX3_clashesWithCrew 24 = .ok (.iload_n 1, 1) := by decide +kernel
theorem dX3_clashesWithCrew_25 : decode cX3_clashesWithCrew 25 = .ok (.if_icmp .eq 58, 3) := by decide +kernel
theorem dX3_clashesWithCrew_28 : decode cX3_clashesWithCrew 28 = .ok (.aload_n 0, 1) := by decide +kernel
theorem dX3_clashesWithCrew_29 : decode cX3_clashesWithCrew 29 = .ok (.getfield 24, 3) := by decide +kernel
theorem dX3_clashesWithCrew_32 : decode cX3_clashesWithCrew 32 = .ok (.iload 4, 2) := by decide +kernel
theorem dX3_clashesWithCrew_34 : decode cX3_clashesWithCrew 34 = .ok (.aaload, 1) := by decide +kernel
theorem dX3_clashesWithCrew_35 : decode cX3_clashesWithCrew 35 = .ok (.invokevirtual 153, 3) := by decide +kernel
theorem dX3_clashesWithCrew_38 : decode cX3_clashesWithCrew 38 = .ok (.ifCond .eq 45, 3) := by decide +kernel
theorem dX3_clashesWithCrew_41 : decode cX3_clashesWithCrew 41 = .ok (.aload_n 0, 1) := by decide +kernel
theorem dX3_clashesWithCrew_42 : decode cX3_clashesWithCrew 42 = .ok (.getfield 24, 3) := by decide +kernel
theorem dX3_clashesWithCrew_45 : decode cX3_clashesWithCrew 45 = .ok (.iload 4, 2) := by decide +kernel
theorem dX3_clashesWithCrew_47 : decode cX3_clashesWithCrew 47 = .ok (.aaload, 1) := by decide +kernel
theorem dX3_clashesWithCrew_48 : decode cX3_clashesWithCrew 48 = .ok (.getfield 98, 3) := by decide +kernel
theorem dX3_clashesWithCrew_51 : decode cX3_clashesWithCrew 51 = .ok (.iload_n 3, 1) := by decide +kernel
theorem dX3_clashesWithCrew_52 : decode cX3_clashesWithCrew 52 = .ok (.if_icmp .ne 31, 3) := by decide +kernel
theorem dX3_clashesWithCrew_55 : decode cX3_clashesWithCrew 55 = .ok (.aload_n 0, 1) := by decide +kernel
theorem dX3_clashesWithCrew_56 : decode cX3_clashesWithCrew 56 = .ok (.getfield 24, 3) := by decide +kernel
theorem dX3_clashesWithCrew_59 : decode cX3_clashesWithCrew 59 = .ok (.iload_n 1, 1) := by decide +kernel
theorem dX3_clashesWithCrew_60 : decode cX3_clashesWithCrew 60 = .ok (.aaload, 1) := by decide +kernel
theorem dX3_clashesWithCrew_61 : decode cX3_clashesWithCrew 61 = .ok (.iload_n 2, 1) := by decide +kernel
theorem dX3_clashesWithCrew_62 : decode cX3_clashesWithCrew 62 = .ok (.aload_n 0, 1) := by decide +kernel
theorem dX3_clashesWithCrew_63 : decode cX3_clashesWithCrew 63 = .ok (.getfield 24, 3) := by decide +kernel
theorem dX3_clashesWithCrew_66 : decode cX3_clashesWithCrew 66 = .ok (.iload 4, 2) := by decide +kernel
theorem dX3_clashesWithCrew_68 : decode cX3_clashesWithCrew 68 = .ok (.aaload, 1) := by decide +kernel
theorem dX3_clashesWithCrew_69 : decode cX3_clashesWithCrew 69 = .ok (.aload_n 0, 1) := by decide +kernel
theorem dX3_clashesWithCrew_70 : decode cX3_clashesWithCrew 70 = .ok (.getfield 31, 3) := by decide +kernel
theorem dX3_clashesWithCrew_73 : decode cX3_clashesWithCrew 73 = .ok (.iload_n 3, 1) := by decide +kernel
theorem dX3_clashesWithCrew_74 : decode cX3_clashesWithCrew 74 = .ok (.iaload, 1) := by decide +kernel
theorem dX3_clashesWithCrew_75 : decode cX3_clashesWithCrew 75 = .ok (.invokevirtual 192, 3) := by decide +kernel
theorem dX3_clashesWithCrew_78 : decode cX3_clashesWithCrew 78 = .ok (.ifCond .ne 5, 3) := by decide +kernel
theorem dX3_clashesWithCrew_81 : decode cX3_clashesWithCrew 81 = .ok (.iconst 1, 1) := by decide +kernel
theorem dX3_clashesWithCrew_82 : decode cX3_clashesWithCrew 82 = .ok (.ireturn, 1) := by decide +kernel
theorem dX3_clashesWithCrew_83 : decode cX3_clashesWithCrew 83 = .ok (.iinc 4 1, 3) := by decide +kernel
theorem dX3_clashesWithCrew_86 : decode cX3_clashesWithCrew 86 = .ok (.goto (-73), 3) := by decide +kernel
theorem dX3_clashesWithCrew_89 : decode cX3_clashesWithCrew 89 = .ok (.iconst 0, 1) := by decide +kernel
theorem dX3_clashesWithCrew_90 : decode cX3_clashesWithCrew 90 = .ok (.ireturn, 1) := by decide +kernel
set_option maxRecDepth 20000 in
theorem ggX3_gapBetween_X3_hasBit : GoodIn wsX3_gapBetween wsX3_hasBit := goodIn_r _ [6] (by decide +kernel) (by decide +kernel)
set_option maxRecDepth 20000 in
theorem gX3_gapBetween_X3_hasBit : GoodIn wsX3_gapBetween (va_wsS RX3 137 yX3_hasBit wsX3_hasBit) := goodIn_app (goodIn_of _ (by decide +kernel)) ggX3_gapBetween_X3_hasBit
theorem dX3_gapBetween_0 : decode cX3_gapBetween 0 = .ok (.aload_n 0, 1) := by decide +kernel
theorem dX3_gapBetween_1 : decode cX3_gapBetween 1 = .ok (.getfield 24, 3) := by decide +kernel
theorem dX3_gapBetween_4 : decode cX3_gapBetween 4 = .ok (.iload_n 1, 1) := by decide +kernel
theorem dX3_gapBetween_5 : decode cX3_gapBetween 5 = .ok (.aaload, 1) := by decide +kernel
theorem dX3_gapBetween_6 : decode cX3_gapBetween 6 = .ok (.getfield 98, 3) := by decide +kernel
theorem dX3_gapBetween_9 : decode cX3_gapBetween 9 = .ok (.aload_n 0, 1) := by decide +kernel
theorem dX3_gapBetween_10 : decode cX3_gapBetween 10 = .ok (.getfield 24, 3) := by decide +kernel
theorem dX3_gapBetween_13 : decode cX3_gapBetween 13 = .ok (.iload_n 2, 1) := by decide +kernel
theorem dX3_gapBetween_14 : decode cX3_gapBetween 14 = .ok (.aaload, 1) := by decide +kernel
theorem dX3_gapBetween_15 : decode cX3_gapBetween 15 = .ok (.getfield 98, 3) := by decide +kernel
theorem dX3_gapBetween_18 : decode cX3_gapBetween 18 = .ok (.if_icmp .ne 18, 3) := by decide +kernel
theorem dX3_gapBetween_21 : decode cX3_gapBetween 21 = .ok (.aload_n 0, 1) := by decide +kernel
theorem dX3_gapBetween_22 : decode cX3_gapBetween 22 = .ok (.getfield 31, 3) := by decide +kernel
theorem dX3_gapBetween_25 : decode cX3_gapBetween 25 = .ok (.aload_n 0, 1) := by decide +kernel
theorem dX3_gapBetween_26 : decode cX3_gapBetween 26 = .ok (.getfield 24, 3) := by decide +kernel
theorem dX3_gapBetween_29 : decode cX3_gapBetween 29 = .ok (.iload_n 1, 1) := by decide +kernel
theorem dX3_gapBetween_30 : decode cX3_gapBetween 30 = .ok (.aaload, 1) := by decide +kernel
theorem dX3_gapBetween_31 : decode cX3_gapBetween 31 = .ok (.getfield 98, 3) := by decide +kernel
theorem dX3_gapBetween_34 : decode cX3_gapBetween 34 = .ok (.iaload, 1) := by decide +kernel
theorem dX3_gapBetween_35 : decode cX3_gapBetween 35 = .ok (.ireturn, 1) := by decide +kernel
theorem dX3_gapBetween_36 : decode cX3_gapBetween 36 = .ok (.aload_n 0, 1) := by decide +kernel
theorem dX3_gapBetween_37 : decode cX3_gapBetween 37 = .ok (.getfield 24, 3) := by decide +kernel
theorem dX3_gapBetween_40 : decode cX3_gapBetween 40 = .ok (.iload_n 1, 1) := by decide +kernel
theorem dX3_gapBetween_41 : decode cX3_gapBetween 41 = .ok (.aaload, 1) := by decide +kernel
theorem dX3_gapBetween_42 : decode cX3_gapBetween 42 = .ok (.getfield 66, 3) := by decide +kernel
theorem dX3_gapBetween_45 : decode cX3_gapBetween 45 = .ok (.i2l, 1) := by decide +kernel
theorem dX3_gapBetween_46 : decode cX3_gapBetween 46 = .ok (.iload_n 2, 1) := by decide +kernel
theorem dX3_gapBetween_47 : decode cX3_gapBetween 47 = .ok (.invokestatic 137, 3) := by decide +kernel
theorem dX3_gapBetween_50 : decode cX3_gapBetween 50 = .ok (.ifCond .eq 7, 3) := by decide +kernel
theorem dX3_gapBetween_53 : decode cX3_gapBetween 53 = .ok (.iconst 0, 1) := by decide +kernel
theorem dX3_gapBetween_54 : decode cX3_gapBetween 54 = .ok (.goto 4, 3) := by decide +kernel
theorem dX3_gapBetween_57 : decode cX3_gapBetween 57 = .ok (.iconst (-1), 1) := by decide +kernel
theorem dX3_gapBetween_58 : decode cX3_gapBetween 58 = .ok (.ireturn, 1) := by decide +kernel
set_option maxRecDepth 20000 in
theorem ggX3_findPlan_X1_begin : GoodIn wsX3_findPlan wsX1_begin := goodIn_r _ [7, 8, 9, 10, 11, 12, 119, 120, 121, 122, 123, 124, 125, 126, 127, 128] (by decide +kernel) (by decide +kernel)
set_option maxRecDepth 20000 in
theorem gX3_findPlan_X1_begin_n196 : GoodIn wsX3_findPlan (wsX1_begin) := ggX3_findPlan_X1_begin
set_option maxRecDepth 20000 in
theorem ggX3_findPlan_X2_span : GoodIn wsX3_findPlan wsX2_span := goodIn_r _ [16, 17, 18, 129, 130, 131, 132, 133, 134, 135, 136, 137, 138] (by decide +kernel) (by decide +kernel)
set_option maxRecDepth 20000 in
theorem gX3_findPlan_X2_span_n199 : GoodIn wsX3_findPlan (wsX2_span) := ggX3_findPlan_X2_span
set_option maxRecDepth 20000 in
theorem ggX3_findPlan_X1_setSpan : GoodIn wsX3_findPlan wsX1_setSpan := goodIn_r _ [21, 22, 119, 120, 121, 122, 123, 124, 125, 126, 127, 128] (by decide +kernel) (by decide +kernel)
set_option maxRecDepth 20000 in
theorem gX3_findPlan_X1_setSpan_n202 : GoodIn wsX3_findPlan (wsX1_setSpan) := ggX3_findPlan_X1_setSpan
set_option maxRecDepth 20000 in
theorem ggX3_findPlan_X3_gapBetween : GoodIn wsX3_findPlan wsX3_gapBetween := goodIn_r _ [27, 3, 28, 29, 30, 26, 31, 111, 112, 113, 114, 115, 116, 117, 118, 129, 130, 131, 132, 133, 134, 135, 136, 137, 138] (by decide +kernel) (by decide +kernel)
set_option maxRecDepth 20000 in
theorem gX3_findPlan_X3_gapBetween : GoodIn wsX3_findPlan (wsV RX3 205 RX3 yX3_gapBetween wsX3_gapBetween) := goodIn_app (goodIn_of _ (by decide +kernel)) ggX3_findPlan_X3_gapBetween
set_option maxRecDepth 20000 in
theorem ggX3_findPlan_X1_setGap : GoodIn wsX3_findPlan wsX1_setGap := goodIn_r _ [34, 35, 119, 120, 121, 122, 123, 124, 125, 126, 127, 128] (by decide +kernel) (by decide +kernel)
set_option maxRecDepth 20000 in
theorem gX3_findPlan_X1_setGap_n208 : GoodIn wsX3_findPlan (wsX1_setGap) := ggX3_findPlan_X1_setGap
set_option maxRecDepth 20000 in
theorem ggX3_findPlan_X3_offerStarts : GoodIn wsX3_findPlan wsX3_offerStarts := goodIn_r _ [39, 3, 40, 1, 41, 42, 14, 43, 44, 45, 46, 47, 48, 49, 50, 51, 17, 18, 52, 53, 13, 15, 16, 54, 55, 56, 57, 58, 26, 59, 60, 61, 62, 63, 64, 65, 66, 67, 68, 5, 69, 70, 71, 72, 11, 73, 12, 74, 75, 76, 77, 78, 79, 80, 111, 112, 113, 114, 115, 116, 117, 118, 129, 130, 131, 132, 133, 134, 135, 136, 137, 138, 119, 120, 121, 122, 123, 124, 125, 126, 127, 128] (by decide +kernel) (by decide +kernel)
set_option maxRecDepth 20000 in
theorem gX3_findPlan_X3_offerStarts : GoodIn wsX3_findPlan (wsV RX3 212 RX3 yX3_offerStarts wsX3_offerStarts) := goodIn_app (goodIn_of _ (by decide +kernel)) ggX3_findPlan_X3_offerStarts
set_option maxRecDepth 20000 in
theorem ggX3_findPlan_X1_solve : GoodIn wsX3_findPlan wsX1_solve := goodIn_r _ [83, 10, 9, 84, 85, 86, 5, 87, 8, 88, 89, 90, 91, 92, 93, 11, 73, 12, 72, 30, 26, 31, 94, 95, 96, 97, 98, 99, 100, 101, 102, 103, 104, 105, 35, 22, 106, 107, 65, 108, 109, 64, 66, 110, 58, 59, 119, 120, 121, 122, 123, 124, 125, 126, 127, 128] (by decide +kernel) (by decide +kernel)
set_option maxRecDepth 20000 in
theorem gX3_findPlan_X1_solve_n216 : GoodIn wsX3_findPlan (wsX1_solve) := ggX3_findPlan_X1_solve
theorem dX3_findPlan_0 : decode cX3_findPlan 0 = .ok (.aload_n 0, 1) := by decide +kernel
theorem dX3_findPlan_1 : decode cX3_findPlan 1 = .ok (.getfield 45, 3) := by decide +kernel
theorem dX3_findPlan_4 : decode cX3_findPlan 4 = .ok (.aload_n 0, 1) := by decide +kernel
theorem dX3_findPlan_5 : decode cX3_findPlan 5 = .ok (.getfield 53, 3) := by decide +kernel
theorem dX3_findPlan_8 : decode cX3_findPlan 8 = .ok (.invokevirtual 196, 3) := by decide +kernel
theorem dX3_findPlan_11 : decode cX3_findPlan 11 = .ok (.iconst 0, 1) := by decide +kernel
theorem dX3_findPlan_12 : decode cX3_findPlan 12 = .ok (.istore_n 3, 1) := by decide +kernel
theorem dX3_findPlan_13 : decode cX3_findPlan 13 = .ok (.iload_n 3, 1) := by decide +kernel
theorem dX3_findPlan_14 : decode cX3_findPlan 14 = .ok (.aload_n 0, 1) := by decide +kernel
theorem dX3_findPlan_15 : decode cX3_findPlan 15 = .ok (.getfield 53, 3) := by decide +kernel
theorem dX3_findPlan_18 : decode cX3_findPlan 18 = .ok (.if_icmp .ge 88, 3) := by decide +kernel
theorem dX3_findPlan_21 : decode cX3_findPlan 21 = .ok (.aload_n 0, 1) := by decide +kernel
theorem dX3_findPlan_22 : decode cX3_findPlan 22 = .ok (.getfield 45, 3) := by decide +kernel
theorem dX3_findPlan_25 : decode cX3_findPlan 25 = .ok (.iload_n 3, 1) := by decide +kernel
theorem dX3_findPlan_26 : decode cX3_findPlan 26 = .ok (.aload_n 0, 1) := by decide +kernel
theorem dX3_findPlan_27 : decode cX3_findPlan 27 = .ok (.getfield 24, 3) := by decide +kernel
theorem dX3_findPlan_30 : decode cX3_findPlan 30 = .ok (.iload_n 3, 1) := by decide +kernel
theorem dX3_findPlan_31 : decode cX3_findPlan 31 = .ok (.aaload, 1) := by decide +kernel
theorem dX3_findPlan_32 : decode cX3_findPlan 32 = .ok (.invokevirtual 199, 3) := by decide +kernel
theorem dX3_findPlan_35 : decode cX3_findPlan 35 = .ok (.invokevirtual 202, 3) := by decide +kernel
theorem dX3_findPlan_38 : decode cX3_findPlan 38 = .ok (.iconst 0, 1) := by decide +kernel
theorem dX3_findPlan_39 : decode cX3_findPlan 39 = .ok (.istore 4, 2) := by decide +kernel
theorem dX3_findPlan_41 : decode cX3_findPlan 41 = .ok (.iload 4, 2) := by decide +kernel
theorem dX3_findPlan_43 : decode cX3_findPlan 43 = .ok (.iload_n 3, 1) := by decide +kernel
theorem dX3_findPlan_44 : decode cX3_findPlan 44 = .ok (.if_icmp .ge 26, 3) := by decide +kernel
theorem dX3_findPlan_47 : decode cX3_findPlan 47 = .ok (.aload_n 0, 1) := by decide +kernel
theorem dX3_findPlan_48 : decode cX3_findPlan 48 = .ok (.getfield 45, 3) := by decide +kernel
theorem dX3_findPlan_51 : decode cX3_findPlan 51 = .ok (.iload 4, 2) := by decide +kernel
theorem dX3_findPlan_53 : decode cX3_findPlan 53 = .ok (.iload_n 3, 1) := by decide +kernel
theorem dX3_findPlan_54 : decode cX3_findPlan 54 = .ok (.aload_n 0, 1) := by decide +kernel
theorem dX3_findPlan_55 : decode cX3_findPlan 55 = .ok (.iload 4, 2) := by decide +kernel
theorem dX3_findPlan_57 : decode cX3_findPlan 57 = .ok (.iload_n 3, 1) := by decide +kernel
theorem dX3_findPlan_58 : decode cX3_findPlan 58 = .ok (.invokevirtual 205, 3) := by decide +kernel
theorem dX3_findPlan_61 : decode cX3_findPlan 61 = .ok (.invokevirtual 208, 3) := by decide +kernel
theorem dX3_findPlan_64 : decode cX3_findPlan 64 = .ok (.iinc 4 1, 3) := by decide +kernel
theorem dX3_findPlan_67 : decode cX3_findPlan 67 = .ok (.goto (-26), 3) := by decide +kernel
theorem dX3_findPlan_70 : decode cX3_findPlan 70 = .ok (.aload_n 0, 1) := by decide +kernel
theorem dX3_findPlan_71 : decode cX3_findPlan 71 = .ok (.iload_n 3, 1) := by decide +kernel
theorem dX3_findPlan_72 : decode cX3_findPlan 72 = .ok (.iload_n 3, 1) := by decide +kernel
theorem dX3_findPlan_73 : decode cX3_findPlan 73 = .ok (.iload_n 1, 1) := by decide +kernel
theorem dX3_findPlan_74 : decode cX3_findPlan 74 = .ok (.if_icmp .ne 7, 3) := by decide +kernel
theorem dX3_findPlan_77 : decode cX3_findPlan 77 = .ok (.iload_n 2, 1) := by decide +kernel
theorem dX3_findPlan_78 : decode cX3_findPlan 78 = .ok (.goto 4, 3) := by decide +kernel
theorem dX3_findPlan_81 : decode cX3_findPlan 81 = .ok (.iconst 0, 1) := by decide +kernel
theorem dX3_findPlan_82 : decode cX3_findPlan 82 = .ok (.iload_n 1, 1) := by decide +kernel
theorem dX3_findPlan_83 : decode cX3_findPlan 83 = .ok (.iconst (-1), 1) := by decide +kernel
theorem dX3_findPlan_84 : decode cX3_findPlan 84 = .ok (.if_icmp .eq 12, 3) := by decide +kernel
theorem dX3_findPlan_87 : decode cX3_findPlan 87 = .ok (.iload_n 3, 1) := by decide +kernel
theorem dX3_findPlan_88 : decode cX3_findPlan 88 = .ok (.iload_n 1, 1) := by decide +kernel
theorem dX3_findPlan_89 : decode cX3_findPlan 89 = .ok (.if_icmp .eq 7, 3) := by decide +kernel
theorem dX3_findPlan_92 : decode cX3_findPlan 92 = .ok (.iconst 1, 1) := by decide +kernel
theorem dX3_findPlan_93 : decode cX3_findPlan 93 = .ok (.goto 4, 3) := by decide +kernel
theorem dX3_findPlan_96 : decode cX3_findPlan 96 = .ok (.iconst 0, 1) := by decide +kernel
theorem dX3_findPlan_97 : decode cX3_findPlan 97 = .ok (.invokevirtual 212, 3) := by decide +kernel
theorem dX3_findPlan_100 : decode cX3_findPlan 100 = .ok (.iinc 3 1, 3) := by decide +kernel
theorem dX3_findPlan_103 : decode cX3_findPlan 103 = .ok (.goto (-90), 3) := by decide +kernel
theorem dX3_findPlan_106 : decode cX3_findPlan 106 = .ok (.aload_n 0, 1) := by decide +kernel
theorem dX3_findPlan_107 : decode cX3_findPlan 107 = .ok (.getfield 45, 3) := by decide +kernel
theorem dX3_findPlan_110 : decode cX3_findPlan 110 = .ok (.invokevirtual 216, 3) := by decide +kernel
theorem dX3_findPlan_113 : decode cX3_findPlan 113 = .ok (.ireturn, 1) := by decide +kernel
set_option maxRecDepth 20000 in
theorem ggX3_offerStarts_X2_isFixed : GoodIn wsX3_offerStarts wsX2_isFixed := goodIn_r _ [8, 9, 62, 63, 64, 65, 66, 67, 68, 69, 70, 71] (by decide +kernel) (by decide +kernel)
set_option maxRecDepth 20000 in
theorem gX3_offerStarts_X2_isFixed_n101 : GoodIn wsX3_offerStarts (wsX2_isFixed) := ggX3_offerStarts_X2_isFixed
set_option maxRecDepth 20000 in
theorem ggX3_offerStarts_X2_firstBrokenAlone : GoodIn wsX3_offerStarts wsX2_firstBrokenAlone := goodIn_r _ [12, 13, 14, 15, 16, 17, 18, 19, 20, 21, 6, 22, 23, 24, 25, 26, 27, 28, 29, 62, 63, 64, 65, 66, 67, 68, 69, 70, 71] (by decide +kernel) (by decide +kernel)
set_option maxRecDepth 20000 in
theorem gX3_offerStarts_X2_firstBrokenAlone_n183 : GoodIn wsX3_offerStarts (wsX2_firstBrokenAlone) := ggX3_offerStarts_X2_firstBrokenAlone
set_option maxRecDepth 20000 in
theorem ggX3_offerStarts_X2_delayFrom : GoodIn wsX3_offerStarts wsX2_delayFrom := goodIn_r _ [32, 33, 34, 35, 36, 37, 19, 20, 21, 6, 22, 16, 17, 62, 63, 64, 65, 66, 67, 68, 69, 70, 71] (by decide +kernel) (by decide +kernel)
set_option maxRecDepth 20000 in
theorem gX3_offerStarts_X2_delayFrom_n108 : GoodIn wsX3_offerStarts (wsX2_delayFrom) := ggX3_offerStarts_X2_delayFrom
set_option maxRecDepth 20000 in
theorem ggX3_offerStarts_X1_offer : GoodIn wsX3_offerStarts wsX1_offer := goodIn_r _ [41, 42, 43, 44, 45, 46, 47, 48, 39, 49, 50, 51, 28, 52, 53, 72, 73, 74, 75, 76, 77, 78, 79, 80, 81] (by decide +kernel) (by decide +kernel)
set_option maxRecDepth 20000 in
theorem gX3_offerStarts_X1_offer_n219 : GoodIn wsX3_offerStarts (wsX1_offer) := ggX3_offerStarts_X1_offer
theorem dX3_offerStarts_0 : decode cX3_offerStarts 0 = .ok (.aload_n 0, 1) := by decide +kernel
theorem dX3_offerStarts_1 : decode cX3_offerStarts 1 = .ok (.getfield 24, 3) := by decide +kernel
theorem dX3_offerStarts_4 : decode cX3_offerStarts 4 = .ok (.iload_n 1, 1) := by decide +kernel
theorem dX3_offerStarts_5 : decode cX3_offerStarts 5 = .ok (.aaload, 1) := by decide +kernel
theorem dX3_offerStarts_6 : decode cX3_offerStarts 6 = .ok (.astore 4, 2) := by decide +kernel
theorem dX3_offerStarts_8 : decode cX3_offerStarts 8 = .ok (.iload_n 2, 1) := by decide +kernel
theorem dX3_offerStarts_9 : decode cX3_offerStarts 9 = .ok (.istore 5, 2) := by decide +kernel
theorem dX3_offerStarts_11 : decode cX3_offerStarts 11 = .ok (.iload 5, 2) := by decide +kernel
theorem dX3_offerStarts_13 : decode cX3_offerStarts 13 = .ok (.aload_n 0, 1) := by decide +kernel
theorem dX3_offerStarts_14 : decode cX3_offerStarts 14 = .ok (.getfield 18, 3) := by decide +kernel
theorem dX3_offerStarts_17 : decode cX3_offerStarts 17 = .ok (.if_icmp .ge 91, 3) := by decide +kernel
theorem dX3_offerStarts_20 : decode cX3_offerStarts 20 = .ok (.iload 5, 2) := by decide +kernel
theorem dX3_offerStarts_22 : decode cX3_offerStarts 22 = .ok (.aload 4, 2) := by decide +kernel
theorem dX3_offerStarts_24 : decode cX3_offerStarts 24 = .ok (.getfield 141, 3) := by decide +kernel
theorem dX3_offerStarts_27 : decode cX3_offerStarts 27 = .ok (.if_icmp .ne 7, 3) := by decide +kernel
theorem dX3_offerStarts_30 : decode cX3_offerStarts 30 = .ok (.iconst 1, 1) := by decide +kernel
theorem dX3_offerStarts_31 : decode cX3_offerStarts 31 = .ok (.goto 4, 3) := by decide +kernel
theorem dX3_offerStarts_34 : decode cX3_offerStarts 34 = .ok (.iconst 0, 1) := by decide +kernel
theorem dX3_offerStarts_35 : decode cX3_offerStarts 35 = .ok (.istore 6, 2) := by decide +kernel
theorem dX3_offerStarts_37 : decode cX3_offerStarts 37 = .ok (.iload 6, 2) := by decide +kernel
theorem dX3_offerStarts_39 : decode cX3_offerStarts 39 = .ok (.ifCond .ne 11, 3) := by decide +kernel
theorem dX3_offerStarts_42 : decode cX3_offerStarts 42 = .ok (.aload 4, 2) := by decide +kernel
theorem dX3_offerStarts_44 : decode cX3_offerStarts 44 = .ok (.invokevirtual 101, 3) := by decide +kernel
theorem dX3_offerStarts_47 : decode cX3_offerStarts 47 = .ok (.ifCond .ne 55, 3) := by decide +kernel
theorem dX3_offerStarts_50 : decode cX3_offerStarts 50 = .ok (.aload 4, 2) := by decide +kernel
theorem dX3_offerStarts_52 : decode cX3_offerStarts 52 = .ok (.iload 5, 2) := by decide +kernel
theorem dX3_offerStarts_54 : decode cX3_offerStarts 54 = .ok (.aload_n 0, 1) := by decide +kernel
theorem dX3_offerStarts_55 : decode cX3_offerStarts 55 = .ok (.getfield 18, 3) := by decide +kernel
theorem dX3_offerStarts_58 : decode cX3_offerStarts 58 = .ok (.invokevirtual 183, 3) := by decide +kernel
theorem dX3_offerStarts_61 : decode cX3_offerStarts 61 = .ok (.ifCond .ne 41, 3) := by decide +kernel
theorem dX3_offerStarts_64 : decode cX3_offerStarts 64 = .ok (.aload 4, 2) := by decide +kernel
theorem dX3_offerStarts_66 : decode cX3_offerStarts 66 = .ok (.iload 5, 2) := by decide +kernel
theorem dX3_offerStarts_68 : decode cX3_offerStarts 68 = .ok (.invokevirtual 108, 3) := by decide +kernel
theorem dX3_offerStarts_71 : decode cX3_offerStarts 71 = .ok (.istore 7, 2) := by decide +kernel
theorem dX3_offerStarts_73 : decode cX3_offerStarts 73 = .ok (.aload_n 0, 1) := by decide +kernel
theorem dX3_offerStarts_74 : decode cX3_offerStarts 74 = .ok (.getfield 45, 3) := by decide +kernel
theorem dX3_offerStarts_77 : decode cX3_offerStarts 77 = .ok (.iload_n 1, 1) := by decide +kernel
theorem dX3_offerStarts_78 : decode cX3_offerStarts 78 = .ok (.iload 5, 2) := by decide +kernel
theorem dX3_offerStarts_80 : decode cX3_offerStarts 80 = .ok (.iload_n 3, 1) := by decide +kernel
theorem dX3_offerStarts_81 : decode cX3_offerStarts 81 = .ok (.ifCond .eq 16, 3) := by decide +kernel
theorem dX3_offerStarts_84 : decode cX3_offerStarts 84 = .ok (.iload 6, 2) := by decide +kernel
theorem dX3_offerStarts_86 : decode cX3_offerStarts 86 = .ok (.ifCond .ne 11, 3) := by decide +kernel
theorem dX3_offerStarts_89 : decode cX3_offerStarts 89 = .ok (.iload 7, 2) := by decide +kernel
theorem dX3_offerStarts_91 : decode cX3_offerStarts 91 = .ok (.ldc 136, 2) := by decide +kernel
theorem dX3_offerStarts_93 : decode cX3_offerStarts 93 = .ok (.iadd, 1) := by decide +kernel
theorem dX3_offerStarts_94 : decode cX3_offerStarts 94 = .ok (.goto 5, 3) := by decide +kernel
theorem dX3_offerStarts_97 : decode cX3_offerStarts 97 = .ok (.iload 7, 2) := by decide +kernel
theorem dX3_offerStarts_99 : decode cX3_offerStarts 99 = .ok (.invokevirtual 219, 3) := by decide +kernel
theorem dX3_offerStarts_102 : decode cX3_offerStarts 102 = .ok (.iinc 5 1, 3) := by decide +kernel
theorem dX3_offerStarts_105 : decode cX3_offerStarts 105 = .ok (.goto (-94), 3) := by decide +kernel
theorem dX3_offerStarts_108 : decode cX3_offerStarts 108 = .ok (.return_, 1) := by decide +kernel
set_option maxRecDepth 20000 in
theorem ggX3_takePlan_X3_putAt : GoodIn wsX3_takePlan wsX3_putAt := goodIn_r _ [8, 9, 1, 10, 11, 12, 7, 13, 14, 15, 16, 17, 18, 19, 20, 21, 22, 23, 24, 25, 26, 27, 28, 29, 30, 31, 32, 33, 34, 45, 46, 47, 48, 49, 50, 51, 52, 53, 54, 55, 56, 57] (by decide +kernel) (by decide +kernel)
set_option maxRecDepth 20000 in
theorem gX3_takePlan_X3_putAt : GoodIn wsX3_takePlan (wsV RX3 115 RX3 yX3_putAt wsX3_putAt) := goodIn_app (goodIn_of _ (by decide +kernel)) ggX3_takePlan_X3_putAt
theorem dX3_takePlan_0 : decode cX3_takePlan 0 = .ok (.aload_n 0, 1) := by decide +kernel
theorem dX3_takePlan_1 : decode cX3_takePlan 1 = .ok (.iconst 0, 1) := by decide +kernel
theorem dX3_takePlan_2 : decode cX3_takePlan 2 = .ok (.putfield 112, 3) := by decide +kernel
theorem dX3_takePlan_5 : decode cX3_takePlan 5 = .ok (.iconst 0, 1) := by decide +kernel
theorem dX3_takePlan_6 : decode cX3_takePlan 6 = .ok (.istore_n 1, 1) := by decide +kernel
theorem dX3_takePlan_7 : decode cX3_takePlan 7 = .ok (.iload_n 1, 1) := by decide +kernel
theorem dX3_takePlan_8 : decode cX3_takePlan 8 = .ok (.aload_n 0, 1) := by decide +kernel
theorem dX3_takePlan_9 : decode cX3_takePlan 9 = .ok (.getfield 53, 3) := by decide +kernel
theorem dX3_takePlan_12 : decode cX3_takePlan 12 = .ok (.if_icmp .ge 23, 3) := by decide +kernel
theorem dX3_takePlan_15 : decode cX3_takePlan 15 = .ok (.aload_n 0, 1) := by decide +kernel
theorem dX3_takePlan_16 : decode cX3_takePlan 16 = .ok (.iload_n 1, 1) := by decide +kernel
theorem dX3_takePlan_17 : decode cX3_takePlan 17 = .ok (.aload_n 0, 1) := by decide +kernel
theorem dX3_takePlan_18 : decode cX3_takePlan 18 = .ok (.getfield 45, 3) := by decide +kernel
theorem dX3_takePlan_21 : decode cX3_takePlan 21 = .ok (.getfield 222, 3) := by decide +kernel
theorem dX3_takePlan_24 : decode cX3_takePlan 24 = .ok (.iload_n 1, 1) := by decide +kernel
theorem dX3_takePlan_25 : decode cX3_takePlan 25 = .ok (.iaload, 1) := by decide +kernel
theorem dX3_takePlan_26 : decode cX3_takePlan 26 = .ok (.invokevirtual 115, 3) := by decide +kernel
theorem dX3_takePlan_29 : decode cX3_takePlan 29 = .ok (.iinc 1 1, 3) := by decide +kernel
theorem dX3_takePlan_32 : decode cX3_takePlan 32 = .ok (.goto (-25), 3) := by decide +kernel
theorem dX3_takePlan_35 : decode cX3_takePlan 35 = .ok (.return_, 1) := by decide +kernel
set_option maxRecDepth 20000 in
theorem ggX3_putAt_X3_withBit : GoodIn wsX3_putAt wsX3_withBit := goodIn_r _ [7, 8] (by decide +kernel) (by decide +kernel)
set_option maxRecDepth 20000 in
theorem gX3_putAt_X3_withBit : GoodIn wsX3_putAt (va_wsS RX3 69 yX3_withBit wsX3_withBit) := goodIn_app (goodIn_of _ (by decide +kernel)) ggX3_putAt_X3_withBit
set_option maxRecDepth 20000 in
theorem ggX3_putAt_X0_write : GoodIn wsX3_putAt wsX0_write := goodIn_r _ [12, 13, 14, 15, 16, 17, 18, 19, 20, 39, 40, 41] (by decide +kernel) (by decide +kernel)
set_option maxRecDepth 20000 in
theorem gX3_putAt_X0_write_n225 : GoodIn wsX3_putAt (wsX0_write) := ggX3_putAt_X0_write
theorem dX3_putAt_0 : decode cX3_putAt 0 = .ok (.aload_n 0, 1) := by decide +kernel
theorem dX3_putAt_1 : decode cX3_putAt 1 = .ok (.getfield 24, 3) := by decide +kernel
theorem dX3_putAt_4 : decode cX3_putAt 4 = .ok (.iload_n 1, 1) := by decide +kernel
theorem dX3_putAt_5 : decode cX3_putAt 5 = .ok (.aaload, 1) := by decide +kernel
theorem dX3_putAt_6 : decode cX3_putAt 6 = .ok (.getfield 141, 3) := by decide +kernel
theorem dX3_putAt_9 : decode cX3_putAt 9 = .ok (.iload_n 2, 1) := by decide +kernel
theorem dX3_putAt_10 : decode cX3_putAt 10 = .ok (.if_icmp .ne 4, 3) := by decide +kernel
theorem dX3_putAt_13 : decode cX3_putAt 13 = .ok (.return_, 1) := by decide +kernel
theorem dX3_putAt_14 : decode cX3_putAt 14 = .ok (.aload_n 0, 1) := by decide +kernel
theorem dX3_putAt_15 : decode cX3_putAt 15 = .ok (.getfield 24, 3) := by decide +kernel
theorem dX3_putAt_18 : decode cX3_putAt 18 = .ok (.iload_n 1, 1) := by decide +kernel
theorem dX3_putAt_19 : decode cX3_putAt 19 = .ok (.aaload, 1) := by decide +kernel
theorem dX3_putAt_20 : decode cX3_putAt 20 = .ok (.iload_n 2, 1) := by decide +kernel
theorem dX3_putAt_21 : decode cX3_putAt 21 = .ok (.putfield 141, 3) := by decide +kernel
theorem dX3_putAt_24 : decode cX3_putAt 24 = .ok (.aload_n 0, 1) := by decide +kernel
theorem dX3_putAt_25 : decode cX3_putAt 25 = .ok (.getfield 24, 3) := by decide +kernel
theorem dX3_putAt_28 : decode cX3_putAt 28 = .ok (.iload_n 1, 1) := by decide +kernel
theorem dX3_putAt_29 : decode cX3_putAt 29 = .ok (.aaload, 1) := by decide +kernel
theorem dX3_putAt_30 : decode cX3_putAt 30 = .ok (.iconst 0, 1) := by decide +kernel
theorem dX3_putAt_31 : decode cX3_putAt 31 = .ok (.putfield 150, 3) := by decide +kernel
theorem dX3_putAt_34 : decode cX3_putAt 34 = .ok (.aload_n 0, 1) := by decide +kernel
theorem dX3_putAt_35 : decode cX3_putAt 35 = .ok (.aload_n 0, 1) := by decide +kernel
theorem dX3_putAt_36 : decode cX3_putAt 36 = .ok (.getfield 112, 3) := by decide +kernel
theorem dX3_putAt_39 : decode cX3_putAt 39 = .ok (.i2l, 1) := by decide +kernel
theorem dX3_putAt_40 : decode cX3_putAt 40 = .ok (.iload_n 1, 1) := by decide +kernel
theorem dX3_putAt_41 : decode cX3_putAt 41 = .ok (.iconst 1, 1) := by decide +kernel
theorem dX3_putAt_42 : decode cX3_putAt 42 = .ok (.invokestatic 69, 3) := by decide +kernel
theorem dX3_putAt_45 : decode cX3_putAt 45 = .ok (.l2i, 1) := by decide +kernel
theorem dX3_putAt_46 : decode cX3_putAt 46 = .ok (.putfield 112, 3) := by decide +kernel
theorem dX3_putAt_49 : decode cX3_putAt 49 = .ok (.aload_n 0, 1) := by decide +kernel
theorem dX3_putAt_50 : decode cX3_putAt 50 = .ok (.getfield 38, 3) := by decide +kernel
theorem dX3_putAt_53 : decode cX3_putAt 53 = .ok (.iload_n 1, 1) := by decide +kernel
theorem dX3_putAt_54 : decode cX3_putAt 54 = .ok (.iload_n 2, 1) := by decide +kernel
theorem dX3_putAt_55 : decode cX3_putAt 55 = .ok (.invokevirtual 225, 3) := by decide +kernel
theorem dX3_putAt_58 : decode cX3_putAt 58 = .ok (.return_, 1) := by decide +kernel
theorem dX3_isWithin_0 : decode cX3_isWithin 0 = .ok (.iload_n 0, 1) := by decide +kernel
theorem dX3_isWithin_1 : decode cX3_isWithin 1 = .ok (.iload_n 1, 1) := by decide +kernel
theorem dX3_isWithin_2 : decode cX3_isWithin 2 = .ok (.if_icmp .lt 12, 3) := by decide +kernel
theorem dX3_isWithin_5 : decode cX3_isWithin 5 = .ok (.iload_n 0, 1) := by decide +kernel
theorem dX3_isWithin_6 : decode cX3_isWithin 6 = .ok (.iload_n 2, 1) := by decide +kernel
theorem dX3_isWithin_7 : decode cX3_isWithin 7 = .ok (.if_icmp .gt 7, 3) := by decide +kernel
theorem dX3_isWithin_10 : decode cX3_isWithin 10 = .ok (.iconst 1, 1) := by decide +kernel
theorem dX3_isWithin_11 : decode cX3_isWithin 11 = .ok (.goto 4, 3) := by decide +kernel
theorem dX3_isWithin_14 : decode cX3_isWithin 14 = .ok (.iconst 0, 1) := by decide +kernel
theorem dX3_isWithin_15 : decode cX3_isWithin 15 = .ok (.ireturn, 1) := by decide +kernel
theorem dX3_hasBit_0 : decode cX3_hasBit 0 = .ok (.lload_n 0, 1) := by decide +kernel
theorem dX3_hasBit_1 : decode cX3_hasBit 1 = .ok (.iload_n 2, 1) := by decide +kernel
theorem dX3_hasBit_2 : decode cX3_hasBit 2 = .ok (.lshr, 1) := by decide +kernel
theorem dX3_hasBit_3 : decode cX3_hasBit 3 = .ok (.lconst 1, 1) := by decide +kernel
theorem dX3_hasBit_4 : decode cX3_hasBit 4 = .ok (.land, 1) := by decide +kernel
theorem dX3_hasBit_5 : decode cX3_hasBit 5 = .ok (.lconst 0, 1) := by decide +kernel
theorem dX3_hasBit_6 : decode cX3_hasBit 6 = .ok (.lcmp, 1) := by decide +kernel
theorem dX3_hasBit_7 : decode cX3_hasBit 7 = .ok (.ifCond .eq 7, 3) := by decide +kernel
theorem dX3_hasBit_10 : decode cX3_hasBit 10 = .ok (.iconst 1, 1) := by decide +kernel
theorem dX3_hasBit_11 : decode cX3_hasBit 11 = .ok (.goto 4, 3) := by decide +kernel
theorem dX3_hasBit_14 : decode cX3_hasBit 14 = .ok (.iconst 0, 1) := by decide +kernel
theorem dX3_hasBit_15 : decode cX3_hasBit 15 = .ok (.ireturn, 1) := by decide +kernel
theorem dX3_withBit_0 : decode cX3_withBit 0 = .ok (.iload_n 3, 1) := by decide +kernel
theorem dX3_withBit_1 : decode cX3_withBit 1 = .ok (.ifCond .eq 11, 3) := by decide +kernel
theorem dX3_withBit_4 : decode cX3_withBit 4 = .ok (.lload_n 0, 1) := by decide +kernel
theorem dX3_withBit_5 : decode cX3_withBit 5 = .ok (.lconst 1, 1) := by decide +kernel
theorem dX3_withBit_6 : decode cX3_withBit 6 = .ok (.iload_n 2, 1) := by decide +kernel
theorem dX3_withBit_7 : decode cX3_withBit 7 = .ok (.lshl, 1) := by decide +kernel
theorem dX3_withBit_8 : decode cX3_withBit 8 = .ok (.lor, 1) := by decide +kernel
theorem dX3_withBit_9 : decode cX3_withBit 9 = .ok (.goto 12, 3) := by decide +kernel
theorem dX3_withBit_12 : decode cX3_withBit 12 = .ok (.lload_n 0, 1) := by decide +kernel
theorem dX3_withBit_13 : decode cX3_withBit 13 = .ok (.lconst 1, 1) := by decide +kernel
theorem dX3_withBit_14 : decode cX3_withBit 14 = .ok (.iload_n 2, 1) := by decide +kernel
theorem dX3_withBit_15 : decode cX3_withBit 15 = .ok (.lshl, 1) := by decide +kernel
theorem dX3_withBit_16 : decode cX3_withBit 16 = .ok (.ldc2_w 228, 3) := by decide +kernel
theorem dX3_withBit_19 : decode cX3_withBit 19 = .ok (.lxor, 1) := by decide +kernel
theorem dX3_withBit_20 : decode cX3_withBit 20 = .ok (.land, 1) := by decide +kernel
theorem dX3_withBit_21 : decode cX3_withBit 21 = .ok (.lreturn, 1) := by decide +kernel
theorem dX3_bitsFrom_0 : decode cX3_bitsFrom 0 = .ok (.lconst 1, 1) := by decide +kernel
theorem dX3_bitsFrom_1 : decode cX3_bitsFrom 1 = .ok (.iload_n 1, 1) := by decide +kernel
theorem dX3_bitsFrom_2 : decode cX3_bitsFrom 2 = .ok (.lshl, 1) := by decide +kernel
