theorem dX8_measure_24 : decode cX8_measure 24 = .ok (.iconst 0, 1) := by decide +kernel
theorem dX8_measure_25 : decode cX8_measure 25 = .ok (.goto 4, 3) := by decide +kernel
theorem dX8_measure_28 : decode cX8_measure 28 = .ok (.iconst 2, 1) := by decide +kernel
theorem dX8_measure_29 : decode cX8_measure 29 = .ok (.invokevirtual 93, 3) := by decide +kernel
theorem dX8_measure_32 : decode cX8_measure 32 = .ok (.ifCond .eq 19, 3) := by decide +kernel
theorem dX8_measure_35 : decode cX8_measure 35 = .ok (.aload_n 0, 1) := by decide +kernel
theorem dX8_measure_36 : decode cX8_measure 36 = .ok (.getfield 19, 3) := by decide +kernel
theorem dX8_measure_39 : decode cX8_measure 39 = .ok (.iload_n 1, 1) := by decide +kernel
theorem dX8_measure_40 : decode cX8_measure 40 = .ok (.iaload, 1) := by decide +kernel
theorem dX8_measure_41 : decode cX8_measure 41 = .ok (.aload_n 0, 1) := by decide +kernel
theorem dX8_measure_42 : decode cX8_measure 42 = .ok (.getfield 22, 3) := by decide +kernel
theorem dX8_measure_45 : decode cX8_measure 45 = .ok (.iload_n 1, 1) := by decide +kernel
theorem dX8_measure_46 : decode cX8_measure 46 = .ok (.iaload, 1) := by decide +kernel
theorem dX8_measure_47 : decode cX8_measure 47 = .ok (.isub, 1) := by decide +kernel
theorem dX8_measure_48 : decode cX8_measure 48 = .ok (.goto 4, 3) := by decide +kernel
theorem dX8_measure_51 : decode cX8_measure 51 = .ok (.iconst 0, 1) := by decide +kernel
theorem dX8_measure_52 : decode cX8_measure 52 = .ok (.ireturn, 1) := by decide +kernel
set_option maxRecDepth 20000 in
theorem ggX8_correct_X8_isMirror : GoodIn wsX8_correct wsX8_isMirror := goodIn_r _ [6, 7, 8, 9, 5, 10, 16, 17, 18, 19, 20, 21, 22, 23, 24, 25, 26, 27, 28, 29, 30, 31, 32, 33, 34, 35, 36, 37, 38, 39, 40, 41, 42, 43, 44, 45, 46, 47, 48, 49, 50, 51, 52, 53, 54, 55] (by decide +kernel) (by decide +kernel)
set_option maxRecDepth 20000 in
theorem gX8_correct_X8_isMirror : GoodIn wsX8_correct (wsV RX8 97 RX8 yX8_isMirror wsX8_isMirror) := goodIn_app (goodIn_of _ (by decide +kernel)) ggX8_correct_X8_isMirror
set_option maxRecDepth 20000 in
theorem ggX8_correct_X8_isIn : GoodIn wsX8_correct wsX8_isIn := goodIn_r _ [10] (by decide +kernel) (by decide +kernel)
set_option maxRecDepth 20000 in
theorem gX8_correct_X8_isIn : GoodIn wsX8_correct (va_wsS RX8 85 yX8_isIn wsX8_isIn) := goodIn_app (goodIn_of _ (by decide +kernel)) ggX8_correct_X8_isIn
set_option maxRecDepth 20000 in
theorem ggX8_correct_X8_holds : GoodIn wsX8_correct wsX8_holds := goodIn_r _ [14, 15, 16, 17, 18, 19, 20, 21, 22, 23, 24, 25, 26, 27, 28, 29, 30, 31, 32, 33, 34, 35, 36, 37, 38, 39, 40, 41, 42, 43, 44, 45, 46, 47, 48, 49, 50, 51, 52, 53, 54, 55] (by decide +kernel) (by decide +kernel)
set_option maxRecDepth 20000 in
theorem gX8_correct_X8_holds : GoodIn wsX8_correct (wsV RX8 93 RX8 yX8_holds wsX8_holds) := goodIn_app (goodIn_of _ (by decide +kernel)) ggX8_correct_X8_holds
theorem dX8_correct_0 : decode cX8_correct 0 = .ok (.aload_n 0, 1) := by decide +kernel
theorem dX8_correct_1 : decode cX8_correct 1 = .ok (.aload_n 0, 1) := by decide +kernel
theorem dX8_correct_2 : decode cX8_correct 2 = .ok (.iload_n 1, 1) := by decide +kernel
theorem dX8_correct_3 : decode cX8_correct 3 = .ok (.invokevirtual 97, 3) := by decide +kernel
theorem dX8_correct_6 : decode cX8_correct 6 = .ok (.ifCond .ne 7, 3) := by decide +kernel
theorem dX8_correct_9 : decode cX8_correct 9 = .ok (.iconst 1, 1) := by decide +kernel
theorem dX8_correct_10 : decode cX8_correct 10 = .ok (.goto 18, 3) := by decide +kernel
theorem dX8_correct_13 : decode cX8_correct 13 = .ok (.iload_n 2, 1) := by decide +kernel
theorem dX8_correct_14 : decode cX8_correct 14 = .ok (.bipush (-3), 2) := by decide +kernel
theorem dX8_correct_16 : decode cX8_correct 16 = .ok (.iconst 3, 1) := by decide +kernel
theorem dX8_correct_17 : decode cX8_correct 17 = .ok (.invokestatic 85, 3) := by decide +kernel
theorem dX8_correct_20 : decode cX8_correct 20 = .ok (.ifCond .eq 7, 3) := by decide +kernel
theorem dX8_correct_23 : decode cX8_correct 23 = .ok (.iconst 0, 1) := by decide +kernel
theorem dX8_correct_24 : decode cX8_correct 24 = .ok (.goto 4, 3) := by decide +kernel
theorem dX8_correct_27 : decode cX8_correct 27 = .ok (.iconst 2, 1) := by decide +kernel
theorem dX8_correct_28 : decode cX8_correct 28 = .ok (.invokevirtual 93, 3) := by decide +kernel
theorem dX8_correct_31 : decode cX8_correct 31 = .ok (.ifCond .ne 5, 3) := by decide +kernel
theorem dX8_correct_34 : decode cX8_correct 34 = .ok (.iconst 0, 1) := by decide +kernel
theorem dX8_correct_35 : decode cX8_correct 35 = .ok (.ireturn, 1) := by decide +kernel
theorem dX8_correct_36 : decode cX8_correct 36 = .ok (.aload_n 0, 1) := by decide +kernel
theorem dX8_correct_37 : decode cX8_correct 37 = .ok (.getfield 22, 3) := by decide +kernel
theorem dX8_correct_40 : decode cX8_correct 40 = .ok (.iload_n 1, 1) := by decide +kernel
theorem dX8_correct_41 : decode cX8_correct 41 = .ok (.iaload, 1) := by decide +kernel
theorem dX8_correct_42 : decode cX8_correct 42 = .ok (.istore_n 3, 1) := by decide +kernel
theorem dX8_correct_43 : decode cX8_correct 43 = .ok (.aload_n 0, 1) := by decide +kernel
theorem dX8_correct_44 : decode cX8_correct 44 = .ok (.getfield 22, 3) := by decide +kernel
theorem dX8_correct_47 : decode cX8_correct 47 = .ok (.iload_n 1, 1) := by decide +kernel
theorem dX8_correct_48 : decode cX8_correct 48 = .ok (.iload_n 2, 1) := by decide +kernel
theorem dX8_correct_49 : decode cX8_correct 49 = .ok (.iastore, 1) := by decide +kernel
theorem dX8_correct_50 : decode cX8_correct 50 = .ok (.iload_n 3, 1) := by decide +kernel
theorem dX8_correct_51 : decode cX8_correct 51 = .ok (.ireturn, 1) := by decide +kernel
set_option maxRecDepth 20000 in
theorem ggX8_aim_X8_isMirror : GoodIn wsX8_aim wsX8_isMirror := goodIn_r _ [7, 8, 9, 10, 6, 11, 17, 18, 19, 20, 21, 22, 23, 24, 25, 26, 27, 28, 29, 30, 31, 32, 33, 34, 35, 36, 37, 38, 39, 40, 41, 42, 43, 44, 45, 46, 47, 48, 49, 50, 51, 52, 53, 54, 55, 56] (by decide +kernel) (by decide +kernel)
set_option maxRecDepth 20000 in
theorem gX8_aim_X8_isMirror : GoodIn wsX8_aim (wsV RX8 97 RX8 yX8_isMirror wsX8_isMirror) := goodIn_app (goodIn_of _ (by decide +kernel)) ggX8_aim_X8_isMirror
set_option maxRecDepth 20000 in
theorem ggX8_aim_X8_isIn : GoodIn wsX8_aim wsX8_isIn := goodIn_r _ [11] (by decide +kernel) (by decide +kernel)
set_option maxRecDepth 20000 in
theorem gX8_aim_X8_isIn : GoodIn wsX8_aim (va_wsS RX8 85 yX8_isIn wsX8_isIn) := goodIn_app (goodIn_of _ (by decide +kernel)) ggX8_aim_X8_isIn
set_option maxRecDepth 20000 in
theorem ggX8_aim_X8_holds : GoodIn wsX8_aim wsX8_holds := goodIn_r _ [15, 16, 17, 18, 19, 20, 21, 22, 23, 24, 25, 26, 27, 28, 29, 30, 31, 32, 33, 34, 35, 36, 37, 38, 39, 40, 41, 42, 43, 44, 45, 46, 47, 48, 49, 50, 51, 52, 53, 54, 55, 56] (by decide +kernel) (by decide +kernel)
set_option maxRecDepth 20000 in
theorem gX8_aim_X8_holds : GoodIn wsX8_aim (wsV RX8 93 RX8 yX8_holds wsX8_holds) := goodIn_app (goodIn_of _ (by decide +kernel)) ggX8_aim_X8_holds
theorem dX8_aim_0 : decode cX8_aim 0 = .ok (.aload_n 0, 1) := by decide +kernel
theorem dX8_aim_1 : decode cX8_aim 1 = .ok (.iload_n 1, 1) := by decide +kernel
theorem dX8_aim_2 : decode cX8_aim 2 = .ok (.invokevirtual 97, 3) := by decide +kernel
theorem dX8_aim_5 : decode cX8_aim 5 = .ok (.istore_n 3, 1) := by decide +kernel
theorem dX8_aim_6 : decode cX8_aim 6 = .ok (.aload_n 0, 1) := by decide +kernel
theorem dX8_aim_7 : decode cX8_aim 7 = .ok (.iload_n 3, 1) := by decide +kernel
theorem dX8_aim_8 : decode cX8_aim 8 = .ok (.ifCond .ne 7, 3) := by decide +kernel
theorem dX8_aim_11 : decode cX8_aim 11 = .ok (.iconst 1, 1) := by decide +kernel
theorem dX8_aim_12 : decode cX8_aim 12 = .ok (.goto 30, 3) := by decide +kernel
theorem dX8_aim_15 : decode cX8_aim 15 = .ok (.iload_n 2, 1) := by decide +kernel
theorem dX8_aim_16 : decode cX8_aim 16 = .ok (.iconst (-1), 1) := by decide +kernel
theorem dX8_aim_17 : decode cX8_aim 17 = .ok (.iconst 5, 1) := by decide +kernel
theorem dX8_aim_18 : decode cX8_aim 18 = .ok (.invokestatic 85, 3) := by decide +kernel
theorem dX8_aim_21 : decode cX8_aim 21 = .ok (.ifCond .ne 7, 3) := by decide +kernel
theorem dX8_aim_24 : decode cX8_aim 24 = .ok (.iconst 2, 1) := by decide +kernel
theorem dX8_aim_25 : decode cX8_aim 25 = .ok (.goto 17, 3) := by decide +kernel
theorem dX8_aim_28 : decode cX8_aim 28 = .ok (.aload_n 0, 1) := by decide +kernel
theorem dX8_aim_29 : decode cX8_aim 29 = .ok (.getfield 25, 3) := by decide +kernel
theorem dX8_aim_32 : decode cX8_aim 32 = .ok (.iload_n 1, 1) := by decide +kernel
theorem dX8_aim_33 : decode cX8_aim 33 = .ok (.baload, 1) := by decide +kernel
theorem dX8_aim_34 : decode cX8_aim 34 = .ok (.ifCond .eq 7, 3) := by decide +kernel
theorem dX8_aim_37 : decode cX8_aim 37 = .ok (.iconst 3, 1) := by decide +kernel
theorem dX8_aim_38 : decode cX8_aim 38 = .ok (.goto 4, 3) := by decide +kernel
theorem dX8_aim_41 : decode cX8_aim 41 = .ok (.iconst 0, 1) := by decide +kernel
theorem dX8_aim_42 : decode cX8_aim 42 = .ok (.invokevirtual 93, 3) := by decide +kernel
theorem dX8_aim_45 : decode cX8_aim 45 = .ok (.ifCond .ne 5, 3) := by decide +kernel
theorem dX8_aim_48 : decode cX8_aim 48 = .ok (.iconst 0, 1) := by decide +kernel
theorem dX8_aim_49 : decode cX8_aim 49 = .ok (.ireturn, 1) := by decide +kernel
theorem dX8_aim_50 : decode cX8_aim 50 = .ok (.aload_n 0, 1) := by decide +kernel
theorem dX8_aim_51 : decode cX8_aim 51 = .ok (.getfield 16, 3) := by decide +kernel
theorem dX8_aim_54 : decode cX8_aim 54 = .ok (.iload_n 1, 1) := by decide +kernel
theorem dX8_aim_55 : decode cX8_aim 55 = .ok (.iaload, 1) := by decide +kernel
theorem dX8_aim_56 : decode cX8_aim 56 = .ok (.istore 4, 2) := by decide +kernel
theorem dX8_aim_58 : decode cX8_aim 58 = .ok (.aload_n 0, 1) := by decide +kernel
theorem dX8_aim_59 : decode cX8_aim 59 = .ok (.getfield 16, 3) := by decide +kernel
theorem dX8_aim_62 : decode cX8_aim 62 = .ok (.iload_n 1, 1) := by decide +kernel
theorem dX8_aim_63 : decode cX8_aim 63 = .ok (.iload_n 2, 1) := by decide +kernel
theorem dX8_aim_64 : decode cX8_aim 64 = .ok (.iastore, 1) := by decide +kernel
theorem dX8_aim_65 : decode cX8_aim 65 = .ok (.iload 4, 2) := by decide +kernel
theorem dX8_aim_67 : decode cX8_aim 67 = .ok (.ireturn, 1) := by decide +kernel
set_option maxRecDepth 20000 in
theorem ggX8_fail_X8_isMirror : GoodIn wsX8_fail wsX8_isMirror := goodIn_r _ [6, 7, 8, 9, 5, 10, 16, 17, 18, 19, 20, 21, 22, 23, 24, 25, 26, 27, 28, 29, 30, 31, 32, 33, 34, 35, 36, 37, 38, 39, 40, 41, 42, 43, 44, 45, 46, 47, 48, 49, 50, 51, 52, 53, 54, 55] (by decide +kernel) (by decide +kernel)
set_option maxRecDepth 20000 in
theorem gX8_fail_X8_isMirror : GoodIn wsX8_fail (wsV RX8 97 RX8 yX8_isMirror wsX8_isMirror) := goodIn_app (goodIn_of _ (by decide +kernel)) ggX8_fail_X8_isMirror
set_option maxRecDepth 20000 in
theorem ggX8_fail_X8_holds : GoodIn wsX8_fail wsX8_holds := goodIn_r _ [14, 15, 16, 17, 18, 19, 20, 21, 22, 23, 24, 25, 26, 27, 28, 29, 30, 31, 32, 33, 34, 35, 36, 37, 38, 39, 40, 41, 42, 43, 44, 45, 46, 47, 48, 49, 50, 51, 52, 53, 54, 55] (by decide +kernel) (by decide +kernel)
set_option maxRecDepth 20000 in
theorem gX8_fail_X8_holds : GoodIn wsX8_fail (wsV RX8 93 RX8 yX8_holds wsX8_holds) := goodIn_app (goodIn_of _ (by decide +kernel)) ggX8_fail_X8_holds
theorem dX8_fail_0 : decode cX8_fail 0 = .ok (.aload_n 0, 1) := by decide +kernel
theorem dX8_fail_1 : decode cX8_fail 1 = .ok (.aload_n 0, 1) := by decide +kernel
theorem dX8_fail_2 : decode cX8_fail 2 = .ok (.iload_n 1, 1) := by decide +kernel
theorem dX8_fail_3 : decode cX8_fail 3 = .ok (.invokevirtual 97, 3) := by decide +kernel
theorem dX8_fail_6 : decode cX8_fail 6 = .ok (.ifCond .eq 7, 3) := by decide +kernel
theorem dX8_fail_9 : decode cX8_fail 9 = .ok (.iconst 0, 1) := by decide +kernel
theorem dX8_fail_10 : decode cX8_fail 10 = .ok (.goto 4, 3) := by decide +kernel
theorem dX8_fail_13 : decode cX8_fail 13 = .ok (.iconst 1, 1) := by decide +kernel
theorem dX8_fail_14 : decode cX8_fail 14 = .ok (.invokevirtual 93, 3) := by decide +kernel
theorem dX8_fail_17 : decode cX8_fail 17 = .ok (.ifCond .ne 5, 3) := by decide +kernel
theorem dX8_fail_20 : decode cX8_fail 20 = .ok (.iconst 0, 1) := by decide +kernel
theorem dX8_fail_21 : decode cX8_fail 21 = .ok (.ireturn, 1) := by decide +kernel
theorem dX8_fail_22 : decode cX8_fail 22 = .ok (.aload_n 0, 1) := by decide +kernel
theorem dX8_fail_23 : decode cX8_fail 23 = .ok (.getfield 25, 3) := by decide +kernel
theorem dX8_fail_26 : decode cX8_fail 26 = .ok (.iload_n 1, 1) := by decide +kernel
theorem dX8_fail_27 : decode cX8_fail 27 = .ok (.baload, 1) := by decide +kernel
theorem dX8_fail_28 : decode cX8_fail 28 = .ok (.istore_n 3, 1) := by decide +kernel
theorem dX8_fail_29 : decode cX8_fail 29 = .ok (.aload_n 0, 1) := by decide +kernel
theorem dX8_fail_30 : decode cX8_fail 30 = .ok (.getfield 25, 3) := by decide +kernel
theorem dX8_fail_33 : decode cX8_fail 33 = .ok (.iload_n 1, 1) := by decide +kernel
theorem dX8_fail_34 : decode cX8_fail 34 = .ok (.iload_n 2, 1) := by decide +kernel
theorem dX8_fail_35 : decode cX8_fail 35 = .ok (.bastore, 1) := by decide +kernel
theorem dX8_fail_36 : decode cX8_fail 36 = .ok (.iload_n 3, 1) := by decide +kernel
theorem dX8_fail_37 : decode cX8_fail 37 = .ok (.ireturn, 1) := by decide +kernel
set_option maxRecDepth 20000 in
theorem ggX8_wash_X8_isMirror : GoodIn wsX8_wash wsX8_isMirror := goodIn_r _ [8, 9, 10, 11, 7, 12, 21, 22, 23, 24, 25, 26, 27, 28, 29, 30, 31, 32, 33, 34, 35, 36, 37, 38, 39, 40, 41, 42, 43, 44, 45, 46, 47, 48, 49, 50, 51, 52, 53, 54, 55, 56, 57, 58, 59, 60] (by decide +kernel) (by decide +kernel)
set_option maxRecDepth 20000 in
theorem gX8_wash_X8_isMirror : GoodIn wsX8_wash (wsV RX8 97 RX8 yX8_isMirror wsX8_isMirror) := goodIn_app (goodIn_of _ (by decide +kernel)) ggX8_wash_X8_isMirror
set_option maxRecDepth 20000 in
theorem ggX8_wash_X8_strength : GoodIn wsX8_wash wsX8_strength := goodIn_r _ [15] (by decide +kernel) (by decide +kernel)
set_option maxRecDepth 20000 in
theorem gX8_wash_X8_strength : GoodIn wsX8_wash (va_wsS RX8 111 yX8_strength wsX8_strength) := goodIn_app (goodIn_of _ (by decide +kernel)) ggX8_wash_X8_strength
set_option maxRecDepth 20000 in
theorem ggX8_wash_X8_holds : GoodIn wsX8_wash wsX8_holds := goodIn_r _ [19, 20, 21, 22, 23, 24, 25, 26, 27, 28, 29, 30, 31, 32, 33, 34, 35, 36, 37, 38, 39, 40, 41, 42, 43, 44, 45, 46, 47, 48, 49, 50, 51, 52, 53, 54, 55, 56, 57, 58, 59, 60] (by decide +kernel) (by decide +kernel)
set_option maxRecDepth 20000 in
theorem gX8_wash_X8_holds : GoodIn wsX8_wash (wsV RX8 93 RX8 yX8_holds wsX8_holds) := goodIn_app (goodIn_of _ (by decide +kernel)) ggX8_wash_X8_holds
theorem dX8_wash_0 : decode cX8_wash 0 = .ok (.aload_n 0, 1) := by decide +kernel
theorem dX8_wash_1 : decode cX8_wash 1 = .ok (.aload_n 0, 1) := by decide +kernel
theorem dX8_wash_2 : decode cX8_wash 2 = .ok (.iload_n 1, 1) := by decide +kernel
theorem dX8_wash_3 : decode cX8_wash 3 = .ok (.invokevirtual 97, 3) := by decide +kernel
theorem dX8_wash_6 : decode cX8_wash 6 = .ok (.ifCond .ne 7, 3) := by decide +kernel
theorem dX8_wash_9 : decode cX8_wash 9 = .ok (.iconst 1, 1) := by decide +kernel
theorem dX8_wash_10 : decode cX8_wash 10 = .ok (.goto 26, 3) := by decide +kernel
theorem dX8_wash_13 : decode cX8_wash 13 = .ok (.aload_n 0, 1) := by decide +kernel
theorem dX8_wash_14 : decode cX8_wash 14 = .ok (.getfield 108, 3) := by decide +kernel
theorem dX8_wash_17 : decode cX8_wash 17 = .ok (.invokestatic 111, 3) := by decide +kernel
theorem dX8_wash_20 : decode cX8_wash 20 = .ok (.ifCond .gt 11, 3) := by decide +kernel
theorem dX8_wash_23 : decode cX8_wash 23 = .ok (.aload_n 0, 1) := by decide +kernel
theorem dX8_wash_24 : decode cX8_wash 24 = .ok (.getfield 114, 3) := by decide +kernel
theorem dX8_wash_27 : decode cX8_wash 27 = .ok (.iconst 3, 1) := by decide +kernel
theorem dX8_wash_28 : decode cX8_wash 28 = .ok (.if_icmp .ge 7, 3) := by decide +kernel
theorem dX8_wash_31 : decode cX8_wash 31 = .ok (.iconst 2, 1) := by decide +kernel
theorem dX8_wash_32 : decode cX8_wash 32 = .ok (.goto 4, 3) := by decide +kernel
theorem dX8_wash_35 : decode cX8_wash 35 = .ok (.iconst 0, 1) := by decide +kernel
theorem dX8_wash_36 : decode cX8_wash 36 = .ok (.invokevirtual 93, 3) := by decide +kernel
theorem dX8_wash_39 : decode cX8_wash 39 = .ok (.ifCond .ne 5, 3) := by decide +kernel
theorem dX8_wash_42 : decode cX8_wash 42 = .ok (.iconst 0, 1) := by decide +kernel
theorem dX8_wash_43 : decode cX8_wash 43 = .ok (.ireturn, 1) := by decide +kernel
theorem dX8_wash_44 : decode cX8_wash 44 = .ok (.aload_n 0, 1) := by decide +kernel
theorem dX8_wash_45 : decode cX8_wash 45 = .ok (.getfield 13, 3) := by decide +kernel
theorem dX8_wash_48 : decode cX8_wash 48 = .ok (.iload_n 1, 1) := by decide +kernel
theorem dX8_wash_49 : decode cX8_wash 49 = .ok (.iaload, 1) := by decide +kernel
theorem dX8_wash_50 : decode cX8_wash 50 = .ok (.istore_n 2, 1) := by decide +kernel
theorem dX8_wash_51 : decode cX8_wash 51 = .ok (.aload_n 0, 1) := by decide +kernel
theorem dX8_wash_52 : decode cX8_wash 52 = .ok (.getfield 13, 3) := by decide +kernel
theorem dX8_wash_55 : decode cX8_wash 55 = .ok (.iload_n 1, 1) := by decide +kernel
theorem dX8_wash_56 : decode cX8_wash 56 = .ok (.iconst 0, 1) := by decide +kernel
theorem dX8_wash_57 : decode cX8_wash 57 = .ok (.iastore, 1) := by decide +kernel
theorem dX8_wash_58 : decode cX8_wash 58 = .ok (.aload_n 0, 1) := by decide +kernel
theorem dX8_wash_59 : decode cX8_wash 59 = .ok (.dup, 1) := by decide +kernel
theorem dX8_wash_60 : decode cX8_wash 60 = .ok (.getfield 114, 3) := by decide +kernel
theorem dX8_wash_63 : decode cX8_wash 63 = .ok (.iconst 3, 1) := by decide +kernel
theorem dX8_wash_64 : decode cX8_wash 64 = .ok (.isub, 1) := by decide +kernel
theorem dX8_wash_65 : decode cX8_wash 65 = .ok (.putfield 114, 3) := by decide +kernel
theorem dX8_wash_68 : decode cX8_wash 68 = .ok (.iload_n 2, 1) := by decide +kernel
theorem dX8_wash_69 : decode cX8_wash 69 = .ok (.ireturn, 1) := by decide +kernel
theorem dX8_distance_0 : decode cX8_distance 0 = .ok (.aload_n 0, 1) := by decide +kernel
theorem dX8_distance_1 : decode cX8_distance 1 = .ok (.getfield 7, 3) := by decide +kernel
theorem dX8_distance_4 : decode cX8_distance 4 = .ok (.iload_n 1, 1) := by decide +kernel
theorem dX8_distance_5 : decode cX8_distance 5 = .ok (.iaload, 1) := by decide +kernel
theorem dX8_distance_6 : decode cX8_distance 6 = .ok (.bipush 8, 2) := by decide +kernel
theorem dX8_distance_8 : decode cX8_distance 8 = .ok (.irem, 1) := by decide +kernel
theorem dX8_distance_9 : decode cX8_distance 9 = .ok (.iconst 3, 1) := by decide +kernel
theorem dX8_distance_10 : decode cX8_distance 10 = .ok (.isub, 1) := by decide +kernel
theorem dX8_distance_11 : decode cX8_distance 11 = .ok (.istore_n 2, 1) := by decide +kernel
theorem dX8_distance_12 : decode cX8_distance 12 = .ok (.aload_n 0, 1) := by decide +kernel
theorem dX8_distance_13 : decode cX8_distance 13 = .ok (.getfield 7, 3) := by decide +kernel
theorem dX8_distance_16 : decode cX8_distance 16 = .ok (.iload_n 1, 1) := by decide +kernel
theorem dX8_distance_17 : decode cX8_distance 17 = .ok (.iaload, 1) := by decide +kernel
theorem dX8_distance_18 : decode cX8_distance 18 = .ok (.bipush 8, 2) := by decide +kernel
theorem dX8_distance_20 : decode cX8_distance 20 = .ok (.idiv, 1) := by decide +kernel
theorem dX8_distance_21 : decode cX8_distance 21 = .ok (.iconst 1, 1) := by decide +kernel
theorem dX8_distance_22 : decode cX8_distance 22 = .ok (.iadd, 1) := by decide +kernel
theorem dX8_distance_23 : decode cX8_distance 23 = .ok (.iload_n 2, 1) := by decide +kernel
theorem dX8_distance_24 : decode cX8_distance 24 = .ok (.ifCond .ge 8, 3) := by decide +kernel
theorem dX8_distance_27 : decode cX8_distance 27 = .ok (.iload_n 2, 1) := by decide +kernel
theorem dX8_distance_28 : decode cX8_distance 28 = .ok (.ineg, 1) := by decide +kernel
theorem dX8_distance_29 : decode cX8_distance 29 = .ok (.goto 4, 3) := by decide +kernel
theorem dX8_distance_32 : decode cX8_distance 32 = .ok (.iload_n 2, 1) := by decide +kernel
theorem dX8_distance_33 : decode cX8_distance 33 = .ok (.iadd, 1) := by decide +kernel
theorem dX8_distance_34 : decode cX8_distance 34 = .ok (.ireturn, 1) := by decide +kernel
set_option maxRecDepth 20000 in
theorem ggX8_isCovered_X8_isIn : GoodIn wsX8_isCovered wsX8_isIn := goodIn_r _ [12] (by decide +kernel) (by decide +kernel)
set_option maxRecDepth 20000 in
theorem gX8_isCovered_X8_isIn : GoodIn wsX8_isCovered (va_wsS RX8 85 yX8_isIn wsX8_isIn) := goodIn_app (goodIn_of _ (by decide +kernel)) ggX8_isCovered_X8_isIn
theorem dX8_isCovered_0 : decode cX8_isCovered 0 = .ok (.aload_n 0, 1) := by decide +kernel
theorem dX8_isCovered_1 : decode cX8_isCovered 1 = .ok (.getfield 7, 3) := by decide +kernel
theorem dX8_isCovered_4 : decode cX8_isCovered 4 = .ok (.iload_n 1, 1) := by decide +kernel
theorem dX8_isCovered_5 : decode cX8_isCovered 5 = .ok (.iaload, 1) := by decide +kernel
theorem dX8_isCovered_6 : decode cX8_isCovered 6 = .ok (.bipush 8, 2) := by decide +kernel
theorem dX8_isCovered_8 : decode cX8_isCovered 8 = .ok (.idiv, 1) := by decide +kernel
theorem dX8_isCovered_9 : decode cX8_isCovered 9 = .ok (.istore_n 3, 1) := by decide +kernel
theorem dX8_isCovered_10 : decode cX8_isCovered 10 = .ok (.aload_n 0, 1) := by decide +kernel
theorem dX8_isCovered_11 : decode cX8_isCovered 11 = .ok (.getfield 7, 3) := by decide +kernel
theorem dX8_isCovered_14 : decode cX8_isCovered 14 = .ok (.iload_n 1, 1) := by decide +kernel
theorem dX8_isCovered_15 : decode cX8_isCovered 15 = .ok (.iaload, 1) := by decide +kernel
theorem dX8_isCovered_16 : decode cX8_isCovered 16 = .ok (.bipush 8, 2) := by decide +kernel
theorem dX8_isCovered_18 : decode cX8_isCovered 18 = .ok (.irem, 1) := by decide +kernel
theorem dX8_isCovered_19 : decode cX8_isCovered 19 = .ok (.istore 4, 2) := by decide +kernel
theorem dX8_isCovered_21 : decode cX8_isCovered 21 = .ok (.iconst 0, 1) := by decide +kernel
theorem dX8_isCovered_22 : decode cX8_isCovered 22 = .ok (.istore 5, 2) := by decide +kernel
theorem dX8_isCovered_24 : decode cX8_isCovered 24 = .ok (.iconst 0, 1) := by decide +kernel
theorem dX8_isCovered_25 : decode cX8_isCovered 25 = .ok (.istore 6, 2) := by decide +kernel
theorem dX8_isCovered_27 : decode cX8_isCovered 27 = .ok (.iload 6, 2) := by decide +kernel
theorem dX8_isCovered_29 : decode cX8_isCovered 29 = .ok (.aload_n 0, 1) := by decide +kernel
theorem dX8_isCovered_30 : decode cX8_isCovered 30 = .ok (.getfield 117, 3) := by decide +kernel
theorem dX8_isCovered_33 : decode cX8_isCovered 33 = .ok (.if_icmp .ge 102, 3) := by decide +kernel
theorem dX8_isCovered_36 : decode cX8_isCovered 36 = .ok (.aload_n 0, 1) := by decide +kernel
theorem dX8_isCovered_37 : decode cX8_isCovered 37 = .ok (.getfield 29, 3) := by decide +kernel
theorem dX8_isCovered_40 : decode cX8_isCovered 40 = .ok (.iload 6, 2) := by decide +kernel
theorem dX8_isCovered_42 : decode cX8_isCovered 42 = .ok (.iaload, 1) := by decide +kernel
theorem dX8_isCovered_43 : decode cX8_isCovered 43 = .ok (.aload_n 0, 1) := by decide +kernel
theorem dX8_isCovered_44 : decode cX8_isCovered 44 = .ok (.getfield 41, 3) := by decide +kernel
theorem dX8_isCovered_47 : decode cX8_isCovered 47 = .ok (.iload 6, 2) := by decide +kernel
theorem dX8_isCovered_49 : decode cX8_isCovered 49 = .ok (.iaload, 1) := by decide +kernel
theorem dX8_isCovered_50 : decode cX8_isCovered 50 = .ok (.iload_n 2, 1) := by decide +kernel
theorem dX8_isCovered_51 : decode cX8_isCovered 51 = .ok (.imul, 1) := by decide +kernel
theorem dX8_isCovered_52 : decode cX8_isCovered 52 = .ok (.iadd, 1) := by decide +kernel
theorem dX8_isCovered_53 : decode cX8_isCovered 53 = .ok (.istore 7, 2) := by decide +kernel
theorem dX8_isCovered_55 : decode cX8_isCovered 55 = .ok (.aload_n 0, 1) := by decide +kernel
theorem dX8_isCovered_56 : decode cX8_isCovered 56 = .ok (.getfield 32, 3) := by decide +kernel
theorem dX8_isCovered_59 : decode cX8_isCovered 59 = .ok (.iload 6, 2) := by decide +kernel
theorem dX8_isCovered_61 : decode cX8_isCovered 61 = .ok (.iaload, 1) := by decide +kernel
theorem dX8_isCovered_62 : decode cX8_isCovered 62 = .ok (.aload_n 0, 1) := by decide +kernel
theorem dX8_isCovered_63 : decode cX8_isCovered 63 = .ok (.getfield 44, 3) := by decide +kernel
theorem dX8_isCovered_66 : decode cX8_isCovered 66 = .ok (.iload 6, 2) := by decide +kernel
theorem dX8_isCovered_68 : decode cX8_isCovered 68 = .ok (.iaload, 1) := by decide +kernel
theorem dX8_isCovered_69 : decode cX8_isCovered 69 = .ok (.iload_n 2, 1) := by decide +kernel
theorem dX8_isCovered_70 : decode cX8_isCovered 70 = .ok (.imul, 1) := by decide +kernel
theorem dX8_isCovered_71 : decode cX8_isCovered 71 = .ok (.iadd, 1) := by decide +kernel
theorem dX8_isCovered_72 : decode cX8_isCovered 72 = .ok (.istore 8, 2) := by decide +kernel
theorem dX8_isCovered_74 : decode cX8_isCovered 74 = .ok (.iload 5, 2) := by decide +kernel
theorem dX8_isCovered_76 : decode cX8_isCovered 76 = .ok (.ifCond .ne 46, 3) := by decide +kernel
theorem dX8_isCovered_79 : decode cX8_isCovered 79 = .ok (.iload_n 3, 1) := by decide +kernel
theorem dX8_isCovered_80 : decode cX8_isCovered 80 = .ok (.iload 7, 2) := by decide +kernel
theorem dX8_isCovered_82 : decode cX8_isCovered 82 = .ok (.iload 7, 2) := by decide +kernel
theorem dX8_isCovered_84 : decode cX8_isCovered 84 = .ok (.aload_n 0, 1) := by decide +kernel
theorem dX8_isCovered_85 : decode cX8_isCovered 85 = .ok (.getfield 35, 3) := by decide +kernel
theorem dX8_isCovered_88 : decode cX8_isCovered 88 = .ok (.iload 6, 2) := by decide +kernel
theorem dX8_isCovered_90 : decode cX8_isCovered 90 = .ok (.iaload, 1) := by decide +kernel
theorem dX8_isCovered_91 : decode cX8_isCovered 91 = .ok (.iadd, 1) := by decide +kernel
theorem dX8_isCovered_92 : decode cX8_isCovered 92 = .ok (.iconst 1, 1) := by decide +kernel
theorem dX8_isCovered_93 : decode cX8_isCovered 93 = .ok (.isub, 1) := by decide +kernel
theorem dX8_isCovered_94 : decode cX8_isCovered 94 = .ok (.invokestatic 85, 3) := by decide +kernel
theorem dX8_isCovered_97 : decode cX8_isCovered 97 = .ok (.ifCond .eq 29, 3) := by decide +kernel
theorem dX8_isCovered_100 : decode cX8_isCovered 100 = .ok (.iload 4, 2) := by decide +kernel
theorem dX8_isCovered_102 : decode cX8_isCovered 102 = .ok (.iload 8, 2) := by decide +kernel
theorem dX8_isCovered_104 : decode cX8_isCovered 104 = .ok (.iload 8, 2) := by decide +kernel
theorem dX8_isCovered_106 : decode cX8_isCovered 106 = .ok (.aload_n 0, 1) := by decide +kernel
theorem dX8_isCovered_107 : decode cX8_isCovered 107 = .ok (.getfield 38, 3) := by decide +kernel
theorem dX8_isCovered_110 : decode cX8_isCovered 110 = .ok (.iload 6, 2) := by decide +kernel
theorem dX8_isCovered_112 : decode cX8_isCovered 112 = .ok (.iaload, 1) := by decide +kernel
theorem dX8_isCovered_113 : decode cX8_isCovered 113 = .ok (.iadd, 1) := by decide +kernel
theorem dX8_isCovered_114 : decode cX8_isCovered 114 = .ok (.iconst 1, 1) := by decide +kernel
theorem dX8_isCovered_115 : decode cX8_isCovered 115 = .ok (.isub, 1) := by decide +kernel
theorem dX8_isCovered_116 : decode cX8_isCovered 116 = .ok (.invokestatic 85, 3) := by decide +kernel
theorem dX8_isCovered_119 : decode cX8_isCovered 119 = .ok (.ifCond .eq 7, 3) := by decide +kernel
theorem dX8_isCovered_122 : decode cX8_isCovered 122 = .ok (.iconst 1, 1) := by decide +kernel
theorem dX8_isCovered_123 : decode cX8_isCovered 123 = .ok (.goto 4, 3) := by decide +kernel
theorem dX8_isCovered_126 : decode cX8_isCovered 126 = .ok (.iconst 0, 1) := by decide +kernel
theorem dX8_isCovered_127 : decode cX8_isCovered 127 = .ok (.istore 5, 2) := by decide +kernel
theorem dX8_isCovered_129 : decode cX8_isCovered 129 = .ok (.iinc 6 1, 3) := by decide +kernel
theorem dX8_isCovered_132 : decode cX8_isCovered 132 = .ok (.goto (-105), 3) := by decide +kernel
theorem dX8_isCovered_135 : decode cX8_isCovered 135 = .ok (.iload 5, 2) := by decide +kernel
theorem dX8_isCovered_137 : decode cX8_isCovered 137 = .ok (.ireturn, 1) := by decide +kernel
set_option maxRecDepth 20000 in
theorem ggX8_isShaded_X8_mirrorAt : GoodIn wsX8_isShaded wsX8_mirrorAt := goodIn_r _ [6, 7, 1, 11, 12, 13, 14, 15, 16, 17, 18, 19, 20, 21, 22, 23, 24, 25, 26, 27, 28, 29, 30, 31, 32, 33, 34, 35, 36, 37, 38, 39, 40, 41, 42, 43, 44, 45, 46, 47, 48, 49, 50] (by decide +kernel) (by decide +kernel)
set_option maxRecDepth 20000 in
theorem gX8_isShaded_X8_mirrorAt : GoodIn wsX8_isShaded (wsV RX8 89 RX8 yX8_mirrorAt wsX8_mirrorAt) := goodIn_app (goodIn_of _ (by decide +kernel)) ggX8_isShaded_X8_mirrorAt
set_option maxRecDepth 20000 in
theorem ggX8_isShaded_X8_strength : GoodIn wsX8_isShaded wsX8_strength := goodIn_r _ [10] (by decide +kernel) (by decide +kernel)
set_option maxRecDepth 20000 in
theorem gX8_isShaded_X8_strength : GoodIn wsX8_isShaded (va_wsS RX8 111 yX8_strength wsX8_strength) := goodIn_app (goodIn_of _ (by decide +kernel)) ggX8_isShaded_X8_strength
theorem dX8_isShaded_0 : decode cX8_isShaded 0 = .ok (.iload_n 2, 1) := by decide +kernel
theorem dX8_isShaded_1 : decode cX8_isShaded 1 = .ok (.bipush 24, 2) := by decide +kernel
theorem dX8_isShaded_3 : decode cX8_isShaded 3 = .ok (.irem, 1) := by decide +kernel
theorem dX8_isShaded_4 : decode cX8_isShaded 4 = .ok (.bipush 12, 2) := by decide +kernel
theorem dX8_isShaded_6 : decode cX8_isShaded 6 = .ok (.if_icmp .ge 7, 3) := by decide +kernel
theorem dX8_isShaded_9 : decode cX8_isShaded 9 = .ok (.iconst 1, 1) := by decide +kernel
theorem dX8_isShaded_10 : decode cX8_isShaded 10 = .ok (.goto 4, 3) := by decide +kernel
theorem dX8_isShaded_13 : decode cX8_isShaded 13 = .ok (.iconst 0, 1) := by decide +kernel
theorem dX8_isShaded_14 : decode cX8_isShaded 14 = .ok (.istore_n 3, 1) := by decide +kernel
theorem dX8_isShaded_15 : decode cX8_isShaded 15 = .ok (.aload_n 0, 1) := by decide +kernel
theorem dX8_isShaded_16 : decode cX8_isShaded 16 = .ok (.getfield 7, 3) := by decide +kernel
theorem dX8_isShaded_19 : decode cX8_isShaded 19 = .ok (.iload_n 1, 1) := by decide +kernel
theorem dX8_isShaded_20 : decode cX8_isShaded 20 = .ok (.iaload, 1) := by decide +kernel
theorem dX8_isShaded_21 : decode cX8_isShaded 21 = .ok (.bipush 8, 2) := by decide +kernel
theorem dX8_isShaded_23 : decode cX8_isShaded 23 = .ok (.irem, 1) := by decide +kernel
theorem dX8_isShaded_24 : decode cX8_isShaded 24 = .ok (.istore 4, 2) := by decide +kernel
theorem dX8_isShaded_26 : decode cX8_isShaded 26 = .ok (.iload_n 3, 1) := by decide +kernel
theorem dX8_isShaded_27 : decode cX8_isShaded 27 = .ok (.ifCond .eq 34, 3) := by decide +kernel
theorem dX8_isShaded_30 : decode cX8_isShaded 30 = .ok (.iload 4, 2) := by decide +kernel
theorem dX8_isShaded_32 : decode cX8_isShaded 32 = .ok (.bipush 7, 2) := by decide +kernel
theorem dX8_isShaded_34 : decode cX8_isShaded 34 = .ok (.if_icmp .ge 23, 3) := by decide +kernel
theorem dX8_isShaded_37 : decode cX8_isShaded 37 = .ok (.aload_n 0, 1) := by decide +kernel
theorem dX8_isShaded_38 : decode cX8_isShaded 38 = .ok (.aload_n 0, 1) := by decide +kernel
theorem dX8_isShaded_39 : decode cX8_isShaded 39 = .ok (.getfield 7, 3) := by decide +kernel
theorem dX8_isShaded_42 : decode cX8_isShaded 42 = .ok (.iload_n 1, 1) := by decide +kernel
theorem dX8_isShaded_43 : decode cX8_isShaded 43 = .ok (.iaload, 1) := by decide +kernel
theorem dX8_isShaded_44 : decode cX8_isShaded 44 = .ok (.iconst 1, 1) := by decide +kernel
theorem dX8_isShaded_45 : decode cX8_isShaded 45 = .ok (.iadd, 1) := by decide +kernel
theorem dX8_isShaded_46 : decode cX8_isShaded 46 = .ok (.invokevirtual 89, 3) := by decide +kernel
theorem dX8_isShaded_49 : decode cX8_isShaded 49 = .ok (.iconst (-1), 1) := by decide +kernel
theorem dX8_isShaded_50 : decode cX8_isShaded 50 = .ok (.if_icmp .eq 7, 3) := by decide +kernel
theorem dX8_isShaded_53 : decode cX8_isShaded 53 = .ok (.iconst 1, 1) := by decide +kernel
theorem dX8_isShaded_54 : decode cX8_isShaded 54 = .ok (.goto 33, 3) := by decide +kernel
theorem dX8_isShaded_57 : decode cX8_isShaded 57 = .ok (.iconst 0, 1) := by decide +kernel
theorem dX8_isShaded_58 : decode cX8_isShaded 58 = .ok (.goto 29, 3) := by decide +kernel
theorem dX8_isShaded_61 : decode cX8_isShaded 61 = .ok (.iload 4, 2) := by decide +kernel
theorem dX8_isShaded_63 : decode cX8_isShaded 63 = .ok (.ifCond .le 23, 3) := by decide +kernel
theorem dX8_isShaded_66 : decode cX8_isShaded 66 = .ok (.aload_n 0, 1) := by decide +kernel
theorem dX8_isShaded_67 : decode cX8_isShaded 67 = .ok (.aload_n 0, 1) := by decide +kernel
theorem dX8_isShaded_68 : decode cX8_isShaded 68 = .ok (.getfield 7, 3) := by decide +kernel
theorem dX8_isShaded_71 : decode cX8_isShaded 71 = .ok (.iload_n 1, 1) := by decide +kernel
theorem dX8_isShaded_72 : decode cX8_isShaded 72 = .ok (.iaload, 1) := by decide +kernel
theorem dX8_isShaded_73 : decode cX8_isShaded 73 = .ok (.iconst 1, 1) := by decide +kernel
theorem dX8_isShaded_74 : decode cX8_isShaded 74 = .ok (.isub, 1) := by decide +kernel
theorem dX8_isShaded_75 : decode cX8_isShaded 75 = .ok (.invokevirtual 89, 3) := by decide +kernel
theorem dX8_isShaded_78 : decode cX8_isShaded 78 = .ok (.iconst (-1), 1) := by decide +kernel
theorem dX8_isShaded_79 : decode cX8_isShaded 79 = .ok (.if_icmp .eq 7, 3) := by decide +kernel
theorem dX8_isShaded_82 : decode cX8_isShaded 82 = .ok (.iconst 1, 1) := by decide +kernel
theorem dX8_isShaded_83 : decode cX8_isShaded 83 = .ok (.goto 4, 3) := by decide +kernel
theorem dX8_isShaded_86 : decode cX8_isShaded 86 = .ok (.iconst 0, 1) := by decide +kernel
theorem dX8_isShaded_87 : decode cX8_isShaded 87 = .ok (.istore 5, 2) := by decide +kernel
theorem dX8_isShaded_89 : decode cX8_isShaded 89 = .ok (.iload_n 2, 1) := by decide +kernel
theorem dX8_isShaded_90 : decode cX8_isShaded 90 = .ok (.invokestatic 111, 3) := by decide +kernel
theorem dX8_isShaded_93 : decode cX8_isShaded 93 = .ok (.iconst 3, 1) := by decide +kernel
theorem dX8_isShaded_94 : decode cX8_isShaded 94 = .ok (.if_icmp .gt 12, 3) := by decide +kernel
theorem dX8_isShaded_97 : decode cX8_isShaded 97 = .ok (.iload 5, 2) := by decide +kernel
theorem dX8_isShaded_99 : decode cX8_isShaded 99 = .ok (.ifCond .eq 7, 3) := by decide +kernel
theorem dX8_isShaded_102 : decode cX8_isShaded 102 = .ok (.iconst 1, 1) := by decide +kernel
theorem dX8_isShaded_103 : decode cX8_isShaded 103 = .ok (.goto 4, 3) := by decide +kernel
theorem dX8_isShaded_106 : decode cX8_isShaded 106 = .ok (.iconst 0, 1) := by decide +kernel
theorem dX8_isShaded_107 : decode cX8_isShaded 107 = .ok (.ireturn, 1) := by decide +kernel
set_option maxRecDepth 20000 in
theorem ggX8_mirrorIs_X8_isMirror : GoodIn wsX8_mirrorIs wsX8_isMirror := goodIn_r _ [11, 12, 13, 14, 10, 15, 47, 48, 49, 50, 51, 52, 53, 54, 55, 56, 57, 58, 59, 60, 61, 62, 63, 64, 65, 66, 67, 68, 69, 70, 71, 72, 73, 74, 75, 76, 77, 78, 79, 80, 81, 82, 83, 84, 85, 86] (by decide +kernel) (by decide +kernel)
set_option maxRecDepth 20000 in
theorem gX8_mirrorIs_X8_isMirror : GoodIn wsX8_mirrorIs (wsV RX8 97 RX8 yX8_isMirror wsX8_isMirror) := goodIn_app (goodIn_of _ (by decide +kernel)) ggX8_mirrorIs_X8_isMirror
set_option maxRecDepth 20000 in
theorem ggX8_mirrorIs_X8_isIn : GoodIn wsX8_mirrorIs wsX8_isIn := goodIn_r _ [15] (by decide +kernel) (by decide +kernel)
set_option maxRecDepth 20000 in
theorem gX8_mirrorIs_X8_isIn : GoodIn wsX8_mirrorIs (va_wsS RX8 85 yX8_isIn wsX8_isIn) := goodIn_app (goodIn_of _ (by decide +kernel)) ggX8_mirrorIs_X8_isIn
set_option maxRecDepth 20000 in
theorem ggX8_mirrorIs_X8_holds : GoodIn wsX8_mirrorIs wsX8_holds := goodIn_r _ [19, 20, 47, 48, 49, 50, 51, 52, 53, 54, 55, 56, 57, 58, 59, 60, 61, 62, 63, 64, 65, 66, 67, 68, 69, 70, 71, 72, 73, 74, 75, 76, 77, 78, 79, 80, 81, 82, 83, 84, 85, 86] (by decide +kernel) (by decide +kernel)
set_option maxRecDepth 20000 in
theorem gX8_mirrorIs_X8_holds : GoodIn wsX8_mirrorIs (wsV RX8 93 RX8 yX8_holds wsX8_holds) := goodIn_app (goodIn_of _ (by decide +kernel)) ggX8_mirrorIs_X8_holds
set_option maxRecDepth 20000 in
theorem ggX8_mirrorIs_X8_isCovered : GoodIn wsX8_mirrorIs wsX8_isCovered := goodIn_r _ [24, 1, 25, 26, 27, 28, 29, 30, 31, 13, 14, 10, 15, 47, 48, 49, 50, 51, 52, 53, 54, 55, 56, 57, 58, 59, 60, 61, 62, 63, 64, 65, 66, 67, 68, 69, 70, 71, 72, 73, 74, 75, 76, 77, 78, 79, 80, 81, 82, 83, 84, 85, 86] (by decide +kernel) (by decide +kernel)
set_option maxRecDepth 20000 in
theorem gX8_mirrorIs_X8_isCovered : GoodIn wsX8_mirrorIs (wsV RX8 120 RX8 yX8_isCovered wsX8_isCovered) := goodIn_app (goodIn_of _ (by decide +kernel)) ggX8_mirrorIs_X8_isCovered
set_option maxRecDepth 20000 in
theorem ggX8_mirrorIs_X8_isShaded : GoodIn wsX8_mirrorIs wsX8_isShaded := goodIn_r _ [35, 1, 36, 37, 38, 10, 39, 12, 40, 41, 42, 47, 48, 49, 50, 51, 52, 53, 54, 55, 56, 57, 58, 59, 60, 61, 62, 63, 64, 65, 66, 67, 68, 69, 70, 71, 72, 73, 74, 75, 76, 77, 78, 79, 80, 81, 82, 83, 84, 85, 86] (by decide +kernel) (by decide +kernel)
set_option maxRecDepth 20000 in
theorem gX8_mirrorIs_X8_isShaded : GoodIn wsX8_mirrorIs (wsV RX8 124 RX8 yX8_isShaded wsX8_isShaded) := goodIn_app (goodIn_of _ (by decide +kernel)) ggX8_mirrorIs_X8_isShaded
set_option maxRecDepth 20000 in
theorem ggX8_mirrorIs_X8_distance : GoodIn wsX8_mirrorIs wsX8_distance := goodIn_r _ [46, 1, 47, 48, 49, 50, 51, 52, 53, 54, 55, 56, 57, 58, 59, 60, 61, 62, 63, 64, 65, 66, 67, 68, 69, 70, 71, 72, 73, 74, 75, 76, 77, 78, 79, 80, 81, 82, 83, 84, 85, 86] (by decide +kernel) (by decide +kernel)
set_option maxRecDepth 20000 in
theorem gX8_mirrorIs_X8_distance : GoodIn wsX8_mirrorIs (wsV RX8 127 RX8 yX8_distance wsX8_distance) := goodIn_app (goodIn_of _ (by decide +kernel)) ggX8_mirrorIs_X8_distance
theorem dX8_mirrorIs_0 : decode cX8_mirrorIs 0 = .ok (.aload_n 0, 1) := by decide +kernel
theorem dX8_mirrorIs_1 : decode cX8_mirrorIs 1 = .ok (.aload_n 0, 1) := by decide +kernel
theorem dX8_mirrorIs_2 : decode cX8_mirrorIs 2 = .ok (.iload_n 1, 1) := by decide +kernel
theorem dX8_mirrorIs_3 : decode cX8_mirrorIs 3 = .ok (.invokevirtual 97, 3) := by decide +kernel
theorem dX8_mirrorIs_6 : decode cX8_mirrorIs 6 = .ok (.ifCond .ne 7, 3) := by decide +kernel
theorem dX8_mirrorIs_9 : decode cX8_mirrorIs 9 = .ok (.iconst 1, 1) := by decide +kernel
theorem dX8_mirrorIs_10 : decode cX8_mirrorIs 10 = .ok (.goto 18, 3) := by decide +kernel
theorem dX8_mirrorIs_13 : decode cX8_mirrorIs 13 = .ok (.iload_n 2, 1) := by decide +kernel
theorem dX8_mirrorIs_14 : decode cX8_mirrorIs 14 = .ok (.iconst 0, 1) := by decide +kernel
theorem dX8_mirrorIs_15 : decode cX8_mirrorIs 15 = .ok (.bipush 7, 2) := by decide +kernel
theorem dX8_mirrorIs_17 : decode cX8_mirrorIs 17 = .ok (.invokestatic 85, 3) := by decide +kernel
theorem dX8_mirrorIs_20 : decode cX8_mirrorIs 20 = .ok (.ifCond .eq 7, 3) := by decide +kernel
theorem dX8_mirrorIs_23 : decode cX8_mirrorIs 23 = .ok (.iconst 0, 1) := by decide +kernel
theorem dX8_mirrorIs_24 : decode cX8_mirrorIs 24 = .ok (.goto 4, 3) := by decide +kernel
theorem dX8_mirrorIs_27 : decode cX8_mirrorIs 27 = .ok (.iconst 2, 1) := by decide +kernel
theorem dX8_mirrorIs_28 : decode cX8_mirrorIs 28 = .ok (.invokevirtual 93, 3) := by decide +kernel
theorem dX8_mirrorIs_31 : decode cX8_mirrorIs 31 = .ok (.ifCond .ne 5, 3) := by decide +kernel
theorem dX8_mirrorIs_34 : decode cX8_mirrorIs 34 = .ok (.iconst 0, 1) := by decide +kernel
theorem dX8_mirrorIs_35 : decode cX8_mirrorIs 35 = .ok (.ireturn, 1) := by decide +kernel
theorem dX8_mirrorIs_36 : decode cX8_mirrorIs 36 = .ok (.iload_n 2, 1) := by decide +kernel
theorem dX8_mirrorIs_37 : decode cX8_mirrorIs 37 = .ok (.iconst 4, 1) := by decide +kernel
theorem dX8_mirrorIs_38 : decode cX8_mirrorIs 38 = .ok (.if_icmp .ge 51, 3) := by decide +kernel
theorem dX8_mirrorIs_41 : decode cX8_mirrorIs 41 = .ok (.iload_n 2, 1) := by decide +kernel
theorem dX8_mirrorIs_42 : decode cX8_mirrorIs 42 = .ok (.ifCond .ne 12, 3) := by decide +kernel
theorem dX8_mirrorIs_45 : decode cX8_mirrorIs 45 = .ok (.aload_n 0, 1) := by decide +kernel
theorem dX8_mirrorIs_46 : decode cX8_mirrorIs 46 = .ok (.getfield 7, 3) := by decide +kernel
theorem dX8_mirrorIs_49 : decode cX8_mirrorIs 49 = .ok (.iload_n 1, 1) := by decide +kernel
theorem dX8_mirrorIs_50 : decode cX8_mirrorIs 50 = .ok (.iaload, 1) := by decide +kernel
theorem dX8_mirrorIs_51 : decode cX8_mirrorIs 51 = .ok (.goto 37, 3) := by decide +kernel
theorem dX8_mirrorIs_54 : decode cX8_mirrorIs 54 = .ok (.iload_n 2, 1) := by decide +kernel
theorem dX8_mirrorIs_55 : decode cX8_mirrorIs 55 = .ok (.iconst 1, 1) := by decide +kernel
theorem dX8_mirrorIs_56 : decode cX8_mirrorIs 56 = .ok (.if_icmp .ne 12, 3) := by decide +kernel
theorem dX8_mirrorIs_59 : decode cX8_mirrorIs 59 = .ok (.aload_n 0, 1) := by decide +kernel
theorem dX8_mirrorIs_60 : decode cX8_mirrorIs 60 = .ok (.getfield 13, 3) := by decide +kernel
theorem dX8_mirrorIs_63 : decode cX8_mirrorIs 63 = .ok (.iload_n 1, 1) := by decide +kernel
theorem dX8_mirrorIs_64 : decode cX8_mirrorIs 64 = .ok (.iaload, 1) := by decide +kernel
theorem dX8_mirrorIs_65 : decode cX8_mirrorIs 65 = .ok (.goto 23, 3) := by decide +kernel
theorem dX8_mirrorIs_68 : decode cX8_mirrorIs 68 = .ok (.iload_n 2, 1) := by decide +kernel
theorem dX8_mirrorIs_69 : decode cX8_mirrorIs 69 = .ok (.iconst 2, 1) := by decide +kernel
theorem dX8_mirrorIs_70 : decode cX8_mirrorIs 70 = .ok (.if_icmp .ne 12, 3) := by decide +kernel
theorem dX8_mirrorIs_73 : decode cX8_mirrorIs 73 = .ok (.aload_n 0, 1) := by decide +kernel
theorem dX8_mirrorIs_74 : decode cX8_mirrorIs 74 = .ok (.getfield 16, 3) := by decide +kernel
theorem dX8_mirrorIs_77 : decode cX8_mirrorIs 77 = .ok (.iload_n 1, 1) := by decide +kernel
theorem dX8_mirrorIs_78 : decode cX8_mirrorIs 78 = .ok (.iaload, 1) := by decide +kernel
theorem dX8_mirrorIs_79 : decode cX8_mirrorIs 79 = .ok (.goto 9, 3) := by decide +kernel
theorem dX8_mirrorIs_82 : decode cX8_mirrorIs 82 = .ok (.aload_n 0, 1) := by decide +kernel
theorem dX8_mirrorIs_83 : decode cX8_mirrorIs 83 = .ok (.getfield 22, 3) := by decide +kernel
theorem dX8_mirrorIs_86 : decode cX8_mirrorIs 86 = .ok (.iload_n 1, 1) := by decide +kernel
theorem dX8_mirrorIs_87 : decode cX8_mirrorIs 87 = .ok (.iaload, 1) := by decide +kernel
theorem dX8_mirrorIs_88 : decode cX8_mirrorIs 88 = .ok (.ireturn, 1) := by decide +kernel
theorem dX8_mirrorIs_89 : decode cX8_mirrorIs 89 = .ok (.iload_n 2, 1) := by decide +kernel
theorem dX8_mirrorIs_90 : decode cX8_mirrorIs 90 = .ok (.iconst 4, 1) := by decide +kernel
theorem dX8_mirrorIs_91 : decode cX8_mirrorIs 91 = .ok (.if_icmp .ne 12, 3) := by decide +kernel
theorem dX8_mirrorIs_94 : decode cX8_mirrorIs 94 = .ok (.aload_n 0, 1) := by decide +kernel
theorem dX8_mirrorIs_95 : decode cX8_mirrorIs 95 = .ok (.getfield 25, 3) := by decide +kernel
theorem dX8_mirrorIs_98 : decode cX8_mirrorIs 98 = .ok (.iload_n 1, 1) := by decide +kernel
theorem dX8_mirrorIs_99 : decode cX8_mirrorIs 99 = .ok (.baload, 1) := by decide +kernel
theorem dX8_mirrorIs_100 : decode cX8_mirrorIs 100 = .ok (.goto 26, 3) := by decide +kernel
theorem dX8_mirrorIs_103 : decode cX8_mirrorIs 103 = .ok (.iload_n 2, 1) := by decide +kernel
theorem dX8_mirrorIs_104 : decode cX8_mirrorIs 104 = .ok (.iconst 5, 1) := by decide +kernel
theorem dX8_mirrorIs_105 : decode cX8_mirrorIs 105 = .ok (.if_icmp .ne 12, 3) := by decide +kernel
theorem dX8_mirrorIs_108 : decode cX8_mirrorIs 108 = .ok (.aload_n 0, 1) := by decide +kernel
theorem dX8_mirrorIs_109 : decode cX8_mirrorIs 109 = .ok (.iload_n 1, 1) := by decide +kernel
theorem dX8_mirrorIs_110 : decode cX8_mirrorIs 110 = .ok (.iconst 0, 1) := by decide +kernel
theorem dX8_mirrorIs_111 : decode cX8_mirrorIs 111 = .ok (.invokevirtual 120, 3) := by decide +kernel
theorem dX8_mirrorIs_114 : decode cX8_mirrorIs 114 = .ok (.goto 12, 3) := by decide +kernel
theorem dX8_mirrorIs_117 : decode cX8_mirrorIs 117 = .ok (.aload_n 0, 1) := by decide +kernel
theorem dX8_mirrorIs_118 : decode cX8_mirrorIs 118 = .ok (.iload_n 1, 1) := by decide +kernel
theorem dX8_mirrorIs_119 : decode cX8_mirrorIs 119 = .ok (.aload_n 0, 1) := by decide +kernel
theorem dX8_mirrorIs_120 : decode cX8_mirrorIs 120 = .ok (.getfield 108, 3) := by decide +kernel
theorem dX8_mirrorIs_123 : decode cX8_mirrorIs 123 = .ok (.invokevirtual 124, 3) := by decide +kernel
theorem dX8_mirrorIs_126 : decode cX8_mirrorIs 126 = .ok (.istore_n 3, 1) := by decide +kernel
theorem dX8_mirrorIs_127 : decode cX8_mirrorIs 127 = .ok (.iload_n 2, 1) := by decide +kernel
theorem dX8_mirrorIs_128 : decode cX8_mirrorIs 128 = .ok (.bipush 7, 2) := by decide +kernel
theorem dX8_mirrorIs_130 : decode cX8_mirrorIs 130 = .ok (.if_icmp .ne 11, 3) := by decide +kernel
theorem dX8_mirrorIs_133 : decode cX8_mirrorIs 133 = .ok (.aload_n 0, 1) := by decide +kernel
theorem dX8_mirrorIs_134 : decode cX8_mirrorIs 134 = .ok (.iload_n 1, 1) := by decide +kernel
theorem dX8_mirrorIs_135 : decode cX8_mirrorIs 135 = .ok (.invokevirtual 127, 3) := by decide +kernel
theorem dX8_mirrorIs_138 : decode cX8_mirrorIs 138 = .ok (.goto 12, 3) := by decide +kernel
theorem dX8_mirrorIs_141 : decode cX8_mirrorIs 141 = .ok (.iload_n 3, 1) := by decide +kernel
theorem dX8_mirrorIs_142 : decode cX8_mirrorIs 142 = .ok (.ifCond .eq 7, 3) := by decide +kernel
theorem dX8_mirrorIs_145 : decode cX8_mirrorIs 145 = .ok (.iconst 1, 1) := by decide +kernel
theorem dX8_mirrorIs_146 : decode cX8_mirrorIs 146 = .ok (.goto 4, 3) := by decide +kernel
theorem dX8_mirrorIs_149 : decode cX8_mirrorIs 149 = .ok (.iconst 0, 1) := by decide +kernel
theorem dX8_mirrorIs_150 : decode cX8_mirrorIs 150 = .ok (.ireturn, 1) := by decide +kernel
theorem dX8_strength_0 : decode cX8_strength 0 = .ok (.iload_n 0, 1) := by decide +kernel
theorem dX8_strength_1 : decode cX8_strength 1 = .ok (.bipush 24, 2) := by decide +kernel
theorem dX8_strength_3 : decode cX8_strength 3 = .ok (.irem, 1) := by decide +kernel
theorem dX8_strength_4 : decode cX8_strength 4 = .ok (.tableswitch 79 6 17 #[64, 66, 68, 70, 73, 76, 76, 73, 70, 68, 66, 64], 64) := by decide +kernel
theorem dX8_strength_68 : decode cX8_strength 68 = .ok (.iconst 1, 1) := by decide +kernel
theorem dX8_strength_69 : decode cX8_strength 69 = .ok (.ireturn, 1) := by decide +kernel
theorem dX8_strength_70 : decode cX8_strength 70 = .ok (.iconst 3, 1) := by decide +kernel
theorem dX8_strength_71 : decode cX8_strength 71 = .ok (.ireturn, 1) := by decide +kernel
theorem dX8_strength_72 : decode cX8_strength 72 = .ok (.iconst 5, 1) := by decide +kernel
theorem dX8_strength_73 : decode cX8_strength 73 = .ok (.ireturn, 1) := by decide +kernel
theorem dX8_strength_74 : decode cX8_strength 74 = .ok (.bipush 7, 2) := by decide +kernel
theorem dX8_strength_76 : decode cX8_strength 76 = .ok (.ireturn, 1) := by decide +kernel
theorem dX8_strength_77 : decode cX8_strength 77 = .ok (.bipush 9, 2) := by decide +kernel
theorem dX8_strength_79 : decode cX8_strength 79 = .ok (.ireturn, 1) := by decide +kernel
theorem dX8_strength_80 : decode cX8_strength 80 = .ok (.bipush 10, 2) := by decide +kernel
theorem dX8_strength_82 : decode cX8_strength 82 = .ok (.ireturn, 1) := by decide +kernel
theorem dX8_strength_83 : decode cX8_strength 83 = .ok (.iconst 0, 1) := by decide +kernel
theorem dX8_strength_84 : decode cX8_strength 84 = .ok (.ireturn, 1) := by decide +kernel
set_option maxRecDepth 20000 in
theorem ggX8_powerOf_X8_isCovered : GoodIn wsX8_powerOf wsX8_isCovered := goodIn_r _ [8, 9, 10, 11, 12, 13, 14, 15, 16, 17, 18, 7, 19, 39, 40, 41, 42, 43, 44, 45, 46, 47, 48, 49, 50, 51, 52, 53, 54, 55, 56, 57, 58, 59, 60, 61, 62, 63, 64, 65, 66, 67, 68, 69, 70, 71, 72, 73, 74, 75, 76, 77, 78] (by decide +kernel) (by decide +kernel)
set_option maxRecDepth 20000 in
theorem gX8_powerOf_X8_isCovered : GoodIn wsX8_powerOf (wsV RX8 120 RX8 yX8_isCovered wsX8_isCovered) := goodIn_app (goodIn_of _ (by decide +kernel)) ggX8_powerOf_X8_isCovered
set_option maxRecDepth 20000 in
theorem ggX8_powerOf_X8_isShaded : GoodIn wsX8_powerOf wsX8_isShaded := goodIn_r _ [23, 9, 24, 25, 26, 7, 27, 28, 29, 30, 31, 39, 40, 41, 42, 43, 44, 45, 46, 47, 48, 49, 50, 51, 52, 53, 54, 55, 56, 57, 58, 59, 60, 61, 62, 63, 64, 65, 66, 67, 68, 69, 70, 71, 72, 73, 74, 75, 76, 77, 78] (by decide +kernel) (by decide +kernel)
set_option maxRecDepth 20000 in
theorem gX8_powerOf_X8_isShaded : GoodIn wsX8_powerOf (wsV RX8 124 RX8 yX8_isShaded wsX8_isShaded) := goodIn_app (goodIn_of _ (by decide +kernel)) ggX8_powerOf_X8_isShaded
set_option maxRecDepth 20000 in
theorem ggX8_powerOf_X8_strength : GoodIn wsX8_powerOf wsX8_strength := goodIn_r _ [31] (by decide +kernel) (by decide +kernel)
set_option maxRecDepth 20000 in
theorem gX8_powerOf_X8_strength : GoodIn wsX8_powerOf (va_wsS RX8 111 yX8_strength wsX8_strength) := goodIn_app (goodIn_of _ (by decide +kernel)) ggX8_powerOf_X8_strength
set_option maxRecDepth 20000 in
theorem ggX8_powerOf_X8_held : GoodIn wsX8_powerOf wsX8_held := goodIn_r _ [34] (by decide +kernel) (by decide +kernel)
set_option maxRecDepth 20000 in
theorem gX8_powerOf_X8_held : GoodIn wsX8_powerOf (va_wsS RX8 100 yX8_held wsX8_held) := goodIn_app (goodIn_of _ (by decide +kernel)) ggX8_powerOf_X8_held
set_option maxRecDepth 20000 in
theorem ggX8_powerOf_X8_distance : GoodIn wsX8_powerOf wsX8_distance := goodIn_r _ [38, 9, 39, 40, 41, 42, 43, 44, 45, 46, 47, 48, 49, 50, 51, 52, 53, 54, 55, 56, 57, 58, 59, 60, 61, 62, 63, 64, 65, 66, 67, 68, 69, 70, 71, 72, 73, 74, 75, 76, 77, 78] (by decide +kernel) (by decide +kernel)
set_option maxRecDepth 20000 in
theorem gX8_powerOf_X8_distance : GoodIn wsX8_powerOf (wsV RX8 127 RX8 yX8_distance wsX8_distance) := goodIn_app (goodIn_of _ (by decide +kernel)) ggX8_powerOf_X8_distance
theorem dX8_powerOf_0 : decode cX8_powerOf 0 = .ok (.aload_n 0, 1) := by decide +kernel
theorem dX8_powerOf_1 : decode cX8_powerOf 1 = .ok (.getfield 108, 3) := by decide +kernel
theorem dX8_powerOf_4 : decode cX8_powerOf 4 = .ok (.iload_n 2, 1) := by decide +kernel
theorem dX8_powerOf_5 : decode cX8_powerOf 5 = .ok (.iadd, 1) := by decide +kernel
theorem dX8_powerOf_6 : decode cX8_powerOf 6 = .ok (.istore_n 3, 1) := by decide +kernel
theorem dX8_powerOf_7 : decode cX8_powerOf 7 = .ok (.aload_n 0, 1) := by decide +kernel
theorem dX8_powerOf_8 : decode cX8_powerOf 8 = .ok (.iload_n 1, 1) := by decide +kernel
theorem dX8_powerOf_9 : decode cX8_powerOf 9 = .ok (.iload_n 2, 1) := by decide +kernel
theorem dX8_powerOf_10 : decode cX8_powerOf 10 = .ok (.invokevirtual 120, 3) := by decide +kernel
theorem dX8_powerOf_13 : decode cX8_powerOf 13 = .ok (.ifCond .ne 12, 3) := by decide +kernel
theorem dX8_powerOf_16 : decode cX8_powerOf 16 = .ok (.aload_n 0, 1) := by decide +kernel
theorem dX8_powerOf_17 : decode cX8_powerOf 17 = .ok (.iload_n 1, 1) := by decide +kernel
theorem dX8_powerOf_18 : decode cX8_powerOf 18 = .ok (.iload_n 3, 1) := by decide +kernel
theorem dX8_powerOf_19 : decode cX8_powerOf 19 = .ok (.invokevirtual 124, 3) := by decide +kernel
theorem dX8_powerOf_22 : decode cX8_powerOf 22 = .ok (.ifCond .eq 5, 3) := by decide +kernel
theorem dX8_powerOf_25 : decode cX8_powerOf 25 = .ok (.iconst 0, 1) := by decide +kernel
theorem dX8_powerOf_26 : decode cX8_powerOf 26 = .ok (.ireturn, 1) := by decide +kernel
theorem dX8_powerOf_27 : decode cX8_powerOf 27 = .ok (.iload_n 3, 1) := by decide +kernel
theorem dX8_powerOf_28 : decode cX8_powerOf 28 = .ok (.bipush 24, 2) := by decide +kernel
theorem dX8_powerOf_30 : decode cX8_powerOf 30 = .ok (.idiv, 1) := by decide +kernel
theorem dX8_powerOf_31 : decode cX8_powerOf 31 = .ok (.aload_n 0, 1) := by decide +kernel
theorem dX8_powerOf_32 : decode cX8_powerOf 32 = .ok (.getfield 108, 3) := by decide +kernel
theorem dX8_powerOf_35 : decode cX8_powerOf 35 = .ok (.bipush 24, 2) := by decide +kernel
theorem dX8_powerOf_37 : decode cX8_powerOf 37 = .ok (.idiv, 1) := by decide +kernel
theorem dX8_powerOf_38 : decode cX8_powerOf 38 = .ok (.isub, 1) := by decide +kernel
theorem dX8_powerOf_39 : decode cX8_powerOf 39 = .ok (.istore 4, 2) := by decide +kernel
theorem dX8_powerOf_41 : decode cX8_powerOf 41 = .ok (.iload_n 3, 1) := by decide +kernel
theorem dX8_powerOf_42 : decode cX8_powerOf 42 = .ok (.invokestatic 111, 3) := by decide +kernel
theorem dX8_powerOf_45 : decode cX8_powerOf 45 = .ok (.bipush 10, 2) := by decide +kernel
theorem dX8_powerOf_47 : decode cX8_powerOf 47 = .ok (.aload_n 0, 1) := by decide +kernel
theorem dX8_powerOf_48 : decode cX8_powerOf 48 = .ok (.getfield 130, 3) := by decide +kernel
theorem dX8_powerOf_51 : decode cX8_powerOf 51 = .ok (.isub, 1) := by decide +kernel
theorem dX8_powerOf_52 : decode cX8_powerOf 52 = .ok (.imul, 1) := by decide +kernel
theorem dX8_powerOf_53 : decode cX8_powerOf 53 = .ok (.bipush 10, 2) := by decide +kernel
theorem dX8_powerOf_55 : decode cX8_powerOf 55 = .ok (.aload_n 0, 1) := by decide +kernel
theorem dX8_powerOf_56 : decode cX8_powerOf 56 = .ok (.getfield 13, 3) := by decide +kernel
theorem dX8_powerOf_59 : decode cX8_powerOf 59 = .ok (.iload_n 1, 1) := by decide +kernel
theorem dX8_powerOf_60 : decode cX8_powerOf 60 = .ok (.iaload, 1) := by decide +kernel
theorem dX8_powerOf_61 : decode cX8_powerOf 61 = .ok (.iload 4, 2) := by decide +kernel
theorem dX8_powerOf_63 : decode cX8_powerOf 63 = .ok (.iadd, 1) := by decide +kernel
theorem dX8_powerOf_64 : decode cX8_powerOf 64 = .ok (.iconst 0, 1) := by decide +kernel
theorem dX8_powerOf_65 : decode cX8_powerOf 65 = .ok (.bipush 9, 2) := by decide +kernel
theorem dX8_powerOf_67 : decode cX8_powerOf 67 = .ok (.invokestatic 100, 3) := by decide +kernel
theorem dX8_powerOf_70 : decode cX8_powerOf 70 = .ok (.isub, 1) := by decide +kernel
theorem dX8_powerOf_71 : decode cX8_powerOf 71 = .ok (.imul, 1) := by decide +kernel
theorem dX8_powerOf_72 : decode cX8_powerOf 72 = .ok (.bipush 20, 2) := by decide +kernel
theorem dX8_powerOf_74 : decode cX8_powerOf 74 = .ok (.aload_n 0, 1) := by decide +kernel
theorem dX8_powerOf_75 : decode cX8_powerOf 75 = .ok (.iload_n 1, 1) := by decide +kernel
theorem dX8_powerOf_76 : decode cX8_powerOf 76 = .ok (.invokevirtual 127, 3) := by decide +kernel
theorem dX8_powerOf_79 : decode cX8_powerOf 79 = .ok (.isub, 1) := by decide +kernel
theorem dX8_powerOf_80 : decode cX8_powerOf 80 = .ok (.imul, 1) := by decide +kernel
theorem dX8_powerOf_81 : decode cX8_powerOf 81 = .ok (.bipush 20, 2) := by decide +kernel
theorem dX8_powerOf_83 : decode cX8_powerOf 83 = .ok (.idiv, 1) := by decide +kernel
theorem dX8_powerOf_84 : decode cX8_powerOf 84 = .ok (.ireturn, 1) := by decide +kernel
set_option maxRecDepth 20000 in
theorem ggX8_power_X8_isMirror : GoodIn wsX8_power wsX8_isMirror := goodIn_r _ [5, 6, 7, 8, 4, 9, 52, 53, 54, 55, 56, 57, 58, 59, 60, 61, 62, 63, 64, 65, 66, 67, 68, 69, 70, 71, 72, 73, 74, 75, 76, 77, 78, 79, 80, 81, 82, 83, 84, 85, 86, 87, 88, 89, 90, 91] (by decide +kernel) (by decide +kernel)
set_option maxRecDepth 20000 in
theorem gX8_power_X8_isMirror : GoodIn wsX8_power (wsV RX8 97 RX8 yX8_isMirror wsX8_isMirror) := goodIn_app (goodIn_of _ (by decide +kernel)) ggX8_power_X8_isMirror
set_option maxRecDepth 20000 in
theorem ggX8_power_X8_isIn : GoodIn wsX8_power wsX8_isIn := goodIn_r _ [9] (by decide +kernel) (by decide +kernel)
set_option maxRecDepth 20000 in
theorem gX8_power_X8_isIn : GoodIn wsX8_power (va_wsS RX8 85 yX8_isIn wsX8_isIn) := goodIn_app (goodIn_of _ (by decide +kernel)) ggX8_power_X8_isIn
set_option maxRecDepth 20000 in
theorem ggX8_power_X8_holds : GoodIn wsX8_power wsX8_holds := goodIn_r _ [13, 14, 52, 53, 54, 55, 56, 57, 58, 59, 60, 61, 62, 63, 64, 65, 66, 67, 68, 69, 70, 71, 72, 73, 74, 75, 76, 77, 78, 79, 80, 81, 82, 83, 84, 85, 86, 87, 88, 89, 90, 91] (by decide +kernel) (by decide +kernel)
set_option maxRecDepth 20000 in
theorem gX8_power_X8_holds : GoodIn wsX8_power (wsV RX8 93 RX8 yX8_holds wsX8_holds) := goodIn_app (goodIn_of _ (by decide +kernel)) ggX8_power_X8_holds
set_option maxRecDepth 20000 in
theorem ggX8_power_X8_powerOf : GoodIn wsX8_power wsX8_powerOf := goodIn_r _ [18, 19, 20, 21, 22, 23, 24, 4, 25, 26, 27, 28, 29, 30, 31, 32, 33, 7, 8, 9, 34, 35, 36, 37, 38, 39, 40, 41, 6, 42, 43, 44, 45, 46, 47, 48, 49, 50, 51, 52, 53, 54, 55, 56, 57, 58, 59, 60, 61, 62, 63, 64, 65, 66, 67, 68, 69, 70, 71, 72, 73, 74, 75, 76, 77, 78, 79, 80, 81, 82, 83, 84, 85, 86, 87, 88, 89, 90, 91] (by decide +kernel) (by decide +kernel)
set_option maxRecDepth 20000 in
theorem gX8_power_X8_powerOf : GoodIn wsX8_power (wsV RX8 104 RX8 yX8_powerOf wsX8_powerOf) := goodIn_app (goodIn_of _ (by decide +kernel)) ggX8_power_X8_powerOf
theorem dX8_power_0 : decode cX8_power 0 = .ok (.aload_n 0, 1) := by decide +kernel
theorem dX8_power_1 : decode cX8_power 1 = .ok (.aload_n 0, 1) := by decide +kernel
theorem dX8_power_2 : decode cX8_power 2 = .ok (.iload_n 1, 1) := by decide +kernel
theorem dX8_power_3 : decode cX8_power 3 = .ok (.invokevirtual 97, 3) := by decide +kernel
theorem dX8_power_6 : decode cX8_power 6 = .ok (.ifCond .ne 7, 3) := by decide +kernel
theorem dX8_power_9 : decode cX8_power 9 = .ok (.iconst 1, 1) := by decide +kernel
theorem dX8_power_10 : decode cX8_power 10 = .ok (.goto 18, 3) := by decide +kernel
theorem dX8_power_13 : decode cX8_power 13 = .ok (.iload_n 2, 1) := by decide +kernel
theorem dX8_power_14 : decode cX8_power 14 = .ok (.iconst 0, 1) := by decide +kernel
theorem dX8_power_15 : decode cX8_power 15 = .ok (.bipush 24, 2) := by decide +kernel
theorem dX8_power_17 : decode cX8_power 17 = .ok (.invokestatic 85, 3) := by decide +kernel
theorem dX8_power_20 : decode cX8_power 20 = .ok (.ifCond .eq 7, 3) := by decide +kernel
theorem dX8_power_23 : decode cX8_power 23 = .ok (.iconst 0, 1) := by decide +kernel
theorem dX8_power_24 : decode cX8_power 24 = .ok (.goto 4, 3) := by decide +kernel
theorem dX8_power_27 : decode cX8_power 27 = .ok (.iconst 2, 1) := by decide +kernel
theorem dX8_power_28 : decode cX8_power 28 = .ok (.invokevirtual 93, 3) := by decide +kernel
theorem dX8_power_31 : decode cX8_power 31 = .ok (.ifCond .eq 12, 3) := by decide +kernel
theorem dX8_power_34 : decode cX8_power 34 = .ok (.aload_n 0, 1) := by decide +kernel
theorem dX8_power_35 : decode cX8_power 35 = .ok (.iload_n 1, 1) := by decide +kernel
theorem dX8_power_36 : decode cX8_power 36 = .ok (.iload_n 2, 1) := by decide +kernel
theorem dX8_power_37 : decode cX8_power 37 = .ok (.invokevirtual 104, 3) := by decide +kernel
theorem dX8_power_40 : decode cX8_power 40 = .ok (.goto 4, 3) := by decide +kernel
theorem dX8_power_43 : decode cX8_power 43 = .ok (.iconst 0, 1) := by decide +kernel
theorem dX8_power_44 : decode cX8_power 44 = .ok (.ireturn, 1) := by decide +kernel
set_option maxRecDepth 20000 in
theorem ggX8_haze_X8_isIn : GoodIn wsX8_haze wsX8_isIn := goodIn_r _ [5] (by decide +kernel) (by decide +kernel)
set_option maxRecDepth 20000 in
theorem gX8_haze_X8_isIn : GoodIn wsX8_haze (va_wsS RX8 85 yX8_isIn wsX8_isIn) := goodIn_app (goodIn_of _ (by decide +kernel)) ggX8_haze_X8_isIn
set_option maxRecDepth 20000 in
theorem ggX8_haze_X8_holds : GoodIn wsX8_haze wsX8_holds := goodIn_r _ [9, 10, 11, 12, 13, 14, 15, 16, 17, 18, 19, 20, 21, 22, 23, 24, 25, 26, 27, 28, 29, 30, 31, 32, 33, 34, 35, 36, 37, 38, 39, 40, 41, 42, 43, 44, 45, 46, 47, 48, 49, 50] (by decide +kernel) (by decide +kernel)
set_option maxRecDepth 20000 in
theorem gX8_haze_X8_holds : GoodIn wsX8_haze (wsV RX8 93 RX8 yX8_holds wsX8_holds) := goodIn_app (goodIn_of _ (by decide +kernel)) ggX8_haze_X8_holds
theorem dX8_haze_0 : decode cX8_haze 0 = .ok (.aload_n 0, 1) := by decide +kernel
theorem dX8_haze_1 : decode cX8_haze 1 = .ok (.iload_n 1, 1) := by decide +kernel
theorem dX8_haze_2 : decode cX8_haze 2 = .ok (.iconst 0, 1) := by decide +kernel
theorem dX8_haze_3 : decode cX8_haze 3 = .ok (.bipush 9, 2) := by decide +kernel
theorem dX8_haze_5 : decode cX8_haze 5 = .ok (.invokestatic 85, 3) := by decide +kernel
theorem dX8_haze_8 : decode cX8_haze 8 = .ok (.ifCond .eq 7, 3) := by decide +kernel
theorem dX8_haze_11 : decode cX8_haze 11 = .ok (.iconst 0, 1) := by decide +kernel
theorem dX8_haze_12 : decode cX8_haze 12 = .ok (.goto 4, 3) := by decide +kernel
theorem dX8_haze_15 : decode cX8_haze 15 = .ok (.iconst 1, 1) := by decide +kernel
theorem dX8_haze_16 : decode cX8_haze 16 = .ok (.invokevirtual 93, 3) := by decide +kernel
theorem dX8_haze_19 : decode cX8_haze 19 = .ok (.ifCond .ne 5, 3) := by decide +kernel
theorem dX8_haze_22 : decode cX8_haze 22 = .ok (.iconst 0, 1) := by decide +kernel
theorem dX8_haze_23 : decode cX8_haze 23 = .ok (.ireturn, 1) := by decide +kernel
theorem dX8_haze_24 : decode cX8_haze 24 = .ok (.aload_n 0, 1) := by decide +kernel
theorem dX8_haze_25 : decode cX8_haze 25 = .ok (.getfield 130, 3) := by decide +kernel
theorem dX8_haze_28 : decode cX8_haze 28 = .ok (.istore_n 2, 1) := by decide +kernel
theorem dX8_haze_29 : decode cX8_haze 29 = .ok (.aload_n 0, 1) := by decide +kernel
theorem dX8_haze_30 : decode cX8_haze 30 = .ok (.iload_n 1, 1) := by decide +kernel
theorem dX8_haze_31 : decode cX8_haze 31 = .ok (.putfield 130, 3) := by decide +kernel
theorem dX8_haze_34 : decode cX8_haze 34 = .ok (.iload_n 2, 1) := by decide +kernel
theorem dX8_haze_35 : decode cX8_haze 35 = .ok (.ireturn, 1) := by decide +kernel
set_option maxRecDepth 20000 in
theorem ggX8_cloud_X8_isIn : GoodIn wsX8_cloud wsX8_isIn := goodIn_r _ [11] (by decide +kernel) (by decide +kernel)
set_option maxRecDepth 20000 in
theorem gX8_cloud_X8_isIn : GoodIn wsX8_cloud (va_wsS RX8 85 yX8_isIn wsX8_isIn) := goodIn_app (goodIn_of _ (by decide +kernel)) ggX8_cloud_X8_isIn
set_option maxRecDepth 20000 in
theorem ggX8_cloud_X8_holds : GoodIn wsX8_cloud wsX8_holds := goodIn_r _ [15, 16, 17, 18, 19, 20, 21, 22, 23, 24, 25, 26, 27, 28, 29, 30, 31, 32, 33, 34, 35, 36, 37, 38, 39, 40, 41, 42, 43, 44, 45, 46, 47, 48, 49, 50, 51, 52, 53, 54, 55, 56] (by decide +kernel) (by decide +kernel)
set_option maxRecDepth 20000 in
theorem gX8_cloud_X8_holds : GoodIn wsX8_cloud (wsV RX8 93 RX8 yX8_holds wsX8_holds) := goodIn_app (goodIn_of _ (by decide +kernel)) ggX8_cloud_X8_holds
theorem dX8_cloud_0 : decode cX8_cloud 0 = .ok (.iload_n 1, 1) := by decide +kernel
theorem dX8_cloud_1 : decode cX8_cloud 1 = .ok (.bipush (-16), 2) := by decide +kernel
theorem dX8_cloud_3 : decode cX8_cloud 3 = .ok (.bipush 16, 2) := by decide +kernel
theorem dX8_cloud_5 : decode cX8_cloud 5 = .ok (.invokestatic 85, 3) := by decide +kernel
theorem dX8_cloud_8 : decode cX8_cloud 8 = .ok (.ifCond .eq 59, 3) := by decide +kernel
theorem dX8_cloud_11 : decode cX8_cloud 11 = .ok (.iload_n 2, 1) := by decide +kernel
theorem dX8_cloud_12 : decode cX8_cloud 12 = .ok (.bipush (-16), 2) := by decide +kernel
theorem dX8_cloud_14 : decode cX8_cloud 14 = .ok (.bipush 16, 2) := by decide +kernel
theorem dX8_cloud_16 : decode cX8_cloud 16 = .ok (.invokestatic 85, 3) := by decide +kernel
theorem dX8_cloud_19 : decode cX8_cloud 19 = .ok (.ifCond .eq 48, 3) := by decide +kernel
theorem dX8_cloud_22 : decode cX8_cloud 22 = .ok (.iload_n 3, 1) := by decide +kernel
theorem dX8_cloud_23 : decode cX8_cloud 23 = .ok (.iconst 1, 1) := by decide +kernel
theorem dX8_cloud_24 : decode cX8_cloud 24 = .ok (.bipush 8, 2) := by decide +kernel
theorem dX8_cloud_26 : decode cX8_cloud 26 = .ok (.invokestatic 85, 3) := by decide +kernel
theorem dX8_cloud_29 : decode cX8_cloud 29 = .ok (.ifCond .eq 38, 3) := by decide +kernel
theorem dX8_cloud_32 : decode cX8_cloud 32 = .ok (.iload 4, 2) := by decide +kernel
theorem dX8_cloud_34 : decode cX8_cloud 34 = .ok (.iconst 1, 1) := by decide +kernel
theorem dX8_cloud_35 : decode cX8_cloud 35 = .ok (.bipush 8, 2) := by decide +kernel
theorem dX8_cloud_37 : decode cX8_cloud 37 = .ok (.invokestatic 85, 3) := by decide +kernel
theorem dX8_cloud_40 : decode cX8_cloud 40 = .ok (.ifCond .eq 27, 3) := by decide +kernel
theorem dX8_cloud_43 : decode cX8_cloud 43 = .ok (.iload 5, 2) := by decide +kernel
theorem dX8_cloud_45 : decode cX8_cloud 45 = .ok (.iconst (-1), 1) := by decide +kernel
theorem dX8_cloud_46 : decode cX8_cloud 46 = .ok (.iconst 1, 1) := by decide +kernel
theorem dX8_cloud_47 : decode cX8_cloud 47 = .ok (.invokestatic 85, 3) := by decide +kernel
theorem dX8_cloud_50 : decode cX8_cloud 50 = .ok (.ifCond .eq 17, 3) := by decide +kernel
theorem dX8_cloud_53 : decode cX8_cloud 53 = .ok (.iload 6, 2) := by decide +kernel
theorem dX8_cloud_55 : decode cX8_cloud 55 = .ok (.iconst (-1), 1) := by decide +kernel
theorem dX8_cloud_56 : decode cX8_cloud 56 = .ok (.iconst 1, 1) := by decide +kernel
theorem dX8_cloud_57 : decode cX8_cloud 57 = .ok (.invokestatic 85, 3) := by decide +kernel
theorem dX8_cloud_60 : decode cX8_cloud 60 = .ok (.ifCond .eq 7, 3) := by decide +kernel
theorem dX8_cloud_63 : decode cX8_cloud 63 = .ok (.iconst 1, 1) := by decide +kernel
theorem dX8_cloud_64 : decode cX8_cloud 64 = .ok (.goto 4, 3) := by decide +kernel
theorem dX8_cloud_67 : decode cX8_cloud 67 = .ok (.iconst 0, 1) := by decide +kernel
theorem dX8_cloud_68 : decode cX8_cloud 68 = .ok (.istore 7, 2) := by decide +kernel
theorem dX8_cloud_70 : decode cX8_cloud 70 = .ok (.aload_n 0, 1) := by decide +kernel
theorem dX8_cloud_71 : decode cX8_cloud 71 = .ok (.iload 7, 2) := by decide +kernel
theorem dX8_cloud_73 : decode cX8_cloud 73 = .ok (.ifCond .ne 7, 3) := by decide +kernel
theorem dX8_cloud_76 : decode cX8_cloud 76 = .ok (.iconst 1, 1) := by decide +kernel
theorem dX8_cloud_77 : decode cX8_cloud 77 = .ok (.goto 16, 3) := by decide +kernel
theorem dX8_cloud_80 : decode cX8_cloud 80 = .ok (.aload_n 0, 1) := by decide +kernel
theorem dX8_cloud_81 : decode cX8_cloud 81 = .ok (.getfield 117, 3) := by decide +kernel
theorem dX8_cloud_84 : decode cX8_cloud 84 = .ok (.iconst 4, 1) := by decide +kernel
theorem dX8_cloud_85 : decode cX8_cloud 85 = .ok (.if_icmp .ne 7, 3) := by decide +kernel
theorem dX8_cloud_88 : decode cX8_cloud 88 = .ok (.iconst 2, 1) := by decide +kernel
theorem dX8_cloud_89 : decode cX8_cloud 89 = .ok (.goto 4, 3) := by decide +kernel
theorem dX8_cloud_92 : decode cX8_cloud 92 = .ok (.iconst 0, 1) := by decide +kernel
theorem dX8_cloud_93 : decode cX8_cloud 93 = .ok (.invokevirtual 93, 3) := by decide +kernel
theorem dX8_cloud_96 : decode cX8_cloud 96 = .ok (.ifCond .ne 5, 3) := by decide +kernel
theorem dX8_cloud_99 : decode cX8_cloud 99 = .ok (.iconst 0, 1) := by decide +kernel
theorem dX8_cloud_100 : decode cX8_cloud 100 = .ok (.ireturn, 1) := by decide +kernel
theorem dX8_cloud_101 : decode cX8_cloud 101 = .ok (.aload_n 0, 1) := by decide +kernel
theorem dX8_cloud_102 : decode cX8_cloud 102 = .ok (.getfield 29, 3) := by decide +kernel
theorem dX8_cloud_105 : decode cX8_cloud 105 = .ok (.aload_n 0, 1) := by decide +kernel
theorem dX8_cloud_106 : decode cX8_cloud 106 = .ok (.getfield 117, 3) := by decide +kernel
theorem dX8_cloud_109 : decode cX8_cloud 109 = .ok (.iload_n 1, 1) := by decide +kernel
theorem dX8_cloud_110 : decode cX8_cloud 110 = .ok (.iastore, 1) := by decide +kernel
theorem dX8_cloud_111 : decode cX8_cloud 111 = .ok (.aload_n 0, 1) := by decide +kernel
theorem dX8_cloud_112 : decode cX8_cloud 112 = .ok (.getfield 32, 3) := by decide +kernel
theorem dX8_cloud_115 : decode cX8_cloud 115 = .ok (.aload_n 0, 1) := by decide +kernel
theorem dX8_cloud_116 : decode cX8_cloud 116 = .ok (.getfield 117, 3) := by decide +kernel
theorem dX8_cloud_119 : decode cX8_cloud 119 = .ok (.iload_n 2, 1) := by decide +kernel
theorem dX8_cloud_120 : decode cX8_cloud 120 = .ok (.iastore, 1) := by decide +kernel
theorem dX8_cloud_121 : decode cX8_cloud 121 = .ok (.aload_n 0, 1) := by decide +kernel
theorem dX8_cloud_122 : decode cX8_cloud 122 = .ok (.getfield 35, 3) := by decide +kernel
theorem dX8_cloud_125 : decode cX8_cloud 125 = .ok (.aload_n 0, 1) := by decide +kernel
theorem dX8_cloud_126 : decode cX8_cloud 126 = .ok (.getfield 117, 3) := by decide +kernel
theorem dX8_cloud_129 : decode cX8_cloud 129 = .ok (.iload_n 3, 1) := by decide +kernel
theorem dX8_cloud_130 : decode cX8_cloud 130 = .ok (.iastore, 1) := by decide +kernel
theorem dX8_cloud_131 : decode cX8_cloud 131 = .ok (.aload_n 0, 1) := by decide +kernel
theorem dX8_cloud_132 : decode cX8_cloud 132 = .ok (.getfield 38, 3) := by decide +kernel
theorem dX8_cloud_135 : decode cX8_cloud 135 = .ok (.aload_n 0, 1) := by decide +kernel
theorem dX8_cloud_136 : decode cX8_cloud 136 = .ok (.getfield 117, 3) := by decide +kernel
theorem dX8_cloud_139 : decode cX8_cloud 139 = .ok (.iload 4, 2) := by decide +kernel
theorem dX8_cloud_141 : decode cX8_cloud 141 = .ok (.iastore, 1) := by decide +kernel
theorem dX8_cloud_142 : decode cX8_cloud 142 = .ok (.aload_n 0, 1) := by decide +kernel
theorem dX8_cloud_143 : decode cX8_cloud 143 = .ok (.getfield 41, 3) := by decide +kernel
theorem dX8_cloud_146 : decode cX8_cloud 146 = .ok (.aload_n 0, 1) := by decide +kernel
theorem dX8_cloud_147 : decode cX8_cloud 147 = .ok (.getfield 117, 3) := by decide +kernel
theorem dX8_cloud_150 : decode cX8_cloud 150 = .ok (.iload 5, 2) := by decide +kernel
theorem dX8_cloud_152 : decode cX8_cloud 152 = .ok (.iastore, 1) := by decide +kernel
theorem dX8_cloud_153 : decode cX8_cloud 153 = .ok (.aload_n 0, 1) := by decide +kernel
theorem dX8_cloud_154 : decode cX8_cloud 154 = .ok (.getfield 44, 3) := by decide +kernel
theorem dX8_cloud_157 : decode cX8_cloud 157 = .ok (.aload_n 0, 1) := by decide +kernel
theorem dX8_cloud_158 : decode cX8_cloud 158 = .ok (.getfield 117, 3) := by decide +kernel
theorem dX8_cloud_161 : decode cX8_cloud 161 = .ok (.iload 6, 2) := by decide +kernel
theorem dX8_cloud_163 : decode cX8_cloud 163 = .ok (.iastore, 1) := by decide +kernel
theorem dX8_cloud_164 : decode cX8_cloud 164 = .ok (.aload_n 0, 1) := by decide +kernel
theorem dX8_cloud_165 : decode cX8_cloud 165 = .ok (.dup, 1) := by decide +kernel
theorem dX8_cloud_166 : decode cX8_cloud 166 = .ok (.getfield 117, 3) := by decide +kernel
theorem dX8_cloud_169 : decode cX8_cloud 169 = .ok (.iconst 1, 1) := by decide +kernel
theorem dX8_cloud_170 : decode cX8_cloud 170 = .ok (.iadd, 1) := by decide +kernel
theorem dX8_cloud_171 : decode cX8_cloud 171 = .ok (.putfield 117, 3) := by decide +kernel
theorem dX8_cloud_174 : decode cX8_cloud 174 = .ok (.aload_n 0, 1) := by decide +kernel
theorem dX8_cloud_175 : decode cX8_cloud 175 = .ok (.getfield 117, 3) := by decide +kernel
theorem dX8_cloud_178 : decode cX8_cloud 178 = .ok (.ireturn, 1) := by decide +kernel
theorem dX8_clear_0 : decode cX8_clear 0 = .ok (.aload_n 0, 1) := by decide +kernel
theorem dX8_clear_1 : decode cX8_clear 1 = .ok (.iconst 0, 1) := by decide +kernel
theorem dX8_clear_2 : decode cX8_clear 2 = .ok (.putfield 79, 3) := by decide +kernel
theorem dX8_clear_5 : decode cX8_clear 5 = .ok (.aload_n 0, 1) := by decide +kernel
theorem dX8_clear_6 : decode cX8_clear 6 = .ok (.getfield 117, 3) := by decide +kernel
theorem dX8_clear_9 : decode cX8_clear 9 = .ok (.istore_n 1, 1) := by decide +kernel
theorem dX8_clear_10 : decode cX8_clear 10 = .ok (.aload_n 0, 1) := by decide +kernel
theorem dX8_clear_11 : decode cX8_clear 11 = .ok (.iconst 0, 1) := by decide +kernel
theorem dX8_clear_12 : decode cX8_clear 12 = .ok (.putfield 117, 3) := by decide +kernel
theorem dX8_clear_15 : decode cX8_clear 15 = .ok (.iload_n 1, 1) := by decide +kernel
theorem dX8_clear_16 : decode cX8_clear 16 = .ok (.ireturn, 1) := by decide +kernel
set_option maxRecDepth 20000 in
theorem ggX8_bound_X8_isPanel : GoodIn wsX8_bound wsX8_isPanel := goodIn_r _ [5, 6, 7, 4, 8] (by decide +kernel) (by decide +kernel)
set_option maxRecDepth 20000 in
theorem gX8_bound_X8_isPanel : GoodIn wsX8_bound (va_wsS RX8 133 yX8_isPanel wsX8_isPanel) := goodIn_app (goodIn_of _ (by decide +kernel)) ggX8_bound_X8_isPanel
set_option maxRecDepth 20000 in
theorem ggX8_bound_X8_isIn : GoodIn wsX8_bound wsX8_isIn := goodIn_r _ [8] (by decide +kernel) (by decide +kernel)
set_option maxRecDepth 20000 in
theorem gX8_bound_X8_isIn : GoodIn wsX8_bound (va_wsS RX8 85 yX8_isIn wsX8_isIn) := goodIn_app (goodIn_of _ (by decide +kernel)) ggX8_bound_X8_isIn
set_option maxRecDepth 20000 in
theorem ggX8_bound_X8_holds : GoodIn wsX8_bound wsX8_holds := goodIn_r _ [12, 13, 14, 15, 16, 17, 18, 19, 20, 21, 22, 23, 24, 25, 26, 27, 28, 29, 30, 31, 32, 33, 34, 35, 36, 37, 38, 39, 40, 41, 42, 43, 44, 45, 46, 47, 48, 49, 50, 51, 52, 53] (by decide +kernel) (by decide +kernel)
set_option maxRecDepth 20000 in
theorem gX8_bound_X8_holds : GoodIn wsX8_bound (wsV RX8 93 RX8 yX8_holds wsX8_holds) := goodIn_app (goodIn_of _ (by decide +kernel)) ggX8_bound_X8_holds
theorem dX8_bound_0 : decode cX8_bound 0 = .ok (.aload_n 0, 1) := by decide +kernel
theorem dX8_bound_1 : decode cX8_bound 1 = .ok (.iload_n 1, 1) := by decide +kernel
theorem dX8_bound_2 : decode cX8_bound 2 = .ok (.invokestatic 133, 3) := by decide +kernel
theorem dX8_bound_5 : decode cX8_bound 5 = .ok (.ifCond .ne 7, 3) := by decide +kernel
theorem dX8_bound_8 : decode cX8_bound 8 = .ok (.iconst 1, 1) := by decide +kernel
theorem dX8_bound_9 : decode cX8_bound 9 = .ok (.goto 19, 3) := by decide +kernel
theorem dX8_bound_12 : decode cX8_bound 12 = .ok (.iload_n 2, 1) := by decide +kernel
theorem dX8_bound_13 : decode cX8_bound 13 = .ok (.iconst 0, 1) := by decide +kernel
theorem dX8_bound_14 : decode cX8_bound 14 = .ok (.sipush 9999, 3) := by decide +kernel
theorem dX8_bound_17 : decode cX8_bound 17 = .ok (.invokestatic 85, 3) := by decide +kernel
theorem dX8_bound_20 : decode cX8_bound 20 = .ok (.ifCond .eq 7, 3) := by decide +kernel
theorem dX8_bound_23 : decode cX8_bound 23 = .ok (.iconst 0, 1) := by decide +kernel
theorem dX8_bound_24 : decode cX8_bound 24 = .ok (.goto 4, 3) := by decide +kernel
theorem dX8_bound_27 : decode cX8_bound 27 = .ok (.iconst 2, 1) := by decide +kernel
theorem dX8_bound_28 : decode cX8_bound 28 = .ok (.invokevirtual 93, 3) := by decide +kernel
theorem dX8_bound_31 : decode cX8_bound 31 = .ok (.ifCond .ne 5, 3) := by decide +kernel
theorem dX8_bound_34 : decode cX8_bound 34 = .ok (.iconst 0, 1) := by decide +kernel
theorem dX8_bound_35 : decode cX8_bound 35 = .ok (.ireturn, 1) := by decide +kernel
theorem dX8_bound_36 : decode cX8_bound 36 = .ok (.aload_n 0, 1) := by decide +kernel
theorem dX8_bound_37 : decode cX8_bound 37 = .ok (.getfield 47, 3) := by decide +kernel
theorem dX8_bound_40 : decode cX8_bound 40 = .ok (.iload_n 1, 1) := by decide +kernel
theorem dX8_bound_41 : decode cX8_bound 41 = .ok (.iaload, 1) := by decide +kernel
theorem dX8_bound_42 : decode cX8_bound 42 = .ok (.istore_n 3, 1) := by decide +kernel
theorem dX8_bound_43 : decode cX8_bound 43 = .ok (.aload_n 0, 1) := by decide +kernel
theorem dX8_bound_44 : decode cX8_bound 44 = .ok (.getfield 47, 3) := by decide +kernel
theorem dX8_bound_47 : decode cX8_bound 47 = .ok (.iload_n 1, 1) := by decide +kernel
theorem dX8_bound_48 : decode cX8_bound 48 = .ok (.iload_n 2, 1) := by decide +kernel
theorem dX8_bound_49 : decode cX8_bound 49 = .ok (.iastore, 1) := by decide +kernel
theorem dX8_bound_50 : decode cX8_bound 50 = .ok (.iload_n 3, 1) := by decide +kernel
theorem dX8_bound_51 : decode cX8_bound 51 = .ok (.ireturn, 1) := by decide +kernel
set_option maxRecDepth 20000 in
theorem ggX8_laysRays_X8_powerOf : GoodIn wsX8_laysRays wsX8_powerOf := goodIn_r _ [7, 8, 9, 10, 11, 12, 13, 6, 14, 15, 16, 17, 18, 19, 20, 21, 22, 23, 24, 25, 26, 27, 28, 29, 30, 31, 32, 33, 1, 34, 35, 36, 37, 38, 39, 40, 41, 42, 43, 44, 45, 46, 47, 48, 49, 50, 51, 52, 53, 54, 55, 56, 57, 58, 59, 60, 61, 62, 63, 64, 65, 66, 67, 68, 69, 70, 71, 72, 73, 74, 75, 76, 77, 78, 79, 80, 81, 82, 83] (by decide +kernel) (by decide +kernel)
set_option maxRecDepth 20000 in
theorem gX8_laysRays_X8_powerOf : GoodIn wsX8_laysRays (wsV RX8 104 RX8 yX8_powerOf wsX8_powerOf) := goodIn_app (goodIn_of _ (by decide +kernel)) ggX8_laysRays_X8_powerOf
theorem dX8_laysRays_0 : decode cX8_laysRays 0 = .ok (.iconst 0, 1) := by decide +kernel
theorem dX8_laysRays_1 : decode cX8_laysRays 1 = .ok (.istore_n 1, 1) := by decide +kernel
theorem dX8_laysRays_2 : decode cX8_laysRays 2 = .ok (.iload_n 1, 1) := by decide +kernel
theorem dX8_laysRays_3 : decode cX8_laysRays 3 = .ok (.aload_n 0, 1) := by decide +kernel
theorem dX8_laysRays_4 : decode cX8_laysRays 4 = .ok (.getfield 82, 3) := by decide +kernel
theorem dX8_laysRays_7 : decode cX8_laysRays 7 = .ok (.if_icmp .ge 24, 3) := by decide +kernel
theorem dX8_laysRays_10 : decode cX8_laysRays 10 = .ok (.aload_n 0, 1) := by decide +kernel
theorem dX8_laysRays_11 : decode cX8_laysRays 11 = .ok (.getfield 67, 3) := by decide +kernel
theorem dX8_laysRays_14 : decode cX8_laysRays 14 = .ok (.iload_n 1, 1) := by decide +kernel
theorem dX8_laysRays_15 : decode cX8_laysRays 15 = .ok (.aload_n 0, 1) := by decide +kernel
theorem dX8_laysRays_16 : decode cX8_laysRays 16 = .ok (.iload_n 1, 1) := by decide +kernel
theorem dX8_laysRays_17 : decode cX8_laysRays 17 = .ok (.iconst 0, 1) := by decide +kernel
theorem dX8_laysRays_18 : decode cX8_laysRays 18 = .ok (.invokevirtual 104, 3) := by decide +kernel
theorem dX8_laysRays_21 : decode cX8_laysRays 21 = .ok (.bipush 10, 2) := by decide +kernel
theorem dX8_laysRays_23 : decode cX8_laysRays 23 = .ok (.idiv, 1) := by decide +kernel
theorem dX8_laysRays_24 : decode cX8_laysRays 24 = .ok (.iastore, 1) := by decide +kernel
theorem dX8_laysRays_25 : decode cX8_laysRays 25 = .ok (.iinc 1 1, 3) := by decide +kernel
theorem dX8_laysRays_28 : decode cX8_laysRays 28 = .ok (.goto (-26), 3) := by decide +kernel
theorem dX8_laysRays_31 : decode cX8_laysRays 31 = .ok (.return_, 1) := by decide +kernel
set_option maxRecDepth 20000 in
theorem ggX8_falls_X8_isPanel : GoodIn wsX8_falls wsX8_isPanel := goodIn_r _ [6, 7, 8, 5, 9] (by decide +kernel) (by decide +kernel)
set_option maxRecDepth 20000 in
theorem gX8_falls_X8_isPanel : GoodIn wsX8_falls (va_wsS RX8 133 yX8_isPanel wsX8_isPanel) := goodIn_app (goodIn_of _ (by decide +kernel)) ggX8_falls_X8_isPanel
theorem dX8_falls_0 : decode cX8_falls 0 = .ok (.iload_n 1, 1) := by decide +kernel
theorem dX8_falls_1 : decode cX8_falls 1 = .ok (.invokestatic 133, 3) := by decide +kernel
theorem dX8_falls_4 : decode cX8_falls 4 = .ok (.ifCond .eq 16, 3) := by decide +kernel
theorem dX8_falls_7 : decode cX8_falls 7 = .ok (.aload_n 0, 1) := by decide +kernel
theorem dX8_falls_8 : decode cX8_falls 8 = .ok (.getfield 70, 3) := by decide +kernel
theorem dX8_falls_11 : decode cX8_falls 11 = .ok (.iload_n 1, 1) := by decide +kernel
theorem dX8_falls_12 : decode cX8_falls 12 = .ok (.dup2, 1) := by decide +kernel
theorem dX8_falls_13 : decode cX8_falls 13 = .ok (.iaload, 1) := by decide +kernel
theorem dX8_falls_14 : decode cX8_falls 14 = .ok (.iload_n 2, 1) := by decide +kernel
theorem dX8_falls_15 : decode cX8_falls 15 = .ok (.iadd, 1) := by decide +kernel
theorem dX8_falls_16 : decode cX8_falls 16 = .ok (.iastore, 1) := by decide +kernel
theorem dX8_falls_17 : decode cX8_falls 17 = .ok (.goto 13, 3) := by decide +kernel
theorem dX8_falls_20 : decode cX8_falls 20 = .ok (.aload_n 0, 1) := by decide +kernel
theorem dX8_falls_21 : decode cX8_falls 21 = .ok (.dup, 1) := by decide +kernel
theorem dX8_falls_22 : decode cX8_falls 22 = .ok (.getfield 136, 3) := by decide +kernel
theorem dX8_falls_25 : decode cX8_falls 25 = .ok (.iload_n 2, 1) := by decide +kernel
theorem dX8_falls_26 : decode cX8_falls 26 = .ok (.iadd, 1) := by decide +kernel
theorem dX8_falls_27 : decode cX8_falls 27 = .ok (.putfield 136, 3) := by decide +kernel
theorem dX8_falls_30 : decode cX8_falls 30 = .ok (.return_, 1) := by decide +kernel
set_option maxRecDepth 20000 in
theorem ggX8_laysFluxes_X8_falls : GoodIn wsX8_laysFluxes wsX8_falls := goodIn_r _ [12, 2, 1, 13, 14, 11, 15, 16, 17, 18, 19, 20, 21, 22, 23, 24, 25, 26, 27, 28, 29, 30, 31, 32, 33, 34, 35, 36, 37, 38, 39, 40, 41, 42, 43, 44, 45, 46, 47, 48, 49, 50, 51, 52, 53, 54, 55, 56, 57, 58] (by decide +kernel) (by decide +kernel)
set_option maxRecDepth 20000 in
theorem gX8_laysFluxes_X8_falls : GoodIn wsX8_laysFluxes (wsV RX8 139 RX8 yX8_falls wsX8_falls) := goodIn_app (goodIn_of _ (by decide +kernel)) ggX8_laysFluxes_X8_falls
theorem dX8_laysFluxes_0 : decode cX8_laysFluxes 0 = .ok (.aload_n 0, 1) := by decide +kernel
theorem dX8_laysFluxes_1 : decode cX8_laysFluxes 1 = .ok (.iconst 0, 1) := by decide +kernel
theorem dX8_laysFluxes_2 : decode cX8_laysFluxes 2 = .ok (.putfield 136, 3) := by decide +kernel
theorem dX8_laysFluxes_5 : decode cX8_laysFluxes 5 = .ok (.iconst 0, 1) := by decide +kernel
theorem dX8_laysFluxes_6 : decode cX8_laysFluxes 6 = .ok (.istore_n 3, 1) := by decide +kernel
theorem dX8_laysFluxes_7 : decode cX8_laysFluxes 7 = .ok (.iload_n 3, 1) := by decide +kernel
theorem dX8_laysFluxes_8 : decode cX8_laysFluxes 8 = .ok (.bipush 6, 2) := by decide +kernel
theorem dX8_laysFluxes_10 : decode cX8_laysFluxes 10 = .ok (.if_icmp .ge 16, 3) := by decide +kernel
theorem dX8_laysFluxes_13 : decode cX8_laysFluxes 13 = .ok (.aload_n 0, 1) := by decide +kernel
theorem dX8_laysFluxes_14 : decode cX8_laysFluxes 14 = .ok (.getfield 70, 3) := by decide +kernel
theorem dX8_laysFluxes_17 : decode cX8_laysFluxes 17 = .ok (.iload_n 3, 1) := by decide +kernel
theorem dX8_laysFluxes_18 : decode cX8_laysFluxes 18 = .ok (.iconst 0, 1) := by decide +kernel
theorem dX8_laysFluxes_19 : decode cX8_laysFluxes 19 = .ok (.iastore, 1) := by decide +kernel
theorem dX8_laysFluxes_20 : decode cX8_laysFluxes 20 = .ok (.iinc 3 1, 3) := by decide +kernel
theorem dX8_laysFluxes_23 : decode cX8_laysFluxes 23 = .ok (.goto (-16), 3) := by decide +kernel
theorem dX8_laysFluxes_26 : decode cX8_laysFluxes 26 = .ok (.iconst 0, 1) := by decide +kernel
theorem dX8_laysFluxes_27 : decode cX8_laysFluxes 27 = .ok (.istore_n 3, 1) := by decide +kernel
theorem dX8_laysFluxes_28 : decode cX8_laysFluxes 28 = .ok (.iload_n 3, 1) := by decide +kernel
theorem dX8_laysFluxes_29 : decode cX8_laysFluxes 29 = .ok (.aload_n 0, 1) := by decide +kernel
theorem dX8_laysFluxes_30 : decode cX8_laysFluxes 30 = .ok (.getfield 82, 3) := by decide +kernel
theorem dX8_laysFluxes_33 : decode cX8_laysFluxes 33 = .ok (.if_icmp .ge 99, 3) := by decide +kernel
theorem dX8_laysFluxes_36 : decode cX8_laysFluxes 36 = .ok (.aload_n 0, 1) := by decide +kernel
theorem dX8_laysFluxes_37 : decode cX8_laysFluxes 37 = .ok (.getfield 16, 3) := by decide +kernel
theorem dX8_laysFluxes_40 : decode cX8_laysFluxes 40 = .ok (.iload_n 3, 1) := by decide +kernel
theorem dX8_laysFluxes_41 : decode cX8_laysFluxes 41 = .ok (.iaload, 1) := by decide +kernel
theorem dX8_laysFluxes_42 : decode cX8_laysFluxes 42 = .ok (.iconst (-1), 1) := by decide +kernel
theorem dX8_laysFluxes_43 : decode cX8_laysFluxes 43 = .ok (.if_icmp .eq 83, 3) := by decide +kernel
theorem dX8_laysFluxes_46 : decode cX8_laysFluxes 46 = .ok (.aload_n 0, 1) := by decide +kernel
theorem dX8_laysFluxes_47 : decode cX8_laysFluxes 47 = .ok (.getfield 16, 3) := by decide +kernel
theorem dX8_laysFluxes_50 : decode cX8_laysFluxes 50 = .ok (.iload_n 3, 1) := by decide +kernel
theorem dX8_laysFluxes_51 : decode cX8_laysFluxes 51 = .ok (.iaload, 1) := by decide +kernel
theorem dX8_laysFluxes_52 : decode cX8_laysFluxes 52 = .ok (.aload_n 0, 1) := by decide +kernel
theorem dX8_laysFluxes_53 : decode cX8_laysFluxes 53 = .ok (.getfield 19, 3) := by decide +kernel
theorem dX8_laysFluxes_56 : decode cX8_laysFluxes 56 = .ok (.iload_n 3, 1) := by decide +kernel
theorem dX8_laysFluxes_57 : decode cX8_laysFluxes 57 = .ok (.iaload, 1) := by decide +kernel
theorem dX8_laysFluxes_58 : decode cX8_laysFluxes 58 = .ok (.iadd, 1) := by decide +kernel
theorem dX8_laysFluxes_59 : decode cX8_laysFluxes 59 = .ok (.aload_n 0, 1) := by decide +kernel
theorem dX8_laysFluxes_60 : decode cX8_laysFluxes 60 = .ok (.getfield 22, 3) := by decide +kernel
theorem dX8_laysFluxes_63 : decode cX8_laysFluxes 63 = .ok (.iload_n 3, 1) := by decide +kernel
theorem dX8_laysFluxes_64 : decode cX8_laysFluxes 64 = .ok (.iaload, 1) := by decide +kernel
theorem dX8_laysFluxes_65 : decode cX8_laysFluxes 65 = .ok (.isub, 1) := by decide +kernel
theorem dX8_laysFluxes_66 : decode cX8_laysFluxes 66 = .ok (.iload_n 3, 1) := by decide +kernel
theorem dX8_laysFluxes_67 : decode cX8_laysFluxes 67 = .ok (.iload_n 1, 1) := by decide +kernel
theorem dX8_laysFluxes_68 : decode cX8_laysFluxes 68 = .ok (.if_icmp .ne 7, 3) := by decide +kernel
theorem dX8_laysFluxes_71 : decode cX8_laysFluxes 71 = .ok (.iload_n 2, 1) := by decide +kernel
theorem dX8_laysFluxes_72 : decode cX8_laysFluxes 72 = .ok (.goto 4, 3) := by decide +kernel
theorem dX8_laysFluxes_75 : decode cX8_laysFluxes 75 = .ok (.iconst 0, 1) := by decide +kernel
theorem dX8_laysFluxes_76 : decode cX8_laysFluxes 76 = .ok (.iadd, 1) := by decide +kernel
theorem dX8_laysFluxes_77 : decode cX8_laysFluxes 77 = .ok (.istore 4, 2) := by decide +kernel
theorem dX8_laysFluxes_79 : decode cX8_laysFluxes 79 = .ok (.aload_n 0, 1) := by decide +kernel
theorem dX8_laysFluxes_80 : decode cX8_laysFluxes 80 = .ok (.iload 4, 2) := by decide +kernel
theorem dX8_laysFluxes_82 : decode cX8_laysFluxes 82 = .ok (.bipush 6, 2) := by decide +kernel
theorem dX8_laysFluxes_84 : decode cX8_laysFluxes 84 = .ok (.aload_n 0, 1) := by decide +kernel
theorem dX8_laysFluxes_85 : decode cX8_laysFluxes 85 = .ok (.getfield 67, 3) := by decide +kernel
theorem dX8_laysFluxes_88 : decode cX8_laysFluxes 88 = .ok (.iload_n 3, 1) := by decide +kernel
theorem dX8_laysFluxes_89 : decode cX8_laysFluxes 89 = .ok (.iaload, 1) := by decide +kernel
theorem dX8_laysFluxes_90 : decode cX8_laysFluxes 90 = .ok (.imul, 1) := by decide +kernel
theorem dX8_laysFluxes_91 : decode cX8_laysFluxes 91 = .ok (.invokevirtual 139, 3) := by decide +kernel
theorem dX8_laysFluxes_94 : decode cX8_laysFluxes 94 = .ok (.aload_n 0, 1) := by decide +kernel
theorem dX8_laysFluxes_95 : decode cX8_laysFluxes 95 = .ok (.iload 4, 2) := by decide +kernel
theorem dX8_laysFluxes_97 : decode cX8_laysFluxes 97 = .ok (.iconst 1, 1) := by decide +kernel
theorem dX8_laysFluxes_98 : decode cX8_laysFluxes 98 = .ok (.isub, 1) := by decide +kernel
theorem dX8_laysFluxes_99 : decode cX8_laysFluxes 99 = .ok (.iconst 2, 1) := by decide +kernel
theorem dX8_laysFluxes_100 : decode cX8_laysFluxes 100 = .ok (.aload_n 0, 1) := by decide +kernel
theorem dX8_laysFluxes_101 : decode cX8_laysFluxes 101 = .ok (.getfield 67, 3) := by decide +kernel
theorem dX8_laysFluxes_104 : decode cX8_laysFluxes 104 = .ok (.iload_n 3, 1) := by decide +kernel
theorem dX8_laysFluxes_105 : decode cX8_laysFluxes 105 = .ok (.iaload, 1) := by decide +kernel
theorem dX8_laysFluxes_106 : decode cX8_laysFluxes 106 = .ok (.imul, 1) := by decide +kernel
theorem dX8_laysFluxes_107 : decode cX8_laysFluxes 107 = .ok (.invokevirtual 139, 3) := by decide +kernel
theorem dX8_laysFluxes_110 : decode cX8_laysFluxes 110 = .ok (.aload_n 0, 1) := by decide +kernel
theorem dX8_laysFluxes_111 : decode cX8_laysFluxes 111 = .ok (.iload 4, 2) := by decide +kernel
theorem dX8_laysFluxes_113 : decode cX8_laysFluxes 113 = .ok (.iconst 1, 1) := by decide +kernel
theorem dX8_laysFluxes_114 : decode cX8_laysFluxes 114 = .ok (.iadd, 1) := by decide +kernel
theorem dX8_laysFluxes_115 : decode cX8_laysFluxes 115 = .ok (.iconst 2, 1) := by decide +kernel
theorem dX8_laysFluxes_116 : decode cX8_laysFluxes 116 = .ok (.aload_n 0, 1) := by decide +kernel
theorem dX8_laysFluxes_117 : decode cX8_laysFluxes 117 = .ok (.getfield 67, 3) := by decide +kernel
theorem dX8_laysFluxes_120 : decode cX8_laysFluxes 120 = .ok (.iload_n 3, 1) := by decide +kernel
theorem dX8_laysFluxes_121 : decode cX8_laysFluxes 121 = .ok (.iaload, 1) := by decide +kernel
theorem dX8_laysFluxes_122 : decode cX8_laysFluxes 122 = .ok (.imul, 1) := by decide +kernel
theorem dX8_laysFluxes_123 : decode cX8_laysFluxes 123 = .ok (.invokevirtual 139, 3) := by decide +kernel
theorem dX8_laysFluxes_126 : decode cX8_laysFluxes 126 = .ok (.iinc 3 1, 3) := by decide +kernel
theorem dX8_laysFluxes_129 : decode cX8_laysFluxes 129 = .ok (.goto (-101), 3) := by decide +kernel
theorem dX8_laysFluxes_132 : decode cX8_laysFluxes 132 = .ok (.return_, 1) := by decide +kernel
theorem dX8_isTripped_0 : decode cX8_isTripped 0 = .ok (.iconst 0, 1) := by decide +kernel
theorem dX8_isTripped_1 : decode cX8_isTripped 1 = .ok (.istore_n 1, 1) := by decide +kernel
theorem dX8_isTripped_2 : decode cX8_isTripped 2 = .ok (.iconst 0, 1) := by decide +kernel
theorem dX8_isTripped_3 : decode cX8_isTripped 3 = .ok (.istore_n 2, 1) := by decide +kernel
theorem dX8_isTripped_4 : decode cX8_isTripped 4 = .ok (.iload_n 2, 1) := by decide +kernel
theorem dX8_isTripped_5 : decode cX8_isTripped 5 = .ok (.bipush 6, 2) := by decide +kernel
theorem dX8_isTripped_7 : decode cX8_isTripped 7 = .ok (.if_icmp .ge 34, 3) := by decide +kernel
theorem dX8_isTripped_10 : decode cX8_isTripped 10 = .ok (.iload_n 1, 1) := by decide +kernel
theorem dX8_isTripped_11 : decode cX8_isTripped 11 = .ok (.ifCond .ne 18, 3) := by decide +kernel
theorem dX8_isTripped_14 : decode cX8_isTripped 14 = .ok (.aload_n 0, 1) := by decide +kernel
theorem dX8_isTripped_15 : decode cX8_isTripped 15 = .ok (.getfield 70, 3) := by decide +kernel
theorem dX8_isTripped_18 : decode cX8_isTripped 18 = .ok (.iload_n 2, 1) := by decide +kernel
theorem dX8_isTripped_19 : decode cX8_isTripped 19 = .ok (.iaload, 1) := by decide +kernel
theorem dX8_isTripped_20 : decode cX8_isTripped 20 = .ok (.aload_n 0, 1) := by decide +kernel
theorem dX8_isTripped_21 : decode cX8_isTripped 21 = .ok (.getfield 47, 3) := by decide +kernel
theorem dX8_isTripped_24 : decode cX8_isTripped 24 = .ok (.iload_n 2, 1) := by decide +kernel
theorem dX8_isTripped_25 : decode cX8_isTripped 25 = .ok (.iaload, 1) := by decide +kernel
theorem dX8_isTripped_26 : decode cX8_isTripped 26 = .ok (.if_icmp .le 7, 3) := by decide +kernel
theorem dX8_isTripped_29 : decode cX8_isTripped 29 = .ok (.iconst 1, 1) := by decide +kernel
theorem dX8_isTripped_30 : decode cX8_isTripped 30 = .ok (.goto 4, 3) := by decide +kernel
theorem dX8_isTripped_33 : decode cX8_isTripped 33 = .ok (.iconst 0, 1) := by decide +kernel
theorem dX8_isTripped_34 : decode cX8_isTripped 34 = .ok (.istore_n 1, 1) := by decide +kernel
theorem dX8_isTripped_35 : decode cX8_isTripped 35 = .ok (.iinc 2 1, 3) := by decide +kernel
theorem dX8_isTripped_38 : decode cX8_isTripped 38 = .ok (.goto (-34), 3) := by decide +kernel
theorem dX8_isTripped_41 : decode cX8_isTripped 41 = .ok (.iload_n 1, 1) := by decide +kernel
theorem dX8_isTripped_42 : decode cX8_isTripped 42 = .ok (.ireturn, 1) := by decide +kernel
theorem dX8_allFalls_0 : decode cX8_allFalls 0 = .ok (.iconst 0, 1) := by decide +kernel
theorem dX8_allFalls_1 : decode cX8_allFalls 1 = .ok (.istore_n 1, 1) := by decide +kernel
theorem dX8_allFalls_2 : decode cX8_allFalls 2 = .ok (.iconst 0, 1) := by decide +kernel
theorem dX8_allFalls_3 : decode cX8_allFalls 3 = .ok (.istore_n 2, 1) := by decide +kernel
theorem dX8_allFalls_4 : decode cX8_allFalls 4 = .ok (.iload_n 2, 1) := by decide +kernel
theorem dX8_allFalls_5 : decode cX8_allFalls 5 = .ok (.bipush 6, 2) := by decide +kernel
theorem dX8_allFalls_7 : decode cX8_allFalls 7 = .ok (.if_icmp .ge 18, 3) := by decide +kernel
theorem dX8_allFalls_10 : decode cX8_allFalls 10 = .ok (.iload_n 1, 1) := by decide +kernel
theorem dX8_allFalls_11 : decode cX8_allFalls 11 = .ok (.aload_n 0, 1) := by decide +kernel
theorem dX8_allFalls_12 : decode cX8_allFalls 12 = .ok (.getfield 70, 3) := by decide +kernel
theorem dX8_allFalls_15 : decode cX8_allFalls 15 = .ok (.iload_n 2, 1) := by decide +kernel
theorem dX8_allFalls_16 : decode cX8_allFalls 16 = .ok (.iaload, 1) := by decide +kernel
theorem dX8_allFalls_17 : decode cX8_allFalls 17 = .ok (.iadd, 1) := by decide +kernel
theorem dX8_allFalls_18 : decode cX8_allFalls 18 = .ok (.istore_n 1, 1) := by decide +kernel
theorem dX8_allFalls_19 : decode cX8_allFalls 19 = .ok (.iinc 2 1, 3) := by decide +kernel
theorem dX8_allFalls_22 : decode cX8_allFalls 22 = .ok (.goto (-18), 3) := by decide +kernel
theorem dX8_allFalls_25 : decode cX8_allFalls 25 = .ok (.iload_n 1, 1) := by decide +kernel
theorem dX8_allFalls_26 : decode cX8_allFalls 26 = .ok (.ireturn, 1) := by decide +kernel
set_option maxRecDepth 20000 in
theorem ggX8_flux_X8_isPanel : GoodIn wsX8_flux wsX8_isPanel := goodIn_r _ [5, 6, 7, 4, 8] (by decide +kernel) (by decide +kernel)
set_option maxRecDepth 20000 in
theorem gX8_flux_X8_isPanel : GoodIn wsX8_flux (va_wsS RX8 133 yX8_isPanel wsX8_isPanel) := goodIn_app (goodIn_of _ (by decide +kernel)) ggX8_flux_X8_isPanel
set_option maxRecDepth 20000 in
theorem ggX8_flux_X8_holds : GoodIn wsX8_flux wsX8_holds := goodIn_r _ [12, 13, 69, 70, 71, 72, 73, 74, 75, 76, 77, 78, 79, 80, 81, 82, 83, 84, 85, 86, 87, 88, 89, 90, 91, 92, 93, 94, 95, 96, 97, 98, 99, 100, 101, 102, 103, 104, 105, 106, 107, 108] (by decide +kernel) (by decide +kernel)
set_option maxRecDepth 20000 in
theorem gX8_flux_X8_holds : GoodIn wsX8_flux (wsV RX8 93 RX8 yX8_holds wsX8_holds) := goodIn_app (goodIn_of _ (by decide +kernel)) ggX8_flux_X8_holds
set_option maxRecDepth 20000 in
theorem ggX8_flux_X8_laysRays : GoodIn wsX8_flux wsX8_laysRays := goodIn_r _ [17, 18, 19, 20, 21, 22, 4, 23, 24, 25, 26, 27, 28, 29, 30, 31, 32, 33, 34, 35, 36, 37, 38, 6, 7, 8, 39, 40, 41, 42, 43, 44, 45, 46, 47, 48, 49, 50, 51, 52, 53, 54, 55, 56, 69, 70, 71, 72, 73, 74, 75, 76, 77, 78, 79, 80, 81, 82, 83, 84, 85, 86, 87, 88, 89, 90, 91, 92, 93, 94, 95, 96, 97, 98, 99, 100, 101, 102, 103, 104, 105, 106, 107, 108] (by decide +kernel) (by decide +kernel)
set_option maxRecDepth 20000 in
theorem gX8_flux_X8_laysRays : GoodIn wsX8_flux (wsV RX8 142 RX8 yX8_laysRays wsX8_laysRays) := goodIn_app (goodIn_of _ (by decide +kernel)) ggX8_flux_X8_laysRays
set_option maxRecDepth 20000 in
theorem ggX8_flux_X8_laysFluxes : GoodIn wsX8_flux wsX8_laysFluxes := goodIn_r _ [60, 61, 1, 18, 62, 63, 64, 19, 65, 66, 67, 4, 68, 2, 3, 5, 6, 7, 8, 69, 70, 71, 72, 73, 74, 75, 76, 77, 78, 79, 80, 81, 82, 83, 84, 85, 86, 87, 88, 89, 90, 91, 92, 93, 94, 95, 96, 97, 98, 99, 100, 101, 102, 103, 104, 105, 106, 107, 108] (by decide +kernel) (by decide +kernel)
set_option maxRecDepth 20000 in
theorem gX8_flux_X8_laysFluxes : GoodIn wsX8_flux (wsV RX8 145 RX8 yX8_laysFluxes wsX8_laysFluxes) := goodIn_app (goodIn_of _ (by decide +kernel)) ggX8_flux_X8_laysFluxes
theorem dX8_flux_0 : decode cX8_flux 0 = .ok (.aload_n 0, 1) := by decide +kernel
theorem dX8_flux_1 : decode cX8_flux 1 = .ok (.iload_n 1, 1) := by decide +kernel
theorem dX8_flux_2 : decode cX8_flux 2 = .ok (.invokestatic 133, 3) := by decide +kernel
theorem dX8_flux_5 : decode cX8_flux 5 = .ok (.ifCond .eq 7, 3) := by decide +kernel
theorem dX8_flux_8 : decode cX8_flux 8 = .ok (.iconst 0, 1) := by decide +kernel
theorem dX8_flux_9 : decode cX8_flux 9 = .ok (.goto 4, 3) := by decide +kernel
theorem dX8_flux_12 : decode cX8_flux 12 = .ok (.iconst 1, 1) := by decide +kernel
theorem dX8_flux_13 : decode cX8_flux 13 = .ok (.invokevirtual 93, 3) := by decide +kernel
theorem dX8_flux_16 : decode cX8_flux 16 = .ok (.ifCond .ne 5, 3) := by decide +kernel
theorem dX8_flux_19 : decode cX8_flux 19 = .ok (.iconst 0, 1) := by decide +kernel
theorem dX8_flux_20 : decode cX8_flux 20 = .ok (.ireturn, 1) := by decide +kernel
theorem dX8_flux_21 : decode cX8_flux 21 = .ok (.aload_n 0, 1) := by decide +kernel
theorem dX8_flux_22 : decode cX8_flux 22 = .ok (.invokevirtual 142, 3) := by decide +kernel
theorem dX8_flux_25 : decode cX8_flux 25 = .ok (.aload_n 0, 1) := by decide +kernel
theorem dX8_flux_26 : decode cX8_flux 26 = .ok (.iconst (-1), 1) := by decide +kernel
theorem dX8_flux_27 : decode cX8_flux 27 = .ok (.iconst 0, 1) := by decide +kernel
theorem dX8_flux_28 : decode cX8_flux 28 = .ok (.invokevirtual 145, 3) := by decide +kernel
theorem dX8_flux_31 : decode cX8_flux 31 = .ok (.aload_n 0, 1) := by decide +kernel
theorem dX8_flux_32 : decode cX8_flux 32 = .ok (.getfield 70, 3) := by decide +kernel
theorem dX8_flux_35 : decode cX8_flux 35 = .ok (.iload_n 1, 1) := by decide +kernel
theorem dX8_flux_36 : decode cX8_flux 36 = .ok (.iaload, 1) := by decide +kernel
theorem dX8_flux_37 : decode cX8_flux 37 = .ok (.ireturn, 1) := by decide +kernel
set_option maxRecDepth 20000 in
theorem ggX8_fluxAnew_X8_flux : GoodIn wsX8_fluxAnew wsX8_flux := goodIn_r _ [5, 6, 7, 8, 4, 9, 10, 11, 12, 13, 14, 15, 16, 17, 18, 19, 20, 21, 22, 23, 24, 25, 26, 27, 28, 29, 30, 31, 32, 33, 34, 35, 36, 37, 38, 39, 40, 41, 42, 43, 44, 45, 46, 47, 48, 49, 50, 51, 52, 53, 54, 55, 56, 57, 58, 59, 60, 61, 62, 63, 64, 65, 66, 67, 68, 69, 70, 71, 72, 73, 74, 75, 76, 77, 78, 79, 80, 81, 82, 83, 84, 85, 86, 87, 88, 89, 90, 91, 92, 93, 94, 95, 96, 97, 98, 99, 100, 101, 102, 103, 104, 105, 106, 107, 108, 109, 110, 111, 112] (by decide +kernel) (by decide +kernel)
set_option maxRecDepth 20000 in
theorem gX8_fluxAnew_X8_flux : GoodIn wsX8_fluxAnew (wsV RX8 148 RX8 yX8_flux wsX8_flux) := goodIn_app (goodIn_of _ (by decide +kernel)) ggX8_fluxAnew_X8_flux
theorem dX8_fluxAnew_0 : decode cX8_fluxAnew 0 = .ok (.aload_n 0, 1) := by decide +kernel
theorem dX8_fluxAnew_1 : decode cX8_fluxAnew 1 = .ok (.iload_n 1, 1) := by decide +kernel
theorem dX8_fluxAnew_2 : decode cX8_fluxAnew 2 = .ok (.invokevirtual 148, 3) := by decide +kernel
theorem dX8_fluxAnew_5 : decode cX8_fluxAnew 5 = .ok (.ireturn, 1) := by decide +kernel
set_option maxRecDepth 20000 in
theorem ggX8_strain_X8_isPanel : GoodIn wsX8_strain wsX8_isPanel := goodIn_r _ [5, 6, 7, 4, 8] (by decide +kernel) (by decide +kernel)
set_option maxRecDepth 20000 in
theorem gX8_strain_X8_isPanel : GoodIn wsX8_strain (va_wsS RX8 133 yX8_isPanel wsX8_isPanel) := goodIn_app (goodIn_of _ (by decide +kernel)) ggX8_strain_X8_isPanel
set_option maxRecDepth 20000 in
theorem ggX8_strain_X8_holds : GoodIn wsX8_strain wsX8_holds := goodIn_r _ [12, 13, 14, 15, 16, 17, 18, 19, 20, 21, 22, 23, 24, 25, 26, 27, 28, 29, 30, 31, 32, 33, 34, 35, 36, 37, 38, 39, 40, 41, 42, 43, 44, 45, 46, 47, 48, 49, 50, 51, 52, 53] (by decide +kernel) (by decide +kernel)
set_option maxRecDepth 20000 in
theorem gX8_strain_X8_holds : GoodIn wsX8_strain (wsV RX8 93 RX8 yX8_holds wsX8_holds) := goodIn_app (goodIn_of _ (by decide +kernel)) ggX8_strain_X8_holds
theorem dX8_strain_0 : decode cX8_strain 0 = .ok (.aload_n 0, 1) := by decide +kernel
theorem dX8_strain_1 : decode cX8_strain 1 = .ok (.iload_n 1, 1) := by decide +kernel
theorem dX8_strain_2 : decode cX8_strain 2 = .ok (.invokestatic 133, 3) := by decide +kernel
theorem dX8_strain_5 : decode cX8_strain 5 = .ok (.ifCond .eq 7, 3) := by decide +kernel
theorem dX8_strain_8 : decode cX8_strain 8 = .ok (.iconst 0, 1) := by decide +kernel
theorem dX8_strain_9 : decode cX8_strain 9 = .ok (.goto 4, 3) := by decide +kernel
theorem dX8_strain_12 : decode cX8_strain 12 = .ok (.iconst 1, 1) := by decide +kernel
theorem dX8_strain_13 : decode cX8_strain 13 = .ok (.invokevirtual 93, 3) := by decide +kernel
theorem dX8_strain_16 : decode cX8_strain 16 = .ok (.ifCond .eq 12, 3) := by decide +kernel
theorem dX8_strain_19 : decode cX8_strain 19 = .ok (.aload_n 0, 1) := by decide +kernel
theorem dX8_strain_20 : decode cX8_strain 20 = .ok (.getfield 50, 3) := by decide +kernel
theorem dX8_strain_23 : decode cX8_strain 23 = .ok (.iload_n 1, 1) := by decide +kernel
theorem dX8_strain_24 : decode cX8_strain 24 = .ok (.iaload, 1) := by decide +kernel
theorem dX8_strain_25 : decode cX8_strain 25 = .ok (.goto 4, 3) := by decide +kernel
theorem dX8_strain_28 : decode cX8_strain 28 = .ok (.iconst 0, 1) := by decide +kernel
theorem dX8_strain_29 : decode cX8_strain 29 = .ok (.ireturn, 1) := by decide +kernel
set_option maxRecDepth 20000 in
theorem ggX8_isSafe_X8_laysRays : GoodIn wsX8_isSafe wsX8_laysRays := goodIn_r _ [7, 2, 8, 9, 10, 11, 6, 12, 13, 14, 15, 16, 17, 18, 19, 20, 21, 22, 23, 24, 25, 26, 27, 28, 29, 30, 31, 32, 33, 34, 35, 36, 37, 38, 39, 40, 41, 42, 43, 44, 45, 46, 47, 48, 70, 71, 72, 73, 74, 75, 76, 77, 78, 79, 80, 81, 82, 83, 84, 85, 86, 87, 88, 89, 90, 91, 92, 93, 94, 95, 96, 97, 98, 99, 100, 101, 102, 103, 104, 105, 106, 107, 108, 109] (by decide +kernel) (by decide +kernel)
set_option maxRecDepth 20000 in
theorem gX8_isSafe_X8_laysRays : GoodIn wsX8_isSafe (wsV RX8 142 RX8 yX8_laysRays wsX8_laysRays) := goodIn_app (goodIn_of _ (by decide +kernel)) ggX8_isSafe_X8_laysRays
set_option maxRecDepth 20000 in
theorem ggX8_isSafe_X8_laysFluxes : GoodIn wsX8_isSafe wsX8_laysFluxes := goodIn_r _ [52, 53, 54, 2, 55, 56, 57, 8, 58, 59, 60, 6, 61, 62, 63, 64, 28, 29, 30, 70, 71, 72, 73, 74, 75, 76, 77, 78, 79, 80, 81, 82, 83, 84, 85, 86, 87, 88, 89, 90, 91, 92, 93, 94, 95, 96, 97, 98, 99, 100, 101, 102, 103, 104, 105, 106, 107, 108, 109] (by decide +kernel) (by decide +kernel)
set_option maxRecDepth 20000 in
theorem gX8_isSafe_X8_laysFluxes : GoodIn wsX8_isSafe (wsV RX8 145 RX8 yX8_laysFluxes wsX8_laysFluxes) := goodIn_app (goodIn_of _ (by decide +kernel)) ggX8_isSafe_X8_laysFluxes
set_option maxRecDepth 20000 in
theorem ggX8_isSafe_X8_isTripped : GoodIn wsX8_isSafe wsX8_isTripped := goodIn_r _ [68, 54, 69, 70, 71, 72, 73, 74, 75, 76, 77, 78, 79, 80, 81, 82, 83, 84, 85, 86, 87, 88, 89, 90, 91, 92, 93, 94, 95, 96, 97, 98, 99, 100, 101, 102, 103, 104, 105, 106, 107, 108, 109] (by decide +kernel) (by decide +kernel)
set_option maxRecDepth 20000 in
theorem gX8_isSafe_X8_isTripped : GoodIn wsX8_isSafe (wsV RX8 151 RX8 yX8_isTripped wsX8_isTripped) := goodIn_app (goodIn_of _ (by decide +kernel)) ggX8_isSafe_X8_isTripped
theorem dX8_isSafe_0 : decode cX8_isSafe 0 = .ok (.aload_n 0, 1) := by decide +kernel
theorem dX8_isSafe_1 : decode cX8_isSafe 1 = .ok (.iconst 0, 1) := by decide +kernel
theorem dX8_isSafe_2 : decode cX8_isSafe 2 = .ok (.putfield 79, 3) := by decide +kernel
theorem dX8_isSafe_5 : decode cX8_isSafe 5 = .ok (.aload_n 0, 1) := by decide +kernel
theorem dX8_isSafe_6 : decode cX8_isSafe 6 = .ok (.invokevirtual 142, 3) := by decide +kernel
theorem dX8_isSafe_9 : decode cX8_isSafe 9 = .ok (.aload_n 0, 1) := by decide +kernel
theorem dX8_isSafe_10 : decode cX8_isSafe 10 = .ok (.iconst (-1), 1) := by decide +kernel
theorem dX8_isSafe_11 : decode cX8_isSafe 11 = .ok (.iconst 0, 1) := by decide +kernel
theorem dX8_isSafe_12 : decode cX8_isSafe 12 = .ok (.invokevirtual 145, 3) := by decide +kernel
theorem dX8_isSafe_15 : decode cX8_isSafe 15 = .ok (.aload_n 0, 1) := by decide +kernel
theorem dX8_isSafe_16 : decode cX8_isSafe 16 = .ok (.invokevirtual 151, 3) := by decide +kernel
theorem dX8_isSafe_19 : decode cX8_isSafe 19 = .ok (.ifCond .ne 7, 3) := by decide +kernel
theorem dX8_isSafe_22 : decode cX8_isSafe 22 = .ok (.iconst 1, 1) := by decide +kernel
theorem dX8_isSafe_23 : decode cX8_isSafe 23 = .ok (.goto 4, 3) := by decide +kernel
theorem dX8_isSafe_26 : decode cX8_isSafe 26 = .ok (.iconst 0, 1) := by decide +kernel
theorem dX8_isSafe_27 : decode cX8_isSafe 27 = .ok (.istore_n 1, 1) := by decide +kernel
theorem dX8_isSafe_28 : decode cX8_isSafe 28 = .ok (.iconst 0, 1) := by decide +kernel
theorem dX8_isSafe_29 : decode cX8_isSafe 29 = .ok (.istore_n 2, 1) := by decide +kernel
theorem dX8_isSafe_30 : decode cX8_isSafe 30 = .ok (.iload_n 2, 1) := by decide +kernel
theorem dX8_isSafe_31 : decode cX8_isSafe 31 = .ok (.aload_n 0, 1) := by decide +kernel
theorem dX8_isSafe_32 : decode cX8_isSafe 32 = .ok (.getfield 82, 3) := by decide +kernel
theorem dX8_isSafe_35 : decode cX8_isSafe 35 = .ok (.if_icmp .ge 55, 3) := by decide +kernel
theorem dX8_isSafe_38 : decode cX8_isSafe 38 = .ok (.iload_n 1, 1) := by decide +kernel
theorem dX8_isSafe_39 : decode cX8_isSafe 39 = .ok (.ifCond .eq 51, 3) := by decide +kernel
theorem dX8_isSafe_42 : decode cX8_isSafe 42 = .ok (.aload_n 0, 1) := by decide +kernel
theorem dX8_isSafe_43 : decode cX8_isSafe 43 = .ok (.iload_n 2, 1) := by decide +kernel
theorem dX8_isSafe_44 : decode cX8_isSafe 44 = .ok (.iconst (-1), 1) := by decide +kernel
theorem dX8_isSafe_45 : decode cX8_isSafe 45 = .ok (.invokevirtual 145, 3) := by decide +kernel
theorem dX8_isSafe_48 : decode cX8_isSafe 48 = .ok (.aload_n 0, 1) := by decide +kernel
theorem dX8_isSafe_49 : decode cX8_isSafe 49 = .ok (.invokevirtual 151, 3) := by decide +kernel
theorem dX8_isSafe_52 : decode cX8_isSafe 52 = .ok (.ifCond .ne 7, 3) := by decide +kernel
theorem dX8_isSafe_55 : decode cX8_isSafe 55 = .ok (.iconst 1, 1) := by decide +kernel
theorem dX8_isSafe_56 : decode cX8_isSafe 56 = .ok (.goto 4, 3) := by decide +kernel
theorem dX8_isSafe_59 : decode cX8_isSafe 59 = .ok (.iconst 0, 1) := by decide +kernel
theorem dX8_isSafe_60 : decode cX8_isSafe 60 = .ok (.istore_n 1, 1) := by decide +kernel
theorem dX8_isSafe_61 : decode cX8_isSafe 61 = .ok (.aload_n 0, 1) := by decide +kernel
theorem dX8_isSafe_62 : decode cX8_isSafe 62 = .ok (.iload_n 2, 1) := by decide +kernel
theorem dX8_isSafe_63 : decode cX8_isSafe 63 = .ok (.iconst 1, 1) := by decide +kernel
theorem dX8_isSafe_64 : decode cX8_isSafe 64 = .ok (.invokevirtual 145, 3) := by decide +kernel
theorem dX8_isSafe_67 : decode cX8_isSafe 67 = .ok (.iload_n 1, 1) := by decide +kernel
theorem dX8_isSafe_68 : decode cX8_isSafe 68 = .ok (.ifCond .eq 14, 3) := by decide +kernel
