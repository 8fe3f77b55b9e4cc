theorem dX5_thawOn_31 : decode cX5_thawOn 31 = .ok (.iconst 1, 1) := by decide +kernel
theorem dX5_thawOn_32 : decode cX5_thawOn 32 = .ok (.putfield 9, 3) := by decide +kernel
theorem dX5_thawOn_35 : decode cX5_thawOn 35 = .ok (.aload_n 0, 1) := by decide +kernel
theorem dX5_thawOn_36 : decode cX5_thawOn 36 = .ok (.bipush 22, 2) := by decide +kernel
theorem dX5_thawOn_38 : decode cX5_thawOn 38 = .ok (.putfield 15, 3) := by decide +kernel
theorem dX5_thawOn_41 : decode cX5_thawOn 41 = .ok (.return_, 1) := by decide +kernel
theorem dX5_change_0 : decode cX5_change 0 = .ok (.aload_n 0, 1) := by decide +kernel
theorem dX5_change_1 : decode cX5_change 1 = .ok (.iload_n 1, 1) := by decide +kernel
theorem dX5_change_2 : decode cX5_change 2 = .ok (.ifCond .eq 17, 3) := by decide +kernel
theorem dX5_change_5 : decode cX5_change 5 = .ok (.bipush 40, 2) := by decide +kernel
theorem dX5_change_7 : decode cX5_change 7 = .ok (.aload_n 0, 1) := by decide +kernel
theorem dX5_change_8 : decode cX5_change 8 = .ok (.getfield 15, 3) := by decide +kernel
theorem dX5_change_11 : decode cX5_change 11 = .ok (.iconst 5, 1) := by decide +kernel
theorem dX5_change_12 : decode cX5_change 12 = .ok (.iadd, 1) := by decide +kernel
theorem dX5_change_13 : decode cX5_change 13 = .ok (.invokestatic 32, 3) := by decide +kernel
theorem dX5_change_16 : decode cX5_change 16 = .ok (.goto 9, 3) := by decide +kernel
theorem dX5_change_19 : decode cX5_change 19 = .ok (.aload_n 0, 1) := by decide +kernel
theorem dX5_change_20 : decode cX5_change 20 = .ok (.getfield 15, 3) := by decide +kernel
theorem dX5_change_23 : decode cX5_change 23 = .ok (.iconst 2, 1) := by decide +kernel
theorem dX5_change_24 : decode cX5_change 24 = .ok (.isub, 1) := by decide +kernel
theorem dX5_change_25 : decode cX5_change 25 = .ok (.putfield 15, 3) := by decide +kernel
theorem dX5_change_28 : decode cX5_change 28 = .ok (.aload_n 0, 1) := by decide +kernel
theorem dX5_change_29 : decode cX5_change 29 = .ok (.getfield 25, 3) := by decide +kernel
theorem dX5_change_32 : decode cX5_change 32 = .ok (.ifCond .eq 16, 3) := by decide +kernel
theorem dX5_change_35 : decode cX5_change 35 = .ok (.aload_n 0, 1) := by decide +kernel
theorem dX5_change_36 : decode cX5_change 36 = .ok (.bipush 22, 2) := by decide +kernel
theorem dX5_change_38 : decode cX5_change 38 = .ok (.aload_n 0, 1) := by decide +kernel
theorem dX5_change_39 : decode cX5_change 39 = .ok (.getfield 15, 3) := by decide +kernel
theorem dX5_change_42 : decode cX5_change 42 = .ok (.invokestatic 38, 3) := by decide +kernel
theorem dX5_change_45 : decode cX5_change 45 = .ok (.putfield 15, 3) := by decide +kernel
theorem dX5_change_48 : decode cX5_change 48 = .ok (.aload_n 0, 1) := by decide +kernel
theorem dX5_change_49 : decode cX5_change 49 = .ok (.getfield 15, 3) := by decide +kernel
theorem dX5_change_52 : decode cX5_change 52 = .ok (.bipush 20, 2) := by decide +kernel
theorem dX5_change_54 : decode cX5_change 54 = .ok (.if_icmp .lt 4, 3) := by decide +kernel
theorem dX5_change_57 : decode cX5_change 57 = .ok (.return_, 1) := by decide +kernel
theorem dX5_change_58 : decode cX5_change 58 = .ok (.aload_n 0, 1) := by decide +kernel
theorem dX5_change_59 : decode cX5_change 59 = .ok (.iconst 2, 1) := by decide +kernel
theorem dX5_change_60 : decode cX5_change 60 = .ok (.putfield 9, 3) := by decide +kernel
theorem dX5_change_63 : decode cX5_change 63 = .ok (.aload_n 0, 1) := by decide +kernel
theorem dX5_change_64 : decode cX5_change 64 = .ok (.iconst 0, 1) := by decide +kernel
theorem dX5_change_65 : decode cX5_change 65 = .ok (.putfield 29, 3) := by decide +kernel
theorem dX5_change_68 : decode cX5_change 68 = .ok (.return_, 1) := by decide +kernel
theorem dX6_init_0 : decode cX6_init 0 = .ok (.aload_n 0, 1) := by decide +kernel
theorem dX6_init_1 : decode cX6_init 1 = .ok (.invokespecial 3, 3) := by decide +kernel
theorem dX6_init_4 : decode cX6_init 4 = .ok (.aload_n 0, 1) := by decide +kernel
theorem dX6_init_5 : decode cX6_init 5 = .ok (.iconst 0, 1) := by decide +kernel
theorem dX6_init_6 : decode cX6_init 6 = .ok (.putfield 9, 3) := by decide +kernel
theorem dX6_init_9 : decode cX6_init 9 = .ok (.return_, 1) := by decide +kernel
theorem dX6_start_0 : decode cX6_start 0 = .ok (.aload_n 0, 1) := by decide +kernel
theorem dX6_start_1 : decode cX6_start 1 = .ok (.iconst 1, 1) := by decide +kernel
theorem dX6_start_2 : decode cX6_start 2 = .ok (.putfield 9, 3) := by decide +kernel
theorem dX6_start_5 : decode cX6_start 5 = .ok (.aload_n 0, 1) := by decide +kernel
theorem dX6_start_6 : decode cX6_start 6 = .ok (.iconst 2, 1) := by decide +kernel
theorem dX6_start_7 : decode cX6_start 7 = .ok (.putfield 15, 3) := by decide +kernel
theorem dX6_start_10 : decode cX6_start 10 = .ok (.return_, 1) := by decide +kernel
theorem dX6_halt_0 : decode cX6_halt 0 = .ok (.aload_n 0, 1) := by decide +kernel
theorem dX6_halt_1 : decode cX6_halt 1 = .ok (.iconst 0, 1) := by decide +kernel
theorem dX6_halt_2 : decode cX6_halt 2 = .ok (.putfield 9, 3) := by decide +kernel
theorem dX6_halt_5 : decode cX6_halt 5 = .ok (.aload_n 0, 1) := by decide +kernel
theorem dX6_halt_6 : decode cX6_halt 6 = .ok (.iconst 0, 1) := by decide +kernel
theorem dX6_halt_7 : decode cX6_halt 7 = .ok (.putfield 18, 3) := by decide +kernel
theorem dX6_halt_10 : decode cX6_halt 10 = .ok (.return_, 1) := by decide +kernel
set_option maxRecDepth 20000 in
theorem ggX6_takeTick_X6_warm : GoodIn wsX6_takeTick wsX6_warm := goodIn_r _ [11, 12, 1, 13, 14, 15] (by decide +kernel) (by decide +kernel)
set_option maxRecDepth 20000 in
theorem gX6_takeTick_X6_warm : GoodIn wsX6_takeTick (wsV RX6 27 RX6 yX6_warm wsX6_warm) := goodIn_app (goodIn_of _ (by decide +kernel)) ggX6_takeTick_X6_warm
theorem dX6_takeTick_0 : decode cX6_takeTick 0 = .ok (.aload_n 0, 1) := by decide +kernel
theorem dX6_takeTick_1 : decode cX6_takeTick 1 = .ok (.getfield 9, 3) := by decide +kernel
theorem dX6_takeTick_4 : decode cX6_takeTick 4 = .ok (.iconst 2, 1) := by decide +kernel
theorem dX6_takeTick_5 : decode cX6_takeTick 5 = .ok (.if_icmp .ne 12, 3) := by decide +kernel
theorem dX6_takeTick_8 : decode cX6_takeTick 8 = .ok (.aload_n 0, 1) := by decide +kernel
theorem dX6_takeTick_9 : decode cX6_takeTick 9 = .ok (.getfield 18, 3) := by decide +kernel
theorem dX6_takeTick_12 : decode cX6_takeTick 12 = .ok (.iload_n 1, 1) := by decide +kernel
theorem dX6_takeTick_13 : decode cX6_takeTick 13 = .ok (.invokestatic 21, 3) := by decide +kernel
theorem dX6_takeTick_16 : decode cX6_takeTick 16 = .ok (.ireturn, 1) := by decide +kernel
theorem dX6_takeTick_17 : decode cX6_takeTick 17 = .ok (.aload_n 0, 1) := by decide +kernel
theorem dX6_takeTick_18 : decode cX6_takeTick 18 = .ok (.getfield 9, 3) := by decide +kernel
theorem dX6_takeTick_21 : decode cX6_takeTick 21 = .ok (.iconst 1, 1) := by decide +kernel
theorem dX6_takeTick_22 : decode cX6_takeTick 22 = .ok (.if_icmp .ne 7, 3) := by decide +kernel
theorem dX6_takeTick_25 : decode cX6_takeTick 25 = .ok (.aload_n 0, 1) := by decide +kernel
theorem dX6_takeTick_26 : decode cX6_takeTick 26 = .ok (.invokevirtual 27, 3) := by decide +kernel
theorem dX6_takeTick_29 : decode cX6_takeTick 29 = .ok (.iconst 0, 1) := by decide +kernel
theorem dX6_takeTick_30 : decode cX6_takeTick 30 = .ok (.ireturn, 1) := by decide +kernel
theorem dX6_warm_0 : decode cX6_warm 0 = .ok (.aload_n 0, 1) := by decide +kernel
theorem dX6_warm_1 : decode cX6_warm 1 = .ok (.dup, 1) := by decide +kernel
theorem dX6_warm_2 : decode cX6_warm 2 = .ok (.getfield 15, 3) := by decide +kernel
theorem dX6_warm_5 : decode cX6_warm 5 = .ok (.iconst 1, 1) := by decide +kernel
theorem dX6_warm_6 : decode cX6_warm 6 = .ok (.isub, 1) := by decide +kernel
theorem dX6_warm_7 : decode cX6_warm 7 = .ok (.putfield 15, 3) := by decide +kernel
theorem dX6_warm_10 : decode cX6_warm 10 = .ok (.aload_n 0, 1) := by decide +kernel
theorem dX6_warm_11 : decode cX6_warm 11 = .ok (.getfield 15, 3) := by decide +kernel
theorem dX6_warm_14 : decode cX6_warm 14 = .ok (.ifCond .gt 8, 3) := by decide +kernel
theorem dX6_warm_17 : decode cX6_warm 17 = .ok (.aload_n 0, 1) := by decide +kernel
theorem dX6_warm_18 : decode cX6_warm 18 = .ok (.iconst 2, 1) := by decide +kernel
theorem dX6_warm_19 : decode cX6_warm 19 = .ok (.putfield 9, 3) := by decide +kernel
theorem dX6_warm_22 : decode cX6_warm 22 = .ok (.return_, 1) := by decide +kernel
set_option maxRecDepth 20000 in
theorem ggX7_init_X2_init : GoodIn wsX7_init wsX2_init := goodIn_r _ [33, 34, 2, 3, 35, 36, 37, 38, 39, 40, 41, 42, 43, 44, 45, 46, 47, 48, 49, 50, 51, 52, 53, 54, 55, 56, 113, 114, 115, 78, 79, 80, 81, 82] (by decide +kernel) (by decide +kernel)
set_option maxRecDepth 20000 in
theorem gX7_init_X2_init_n9 : GoodIn wsX7_init (wsX2_init) := ggX7_init_X2_init
set_option maxRecDepth 20000 in
theorem ggX7_init_X3_init : GoodIn wsX7_init wsX3_init := goodIn_r _ [58, 59, 2, 3, 16, 60, 97, 98] (by decide +kernel) (by decide +kernel)
set_option maxRecDepth 20000 in
theorem gX7_init_X3_init_n18 : GoodIn wsX7_init (wsX3_init) := ggX7_init_X3_init
set_option maxRecDepth 20000 in
theorem ggX7_init_X0_init : GoodIn wsX7_init wsX0_init := goodIn_r _ [62, 63, 2, 3, 64, 9, 10, 65, 16, 66, 67, 68, 69, 57, 58, 59, 60, 97, 98, 99, 100, 101, 102, 103, 104, 105] (by decide +kernel) (by decide +kernel)
set_option maxRecDepth 20000 in
theorem gX7_init_X0_init_n25 : GoodIn wsX7_init (wsX0_init) := ggX7_init_X0_init
set_option maxRecDepth 20000 in
theorem ggX7_init_X5_init : GoodIn wsX7_init wsX5_init := goodIn_r _ [71, 72, 2, 3, 73, 106, 107, 108, 109] (by decide +kernel) (by decide +kernel)
set_option maxRecDepth 20000 in
theorem gX7_init_X5_init_n43 : GoodIn wsX7_init (wsX5_init) := ggX7_init_X5_init
set_option maxRecDepth 20000 in
theorem ggX7_init_X6_init : GoodIn wsX7_init wsX6_init := goodIn_r _ [75, 76, 2, 3, 77, 110, 111, 112] (by decide +kernel) (by decide +kernel)
set_option maxRecDepth 20000 in
theorem gX7_init_X6_init_n50 : GoodIn wsX7_init (wsX6_init) := ggX7_init_X6_init
theorem dX7_init_0 : decode cX7_init 0 = .ok (.aload_n 0, 1) := by decide +kernel
theorem dX7_init_1 : decode cX7_init 1 = .ok (.invokespecial 1, 3) := by decide +kernel
theorem dX7_init_4 : decode cX7_init 4 = .ok (.aload_n 0, 1) := by decide +kernel
theorem dX7_init_5 : decode cX7_init 5 = .ok (.new 7, 3) := by decide +kernel
theorem dX7_init_8 : decode cX7_init 8 = .ok (.dup, 1) := by decide +kernel
theorem dX7_init_9 : decode cX7_init 9 = .ok (.invokespecial 9, 3) := by decide +kernel
theorem dX7_init_12 : decode cX7_init 12 = .ok (.putfield 10, 3) := by decide +kernel
theorem dX7_init_15 : decode cX7_init 15 = .ok (.aload_n 0, 1) := by decide +kernel
theorem dX7_init_16 : decode cX7_init 16 = .ok (.new 16, 3) := by decide +kernel
theorem dX7_init_19 : decode cX7_init 19 = .ok (.dup, 1) := by decide +kernel
theorem dX7_init_20 : decode cX7_init 20 = .ok (.invokespecial 18, 3) := by decide +kernel
theorem dX7_init_23 : decode cX7_init 23 = .ok (.putfield 19, 3) := by decide +kernel
theorem dX7_init_26 : decode cX7_init 26 = .ok (.aload_n 0, 1) := by decide +kernel
theorem dX7_init_27 : decode cX7_init 27 = .ok (.new 23, 3) := by decide +kernel
theorem dX7_init_30 : decode cX7_init 30 = .ok (.dup, 1) := by decide +kernel
theorem dX7_init_31 : decode cX7_init 31 = .ok (.invokespecial 25, 3) := by decide +kernel
theorem dX7_init_34 : decode cX7_init 34 = .ok (.putfield 26, 3) := by decide +kernel
theorem dX7_init_37 : decode cX7_init 37 = .ok (.aload_n 0, 1) := by decide +kernel
theorem dX7_init_38 : decode cX7_init 38 = .ok (.bipush 6, 2) := by decide +kernel
theorem dX7_init_40 : decode cX7_init 40 = .ok (.newarray .int, 2) := by decide +kernel
theorem dX7_init_42 : decode cX7_init 42 = .ok (.putfield 30, 3) := by decide +kernel
theorem dX7_init_45 : decode cX7_init 45 = .ok (.iconst 0, 1) := by decide +kernel
theorem dX7_init_46 : decode cX7_init 46 = .ok (.istore_n 1, 1) := by decide +kernel
theorem dX7_init_47 : decode cX7_init 47 = .ok (.iload_n 1, 1) := by decide +kernel
theorem dX7_init_48 : decode cX7_init 48 = .ok (.bipush 6, 2) := by decide +kernel
theorem dX7_init_50 : decode cX7_init 50 = .ok (.if_icmp .ge 18, 3) := by decide +kernel
theorem dX7_init_53 : decode cX7_init 53 = .ok (.aload_n 0, 1) := by decide +kernel
theorem dX7_init_54 : decode cX7_init 54 = .ok (.getfield 30, 3) := by decide +kernel
theorem dX7_init_57 : decode cX7_init 57 = .ok (.iload_n 1, 1) := by decide +kernel
theorem dX7_init_58 : decode cX7_init 58 = .ok (.sipush 3000, 3) := by decide +kernel
theorem dX7_init_61 : decode cX7_init 61 = .ok (.iastore, 1) := by decide +kernel
theorem dX7_init_62 : decode cX7_init 62 = .ok (.iinc 1 1, 3) := by decide +kernel
theorem dX7_init_65 : decode cX7_init 65 = .ok (.goto (-18), 3) := by decide +kernel
theorem dX7_init_68 : decode cX7_init 68 = .ok (.aload_n 0, 1) := by decide +kernel
theorem dX7_init_69 : decode cX7_init 69 = .ok (.bipush 6, 2) := by decide +kernel
theorem dX7_init_71 : decode cX7_init 71 = .ok (.newarray .int, 2) := by decide +kernel
theorem dX7_init_73 : decode cX7_init 73 = .ok (.putfield 34, 3) := by decide +kernel
theorem dX7_init_76 : decode cX7_init 76 = .ok (.aload_n 0, 1) := by decide +kernel
theorem dX7_init_77 : decode cX7_init 77 = .ok (.bipush 100, 2) := by decide +kernel
theorem dX7_init_79 : decode cX7_init 79 = .ok (.putfield 37, 3) := by decide +kernel
theorem dX7_init_82 : decode cX7_init 82 = .ok (.aload_n 0, 1) := by decide +kernel
theorem dX7_init_83 : decode cX7_init 83 = .ok (.new 41, 3) := by decide +kernel
theorem dX7_init_86 : decode cX7_init 86 = .ok (.dup, 1) := by decide +kernel
theorem dX7_init_87 : decode cX7_init 87 = .ok (.invokespecial 43, 3) := by decide +kernel
theorem dX7_init_90 : decode cX7_init 90 = .ok (.putfield 44, 3) := by decide +kernel
theorem dX7_init_93 : decode cX7_init 93 = .ok (.aload_n 0, 1) := by decide +kernel
theorem dX7_init_94 : decode cX7_init 94 = .ok (.new 48, 3) := by decide +kernel
theorem dX7_init_97 : decode cX7_init 97 = .ok (.dup, 1) := by decide +kernel
theorem dX7_init_98 : decode cX7_init 98 = .ok (.invokespecial 50, 3) := by decide +kernel
theorem dX7_init_101 : decode cX7_init 101 = .ok (.putfield 51, 3) := by decide +kernel
theorem dX7_init_104 : decode cX7_init 104 = .ok (.aload_n 0, 1) := by decide +kernel
theorem dX7_init_105 : decode cX7_init 105 = .ok (.bipush 24, 2) := by decide +kernel
theorem dX7_init_107 : decode cX7_init 107 = .ok (.newarray .int, 2) := by decide +kernel
theorem dX7_init_109 : decode cX7_init 109 = .ok (.putfield 55, 3) := by decide +kernel
theorem dX7_init_112 : decode cX7_init 112 = .ok (.aload_n 0, 1) := by decide +kernel
theorem dX7_init_113 : decode cX7_init 113 = .ok (.bipush 24, 2) := by decide +kernel
theorem dX7_init_115 : decode cX7_init 115 = .ok (.newarray .int, 2) := by decide +kernel
theorem dX7_init_117 : decode cX7_init 117 = .ok (.putfield 58, 3) := by decide +kernel
theorem dX7_init_120 : decode cX7_init 120 = .ok (.aload_n 0, 1) := by decide +kernel
theorem dX7_init_121 : decode cX7_init 121 = .ok (.bipush 13, 2) := by decide +kernel
theorem dX7_init_123 : decode cX7_init 123 = .ok (.newarray .long, 2) := by decide +kernel
theorem dX7_init_125 : decode cX7_init 125 = .ok (.putfield 61, 3) := by decide +kernel
theorem dX7_init_128 : decode cX7_init 128 = .ok (.return_, 1) := by decide +kernel
set_option maxRecDepth 20000 in
theorem ggX7_mirror_X2_isTaken : GoodIn wsX7_mirror wsX2_isTaken := goodIn_r _ [11, 12, 106, 107, 108, 109, 110] (by decide +kernel) (by decide +kernel)
set_option maxRecDepth 20000 in
theorem gX7_mirror_X2_isTaken : GoodIn wsX7_mirror (wsV RX7 72 RX2 yX2_isTaken wsX2_isTaken) := goodIn_app (goodIn_of _ (by decide +kernel)) ggX7_mirror_X2_isTaken
set_option maxRecDepth 20000 in
theorem ggX7_mirror_Jx4a65c_size_8abf5 : GoodIn wsX7_mirror wsJx4a65c_size_8abf5 := goodIn_r _ [17, 18, 111, 112, 113] (by decide +kernel) (by decide +kernel)
set_option maxRecDepth 20000 in
theorem gX7_mirror_Jx4a65c_size_8abf5 : GoodIn wsX7_mirror (wsV RX7 85 RJx4a65c yJx4a65c_size_8abf5 wsJx4a65c_size_8abf5) := goodIn_app (goodIn_of _ (by decide +kernel)) ggX7_mirror_Jx4a65c_size_8abf5
set_option maxRecDepth 20000 in
theorem ggX7_mirror_X2_put : GoodIn wsX7_mirror wsX2_put := goodIn_r _ [22, 12, 23, 24, 25, 26, 27, 28, 29, 30, 31, 32, 33, 34, 35, 36, 37, 38, 39, 16, 40, 41, 42, 43, 18, 44, 45, 46, 47, 48, 49, 50, 51, 52, 53, 54, 55, 56, 57, 58, 59, 60, 61, 62, 63, 64, 65, 66, 67, 68, 69, 70, 71, 72, 73, 74, 75, 76, 77, 78, 79, 80, 81, 82, 83, 84, 85, 86, 87, 88, 89, 90, 91, 14, 15, 17, 106, 107, 108, 109, 110, 114, 115, 116, 117, 118, 119, 120, 121, 111, 112, 113] (by decide +kernel) (by decide +kernel)
set_option maxRecDepth 20000 in
theorem gX7_mirror_X2_put : GoodIn wsX7_mirror (wsV RX7 93 RX2 yX2_put wsX2_put) := goodIn_app (goodIn_of _ (by decide +kernel)) ggX7_mirror_X2_put
theorem dX7_mirror_0 : decode cX7_mirror 0 = .ok (.iload_n 1, 1) := by decide +kernel
theorem dX7_mirror_1 : decode cX7_mirror 1 = .ok (.ifCond .lt 9, 3) := by decide +kernel
theorem dX7_mirror_4 : decode cX7_mirror 4 = .ok (.iload_n 1, 1) := by decide +kernel
theorem dX7_mirror_5 : decode cX7_mirror 5 = .ok (.bipush 64, 2) := by decide +kernel
theorem dX7_mirror_7 : decode cX7_mirror 7 = .ok (.if_icmp .lt 13, 3) := by decide +kernel
theorem dX7_mirror_10 : decode cX7_mirror 10 = .ok (.new 65, 3) := by decide +kernel
theorem dX7_mirror_13 : decode cX7_mirror 13 = .ok (.dup, 1) := by decide +kernel
theorem dX7_mirror_14 : decode cX7_mirror 14 = .ok (.ldc 67, 2) := by decide +kernel
theorem dX7_mirror_16 : decode cX7_mirror 16 = .ok (.invokespecial 69, 3) := by decide +kernel
theorem dX7_mirror_19 : decode cX7_mirror 19 = .ok (.athrow, 1) := by decide +kernel
theorem dX7_mirror_20 : decode cX7_mirror 20 = .ok (.aload_n 0, 1) := by decide +kernel
theorem dX7_mirror_21 : decode cX7_mirror 21 = .ok (.getfield 10, 3) := by decide +kernel
theorem dX7_mirror_24 : decode cX7_mirror 24 = .ok (.iload_n 1, 1) := by decide +kernel
theorem dX7_mirror_25 : decode cX7_mirror 25 = .ok (.invokevirtual 72, 3) := by decide +kernel
theorem dX7_mirror_28 : decode cX7_mirror 28 = .ok (.ifCond .eq 13, 3) := by decide +kernel
theorem dX7_mirror_31 : decode cX7_mirror 31 = .ok (.new 76, 3) := by decide +kernel
theorem dX7_mirror_34 : decode cX7_mirror 34 = .ok (.dup, 1) := by decide +kernel
theorem dX7_mirror_35 : decode cX7_mirror 35 = .ok (.ldc 78, 2) := by decide +kernel
theorem dX7_mirror_37 : decode cX7_mirror 37 = .ok (.invokespecial 80, 3) := by decide +kernel
theorem dX7_mirror_40 : decode cX7_mirror 40 = .ok (.athrow, 1) := by decide +kernel
theorem dX7_mirror_41 : decode cX7_mirror 41 = .ok (.aload_n 0, 1) := by decide +kernel
theorem dX7_mirror_42 : decode cX7_mirror 42 = .ok (.getfield 10, 3) := by decide +kernel
theorem dX7_mirror_45 : decode cX7_mirror 45 = .ok (.getfield 81, 3) := by decide +kernel
theorem dX7_mirror_48 : decode cX7_mirror 48 = .ok (.invokevirtual 85, 3) := by decide +kernel
theorem dX7_mirror_51 : decode cX7_mirror 51 = .ok (.bipush 12, 2) := by decide +kernel
theorem dX7_mirror_53 : decode cX7_mirror 53 = .ok (.if_icmp .lt 13, 3) := by decide +kernel
theorem dX7_mirror_56 : decode cX7_mirror 56 = .ok (.new 76, 3) := by decide +kernel
theorem dX7_mirror_59 : decode cX7_mirror 59 = .ok (.dup, 1) := by decide +kernel
theorem dX7_mirror_60 : decode cX7_mirror 60 = .ok (.ldc 91, 2) := by decide +kernel
theorem dX7_mirror_62 : decode cX7_mirror 62 = .ok (.invokespecial 80, 3) := by decide +kernel
theorem dX7_mirror_65 : decode cX7_mirror 65 = .ok (.athrow, 1) := by decide +kernel
theorem dX7_mirror_66 : decode cX7_mirror 66 = .ok (.aload_n 0, 1) := by decide +kernel
theorem dX7_mirror_67 : decode cX7_mirror 67 = .ok (.getfield 10, 3) := by decide +kernel
theorem dX7_mirror_70 : decode cX7_mirror 70 = .ok (.iload_n 1, 1) := by decide +kernel
theorem dX7_mirror_71 : decode cX7_mirror 71 = .ok (.invokevirtual 93, 3) := by decide +kernel
theorem dX7_mirror_74 : decode cX7_mirror 74 = .ok (.ireturn, 1) := by decide +kernel
set_option maxRecDepth 20000 in
theorem ggX7_drift_X7_theMirror : GoodIn wsX7_drift wsX7_theMirror := goodIn_ca (goodIn_r _ [13, 14, 15, 16, 17, 18, 19, 20, 21, 22, 23, 24, 25, 26, 27, 28, 29, 30, 31, 32, 33, 34, 35, 36, 37, 38, 39, 40, 41, 55, 56, 57, 58, 59, 60, 61, 62, 63, 64, 65, 66, 67, 68, 69, 70, 71, 72, 73, 74, 75, 76] (by decide +kernel) (by decide +kernel)) (goodIn_sub (fun _ h => List.mem_cons_of_mem _ (List.mem_append_left _ (List.mem_append_right _ h))) (by decide +kernel))
set_option maxRecDepth 20000 in
theorem gX7_drift_X7_theMirror : GoodIn wsX7_drift (wsV RX7 97 RX7 yX7_theMirror wsX7_theMirror) := goodIn_app (goodIn_of _ (by decide +kernel)) ggX7_drift_X7_theMirror
set_option maxRecDepth 20000 in
theorem ggX7_drift_X7_needWithin : GoodIn wsX7_drift wsX7_needWithin := goodIn_ca (goodIn_r _ [44, 45, 46] (by decide +kernel) (by decide +kernel)) (goodIn_sub (fun _ h => List.mem_cons_of_mem _ (List.mem_append_right _ h)) (by decide +kernel))
set_option maxRecDepth 20000 in
theorem gX7_drift_X7_needWithin : GoodIn wsX7_drift (va_wsS RX7 101 yX7_needWithin wsX7_needWithin) := goodIn_app (goodIn_of _ (by decide +kernel)) ggX7_drift_X7_needWithin
theorem dX7_drift_0 : decode cX7_drift 0 = .ok (.aload_n 0, 1) := by decide +kernel
theorem dX7_drift_1 : decode cX7_drift 1 = .ok (.iload_n 1, 1) := by decide +kernel
theorem dX7_drift_2 : decode cX7_drift 2 = .ok (.invokevirtual 97, 3) := by decide +kernel
theorem dX7_drift_5 : decode cX7_drift 5 = .ok (.astore_n 3, 1) := by decide +kernel
theorem dX7_drift_6 : decode cX7_drift 6 = .ok (.iload_n 2, 1) := by decide +kernel
theorem dX7_drift_7 : decode cX7_drift 7 = .ok (.bipush (-6), 2) := by decide +kernel
theorem dX7_drift_9 : decode cX7_drift 9 = .ok (.bipush 6, 2) := by decide +kernel
theorem dX7_drift_11 : decode cX7_drift 11 = .ok (.invokestatic 101, 3) := by decide +kernel
theorem dX7_drift_14 : decode cX7_drift 14 = .ok (.aload_n 3, 1) := by decide +kernel
theorem dX7_drift_15 : decode cX7_drift 15 = .ok (.bipush (-3), 2) := by decide +kernel
theorem dX7_drift_17 : decode cX7_drift 17 = .ok (.iconst 3, 1) := by decide +kernel
theorem dX7_drift_18 : decode cX7_drift 18 = .ok (.aload_n 3, 1) := by decide +kernel
theorem dX7_drift_19 : decode cX7_drift 19 = .ok (.getfield 105, 3) := by decide +kernel
theorem dX7_drift_22 : decode cX7_drift 22 = .ok (.iload_n 2, 1) := by decide +kernel
theorem dX7_drift_23 : decode cX7_drift 23 = .ok (.iadd, 1) := by decide +kernel
theorem dX7_drift_24 : decode cX7_drift 24 = .ok (.invokestatic 110, 3) := by decide +kernel
theorem dX7_drift_27 : decode cX7_drift 27 = .ok (.invokestatic 116, 3) := by decide +kernel
theorem dX7_drift_30 : decode cX7_drift 30 = .ok (.putfield 105, 3) := by decide +kernel
theorem dX7_drift_33 : decode cX7_drift 33 = .ok (.return_, 1) := by decide +kernel
set_option maxRecDepth 20000 in
theorem ggX7_measure_X7_theMirror : GoodIn wsX7_measure wsX7_theMirror := goodIn_ca (goodIn_r _ [8, 9, 10, 3, 11, 12, 13, 14, 15, 16, 17, 18, 19, 20, 21, 22, 23, 24, 25, 26, 27, 28, 29, 30, 31, 32, 33, 34, 35, 108, 109, 110, 111, 112, 113, 114, 115, 116, 117, 118, 119, 120, 121, 122, 123, 124, 125, 126, 127, 128, 129] (by decide +kernel) (by decide +kernel)) (goodIn_sub (fun _ h => List.mem_cons_of_mem _ (List.mem_append_right _ h)) (by decide +kernel))
set_option maxRecDepth 20000 in
theorem gX7_measure_X7_theMirror : GoodIn wsX7_measure (wsV RX7 97 RX7 yX7_theMirror wsX7_theMirror) := goodIn_app (goodIn_of _ (by decide +kernel)) ggX7_measure_X7_theMirror
set_option maxRecDepth 20000 in
theorem ggX7_measure_X2_powerBehind : GoodIn wsX7_measure wsX2_powerBehind := goodIn_r _ [40, 41, 42, 43, 44, 39, 45, 46, 47, 48, 14, 15, 16, 17, 18, 49, 20, 21, 22, 23, 24, 25, 26, 27, 28, 29, 30, 31, 32, 33, 34, 35, 50, 51, 52, 53, 54, 55, 56, 57, 58, 59, 60, 61, 62, 63, 64, 65, 66, 67, 68, 69, 70, 71, 72, 73, 74, 75, 76, 77, 78, 79, 80, 81, 82, 83, 84, 85, 86, 87, 88, 89, 90, 91, 92, 93, 94, 95, 96, 97, 98, 99, 100, 101, 122, 123, 124, 125, 126, 127, 128, 129, 130, 131, 132, 133, 134, 135, 136, 137, 138, 139, 140, 141, 142, 143] (by decide +kernel) (by decide +kernel)
set_option maxRecDepth 20000 in
theorem gX7_measure_X2_powerBehind : GoodIn wsX7_measure (wsV RX7 119 RX2 yX2_powerBehind wsX2_powerBehind) := goodIn_app (goodIn_of _ (by decide +kernel)) ggX7_measure_X2_powerBehind
set_option maxRecDepth 20000 in
theorem ggX7_measure_X4_awry : GoodIn wsX7_measure wsX4_awry := goodIn_r _ [105, 106, 107, 130, 131, 132, 133, 134, 135, 136, 137] (by decide +kernel) (by decide +kernel)
set_option maxRecDepth 20000 in
theorem gX7_measure_X4_awry : GoodIn wsX7_measure (wsV RX7 125 RX4 yX4_awry wsX4_awry) := goodIn_app (goodIn_of _ (by decide +kernel)) ggX7_measure_X4_awry
theorem dX7_measure_0 : decode cX7_measure 0 = .ok (.aload_n 0, 1) := by decide +kernel
theorem dX7_measure_1 : decode cX7_measure 1 = .ok (.iload_n 1, 1) := by decide +kernel
theorem dX7_measure_2 : decode cX7_measure 2 = .ok (.invokevirtual 97, 3) := by decide +kernel
theorem dX7_measure_5 : decode cX7_measure 5 = .ok (.astore_n 2, 1) := by decide +kernel
theorem dX7_measure_6 : decode cX7_measure 6 = .ok (.aload_n 0, 1) := by decide +kernel
theorem dX7_measure_7 : decode cX7_measure 7 = .ok (.getfield 10, 3) := by decide +kernel
theorem dX7_measure_10 : decode cX7_measure 10 = .ok (.aload_n 2, 1) := by decide +kernel
theorem dX7_measure_11 : decode cX7_measure 11 = .ok (.iconst 0, 1) := by decide +kernel
theorem dX7_measure_12 : decode cX7_measure 12 = .ok (.invokevirtual 119, 3) := by decide +kernel
theorem dX7_measure_15 : decode cX7_measure 15 = .ok (.ifCond .ne 13, 3) := by decide +kernel
theorem dX7_measure_18 : decode cX7_measure 18 = .ok (.new 76, 3) := by decide +kernel
theorem dX7_measure_21 : decode cX7_measure 21 = .ok (.dup, 1) := by decide +kernel
theorem dX7_measure_22 : decode cX7_measure 22 = .ok (.ldc 123, 2) := by decide +kernel
theorem dX7_measure_24 : decode cX7_measure 24 = .ok (.invokespecial 80, 3) := by decide +kernel
theorem dX7_measure_27 : decode cX7_measure 27 = .ok (.athrow, 1) := by decide +kernel
theorem dX7_measure_28 : decode cX7_measure 28 = .ok (.aload_n 2, 1) := by decide +kernel
theorem dX7_measure_29 : decode cX7_measure 29 = .ok (.invokevirtual 125, 3) := by decide +kernel
theorem dX7_measure_32 : decode cX7_measure 32 = .ok (.ireturn, 1) := by decide +kernel
set_option maxRecDepth 20000 in
theorem ggX7_correct_X7_theMirror : GoodIn wsX7_correct wsX7_theMirror := goodIn_ca (goodIn_r _ [6, 7, 8, 9, 10, 11, 12, 13, 14, 15, 16, 17, 18, 19, 20, 21, 22, 23, 24, 25, 26, 27, 28, 29, 30, 31, 32, 33, 34, 48, 49, 50, 51, 52, 53, 54, 55, 56, 57, 58, 59, 60, 61, 62, 63, 64, 65, 66, 67, 68, 69] (by decide +kernel) (by decide +kernel)) (goodIn_sub (fun _ h => List.mem_cons_of_mem _ (List.mem_append_left _ (List.mem_append_right _ h))) (by decide +kernel))
set_option maxRecDepth 20000 in
theorem gX7_correct_X7_theMirror : GoodIn wsX7_correct (wsV RX7 97 RX7 yX7_theMirror wsX7_theMirror) := goodIn_app (goodIn_of _ (by decide +kernel)) ggX7_correct_X7_theMirror
set_option maxRecDepth 20000 in
theorem ggX7_correct_X7_needWithin : GoodIn wsX7_correct wsX7_needWithin := goodIn_ca (goodIn_r _ [37, 38, 39] (by decide +kernel) (by decide +kernel)) (goodIn_sub (fun _ h => List.mem_cons_of_mem _ (List.mem_append_right _ h)) (by decide +kernel))
set_option maxRecDepth 20000 in
theorem gX7_correct_X7_needWithin : GoodIn wsX7_correct (va_wsS RX7 101 yX7_needWithin wsX7_needWithin) := goodIn_app (goodIn_of _ (by decide +kernel)) ggX7_correct_X7_needWithin
theorem dX7_correct_0 : decode cX7_correct 0 = .ok (.aload_n 0, 1) := by decide +kernel
theorem dX7_correct_1 : decode cX7_correct 1 = .ok (.iload_n 1, 1) := by decide +kernel
theorem dX7_correct_2 : decode cX7_correct 2 = .ok (.invokevirtual 97, 3) := by decide +kernel
theorem dX7_correct_5 : decode cX7_correct 5 = .ok (.astore_n 3, 1) := by decide +kernel
theorem dX7_correct_6 : decode cX7_correct 6 = .ok (.iload_n 2, 1) := by decide +kernel
theorem dX7_correct_7 : decode cX7_correct 7 = .ok (.bipush (-3), 2) := by decide +kernel
theorem dX7_correct_9 : decode cX7_correct 9 = .ok (.iconst 3, 1) := by decide +kernel
theorem dX7_correct_10 : decode cX7_correct 10 = .ok (.invokestatic 101, 3) := by decide +kernel
theorem dX7_correct_13 : decode cX7_correct 13 = .ok (.aload_n 3, 1) := by decide +kernel
theorem dX7_correct_14 : decode cX7_correct 14 = .ok (.getfield 128, 3) := by decide +kernel
theorem dX7_correct_17 : decode cX7_correct 17 = .ok (.istore 4, 2) := by decide +kernel
theorem dX7_correct_19 : decode cX7_correct 19 = .ok (.aload_n 3, 1) := by decide +kernel
theorem dX7_correct_20 : decode cX7_correct 20 = .ok (.iload_n 2, 1) := by decide +kernel
theorem dX7_correct_21 : decode cX7_correct 21 = .ok (.putfield 128, 3) := by decide +kernel
theorem dX7_correct_24 : decode cX7_correct 24 = .ok (.iload 4, 2) := by decide +kernel
theorem dX7_correct_26 : decode cX7_correct 26 = .ok (.ireturn, 1) := by decide +kernel
set_option maxRecDepth 20000 in
theorem ggX7_aim_X7_theMirror : GoodIn wsX7_aim wsX7_theMirror := goodIn_ca (goodIn_r _ [9, 10, 11, 12, 13, 14, 15, 16, 17, 18, 19, 20, 21, 22, 23, 24, 25, 26, 27, 28, 29, 30, 31, 32, 33, 34, 35, 36, 37, 51, 52, 53, 54, 55, 56, 57, 58, 59, 60, 61, 62, 63, 64, 65, 66, 67, 68, 69, 70, 71, 72] (by decide +kernel) (by decide +kernel)) (goodIn_sub (fun _ h => List.mem_cons_of_mem _ (List.mem_append_left _ (List.mem_append_right _ h))) (by decide +kernel))
set_option maxRecDepth 20000 in
theorem gX7_aim_X7_theMirror : GoodIn wsX7_aim (wsV RX7 97 RX7 yX7_theMirror wsX7_theMirror) := goodIn_app (goodIn_of _ (by decide +kernel)) ggX7_aim_X7_theMirror
set_option maxRecDepth 20000 in
theorem ggX7_aim_X7_needWithin : GoodIn wsX7_aim wsX7_needWithin := goodIn_ca (goodIn_r _ [40, 41, 42] (by decide +kernel) (by decide +kernel)) (goodIn_sub (fun _ h => List.mem_cons_of_mem _ (List.mem_append_right _ h)) (by decide +kernel))
set_option maxRecDepth 20000 in
theorem gX7_aim_X7_needWithin : GoodIn wsX7_aim (va_wsS RX7 101 yX7_needWithin wsX7_needWithin) := goodIn_app (goodIn_of _ (by decide +kernel)) ggX7_aim_X7_needWithin
theorem dX7_aim_0 : decode cX7_aim 0 = .ok (.aload_n 0, 1) := by decide +kernel
theorem dX7_aim_1 : decode cX7_aim 1 = .ok (.iload_n 1, 1) := by decide +kernel
theorem dX7_aim_2 : decode cX7_aim 2 = .ok (.invokevirtual 97, 3) := by decide +kernel
theorem dX7_aim_5 : decode cX7_aim 5 = .ok (.astore_n 3, 1) := by decide +kernel
theorem dX7_aim_6 : decode cX7_aim 6 = .ok (.iload_n 2, 1) := by decide +kernel
theorem dX7_aim_7 : decode cX7_aim 7 = .ok (.iconst (-1), 1) := by decide +kernel
theorem dX7_aim_8 : decode cX7_aim 8 = .ok (.iconst 5, 1) := by decide +kernel
theorem dX7_aim_9 : decode cX7_aim 9 = .ok (.invokestatic 101, 3) := by decide +kernel
theorem dX7_aim_12 : decode cX7_aim 12 = .ok (.aload_n 3, 1) := by decide +kernel
theorem dX7_aim_13 : decode cX7_aim 13 = .ok (.getfield 131, 3) := by decide +kernel
theorem dX7_aim_16 : decode cX7_aim 16 = .ok (.ifCond .eq 13, 3) := by decide +kernel
theorem dX7_aim_19 : decode cX7_aim 19 = .ok (.new 76, 3) := by decide +kernel
theorem dX7_aim_22 : decode cX7_aim 22 = .ok (.dup, 1) := by decide +kernel
theorem dX7_aim_23 : decode cX7_aim 23 = .ok (.ldc 135, 2) := by decide +kernel
theorem dX7_aim_25 : decode cX7_aim 25 = .ok (.invokespecial 80, 3) := by decide +kernel
theorem dX7_aim_28 : decode cX7_aim 28 = .ok (.athrow, 1) := by decide +kernel
theorem dX7_aim_29 : decode cX7_aim 29 = .ok (.aload_n 3, 1) := by decide +kernel
theorem dX7_aim_30 : decode cX7_aim 30 = .ok (.getfield 137, 3) := by decide +kernel
theorem dX7_aim_33 : decode cX7_aim 33 = .ok (.istore 4, 2) := by decide +kernel
theorem dX7_aim_35 : decode cX7_aim 35 = .ok (.aload_n 3, 1) := by decide +kernel
theorem dX7_aim_36 : decode cX7_aim 36 = .ok (.iload_n 2, 1) := by decide +kernel
theorem dX7_aim_37 : decode cX7_aim 37 = .ok (.putfield 137, 3) := by decide +kernel
theorem dX7_aim_40 : decode cX7_aim 40 = .ok (.iload 4, 2) := by decide +kernel
theorem dX7_aim_42 : decode cX7_aim 42 = .ok (.ireturn, 1) := by decide +kernel
set_option maxRecDepth 20000 in
theorem ggX7_fail_X7_theMirror : GoodIn wsX7_fail wsX7_theMirror := goodIn_ca (goodIn_r _ [6, 7, 8, 9, 10, 11, 12, 13, 14, 15, 16, 17, 18, 19, 20, 21, 22, 23, 24, 25, 26, 27, 28, 29, 30, 31, 32, 33, 34, 43, 44, 45, 46, 47, 48, 49, 50, 51, 52, 53, 54, 55, 56, 57, 58, 59, 60, 61, 62, 63, 64] (by decide +kernel) (by decide +kernel)) (goodIn_sub (fun _ h => List.mem_cons_of_mem _ (List.mem_append_right _ h)) (by decide +kernel))
set_option maxRecDepth 20000 in
theorem gX7_fail_X7_theMirror : GoodIn wsX7_fail (wsV RX7 97 RX7 yX7_theMirror wsX7_theMirror) := goodIn_app (goodIn_of _ (by decide +kernel)) ggX7_fail_X7_theMirror
theorem dX7_fail_0 : decode cX7_fail 0 = .ok (.aload_n 0, 1) := by decide +kernel
theorem dX7_fail_1 : decode cX7_fail 1 = .ok (.iload_n 1, 1) := by decide +kernel
theorem dX7_fail_2 : decode cX7_fail 2 = .ok (.invokevirtual 97, 3) := by decide +kernel
theorem dX7_fail_5 : decode cX7_fail 5 = .ok (.astore_n 3, 1) := by decide +kernel
theorem dX7_fail_6 : decode cX7_fail 6 = .ok (.aload_n 3, 1) := by decide +kernel
theorem dX7_fail_7 : decode cX7_fail 7 = .ok (.getfield 131, 3) := by decide +kernel
theorem dX7_fail_10 : decode cX7_fail 10 = .ok (.istore 4, 2) := by decide +kernel
theorem dX7_fail_12 : decode cX7_fail 12 = .ok (.aload_n 3, 1) := by decide +kernel
theorem dX7_fail_13 : decode cX7_fail 13 = .ok (.iload_n 2, 1) := by decide +kernel
theorem dX7_fail_14 : decode cX7_fail 14 = .ok (.putfield 131, 3) := by decide +kernel
theorem dX7_fail_17 : decode cX7_fail 17 = .ok (.iload 4, 2) := by decide +kernel
theorem dX7_fail_19 : decode cX7_fail 19 = .ok (.ireturn, 1) := by decide +kernel
set_option maxRecDepth 20000 in
theorem ggX7_wash_X7_theMirror : GoodIn wsX7_wash wsX7_theMirror := goodIn_ca (goodIn_r _ [10, 11, 12, 3, 13, 14, 15, 16, 17, 18, 19, 20, 21, 22, 23, 24, 25, 26, 27, 28, 29, 30, 31, 32, 33, 34, 35, 36, 37, 48, 49, 50, 51, 52, 53, 54, 55, 56, 57, 58, 59, 60, 61, 70, 71, 72, 73, 74, 75, 76, 77] (by decide +kernel) (by decide +kernel)) (goodIn_sub (fun _ h => List.mem_cons_of_mem _ (List.mem_append_right _ h)) (by decide +kernel))
set_option maxRecDepth 20000 in
theorem gX7_wash_X7_theMirror : GoodIn wsX7_wash (wsV RX7 97 RX7 yX7_theMirror wsX7_theMirror) := goodIn_app (goodIn_of _ (by decide +kernel)) ggX7_wash_X7_theMirror
set_option maxRecDepth 20000 in
theorem ggX7_wash_X2_strengthBehind : GoodIn wsX7_wash wsX2_strengthBehind := goodIn_r _ [42, 43, 44, 45, 41, 46, 47, 70, 71, 72, 73, 74] (by decide +kernel) (by decide +kernel)
set_option maxRecDepth 20000 in
theorem gX7_wash_X2_strengthBehind : GoodIn wsX7_wash (wsV RX7 140 RX2 yX2_strengthBehind wsX2_strengthBehind) := goodIn_app (goodIn_of _ (by decide +kernel)) ggX7_wash_X2_strengthBehind
theorem dX7_wash_0 : decode cX7_wash 0 = .ok (.aload_n 0, 1) := by decide +kernel
theorem dX7_wash_1 : decode cX7_wash 1 = .ok (.iload_n 1, 1) := by decide +kernel
theorem dX7_wash_2 : decode cX7_wash 2 = .ok (.invokevirtual 97, 3) := by decide +kernel
theorem dX7_wash_5 : decode cX7_wash 5 = .ok (.astore_n 2, 1) := by decide +kernel
theorem dX7_wash_6 : decode cX7_wash 6 = .ok (.aload_n 0, 1) := by decide +kernel
theorem dX7_wash_7 : decode cX7_wash 7 = .ok (.getfield 10, 3) := by decide +kernel
theorem dX7_wash_10 : decode cX7_wash 10 = .ok (.iconst 0, 1) := by decide +kernel
theorem dX7_wash_11 : decode cX7_wash 11 = .ok (.invokevirtual 140, 3) := by decide +kernel
theorem dX7_wash_14 : decode cX7_wash 14 = .ok (.ifCond .le 13, 3) := by decide +kernel
theorem dX7_wash_17 : decode cX7_wash 17 = .ok (.new 76, 3) := by decide +kernel
theorem dX7_wash_20 : decode cX7_wash 20 = .ok (.dup, 1) := by decide +kernel
theorem dX7_wash_21 : decode cX7_wash 21 = .ok (.ldc 143, 2) := by decide +kernel
theorem dX7_wash_23 : decode cX7_wash 23 = .ok (.invokespecial 80, 3) := by decide +kernel
theorem dX7_wash_26 : decode cX7_wash 26 = .ok (.athrow, 1) := by decide +kernel
theorem dX7_wash_27 : decode cX7_wash 27 = .ok (.aload_n 0, 1) := by decide +kernel
theorem dX7_wash_28 : decode cX7_wash 28 = .ok (.getfield 145, 3) := by decide +kernel
theorem dX7_wash_31 : decode cX7_wash 31 = .ok (.iconst 3, 1) := by decide +kernel
theorem dX7_wash_32 : decode cX7_wash 32 = .ok (.if_icmp .ge 13, 3) := by decide +kernel
theorem dX7_wash_35 : decode cX7_wash 35 = .ok (.new 76, 3) := by decide +kernel
theorem dX7_wash_38 : decode cX7_wash 38 = .ok (.dup, 1) := by decide +kernel
theorem dX7_wash_39 : decode cX7_wash 39 = .ok (.ldc 148, 2) := by decide +kernel
theorem dX7_wash_41 : decode cX7_wash 41 = .ok (.invokespecial 80, 3) := by decide +kernel
theorem dX7_wash_44 : decode cX7_wash 44 = .ok (.athrow, 1) := by decide +kernel
theorem dX7_wash_45 : decode cX7_wash 45 = .ok (.aload_n 0, 1) := by decide +kernel
theorem dX7_wash_46 : decode cX7_wash 46 = .ok (.dup, 1) := by decide +kernel
theorem dX7_wash_47 : decode cX7_wash 47 = .ok (.getfield 145, 3) := by decide +kernel
theorem dX7_wash_50 : decode cX7_wash 50 = .ok (.iconst 3, 1) := by decide +kernel
theorem dX7_wash_51 : decode cX7_wash 51 = .ok (.isub, 1) := by decide +kernel
theorem dX7_wash_52 : decode cX7_wash 52 = .ok (.putfield 145, 3) := by decide +kernel
theorem dX7_wash_55 : decode cX7_wash 55 = .ok (.aload_n 2, 1) := by decide +kernel
theorem dX7_wash_56 : decode cX7_wash 56 = .ok (.getfield 150, 3) := by decide +kernel
theorem dX7_wash_59 : decode cX7_wash 59 = .ok (.istore_n 3, 1) := by decide +kernel
theorem dX7_wash_60 : decode cX7_wash 60 = .ok (.aload_n 2, 1) := by decide +kernel
theorem dX7_wash_61 : decode cX7_wash 61 = .ok (.iconst 0, 1) := by decide +kernel
theorem dX7_wash_62 : decode cX7_wash 62 = .ok (.putfield 150, 3) := by decide +kernel
theorem dX7_wash_65 : decode cX7_wash 65 = .ok (.iload_n 3, 1) := by decide +kernel
theorem dX7_wash_66 : decode cX7_wash 66 = .ok (.ireturn, 1) := by decide +kernel
set_option maxRecDepth 20000 in
theorem ggX7_mirrorIs_X7_theMirror : GoodIn wsX7_mirrorIs wsX7_theMirror := goodIn_ca (goodIn_r _ [13, 14, 15, 8, 16, 17, 18, 19, 20, 21, 22, 23, 24, 25, 26, 27, 28, 29, 30, 31, 32, 33, 34, 35, 36, 37, 38, 39, 40, 98, 99, 100, 101, 102, 103, 104, 105, 106, 107, 108, 109, 110, 111, 112, 113, 114, 115, 116, 117, 118, 119] (by decide +kernel) (by decide +kernel)) (goodIn_sub (fun _ h => List.mem_cons_of_mem _ (List.mem_append_right _ h)) (by decide +kernel))
set_option maxRecDepth 20000 in
theorem gX7_mirrorIs_X7_theMirror : GoodIn wsX7_mirrorIs (wsV RX7 97 RX7 yX7_theMirror wsX7_theMirror) := goodIn_app (goodIn_of _ (by decide +kernel)) ggX7_mirrorIs_X7_theMirror
set_option maxRecDepth 20000 in
theorem ggX7_mirrorIs_X2_isCovered : GoodIn wsX7_mirrorIs wsX2_isCovered := goodIn_r _ [45, 46, 47, 48, 19, 20, 21, 22, 23, 49, 25, 26, 27, 28, 29, 30, 31, 32, 33, 34, 35, 36, 37, 38, 39, 40, 50, 51, 52, 53, 54, 55, 56, 57, 58, 59, 60, 61, 62, 112, 113, 114, 115, 116, 117, 118, 119, 90, 91, 92, 93, 94, 95, 96, 97, 120, 121, 122, 123, 124, 125] (by decide +kernel) (by decide +kernel)
set_option maxRecDepth 20000 in
theorem gX7_mirrorIs_X2_isCovered : GoodIn wsX7_mirrorIs (wsV RX7 156 RX2 yX2_isCovered wsX2_isCovered) := goodIn_app (goodIn_of _ (by decide +kernel)) ggX7_mirrorIs_X2_isCovered
set_option maxRecDepth 20000 in
theorem ggX7_mirrorIs_X2_isShaded : GoodIn wsX7_mirrorIs wsX2_isShaded := goodIn_r _ [66, 67, 68, 69, 70, 71, 44, 72, 73, 74, 75, 76, 77, 78, 90, 91, 92, 93, 94, 95, 96, 97, 112, 113, 114, 115, 116] (by decide +kernel) (by decide +kernel)
set_option maxRecDepth 20000 in
theorem gX7_mirrorIs_X2_isShaded : GoodIn wsX7_mirrorIs (wsV RX7 160 RX2 yX2_isShaded wsX2_isShaded) := goodIn_app (goodIn_of _ (by decide +kernel)) ggX7_mirrorIs_X2_isShaded
set_option maxRecDepth 20000 in
theorem ggX7_mirrorIs_X4_distance : GoodIn wsX7_mirrorIs wsX4_distance := goodIn_r _ [83, 84, 85, 86, 87, 88, 89, 90, 91, 92, 93, 94, 95, 96, 97] (by decide +kernel) (by decide +kernel)
set_option maxRecDepth 20000 in
theorem gX7_mirrorIs_X4_distance : GoodIn wsX7_mirrorIs (wsV RX7 163 RX4 yX4_distance wsX4_distance) := goodIn_app (goodIn_of _ (by decide +kernel)) ggX7_mirrorIs_X4_distance
theorem dX7_mirrorIs_0 : decode cX7_mirrorIs 0 = .ok (.aload_n 0, 1) := by decide +kernel
theorem dX7_mirrorIs_1 : decode cX7_mirrorIs 1 = .ok (.iload_n 1, 1) := by decide +kernel
theorem dX7_mirrorIs_2 : decode cX7_mirrorIs 2 = .ok (.invokevirtual 97, 3) := by decide +kernel
theorem dX7_mirrorIs_5 : decode cX7_mirrorIs 5 = .ok (.astore_n 3, 1) := by decide +kernel
theorem dX7_mirrorIs_6 : decode cX7_mirrorIs 6 = .ok (.iload_n 2, 1) := by decide +kernel
theorem dX7_mirrorIs_7 : decode cX7_mirrorIs 7 = .ok (.tableswitch 119 0 7 #[45, 50, 55, 60, 65, 78, 96, 114], 45) := by decide +kernel
theorem dX7_mirrorIs_52 : decode cX7_mirrorIs 52 = .ok (.aload_n 3, 1) := by decide +kernel
theorem dX7_mirrorIs_53 : decode cX7_mirrorIs 53 = .ok (.getfield 153, 3) := by decide +kernel
theorem dX7_mirrorIs_56 : decode cX7_mirrorIs 56 = .ok (.ireturn, 1) := by decide +kernel
theorem dX7_mirrorIs_57 : decode cX7_mirrorIs 57 = .ok (.aload_n 3, 1) := by decide +kernel
theorem dX7_mirrorIs_58 : decode cX7_mirrorIs 58 = .ok (.getfield 150, 3) := by decide +kernel
theorem dX7_mirrorIs_61 : decode cX7_mirrorIs 61 = .ok (.ireturn, 1) := by decide +kernel
theorem dX7_mirrorIs_62 : decode cX7_mirrorIs 62 = .ok (.aload_n 3, 1) := by decide +kernel
theorem dX7_mirrorIs_63 : decode cX7_mirrorIs 63 = .ok (.getfield 137, 3) := by decide +kernel
theorem dX7_mirrorIs_66 : decode cX7_mirrorIs 66 = .ok (.ireturn, 1) := by decide +kernel
theorem dX7_mirrorIs_67 : decode cX7_mirrorIs 67 = .ok (.aload_n 3, 1) := by decide +kernel
theorem dX7_mirrorIs_68 : decode cX7_mirrorIs 68 = .ok (.getfield 128, 3) := by decide +kernel
theorem dX7_mirrorIs_71 : decode cX7_mirrorIs 71 = .ok (.ireturn, 1) := by decide +kernel
theorem dX7_mirrorIs_72 : decode cX7_mirrorIs 72 = .ok (.aload_n 3, 1) := by decide +kernel
theorem dX7_mirrorIs_73 : decode cX7_mirrorIs 73 = .ok (.getfield 131, 3) := by decide +kernel
theorem dX7_mirrorIs_76 : decode cX7_mirrorIs 76 = .ok (.ifCond .eq 7, 3) := by decide +kernel
theorem dX7_mirrorIs_79 : decode cX7_mirrorIs 79 = .ok (.iconst 1, 1) := by decide +kernel
theorem dX7_mirrorIs_80 : decode cX7_mirrorIs 80 = .ok (.goto 4, 3) := by decide +kernel
theorem dX7_mirrorIs_83 : decode cX7_mirrorIs 83 = .ok (.iconst 0, 1) := by decide +kernel
theorem dX7_mirrorIs_84 : decode cX7_mirrorIs 84 = .ok (.ireturn, 1) := by decide +kernel
theorem dX7_mirrorIs_85 : decode cX7_mirrorIs 85 = .ok (.aload_n 0, 1) := by decide +kernel
theorem dX7_mirrorIs_86 : decode cX7_mirrorIs 86 = .ok (.getfield 10, 3) := by decide +kernel
theorem dX7_mirrorIs_89 : decode cX7_mirrorIs 89 = .ok (.aload_n 3, 1) := by decide +kernel
theorem dX7_mirrorIs_90 : decode cX7_mirrorIs 90 = .ok (.iconst 0, 1) := by decide +kernel
theorem dX7_mirrorIs_91 : decode cX7_mirrorIs 91 = .ok (.invokevirtual 156, 3) := by decide +kernel
theorem dX7_mirrorIs_94 : decode cX7_mirrorIs 94 = .ok (.ifCond .eq 7, 3) := by decide +kernel
theorem dX7_mirrorIs_97 : decode cX7_mirrorIs 97 = .ok (.iconst 1, 1) := by decide +kernel
theorem dX7_mirrorIs_98 : decode cX7_mirrorIs 98 = .ok (.goto 4, 3) := by decide +kernel
theorem dX7_mirrorIs_101 : decode cX7_mirrorIs 101 = .ok (.iconst 0, 1) := by decide +kernel
theorem dX7_mirrorIs_102 : decode cX7_mirrorIs 102 = .ok (.ireturn, 1) := by decide +kernel
theorem dX7_mirrorIs_103 : decode cX7_mirrorIs 103 = .ok (.aload_n 0, 1) := by decide +kernel
theorem dX7_mirrorIs_104 : decode cX7_mirrorIs 104 = .ok (.getfield 10, 3) := by decide +kernel
theorem dX7_mirrorIs_107 : decode cX7_mirrorIs 107 = .ok (.aload_n 3, 1) := by decide +kernel
theorem dX7_mirrorIs_108 : decode cX7_mirrorIs 108 = .ok (.iconst 0, 1) := by decide +kernel
theorem dX7_mirrorIs_109 : decode cX7_mirrorIs 109 = .ok (.invokevirtual 160, 3) := by decide +kernel
theorem dX7_mirrorIs_112 : decode cX7_mirrorIs 112 = .ok (.ifCond .eq 7, 3) := by decide +kernel
theorem dX7_mirrorIs_115 : decode cX7_mirrorIs 115 = .ok (.iconst 1, 1) := by decide +kernel
theorem dX7_mirrorIs_116 : decode cX7_mirrorIs 116 = .ok (.goto 4, 3) := by decide +kernel
theorem dX7_mirrorIs_119 : decode cX7_mirrorIs 119 = .ok (.iconst 0, 1) := by decide +kernel
theorem dX7_mirrorIs_120 : decode cX7_mirrorIs 120 = .ok (.ireturn, 1) := by decide +kernel
theorem dX7_mirrorIs_121 : decode cX7_mirrorIs 121 = .ok (.aload_n 3, 1) := by decide +kernel
theorem dX7_mirrorIs_122 : decode cX7_mirrorIs 122 = .ok (.invokevirtual 163, 3) := by decide +kernel
theorem dX7_mirrorIs_125 : decode cX7_mirrorIs 125 = .ok (.ireturn, 1) := by decide +kernel
theorem dX7_mirrorIs_126 : decode cX7_mirrorIs 126 = .ok (.new 166, 3) := by decide +kernel
theorem dX7_mirrorIs_129 : decode cX7_mirrorIs 129 = .ok (.dup, 1) := by decide +kernel
theorem dX7_mirrorIs_130 : decode cX7_mirrorIs 130 = .ok (.ldc 168, 2) := by decide +kernel
theorem dX7_mirrorIs_132 : decode cX7_mirrorIs 132 = .ok (.invokespecial 170, 3) := by decide +kernel
theorem dX7_mirrorIs_135 : decode cX7_mirrorIs 135 = .ok (.athrow, 1) := by decide +kernel
set_option maxRecDepth 20000 in
theorem ggX7_power_X7_theMirror : GoodIn wsX7_power wsX7_theMirror := goodIn_ca (goodIn_r _ [6, 7, 8, 1, 9, 10, 11, 12, 13, 14, 15, 16, 17, 18, 19, 20, 21, 22, 23, 24, 25, 26, 27, 28, 29, 30, 31, 32, 33, 105, 106, 107, 108, 109, 110, 111, 112, 113, 114, 115, 116, 117, 118, 119, 120, 121, 122, 123, 124, 125, 126] (by decide +kernel) (by decide +kernel)) (goodIn_sub (fun _ h => List.mem_cons_of_mem _ (List.mem_append_left _ (List.mem_append_right _ h))) (by decide +kernel))
set_option maxRecDepth 20000 in
theorem gX7_power_X7_theMirror : GoodIn wsX7_power (wsV RX7 97 RX7 yX7_theMirror wsX7_theMirror) := goodIn_app (goodIn_of _ (by decide +kernel)) ggX7_power_X7_theMirror
set_option maxRecDepth 20000 in
theorem ggX7_power_X7_needWithin : GoodIn wsX7_power wsX7_needWithin := goodIn_ca (goodIn_r _ [36, 37, 38] (by decide +kernel) (by decide +kernel)) (goodIn_sub (fun _ h => List.mem_cons_of_mem _ (List.mem_append_right _ h)) (by decide +kernel))
set_option maxRecDepth 20000 in
theorem gX7_power_X7_needWithin : GoodIn wsX7_power (va_wsS RX7 101 yX7_needWithin wsX7_needWithin) := goodIn_app (goodIn_of _ (by decide +kernel)) ggX7_power_X7_needWithin
set_option maxRecDepth 20000 in
theorem ggX7_power_X2_powerBehind : GoodIn wsX7_power wsX2_powerBehind := goodIn_r _ [43, 44, 45, 46, 47, 42, 48, 49, 50, 51, 12, 13, 14, 15, 16, 52, 18, 19, 20, 21, 22, 23, 24, 25, 26, 27, 28, 29, 30, 31, 32, 33, 53, 54, 55, 56, 57, 58, 59, 60, 61, 62, 63, 64, 65, 66, 67, 68, 69, 70, 71, 72, 73, 74, 75, 76, 77, 78, 79, 80, 81, 82, 83, 84, 85, 86, 87, 88, 89, 90, 91, 92, 93, 94, 95, 96, 97, 98, 99, 100, 101, 102, 103, 104, 119, 120, 121, 122, 123, 124, 125, 126, 127, 128, 129, 130, 131, 132, 133, 134, 135, 136, 137, 138, 139, 140] (by decide +kernel) (by decide +kernel)
set_option maxRecDepth 20000 in
theorem gX7_power_X2_powerBehind : GoodIn wsX7_power (wsV RX7 119 RX2 yX2_powerBehind wsX2_powerBehind) := goodIn_app (goodIn_of _ (by decide +kernel)) ggX7_power_X2_powerBehind
theorem dX7_power_0 : decode cX7_power 0 = .ok (.aload_n 0, 1) := by decide +kernel
theorem dX7_power_1 : decode cX7_power 1 = .ok (.iload_n 1, 1) := by decide +kernel
theorem dX7_power_2 : decode cX7_power 2 = .ok (.invokevirtual 97, 3) := by decide +kernel
theorem dX7_power_5 : decode cX7_power 5 = .ok (.astore_n 3, 1) := by decide +kernel
theorem dX7_power_6 : decode cX7_power 6 = .ok (.iload_n 2, 1) := by decide +kernel
theorem dX7_power_7 : decode cX7_power 7 = .ok (.iconst 0, 1) := by decide +kernel
theorem dX7_power_8 : decode cX7_power 8 = .ok (.bipush 24, 2) := by decide +kernel
theorem dX7_power_10 : decode cX7_power 10 = .ok (.invokestatic 101, 3) := by decide +kernel
theorem dX7_power_13 : decode cX7_power 13 = .ok (.aload_n 0, 1) := by decide +kernel
theorem dX7_power_14 : decode cX7_power 14 = .ok (.getfield 10, 3) := by decide +kernel
theorem dX7_power_17 : decode cX7_power 17 = .ok (.aload_n 3, 1) := by decide +kernel
theorem dX7_power_18 : decode cX7_power 18 = .ok (.iload_n 2, 1) := by decide +kernel
theorem dX7_power_19 : decode cX7_power 19 = .ok (.invokevirtual 119, 3) := by decide +kernel
theorem dX7_power_22 : decode cX7_power 22 = .ok (.ireturn, 1) := by decide +kernel
set_option maxRecDepth 20000 in
theorem ggX7_haze_X7_needWithin : GoodIn wsX7_haze wsX7_needWithin := goodIn_ca (goodIn_r _ [6, 7, 8] (by decide +kernel) (by decide +kernel)) (goodIn_sub (fun _ h => List.mem_cons_of_mem _ (List.mem_append_right _ h)) (by decide +kernel))
set_option maxRecDepth 20000 in
theorem gX7_haze_X7_needWithin : GoodIn wsX7_haze (va_wsS RX7 101 yX7_needWithin wsX7_needWithin) := goodIn_app (goodIn_of _ (by decide +kernel)) ggX7_haze_X7_needWithin
theorem dX7_haze_0 : decode cX7_haze 0 = .ok (.iload_n 1, 1) := by decide +kernel
theorem dX7_haze_1 : decode cX7_haze 1 = .ok (.iconst 0, 1) := by decide +kernel
theorem dX7_haze_2 : decode cX7_haze 2 = .ok (.bipush 9, 2) := by decide +kernel
theorem dX7_haze_4 : decode cX7_haze 4 = .ok (.invokestatic 101, 3) := by decide +kernel
theorem dX7_haze_7 : decode cX7_haze 7 = .ok (.aload_n 0, 1) := by decide +kernel
theorem dX7_haze_8 : decode cX7_haze 8 = .ok (.getfield 10, 3) := by decide +kernel
theorem dX7_haze_11 : decode cX7_haze 11 = .ok (.getfield 171, 3) := by decide +kernel
theorem dX7_haze_14 : decode cX7_haze 14 = .ok (.istore_n 2, 1) := by decide +kernel
theorem dX7_haze_15 : decode cX7_haze 15 = .ok (.aload_n 0, 1) := by decide +kernel
theorem dX7_haze_16 : decode cX7_haze 16 = .ok (.getfield 10, 3) := by decide +kernel
theorem dX7_haze_19 : decode cX7_haze 19 = .ok (.iload_n 1, 1) := by decide +kernel
theorem dX7_haze_20 : decode cX7_haze 20 = .ok (.putfield 171, 3) := by decide +kernel
theorem dX7_haze_23 : decode cX7_haze 23 = .ok (.iload_n 2, 1) := by decide +kernel
theorem dX7_haze_24 : decode cX7_haze 24 = .ok (.ireturn, 1) := by decide +kernel
set_option maxRecDepth 20000 in
theorem ggX7_cloud_X7_needWithin : GoodIn wsX7_cloud wsX7_needWithin := goodIn_ca (goodIn_r _ [11, 12, 13] (by decide +kernel) (by decide +kernel)) (goodIn_sub (fun _ h => List.mem_cons_of_mem _ (List.mem_append_right _ h)) (by decide +kernel))
set_option maxRecDepth 20000 in
theorem gX7_cloud_X7_needWithin : GoodIn wsX7_cloud (va_wsS RX7 101 yX7_needWithin wsX7_needWithin) := goodIn_app (goodIn_of _ (by decide +kernel)) ggX7_cloud_X7_needWithin
set_option maxRecDepth 20000 in
theorem ggX7_cloud_Jx4a65c_size_8abf5 : GoodIn wsX7_cloud wsJx4a65c_size_8abf5 := goodIn_r _ [18, 19, 111, 112, 113] (by decide +kernel) (by decide +kernel)
set_option maxRecDepth 20000 in
theorem gX7_cloud_Jx4a65c_size_8abf5 : GoodIn wsX7_cloud (wsV RX7 85 RJx4a65c yJx4a65c_size_8abf5 wsJx4a65c_size_8abf5) := goodIn_app (goodIn_of _ (by decide +kernel)) ggX7_cloud_Jx4a65c_size_8abf5
set_option maxRecDepth 20000 in
theorem ggX7_cloud_X1_init : GoodIn wsX7_cloud wsX1_init := goodIn_r _ [22, 23, 24, 25, 26, 27, 28, 29, 30, 31, 105, 106, 107, 108, 109, 110] (by decide +kernel) (by decide +kernel)
set_option maxRecDepth 20000 in
theorem gX7_cloud_X1_init : GoodIn wsX7_cloud (wsX1_init) := ggX7_cloud_X1_init
set_option maxRecDepth 20000 in
theorem ggX7_cloud_Jx4a65c_add_9ea2d : GoodIn wsX7_cloud wsJx4a65c_add_9ea2d := goodIn_r _ [35, 36, 37, 38, 19, 39, 40, 41, 17, 42, 43, 44, 45, 46, 47, 48, 49, 50, 51, 52, 53, 54, 55, 56, 57, 58, 59, 60, 61, 62, 63, 64, 65, 66, 67, 68, 69, 70, 71, 72, 73, 74, 75, 76, 77, 78, 79, 80, 81, 82, 83, 84, 85, 111, 112, 113] (by decide +kernel) (by decide +kernel)
set_option maxRecDepth 20000 in
theorem gX7_cloud_Jx4a65c_add_9ea2d : GoodIn wsX7_cloud (wsV RX7 184 RJx4a65c yJx4a65c_add_9ea2d wsJx4a65c_add_9ea2d) := goodIn_app (goodIn_of _ (by decide +kernel)) ggX7_cloud_Jx4a65c_add_9ea2d
theorem dX7_cloud_0 : decode cX7_cloud 0 = .ok (.iload_n 1, 1) := by decide +kernel
theorem dX7_cloud_1 : decode cX7_cloud 1 = .ok (.bipush (-16), 2) := by decide +kernel
theorem dX7_cloud_3 : decode cX7_cloud 3 = .ok (.bipush 16, 2) := by decide +kernel
theorem dX7_cloud_5 : decode cX7_cloud 5 = .ok (.invokestatic 101, 3) := by decide +kernel
theorem dX7_cloud_8 : decode cX7_cloud 8 = .ok (.iload_n 2, 1) := by decide +kernel
theorem dX7_cloud_9 : decode cX7_cloud 9 = .ok (.bipush (-16), 2) := by decide +kernel
theorem dX7_cloud_11 : decode cX7_cloud 11 = .ok (.bipush 16, 2) := by decide +kernel
theorem dX7_cloud_13 : decode cX7_cloud 13 = .ok (.invokestatic 101, 3) := by decide +kernel
theorem dX7_cloud_16 : decode cX7_cloud 16 = .ok (.iload_n 3, 1) := by decide +kernel
theorem dX7_cloud_17 : decode cX7_cloud 17 = .ok (.iconst 1, 1) := by decide +kernel
theorem dX7_cloud_18 : decode cX7_cloud 18 = .ok (.bipush 8, 2) := by decide +kernel
theorem dX7_cloud_20 : decode cX7_cloud 20 = .ok (.invokestatic 101, 3) := by decide +kernel
theorem dX7_cloud_23 : decode cX7_cloud 23 = .ok (.iload 4, 2) := by decide +kernel
theorem dX7_cloud_25 : decode cX7_cloud 25 = .ok (.iconst 1, 1) := by decide +kernel
theorem dX7_cloud_26 : decode cX7_cloud 26 = .ok (.bipush 8, 2) := by decide +kernel
theorem dX7_cloud_28 : decode cX7_cloud 28 = .ok (.invokestatic 101, 3) := by decide +kernel
theorem dX7_cloud_31 : decode cX7_cloud 31 = .ok (.iload 5, 2) := by decide +kernel
theorem dX7_cloud_33 : decode cX7_cloud 33 = .ok (.iconst (-1), 1) := by decide +kernel
theorem dX7_cloud_34 : decode cX7_cloud 34 = .ok (.iconst 1, 1) := by decide +kernel
theorem dX7_cloud_35 : decode cX7_cloud 35 = .ok (.invokestatic 101, 3) := by decide +kernel
theorem dX7_cloud_38 : decode cX7_cloud 38 = .ok (.iload 6, 2) := by decide +kernel
theorem dX7_cloud_40 : decode cX7_cloud 40 = .ok (.iconst (-1), 1) := by decide +kernel
theorem dX7_cloud_41 : decode cX7_cloud 41 = .ok (.iconst 1, 1) := by decide +kernel
theorem dX7_cloud_42 : decode cX7_cloud 42 = .ok (.invokestatic 101, 3) := by decide +kernel
theorem dX7_cloud_45 : decode cX7_cloud 45 = .ok (.aload_n 0, 1) := by decide +kernel
theorem dX7_cloud_46 : decode cX7_cloud 46 = .ok (.getfield 10, 3) := by decide +kernel
theorem dX7_cloud_49 : decode cX7_cloud 49 = .ok (.getfield 174, 3) := by decide +kernel
theorem dX7_cloud_52 : decode cX7_cloud 52 = .ok (.invokevirtual 85, 3) := by decide +kernel
theorem dX7_cloud_55 : decode cX7_cloud 55 = .ok (.iconst 4, 1) := by decide +kernel
theorem dX7_cloud_56 : decode cX7_cloud 56 = .ok (.if_icmp .lt 13, 3) := by decide +kernel
theorem dX7_cloud_59 : decode cX7_cloud 59 = .ok (.new 76, 3) := by decide +kernel
theorem dX7_cloud_62 : decode cX7_cloud 62 = .ok (.dup, 1) := by decide +kernel
theorem dX7_cloud_63 : decode cX7_cloud 63 = .ok (.ldc 177, 2) := by decide +kernel
theorem dX7_cloud_65 : decode cX7_cloud 65 = .ok (.invokespecial 80, 3) := by decide +kernel
theorem dX7_cloud_68 : decode cX7_cloud 68 = .ok (.athrow, 1) := by decide +kernel
theorem dX7_cloud_69 : decode cX7_cloud 69 = .ok (.aload_n 0, 1) := by decide +kernel
theorem dX7_cloud_70 : decode cX7_cloud 70 = .ok (.getfield 10, 3) := by decide +kernel
theorem dX7_cloud_73 : decode cX7_cloud 73 = .ok (.getfield 174, 3) := by decide +kernel
theorem dX7_cloud_76 : decode cX7_cloud 76 = .ok (.new 179, 3) := by decide +kernel
theorem dX7_cloud_79 : decode cX7_cloud 79 = .ok (.dup, 1) := by decide +kernel
theorem dX7_cloud_80 : decode cX7_cloud 80 = .ok (.iload_n 1, 1) := by decide +kernel
theorem dX7_cloud_81 : decode cX7_cloud 81 = .ok (.iload_n 2, 1) := by decide +kernel
theorem dX7_cloud_82 : decode cX7_cloud 82 = .ok (.iload_n 3, 1) := by decide +kernel
theorem dX7_cloud_83 : decode cX7_cloud 83 = .ok (.iload 4, 2) := by decide +kernel
theorem dX7_cloud_85 : decode cX7_cloud 85 = .ok (.iload 5, 2) := by decide +kernel
theorem dX7_cloud_87 : decode cX7_cloud 87 = .ok (.iload 6, 2) := by decide +kernel
theorem dX7_cloud_89 : decode cX7_cloud 89 = .ok (.invokespecial 181, 3) := by decide +kernel
theorem dX7_cloud_92 : decode cX7_cloud 92 = .ok (.invokevirtual 184, 3) := by decide +kernel
theorem dX7_cloud_95 : decode cX7_cloud 95 = .ok (.pop, 1) := by decide +kernel
theorem dX7_cloud_96 : decode cX7_cloud 96 = .ok (.aload_n 0, 1) := by decide +kernel
theorem dX7_cloud_97 : decode cX7_cloud 97 = .ok (.getfield 10, 3) := by decide +kernel
theorem dX7_cloud_100 : decode cX7_cloud 100 = .ok (.getfield 174, 3) := by decide +kernel
theorem dX7_cloud_103 : decode cX7_cloud 103 = .ok (.invokevirtual 85, 3) := by decide +kernel
theorem dX7_cloud_106 : decode cX7_cloud 106 = .ok (.ireturn, 1) := by decide +kernel
set_option maxRecDepth 20000 in
theorem ggX7_clear_Jx4a65c_size_8abf5 : GoodIn wsX7_clear wsJx4a65c_size_8abf5 := goodIn_r _ [7, 8, 35, 36, 37] (by decide +kernel) (by decide +kernel)
set_option maxRecDepth 20000 in
theorem gX7_clear_Jx4a65c_size_8abf5 : GoodIn wsX7_clear (wsV RX7 85 RJx4a65c yJx4a65c_size_8abf5 wsJx4a65c_size_8abf5) := goodIn_app (goodIn_of _ (by decide +kernel)) ggX7_clear_Jx4a65c_size_8abf5
set_option maxRecDepth 20000 in
theorem ggX7_clear_Jx4a65c_clear_da8c8 : GoodIn wsX7_clear wsJx4a65c_clear_da8c8 := goodIn_r _ [12, 13, 14, 15, 8, 35, 36, 37] (by decide +kernel) (by decide +kernel)
set_option maxRecDepth 20000 in
theorem gX7_clear_Jx4a65c_clear_da8c8 : GoodIn wsX7_clear (wsV RX7 188 RJx4a65c yJx4a65c_clear_da8c8 wsJx4a65c_clear_da8c8) := goodIn_app (goodIn_of _ (by decide +kernel)) ggX7_clear_Jx4a65c_clear_da8c8
theorem dX7_clear_0 : decode cX7_clear 0 = .ok (.aload_n 0, 1) := by decide +kernel
theorem dX7_clear_1 : decode cX7_clear 1 = .ok (.getfield 10, 3) := by decide +kernel
theorem dX7_clear_4 : decode cX7_clear 4 = .ok (.getfield 174, 3) := by decide +kernel
theorem dX7_clear_7 : decode cX7_clear 7 = .ok (.invokevirtual 85, 3) := by decide +kernel
theorem dX7_clear_10 : decode cX7_clear 10 = .ok (.istore_n 1, 1) := by decide +kernel
theorem dX7_clear_11 : decode cX7_clear 11 = .ok (.aload_n 0, 1) := by decide +kernel
theorem dX7_clear_12 : decode cX7_clear 12 = .ok (.getfield 10, 3) := by decide +kernel
theorem dX7_clear_15 : decode cX7_clear 15 = .ok (.getfield 174, 3) := by decide +kernel
theorem dX7_clear_18 : decode cX7_clear 18 = .ok (.invokevirtual 188, 3) := by decide +kernel
theorem dX7_clear_21 : decode cX7_clear 21 = .ok (.iload_n 1, 1) := by decide +kernel
theorem dX7_clear_22 : decode cX7_clear 22 = .ok (.ireturn, 1) := by decide +kernel
set_option maxRecDepth 20000 in
theorem ggX7_bound_X7_needPanel : GoodIn wsX7_bound wsX7_needPanel := goodIn_ca (goodIn_r _ [5, 6, 7] (by decide +kernel) (by decide +kernel)) (goodIn_sub (fun _ h => List.mem_cons_of_mem _ (List.mem_append_left _ (List.mem_append_right _ h))) (by decide +kernel))
set_option maxRecDepth 20000 in
theorem gX7_bound_X7_needPanel : GoodIn wsX7_bound (va_wsS RX7 191 yX7_needPanel wsX7_needPanel) := goodIn_app (goodIn_of _ (by decide +kernel)) ggX7_bound_X7_needPanel
set_option maxRecDepth 20000 in
theorem ggX7_bound_X7_needWithin : GoodIn wsX7_bound wsX7_needWithin := goodIn_ca (goodIn_r _ [10, 11, 12] (by decide +kernel) (by decide +kernel)) (goodIn_sub (fun _ h => List.mem_cons_of_mem _ (List.mem_append_right _ h)) (by decide +kernel))
set_option maxRecDepth 20000 in
theorem gX7_bound_X7_needWithin : GoodIn wsX7_bound (va_wsS RX7 101 yX7_needWithin wsX7_needWithin) := goodIn_app (goodIn_of _ (by decide +kernel)) ggX7_bound_X7_needWithin
theorem dX7_bound_0 : decode cX7_bound 0 = .ok (.iload_n 1, 1) := by decide +kernel
theorem dX7_bound_1 : decode cX7_bound 1 = .ok (.invokestatic 191, 3) := by decide +kernel
theorem dX7_bound_4 : decode cX7_bound 4 = .ok (.iload_n 2, 1) := by decide +kernel
theorem dX7_bound_5 : decode cX7_bound 5 = .ok (.iconst 0, 1) := by decide +kernel
theorem dX7_bound_6 : decode cX7_bound 6 = .ok (.sipush 9999, 3) := by decide +kernel
theorem dX7_bound_9 : decode cX7_bound 9 = .ok (.invokestatic 101, 3) := by decide +kernel
theorem dX7_bound_12 : decode cX7_bound 12 = .ok (.aload_n 0, 1) := by decide +kernel
theorem dX7_bound_13 : decode cX7_bound 13 = .ok (.getfield 30, 3) := by decide +kernel
theorem dX7_bound_16 : decode cX7_bound 16 = .ok (.iload_n 1, 1) := by decide +kernel
theorem dX7_bound_17 : decode cX7_bound 17 = .ok (.iaload, 1) := by decide +kernel
theorem dX7_bound_18 : decode cX7_bound 18 = .ok (.istore_n 3, 1) := by decide +kernel
theorem dX7_bound_19 : decode cX7_bound 19 = .ok (.aload_n 0, 1) := by decide +kernel
theorem dX7_bound_20 : decode cX7_bound 20 = .ok (.getfield 30, 3) := by decide +kernel
theorem dX7_bound_23 : decode cX7_bound 23 = .ok (.iload_n 1, 1) := by decide +kernel
theorem dX7_bound_24 : decode cX7_bound 24 = .ok (.iload_n 2, 1) := by decide +kernel
theorem dX7_bound_25 : decode cX7_bound 25 = .ok (.iastore, 1) := by decide +kernel
theorem dX7_bound_26 : decode cX7_bound 26 = .ok (.iload_n 3, 1) := by decide +kernel
theorem dX7_bound_27 : decode cX7_bound 27 = .ok (.ireturn, 1) := by decide +kernel
set_option maxRecDepth 20000 in
theorem ggX7_flux_X7_needPanel : GoodIn wsX7_flux wsX7_needPanel := goodIn_ca (goodIn_r _ [7, 8, 9] (by decide +kernel) (by decide +kernel)) (goodIn_sub (fun _ h => List.mem_cons_of_mem _ (List.mem_append_right _ h)) (by decide +kernel))
set_option maxRecDepth 20000 in
theorem gX7_flux_X7_needPanel : GoodIn wsX7_flux (va_wsS RX7 191 yX7_needPanel wsX7_needPanel) := goodIn_app (goodIn_of _ (by decide +kernel)) ggX7_flux_X7_needPanel
set_option maxRecDepth 20000 in
theorem ggX7_flux_X2_shineOn : GoodIn wsX7_flux wsX2_shineOn := goodIn_r _ [14, 15, 16, 17, 18, 19, 20, 21, 22, 23, 24, 25, 26, 27, 28, 29, 30, 31, 32, 33, 34, 35, 36, 37, 38, 39, 40, 41, 42, 43, 44, 45, 46, 47, 48, 6, 49, 50, 51, 52, 53, 54, 55, 56, 57, 58, 59, 60, 61, 62, 63, 64, 13, 65, 66, 67, 68, 69, 70, 71, 72, 73, 74, 75, 76, 77, 78, 79, 80, 81, 82, 83, 84, 85, 86, 87, 88, 89, 90, 91, 92, 93, 94, 95, 96, 97, 98, 99, 100, 101, 102, 103, 104, 105, 106, 107, 108, 109, 110, 111, 112, 113, 114, 115, 116, 117, 118, 119, 120, 121, 122, 123, 124, 125, 126, 127, 128, 129, 130, 131, 132, 133, 134, 135, 152, 153, 154, 155, 156, 157, 158, 159, 160, 161, 162, 163, 164, 150, 151, 165, 166, 167, 168, 169, 170, 171, 172, 173] (by decide +kernel) (by decide +kernel)
set_option maxRecDepth 20000 in
theorem gX7_flux_X2_shineOn : GoodIn wsX7_flux (wsV RX7 195 RX2 yX2_shineOn wsX2_shineOn) := goodIn_app (goodIn_of _ (by decide +kernel)) ggX7_flux_X2_shineOn
theorem dX7_flux_0 : decode cX7_flux 0 = .ok (.iload_n 1, 1) := by decide +kernel
theorem dX7_flux_1 : decode cX7_flux 1 = .ok (.invokestatic 191, 3) := by decide +kernel
theorem dX7_flux_4 : decode cX7_flux 4 = .ok (.aload_n 0, 1) := by decide +kernel
theorem dX7_flux_5 : decode cX7_flux 5 = .ok (.getfield 10, 3) := by decide +kernel
theorem dX7_flux_8 : decode cX7_flux 8 = .ok (.aload_n 0, 1) := by decide +kernel
theorem dX7_flux_9 : decode cX7_flux 9 = .ok (.getfield 19, 3) := by decide +kernel
theorem dX7_flux_12 : decode cX7_flux 12 = .ok (.iconst 0, 1) := by decide +kernel
theorem dX7_flux_13 : decode cX7_flux 13 = .ok (.invokevirtual 195, 3) := by decide +kernel
theorem dX7_flux_16 : decode cX7_flux 16 = .ok (.aload_n 0, 1) := by decide +kernel
theorem dX7_flux_17 : decode cX7_flux 17 = .ok (.getfield 19, 3) := by decide +kernel
theorem dX7_flux_20 : decode cX7_flux 20 = .ok (.getfield 199, 3) := by decide +kernel
theorem dX7_flux_23 : decode cX7_flux 23 = .ok (.iload_n 1, 1) := by decide +kernel
theorem dX7_flux_24 : decode cX7_flux 24 = .ok (.iaload, 1) := by decide +kernel
theorem dX7_flux_25 : decode cX7_flux 25 = .ok (.ireturn, 1) := by decide +kernel
set_option maxRecDepth 20000 in
theorem ggX7_fluxAnew_X7_needPanel : GoodIn wsX7_fluxAnew wsX7_needPanel := goodIn_ca (goodIn_r _ [8, 9, 10] (by decide +kernel) (by decide +kernel)) (goodIn_sub (fun _ h => List.mem_cons_of_mem _ (List.mem_append_right _ h)) (by decide +kernel))
set_option maxRecDepth 20000 in
theorem gX7_fluxAnew_X7_needPanel : GoodIn wsX7_fluxAnew (va_wsS RX7 191 yX7_needPanel wsX7_needPanel) := goodIn_app (goodIn_of _ (by decide +kernel)) ggX7_fluxAnew_X7_needPanel
set_option maxRecDepth 20000 in
theorem ggX7_fluxAnew_Jx4a65c_size_8abf5 : GoodIn wsX7_fluxAnew wsJx4a65c_size_8abf5 := goodIn_r _ [15, 16, 146, 147, 148] (by decide +kernel) (by decide +kernel)
set_option maxRecDepth 20000 in
theorem gX7_fluxAnew_Jx4a65c_size_8abf5 : GoodIn wsX7_fluxAnew (wsV RX7 85 RJx4a65c yJx4a65c_size_8abf5 wsJx4a65c_size_8abf5) := goodIn_app (goodIn_of _ (by decide +kernel)) ggX7_fluxAnew_Jx4a65c_size_8abf5
set_option maxRecDepth 20000 in
theorem ggX7_fluxAnew_Jx4a65c_get_915e3 : GoodIn wsX7_fluxAnew wsJx4a65c_get_915e3 := goodIn_r _ [20, 16, 21, 22, 23, 24, 25, 26, 27, 28, 29, 30, 31, 14, 32, 33, 146, 147, 148] (by decide +kernel) (by decide +kernel)
set_option maxRecDepth 20000 in
theorem gX7_fluxAnew_Jx4a65c_get_915e3 : GoodIn wsX7_fluxAnew (wsV RX7 202 RJx4a65c yJx4a65c_get_915e3 wsJx4a65c_get_915e3) := goodIn_app (goodIn_of _ (by decide +kernel)) ggX7_fluxAnew_Jx4a65c_get_915e3
set_option maxRecDepth 20000 in
theorem ggX7_fluxAnew_X2_tenthOf : GoodIn wsX7_fluxAnew wsX2_tenthOf := goodIn_r _ [38, 39, 40, 41, 37, 42, 43, 44, 45, 46, 47, 48, 49, 50, 12, 13, 14, 15, 16, 51, 18, 19, 20, 21, 22, 23, 24, 25, 26, 27, 28, 29, 30, 31, 32, 33, 52, 53, 54, 55, 56, 57, 58, 59, 60, 61, 62, 63, 64, 65, 66, 67, 68, 69, 70, 71, 72, 73, 74, 75, 76, 77, 78, 79, 80, 81, 82, 83, 84, 85, 86, 87, 88, 89, 90, 91, 92, 93, 94, 95, 96, 97, 98, 99, 100, 101, 102, 103, 133, 134, 135, 136, 137, 146, 147, 148, 138, 139, 140, 141, 142, 143, 144, 145, 149, 150, 151, 152, 153, 154] (by decide +kernel) (by decide +kernel)
set_option maxRecDepth 20000 in
theorem gX7_fluxAnew_X2_tenthOf : GoodIn wsX7_fluxAnew (wsV RX7 206 RX2 yX2_tenthOf wsX2_tenthOf) := goodIn_app (goodIn_of _ (by decide +kernel)) ggX7_fluxAnew_X2_tenthOf
set_option maxRecDepth 20000 in
theorem ggX7_fluxAnew_X4_placeOf : GoodIn wsX7_fluxAnew wsX4_placeOf := goodIn_r _ [107, 108, 109, 110, 97, 111, 112, 113, 114, 115, 116, 117, 118, 138, 139, 140, 141, 142, 143, 144, 145] (by decide +kernel) (by decide +kernel)
set_option maxRecDepth 20000 in
theorem gX7_fluxAnew_X4_placeOf : GoodIn wsX7_fluxAnew (wsV RX7 210 RX4 yX4_placeOf wsX4_placeOf) := goodIn_app (goodIn_of _ (by decide +kernel)) ggX7_fluxAnew_X4_placeOf
theorem dX7_fluxAnew_0 : decode cX7_fluxAnew 0 = .ok (.iload_n 1, 1) := by decide +kernel
theorem dX7_fluxAnew_1 : decode cX7_fluxAnew 1 = .ok (.invokestatic 191, 3) := by decide +kernel
theorem dX7_fluxAnew_4 : decode cX7_fluxAnew 4 = .ok (.iconst 0, 1) := by decide +kernel
theorem dX7_fluxAnew_5 : decode cX7_fluxAnew 5 = .ok (.istore_n 2, 1) := by decide +kernel
theorem dX7_fluxAnew_6 : decode cX7_fluxAnew 6 = .ok (.iconst 0, 1) := by decide +kernel
theorem dX7_fluxAnew_7 : decode cX7_fluxAnew 7 = .ok (.istore_n 3, 1) := by decide +kernel
theorem dX7_fluxAnew_8 : decode cX7_fluxAnew 8 = .ok (.iload_n 3, 1) := by decide +kernel
theorem dX7_fluxAnew_9 : decode cX7_fluxAnew 9 = .ok (.aload_n 0, 1) := by decide +kernel
theorem dX7_fluxAnew_10 : decode cX7_fluxAnew 10 = .ok (.getfield 10, 3) := by decide +kernel
theorem dX7_fluxAnew_13 : decode cX7_fluxAnew 13 = .ok (.getfield 81, 3) := by decide +kernel
theorem dX7_fluxAnew_16 : decode cX7_fluxAnew 16 = .ok (.invokevirtual 85, 3) := by decide +kernel
theorem dX7_fluxAnew_19 : decode cX7_fluxAnew 19 = .ok (.if_icmp .ge 80, 3) := by decide +kernel
theorem dX7_fluxAnew_22 : decode cX7_fluxAnew 22 = .ok (.aload_n 0, 1) := by decide +kernel
theorem dX7_fluxAnew_23 : decode cX7_fluxAnew 23 = .ok (.getfield 10, 3) := by decide +kernel
theorem dX7_fluxAnew_26 : decode cX7_fluxAnew 26 = .ok (.getfield 81, 3) := by decide +kernel
theorem dX7_fluxAnew_29 : decode cX7_fluxAnew 29 = .ok (.iload_n 3, 1) := by decide +kernel
theorem dX7_fluxAnew_30 : decode cX7_fluxAnew 30 = .ok (.invokevirtual 202, 3) := by decide +kernel
theorem dX7_fluxAnew_33 : decode cX7_fluxAnew 33 = .ok (.checkcast 106, 3) := by decide +kernel
theorem dX7_fluxAnew_36 : decode cX7_fluxAnew 36 = .ok (.astore 4, 2) := by decide +kernel
theorem dX7_fluxAnew_38 : decode cX7_fluxAnew 38 = .ok (.aload 4, 2) := by decide +kernel
theorem dX7_fluxAnew_40 : decode cX7_fluxAnew 40 = .ok (.getfield 137, 3) := by decide +kernel
theorem dX7_fluxAnew_43 : decode cX7_fluxAnew 43 = .ok (.iconst (-1), 1) := by decide +kernel
theorem dX7_fluxAnew_44 : decode cX7_fluxAnew 44 = .ok (.if_icmp .ne 6, 3) := by decide +kernel
theorem dX7_fluxAnew_47 : decode cX7_fluxAnew 47 = .ok (.goto 46, 3) := by decide +kernel
theorem dX7_fluxAnew_50 : decode cX7_fluxAnew 50 = .ok (.aload_n 0, 1) := by decide +kernel
theorem dX7_fluxAnew_51 : decode cX7_fluxAnew 51 = .ok (.getfield 10, 3) := by decide +kernel
theorem dX7_fluxAnew_54 : decode cX7_fluxAnew 54 = .ok (.aload 4, 2) := by decide +kernel
theorem dX7_fluxAnew_56 : decode cX7_fluxAnew 56 = .ok (.invokevirtual 206, 3) := by decide +kernel
theorem dX7_fluxAnew_59 : decode cX7_fluxAnew 59 = .ok (.istore 5, 2) := by decide +kernel
theorem dX7_fluxAnew_61 : decode cX7_fluxAnew 61 = .ok (.iconst 0, 1) := by decide +kernel
theorem dX7_fluxAnew_62 : decode cX7_fluxAnew 62 = .ok (.istore 6, 2) := by decide +kernel
theorem dX7_fluxAnew_64 : decode cX7_fluxAnew 64 = .ok (.iload 6, 2) := by decide +kernel
theorem dX7_fluxAnew_66 : decode cX7_fluxAnew 66 = .ok (.bipush 10, 2) := by decide +kernel
theorem dX7_fluxAnew_68 : decode cX7_fluxAnew 68 = .ok (.if_icmp .ge 25, 3) := by decide +kernel
theorem dX7_fluxAnew_71 : decode cX7_fluxAnew 71 = .ok (.aload 4, 2) := by decide +kernel
theorem dX7_fluxAnew_73 : decode cX7_fluxAnew 73 = .ok (.iload 6, 2) := by decide +kernel
theorem dX7_fluxAnew_75 : decode cX7_fluxAnew 75 = .ok (.invokevirtual 210, 3) := by decide +kernel
theorem dX7_fluxAnew_78 : decode cX7_fluxAnew 78 = .ok (.iload_n 1, 1) := by decide +kernel
theorem dX7_fluxAnew_79 : decode cX7_fluxAnew 79 = .ok (.if_icmp .ne 8, 3) := by decide +kernel
theorem dX7_fluxAnew_82 : decode cX7_fluxAnew 82 = .ok (.iload_n 2, 1) := by decide +kernel
theorem dX7_fluxAnew_83 : decode cX7_fluxAnew 83 = .ok (.iload 5, 2) := by decide +kernel
theorem dX7_fluxAnew_85 : decode cX7_fluxAnew 85 = .ok (.iadd, 1) := by decide +kernel
theorem dX7_fluxAnew_86 : decode cX7_fluxAnew 86 = .ok (.istore_n 2, 1) := by decide +kernel
theorem dX7_fluxAnew_87 : decode cX7_fluxAnew 87 = .ok (.iinc 6 1, 3) := by decide +kernel
theorem dX7_fluxAnew_90 : decode cX7_fluxAnew 90 = .ok (.goto (-26), 3) := by decide +kernel
theorem dX7_fluxAnew_93 : decode cX7_fluxAnew 93 = .ok (.iinc 3 1, 3) := by decide +kernel
theorem dX7_fluxAnew_96 : decode cX7_fluxAnew 96 = .ok (.goto (-88), 3) := by decide +kernel
theorem dX7_fluxAnew_99 : decode cX7_fluxAnew 99 = .ok (.iload_n 2, 1) := by decide +kernel
theorem dX7_fluxAnew_100 : decode cX7_fluxAnew 100 = .ok (.ireturn, 1) := by decide +kernel
set_option maxRecDepth 20000 in
theorem ggX7_strain_X7_needPanel : GoodIn wsX7_strain wsX7_needPanel := goodIn_ca (goodIn_r _ [5, 6, 7] (by decide +kernel) (by decide +kernel)) (goodIn_sub (fun _ h => List.mem_cons_of_mem _ (List.mem_append_right _ h)) (by decide +kernel))
set_option maxRecDepth 20000 in
theorem gX7_strain_X7_needPanel : GoodIn wsX7_strain (va_wsS RX7 191 yX7_needPanel wsX7_needPanel) := goodIn_app (goodIn_of _ (by decide +kernel)) ggX7_strain_X7_needPanel
theorem dX7_strain_0 : decode cX7_strain 0 = .ok (.iload_n 1, 1) := by decide +kernel
theorem dX7_strain_1 : decode cX7_strain 1 = .ok (.invokestatic 191, 3) := by decide +kernel
theorem dX7_strain_4 : decode cX7_strain 4 = .ok (.aload_n 0, 1) := by decide +kernel
theorem dX7_strain_5 : decode cX7_strain 5 = .ok (.getfield 34, 3) := by decide +kernel
theorem dX7_strain_8 : decode cX7_strain 8 = .ok (.iload_n 1, 1) := by decide +kernel
theorem dX7_strain_9 : decode cX7_strain 9 = .ok (.iaload, 1) := by decide +kernel
theorem dX7_strain_10 : decode cX7_strain 10 = .ok (.ireturn, 1) := by decide +kernel
set_option maxRecDepth 20000 in
theorem ggX7_isSafe_X2_shineOn : GoodIn wsX7_isSafe wsX2_shineOn := goodIn_r _ [11, 12, 13, 14, 15, 16, 17, 18, 19, 20, 21, 22, 23, 24, 25, 26, 27, 28, 29, 30, 31, 32, 33, 34, 35, 36, 37, 38, 39, 40, 41, 42, 43, 44, 45, 46, 47, 48, 49, 50, 51, 52, 53, 54, 55, 56, 57, 58, 59, 60, 61, 62, 10, 63, 64, 65, 66, 67, 68, 69, 70, 71, 72, 73, 74, 75, 76, 77, 78, 79, 80, 81, 82, 83, 84, 85, 86, 87, 88, 89, 90, 91, 92, 93, 94, 95, 96, 97, 98, 99, 100, 101, 102, 103, 104, 105, 106, 107, 108, 109, 110, 111, 112, 113, 114, 115, 116, 117, 118, 119, 120, 121, 122, 123, 124, 125, 126, 127, 128, 129, 130, 131, 132, 133, 161, 162, 163, 164, 165, 166, 167, 168, 169, 170, 171, 172, 173, 174, 175, 176, 177, 178, 179, 180, 181, 182, 183, 184] (by decide +kernel) (by decide +kernel)
set_option maxRecDepth 20000 in
theorem gX7_isSafe_X2_shineOn : GoodIn wsX7_isSafe (wsV RX7 195 RX2 yX2_shineOn wsX2_shineOn) := goodIn_app (goodIn_of _ (by decide +kernel)) ggX7_isSafe_X2_shineOn
set_option maxRecDepth 20000 in
theorem ggX7_isSafe_X3_isAbove : GoodIn wsX7_isSafe wsX3_isAbove := goodIn_r _ [137, 20, 174, 175] (by decide +kernel) (by decide +kernel)
set_option maxRecDepth 20000 in
theorem gX7_isSafe_X3_isAbove : GoodIn wsX7_isSafe (wsV RX7 213 RX3 yX3_isAbove wsX3_isAbove) := goodIn_app (goodIn_of _ (by decide +kernel)) ggX7_isSafe_X3_isAbove
set_option maxRecDepth 20000 in
theorem ggX7_isSafe_Jx4a65c_size_8abf5 : GoodIn wsX7_isSafe wsJx4a65c_size_8abf5 := goodIn_r _ [26, 27, 176, 177, 178] (by decide +kernel) (by decide +kernel)
set_option maxRecDepth 20000 in
theorem gX7_isSafe_Jx4a65c_size_8abf5 : GoodIn wsX7_isSafe (wsV RX7 85 RJx4a65c yJx4a65c_size_8abf5 wsJx4a65c_size_8abf5) := goodIn_app (goodIn_of _ (by decide +kernel)) ggX7_isSafe_Jx4a65c_size_8abf5
set_option maxRecDepth 20000 in
theorem ggX7_isSafe_Jx4a65c_get_915e3 : GoodIn wsX7_isSafe wsJx4a65c_get_915e3 := goodIn_r _ [31, 27, 32, 33, 34, 35, 36, 37, 38, 39, 40, 41, 42, 25, 43, 44, 176, 177, 178] (by decide +kernel) (by decide +kernel)
set_option maxRecDepth 20000 in
theorem gX7_isSafe_Jx4a65c_get_915e3 : GoodIn wsX7_isSafe (wsV RX7 202 RJx4a65c yJx4a65c_get_915e3 wsJx4a65c_get_915e3) := goodIn_app (goodIn_of _ (by decide +kernel)) ggX7_isSafe_Jx4a65c_get_915e3
set_option maxRecDepth 20000 in
theorem ggX7_isSafe_X2_tenthOf : GoodIn wsX7_isSafe wsX2_tenthOf := goodIn_r _ [63, 64, 65, 66, 10, 67, 68, 69, 70, 71, 72, 73, 74, 22, 23, 24, 25, 26, 27, 28, 29, 30, 31, 32, 33, 34, 35, 36, 37, 38, 39, 40, 41, 42, 43, 44, 75, 76, 77, 78, 79, 80, 81, 82, 83, 84, 85, 86, 87, 88, 89, 90, 91, 92, 93, 94, 95, 96, 97, 98, 99, 100, 101, 102, 103, 104, 105, 106, 107, 108, 109, 110, 111, 112, 113, 114, 115, 116, 117, 118, 119, 51, 120, 121, 122, 123, 124, 125, 161, 162, 163, 164, 165, 176, 177, 178, 166, 167, 168, 169, 170, 171, 172, 173, 179, 180, 181, 182, 183, 184] (by decide +kernel) (by decide +kernel)
set_option maxRecDepth 20000 in
theorem gX7_isSafe_X2_tenthOf : GoodIn wsX7_isSafe (wsV RX7 206 RX2 yX2_tenthOf wsX2_tenthOf) := goodIn_app (goodIn_of _ (by decide +kernel)) ggX7_isSafe_X2_tenthOf
set_option maxRecDepth 20000 in
theorem ggX7_isSafe_X4_place : GoodIn wsX7_isSafe wsX4_place := goodIn_r _ [52, 53, 54, 55, 56, 51, 57, 58, 59, 166, 167, 168, 169, 170, 171, 172, 173] (by decide +kernel) (by decide +kernel)
set_option maxRecDepth 20000 in
theorem gX7_isSafe_X4_place : GoodIn wsX7_isSafe (wsV RX7 217 RX4 yX4_place wsX4_place) := goodIn_app (goodIn_of _ (by decide +kernel)) ggX7_isSafe_X4_place
set_option maxRecDepth 20000 in
theorem ggX7_isSafe_X7_wouldTrip : GoodIn wsX7_isSafe wsX7_wouldTrip := goodIn_r _ [145, 2, 3, 146, 127, 128, 18, 129, 130, 131, 132, 133, 20, 21, 134, 135, 136, 137, 147, 148, 149, 150, 151, 152, 153, 154, 155, 156, 157, 158, 159, 160, 174, 175] (by decide +kernel) (by decide +kernel)
set_option maxRecDepth 20000 in
theorem gX7_isSafe_X7_wouldTrip : GoodIn wsX7_isSafe (wsV RX7 220 RX7 yX7_wouldTrip wsX7_wouldTrip) := goodIn_app (goodIn_of _ (by decide +kernel)) ggX7_isSafe_X7_wouldTrip
theorem dX7_isSafe_0 : decode cX7_isSafe 0 = .ok (.aload_n 0, 1) := by decide +kernel
theorem dX7_isSafe_1 : decode cX7_isSafe 1 = .ok (.getfield 10, 3) := by decide +kernel
theorem dX7_isSafe_4 : decode cX7_isSafe 4 = .ok (.aload_n 0, 1) := by decide +kernel
theorem dX7_isSafe_5 : decode cX7_isSafe 5 = .ok (.getfield 19, 3) := by decide +kernel
theorem dX7_isSafe_8 : decode cX7_isSafe 8 = .ok (.iconst 0, 1) := by decide +kernel
theorem dX7_isSafe_9 : decode cX7_isSafe 9 = .ok (.invokevirtual 195, 3) := by decide +kernel
theorem dX7_isSafe_12 : decode cX7_isSafe 12 = .ok (.aload_n 0, 1) := by decide +kernel
theorem dX7_isSafe_13 : decode cX7_isSafe 13 = .ok (.getfield 19, 3) := by decide +kernel
theorem dX7_isSafe_16 : decode cX7_isSafe 16 = .ok (.aload_n 0, 1) := by decide +kernel
theorem dX7_isSafe_17 : decode cX7_isSafe 17 = .ok (.getfield 30, 3) := by decide +kernel
theorem dX7_isSafe_20 : decode cX7_isSafe 20 = .ok (.invokevirtual 213, 3) := by decide +kernel
theorem dX7_isSafe_23 : decode cX7_isSafe 23 = .ok (.ifCond .eq 5, 3) := by decide +kernel
theorem dX7_isSafe_26 : decode cX7_isSafe 26 = .ok (.iconst 0, 1) := by decide +kernel
theorem dX7_isSafe_27 : decode cX7_isSafe 27 = .ok (.ireturn, 1) := by decide +kernel
theorem dX7_isSafe_28 : decode cX7_isSafe 28 = .ok (.iconst 0, 1) := by decide +kernel
theorem dX7_isSafe_29 : decode cX7_isSafe 29 = .ok (.istore_n 1, 1) := by decide +kernel
theorem dX7_isSafe_30 : decode cX7_isSafe 30 = .ok (.iload_n 1, 1) := by decide +kernel
theorem dX7_isSafe_31 : decode cX7_isSafe 31 = .ok (.aload_n 0, 1) := by decide +kernel
theorem dX7_isSafe_32 : decode cX7_isSafe 32 = .ok (.getfield 10, 3) := by decide +kernel
theorem dX7_isSafe_35 : decode cX7_isSafe 35 = .ok (.getfield 81, 3) := by decide +kernel
theorem dX7_isSafe_38 : decode cX7_isSafe 38 = .ok (.invokevirtual 85, 3) := by decide +kernel
theorem dX7_isSafe_41 : decode cX7_isSafe 41 = .ok (.if_icmp .ge 72, 3) := by decide +kernel
theorem dX7_isSafe_44 : decode cX7_isSafe 44 = .ok (.aload_n 0, 1) := by decide +kernel
theorem dX7_isSafe_45 : decode cX7_isSafe 45 = .ok (.getfield 10, 3) := by decide +kernel
theorem dX7_isSafe_48 : decode cX7_isSafe 48 = .ok (.getfield 81, 3) := by decide +kernel
theorem dX7_isSafe_51 : decode cX7_isSafe 51 = .ok (.iload_n 1, 1) := by decide +kernel
theorem dX7_isSafe_52 : decode cX7_isSafe 52 = .ok (.invokevirtual 202, 3) := by decide +kernel
theorem dX7_isSafe_55 : decode cX7_isSafe 55 = .ok (.checkcast 106, 3) := by decide +kernel
theorem dX7_isSafe_58 : decode cX7_isSafe 58 = .ok (.astore_n 2, 1) := by decide +kernel
theorem dX7_isSafe_59 : decode cX7_isSafe 59 = .ok (.aload_n 2, 1) := by decide +kernel
theorem dX7_isSafe_60 : decode cX7_isSafe 60 = .ok (.getfield 137, 3) := by decide +kernel
theorem dX7_isSafe_63 : decode cX7_isSafe 63 = .ok (.iconst (-1), 1) := by decide +kernel
theorem dX7_isSafe_64 : decode cX7_isSafe 64 = .ok (.if_icmp .ne 6, 3) := by decide +kernel
theorem dX7_isSafe_67 : decode cX7_isSafe 67 = .ok (.goto 40, 3) := by decide +kernel
theorem dX7_isSafe_70 : decode cX7_isSafe 70 = .ok (.aload_n 0, 1) := by decide +kernel
theorem dX7_isSafe_71 : decode cX7_isSafe 71 = .ok (.getfield 10, 3) := by decide +kernel
theorem dX7_isSafe_74 : decode cX7_isSafe 74 = .ok (.aload_n 2, 1) := by decide +kernel
theorem dX7_isSafe_75 : decode cX7_isSafe 75 = .ok (.invokevirtual 206, 3) := by decide +kernel
theorem dX7_isSafe_78 : decode cX7_isSafe 78 = .ok (.istore_n 3, 1) := by decide +kernel
theorem dX7_isSafe_79 : decode cX7_isSafe 79 = .ok (.aload_n 0, 1) := by decide +kernel
theorem dX7_isSafe_80 : decode cX7_isSafe 80 = .ok (.aload_n 2, 1) := by decide +kernel
theorem dX7_isSafe_81 : decode cX7_isSafe 81 = .ok (.invokevirtual 217, 3) := by decide +kernel
theorem dX7_isSafe_84 : decode cX7_isSafe 84 = .ok (.iconst (-1), 1) := by decide +kernel
theorem dX7_isSafe_85 : decode cX7_isSafe 85 = .ok (.iload_n 3, 1) := by decide +kernel
theorem dX7_isSafe_86 : decode cX7_isSafe 86 = .ok (.invokevirtual 220, 3) := by decide +kernel
theorem dX7_isSafe_89 : decode cX7_isSafe 89 = .ok (.ifCond .ne 16, 3) := by decide +kernel
theorem dX7_isSafe_92 : decode cX7_isSafe 92 = .ok (.aload_n 0, 1) := by decide +kernel
theorem dX7_isSafe_93 : decode cX7_isSafe 93 = .ok (.aload_n 2, 1) := by decide +kernel
theorem dX7_isSafe_94 : decode cX7_isSafe 94 = .ok (.invokevirtual 217, 3) := by decide +kernel
theorem dX7_isSafe_97 : decode cX7_isSafe 97 = .ok (.iconst 1, 1) := by decide +kernel
theorem dX7_isSafe_98 : decode cX7_isSafe 98 = .ok (.iload_n 3, 1) := by decide +kernel
theorem dX7_isSafe_99 : decode cX7_isSafe 99 = .ok (.invokevirtual 220, 3) := by decide +kernel
theorem dX7_isSafe_102 : decode cX7_isSafe 102 = .ok (.ifCond .eq 5, 3) := by decide +kernel
theorem dX7_isSafe_105 : decode cX7_isSafe 105 = .ok (.iconst 0, 1) := by decide +kernel
theorem dX7_isSafe_106 : decode cX7_isSafe 106 = .ok (.ireturn, 1) := by decide +kernel
theorem dX7_isSafe_107 : decode cX7_isSafe 107 = .ok (.iinc 1 1, 3) := by decide +kernel
theorem dX7_isSafe_110 : decode cX7_isSafe 110 = .ok (.goto (-80), 3) := by decide +kernel
theorem dX7_isSafe_113 : decode cX7_isSafe 113 = .ok (.iconst 1, 1) := by decide +kernel
theorem dX7_isSafe_114 : decode cX7_isSafe 114 = .ok (.ireturn, 1) := by decide +kernel
set_option maxRecDepth 20000 in
theorem ggX7_best_X7_needSet : GoodIn wsX7_best wsX7_needSet := goodIn_ca (goodIn_r _ [10, 11, 12, 13, 14, 15, 16, 17, 18, 19, 20, 21, 22, 23, 24, 25, 26, 27, 28, 29, 30, 31, 9, 32, 33, 34, 35, 36, 37, 38, 39, 40, 41, 42, 43, 44, 45, 46, 47, 48, 49, 212, 213, 214, 215, 216, 217, 218, 219, 220, 221, 222, 223, 224, 225, 233, 234, 235, 236, 237, 238, 239, 240, 241, 242, 243, 244, 245, 246, 247, 248] (by decide +kernel) (by decide +kernel)) (goodIn_sub (fun _ h => List.mem_cons_of_mem _ (List.mem_append_right _ h)) (by decide +kernel))
set_option maxRecDepth 20000 in
theorem gX7_best_X7_needSet : GoodIn wsX7_best (wsV RX7 224 RX7 yX7_needSet wsX7_needSet) := goodIn_app (goodIn_of _ (by decide +kernel)) ggX7_best_X7_needSet
set_option maxRecDepth 20000 in
theorem ggX7_best_J6_bitCount_0f7a4 : GoodIn wsX7_best wsJ6_bitCount_0f7a4 := goodIn_r _ [26, 27, 28, 29] (by decide +kernel) (by decide +kernel)
set_option maxRecDepth 20000 in
theorem gX7_best_J6_bitCount_0f7a4 : GoodIn wsX7_best (va_wsS RX7 227 yJ6_bitCount_0f7a4 wsJ6_bitCount_0f7a4) := goodIn_app (goodIn_of _ (by decide +kernel)) ggX7_best_J6_bitCount_0f7a4
set_option maxRecDepth 20000 in
theorem ggX7_best_X7_needWithin : GoodIn wsX7_best wsX7_needWithin := goodIn_ca (goodIn_r _ [52, 11, 12] (by decide +kernel) (by decide +kernel)) (goodIn_sub (fun _ h => List.mem_cons_of_mem _ (List.mem_append_right _ h)) (by decide +kernel))
set_option maxRecDepth 20000 in
theorem gX7_best_X7_needWithin : GoodIn wsX7_best (va_wsS RX7 101 yX7_needWithin wsX7_needWithin) := goodIn_app (goodIn_of _ (by decide +kernel)) ggX7_best_X7_needWithin
set_option maxRecDepth 20000 in
theorem ggX7_best_X7_openSearch : GoodIn wsX7_best wsX7_openSearch := goodIn_r _ [56, 3, 13, 57, 14, 15, 58, 59, 60, 61, 62, 63, 64, 65, 66, 67, 68, 69, 70, 71, 72, 73, 74, 75, 76, 77, 78, 79, 18, 19, 20, 21, 22, 80, 34, 35, 36, 37, 38, 39, 40, 41, 42, 43, 44, 45, 46, 47, 48, 49, 31, 9, 32, 81, 82, 83, 84, 85, 86, 87, 88, 89, 90, 91, 92, 93, 94, 95, 96, 97, 98, 99, 100, 101, 102, 103, 104, 105, 106, 107, 108, 109, 110, 111, 112, 113, 114, 115, 116, 117, 118, 119, 120, 121, 122, 123, 124, 125, 126, 127, 128, 129, 130, 131, 132, 133, 134, 135, 136, 137, 138, 139, 140, 141, 142, 143, 144, 145, 146, 147, 148, 149, 150, 151, 152, 153, 154, 155, 156, 157, 158, 159, 160, 161, 162, 163, 164, 165, 166, 17, 33, 30, 167, 168, 169, 170, 171, 172, 173, 174, 212, 213, 214, 215, 216, 217, 218, 219, 220, 221, 222, 223, 224, 225, 226, 227, 228, 229, 230, 231, 232, 233, 234, 235, 236, 237, 238, 239, 240, 241, 242, 243, 244, 245, 249, 250, 246, 247, 248, 251, 252, 253, 254, 255, 256] (by decide +kernel) (by decide +kernel)
set_option maxRecDepth 20000 in
theorem gX7_best_X7_openSearch : GoodIn wsX7_best (wsV RX7 232 RX7 yX7_openSearch wsX7_openSearch) := goodIn_app (goodIn_of _ (by decide +kernel)) ggX7_best_X7_openSearch
set_option maxRecDepth 20000 in
theorem ggX7_best_X0_foundBest : GoodIn wsX7_best wsX0_foundBest := goodIn_r _ [178, 179, 180, 181, 182, 183, 75, 184, 77, 185, 186, 187, 61, 188, 63, 189, 190, 191, 192, 193, 194, 195, 196, 197, 198, 173, 199, 200, 201, 202, 203, 204, 205, 206, 174, 207, 160, 161, 162, 163, 164, 165, 166, 78, 226, 227, 228, 229, 230, 231, 232, 249, 250] (by decide +kernel) (by decide +kernel)
set_option maxRecDepth 20000 in
theorem gX7_best_X0_foundBest : GoodIn wsX7_best (wsV RX7 235 RX0 yX0_foundBest wsX0_foundBest) := goodIn_app (goodIn_of _ (by decide +kernel)) ggX7_best_X0_foundBest
set_option maxRecDepth 20000 in
theorem ggX7_best_X0_bestAim : GoodIn wsX7_best wsX0_bestAim := goodIn_r _ [211, 63, 189, 226, 227, 228, 229, 230, 231, 232] (by decide +kernel) (by decide +kernel)
set_option maxRecDepth 20000 in
theorem gX7_best_X0_bestAim : GoodIn wsX7_best (wsV RX7 243 RX0 yX0_bestAim wsX0_bestAim) := goodIn_app (goodIn_of _ (by decide +kernel)) ggX7_best_X0_bestAim
theorem dX7_best_0 : decode cX7_best 0 = .ok (.aload_n 0, 1) := by decide +kernel
theorem dX7_best_1 : decode cX7_best 1 = .ok (.iload_n 1, 1) := by decide +kernel
theorem dX7_best_2 : decode cX7_best 2 = .ok (.invokevirtual 224, 3) := by decide +kernel
theorem dX7_best_5 : decode cX7_best 5 = .ok (.iload_n 2, 1) := by decide +kernel
theorem dX7_best_6 : decode cX7_best 6 = .ok (.iconst (-1), 1) := by decide +kernel
theorem dX7_best_7 : decode cX7_best 7 = .ok (.iload_n 1, 1) := by decide +kernel
theorem dX7_best_8 : decode cX7_best 8 = .ok (.invokestatic 227, 3) := by decide +kernel
theorem dX7_best_11 : decode cX7_best 11 = .ok (.iconst 1, 1) := by decide +kernel
theorem dX7_best_12 : decode cX7_best 12 = .ok (.isub, 1) := by decide +kernel
theorem dX7_best_13 : decode cX7_best 13 = .ok (.invokestatic 101, 3) := by decide +kernel
theorem dX7_best_16 : decode cX7_best 16 = .ok (.aload_n 0, 1) := by decide +kernel
theorem dX7_best_17 : decode cX7_best 17 = .ok (.iload_n 1, 1) := by decide +kernel
theorem dX7_best_18 : decode cX7_best 18 = .ok (.invokevirtual 232, 3) := by decide +kernel
theorem dX7_best_21 : decode cX7_best 21 = .ok (.aload_n 0, 1) := by decide +kernel
theorem dX7_best_22 : decode cX7_best 22 = .ok (.getfield 26, 3) := by decide +kernel
theorem dX7_best_25 : decode cX7_best 25 = .ok (.aload_n 0, 1) := by decide +kernel
theorem dX7_best_26 : decode cX7_best 26 = .ok (.getfield 30, 3) := by decide +kernel
theorem dX7_best_29 : decode cX7_best 29 = .ok (.invokevirtual 235, 3) := by decide +kernel
theorem dX7_best_32 : decode cX7_best 32 = .ok (.ifCond .ne 13, 3) := by decide +kernel
theorem dX7_best_35 : decode cX7_best 35 = .ok (.new 76, 3) := by decide +kernel
theorem dX7_best_38 : decode cX7_best 38 = .ok (.dup, 1) := by decide +kernel
theorem dX7_best_39 : decode cX7_best 39 = .ok (.ldc 238, 2) := by decide +kernel
theorem dX7_best_41 : decode cX7_best 41 = .ok (.invokespecial 80, 3) := by decide +kernel
theorem dX7_best_44 : decode cX7_best 44 = .ok (.athrow, 1) := by decide +kernel
theorem dX7_best_45 : decode cX7_best 45 = .ok (.iload_n 2, 1) := by decide +kernel
theorem dX7_best_46 : decode cX7_best 46 = .ok (.iconst (-1), 1) := by decide +kernel
theorem dX7_best_47 : decode cX7_best 47 = .ok (.if_icmp .ne 13, 3) := by decide +kernel
theorem dX7_best_50 : decode cX7_best 50 = .ok (.aload_n 0, 1) := by decide +kernel
theorem dX7_best_51 : decode cX7_best 51 = .ok (.getfield 26, 3) := by decide +kernel
theorem dX7_best_54 : decode cX7_best 54 = .ok (.getfield 240, 3) := by decide +kernel
theorem dX7_best_57 : decode cX7_best 57 = .ok (.goto 11, 3) := by decide +kernel
theorem dX7_best_60 : decode cX7_best 60 = .ok (.aload_n 0, 1) := by decide +kernel
theorem dX7_best_61 : decode cX7_best 61 = .ok (.getfield 26, 3) := by decide +kernel
theorem dX7_best_64 : decode cX7_best 64 = .ok (.iload_n 2, 1) := by decide +kernel
theorem dX7_best_65 : decode cX7_best 65 = .ok (.invokevirtual 243, 3) := by decide +kernel
theorem dX7_best_68 : decode cX7_best 68 = .ok (.ireturn, 1) := by decide +kernel
set_option maxRecDepth 20000 in
theorem ggX7_bestAnew_X7_needSet : GoodIn wsX7_bestAnew wsX7_needSet := goodIn_ca (goodIn_r _ [9, 10, 11, 12, 13, 14, 15, 16, 17, 18, 19, 20, 21, 22, 23, 24, 25, 26, 27, 28, 29, 30, 8, 31, 32, 33, 34, 35, 36, 37, 38, 39, 40, 41, 42, 43, 44, 45, 46, 47, 48, 197, 198, 199, 200, 201, 202, 203, 204, 205, 206, 207, 208, 209, 210, 211, 212, 213, 214, 215, 216, 217, 218, 219, 220, 221, 222, 223, 224, 225, 226] (by decide +kernel) (by decide +kernel)) (goodIn_sub (fun _ h => List.mem_cons_of_mem _ (List.mem_append_right _ h)) (by decide +kernel))
set_option maxRecDepth 20000 in
theorem gX7_bestAnew_X7_needSet : GoodIn wsX7_bestAnew (wsV RX7 224 RX7 yX7_needSet wsX7_needSet) := goodIn_app (goodIn_of _ (by decide +kernel)) ggX7_bestAnew_X7_needSet
set_option maxRecDepth 20000 in
theorem ggX7_bestAnew_X7_openSearch : GoodIn wsX7_bestAnew wsX7_openSearch := goodIn_r _ [52, 3, 12, 53, 13, 14, 54, 55, 56, 57, 58, 59, 60, 61, 62, 63, 64, 65, 66, 67, 68, 69, 70, 71, 72, 73, 74, 75, 17, 18, 19, 20, 21, 76, 33, 34, 35, 36, 37, 38, 39, 40, 41, 42, 43, 44, 45, 46, 47, 48, 30, 8, 31, 77, 78, 79, 80, 81, 82, 83, 84, 85, 86, 87, 88, 89, 90, 91, 92, 93, 94, 95, 96, 97, 98, 99, 100, 101, 102, 103, 104, 105, 106, 107, 108, 109, 110, 111, 112, 113, 114, 115, 116, 117, 118, 119, 120, 121, 122, 123, 124, 125, 126, 127, 128, 129, 130, 131, 132, 133, 134, 135, 136, 137, 138, 139, 140, 141, 142, 143, 144, 145, 146, 147, 148, 149, 150, 151, 152, 153, 154, 155, 156, 157, 158, 159, 160, 161, 162, 16, 32, 29, 163, 164, 165, 166, 167, 168, 169, 170, 197, 198, 199, 200, 201, 202, 203, 204, 205, 206, 207, 208, 209, 210, 227, 228, 229, 230, 231, 232, 233, 211, 212, 213, 214, 215, 216, 217, 218, 219, 220, 221, 222, 223, 234, 235, 224, 225, 226, 236, 237, 238, 239, 240, 241] (by decide +kernel) (by decide +kernel)
set_option maxRecDepth 20000 in
theorem gX7_bestAnew_X7_openSearch : GoodIn wsX7_bestAnew (wsV RX7 232 RX7 yX7_openSearch wsX7_openSearch) := goodIn_app (goodIn_of _ (by decide +kernel)) ggX7_bestAnew_X7_openSearch
set_option maxRecDepth 20000 in
theorem ggX7_bestAnew_X0_mostOfAllRows : GoodIn wsX7_bestAnew wsX0_mostOfAllRows := goodIn_r _ [174, 59, 175, 176, 177, 178, 140, 179, 180, 181, 182, 71, 183, 73, 184, 185, 186, 187, 188, 189, 190, 57, 191, 192, 193, 194, 195, 170, 169, 196, 156, 157, 158, 159, 160, 161, 162, 74, 227, 228, 229, 230, 231, 232, 233, 234, 235] (by decide +kernel) (by decide +kernel)
set_option maxRecDepth 20000 in
theorem gX7_bestAnew_X0_mostOfAllRows : GoodIn wsX7_bestAnew (wsV RX7 246 RX0 yX0_mostOfAllRows wsX0_mostOfAllRows) := goodIn_app (goodIn_of _ (by decide +kernel)) ggX7_bestAnew_X0_mostOfAllRows
theorem dX7_bestAnew_0 : decode cX7_bestAnew 0 = .ok (.aload_n 0, 1) := by decide +kernel
theorem dX7_bestAnew_1 : decode cX7_bestAnew 1 = .ok (.iload_n 1, 1) := by decide +kernel
theorem dX7_bestAnew_2 : decode cX7_bestAnew 2 = .ok (.invokevirtual 224, 3) := by decide +kernel
theorem dX7_bestAnew_5 : decode cX7_bestAnew 5 = .ok (.aload_n 0, 1) := by decide +kernel
theorem dX7_bestAnew_6 : decode cX7_bestAnew 6 = .ok (.iload_n 1, 1) := by decide +kernel
theorem dX7_bestAnew_7 : decode cX7_bestAnew 7 = .ok (.invokevirtual 232, 3) := by decide +kernel
theorem dX7_bestAnew_10 : decode cX7_bestAnew 10 = .ok (.aload_n 0, 1) := by decide +kernel
theorem dX7_bestAnew_11 : decode cX7_bestAnew 11 = .ok (.getfield 26, 3) := by decide +kernel
theorem dX7_bestAnew_14 : decode cX7_bestAnew 14 = .ok (.aload_n 0, 1) := by decide +kernel
theorem dX7_bestAnew_15 : decode cX7_bestAnew 15 = .ok (.getfield 30, 3) := by decide +kernel
theorem dX7_bestAnew_18 : decode cX7_bestAnew 18 = .ok (.invokevirtual 246, 3) := by decide +kernel
theorem dX7_bestAnew_21 : decode cX7_bestAnew 21 = .ok (.istore_n 2, 1) := by decide +kernel
theorem dX7_bestAnew_22 : decode cX7_bestAnew 22 = .ok (.iload_n 2, 1) := by decide +kernel
theorem dX7_bestAnew_23 : decode cX7_bestAnew 23 = .ok (.iconst (-1), 1) := by decide +kernel
theorem dX7_bestAnew_24 : decode cX7_bestAnew 24 = .ok (.if_icmp .ne 13, 3) := by decide +kernel
theorem dX7_bestAnew_27 : decode cX7_bestAnew 27 = .ok (.new 76, 3) := by decide +kernel
theorem dX7_bestAnew_30 : decode cX7_bestAnew 30 = .ok (.dup, 1) := by decide +kernel
theorem dX7_bestAnew_31 : decode cX7_bestAnew 31 = .ok (.ldc 238, 2) := by decide +kernel
theorem dX7_bestAnew_33 : decode cX7_bestAnew 33 = .ok (.invokespecial 80, 3) := by decide +kernel
theorem dX7_bestAnew_36 : decode cX7_bestAnew 36 = .ok (.athrow, 1) := by decide +kernel
theorem dX7_bestAnew_37 : decode cX7_bestAnew 37 = .ok (.iload_n 2, 1) := by decide +kernel
theorem dX7_bestAnew_38 : decode cX7_bestAnew 38 = .ok (.ireturn, 1) := by decide +kernel
set_option maxRecDepth 20000 in
theorem ggX7_salt_X7_needWithin : GoodIn wsX7_salt wsX7_needWithin := goodIn_ca (goodIn_r _ [8, 9, 10] (by decide +kernel) (by decide +kernel)) (goodIn_sub (fun _ h => List.mem_cons_of_mem _ (List.mem_append_right _ h)) (by decide +kernel))
set_option maxRecDepth 20000 in
theorem gX7_salt_X7_needWithin : GoodIn wsX7_salt (va_wsS RX7 101 yX7_needWithin wsX7_needWithin) := goodIn_app (goodIn_of _ (by decide +kernel)) ggX7_salt_X7_needWithin
theorem dX7_salt_0 : decode cX7_salt 0 = .ok (.iload_n 1, 1) := by decide +kernel
theorem dX7_salt_1 : decode cX7_salt 1 = .ok (.iconst 1, 1) := by decide +kernel
theorem dX7_salt_2 : decode cX7_salt 2 = .ok (.sipush 500, 3) := by decide +kernel
theorem dX7_salt_5 : decode cX7_salt 5 = .ok (.invokestatic 101, 3) := by decide +kernel
theorem dX7_salt_8 : decode cX7_salt 8 = .ok (.aload_n 0, 1) := by decide +kernel
theorem dX7_salt_9 : decode cX7_salt 9 = .ok (.getfield 37, 3) := by decide +kernel
theorem dX7_salt_12 : decode cX7_salt 12 = .ok (.aload_n 0, 1) := by decide +kernel
theorem dX7_salt_13 : decode cX7_salt 13 = .ok (.getfield 250, 3) := by decide +kernel
theorem dX7_salt_16 : decode cX7_salt 16 = .ok (.iadd, 1) := by decide +kernel
theorem dX7_salt_17 : decode cX7_salt 17 = .ok (.iload_n 1, 1) := by decide +kernel
theorem dX7_salt_18 : decode cX7_salt 18 = .ok (.iadd, 1) := by decide +kernel
theorem dX7_salt_19 : decode cX7_salt 19 = .ok (.sipush 1000, 3) := by decide +kernel
theorem dX7_salt_22 : decode cX7_salt 22 = .ok (.if_icmp .le 13, 3) := by decide +kernel
theorem dX7_salt_25 : decode cX7_salt 25 = .ok (.new 76, 3) := by decide +kernel
theorem dX7_salt_28 : decode cX7_salt 28 = .ok (.dup, 1) := by decide +kernel
theorem dX7_salt_29 : decode cX7_salt 29 = .ok (.ldc 253, 2) := by decide +kernel
theorem dX7_salt_31 : decode cX7_salt 31 = .ok (.invokespecial 80, 3) := by decide +kernel
theorem dX7_salt_34 : decode cX7_salt 34 = .ok (.athrow, 1) := by decide +kernel
theorem dX7_salt_35 : decode cX7_salt 35 = .ok (.aload_n 0, 1) := by decide +kernel
theorem dX7_salt_36 : decode cX7_salt 36 = .ok (.dup, 1) := by decide +kernel
theorem dX7_salt_37 : decode cX7_salt 37 = .ok (.getfield 37, 3) := by decide +kernel
theorem dX7_salt_40 : decode cX7_salt 40 = .ok (.iload_n 1, 1) := by decide +kernel
theorem dX7_salt_41 : decode cX7_salt 41 = .ok (.iadd, 1) := by decide +kernel
theorem dX7_salt_42 : decode cX7_salt 42 = .ok (.putfield 37, 3) := by decide +kernel
theorem dX7_salt_45 : decode cX7_salt 45 = .ok (.aload_n 0, 1) := by decide +kernel
theorem dX7_salt_46 : decode cX7_salt 46 = .ok (.getfield 37, 3) := by decide +kernel
theorem dX7_salt_49 : decode cX7_salt 49 = .ok (.ireturn, 1) := by decide +kernel
set_option maxRecDepth 20000 in
theorem ggX7_pipe_X5_fill : GoodIn wsX7_pipe wsX5_fill := goodIn_r _ [10, 11, 12, 31, 32, 33, 34] (by decide +kernel) (by decide +kernel)
set_option maxRecDepth 20000 in
theorem gX7_pipe_X5_fill : GoodIn wsX7_pipe (wsV RX7 262 RX5 yX5_fill wsX5_fill) := goodIn_app (goodIn_of _ (by decide +kernel)) ggX7_pipe_X5_fill
set_option maxRecDepth 20000 in
theorem ggX7_pipe_X5_drain : GoodIn wsX7_pipe wsX5_drain := goodIn_r _ [16, 11, 12, 31, 32, 33, 34] (by decide +kernel) (by decide +kernel)
set_option maxRecDepth 20000 in
theorem gX7_pipe_X5_drain : GoodIn wsX7_pipe (wsV RX7 265 RX5 yX5_drain wsX5_drain) := goodIn_app (goodIn_of _ (by decide +kernel)) ggX7_pipe_X5_drain
theorem dX7_pipe_0 : decode cX7_pipe 0 = .ok (.aload_n 0, 1) := by decide +kernel
theorem dX7_pipe_1 : decode cX7_pipe 1 = .ok (.getfield 44, 3) := by decide +kernel
theorem dX7_pipe_4 : decode cX7_pipe 4 = .ok (.getfield 255, 3) := by decide +kernel
theorem dX7_pipe_7 : decode cX7_pipe 7 = .ok (.iconst 2, 1) := by decide +kernel
theorem dX7_pipe_8 : decode cX7_pipe 8 = .ok (.if_icmp .ne 14, 3) := by decide +kernel
theorem dX7_pipe_11 : decode cX7_pipe 11 = .ok (.new 76, 3) := by decide +kernel
theorem dX7_pipe_14 : decode cX7_pipe 14 = .ok (.dup, 1) := by decide +kernel
theorem dX7_pipe_15 : decode cX7_pipe 15 = .ok (.ldc_w 258, 3) := by decide +kernel
theorem dX7_pipe_18 : decode cX7_pipe 18 = .ok (.invokespecial 80, 3) := by decide +kernel
theorem dX7_pipe_21 : decode cX7_pipe 21 = .ok (.athrow, 1) := by decide +kernel
theorem dX7_pipe_22 : decode cX7_pipe 22 = .ok (.iload_n 1, 1) := by decide +kernel
theorem dX7_pipe_23 : decode cX7_pipe 23 = .ok (.aload_n 0, 1) := by decide +kernel
theorem dX7_pipe_24 : decode cX7_pipe 24 = .ok (.getfield 44, 3) := by decide +kernel
theorem dX7_pipe_27 : decode cX7_pipe 27 = .ok (.getfield 255, 3) := by decide +kernel
theorem dX7_pipe_30 : decode cX7_pipe 30 = .ok (.iconst 1, 1) := by decide +kernel
theorem dX7_pipe_31 : decode cX7_pipe 31 = .ok (.if_icmp .ne 7, 3) := by decide +kernel
theorem dX7_pipe_34 : decode cX7_pipe 34 = .ok (.iconst 1, 1) := by decide +kernel
theorem dX7_pipe_35 : decode cX7_pipe 35 = .ok (.goto 4, 3) := by decide +kernel
theorem dX7_pipe_38 : decode cX7_pipe 38 = .ok (.iconst 0, 1) := by decide +kernel
theorem dX7_pipe_39 : decode cX7_pipe 39 = .ok (.if_icmp .ne 14, 3) := by decide +kernel
theorem dX7_pipe_42 : decode cX7_pipe 42 = .ok (.new 76, 3) := by decide +kernel
theorem dX7_pipe_45 : decode cX7_pipe 45 = .ok (.dup, 1) := by decide +kernel
theorem dX7_pipe_46 : decode cX7_pipe 46 = .ok (.ldc_w 260, 3) := by decide +kernel
theorem dX7_pipe_49 : decode cX7_pipe 49 = .ok (.invokespecial 80, 3) := by decide +kernel
theorem dX7_pipe_52 : decode cX7_pipe 52 = .ok (.athrow, 1) := by decide +kernel
theorem dX7_pipe_53 : decode cX7_pipe 53 = .ok (.iload_n 1, 1) := by decide +kernel
theorem dX7_pipe_54 : decode cX7_pipe 54 = .ok (.ifCond .eq 13, 3) := by decide +kernel
theorem dX7_pipe_57 : decode cX7_pipe 57 = .ok (.aload_n 0, 1) := by decide +kernel
theorem dX7_pipe_58 : decode cX7_pipe 58 = .ok (.getfield 44, 3) := by decide +kernel
theorem dX7_pipe_61 : decode cX7_pipe 61 = .ok (.invokevirtual 262, 3) := by decide +kernel
theorem dX7_pipe_64 : decode cX7_pipe 64 = .ok (.goto 10, 3) := by decide +kernel
theorem dX7_pipe_67 : decode cX7_pipe 67 = .ok (.aload_n 0, 1) := by decide +kernel
theorem dX7_pipe_68 : decode cX7_pipe 68 = .ok (.getfield 44, 3) := by decide +kernel
theorem dX7_pipe_71 : decode cX7_pipe 71 = .ok (.invokevirtual 265, 3) := by decide +kernel
theorem dX7_pipe_74 : decode cX7_pipe 74 = .ok (.aload_n 0, 1) := by decide +kernel
theorem dX7_pipe_75 : decode cX7_pipe 75 = .ok (.getfield 44, 3) := by decide +kernel
theorem dX7_pipe_78 : decode cX7_pipe 78 = .ok (.getfield 268, 3) := by decide +kernel
theorem dX7_pipe_81 : decode cX7_pipe 81 = .ok (.ireturn, 1) := by decide +kernel
theorem dX7_trace_0 : decode cX7_trace 0 = .ok (.aload_n 0, 1) := by decide +kernel
theorem dX7_trace_1 : decode cX7_trace 1 = .ok (.getfield 44, 3) := by decide +kernel
theorem dX7_trace_4 : decode cX7_trace 4 = .ok (.getfield 271, 3) := by decide +kernel
theorem dX7_trace_7 : decode cX7_trace 7 = .ok (.istore_n 2, 1) := by decide +kernel
theorem dX7_trace_8 : decode cX7_trace 8 = .ok (.aload_n 0, 1) := by decide +kernel
theorem dX7_trace_9 : decode cX7_trace 9 = .ok (.getfield 44, 3) := by decide +kernel
theorem dX7_trace_12 : decode cX7_trace 12 = .ok (.iload_n 1, 1) := by decide +kernel
theorem dX7_trace_13 : decode cX7_trace 13 = .ok (.putfield 271, 3) := by decide +kernel
theorem dX7_trace_16 : decode cX7_trace 16 = .ok (.iload_n 2, 1) := by decide +kernel
theorem dX7_trace_17 : decode cX7_trace 17 = .ok (.ireturn, 1) := by decide +kernel
set_option maxRecDepth 20000 in
theorem ggX7_load_X7_needWithin : GoodIn wsX7_load wsX7_needWithin := goodIn_ca (goodIn_r _ [7, 8, 9] (by decide +kernel) (by decide +kernel)) (goodIn_sub (fun _ h => List.mem_cons_of_mem _ (List.mem_append_right _ h)) (by decide +kernel))
set_option maxRecDepth 20000 in
theorem gX7_load_X7_needWithin : GoodIn wsX7_load (va_wsS RX7 101 yX7_needWithin wsX7_needWithin) := goodIn_app (goodIn_of _ (by decide +kernel)) ggX7_load_X7_needWithin
set_option maxRecDepth 20000 in
theorem ggX7_load_X6_start : GoodIn wsX7_load wsX6_start := goodIn_r _ [14, 15, 16, 31, 32, 33] (by decide +kernel) (by decide +kernel)
set_option maxRecDepth 20000 in
theorem gX7_load_X6_start : GoodIn wsX7_load (wsV RX7 278 RX6 yX6_start wsX6_start) := goodIn_app (goodIn_of _ (by decide +kernel)) ggX7_load_X6_start
theorem dX7_load_0 : decode cX7_load 0 = .ok (.iload_n 1, 1) := by decide +kernel
theorem dX7_load_1 : decode cX7_load 1 = .ok (.iconst 1, 1) := by decide +kernel
theorem dX7_load_2 : decode cX7_load 2 = .ok (.bipush 20, 2) := by decide +kernel
theorem dX7_load_4 : decode cX7_load 4 = .ok (.invokestatic 101, 3) := by decide +kernel
theorem dX7_load_7 : decode cX7_load 7 = .ok (.aload_n 0, 1) := by decide +kernel
theorem dX7_load_8 : decode cX7_load 8 = .ok (.getfield 51, 3) := by decide +kernel
theorem dX7_load_11 : decode cX7_load 11 = .ok (.getfield 274, 3) := by decide +kernel
theorem dX7_load_14 : decode cX7_load 14 = .ok (.istore_n 2, 1) := by decide +kernel
theorem dX7_load_15 : decode cX7_load 15 = .ok (.aload_n 0, 1) := by decide +kernel
theorem dX7_load_16 : decode cX7_load 16 = .ok (.getfield 51, 3) := by decide +kernel
theorem dX7_load_19 : decode cX7_load 19 = .ok (.getfield 277, 3) := by decide +kernel
theorem dX7_load_22 : decode cX7_load 22 = .ok (.ifCond .ne 10, 3) := by decide +kernel
theorem dX7_load_25 : decode cX7_load 25 = .ok (.aload_n 0, 1) := by decide +kernel
theorem dX7_load_26 : decode cX7_load 26 = .ok (.getfield 51, 3) := by decide +kernel
theorem dX7_load_29 : decode cX7_load 29 = .ok (.invokevirtual 278, 3) := by decide +kernel
theorem dX7_load_32 : decode cX7_load 32 = .ok (.aload_n 0, 1) := by decide +kernel
theorem dX7_load_33 : decode cX7_load 33 = .ok (.getfield 51, 3) := by decide +kernel
theorem dX7_load_36 : decode cX7_load 36 = .ok (.iload_n 1, 1) := by decide +kernel
theorem dX7_load_37 : decode cX7_load 37 = .ok (.putfield 274, 3) := by decide +kernel
theorem dX7_load_40 : decode cX7_load 40 = .ok (.iload_n 2, 1) := by decide +kernel
theorem dX7_load_41 : decode cX7_load 41 = .ok (.ireturn, 1) := by decide +kernel
set_option maxRecDepth 20000 in
theorem ggX7_stop_X6_halt : GoodIn wsX7_stop wsX6_halt := goodIn_r _ [9, 10, 11, 26, 27, 28] (by decide +kernel) (by decide +kernel)
set_option maxRecDepth 20000 in
theorem gX7_stop_X6_halt : GoodIn wsX7_stop (wsV RX7 283 RX6 yX6_halt wsX6_halt) := goodIn_app (goodIn_of _ (by decide +kernel)) ggX7_stop_X6_halt
theorem dX7_stop_0 : decode cX7_stop 0 = .ok (.aload_n 0, 1) := by decide +kernel
theorem dX7_stop_1 : decode cX7_stop 1 = .ok (.getfield 51, 3) := by decide +kernel
theorem dX7_stop_4 : decode cX7_stop 4 = .ok (.getfield 277, 3) := by decide +kernel
theorem dX7_stop_7 : decode cX7_stop 7 = .ok (.ifCond .ne 14, 3) := by decide +kernel
theorem dX7_stop_10 : decode cX7_stop 10 = .ok (.new 76, 3) := by decide +kernel
theorem dX7_stop_13 : decode cX7_stop 13 = .ok (.dup, 1) := by decide +kernel
theorem dX7_stop_14 : decode cX7_stop 14 = .ok (.ldc_w 281, 3) := by decide +kernel
theorem dX7_stop_17 : decode cX7_stop 17 = .ok (.invokespecial 80, 3) := by decide +kernel
theorem dX7_stop_20 : decode cX7_stop 20 = .ok (.athrow, 1) := by decide +kernel
theorem dX7_stop_21 : decode cX7_stop 21 = .ok (.aload_n 0, 1) := by decide +kernel
theorem dX7_stop_22 : decode cX7_stop 22 = .ok (.getfield 51, 3) := by decide +kernel
theorem dX7_stop_25 : decode cX7_stop 25 = .ok (.getfield 277, 3) := by decide +kernel
theorem dX7_stop_28 : decode cX7_stop 28 = .ok (.istore_n 1, 1) := by decide +kernel
theorem dX7_stop_29 : decode cX7_stop 29 = .ok (.aload_n 0, 1) := by decide +kernel
theorem dX7_stop_30 : decode cX7_stop 30 = .ok (.getfield 51, 3) := by decide +kernel
theorem dX7_stop_33 : decode cX7_stop 33 = .ok (.invokevirtual 283, 3) := by decide +kernel
theorem dX7_stop_36 : decode cX7_stop 36 = .ok (.iload_n 1, 1) := by decide +kernel
theorem dX7_stop_37 : decode cX7_stop 37 = .ok (.ireturn, 1) := by decide +kernel
set_option maxRecDepth 20000 in
theorem ggX7_water_X7_needWithin : GoodIn wsX7_water wsX7_needWithin := goodIn_ca (goodIn_r _ [7, 8, 9] (by decide +kernel) (by decide +kernel)) (goodIn_sub (fun _ h => List.mem_cons_of_mem _ (List.mem_append_right _ h)) (by decide +kernel))
set_option maxRecDepth 20000 in
theorem gX7_water_X7_needWithin : GoodIn wsX7_water (va_wsS RX7 101 yX7_needWithin wsX7_needWithin) := goodIn_app (goodIn_of _ (by decide +kernel)) ggX7_water_X7_needWithin
theorem dX7_water_0 : decode cX7_water 0 = .ok (.iload_n 1, 1) := by decide +kernel
theorem dX7_water_1 : decode cX7_water 1 = .ok (.iconst 1, 1) := by decide +kernel
theorem dX7_water_2 : decode cX7_water 2 = .ok (.sipush 500, 3) := by decide +kernel
theorem dX7_water_5 : decode cX7_water 5 = .ok (.invokestatic 101, 3) := by decide +kernel
theorem dX7_water_8 : decode cX7_water 8 = .ok (.aload_n 0, 1) := by decide +kernel
theorem dX7_water_9 : decode cX7_water 9 = .ok (.getfield 145, 3) := by decide +kernel
theorem dX7_water_12 : decode cX7_water 12 = .ok (.iload_n 1, 1) := by decide +kernel
theorem dX7_water_13 : decode cX7_water 13 = .ok (.iadd, 1) := by decide +kernel
theorem dX7_water_14 : decode cX7_water 14 = .ok (.sipush 1000, 3) := by decide +kernel
theorem dX7_water_17 : decode cX7_water 17 = .ok (.if_icmp .le 14, 3) := by decide +kernel
theorem dX7_water_20 : decode cX7_water 20 = .ok (.new 76, 3) := by decide +kernel
theorem dX7_water_23 : decode cX7_water 23 = .ok (.dup, 1) := by decide +kernel
theorem dX7_water_24 : decode cX7_water 24 = .ok (.ldc_w 286, 3) := by decide +kernel
theorem dX7_water_27 : decode cX7_water 27 = .ok (.invokespecial 80, 3) := by decide +kernel
theorem dX7_water_30 : decode cX7_water 30 = .ok (.athrow, 1) := by decide +kernel
theorem dX7_water_31 : decode cX7_water 31 = .ok (.aload_n 0, 1) := by decide +kernel
theorem dX7_water_32 : decode cX7_water 32 = .ok (.dup, 1) := by decide +kernel
theorem dX7_water_33 : decode cX7_water 33 = .ok (.getfield 145, 3) := by decide +kernel
theorem dX7_water_36 : decode cX7_water 36 = .ok (.iload_n 1, 1) := by decide +kernel
theorem dX7_water_37 : decode cX7_water 37 = .ok (.iadd, 1) := by decide +kernel
theorem dX7_water_38 : decode cX7_water 38 = .ok (.putfield 145, 3) := by decide +kernel
theorem dX7_water_41 : decode cX7_water 41 = .ok (.aload_n 0, 1) := by decide +kernel
theorem dX7_water_42 : decode cX7_water 42 = .ok (.getfield 145, 3) := by decide +kernel
theorem dX7_water_45 : decode cX7_water 45 = .ok (.ireturn, 1) := by decide +kernel
set_option maxRecDepth 20000 in
theorem ggX7_price_X7_needHour : GoodIn wsX7_price wsX7_needHour := goodIn_ca (goodIn_r _ [5, 6, 7] (by decide +kernel) (by decide +kernel)) (goodIn_sub (fun _ h => List.mem_cons_of_mem _ (List.mem_append_left _ (List.mem_append_right _ h))) (by decide +kernel))
set_option maxRecDepth 20000 in
theorem gX7_price_X7_needHour : GoodIn wsX7_price (va_wsS RX7 288 yX7_needHour wsX7_needHour) := goodIn_app (goodIn_of _ (by decide +kernel)) ggX7_price_X7_needHour
set_option maxRecDepth 20000 in
theorem ggX7_price_X7_needWithin : GoodIn wsX7_price wsX7_needWithin := goodIn_ca (goodIn_r _ [10, 11, 12] (by decide +kernel) (by decide +kernel)) (goodIn_sub (fun _ h => List.mem_cons_of_mem _ (List.mem_append_right _ h)) (by decide +kernel))
set_option maxRecDepth 20000 in
theorem gX7_price_X7_needWithin : GoodIn wsX7_price (va_wsS RX7 101 yX7_needWithin wsX7_needWithin) := goodIn_app (goodIn_of _ (by decide +kernel)) ggX7_price_X7_needWithin
theorem dX7_price_0 : decode cX7_price 0 = .ok (.iload_n 1, 1) := by decide +kernel
theorem dX7_price_1 : decode cX7_price 1 = .ok (.invokestatic 288, 3) := by decide +kernel
theorem dX7_price_4 : decode cX7_price 4 = .ok (.iload_n 2, 1) := by decide +kernel
theorem dX7_price_5 : decode cX7_price 5 = .ok (.iconst 0, 1) := by decide +kernel
theorem dX7_price_6 : decode cX7_price 6 = .ok (.bipush 99, 2) := by decide +kernel
theorem dX7_price_8 : decode cX7_price 8 = .ok (.invokestatic 101, 3) := by decide +kernel
theorem dX7_price_11 : decode cX7_price 11 = .ok (.aload_n 0, 1) := by decide +kernel
theorem dX7_price_12 : decode cX7_price 12 = .ok (.getfield 55, 3) := by decide +kernel
theorem dX7_price_15 : decode cX7_price 15 = .ok (.iload_n 1, 1) := by decide +kernel
theorem dX7_price_16 : decode cX7_price 16 = .ok (.iaload, 1) := by decide +kernel
theorem dX7_price_17 : decode cX7_price 17 = .ok (.istore_n 3, 1) := by decide +kernel
theorem dX7_price_18 : decode cX7_price 18 = .ok (.aload_n 0, 1) := by decide +kernel
theorem dX7_price_19 : decode cX7_price 19 = .ok (.getfield 55, 3) := by decide +kernel
theorem dX7_price_22 : decode cX7_price 22 = .ok (.iload_n 1, 1) := by decide +kernel
