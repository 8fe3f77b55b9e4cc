set_option maxRecDepth 20000 in
theorem ggX0_init_X3_init : GoodIn wsX0_init wsX3_init := goodIn_r _ [14, 15, 2, 3, 8, 16, 17, 18] (by decide +kernel) (by decide +kernel)
set_option maxRecDepth 20000 in
theorem gX0_init_X3_init_n11 : GoodIn wsX0_init (wsX3_init) := ggX0_init_X3_init
theorem dX0_init_0 : decode cX0_init 0 = .ok (.aload_n 0, 1) := by decide +kernel
theorem dX0_init_1 : decode cX0_init 1 = .ok (.invokespecial 3, 3) := by decide +kernel
theorem dX0_init_4 : decode cX0_init 4 = .ok (.aload_n 0, 1) := by decide +kernel
theorem dX0_init_5 : decode cX0_init 5 = .ok (.new 9, 3) := by decide +kernel
theorem dX0_init_8 : decode cX0_init 8 = .ok (.dup, 1) := by decide +kernel
theorem dX0_init_9 : decode cX0_init 9 = .ok (.invokespecial 11, 3) := by decide +kernel
theorem dX0_init_12 : decode cX0_init 12 = .ok (.putfield 12, 3) := by decide +kernel
theorem dX0_init_15 : decode cX0_init 15 = .ok (.aload_n 0, 1) := by decide +kernel
theorem dX0_init_16 : decode cX0_init 16 = .ok (.iconst 4, 1) := by decide +kernel
theorem dX0_init_17 : decode cX0_init 17 = .ok (.newarray .int, 2) := by decide +kernel
theorem dX0_init_19 : decode cX0_init 19 = .ok (.putfield 18, 3) := by decide +kernel
theorem dX0_init_22 : decode cX0_init 22 = .ok (.aload_n 0, 1) := by decide +kernel
theorem dX0_init_23 : decode cX0_init 23 = .ok (.iconst 4, 1) := by decide +kernel
theorem dX0_init_24 : decode cX0_init 24 = .ok (.newarray .int, 2) := by decide +kernel
theorem dX0_init_26 : decode cX0_init 26 = .ok (.putfield 22, 3) := by decide +kernel
theorem dX0_init_29 : decode cX0_init 29 = .ok (.aload_n 0, 1) := by decide +kernel
theorem dX0_init_30 : decode cX0_init 30 = .ok (.iconst 4, 1) := by decide +kernel
theorem dX0_init_31 : decode cX0_init 31 = .ok (.newarray .int, 2) := by decide +kernel
theorem dX0_init_33 : decode cX0_init 33 = .ok (.putfield 25, 3) := by decide +kernel
theorem dX0_init_36 : decode cX0_init 36 = .ok (.aload_n 0, 1) := by decide +kernel
theorem dX0_init_37 : decode cX0_init 37 = .ok (.iconst 4, 1) := by decide +kernel
theorem dX0_init_38 : decode cX0_init 38 = .ok (.newarray .int, 2) := by decide +kernel
theorem dX0_init_40 : decode cX0_init 40 = .ok (.putfield 28, 3) := by decide +kernel
theorem dX0_init_43 : decode cX0_init 43 = .ok (.return_, 1) := by decide +kernel
theorem dX0_open_0 : decode cX0_open 0 = .ok (.aload_n 0, 1) := by decide +kernel
theorem dX0_open_1 : decode cX0_open 1 = .ok (.iconst 0, 1) := by decide +kernel
theorem dX0_open_2 : decode cX0_open 2 = .ok (.putfield 31, 3) := by decide +kernel
theorem dX0_open_5 : decode cX0_open 5 = .ok (.return_, 1) := by decide +kernel
theorem dX0_add_0 : decode cX0_add 0 = .ok (.aload_n 0, 1) := by decide +kernel
theorem dX0_add_1 : decode cX0_add 1 = .ok (.getfield 31, 3) := by decide +kernel
theorem dX0_add_4 : decode cX0_add 4 = .ok (.iconst 4, 1) := by decide +kernel
theorem dX0_add_5 : decode cX0_add 5 = .ok (.if_icmp .lt 4, 3) := by decide +kernel
theorem dX0_add_8 : decode cX0_add 8 = .ok (.return_, 1) := by decide +kernel
theorem dX0_add_9 : decode cX0_add 9 = .ok (.aload_n 0, 1) := by decide +kernel
theorem dX0_add_10 : decode cX0_add 10 = .ok (.getfield 18, 3) := by decide +kernel
theorem dX0_add_13 : decode cX0_add 13 = .ok (.aload_n 0, 1) := by decide +kernel
theorem dX0_add_14 : decode cX0_add 14 = .ok (.getfield 31, 3) := by decide +kernel
theorem dX0_add_17 : decode cX0_add 17 = .ok (.iload_n 1, 1) := by decide +kernel
theorem dX0_add_18 : decode cX0_add 18 = .ok (.iastore, 1) := by decide +kernel
theorem dX0_add_19 : decode cX0_add 19 = .ok (.aload_n 0, 1) := by decide +kernel
theorem dX0_add_20 : decode cX0_add 20 = .ok (.getfield 22, 3) := by decide +kernel
theorem dX0_add_23 : decode cX0_add 23 = .ok (.aload_n 0, 1) := by decide +kernel
theorem dX0_add_24 : decode cX0_add 24 = .ok (.getfield 31, 3) := by decide +kernel
theorem dX0_add_27 : decode cX0_add 27 = .ok (.iload_n 2, 1) := by decide +kernel
theorem dX0_add_28 : decode cX0_add 28 = .ok (.iastore, 1) := by decide +kernel
theorem dX0_add_29 : decode cX0_add 29 = .ok (.aload_n 0, 1) := by decide +kernel
theorem dX0_add_30 : decode cX0_add 30 = .ok (.dup, 1) := by decide +kernel
theorem dX0_add_31 : decode cX0_add 31 = .ok (.getfield 31, 3) := by decide +kernel
theorem dX0_add_34 : decode cX0_add 34 = .ok (.iconst 1, 1) := by decide +kernel
theorem dX0_add_35 : decode cX0_add 35 = .ok (.iadd, 1) := by decide +kernel
theorem dX0_add_36 : decode cX0_add 36 = .ok (.putfield 31, 3) := by decide +kernel
theorem dX0_add_39 : decode cX0_add 39 = .ok (.return_, 1) := by decide +kernel
theorem dX0_bestAim_0 : decode cX0_bestAim 0 = .ok (.iload_n 1, 1) := by decide +kernel
theorem dX0_bestAim_1 : decode cX0_bestAim 1 = .ok (.ifCond .lt 20, 3) := by decide +kernel
theorem dX0_bestAim_4 : decode cX0_bestAim 4 = .ok (.iload_n 1, 1) := by decide +kernel
theorem dX0_bestAim_5 : decode cX0_bestAim 5 = .ok (.aload_n 0, 1) := by decide +kernel
theorem dX0_bestAim_6 : decode cX0_bestAim 6 = .ok (.getfield 31, 3) := by decide +kernel
theorem dX0_bestAim_9 : decode cX0_bestAim 9 = .ok (.if_icmp .ge 12, 3) := by decide +kernel
theorem dX0_bestAim_12 : decode cX0_bestAim 12 = .ok (.aload_n 0, 1) := by decide +kernel
theorem dX0_bestAim_13 : decode cX0_bestAim 13 = .ok (.getfield 28, 3) := by decide +kernel
theorem dX0_bestAim_16 : decode cX0_bestAim 16 = .ok (.iload_n 1, 1) := by decide +kernel
theorem dX0_bestAim_17 : decode cX0_bestAim 17 = .ok (.iaload, 1) := by decide +kernel
theorem dX0_bestAim_18 : decode cX0_bestAim 18 = .ok (.goto 4, 3) := by decide +kernel
theorem dX0_bestAim_21 : decode cX0_bestAim 21 = .ok (.iconst (-1), 1) := by decide +kernel
theorem dX0_bestAim_22 : decode cX0_bestAim 22 = .ok (.ireturn, 1) := by decide +kernel
set_option maxRecDepth 20000 in
theorem ggX0_foundBest_X3_isAbove : GoodIn wsX0_foundBest wsX3_isAbove := goodIn_r _ [7, 8, 51, 52] (by decide +kernel) (by decide +kernel)
set_option maxRecDepth 20000 in
theorem gX0_foundBest_X3_isAbove : GoodIn wsX0_foundBest (wsV RX0 38 RX3 yX3_isAbove wsX3_isAbove) := goodIn_app (goodIn_of _ (by decide +kernel)) ggX0_foundBest_X3_isAbove
set_option maxRecDepth 20000 in
theorem ggX0_foundBest_X0_seekFrom : GoodIn wsX0_foundBest wsX0_seekFrom := goodIn_r _ [13, 2, 1, 14, 15, 16, 17, 18, 19, 6, 20, 8, 21, 22, 23, 12, 24, 25, 26, 27, 28, 29, 30, 31, 32, 33, 34, 35, 36, 37, 38, 39, 40, 41, 42, 43, 3, 4, 5, 7, 9, 10, 11, 44, 45, 46, 47, 48, 49, 50, 51, 52] (by decide +kernel) (by decide +kernel)
set_option maxRecDepth 20000 in
theorem gX0_foundBest_X0_seekFrom : GoodIn wsX0_foundBest (wsV RX0 42 RX0 yX0_seekFrom wsX0_seekFrom) := goodIn_app (goodIn_of _ (by decide +kernel)) ggX0_foundBest_X0_seekFrom
theorem dX0_foundBest_0 : decode cX0_foundBest 0 = .ok (.aload_n 0, 1) := by decide +kernel
theorem dX0_foundBest_1 : decode cX0_foundBest 1 = .ok (.iconst (-1), 1) := by decide +kernel
theorem dX0_foundBest_2 : decode cX0_foundBest 2 = .ok (.putfield 35, 3) := by decide +kernel
theorem dX0_foundBest_5 : decode cX0_foundBest 5 = .ok (.aload_n 0, 1) := by decide +kernel
theorem dX0_foundBest_6 : decode cX0_foundBest 6 = .ok (.getfield 12, 3) := by decide +kernel
theorem dX0_foundBest_9 : decode cX0_foundBest 9 = .ok (.aload_n 1, 1) := by decide +kernel
theorem dX0_foundBest_10 : decode cX0_foundBest 10 = .ok (.invokevirtual 38, 3) := by decide +kernel
theorem dX0_foundBest_13 : decode cX0_foundBest 13 = .ok (.ifCond .ne 9, 3) := by decide +kernel
theorem dX0_foundBest_16 : decode cX0_foundBest 16 = .ok (.aload_n 0, 1) := by decide +kernel
theorem dX0_foundBest_17 : decode cX0_foundBest 17 = .ok (.iconst 0, 1) := by decide +kernel
theorem dX0_foundBest_18 : decode cX0_foundBest 18 = .ok (.aload_n 1, 1) := by decide +kernel
theorem dX0_foundBest_19 : decode cX0_foundBest 19 = .ok (.invokevirtual 42, 3) := by decide +kernel
theorem dX0_foundBest_22 : decode cX0_foundBest 22 = .ok (.aload_n 0, 1) := by decide +kernel
theorem dX0_foundBest_23 : decode cX0_foundBest 23 = .ok (.getfield 35, 3) := by decide +kernel
theorem dX0_foundBest_26 : decode cX0_foundBest 26 = .ok (.iconst (-1), 1) := by decide +kernel
theorem dX0_foundBest_27 : decode cX0_foundBest 27 = .ok (.if_icmp .eq 7, 3) := by decide +kernel
theorem dX0_foundBest_30 : decode cX0_foundBest 30 = .ok (.iconst 1, 1) := by decide +kernel
theorem dX0_foundBest_31 : decode cX0_foundBest 31 = .ok (.goto 4, 3) := by decide +kernel
theorem dX0_foundBest_34 : decode cX0_foundBest 34 = .ok (.iconst 0, 1) := by decide +kernel
theorem dX0_foundBest_35 : decode cX0_foundBest 35 = .ok (.ireturn, 1) := by decide +kernel
set_option maxRecDepth 20000 in
theorem ggX0_seekFrom_X3_onPanels : GoodIn wsX0_seekFrom wsX3_onPanels := goodIn_r _ [10, 11, 50, 51] (by decide +kernel) (by decide +kernel)
set_option maxRecDepth 20000 in
theorem gX0_seekFrom_X3_onPanels : GoodIn wsX0_seekFrom (wsV RX0 46 RX3 yX3_onPanels wsX3_onPanels) := goodIn_app (goodIn_of _ (by decide +kernel)) ggX0_seekFrom_X3_onPanels
set_option maxRecDepth 20000 in
theorem ggX0_seekFrom_X0_mostFrom : GoodIn wsX0_seekFrom wsX0_mostFrom := goodIn_r _ [16, 3, 17, 43, 44, 45, 46, 47, 48, 49] (by decide +kernel) (by decide +kernel)
set_option maxRecDepth 20000 in
theorem gX0_seekFrom_X0_mostFrom : GoodIn wsX0_seekFrom (wsV RX0 50 RX0 yX0_mostFrom wsX0_mostFrom) := goodIn_app (goodIn_of _ (by decide +kernel)) ggX0_seekFrom_X0_mostFrom
set_option maxRecDepth 20000 in
theorem ggX0_seekFrom_X0_tryAim : GoodIn wsX0_seekFrom wsX0_tryAim := goodIn_r _ [21, 5, 1, 22, 23, 24, 15, 25, 26, 17, 27, 28, 29, 9, 30, 31, 32, 33, 34, 11, 35, 36, 37, 38, 39, 40, 41, 42, 0, 2, 3, 4, 6, 7, 8, 10, 12, 13, 14, 16, 18, 19, 20, 43, 44, 45, 46, 47, 48, 49, 50, 51] (by decide +kernel) (by decide +kernel)
set_option maxRecDepth 20000 in
theorem gX0_seekFrom_X0_tryAim : GoodIn wsX0_seekFrom (wsV RX0 54 RX0 yX0_tryAim wsX0_tryAim) := goodIn_app (goodIn_of _ (by decide +kernel)) ggX0_seekFrom_X0_tryAim
theorem dX0_seekFrom_0 : decode cX0_seekFrom 0 = .ok (.aload_n 0, 1) := by decide +kernel
theorem dX0_seekFrom_1 : decode cX0_seekFrom 1 = .ok (.getfield 12, 3) := by decide +kernel
theorem dX0_seekFrom_4 : decode cX0_seekFrom 4 = .ok (.invokevirtual 46, 3) := by decide +kernel
theorem dX0_seekFrom_7 : decode cX0_seekFrom 7 = .ok (.istore_n 3, 1) := by decide +kernel
theorem dX0_seekFrom_8 : decode cX0_seekFrom 8 = .ok (.iload_n 3, 1) := by decide +kernel
theorem dX0_seekFrom_9 : decode cX0_seekFrom 9 = .ok (.aload_n 0, 1) := by decide +kernel
theorem dX0_seekFrom_10 : decode cX0_seekFrom 10 = .ok (.iload_n 1, 1) := by decide +kernel
theorem dX0_seekFrom_11 : decode cX0_seekFrom 11 = .ok (.invokevirtual 50, 3) := by decide +kernel
theorem dX0_seekFrom_14 : decode cX0_seekFrom 14 = .ok (.iadd, 1) := by decide +kernel
theorem dX0_seekFrom_15 : decode cX0_seekFrom 15 = .ok (.aload_n 0, 1) := by decide +kernel
theorem dX0_seekFrom_16 : decode cX0_seekFrom 16 = .ok (.getfield 35, 3) := by decide +kernel
theorem dX0_seekFrom_19 : decode cX0_seekFrom 19 = .ok (.if_icmp .gt 4, 3) := by decide +kernel
theorem dX0_seekFrom_22 : decode cX0_seekFrom 22 = .ok (.return_, 1) := by decide +kernel
theorem dX0_seekFrom_23 : decode cX0_seekFrom 23 = .ok (.iload_n 1, 1) := by decide +kernel
theorem dX0_seekFrom_24 : decode cX0_seekFrom 24 = .ok (.aload_n 0, 1) := by decide +kernel
theorem dX0_seekFrom_25 : decode cX0_seekFrom 25 = .ok (.getfield 31, 3) := by decide +kernel
theorem dX0_seekFrom_28 : decode cX0_seekFrom 28 = .ok (.if_icmp .lt 41, 3) := by decide +kernel
theorem dX0_seekFrom_31 : decode cX0_seekFrom 31 = .ok (.aload_n 0, 1) := by decide +kernel
theorem dX0_seekFrom_32 : decode cX0_seekFrom 32 = .ok (.iload_n 3, 1) := by decide +kernel
theorem dX0_seekFrom_33 : decode cX0_seekFrom 33 = .ok (.putfield 35, 3) := by decide +kernel
theorem dX0_seekFrom_36 : decode cX0_seekFrom 36 = .ok (.iconst 0, 1) := by decide +kernel
theorem dX0_seekFrom_37 : decode cX0_seekFrom 37 = .ok (.istore 4, 2) := by decide +kernel
theorem dX0_seekFrom_39 : decode cX0_seekFrom 39 = .ok (.iload 4, 2) := by decide +kernel
theorem dX0_seekFrom_41 : decode cX0_seekFrom 41 = .ok (.aload_n 0, 1) := by decide +kernel
theorem dX0_seekFrom_42 : decode cX0_seekFrom 42 = .ok (.getfield 31, 3) := by decide +kernel
theorem dX0_seekFrom_45 : decode cX0_seekFrom 45 = .ok (.if_icmp .ge 23, 3) := by decide +kernel
theorem dX0_seekFrom_48 : decode cX0_seekFrom 48 = .ok (.aload_n 0, 1) := by decide +kernel
theorem dX0_seekFrom_49 : decode cX0_seekFrom 49 = .ok (.getfield 28, 3) := by decide +kernel
theorem dX0_seekFrom_52 : decode cX0_seekFrom 52 = .ok (.iload 4, 2) := by decide +kernel
theorem dX0_seekFrom_54 : decode cX0_seekFrom 54 = .ok (.aload_n 0, 1) := by decide +kernel
theorem dX0_seekFrom_55 : decode cX0_seekFrom 55 = .ok (.getfield 25, 3) := by decide +kernel
theorem dX0_seekFrom_58 : decode cX0_seekFrom 58 = .ok (.iload 4, 2) := by decide +kernel
theorem dX0_seekFrom_60 : decode cX0_seekFrom 60 = .ok (.iaload, 1) := by decide +kernel
theorem dX0_seekFrom_61 : decode cX0_seekFrom 61 = .ok (.iastore, 1) := by decide +kernel
theorem dX0_seekFrom_62 : decode cX0_seekFrom 62 = .ok (.iinc 4 1, 3) := by decide +kernel
theorem dX0_seekFrom_65 : decode cX0_seekFrom 65 = .ok (.goto (-26), 3) := by decide +kernel
theorem dX0_seekFrom_68 : decode cX0_seekFrom 68 = .ok (.return_, 1) := by decide +kernel
theorem dX0_seekFrom_69 : decode cX0_seekFrom 69 = .ok (.iconst (-1), 1) := by decide +kernel
theorem dX0_seekFrom_70 : decode cX0_seekFrom 70 = .ok (.istore 4, 2) := by decide +kernel
theorem dX0_seekFrom_72 : decode cX0_seekFrom 72 = .ok (.iload 4, 2) := by decide +kernel
theorem dX0_seekFrom_74 : decode cX0_seekFrom 74 = .ok (.bipush 6, 2) := by decide +kernel
theorem dX0_seekFrom_76 : decode cX0_seekFrom 76 = .ok (.if_icmp .ge 17, 3) := by decide +kernel
theorem dX0_seekFrom_79 : decode cX0_seekFrom 79 = .ok (.aload_n 0, 1) := by decide +kernel
theorem dX0_seekFrom_80 : decode cX0_seekFrom 80 = .ok (.iload_n 1, 1) := by decide +kernel
theorem dX0_seekFrom_81 : decode cX0_seekFrom 81 = .ok (.iload 4, 2) := by decide +kernel
theorem dX0_seekFrom_83 : decode cX0_seekFrom 83 = .ok (.aload_n 2, 1) := by decide +kernel
theorem dX0_seekFrom_84 : decode cX0_seekFrom 84 = .ok (.invokevirtual 54, 3) := by decide +kernel
theorem dX0_seekFrom_87 : decode cX0_seekFrom 87 = .ok (.iinc 4 1, 3) := by decide +kernel
theorem dX0_seekFrom_90 : decode cX0_seekFrom 90 = .ok (.goto (-18), 3) := by decide +kernel
theorem dX0_seekFrom_93 : decode cX0_seekFrom 93 = .ok (.return_, 1) := by decide +kernel
set_option maxRecDepth 20000 in
theorem ggX0_tryAim_X0_shine : GoodIn wsX0_tryAim wsX0_shine := goodIn_r _ [7, 2, 8, 9, 10, 11, 12, 13, 14, 15, 16, 17, 18, 19, 20, 43, 44, 45, 46, 47, 48, 49, 50, 51] (by decide +kernel) (by decide +kernel)
set_option maxRecDepth 20000 in
theorem gX0_tryAim_X0_shine : GoodIn wsX0_tryAim (wsV RX0 58 RX0 yX0_shine wsX0_shine) := goodIn_app (goodIn_of _ (by decide +kernel)) ggX0_tryAim_X0_shine
set_option maxRecDepth 20000 in
theorem ggX0_tryAim_X3_isAbove : GoodIn wsX0_tryAim wsX3_isAbove := goodIn_r _ [24, 19, 50, 51] (by decide +kernel) (by decide +kernel)
set_option maxRecDepth 20000 in
theorem gX0_tryAim_X3_isAbove : GoodIn wsX0_tryAim (wsV RX0 38 RX3 yX3_isAbove wsX3_isAbove) := goodIn_app (goodIn_of _ (by decide +kernel)) ggX0_tryAim_X3_isAbove
set_option maxRecDepth 20000 in
theorem ggX0_tryAim_X0_seekFrom : GoodIn wsX0_tryAim wsX0_seekFrom := goodIn_r _ [28, 2, 29, 30, 31, 1, 32, 33, 34, 13, 35, 19, 36, 37, 38, 6, 39, 9, 40, 41, 42, 0, 3, 4, 5, 7, 8, 10, 11, 12, 14, 15, 16, 17, 18, 20, 21, 22, 23, 24, 25, 26, 27, 43, 44, 45, 46, 47, 48, 49, 50, 51] (by decide +kernel) (by decide +kernel)
set_option maxRecDepth 20000 in
theorem gX0_tryAim_X0_seekFrom : GoodIn wsX0_tryAim (wsV RX0 42 RX0 yX0_seekFrom wsX0_seekFrom) := goodIn_app (goodIn_of _ (by decide +kernel)) ggX0_tryAim_X0_seekFrom
theorem dX0_tryAim_0 : decode cX0_tryAim 0 = .ok (.iload_n 1, 1) := by decide +kernel
theorem dX0_tryAim_1 : decode cX0_tryAim 1 = .ok (.ifCond .lt 8, 3) := by decide +kernel
theorem dX0_tryAim_4 : decode cX0_tryAim 4 = .ok (.iload_n 1, 1) := by decide +kernel
theorem dX0_tryAim_5 : decode cX0_tryAim 5 = .ok (.iconst 4, 1) := by decide +kernel
theorem dX0_tryAim_6 : decode cX0_tryAim 6 = .ok (.if_icmp .lt 4, 3) := by decide +kernel
theorem dX0_tryAim_9 : decode cX0_tryAim 9 = .ok (.return_, 1) := by decide +kernel
theorem dX0_tryAim_10 : decode cX0_tryAim 10 = .ok (.aload_n 0, 1) := by decide +kernel
theorem dX0_tryAim_11 : decode cX0_tryAim 11 = .ok (.getfield 25, 3) := by decide +kernel
theorem dX0_tryAim_14 : decode cX0_tryAim 14 = .ok (.iload_n 1, 1) := by decide +kernel
theorem dX0_tryAim_15 : decode cX0_tryAim 15 = .ok (.iload_n 2, 1) := by decide +kernel
theorem dX0_tryAim_16 : decode cX0_tryAim 16 = .ok (.iastore, 1) := by decide +kernel
theorem dX0_tryAim_17 : decode cX0_tryAim 17 = .ok (.aload_n 0, 1) := by decide +kernel
theorem dX0_tryAim_18 : decode cX0_tryAim 18 = .ok (.iload_n 1, 1) := by decide +kernel
theorem dX0_tryAim_19 : decode cX0_tryAim 19 = .ok (.iload_n 2, 1) := by decide +kernel
theorem dX0_tryAim_20 : decode cX0_tryAim 20 = .ok (.iconst 1, 1) := by decide +kernel
theorem dX0_tryAim_21 : decode cX0_tryAim 21 = .ok (.invokevirtual 58, 3) := by decide +kernel
theorem dX0_tryAim_24 : decode cX0_tryAim 24 = .ok (.aload_n 0, 1) := by decide +kernel
theorem dX0_tryAim_25 : decode cX0_tryAim 25 = .ok (.getfield 12, 3) := by decide +kernel
theorem dX0_tryAim_28 : decode cX0_tryAim 28 = .ok (.aload_n 3, 1) := by decide +kernel
theorem dX0_tryAim_29 : decode cX0_tryAim 29 = .ok (.invokevirtual 38, 3) := by decide +kernel
theorem dX0_tryAim_32 : decode cX0_tryAim 32 = .ok (.ifCond .ne 11, 3) := by decide +kernel
theorem dX0_tryAim_35 : decode cX0_tryAim 35 = .ok (.aload_n 0, 1) := by decide +kernel
theorem dX0_tryAim_36 : decode cX0_tryAim 36 = .ok (.iload_n 1, 1) := by decide +kernel
theorem dX0_tryAim_37 : decode cX0_tryAim 37 = .ok (.iconst 1, 1) := by decide +kernel
theorem dX0_tryAim_38 : decode cX0_tryAim 38 = .ok (.iadd, 1) := by decide +kernel
theorem dX0_tryAim_39 : decode cX0_tryAim 39 = .ok (.aload_n 3, 1) := by decide +kernel
theorem dX0_tryAim_40 : decode cX0_tryAim 40 = .ok (.invokevirtual 42, 3) := by decide +kernel
theorem dX0_tryAim_43 : decode cX0_tryAim 43 = .ok (.aload_n 0, 1) := by decide +kernel
theorem dX0_tryAim_44 : decode cX0_tryAim 44 = .ok (.iload_n 1, 1) := by decide +kernel
theorem dX0_tryAim_45 : decode cX0_tryAim 45 = .ok (.iload_n 2, 1) := by decide +kernel
theorem dX0_tryAim_46 : decode cX0_tryAim 46 = .ok (.iconst (-1), 1) := by decide +kernel
theorem dX0_tryAim_47 : decode cX0_tryAim 47 = .ok (.invokevirtual 58, 3) := by decide +kernel
theorem dX0_tryAim_50 : decode cX0_tryAim 50 = .ok (.return_, 1) := by decide +kernel
theorem dX0_mostFrom_0 : decode cX0_mostFrom 0 = .ok (.iconst 0, 1) := by decide +kernel
theorem dX0_mostFrom_1 : decode cX0_mostFrom 1 = .ok (.istore_n 2, 1) := by decide +kernel
theorem dX0_mostFrom_2 : decode cX0_mostFrom 2 = .ok (.iload_n 1, 1) := by decide +kernel
theorem dX0_mostFrom_3 : decode cX0_mostFrom 3 = .ok (.istore_n 3, 1) := by decide +kernel
theorem dX0_mostFrom_4 : decode cX0_mostFrom 4 = .ok (.iload_n 3, 1) := by decide +kernel
theorem dX0_mostFrom_5 : decode cX0_mostFrom 5 = .ok (.aload_n 0, 1) := by decide +kernel
theorem dX0_mostFrom_6 : decode cX0_mostFrom 6 = .ok (.getfield 31, 3) := by decide +kernel
theorem dX0_mostFrom_9 : decode cX0_mostFrom 9 = .ok (.if_icmp .ge 21, 3) := by decide +kernel
theorem dX0_mostFrom_12 : decode cX0_mostFrom 12 = .ok (.iload_n 2, 1) := by decide +kernel
theorem dX0_mostFrom_13 : decode cX0_mostFrom 13 = .ok (.bipush 10, 2) := by decide +kernel
theorem dX0_mostFrom_15 : decode cX0_mostFrom 15 = .ok (.aload_n 0, 1) := by decide +kernel
theorem dX0_mostFrom_16 : decode cX0_mostFrom 16 = .ok (.getfield 18, 3) := by decide +kernel
theorem dX0_mostFrom_19 : decode cX0_mostFrom 19 = .ok (.iload_n 3, 1) := by decide +kernel
theorem dX0_mostFrom_20 : decode cX0_mostFrom 20 = .ok (.iaload, 1) := by decide +kernel
theorem dX0_mostFrom_21 : decode cX0_mostFrom 21 = .ok (.imul, 1) := by decide +kernel
theorem dX0_mostFrom_22 : decode cX0_mostFrom 22 = .ok (.iadd, 1) := by decide +kernel
theorem dX0_mostFrom_23 : decode cX0_mostFrom 23 = .ok (.istore_n 2, 1) := by decide +kernel
theorem dX0_mostFrom_24 : decode cX0_mostFrom 24 = .ok (.iinc 3 1, 3) := by decide +kernel
theorem dX0_mostFrom_27 : decode cX0_mostFrom 27 = .ok (.goto (-23), 3) := by decide +kernel
theorem dX0_mostFrom_30 : decode cX0_mostFrom 30 = .ok (.iload_n 2, 1) := by decide +kernel
theorem dX0_mostFrom_31 : decode cX0_mostFrom 31 = .ok (.ireturn, 1) := by decide +kernel
set_option maxRecDepth 20000 in
theorem ggX0_mostOfAllRows_X3_isAbove : GoodIn wsX0_mostOfAllRows wsX3_isAbove := goodIn_r _ [12, 13, 45, 46] (by decide +kernel) (by decide +kernel)
set_option maxRecDepth 20000 in
theorem gX0_mostOfAllRows_X3_isAbove : GoodIn wsX0_mostOfAllRows (wsV RX0 38 RX3 yX3_isAbove wsX3_isAbove) := goodIn_app (goodIn_of _ (by decide +kernel)) ggX0_mostOfAllRows_X3_isAbove
set_option maxRecDepth 20000 in
theorem ggX0_mostOfAllRows_X3_onPanels : GoodIn wsX0_mostOfAllRows wsX3_onPanels := goodIn_r _ [17, 13, 45, 46] (by decide +kernel) (by decide +kernel)
set_option maxRecDepth 20000 in
theorem gX0_mostOfAllRows_X3_onPanels : GoodIn wsX0_mostOfAllRows (wsV RX0 46 RX3 yX3_onPanels wsX3_onPanels) := goodIn_app (goodIn_of _ (by decide +kernel)) ggX0_mostOfAllRows_X3_onPanels
set_option maxRecDepth 20000 in
theorem ggX0_mostOfAllRows_X0_turnRow : GoodIn wsX0_mostOfAllRows wsX0_turnRow := goodIn_r _ [22, 1, 2, 23, 24, 25, 21, 26, 3, 27, 28, 29, 30, 31, 11, 32, 33, 34, 35, 36, 13, 37, 38, 39, 40, 41, 42, 43, 44, 45, 46] (by decide +kernel) (by decide +kernel)
set_option maxRecDepth 20000 in
theorem gX0_mostOfAllRows_X0_turnRow : GoodIn wsX0_mostOfAllRows (wsV RX0 68 RX0 yX0_turnRow wsX0_turnRow) := goodIn_app (goodIn_of _ (by decide +kernel)) ggX0_mostOfAllRows_X0_turnRow
theorem dX0_mostOfAllRows_0 : decode cX0_mostOfAllRows 0 = .ok (.iconst 1, 1) := by decide +kernel
theorem dX0_mostOfAllRows_1 : decode cX0_mostOfAllRows 1 = .ok (.istore_n 2, 1) := by decide +kernel
theorem dX0_mostOfAllRows_2 : decode cX0_mostOfAllRows 2 = .ok (.iconst 0, 1) := by decide +kernel
theorem dX0_mostOfAllRows_3 : decode cX0_mostOfAllRows 3 = .ok (.istore_n 3, 1) := by decide +kernel
theorem dX0_mostOfAllRows_4 : decode cX0_mostOfAllRows 4 = .ok (.iload_n 3, 1) := by decide +kernel
theorem dX0_mostOfAllRows_5 : decode cX0_mostOfAllRows 5 = .ok (.aload_n 0, 1) := by decide +kernel
theorem dX0_mostOfAllRows_6 : decode cX0_mostOfAllRows 6 = .ok (.getfield 31, 3) := by decide +kernel
theorem dX0_mostOfAllRows_9 : decode cX0_mostOfAllRows 9 = .ok (.if_icmp .ge 21, 3) := by decide +kernel
theorem dX0_mostOfAllRows_12 : decode cX0_mostOfAllRows 12 = .ok (.iload_n 2, 1) := by decide +kernel
theorem dX0_mostOfAllRows_13 : decode cX0_mostOfAllRows 13 = .ok (.bipush 7, 2) := by decide +kernel
theorem dX0_mostOfAllRows_15 : decode cX0_mostOfAllRows 15 = .ok (.imul, 1) := by decide +kernel
theorem dX0_mostOfAllRows_16 : decode cX0_mostOfAllRows 16 = .ok (.istore_n 2, 1) := by decide +kernel
theorem dX0_mostOfAllRows_17 : decode cX0_mostOfAllRows 17 = .ok (.aload_n 0, 1) := by decide +kernel
theorem dX0_mostOfAllRows_18 : decode cX0_mostOfAllRows 18 = .ok (.getfield 25, 3) := by decide +kernel
theorem dX0_mostOfAllRows_21 : decode cX0_mostOfAllRows 21 = .ok (.iload_n 3, 1) := by decide +kernel
theorem dX0_mostOfAllRows_22 : decode cX0_mostOfAllRows 22 = .ok (.iconst (-1), 1) := by decide +kernel
theorem dX0_mostOfAllRows_23 : decode cX0_mostOfAllRows 23 = .ok (.iastore, 1) := by decide +kernel
theorem dX0_mostOfAllRows_24 : decode cX0_mostOfAllRows 24 = .ok (.iinc 3 1, 3) := by decide +kernel
theorem dX0_mostOfAllRows_27 : decode cX0_mostOfAllRows 27 = .ok (.goto (-23), 3) := by decide +kernel
theorem dX0_mostOfAllRows_30 : decode cX0_mostOfAllRows 30 = .ok (.iconst (-1), 1) := by decide +kernel
theorem dX0_mostOfAllRows_31 : decode cX0_mostOfAllRows 31 = .ok (.istore_n 3, 1) := by decide +kernel
theorem dX0_mostOfAllRows_32 : decode cX0_mostOfAllRows 32 = .ok (.iconst 0, 1) := by decide +kernel
theorem dX0_mostOfAllRows_33 : decode cX0_mostOfAllRows 33 = .ok (.istore 4, 2) := by decide +kernel
theorem dX0_mostOfAllRows_35 : decode cX0_mostOfAllRows 35 = .ok (.iload 4, 2) := by decide +kernel
theorem dX0_mostOfAllRows_37 : decode cX0_mostOfAllRows 37 = .ok (.iload_n 2, 1) := by decide +kernel
theorem dX0_mostOfAllRows_38 : decode cX0_mostOfAllRows 38 = .ok (.if_icmp .ge 36, 3) := by decide +kernel
theorem dX0_mostOfAllRows_41 : decode cX0_mostOfAllRows 41 = .ok (.aload_n 0, 1) := by decide +kernel
theorem dX0_mostOfAllRows_42 : decode cX0_mostOfAllRows 42 = .ok (.getfield 12, 3) := by decide +kernel
theorem dX0_mostOfAllRows_45 : decode cX0_mostOfAllRows 45 = .ok (.aload_n 1, 1) := by decide +kernel
theorem dX0_mostOfAllRows_46 : decode cX0_mostOfAllRows 46 = .ok (.invokevirtual 38, 3) := by decide +kernel
theorem dX0_mostOfAllRows_49 : decode cX0_mostOfAllRows 49 = .ok (.ifCond .ne 15, 3) := by decide +kernel
theorem dX0_mostOfAllRows_52 : decode cX0_mostOfAllRows 52 = .ok (.iload_n 3, 1) := by decide +kernel
theorem dX0_mostOfAllRows_53 : decode cX0_mostOfAllRows 53 = .ok (.aload_n 0, 1) := by decide +kernel
theorem dX0_mostOfAllRows_54 : decode cX0_mostOfAllRows 54 = .ok (.getfield 12, 3) := by decide +kernel
theorem dX0_mostOfAllRows_57 : decode cX0_mostOfAllRows 57 = .ok (.invokevirtual 46, 3) := by decide +kernel
theorem dX0_mostOfAllRows_60 : decode cX0_mostOfAllRows 60 = .ok (.invokestatic 62, 3) := by decide +kernel
theorem dX0_mostOfAllRows_63 : decode cX0_mostOfAllRows 63 = .ok (.istore_n 3, 1) := by decide +kernel
theorem dX0_mostOfAllRows_64 : decode cX0_mostOfAllRows 64 = .ok (.aload_n 0, 1) := by decide +kernel
theorem dX0_mostOfAllRows_65 : decode cX0_mostOfAllRows 65 = .ok (.invokevirtual 68, 3) := by decide +kernel
theorem dX0_mostOfAllRows_68 : decode cX0_mostOfAllRows 68 = .ok (.iinc 4 1, 3) := by decide +kernel
theorem dX0_mostOfAllRows_71 : decode cX0_mostOfAllRows 71 = .ok (.goto (-36), 3) := by decide +kernel
theorem dX0_mostOfAllRows_74 : decode cX0_mostOfAllRows 74 = .ok (.iload_n 3, 1) := by decide +kernel
theorem dX0_mostOfAllRows_75 : decode cX0_mostOfAllRows 75 = .ok (.ireturn, 1) := by decide +kernel
set_option maxRecDepth 20000 in
theorem ggX0_turnRow_X0_shine : GoodIn wsX0_turnRow wsX0_shine := goodIn_r _ [7, 8, 9, 10, 11, 12, 13, 14, 15, 16, 17, 18, 19, 20, 21, 22, 23, 24, 25, 26, 27, 28, 29, 30] (by decide +kernel) (by decide +kernel)
set_option maxRecDepth 20000 in
theorem gX0_turnRow_X0_shine : GoodIn wsX0_turnRow (wsV RX0 58 RX0 yX0_shine wsX0_shine) := goodIn_app (goodIn_of _ (by decide +kernel)) ggX0_turnRow_X0_shine
theorem dX0_turnRow_0 : decode cX0_turnRow 0 = .ok (.aload_n 0, 1) := by decide +kernel
theorem dX0_turnRow_1 : decode cX0_turnRow 1 = .ok (.getfield 31, 3) := by decide +kernel
theorem dX0_turnRow_4 : decode cX0_turnRow 4 = .ok (.iconst 1, 1) := by decide +kernel
theorem dX0_turnRow_5 : decode cX0_turnRow 5 = .ok (.isub, 1) := by decide +kernel
theorem dX0_turnRow_6 : decode cX0_turnRow 6 = .ok (.istore_n 1, 1) := by decide +kernel
theorem dX0_turnRow_7 : decode cX0_turnRow 7 = .ok (.iload_n 1, 1) := by decide +kernel
theorem dX0_turnRow_8 : decode cX0_turnRow 8 = .ok (.ifCond .lt 72, 3) := by decide +kernel
theorem dX0_turnRow_11 : decode cX0_turnRow 11 = .ok (.aload_n 0, 1) := by decide +kernel
theorem dX0_turnRow_12 : decode cX0_turnRow 12 = .ok (.iload_n 1, 1) := by decide +kernel
theorem dX0_turnRow_13 : decode cX0_turnRow 13 = .ok (.aload_n 0, 1) := by decide +kernel
theorem dX0_turnRow_14 : decode cX0_turnRow 14 = .ok (.getfield 25, 3) := by decide +kernel
theorem dX0_turnRow_17 : decode cX0_turnRow 17 = .ok (.iload_n 1, 1) := by decide +kernel
theorem dX0_turnRow_18 : decode cX0_turnRow 18 = .ok (.iaload, 1) := by decide +kernel
theorem dX0_turnRow_19 : decode cX0_turnRow 19 = .ok (.iconst (-1), 1) := by decide +kernel
theorem dX0_turnRow_20 : decode cX0_turnRow 20 = .ok (.invokevirtual 58, 3) := by decide +kernel
theorem dX0_turnRow_23 : decode cX0_turnRow 23 = .ok (.aload_n 0, 1) := by decide +kernel
theorem dX0_turnRow_24 : decode cX0_turnRow 24 = .ok (.getfield 25, 3) := by decide +kernel
theorem dX0_turnRow_27 : decode cX0_turnRow 27 = .ok (.iload_n 1, 1) := by decide +kernel
theorem dX0_turnRow_28 : decode cX0_turnRow 28 = .ok (.aload_n 0, 1) := by decide +kernel
theorem dX0_turnRow_29 : decode cX0_turnRow 29 = .ok (.getfield 25, 3) := by decide +kernel
theorem dX0_turnRow_32 : decode cX0_turnRow 32 = .ok (.iload_n 1, 1) := by decide +kernel
theorem dX0_turnRow_33 : decode cX0_turnRow 33 = .ok (.iaload, 1) := by decide +kernel
theorem dX0_turnRow_34 : decode cX0_turnRow 34 = .ok (.iconst 5, 1) := by decide +kernel
theorem dX0_turnRow_35 : decode cX0_turnRow 35 = .ok (.if_icmp .ge 14, 3) := by decide +kernel
theorem dX0_turnRow_38 : decode cX0_turnRow 38 = .ok (.aload_n 0, 1) := by decide +kernel
theorem dX0_turnRow_39 : decode cX0_turnRow 39 = .ok (.getfield 25, 3) := by decide +kernel
theorem dX0_turnRow_42 : decode cX0_turnRow 42 = .ok (.iload_n 1, 1) := by decide +kernel
theorem dX0_turnRow_43 : decode cX0_turnRow 43 = .ok (.iaload, 1) := by decide +kernel
theorem dX0_turnRow_44 : decode cX0_turnRow 44 = .ok (.iconst 1, 1) := by decide +kernel
theorem dX0_turnRow_45 : decode cX0_turnRow 45 = .ok (.iadd, 1) := by decide +kernel
theorem dX0_turnRow_46 : decode cX0_turnRow 46 = .ok (.goto 4, 3) := by decide +kernel
theorem dX0_turnRow_49 : decode cX0_turnRow 49 = .ok (.iconst (-1), 1) := by decide +kernel
theorem dX0_turnRow_50 : decode cX0_turnRow 50 = .ok (.iastore, 1) := by decide +kernel
theorem dX0_turnRow_51 : decode cX0_turnRow 51 = .ok (.aload_n 0, 1) := by decide +kernel
theorem dX0_turnRow_52 : decode cX0_turnRow 52 = .ok (.iload_n 1, 1) := by decide +kernel
theorem dX0_turnRow_53 : decode cX0_turnRow 53 = .ok (.aload_n 0, 1) := by decide +kernel
theorem dX0_turnRow_54 : decode cX0_turnRow 54 = .ok (.getfield 25, 3) := by decide +kernel
theorem dX0_turnRow_57 : decode cX0_turnRow 57 = .ok (.iload_n 1, 1) := by decide +kernel
theorem dX0_turnRow_58 : decode cX0_turnRow 58 = .ok (.iaload, 1) := by decide +kernel
theorem dX0_turnRow_59 : decode cX0_turnRow 59 = .ok (.iconst 1, 1) := by decide +kernel
theorem dX0_turnRow_60 : decode cX0_turnRow 60 = .ok (.invokevirtual 58, 3) := by decide +kernel
theorem dX0_turnRow_63 : decode cX0_turnRow 63 = .ok (.aload_n 0, 1) := by decide +kernel
theorem dX0_turnRow_64 : decode cX0_turnRow 64 = .ok (.getfield 25, 3) := by decide +kernel
theorem dX0_turnRow_67 : decode cX0_turnRow 67 = .ok (.iload_n 1, 1) := by decide +kernel
theorem dX0_turnRow_68 : decode cX0_turnRow 68 = .ok (.iaload, 1) := by decide +kernel
theorem dX0_turnRow_69 : decode cX0_turnRow 69 = .ok (.iconst (-1), 1) := by decide +kernel
theorem dX0_turnRow_70 : decode cX0_turnRow 70 = .ok (.if_icmp .eq 4, 3) := by decide +kernel
theorem dX0_turnRow_73 : decode cX0_turnRow 73 = .ok (.return_, 1) := by decide +kernel
theorem dX0_turnRow_74 : decode cX0_turnRow 74 = .ok (.iinc 1 (-1), 3) := by decide +kernel
theorem dX0_turnRow_77 : decode cX0_turnRow 77 = .ok (.goto (-70), 3) := by decide +kernel
theorem dX0_turnRow_80 : decode cX0_turnRow 80 = .ok (.return_, 1) := by decide +kernel
set_option maxRecDepth 20000 in
theorem ggX0_shine_X3_shine : GoodIn wsX0_shine wsX3_shine := goodIn_r _ [8, 9, 10, 11, 7, 12, 13, 14, 22, 23] (by decide +kernel) (by decide +kernel)
set_option maxRecDepth 20000 in
theorem gX0_shine_X3_shine : GoodIn wsX0_shine (wsV RX0 71 RX3 yX3_shine wsX3_shine) := goodIn_app (goodIn_of _ (by decide +kernel)) ggX0_shine_X3_shine
theorem dX0_shine_0 : decode cX0_shine 0 = .ok (.iload_n 2, 1) := by decide +kernel
theorem dX0_shine_1 : decode cX0_shine 1 = .ok (.iconst (-1), 1) := by decide +kernel
theorem dX0_shine_2 : decode cX0_shine 2 = .ok (.if_icmp .eq 26, 3) := by decide +kernel
theorem dX0_shine_5 : decode cX0_shine 5 = .ok (.aload_n 0, 1) := by decide +kernel
theorem dX0_shine_6 : decode cX0_shine 6 = .ok (.getfield 12, 3) := by decide +kernel
theorem dX0_shine_9 : decode cX0_shine 9 = .ok (.iload_n 2, 1) := by decide +kernel
theorem dX0_shine_10 : decode cX0_shine 10 = .ok (.aload_n 0, 1) := by decide +kernel
theorem dX0_shine_11 : decode cX0_shine 11 = .ok (.getfield 22, 3) := by decide +kernel
theorem dX0_shine_14 : decode cX0_shine 14 = .ok (.iload_n 1, 1) := by decide +kernel
theorem dX0_shine_15 : decode cX0_shine 15 = .ok (.iaload, 1) := by decide +kernel
theorem dX0_shine_16 : decode cX0_shine 16 = .ok (.iadd, 1) := by decide +kernel
theorem dX0_shine_17 : decode cX0_shine 17 = .ok (.iload_n 3, 1) := by decide +kernel
theorem dX0_shine_18 : decode cX0_shine 18 = .ok (.aload_n 0, 1) := by decide +kernel
theorem dX0_shine_19 : decode cX0_shine 19 = .ok (.getfield 18, 3) := by decide +kernel
theorem dX0_shine_22 : decode cX0_shine 22 = .ok (.iload_n 1, 1) := by decide +kernel
theorem dX0_shine_23 : decode cX0_shine 23 = .ok (.iaload, 1) := by decide +kernel
theorem dX0_shine_24 : decode cX0_shine 24 = .ok (.imul, 1) := by decide +kernel
theorem dX0_shine_25 : decode cX0_shine 25 = .ok (.invokevirtual 71, 3) := by decide +kernel
theorem dX0_shine_28 : decode cX0_shine 28 = .ok (.return_, 1) := by decide +kernel
theorem dX1_init_0 : decode cX1_init 0 = .ok (.aload_n 0, 1) := by decide +kernel
theorem dX1_init_1 : decode cX1_init 1 = .ok (.invokespecial 1, 3) := by decide +kernel
theorem dX1_init_4 : decode cX1_init 4 = .ok (.aload_n 0, 1) := by decide +kernel
theorem dX1_init_5 : decode cX1_init 5 = .ok (.iload_n 1, 1) := by decide +kernel
theorem dX1_init_6 : decode cX1_init 6 = .ok (.putfield 7, 3) := by decide +kernel
theorem dX1_init_9 : decode cX1_init 9 = .ok (.aload_n 0, 1) := by decide +kernel
theorem dX1_init_10 : decode cX1_init 10 = .ok (.iload_n 2, 1) := by decide +kernel
theorem dX1_init_11 : decode cX1_init 11 = .ok (.putfield 13, 3) := by decide +kernel
theorem dX1_init_14 : decode cX1_init 14 = .ok (.aload_n 0, 1) := by decide +kernel
theorem dX1_init_15 : decode cX1_init 15 = .ok (.iload_n 3, 1) := by decide +kernel
theorem dX1_init_16 : decode cX1_init 16 = .ok (.putfield 16, 3) := by decide +kernel
theorem dX1_init_19 : decode cX1_init 19 = .ok (.aload_n 0, 1) := by decide +kernel
theorem dX1_init_20 : decode cX1_init 20 = .ok (.iload 4, 2) := by decide +kernel
theorem dX1_init_22 : decode cX1_init 22 = .ok (.putfield 19, 3) := by decide +kernel
theorem dX1_init_25 : decode cX1_init 25 = .ok (.aload_n 0, 1) := by decide +kernel
theorem dX1_init_26 : decode cX1_init 26 = .ok (.iload 5, 2) := by decide +kernel
theorem dX1_init_28 : decode cX1_init 28 = .ok (.putfield 22, 3) := by decide +kernel
theorem dX1_init_31 : decode cX1_init 31 = .ok (.aload_n 0, 1) := by decide +kernel
theorem dX1_init_32 : decode cX1_init 32 = .ok (.iload 6, 2) := by decide +kernel
theorem dX1_init_34 : decode cX1_init 34 = .ok (.putfield 25, 3) := by decide +kernel
theorem dX1_init_37 : decode cX1_init 37 = .ok (.return_, 1) := by decide +kernel
theorem dX1_isOver_0 : decode cX1_isOver 0 = .ok (.aload_n 1, 1) := by decide +kernel
theorem dX1_isOver_1 : decode cX1_isOver 1 = .ok (.getfield 28, 3) := by decide +kernel
theorem dX1_isOver_4 : decode cX1_isOver 4 = .ok (.aload_n 0, 1) := by decide +kernel
theorem dX1_isOver_5 : decode cX1_isOver 5 = .ok (.getfield 7, 3) := by decide +kernel
theorem dX1_isOver_8 : decode cX1_isOver 8 = .ok (.aload_n 0, 1) := by decide +kernel
theorem dX1_isOver_9 : decode cX1_isOver 9 = .ok (.getfield 22, 3) := by decide +kernel
theorem dX1_isOver_12 : decode cX1_isOver 12 = .ok (.iload_n 2, 1) := by decide +kernel
theorem dX1_isOver_13 : decode cX1_isOver 13 = .ok (.imul, 1) := by decide +kernel
theorem dX1_isOver_14 : decode cX1_isOver 14 = .ok (.iadd, 1) := by decide +kernel
theorem dX1_isOver_15 : decode cX1_isOver 15 = .ok (.isub, 1) := by decide +kernel
theorem dX1_isOver_16 : decode cX1_isOver 16 = .ok (.istore_n 3, 1) := by decide +kernel
theorem dX1_isOver_17 : decode cX1_isOver 17 = .ok (.aload_n 1, 1) := by decide +kernel
theorem dX1_isOver_18 : decode cX1_isOver 18 = .ok (.getfield 31, 3) := by decide +kernel
theorem dX1_isOver_21 : decode cX1_isOver 21 = .ok (.aload_n 0, 1) := by decide +kernel
theorem dX1_isOver_22 : decode cX1_isOver 22 = .ok (.getfield 13, 3) := by decide +kernel
theorem dX1_isOver_25 : decode cX1_isOver 25 = .ok (.aload_n 0, 1) := by decide +kernel
theorem dX1_isOver_26 : decode cX1_isOver 26 = .ok (.getfield 25, 3) := by decide +kernel
theorem dX1_isOver_29 : decode cX1_isOver 29 = .ok (.iload_n 2, 1) := by decide +kernel
theorem dX1_isOver_30 : decode cX1_isOver 30 = .ok (.imul, 1) := by decide +kernel
theorem dX1_isOver_31 : decode cX1_isOver 31 = .ok (.iadd, 1) := by decide +kernel
theorem dX1_isOver_32 : decode cX1_isOver 32 = .ok (.isub, 1) := by decide +kernel
theorem dX1_isOver_33 : decode cX1_isOver 33 = .ok (.istore 4, 2) := by decide +kernel
theorem dX1_isOver_35 : decode cX1_isOver 35 = .ok (.iload_n 3, 1) := by decide +kernel
theorem dX1_isOver_36 : decode cX1_isOver 36 = .ok (.ifCond .lt 29, 3) := by decide +kernel
theorem dX1_isOver_39 : decode cX1_isOver 39 = .ok (.iload_n 3, 1) := by decide +kernel
theorem dX1_isOver_40 : decode cX1_isOver 40 = .ok (.aload_n 0, 1) := by decide +kernel
theorem dX1_isOver_41 : decode cX1_isOver 41 = .ok (.getfield 16, 3) := by decide +kernel
theorem dX1_isOver_44 : decode cX1_isOver 44 = .ok (.if_icmp .ge 21, 3) := by decide +kernel
theorem dX1_isOver_47 : decode cX1_isOver 47 = .ok (.iload 4, 2) := by decide +kernel
theorem dX1_isOver_49 : decode cX1_isOver 49 = .ok (.ifCond .lt 16, 3) := by decide +kernel
theorem dX1_isOver_52 : decode cX1_isOver 52 = .ok (.iload 4, 2) := by decide +kernel
theorem dX1_isOver_54 : decode cX1_isOver 54 = .ok (.aload_n 0, 1) := by decide +kernel
theorem dX1_isOver_55 : decode cX1_isOver 55 = .ok (.getfield 19, 3) := by decide +kernel
theorem dX1_isOver_58 : decode cX1_isOver 58 = .ok (.if_icmp .ge 7, 3) := by decide +kernel
theorem dX1_isOver_61 : decode cX1_isOver 61 = .ok (.iconst 1, 1) := by decide +kernel
theorem dX1_isOver_62 : decode cX1_isOver 62 = .ok (.goto 4, 3) := by decide +kernel
theorem dX1_isOver_65 : decode cX1_isOver 65 = .ok (.iconst 0, 1) := by decide +kernel
theorem dX1_isOver_66 : decode cX1_isOver 66 = .ok (.ireturn, 1) := by decide +kernel
theorem dX1_move_0 : decode cX1_move 0 = .ok (.aload_n 0, 1) := by decide +kernel
theorem dX1_move_1 : decode cX1_move 1 = .ok (.dup, 1) := by decide +kernel
theorem dX1_move_2 : decode cX1_move 2 = .ok (.getfield 7, 3) := by decide +kernel
theorem dX1_move_5 : decode cX1_move 5 = .ok (.aload_n 0, 1) := by decide +kernel
theorem dX1_move_6 : decode cX1_move 6 = .ok (.getfield 22, 3) := by decide +kernel
theorem dX1_move_9 : decode cX1_move 9 = .ok (.iadd, 1) := by decide +kernel
theorem dX1_move_10 : decode cX1_move 10 = .ok (.putfield 7, 3) := by decide +kernel
theorem dX1_move_13 : decode cX1_move 13 = .ok (.aload_n 0, 1) := by decide +kernel
theorem dX1_move_14 : decode cX1_move 14 = .ok (.dup, 1) := by decide +kernel
theorem dX1_move_15 : decode cX1_move 15 = .ok (.getfield 13, 3) := by decide +kernel
theorem dX1_move_18 : decode cX1_move 18 = .ok (.aload_n 0, 1) := by decide +kernel
theorem dX1_move_19 : decode cX1_move 19 = .ok (.getfield 25, 3) := by decide +kernel
theorem dX1_move_22 : decode cX1_move 22 = .ok (.iadd, 1) := by decide +kernel
theorem dX1_move_23 : decode cX1_move 23 = .ok (.putfield 13, 3) := by decide +kernel
theorem dX1_move_26 : decode cX1_move 26 = .ok (.return_, 1) := by decide +kernel
set_option maxRecDepth 20000 in
theorem ggX2_init_Jx4a65c_init_da8c8 : GoodIn wsX2_init wsJx4a65c_init_da8c8 := goodIn_r _ [13, 14, 15, 16, 17, 18, 19, 20, 21, 22, 23, 24, 25, 2, 3, 26, 27, 28] (by decide +kernel) (by decide +kernel)
set_option maxRecDepth 20000 in
theorem gX2_init_Jx4a65c_init_da8c8 : GoodIn wsX2_init (wsJx4a65c_init_da8c8) := ggX2_init_Jx4a65c_init_da8c8
theorem dX2_init_0 : decode cX2_init 0 = .ok (.aload_n 0, 1) := by decide +kernel
theorem dX2_init_1 : decode cX2_init 1 = .ok (.invokespecial 3, 3) := by decide +kernel
theorem dX2_init_4 : decode cX2_init 4 = .ok (.aload_n 0, 1) := by decide +kernel
theorem dX2_init_5 : decode cX2_init 5 = .ok (.new 9, 3) := by decide +kernel
theorem dX2_init_8 : decode cX2_init 8 = .ok (.dup, 1) := by decide +kernel
theorem dX2_init_9 : decode cX2_init 9 = .ok (.invokespecial 11, 3) := by decide +kernel
theorem dX2_init_12 : decode cX2_init 12 = .ok (.putfield 12, 3) := by decide +kernel
theorem dX2_init_15 : decode cX2_init 15 = .ok (.aload_n 0, 1) := by decide +kernel
theorem dX2_init_16 : decode cX2_init 16 = .ok (.new 9, 3) := by decide +kernel
theorem dX2_init_19 : decode cX2_init 19 = .ok (.dup, 1) := by decide +kernel
theorem dX2_init_20 : decode cX2_init 20 = .ok (.invokespecial 11, 3) := by decide +kernel
theorem dX2_init_23 : decode cX2_init 23 = .ok (.putfield 18, 3) := by decide +kernel
theorem dX2_init_26 : decode cX2_init 26 = .ok (.aload_n 0, 1) := by decide +kernel
theorem dX2_init_27 : decode cX2_init 27 = .ok (.bipush 64, 2) := by decide +kernel
theorem dX2_init_29 : decode cX2_init 29 = .ok (.newarray .boolean, 2) := by decide +kernel
theorem dX2_init_31 : decode cX2_init 31 = .ok (.putfield 21, 3) := by decide +kernel
theorem dX2_init_34 : decode cX2_init 34 = .ok (.return_, 1) := by decide +kernel
theorem dX2_isTaken_0 : decode cX2_isTaken 0 = .ok (.iload_n 1, 1) := by decide +kernel
theorem dX2_isTaken_1 : decode cX2_isTaken 1 = .ok (.ifCond .lt 25, 3) := by decide +kernel
theorem dX2_isTaken_4 : decode cX2_isTaken 4 = .ok (.iload_n 1, 1) := by decide +kernel
theorem dX2_isTaken_5 : decode cX2_isTaken 5 = .ok (.aload_n 0, 1) := by decide +kernel
theorem dX2_isTaken_6 : decode cX2_isTaken 6 = .ok (.getfield 21, 3) := by decide +kernel
theorem dX2_isTaken_9 : decode cX2_isTaken 9 = .ok (.arraylength, 1) := by decide +kernel
theorem dX2_isTaken_10 : decode cX2_isTaken 10 = .ok (.if_icmp .ge 16, 3) := by decide +kernel
theorem dX2_isTaken_13 : decode cX2_isTaken 13 = .ok (.aload_n 0, 1) := by decide +kernel
theorem dX2_isTaken_14 : decode cX2_isTaken 14 = .ok (.getfield 21, 3) := by decide +kernel
theorem dX2_isTaken_17 : decode cX2_isTaken 17 = .ok (.iload_n 1, 1) := by decide +kernel
theorem dX2_isTaken_18 : decode cX2_isTaken 18 = .ok (.baload, 1) := by decide +kernel
theorem dX2_isTaken_19 : decode cX2_isTaken 19 = .ok (.ifCond .eq 7, 3) := by decide +kernel
theorem dX2_isTaken_22 : decode cX2_isTaken 22 = .ok (.iconst 1, 1) := by decide +kernel
theorem dX2_isTaken_23 : decode cX2_isTaken 23 = .ok (.goto 4, 3) := by decide +kernel
theorem dX2_isTaken_26 : decode cX2_isTaken 26 = .ok (.iconst 0, 1) := by decide +kernel
theorem dX2_isTaken_27 : decode cX2_isTaken 27 = .ok (.ireturn, 1) := by decide +kernel
set_option maxRecDepth 20000 in
theorem ggX2_put_X4_init : GoodIn wsX2_put wsX4_init := goodIn_r _ [8, 9, 10, 11, 12, 13, 14, 15, 81, 82, 83, 84, 85, 86, 87, 88] (by decide +kernel) (by decide +kernel)
set_option maxRecDepth 20000 in
theorem gX2_put_X4_init : GoodIn wsX2_put (wsX4_init) := ggX2_put_X4_init
set_option maxRecDepth 20000 in
theorem ggX2_put_Jx4a65c_add_9ea2d : GoodIn wsX2_put wsJx4a65c_add_9ea2d := goodIn_r _ [20, 21, 22, 23, 24, 25, 26, 27, 19, 28, 29, 30, 31, 32, 33, 34, 35, 36, 37, 38, 39, 40, 41, 42, 43, 44, 45, 46, 47, 48, 49, 50, 51, 52, 53, 54, 55, 56, 57, 58, 59, 60, 61, 62, 63, 64, 65, 66, 67, 68, 69, 70, 71, 89, 90, 91] (by decide +kernel) (by decide +kernel)
set_option maxRecDepth 20000 in
theorem gX2_put_Jx4a65c_add_9ea2d : GoodIn wsX2_put (wsV RX2 30 RJx4a65c yJx4a65c_add_9ea2d wsJx4a65c_add_9ea2d) := goodIn_app (goodIn_of _ (by decide +kernel)) ggX2_put_Jx4a65c_add_9ea2d
set_option maxRecDepth 20000 in
theorem ggX2_put_Jx4a65c_size_8abf5 : GoodIn wsX2_put wsJx4a65c_size_8abf5 := goodIn_r _ [75, 24, 89, 90, 91] (by decide +kernel) (by decide +kernel)
set_option maxRecDepth 20000 in
theorem gX2_put_Jx4a65c_size_8abf5 : GoodIn wsX2_put (wsV RX2 34 RJx4a65c yJx4a65c_size_8abf5 wsJx4a65c_size_8abf5) := goodIn_app (goodIn_of _ (by decide +kernel)) ggX2_put_Jx4a65c_size_8abf5
theorem dX2_put_0 : decode cX2_put 0 = .ok (.iload_n 1, 1) := by decide +kernel
theorem dX2_put_1 : decode cX2_put 1 = .ok (.ifCond .lt 19, 3) := by decide +kernel
theorem dX2_put_4 : decode cX2_put 4 = .ok (.iload_n 1, 1) := by decide +kernel
theorem dX2_put_5 : decode cX2_put 5 = .ok (.aload_n 0, 1) := by decide +kernel
theorem dX2_put_6 : decode cX2_put 6 = .ok (.getfield 21, 3) := by decide +kernel
theorem dX2_put_9 : decode cX2_put 9 = .ok (.arraylength, 1) := by decide +kernel
theorem dX2_put_10 : decode cX2_put 10 = .ok (.if_icmp .ge 10, 3) := by decide +kernel
theorem dX2_put_13 : decode cX2_put 13 = .ok (.aload_n 0, 1) := by decide +kernel
theorem dX2_put_14 : decode cX2_put 14 = .ok (.getfield 21, 3) := by decide +kernel
theorem dX2_put_17 : decode cX2_put 17 = .ok (.iload_n 1, 1) := by decide +kernel
theorem dX2_put_18 : decode cX2_put 18 = .ok (.iconst 1, 1) := by decide +kernel
theorem dX2_put_19 : decode cX2_put 19 = .ok (.bastore, 1) := by decide +kernel
theorem dX2_put_20 : decode cX2_put 20 = .ok (.aload_n 0, 1) := by decide +kernel
theorem dX2_put_21 : decode cX2_put 21 = .ok (.getfield 12, 3) := by decide +kernel
theorem dX2_put_24 : decode cX2_put 24 = .ok (.new 25, 3) := by decide +kernel
theorem dX2_put_27 : decode cX2_put 27 = .ok (.dup, 1) := by decide +kernel
theorem dX2_put_28 : decode cX2_put 28 = .ok (.iload_n 1, 1) := by decide +kernel
theorem dX2_put_29 : decode cX2_put 29 = .ok (.invokespecial 27, 3) := by decide +kernel
theorem dX2_put_32 : decode cX2_put 32 = .ok (.invokevirtual 30, 3) := by decide +kernel
theorem dX2_put_35 : decode cX2_put 35 = .ok (.pop, 1) := by decide +kernel
theorem dX2_put_36 : decode cX2_put 36 = .ok (.aload_n 0, 1) := by decide +kernel
theorem dX2_put_37 : decode cX2_put 37 = .ok (.getfield 12, 3) := by decide +kernel
theorem dX2_put_40 : decode cX2_put 40 = .ok (.invokevirtual 34, 3) := by decide +kernel
theorem dX2_put_43 : decode cX2_put 43 = .ok (.iconst 1, 1) := by decide +kernel
theorem dX2_put_44 : decode cX2_put 44 = .ok (.isub, 1) := by decide +kernel
theorem dX2_put_45 : decode cX2_put 45 = .ok (.ireturn, 1) := by decide +kernel
theorem dX2_hourBehind_0 : decode cX2_hourBehind 0 = .ok (.aload_n 0, 1) := by decide +kernel
theorem dX2_hourBehind_1 : decode cX2_hourBehind 1 = .ok (.getfield 38, 3) := by decide +kernel
theorem dX2_hourBehind_4 : decode cX2_hourBehind 4 = .ok (.iload_n 1, 1) := by decide +kernel
theorem dX2_hourBehind_5 : decode cX2_hourBehind 5 = .ok (.iadd, 1) := by decide +kernel
theorem dX2_hourBehind_6 : decode cX2_hourBehind 6 = .ok (.bipush 24, 2) := by decide +kernel
theorem dX2_hourBehind_8 : decode cX2_hourBehind 8 = .ok (.irem, 1) := by decide +kernel
theorem dX2_hourBehind_9 : decode cX2_hourBehind 9 = .ok (.istore_n 2, 1) := by decide +kernel
theorem dX2_hourBehind_10 : decode cX2_hourBehind 10 = .ok (.iload_n 2, 1) := by decide +kernel
theorem dX2_hourBehind_11 : decode cX2_hourBehind 11 = .ok (.ifCond .ge 7, 3) := by decide +kernel
theorem dX2_hourBehind_14 : decode cX2_hourBehind 14 = .ok (.iconst 0, 1) := by decide +kernel
theorem dX2_hourBehind_15 : decode cX2_hourBehind 15 = .ok (.goto 4, 3) := by decide +kernel
theorem dX2_hourBehind_18 : decode cX2_hourBehind 18 = .ok (.iload_n 2, 1) := by decide +kernel
theorem dX2_hourBehind_19 : decode cX2_hourBehind 19 = .ok (.ireturn, 1) := by decide +kernel
set_option maxRecDepth 20000 in
theorem ggX2_strengthBehind_X2_hourBehind : GoodIn wsX2_strengthBehind wsX2_hourBehind := goodIn_r _ [5, 6, 7, 8, 9, 10, 11] (by decide +kernel) (by decide +kernel)
set_option maxRecDepth 20000 in
theorem gX2_strengthBehind_X2_hourBehind : GoodIn wsX2_strengthBehind (wsV RX2 46 RX2 yX2_hourBehind wsX2_hourBehind) := goodIn_app (goodIn_of _ (by decide +kernel)) ggX2_strengthBehind_X2_hourBehind
theorem dX2_strengthBehind_0 : decode cX2_strengthBehind 0 = .ok (.getstatic 42, 3) := by decide +kernel
theorem dX2_strengthBehind_3 : decode cX2_strengthBehind 3 = .ok (.aload_n 0, 1) := by decide +kernel
theorem dX2_strengthBehind_4 : decode cX2_strengthBehind 4 = .ok (.iload_n 1, 1) := by decide +kernel
theorem dX2_strengthBehind_5 : decode cX2_strengthBehind 5 = .ok (.invokevirtual 46, 3) := by decide +kernel
theorem dX2_strengthBehind_8 : decode cX2_strengthBehind 8 = .ok (.iaload, 1) := by decide +kernel
theorem dX2_strengthBehind_9 : decode cX2_strengthBehind 9 = .ok (.ireturn, 1) := by decide +kernel
theorem dX2_dirtBehind_0 : decode cX2_dirtBehind 0 = .ok (.aload_n 0, 1) := by decide +kernel
theorem dX2_dirtBehind_1 : decode cX2_dirtBehind 1 = .ok (.getfield 38, 3) := by decide +kernel
theorem dX2_dirtBehind_4 : decode cX2_dirtBehind 4 = .ok (.iload_n 2, 1) := by decide +kernel
theorem dX2_dirtBehind_5 : decode cX2_dirtBehind 5 = .ok (.iadd, 1) := by decide +kernel
theorem dX2_dirtBehind_6 : decode cX2_dirtBehind 6 = .ok (.bipush 24, 2) := by decide +kernel
theorem dX2_dirtBehind_8 : decode cX2_dirtBehind 8 = .ok (.idiv, 1) := by decide +kernel
theorem dX2_dirtBehind_9 : decode cX2_dirtBehind 9 = .ok (.aload_n 0, 1) := by decide +kernel
theorem dX2_dirtBehind_10 : decode cX2_dirtBehind 10 = .ok (.getfield 38, 3) := by decide +kernel
theorem dX2_dirtBehind_13 : decode cX2_dirtBehind 13 = .ok (.bipush 24, 2) := by decide +kernel
theorem dX2_dirtBehind_15 : decode cX2_dirtBehind 15 = .ok (.idiv, 1) := by decide +kernel
theorem dX2_dirtBehind_16 : decode cX2_dirtBehind 16 = .ok (.isub, 1) := by decide +kernel
theorem dX2_dirtBehind_17 : decode cX2_dirtBehind 17 = .ok (.istore_n 3, 1) := by decide +kernel
theorem dX2_dirtBehind_18 : decode cX2_dirtBehind 18 = .ok (.bipush 9, 2) := by decide +kernel
theorem dX2_dirtBehind_20 : decode cX2_dirtBehind 20 = .ok (.aload_n 1, 1) := by decide +kernel
theorem dX2_dirtBehind_21 : decode cX2_dirtBehind 21 = .ok (.getfield 50, 3) := by decide +kernel
theorem dX2_dirtBehind_24 : decode cX2_dirtBehind 24 = .ok (.iload_n 3, 1) := by decide +kernel
theorem dX2_dirtBehind_25 : decode cX2_dirtBehind 25 = .ok (.iadd, 1) := by decide +kernel
theorem dX2_dirtBehind_26 : decode cX2_dirtBehind 26 = .ok (.invokestatic 53, 3) := by decide +kernel
theorem dX2_dirtBehind_29 : decode cX2_dirtBehind 29 = .ok (.ireturn, 1) := by decide +kernel
set_option maxRecDepth 20000 in
theorem ggX2_isCovered_Jx4a65c_size_8abf5 : GoodIn wsX2_isCovered wsJx4a65c_size_8abf5 := goodIn_r _ [7, 8, 44, 45, 46] (by decide +kernel) (by decide +kernel)
set_option maxRecDepth 20000 in
theorem gX2_isCovered_Jx4a65c_size_8abf5 : GoodIn wsX2_isCovered (wsV RX2 34 RJx4a65c yJx4a65c_size_8abf5 wsJx4a65c_size_8abf5) := goodIn_app (goodIn_of _ (by decide +kernel)) ggX2_isCovered_Jx4a65c_size_8abf5
set_option maxRecDepth 20000 in
theorem ggX2_isCovered_Jx4a65c_get_915e3 : GoodIn wsX2_isCovered wsJx4a65c_get_915e3 := goodIn_r _ [12, 8, 13, 14, 15, 16, 17, 18, 19, 20, 21, 22, 23, 6, 24, 25, 44, 45, 46] (by decide +kernel) (by decide +kernel)
set_option maxRecDepth 20000 in
theorem gX2_isCovered_Jx4a65c_get_915e3 : GoodIn wsX2_isCovered (wsV RX2 59 RJx4a65c yJx4a65c_get_915e3 wsJx4a65c_get_915e3) := goodIn_app (goodIn_of _ (by decide +kernel)) ggX2_isCovered_Jx4a65c_get_915e3
set_option maxRecDepth 20000 in
theorem ggX2_isCovered_X1_isOver : GoodIn wsX2_isCovered wsX1_isOver := goodIn_r _ [30, 31, 32, 33, 34, 35, 36, 37, 38, 47, 48, 49, 50, 51, 52, 53, 54, 55, 56, 57, 58, 59, 60] (by decide +kernel) (by decide +kernel)
set_option maxRecDepth 20000 in
theorem gX2_isCovered_X1_isOver : GoodIn wsX2_isCovered (wsV RX2 65 RX1 yX1_isOver wsX1_isOver) := goodIn_app (goodIn_of _ (by decide +kernel)) ggX2_isCovered_X1_isOver
theorem dX2_isCovered_0 : decode cX2_isCovered 0 = .ok (.iconst 0, 1) := by decide +kernel
theorem dX2_isCovered_1 : decode cX2_isCovered 1 = .ok (.istore_n 3, 1) := by decide +kernel
theorem dX2_isCovered_2 : decode cX2_isCovered 2 = .ok (.iload_n 3, 1) := by decide +kernel
theorem dX2_isCovered_3 : decode cX2_isCovered 3 = .ok (.aload_n 0, 1) := by decide +kernel
theorem dX2_isCovered_4 : decode cX2_isCovered 4 = .ok (.getfield 18, 3) := by decide +kernel
theorem dX2_isCovered_7 : decode cX2_isCovered 7 = .ok (.invokevirtual 34, 3) := by decide +kernel
theorem dX2_isCovered_10 : decode cX2_isCovered 10 = .ok (.if_icmp .ge 30, 3) := by decide +kernel
theorem dX2_isCovered_13 : decode cX2_isCovered 13 = .ok (.aload_n 0, 1) := by decide +kernel
theorem dX2_isCovered_14 : decode cX2_isCovered 14 = .ok (.getfield 18, 3) := by decide +kernel
theorem dX2_isCovered_17 : decode cX2_isCovered 17 = .ok (.iload_n 3, 1) := by decide +kernel
theorem dX2_isCovered_18 : decode cX2_isCovered 18 = .ok (.invokevirtual 59, 3) := by decide +kernel
theorem dX2_isCovered_21 : decode cX2_isCovered 21 = .ok (.checkcast 63, 3) := by decide +kernel
theorem dX2_isCovered_24 : decode cX2_isCovered 24 = .ok (.aload_n 1, 1) := by decide +kernel
theorem dX2_isCovered_25 : decode cX2_isCovered 25 = .ok (.iload_n 2, 1) := by decide +kernel
theorem dX2_isCovered_26 : decode cX2_isCovered 26 = .ok (.invokevirtual 65, 3) := by decide +kernel
theorem dX2_isCovered_29 : decode cX2_isCovered 29 = .ok (.ifCond .eq 5, 3) := by decide +kernel
theorem dX2_isCovered_32 : decode cX2_isCovered 32 = .ok (.iconst 1, 1) := by decide +kernel
theorem dX2_isCovered_33 : decode cX2_isCovered 33 = .ok (.ireturn, 1) := by decide +kernel
theorem dX2_isCovered_34 : decode cX2_isCovered 34 = .ok (.iinc 3 1, 3) := by decide +kernel
theorem dX2_isCovered_37 : decode cX2_isCovered 37 = .ok (.goto (-35), 3) := by decide +kernel
theorem dX2_isCovered_40 : decode cX2_isCovered 40 = .ok (.iconst 0, 1) := by decide +kernel
theorem dX2_isCovered_41 : decode cX2_isCovered 41 = .ok (.ireturn, 1) := by decide +kernel
set_option maxRecDepth 20000 in
theorem ggX2_isShaded_X2_hourBehind : GoodIn wsX2_isShaded wsX2_hourBehind := goodIn_r _ [7, 8, 22, 23, 24, 25, 26] (by decide +kernel) (by decide +kernel)
set_option maxRecDepth 20000 in
theorem gX2_isShaded_X2_hourBehind : GoodIn wsX2_isShaded (wsV RX2 46 RX2 yX2_hourBehind wsX2_hourBehind) := goodIn_app (goodIn_of _ (by decide +kernel)) ggX2_isShaded_X2_hourBehind
set_option maxRecDepth 20000 in
theorem ggX2_isShaded_X2_isTaken : GoodIn wsX2_isShaded wsX2_isTaken := goodIn_r _ [12, 13, 22, 23, 24, 25, 26] (by decide +kernel) (by decide +kernel)
set_option maxRecDepth 20000 in
theorem gX2_isShaded_X2_isTaken : GoodIn wsX2_isShaded (wsV RX2 75 RX2 yX2_isTaken wsX2_isTaken) := goodIn_app (goodIn_of _ (by decide +kernel)) ggX2_isShaded_X2_isTaken
theorem dX2_isShaded_0 : decode cX2_isShaded 0 = .ok (.aload_n 0, 1) := by decide +kernel
theorem dX2_isShaded_1 : decode cX2_isShaded 1 = .ok (.iload_n 2, 1) := by decide +kernel
theorem dX2_isShaded_2 : decode cX2_isShaded 2 = .ok (.invokevirtual 46, 3) := by decide +kernel
theorem dX2_isShaded_5 : decode cX2_isShaded 5 = .ok (.istore_n 3, 1) := by decide +kernel
theorem dX2_isShaded_6 : decode cX2_isShaded 6 = .ok (.getstatic 42, 3) := by decide +kernel
theorem dX2_isShaded_9 : decode cX2_isShaded 9 = .ok (.iload_n 3, 1) := by decide +kernel
theorem dX2_isShaded_10 : decode cX2_isShaded 10 = .ok (.iaload, 1) := by decide +kernel
theorem dX2_isShaded_11 : decode cX2_isShaded 11 = .ok (.iconst 3, 1) := by decide +kernel
theorem dX2_isShaded_12 : decode cX2_isShaded 12 = .ok (.if_icmp .le 5, 3) := by decide +kernel
theorem dX2_isShaded_15 : decode cX2_isShaded 15 = .ok (.iconst 0, 1) := by decide +kernel
theorem dX2_isShaded_16 : decode cX2_isShaded 16 = .ok (.ireturn, 1) := by decide +kernel
theorem dX2_isShaded_17 : decode cX2_isShaded 17 = .ok (.iload_n 3, 1) := by decide +kernel
theorem dX2_isShaded_18 : decode cX2_isShaded 18 = .ok (.bipush 12, 2) := by decide +kernel
theorem dX2_isShaded_20 : decode cX2_isShaded 20 = .ok (.if_icmp .ge 12, 3) := by decide +kernel
theorem dX2_isShaded_23 : decode cX2_isShaded 23 = .ok (.aload_n 1, 1) := by decide +kernel
theorem dX2_isShaded_24 : decode cX2_isShaded 24 = .ok (.getfield 69, 3) := by decide +kernel
theorem dX2_isShaded_27 : decode cX2_isShaded 27 = .ok (.iconst 1, 1) := by decide +kernel
theorem dX2_isShaded_28 : decode cX2_isShaded 28 = .ok (.iadd, 1) := by decide +kernel
theorem dX2_isShaded_29 : decode cX2_isShaded 29 = .ok (.goto 9, 3) := by decide +kernel
theorem dX2_isShaded_32 : decode cX2_isShaded 32 = .ok (.aload_n 1, 1) := by decide +kernel
theorem dX2_isShaded_33 : decode cX2_isShaded 33 = .ok (.getfield 69, 3) := by decide +kernel
theorem dX2_isShaded_36 : decode cX2_isShaded 36 = .ok (.iconst 1, 1) := by decide +kernel
theorem dX2_isShaded_37 : decode cX2_isShaded 37 = .ok (.isub, 1) := by decide +kernel
theorem dX2_isShaded_38 : decode cX2_isShaded 38 = .ok (.istore 4, 2) := by decide +kernel
theorem dX2_isShaded_40 : decode cX2_isShaded 40 = .ok (.iload 4, 2) := by decide +kernel
theorem dX2_isShaded_42 : decode cX2_isShaded 42 = .ok (.ifCond .lt 31, 3) := by decide +kernel
theorem dX2_isShaded_45 : decode cX2_isShaded 45 = .ok (.iload 4, 2) := by decide +kernel
theorem dX2_isShaded_47 : decode cX2_isShaded 47 = .ok (.bipush 8, 2) := by decide +kernel
theorem dX2_isShaded_49 : decode cX2_isShaded 49 = .ok (.if_icmp .ge 24, 3) := by decide +kernel
theorem dX2_isShaded_52 : decode cX2_isShaded 52 = .ok (.aload_n 0, 1) := by decide +kernel
theorem dX2_isShaded_53 : decode cX2_isShaded 53 = .ok (.aload_n 1, 1) := by decide +kernel
theorem dX2_isShaded_54 : decode cX2_isShaded 54 = .ok (.getfield 72, 3) := by decide +kernel
theorem dX2_isShaded_57 : decode cX2_isShaded 57 = .ok (.bipush 8, 2) := by decide +kernel
theorem dX2_isShaded_59 : decode cX2_isShaded 59 = .ok (.imul, 1) := by decide +kernel
theorem dX2_isShaded_60 : decode cX2_isShaded 60 = .ok (.iload 4, 2) := by decide +kernel
theorem dX2_isShaded_62 : decode cX2_isShaded 62 = .ok (.iadd, 1) := by decide +kernel
theorem dX2_isShaded_63 : decode cX2_isShaded 63 = .ok (.invokevirtual 75, 3) := by decide +kernel
theorem dX2_isShaded_66 : decode cX2_isShaded 66 = .ok (.ifCond .eq 7, 3) := by decide +kernel
theorem dX2_isShaded_69 : decode cX2_isShaded 69 = .ok (.iconst 1, 1) := by decide +kernel
theorem dX2_isShaded_70 : decode cX2_isShaded 70 = .ok (.goto 4, 3) := by decide +kernel
theorem dX2_isShaded_73 : decode cX2_isShaded 73 = .ok (.iconst 0, 1) := by decide +kernel
theorem dX2_isShaded_74 : decode cX2_isShaded 74 = .ok (.ireturn, 1) := by decide +kernel
set_option maxRecDepth 20000 in
theorem ggX2_powerBehind_X2_isCovered : GoodIn wsX2_powerBehind wsX2_isCovered := goodIn_r _ [6, 7, 8, 9, 10, 11, 12, 13, 14, 15, 16, 17, 18, 19, 20, 21, 22, 23, 24, 25, 26, 27, 28, 29, 30, 31, 32, 33, 34, 35, 36, 37, 38, 39, 40, 41, 42, 43, 44, 84, 85, 86, 87, 88, 89, 90, 91, 92, 93, 94, 95, 96, 97, 98, 99, 100, 101, 102, 103, 104, 105] (by decide +kernel) (by decide +kernel)
set_option maxRecDepth 20000 in
theorem gX2_powerBehind_X2_isCovered : GoodIn wsX2_powerBehind (wsV RX2 79 RX2 yX2_isCovered wsX2_isCovered) := goodIn_app (goodIn_of _ (by decide +kernel)) ggX2_powerBehind_X2_isCovered
set_option maxRecDepth 20000 in
theorem ggX2_powerBehind_X2_isShaded : GoodIn wsX2_powerBehind wsX2_isShaded := goodIn_r _ [48, 49, 50, 51, 52, 53, 5, 54, 55, 56, 57, 58, 59, 60, 92, 93, 94, 95, 96, 97, 98, 99, 84, 85, 86, 87, 88] (by decide +kernel) (by decide +kernel)
set_option maxRecDepth 20000 in
theorem gX2_powerBehind_X2_isShaded : GoodIn wsX2_powerBehind (wsV RX2 82 RX2 yX2_isShaded wsX2_isShaded) := goodIn_app (goodIn_of _ (by decide +kernel)) ggX2_powerBehind_X2_isShaded
set_option maxRecDepth 20000 in
theorem ggX2_powerBehind_X2_dirtBehind : GoodIn wsX2_powerBehind wsX2_dirtBehind := goodIn_r _ [64, 55, 65, 66, 67, 68, 69, 84, 85, 86, 87, 88, 92, 93, 94, 95, 96, 97, 98, 99] (by decide +kernel) (by decide +kernel)
set_option maxRecDepth 20000 in
theorem gX2_powerBehind_X2_dirtBehind : GoodIn wsX2_powerBehind (wsV RX2 85 RX2 yX2_dirtBehind wsX2_dirtBehind) := goodIn_app (goodIn_of _ (by decide +kernel)) ggX2_powerBehind_X2_dirtBehind
set_option maxRecDepth 20000 in
theorem ggX2_powerBehind_X2_strengthBehind : GoodIn wsX2_powerBehind wsX2_strengthBehind := goodIn_r _ [73, 51, 52, 53, 5, 54, 55, 84, 85, 86, 87, 88] (by decide +kernel) (by decide +kernel)
set_option maxRecDepth 20000 in
theorem gX2_powerBehind_X2_strengthBehind : GoodIn wsX2_powerBehind (wsV RX2 89 RX2 yX2_strengthBehind wsX2_strengthBehind) := goodIn_app (goodIn_of _ (by decide +kernel)) ggX2_powerBehind_X2_strengthBehind
set_option maxRecDepth 20000 in
theorem ggX2_powerBehind_X4_distance : GoodIn wsX2_powerBehind wsX4_distance := goodIn_r _ [78, 79, 80, 81, 82, 68, 83, 92, 93, 94, 95, 96, 97, 98, 99] (by decide +kernel) (by decide +kernel)
set_option maxRecDepth 20000 in
theorem gX2_powerBehind_X4_distance : GoodIn wsX2_powerBehind (wsV RX2 95 RX4 yX4_distance wsX4_distance) := goodIn_app (goodIn_of _ (by decide +kernel)) ggX2_powerBehind_X4_distance
theorem dX2_powerBehind_0 : decode cX2_powerBehind 0 = .ok (.aload_n 0, 1) := by decide +kernel
theorem dX2_powerBehind_1 : decode cX2_powerBehind 1 = .ok (.aload_n 1, 1) := by decide +kernel
theorem dX2_powerBehind_2 : decode cX2_powerBehind 2 = .ok (.iload_n 2, 1) := by decide +kernel
theorem dX2_powerBehind_3 : decode cX2_powerBehind 3 = .ok (.invokevirtual 79, 3) := by decide +kernel
theorem dX2_powerBehind_6 : decode cX2_powerBehind 6 = .ok (.ifCond .ne 12, 3) := by decide +kernel
theorem dX2_powerBehind_9 : decode cX2_powerBehind 9 = .ok (.aload_n 0, 1) := by decide +kernel
theorem dX2_powerBehind_10 : decode cX2_powerBehind 10 = .ok (.aload_n 1, 1) := by decide +kernel
theorem dX2_powerBehind_11 : decode cX2_powerBehind 11 = .ok (.iload_n 2, 1) := by decide +kernel
theorem dX2_powerBehind_12 : decode cX2_powerBehind 12 = .ok (.invokevirtual 82, 3) := by decide +kernel
theorem dX2_powerBehind_15 : decode cX2_powerBehind 15 = .ok (.ifCond .eq 5, 3) := by decide +kernel
theorem dX2_powerBehind_18 : decode cX2_powerBehind 18 = .ok (.iconst 0, 1) := by decide +kernel
theorem dX2_powerBehind_19 : decode cX2_powerBehind 19 = .ok (.ireturn, 1) := by decide +kernel
theorem dX2_powerBehind_20 : decode cX2_powerBehind 20 = .ok (.bipush 10, 2) := by decide +kernel
theorem dX2_powerBehind_22 : decode cX2_powerBehind 22 = .ok (.aload_n 0, 1) := by decide +kernel
theorem dX2_powerBehind_23 : decode cX2_powerBehind 23 = .ok (.aload_n 1, 1) := by decide +kernel
theorem dX2_powerBehind_24 : decode cX2_powerBehind 24 = .ok (.iload_n 2, 1) := by decide +kernel
theorem dX2_powerBehind_25 : decode cX2_powerBehind 25 = .ok (.invokevirtual 85, 3) := by decide +kernel
theorem dX2_powerBehind_28 : decode cX2_powerBehind 28 = .ok (.isub, 1) := by decide +kernel
theorem dX2_powerBehind_29 : decode cX2_powerBehind 29 = .ok (.istore_n 3, 1) := by decide +kernel
theorem dX2_powerBehind_30 : decode cX2_powerBehind 30 = .ok (.aload_n 0, 1) := by decide +kernel
theorem dX2_powerBehind_31 : decode cX2_powerBehind 31 = .ok (.iload_n 2, 1) := by decide +kernel
theorem dX2_powerBehind_32 : decode cX2_powerBehind 32 = .ok (.invokevirtual 89, 3) := by decide +kernel
theorem dX2_powerBehind_35 : decode cX2_powerBehind 35 = .ok (.bipush 10, 2) := by decide +kernel
theorem dX2_powerBehind_37 : decode cX2_powerBehind 37 = .ok (.aload_n 0, 1) := by decide +kernel
theorem dX2_powerBehind_38 : decode cX2_powerBehind 38 = .ok (.getfield 92, 3) := by decide +kernel
theorem dX2_powerBehind_41 : decode cX2_powerBehind 41 = .ok (.isub, 1) := by decide +kernel
theorem dX2_powerBehind_42 : decode cX2_powerBehind 42 = .ok (.imul, 1) := by decide +kernel
theorem dX2_powerBehind_43 : decode cX2_powerBehind 43 = .ok (.iload_n 3, 1) := by decide +kernel
theorem dX2_powerBehind_44 : decode cX2_powerBehind 44 = .ok (.imul, 1) := by decide +kernel
theorem dX2_powerBehind_45 : decode cX2_powerBehind 45 = .ok (.bipush 20, 2) := by decide +kernel
theorem dX2_powerBehind_47 : decode cX2_powerBehind 47 = .ok (.aload_n 1, 1) := by decide +kernel
theorem dX2_powerBehind_48 : decode cX2_powerBehind 48 = .ok (.invokevirtual 95, 3) := by decide +kernel
theorem dX2_powerBehind_51 : decode cX2_powerBehind 51 = .ok (.isub, 1) := by decide +kernel
theorem dX2_powerBehind_52 : decode cX2_powerBehind 52 = .ok (.imul, 1) := by decide +kernel
theorem dX2_powerBehind_53 : decode cX2_powerBehind 53 = .ok (.bipush 20, 2) := by decide +kernel
theorem dX2_powerBehind_55 : decode cX2_powerBehind 55 = .ok (.idiv, 1) := by decide +kernel
theorem dX2_powerBehind_56 : decode cX2_powerBehind 56 = .ok (.ireturn, 1) := by decide +kernel
set_option maxRecDepth 20000 in
theorem ggX2_tenthOf_X2_powerBehind : GoodIn wsX2_tenthOf wsX2_powerBehind := goodIn_r _ [5, 6, 7, 8, 9, 4, 10, 11, 12, 13, 14, 15, 16, 17, 18, 19, 20, 21, 22, 23, 24, 25, 26, 27, 28, 29, 30, 31, 32, 33, 34, 35, 36, 37, 38, 39, 40, 41, 42, 43, 44, 45, 46, 47, 48, 49, 50, 51, 52, 53, 54, 55, 56, 57, 58, 59, 60, 61, 62, 63, 64, 65, 66, 67, 68, 69, 70, 71, 72, 73, 74, 75, 76, 77, 78, 79, 80, 81, 82, 83, 84, 85, 86, 87, 88, 89, 90, 91, 92, 93, 94, 95, 96, 97, 98, 99, 100, 101, 102, 103, 104, 105, 106, 107, 108, 109] (by decide +kernel) (by decide +kernel)
set_option maxRecDepth 20000 in
theorem gX2_tenthOf_X2_powerBehind : GoodIn wsX2_tenthOf (wsV RX2 98 RX2 yX2_powerBehind wsX2_powerBehind) := goodIn_app (goodIn_of _ (by decide +kernel)) ggX2_tenthOf_X2_powerBehind
theorem dX2_tenthOf_0 : decode cX2_tenthOf 0 = .ok (.aload_n 0, 1) := by decide +kernel
theorem dX2_tenthOf_1 : decode cX2_tenthOf 1 = .ok (.aload_n 1, 1) := by decide +kernel
theorem dX2_tenthOf_2 : decode cX2_tenthOf 2 = .ok (.iconst 0, 1) := by decide +kernel
theorem dX2_tenthOf_3 : decode cX2_tenthOf 3 = .ok (.invokevirtual 98, 3) := by decide +kernel
theorem dX2_tenthOf_6 : decode cX2_tenthOf 6 = .ok (.bipush 10, 2) := by decide +kernel
theorem dX2_tenthOf_8 : decode cX2_tenthOf 8 = .ok (.idiv, 1) := by decide +kernel
theorem dX2_tenthOf_9 : decode cX2_tenthOf 9 = .ok (.ireturn, 1) := by decide +kernel
set_option maxRecDepth 20000 in
theorem ggX2_shineOn_X3_darken : GoodIn wsX2_shineOn wsX3_darken := goodIn_r _ [8, 9, 10, 137, 138] (by decide +kernel) (by decide +kernel)
set_option maxRecDepth 20000 in
theorem gX2_shineOn_X3_darken : GoodIn wsX2_shineOn (wsV RX2 101 RX3 yX3_darken wsX3_darken) := goodIn_app (goodIn_of _ (by decide +kernel)) ggX2_shineOn_X3_darken
set_option maxRecDepth 20000 in
theorem ggX2_shineOn_Jx4a65c_size_8abf5 : GoodIn wsX2_shineOn wsJx4a65c_size_8abf5 := goodIn_r _ [15, 16, 139, 140, 141] (by decide +kernel) (by decide +kernel)
set_option maxRecDepth 20000 in
theorem gX2_shineOn_Jx4a65c_size_8abf5 : GoodIn wsX2_shineOn (wsV RX2 34 RJx4a65c yJx4a65c_size_8abf5 wsJx4a65c_size_8abf5) := goodIn_app (goodIn_of _ (by decide +kernel)) ggX2_shineOn_Jx4a65c_size_8abf5
set_option maxRecDepth 20000 in
theorem ggX2_shineOn_Jx4a65c_get_915e3 : GoodIn wsX2_shineOn wsJx4a65c_get_915e3 := goodIn_r _ [20, 16, 21, 22, 23, 24, 25, 26, 27, 28, 29, 30, 31, 14, 32, 33, 139, 140, 141] (by decide +kernel) (by decide +kernel)
set_option maxRecDepth 20000 in
theorem gX2_shineOn_Jx4a65c_get_915e3 : GoodIn wsX2_shineOn (wsV RX2 59 RJx4a65c yJx4a65c_get_915e3 wsJx4a65c_get_915e3) := goodIn_app (goodIn_of _ (by decide +kernel)) ggX2_shineOn_Jx4a65c_get_915e3
set_option maxRecDepth 20000 in
theorem ggX2_shineOn_X7_isIn : GoodIn wsX2_shineOn wsX7_isIn := goodIn_r _ [36] (by decide +kernel) (by decide +kernel)
set_option maxRecDepth 20000 in
theorem gX2_shineOn_X7_isIn_n109 : GoodIn wsX2_shineOn (wsX7_isIn) := ggX2_shineOn_X7_isIn
set_option maxRecDepth 20000 in
theorem ggX2_shineOn_X4_place : GoodIn wsX2_shineOn wsX4_place := goodIn_r _ [41, 42, 43, 44, 45, 40, 46, 47, 48, 129, 130, 131, 132, 133, 134, 135, 136] (by decide +kernel) (by decide +kernel)
set_option maxRecDepth 20000 in
theorem gX2_shineOn_X4_place : GoodIn wsX2_shineOn (wsV RX2 113 RX4 yX4_place wsX4_place) := goodIn_app (goodIn_of _ (by decide +kernel)) ggX2_shineOn_X4_place
set_option maxRecDepth 20000 in
theorem ggX2_shineOn_X2_tenthOf : GoodIn wsX2_shineOn wsX2_tenthOf := goodIn_r _ [53, 54, 55, 56, 52, 57, 58, 59, 60, 61, 62, 63, 64, 11, 12, 13, 14, 15, 16, 17, 18, 19, 20, 21, 22, 23, 24, 25, 26, 27, 28, 29, 30, 31, 32, 33, 65, 66, 67, 68, 69, 70, 71, 72, 73, 74, 75, 76, 77, 78, 79, 80, 81, 82, 83, 84, 85, 86, 87, 88, 89, 90, 91, 92, 93, 94, 95, 96, 97, 98, 99, 100, 101, 102, 103, 104, 105, 106, 107, 108, 109, 40, 110, 111, 112, 113, 114, 115, 124, 125, 126, 127, 128, 139, 140, 141, 129, 130, 131, 132, 133, 134, 135, 136, 142, 143, 144, 145, 146, 147] (by decide +kernel) (by decide +kernel)
set_option maxRecDepth 20000 in
theorem gX2_shineOn_X2_tenthOf : GoodIn wsX2_shineOn (wsV RX2 116 RX2 yX2_tenthOf wsX2_tenthOf) := goodIn_app (goodIn_of _ (by decide +kernel)) ggX2_shineOn_X2_tenthOf
set_option maxRecDepth 20000 in
theorem ggX2_shineOn_X3_shine : GoodIn wsX2_shineOn wsX3_shine := goodIn_r _ [119, 120, 121, 122, 7, 123, 9, 10, 137, 138] (by decide +kernel) (by decide +kernel)
set_option maxRecDepth 20000 in
theorem gX2_shineOn_X3_shine : GoodIn wsX2_shineOn (wsV RX2 120 RX3 yX3_shine wsX3_shine) := goodIn_app (goodIn_of _ (by decide +kernel)) ggX2_shineOn_X3_shine
theorem dX2_shineOn_0 : decode cX2_shineOn 0 = .ok (.aload_n 1, 1) := by decide +kernel
theorem dX2_shineOn_1 : decode cX2_shineOn 1 = .ok (.invokevirtual 101, 3) := by decide +kernel
theorem dX2_shineOn_4 : decode cX2_shineOn 4 = .ok (.iconst 0, 1) := by decide +kernel
theorem dX2_shineOn_5 : decode cX2_shineOn 5 = .ok (.istore_n 3, 1) := by decide +kernel
theorem dX2_shineOn_6 : decode cX2_shineOn 6 = .ok (.iload_n 3, 1) := by decide +kernel
theorem dX2_shineOn_7 : decode cX2_shineOn 7 = .ok (.aload_n 0, 1) := by decide +kernel
theorem dX2_shineOn_8 : decode cX2_shineOn 8 = .ok (.getfield 12, 3) := by decide +kernel
theorem dX2_shineOn_11 : decode cX2_shineOn 11 = .ok (.invokevirtual 34, 3) := by decide +kernel
theorem dX2_shineOn_14 : decode cX2_shineOn 14 = .ok (.if_icmp .ge 54, 3) := by decide +kernel
theorem dX2_shineOn_17 : decode cX2_shineOn 17 = .ok (.aload_n 0, 1) := by decide +kernel
theorem dX2_shineOn_18 : decode cX2_shineOn 18 = .ok (.getfield 12, 3) := by decide +kernel
theorem dX2_shineOn_21 : decode cX2_shineOn 21 = .ok (.iload_n 3, 1) := by decide +kernel
theorem dX2_shineOn_22 : decode cX2_shineOn 22 = .ok (.invokevirtual 59, 3) := by decide +kernel
theorem dX2_shineOn_25 : decode cX2_shineOn 25 = .ok (.checkcast 25, 3) := by decide +kernel
theorem dX2_shineOn_28 : decode cX2_shineOn 28 = .ok (.astore 4, 2) := by decide +kernel
theorem dX2_shineOn_30 : decode cX2_shineOn 30 = .ok (.aload 4, 2) := by decide +kernel
theorem dX2_shineOn_32 : decode cX2_shineOn 32 = .ok (.getfield 106, 3) := by decide +kernel
theorem dX2_shineOn_35 : decode cX2_shineOn 35 = .ok (.iconst (-1), 1) := by decide +kernel
theorem dX2_shineOn_36 : decode cX2_shineOn 36 = .ok (.if_icmp .eq 26, 3) := by decide +kernel
theorem dX2_shineOn_39 : decode cX2_shineOn 39 = .ok (.iload_n 2, 1) := by decide +kernel
theorem dX2_shineOn_40 : decode cX2_shineOn 40 = .ok (.iload_n 3, 1) := by decide +kernel
theorem dX2_shineOn_41 : decode cX2_shineOn 41 = .ok (.invokestatic 109, 3) := by decide +kernel
theorem dX2_shineOn_44 : decode cX2_shineOn 44 = .ok (.ifCond .ne 18, 3) := by decide +kernel
theorem dX2_shineOn_47 : decode cX2_shineOn 47 = .ok (.aload_n 1, 1) := by decide +kernel
theorem dX2_shineOn_48 : decode cX2_shineOn 48 = .ok (.aload 4, 2) := by decide +kernel
theorem dX2_shineOn_50 : decode cX2_shineOn 50 = .ok (.invokevirtual 113, 3) := by decide +kernel
theorem dX2_shineOn_53 : decode cX2_shineOn 53 = .ok (.aload_n 0, 1) := by decide +kernel
theorem dX2_shineOn_54 : decode cX2_shineOn 54 = .ok (.aload 4, 2) := by decide +kernel
theorem dX2_shineOn_56 : decode cX2_shineOn 56 = .ok (.invokevirtual 116, 3) := by decide +kernel
theorem dX2_shineOn_59 : decode cX2_shineOn 59 = .ok (.invokevirtual 120, 3) := by decide +kernel
theorem dX2_shineOn_62 : decode cX2_shineOn 62 = .ok (.iinc 3 1, 3) := by decide +kernel
theorem dX2_shineOn_65 : decode cX2_shineOn 65 = .ok (.goto (-59), 3) := by decide +kernel
theorem dX2_shineOn_68 : decode cX2_shineOn 68 = .ok (.return_, 1) := by decide +kernel
set_option maxRecDepth 20000 in
theorem ggX2_stowWhole_Jx4a65c_size_8abf5 : GoodIn wsX2_stowWhole wsJx4a65c_size_8abf5 := goodIn_r _ [9, 10, 41, 42, 43] (by decide +kernel) (by decide +kernel)
set_option maxRecDepth 20000 in
theorem gX2_stowWhole_Jx4a65c_size_8abf5 : GoodIn wsX2_stowWhole (wsV RX2 34 RJx4a65c yJx4a65c_size_8abf5 wsJx4a65c_size_8abf5) := goodIn_app (goodIn_of _ (by decide +kernel)) ggX2_stowWhole_Jx4a65c_size_8abf5
set_option maxRecDepth 20000 in
theorem ggX2_stowWhole_Jx4a65c_get_915e3 : GoodIn wsX2_stowWhole wsJx4a65c_get_915e3 := goodIn_r _ [14, 10, 15, 16, 17, 18, 19, 20, 21, 22, 23, 24, 25, 8, 26, 27, 41, 42, 43] (by decide +kernel) (by decide +kernel)
set_option maxRecDepth 20000 in
theorem gX2_stowWhole_Jx4a65c_get_915e3 : GoodIn wsX2_stowWhole (wsV RX2 59 RJx4a65c yJx4a65c_get_915e3 wsJx4a65c_get_915e3) := goodIn_app (goodIn_of _ (by decide +kernel)) ggX2_stowWhole_Jx4a65c_get_915e3
theorem dX2_stowWhole_0 : decode cX2_stowWhole 0 = .ok (.iconst 0, 1) := by decide +kernel
theorem dX2_stowWhole_1 : decode cX2_stowWhole 1 = .ok (.istore_n 1, 1) := by decide +kernel
theorem dX2_stowWhole_2 : decode cX2_stowWhole 2 = .ok (.iload_n 1, 1) := by decide +kernel
theorem dX2_stowWhole_3 : decode cX2_stowWhole 3 = .ok (.aload_n 0, 1) := by decide +kernel
theorem dX2_stowWhole_4 : decode cX2_stowWhole 4 = .ok (.getfield 12, 3) := by decide +kernel
theorem dX2_stowWhole_7 : decode cX2_stowWhole 7 = .ok (.invokevirtual 34, 3) := by decide +kernel
theorem dX2_stowWhole_10 : decode cX2_stowWhole 10 = .ok (.if_icmp .ge 33, 3) := by decide +kernel
theorem dX2_stowWhole_13 : decode cX2_stowWhole 13 = .ok (.aload_n 0, 1) := by decide +kernel
theorem dX2_stowWhole_14 : decode cX2_stowWhole 14 = .ok (.getfield 12, 3) := by decide +kernel
theorem dX2_stowWhole_17 : decode cX2_stowWhole 17 = .ok (.iload_n 1, 1) := by decide +kernel
theorem dX2_stowWhole_18 : decode cX2_stowWhole 18 = .ok (.invokevirtual 59, 3) := by decide +kernel
theorem dX2_stowWhole_21 : decode cX2_stowWhole 21 = .ok (.checkcast 25, 3) := by decide +kernel
theorem dX2_stowWhole_24 : decode cX2_stowWhole 24 = .ok (.astore_n 2, 1) := by decide +kernel
theorem dX2_stowWhole_25 : decode cX2_stowWhole 25 = .ok (.aload_n 2, 1) := by decide +kernel
theorem dX2_stowWhole_26 : decode cX2_stowWhole 26 = .ok (.getfield 124, 3) := by decide +kernel
theorem dX2_stowWhole_29 : decode cX2_stowWhole 29 = .ok (.ifCond .ne 8, 3) := by decide +kernel
theorem dX2_stowWhole_32 : decode cX2_stowWhole 32 = .ok (.aload_n 2, 1) := by decide +kernel
theorem dX2_stowWhole_33 : decode cX2_stowWhole 33 = .ok (.iconst (-1), 1) := by decide +kernel
theorem dX2_stowWhole_34 : decode cX2_stowWhole 34 = .ok (.putfield 106, 3) := by decide +kernel
theorem dX2_stowWhole_37 : decode cX2_stowWhole 37 = .ok (.iinc 1 1, 3) := by decide +kernel
theorem dX2_stowWhole_40 : decode cX2_stowWhole 40 = .ok (.goto (-38), 3) := by decide +kernel
theorem dX2_stowWhole_43 : decode cX2_stowWhole 43 = .ok (.return_, 1) := by decide +kernel
set_option maxRecDepth 20000 in
theorem ggX2_endTick_Jx4a65c_size_8abf5 : GoodIn wsX2_endTick wsJx4a65c_size_8abf5 := goodIn_r _ [11, 12, 61, 62, 63] (by decide +kernel) (by decide +kernel)
set_option maxRecDepth 20000 in
theorem gX2_endTick_Jx4a65c_size_8abf5 : GoodIn wsX2_endTick (wsV RX2 34 RJx4a65c yJx4a65c_size_8abf5 wsJx4a65c_size_8abf5) := goodIn_app (goodIn_of _ (by decide +kernel)) ggX2_endTick_Jx4a65c_size_8abf5
set_option maxRecDepth 20000 in
theorem ggX2_endTick_Jx4a65c_get_915e3 : GoodIn wsX2_endTick wsJx4a65c_get_915e3 := goodIn_r _ [16, 12, 17, 18, 19, 20, 21, 22, 23, 24, 25, 26, 27, 10, 28, 29, 61, 62, 63] (by decide +kernel) (by decide +kernel)
set_option maxRecDepth 20000 in
theorem gX2_endTick_Jx4a65c_get_915e3 : GoodIn wsX2_endTick (wsV RX2 59 RJx4a65c yJx4a65c_get_915e3 wsJx4a65c_get_915e3) := goodIn_app (goodIn_of _ (by decide +kernel)) ggX2_endTick_Jx4a65c_get_915e3
set_option maxRecDepth 20000 in
theorem ggX2_endTick_X1_move : GoodIn wsX2_endTick wsX1_move := goodIn_r _ [34, 35, 36, 37, 38, 64, 65, 66, 67, 68, 69] (by decide +kernel) (by decide +kernel)
set_option maxRecDepth 20000 in
theorem gX2_endTick_X1_move : GoodIn wsX2_endTick (wsV RX2 128 RX1 yX1_move wsX1_move) := goodIn_app (goodIn_of _ (by decide +kernel)) ggX2_endTick_X1_move
set_option maxRecDepth 20000 in
theorem ggX2_endTick_X2_dirtBehind : GoodIn wsX2_endTick wsX2_dirtBehind := goodIn_r _ [43, 6, 5, 44, 45, 46, 47, 48, 49, 50, 51, 52, 53, 54, 55, 56, 57, 58, 59, 60] (by decide +kernel) (by decide +kernel)
set_option maxRecDepth 20000 in
theorem gX2_endTick_X2_dirtBehind : GoodIn wsX2_endTick (wsV RX2 85 RX2 yX2_dirtBehind wsX2_dirtBehind) := goodIn_app (goodIn_of _ (by decide +kernel)) ggX2_endTick_X2_dirtBehind
theorem dX2_endTick_0 : decode cX2_endTick 0 = .ok (.iconst 0, 1) := by decide +kernel
theorem dX2_endTick_1 : decode cX2_endTick 1 = .ok (.istore_n 1, 1) := by decide +kernel
theorem dX2_endTick_2 : decode cX2_endTick 2 = .ok (.iload_n 1, 1) := by decide +kernel
theorem dX2_endTick_3 : decode cX2_endTick 3 = .ok (.aload_n 0, 1) := by decide +kernel
theorem dX2_endTick_4 : decode cX2_endTick 4 = .ok (.getfield 18, 3) := by decide +kernel
theorem dX2_endTick_7 : decode cX2_endTick 7 = .ok (.invokevirtual 34, 3) := by decide +kernel
theorem dX2_endTick_10 : decode cX2_endTick 10 = .ok (.if_icmp .ge 23, 3) := by decide +kernel
theorem dX2_endTick_13 : decode cX2_endTick 13 = .ok (.aload_n 0, 1) := by decide +kernel
theorem dX2_endTick_14 : decode cX2_endTick 14 = .ok (.getfield 18, 3) := by decide +kernel
theorem dX2_endTick_17 : decode cX2_endTick 17 = .ok (.iload_n 1, 1) := by decide +kernel
theorem dX2_endTick_18 : decode cX2_endTick 18 = .ok (.invokevirtual 59, 3) := by decide +kernel
theorem dX2_endTick_21 : decode cX2_endTick 21 = .ok (.checkcast 63, 3) := by decide +kernel
theorem dX2_endTick_24 : decode cX2_endTick 24 = .ok (.invokevirtual 128, 3) := by decide +kernel
theorem dX2_endTick_27 : decode cX2_endTick 27 = .ok (.iinc 1 1, 3) := by decide +kernel
theorem dX2_endTick_30 : decode cX2_endTick 30 = .ok (.goto (-28), 3) := by decide +kernel
theorem dX2_endTick_33 : decode cX2_endTick 33 = .ok (.iconst 0, 1) := by decide +kernel
theorem dX2_endTick_34 : decode cX2_endTick 34 = .ok (.istore_n 1, 1) := by decide +kernel
theorem dX2_endTick_35 : decode cX2_endTick 35 = .ok (.iload_n 1, 1) := by decide +kernel
theorem dX2_endTick_36 : decode cX2_endTick 36 = .ok (.aload_n 0, 1) := by decide +kernel
theorem dX2_endTick_37 : decode cX2_endTick 37 = .ok (.getfield 12, 3) := by decide +kernel
theorem dX2_endTick_40 : decode cX2_endTick 40 = .ok (.invokevirtual 34, 3) := by decide +kernel
theorem dX2_endTick_43 : decode cX2_endTick 43 = .ok (.if_icmp .ge 31, 3) := by decide +kernel
theorem dX2_endTick_46 : decode cX2_endTick 46 = .ok (.aload_n 0, 1) := by decide +kernel
theorem dX2_endTick_47 : decode cX2_endTick 47 = .ok (.getfield 12, 3) := by decide +kernel
theorem dX2_endTick_50 : decode cX2_endTick 50 = .ok (.iload_n 1, 1) := by decide +kernel
theorem dX2_endTick_51 : decode cX2_endTick 51 = .ok (.invokevirtual 59, 3) := by decide +kernel
theorem dX2_endTick_54 : decode cX2_endTick 54 = .ok (.checkcast 25, 3) := by decide +kernel
theorem dX2_endTick_57 : decode cX2_endTick 57 = .ok (.astore_n 2, 1) := by decide +kernel
theorem dX2_endTick_58 : decode cX2_endTick 58 = .ok (.aload_n 2, 1) := by decide +kernel
theorem dX2_endTick_59 : decode cX2_endTick 59 = .ok (.aload_n 0, 1) := by decide +kernel
theorem dX2_endTick_60 : decode cX2_endTick 60 = .ok (.aload_n 2, 1) := by decide +kernel
theorem dX2_endTick_61 : decode cX2_endTick 61 = .ok (.iconst 1, 1) := by decide +kernel
theorem dX2_endTick_62 : decode cX2_endTick 62 = .ok (.invokevirtual 85, 3) := by decide +kernel
theorem dX2_endTick_65 : decode cX2_endTick 65 = .ok (.putfield 50, 3) := by decide +kernel
theorem dX2_endTick_68 : decode cX2_endTick 68 = .ok (.iinc 1 1, 3) := by decide +kernel
theorem dX2_endTick_71 : decode cX2_endTick 71 = .ok (.goto (-36), 3) := by decide +kernel
theorem dX2_endTick_74 : decode cX2_endTick 74 = .ok (.aload_n 0, 1) := by decide +kernel
theorem dX2_endTick_75 : decode cX2_endTick 75 = .ok (.dup, 1) := by decide +kernel
theorem dX2_endTick_76 : decode cX2_endTick 76 = .ok (.getfield 38, 3) := by decide +kernel
theorem dX2_endTick_79 : decode cX2_endTick 79 = .ok (.iconst 1, 1) := by decide +kernel
theorem dX2_endTick_80 : decode cX2_endTick 80 = .ok (.iadd, 1) := by decide +kernel
theorem dX2_endTick_81 : decode cX2_endTick 81 = .ok (.putfield 38, 3) := by decide +kernel
theorem dX2_endTick_84 : decode cX2_endTick 84 = .ok (.return_, 1) := by decide +kernel
theorem dX3_init_0 : decode cX3_init 0 = .ok (.aload_n 0, 1) := by decide +kernel
theorem dX3_init_1 : decode cX3_init 1 = .ok (.invokespecial 3, 3) := by decide +kernel
theorem dX3_init_4 : decode cX3_init 4 = .ok (.aload_n 0, 1) := by decide +kernel
theorem dX3_init_5 : decode cX3_init 5 = .ok (.bipush 6, 2) := by decide +kernel
theorem dX3_init_7 : decode cX3_init 7 = .ok (.newarray .int, 2) := by decide +kernel
theorem dX3_init_9 : decode cX3_init 9 = .ok (.putfield 9, 3) := by decide +kernel
theorem dX3_init_12 : decode cX3_init 12 = .ok (.return_, 1) := by decide +kernel
theorem dX3_darken_0 : decode cX3_darken 0 = .ok (.iconst 0, 1) := by decide +kernel
theorem dX3_darken_1 : decode cX3_darken 1 = .ok (.istore_n 1, 1) := by decide +kernel
theorem dX3_darken_2 : decode cX3_darken 2 = .ok (.iload_n 1, 1) := by decide +kernel
theorem dX3_darken_3 : decode cX3_darken 3 = .ok (.aload_n 0, 1) := by decide +kernel
theorem dX3_darken_4 : decode cX3_darken 4 = .ok (.getfield 9, 3) := by decide +kernel
theorem dX3_darken_7 : decode cX3_darken 7 = .ok (.arraylength, 1) := by decide +kernel
theorem dX3_darken_8 : decode cX3_darken 8 = .ok (.if_icmp .ge 16, 3) := by decide +kernel
theorem dX3_darken_11 : decode cX3_darken 11 = .ok (.aload_n 0, 1) := by decide +kernel
theorem dX3_darken_12 : decode cX3_darken 12 = .ok (.getfield 9, 3) := by decide +kernel
theorem dX3_darken_15 : decode cX3_darken 15 = .ok (.iload_n 1, 1) := by decide +kernel
theorem dX3_darken_16 : decode cX3_darken 16 = .ok (.iconst 0, 1) := by decide +kernel
theorem dX3_darken_17 : decode cX3_darken 17 = .ok (.iastore, 1) := by decide +kernel
theorem dX3_darken_18 : decode cX3_darken 18 = .ok (.iinc 1 1, 3) := by decide +kernel
theorem dX3_darken_21 : decode cX3_darken 21 = .ok (.goto (-19), 3) := by decide +kernel
theorem dX3_darken_24 : decode cX3_darken 24 = .ok (.aload_n 0, 1) := by decide +kernel
theorem dX3_darken_25 : decode cX3_darken 25 = .ok (.iconst 0, 1) := by decide +kernel
theorem dX3_darken_26 : decode cX3_darken 26 = .ok (.putfield 15, 3) := by decide +kernel
theorem dX3_darken_29 : decode cX3_darken 29 = .ok (.return_, 1) := by decide +kernel
set_option maxRecDepth 20000 in
theorem ggX3_shine_X3_reach : GoodIn wsX3_shine wsX3_reach := goodIn_r _ [5, 6, 7, 8, 9] (by decide +kernel) (by decide +kernel)
set_option maxRecDepth 20000 in
theorem gX3_shine_X3_reach : GoodIn wsX3_shine (wsV RX3 19 RX3 yX3_reach wsX3_reach) := goodIn_app (goodIn_of _ (by decide +kernel)) ggX3_shine_X3_reach
theorem dX3_shine_0 : decode cX3_shine 0 = .ok (.aload_n 0, 1) := by decide +kernel
theorem dX3_shine_1 : decode cX3_shine 1 = .ok (.iload_n 1, 1) := by decide +kernel
theorem dX3_shine_2 : decode cX3_shine 2 = .ok (.bipush 6, 2) := by decide +kernel
theorem dX3_shine_4 : decode cX3_shine 4 = .ok (.iload_n 2, 1) := by decide +kernel
theorem dX3_shine_5 : decode cX3_shine 5 = .ok (.imul, 1) := by decide +kernel
theorem dX3_shine_6 : decode cX3_shine 6 = .ok (.invokevirtual 19, 3) := by decide +kernel
theorem dX3_shine_9 : decode cX3_shine 9 = .ok (.aload_n 0, 1) := by decide +kernel
theorem dX3_shine_10 : decode cX3_shine 10 = .ok (.iload_n 1, 1) := by decide +kernel
theorem dX3_shine_11 : decode cX3_shine 11 = .ok (.iconst 1, 1) := by decide +kernel
theorem dX3_shine_12 : decode cX3_shine 12 = .ok (.isub, 1) := by decide +kernel
theorem dX3_shine_13 : decode cX3_shine 13 = .ok (.iconst 2, 1) := by decide +kernel
theorem dX3_shine_14 : decode cX3_shine 14 = .ok (.iload_n 2, 1) := by decide +kernel
theorem dX3_shine_15 : decode cX3_shine 15 = .ok (.imul, 1) := by decide +kernel
theorem dX3_shine_16 : decode cX3_shine 16 = .ok (.invokevirtual 19, 3) := by decide +kernel
theorem dX3_shine_19 : decode cX3_shine 19 = .ok (.aload_n 0, 1) := by decide +kernel
theorem dX3_shine_20 : decode cX3_shine 20 = .ok (.iload_n 1, 1) := by decide +kernel
theorem dX3_shine_21 : decode cX3_shine 21 = .ok (.iconst 1, 1) := by decide +kernel
theorem dX3_shine_22 : decode cX3_shine 22 = .ok (.iadd, 1) := by decide +kernel
theorem dX3_shine_23 : decode cX3_shine 23 = .ok (.iconst 2, 1) := by decide +kernel
theorem dX3_shine_24 : decode cX3_shine 24 = .ok (.iload_n 2, 1) := by decide +kernel
theorem dX3_shine_25 : decode cX3_shine 25 = .ok (.imul, 1) := by decide +kernel
theorem dX3_shine_26 : decode cX3_shine 26 = .ok (.invokevirtual 19, 3) := by decide +kernel
theorem dX3_shine_29 : decode cX3_shine 29 = .ok (.return_, 1) := by decide +kernel
theorem dX3_reach_0 : decode cX3_reach 0 = .ok (.iload_n 1, 1) := by decide +kernel
theorem dX3_reach_1 : decode cX3_reach 1 = .ok (.ifCond .lt 25, 3) := by decide +kernel
theorem dX3_reach_4 : decode cX3_reach 4 = .ok (.iload_n 1, 1) := by decide +kernel
theorem dX3_reach_5 : decode cX3_reach 5 = .ok (.aload_n 0, 1) := by decide +kernel
theorem dX3_reach_6 : decode cX3_reach 6 = .ok (.getfield 9, 3) := by decide +kernel
theorem dX3_reach_9 : decode cX3_reach 9 = .ok (.arraylength, 1) := by decide +kernel
theorem dX3_reach_10 : decode cX3_reach 10 = .ok (.if_icmp .ge 16, 3) := by decide +kernel
theorem dX3_reach_13 : decode cX3_reach 13 = .ok (.aload_n 0, 1) := by decide +kernel
theorem dX3_reach_14 : decode cX3_reach 14 = .ok (.getfield 9, 3) := by decide +kernel
theorem dX3_reach_17 : decode cX3_reach 17 = .ok (.iload_n 1, 1) := by decide +kernel
theorem dX3_reach_18 : decode cX3_reach 18 = .ok (.dup2, 1) := by decide +kernel
theorem dX3_reach_19 : decode cX3_reach 19 = .ok (.iaload, 1) := by decide +kernel
theorem dX3_reach_20 : decode cX3_reach 20 = .ok (.iload_n 2, 1) := by decide +kernel
theorem dX3_reach_21 : decode cX3_reach 21 = .ok (.iadd, 1) := by decide +kernel
theorem dX3_reach_22 : decode cX3_reach 22 = .ok (.iastore, 1) := by decide +kernel
theorem dX3_reach_23 : decode cX3_reach 23 = .ok (.goto 13, 3) := by decide +kernel
theorem dX3_reach_26 : decode cX3_reach 26 = .ok (.aload_n 0, 1) := by decide +kernel
theorem dX3_reach_27 : decode cX3_reach 27 = .ok (.dup, 1) := by decide +kernel
theorem dX3_reach_28 : decode cX3_reach 28 = .ok (.getfield 15, 3) := by decide +kernel
theorem dX3_reach_31 : decode cX3_reach 31 = .ok (.iload_n 2, 1) := by decide +kernel
theorem dX3_reach_32 : decode cX3_reach 32 = .ok (.iadd, 1) := by decide +kernel
theorem dX3_reach_33 : decode cX3_reach 33 = .ok (.putfield 15, 3) := by decide +kernel
theorem dX3_reach_36 : decode cX3_reach 36 = .ok (.return_, 1) := by decide +kernel
theorem dX3_onPanels_0 : decode cX3_onPanels 0 = .ok (.iconst 0, 1) := by decide +kernel
theorem dX3_onPanels_1 : decode cX3_onPanels 1 = .ok (.istore_n 1, 1) := by decide +kernel
theorem dX3_onPanels_2 : decode cX3_onPanels 2 = .ok (.iconst 0, 1) := by decide +kernel
theorem dX3_onPanels_3 : decode cX3_onPanels 3 = .ok (.istore_n 2, 1) := by decide +kernel
theorem dX3_onPanels_4 : decode cX3_onPanels 4 = .ok (.iload_n 2, 1) := by decide +kernel
theorem dX3_onPanels_5 : decode cX3_onPanels 5 = .ok (.aload_n 0, 1) := by decide +kernel
theorem dX3_onPanels_6 : decode cX3_onPanels 6 = .ok (.getfield 9, 3) := by decide +kernel
theorem dX3_onPanels_9 : decode cX3_onPanels 9 = .ok (.arraylength, 1) := by decide +kernel
theorem dX3_onPanels_10 : decode cX3_onPanels 10 = .ok (.if_icmp .ge 18, 3) := by decide +kernel
theorem dX3_onPanels_13 : decode cX3_onPanels 13 = .ok (.iload_n 1, 1) := by decide +kernel
theorem dX3_onPanels_14 : decode cX3_onPanels 14 = .ok (.aload_n 0, 1) := by decide +kernel
theorem dX3_onPanels_15 : decode cX3_onPanels 15 = .ok (.getfield 9, 3) := by decide +kernel
theorem dX3_onPanels_18 : decode cX3_onPanels 18 = .ok (.iload_n 2, 1) := by decide +kernel
theorem dX3_onPanels_19 : decode cX3_onPanels 19 = .ok (.iaload, 1) := by decide +kernel
theorem dX3_onPanels_20 : decode cX3_onPanels 20 = .ok (.iadd, 1) := by decide +kernel
theorem dX3_onPanels_21 : decode cX3_onPanels 21 = .ok (.istore_n 1, 1) := by decide +kernel
theorem dX3_onPanels_22 : decode cX3_onPanels 22 = .ok (.iinc 2 1, 3) := by decide +kernel
theorem dX3_onPanels_25 : decode cX3_onPanels 25 = .ok (.goto (-21), 3) := by decide +kernel
theorem dX3_onPanels_28 : decode cX3_onPanels 28 = .ok (.iload_n 1, 1) := by decide +kernel
theorem dX3_onPanels_29 : decode cX3_onPanels 29 = .ok (.ireturn, 1) := by decide +kernel
theorem dX3_isAbove_0 : decode cX3_isAbove 0 = .ok (.iconst 0, 1) := by decide +kernel
theorem dX3_isAbove_1 : decode cX3_isAbove 1 = .ok (.istore_n 2, 1) := by decide +kernel
theorem dX3_isAbove_2 : decode cX3_isAbove 2 = .ok (.iload_n 2, 1) := by decide +kernel
theorem dX3_isAbove_3 : decode cX3_isAbove 3 = .ok (.aload_n 0, 1) := by decide +kernel
theorem dX3_isAbove_4 : decode cX3_isAbove 4 = .ok (.getfield 9, 3) := by decide +kernel
theorem dX3_isAbove_7 : decode cX3_isAbove 7 = .ok (.arraylength, 1) := by decide +kernel
theorem dX3_isAbove_8 : decode cX3_isAbove 8 = .ok (.if_icmp .ge 29, 3) := by decide +kernel
theorem dX3_isAbove_11 : decode cX3_isAbove 11 = .ok (.iload_n 2, 1) := by decide +kernel
theorem dX3_isAbove_12 : decode cX3_isAbove 12 = .ok (.aload_n 1, 1) := by decide +kernel
theorem dX3_isAbove_13 : decode cX3_isAbove 13 = .ok (.arraylength, 1) := by decide +kernel
theorem dX3_isAbove_14 : decode cX3_isAbove 14 = .ok (.if_icmp .ge 23, 3) := by decide +kernel
theorem dX3_isAbove_17 : decode cX3_isAbove 17 = .ok (.aload_n 0, 1) := by decide +kernel
theorem dX3_isAbove_18 : decode cX3_isAbove 18 = .ok (.getfield 9, 3) := by decide +kernel
theorem dX3_isAbove_21 : decode cX3_isAbove 21 = .ok (.iload_n 2, 1) := by decide +kernel
theorem dX3_isAbove_22 : decode cX3_isAbove 22 = .ok (.iaload, 1) := by decide +kernel
theorem dX3_isAbove_23 : decode cX3_isAbove 23 = .ok (.aload_n 1, 1) := by decide +kernel
theorem dX3_isAbove_24 : decode cX3_isAbove 24 = .ok (.iload_n 2, 1) := by decide +kernel
theorem dX3_isAbove_25 : decode cX3_isAbove 25 = .ok (.iaload, 1) := by decide +kernel
theorem dX3_isAbove_26 : decode cX3_isAbove 26 = .ok (.if_icmp .le 5, 3) := by decide +kernel
theorem dX3_isAbove_29 : decode cX3_isAbove 29 = .ok (.iconst 1, 1) := by decide +kernel
theorem dX3_isAbove_30 : decode cX3_isAbove 30 = .ok (.ireturn, 1) := by decide +kernel
theorem dX3_isAbove_31 : decode cX3_isAbove 31 = .ok (.iinc 2 1, 3) := by decide +kernel
theorem dX3_isAbove_34 : decode cX3_isAbove 34 = .ok (.goto (-32), 3) := by decide +kernel
theorem dX3_isAbove_37 : decode cX3_isAbove 37 = .ok (.iconst 0, 1) := by decide +kernel
theorem dX3_isAbove_38 : decode cX3_isAbove 38 = .ok (.ireturn, 1) := by decide +kernel
theorem dX4_init_0 : decode cX4_init 0 = .ok (.aload_n 0, 1) := by decide +kernel
theorem dX4_init_1 : decode cX4_init 1 = .ok (.invokespecial 3, 3) := by decide +kernel
theorem dX4_init_4 : decode cX4_init 4 = .ok (.aload_n 0, 1) := by decide +kernel
theorem dX4_init_5 : decode cX4_init 5 = .ok (.iconst (-1), 1) := by decide +kernel
theorem dX4_init_6 : decode cX4_init 6 = .ok (.putfield 9, 3) := by decide +kernel
theorem dX4_init_9 : decode cX4_init 9 = .ok (.aload_n 0, 1) := by decide +kernel
theorem dX4_init_10 : decode cX4_init 10 = .ok (.iload_n 1, 1) := by decide +kernel
theorem dX4_init_11 : decode cX4_init 11 = .ok (.putfield 15, 3) := by decide +kernel
theorem dX4_init_14 : decode cX4_init 14 = .ok (.aload_n 0, 1) := by decide +kernel
theorem dX4_init_15 : decode cX4_init 15 = .ok (.iload_n 1, 1) := by decide +kernel
theorem dX4_init_16 : decode cX4_init 16 = .ok (.bipush 8, 2) := by decide +kernel
theorem dX4_init_18 : decode cX4_init 18 = .ok (.idiv, 1) := by decide +kernel
theorem dX4_init_19 : decode cX4_init 19 = .ok (.putfield 18, 3) := by decide +kernel
theorem dX4_init_22 : decode cX4_init 22 = .ok (.aload_n 0, 1) := by decide +kernel
theorem dX4_init_23 : decode cX4_init 23 = .ok (.iload_n 1, 1) := by decide +kernel
theorem dX4_init_24 : decode cX4_init 24 = .ok (.bipush 8, 2) := by decide +kernel
theorem dX4_init_26 : decode cX4_init 26 = .ok (.irem, 1) := by decide +kernel
theorem dX4_init_27 : decode cX4_init 27 = .ok (.putfield 21, 3) := by decide +kernel
theorem dX4_init_30 : decode cX4_init 30 = .ok (.return_, 1) := by decide +kernel
theorem dX4_distance_0 : decode cX4_distance 0 = .ok (.aload_n 0, 1) := by decide +kernel
theorem dX4_distance_1 : decode cX4_distance 1 = .ok (.getfield 18, 3) := by decide +kernel
theorem dX4_distance_4 : decode cX4_distance 4 = .ok (.iconst 1, 1) := by decide +kernel
theorem dX4_distance_5 : decode cX4_distance 5 = .ok (.iadd, 1) := by decide +kernel
theorem dX4_distance_6 : decode cX4_distance 6 = .ok (.aload_n 0, 1) := by decide +kernel
theorem dX4_distance_7 : decode cX4_distance 7 = .ok (.getfield 21, 3) := by decide +kernel
theorem dX4_distance_10 : decode cX4_distance 10 = .ok (.iconst 3, 1) := by decide +kernel
theorem dX4_distance_11 : decode cX4_distance 11 = .ok (.isub, 1) := by decide +kernel
theorem dX4_distance_12 : decode cX4_distance 12 = .ok (.invokestatic 24, 3) := by decide +kernel
theorem dX4_distance_15 : decode cX4_distance 15 = .ok (.iadd, 1) := by decide +kernel
theorem dX4_distance_16 : decode cX4_distance 16 = .ok (.ireturn, 1) := by decide +kernel
theorem dX4_awry_0 : decode cX4_awry 0 = .ok (.aload_n 0, 1) := by decide +kernel
theorem dX4_awry_1 : decode cX4_awry 1 = .ok (.getfield 30, 3) := by decide +kernel
theorem dX4_awry_4 : decode cX4_awry 4 = .ok (.aload_n 0, 1) := by decide +kernel
theorem dX4_awry_5 : decode cX4_awry 5 = .ok (.getfield 33, 3) := by decide +kernel
theorem dX4_awry_8 : decode cX4_awry 8 = .ok (.isub, 1) := by decide +kernel
theorem dX4_awry_9 : decode cX4_awry 9 = .ok (.ireturn, 1) := by decide +kernel
set_option maxRecDepth 20000 in
theorem ggX4_place_X4_awry : GoodIn wsX4_place wsX4_awry := goodIn_r _ [6, 7, 8, 9, 10, 11, 12, 13, 14, 15, 16] (by decide +kernel) (by decide +kernel)
set_option maxRecDepth 20000 in
theorem gX4_place_X4_awry : GoodIn wsX4_place (wsV RX4 36 RX4 yX4_awry wsX4_awry) := goodIn_app (goodIn_of _ (by decide +kernel)) ggX4_place_X4_awry
theorem dX4_place_0 : decode cX4_place 0 = .ok (.aload_n 0, 1) := by decide +kernel
theorem dX4_place_1 : decode cX4_place 1 = .ok (.getfield 9, 3) := by decide +kernel
theorem dX4_place_4 : decode cX4_place 4 = .ok (.aload_n 0, 1) := by decide +kernel
theorem dX4_place_5 : decode cX4_place 5 = .ok (.invokevirtual 36, 3) := by decide +kernel
theorem dX4_place_8 : decode cX4_place 8 = .ok (.iadd, 1) := by decide +kernel
theorem dX4_place_9 : decode cX4_place 9 = .ok (.ireturn, 1) := by decide +kernel
set_option maxRecDepth 20000 in
theorem ggX4_placeOf_X4_place : GoodIn wsX4_placeOf wsX4_place := goodIn_r _ [5, 6, 7, 8, 9, 4, 10, 11, 12, 13, 14, 15, 16, 17, 18, 19, 20] (by decide +kernel) (by decide +kernel)
set_option maxRecDepth 20000 in
theorem gX4_placeOf_X4_place : GoodIn wsX4_placeOf (wsV RX4 40 RX4 yX4_place wsX4_place) := goodIn_app (goodIn_of _ (by decide +kernel)) ggX4_placeOf_X4_place
theorem dX4_placeOf_0 : decode cX4_placeOf 0 = .ok (.iload_n 1, 1) := by decide +kernel
theorem dX4_placeOf_1 : decode cX4_placeOf 1 = .ok (.bipush 6, 2) := by decide +kernel
theorem dX4_placeOf_3 : decode cX4_placeOf 3 = .ok (.if_icmp .ge 8, 3) := by decide +kernel
theorem dX4_placeOf_6 : decode cX4_placeOf 6 = .ok (.aload_n 0, 1) := by decide +kernel
theorem dX4_placeOf_7 : decode cX4_placeOf 7 = .ok (.invokevirtual 40, 3) := by decide +kernel
theorem dX4_placeOf_10 : decode cX4_placeOf 10 = .ok (.ireturn, 1) := by decide +kernel
theorem dX4_placeOf_11 : decode cX4_placeOf 11 = .ok (.iload_n 1, 1) := by decide +kernel
theorem dX4_placeOf_12 : decode cX4_placeOf 12 = .ok (.bipush 8, 2) := by decide +kernel
theorem dX4_placeOf_14 : decode cX4_placeOf 14 = .ok (.if_icmp .ge 12, 3) := by decide +kernel
theorem dX4_placeOf_17 : decode cX4_placeOf 17 = .ok (.aload_n 0, 1) := by decide +kernel
theorem dX4_placeOf_18 : decode cX4_placeOf 18 = .ok (.invokevirtual 40, 3) := by decide +kernel
theorem dX4_placeOf_21 : decode cX4_placeOf 21 = .ok (.iconst 1, 1) := by decide +kernel
theorem dX4_placeOf_22 : decode cX4_placeOf 22 = .ok (.isub, 1) := by decide +kernel
theorem dX4_placeOf_23 : decode cX4_placeOf 23 = .ok (.goto 9, 3) := by decide +kernel
theorem dX4_placeOf_26 : decode cX4_placeOf 26 = .ok (.aload_n 0, 1) := by decide +kernel
theorem dX4_placeOf_27 : decode cX4_placeOf 27 = .ok (.invokevirtual 40, 3) := by decide +kernel
theorem dX4_placeOf_30 : decode cX4_placeOf 30 = .ok (.iconst 1, 1) := by decide +kernel
theorem dX4_placeOf_31 : decode cX4_placeOf 31 = .ok (.iadd, 1) := by decide +kernel
theorem dX4_placeOf_32 : decode cX4_placeOf 32 = .ok (.ireturn, 1) := by decide +kernel
theorem dX5_init_0 : decode cX5_init 0 = .ok (.aload_n 0, 1) := by decide +kernel
theorem dX5_init_1 : decode cX5_init 1 = .ok (.invokespecial 3, 3) := by decide +kernel
theorem dX5_init_4 : decode cX5_init 4 = .ok (.aload_n 0, 1) := by decide +kernel
theorem dX5_init_5 : decode cX5_init 5 = .ok (.iconst 0, 1) := by decide +kernel
theorem dX5_init_6 : decode cX5_init 6 = .ok (.putfield 9, 3) := by decide +kernel
theorem dX5_init_9 : decode cX5_init 9 = .ok (.return_, 1) := by decide +kernel
theorem dX5_fill_0 : decode cX5_fill 0 = .ok (.aload_n 0, 1) := by decide +kernel
theorem dX5_fill_1 : decode cX5_fill 1 = .ok (.iconst 1, 1) := by decide +kernel
theorem dX5_fill_2 : decode cX5_fill 2 = .ok (.putfield 9, 3) := by decide +kernel
theorem dX5_fill_5 : decode cX5_fill 5 = .ok (.aload_n 0, 1) := by decide +kernel
theorem dX5_fill_6 : decode cX5_fill 6 = .ok (.bipush 30, 2) := by decide +kernel
theorem dX5_fill_8 : decode cX5_fill 8 = .ok (.putfield 15, 3) := by decide +kernel
theorem dX5_fill_11 : decode cX5_fill 11 = .ok (.return_, 1) := by decide +kernel
theorem dX5_drain_0 : decode cX5_drain 0 = .ok (.aload_n 0, 1) := by decide +kernel
theorem dX5_drain_1 : decode cX5_drain 1 = .ok (.iconst 0, 1) := by decide +kernel
theorem dX5_drain_2 : decode cX5_drain 2 = .ok (.putfield 9, 3) := by decide +kernel
theorem dX5_drain_5 : decode cX5_drain 5 = .ok (.aload_n 0, 1) := by decide +kernel
theorem dX5_drain_6 : decode cX5_drain 6 = .ok (.iconst 0, 1) := by decide +kernel
theorem dX5_drain_7 : decode cX5_drain 7 = .ok (.putfield 15, 3) := by decide +kernel
theorem dX5_drain_10 : decode cX5_drain 10 = .ok (.return_, 1) := by decide +kernel
set_option maxRecDepth 20000 in
theorem ggX5_takeTick_X5_thawOn : GoodIn wsX5_takeTick wsX5_thawOn := goodIn_r _ [6, 7, 8, 1, 9, 21, 22, 23, 24] (by decide +kernel) (by decide +kernel)
set_option maxRecDepth 20000 in
theorem gX5_takeTick_X5_thawOn : GoodIn wsX5_takeTick (wsV RX5 18 RX5 yX5_thawOn wsX5_thawOn) := goodIn_app (goodIn_of _ (by decide +kernel)) ggX5_takeTick_X5_thawOn
set_option maxRecDepth 20000 in
theorem ggX5_takeTick_X5_change : GoodIn wsX5_takeTick wsX5_change := goodIn_r _ [13, 9, 14, 15, 16, 17, 7, 18, 19, 20, 1, 8, 21, 22, 23, 24] (by decide +kernel) (by decide +kernel)
set_option maxRecDepth 20000 in
theorem gX5_takeTick_X5_change : GoodIn wsX5_takeTick (wsV RX5 21 RX5 yX5_change wsX5_change) := goodIn_app (goodIn_of _ (by decide +kernel)) ggX5_takeTick_X5_change
theorem dX5_takeTick_0 : decode cX5_takeTick 0 = .ok (.aload_n 0, 1) := by decide +kernel
theorem dX5_takeTick_1 : decode cX5_takeTick 1 = .ok (.getfield 9, 3) := by decide +kernel
theorem dX5_takeTick_4 : decode cX5_takeTick 4 = .ok (.iconst 2, 1) := by decide +kernel
theorem dX5_takeTick_5 : decode cX5_takeTick 5 = .ok (.if_icmp .ne 10, 3) := by decide +kernel
theorem dX5_takeTick_8 : decode cX5_takeTick 8 = .ok (.aload_n 0, 1) := by decide +kernel
theorem dX5_takeTick_9 : decode cX5_takeTick 9 = .ok (.invokevirtual 18, 3) := by decide +kernel
theorem dX5_takeTick_12 : decode cX5_takeTick 12 = .ok (.goto 16, 3) := by decide +kernel
theorem dX5_takeTick_15 : decode cX5_takeTick 15 = .ok (.aload_n 0, 1) := by decide +kernel
theorem dX5_takeTick_16 : decode cX5_takeTick 16 = .ok (.getfield 9, 3) := by decide +kernel
theorem dX5_takeTick_19 : decode cX5_takeTick 19 = .ok (.iconst 1, 1) := by decide +kernel
theorem dX5_takeTick_20 : decode cX5_takeTick 20 = .ok (.if_icmp .ne 8, 3) := by decide +kernel
theorem dX5_takeTick_23 : decode cX5_takeTick 23 = .ok (.aload_n 0, 1) := by decide +kernel
theorem dX5_takeTick_24 : decode cX5_takeTick 24 = .ok (.iload_n 1, 1) := by decide +kernel
theorem dX5_takeTick_25 : decode cX5_takeTick 25 = .ok (.invokevirtual 21, 3) := by decide +kernel
theorem dX5_takeTick_28 : decode cX5_takeTick 28 = .ok (.return_, 1) := by decide +kernel
theorem dX5_thawOn_0 : decode cX5_thawOn 0 = .ok (.aload_n 0, 1) := by decide +kernel
theorem dX5_thawOn_1 : decode cX5_thawOn 1 = .ok (.aload_n 0, 1) := by decide +kernel
theorem dX5_thawOn_2 : decode cX5_thawOn 2 = .ok (.getfield 25, 3) := by decide +kernel
theorem dX5_thawOn_5 : decode cX5_thawOn 5 = .ok (.ifCond .eq 12, 3) := by decide +kernel
theorem dX5_thawOn_8 : decode cX5_thawOn 8 = .ok (.aload_n 0, 1) := by decide +kernel
theorem dX5_thawOn_9 : decode cX5_thawOn 9 = .ok (.getfield 29, 3) := by decide +kernel
theorem dX5_thawOn_12 : decode cX5_thawOn 12 = .ok (.iconst 1, 1) := by decide +kernel
theorem dX5_thawOn_13 : decode cX5_thawOn 13 = .ok (.iadd, 1) := by decide +kernel
theorem dX5_thawOn_14 : decode cX5_thawOn 14 = .ok (.goto 4, 3) := by decide +kernel
theorem dX5_thawOn_17 : decode cX5_thawOn 17 = .ok (.iconst 0, 1) := by decide +kernel
theorem dX5_thawOn_18 : decode cX5_thawOn 18 = .ok (.putfield 29, 3) := by decide +kernel
theorem dX5_thawOn_21 : decode cX5_thawOn 21 = .ok (.aload_n 0, 1) := by decide +kernel
theorem dX5_thawOn_22 : decode cX5_thawOn 22 = .ok (.getfield 29, 3) := by decide +kernel
theorem dX5_thawOn_25 : decode cX5_thawOn 25 = .ok (.iconst 3, 1) := by decide +kernel
theorem dX5_thawOn_26 : decode cX5_thawOn 26 = .ok (.if_icmp .ge 4, 3) := by decide +kernel
theorem dX5_thawOn_29 : decode cX5_thawOn 29 = .ok (.return_, 1) := by decide +kernel
theorem dX5_thawOn_30 : decode cX5_thawOn 30 = .ok (.aload_n 0, 1) := by decide +kernel
