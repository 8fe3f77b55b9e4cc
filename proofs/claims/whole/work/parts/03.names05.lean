theorem dX8_isSafe_71 : decode cX8_isSafe 71 = .ok (.aload_n 0, 1) := by decide +kernel
theorem dX8_isSafe_72 : decode cX8_isSafe 72 = .ok (.invokevirtual 151, 3) := by decide +kernel
theorem dX8_isSafe_75 : decode cX8_isSafe 75 = .ok (.ifCond .ne 7, 3) := by decide +kernel
theorem dX8_isSafe_78 : decode cX8_isSafe 78 = .ok (.iconst 1, 1) := by decide +kernel
theorem dX8_isSafe_79 : decode cX8_isSafe 79 = .ok (.goto 4, 3) := by decide +kernel
theorem dX8_isSafe_82 : decode cX8_isSafe 82 = .ok (.iconst 0, 1) := by decide +kernel
theorem dX8_isSafe_83 : decode cX8_isSafe 83 = .ok (.istore_n 1, 1) := by decide +kernel
theorem dX8_isSafe_84 : decode cX8_isSafe 84 = .ok (.iinc 2 1, 3) := by decide +kernel
theorem dX8_isSafe_87 : decode cX8_isSafe 87 = .ok (.goto (-57), 3) := by decide +kernel
theorem dX8_isSafe_90 : decode cX8_isSafe 90 = .ok (.iload_n 1, 1) := by decide +kernel
theorem dX8_isSafe_91 : decode cX8_isSafe 91 = .ok (.ireturn, 1) := by decide +kernel
theorem dX8_laysSome_0 : decode cX8_laysSome 0 = .ok (.iload_n 1, 1) := by decide +kernel
theorem dX8_laysSome_1 : decode cX8_laysSome 1 = .ok (.iconst 1, 1) := by decide +kernel
theorem dX8_laysSome_2 : decode cX8_laysSome 2 = .ok (.if_icmp .lt 12, 3) := by decide +kernel
theorem dX8_laysSome_5 : decode cX8_laysSome 5 = .ok (.iload_n 1, 1) := by decide +kernel
theorem dX8_laysSome_6 : decode cX8_laysSome 6 = .ok (.aload_n 0, 1) := by decide +kernel
theorem dX8_laysSome_7 : decode cX8_laysSome 7 = .ok (.getfield 82, 3) := by decide +kernel
theorem dX8_laysSome_10 : decode cX8_laysSome 10 = .ok (.ishr, 1) := by decide +kernel
theorem dX8_laysSome_11 : decode cX8_laysSome 11 = .ok (.ifCond .eq 5, 3) := by decide +kernel
theorem dX8_laysSome_14 : decode cX8_laysSome 14 = .ok (.iconst (-1), 1) := by decide +kernel
theorem dX8_laysSome_15 : decode cX8_laysSome 15 = .ok (.ireturn, 1) := by decide +kernel
theorem dX8_laysSome_16 : decode cX8_laysSome 16 = .ok (.iconst 0, 1) := by decide +kernel
theorem dX8_laysSome_17 : decode cX8_laysSome 17 = .ok (.istore_n 2, 1) := by decide +kernel
theorem dX8_laysSome_18 : decode cX8_laysSome 18 = .ok (.iconst 0, 1) := by decide +kernel
theorem dX8_laysSome_19 : decode cX8_laysSome 19 = .ok (.istore_n 3, 1) := by decide +kernel
theorem dX8_laysSome_20 : decode cX8_laysSome 20 = .ok (.iload_n 3, 1) := by decide +kernel
theorem dX8_laysSome_21 : decode cX8_laysSome 21 = .ok (.aload_n 0, 1) := by decide +kernel
theorem dX8_laysSome_22 : decode cX8_laysSome 22 = .ok (.getfield 82, 3) := by decide +kernel
theorem dX8_laysSome_25 : decode cX8_laysSome 25 = .ok (.if_icmp .ge 44, 3) := by decide +kernel
theorem dX8_laysSome_28 : decode cX8_laysSome 28 = .ok (.iload_n 1, 1) := by decide +kernel
theorem dX8_laysSome_29 : decode cX8_laysSome 29 = .ok (.iload_n 3, 1) := by decide +kernel
theorem dX8_laysSome_30 : decode cX8_laysSome 30 = .ok (.ishr, 1) := by decide +kernel
theorem dX8_laysSome_31 : decode cX8_laysSome 31 = .ok (.iconst 1, 1) := by decide +kernel
theorem dX8_laysSome_32 : decode cX8_laysSome 32 = .ok (.iand, 1) := by decide +kernel
theorem dX8_laysSome_33 : decode cX8_laysSome 33 = .ok (.iconst 1, 1) := by decide +kernel
theorem dX8_laysSome_34 : decode cX8_laysSome 34 = .ok (.if_icmp .ne 29, 3) := by decide +kernel
theorem dX8_laysSome_37 : decode cX8_laysSome 37 = .ok (.iload_n 2, 1) := by decide +kernel
theorem dX8_laysSome_38 : decode cX8_laysSome 38 = .ok (.iconst 4, 1) := by decide +kernel
theorem dX8_laysSome_39 : decode cX8_laysSome 39 = .ok (.if_icmp .eq 12, 3) := by decide +kernel
theorem dX8_laysSome_42 : decode cX8_laysSome 42 = .ok (.aload_n 0, 1) := by decide +kernel
theorem dX8_laysSome_43 : decode cX8_laysSome 43 = .ok (.getfield 25, 3) := by decide +kernel
theorem dX8_laysSome_46 : decode cX8_laysSome 46 = .ok (.iload_n 3, 1) := by decide +kernel
theorem dX8_laysSome_47 : decode cX8_laysSome 47 = .ok (.baload, 1) := by decide +kernel
theorem dX8_laysSome_48 : decode cX8_laysSome 48 = .ok (.ifCond .eq 5, 3) := by decide +kernel
theorem dX8_laysSome_51 : decode cX8_laysSome 51 = .ok (.iconst (-1), 1) := by decide +kernel
theorem dX8_laysSome_52 : decode cX8_laysSome 52 = .ok (.ireturn, 1) := by decide +kernel
theorem dX8_laysSome_53 : decode cX8_laysSome 53 = .ok (.aload_n 0, 1) := by decide +kernel
theorem dX8_laysSome_54 : decode cX8_laysSome 54 = .ok (.getfield 73, 3) := by decide +kernel
theorem dX8_laysSome_57 : decode cX8_laysSome 57 = .ok (.iload_n 2, 1) := by decide +kernel
theorem dX8_laysSome_58 : decode cX8_laysSome 58 = .ok (.iload_n 3, 1) := by decide +kernel
theorem dX8_laysSome_59 : decode cX8_laysSome 59 = .ok (.iastore, 1) := by decide +kernel
theorem dX8_laysSome_60 : decode cX8_laysSome 60 = .ok (.iinc 2 1, 3) := by decide +kernel
theorem dX8_laysSome_63 : decode cX8_laysSome 63 = .ok (.iinc 3 1, 3) := by decide +kernel
theorem dX8_laysSome_66 : decode cX8_laysSome 66 = .ok (.goto (-46), 3) := by decide +kernel
theorem dX8_laysSome_69 : decode cX8_laysSome 69 = .ok (.iload_n 2, 1) := by decide +kernel
theorem dX8_laysSome_70 : decode cX8_laysSome 70 = .ok (.ireturn, 1) := by decide +kernel
set_option maxRecDepth 20000 in
theorem ggX8_tries_X8_laysRays : GoodIn wsX8_tries wsX8_laysRays := goodIn_r _ [10, 11, 12, 13, 14, 15, 9, 16, 17, 18, 19, 20, 21, 22, 23, 24, 25, 26, 27, 28, 29, 30, 31, 32, 33, 34, 35, 36, 37, 38, 39, 40, 41, 42, 43, 44, 45, 46, 47, 48, 49, 50, 51, 52, 77, 78, 79, 80, 81, 82, 83, 84, 85, 86, 87, 88, 89, 90, 91, 92, 93, 94, 95, 96, 97, 98, 99, 100, 101, 102, 103, 104, 105, 106, 107, 108, 109, 110, 111, 112, 113, 114, 115, 116] (by decide +kernel) (by decide +kernel)
set_option maxRecDepth 20000 in
theorem gX8_tries_X8_laysRays : GoodIn wsX8_tries (wsV RX8 142 RX8 yX8_laysRays wsX8_laysRays) := goodIn_app (goodIn_of _ (by decide +kernel)) ggX8_tries_X8_laysRays
set_option maxRecDepth 20000 in
theorem ggX8_tries_X8_laysFluxes : GoodIn wsX8_tries wsX8_laysFluxes := goodIn_r _ [56, 57, 58, 11, 2, 59, 60, 12, 61, 62, 63, 9, 64, 65, 66, 67, 32, 33, 34, 77, 78, 79, 80, 81, 82, 83, 84, 85, 86, 87, 88, 89, 90, 91, 92, 93, 94, 95, 96, 97, 98, 99, 100, 101, 102, 103, 104, 105, 106, 107, 108, 109, 110, 111, 112, 113, 114, 115, 116] (by decide +kernel) (by decide +kernel)
set_option maxRecDepth 20000 in
theorem gX8_tries_X8_laysFluxes : GoodIn wsX8_tries (wsV RX8 145 RX8 yX8_laysFluxes wsX8_laysFluxes) := goodIn_app (goodIn_of _ (by decide +kernel)) ggX8_tries_X8_laysFluxes
set_option maxRecDepth 20000 in
theorem ggX8_tries_X8_isTripped : GoodIn wsX8_tries wsX8_isTripped := goodIn_r _ [71, 58, 72, 77, 78, 79, 80, 81, 82, 83, 84, 85, 86, 87, 88, 89, 90, 91, 92, 93, 94, 95, 96, 97, 98, 99, 100, 101, 102, 103, 104, 105, 106, 107, 108, 109, 110, 111, 112, 113, 114, 115, 116] (by decide +kernel) (by decide +kernel)
set_option maxRecDepth 20000 in
theorem gX8_tries_X8_isTripped : GoodIn wsX8_tries (wsV RX8 151 RX8 yX8_isTripped wsX8_isTripped) := goodIn_app (goodIn_of _ (by decide +kernel)) ggX8_tries_X8_isTripped
set_option maxRecDepth 20000 in
theorem ggX8_tries_X8_allFalls : GoodIn wsX8_tries wsX8_allFalls := goodIn_r _ [76, 58, 77, 78, 79, 80, 81, 82, 83, 84, 85, 86, 87, 88, 89, 90, 91, 92, 93, 94, 95, 96, 97, 98, 99, 100, 101, 102, 103, 104, 105, 106, 107, 108, 109, 110, 111, 112, 113, 114, 115, 116] (by decide +kernel) (by decide +kernel)
set_option maxRecDepth 20000 in
theorem gX8_tries_X8_allFalls : GoodIn wsX8_tries (wsV RX8 161 RX8 yX8_allFalls wsX8_allFalls) := goodIn_app (goodIn_of _ (by decide +kernel)) ggX8_tries_X8_allFalls
theorem dX8_tries_0 : decode cX8_tries 0 = .ok (.aload_n 0, 1) := by decide +kernel
theorem dX8_tries_1 : decode cX8_tries 1 = .ok (.invokevirtual 142, 3) := by decide +kernel
theorem dX8_tries_4 : decode cX8_tries 4 = .ok (.iconst 1, 1) := by decide +kernel
theorem dX8_tries_5 : decode cX8_tries 5 = .ok (.istore_n 2, 1) := by decide +kernel
theorem dX8_tries_6 : decode cX8_tries 6 = .ok (.iconst 0, 1) := by decide +kernel
theorem dX8_tries_7 : decode cX8_tries 7 = .ok (.istore_n 3, 1) := by decide +kernel
theorem dX8_tries_8 : decode cX8_tries 8 = .ok (.iload_n 3, 1) := by decide +kernel
theorem dX8_tries_9 : decode cX8_tries 9 = .ok (.iload_n 1, 1) := by decide +kernel
theorem dX8_tries_10 : decode cX8_tries 10 = .ok (.if_icmp .ge 31, 3) := by decide +kernel
theorem dX8_tries_13 : decode cX8_tries 13 = .ok (.aload_n 0, 1) := by decide +kernel
theorem dX8_tries_14 : decode cX8_tries 14 = .ok (.getfield 76, 3) := by decide +kernel
theorem dX8_tries_17 : decode cX8_tries 17 = .ok (.iload_n 3, 1) := by decide +kernel
theorem dX8_tries_18 : decode cX8_tries 18 = .ok (.aload_n 0, 1) := by decide +kernel
theorem dX8_tries_19 : decode cX8_tries 19 = .ok (.getfield 16, 3) := by decide +kernel
theorem dX8_tries_22 : decode cX8_tries 22 = .ok (.aload_n 0, 1) := by decide +kernel
theorem dX8_tries_23 : decode cX8_tries 23 = .ok (.getfield 73, 3) := by decide +kernel
theorem dX8_tries_26 : decode cX8_tries 26 = .ok (.iload_n 3, 1) := by decide +kernel
theorem dX8_tries_27 : decode cX8_tries 27 = .ok (.iaload, 1) := by decide +kernel
theorem dX8_tries_28 : decode cX8_tries 28 = .ok (.iaload, 1) := by decide +kernel
theorem dX8_tries_29 : decode cX8_tries 29 = .ok (.iastore, 1) := by decide +kernel
theorem dX8_tries_30 : decode cX8_tries 30 = .ok (.iload_n 2, 1) := by decide +kernel
theorem dX8_tries_31 : decode cX8_tries 31 = .ok (.bipush 7, 2) := by decide +kernel
theorem dX8_tries_33 : decode cX8_tries 33 = .ok (.imul, 1) := by decide +kernel
theorem dX8_tries_34 : decode cX8_tries 34 = .ok (.istore_n 2, 1) := by decide +kernel
theorem dX8_tries_35 : decode cX8_tries 35 = .ok (.iinc 3 1, 3) := by decide +kernel
theorem dX8_tries_38 : decode cX8_tries 38 = .ok (.goto (-30), 3) := by decide +kernel
theorem dX8_tries_41 : decode cX8_tries 41 = .ok (.aload_n 0, 1) := by decide +kernel
theorem dX8_tries_42 : decode cX8_tries 42 = .ok (.iconst (-1), 1) := by decide +kernel
theorem dX8_tries_43 : decode cX8_tries 43 = .ok (.putfield 155, 3) := by decide +kernel
theorem dX8_tries_46 : decode cX8_tries 46 = .ok (.aload_n 0, 1) := by decide +kernel
theorem dX8_tries_47 : decode cX8_tries 47 = .ok (.iconst (-1), 1) := by decide +kernel
theorem dX8_tries_48 : decode cX8_tries 48 = .ok (.putfield 158, 3) := by decide +kernel
theorem dX8_tries_51 : decode cX8_tries 51 = .ok (.iconst 0, 1) := by decide +kernel
theorem dX8_tries_52 : decode cX8_tries 52 = .ok (.istore_n 3, 1) := by decide +kernel
theorem dX8_tries_53 : decode cX8_tries 53 = .ok (.iload_n 3, 1) := by decide +kernel
theorem dX8_tries_54 : decode cX8_tries 54 = .ok (.iload_n 2, 1) := by decide +kernel
theorem dX8_tries_55 : decode cX8_tries 55 = .ok (.if_icmp .ge 91, 3) := by decide +kernel
theorem dX8_tries_58 : decode cX8_tries 58 = .ok (.iload_n 3, 1) := by decide +kernel
theorem dX8_tries_59 : decode cX8_tries 59 = .ok (.istore 4, 2) := by decide +kernel
theorem dX8_tries_61 : decode cX8_tries 61 = .ok (.iload_n 1, 1) := by decide +kernel
theorem dX8_tries_62 : decode cX8_tries 62 = .ok (.iconst 1, 1) := by decide +kernel
theorem dX8_tries_63 : decode cX8_tries 63 = .ok (.isub, 1) := by decide +kernel
theorem dX8_tries_64 : decode cX8_tries 64 = .ok (.istore 5, 2) := by decide +kernel
theorem dX8_tries_66 : decode cX8_tries 66 = .ok (.iload 5, 2) := by decide +kernel
theorem dX8_tries_68 : decode cX8_tries 68 = .ok (.ifCond .lt 35, 3) := by decide +kernel
theorem dX8_tries_71 : decode cX8_tries 71 = .ok (.aload_n 0, 1) := by decide +kernel
theorem dX8_tries_72 : decode cX8_tries 72 = .ok (.getfield 16, 3) := by decide +kernel
theorem dX8_tries_75 : decode cX8_tries 75 = .ok (.aload_n 0, 1) := by decide +kernel
theorem dX8_tries_76 : decode cX8_tries 76 = .ok (.getfield 73, 3) := by decide +kernel
theorem dX8_tries_79 : decode cX8_tries 79 = .ok (.iload 5, 2) := by decide +kernel
theorem dX8_tries_81 : decode cX8_tries 81 = .ok (.iaload, 1) := by decide +kernel
theorem dX8_tries_82 : decode cX8_tries 82 = .ok (.iload 4, 2) := by decide +kernel
theorem dX8_tries_84 : decode cX8_tries 84 = .ok (.bipush 7, 2) := by decide +kernel
theorem dX8_tries_86 : decode cX8_tries 86 = .ok (.irem, 1) := by decide +kernel
theorem dX8_tries_87 : decode cX8_tries 87 = .ok (.iconst 1, 1) := by decide +kernel
theorem dX8_tries_88 : decode cX8_tries 88 = .ok (.isub, 1) := by decide +kernel
theorem dX8_tries_89 : decode cX8_tries 89 = .ok (.iastore, 1) := by decide +kernel
theorem dX8_tries_90 : decode cX8_tries 90 = .ok (.iload 4, 2) := by decide +kernel
theorem dX8_tries_92 : decode cX8_tries 92 = .ok (.bipush 7, 2) := by decide +kernel
theorem dX8_tries_94 : decode cX8_tries 94 = .ok (.idiv, 1) := by decide +kernel
theorem dX8_tries_95 : decode cX8_tries 95 = .ok (.istore 4, 2) := by decide +kernel
theorem dX8_tries_97 : decode cX8_tries 97 = .ok (.iinc 5 (-1), 3) := by decide +kernel
theorem dX8_tries_100 : decode cX8_tries 100 = .ok (.goto (-34), 3) := by decide +kernel
theorem dX8_tries_103 : decode cX8_tries 103 = .ok (.aload_n 0, 1) := by decide +kernel
theorem dX8_tries_104 : decode cX8_tries 104 = .ok (.iconst (-1), 1) := by decide +kernel
theorem dX8_tries_105 : decode cX8_tries 105 = .ok (.iconst 0, 1) := by decide +kernel
theorem dX8_tries_106 : decode cX8_tries 106 = .ok (.invokevirtual 145, 3) := by decide +kernel
theorem dX8_tries_109 : decode cX8_tries 109 = .ok (.aload_n 0, 1) := by decide +kernel
theorem dX8_tries_110 : decode cX8_tries 110 = .ok (.invokevirtual 151, 3) := by decide +kernel
theorem dX8_tries_113 : decode cX8_tries 113 = .ok (.ifCond .ne 27, 3) := by decide +kernel
theorem dX8_tries_116 : decode cX8_tries 116 = .ok (.aload_n 0, 1) := by decide +kernel
theorem dX8_tries_117 : decode cX8_tries 117 = .ok (.invokevirtual 161, 3) := by decide +kernel
theorem dX8_tries_120 : decode cX8_tries 120 = .ok (.aload_n 0, 1) := by decide +kernel
theorem dX8_tries_121 : decode cX8_tries 121 = .ok (.getfield 158, 3) := by decide +kernel
theorem dX8_tries_124 : decode cX8_tries 124 = .ok (.if_icmp .le 16, 3) := by decide +kernel
theorem dX8_tries_127 : decode cX8_tries 127 = .ok (.aload_n 0, 1) := by decide +kernel
theorem dX8_tries_128 : decode cX8_tries 128 = .ok (.aload_n 0, 1) := by decide +kernel
theorem dX8_tries_129 : decode cX8_tries 129 = .ok (.invokevirtual 161, 3) := by decide +kernel
theorem dX8_tries_132 : decode cX8_tries 132 = .ok (.putfield 158, 3) := by decide +kernel
theorem dX8_tries_135 : decode cX8_tries 135 = .ok (.aload_n 0, 1) := by decide +kernel
theorem dX8_tries_136 : decode cX8_tries 136 = .ok (.iload_n 3, 1) := by decide +kernel
theorem dX8_tries_137 : decode cX8_tries 137 = .ok (.putfield 155, 3) := by decide +kernel
theorem dX8_tries_140 : decode cX8_tries 140 = .ok (.iinc 3 1, 3) := by decide +kernel
theorem dX8_tries_143 : decode cX8_tries 143 = .ok (.goto (-90), 3) := by decide +kernel
theorem dX8_tries_146 : decode cX8_tries 146 = .ok (.iconst 0, 1) := by decide +kernel
theorem dX8_tries_147 : decode cX8_tries 147 = .ok (.istore_n 3, 1) := by decide +kernel
theorem dX8_tries_148 : decode cX8_tries 148 = .ok (.iload_n 3, 1) := by decide +kernel
theorem dX8_tries_149 : decode cX8_tries 149 = .ok (.iload_n 1, 1) := by decide +kernel
theorem dX8_tries_150 : decode cX8_tries 150 = .ok (.if_icmp .ge 26, 3) := by decide +kernel
theorem dX8_tries_153 : decode cX8_tries 153 = .ok (.aload_n 0, 1) := by decide +kernel
theorem dX8_tries_154 : decode cX8_tries 154 = .ok (.getfield 16, 3) := by decide +kernel
theorem dX8_tries_157 : decode cX8_tries 157 = .ok (.aload_n 0, 1) := by decide +kernel
theorem dX8_tries_158 : decode cX8_tries 158 = .ok (.getfield 73, 3) := by decide +kernel
theorem dX8_tries_161 : decode cX8_tries 161 = .ok (.iload_n 3, 1) := by decide +kernel
theorem dX8_tries_162 : decode cX8_tries 162 = .ok (.iaload, 1) := by decide +kernel
theorem dX8_tries_163 : decode cX8_tries 163 = .ok (.aload_n 0, 1) := by decide +kernel
theorem dX8_tries_164 : decode cX8_tries 164 = .ok (.getfield 76, 3) := by decide +kernel
theorem dX8_tries_167 : decode cX8_tries 167 = .ok (.iload_n 3, 1) := by decide +kernel
theorem dX8_tries_168 : decode cX8_tries 168 = .ok (.iaload, 1) := by decide +kernel
theorem dX8_tries_169 : decode cX8_tries 169 = .ok (.iastore, 1) := by decide +kernel
theorem dX8_tries_170 : decode cX8_tries 170 = .ok (.iinc 3 1, 3) := by decide +kernel
theorem dX8_tries_173 : decode cX8_tries 173 = .ok (.goto (-25), 3) := by decide +kernel
theorem dX8_tries_176 : decode cX8_tries 176 = .ok (.return_, 1) := by decide +kernel
theorem dX8_aimIn_0 : decode cX8_aimIn 0 = .ok (.iload_n 1, 1) := by decide +kernel
theorem dX8_aimIn_1 : decode cX8_aimIn 1 = .ok (.istore 4, 2) := by decide +kernel
theorem dX8_aimIn_3 : decode cX8_aimIn 3 = .ok (.iload_n 3, 1) := by decide +kernel
theorem dX8_aimIn_4 : decode cX8_aimIn 4 = .ok (.iconst 1, 1) := by decide +kernel
theorem dX8_aimIn_5 : decode cX8_aimIn 5 = .ok (.isub, 1) := by decide +kernel
theorem dX8_aimIn_6 : decode cX8_aimIn 6 = .ok (.istore 5, 2) := by decide +kernel
theorem dX8_aimIn_8 : decode cX8_aimIn 8 = .ok (.iload 5, 2) := by decide +kernel
theorem dX8_aimIn_10 : decode cX8_aimIn 10 = .ok (.iload_n 2, 1) := by decide +kernel
theorem dX8_aimIn_11 : decode cX8_aimIn 11 = .ok (.if_icmp .le 16, 3) := by decide +kernel
theorem dX8_aimIn_14 : decode cX8_aimIn 14 = .ok (.iload 4, 2) := by decide +kernel
theorem dX8_aimIn_16 : decode cX8_aimIn 16 = .ok (.bipush 7, 2) := by decide +kernel
theorem dX8_aimIn_18 : decode cX8_aimIn 18 = .ok (.idiv, 1) := by decide +kernel
theorem dX8_aimIn_19 : decode cX8_aimIn 19 = .ok (.istore 4, 2) := by decide +kernel
theorem dX8_aimIn_21 : decode cX8_aimIn 21 = .ok (.iinc 5 (-1), 3) := by decide +kernel
theorem dX8_aimIn_24 : decode cX8_aimIn 24 = .ok (.goto (-16), 3) := by decide +kernel
theorem dX8_aimIn_27 : decode cX8_aimIn 27 = .ok (.iload 4, 2) := by decide +kernel
theorem dX8_aimIn_29 : decode cX8_aimIn 29 = .ok (.bipush 7, 2) := by decide +kernel
theorem dX8_aimIn_31 : decode cX8_aimIn 31 = .ok (.irem, 1) := by decide +kernel
theorem dX8_aimIn_32 : decode cX8_aimIn 32 = .ok (.iconst 1, 1) := by decide +kernel
theorem dX8_aimIn_33 : decode cX8_aimIn 33 = .ok (.isub, 1) := by decide +kernel
theorem dX8_aimIn_34 : decode cX8_aimIn 34 = .ok (.ireturn, 1) := by decide +kernel
set_option maxRecDepth 20000 in
theorem ggX8_best_X8_laysSome : GoodIn wsX8_best wsX8_laysSome := goodIn_r _ [7, 8, 9, 10, 95, 96, 97, 98, 99, 100, 101, 102, 103, 104, 105, 106, 107, 108, 109, 110, 111, 112, 113, 114, 115, 116, 117, 118, 119, 120, 121, 122, 123, 124, 125, 126, 127, 128, 129, 130, 131, 132, 133, 134] (by decide +kernel) (by decide +kernel)
set_option maxRecDepth 20000 in
theorem gX8_best_X8_laysSome : GoodIn wsX8_best (wsV RX8 165 RX8 yX8_laysSome wsX8_laysSome) := goodIn_app (goodIn_of _ (by decide +kernel)) ggX8_best_X8_laysSome
set_option maxRecDepth 20000 in
theorem ggX8_best_X8_tries : GoodIn wsX8_best wsX8_tries := goodIn_r _ [14, 15, 16, 10, 1, 2, 17, 18, 19, 6, 20, 8, 21, 22, 23, 24, 25, 26, 27, 28, 29, 30, 31, 32, 33, 34, 35, 36, 37, 38, 39, 40, 41, 42, 43, 44, 45, 46, 47, 48, 49, 50, 51, 52, 53, 54, 55, 56, 57, 58, 59, 60, 61, 62, 63, 64, 65, 66, 67, 68, 69, 70, 71, 72, 73, 74, 75, 76, 77, 78, 79, 80, 81, 82, 83, 84, 85, 95, 96, 97, 98, 99, 100, 101, 102, 103, 104, 105, 106, 107, 108, 109, 110, 111, 112, 113, 114, 115, 116, 117, 118, 119, 120, 121, 122, 123, 124, 125, 126, 127, 128, 129, 130, 131, 132, 133, 134] (by decide +kernel) (by decide +kernel)
set_option maxRecDepth 20000 in
theorem gX8_best_X8_tries : GoodIn wsX8_best (wsV RX8 168 RX8 yX8_tries wsX8_tries) := goodIn_app (goodIn_of _ (by decide +kernel)) ggX8_best_X8_tries
set_option maxRecDepth 20000 in
theorem ggX8_best_X8_holds : GoodIn wsX8_best wsX8_holds := goodIn_r _ [89, 90, 95, 96, 97, 98, 99, 100, 101, 102, 103, 104, 105, 106, 107, 108, 109, 110, 111, 112, 113, 114, 115, 116, 117, 118, 119, 120, 121, 122, 123, 124, 125, 126, 127, 128, 129, 130, 131, 132, 133, 134] (by decide +kernel) (by decide +kernel)
set_option maxRecDepth 20000 in
theorem gX8_best_X8_holds : GoodIn wsX8_best (wsV RX8 93 RX8 yX8_holds wsX8_holds) := goodIn_app (goodIn_of _ (by decide +kernel)) ggX8_best_X8_holds
set_option maxRecDepth 20000 in
theorem ggX8_best_X8_aimIn : GoodIn wsX8_best wsX8_aimIn := goodIn_r _ [94] (by decide +kernel) (by decide +kernel)
set_option maxRecDepth 20000 in
theorem gX8_best_X8_aimIn : GoodIn wsX8_best (wsV RX8 172 RX8 yX8_aimIn wsX8_aimIn) := goodIn_app (goodIn_of _ (by decide +kernel)) ggX8_best_X8_aimIn
theorem dX8_best_0 : decode cX8_best 0 = .ok (.aload_n 0, 1) := by decide +kernel
theorem dX8_best_1 : decode cX8_best 1 = .ok (.iload_n 1, 1) := by decide +kernel
theorem dX8_best_2 : decode cX8_best 2 = .ok (.invokevirtual 165, 3) := by decide +kernel
theorem dX8_best_5 : decode cX8_best 5 = .ok (.istore_n 3, 1) := by decide +kernel
theorem dX8_best_6 : decode cX8_best 6 = .ok (.iload_n 3, 1) := by decide +kernel
theorem dX8_best_7 : decode cX8_best 7 = .ok (.iconst (-1), 1) := by decide +kernel
theorem dX8_best_8 : decode cX8_best 8 = .ok (.if_icmp .eq 17, 3) := by decide +kernel
theorem dX8_best_11 : decode cX8_best 11 = .ok (.iload_n 2, 1) := by decide +kernel
theorem dX8_best_12 : decode cX8_best 12 = .ok (.iconst (-1), 1) := by decide +kernel
theorem dX8_best_13 : decode cX8_best 13 = .ok (.if_icmp .lt 12, 3) := by decide +kernel
theorem dX8_best_16 : decode cX8_best 16 = .ok (.iload_n 2, 1) := by decide +kernel
theorem dX8_best_17 : decode cX8_best 17 = .ok (.iload_n 3, 1) := by decide +kernel
theorem dX8_best_18 : decode cX8_best 18 = .ok (.if_icmp .ge 7, 3) := by decide +kernel
theorem dX8_best_21 : decode cX8_best 21 = .ok (.iconst 1, 1) := by decide +kernel
theorem dX8_best_22 : decode cX8_best 22 = .ok (.goto 4, 3) := by decide +kernel
theorem dX8_best_25 : decode cX8_best 25 = .ok (.iconst 0, 1) := by decide +kernel
theorem dX8_best_26 : decode cX8_best 26 = .ok (.istore 4, 2) := by decide +kernel
theorem dX8_best_28 : decode cX8_best 28 = .ok (.iload 4, 2) := by decide +kernel
theorem dX8_best_30 : decode cX8_best 30 = .ok (.ifCond .eq 8, 3) := by decide +kernel
theorem dX8_best_33 : decode cX8_best 33 = .ok (.aload_n 0, 1) := by decide +kernel
theorem dX8_best_34 : decode cX8_best 34 = .ok (.iload_n 3, 1) := by decide +kernel
theorem dX8_best_35 : decode cX8_best 35 = .ok (.invokevirtual 168, 3) := by decide +kernel
theorem dX8_best_38 : decode cX8_best 38 = .ok (.aload_n 0, 1) := by decide +kernel
theorem dX8_best_39 : decode cX8_best 39 = .ok (.iload 4, 2) := by decide +kernel
theorem dX8_best_41 : decode cX8_best 41 = .ok (.ifCond .ne 7, 3) := by decide +kernel
theorem dX8_best_44 : decode cX8_best 44 = .ok (.iconst 1, 1) := by decide +kernel
theorem dX8_best_45 : decode cX8_best 45 = .ok (.goto 16, 3) := by decide +kernel
theorem dX8_best_48 : decode cX8_best 48 = .ok (.aload_n 0, 1) := by decide +kernel
theorem dX8_best_49 : decode cX8_best 49 = .ok (.getfield 155, 3) := by decide +kernel
theorem dX8_best_52 : decode cX8_best 52 = .ok (.iconst (-1), 1) := by decide +kernel
theorem dX8_best_53 : decode cX8_best 53 = .ok (.if_icmp .ne 7, 3) := by decide +kernel
theorem dX8_best_56 : decode cX8_best 56 = .ok (.iconst 2, 1) := by decide +kernel
theorem dX8_best_57 : decode cX8_best 57 = .ok (.goto 4, 3) := by decide +kernel
theorem dX8_best_60 : decode cX8_best 60 = .ok (.iconst 0, 1) := by decide +kernel
theorem dX8_best_61 : decode cX8_best 61 = .ok (.invokevirtual 93, 3) := by decide +kernel
theorem dX8_best_64 : decode cX8_best 64 = .ok (.ifCond .ne 5, 3) := by decide +kernel
theorem dX8_best_67 : decode cX8_best 67 = .ok (.iconst 0, 1) := by decide +kernel
theorem dX8_best_68 : decode cX8_best 68 = .ok (.ireturn, 1) := by decide +kernel
theorem dX8_best_69 : decode cX8_best 69 = .ok (.iload_n 2, 1) := by decide +kernel
theorem dX8_best_70 : decode cX8_best 70 = .ok (.iconst (-1), 1) := by decide +kernel
theorem dX8_best_71 : decode cX8_best 71 = .ok (.if_icmp .ne 10, 3) := by decide +kernel
theorem dX8_best_74 : decode cX8_best 74 = .ok (.aload_n 0, 1) := by decide +kernel
theorem dX8_best_75 : decode cX8_best 75 = .ok (.getfield 158, 3) := by decide +kernel
theorem dX8_best_78 : decode cX8_best 78 = .ok (.goto 13, 3) := by decide +kernel
theorem dX8_best_81 : decode cX8_best 81 = .ok (.aload_n 0, 1) := by decide +kernel
theorem dX8_best_82 : decode cX8_best 82 = .ok (.aload_n 0, 1) := by decide +kernel
theorem dX8_best_83 : decode cX8_best 83 = .ok (.getfield 155, 3) := by decide +kernel
theorem dX8_best_86 : decode cX8_best 86 = .ok (.iload_n 2, 1) := by decide +kernel
theorem dX8_best_87 : decode cX8_best 87 = .ok (.iload_n 3, 1) := by decide +kernel
theorem dX8_best_88 : decode cX8_best 88 = .ok (.invokevirtual 172, 3) := by decide +kernel
theorem dX8_best_91 : decode cX8_best 91 = .ok (.ireturn, 1) := by decide +kernel
set_option maxRecDepth 20000 in
theorem ggX8_bestAnew_X8_best : GoodIn wsX8_bestAnew wsX8_best := goodIn_r _ [5, 6, 7, 8, 9, 10, 4, 11, 12, 13, 14, 15, 16, 17, 18, 19, 20, 21, 22, 23, 24, 25, 26, 27, 28, 29, 30, 31, 32, 33, 34, 35, 36, 37, 38, 39, 40, 41, 42, 43, 44, 45, 46, 47, 48, 49, 50, 51, 52, 53, 54, 55, 56, 57, 58, 59, 60, 61, 62, 63, 64, 65, 66, 67, 68, 69, 70, 71, 72, 73, 74, 75, 76, 77, 78, 79, 80, 81, 82, 83, 84, 85, 86, 87, 88, 89, 90, 91, 92, 93, 94, 95, 96, 97, 98, 99, 100, 101, 102, 103, 104, 105, 106, 107, 108, 109, 110, 111, 112, 113, 114, 115, 116, 117, 118, 119, 120, 121, 122, 123, 124, 125, 126, 127, 128, 129, 130, 131, 132, 133, 134, 135, 136, 137, 138] (by decide +kernel) (by decide +kernel)
set_option maxRecDepth 20000 in
theorem gX8_bestAnew_X8_best : GoodIn wsX8_bestAnew (wsV RX8 175 RX8 yX8_best wsX8_best) := goodIn_app (goodIn_of _ (by decide +kernel)) ggX8_bestAnew_X8_best
theorem dX8_bestAnew_0 : decode cX8_bestAnew 0 = .ok (.aload_n 0, 1) := by decide +kernel
theorem dX8_bestAnew_1 : decode cX8_bestAnew 1 = .ok (.iload_n 1, 1) := by decide +kernel
theorem dX8_bestAnew_2 : decode cX8_bestAnew 2 = .ok (.iconst (-1), 1) := by decide +kernel
theorem dX8_bestAnew_3 : decode cX8_bestAnew 3 = .ok (.invokevirtual 175, 3) := by decide +kernel
theorem dX8_bestAnew_6 : decode cX8_bestAnew 6 = .ok (.ireturn, 1) := by decide +kernel
set_option maxRecDepth 20000 in
theorem ggX8_salt_X8_isIn : GoodIn wsX8_salt wsX8_isIn := goodIn_r _ [6] (by decide +kernel) (by decide +kernel)
set_option maxRecDepth 20000 in
theorem gX8_salt_X8_isIn : GoodIn wsX8_salt (va_wsS RX8 85 yX8_isIn wsX8_isIn) := goodIn_app (goodIn_of _ (by decide +kernel)) ggX8_salt_X8_isIn
set_option maxRecDepth 20000 in
theorem ggX8_salt_X8_holds : GoodIn wsX8_salt wsX8_holds := goodIn_r _ [10, 11, 12, 13, 14, 15, 16, 17, 18, 19, 20, 21, 22, 23, 24, 25, 26, 27, 28, 29, 30, 31, 32, 33, 34, 35, 36, 37, 38, 39, 40, 41, 42, 43, 44, 45, 46, 47, 48, 49, 50, 51] (by decide +kernel) (by decide +kernel)
set_option maxRecDepth 20000 in
theorem gX8_salt_X8_holds : GoodIn wsX8_salt (wsV RX8 93 RX8 yX8_holds wsX8_holds) := goodIn_app (goodIn_of _ (by decide +kernel)) ggX8_salt_X8_holds
theorem dX8_salt_0 : decode cX8_salt 0 = .ok (.aload_n 0, 1) := by decide +kernel
theorem dX8_salt_1 : decode cX8_salt 1 = .ok (.iload_n 1, 1) := by decide +kernel
theorem dX8_salt_2 : decode cX8_salt 2 = .ok (.iconst 1, 1) := by decide +kernel
theorem dX8_salt_3 : decode cX8_salt 3 = .ok (.sipush 500, 3) := by decide +kernel
theorem dX8_salt_6 : decode cX8_salt 6 = .ok (.invokestatic 85, 3) := by decide +kernel
theorem dX8_salt_9 : decode cX8_salt 9 = .ok (.ifCond .ne 7, 3) := by decide +kernel
theorem dX8_salt_12 : decode cX8_salt 12 = .ok (.iconst 1, 1) := by decide +kernel
theorem dX8_salt_13 : decode cX8_salt 13 = .ok (.goto 25, 3) := by decide +kernel
theorem dX8_salt_16 : decode cX8_salt 16 = .ok (.aload_n 0, 1) := by decide +kernel
theorem dX8_salt_17 : decode cX8_salt 17 = .ok (.getfield 63, 3) := by decide +kernel
theorem dX8_salt_20 : decode cX8_salt 20 = .ok (.aload_n 0, 1) := by decide +kernel
theorem dX8_salt_21 : decode cX8_salt 21 = .ok (.getfield 178, 3) := by decide +kernel
theorem dX8_salt_24 : decode cX8_salt 24 = .ok (.iadd, 1) := by decide +kernel
theorem dX8_salt_25 : decode cX8_salt 25 = .ok (.iload_n 1, 1) := by decide +kernel
theorem dX8_salt_26 : decode cX8_salt 26 = .ok (.iadd, 1) := by decide +kernel
theorem dX8_salt_27 : decode cX8_salt 27 = .ok (.sipush 1000, 3) := by decide +kernel
theorem dX8_salt_30 : decode cX8_salt 30 = .ok (.if_icmp .le 7, 3) := by decide +kernel
theorem dX8_salt_33 : decode cX8_salt 33 = .ok (.iconst 2, 1) := by decide +kernel
theorem dX8_salt_34 : decode cX8_salt 34 = .ok (.goto 4, 3) := by decide +kernel
theorem dX8_salt_37 : decode cX8_salt 37 = .ok (.iconst 0, 1) := by decide +kernel
theorem dX8_salt_38 : decode cX8_salt 38 = .ok (.invokevirtual 93, 3) := by decide +kernel
theorem dX8_salt_41 : decode cX8_salt 41 = .ok (.ifCond .ne 5, 3) := by decide +kernel
theorem dX8_salt_44 : decode cX8_salt 44 = .ok (.iconst 0, 1) := by decide +kernel
theorem dX8_salt_45 : decode cX8_salt 45 = .ok (.ireturn, 1) := by decide +kernel
theorem dX8_salt_46 : decode cX8_salt 46 = .ok (.aload_n 0, 1) := by decide +kernel
theorem dX8_salt_47 : decode cX8_salt 47 = .ok (.dup, 1) := by decide +kernel
theorem dX8_salt_48 : decode cX8_salt 48 = .ok (.getfield 63, 3) := by decide +kernel
theorem dX8_salt_51 : decode cX8_salt 51 = .ok (.iload_n 1, 1) := by decide +kernel
theorem dX8_salt_52 : decode cX8_salt 52 = .ok (.iadd, 1) := by decide +kernel
theorem dX8_salt_53 : decode cX8_salt 53 = .ok (.putfield 63, 3) := by decide +kernel
theorem dX8_salt_56 : decode cX8_salt 56 = .ok (.aload_n 0, 1) := by decide +kernel
theorem dX8_salt_57 : decode cX8_salt 57 = .ok (.getfield 63, 3) := by decide +kernel
theorem dX8_salt_60 : decode cX8_salt 60 = .ok (.ireturn, 1) := by decide +kernel
set_option maxRecDepth 20000 in
theorem ggX8_pipe_X8_holds : GoodIn wsX8_pipe wsX8_holds := goodIn_r _ [7, 8, 9, 10, 11, 12, 13, 14, 15, 16, 17, 18, 19, 20, 21, 22, 23, 24, 25, 26, 27, 28, 29, 30, 31, 32, 33, 34, 35, 36, 37, 38, 39, 40, 41, 42, 43, 44, 45, 46, 47, 48] (by decide +kernel) (by decide +kernel)
set_option maxRecDepth 20000 in
theorem gX8_pipe_X8_holds : GoodIn wsX8_pipe (wsV RX8 93 RX8 yX8_holds wsX8_holds) := goodIn_app (goodIn_of _ (by decide +kernel)) ggX8_pipe_X8_holds
theorem dX8_pipe_0 : decode cX8_pipe 0 = .ok (.aload_n 0, 1) := by decide +kernel
theorem dX8_pipe_1 : decode cX8_pipe 1 = .ok (.aload_n 0, 1) := by decide +kernel
theorem dX8_pipe_2 : decode cX8_pipe 2 = .ok (.getfield 181, 3) := by decide +kernel
theorem dX8_pipe_5 : decode cX8_pipe 5 = .ok (.iconst 2, 1) := by decide +kernel
theorem dX8_pipe_6 : decode cX8_pipe 6 = .ok (.if_icmp .eq 20, 3) := by decide +kernel
theorem dX8_pipe_9 : decode cX8_pipe 9 = .ok (.iload_n 1, 1) := by decide +kernel
theorem dX8_pipe_10 : decode cX8_pipe 10 = .ok (.aload_n 0, 1) := by decide +kernel
theorem dX8_pipe_11 : decode cX8_pipe 11 = .ok (.getfield 181, 3) := by decide +kernel
theorem dX8_pipe_14 : decode cX8_pipe 14 = .ok (.iconst 1, 1) := by decide +kernel
theorem dX8_pipe_15 : decode cX8_pipe 15 = .ok (.if_icmp .ne 7, 3) := by decide +kernel
theorem dX8_pipe_18 : decode cX8_pipe 18 = .ok (.iconst 1, 1) := by decide +kernel
theorem dX8_pipe_19 : decode cX8_pipe 19 = .ok (.goto 4, 3) := by decide +kernel
theorem dX8_pipe_22 : decode cX8_pipe 22 = .ok (.iconst 0, 1) := by decide +kernel
theorem dX8_pipe_23 : decode cX8_pipe 23 = .ok (.if_icmp .ne 7, 3) := by decide +kernel
theorem dX8_pipe_26 : decode cX8_pipe 26 = .ok (.iconst 1, 1) := by decide +kernel
theorem dX8_pipe_27 : decode cX8_pipe 27 = .ok (.goto 4, 3) := by decide +kernel
theorem dX8_pipe_30 : decode cX8_pipe 30 = .ok (.iconst 0, 1) := by decide +kernel
theorem dX8_pipe_31 : decode cX8_pipe 31 = .ok (.invokevirtual 93, 3) := by decide +kernel
theorem dX8_pipe_34 : decode cX8_pipe 34 = .ok (.ifCond .ne 5, 3) := by decide +kernel
theorem dX8_pipe_37 : decode cX8_pipe 37 = .ok (.iconst 0, 1) := by decide +kernel
theorem dX8_pipe_38 : decode cX8_pipe 38 = .ok (.ireturn, 1) := by decide +kernel
theorem dX8_pipe_39 : decode cX8_pipe 39 = .ok (.aload_n 0, 1) := by decide +kernel
theorem dX8_pipe_40 : decode cX8_pipe 40 = .ok (.iload_n 1, 1) := by decide +kernel
theorem dX8_pipe_41 : decode cX8_pipe 41 = .ok (.ifCond .eq 7, 3) := by decide +kernel
theorem dX8_pipe_44 : decode cX8_pipe 44 = .ok (.iconst 1, 1) := by decide +kernel
theorem dX8_pipe_45 : decode cX8_pipe 45 = .ok (.goto 4, 3) := by decide +kernel
theorem dX8_pipe_48 : decode cX8_pipe 48 = .ok (.iconst 0, 1) := by decide +kernel
theorem dX8_pipe_49 : decode cX8_pipe 49 = .ok (.putfield 181, 3) := by decide +kernel
theorem dX8_pipe_52 : decode cX8_pipe 52 = .ok (.aload_n 0, 1) := by decide +kernel
theorem dX8_pipe_53 : decode cX8_pipe 53 = .ok (.iload_n 1, 1) := by decide +kernel
theorem dX8_pipe_54 : decode cX8_pipe 54 = .ok (.ifCond .eq 8, 3) := by decide +kernel
theorem dX8_pipe_57 : decode cX8_pipe 57 = .ok (.bipush 30, 2) := by decide +kernel
theorem dX8_pipe_59 : decode cX8_pipe 59 = .ok (.goto 4, 3) := by decide +kernel
theorem dX8_pipe_62 : decode cX8_pipe 62 = .ok (.iconst 0, 1) := by decide +kernel
theorem dX8_pipe_63 : decode cX8_pipe 63 = .ok (.putfield 184, 3) := by decide +kernel
theorem dX8_pipe_66 : decode cX8_pipe 66 = .ok (.aload_n 0, 1) := by decide +kernel
theorem dX8_pipe_67 : decode cX8_pipe 67 = .ok (.getfield 184, 3) := by decide +kernel
theorem dX8_pipe_70 : decode cX8_pipe 70 = .ok (.ireturn, 1) := by decide +kernel
theorem dX8_trace_0 : decode cX8_trace 0 = .ok (.aload_n 0, 1) := by decide +kernel
theorem dX8_trace_1 : decode cX8_trace 1 = .ok (.iconst 0, 1) := by decide +kernel
theorem dX8_trace_2 : decode cX8_trace 2 = .ok (.putfield 79, 3) := by decide +kernel
theorem dX8_trace_5 : decode cX8_trace 5 = .ok (.aload_n 0, 1) := by decide +kernel
theorem dX8_trace_6 : decode cX8_trace 6 = .ok (.getfield 187, 3) := by decide +kernel
theorem dX8_trace_9 : decode cX8_trace 9 = .ok (.istore_n 2, 1) := by decide +kernel
theorem dX8_trace_10 : decode cX8_trace 10 = .ok (.aload_n 0, 1) := by decide +kernel
theorem dX8_trace_11 : decode cX8_trace 11 = .ok (.iload_n 1, 1) := by decide +kernel
theorem dX8_trace_12 : decode cX8_trace 12 = .ok (.putfield 187, 3) := by decide +kernel
theorem dX8_trace_15 : decode cX8_trace 15 = .ok (.iload_n 2, 1) := by decide +kernel
theorem dX8_trace_16 : decode cX8_trace 16 = .ok (.ireturn, 1) := by decide +kernel
set_option maxRecDepth 20000 in
theorem ggX8_load_X8_isIn : GoodIn wsX8_load wsX8_isIn := goodIn_r _ [7] (by decide +kernel) (by decide +kernel)
set_option maxRecDepth 20000 in
theorem gX8_load_X8_isIn : GoodIn wsX8_load (va_wsS RX8 85 yX8_isIn wsX8_isIn) := goodIn_app (goodIn_of _ (by decide +kernel)) ggX8_load_X8_isIn
set_option maxRecDepth 20000 in
theorem ggX8_load_X8_holds : GoodIn wsX8_load wsX8_holds := goodIn_r _ [11, 12, 13, 14, 15, 16, 17, 18, 19, 20, 21, 22, 23, 24, 25, 26, 27, 28, 29, 30, 31, 32, 33, 34, 35, 36, 37, 38, 39, 40, 41, 42, 43, 44, 45, 46, 47, 48, 49, 50, 51, 52] (by decide +kernel) (by decide +kernel)
set_option maxRecDepth 20000 in
theorem gX8_load_X8_holds : GoodIn wsX8_load (wsV RX8 93 RX8 yX8_holds wsX8_holds) := goodIn_app (goodIn_of _ (by decide +kernel)) ggX8_load_X8_holds
theorem dX8_load_0 : decode cX8_load 0 = .ok (.aload_n 0, 1) := by decide +kernel
theorem dX8_load_1 : decode cX8_load 1 = .ok (.iload_n 1, 1) := by decide +kernel
theorem dX8_load_2 : decode cX8_load 2 = .ok (.iconst 1, 1) := by decide +kernel
theorem dX8_load_3 : decode cX8_load 3 = .ok (.bipush 20, 2) := by decide +kernel
theorem dX8_load_5 : decode cX8_load 5 = .ok (.invokestatic 85, 3) := by decide +kernel
theorem dX8_load_8 : decode cX8_load 8 = .ok (.ifCond .eq 7, 3) := by decide +kernel
theorem dX8_load_11 : decode cX8_load 11 = .ok (.iconst 0, 1) := by decide +kernel
theorem dX8_load_12 : decode cX8_load 12 = .ok (.goto 4, 3) := by decide +kernel
theorem dX8_load_15 : decode cX8_load 15 = .ok (.iconst 1, 1) := by decide +kernel
theorem dX8_load_16 : decode cX8_load 16 = .ok (.invokevirtual 93, 3) := by decide +kernel
theorem dX8_load_19 : decode cX8_load 19 = .ok (.ifCond .ne 5, 3) := by decide +kernel
theorem dX8_load_22 : decode cX8_load 22 = .ok (.iconst 0, 1) := by decide +kernel
theorem dX8_load_23 : decode cX8_load 23 = .ok (.ireturn, 1) := by decide +kernel
theorem dX8_load_24 : decode cX8_load 24 = .ok (.aload_n 0, 1) := by decide +kernel
theorem dX8_load_25 : decode cX8_load 25 = .ok (.getfield 191, 3) := by decide +kernel
theorem dX8_load_28 : decode cX8_load 28 = .ok (.istore_n 2, 1) := by decide +kernel
theorem dX8_load_29 : decode cX8_load 29 = .ok (.aload_n 0, 1) := by decide +kernel
theorem dX8_load_30 : decode cX8_load 30 = .ok (.iload_n 1, 1) := by decide +kernel
theorem dX8_load_31 : decode cX8_load 31 = .ok (.putfield 191, 3) := by decide +kernel
theorem dX8_load_34 : decode cX8_load 34 = .ok (.aload_n 0, 1) := by decide +kernel
theorem dX8_load_35 : decode cX8_load 35 = .ok (.aload_n 0, 1) := by decide +kernel
theorem dX8_load_36 : decode cX8_load 36 = .ok (.getfield 194, 3) := by decide +kernel
theorem dX8_load_39 : decode cX8_load 39 = .ok (.ifCond .ne 7, 3) := by decide +kernel
theorem dX8_load_42 : decode cX8_load 42 = .ok (.iconst 2, 1) := by decide +kernel
theorem dX8_load_43 : decode cX8_load 43 = .ok (.goto 7, 3) := by decide +kernel
theorem dX8_load_46 : decode cX8_load 46 = .ok (.aload_n 0, 1) := by decide +kernel
theorem dX8_load_47 : decode cX8_load 47 = .ok (.getfield 197, 3) := by decide +kernel
theorem dX8_load_50 : decode cX8_load 50 = .ok (.putfield 197, 3) := by decide +kernel
theorem dX8_load_53 : decode cX8_load 53 = .ok (.aload_n 0, 1) := by decide +kernel
theorem dX8_load_54 : decode cX8_load 54 = .ok (.aload_n 0, 1) := by decide +kernel
theorem dX8_load_55 : decode cX8_load 55 = .ok (.getfield 194, 3) := by decide +kernel
theorem dX8_load_58 : decode cX8_load 58 = .ok (.ifCond .ne 7, 3) := by decide +kernel
theorem dX8_load_61 : decode cX8_load 61 = .ok (.iconst 1, 1) := by decide +kernel
theorem dX8_load_62 : decode cX8_load 62 = .ok (.goto 7, 3) := by decide +kernel
theorem dX8_load_65 : decode cX8_load 65 = .ok (.aload_n 0, 1) := by decide +kernel
theorem dX8_load_66 : decode cX8_load 66 = .ok (.getfield 194, 3) := by decide +kernel
theorem dX8_load_69 : decode cX8_load 69 = .ok (.putfield 194, 3) := by decide +kernel
theorem dX8_load_72 : decode cX8_load 72 = .ok (.iload_n 2, 1) := by decide +kernel
theorem dX8_load_73 : decode cX8_load 73 = .ok (.ireturn, 1) := by decide +kernel
set_option maxRecDepth 20000 in
theorem ggX8_stop_X8_holds : GoodIn wsX8_stop wsX8_holds := goodIn_r _ [7, 8, 9, 10, 11, 12, 13, 14, 15, 16, 17, 18, 19, 20, 21, 22, 23, 24, 25, 26, 27, 28, 29, 30, 31, 32, 33, 34, 35, 36, 37, 38, 39, 40, 41, 42, 43, 44, 45, 46, 47, 48] (by decide +kernel) (by decide +kernel)
set_option maxRecDepth 20000 in
theorem gX8_stop_X8_holds : GoodIn wsX8_stop (wsV RX8 93 RX8 yX8_holds wsX8_holds) := goodIn_app (goodIn_of _ (by decide +kernel)) ggX8_stop_X8_holds
theorem dX8_stop_0 : decode cX8_stop 0 = .ok (.aload_n 0, 1) := by decide +kernel
theorem dX8_stop_1 : decode cX8_stop 1 = .ok (.aload_n 0, 1) := by decide +kernel
theorem dX8_stop_2 : decode cX8_stop 2 = .ok (.getfield 194, 3) := by decide +kernel
theorem dX8_stop_5 : decode cX8_stop 5 = .ok (.ifCond .ne 7, 3) := by decide +kernel
theorem dX8_stop_8 : decode cX8_stop 8 = .ok (.iconst 1, 1) := by decide +kernel
theorem dX8_stop_9 : decode cX8_stop 9 = .ok (.goto 4, 3) := by decide +kernel
theorem dX8_stop_12 : decode cX8_stop 12 = .ok (.iconst 0, 1) := by decide +kernel
theorem dX8_stop_13 : decode cX8_stop 13 = .ok (.invokevirtual 93, 3) := by decide +kernel
theorem dX8_stop_16 : decode cX8_stop 16 = .ok (.ifCond .ne 5, 3) := by decide +kernel
theorem dX8_stop_19 : decode cX8_stop 19 = .ok (.iconst 0, 1) := by decide +kernel
theorem dX8_stop_20 : decode cX8_stop 20 = .ok (.ireturn, 1) := by decide +kernel
theorem dX8_stop_21 : decode cX8_stop 21 = .ok (.aload_n 0, 1) := by decide +kernel
theorem dX8_stop_22 : decode cX8_stop 22 = .ok (.getfield 194, 3) := by decide +kernel
theorem dX8_stop_25 : decode cX8_stop 25 = .ok (.istore_n 1, 1) := by decide +kernel
theorem dX8_stop_26 : decode cX8_stop 26 = .ok (.aload_n 0, 1) := by decide +kernel
theorem dX8_stop_27 : decode cX8_stop 27 = .ok (.iconst 0, 1) := by decide +kernel
theorem dX8_stop_28 : decode cX8_stop 28 = .ok (.putfield 194, 3) := by decide +kernel
theorem dX8_stop_31 : decode cX8_stop 31 = .ok (.aload_n 0, 1) := by decide +kernel
theorem dX8_stop_32 : decode cX8_stop 32 = .ok (.iconst 0, 1) := by decide +kernel
theorem dX8_stop_33 : decode cX8_stop 33 = .ok (.putfield 191, 3) := by decide +kernel
theorem dX8_stop_36 : decode cX8_stop 36 = .ok (.iload_n 1, 1) := by decide +kernel
theorem dX8_stop_37 : decode cX8_stop 37 = .ok (.ireturn, 1) := by decide +kernel
set_option maxRecDepth 20000 in
theorem ggX8_water_X8_isIn : GoodIn wsX8_water wsX8_isIn := goodIn_r _ [5] (by decide +kernel) (by decide +kernel)
set_option maxRecDepth 20000 in
theorem gX8_water_X8_isIn : GoodIn wsX8_water (va_wsS RX8 85 yX8_isIn wsX8_isIn) := goodIn_app (goodIn_of _ (by decide +kernel)) ggX8_water_X8_isIn
set_option maxRecDepth 20000 in
theorem ggX8_water_X8_holds : GoodIn wsX8_water wsX8_holds := goodIn_r _ [9, 10, 11, 12, 13, 14, 15, 16, 17, 18, 19, 20, 21, 22, 23, 24, 25, 26, 27, 28, 29, 30, 31, 32, 33, 34, 35, 36, 37, 38, 39, 40, 41, 42, 43, 44, 45, 46, 47, 48, 49, 50] (by decide +kernel) (by decide +kernel)
set_option maxRecDepth 20000 in
theorem gX8_water_X8_holds : GoodIn wsX8_water (wsV RX8 93 RX8 yX8_holds wsX8_holds) := goodIn_app (goodIn_of _ (by decide +kernel)) ggX8_water_X8_holds
theorem dX8_water_0 : decode cX8_water 0 = .ok (.aload_n 0, 1) := by decide +kernel
theorem dX8_water_1 : decode cX8_water 1 = .ok (.iload_n 1, 1) := by decide +kernel
theorem dX8_water_2 : decode cX8_water 2 = .ok (.iconst 1, 1) := by decide +kernel
theorem dX8_water_3 : decode cX8_water 3 = .ok (.sipush 500, 3) := by decide +kernel
theorem dX8_water_6 : decode cX8_water 6 = .ok (.invokestatic 85, 3) := by decide +kernel
theorem dX8_water_9 : decode cX8_water 9 = .ok (.ifCond .ne 7, 3) := by decide +kernel
theorem dX8_water_12 : decode cX8_water 12 = .ok (.iconst 1, 1) := by decide +kernel
theorem dX8_water_13 : decode cX8_water 13 = .ok (.goto 20, 3) := by decide +kernel
theorem dX8_water_16 : decode cX8_water 16 = .ok (.aload_n 0, 1) := by decide +kernel
theorem dX8_water_17 : decode cX8_water 17 = .ok (.getfield 114, 3) := by decide +kernel
theorem dX8_water_20 : decode cX8_water 20 = .ok (.iload_n 1, 1) := by decide +kernel
theorem dX8_water_21 : decode cX8_water 21 = .ok (.iadd, 1) := by decide +kernel
theorem dX8_water_22 : decode cX8_water 22 = .ok (.sipush 1000, 3) := by decide +kernel
theorem dX8_water_25 : decode cX8_water 25 = .ok (.if_icmp .le 7, 3) := by decide +kernel
theorem dX8_water_28 : decode cX8_water 28 = .ok (.iconst 2, 1) := by decide +kernel
theorem dX8_water_29 : decode cX8_water 29 = .ok (.goto 4, 3) := by decide +kernel
theorem dX8_water_32 : decode cX8_water 32 = .ok (.iconst 0, 1) := by decide +kernel
theorem dX8_water_33 : decode cX8_water 33 = .ok (.invokevirtual 93, 3) := by decide +kernel
theorem dX8_water_36 : decode cX8_water 36 = .ok (.ifCond .ne 5, 3) := by decide +kernel
theorem dX8_water_39 : decode cX8_water 39 = .ok (.iconst 0, 1) := by decide +kernel
theorem dX8_water_40 : decode cX8_water 40 = .ok (.ireturn, 1) := by decide +kernel
theorem dX8_water_41 : decode cX8_water 41 = .ok (.aload_n 0, 1) := by decide +kernel
theorem dX8_water_42 : decode cX8_water 42 = .ok (.dup, 1) := by decide +kernel
theorem dX8_water_43 : decode cX8_water 43 = .ok (.getfield 114, 3) := by decide +kernel
theorem dX8_water_46 : decode cX8_water 46 = .ok (.iload_n 1, 1) := by decide +kernel
theorem dX8_water_47 : decode cX8_water 47 = .ok (.iadd, 1) := by decide +kernel
theorem dX8_water_48 : decode cX8_water 48 = .ok (.putfield 114, 3) := by decide +kernel
theorem dX8_water_51 : decode cX8_water 51 = .ok (.aload_n 0, 1) := by decide +kernel
theorem dX8_water_52 : decode cX8_water 52 = .ok (.getfield 114, 3) := by decide +kernel
theorem dX8_water_55 : decode cX8_water 55 = .ok (.ireturn, 1) := by decide +kernel
set_option maxRecDepth 20000 in
theorem ggX8_isHour_X8_isIn : GoodIn wsX8_isHour wsX8_isIn := goodIn_r _ [4] (by decide +kernel) (by decide +kernel)
set_option maxRecDepth 20000 in
theorem gX8_isHour_X8_isIn : GoodIn wsX8_isHour (va_wsS RX8 85 yX8_isIn wsX8_isIn) := goodIn_app (goodIn_of _ (by decide +kernel)) ggX8_isHour_X8_isIn
theorem dX8_isHour_0 : decode cX8_isHour 0 = .ok (.iload_n 0, 1) := by decide +kernel
theorem dX8_isHour_1 : decode cX8_isHour 1 = .ok (.iconst 0, 1) := by decide +kernel
theorem dX8_isHour_2 : decode cX8_isHour 2 = .ok (.bipush 23, 2) := by decide +kernel
theorem dX8_isHour_4 : decode cX8_isHour 4 = .ok (.invokestatic 85, 3) := by decide +kernel
theorem dX8_isHour_7 : decode cX8_isHour 7 = .ok (.ireturn, 1) := by decide +kernel
set_option maxRecDepth 20000 in
theorem ggX8_price_X8_isHour : GoodIn wsX8_price wsX8_isHour := goodIn_r _ [5, 6, 7, 4, 8] (by decide +kernel) (by decide +kernel)
set_option maxRecDepth 20000 in
theorem gX8_price_X8_isHour : GoodIn wsX8_price (va_wsS RX8 200 yX8_isHour wsX8_isHour) := goodIn_app (goodIn_of _ (by decide +kernel)) ggX8_price_X8_isHour
set_option maxRecDepth 20000 in
theorem ggX8_price_X8_isIn : GoodIn wsX8_price wsX8_isIn := goodIn_r _ [8] (by decide +kernel) (by decide +kernel)
set_option maxRecDepth 20000 in
theorem gX8_price_X8_isIn : GoodIn wsX8_price (va_wsS RX8 85 yX8_isIn wsX8_isIn) := goodIn_app (goodIn_of _ (by decide +kernel)) ggX8_price_X8_isIn
set_option maxRecDepth 20000 in
theorem ggX8_price_X8_holds : GoodIn wsX8_price wsX8_holds := goodIn_r _ [12, 13, 14, 15, 16, 17, 18, 19, 20, 21, 22, 23, 24, 25, 26, 27, 28, 29, 30, 31, 32, 33, 34, 35, 36, 37, 38, 39, 40, 41, 42, 43, 44, 45, 46, 47, 48, 49, 50, 51, 52, 53] (by decide +kernel) (by decide +kernel)
set_option maxRecDepth 20000 in
theorem gX8_price_X8_holds : GoodIn wsX8_price (wsV RX8 93 RX8 yX8_holds wsX8_holds) := goodIn_app (goodIn_of _ (by decide +kernel)) ggX8_price_X8_holds
theorem dX8_price_0 : decode cX8_price 0 = .ok (.aload_n 0, 1) := by decide +kernel
theorem dX8_price_1 : decode cX8_price 1 = .ok (.iload_n 1, 1) := by decide +kernel
theorem dX8_price_2 : decode cX8_price 2 = .ok (.invokestatic 200, 3) := by decide +kernel
theorem dX8_price_5 : decode cX8_price 5 = .ok (.ifCond .ne 7, 3) := by decide +kernel
theorem dX8_price_8 : decode cX8_price 8 = .ok (.iconst 1, 1) := by decide +kernel
theorem dX8_price_9 : decode cX8_price 9 = .ok (.goto 18, 3) := by decide +kernel
theorem dX8_price_12 : decode cX8_price 12 = .ok (.iload_n 2, 1) := by decide +kernel
theorem dX8_price_13 : decode cX8_price 13 = .ok (.iconst 0, 1) := by decide +kernel
theorem dX8_price_14 : decode cX8_price 14 = .ok (.bipush 99, 2) := by decide +kernel
theorem dX8_price_16 : decode cX8_price 16 = .ok (.invokestatic 85, 3) := by decide +kernel
theorem dX8_price_19 : decode cX8_price 19 = .ok (.ifCond .eq 7, 3) := by decide +kernel
theorem dX8_price_22 : decode cX8_price 22 = .ok (.iconst 0, 1) := by decide +kernel
theorem dX8_price_23 : decode cX8_price 23 = .ok (.goto 4, 3) := by decide +kernel
theorem dX8_price_26 : decode cX8_price 26 = .ok (.iconst 2, 1) := by decide +kernel
theorem dX8_price_27 : decode cX8_price 27 = .ok (.invokevirtual 93, 3) := by decide +kernel
theorem dX8_price_30 : decode cX8_price 30 = .ok (.ifCond .ne 5, 3) := by decide +kernel
theorem dX8_price_33 : decode cX8_price 33 = .ok (.iconst 0, 1) := by decide +kernel
theorem dX8_price_34 : decode cX8_price 34 = .ok (.ireturn, 1) := by decide +kernel
theorem dX8_price_35 : decode cX8_price 35 = .ok (.aload_n 0, 1) := by decide +kernel
theorem dX8_price_36 : decode cX8_price 36 = .ok (.getfield 53, 3) := by decide +kernel
theorem dX8_price_39 : decode cX8_price 39 = .ok (.iload_n 1, 1) := by decide +kernel
theorem dX8_price_40 : decode cX8_price 40 = .ok (.iaload, 1) := by decide +kernel
theorem dX8_price_41 : decode cX8_price 41 = .ok (.istore_n 3, 1) := by decide +kernel
theorem dX8_price_42 : decode cX8_price 42 = .ok (.aload_n 0, 1) := by decide +kernel
theorem dX8_price_43 : decode cX8_price 43 = .ok (.getfield 53, 3) := by decide +kernel
theorem dX8_price_46 : decode cX8_price 46 = .ok (.iload_n 1, 1) := by decide +kernel
theorem dX8_price_47 : decode cX8_price 47 = .ok (.iload_n 2, 1) := by decide +kernel
theorem dX8_price_48 : decode cX8_price 48 = .ok (.iastore, 1) := by decide +kernel
theorem dX8_price_49 : decode cX8_price 49 = .ok (.iload_n 3, 1) := by decide +kernel
theorem dX8_price_50 : decode cX8_price 50 = .ok (.ireturn, 1) := by decide +kernel
set_option maxRecDepth 20000 in
theorem ggX8_firm_X8_isHour : GoodIn wsX8_firm wsX8_isHour := goodIn_r _ [5, 6, 7, 4, 8] (by decide +kernel) (by decide +kernel)
set_option maxRecDepth 20000 in
theorem gX8_firm_X8_isHour : GoodIn wsX8_firm (va_wsS RX8 200 yX8_isHour wsX8_isHour) := goodIn_app (goodIn_of _ (by decide +kernel)) ggX8_firm_X8_isHour
set_option maxRecDepth 20000 in
theorem ggX8_firm_X8_isIn : GoodIn wsX8_firm wsX8_isIn := goodIn_r _ [8] (by decide +kernel) (by decide +kernel)
set_option maxRecDepth 20000 in
theorem gX8_firm_X8_isIn : GoodIn wsX8_firm (va_wsS RX8 85 yX8_isIn wsX8_isIn) := goodIn_app (goodIn_of _ (by decide +kernel)) ggX8_firm_X8_isIn
set_option maxRecDepth 20000 in
theorem ggX8_firm_X8_holds : GoodIn wsX8_firm wsX8_holds := goodIn_r _ [12, 13, 14, 15, 16, 17, 18, 19, 20, 21, 22, 23, 24, 25, 26, 27, 28, 29, 30, 31, 32, 33, 34, 35, 36, 37, 38, 39, 40, 41, 42, 43, 44, 45, 46, 47, 48, 49, 50, 51, 52, 53] (by decide +kernel) (by decide +kernel)
set_option maxRecDepth 20000 in
theorem gX8_firm_X8_holds : GoodIn wsX8_firm (wsV RX8 93 RX8 yX8_holds wsX8_holds) := goodIn_app (goodIn_of _ (by decide +kernel)) ggX8_firm_X8_holds
theorem dX8_firm_0 : decode cX8_firm 0 = .ok (.aload_n 0, 1) := by decide +kernel
theorem dX8_firm_1 : decode cX8_firm 1 = .ok (.iload_n 1, 1) := by decide +kernel
theorem dX8_firm_2 : decode cX8_firm 2 = .ok (.invokestatic 200, 3) := by decide +kernel
theorem dX8_firm_5 : decode cX8_firm 5 = .ok (.ifCond .ne 7, 3) := by decide +kernel
theorem dX8_firm_8 : decode cX8_firm 8 = .ok (.iconst 1, 1) := by decide +kernel
theorem dX8_firm_9 : decode cX8_firm 9 = .ok (.goto 19, 3) := by decide +kernel
theorem dX8_firm_12 : decode cX8_firm 12 = .ok (.iload_n 2, 1) := by decide +kernel
theorem dX8_firm_13 : decode cX8_firm 13 = .ok (.iconst 0, 1) := by decide +kernel
theorem dX8_firm_14 : decode cX8_firm 14 = .ok (.sipush 200, 3) := by decide +kernel
theorem dX8_firm_17 : decode cX8_firm 17 = .ok (.invokestatic 85, 3) := by decide +kernel
theorem dX8_firm_20 : decode cX8_firm 20 = .ok (.ifCond .eq 7, 3) := by decide +kernel
theorem dX8_firm_23 : decode cX8_firm 23 = .ok (.iconst 0, 1) := by decide +kernel
theorem dX8_firm_24 : decode cX8_firm 24 = .ok (.goto 4, 3) := by decide +kernel
theorem dX8_firm_27 : decode cX8_firm 27 = .ok (.iconst 2, 1) := by decide +kernel
theorem dX8_firm_28 : decode cX8_firm 28 = .ok (.invokevirtual 93, 3) := by decide +kernel
theorem dX8_firm_31 : decode cX8_firm 31 = .ok (.ifCond .ne 5, 3) := by decide +kernel
theorem dX8_firm_34 : decode cX8_firm 34 = .ok (.iconst 0, 1) := by decide +kernel
theorem dX8_firm_35 : decode cX8_firm 35 = .ok (.ireturn, 1) := by decide +kernel
theorem dX8_firm_36 : decode cX8_firm 36 = .ok (.aload_n 0, 1) := by decide +kernel
theorem dX8_firm_37 : decode cX8_firm 37 = .ok (.getfield 56, 3) := by decide +kernel
theorem dX8_firm_40 : decode cX8_firm 40 = .ok (.iload_n 1, 1) := by decide +kernel
theorem dX8_firm_41 : decode cX8_firm 41 = .ok (.iaload, 1) := by decide +kernel
theorem dX8_firm_42 : decode cX8_firm 42 = .ok (.istore_n 3, 1) := by decide +kernel
theorem dX8_firm_43 : decode cX8_firm 43 = .ok (.aload_n 0, 1) := by decide +kernel
theorem dX8_firm_44 : decode cX8_firm 44 = .ok (.getfield 56, 3) := by decide +kernel
theorem dX8_firm_47 : decode cX8_firm 47 = .ok (.iload_n 1, 1) := by decide +kernel
theorem dX8_firm_48 : decode cX8_firm 48 = .ok (.iload_n 2, 1) := by decide +kernel
theorem dX8_firm_49 : decode cX8_firm 49 = .ok (.iastore, 1) := by decide +kernel
theorem dX8_firm_50 : decode cX8_firm 50 = .ok (.iload_n 3, 1) := by decide +kernel
theorem dX8_firm_51 : decode cX8_firm 51 = .ok (.ireturn, 1) := by decide +kernel
set_option maxRecDepth 20000 in
theorem ggX8_shines_X8_laysRays : GoodIn wsX8_shines wsX8_laysRays := goodIn_r _ [14, 7, 15, 16, 17, 18, 13, 19, 20, 21, 22, 23, 24, 25, 26, 27, 28, 29, 30, 31, 32, 33, 34, 35, 36, 37, 38, 39, 40, 41, 42, 43, 44, 45, 46, 47, 48, 49, 50, 51, 52, 53, 54, 55, 77, 78, 79, 80, 81, 82, 83, 84, 85, 86, 87, 88, 89, 90, 91, 92, 93, 94, 95, 96, 97, 98, 99, 100, 101, 102, 103, 104, 105, 106, 107, 108, 109, 110, 111, 112, 113, 114, 115, 116] (by decide +kernel) (by decide +kernel)
set_option maxRecDepth 20000 in
theorem gX8_shines_X8_laysRays : GoodIn wsX8_shines (wsV RX8 142 RX8 yX8_laysRays wsX8_laysRays) := goodIn_app (goodIn_of _ (by decide +kernel)) ggX8_shines_X8_laysRays
set_option maxRecDepth 20000 in
theorem ggX8_shines_X8_laysFluxes : GoodIn wsX8_shines wsX8_laysFluxes := goodIn_r _ [59, 2, 5, 7, 8, 60, 61, 15, 62, 63, 64, 13, 65, 66, 67, 68, 35, 36, 37, 77, 78, 79, 80, 81, 82, 83, 84, 85, 86, 87, 88, 89, 90, 91, 92, 93, 94, 95, 96, 97, 98, 99, 100, 101, 102, 103, 104, 105, 106, 107, 108, 109, 110, 111, 112, 113, 114, 115, 116] (by decide +kernel) (by decide +kernel)
set_option maxRecDepth 20000 in
theorem gX8_shines_X8_laysFluxes : GoodIn wsX8_shines (wsV RX8 145 RX8 yX8_laysFluxes wsX8_laysFluxes) := goodIn_app (goodIn_of _ (by decide +kernel)) ggX8_shines_X8_laysFluxes
set_option maxRecDepth 20000 in
theorem ggX8_shines_X8_allFalls : GoodIn wsX8_shines wsX8_allFalls := goodIn_r _ [72, 5, 77, 78, 79, 80, 81, 82, 83, 84, 85, 86, 87, 88, 89, 90, 91, 92, 93, 94, 95, 96, 97, 98, 99, 100, 101, 102, 103, 104, 105, 106, 107, 108, 109, 110, 111, 112, 113, 114, 115, 116] (by decide +kernel) (by decide +kernel)
set_option maxRecDepth 20000 in
theorem gX8_shines_X8_allFalls : GoodIn wsX8_shines (wsV RX8 161 RX8 yX8_allFalls wsX8_allFalls) := goodIn_app (goodIn_of _ (by decide +kernel)) ggX8_shines_X8_allFalls
set_option maxRecDepth 20000 in
theorem ggX8_shines_X8_isTripped : GoodIn wsX8_shines wsX8_isTripped := goodIn_r _ [76, 5, 6, 77, 78, 79, 80, 81, 82, 83, 84, 85, 86, 87, 88, 89, 90, 91, 92, 93, 94, 95, 96, 97, 98, 99, 100, 101, 102, 103, 104, 105, 106, 107, 108, 109, 110, 111, 112, 113, 114, 115, 116] (by decide +kernel) (by decide +kernel)
set_option maxRecDepth 20000 in
theorem gX8_shines_X8_isTripped : GoodIn wsX8_shines (wsV RX8 151 RX8 yX8_isTripped wsX8_isTripped) := goodIn_app (goodIn_of _ (by decide +kernel)) ggX8_shines_X8_isTripped
theorem dX8_shines_0 : decode cX8_shines 0 = .ok (.aload_n 0, 1) := by decide +kernel
theorem dX8_shines_1 : decode cX8_shines 1 = .ok (.invokevirtual 142, 3) := by decide +kernel
theorem dX8_shines_4 : decode cX8_shines 4 = .ok (.aload_n 0, 1) := by decide +kernel
theorem dX8_shines_5 : decode cX8_shines 5 = .ok (.iconst (-1), 1) := by decide +kernel
theorem dX8_shines_6 : decode cX8_shines 6 = .ok (.iconst 0, 1) := by decide +kernel
theorem dX8_shines_7 : decode cX8_shines 7 = .ok (.invokevirtual 145, 3) := by decide +kernel
theorem dX8_shines_10 : decode cX8_shines 10 = .ok (.aload_n 0, 1) := by decide +kernel
theorem dX8_shines_11 : decode cX8_shines 11 = .ok (.invokevirtual 161, 3) := by decide +kernel
theorem dX8_shines_14 : decode cX8_shines 14 = .ok (.istore_n 1, 1) := by decide +kernel
theorem dX8_shines_15 : decode cX8_shines 15 = .ok (.aload_n 0, 1) := by decide +kernel
theorem dX8_shines_16 : decode cX8_shines 16 = .ok (.getfield 59, 3) := by decide +kernel
theorem dX8_shines_19 : decode cX8_shines 19 = .ok (.iconst 0, 1) := by decide +kernel
theorem dX8_shines_20 : decode cX8_shines 20 = .ok (.dup2, 1) := by decide +kernel
theorem dX8_shines_21 : decode cX8_shines 21 = .ok (.laload, 1) := by decide +kernel
theorem dX8_shines_22 : decode cX8_shines 22 = .ok (.iload_n 1, 1) := by decide +kernel
theorem dX8_shines_23 : decode cX8_shines 23 = .ok (.aload_n 0, 1) := by decide +kernel
theorem dX8_shines_24 : decode cX8_shines 24 = .ok (.getfield 136, 3) := by decide +kernel
theorem dX8_shines_27 : decode cX8_shines 27 = .ok (.iadd, 1) := by decide +kernel
theorem dX8_shines_28 : decode cX8_shines 28 = .ok (.i2l, 1) := by decide +kernel
theorem dX8_shines_29 : decode cX8_shines 29 = .ok (.ladd, 1) := by decide +kernel
theorem dX8_shines_30 : decode cX8_shines 30 = .ok (.lastore, 1) := by decide +kernel
theorem dX8_shines_31 : decode cX8_shines 31 = .ok (.aload_n 0, 1) := by decide +kernel
theorem dX8_shines_32 : decode cX8_shines 32 = .ok (.getfield 59, 3) := by decide +kernel
theorem dX8_shines_35 : decode cX8_shines 35 = .ok (.iconst 1, 1) := by decide +kernel
theorem dX8_shines_36 : decode cX8_shines 36 = .ok (.dup2, 1) := by decide +kernel
theorem dX8_shines_37 : decode cX8_shines 37 = .ok (.laload, 1) := by decide +kernel
theorem dX8_shines_38 : decode cX8_shines 38 = .ok (.aload_n 0, 1) := by decide +kernel
theorem dX8_shines_39 : decode cX8_shines 39 = .ok (.getfield 136, 3) := by decide +kernel
theorem dX8_shines_42 : decode cX8_shines 42 = .ok (.i2l, 1) := by decide +kernel
theorem dX8_shines_43 : decode cX8_shines 43 = .ok (.ladd, 1) := by decide +kernel
theorem dX8_shines_44 : decode cX8_shines 44 = .ok (.lastore, 1) := by decide +kernel
theorem dX8_shines_45 : decode cX8_shines 45 = .ok (.aload_n 0, 1) := by decide +kernel
theorem dX8_shines_46 : decode cX8_shines 46 = .ok (.invokevirtual 151, 3) := by decide +kernel
theorem dX8_shines_49 : decode cX8_shines 49 = .ok (.ifCond .ne 16, 3) := by decide +kernel
theorem dX8_shines_52 : decode cX8_shines 52 = .ok (.aload_n 0, 1) := by decide +kernel
theorem dX8_shines_53 : decode cX8_shines 53 = .ok (.getfield 59, 3) := by decide +kernel
theorem dX8_shines_56 : decode cX8_shines 56 = .ok (.iconst 3, 1) := by decide +kernel
theorem dX8_shines_57 : decode cX8_shines 57 = .ok (.dup2, 1) := by decide +kernel
theorem dX8_shines_58 : decode cX8_shines 58 = .ok (.laload, 1) := by decide +kernel
theorem dX8_shines_59 : decode cX8_shines 59 = .ok (.iload_n 1, 1) := by decide +kernel
theorem dX8_shines_60 : decode cX8_shines 60 = .ok (.i2l, 1) := by decide +kernel
theorem dX8_shines_61 : decode cX8_shines 61 = .ok (.ladd, 1) := by decide +kernel
theorem dX8_shines_62 : decode cX8_shines 62 = .ok (.lastore, 1) := by decide +kernel
theorem dX8_shines_63 : decode cX8_shines 63 = .ok (.iload_n 1, 1) := by decide +kernel
theorem dX8_shines_64 : decode cX8_shines 64 = .ok (.ireturn, 1) := by decide +kernel
theorem dX8_shines_65 : decode cX8_shines 65 = .ok (.aload_n 0, 1) := by decide +kernel
theorem dX8_shines_66 : decode cX8_shines 66 = .ok (.dup, 1) := by decide +kernel
theorem dX8_shines_67 : decode cX8_shines 67 = .ok (.getfield 203, 3) := by decide +kernel
theorem dX8_shines_70 : decode cX8_shines 70 = .ok (.iconst 1, 1) := by decide +kernel
theorem dX8_shines_71 : decode cX8_shines 71 = .ok (.iadd, 1) := by decide +kernel
theorem dX8_shines_72 : decode cX8_shines 72 = .ok (.putfield 203, 3) := by decide +kernel
theorem dX8_shines_75 : decode cX8_shines 75 = .ok (.aload_n 0, 1) := by decide +kernel
theorem dX8_shines_76 : decode cX8_shines 76 = .ok (.getfield 59, 3) := by decide +kernel
theorem dX8_shines_79 : decode cX8_shines 79 = .ok (.iconst 2, 1) := by decide +kernel
theorem dX8_shines_80 : decode cX8_shines 80 = .ok (.dup2, 1) := by decide +kernel
theorem dX8_shines_81 : decode cX8_shines 81 = .ok (.laload, 1) := by decide +kernel
theorem dX8_shines_82 : decode cX8_shines 82 = .ok (.iload_n 1, 1) := by decide +kernel
theorem dX8_shines_83 : decode cX8_shines 83 = .ok (.i2l, 1) := by decide +kernel
theorem dX8_shines_84 : decode cX8_shines 84 = .ok (.ladd, 1) := by decide +kernel
theorem dX8_shines_85 : decode cX8_shines 85 = .ok (.lastore, 1) := by decide +kernel
theorem dX8_shines_86 : decode cX8_shines 86 = .ok (.iconst 0, 1) := by decide +kernel
theorem dX8_shines_87 : decode cX8_shines 87 = .ok (.istore_n 2, 1) := by decide +kernel
theorem dX8_shines_88 : decode cX8_shines 88 = .ok (.iload_n 2, 1) := by decide +kernel
theorem dX8_shines_89 : decode cX8_shines 89 = .ok (.bipush 6, 2) := by decide +kernel
theorem dX8_shines_91 : decode cX8_shines 91 = .ok (.if_icmp .ge 38, 3) := by decide +kernel
theorem dX8_shines_94 : decode cX8_shines 94 = .ok (.aload_n 0, 1) := by decide +kernel
theorem dX8_shines_95 : decode cX8_shines 95 = .ok (.getfield 50, 3) := by decide +kernel
theorem dX8_shines_98 : decode cX8_shines 98 = .ok (.iload_n 2, 1) := by decide +kernel
theorem dX8_shines_99 : decode cX8_shines 99 = .ok (.dup2, 1) := by decide +kernel
theorem dX8_shines_100 : decode cX8_shines 100 = .ok (.iaload, 1) := by decide +kernel
theorem dX8_shines_101 : decode cX8_shines 101 = .ok (.aload_n 0, 1) := by decide +kernel
theorem dX8_shines_102 : decode cX8_shines 102 = .ok (.getfield 70, 3) := by decide +kernel
theorem dX8_shines_105 : decode cX8_shines 105 = .ok (.iload_n 2, 1) := by decide +kernel
theorem dX8_shines_106 : decode cX8_shines 106 = .ok (.iaload, 1) := by decide +kernel
theorem dX8_shines_107 : decode cX8_shines 107 = .ok (.aload_n 0, 1) := by decide +kernel
theorem dX8_shines_108 : decode cX8_shines 108 = .ok (.getfield 47, 3) := by decide +kernel
theorem dX8_shines_111 : decode cX8_shines 111 = .ok (.iload_n 2, 1) := by decide +kernel
theorem dX8_shines_112 : decode cX8_shines 112 = .ok (.iaload, 1) := by decide +kernel
theorem dX8_shines_113 : decode cX8_shines 113 = .ok (.if_icmp .le 7, 3) := by decide +kernel
theorem dX8_shines_116 : decode cX8_shines 116 = .ok (.iconst 1, 1) := by decide +kernel
theorem dX8_shines_117 : decode cX8_shines 117 = .ok (.goto 4, 3) := by decide +kernel
theorem dX8_shines_120 : decode cX8_shines 120 = .ok (.iconst 0, 1) := by decide +kernel
theorem dX8_shines_121 : decode cX8_shines 121 = .ok (.iadd, 1) := by decide +kernel
theorem dX8_shines_122 : decode cX8_shines 122 = .ok (.iastore, 1) := by decide +kernel
theorem dX8_shines_123 : decode cX8_shines 123 = .ok (.iinc 2 1, 3) := by decide +kernel
theorem dX8_shines_126 : decode cX8_shines 126 = .ok (.goto (-38), 3) := by decide +kernel
theorem dX8_shines_129 : decode cX8_shines 129 = .ok (.iconst 0, 1) := by decide +kernel
theorem dX8_shines_130 : decode cX8_shines 130 = .ok (.istore_n 2, 1) := by decide +kernel
theorem dX8_shines_131 : decode cX8_shines 131 = .ok (.iload_n 2, 1) := by decide +kernel
theorem dX8_shines_132 : decode cX8_shines 132 = .ok (.aload_n 0, 1) := by decide +kernel
theorem dX8_shines_133 : decode cX8_shines 133 = .ok (.getfield 82, 3) := by decide +kernel
theorem dX8_shines_136 : decode cX8_shines 136 = .ok (.if_icmp .ge 34, 3) := by decide +kernel
theorem dX8_shines_139 : decode cX8_shines 139 = .ok (.aload_n 0, 1) := by decide +kernel
theorem dX8_shines_140 : decode cX8_shines 140 = .ok (.getfield 16, 3) := by decide +kernel
theorem dX8_shines_143 : decode cX8_shines 143 = .ok (.iload_n 2, 1) := by decide +kernel
theorem dX8_shines_144 : decode cX8_shines 144 = .ok (.aload_n 0, 1) := by decide +kernel
theorem dX8_shines_145 : decode cX8_shines 145 = .ok (.getfield 25, 3) := by decide +kernel
theorem dX8_shines_148 : decode cX8_shines 148 = .ok (.iload_n 2, 1) := by decide +kernel
theorem dX8_shines_149 : decode cX8_shines 149 = .ok (.baload, 1) := by decide +kernel
theorem dX8_shines_150 : decode cX8_shines 150 = .ok (.ifCond .eq 12, 3) := by decide +kernel
theorem dX8_shines_153 : decode cX8_shines 153 = .ok (.aload_n 0, 1) := by decide +kernel
theorem dX8_shines_154 : decode cX8_shines 154 = .ok (.getfield 16, 3) := by decide +kernel
theorem dX8_shines_157 : decode cX8_shines 157 = .ok (.iload_n 2, 1) := by decide +kernel
theorem dX8_shines_158 : decode cX8_shines 158 = .ok (.iaload, 1) := by decide +kernel
theorem dX8_shines_159 : decode cX8_shines 159 = .ok (.goto 4, 3) := by decide +kernel
theorem dX8_shines_162 : decode cX8_shines 162 = .ok (.iconst (-1), 1) := by decide +kernel
theorem dX8_shines_163 : decode cX8_shines 163 = .ok (.iastore, 1) := by decide +kernel
theorem dX8_shines_164 : decode cX8_shines 164 = .ok (.iinc 2 1, 3) := by decide +kernel
theorem dX8_shines_167 : decode cX8_shines 167 = .ok (.goto (-36), 3) := by decide +kernel
theorem dX8_shines_170 : decode cX8_shines 170 = .ok (.iconst 0, 1) := by decide +kernel
theorem dX8_shines_171 : decode cX8_shines 171 = .ok (.ireturn, 1) := by decide +kernel
theorem dX8_comes_0 : decode cX8_comes 0 = .ok (.aload_n 0, 1) := by decide +kernel
theorem dX8_comes_1 : decode cX8_comes 1 = .ok (.getfield 181, 3) := by decide +kernel
theorem dX8_comes_4 : decode cX8_comes 4 = .ok (.iconst 1, 1) := by decide +kernel
theorem dX8_comes_5 : decode cX8_comes 5 = .ok (.if_icmp .eq 7, 3) := by decide +kernel
theorem dX8_comes_8 : decode cX8_comes 8 = .ok (.iconst 0, 1) := by decide +kernel
theorem dX8_comes_9 : decode cX8_comes 9 = .ok (.goto 25, 3) := by decide +kernel
theorem dX8_comes_12 : decode cX8_comes 12 = .ok (.iload_n 1, 1) := by decide +kernel
theorem dX8_comes_13 : decode cX8_comes 13 = .ok (.bipush 100, 2) := by decide +kernel
theorem dX8_comes_15 : decode cX8_comes 15 = .ok (.idiv, 1) := by decide +kernel
theorem dX8_comes_16 : decode cX8_comes 16 = .ok (.aload_n 0, 1) := by decide +kernel
theorem dX8_comes_17 : decode cX8_comes 17 = .ok (.getfield 63, 3) := by decide +kernel
theorem dX8_comes_20 : decode cX8_comes 20 = .ok (.if_icmp .ge 10, 3) := by decide +kernel
theorem dX8_comes_23 : decode cX8_comes 23 = .ok (.iload_n 1, 1) := by decide +kernel
theorem dX8_comes_24 : decode cX8_comes 24 = .ok (.bipush 100, 2) := by decide +kernel
theorem dX8_comes_26 : decode cX8_comes 26 = .ok (.idiv, 1) := by decide +kernel
theorem dX8_comes_27 : decode cX8_comes 27 = .ok (.goto 7, 3) := by decide +kernel
theorem dX8_comes_30 : decode cX8_comes 30 = .ok (.aload_n 0, 1) := by decide +kernel
theorem dX8_comes_31 : decode cX8_comes 31 = .ok (.getfield 63, 3) := by decide +kernel
theorem dX8_comes_34 : decode cX8_comes 34 = .ok (.istore_n 2, 1) := by decide +kernel
theorem dX8_comes_35 : decode cX8_comes 35 = .ok (.aload_n 0, 1) := by decide +kernel
theorem dX8_comes_36 : decode cX8_comes 36 = .ok (.dup, 1) := by decide +kernel
theorem dX8_comes_37 : decode cX8_comes 37 = .ok (.getfield 63, 3) := by decide +kernel
theorem dX8_comes_40 : decode cX8_comes 40 = .ok (.iload_n 2, 1) := by decide +kernel
theorem dX8_comes_41 : decode cX8_comes 41 = .ok (.isub, 1) := by decide +kernel
theorem dX8_comes_42 : decode cX8_comes 42 = .ok (.putfield 63, 3) := by decide +kernel
theorem dX8_comes_45 : decode cX8_comes 45 = .ok (.aload_n 0, 1) := by decide +kernel
theorem dX8_comes_46 : decode cX8_comes 46 = .ok (.dup, 1) := by decide +kernel
theorem dX8_comes_47 : decode cX8_comes 47 = .ok (.getfield 178, 3) := by decide +kernel
theorem dX8_comes_50 : decode cX8_comes 50 = .ok (.iload_n 2, 1) := by decide +kernel
theorem dX8_comes_51 : decode cX8_comes 51 = .ok (.iadd, 1) := by decide +kernel
theorem dX8_comes_52 : decode cX8_comes 52 = .ok (.putfield 178, 3) := by decide +kernel
theorem dX8_comes_55 : decode cX8_comes 55 = .ok (.aload_n 0, 1) := by decide +kernel
theorem dX8_comes_56 : decode cX8_comes 56 = .ok (.getfield 59, 3) := by decide +kernel
theorem dX8_comes_59 : decode cX8_comes 59 = .ok (.iconst 4, 1) := by decide +kernel
theorem dX8_comes_60 : decode cX8_comes 60 = .ok (.dup2, 1) := by decide +kernel
theorem dX8_comes_61 : decode cX8_comes 61 = .ok (.laload, 1) := by decide +kernel
theorem dX8_comes_62 : decode cX8_comes 62 = .ok (.iload_n 1, 1) := by decide +kernel
theorem dX8_comes_63 : decode cX8_comes 63 = .ok (.bipush 100, 2) := by decide +kernel
theorem dX8_comes_65 : decode cX8_comes 65 = .ok (.iload_n 2, 1) := by decide +kernel
theorem dX8_comes_66 : decode cX8_comes 66 = .ok (.imul, 1) := by decide +kernel
theorem dX8_comes_67 : decode cX8_comes 67 = .ok (.isub, 1) := by decide +kernel
theorem dX8_comes_68 : decode cX8_comes 68 = .ok (.i2l, 1) := by decide +kernel
theorem dX8_comes_69 : decode cX8_comes 69 = .ok (.ladd, 1) := by decide +kernel
theorem dX8_comes_70 : decode cX8_comes 70 = .ok (.lastore, 1) := by decide +kernel
theorem dX8_comes_71 : decode cX8_comes 71 = .ok (.aload_n 0, 1) := by decide +kernel
theorem dX8_comes_72 : decode cX8_comes 72 = .ok (.getfield 59, 3) := by decide +kernel
theorem dX8_comes_75 : decode cX8_comes 75 = .ok (.iconst 5, 1) := by decide +kernel
theorem dX8_comes_76 : decode cX8_comes 76 = .ok (.dup2, 1) := by decide +kernel
theorem dX8_comes_77 : decode cX8_comes 77 = .ok (.laload, 1) := by decide +kernel
theorem dX8_comes_78 : decode cX8_comes 78 = .ok (.iload_n 2, 1) := by decide +kernel
theorem dX8_comes_79 : decode cX8_comes 79 = .ok (.i2l, 1) := by decide +kernel
theorem dX8_comes_80 : decode cX8_comes 80 = .ok (.ladd, 1) := by decide +kernel
theorem dX8_comes_81 : decode cX8_comes 81 = .ok (.lastore, 1) := by decide +kernel
theorem dX8_comes_82 : decode cX8_comes 82 = .ok (.iload_n 2, 1) := by decide +kernel
theorem dX8_comes_83 : decode cX8_comes 83 = .ok (.ireturn, 1) := by decide +kernel
set_option maxRecDepth 20000 in
theorem ggX8_pipes_X8_held : GoodIn wsX8_pipes wsX8_held := goodIn_r _ [8] (by decide +kernel) (by decide +kernel)
set_option maxRecDepth 20000 in
theorem gX8_pipes_X8_held : GoodIn wsX8_pipes (va_wsS RX8 100 yX8_held wsX8_held) := goodIn_app (goodIn_of _ (by decide +kernel)) ggX8_pipes_X8_held
theorem dX8_pipes_0 : decode cX8_pipes 0 = .ok (.aload_n 0, 1) := by decide +kernel
theorem dX8_pipes_1 : decode cX8_pipes 1 = .ok (.getfield 181, 3) := by decide +kernel
theorem dX8_pipes_4 : decode cX8_pipes 4 = .ok (.iconst 2, 1) := by decide +kernel
theorem dX8_pipes_5 : decode cX8_pipes 5 = .ok (.if_icmp .ne 71, 3) := by decide +kernel
theorem dX8_pipes_8 : decode cX8_pipes 8 = .ok (.aload_n 0, 1) := by decide +kernel
theorem dX8_pipes_9 : decode cX8_pipes 9 = .ok (.aload_n 0, 1) := by decide +kernel
theorem dX8_pipes_10 : decode cX8_pipes 10 = .ok (.getfield 187, 3) := by decide +kernel
theorem dX8_pipes_13 : decode cX8_pipes 13 = .ok (.ifCond .eq 12, 3) := by decide +kernel
theorem dX8_pipes_16 : decode cX8_pipes 16 = .ok (.aload_n 0, 1) := by decide +kernel
theorem dX8_pipes_17 : decode cX8_pipes 17 = .ok (.getfield 206, 3) := by decide +kernel
theorem dX8_pipes_20 : decode cX8_pipes 20 = .ok (.iconst 1, 1) := by decide +kernel
theorem dX8_pipes_21 : decode cX8_pipes 21 = .ok (.iadd, 1) := by decide +kernel
theorem dX8_pipes_22 : decode cX8_pipes 22 = .ok (.goto 4, 3) := by decide +kernel
theorem dX8_pipes_25 : decode cX8_pipes 25 = .ok (.iconst 0, 1) := by decide +kernel
theorem dX8_pipes_26 : decode cX8_pipes 26 = .ok (.putfield 206, 3) := by decide +kernel
theorem dX8_pipes_29 : decode cX8_pipes 29 = .ok (.aload_n 0, 1) := by decide +kernel
theorem dX8_pipes_30 : decode cX8_pipes 30 = .ok (.getfield 206, 3) := by decide +kernel
theorem dX8_pipes_33 : decode cX8_pipes 33 = .ok (.iconst 3, 1) := by decide +kernel
theorem dX8_pipes_34 : decode cX8_pipes 34 = .ok (.if_icmp .ne 7, 3) := by decide +kernel
theorem dX8_pipes_37 : decode cX8_pipes 37 = .ok (.iconst 1, 1) := by decide +kernel
theorem dX8_pipes_38 : decode cX8_pipes 38 = .ok (.goto 4, 3) := by decide +kernel
theorem dX8_pipes_41 : decode cX8_pipes 41 = .ok (.iconst 0, 1) := by decide +kernel
theorem dX8_pipes_42 : decode cX8_pipes 42 = .ok (.istore_n 2, 1) := by decide +kernel
theorem dX8_pipes_43 : decode cX8_pipes 43 = .ok (.aload_n 0, 1) := by decide +kernel
theorem dX8_pipes_44 : decode cX8_pipes 44 = .ok (.iload_n 2, 1) := by decide +kernel
theorem dX8_pipes_45 : decode cX8_pipes 45 = .ok (.ifCond .eq 7, 3) := by decide +kernel
theorem dX8_pipes_48 : decode cX8_pipes 48 = .ok (.iconst 1, 1) := by decide +kernel
theorem dX8_pipes_49 : decode cX8_pipes 49 = .ok (.goto 4, 3) := by decide +kernel
theorem dX8_pipes_52 : decode cX8_pipes 52 = .ok (.iconst 2, 1) := by decide +kernel
theorem dX8_pipes_53 : decode cX8_pipes 53 = .ok (.putfield 181, 3) := by decide +kernel
theorem dX8_pipes_56 : decode cX8_pipes 56 = .ok (.aload_n 0, 1) := by decide +kernel
theorem dX8_pipes_57 : decode cX8_pipes 57 = .ok (.iload_n 2, 1) := by decide +kernel
theorem dX8_pipes_58 : decode cX8_pipes 58 = .ok (.ifCond .eq 8, 3) := by decide +kernel
theorem dX8_pipes_61 : decode cX8_pipes 61 = .ok (.bipush 22, 2) := by decide +kernel
theorem dX8_pipes_63 : decode cX8_pipes 63 = .ok (.goto 7, 3) := by decide +kernel
theorem dX8_pipes_66 : decode cX8_pipes 66 = .ok (.aload_n 0, 1) := by decide +kernel
theorem dX8_pipes_67 : decode cX8_pipes 67 = .ok (.getfield 184, 3) := by decide +kernel
theorem dX8_pipes_70 : decode cX8_pipes 70 = .ok (.putfield 184, 3) := by decide +kernel
theorem dX8_pipes_73 : decode cX8_pipes 73 = .ok (.goto 83, 3) := by decide +kernel
theorem dX8_pipes_76 : decode cX8_pipes 76 = .ok (.aload_n 0, 1) := by decide +kernel
theorem dX8_pipes_77 : decode cX8_pipes 77 = .ok (.getfield 181, 3) := by decide +kernel
theorem dX8_pipes_80 : decode cX8_pipes 80 = .ok (.iconst 1, 1) := by decide +kernel
theorem dX8_pipes_81 : decode cX8_pipes 81 = .ok (.if_icmp .ne 75, 3) := by decide +kernel
theorem dX8_pipes_84 : decode cX8_pipes 84 = .ok (.iload_n 1, 1) := by decide +kernel
theorem dX8_pipes_85 : decode cX8_pipes 85 = .ok (.ifCond .le 18, 3) := by decide +kernel
theorem dX8_pipes_88 : decode cX8_pipes 88 = .ok (.aload_n 0, 1) := by decide +kernel
theorem dX8_pipes_89 : decode cX8_pipes 89 = .ok (.getfield 184, 3) := by decide +kernel
theorem dX8_pipes_92 : decode cX8_pipes 92 = .ok (.iconst 5, 1) := by decide +kernel
theorem dX8_pipes_93 : decode cX8_pipes 93 = .ok (.iadd, 1) := by decide +kernel
theorem dX8_pipes_94 : decode cX8_pipes 94 = .ok (.iconst 0, 1) := by decide +kernel
theorem dX8_pipes_95 : decode cX8_pipes 95 = .ok (.bipush 40, 2) := by decide +kernel
theorem dX8_pipes_97 : decode cX8_pipes 97 = .ok (.invokestatic 100, 3) := by decide +kernel
theorem dX8_pipes_100 : decode cX8_pipes 100 = .ok (.goto 9, 3) := by decide +kernel
theorem dX8_pipes_103 : decode cX8_pipes 103 = .ok (.aload_n 0, 1) := by decide +kernel
theorem dX8_pipes_104 : decode cX8_pipes 104 = .ok (.getfield 184, 3) := by decide +kernel
theorem dX8_pipes_107 : decode cX8_pipes 107 = .ok (.iconst 2, 1) := by decide +kernel
theorem dX8_pipes_108 : decode cX8_pipes 108 = .ok (.isub, 1) := by decide +kernel
theorem dX8_pipes_109 : decode cX8_pipes 109 = .ok (.istore_n 2, 1) := by decide +kernel
theorem dX8_pipes_110 : decode cX8_pipes 110 = .ok (.aload_n 0, 1) := by decide +kernel
theorem dX8_pipes_111 : decode cX8_pipes 111 = .ok (.aload_n 0, 1) := by decide +kernel
theorem dX8_pipes_112 : decode cX8_pipes 112 = .ok (.getfield 187, 3) := by decide +kernel
theorem dX8_pipes_115 : decode cX8_pipes 115 = .ok (.ifCond .eq 14, 3) := by decide +kernel
theorem dX8_pipes_118 : decode cX8_pipes 118 = .ok (.iload_n 2, 1) := by decide +kernel
theorem dX8_pipes_119 : decode cX8_pipes 119 = .ok (.bipush 22, 2) := by decide +kernel
theorem dX8_pipes_121 : decode cX8_pipes 121 = .ok (.if_icmp .ge 8, 3) := by decide +kernel
theorem dX8_pipes_124 : decode cX8_pipes 124 = .ok (.bipush 22, 2) := by decide +kernel
theorem dX8_pipes_126 : decode cX8_pipes 126 = .ok (.goto 4, 3) := by decide +kernel
theorem dX8_pipes_129 : decode cX8_pipes 129 = .ok (.iload_n 2, 1) := by decide +kernel
theorem dX8_pipes_130 : decode cX8_pipes 130 = .ok (.putfield 184, 3) := by decide +kernel
theorem dX8_pipes_133 : decode cX8_pipes 133 = .ok (.aload_n 0, 1) := by decide +kernel
theorem dX8_pipes_134 : decode cX8_pipes 134 = .ok (.aload_n 0, 1) := by decide +kernel
theorem dX8_pipes_135 : decode cX8_pipes 135 = .ok (.getfield 184, 3) := by decide +kernel
theorem dX8_pipes_138 : decode cX8_pipes 138 = .ok (.bipush 20, 2) := by decide +kernel
theorem dX8_pipes_140 : decode cX8_pipes 140 = .ok (.if_icmp .ge 7, 3) := by decide +kernel
theorem dX8_pipes_143 : decode cX8_pipes 143 = .ok (.iconst 2, 1) := by decide +kernel
theorem dX8_pipes_144 : decode cX8_pipes 144 = .ok (.goto 4, 3) := by decide +kernel
theorem dX8_pipes_147 : decode cX8_pipes 147 = .ok (.iconst 1, 1) := by decide +kernel
theorem dX8_pipes_148 : decode cX8_pipes 148 = .ok (.putfield 181, 3) := by decide +kernel
theorem dX8_pipes_151 : decode cX8_pipes 151 = .ok (.aload_n 0, 1) := by decide +kernel
theorem dX8_pipes_152 : decode cX8_pipes 152 = .ok (.iconst 0, 1) := by decide +kernel
theorem dX8_pipes_153 : decode cX8_pipes 153 = .ok (.putfield 206, 3) := by decide +kernel
theorem dX8_pipes_156 : decode cX8_pipes 156 = .ok (.return_, 1) := by decide +kernel
set_option maxRecDepth 20000 in
theorem ggX8_turns_X8_strength : GoodIn wsX8_turns wsX8_strength := goodIn_r _ [11] (by decide +kernel) (by decide +kernel)
set_option maxRecDepth 20000 in
theorem gX8_turns_X8_strength : GoodIn wsX8_turns (va_wsS RX8 111 yX8_strength wsX8_strength) := goodIn_app (goodIn_of _ (by decide +kernel)) ggX8_turns_X8_strength
theorem dX8_turns_0 : decode cX8_turns 0 = .ok (.aload_n 0, 1) := by decide +kernel
theorem dX8_turns_1 : decode cX8_turns 1 = .ok (.getfield 194, 3) := by decide +kernel
theorem dX8_turns_4 : decode cX8_turns 4 = .ok (.iconst 2, 1) := by decide +kernel
theorem dX8_turns_5 : decode cX8_turns 5 = .ok (.if_icmp .eq 7, 3) := by decide +kernel
theorem dX8_turns_8 : decode cX8_turns 8 = .ok (.iconst 0, 1) := by decide +kernel
theorem dX8_turns_9 : decode cX8_turns 9 = .ok (.goto 25, 3) := by decide +kernel
theorem dX8_turns_12 : decode cX8_turns 12 = .ok (.aload_n 0, 1) := by decide +kernel
theorem dX8_turns_13 : decode cX8_turns 13 = .ok (.getfield 191, 3) := by decide +kernel
theorem dX8_turns_16 : decode cX8_turns 16 = .ok (.aload_n 0, 1) := by decide +kernel
theorem dX8_turns_17 : decode cX8_turns 17 = .ok (.getfield 178, 3) := by decide +kernel
theorem dX8_turns_20 : decode cX8_turns 20 = .ok (.if_icmp .ge 10, 3) := by decide +kernel
theorem dX8_turns_23 : decode cX8_turns 23 = .ok (.aload_n 0, 1) := by decide +kernel
theorem dX8_turns_24 : decode cX8_turns 24 = .ok (.getfield 191, 3) := by decide +kernel
theorem dX8_turns_27 : decode cX8_turns 27 = .ok (.goto 7, 3) := by decide +kernel
theorem dX8_turns_30 : decode cX8_turns 30 = .ok (.aload_n 0, 1) := by decide +kernel
theorem dX8_turns_31 : decode cX8_turns 31 = .ok (.getfield 178, 3) := by decide +kernel
theorem dX8_turns_34 : decode cX8_turns 34 = .ok (.istore_n 1, 1) := by decide +kernel
theorem dX8_turns_35 : decode cX8_turns 35 = .ok (.aload_n 0, 1) := by decide +kernel
theorem dX8_turns_36 : decode cX8_turns 36 = .ok (.getfield 194, 3) := by decide +kernel
theorem dX8_turns_39 : decode cX8_turns 39 = .ok (.iconst 1, 1) := by decide +kernel
theorem dX8_turns_40 : decode cX8_turns 40 = .ok (.if_icmp .ne 29, 3) := by decide +kernel
theorem dX8_turns_43 : decode cX8_turns 43 = .ok (.aload_n 0, 1) := by decide +kernel
theorem dX8_turns_44 : decode cX8_turns 44 = .ok (.dup, 1) := by decide +kernel
theorem dX8_turns_45 : decode cX8_turns 45 = .ok (.getfield 197, 3) := by decide +kernel
theorem dX8_turns_48 : decode cX8_turns 48 = .ok (.iconst 1, 1) := by decide +kernel
theorem dX8_turns_49 : decode cX8_turns 49 = .ok (.isub, 1) := by decide +kernel
theorem dX8_turns_50 : decode cX8_turns 50 = .ok (.putfield 197, 3) := by decide +kernel
theorem dX8_turns_53 : decode cX8_turns 53 = .ok (.aload_n 0, 1) := by decide +kernel
theorem dX8_turns_54 : decode cX8_turns 54 = .ok (.aload_n 0, 1) := by decide +kernel
theorem dX8_turns_55 : decode cX8_turns 55 = .ok (.getfield 197, 3) := by decide +kernel
theorem dX8_turns_58 : decode cX8_turns 58 = .ok (.ifCond .ne 7, 3) := by decide +kernel
theorem dX8_turns_61 : decode cX8_turns 61 = .ok (.iconst 2, 1) := by decide +kernel
theorem dX8_turns_62 : decode cX8_turns 62 = .ok (.goto 4, 3) := by decide +kernel
theorem dX8_turns_65 : decode cX8_turns 65 = .ok (.iconst 1, 1) := by decide +kernel
theorem dX8_turns_66 : decode cX8_turns 66 = .ok (.putfield 194, 3) := by decide +kernel
theorem dX8_turns_69 : decode cX8_turns 69 = .ok (.aload_n 0, 1) := by decide +kernel
theorem dX8_turns_70 : decode cX8_turns 70 = .ok (.dup, 1) := by decide +kernel
theorem dX8_turns_71 : decode cX8_turns 71 = .ok (.getfield 178, 3) := by decide +kernel
theorem dX8_turns_74 : decode cX8_turns 74 = .ok (.iload_n 1, 1) := by decide +kernel
theorem dX8_turns_75 : decode cX8_turns 75 = .ok (.isub, 1) := by decide +kernel
theorem dX8_turns_76 : decode cX8_turns 76 = .ok (.putfield 178, 3) := by decide +kernel
theorem dX8_turns_79 : decode cX8_turns 79 = .ok (.aload_n 0, 1) := by decide +kernel
theorem dX8_turns_80 : decode cX8_turns 80 = .ok (.dup, 1) := by decide +kernel
theorem dX8_turns_81 : decode cX8_turns 81 = .ok (.getfield 63, 3) := by decide +kernel
theorem dX8_turns_84 : decode cX8_turns 84 = .ok (.iload_n 1, 1) := by decide +kernel
theorem dX8_turns_85 : decode cX8_turns 85 = .ok (.iadd, 1) := by decide +kernel
theorem dX8_turns_86 : decode cX8_turns 86 = .ok (.putfield 63, 3) := by decide +kernel
theorem dX8_turns_89 : decode cX8_turns 89 = .ok (.iload_n 1, 1) := by decide +kernel
theorem dX8_turns_90 : decode cX8_turns 90 = .ok (.bipush 10, 2) := by decide +kernel
theorem dX8_turns_92 : decode cX8_turns 92 = .ok (.aload_n 0, 1) := by decide +kernel
theorem dX8_turns_93 : decode cX8_turns 93 = .ok (.getfield 108, 3) := by decide +kernel
theorem dX8_turns_96 : decode cX8_turns 96 = .ok (.invokestatic 111, 3) := by decide +kernel
theorem dX8_turns_99 : decode cX8_turns 99 = .ok (.iconst 5, 1) := by decide +kernel
theorem dX8_turns_100 : decode cX8_turns 100 = .ok (.idiv, 1) := by decide +kernel
theorem dX8_turns_101 : decode cX8_turns 101 = .ok (.isub, 1) := by decide +kernel
theorem dX8_turns_102 : decode cX8_turns 102 = .ok (.imul, 1) := by decide +kernel
theorem dX8_turns_103 : decode cX8_turns 103 = .ok (.istore_n 2, 1) := by decide +kernel
theorem dX8_turns_104 : decode cX8_turns 104 = .ok (.aload_n 0, 1) := by decide +kernel
theorem dX8_turns_105 : decode cX8_turns 105 = .ok (.getfield 59, 3) := by decide +kernel
theorem dX8_turns_108 : decode cX8_turns 108 = .ok (.bipush 6, 2) := by decide +kernel
theorem dX8_turns_110 : decode cX8_turns 110 = .ok (.dup2, 1) := by decide +kernel
theorem dX8_turns_111 : decode cX8_turns 111 = .ok (.laload, 1) := by decide +kernel
theorem dX8_turns_112 : decode cX8_turns 112 = .ok (.iload_n 2, 1) := by decide +kernel
theorem dX8_turns_113 : decode cX8_turns 113 = .ok (.i2l, 1) := by decide +kernel
theorem dX8_turns_114 : decode cX8_turns 114 = .ok (.ladd, 1) := by decide +kernel
theorem dX8_turns_115 : decode cX8_turns 115 = .ok (.lastore, 1) := by decide +kernel
theorem dX8_turns_116 : decode cX8_turns 116 = .ok (.iload_n 2, 1) := by decide +kernel
theorem dX8_turns_117 : decode cX8_turns 117 = .ok (.ireturn, 1) := by decide +kernel
theorem dX8_sells_0 : decode cX8_sells 0 = .ok (.aload_n 0, 1) := by decide +kernel
theorem dX8_sells_1 : decode cX8_sells 1 = .ok (.getfield 187, 3) := by decide +kernel
theorem dX8_sells_4 : decode cX8_sells 4 = .ok (.ifCond .eq 7, 3) := by decide +kernel
theorem dX8_sells_7 : decode cX8_sells 7 = .ok (.iconst 2, 1) := by decide +kernel
theorem dX8_sells_8 : decode cX8_sells 8 = .ok (.goto 4, 3) := by decide +kernel
theorem dX8_sells_11 : decode cX8_sells 11 = .ok (.iconst 0, 1) := by decide +kernel
theorem dX8_sells_12 : decode cX8_sells 12 = .ok (.istore_n 2, 1) := by decide +kernel
theorem dX8_sells_13 : decode cX8_sells 13 = .ok (.iload_n 2, 1) := by decide +kernel
theorem dX8_sells_14 : decode cX8_sells 14 = .ok (.iload_n 1, 1) := by decide +kernel
theorem dX8_sells_15 : decode cX8_sells 15 = .ok (.if_icmp .le 9, 3) := by decide +kernel
theorem dX8_sells_18 : decode cX8_sells 18 = .ok (.iload_n 2, 1) := by decide +kernel
theorem dX8_sells_19 : decode cX8_sells 19 = .ok (.iload_n 1, 1) := by decide +kernel
theorem dX8_sells_20 : decode cX8_sells 20 = .ok (.isub, 1) := by decide +kernel
theorem dX8_sells_21 : decode cX8_sells 21 = .ok (.goto 4, 3) := by decide +kernel
theorem dX8_sells_24 : decode cX8_sells 24 = .ok (.iconst 0, 1) := by decide +kernel
theorem dX8_sells_25 : decode cX8_sells 25 = .ok (.istore_n 3, 1) := by decide +kernel
theorem dX8_sells_26 : decode cX8_sells 26 = .ok (.iload_n 1, 1) := by decide +kernel
theorem dX8_sells_27 : decode cX8_sells 27 = .ok (.iload_n 2, 1) := by decide +kernel
theorem dX8_sells_28 : decode cX8_sells 28 = .ok (.isub, 1) := by decide +kernel
theorem dX8_sells_29 : decode cX8_sells 29 = .ok (.iload_n 3, 1) := by decide +kernel
theorem dX8_sells_30 : decode cX8_sells 30 = .ok (.iadd, 1) := by decide +kernel
theorem dX8_sells_31 : decode cX8_sells 31 = .ok (.istore 4, 2) := by decide +kernel
theorem dX8_sells_33 : decode cX8_sells 33 = .ok (.aload_n 0, 1) := by decide +kernel
theorem dX8_sells_34 : decode cX8_sells 34 = .ok (.getfield 56, 3) := by decide +kernel
theorem dX8_sells_37 : decode cX8_sells 37 = .ok (.aload_n 0, 1) := by decide +kernel
theorem dX8_sells_38 : decode cX8_sells 38 = .ok (.getfield 108, 3) := by decide +kernel
theorem dX8_sells_41 : decode cX8_sells 41 = .ok (.bipush 24, 2) := by decide +kernel
theorem dX8_sells_43 : decode cX8_sells 43 = .ok (.irem, 1) := by decide +kernel
theorem dX8_sells_44 : decode cX8_sells 44 = .ok (.iaload, 1) := by decide +kernel
theorem dX8_sells_45 : decode cX8_sells 45 = .ok (.istore 5, 2) := by decide +kernel
theorem dX8_sells_47 : decode cX8_sells 47 = .ok (.iload 4, 2) := by decide +kernel
theorem dX8_sells_49 : decode cX8_sells 49 = .ok (.iload 5, 2) := by decide +kernel
theorem dX8_sells_51 : decode cX8_sells 51 = .ok (.if_icmp .ge 8, 3) := by decide +kernel
theorem dX8_sells_54 : decode cX8_sells 54 = .ok (.iload 4, 2) := by decide +kernel
theorem dX8_sells_56 : decode cX8_sells 56 = .ok (.goto 5, 3) := by decide +kernel
theorem dX8_sells_59 : decode cX8_sells 59 = .ok (.iload 5, 2) := by decide +kernel
theorem dX8_sells_61 : decode cX8_sells 61 = .ok (.istore 6, 2) := by decide +kernel
theorem dX8_sells_63 : decode cX8_sells 63 = .ok (.aload_n 0, 1) := by decide +kernel
theorem dX8_sells_64 : decode cX8_sells 64 = .ok (.getfield 59, 3) := by decide +kernel
theorem dX8_sells_67 : decode cX8_sells 67 = .ok (.bipush 7, 2) := by decide +kernel
theorem dX8_sells_69 : decode cX8_sells 69 = .ok (.dup2, 1) := by decide +kernel
theorem dX8_sells_70 : decode cX8_sells 70 = .ok (.laload, 1) := by decide +kernel
theorem dX8_sells_71 : decode cX8_sells 71 = .ok (.iload_n 2, 1) := by decide +kernel
theorem dX8_sells_72 : decode cX8_sells 72 = .ok (.i2l, 1) := by decide +kernel
theorem dX8_sells_73 : decode cX8_sells 73 = .ok (.ladd, 1) := by decide +kernel
theorem dX8_sells_74 : decode cX8_sells 74 = .ok (.lastore, 1) := by decide +kernel
theorem dX8_sells_75 : decode cX8_sells 75 = .ok (.aload_n 0, 1) := by decide +kernel
theorem dX8_sells_76 : decode cX8_sells 76 = .ok (.getfield 59, 3) := by decide +kernel
theorem dX8_sells_79 : decode cX8_sells 79 = .ok (.bipush 8, 2) := by decide +kernel
theorem dX8_sells_81 : decode cX8_sells 81 = .ok (.dup2, 1) := by decide +kernel
theorem dX8_sells_82 : decode cX8_sells 82 = .ok (.laload, 1) := by decide +kernel
theorem dX8_sells_83 : decode cX8_sells 83 = .ok (.iload_n 3, 1) := by decide +kernel
theorem dX8_sells_84 : decode cX8_sells 84 = .ok (.i2l, 1) := by decide +kernel
theorem dX8_sells_85 : decode cX8_sells 85 = .ok (.ladd, 1) := by decide +kernel
theorem dX8_sells_86 : decode cX8_sells 86 = .ok (.lastore, 1) := by decide +kernel
theorem dX8_sells_87 : decode cX8_sells 87 = .ok (.aload_n 0, 1) := by decide +kernel
theorem dX8_sells_88 : decode cX8_sells 88 = .ok (.getfield 59, 3) := by decide +kernel
theorem dX8_sells_91 : decode cX8_sells 91 = .ok (.bipush 9, 2) := by decide +kernel
theorem dX8_sells_93 : decode cX8_sells 93 = .ok (.dup2, 1) := by decide +kernel
theorem dX8_sells_94 : decode cX8_sells 94 = .ok (.laload, 1) := by decide +kernel
theorem dX8_sells_95 : decode cX8_sells 95 = .ok (.iload 6, 2) := by decide +kernel
theorem dX8_sells_97 : decode cX8_sells 97 = .ok (.i2l, 1) := by decide +kernel
theorem dX8_sells_98 : decode cX8_sells 98 = .ok (.ladd, 1) := by decide +kernel
theorem dX8_sells_99 : decode cX8_sells 99 = .ok (.lastore, 1) := by decide +kernel
theorem dX8_sells_100 : decode cX8_sells 100 = .ok (.aload_n 0, 1) := by decide +kernel
theorem dX8_sells_101 : decode cX8_sells 101 = .ok (.getfield 59, 3) := by decide +kernel
theorem dX8_sells_104 : decode cX8_sells 104 = .ok (.bipush 10, 2) := by decide +kernel
theorem dX8_sells_106 : decode cX8_sells 106 = .ok (.dup2, 1) := by decide +kernel
theorem dX8_sells_107 : decode cX8_sells 107 = .ok (.laload, 1) := by decide +kernel
theorem dX8_sells_108 : decode cX8_sells 108 = .ok (.iload 5, 2) := by decide +kernel
theorem dX8_sells_110 : decode cX8_sells 110 = .ok (.iload 6, 2) := by decide +kernel
theorem dX8_sells_112 : decode cX8_sells 112 = .ok (.isub, 1) := by decide +kernel
theorem dX8_sells_113 : decode cX8_sells 113 = .ok (.i2l, 1) := by decide +kernel
theorem dX8_sells_114 : decode cX8_sells 114 = .ok (.ladd, 1) := by decide +kernel
theorem dX8_sells_115 : decode cX8_sells 115 = .ok (.lastore, 1) := by decide +kernel
theorem dX8_sells_116 : decode cX8_sells 116 = .ok (.aload_n 0, 1) := by decide +kernel
theorem dX8_sells_117 : decode cX8_sells 117 = .ok (.getfield 59, 3) := by decide +kernel
theorem dX8_sells_120 : decode cX8_sells 120 = .ok (.bipush 11, 2) := by decide +kernel
theorem dX8_sells_122 : decode cX8_sells 122 = .ok (.dup2, 1) := by decide +kernel
theorem dX8_sells_123 : decode cX8_sells 123 = .ok (.laload, 1) := by decide +kernel
theorem dX8_sells_124 : decode cX8_sells 124 = .ok (.iload 4, 2) := by decide +kernel
theorem dX8_sells_126 : decode cX8_sells 126 = .ok (.iload 6, 2) := by decide +kernel
theorem dX8_sells_128 : decode cX8_sells 128 = .ok (.isub, 1) := by decide +kernel
theorem dX8_sells_129 : decode cX8_sells 129 = .ok (.i2l, 1) := by decide +kernel
theorem dX8_sells_130 : decode cX8_sells 130 = .ok (.ladd, 1) := by decide +kernel
theorem dX8_sells_131 : decode cX8_sells 131 = .ok (.lastore, 1) := by decide +kernel
theorem dX8_sells_132 : decode cX8_sells 132 = .ok (.aload_n 0, 1) := by decide +kernel
theorem dX8_sells_133 : decode cX8_sells 133 = .ok (.getfield 59, 3) := by decide +kernel
theorem dX8_sells_136 : decode cX8_sells 136 = .ok (.bipush 12, 2) := by decide +kernel
theorem dX8_sells_138 : decode cX8_sells 138 = .ok (.dup2, 1) := by decide +kernel
theorem dX8_sells_139 : decode cX8_sells 139 = .ok (.laload, 1) := by decide +kernel
theorem dX8_sells_140 : decode cX8_sells 140 = .ok (.iload 4, 2) := by decide +kernel
theorem dX8_sells_142 : decode cX8_sells 142 = .ok (.iload 6, 2) := by decide +kernel
theorem dX8_sells_144 : decode cX8_sells 144 = .ok (.isub, 1) := by decide +kernel
theorem dX8_sells_145 : decode cX8_sells 145 = .ok (.i2l, 1) := by decide +kernel
theorem dX8_sells_146 : decode cX8_sells 146 = .ok (.aload_n 0, 1) := by decide +kernel
theorem dX8_sells_147 : decode cX8_sells 147 = .ok (.getfield 53, 3) := by decide +kernel
theorem dX8_sells_150 : decode cX8_sells 150 = .ok (.aload_n 0, 1) := by decide +kernel
theorem dX8_sells_151 : decode cX8_sells 151 = .ok (.getfield 108, 3) := by decide +kernel
theorem dX8_sells_154 : decode cX8_sells 154 = .ok (.bipush 24, 2) := by decide +kernel
theorem dX8_sells_156 : decode cX8_sells 156 = .ok (.irem, 1) := by decide +kernel
theorem dX8_sells_157 : decode cX8_sells 157 = .ok (.iaload, 1) := by decide +kernel
theorem dX8_sells_158 : decode cX8_sells 158 = .ok (.i2l, 1) := by decide +kernel
theorem dX8_sells_159 : decode cX8_sells 159 = .ok (.lmul, 1) := by decide +kernel
theorem dX8_sells_160 : decode cX8_sells 160 = .ok (.ladd, 1) := by decide +kernel
theorem dX8_sells_161 : decode cX8_sells 161 = .ok (.lastore, 1) := by decide +kernel
theorem dX8_sells_162 : decode cX8_sells 162 = .ok (.return_, 1) := by decide +kernel
set_option maxRecDepth 20000 in
theorem ggX8_tick_X8_shines : GoodIn wsX8_tick wsX8_shines := goodIn_r _ [13, 14, 15, 16, 17, 18, 19, 7, 20, 21, 22, 23, 24, 12, 25, 26, 27, 28, 29, 30, 6, 31, 8, 32, 33, 34, 35, 36, 1, 2, 3, 4, 5, 37, 38, 39, 40, 41, 42, 43, 44, 45, 46, 47, 48, 49, 50, 51, 52, 53, 54, 55, 56, 57, 58, 59, 60, 61, 62, 63, 64, 65, 66, 67, 68, 69, 70, 71, 72, 73, 74, 75, 76, 77, 78, 79, 80, 108, 109, 110, 111, 112, 113, 114, 115, 116, 117, 118, 119, 120, 121, 122, 123, 124, 125, 126, 127, 128, 129, 130, 131, 132, 133, 134, 135, 136, 137, 138, 139, 140, 141, 142, 143, 144, 145, 146, 147] (by decide +kernel) (by decide +kernel)
set_option maxRecDepth 20000 in
theorem gX8_tick_X8_shines : GoodIn wsX8_tick (wsV RX8 209 RX8 yX8_shines wsX8_shines) := goodIn_app (goodIn_of _ (by decide +kernel)) ggX8_tick_X8_shines
set_option maxRecDepth 20000 in
theorem ggX8_tick_X8_comes : GoodIn wsX8_tick wsX8_comes := goodIn_r _ [84, 85, 86, 87, 14, 108, 109, 110, 111, 112, 113, 114, 115, 116, 117, 118, 119, 120, 121, 122, 123, 124, 125, 126, 127, 128, 129, 130, 131, 132, 133, 134, 135, 136, 137, 138, 139, 140, 141, 142, 143, 144, 145, 146, 147] (by decide +kernel) (by decide +kernel)
set_option maxRecDepth 20000 in
theorem gX8_tick_X8_comes : GoodIn wsX8_tick (wsV RX8 212 RX8 yX8_comes wsX8_comes) := goodIn_app (goodIn_of _ (by decide +kernel)) ggX8_tick_X8_comes
set_option maxRecDepth 20000 in
theorem ggX8_tick_X8_pipes : GoodIn wsX8_tick wsX8_pipes := goodIn_r _ [91, 85, 92, 93, 94, 53, 54, 12, 55, 108, 109, 110, 111, 112, 113, 114, 115, 116, 117, 118, 119, 120, 121, 122, 123, 124, 125, 126, 127, 128, 129, 130, 131, 132, 133, 134, 135, 136, 137, 138, 139, 140, 141, 142, 143, 144, 145, 146, 147] (by decide +kernel) (by decide +kernel)
set_option maxRecDepth 20000 in
theorem gX8_tick_X8_pipes : GoodIn wsX8_tick (wsV RX8 215 RX8 yX8_pipes wsX8_pipes) := goodIn_app (goodIn_of _ (by decide +kernel)) ggX8_tick_X8_pipes
set_option maxRecDepth 20000 in
theorem ggX8_tick_X8_turns : GoodIn wsX8_tick wsX8_turns := goodIn_r _ [98, 99, 100, 87, 101, 86, 6, 14, 50, 51, 12, 52, 108, 109, 110, 111, 112, 113, 114, 115, 116, 117, 118, 119, 120, 121, 122, 123, 124, 125, 126, 127, 128, 129, 130, 131, 132, 133, 134, 135, 136, 137, 138, 139, 140, 141, 142, 143, 144, 145, 146, 147] (by decide +kernel) (by decide +kernel)
set_option maxRecDepth 20000 in
theorem gX8_tick_X8_turns : GoodIn wsX8_tick (wsV RX8 218 RX8 yX8_turns wsX8_turns) := goodIn_app (goodIn_of _ (by decide +kernel)) ggX8_tick_X8_turns
set_option maxRecDepth 20000 in
theorem ggX8_tick_X8_sells : GoodIn wsX8_tick wsX8_sells := goodIn_r _ [105, 92, 106, 6, 14, 107, 108, 109, 110, 111, 112, 113, 114, 115, 116, 117, 118, 119, 120, 121, 122, 123, 124, 125, 126, 127, 128, 129, 130, 131, 132, 133, 134, 135, 136, 137, 138, 139, 140, 141, 142, 143, 144, 145, 146, 147] (by decide +kernel) (by decide +kernel)
set_option maxRecDepth 20000 in
theorem gX8_tick_X8_sells : GoodIn wsX8_tick (wsV RX8 221 RX8 yX8_sells wsX8_sells) := goodIn_app (goodIn_of _ (by decide +kernel)) ggX8_tick_X8_sells
set_option maxRecDepth 20000 in
theorem ggX8_tick_X8_held : GoodIn wsX8_tick wsX8_held := goodIn_r _ [55] (by decide +kernel) (by decide +kernel)
set_option maxRecDepth 20000 in
theorem gX8_tick_X8_held : GoodIn wsX8_tick (va_wsS RX8 100 yX8_held wsX8_held) := goodIn_app (goodIn_of _ (by decide +kernel)) ggX8_tick_X8_held
theorem dX8_tick_0 : decode cX8_tick 0 = .ok (.aload_n 0, 1) := by decide +kernel
theorem dX8_tick_1 : decode cX8_tick 1 = .ok (.aload_n 0, 1) := by decide +kernel
theorem dX8_tick_2 : decode cX8_tick 2 = .ok (.aload_n 0, 1) := by decide +kernel
theorem dX8_tick_3 : decode cX8_tick 3 = .ok (.invokevirtual 209, 3) := by decide +kernel
theorem dX8_tick_6 : decode cX8_tick 6 = .ok (.invokevirtual 212, 3) := by decide +kernel
theorem dX8_tick_9 : decode cX8_tick 9 = .ok (.invokevirtual 215, 3) := by decide +kernel
theorem dX8_tick_12 : decode cX8_tick 12 = .ok (.aload_n 0, 1) := by decide +kernel
theorem dX8_tick_13 : decode cX8_tick 13 = .ok (.aload_n 0, 1) := by decide +kernel
theorem dX8_tick_14 : decode cX8_tick 14 = .ok (.invokevirtual 218, 3) := by decide +kernel
theorem dX8_tick_17 : decode cX8_tick 17 = .ok (.invokevirtual 221, 3) := by decide +kernel
theorem dX8_tick_20 : decode cX8_tick 20 = .ok (.iconst 0, 1) := by decide +kernel
theorem dX8_tick_21 : decode cX8_tick 21 = .ok (.istore_n 1, 1) := by decide +kernel
theorem dX8_tick_22 : decode cX8_tick 22 = .ok (.iload_n 1, 1) := by decide +kernel
theorem dX8_tick_23 : decode cX8_tick 23 = .ok (.aload_n 0, 1) := by decide +kernel
theorem dX8_tick_24 : decode cX8_tick 24 = .ok (.getfield 117, 3) := by decide +kernel
theorem dX8_tick_27 : decode cX8_tick 27 = .ok (.if_icmp .ge 39, 3) := by decide +kernel
theorem dX8_tick_30 : decode cX8_tick 30 = .ok (.aload_n 0, 1) := by decide +kernel
theorem dX8_tick_31 : decode cX8_tick 31 = .ok (.getfield 29, 3) := by decide +kernel
theorem dX8_tick_34 : decode cX8_tick 34 = .ok (.iload_n 1, 1) := by decide +kernel
theorem dX8_tick_35 : decode cX8_tick 35 = .ok (.dup2, 1) := by decide +kernel
theorem dX8_tick_36 : decode cX8_tick 36 = .ok (.iaload, 1) := by decide +kernel
theorem dX8_tick_37 : decode cX8_tick 37 = .ok (.aload_n 0, 1) := by decide +kernel
theorem dX8_tick_38 : decode cX8_tick 38 = .ok (.getfield 41, 3) := by decide +kernel
theorem dX8_tick_41 : decode cX8_tick 41 = .ok (.iload_n 1, 1) := by decide +kernel
theorem dX8_tick_42 : decode cX8_tick 42 = .ok (.iaload, 1) := by decide +kernel
theorem dX8_tick_43 : decode cX8_tick 43 = .ok (.iadd, 1) := by decide +kernel
theorem dX8_tick_44 : decode cX8_tick 44 = .ok (.iastore, 1) := by decide +kernel
theorem dX8_tick_45 : decode cX8_tick 45 = .ok (.aload_n 0, 1) := by decide +kernel
theorem dX8_tick_46 : decode cX8_tick 46 = .ok (.getfield 32, 3) := by decide +kernel
theorem dX8_tick_49 : decode cX8_tick 49 = .ok (.iload_n 1, 1) := by decide +kernel
theorem dX8_tick_50 : decode cX8_tick 50 = .ok (.dup2, 1) := by decide +kernel
theorem dX8_tick_51 : decode cX8_tick 51 = .ok (.iaload, 1) := by decide +kernel
theorem dX8_tick_52 : decode cX8_tick 52 = .ok (.aload_n 0, 1) := by decide +kernel
theorem dX8_tick_53 : decode cX8_tick 53 = .ok (.getfield 44, 3) := by decide +kernel
theorem dX8_tick_56 : decode cX8_tick 56 = .ok (.iload_n 1, 1) := by decide +kernel
theorem dX8_tick_57 : decode cX8_tick 57 = .ok (.iaload, 1) := by decide +kernel
theorem dX8_tick_58 : decode cX8_tick 58 = .ok (.iadd, 1) := by decide +kernel
theorem dX8_tick_59 : decode cX8_tick 59 = .ok (.iastore, 1) := by decide +kernel
theorem dX8_tick_60 : decode cX8_tick 60 = .ok (.iinc 1 1, 3) := by decide +kernel
theorem dX8_tick_63 : decode cX8_tick 63 = .ok (.goto (-41), 3) := by decide +kernel
theorem dX8_tick_66 : decode cX8_tick 66 = .ok (.aload_n 0, 1) := by decide +kernel
theorem dX8_tick_67 : decode cX8_tick 67 = .ok (.dup, 1) := by decide +kernel
theorem dX8_tick_68 : decode cX8_tick 68 = .ok (.getfield 108, 3) := by decide +kernel
theorem dX8_tick_71 : decode cX8_tick 71 = .ok (.iconst 1, 1) := by decide +kernel
theorem dX8_tick_72 : decode cX8_tick 72 = .ok (.iadd, 1) := by decide +kernel
theorem dX8_tick_73 : decode cX8_tick 73 = .ok (.putfield 108, 3) := by decide +kernel
theorem dX8_tick_76 : decode cX8_tick 76 = .ok (.iconst 0, 1) := by decide +kernel
theorem dX8_tick_77 : decode cX8_tick 77 = .ok (.istore_n 1, 1) := by decide +kernel
theorem dX8_tick_78 : decode cX8_tick 78 = .ok (.iload_n 1, 1) := by decide +kernel
theorem dX8_tick_79 : decode cX8_tick 79 = .ok (.aload_n 0, 1) := by decide +kernel
theorem dX8_tick_80 : decode cX8_tick 80 = .ok (.getfield 82, 3) := by decide +kernel
theorem dX8_tick_83 : decode cX8_tick 83 = .ok (.if_icmp .ge 39, 3) := by decide +kernel
theorem dX8_tick_86 : decode cX8_tick 86 = .ok (.aload_n 0, 1) := by decide +kernel
theorem dX8_tick_87 : decode cX8_tick 87 = .ok (.getfield 108, 3) := by decide +kernel
theorem dX8_tick_90 : decode cX8_tick 90 = .ok (.bipush 24, 2) := by decide +kernel
theorem dX8_tick_92 : decode cX8_tick 92 = .ok (.irem, 1) := by decide +kernel
theorem dX8_tick_93 : decode cX8_tick 93 = .ok (.ifCond .ne 29, 3) := by decide +kernel
theorem dX8_tick_96 : decode cX8_tick 96 = .ok (.aload_n 0, 1) := by decide +kernel
theorem dX8_tick_97 : decode cX8_tick 97 = .ok (.getfield 13, 3) := by decide +kernel
