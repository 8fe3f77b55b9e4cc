theorem dX7_price_23 : decode cX7_price 23 = .ok (.iload_n 2, 1) := by decide +kernel
theorem dX7_price_24 : decode cX7_price 24 = .ok (.iastore, 1) := by decide +kernel
theorem dX7_price_25 : decode cX7_price 25 = .ok (.iload_n 3, 1) := by decide +kernel
theorem dX7_price_26 : decode cX7_price 26 = .ok (.ireturn, 1) := by decide +kernel
set_option maxRecDepth 20000 in
theorem ggX7_firm_X7_needHour : GoodIn wsX7_firm wsX7_needHour := goodIn_ca (goodIn_r _ [5, 6, 7] (by decide +kernel) (by decide +kernel)) (goodIn_sub (fun _ h => List.mem_cons_of_mem _ (List.mem_append_left _ (List.mem_append_right _ h))) (by decide +kernel))
set_option maxRecDepth 20000 in
theorem gX7_firm_X7_needHour : GoodIn wsX7_firm (va_wsS RX7 288 yX7_needHour wsX7_needHour) := goodIn_app (goodIn_of _ (by decide +kernel)) ggX7_firm_X7_needHour
set_option maxRecDepth 20000 in
theorem ggX7_firm_X7_needWithin : GoodIn wsX7_firm wsX7_needWithin := goodIn_ca (goodIn_r _ [10, 11, 12] (by decide +kernel) (by decide +kernel)) (goodIn_sub (fun _ h => List.mem_cons_of_mem _ (List.mem_append_right _ h)) (by decide +kernel))
set_option maxRecDepth 20000 in
theorem gX7_firm_X7_needWithin : GoodIn wsX7_firm (va_wsS RX7 101 yX7_needWithin wsX7_needWithin) := goodIn_app (goodIn_of _ (by decide +kernel)) ggX7_firm_X7_needWithin
theorem dX7_firm_0 : decode cX7_firm 0 = .ok (.iload_n 1, 1) := by decide +kernel
theorem dX7_firm_1 : decode cX7_firm 1 = .ok (.invokestatic 288, 3) := by decide +kernel
theorem dX7_firm_4 : decode cX7_firm 4 = .ok (.iload_n 2, 1) := by decide +kernel
theorem dX7_firm_5 : decode cX7_firm 5 = .ok (.iconst 0, 1) := by decide +kernel
theorem dX7_firm_6 : decode cX7_firm 6 = .ok (.sipush 200, 3) := by decide +kernel
theorem dX7_firm_9 : decode cX7_firm 9 = .ok (.invokestatic 101, 3) := by decide +kernel
theorem dX7_firm_12 : decode cX7_firm 12 = .ok (.aload_n 0, 1) := by decide +kernel
theorem dX7_firm_13 : decode cX7_firm 13 = .ok (.getfield 58, 3) := by decide +kernel
theorem dX7_firm_16 : decode cX7_firm 16 = .ok (.iload_n 1, 1) := by decide +kernel
theorem dX7_firm_17 : decode cX7_firm 17 = .ok (.iaload, 1) := by decide +kernel
theorem dX7_firm_18 : decode cX7_firm 18 = .ok (.istore_n 3, 1) := by decide +kernel
theorem dX7_firm_19 : decode cX7_firm 19 = .ok (.aload_n 0, 1) := by decide +kernel
theorem dX7_firm_20 : decode cX7_firm 20 = .ok (.getfield 58, 3) := by decide +kernel
theorem dX7_firm_23 : decode cX7_firm 23 = .ok (.iload_n 1, 1) := by decide +kernel
theorem dX7_firm_24 : decode cX7_firm 24 = .ok (.iload_n 2, 1) := by decide +kernel
theorem dX7_firm_25 : decode cX7_firm 25 = .ok (.iastore, 1) := by decide +kernel
theorem dX7_firm_26 : decode cX7_firm 26 = .ok (.iload_n 3, 1) := by decide +kernel
theorem dX7_firm_27 : decode cX7_firm 27 = .ok (.ireturn, 1) := by decide +kernel
set_option maxRecDepth 20000 in
theorem ggX7_pass_X7_needWithin : GoodIn wsX7_pass wsX7_needWithin := goodIn_ca (goodIn_r _ [8, 9, 10] (by decide +kernel) (by decide +kernel)) (goodIn_sub (fun _ h => List.mem_cons_of_mem _ (List.mem_append_right _ h)) (by decide +kernel))
set_option maxRecDepth 20000 in
theorem gX7_pass_X7_needWithin : GoodIn wsX7_pass (va_wsS RX7 101 yX7_needWithin wsX7_needWithin) := goodIn_app (goodIn_of _ (by decide +kernel)) ggX7_pass_X7_needWithin
set_option maxRecDepth 20000 in
theorem ggX7_pass_X7_takeTick : GoodIn wsX7_pass wsX7_takeTick := goodIn_r _ [14, 3, 15, 16, 17, 18, 19, 20, 21, 22, 23, 24, 25, 26, 27, 28, 29, 30, 31, 32, 33, 34, 35, 36, 37, 38, 39, 40, 41, 42, 43, 44, 45, 46, 47, 48, 49, 50, 51, 52, 53, 54, 55, 7, 56, 57, 58, 59, 60, 61, 62, 63, 64, 65, 66, 67, 68, 69, 70, 71, 72, 73, 74, 75, 76, 77, 78, 79, 80, 81, 82, 83, 84, 85, 86, 87, 88, 89, 90, 91, 92, 93, 94, 95, 96, 97, 98, 99, 100, 101, 102, 103, 104, 105, 106, 107, 108, 109, 110, 111, 112, 113, 114, 115, 116, 117, 118, 119, 120, 121, 122, 123, 124, 125, 126, 127, 128, 129, 130, 131, 132, 133, 134, 135, 136, 137, 138, 139, 140, 141, 142, 143, 144, 145, 146, 147, 148, 149, 150, 151, 152, 153, 154, 155, 156, 157, 158, 159, 160, 161, 162, 163, 164, 165, 166, 167, 168, 169, 170, 171, 172, 173, 174, 175, 176, 177, 178, 179, 180, 181, 182, 183, 184, 185, 186, 187, 188, 189, 190, 191, 192, 193, 194, 195, 196, 197, 198, 199, 200, 201, 202, 203, 204, 205, 206, 207, 208, 209, 210, 211, 212, 213, 214, 215, 216, 217, 218, 219, 220, 221, 222, 223, 224, 225, 226, 227, 228, 229, 230, 231, 232, 233, 234, 235, 236, 237, 238, 239, 240, 241, 242, 243, 244, 245, 246, 247, 248, 249, 250, 251, 252, 253, 254, 255, 256, 257, 258, 259, 260, 261, 262, 263, 264, 265, 266, 267, 268, 269, 270, 271, 272, 273, 274, 275, 276, 277, 278, 279, 280, 281, 282] (by decide +kernel) (by decide +kernel)
set_option maxRecDepth 20000 in
theorem gX7_pass_X7_takeTick : GoodIn wsX7_pass (wsV RX7 296 RX7 yX7_takeTick wsX7_takeTick) := goodIn_app (goodIn_of _ (by decide +kernel)) ggX7_pass_X7_takeTick
theorem dX7_pass_0 : decode cX7_pass 0 = .ok (.iload_n 1, 1) := by decide +kernel
theorem dX7_pass_1 : decode cX7_pass 1 = .ok (.iconst 1, 1) := by decide +kernel
theorem dX7_pass_2 : decode cX7_pass 2 = .ok (.bipush 48, 2) := by decide +kernel
theorem dX7_pass_4 : decode cX7_pass 4 = .ok (.invokestatic 101, 3) := by decide +kernel
theorem dX7_pass_7 : decode cX7_pass 7 = .ok (.aload_n 0, 1) := by decide +kernel
theorem dX7_pass_8 : decode cX7_pass 8 = .ok (.getfield 10, 3) := by decide +kernel
theorem dX7_pass_11 : decode cX7_pass 11 = .ok (.getfield 291, 3) := by decide +kernel
theorem dX7_pass_14 : decode cX7_pass 14 = .ok (.iload_n 1, 1) := by decide +kernel
theorem dX7_pass_15 : decode cX7_pass 15 = .ok (.iadd, 1) := by decide +kernel
theorem dX7_pass_16 : decode cX7_pass 16 = .ok (.sipush 9999, 3) := by decide +kernel
theorem dX7_pass_19 : decode cX7_pass 19 = .ok (.if_icmp .le 14, 3) := by decide +kernel
theorem dX7_pass_22 : decode cX7_pass 22 = .ok (.new 76, 3) := by decide +kernel
theorem dX7_pass_25 : decode cX7_pass 25 = .ok (.dup, 1) := by decide +kernel
theorem dX7_pass_26 : decode cX7_pass 26 = .ok (.ldc_w 294, 3) := by decide +kernel
theorem dX7_pass_29 : decode cX7_pass 29 = .ok (.invokespecial 80, 3) := by decide +kernel
theorem dX7_pass_32 : decode cX7_pass 32 = .ok (.athrow, 1) := by decide +kernel
theorem dX7_pass_33 : decode cX7_pass 33 = .ok (.iconst 0, 1) := by decide +kernel
theorem dX7_pass_34 : decode cX7_pass 34 = .ok (.istore_n 2, 1) := by decide +kernel
theorem dX7_pass_35 : decode cX7_pass 35 = .ok (.iload_n 2, 1) := by decide +kernel
theorem dX7_pass_36 : decode cX7_pass 36 = .ok (.iload_n 1, 1) := by decide +kernel
theorem dX7_pass_37 : decode cX7_pass 37 = .ok (.if_icmp .ge 13, 3) := by decide +kernel
theorem dX7_pass_40 : decode cX7_pass 40 = .ok (.aload_n 0, 1) := by decide +kernel
theorem dX7_pass_41 : decode cX7_pass 41 = .ok (.invokevirtual 296, 3) := by decide +kernel
theorem dX7_pass_44 : decode cX7_pass 44 = .ok (.iinc 2 1, 3) := by decide +kernel
theorem dX7_pass_47 : decode cX7_pass 47 = .ok (.goto (-12), 3) := by decide +kernel
theorem dX7_pass_50 : decode cX7_pass 50 = .ok (.aload_n 0, 1) := by decide +kernel
theorem dX7_pass_51 : decode cX7_pass 51 = .ok (.getfield 10, 3) := by decide +kernel
theorem dX7_pass_54 : decode cX7_pass 54 = .ok (.getfield 291, 3) := by decide +kernel
theorem dX7_pass_57 : decode cX7_pass 57 = .ok (.ireturn, 1) := by decide +kernel
set_option maxRecDepth 20000 in
theorem ggX7_plantIs_X2_strengthBehind : GoodIn wsX7_plantIs wsX2_strengthBehind := goodIn_r _ [20, 21, 22, 23, 19, 24, 25, 40, 41, 42, 43, 44] (by decide +kernel) (by decide +kernel)
set_option maxRecDepth 20000 in
theorem gX7_plantIs_X2_strengthBehind : GoodIn wsX7_plantIs (wsV RX7 140 RX2 yX2_strengthBehind wsX2_strengthBehind) := goodIn_app (goodIn_of _ (by decide +kernel)) ggX7_plantIs_X2_strengthBehind
theorem dX7_plantIs_0 : decode cX7_plantIs 0 = .ok (.iload_n 1, 1) := by decide +kernel
theorem dX7_plantIs_1 : decode cX7_plantIs 1 = .ok (.tableswitch 144 0 10 #[59, 67, 76, 81, 86, 94, 102, 118, 126, 134, 139], 59) := by decide +kernel
theorem dX7_plantIs_60 : decode cX7_plantIs 60 = .ok (.aload_n 0, 1) := by decide +kernel
theorem dX7_plantIs_61 : decode cX7_plantIs 61 = .ok (.getfield 10, 3) := by decide +kernel
theorem dX7_plantIs_64 : decode cX7_plantIs 64 = .ok (.getfield 291, 3) := by decide +kernel
theorem dX7_plantIs_67 : decode cX7_plantIs 67 = .ok (.ireturn, 1) := by decide +kernel
theorem dX7_plantIs_68 : decode cX7_plantIs 68 = .ok (.aload_n 0, 1) := by decide +kernel
theorem dX7_plantIs_69 : decode cX7_plantIs 69 = .ok (.getfield 10, 3) := by decide +kernel
theorem dX7_plantIs_72 : decode cX7_plantIs 72 = .ok (.iconst 0, 1) := by decide +kernel
theorem dX7_plantIs_73 : decode cX7_plantIs 73 = .ok (.invokevirtual 140, 3) := by decide +kernel
theorem dX7_plantIs_76 : decode cX7_plantIs 76 = .ok (.ireturn, 1) := by decide +kernel
theorem dX7_plantIs_77 : decode cX7_plantIs 77 = .ok (.aload_n 0, 1) := by decide +kernel
theorem dX7_plantIs_78 : decode cX7_plantIs 78 = .ok (.getfield 37, 3) := by decide +kernel
theorem dX7_plantIs_81 : decode cX7_plantIs 81 = .ok (.ireturn, 1) := by decide +kernel
theorem dX7_plantIs_82 : decode cX7_plantIs 82 = .ok (.aload_n 0, 1) := by decide +kernel
theorem dX7_plantIs_83 : decode cX7_plantIs 83 = .ok (.getfield 250, 3) := by decide +kernel
theorem dX7_plantIs_86 : decode cX7_plantIs 86 = .ok (.ireturn, 1) := by decide +kernel
theorem dX7_plantIs_87 : decode cX7_plantIs 87 = .ok (.aload_n 0, 1) := by decide +kernel
theorem dX7_plantIs_88 : decode cX7_plantIs 88 = .ok (.getfield 44, 3) := by decide +kernel
theorem dX7_plantIs_91 : decode cX7_plantIs 91 = .ok (.getfield 268, 3) := by decide +kernel
theorem dX7_plantIs_94 : decode cX7_plantIs 94 = .ok (.ireturn, 1) := by decide +kernel
theorem dX7_plantIs_95 : decode cX7_plantIs 95 = .ok (.aload_n 0, 1) := by decide +kernel
theorem dX7_plantIs_96 : decode cX7_plantIs 96 = .ok (.getfield 44, 3) := by decide +kernel
theorem dX7_plantIs_99 : decode cX7_plantIs 99 = .ok (.getfield 255, 3) := by decide +kernel
theorem dX7_plantIs_102 : decode cX7_plantIs 102 = .ok (.ireturn, 1) := by decide +kernel
theorem dX7_plantIs_103 : decode cX7_plantIs 103 = .ok (.aload_n 0, 1) := by decide +kernel
theorem dX7_plantIs_104 : decode cX7_plantIs 104 = .ok (.getfield 44, 3) := by decide +kernel
theorem dX7_plantIs_107 : decode cX7_plantIs 107 = .ok (.getfield 271, 3) := by decide +kernel
theorem dX7_plantIs_110 : decode cX7_plantIs 110 = .ok (.ifCond .eq 7, 3) := by decide +kernel
theorem dX7_plantIs_113 : decode cX7_plantIs 113 = .ok (.iconst 1, 1) := by decide +kernel
theorem dX7_plantIs_114 : decode cX7_plantIs 114 = .ok (.goto 4, 3) := by decide +kernel
theorem dX7_plantIs_117 : decode cX7_plantIs 117 = .ok (.iconst 0, 1) := by decide +kernel
theorem dX7_plantIs_118 : decode cX7_plantIs 118 = .ok (.ireturn, 1) := by decide +kernel
theorem dX7_plantIs_119 : decode cX7_plantIs 119 = .ok (.aload_n 0, 1) := by decide +kernel
theorem dX7_plantIs_120 : decode cX7_plantIs 120 = .ok (.getfield 51, 3) := by decide +kernel
theorem dX7_plantIs_123 : decode cX7_plantIs 123 = .ok (.getfield 277, 3) := by decide +kernel
theorem dX7_plantIs_126 : decode cX7_plantIs 126 = .ok (.ireturn, 1) := by decide +kernel
theorem dX7_plantIs_127 : decode cX7_plantIs 127 = .ok (.aload_n 0, 1) := by decide +kernel
theorem dX7_plantIs_128 : decode cX7_plantIs 128 = .ok (.getfield 51, 3) := by decide +kernel
theorem dX7_plantIs_131 : decode cX7_plantIs 131 = .ok (.getfield 274, 3) := by decide +kernel
theorem dX7_plantIs_134 : decode cX7_plantIs 134 = .ok (.ireturn, 1) := by decide +kernel
theorem dX7_plantIs_135 : decode cX7_plantIs 135 = .ok (.aload_n 0, 1) := by decide +kernel
theorem dX7_plantIs_136 : decode cX7_plantIs 136 = .ok (.getfield 145, 3) := by decide +kernel
theorem dX7_plantIs_139 : decode cX7_plantIs 139 = .ok (.ireturn, 1) := by decide +kernel
theorem dX7_plantIs_140 : decode cX7_plantIs 140 = .ok (.aload_n 0, 1) := by decide +kernel
theorem dX7_plantIs_141 : decode cX7_plantIs 141 = .ok (.getfield 299, 3) := by decide +kernel
theorem dX7_plantIs_144 : decode cX7_plantIs 144 = .ok (.ireturn, 1) := by decide +kernel
theorem dX7_plantIs_145 : decode cX7_plantIs 145 = .ok (.new 166, 3) := by decide +kernel
theorem dX7_plantIs_148 : decode cX7_plantIs 148 = .ok (.dup, 1) := by decide +kernel
theorem dX7_plantIs_149 : decode cX7_plantIs 149 = .ok (.ldc 168, 2) := by decide +kernel
theorem dX7_plantIs_151 : decode cX7_plantIs 151 = .ok (.invokespecial 170, 3) := by decide +kernel
theorem dX7_plantIs_154 : decode cX7_plantIs 154 = .ok (.athrow, 1) := by decide +kernel
set_option maxRecDepth 20000 in
theorem ggX7_sum_X7_needWithin : GoodIn wsX7_sum wsX7_needWithin := goodIn_ca (goodIn_r _ [5, 6, 7] (by decide +kernel) (by decide +kernel)) (goodIn_sub (fun _ h => List.mem_cons_of_mem _ (List.mem_append_right _ h)) (by decide +kernel))
set_option maxRecDepth 20000 in
theorem gX7_sum_X7_needWithin : GoodIn wsX7_sum (va_wsS RX7 101 yX7_needWithin wsX7_needWithin) := goodIn_app (goodIn_of _ (by decide +kernel)) ggX7_sum_X7_needWithin
theorem dX7_sum_0 : decode cX7_sum 0 = .ok (.iload_n 1, 1) := by decide +kernel
theorem dX7_sum_1 : decode cX7_sum 1 = .ok (.iconst 0, 1) := by decide +kernel
theorem dX7_sum_2 : decode cX7_sum 2 = .ok (.bipush 12, 2) := by decide +kernel
theorem dX7_sum_4 : decode cX7_sum 4 = .ok (.invokestatic 101, 3) := by decide +kernel
theorem dX7_sum_7 : decode cX7_sum 7 = .ok (.aload_n 0, 1) := by decide +kernel
theorem dX7_sum_8 : decode cX7_sum 8 = .ok (.getfield 61, 3) := by decide +kernel
theorem dX7_sum_11 : decode cX7_sum 11 = .ok (.iload_n 1, 1) := by decide +kernel
theorem dX7_sum_12 : decode cX7_sum 12 = .ok (.laload, 1) := by decide +kernel
theorem dX7_sum_13 : decode cX7_sum 13 = .ok (.lreturn, 1) := by decide +kernel
theorem dX7_kept_0 : decode cX7_kept 0 = .ok (.aload_n 0, 1) := by decide +kernel
theorem dX7_kept_1 : decode cX7_kept 1 = .ok (.getfield 61, 3) := by decide +kernel
theorem dX7_kept_4 : decode cX7_kept 4 = .ok (.iconst 3, 1) := by decide +kernel
theorem dX7_kept_5 : decode cX7_kept 5 = .ok (.laload, 1) := by decide +kernel
theorem dX7_kept_6 : decode cX7_kept 6 = .ok (.lconst 0, 1) := by decide +kernel
theorem dX7_kept_7 : decode cX7_kept 7 = .ok (.lcmp, 1) := by decide +kernel
theorem dX7_kept_8 : decode cX7_kept 8 = .ok (.ifCond .ne 5, 3) := by decide +kernel
theorem dX7_kept_11 : decode cX7_kept 11 = .ok (.fconst 0, 1) := by decide +kernel
theorem dX7_kept_12 : decode cX7_kept 12 = .ok (.freturn, 1) := by decide +kernel
theorem dX7_kept_13 : decode cX7_kept 13 = .ok (.aload_n 0, 1) := by decide +kernel
theorem dX7_kept_14 : decode cX7_kept 14 = .ok (.getfield 61, 3) := by decide +kernel
theorem dX7_kept_17 : decode cX7_kept 17 = .ok (.iconst 3, 1) := by decide +kernel
theorem dX7_kept_18 : decode cX7_kept 18 = .ok (.laload, 1) := by decide +kernel
theorem dX7_kept_19 : decode cX7_kept 19 = .ok (.aload_n 0, 1) := by decide +kernel
theorem dX7_kept_20 : decode cX7_kept 20 = .ok (.getfield 61, 3) := by decide +kernel
theorem dX7_kept_23 : decode cX7_kept 23 = .ok (.iconst 4, 1) := by decide +kernel
theorem dX7_kept_24 : decode cX7_kept 24 = .ok (.laload, 1) := by decide +kernel
theorem dX7_kept_25 : decode cX7_kept 25 = .ok (.lsub, 1) := by decide +kernel
theorem dX7_kept_26 : decode cX7_kept 26 = .ok (.l2f, 1) := by decide +kernel
theorem dX7_kept_27 : decode cX7_kept 27 = .ok (.aload_n 0, 1) := by decide +kernel
theorem dX7_kept_28 : decode cX7_kept 28 = .ok (.getfield 61, 3) := by decide +kernel
theorem dX7_kept_31 : decode cX7_kept 31 = .ok (.iconst 3, 1) := by decide +kernel
theorem dX7_kept_32 : decode cX7_kept 32 = .ok (.laload, 1) := by decide +kernel
theorem dX7_kept_33 : decode cX7_kept 33 = .ok (.l2f, 1) := by decide +kernel
theorem dX7_kept_34 : decode cX7_kept 34 = .ok (.fdiv, 1) := by decide +kernel
theorem dX7_kept_35 : decode cX7_kept 35 = .ok (.freturn, 1) := by decide +kernel
set_option maxRecDepth 20000 in
theorem ggX7_theMirror_Jx4a65c_size_8abf5 : GoodIn wsX7_theMirror wsJx4a65c_size_8abf5 := goodIn_r _ [10, 11, 48, 49, 50] (by decide +kernel) (by decide +kernel)
set_option maxRecDepth 20000 in
theorem gX7_theMirror_Jx4a65c_size_8abf5 : GoodIn wsX7_theMirror (wsV RX7 85 RJx4a65c yJx4a65c_size_8abf5 wsJx4a65c_size_8abf5) := goodIn_app (goodIn_of _ (by decide +kernel)) ggX7_theMirror_Jx4a65c_size_8abf5
set_option maxRecDepth 20000 in
theorem ggX7_theMirror_Jx4a65c_get_915e3 : GoodIn wsX7_theMirror wsJx4a65c_get_915e3 := goodIn_r _ [15, 11, 16, 17, 18, 19, 20, 21, 22, 23, 24, 25, 26, 9, 27, 28, 48, 49, 50] (by decide +kernel) (by decide +kernel)
set_option maxRecDepth 20000 in
theorem gX7_theMirror_Jx4a65c_get_915e3 : GoodIn wsX7_theMirror (wsV RX7 202 RJx4a65c yJx4a65c_get_915e3 wsJx4a65c_get_915e3) := goodIn_app (goodIn_of _ (by decide +kernel)) ggX7_theMirror_Jx4a65c_get_915e3
theorem dX7_theMirror_0 : decode cX7_theMirror 0 = .ok (.iload_n 1, 1) := by decide +kernel
theorem dX7_theMirror_1 : decode cX7_theMirror 1 = .ok (.ifCond .lt 17, 3) := by decide +kernel
theorem dX7_theMirror_4 : decode cX7_theMirror 4 = .ok (.iload_n 1, 1) := by decide +kernel
theorem dX7_theMirror_5 : decode cX7_theMirror 5 = .ok (.aload_n 0, 1) := by decide +kernel
theorem dX7_theMirror_6 : decode cX7_theMirror 6 = .ok (.getfield 10, 3) := by decide +kernel
theorem dX7_theMirror_9 : decode cX7_theMirror 9 = .ok (.getfield 81, 3) := by decide +kernel
theorem dX7_theMirror_12 : decode cX7_theMirror 12 = .ok (.invokevirtual 85, 3) := by decide +kernel
theorem dX7_theMirror_15 : decode cX7_theMirror 15 = .ok (.if_icmp .lt 14, 3) := by decide +kernel
theorem dX7_theMirror_18 : decode cX7_theMirror 18 = .ok (.new 65, 3) := by decide +kernel
theorem dX7_theMirror_21 : decode cX7_theMirror 21 = .ok (.dup, 1) := by decide +kernel
theorem dX7_theMirror_22 : decode cX7_theMirror 22 = .ok (.ldc_w 302, 3) := by decide +kernel
theorem dX7_theMirror_25 : decode cX7_theMirror 25 = .ok (.invokespecial 69, 3) := by decide +kernel
theorem dX7_theMirror_28 : decode cX7_theMirror 28 = .ok (.athrow, 1) := by decide +kernel
theorem dX7_theMirror_29 : decode cX7_theMirror 29 = .ok (.aload_n 0, 1) := by decide +kernel
theorem dX7_theMirror_30 : decode cX7_theMirror 30 = .ok (.getfield 10, 3) := by decide +kernel
theorem dX7_theMirror_33 : decode cX7_theMirror 33 = .ok (.getfield 81, 3) := by decide +kernel
theorem dX7_theMirror_36 : decode cX7_theMirror 36 = .ok (.iload_n 1, 1) := by decide +kernel
theorem dX7_theMirror_37 : decode cX7_theMirror 37 = .ok (.invokevirtual 202, 3) := by decide +kernel
theorem dX7_theMirror_40 : decode cX7_theMirror 40 = .ok (.checkcast 106, 3) := by decide +kernel
theorem dX7_theMirror_43 : decode cX7_theMirror 43 = .ok (.areturn, 1) := by decide +kernel
theorem dX7_needPanel_0 : decode cX7_needPanel 0 = .ok (.iload_n 0, 1) := by decide +kernel
theorem dX7_needPanel_1 : decode cX7_needPanel 1 = .ok (.ifCond .lt 9, 3) := by decide +kernel
theorem dX7_needPanel_4 : decode cX7_needPanel 4 = .ok (.iload_n 0, 1) := by decide +kernel
theorem dX7_needPanel_5 : decode cX7_needPanel 5 = .ok (.bipush 6, 2) := by decide +kernel
theorem dX7_needPanel_7 : decode cX7_needPanel 7 = .ok (.if_icmp .lt 14, 3) := by decide +kernel
theorem dX7_needPanel_10 : decode cX7_needPanel 10 = .ok (.new 65, 3) := by decide +kernel
theorem dX7_needPanel_13 : decode cX7_needPanel 13 = .ok (.dup, 1) := by decide +kernel
theorem dX7_needPanel_14 : decode cX7_needPanel 14 = .ok (.ldc_w 304, 3) := by decide +kernel
theorem dX7_needPanel_17 : decode cX7_needPanel 17 = .ok (.invokespecial 69, 3) := by decide +kernel
theorem dX7_needPanel_20 : decode cX7_needPanel 20 = .ok (.athrow, 1) := by decide +kernel
theorem dX7_needPanel_21 : decode cX7_needPanel 21 = .ok (.return_, 1) := by decide +kernel
theorem dX7_needHour_0 : decode cX7_needHour 0 = .ok (.iload_n 0, 1) := by decide +kernel
theorem dX7_needHour_1 : decode cX7_needHour 1 = .ok (.ifCond .lt 9, 3) := by decide +kernel
theorem dX7_needHour_4 : decode cX7_needHour 4 = .ok (.iload_n 0, 1) := by decide +kernel
theorem dX7_needHour_5 : decode cX7_needHour 5 = .ok (.bipush 24, 2) := by decide +kernel
theorem dX7_needHour_7 : decode cX7_needHour 7 = .ok (.if_icmp .lt 14, 3) := by decide +kernel
theorem dX7_needHour_10 : decode cX7_needHour 10 = .ok (.new 65, 3) := by decide +kernel
theorem dX7_needHour_13 : decode cX7_needHour 13 = .ok (.dup, 1) := by decide +kernel
theorem dX7_needHour_14 : decode cX7_needHour 14 = .ok (.ldc_w 306, 3) := by decide +kernel
theorem dX7_needHour_17 : decode cX7_needHour 17 = .ok (.invokespecial 69, 3) := by decide +kernel
theorem dX7_needHour_20 : decode cX7_needHour 20 = .ok (.athrow, 1) := by decide +kernel
theorem dX7_needHour_21 : decode cX7_needHour 21 = .ok (.return_, 1) := by decide +kernel
theorem dX7_needWithin_0 : decode cX7_needWithin 0 = .ok (.iload_n 0, 1) := by decide +kernel
theorem dX7_needWithin_1 : decode cX7_needWithin 1 = .ok (.iload_n 1, 1) := by decide +kernel
theorem dX7_needWithin_2 : decode cX7_needWithin 2 = .ok (.if_icmp .lt 8, 3) := by decide +kernel
theorem dX7_needWithin_5 : decode cX7_needWithin 5 = .ok (.iload_n 0, 1) := by decide +kernel
theorem dX7_needWithin_6 : decode cX7_needWithin 6 = .ok (.iload_n 2, 1) := by decide +kernel
theorem dX7_needWithin_7 : decode cX7_needWithin 7 = .ok (.if_icmp .le 14, 3) := by decide +kernel
theorem dX7_needWithin_10 : decode cX7_needWithin 10 = .ok (.new 166, 3) := by decide +kernel
theorem dX7_needWithin_13 : decode cX7_needWithin 13 = .ok (.dup, 1) := by decide +kernel
theorem dX7_needWithin_14 : decode cX7_needWithin 14 = .ok (.ldc_w 308, 3) := by decide +kernel
theorem dX7_needWithin_17 : decode cX7_needWithin 17 = .ok (.invokespecial 170, 3) := by decide +kernel
theorem dX7_needWithin_20 : decode cX7_needWithin 20 = .ok (.athrow, 1) := by decide +kernel
theorem dX7_needWithin_21 : decode cX7_needWithin 21 = .ok (.return_, 1) := by decide +kernel
set_option maxRecDepth 20000 in
theorem ggX7_needSet_Jx4a65c_size_8abf5 : GoodIn wsX7_needSet wsJx4a65c_size_8abf5 := goodIn_r _ [11, 12, 68, 69, 70] (by decide +kernel) (by decide +kernel)
set_option maxRecDepth 20000 in
theorem gX7_needSet_Jx4a65c_size_8abf5 : GoodIn wsX7_needSet (wsV RX7 85 RJx4a65c yJx4a65c_size_8abf5 wsJx4a65c_size_8abf5) := goodIn_app (goodIn_of _ (by decide +kernel)) ggX7_needSet_Jx4a65c_size_8abf5
set_option maxRecDepth 20000 in
theorem ggX7_needSet_J6_bitCount_0f7a4 : GoodIn wsX7_needSet wsJ6_bitCount_0f7a4 := goodIn_r _ [16, 17, 18, 19] (by decide +kernel) (by decide +kernel)
set_option maxRecDepth 20000 in
theorem gX7_needSet_J6_bitCount_0f7a4 : GoodIn wsX7_needSet (va_wsS RX7 227 yJ6_bitCount_0f7a4 wsJ6_bitCount_0f7a4) := goodIn_app (goodIn_of _ (by decide +kernel)) ggX7_needSet_J6_bitCount_0f7a4
set_option maxRecDepth 20000 in
theorem ggX7_needSet_X7_isIn : GoodIn wsX7_needSet wsX7_isIn := goodIn_r _ [23] (by decide +kernel) (by decide +kernel)
set_option maxRecDepth 20000 in
theorem gX7_needSet_X7_isIn : GoodIn wsX7_needSet (va_wsS RX7 314 yX7_isIn wsX7_isIn) := goodIn_app (goodIn_of _ (by decide +kernel)) ggX7_needSet_X7_isIn
set_option maxRecDepth 20000 in
theorem ggX7_needSet_Jx4a65c_get_915e3 : GoodIn wsX7_needSet wsJx4a65c_get_915e3 := goodIn_r _ [27, 12, 28, 29, 30, 31, 32, 33, 34, 35, 36, 37, 38, 10, 39, 40, 68, 69, 70] (by decide +kernel) (by decide +kernel)
set_option maxRecDepth 20000 in
theorem gX7_needSet_Jx4a65c_get_915e3 : GoodIn wsX7_needSet (wsV RX7 202 RJx4a65c yJx4a65c_get_915e3 wsJx4a65c_get_915e3) := goodIn_app (goodIn_of _ (by decide +kernel)) ggX7_needSet_Jx4a65c_get_915e3
theorem dX7_needSet_0 : decode cX7_needSet 0 = .ok (.iload_n 1, 1) := by decide +kernel
theorem dX7_needSet_1 : decode cX7_needSet 1 = .ok (.ifCond .le 19, 3) := by decide +kernel
theorem dX7_needSet_4 : decode cX7_needSet 4 = .ok (.iload_n 1, 1) := by decide +kernel
theorem dX7_needSet_5 : decode cX7_needSet 5 = .ok (.iconst 1, 1) := by decide +kernel
theorem dX7_needSet_6 : decode cX7_needSet 6 = .ok (.aload_n 0, 1) := by decide +kernel
theorem dX7_needSet_7 : decode cX7_needSet 7 = .ok (.getfield 10, 3) := by decide +kernel
theorem dX7_needSet_10 : decode cX7_needSet 10 = .ok (.getfield 81, 3) := by decide +kernel
theorem dX7_needSet_13 : decode cX7_needSet 13 = .ok (.invokevirtual 85, 3) := by decide +kernel
theorem dX7_needSet_16 : decode cX7_needSet 16 = .ok (.ishl, 1) := by decide +kernel
theorem dX7_needSet_17 : decode cX7_needSet 17 = .ok (.if_icmp .lt 14, 3) := by decide +kernel
theorem dX7_needSet_20 : decode cX7_needSet 20 = .ok (.new 166, 3) := by decide +kernel
theorem dX7_needSet_23 : decode cX7_needSet 23 = .ok (.dup, 1) := by decide +kernel
theorem dX7_needSet_24 : decode cX7_needSet 24 = .ok (.ldc_w 310, 3) := by decide +kernel
theorem dX7_needSet_27 : decode cX7_needSet 27 = .ok (.invokespecial 170, 3) := by decide +kernel
theorem dX7_needSet_30 : decode cX7_needSet 30 = .ok (.athrow, 1) := by decide +kernel
theorem dX7_needSet_31 : decode cX7_needSet 31 = .ok (.iload_n 1, 1) := by decide +kernel
theorem dX7_needSet_32 : decode cX7_needSet 32 = .ok (.invokestatic 227, 3) := by decide +kernel
theorem dX7_needSet_35 : decode cX7_needSet 35 = .ok (.iconst 4, 1) := by decide +kernel
theorem dX7_needSet_36 : decode cX7_needSet 36 = .ok (.if_icmp .le 14, 3) := by decide +kernel
theorem dX7_needSet_39 : decode cX7_needSet 39 = .ok (.new 166, 3) := by decide +kernel
theorem dX7_needSet_42 : decode cX7_needSet 42 = .ok (.dup, 1) := by decide +kernel
theorem dX7_needSet_43 : decode cX7_needSet 43 = .ok (.ldc_w 312, 3) := by decide +kernel
theorem dX7_needSet_46 : decode cX7_needSet 46 = .ok (.invokespecial 170, 3) := by decide +kernel
theorem dX7_needSet_49 : decode cX7_needSet 49 = .ok (.athrow, 1) := by decide +kernel
theorem dX7_needSet_50 : decode cX7_needSet 50 = .ok (.iconst 0, 1) := by decide +kernel
theorem dX7_needSet_51 : decode cX7_needSet 51 = .ok (.istore_n 2, 1) := by decide +kernel
theorem dX7_needSet_52 : decode cX7_needSet 52 = .ok (.iload_n 2, 1) := by decide +kernel
theorem dX7_needSet_53 : decode cX7_needSet 53 = .ok (.aload_n 0, 1) := by decide +kernel
theorem dX7_needSet_54 : decode cX7_needSet 54 = .ok (.getfield 10, 3) := by decide +kernel
theorem dX7_needSet_57 : decode cX7_needSet 57 = .ok (.getfield 81, 3) := by decide +kernel
theorem dX7_needSet_60 : decode cX7_needSet 60 = .ok (.invokevirtual 85, 3) := by decide +kernel
theorem dX7_needSet_63 : decode cX7_needSet 63 = .ok (.if_icmp .ge 48, 3) := by decide +kernel
theorem dX7_needSet_66 : decode cX7_needSet 66 = .ok (.iload_n 1, 1) := by decide +kernel
theorem dX7_needSet_67 : decode cX7_needSet 67 = .ok (.iload_n 2, 1) := by decide +kernel
theorem dX7_needSet_68 : decode cX7_needSet 68 = .ok (.invokestatic 314, 3) := by decide +kernel
theorem dX7_needSet_71 : decode cX7_needSet 71 = .ok (.ifCond .eq 34, 3) := by decide +kernel
theorem dX7_needSet_74 : decode cX7_needSet 74 = .ok (.aload_n 0, 1) := by decide +kernel
theorem dX7_needSet_75 : decode cX7_needSet 75 = .ok (.getfield 10, 3) := by decide +kernel
theorem dX7_needSet_78 : decode cX7_needSet 78 = .ok (.getfield 81, 3) := by decide +kernel
theorem dX7_needSet_81 : decode cX7_needSet 81 = .ok (.iload_n 2, 1) := by decide +kernel
theorem dX7_needSet_82 : decode cX7_needSet 82 = .ok (.invokevirtual 202, 3) := by decide +kernel
theorem dX7_needSet_85 : decode cX7_needSet 85 = .ok (.checkcast 106, 3) := by decide +kernel
theorem dX7_needSet_88 : decode cX7_needSet 88 = .ok (.getfield 131, 3) := by decide +kernel
theorem dX7_needSet_91 : decode cX7_needSet 91 = .ok (.ifCond .eq 14, 3) := by decide +kernel
theorem dX7_needSet_94 : decode cX7_needSet 94 = .ok (.new 166, 3) := by decide +kernel
theorem dX7_needSet_97 : decode cX7_needSet 97 = .ok (.dup, 1) := by decide +kernel
theorem dX7_needSet_98 : decode cX7_needSet 98 = .ok (.ldc_w 318, 3) := by decide +kernel
theorem dX7_needSet_101 : decode cX7_needSet 101 = .ok (.invokespecial 170, 3) := by decide +kernel
theorem dX7_needSet_104 : decode cX7_needSet 104 = .ok (.athrow, 1) := by decide +kernel
theorem dX7_needSet_105 : decode cX7_needSet 105 = .ok (.iinc 2 1, 3) := by decide +kernel
theorem dX7_needSet_108 : decode cX7_needSet 108 = .ok (.goto (-56), 3) := by decide +kernel
theorem dX7_needSet_111 : decode cX7_needSet 111 = .ok (.return_, 1) := by decide +kernel
theorem dX7_isIn_0 : decode cX7_isIn 0 = .ok (.iload_n 0, 1) := by decide +kernel
theorem dX7_isIn_1 : decode cX7_isIn 1 = .ok (.iload_n 1, 1) := by decide +kernel
theorem dX7_isIn_2 : decode cX7_isIn 2 = .ok (.ishr, 1) := by decide +kernel
theorem dX7_isIn_3 : decode cX7_isIn 3 = .ok (.iconst 1, 1) := by decide +kernel
theorem dX7_isIn_4 : decode cX7_isIn 4 = .ok (.iand, 1) := by decide +kernel
theorem dX7_isIn_5 : decode cX7_isIn 5 = .ok (.iconst 1, 1) := by decide +kernel
theorem dX7_isIn_6 : decode cX7_isIn 6 = .ok (.if_icmp .ne 7, 3) := by decide +kernel
theorem dX7_isIn_9 : decode cX7_isIn 9 = .ok (.iconst 1, 1) := by decide +kernel
theorem dX7_isIn_10 : decode cX7_isIn 10 = .ok (.goto 4, 3) := by decide +kernel
theorem dX7_isIn_13 : decode cX7_isIn 13 = .ok (.iconst 0, 1) := by decide +kernel
theorem dX7_isIn_14 : decode cX7_isIn 14 = .ok (.ireturn, 1) := by decide +kernel
set_option maxRecDepth 20000 in
theorem ggX7_wouldTrip_X3_shine : GoodIn wsX7_wouldTrip wsX3_shine := goodIn_r _ [7, 8, 9, 10, 6, 11, 12, 13, 32, 33] (by decide +kernel) (by decide +kernel)
set_option maxRecDepth 20000 in
theorem gX7_wouldTrip_X3_shine : GoodIn wsX7_wouldTrip (wsV RX7 320 RX3 yX3_shine wsX3_shine) := goodIn_app (goodIn_of _ (by decide +kernel)) ggX7_wouldTrip_X3_shine
set_option maxRecDepth 20000 in
theorem ggX7_wouldTrip_X3_isAbove : GoodIn wsX7_wouldTrip wsX3_isAbove := goodIn_r _ [17, 12, 32, 33] (by decide +kernel) (by decide +kernel)
set_option maxRecDepth 20000 in
theorem gX7_wouldTrip_X3_isAbove : GoodIn wsX7_wouldTrip (wsV RX7 213 RX3 yX3_isAbove wsX3_isAbove) := goodIn_app (goodIn_of _ (by decide +kernel)) ggX7_wouldTrip_X3_isAbove
theorem dX7_wouldTrip_0 : decode cX7_wouldTrip 0 = .ok (.aload_n 0, 1) := by decide +kernel
theorem dX7_wouldTrip_1 : decode cX7_wouldTrip 1 = .ok (.getfield 19, 3) := by decide +kernel
theorem dX7_wouldTrip_4 : decode cX7_wouldTrip 4 = .ok (.iload_n 1, 1) := by decide +kernel
theorem dX7_wouldTrip_5 : decode cX7_wouldTrip 5 = .ok (.iload_n 3, 1) := by decide +kernel
theorem dX7_wouldTrip_6 : decode cX7_wouldTrip 6 = .ok (.ineg, 1) := by decide +kernel
theorem dX7_wouldTrip_7 : decode cX7_wouldTrip 7 = .ok (.invokevirtual 320, 3) := by decide +kernel
theorem dX7_wouldTrip_10 : decode cX7_wouldTrip 10 = .ok (.aload_n 0, 1) := by decide +kernel
theorem dX7_wouldTrip_11 : decode cX7_wouldTrip 11 = .ok (.getfield 19, 3) := by decide +kernel
theorem dX7_wouldTrip_14 : decode cX7_wouldTrip 14 = .ok (.iload_n 1, 1) := by decide +kernel
theorem dX7_wouldTrip_15 : decode cX7_wouldTrip 15 = .ok (.iload_n 2, 1) := by decide +kernel
theorem dX7_wouldTrip_16 : decode cX7_wouldTrip 16 = .ok (.iadd, 1) := by decide +kernel
theorem dX7_wouldTrip_17 : decode cX7_wouldTrip 17 = .ok (.iload_n 3, 1) := by decide +kernel
theorem dX7_wouldTrip_18 : decode cX7_wouldTrip 18 = .ok (.invokevirtual 320, 3) := by decide +kernel
theorem dX7_wouldTrip_21 : decode cX7_wouldTrip 21 = .ok (.aload_n 0, 1) := by decide +kernel
theorem dX7_wouldTrip_22 : decode cX7_wouldTrip 22 = .ok (.getfield 19, 3) := by decide +kernel
theorem dX7_wouldTrip_25 : decode cX7_wouldTrip 25 = .ok (.aload_n 0, 1) := by decide +kernel
theorem dX7_wouldTrip_26 : decode cX7_wouldTrip 26 = .ok (.getfield 30, 3) := by decide +kernel
theorem dX7_wouldTrip_29 : decode cX7_wouldTrip 29 = .ok (.invokevirtual 213, 3) := by decide +kernel
theorem dX7_wouldTrip_32 : decode cX7_wouldTrip 32 = .ok (.istore 4, 2) := by decide +kernel
theorem dX7_wouldTrip_34 : decode cX7_wouldTrip 34 = .ok (.aload_n 0, 1) := by decide +kernel
theorem dX7_wouldTrip_35 : decode cX7_wouldTrip 35 = .ok (.getfield 19, 3) := by decide +kernel
theorem dX7_wouldTrip_38 : decode cX7_wouldTrip 38 = .ok (.iload_n 1, 1) := by decide +kernel
theorem dX7_wouldTrip_39 : decode cX7_wouldTrip 39 = .ok (.iload_n 2, 1) := by decide +kernel
theorem dX7_wouldTrip_40 : decode cX7_wouldTrip 40 = .ok (.iadd, 1) := by decide +kernel
theorem dX7_wouldTrip_41 : decode cX7_wouldTrip 41 = .ok (.iload_n 3, 1) := by decide +kernel
theorem dX7_wouldTrip_42 : decode cX7_wouldTrip 42 = .ok (.ineg, 1) := by decide +kernel
theorem dX7_wouldTrip_43 : decode cX7_wouldTrip 43 = .ok (.invokevirtual 320, 3) := by decide +kernel
theorem dX7_wouldTrip_46 : decode cX7_wouldTrip 46 = .ok (.aload_n 0, 1) := by decide +kernel
theorem dX7_wouldTrip_47 : decode cX7_wouldTrip 47 = .ok (.getfield 19, 3) := by decide +kernel
theorem dX7_wouldTrip_50 : decode cX7_wouldTrip 50 = .ok (.iload_n 1, 1) := by decide +kernel
theorem dX7_wouldTrip_51 : decode cX7_wouldTrip 51 = .ok (.iload_n 3, 1) := by decide +kernel
theorem dX7_wouldTrip_52 : decode cX7_wouldTrip 52 = .ok (.invokevirtual 320, 3) := by decide +kernel
theorem dX7_wouldTrip_55 : decode cX7_wouldTrip 55 = .ok (.iload 4, 2) := by decide +kernel
theorem dX7_wouldTrip_57 : decode cX7_wouldTrip 57 = .ok (.ireturn, 1) := by decide +kernel
set_option maxRecDepth 20000 in
theorem ggX7_openSearch_X0_open : GoodIn wsX7_openSearch wsX0_open := goodIn_r _ [10, 11, 164, 165, 166, 167, 168, 169, 170] (by decide +kernel) (by decide +kernel)
set_option maxRecDepth 20000 in
theorem gX7_openSearch_X0_open : GoodIn wsX7_openSearch (wsV RX7 324 RX0 yX0_open wsX0_open) := goodIn_app (goodIn_of _ (by decide +kernel)) ggX7_openSearch_X0_open
set_option maxRecDepth 20000 in
theorem ggX7_openSearch_X2_shineOn : GoodIn wsX7_openSearch wsX2_shineOn := goodIn_r _ [16, 17, 18, 19, 20, 21, 22, 23, 24, 25, 26, 27, 28, 29, 30, 31, 32, 33, 34, 35, 36, 37, 38, 39, 40, 41, 42, 43, 44, 45, 46, 47, 48, 49, 50, 51, 52, 53, 54, 55, 56, 57, 58, 59, 60, 61, 62, 63, 64, 65, 66, 67, 15, 68, 69, 70, 71, 72, 73, 74, 75, 76, 77, 78, 79, 80, 81, 82, 83, 84, 85, 86, 87, 88, 89, 90, 91, 92, 93, 94, 95, 96, 97, 98, 99, 100, 101, 102, 103, 104, 105, 106, 107, 108, 109, 110, 111, 112, 113, 114, 115, 116, 117, 118, 119, 120, 121, 122, 123, 124, 125, 126, 127, 128, 129, 130, 131, 132, 133, 134, 135, 136, 137, 138, 171, 172, 173, 174, 175, 176, 177, 178, 179, 180, 181, 182, 183, 184, 185, 186, 187, 188, 189, 190, 191, 192, 193, 194] (by decide +kernel) (by decide +kernel)
set_option maxRecDepth 20000 in
theorem gX7_openSearch_X2_shineOn : GoodIn wsX7_openSearch (wsV RX7 195 RX2 yX2_shineOn wsX2_shineOn) := goodIn_app (goodIn_of _ (by decide +kernel)) ggX7_openSearch_X2_shineOn
set_option maxRecDepth 20000 in
theorem ggX7_openSearch_Jx4a65c_size_8abf5 : GoodIn wsX7_openSearch wsJx4a65c_size_8abf5 := goodIn_r _ [31, 32, 186, 187, 188] (by decide +kernel) (by decide +kernel)
set_option maxRecDepth 20000 in
theorem gX7_openSearch_Jx4a65c_size_8abf5 : GoodIn wsX7_openSearch (wsV RX7 85 RJx4a65c yJx4a65c_size_8abf5 wsJx4a65c_size_8abf5) := goodIn_app (goodIn_of _ (by decide +kernel)) ggX7_openSearch_Jx4a65c_size_8abf5
set_option maxRecDepth 20000 in
theorem ggX7_openSearch_Jx4a65c_get_915e3 : GoodIn wsX7_openSearch wsJx4a65c_get_915e3 := goodIn_r _ [36, 32, 37, 38, 39, 40, 41, 42, 43, 44, 45, 46, 47, 30, 48, 49, 186, 187, 188] (by decide +kernel) (by decide +kernel)
set_option maxRecDepth 20000 in
theorem gX7_openSearch_Jx4a65c_get_915e3 : GoodIn wsX7_openSearch (wsV RX7 202 RJx4a65c yJx4a65c_get_915e3 wsJx4a65c_get_915e3) := goodIn_app (goodIn_of _ (by decide +kernel)) ggX7_openSearch_Jx4a65c_get_915e3
set_option maxRecDepth 20000 in
theorem ggX7_openSearch_X7_isIn : GoodIn wsX7_openSearch wsX7_isIn := goodIn_r _ [52] (by decide +kernel) (by decide +kernel)
set_option maxRecDepth 20000 in
theorem gX7_openSearch_X7_isIn : GoodIn wsX7_openSearch (va_wsS RX7 314 yX7_isIn wsX7_isIn) := goodIn_app (goodIn_of _ (by decide +kernel)) ggX7_openSearch_X7_isIn
set_option maxRecDepth 20000 in
theorem ggX7_openSearch_X2_tenthOf : GoodIn wsX7_openSearch wsX2_tenthOf := goodIn_r _ [68, 69, 70, 71, 15, 72, 73, 74, 75, 76, 77, 78, 79, 27, 28, 29, 30, 31, 32, 33, 34, 35, 36, 37, 38, 39, 40, 41, 42, 43, 44, 45, 46, 47, 48, 49, 80, 81, 82, 83, 84, 85, 86, 87, 88, 89, 90, 91, 92, 93, 94, 95, 96, 97, 98, 99, 100, 101, 102, 103, 104, 105, 106, 107, 108, 109, 110, 111, 112, 113, 114, 115, 116, 117, 118, 119, 120, 121, 122, 123, 124, 56, 125, 126, 127, 128, 129, 130, 171, 172, 173, 174, 175, 186, 187, 188, 176, 177, 178, 179, 180, 181, 182, 183, 189, 190, 191, 192, 193, 194] (by decide +kernel) (by decide +kernel)
set_option maxRecDepth 20000 in
theorem gX7_openSearch_X2_tenthOf : GoodIn wsX7_openSearch (wsV RX7 206 RX2 yX2_tenthOf wsX2_tenthOf) := goodIn_app (goodIn_of _ (by decide +kernel)) ggX7_openSearch_X2_tenthOf
set_option maxRecDepth 20000 in
theorem ggX7_openSearch_X4_awry : GoodIn wsX7_openSearch wsX4_awry := goodIn_r _ [62, 63, 64, 176, 177, 178, 179, 180, 181, 182, 183] (by decide +kernel) (by decide +kernel)
set_option maxRecDepth 20000 in
theorem gX7_openSearch_X4_awry : GoodIn wsX7_openSearch (wsV RX7 125 RX4 yX4_awry wsX4_awry) := goodIn_app (goodIn_of _ (by decide +kernel)) ggX7_openSearch_X4_awry
set_option maxRecDepth 20000 in
theorem ggX7_openSearch_X0_add : GoodIn wsX7_openSearch wsX0_add := goodIn_r _ [147, 11, 148, 149, 164, 165, 166, 167, 168, 169, 170] (by decide +kernel) (by decide +kernel)
set_option maxRecDepth 20000 in
theorem gX7_openSearch_X0_add : GoodIn wsX7_openSearch (wsV RX7 328 RX0 yX0_add wsX0_add) := goodIn_app (goodIn_of _ (by decide +kernel)) ggX7_openSearch_X0_add
theorem dX7_openSearch_0 : decode cX7_openSearch 0 = .ok (.aload_n 0, 1) := by decide +kernel
theorem dX7_openSearch_1 : decode cX7_openSearch 1 = .ok (.getfield 26, 3) := by decide +kernel
theorem dX7_openSearch_4 : decode cX7_openSearch 4 = .ok (.invokevirtual 324, 3) := by decide +kernel
theorem dX7_openSearch_7 : decode cX7_openSearch 7 = .ok (.aload_n 0, 1) := by decide +kernel
theorem dX7_openSearch_8 : decode cX7_openSearch 8 = .ok (.getfield 10, 3) := by decide +kernel
theorem dX7_openSearch_11 : decode cX7_openSearch 11 = .ok (.aload_n 0, 1) := by decide +kernel
theorem dX7_openSearch_12 : decode cX7_openSearch 12 = .ok (.getfield 26, 3) := by decide +kernel
theorem dX7_openSearch_15 : decode cX7_openSearch 15 = .ok (.getfield 327, 3) := by decide +kernel
theorem dX7_openSearch_18 : decode cX7_openSearch 18 = .ok (.iload_n 1, 1) := by decide +kernel
theorem dX7_openSearch_19 : decode cX7_openSearch 19 = .ok (.invokevirtual 195, 3) := by decide +kernel
theorem dX7_openSearch_22 : decode cX7_openSearch 22 = .ok (.iconst 0, 1) := by decide +kernel
theorem dX7_openSearch_23 : decode cX7_openSearch 23 = .ok (.istore_n 2, 1) := by decide +kernel
theorem dX7_openSearch_24 : decode cX7_openSearch 24 = .ok (.iload_n 2, 1) := by decide +kernel
theorem dX7_openSearch_25 : decode cX7_openSearch 25 = .ok (.aload_n 0, 1) := by decide +kernel
theorem dX7_openSearch_26 : decode cX7_openSearch 26 = .ok (.getfield 10, 3) := by decide +kernel
theorem dX7_openSearch_29 : decode cX7_openSearch 29 = .ok (.getfield 81, 3) := by decide +kernel
theorem dX7_openSearch_32 : decode cX7_openSearch 32 = .ok (.invokevirtual 85, 3) := by decide +kernel
theorem dX7_openSearch_35 : decode cX7_openSearch 35 = .ok (.if_icmp .ge 51, 3) := by decide +kernel
theorem dX7_openSearch_38 : decode cX7_openSearch 38 = .ok (.aload_n 0, 1) := by decide +kernel
theorem dX7_openSearch_39 : decode cX7_openSearch 39 = .ok (.getfield 10, 3) := by decide +kernel
theorem dX7_openSearch_42 : decode cX7_openSearch 42 = .ok (.getfield 81, 3) := by decide +kernel
theorem dX7_openSearch_45 : decode cX7_openSearch 45 = .ok (.iload_n 2, 1) := by decide +kernel
theorem dX7_openSearch_46 : decode cX7_openSearch 46 = .ok (.invokevirtual 202, 3) := by decide +kernel
theorem dX7_openSearch_49 : decode cX7_openSearch 49 = .ok (.checkcast 106, 3) := by decide +kernel
theorem dX7_openSearch_52 : decode cX7_openSearch 52 = .ok (.astore_n 3, 1) := by decide +kernel
theorem dX7_openSearch_53 : decode cX7_openSearch 53 = .ok (.iload_n 1, 1) := by decide +kernel
theorem dX7_openSearch_54 : decode cX7_openSearch 54 = .ok (.iload_n 2, 1) := by decide +kernel
theorem dX7_openSearch_55 : decode cX7_openSearch 55 = .ok (.invokestatic 314, 3) := by decide +kernel
theorem dX7_openSearch_58 : decode cX7_openSearch 58 = .ok (.ifCond .eq 22, 3) := by decide +kernel
theorem dX7_openSearch_61 : decode cX7_openSearch 61 = .ok (.aload_n 0, 1) := by decide +kernel
theorem dX7_openSearch_62 : decode cX7_openSearch 62 = .ok (.getfield 26, 3) := by decide +kernel
theorem dX7_openSearch_65 : decode cX7_openSearch 65 = .ok (.aload_n 0, 1) := by decide +kernel
theorem dX7_openSearch_66 : decode cX7_openSearch 66 = .ok (.getfield 10, 3) := by decide +kernel
theorem dX7_openSearch_69 : decode cX7_openSearch 69 = .ok (.aload_n 3, 1) := by decide +kernel
theorem dX7_openSearch_70 : decode cX7_openSearch 70 = .ok (.invokevirtual 206, 3) := by decide +kernel
theorem dX7_openSearch_73 : decode cX7_openSearch 73 = .ok (.aload_n 3, 1) := by decide +kernel
theorem dX7_openSearch_74 : decode cX7_openSearch 74 = .ok (.invokevirtual 125, 3) := by decide +kernel
theorem dX7_openSearch_77 : decode cX7_openSearch 77 = .ok (.invokevirtual 328, 3) := by decide +kernel
theorem dX7_openSearch_80 : decode cX7_openSearch 80 = .ok (.iinc 2 1, 3) := by decide +kernel
theorem dX7_openSearch_83 : decode cX7_openSearch 83 = .ok (.goto (-59), 3) := by decide +kernel
theorem dX7_openSearch_86 : decode cX7_openSearch 86 = .ok (.return_, 1) := by decide +kernel
set_option maxRecDepth 20000 in
theorem ggX7_takeTick_X2_shineOn : GoodIn wsX7_takeTick wsX2_shineOn := goodIn_r _ [8, 9, 10, 11, 12, 13, 14, 15, 16, 17, 18, 19, 20, 21, 22, 23, 24, 25, 26, 27, 28, 29, 30, 31, 32, 33, 34, 35, 36, 37, 38, 39, 40, 41, 42, 43, 44, 45, 46, 47, 48, 49, 50, 51, 52, 53, 54, 55, 56, 57, 58, 59, 7, 60, 61, 62, 63, 64, 65, 66, 67, 68, 69, 70, 71, 72, 73, 74, 75, 76, 77, 78, 79, 80, 81, 82, 83, 84, 85, 86, 87, 88, 89, 90, 91, 92, 93, 94, 95, 96, 97, 98, 99, 100, 101, 102, 103, 104, 105, 106, 107, 108, 109, 110, 111, 112, 113, 114, 115, 116, 117, 118, 119, 120, 121, 122, 123, 124, 125, 126, 127, 128, 129, 130, 240, 241, 242, 243, 244, 245, 246, 247, 248, 249, 250, 251, 252, 253, 254, 255, 256, 257, 258, 259, 260, 261, 262, 263] (by decide +kernel) (by decide +kernel)
set_option maxRecDepth 20000 in
theorem gX7_takeTick_X2_shineOn : GoodIn wsX7_takeTick (wsV RX7 195 RX2 yX2_shineOn wsX2_shineOn) := goodIn_app (goodIn_of _ (by decide +kernel)) ggX7_takeTick_X2_shineOn
set_option maxRecDepth 20000 in
theorem ggX7_takeTick_X7_receiveHeat : GoodIn wsX7_takeTick wsX7_receiveHeat := goodIn_r _ [134, 2, 135, 136, 137, 138, 139, 140, 15, 141, 17, 142, 143, 144, 145, 146, 147, 148, 43, 149, 150, 151, 152, 1, 153, 154, 155, 7, 156, 9, 10, 157, 11, 19, 20, 21, 22, 23, 24, 25, 26, 27, 28, 29, 30, 31, 32, 33, 34, 35, 36, 37, 38, 39, 40, 41, 226, 227, 228, 229, 230, 231, 232, 233, 234, 235, 236, 237, 238, 239, 253, 254, 240, 241, 242, 243, 244, 245, 246, 247, 248, 249, 250, 251, 252, 255, 256, 257] (by decide +kernel) (by decide +kernel)
set_option maxRecDepth 20000 in
theorem gX7_takeTick_X7_receiveHeat : GoodIn wsX7_takeTick (wsV RX7 330 RX7 yX7_receiveHeat wsX7_receiveHeat) := goodIn_app (goodIn_of _ (by decide +kernel)) ggX7_takeTick_X7_receiveHeat
set_option maxRecDepth 20000 in
theorem ggX7_takeTick_X7_moveSaltToHot : GoodIn wsX7_takeTick wsX7_moveSaltToHot := goodIn_r _ [161, 3, 162, 163, 164, 107, 108, 109, 165, 135, 226, 227, 228, 229, 230, 231, 232, 233, 234, 235, 236, 237, 238, 239, 264, 265, 266, 267] (by decide +kernel) (by decide +kernel)
set_option maxRecDepth 20000 in
theorem gX7_takeTick_X7_moveSaltToHot : GoodIn wsX7_takeTick (wsV RX7 333 RX7 yX7_moveSaltToHot wsX7_moveSaltToHot) := goodIn_app (goodIn_of _ (by decide +kernel)) ggX7_takeTick_X7_moveSaltToHot
set_option maxRecDepth 20000 in
theorem ggX7_takeTick_X5_takeTick : GoodIn wsX7_takeTick wsX5_takeTick := goodIn_r _ [170, 171, 172, 173, 174, 169, 175, 176, 177, 178, 179, 180, 181, 182, 183, 107, 108, 109, 184, 185, 186, 264, 265, 266, 267] (by decide +kernel) (by decide +kernel)
set_option maxRecDepth 20000 in
theorem gX7_takeTick_X5_takeTick : GoodIn wsX7_takeTick (wsV RX7 336 RX5 yX5_takeTick wsX5_takeTick) := goodIn_app (goodIn_of _ (by decide +kernel)) ggX7_takeTick_X5_takeTick
set_option maxRecDepth 20000 in
theorem ggX7_takeTick_X7_makeEnergy : GoodIn wsX7_takeTick wsX7_makeEnergy := goodIn_r _ [190, 191, 165, 163, 1, 135, 192, 193, 194, 195, 196, 197, 198, 199, 107, 108, 109, 200, 201, 202, 203, 204, 205, 111, 112, 7, 113, 91, 92, 93, 94, 95, 226, 227, 228, 229, 230, 231, 232, 233, 234, 235, 236, 237, 238, 239, 268, 269, 270, 240, 241, 242, 243, 244] (by decide +kernel) (by decide +kernel)
set_option maxRecDepth 20000 in
theorem gX7_takeTick_X7_makeEnergy : GoodIn wsX7_takeTick (wsV RX7 339 RX7 yX7_makeEnergy wsX7_makeEnergy) := goodIn_app (goodIn_of _ (by decide +kernel)) ggX7_takeTick_X7_makeEnergy
set_option maxRecDepth 20000 in
theorem ggX7_takeTick_X7_payForTrace : GoodIn wsX7_takeTick wsX7_payForTrace := goodIn_r _ [209, 3, 210, 164, 107, 108, 109, 135, 226, 227, 228, 229, 230, 231, 232, 233, 234, 235, 236, 237, 238, 239, 264, 265, 266, 267] (by decide +kernel) (by decide +kernel)
set_option maxRecDepth 20000 in
theorem gX7_takeTick_X7_payForTrace : GoodIn wsX7_takeTick (wsV RX7 342 RX7 yX7_payForTrace wsX7_payForTrace) := goodIn_app (goodIn_of _ (by decide +kernel)) ggX7_takeTick_X7_payForTrace
set_option maxRecDepth 20000 in
theorem ggX7_takeTick_X7_shareEnergy : GoodIn wsX7_takeTick wsX7_shareEnergy := goodIn_r _ [214, 1, 215, 164, 107, 108, 109, 135, 216, 217, 92, 93, 7, 94, 95, 226, 227, 228, 229, 230, 231, 232, 233, 234, 235, 236, 237, 238, 239, 240, 241, 242, 243, 244] (by decide +kernel) (by decide +kernel)
set_option maxRecDepth 20000 in
theorem gX7_takeTick_X7_shareEnergy : GoodIn wsX7_takeTick (wsV RX7 345 RX7 yX7_shareEnergy wsX7_shareEnergy) := goodIn_app (goodIn_of _ (by decide +kernel)) ggX7_takeTick_X7_shareEnergy
set_option maxRecDepth 20000 in
theorem ggX7_takeTick_X2_endTick : GoodIn wsX7_takeTick wsX2_endTick := goodIn_r _ [221, 70, 71, 9, 10, 105, 95, 19, 20, 21, 22, 23, 24, 25, 26, 27, 28, 29, 30, 31, 32, 33, 34, 35, 36, 37, 38, 39, 40, 41, 222, 223, 224, 75, 225, 78, 79, 81, 82, 101, 102, 103, 7, 104, 106, 107, 108, 109, 240, 241, 242, 243, 244, 245, 246, 247, 248, 249, 250, 251, 252, 255, 256, 257, 258, 259, 260, 261, 262, 263] (by decide +kernel) (by decide +kernel)
set_option maxRecDepth 20000 in
theorem gX7_takeTick_X2_endTick : GoodIn wsX7_takeTick (wsV RX7 348 RX2 yX2_endTick wsX2_endTick) := goodIn_app (goodIn_of _ (by decide +kernel)) ggX7_takeTick_X2_endTick
theorem dX7_takeTick_0 : decode cX7_takeTick 0 = .ok (.aload_n 0, 1) := by decide +kernel
theorem dX7_takeTick_1 : decode cX7_takeTick 1 = .ok (.getfield 10, 3) := by decide +kernel
theorem dX7_takeTick_4 : decode cX7_takeTick 4 = .ok (.aload_n 0, 1) := by decide +kernel
theorem dX7_takeTick_5 : decode cX7_takeTick 5 = .ok (.getfield 19, 3) := by decide +kernel
theorem dX7_takeTick_8 : decode cX7_takeTick 8 = .ok (.iconst 0, 1) := by decide +kernel
theorem dX7_takeTick_9 : decode cX7_takeTick 9 = .ok (.invokevirtual 195, 3) := by decide +kernel
theorem dX7_takeTick_12 : decode cX7_takeTick 12 = .ok (.aload_n 0, 1) := by decide +kernel
theorem dX7_takeTick_13 : decode cX7_takeTick 13 = .ok (.invokevirtual 330, 3) := by decide +kernel
theorem dX7_takeTick_16 : decode cX7_takeTick 16 = .ok (.istore_n 1, 1) := by decide +kernel
theorem dX7_takeTick_17 : decode cX7_takeTick 17 = .ok (.aload_n 0, 1) := by decide +kernel
theorem dX7_takeTick_18 : decode cX7_takeTick 18 = .ok (.iload_n 1, 1) := by decide +kernel
theorem dX7_takeTick_19 : decode cX7_takeTick 19 = .ok (.invokevirtual 333, 3) := by decide +kernel
theorem dX7_takeTick_22 : decode cX7_takeTick 22 = .ok (.istore_n 2, 1) := by decide +kernel
theorem dX7_takeTick_23 : decode cX7_takeTick 23 = .ok (.aload_n 0, 1) := by decide +kernel
theorem dX7_takeTick_24 : decode cX7_takeTick 24 = .ok (.getfield 44, 3) := by decide +kernel
theorem dX7_takeTick_27 : decode cX7_takeTick 27 = .ok (.iload_n 2, 1) := by decide +kernel
theorem dX7_takeTick_28 : decode cX7_takeTick 28 = .ok (.ifCond .le 7, 3) := by decide +kernel
theorem dX7_takeTick_31 : decode cX7_takeTick 31 = .ok (.iconst 1, 1) := by decide +kernel
theorem dX7_takeTick_32 : decode cX7_takeTick 32 = .ok (.goto 4, 3) := by decide +kernel
theorem dX7_takeTick_35 : decode cX7_takeTick 35 = .ok (.iconst 0, 1) := by decide +kernel
theorem dX7_takeTick_36 : decode cX7_takeTick 36 = .ok (.invokevirtual 336, 3) := by decide +kernel
theorem dX7_takeTick_39 : decode cX7_takeTick 39 = .ok (.aload_n 0, 1) := by decide +kernel
theorem dX7_takeTick_40 : decode cX7_takeTick 40 = .ok (.invokevirtual 339, 3) := by decide +kernel
theorem dX7_takeTick_43 : decode cX7_takeTick 43 = .ok (.istore_n 3, 1) := by decide +kernel
theorem dX7_takeTick_44 : decode cX7_takeTick 44 = .ok (.iload_n 3, 1) := by decide +kernel
theorem dX7_takeTick_45 : decode cX7_takeTick 45 = .ok (.aload_n 0, 1) := by decide +kernel
theorem dX7_takeTick_46 : decode cX7_takeTick 46 = .ok (.iload_n 3, 1) := by decide +kernel
theorem dX7_takeTick_47 : decode cX7_takeTick 47 = .ok (.invokevirtual 342, 3) := by decide +kernel
theorem dX7_takeTick_50 : decode cX7_takeTick 50 = .ok (.isub, 1) := by decide +kernel
theorem dX7_takeTick_51 : decode cX7_takeTick 51 = .ok (.istore 4, 2) := by decide +kernel
theorem dX7_takeTick_53 : decode cX7_takeTick 53 = .ok (.aload_n 0, 1) := by decide +kernel
theorem dX7_takeTick_54 : decode cX7_takeTick 54 = .ok (.iload 4, 2) := by decide +kernel
theorem dX7_takeTick_56 : decode cX7_takeTick 56 = .ok (.invokevirtual 345, 3) := by decide +kernel
theorem dX7_takeTick_59 : decode cX7_takeTick 59 = .ok (.aload_n 0, 1) := by decide +kernel
theorem dX7_takeTick_60 : decode cX7_takeTick 60 = .ok (.getfield 10, 3) := by decide +kernel
theorem dX7_takeTick_63 : decode cX7_takeTick 63 = .ok (.invokevirtual 348, 3) := by decide +kernel
theorem dX7_takeTick_66 : decode cX7_takeTick 66 = .ok (.return_, 1) := by decide +kernel
set_option maxRecDepth 20000 in
theorem ggX7_receiveHeat_X3_onPanels : GoodIn wsX7_receiveHeat wsX3_onPanels := goodIn_r _ [9, 10, 70, 71] (by decide +kernel) (by decide +kernel)
set_option maxRecDepth 20000 in
theorem gX7_receiveHeat_X3_onPanels : GoodIn wsX7_receiveHeat (wsV RX7 351 RX3 yX3_onPanels wsX3_onPanels) := goodIn_app (goodIn_of _ (by decide +kernel)) ggX7_receiveHeat_X3_onPanels
set_option maxRecDepth 20000 in
theorem ggX7_receiveHeat_X3_isAbove : GoodIn wsX7_receiveHeat wsX3_isAbove := goodIn_r _ [14, 10, 70, 71] (by decide +kernel) (by decide +kernel)
set_option maxRecDepth 20000 in
theorem gX7_receiveHeat_X3_isAbove : GoodIn wsX7_receiveHeat (wsV RX7 213 RX3 yX3_isAbove wsX3_isAbove) := goodIn_app (goodIn_of _ (by decide +kernel)) ggX7_receiveHeat_X3_isAbove
set_option maxRecDepth 20000 in
theorem ggX7_receiveHeat_X7_trip : GoodIn wsX7_receiveHeat wsX7_trip := goodIn_r _ [19, 20, 1, 21, 4, 22, 23, 24, 25, 26, 27, 28, 29, 30, 31, 32, 33, 34, 35, 36, 37, 38, 39, 40, 41, 42, 43, 44, 45, 46, 47, 48, 49, 50, 51, 52, 53, 54, 55, 56, 57, 58, 59, 60, 61, 62, 63, 64, 65, 66, 67, 68, 69, 70, 71, 72, 73, 74, 75, 76, 77, 78, 79, 80, 81, 82, 83, 84, 85, 86, 87] (by decide +kernel) (by decide +kernel)
set_option maxRecDepth 20000 in
theorem gX7_receiveHeat_X7_trip : GoodIn wsX7_receiveHeat (wsV RX7 357 RX7 yX7_trip wsX7_trip) := goodIn_app (goodIn_of _ (by decide +kernel)) ggX7_receiveHeat_X7_trip
theorem dX7_receiveHeat_0 : decode cX7_receiveHeat 0 = .ok (.aload_n 0, 1) := by decide +kernel
theorem dX7_receiveHeat_1 : decode cX7_receiveHeat 1 = .ok (.getfield 19, 3) := by decide +kernel
theorem dX7_receiveHeat_4 : decode cX7_receiveHeat 4 = .ok (.invokevirtual 351, 3) := by decide +kernel
theorem dX7_receiveHeat_7 : decode cX7_receiveHeat 7 = .ok (.istore_n 1, 1) := by decide +kernel
theorem dX7_receiveHeat_8 : decode cX7_receiveHeat 8 = .ok (.aload_n 0, 1) := by decide +kernel
theorem dX7_receiveHeat_9 : decode cX7_receiveHeat 9 = .ok (.getfield 61, 3) := by decide +kernel
theorem dX7_receiveHeat_12 : decode cX7_receiveHeat 12 = .ok (.iconst 0, 1) := by decide +kernel
theorem dX7_receiveHeat_13 : decode cX7_receiveHeat 13 = .ok (.dup2, 1) := by decide +kernel
theorem dX7_receiveHeat_14 : decode cX7_receiveHeat 14 = .ok (.laload, 1) := by decide +kernel
theorem dX7_receiveHeat_15 : decode cX7_receiveHeat 15 = .ok (.iload_n 1, 1) := by decide +kernel
theorem dX7_receiveHeat_16 : decode cX7_receiveHeat 16 = .ok (.aload_n 0, 1) := by decide +kernel
theorem dX7_receiveHeat_17 : decode cX7_receiveHeat 17 = .ok (.getfield 19, 3) := by decide +kernel
theorem dX7_receiveHeat_20 : decode cX7_receiveHeat 20 = .ok (.getfield 354, 3) := by decide +kernel
theorem dX7_receiveHeat_23 : decode cX7_receiveHeat 23 = .ok (.iadd, 1) := by decide +kernel
theorem dX7_receiveHeat_24 : decode cX7_receiveHeat 24 = .ok (.i2l, 1) := by decide +kernel
theorem dX7_receiveHeat_25 : decode cX7_receiveHeat 25 = .ok (.ladd, 1) := by decide +kernel
theorem dX7_receiveHeat_26 : decode cX7_receiveHeat 26 = .ok (.lastore, 1) := by decide +kernel
theorem dX7_receiveHeat_27 : decode cX7_receiveHeat 27 = .ok (.aload_n 0, 1) := by decide +kernel
theorem dX7_receiveHeat_28 : decode cX7_receiveHeat 28 = .ok (.getfield 61, 3) := by decide +kernel
theorem dX7_receiveHeat_31 : decode cX7_receiveHeat 31 = .ok (.iconst 1, 1) := by decide +kernel
theorem dX7_receiveHeat_32 : decode cX7_receiveHeat 32 = .ok (.dup2, 1) := by decide +kernel
theorem dX7_receiveHeat_33 : decode cX7_receiveHeat 33 = .ok (.laload, 1) := by decide +kernel
theorem dX7_receiveHeat_34 : decode cX7_receiveHeat 34 = .ok (.aload_n 0, 1) := by decide +kernel
theorem dX7_receiveHeat_35 : decode cX7_receiveHeat 35 = .ok (.getfield 19, 3) := by decide +kernel
theorem dX7_receiveHeat_38 : decode cX7_receiveHeat 38 = .ok (.getfield 354, 3) := by decide +kernel
theorem dX7_receiveHeat_41 : decode cX7_receiveHeat 41 = .ok (.i2l, 1) := by decide +kernel
theorem dX7_receiveHeat_42 : decode cX7_receiveHeat 42 = .ok (.ladd, 1) := by decide +kernel
theorem dX7_receiveHeat_43 : decode cX7_receiveHeat 43 = .ok (.lastore, 1) := by decide +kernel
theorem dX7_receiveHeat_44 : decode cX7_receiveHeat 44 = .ok (.aload_n 0, 1) := by decide +kernel
theorem dX7_receiveHeat_45 : decode cX7_receiveHeat 45 = .ok (.getfield 19, 3) := by decide +kernel
theorem dX7_receiveHeat_48 : decode cX7_receiveHeat 48 = .ok (.aload_n 0, 1) := by decide +kernel
theorem dX7_receiveHeat_49 : decode cX7_receiveHeat 49 = .ok (.getfield 30, 3) := by decide +kernel
theorem dX7_receiveHeat_52 : decode cX7_receiveHeat 52 = .ok (.invokevirtual 213, 3) := by decide +kernel
theorem dX7_receiveHeat_55 : decode cX7_receiveHeat 55 = .ok (.ifCond .eq 20, 3) := by decide +kernel
theorem dX7_receiveHeat_58 : decode cX7_receiveHeat 58 = .ok (.aload_n 0, 1) := by decide +kernel
theorem dX7_receiveHeat_59 : decode cX7_receiveHeat 59 = .ok (.invokevirtual 357, 3) := by decide +kernel
theorem dX7_receiveHeat_62 : decode cX7_receiveHeat 62 = .ok (.aload_n 0, 1) := by decide +kernel
theorem dX7_receiveHeat_63 : decode cX7_receiveHeat 63 = .ok (.getfield 61, 3) := by decide +kernel
theorem dX7_receiveHeat_66 : decode cX7_receiveHeat 66 = .ok (.iconst 2, 1) := by decide +kernel
theorem dX7_receiveHeat_67 : decode cX7_receiveHeat 67 = .ok (.dup2, 1) := by decide +kernel
theorem dX7_receiveHeat_68 : decode cX7_receiveHeat 68 = .ok (.laload, 1) := by decide +kernel
theorem dX7_receiveHeat_69 : decode cX7_receiveHeat 69 = .ok (.iload_n 1, 1) := by decide +kernel
theorem dX7_receiveHeat_70 : decode cX7_receiveHeat 70 = .ok (.i2l, 1) := by decide +kernel
theorem dX7_receiveHeat_71 : decode cX7_receiveHeat 71 = .ok (.ladd, 1) := by decide +kernel
theorem dX7_receiveHeat_72 : decode cX7_receiveHeat 72 = .ok (.lastore, 1) := by decide +kernel
theorem dX7_receiveHeat_73 : decode cX7_receiveHeat 73 = .ok (.iconst 0, 1) := by decide +kernel
theorem dX7_receiveHeat_74 : decode cX7_receiveHeat 74 = .ok (.ireturn, 1) := by decide +kernel
theorem dX7_receiveHeat_75 : decode cX7_receiveHeat 75 = .ok (.aload_n 0, 1) := by decide +kernel
theorem dX7_receiveHeat_76 : decode cX7_receiveHeat 76 = .ok (.getfield 61, 3) := by decide +kernel
theorem dX7_receiveHeat_79 : decode cX7_receiveHeat 79 = .ok (.iconst 3, 1) := by decide +kernel
theorem dX7_receiveHeat_80 : decode cX7_receiveHeat 80 = .ok (.dup2, 1) := by decide +kernel
theorem dX7_receiveHeat_81 : decode cX7_receiveHeat 81 = .ok (.laload, 1) := by decide +kernel
theorem dX7_receiveHeat_82 : decode cX7_receiveHeat 82 = .ok (.iload_n 1, 1) := by decide +kernel
theorem dX7_receiveHeat_83 : decode cX7_receiveHeat 83 = .ok (.i2l, 1) := by decide +kernel
theorem dX7_receiveHeat_84 : decode cX7_receiveHeat 84 = .ok (.ladd, 1) := by decide +kernel
theorem dX7_receiveHeat_85 : decode cX7_receiveHeat 85 = .ok (.lastore, 1) := by decide +kernel
theorem dX7_receiveHeat_86 : decode cX7_receiveHeat 86 = .ok (.iload_n 1, 1) := by decide +kernel
theorem dX7_receiveHeat_87 : decode cX7_receiveHeat 87 = .ok (.ireturn, 1) := by decide +kernel
set_option maxRecDepth 20000 in
theorem ggX7_trip_X2_stowWhole : GoodIn wsX7_trip wsX2_stowWhole := goodIn_r _ [11, 12, 13, 14, 15, 16, 17, 18, 19, 20, 21, 22, 23, 24, 25, 26, 27, 28, 29, 30, 31, 32, 33, 34, 35, 36, 37, 38, 55, 56, 57, 58, 59, 60, 61, 62, 63, 64, 65, 66, 67, 68, 69, 70] (by decide +kernel) (by decide +kernel)
set_option maxRecDepth 20000 in
theorem gX7_trip_X2_stowWhole : GoodIn wsX7_trip (wsV RX7 360 RX2 yX2_stowWhole wsX2_stowWhole) := goodIn_app (goodIn_of _ (by decide +kernel)) ggX7_trip_X2_stowWhole
theorem dX7_trip_0 : decode cX7_trip 0 = .ok (.aload_n 0, 1) := by decide +kernel
theorem dX7_trip_1 : decode cX7_trip 1 = .ok (.dup, 1) := by decide +kernel
theorem dX7_trip_2 : decode cX7_trip 2 = .ok (.getfield 299, 3) := by decide +kernel
theorem dX7_trip_5 : decode cX7_trip 5 = .ok (.iconst 1, 1) := by decide +kernel
theorem dX7_trip_6 : decode cX7_trip 6 = .ok (.iadd, 1) := by decide +kernel
theorem dX7_trip_7 : decode cX7_trip 7 = .ok (.putfield 299, 3) := by decide +kernel
theorem dX7_trip_10 : decode cX7_trip 10 = .ok (.iconst 0, 1) := by decide +kernel
theorem dX7_trip_11 : decode cX7_trip 11 = .ok (.istore_n 1, 1) := by decide +kernel
theorem dX7_trip_12 : decode cX7_trip 12 = .ok (.iload_n 1, 1) := by decide +kernel
theorem dX7_trip_13 : decode cX7_trip 13 = .ok (.bipush 6, 2) := by decide +kernel
theorem dX7_trip_15 : decode cX7_trip 15 = .ok (.if_icmp .ge 37, 3) := by decide +kernel
theorem dX7_trip_18 : decode cX7_trip 18 = .ok (.aload_n 0, 1) := by decide +kernel
theorem dX7_trip_19 : decode cX7_trip 19 = .ok (.getfield 19, 3) := by decide +kernel
theorem dX7_trip_22 : decode cX7_trip 22 = .ok (.getfield 199, 3) := by decide +kernel
theorem dX7_trip_25 : decode cX7_trip 25 = .ok (.iload_n 1, 1) := by decide +kernel
theorem dX7_trip_26 : decode cX7_trip 26 = .ok (.iaload, 1) := by decide +kernel
theorem dX7_trip_27 : decode cX7_trip 27 = .ok (.aload_n 0, 1) := by decide +kernel
theorem dX7_trip_28 : decode cX7_trip 28 = .ok (.getfield 30, 3) := by decide +kernel
theorem dX7_trip_31 : decode cX7_trip 31 = .ok (.iload_n 1, 1) := by decide +kernel
theorem dX7_trip_32 : decode cX7_trip 32 = .ok (.iaload, 1) := by decide +kernel
theorem dX7_trip_33 : decode cX7_trip 33 = .ok (.if_icmp .le 13, 3) := by decide +kernel
theorem dX7_trip_36 : decode cX7_trip 36 = .ok (.aload_n 0, 1) := by decide +kernel
theorem dX7_trip_37 : decode cX7_trip 37 = .ok (.getfield 34, 3) := by decide +kernel
theorem dX7_trip_40 : decode cX7_trip 40 = .ok (.iload_n 1, 1) := by decide +kernel
theorem dX7_trip_41 : decode cX7_trip 41 = .ok (.dup2, 1) := by decide +kernel
theorem dX7_trip_42 : decode cX7_trip 42 = .ok (.iaload, 1) := by decide +kernel
theorem dX7_trip_43 : decode cX7_trip 43 = .ok (.iconst 1, 1) := by decide +kernel
theorem dX7_trip_44 : decode cX7_trip 44 = .ok (.iadd, 1) := by decide +kernel
theorem dX7_trip_45 : decode cX7_trip 45 = .ok (.iastore, 1) := by decide +kernel
theorem dX7_trip_46 : decode cX7_trip 46 = .ok (.iinc 1 1, 3) := by decide +kernel
theorem dX7_trip_49 : decode cX7_trip 49 = .ok (.goto (-37), 3) := by decide +kernel
theorem dX7_trip_52 : decode cX7_trip 52 = .ok (.aload_n 0, 1) := by decide +kernel
theorem dX7_trip_53 : decode cX7_trip 53 = .ok (.getfield 10, 3) := by decide +kernel
theorem dX7_trip_56 : decode cX7_trip 56 = .ok (.invokevirtual 360, 3) := by decide +kernel
theorem dX7_trip_59 : decode cX7_trip 59 = .ok (.return_, 1) := by decide +kernel
theorem dX7_moveSaltToHot_0 : decode cX7_moveSaltToHot 0 = .ok (.aload_n 0, 1) := by decide +kernel
theorem dX7_moveSaltToHot_1 : decode cX7_moveSaltToHot 1 = .ok (.getfield 44, 3) := by decide +kernel
theorem dX7_moveSaltToHot_4 : decode cX7_moveSaltToHot 4 = .ok (.getfield 255, 3) := by decide +kernel
theorem dX7_moveSaltToHot_7 : decode cX7_moveSaltToHot 7 = .ok (.iconst 1, 1) := by decide +kernel
theorem dX7_moveSaltToHot_8 : decode cX7_moveSaltToHot 8 = .ok (.if_icmp .ne 17, 3) := by decide +kernel
theorem dX7_moveSaltToHot_11 : decode cX7_moveSaltToHot 11 = .ok (.iload_n 1, 1) := by decide +kernel
theorem dX7_moveSaltToHot_12 : decode cX7_moveSaltToHot 12 = .ok (.bipush 100, 2) := by decide +kernel
theorem dX7_moveSaltToHot_14 : decode cX7_moveSaltToHot 14 = .ok (.idiv, 1) := by decide +kernel
theorem dX7_moveSaltToHot_15 : decode cX7_moveSaltToHot 15 = .ok (.aload_n 0, 1) := by decide +kernel
theorem dX7_moveSaltToHot_16 : decode cX7_moveSaltToHot 16 = .ok (.getfield 37, 3) := by decide +kernel
theorem dX7_moveSaltToHot_19 : decode cX7_moveSaltToHot 19 = .ok (.invokestatic 110, 3) := by decide +kernel
theorem dX7_moveSaltToHot_22 : decode cX7_moveSaltToHot 22 = .ok (.goto 4, 3) := by decide +kernel
theorem dX7_moveSaltToHot_25 : decode cX7_moveSaltToHot 25 = .ok (.iconst 0, 1) := by decide +kernel
theorem dX7_moveSaltToHot_26 : decode cX7_moveSaltToHot 26 = .ok (.istore_n 2, 1) := by decide +kernel
theorem dX7_moveSaltToHot_27 : decode cX7_moveSaltToHot 27 = .ok (.aload_n 0, 1) := by decide +kernel
theorem dX7_moveSaltToHot_28 : decode cX7_moveSaltToHot 28 = .ok (.dup, 1) := by decide +kernel
theorem dX7_moveSaltToHot_29 : decode cX7_moveSaltToHot 29 = .ok (.getfield 37, 3) := by decide +kernel
theorem dX7_moveSaltToHot_32 : decode cX7_moveSaltToHot 32 = .ok (.iload_n 2, 1) := by decide +kernel
theorem dX7_moveSaltToHot_33 : decode cX7_moveSaltToHot 33 = .ok (.isub, 1) := by decide +kernel
theorem dX7_moveSaltToHot_34 : decode cX7_moveSaltToHot 34 = .ok (.putfield 37, 3) := by decide +kernel
theorem dX7_moveSaltToHot_37 : decode cX7_moveSaltToHot 37 = .ok (.aload_n 0, 1) := by decide +kernel
theorem dX7_moveSaltToHot_38 : decode cX7_moveSaltToHot 38 = .ok (.dup, 1) := by decide +kernel
theorem dX7_moveSaltToHot_39 : decode cX7_moveSaltToHot 39 = .ok (.getfield 250, 3) := by decide +kernel
theorem dX7_moveSaltToHot_42 : decode cX7_moveSaltToHot 42 = .ok (.iload_n 2, 1) := by decide +kernel
theorem dX7_moveSaltToHot_43 : decode cX7_moveSaltToHot 43 = .ok (.iadd, 1) := by decide +kernel
theorem dX7_moveSaltToHot_44 : decode cX7_moveSaltToHot 44 = .ok (.putfield 250, 3) := by decide +kernel
theorem dX7_moveSaltToHot_47 : decode cX7_moveSaltToHot 47 = .ok (.aload_n 0, 1) := by decide +kernel
theorem dX7_moveSaltToHot_48 : decode cX7_moveSaltToHot 48 = .ok (.getfield 61, 3) := by decide +kernel
theorem dX7_moveSaltToHot_51 : decode cX7_moveSaltToHot 51 = .ok (.iconst 5, 1) := by decide +kernel
theorem dX7_moveSaltToHot_52 : decode cX7_moveSaltToHot 52 = .ok (.dup2, 1) := by decide +kernel
theorem dX7_moveSaltToHot_53 : decode cX7_moveSaltToHot 53 = .ok (.laload, 1) := by decide +kernel
theorem dX7_moveSaltToHot_54 : decode cX7_moveSaltToHot 54 = .ok (.iload_n 2, 1) := by decide +kernel
theorem dX7_moveSaltToHot_55 : decode cX7_moveSaltToHot 55 = .ok (.i2l, 1) := by decide +kernel
theorem dX7_moveSaltToHot_56 : decode cX7_moveSaltToHot 56 = .ok (.ladd, 1) := by decide +kernel
theorem dX7_moveSaltToHot_57 : decode cX7_moveSaltToHot 57 = .ok (.lastore, 1) := by decide +kernel
theorem dX7_moveSaltToHot_58 : decode cX7_moveSaltToHot 58 = .ok (.aload_n 0, 1) := by decide +kernel
theorem dX7_moveSaltToHot_59 : decode cX7_moveSaltToHot 59 = .ok (.getfield 61, 3) := by decide +kernel
theorem dX7_moveSaltToHot_62 : decode cX7_moveSaltToHot 62 = .ok (.iconst 4, 1) := by decide +kernel
theorem dX7_moveSaltToHot_63 : decode cX7_moveSaltToHot 63 = .ok (.dup2, 1) := by decide +kernel
theorem dX7_moveSaltToHot_64 : decode cX7_moveSaltToHot 64 = .ok (.laload, 1) := by decide +kernel
theorem dX7_moveSaltToHot_65 : decode cX7_moveSaltToHot 65 = .ok (.iload_n 1, 1) := by decide +kernel
theorem dX7_moveSaltToHot_66 : decode cX7_moveSaltToHot 66 = .ok (.iload_n 2, 1) := by decide +kernel
theorem dX7_moveSaltToHot_67 : decode cX7_moveSaltToHot 67 = .ok (.bipush 100, 2) := by decide +kernel
theorem dX7_moveSaltToHot_69 : decode cX7_moveSaltToHot 69 = .ok (.imul, 1) := by decide +kernel
theorem dX7_moveSaltToHot_70 : decode cX7_moveSaltToHot 70 = .ok (.isub, 1) := by decide +kernel
theorem dX7_moveSaltToHot_71 : decode cX7_moveSaltToHot 71 = .ok (.i2l, 1) := by decide +kernel
theorem dX7_moveSaltToHot_72 : decode cX7_moveSaltToHot 72 = .ok (.ladd, 1) := by decide +kernel
theorem dX7_moveSaltToHot_73 : decode cX7_moveSaltToHot 73 = .ok (.lastore, 1) := by decide +kernel
theorem dX7_moveSaltToHot_74 : decode cX7_moveSaltToHot 74 = .ok (.iload_n 2, 1) := by decide +kernel
theorem dX7_moveSaltToHot_75 : decode cX7_moveSaltToHot 75 = .ok (.ireturn, 1) := by decide +kernel
set_option maxRecDepth 20000 in
theorem ggX7_makeEnergy_X6_takeTick : GoodIn wsX7_makeEnergy wsX6_takeTick := goodIn_r _ [10, 11, 12, 13, 14, 15, 16, 17, 18, 19, 9, 20, 21, 46, 47, 48] (by decide +kernel) (by decide +kernel)
set_option maxRecDepth 20000 in
theorem gX7_makeEnergy_X6_takeTick : GoodIn wsX7_makeEnergy (wsV RX7 363 RX6 yX6_takeTick wsX6_takeTick) := goodIn_app (goodIn_of _ (by decide +kernel)) ggX7_makeEnergy_X6_takeTick
set_option maxRecDepth 20000 in
theorem ggX7_makeEnergy_X2_strengthBehind : GoodIn wsX7_makeEnergy wsX2_strengthBehind := goodIn_r _ [26, 27, 28, 29, 25, 30, 31, 49, 50, 51, 52, 53] (by decide +kernel) (by decide +kernel)
set_option maxRecDepth 20000 in
theorem gX7_makeEnergy_X2_strengthBehind : GoodIn wsX7_makeEnergy (wsV RX7 140 RX2 yX2_strengthBehind wsX2_strengthBehind) := goodIn_app (goodIn_of _ (by decide +kernel)) ggX7_makeEnergy_X2_strengthBehind
theorem dX7_makeEnergy_0 : decode cX7_makeEnergy 0 = .ok (.aload_n 0, 1) := by decide +kernel
theorem dX7_makeEnergy_1 : decode cX7_makeEnergy 1 = .ok (.getfield 51, 3) := by decide +kernel
theorem dX7_makeEnergy_4 : decode cX7_makeEnergy 4 = .ok (.aload_n 0, 1) := by decide +kernel
theorem dX7_makeEnergy_5 : decode cX7_makeEnergy 5 = .ok (.getfield 250, 3) := by decide +kernel
theorem dX7_makeEnergy_8 : decode cX7_makeEnergy 8 = .ok (.invokevirtual 363, 3) := by decide +kernel
theorem dX7_makeEnergy_11 : decode cX7_makeEnergy 11 = .ok (.istore_n 1, 1) := by decide +kernel
theorem dX7_makeEnergy_12 : decode cX7_makeEnergy 12 = .ok (.aload_n 0, 1) := by decide +kernel
theorem dX7_makeEnergy_13 : decode cX7_makeEnergy 13 = .ok (.dup, 1) := by decide +kernel
theorem dX7_makeEnergy_14 : decode cX7_makeEnergy 14 = .ok (.getfield 250, 3) := by decide +kernel
theorem dX7_makeEnergy_17 : decode cX7_makeEnergy 17 = .ok (.iload_n 1, 1) := by decide +kernel
theorem dX7_makeEnergy_18 : decode cX7_makeEnergy 18 = .ok (.isub, 1) := by decide +kernel
theorem dX7_makeEnergy_19 : decode cX7_makeEnergy 19 = .ok (.putfield 250, 3) := by decide +kernel
theorem dX7_makeEnergy_22 : decode cX7_makeEnergy 22 = .ok (.aload_n 0, 1) := by decide +kernel
theorem dX7_makeEnergy_23 : decode cX7_makeEnergy 23 = .ok (.dup, 1) := by decide +kernel
theorem dX7_makeEnergy_24 : decode cX7_makeEnergy 24 = .ok (.getfield 37, 3) := by decide +kernel
theorem dX7_makeEnergy_27 : decode cX7_makeEnergy 27 = .ok (.iload_n 1, 1) := by decide +kernel
theorem dX7_makeEnergy_28 : decode cX7_makeEnergy 28 = .ok (.iadd, 1) := by decide +kernel
theorem dX7_makeEnergy_29 : decode cX7_makeEnergy 29 = .ok (.putfield 37, 3) := by decide +kernel
theorem dX7_makeEnergy_32 : decode cX7_makeEnergy 32 = .ok (.iload_n 1, 1) := by decide +kernel
theorem dX7_makeEnergy_33 : decode cX7_makeEnergy 33 = .ok (.bipush 10, 2) := by decide +kernel
theorem dX7_makeEnergy_35 : decode cX7_makeEnergy 35 = .ok (.aload_n 0, 1) := by decide +kernel
theorem dX7_makeEnergy_36 : decode cX7_makeEnergy 36 = .ok (.getfield 10, 3) := by decide +kernel
theorem dX7_makeEnergy_39 : decode cX7_makeEnergy 39 = .ok (.iconst 0, 1) := by decide +kernel
theorem dX7_makeEnergy_40 : decode cX7_makeEnergy 40 = .ok (.invokevirtual 140, 3) := by decide +kernel
theorem dX7_makeEnergy_43 : decode cX7_makeEnergy 43 = .ok (.iconst 5, 1) := by decide +kernel
theorem dX7_makeEnergy_44 : decode cX7_makeEnergy 44 = .ok (.idiv, 1) := by decide +kernel
theorem dX7_makeEnergy_45 : decode cX7_makeEnergy 45 = .ok (.isub, 1) := by decide +kernel
theorem dX7_makeEnergy_46 : decode cX7_makeEnergy 46 = .ok (.imul, 1) := by decide +kernel
theorem dX7_makeEnergy_47 : decode cX7_makeEnergy 47 = .ok (.istore_n 2, 1) := by decide +kernel
theorem dX7_makeEnergy_48 : decode cX7_makeEnergy 48 = .ok (.aload_n 0, 1) := by decide +kernel
theorem dX7_makeEnergy_49 : decode cX7_makeEnergy 49 = .ok (.getfield 61, 3) := by decide +kernel
theorem dX7_makeEnergy_52 : decode cX7_makeEnergy 52 = .ok (.bipush 6, 2) := by decide +kernel
theorem dX7_makeEnergy_54 : decode cX7_makeEnergy 54 = .ok (.dup2, 1) := by decide +kernel
theorem dX7_makeEnergy_55 : decode cX7_makeEnergy 55 = .ok (.laload, 1) := by decide +kernel
theorem dX7_makeEnergy_56 : decode cX7_makeEnergy 56 = .ok (.iload_n 2, 1) := by decide +kernel
theorem dX7_makeEnergy_57 : decode cX7_makeEnergy 57 = .ok (.i2l, 1) := by decide +kernel
theorem dX7_makeEnergy_58 : decode cX7_makeEnergy 58 = .ok (.ladd, 1) := by decide +kernel
theorem dX7_makeEnergy_59 : decode cX7_makeEnergy 59 = .ok (.lastore, 1) := by decide +kernel
theorem dX7_makeEnergy_60 : decode cX7_makeEnergy 60 = .ok (.iload_n 2, 1) := by decide +kernel
theorem dX7_makeEnergy_61 : decode cX7_makeEnergy 61 = .ok (.ireturn, 1) := by decide +kernel
theorem dX7_payForTrace_0 : decode cX7_payForTrace 0 = .ok (.aload_n 0, 1) := by decide +kernel
theorem dX7_payForTrace_1 : decode cX7_payForTrace 1 = .ok (.getfield 44, 3) := by decide +kernel
theorem dX7_payForTrace_4 : decode cX7_payForTrace 4 = .ok (.getfield 271, 3) := by decide +kernel
theorem dX7_payForTrace_7 : decode cX7_payForTrace 7 = .ok (.ifCond .eq 7, 3) := by decide +kernel
theorem dX7_payForTrace_10 : decode cX7_payForTrace 10 = .ok (.iconst 2, 1) := by decide +kernel
theorem dX7_payForTrace_11 : decode cX7_payForTrace 11 = .ok (.goto 4, 3) := by decide +kernel
theorem dX7_payForTrace_14 : decode cX7_payForTrace 14 = .ok (.iconst 0, 1) := by decide +kernel
theorem dX7_payForTrace_15 : decode cX7_payForTrace 15 = .ok (.istore_n 2, 1) := by decide +kernel
theorem dX7_payForTrace_16 : decode cX7_payForTrace 16 = .ok (.iload_n 2, 1) := by decide +kernel
theorem dX7_payForTrace_17 : decode cX7_payForTrace 17 = .ok (.iload_n 1, 1) := by decide +kernel
theorem dX7_payForTrace_18 : decode cX7_payForTrace 18 = .ok (.invokestatic 110, 3) := by decide +kernel
theorem dX7_payForTrace_21 : decode cX7_payForTrace 21 = .ok (.istore_n 3, 1) := by decide +kernel
theorem dX7_payForTrace_22 : decode cX7_payForTrace 22 = .ok (.aload_n 0, 1) := by decide +kernel
theorem dX7_payForTrace_23 : decode cX7_payForTrace 23 = .ok (.getfield 61, 3) := by decide +kernel
theorem dX7_payForTrace_26 : decode cX7_payForTrace 26 = .ok (.bipush 7, 2) := by decide +kernel
theorem dX7_payForTrace_28 : decode cX7_payForTrace 28 = .ok (.dup2, 1) := by decide +kernel
theorem dX7_payForTrace_29 : decode cX7_payForTrace 29 = .ok (.laload, 1) := by decide +kernel
theorem dX7_payForTrace_30 : decode cX7_payForTrace 30 = .ok (.iload_n 2, 1) := by decide +kernel
theorem dX7_payForTrace_31 : decode cX7_payForTrace 31 = .ok (.i2l, 1) := by decide +kernel
theorem dX7_payForTrace_32 : decode cX7_payForTrace 32 = .ok (.ladd, 1) := by decide +kernel
theorem dX7_payForTrace_33 : decode cX7_payForTrace 33 = .ok (.lastore, 1) := by decide +kernel
theorem dX7_payForTrace_34 : decode cX7_payForTrace 34 = .ok (.aload_n 0, 1) := by decide +kernel
theorem dX7_payForTrace_35 : decode cX7_payForTrace 35 = .ok (.getfield 61, 3) := by decide +kernel
theorem dX7_payForTrace_38 : decode cX7_payForTrace 38 = .ok (.bipush 8, 2) := by decide +kernel
theorem dX7_payForTrace_40 : decode cX7_payForTrace 40 = .ok (.dup2, 1) := by decide +kernel
theorem dX7_payForTrace_41 : decode cX7_payForTrace 41 = .ok (.laload, 1) := by decide +kernel
theorem dX7_payForTrace_42 : decode cX7_payForTrace 42 = .ok (.iload_n 2, 1) := by decide +kernel
theorem dX7_payForTrace_43 : decode cX7_payForTrace 43 = .ok (.iload_n 3, 1) := by decide +kernel
theorem dX7_payForTrace_44 : decode cX7_payForTrace 44 = .ok (.isub, 1) := by decide +kernel
theorem dX7_payForTrace_45 : decode cX7_payForTrace 45 = .ok (.i2l, 1) := by decide +kernel
theorem dX7_payForTrace_46 : decode cX7_payForTrace 46 = .ok (.ladd, 1) := by decide +kernel
theorem dX7_payForTrace_47 : decode cX7_payForTrace 47 = .ok (.lastore, 1) := by decide +kernel
theorem dX7_payForTrace_48 : decode cX7_payForTrace 48 = .ok (.iload_n 3, 1) := by decide +kernel
theorem dX7_payForTrace_49 : decode cX7_payForTrace 49 = .ok (.ireturn, 1) := by decide +kernel
set_option maxRecDepth 20000 in
theorem ggX7_shareEnergy_X2_hourBehind : GoodIn wsX7_shareEnergy wsX2_hourBehind := goodIn_r _ [13, 14, 29, 30, 31, 32, 33] (by decide +kernel) (by decide +kernel)
set_option maxRecDepth 20000 in
theorem gX7_shareEnergy_X2_hourBehind : GoodIn wsX7_shareEnergy (wsV RX7 365 RX2 yX2_hourBehind wsX2_hourBehind) := goodIn_app (goodIn_of _ (by decide +kernel)) ggX7_shareEnergy_X2_hourBehind
theorem dX7_shareEnergy_0 : decode cX7_shareEnergy 0 = .ok (.aload_n 0, 1) := by decide +kernel
theorem dX7_shareEnergy_1 : decode cX7_shareEnergy 1 = .ok (.getfield 10, 3) := by decide +kernel
theorem dX7_shareEnergy_4 : decode cX7_shareEnergy 4 = .ok (.iconst 0, 1) := by decide +kernel
theorem dX7_shareEnergy_5 : decode cX7_shareEnergy 5 = .ok (.invokevirtual 365, 3) := by decide +kernel
theorem dX7_shareEnergy_8 : decode cX7_shareEnergy 8 = .ok (.istore_n 2, 1) := by decide +kernel
theorem dX7_shareEnergy_9 : decode cX7_shareEnergy 9 = .ok (.aload_n 0, 1) := by decide +kernel
theorem dX7_shareEnergy_10 : decode cX7_shareEnergy 10 = .ok (.getfield 58, 3) := by decide +kernel
theorem dX7_shareEnergy_13 : decode cX7_shareEnergy 13 = .ok (.iload_n 2, 1) := by decide +kernel
theorem dX7_shareEnergy_14 : decode cX7_shareEnergy 14 = .ok (.iaload, 1) := by decide +kernel
theorem dX7_shareEnergy_15 : decode cX7_shareEnergy 15 = .ok (.iload_n 1, 1) := by decide +kernel
theorem dX7_shareEnergy_16 : decode cX7_shareEnergy 16 = .ok (.invokestatic 110, 3) := by decide +kernel
theorem dX7_shareEnergy_19 : decode cX7_shareEnergy 19 = .ok (.istore_n 3, 1) := by decide +kernel
theorem dX7_shareEnergy_20 : decode cX7_shareEnergy 20 = .ok (.iload_n 1, 1) := by decide +kernel
theorem dX7_shareEnergy_21 : decode cX7_shareEnergy 21 = .ok (.iload_n 3, 1) := by decide +kernel
theorem dX7_shareEnergy_22 : decode cX7_shareEnergy 22 = .ok (.isub, 1) := by decide +kernel
theorem dX7_shareEnergy_23 : decode cX7_shareEnergy 23 = .ok (.istore 4, 2) := by decide +kernel
theorem dX7_shareEnergy_25 : decode cX7_shareEnergy 25 = .ok (.aload_n 0, 1) := by decide +kernel
theorem dX7_shareEnergy_26 : decode cX7_shareEnergy 26 = .ok (.getfield 61, 3) := by decide +kernel
theorem dX7_shareEnergy_29 : decode cX7_shareEnergy 29 = .ok (.bipush 9, 2) := by decide +kernel
theorem dX7_shareEnergy_31 : decode cX7_shareEnergy 31 = .ok (.dup2, 1) := by decide +kernel
theorem dX7_shareEnergy_32 : decode cX7_shareEnergy 32 = .ok (.laload, 1) := by decide +kernel
theorem dX7_shareEnergy_33 : decode cX7_shareEnergy 33 = .ok (.iload_n 3, 1) := by decide +kernel
theorem dX7_shareEnergy_34 : decode cX7_shareEnergy 34 = .ok (.i2l, 1) := by decide +kernel
theorem dX7_shareEnergy_35 : decode cX7_shareEnergy 35 = .ok (.ladd, 1) := by decide +kernel
theorem dX7_shareEnergy_36 : decode cX7_shareEnergy 36 = .ok (.lastore, 1) := by decide +kernel
theorem dX7_shareEnergy_37 : decode cX7_shareEnergy 37 = .ok (.aload_n 0, 1) := by decide +kernel
theorem dX7_shareEnergy_38 : decode cX7_shareEnergy 38 = .ok (.getfield 61, 3) := by decide +kernel
theorem dX7_shareEnergy_41 : decode cX7_shareEnergy 41 = .ok (.bipush 10, 2) := by decide +kernel
theorem dX7_shareEnergy_43 : decode cX7_shareEnergy 43 = .ok (.dup2, 1) := by decide +kernel
theorem dX7_shareEnergy_44 : decode cX7_shareEnergy 44 = .ok (.laload, 1) := by decide +kernel
theorem dX7_shareEnergy_45 : decode cX7_shareEnergy 45 = .ok (.aload_n 0, 1) := by decide +kernel
theorem dX7_shareEnergy_46 : decode cX7_shareEnergy 46 = .ok (.getfield 58, 3) := by decide +kernel
theorem dX7_shareEnergy_49 : decode cX7_shareEnergy 49 = .ok (.iload_n 2, 1) := by decide +kernel
theorem dX7_shareEnergy_50 : decode cX7_shareEnergy 50 = .ok (.iaload, 1) := by decide +kernel
theorem dX7_shareEnergy_51 : decode cX7_shareEnergy 51 = .ok (.iload_n 3, 1) := by decide +kernel
theorem dX7_shareEnergy_52 : decode cX7_shareEnergy 52 = .ok (.isub, 1) := by decide +kernel
theorem dX7_shareEnergy_53 : decode cX7_shareEnergy 53 = .ok (.i2l, 1) := by decide +kernel
theorem dX7_shareEnergy_54 : decode cX7_shareEnergy 54 = .ok (.ladd, 1) := by decide +kernel
theorem dX7_shareEnergy_55 : decode cX7_shareEnergy 55 = .ok (.lastore, 1) := by decide +kernel
theorem dX7_shareEnergy_56 : decode cX7_shareEnergy 56 = .ok (.aload_n 0, 1) := by decide +kernel
theorem dX7_shareEnergy_57 : decode cX7_shareEnergy 57 = .ok (.getfield 61, 3) := by decide +kernel
theorem dX7_shareEnergy_60 : decode cX7_shareEnergy 60 = .ok (.bipush 11, 2) := by decide +kernel
theorem dX7_shareEnergy_62 : decode cX7_shareEnergy 62 = .ok (.dup2, 1) := by decide +kernel
theorem dX7_shareEnergy_63 : decode cX7_shareEnergy 63 = .ok (.laload, 1) := by decide +kernel
theorem dX7_shareEnergy_64 : decode cX7_shareEnergy 64 = .ok (.iload 4, 2) := by decide +kernel
theorem dX7_shareEnergy_66 : decode cX7_shareEnergy 66 = .ok (.i2l, 1) := by decide +kernel
theorem dX7_shareEnergy_67 : decode cX7_shareEnergy 67 = .ok (.ladd, 1) := by decide +kernel
theorem dX7_shareEnergy_68 : decode cX7_shareEnergy 68 = .ok (.lastore, 1) := by decide +kernel
theorem dX7_shareEnergy_69 : decode cX7_shareEnergy 69 = .ok (.aload_n 0, 1) := by decide +kernel
theorem dX7_shareEnergy_70 : decode cX7_shareEnergy 70 = .ok (.getfield 61, 3) := by decide +kernel
theorem dX7_shareEnergy_73 : decode cX7_shareEnergy 73 = .ok (.bipush 12, 2) := by decide +kernel
theorem dX7_shareEnergy_75 : decode cX7_shareEnergy 75 = .ok (.dup2, 1) := by decide +kernel
theorem dX7_shareEnergy_76 : decode cX7_shareEnergy 76 = .ok (.laload, 1) := by decide +kernel
theorem dX7_shareEnergy_77 : decode cX7_shareEnergy 77 = .ok (.iload 4, 2) := by decide +kernel
theorem dX7_shareEnergy_79 : decode cX7_shareEnergy 79 = .ok (.aload_n 0, 1) := by decide +kernel
theorem dX7_shareEnergy_80 : decode cX7_shareEnergy 80 = .ok (.getfield 55, 3) := by decide +kernel
theorem dX7_shareEnergy_83 : decode cX7_shareEnergy 83 = .ok (.iload_n 2, 1) := by decide +kernel
theorem dX7_shareEnergy_84 : decode cX7_shareEnergy 84 = .ok (.iaload, 1) := by decide +kernel
theorem dX7_shareEnergy_85 : decode cX7_shareEnergy 85 = .ok (.imul, 1) := by decide +kernel
theorem dX7_shareEnergy_86 : decode cX7_shareEnergy 86 = .ok (.i2l, 1) := by decide +kernel
theorem dX7_shareEnergy_87 : decode cX7_shareEnergy 87 = .ok (.ladd, 1) := by decide +kernel
theorem dX7_shareEnergy_88 : decode cX7_shareEnergy 88 = .ok (.lastore, 1) := by decide +kernel
theorem dX7_shareEnergy_89 : decode cX7_shareEnergy 89 = .ok (.return_, 1) := by decide +kernel
theorem dJ6_bitCount_0f7a4_0 : decode cJ6_bitCount_0f7a4 0 = .ok (.iload_n 0, 1) := by decide +kernel
theorem dJ6_bitCount_0f7a4_1 : decode cJ6_bitCount_0f7a4 1 = .ok (.iload_n 0, 1) := by decide +kernel
theorem dJ6_bitCount_0f7a4_2 : decode cJ6_bitCount_0f7a4 2 = .ok (.iconst 1, 1) := by decide +kernel
theorem dJ6_bitCount_0f7a4_3 : decode cJ6_bitCount_0f7a4 3 = .ok (.iushr, 1) := by decide +kernel
theorem dJ6_bitCount_0f7a4_4 : decode cJ6_bitCount_0f7a4 4 = .ok (.ldc_w 265, 3) := by decide +kernel
theorem dJ6_bitCount_0f7a4_7 : decode cJ6_bitCount_0f7a4 7 = .ok (.iand, 1) := by decide +kernel
theorem dJ6_bitCount_0f7a4_8 : decode cJ6_bitCount_0f7a4 8 = .ok (.isub, 1) := by decide +kernel
theorem dJ6_bitCount_0f7a4_9 : decode cJ6_bitCount_0f7a4 9 = .ok (.istore_n 0, 1) := by decide +kernel
theorem dJ6_bitCount_0f7a4_10 : decode cJ6_bitCount_0f7a4 10 = .ok (.iload_n 0, 1) := by decide +kernel
theorem dJ6_bitCount_0f7a4_11 : decode cJ6_bitCount_0f7a4 11 = .ok (.ldc_w 266, 3) := by decide +kernel
theorem dJ6_bitCount_0f7a4_14 : decode cJ6_bitCount_0f7a4 14 = .ok (.iand, 1) := by decide +kernel
theorem dJ6_bitCount_0f7a4_15 : decode cJ6_bitCount_0f7a4 15 = .ok (.iload_n 0, 1) := by decide +kernel
theorem dJ6_bitCount_0f7a4_16 : decode cJ6_bitCount_0f7a4 16 = .ok (.iconst 2, 1) := by decide +kernel
theorem dJ6_bitCount_0f7a4_17 : decode cJ6_bitCount_0f7a4 17 = .ok (.iushr, 1) := by decide +kernel
theorem dJ6_bitCount_0f7a4_18 : decode cJ6_bitCount_0f7a4 18 = .ok (.ldc_w 266, 3) := by decide +kernel
theorem dJ6_bitCount_0f7a4_21 : decode cJ6_bitCount_0f7a4 21 = .ok (.iand, 1) := by decide +kernel
theorem dJ6_bitCount_0f7a4_22 : decode cJ6_bitCount_0f7a4 22 = .ok (.iadd, 1) := by decide +kernel
theorem dJ6_bitCount_0f7a4_23 : decode cJ6_bitCount_0f7a4 23 = .ok (.istore_n 0, 1) := by decide +kernel
theorem dJ6_bitCount_0f7a4_24 : decode cJ6_bitCount_0f7a4 24 = .ok (.iload_n 0, 1) := by decide +kernel
theorem dJ6_bitCount_0f7a4_25 : decode cJ6_bitCount_0f7a4 25 = .ok (.iload_n 0, 1) := by decide +kernel
theorem dJ6_bitCount_0f7a4_26 : decode cJ6_bitCount_0f7a4 26 = .ok (.iconst 4, 1) := by decide +kernel
theorem dJ6_bitCount_0f7a4_27 : decode cJ6_bitCount_0f7a4 27 = .ok (.iushr, 1) := by decide +kernel
theorem dJ6_bitCount_0f7a4_28 : decode cJ6_bitCount_0f7a4 28 = .ok (.iadd, 1) := by decide +kernel
theorem dJ6_bitCount_0f7a4_29 : decode cJ6_bitCount_0f7a4 29 = .ok (.ldc_w 267, 3) := by decide +kernel
theorem dJ6_bitCount_0f7a4_32 : decode cJ6_bitCount_0f7a4 32 = .ok (.iand, 1) := by decide +kernel
theorem dJ6_bitCount_0f7a4_33 : decode cJ6_bitCount_0f7a4 33 = .ok (.istore_n 0, 1) := by decide +kernel
theorem dJ6_bitCount_0f7a4_34 : decode cJ6_bitCount_0f7a4 34 = .ok (.iload_n 0, 1) := by decide +kernel
theorem dJ6_bitCount_0f7a4_35 : decode cJ6_bitCount_0f7a4 35 = .ok (.iload_n 0, 1) := by decide +kernel
theorem dJ6_bitCount_0f7a4_36 : decode cJ6_bitCount_0f7a4 36 = .ok (.bipush 8, 2) := by decide +kernel
theorem dJ6_bitCount_0f7a4_38 : decode cJ6_bitCount_0f7a4 38 = .ok (.iushr, 1) := by decide +kernel
theorem dJ6_bitCount_0f7a4_39 : decode cJ6_bitCount_0f7a4 39 = .ok (.iadd, 1) := by decide +kernel
theorem dJ6_bitCount_0f7a4_40 : decode cJ6_bitCount_0f7a4 40 = .ok (.istore_n 0, 1) := by decide +kernel
theorem dJ6_bitCount_0f7a4_41 : decode cJ6_bitCount_0f7a4 41 = .ok (.iload_n 0, 1) := by decide +kernel
theorem dJ6_bitCount_0f7a4_42 : decode cJ6_bitCount_0f7a4 42 = .ok (.iload_n 0, 1) := by decide +kernel
theorem dJ6_bitCount_0f7a4_43 : decode cJ6_bitCount_0f7a4 43 = .ok (.bipush 16, 2) := by decide +kernel
theorem dJ6_bitCount_0f7a4_45 : decode cJ6_bitCount_0f7a4 45 = .ok (.iushr, 1) := by decide +kernel
theorem dJ6_bitCount_0f7a4_46 : decode cJ6_bitCount_0f7a4 46 = .ok (.iadd, 1) := by decide +kernel
theorem dJ6_bitCount_0f7a4_47 : decode cJ6_bitCount_0f7a4 47 = .ok (.istore_n 0, 1) := by decide +kernel
theorem dJ6_bitCount_0f7a4_48 : decode cJ6_bitCount_0f7a4 48 = .ok (.iload_n 0, 1) := by decide +kernel
theorem dJ6_bitCount_0f7a4_49 : decode cJ6_bitCount_0f7a4 49 = .ok (.bipush 63, 2) := by decide +kernel
theorem dJ6_bitCount_0f7a4_51 : decode cJ6_bitCount_0f7a4 51 = .ok (.iand, 1) := by decide +kernel
theorem dJ6_bitCount_0f7a4_52 : decode cJ6_bitCount_0f7a4 52 = .ok (.ireturn, 1) := by decide +kernel
theorem dJ9_abs_0f7a4_0 : decode cJ9_abs_0f7a4 0 = .ok (.iload_n 0, 1) := by decide +kernel
theorem dJ9_abs_0f7a4_1 : decode cJ9_abs_0f7a4 1 = .ok (.ifCond .ge 8, 3) := by decide +kernel
theorem dJ9_abs_0f7a4_4 : decode cJ9_abs_0f7a4 4 = .ok (.iload_n 0, 1) := by decide +kernel
theorem dJ9_abs_0f7a4_5 : decode cJ9_abs_0f7a4 5 = .ok (.ineg, 1) := by decide +kernel
theorem dJ9_abs_0f7a4_6 : decode cJ9_abs_0f7a4 6 = .ok (.goto 4, 3) := by decide +kernel
theorem dJ9_abs_0f7a4_9 : decode cJ9_abs_0f7a4 9 = .ok (.iload_n 0, 1) := by decide +kernel
theorem dJ9_abs_0f7a4_10 : decode cJ9_abs_0f7a4 10 = .ok (.ireturn, 1) := by decide +kernel
theorem dJ9_max_7cf53_0 : decode cJ9_max_7cf53 0 = .ok (.iload_n 0, 1) := by decide +kernel
theorem dJ9_max_7cf53_1 : decode cJ9_max_7cf53 1 = .ok (.iload_n 1, 1) := by decide +kernel
theorem dJ9_max_7cf53_2 : decode cJ9_max_7cf53 2 = .ok (.if_icmp .lt 7, 3) := by decide +kernel
theorem dJ9_max_7cf53_5 : decode cJ9_max_7cf53 5 = .ok (.iload_n 0, 1) := by decide +kernel
theorem dJ9_max_7cf53_6 : decode cJ9_max_7cf53 6 = .ok (.goto 4, 3) := by decide +kernel
theorem dJ9_max_7cf53_9 : decode cJ9_max_7cf53 9 = .ok (.iload_n 1, 1) := by decide +kernel
theorem dJ9_max_7cf53_10 : decode cJ9_max_7cf53 10 = .ok (.ireturn, 1) := by decide +kernel
theorem dJ9_min_7cf53_0 : decode cJ9_min_7cf53 0 = .ok (.iload_n 0, 1) := by decide +kernel
theorem dJ9_min_7cf53_1 : decode cJ9_min_7cf53 1 = .ok (.iload_n 1, 1) := by decide +kernel
theorem dJ9_min_7cf53_2 : decode cJ9_min_7cf53 2 = .ok (.if_icmp .gt 7, 3) := by decide +kernel
theorem dJ9_min_7cf53_5 : decode cJ9_min_7cf53 5 = .ok (.iload_n 0, 1) := by decide +kernel
theorem dJ9_min_7cf53_6 : decode cJ9_min_7cf53 6 = .ok (.goto 4, 3) := by decide +kernel
theorem dJ9_min_7cf53_9 : decode cJ9_min_7cf53 9 = .ok (.iload_n 1, 1) := by decide +kernel
theorem dJ9_min_7cf53_10 : decode cJ9_min_7cf53 10 = .ok (.ireturn, 1) := by decide +kernel
theorem dJxa1e45_init_da8c8_0 : decode cJxa1e45_init_da8c8 0 = .ok (.aload_n 0, 1) := by decide +kernel
theorem dJxa1e45_init_da8c8_1 : decode cJxa1e45_init_da8c8 1 = .ok (.invokespecial 1, 3) := by decide +kernel
theorem dJxa1e45_init_da8c8_4 : decode cJxa1e45_init_da8c8 4 = .ok (.return_, 1) := by decide +kernel
set_option maxRecDepth 20000 in
theorem ggJxc12de_init_da8c8_Jxa1e45_init_da8c8 : GoodIn wsJxc12de_init_da8c8 wsJxa1e45_init_da8c8 := goodIn_r _ [5, 6, 7, 8] (by decide +kernel) (by decide +kernel)
set_option maxRecDepth 20000 in
theorem gJxc12de_init_da8c8_Jxa1e45_init_da8c8 : GoodIn wsJxc12de_init_da8c8 (wsJxa1e45_init_da8c8) := ggJxc12de_init_da8c8_Jxa1e45_init_da8c8
theorem dJxc12de_init_da8c8_0 : decode cJxc12de_init_da8c8 0 = .ok (.aload_n 0, 1) := by decide +kernel
theorem dJxc12de_init_da8c8_1 : decode cJxc12de_init_da8c8 1 = .ok (.invokespecial 1, 3) := by decide +kernel
theorem dJxc12de_init_da8c8_4 : decode cJxc12de_init_da8c8 4 = .ok (.aload_n 0, 1) := by decide +kernel
theorem dJxc12de_init_da8c8_5 : decode cJxc12de_init_da8c8 5 = .ok (.iconst 0, 1) := by decide +kernel
theorem dJxc12de_init_da8c8_6 : decode cJxc12de_init_da8c8 6 = .ok (.putfield 7, 3) := by decide +kernel
theorem dJxc12de_init_da8c8_9 : decode cJxc12de_init_da8c8 9 = .ok (.return_, 1) := by decide +kernel
set_option maxRecDepth 20000 in
theorem ggJx4a65c_init_da8c8_Jxc12de_init_da8c8 : GoodIn wsJx4a65c_init_da8c8 wsJxc12de_init_da8c8 := goodIn_r _ [6, 7, 8, 9, 10, 11, 12, 13, 14, 15, 16, 17] (by decide +kernel) (by decide +kernel)
set_option maxRecDepth 20000 in
theorem gJx4a65c_init_da8c8_Jxc12de_init_da8c8 : GoodIn wsJx4a65c_init_da8c8 (wsJxc12de_init_da8c8) := ggJx4a65c_init_da8c8_Jxc12de_init_da8c8
theorem dJx4a65c_init_da8c8_0 : decode cJx4a65c_init_da8c8 0 = .ok (.aload_n 0, 1) := by decide +kernel
theorem dJx4a65c_init_da8c8_1 : decode cJx4a65c_init_da8c8 1 = .ok (.invokespecial 1, 3) := by decide +kernel
theorem dJx4a65c_init_da8c8_4 : decode cJx4a65c_init_da8c8 4 = .ok (.aload_n 0, 1) := by decide +kernel
theorem dJx4a65c_init_da8c8_5 : decode cJx4a65c_init_da8c8 5 = .ok (.getstatic 39, 3) := by decide +kernel
theorem dJx4a65c_init_da8c8_8 : decode cJx4a65c_init_da8c8 8 = .ok (.putfield 9, 3) := by decide +kernel
theorem dJx4a65c_init_da8c8_11 : decode cJx4a65c_init_da8c8 11 = .ok (.return_, 1) := by decide +kernel
set_option maxRecDepth 20000 in
theorem ggJx4a65c_grow_92f84_J8_newLength_cabcc : GoodIn wsJx4a65c_grow_92f84 wsJ8_newLength_cabcc := goodIn_r _ [11, 12, 4, 5, 6, 13, 14, 15, 10, 16] (by decide +kernel) (by decide +kernel)
set_option maxRecDepth 20000 in
theorem gJx4a65c_grow_92f84_J8_newLength_cabcc : GoodIn wsJx4a65c_grow_92f84 (va_wsS RJx4a65c 73 yJ8_newLength_cabcc wsJ8_newLength_cabcc) := goodIn_app (goodIn_of _ (by decide +kernel)) ggJx4a65c_grow_92f84_J8_newLength_cabcc
set_option maxRecDepth 20000 in
theorem ggJx4a65c_grow_92f84_J7_copyOf_1904c : GoodIn wsJx4a65c_grow_92f84 wsJ7_copyOf_1904c := goodIn_r _ [20, 21, 22, 23, 24, 25, 26, 19, 27, 28, 29, 30, 31, 5, 32, 33, 34, 35, 36] (by decide +kernel) (by decide +kernel)
set_option maxRecDepth 20000 in
theorem gJx4a65c_grow_92f84_J7_copyOf_1904c : GoodIn wsJx4a65c_grow_92f84 (va_wsS RJx4a65c 66 yJ7_copyOf_1904c wsJ7_copyOf_1904c) := goodIn_app (goodIn_of _ (by decide +kernel)) ggJx4a65c_grow_92f84_J7_copyOf_1904c
theorem dJx4a65c_grow_92f84_0 : decode cJx4a65c_grow_92f84 0 = .ok (.aload_n 0, 1) := by decide +kernel
theorem dJx4a65c_grow_92f84_1 : decode cJx4a65c_grow_92f84 1 = .ok (.getfield 9, 3) := by decide +kernel
theorem dJx4a65c_grow_92f84_4 : decode cJx4a65c_grow_92f84 4 = .ok (.arraylength, 1) := by decide +kernel
theorem dJx4a65c_grow_92f84_5 : decode cJx4a65c_grow_92f84 5 = .ok (.istore_n 2, 1) := by decide +kernel
theorem dJx4a65c_grow_92f84_6 : decode cJx4a65c_grow_92f84 6 = .ok (.iload_n 2, 1) := by decide +kernel
theorem dJx4a65c_grow_92f84_7 : decode cJx4a65c_grow_92f84 7 = .ok (.ifCond .gt 13, 3) := by decide +kernel
theorem dJx4a65c_grow_92f84_10 : decode cJx4a65c_grow_92f84 10 = .ok (.aload_n 0, 1) := by decide +kernel
theorem dJx4a65c_grow_92f84_11 : decode cJx4a65c_grow_92f84 11 = .ok (.getfield 9, 3) := by decide +kernel
theorem dJx4a65c_grow_92f84_14 : decode cJx4a65c_grow_92f84 14 = .ok (.getstatic 39, 3) := by decide +kernel
theorem dJx4a65c_grow_92f84_17 : decode cJx4a65c_grow_92f84 17 = .ok (.if_acmp .eq 28, 3) := by decide +kernel
theorem dJx4a65c_grow_92f84_20 : decode cJx4a65c_grow_92f84 20 = .ok (.iload_n 2, 1) := by decide +kernel
theorem dJx4a65c_grow_92f84_21 : decode cJx4a65c_grow_92f84 21 = .ok (.iload_n 1, 1) := by decide +kernel
theorem dJx4a65c_grow_92f84_22 : decode cJx4a65c_grow_92f84 22 = .ok (.iload_n 2, 1) := by decide +kernel
theorem dJx4a65c_grow_92f84_23 : decode cJx4a65c_grow_92f84 23 = .ok (.isub, 1) := by decide +kernel
theorem dJx4a65c_grow_92f84_24 : decode cJx4a65c_grow_92f84 24 = .ok (.iload_n 2, 1) := by decide +kernel
theorem dJx4a65c_grow_92f84_25 : decode cJx4a65c_grow_92f84 25 = .ok (.iconst 1, 1) := by decide +kernel
theorem dJx4a65c_grow_92f84_26 : decode cJx4a65c_grow_92f84 26 = .ok (.ishr, 1) := by decide +kernel
theorem dJx4a65c_grow_92f84_27 : decode cJx4a65c_grow_92f84 27 = .ok (.invokestatic 73, 3) := by decide +kernel
theorem dJx4a65c_grow_92f84_30 : decode cJx4a65c_grow_92f84 30 = .ok (.istore_n 3, 1) := by decide +kernel
theorem dJx4a65c_grow_92f84_31 : decode cJx4a65c_grow_92f84 31 = .ok (.aload_n 0, 1) := by decide +kernel
theorem dJx4a65c_grow_92f84_32 : decode cJx4a65c_grow_92f84 32 = .ok (.aload_n 0, 1) := by decide +kernel
theorem dJx4a65c_grow_92f84_33 : decode cJx4a65c_grow_92f84 33 = .ok (.getfield 9, 3) := by decide +kernel
theorem dJx4a65c_grow_92f84_36 : decode cJx4a65c_grow_92f84 36 = .ok (.iload_n 3, 1) := by decide +kernel
theorem dJx4a65c_grow_92f84_37 : decode cJx4a65c_grow_92f84 37 = .ok (.invokestatic 66, 3) := by decide +kernel
theorem dJx4a65c_grow_92f84_40 : decode cJx4a65c_grow_92f84 40 = .ok (.dup_x1, 1) := by decide +kernel
theorem dJx4a65c_grow_92f84_41 : decode cJx4a65c_grow_92f84 41 = .ok (.putfield 9, 3) := by decide +kernel
theorem dJx4a65c_grow_92f84_44 : decode cJx4a65c_grow_92f84 44 = .ok (.areturn, 1) := by decide +kernel
theorem dJx4a65c_grow_92f84_45 : decode cJx4a65c_grow_92f84 45 = .ok (.aload_n 0, 1) := by decide +kernel
theorem dJx4a65c_grow_92f84_46 : decode cJx4a65c_grow_92f84 46 = .ok (.bipush 10, 2) := by decide +kernel
theorem dJx4a65c_grow_92f84_48 : decode cJx4a65c_grow_92f84 48 = .ok (.iload_n 1, 1) := by decide +kernel
theorem dJx4a65c_grow_92f84_49 : decode cJx4a65c_grow_92f84 49 = .ok (.invokestatic 79, 3) := by decide +kernel
theorem dJx4a65c_grow_92f84_52 : decode cJx4a65c_grow_92f84 52 = .ok (.anewarray 7, 3) := by decide +kernel
theorem dJx4a65c_grow_92f84_55 : decode cJx4a65c_grow_92f84 55 = .ok (.dup_x1, 1) := by decide +kernel
theorem dJx4a65c_grow_92f84_56 : decode cJx4a65c_grow_92f84 56 = .ok (.putfield 9, 3) := by decide +kernel
theorem dJx4a65c_grow_92f84_59 : decode cJx4a65c_grow_92f84 59 = .ok (.areturn, 1) := by decide +kernel
set_option maxRecDepth 20000 in
theorem ggJx4a65c_grow_d5877_Jx4a65c_grow_92f84 : GoodIn wsJx4a65c_grow_d5877 wsJx4a65c_grow_92f84 := goodIn_r _ [6, 7, 8, 9, 10, 11, 12, 13, 14, 15, 16, 17, 18, 19, 20, 21, 22, 23, 24, 25, 26, 27, 28, 29, 30, 31, 32, 33, 34, 35, 36, 37, 38, 39, 40, 41, 42, 43, 44, 45] (by decide +kernel) (by decide +kernel)
set_option maxRecDepth 20000 in
theorem gJx4a65c_grow_d5877_Jx4a65c_grow_92f84 : GoodIn wsJx4a65c_grow_d5877 (wsV RJx4a65c 69 RJx4a65c yJx4a65c_grow_92f84 wsJx4a65c_grow_92f84) := goodIn_app (goodIn_of _ (by decide +kernel)) ggJx4a65c_grow_d5877_Jx4a65c_grow_92f84
theorem dJx4a65c_grow_d5877_0 : decode cJx4a65c_grow_d5877 0 = .ok (.aload_n 0, 1) := by decide +kernel
theorem dJx4a65c_grow_d5877_1 : decode cJx4a65c_grow_d5877 1 = .ok (.aload_n 0, 1) := by decide +kernel
theorem dJx4a65c_grow_d5877_2 : decode cJx4a65c_grow_d5877 2 = .ok (.getfield 48, 3) := by decide +kernel
theorem dJx4a65c_grow_d5877_5 : decode cJx4a65c_grow_d5877 5 = .ok (.iconst 1, 1) := by decide +kernel
theorem dJx4a65c_grow_d5877_6 : decode cJx4a65c_grow_d5877 6 = .ok (.iadd, 1) := by decide +kernel
theorem dJx4a65c_grow_d5877_7 : decode cJx4a65c_grow_d5877 7 = .ok (.invokevirtual 69, 3) := by decide +kernel
theorem dJx4a65c_grow_d5877_10 : decode cJx4a65c_grow_d5877 10 = .ok (.areturn, 1) := by decide +kernel
theorem dJx4a65c_size_8abf5_0 : decode cJx4a65c_size_8abf5 0 = .ok (.aload_n 0, 1) := by decide +kernel
theorem dJx4a65c_size_8abf5_1 : decode cJx4a65c_size_8abf5 1 = .ok (.getfield 48, 3) := by decide +kernel
theorem dJx4a65c_size_8abf5_4 : decode cJx4a65c_size_8abf5 4 = .ok (.ireturn, 1) := by decide +kernel
theorem dJx4a65c_elementData_915e3_0 : decode cJx4a65c_elementData_915e3 0 = .ok (.aload_n 0, 1) := by decide +kernel
theorem dJx4a65c_elementData_915e3_1 : decode cJx4a65c_elementData_915e3 1 = .ok (.getfield 9, 3) := by decide +kernel
theorem dJx4a65c_elementData_915e3_4 : decode cJx4a65c_elementData_915e3 4 = .ok (.iload_n 1, 1) := by decide +kernel
theorem dJx4a65c_elementData_915e3_5 : decode cJx4a65c_elementData_915e3 5 = .ok (.aaload, 1) := by decide +kernel
theorem dJx4a65c_elementData_915e3_6 : decode cJx4a65c_elementData_915e3 6 = .ok (.areturn, 1) := by decide +kernel
set_option maxRecDepth 20000 in
theorem ggJx4a65c_get_915e3_J15_checkIndex_7cf53 : GoodIn wsJx4a65c_get_915e3 wsJ15_checkIndex_7cf53 := goodIn_r _ [5, 6, 7, 8, 9] (by decide +kernel) (by decide +kernel)
set_option maxRecDepth 20000 in
theorem gJx4a65c_get_915e3_J15_checkIndex_7cf53 : GoodIn wsJx4a65c_get_915e3 (va_wsS RJx4a65c 118 yJ15_checkIndex_7cf53 wsJ15_checkIndex_7cf53) := goodIn_app (goodIn_of _ (by decide +kernel)) ggJx4a65c_get_915e3_J15_checkIndex_7cf53
set_option maxRecDepth 20000 in
theorem ggJx4a65c_get_915e3_Jx4a65c_elementData_915e3 : GoodIn wsJx4a65c_get_915e3 wsJx4a65c_elementData_915e3 := goodIn_r _ [14, 15, 16, 17, 18] (by decide +kernel) (by decide +kernel)
set_option maxRecDepth 20000 in
theorem gJx4a65c_get_915e3_Jx4a65c_elementData_915e3 : GoodIn wsJx4a65c_get_915e3 (wsV RJx4a65c 123 RJx4a65c yJx4a65c_elementData_915e3 wsJx4a65c_elementData_915e3) := goodIn_app (goodIn_of _ (by decide +kernel)) ggJx4a65c_get_915e3_Jx4a65c_elementData_915e3
theorem dJx4a65c_get_915e3_0 : decode cJx4a65c_get_915e3 0 = .ok (.iload_n 1, 1) := by decide +kernel
theorem dJx4a65c_get_915e3_1 : decode cJx4a65c_get_915e3 1 = .ok (.aload_n 0, 1) := by decide +kernel
theorem dJx4a65c_get_915e3_2 : decode cJx4a65c_get_915e3 2 = .ok (.getfield 48, 3) := by decide +kernel
theorem dJx4a65c_get_915e3_5 : decode cJx4a65c_get_915e3 5 = .ok (.invokestatic 118, 3) := by decide +kernel
theorem dJx4a65c_get_915e3_8 : decode cJx4a65c_get_915e3 8 = .ok (.pop, 1) := by decide +kernel
theorem dJx4a65c_get_915e3_9 : decode cJx4a65c_get_915e3 9 = .ok (.aload_n 0, 1) := by decide +kernel
theorem dJx4a65c_get_915e3_10 : decode cJx4a65c_get_915e3 10 = .ok (.iload_n 1, 1) := by decide +kernel
theorem dJx4a65c_get_915e3_11 : decode cJx4a65c_get_915e3 11 = .ok (.invokevirtual 123, 3) := by decide +kernel
theorem dJx4a65c_get_915e3_14 : decode cJx4a65c_get_915e3 14 = .ok (.areturn, 1) := by decide +kernel
set_option maxRecDepth 20000 in
theorem ggJx4a65c_add_72be8_Jx4a65c_grow_d5877 : GoodIn wsJx4a65c_add_72be8 wsJx4a65c_grow_d5877 := goodIn_r _ [6, 1, 7, 8, 9, 5, 10, 11, 12, 13, 14, 15, 16, 17, 18, 19, 20, 21, 22, 23, 24, 25, 26, 27, 28, 29, 30, 31, 32, 33, 34, 35, 36, 37, 38, 39, 40, 41, 42, 43, 44, 45, 46, 47, 48, 49] (by decide +kernel) (by decide +kernel)
set_option maxRecDepth 20000 in
theorem gJx4a65c_add_72be8_Jx4a65c_grow_d5877 : GoodIn wsJx4a65c_add_72be8 (wsV RJx4a65c 129 RJx4a65c yJx4a65c_grow_d5877 wsJx4a65c_grow_d5877) := goodIn_app (goodIn_of _ (by decide +kernel)) ggJx4a65c_add_72be8_Jx4a65c_grow_d5877
theorem dJx4a65c_add_72be8_0 : decode cJx4a65c_add_72be8 0 = .ok (.iload_n 3, 1) := by decide +kernel
theorem dJx4a65c_add_72be8_1 : decode cJx4a65c_add_72be8 1 = .ok (.aload_n 2, 1) := by decide +kernel
theorem dJx4a65c_add_72be8_2 : decode cJx4a65c_add_72be8 2 = .ok (.arraylength, 1) := by decide +kernel
theorem dJx4a65c_add_72be8_3 : decode cJx4a65c_add_72be8 3 = .ok (.if_icmp .ne 8, 3) := by decide +kernel
theorem dJx4a65c_add_72be8_6 : decode cJx4a65c_add_72be8 6 = .ok (.aload_n 0, 1) := by decide +kernel
theorem dJx4a65c_add_72be8_7 : decode cJx4a65c_add_72be8 7 = .ok (.invokevirtual 129, 3) := by decide +kernel
theorem dJx4a65c_add_72be8_10 : decode cJx4a65c_add_72be8 10 = .ok (.astore_n 2, 1) := by decide +kernel
theorem dJx4a65c_add_72be8_11 : decode cJx4a65c_add_72be8 11 = .ok (.aload_n 2, 1) := by decide +kernel
theorem dJx4a65c_add_72be8_12 : decode cJx4a65c_add_72be8 12 = .ok (.iload_n 3, 1) := by decide +kernel
theorem dJx4a65c_add_72be8_13 : decode cJx4a65c_add_72be8 13 = .ok (.aload_n 1, 1) := by decide +kernel
theorem dJx4a65c_add_72be8_14 : decode cJx4a65c_add_72be8 14 = .ok (.aastore, 1) := by decide +kernel
theorem dJx4a65c_add_72be8_15 : decode cJx4a65c_add_72be8 15 = .ok (.aload_n 0, 1) := by decide +kernel
theorem dJx4a65c_add_72be8_16 : decode cJx4a65c_add_72be8 16 = .ok (.iload_n 3, 1) := by decide +kernel
theorem dJx4a65c_add_72be8_17 : decode cJx4a65c_add_72be8 17 = .ok (.iconst 1, 1) := by decide +kernel
theorem dJx4a65c_add_72be8_18 : decode cJx4a65c_add_72be8 18 = .ok (.iadd, 1) := by decide +kernel
theorem dJx4a65c_add_72be8_19 : decode cJx4a65c_add_72be8 19 = .ok (.putfield 48, 3) := by decide +kernel
theorem dJx4a65c_add_72be8_22 : decode cJx4a65c_add_72be8 22 = .ok (.return_, 1) := by decide +kernel
set_option maxRecDepth 20000 in
theorem ggJx4a65c_add_9ea2d_Jx4a65c_add_72be8 : GoodIn wsJx4a65c_add_9ea2d wsJx4a65c_add_72be8 := goodIn_r _ [9, 4, 10, 11, 12, 8, 13, 14, 15, 16, 17, 3, 18, 19, 20, 21, 22, 23, 24, 25, 26, 27, 28, 29, 30, 31, 32, 33, 34, 35, 36, 37, 38, 39, 40, 41, 42, 43, 44, 45, 46, 47, 48, 49, 50, 51, 52, 53, 54, 55] (by decide +kernel) (by decide +kernel)
set_option maxRecDepth 20000 in
theorem gJx4a65c_add_9ea2d_Jx4a65c_add_72be8 : GoodIn wsJx4a65c_add_9ea2d (wsV RJx4a65c 131 RJx4a65c yJx4a65c_add_72be8 wsJx4a65c_add_72be8) := goodIn_app (goodIn_of _ (by decide +kernel)) ggJx4a65c_add_9ea2d_Jx4a65c_add_72be8
theorem dJx4a65c_add_9ea2d_0 : decode cJx4a65c_add_9ea2d 0 = .ok (.aload_n 0, 1) := by decide +kernel
theorem dJx4a65c_add_9ea2d_1 : decode cJx4a65c_add_9ea2d 1 = .ok (.dup, 1) := by decide +kernel
theorem dJx4a65c_add_9ea2d_2 : decode cJx4a65c_add_9ea2d 2 = .ok (.getfield 63, 3) := by decide +kernel
theorem dJx4a65c_add_9ea2d_5 : decode cJx4a65c_add_9ea2d 5 = .ok (.iconst 1, 1) := by decide +kernel
theorem dJx4a65c_add_9ea2d_6 : decode cJx4a65c_add_9ea2d 6 = .ok (.iadd, 1) := by decide +kernel
theorem dJx4a65c_add_9ea2d_7 : decode cJx4a65c_add_9ea2d 7 = .ok (.putfield 63, 3) := by decide +kernel
theorem dJx4a65c_add_9ea2d_10 : decode cJx4a65c_add_9ea2d 10 = .ok (.aload_n 0, 1) := by decide +kernel
theorem dJx4a65c_add_9ea2d_11 : decode cJx4a65c_add_9ea2d 11 = .ok (.aload_n 1, 1) := by decide +kernel
theorem dJx4a65c_add_9ea2d_12 : decode cJx4a65c_add_9ea2d 12 = .ok (.aload_n 0, 1) := by decide +kernel
theorem dJx4a65c_add_9ea2d_13 : decode cJx4a65c_add_9ea2d 13 = .ok (.getfield 9, 3) := by decide +kernel
theorem dJx4a65c_add_9ea2d_16 : decode cJx4a65c_add_9ea2d 16 = .ok (.aload_n 0, 1) := by decide +kernel
theorem dJx4a65c_add_9ea2d_17 : decode cJx4a65c_add_9ea2d 17 = .ok (.getfield 48, 3) := by decide +kernel
theorem dJx4a65c_add_9ea2d_20 : decode cJx4a65c_add_9ea2d 20 = .ok (.invokevirtual 131, 3) := by decide +kernel
theorem dJx4a65c_add_9ea2d_23 : decode cJx4a65c_add_9ea2d 23 = .ok (.iconst 1, 1) := by decide +kernel
theorem dJx4a65c_add_9ea2d_24 : decode cJx4a65c_add_9ea2d 24 = .ok (.ireturn, 1) := by decide +kernel
theorem dJx4a65c_clear_da8c8_0 : decode cJx4a65c_clear_da8c8 0 = .ok (.aload_n 0, 1) := by decide +kernel
theorem dJx4a65c_clear_da8c8_1 : decode cJx4a65c_clear_da8c8 1 = .ok (.dup, 1) := by decide +kernel
theorem dJx4a65c_clear_da8c8_2 : decode cJx4a65c_clear_da8c8 2 = .ok (.getfield 63, 3) := by decide +kernel
theorem dJx4a65c_clear_da8c8_5 : decode cJx4a65c_clear_da8c8 5 = .ok (.iconst 1, 1) := by decide +kernel
theorem dJx4a65c_clear_da8c8_6 : decode cJx4a65c_clear_da8c8 6 = .ok (.iadd, 1) := by decide +kernel
theorem dJx4a65c_clear_da8c8_7 : decode cJx4a65c_clear_da8c8 7 = .ok (.putfield 63, 3) := by decide +kernel
theorem dJx4a65c_clear_da8c8_10 : decode cJx4a65c_clear_da8c8 10 = .ok (.aload_n 0, 1) := by decide +kernel
theorem dJx4a65c_clear_da8c8_11 : decode cJx4a65c_clear_da8c8 11 = .ok (.getfield 9, 3) := by decide +kernel
theorem dJx4a65c_clear_da8c8_14 : decode cJx4a65c_clear_da8c8 14 = .ok (.astore_n 1, 1) := by decide +kernel
theorem dJx4a65c_clear_da8c8_15 : decode cJx4a65c_clear_da8c8 15 = .ok (.aload_n 0, 1) := by decide +kernel
theorem dJx4a65c_clear_da8c8_16 : decode cJx4a65c_clear_da8c8 16 = .ok (.getfield 48, 3) := by decide +kernel
theorem dJx4a65c_clear_da8c8_19 : decode cJx4a65c_clear_da8c8 19 = .ok (.istore_n 2, 1) := by decide +kernel
theorem dJx4a65c_clear_da8c8_20 : decode cJx4a65c_clear_da8c8 20 = .ok (.aload_n 0, 1) := by decide +kernel
theorem dJx4a65c_clear_da8c8_21 : decode cJx4a65c_clear_da8c8 21 = .ok (.iconst 0, 1) := by decide +kernel
theorem dJx4a65c_clear_da8c8_22 : decode cJx4a65c_clear_da8c8 22 = .ok (.dup_x1, 1) := by decide +kernel
theorem dJx4a65c_clear_da8c8_23 : decode cJx4a65c_clear_da8c8 23 = .ok (.putfield 48, 3) := by decide +kernel
theorem dJx4a65c_clear_da8c8_26 : decode cJx4a65c_clear_da8c8 26 = .ok (.istore_n 3, 1) := by decide +kernel
theorem dJx4a65c_clear_da8c8_27 : decode cJx4a65c_clear_da8c8 27 = .ok (.iload_n 3, 1) := by decide +kernel
theorem dJx4a65c_clear_da8c8_28 : decode cJx4a65c_clear_da8c8 28 = .ok (.iload_n 2, 1) := by decide +kernel
theorem dJx4a65c_clear_da8c8_29 : decode cJx4a65c_clear_da8c8 29 = .ok (.if_icmp .ge 13, 3) := by decide +kernel
theorem dJx4a65c_clear_da8c8_32 : decode cJx4a65c_clear_da8c8 32 = .ok (.aload_n 1, 1) := by decide +kernel
theorem dJx4a65c_clear_da8c8_33 : decode cJx4a65c_clear_da8c8 33 = .ok (.iload_n 3, 1) := by decide +kernel
theorem dJx4a65c_clear_da8c8_34 : decode cJx4a65c_clear_da8c8 34 = .ok (.aconst_null, 1) := by decide +kernel
theorem dJx4a65c_clear_da8c8_35 : decode cJx4a65c_clear_da8c8 35 = .ok (.aastore, 1) := by decide +kernel
theorem dJx4a65c_clear_da8c8_36 : decode cJx4a65c_clear_da8c8 36 = .ok (.iinc 3 1, 3) := by decide +kernel
theorem dJx4a65c_clear_da8c8_39 : decode cJx4a65c_clear_da8c8 39 = .ok (.goto (-12), 3) := by decide +kernel
theorem dJx4a65c_clear_da8c8_42 : decode cJx4a65c_clear_da8c8 42 = .ok (.return_, 1) := by decide +kernel
set_option maxRecDepth 20000 in
theorem ggJ7_copyOf_1904c_J7_copyOf_6403c : GoodIn wsJ7_copyOf_1904c wsJ7_copyOf_6403c := goodIn_r _ [8, 9, 10, 11, 12, 13, 14, 15, 16, 17, 18] (by decide +kernel) (by decide +kernel)
set_option maxRecDepth 20000 in
theorem gJ7_copyOf_1904c_J7_copyOf_6403c : GoodIn wsJ7_copyOf_1904c (va_wsS RJ7 300 yJ7_copyOf_6403c wsJ7_copyOf_6403c) := goodIn_app (goodIn_of _ (by decide +kernel)) ggJ7_copyOf_1904c_J7_copyOf_6403c
theorem dJ7_copyOf_1904c_0 : decode cJ7_copyOf_1904c 0 = .ok (.aload_n 0, 1) := by decide +kernel
theorem dJ7_copyOf_1904c_1 : decode cJ7_copyOf_1904c 1 = .ok (.iload_n 1, 1) := by decide +kernel
theorem dJ7_copyOf_1904c_2 : decode cJ7_copyOf_1904c 2 = .ok (.aload_n 0, 1) := by decide +kernel
theorem dJ7_copyOf_1904c_3 : decode cJ7_copyOf_1904c 3 = .ok (.invokevirtual 86, 3) := by decide +kernel
theorem dJ7_copyOf_1904c_6 : decode cJ7_copyOf_1904c 6 = .ok (.invokestatic 300, 3) := by decide +kernel
theorem dJ7_copyOf_1904c_9 : decode cJ7_copyOf_1904c 9 = .ok (.areturn, 1) := by decide +kernel
theorem dJ7_copyOf_6403c_0 : decode cJ7_copyOf_6403c 0 = .ok (.aload_n 2, 1) := by decide +kernel
theorem dJ7_copyOf_6403c_1 : decode cJ7_copyOf_6403c 1 = .ok (.ldc 110, 2) := by decide +kernel
theorem dJ7_copyOf_6403c_3 : decode cJ7_copyOf_6403c 3 = .ok (.if_acmp .ne 10, 3) := by decide +kernel
theorem dJ7_copyOf_6403c_6 : decode cJ7_copyOf_6403c 6 = .ok (.iload_n 1, 1) := by decide +kernel
theorem dJ7_copyOf_6403c_7 : decode cJ7_copyOf_6403c 7 = .ok (.anewarray 2, 3) := by decide +kernel
theorem dJ7_copyOf_6403c_10 : decode cJ7_copyOf_6403c 10 = .ok (.goto 14, 3) := by decide +kernel
theorem dJ7_copyOf_6403c_13 : decode cJ7_copyOf_6403c 13 = .ok (.aload_n 2, 1) := by decide +kernel
theorem dJ7_copyOf_6403c_14 : decode cJ7_copyOf_6403c 14 = .ok (.invokevirtual 90, 3) := by decide +kernel
theorem dJ7_copyOf_6403c_17 : decode cJ7_copyOf_6403c 17 = .ok (.iload_n 1, 1) := by decide +kernel
theorem dJ7_copyOf_6403c_18 : decode cJ7_copyOf_6403c 18 = .ok (.invokestatic 95, 3) := by decide +kernel
theorem dJ7_copyOf_6403c_21 : decode cJ7_copyOf_6403c 21 = .ok (.checkcast 110, 3) := by decide +kernel
theorem dJ7_copyOf_6403c_24 : decode cJ7_copyOf_6403c 24 = .ok (.astore_n 3, 1) := by decide +kernel
theorem dJ7_copyOf_6403c_25 : decode cJ7_copyOf_6403c 25 = .ok (.aload_n 0, 1) := by decide +kernel
theorem dJ7_copyOf_6403c_26 : decode cJ7_copyOf_6403c 26 = .ok (.iconst 0, 1) := by decide +kernel
theorem dJ7_copyOf_6403c_27 : decode cJ7_copyOf_6403c 27 = .ok (.aload_n 3, 1) := by decide +kernel
theorem dJ7_copyOf_6403c_28 : decode cJ7_copyOf_6403c 28 = .ok (.iconst 0, 1) := by decide +kernel
theorem dJ7_copyOf_6403c_29 : decode cJ7_copyOf_6403c 29 = .ok (.aload_n 0, 1) := by decide +kernel
theorem dJ7_copyOf_6403c_30 : decode cJ7_copyOf_6403c 30 = .ok (.arraylength, 1) := by decide +kernel
theorem dJ7_copyOf_6403c_31 : decode cJ7_copyOf_6403c 31 = .ok (.iload_n 1, 1) := by decide +kernel
theorem dJ7_copyOf_6403c_32 : decode cJ7_copyOf_6403c 32 = .ok (.invokestatic 304, 3) := by decide +kernel
theorem dJ7_copyOf_6403c_35 : decode cJ7_copyOf_6403c 35 = .ok (.invokestatic 150, 3) := by decide +kernel
theorem dJ7_copyOf_6403c_38 : decode cJ7_copyOf_6403c 38 = .ok (.aload_n 3, 1) := by decide +kernel
theorem dJ7_copyOf_6403c_39 : decode cJ7_copyOf_6403c 39 = .ok (.areturn, 1) := by decide +kernel
set_option maxRecDepth 20000 in
theorem ggJ15_checkIndex_7cf53_J3_checkIndex_8e157 : GoodIn wsJ15_checkIndex_7cf53 wsJ3_checkIndex_8e157 := goodIn_r _ [4] (by decide +kernel) (by decide +kernel)
set_option maxRecDepth 20000 in
theorem gJ15_checkIndex_7cf53_J3_checkIndex_8e157 : GoodIn wsJ15_checkIndex_7cf53 (va_wsS RJ15 105 yJ3_checkIndex_8e157 wsJ3_checkIndex_8e157) := goodIn_app (goodIn_of _ (by decide +kernel)) ggJ15_checkIndex_7cf53_J3_checkIndex_8e157
theorem dJ15_checkIndex_7cf53_0 : decode cJ15_checkIndex_7cf53 0 = .ok (.iload_n 0, 1) := by decide +kernel
theorem dJ15_checkIndex_7cf53_1 : decode cJ15_checkIndex_7cf53 1 = .ok (.iload_n 1, 1) := by decide +kernel
theorem dJ15_checkIndex_7cf53_2 : decode cJ15_checkIndex_7cf53 2 = .ok (.aconst_null, 1) := by decide +kernel
theorem dJ15_checkIndex_7cf53_3 : decode cJ15_checkIndex_7cf53 3 = .ok (.invokestatic 105, 3) := by decide +kernel
theorem dJ15_checkIndex_7cf53_6 : decode cJ15_checkIndex_7cf53 6 = .ok (.ireturn, 1) := by decide +kernel
set_option maxRecDepth 20000 in
theorem ggJ8_newLength_cabcc_J8_hugeLength_7cf53 : GoodIn wsJ8_newLength_cabcc wsJ8_hugeLength_7cf53 := goodIn_r _ [9, 5] (by decide +kernel) (by decide +kernel)
set_option maxRecDepth 20000 in
theorem gJ8_newLength_cabcc_J8_hugeLength_7cf53 : GoodIn wsJ8_newLength_cabcc (va_wsS RJ8 201 yJ8_hugeLength_7cf53 wsJ8_hugeLength_7cf53) := goodIn_app (goodIn_of _ (by decide +kernel)) ggJ8_newLength_cabcc_J8_hugeLength_7cf53
theorem dJ8_newLength_cabcc_0 : decode cJ8_newLength_cabcc 0 = .ok (.iload_n 0, 1) := by decide +kernel
theorem dJ8_newLength_cabcc_1 : decode cJ8_newLength_cabcc 1 = .ok (.iload_n 1, 1) := by decide +kernel
theorem dJ8_newLength_cabcc_2 : decode cJ8_newLength_cabcc 2 = .ok (.iload_n 2, 1) := by decide +kernel
theorem dJ8_newLength_cabcc_3 : decode cJ8_newLength_cabcc 3 = .ok (.invokestatic 194, 3) := by decide +kernel
theorem dJ8_newLength_cabcc_6 : decode cJ8_newLength_cabcc 6 = .ok (.iadd, 1) := by decide +kernel
theorem dJ8_newLength_cabcc_7 : decode cJ8_newLength_cabcc 7 = .ok (.istore_n 3, 1) := by decide +kernel
theorem dJ8_newLength_cabcc_8 : decode cJ8_newLength_cabcc 8 = .ok (.iconst 0, 1) := by decide +kernel
theorem dJ8_newLength_cabcc_9 : decode cJ8_newLength_cabcc 9 = .ok (.iload_n 3, 1) := by decide +kernel
theorem dJ8_newLength_cabcc_10 : decode cJ8_newLength_cabcc 10 = .ok (.if_icmp .ge 11, 3) := by decide +kernel
theorem dJ8_newLength_cabcc_13 : decode cJ8_newLength_cabcc 13 = .ok (.iload_n 3, 1) := by decide +kernel
theorem dJ8_newLength_cabcc_14 : decode cJ8_newLength_cabcc 14 = .ok (.ldc 200, 2) := by decide +kernel
theorem dJ8_newLength_cabcc_16 : decode cJ8_newLength_cabcc 16 = .ok (.if_icmp .gt 5, 3) := by decide +kernel
theorem dJ8_newLength_cabcc_19 : decode cJ8_newLength_cabcc 19 = .ok (.iload_n 3, 1) := by decide +kernel
theorem dJ8_newLength_cabcc_20 : decode cJ8_newLength_cabcc 20 = .ok (.ireturn, 1) := by decide +kernel
theorem dJ8_newLength_cabcc_21 : decode cJ8_newLength_cabcc 21 = .ok (.iload_n 0, 1) := by decide +kernel
theorem dJ8_newLength_cabcc_22 : decode cJ8_newLength_cabcc 22 = .ok (.iload_n 1, 1) := by decide +kernel
theorem dJ8_newLength_cabcc_23 : decode cJ8_newLength_cabcc 23 = .ok (.invokestatic 201, 3) := by decide +kernel
theorem dJ8_newLength_cabcc_26 : decode cJ8_newLength_cabcc 26 = .ok (.ireturn, 1) := by decide +kernel
theorem dJ8_hugeLength_7cf53_0 : decode cJ8_hugeLength_7cf53 0 = .ok (.iload_n 0, 1) := by decide +kernel
theorem dJ8_hugeLength_7cf53_1 : decode cJ8_hugeLength_7cf53 1 = .ok (.iload_n 1, 1) := by decide +kernel
theorem dJ8_hugeLength_7cf53_2 : decode cJ8_hugeLength_7cf53 2 = .ok (.iadd, 1) := by decide +kernel
theorem dJ8_hugeLength_7cf53_3 : decode cJ8_hugeLength_7cf53 3 = .ok (.istore_n 2, 1) := by decide +kernel
theorem dJ8_hugeLength_7cf53_4 : decode cJ8_hugeLength_7cf53 4 = .ok (.iload_n 2, 1) := by decide +kernel
theorem dJ8_hugeLength_7cf53_5 : decode cJ8_hugeLength_7cf53 5 = .ok (.ifCond .ge 44, 3) := by decide +kernel
theorem dJ8_hugeLength_7cf53_8 : decode cJ8_hugeLength_7cf53 8 = .ok (.new 204, 3) := by decide +kernel
theorem dJ8_hugeLength_7cf53_11 : decode cJ8_hugeLength_7cf53 11 = .ok (.dup, 1) := by decide +kernel
theorem dJ8_hugeLength_7cf53_12 : decode cJ8_hugeLength_7cf53 12 = .ok (.new 89, 3) := by decide +kernel
