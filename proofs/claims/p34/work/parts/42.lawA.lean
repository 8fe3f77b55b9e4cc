theorem dL_draw_0 : decode cL_draw 0 = .ok (.iload_n 1, 1) := by decide +kernel
theorem dL_draw_1 : decode cL_draw 1 = .ok (.aload_n 0, 1) := by decide +kernel
theorem dL_draw_2 : decode cL_draw 2 = .ok (.arraylength, 1) := by decide +kernel
theorem dL_draw_3 : decode cL_draw 3 = .ok (.if_icmp .ge 12, 3) := by decide +kernel
theorem dL_draw_6 : decode cL_draw 6 = .ok (.aload_n 0, 1) := by decide +kernel
theorem dL_draw_7 : decode cL_draw 7 = .ok (.iload_n 1, 1) := by decide +kernel
theorem dL_draw_8 : decode cL_draw 8 = .ok (.iaload, 1) := by decide +kernel
theorem dL_draw_9 : decode cL_draw 9 = .ok (.ldc 7, 2) := by decide +kernel
theorem dL_draw_11 : decode cL_draw 11 = .ok (.iand, 1) := by decide +kernel
theorem dL_draw_12 : decode cL_draw 12 = .ok (.goto 12, 3) := by decide +kernel
theorem dL_draw_15 : decode cL_draw 15 = .ok (.ldc 8, 2) := by decide +kernel
theorem dL_draw_17 : decode cL_draw 17 = .ok (.iload_n 1, 1) := by decide +kernel
theorem dL_draw_18 : decode cL_draw 18 = .ok (.iconst 2, 1) := by decide +kernel
theorem dL_draw_19 : decode cL_draw 19 = .ok (.iadd, 1) := by decide +kernel
theorem dL_draw_20 : decode cL_draw 20 = .ok (.imul, 1) := by decide +kernel
theorem dL_draw_21 : decode cL_draw 21 = .ok (.ldc 9, 2) := by decide +kernel
theorem dL_draw_23 : decode cL_draw 23 = .ok (.irem, 1) := by decide +kernel
theorem dL_draw_24 : decode cL_draw 24 = .ok (.ireturn, 1) := by decide +kernel
set_option maxRecDepth 20000 in
theorem ggL_acts_X7_mirror : GoodIn wsL_acts wsX7_mirror := goodIn_ca (goodIn_ca (goodIn_r _ [6, 7, 8, 9, 10, 11, 12, 13, 14, 15, 16, 17, 18, 19, 20, 21, 22, 23, 24, 25, 26, 27, 28, 29, 30, 31, 32, 33, 34, 35, 36, 37, 38, 39, 40, 41, 42, 43, 44, 45, 46, 47, 48, 49, 50, 51, 52, 53, 54, 55, 56, 57, 58, 59, 60, 61, 62, 63, 64, 65, 66, 67, 68, 69, 70, 71, 72, 73, 74, 75, 76, 77, 78, 79, 80, 81, 82, 83, 84, 85, 86, 87, 88, 89, 90, 91, 92, 93, 94, 95, 96, 97, 242, 243, 244, 245, 246, 247, 248, 249, 250, 251, 252, 253, 254, 255, 256, 257, 258, 259, 260, 261, 262, 263, 264, 265, 266, 267, 268, 269, 270, 271] (by decide +kernel) (by decide +kernel)) (goodIn_sub (fun _ h => List.mem_cons_of_mem _ (List.mem_append_left _ (List.mem_append_left _ (List.mem_append_right _ h)))) (by decide +kernel))) (goodIn_sub (fun _ h => List.mem_cons_of_mem _ (List.mem_append_left _ (List.mem_append_right _ h))) (by decide +kernel))
set_option maxRecDepth 20000 in
theorem gL_acts_X7_mirror : GoodIn wsL_acts (wsV RL 10 RX7 yX7_mirror wsX7_mirror) := goodIn_app (goodIn_of _ (by decide +kernel)) ggL_acts_X7_mirror
set_option maxRecDepth 20000 in
theorem ggL_acts_X7_aim : GoodIn wsL_acts wsX7_aim := goodIn_ca (goodIn_ca (goodIn_ca (goodIn_r _ [101, 9, 10, 102, 103, 104, 105, 106, 5, 107, 7, 8, 11, 12, 108, 19, 20, 21, 22, 23, 24, 109, 110, 111, 112, 113, 114, 115, 116, 117, 118, 119, 120, 121, 122, 123, 124, 49, 125, 126, 127, 128, 129, 264, 265, 266, 267, 268, 269, 270, 271, 242, 243, 244, 245, 246, 247, 248, 249, 250, 251, 252, 253, 254, 255, 256, 257, 258, 259, 260, 261, 262, 263] (by decide +kernel) (by decide +kernel)) (goodIn_sub (fun _ h => List.mem_cons_of_mem _ (List.mem_append_left _ (List.mem_append_right _ h))) (by decide +kernel))) (goodIn_sub (fun _ h => List.mem_cons_of_mem _ (List.mem_append_left _ (List.mem_append_left _ (List.mem_append_right _ h)))) (by decide +kernel))) (goodIn_sub (fun _ h => List.mem_cons_of_mem _ (List.mem_append_right _ h)) (by decide +kernel))
set_option maxRecDepth 20000 in
theorem gL_acts_X7_aim : GoodIn wsL_acts (wsV RL 16 RX7 yX7_aim wsX7_aim) := goodIn_app (goodIn_of _ (by decide +kernel)) ggL_acts_X7_aim
set_option maxRecDepth 20000 in
theorem ggL_acts_X7_wash : GoodIn wsL_acts wsX7_wash := goodIn_ca (goodIn_ca (goodIn_r _ [133, 9, 10, 11, 134, 135, 104, 105, 106, 5, 107, 7, 8, 12, 108, 19, 20, 21, 22, 23, 24, 109, 110, 111, 112, 113, 114, 115, 116, 117, 118, 119, 120, 121, 122, 123, 124, 49, 136, 137, 138, 16, 139, 140, 141, 142, 143, 144, 242, 243, 244, 245, 246, 247, 248, 249, 250, 251, 252, 253, 254, 255, 264, 265, 266, 267, 268, 269, 270, 271, 256, 257, 258, 259, 260, 261, 262, 263] (by decide +kernel) (by decide +kernel)) (goodIn_sub (fun _ h => List.mem_cons_of_mem _ (List.mem_append_left _ (List.mem_append_right _ h))) (by decide +kernel))) (goodIn_sub (fun _ h => List.mem_cons_of_mem _ (List.mem_append_left _ (List.mem_append_left _ (List.mem_append_right _ h)))) (by decide +kernel))
set_option maxRecDepth 20000 in
theorem gL_acts_X7_wash : GoodIn wsL_acts (wsV RL 20 RX7 yX7_wash wsX7_wash) := goodIn_app (goodIn_of _ (by decide +kernel)) ggL_acts_X7_wash
set_option maxRecDepth 20000 in
theorem ggL_acts_X7_measure : GoodIn wsL_acts wsX7_measure := goodIn_ca (goodIn_ca (goodIn_r _ [148, 9, 10, 11, 104, 105, 106, 5, 107, 7, 8, 12, 108, 19, 20, 21, 22, 23, 24, 109, 110, 111, 112, 113, 114, 115, 116, 117, 118, 119, 120, 121, 122, 123, 124, 49, 149, 150, 151, 16, 152, 153, 154, 155, 156, 157, 158, 159, 97, 160, 161, 162, 163, 164, 165, 166, 167, 168, 169, 170, 171, 172, 173, 174, 175, 176, 177, 178, 179, 140, 141, 142, 143, 144, 180, 14, 15, 17, 18, 181, 182, 183, 184, 185, 186, 91, 65, 92, 187, 137, 138, 139, 188, 189, 190, 32, 191, 41, 42, 192, 193, 194, 195, 196, 197, 198, 199, 200, 242, 243, 244, 245, 246, 247, 248, 249, 250, 251, 252, 253, 254, 255, 256, 257, 258, 259, 260, 261, 262, 263, 264, 265, 266, 267, 268, 269, 270, 271, 272, 273, 274, 275, 276, 277] (by decide +kernel) (by decide +kernel)) (goodIn_sub (fun _ h => List.mem_cons_of_mem _ (List.mem_append_left _ (List.mem_append_right _ h))) (by decide +kernel))) (goodIn_sub (fun _ h => List.mem_cons_of_mem _ (List.mem_append_left _ (List.mem_append_left _ (List.mem_append_right _ h)))) (by decide +kernel))
set_option maxRecDepth 20000 in
theorem gL_acts_X7_measure : GoodIn wsL_acts (wsV RL 23 RX7 yX7_measure wsX7_measure) := goodIn_app (goodIn_of _ (by decide +kernel)) ggL_acts_X7_measure
set_option maxRecDepth 20000 in
theorem ggL_acts_X7_pipe : GoodIn wsL_acts wsX7_pipe := goodIn_ca (goodIn_r _ [204, 9, 10, 205, 206, 207, 208, 209, 210, 211, 212, 213, 214, 215, 216, 217, 218, 242, 243, 244, 245, 246, 247, 248, 249, 250, 251, 252, 253, 254, 255, 278, 279, 280, 281] (by decide +kernel) (by decide +kernel)) (goodIn_sub (fun _ h => List.mem_cons_of_mem _ (List.mem_append_left _ (List.mem_append_right _ h))) (by decide +kernel))
set_option maxRecDepth 20000 in
theorem gL_acts_X7_pipe : GoodIn wsL_acts (wsV RL 26 RX7 yX7_pipe wsX7_pipe) := goodIn_app (goodIn_of _ (by decide +kernel)) ggL_acts_X7_pipe
set_option maxRecDepth 20000 in
theorem ggL_acts_X7_stop : GoodIn wsL_acts wsX7_stop := goodIn_ca (goodIn_r _ [222, 9, 10, 223, 224, 225, 226, 227, 228, 229, 230, 231, 242, 243, 244, 245, 246, 247, 248, 249, 250, 251, 252, 253, 254, 255, 282, 283, 284] (by decide +kernel) (by decide +kernel)) (goodIn_sub (fun _ h => List.mem_cons_of_mem _ (List.mem_append_left _ (List.mem_append_right _ h))) (by decide +kernel))
set_option maxRecDepth 20000 in
theorem gL_acts_X7_stop : GoodIn wsL_acts (wsV RL 30 RX7 yX7_stop wsX7_stop) := goodIn_app (goodIn_of _ (by decide +kernel)) ggL_acts_X7_stop
set_option maxRecDepth 20000 in
theorem ggL_acts_X7_salt : GoodIn wsL_acts wsX7_salt := goodIn_ca (goodIn_ca (goodIn_r _ [235, 9, 10, 236, 237, 125, 126, 5, 127, 128, 129, 242, 243, 244, 245, 246, 247, 248, 249, 250, 251, 252, 253, 254, 255] (by decide +kernel) (by decide +kernel)) (goodIn_sub (fun _ h => List.mem_cons_of_mem _ (List.mem_append_left _ (List.mem_append_right _ h))) (by decide +kernel))) (goodIn_sub (fun _ h => List.mem_cons_of_mem _ (List.mem_append_right _ h)) (by decide +kernel))
set_option maxRecDepth 20000 in
theorem gL_acts_X7_salt : GoodIn wsL_acts (wsV RL 34 RX7 yX7_salt wsX7_salt) := goodIn_app (goodIn_of _ (by decide +kernel)) ggL_acts_X7_salt
set_option maxRecDepth 20000 in
theorem ggL_acts_X7_water : GoodIn wsL_acts wsX7_water := goodIn_ca (goodIn_ca (goodIn_r _ [241, 9, 10, 134, 125, 126, 5, 127, 128, 129, 242, 243, 244, 245, 246, 247, 248, 249, 250, 251, 252, 253, 254, 255] (by decide +kernel) (by decide +kernel)) (goodIn_sub (fun _ h => List.mem_cons_of_mem _ (List.mem_append_left _ (List.mem_append_right _ h))) (by decide +kernel))) (goodIn_sub (fun _ h => List.mem_cons_of_mem _ (List.mem_append_right _ h)) (by decide +kernel))
set_option maxRecDepth 20000 in
theorem gL_acts_X7_water : GoodIn wsL_acts (wsV RL 37 RX7 yX7_water wsX7_water) := goodIn_app (goodIn_of _ (by decide +kernel)) ggL_acts_X7_water
theorem dL_acts_0 : decode cL_acts 0 = .ok (.iload_n 3, 1) := by decide +kernel
theorem dL_acts_1 : decode cL_acts 1 = .ok (.ifCond .ne 11, 3) := by decide +kernel
theorem dL_acts_4 : decode cL_acts 4 = .ok (.aload_n 0, 1) := by decide +kernel
theorem dL_acts_5 : decode cL_acts 5 = .ok (.iload_n 1, 1) := by decide +kernel
theorem dL_acts_6 : decode cL_acts 6 = .ok (.invokevirtual 10, 3) := by decide +kernel
theorem dL_acts_9 : decode cL_acts 9 = .ok (.goto 96, 3) := by decide +kernel
theorem dL_acts_12 : decode cL_acts 12 = .ok (.iload_n 3, 1) := by decide +kernel
theorem dL_acts_13 : decode cL_acts 13 = .ok (.iconst 1, 1) := by decide +kernel
theorem dL_acts_14 : decode cL_acts 14 = .ok (.if_icmp .ne 12, 3) := by decide +kernel
theorem dL_acts_17 : decode cL_acts 17 = .ok (.aload_n 0, 1) := by decide +kernel
theorem dL_acts_18 : decode cL_acts 18 = .ok (.iload_n 1, 1) := by decide +kernel
theorem dL_acts_19 : decode cL_acts 19 = .ok (.iload_n 2, 1) := by decide +kernel
theorem dL_acts_20 : decode cL_acts 20 = .ok (.invokevirtual 16, 3) := by decide +kernel
theorem dL_acts_23 : decode cL_acts 23 = .ok (.goto 82, 3) := by decide +kernel
theorem dL_acts_26 : decode cL_acts 26 = .ok (.iload_n 3, 1) := by decide +kernel
theorem dL_acts_27 : decode cL_acts 27 = .ok (.iconst 2, 1) := by decide +kernel
theorem dL_acts_28 : decode cL_acts 28 = .ok (.if_icmp .ne 11, 3) := by decide +kernel
theorem dL_acts_31 : decode cL_acts 31 = .ok (.aload_n 0, 1) := by decide +kernel
theorem dL_acts_32 : decode cL_acts 32 = .ok (.iload_n 1, 1) := by decide +kernel
theorem dL_acts_33 : decode cL_acts 33 = .ok (.invokevirtual 20, 3) := by decide +kernel
theorem dL_acts_36 : decode cL_acts 36 = .ok (.goto 69, 3) := by decide +kernel
theorem dL_acts_39 : decode cL_acts 39 = .ok (.iload_n 3, 1) := by decide +kernel
theorem dL_acts_40 : decode cL_acts 40 = .ok (.iconst 3, 1) := by decide +kernel
theorem dL_acts_41 : decode cL_acts 41 = .ok (.if_icmp .ne 11, 3) := by decide +kernel
theorem dL_acts_44 : decode cL_acts 44 = .ok (.aload_n 0, 1) := by decide +kernel
theorem dL_acts_45 : decode cL_acts 45 = .ok (.iload_n 1, 1) := by decide +kernel
theorem dL_acts_46 : decode cL_acts 46 = .ok (.invokevirtual 23, 3) := by decide +kernel
theorem dL_acts_49 : decode cL_acts 49 = .ok (.goto 56, 3) := by decide +kernel
theorem dL_acts_52 : decode cL_acts 52 = .ok (.iload_n 3, 1) := by decide +kernel
theorem dL_acts_53 : decode cL_acts 53 = .ok (.iconst 4, 1) := by decide +kernel
theorem dL_acts_54 : decode cL_acts 54 = .ok (.if_icmp .ne 20, 3) := by decide +kernel
theorem dL_acts_57 : decode cL_acts 57 = .ok (.aload_n 0, 1) := by decide +kernel
theorem dL_acts_58 : decode cL_acts 58 = .ok (.iload_n 1, 1) := by decide +kernel
theorem dL_acts_59 : decode cL_acts 59 = .ok (.iconst 1, 1) := by decide +kernel
theorem dL_acts_60 : decode cL_acts 60 = .ok (.if_icmp .ne 7, 3) := by decide +kernel
theorem dL_acts_63 : decode cL_acts 63 = .ok (.iconst 1, 1) := by decide +kernel
theorem dL_acts_64 : decode cL_acts 64 = .ok (.goto 4, 3) := by decide +kernel
theorem dL_acts_67 : decode cL_acts 67 = .ok (.iconst 0, 1) := by decide +kernel
theorem dL_acts_68 : decode cL_acts 68 = .ok (.invokevirtual 26, 3) := by decide +kernel
theorem dL_acts_71 : decode cL_acts 71 = .ok (.goto 34, 3) := by decide +kernel
theorem dL_acts_74 : decode cL_acts 74 = .ok (.iload_n 3, 1) := by decide +kernel
theorem dL_acts_75 : decode cL_acts 75 = .ok (.iconst 5, 1) := by decide +kernel
theorem dL_acts_76 : decode cL_acts 76 = .ok (.if_icmp .ne 10, 3) := by decide +kernel
theorem dL_acts_79 : decode cL_acts 79 = .ok (.aload_n 0, 1) := by decide +kernel
theorem dL_acts_80 : decode cL_acts 80 = .ok (.invokevirtual 30, 3) := by decide +kernel
theorem dL_acts_83 : decode cL_acts 83 = .ok (.goto 22, 3) := by decide +kernel
theorem dL_acts_86 : decode cL_acts 86 = .ok (.iload_n 3, 1) := by decide +kernel
theorem dL_acts_87 : decode cL_acts 87 = .ok (.bipush 6, 2) := by decide +kernel
theorem dL_acts_89 : decode cL_acts 89 = .ok (.if_icmp .ne 11, 3) := by decide +kernel
theorem dL_acts_92 : decode cL_acts 92 = .ok (.aload_n 0, 1) := by decide +kernel
theorem dL_acts_93 : decode cL_acts 93 = .ok (.iload_n 1, 1) := by decide +kernel
theorem dL_acts_94 : decode cL_acts 94 = .ok (.invokevirtual 34, 3) := by decide +kernel
theorem dL_acts_97 : decode cL_acts 97 = .ok (.goto 8, 3) := by decide +kernel
theorem dL_acts_100 : decode cL_acts 100 = .ok (.aload_n 0, 1) := by decide +kernel
theorem dL_acts_101 : decode cL_acts 101 = .ok (.iload_n 1, 1) := by decide +kernel
theorem dL_acts_102 : decode cL_acts 102 = .ok (.invokevirtual 37, 3) := by decide +kernel
theorem dL_acts_105 : decode cL_acts 105 = .ok (.ireturn, 1) := by decide +kernel
theorem dL_acts_106 : decode cL_acts 106 = .ok (.astore 4, 2) := by decide +kernel
theorem dL_acts_108 : decode cL_acts 108 = .ok (.sipush (-200), 3) := by decide +kernel
theorem dL_acts_111 : decode cL_acts 111 = .ok (.ireturn, 1) := by decide +kernel
set_option maxRecDepth 20000 in
theorem ggL_cloud_X7_cloud : GoodIn wsL_cloud wsX7_cloud := goodIn_ca (goodIn_ca (goodIn_r _ [6, 7, 8, 9, 10, 11, 12, 13, 14, 15, 5, 16, 17, 18, 19, 20, 21, 22, 23, 24, 25, 26, 27, 28, 29, 30, 31, 32, 33, 34, 35, 36, 37, 38, 39, 40, 41, 42, 43, 44, 45, 46, 47, 48, 49, 50, 51, 52, 53, 54, 55, 56, 57, 58, 59, 60, 61, 62, 63, 64, 65, 66, 67, 68, 69, 70, 71, 72, 73, 74, 75, 76, 77, 78, 79, 80, 81, 82, 83, 84, 85, 86, 87, 88, 89, 90, 91, 92, 93, 94, 95, 96, 97, 98, 99, 100, 101, 102, 103, 104, 105, 106, 107, 108, 109, 110, 111, 112, 113, 114, 115, 116, 117, 118] (by decide +kernel) (by decide +kernel)) (goodIn_sub (fun _ h => List.mem_cons_of_mem _ (List.mem_append_left _ (List.mem_append_right _ h))) (by decide +kernel))) (goodIn_sub (fun _ h => List.mem_cons_of_mem _ (List.mem_append_right _ h)) (by decide +kernel))
set_option maxRecDepth 20000 in
theorem gL_cloud_X7_cloud : GoodIn wsL_cloud (wsV RL 42 RX7 yX7_cloud wsX7_cloud) := goodIn_app (goodIn_of _ (by decide +kernel)) ggL_cloud_X7_cloud
theorem dL_cloud_0 : decode cL_cloud 0 = .ok (.aload_n 0, 1) := by decide +kernel
theorem dL_cloud_1 : decode cL_cloud 1 = .ok (.iload_n 1, 1) := by decide +kernel
theorem dL_cloud_2 : decode cL_cloud 2 = .ok (.iload_n 2, 1) := by decide +kernel
theorem dL_cloud_3 : decode cL_cloud 3 = .ok (.iload_n 3, 1) := by decide +kernel
theorem dL_cloud_4 : decode cL_cloud 4 = .ok (.iload_n 3, 1) := by decide +kernel
theorem dL_cloud_5 : decode cL_cloud 5 = .ok (.iload 4, 2) := by decide +kernel
theorem dL_cloud_7 : decode cL_cloud 7 = .ok (.iload 5, 2) := by decide +kernel
theorem dL_cloud_9 : decode cL_cloud 9 = .ok (.invokevirtual 42, 3) := by decide +kernel
theorem dL_cloud_12 : decode cL_cloud 12 = .ok (.ireturn, 1) := by decide +kernel
theorem dL_cloud_13 : decode cL_cloud 13 = .ok (.astore 6, 2) := by decide +kernel
theorem dL_cloud_15 : decode cL_cloud 15 = .ok (.sipush (-200), 3) := by decide +kernel
theorem dL_cloud_18 : decode cL_cloud 18 = .ok (.ireturn, 1) := by decide +kernel
set_option maxRecDepth 20000 in
theorem ggL_best_X7_best : GoodIn wsL_best wsX7_best := goodIn_ca (goodIn_ca (goodIn_r _ [7, 8, 9, 10, 11, 12, 13, 14, 15, 6, 16, 17, 18, 19, 20, 21, 22, 23, 24, 25, 26, 27, 28, 29, 30, 31, 32, 33, 34, 35, 36, 37, 38, 39, 40, 41, 42, 43, 44, 45, 46, 47, 48, 49, 50, 51, 52, 53, 54, 55, 56, 57, 58, 59, 60, 61, 62, 63, 64, 65, 66, 67, 68, 69, 70, 71, 72, 73, 74, 75, 76, 77, 78, 79, 80, 81, 82, 83, 84, 85, 86, 87, 88, 89, 90, 91, 92, 93, 94, 95, 96, 97, 98, 99, 100, 101, 102, 103, 104, 105, 106, 107, 108, 109, 110, 111, 112, 113, 114, 115, 116, 117, 118, 119, 120, 121, 122, 123, 124, 125, 126, 127, 128, 129, 130, 131, 132, 133, 134, 135, 136, 137, 138, 139, 140, 141, 142, 143, 144, 145, 146, 147, 148, 149, 150, 151, 152, 153, 154, 155, 156, 157, 158, 159, 160, 161, 162, 163, 164, 165, 166, 167, 168, 169, 170, 171, 172, 173, 174, 175, 176, 177, 178, 179, 180, 181, 182, 183, 184, 185, 186, 187, 188, 189, 190, 191, 192, 193, 194, 195, 196, 197, 198, 199, 200, 201, 202, 203, 204, 205, 206, 207, 208, 209, 210, 211, 212, 213, 214, 215, 216, 217, 218, 219, 220, 221, 222, 223, 224, 225, 226, 227, 228, 229, 230, 231, 232, 233, 234, 235, 236, 237, 238, 239, 240, 241, 242, 243, 244, 245, 246, 247, 248, 249, 250, 251, 252, 253, 254, 255, 256, 257, 258, 259, 260, 261, 262] (by decide +kernel) (by decide +kernel)) (goodIn_sub (fun _ h => List.mem_cons_of_mem _ (List.mem_append_left _ (List.mem_append_right _ h))) (by decide +kernel))) (goodIn_sub (fun _ h => List.mem_cons_of_mem _ (List.mem_append_right _ h)) (by decide +kernel))
set_option maxRecDepth 20000 in
theorem gL_best_X7_best : GoodIn wsL_best (wsV RL 46 RX7 yX7_best wsX7_best) := goodIn_app (goodIn_of _ (by decide +kernel)) ggL_best_X7_best
theorem dL_best_0 : decode cL_best 0 = .ok (.aload_n 0, 1) := by decide +kernel
theorem dL_best_1 : decode cL_best 1 = .ok (.iload_n 1, 1) := by decide +kernel
theorem dL_best_2 : decode cL_best 2 = .ok (.iload_n 2, 1) := by decide +kernel
theorem dL_best_3 : decode cL_best 3 = .ok (.invokevirtual 46, 3) := by decide +kernel
theorem dL_best_6 : decode cL_best 6 = .ok (.ireturn, 1) := by decide +kernel
theorem dL_best_7 : decode cL_best 7 = .ok (.astore_n 3, 1) := by decide +kernel
theorem dL_best_8 : decode cL_best 8 = .ok (.sipush (-200), 3) := by decide +kernel
theorem dL_best_11 : decode cL_best 11 = .ok (.ireturn, 1) := by decide +kernel
theorem dL_best_12 : decode cL_best 12 = .ok (.astore_n 3, 1) := by decide +kernel
theorem dL_best_13 : decode cL_best 13 = .ok (.sipush (-300), 3) := by decide +kernel
theorem dL_best_16 : decode cL_best 16 = .ok (.ireturn, 1) := by decide +kernel
set_option maxRecDepth 20000 in
theorem ggL_isBest_X7_flux : GoodIn wsL_isBest wsX7_flux := goodIn_ca (goodIn_r _ [5, 6, 7, 8, 9, 10, 4, 11, 12, 13, 14, 15, 16, 17, 18, 19, 20, 21, 22, 23, 24, 25, 26, 27, 28, 29, 30, 31, 32, 33, 34, 35, 36, 37, 38, 39, 40, 41, 42, 43, 44, 45, 46, 47, 48, 49, 50, 51, 52, 53, 54, 55, 56, 57, 58, 59, 60, 61, 62, 63, 64, 65, 66, 67, 68, 69, 70, 71, 72, 73, 74, 75, 76, 77, 78, 79, 80, 81, 82, 83, 84, 85, 86, 87, 88, 89, 90, 91, 92, 93, 94, 95, 96, 97, 98, 99, 100, 101, 102, 103, 104, 105, 106, 107, 108, 109, 110, 111, 112, 113, 114, 115, 116, 117, 118, 119, 120, 121, 122, 123, 124, 125, 126, 127, 128, 129, 130, 131, 132, 133, 134, 135, 136, 137, 138, 139, 278, 279, 280, 281, 282, 283, 284, 285, 286, 287, 288, 289, 290, 291, 292, 293, 294, 295, 296, 297, 298, 299, 300, 301, 302, 303, 304, 305, 306, 307, 308, 309, 310, 311, 312, 313, 314, 315] (by decide +kernel) (by decide +kernel)) (goodIn_sub (fun _ h => List.mem_cons_of_mem _ (List.mem_append_left _ (List.mem_append_left _ (List.mem_append_right _ h)))) (by decide +kernel))
set_option maxRecDepth 20000 in
theorem gL_isBest_X7_flux : GoodIn wsL_isBest (wsV RL 113 RX7 yX7_flux wsX7_flux) := goodIn_app (goodIn_of _ (by decide +kernel)) ggL_isBest_X7_flux
set_option maxRecDepth 20000 in
theorem ggL_isBest_L_best : GoodIn wsL_isBest wsL_best := goodIn_ca (goodIn_ca (goodIn_r _ [143, 144, 145, 146, 147, 148, 4, 149, 150, 151, 152, 153, 154, 155, 156, 157, 158, 159, 160, 6, 161, 162, 163, 164, 30, 31, 32, 33, 34, 165, 166, 167, 168, 169, 170, 171, 172, 52, 53, 173, 36, 37, 38, 39, 40, 41, 42, 43, 44, 45, 46, 47, 48, 49, 50, 51, 174, 175, 176, 177, 178, 179, 180, 181, 182, 183, 184, 185, 186, 187, 14, 15, 16, 17, 18, 19, 20, 21, 22, 23, 24, 25, 26, 27, 28, 29, 35, 54, 55, 56, 57, 58, 59, 60, 61, 62, 63, 64, 65, 66, 67, 68, 69, 70, 71, 72, 73, 74, 75, 76, 77, 78, 79, 80, 81, 82, 83, 84, 85, 86, 87, 88, 89, 90, 91, 92, 93, 94, 95, 96, 97, 98, 99, 100, 101, 102, 103, 104, 105, 106, 107, 108, 109, 110, 111, 112, 113, 114, 115, 116, 117, 118, 119, 120, 121, 122, 123, 124, 125, 126, 127, 128, 129, 130, 131, 132, 133, 134, 135, 136, 137, 138, 139, 188, 189, 190, 191, 192, 193, 194, 195, 196, 197, 198, 199, 200, 201, 202, 203, 204, 205, 206, 207, 208, 209, 210, 211, 212, 213, 214, 215, 216, 217, 218, 219, 220, 221, 222, 223, 224, 225, 226, 227, 228, 229, 230, 231, 232, 278, 279, 280, 281, 282, 283, 284, 285, 286, 287, 288, 289, 290, 291, 316, 317, 318, 319, 320, 321, 322, 294, 295, 296, 297, 298, 299, 300, 301, 302, 303, 304, 305, 306, 307, 308, 309, 292, 293, 310, 311, 312, 313, 314, 315] (by decide +kernel) (by decide +kernel)) (goodIn_sub (fun _ h => List.mem_cons_of_mem _ (List.mem_append_left _ (List.mem_append_right _ h))) (by decide +kernel))) (goodIn_sub (fun _ h => List.mem_cons_of_mem _ (List.mem_append_right _ h)) (by decide +kernel))
set_option maxRecDepth 20000 in
theorem gL_isBest_L_best : GoodIn wsL_isBest (va_wsS RL 116 yL_best wsL_best) := goodIn_app (goodIn_of _ (by decide +kernel)) ggL_isBest_L_best
set_option maxRecDepth 20000 in
theorem ggL_isBest_X7_mirrorIs : GoodIn wsL_isBest wsX7_mirrorIs := goodIn_ca (goodIn_ca (goodIn_r _ [236, 159, 160, 237, 238, 239, 240, 163, 6, 241, 242, 243, 4, 244, 12, 13, 161, 162, 164, 30, 31, 32, 33, 34, 173, 36, 37, 38, 39, 40, 41, 42, 43, 44, 45, 46, 47, 48, 49, 50, 51, 245, 76, 77, 17, 78, 79, 80, 29, 35, 81, 82, 83, 84, 85, 86, 87, 88, 89, 90, 91, 92, 93, 246, 95, 96, 97, 98, 99, 100, 101, 102, 103, 104, 105, 106, 107, 108, 109, 247, 124, 125, 57, 126, 127, 128, 129, 130, 117, 131, 299, 300, 301, 302, 303, 304, 305, 306, 278, 279, 280, 281, 282, 283, 284, 285, 286, 287, 288, 289, 290, 291, 294, 295, 296, 297, 298, 307, 308, 309, 310, 311, 312, 313, 314, 315] (by decide +kernel) (by decide +kernel)) (goodIn_sub (fun _ h => List.mem_cons_of_mem _ (List.mem_append_right _ h)) (by decide +kernel))) (goodIn_sub (fun _ h => List.mem_cons_of_mem _ (List.mem_append_left _ (List.mem_append_left _ (List.mem_append_right _ h)))) (by decide +kernel))
set_option maxRecDepth 20000 in
theorem gL_isBest_X7_mirrorIs : GoodIn wsL_isBest (wsV RL 57 RX7 yX7_mirrorIs wsX7_mirrorIs) := goodIn_app (goodIn_of _ (by decide +kernel)) ggL_isBest_X7_mirrorIs
set_option maxRecDepth 20000 in
theorem ggL_isBest_X7_aim : GoodIn wsL_isBest wsX7_aim := goodIn_ca (goodIn_ca (goodIn_ca (goodIn_r _ [251, 150, 151, 163, 239, 241, 242, 243, 4, 244, 12, 13, 6, 161, 162, 164, 30, 31, 32, 33, 34, 173, 36, 37, 38, 39, 40, 41, 42, 43, 44, 45, 46, 47, 48, 49, 50, 51, 174, 175, 176, 159, 160, 299, 300, 301, 302, 303, 304, 305, 306, 278, 279, 280, 281, 282, 283, 284, 285, 286, 287, 288, 289, 290, 291, 294, 295, 296, 297, 298, 307, 308, 309] (by decide +kernel) (by decide +kernel)) (goodIn_sub (fun _ h => List.mem_cons_of_mem _ (List.mem_append_left _ (List.mem_append_right _ h))) (by decide +kernel))) (goodIn_sub (fun _ h => List.mem_cons_of_mem _ (List.mem_append_left _ (List.mem_append_left _ (List.mem_append_right _ h)))) (by decide +kernel))) (goodIn_sub (fun _ h => List.mem_cons_of_mem _ (List.mem_append_right _ h)) (by decide +kernel))
set_option maxRecDepth 20000 in
theorem gL_isBest_X7_aim : GoodIn wsL_isBest (wsV RL 16 RX7 yX7_aim wsX7_aim) := goodIn_app (goodIn_of _ (by decide +kernel)) ggL_isBest_X7_aim
set_option maxRecDepth 20000 in
theorem ggL_isBest_X7_bestAnew : GoodIn wsL_isBest wsX7_bestAnew := goodIn_ca (goodIn_ca (goodIn_r _ [255, 150, 151, 152, 153, 155, 156, 157, 4, 158, 159, 160, 6, 161, 162, 163, 164, 30, 31, 32, 33, 34, 165, 166, 167, 168, 169, 170, 171, 172, 52, 53, 173, 36, 37, 38, 39, 40, 41, 42, 43, 44, 45, 46, 47, 48, 49, 50, 51, 177, 178, 179, 180, 181, 182, 183, 184, 185, 186, 187, 14, 15, 16, 17, 18, 19, 20, 21, 22, 23, 24, 25, 26, 27, 28, 29, 35, 54, 55, 56, 57, 58, 59, 60, 61, 62, 63, 64, 65, 66, 67, 68, 69, 70, 71, 72, 73, 74, 75, 76, 77, 78, 79, 80, 81, 82, 83, 84, 85, 86, 87, 88, 89, 90, 91, 92, 93, 94, 95, 96, 97, 98, 99, 100, 101, 102, 103, 104, 105, 106, 107, 108, 109, 110, 111, 112, 113, 114, 115, 116, 117, 118, 119, 120, 121, 122, 123, 124, 125, 126, 127, 128, 129, 130, 131, 132, 133, 134, 135, 136, 137, 138, 139, 188, 189, 190, 191, 192, 193, 194, 195, 256, 257, 258, 259, 211, 201, 260, 261, 262, 202, 203, 204, 205, 212, 213, 214, 215, 263, 264, 265, 266, 224, 225, 226, 227, 228, 278, 279, 280, 281, 282, 283, 284, 285, 286, 287, 288, 289, 290, 291, 294, 295, 296, 297, 298, 299, 300, 301, 302, 303, 304, 305, 306, 307, 308, 309, 316, 317, 318, 319, 320, 321, 322, 292, 293, 310, 311, 312, 313, 314, 315] (by decide +kernel) (by decide +kernel)) (goodIn_sub (fun _ h => List.mem_cons_of_mem _ (List.mem_append_left _ (List.mem_append_right _ h))) (by decide +kernel))) (goodIn_sub (fun _ h => List.mem_cons_of_mem _ (List.mem_append_right _ h)) (by decide +kernel))
set_option maxRecDepth 20000 in
theorem gL_isBest_X7_bestAnew : GoodIn wsL_isBest (wsV RL 119 RX7 yX7_bestAnew wsX7_bestAnew) := goodIn_app (goodIn_of _ (by decide +kernel)) ggL_isBest_X7_bestAnew
set_option maxRecDepth 20000 in
theorem ggL_isBest_X7_isSafe : GoodIn wsL_isBest wsX7_isSafe := goodIn_r _ [270, 6, 7, 153, 161, 162, 239, 14, 15, 16, 17, 18, 19, 20, 21, 22, 23, 24, 25, 26, 27, 28, 29, 30, 31, 32, 33, 34, 35, 36, 37, 38, 39, 40, 41, 42, 43, 44, 45, 46, 47, 48, 49, 50, 51, 52, 4, 53, 54, 55, 56, 57, 58, 59, 60, 61, 62, 63, 64, 65, 66, 67, 68, 69, 70, 71, 72, 73, 74, 75, 76, 77, 78, 79, 80, 81, 82, 83, 84, 85, 86, 87, 88, 89, 90, 91, 92, 93, 94, 95, 96, 97, 98, 99, 100, 101, 102, 103, 104, 105, 106, 107, 108, 109, 110, 111, 112, 113, 114, 115, 116, 117, 118, 119, 120, 121, 122, 123, 124, 125, 126, 127, 128, 129, 130, 131, 132, 133, 134, 135, 136, 137, 138, 139, 271, 203, 204, 205, 164, 173, 188, 272, 273, 274, 275, 276, 277, 278, 279, 280, 281, 282, 283, 284, 285, 286, 287, 288, 289, 290, 291, 294, 295, 296, 297, 298, 299, 300, 301, 302, 303, 304, 305, 306, 292, 293, 307, 308, 309, 310, 311, 312, 313, 314, 315] (by decide +kernel) (by decide +kernel)
set_option maxRecDepth 20000 in
theorem gL_isBest_X7_isSafe : GoodIn wsL_isBest (wsV RL 122 RX7 yX7_isSafe wsX7_isSafe) := goodIn_app (goodIn_of _ (by decide +kernel)) ggL_isBest_X7_isSafe
theorem dL_isBest_0 : decode cL_isBest 0 = .ok (.iload_n 3, 1) := by decide +kernel
theorem dL_isBest_1 : decode cL_isBest 1 = .ok (.aload_n 1, 1) := by decide +kernel
theorem dL_isBest_2 : decode cL_isBest 2 = .ok (.iconst 0, 1) := by decide +kernel
theorem dL_isBest_3 : decode cL_isBest 3 = .ok (.iaload, 1) := by decide +kernel
theorem dL_isBest_4 : decode cL_isBest 4 = .ok (.irem, 1) := by decide +kernel
theorem dL_isBest_5 : decode cL_isBest 5 = .ok (.istore 4, 2) := by decide +kernel
theorem dL_isBest_7 : decode cL_isBest 7 = .ok (.iconst 1, 1) := by decide +kernel
theorem dL_isBest_8 : decode cL_isBest 8 = .ok (.iload_n 2, 1) := by decide +kernel
theorem dL_isBest_9 : decode cL_isBest 9 = .ok (.ishl, 1) := by decide +kernel
theorem dL_isBest_10 : decode cL_isBest 10 = .ok (.iconst 1, 1) := by decide +kernel
theorem dL_isBest_11 : decode cL_isBest 11 = .ok (.iload 4, 2) := by decide +kernel
theorem dL_isBest_13 : decode cL_isBest 13 = .ok (.ishl, 1) := by decide +kernel
theorem dL_isBest_14 : decode cL_isBest 14 = .ok (.ior, 1) := by decide +kernel
theorem dL_isBest_15 : decode cL_isBest 15 = .ok (.istore 5, 2) := by decide +kernel
theorem dL_isBest_17 : decode cL_isBest 17 = .ok (.iconst 0, 1) := by decide +kernel
theorem dL_isBest_18 : decode cL_isBest 18 = .ok (.istore 6, 2) := by decide +kernel
theorem dL_isBest_20 : decode cL_isBest 20 = .ok (.iconst 0, 1) := by decide +kernel
theorem dL_isBest_21 : decode cL_isBest 21 = .ok (.istore 7, 2) := by decide +kernel
theorem dL_isBest_23 : decode cL_isBest 23 = .ok (.iload 7, 2) := by decide +kernel
theorem dL_isBest_25 : decode cL_isBest 25 = .ok (.bipush 6, 2) := by decide +kernel
theorem dL_isBest_27 : decode cL_isBest 27 = .ok (.if_icmp .ge 20, 3) := by decide +kernel
theorem dL_isBest_30 : decode cL_isBest 30 = .ok (.iload 6, 2) := by decide +kernel
theorem dL_isBest_32 : decode cL_isBest 32 = .ok (.aload_n 0, 1) := by decide +kernel
theorem dL_isBest_33 : decode cL_isBest 33 = .ok (.iload 7, 2) := by decide +kernel
theorem dL_isBest_35 : decode cL_isBest 35 = .ok (.invokevirtual 113, 3) := by decide +kernel
theorem dL_isBest_38 : decode cL_isBest 38 = .ok (.iadd, 1) := by decide +kernel
theorem dL_isBest_39 : decode cL_isBest 39 = .ok (.istore 6, 2) := by decide +kernel
theorem dL_isBest_41 : decode cL_isBest 41 = .ok (.iinc 7 1, 3) := by decide +kernel
theorem dL_isBest_44 : decode cL_isBest 44 = .ok (.goto (-21), 3) := by decide +kernel
theorem dL_isBest_47 : decode cL_isBest 47 = .ok (.aload_n 0, 1) := by decide +kernel
theorem dL_isBest_48 : decode cL_isBest 48 = .ok (.iload 5, 2) := by decide +kernel
theorem dL_isBest_50 : decode cL_isBest 50 = .ok (.iconst (-1), 1) := by decide +kernel
theorem dL_isBest_51 : decode cL_isBest 51 = .ok (.invokestatic 116, 3) := by decide +kernel
theorem dL_isBest_54 : decode cL_isBest 54 = .ok (.istore 7, 2) := by decide +kernel
theorem dL_isBest_56 : decode cL_isBest 56 = .ok (.aload_n 0, 1) := by decide +kernel
theorem dL_isBest_57 : decode cL_isBest 57 = .ok (.iload_n 2, 1) := by decide +kernel
theorem dL_isBest_58 : decode cL_isBest 58 = .ok (.iconst 4, 1) := by decide +kernel
theorem dL_isBest_59 : decode cL_isBest 59 = .ok (.invokevirtual 57, 3) := by decide +kernel
theorem dL_isBest_62 : decode cL_isBest 62 = .ok (.iconst 1, 1) := by decide +kernel
theorem dL_isBest_63 : decode cL_isBest 63 = .ok (.if_icmp .eq 14, 3) := by decide +kernel
theorem dL_isBest_66 : decode cL_isBest 66 = .ok (.aload_n 0, 1) := by decide +kernel
theorem dL_isBest_67 : decode cL_isBest 67 = .ok (.iload 4, 2) := by decide +kernel
theorem dL_isBest_69 : decode cL_isBest 69 = .ok (.iconst 4, 1) := by decide +kernel
theorem dL_isBest_70 : decode cL_isBest 70 = .ok (.invokevirtual 57, 3) := by decide +kernel
theorem dL_isBest_73 : decode cL_isBest 73 = .ok (.iconst 1, 1) := by decide +kernel
theorem dL_isBest_74 : decode cL_isBest 74 = .ok (.if_icmp .ne 7, 3) := by decide +kernel
theorem dL_isBest_77 : decode cL_isBest 77 = .ok (.iconst 1, 1) := by decide +kernel
theorem dL_isBest_78 : decode cL_isBest 78 = .ok (.goto 4, 3) := by decide +kernel
theorem dL_isBest_81 : decode cL_isBest 81 = .ok (.iconst 0, 1) := by decide +kernel
theorem dL_isBest_82 : decode cL_isBest 82 = .ok (.istore 8, 2) := by decide +kernel
theorem dL_isBest_84 : decode cL_isBest 84 = .ok (.iload 7, 2) := by decide +kernel
theorem dL_isBest_86 : decode cL_isBest 86 = .ok (.ifCond .ge 28, 3) := by decide +kernel
theorem dL_isBest_89 : decode cL_isBest 89 = .ok (.iload 7, 2) := by decide +kernel
theorem dL_isBest_91 : decode cL_isBest 91 = .ok (.iload 8, 2) := by decide +kernel
theorem dL_isBest_93 : decode cL_isBest 93 = .ok (.ifCond .eq 9, 3) := by decide +kernel
theorem dL_isBest_96 : decode cL_isBest 96 = .ok (.sipush (-300), 3) := by decide +kernel
theorem dL_isBest_99 : decode cL_isBest 99 = .ok (.goto 6, 3) := by decide +kernel
theorem dL_isBest_102 : decode cL_isBest 102 = .ok (.sipush (-200), 3) := by decide +kernel
theorem dL_isBest_105 : decode cL_isBest 105 = .ok (.if_icmp .ne 7, 3) := by decide +kernel
theorem dL_isBest_108 : decode cL_isBest 108 = .ok (.iconst 1, 1) := by decide +kernel
theorem dL_isBest_109 : decode cL_isBest 109 = .ok (.goto 4, 3) := by decide +kernel
theorem dL_isBest_112 : decode cL_isBest 112 = .ok (.iconst 0, 1) := by decide +kernel
theorem dL_isBest_113 : decode cL_isBest 113 = .ok (.ireturn, 1) := by decide +kernel
theorem dL_isBest_114 : decode cL_isBest 114 = .ok (.iload_n 2, 1) := by decide +kernel
theorem dL_isBest_115 : decode cL_isBest 115 = .ok (.iload 4, 2) := by decide +kernel
theorem dL_isBest_117 : decode cL_isBest 117 = .ok (.if_icmp .ge 7, 3) := by decide +kernel
theorem dL_isBest_120 : decode cL_isBest 120 = .ok (.iload_n 2, 1) := by decide +kernel
theorem dL_isBest_121 : decode cL_isBest 121 = .ok (.goto 5, 3) := by decide +kernel
theorem dL_isBest_124 : decode cL_isBest 124 = .ok (.iload 4, 2) := by decide +kernel
theorem dL_isBest_126 : decode cL_isBest 126 = .ok (.istore 9, 2) := by decide +kernel
theorem dL_isBest_128 : decode cL_isBest 128 = .ok (.iload_n 2, 1) := by decide +kernel
theorem dL_isBest_129 : decode cL_isBest 129 = .ok (.iload 4, 2) := by decide +kernel
theorem dL_isBest_131 : decode cL_isBest 131 = .ok (.if_icmp .ge 8, 3) := by decide +kernel
theorem dL_isBest_134 : decode cL_isBest 134 = .ok (.iload 4, 2) := by decide +kernel
theorem dL_isBest_136 : decode cL_isBest 136 = .ok (.goto 4, 3) := by decide +kernel
theorem dL_isBest_139 : decode cL_isBest 139 = .ok (.iload_n 2, 1) := by decide +kernel
theorem dL_isBest_140 : decode cL_isBest 140 = .ok (.istore 10, 2) := by decide +kernel
theorem dL_isBest_142 : decode cL_isBest 142 = .ok (.aload_n 0, 1) := by decide +kernel
theorem dL_isBest_143 : decode cL_isBest 143 = .ok (.iload 9, 2) := by decide +kernel
theorem dL_isBest_145 : decode cL_isBest 145 = .ok (.aload_n 0, 1) := by decide +kernel
theorem dL_isBest_146 : decode cL_isBest 146 = .ok (.iload 5, 2) := by decide +kernel
theorem dL_isBest_148 : decode cL_isBest 148 = .ok (.iconst 0, 1) := by decide +kernel
theorem dL_isBest_149 : decode cL_isBest 149 = .ok (.invokestatic 116, 3) := by decide +kernel
theorem dL_isBest_152 : decode cL_isBest 152 = .ok (.invokevirtual 16, 3) := by decide +kernel
theorem dL_isBest_155 : decode cL_isBest 155 = .ok (.istore 11, 2) := by decide +kernel
theorem dL_isBest_157 : decode cL_isBest 157 = .ok (.iload 9, 2) := by decide +kernel
theorem dL_isBest_159 : decode cL_isBest 159 = .ok (.iload 10, 2) := by decide +kernel
theorem dL_isBest_161 : decode cL_isBest 161 = .ok (.if_icmp .ne 7, 3) := by decide +kernel
theorem dL_isBest_164 : decode cL_isBest 164 = .ok (.iconst (-1), 1) := by decide +kernel
theorem dL_isBest_165 : decode cL_isBest 165 = .ok (.goto 16, 3) := by decide +kernel
theorem dL_isBest_168 : decode cL_isBest 168 = .ok (.aload_n 0, 1) := by decide +kernel
theorem dL_isBest_169 : decode cL_isBest 169 = .ok (.iload 10, 2) := by decide +kernel
theorem dL_isBest_171 : decode cL_isBest 171 = .ok (.aload_n 0, 1) := by decide +kernel
theorem dL_isBest_172 : decode cL_isBest 172 = .ok (.iload 5, 2) := by decide +kernel
theorem dL_isBest_174 : decode cL_isBest 174 = .ok (.iconst 1, 1) := by decide +kernel
theorem dL_isBest_175 : decode cL_isBest 175 = .ok (.invokestatic 116, 3) := by decide +kernel
theorem dL_isBest_178 : decode cL_isBest 178 = .ok (.invokevirtual 16, 3) := by decide +kernel
theorem dL_isBest_181 : decode cL_isBest 181 = .ok (.istore 12, 2) := by decide +kernel
theorem dL_isBest_183 : decode cL_isBest 183 = .ok (.iconst 0, 1) := by decide +kernel
theorem dL_isBest_184 : decode cL_isBest 184 = .ok (.istore 13, 2) := by decide +kernel
theorem dL_isBest_186 : decode cL_isBest 186 = .ok (.iconst 0, 1) := by decide +kernel
theorem dL_isBest_187 : decode cL_isBest 187 = .ok (.istore 14, 2) := by decide +kernel
theorem dL_isBest_189 : decode cL_isBest 189 = .ok (.iload 14, 2) := by decide +kernel
theorem dL_isBest_191 : decode cL_isBest 191 = .ok (.bipush 6, 2) := by decide +kernel
theorem dL_isBest_193 : decode cL_isBest 193 = .ok (.if_icmp .ge 20, 3) := by decide +kernel
theorem dL_isBest_196 : decode cL_isBest 196 = .ok (.iload 13, 2) := by decide +kernel
theorem dL_isBest_198 : decode cL_isBest 198 = .ok (.aload_n 0, 1) := by decide +kernel
theorem dL_isBest_199 : decode cL_isBest 199 = .ok (.iload 14, 2) := by decide +kernel
theorem dL_isBest_201 : decode cL_isBest 201 = .ok (.invokevirtual 113, 3) := by decide +kernel
theorem dL_isBest_204 : decode cL_isBest 204 = .ok (.iadd, 1) := by decide +kernel
theorem dL_isBest_205 : decode cL_isBest 205 = .ok (.istore 13, 2) := by decide +kernel
theorem dL_isBest_207 : decode cL_isBest 207 = .ok (.iinc 14 1, 3) := by decide +kernel
theorem dL_isBest_210 : decode cL_isBest 210 = .ok (.goto (-21), 3) := by decide +kernel
theorem dL_isBest_213 : decode cL_isBest 213 = .ok (.iload 8, 2) := by decide +kernel
theorem dL_isBest_215 : decode cL_isBest 215 = .ok (.ifCond .ne 37, 3) := by decide +kernel
theorem dL_isBest_218 : decode cL_isBest 218 = .ok (.iload 13, 2) := by decide +kernel
theorem dL_isBest_220 : decode cL_isBest 220 = .ok (.iload 7, 2) := by decide +kernel
theorem dL_isBest_222 : decode cL_isBest 222 = .ok (.if_icmp .ne 30, 3) := by decide +kernel
theorem dL_isBest_225 : decode cL_isBest 225 = .ok (.aload_n 0, 1) := by decide +kernel
theorem dL_isBest_226 : decode cL_isBest 226 = .ok (.iload 5, 2) := by decide +kernel
theorem dL_isBest_228 : decode cL_isBest 228 = .ok (.iconst (-1), 1) := by decide +kernel
theorem dL_isBest_229 : decode cL_isBest 229 = .ok (.invokestatic 116, 3) := by decide +kernel
theorem dL_isBest_232 : decode cL_isBest 232 = .ok (.iload 7, 2) := by decide +kernel
theorem dL_isBest_234 : decode cL_isBest 234 = .ok (.if_icmp .ne 18, 3) := by decide +kernel
theorem dL_isBest_237 : decode cL_isBest 237 = .ok (.aload_n 0, 1) := by decide +kernel
theorem dL_isBest_238 : decode cL_isBest 238 = .ok (.iload 5, 2) := by decide +kernel
theorem dL_isBest_240 : decode cL_isBest 240 = .ok (.invokevirtual 119, 3) := by decide +kernel
theorem dL_isBest_243 : decode cL_isBest 243 = .ok (.iload 7, 2) := by decide +kernel
theorem dL_isBest_245 : decode cL_isBest 245 = .ok (.if_icmp .ne 7, 3) := by decide +kernel
theorem dL_isBest_248 : decode cL_isBest 248 = .ok (.iconst 1, 1) := by decide +kernel
theorem dL_isBest_249 : decode cL_isBest 249 = .ok (.goto 4, 3) := by decide +kernel
theorem dL_isBest_252 : decode cL_isBest 252 = .ok (.iconst 0, 1) := by decide +kernel
theorem dL_isBest_253 : decode cL_isBest 253 = .ok (.istore 14, 2) := by decide +kernel
theorem dL_isBest_255 : decode cL_isBest 255 = .ok (.aload_n 0, 1) := by decide +kernel
theorem dL_isBest_256 : decode cL_isBest 256 = .ok (.iload 9, 2) := by decide +kernel
theorem dL_isBest_258 : decode cL_isBest 258 = .ok (.iload 11, 2) := by decide +kernel
theorem dL_isBest_260 : decode cL_isBest 260 = .ok (.invokevirtual 16, 3) := by decide +kernel
theorem dL_isBest_263 : decode cL_isBest 263 = .ok (.pop, 1) := by decide +kernel
theorem dL_isBest_264 : decode cL_isBest 264 = .ok (.iload 9, 2) := by decide +kernel
theorem dL_isBest_266 : decode cL_isBest 266 = .ok (.iload 10, 2) := by decide +kernel
theorem dL_isBest_268 : decode cL_isBest 268 = .ok (.if_icmp .eq 12, 3) := by decide +kernel
theorem dL_isBest_271 : decode cL_isBest 271 = .ok (.aload_n 0, 1) := by decide +kernel
theorem dL_isBest_272 : decode cL_isBest 272 = .ok (.iload 10, 2) := by decide +kernel
theorem dL_isBest_274 : decode cL_isBest 274 = .ok (.iload 12, 2) := by decide +kernel
theorem dL_isBest_276 : decode cL_isBest 276 = .ok (.invokevirtual 16, 3) := by decide +kernel
theorem dL_isBest_279 : decode cL_isBest 279 = .ok (.pop, 1) := by decide +kernel
theorem dL_isBest_280 : decode cL_isBest 280 = .ok (.iload 14, 2) := by decide +kernel
theorem dL_isBest_282 : decode cL_isBest 282 = .ok (.ifCond .eq 21, 3) := by decide +kernel
theorem dL_isBest_285 : decode cL_isBest 285 = .ok (.aload_n 0, 1) := by decide +kernel
theorem dL_isBest_286 : decode cL_isBest 286 = .ok (.invokevirtual 122, 3) := by decide +kernel
theorem dL_isBest_289 : decode cL_isBest 289 = .ok (.ifCond .eq 10, 3) := by decide +kernel
theorem dL_isBest_292 : decode cL_isBest 292 = .ok (.iload 7, 2) := by decide +kernel
theorem dL_isBest_294 : decode cL_isBest 294 = .ok (.iload 6, 2) := by decide +kernel
theorem dL_isBest_296 : decode cL_isBest 296 = .ok (.if_icmp .lt 7, 3) := by decide +kernel
theorem dL_isBest_299 : decode cL_isBest 299 = .ok (.iconst 1, 1) := by decide +kernel
theorem dL_isBest_300 : decode cL_isBest 300 = .ok (.goto 4, 3) := by decide +kernel
theorem dL_isBest_303 : decode cL_isBest 303 = .ok (.iconst 0, 1) := by decide +kernel
theorem dL_isBest_304 : decode cL_isBest 304 = .ok (.ireturn, 1) := by decide +kernel
set_option maxRecDepth 20000 in
theorem ggL_isForetold_X7_power : GoodIn wsL_isForetold wsX7_power := goodIn_ca (goodIn_ca (goodIn_r _ [5, 6, 7, 8, 9, 4, 10, 11, 12, 13, 14, 15, 16, 17, 18, 19, 20, 21, 22, 23, 24, 25, 26, 27, 28, 29, 30, 31, 32, 33, 34, 35, 36, 37, 38, 39, 40, 41, 42, 43, 44, 45, 46, 47, 48, 49, 50, 51, 52, 53, 54, 55, 56, 57, 58, 59, 60, 61, 62, 63, 64, 65, 66, 67, 68, 69, 70, 71, 72, 73, 74, 75, 76, 77, 78, 79, 80, 81, 82, 83, 84, 85, 86, 87, 88, 89, 90, 91, 92, 93, 94, 95, 96, 97, 98, 99, 100, 101, 102, 103, 104, 105, 106, 107, 108, 292, 293, 294, 295, 296, 297, 298, 299, 300, 301, 302, 303, 304, 305, 306, 307, 308, 309, 310, 311, 312, 313, 314, 315, 316, 317, 318, 319, 320, 321, 322, 323, 324, 325, 326, 327] (by decide +kernel) (by decide +kernel)) (goodIn_sub (fun _ h => List.mem_cons_of_mem _ (List.mem_append_left _ (List.mem_append_left _ (List.mem_append_right _ h)))) (by decide +kernel))) (goodIn_sub (fun _ h => List.mem_cons_of_mem _ (List.mem_append_left _ (List.mem_append_right _ h))) (by decide +kernel))
set_option maxRecDepth 20000 in
theorem gL_isForetold_X7_power : GoodIn wsL_isForetold (wsV RL 64 RX7 yX7_power wsX7_power) := goodIn_app (goodIn_of _ (by decide +kernel)) ggL_isForetold_X7_power
set_option maxRecDepth 20000 in
theorem ggL_isForetold_L_goes : GoodIn wsL_isForetold wsL_goes := goodIn_ca (goodIn_ca (goodIn_ca (goodIn_r _ [112, 113, 114, 115, 4, 116, 6, 117, 118, 13, 14, 119, 120, 121, 122, 46, 123, 124, 125, 126, 127, 128, 129, 130, 131, 132, 133, 55, 16, 17, 18, 19, 20, 56, 22, 23, 24, 25, 26, 27, 28, 29, 30, 31, 32, 33, 34, 35, 36, 37, 134, 135, 136, 137, 138, 102, 139, 140, 141, 142, 143, 144, 145, 146, 147, 148, 149, 150, 151, 44, 45, 47, 48, 49, 50, 51, 52, 53, 54, 57, 58, 59, 60, 61, 62, 63, 64, 65, 66, 67, 68, 69, 70, 71, 72, 73, 74, 75, 76, 77, 78, 79, 80, 81, 82, 83, 84, 85, 86, 87, 88, 89, 90, 91, 92, 93, 94, 95, 96, 97, 98, 99, 100, 101, 103, 104, 105, 106, 107, 108, 152, 153, 154, 155, 156, 157, 158, 159, 160, 161, 162, 163, 15, 21, 164, 165, 166, 167, 168, 169, 170, 171, 172, 173, 174, 41, 42, 175, 176, 177, 178, 179, 180, 181, 182, 183, 184, 185, 186, 187, 188, 189, 190, 191, 192, 38, 39, 40, 193, 194, 195, 196, 197, 198, 199, 200, 11, 12, 201, 202, 203, 204, 205, 206, 207, 208, 209, 210, 211, 212, 213, 214, 215, 216, 217, 218, 219, 220, 221, 222, 223, 224, 225, 226, 227, 228, 229, 230, 231, 232, 233, 234, 235, 236, 237, 238, 239, 240, 241, 242, 243, 244, 245, 246, 247, 248, 249, 250, 251, 252, 253, 254, 255, 256, 257, 258, 259, 260, 261, 262, 263, 264, 265, 266, 267, 268, 269, 270, 271, 272, 273, 274, 275, 276, 277, 278, 279, 280, 281, 282, 283, 284, 285, 286, 287, 288, 289, 290, 291, 292, 293, 294, 295, 296, 297, 298, 299, 300, 301, 302, 303, 304, 305, 306, 307, 308, 309, 310, 314, 315, 316, 317, 318, 319, 320, 321, 328, 329, 311, 312, 313, 322, 323, 324, 325, 326, 327, 330, 331, 332, 333, 334, 335, 336] (by decide +kernel) (by decide +kernel)) (goodIn_sub (fun _ h => List.mem_cons_of_mem _ (List.mem_append_left _ (List.mem_append_right _ h))) (by decide +kernel))) (goodIn_sub (fun _ h => List.mem_cons_of_mem _ (List.mem_append_left _ (List.mem_append_left _ (List.mem_append_right _ h)))) (by decide +kernel))) (goodIn_sub (fun _ h => List.mem_cons_of_mem _ (List.mem_append_right _ h)) (by decide +kernel))
set_option maxRecDepth 20000 in
theorem gL_isForetold_L_goes : GoodIn wsL_isForetold (va_wsS RL 109 yL_goes wsL_goes) := goodIn_app (goodIn_of _ (by decide +kernel)) ggL_isForetold_L_goes
theorem dL_isForetold_0 : decode cL_isForetold 0 = .ok (.aload_n 0, 1) := by decide +kernel
theorem dL_isForetold_1 : decode cL_isForetold 1 = .ok (.iload_n 2, 1) := by decide +kernel
theorem dL_isForetold_2 : decode cL_isForetold 2 = .ok (.iload_n 3, 1) := by decide +kernel
theorem dL_isForetold_3 : decode cL_isForetold 3 = .ok (.invokevirtual 64, 3) := by decide +kernel
theorem dL_isForetold_6 : decode cL_isForetold 6 = .ok (.istore 4, 2) := by decide +kernel
theorem dL_isForetold_8 : decode cL_isForetold 8 = .ok (.aload_n 1, 1) := by decide +kernel
theorem dL_isForetold_9 : decode cL_isForetold 9 = .ok (.iconst 1, 1) := by decide +kernel
theorem dL_isForetold_10 : decode cL_isForetold 10 = .ok (.iaload, 1) := by decide +kernel
theorem dL_isForetold_11 : decode cL_isForetold 11 = .ok (.iload_n 3, 1) := by decide +kernel
theorem dL_isForetold_12 : decode cL_isForetold 12 = .ok (.iadd, 1) := by decide +kernel
theorem dL_isForetold_13 : decode cL_isForetold 13 = .ok (.sipush 9999, 3) := by decide +kernel
theorem dL_isForetold_16 : decode cL_isForetold 16 = .ok (.if_icmp .gt 23, 3) := by decide +kernel
theorem dL_isForetold_19 : decode cL_isForetold 19 = .ok (.aload_n 0, 1) := by decide +kernel
theorem dL_isForetold_20 : decode cL_isForetold 20 = .ok (.aload_n 1, 1) := by decide +kernel
theorem dL_isForetold_21 : decode cL_isForetold 21 = .ok (.iload_n 3, 1) := by decide +kernel
theorem dL_isForetold_22 : decode cL_isForetold 22 = .ok (.invokestatic 109, 3) := by decide +kernel
theorem dL_isForetold_25 : decode cL_isForetold 25 = .ok (.ifCond .eq 18, 3) := by decide +kernel
theorem dL_isForetold_28 : decode cL_isForetold 28 = .ok (.aload_n 0, 1) := by decide +kernel
theorem dL_isForetold_29 : decode cL_isForetold 29 = .ok (.iload_n 2, 1) := by decide +kernel
theorem dL_isForetold_30 : decode cL_isForetold 30 = .ok (.iconst 0, 1) := by decide +kernel
theorem dL_isForetold_31 : decode cL_isForetold 31 = .ok (.invokevirtual 64, 3) := by decide +kernel
theorem dL_isForetold_34 : decode cL_isForetold 34 = .ok (.iload 4, 2) := by decide +kernel
theorem dL_isForetold_36 : decode cL_isForetold 36 = .ok (.if_icmp .ne 7, 3) := by decide +kernel
theorem dL_isForetold_39 : decode cL_isForetold 39 = .ok (.iconst 1, 1) := by decide +kernel
theorem dL_isForetold_40 : decode cL_isForetold 40 = .ok (.goto 4, 3) := by decide +kernel
theorem dL_isForetold_43 : decode cL_isForetold 43 = .ok (.iconst 0, 1) := by decide +kernel
theorem dL_isForetold_44 : decode cL_isForetold 44 = .ok (.ireturn, 1) := by decide +kernel
set_option maxRecDepth 20000 in
theorem ggL_goes_X7_isSafe : GoodIn wsL_goes wsX7_isSafe := goodIn_r _ [5, 6, 7, 8, 9, 10, 11, 12, 13, 14, 15, 16, 17, 18, 19, 20, 21, 22, 23, 24, 25, 26, 27, 28, 29, 30, 31, 32, 33, 34, 35, 36, 37, 38, 39, 40, 41, 42, 43, 44, 45, 46, 47, 48, 49, 50, 4, 51, 52, 53, 54, 55, 56, 57, 58, 59, 60, 61, 62, 63, 64, 65, 66, 67, 68, 69, 70, 71, 72, 73, 74, 75, 76, 77, 78, 79, 80, 81, 82, 83, 84, 85, 86, 87, 88, 89, 90, 91, 92, 93, 94, 95, 96, 97, 98, 99, 100, 101, 102, 103, 104, 105, 106, 107, 108, 109, 110, 111, 112, 113, 114, 115, 116, 117, 118, 119, 120, 121, 122, 123, 124, 125, 126, 127, 128, 129, 130, 131, 132, 133, 134, 135, 136, 137, 138, 139, 140, 141, 142, 143, 144, 145, 146, 147, 148, 149, 150, 279, 280, 281, 282, 283, 284, 285, 286, 287, 288, 289, 290, 291, 292, 293, 294, 295, 296, 297, 298, 299, 300, 301, 302, 303, 304, 305, 306, 307, 308, 309, 310, 311, 312, 313, 314, 315, 316] (by decide +kernel) (by decide +kernel)
set_option maxRecDepth 20000 in
theorem gL_goes_X7_isSafe : GoodIn wsL_goes (wsV RL 122 RX7 yX7_isSafe wsX7_isSafe) := goodIn_app (goodIn_of _ (by decide +kernel)) ggL_goes_X7_isSafe
set_option maxRecDepth 20000 in
theorem ggL_goes_X7_plantIs : GoodIn wsL_goes wsX7_plantIs := goodIn_ca (goodIn_r _ [154, 155, 156, 6, 157, 158, 159, 160, 161, 162, 163, 164, 165, 166, 167, 168, 169, 118, 119, 15, 120, 98, 99, 100, 101, 102, 279, 280, 281, 282, 283, 284, 285, 286, 287, 288, 289, 290, 291, 292, 293, 294, 295, 296, 297, 317, 318, 319, 320, 321, 322, 323] (by decide +kernel) (by decide +kernel)) (goodIn_sub (fun _ h => List.mem_cons_of_mem _ (List.mem_append_left _ (List.mem_append_left _ (List.mem_append_right _ h)))) (by decide +kernel))
set_option maxRecDepth 20000 in
theorem gL_goes_X7_plantIs : GoodIn wsL_goes (wsV RL 74 RX7 yX7_plantIs wsX7_plantIs) := goodIn_app (goodIn_of _ (by decide +kernel)) ggL_goes_X7_plantIs
set_option maxRecDepth 20000 in
theorem ggL_goes_X7_sum : GoodIn wsL_goes wsX7_sum := goodIn_ca (goodIn_r _ [173, 174, 175, 176, 4, 177, 155, 156, 279, 280, 281, 282, 283, 284, 285, 286, 287, 288, 289, 290, 291, 292] (by decide +kernel) (by decide +kernel)) (goodIn_sub (fun _ h => List.mem_cons_of_mem _ (List.mem_append_left _ (List.mem_append_left _ (List.mem_append_right _ h)))) (by decide +kernel))
set_option maxRecDepth 20000 in
theorem gL_goes_X7_sum : GoodIn wsL_goes (wsV RL 126 RX7 yX7_sum wsX7_sum) := goodIn_app (goodIn_of _ (by decide +kernel)) ggL_goes_X7_sum
set_option maxRecDepth 20000 in
theorem ggL_goes_X7_flux : GoodIn wsL_goes wsX7_flux := goodIn_ca (goodIn_r _ [181, 6, 7, 182, 183, 184, 4, 185, 186, 187, 12, 13, 14, 15, 16, 17, 18, 19, 20, 21, 22, 23, 24, 25, 26, 27, 28, 29, 30, 31, 32, 33, 34, 35, 36, 37, 38, 39, 40, 41, 42, 43, 44, 45, 46, 47, 48, 49, 50, 51, 52, 53, 54, 55, 56, 57, 58, 59, 60, 61, 62, 63, 64, 65, 66, 67, 68, 69, 70, 71, 72, 73, 74, 75, 76, 77, 78, 79, 80, 81, 82, 83, 84, 85, 86, 87, 88, 89, 90, 91, 92, 93, 94, 95, 96, 97, 98, 99, 100, 101, 102, 103, 104, 105, 106, 107, 108, 109, 110, 111, 112, 113, 114, 115, 116, 117, 118, 119, 120, 121, 122, 123, 124, 125, 126, 127, 128, 129, 130, 131, 132, 133, 134, 135, 136, 137, 279, 280, 281, 282, 283, 284, 285, 286, 287, 288, 289, 290, 291, 292, 306, 307, 293, 294, 295, 296, 297, 298, 299, 300, 301, 302, 303, 304, 305, 308, 309, 310, 311, 312, 313, 314, 315, 316] (by decide +kernel) (by decide +kernel)) (goodIn_sub (fun _ h => List.mem_cons_of_mem _ (List.mem_append_left _ (List.mem_append_right _ h))) (by decide +kernel))
set_option maxRecDepth 20000 in
theorem gL_goes_X7_flux : GoodIn wsL_goes (wsV RL 113 RX7 yX7_flux wsX7_flux) := goodIn_app (goodIn_of _ (by decide +kernel)) ggL_goes_X7_flux
set_option maxRecDepth 20000 in
theorem ggL_goes_X7_pass : GoodIn wsL_goes wsX7_pass := goodIn_ca (goodIn_ca (goodIn_r _ [191, 192, 193, 6, 157, 175, 176, 4, 177, 155, 156, 194, 195, 196, 197, 7, 160, 12, 13, 14, 15, 16, 17, 18, 19, 20, 21, 22, 23, 24, 25, 26, 27, 28, 29, 30, 31, 32, 33, 34, 35, 36, 37, 38, 39, 40, 41, 42, 43, 44, 45, 46, 47, 48, 49, 50, 51, 52, 53, 54, 55, 56, 57, 58, 59, 60, 61, 62, 63, 64, 65, 66, 67, 68, 69, 70, 71, 72, 73, 74, 75, 76, 77, 78, 79, 80, 81, 82, 83, 84, 85, 86, 87, 88, 89, 90, 91, 92, 93, 94, 95, 96, 97, 98, 99, 100, 101, 102, 103, 104, 105, 106, 107, 108, 109, 110, 111, 112, 113, 114, 115, 116, 117, 118, 119, 120, 121, 122, 123, 124, 125, 126, 127, 128, 129, 130, 131, 132, 133, 134, 135, 136, 137, 198, 199, 200, 201, 174, 202, 8, 203, 204, 205, 206, 138, 139, 140, 141, 207, 208, 209, 210, 168, 182, 211, 212, 213, 214, 215, 216, 217, 218, 219, 220, 162, 158, 221, 159, 222, 223, 224, 225, 226, 227, 228, 229, 230, 231, 232, 233, 234, 235, 236, 237, 238, 239, 240, 241, 242, 243, 244, 245, 246, 164, 247, 248, 249, 250, 251, 252, 253, 254, 255, 256, 257, 258, 259, 169, 260, 261, 262, 263, 163, 264, 265, 266, 267, 268, 269, 270, 271, 272, 273, 274, 275, 276, 277, 278, 279, 280, 281, 282, 283, 284, 285, 286, 287, 288, 289, 290, 291, 292, 293, 294, 295, 296, 297, 298, 299, 300, 301, 302, 303, 304, 305, 306, 307, 308, 309, 310, 311, 312, 313, 314, 315, 316, 317, 318, 319, 320, 321, 322, 323] (by decide +kernel) (by decide +kernel)) (goodIn_sub (fun _ h => List.mem_cons_of_mem _ (List.mem_append_right _ h)) (by decide +kernel))) (goodIn_sub (fun _ h => List.mem_cons_of_mem _ (List.mem_append_left _ (List.mem_append_left _ (List.mem_append_right _ h)))) (by decide +kernel))
set_option maxRecDepth 20000 in
theorem gL_goes_X7_pass : GoodIn wsL_goes (wsV RL 130 RX7 yX7_pass wsX7_pass) := goodIn_app (goodIn_of _ (by decide +kernel)) ggL_goes_X7_pass
theorem dL_goes_0 : decode cL_goes 0 = .ok (.iconst 1, 1) := by decide +kernel
theorem dL_goes_1 : decode cL_goes 1 = .ok (.istore_n 3, 1) := by decide +kernel
theorem dL_goes_2 : decode cL_goes 2 = .ok (.iconst 0, 1) := by decide +kernel
theorem dL_goes_3 : decode cL_goes 3 = .ok (.istore 4, 2) := by decide +kernel
theorem dL_goes_5 : decode cL_goes 5 = .ok (.iload 4, 2) := by decide +kernel
theorem dL_goes_7 : decode cL_goes 7 = .ok (.iload_n 2, 1) := by decide +kernel
theorem dL_goes_8 : decode cL_goes 8 = .ok (.if_icmp .ge 263, 3) := by decide +kernel
theorem dL_goes_11 : decode cL_goes 11 = .ok (.iload_n 3, 1) := by decide +kernel
theorem dL_goes_12 : decode cL_goes 12 = .ok (.ifCond .eq 259, 3) := by decide +kernel
theorem dL_goes_15 : decode cL_goes 15 = .ok (.aload_n 1, 1) := by decide +kernel
theorem dL_goes_16 : decode cL_goes 16 = .ok (.iconst 1, 1) := by decide +kernel
theorem dL_goes_17 : decode cL_goes 17 = .ok (.iaload, 1) := by decide +kernel
theorem dL_goes_18 : decode cL_goes 18 = .ok (.sipush 9999, 3) := by decide +kernel
theorem dL_goes_21 : decode cL_goes 21 = .ok (.if_icmp .ge 250, 3) := by decide +kernel
theorem dL_goes_24 : decode cL_goes 24 = .ok (.aload_n 0, 1) := by decide +kernel
theorem dL_goes_25 : decode cL_goes 25 = .ok (.invokevirtual 122, 3) := by decide +kernel
theorem dL_goes_28 : decode cL_goes 28 = .ok (.istore 5, 2) := by decide +kernel
theorem dL_goes_30 : decode cL_goes 30 = .ok (.aload_n 0, 1) := by decide +kernel
theorem dL_goes_31 : decode cL_goes 31 = .ok (.bipush 10, 2) := by decide +kernel
theorem dL_goes_33 : decode cL_goes 33 = .ok (.invokevirtual 74, 3) := by decide +kernel
theorem dL_goes_36 : decode cL_goes 36 = .ok (.istore 6, 2) := by decide +kernel
theorem dL_goes_38 : decode cL_goes 38 = .ok (.aload_n 0, 1) := by decide +kernel
theorem dL_goes_39 : decode cL_goes 39 = .ok (.iconst 5, 1) := by decide +kernel
theorem dL_goes_40 : decode cL_goes 40 = .ok (.invokevirtual 74, 3) := by decide +kernel
theorem dL_goes_43 : decode cL_goes 43 = .ok (.istore 7, 2) := by decide +kernel
theorem dL_goes_45 : decode cL_goes 45 = .ok (.aload_n 0, 1) := by decide +kernel
theorem dL_goes_46 : decode cL_goes 46 = .ok (.iconst 3, 1) := by decide +kernel
theorem dL_goes_47 : decode cL_goes 47 = .ok (.invokevirtual 74, 3) := by decide +kernel
theorem dL_goes_50 : decode cL_goes 50 = .ok (.istore 8, 2) := by decide +kernel
theorem dL_goes_52 : decode cL_goes 52 = .ok (.aload_n 0, 1) := by decide +kernel
theorem dL_goes_53 : decode cL_goes 53 = .ok (.iconst 5, 1) := by decide +kernel
theorem dL_goes_54 : decode cL_goes 54 = .ok (.invokevirtual 126, 3) := by decide +kernel
theorem dL_goes_57 : decode cL_goes 57 = .ok (.lstore 9, 2) := by decide +kernel
theorem dL_goes_59 : decode cL_goes 59 = .ok (.aload_n 0, 1) := by decide +kernel
theorem dL_goes_60 : decode cL_goes 60 = .ok (.iconst 0, 1) := by decide +kernel
theorem dL_goes_61 : decode cL_goes 61 = .ok (.invokevirtual 126, 3) := by decide +kernel
theorem dL_goes_64 : decode cL_goes 64 = .ok (.lstore 11, 2) := by decide +kernel
theorem dL_goes_66 : decode cL_goes 66 = .ok (.iconst 0, 1) := by decide +kernel
theorem dL_goes_67 : decode cL_goes 67 = .ok (.istore 13, 2) := by decide +kernel
theorem dL_goes_69 : decode cL_goes 69 = .ok (.iconst 0, 1) := by decide +kernel
theorem dL_goes_70 : decode cL_goes 70 = .ok (.istore 14, 2) := by decide +kernel
theorem dL_goes_72 : decode cL_goes 72 = .ok (.iload 14, 2) := by decide +kernel
theorem dL_goes_74 : decode cL_goes 74 = .ok (.bipush 6, 2) := by decide +kernel
theorem dL_goes_76 : decode cL_goes 76 = .ok (.if_icmp .ge 20, 3) := by decide +kernel
theorem dL_goes_79 : decode cL_goes 79 = .ok (.iload 13, 2) := by decide +kernel
theorem dL_goes_81 : decode cL_goes 81 = .ok (.aload_n 0, 1) := by decide +kernel
theorem dL_goes_82 : decode cL_goes 82 = .ok (.iload 14, 2) := by decide +kernel
theorem dL_goes_84 : decode cL_goes 84 = .ok (.invokevirtual 113, 3) := by decide +kernel
theorem dL_goes_87 : decode cL_goes 87 = .ok (.iadd, 1) := by decide +kernel
theorem dL_goes_88 : decode cL_goes 88 = .ok (.istore 13, 2) := by decide +kernel
theorem dL_goes_90 : decode cL_goes 90 = .ok (.iinc 14 1, 3) := by decide +kernel
theorem dL_goes_93 : decode cL_goes 93 = .ok (.goto (-21), 3) := by decide +kernel
theorem dL_goes_96 : decode cL_goes 96 = .ok (.aload_n 1, 1) := by decide +kernel
theorem dL_goes_97 : decode cL_goes 97 = .ok (.iconst 4, 1) := by decide +kernel
theorem dL_goes_98 : decode cL_goes 98 = .ok (.dup2, 1) := by decide +kernel
theorem dL_goes_99 : decode cL_goes 99 = .ok (.iaload, 1) := by decide +kernel
theorem dL_goes_100 : decode cL_goes 100 = .ok (.aload_n 1, 1) := by decide +kernel
theorem dL_goes_101 : decode cL_goes 101 = .ok (.iconst 5, 1) := by decide +kernel
theorem dL_goes_102 : decode cL_goes 102 = .ok (.aload_n 1, 1) := by decide +kernel
theorem dL_goes_103 : decode cL_goes 103 = .ok (.iconst 1, 1) := by decide +kernel
theorem dL_goes_104 : decode cL_goes 104 = .ok (.iaload, 1) := by decide +kernel
theorem dL_goes_105 : decode cL_goes 105 = .ok (.bipush 24, 2) := by decide +kernel
theorem dL_goes_107 : decode cL_goes 107 = .ok (.irem, 1) := by decide +kernel
theorem dL_goes_108 : decode cL_goes 108 = .ok (.iadd, 1) := by decide +kernel
theorem dL_goes_109 : decode cL_goes 109 = .ok (.iaload, 1) := by decide +kernel
theorem dL_goes_110 : decode cL_goes 110 = .ok (.iadd, 1) := by decide +kernel
theorem dL_goes_111 : decode cL_goes 111 = .ok (.iastore, 1) := by decide +kernel
theorem dL_goes_112 : decode cL_goes 112 = .ok (.aload_n 1, 1) := by decide +kernel
theorem dL_goes_113 : decode cL_goes 113 = .ok (.iconst 1, 1) := by decide +kernel
theorem dL_goes_114 : decode cL_goes 114 = .ok (.dup2, 1) := by decide +kernel
theorem dL_goes_115 : decode cL_goes 115 = .ok (.iaload, 1) := by decide +kernel
theorem dL_goes_116 : decode cL_goes 116 = .ok (.iconst 1, 1) := by decide +kernel
theorem dL_goes_117 : decode cL_goes 117 = .ok (.iadd, 1) := by decide +kernel
theorem dL_goes_118 : decode cL_goes 118 = .ok (.iastore, 1) := by decide +kernel
theorem dL_goes_119 : decode cL_goes 119 = .ok (.aload_n 0, 1) := by decide +kernel
theorem dL_goes_120 : decode cL_goes 120 = .ok (.iconst 1, 1) := by decide +kernel
theorem dL_goes_121 : decode cL_goes 121 = .ok (.invokevirtual 130, 3) := by decide +kernel
theorem dL_goes_124 : decode cL_goes 124 = .ok (.aload_n 1, 1) := by decide +kernel
theorem dL_goes_125 : decode cL_goes 125 = .ok (.iconst 1, 1) := by decide +kernel
theorem dL_goes_126 : decode cL_goes 126 = .ok (.iaload, 1) := by decide +kernel
theorem dL_goes_127 : decode cL_goes 127 = .ok (.if_icmp .ne 73, 3) := by decide +kernel
theorem dL_goes_130 : decode cL_goes 130 = .ok (.aload_n 0, 1) := by decide +kernel
theorem dL_goes_131 : decode cL_goes 131 = .ok (.bipush 10, 2) := by decide +kernel
theorem dL_goes_133 : decode cL_goes 133 = .ok (.invokevirtual 74, 3) := by decide +kernel
theorem dL_goes_136 : decode cL_goes 136 = .ok (.iload 6, 2) := by decide +kernel
theorem dL_goes_138 : decode cL_goes 138 = .ok (.isub, 1) := by decide +kernel
theorem dL_goes_139 : decode cL_goes 139 = .ok (.ifCond .lt 61, 3) := by decide +kernel
theorem dL_goes_142 : decode cL_goes 142 = .ok (.aload_n 0, 1) := by decide +kernel
theorem dL_goes_143 : decode cL_goes 143 = .ok (.bipush 10, 2) := by decide +kernel
theorem dL_goes_145 : decode cL_goes 145 = .ok (.invokevirtual 74, 3) := by decide +kernel
theorem dL_goes_148 : decode cL_goes 148 = .ok (.iload 6, 2) := by decide +kernel
theorem dL_goes_150 : decode cL_goes 150 = .ok (.isub, 1) := by decide +kernel
theorem dL_goes_151 : decode cL_goes 151 = .ok (.iload 5, 2) := by decide +kernel
theorem dL_goes_153 : decode cL_goes 153 = .ok (.ifCond .eq 7, 3) := by decide +kernel
theorem dL_goes_156 : decode cL_goes 156 = .ok (.iconst 0, 1) := by decide +kernel
theorem dL_goes_157 : decode cL_goes 157 = .ok (.goto 4, 3) := by decide +kernel
theorem dL_goes_160 : decode cL_goes 160 = .ok (.iconst 1, 1) := by decide +kernel
theorem dL_goes_161 : decode cL_goes 161 = .ok (.if_icmp .gt 39, 3) := by decide +kernel
theorem dL_goes_164 : decode cL_goes 164 = .ok (.iload 7, 2) := by decide +kernel
theorem dL_goes_166 : decode cL_goes 166 = .ok (.iconst 1, 1) := by decide +kernel
theorem dL_goes_167 : decode cL_goes 167 = .ok (.if_icmp .eq 14, 3) := by decide +kernel
theorem dL_goes_170 : decode cL_goes 170 = .ok (.aload_n 0, 1) := by decide +kernel
theorem dL_goes_171 : decode cL_goes 171 = .ok (.iconst 5, 1) := by decide +kernel
theorem dL_goes_172 : decode cL_goes 172 = .ok (.invokevirtual 126, 3) := by decide +kernel
theorem dL_goes_175 : decode cL_goes 175 = .ok (.lload 9, 2) := by decide +kernel
theorem dL_goes_177 : decode cL_goes 177 = .ok (.lcmp, 1) := by decide +kernel
theorem dL_goes_178 : decode cL_goes 178 = .ok (.ifCond .ne 22, 3) := by decide +kernel
theorem dL_goes_181 : decode cL_goes 181 = .ok (.aload_n 0, 1) := by decide +kernel
theorem dL_goes_182 : decode cL_goes 182 = .ok (.iconst 0, 1) := by decide +kernel
theorem dL_goes_183 : decode cL_goes 183 = .ok (.invokevirtual 126, 3) := by decide +kernel
theorem dL_goes_186 : decode cL_goes 186 = .ok (.lload 11, 2) := by decide +kernel
theorem dL_goes_188 : decode cL_goes 188 = .ok (.lsub, 1) := by decide +kernel
theorem dL_goes_189 : decode cL_goes 189 = .ok (.iload 13, 2) := by decide +kernel
theorem dL_goes_191 : decode cL_goes 191 = .ok (.i2l, 1) := by decide +kernel
theorem dL_goes_192 : decode cL_goes 192 = .ok (.lcmp, 1) := by decide +kernel
theorem dL_goes_193 : decode cL_goes 193 = .ok (.ifCond .lt 7, 3) := by decide +kernel
theorem dL_goes_196 : decode cL_goes 196 = .ok (.iconst 1, 1) := by decide +kernel
theorem dL_goes_197 : decode cL_goes 197 = .ok (.goto 4, 3) := by decide +kernel
theorem dL_goes_200 : decode cL_goes 200 = .ok (.iconst 0, 1) := by decide +kernel
theorem dL_goes_201 : decode cL_goes 201 = .ok (.istore_n 3, 1) := by decide +kernel
theorem dL_goes_202 : decode cL_goes 202 = .ok (.iload_n 3, 1) := by decide +kernel
theorem dL_goes_203 : decode cL_goes 203 = .ok (.ifCond .eq 60, 3) := by decide +kernel
theorem dL_goes_206 : decode cL_goes 206 = .ok (.aload_n 0, 1) := by decide +kernel
theorem dL_goes_207 : decode cL_goes 207 = .ok (.bipush 7, 2) := by decide +kernel
theorem dL_goes_209 : decode cL_goes 209 = .ok (.invokevirtual 74, 3) := by decide +kernel
theorem dL_goes_212 : decode cL_goes 212 = .ok (.iconst 2, 1) := by decide +kernel
theorem dL_goes_213 : decode cL_goes 213 = .ok (.if_icmp .eq 25, 3) := by decide +kernel
theorem dL_goes_216 : decode cL_goes 216 = .ok (.aload_n 0, 1) := by decide +kernel
theorem dL_goes_217 : decode cL_goes 217 = .ok (.iconst 3, 1) := by decide +kernel
theorem dL_goes_218 : decode cL_goes 218 = .ok (.invokevirtual 74, 3) := by decide +kernel
theorem dL_goes_221 : decode cL_goes 221 = .ok (.i2l, 1) := by decide +kernel
theorem dL_goes_222 : decode cL_goes 222 = .ok (.iload 8, 2) := by decide +kernel
theorem dL_goes_224 : decode cL_goes 224 = .ok (.i2l, 1) := by decide +kernel
theorem dL_goes_225 : decode cL_goes 225 = .ok (.aload_n 0, 1) := by decide +kernel
theorem dL_goes_226 : decode cL_goes 226 = .ok (.iconst 5, 1) := by decide +kernel
theorem dL_goes_227 : decode cL_goes 227 = .ok (.invokevirtual 126, 3) := by decide +kernel
theorem dL_goes_230 : decode cL_goes 230 = .ok (.ladd, 1) := by decide +kernel
theorem dL_goes_231 : decode cL_goes 231 = .ok (.lload 9, 2) := by decide +kernel
theorem dL_goes_233 : decode cL_goes 233 = .ok (.lsub, 1) := by decide +kernel
theorem dL_goes_234 : decode cL_goes 234 = .ok (.lcmp, 1) := by decide +kernel
theorem dL_goes_235 : decode cL_goes 235 = .ok (.ifCond .ne 28, 3) := by decide +kernel
theorem dL_goes_238 : decode cL_goes 238 = .ok (.aload_n 0, 1) := by decide +kernel
theorem dL_goes_239 : decode cL_goes 239 = .ok (.bipush 9, 2) := by decide +kernel
theorem dL_goes_241 : decode cL_goes 241 = .ok (.invokevirtual 126, 3) := by decide +kernel
theorem dL_goes_244 : decode cL_goes 244 = .ok (.aload_n 0, 1) := by decide +kernel
theorem dL_goes_245 : decode cL_goes 245 = .ok (.bipush 10, 2) := by decide +kernel
theorem dL_goes_247 : decode cL_goes 247 = .ok (.invokevirtual 126, 3) := by decide +kernel
theorem dL_goes_250 : decode cL_goes 250 = .ok (.ladd, 1) := by decide +kernel
theorem dL_goes_251 : decode cL_goes 251 = .ok (.aload_n 1, 1) := by decide +kernel
theorem dL_goes_252 : decode cL_goes 252 = .ok (.iconst 4, 1) := by decide +kernel
theorem dL_goes_253 : decode cL_goes 253 = .ok (.iaload, 1) := by decide +kernel
theorem dL_goes_254 : decode cL_goes 254 = .ok (.i2l, 1) := by decide +kernel
theorem dL_goes_255 : decode cL_goes 255 = .ok (.lcmp, 1) := by decide +kernel
theorem dL_goes_256 : decode cL_goes 256 = .ok (.ifCond .ne 7, 3) := by decide +kernel
theorem dL_goes_259 : decode cL_goes 259 = .ok (.iconst 1, 1) := by decide +kernel
theorem dL_goes_260 : decode cL_goes 260 = .ok (.goto 4, 3) := by decide +kernel
theorem dL_goes_263 : decode cL_goes 263 = .ok (.iconst 0, 1) := by decide +kernel
theorem dL_goes_264 : decode cL_goes 264 = .ok (.istore_n 3, 1) := by decide +kernel
theorem dL_goes_265 : decode cL_goes 265 = .ok (.iinc 4 1, 3) := by decide +kernel
theorem dL_goes_268 : decode cL_goes 268 = .ok (.goto (-263), 3) := by decide +kernel
theorem dL_goes_271 : decode cL_goes 271 = .ok (.iload_n 3, 1) := by decide +kernel
theorem dL_goes_272 : decode cL_goes 272 = .ok (.ireturn, 1) := by decide +kernel
set_option maxRecDepth 20000 in
theorem ggL_isPlant_X7_plantIs : GoodIn wsL_isPlant wsX7_plantIs := goodIn_ca (goodIn_r _ [7, 8, 9, 10, 11, 12, 13, 14, 15, 16, 17, 18, 19, 20, 21, 22, 23, 24, 25, 26, 27, 28, 29, 30, 31, 32, 213, 214, 215, 216, 217, 218, 219, 220, 221, 222, 223, 224, 225, 226, 227, 228, 229, 230, 231, 232, 233, 234, 235, 236, 237, 238] (by decide +kernel) (by decide +kernel)) (goodIn_sub (fun _ h => List.mem_cons_of_mem _ (List.mem_append_left _ (List.mem_append_right _ h))) (by decide +kernel))
set_option maxRecDepth 20000 in
theorem gL_isPlant_X7_plantIs : GoodIn wsL_isPlant (wsV RL 74 RX7 yX7_plantIs wsX7_plantIs) := goodIn_app (goodIn_of _ (by decide +kernel)) ggL_isPlant_X7_plantIs
set_option maxRecDepth 20000 in
theorem ggL_isPlant_X7_sum : GoodIn wsL_isPlant wsX7_sum := goodIn_ca (goodIn_r _ [36, 37, 38, 39, 6, 40, 8, 9, 213, 214, 215, 216, 217, 218, 219, 220, 221, 222, 223, 224, 225, 226] (by decide +kernel) (by decide +kernel)) (goodIn_sub (fun _ h => List.mem_cons_of_mem _ (List.mem_append_left _ (List.mem_append_right _ h))) (by decide +kernel))
set_option maxRecDepth 20000 in
theorem gL_isPlant_X7_sum : GoodIn wsL_isPlant (wsV RL 126 RX7 yX7_sum wsX7_sum) := goodIn_app (goodIn_of _ (by decide +kernel)) ggL_isPlant_X7_sum
set_option maxRecDepth 20000 in
theorem ggL_isPlant_X7_strain : GoodIn wsL_isPlant wsX7_strain := goodIn_ca (goodIn_r _ [44, 45, 46, 47, 6, 48, 49, 50, 213, 214, 215, 216, 217, 218, 219, 220, 221, 222, 223, 224, 225, 226] (by decide +kernel) (by decide +kernel)) (goodIn_sub (fun _ h => List.mem_cons_of_mem _ (List.mem_append_right _ h)) (by decide +kernel))
set_option maxRecDepth 20000 in
theorem gL_isPlant_X7_strain : GoodIn wsL_isPlant (wsV RL 137 RX7 yX7_strain wsX7_strain) := goodIn_app (goodIn_of _ (by decide +kernel)) ggL_isPlant_X7_strain
set_option maxRecDepth 20000 in
theorem ggL_isPlant_X7_flux : GoodIn wsL_isPlant wsX7_flux := goodIn_ca (goodIn_r _ [54, 10, 55, 56, 46, 47, 6, 48, 49, 50, 57, 58, 59, 26, 60, 61, 62, 63, 64, 65, 66, 67, 68, 69, 70, 71, 72, 73, 74, 75, 76, 77, 78, 79, 80, 81, 82, 83, 84, 85, 86, 87, 88, 89, 90, 91, 92, 93, 94, 95, 96, 97, 98, 99, 100, 101, 102, 103, 104, 105, 106, 107, 108, 109, 110, 111, 112, 113, 114, 115, 116, 117, 118, 119, 120, 121, 122, 123, 124, 125, 126, 127, 128, 129, 130, 131, 132, 133, 134, 135, 136, 137, 138, 139, 140, 141, 28, 29, 30, 31, 32, 142, 143, 144, 145, 146, 147, 148, 149, 150, 151, 152, 153, 154, 155, 156, 24, 25, 27, 157, 158, 159, 160, 161, 162, 163, 164, 165, 166, 167, 168, 169, 170, 171, 172, 173, 213, 214, 215, 216, 217, 218, 219, 220, 221, 222, 223, 224, 225, 226, 239, 240, 227, 228, 229, 230, 231, 241, 242, 243, 244, 245, 246, 247, 248, 249, 250, 251, 252, 253, 254, 255, 256, 257] (by decide +kernel) (by decide +kernel)) (goodIn_sub (fun _ h => List.mem_cons_of_mem _ (List.mem_append_right _ h)) (by decide +kernel))
set_option maxRecDepth 20000 in
theorem gL_isPlant_X7_flux : GoodIn wsL_isPlant (wsV RL 113 RX7 yX7_flux wsX7_flux) := goodIn_app (goodIn_of _ (by decide +kernel)) ggL_isPlant_X7_flux
set_option maxRecDepth 20000 in
theorem ggL_isPlant_X7_fluxAnew : GoodIn wsL_isPlant wsX7_fluxAnew := goodIn_ca (goodIn_r _ [177, 10, 178, 179, 180, 46, 47, 6, 48, 49, 50, 181, 72, 73, 74, 75, 76, 182, 78, 79, 80, 81, 82, 83, 84, 85, 86, 87, 88, 89, 90, 91, 92, 93, 183, 109, 110, 26, 111, 112, 113, 114, 115, 116, 117, 118, 119, 120, 121, 122, 71, 77, 123, 124, 125, 126, 127, 128, 129, 130, 131, 132, 133, 134, 135, 136, 137, 138, 139, 140, 141, 28, 29, 30, 31, 32, 142, 143, 144, 145, 146, 147, 148, 149, 150, 151, 152, 153, 154, 155, 156, 24, 25, 27, 157, 158, 159, 99, 160, 161, 162, 163, 164, 165, 184, 185, 186, 187, 188, 97, 98, 100, 101, 102, 103, 104, 105, 106, 107, 213, 214, 215, 216, 217, 218, 219, 220, 221, 222, 223, 224, 225, 226, 227, 228, 229, 230, 231, 241, 242, 243, 244, 245, 246, 247, 248, 249, 250, 251, 252, 253, 254, 255, 256, 257] (by decide +kernel) (by decide +kernel)) (goodIn_sub (fun _ h => List.mem_cons_of_mem _ (List.mem_append_right _ h)) (by decide +kernel))
set_option maxRecDepth 20000 in
theorem gL_isPlant_X7_fluxAnew : GoodIn wsL_isPlant (wsV RL 140 RX7 yX7_fluxAnew wsX7_fluxAnew) := goodIn_app (goodIn_of _ (by decide +kernel)) ggL_isPlant_X7_fluxAnew
set_option maxRecDepth 20000 in
theorem ggL_isPlant_X7_kept : GoodIn wsL_isPlant wsX7_kept := goodIn_r _ [192, 37, 213, 214, 215, 216, 217, 218, 219, 220, 221, 222, 223, 224, 225, 226] (by decide +kernel) (by decide +kernel)
set_option maxRecDepth 20000 in
theorem gL_isPlant_X7_kept : GoodIn wsL_isPlant (wsV RL 143 RX7 yX7_kept wsX7_kept) := goodIn_app (goodIn_of _ (by decide +kernel)) ggL_isPlant_X7_kept
set_option maxRecDepth 20000 in
theorem ggL_isPlant_X7_power : GoodIn wsL_isPlant wsX7_power := goodIn_ca (goodIn_ca (goodIn_r _ [196, 10, 197, 198, 199, 6, 200, 49, 50, 178, 179, 181, 72, 73, 74, 75, 76, 182, 78, 79, 80, 81, 82, 83, 84, 85, 86, 87, 88, 89, 90, 91, 92, 93, 38, 39, 40, 8, 9, 201, 113, 114, 26, 115, 116, 117, 118, 119, 120, 121, 122, 71, 77, 123, 124, 125, 126, 127, 128, 129, 130, 131, 132, 133, 134, 135, 136, 137, 138, 139, 140, 141, 28, 29, 30, 31, 32, 142, 143, 144, 145, 146, 147, 148, 149, 150, 151, 152, 153, 154, 155, 156, 24, 25, 27, 157, 158, 159, 99, 160, 161, 162, 163, 164, 165, 213, 214, 215, 216, 217, 218, 219, 220, 221, 222, 223, 224, 225, 226, 227, 228, 229, 230, 231, 249, 250, 251, 241, 242, 243, 244, 245, 246, 247, 248, 252, 253, 254, 255, 256, 257] (by decide +kernel) (by decide +kernel)) (goodIn_sub (fun _ h => List.mem_cons_of_mem _ (List.mem_append_right _ h)) (by decide +kernel))) (goodIn_sub (fun _ h => List.mem_cons_of_mem _ (List.mem_append_left _ (List.mem_append_right _ h))) (by decide +kernel))
set_option maxRecDepth 20000 in
theorem gL_isPlant_X7_power : GoodIn wsL_isPlant (wsV RL 64 RX7 yX7_power wsX7_power) := goodIn_app (goodIn_of _ (by decide +kernel)) ggL_isPlant_X7_power
set_option maxRecDepth 20000 in
theorem ggL_isPlant_X7_mirrorIs : GoodIn wsL_isPlant wsX7_mirrorIs := goodIn_ca (goodIn_ca (goodIn_r _ [205, 8, 9, 206, 207, 180, 208, 209, 10, 197, 198, 199, 6, 200, 49, 50, 178, 179, 181, 72, 73, 74, 75, 76, 182, 78, 79, 80, 81, 82, 83, 84, 85, 86, 87, 88, 89, 90, 91, 92, 93, 210, 118, 119, 26, 120, 121, 122, 71, 77, 123, 124, 125, 126, 127, 128, 129, 130, 131, 132, 133, 134, 135, 211, 137, 138, 139, 140, 141, 28, 29, 30, 31, 32, 142, 143, 144, 145, 146, 212, 158, 159, 99, 160, 161, 162, 163, 164, 154, 165, 241, 242, 243, 244, 245, 246, 247, 248, 213, 214, 215, 216, 217, 218, 219, 220, 221, 222, 223, 224, 225, 226, 227, 228, 229, 230, 231, 249, 250, 251, 252, 253, 254, 255, 256, 257] (by decide +kernel) (by decide +kernel)) (goodIn_sub (fun _ h => List.mem_cons_of_mem _ (List.mem_append_left _ (List.mem_append_right _ h))) (by decide +kernel))) (goodIn_sub (fun _ h => List.mem_cons_of_mem _ (List.mem_append_right _ h)) (by decide +kernel))
set_option maxRecDepth 20000 in
theorem gL_isPlant_X7_mirrorIs : GoodIn wsL_isPlant (wsV RL 57 RX7 yX7_mirrorIs wsX7_mirrorIs) := goodIn_app (goodIn_of _ (by decide +kernel)) ggL_isPlant_X7_mirrorIs
theorem dL_isPlant_0 : decode cL_isPlant 0 = .ok (.aload_n 0, 1) := by decide +kernel
theorem dL_isPlant_1 : decode cL_isPlant 1 = .ok (.iconst 5, 1) := by decide +kernel
theorem dL_isPlant_2 : decode cL_isPlant 2 = .ok (.invokevirtual 74, 3) := by decide +kernel
theorem dL_isPlant_5 : decode cL_isPlant 5 = .ok (.istore_n 3, 1) := by decide +kernel
theorem dL_isPlant_6 : decode cL_isPlant 6 = .ok (.aload_n 0, 1) := by decide +kernel
theorem dL_isPlant_7 : decode cL_isPlant 7 = .ok (.iconst 4, 1) := by decide +kernel
theorem dL_isPlant_8 : decode cL_isPlant 8 = .ok (.invokevirtual 74, 3) := by decide +kernel
theorem dL_isPlant_11 : decode cL_isPlant 11 = .ok (.istore 4, 2) := by decide +kernel
theorem dL_isPlant_13 : decode cL_isPlant 13 = .ok (.iload_n 3, 1) := by decide +kernel
theorem dL_isPlant_14 : decode cL_isPlant 14 = .ok (.ifCond .ne 16, 3) := by decide +kernel
theorem dL_isPlant_17 : decode cL_isPlant 17 = .ok (.iload 4, 2) := by decide +kernel
theorem dL_isPlant_19 : decode cL_isPlant 19 = .ok (.ifCond .ne 7, 3) := by decide +kernel
theorem dL_isPlant_22 : decode cL_isPlant 22 = .ok (.iconst 1, 1) := by decide +kernel
theorem dL_isPlant_23 : decode cL_isPlant 23 = .ok (.goto 51, 3) := by decide +kernel
theorem dL_isPlant_26 : decode cL_isPlant 26 = .ok (.iconst 0, 1) := by decide +kernel
theorem dL_isPlant_27 : decode cL_isPlant 27 = .ok (.goto 47, 3) := by decide +kernel
theorem dL_isPlant_30 : decode cL_isPlant 30 = .ok (.iload_n 3, 1) := by decide +kernel
theorem dL_isPlant_31 : decode cL_isPlant 31 = .ok (.iconst 1, 1) := by decide +kernel
theorem dL_isPlant_32 : decode cL_isPlant 32 = .ok (.if_icmp .ne 25, 3) := by decide +kernel
theorem dL_isPlant_35 : decode cL_isPlant 35 = .ok (.iload 4, 2) := by decide +kernel
theorem dL_isPlant_37 : decode cL_isPlant 37 = .ok (.bipush 19, 2) := by decide +kernel
theorem dL_isPlant_39 : decode cL_isPlant 39 = .ok (.if_icmp .le 14, 3) := by decide +kernel
theorem dL_isPlant_42 : decode cL_isPlant 42 = .ok (.iload 4, 2) := by decide +kernel
theorem dL_isPlant_44 : decode cL_isPlant 44 = .ok (.bipush 41, 2) := by decide +kernel
theorem dL_isPlant_46 : decode cL_isPlant 46 = .ok (.if_icmp .ge 7, 3) := by decide +kernel
theorem dL_isPlant_49 : decode cL_isPlant 49 = .ok (.iconst 1, 1) := by decide +kernel
theorem dL_isPlant_50 : decode cL_isPlant 50 = .ok (.goto 24, 3) := by decide +kernel
theorem dL_isPlant_53 : decode cL_isPlant 53 = .ok (.iconst 0, 1) := by decide +kernel
theorem dL_isPlant_54 : decode cL_isPlant 54 = .ok (.goto 20, 3) := by decide +kernel
theorem dL_isPlant_57 : decode cL_isPlant 57 = .ok (.iload 4, 2) := by decide +kernel
theorem dL_isPlant_59 : decode cL_isPlant 59 = .ok (.ifCond .le 14, 3) := by decide +kernel
theorem dL_isPlant_62 : decode cL_isPlant 62 = .ok (.iload 4, 2) := by decide +kernel
theorem dL_isPlant_64 : decode cL_isPlant 64 = .ok (.bipush 20, 2) := by decide +kernel
theorem dL_isPlant_66 : decode cL_isPlant 66 = .ok (.if_icmp .ge 7, 3) := by decide +kernel
theorem dL_isPlant_69 : decode cL_isPlant 69 = .ok (.iconst 1, 1) := by decide +kernel
theorem dL_isPlant_70 : decode cL_isPlant 70 = .ok (.goto 4, 3) := by decide +kernel
theorem dL_isPlant_73 : decode cL_isPlant 73 = .ok (.iconst 0, 1) := by decide +kernel
theorem dL_isPlant_74 : decode cL_isPlant 74 = .ok (.istore 5, 2) := by decide +kernel
theorem dL_isPlant_76 : decode cL_isPlant 76 = .ok (.iload 5, 2) := by decide +kernel
theorem dL_isPlant_78 : decode cL_isPlant 78 = .ok (.ifCond .eq 161, 3) := by decide +kernel
theorem dL_isPlant_81 : decode cL_isPlant 81 = .ok (.aload_n 0, 1) := by decide +kernel
theorem dL_isPlant_82 : decode cL_isPlant 82 = .ok (.iconst 0, 1) := by decide +kernel
theorem dL_isPlant_83 : decode cL_isPlant 83 = .ok (.invokevirtual 74, 3) := by decide +kernel
theorem dL_isPlant_86 : decode cL_isPlant 86 = .ok (.aload_n 1, 1) := by decide +kernel
theorem dL_isPlant_87 : decode cL_isPlant 87 = .ok (.iconst 1, 1) := by decide +kernel
theorem dL_isPlant_88 : decode cL_isPlant 88 = .ok (.iaload, 1) := by decide +kernel
theorem dL_isPlant_89 : decode cL_isPlant 89 = .ok (.if_icmp .ne 150, 3) := by decide +kernel
theorem dL_isPlant_92 : decode cL_isPlant 92 = .ok (.aload_n 0, 1) := by decide +kernel
theorem dL_isPlant_93 : decode cL_isPlant 93 = .ok (.iconst 2, 1) := by decide +kernel
theorem dL_isPlant_94 : decode cL_isPlant 94 = .ok (.invokevirtual 74, 3) := by decide +kernel
theorem dL_isPlant_97 : decode cL_isPlant 97 = .ok (.aload_n 0, 1) := by decide +kernel
theorem dL_isPlant_98 : decode cL_isPlant 98 = .ok (.iconst 3, 1) := by decide +kernel
theorem dL_isPlant_99 : decode cL_isPlant 99 = .ok (.invokevirtual 74, 3) := by decide +kernel
theorem dL_isPlant_102 : decode cL_isPlant 102 = .ok (.iadd, 1) := by decide +kernel
theorem dL_isPlant_103 : decode cL_isPlant 103 = .ok (.bipush 100, 2) := by decide +kernel
theorem dL_isPlant_105 : decode cL_isPlant 105 = .ok (.aload_n 1, 1) := by decide +kernel
theorem dL_isPlant_106 : decode cL_isPlant 106 = .ok (.iconst 2, 1) := by decide +kernel
theorem dL_isPlant_107 : decode cL_isPlant 107 = .ok (.iaload, 1) := by decide +kernel
theorem dL_isPlant_108 : decode cL_isPlant 108 = .ok (.iadd, 1) := by decide +kernel
theorem dL_isPlant_109 : decode cL_isPlant 109 = .ok (.if_icmp .ne 130, 3) := by decide +kernel
theorem dL_isPlant_112 : decode cL_isPlant 112 = .ok (.aload_n 0, 1) := by decide +kernel
theorem dL_isPlant_113 : decode cL_isPlant 113 = .ok (.iconst 2, 1) := by decide +kernel
theorem dL_isPlant_114 : decode cL_isPlant 114 = .ok (.invokevirtual 74, 3) := by decide +kernel
theorem dL_isPlant_117 : decode cL_isPlant 117 = .ok (.ifCond .lt 122, 3) := by decide +kernel
theorem dL_isPlant_120 : decode cL_isPlant 120 = .ok (.aload_n 0, 1) := by decide +kernel
theorem dL_isPlant_121 : decode cL_isPlant 121 = .ok (.iconst 3, 1) := by decide +kernel
theorem dL_isPlant_122 : decode cL_isPlant 122 = .ok (.invokevirtual 74, 3) := by decide +kernel
theorem dL_isPlant_125 : decode cL_isPlant 125 = .ok (.ifCond .lt 114, 3) := by decide +kernel
theorem dL_isPlant_128 : decode cL_isPlant 128 = .ok (.aload_n 0, 1) := by decide +kernel
theorem dL_isPlant_129 : decode cL_isPlant 129 = .ok (.iconst 0, 1) := by decide +kernel
theorem dL_isPlant_130 : decode cL_isPlant 130 = .ok (.invokevirtual 126, 3) := by decide +kernel
theorem dL_isPlant_133 : decode cL_isPlant 133 = .ok (.aload_n 0, 1) := by decide +kernel
theorem dL_isPlant_134 : decode cL_isPlant 134 = .ok (.iconst 1, 1) := by decide +kernel
theorem dL_isPlant_135 : decode cL_isPlant 135 = .ok (.invokevirtual 126, 3) := by decide +kernel
theorem dL_isPlant_138 : decode cL_isPlant 138 = .ok (.aload_n 0, 1) := by decide +kernel
theorem dL_isPlant_139 : decode cL_isPlant 139 = .ok (.iconst 2, 1) := by decide +kernel
theorem dL_isPlant_140 : decode cL_isPlant 140 = .ok (.invokevirtual 126, 3) := by decide +kernel
theorem dL_isPlant_143 : decode cL_isPlant 143 = .ok (.ladd, 1) := by decide +kernel
theorem dL_isPlant_144 : decode cL_isPlant 144 = .ok (.aload_n 0, 1) := by decide +kernel
theorem dL_isPlant_145 : decode cL_isPlant 145 = .ok (.iconst 3, 1) := by decide +kernel
theorem dL_isPlant_146 : decode cL_isPlant 146 = .ok (.invokevirtual 126, 3) := by decide +kernel
theorem dL_isPlant_149 : decode cL_isPlant 149 = .ok (.ladd, 1) := by decide +kernel
theorem dL_isPlant_150 : decode cL_isPlant 150 = .ok (.lcmp, 1) := by decide +kernel
theorem dL_isPlant_151 : decode cL_isPlant 151 = .ok (.ifCond .ne 88, 3) := by decide +kernel
theorem dL_isPlant_154 : decode cL_isPlant 154 = .ok (.aload_n 0, 1) := by decide +kernel
theorem dL_isPlant_155 : decode cL_isPlant 155 = .ok (.iconst 3, 1) := by decide +kernel
theorem dL_isPlant_156 : decode cL_isPlant 156 = .ok (.invokevirtual 126, 3) := by decide +kernel
theorem dL_isPlant_159 : decode cL_isPlant 159 = .ok (.aload_n 0, 1) := by decide +kernel
theorem dL_isPlant_160 : decode cL_isPlant 160 = .ok (.iconst 4, 1) := by decide +kernel
theorem dL_isPlant_161 : decode cL_isPlant 161 = .ok (.invokevirtual 126, 3) := by decide +kernel
theorem dL_isPlant_164 : decode cL_isPlant 164 = .ok (.ldc2_w 133, 3) := by decide +kernel
theorem dL_isPlant_167 : decode cL_isPlant 167 = .ok (.aload_n 0, 1) := by decide +kernel
theorem dL_isPlant_168 : decode cL_isPlant 168 = .ok (.iconst 5, 1) := by decide +kernel
theorem dL_isPlant_169 : decode cL_isPlant 169 = .ok (.invokevirtual 126, 3) := by decide +kernel
theorem dL_isPlant_172 : decode cL_isPlant 172 = .ok (.lmul, 1) := by decide +kernel
theorem dL_isPlant_173 : decode cL_isPlant 173 = .ok (.ladd, 1) := by decide +kernel
theorem dL_isPlant_174 : decode cL_isPlant 174 = .ok (.lcmp, 1) := by decide +kernel
theorem dL_isPlant_175 : decode cL_isPlant 175 = .ok (.ifCond .ne 64, 3) := by decide +kernel
theorem dL_isPlant_178 : decode cL_isPlant 178 = .ok (.aload_n 0, 1) := by decide +kernel
theorem dL_isPlant_179 : decode cL_isPlant 179 = .ok (.bipush 6, 2) := by decide +kernel
theorem dL_isPlant_181 : decode cL_isPlant 181 = .ok (.invokevirtual 126, 3) := by decide +kernel
theorem dL_isPlant_184 : decode cL_isPlant 184 = .ok (.aload_n 0, 1) := by decide +kernel
theorem dL_isPlant_185 : decode cL_isPlant 185 = .ok (.bipush 8, 2) := by decide +kernel
theorem dL_isPlant_187 : decode cL_isPlant 187 = .ok (.invokevirtual 126, 3) := by decide +kernel
theorem dL_isPlant_190 : decode cL_isPlant 190 = .ok (.ladd, 1) := by decide +kernel
theorem dL_isPlant_191 : decode cL_isPlant 191 = .ok (.aload_n 0, 1) := by decide +kernel
theorem dL_isPlant_192 : decode cL_isPlant 192 = .ok (.bipush 7, 2) := by decide +kernel
theorem dL_isPlant_194 : decode cL_isPlant 194 = .ok (.invokevirtual 126, 3) := by decide +kernel
theorem dL_isPlant_197 : decode cL_isPlant 197 = .ok (.aload_n 0, 1) := by decide +kernel
theorem dL_isPlant_198 : decode cL_isPlant 198 = .ok (.bipush 9, 2) := by decide +kernel
theorem dL_isPlant_200 : decode cL_isPlant 200 = .ok (.invokevirtual 126, 3) := by decide +kernel
theorem dL_isPlant_203 : decode cL_isPlant 203 = .ok (.ladd, 1) := by decide +kernel
theorem dL_isPlant_204 : decode cL_isPlant 204 = .ok (.aload_n 0, 1) := by decide +kernel
theorem dL_isPlant_205 : decode cL_isPlant 205 = .ok (.bipush 11, 2) := by decide +kernel
theorem dL_isPlant_207 : decode cL_isPlant 207 = .ok (.invokevirtual 126, 3) := by decide +kernel
theorem dL_isPlant_210 : decode cL_isPlant 210 = .ok (.ladd, 1) := by decide +kernel
theorem dL_isPlant_211 : decode cL_isPlant 211 = .ok (.lcmp, 1) := by decide +kernel
theorem dL_isPlant_212 : decode cL_isPlant 212 = .ok (.ifCond .ne 27, 3) := by decide +kernel
theorem dL_isPlant_215 : decode cL_isPlant 215 = .ok (.aload_n 0, 1) := by decide +kernel
theorem dL_isPlant_216 : decode cL_isPlant 216 = .ok (.bipush 12, 2) := by decide +kernel
theorem dL_isPlant_218 : decode cL_isPlant 218 = .ok (.invokevirtual 126, 3) := by decide +kernel
theorem dL_isPlant_221 : decode cL_isPlant 221 = .ok (.ldc2_w 135, 3) := by decide +kernel
theorem dL_isPlant_224 : decode cL_isPlant 224 = .ok (.aload_n 0, 1) := by decide +kernel
theorem dL_isPlant_225 : decode cL_isPlant 225 = .ok (.bipush 11, 2) := by decide +kernel
theorem dL_isPlant_227 : decode cL_isPlant 227 = .ok (.invokevirtual 126, 3) := by decide +kernel
theorem dL_isPlant_230 : decode cL_isPlant 230 = .ok (.lmul, 1) := by decide +kernel
theorem dL_isPlant_231 : decode cL_isPlant 231 = .ok (.lcmp, 1) := by decide +kernel
theorem dL_isPlant_232 : decode cL_isPlant 232 = .ok (.ifCond .gt 7, 3) := by decide +kernel
theorem dL_isPlant_235 : decode cL_isPlant 235 = .ok (.iconst 1, 1) := by decide +kernel
theorem dL_isPlant_236 : decode cL_isPlant 236 = .ok (.goto 4, 3) := by decide +kernel
theorem dL_isPlant_239 : decode cL_isPlant 239 = .ok (.iconst 0, 1) := by decide +kernel
theorem dL_isPlant_240 : decode cL_isPlant 240 = .ok (.istore 6, 2) := by decide +kernel
theorem dL_isPlant_242 : decode cL_isPlant 242 = .ok (.iconst 0, 1) := by decide +kernel
theorem dL_isPlant_243 : decode cL_isPlant 243 = .ok (.istore 7, 2) := by decide +kernel
theorem dL_isPlant_245 : decode cL_isPlant 245 = .ok (.iconst 0, 1) := by decide +kernel
theorem dL_isPlant_246 : decode cL_isPlant 246 = .ok (.istore 8, 2) := by decide +kernel
theorem dL_isPlant_248 : decode cL_isPlant 248 = .ok (.iload 8, 2) := by decide +kernel
theorem dL_isPlant_250 : decode cL_isPlant 250 = .ok (.bipush 6, 2) := by decide +kernel
theorem dL_isPlant_252 : decode cL_isPlant 252 = .ok (.if_icmp .ge 47, 3) := by decide +kernel
theorem dL_isPlant_255 : decode cL_isPlant 255 = .ok (.iload 6, 2) := by decide +kernel
theorem dL_isPlant_257 : decode cL_isPlant 257 = .ok (.ifCond .eq 42, 3) := by decide +kernel
theorem dL_isPlant_260 : decode cL_isPlant 260 = .ok (.iload 7, 2) := by decide +kernel
theorem dL_isPlant_262 : decode cL_isPlant 262 = .ok (.aload_n 0, 1) := by decide +kernel
theorem dL_isPlant_263 : decode cL_isPlant 263 = .ok (.iload 8, 2) := by decide +kernel
theorem dL_isPlant_265 : decode cL_isPlant 265 = .ok (.invokevirtual 137, 3) := by decide +kernel
theorem dL_isPlant_268 : decode cL_isPlant 268 = .ok (.iadd, 1) := by decide +kernel
theorem dL_isPlant_269 : decode cL_isPlant 269 = .ok (.istore 7, 2) := by decide +kernel
theorem dL_isPlant_271 : decode cL_isPlant 271 = .ok (.aload_n 0, 1) := by decide +kernel
theorem dL_isPlant_272 : decode cL_isPlant 272 = .ok (.iload 8, 2) := by decide +kernel
theorem dL_isPlant_274 : decode cL_isPlant 274 = .ok (.invokevirtual 113, 3) := by decide +kernel
theorem dL_isPlant_277 : decode cL_isPlant 277 = .ok (.aload_n 0, 1) := by decide +kernel
theorem dL_isPlant_278 : decode cL_isPlant 278 = .ok (.iload 8, 2) := by decide +kernel
theorem dL_isPlant_280 : decode cL_isPlant 280 = .ok (.invokevirtual 140, 3) := by decide +kernel
theorem dL_isPlant_283 : decode cL_isPlant 283 = .ok (.if_icmp .ne 7, 3) := by decide +kernel
theorem dL_isPlant_286 : decode cL_isPlant 286 = .ok (.iconst 1, 1) := by decide +kernel
theorem dL_isPlant_287 : decode cL_isPlant 287 = .ok (.goto 4, 3) := by decide +kernel
theorem dL_isPlant_290 : decode cL_isPlant 290 = .ok (.iconst 0, 1) := by decide +kernel
theorem dL_isPlant_291 : decode cL_isPlant 291 = .ok (.istore 6, 2) := by decide +kernel
theorem dL_isPlant_293 : decode cL_isPlant 293 = .ok (.iinc 8 1, 3) := by decide +kernel
theorem dL_isPlant_296 : decode cL_isPlant 296 = .ok (.goto (-48), 3) := by decide +kernel
theorem dL_isPlant_299 : decode cL_isPlant 299 = .ok (.iload 6, 2) := by decide +kernel
theorem dL_isPlant_301 : decode cL_isPlant 301 = .ok (.ifCond .eq 87, 3) := by decide +kernel
theorem dL_isPlant_304 : decode cL_isPlant 304 = .ok (.iload 7, 2) := by decide +kernel
theorem dL_isPlant_306 : decode cL_isPlant 306 = .ok (.aload_n 0, 1) := by decide +kernel
theorem dL_isPlant_307 : decode cL_isPlant 307 = .ok (.bipush 10, 2) := by decide +kernel
theorem dL_isPlant_309 : decode cL_isPlant 309 = .ok (.invokevirtual 74, 3) := by decide +kernel
theorem dL_isPlant_312 : decode cL_isPlant 312 = .ok (.if_icmp .lt 76, 3) := by decide +kernel
theorem dL_isPlant_315 : decode cL_isPlant 315 = .ok (.iload 7, 2) := by decide +kernel
theorem dL_isPlant_317 : decode cL_isPlant 317 = .ok (.bipush 6, 2) := by decide +kernel
theorem dL_isPlant_319 : decode cL_isPlant 319 = .ok (.aload_n 0, 1) := by decide +kernel
theorem dL_isPlant_320 : decode cL_isPlant 320 = .ok (.bipush 10, 2) := by decide +kernel
theorem dL_isPlant_322 : decode cL_isPlant 322 = .ok (.invokevirtual 74, 3) := by decide +kernel
theorem dL_isPlant_325 : decode cL_isPlant 325 = .ok (.imul, 1) := by decide +kernel
theorem dL_isPlant_326 : decode cL_isPlant 326 = .ok (.if_icmp .gt 62, 3) := by decide +kernel
theorem dL_isPlant_329 : decode cL_isPlant 329 = .ok (.aload_n 0, 1) := by decide +kernel
theorem dL_isPlant_330 : decode cL_isPlant 330 = .ok (.invokevirtual 143, 3) := by decide +kernel
theorem dL_isPlant_333 : decode cL_isPlant 333 = .ok (.fconst 0, 1) := by decide +kernel
theorem dL_isPlant_334 : decode cL_isPlant 334 = .ok (.fcmp .l, 1) := by decide +kernel
theorem dL_isPlant_335 : decode cL_isPlant 335 = .ok (.ifCond .lt 53, 3) := by decide +kernel
theorem dL_isPlant_338 : decode cL_isPlant 338 = .ok (.aload_n 0, 1) := by decide +kernel
theorem dL_isPlant_339 : decode cL_isPlant 339 = .ok (.invokevirtual 143, 3) := by decide +kernel
theorem dL_isPlant_342 : decode cL_isPlant 342 = .ok (.fconst 1, 1) := by decide +kernel
theorem dL_isPlant_343 : decode cL_isPlant 343 = .ok (.fcmp .g, 1) := by decide +kernel
theorem dL_isPlant_344 : decode cL_isPlant 344 = .ok (.ifCond .gt 44, 3) := by decide +kernel
theorem dL_isPlant_347 : decode cL_isPlant 347 = .ok (.aload_n 0, 1) := by decide +kernel
theorem dL_isPlant_348 : decode cL_isPlant 348 = .ok (.iload_n 2, 1) := by decide +kernel
theorem dL_isPlant_349 : decode cL_isPlant 349 = .ok (.iconst 0, 1) := by decide +kernel
theorem dL_isPlant_350 : decode cL_isPlant 350 = .ok (.invokevirtual 64, 3) := by decide +kernel
theorem dL_isPlant_353 : decode cL_isPlant 353 = .ok (.ifCond .lt 35, 3) := by decide +kernel
theorem dL_isPlant_356 : decode cL_isPlant 356 = .ok (.aload_n 0, 1) := by decide +kernel
theorem dL_isPlant_357 : decode cL_isPlant 357 = .ok (.iload_n 2, 1) := by decide +kernel
theorem dL_isPlant_358 : decode cL_isPlant 358 = .ok (.iconst 5, 1) := by decide +kernel
theorem dL_isPlant_359 : decode cL_isPlant 359 = .ok (.invokevirtual 57, 3) := by decide +kernel
theorem dL_isPlant_362 : decode cL_isPlant 362 = .ok (.ifCond .ne 13, 3) := by decide +kernel
theorem dL_isPlant_365 : decode cL_isPlant 365 = .ok (.aload_n 0, 1) := by decide +kernel
theorem dL_isPlant_366 : decode cL_isPlant 366 = .ok (.iload_n 2, 1) := by decide +kernel
theorem dL_isPlant_367 : decode cL_isPlant 367 = .ok (.bipush 6, 2) := by decide +kernel
theorem dL_isPlant_369 : decode cL_isPlant 369 = .ok (.invokevirtual 57, 3) := by decide +kernel
theorem dL_isPlant_372 : decode cL_isPlant 372 = .ok (.ifCond .eq 12, 3) := by decide +kernel
theorem dL_isPlant_375 : decode cL_isPlant 375 = .ok (.aload_n 0, 1) := by decide +kernel
theorem dL_isPlant_376 : decode cL_isPlant 376 = .ok (.iload_n 2, 1) := by decide +kernel
theorem dL_isPlant_377 : decode cL_isPlant 377 = .ok (.iconst 0, 1) := by decide +kernel
theorem dL_isPlant_378 : decode cL_isPlant 378 = .ok (.invokevirtual 64, 3) := by decide +kernel
theorem dL_isPlant_381 : decode cL_isPlant 381 = .ok (.ifCond .ne 7, 3) := by decide +kernel
theorem dL_isPlant_384 : decode cL_isPlant 384 = .ok (.iconst 1, 1) := by decide +kernel
theorem dL_isPlant_385 : decode cL_isPlant 385 = .ok (.goto 4, 3) := by decide +kernel
theorem dL_isPlant_388 : decode cL_isPlant 388 = .ok (.iconst 0, 1) := by decide +kernel
theorem dL_isPlant_389 : decode cL_isPlant 389 = .ok (.ireturn, 1) := by decide +kernel
