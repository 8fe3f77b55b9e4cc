theorem wsL_law0_r1_in : ∀ w ∈ wsL_law0_r1, w ∈ lw_tbl := fun w h => (goodIn_p wsL_law0_r1 [54, 57] (by decide +kernel) (by decide +kernel) w h).1
theorem wsL_law0_r2_in : ∀ w ∈ wsL_law0_r2, w ∈ lw_tbl := fun w h => (goodIn_p wsL_law0_r2 [62] (by decide +kernel) (by decide +kernel) w h).1
theorem wsL_law0_r3_in : ∀ w ∈ wsL_law0_r3, w ∈ lw_tbl := fun w h => (goodIn_p wsL_law0_r3 [68, 71, 74, 115, 131] (by decide +kernel) (by decide +kernel) w h).1
theorem wsL_law0_r4_in : ∀ w ∈ wsL_law0_r4, w ∈ lw_tbl := fun w h => (goodIn_p wsL_law0_r4 [163, 185, 425, 333] (by decide +kernel) (by decide +kernel) w h).1
theorem wsL_law0_r5_in : ∀ w ∈ wsL_law0_r5, w ∈ lw_tbl := fun w h => (goodIn_p wsL_law0_r5 [337, 250, 342, 345, 348] (by decide +kernel) (by decide +kernel) w h).1
theorem wsL_law0_r6_in : ∀ w ∈ wsL_law0_r6, w ∈ lw_tbl := fun w h => (goodIn_p wsL_law0_r6 [352, 356, 360, 364, 368, 372] (by decide +kernel) (by decide +kernel) w h).1
theorem wsL_law0_r7_in : ∀ w ∈ wsL_law0_r7, w ∈ lw_tbl := fun w h => (goodIn_p wsL_law0_r7 [376, 381, 385] (by decide +kernel) (by decide +kernel) w h).1
theorem wsL_law0_r8_in : ∀ w ∈ wsL_law0_r8, w ∈ lw_tbl := fun w h => (goodIn_p wsL_law0_r8 [389, 395, 399, 402, 406] (by decide +kernel) (by decide +kernel) w h).1
theorem wsL_law0_r9_in : ∀ w ∈ wsL_law0_r9, w ∈ lw_tbl := fun w h => (goodIn_p wsL_law0_r9 [410, 413, 417, 421, 429] (by decide +kernel) (by decide +kernel) w h).1
theorem wsL_law0_r10_in : ∀ w ∈ wsL_law0_r10, w ∈ lw_tbl := fun w h => (goodIn_p wsL_law0_r10 [437, 463, 246, 254, 442] (by decide +kernel) (by decide +kernel) w h).1
theorem wsL_law0_r11_in : ∀ w ∈ wsL_law0_r11, w ∈ lw_tbl := fun w h => (goodIn_p wsL_law0_r11 [258, 261] (by decide +kernel) (by decide +kernel) w h).1
theorem wsL_law0_r12_in : ∀ w ∈ wsL_law0_r12, w ∈ lw_tbl := fun w h => (goodIn_p wsL_law0_r12 [466, 472, 480, 503] (by decide +kernel) (by decide +kernel) w h).1
theorem wsL_law0_r13_in : ∀ w ∈ wsL_law0_r13, w ∈ lw_tbl := fun w h => (goodIn_p wsL_law0_r13 [507, 548, 552, 556, 560] (by decide +kernel) (by decide +kernel) w h).1
theorem wsL_law0_r14_in : ∀ w ∈ wsL_law0_r14, w ∈ lw_tbl := fun w h => (goodIn_p wsL_law0_r14 [566, 563, 570, 573, 592] (by decide +kernel) (by decide +kernel) w h).1
theorem wsL_law0_r15_in : ∀ w ∈ wsL_law0_r15, w ∈ lw_tbl := fun w h => (goodIn_p wsL_law0_r15 [605, 609, 613, 619] (by decide +kernel) (by decide +kernel) w h).1
theorem wsL_law0_r16_in : ∀ w ∈ wsL_law0_r16, w ∈ lw_tbl := fun w h => (goodIn_p wsL_law0_r16 [625, 632, 638, 642, 646] (by decide +kernel) (by decide +kernel) w h).1
theorem wsL_law0_r17_in : ∀ w ∈ wsL_law0_r17, w ∈ lw_tbl := fun w h => (goodIn_p wsL_law0_r17 [651, 655, 660, 665, 672] (by decide +kernel) (by decide +kernel) w h).1
theorem wsL_law0_r18_in : ∀ w ∈ wsL_law0_r18, w ∈ lw_tbl := fun w h => (goodIn_p wsL_law0_r18 [678, 682, 686, 690] (by decide +kernel) (by decide +kernel) w h).1
theorem wsL_law0_r19_in : ∀ w ∈ wsL_law0_r19, w ∈ lw_tbl := fun w h => (goodIn_p wsL_law0_r19 [697, 703, 728, 732, 736] (by decide +kernel) (by decide +kernel) w h).1
theorem wsL_law0_r20_in : ∀ w ∈ wsL_law0_r20, w ∈ lw_tbl := fun w h => (goodIn_p wsL_law0_r20 [740, 744, 747, 752, 755, 763] (by decide +kernel) (by decide +kernel) w h).1
theorem wsL_law0_r21_in : ∀ w ∈ wsL_law0_r21, w ∈ lw_tbl := fun w h => (goodIn_p wsL_law0_r21 [767, 771, 781, 785] (by decide +kernel) (by decide +kernel) w h).1
theorem wsL_law0_r22_in : ∀ w ∈ wsL_law0_r22, w ∈ lw_tbl := fun w h => (goodIn_p wsL_law0_r22 [789, 793, 798, 802, 806] (by decide +kernel) (by decide +kernel) w h).1
theorem wsL_law0_r23_in : ∀ w ∈ wsL_law0_r23, w ∈ lw_tbl := fun w h => (goodIn_p wsL_law0_r23 [810, 814, 820, 824, 828, 833] (by decide +kernel) (by decide +kernel) w h).1
theorem wsL_law0_r24_in : ∀ w ∈ wsL_law0_r24, w ∈ lw_tbl := fun w h => (goodIn_p wsL_law0_r24 [836, 839, 843, 847, 852, 856] (by decide +kernel) (by decide +kernel) w h).1
theorem wsL_law0_r25_in : ∀ w ∈ wsL_law0_r25, w ∈ lw_tbl := fun w h => (goodIn_p wsL_law0_r25 [861, 865, 869, 873, 877] (by decide +kernel) (by decide +kernel) w h).1
theorem wsL_law0_r26_in : ∀ w ∈ wsL_law0_r26, w ∈ lw_tbl := fun w h => (goodIn_p wsL_law0_r26 [881, 887, 891, 896, 900] (by decide +kernel) (by decide +kernel) w h).1
theorem wsL_law0_r27_in : ∀ w ∈ wsL_law0_r27, w ∈ lw_tbl := fun w h => (goodIn_p wsL_law0_r27 [904, 909, 913, 916, 922, 926] (by decide +kernel) (by decide +kernel) w h).1
theorem wsL_law0_r28_in : ∀ w ∈ wsL_law0_r28, w ∈ lw_tbl := fun w h => (goodIn_p wsL_law0_r28 [930] (by decide +kernel) (by decide +kernel) w h).1
theorem wsX70_tin : ∀ w ∈ wsX70, w ∈ lw_tbl := by decide +kernel
theorem wsX20_tin : ∀ w ∈ wsX20, w ∈ lw_tbl := by decide +kernel
theorem wsX30_tin : ∀ w ∈ wsX30, w ∈ lw_tbl := by decide +kernel
theorem wsX00_tin : ∀ w ∈ wsX00, w ∈ lw_tbl := by decide +kernel
theorem wsX50_tin : ∀ w ∈ wsX50, w ∈ lw_tbl := by decide +kernel
theorem wsX60_tin : ∀ w ∈ wsX60, w ∈ lw_tbl := by decide +kernel
theorem wsJx4a65c0_tin : ∀ w ∈ wsJx4a65c0, w ∈ lw_tbl := by decide +kernel
theorem wsX40_tin : ∀ w ∈ wsX40, w ∈ lw_tbl := by decide +kernel
theorem wsX10_tin : ∀ w ∈ wsX10, w ∈ lw_tbl := by decide +kernel
theorem wsL_law_in0 : ∀ w ∈ wsL_law0, w ∈ lw_tbl := fun w h => (fun h => (List.mem_append.mp h).elim (fun h => (List.mem_append.mp h).elim (fun h => (List.mem_append.mp h).elim (fun h => (List.mem_append.mp h).elim (fun h => (List.mem_append.mp h).elim (fun h => (List.mem_append.mp h).elim (fun h => (List.mem_append.mp h).elim (fun h => (List.mem_append.mp h).elim (fun h => (List.mem_append.mp h).elim (fun h => (List.mem_append.mp h).elim (fun h => (List.mem_append.mp h).elim (wsL_law0_r1_in w) (fun h => (List.mem_append.mp h).elim (wsL_law0_r2_in w) (fun h => (List.mem_append.mp h).elim (wsL_law0_r3_in w) (fun h => (List.mem_append.mp h).elim (wsL_law0_r4_in w) (fun h => (List.mem_append.mp h).elim (wsL_law0_r5_in w) (fun h => (List.mem_append.mp h).elim (wsL_law0_r6_in w) (fun h => (List.mem_append.mp h).elim (wsL_law0_r7_in w) (fun h => (List.mem_append.mp h).elim (wsL_law0_r8_in w) (fun h => (List.mem_append.mp h).elim (wsL_law0_r9_in w) (fun h => (List.mem_append.mp h).elim (wsL_law0_r10_in w) (fun h => (List.mem_append.mp h).elim (wsL_law0_r11_in w) (fun h => (List.mem_append.mp h).elim (wsL_law0_r12_in w) (fun h => (List.mem_append.mp h).elim (wsL_law0_r13_in w) (fun h => (List.mem_append.mp h).elim (wsL_law0_r14_in w) (fun h => (List.mem_append.mp h).elim (wsL_law0_r15_in w) (fun h => (List.mem_append.mp h).elim (wsL_law0_r16_in w) (fun h => (List.mem_append.mp h).elim (wsL_law0_r17_in w) (fun h => (List.mem_append.mp h).elim (wsL_law0_r18_in w) (fun h => (List.mem_append.mp h).elim (wsL_law0_r19_in w) (fun h => (List.mem_append.mp h).elim (wsL_law0_r20_in w) (fun h => (List.mem_append.mp h).elim (wsL_law0_r21_in w) (fun h => (List.mem_append.mp h).elim (wsL_law0_r22_in w) (fun h => (List.mem_append.mp h).elim (wsL_law0_r23_in w) (fun h => (List.mem_append.mp h).elim (wsL_law0_r24_in w) (fun h => (List.mem_append.mp h).elim (wsL_law0_r25_in w) (fun h => (List.mem_append.mp h).elim (wsL_law0_r26_in w) (fun h => (List.mem_append.mp h).elim (wsL_law0_r27_in w) (wsL_law0_r28_in w)))))))))))))))))))))))))))) (wsX70_tin w)) (wsX20_tin w)) (wsX30_tin w)) (wsX00_tin w)) (wsX50_tin w)) (wsX60_tin w)) (wsJx4a65c0_tin w)) (wsX40_tin w)) (wsX10_tin w)) (fun h => (List.not_mem_nil h).elim)) h
theorem wsL_law_x0 : ∀ w ∈ (vx_atS RX7 170 "java/lang/IllegalArgumentException" ["java/lang/RuntimeException", "java/lang/Exception"]).filter goodWord, w ∈ lw_tbl := by decide +kernel
theorem wsL_law_x1 : ∀ w ∈ (vx_atS RX7 69 "java/lang/IndexOutOfBoundsException" ["java/lang/RuntimeException", "java/lang/Exception"]).filter goodWord, w ∈ lw_tbl := by decide +kernel
theorem wsL_law_x2 : ∀ w ∈ (vx_atS RX7 80 "java/lang/IllegalStateException" ["java/lang/RuntimeException", "java/lang/Exception"]).filter goodWord, w ∈ lw_tbl := by decide +kernel
theorem wsL_law_in : ∀ w ∈ wsL_law, w ∈ lw_tbl := fun w h => (List.mem_append.mp h).elim (fun h => (List.mem_append.mp h).elim (fun h => (List.mem_append.mp h).elim (fun h => wsL_law_in0 w h) (fun h => wsL_law_x0 w h)) (fun h => wsL_law_x1 w h)) (fun h => wsL_law_x2 w h)
