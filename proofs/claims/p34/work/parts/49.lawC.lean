set_option maxRecDepth 20000 in
theorem ggL_law_X7_init : GoodIn wsL_law wsX7_init := goodIn_r _ [6, 7, 8, 9, 10, 11, 12, 13, 14, 15, 16, 17, 18, 19, 20, 21, 3, 22, 23, 24, 25, 26, 27, 28, 29, 30, 31, 32, 33, 34, 35, 36, 37, 38, 39, 40, 41, 42, 43, 44, 45, 46, 47, 48, 49, 50, 51, 52, 53, 54, 55, 56, 57, 58, 59, 60, 61, 62, 63, 64, 65, 66, 67, 68, 69, 70, 71, 72, 73, 74, 75, 76, 77, 78, 79, 80, 81, 82, 666, 667, 668, 669, 670, 652, 653, 654, 655, 656, 657, 658, 659, 660, 661, 662, 663, 664, 665, 671, 672, 673, 674, 675, 676, 677, 678, 679, 680, 681, 682, 683, 684, 685, 686, 687, 688, 689] (by decide +kernel) (by decide +kernel)
set_option maxRecDepth 20000 in
theorem gL_law_X7_init : GoodIn wsL_law (wsX7_init) := ggL_law_X7_init
set_option maxRecDepth 20000 in
theorem ggL_law_X7_isSafe : GoodIn wsL_law wsX7_isSafe := goodIn_r _ [86, 13, 17, 22, 87, 88, 89, 90, 91, 92, 12, 93, 43, 94, 95, 96, 97, 98, 16, 99, 65, 100, 101, 102, 103, 42, 104, 105, 106, 107, 108, 109, 110, 111, 112, 113, 114, 115, 116, 117, 118, 119, 120, 121, 51, 122, 2, 123, 124, 125, 126, 127, 128, 129, 130, 131, 132, 133, 134, 135, 136, 137, 138, 139, 140, 141, 142, 143, 144, 145, 146, 147, 148, 44, 149, 150, 151, 152, 153, 154, 155, 156, 157, 158, 159, 160, 161, 162, 163, 164, 165, 166, 167, 168, 169, 170, 171, 172, 173, 174, 175, 176, 177, 46, 178, 179, 180, 181, 182, 183, 184, 185, 186, 187, 188, 189, 190, 191, 192, 193, 194, 195, 196, 197, 198, 199, 200, 201, 202, 203, 204, 205, 206, 207, 208, 209, 210, 211, 212, 213, 214, 215, 216, 217, 218, 219, 220, 652, 653, 654, 655, 656, 657, 658, 659, 660, 661, 662, 663, 664, 665, 666, 667, 668, 669, 670, 690, 691, 692, 693, 694, 695, 696, 697, 671, 672, 687, 688, 689, 698, 699, 700, 701, 702, 703] (by decide +kernel) (by decide +kernel)
set_option maxRecDepth 20000 in
theorem gL_law_X7_isSafe : GoodIn wsL_law (wsV RL 122 RX7 yX7_isSafe wsX7_isSafe) := goodIn_app (goodIn_of _ (by decide +kernel)) ggL_law_X7_isSafe
set_option maxRecDepth 20000 in
theorem ggL_law_X7_kept : GoodIn wsL_law wsX7_kept := goodIn_r _ [224, 36, 652, 653, 654, 655, 656, 657, 658, 659, 660, 661, 662, 663, 664, 665] (by decide +kernel) (by decide +kernel)
set_option maxRecDepth 20000 in
theorem gL_law_X7_kept : GoodIn wsL_law (wsV RL 143 RX7 yX7_kept wsX7_kept) := goodIn_app (goodIn_of _ (by decide +kernel)) ggL_law_X7_kept
set_option maxRecDepth 20000 in
theorem ggL_law_X7_clear : GoodIn wsL_law wsX7_clear := goodIn_r _ [228, 13, 229, 212, 102, 103, 42, 104, 105, 230, 231, 232, 233, 234, 235, 51, 652, 653, 654, 655, 656, 657, 658, 659, 660, 661, 662, 663, 664, 665, 666, 667, 668, 669, 670, 687, 688, 689] (by decide +kernel) (by decide +kernel)
set_option maxRecDepth 20000 in
theorem gL_law_X7_clear : GoodIn wsL_law (wsV RL 80 RX7 yX7_clear wsX7_clear) := goodIn_app (goodIn_of _ (by decide +kernel)) ggL_law_X7_clear
set_option maxRecDepth 20000 in
theorem ggL_law_X7_plantIs : GoodIn wsL_law wsX7_plantIs := goodIn_ca (goodIn_r _ [239, 240, 241, 13, 242, 24, 243, 28, 244, 245, 246, 32, 247, 248, 249, 250, 251, 188, 189, 12, 190, 169, 170, 171, 172, 173, 652, 653, 654, 655, 656, 657, 658, 659, 660, 661, 662, 663, 664, 665, 666, 667, 668, 669, 670, 680, 681, 682, 683, 684, 685, 686] (by decide +kernel) (by decide +kernel)) (goodIn_sub (fun _ h => List.mem_append_left _ (List.mem_append_left _ (List.mem_append_right _ h))) (by decide +kernel))
set_option maxRecDepth 20000 in
theorem gL_law_X7_plantIs : GoodIn wsL_law (wsV RL 74 RX7 yX7_plantIs wsX7_plantIs) := goodIn_app (goodIn_of _ (by decide +kernel)) ggL_law_X7_plantIs
set_option maxRecDepth 20000 in
theorem ggL_law_X7_flux : GoodIn wsL_law wsX7_flux := goodIn_ca (goodIn_r _ [255, 13, 17, 256, 257, 258, 2, 259, 260, 261, 90, 91, 92, 12, 93, 43, 94, 95, 96, 97, 98, 16, 99, 65, 100, 101, 102, 103, 42, 104, 105, 106, 107, 108, 109, 110, 111, 112, 113, 114, 115, 116, 117, 118, 119, 120, 121, 51, 122, 123, 124, 125, 126, 127, 128, 129, 130, 131, 132, 133, 134, 135, 136, 137, 138, 139, 140, 141, 142, 143, 144, 145, 146, 147, 148, 44, 149, 150, 151, 152, 153, 154, 155, 156, 157, 158, 159, 160, 161, 162, 163, 164, 165, 166, 167, 168, 169, 170, 171, 172, 173, 174, 175, 176, 177, 46, 178, 179, 180, 181, 182, 183, 184, 185, 186, 187, 188, 189, 190, 191, 192, 193, 194, 195, 196, 197, 198, 199, 200, 201, 202, 203, 204, 205, 206, 207, 652, 653, 654, 655, 656, 657, 658, 659, 660, 661, 662, 663, 664, 665, 671, 672, 666, 667, 668, 669, 670, 690, 691, 692, 693, 694, 695, 696, 697, 687, 688, 689, 698, 699, 700, 701, 702, 703] (by decide +kernel) (by decide +kernel)) (goodIn_sub (fun _ h => List.mem_append_left _ (List.mem_append_right _ h)) (by decide +kernel))
set_option maxRecDepth 20000 in
theorem gL_law_X7_flux : GoodIn wsL_law (wsV RL 113 RX7 yX7_flux wsX7_flux) := goodIn_app (goodIn_of _ (by decide +kernel)) ggL_law_X7_flux
set_option maxRecDepth 20000 in
theorem ggL_law_L_draw : GoodIn wsL_law wsL_draw := goodIn_r _ [265, 266, 267, 268] (by decide +kernel) (by decide +kernel)
set_option maxRecDepth 20000 in
theorem gL_law_L_draw : GoodIn wsL_law (va_wsS RL 148 yL_draw wsL_draw) := goodIn_app (goodIn_of _ (by decide +kernel)) ggL_law_L_draw
set_option maxRecDepth 20000 in
theorem ggq_wsL_step_r1 : GoodIn wsL_law wsL_step_r1 := goodIn_r _ [272, 273, 264, 274, 275, 276, 277, 278, 2, 279, 260, 261, 280, 281, 13, 87, 282, 175, 176, 12, 177, 46, 212, 102] (by decide +kernel) (by decide +kernel)
set_option maxRecDepth 20000 in
theorem ggq_wsL_step_r2 : GoodIn wsL_law wsL_step_r2 := goodIn_r _ [103, 42, 104, 105, 283, 284, 285, 286, 43, 287, 288, 127, 289, 290, 291, 292, 8, 9, 129, 293, 195, 196, 294, 295] (by decide +kernel) (by decide +kernel)
set_option maxRecDepth 20000 in
theorem ggq_wsL_step_r3 : GoodIn wsL_law wsL_step_r3 := goodIn_r _ [296, 297, 234, 235, 51, 298, 299, 300, 301, 302, 303, 304, 305, 306, 307, 308, 309, 50, 310, 311, 185, 312, 313, 314] (by decide +kernel) (by decide +kernel)
set_option maxRecDepth 20000 in
theorem ggq_wsL_step_r4 : GoodIn wsL_law wsL_step_r4 := goodIn_r _ [315, 316, 317, 318, 319, 320, 321, 322, 323, 324, 325, 326, 327, 328, 329, 330, 331, 332, 333, 334, 335, 336, 184, 186] (by decide +kernel) (by decide +kernel)
set_option maxRecDepth 20000 in
theorem ggq_wsL_step_r5 : GoodIn wsL_law wsL_step_r5 := goodIn_r _ [337, 338, 339, 340, 101, 341, 342, 343, 344, 345, 89, 346, 347, 348, 349, 88, 213, 107, 108, 109, 110, 111, 112, 113] (by decide +kernel) (by decide +kernel)
set_option maxRecDepth 20000 in
theorem ggq_wsL_step_r6 : GoodIn wsL_law wsL_step_r6 := goodIn_r _ [114, 115, 116, 117, 118, 119, 120, 121, 350, 351, 352, 240, 241, 353, 354, 355, 356, 249, 357, 251, 188, 189, 190, 169] (by decide +kernel) (by decide +kernel)
set_option maxRecDepth 20000 in
theorem ggq_wsL_step_r7 : GoodIn wsL_law wsL_step_r7 := goodIn_r _ [170, 171, 172, 173, 358, 359, 360, 361, 362, 141, 142, 143, 144, 145, 146, 147, 148, 44, 149, 106, 150, 151, 152, 153] (by decide +kernel) (by decide +kernel)
set_option maxRecDepth 20000 in
theorem ggq_wsL_step_r8 : GoodIn wsL_law wsL_step_r8 := goodIn_r _ [154, 155, 156, 157, 158, 159, 160, 161, 162, 163, 164, 165, 166, 167, 168, 174, 178, 179, 180, 181, 182, 183, 187, 191] (by decide +kernel) (by decide +kernel)
set_option maxRecDepth 20000 in
theorem ggq_wsL_step_r9 : GoodIn wsL_law wsL_step_r9 := goodIn_r _ [192, 193, 194, 197, 198, 199, 363, 131, 132, 133, 134, 135, 364, 365, 366, 367, 28, 245, 244, 368, 369, 370, 27, 371] (by decide +kernel) (by decide +kernel)
set_option maxRecDepth 20000 in
theorem ggq_wsL_step_r10 : GoodIn wsL_law wsL_step_r10 := goodIn_r _ [78, 372, 373, 374, 375, 376, 377, 378, 379, 380, 32, 247, 381, 382, 383, 31, 384, 82, 385, 386, 387, 388, 389, 24] (by decide +kernel) (by decide +kernel)
set_option maxRecDepth 20000 in
theorem ggq_wsL_step_r11 : GoodIn wsL_law wsL_step_r11 := goodIn_r _ [243, 390, 391, 392, 393, 394, 395, 396, 397, 398, 399, 400, 401, 402, 403, 404, 405, 406, 407, 408, 409, 410, 411, 412] (by decide +kernel) (by decide +kernel)
set_option maxRecDepth 20000 in
theorem ggq_wsL_step_r12 : GoodIn wsL_law wsL_step_r12 := goodIn_r _ [413, 414, 415, 416, 417, 418, 419, 420, 421, 236, 237, 238, 239, 242, 246, 248, 250, 422, 423, 424, 425, 426, 225, 226] (by decide +kernel) (by decide +kernel)
set_option maxRecDepth 20000 in
theorem ggq_wsL_step_r13 : GoodIn wsL_law wsL_step_r13 := goodIn_r _ [227, 228, 229, 230, 231, 232, 233, 427, 428, 429, 430, 431, 432, 433, 434, 435, 436, 437, 438, 439, 440, 441, 442, 443] (by decide +kernel) (by decide +kernel)
set_option maxRecDepth 20000 in
theorem ggq_wsL_step_r14 : GoodIn wsL_law wsL_step_r14 := goodIn_r _ [444, 22, 257, 258, 259, 445, 446, 447, 448, 449, 450, 451, 452, 453, 454, 455, 456, 457, 458, 459, 460, 461, 34, 462] (by decide +kernel) (by decide +kernel)
set_option maxRecDepth 20000 in
theorem ggq_wsL_step_r15 : GoodIn wsL_law wsL_step_r15 := goodIn_r _ [463, 464, 465, 466, 467, 468, 33, 469, 470, 471, 252, 253, 254, 255, 17, 256, 90, 91, 92, 93, 94, 95, 96, 97] (by decide +kernel) (by decide +kernel)
set_option maxRecDepth 20000 in
theorem ggq_wsL_step_r16 : GoodIn wsL_law wsL_step_r16 := goodIn_r _ [98, 16, 99, 65, 100, 122, 123, 124, 125, 126, 128, 130, 136, 137, 138, 139, 140, 200, 201, 202, 203, 204, 205, 206] (by decide +kernel) (by decide +kernel)
set_option maxRecDepth 20000 in
theorem ggq_wsL_step_r17 : GoodIn wsL_law wsL_step_r17 := goodIn_r _ [207, 472, 473, 474, 475, 476, 477, 478, 479, 21, 480, 481, 482, 483, 484, 485, 486, 487, 488, 489, 490, 491, 492, 493] (by decide +kernel) (by decide +kernel)
set_option maxRecDepth 20000 in
theorem ggq_wsL_step_r18 : GoodIn wsL_law wsL_step_r18 := goodIn_r _ [494, 495, 496, 497, 498, 499, 500, 20, 501, 502, 214, 503, 504, 505, 506, 71, 72, 507, 508, 509, 510, 511, 70, 512] (by decide +kernel) (by decide +kernel)
set_option maxRecDepth 20000 in
theorem ggq_wsL_step_r19 : GoodIn wsL_law wsL_step_r19 := goodIn_r _ [209, 210, 211, 513, 514, 515, 516, 74, 73, 517, 518, 519, 520, 521, 522, 523, 524, 525, 526, 527, 528, 529, 530, 531] (by decide +kernel) (by decide +kernel)
set_option maxRecDepth 20000 in
theorem ggq_wsL_step_r20 : GoodIn wsL_law wsL_step_r20 := goodIn_r _ [532, 533, 534, 535, 536, 537, 538, 539, 540, 541, 542, 543, 544, 545, 546, 547, 548, 549, 550, 83, 84, 85, 86, 208] (by decide +kernel) (by decide +kernel)
set_option maxRecDepth 20000 in
theorem ggq_wsL_step_r21 : GoodIn wsL_law wsL_step_r21 := goodIn_r _ [215, 216, 217, 218, 219, 220, 551, 552, 553, 554, 555, 556, 557, 558, 559, 560, 36, 561, 562, 563, 564, 565, 566, 567] (by decide +kernel) (by decide +kernel)
set_option maxRecDepth 20000 in
theorem ggq_wsL_step_r22 : GoodIn wsL_law wsL_step_r22 := goodIn_r _ [568, 569, 570, 571, 572, 573, 574, 575, 576, 577, 578, 23, 579, 580, 581, 582, 583, 584, 585, 586, 587, 588, 589, 590] (by decide +kernel) (by decide +kernel)
set_option maxRecDepth 20000 in
theorem ggq_wsL_step_r23 : GoodIn wsL_law wsL_step_r23 := goodIn_r _ [591, 592, 593, 594, 595, 596, 597, 598, 599, 600, 601, 602, 603, 604, 605, 606, 607, 608, 609, 610, 611, 612, 613, 614] (by decide +kernel) (by decide +kernel)
set_option maxRecDepth 20000 in
theorem ggq_wsL_step_r24 : GoodIn wsL_law wsL_step_r24 := goodIn_r _ [615, 616, 617, 618, 619, 620, 621, 622, 623, 624, 625, 626, 627, 628, 629, 630, 631, 632, 633] (by decide +kernel) (by decide +kernel)
set_option maxRecDepth 20000 in
theorem ggq_wsX70 : GoodIn wsL_law wsX70 := goodIn_sub (fun _ h => (List.mem_append_left _ (List.mem_append_left _ (List.mem_append_left _ (List.mem_append_left _ (List.mem_append_left _ (List.mem_append_left _ (List.mem_append_left _ (List.mem_append_left _ (List.mem_append_left _ (List.mem_append_left _ (List.mem_append_left _ (List.mem_append_left _ (List.mem_append_right _ h)))))))))))))) (by decide +kernel)
set_option maxRecDepth 20000 in
theorem ggq_wsX20 : GoodIn wsL_law wsX20 := goodIn_sub (fun _ h => (List.mem_append_left _ (List.mem_append_left _ (List.mem_append_left _ (List.mem_append_left _ (List.mem_append_left _ (List.mem_append_left _ (List.mem_append_left _ (List.mem_append_left _ (List.mem_append_left _ (List.mem_append_left _ (List.mem_append_left _ (List.mem_append_right _ h))))))))))))) (by decide +kernel)
set_option maxRecDepth 20000 in
theorem ggq_wsJx4a65c0 : GoodIn wsL_law wsJx4a65c0 := goodIn_sub (fun _ h => (List.mem_append_left _ (List.mem_append_left _ (List.mem_append_left _ (List.mem_append_left _ (List.mem_append_left _ (List.mem_append_left _ (List.mem_append_right _ h)))))))) (by decide +kernel)
set_option maxRecDepth 20000 in
theorem ggq_wsX40 : GoodIn wsL_law wsX40 := goodIn_sub (fun _ h => (List.mem_append_left _ (List.mem_append_left _ (List.mem_append_left _ (List.mem_append_left _ (List.mem_append_left _ (List.mem_append_right _ h))))))) (by decide +kernel)
set_option maxRecDepth 20000 in
theorem ggq_wsX10 : GoodIn wsL_law wsX10 := goodIn_sub (fun _ h => (List.mem_append_left _ (List.mem_append_left _ (List.mem_append_left _ (List.mem_append_left _ (List.mem_append_right _ h)))))) (by decide +kernel)
set_option maxRecDepth 20000 in
theorem ggq_wsX50 : GoodIn wsL_law wsX50 := goodIn_sub (fun _ h => (List.mem_append_left _ (List.mem_append_left _ (List.mem_append_left _ (List.mem_append_left _ (List.mem_append_left _ (List.mem_append_left _ (List.mem_append_left _ (List.mem_append_left _ (List.mem_append_right _ h)))))))))) (by decide +kernel)
set_option maxRecDepth 20000 in
theorem ggq_wsX60 : GoodIn wsL_law wsX60 := goodIn_sub (fun _ h => (List.mem_append_left _ (List.mem_append_left _ (List.mem_append_left _ (List.mem_append_left _ (List.mem_append_left _ (List.mem_append_left _ (List.mem_append_left _ (List.mem_append_right _ h))))))))) (by decide +kernel)
set_option maxRecDepth 20000 in
theorem ggq_wsX30 : GoodIn wsL_law wsX30 := goodIn_sub (fun _ h => (List.mem_append_left _ (List.mem_append_left _ (List.mem_append_left _ (List.mem_append_left _ (List.mem_append_left _ (List.mem_append_left _ (List.mem_append_left _ (List.mem_append_left _ (List.mem_append_left _ (List.mem_append_left _ (List.mem_append_right _ h)))))))))))) (by decide +kernel)
set_option maxRecDepth 20000 in
theorem ggq_wsX00 : GoodIn wsL_law wsX00 := goodIn_sub (fun _ h => (List.mem_append_left _ (List.mem_append_left _ (List.mem_append_left _ (List.mem_append_left _ (List.mem_append_left _ (List.mem_append_left _ (List.mem_append_left _ (List.mem_append_left _ (List.mem_append_left _ (List.mem_append_right _ h))))))))))) (by decide +kernel)
set_option maxRecDepth 20000 in
theorem ggq_step_c : GoodIn wsL_law [.code yL_step cL_step 33 (some .boolean)] := goodIn_sub (fun w h => by rw [List.mem_singleton.mp h]; exact (List.mem_append_left _ (List.mem_append_left _ (List.mem_append_left _ (List.mem_append_left _ (List.mem_append_left _ (List.mem_append_left _ (List.mem_append_left _ (List.mem_append_left _ (List.mem_append_left _ (List.mem_append_left _ (List.mem_append_left _ (List.mem_append_left _ (List.mem_append_left _ (List.mem_append_right _ (List.mem_append_right _ (List.mem_append_right _ (List.mem_append_right _ (List.mem_append_right _ (List.mem_append_right _ (List.mem_append_right _ (List.mem_append_right _ (List.mem_append_right _ (List.mem_append_right _ (List.mem_append_right _ (List.mem_append_left _ (show _ ∈ wsL_law0_r12 from (List.Mem.tail _ (List.Mem.tail _ (List.Mem.tail _ (List.Mem.tail _ (List.Mem.tail _ (List.Mem.tail _ (List.Mem.tail _ (List.Mem.head _))))))))))))))))))))))))))))))))))) rfl
set_option maxRecDepth 20000 in
theorem ggL_law_L_step : GoodIn wsL_law wsL_step := goodIn_app (a := [_]) ggq_step_c (goodIn_app (goodIn_app (goodIn_app (goodIn_app (goodIn_app (goodIn_app (goodIn_app (goodIn_app (goodIn_app (goodIn_app (goodIn_app (goodIn_app (goodIn_app ggq_wsL_step_r1 (goodIn_app ggq_wsL_step_r2 (goodIn_app ggq_wsL_step_r3 (goodIn_app ggq_wsL_step_r4 (goodIn_app ggq_wsL_step_r5 (goodIn_app ggq_wsL_step_r6 (goodIn_app ggq_wsL_step_r7 (goodIn_app ggq_wsL_step_r8 (goodIn_app ggq_wsL_step_r9 (goodIn_app ggq_wsL_step_r10 (goodIn_app ggq_wsL_step_r11 (goodIn_app ggq_wsL_step_r12 (goodIn_app ggq_wsL_step_r13 (goodIn_app ggq_wsL_step_r14 (goodIn_app ggq_wsL_step_r15 (goodIn_app ggq_wsL_step_r16 (goodIn_app ggq_wsL_step_r17 (goodIn_app ggq_wsL_step_r18 (goodIn_app ggq_wsL_step_r19 (goodIn_app ggq_wsL_step_r20 (goodIn_app ggq_wsL_step_r21 (goodIn_app ggq_wsL_step_r22 (goodIn_app ggq_wsL_step_r23 ggq_wsL_step_r24))))))))))))))))))))))) ggq_wsX70) ggq_wsX20) ggq_wsJx4a65c0) ggq_wsX40) ggq_wsX10) ggq_wsX50) ggq_wsX60) ggq_wsX30) ggq_wsX00) (goodIn_sub (fun _ h => (List.mem_append_left _ (List.mem_append_right _ h))) (by decide +kernel))) (goodIn_sub (fun _ h => (List.mem_append_right _ h)) (by decide +kernel))) (goodIn_sub (fun _ h => (List.mem_append_left _ (List.mem_append_left _ (List.mem_append_right _ h)))) (by decide +kernel)))
set_option maxRecDepth 20000 in
theorem gL_law_L_step : GoodIn wsL_law (va_wsS RL 152 yL_step wsL_step) := goodIn_app (goodIn_of _ (by decide +kernel)) ggL_law_L_step
set_option maxRecDepth 20000 in
theorem ggq_wsL_isPlant_r1 : GoodIn wsL_law wsL_isPlant_r1 := goodIn_r _ [637, 638, 236, 237, 238, 2, 239, 240, 241, 13, 242, 24, 243, 28, 244, 245, 246, 32, 247, 248, 249, 250, 251, 188] (by decide +kernel) (by decide +kernel)
set_option maxRecDepth 20000 in
theorem ggq_wsL_isPlant_r2 : GoodIn wsL_law wsL_isPlant_r2 := goodIn_r _ [189, 12, 190, 169, 170, 171, 172, 173, 557, 558, 559, 560, 36, 350, 351, 352, 639, 640, 641, 642, 23, 257, 258, 259] (by decide +kernel) (by decide +kernel)
set_option maxRecDepth 20000 in
theorem ggq_wsL_isPlant_r3 : GoodIn wsL_law wsL_isPlant_r3 := goodIn_r _ [260, 261, 252, 253, 254, 255, 17, 256, 90, 91, 92, 93, 43, 94, 95, 96, 97, 98, 16, 99, 65, 100, 101, 102] (by decide +kernel) (by decide +kernel)
set_option maxRecDepth 20000 in
theorem ggq_wsL_isPlant_r4 : GoodIn wsL_law wsL_isPlant_r4 := goodIn_r _ [103, 42, 104, 105, 106, 107, 108, 109, 110, 111, 112, 113, 114, 115, 116, 117, 118, 119, 120, 121, 51, 122, 123, 124] (by decide +kernel) (by decide +kernel)
set_option maxRecDepth 20000 in
theorem ggq_wsL_isPlant_r5 : GoodIn wsL_law wsL_isPlant_r5 := goodIn_r _ [125, 126, 127, 128, 129, 130, 131, 132, 133, 134, 135, 136, 137, 138, 139, 140, 141, 142, 143, 144, 145, 146, 147, 148] (by decide +kernel) (by decide +kernel)
set_option maxRecDepth 20000 in
theorem ggq_wsL_isPlant_r6 : GoodIn wsL_law wsL_isPlant_r6 := goodIn_r _ [44, 149, 150, 151, 152, 153, 154, 155, 156, 157, 158, 159, 160, 161, 162, 163, 164, 165, 166, 167, 168, 174, 175, 176] (by decide +kernel) (by decide +kernel)
set_option maxRecDepth 20000 in
theorem ggq_wsL_isPlant_r7 : GoodIn wsL_law wsL_isPlant_r7 := goodIn_r _ [177, 46, 178, 179, 180, 181, 182, 183, 184, 185, 186, 187, 191, 192, 193, 194, 195, 196, 197, 198, 199, 200, 201, 202] (by decide +kernel) (by decide +kernel)
set_option maxRecDepth 20000 in
theorem ggq_wsL_isPlant_r8 : GoodIn wsL_law wsL_isPlant_r8 := goodIn_r _ [203, 204, 205, 206, 207, 643, 644, 645, 646, 87, 88, 89, 212, 213, 214, 647, 648, 649, 650, 651, 221, 222, 223, 224] (by decide +kernel) (by decide +kernel)
set_option maxRecDepth 20000 in
theorem ggq_wsL_isPlant_r9 : GoodIn wsL_law wsL_isPlant_r9 := goodIn_r _ [410, 411, 412, 413, 346, 347, 348, 349, 362, 394, 395, 396, 397, 398, 357, 399, 345, 400, 401, 402] (by decide +kernel) (by decide +kernel)
set_option maxRecDepth 20000 in
theorem ggq_isPlant_c : GoodIn wsL_law [.code yL_isPlant cL_isPlant 9 (some .boolean)] := goodIn_sub (fun w h => by rw [List.mem_singleton.mp h]; exact (List.mem_append_left _ (List.mem_append_left _ (List.mem_append_left _ (List.mem_append_left _ (List.mem_append_left _ (List.mem_append_left _ (List.mem_append_left _ (List.mem_append_left _ (List.mem_append_left _ (List.mem_append_left _ (List.mem_append_left _ (List.mem_append_left _ (List.mem_append_left _ (List.mem_append_right _ (List.mem_append_right _ (List.mem_append_right _ (List.mem_append_right _ (List.mem_append_right _ (List.mem_append_right _ (List.mem_append_right _ (List.mem_append_right _ (List.mem_append_right _ (List.mem_append_right _ (List.mem_append_right _ (List.mem_append_right _ (List.mem_append_right _ (List.mem_append_right _ (List.mem_append_right _ (List.mem_append_right _ (List.mem_append_right _ (List.mem_append_right _ (List.mem_append_right _ (List.mem_append_right _ (List.mem_append_right _ (List.mem_append_right _ (List.mem_append_right _ (List.mem_append_right _ (List.mem_append_right _ (List.mem_append_right _ (List.mem_append_left _ (show _ ∈ wsL_law0_r27 from (List.Mem.tail _ (List.Mem.tail _ (List.Mem.tail _ (List.Mem.tail _ (List.Mem.tail _ (List.Mem.tail _ (List.Mem.tail _ (List.Mem.tail _ (List.Mem.tail _ (List.Mem.tail _ (List.Mem.tail _ (List.Mem.tail _ (List.Mem.head _))))))))))))))))))))))))))))))))))))))))))))))))))))))) rfl
set_option maxRecDepth 20000 in
theorem ggL_law_L_isPlant : GoodIn wsL_law wsL_isPlant := goodIn_app (a := [_]) ggq_isPlant_c (goodIn_app (goodIn_app (goodIn_app (goodIn_app (goodIn_app (goodIn_app (goodIn_app (goodIn_app (goodIn_app (goodIn_app (goodIn_app ggq_wsL_isPlant_r1 (goodIn_app ggq_wsL_isPlant_r2 (goodIn_app ggq_wsL_isPlant_r3 (goodIn_app ggq_wsL_isPlant_r4 (goodIn_app ggq_wsL_isPlant_r5 (goodIn_app ggq_wsL_isPlant_r6 (goodIn_app ggq_wsL_isPlant_r7 (goodIn_app ggq_wsL_isPlant_r8 ggq_wsL_isPlant_r9)))))))) ggq_wsX70) ggq_wsX20) ggq_wsX50) ggq_wsX60) ggq_wsX30) ggq_wsX40) ggq_wsJx4a65c0) ggq_wsX10) (goodIn_sub (fun _ h => (List.mem_append_left _ (List.mem_append_left _ (List.mem_append_right _ h)))) (by decide +kernel))) (goodIn_sub (fun _ h => (List.mem_append_left _ (List.mem_append_right _ h))) (by decide +kernel)))
set_option maxRecDepth 20000 in
theorem gL_law_L_isPlant : GoodIn wsL_law (va_wsS RL 156 yL_isPlant wsL_isPlant) := goodIn_app (goodIn_of _ (by decide +kernel)) ggL_law_L_isPlant
theorem dL_law_0 : decode cL_law 0 = .ok (.new 11, 3) := by decide +kernel
theorem dL_law_3 : decode cL_law 3 = .ok (.dup, 1) := by decide +kernel
theorem dL_law_4 : decode cL_law 4 = .ok (.invokespecial 147, 3) := by decide +kernel
theorem dL_law_7 : decode cL_law 7 = .ok (.astore_n 1, 1) := by decide +kernel
theorem dL_law_8 : decode cL_law 8 = .ok (.bipush 29, 2) := by decide +kernel
theorem dL_law_10 : decode cL_law 10 = .ok (.newarray .int, 2) := by decide +kernel
theorem dL_law_12 : decode cL_law 12 = .ok (.astore_n 2, 1) := by decide +kernel
theorem dL_law_13 : decode cL_law 13 = .ok (.aload_n 1, 1) := by decide +kernel
theorem dL_law_14 : decode cL_law 14 = .ok (.invokevirtual 122, 3) := by decide +kernel
theorem dL_law_17 : decode cL_law 17 = .ok (.ifCond .eq 41, 3) := by decide +kernel
theorem dL_law_20 : decode cL_law 20 = .ok (.aload_n 1, 1) := by decide +kernel
theorem dL_law_21 : decode cL_law 21 = .ok (.invokevirtual 143, 3) := by decide +kernel
theorem dL_law_24 : decode cL_law 24 = .ok (.fconst 0, 1) := by decide +kernel
theorem dL_law_25 : decode cL_law 25 = .ok (.fcmp .l, 1) := by decide +kernel
theorem dL_law_26 : decode cL_law 26 = .ok (.ifCond .ne 32, 3) := by decide +kernel
theorem dL_law_29 : decode cL_law 29 = .ok (.aload_n 1, 1) := by decide +kernel
theorem dL_law_30 : decode cL_law 30 = .ok (.invokevirtual 80, 3) := by decide +kernel
theorem dL_law_33 : decode cL_law 33 = .ok (.ifCond .ne 25, 3) := by decide +kernel
theorem dL_law_36 : decode cL_law 36 = .ok (.aload_n 1, 1) := by decide +kernel
theorem dL_law_37 : decode cL_law 37 = .ok (.iconst 2, 1) := by decide +kernel
theorem dL_law_38 : decode cL_law 38 = .ok (.invokevirtual 74, 3) := by decide +kernel
theorem dL_law_41 : decode cL_law 41 = .ok (.bipush 100, 2) := by decide +kernel
theorem dL_law_43 : decode cL_law 43 = .ok (.if_icmp .ne 15, 3) := by decide +kernel
theorem dL_law_46 : decode cL_law 46 = .ok (.aload_n 1, 1) := by decide +kernel
theorem dL_law_47 : decode cL_law 47 = .ok (.iconst 5, 1) := by decide +kernel
theorem dL_law_48 : decode cL_law 48 = .ok (.invokevirtual 113, 3) := by decide +kernel
theorem dL_law_51 : decode cL_law 51 = .ok (.ifCond .ne 7, 3) := by decide +kernel
theorem dL_law_54 : decode cL_law 54 = .ok (.iconst 1, 1) := by decide +kernel
theorem dL_law_55 : decode cL_law 55 = .ok (.goto 4, 3) := by decide +kernel
theorem dL_law_58 : decode cL_law 58 = .ok (.iconst 0, 1) := by decide +kernel
theorem dL_law_59 : decode cL_law 59 = .ok (.istore_n 3, 1) := by decide +kernel
theorem dL_law_60 : decode cL_law 60 = .ok (.aload_n 0, 1) := by decide +kernel
theorem dL_law_61 : decode cL_law 61 = .ok (.arraylength, 1) := by decide +kernel
theorem dL_law_62 : decode cL_law 62 = .ok (.iconst 3, 1) := by decide +kernel
theorem dL_law_63 : decode cL_law 63 = .ok (.idiv, 1) := by decide +kernel
theorem dL_law_64 : decode cL_law 64 = .ok (.bipush 70, 2) := by decide +kernel
theorem dL_law_66 : decode cL_law 66 = .ok (.if_icmp .le 8, 3) := by decide +kernel
theorem dL_law_69 : decode cL_law 69 = .ok (.bipush 70, 2) := by decide +kernel
theorem dL_law_71 : decode cL_law 71 = .ok (.goto 7, 3) := by decide +kernel
theorem dL_law_74 : decode cL_law 74 = .ok (.aload_n 0, 1) := by decide +kernel
theorem dL_law_75 : decode cL_law 75 = .ok (.arraylength, 1) := by decide +kernel
theorem dL_law_76 : decode cL_law 76 = .ok (.iconst 3, 1) := by decide +kernel
theorem dL_law_77 : decode cL_law 77 = .ok (.idiv, 1) := by decide +kernel
theorem dL_law_78 : decode cL_law 78 = .ok (.istore 4, 2) := by decide +kernel
theorem dL_law_80 : decode cL_law 80 = .ok (.iconst 0, 1) := by decide +kernel
theorem dL_law_81 : decode cL_law 81 = .ok (.istore 5, 2) := by decide +kernel
theorem dL_law_83 : decode cL_law 83 = .ok (.iload 5, 2) := by decide +kernel
theorem dL_law_85 : decode cL_law 85 = .ok (.iload 4, 2) := by decide +kernel
theorem dL_law_87 : decode cL_law 87 = .ok (.if_icmp .ge 76, 3) := by decide +kernel
theorem dL_law_90 : decode cL_law 90 = .ok (.iload_n 3, 1) := by decide +kernel
theorem dL_law_91 : decode cL_law 91 = .ok (.ifCond .eq 72, 3) := by decide +kernel
theorem dL_law_94 : decode cL_law 94 = .ok (.aload_n 0, 1) := by decide +kernel
theorem dL_law_95 : decode cL_law 95 = .ok (.iconst 3, 1) := by decide +kernel
theorem dL_law_96 : decode cL_law 96 = .ok (.iload 5, 2) := by decide +kernel
theorem dL_law_98 : decode cL_law 98 = .ok (.imul, 1) := by decide +kernel
theorem dL_law_99 : decode cL_law 99 = .ok (.iconst 1, 1) := by decide +kernel
theorem dL_law_100 : decode cL_law 100 = .ok (.iadd, 1) := by decide +kernel
theorem dL_law_101 : decode cL_law 101 = .ok (.invokestatic 148, 3) := by decide +kernel
theorem dL_law_104 : decode cL_law 104 = .ok (.istore 6, 2) := by decide +kernel
theorem dL_law_106 : decode cL_law 106 = .ok (.aload_n 1, 1) := by decide +kernel
theorem dL_law_107 : decode cL_law 107 = .ok (.aload_n 2, 1) := by decide +kernel
theorem dL_law_108 : decode cL_law 108 = .ok (.aload_n 0, 1) := by decide +kernel
theorem dL_law_109 : decode cL_law 109 = .ok (.iconst 3, 1) := by decide +kernel
theorem dL_law_110 : decode cL_law 110 = .ok (.iload 5, 2) := by decide +kernel
theorem dL_law_112 : decode cL_law 112 = .ok (.imul, 1) := by decide +kernel
theorem dL_law_113 : decode cL_law 113 = .ok (.invokestatic 148, 3) := by decide +kernel
theorem dL_law_116 : decode cL_law 116 = .ok (.iload 6, 2) := by decide +kernel
theorem dL_law_118 : decode cL_law 118 = .ok (.aload_n 0, 1) := by decide +kernel
theorem dL_law_119 : decode cL_law 119 = .ok (.iconst 3, 1) := by decide +kernel
theorem dL_law_120 : decode cL_law 120 = .ok (.iload 5, 2) := by decide +kernel
theorem dL_law_122 : decode cL_law 122 = .ok (.imul, 1) := by decide +kernel
theorem dL_law_123 : decode cL_law 123 = .ok (.iconst 2, 1) := by decide +kernel
theorem dL_law_124 : decode cL_law 124 = .ok (.iadd, 1) := by decide +kernel
theorem dL_law_125 : decode cL_law 125 = .ok (.invokestatic 148, 3) := by decide +kernel
theorem dL_law_128 : decode cL_law 128 = .ok (.invokestatic 152, 3) := by decide +kernel
theorem dL_law_131 : decode cL_law 131 = .ok (.ifCond .eq 24, 3) := by decide +kernel
theorem dL_law_134 : decode cL_law 134 = .ok (.aload_n 1, 1) := by decide +kernel
theorem dL_law_135 : decode cL_law 135 = .ok (.aload_n 2, 1) := by decide +kernel
theorem dL_law_136 : decode cL_law 136 = .ok (.iload 6, 2) := by decide +kernel
theorem dL_law_138 : decode cL_law 138 = .ok (.bipush 7, 2) := by decide +kernel
theorem dL_law_140 : decode cL_law 140 = .ok (.idiv, 1) := by decide +kernel
theorem dL_law_141 : decode cL_law 141 = .ok (.aload_n 2, 1) := by decide +kernel
theorem dL_law_142 : decode cL_law 142 = .ok (.iconst 0, 1) := by decide +kernel
theorem dL_law_143 : decode cL_law 143 = .ok (.iaload, 1) := by decide +kernel
theorem dL_law_144 : decode cL_law 144 = .ok (.irem, 1) := by decide +kernel
theorem dL_law_145 : decode cL_law 145 = .ok (.invokestatic 156, 3) := by decide +kernel
theorem dL_law_148 : decode cL_law 148 = .ok (.ifCond .eq 7, 3) := by decide +kernel
theorem dL_law_151 : decode cL_law 151 = .ok (.iconst 1, 1) := by decide +kernel
theorem dL_law_152 : decode cL_law 152 = .ok (.goto 4, 3) := by decide +kernel
theorem dL_law_155 : decode cL_law 155 = .ok (.iconst 0, 1) := by decide +kernel
theorem dL_law_156 : decode cL_law 156 = .ok (.istore_n 3, 1) := by decide +kernel
theorem dL_law_157 : decode cL_law 157 = .ok (.iinc 5 1, 3) := by decide +kernel
theorem dL_law_160 : decode cL_law 160 = .ok (.goto (-77), 3) := by decide +kernel
theorem dL_law_163 : decode cL_law 163 = .ok (.iload_n 3, 1) := by decide +kernel
theorem dL_law_164 : decode cL_law 164 = .ok (.ireturn, 1) := by decide +kernel
