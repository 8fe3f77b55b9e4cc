set_option maxRecDepth 20000 in
theorem ggL_step_L_acts : GoodIn wsL_step wsL_acts := goodIn_ca (goodIn_ca (goodIn_ca (goodIn_r _ [4, 5, 6, 7, 8, 9, 10, 11, 12, 13, 14, 15, 16, 17, 18, 19, 20, 21, 22, 23, 24, 25, 26, 27, 28, 29, 30, 31, 32, 33, 34, 35, 36, 37, 38, 39, 40, 41, 42, 43, 44, 45, 46, 47, 48, 49, 50, 51, 52, 53, 54, 55, 56, 57, 58, 59, 60, 61, 62, 63, 64, 65, 66, 67, 68, 69, 70, 71, 72, 73, 74, 75, 76, 77, 78, 79, 80, 81, 82, 83, 84, 85, 86, 87, 88, 89, 90, 91, 92, 93, 94, 95, 96, 97, 98, 99, 100, 101, 102, 103, 104, 105, 106, 107, 108, 109, 110, 111, 112, 113, 114, 115, 116, 117, 118, 119, 120, 121, 122, 123, 124, 125, 126, 127, 128, 129, 130, 131, 132, 133, 134, 135, 136, 137, 138, 139, 140, 141, 142, 143, 144, 145, 146, 147, 148, 149, 150, 151, 152, 153, 154, 155, 156, 157, 158, 159, 160, 161, 162, 163, 164, 165, 166, 167, 168, 169, 170, 171, 172, 173, 174, 175, 176, 177, 178, 179, 180, 181, 182, 183, 184, 185, 186, 187, 188, 189, 190, 191, 192, 193, 194, 195, 196, 197, 198, 199, 200, 201, 202, 203, 204, 205, 206, 207, 208, 209, 210, 211, 212, 213, 214, 215, 216, 217, 218, 219, 220, 221, 222, 223, 224, 225, 226, 227, 228, 229, 230, 231, 232, 233, 234, 235, 236, 237, 238, 239, 240, 241, 242, 243, 244, 245, 572, 573, 574, 575, 576, 577, 578, 579, 580, 581, 582, 583, 584, 585, 586, 587, 588, 589, 590, 591, 592, 593, 594, 595, 596, 597, 598, 599, 600, 601, 602, 603, 604, 605, 606, 607, 608, 609, 610, 611, 612, 613, 614] (by decide +kernel) (by decide +kernel)) (goodIn_sub (fun _ h => List.mem_cons_of_mem _ (List.mem_append_left _ (List.mem_append_left _ (List.mem_append_right _ h)))) (by decide +kernel))) (goodIn_sub (fun _ h => List.mem_cons_of_mem _ (List.mem_append_left _ (List.mem_append_right _ h))) (by decide +kernel))) (goodIn_sub (fun _ h => List.mem_cons_of_mem _ (List.mem_append_right _ h)) (by decide +kernel))
set_option maxRecDepth 20000 in
theorem gL_step_L_acts : GoodIn wsL_step (va_wsS RL 51 yL_acts wsL_acts) := goodIn_app (goodIn_of _ (by decide +kernel)) ggL_step_L_acts
set_option maxRecDepth 20000 in
theorem ggL_step_X7_mirrorIs : GoodIn wsL_step wsX7_mirrorIs := goodIn_ca (goodIn_ca (goodIn_r _ [249, 132, 133, 250, 139, 107, 251, 106, 15, 108, 109, 110, 9, 111, 11, 12, 16, 112, 23, 24, 25, 26, 27, 28, 113, 114, 115, 116, 117, 118, 119, 120, 121, 122, 123, 124, 125, 126, 127, 128, 53, 252, 159, 160, 20, 161, 162, 163, 101, 164, 165, 166, 167, 168, 169, 170, 171, 172, 173, 174, 175, 176, 177, 253, 179, 180, 181, 182, 183, 144, 145, 146, 147, 148, 184, 18, 19, 21, 22, 254, 193, 194, 36, 195, 45, 46, 196, 197, 69, 198, 594, 595, 596, 597, 598, 599, 600, 601, 572, 573, 574, 575, 576, 577, 578, 579, 580, 581, 582, 583, 584, 585, 586, 587, 588, 589, 590, 591, 592, 593, 602, 603, 604, 605, 606, 607] (by decide +kernel) (by decide +kernel)) (goodIn_sub (fun _ h => List.mem_cons_of_mem _ (List.mem_append_right _ h)) (by decide +kernel))) (goodIn_sub (fun _ h => List.mem_cons_of_mem _ (List.mem_append_left _ (List.mem_append_left _ (List.mem_append_right _ h)))) (by decide +kernel))
set_option maxRecDepth 20000 in
theorem gL_step_X7_mirrorIs : GoodIn wsL_step (wsV RL 57 RX7 yX7_mirrorIs wsX7_mirrorIs) := goodIn_app (goodIn_of _ (by decide +kernel)) ggL_step_X7_mirrorIs
set_option maxRecDepth 20000 in
theorem ggL_step_X7_drift : GoodIn wsL_step wsX7_drift := goodIn_ca (goodIn_ca (goodIn_r _ [258, 259, 260, 95, 69, 96, 261, 68, 70, 108, 109, 110, 9, 111, 11, 12, 15, 16, 112, 23, 24, 25, 26, 27, 28, 113, 114, 115, 116, 117, 118, 119, 120, 121, 122, 123, 124, 125, 126, 127, 128, 53, 129, 130, 131, 132, 133, 594, 595, 596, 597, 598, 599, 600, 601, 572, 573, 574, 575, 576, 577, 578, 579, 580, 581, 582, 583, 584, 585, 586, 587, 588, 589, 590, 591, 592, 593] (by decide +kernel) (by decide +kernel)) (goodIn_sub (fun _ h => List.mem_cons_of_mem _ (List.mem_append_left _ (List.mem_append_left _ (List.mem_append_right _ h)))) (by decide +kernel))) (goodIn_sub (fun _ h => List.mem_cons_of_mem _ (List.mem_append_right _ h)) (by decide +kernel))
set_option maxRecDepth 20000 in
theorem gL_step_X7_drift : GoodIn wsL_step (wsV RL 60 RX7 yX7_drift wsX7_drift) := goodIn_app (goodIn_of _ (by decide +kernel)) ggL_step_X7_drift
set_option maxRecDepth 20000 in
theorem ggL_step_X7_power : GoodIn wsL_step wsX7_power := goodIn_ca (goodIn_ca (goodIn_r _ [265, 15, 108, 109, 110, 9, 111, 11, 12, 16, 112, 23, 24, 25, 26, 27, 28, 113, 114, 115, 116, 117, 118, 119, 120, 121, 122, 123, 124, 125, 126, 127, 128, 53, 129, 130, 131, 132, 133, 153, 154, 155, 20, 156, 157, 158, 159, 160, 161, 162, 163, 101, 164, 165, 166, 167, 168, 169, 170, 171, 172, 173, 174, 175, 176, 177, 178, 179, 180, 181, 182, 183, 144, 145, 146, 147, 148, 184, 18, 19, 21, 22, 185, 186, 187, 188, 189, 190, 95, 69, 96, 191, 141, 142, 143, 192, 193, 194, 36, 195, 45, 46, 196, 197, 198, 572, 573, 574, 575, 576, 577, 578, 579, 580, 581, 582, 583, 584, 585, 586, 587, 588, 589, 590, 591, 592, 593, 594, 595, 596, 597, 598, 599, 600, 601, 602, 603, 604, 605, 606, 607] (by decide +kernel) (by decide +kernel)) (goodIn_sub (fun _ h => List.mem_cons_of_mem _ (List.mem_append_left _ (List.mem_append_left _ (List.mem_append_right _ h)))) (by decide +kernel))) (goodIn_sub (fun _ h => List.mem_cons_of_mem _ (List.mem_append_right _ h)) (by decide +kernel))
set_option maxRecDepth 20000 in
theorem gL_step_X7_power : GoodIn wsL_step (wsV RL 64 RX7 yX7_power wsX7_power) := goodIn_app (goodIn_of _ (by decide +kernel)) ggL_step_X7_power
set_option maxRecDepth 20000 in
theorem ggL_step_X7_correct : GoodIn wsL_step wsX7_correct := goodIn_ca (goodIn_ca (goodIn_r _ [269, 251, 108, 109, 110, 9, 111, 11, 12, 15, 16, 112, 23, 24, 25, 26, 27, 28, 113, 114, 115, 116, 117, 118, 119, 120, 121, 122, 123, 124, 125, 126, 127, 128, 53, 129, 130, 131, 132, 133, 594, 595, 596, 597, 598, 599, 600, 601, 572, 573, 574, 575, 576, 577, 578, 579, 580, 581, 582, 583, 584, 585, 586, 587, 588, 589, 590, 591, 592, 593] (by decide +kernel) (by decide +kernel)) (goodIn_sub (fun _ h => List.mem_cons_of_mem _ (List.mem_append_left _ (List.mem_append_left _ (List.mem_append_right _ h)))) (by decide +kernel))) (goodIn_sub (fun _ h => List.mem_cons_of_mem _ (List.mem_append_right _ h)) (by decide +kernel))
set_option maxRecDepth 20000 in
theorem gL_step_X7_correct : GoodIn wsL_step (wsV RL 67 RX7 yX7_correct wsX7_correct) := goodIn_app (goodIn_of _ (by decide +kernel)) ggL_step_X7_correct
set_option maxRecDepth 20000 in
theorem ggL_step_X7_fail : GoodIn wsL_step wsX7_fail := goodIn_ca (goodIn_r _ [273, 106, 108, 109, 110, 9, 111, 11, 12, 15, 16, 112, 23, 24, 25, 26, 27, 28, 113, 114, 115, 116, 117, 118, 119, 120, 121, 122, 123, 124, 125, 126, 127, 128, 53, 594, 595, 596, 597, 598, 599, 600, 601, 572, 573, 574, 575, 576, 577, 578, 579, 580, 581, 582, 583, 584, 585, 586, 587, 588, 589, 590, 591, 592, 593] (by decide +kernel) (by decide +kernel)) (goodIn_sub (fun _ h => List.mem_cons_of_mem _ (List.mem_append_left _ (List.mem_append_left _ (List.mem_append_right _ h)))) (by decide +kernel))
set_option maxRecDepth 20000 in
theorem gL_step_X7_fail : GoodIn wsL_step (wsV RL 70 RX7 yX7_fail wsX7_fail) := goodIn_app (goodIn_of _ (by decide +kernel)) ggL_step_X7_fail
set_option maxRecDepth 20000 in
theorem ggL_step_X7_plantIs : GoodIn wsL_step wsX7_plantIs := goodIn_ca (goodIn_r _ [277, 132, 133, 15, 278, 240, 241, 209, 211, 210, 279, 227, 228, 280, 138, 281, 140, 141, 142, 20, 143, 144, 145, 146, 147, 148, 572, 573, 574, 575, 576, 577, 578, 579, 580, 581, 582, 583, 584, 585, 586, 587, 588, 589, 590, 608, 609, 610, 611, 612, 613, 614] (by decide +kernel) (by decide +kernel)) (goodIn_sub (fun _ h => List.mem_cons_of_mem _ (List.mem_append_right _ h)) (by decide +kernel))
set_option maxRecDepth 20000 in
theorem gL_step_X7_plantIs : GoodIn wsL_step (wsV RL 74 RX7 yX7_plantIs wsX7_plantIs) := goodIn_app (goodIn_of _ (by decide +kernel)) ggL_step_X7_plantIs
set_option maxRecDepth 20000 in
theorem ggL_step_X7_haze : GoodIn wsL_step wsX7_haze := goodIn_ca (goodIn_r _ [285, 15, 286, 129, 130, 9, 131, 132, 133, 572, 573, 574, 575, 576, 577, 578, 579, 580, 581, 582, 583, 584, 585, 586, 587, 588, 589, 590] (by decide +kernel) (by decide +kernel)) (goodIn_sub (fun _ h => List.mem_cons_of_mem _ (List.mem_append_right _ h)) (by decide +kernel))
set_option maxRecDepth 20000 in
theorem gL_step_X7_haze : GoodIn wsL_step (wsV RL 77 RX7 yX7_haze wsX7_haze) := goodIn_app (goodIn_of _ (by decide +kernel)) ggL_step_X7_haze
set_option maxRecDepth 20000 in
theorem ggL_step_X7_clear : GoodIn wsL_step wsX7_clear := goodIn_r _ [290, 15, 291, 23, 24, 25, 26, 27, 28, 292, 293, 294, 295, 51, 52, 53, 572, 573, 574, 575, 576, 577, 578, 579, 580, 581, 582, 583, 584, 585, 586, 587, 588, 589, 590, 591, 592, 593] (by decide +kernel) (by decide +kernel)
set_option maxRecDepth 20000 in
theorem gL_step_X7_clear : GoodIn wsL_step (wsV RL 80 RX7 yX7_clear wsX7_clear) := goodIn_app (goodIn_of _ (by decide +kernel)) ggL_step_X7_clear
set_option maxRecDepth 20000 in
theorem ggL_step_L_cloud : GoodIn wsL_step wsL_cloud := goodIn_ca (goodIn_ca (goodIn_r _ [298, 5, 299, 300, 301, 9, 302, 13, 14, 15, 291, 303, 304, 168, 129, 130, 131, 132, 133, 23, 24, 25, 26, 27, 28, 305, 306, 307, 308, 41, 42, 171, 174, 176, 177, 172, 175, 309, 48, 49, 50, 51, 52, 53, 54, 55, 56, 57, 58, 59, 60, 61, 62, 63, 64, 65, 66, 67, 68, 69, 70, 71, 72, 73, 74, 75, 76, 77, 78, 79, 80, 81, 82, 83, 84, 85, 86, 87, 88, 89, 90, 91, 92, 93, 94, 95, 96, 97, 98, 99, 100, 572, 573, 574, 575, 576, 577, 578, 579, 580, 581, 582, 583, 584, 585, 586, 587, 588, 589, 590, 602, 603, 604, 605, 606, 607, 591, 592, 593] (by decide +kernel) (by decide +kernel)) (goodIn_sub (fun _ h => List.mem_cons_of_mem _ (List.mem_append_left _ (List.mem_append_right _ h))) (by decide +kernel))) (goodIn_sub (fun _ h => List.mem_cons_of_mem _ (List.mem_append_right _ h)) (by decide +kernel))
set_option maxRecDepth 20000 in
theorem gL_step_L_cloud : GoodIn wsL_step (va_wsS RL 83 yL_cloud wsL_cloud) := goodIn_app (goodIn_of _ (by decide +kernel)) ggL_step_L_cloud
set_option maxRecDepth 20000 in
theorem ggL_step_X7_bound : GoodIn wsL_step wsX7_bound := goodIn_ca (goodIn_ca (goodIn_r _ [313, 314, 315, 316, 9, 317, 11, 12, 129, 130, 131, 132, 133, 572, 573, 574, 575, 576, 577, 578, 579, 580, 581, 582, 583, 584, 585] (by decide +kernel) (by decide +kernel)) (goodIn_sub (fun _ h => List.mem_cons_of_mem _ (List.mem_append_left _ (List.mem_append_left _ (List.mem_append_right _ h)))) (by decide +kernel))) (goodIn_sub (fun _ h => List.mem_cons_of_mem _ (List.mem_append_right _ h)) (by decide +kernel))
set_option maxRecDepth 20000 in
theorem gL_step_X7_bound : GoodIn wsL_step (wsV RL 86 RX7 yX7_bound wsX7_bound) := goodIn_app (goodIn_of _ (by decide +kernel)) ggL_step_X7_bound
set_option maxRecDepth 20000 in
theorem ggL_step_X7_trace : GoodIn wsL_step wsX7_trace := goodIn_r _ [321, 209, 279, 572, 573, 574, 575, 576, 577, 578, 579, 580, 581, 582, 583, 584, 585, 608, 609, 610, 611] (by decide +kernel) (by decide +kernel)
set_option maxRecDepth 20000 in
theorem gL_step_X7_trace : GoodIn wsL_step (wsV RL 89 RX7 yX7_trace wsX7_trace) := goodIn_app (goodIn_of _ (by decide +kernel)) ggL_step_X7_trace
set_option maxRecDepth 20000 in
theorem ggL_step_X7_load : GoodIn wsL_step wsX7_load := goodIn_ca (goodIn_r _ [325, 227, 280, 228, 129, 130, 9, 131, 132, 133, 326, 327, 328, 232, 329, 234, 330, 572, 573, 574, 575, 576, 577, 578, 579, 580, 581, 582, 583, 584, 585, 612, 613, 614] (by decide +kernel) (by decide +kernel)) (goodIn_sub (fun _ h => List.mem_cons_of_mem _ (List.mem_append_right _ h)) (by decide +kernel))
set_option maxRecDepth 20000 in
theorem gL_step_X7_load : GoodIn wsL_step (wsV RL 93 RX7 yX7_load wsX7_load) := goodIn_app (goodIn_of _ (by decide +kernel)) ggL_step_X7_load
set_option maxRecDepth 20000 in
theorem ggL_step_X7_firm : GoodIn wsL_step wsX7_firm := goodIn_ca (goodIn_ca (goodIn_r _ [334, 335, 336, 337, 9, 338, 11, 12, 129, 130, 131, 132, 133, 572, 573, 574, 575, 576, 577, 578, 579, 580, 581, 582, 583, 584, 585] (by decide +kernel) (by decide +kernel)) (goodIn_sub (fun _ h => List.mem_cons_of_mem _ (List.mem_append_left _ (List.mem_append_left _ (List.mem_append_right _ h)))) (by decide +kernel))) (goodIn_sub (fun _ h => List.mem_cons_of_mem _ (List.mem_append_right _ h)) (by decide +kernel))
set_option maxRecDepth 20000 in
theorem gL_step_X7_firm : GoodIn wsL_step (wsV RL 96 RX7 yX7_firm wsX7_firm) := goodIn_app (goodIn_of _ (by decide +kernel)) ggL_step_X7_firm
set_option maxRecDepth 20000 in
theorem ggL_step_X7_price : GoodIn wsL_step wsX7_price := goodIn_ca (goodIn_ca (goodIn_r _ [342, 343, 336, 337, 9, 338, 11, 12, 129, 130, 131, 132, 133, 572, 573, 574, 575, 576, 577, 578, 579, 580, 581, 582, 583, 584, 585] (by decide +kernel) (by decide +kernel)) (goodIn_sub (fun _ h => List.mem_cons_of_mem _ (List.mem_append_left _ (List.mem_append_left _ (List.mem_append_right _ h)))) (by decide +kernel))) (goodIn_sub (fun _ h => List.mem_cons_of_mem _ (List.mem_append_right _ h)) (by decide +kernel))
set_option maxRecDepth 20000 in
theorem gL_step_X7_price : GoodIn wsL_step (wsV RL 99 RX7 yX7_price wsX7_price) := goodIn_app (goodIn_of _ (by decide +kernel)) ggL_step_X7_price
set_option maxRecDepth 20000 in
theorem ggL_step_L_isBest : GoodIn wsL_step wsL_isBest := goodIn_ca (goodIn_ca (goodIn_ca (goodIn_r _ [346, 347, 348, 349, 9, 350, 15, 351, 352, 315, 316, 317, 11, 12, 353, 354, 355, 20, 356, 33, 357, 358, 359, 360, 361, 362, 363, 364, 365, 101, 24, 25, 26, 27, 28, 164, 114, 115, 116, 117, 118, 119, 120, 121, 122, 123, 124, 125, 126, 127, 128, 53, 366, 367, 368, 369, 370, 36, 371, 43, 372, 200, 201, 202, 203, 204, 373, 374, 375, 376, 377, 154, 155, 156, 157, 158, 159, 160, 161, 162, 163, 165, 166, 167, 168, 169, 170, 171, 172, 173, 174, 175, 176, 177, 178, 179, 180, 181, 182, 183, 144, 145, 146, 147, 148, 184, 18, 19, 21, 22, 185, 186, 187, 188, 189, 190, 95, 69, 96, 191, 141, 142, 143, 192, 193, 194, 195, 45, 46, 196, 197, 198, 378, 379, 380, 381, 382, 383, 384, 385, 386, 387, 3, 388, 5, 389, 390, 391, 392, 393, 13, 14, 394, 314, 395, 396, 397, 398, 399, 132, 133, 16, 112, 106, 23, 400, 401, 402, 403, 404, 405, 406, 407, 113, 129, 130, 131, 408, 409, 410, 411, 412, 413, 414, 415, 416, 417, 418, 419, 199, 420, 421, 422, 423, 424, 425, 426, 427, 428, 429, 430, 431, 432, 433, 434, 435, 436, 437, 438, 439, 440, 441, 442, 443, 444, 445, 446, 447, 448, 449, 450, 451, 452, 453, 454, 455, 456, 457, 458, 459, 460, 461, 462, 246, 247, 248, 249, 250, 139, 107, 251, 108, 109, 110, 111, 252, 253, 254, 102, 103, 104, 105, 463, 464, 465, 466, 467, 468, 469, 470, 471, 68, 70, 472, 473, 474, 475, 476, 477, 478, 479, 480, 481, 482, 483, 484, 485, 486, 572, 573, 574, 575, 576, 577, 578, 579, 580, 581, 582, 583, 584, 585, 615, 616, 586, 587, 588, 589, 590, 594, 595, 596, 597, 598, 599, 600, 601, 591, 592, 593, 602, 603, 604, 605, 606, 607, 617, 618, 619, 620, 621, 622, 623] (by decide +kernel) (by decide +kernel)) (goodIn_sub (fun _ h => List.mem_cons_of_mem _ (List.mem_append_left _ (List.mem_append_left _ (List.mem_append_right _ h)))) (by decide +kernel))) (goodIn_sub (fun _ h => List.mem_cons_of_mem _ (List.mem_append_left _ (List.mem_append_right _ h))) (by decide +kernel))) (goodIn_sub (fun _ h => List.mem_cons_of_mem _ (List.mem_append_right _ h)) (by decide +kernel))
set_option maxRecDepth 20000 in
theorem gL_step_L_isBest : GoodIn wsL_step (va_wsS RL 102 yL_isBest wsL_isBest) := goodIn_app (goodIn_of _ (by decide +kernel)) ggL_step_L_isBest
set_option maxRecDepth 20000 in
theorem ggL_step_L_isForetold : GoodIn wsL_step wsL_isForetold := goodIn_ca (goodIn_ca (goodIn_ca (goodIn_r _ [489, 262, 263, 264, 9, 265, 15, 108, 109, 110, 111, 11, 12, 16, 112, 23, 24, 25, 26, 27, 28, 113, 114, 115, 116, 117, 118, 119, 120, 121, 122, 123, 124, 125, 126, 127, 128, 53, 129, 130, 131, 132, 133, 153, 154, 155, 20, 156, 157, 158, 159, 160, 161, 162, 163, 101, 164, 165, 166, 167, 168, 169, 170, 171, 172, 173, 174, 175, 176, 177, 178, 179, 180, 181, 182, 183, 144, 145, 146, 147, 148, 184, 18, 19, 21, 22, 185, 186, 187, 188, 189, 190, 95, 69, 96, 191, 141, 142, 143, 192, 193, 194, 36, 195, 45, 46, 196, 197, 198, 490, 491, 3, 492, 476, 477, 478, 479, 351, 314, 107, 353, 354, 355, 356, 33, 357, 358, 359, 360, 361, 362, 363, 364, 365, 366, 367, 368, 369, 370, 371, 43, 372, 200, 201, 202, 203, 204, 373, 374, 375, 376, 377, 378, 379, 380, 381, 382, 383, 384, 385, 480, 433, 434, 435, 419, 481, 482, 483, 484, 485, 486, 274, 275, 276, 277, 278, 240, 241, 209, 211, 210, 279, 227, 228, 280, 138, 281, 140, 493, 494, 495, 496, 497, 347, 348, 349, 350, 352, 315, 316, 317, 498, 499, 500, 501, 13, 14, 502, 503, 504, 505, 506, 507, 508, 509, 510, 511, 443, 444, 445, 512, 513, 514, 515, 516, 517, 518, 519, 520, 521, 522, 523, 524, 525, 260, 526, 527, 528, 215, 529, 217, 530, 531, 532, 533, 534, 535, 218, 536, 537, 538, 539, 540, 541, 68, 70, 542, 543, 544, 545, 546, 547, 548, 232, 549, 234, 235, 550, 551, 552, 553, 554, 330, 555, 556, 557, 558, 559, 560, 561, 562, 335, 343, 563, 564, 565, 566, 567, 568, 569, 570, 571, 572, 573, 574, 575, 576, 577, 578, 579, 580, 581, 582, 583, 584, 585, 586, 587, 588, 589, 590, 591, 592, 593, 594, 595, 596, 597, 598, 599, 600, 601, 602, 603, 604, 605, 606, 607, 615, 616, 608, 609, 610, 611, 612, 613, 614] (by decide +kernel) (by decide +kernel)) (goodIn_sub (fun _ h => List.mem_cons_of_mem _ (List.mem_append_left _ (List.mem_append_left _ (List.mem_append_right _ h)))) (by decide +kernel))) (goodIn_sub (fun _ h => List.mem_cons_of_mem _ (List.mem_append_right _ h)) (by decide +kernel))) (goodIn_sub (fun _ h => List.mem_cons_of_mem _ (List.mem_append_left _ (List.mem_append_right _ h))) (by decide +kernel))
set_option maxRecDepth 20000 in
theorem gL_step_L_isForetold : GoodIn wsL_step (va_wsS RL 106 yL_isForetold wsL_isForetold) := goodIn_app (goodIn_of _ (by decide +kernel)) ggL_step_L_isForetold
set_option maxRecDepth 20000 in
theorem ggL_step_L_goes : GoodIn wsL_step wsL_goes := goodIn_ca (goodIn_ca (goodIn_ca (goodIn_r _ [492, 476, 477, 478, 9, 479, 15, 351, 314, 16, 112, 107, 353, 354, 355, 20, 356, 33, 357, 358, 359, 360, 361, 362, 363, 364, 365, 101, 24, 25, 26, 27, 28, 164, 114, 115, 116, 117, 118, 119, 120, 121, 122, 123, 124, 125, 126, 127, 128, 53, 366, 367, 368, 369, 370, 36, 371, 43, 372, 200, 201, 202, 203, 204, 373, 374, 375, 376, 377, 154, 155, 156, 157, 158, 159, 160, 161, 162, 163, 165, 166, 167, 168, 169, 170, 171, 172, 173, 174, 175, 176, 177, 178, 179, 180, 181, 182, 183, 144, 145, 146, 147, 148, 184, 18, 19, 21, 22, 185, 186, 187, 188, 189, 190, 95, 69, 96, 191, 141, 142, 143, 192, 193, 194, 195, 45, 46, 196, 197, 198, 378, 379, 380, 381, 382, 383, 384, 385, 480, 433, 434, 435, 23, 113, 419, 481, 482, 483, 484, 485, 486, 274, 275, 276, 277, 132, 133, 278, 240, 241, 209, 211, 210, 279, 227, 228, 280, 138, 281, 140, 493, 494, 495, 496, 497, 129, 130, 131, 347, 348, 349, 350, 352, 315, 316, 317, 11, 12, 498, 499, 500, 501, 13, 14, 502, 503, 504, 505, 506, 507, 508, 509, 510, 511, 443, 444, 445, 512, 513, 514, 515, 516, 517, 518, 519, 520, 521, 522, 523, 524, 525, 260, 526, 527, 528, 215, 529, 217, 530, 531, 532, 533, 534, 535, 218, 536, 537, 538, 539, 540, 541, 68, 70, 542, 543, 544, 545, 546, 547, 548, 232, 549, 234, 235, 550, 551, 552, 553, 554, 330, 555, 556, 557, 558, 559, 560, 561, 562, 335, 343, 563, 564, 565, 566, 567, 568, 569, 570, 571, 572, 573, 574, 575, 576, 577, 578, 579, 580, 581, 582, 583, 584, 585, 586, 587, 588, 589, 590, 594, 595, 596, 597, 598, 599, 600, 601, 615, 616, 591, 592, 593, 602, 603, 604, 605, 606, 607, 608, 609, 610, 611, 612, 613, 614] (by decide +kernel) (by decide +kernel)) (goodIn_sub (fun _ h => List.mem_cons_of_mem _ (List.mem_append_right _ h)) (by decide +kernel))) (goodIn_sub (fun _ h => List.mem_cons_of_mem _ (List.mem_append_left _ (List.mem_append_left _ (List.mem_append_right _ h)))) (by decide +kernel))) (goodIn_sub (fun _ h => List.mem_cons_of_mem _ (List.mem_append_left _ (List.mem_append_right _ h))) (by decide +kernel))
set_option maxRecDepth 20000 in
theorem gL_step_L_goes : GoodIn wsL_step (va_wsS RL 109 yL_goes wsL_goes) := goodIn_app (goodIn_of _ (by decide +kernel)) ggL_step_L_goes
theorem dL_step_0 : decode cL_step 0 = .ok (.aload_n 1, 1) := by decide +kernel
theorem dL_step_1 : decode cL_step 1 = .ok (.iconst 0, 1) := by decide +kernel
theorem dL_step_2 : decode cL_step 2 = .ok (.iaload, 1) := by decide +kernel
theorem dL_step_3 : decode cL_step 3 = .ok (.ifCond .ne 7, 3) := by decide +kernel
theorem dL_step_6 : decode cL_step 6 = .ok (.iconst 0, 1) := by decide +kernel
theorem dL_step_7 : decode cL_step 7 = .ok (.goto 8, 3) := by decide +kernel
theorem dL_step_10 : decode cL_step 10 = .ok (.iload_n 3, 1) := by decide +kernel
theorem dL_step_11 : decode cL_step 11 = .ok (.aload_n 1, 1) := by decide +kernel
theorem dL_step_12 : decode cL_step 12 = .ok (.iconst 0, 1) := by decide +kernel
theorem dL_step_13 : decode cL_step 13 = .ok (.iaload, 1) := by decide +kernel
theorem dL_step_14 : decode cL_step 14 = .ok (.irem, 1) := by decide +kernel
theorem dL_step_15 : decode cL_step 15 = .ok (.istore 5, 2) := by decide +kernel
theorem dL_step_17 : decode cL_step 17 = .ok (.aload_n 1, 1) := by decide +kernel
theorem dL_step_18 : decode cL_step 18 = .ok (.iconst 0, 1) := by decide +kernel
theorem dL_step_19 : decode cL_step 19 = .ok (.iaload, 1) := by decide +kernel
theorem dL_step_20 : decode cL_step 20 = .ok (.ifCond .ne 7, 3) := by decide +kernel
theorem dL_step_23 : decode cL_step 23 = .ok (.iconst 0, 1) := by decide +kernel
theorem dL_step_24 : decode cL_step 24 = .ok (.goto 7, 3) := by decide +kernel
theorem dL_step_27 : decode cL_step 27 = .ok (.iload_n 2, 1) := by decide +kernel
theorem dL_step_28 : decode cL_step 28 = .ok (.bipush 30, 2) := by decide +kernel
theorem dL_step_30 : decode cL_step 30 = .ok (.irem, 1) := by decide +kernel
theorem dL_step_31 : decode cL_step 31 = .ok (.tableswitch 1567 0 25 #[117, 117, 268, 268, 268, 268, 371, 466, 546, 615, 716, 755, 755, 903, 939, 1043, 1043, 1170, 1245, 1245, 1319, 1378, 1458, 1542, 1542, 1552], 117) := by decide +kernel
theorem dL_step_148 : decode cL_step 148 = .ok (.iload_n 3, 1) := by decide +kernel
theorem dL_step_149 : decode cL_step 149 = .ok (.iconst 4, 1) := by decide +kernel
theorem dL_step_150 : decode cL_step 150 = .ok (.irem, 1) := by decide +kernel
theorem dL_step_151 : decode cL_step 151 = .ok (.ifCond .ne 12, 3) := by decide +kernel
theorem dL_step_154 : decode cL_step 154 = .ok (.iload_n 3, 1) := by decide +kernel
theorem dL_step_155 : decode cL_step 155 = .ok (.iconst 4, 1) := by decide +kernel
theorem dL_step_156 : decode cL_step 156 = .ok (.idiv, 1) := by decide +kernel
theorem dL_step_157 : decode cL_step 157 = .ok (.bipush 64, 2) := by decide +kernel
theorem dL_step_159 : decode cL_step 159 = .ok (.irem, 1) := by decide +kernel
theorem dL_step_160 : decode cL_step 160 = .ok (.goto 9, 3) := by decide +kernel
theorem dL_step_163 : decode cL_step 163 = .ok (.iload_n 3, 1) := by decide +kernel
theorem dL_step_164 : decode cL_step 164 = .ok (.iconst 4, 1) := by decide +kernel
theorem dL_step_165 : decode cL_step 165 = .ok (.idiv, 1) := by decide +kernel
theorem dL_step_166 : decode cL_step 166 = .ok (.bipush 24, 2) := by decide +kernel
theorem dL_step_168 : decode cL_step 168 = .ok (.irem, 1) := by decide +kernel
theorem dL_step_169 : decode cL_step 169 = .ok (.istore 6, 2) := by decide +kernel
theorem dL_step_171 : decode cL_step 171 = .ok (.aload_n 0, 1) := by decide +kernel
theorem dL_step_172 : decode cL_step 172 = .ok (.iload 6, 2) := by decide +kernel
theorem dL_step_174 : decode cL_step 174 = .ok (.iconst 0, 1) := by decide +kernel
theorem dL_step_175 : decode cL_step 175 = .ok (.iconst 0, 1) := by decide +kernel
theorem dL_step_176 : decode cL_step 176 = .ok (.invokestatic 51, 3) := by decide +kernel
theorem dL_step_179 : decode cL_step 179 = .ok (.istore 7, 2) := by decide +kernel
theorem dL_step_181 : decode cL_step 181 = .ok (.aload_n 1, 1) := by decide +kernel
theorem dL_step_182 : decode cL_step 182 = .ok (.iconst 0, 1) := by decide +kernel
theorem dL_step_183 : decode cL_step 183 = .ok (.dup2, 1) := by decide +kernel
theorem dL_step_184 : decode cL_step 184 = .ok (.iaload, 1) := by decide +kernel
theorem dL_step_185 : decode cL_step 185 = .ok (.iload 7, 2) := by decide +kernel
theorem dL_step_187 : decode cL_step 187 = .ok (.ifCond .ge 7, 3) := by decide +kernel
theorem dL_step_190 : decode cL_step 190 = .ok (.iconst 0, 1) := by decide +kernel
theorem dL_step_191 : decode cL_step 191 = .ok (.goto 4, 3) := by decide +kernel
theorem dL_step_194 : decode cL_step 194 = .ok (.iconst 1, 1) := by decide +kernel
theorem dL_step_195 : decode cL_step 195 = .ok (.iadd, 1) := by decide +kernel
theorem dL_step_196 : decode cL_step 196 = .ok (.iastore, 1) := by decide +kernel
theorem dL_step_197 : decode cL_step 197 = .ok (.iload 6, 2) := by decide +kernel
theorem dL_step_199 : decode cL_step 199 = .ok (.bipush 8, 2) := by decide +kernel
theorem dL_step_201 : decode cL_step 201 = .ok (.irem, 1) := by decide +kernel
theorem dL_step_202 : decode cL_step 202 = .ok (.iconst 3, 1) := by decide +kernel
theorem dL_step_203 : decode cL_step 203 = .ok (.isub, 1) := by decide +kernel
theorem dL_step_204 : decode cL_step 204 = .ok (.istore 8, 2) := by decide +kernel
theorem dL_step_206 : decode cL_step 206 = .ok (.iload 7, 2) := by decide +kernel
theorem dL_step_208 : decode cL_step 208 = .ok (.sipush (-200), 3) := by decide +kernel
theorem dL_step_211 : decode cL_step 211 = .ok (.if_icmp .ne 17, 3) := by decide +kernel
theorem dL_step_214 : decode cL_step 214 = .ok (.aload_n 1, 1) := by decide +kernel
theorem dL_step_215 : decode cL_step 215 = .ok (.iconst 0, 1) := by decide +kernel
theorem dL_step_216 : decode cL_step 216 = .ok (.iaload, 1) := by decide +kernel
theorem dL_step_217 : decode cL_step 217 = .ok (.ifCond .le 7, 3) := by decide +kernel
theorem dL_step_220 : decode cL_step 220 = .ok (.iconst 1, 1) := by decide +kernel
theorem dL_step_221 : decode cL_step 221 = .ok (.goto 77, 3) := by decide +kernel
theorem dL_step_224 : decode cL_step 224 = .ok (.iconst 0, 1) := by decide +kernel
theorem dL_step_225 : decode cL_step 225 = .ok (.goto 73, 3) := by decide +kernel
theorem dL_step_228 : decode cL_step 228 = .ok (.iload 7, 2) := by decide +kernel
theorem dL_step_230 : decode cL_step 230 = .ok (.aload_n 1, 1) := by decide +kernel
theorem dL_step_231 : decode cL_step 231 = .ok (.iconst 0, 1) := by decide +kernel
theorem dL_step_232 : decode cL_step 232 = .ok (.iaload, 1) := by decide +kernel
theorem dL_step_233 : decode cL_step 233 = .ok (.iconst 1, 1) := by decide +kernel
theorem dL_step_234 : decode cL_step 234 = .ok (.isub, 1) := by decide +kernel
theorem dL_step_235 : decode cL_step 235 = .ok (.if_icmp .ne 62, 3) := by decide +kernel
theorem dL_step_238 : decode cL_step 238 = .ok (.aload_n 0, 1) := by decide +kernel
theorem dL_step_239 : decode cL_step 239 = .ok (.iload 7, 2) := by decide +kernel
theorem dL_step_241 : decode cL_step 241 = .ok (.iconst 0, 1) := by decide +kernel
theorem dL_step_242 : decode cL_step 242 = .ok (.invokevirtual 57, 3) := by decide +kernel
theorem dL_step_245 : decode cL_step 245 = .ok (.iload 6, 2) := by decide +kernel
theorem dL_step_247 : decode cL_step 247 = .ok (.if_icmp .ne 50, 3) := by decide +kernel
theorem dL_step_250 : decode cL_step 250 = .ok (.aload_n 0, 1) := by decide +kernel
theorem dL_step_251 : decode cL_step 251 = .ok (.iload 7, 2) := by decide +kernel
theorem dL_step_253 : decode cL_step 253 = .ok (.iconst 2, 1) := by decide +kernel
theorem dL_step_254 : decode cL_step 254 = .ok (.invokevirtual 57, 3) := by decide +kernel
theorem dL_step_257 : decode cL_step 257 = .ok (.iconst (-1), 1) := by decide +kernel
theorem dL_step_258 : decode cL_step 258 = .ok (.if_icmp .ne 39, 3) := by decide +kernel
theorem dL_step_261 : decode cL_step 261 = .ok (.aload_n 0, 1) := by decide +kernel
theorem dL_step_262 : decode cL_step 262 = .ok (.iload 7, 2) := by decide +kernel
theorem dL_step_264 : decode cL_step 264 = .ok (.bipush 7, 2) := by decide +kernel
theorem dL_step_266 : decode cL_step 266 = .ok (.invokevirtual 57, 3) := by decide +kernel
theorem dL_step_269 : decode cL_step 269 = .ok (.iload 6, 2) := by decide +kernel
theorem dL_step_271 : decode cL_step 271 = .ok (.bipush 8, 2) := by decide +kernel
theorem dL_step_273 : decode cL_step 273 = .ok (.idiv, 1) := by decide +kernel
theorem dL_step_274 : decode cL_step 274 = .ok (.iconst 1, 1) := by decide +kernel
theorem dL_step_275 : decode cL_step 275 = .ok (.iadd, 1) := by decide +kernel
theorem dL_step_276 : decode cL_step 276 = .ok (.iload 8, 2) := by decide +kernel
theorem dL_step_278 : decode cL_step 278 = .ok (.ifCond .ge 9, 3) := by decide +kernel
theorem dL_step_281 : decode cL_step 281 = .ok (.iload 8, 2) := by decide +kernel
theorem dL_step_283 : decode cL_step 283 = .ok (.ineg, 1) := by decide +kernel
theorem dL_step_284 : decode cL_step 284 = .ok (.goto 5, 3) := by decide +kernel
theorem dL_step_287 : decode cL_step 287 = .ok (.iload 8, 2) := by decide +kernel
theorem dL_step_289 : decode cL_step 289 = .ok (.iadd, 1) := by decide +kernel
theorem dL_step_290 : decode cL_step 290 = .ok (.if_icmp .ne 7, 3) := by decide +kernel
theorem dL_step_293 : decode cL_step 293 = .ok (.iconst 1, 1) := by decide +kernel
theorem dL_step_294 : decode cL_step 294 = .ok (.goto 4, 3) := by decide +kernel
theorem dL_step_297 : decode cL_step 297 = .ok (.iconst 0, 1) := by decide +kernel
theorem dL_step_298 : decode cL_step 298 = .ok (.ireturn, 1) := by decide +kernel
theorem dL_step_299 : decode cL_step 299 = .ok (.aload_n 0, 1) := by decide +kernel
theorem dL_step_300 : decode cL_step 300 = .ok (.iload 5, 2) := by decide +kernel
theorem dL_step_302 : decode cL_step 302 = .ok (.iconst 2, 1) := by decide +kernel
theorem dL_step_303 : decode cL_step 303 = .ok (.invokevirtual 57, 3) := by decide +kernel
theorem dL_step_306 : decode cL_step 306 = .ok (.istore 9, 2) := by decide +kernel
theorem dL_step_308 : decode cL_step 308 = .ok (.iload 4, 2) := by decide +kernel
theorem dL_step_310 : decode cL_step 310 = .ok (.bipush 7, 2) := by decide +kernel
theorem dL_step_312 : decode cL_step 312 = .ok (.irem, 1) := by decide +kernel
theorem dL_step_313 : decode cL_step 313 = .ok (.iconst 1, 1) := by decide +kernel
theorem dL_step_314 : decode cL_step 314 = .ok (.isub, 1) := by decide +kernel
theorem dL_step_315 : decode cL_step 315 = .ok (.istore 10, 2) := by decide +kernel
theorem dL_step_317 : decode cL_step 317 = .ok (.aload_n 0, 1) := by decide +kernel
theorem dL_step_318 : decode cL_step 318 = .ok (.iload 5, 2) := by decide +kernel
theorem dL_step_320 : decode cL_step 320 = .ok (.iload 10, 2) := by decide +kernel
theorem dL_step_322 : decode cL_step 322 = .ok (.iconst 1, 1) := by decide +kernel
theorem dL_step_323 : decode cL_step 323 = .ok (.invokestatic 51, 3) := by decide +kernel
theorem dL_step_326 : decode cL_step 326 = .ok (.istore 11, 2) := by decide +kernel
theorem dL_step_328 : decode cL_step 328 = .ok (.iload 11, 2) := by decide +kernel
theorem dL_step_330 : decode cL_step 330 = .ok (.sipush (-200), 3) := by decide +kernel
theorem dL_step_333 : decode cL_step 333 = .ok (.if_icmp .ne 34, 3) := by decide +kernel
theorem dL_step_336 : decode cL_step 336 = .ok (.aload_n 0, 1) := by decide +kernel
theorem dL_step_337 : decode cL_step 337 = .ok (.iload 5, 2) := by decide +kernel
theorem dL_step_339 : decode cL_step 339 = .ok (.iconst 4, 1) := by decide +kernel
theorem dL_step_340 : decode cL_step 340 = .ok (.invokevirtual 57, 3) := by decide +kernel
theorem dL_step_343 : decode cL_step 343 = .ok (.iconst 1, 1) := by decide +kernel
theorem dL_step_344 : decode cL_step 344 = .ok (.if_icmp .ne 19, 3) := by decide +kernel
theorem dL_step_347 : decode cL_step 347 = .ok (.aload_n 0, 1) := by decide +kernel
theorem dL_step_348 : decode cL_step 348 = .ok (.iload 5, 2) := by decide +kernel
theorem dL_step_350 : decode cL_step 350 = .ok (.iconst 2, 1) := by decide +kernel
theorem dL_step_351 : decode cL_step 351 = .ok (.invokevirtual 57, 3) := by decide +kernel
theorem dL_step_354 : decode cL_step 354 = .ok (.iload 9, 2) := by decide +kernel
theorem dL_step_356 : decode cL_step 356 = .ok (.if_icmp .ne 7, 3) := by decide +kernel
theorem dL_step_359 : decode cL_step 359 = .ok (.iconst 1, 1) := by decide +kernel
theorem dL_step_360 : decode cL_step 360 = .ok (.goto 41, 3) := by decide +kernel
theorem dL_step_363 : decode cL_step 363 = .ok (.iconst 0, 1) := by decide +kernel
theorem dL_step_364 : decode cL_step 364 = .ok (.goto 37, 3) := by decide +kernel
theorem dL_step_367 : decode cL_step 367 = .ok (.iload 11, 2) := by decide +kernel
theorem dL_step_369 : decode cL_step 369 = .ok (.iload 9, 2) := by decide +kernel
theorem dL_step_371 : decode cL_step 371 = .ok (.if_icmp .ne 29, 3) := by decide +kernel
theorem dL_step_374 : decode cL_step 374 = .ok (.aload_n 0, 1) := by decide +kernel
theorem dL_step_375 : decode cL_step 375 = .ok (.iload 5, 2) := by decide +kernel
theorem dL_step_377 : decode cL_step 377 = .ok (.iconst 2, 1) := by decide +kernel
theorem dL_step_378 : decode cL_step 378 = .ok (.invokevirtual 57, 3) := by decide +kernel
theorem dL_step_381 : decode cL_step 381 = .ok (.iload 10, 2) := by decide +kernel
theorem dL_step_383 : decode cL_step 383 = .ok (.if_icmp .ne 17, 3) := by decide +kernel
theorem dL_step_386 : decode cL_step 386 = .ok (.aload_n 0, 1) := by decide +kernel
theorem dL_step_387 : decode cL_step 387 = .ok (.iload 5, 2) := by decide +kernel
theorem dL_step_389 : decode cL_step 389 = .ok (.iconst 4, 1) := by decide +kernel
theorem dL_step_390 : decode cL_step 390 = .ok (.invokevirtual 57, 3) := by decide +kernel
theorem dL_step_393 : decode cL_step 393 = .ok (.ifCond .ne 7, 3) := by decide +kernel
theorem dL_step_396 : decode cL_step 396 = .ok (.iconst 1, 1) := by decide +kernel
theorem dL_step_397 : decode cL_step 397 = .ok (.goto 4, 3) := by decide +kernel
theorem dL_step_400 : decode cL_step 400 = .ok (.iconst 0, 1) := by decide +kernel
theorem dL_step_401 : decode cL_step 401 = .ok (.ireturn, 1) := by decide +kernel
theorem dL_step_402 : decode cL_step 402 = .ok (.aload_n 0, 1) := by decide +kernel
theorem dL_step_403 : decode cL_step 403 = .ok (.iload 5, 2) := by decide +kernel
theorem dL_step_405 : decode cL_step 405 = .ok (.iload 4, 2) := by decide +kernel
theorem dL_step_407 : decode cL_step 407 = .ok (.bipush 13, 2) := by decide +kernel
theorem dL_step_409 : decode cL_step 409 = .ok (.irem, 1) := by decide +kernel
theorem dL_step_410 : decode cL_step 410 = .ok (.bipush 6, 2) := by decide +kernel
theorem dL_step_412 : decode cL_step 412 = .ok (.isub, 1) := by decide +kernel
theorem dL_step_413 : decode cL_step 413 = .ok (.invokevirtual 60, 3) := by decide +kernel
theorem dL_step_416 : decode cL_step 416 = .ok (.aload_n 0, 1) := by decide +kernel
theorem dL_step_417 : decode cL_step 417 = .ok (.iload 5, 2) := by decide +kernel
theorem dL_step_419 : decode cL_step 419 = .ok (.iconst 0, 1) := by decide +kernel
theorem dL_step_420 : decode cL_step 420 = .ok (.iconst 3, 1) := by decide +kernel
theorem dL_step_421 : decode cL_step 421 = .ok (.invokestatic 51, 3) := by decide +kernel
theorem dL_step_424 : decode cL_step 424 = .ok (.istore 12, 2) := by decide +kernel
theorem dL_step_426 : decode cL_step 426 = .ok (.iload 12, 2) := by decide +kernel
theorem dL_step_428 : decode cL_step 428 = .ok (.sipush (-200), 3) := by decide +kernel
theorem dL_step_431 : decode cL_step 431 = .ok (.if_icmp .ne 21, 3) := by decide +kernel
theorem dL_step_434 : decode cL_step 434 = .ok (.aload_n 0, 1) := by decide +kernel
theorem dL_step_435 : decode cL_step 435 = .ok (.iload 5, 2) := by decide +kernel
theorem dL_step_437 : decode cL_step 437 = .ok (.iconst 0, 1) := by decide +kernel
theorem dL_step_438 : decode cL_step 438 = .ok (.invokevirtual 64, 3) := by decide +kernel
theorem dL_step_441 : decode cL_step 441 = .ok (.ifCond .ne 7, 3) := by decide +kernel
theorem dL_step_444 : decode cL_step 444 = .ok (.iconst 1, 1) := by decide +kernel
theorem dL_step_445 : decode cL_step 445 = .ok (.goto 51, 3) := by decide +kernel
theorem dL_step_448 : decode cL_step 448 = .ok (.iconst 0, 1) := by decide +kernel
theorem dL_step_449 : decode cL_step 449 = .ok (.goto 47, 3) := by decide +kernel
theorem dL_step_452 : decode cL_step 452 = .ok (.aload_n 0, 1) := by decide +kernel
theorem dL_step_453 : decode cL_step 453 = .ok (.iload 5, 2) := by decide +kernel
theorem dL_step_455 : decode cL_step 455 = .ok (.iconst 0, 1) := by decide +kernel
theorem dL_step_456 : decode cL_step 456 = .ok (.invokevirtual 64, 3) := by decide +kernel
theorem dL_step_459 : decode cL_step 459 = .ok (.ifCond .le 36, 3) := by decide +kernel
theorem dL_step_462 : decode cL_step 462 = .ok (.iload 12, 2) := by decide +kernel
theorem dL_step_464 : decode cL_step 464 = .ok (.aload_n 0, 1) := by decide +kernel
theorem dL_step_465 : decode cL_step 465 = .ok (.iload 5, 2) := by decide +kernel
theorem dL_step_467 : decode cL_step 467 = .ok (.iconst 3, 1) := by decide +kernel
theorem dL_step_468 : decode cL_step 468 = .ok (.invokevirtual 57, 3) := by decide +kernel
theorem dL_step_471 : decode cL_step 471 = .ok (.iadd, 1) := by decide +kernel
theorem dL_step_472 : decode cL_step 472 = .ok (.bipush (-3), 2) := by decide +kernel
theorem dL_step_474 : decode cL_step 474 = .ok (.if_icmp .lt 21, 3) := by decide +kernel
theorem dL_step_477 : decode cL_step 477 = .ok (.iload 12, 2) := by decide +kernel
theorem dL_step_479 : decode cL_step 479 = .ok (.aload_n 0, 1) := by decide +kernel
theorem dL_step_480 : decode cL_step 480 = .ok (.iload 5, 2) := by decide +kernel
theorem dL_step_482 : decode cL_step 482 = .ok (.iconst 3, 1) := by decide +kernel
theorem dL_step_483 : decode cL_step 483 = .ok (.invokevirtual 57, 3) := by decide +kernel
theorem dL_step_486 : decode cL_step 486 = .ok (.iadd, 1) := by decide +kernel
theorem dL_step_487 : decode cL_step 487 = .ok (.iconst 3, 1) := by decide +kernel
theorem dL_step_488 : decode cL_step 488 = .ok (.if_icmp .gt 7, 3) := by decide +kernel
theorem dL_step_491 : decode cL_step 491 = .ok (.iconst 1, 1) := by decide +kernel
theorem dL_step_492 : decode cL_step 492 = .ok (.goto 4, 3) := by decide +kernel
theorem dL_step_495 : decode cL_step 495 = .ok (.iconst 0, 1) := by decide +kernel
theorem dL_step_496 : decode cL_step 496 = .ok (.ireturn, 1) := by decide +kernel
theorem dL_step_497 : decode cL_step 497 = .ok (.aload_n 0, 1) := by decide +kernel
theorem dL_step_498 : decode cL_step 498 = .ok (.iload 5, 2) := by decide +kernel
theorem dL_step_500 : decode cL_step 500 = .ok (.iconst 0, 1) := by decide +kernel
theorem dL_step_501 : decode cL_step 501 = .ok (.iconst 3, 1) := by decide +kernel
theorem dL_step_502 : decode cL_step 502 = .ok (.invokestatic 51, 3) := by decide +kernel
theorem dL_step_505 : decode cL_step 505 = .ok (.istore 13, 2) := by decide +kernel
theorem dL_step_507 : decode cL_step 507 = .ok (.aload_n 0, 1) := by decide +kernel
theorem dL_step_508 : decode cL_step 508 = .ok (.iload 5, 2) := by decide +kernel
theorem dL_step_510 : decode cL_step 510 = .ok (.iload 4, 2) := by decide +kernel
theorem dL_step_512 : decode cL_step 512 = .ok (.bipush 7, 2) := by decide +kernel
theorem dL_step_514 : decode cL_step 514 = .ok (.irem, 1) := by decide +kernel
theorem dL_step_515 : decode cL_step 515 = .ok (.iconst 3, 1) := by decide +kernel
theorem dL_step_516 : decode cL_step 516 = .ok (.isub, 1) := by decide +kernel
theorem dL_step_517 : decode cL_step 517 = .ok (.invokevirtual 67, 3) := by decide +kernel
theorem dL_step_520 : decode cL_step 520 = .ok (.istore 14, 2) := by decide +kernel
theorem dL_step_522 : decode cL_step 522 = .ok (.aload_n 0, 1) := by decide +kernel
theorem dL_step_523 : decode cL_step 523 = .ok (.iload 5, 2) := by decide +kernel
theorem dL_step_525 : decode cL_step 525 = .ok (.iconst 3, 1) := by decide +kernel
theorem dL_step_526 : decode cL_step 526 = .ok (.invokevirtual 57, 3) := by decide +kernel
theorem dL_step_529 : decode cL_step 529 = .ok (.iload 4, 2) := by decide +kernel
theorem dL_step_531 : decode cL_step 531 = .ok (.bipush 7, 2) := by decide +kernel
theorem dL_step_533 : decode cL_step 533 = .ok (.irem, 1) := by decide +kernel
theorem dL_step_534 : decode cL_step 534 = .ok (.iconst 3, 1) := by decide +kernel
theorem dL_step_535 : decode cL_step 535 = .ok (.isub, 1) := by decide +kernel
theorem dL_step_536 : decode cL_step 536 = .ok (.if_icmp .ne 39, 3) := by decide +kernel
theorem dL_step_539 : decode cL_step 539 = .ok (.iload 13, 2) := by decide +kernel
theorem dL_step_541 : decode cL_step 541 = .ok (.sipush (-200), 3) := by decide +kernel
theorem dL_step_544 : decode cL_step 544 = .ok (.if_icmp .eq 27, 3) := by decide +kernel
theorem dL_step_547 : decode cL_step 547 = .ok (.aload_n 0, 1) := by decide +kernel
theorem dL_step_548 : decode cL_step 548 = .ok (.iload 5, 2) := by decide +kernel
theorem dL_step_550 : decode cL_step 550 = .ok (.iconst 0, 1) := by decide +kernel
theorem dL_step_551 : decode cL_step 551 = .ok (.iconst 3, 1) := by decide +kernel
theorem dL_step_552 : decode cL_step 552 = .ok (.invokestatic 51, 3) := by decide +kernel
theorem dL_step_555 : decode cL_step 555 = .ok (.iload 13, 2) := by decide +kernel
theorem dL_step_557 : decode cL_step 557 = .ok (.iload 14, 2) := by decide +kernel
theorem dL_step_559 : decode cL_step 559 = .ok (.iadd, 1) := by decide +kernel
theorem dL_step_560 : decode cL_step 560 = .ok (.iload 4, 2) := by decide +kernel
theorem dL_step_562 : decode cL_step 562 = .ok (.bipush 7, 2) := by decide +kernel
theorem dL_step_564 : decode cL_step 564 = .ok (.irem, 1) := by decide +kernel
theorem dL_step_565 : decode cL_step 565 = .ok (.isub, 1) := by decide +kernel
theorem dL_step_566 : decode cL_step 566 = .ok (.iconst 3, 1) := by decide +kernel
theorem dL_step_567 : decode cL_step 567 = .ok (.iadd, 1) := by decide +kernel
theorem dL_step_568 : decode cL_step 568 = .ok (.if_icmp .ne 7, 3) := by decide +kernel
theorem dL_step_571 : decode cL_step 571 = .ok (.iconst 1, 1) := by decide +kernel
theorem dL_step_572 : decode cL_step 572 = .ok (.goto 4, 3) := by decide +kernel
theorem dL_step_575 : decode cL_step 575 = .ok (.iconst 0, 1) := by decide +kernel
theorem dL_step_576 : decode cL_step 576 = .ok (.ireturn, 1) := by decide +kernel
theorem dL_step_577 : decode cL_step 577 = .ok (.aload_n 0, 1) := by decide +kernel
theorem dL_step_578 : decode cL_step 578 = .ok (.iload 5, 2) := by decide +kernel
theorem dL_step_580 : decode cL_step 580 = .ok (.iconst 4, 1) := by decide +kernel
theorem dL_step_581 : decode cL_step 581 = .ok (.invokevirtual 57, 3) := by decide +kernel
theorem dL_step_584 : decode cL_step 584 = .ok (.iconst 1, 1) := by decide +kernel
theorem dL_step_585 : decode cL_step 585 = .ok (.if_icmp .ne 7, 3) := by decide +kernel
theorem dL_step_588 : decode cL_step 588 = .ok (.iconst 1, 1) := by decide +kernel
theorem dL_step_589 : decode cL_step 589 = .ok (.goto 4, 3) := by decide +kernel
theorem dL_step_592 : decode cL_step 592 = .ok (.iconst 0, 1) := by decide +kernel
theorem dL_step_593 : decode cL_step 593 = .ok (.istore 15, 2) := by decide +kernel
theorem dL_step_595 : decode cL_step 595 = .ok (.aload_n 0, 1) := by decide +kernel
theorem dL_step_596 : decode cL_step 596 = .ok (.iload 5, 2) := by decide +kernel
theorem dL_step_598 : decode cL_step 598 = .ok (.iload 4, 2) := by decide +kernel
theorem dL_step_600 : decode cL_step 600 = .ok (.iconst 3, 1) := by decide +kernel
theorem dL_step_601 : decode cL_step 601 = .ok (.irem, 1) := by decide +kernel
theorem dL_step_602 : decode cL_step 602 = .ok (.ifCond .ne 7, 3) := by decide +kernel
theorem dL_step_605 : decode cL_step 605 = .ok (.iconst 1, 1) := by decide +kernel
theorem dL_step_606 : decode cL_step 606 = .ok (.goto 4, 3) := by decide +kernel
theorem dL_step_609 : decode cL_step 609 = .ok (.iconst 0, 1) := by decide +kernel
theorem dL_step_610 : decode cL_step 610 = .ok (.invokevirtual 70, 3) := by decide +kernel
theorem dL_step_613 : decode cL_step 613 = .ok (.iload 15, 2) := by decide +kernel
theorem dL_step_615 : decode cL_step 615 = .ok (.if_icmp .ne 29, 3) := by decide +kernel
theorem dL_step_618 : decode cL_step 618 = .ok (.aload_n 0, 1) := by decide +kernel
theorem dL_step_619 : decode cL_step 619 = .ok (.iload 5, 2) := by decide +kernel
theorem dL_step_621 : decode cL_step 621 = .ok (.iconst 4, 1) := by decide +kernel
theorem dL_step_622 : decode cL_step 622 = .ok (.invokevirtual 57, 3) := by decide +kernel
theorem dL_step_625 : decode cL_step 625 = .ok (.iload 4, 2) := by decide +kernel
theorem dL_step_627 : decode cL_step 627 = .ok (.iconst 3, 1) := by decide +kernel
theorem dL_step_628 : decode cL_step 628 = .ok (.irem, 1) := by decide +kernel
theorem dL_step_629 : decode cL_step 629 = .ok (.ifCond .ne 7, 3) := by decide +kernel
theorem dL_step_632 : decode cL_step 632 = .ok (.iconst 1, 1) := by decide +kernel
theorem dL_step_633 : decode cL_step 633 = .ok (.goto 4, 3) := by decide +kernel
theorem dL_step_636 : decode cL_step 636 = .ok (.iconst 0, 1) := by decide +kernel
theorem dL_step_637 : decode cL_step 637 = .ok (.if_icmp .ne 7, 3) := by decide +kernel
theorem dL_step_640 : decode cL_step 640 = .ok (.iconst 1, 1) := by decide +kernel
theorem dL_step_641 : decode cL_step 641 = .ok (.goto 4, 3) := by decide +kernel
theorem dL_step_644 : decode cL_step 644 = .ok (.iconst 0, 1) := by decide +kernel
theorem dL_step_645 : decode cL_step 645 = .ok (.ireturn, 1) := by decide +kernel
theorem dL_step_646 : decode cL_step 646 = .ok (.aload_n 0, 1) := by decide +kernel
theorem dL_step_647 : decode cL_step 647 = .ok (.iload 5, 2) := by decide +kernel
theorem dL_step_649 : decode cL_step 649 = .ok (.iconst 1, 1) := by decide +kernel
theorem dL_step_650 : decode cL_step 650 = .ok (.invokevirtual 57, 3) := by decide +kernel
theorem dL_step_653 : decode cL_step 653 = .ok (.istore 16, 2) := by decide +kernel
theorem dL_step_655 : decode cL_step 655 = .ok (.aload_n 0, 1) := by decide +kernel
theorem dL_step_656 : decode cL_step 656 = .ok (.bipush 9, 2) := by decide +kernel
theorem dL_step_658 : decode cL_step 658 = .ok (.invokevirtual 74, 3) := by decide +kernel
theorem dL_step_661 : decode cL_step 661 = .ok (.istore 17, 2) := by decide +kernel
theorem dL_step_663 : decode cL_step 663 = .ok (.aload_n 0, 1) := by decide +kernel
theorem dL_step_664 : decode cL_step 664 = .ok (.iload 5, 2) := by decide +kernel
theorem dL_step_666 : decode cL_step 666 = .ok (.iconst 0, 1) := by decide +kernel
theorem dL_step_667 : decode cL_step 667 = .ok (.iconst 2, 1) := by decide +kernel
theorem dL_step_668 : decode cL_step 668 = .ok (.invokestatic 51, 3) := by decide +kernel
theorem dL_step_671 : decode cL_step 671 = .ok (.istore 18, 2) := by decide +kernel
theorem dL_step_673 : decode cL_step 673 = .ok (.iload 18, 2) := by decide +kernel
theorem dL_step_675 : decode cL_step 675 = .ok (.sipush (-200), 3) := by decide +kernel
theorem dL_step_678 : decode cL_step 678 = .ok (.if_icmp .ne 25, 3) := by decide +kernel
theorem dL_step_681 : decode cL_step 681 = .ok (.aload_n 0, 1) := by decide +kernel
theorem dL_step_682 : decode cL_step 682 = .ok (.iconst 1, 1) := by decide +kernel
theorem dL_step_683 : decode cL_step 683 = .ok (.invokevirtual 74, 3) := by decide +kernel
theorem dL_step_686 : decode cL_step 686 = .ok (.ifCond .gt 9, 3) := by decide +kernel
theorem dL_step_689 : decode cL_step 689 = .ok (.iload 17, 2) := by decide +kernel
theorem dL_step_691 : decode cL_step 691 = .ok (.iconst 3, 1) := by decide +kernel
theorem dL_step_692 : decode cL_step 692 = .ok (.if_icmp .ge 7, 3) := by decide +kernel
theorem dL_step_695 : decode cL_step 695 = .ok (.iconst 1, 1) := by decide +kernel
theorem dL_step_696 : decode cL_step 696 = .ok (.goto 50, 3) := by decide +kernel
theorem dL_step_699 : decode cL_step 699 = .ok (.iconst 0, 1) := by decide +kernel
theorem dL_step_700 : decode cL_step 700 = .ok (.goto 46, 3) := by decide +kernel
theorem dL_step_703 : decode cL_step 703 = .ok (.iload 18, 2) := by decide +kernel
theorem dL_step_705 : decode cL_step 705 = .ok (.iload 16, 2) := by decide +kernel
theorem dL_step_707 : decode cL_step 707 = .ok (.if_icmp .ne 38, 3) := by decide +kernel
theorem dL_step_710 : decode cL_step 710 = .ok (.aload_n 0, 1) := by decide +kernel
theorem dL_step_711 : decode cL_step 711 = .ok (.iload 5, 2) := by decide +kernel
theorem dL_step_713 : decode cL_step 713 = .ok (.iconst 1, 1) := by decide +kernel
theorem dL_step_714 : decode cL_step 714 = .ok (.invokevirtual 57, 3) := by decide +kernel
theorem dL_step_717 : decode cL_step 717 = .ok (.ifCond .ne 28, 3) := by decide +kernel
theorem dL_step_720 : decode cL_step 720 = .ok (.aload_n 0, 1) := by decide +kernel
theorem dL_step_721 : decode cL_step 721 = .ok (.bipush 9, 2) := by decide +kernel
theorem dL_step_723 : decode cL_step 723 = .ok (.invokevirtual 74, 3) := by decide +kernel
theorem dL_step_726 : decode cL_step 726 = .ok (.iload 17, 2) := by decide +kernel
theorem dL_step_728 : decode cL_step 728 = .ok (.iconst 3, 1) := by decide +kernel
theorem dL_step_729 : decode cL_step 729 = .ok (.isub, 1) := by decide +kernel
theorem dL_step_730 : decode cL_step 730 = .ok (.if_icmp .ne 15, 3) := by decide +kernel
theorem dL_step_733 : decode cL_step 733 = .ok (.aload_n 0, 1) := by decide +kernel
theorem dL_step_734 : decode cL_step 734 = .ok (.iconst 1, 1) := by decide +kernel
theorem dL_step_735 : decode cL_step 735 = .ok (.invokevirtual 74, 3) := by decide +kernel
theorem dL_step_738 : decode cL_step 738 = .ok (.ifCond .ne 7, 3) := by decide +kernel
theorem dL_step_741 : decode cL_step 741 = .ok (.iconst 1, 1) := by decide +kernel
theorem dL_step_742 : decode cL_step 742 = .ok (.goto 4, 3) := by decide +kernel
theorem dL_step_745 : decode cL_step 745 = .ok (.iconst 0, 1) := by decide +kernel
theorem dL_step_746 : decode cL_step 746 = .ok (.ireturn, 1) := by decide +kernel
theorem dL_step_747 : decode cL_step 747 = .ok (.aload_n 0, 1) := by decide +kernel
theorem dL_step_748 : decode cL_step 748 = .ok (.iload 4, 2) := by decide +kernel
theorem dL_step_750 : decode cL_step 750 = .ok (.bipush 10, 2) := by decide +kernel
theorem dL_step_752 : decode cL_step 752 = .ok (.irem, 1) := by decide +kernel
theorem dL_step_753 : decode cL_step 753 = .ok (.invokevirtual 77, 3) := by decide +kernel
theorem dL_step_756 : decode cL_step 756 = .ok (.ifCond .lt 28, 3) := by decide +kernel
theorem dL_step_759 : decode cL_step 759 = .ok (.aload_n 0, 1) := by decide +kernel
theorem dL_step_760 : decode cL_step 760 = .ok (.iload 5, 2) := by decide +kernel
theorem dL_step_762 : decode cL_step 762 = .ok (.iconst 0, 1) := by decide +kernel
theorem dL_step_763 : decode cL_step 763 = .ok (.invokevirtual 64, 3) := by decide +kernel
theorem dL_step_766 : decode cL_step 766 = .ok (.bipush 100, 2) := by decide +kernel
theorem dL_step_768 : decode cL_step 768 = .ok (.bipush 10, 2) := by decide +kernel
theorem dL_step_770 : decode cL_step 770 = .ok (.iload 4, 2) := by decide +kernel
theorem dL_step_772 : decode cL_step 772 = .ok (.bipush 10, 2) := by decide +kernel
theorem dL_step_774 : decode cL_step 774 = .ok (.irem, 1) := by decide +kernel
theorem dL_step_775 : decode cL_step 775 = .ok (.isub, 1) := by decide +kernel
theorem dL_step_776 : decode cL_step 776 = .ok (.imul, 1) := by decide +kernel
theorem dL_step_777 : decode cL_step 777 = .ok (.if_icmp .gt 7, 3) := by decide +kernel
theorem dL_step_780 : decode cL_step 780 = .ok (.iconst 1, 1) := by decide +kernel
theorem dL_step_781 : decode cL_step 781 = .ok (.goto 4, 3) := by decide +kernel
theorem dL_step_784 : decode cL_step 784 = .ok (.iconst 0, 1) := by decide +kernel
theorem dL_step_785 : decode cL_step 785 = .ok (.ireturn, 1) := by decide +kernel
theorem dL_step_786 : decode cL_step 786 = .ok (.iload 4, 2) := by decide +kernel
theorem dL_step_788 : decode cL_step 788 = .ok (.iconst 5, 1) := by decide +kernel
theorem dL_step_789 : decode cL_step 789 = .ok (.irem, 1) := by decide +kernel
theorem dL_step_790 : decode cL_step 790 = .ok (.ifCond .ne 37, 3) := by decide +kernel
theorem dL_step_793 : decode cL_step 793 = .ok (.aload_n 1, 1) := by decide +kernel
theorem dL_step_794 : decode cL_step 794 = .ok (.iconst 3, 1) := by decide +kernel
theorem dL_step_795 : decode cL_step 795 = .ok (.iaload, 1) := by decide +kernel
theorem dL_step_796 : decode cL_step 796 = .ok (.istore 19, 2) := by decide +kernel
theorem dL_step_798 : decode cL_step 798 = .ok (.aload_n 1, 1) := by decide +kernel
theorem dL_step_799 : decode cL_step 799 = .ok (.iconst 3, 1) := by decide +kernel
theorem dL_step_800 : decode cL_step 800 = .ok (.iconst 0, 1) := by decide +kernel
theorem dL_step_801 : decode cL_step 801 = .ok (.iastore, 1) := by decide +kernel
theorem dL_step_802 : decode cL_step 802 = .ok (.aload_n 0, 1) := by decide +kernel
theorem dL_step_803 : decode cL_step 803 = .ok (.invokevirtual 80, 3) := by decide +kernel
theorem dL_step_806 : decode cL_step 806 = .ok (.iload 19, 2) := by decide +kernel
theorem dL_step_808 : decode cL_step 808 = .ok (.if_icmp .ne 17, 3) := by decide +kernel
theorem dL_step_811 : decode cL_step 811 = .ok (.aload_n 0, 1) := by decide +kernel
theorem dL_step_812 : decode cL_step 812 = .ok (.iload 5, 2) := by decide +kernel
theorem dL_step_814 : decode cL_step 814 = .ok (.iconst 5, 1) := by decide +kernel
theorem dL_step_815 : decode cL_step 815 = .ok (.invokevirtual 57, 3) := by decide +kernel
theorem dL_step_818 : decode cL_step 818 = .ok (.ifCond .ne 7, 3) := by decide +kernel
theorem dL_step_821 : decode cL_step 821 = .ok (.iconst 1, 1) := by decide +kernel
theorem dL_step_822 : decode cL_step 822 = .ok (.goto 4, 3) := by decide +kernel
theorem dL_step_825 : decode cL_step 825 = .ok (.iconst 0, 1) := by decide +kernel
theorem dL_step_826 : decode cL_step 826 = .ok (.ireturn, 1) := by decide +kernel
theorem dL_step_827 : decode cL_step 827 = .ok (.aload_n 0, 1) := by decide +kernel
theorem dL_step_828 : decode cL_step 828 = .ok (.iload 4, 2) := by decide +kernel
theorem dL_step_830 : decode cL_step 830 = .ok (.bipush 14, 2) := by decide +kernel
theorem dL_step_832 : decode cL_step 832 = .ok (.irem, 1) := by decide +kernel
theorem dL_step_833 : decode cL_step 833 = .ok (.iconst 5, 1) := by decide +kernel
theorem dL_step_834 : decode cL_step 834 = .ok (.isub, 1) := by decide +kernel
theorem dL_step_835 : decode cL_step 835 = .ok (.iload 4, 2) := by decide +kernel
theorem dL_step_837 : decode cL_step 837 = .ok (.bipush 16, 2) := by decide +kernel
theorem dL_step_839 : decode cL_step 839 = .ok (.idiv, 1) := by decide +kernel
theorem dL_step_840 : decode cL_step 840 = .ok (.bipush 14, 2) := by decide +kernel
theorem dL_step_842 : decode cL_step 842 = .ok (.irem, 1) := by decide +kernel
theorem dL_step_843 : decode cL_step 843 = .ok (.iconst 5, 1) := by decide +kernel
theorem dL_step_844 : decode cL_step 844 = .ok (.isub, 1) := by decide +kernel
theorem dL_step_845 : decode cL_step 845 = .ok (.iconst 1, 1) := by decide +kernel
theorem dL_step_846 : decode cL_step 846 = .ok (.iload 4, 2) := by decide +kernel
theorem dL_step_848 : decode cL_step 848 = .ok (.sipush 256, 3) := by decide +kernel
theorem dL_step_851 : decode cL_step 851 = .ok (.idiv, 1) := by decide +kernel
theorem dL_step_852 : decode cL_step 852 = .ok (.bipush 8, 2) := by decide +kernel
theorem dL_step_854 : decode cL_step 854 = .ok (.irem, 1) := by decide +kernel
theorem dL_step_855 : decode cL_step 855 = .ok (.iadd, 1) := by decide +kernel
theorem dL_step_856 : decode cL_step 856 = .ok (.iload 4, 2) := by decide +kernel
theorem dL_step_858 : decode cL_step 858 = .ok (.sipush 2048, 3) := by decide +kernel
theorem dL_step_861 : decode cL_step 861 = .ok (.idiv, 1) := by decide +kernel
theorem dL_step_862 : decode cL_step 862 = .ok (.iconst 3, 1) := by decide +kernel
theorem dL_step_863 : decode cL_step 863 = .ok (.irem, 1) := by decide +kernel
theorem dL_step_864 : decode cL_step 864 = .ok (.iconst 1, 1) := by decide +kernel
theorem dL_step_865 : decode cL_step 865 = .ok (.isub, 1) := by decide +kernel
theorem dL_step_866 : decode cL_step 866 = .ok (.iload 4, 2) := by decide +kernel
theorem dL_step_868 : decode cL_step 868 = .ok (.sipush 8192, 3) := by decide +kernel
theorem dL_step_871 : decode cL_step 871 = .ok (.idiv, 1) := by decide +kernel
theorem dL_step_872 : decode cL_step 872 = .ok (.iconst 3, 1) := by decide +kernel
theorem dL_step_873 : decode cL_step 873 = .ok (.irem, 1) := by decide +kernel
theorem dL_step_874 : decode cL_step 874 = .ok (.iconst 1, 1) := by decide +kernel
theorem dL_step_875 : decode cL_step 875 = .ok (.isub, 1) := by decide +kernel
theorem dL_step_876 : decode cL_step 876 = .ok (.invokestatic 83, 3) := by decide +kernel
theorem dL_step_879 : decode cL_step 879 = .ok (.istore 19, 2) := by decide +kernel
theorem dL_step_881 : decode cL_step 881 = .ok (.aload_n 1, 1) := by decide +kernel
theorem dL_step_882 : decode cL_step 882 = .ok (.iconst 3, 1) := by decide +kernel
theorem dL_step_883 : decode cL_step 883 = .ok (.dup2, 1) := by decide +kernel
theorem dL_step_884 : decode cL_step 884 = .ok (.iaload, 1) := by decide +kernel
theorem dL_step_885 : decode cL_step 885 = .ok (.iload 19, 2) := by decide +kernel
theorem dL_step_887 : decode cL_step 887 = .ok (.ifCond .ge 7, 3) := by decide +kernel
theorem dL_step_890 : decode cL_step 890 = .ok (.iconst 0, 1) := by decide +kernel
theorem dL_step_891 : decode cL_step 891 = .ok (.goto 4, 3) := by decide +kernel
theorem dL_step_894 : decode cL_step 894 = .ok (.iconst 1, 1) := by decide +kernel
theorem dL_step_895 : decode cL_step 895 = .ok (.iadd, 1) := by decide +kernel
theorem dL_step_896 : decode cL_step 896 = .ok (.iastore, 1) := by decide +kernel
theorem dL_step_897 : decode cL_step 897 = .ok (.iload 19, 2) := by decide +kernel
theorem dL_step_899 : decode cL_step 899 = .ok (.sipush (-200), 3) := by decide +kernel
theorem dL_step_902 : decode cL_step 902 = .ok (.if_icmp .ne 18, 3) := by decide +kernel
theorem dL_step_905 : decode cL_step 905 = .ok (.aload_n 1, 1) := by decide +kernel
theorem dL_step_906 : decode cL_step 906 = .ok (.iconst 3, 1) := by decide +kernel
theorem dL_step_907 : decode cL_step 907 = .ok (.iaload, 1) := by decide +kernel
theorem dL_step_908 : decode cL_step 908 = .ok (.iconst 4, 1) := by decide +kernel
theorem dL_step_909 : decode cL_step 909 = .ok (.if_icmp .ne 7, 3) := by decide +kernel
theorem dL_step_912 : decode cL_step 912 = .ok (.iconst 1, 1) := by decide +kernel
theorem dL_step_913 : decode cL_step 913 = .ok (.goto 20, 3) := by decide +kernel
theorem dL_step_916 : decode cL_step 916 = .ok (.iconst 0, 1) := by decide +kernel
theorem dL_step_917 : decode cL_step 917 = .ok (.goto 16, 3) := by decide +kernel
theorem dL_step_920 : decode cL_step 920 = .ok (.iload 19, 2) := by decide +kernel
theorem dL_step_922 : decode cL_step 922 = .ok (.aload_n 1, 1) := by decide +kernel
theorem dL_step_923 : decode cL_step 923 = .ok (.iconst 3, 1) := by decide +kernel
theorem dL_step_924 : decode cL_step 924 = .ok (.iaload, 1) := by decide +kernel
theorem dL_step_925 : decode cL_step 925 = .ok (.if_icmp .ne 7, 3) := by decide +kernel
theorem dL_step_928 : decode cL_step 928 = .ok (.iconst 1, 1) := by decide +kernel
theorem dL_step_929 : decode cL_step 929 = .ok (.goto 4, 3) := by decide +kernel
theorem dL_step_932 : decode cL_step 932 = .ok (.iconst 0, 1) := by decide +kernel
theorem dL_step_933 : decode cL_step 933 = .ok (.ireturn, 1) := by decide +kernel
theorem dL_step_934 : decode cL_step 934 = .ok (.aload_n 0, 1) := by decide +kernel
theorem dL_step_935 : decode cL_step 935 = .ok (.iload_n 3, 1) := by decide +kernel
theorem dL_step_936 : decode cL_step 936 = .ok (.bipush 6, 2) := by decide +kernel
theorem dL_step_938 : decode cL_step 938 = .ok (.irem, 1) := by decide +kernel
theorem dL_step_939 : decode cL_step 939 = .ok (.iload 4, 2) := by decide +kernel
theorem dL_step_941 : decode cL_step 941 = .ok (.iconst 3, 1) := by decide +kernel
theorem dL_step_942 : decode cL_step 942 = .ok (.irem, 1) := by decide +kernel
theorem dL_step_943 : decode cL_step 943 = .ok (.ifCond .ne 9, 3) := by decide +kernel
theorem dL_step_946 : decode cL_step 946 = .ok (.sipush 9999, 3) := by decide +kernel
theorem dL_step_949 : decode cL_step 949 = .ok (.goto 9, 3) := by decide +kernel
theorem dL_step_952 : decode cL_step 952 = .ok (.iload 4, 2) := by decide +kernel
theorem dL_step_954 : decode cL_step 954 = .ok (.sipush 4000, 3) := by decide +kernel
theorem dL_step_957 : decode cL_step 957 = .ok (.irem, 1) := by decide +kernel
theorem dL_step_958 : decode cL_step 958 = .ok (.invokevirtual 86, 3) := by decide +kernel
theorem dL_step_961 : decode cL_step 961 = .ok (.ifCond .lt 7, 3) := by decide +kernel
theorem dL_step_964 : decode cL_step 964 = .ok (.iconst 1, 1) := by decide +kernel
theorem dL_step_965 : decode cL_step 965 = .ok (.goto 4, 3) := by decide +kernel
theorem dL_step_968 : decode cL_step 968 = .ok (.iconst 0, 1) := by decide +kernel
theorem dL_step_969 : decode cL_step 969 = .ok (.ireturn, 1) := by decide +kernel
theorem dL_step_970 : decode cL_step 970 = .ok (.iconst 1, 1) := by decide +kernel
theorem dL_step_971 : decode cL_step 971 = .ok (.iload 4, 2) := by decide +kernel
theorem dL_step_973 : decode cL_step 973 = .ok (.iload 4, 2) := by decide +kernel
theorem dL_step_975 : decode cL_step 975 = .ok (.bipush 8, 2) := by decide +kernel
theorem dL_step_977 : decode cL_step 977 = .ok (.irem, 1) := by decide +kernel
theorem dL_step_978 : decode cL_step 978 = .ok (.ifCond .ne 9, 3) := by decide +kernel
theorem dL_step_981 : decode cL_step 981 = .ok (.sipush 500, 3) := by decide +kernel
theorem dL_step_984 : decode cL_step 984 = .ok (.goto 5, 3) := by decide +kernel
theorem dL_step_987 : decode cL_step 987 = .ok (.bipush 50, 2) := by decide +kernel
theorem dL_step_989 : decode cL_step 989 = .ok (.irem, 1) := by decide +kernel
theorem dL_step_990 : decode cL_step 990 = .ok (.iadd, 1) := by decide +kernel
theorem dL_step_991 : decode cL_step 991 = .ok (.istore 20, 2) := by decide +kernel
theorem dL_step_993 : decode cL_step 993 = .ok (.aload_n 0, 1) := by decide +kernel
theorem dL_step_994 : decode cL_step 994 = .ok (.iload 20, 2) := by decide +kernel
theorem dL_step_996 : decode cL_step 996 = .ok (.iconst 0, 1) := by decide +kernel
theorem dL_step_997 : decode cL_step 997 = .ok (.bipush 6, 2) := by decide +kernel
theorem dL_step_999 : decode cL_step 999 = .ok (.invokestatic 51, 3) := by decide +kernel
theorem dL_step_1002 : decode cL_step 1002 = .ok (.istore 21, 2) := by decide +kernel
theorem dL_step_1004 : decode cL_step 1004 = .ok (.aload_n 1, 1) := by decide +kernel
theorem dL_step_1005 : decode cL_step 1005 = .ok (.iconst 2, 1) := by decide +kernel
theorem dL_step_1006 : decode cL_step 1006 = .ok (.dup2, 1) := by decide +kernel
theorem dL_step_1007 : decode cL_step 1007 = .ok (.iaload, 1) := by decide +kernel
theorem dL_step_1008 : decode cL_step 1008 = .ok (.iload 21, 2) := by decide +kernel
theorem dL_step_1010 : decode cL_step 1010 = .ok (.ifCond .ge 7, 3) := by decide +kernel
theorem dL_step_1013 : decode cL_step 1013 = .ok (.iconst 0, 1) := by decide +kernel
theorem dL_step_1014 : decode cL_step 1014 = .ok (.goto 5, 3) := by decide +kernel
theorem dL_step_1017 : decode cL_step 1017 = .ok (.iload 20, 2) := by decide +kernel
theorem dL_step_1019 : decode cL_step 1019 = .ok (.iadd, 1) := by decide +kernel
theorem dL_step_1020 : decode cL_step 1020 = .ok (.iastore, 1) := by decide +kernel
theorem dL_step_1021 : decode cL_step 1021 = .ok (.iload 21, 2) := by decide +kernel
theorem dL_step_1023 : decode cL_step 1023 = .ok (.sipush (-200), 3) := by decide +kernel
theorem dL_step_1026 : decode cL_step 1026 = .ok (.if_icmp .ne 23, 3) := by decide +kernel
theorem dL_step_1029 : decode cL_step 1029 = .ok (.aload_n 1, 1) := by decide +kernel
theorem dL_step_1030 : decode cL_step 1030 = .ok (.iconst 2, 1) := by decide +kernel
theorem dL_step_1031 : decode cL_step 1031 = .ok (.iaload, 1) := by decide +kernel
theorem dL_step_1032 : decode cL_step 1032 = .ok (.iload 20, 2) := by decide +kernel
theorem dL_step_1034 : decode cL_step 1034 = .ok (.iadd, 1) := by decide +kernel
theorem dL_step_1035 : decode cL_step 1035 = .ok (.sipush 900, 3) := by decide +kernel
theorem dL_step_1038 : decode cL_step 1038 = .ok (.if_icmp .le 7, 3) := by decide +kernel
theorem dL_step_1041 : decode cL_step 1041 = .ok (.iconst 1, 1) := by decide +kernel
theorem dL_step_1042 : decode cL_step 1042 = .ok (.goto 31, 3) := by decide +kernel
theorem dL_step_1045 : decode cL_step 1045 = .ok (.iconst 0, 1) := by decide +kernel
theorem dL_step_1046 : decode cL_step 1046 = .ok (.goto 27, 3) := by decide +kernel
theorem dL_step_1049 : decode cL_step 1049 = .ok (.iload 21, 2) := by decide +kernel
theorem dL_step_1051 : decode cL_step 1051 = .ok (.aload_n 0, 1) := by decide +kernel
theorem dL_step_1052 : decode cL_step 1052 = .ok (.iconst 2, 1) := by decide +kernel
theorem dL_step_1053 : decode cL_step 1053 = .ok (.invokevirtual 74, 3) := by decide +kernel
theorem dL_step_1056 : decode cL_step 1056 = .ok (.if_icmp .ne 16, 3) := by decide +kernel
theorem dL_step_1059 : decode cL_step 1059 = .ok (.aload_n 1, 1) := by decide +kernel
theorem dL_step_1060 : decode cL_step 1060 = .ok (.iconst 2, 1) := by decide +kernel
theorem dL_step_1061 : decode cL_step 1061 = .ok (.iaload, 1) := by decide +kernel
theorem dL_step_1062 : decode cL_step 1062 = .ok (.sipush 900, 3) := by decide +kernel
theorem dL_step_1065 : decode cL_step 1065 = .ok (.if_icmp .gt 7, 3) := by decide +kernel
theorem dL_step_1068 : decode cL_step 1068 = .ok (.iconst 1, 1) := by decide +kernel
theorem dL_step_1069 : decode cL_step 1069 = .ok (.goto 4, 3) := by decide +kernel
theorem dL_step_1072 : decode cL_step 1072 = .ok (.iconst 0, 1) := by decide +kernel
theorem dL_step_1073 : decode cL_step 1073 = .ok (.ireturn, 1) := by decide +kernel
theorem dL_step_1074 : decode cL_step 1074 = .ok (.aload_n 0, 1) := by decide +kernel
theorem dL_step_1075 : decode cL_step 1075 = .ok (.iconst 5, 1) := by decide +kernel
theorem dL_step_1076 : decode cL_step 1076 = .ok (.invokevirtual 74, 3) := by decide +kernel
theorem dL_step_1079 : decode cL_step 1079 = .ok (.istore 22, 2) := by decide +kernel
theorem dL_step_1081 : decode cL_step 1081 = .ok (.iload 4, 2) := by decide +kernel
theorem dL_step_1083 : decode cL_step 1083 = .ok (.iconst 3, 1) := by decide +kernel
theorem dL_step_1084 : decode cL_step 1084 = .ok (.irem, 1) := by decide +kernel
theorem dL_step_1085 : decode cL_step 1085 = .ok (.ifCond .le 7, 3) := by decide +kernel
theorem dL_step_1088 : decode cL_step 1088 = .ok (.iconst 1, 1) := by decide +kernel
theorem dL_step_1089 : decode cL_step 1089 = .ok (.goto 4, 3) := by decide +kernel
theorem dL_step_1092 : decode cL_step 1092 = .ok (.iconst 0, 1) := by decide +kernel
theorem dL_step_1093 : decode cL_step 1093 = .ok (.istore 23, 2) := by decide +kernel
theorem dL_step_1095 : decode cL_step 1095 = .ok (.aload_n 0, 1) := by decide +kernel
theorem dL_step_1096 : decode cL_step 1096 = .ok (.iload 23, 2) := by decide +kernel
theorem dL_step_1098 : decode cL_step 1098 = .ok (.ifCond .eq 7, 3) := by decide +kernel
theorem dL_step_1101 : decode cL_step 1101 = .ok (.iconst 1, 1) := by decide +kernel
theorem dL_step_1102 : decode cL_step 1102 = .ok (.goto 4, 3) := by decide +kernel
theorem dL_step_1105 : decode cL_step 1105 = .ok (.iconst 0, 1) := by decide +kernel
theorem dL_step_1106 : decode cL_step 1106 = .ok (.iconst 0, 1) := by decide +kernel
theorem dL_step_1107 : decode cL_step 1107 = .ok (.iconst 4, 1) := by decide +kernel
theorem dL_step_1108 : decode cL_step 1108 = .ok (.invokestatic 51, 3) := by decide +kernel
theorem dL_step_1111 : decode cL_step 1111 = .ok (.istore 24, 2) := by decide +kernel
theorem dL_step_1113 : decode cL_step 1113 = .ok (.iload 24, 2) := by decide +kernel
theorem dL_step_1115 : decode cL_step 1115 = .ok (.sipush (-200), 3) := by decide +kernel
theorem dL_step_1118 : decode cL_step 1118 = .ok (.if_icmp .ne 33, 3) := by decide +kernel
theorem dL_step_1121 : decode cL_step 1121 = .ok (.iload 22, 2) := by decide +kernel
theorem dL_step_1123 : decode cL_step 1123 = .ok (.iconst 2, 1) := by decide +kernel
theorem dL_step_1124 : decode cL_step 1124 = .ok (.if_icmp .eq 19, 3) := by decide +kernel
theorem dL_step_1127 : decode cL_step 1127 = .ok (.iload 23, 2) := by decide +kernel
theorem dL_step_1129 : decode cL_step 1129 = .ok (.iload 22, 2) := by decide +kernel
theorem dL_step_1131 : decode cL_step 1131 = .ok (.iconst 1, 1) := by decide +kernel
theorem dL_step_1132 : decode cL_step 1132 = .ok (.if_icmp .ne 7, 3) := by decide +kernel
theorem dL_step_1135 : decode cL_step 1135 = .ok (.iconst 1, 1) := by decide +kernel
theorem dL_step_1136 : decode cL_step 1136 = .ok (.goto 4, 3) := by decide +kernel
theorem dL_step_1139 : decode cL_step 1139 = .ok (.iconst 0, 1) := by decide +kernel
theorem dL_step_1140 : decode cL_step 1140 = .ok (.if_icmp .ne 7, 3) := by decide +kernel
theorem dL_step_1143 : decode cL_step 1143 = .ok (.iconst 1, 1) := by decide +kernel
theorem dL_step_1144 : decode cL_step 1144 = .ok (.goto 56, 3) := by decide +kernel
theorem dL_step_1147 : decode cL_step 1147 = .ok (.iconst 0, 1) := by decide +kernel
theorem dL_step_1148 : decode cL_step 1148 = .ok (.goto 52, 3) := by decide +kernel
theorem dL_step_1151 : decode cL_step 1151 = .ok (.iload 24, 2) := by decide +kernel
theorem dL_step_1153 : decode cL_step 1153 = .ok (.iload 23, 2) := by decide +kernel
theorem dL_step_1155 : decode cL_step 1155 = .ok (.ifCond .eq 8, 3) := by decide +kernel
theorem dL_step_1158 : decode cL_step 1158 = .ok (.bipush 30, 2) := by decide +kernel
theorem dL_step_1160 : decode cL_step 1160 = .ok (.goto 4, 3) := by decide +kernel
theorem dL_step_1163 : decode cL_step 1163 = .ok (.iconst 0, 1) := by decide +kernel
theorem dL_step_1164 : decode cL_step 1164 = .ok (.if_icmp .ne 35, 3) := by decide +kernel
theorem dL_step_1167 : decode cL_step 1167 = .ok (.aload_n 0, 1) := by decide +kernel
theorem dL_step_1168 : decode cL_step 1168 = .ok (.iconst 5, 1) := by decide +kernel
theorem dL_step_1169 : decode cL_step 1169 = .ok (.invokevirtual 74, 3) := by decide +kernel
theorem dL_step_1172 : decode cL_step 1172 = .ok (.iload 23, 2) := by decide +kernel
theorem dL_step_1174 : decode cL_step 1174 = .ok (.ifCond .eq 7, 3) := by decide +kernel
theorem dL_step_1177 : decode cL_step 1177 = .ok (.iconst 1, 1) := by decide +kernel
theorem dL_step_1178 : decode cL_step 1178 = .ok (.goto 4, 3) := by decide +kernel
theorem dL_step_1181 : decode cL_step 1181 = .ok (.iconst 0, 1) := by decide +kernel
theorem dL_step_1182 : decode cL_step 1182 = .ok (.if_icmp .ne 17, 3) := by decide +kernel
theorem dL_step_1185 : decode cL_step 1185 = .ok (.aload_n 0, 1) := by decide +kernel
theorem dL_step_1186 : decode cL_step 1186 = .ok (.iconst 4, 1) := by decide +kernel
theorem dL_step_1187 : decode cL_step 1187 = .ok (.invokevirtual 74, 3) := by decide +kernel
theorem dL_step_1190 : decode cL_step 1190 = .ok (.iload 24, 2) := by decide +kernel
theorem dL_step_1192 : decode cL_step 1192 = .ok (.if_icmp .ne 7, 3) := by decide +kernel
theorem dL_step_1195 : decode cL_step 1195 = .ok (.iconst 1, 1) := by decide +kernel
theorem dL_step_1196 : decode cL_step 1196 = .ok (.goto 4, 3) := by decide +kernel
theorem dL_step_1199 : decode cL_step 1199 = .ok (.iconst 0, 1) := by decide +kernel
theorem dL_step_1200 : decode cL_step 1200 = .ok (.ireturn, 1) := by decide +kernel
theorem dL_step_1201 : decode cL_step 1201 = .ok (.aload_n 0, 1) := by decide +kernel
theorem dL_step_1202 : decode cL_step 1202 = .ok (.iload 4, 2) := by decide +kernel
theorem dL_step_1204 : decode cL_step 1204 = .ok (.iconst 2, 1) := by decide +kernel
theorem dL_step_1205 : decode cL_step 1205 = .ok (.irem, 1) := by decide +kernel
theorem dL_step_1206 : decode cL_step 1206 = .ok (.ifCond .ne 7, 3) := by decide +kernel
theorem dL_step_1209 : decode cL_step 1209 = .ok (.iconst 1, 1) := by decide +kernel
theorem dL_step_1210 : decode cL_step 1210 = .ok (.goto 4, 3) := by decide +kernel
theorem dL_step_1213 : decode cL_step 1213 = .ok (.iconst 0, 1) := by decide +kernel
theorem dL_step_1214 : decode cL_step 1214 = .ok (.invokevirtual 89, 3) := by decide +kernel
theorem dL_step_1217 : decode cL_step 1217 = .ok (.ifCond .eq 32, 3) := by decide +kernel
theorem dL_step_1220 : decode cL_step 1220 = .ok (.aload_n 0, 1) := by decide +kernel
theorem dL_step_1221 : decode cL_step 1221 = .ok (.bipush 6, 2) := by decide +kernel
theorem dL_step_1223 : decode cL_step 1223 = .ok (.invokevirtual 74, 3) := by decide +kernel
theorem dL_step_1226 : decode cL_step 1226 = .ok (.iload 4, 2) := by decide +kernel
theorem dL_step_1228 : decode cL_step 1228 = .ok (.iconst 2, 1) := by decide +kernel
theorem dL_step_1229 : decode cL_step 1229 = .ok (.irem, 1) := by decide +kernel
theorem dL_step_1230 : decode cL_step 1230 = .ok (.ifCond .ne 7, 3) := by decide +kernel
theorem dL_step_1233 : decode cL_step 1233 = .ok (.iconst 1, 1) := by decide +kernel
theorem dL_step_1234 : decode cL_step 1234 = .ok (.goto 4, 3) := by decide +kernel
theorem dL_step_1237 : decode cL_step 1237 = .ok (.iconst 0, 1) := by decide +kernel
theorem dL_step_1238 : decode cL_step 1238 = .ok (.if_icmp .ne 7, 3) := by decide +kernel
theorem dL_step_1241 : decode cL_step 1241 = .ok (.iconst 1, 1) := by decide +kernel
theorem dL_step_1242 : decode cL_step 1242 = .ok (.goto 33, 3) := by decide +kernel
theorem dL_step_1245 : decode cL_step 1245 = .ok (.iconst 0, 1) := by decide +kernel
theorem dL_step_1246 : decode cL_step 1246 = .ok (.goto 29, 3) := by decide +kernel
theorem dL_step_1249 : decode cL_step 1249 = .ok (.aload_n 0, 1) := by decide +kernel
theorem dL_step_1250 : decode cL_step 1250 = .ok (.bipush 6, 2) := by decide +kernel
theorem dL_step_1252 : decode cL_step 1252 = .ok (.invokevirtual 74, 3) := by decide +kernel
theorem dL_step_1255 : decode cL_step 1255 = .ok (.iload 4, 2) := by decide +kernel
theorem dL_step_1257 : decode cL_step 1257 = .ok (.iconst 2, 1) := by decide +kernel
theorem dL_step_1258 : decode cL_step 1258 = .ok (.irem, 1) := by decide +kernel
theorem dL_step_1259 : decode cL_step 1259 = .ok (.ifCond .ne 7, 3) := by decide +kernel
theorem dL_step_1262 : decode cL_step 1262 = .ok (.iconst 1, 1) := by decide +kernel
theorem dL_step_1263 : decode cL_step 1263 = .ok (.goto 4, 3) := by decide +kernel
theorem dL_step_1266 : decode cL_step 1266 = .ok (.iconst 0, 1) := by decide +kernel
theorem dL_step_1267 : decode cL_step 1267 = .ok (.if_icmp .ne 7, 3) := by decide +kernel
theorem dL_step_1270 : decode cL_step 1270 = .ok (.iconst 1, 1) := by decide +kernel
theorem dL_step_1271 : decode cL_step 1271 = .ok (.goto 4, 3) := by decide +kernel
theorem dL_step_1274 : decode cL_step 1274 = .ok (.iconst 0, 1) := by decide +kernel
theorem dL_step_1275 : decode cL_step 1275 = .ok (.ireturn, 1) := by decide +kernel
theorem dL_step_1276 : decode cL_step 1276 = .ok (.aload_n 0, 1) := by decide +kernel
theorem dL_step_1277 : decode cL_step 1277 = .ok (.bipush 7, 2) := by decide +kernel
theorem dL_step_1279 : decode cL_step 1279 = .ok (.invokevirtual 74, 3) := by decide +kernel
theorem dL_step_1282 : decode cL_step 1282 = .ok (.istore 25, 2) := by decide +kernel
theorem dL_step_1284 : decode cL_step 1284 = .ok (.aload_n 0, 1) := by decide +kernel
theorem dL_step_1285 : decode cL_step 1285 = .ok (.bipush 8, 2) := by decide +kernel
theorem dL_step_1287 : decode cL_step 1287 = .ok (.invokevirtual 74, 3) := by decide +kernel
theorem dL_step_1290 : decode cL_step 1290 = .ok (.istore 26, 2) := by decide +kernel
theorem dL_step_1292 : decode cL_step 1292 = .ok (.aload_n 0, 1) := by decide +kernel
theorem dL_step_1293 : decode cL_step 1293 = .ok (.iconst 1, 1) := by decide +kernel
theorem dL_step_1294 : decode cL_step 1294 = .ok (.iload 4, 2) := by decide +kernel
theorem dL_step_1296 : decode cL_step 1296 = .ok (.bipush 20, 2) := by decide +kernel
theorem dL_step_1298 : decode cL_step 1298 = .ok (.irem, 1) := by decide +kernel
theorem dL_step_1299 : decode cL_step 1299 = .ok (.iadd, 1) := by decide +kernel
theorem dL_step_1300 : decode cL_step 1300 = .ok (.invokevirtual 93, 3) := by decide +kernel
theorem dL_step_1303 : decode cL_step 1303 = .ok (.iload 26, 2) := by decide +kernel
theorem dL_step_1305 : decode cL_step 1305 = .ok (.if_icmp .ne 43, 3) := by decide +kernel
theorem dL_step_1308 : decode cL_step 1308 = .ok (.aload_n 0, 1) := by decide +kernel
theorem dL_step_1309 : decode cL_step 1309 = .ok (.bipush 8, 2) := by decide +kernel
theorem dL_step_1311 : decode cL_step 1311 = .ok (.invokevirtual 74, 3) := by decide +kernel
theorem dL_step_1314 : decode cL_step 1314 = .ok (.iconst 1, 1) := by decide +kernel
theorem dL_step_1315 : decode cL_step 1315 = .ok (.iload 4, 2) := by decide +kernel
theorem dL_step_1317 : decode cL_step 1317 = .ok (.bipush 20, 2) := by decide +kernel
theorem dL_step_1319 : decode cL_step 1319 = .ok (.irem, 1) := by decide +kernel
theorem dL_step_1320 : decode cL_step 1320 = .ok (.iadd, 1) := by decide +kernel
theorem dL_step_1321 : decode cL_step 1321 = .ok (.if_icmp .ne 27, 3) := by decide +kernel
theorem dL_step_1324 : decode cL_step 1324 = .ok (.aload_n 0, 1) := by decide +kernel
theorem dL_step_1325 : decode cL_step 1325 = .ok (.bipush 7, 2) := by decide +kernel
theorem dL_step_1327 : decode cL_step 1327 = .ok (.invokevirtual 74, 3) := by decide +kernel
theorem dL_step_1330 : decode cL_step 1330 = .ok (.iload 25, 2) := by decide +kernel
theorem dL_step_1332 : decode cL_step 1332 = .ok (.ifCond .ne 7, 3) := by decide +kernel
theorem dL_step_1335 : decode cL_step 1335 = .ok (.iconst 1, 1) := by decide +kernel
theorem dL_step_1336 : decode cL_step 1336 = .ok (.goto 5, 3) := by decide +kernel
theorem dL_step_1339 : decode cL_step 1339 = .ok (.iload 25, 2) := by decide +kernel
theorem dL_step_1341 : decode cL_step 1341 = .ok (.if_icmp .ne 7, 3) := by decide +kernel
theorem dL_step_1344 : decode cL_step 1344 = .ok (.iconst 1, 1) := by decide +kernel
theorem dL_step_1345 : decode cL_step 1345 = .ok (.goto 4, 3) := by decide +kernel
theorem dL_step_1348 : decode cL_step 1348 = .ok (.iconst 0, 1) := by decide +kernel
theorem dL_step_1349 : decode cL_step 1349 = .ok (.ireturn, 1) := by decide +kernel
theorem dL_step_1350 : decode cL_step 1350 = .ok (.aload_n 0, 1) := by decide +kernel
theorem dL_step_1351 : decode cL_step 1351 = .ok (.bipush 7, 2) := by decide +kernel
theorem dL_step_1353 : decode cL_step 1353 = .ok (.invokevirtual 74, 3) := by decide +kernel
theorem dL_step_1356 : decode cL_step 1356 = .ok (.istore 27, 2) := by decide +kernel
theorem dL_step_1358 : decode cL_step 1358 = .ok (.aload_n 0, 1) := by decide +kernel
theorem dL_step_1359 : decode cL_step 1359 = .ok (.iconst 0, 1) := by decide +kernel
theorem dL_step_1360 : decode cL_step 1360 = .ok (.iconst 0, 1) := by decide +kernel
theorem dL_step_1361 : decode cL_step 1361 = .ok (.iconst 5, 1) := by decide +kernel
theorem dL_step_1362 : decode cL_step 1362 = .ok (.invokestatic 51, 3) := by decide +kernel
theorem dL_step_1365 : decode cL_step 1365 = .ok (.istore 28, 2) := by decide +kernel
theorem dL_step_1367 : decode cL_step 1367 = .ok (.iload 28, 2) := by decide +kernel
theorem dL_step_1369 : decode cL_step 1369 = .ok (.iload 27, 2) := by decide +kernel
theorem dL_step_1371 : decode cL_step 1371 = .ok (.ifCond .ne 9, 3) := by decide +kernel
theorem dL_step_1374 : decode cL_step 1374 = .ok (.sipush (-200), 3) := by decide +kernel
theorem dL_step_1377 : decode cL_step 1377 = .ok (.goto 5, 3) := by decide +kernel
theorem dL_step_1380 : decode cL_step 1380 = .ok (.iload 27, 2) := by decide +kernel
theorem dL_step_1382 : decode cL_step 1382 = .ok (.if_icmp .ne 25, 3) := by decide +kernel
theorem dL_step_1385 : decode cL_step 1385 = .ok (.aload_n 0, 1) := by decide +kernel
theorem dL_step_1386 : decode cL_step 1386 = .ok (.bipush 7, 2) := by decide +kernel
theorem dL_step_1388 : decode cL_step 1388 = .ok (.invokevirtual 74, 3) := by decide +kernel
theorem dL_step_1391 : decode cL_step 1391 = .ok (.ifCond .ne 16, 3) := by decide +kernel
theorem dL_step_1394 : decode cL_step 1394 = .ok (.aload_n 0, 1) := by decide +kernel
theorem dL_step_1395 : decode cL_step 1395 = .ok (.bipush 8, 2) := by decide +kernel
theorem dL_step_1397 : decode cL_step 1397 = .ok (.invokevirtual 74, 3) := by decide +kernel
theorem dL_step_1400 : decode cL_step 1400 = .ok (.ifCond .ne 7, 3) := by decide +kernel
theorem dL_step_1403 : decode cL_step 1403 = .ok (.iconst 1, 1) := by decide +kernel
theorem dL_step_1404 : decode cL_step 1404 = .ok (.goto 4, 3) := by decide +kernel
theorem dL_step_1407 : decode cL_step 1407 = .ok (.iconst 0, 1) := by decide +kernel
theorem dL_step_1408 : decode cL_step 1408 = .ok (.ireturn, 1) := by decide +kernel
theorem dL_step_1409 : decode cL_step 1409 = .ok (.aload_n 0, 1) := by decide +kernel
theorem dL_step_1410 : decode cL_step 1410 = .ok (.bipush 9, 2) := by decide +kernel
theorem dL_step_1412 : decode cL_step 1412 = .ok (.invokevirtual 74, 3) := by decide +kernel
theorem dL_step_1415 : decode cL_step 1415 = .ok (.istore 29, 2) := by decide +kernel
theorem dL_step_1417 : decode cL_step 1417 = .ok (.aload_n 0, 1) := by decide +kernel
theorem dL_step_1418 : decode cL_step 1418 = .ok (.iconst 1, 1) := by decide +kernel
theorem dL_step_1419 : decode cL_step 1419 = .ok (.iload 4, 2) := by decide +kernel
theorem dL_step_1421 : decode cL_step 1421 = .ok (.sipush 200, 3) := by decide +kernel
theorem dL_step_1424 : decode cL_step 1424 = .ok (.irem, 1) := by decide +kernel
theorem dL_step_1425 : decode cL_step 1425 = .ok (.iadd, 1) := by decide +kernel
theorem dL_step_1426 : decode cL_step 1426 = .ok (.iconst 0, 1) := by decide +kernel
theorem dL_step_1427 : decode cL_step 1427 = .ok (.bipush 7, 2) := by decide +kernel
theorem dL_step_1429 : decode cL_step 1429 = .ok (.invokestatic 51, 3) := by decide +kernel
theorem dL_step_1432 : decode cL_step 1432 = .ok (.istore 30, 2) := by decide +kernel
theorem dL_step_1434 : decode cL_step 1434 = .ok (.iload 30, 2) := by decide +kernel
theorem dL_step_1436 : decode cL_step 1436 = .ok (.sipush (-200), 3) := by decide +kernel
theorem dL_step_1439 : decode cL_step 1439 = .ok (.if_icmp .ne 28, 3) := by decide +kernel
theorem dL_step_1442 : decode cL_step 1442 = .ok (.iload 29, 2) := by decide +kernel
theorem dL_step_1444 : decode cL_step 1444 = .ok (.iconst 1, 1) := by decide +kernel
theorem dL_step_1445 : decode cL_step 1445 = .ok (.iadd, 1) := by decide +kernel
theorem dL_step_1446 : decode cL_step 1446 = .ok (.iload 4, 2) := by decide +kernel
theorem dL_step_1448 : decode cL_step 1448 = .ok (.sipush 200, 3) := by decide +kernel
theorem dL_step_1451 : decode cL_step 1451 = .ok (.irem, 1) := by decide +kernel
theorem dL_step_1452 : decode cL_step 1452 = .ok (.iadd, 1) := by decide +kernel
theorem dL_step_1453 : decode cL_step 1453 = .ok (.sipush 1000, 3) := by decide +kernel
theorem dL_step_1456 : decode cL_step 1456 = .ok (.if_icmp .le 7, 3) := by decide +kernel
theorem dL_step_1459 : decode cL_step 1459 = .ok (.iconst 1, 1) := by decide +kernel
theorem dL_step_1460 : decode cL_step 1460 = .ok (.goto 28, 3) := by decide +kernel
theorem dL_step_1463 : decode cL_step 1463 = .ok (.iconst 0, 1) := by decide +kernel
theorem dL_step_1464 : decode cL_step 1464 = .ok (.goto 24, 3) := by decide +kernel
theorem dL_step_1467 : decode cL_step 1467 = .ok (.iload 30, 2) := by decide +kernel
theorem dL_step_1469 : decode cL_step 1469 = .ok (.iload 29, 2) := by decide +kernel
theorem dL_step_1471 : decode cL_step 1471 = .ok (.iconst 1, 1) := by decide +kernel
theorem dL_step_1472 : decode cL_step 1472 = .ok (.iadd, 1) := by decide +kernel
theorem dL_step_1473 : decode cL_step 1473 = .ok (.iload 4, 2) := by decide +kernel
theorem dL_step_1475 : decode cL_step 1475 = .ok (.sipush 200, 3) := by decide +kernel
theorem dL_step_1478 : decode cL_step 1478 = .ok (.irem, 1) := by decide +kernel
theorem dL_step_1479 : decode cL_step 1479 = .ok (.iadd, 1) := by decide +kernel
theorem dL_step_1480 : decode cL_step 1480 = .ok (.if_icmp .ne 7, 3) := by decide +kernel
theorem dL_step_1483 : decode cL_step 1483 = .ok (.iconst 1, 1) := by decide +kernel
theorem dL_step_1484 : decode cL_step 1484 = .ok (.goto 4, 3) := by decide +kernel
theorem dL_step_1487 : decode cL_step 1487 = .ok (.iconst 0, 1) := by decide +kernel
theorem dL_step_1488 : decode cL_step 1488 = .ok (.ireturn, 1) := by decide +kernel
theorem dL_step_1489 : decode cL_step 1489 = .ok (.aload_n 0, 1) := by decide +kernel
theorem dL_step_1490 : decode cL_step 1490 = .ok (.iload 4, 2) := by decide +kernel
theorem dL_step_1492 : decode cL_step 1492 = .ok (.bipush 24, 2) := by decide +kernel
theorem dL_step_1494 : decode cL_step 1494 = .ok (.irem, 1) := by decide +kernel
theorem dL_step_1495 : decode cL_step 1495 = .ok (.iload 4, 2) := by decide +kernel
theorem dL_step_1497 : decode cL_step 1497 = .ok (.bipush 32, 2) := by decide +kernel
theorem dL_step_1499 : decode cL_step 1499 = .ok (.idiv, 1) := by decide +kernel
theorem dL_step_1500 : decode cL_step 1500 = .ok (.bipush 40, 2) := by decide +kernel
theorem dL_step_1502 : decode cL_step 1502 = .ok (.irem, 1) := by decide +kernel
theorem dL_step_1503 : decode cL_step 1503 = .ok (.invokevirtual 96, 3) := by decide +kernel
theorem dL_step_1506 : decode cL_step 1506 = .ok (.istore 31, 2) := by decide +kernel
theorem dL_step_1508 : decode cL_step 1508 = .ok (.iload 31, 2) := by decide +kernel
theorem dL_step_1510 : decode cL_step 1510 = .ok (.aload_n 1, 1) := by decide +kernel
theorem dL_step_1511 : decode cL_step 1511 = .ok (.iconst 5, 1) := by decide +kernel
theorem dL_step_1512 : decode cL_step 1512 = .ok (.iload 4, 2) := by decide +kernel
theorem dL_step_1514 : decode cL_step 1514 = .ok (.bipush 24, 2) := by decide +kernel
theorem dL_step_1516 : decode cL_step 1516 = .ok (.irem, 1) := by decide +kernel
theorem dL_step_1517 : decode cL_step 1517 = .ok (.iadd, 1) := by decide +kernel
theorem dL_step_1518 : decode cL_step 1518 = .ok (.iaload, 1) := by decide +kernel
theorem dL_step_1519 : decode cL_step 1519 = .ok (.if_icmp .ne 7, 3) := by decide +kernel
theorem dL_step_1522 : decode cL_step 1522 = .ok (.iconst 1, 1) := by decide +kernel
theorem dL_step_1523 : decode cL_step 1523 = .ok (.goto 4, 3) := by decide +kernel
theorem dL_step_1526 : decode cL_step 1526 = .ok (.iconst 0, 1) := by decide +kernel
theorem dL_step_1527 : decode cL_step 1527 = .ok (.istore 32, 2) := by decide +kernel
theorem dL_step_1529 : decode cL_step 1529 = .ok (.aload_n 1, 1) := by decide +kernel
theorem dL_step_1530 : decode cL_step 1530 = .ok (.iconst 5, 1) := by decide +kernel
theorem dL_step_1531 : decode cL_step 1531 = .ok (.iload 4, 2) := by decide +kernel
theorem dL_step_1533 : decode cL_step 1533 = .ok (.bipush 24, 2) := by decide +kernel
theorem dL_step_1535 : decode cL_step 1535 = .ok (.irem, 1) := by decide +kernel
theorem dL_step_1536 : decode cL_step 1536 = .ok (.iadd, 1) := by decide +kernel
theorem dL_step_1537 : decode cL_step 1537 = .ok (.iload 4, 2) := by decide +kernel
theorem dL_step_1539 : decode cL_step 1539 = .ok (.bipush 32, 2) := by decide +kernel
theorem dL_step_1541 : decode cL_step 1541 = .ok (.idiv, 1) := by decide +kernel
theorem dL_step_1542 : decode cL_step 1542 = .ok (.bipush 40, 2) := by decide +kernel
theorem dL_step_1544 : decode cL_step 1544 = .ok (.irem, 1) := by decide +kernel
theorem dL_step_1545 : decode cL_step 1545 = .ok (.iastore, 1) := by decide +kernel
theorem dL_step_1546 : decode cL_step 1546 = .ok (.iload 32, 2) := by decide +kernel
theorem dL_step_1548 : decode cL_step 1548 = .ok (.ifCond .eq 23, 3) := by decide +kernel
theorem dL_step_1551 : decode cL_step 1551 = .ok (.aload_n 0, 1) := by decide +kernel
theorem dL_step_1552 : decode cL_step 1552 = .ok (.iload 4, 2) := by decide +kernel
theorem dL_step_1554 : decode cL_step 1554 = .ok (.bipush 24, 2) := by decide +kernel
theorem dL_step_1556 : decode cL_step 1556 = .ok (.irem, 1) := by decide +kernel
theorem dL_step_1557 : decode cL_step 1557 = .ok (.iload_n 3, 1) := by decide +kernel
theorem dL_step_1558 : decode cL_step 1558 = .ok (.bipush 100, 2) := by decide +kernel
theorem dL_step_1560 : decode cL_step 1560 = .ok (.irem, 1) := by decide +kernel
theorem dL_step_1561 : decode cL_step 1561 = .ok (.invokevirtual 99, 3) := by decide +kernel
theorem dL_step_1564 : decode cL_step 1564 = .ok (.ifCond .lt 7, 3) := by decide +kernel
theorem dL_step_1567 : decode cL_step 1567 = .ok (.iconst 1, 1) := by decide +kernel
theorem dL_step_1568 : decode cL_step 1568 = .ok (.goto 4, 3) := by decide +kernel
theorem dL_step_1571 : decode cL_step 1571 = .ok (.iconst 0, 1) := by decide +kernel
theorem dL_step_1572 : decode cL_step 1572 = .ok (.ireturn, 1) := by decide +kernel
theorem dL_step_1573 : decode cL_step 1573 = .ok (.aload_n 0, 1) := by decide +kernel
theorem dL_step_1574 : decode cL_step 1574 = .ok (.aload_n 1, 1) := by decide +kernel
theorem dL_step_1575 : decode cL_step 1575 = .ok (.iload 5, 2) := by decide +kernel
theorem dL_step_1577 : decode cL_step 1577 = .ok (.iload 4, 2) := by decide +kernel
theorem dL_step_1579 : decode cL_step 1579 = .ok (.invokestatic 102, 3) := by decide +kernel
theorem dL_step_1582 : decode cL_step 1582 = .ok (.ireturn, 1) := by decide +kernel
theorem dL_step_1583 : decode cL_step 1583 = .ok (.aload_n 0, 1) := by decide +kernel
theorem dL_step_1584 : decode cL_step 1584 = .ok (.aload_n 1, 1) := by decide +kernel
theorem dL_step_1585 : decode cL_step 1585 = .ok (.iload 5, 2) := by decide +kernel
theorem dL_step_1587 : decode cL_step 1587 = .ok (.iconst 1, 1) := by decide +kernel
theorem dL_step_1588 : decode cL_step 1588 = .ok (.iload 4, 2) := by decide +kernel
theorem dL_step_1590 : decode cL_step 1590 = .ok (.bipush 24, 2) := by decide +kernel
theorem dL_step_1592 : decode cL_step 1592 = .ok (.irem, 1) := by decide +kernel
theorem dL_step_1593 : decode cL_step 1593 = .ok (.iadd, 1) := by decide +kernel
theorem dL_step_1594 : decode cL_step 1594 = .ok (.invokestatic 106, 3) := by decide +kernel
theorem dL_step_1597 : decode cL_step 1597 = .ok (.ireturn, 1) := by decide +kernel
theorem dL_step_1598 : decode cL_step 1598 = .ok (.aload_n 0, 1) := by decide +kernel
theorem dL_step_1599 : decode cL_step 1599 = .ok (.aload_n 1, 1) := by decide +kernel
theorem dL_step_1600 : decode cL_step 1600 = .ok (.iload 4, 2) := by decide +kernel
theorem dL_step_1602 : decode cL_step 1602 = .ok (.iconst 5, 1) := by decide +kernel
theorem dL_step_1603 : decode cL_step 1603 = .ok (.irem, 1) := by decide +kernel
theorem dL_step_1604 : decode cL_step 1604 = .ok (.ifCond .ne 16, 3) := by decide +kernel
theorem dL_step_1607 : decode cL_step 1607 = .ok (.iconst 1, 1) := by decide +kernel
theorem dL_step_1608 : decode cL_step 1608 = .ok (.iload 4, 2) := by decide +kernel
theorem dL_step_1610 : decode cL_step 1610 = .ok (.bipush 8, 2) := by decide +kernel
theorem dL_step_1612 : decode cL_step 1612 = .ok (.idiv, 1) := by decide +kernel
theorem dL_step_1613 : decode cL_step 1613 = .ok (.bipush 30, 2) := by decide +kernel
theorem dL_step_1615 : decode cL_step 1615 = .ok (.irem, 1) := by decide +kernel
theorem dL_step_1616 : decode cL_step 1616 = .ok (.iadd, 1) := by decide +kernel
theorem dL_step_1617 : decode cL_step 1617 = .ok (.goto 12, 3) := by decide +kernel
theorem dL_step_1620 : decode cL_step 1620 = .ok (.iconst 1, 1) := by decide +kernel
theorem dL_step_1621 : decode cL_step 1621 = .ok (.iload 4, 2) := by decide +kernel
theorem dL_step_1623 : decode cL_step 1623 = .ok (.bipush 8, 2) := by decide +kernel
theorem dL_step_1625 : decode cL_step 1625 = .ok (.idiv, 1) := by decide +kernel
theorem dL_step_1626 : decode cL_step 1626 = .ok (.iconst 3, 1) := by decide +kernel
theorem dL_step_1627 : decode cL_step 1627 = .ok (.irem, 1) := by decide +kernel
theorem dL_step_1628 : decode cL_step 1628 = .ok (.iadd, 1) := by decide +kernel
theorem dL_step_1629 : decode cL_step 1629 = .ok (.invokestatic 109, 3) := by decide +kernel
theorem dL_step_1632 : decode cL_step 1632 = .ok (.ireturn, 1) := by decide +kernel
