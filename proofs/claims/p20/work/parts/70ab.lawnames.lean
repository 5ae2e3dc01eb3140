set_option maxRecDepth 20000 in
theorem ggL_law_X6_act : GoodIn wsL_law wsX6_act := goodIn_r _ [259, 260, 65, 66, 67, 68, 69, 70, 71, 101, 102, 5, 103, 261, 262, 263, 264, 265, 266, 267, 268, 269, 270, 271, 272, 667, 668, 669, 670, 671, 672, 673, 674, 675, 676, 677, 678, 679, 680, 681, 682, 683, 684, 685, 686, 687, 688, 689, 690, 691, 692, 693, 694, 695, 696] (by decide +kernel) (by decide +kernel)
set_option maxRecDepth 20000 in
theorem gL_law_X6_act : GoodIn wsL_law (wsV RL 38 RX6 yX6_act wsX6_act) := goodIn_app (goodIn_of _ (by decide +kernel)) ggL_law_X6_act
set_option maxRecDepth 20000 in
theorem ggL_law_X5_clear : GoodIn wsL_law wsX5_clear := goodIn_r _ [276, 16, 229, 230, 2, 231, 277, 278, 279, 28, 280, 255, 653, 654, 655, 656, 657, 658, 659, 660, 661, 662, 663, 664, 665, 666, 708, 709] (by decide +kernel) (by decide +kernel)
set_option maxRecDepth 20000 in
theorem gL_law_X5_clear : GoodIn wsL_law (wsV RL 39 RX5 yX5_clear wsX5_clear) := goodIn_app (goodIn_of _ (by decide +kernel)) ggL_law_X5_clear
set_option maxRecDepth 20000 in
theorem ggL_law_X6_clear : GoodIn wsL_law wsX6_clear := goodIn_r _ [284, 260, 65, 101, 102, 5, 103, 667, 668, 669, 670, 671, 672, 673, 674, 675, 676, 677, 678, 679, 680, 681, 682, 683, 684, 685, 686, 687, 688, 689, 690, 691, 692, 693, 694, 695, 696] (by decide +kernel) (by decide +kernel)
set_option maxRecDepth 20000 in
theorem gL_law_X6_clear : GoodIn wsL_law (wsV RL 42 RX6 yX6_clear wsX6_clear) := goodIn_app (goodIn_of _ (by decide +kernel)) ggL_law_X6_clear
set_option maxRecDepth 20000 in
theorem hhL_law_74 : GoodIn wsL_law wsX5_call_r1 := goodIn_r _ [20, 14, 16, 289, 290, 291, 141, 292, 293, 294, 295, 296, 2, 297, 136, 123, 124, 125, 126, 83, 229, 230, 231, 298] (by decide +kernel) (by decide +kernel)
set_option maxRecDepth 20000 in
theorem hhL_law_75 : GoodIn wsL_law wsX5_call_r2 := goodIn_r _ [299, 300, 19, 301, 302, 35, 303, 304, 305, 306, 36, 39, 41, 307, 308, 309, 34, 310, 311, 312, 46, 47, 313, 314] (by decide +kernel) (by decide +kernel)
set_option maxRecDepth 20000 in
theorem hhL_law_76 : GoodIn wsL_law wsX5_call_r3 := goodIn_r _ [315, 316, 317, 318, 319, 320, 321, 322, 323, 324, 325, 326, 327, 328, 28, 329, 255, 52, 330, 331, 332, 333, 334, 335] (by decide +kernel) (by decide +kernel)
set_option maxRecDepth 20000 in
theorem hhL_law_77 : GoodIn wsL_law wsX5_call_r4 := goodIn_r _ [336, 337, 338, 339, 340, 341, 342, 343, 344, 345, 346, 347, 348, 349, 350, 351, 352, 353, 354, 355, 38, 356, 357, 358] (by decide +kernel) (by decide +kernel)
set_option maxRecDepth 20000 in
theorem hhL_law_78 : GoodIn wsL_law wsX5_call_r5 := goodIn_r _ [359, 37, 84, 85, 360, 361, 362, 363, 87, 88, 89, 11, 12, 40, 90, 23, 91, 92, 93, 94, 364, 150, 151, 152] (by decide +kernel) (by decide +kernel)
set_option maxRecDepth 20000 in
theorem hhL_law_79 : GoodIn wsL_law wsX5_call_r6 := goodIn_r _ [153, 154, 155, 156, 365, 128, 129, 130, 366, 367, 368, 369, 370, 371, 372, 373, 45, 374, 375, 376, 377, 378, 379, 380] (by decide +kernel) (by decide +kernel)
set_option maxRecDepth 20000 in
theorem hhL_law_80 : GoodIn wsL_law wsX5_call_r7 := goodIn_r _ [381, 382, 383, 384, 385, 386, 387, 388, 389, 390, 391, 392, 393, 394, 395, 396, 397, 398, 399, 400, 401, 402, 403, 207] (by decide +kernel) (by decide +kernel)
set_option maxRecDepth 20000 in
theorem hhL_law_81 : GoodIn wsL_law wsX5_call_r8 := goodIn_r _ [208, 404, 405, 406, 407, 408, 409, 410, 411, 412, 413, 210, 211, 212, 206, 414, 415, 416, 417, 418, 419, 420, 421, 422] (by decide +kernel) (by decide +kernel)
set_option maxRecDepth 20000 in
theorem hhL_law_82 : GoodIn wsL_law wsX5_call_r9 := goodIn_r _ [423, 424, 425, 426, 427, 428, 429, 430, 431, 432, 433, 434, 435, 436, 437, 438, 439, 440, 441, 442, 443, 444, 445, 446] (by decide +kernel) (by decide +kernel)
set_option maxRecDepth 20000 in
theorem hhL_law_83 : GoodIn wsL_law wsX5_call_r10 := goodIn_r _ [447, 448, 449, 450, 451, 452, 453, 454, 455, 456, 24, 25, 457, 458, 459, 460, 461, 137, 138, 139, 140, 142, 143, 144] (by decide +kernel) (by decide +kernel)
set_option maxRecDepth 20000 in
theorem hhL_law_84 : GoodIn wsL_law wsX5_call_r11 := goodIn_r _ [145, 13, 146, 147, 148, 86, 149] (by decide +kernel) (by decide +kernel)
set_option maxRecDepth 20000 in
theorem hh_c91 : GoodIn wsL_law [.code yX5_call cX5_call 6 (some .int)] := goodIn_r _ [288] (by decide +kernel) (by decide +kernel)
theorem ggL_law_X5_call : GoodIn wsL_law wsX5_call := fun w h => (List.mem_cons.mp h).elim (fun e => hh_c91 w (List.mem_cons.mpr (Or.inl e))) (fun h => (goodIn_app (goodIn_app (goodIn_app (goodIn_app (goodIn_app (goodIn_app (goodIn_app hhL_law_74 (goodIn_app hhL_law_75 (goodIn_app hhL_law_76 (goodIn_app hhL_law_77 (goodIn_app hhL_law_78 (goodIn_app hhL_law_79 (goodIn_app hhL_law_80 (goodIn_app hhL_law_81 (goodIn_app hhL_law_82 (goodIn_app hhL_law_83 hhL_law_84)))))))))) (goodIn_sub inlX5 (by decide +kernel))) (goodIn_sub inlX3 (by decide +kernel))) (goodIn_sub inlX4 (by decide +kernel))) (goodIn_sub inlX1 (by decide +kernel))) (goodIn_sub inlX0 (by decide +kernel))) (goodIn_sub inlX2 (by decide +kernel))) w h)
set_option maxRecDepth 20000 in
theorem gL_law_X5_call : GoodIn wsL_law (wsV RL 43 RX5 yX5_call wsX5_call) := goodIn_app (goodIn_of _ (by decide +kernel)) ggL_law_X5_call
set_option maxRecDepth 20000 in
theorem hhL_law_92 : GoodIn wsL_law wsX6_call_r1 := goodIn_r _ [260, 161, 466, 65, 467, 468, 72, 469, 75, 470, 64, 166, 167, 168, 5, 169, 100, 101, 102, 103, 471, 472, 473, 474] (by decide +kernel) (by decide +kernel)
set_option maxRecDepth 20000 in
theorem hhL_law_93 : GoodIn wsL_law wsX6_call_r2 := goodIn_r _ [475, 76, 77, 78, 170, 171, 172, 173, 174, 175, 176, 177, 58, 59, 61, 476, 477, 478, 479, 67, 66, 68, 69, 480] (by decide +kernel) (by decide +kernel)
set_option maxRecDepth 20000 in
theorem hhL_law_94 : GoodIn wsL_law wsX6_call_r3 := goodIn_r _ [481, 482, 483, 70, 217, 71, 484, 485, 486, 487, 488, 489, 490, 491, 57, 492, 493, 494, 495, 496, 63, 109, 110, 111] (by decide +kernel) (by decide +kernel)
set_option maxRecDepth 20000 in
theorem hhL_law_95 : GoodIn wsL_law wsX6_call_r4 := goodIn_r _ [112, 113, 114, 497, 498, 499, 500, 73, 74, 501, 502, 503, 504, 505, 506, 507, 218, 219, 220, 221, 508, 509, 510, 511] (by decide +kernel) (by decide +kernel)
set_option maxRecDepth 20000 in
theorem hhL_law_96 : GoodIn wsL_law wsX6_call_r5 := goodIn_r _ [512, 513, 514, 515, 516, 517, 518, 519, 182, 183, 184, 185, 186, 187, 188, 189] (by decide +kernel) (by decide +kernel)
set_option maxRecDepth 20000 in
theorem hh_c98 : GoodIn wsL_law [.code yX6_call cX6_call 7 (some .int)] := goodIn_r _ [465] (by decide +kernel) (by decide +kernel)
theorem ggL_law_X6_call : GoodIn wsL_law wsX6_call := fun w h => (List.mem_cons.mp h).elim (fun e => hh_c98 w (List.mem_cons.mpr (Or.inl e))) (fun h => (goodIn_app (goodIn_app hhL_law_92 (goodIn_app hhL_law_93 (goodIn_app hhL_law_94 (goodIn_app hhL_law_95 hhL_law_96)))) (goodIn_sub inlX6 (by decide +kernel))) w h)
set_option maxRecDepth 20000 in
theorem gL_law_X6_call : GoodIn wsL_law (wsV RL 46 RX6 yX6_call wsX6_call) := goodIn_app (goodIn_of _ (by decide +kernel)) ggL_law_X6_call
set_option maxRecDepth 20000 in
theorem ggL_law_X5_gave : GoodIn wsL_law wsX5_gave := goodIn_r _ [523, 20, 524, 653, 654, 655, 656, 657, 658, 659, 660, 661, 662, 663, 664, 665, 666, 697, 698, 699, 700, 701, 702, 703, 704, 705, 706, 707] (by decide +kernel) (by decide +kernel)
set_option maxRecDepth 20000 in
theorem gL_law_X5_gave : GoodIn wsL_law (wsV RL 47 RX5 yX5_gave wsX5_gave) := goodIn_app (goodIn_of _ (by decide +kernel)) ggL_law_X5_gave
set_option maxRecDepth 20000 in
theorem ggL_law_X6_gave : GoodIn wsL_law wsX6_gave := goodIn_r _ [528, 469, 667, 668, 669, 670, 671, 672, 673, 674, 675, 676, 677, 678, 679, 680, 681, 682, 683, 684, 685, 686, 687, 688, 689, 690, 691, 692, 693, 694, 695, 696] (by decide +kernel) (by decide +kernel)
set_option maxRecDepth 20000 in
theorem gL_law_X6_gave : GoodIn wsL_law (wsV RL 51 RX6 yX6_gave wsX6_gave) := goodIn_app (goodIn_of _ (by decide +kernel)) ggL_law_X6_gave
set_option maxRecDepth 20000 in
theorem ggL_law_X5_where : GoodIn wsL_law wsX5_where := goodIn_r _ [532, 20, 533, 653, 654, 655, 656, 657, 658, 659, 660, 661, 662, 663, 664, 665, 666, 697, 698, 699, 700, 701, 702, 703, 704, 705, 706, 707] (by decide +kernel) (by decide +kernel)
set_option maxRecDepth 20000 in
theorem gL_law_X5_where : GoodIn wsL_law (wsV RL 52 RX5 yX5_where wsX5_where) := goodIn_app (goodIn_of _ (by decide +kernel)) ggL_law_X5_where
set_option maxRecDepth 20000 in
theorem ggL_law_X6_where : GoodIn wsL_law wsX6_where := goodIn_r _ [537, 72, 667, 668, 669, 670, 671, 672, 673, 674, 675, 676, 677, 678, 679, 680, 681, 682, 683, 684, 685, 686, 687, 688, 689, 690, 691, 692, 693, 694, 695, 696] (by decide +kernel) (by decide +kernel)
set_option maxRecDepth 20000 in
theorem gL_law_X6_where : GoodIn wsL_law (wsV RL 56 RX6 yX6_where wsX6_where) := goodIn_app (goodIn_of _ (by decide +kernel)) ggL_law_X6_where
set_option maxRecDepth 20000 in
theorem ggL_law_X5_touched : GoodIn wsL_law wsX5_touched := goodIn_r _ [541, 20, 542, 543, 544, 653, 654, 655, 656, 657, 658, 659, 660, 661, 662, 663, 664, 665, 666, 697, 698, 699, 700, 701, 702, 703, 704, 705, 706, 707, 710, 711, 712, 713, 714] (by decide +kernel) (by decide +kernel)
set_option maxRecDepth 20000 in
theorem gL_law_X5_touched : GoodIn wsL_law (wsV RL 57 RX5 yX5_touched wsX5_touched) := goodIn_app (goodIn_of _ (by decide +kernel)) ggL_law_X5_touched
set_option maxRecDepth 20000 in
theorem ggL_law_X6_touched : GoodIn wsL_law wsX6_touched := goodIn_r _ [548, 475, 73, 74, 101, 102, 5, 103, 667, 668, 669, 670, 671, 672, 673, 674, 675, 676, 677, 678, 679, 680, 681, 682, 683, 684, 685, 686, 687, 688, 689, 690, 691, 692, 693, 694, 695, 696] (by decide +kernel) (by decide +kernel)
set_option maxRecDepth 20000 in
theorem gL_law_X6_touched : GoodIn wsL_law (wsV RL 61 RX6 yX6_touched wsX6_touched) := goodIn_app (goodIn_of _ (by decide +kernel)) ggL_law_X6_touched
set_option maxRecDepth 20000 in
theorem ggL_law_X5_written : GoodIn wsL_law wsX5_written := goodIn_r _ [552, 292, 24, 653, 654, 655, 656, 657, 658, 659, 660, 661, 662, 663, 664, 665, 666] (by decide +kernel) (by decide +kernel)
set_option maxRecDepth 20000 in
theorem gL_law_X5_written : GoodIn wsL_law (wsV RL 62 RX5 yX5_written wsX5_written) := goodIn_app (goodIn_of _ (by decide +kernel)) ggL_law_X5_written
set_option maxRecDepth 20000 in
theorem ggL_law_X6_written : GoodIn wsL_law wsX6_written := goodIn_r _ [556, 470, 75, 667, 668, 669, 670, 671, 672, 673, 674, 675, 676, 677, 678, 679, 680, 681, 682, 683, 684, 685, 686, 687, 688, 689, 690, 691, 692, 693, 694, 695, 696] (by decide +kernel) (by decide +kernel)
set_option maxRecDepth 20000 in
theorem gL_law_X6_written : GoodIn wsL_law (wsV RL 65 RX6 yX6_written wsX6_written) := goodIn_app (goodIn_of _ (by decide +kernel)) ggL_law_X6_written
set_option maxRecDepth 20000 in
theorem ggL_law_X5_loaded : GoodIn wsL_law wsX5_loaded := goodIn_r _ [560, 20, 291, 123, 124, 125, 2, 126, 83, 452, 361, 362, 653, 654, 655, 656, 657, 658, 659, 660, 661, 662, 663, 664, 665, 666, 697, 698, 699, 700, 701, 702, 703, 704, 705, 706, 707] (by decide +kernel) (by decide +kernel)
set_option maxRecDepth 20000 in
theorem gL_law_X5_loaded : GoodIn wsL_law (wsV RL 66 RX5 yX5_loaded wsX5_loaded) := goodIn_app (goodIn_of _ (by decide +kernel)) ggL_law_X5_loaded
set_option maxRecDepth 20000 in
theorem ggL_law_X6_loaded : GoodIn wsL_law wsX6_loaded := goodIn_r _ [564, 76, 166, 167, 168, 5, 169, 100, 101, 102, 103, 667, 668, 669, 670, 671, 672, 673, 674, 675, 676, 677, 678, 679, 680, 681, 682, 683, 684, 685, 686, 687, 688, 689, 690, 691, 692, 693, 694, 695, 696] (by decide +kernel) (by decide +kernel)
set_option maxRecDepth 20000 in
theorem gL_law_X6_loaded : GoodIn wsL_law (wsV RL 69 RX6 yX6_loaded wsX6_loaded) := goodIn_app (goodIn_of _ (by decide +kernel)) ggL_law_X6_loaded
set_option maxRecDepth 20000 in
theorem ggL_law_X5_cached : GoodIn wsL_law wsX5_cached := goodIn_r _ [568, 141, 123, 124, 125, 2, 126, 83, 452, 361, 362, 653, 654, 655, 656, 657, 658, 659, 660, 661, 662, 663, 664, 665, 666] (by decide +kernel) (by decide +kernel)
set_option maxRecDepth 20000 in
theorem gL_law_X5_cached : GoodIn wsL_law (wsV RL 70 RX5 yX5_cached wsX5_cached) := goodIn_app (goodIn_of _ (by decide +kernel)) ggL_law_X5_cached
set_option maxRecDepth 20000 in
theorem ggL_law_X6_cached : GoodIn wsL_law wsX6_cached := goodIn_r _ [572, 63, 166, 167, 168, 5, 169, 100, 101, 102, 103, 667, 668, 669, 670, 671, 672, 673, 674, 675, 676, 677, 678, 679, 680, 681, 682, 683, 684, 685, 686, 687, 688, 689, 690, 691, 692, 693, 694, 695, 696] (by decide +kernel) (by decide +kernel)
set_option maxRecDepth 20000 in
theorem gL_law_X6_cached : GoodIn wsL_law (wsV RL 73 RX6 yX6_cached wsX6_cached) := goodIn_app (goodIn_of _ (by decide +kernel)) ggL_law_X6_cached
set_option maxRecDepth 20000 in
theorem ggL_law_X5_hint : GoodIn wsL_law wsX5_hint := goodIn_r _ [576, 141, 290, 123, 124, 125, 2, 126, 83, 452, 361, 362, 653, 654, 655, 656, 657, 658, 659, 660, 661, 662, 663, 664, 665, 666] (by decide +kernel) (by decide +kernel)
set_option maxRecDepth 20000 in
theorem gL_law_X5_hint : GoodIn wsL_law (wsV RL 74 RX5 yX5_hint wsX5_hint) := goodIn_app (goodIn_of _ (by decide +kernel)) ggL_law_X5_hint
set_option maxRecDepth 20000 in
theorem ggL_law_X6_hint : GoodIn wsL_law wsX6_hint := goodIn_r _ [580, 63, 496, 166, 167, 168, 5, 169, 100, 101, 102, 103, 667, 668, 669, 670, 671, 672, 673, 674, 675, 676, 677, 678, 679, 680, 681, 682, 683, 684, 685, 686, 687, 688, 689, 690, 691, 692, 693, 694, 695, 696] (by decide +kernel) (by decide +kernel)
set_option maxRecDepth 20000 in
theorem gL_law_X6_hint : GoodIn wsL_law (wsV RL 77 RX6 yX6_hint wsX6_hint) := goodIn_app (goodIn_of _ (by decide +kernel)) ggL_law_X6_hint
set_option maxRecDepth 20000 in
theorem ggL_law_X5_times : GoodIn wsL_law wsX5_times := goodIn_r _ [584, 25, 119, 120, 121, 2, 122, 14, 123, 124, 125, 126, 83, 127, 128, 129, 85, 130, 93, 92, 653, 654, 655, 656, 657, 658, 659, 660, 661, 662, 663, 664, 665, 666, 715, 716, 717, 718, 719] (by decide +kernel) (by decide +kernel)
set_option maxRecDepth 20000 in
theorem gL_law_X5_times : GoodIn wsL_law (wsV RL 78 RX5 yX5_times wsX5_times) := goodIn_app (goodIn_of _ (by decide +kernel)) ggL_law_X5_times
set_option maxRecDepth 20000 in
theorem ggL_law_X6_times : GoodIn wsL_law wsX6_times := goodIn_r _ [588, 589, 57, 64, 101, 102, 5, 103, 166, 167, 168, 169, 100, 109, 110, 111, 667, 668, 669, 670, 671, 672, 673, 674, 675, 676, 677, 678, 679, 680, 681, 682, 683, 684, 685, 686, 687, 688, 689, 690, 691, 692, 693, 694, 695, 696] (by decide +kernel) (by decide +kernel)
set_option maxRecDepth 20000 in
theorem gL_law_X6_times : GoodIn wsL_law (wsV RL 81 RX6 yX6_times wsX6_times) := goodIn_app (goodIn_of _ (by decide +kernel)) ggL_law_X6_times
set_option maxRecDepth 20000 in
theorem hhL_law_99 : GoodIn wsL_law wsX5_all_r1 := goodIn_r _ [21, 14, 16, 22, 83, 294, 295, 296, 2, 297, 136, 123, 124, 125, 126, 229, 230, 231, 298, 299, 300, 19, 301, 302] (by decide +kernel) (by decide +kernel)
set_option maxRecDepth 20000 in
theorem hhL_law_100 : GoodIn wsL_law wsX5_all_r2 := goodIn_r _ [35, 303, 304, 305, 306, 36, 39, 41, 307, 308, 309, 34, 310, 311, 312, 46, 47, 313, 314, 315, 316, 317, 318, 319] (by decide +kernel) (by decide +kernel)
set_option maxRecDepth 20000 in
theorem hhL_law_101 : GoodIn wsL_law wsX5_all_r3 := goodIn_r _ [320, 321, 322, 323, 324, 325, 326, 327, 328, 28, 329, 255, 52, 330, 331, 332, 333, 334, 335, 336, 337, 338, 339, 340] (by decide +kernel) (by decide +kernel)
set_option maxRecDepth 20000 in
theorem hhL_law_102 : GoodIn wsL_law wsX5_all_r4 := goodIn_r _ [341, 342, 343, 344, 345, 346, 347, 348, 349, 350, 351, 352, 353, 354, 355, 38, 356, 357, 358, 359, 37, 84, 85, 360] (by decide +kernel) (by decide +kernel)
set_option maxRecDepth 20000 in
theorem hhL_law_103 : GoodIn wsL_law wsX5_all_r5 := goodIn_r _ [361, 362, 363, 87, 88, 89, 11, 12, 40, 90, 23, 91, 92, 93, 94, 364, 150, 151, 152, 153, 154, 155, 156, 365] (by decide +kernel) (by decide +kernel)
set_option maxRecDepth 20000 in
theorem hhL_law_104 : GoodIn wsL_law wsX5_all_r6 := goodIn_r _ [128, 129, 130, 366, 367, 368, 369, 370, 371, 372, 373, 45, 374, 375, 376, 377, 378, 379, 380, 381, 382, 383, 384, 385] (by decide +kernel) (by decide +kernel)
set_option maxRecDepth 20000 in
theorem hhL_law_105 : GoodIn wsL_law wsX5_all_r7 := goodIn_r _ [386, 387, 388, 389, 390, 391, 392, 393, 394, 395, 396, 397, 398, 399, 400, 401, 402, 403, 207, 208, 404, 405, 406, 407] (by decide +kernel) (by decide +kernel)
set_option maxRecDepth 20000 in
theorem hhL_law_106 : GoodIn wsL_law wsX5_all_r8 := goodIn_r _ [408, 409, 410, 411, 412, 413, 210, 211, 212, 206, 414, 415, 416, 417, 418, 419, 420, 421, 422, 423, 424, 425, 426, 427] (by decide +kernel) (by decide +kernel)
set_option maxRecDepth 20000 in
theorem hhL_law_107 : GoodIn wsL_law wsX5_all_r9 := goodIn_r _ [428, 429, 430, 431, 432, 433, 434, 435, 436, 437, 438, 439, 440, 594, 595, 596, 597, 598, 599, 600, 601, 602, 603, 604] (by decide +kernel) (by decide +kernel)
set_option maxRecDepth 20000 in
theorem hhL_law_108 : GoodIn wsL_law wsX5_all_r10 := goodIn_r _ [605, 606, 607, 608, 609, 610, 458, 459, 460] (by decide +kernel) (by decide +kernel)
set_option maxRecDepth 20000 in
theorem hh_c115 : GoodIn wsL_law [.code yX5_all cX5_all 6 (some .int)] := goodIn_r _ [593] (by decide +kernel) (by decide +kernel)
theorem ggL_law_X5_all : GoodIn wsL_law wsX5_all := fun w h => (List.mem_cons.mp h).elim (fun e => hh_c115 w (List.mem_cons.mpr (Or.inl e))) (fun h => (goodIn_app (goodIn_app (goodIn_app (goodIn_app (goodIn_app (goodIn_app (goodIn_app hhL_law_99 (goodIn_app hhL_law_100 (goodIn_app hhL_law_101 (goodIn_app hhL_law_102 (goodIn_app hhL_law_103 (goodIn_app hhL_law_104 (goodIn_app hhL_law_105 (goodIn_app hhL_law_106 (goodIn_app hhL_law_107 hhL_law_108))))))))) (goodIn_sub inlX5 (by decide +kernel))) (goodIn_sub inlX3 (by decide +kernel))) (goodIn_sub inlX4 (by decide +kernel))) (goodIn_sub inlX1 (by decide +kernel))) (goodIn_sub inlX0 (by decide +kernel))) (goodIn_sub inlX2 (by decide +kernel))) w h)
