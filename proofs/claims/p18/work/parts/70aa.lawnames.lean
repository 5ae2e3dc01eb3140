theorem inlX0 : ∀ w ∈ wsX00, w ∈ wsL_law := fun _ h => List.mem_append_left _ (List.mem_append_right _ h)
theorem inX0 : ∀ w ∈ wsX00, w ∈ lw_tbl := fun w h => wsL_law_in w (inlX0 w h)
theorem inlX1 : ∀ w ∈ wsX10, w ∈ wsL_law := fun _ h => List.mem_append_left _ (List.mem_append_left _ (List.mem_append_left _ (List.mem_append_left _ (List.mem_append_right _ h))))
theorem inX1 : ∀ w ∈ wsX10, w ∈ lw_tbl := fun w h => wsL_law_in w (inlX1 w h)
theorem inlX2 : ∀ w ∈ wsX20, w ∈ wsL_law := fun _ h => List.mem_append_left _ (List.mem_append_left _ (List.mem_append_right _ h))
theorem inX2 : ∀ w ∈ wsX20, w ∈ lw_tbl := fun w h => wsL_law_in w (inlX2 w h)
theorem inlX3 : ∀ w ∈ wsX30, w ∈ wsL_law := fun _ h => List.mem_append_left _ (List.mem_append_left _ (List.mem_append_left _ (List.mem_append_left _ (List.mem_append_left _ (List.mem_append_right _ h)))))
theorem inX3 : ∀ w ∈ wsX30, w ∈ lw_tbl := fun w h => wsL_law_in w (inlX3 w h)
theorem inlX4 : ∀ w ∈ wsX40, w ∈ wsL_law := fun _ h => List.mem_append_left _ (List.mem_append_left _ (List.mem_append_left _ (List.mem_append_right _ h)))
theorem inX4 : ∀ w ∈ wsX40, w ∈ lw_tbl := fun w h => wsL_law_in w (inlX4 w h)
theorem inlX5 : ∀ w ∈ wsX50, w ∈ wsL_law := fun _ h => List.mem_append_left _ (List.mem_append_left _ (List.mem_append_left _ (List.mem_append_left _ (List.mem_append_left _ (List.mem_append_left _ (List.mem_append_left _ (List.mem_append_right _ h)))))))
theorem inX5 : ∀ w ∈ wsX50, w ∈ lw_tbl := fun w h => wsL_law_in w (inlX5 w h)
theorem inlX6 : ∀ w ∈ wsX60, w ∈ wsL_law := fun _ h => List.mem_append_left _ (List.mem_append_left _ (List.mem_append_left _ (List.mem_append_left _ (List.mem_append_left _ (List.mem_append_left _ (List.mem_append_right _ h))))))
theorem inX6 : ∀ w ∈ wsX60, w ∈ lw_tbl := fun w h => wsL_law_in w (inlX6 w h)
set_option maxRecDepth 20000 in
theorem hhL_law_36 : GoodIn wsL_law wsX5_init_r1 := goodIn_r _ [10, 11, 12, 13, 14, 15, 16, 17, 18, 19, 20, 21, 22, 23, 24, 25, 26, 27, 28, 29, 30, 31, 32, 33] (by decide +kernel) (by decide +kernel)
set_option maxRecDepth 20000 in
theorem hhL_law_37 : GoodIn wsL_law wsX5_init_r2 := goodIn_r _ [34, 35, 36, 37, 38, 39, 40, 41, 42, 43, 44, 45, 46, 47, 48, 49, 50, 51, 52] (by decide +kernel) (by decide +kernel)
set_option maxRecDepth 20000 in
theorem hh_c42 : GoodIn wsL_law [.code yX5_init cX5_init 2 none] := goodIn_r _ [9] (by decide +kernel) (by decide +kernel)
theorem ggL_law_X5_init : GoodIn wsL_law wsX5_init := fun w h => (List.mem_cons.mp h).elim (fun e => hh_c42 w (List.mem_cons.mpr (Or.inl e))) (fun h => (goodIn_app (goodIn_app (goodIn_app (goodIn_app (goodIn_app hhL_law_36 hhL_law_37) (goodIn_sub inlX5 (by decide +kernel))) (goodIn_sub inlX3 (by decide +kernel))) (goodIn_sub inlX1 (by decide +kernel))) (goodIn_sub inlX4 (by decide +kernel))) w h)
set_option maxRecDepth 20000 in
theorem gL_law_X5_init : GoodIn wsL_law (wsX5_init) := ggL_law_X5_init
set_option maxRecDepth 20000 in
theorem ggL_law_X6_init : GoodIn wsL_law wsX6_init := goodIn_r _ [55, 56, 11, 12, 23, 57, 40, 58, 59, 60, 61, 62, 63, 64, 65, 66, 67, 68, 69, 70, 71, 72, 73, 74, 75, 76, 77, 78, 667, 668, 669, 670, 671, 672, 673, 674, 675, 676, 677, 678, 679, 680, 681, 682, 683, 684, 685, 686, 687, 688, 689, 690, 691, 692, 693, 694, 695, 696] (by decide +kernel) (by decide +kernel)
set_option maxRecDepth 20000 in
theorem gL_law_X6_init : GoodIn wsL_law (wsX6_init) := ggL_law_X6_init
set_option maxRecDepth 20000 in
theorem ggL_law_X5_object : GoodIn wsL_law wsX5_object := goodIn_r _ [82, 83, 14, 13, 84, 85, 86, 87, 88, 89, 11, 12, 40, 90, 23, 91, 92, 93, 94, 653, 654, 655, 656, 657, 658, 659, 660, 661, 662, 663, 664, 665, 666, 715, 716, 717, 718, 719] (by decide +kernel) (by decide +kernel)
set_option maxRecDepth 20000 in
theorem gL_law_X5_object : GoodIn wsL_law (wsV RL 13 RX5 yX5_object wsX5_object) := goodIn_app (goodIn_of _ (by decide +kernel)) ggL_law_X5_object
set_option maxRecDepth 20000 in
theorem ggL_law_X6_object : GoodIn wsL_law wsX6_object := goodIn_r _ [98, 99, 100, 57, 101, 102, 5, 103, 104, 105, 106, 107, 58, 108, 59, 109, 110, 111, 112, 113, 114, 667, 668, 669, 670, 671, 672, 673, 674, 675, 676, 677, 678, 679, 680, 681, 682, 683, 684, 685, 686, 687, 688, 689, 690, 691, 692, 693, 694, 695, 696] (by decide +kernel) (by decide +kernel)
set_option maxRecDepth 20000 in
theorem gL_law_X6_object : GoodIn wsL_law (wsV RL 17 RX6 yX6_object wsX6_object) := goodIn_app (goodIn_of _ (by decide +kernel)) ggL_law_X6_object
set_option maxRecDepth 20000 in
theorem hhL_law_43 : GoodIn wsL_law wsX5_number_r1 := goodIn_r _ [119, 120, 121, 2, 122, 14, 123, 124, 125, 126, 83, 127, 128, 129, 85, 130, 93, 92, 131, 132, 133, 134, 135, 136] (by decide +kernel) (by decide +kernel)
set_option maxRecDepth 20000 in
theorem hhL_law_44 : GoodIn wsL_law wsX5_number_r2 := goodIn_r _ [137, 138, 139, 140, 141, 142, 143, 144, 145, 13, 84, 146, 147, 148, 86, 87, 88, 89, 11, 12, 40, 90, 23, 91] (by decide +kernel) (by decide +kernel)
set_option maxRecDepth 20000 in
theorem hhL_law_45 : GoodIn wsL_law wsX5_number_r3 := goodIn_r _ [94, 149, 150, 151, 152, 153, 154, 155, 156] (by decide +kernel) (by decide +kernel)
set_option maxRecDepth 20000 in
theorem hh_c48 : GoodIn wsL_law [.code yX5_number cX5_number 5 (some .int)] := goodIn_r _ [118] (by decide +kernel) (by decide +kernel)
theorem ggL_law_X5_number : GoodIn wsL_law wsX5_number := fun w h => (List.mem_cons.mp h).elim (fun e => hh_c48 w (List.mem_cons.mpr (Or.inl e))) (fun h => (goodIn_app (goodIn_app (goodIn_app hhL_law_43 (goodIn_app hhL_law_44 hhL_law_45)) (goodIn_sub inlX5 (by decide +kernel))) (goodIn_sub inlX2 (by decide +kernel))) w h)
set_option maxRecDepth 20000 in
theorem gL_law_X5_number : GoodIn wsL_law (wsV RL 20 RX5 yX5_number wsX5_number) := goodIn_app (goodIn_of _ (by decide +kernel)) ggL_law_X5_number
set_option maxRecDepth 20000 in
theorem hhL_law_49 : GoodIn wsL_law wsX6_number_r1 := goodIn_r _ [161, 58, 162, 163, 164, 5, 165, 57, 166, 167, 168, 169, 100, 101, 102, 103, 109, 110, 111, 112, 113, 114, 170, 171] (by decide +kernel) (by decide +kernel)
set_option maxRecDepth 20000 in
theorem hhL_law_50 : GoodIn wsL_law wsX6_number_r2 := goodIn_r _ [172, 173, 174, 175, 176, 177, 59, 61, 178, 179, 180, 181, 182, 183, 184, 185, 186, 187, 188, 189, 63] (by decide +kernel) (by decide +kernel)
set_option maxRecDepth 20000 in
theorem hh_c52 : GoodIn wsL_law [.code yX6_number cX6_number 5 (some .int)] := goodIn_r _ [160] (by decide +kernel) (by decide +kernel)
theorem ggL_law_X6_number : GoodIn wsL_law wsX6_number := fun w h => (List.mem_cons.mp h).elim (fun e => hh_c52 w (List.mem_cons.mpr (Or.inl e))) (fun h => (goodIn_app (goodIn_app hhL_law_49 hhL_law_50) (goodIn_sub inlX6 (by decide +kernel))) w h)
set_option maxRecDepth 20000 in
theorem gL_law_X6_number : GoodIn wsL_law (wsV RL 24 RX6 yX6_number wsX6_number) := goodIn_app (goodIn_of _ (by decide +kernel)) ggL_law_X6_number
set_option maxRecDepth 20000 in
theorem hhL_law_53 : GoodIn wsL_law wsX5_link_r1 := goodIn_r _ [119, 120, 121, 2, 122, 14, 123, 124, 125, 126, 83, 127, 128, 129, 85, 130, 93, 92, 131, 132, 133, 134, 135, 136] (by decide +kernel) (by decide +kernel)
set_option maxRecDepth 20000 in
theorem hhL_law_54 : GoodIn wsL_law wsX5_link_r2 := goodIn_r _ [137, 138, 139, 140, 141, 142, 143, 144, 145, 13, 84, 146, 147, 148, 86, 87, 88, 89, 11, 12, 40, 90, 23, 91] (by decide +kernel) (by decide +kernel)
set_option maxRecDepth 20000 in
theorem hhL_law_55 : GoodIn wsL_law wsX5_link_r3 := goodIn_r _ [94, 149, 150, 151, 152, 153, 154, 155, 156] (by decide +kernel) (by decide +kernel)
set_option maxRecDepth 20000 in
theorem hh_c58 : GoodIn wsL_law [.code yX5_link cX5_link 4 (some .int)] := goodIn_r _ [193] (by decide +kernel) (by decide +kernel)
theorem ggL_law_X5_link : GoodIn wsL_law wsX5_link := fun w h => (List.mem_cons.mp h).elim (fun e => hh_c58 w (List.mem_cons.mpr (Or.inl e))) (fun h => (goodIn_app (goodIn_app (goodIn_app hhL_law_53 (goodIn_app hhL_law_54 hhL_law_55)) (goodIn_sub inlX5 (by decide +kernel))) (goodIn_sub inlX2 (by decide +kernel))) w h)
set_option maxRecDepth 20000 in
theorem gL_law_X5_link : GoodIn wsL_law (wsV RL 25 RX5 yX5_link wsX5_link) := goodIn_app (goodIn_of _ (by decide +kernel)) ggL_law_X5_link
set_option maxRecDepth 20000 in
theorem hhL_law_59 : GoodIn wsL_law wsX6_link_r1 := goodIn_r _ [161, 58, 162, 163, 164, 5, 165, 57, 166, 167, 168, 169, 100, 101, 102, 103, 109, 110, 111, 112, 113, 114, 170, 171] (by decide +kernel) (by decide +kernel)
set_option maxRecDepth 20000 in
theorem hhL_law_60 : GoodIn wsL_law wsX6_link_r2 := goodIn_r _ [172, 173, 174, 175, 176, 177, 59, 61, 178, 179, 180, 181, 182, 183, 184, 185, 186, 187, 188, 189, 63] (by decide +kernel) (by decide +kernel)
set_option maxRecDepth 20000 in
theorem hh_c62 : GoodIn wsL_law [.code yX6_link cX6_link 4 (some .int)] := goodIn_r _ [197] (by decide +kernel) (by decide +kernel)
theorem ggL_law_X6_link : GoodIn wsL_law wsX6_link := fun w h => (List.mem_cons.mp h).elim (fun e => hh_c62 w (List.mem_cons.mpr (Or.inl e))) (fun h => (goodIn_app (goodIn_app hhL_law_59 hhL_law_60) (goodIn_sub inlX6 (by decide +kernel))) w h)
set_option maxRecDepth 20000 in
theorem gL_law_X6_link : GoodIn wsL_law (wsV RL 29 RX6 yX6_link wsX6_link) := goodIn_app (goodIn_of _ (by decide +kernel)) ggL_law_X6_link
set_option maxRecDepth 20000 in
theorem hhL_law_63 : GoodIn wsL_law wsX5_row_r1 := goodIn_r _ [14, 136, 119, 120, 121, 2, 122, 123, 124, 125, 126, 83, 127, 128, 129, 85, 130, 93, 92, 202, 203, 204, 205, 90] (by decide +kernel) (by decide +kernel)
set_option maxRecDepth 20000 in
theorem hhL_law_64 : GoodIn wsL_law wsX5_row_r2 := goodIn_r _ [91, 206, 207, 208, 137, 138, 139, 140, 141, 142, 143, 144, 145, 13, 84, 146, 147, 148, 86, 87, 88, 89, 11, 12] (by decide +kernel) (by decide +kernel)
set_option maxRecDepth 20000 in
theorem hhL_law_65 : GoodIn wsL_law wsX5_row_r3 := goodIn_r _ [40, 23, 94, 149, 150, 151, 152, 153, 154, 155, 156, 209, 210, 211, 212] (by decide +kernel) (by decide +kernel)
set_option maxRecDepth 20000 in
theorem hh_c68 : GoodIn wsL_law [.code yX5_row cX5_row 4 (some .int)] := goodIn_r _ [201] (by decide +kernel) (by decide +kernel)
theorem ggL_law_X5_row : GoodIn wsL_law wsX5_row := fun w h => (List.mem_cons.mp h).elim (fun e => hh_c68 w (List.mem_cons.mpr (Or.inl e))) (fun h => (goodIn_app (goodIn_app (goodIn_app hhL_law_63 (goodIn_app hhL_law_64 hhL_law_65)) (goodIn_sub inlX5 (by decide +kernel))) (goodIn_sub inlX2 (by decide +kernel))) w h)
set_option maxRecDepth 20000 in
theorem gL_law_X5_row : GoodIn wsL_law (wsV RL 30 RX5 yX5_row wsX5_row) := goodIn_app (goodIn_of _ (by decide +kernel)) ggL_law_X5_row
set_option maxRecDepth 20000 in
theorem hhL_law_69 : GoodIn wsL_law wsX6_row_r1 := goodIn_r _ [217, 161, 162, 163, 164, 5, 165, 57, 166, 167, 168, 169, 100, 101, 102, 103, 109, 110, 111, 112, 113, 114, 170, 171] (by decide +kernel) (by decide +kernel)
set_option maxRecDepth 20000 in
theorem hhL_law_70 : GoodIn wsL_law wsX6_row_r2 := goodIn_r _ [172, 173, 174, 175, 176, 177, 58, 59, 61, 218, 219, 220, 221, 178, 179, 180, 181, 182, 183, 184, 185, 186, 187, 188] (by decide +kernel) (by decide +kernel)
set_option maxRecDepth 20000 in
theorem hhL_law_71 : GoodIn wsL_law wsX6_row_r3 := goodIn_r _ [189, 63] (by decide +kernel) (by decide +kernel)
set_option maxRecDepth 20000 in
theorem hh_c73 : GoodIn wsL_law [.code yX6_row cX6_row 4 (some .int)] := goodIn_r _ [216] (by decide +kernel) (by decide +kernel)
theorem ggL_law_X6_row : GoodIn wsL_law wsX6_row := fun w h => (List.mem_cons.mp h).elim (fun e => hh_c73 w (List.mem_cons.mpr (Or.inl e))) (fun h => (goodIn_app (goodIn_app hhL_law_69 (goodIn_app hhL_law_70 hhL_law_71)) (goodIn_sub inlX6 (by decide +kernel))) w h)
set_option maxRecDepth 20000 in
theorem gL_law_X6_row : GoodIn wsL_law (wsV RL 33 RX6 yX6_row wsX6_row) := goodIn_app (goodIn_of _ (by decide +kernel)) ggL_law_X6_row
set_option maxRecDepth 20000 in
theorem ggL_law_X5_act : GoodIn wsL_law wsX5_act := goodIn_r _ [225, 226, 227, 228, 16, 229, 230, 2, 231, 232, 233, 234, 235, 11, 12, 236, 237, 238, 239, 240, 241, 242, 243, 244, 245, 246, 247, 248, 249, 250, 251, 252, 253, 28, 254, 255, 52, 720, 721, 722, 723, 724, 725, 653, 654, 655, 656, 657, 658, 659, 660, 661, 662, 663, 664, 665, 666, 708, 709] (by decide +kernel) (by decide +kernel)
set_option maxRecDepth 20000 in
theorem gL_law_X5_act : GoodIn wsL_law (wsV RL 34 RX5 yX5_act wsX5_act) := goodIn_app (goodIn_of _ (by decide +kernel)) ggL_law_X5_act
