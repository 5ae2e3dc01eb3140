set_option maxRecDepth 20000 in
theorem ggX5_number_X5_sortAt : GoodIn wsX5_number wsX5_sortAt := goodIn_r _ [5, 6, 7, 8, 9, 4, 10, 11, 12, 13, 14, 15, 16, 17, 18, 58, 59, 60, 61, 62, 63, 64, 65, 66, 67, 68, 69, 70, 71, 72, 73, 74, 75, 76] (by decide +kernel) (by decide +kernel)
set_option maxRecDepth 20000 in
theorem gX5_number_X5_sortAt : GoodIn wsX5_number (wsV RX5 52 RX5 yX5_sortAt wsX5_sortAt) := goodIn_app (goodIn_of _ (by decide +kernel)) ggX5_number_X5_sortAt
set_option maxRecDepth 20000 in
theorem ggX5_number_X5_changeCell : GoodIn wsX5_number wsX5_changeCell := goodIn_r _ [22, 6, 23, 24, 25, 26, 27, 4, 28, 29, 30, 31, 32, 33, 34, 35, 15, 36, 37, 38, 39, 40, 41, 42, 43, 44, 45, 46, 47, 48, 18, 17, 49, 50, 51, 52, 53, 54, 55, 56, 57, 58, 59, 60, 61, 62, 63, 64, 65, 66, 67, 68, 69, 70, 71, 72, 73, 74, 75, 76] (by decide +kernel) (by decide +kernel)
set_option maxRecDepth 20000 in
theorem gX5_number_X5_changeCell : GoodIn wsX5_number (wsV RX5 56 RX5 yX5_changeCell wsX5_changeCell) := goodIn_app (goodIn_of _ (by decide +kernel)) ggX5_number_X5_changeCell
theorem dX5_number_0 : decode cX5_number 0 = .ok (.aload_n 0, 1) := by decide +kernel
theorem dX5_number_1 : decode cX5_number 1 = .ok (.iload_n 1, 1) := by decide +kernel
theorem dX5_number_2 : decode cX5_number 2 = .ok (.iload_n 2, 1) := by decide +kernel
theorem dX5_number_3 : decode cX5_number 3 = .ok (.invokevirtual 52, 3) := by decide +kernel
theorem dX5_number_6 : decode cX5_number 6 = .ok (.iconst 1, 1) := by decide +kernel
theorem dX5_number_7 : decode cX5_number 7 = .ok (.if_icmp .ne 13, 3) := by decide +kernel
theorem dX5_number_10 : decode cX5_number 10 = .ok (.aload_n 0, 1) := by decide +kernel
theorem dX5_number_11 : decode cX5_number 11 = .ok (.iload_n 1, 1) := by decide +kernel
theorem dX5_number_12 : decode cX5_number 12 = .ok (.iload_n 2, 1) := by decide +kernel
theorem dX5_number_13 : decode cX5_number 13 = .ok (.lload_n 3, 1) := by decide +kernel
theorem dX5_number_14 : decode cX5_number 14 = .ok (.invokevirtual 56, 3) := by decide +kernel
theorem dX5_number_17 : decode cX5_number 17 = .ok (.goto 4, 3) := by decide +kernel
theorem dX5_number_20 : decode cX5_number 20 = .ok (.iconst (-1), 1) := by decide +kernel
theorem dX5_number_21 : decode cX5_number 21 = .ok (.ireturn, 1) := by decide +kernel
set_option maxRecDepth 20000 in
theorem ggX5_link_X5_sortAt : GoodIn wsX5_link wsX5_sortAt := goodIn_r _ [5, 6, 7, 8, 9, 4, 10, 11, 12, 13, 14, 15, 16, 17, 18, 58, 59, 60, 61, 62, 63, 64, 65, 66, 67, 68, 69, 70, 71, 72, 73, 74, 75, 76] (by decide +kernel) (by decide +kernel)
set_option maxRecDepth 20000 in
theorem gX5_link_X5_sortAt : GoodIn wsX5_link (wsV RX5 52 RX5 yX5_sortAt wsX5_sortAt) := goodIn_app (goodIn_of _ (by decide +kernel)) ggX5_link_X5_sortAt
set_option maxRecDepth 20000 in
theorem ggX5_link_X5_isObject : GoodIn wsX5_link wsX5_isObject := goodIn_r _ [10, 11, 58, 59, 60, 61, 62, 63, 64, 65, 66, 67, 68, 69, 70, 71] (by decide +kernel) (by decide +kernel)
set_option maxRecDepth 20000 in
theorem gX5_link_X5_isObject : GoodIn wsX5_link (wsV RX5 60 RX5 yX5_isObject wsX5_isObject) := goodIn_app (goodIn_of _ (by decide +kernel)) ggX5_link_X5_isObject
set_option maxRecDepth 20000 in
theorem ggX5_link_X5_changeCell : GoodIn wsX5_link wsX5_changeCell := goodIn_r _ [22, 6, 23, 24, 25, 26, 27, 4, 28, 29, 30, 31, 32, 33, 34, 35, 15, 36, 37, 38, 39, 40, 41, 42, 43, 44, 45, 46, 47, 48, 18, 17, 49, 50, 51, 52, 53, 54, 55, 56, 57, 58, 59, 60, 61, 62, 63, 64, 65, 66, 67, 68, 69, 70, 71, 72, 73, 74, 75, 76] (by decide +kernel) (by decide +kernel)
set_option maxRecDepth 20000 in
theorem gX5_link_X5_changeCell : GoodIn wsX5_link (wsV RX5 56 RX5 yX5_changeCell wsX5_changeCell) := goodIn_app (goodIn_of _ (by decide +kernel)) ggX5_link_X5_changeCell
theorem dX5_link_0 : decode cX5_link 0 = .ok (.aload_n 0, 1) := by decide +kernel
theorem dX5_link_1 : decode cX5_link 1 = .ok (.iload_n 1, 1) := by decide +kernel
theorem dX5_link_2 : decode cX5_link 2 = .ok (.iload_n 2, 1) := by decide +kernel
theorem dX5_link_3 : decode cX5_link 3 = .ok (.invokevirtual 52, 3) := by decide +kernel
theorem dX5_link_6 : decode cX5_link 6 = .ok (.iconst 2, 1) := by decide +kernel
theorem dX5_link_7 : decode cX5_link 7 = .ok (.if_icmp .ne 17, 3) := by decide +kernel
theorem dX5_link_10 : decode cX5_link 10 = .ok (.iload_n 3, 1) := by decide +kernel
theorem dX5_link_11 : decode cX5_link 11 = .ok (.bipush (-3), 2) := by decide +kernel
theorem dX5_link_13 : decode cX5_link 13 = .ok (.if_icmp .eq 13, 3) := by decide +kernel
theorem dX5_link_16 : decode cX5_link 16 = .ok (.aload_n 0, 1) := by decide +kernel
theorem dX5_link_17 : decode cX5_link 17 = .ok (.iload_n 3, 1) := by decide +kernel
theorem dX5_link_18 : decode cX5_link 18 = .ok (.invokevirtual 60, 3) := by decide +kernel
theorem dX5_link_21 : decode cX5_link 21 = .ok (.ifCond .ne 5, 3) := by decide +kernel
theorem dX5_link_24 : decode cX5_link 24 = .ok (.iconst (-1), 1) := by decide +kernel
theorem dX5_link_25 : decode cX5_link 25 = .ok (.ireturn, 1) := by decide +kernel
theorem dX5_link_26 : decode cX5_link 26 = .ok (.aload_n 0, 1) := by decide +kernel
theorem dX5_link_27 : decode cX5_link 27 = .ok (.iload_n 1, 1) := by decide +kernel
theorem dX5_link_28 : decode cX5_link 28 = .ok (.iload_n 2, 1) := by decide +kernel
theorem dX5_link_29 : decode cX5_link 29 = .ok (.iload_n 3, 1) := by decide +kernel
theorem dX5_link_30 : decode cX5_link 30 = .ok (.i2l, 1) := by decide +kernel
theorem dX5_link_31 : decode cX5_link 31 = .ok (.invokevirtual 56, 3) := by decide +kernel
theorem dX5_link_34 : decode cX5_link 34 = .ok (.ireturn, 1) := by decide +kernel
set_option maxRecDepth 20000 in
theorem ggX5_row_X5_sortAt : GoodIn wsX5_row wsX5_sortAt := goodIn_r _ [7, 1, 8, 9, 10, 6, 11, 12, 13, 14, 15, 16, 17, 18, 19, 64, 65, 66, 67, 68, 69, 70, 71, 72, 73, 74, 75, 76, 77, 78, 79, 80, 81, 82] (by decide +kernel) (by decide +kernel)
set_option maxRecDepth 20000 in
theorem gX5_row_X5_sortAt : GoodIn wsX5_row (wsV RX5 52 RX5 yX5_sortAt wsX5_sortAt) := goodIn_app (goodIn_of _ (by decide +kernel)) ggX5_row_X5_sortAt
set_option maxRecDepth 20000 in
theorem ggX5_row_X2_hasBlankRow : GoodIn wsX5_row wsX2_hasBlankRow := goodIn_r _ [23, 24, 25, 26, 27, 16, 28, 78, 79, 80, 81, 82] (by decide +kernel) (by decide +kernel)
set_option maxRecDepth 20000 in
theorem gX5_row_X2_hasBlankRow : GoodIn wsX5_row (wsV RX5 64 RX2 yX2_hasBlankRow wsX2_hasBlankRow) := goodIn_app (goodIn_of _ (by decide +kernel)) ggX5_row_X2_hasBlankRow
set_option maxRecDepth 20000 in
theorem ggX5_row_X5_raiseHeight : GoodIn wsX5_row wsX5_raiseHeight := goodIn_r _ [32, 2, 33, 64, 65, 66, 67, 68, 69, 70, 71, 72, 73, 74, 75, 76, 77] (by decide +kernel) (by decide +kernel)
set_option maxRecDepth 20000 in
theorem gX5_row_X5_raiseHeight : GoodIn wsX5_row (wsV RX5 71 RX5 yX5_raiseHeight wsX5_raiseHeight) := goodIn_app (goodIn_of _ (by decide +kernel)) ggX5_row_X5_raiseHeight
set_option maxRecDepth 20000 in
theorem ggX5_row_X5_newVersion : GoodIn wsX5_row wsX5_newVersion := goodIn_r _ [37, 38, 39, 16, 40, 2, 41, 1, 42, 43, 44, 45, 46, 47, 48, 49, 24, 50, 25, 19, 18, 51, 52, 53, 54, 55, 56, 57, 58, 59, 78, 79, 80, 81, 82, 64, 65, 66, 67, 68, 69, 70, 71, 72, 73, 74, 75, 76, 77] (by decide +kernel) (by decide +kernel)
set_option maxRecDepth 20000 in
theorem gX5_row_X5_newVersion : GoodIn wsX5_row (wsV RX5 74 RX5 yX5_newVersion wsX5_newVersion) := goodIn_app (goodIn_of _ (by decide +kernel)) ggX5_row_X5_newVersion
set_option maxRecDepth 20000 in
theorem ggX5_row_X2_renewRow : GoodIn wsX5_row wsX2_renewRow := goodIn_r _ [63, 24, 25, 26, 27, 16, 28, 78, 79, 80, 81, 82] (by decide +kernel) (by decide +kernel)
set_option maxRecDepth 20000 in
theorem gX5_row_X2_renewRow : GoodIn wsX5_row (wsV RX5 78 RX2 yX2_renewRow wsX2_renewRow) := goodIn_app (goodIn_of _ (by decide +kernel)) ggX5_row_X2_renewRow
theorem dX5_row_0 : decode cX5_row 0 = .ok (.aload_n 0, 1) := by decide +kernel
theorem dX5_row_1 : decode cX5_row 1 = .ok (.iload_n 1, 1) := by decide +kernel
theorem dX5_row_2 : decode cX5_row 2 = .ok (.iload_n 2, 1) := by decide +kernel
theorem dX5_row_3 : decode cX5_row 3 = .ok (.invokevirtual 52, 3) := by decide +kernel
theorem dX5_row_6 : decode cX5_row 6 = .ok (.iconst 3, 1) := by decide +kernel
theorem dX5_row_7 : decode cX5_row 7 = .ok (.if_icmp .ne 19, 3) := by decide +kernel
theorem dX5_row_10 : decode cX5_row 10 = .ok (.iload_n 3, 1) := by decide +kernel
theorem dX5_row_11 : decode cX5_row 11 = .ok (.bipush (-3), 2) := by decide +kernel
theorem dX5_row_13 : decode cX5_row 13 = .ok (.if_icmp .eq 15, 3) := by decide +kernel
theorem dX5_row_16 : decode cX5_row 16 = .ok (.iload_n 3, 1) := by decide +kernel
theorem dX5_row_17 : decode cX5_row 17 = .ok (.ifCond .lt 9, 3) := by decide +kernel
theorem dX5_row_20 : decode cX5_row 20 = .ok (.iload_n 3, 1) := by decide +kernel
theorem dX5_row_21 : decode cX5_row 21 = .ok (.bipush 8, 2) := by decide +kernel
theorem dX5_row_23 : decode cX5_row 23 = .ok (.if_icmp .le 5, 3) := by decide +kernel
theorem dX5_row_26 : decode cX5_row 26 = .ok (.iconst (-1), 1) := by decide +kernel
theorem dX5_row_27 : decode cX5_row 27 = .ok (.ireturn, 1) := by decide +kernel
theorem dX5_row_28 : decode cX5_row 28 = .ok (.aload_n 0, 1) := by decide +kernel
theorem dX5_row_29 : decode cX5_row 29 = .ok (.getfield 11, 3) := by decide +kernel
theorem dX5_row_32 : decode cX5_row 32 = .ok (.iload_n 1, 1) := by decide +kernel
theorem dX5_row_33 : decode cX5_row 33 = .ok (.aaload, 1) := by decide +kernel
theorem dX5_row_34 : decode cX5_row 34 = .ok (.iload_n 2, 1) := by decide +kernel
theorem dX5_row_35 : decode cX5_row 35 = .ok (.iload_n 3, 1) := by decide +kernel
theorem dX5_row_36 : decode cX5_row 36 = .ok (.invokevirtual 64, 3) := by decide +kernel
theorem dX5_row_39 : decode cX5_row 39 = .ok (.ifCond .eq 8, 3) := by decide +kernel
theorem dX5_row_42 : decode cX5_row 42 = .ok (.aload_n 0, 1) := by decide +kernel
theorem dX5_row_43 : decode cX5_row 43 = .ok (.getfield 68, 3) := by decide +kernel
theorem dX5_row_46 : decode cX5_row 46 = .ok (.ireturn, 1) := by decide +kernel
theorem dX5_row_47 : decode cX5_row 47 = .ok (.aload_n 0, 1) := by decide +kernel
theorem dX5_row_48 : decode cX5_row 48 = .ok (.getfield 68, 3) := by decide +kernel
theorem dX5_row_51 : decode cX5_row 51 = .ok (.bipush 40, 2) := by decide +kernel
theorem dX5_row_53 : decode cX5_row 53 = .ok (.if_icmp .lt 6, 3) := by decide +kernel
theorem dX5_row_56 : decode cX5_row 56 = .ok (.bipush (-2), 2) := by decide +kernel
theorem dX5_row_58 : decode cX5_row 58 = .ok (.ireturn, 1) := by decide +kernel
theorem dX5_row_59 : decode cX5_row 59 = .ok (.aload_n 0, 1) := by decide +kernel
theorem dX5_row_60 : decode cX5_row 60 = .ok (.invokevirtual 71, 3) := by decide +kernel
theorem dX5_row_63 : decode cX5_row 63 = .ok (.aload_n 0, 1) := by decide +kernel
theorem dX5_row_64 : decode cX5_row 64 = .ok (.iload_n 1, 1) := by decide +kernel
theorem dX5_row_65 : decode cX5_row 65 = .ok (.aload_n 0, 1) := by decide +kernel
theorem dX5_row_66 : decode cX5_row 66 = .ok (.getfield 11, 3) := by decide +kernel
theorem dX5_row_69 : decode cX5_row 69 = .ok (.iload_n 1, 1) := by decide +kernel
theorem dX5_row_70 : decode cX5_row 70 = .ok (.aaload, 1) := by decide +kernel
theorem dX5_row_71 : decode cX5_row 71 = .ok (.invokevirtual 74, 3) := by decide +kernel
theorem dX5_row_74 : decode cX5_row 74 = .ok (.iload_n 2, 1) := by decide +kernel
theorem dX5_row_75 : decode cX5_row 75 = .ok (.iload_n 3, 1) := by decide +kernel
theorem dX5_row_76 : decode cX5_row 76 = .ok (.invokevirtual 78, 3) := by decide +kernel
theorem dX5_row_79 : decode cX5_row 79 = .ok (.aload_n 0, 1) := by decide +kernel
theorem dX5_row_80 : decode cX5_row 80 = .ok (.getfield 68, 3) := by decide +kernel
theorem dX5_row_83 : decode cX5_row 83 = .ok (.ireturn, 1) := by decide +kernel
set_option maxRecDepth 20000 in
theorem ggX5_act_X5_isBehaviour : GoodIn wsX5_act wsX5_isBehaviour := goodIn_r _ [8] (by decide +kernel) (by decide +kernel)
set_option maxRecDepth 20000 in
theorem gX5_act_X5_isBehaviour : GoodIn wsX5_act (va_wsS RX5 82 yX5_isBehaviour wsX5_isBehaviour) := goodIn_app (goodIn_of _ (by decide +kernel)) ggX5_act_X5_isBehaviour
set_option maxRecDepth 20000 in
theorem ggX5_act_X0_init : GoodIn wsX5_act wsX0_init := goodIn_r _ [11, 12, 13, 14, 15, 16, 17, 18, 19, 20, 37, 38, 39, 40, 41, 42] (by decide +kernel) (by decide +kernel)
set_option maxRecDepth 20000 in
theorem gX5_act_X0_init : GoodIn wsX5_act (wsX0_init) := ggX5_act_X0_init
set_option maxRecDepth 20000 in
theorem ggX5_act_X0_isAsTold : GoodIn wsX5_act wsX0_isAsTold := goodIn_r _ [24, 16, 17, 18, 19, 20, 25, 26, 27, 3, 28, 29, 15, 37, 38, 39, 40, 41, 42] (by decide +kernel) (by decide +kernel)
set_option maxRecDepth 20000 in
theorem gX5_act_X0_isAsTold : GoodIn wsX5_act (wsV RX5 90 RX0 yX0_isAsTold wsX0_isAsTold) := goodIn_app (goodIn_of _ (by decide +kernel)) ggX5_act_X0_isAsTold
set_option maxRecDepth 20000 in
theorem ggX5_act_X1_append : GoodIn wsX5_act wsX1_append := goodIn_r _ [34, 35, 36, 57, 58] (by decide +kernel) (by decide +kernel)
set_option maxRecDepth 20000 in
theorem gX5_act_X1_append : GoodIn wsX5_act (wsV RX5 94 RX1 yX1_append wsX1_append) := goodIn_app (goodIn_of _ (by decide +kernel)) ggX5_act_X1_append
theorem dX5_act_0 : decode cX5_act 0 = .ok (.iload_n 1, 1) := by decide +kernel
theorem dX5_act_1 : decode cX5_act 1 = .ok (.invokestatic 82, 3) := by decide +kernel
theorem dX5_act_4 : decode cX5_act 4 = .ok (.ifCond .eq 13, 3) := by decide +kernel
theorem dX5_act_7 : decode cX5_act 7 = .ok (.iload_n 2, 1) := by decide +kernel
theorem dX5_act_8 : decode cX5_act 8 = .ok (.ifCond .lt 9, 3) := by decide +kernel
theorem dX5_act_11 : decode cX5_act 11 = .ok (.iload_n 2, 1) := by decide +kernel
theorem dX5_act_12 : decode cX5_act 12 = .ok (.bipush 18, 2) := by decide +kernel
theorem dX5_act_14 : decode cX5_act 14 = .ok (.if_icmp .lt 5, 3) := by decide +kernel
theorem dX5_act_17 : decode cX5_act 17 = .ok (.iconst (-1), 1) := by decide +kernel
theorem dX5_act_18 : decode cX5_act 18 = .ok (.ireturn, 1) := by decide +kernel
theorem dX5_act_19 : decode cX5_act 19 = .ok (.new 85, 3) := by decide +kernel
theorem dX5_act_22 : decode cX5_act 22 = .ok (.dup, 1) := by decide +kernel
theorem dX5_act_23 : decode cX5_act 23 = .ok (.iload_n 2, 1) := by decide +kernel
theorem dX5_act_24 : decode cX5_act 24 = .ok (.iload_n 3, 1) := by decide +kernel
theorem dX5_act_25 : decode cX5_act 25 = .ok (.lload 4, 2) := by decide +kernel
theorem dX5_act_27 : decode cX5_act 27 = .ok (.iload 6, 2) := by decide +kernel
theorem dX5_act_29 : decode cX5_act 29 = .ok (.iload 7, 2) := by decide +kernel
theorem dX5_act_31 : decode cX5_act 31 = .ok (.iload 8, 2) := by decide +kernel
theorem dX5_act_33 : decode cX5_act 33 = .ok (.invokespecial 87, 3) := by decide +kernel
theorem dX5_act_36 : decode cX5_act 36 = .ok (.astore 9, 2) := by decide +kernel
theorem dX5_act_38 : decode cX5_act 38 = .ok (.aload 9, 2) := by decide +kernel
theorem dX5_act_40 : decode cX5_act 40 = .ok (.invokevirtual 90, 3) := by decide +kernel
theorem dX5_act_43 : decode cX5_act 43 = .ok (.ifCond .eq 17, 3) := by decide +kernel
theorem dX5_act_46 : decode cX5_act 46 = .ok (.aload_n 0, 1) := by decide +kernel
theorem dX5_act_47 : decode cX5_act 47 = .ok (.getfield 17, 3) := by decide +kernel
theorem dX5_act_50 : decode cX5_act 50 = .ok (.iload_n 1, 1) := by decide +kernel
theorem dX5_act_51 : decode cX5_act 51 = .ok (.aaload, 1) := by decide +kernel
theorem dX5_act_52 : decode cX5_act 52 = .ok (.aload 9, 2) := by decide +kernel
theorem dX5_act_54 : decode cX5_act 54 = .ok (.invokevirtual 94, 3) := by decide +kernel
theorem dX5_act_57 : decode cX5_act 57 = .ok (.goto 4, 3) := by decide +kernel
theorem dX5_act_60 : decode cX5_act 60 = .ok (.iconst (-1), 1) := by decide +kernel
theorem dX5_act_61 : decode cX5_act 61 = .ok (.ireturn, 1) := by decide +kernel
set_option maxRecDepth 20000 in
theorem ggX5_clear_X5_isBehaviour : GoodIn wsX5_clear wsX5_isBehaviour := goodIn_r _ [5] (by decide +kernel) (by decide +kernel)
set_option maxRecDepth 20000 in
theorem gX5_clear_X5_isBehaviour : GoodIn wsX5_clear (va_wsS RX5 82 yX5_isBehaviour wsX5_isBehaviour) := goodIn_app (goodIn_of _ (by decide +kernel)) ggX5_clear_X5_isBehaviour
set_option maxRecDepth 20000 in
theorem ggX5_clear_X1_empty : GoodIn wsX5_clear wsX1_empty := goodIn_r _ [10, 11, 26, 27] (by decide +kernel) (by decide +kernel)
set_option maxRecDepth 20000 in
theorem gX5_clear_X1_empty : GoodIn wsX5_clear (wsV RX5 98 RX1 yX1_empty wsX1_empty) := goodIn_app (goodIn_of _ (by decide +kernel)) ggX5_clear_X1_empty
theorem dX5_clear_0 : decode cX5_clear 0 = .ok (.iload_n 1, 1) := by decide +kernel
theorem dX5_clear_1 : decode cX5_clear 1 = .ok (.invokestatic 82, 3) := by decide +kernel
theorem dX5_clear_4 : decode cX5_clear 4 = .ok (.ifCond .eq 15, 3) := by decide +kernel
theorem dX5_clear_7 : decode cX5_clear 7 = .ok (.aload_n 0, 1) := by decide +kernel
theorem dX5_clear_8 : decode cX5_clear 8 = .ok (.getfield 17, 3) := by decide +kernel
theorem dX5_clear_11 : decode cX5_clear 11 = .ok (.iload_n 1, 1) := by decide +kernel
theorem dX5_clear_12 : decode cX5_clear 12 = .ok (.aaload, 1) := by decide +kernel
theorem dX5_clear_13 : decode cX5_clear 13 = .ok (.invokevirtual 98, 3) := by decide +kernel
theorem dX5_clear_16 : decode cX5_clear 16 = .ok (.goto 4, 3) := by decide +kernel
theorem dX5_clear_19 : decode cX5_clear 19 = .ok (.iconst (-1), 1) := by decide +kernel
theorem dX5_clear_20 : decode cX5_clear 20 = .ok (.ireturn, 1) := by decide +kernel
set_option maxRecDepth 20000 in
theorem ggX5_call_X5_callRefusal : GoodIn wsX5_call wsX5_callRefusal := goodIn_r _ [14, 15, 16, 17, 18, 13, 19, 20, 21, 22, 23, 248, 249, 250, 251, 252, 253, 254, 255, 256, 257, 258, 259, 260, 261] (by decide +kernel) (by decide +kernel)
set_option maxRecDepth 20000 in
theorem gX5_call_X5_callRefusal : GoodIn wsX5_call (wsV RX5 102 RX5 yX5_callRefusal wsX5_callRefusal) := goodIn_app (goodIn_of _ (by decide +kernel)) ggX5_call_X5_callRefusal
set_option maxRecDepth 20000 in
theorem ggX5_call_X3_start : GoodIn wsX5_call wsX3_start := goodIn_r _ [28, 29, 30, 31, 32, 33, 34, 35, 36, 37, 38, 39, 40, 41, 42, 43, 44, 45, 46, 47, 48, 49, 50, 51, 52, 53, 54, 262, 263, 264, 265, 266, 267, 268, 269, 270, 271, 272, 273, 274, 275, 276, 277] (by decide +kernel) (by decide +kernel)
set_option maxRecDepth 20000 in
theorem gX5_call_X3_start : GoodIn wsX5_call (wsV RX5 105 RX3 yX3_start wsX3_start) := goodIn_app (goodIn_of _ (by decide +kernel)) ggX5_call_X3_start
set_option maxRecDepth 20000 in
theorem ggX5_call_X3_work : GoodIn wsX5_call wsX3_work := goodIn_r _ [58, 32, 59, 60, 61, 62, 63, 64, 65, 66, 67, 68, 69, 27, 70, 34, 35, 71, 72, 73, 74, 75, 76, 77, 78, 37, 36, 79, 80, 81, 82, 83, 84, 85, 86, 87, 88, 89, 90, 91, 92, 93, 94, 95, 96, 97, 31, 98, 99, 100, 29, 101, 102, 13, 103, 104, 105, 106, 107, 108, 109, 110, 111, 112, 113, 114, 115, 116, 117, 118, 119, 120, 121, 122, 123, 124, 125, 126, 127, 128, 129, 130, 131, 132, 30, 133, 134, 135, 41, 136, 45, 137, 43, 138, 139, 140, 141, 142, 143, 144, 145, 146, 147, 148, 149, 46, 44, 150, 151, 152, 153, 154, 155, 156, 157, 158, 159, 160, 161, 162, 163, 164, 165, 166, 167, 168, 169, 170, 171, 172, 173, 174, 175, 176, 177, 178, 179, 180, 181, 182, 183, 184, 185, 186, 187, 188, 189, 190, 191, 192, 193, 194, 195, 196, 197, 198, 199, 200, 201, 202, 203, 204, 205, 206, 207, 208, 209, 210, 33, 262, 263, 264, 265, 266, 267, 268, 269, 270, 271, 272, 278, 279, 280, 281, 282, 283, 284, 285, 286, 287, 288, 289, 290, 273, 274, 275, 276, 277] (by decide +kernel) (by decide +kernel)
set_option maxRecDepth 20000 in
theorem gX5_call_X3_work : GoodIn wsX5_call (wsV RX5 109 RX3 yX3_work wsX3_work) := goodIn_app (goodIn_of _ (by decide +kernel)) ggX5_call_X3_work
set_option maxRecDepth 20000 in
theorem ggX5_call_J6_bitCount_0f7a4 : GoodIn wsX5_call wsJ6_bitCount_0f7a4 := goodIn_r _ [214, 215, 216, 217] (by decide +kernel) (by decide +kernel)
set_option maxRecDepth 20000 in
theorem gX5_call_J6_bitCount_0f7a4 : GoodIn wsX5_call (va_wsS RX5 125 yJ6_bitCount_0f7a4 wsJ6_bitCount_0f7a4) := goodIn_app (goodIn_of _ (by decide +kernel)) ggX5_call_J6_bitCount_0f7a4
set_option maxRecDepth 20000 in
theorem ggX5_call_X5_keepChanges : GoodIn wsX5_call wsX5_keepChanges := goodIn_r _ [221, 20, 8, 1, 6, 222, 102, 13, 103, 223, 224, 225, 226, 2, 227, 228, 229, 230, 231, 27, 232, 31, 93, 29, 233, 195, 196, 100, 197, 111, 198, 126, 127, 128, 115, 114, 199, 200, 201, 202, 113, 183, 168, 169, 234, 235, 236, 237, 15, 7, 238, 239, 240, 241, 242, 99, 243, 244, 245, 246, 105, 106, 107, 108, 109, 110, 112, 116, 247, 118, 119, 120, 121, 122, 123, 124, 248, 249, 250, 251, 252, 253, 254, 255, 256, 257, 258, 259, 260, 261, 262, 263, 264, 265, 266, 267, 268, 269, 270, 271, 272, 286, 287, 288, 289, 290] (by decide +kernel) (by decide +kernel)
set_option maxRecDepth 20000 in
theorem gX5_call_X5_keepChanges : GoodIn wsX5_call (wsV RX5 137 RX5 yX5_keepChanges wsX5_keepChanges) := goodIn_app (goodIn_of _ (by decide +kernel)) ggX5_call_X5_keepChanges
theorem dX5_call_0 : decode cX5_call 0 = .ok (.aload_n 0, 1) := by decide +kernel
theorem dX5_call_1 : decode cX5_call 1 = .ok (.iload_n 1, 1) := by decide +kernel
theorem dX5_call_2 : decode cX5_call 2 = .ok (.iload_n 2, 1) := by decide +kernel
theorem dX5_call_3 : decode cX5_call 3 = .ok (.invokevirtual 102, 3) := by decide +kernel
theorem dX5_call_6 : decode cX5_call 6 = .ok (.istore 5, 2) := by decide +kernel
theorem dX5_call_8 : decode cX5_call 8 = .ok (.iload 5, 2) := by decide +kernel
theorem dX5_call_10 : decode cX5_call 10 = .ok (.ifCond .eq 6, 3) := by decide +kernel
theorem dX5_call_13 : decode cX5_call 13 = .ok (.iload 5, 2) := by decide +kernel
theorem dX5_call_15 : decode cX5_call 15 = .ok (.ireturn, 1) := by decide +kernel
theorem dX5_call_16 : decode cX5_call 16 = .ok (.aload_n 0, 1) := by decide +kernel
theorem dX5_call_17 : decode cX5_call 17 = .ok (.getfield 24, 3) := by decide +kernel
theorem dX5_call_20 : decode cX5_call 20 = .ok (.aload_n 0, 1) := by decide +kernel
theorem dX5_call_21 : decode cX5_call 21 = .ok (.getfield 11, 3) := by decide +kernel
theorem dX5_call_24 : decode cX5_call 24 = .ok (.iload_n 1, 1) := by decide +kernel
theorem dX5_call_25 : decode cX5_call 25 = .ok (.lload_n 3, 1) := by decide +kernel
theorem dX5_call_26 : decode cX5_call 26 = .ok (.invokevirtual 105, 3) := by decide +kernel
theorem dX5_call_29 : decode cX5_call 29 = .ok (.aload_n 0, 1) := by decide +kernel
theorem dX5_call_30 : decode cX5_call 30 = .ok (.getfield 24, 3) := by decide +kernel
theorem dX5_call_33 : decode cX5_call 33 = .ok (.aload_n 0, 1) := by decide +kernel
theorem dX5_call_34 : decode cX5_call 34 = .ok (.getfield 17, 3) := by decide +kernel
theorem dX5_call_37 : decode cX5_call 37 = .ok (.iload_n 2, 1) := by decide +kernel
theorem dX5_call_38 : decode cX5_call 38 = .ok (.aaload, 1) := by decide +kernel
theorem dX5_call_39 : decode cX5_call 39 = .ok (.invokevirtual 109, 3) := by decide +kernel
theorem dX5_call_42 : decode cX5_call 42 = .ok (.aload_n 0, 1) := by decide +kernel
theorem dX5_call_43 : decode cX5_call 43 = .ok (.dup, 1) := by decide +kernel
theorem dX5_call_44 : decode cX5_call 44 = .ok (.getfield 113, 3) := by decide +kernel
theorem dX5_call_47 : decode cX5_call 47 = .ok (.iconst 1, 1) := by decide +kernel
theorem dX5_call_48 : decode cX5_call 48 = .ok (.iadd, 1) := by decide +kernel
theorem dX5_call_49 : decode cX5_call 49 = .ok (.putfield 113, 3) := by decide +kernel
theorem dX5_call_52 : decode cX5_call 52 = .ok (.aload_n 0, 1) := by decide +kernel
theorem dX5_call_53 : decode cX5_call 53 = .ok (.dup, 1) := by decide +kernel
theorem dX5_call_54 : decode cX5_call 54 = .ok (.getfield 116, 3) := by decide +kernel
theorem dX5_call_57 : decode cX5_call 57 = .ok (.aload_n 0, 1) := by decide +kernel
theorem dX5_call_58 : decode cX5_call 58 = .ok (.getfield 24, 3) := by decide +kernel
theorem dX5_call_61 : decode cX5_call 61 = .ok (.getfield 119, 3) := by decide +kernel
theorem dX5_call_64 : decode cX5_call 64 = .ok (.aload_n 0, 1) := by decide +kernel
theorem dX5_call_65 : decode cX5_call 65 = .ok (.getfield 122, 3) := by decide +kernel
theorem dX5_call_68 : decode cX5_call 68 = .ok (.iconst (-1), 1) := by decide +kernel
theorem dX5_call_69 : decode cX5_call 69 = .ok (.ixor, 1) := by decide +kernel
theorem dX5_call_70 : decode cX5_call 70 = .ok (.iand, 1) := by decide +kernel
theorem dX5_call_71 : decode cX5_call 71 = .ok (.invokestatic 125, 3) := by decide +kernel
theorem dX5_call_74 : decode cX5_call 74 = .ok (.iadd, 1) := by decide +kernel
theorem dX5_call_75 : decode cX5_call 75 = .ok (.putfield 116, 3) := by decide +kernel
theorem dX5_call_78 : decode cX5_call 78 = .ok (.aload_n 0, 1) := by decide +kernel
theorem dX5_call_79 : decode cX5_call 79 = .ok (.dup, 1) := by decide +kernel
theorem dX5_call_80 : decode cX5_call 80 = .ok (.getfield 122, 3) := by decide +kernel
theorem dX5_call_83 : decode cX5_call 83 = .ok (.aload_n 0, 1) := by decide +kernel
theorem dX5_call_84 : decode cX5_call 84 = .ok (.getfield 24, 3) := by decide +kernel
theorem dX5_call_87 : decode cX5_call 87 = .ok (.getfield 119, 3) := by decide +kernel
theorem dX5_call_90 : decode cX5_call 90 = .ok (.ior, 1) := by decide +kernel
theorem dX5_call_91 : decode cX5_call 91 = .ok (.putfield 122, 3) := by decide +kernel
theorem dX5_call_94 : decode cX5_call 94 = .ok (.aload_n 0, 1) := by decide +kernel
theorem dX5_call_95 : decode cX5_call 95 = .ok (.iconst 0, 1) := by decide +kernel
theorem dX5_call_96 : decode cX5_call 96 = .ok (.putfield 131, 3) := by decide +kernel
theorem dX5_call_99 : decode cX5_call 99 = .ok (.aload_n 0, 1) := by decide +kernel
theorem dX5_call_100 : decode cX5_call 100 = .ok (.getfield 24, 3) := by decide +kernel
theorem dX5_call_103 : decode cX5_call 103 = .ok (.getfield 134, 3) := by decide +kernel
theorem dX5_call_106 : decode cX5_call 106 = .ok (.ifCond .ne 7, 3) := by decide +kernel
theorem dX5_call_109 : decode cX5_call 109 = .ok (.aload_n 0, 1) := by decide +kernel
theorem dX5_call_110 : decode cX5_call 110 = .ok (.invokevirtual 137, 3) := by decide +kernel
theorem dX5_call_113 : decode cX5_call 113 = .ok (.aload_n 0, 1) := by decide +kernel
theorem dX5_call_114 : decode cX5_call 114 = .ok (.getfield 24, 3) := by decide +kernel
theorem dX5_call_117 : decode cX5_call 117 = .ok (.getfield 134, 3) := by decide +kernel
theorem dX5_call_120 : decode cX5_call 120 = .ok (.ireturn, 1) := by decide +kernel
theorem dX5_gave_0 : decode cX5_gave 0 = .ok (.aload_n 0, 1) := by decide +kernel
theorem dX5_gave_1 : decode cX5_gave 1 = .ok (.getfield 24, 3) := by decide +kernel
theorem dX5_gave_4 : decode cX5_gave 4 = .ok (.getfield 140, 3) := by decide +kernel
theorem dX5_gave_7 : decode cX5_gave 7 = .ok (.lreturn, 1) := by decide +kernel
theorem dX5_where_0 : decode cX5_where 0 = .ok (.aload_n 0, 1) := by decide +kernel
theorem dX5_where_1 : decode cX5_where 1 = .ok (.getfield 24, 3) := by decide +kernel
theorem dX5_where_4 : decode cX5_where 4 = .ok (.getfield 144, 3) := by decide +kernel
theorem dX5_where_7 : decode cX5_where 7 = .ok (.ireturn, 1) := by decide +kernel
theorem dX5_touched_0 : decode cX5_touched 0 = .ok (.iload_n 1, 1) := by decide +kernel
theorem dX5_touched_1 : decode cX5_touched 1 = .ok (.ifCond .lt 12, 3) := by decide +kernel
theorem dX5_touched_4 : decode cX5_touched 4 = .ok (.iload_n 2, 1) := by decide +kernel
theorem dX5_touched_5 : decode cX5_touched 5 = .ok (.ifCond .lt 8, 3) := by decide +kernel
theorem dX5_touched_8 : decode cX5_touched 8 = .ok (.iload_n 2, 1) := by decide +kernel
theorem dX5_touched_9 : decode cX5_touched 9 = .ok (.iconst 1, 1) := by decide +kernel
theorem dX5_touched_10 : decode cX5_touched 10 = .ok (.if_icmp .le 5, 3) := by decide +kernel
theorem dX5_touched_13 : decode cX5_touched 13 = .ok (.iconst (-1), 1) := by decide +kernel
theorem dX5_touched_14 : decode cX5_touched 14 = .ok (.ireturn, 1) := by decide +kernel
theorem dX5_touched_15 : decode cX5_touched 15 = .ok (.aload_n 0, 1) := by decide +kernel
theorem dX5_touched_16 : decode cX5_touched 16 = .ok (.getfield 24, 3) := by decide +kernel
theorem dX5_touched_19 : decode cX5_touched 19 = .ok (.getfield 147, 3) := by decide +kernel
theorem dX5_touched_22 : decode cX5_touched 22 = .ok (.astore_n 3, 1) := by decide +kernel
theorem dX5_touched_23 : decode cX5_touched 23 = .ok (.iload_n 1, 1) := by decide +kernel
theorem dX5_touched_24 : decode cX5_touched 24 = .ok (.aload_n 3, 1) := by decide +kernel
theorem dX5_touched_25 : decode cX5_touched 25 = .ok (.getfield 151, 3) := by decide +kernel
theorem dX5_touched_28 : decode cX5_touched 28 = .ok (.if_icmp .lt 6, 3) := by decide +kernel
theorem dX5_touched_31 : decode cX5_touched 31 = .ok (.bipush (-3), 2) := by decide +kernel
theorem dX5_touched_33 : decode cX5_touched 33 = .ok (.ireturn, 1) := by decide +kernel
theorem dX5_touched_34 : decode cX5_touched 34 = .ok (.iload_n 2, 1) := by decide +kernel
theorem dX5_touched_35 : decode cX5_touched 35 = .ok (.ifCond .ne 14, 3) := by decide +kernel
theorem dX5_touched_38 : decode cX5_touched 38 = .ok (.aload_n 3, 1) := by decide +kernel
theorem dX5_touched_39 : decode cX5_touched 39 = .ok (.getfield 156, 3) := by decide +kernel
theorem dX5_touched_42 : decode cX5_touched 42 = .ok (.iload_n 1, 1) := by decide +kernel
theorem dX5_touched_43 : decode cX5_touched 43 = .ok (.iaload, 1) := by decide +kernel
theorem dX5_touched_44 : decode cX5_touched 44 = .ok (.iconst 1, 1) := by decide +kernel
theorem dX5_touched_45 : decode cX5_touched 45 = .ok (.ishr, 1) := by decide +kernel
theorem dX5_touched_46 : decode cX5_touched 46 = .ok (.goto 11, 3) := by decide +kernel
theorem dX5_touched_49 : decode cX5_touched 49 = .ok (.aload_n 3, 1) := by decide +kernel
theorem dX5_touched_50 : decode cX5_touched 50 = .ok (.getfield 156, 3) := by decide +kernel
theorem dX5_touched_53 : decode cX5_touched 53 = .ok (.iload_n 1, 1) := by decide +kernel
theorem dX5_touched_54 : decode cX5_touched 54 = .ok (.iaload, 1) := by decide +kernel
theorem dX5_touched_55 : decode cX5_touched 55 = .ok (.iconst 1, 1) := by decide +kernel
theorem dX5_touched_56 : decode cX5_touched 56 = .ok (.iand, 1) := by decide +kernel
theorem dX5_touched_57 : decode cX5_touched 57 = .ok (.ireturn, 1) := by decide +kernel
theorem dX5_written_0 : decode cX5_written 0 = .ok (.iload_n 1, 1) := by decide +kernel
theorem dX5_written_1 : decode cX5_written 1 = .ok (.ifCond .ge 5, 3) := by decide +kernel
theorem dX5_written_4 : decode cX5_written 4 = .ok (.iconst (-1), 1) := by decide +kernel
theorem dX5_written_5 : decode cX5_written 5 = .ok (.ireturn, 1) := by decide +kernel
theorem dX5_written_6 : decode cX5_written 6 = .ok (.iload_n 1, 1) := by decide +kernel
theorem dX5_written_7 : decode cX5_written 7 = .ok (.aload_n 0, 1) := by decide +kernel
theorem dX5_written_8 : decode cX5_written 8 = .ok (.getfield 131, 3) := by decide +kernel
theorem dX5_written_11 : decode cX5_written 11 = .ok (.if_icmp .ge 12, 3) := by decide +kernel
theorem dX5_written_14 : decode cX5_written 14 = .ok (.aload_n 0, 1) := by decide +kernel
theorem dX5_written_15 : decode cX5_written 15 = .ok (.getfield 34, 3) := by decide +kernel
theorem dX5_written_18 : decode cX5_written 18 = .ok (.iload_n 1, 1) := by decide +kernel
theorem dX5_written_19 : decode cX5_written 19 = .ok (.iaload, 1) := by decide +kernel
theorem dX5_written_20 : decode cX5_written 20 = .ok (.goto 5, 3) := by decide +kernel
theorem dX5_written_23 : decode cX5_written 23 = .ok (.bipush (-3), 2) := by decide +kernel
theorem dX5_written_25 : decode cX5_written 25 = .ok (.ireturn, 1) := by decide +kernel
set_option maxRecDepth 20000 in
theorem ggX5_loaded_X5_isObject : GoodIn wsX5_loaded wsX5_isObject := goodIn_r _ [7, 8, 12, 13, 14, 15, 16, 17, 18, 19, 20, 21, 22, 23, 24, 25] (by decide +kernel) (by decide +kernel)
set_option maxRecDepth 20000 in
theorem gX5_loaded_X5_isObject : GoodIn wsX5_loaded (wsV RX5 60 RX5 yX5_isObject wsX5_isObject) := goodIn_app (goodIn_of _ (by decide +kernel)) ggX5_loaded_X5_isObject
set_option maxRecDepth 20000 in
theorem ggX5_loaded_X5_bitOf : GoodIn wsX5_loaded wsX5_bitOf := goodIn_r _ [11] (by decide +kernel) (by decide +kernel)
set_option maxRecDepth 20000 in
theorem gX5_loaded_X5_bitOf : GoodIn wsX5_loaded (va_wsS RX5 159 yX5_bitOf wsX5_bitOf) := goodIn_app (goodIn_of _ (by decide +kernel)) ggX5_loaded_X5_bitOf
theorem dX5_loaded_0 : decode cX5_loaded 0 = .ok (.aload_n 0, 1) := by decide +kernel
theorem dX5_loaded_1 : decode cX5_loaded 1 = .ok (.iload_n 1, 1) := by decide +kernel
theorem dX5_loaded_2 : decode cX5_loaded 2 = .ok (.invokevirtual 60, 3) := by decide +kernel
theorem dX5_loaded_5 : decode cX5_loaded 5 = .ok (.ifCond .eq 17, 3) := by decide +kernel
theorem dX5_loaded_8 : decode cX5_loaded 8 = .ok (.aload_n 0, 1) := by decide +kernel
theorem dX5_loaded_9 : decode cX5_loaded 9 = .ok (.getfield 24, 3) := by decide +kernel
theorem dX5_loaded_12 : decode cX5_loaded 12 = .ok (.getfield 119, 3) := by decide +kernel
theorem dX5_loaded_15 : decode cX5_loaded 15 = .ok (.iload_n 1, 1) := by decide +kernel
theorem dX5_loaded_16 : decode cX5_loaded 16 = .ok (.invokestatic 159, 3) := by decide +kernel
theorem dX5_loaded_19 : decode cX5_loaded 19 = .ok (.goto 4, 3) := by decide +kernel
theorem dX5_loaded_22 : decode cX5_loaded 22 = .ok (.iconst (-1), 1) := by decide +kernel
theorem dX5_loaded_23 : decode cX5_loaded 23 = .ok (.ireturn, 1) := by decide +kernel
set_option maxRecDepth 20000 in
theorem ggX5_cached_X5_isObject : GoodIn wsX5_cached wsX5_isObject := goodIn_r _ [6, 7, 11, 12, 13, 14, 15, 16, 17, 18, 19, 20, 21, 22, 23, 24] (by decide +kernel) (by decide +kernel)
set_option maxRecDepth 20000 in
theorem gX5_cached_X5_isObject : GoodIn wsX5_cached (wsV RX5 60 RX5 yX5_isObject wsX5_isObject) := goodIn_app (goodIn_of _ (by decide +kernel)) ggX5_cached_X5_isObject
set_option maxRecDepth 20000 in
theorem ggX5_cached_X5_bitOf : GoodIn wsX5_cached wsX5_bitOf := goodIn_r _ [10] (by decide +kernel) (by decide +kernel)
set_option maxRecDepth 20000 in
theorem gX5_cached_X5_bitOf : GoodIn wsX5_cached (va_wsS RX5 159 yX5_bitOf wsX5_bitOf) := goodIn_app (goodIn_of _ (by decide +kernel)) ggX5_cached_X5_bitOf
theorem dX5_cached_0 : decode cX5_cached 0 = .ok (.aload_n 0, 1) := by decide +kernel
theorem dX5_cached_1 : decode cX5_cached 1 = .ok (.iload_n 1, 1) := by decide +kernel
theorem dX5_cached_2 : decode cX5_cached 2 = .ok (.invokevirtual 60, 3) := by decide +kernel
theorem dX5_cached_5 : decode cX5_cached 5 = .ok (.ifCond .eq 14, 3) := by decide +kernel
theorem dX5_cached_8 : decode cX5_cached 8 = .ok (.aload_n 0, 1) := by decide +kernel
theorem dX5_cached_9 : decode cX5_cached 9 = .ok (.getfield 122, 3) := by decide +kernel
theorem dX5_cached_12 : decode cX5_cached 12 = .ok (.iload_n 1, 1) := by decide +kernel
theorem dX5_cached_13 : decode cX5_cached 13 = .ok (.invokestatic 159, 3) := by decide +kernel
theorem dX5_cached_16 : decode cX5_cached 16 = .ok (.goto 4, 3) := by decide +kernel
theorem dX5_cached_19 : decode cX5_cached 19 = .ok (.iconst (-1), 1) := by decide +kernel
theorem dX5_cached_20 : decode cX5_cached 20 = .ok (.ireturn, 1) := by decide +kernel
set_option maxRecDepth 20000 in
theorem ggX5_hint_X5_isObject : GoodIn wsX5_hint wsX5_isObject := goodIn_r _ [7, 8, 12, 13, 14, 15, 16, 17, 18, 19, 20, 21, 22, 23, 24, 25] (by decide +kernel) (by decide +kernel)
set_option maxRecDepth 20000 in
theorem gX5_hint_X5_isObject : GoodIn wsX5_hint (wsV RX5 60 RX5 yX5_isObject wsX5_isObject) := goodIn_app (goodIn_of _ (by decide +kernel)) ggX5_hint_X5_isObject
set_option maxRecDepth 20000 in
theorem ggX5_hint_X5_bitOf : GoodIn wsX5_hint wsX5_bitOf := goodIn_r _ [11] (by decide +kernel) (by decide +kernel)
set_option maxRecDepth 20000 in
theorem gX5_hint_X5_bitOf : GoodIn wsX5_hint (va_wsS RX5 159 yX5_bitOf wsX5_bitOf) := goodIn_app (goodIn_of _ (by decide +kernel)) ggX5_hint_X5_bitOf
theorem dX5_hint_0 : decode cX5_hint 0 = .ok (.aload_n 0, 1) := by decide +kernel
theorem dX5_hint_1 : decode cX5_hint 1 = .ok (.iload_n 1, 1) := by decide +kernel
theorem dX5_hint_2 : decode cX5_hint 2 = .ok (.invokevirtual 60, 3) := by decide +kernel
theorem dX5_hint_5 : decode cX5_hint 5 = .ok (.ifCond .ne 5, 3) := by decide +kernel
theorem dX5_hint_8 : decode cX5_hint 8 = .ok (.iconst (-1), 1) := by decide +kernel
theorem dX5_hint_9 : decode cX5_hint 9 = .ok (.ireturn, 1) := by decide +kernel
theorem dX5_hint_10 : decode cX5_hint 10 = .ok (.iconst 1, 1) := by decide +kernel
theorem dX5_hint_11 : decode cX5_hint 11 = .ok (.aload_n 0, 1) := by decide +kernel
theorem dX5_hint_12 : decode cX5_hint 12 = .ok (.getfield 122, 3) := by decide +kernel
theorem dX5_hint_15 : decode cX5_hint 15 = .ok (.iload_n 1, 1) := by decide +kernel
theorem dX5_hint_16 : decode cX5_hint 16 = .ok (.invokestatic 159, 3) := by decide +kernel
theorem dX5_hint_19 : decode cX5_hint 19 = .ok (.isub, 1) := by decide +kernel
theorem dX5_hint_20 : decode cX5_hint 20 = .ok (.istore_n 2, 1) := by decide +kernel
theorem dX5_hint_21 : decode cX5_hint 21 = .ok (.aload_n 0, 1) := by decide +kernel
theorem dX5_hint_22 : decode cX5_hint 22 = .ok (.dup, 1) := by decide +kernel
theorem dX5_hint_23 : decode cX5_hint 23 = .ok (.getfield 116, 3) := by decide +kernel
theorem dX5_hint_26 : decode cX5_hint 26 = .ok (.iload_n 2, 1) := by decide +kernel
theorem dX5_hint_27 : decode cX5_hint 27 = .ok (.iadd, 1) := by decide +kernel
theorem dX5_hint_28 : decode cX5_hint 28 = .ok (.putfield 116, 3) := by decide +kernel
theorem dX5_hint_31 : decode cX5_hint 31 = .ok (.aload_n 0, 1) := by decide +kernel
theorem dX5_hint_32 : decode cX5_hint 32 = .ok (.dup, 1) := by decide +kernel
theorem dX5_hint_33 : decode cX5_hint 33 = .ok (.getfield 122, 3) := by decide +kernel
theorem dX5_hint_36 : decode cX5_hint 36 = .ok (.iconst 1, 1) := by decide +kernel
theorem dX5_hint_37 : decode cX5_hint 37 = .ok (.iload_n 1, 1) := by decide +kernel
theorem dX5_hint_38 : decode cX5_hint 38 = .ok (.ishl, 1) := by decide +kernel
theorem dX5_hint_39 : decode cX5_hint 39 = .ok (.ior, 1) := by decide +kernel
theorem dX5_hint_40 : decode cX5_hint 40 = .ok (.putfield 122, 3) := by decide +kernel
theorem dX5_hint_43 : decode cX5_hint 43 = .ok (.iload_n 2, 1) := by decide +kernel
theorem dX5_hint_44 : decode cX5_hint 44 = .ok (.ireturn, 1) := by decide +kernel
set_option maxRecDepth 20000 in
theorem ggX5_times_X5_sortAt : GoodIn wsX5_times wsX5_sortAt := goodIn_r _ [6, 7, 8, 9, 10, 5, 11, 12, 13, 14, 15, 16, 17, 18, 19, 20, 21, 22, 23, 24, 25, 26, 27, 28, 29, 30, 31, 32, 33, 34, 35, 36, 37, 38] (by decide +kernel) (by decide +kernel)
set_option maxRecDepth 20000 in
theorem gX5_times_X5_sortAt : GoodIn wsX5_times (wsV RX5 52 RX5 yX5_sortAt wsX5_sortAt) := goodIn_app (goodIn_of _ (by decide +kernel)) ggX5_times_X5_sortAt
theorem dX5_times_0 : decode cX5_times 0 = .ok (.iload_n 1, 1) := by decide +kernel
theorem dX5_times_1 : decode cX5_times 1 = .ok (.ifCond .lt 18, 3) := by decide +kernel
theorem dX5_times_4 : decode cX5_times 4 = .ok (.aload_n 0, 1) := by decide +kernel
theorem dX5_times_5 : decode cX5_times 5 = .ok (.iload_n 1, 1) := by decide +kernel
theorem dX5_times_6 : decode cX5_times 6 = .ok (.bipush 8, 2) := by decide +kernel
theorem dX5_times_8 : decode cX5_times 8 = .ok (.idiv, 1) := by decide +kernel
theorem dX5_times_9 : decode cX5_times 9 = .ok (.iload_n 1, 1) := by decide +kernel
theorem dX5_times_10 : decode cX5_times 10 = .ok (.bipush 8, 2) := by decide +kernel
theorem dX5_times_12 : decode cX5_times 12 = .ok (.irem, 1) := by decide +kernel
theorem dX5_times_13 : decode cX5_times 13 = .ok (.invokevirtual 52, 3) := by decide +kernel
theorem dX5_times_16 : decode cX5_times 16 = .ok (.ifCond .ne 5, 3) := by decide +kernel
theorem dX5_times_19 : decode cX5_times 19 = .ok (.iconst (-1), 1) := by decide +kernel
theorem dX5_times_20 : decode cX5_times 20 = .ok (.ireturn, 1) := by decide +kernel
theorem dX5_times_21 : decode cX5_times 21 = .ok (.aload_n 0, 1) := by decide +kernel
theorem dX5_times_22 : decode cX5_times 22 = .ok (.getfield 38, 3) := by decide +kernel
theorem dX5_times_25 : decode cX5_times 25 = .ok (.iload_n 1, 1) := by decide +kernel
theorem dX5_times_26 : decode cX5_times 26 = .ok (.iaload, 1) := by decide +kernel
theorem dX5_times_27 : decode cX5_times 27 = .ok (.ireturn, 1) := by decide +kernel
set_option maxRecDepth 20000 in
theorem ggX5_all_X5_callRefusal : GoodIn wsX5_all wsX5_callRefusal := goodIn_r _ [10, 11, 12, 13, 14, 9, 15, 5, 16, 17, 18, 226, 227, 228, 229, 230, 231, 232, 233, 234, 235, 236, 237, 238, 239] (by decide +kernel) (by decide +kernel)
set_option maxRecDepth 20000 in
theorem gX5_all_X5_callRefusal : GoodIn wsX5_all (wsV RX5 102 RX5 yX5_callRefusal wsX5_callRefusal) := goodIn_app (goodIn_of _ (by decide +kernel)) ggX5_all_X5_callRefusal
set_option maxRecDepth 20000 in
theorem ggX5_all_X3_start : GoodIn wsX5_all wsX3_start := goodIn_r _ [23, 24, 25, 26, 27, 28, 29, 30, 31, 32, 33, 34, 35, 36, 37, 38, 39, 40, 41, 42, 43, 44, 45, 46, 47, 48, 49, 240, 241, 242, 243, 244, 245, 246, 247, 248, 249, 250, 251, 252, 253, 254, 255] (by decide +kernel) (by decide +kernel)
set_option maxRecDepth 20000 in
theorem gX5_all_X3_start : GoodIn wsX5_all (wsV RX5 105 RX3 yX3_start wsX3_start) := goodIn_app (goodIn_of _ (by decide +kernel)) ggX5_all_X3_start
set_option maxRecDepth 20000 in
theorem ggX5_all_X3_work : GoodIn wsX5_all wsX3_work := goodIn_r _ [53, 27, 54, 55, 56, 57, 58, 59, 60, 61, 62, 63, 64, 22, 65, 29, 30, 66, 67, 68, 69, 70, 71, 72, 73, 32, 31, 74, 75, 76, 77, 78, 79, 80, 81, 82, 83, 84, 85, 86, 87, 88, 89, 90, 91, 92, 26, 93, 94, 95, 24, 96, 97, 9, 98, 99, 100, 101, 102, 103, 104, 105, 106, 107, 108, 109, 110, 111, 112, 113, 114, 115, 116, 117, 118, 119, 120, 121, 122, 123, 124, 125, 126, 127, 25, 128, 129, 130, 36, 131, 40, 132, 38, 133, 134, 135, 136, 137, 138, 139, 140, 141, 142, 143, 144, 41, 39, 145, 146, 147, 148, 149, 150, 151, 152, 153, 154, 155, 156, 157, 158, 159, 160, 161, 162, 163, 164, 165, 166, 167, 168, 169, 170, 171, 172, 173, 174, 175, 176, 177, 178, 179, 180, 181, 182, 183, 184, 185, 186, 187, 188, 189, 190, 191, 192, 193, 194, 195, 196, 197, 198, 199, 200, 201, 202, 203, 204, 205, 28, 240, 241, 242, 243, 244, 245, 246, 247, 248, 249, 250, 256, 257, 258, 259, 260, 261, 262, 263, 264, 265, 266, 267, 268, 251, 252, 253, 254, 255] (by decide +kernel) (by decide +kernel)
set_option maxRecDepth 20000 in
theorem gX5_all_X3_work : GoodIn wsX5_all (wsV RX5 109 RX3 yX3_work wsX3_work) := goodIn_app (goodIn_of _ (by decide +kernel)) ggX5_all_X3_work
set_option maxRecDepth 20000 in
theorem ggX5_all_X3_loadAhead : GoodIn wsX5_all wsX3_loadAhead := goodIn_r _ [209, 89, 90, 91, 22, 92, 26, 88, 93, 94, 95, 24, 96, 97, 9, 98, 99, 100, 101, 102, 103, 104, 105, 106, 107, 108, 109, 110, 111, 112, 113, 114, 115, 116, 117, 118, 119, 240, 241, 242, 243, 244, 245, 246, 247, 248, 249, 250, 264, 265, 266, 267, 268] (by decide +kernel) (by decide +kernel)
set_option maxRecDepth 20000 in
theorem gX5_all_X3_loadAhead : GoodIn wsX5_all (wsV RX5 162 RX3 yX3_loadAhead wsX3_loadAhead) := goodIn_app (goodIn_of _ (by decide +kernel)) ggX5_all_X3_loadAhead
set_option maxRecDepth 20000 in
theorem ggX5_all_X3_endsLike : GoodIn wsX5_all wsX3_endsLike := goodIn_r _ [213, 29, 30, 28, 25, 214, 215, 216, 36, 217, 38, 132, 240, 241, 242, 243, 244, 245, 246, 247, 248, 249, 250, 251, 252, 253, 254, 255] (by decide +kernel) (by decide +kernel)
set_option maxRecDepth 20000 in
theorem gX5_all_X3_endsLike : GoodIn wsX5_all (wsV RX5 165 RX3 yX3_endsLike wsX3_endsLike) := goodIn_app (goodIn_of _ (by decide +kernel)) ggX5_all_X3_endsLike
set_option maxRecDepth 20000 in
theorem ggX5_all_X3_changesLike : GoodIn wsX5_all wsX3_changesLike := goodIn_r _ [221, 29, 222, 223, 224, 22, 225, 26, 88, 24, 97, 9, 98, 189, 190, 191, 95, 192, 106, 193, 121, 122, 123, 110, 109, 194, 195, 196, 197, 108, 178, 163, 164, 240, 241, 242, 243, 244, 245, 246, 247, 248, 249, 250, 264, 265, 266, 267, 268] (by decide +kernel) (by decide +kernel)
set_option maxRecDepth 20000 in
theorem gX5_all_X3_changesLike : GoodIn wsX5_all (wsV RX5 169 RX3 yX3_changesLike wsX3_changesLike) := goodIn_app (goodIn_of _ (by decide +kernel)) ggX5_all_X3_changesLike
theorem dX5_all_0 : decode cX5_all 0 = .ok (.aload_n 0, 1) := by decide +kernel
theorem dX5_all_1 : decode cX5_all 1 = .ok (.iload_n 1, 1) := by decide +kernel
theorem dX5_all_2 : decode cX5_all 2 = .ok (.iload_n 2, 1) := by decide +kernel
theorem dX5_all_3 : decode cX5_all 3 = .ok (.invokevirtual 102, 3) := by decide +kernel
theorem dX5_all_6 : decode cX5_all 6 = .ok (.istore 5, 2) := by decide +kernel
theorem dX5_all_8 : decode cX5_all 8 = .ok (.iload 5, 2) := by decide +kernel
theorem dX5_all_10 : decode cX5_all 10 = .ok (.ifCond .eq 6, 3) := by decide +kernel
theorem dX5_all_13 : decode cX5_all 13 = .ok (.iload 5, 2) := by decide +kernel
theorem dX5_all_15 : decode cX5_all 15 = .ok (.ireturn, 1) := by decide +kernel
theorem dX5_all_16 : decode cX5_all 16 = .ok (.aload_n 0, 1) := by decide +kernel
theorem dX5_all_17 : decode cX5_all 17 = .ok (.getfield 28, 3) := by decide +kernel
theorem dX5_all_20 : decode cX5_all 20 = .ok (.aload_n 0, 1) := by decide +kernel
theorem dX5_all_21 : decode cX5_all 21 = .ok (.getfield 11, 3) := by decide +kernel
theorem dX5_all_24 : decode cX5_all 24 = .ok (.iload_n 1, 1) := by decide +kernel
theorem dX5_all_25 : decode cX5_all 25 = .ok (.lload_n 3, 1) := by decide +kernel
theorem dX5_all_26 : decode cX5_all 26 = .ok (.invokevirtual 105, 3) := by decide +kernel
theorem dX5_all_29 : decode cX5_all 29 = .ok (.aload_n 0, 1) := by decide +kernel
theorem dX5_all_30 : decode cX5_all 30 = .ok (.getfield 28, 3) := by decide +kernel
theorem dX5_all_33 : decode cX5_all 33 = .ok (.aload_n 0, 1) := by decide +kernel
theorem dX5_all_34 : decode cX5_all 34 = .ok (.getfield 17, 3) := by decide +kernel
theorem dX5_all_37 : decode cX5_all 37 = .ok (.iload_n 2, 1) := by decide +kernel
theorem dX5_all_38 : decode cX5_all 38 = .ok (.aaload, 1) := by decide +kernel
theorem dX5_all_39 : decode cX5_all 39 = .ok (.invokevirtual 109, 3) := by decide +kernel
theorem dX5_all_42 : decode cX5_all 42 = .ok (.aload_n 0, 1) := by decide +kernel
theorem dX5_all_43 : decode cX5_all 43 = .ok (.getfield 31, 3) := by decide +kernel
theorem dX5_all_46 : decode cX5_all 46 = .ok (.aload_n 0, 1) := by decide +kernel
theorem dX5_all_47 : decode cX5_all 47 = .ok (.getfield 11, 3) := by decide +kernel
theorem dX5_all_50 : decode cX5_all 50 = .ok (.iload_n 1, 1) := by decide +kernel
theorem dX5_all_51 : decode cX5_all 51 = .ok (.lload_n 3, 1) := by decide +kernel
theorem dX5_all_52 : decode cX5_all 52 = .ok (.invokevirtual 105, 3) := by decide +kernel
theorem dX5_all_55 : decode cX5_all 55 = .ok (.aload_n 0, 1) := by decide +kernel
theorem dX5_all_56 : decode cX5_all 56 = .ok (.getfield 31, 3) := by decide +kernel
theorem dX5_all_59 : decode cX5_all 59 = .ok (.aload_n 0, 1) := by decide +kernel
theorem dX5_all_60 : decode cX5_all 60 = .ok (.getfield 46, 3) := by decide +kernel
theorem dX5_all_63 : decode cX5_all 63 = .ok (.invokevirtual 162, 3) := by decide +kernel
theorem dX5_all_66 : decode cX5_all 66 = .ok (.aload_n 0, 1) := by decide +kernel
theorem dX5_all_67 : decode cX5_all 67 = .ok (.getfield 31, 3) := by decide +kernel
theorem dX5_all_70 : decode cX5_all 70 = .ok (.aload_n 0, 1) := by decide +kernel
theorem dX5_all_71 : decode cX5_all 71 = .ok (.getfield 17, 3) := by decide +kernel
theorem dX5_all_74 : decode cX5_all 74 = .ok (.iload_n 2, 1) := by decide +kernel
theorem dX5_all_75 : decode cX5_all 75 = .ok (.aaload, 1) := by decide +kernel
theorem dX5_all_76 : decode cX5_all 76 = .ok (.invokevirtual 109, 3) := by decide +kernel
theorem dX5_all_79 : decode cX5_all 79 = .ok (.aload_n 0, 1) := by decide +kernel
theorem dX5_all_80 : decode cX5_all 80 = .ok (.getfield 28, 3) := by decide +kernel
theorem dX5_all_83 : decode cX5_all 83 = .ok (.aload_n 0, 1) := by decide +kernel
theorem dX5_all_84 : decode cX5_all 84 = .ok (.getfield 31, 3) := by decide +kernel
theorem dX5_all_87 : decode cX5_all 87 = .ok (.invokevirtual 165, 3) := by decide +kernel
theorem dX5_all_90 : decode cX5_all 90 = .ok (.ifCond .eq 25, 3) := by decide +kernel
theorem dX5_all_93 : decode cX5_all 93 = .ok (.aload_n 0, 1) := by decide +kernel
theorem dX5_all_94 : decode cX5_all 94 = .ok (.getfield 28, 3) := by decide +kernel
theorem dX5_all_97 : decode cX5_all 97 = .ok (.aload_n 0, 1) := by decide +kernel
theorem dX5_all_98 : decode cX5_all 98 = .ok (.getfield 31, 3) := by decide +kernel
theorem dX5_all_101 : decode cX5_all 101 = .ok (.aload_n 0, 1) := by decide +kernel
theorem dX5_all_102 : decode cX5_all 102 = .ok (.getfield 46, 3) := by decide +kernel
theorem dX5_all_105 : decode cX5_all 105 = .ok (.invokevirtual 169, 3) := by decide +kernel
theorem dX5_all_108 : decode cX5_all 108 = .ok (.ifCond .eq 7, 3) := by decide +kernel
theorem dX5_all_111 : decode cX5_all 111 = .ok (.iconst 1, 1) := by decide +kernel
theorem dX5_all_112 : decode cX5_all 112 = .ok (.goto 4, 3) := by decide +kernel
theorem dX5_all_115 : decode cX5_all 115 = .ok (.iconst 0, 1) := by decide +kernel
theorem dX5_all_116 : decode cX5_all 116 = .ok (.ireturn, 1) := by decide +kernel
set_option maxRecDepth 20000 in
theorem ggX5_view_X5_sortAt : GoodIn wsX5_view wsX5_sortAt := goodIn_r _ [11, 4, 12, 13, 14, 10, 15, 16, 17, 18, 19, 20, 21, 22, 23, 38, 39, 40, 41, 42, 43, 44, 45, 46, 47, 48, 49, 50, 51, 52, 53, 54, 55, 56] (by decide +kernel) (by decide +kernel)
set_option maxRecDepth 20000 in
theorem gX5_view_X5_sortAt : GoodIn wsX5_view (wsV RX5 52 RX5 yX5_sortAt wsX5_sortAt) := goodIn_app (goodIn_of _ (by decide +kernel)) ggX5_view_X5_sortAt
set_option maxRecDepth 20000 in
theorem ggX5_view_X2_asOf : GoodIn wsX5_view wsX2_asOf := goodIn_r _ [27, 28, 29, 52, 53, 54, 55, 56] (by decide +kernel) (by decide +kernel)
set_option maxRecDepth 20000 in
theorem gX5_view_X2_asOf : GoodIn wsX5_view (wsV RX5 175 RX2 yX2_asOf wsX2_asOf) := goodIn_app (goodIn_of _ (by decide +kernel)) ggX5_view_X2_asOf
set_option maxRecDepth 20000 in
theorem ggX5_view_X2_hasItem : GoodIn wsX5_view wsX2_hasItem := goodIn_r _ [33, 34, 52, 53, 54, 55, 56] (by decide +kernel) (by decide +kernel)
set_option maxRecDepth 20000 in
theorem gX5_view_X2_hasItem : GoodIn wsX5_view (wsV RX5 183 RX2 yX2_hasItem wsX2_hasItem) := goodIn_app (goodIn_of _ (by decide +kernel)) ggX5_view_X2_hasItem
set_option maxRecDepth 20000 in
theorem ggX5_view_X2_itemPlace : GoodIn wsX5_view wsX2_itemPlace := goodIn_r _ [37] (by decide +kernel) (by decide +kernel)
set_option maxRecDepth 20000 in
theorem gX5_view_X2_itemPlace : GoodIn wsX5_view (va_wsS RX5 190 yX2_itemPlace wsX2_itemPlace) := goodIn_app (goodIn_of _ (by decide +kernel)) ggX5_view_X2_itemPlace
theorem dX5_view_0 : decode cX5_view 0 = .ok (.aload_n 0, 1) := by decide +kernel
theorem dX5_view_1 : decode cX5_view 1 = .ok (.iconst (-1), 1) := by decide +kernel
theorem dX5_view_2 : decode cX5_view 2 = .ok (.putfield 41, 3) := by decide +kernel
theorem dX5_view_5 : decode cX5_view 5 = .ok (.aload_n 0, 1) := by decide +kernel
theorem dX5_view_6 : decode cX5_view 6 = .ok (.iload_n 1, 1) := by decide +kernel
theorem dX5_view_7 : decode cX5_view 7 = .ok (.iload_n 2, 1) := by decide +kernel
theorem dX5_view_8 : decode cX5_view 8 = .ok (.invokevirtual 52, 3) := by decide +kernel
theorem dX5_view_11 : decode cX5_view 11 = .ok (.istore 5, 2) := by decide +kernel
theorem dX5_view_13 : decode cX5_view 13 = .ok (.iload 5, 2) := by decide +kernel
theorem dX5_view_15 : decode cX5_view 15 = .ok (.ifCond .eq 15, 3) := by decide +kernel
theorem dX5_view_18 : decode cX5_view 18 = .ok (.iload_n 3, 1) := by decide +kernel
theorem dX5_view_19 : decode cX5_view 19 = .ok (.ifCond .lt 11, 3) := by decide +kernel
theorem dX5_view_22 : decode cX5_view 22 = .ok (.iload_n 3, 1) := by decide +kernel
theorem dX5_view_23 : decode cX5_view 23 = .ok (.aload_n 0, 1) := by decide +kernel
theorem dX5_view_24 : decode cX5_view 24 = .ok (.getfield 68, 3) := by decide +kernel
theorem dX5_view_27 : decode cX5_view 27 = .ok (.if_icmp .le 7, 3) := by decide +kernel
theorem dX5_view_30 : decode cX5_view 30 = .ok (.ldc2_w 173, 3) := by decide +kernel
theorem dX5_view_33 : decode cX5_view 33 = .ok (.lreturn, 1) := by decide +kernel
theorem dX5_view_34 : decode cX5_view 34 = .ok (.aload_n 0, 1) := by decide +kernel
theorem dX5_view_35 : decode cX5_view 35 = .ok (.getfield 11, 3) := by decide +kernel
theorem dX5_view_38 : decode cX5_view 38 = .ok (.iload_n 1, 1) := by decide +kernel
theorem dX5_view_39 : decode cX5_view 39 = .ok (.aaload, 1) := by decide +kernel
theorem dX5_view_40 : decode cX5_view 40 = .ok (.iload_n 3, 1) := by decide +kernel
theorem dX5_view_41 : decode cX5_view 41 = .ok (.invokevirtual 175, 3) := by decide +kernel
theorem dX5_view_44 : decode cX5_view 44 = .ok (.astore 6, 2) := by decide +kernel
theorem dX5_view_46 : decode cX5_view 46 = .ok (.iload 4, 2) := by decide +kernel
theorem dX5_view_48 : decode cX5_view 48 = .ok (.bipush (-3), 2) := by decide +kernel
theorem dX5_view_50 : decode cX5_view 50 = .ok (.if_icmp .ne 16, 3) := by decide +kernel
theorem dX5_view_53 : decode cX5_view 53 = .ok (.aload_n 0, 1) := by decide +kernel
theorem dX5_view_54 : decode cX5_view 54 = .ok (.iconst 0, 1) := by decide +kernel
theorem dX5_view_55 : decode cX5_view 55 = .ok (.putfield 41, 3) := by decide +kernel
theorem dX5_view_58 : decode cX5_view 58 = .ok (.aload 6, 2) := by decide +kernel
theorem dX5_view_60 : decode cX5_view 60 = .ok (.getfield 179, 3) := by decide +kernel
theorem dX5_view_63 : decode cX5_view 63 = .ok (.iload_n 2, 1) := by decide +kernel
theorem dX5_view_64 : decode cX5_view 64 = .ok (.laload, 1) := by decide +kernel
theorem dX5_view_65 : decode cX5_view 65 = .ok (.lreturn, 1) := by decide +kernel
theorem dX5_view_66 : decode cX5_view 66 = .ok (.iload 5, 2) := by decide +kernel
theorem dX5_view_68 : decode cX5_view 68 = .ok (.iconst 3, 1) := by decide +kernel
theorem dX5_view_69 : decode cX5_view 69 = .ok (.if_icmp .ne 15, 3) := by decide +kernel
theorem dX5_view_72 : decode cX5_view 72 = .ok (.aload 6, 2) := by decide +kernel
theorem dX5_view_74 : decode cX5_view 74 = .ok (.iload_n 2, 1) := by decide +kernel
theorem dX5_view_75 : decode cX5_view 75 = .ok (.iload 4, 2) := by decide +kernel
theorem dX5_view_77 : decode cX5_view 77 = .ok (.i2l, 1) := by decide +kernel
theorem dX5_view_78 : decode cX5_view 78 = .ok (.invokevirtual 183, 3) := by decide +kernel
theorem dX5_view_81 : decode cX5_view 81 = .ok (.ifCond .ne 7, 3) := by decide +kernel
theorem dX5_view_84 : decode cX5_view 84 = .ok (.ldc2_w 173, 3) := by decide +kernel
theorem dX5_view_87 : decode cX5_view 87 = .ok (.lreturn, 1) := by decide +kernel
theorem dX5_view_88 : decode cX5_view 88 = .ok (.aload_n 0, 1) := by decide +kernel
theorem dX5_view_89 : decode cX5_view 89 = .ok (.iconst 0, 1) := by decide +kernel
theorem dX5_view_90 : decode cX5_view 90 = .ok (.putfield 41, 3) := by decide +kernel
theorem dX5_view_93 : decode cX5_view 93 = .ok (.aload 6, 2) := by decide +kernel
theorem dX5_view_95 : decode cX5_view 95 = .ok (.getfield 187, 3) := by decide +kernel
theorem dX5_view_98 : decode cX5_view 98 = .ok (.iload_n 2, 1) := by decide +kernel
theorem dX5_view_99 : decode cX5_view 99 = .ok (.iload 4, 2) := by decide +kernel
theorem dX5_view_101 : decode cX5_view 101 = .ok (.invokestatic 190, 3) := by decide +kernel
theorem dX5_view_104 : decode cX5_view 104 = .ok (.iaload, 1) := by decide +kernel
theorem dX5_view_105 : decode cX5_view 105 = .ok (.i2l, 1) := by decide +kernel
theorem dX5_view_106 : decode cX5_view 106 = .ok (.lreturn, 1) := by decide +kernel
theorem dX5_status_0 : decode cX5_status 0 = .ok (.aload_n 0, 1) := by decide +kernel
theorem dX5_status_1 : decode cX5_status 1 = .ok (.getfield 41, 3) := by decide +kernel
theorem dX5_status_4 : decode cX5_status 4 = .ok (.ireturn, 1) := by decide +kernel
set_option maxRecDepth 20000 in
theorem ggX5_told_J6_bitCount_0f7a4 : GoodIn wsX5_told wsJ6_bitCount_0f7a4 := goodIn_r _ [15, 16, 17, 18] (by decide +kernel) (by decide +kernel)
set_option maxRecDepth 20000 in
theorem gX5_told_J6_bitCount_0f7a4 : GoodIn wsX5_told (va_wsS RX5 125 yJ6_bitCount_0f7a4 wsJ6_bitCount_0f7a4) := goodIn_app (goodIn_of _ (by decide +kernel)) ggX5_told_J6_bitCount_0f7a4
theorem dX5_told_0 : decode cX5_told 0 = .ok (.iload_n 1, 1) := by decide +kernel
theorem dX5_told_1 : decode cX5_told 1 = .ok (.tableswitch 117 0 8 #[51, 56, 61, 66, 77, 88, 93, 104, 112], 51) := by decide +kernel
theorem dX5_told_52 : decode cX5_told 52 = .ok (.aload_n 0, 1) := by decide +kernel
theorem dX5_told_53 : decode cX5_told 53 = .ok (.getfield 46, 3) := by decide +kernel
theorem dX5_told_56 : decode cX5_told 56 = .ok (.ireturn, 1) := by decide +kernel
theorem dX5_told_57 : decode cX5_told 57 = .ok (.aload_n 0, 1) := by decide +kernel
theorem dX5_told_58 : decode cX5_told 58 = .ok (.getfield 68, 3) := by decide +kernel
theorem dX5_told_61 : decode cX5_told 61 = .ok (.ireturn, 1) := by decide +kernel
theorem dX5_told_62 : decode cX5_told 62 = .ok (.aload_n 0, 1) := by decide +kernel
theorem dX5_told_63 : decode cX5_told 63 = .ok (.getfield 116, 3) := by decide +kernel
theorem dX5_told_66 : decode cX5_told 66 = .ok (.ireturn, 1) := by decide +kernel
theorem dX5_told_67 : decode cX5_told 67 = .ok (.aload_n 0, 1) := by decide +kernel
theorem dX5_told_68 : decode cX5_told 68 = .ok (.getfield 24, 3) := by decide +kernel
theorem dX5_told_71 : decode cX5_told 71 = .ok (.getfield 147, 3) := by decide +kernel
theorem dX5_told_74 : decode cX5_told 74 = .ok (.getfield 151, 3) := by decide +kernel
theorem dX5_told_77 : decode cX5_told 77 = .ok (.ireturn, 1) := by decide +kernel
theorem dX5_told_78 : decode cX5_told 78 = .ok (.aload_n 0, 1) := by decide +kernel
theorem dX5_told_79 : decode cX5_told 79 = .ok (.getfield 24, 3) := by decide +kernel
theorem dX5_told_82 : decode cX5_told 82 = .ok (.getfield 147, 3) := by decide +kernel
theorem dX5_told_85 : decode cX5_told 85 = .ok (.getfield 193, 3) := by decide +kernel
theorem dX5_told_88 : decode cX5_told 88 = .ok (.ireturn, 1) := by decide +kernel
theorem dX5_told_89 : decode cX5_told 89 = .ok (.aload_n 0, 1) := by decide +kernel
theorem dX5_told_90 : decode cX5_told 90 = .ok (.getfield 131, 3) := by decide +kernel
theorem dX5_told_93 : decode cX5_told 93 = .ok (.ireturn, 1) := by decide +kernel
theorem dX5_told_94 : decode cX5_told 94 = .ok (.aload_n 0, 1) := by decide +kernel
theorem dX5_told_95 : decode cX5_told 95 = .ok (.getfield 24, 3) := by decide +kernel
theorem dX5_told_98 : decode cX5_told 98 = .ok (.getfield 119, 3) := by decide +kernel
theorem dX5_told_101 : decode cX5_told 101 = .ok (.invokestatic 125, 3) := by decide +kernel
theorem dX5_told_104 : decode cX5_told 104 = .ok (.ireturn, 1) := by decide +kernel
theorem dX5_told_105 : decode cX5_told 105 = .ok (.aload_n 0, 1) := by decide +kernel
theorem dX5_told_106 : decode cX5_told 106 = .ok (.getfield 24, 3) := by decide +kernel
theorem dX5_told_109 : decode cX5_told 109 = .ok (.getfield 196, 3) := by decide +kernel
theorem dX5_told_112 : decode cX5_told 112 = .ok (.ireturn, 1) := by decide +kernel
theorem dX5_told_113 : decode cX5_told 113 = .ok (.aload_n 0, 1) := by decide +kernel
theorem dX5_told_114 : decode cX5_told 114 = .ok (.getfield 113, 3) := by decide +kernel
theorem dX5_told_117 : decode cX5_told 117 = .ok (.ireturn, 1) := by decide +kernel
theorem dX5_told_118 : decode cX5_told 118 = .ok (.iconst (-1), 1) := by decide +kernel
theorem dX5_told_119 : decode cX5_told 119 = .ok (.ireturn, 1) := by decide +kernel
theorem dX5_isObject_0 : decode cX5_isObject 0 = .ok (.iload_n 1, 1) := by decide +kernel
theorem dX5_isObject_1 : decode cX5_isObject 1 = .ok (.ifCond .lt 15, 3) := by decide +kernel
theorem dX5_isObject_4 : decode cX5_isObject 4 = .ok (.iload_n 1, 1) := by decide +kernel
theorem dX5_isObject_5 : decode cX5_isObject 5 = .ok (.aload_n 0, 1) := by decide +kernel
theorem dX5_isObject_6 : decode cX5_isObject 6 = .ok (.getfield 46, 3) := by decide +kernel
theorem dX5_isObject_9 : decode cX5_isObject 9 = .ok (.if_icmp .ge 7, 3) := by decide +kernel
theorem dX5_isObject_12 : decode cX5_isObject 12 = .ok (.iconst 1, 1) := by decide +kernel
theorem dX5_isObject_13 : decode cX5_isObject 13 = .ok (.goto 4, 3) := by decide +kernel
theorem dX5_isObject_16 : decode cX5_isObject 16 = .ok (.iconst 0, 1) := by decide +kernel
theorem dX5_isObject_17 : decode cX5_isObject 17 = .ok (.ireturn, 1) := by decide +kernel
theorem dX5_isBehaviour_0 : decode cX5_isBehaviour 0 = .ok (.iload_n 0, 1) := by decide +kernel
theorem dX5_isBehaviour_1 : decode cX5_isBehaviour 1 = .ok (.ifCond .lt 13, 3) := by decide +kernel
theorem dX5_isBehaviour_4 : decode cX5_isBehaviour 4 = .ok (.iload_n 0, 1) := by decide +kernel
theorem dX5_isBehaviour_5 : decode cX5_isBehaviour 5 = .ok (.bipush 6, 2) := by decide +kernel
theorem dX5_isBehaviour_7 : decode cX5_isBehaviour 7 = .ok (.if_icmp .ge 7, 3) := by decide +kernel
theorem dX5_isBehaviour_10 : decode cX5_isBehaviour 10 = .ok (.iconst 1, 1) := by decide +kernel
theorem dX5_isBehaviour_11 : decode cX5_isBehaviour 11 = .ok (.goto 4, 3) := by decide +kernel
theorem dX5_isBehaviour_14 : decode cX5_isBehaviour 14 = .ok (.iconst 0, 1) := by decide +kernel
theorem dX5_isBehaviour_15 : decode cX5_isBehaviour 15 = .ok (.ireturn, 1) := by decide +kernel
theorem dX5_bitOf_0 : decode cX5_bitOf 0 = .ok (.iload_n 0, 1) := by decide +kernel
theorem dX5_bitOf_1 : decode cX5_bitOf 1 = .ok (.iload_n 1, 1) := by decide +kernel
theorem dX5_bitOf_2 : decode cX5_bitOf 2 = .ok (.ishr, 1) := by decide +kernel
theorem dX5_bitOf_3 : decode cX5_bitOf 3 = .ok (.iconst 1, 1) := by decide +kernel
theorem dX5_bitOf_4 : decode cX5_bitOf 4 = .ok (.iand, 1) := by decide +kernel
theorem dX5_bitOf_5 : decode cX5_bitOf 5 = .ok (.ireturn, 1) := by decide +kernel
set_option maxRecDepth 20000 in
theorem ggX5_sortAt_X5_isObject : GoodIn wsX5_sortAt wsX5_isObject := goodIn_r _ [6, 7, 15, 16, 17, 18, 19, 20, 21, 22, 23, 24, 25, 26, 27, 28] (by decide +kernel) (by decide +kernel)
set_option maxRecDepth 20000 in
theorem gX5_sortAt_X5_isObject : GoodIn wsX5_sortAt (wsV RX5 60 RX5 yX5_isObject wsX5_isObject) := goodIn_app (goodIn_of _ (by decide +kernel)) ggX5_sortAt_X5_isObject
set_option maxRecDepth 20000 in
theorem ggX5_sortAt_X2_sortOf : GoodIn wsX5_sortAt wsX2_sortOf := goodIn_r _ [12, 13, 14, 29, 30, 31, 32, 33] (by decide +kernel) (by decide +kernel)
set_option maxRecDepth 20000 in
theorem gX5_sortAt_X2_sortOf : GoodIn wsX5_sortAt (wsV RX5 199 RX2 yX2_sortOf wsX2_sortOf) := goodIn_app (goodIn_of _ (by decide +kernel)) ggX5_sortAt_X2_sortOf
theorem dX5_sortAt_0 : decode cX5_sortAt 0 = .ok (.aload_n 0, 1) := by decide +kernel
theorem dX5_sortAt_1 : decode cX5_sortAt 1 = .ok (.iload_n 1, 1) := by decide +kernel
theorem dX5_sortAt_2 : decode cX5_sortAt 2 = .ok (.invokevirtual 60, 3) := by decide +kernel
theorem dX5_sortAt_5 : decode cX5_sortAt 5 = .ok (.ifCond .eq 16, 3) := by decide +kernel
theorem dX5_sortAt_8 : decode cX5_sortAt 8 = .ok (.aload_n 0, 1) := by decide +kernel
theorem dX5_sortAt_9 : decode cX5_sortAt 9 = .ok (.getfield 11, 3) := by decide +kernel
theorem dX5_sortAt_12 : decode cX5_sortAt 12 = .ok (.iload_n 1, 1) := by decide +kernel
theorem dX5_sortAt_13 : decode cX5_sortAt 13 = .ok (.aaload, 1) := by decide +kernel
theorem dX5_sortAt_14 : decode cX5_sortAt 14 = .ok (.iload_n 2, 1) := by decide +kernel
theorem dX5_sortAt_15 : decode cX5_sortAt 15 = .ok (.invokevirtual 199, 3) := by decide +kernel
theorem dX5_sortAt_18 : decode cX5_sortAt 18 = .ok (.goto 4, 3) := by decide +kernel
theorem dX5_sortAt_21 : decode cX5_sortAt 21 = .ok (.iconst 0, 1) := by decide +kernel
theorem dX5_sortAt_22 : decode cX5_sortAt 22 = .ok (.ireturn, 1) := by decide +kernel
set_option maxRecDepth 20000 in
theorem ggX5_callRefusal_X5_isObject : GoodIn wsX5_callRefusal wsX5_isObject := goodIn_r _ [6, 7, 11, 12, 13, 14, 15, 16, 17, 18, 19, 20, 21, 22, 23, 24] (by decide +kernel) (by decide +kernel)
set_option maxRecDepth 20000 in
theorem gX5_callRefusal_X5_isObject : GoodIn wsX5_callRefusal (wsV RX5 60 RX5 yX5_isObject wsX5_isObject) := goodIn_app (goodIn_of _ (by decide +kernel)) ggX5_callRefusal_X5_isObject
set_option maxRecDepth 20000 in
theorem ggX5_callRefusal_X5_isBehaviour : GoodIn wsX5_callRefusal wsX5_isBehaviour := goodIn_r _ [10] (by decide +kernel) (by decide +kernel)
set_option maxRecDepth 20000 in
theorem gX5_callRefusal_X5_isBehaviour : GoodIn wsX5_callRefusal (va_wsS RX5 82 yX5_isBehaviour wsX5_isBehaviour) := goodIn_app (goodIn_of _ (by decide +kernel)) ggX5_callRefusal_X5_isBehaviour
theorem dX5_callRefusal_0 : decode cX5_callRefusal 0 = .ok (.aload_n 0, 1) := by decide +kernel
theorem dX5_callRefusal_1 : decode cX5_callRefusal 1 = .ok (.iload_n 1, 1) := by decide +kernel
theorem dX5_callRefusal_2 : decode cX5_callRefusal 2 = .ok (.invokevirtual 60, 3) := by decide +kernel
theorem dX5_callRefusal_5 : decode cX5_callRefusal 5 = .ok (.ifCond .eq 10, 3) := by decide +kernel
theorem dX5_callRefusal_8 : decode cX5_callRefusal 8 = .ok (.iload_n 2, 1) := by decide +kernel
theorem dX5_callRefusal_9 : decode cX5_callRefusal 9 = .ok (.invokestatic 82, 3) := by decide +kernel
theorem dX5_callRefusal_12 : decode cX5_callRefusal 12 = .ok (.ifCond .ne 5, 3) := by decide +kernel
theorem dX5_callRefusal_15 : decode cX5_callRefusal 15 = .ok (.iconst (-1), 1) := by decide +kernel
theorem dX5_callRefusal_16 : decode cX5_callRefusal 16 = .ok (.ireturn, 1) := by decide +kernel
theorem dX5_callRefusal_17 : decode cX5_callRefusal 17 = .ok (.aload_n 0, 1) := by decide +kernel
theorem dX5_callRefusal_18 : decode cX5_callRefusal 18 = .ok (.getfield 68, 3) := by decide +kernel
theorem dX5_callRefusal_21 : decode cX5_callRefusal 21 = .ok (.bipush 40, 2) := by decide +kernel
theorem dX5_callRefusal_23 : decode cX5_callRefusal 23 = .ok (.if_icmp .lt 8, 3) := by decide +kernel
theorem dX5_callRefusal_26 : decode cX5_callRefusal 26 = .ok (.bipush (-2), 2) := by decide +kernel
theorem dX5_callRefusal_28 : decode cX5_callRefusal 28 = .ok (.goto 4, 3) := by decide +kernel
theorem dX5_callRefusal_31 : decode cX5_callRefusal 31 = .ok (.iconst 0, 1) := by decide +kernel
theorem dX5_callRefusal_32 : decode cX5_callRefusal 32 = .ok (.ireturn, 1) := by decide +kernel
set_option maxRecDepth 20000 in
theorem ggX5_changeCell_X5_raiseHeight : GoodIn wsX5_changeCell wsX5_raiseHeight := goodIn_r _ [8, 3, 9, 41, 42, 43, 44, 45, 46, 47, 48, 49, 50, 51, 52, 53, 54] (by decide +kernel) (by decide +kernel)
set_option maxRecDepth 20000 in
theorem gX5_changeCell_X5_raiseHeight : GoodIn wsX5_changeCell (wsV RX5 71 RX5 yX5_raiseHeight wsX5_raiseHeight) := goodIn_app (goodIn_of _ (by decide +kernel)) ggX5_changeCell_X5_raiseHeight
set_option maxRecDepth 20000 in
theorem ggX5_changeCell_X5_newVersion : GoodIn wsX5_changeCell wsX5_newVersion := goodIn_r _ [13, 14, 15, 16, 17, 3, 18, 1, 19, 20, 21, 22, 23, 24, 25, 26, 27, 28, 29, 30, 31, 32, 33, 34, 35, 36, 37, 38, 39, 40, 55, 56, 57, 58, 59, 41, 42, 43, 44, 45, 46, 47, 48, 49, 50, 51, 52, 53, 54] (by decide +kernel) (by decide +kernel)
set_option maxRecDepth 20000 in
theorem gX5_changeCell_X5_newVersion : GoodIn wsX5_changeCell (wsV RX5 74 RX5 yX5_newVersion wsX5_newVersion) := goodIn_app (goodIn_of _ (by decide +kernel)) ggX5_changeCell_X5_newVersion
theorem dX5_changeCell_0 : decode cX5_changeCell 0 = .ok (.aload_n 0, 1) := by decide +kernel
theorem dX5_changeCell_1 : decode cX5_changeCell 1 = .ok (.getfield 11, 3) := by decide +kernel
theorem dX5_changeCell_4 : decode cX5_changeCell 4 = .ok (.iload_n 1, 1) := by decide +kernel
theorem dX5_changeCell_5 : decode cX5_changeCell 5 = .ok (.aaload, 1) := by decide +kernel
theorem dX5_changeCell_6 : decode cX5_changeCell 6 = .ok (.getfield 179, 3) := by decide +kernel
theorem dX5_changeCell_9 : decode cX5_changeCell 9 = .ok (.iload_n 2, 1) := by decide +kernel
theorem dX5_changeCell_10 : decode cX5_changeCell 10 = .ok (.laload, 1) := by decide +kernel
theorem dX5_changeCell_11 : decode cX5_changeCell 11 = .ok (.lload_n 3, 1) := by decide +kernel
theorem dX5_changeCell_12 : decode cX5_changeCell 12 = .ok (.lcmp, 1) := by decide +kernel
theorem dX5_changeCell_13 : decode cX5_changeCell 13 = .ok (.ifCond .ne 8, 3) := by decide +kernel
theorem dX5_changeCell_16 : decode cX5_changeCell 16 = .ok (.aload_n 0, 1) := by decide +kernel
theorem dX5_changeCell_17 : decode cX5_changeCell 17 = .ok (.getfield 68, 3) := by decide +kernel
theorem dX5_changeCell_20 : decode cX5_changeCell 20 = .ok (.ireturn, 1) := by decide +kernel
theorem dX5_changeCell_21 : decode cX5_changeCell 21 = .ok (.aload_n 0, 1) := by decide +kernel
theorem dX5_changeCell_22 : decode cX5_changeCell 22 = .ok (.getfield 68, 3) := by decide +kernel
theorem dX5_changeCell_25 : decode cX5_changeCell 25 = .ok (.bipush 40, 2) := by decide +kernel
theorem dX5_changeCell_27 : decode cX5_changeCell 27 = .ok (.if_icmp .lt 6, 3) := by decide +kernel
theorem dX5_changeCell_30 : decode cX5_changeCell 30 = .ok (.bipush (-2), 2) := by decide +kernel
theorem dX5_changeCell_32 : decode cX5_changeCell 32 = .ok (.ireturn, 1) := by decide +kernel
theorem dX5_changeCell_33 : decode cX5_changeCell 33 = .ok (.aload_n 0, 1) := by decide +kernel
theorem dX5_changeCell_34 : decode cX5_changeCell 34 = .ok (.invokevirtual 71, 3) := by decide +kernel
theorem dX5_changeCell_37 : decode cX5_changeCell 37 = .ok (.aload_n 0, 1) := by decide +kernel
theorem dX5_changeCell_38 : decode cX5_changeCell 38 = .ok (.iload_n 1, 1) := by decide +kernel
theorem dX5_changeCell_39 : decode cX5_changeCell 39 = .ok (.aload_n 0, 1) := by decide +kernel
theorem dX5_changeCell_40 : decode cX5_changeCell 40 = .ok (.getfield 11, 3) := by decide +kernel
theorem dX5_changeCell_43 : decode cX5_changeCell 43 = .ok (.iload_n 1, 1) := by decide +kernel
theorem dX5_changeCell_44 : decode cX5_changeCell 44 = .ok (.aaload, 1) := by decide +kernel
theorem dX5_changeCell_45 : decode cX5_changeCell 45 = .ok (.invokevirtual 74, 3) := by decide +kernel
theorem dX5_changeCell_48 : decode cX5_changeCell 48 = .ok (.getfield 179, 3) := by decide +kernel
theorem dX5_changeCell_51 : decode cX5_changeCell 51 = .ok (.iload_n 2, 1) := by decide +kernel
theorem dX5_changeCell_52 : decode cX5_changeCell 52 = .ok (.lload_n 3, 1) := by decide +kernel
theorem dX5_changeCell_53 : decode cX5_changeCell 53 = .ok (.lastore, 1) := by decide +kernel
theorem dX5_changeCell_54 : decode cX5_changeCell 54 = .ok (.aload_n 0, 1) := by decide +kernel
theorem dX5_changeCell_55 : decode cX5_changeCell 55 = .ok (.getfield 68, 3) := by decide +kernel
theorem dX5_changeCell_58 : decode cX5_changeCell 58 = .ok (.ireturn, 1) := by decide +kernel
theorem dX5_raiseHeight_0 : decode cX5_raiseHeight 0 = .ok (.aload_n 0, 1) := by decide +kernel
theorem dX5_raiseHeight_1 : decode cX5_raiseHeight 1 = .ok (.dup, 1) := by decide +kernel
theorem dX5_raiseHeight_2 : decode cX5_raiseHeight 2 = .ok (.getfield 68, 3) := by decide +kernel
theorem dX5_raiseHeight_5 : decode cX5_raiseHeight 5 = .ok (.iconst 1, 1) := by decide +kernel
theorem dX5_raiseHeight_6 : decode cX5_raiseHeight 6 = .ok (.iadd, 1) := by decide +kernel
theorem dX5_raiseHeight_7 : decode cX5_raiseHeight 7 = .ok (.putfield 68, 3) := by decide +kernel
theorem dX5_raiseHeight_10 : decode cX5_raiseHeight 10 = .ok (.aload_n 0, 1) := by decide +kernel
theorem dX5_raiseHeight_11 : decode cX5_raiseHeight 11 = .ok (.iconst 0, 1) := by decide +kernel
theorem dX5_raiseHeight_12 : decode cX5_raiseHeight 12 = .ok (.putfield 122, 3) := by decide +kernel
theorem dX5_raiseHeight_15 : decode cX5_raiseHeight 15 = .ok (.return_, 1) := by decide +kernel
set_option maxRecDepth 20000 in
theorem ggX5_newVersion_X2_init : GoodIn wsX5_newVersion wsX2_init := goodIn_r _ [11, 12, 13, 14, 15, 16, 17, 18, 19, 20, 21, 30, 31, 32, 33, 34] (by decide +kernel) (by decide +kernel)
set_option maxRecDepth 20000 in
theorem gX5_newVersion_X2_init : GoodIn wsX5_newVersion (wsX2_init) := ggX5_newVersion_X2_init
set_option maxRecDepth 20000 in
theorem ggX5_newVersion_X2_copyFrom : GoodIn wsX5_newVersion wsX2_copyFrom := goodIn_r _ [25, 16, 26, 27, 28, 29, 18, 30, 31, 32, 33, 34] (by decide +kernel) (by decide +kernel)
set_option maxRecDepth 20000 in
theorem gX5_newVersion_X2_copyFrom : GoodIn wsX5_newVersion (wsV RX5 205 RX2 yX2_copyFrom wsX2_copyFrom) := goodIn_app (goodIn_of _ (by decide +kernel)) ggX5_newVersion_X2_copyFrom
theorem dX5_newVersion_0 : decode cX5_newVersion 0 = .ok (.new 9, 3) := by decide +kernel
theorem dX5_newVersion_3 : decode cX5_newVersion 3 = .ok (.dup, 1) := by decide +kernel
theorem dX5_newVersion_4 : decode cX5_newVersion 4 = .ok (.aload_n 2, 1) := by decide +kernel
theorem dX5_newVersion_5 : decode cX5_newVersion 5 = .ok (.getfield 202, 3) := by decide +kernel
theorem dX5_newVersion_8 : decode cX5_newVersion 8 = .ok (.invokespecial 49, 3) := by decide +kernel
theorem dX5_newVersion_11 : decode cX5_newVersion 11 = .ok (.astore_n 3, 1) := by decide +kernel
theorem dX5_newVersion_12 : decode cX5_newVersion 12 = .ok (.aload_n 3, 1) := by decide +kernel
theorem dX5_newVersion_13 : decode cX5_newVersion 13 = .ok (.aload_n 2, 1) := by decide +kernel
theorem dX5_newVersion_14 : decode cX5_newVersion 14 = .ok (.invokevirtual 205, 3) := by decide +kernel
theorem dX5_newVersion_17 : decode cX5_newVersion 17 = .ok (.aload_n 3, 1) := by decide +kernel
theorem dX5_newVersion_18 : decode cX5_newVersion 18 = .ok (.aload_n 0, 1) := by decide +kernel
theorem dX5_newVersion_19 : decode cX5_newVersion 19 = .ok (.getfield 68, 3) := by decide +kernel
theorem dX5_newVersion_22 : decode cX5_newVersion 22 = .ok (.putfield 209, 3) := by decide +kernel
theorem dX5_newVersion_25 : decode cX5_newVersion 25 = .ok (.aload_n 3, 1) := by decide +kernel
theorem dX5_newVersion_26 : decode cX5_newVersion 26 = .ok (.aload_n 0, 1) := by decide +kernel
theorem dX5_newVersion_27 : decode cX5_newVersion 27 = .ok (.getfield 11, 3) := by decide +kernel
theorem dX5_newVersion_30 : decode cX5_newVersion 30 = .ok (.iload_n 1, 1) := by decide +kernel
theorem dX5_newVersion_31 : decode cX5_newVersion 31 = .ok (.aaload, 1) := by decide +kernel
theorem dX5_newVersion_32 : decode cX5_newVersion 32 = .ok (.putfield 212, 3) := by decide +kernel
theorem dX5_newVersion_35 : decode cX5_newVersion 35 = .ok (.aload_n 0, 1) := by decide +kernel
theorem dX5_newVersion_36 : decode cX5_newVersion 36 = .ok (.getfield 11, 3) := by decide +kernel
theorem dX5_newVersion_39 : decode cX5_newVersion 39 = .ok (.iload_n 1, 1) := by decide +kernel
theorem dX5_newVersion_40 : decode cX5_newVersion 40 = .ok (.aload_n 3, 1) := by decide +kernel
theorem dX5_newVersion_41 : decode cX5_newVersion 41 = .ok (.aastore, 1) := by decide +kernel
theorem dX5_newVersion_42 : decode cX5_newVersion 42 = .ok (.aload_n 3, 1) := by decide +kernel
theorem dX5_newVersion_43 : decode cX5_newVersion 43 = .ok (.areturn, 1) := by decide +kernel
set_option maxRecDepth 20000 in
theorem ggX5_keepChanges_X5_bitOf : GoodIn wsX5_keepChanges wsX5_bitOf := goodIn_r _ [8] (by decide +kernel) (by decide +kernel)
set_option maxRecDepth 20000 in
theorem gX5_keepChanges_X5_bitOf : GoodIn wsX5_keepChanges (va_wsS RX5 159 yX5_bitOf wsX5_bitOf) := goodIn_app (goodIn_of _ (by decide +kernel)) ggX5_keepChanges_X5_bitOf
set_option maxRecDepth 20000 in
theorem ggX5_keepChanges_X5_noteWritten : GoodIn wsX5_keepChanges wsX5_noteWritten := goodIn_r _ [12, 13, 3, 14, 2, 15, 16, 17, 18, 19, 20, 21, 22, 23, 6, 7, 8, 24, 25, 26, 27, 28, 29, 30, 31, 32, 33, 34, 35, 36, 37, 38, 39, 40, 41, 42, 43, 76, 77, 78, 79, 80, 81, 82, 83, 84, 85, 86, 87, 88, 89, 90, 91, 92, 93, 94, 95, 96, 97, 98, 99, 100, 101, 102, 103, 104, 105] (by decide +kernel) (by decide +kernel)
set_option maxRecDepth 20000 in
theorem gX5_keepChanges_X5_noteWritten : GoodIn wsX5_keepChanges (wsV RX5 216 RX5 yX5_noteWritten wsX5_noteWritten) := goodIn_app (goodIn_of _ (by decide +kernel)) ggX5_keepChanges_X5_noteWritten
set_option maxRecDepth 20000 in
theorem ggX5_keepChanges_X5_raiseHeight : GoodIn wsX5_keepChanges wsX5_raiseHeight := goodIn_r _ [47, 48, 49, 76, 77, 78, 79, 80, 81, 82, 83, 84, 85, 86, 87, 88, 89] (by decide +kernel) (by decide +kernel)
set_option maxRecDepth 20000 in
theorem gX5_keepChanges_X5_raiseHeight : GoodIn wsX5_keepChanges (wsV RX5 71 RX5 yX5_raiseHeight wsX5_raiseHeight) := goodIn_app (goodIn_of _ (by decide +kernel)) ggX5_keepChanges_X5_raiseHeight
set_option maxRecDepth 20000 in
theorem ggX5_keepChanges_X3_bodyOf : GoodIn wsX5_keepChanges wsX3_bodyOf := goodIn_r _ [20, 21, 22, 23, 6, 7, 8, 90, 91, 92, 93, 94, 95, 96, 97, 98, 99, 100] (by decide +kernel) (by decide +kernel)
set_option maxRecDepth 20000 in
theorem gX5_keepChanges_X3_bodyOf : GoodIn wsX5_keepChanges (wsV RX5 219 RX3 yX3_bodyOf wsX3_bodyOf) := goodIn_app (goodIn_of _ (by decide +kernel)) ggX5_keepChanges_X3_bodyOf
set_option maxRecDepth 20000 in
theorem ggX5_keepChanges_X5_newVersion : GoodIn wsX5_keepChanges wsX5_newVersion := goodIn_r _ [53, 54, 55, 27, 56, 48, 57, 13, 58, 59, 60, 61, 62, 63, 64, 65, 29, 66, 40, 35, 34, 67, 68, 69, 70, 71, 72, 73, 74, 75, 101, 102, 103, 104, 105, 76, 77, 78, 79, 80, 81, 82, 83, 84, 85, 86, 87, 88, 89] (by decide +kernel) (by decide +kernel)
set_option maxRecDepth 20000 in
theorem gX5_keepChanges_X5_newVersion : GoodIn wsX5_keepChanges (wsV RX5 74 RX5 yX5_newVersion wsX5_newVersion) := goodIn_app (goodIn_of _ (by decide +kernel)) ggX5_keepChanges_X5_newVersion
theorem dX5_keepChanges_0 : decode cX5_keepChanges 0 = .ok (.iconst 0, 1) := by decide +kernel
theorem dX5_keepChanges_1 : decode cX5_keepChanges 1 = .ok (.istore_n 1, 1) := by decide +kernel
theorem dX5_keepChanges_2 : decode cX5_keepChanges 2 = .ok (.iload_n 1, 1) := by decide +kernel
theorem dX5_keepChanges_3 : decode cX5_keepChanges 3 = .ok (.aload_n 0, 1) := by decide +kernel
theorem dX5_keepChanges_4 : decode cX5_keepChanges 4 = .ok (.getfield 46, 3) := by decide +kernel
theorem dX5_keepChanges_7 : decode cX5_keepChanges 7 = .ok (.if_icmp .ge 64, 3) := by decide +kernel
theorem dX5_keepChanges_10 : decode cX5_keepChanges 10 = .ok (.aload_n 0, 1) := by decide +kernel
theorem dX5_keepChanges_11 : decode cX5_keepChanges 11 = .ok (.getfield 131, 3) := by decide +kernel
theorem dX5_keepChanges_14 : decode cX5_keepChanges 14 = .ok (.istore_n 2, 1) := by decide +kernel
theorem dX5_keepChanges_15 : decode cX5_keepChanges 15 = .ok (.aload_n 0, 1) := by decide +kernel
theorem dX5_keepChanges_16 : decode cX5_keepChanges 16 = .ok (.getfield 24, 3) := by decide +kernel
theorem dX5_keepChanges_19 : decode cX5_keepChanges 19 = .ok (.getfield 119, 3) := by decide +kernel
theorem dX5_keepChanges_22 : decode cX5_keepChanges 22 = .ok (.iload_n 1, 1) := by decide +kernel
theorem dX5_keepChanges_23 : decode cX5_keepChanges 23 = .ok (.invokestatic 159, 3) := by decide +kernel
theorem dX5_keepChanges_26 : decode cX5_keepChanges 26 = .ok (.iconst 1, 1) := by decide +kernel
theorem dX5_keepChanges_27 : decode cX5_keepChanges 27 = .ok (.if_icmp .ne 8, 3) := by decide +kernel
theorem dX5_keepChanges_30 : decode cX5_keepChanges 30 = .ok (.aload_n 0, 1) := by decide +kernel
theorem dX5_keepChanges_31 : decode cX5_keepChanges 31 = .ok (.iload_n 1, 1) := by decide +kernel
theorem dX5_keepChanges_32 : decode cX5_keepChanges 32 = .ok (.invokevirtual 216, 3) := by decide +kernel
theorem dX5_keepChanges_35 : decode cX5_keepChanges 35 = .ok (.aload_n 0, 1) := by decide +kernel
theorem dX5_keepChanges_36 : decode cX5_keepChanges 36 = .ok (.getfield 131, 3) := by decide +kernel
theorem dX5_keepChanges_39 : decode cX5_keepChanges 39 = .ok (.iload_n 2, 1) := by decide +kernel
theorem dX5_keepChanges_40 : decode cX5_keepChanges 40 = .ok (.if_icmp .le 25, 3) := by decide +kernel
theorem dX5_keepChanges_43 : decode cX5_keepChanges 43 = .ok (.iload_n 2, 1) := by decide +kernel
theorem dX5_keepChanges_44 : decode cX5_keepChanges 44 = .ok (.ifCond .ne 7, 3) := by decide +kernel
theorem dX5_keepChanges_47 : decode cX5_keepChanges 47 = .ok (.aload_n 0, 1) := by decide +kernel
theorem dX5_keepChanges_48 : decode cX5_keepChanges 48 = .ok (.invokevirtual 71, 3) := by decide +kernel
theorem dX5_keepChanges_51 : decode cX5_keepChanges 51 = .ok (.aload_n 0, 1) := by decide +kernel
theorem dX5_keepChanges_52 : decode cX5_keepChanges 52 = .ok (.iload_n 1, 1) := by decide +kernel
theorem dX5_keepChanges_53 : decode cX5_keepChanges 53 = .ok (.aload_n 0, 1) := by decide +kernel
theorem dX5_keepChanges_54 : decode cX5_keepChanges 54 = .ok (.getfield 24, 3) := by decide +kernel
theorem dX5_keepChanges_57 : decode cX5_keepChanges 57 = .ok (.iload_n 1, 1) := by decide +kernel
theorem dX5_keepChanges_58 : decode cX5_keepChanges 58 = .ok (.invokevirtual 219, 3) := by decide +kernel
theorem dX5_keepChanges_61 : decode cX5_keepChanges 61 = .ok (.invokevirtual 74, 3) := by decide +kernel
theorem dX5_keepChanges_64 : decode cX5_keepChanges 64 = .ok (.pop, 1) := by decide +kernel
theorem dX5_keepChanges_65 : decode cX5_keepChanges 65 = .ok (.iinc 1 1, 3) := by decide +kernel
theorem dX5_keepChanges_68 : decode cX5_keepChanges 68 = .ok (.goto (-66), 3) := by decide +kernel
theorem dX5_keepChanges_71 : decode cX5_keepChanges 71 = .ok (.return_, 1) := by decide +kernel
set_option maxRecDepth 20000 in
theorem ggX5_noteWritten_X3_bodyOf : GoodIn wsX5_noteWritten wsX3_bodyOf := goodIn_r _ [10, 11, 12, 13, 14, 15, 16, 51, 52, 53, 54, 55, 56, 57, 58, 59, 60, 61] (by decide +kernel) (by decide +kernel)
set_option maxRecDepth 20000 in
theorem gX5_noteWritten_X3_bodyOf : GoodIn wsX5_noteWritten (wsV RX5 219 RX3 yX3_bodyOf wsX3_bodyOf) := goodIn_app (goodIn_of _ (by decide +kernel)) ggX5_noteWritten_X3_bodyOf
set_option maxRecDepth 20000 in
theorem ggX5_noteWritten_X2_hasSameField : GoodIn wsX5_noteWritten wsX2_hasSameField := goodIn_r _ [21, 22, 23, 24, 25, 20, 26, 27, 28, 29, 30, 31, 32, 33, 34, 35, 36, 62, 63, 64, 65, 66] (by decide +kernel) (by decide +kernel)
set_option maxRecDepth 20000 in
theorem gX5_noteWritten_X2_hasSameField : GoodIn wsX5_noteWritten (wsV RX5 222 RX2 yX2_hasSameField wsX2_hasSameField) := goodIn_app (goodIn_of _ (by decide +kernel)) ggX5_noteWritten_X2_hasSameField
theorem dX5_noteWritten_0 : decode cX5_noteWritten 0 = .ok (.iconst 0, 1) := by decide +kernel
theorem dX5_noteWritten_1 : decode cX5_noteWritten 1 = .ok (.istore_n 2, 1) := by decide +kernel
theorem dX5_noteWritten_2 : decode cX5_noteWritten 2 = .ok (.iload_n 2, 1) := by decide +kernel
theorem dX5_noteWritten_3 : decode cX5_noteWritten 3 = .ok (.bipush 8, 2) := by decide +kernel
theorem dX5_noteWritten_5 : decode cX5_noteWritten 5 = .ok (.if_icmp .ge 67, 3) := by decide +kernel
theorem dX5_noteWritten_8 : decode cX5_noteWritten 8 = .ok (.aload_n 0, 1) := by decide +kernel
theorem dX5_noteWritten_9 : decode cX5_noteWritten 9 = .ok (.getfield 11, 3) := by decide +kernel
theorem dX5_noteWritten_12 : decode cX5_noteWritten 12 = .ok (.iload_n 1, 1) := by decide +kernel
theorem dX5_noteWritten_13 : decode cX5_noteWritten 13 = .ok (.aaload, 1) := by decide +kernel
theorem dX5_noteWritten_14 : decode cX5_noteWritten 14 = .ok (.aload_n 0, 1) := by decide +kernel
theorem dX5_noteWritten_15 : decode cX5_noteWritten 15 = .ok (.getfield 24, 3) := by decide +kernel
theorem dX5_noteWritten_18 : decode cX5_noteWritten 18 = .ok (.iload_n 1, 1) := by decide +kernel
theorem dX5_noteWritten_19 : decode cX5_noteWritten 19 = .ok (.invokevirtual 219, 3) := by decide +kernel
theorem dX5_noteWritten_22 : decode cX5_noteWritten 22 = .ok (.iload_n 2, 1) := by decide +kernel
theorem dX5_noteWritten_23 : decode cX5_noteWritten 23 = .ok (.invokevirtual 222, 3) := by decide +kernel
theorem dX5_noteWritten_26 : decode cX5_noteWritten 26 = .ok (.ifCond .ne 40, 3) := by decide +kernel
theorem dX5_noteWritten_29 : decode cX5_noteWritten 29 = .ok (.bipush 8, 2) := by decide +kernel
theorem dX5_noteWritten_31 : decode cX5_noteWritten 31 = .ok (.iload_n 1, 1) := by decide +kernel
theorem dX5_noteWritten_32 : decode cX5_noteWritten 32 = .ok (.imul, 1) := by decide +kernel
theorem dX5_noteWritten_33 : decode cX5_noteWritten 33 = .ok (.iload_n 2, 1) := by decide +kernel
theorem dX5_noteWritten_34 : decode cX5_noteWritten 34 = .ok (.iadd, 1) := by decide +kernel
theorem dX5_noteWritten_35 : decode cX5_noteWritten 35 = .ok (.istore_n 3, 1) := by decide +kernel
theorem dX5_noteWritten_36 : decode cX5_noteWritten 36 = .ok (.aload_n 0, 1) := by decide +kernel
theorem dX5_noteWritten_37 : decode cX5_noteWritten 37 = .ok (.getfield 34, 3) := by decide +kernel
theorem dX5_noteWritten_40 : decode cX5_noteWritten 40 = .ok (.aload_n 0, 1) := by decide +kernel
theorem dX5_noteWritten_41 : decode cX5_noteWritten 41 = .ok (.getfield 131, 3) := by decide +kernel
theorem dX5_noteWritten_44 : decode cX5_noteWritten 44 = .ok (.iload_n 3, 1) := by decide +kernel
theorem dX5_noteWritten_45 : decode cX5_noteWritten 45 = .ok (.iastore, 1) := by decide +kernel
theorem dX5_noteWritten_46 : decode cX5_noteWritten 46 = .ok (.aload_n 0, 1) := by decide +kernel
theorem dX5_noteWritten_47 : decode cX5_noteWritten 47 = .ok (.dup, 1) := by decide +kernel
theorem dX5_noteWritten_48 : decode cX5_noteWritten 48 = .ok (.getfield 131, 3) := by decide +kernel
theorem dX5_noteWritten_51 : decode cX5_noteWritten 51 = .ok (.iconst 1, 1) := by decide +kernel
theorem dX5_noteWritten_52 : decode cX5_noteWritten 52 = .ok (.iadd, 1) := by decide +kernel
theorem dX5_noteWritten_53 : decode cX5_noteWritten 53 = .ok (.putfield 131, 3) := by decide +kernel
theorem dX5_noteWritten_56 : decode cX5_noteWritten 56 = .ok (.aload_n 0, 1) := by decide +kernel
theorem dX5_noteWritten_57 : decode cX5_noteWritten 57 = .ok (.getfield 38, 3) := by decide +kernel
theorem dX5_noteWritten_60 : decode cX5_noteWritten 60 = .ok (.iload_n 3, 1) := by decide +kernel
theorem dX5_noteWritten_61 : decode cX5_noteWritten 61 = .ok (.dup2, 1) := by decide +kernel
theorem dX5_noteWritten_62 : decode cX5_noteWritten 62 = .ok (.iaload, 1) := by decide +kernel
theorem dX5_noteWritten_63 : decode cX5_noteWritten 63 = .ok (.iconst 1, 1) := by decide +kernel
theorem dX5_noteWritten_64 : decode cX5_noteWritten 64 = .ok (.iadd, 1) := by decide +kernel
theorem dX5_noteWritten_65 : decode cX5_noteWritten 65 = .ok (.iastore, 1) := by decide +kernel
theorem dX5_noteWritten_66 : decode cX5_noteWritten 66 = .ok (.iinc 2 1, 3) := by decide +kernel
theorem dX5_noteWritten_69 : decode cX5_noteWritten 69 = .ok (.goto (-67), 3) := by decide +kernel
theorem dX5_noteWritten_72 : decode cX5_noteWritten 72 = .ok (.return_, 1) := by decide +kernel
theorem dX6_init_0 : decode cX6_init 0 = .ok (.aload_n 0, 1) := by decide +kernel
theorem dX6_init_1 : decode cX6_init 1 = .ok (.invokespecial 1, 3) := by decide +kernel
theorem dX6_init_4 : decode cX6_init 4 = .ok (.aload_n 0, 1) := by decide +kernel
theorem dX6_init_5 : decode cX6_init 5 = .ok (.bipush 24, 2) := by decide +kernel
theorem dX6_init_7 : decode cX6_init 7 = .ok (.newarray .int, 2) := by decide +kernel
