theorem dX6_init_9 : decode cX6_init 9 = .ok (.putfield 7, 3) := by decide +kernel
theorem dX6_init_12 : decode cX6_init 12 = .ok (.aload_n 0, 1) := by decide +kernel
theorem dX6_init_13 : decode cX6_init 13 = .ok (.sipush 8064, 3) := by decide +kernel
theorem dX6_init_16 : decode cX6_init 16 = .ok (.newarray .long, 2) := by decide +kernel
theorem dX6_init_18 : decode cX6_init 18 = .ok (.putfield 13, 3) := by decide +kernel
theorem dX6_init_21 : decode cX6_init 21 = .ok (.aload_n 0, 1) := by decide +kernel
theorem dX6_init_22 : decode cX6_init 22 = .ok (.sipush 8064, 3) := by decide +kernel
theorem dX6_init_25 : decode cX6_init 25 = .ok (.newarray .int, 2) := by decide +kernel
theorem dX6_init_27 : decode cX6_init 27 = .ok (.putfield 17, 3) := by decide +kernel
theorem dX6_init_30 : decode cX6_init 30 = .ok (.aload_n 0, 1) := by decide +kernel
theorem dX6_init_31 : decode cX6_init 31 = .ok (.ldc 20, 2) := by decide +kernel
theorem dX6_init_33 : decode cX6_init 33 = .ok (.newarray .int, 2) := by decide +kernel
theorem dX6_init_35 : decode cX6_init 35 = .ok (.putfield 21, 3) := by decide +kernel
theorem dX6_init_38 : decode cX6_init 38 = .ok (.aload_n 0, 1) := by decide +kernel
theorem dX6_init_39 : decode cX6_init 39 = .ok (.bipush 24, 2) := by decide +kernel
theorem dX6_init_41 : decode cX6_init 41 = .ok (.newarray .boolean, 2) := by decide +kernel
theorem dX6_init_43 : decode cX6_init 43 = .ok (.putfield 24, 3) := by decide +kernel
theorem dX6_init_46 : decode cX6_init 46 = .ok (.aload_n 0, 1) := by decide +kernel
theorem dX6_init_47 : decode cX6_init 47 = .ok (.sipush 192, 3) := by decide +kernel
theorem dX6_init_50 : decode cX6_init 50 = .ok (.newarray .int, 2) := by decide +kernel
theorem dX6_init_52 : decode cX6_init 52 = .ok (.putfield 28, 3) := by decide +kernel
theorem dX6_init_55 : decode cX6_init 55 = .ok (.aload_n 0, 1) := by decide +kernel
theorem dX6_init_56 : decode cX6_init 56 = .ok (.bipush 6, 2) := by decide +kernel
theorem dX6_init_58 : decode cX6_init 58 = .ok (.newarray .int, 2) := by decide +kernel
theorem dX6_init_60 : decode cX6_init 60 = .ok (.putfield 31, 3) := by decide +kernel
theorem dX6_init_63 : decode cX6_init 63 = .ok (.aload_n 0, 1) := by decide +kernel
theorem dX6_init_64 : decode cX6_init 64 = .ok (.sipush 192, 3) := by decide +kernel
theorem dX6_init_67 : decode cX6_init 67 = .ok (.newarray .int, 2) := by decide +kernel
theorem dX6_init_69 : decode cX6_init 69 = .ok (.putfield 34, 3) := by decide +kernel
theorem dX6_init_72 : decode cX6_init 72 = .ok (.aload_n 0, 1) := by decide +kernel
theorem dX6_init_73 : decode cX6_init 73 = .ok (.sipush 192, 3) := by decide +kernel
theorem dX6_init_76 : decode cX6_init 76 = .ok (.newarray .int, 2) := by decide +kernel
theorem dX6_init_78 : decode cX6_init 78 = .ok (.putfield 37, 3) := by decide +kernel
theorem dX6_init_81 : decode cX6_init 81 = .ok (.aload_n 0, 1) := by decide +kernel
theorem dX6_init_82 : decode cX6_init 82 = .ok (.sipush 192, 3) := by decide +kernel
theorem dX6_init_85 : decode cX6_init 85 = .ok (.newarray .long, 2) := by decide +kernel
theorem dX6_init_87 : decode cX6_init 87 = .ok (.putfield 40, 3) := by decide +kernel
theorem dX6_init_90 : decode cX6_init 90 = .ok (.aload_n 0, 1) := by decide +kernel
theorem dX6_init_91 : decode cX6_init 91 = .ok (.sipush 192, 3) := by decide +kernel
theorem dX6_init_94 : decode cX6_init 94 = .ok (.newarray .int, 2) := by decide +kernel
theorem dX6_init_96 : decode cX6_init 96 = .ok (.putfield 43, 3) := by decide +kernel
theorem dX6_init_99 : decode cX6_init 99 = .ok (.aload_n 0, 1) := by decide +kernel
theorem dX6_init_100 : decode cX6_init 100 = .ok (.sipush 192, 3) := by decide +kernel
theorem dX6_init_103 : decode cX6_init 103 = .ok (.newarray .int, 2) := by decide +kernel
theorem dX6_init_105 : decode cX6_init 105 = .ok (.putfield 46, 3) := by decide +kernel
theorem dX6_init_108 : decode cX6_init 108 = .ok (.aload_n 0, 1) := by decide +kernel
theorem dX6_init_109 : decode cX6_init 109 = .ok (.sipush 192, 3) := by decide +kernel
theorem dX6_init_112 : decode cX6_init 112 = .ok (.newarray .int, 2) := by decide +kernel
theorem dX6_init_114 : decode cX6_init 114 = .ok (.putfield 49, 3) := by decide +kernel
theorem dX6_init_117 : decode cX6_init 117 = .ok (.aload_n 0, 1) := by decide +kernel
theorem dX6_init_118 : decode cX6_init 118 = .ok (.bipush (-3), 2) := by decide +kernel
theorem dX6_init_120 : decode cX6_init 120 = .ok (.putfield 52, 3) := by decide +kernel
theorem dX6_init_123 : decode cX6_init 123 = .ok (.aload_n 0, 1) := by decide +kernel
theorem dX6_init_124 : decode cX6_init 124 = .ok (.sipush 400, 3) := by decide +kernel
theorem dX6_init_127 : decode cX6_init 127 = .ok (.newarray .int, 2) := by decide +kernel
theorem dX6_init_129 : decode cX6_init 129 = .ok (.putfield 56, 3) := by decide +kernel
theorem dX6_init_132 : decode cX6_init 132 = .ok (.aload_n 0, 1) := by decide +kernel
theorem dX6_init_133 : decode cX6_init 133 = .ok (.sipush 400, 3) := by decide +kernel
theorem dX6_init_136 : decode cX6_init 136 = .ok (.newarray .int, 2) := by decide +kernel
theorem dX6_init_138 : decode cX6_init 138 = .ok (.putfield 59, 3) := by decide +kernel
theorem dX6_init_141 : decode cX6_init 141 = .ok (.aload_n 0, 1) := by decide +kernel
theorem dX6_init_142 : decode cX6_init 142 = .ok (.sipush 192, 3) := by decide +kernel
theorem dX6_init_145 : decode cX6_init 145 = .ok (.newarray .int, 2) := by decide +kernel
theorem dX6_init_147 : decode cX6_init 147 = .ok (.putfield 62, 3) := by decide +kernel
theorem dX6_init_150 : decode cX6_init 150 = .ok (.aload_n 0, 1) := by decide +kernel
theorem dX6_init_151 : decode cX6_init 151 = .ok (.bipush 24, 2) := by decide +kernel
theorem dX6_init_153 : decode cX6_init 153 = .ok (.newarray .boolean, 2) := by decide +kernel
theorem dX6_init_155 : decode cX6_init 155 = .ok (.putfield 65, 3) := by decide +kernel
theorem dX6_init_158 : decode cX6_init 158 = .ok (.aload_n 0, 1) := by decide +kernel
theorem dX6_init_159 : decode cX6_init 159 = .ok (.iconst 4, 1) := by decide +kernel
theorem dX6_init_160 : decode cX6_init 160 = .ok (.newarray .int, 2) := by decide +kernel
theorem dX6_init_162 : decode cX6_init 162 = .ok (.putfield 68, 3) := by decide +kernel
theorem dX6_init_165 : decode cX6_init 165 = .ok (.aload_n 0, 1) := by decide +kernel
theorem dX6_init_166 : decode cX6_init 166 = .ok (.iconst 4, 1) := by decide +kernel
theorem dX6_init_167 : decode cX6_init 167 = .ok (.newarray .long, 2) := by decide +kernel
theorem dX6_init_169 : decode cX6_init 169 = .ok (.putfield 71, 3) := by decide +kernel
theorem dX6_init_172 : decode cX6_init 172 = .ok (.return_, 1) := by decide +kernel
theorem dX6_in_0 : decode cX6_in 0 = .ok (.lload_n 0, 1) := by decide +kernel
theorem dX6_in_1 : decode cX6_in 1 = .ok (.lload_n 2, 1) := by decide +kernel
theorem dX6_in_2 : decode cX6_in 2 = .ok (.lcmp, 1) := by decide +kernel
theorem dX6_in_3 : decode cX6_in 3 = .ok (.ifCond .lt 14, 3) := by decide +kernel
theorem dX6_in_6 : decode cX6_in 6 = .ok (.lload_n 0, 1) := by decide +kernel
theorem dX6_in_7 : decode cX6_in 7 = .ok (.lload 4, 2) := by decide +kernel
theorem dX6_in_9 : decode cX6_in 9 = .ok (.lcmp, 1) := by decide +kernel
theorem dX6_in_10 : decode cX6_in 10 = .ok (.ifCond .gt 7, 3) := by decide +kernel
theorem dX6_in_13 : decode cX6_in 13 = .ok (.iconst 1, 1) := by decide +kernel
theorem dX6_in_14 : decode cX6_in 14 = .ok (.goto 4, 3) := by decide +kernel
theorem dX6_in_17 : decode cX6_in 17 = .ok (.iconst 0, 1) := by decide +kernel
theorem dX6_in_18 : decode cX6_in 18 = .ok (.ireturn, 1) := by decide +kernel
set_option maxRecDepth 20000 in
theorem ggX6_isObject_X6_in : GoodIn wsX6_isObject wsX6_in := goodIn_r _ [5] (by decide +kernel) (by decide +kernel)
set_option maxRecDepth 20000 in
theorem gX6_isObject_X6_in : GoodIn wsX6_isObject (va_wsS RX6 77 yX6_in wsX6_in) := goodIn_app (goodIn_of _ (by decide +kernel)) ggX6_isObject_X6_in
theorem dX6_isObject_0 : decode cX6_isObject 0 = .ok (.iload_n 1, 1) := by decide +kernel
theorem dX6_isObject_1 : decode cX6_isObject 1 = .ok (.i2l, 1) := by decide +kernel
theorem dX6_isObject_2 : decode cX6_isObject 2 = .ok (.lconst 0, 1) := by decide +kernel
theorem dX6_isObject_3 : decode cX6_isObject 3 = .ok (.aload_n 0, 1) := by decide +kernel
theorem dX6_isObject_4 : decode cX6_isObject 4 = .ok (.getfield 74, 3) := by decide +kernel
theorem dX6_isObject_7 : decode cX6_isObject 7 = .ok (.iconst 1, 1) := by decide +kernel
theorem dX6_isObject_8 : decode cX6_isObject 8 = .ok (.isub, 1) := by decide +kernel
theorem dX6_isObject_9 : decode cX6_isObject 9 = .ok (.i2l, 1) := by decide +kernel
theorem dX6_isObject_10 : decode cX6_isObject 10 = .ok (.invokestatic 77, 3) := by decide +kernel
theorem dX6_isObject_13 : decode cX6_isObject 13 = .ok (.ireturn, 1) := by decide +kernel
theorem dX6_fieldsOf_0 : decode cX6_fieldsOf 0 = .ok (.iload_n 0, 1) := by decide +kernel
theorem dX6_fieldsOf_1 : decode cX6_fieldsOf 1 = .ok (.ifCond .ne 7, 3) := by decide +kernel
theorem dX6_fieldsOf_4 : decode cX6_fieldsOf 4 = .ok (.iconst 3, 1) := by decide +kernel
theorem dX6_fieldsOf_5 : decode cX6_fieldsOf 5 = .ok (.goto 14, 3) := by decide +kernel
theorem dX6_fieldsOf_8 : decode cX6_fieldsOf 8 = .ok (.iload_n 0, 1) := by decide +kernel
theorem dX6_fieldsOf_9 : decode cX6_fieldsOf 9 = .ok (.iconst 1, 1) := by decide +kernel
theorem dX6_fieldsOf_10 : decode cX6_fieldsOf 10 = .ok (.if_icmp .ne 8, 3) := by decide +kernel
theorem dX6_fieldsOf_13 : decode cX6_fieldsOf 13 = .ok (.bipush 6, 2) := by decide +kernel
theorem dX6_fieldsOf_15 : decode cX6_fieldsOf 15 = .ok (.goto 4, 3) := by decide +kernel
theorem dX6_fieldsOf_18 : decode cX6_fieldsOf 18 = .ok (.iconst 4, 1) := by decide +kernel
theorem dX6_fieldsOf_19 : decode cX6_fieldsOf 19 = .ok (.ireturn, 1) := by decide +kernel
theorem dX6_sortOf_0 : decode cX6_sortOf 0 = .ok (.iload_n 0, 1) := by decide +kernel
theorem dX6_sortOf_1 : decode cX6_sortOf 1 = .ok (.ifCond .ne 14, 3) := by decide +kernel
theorem dX6_sortOf_4 : decode cX6_sortOf 4 = .ok (.iload_n 1, 1) := by decide +kernel
theorem dX6_sortOf_5 : decode cX6_sortOf 5 = .ok (.iconst 2, 1) := by decide +kernel
theorem dX6_sortOf_6 : decode cX6_sortOf 6 = .ok (.if_icmp .ge 7, 3) := by decide +kernel
theorem dX6_sortOf_9 : decode cX6_sortOf 9 = .ok (.iconst 0, 1) := by decide +kernel
theorem dX6_sortOf_10 : decode cX6_sortOf 10 = .ok (.goto 4, 3) := by decide +kernel
theorem dX6_sortOf_13 : decode cX6_sortOf 13 = .ok (.iconst 1, 1) := by decide +kernel
theorem dX6_sortOf_14 : decode cX6_sortOf 14 = .ok (.ireturn, 1) := by decide +kernel
theorem dX6_sortOf_15 : decode cX6_sortOf 15 = .ok (.iload_n 0, 1) := by decide +kernel
theorem dX6_sortOf_16 : decode cX6_sortOf 16 = .ok (.iconst 1, 1) := by decide +kernel
theorem dX6_sortOf_17 : decode cX6_sortOf 17 = .ok (.if_icmp .ne 23, 3) := by decide +kernel
theorem dX6_sortOf_20 : decode cX6_sortOf 20 = .ok (.iload_n 1, 1) := by decide +kernel
theorem dX6_sortOf_21 : decode cX6_sortOf 21 = .ok (.iconst 3, 1) := by decide +kernel
theorem dX6_sortOf_22 : decode cX6_sortOf 22 = .ok (.if_icmp .ge 7, 3) := by decide +kernel
theorem dX6_sortOf_25 : decode cX6_sortOf 25 = .ok (.iconst 0, 1) := by decide +kernel
theorem dX6_sortOf_26 : decode cX6_sortOf 26 = .ok (.goto 13, 3) := by decide +kernel
theorem dX6_sortOf_29 : decode cX6_sortOf 29 = .ok (.iload_n 1, 1) := by decide +kernel
theorem dX6_sortOf_30 : decode cX6_sortOf 30 = .ok (.iconst 5, 1) := by decide +kernel
theorem dX6_sortOf_31 : decode cX6_sortOf 31 = .ok (.if_icmp .ge 7, 3) := by decide +kernel
theorem dX6_sortOf_34 : decode cX6_sortOf 34 = .ok (.iconst 1, 1) := by decide +kernel
theorem dX6_sortOf_35 : decode cX6_sortOf 35 = .ok (.goto 4, 3) := by decide +kernel
theorem dX6_sortOf_38 : decode cX6_sortOf 38 = .ok (.iconst 2, 1) := by decide +kernel
theorem dX6_sortOf_39 : decode cX6_sortOf 39 = .ok (.ireturn, 1) := by decide +kernel
theorem dX6_sortOf_40 : decode cX6_sortOf 40 = .ok (.iload_n 1, 1) := by decide +kernel
theorem dX6_sortOf_41 : decode cX6_sortOf 41 = .ok (.ifCond .ne 7, 3) := by decide +kernel
theorem dX6_sortOf_44 : decode cX6_sortOf 44 = .ok (.iconst 0, 1) := by decide +kernel
theorem dX6_sortOf_45 : decode cX6_sortOf 45 = .ok (.goto 13, 3) := by decide +kernel
theorem dX6_sortOf_48 : decode cX6_sortOf 48 = .ok (.iload_n 1, 1) := by decide +kernel
theorem dX6_sortOf_49 : decode cX6_sortOf 49 = .ok (.iconst 3, 1) := by decide +kernel
theorem dX6_sortOf_50 : decode cX6_sortOf 50 = .ok (.if_icmp .ge 7, 3) := by decide +kernel
theorem dX6_sortOf_53 : decode cX6_sortOf 53 = .ok (.iconst 2, 1) := by decide +kernel
theorem dX6_sortOf_54 : decode cX6_sortOf 54 = .ok (.goto 4, 3) := by decide +kernel
theorem dX6_sortOf_57 : decode cX6_sortOf 57 = .ok (.iconst 1, 1) := by decide +kernel
theorem dX6_sortOf_58 : decode cX6_sortOf 58 = .ok (.ireturn, 1) := by decide +kernel
set_option maxRecDepth 20000 in
theorem ggX6_has_X6_isObject : GoodIn wsX6_has wsX6_isObject := goodIn_r _ [6, 7, 8, 9, 5, 10, 17, 18, 19, 20, 21, 22, 23, 24, 25, 26, 27, 28, 29, 30, 31, 32, 33, 34, 35, 36, 37, 38, 39, 40, 41, 42, 43, 44, 45, 46] (by decide +kernel) (by decide +kernel)
set_option maxRecDepth 20000 in
theorem gX6_has_X6_isObject : GoodIn wsX6_has (wsV RX6 81 RX6 yX6_isObject wsX6_isObject) := goodIn_app (goodIn_of _ (by decide +kernel)) ggX6_has_X6_isObject
set_option maxRecDepth 20000 in
theorem ggX6_has_X6_fieldsOf : GoodIn wsX6_has wsX6_fieldsOf := goodIn_r _ [13] (by decide +kernel) (by decide +kernel)
set_option maxRecDepth 20000 in
theorem gX6_has_X6_fieldsOf : GoodIn wsX6_has (va_wsS RX6 85 yX6_fieldsOf wsX6_fieldsOf) := goodIn_app (goodIn_of _ (by decide +kernel)) ggX6_has_X6_fieldsOf
set_option maxRecDepth 20000 in
theorem ggX6_has_X6_in : GoodIn wsX6_has wsX6_in := goodIn_r _ [10] (by decide +kernel) (by decide +kernel)
set_option maxRecDepth 20000 in
theorem gX6_has_X6_in : GoodIn wsX6_has (va_wsS RX6 77 yX6_in wsX6_in) := goodIn_app (goodIn_of _ (by decide +kernel)) ggX6_has_X6_in
set_option maxRecDepth 20000 in
theorem ggX6_has_X6_sortOf : GoodIn wsX6_has wsX6_sortOf := goodIn_r _ [16] (by decide +kernel) (by decide +kernel)
set_option maxRecDepth 20000 in
theorem gX6_has_X6_sortOf : GoodIn wsX6_has (va_wsS RX6 89 yX6_sortOf wsX6_sortOf) := goodIn_app (goodIn_of _ (by decide +kernel)) ggX6_has_X6_sortOf
theorem dX6_has_0 : decode cX6_has 0 = .ok (.aload_n 0, 1) := by decide +kernel
theorem dX6_has_1 : decode cX6_has 1 = .ok (.iload_n 1, 1) := by decide +kernel
theorem dX6_has_2 : decode cX6_has 2 = .ok (.invokevirtual 81, 3) := by decide +kernel
theorem dX6_has_5 : decode cX6_has 5 = .ok (.ifCond .eq 42, 3) := by decide +kernel
theorem dX6_has_8 : decode cX6_has 8 = .ok (.iload_n 2, 1) := by decide +kernel
theorem dX6_has_9 : decode cX6_has 9 = .ok (.i2l, 1) := by decide +kernel
theorem dX6_has_10 : decode cX6_has 10 = .ok (.lconst 0, 1) := by decide +kernel
theorem dX6_has_11 : decode cX6_has 11 = .ok (.aload_n 0, 1) := by decide +kernel
theorem dX6_has_12 : decode cX6_has 12 = .ok (.getfield 7, 3) := by decide +kernel
theorem dX6_has_15 : decode cX6_has 15 = .ok (.iload_n 1, 1) := by decide +kernel
theorem dX6_has_16 : decode cX6_has 16 = .ok (.iaload, 1) := by decide +kernel
theorem dX6_has_17 : decode cX6_has 17 = .ok (.invokestatic 85, 3) := by decide +kernel
theorem dX6_has_20 : decode cX6_has 20 = .ok (.iconst 1, 1) := by decide +kernel
theorem dX6_has_21 : decode cX6_has 21 = .ok (.isub, 1) := by decide +kernel
theorem dX6_has_22 : decode cX6_has 22 = .ok (.i2l, 1) := by decide +kernel
theorem dX6_has_23 : decode cX6_has 23 = .ok (.invokestatic 77, 3) := by decide +kernel
theorem dX6_has_26 : decode cX6_has 26 = .ok (.ifCond .eq 21, 3) := by decide +kernel
theorem dX6_has_29 : decode cX6_has 29 = .ok (.aload_n 0, 1) := by decide +kernel
theorem dX6_has_30 : decode cX6_has 30 = .ok (.getfield 7, 3) := by decide +kernel
theorem dX6_has_33 : decode cX6_has 33 = .ok (.iload_n 1, 1) := by decide +kernel
theorem dX6_has_34 : decode cX6_has 34 = .ok (.iaload, 1) := by decide +kernel
theorem dX6_has_35 : decode cX6_has 35 = .ok (.iload_n 2, 1) := by decide +kernel
theorem dX6_has_36 : decode cX6_has 36 = .ok (.invokestatic 89, 3) := by decide +kernel
theorem dX6_has_39 : decode cX6_has 39 = .ok (.iload_n 3, 1) := by decide +kernel
theorem dX6_has_40 : decode cX6_has 40 = .ok (.if_icmp .ne 7, 3) := by decide +kernel
theorem dX6_has_43 : decode cX6_has 43 = .ok (.iconst 1, 1) := by decide +kernel
theorem dX6_has_44 : decode cX6_has 44 = .ok (.goto 4, 3) := by decide +kernel
theorem dX6_has_47 : decode cX6_has 47 = .ok (.iconst 0, 1) := by decide +kernel
theorem dX6_has_48 : decode cX6_has 48 = .ok (.ireturn, 1) := by decide +kernel
set_option maxRecDepth 20000 in
theorem ggX6_first_X6_fieldsOf : GoodIn wsX6_first wsX6_fieldsOf := goodIn_r _ [8] (by decide +kernel) (by decide +kernel)
set_option maxRecDepth 20000 in
theorem gX6_first_X6_fieldsOf : GoodIn wsX6_first (va_wsS RX6 85 yX6_fieldsOf wsX6_fieldsOf) := goodIn_app (goodIn_of _ (by decide +kernel)) ggX6_first_X6_fieldsOf
set_option maxRecDepth 20000 in
theorem ggX6_first_X6_sortOf : GoodIn wsX6_first wsX6_sortOf := goodIn_r _ [11] (by decide +kernel) (by decide +kernel)
set_option maxRecDepth 20000 in
theorem gX6_first_X6_sortOf : GoodIn wsX6_first (va_wsS RX6 89 yX6_sortOf wsX6_sortOf) := goodIn_app (goodIn_of _ (by decide +kernel)) ggX6_first_X6_sortOf
theorem dX6_first_0 : decode cX6_first 0 = .ok (.sipush 192, 3) := by decide +kernel
theorem dX6_first_3 : decode cX6_first 3 = .ok (.iload_n 1, 1) := by decide +kernel
theorem dX6_first_4 : decode cX6_first 4 = .ok (.imul, 1) := by decide +kernel
theorem dX6_first_5 : decode cX6_first 5 = .ok (.bipush 8, 2) := by decide +kernel
theorem dX6_first_7 : decode cX6_first 7 = .ok (.iload_n 2, 1) := by decide +kernel
theorem dX6_first_8 : decode cX6_first 8 = .ok (.imul, 1) := by decide +kernel
theorem dX6_first_9 : decode cX6_first 9 = .ok (.iadd, 1) := by decide +kernel
theorem dX6_first_10 : decode cX6_first 10 = .ok (.iload_n 3, 1) := by decide +kernel
theorem dX6_first_11 : decode cX6_first 11 = .ok (.iadd, 1) := by decide +kernel
theorem dX6_first_12 : decode cX6_first 12 = .ok (.istore 4, 2) := by decide +kernel
theorem dX6_first_14 : decode cX6_first 14 = .ok (.aload_n 0, 1) := by decide +kernel
theorem dX6_first_15 : decode cX6_first 15 = .ok (.getfield 13, 3) := by decide +kernel
theorem dX6_first_18 : decode cX6_first 18 = .ok (.iload 4, 2) := by decide +kernel
theorem dX6_first_20 : decode cX6_first 20 = .ok (.iload_n 3, 1) := by decide +kernel
theorem dX6_first_21 : decode cX6_first 21 = .ok (.aload_n 0, 1) := by decide +kernel
theorem dX6_first_22 : decode cX6_first 22 = .ok (.getfield 7, 3) := by decide +kernel
theorem dX6_first_25 : decode cX6_first 25 = .ok (.iload_n 2, 1) := by decide +kernel
theorem dX6_first_26 : decode cX6_first 26 = .ok (.iaload, 1) := by decide +kernel
theorem dX6_first_27 : decode cX6_first 27 = .ok (.invokestatic 85, 3) := by decide +kernel
theorem dX6_first_30 : decode cX6_first 30 = .ok (.if_icmp .ge 23, 3) := by decide +kernel
theorem dX6_first_33 : decode cX6_first 33 = .ok (.aload_n 0, 1) := by decide +kernel
theorem dX6_first_34 : decode cX6_first 34 = .ok (.getfield 7, 3) := by decide +kernel
theorem dX6_first_37 : decode cX6_first 37 = .ok (.iload_n 2, 1) := by decide +kernel
theorem dX6_first_38 : decode cX6_first 38 = .ok (.iaload, 1) := by decide +kernel
theorem dX6_first_39 : decode cX6_first 39 = .ok (.iload_n 3, 1) := by decide +kernel
theorem dX6_first_40 : decode cX6_first 40 = .ok (.invokestatic 89, 3) := by decide +kernel
theorem dX6_first_43 : decode cX6_first 43 = .ok (.iconst 1, 1) := by decide +kernel
theorem dX6_first_44 : decode cX6_first 44 = .ok (.if_icmp .ne 9, 3) := by decide +kernel
theorem dX6_first_47 : decode cX6_first 47 = .ok (.ldc2_w 93, 3) := by decide +kernel
theorem dX6_first_50 : decode cX6_first 50 = .ok (.goto 4, 3) := by decide +kernel
theorem dX6_first_53 : decode cX6_first 53 = .ok (.lconst 0, 1) := by decide +kernel
theorem dX6_first_54 : decode cX6_first 54 = .ok (.lastore, 1) := by decide +kernel
theorem dX6_first_55 : decode cX6_first 55 = .ok (.aload_n 0, 1) := by decide +kernel
theorem dX6_first_56 : decode cX6_first 56 = .ok (.getfield 17, 3) := by decide +kernel
theorem dX6_first_59 : decode cX6_first 59 = .ok (.iload 4, 2) := by decide +kernel
theorem dX6_first_61 : decode cX6_first 61 = .ok (.bipush (-3), 2) := by decide +kernel
theorem dX6_first_63 : decode cX6_first 63 = .ok (.iastore, 1) := by decide +kernel
theorem dX6_first_64 : decode cX6_first 64 = .ok (.return_, 1) := by decide +kernel
set_option maxRecDepth 20000 in
theorem ggX6_object_X6_in : GoodIn wsX6_object wsX6_in := goodIn_r _ [7] (by decide +kernel) (by decide +kernel)
set_option maxRecDepth 20000 in
theorem gX6_object_X6_in : GoodIn wsX6_object (va_wsS RX6 77 yX6_in wsX6_in) := goodIn_app (goodIn_of _ (by decide +kernel)) ggX6_object_X6_in
set_option maxRecDepth 20000 in
theorem ggX6_object_X6_first : GoodIn wsX6_object wsX6_first := goodIn_r _ [11, 12, 3, 13, 14, 15, 16, 6, 17, 18, 19, 20, 21, 22, 23, 24, 25, 26, 27, 28, 29, 30, 31, 32, 33, 34, 35, 36, 37, 38, 39, 40, 41, 42, 43, 44, 45, 46, 47, 48, 49, 50] (by decide +kernel) (by decide +kernel)
set_option maxRecDepth 20000 in
theorem gX6_object_X6_first : GoodIn wsX6_object (wsV RX6 97 RX6 yX6_first wsX6_first) := goodIn_app (goodIn_of _ (by decide +kernel)) ggX6_object_X6_first
theorem dX6_object_0 : decode cX6_object 0 = .ok (.iload_n 1, 1) := by decide +kernel
theorem dX6_object_1 : decode cX6_object 1 = .ok (.i2l, 1) := by decide +kernel
theorem dX6_object_2 : decode cX6_object 2 = .ok (.lconst 0, 1) := by decide +kernel
theorem dX6_object_3 : decode cX6_object 3 = .ok (.ldc2_w 95, 3) := by decide +kernel
theorem dX6_object_6 : decode cX6_object 6 = .ok (.invokestatic 77, 3) := by decide +kernel
theorem dX6_object_9 : decode cX6_object 9 = .ok (.ifCond .ne 5, 3) := by decide +kernel
theorem dX6_object_12 : decode cX6_object 12 = .ok (.iconst (-1), 1) := by decide +kernel
theorem dX6_object_13 : decode cX6_object 13 = .ok (.ireturn, 1) := by decide +kernel
theorem dX6_object_14 : decode cX6_object 14 = .ok (.aload_n 0, 1) := by decide +kernel
theorem dX6_object_15 : decode cX6_object 15 = .ok (.getfield 74, 3) := by decide +kernel
theorem dX6_object_18 : decode cX6_object 18 = .ok (.bipush 24, 2) := by decide +kernel
theorem dX6_object_20 : decode cX6_object 20 = .ok (.if_icmp .ne 6, 3) := by decide +kernel
theorem dX6_object_23 : decode cX6_object 23 = .ok (.bipush (-2), 2) := by decide +kernel
theorem dX6_object_25 : decode cX6_object 25 = .ok (.ireturn, 1) := by decide +kernel
theorem dX6_object_26 : decode cX6_object 26 = .ok (.aload_n 0, 1) := by decide +kernel
theorem dX6_object_27 : decode cX6_object 27 = .ok (.getfield 74, 3) := by decide +kernel
theorem dX6_object_30 : decode cX6_object 30 = .ok (.istore_n 2, 1) := by decide +kernel
theorem dX6_object_31 : decode cX6_object 31 = .ok (.aload_n 0, 1) := by decide +kernel
theorem dX6_object_32 : decode cX6_object 32 = .ok (.dup, 1) := by decide +kernel
theorem dX6_object_33 : decode cX6_object 33 = .ok (.getfield 74, 3) := by decide +kernel
theorem dX6_object_36 : decode cX6_object 36 = .ok (.iconst 1, 1) := by decide +kernel
theorem dX6_object_37 : decode cX6_object 37 = .ok (.iadd, 1) := by decide +kernel
theorem dX6_object_38 : decode cX6_object 38 = .ok (.putfield 74, 3) := by decide +kernel
theorem dX6_object_41 : decode cX6_object 41 = .ok (.aload_n 0, 1) := by decide +kernel
theorem dX6_object_42 : decode cX6_object 42 = .ok (.getfield 7, 3) := by decide +kernel
theorem dX6_object_45 : decode cX6_object 45 = .ok (.iload_n 2, 1) := by decide +kernel
theorem dX6_object_46 : decode cX6_object 46 = .ok (.iload_n 1, 1) := by decide +kernel
theorem dX6_object_47 : decode cX6_object 47 = .ok (.iastore, 1) := by decide +kernel
theorem dX6_object_48 : decode cX6_object 48 = .ok (.iconst 0, 1) := by decide +kernel
theorem dX6_object_49 : decode cX6_object 49 = .ok (.istore_n 3, 1) := by decide +kernel
theorem dX6_object_50 : decode cX6_object 50 = .ok (.iload_n 3, 1) := by decide +kernel
theorem dX6_object_51 : decode cX6_object 51 = .ok (.bipush 41, 2) := by decide +kernel
theorem dX6_object_53 : decode cX6_object 53 = .ok (.if_icmp .gt 33, 3) := by decide +kernel
theorem dX6_object_56 : decode cX6_object 56 = .ok (.iconst 0, 1) := by decide +kernel
theorem dX6_object_57 : decode cX6_object 57 = .ok (.istore 4, 2) := by decide +kernel
theorem dX6_object_59 : decode cX6_object 59 = .ok (.iload 4, 2) := by decide +kernel
theorem dX6_object_61 : decode cX6_object 61 = .ok (.bipush 8, 2) := by decide +kernel
theorem dX6_object_63 : decode cX6_object 63 = .ok (.if_icmp .ge 17, 3) := by decide +kernel
theorem dX6_object_66 : decode cX6_object 66 = .ok (.aload_n 0, 1) := by decide +kernel
theorem dX6_object_67 : decode cX6_object 67 = .ok (.iload_n 3, 1) := by decide +kernel
theorem dX6_object_68 : decode cX6_object 68 = .ok (.iload_n 2, 1) := by decide +kernel
theorem dX6_object_69 : decode cX6_object 69 = .ok (.iload 4, 2) := by decide +kernel
theorem dX6_object_71 : decode cX6_object 71 = .ok (.invokevirtual 97, 3) := by decide +kernel
theorem dX6_object_74 : decode cX6_object 74 = .ok (.iinc 4 1, 3) := by decide +kernel
theorem dX6_object_77 : decode cX6_object 77 = .ok (.goto (-18), 3) := by decide +kernel
theorem dX6_object_80 : decode cX6_object 80 = .ok (.iinc 3 1, 3) := by decide +kernel
theorem dX6_object_83 : decode cX6_object 83 = .ok (.goto (-33), 3) := by decide +kernel
theorem dX6_object_86 : decode cX6_object 86 = .ok (.iload_n 2, 1) := by decide +kernel
theorem dX6_object_87 : decode cX6_object 87 = .ok (.ireturn, 1) := by decide +kernel
theorem dX6_copyLeaf_0 : decode cX6_copyLeaf 0 = .ok (.sipush 192, 3) := by decide +kernel
theorem dX6_copyLeaf_3 : decode cX6_copyLeaf 3 = .ok (.iload_n 1, 1) := by decide +kernel
theorem dX6_copyLeaf_4 : decode cX6_copyLeaf 4 = .ok (.imul, 1) := by decide +kernel
theorem dX6_copyLeaf_5 : decode cX6_copyLeaf 5 = .ok (.iload_n 3, 1) := by decide +kernel
theorem dX6_copyLeaf_6 : decode cX6_copyLeaf 6 = .ok (.iadd, 1) := by decide +kernel
theorem dX6_copyLeaf_7 : decode cX6_copyLeaf 7 = .ok (.istore 4, 2) := by decide +kernel
theorem dX6_copyLeaf_9 : decode cX6_copyLeaf 9 = .ok (.sipush 192, 3) := by decide +kernel
theorem dX6_copyLeaf_12 : decode cX6_copyLeaf 12 = .ok (.iload_n 2, 1) := by decide +kernel
theorem dX6_copyLeaf_13 : decode cX6_copyLeaf 13 = .ok (.imul, 1) := by decide +kernel
theorem dX6_copyLeaf_14 : decode cX6_copyLeaf 14 = .ok (.iload_n 3, 1) := by decide +kernel
theorem dX6_copyLeaf_15 : decode cX6_copyLeaf 15 = .ok (.iadd, 1) := by decide +kernel
theorem dX6_copyLeaf_16 : decode cX6_copyLeaf 16 = .ok (.istore 5, 2) := by decide +kernel
theorem dX6_copyLeaf_18 : decode cX6_copyLeaf 18 = .ok (.aload_n 0, 1) := by decide +kernel
theorem dX6_copyLeaf_19 : decode cX6_copyLeaf 19 = .ok (.getfield 13, 3) := by decide +kernel
theorem dX6_copyLeaf_22 : decode cX6_copyLeaf 22 = .ok (.iload 5, 2) := by decide +kernel
theorem dX6_copyLeaf_24 : decode cX6_copyLeaf 24 = .ok (.aload_n 0, 1) := by decide +kernel
theorem dX6_copyLeaf_25 : decode cX6_copyLeaf 25 = .ok (.getfield 13, 3) := by decide +kernel
theorem dX6_copyLeaf_28 : decode cX6_copyLeaf 28 = .ok (.iload 4, 2) := by decide +kernel
theorem dX6_copyLeaf_30 : decode cX6_copyLeaf 30 = .ok (.laload, 1) := by decide +kernel
theorem dX6_copyLeaf_31 : decode cX6_copyLeaf 31 = .ok (.lastore, 1) := by decide +kernel
theorem dX6_copyLeaf_32 : decode cX6_copyLeaf 32 = .ok (.aload_n 0, 1) := by decide +kernel
theorem dX6_copyLeaf_33 : decode cX6_copyLeaf 33 = .ok (.getfield 17, 3) := by decide +kernel
theorem dX6_copyLeaf_36 : decode cX6_copyLeaf 36 = .ok (.iload 5, 2) := by decide +kernel
theorem dX6_copyLeaf_38 : decode cX6_copyLeaf 38 = .ok (.aload_n 0, 1) := by decide +kernel
theorem dX6_copyLeaf_39 : decode cX6_copyLeaf 39 = .ok (.getfield 17, 3) := by decide +kernel
theorem dX6_copyLeaf_42 : decode cX6_copyLeaf 42 = .ok (.iload 4, 2) := by decide +kernel
theorem dX6_copyLeaf_44 : decode cX6_copyLeaf 44 = .ok (.iaload, 1) := by decide +kernel
theorem dX6_copyLeaf_45 : decode cX6_copyLeaf 45 = .ok (.iastore, 1) := by decide +kernel
theorem dX6_copyLeaf_46 : decode cX6_copyLeaf 46 = .ok (.iconst 0, 1) := by decide +kernel
theorem dX6_copyLeaf_47 : decode cX6_copyLeaf 47 = .ok (.istore 6, 2) := by decide +kernel
theorem dX6_copyLeaf_49 : decode cX6_copyLeaf 49 = .ok (.iload 6, 2) := by decide +kernel
theorem dX6_copyLeaf_51 : decode cX6_copyLeaf 51 = .ok (.bipush 8, 2) := by decide +kernel
theorem dX6_copyLeaf_53 : decode cX6_copyLeaf 53 = .ok (.if_icmp .ge 35, 3) := by decide +kernel
theorem dX6_copyLeaf_56 : decode cX6_copyLeaf 56 = .ok (.aload_n 0, 1) := by decide +kernel
theorem dX6_copyLeaf_57 : decode cX6_copyLeaf 57 = .ok (.getfield 21, 3) := by decide +kernel
theorem dX6_copyLeaf_60 : decode cX6_copyLeaf 60 = .ok (.bipush 8, 2) := by decide +kernel
theorem dX6_copyLeaf_62 : decode cX6_copyLeaf 62 = .ok (.iload 5, 2) := by decide +kernel
theorem dX6_copyLeaf_64 : decode cX6_copyLeaf 64 = .ok (.imul, 1) := by decide +kernel
theorem dX6_copyLeaf_65 : decode cX6_copyLeaf 65 = .ok (.iload 6, 2) := by decide +kernel
theorem dX6_copyLeaf_67 : decode cX6_copyLeaf 67 = .ok (.iadd, 1) := by decide +kernel
theorem dX6_copyLeaf_68 : decode cX6_copyLeaf 68 = .ok (.aload_n 0, 1) := by decide +kernel
theorem dX6_copyLeaf_69 : decode cX6_copyLeaf 69 = .ok (.getfield 21, 3) := by decide +kernel
theorem dX6_copyLeaf_72 : decode cX6_copyLeaf 72 = .ok (.bipush 8, 2) := by decide +kernel
theorem dX6_copyLeaf_74 : decode cX6_copyLeaf 74 = .ok (.iload 4, 2) := by decide +kernel
theorem dX6_copyLeaf_76 : decode cX6_copyLeaf 76 = .ok (.imul, 1) := by decide +kernel
theorem dX6_copyLeaf_77 : decode cX6_copyLeaf 77 = .ok (.iload 6, 2) := by decide +kernel
theorem dX6_copyLeaf_79 : decode cX6_copyLeaf 79 = .ok (.iadd, 1) := by decide +kernel
theorem dX6_copyLeaf_80 : decode cX6_copyLeaf 80 = .ok (.iaload, 1) := by decide +kernel
theorem dX6_copyLeaf_81 : decode cX6_copyLeaf 81 = .ok (.iastore, 1) := by decide +kernel
theorem dX6_copyLeaf_82 : decode cX6_copyLeaf 82 = .ok (.iinc 6 1, 3) := by decide +kernel
theorem dX6_copyLeaf_85 : decode cX6_copyLeaf 85 = .ok (.goto (-36), 3) := by decide +kernel
theorem dX6_copyLeaf_88 : decode cX6_copyLeaf 88 = .ok (.return_, 1) := by decide +kernel
set_option maxRecDepth 20000 in
theorem ggX6_copyAll_X6_copyLeaf : GoodIn wsX6_copyAll wsX6_copyLeaf := goodIn_r _ [5, 6, 7, 8, 9, 10, 11, 12, 13, 14, 15, 16, 17, 18, 19, 20, 21, 22, 23, 24, 25, 26, 27, 28, 29, 30, 31, 32, 33, 34, 35, 36, 37, 38] (by decide +kernel) (by decide +kernel)
set_option maxRecDepth 20000 in
theorem gX6_copyAll_X6_copyLeaf : GoodIn wsX6_copyAll (wsV RX6 101 RX6 yX6_copyLeaf wsX6_copyLeaf) := goodIn_app (goodIn_of _ (by decide +kernel)) ggX6_copyAll_X6_copyLeaf
theorem dX6_copyAll_0 : decode cX6_copyAll 0 = .ok (.iconst 0, 1) := by decide +kernel
theorem dX6_copyAll_1 : decode cX6_copyAll 1 = .ok (.istore_n 3, 1) := by decide +kernel
theorem dX6_copyAll_2 : decode cX6_copyAll 2 = .ok (.iload_n 3, 1) := by decide +kernel
theorem dX6_copyAll_3 : decode cX6_copyAll 3 = .ok (.sipush 192, 3) := by decide +kernel
theorem dX6_copyAll_6 : decode cX6_copyAll 6 = .ok (.if_icmp .ge 16, 3) := by decide +kernel
theorem dX6_copyAll_9 : decode cX6_copyAll 9 = .ok (.aload_n 0, 1) := by decide +kernel
theorem dX6_copyAll_10 : decode cX6_copyAll 10 = .ok (.iload_n 1, 1) := by decide +kernel
theorem dX6_copyAll_11 : decode cX6_copyAll 11 = .ok (.iload_n 2, 1) := by decide +kernel
theorem dX6_copyAll_12 : decode cX6_copyAll 12 = .ok (.iload_n 3, 1) := by decide +kernel
theorem dX6_copyAll_13 : decode cX6_copyAll 13 = .ok (.invokevirtual 101, 3) := by decide +kernel
theorem dX6_copyAll_16 : decode cX6_copyAll 16 = .ok (.iinc 3 1, 3) := by decide +kernel
theorem dX6_copyAll_19 : decode cX6_copyAll 19 = .ok (.goto (-17), 3) := by decide +kernel
theorem dX6_copyAll_22 : decode cX6_copyAll 22 = .ok (.return_, 1) := by decide +kernel
theorem dX6_areAlike_0 : decode cX6_areAlike 0 = .ok (.aload_n 0, 1) := by decide +kernel
theorem dX6_areAlike_1 : decode cX6_areAlike 1 = .ok (.getfield 13, 3) := by decide +kernel
theorem dX6_areAlike_4 : decode cX6_areAlike 4 = .ok (.iload_n 1, 1) := by decide +kernel
theorem dX6_areAlike_5 : decode cX6_areAlike 5 = .ok (.laload, 1) := by decide +kernel
theorem dX6_areAlike_6 : decode cX6_areAlike 6 = .ok (.aload_n 0, 1) := by decide +kernel
theorem dX6_areAlike_7 : decode cX6_areAlike 7 = .ok (.getfield 13, 3) := by decide +kernel
theorem dX6_areAlike_10 : decode cX6_areAlike 10 = .ok (.iload_n 2, 1) := by decide +kernel
theorem dX6_areAlike_11 : decode cX6_areAlike 11 = .ok (.laload, 1) := by decide +kernel
theorem dX6_areAlike_12 : decode cX6_areAlike 12 = .ok (.lcmp, 1) := by decide +kernel
theorem dX6_areAlike_13 : decode cX6_areAlike 13 = .ok (.ifCond .ne 22, 3) := by decide +kernel
theorem dX6_areAlike_16 : decode cX6_areAlike 16 = .ok (.aload_n 0, 1) := by decide +kernel
theorem dX6_areAlike_17 : decode cX6_areAlike 17 = .ok (.getfield 17, 3) := by decide +kernel
theorem dX6_areAlike_20 : decode cX6_areAlike 20 = .ok (.iload_n 1, 1) := by decide +kernel
theorem dX6_areAlike_21 : decode cX6_areAlike 21 = .ok (.iaload, 1) := by decide +kernel
theorem dX6_areAlike_22 : decode cX6_areAlike 22 = .ok (.aload_n 0, 1) := by decide +kernel
theorem dX6_areAlike_23 : decode cX6_areAlike 23 = .ok (.getfield 17, 3) := by decide +kernel
theorem dX6_areAlike_26 : decode cX6_areAlike 26 = .ok (.iload_n 2, 1) := by decide +kernel
theorem dX6_areAlike_27 : decode cX6_areAlike 27 = .ok (.iaload, 1) := by decide +kernel
theorem dX6_areAlike_28 : decode cX6_areAlike 28 = .ok (.if_icmp .ne 7, 3) := by decide +kernel
theorem dX6_areAlike_31 : decode cX6_areAlike 31 = .ok (.iconst 1, 1) := by decide +kernel
theorem dX6_areAlike_32 : decode cX6_areAlike 32 = .ok (.goto 4, 3) := by decide +kernel
theorem dX6_areAlike_35 : decode cX6_areAlike 35 = .ok (.iconst 0, 1) := by decide +kernel
theorem dX6_areAlike_36 : decode cX6_areAlike 36 = .ok (.istore_n 3, 1) := by decide +kernel
theorem dX6_areAlike_37 : decode cX6_areAlike 37 = .ok (.iconst 0, 1) := by decide +kernel
theorem dX6_areAlike_38 : decode cX6_areAlike 38 = .ok (.istore 4, 2) := by decide +kernel
theorem dX6_areAlike_40 : decode cX6_areAlike 40 = .ok (.iload 4, 2) := by decide +kernel
theorem dX6_areAlike_42 : decode cX6_areAlike 42 = .ok (.aload_n 0, 1) := by decide +kernel
theorem dX6_areAlike_43 : decode cX6_areAlike 43 = .ok (.getfield 17, 3) := by decide +kernel
theorem dX6_areAlike_46 : decode cX6_areAlike 46 = .ok (.iload_n 1, 1) := by decide +kernel
theorem dX6_areAlike_47 : decode cX6_areAlike 47 = .ok (.iaload, 1) := by decide +kernel
theorem dX6_areAlike_48 : decode cX6_areAlike 48 = .ok (.if_icmp .ge 46, 3) := by decide +kernel
theorem dX6_areAlike_51 : decode cX6_areAlike 51 = .ok (.iload_n 3, 1) := by decide +kernel
theorem dX6_areAlike_52 : decode cX6_areAlike 52 = .ok (.ifCond .eq 42, 3) := by decide +kernel
theorem dX6_areAlike_55 : decode cX6_areAlike 55 = .ok (.aload_n 0, 1) := by decide +kernel
theorem dX6_areAlike_56 : decode cX6_areAlike 56 = .ok (.getfield 21, 3) := by decide +kernel
theorem dX6_areAlike_59 : decode cX6_areAlike 59 = .ok (.bipush 8, 2) := by decide +kernel
theorem dX6_areAlike_61 : decode cX6_areAlike 61 = .ok (.iload_n 1, 1) := by decide +kernel
theorem dX6_areAlike_62 : decode cX6_areAlike 62 = .ok (.imul, 1) := by decide +kernel
theorem dX6_areAlike_63 : decode cX6_areAlike 63 = .ok (.iload 4, 2) := by decide +kernel
theorem dX6_areAlike_65 : decode cX6_areAlike 65 = .ok (.iadd, 1) := by decide +kernel
theorem dX6_areAlike_66 : decode cX6_areAlike 66 = .ok (.iaload, 1) := by decide +kernel
theorem dX6_areAlike_67 : decode cX6_areAlike 67 = .ok (.aload_n 0, 1) := by decide +kernel
theorem dX6_areAlike_68 : decode cX6_areAlike 68 = .ok (.getfield 21, 3) := by decide +kernel
theorem dX6_areAlike_71 : decode cX6_areAlike 71 = .ok (.bipush 8, 2) := by decide +kernel
theorem dX6_areAlike_73 : decode cX6_areAlike 73 = .ok (.iload_n 2, 1) := by decide +kernel
theorem dX6_areAlike_74 : decode cX6_areAlike 74 = .ok (.imul, 1) := by decide +kernel
theorem dX6_areAlike_75 : decode cX6_areAlike 75 = .ok (.iload 4, 2) := by decide +kernel
theorem dX6_areAlike_77 : decode cX6_areAlike 77 = .ok (.iadd, 1) := by decide +kernel
theorem dX6_areAlike_78 : decode cX6_areAlike 78 = .ok (.iaload, 1) := by decide +kernel
theorem dX6_areAlike_79 : decode cX6_areAlike 79 = .ok (.if_icmp .ne 7, 3) := by decide +kernel
theorem dX6_areAlike_82 : decode cX6_areAlike 82 = .ok (.iconst 1, 1) := by decide +kernel
theorem dX6_areAlike_83 : decode cX6_areAlike 83 = .ok (.goto 4, 3) := by decide +kernel
theorem dX6_areAlike_86 : decode cX6_areAlike 86 = .ok (.iconst 0, 1) := by decide +kernel
theorem dX6_areAlike_87 : decode cX6_areAlike 87 = .ok (.istore_n 3, 1) := by decide +kernel
theorem dX6_areAlike_88 : decode cX6_areAlike 88 = .ok (.iinc 4 1, 3) := by decide +kernel
theorem dX6_areAlike_91 : decode cX6_areAlike 91 = .ok (.goto (-51), 3) := by decide +kernel
theorem dX6_areAlike_94 : decode cX6_areAlike 94 = .ok (.iload_n 3, 1) := by decide +kernel
theorem dX6_areAlike_95 : decode cX6_areAlike 95 = .ok (.ireturn, 1) := by decide +kernel
set_option maxRecDepth 20000 in
theorem ggX6_rises_X6_copyAll : GoodIn wsX6_rises wsX6_copyAll := goodIn_r _ [7, 8, 9, 10, 6, 11, 12, 13, 14, 15, 16, 17, 18, 19, 20, 21, 22, 23, 24, 25, 26, 27, 28, 29, 30, 31, 32, 33, 34, 35, 36, 37, 38, 39, 40, 41, 42, 43, 44] (by decide +kernel) (by decide +kernel)
set_option maxRecDepth 20000 in
theorem gX6_rises_X6_copyAll : GoodIn wsX6_rises (wsV RX6 107 RX6 yX6_copyAll wsX6_copyAll) := goodIn_app (goodIn_of _ (by decide +kernel)) ggX6_rises_X6_copyAll
theorem dX6_rises_0 : decode cX6_rises 0 = .ok (.aload_n 0, 1) := by decide +kernel
theorem dX6_rises_1 : decode cX6_rises 1 = .ok (.dup, 1) := by decide +kernel
theorem dX6_rises_2 : decode cX6_rises 2 = .ok (.getfield 104, 3) := by decide +kernel
theorem dX6_rises_5 : decode cX6_rises 5 = .ok (.iconst 1, 1) := by decide +kernel
theorem dX6_rises_6 : decode cX6_rises 6 = .ok (.iadd, 1) := by decide +kernel
theorem dX6_rises_7 : decode cX6_rises 7 = .ok (.putfield 104, 3) := by decide +kernel
theorem dX6_rises_10 : decode cX6_rises 10 = .ok (.aload_n 0, 1) := by decide +kernel
theorem dX6_rises_11 : decode cX6_rises 11 = .ok (.bipush 41, 2) := by decide +kernel
theorem dX6_rises_13 : decode cX6_rises 13 = .ok (.aload_n 0, 1) := by decide +kernel
theorem dX6_rises_14 : decode cX6_rises 14 = .ok (.getfield 104, 3) := by decide +kernel
theorem dX6_rises_17 : decode cX6_rises 17 = .ok (.invokevirtual 107, 3) := by decide +kernel
theorem dX6_rises_20 : decode cX6_rises 20 = .ok (.iconst 0, 1) := by decide +kernel
theorem dX6_rises_21 : decode cX6_rises 21 = .ok (.istore_n 1, 1) := by decide +kernel
theorem dX6_rises_22 : decode cX6_rises 22 = .ok (.iload_n 1, 1) := by decide +kernel
theorem dX6_rises_23 : decode cX6_rises 23 = .ok (.bipush 24, 2) := by decide +kernel
theorem dX6_rises_25 : decode cX6_rises 25 = .ok (.if_icmp .ge 16, 3) := by decide +kernel
theorem dX6_rises_28 : decode cX6_rises 28 = .ok (.aload_n 0, 1) := by decide +kernel
theorem dX6_rises_29 : decode cX6_rises 29 = .ok (.getfield 24, 3) := by decide +kernel
theorem dX6_rises_32 : decode cX6_rises 32 = .ok (.iload_n 1, 1) := by decide +kernel
theorem dX6_rises_33 : decode cX6_rises 33 = .ok (.iconst 0, 1) := by decide +kernel
theorem dX6_rises_34 : decode cX6_rises 34 = .ok (.bastore, 1) := by decide +kernel
theorem dX6_rises_35 : decode cX6_rises 35 = .ok (.iinc 1 1, 3) := by decide +kernel
theorem dX6_rises_38 : decode cX6_rises 38 = .ok (.goto (-16), 3) := by decide +kernel
theorem dX6_rises_41 : decode cX6_rises 41 = .ok (.return_, 1) := by decide +kernel
set_option maxRecDepth 20000 in
theorem ggX6_changed_X6_areAlike : GoodIn wsX6_changed wsX6_areAlike := goodIn_r _ [6, 7, 8, 9, 23, 24, 25, 26, 27, 28, 29, 30, 31, 32, 33, 34, 35, 36, 37, 38, 39, 40, 41, 42, 43, 44, 45, 46, 47, 48, 49, 50, 51, 52] (by decide +kernel) (by decide +kernel)
set_option maxRecDepth 20000 in
theorem gX6_changed_X6_areAlike : GoodIn wsX6_changed (wsV RX6 111 RX6 yX6_areAlike wsX6_areAlike) := goodIn_app (goodIn_of _ (by decide +kernel)) ggX6_changed_X6_areAlike
set_option maxRecDepth 20000 in
theorem ggX6_changed_X6_rises : GoodIn wsX6_changed wsX6_rises := goodIn_r _ [13, 1, 14, 15, 16, 17, 5, 18, 19, 20, 21, 22, 7, 8, 9, 23, 24, 25, 26, 27, 28, 29, 30, 31, 32, 33, 34, 35, 36, 37, 38, 39, 40, 41, 42, 43, 44, 45, 46, 47, 48, 49, 50, 51, 52] (by decide +kernel) (by decide +kernel)
set_option maxRecDepth 20000 in
theorem gX6_changed_X6_rises : GoodIn wsX6_changed (wsV RX6 115 RX6 yX6_rises wsX6_rises) := goodIn_app (goodIn_of _ (by decide +kernel)) ggX6_changed_X6_rises
theorem dX6_changed_0 : decode cX6_changed 0 = .ok (.aload_n 0, 1) := by decide +kernel
theorem dX6_changed_1 : decode cX6_changed 1 = .ok (.sipush 7872, 3) := by decide +kernel
theorem dX6_changed_4 : decode cX6_changed 4 = .ok (.iload_n 1, 1) := by decide +kernel
theorem dX6_changed_5 : decode cX6_changed 5 = .ok (.iadd, 1) := by decide +kernel
theorem dX6_changed_6 : decode cX6_changed 6 = .ok (.sipush 192, 3) := by decide +kernel
theorem dX6_changed_9 : decode cX6_changed 9 = .ok (.aload_n 0, 1) := by decide +kernel
theorem dX6_changed_10 : decode cX6_changed 10 = .ok (.getfield 104, 3) := by decide +kernel
theorem dX6_changed_13 : decode cX6_changed 13 = .ok (.imul, 1) := by decide +kernel
theorem dX6_changed_14 : decode cX6_changed 14 = .ok (.iload_n 1, 1) := by decide +kernel
theorem dX6_changed_15 : decode cX6_changed 15 = .ok (.iadd, 1) := by decide +kernel
theorem dX6_changed_16 : decode cX6_changed 16 = .ok (.invokevirtual 111, 3) := by decide +kernel
theorem dX6_changed_19 : decode cX6_changed 19 = .ok (.ifCond .eq 8, 3) := by decide +kernel
theorem dX6_changed_22 : decode cX6_changed 22 = .ok (.aload_n 0, 1) := by decide +kernel
theorem dX6_changed_23 : decode cX6_changed 23 = .ok (.getfield 104, 3) := by decide +kernel
theorem dX6_changed_26 : decode cX6_changed 26 = .ok (.ireturn, 1) := by decide +kernel
theorem dX6_changed_27 : decode cX6_changed 27 = .ok (.aload_n 0, 1) := by decide +kernel
theorem dX6_changed_28 : decode cX6_changed 28 = .ok (.getfield 104, 3) := by decide +kernel
theorem dX6_changed_31 : decode cX6_changed 31 = .ok (.bipush 40, 2) := by decide +kernel
theorem dX6_changed_33 : decode cX6_changed 33 = .ok (.if_icmp .ne 6, 3) := by decide +kernel
theorem dX6_changed_36 : decode cX6_changed 36 = .ok (.bipush (-2), 2) := by decide +kernel
theorem dX6_changed_38 : decode cX6_changed 38 = .ok (.ireturn, 1) := by decide +kernel
theorem dX6_changed_39 : decode cX6_changed 39 = .ok (.aload_n 0, 1) := by decide +kernel
theorem dX6_changed_40 : decode cX6_changed 40 = .ok (.invokevirtual 115, 3) := by decide +kernel
theorem dX6_changed_43 : decode cX6_changed 43 = .ok (.aload_n 0, 1) := by decide +kernel
theorem dX6_changed_44 : decode cX6_changed 44 = .ok (.getfield 104, 3) := by decide +kernel
theorem dX6_changed_47 : decode cX6_changed 47 = .ok (.ireturn, 1) := by decide +kernel
set_option maxRecDepth 20000 in
theorem ggX6_number_X6_has : GoodIn wsX6_number wsX6_has := goodIn_r _ [7, 8, 9, 10, 11, 6, 12, 13, 14, 15, 16, 17, 18, 19, 20, 21, 22, 46, 47, 48, 49, 50, 51, 52, 53, 54, 55, 56, 57, 58, 59, 60, 61, 62, 63, 64, 65, 66, 67, 68, 69, 70, 71, 72, 73, 74, 75] (by decide +kernel) (by decide +kernel)
set_option maxRecDepth 20000 in
theorem gX6_number_X6_has : GoodIn wsX6_number (wsV RX6 118 RX6 yX6_has wsX6_has) := goodIn_app (goodIn_of _ (by decide +kernel)) ggX6_number_X6_has
set_option maxRecDepth 20000 in
theorem ggX6_number_X6_copyAll : GoodIn wsX6_number wsX6_copyAll := goodIn_r _ [26, 27, 28, 29, 6, 30, 2, 31, 32, 46, 47, 48, 49, 50, 51, 52, 53, 54, 55, 56, 57, 58, 59, 60, 61, 62, 63, 64, 65, 66, 67, 68, 69, 70, 71, 72, 73, 74, 75] (by decide +kernel) (by decide +kernel)
set_option maxRecDepth 20000 in
theorem gX6_number_X6_copyAll : GoodIn wsX6_number (wsV RX6 107 RX6 yX6_copyAll wsX6_copyAll) := goodIn_app (goodIn_of _ (by decide +kernel)) ggX6_number_X6_copyAll
set_option maxRecDepth 20000 in
theorem ggX6_number_X6_changed : GoodIn wsX6_number wsX6_changed := goodIn_r _ [36, 1, 37, 38, 39, 6, 40, 2, 31, 32, 41, 42, 43, 44, 45, 23, 24, 25, 26, 27, 28, 29, 30, 46, 47, 48, 49, 50, 51, 52, 53, 54, 55, 56, 57, 58, 59, 60, 61, 62, 63, 64, 65, 66, 67, 68, 69, 70, 71, 72, 73, 74, 75] (by decide +kernel) (by decide +kernel)
set_option maxRecDepth 20000 in
theorem gX6_number_X6_changed : GoodIn wsX6_number (wsV RX6 122 RX6 yX6_changed wsX6_changed) := goodIn_app (goodIn_of _ (by decide +kernel)) ggX6_number_X6_changed
theorem dX6_number_0 : decode cX6_number 0 = .ok (.aload_n 0, 1) := by decide +kernel
theorem dX6_number_1 : decode cX6_number 1 = .ok (.iload_n 1, 1) := by decide +kernel
theorem dX6_number_2 : decode cX6_number 2 = .ok (.iload_n 2, 1) := by decide +kernel
theorem dX6_number_3 : decode cX6_number 3 = .ok (.iconst 0, 1) := by decide +kernel
theorem dX6_number_4 : decode cX6_number 4 = .ok (.invokevirtual 118, 3) := by decide +kernel
theorem dX6_number_7 : decode cX6_number 7 = .ok (.ifCond .ne 5, 3) := by decide +kernel
theorem dX6_number_10 : decode cX6_number 10 = .ok (.iconst (-1), 1) := by decide +kernel
theorem dX6_number_11 : decode cX6_number 11 = .ok (.ireturn, 1) := by decide +kernel
theorem dX6_number_12 : decode cX6_number 12 = .ok (.aload_n 0, 1) := by decide +kernel
theorem dX6_number_13 : decode cX6_number 13 = .ok (.aload_n 0, 1) := by decide +kernel
theorem dX6_number_14 : decode cX6_number 14 = .ok (.getfield 104, 3) := by decide +kernel
theorem dX6_number_17 : decode cX6_number 17 = .ok (.bipush 41, 2) := by decide +kernel
theorem dX6_number_19 : decode cX6_number 19 = .ok (.invokevirtual 107, 3) := by decide +kernel
theorem dX6_number_22 : decode cX6_number 22 = .ok (.aload_n 0, 1) := by decide +kernel
theorem dX6_number_23 : decode cX6_number 23 = .ok (.getfield 13, 3) := by decide +kernel
theorem dX6_number_26 : decode cX6_number 26 = .ok (.sipush 7872, 3) := by decide +kernel
theorem dX6_number_29 : decode cX6_number 29 = .ok (.bipush 8, 2) := by decide +kernel
theorem dX6_number_31 : decode cX6_number 31 = .ok (.iload_n 1, 1) := by decide +kernel
theorem dX6_number_32 : decode cX6_number 32 = .ok (.imul, 1) := by decide +kernel
theorem dX6_number_33 : decode cX6_number 33 = .ok (.iadd, 1) := by decide +kernel
theorem dX6_number_34 : decode cX6_number 34 = .ok (.iload_n 2, 1) := by decide +kernel
theorem dX6_number_35 : decode cX6_number 35 = .ok (.iadd, 1) := by decide +kernel
theorem dX6_number_36 : decode cX6_number 36 = .ok (.lload_n 3, 1) := by decide +kernel
theorem dX6_number_37 : decode cX6_number 37 = .ok (.lastore, 1) := by decide +kernel
theorem dX6_number_38 : decode cX6_number 38 = .ok (.aload_n 0, 1) := by decide +kernel
theorem dX6_number_39 : decode cX6_number 39 = .ok (.bipush 8, 2) := by decide +kernel
theorem dX6_number_41 : decode cX6_number 41 = .ok (.iload_n 1, 1) := by decide +kernel
theorem dX6_number_42 : decode cX6_number 42 = .ok (.imul, 1) := by decide +kernel
theorem dX6_number_43 : decode cX6_number 43 = .ok (.iload_n 2, 1) := by decide +kernel
theorem dX6_number_44 : decode cX6_number 44 = .ok (.iadd, 1) := by decide +kernel
theorem dX6_number_45 : decode cX6_number 45 = .ok (.invokevirtual 122, 3) := by decide +kernel
theorem dX6_number_48 : decode cX6_number 48 = .ok (.ireturn, 1) := by decide +kernel
set_option maxRecDepth 20000 in
theorem ggX6_link_X6_has : GoodIn wsX6_link wsX6_has := goodIn_r _ [7, 8, 9, 10, 11, 6, 12, 13, 14, 15, 16, 17, 18, 19, 20, 21, 22, 46, 47, 48, 49, 50, 51, 52, 53, 54, 55, 56, 57, 58, 59, 60, 61, 62, 63, 64, 65, 66, 67, 68, 69, 70, 71, 72, 73, 74, 75] (by decide +kernel) (by decide +kernel)
set_option maxRecDepth 20000 in
theorem gX6_link_X6_has : GoodIn wsX6_link (wsV RX6 118 RX6 yX6_has wsX6_has) := goodIn_app (goodIn_of _ (by decide +kernel)) ggX6_link_X6_has
set_option maxRecDepth 20000 in
theorem ggX6_link_X6_isObject : GoodIn wsX6_link wsX6_isObject := goodIn_r _ [12, 13, 14, 15, 6, 16, 46, 47, 48, 49, 50, 51, 52, 53, 54, 55, 56, 57, 58, 59, 60, 61, 62, 63, 64, 65, 66, 67, 68, 69, 70, 71, 72, 73, 74, 75] (by decide +kernel) (by decide +kernel)
set_option maxRecDepth 20000 in
theorem gX6_link_X6_isObject : GoodIn wsX6_link (wsV RX6 81 RX6 yX6_isObject wsX6_isObject) := goodIn_app (goodIn_of _ (by decide +kernel)) ggX6_link_X6_isObject
set_option maxRecDepth 20000 in
theorem ggX6_link_X6_copyAll : GoodIn wsX6_link wsX6_copyAll := goodIn_r _ [26, 27, 28, 29, 6, 30, 2, 31, 32, 46, 47, 48, 49, 50, 51, 52, 53, 54, 55, 56, 57, 58, 59, 60, 61, 62, 63, 64, 65, 66, 67, 68, 69, 70, 71, 72, 73, 74, 75] (by decide +kernel) (by decide +kernel)
set_option maxRecDepth 20000 in
theorem gX6_link_X6_copyAll : GoodIn wsX6_link (wsV RX6 107 RX6 yX6_copyAll wsX6_copyAll) := goodIn_app (goodIn_of _ (by decide +kernel)) ggX6_link_X6_copyAll
set_option maxRecDepth 20000 in
theorem ggX6_link_X6_changed : GoodIn wsX6_link wsX6_changed := goodIn_r _ [36, 1, 37, 38, 39, 6, 40, 2, 31, 32, 41, 42, 43, 44, 45, 23, 24, 25, 26, 27, 28, 29, 30, 46, 47, 48, 49, 50, 51, 52, 53, 54, 55, 56, 57, 58, 59, 60, 61, 62, 63, 64, 65, 66, 67, 68, 69, 70, 71, 72, 73, 74, 75] (by decide +kernel) (by decide +kernel)
set_option maxRecDepth 20000 in
theorem gX6_link_X6_changed : GoodIn wsX6_link (wsV RX6 122 RX6 yX6_changed wsX6_changed) := goodIn_app (goodIn_of _ (by decide +kernel)) ggX6_link_X6_changed
theorem dX6_link_0 : decode cX6_link 0 = .ok (.aload_n 0, 1) := by decide +kernel
theorem dX6_link_1 : decode cX6_link 1 = .ok (.iload_n 1, 1) := by decide +kernel
theorem dX6_link_2 : decode cX6_link 2 = .ok (.iload_n 2, 1) := by decide +kernel
theorem dX6_link_3 : decode cX6_link 3 = .ok (.iconst 1, 1) := by decide +kernel
theorem dX6_link_4 : decode cX6_link 4 = .ok (.invokevirtual 118, 3) := by decide +kernel
theorem dX6_link_7 : decode cX6_link 7 = .ok (.ifCond .eq 17, 3) := by decide +kernel
theorem dX6_link_10 : decode cX6_link 10 = .ok (.iload_n 3, 1) := by decide +kernel
theorem dX6_link_11 : decode cX6_link 11 = .ok (.bipush (-3), 2) := by decide +kernel
theorem dX6_link_13 : decode cX6_link 13 = .ok (.if_icmp .eq 13, 3) := by decide +kernel
theorem dX6_link_16 : decode cX6_link 16 = .ok (.aload_n 0, 1) := by decide +kernel
theorem dX6_link_17 : decode cX6_link 17 = .ok (.iload_n 3, 1) := by decide +kernel
theorem dX6_link_18 : decode cX6_link 18 = .ok (.invokevirtual 81, 3) := by decide +kernel
theorem dX6_link_21 : decode cX6_link 21 = .ok (.ifCond .ne 5, 3) := by decide +kernel
theorem dX6_link_24 : decode cX6_link 24 = .ok (.iconst (-1), 1) := by decide +kernel
theorem dX6_link_25 : decode cX6_link 25 = .ok (.ireturn, 1) := by decide +kernel
theorem dX6_link_26 : decode cX6_link 26 = .ok (.aload_n 0, 1) := by decide +kernel
theorem dX6_link_27 : decode cX6_link 27 = .ok (.aload_n 0, 1) := by decide +kernel
theorem dX6_link_28 : decode cX6_link 28 = .ok (.getfield 104, 3) := by decide +kernel
theorem dX6_link_31 : decode cX6_link 31 = .ok (.bipush 41, 2) := by decide +kernel
theorem dX6_link_33 : decode cX6_link 33 = .ok (.invokevirtual 107, 3) := by decide +kernel
theorem dX6_link_36 : decode cX6_link 36 = .ok (.aload_n 0, 1) := by decide +kernel
theorem dX6_link_37 : decode cX6_link 37 = .ok (.getfield 13, 3) := by decide +kernel
theorem dX6_link_40 : decode cX6_link 40 = .ok (.sipush 7872, 3) := by decide +kernel
theorem dX6_link_43 : decode cX6_link 43 = .ok (.bipush 8, 2) := by decide +kernel
theorem dX6_link_45 : decode cX6_link 45 = .ok (.iload_n 1, 1) := by decide +kernel
theorem dX6_link_46 : decode cX6_link 46 = .ok (.imul, 1) := by decide +kernel
theorem dX6_link_47 : decode cX6_link 47 = .ok (.iadd, 1) := by decide +kernel
theorem dX6_link_48 : decode cX6_link 48 = .ok (.iload_n 2, 1) := by decide +kernel
theorem dX6_link_49 : decode cX6_link 49 = .ok (.iadd, 1) := by decide +kernel
theorem dX6_link_50 : decode cX6_link 50 = .ok (.iload_n 3, 1) := by decide +kernel
theorem dX6_link_51 : decode cX6_link 51 = .ok (.i2l, 1) := by decide +kernel
theorem dX6_link_52 : decode cX6_link 52 = .ok (.lastore, 1) := by decide +kernel
theorem dX6_link_53 : decode cX6_link 53 = .ok (.aload_n 0, 1) := by decide +kernel
theorem dX6_link_54 : decode cX6_link 54 = .ok (.bipush 8, 2) := by decide +kernel
theorem dX6_link_56 : decode cX6_link 56 = .ok (.iload_n 1, 1) := by decide +kernel
theorem dX6_link_57 : decode cX6_link 57 = .ok (.imul, 1) := by decide +kernel
theorem dX6_link_58 : decode cX6_link 58 = .ok (.iload_n 2, 1) := by decide +kernel
theorem dX6_link_59 : decode cX6_link 59 = .ok (.iadd, 1) := by decide +kernel
theorem dX6_link_60 : decode cX6_link 60 = .ok (.invokevirtual 122, 3) := by decide +kernel
theorem dX6_link_63 : decode cX6_link 63 = .ok (.ireturn, 1) := by decide +kernel
theorem dX6_newRow_0 : decode cX6_newRow 0 = .ok (.aload_n 0, 1) := by decide +kernel
theorem dX6_newRow_1 : decode cX6_newRow 1 = .ok (.getfield 17, 3) := by decide +kernel
theorem dX6_newRow_4 : decode cX6_newRow 4 = .ok (.sipush 7872, 3) := by decide +kernel
theorem dX6_newRow_7 : decode cX6_newRow 7 = .ok (.iload_n 1, 1) := by decide +kernel
theorem dX6_newRow_8 : decode cX6_newRow 8 = .ok (.iadd, 1) := by decide +kernel
theorem dX6_newRow_9 : decode cX6_newRow 9 = .ok (.iload_n 2, 1) := by decide +kernel
theorem dX6_newRow_10 : decode cX6_newRow 10 = .ok (.iastore, 1) := by decide +kernel
theorem dX6_newRow_11 : decode cX6_newRow 11 = .ok (.iconst 0, 1) := by decide +kernel
theorem dX6_newRow_12 : decode cX6_newRow 12 = .ok (.istore_n 3, 1) := by decide +kernel
theorem dX6_newRow_13 : decode cX6_newRow 13 = .ok (.iload_n 3, 1) := by decide +kernel
theorem dX6_newRow_14 : decode cX6_newRow 14 = .ok (.bipush 8, 2) := by decide +kernel
theorem dX6_newRow_16 : decode cX6_newRow 16 = .ok (.if_icmp .ge 25, 3) := by decide +kernel
theorem dX6_newRow_19 : decode cX6_newRow 19 = .ok (.aload_n 0, 1) := by decide +kernel
theorem dX6_newRow_20 : decode cX6_newRow 20 = .ok (.getfield 21, 3) := by decide +kernel
theorem dX6_newRow_23 : decode cX6_newRow 23 = .ok (.bipush 8, 2) := by decide +kernel
theorem dX6_newRow_25 : decode cX6_newRow 25 = .ok (.sipush 7872, 3) := by decide +kernel
theorem dX6_newRow_28 : decode cX6_newRow 28 = .ok (.iload_n 1, 1) := by decide +kernel
theorem dX6_newRow_29 : decode cX6_newRow 29 = .ok (.iadd, 1) := by decide +kernel
theorem dX6_newRow_30 : decode cX6_newRow 30 = .ok (.imul, 1) := by decide +kernel
theorem dX6_newRow_31 : decode cX6_newRow 31 = .ok (.iload_n 3, 1) := by decide +kernel
theorem dX6_newRow_32 : decode cX6_newRow 32 = .ok (.iadd, 1) := by decide +kernel
theorem dX6_newRow_33 : decode cX6_newRow 33 = .ok (.iconst 0, 1) := by decide +kernel
theorem dX6_newRow_34 : decode cX6_newRow 34 = .ok (.iastore, 1) := by decide +kernel
theorem dX6_newRow_35 : decode cX6_newRow 35 = .ok (.iinc 3 1, 3) := by decide +kernel
theorem dX6_newRow_38 : decode cX6_newRow 38 = .ok (.goto (-25), 3) := by decide +kernel
theorem dX6_newRow_41 : decode cX6_newRow 41 = .ok (.return_, 1) := by decide +kernel
set_option maxRecDepth 20000 in
theorem ggX6_row_X6_has : GoodIn wsX6_row wsX6_has := goodIn_r _ [7, 8, 9, 10, 11, 6, 12, 13, 14, 15, 16, 17, 18, 19, 20, 21, 22, 51, 52, 53, 54, 55, 56, 57, 58, 59, 60, 61, 62, 63, 64, 65, 66, 67, 68, 69, 70, 71, 72, 73, 74, 75, 76, 77, 78, 79, 80] (by decide +kernel) (by decide +kernel)
set_option maxRecDepth 20000 in
theorem gX6_row_X6_has : GoodIn wsX6_row (wsV RX6 118 RX6 yX6_has wsX6_has) := goodIn_app (goodIn_of _ (by decide +kernel)) ggX6_row_X6_has
set_option maxRecDepth 20000 in
theorem ggX6_row_X6_in : GoodIn wsX6_row wsX6_in := goodIn_r _ [16] (by decide +kernel) (by decide +kernel)
set_option maxRecDepth 20000 in
theorem gX6_row_X6_in : GoodIn wsX6_row (va_wsS RX6 77 yX6_in wsX6_in) := goodIn_app (goodIn_of _ (by decide +kernel)) ggX6_row_X6_in
set_option maxRecDepth 20000 in
theorem ggX6_row_X6_copyAll : GoodIn wsX6_row wsX6_copyAll := goodIn_r _ [26, 27, 28, 29, 6, 30, 31, 32, 33, 51, 52, 53, 54, 55, 56, 57, 58, 59, 60, 61, 62, 63, 64, 65, 66, 67, 68, 69, 70, 71, 72, 73, 74, 75, 76, 77, 78, 79, 80] (by decide +kernel) (by decide +kernel)
set_option maxRecDepth 20000 in
theorem gX6_row_X6_copyAll : GoodIn wsX6_row (wsV RX6 107 RX6 yX6_copyAll wsX6_copyAll) := goodIn_app (goodIn_of _ (by decide +kernel)) ggX6_row_X6_copyAll
set_option maxRecDepth 20000 in
theorem ggX6_row_X6_newRow : GoodIn wsX6_row wsX6_newRow := goodIn_r _ [37, 32, 33, 51, 52, 53, 54, 55, 56, 57, 58, 59, 60, 61, 62, 63, 64, 65, 66, 67, 68, 69, 70, 71, 72, 73, 74, 75, 76, 77, 78, 79, 80] (by decide +kernel) (by decide +kernel)
set_option maxRecDepth 20000 in
theorem gX6_row_X6_newRow : GoodIn wsX6_row (wsV RX6 127 RX6 yX6_newRow wsX6_newRow) := goodIn_app (goodIn_of _ (by decide +kernel)) ggX6_row_X6_newRow
set_option maxRecDepth 20000 in
theorem ggX6_row_X6_changed : GoodIn wsX6_row wsX6_changed := goodIn_r _ [41, 2, 42, 43, 44, 6, 45, 31, 32, 33, 46, 47, 48, 49, 50, 23, 24, 25, 26, 27, 28, 29, 30, 51, 52, 53, 54, 55, 56, 57, 58, 59, 60, 61, 62, 63, 64, 65, 66, 67, 68, 69, 70, 71, 72, 73, 74, 75, 76, 77, 78, 79, 80] (by decide +kernel) (by decide +kernel)
set_option maxRecDepth 20000 in
theorem gX6_row_X6_changed : GoodIn wsX6_row (wsV RX6 122 RX6 yX6_changed wsX6_changed) := goodIn_app (goodIn_of _ (by decide +kernel)) ggX6_row_X6_changed
theorem dX6_row_0 : decode cX6_row 0 = .ok (.aload_n 0, 1) := by decide +kernel
theorem dX6_row_1 : decode cX6_row 1 = .ok (.iload_n 1, 1) := by decide +kernel
theorem dX6_row_2 : decode cX6_row 2 = .ok (.iload_n 2, 1) := by decide +kernel
theorem dX6_row_3 : decode cX6_row 3 = .ok (.iconst 2, 1) := by decide +kernel
theorem dX6_row_4 : decode cX6_row 4 = .ok (.invokevirtual 118, 3) := by decide +kernel
theorem dX6_row_7 : decode cX6_row 7 = .ok (.ifCond .eq 21, 3) := by decide +kernel
theorem dX6_row_10 : decode cX6_row 10 = .ok (.iload_n 3, 1) := by decide +kernel
theorem dX6_row_11 : decode cX6_row 11 = .ok (.bipush (-3), 2) := by decide +kernel
theorem dX6_row_13 : decode cX6_row 13 = .ok (.if_icmp .eq 17, 3) := by decide +kernel
theorem dX6_row_16 : decode cX6_row 16 = .ok (.iload_n 3, 1) := by decide +kernel
theorem dX6_row_17 : decode cX6_row 17 = .ok (.i2l, 1) := by decide +kernel
theorem dX6_row_18 : decode cX6_row 18 = .ok (.lconst 0, 1) := by decide +kernel
theorem dX6_row_19 : decode cX6_row 19 = .ok (.ldc2_w 125, 3) := by decide +kernel
theorem dX6_row_22 : decode cX6_row 22 = .ok (.invokestatic 77, 3) := by decide +kernel
theorem dX6_row_25 : decode cX6_row 25 = .ok (.ifCond .ne 5, 3) := by decide +kernel
theorem dX6_row_28 : decode cX6_row 28 = .ok (.iconst (-1), 1) := by decide +kernel
theorem dX6_row_29 : decode cX6_row 29 = .ok (.ireturn, 1) := by decide +kernel
theorem dX6_row_30 : decode cX6_row 30 = .ok (.aload_n 0, 1) := by decide +kernel
theorem dX6_row_31 : decode cX6_row 31 = .ok (.aload_n 0, 1) := by decide +kernel
theorem dX6_row_32 : decode cX6_row 32 = .ok (.getfield 104, 3) := by decide +kernel
theorem dX6_row_35 : decode cX6_row 35 = .ok (.bipush 41, 2) := by decide +kernel
theorem dX6_row_37 : decode cX6_row 37 = .ok (.invokevirtual 107, 3) := by decide +kernel
theorem dX6_row_40 : decode cX6_row 40 = .ok (.aload_n 0, 1) := by decide +kernel
theorem dX6_row_41 : decode cX6_row 41 = .ok (.bipush 8, 2) := by decide +kernel
theorem dX6_row_43 : decode cX6_row 43 = .ok (.iload_n 1, 1) := by decide +kernel
theorem dX6_row_44 : decode cX6_row 44 = .ok (.imul, 1) := by decide +kernel
theorem dX6_row_45 : decode cX6_row 45 = .ok (.iload_n 2, 1) := by decide +kernel
theorem dX6_row_46 : decode cX6_row 46 = .ok (.iadd, 1) := by decide +kernel
theorem dX6_row_47 : decode cX6_row 47 = .ok (.iload_n 3, 1) := by decide +kernel
theorem dX6_row_48 : decode cX6_row 48 = .ok (.invokevirtual 127, 3) := by decide +kernel
theorem dX6_row_51 : decode cX6_row 51 = .ok (.aload_n 0, 1) := by decide +kernel
theorem dX6_row_52 : decode cX6_row 52 = .ok (.bipush 8, 2) := by decide +kernel
theorem dX6_row_54 : decode cX6_row 54 = .ok (.iload_n 1, 1) := by decide +kernel
theorem dX6_row_55 : decode cX6_row 55 = .ok (.imul, 1) := by decide +kernel
theorem dX6_row_56 : decode cX6_row 56 = .ok (.iload_n 2, 1) := by decide +kernel
theorem dX6_row_57 : decode cX6_row 57 = .ok (.iadd, 1) := by decide +kernel
theorem dX6_row_58 : decode cX6_row 58 = .ok (.invokevirtual 122, 3) := by decide +kernel
theorem dX6_row_61 : decode cX6_row 61 = .ok (.ireturn, 1) := by decide +kernel
set_option maxRecDepth 20000 in
theorem ggX6_four_X6_in : GoodIn wsX6_four wsX6_in := goodIn_r _ [5] (by decide +kernel) (by decide +kernel)
set_option maxRecDepth 20000 in
theorem gX6_four_X6_in : GoodIn wsX6_four (va_wsS RX6 77 yX6_in wsX6_in) := goodIn_app (goodIn_of _ (by decide +kernel)) ggX6_four_X6_in
theorem dX6_four_0 : decode cX6_four 0 = .ok (.lload_n 0, 1) := by decide +kernel
theorem dX6_four_1 : decode cX6_four 1 = .ok (.lconst 0, 1) := by decide +kernel
theorem dX6_four_2 : decode cX6_four 2 = .ok (.ldc2_w 130, 3) := by decide +kernel
theorem dX6_four_5 : decode cX6_four 5 = .ok (.invokestatic 77, 3) := by decide +kernel
theorem dX6_four_8 : decode cX6_four 8 = .ok (.ireturn, 1) := by decide +kernel
set_option maxRecDepth 20000 in
theorem ggX6_eight_X6_in : GoodIn wsX6_eight wsX6_in := goodIn_r _ [5] (by decide +kernel) (by decide +kernel)
set_option maxRecDepth 20000 in
theorem gX6_eight_X6_in : GoodIn wsX6_eight (va_wsS RX6 77 yX6_in wsX6_in) := goodIn_app (goodIn_of _ (by decide +kernel)) ggX6_eight_X6_in
theorem dX6_eight_0 : decode cX6_eight 0 = .ok (.lload_n 0, 1) := by decide +kernel
theorem dX6_eight_1 : decode cX6_eight 1 = .ok (.lconst 0, 1) := by decide +kernel
theorem dX6_eight_2 : decode cX6_eight 2 = .ok (.ldc2_w 132, 3) := by decide +kernel
theorem dX6_eight_5 : decode cX6_eight 5 = .ok (.invokestatic 77, 3) := by decide +kernel
theorem dX6_eight_8 : decode cX6_eight 8 = .ok (.ireturn, 1) := by decide +kernel
set_option maxRecDepth 20000 in
theorem ggX6_isAct_X6_four : GoodIn wsX6_isAct wsX6_four := goodIn_r _ [5, 6, 7, 8, 4, 9] (by decide +kernel) (by decide +kernel)
set_option maxRecDepth 20000 in
theorem gX6_isAct_X6_four : GoodIn wsX6_isAct (va_wsS RX6 134 yX6_four wsX6_four) := goodIn_app (goodIn_of _ (by decide +kernel)) ggX6_isAct_X6_four
set_option maxRecDepth 20000 in
theorem ggX6_isAct_X6_eight : GoodIn wsX6_isAct wsX6_eight := goodIn_r _ [12, 13, 7, 8, 4, 9] (by decide +kernel) (by decide +kernel)
set_option maxRecDepth 20000 in
theorem gX6_isAct_X6_eight : GoodIn wsX6_isAct (va_wsS RX6 138 yX6_eight wsX6_eight) := goodIn_app (goodIn_of _ (by decide +kernel)) ggX6_isAct_X6_eight
set_option maxRecDepth 20000 in
theorem ggX6_isAct_X6_in : GoodIn wsX6_isAct wsX6_in := goodIn_r _ [9] (by decide +kernel) (by decide +kernel)
set_option maxRecDepth 20000 in
theorem gX6_isAct_X6_in : GoodIn wsX6_isAct (va_wsS RX6 77 yX6_in wsX6_in) := goodIn_app (goodIn_of _ (by decide +kernel)) ggX6_isAct_X6_in
theorem dX6_isAct_0 : decode cX6_isAct 0 = .ok (.iload_n 0, 1) := by decide +kernel
theorem dX6_isAct_1 : decode cX6_isAct 1 = .ok (.tableswitch 339 0 16 #[83, 89, 89, 89, 119, 149, 119, 149, 179, 218, 149, 257, 89, 89, 305, 314, 83], 83) := by decide +kernel
theorem dX6_isAct_84 : decode cX6_isAct 84 = .ok (.iload_n 1, 1) := by decide +kernel
theorem dX6_isAct_85 : decode cX6_isAct 85 = .ok (.i2l, 1) := by decide +kernel
theorem dX6_isAct_86 : decode cX6_isAct 86 = .ok (.invokestatic 134, 3) := by decide +kernel
theorem dX6_isAct_89 : decode cX6_isAct 89 = .ok (.ireturn, 1) := by decide +kernel
theorem dX6_isAct_90 : decode cX6_isAct 90 = .ok (.iload_n 1, 1) := by decide +kernel
theorem dX6_isAct_91 : decode cX6_isAct 91 = .ok (.i2l, 1) := by decide +kernel
theorem dX6_isAct_92 : decode cX6_isAct 92 = .ok (.invokestatic 134, 3) := by decide +kernel
theorem dX6_isAct_95 : decode cX6_isAct 95 = .ok (.ifCond .eq 23, 3) := by decide +kernel
theorem dX6_isAct_98 : decode cX6_isAct 98 = .ok (.lload_n 2, 1) := by decide +kernel
theorem dX6_isAct_99 : decode cX6_isAct 99 = .ok (.invokestatic 134, 3) := by decide +kernel
theorem dX6_isAct_102 : decode cX6_isAct 102 = .ok (.ifCond .eq 16, 3) := by decide +kernel
theorem dX6_isAct_105 : decode cX6_isAct 105 = .ok (.iload 4, 2) := by decide +kernel
theorem dX6_isAct_107 : decode cX6_isAct 107 = .ok (.i2l, 1) := by decide +kernel
theorem dX6_isAct_108 : decode cX6_isAct 108 = .ok (.invokestatic 134, 3) := by decide +kernel
theorem dX6_isAct_111 : decode cX6_isAct 111 = .ok (.ifCond .eq 7, 3) := by decide +kernel
theorem dX6_isAct_114 : decode cX6_isAct 114 = .ok (.iconst 1, 1) := by decide +kernel
theorem dX6_isAct_115 : decode cX6_isAct 115 = .ok (.goto 4, 3) := by decide +kernel
theorem dX6_isAct_118 : decode cX6_isAct 118 = .ok (.iconst 0, 1) := by decide +kernel
theorem dX6_isAct_119 : decode cX6_isAct 119 = .ok (.ireturn, 1) := by decide +kernel
theorem dX6_isAct_120 : decode cX6_isAct 120 = .ok (.iload_n 1, 1) := by decide +kernel
theorem dX6_isAct_121 : decode cX6_isAct 121 = .ok (.i2l, 1) := by decide +kernel
theorem dX6_isAct_122 : decode cX6_isAct 122 = .ok (.invokestatic 134, 3) := by decide +kernel
theorem dX6_isAct_125 : decode cX6_isAct 125 = .ok (.ifCond .eq 23, 3) := by decide +kernel
theorem dX6_isAct_128 : decode cX6_isAct 128 = .ok (.lload_n 2, 1) := by decide +kernel
theorem dX6_isAct_129 : decode cX6_isAct 129 = .ok (.invokestatic 134, 3) := by decide +kernel
theorem dX6_isAct_132 : decode cX6_isAct 132 = .ok (.ifCond .eq 16, 3) := by decide +kernel
theorem dX6_isAct_135 : decode cX6_isAct 135 = .ok (.iload 4, 2) := by decide +kernel
theorem dX6_isAct_137 : decode cX6_isAct 137 = .ok (.i2l, 1) := by decide +kernel
theorem dX6_isAct_138 : decode cX6_isAct 138 = .ok (.invokestatic 138, 3) := by decide +kernel
theorem dX6_isAct_141 : decode cX6_isAct 141 = .ok (.ifCond .eq 7, 3) := by decide +kernel
theorem dX6_isAct_144 : decode cX6_isAct 144 = .ok (.iconst 1, 1) := by decide +kernel
theorem dX6_isAct_145 : decode cX6_isAct 145 = .ok (.goto 4, 3) := by decide +kernel
theorem dX6_isAct_148 : decode cX6_isAct 148 = .ok (.iconst 0, 1) := by decide +kernel
theorem dX6_isAct_149 : decode cX6_isAct 149 = .ok (.ireturn, 1) := by decide +kernel
theorem dX6_isAct_150 : decode cX6_isAct 150 = .ok (.iload_n 1, 1) := by decide +kernel
theorem dX6_isAct_151 : decode cX6_isAct 151 = .ok (.i2l, 1) := by decide +kernel
theorem dX6_isAct_152 : decode cX6_isAct 152 = .ok (.invokestatic 134, 3) := by decide +kernel
theorem dX6_isAct_155 : decode cX6_isAct 155 = .ok (.ifCond .eq 23, 3) := by decide +kernel
theorem dX6_isAct_158 : decode cX6_isAct 158 = .ok (.lload_n 2, 1) := by decide +kernel
theorem dX6_isAct_159 : decode cX6_isAct 159 = .ok (.invokestatic 138, 3) := by decide +kernel
theorem dX6_isAct_162 : decode cX6_isAct 162 = .ok (.ifCond .eq 16, 3) := by decide +kernel
theorem dX6_isAct_165 : decode cX6_isAct 165 = .ok (.iload 4, 2) := by decide +kernel
theorem dX6_isAct_167 : decode cX6_isAct 167 = .ok (.i2l, 1) := by decide +kernel
theorem dX6_isAct_168 : decode cX6_isAct 168 = .ok (.invokestatic 134, 3) := by decide +kernel
theorem dX6_isAct_171 : decode cX6_isAct 171 = .ok (.ifCond .eq 7, 3) := by decide +kernel
theorem dX6_isAct_174 : decode cX6_isAct 174 = .ok (.iconst 1, 1) := by decide +kernel
theorem dX6_isAct_175 : decode cX6_isAct 175 = .ok (.goto 4, 3) := by decide +kernel
theorem dX6_isAct_178 : decode cX6_isAct 178 = .ok (.iconst 0, 1) := by decide +kernel
theorem dX6_isAct_179 : decode cX6_isAct 179 = .ok (.ireturn, 1) := by decide +kernel
theorem dX6_isAct_180 : decode cX6_isAct 180 = .ok (.iload_n 1, 1) := by decide +kernel
theorem dX6_isAct_181 : decode cX6_isAct 181 = .ok (.i2l, 1) := by decide +kernel
theorem dX6_isAct_182 : decode cX6_isAct 182 = .ok (.invokestatic 134, 3) := by decide +kernel
theorem dX6_isAct_185 : decode cX6_isAct 185 = .ok (.ifCond .eq 32, 3) := by decide +kernel
theorem dX6_isAct_188 : decode cX6_isAct 188 = .ok (.lload_n 2, 1) := by decide +kernel
theorem dX6_isAct_189 : decode cX6_isAct 189 = .ok (.invokestatic 134, 3) := by decide +kernel
theorem dX6_isAct_192 : decode cX6_isAct 192 = .ok (.ifCond .eq 25, 3) := by decide +kernel
theorem dX6_isAct_195 : decode cX6_isAct 195 = .ok (.iload 4, 2) := by decide +kernel
theorem dX6_isAct_197 : decode cX6_isAct 197 = .ok (.i2l, 1) := by decide +kernel
theorem dX6_isAct_198 : decode cX6_isAct 198 = .ok (.invokestatic 138, 3) := by decide +kernel
theorem dX6_isAct_201 : decode cX6_isAct 201 = .ok (.ifCond .eq 16, 3) := by decide +kernel
theorem dX6_isAct_204 : decode cX6_isAct 204 = .ok (.iload 5, 2) := by decide +kernel
theorem dX6_isAct_206 : decode cX6_isAct 206 = .ok (.i2l, 1) := by decide +kernel
theorem dX6_isAct_207 : decode cX6_isAct 207 = .ok (.invokestatic 134, 3) := by decide +kernel
theorem dX6_isAct_210 : decode cX6_isAct 210 = .ok (.ifCond .eq 7, 3) := by decide +kernel
theorem dX6_isAct_213 : decode cX6_isAct 213 = .ok (.iconst 1, 1) := by decide +kernel
theorem dX6_isAct_214 : decode cX6_isAct 214 = .ok (.goto 4, 3) := by decide +kernel
theorem dX6_isAct_217 : decode cX6_isAct 217 = .ok (.iconst 0, 1) := by decide +kernel
theorem dX6_isAct_218 : decode cX6_isAct 218 = .ok (.ireturn, 1) := by decide +kernel
theorem dX6_isAct_219 : decode cX6_isAct 219 = .ok (.iload_n 1, 1) := by decide +kernel
theorem dX6_isAct_220 : decode cX6_isAct 220 = .ok (.i2l, 1) := by decide +kernel
theorem dX6_isAct_221 : decode cX6_isAct 221 = .ok (.invokestatic 134, 3) := by decide +kernel
theorem dX6_isAct_224 : decode cX6_isAct 224 = .ok (.ifCond .eq 32, 3) := by decide +kernel
theorem dX6_isAct_227 : decode cX6_isAct 227 = .ok (.lload_n 2, 1) := by decide +kernel
theorem dX6_isAct_228 : decode cX6_isAct 228 = .ok (.invokestatic 138, 3) := by decide +kernel
theorem dX6_isAct_231 : decode cX6_isAct 231 = .ok (.ifCond .eq 25, 3) := by decide +kernel
theorem dX6_isAct_234 : decode cX6_isAct 234 = .ok (.iload 4, 2) := by decide +kernel
theorem dX6_isAct_236 : decode cX6_isAct 236 = .ok (.i2l, 1) := by decide +kernel
theorem dX6_isAct_237 : decode cX6_isAct 237 = .ok (.invokestatic 134, 3) := by decide +kernel
theorem dX6_isAct_240 : decode cX6_isAct 240 = .ok (.ifCond .eq 16, 3) := by decide +kernel
theorem dX6_isAct_243 : decode cX6_isAct 243 = .ok (.iload 5, 2) := by decide +kernel
theorem dX6_isAct_245 : decode cX6_isAct 245 = .ok (.i2l, 1) := by decide +kernel
theorem dX6_isAct_246 : decode cX6_isAct 246 = .ok (.invokestatic 134, 3) := by decide +kernel
theorem dX6_isAct_249 : decode cX6_isAct 249 = .ok (.ifCond .eq 7, 3) := by decide +kernel
theorem dX6_isAct_252 : decode cX6_isAct 252 = .ok (.iconst 1, 1) := by decide +kernel
theorem dX6_isAct_253 : decode cX6_isAct 253 = .ok (.goto 4, 3) := by decide +kernel
theorem dX6_isAct_256 : decode cX6_isAct 256 = .ok (.iconst 0, 1) := by decide +kernel
theorem dX6_isAct_257 : decode cX6_isAct 257 = .ok (.ireturn, 1) := by decide +kernel
theorem dX6_isAct_258 : decode cX6_isAct 258 = .ok (.iload_n 1, 1) := by decide +kernel
theorem dX6_isAct_259 : decode cX6_isAct 259 = .ok (.i2l, 1) := by decide +kernel
theorem dX6_isAct_260 : decode cX6_isAct 260 = .ok (.invokestatic 134, 3) := by decide +kernel
theorem dX6_isAct_263 : decode cX6_isAct 263 = .ok (.ifCond .eq 41, 3) := by decide +kernel
theorem dX6_isAct_266 : decode cX6_isAct 266 = .ok (.lload_n 2, 1) := by decide +kernel
theorem dX6_isAct_267 : decode cX6_isAct 267 = .ok (.invokestatic 138, 3) := by decide +kernel
theorem dX6_isAct_270 : decode cX6_isAct 270 = .ok (.ifCond .eq 34, 3) := by decide +kernel
theorem dX6_isAct_273 : decode cX6_isAct 273 = .ok (.iload 4, 2) := by decide +kernel
theorem dX6_isAct_275 : decode cX6_isAct 275 = .ok (.i2l, 1) := by decide +kernel
theorem dX6_isAct_276 : decode cX6_isAct 276 = .ok (.invokestatic 134, 3) := by decide +kernel
theorem dX6_isAct_279 : decode cX6_isAct 279 = .ok (.ifCond .eq 25, 3) := by decide +kernel
theorem dX6_isAct_282 : decode cX6_isAct 282 = .ok (.iload 5, 2) := by decide +kernel
theorem dX6_isAct_284 : decode cX6_isAct 284 = .ok (.i2l, 1) := by decide +kernel
theorem dX6_isAct_285 : decode cX6_isAct 285 = .ok (.invokestatic 138, 3) := by decide +kernel
theorem dX6_isAct_288 : decode cX6_isAct 288 = .ok (.ifCond .eq 16, 3) := by decide +kernel
theorem dX6_isAct_291 : decode cX6_isAct 291 = .ok (.iload 6, 2) := by decide +kernel
theorem dX6_isAct_293 : decode cX6_isAct 293 = .ok (.i2l, 1) := by decide +kernel
theorem dX6_isAct_294 : decode cX6_isAct 294 = .ok (.invokestatic 134, 3) := by decide +kernel
theorem dX6_isAct_297 : decode cX6_isAct 297 = .ok (.ifCond .eq 7, 3) := by decide +kernel
theorem dX6_isAct_300 : decode cX6_isAct 300 = .ok (.iconst 1, 1) := by decide +kernel
theorem dX6_isAct_301 : decode cX6_isAct 301 = .ok (.goto 4, 3) := by decide +kernel
theorem dX6_isAct_304 : decode cX6_isAct 304 = .ok (.iconst 0, 1) := by decide +kernel
theorem dX6_isAct_305 : decode cX6_isAct 305 = .ok (.ireturn, 1) := by decide +kernel
theorem dX6_isAct_306 : decode cX6_isAct 306 = .ok (.lload_n 2, 1) := by decide +kernel
theorem dX6_isAct_307 : decode cX6_isAct 307 = .ok (.lconst 0, 1) := by decide +kernel
theorem dX6_isAct_308 : decode cX6_isAct 308 = .ok (.ldc2_w 141, 3) := by decide +kernel
theorem dX6_isAct_311 : decode cX6_isAct 311 = .ok (.invokestatic 77, 3) := by decide +kernel
theorem dX6_isAct_314 : decode cX6_isAct 314 = .ok (.ireturn, 1) := by decide +kernel
theorem dX6_isAct_315 : decode cX6_isAct 315 = .ok (.iload_n 1, 1) := by decide +kernel
theorem dX6_isAct_316 : decode cX6_isAct 316 = .ok (.i2l, 1) := by decide +kernel
theorem dX6_isAct_317 : decode cX6_isAct 317 = .ok (.invokestatic 134, 3) := by decide +kernel
theorem dX6_isAct_320 : decode cX6_isAct 320 = .ok (.ifCond .eq 18, 3) := by decide +kernel
theorem dX6_isAct_323 : decode cX6_isAct 323 = .ok (.lload_n 2, 1) := by decide +kernel
theorem dX6_isAct_324 : decode cX6_isAct 324 = .ok (.lconst 0, 1) := by decide +kernel
theorem dX6_isAct_325 : decode cX6_isAct 325 = .ok (.ldc2_w 141, 3) := by decide +kernel
theorem dX6_isAct_328 : decode cX6_isAct 328 = .ok (.invokestatic 77, 3) := by decide +kernel
theorem dX6_isAct_331 : decode cX6_isAct 331 = .ok (.ifCond .eq 7, 3) := by decide +kernel
theorem dX6_isAct_334 : decode cX6_isAct 334 = .ok (.iconst 1, 1) := by decide +kernel
theorem dX6_isAct_335 : decode cX6_isAct 335 = .ok (.goto 4, 3) := by decide +kernel
theorem dX6_isAct_338 : decode cX6_isAct 338 = .ok (.iconst 0, 1) := by decide +kernel
theorem dX6_isAct_339 : decode cX6_isAct 339 = .ok (.ireturn, 1) := by decide +kernel
theorem dX6_isAct_340 : decode cX6_isAct 340 = .ok (.iload_n 0, 1) := by decide +kernel
theorem dX6_isAct_341 : decode cX6_isAct 341 = .ok (.bipush 17, 2) := by decide +kernel
theorem dX6_isAct_343 : decode cX6_isAct 343 = .ok (.if_icmp .ne 7, 3) := by decide +kernel
theorem dX6_isAct_346 : decode cX6_isAct 346 = .ok (.iconst 1, 1) := by decide +kernel
theorem dX6_isAct_347 : decode cX6_isAct 347 = .ok (.goto 4, 3) := by decide +kernel
theorem dX6_isAct_350 : decode cX6_isAct 350 = .ok (.iconst 0, 1) := by decide +kernel
theorem dX6_isAct_351 : decode cX6_isAct 351 = .ok (.ireturn, 1) := by decide +kernel
set_option maxRecDepth 20000 in
theorem ggX6_act_X6_in : GoodIn wsX6_act wsX6_in := goodIn_r _ [12] (by decide +kernel) (by decide +kernel)
set_option maxRecDepth 20000 in
theorem gX6_act_X6_in : GoodIn wsX6_act (va_wsS RX6 77 yX6_in wsX6_in) := goodIn_app (goodIn_of _ (by decide +kernel)) ggX6_act_X6_in
set_option maxRecDepth 20000 in
theorem ggX6_act_X6_isAct : GoodIn wsX6_act wsX6_isAct := goodIn_r _ [15, 16, 17, 18, 11, 19, 20, 9, 10, 12, 21, 22, 23, 24] (by decide +kernel) (by decide +kernel)
set_option maxRecDepth 20000 in
theorem gX6_act_X6_isAct : GoodIn wsX6_act (va_wsS RX6 145 yX6_isAct wsX6_isAct) := goodIn_app (goodIn_of _ (by decide +kernel)) ggX6_act_X6_isAct
theorem dX6_act_0 : decode cX6_act 0 = .ok (.iload_n 1, 1) := by decide +kernel
theorem dX6_act_1 : decode cX6_act 1 = .ok (.i2l, 1) := by decide +kernel
theorem dX6_act_2 : decode cX6_act 2 = .ok (.lconst 0, 1) := by decide +kernel
theorem dX6_act_3 : decode cX6_act 3 = .ok (.ldc2_w 143, 3) := by decide +kernel
theorem dX6_act_6 : decode cX6_act 6 = .ok (.invokestatic 77, 3) := by decide +kernel
theorem dX6_act_9 : decode cX6_act 9 = .ok (.ifCond .eq 19, 3) := by decide +kernel
theorem dX6_act_12 : decode cX6_act 12 = .ok (.iload_n 2, 1) := by decide +kernel
theorem dX6_act_13 : decode cX6_act 13 = .ok (.iload_n 3, 1) := by decide +kernel
theorem dX6_act_14 : decode cX6_act 14 = .ok (.lload 4, 2) := by decide +kernel
theorem dX6_act_16 : decode cX6_act 16 = .ok (.iload 6, 2) := by decide +kernel
theorem dX6_act_18 : decode cX6_act 18 = .ok (.iload 7, 2) := by decide +kernel
theorem dX6_act_20 : decode cX6_act 20 = .ok (.iload 8, 2) := by decide +kernel
theorem dX6_act_22 : decode cX6_act 22 = .ok (.invokestatic 145, 3) := by decide +kernel
theorem dX6_act_25 : decode cX6_act 25 = .ok (.ifCond .ne 5, 3) := by decide +kernel
theorem dX6_act_28 : decode cX6_act 28 = .ok (.iconst (-1), 1) := by decide +kernel
theorem dX6_act_29 : decode cX6_act 29 = .ok (.ireturn, 1) := by decide +kernel
theorem dX6_act_30 : decode cX6_act 30 = .ok (.aload_n 0, 1) := by decide +kernel
theorem dX6_act_31 : decode cX6_act 31 = .ok (.getfield 31, 3) := by decide +kernel
theorem dX6_act_34 : decode cX6_act 34 = .ok (.iload_n 1, 1) := by decide +kernel
