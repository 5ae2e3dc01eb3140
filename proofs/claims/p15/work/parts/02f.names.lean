theorem dX6_act_35 : decode cX6_act 35 = .ok (.iaload, 1) := by decide +kernel
theorem dX6_act_36 : decode cX6_act 36 = .ok (.bipush 32, 2) := by decide +kernel
theorem dX6_act_38 : decode cX6_act 38 = .ok (.if_icmp .ne 6, 3) := by decide +kernel
theorem dX6_act_41 : decode cX6_act 41 = .ok (.bipush (-2), 2) := by decide +kernel
theorem dX6_act_43 : decode cX6_act 43 = .ok (.ireturn, 1) := by decide +kernel
theorem dX6_act_44 : decode cX6_act 44 = .ok (.bipush 32, 2) := by decide +kernel
theorem dX6_act_46 : decode cX6_act 46 = .ok (.iload_n 1, 1) := by decide +kernel
theorem dX6_act_47 : decode cX6_act 47 = .ok (.imul, 1) := by decide +kernel
theorem dX6_act_48 : decode cX6_act 48 = .ok (.aload_n 0, 1) := by decide +kernel
theorem dX6_act_49 : decode cX6_act 49 = .ok (.getfield 31, 3) := by decide +kernel
theorem dX6_act_52 : decode cX6_act 52 = .ok (.iload_n 1, 1) := by decide +kernel
theorem dX6_act_53 : decode cX6_act 53 = .ok (.iaload, 1) := by decide +kernel
theorem dX6_act_54 : decode cX6_act 54 = .ok (.iadd, 1) := by decide +kernel
theorem dX6_act_55 : decode cX6_act 55 = .ok (.istore 9, 2) := by decide +kernel
theorem dX6_act_57 : decode cX6_act 57 = .ok (.aload_n 0, 1) := by decide +kernel
theorem dX6_act_58 : decode cX6_act 58 = .ok (.getfield 34, 3) := by decide +kernel
theorem dX6_act_61 : decode cX6_act 61 = .ok (.iload 9, 2) := by decide +kernel
theorem dX6_act_63 : decode cX6_act 63 = .ok (.iload_n 2, 1) := by decide +kernel
theorem dX6_act_64 : decode cX6_act 64 = .ok (.iastore, 1) := by decide +kernel
theorem dX6_act_65 : decode cX6_act 65 = .ok (.aload_n 0, 1) := by decide +kernel
theorem dX6_act_66 : decode cX6_act 66 = .ok (.getfield 37, 3) := by decide +kernel
theorem dX6_act_69 : decode cX6_act 69 = .ok (.iload 9, 2) := by decide +kernel
theorem dX6_act_71 : decode cX6_act 71 = .ok (.iload_n 3, 1) := by decide +kernel
theorem dX6_act_72 : decode cX6_act 72 = .ok (.iastore, 1) := by decide +kernel
theorem dX6_act_73 : decode cX6_act 73 = .ok (.aload_n 0, 1) := by decide +kernel
theorem dX6_act_74 : decode cX6_act 74 = .ok (.getfield 40, 3) := by decide +kernel
theorem dX6_act_77 : decode cX6_act 77 = .ok (.iload 9, 2) := by decide +kernel
theorem dX6_act_79 : decode cX6_act 79 = .ok (.lload 4, 2) := by decide +kernel
theorem dX6_act_81 : decode cX6_act 81 = .ok (.lastore, 1) := by decide +kernel
theorem dX6_act_82 : decode cX6_act 82 = .ok (.aload_n 0, 1) := by decide +kernel
theorem dX6_act_83 : decode cX6_act 83 = .ok (.getfield 43, 3) := by decide +kernel
theorem dX6_act_86 : decode cX6_act 86 = .ok (.iload 9, 2) := by decide +kernel
theorem dX6_act_88 : decode cX6_act 88 = .ok (.iload 6, 2) := by decide +kernel
theorem dX6_act_90 : decode cX6_act 90 = .ok (.iastore, 1) := by decide +kernel
theorem dX6_act_91 : decode cX6_act 91 = .ok (.aload_n 0, 1) := by decide +kernel
theorem dX6_act_92 : decode cX6_act 92 = .ok (.getfield 46, 3) := by decide +kernel
theorem dX6_act_95 : decode cX6_act 95 = .ok (.iload 9, 2) := by decide +kernel
theorem dX6_act_97 : decode cX6_act 97 = .ok (.iload 7, 2) := by decide +kernel
theorem dX6_act_99 : decode cX6_act 99 = .ok (.iastore, 1) := by decide +kernel
theorem dX6_act_100 : decode cX6_act 100 = .ok (.aload_n 0, 1) := by decide +kernel
theorem dX6_act_101 : decode cX6_act 101 = .ok (.getfield 49, 3) := by decide +kernel
theorem dX6_act_104 : decode cX6_act 104 = .ok (.iload 9, 2) := by decide +kernel
theorem dX6_act_106 : decode cX6_act 106 = .ok (.iload 8, 2) := by decide +kernel
theorem dX6_act_108 : decode cX6_act 108 = .ok (.iastore, 1) := by decide +kernel
theorem dX6_act_109 : decode cX6_act 109 = .ok (.aload_n 0, 1) := by decide +kernel
theorem dX6_act_110 : decode cX6_act 110 = .ok (.getfield 31, 3) := by decide +kernel
theorem dX6_act_113 : decode cX6_act 113 = .ok (.iload_n 1, 1) := by decide +kernel
theorem dX6_act_114 : decode cX6_act 114 = .ok (.dup2, 1) := by decide +kernel
theorem dX6_act_115 : decode cX6_act 115 = .ok (.iaload, 1) := by decide +kernel
theorem dX6_act_116 : decode cX6_act 116 = .ok (.iconst 1, 1) := by decide +kernel
theorem dX6_act_117 : decode cX6_act 117 = .ok (.iadd, 1) := by decide +kernel
theorem dX6_act_118 : decode cX6_act 118 = .ok (.iastore, 1) := by decide +kernel
theorem dX6_act_119 : decode cX6_act 119 = .ok (.aload_n 0, 1) := by decide +kernel
theorem dX6_act_120 : decode cX6_act 120 = .ok (.getfield 31, 3) := by decide +kernel
theorem dX6_act_123 : decode cX6_act 123 = .ok (.iload_n 1, 1) := by decide +kernel
theorem dX6_act_124 : decode cX6_act 124 = .ok (.iaload, 1) := by decide +kernel
theorem dX6_act_125 : decode cX6_act 125 = .ok (.iconst 1, 1) := by decide +kernel
theorem dX6_act_126 : decode cX6_act 126 = .ok (.isub, 1) := by decide +kernel
theorem dX6_act_127 : decode cX6_act 127 = .ok (.ireturn, 1) := by decide +kernel
set_option maxRecDepth 20000 in
theorem ggX6_clear_X6_in : GoodIn wsX6_clear wsX6_in := goodIn_r _ [6] (by decide +kernel) (by decide +kernel)
set_option maxRecDepth 20000 in
theorem gX6_clear_X6_in : GoodIn wsX6_clear (va_wsS RX6 77 yX6_in wsX6_in) := goodIn_app (goodIn_of _ (by decide +kernel)) ggX6_clear_X6_in
theorem dX6_clear_0 : decode cX6_clear 0 = .ok (.iload_n 1, 1) := by decide +kernel
theorem dX6_clear_1 : decode cX6_clear 1 = .ok (.i2l, 1) := by decide +kernel
theorem dX6_clear_2 : decode cX6_clear 2 = .ok (.lconst 0, 1) := by decide +kernel
theorem dX6_clear_3 : decode cX6_clear 3 = .ok (.ldc2_w 143, 3) := by decide +kernel
theorem dX6_clear_6 : decode cX6_clear 6 = .ok (.invokestatic 77, 3) := by decide +kernel
theorem dX6_clear_9 : decode cX6_clear 9 = .ok (.ifCond .ne 5, 3) := by decide +kernel
theorem dX6_clear_12 : decode cX6_clear 12 = .ok (.iconst (-1), 1) := by decide +kernel
theorem dX6_clear_13 : decode cX6_clear 13 = .ok (.ireturn, 1) := by decide +kernel
theorem dX6_clear_14 : decode cX6_clear 14 = .ok (.aload_n 0, 1) := by decide +kernel
theorem dX6_clear_15 : decode cX6_clear 15 = .ok (.getfield 31, 3) := by decide +kernel
theorem dX6_clear_18 : decode cX6_clear 18 = .ok (.iload_n 1, 1) := by decide +kernel
theorem dX6_clear_19 : decode cX6_clear 19 = .ok (.iaload, 1) := by decide +kernel
theorem dX6_clear_20 : decode cX6_clear 20 = .ok (.istore_n 2, 1) := by decide +kernel
theorem dX6_clear_21 : decode cX6_clear 21 = .ok (.aload_n 0, 1) := by decide +kernel
theorem dX6_clear_22 : decode cX6_clear 22 = .ok (.getfield 31, 3) := by decide +kernel
theorem dX6_clear_25 : decode cX6_clear 25 = .ok (.iload_n 1, 1) := by decide +kernel
theorem dX6_clear_26 : decode cX6_clear 26 = .ok (.iconst 0, 1) := by decide +kernel
theorem dX6_clear_27 : decode cX6_clear 27 = .ok (.iastore, 1) := by decide +kernel
theorem dX6_clear_28 : decode cX6_clear 28 = .ok (.iload_n 2, 1) := by decide +kernel
theorem dX6_clear_29 : decode cX6_clear 29 = .ok (.ireturn, 1) := by decide +kernel
theorem dX6_load_0 : decode cX6_load 0 = .ok (.aload_n 0, 1) := by decide +kernel
theorem dX6_load_1 : decode cX6_load 1 = .ok (.getfield 65, 3) := by decide +kernel
theorem dX6_load_4 : decode cX6_load 4 = .ok (.iload_n 1, 1) := by decide +kernel
theorem dX6_load_5 : decode cX6_load 5 = .ok (.baload, 1) := by decide +kernel
theorem dX6_load_6 : decode cX6_load 6 = .ok (.ifCond .ne 40, 3) := by decide +kernel
theorem dX6_load_9 : decode cX6_load 9 = .ok (.aload_n 0, 1) := by decide +kernel
theorem dX6_load_10 : decode cX6_load 10 = .ok (.getfield 65, 3) := by decide +kernel
theorem dX6_load_13 : decode cX6_load 13 = .ok (.iload_n 1, 1) := by decide +kernel
theorem dX6_load_14 : decode cX6_load 14 = .ok (.iconst 1, 1) := by decide +kernel
theorem dX6_load_15 : decode cX6_load 15 = .ok (.bastore, 1) := by decide +kernel
theorem dX6_load_16 : decode cX6_load 16 = .ok (.aload_n 0, 1) := by decide +kernel
theorem dX6_load_17 : decode cX6_load 17 = .ok (.dup, 1) := by decide +kernel
theorem dX6_load_18 : decode cX6_load 18 = .ok (.getfield 149, 3) := by decide +kernel
theorem dX6_load_21 : decode cX6_load 21 = .ok (.aload_n 0, 1) := by decide +kernel
theorem dX6_load_22 : decode cX6_load 22 = .ok (.getfield 24, 3) := by decide +kernel
theorem dX6_load_25 : decode cX6_load 25 = .ok (.iload_n 1, 1) := by decide +kernel
theorem dX6_load_26 : decode cX6_load 26 = .ok (.baload, 1) := by decide +kernel
theorem dX6_load_27 : decode cX6_load 27 = .ok (.ifCond .eq 7, 3) := by decide +kernel
theorem dX6_load_30 : decode cX6_load 30 = .ok (.iconst 0, 1) := by decide +kernel
theorem dX6_load_31 : decode cX6_load 31 = .ok (.goto 4, 3) := by decide +kernel
theorem dX6_load_34 : decode cX6_load 34 = .ok (.iconst 1, 1) := by decide +kernel
theorem dX6_load_35 : decode cX6_load 35 = .ok (.iadd, 1) := by decide +kernel
theorem dX6_load_36 : decode cX6_load 36 = .ok (.putfield 149, 3) := by decide +kernel
theorem dX6_load_39 : decode cX6_load 39 = .ok (.aload_n 0, 1) := by decide +kernel
theorem dX6_load_40 : decode cX6_load 40 = .ok (.getfield 24, 3) := by decide +kernel
theorem dX6_load_43 : decode cX6_load 43 = .ok (.iload_n 1, 1) := by decide +kernel
theorem dX6_load_44 : decode cX6_load 44 = .ok (.iconst 1, 1) := by decide +kernel
theorem dX6_load_45 : decode cX6_load 45 = .ok (.bastore, 1) := by decide +kernel
theorem dX6_load_46 : decode cX6_load 46 = .ok (.return_, 1) := by decide +kernel
theorem dX6_touch_0 : decode cX6_touch 0 = .ok (.iconst 0, 1) := by decide +kernel
theorem dX6_touch_1 : decode cX6_touch 1 = .ok (.istore_n 3, 1) := by decide +kernel
theorem dX6_touch_2 : decode cX6_touch 2 = .ok (.iconst 0, 1) := by decide +kernel
theorem dX6_touch_3 : decode cX6_touch 3 = .ok (.istore 4, 2) := by decide +kernel
theorem dX6_touch_5 : decode cX6_touch 5 = .ok (.iload 4, 2) := by decide +kernel
theorem dX6_touch_7 : decode cX6_touch 7 = .ok (.aload_n 0, 1) := by decide +kernel
theorem dX6_touch_8 : decode cX6_touch 8 = .ok (.getfield 152, 3) := by decide +kernel
theorem dX6_touch_11 : decode cX6_touch 11 = .ok (.if_icmp .ge 39, 3) := by decide +kernel
theorem dX6_touch_14 : decode cX6_touch 14 = .ok (.iload_n 3, 1) := by decide +kernel
theorem dX6_touch_15 : decode cX6_touch 15 = .ok (.aload_n 0, 1) := by decide +kernel
theorem dX6_touch_16 : decode cX6_touch 16 = .ok (.getfield 56, 3) := by decide +kernel
theorem dX6_touch_19 : decode cX6_touch 19 = .ok (.iload 4, 2) := by decide +kernel
theorem dX6_touch_21 : decode cX6_touch 21 = .ok (.iaload, 1) := by decide +kernel
theorem dX6_touch_22 : decode cX6_touch 22 = .ok (.iload_n 1, 1) := by decide +kernel
theorem dX6_touch_23 : decode cX6_touch 23 = .ok (.if_icmp .ne 18, 3) := by decide +kernel
theorem dX6_touch_26 : decode cX6_touch 26 = .ok (.aload_n 0, 1) := by decide +kernel
theorem dX6_touch_27 : decode cX6_touch 27 = .ok (.getfield 59, 3) := by decide +kernel
theorem dX6_touch_30 : decode cX6_touch 30 = .ok (.iload 4, 2) := by decide +kernel
theorem dX6_touch_32 : decode cX6_touch 32 = .ok (.iaload, 1) := by decide +kernel
theorem dX6_touch_33 : decode cX6_touch 33 = .ok (.iload_n 2, 1) := by decide +kernel
theorem dX6_touch_34 : decode cX6_touch 34 = .ok (.if_icmp .ne 7, 3) := by decide +kernel
theorem dX6_touch_37 : decode cX6_touch 37 = .ok (.iconst 1, 1) := by decide +kernel
theorem dX6_touch_38 : decode cX6_touch 38 = .ok (.goto 4, 3) := by decide +kernel
theorem dX6_touch_41 : decode cX6_touch 41 = .ok (.iconst 0, 1) := by decide +kernel
theorem dX6_touch_42 : decode cX6_touch 42 = .ok (.ior, 1) := by decide +kernel
theorem dX6_touch_43 : decode cX6_touch 43 = .ok (.istore_n 3, 1) := by decide +kernel
theorem dX6_touch_44 : decode cX6_touch 44 = .ok (.iinc 4 1, 3) := by decide +kernel
theorem dX6_touch_47 : decode cX6_touch 47 = .ok (.goto (-42), 3) := by decide +kernel
theorem dX6_touch_50 : decode cX6_touch 50 = .ok (.iload_n 3, 1) := by decide +kernel
theorem dX6_touch_51 : decode cX6_touch 51 = .ok (.ifCond .ne 33, 3) := by decide +kernel
theorem dX6_touch_54 : decode cX6_touch 54 = .ok (.aload_n 0, 1) := by decide +kernel
theorem dX6_touch_55 : decode cX6_touch 55 = .ok (.getfield 56, 3) := by decide +kernel
theorem dX6_touch_58 : decode cX6_touch 58 = .ok (.aload_n 0, 1) := by decide +kernel
theorem dX6_touch_59 : decode cX6_touch 59 = .ok (.getfield 152, 3) := by decide +kernel
theorem dX6_touch_62 : decode cX6_touch 62 = .ok (.iload_n 1, 1) := by decide +kernel
theorem dX6_touch_63 : decode cX6_touch 63 = .ok (.iastore, 1) := by decide +kernel
theorem dX6_touch_64 : decode cX6_touch 64 = .ok (.aload_n 0, 1) := by decide +kernel
theorem dX6_touch_65 : decode cX6_touch 65 = .ok (.getfield 59, 3) := by decide +kernel
theorem dX6_touch_68 : decode cX6_touch 68 = .ok (.aload_n 0, 1) := by decide +kernel
theorem dX6_touch_69 : decode cX6_touch 69 = .ok (.getfield 152, 3) := by decide +kernel
theorem dX6_touch_72 : decode cX6_touch 72 = .ok (.iload_n 2, 1) := by decide +kernel
theorem dX6_touch_73 : decode cX6_touch 73 = .ok (.iastore, 1) := by decide +kernel
theorem dX6_touch_74 : decode cX6_touch 74 = .ok (.aload_n 0, 1) := by decide +kernel
theorem dX6_touch_75 : decode cX6_touch 75 = .ok (.dup, 1) := by decide +kernel
theorem dX6_touch_76 : decode cX6_touch 76 = .ok (.getfield 152, 3) := by decide +kernel
theorem dX6_touch_79 : decode cX6_touch 79 = .ok (.iconst 1, 1) := by decide +kernel
theorem dX6_touch_80 : decode cX6_touch 80 = .ok (.iadd, 1) := by decide +kernel
theorem dX6_touch_81 : decode cX6_touch 81 = .ok (.putfield 152, 3) := by decide +kernel
theorem dX6_touch_84 : decode cX6_touch 84 = .ok (.return_, 1) := by decide +kernel
set_option maxRecDepth 20000 in
theorem ggX6_leafOf_X6_load : GoodIn wsX6_leafOf wsX6_load := goodIn_r _ [8, 9, 10, 11, 18, 19, 20, 21, 22, 23, 24, 25, 26, 27, 28, 29, 30, 31, 32, 33, 34, 35, 36, 37, 38, 39, 40, 41, 42, 43, 44, 45, 46, 47] (by decide +kernel) (by decide +kernel)
set_option maxRecDepth 20000 in
theorem gX6_leafOf_X6_load : GoodIn wsX6_leafOf (wsV RX6 158 RX6 yX6_load wsX6_load) := goodIn_app (goodIn_of _ (by decide +kernel)) ggX6_leafOf_X6_load
set_option maxRecDepth 20000 in
theorem ggX6_leafOf_X6_fieldsOf : GoodIn wsX6_leafOf wsX6_fieldsOf := goodIn_r _ [14] (by decide +kernel) (by decide +kernel)
set_option maxRecDepth 20000 in
theorem gX6_leafOf_X6_fieldsOf : GoodIn wsX6_leafOf (va_wsS RX6 85 yX6_fieldsOf wsX6_fieldsOf) := goodIn_app (goodIn_of _ (by decide +kernel)) ggX6_leafOf_X6_fieldsOf
set_option maxRecDepth 20000 in
theorem ggX6_leafOf_X6_sortOf : GoodIn wsX6_leafOf wsX6_sortOf := goodIn_r _ [17] (by decide +kernel) (by decide +kernel)
set_option maxRecDepth 20000 in
theorem gX6_leafOf_X6_sortOf : GoodIn wsX6_leafOf (va_wsS RX6 89 yX6_sortOf wsX6_sortOf) := goodIn_app (goodIn_of _ (by decide +kernel)) ggX6_leafOf_X6_sortOf
theorem dX6_leafOf_0 : decode cX6_leafOf 0 = .ok (.aload_n 0, 1) := by decide +kernel
theorem dX6_leafOf_1 : decode cX6_leafOf 1 = .ok (.getfield 68, 3) := by decide +kernel
theorem dX6_leafOf_4 : decode cX6_leafOf 4 = .ok (.iload_n 1, 1) := by decide +kernel
theorem dX6_leafOf_5 : decode cX6_leafOf 5 = .ok (.iaload, 1) := by decide +kernel
theorem dX6_leafOf_6 : decode cX6_leafOf 6 = .ok (.istore 5, 2) := by decide +kernel
theorem dX6_leafOf_8 : decode cX6_leafOf 8 = .ok (.iload 5, 2) := by decide +kernel
theorem dX6_leafOf_10 : decode cX6_leafOf 10 = .ok (.ifCond .ge 10, 3) := by decide +kernel
theorem dX6_leafOf_13 : decode cX6_leafOf 13 = .ok (.aload_n 0, 1) := by decide +kernel
theorem dX6_leafOf_14 : decode cX6_leafOf 14 = .ok (.iconst 1, 1) := by decide +kernel
theorem dX6_leafOf_15 : decode cX6_leafOf 15 = .ok (.putfield 155, 3) := by decide +kernel
theorem dX6_leafOf_18 : decode cX6_leafOf 18 = .ok (.iconst (-1), 1) := by decide +kernel
theorem dX6_leafOf_19 : decode cX6_leafOf 19 = .ok (.ireturn, 1) := by decide +kernel
theorem dX6_leafOf_20 : decode cX6_leafOf 20 = .ok (.aload_n 0, 1) := by decide +kernel
theorem dX6_leafOf_21 : decode cX6_leafOf 21 = .ok (.iload 5, 2) := by decide +kernel
theorem dX6_leafOf_23 : decode cX6_leafOf 23 = .ok (.invokevirtual 158, 3) := by decide +kernel
theorem dX6_leafOf_26 : decode cX6_leafOf 26 = .ok (.lload_n 2, 1) := by decide +kernel
theorem dX6_leafOf_27 : decode cX6_leafOf 27 = .ok (.aload_n 0, 1) := by decide +kernel
theorem dX6_leafOf_28 : decode cX6_leafOf 28 = .ok (.getfield 7, 3) := by decide +kernel
theorem dX6_leafOf_31 : decode cX6_leafOf 31 = .ok (.iload 5, 2) := by decide +kernel
theorem dX6_leafOf_33 : decode cX6_leafOf 33 = .ok (.iaload, 1) := by decide +kernel
theorem dX6_leafOf_34 : decode cX6_leafOf 34 = .ok (.invokestatic 85, 3) := by decide +kernel
theorem dX6_leafOf_37 : decode cX6_leafOf 37 = .ok (.i2l, 1) := by decide +kernel
theorem dX6_leafOf_38 : decode cX6_leafOf 38 = .ok (.lcmp, 1) := by decide +kernel
theorem dX6_leafOf_39 : decode cX6_leafOf 39 = .ok (.ifCond .lt 10, 3) := by decide +kernel
theorem dX6_leafOf_42 : decode cX6_leafOf 42 = .ok (.aload_n 0, 1) := by decide +kernel
theorem dX6_leafOf_43 : decode cX6_leafOf 43 = .ok (.iconst 3, 1) := by decide +kernel
theorem dX6_leafOf_44 : decode cX6_leafOf 44 = .ok (.putfield 155, 3) := by decide +kernel
theorem dX6_leafOf_47 : decode cX6_leafOf 47 = .ok (.iconst (-1), 1) := by decide +kernel
theorem dX6_leafOf_48 : decode cX6_leafOf 48 = .ok (.ireturn, 1) := by decide +kernel
theorem dX6_leafOf_49 : decode cX6_leafOf 49 = .ok (.aload_n 0, 1) := by decide +kernel
theorem dX6_leafOf_50 : decode cX6_leafOf 50 = .ok (.getfield 7, 3) := by decide +kernel
theorem dX6_leafOf_53 : decode cX6_leafOf 53 = .ok (.iload 5, 2) := by decide +kernel
theorem dX6_leafOf_55 : decode cX6_leafOf 55 = .ok (.iaload, 1) := by decide +kernel
theorem dX6_leafOf_56 : decode cX6_leafOf 56 = .ok (.lload_n 2, 1) := by decide +kernel
theorem dX6_leafOf_57 : decode cX6_leafOf 57 = .ok (.l2i, 1) := by decide +kernel
theorem dX6_leafOf_58 : decode cX6_leafOf 58 = .ok (.invokestatic 89, 3) := by decide +kernel
theorem dX6_leafOf_61 : decode cX6_leafOf 61 = .ok (.iload 4, 2) := by decide +kernel
theorem dX6_leafOf_63 : decode cX6_leafOf 63 = .ok (.if_icmp .eq 10, 3) := by decide +kernel
theorem dX6_leafOf_66 : decode cX6_leafOf 66 = .ok (.aload_n 0, 1) := by decide +kernel
theorem dX6_leafOf_67 : decode cX6_leafOf 67 = .ok (.iconst 2, 1) := by decide +kernel
theorem dX6_leafOf_68 : decode cX6_leafOf 68 = .ok (.putfield 155, 3) := by decide +kernel
theorem dX6_leafOf_71 : decode cX6_leafOf 71 = .ok (.iconst (-1), 1) := by decide +kernel
theorem dX6_leafOf_72 : decode cX6_leafOf 72 = .ok (.ireturn, 1) := by decide +kernel
theorem dX6_leafOf_73 : decode cX6_leafOf 73 = .ok (.bipush 8, 2) := by decide +kernel
theorem dX6_leafOf_75 : decode cX6_leafOf 75 = .ok (.iload 5, 2) := by decide +kernel
theorem dX6_leafOf_77 : decode cX6_leafOf 77 = .ok (.imul, 1) := by decide +kernel
theorem dX6_leafOf_78 : decode cX6_leafOf 78 = .ok (.lload_n 2, 1) := by decide +kernel
theorem dX6_leafOf_79 : decode cX6_leafOf 79 = .ok (.l2i, 1) := by decide +kernel
theorem dX6_leafOf_80 : decode cX6_leafOf 80 = .ok (.iadd, 1) := by decide +kernel
theorem dX6_leafOf_81 : decode cX6_leafOf 81 = .ok (.ireturn, 1) := by decide +kernel
set_option maxRecDepth 20000 in
theorem ggX6_readLeaf_X6_leafOf : GoodIn wsX6_readLeaf wsX6_leafOf := goodIn_r _ [5, 6, 7, 8, 9, 10, 11, 4, 12, 13, 14, 15, 16, 17, 18, 19, 20, 21, 29, 30, 31, 32, 33, 34, 35, 36, 37, 38, 39, 40, 41, 42, 43, 44, 45, 46, 47, 48, 49, 50, 51, 52, 53, 54, 55, 56, 57, 58] (by decide +kernel) (by decide +kernel)
set_option maxRecDepth 20000 in
theorem gX6_readLeaf_X6_leafOf : GoodIn wsX6_readLeaf (wsV RX6 162 RX6 yX6_leafOf wsX6_leafOf) := goodIn_app (goodIn_of _ (by decide +kernel)) ggX6_readLeaf_X6_leafOf
set_option maxRecDepth 20000 in
theorem ggX6_readLeaf_X6_touch : GoodIn wsX6_readLeaf wsX6_touch := goodIn_r _ [25, 26, 27, 28, 29, 30, 31, 32, 33, 34, 35, 36, 37, 38, 39, 40, 41, 42, 43, 44, 45, 46, 47, 48, 49, 50, 51, 52, 53, 54, 55, 56, 57, 58] (by decide +kernel) (by decide +kernel)
set_option maxRecDepth 20000 in
theorem gX6_readLeaf_X6_touch : GoodIn wsX6_readLeaf (wsV RX6 166 RX6 yX6_touch wsX6_touch) := goodIn_app (goodIn_of _ (by decide +kernel)) ggX6_readLeaf_X6_touch
theorem dX6_readLeaf_0 : decode cX6_readLeaf 0 = .ok (.aload_n 0, 1) := by decide +kernel
theorem dX6_readLeaf_1 : decode cX6_readLeaf 1 = .ok (.iload_n 1, 1) := by decide +kernel
theorem dX6_readLeaf_2 : decode cX6_readLeaf 2 = .ok (.lload_n 2, 1) := by decide +kernel
theorem dX6_readLeaf_3 : decode cX6_readLeaf 3 = .ok (.iload 4, 2) := by decide +kernel
theorem dX6_readLeaf_5 : decode cX6_readLeaf 5 = .ok (.invokevirtual 162, 3) := by decide +kernel
theorem dX6_readLeaf_8 : decode cX6_readLeaf 8 = .ok (.istore 5, 2) := by decide +kernel
theorem dX6_readLeaf_10 : decode cX6_readLeaf 10 = .ok (.iload 5, 2) := by decide +kernel
theorem dX6_readLeaf_12 : decode cX6_readLeaf 12 = .ok (.ifCond .lt 10, 3) := by decide +kernel
theorem dX6_readLeaf_15 : decode cX6_readLeaf 15 = .ok (.aload_n 0, 1) := by decide +kernel
theorem dX6_readLeaf_16 : decode cX6_readLeaf 16 = .ok (.iload 5, 2) := by decide +kernel
theorem dX6_readLeaf_18 : decode cX6_readLeaf 18 = .ok (.iconst 0, 1) := by decide +kernel
theorem dX6_readLeaf_19 : decode cX6_readLeaf 19 = .ok (.invokevirtual 166, 3) := by decide +kernel
theorem dX6_readLeaf_22 : decode cX6_readLeaf 22 = .ok (.iload 5, 2) := by decide +kernel
theorem dX6_readLeaf_24 : decode cX6_readLeaf 24 = .ok (.ireturn, 1) := by decide +kernel
theorem dX6_at_0 : decode cX6_at 0 = .ok (.sipush 7872, 3) := by decide +kernel
theorem dX6_at_3 : decode cX6_at 3 = .ok (.iload_n 0, 1) := by decide +kernel
theorem dX6_at_4 : decode cX6_at 4 = .ok (.iadd, 1) := by decide +kernel
theorem dX6_at_5 : decode cX6_at 5 = .ok (.ireturn, 1) := by decide +kernel
set_option maxRecDepth 20000 in
theorem ggX6_itemOf_X6_at : GoodIn wsX6_itemOf wsX6_at := goodIn_r _ [6] (by decide +kernel) (by decide +kernel)
set_option maxRecDepth 20000 in
theorem gX6_itemOf_X6_at : GoodIn wsX6_itemOf (va_wsS RX6 169 yX6_at wsX6_at) := goodIn_app (goodIn_of _ (by decide +kernel)) ggX6_itemOf_X6_at
set_option maxRecDepth 20000 in
theorem ggX6_itemOf_X6_in : GoodIn wsX6_itemOf wsX6_in := goodIn_r _ [9] (by decide +kernel) (by decide +kernel)
set_option maxRecDepth 20000 in
theorem gX6_itemOf_X6_in : GoodIn wsX6_itemOf (va_wsS RX6 77 yX6_in wsX6_in) := goodIn_app (goodIn_of _ (by decide +kernel)) ggX6_itemOf_X6_in
theorem dX6_itemOf_0 : decode cX6_itemOf 0 = .ok (.iload_n 1, 1) := by decide +kernel
theorem dX6_itemOf_1 : decode cX6_itemOf 1 = .ok (.ifCond .ge 5, 3) := by decide +kernel
theorem dX6_itemOf_4 : decode cX6_itemOf 4 = .ok (.iconst (-1), 1) := by decide +kernel
theorem dX6_itemOf_5 : decode cX6_itemOf 5 = .ok (.ireturn, 1) := by decide +kernel
theorem dX6_itemOf_6 : decode cX6_itemOf 6 = .ok (.aload_n 0, 1) := by decide +kernel
theorem dX6_itemOf_7 : decode cX6_itemOf 7 = .ok (.getfield 17, 3) := by decide +kernel
theorem dX6_itemOf_10 : decode cX6_itemOf 10 = .ok (.iload_n 1, 1) := by decide +kernel
theorem dX6_itemOf_11 : decode cX6_itemOf 11 = .ok (.invokestatic 169, 3) := by decide +kernel
theorem dX6_itemOf_14 : decode cX6_itemOf 14 = .ok (.iaload, 1) := by decide +kernel
theorem dX6_itemOf_15 : decode cX6_itemOf 15 = .ok (.bipush (-3), 2) := by decide +kernel
theorem dX6_itemOf_17 : decode cX6_itemOf 17 = .ok (.if_icmp .ne 10, 3) := by decide +kernel
theorem dX6_itemOf_20 : decode cX6_itemOf 20 = .ok (.aload_n 0, 1) := by decide +kernel
theorem dX6_itemOf_21 : decode cX6_itemOf 21 = .ok (.iconst 1, 1) := by decide +kernel
theorem dX6_itemOf_22 : decode cX6_itemOf 22 = .ok (.putfield 155, 3) := by decide +kernel
theorem dX6_itemOf_25 : decode cX6_itemOf 25 = .ok (.iconst (-1), 1) := by decide +kernel
theorem dX6_itemOf_26 : decode cX6_itemOf 26 = .ok (.ireturn, 1) := by decide +kernel
theorem dX6_itemOf_27 : decode cX6_itemOf 27 = .ok (.lload_n 2, 1) := by decide +kernel
theorem dX6_itemOf_28 : decode cX6_itemOf 28 = .ok (.lconst 0, 1) := by decide +kernel
theorem dX6_itemOf_29 : decode cX6_itemOf 29 = .ok (.aload_n 0, 1) := by decide +kernel
theorem dX6_itemOf_30 : decode cX6_itemOf 30 = .ok (.getfield 17, 3) := by decide +kernel
theorem dX6_itemOf_33 : decode cX6_itemOf 33 = .ok (.iload_n 1, 1) := by decide +kernel
theorem dX6_itemOf_34 : decode cX6_itemOf 34 = .ok (.invokestatic 169, 3) := by decide +kernel
theorem dX6_itemOf_37 : decode cX6_itemOf 37 = .ok (.iaload, 1) := by decide +kernel
theorem dX6_itemOf_38 : decode cX6_itemOf 38 = .ok (.i2l, 1) := by decide +kernel
theorem dX6_itemOf_39 : decode cX6_itemOf 39 = .ok (.lconst 1, 1) := by decide +kernel
theorem dX6_itemOf_40 : decode cX6_itemOf 40 = .ok (.lsub, 1) := by decide +kernel
theorem dX6_itemOf_41 : decode cX6_itemOf 41 = .ok (.invokestatic 77, 3) := by decide +kernel
theorem dX6_itemOf_44 : decode cX6_itemOf 44 = .ok (.ifCond .ne 10, 3) := by decide +kernel
theorem dX6_itemOf_47 : decode cX6_itemOf 47 = .ok (.aload_n 0, 1) := by decide +kernel
theorem dX6_itemOf_48 : decode cX6_itemOf 48 = .ok (.iconst 3, 1) := by decide +kernel
theorem dX6_itemOf_49 : decode cX6_itemOf 49 = .ok (.putfield 155, 3) := by decide +kernel
theorem dX6_itemOf_52 : decode cX6_itemOf 52 = .ok (.iconst (-1), 1) := by decide +kernel
theorem dX6_itemOf_53 : decode cX6_itemOf 53 = .ok (.ireturn, 1) := by decide +kernel
theorem dX6_itemOf_54 : decode cX6_itemOf 54 = .ok (.bipush 8, 2) := by decide +kernel
theorem dX6_itemOf_56 : decode cX6_itemOf 56 = .ok (.iload_n 1, 1) := by decide +kernel
theorem dX6_itemOf_57 : decode cX6_itemOf 57 = .ok (.invokestatic 169, 3) := by decide +kernel
theorem dX6_itemOf_60 : decode cX6_itemOf 60 = .ok (.imul, 1) := by decide +kernel
theorem dX6_itemOf_61 : decode cX6_itemOf 61 = .ok (.lload_n 2, 1) := by decide +kernel
theorem dX6_itemOf_62 : decode cX6_itemOf 62 = .ok (.l2i, 1) := by decide +kernel
theorem dX6_itemOf_63 : decode cX6_itemOf 63 = .ok (.iadd, 1) := by decide +kernel
theorem dX6_itemOf_64 : decode cX6_itemOf 64 = .ok (.ireturn, 1) := by decide +kernel
set_option maxRecDepth 20000 in
theorem ggX6_rowActs_X6_readLeaf : GoodIn wsX6_rowActs wsX6_readLeaf := goodIn_r _ [15, 16, 17, 18, 14, 19, 20, 9, 21, 22, 23, 24, 25, 26, 27, 28, 29, 30, 31, 32, 33, 34, 35, 36, 37, 38, 39, 40, 41, 61, 62, 63, 64, 65, 66, 67, 68, 69, 70, 71, 72, 73, 74, 75, 76, 77, 78, 79, 80, 81, 82, 83, 84, 85, 86, 87, 88, 89, 90] (by decide +kernel) (by decide +kernel)
set_option maxRecDepth 20000 in
theorem gX6_rowActs_X6_readLeaf : GoodIn wsX6_rowActs (wsV RX6 172 RX6 yX6_readLeaf wsX6_readLeaf) := goodIn_app (goodIn_of _ (by decide +kernel)) ggX6_rowActs_X6_readLeaf
set_option maxRecDepth 20000 in
theorem ggX6_rowActs_X6_itemOf : GoodIn wsX6_rowActs wsX6_itemOf := goodIn_r _ [45, 46, 9, 47, 48, 14, 49, 50, 51, 52, 61, 62, 63, 64, 65, 66, 67, 68, 69, 70, 71, 72, 73, 74, 75, 76, 77, 78, 79, 80, 81, 82, 83, 84, 85, 86, 87, 88, 89, 90] (by decide +kernel) (by decide +kernel)
set_option maxRecDepth 20000 in
theorem gX6_rowActs_X6_itemOf : GoodIn wsX6_rowActs (wsV RX6 175 RX6 yX6_itemOf wsX6_itemOf) := goodIn_app (goodIn_of _ (by decide +kernel)) ggX6_rowActs_X6_itemOf
set_option maxRecDepth 20000 in
theorem ggX6_rowActs_X6_touch : GoodIn wsX6_rowActs wsX6_touch := goodIn_r _ [38, 39, 40, 41, 61, 62, 63, 64, 65, 66, 67, 68, 69, 70, 71, 72, 73, 74, 75, 76, 77, 78, 79, 80, 81, 82, 83, 84, 85, 86, 87, 88, 89, 90] (by decide +kernel) (by decide +kernel)
set_option maxRecDepth 20000 in
theorem gX6_rowActs_X6_touch : GoodIn wsX6_rowActs (wsV RX6 166 RX6 yX6_touch wsX6_touch) := goodIn_app (goodIn_of _ (by decide +kernel)) ggX6_rowActs_X6_touch
set_option maxRecDepth 20000 in
theorem ggX6_rowActs_X6_leafOf : GoodIn wsX6_rowActs wsX6_leafOf := goodIn_r _ [19, 20, 9, 21, 22, 23, 24, 14, 25, 26, 27, 28, 29, 30, 31, 32, 33, 34, 61, 62, 63, 64, 65, 66, 67, 68, 69, 70, 71, 72, 73, 74, 75, 76, 77, 78, 79, 80, 81, 82, 83, 84, 85, 86, 87, 88, 89, 90] (by decide +kernel) (by decide +kernel)
set_option maxRecDepth 20000 in
theorem gX6_rowActs_X6_leafOf : GoodIn wsX6_rowActs (wsV RX6 162 RX6 yX6_leafOf wsX6_leafOf) := goodIn_app (goodIn_of _ (by decide +kernel)) ggX6_rowActs_X6_leafOf
set_option maxRecDepth 20000 in
theorem ggX6_rowActs_X6_newRow : GoodIn wsX6_rowActs wsX6_newRow := goodIn_r _ [56, 46, 7, 61, 62, 63, 64, 65, 66, 67, 68, 69, 70, 71, 72, 73, 74, 75, 76, 77, 78, 79, 80, 81, 82, 83, 84, 85, 86, 87, 88, 89, 90] (by decide +kernel) (by decide +kernel)
set_option maxRecDepth 20000 in
theorem gX6_rowActs_X6_newRow : GoodIn wsX6_rowActs (wsV RX6 127 RX6 yX6_newRow wsX6_newRow) := goodIn_app (goodIn_of _ (by decide +kernel)) ggX6_rowActs_X6_newRow
set_option maxRecDepth 20000 in
theorem ggX6_rowActs_X6_shift : GoodIn wsX6_rowActs wsX6_shift := goodIn_r _ [60, 46, 9, 7, 11, 12, 13, 14, 15, 16, 17, 18, 19, 20, 21, 22, 23, 24, 25, 26, 27, 28, 29, 30, 31, 32, 33, 34, 35, 36, 37, 38, 39, 40, 41, 47, 48, 49, 61, 62, 63, 64, 65, 66, 67, 68, 69, 70, 71, 72, 73, 74, 75, 76, 77, 78, 79, 80, 81, 82, 83, 84, 85, 86, 87, 88, 89, 90] (by decide +kernel) (by decide +kernel)
set_option maxRecDepth 20000 in
theorem gX6_rowActs_X6_shift : GoodIn wsX6_rowActs (wsV RX6 179 RX6 yX6_shift wsX6_shift) := goodIn_app (goodIn_of _ (by decide +kernel)) ggX6_rowActs_X6_shift
theorem dX6_rowActs_0 : decode cX6_rowActs 0 = .ok (.aload_n 0, 1) := by decide +kernel
theorem dX6_rowActs_1 : decode cX6_rowActs 1 = .ok (.getfield 37, 3) := by decide +kernel
theorem dX6_rowActs_4 : decode cX6_rowActs 4 = .ok (.iload_n 1, 1) := by decide +kernel
theorem dX6_rowActs_5 : decode cX6_rowActs 5 = .ok (.iaload, 1) := by decide +kernel
theorem dX6_rowActs_6 : decode cX6_rowActs 6 = .ok (.istore_n 2, 1) := by decide +kernel
theorem dX6_rowActs_7 : decode cX6_rowActs 7 = .ok (.aload_n 0, 1) := by decide +kernel
theorem dX6_rowActs_8 : decode cX6_rowActs 8 = .ok (.getfield 40, 3) := by decide +kernel
theorem dX6_rowActs_11 : decode cX6_rowActs 11 = .ok (.iload_n 1, 1) := by decide +kernel
theorem dX6_rowActs_12 : decode cX6_rowActs 12 = .ok (.laload, 1) := by decide +kernel
theorem dX6_rowActs_13 : decode cX6_rowActs 13 = .ok (.lstore_n 3, 1) := by decide +kernel
theorem dX6_rowActs_14 : decode cX6_rowActs 14 = .ok (.aload_n 0, 1) := by decide +kernel
theorem dX6_rowActs_15 : decode cX6_rowActs 15 = .ok (.getfield 43, 3) := by decide +kernel
theorem dX6_rowActs_18 : decode cX6_rowActs 18 = .ok (.iload_n 1, 1) := by decide +kernel
theorem dX6_rowActs_19 : decode cX6_rowActs 19 = .ok (.iaload, 1) := by decide +kernel
theorem dX6_rowActs_20 : decode cX6_rowActs 20 = .ok (.istore 5, 2) := by decide +kernel
theorem dX6_rowActs_22 : decode cX6_rowActs 22 = .ok (.aload_n 0, 1) := by decide +kernel
theorem dX6_rowActs_23 : decode cX6_rowActs 23 = .ok (.getfield 46, 3) := by decide +kernel
theorem dX6_rowActs_26 : decode cX6_rowActs 26 = .ok (.iload_n 1, 1) := by decide +kernel
theorem dX6_rowActs_27 : decode cX6_rowActs 27 = .ok (.iaload, 1) := by decide +kernel
theorem dX6_rowActs_28 : decode cX6_rowActs 28 = .ok (.istore 6, 2) := by decide +kernel
theorem dX6_rowActs_30 : decode cX6_rowActs 30 = .ok (.aload_n 0, 1) := by decide +kernel
theorem dX6_rowActs_31 : decode cX6_rowActs 31 = .ok (.getfield 34, 3) := by decide +kernel
theorem dX6_rowActs_34 : decode cX6_rowActs 34 = .ok (.iload_n 1, 1) := by decide +kernel
theorem dX6_rowActs_35 : decode cX6_rowActs 35 = .ok (.iaload, 1) := by decide +kernel
theorem dX6_rowActs_36 : decode cX6_rowActs 36 = .ok (.bipush 8, 2) := by decide +kernel
theorem dX6_rowActs_38 : decode cX6_rowActs 38 = .ok (.if_icmp .ne 57, 3) := by decide +kernel
theorem dX6_rowActs_41 : decode cX6_rowActs 41 = .ok (.aload_n 0, 1) := by decide +kernel
theorem dX6_rowActs_42 : decode cX6_rowActs 42 = .ok (.aload_n 0, 1) := by decide +kernel
theorem dX6_rowActs_43 : decode cX6_rowActs 43 = .ok (.lload_n 3, 1) := by decide +kernel
theorem dX6_rowActs_44 : decode cX6_rowActs 44 = .ok (.l2i, 1) := by decide +kernel
theorem dX6_rowActs_45 : decode cX6_rowActs 45 = .ok (.iload 5, 2) := by decide +kernel
theorem dX6_rowActs_47 : decode cX6_rowActs 47 = .ok (.i2l, 1) := by decide +kernel
theorem dX6_rowActs_48 : decode cX6_rowActs 48 = .ok (.iconst 2, 1) := by decide +kernel
theorem dX6_rowActs_49 : decode cX6_rowActs 49 = .ok (.invokevirtual 172, 3) := by decide +kernel
theorem dX6_rowActs_52 : decode cX6_rowActs 52 = .ok (.aload_n 0, 1) := by decide +kernel
theorem dX6_rowActs_53 : decode cX6_rowActs 53 = .ok (.getfield 71, 3) := by decide +kernel
theorem dX6_rowActs_56 : decode cX6_rowActs 56 = .ok (.iload 6, 2) := by decide +kernel
theorem dX6_rowActs_58 : decode cX6_rowActs 58 = .ok (.laload, 1) := by decide +kernel
theorem dX6_rowActs_59 : decode cX6_rowActs 59 = .ok (.invokevirtual 175, 3) := by decide +kernel
theorem dX6_rowActs_62 : decode cX6_rowActs 62 = .ok (.istore 7, 2) := by decide +kernel
theorem dX6_rowActs_64 : decode cX6_rowActs 64 = .ok (.aload_n 0, 1) := by decide +kernel
theorem dX6_rowActs_65 : decode cX6_rowActs 65 = .ok (.getfield 71, 3) := by decide +kernel
theorem dX6_rowActs_68 : decode cX6_rowActs 68 = .ok (.iload_n 2, 1) := by decide +kernel
theorem dX6_rowActs_69 : decode cX6_rowActs 69 = .ok (.iload 7, 2) := by decide +kernel
theorem dX6_rowActs_71 : decode cX6_rowActs 71 = .ok (.ifCond .ge 12, 3) := by decide +kernel
theorem dX6_rowActs_74 : decode cX6_rowActs 74 = .ok (.aload_n 0, 1) := by decide +kernel
theorem dX6_rowActs_75 : decode cX6_rowActs 75 = .ok (.getfield 71, 3) := by decide +kernel
theorem dX6_rowActs_78 : decode cX6_rowActs 78 = .ok (.iload_n 2, 1) := by decide +kernel
theorem dX6_rowActs_79 : decode cX6_rowActs 79 = .ok (.laload, 1) := by decide +kernel
theorem dX6_rowActs_80 : decode cX6_rowActs 80 = .ok (.goto 11, 3) := by decide +kernel
theorem dX6_rowActs_83 : decode cX6_rowActs 83 = .ok (.aload_n 0, 1) := by decide +kernel
theorem dX6_rowActs_84 : decode cX6_rowActs 84 = .ok (.getfield 21, 3) := by decide +kernel
theorem dX6_rowActs_87 : decode cX6_rowActs 87 = .ok (.iload 7, 2) := by decide +kernel
theorem dX6_rowActs_89 : decode cX6_rowActs 89 = .ok (.iaload, 1) := by decide +kernel
theorem dX6_rowActs_90 : decode cX6_rowActs 90 = .ok (.i2l, 1) := by decide +kernel
theorem dX6_rowActs_91 : decode cX6_rowActs 91 = .ok (.lastore, 1) := by decide +kernel
theorem dX6_rowActs_92 : decode cX6_rowActs 92 = .ok (.goto 179, 3) := by decide +kernel
theorem dX6_rowActs_95 : decode cX6_rowActs 95 = .ok (.aload_n 0, 1) := by decide +kernel
theorem dX6_rowActs_96 : decode cX6_rowActs 96 = .ok (.getfield 34, 3) := by decide +kernel
theorem dX6_rowActs_99 : decode cX6_rowActs 99 = .ok (.iload_n 1, 1) := by decide +kernel
theorem dX6_rowActs_100 : decode cX6_rowActs 100 = .ok (.iaload, 1) := by decide +kernel
theorem dX6_rowActs_101 : decode cX6_rowActs 101 = .ok (.bipush 9, 2) := by decide +kernel
theorem dX6_rowActs_103 : decode cX6_rowActs 103 = .ok (.if_icmp .ne 57, 3) := by decide +kernel
theorem dX6_rowActs_106 : decode cX6_rowActs 106 = .ok (.aload_n 0, 1) := by decide +kernel
theorem dX6_rowActs_107 : decode cX6_rowActs 107 = .ok (.iload_n 2, 1) := by decide +kernel
theorem dX6_rowActs_108 : decode cX6_rowActs 108 = .ok (.lload_n 3, 1) := by decide +kernel
theorem dX6_rowActs_109 : decode cX6_rowActs 109 = .ok (.iconst 2, 1) := by decide +kernel
theorem dX6_rowActs_110 : decode cX6_rowActs 110 = .ok (.invokevirtual 172, 3) := by decide +kernel
theorem dX6_rowActs_113 : decode cX6_rowActs 113 = .ok (.istore 7, 2) := by decide +kernel
theorem dX6_rowActs_115 : decode cX6_rowActs 115 = .ok (.aload_n 0, 1) := by decide +kernel
theorem dX6_rowActs_116 : decode cX6_rowActs 116 = .ok (.iload 7, 2) := by decide +kernel
theorem dX6_rowActs_118 : decode cX6_rowActs 118 = .ok (.aload_n 0, 1) := by decide +kernel
theorem dX6_rowActs_119 : decode cX6_rowActs 119 = .ok (.getfield 71, 3) := by decide +kernel
theorem dX6_rowActs_122 : decode cX6_rowActs 122 = .ok (.iload 5, 2) := by decide +kernel
theorem dX6_rowActs_124 : decode cX6_rowActs 124 = .ok (.laload, 1) := by decide +kernel
theorem dX6_rowActs_125 : decode cX6_rowActs 125 = .ok (.invokevirtual 175, 3) := by decide +kernel
theorem dX6_rowActs_128 : decode cX6_rowActs 128 = .ok (.istore 8, 2) := by decide +kernel
theorem dX6_rowActs_130 : decode cX6_rowActs 130 = .ok (.iload 8, 2) := by decide +kernel
theorem dX6_rowActs_132 : decode cX6_rowActs 132 = .ok (.ifCond .lt 25, 3) := by decide +kernel
theorem dX6_rowActs_135 : decode cX6_rowActs 135 = .ok (.aload_n 0, 1) := by decide +kernel
theorem dX6_rowActs_136 : decode cX6_rowActs 136 = .ok (.getfield 21, 3) := by decide +kernel
theorem dX6_rowActs_139 : decode cX6_rowActs 139 = .ok (.iload 8, 2) := by decide +kernel
theorem dX6_rowActs_141 : decode cX6_rowActs 141 = .ok (.aload_n 0, 1) := by decide +kernel
theorem dX6_rowActs_142 : decode cX6_rowActs 142 = .ok (.getfield 71, 3) := by decide +kernel
theorem dX6_rowActs_145 : decode cX6_rowActs 145 = .ok (.iload 6, 2) := by decide +kernel
theorem dX6_rowActs_147 : decode cX6_rowActs 147 = .ok (.laload, 1) := by decide +kernel
theorem dX6_rowActs_148 : decode cX6_rowActs 148 = .ok (.l2i, 1) := by decide +kernel
theorem dX6_rowActs_149 : decode cX6_rowActs 149 = .ok (.iastore, 1) := by decide +kernel
theorem dX6_rowActs_150 : decode cX6_rowActs 150 = .ok (.aload_n 0, 1) := by decide +kernel
theorem dX6_rowActs_151 : decode cX6_rowActs 151 = .ok (.iload 7, 2) := by decide +kernel
theorem dX6_rowActs_153 : decode cX6_rowActs 153 = .ok (.iconst 1, 1) := by decide +kernel
theorem dX6_rowActs_154 : decode cX6_rowActs 154 = .ok (.invokevirtual 166, 3) := by decide +kernel
theorem dX6_rowActs_157 : decode cX6_rowActs 157 = .ok (.goto 114, 3) := by decide +kernel
theorem dX6_rowActs_160 : decode cX6_rowActs 160 = .ok (.aload_n 0, 1) := by decide +kernel
theorem dX6_rowActs_161 : decode cX6_rowActs 161 = .ok (.getfield 34, 3) := by decide +kernel
theorem dX6_rowActs_164 : decode cX6_rowActs 164 = .ok (.iload_n 1, 1) := by decide +kernel
theorem dX6_rowActs_165 : decode cX6_rowActs 165 = .ok (.iaload, 1) := by decide +kernel
theorem dX6_rowActs_166 : decode cX6_rowActs 166 = .ok (.bipush 10, 2) := by decide +kernel
theorem dX6_rowActs_168 : decode cX6_rowActs 168 = .ok (.if_icmp .ne 82, 3) := by decide +kernel
theorem dX6_rowActs_171 : decode cX6_rowActs 171 = .ok (.aload_n 0, 1) := by decide +kernel
theorem dX6_rowActs_172 : decode cX6_rowActs 172 = .ok (.iload_n 2, 1) := by decide +kernel
theorem dX6_rowActs_173 : decode cX6_rowActs 173 = .ok (.lload_n 3, 1) := by decide +kernel
theorem dX6_rowActs_174 : decode cX6_rowActs 174 = .ok (.iconst 2, 1) := by decide +kernel
theorem dX6_rowActs_175 : decode cX6_rowActs 175 = .ok (.invokevirtual 162, 3) := by decide +kernel
theorem dX6_rowActs_178 : decode cX6_rowActs 178 = .ok (.istore 7, 2) := by decide +kernel
theorem dX6_rowActs_180 : decode cX6_rowActs 180 = .ok (.aload_n 0, 1) := by decide +kernel
theorem dX6_rowActs_181 : decode cX6_rowActs 181 = .ok (.getfield 71, 3) := by decide +kernel
theorem dX6_rowActs_184 : decode cX6_rowActs 184 = .ok (.iload 5, 2) := by decide +kernel
theorem dX6_rowActs_186 : decode cX6_rowActs 186 = .ok (.laload, 1) := by decide +kernel
theorem dX6_rowActs_187 : decode cX6_rowActs 187 = .ok (.lstore 8, 2) := by decide +kernel
theorem dX6_rowActs_189 : decode cX6_rowActs 189 = .ok (.iload 7, 2) := by decide +kernel
theorem dX6_rowActs_191 : decode cX6_rowActs 191 = .ok (.ifCond .lt 33, 3) := by decide +kernel
theorem dX6_rowActs_194 : decode cX6_rowActs 194 = .ok (.aload_n 0, 1) := by decide +kernel
theorem dX6_rowActs_195 : decode cX6_rowActs 195 = .ok (.lload 8, 2) := by decide +kernel
theorem dX6_rowActs_197 : decode cX6_rowActs 197 = .ok (.lconst 0, 1) := by decide +kernel
theorem dX6_rowActs_198 : decode cX6_rowActs 198 = .ok (.lcmp, 1) := by decide +kernel
theorem dX6_rowActs_199 : decode cX6_rowActs 199 = .ok (.ifCond .ge 7, 3) := by decide +kernel
theorem dX6_rowActs_202 : decode cX6_rowActs 202 = .ok (.iconst 4, 1) := by decide +kernel
theorem dX6_rowActs_203 : decode cX6_rowActs 203 = .ok (.goto 18, 3) := by decide +kernel
theorem dX6_rowActs_206 : decode cX6_rowActs 206 = .ok (.lload 8, 2) := by decide +kernel
theorem dX6_rowActs_208 : decode cX6_rowActs 208 = .ok (.ldc2_w 125, 3) := by decide +kernel
theorem dX6_rowActs_211 : decode cX6_rowActs 211 = .ok (.lcmp, 1) := by decide +kernel
theorem dX6_rowActs_212 : decode cX6_rowActs 212 = .ok (.ifCond .le 8, 3) := by decide +kernel
theorem dX6_rowActs_215 : decode cX6_rowActs 215 = .ok (.bipush 8, 2) := by decide +kernel
theorem dX6_rowActs_217 : decode cX6_rowActs 217 = .ok (.goto 4, 3) := by decide +kernel
theorem dX6_rowActs_220 : decode cX6_rowActs 220 = .ok (.iconst 0, 1) := by decide +kernel
theorem dX6_rowActs_221 : decode cX6_rowActs 221 = .ok (.putfield 155, 3) := by decide +kernel
theorem dX6_rowActs_224 : decode cX6_rowActs 224 = .ok (.aload_n 0, 1) := by decide +kernel
theorem dX6_rowActs_225 : decode cX6_rowActs 225 = .ok (.getfield 155, 3) := by decide +kernel
theorem dX6_rowActs_228 : decode cX6_rowActs 228 = .ok (.ifCond .ne 19, 3) := by decide +kernel
theorem dX6_rowActs_231 : decode cX6_rowActs 231 = .ok (.aload_n 0, 1) := by decide +kernel
theorem dX6_rowActs_232 : decode cX6_rowActs 232 = .ok (.iload 7, 2) := by decide +kernel
theorem dX6_rowActs_234 : decode cX6_rowActs 234 = .ok (.lload 8, 2) := by decide +kernel
theorem dX6_rowActs_236 : decode cX6_rowActs 236 = .ok (.l2i, 1) := by decide +kernel
theorem dX6_rowActs_237 : decode cX6_rowActs 237 = .ok (.invokevirtual 127, 3) := by decide +kernel
theorem dX6_rowActs_240 : decode cX6_rowActs 240 = .ok (.aload_n 0, 1) := by decide +kernel
theorem dX6_rowActs_241 : decode cX6_rowActs 241 = .ok (.iload 7, 2) := by decide +kernel
theorem dX6_rowActs_243 : decode cX6_rowActs 243 = .ok (.iconst 1, 1) := by decide +kernel
theorem dX6_rowActs_244 : decode cX6_rowActs 244 = .ok (.invokevirtual 166, 3) := by decide +kernel
theorem dX6_rowActs_247 : decode cX6_rowActs 247 = .ok (.goto 24, 3) := by decide +kernel
theorem dX6_rowActs_250 : decode cX6_rowActs 250 = .ok (.aload_n 0, 1) := by decide +kernel
theorem dX6_rowActs_251 : decode cX6_rowActs 251 = .ok (.iload_n 2, 1) := by decide +kernel
theorem dX6_rowActs_252 : decode cX6_rowActs 252 = .ok (.lload_n 3, 1) := by decide +kernel
theorem dX6_rowActs_253 : decode cX6_rowActs 253 = .ok (.iload 5, 2) := by decide +kernel
theorem dX6_rowActs_255 : decode cX6_rowActs 255 = .ok (.iload 6, 2) := by decide +kernel
theorem dX6_rowActs_257 : decode cX6_rowActs 257 = .ok (.aload_n 0, 1) := by decide +kernel
theorem dX6_rowActs_258 : decode cX6_rowActs 258 = .ok (.getfield 71, 3) := by decide +kernel
theorem dX6_rowActs_261 : decode cX6_rowActs 261 = .ok (.aload_n 0, 1) := by decide +kernel
theorem dX6_rowActs_262 : decode cX6_rowActs 262 = .ok (.getfield 49, 3) := by decide +kernel
theorem dX6_rowActs_265 : decode cX6_rowActs 265 = .ok (.iload_n 1, 1) := by decide +kernel
theorem dX6_rowActs_266 : decode cX6_rowActs 266 = .ok (.iaload, 1) := by decide +kernel
theorem dX6_rowActs_267 : decode cX6_rowActs 267 = .ok (.laload, 1) := by decide +kernel
theorem dX6_rowActs_268 : decode cX6_rowActs 268 = .ok (.invokevirtual 179, 3) := by decide +kernel
theorem dX6_rowActs_271 : decode cX6_rowActs 271 = .ok (.return_, 1) := by decide +kernel
set_option maxRecDepth 20000 in
theorem ggX6_shift_X6_readLeaf : GoodIn wsX6_shift wsX6_readLeaf := goodIn_r _ [8, 9, 10, 11, 7, 12, 13, 2, 14, 15, 16, 17, 18, 19, 20, 21, 22, 23, 24, 25, 26, 27, 28, 29, 30, 31, 32, 33, 34, 38, 39, 40, 41, 42, 43, 44, 45, 46, 47, 48, 49, 50, 51, 52, 53, 54, 55, 56, 57, 58, 59, 60, 61, 62, 63, 64, 65, 66, 67] (by decide +kernel) (by decide +kernel)
set_option maxRecDepth 20000 in
theorem gX6_shift_X6_readLeaf : GoodIn wsX6_shift (wsV RX6 172 RX6 yX6_readLeaf wsX6_readLeaf) := goodIn_app (goodIn_of _ (by decide +kernel)) ggX6_shift_X6_readLeaf
set_option maxRecDepth 20000 in
theorem ggX6_shift_X6_at : GoodIn wsX6_shift wsX6_at := goodIn_r _ [37] (by decide +kernel) (by decide +kernel)
set_option maxRecDepth 20000 in
theorem gX6_shift_X6_at : GoodIn wsX6_shift (va_wsS RX6 169 yX6_at wsX6_at) := goodIn_app (goodIn_of _ (by decide +kernel)) ggX6_shift_X6_at
set_option maxRecDepth 20000 in
theorem ggX6_shift_X6_touch : GoodIn wsX6_shift wsX6_touch := goodIn_r _ [31, 32, 33, 34, 38, 39, 40, 41, 42, 43, 44, 45, 46, 47, 48, 49, 50, 51, 52, 53, 54, 55, 56, 57, 58, 59, 60, 61, 62, 63, 64, 65, 66, 67] (by decide +kernel) (by decide +kernel)
set_option maxRecDepth 20000 in
theorem gX6_shift_X6_touch : GoodIn wsX6_shift (wsV RX6 166 RX6 yX6_touch wsX6_touch) := goodIn_app (goodIn_of _ (by decide +kernel)) ggX6_shift_X6_touch
theorem dX6_shift_0 : decode cX6_shift 0 = .ok (.aload_n 0, 1) := by decide +kernel
theorem dX6_shift_1 : decode cX6_shift 1 = .ok (.iload_n 1, 1) := by decide +kernel
theorem dX6_shift_2 : decode cX6_shift 2 = .ok (.lload_n 2, 1) := by decide +kernel
theorem dX6_shift_3 : decode cX6_shift 3 = .ok (.iconst 2, 1) := by decide +kernel
theorem dX6_shift_4 : decode cX6_shift 4 = .ok (.invokevirtual 172, 3) := by decide +kernel
theorem dX6_shift_7 : decode cX6_shift 7 = .ok (.istore 8, 2) := by decide +kernel
theorem dX6_shift_9 : decode cX6_shift 9 = .ok (.iload 8, 2) := by decide +kernel
theorem dX6_shift_11 : decode cX6_shift 11 = .ok (.ifCond .ge 7, 3) := by decide +kernel
theorem dX6_shift_14 : decode cX6_shift 14 = .ok (.iconst (-1), 1) := by decide +kernel
theorem dX6_shift_15 : decode cX6_shift 15 = .ok (.goto 13, 3) := by decide +kernel
theorem dX6_shift_18 : decode cX6_shift 18 = .ok (.aload_n 0, 1) := by decide +kernel
theorem dX6_shift_19 : decode cX6_shift 19 = .ok (.iload 4, 2) := by decide +kernel
theorem dX6_shift_21 : decode cX6_shift 21 = .ok (.iload 5, 2) := by decide +kernel
theorem dX6_shift_23 : decode cX6_shift 23 = .ok (.i2l, 1) := by decide +kernel
theorem dX6_shift_24 : decode cX6_shift 24 = .ok (.iconst 2, 1) := by decide +kernel
theorem dX6_shift_25 : decode cX6_shift 25 = .ok (.invokevirtual 172, 3) := by decide +kernel
theorem dX6_shift_28 : decode cX6_shift 28 = .ok (.istore 9, 2) := by decide +kernel
theorem dX6_shift_30 : decode cX6_shift 30 = .ok (.iload 9, 2) := by decide +kernel
theorem dX6_shift_32 : decode cX6_shift 32 = .ok (.ifCond .ge 4, 3) := by decide +kernel
theorem dX6_shift_35 : decode cX6_shift 35 = .ok (.return_, 1) := by decide +kernel
theorem dX6_shift_36 : decode cX6_shift 36 = .ok (.aload_n 0, 1) := by decide +kernel
theorem dX6_shift_37 : decode cX6_shift 37 = .ok (.getfield 17, 3) := by decide +kernel
theorem dX6_shift_40 : decode cX6_shift 40 = .ok (.iload 8, 2) := by decide +kernel
theorem dX6_shift_42 : decode cX6_shift 42 = .ok (.invokestatic 169, 3) := by decide +kernel
theorem dX6_shift_45 : decode cX6_shift 45 = .ok (.iaload, 1) := by decide +kernel
theorem dX6_shift_46 : decode cX6_shift 46 = .ok (.istore 10, 2) := by decide +kernel
theorem dX6_shift_48 : decode cX6_shift 48 = .ok (.aload_n 0, 1) := by decide +kernel
theorem dX6_shift_49 : decode cX6_shift 49 = .ok (.getfield 17, 3) := by decide +kernel
theorem dX6_shift_52 : decode cX6_shift 52 = .ok (.iload 9, 2) := by decide +kernel
theorem dX6_shift_54 : decode cX6_shift 54 = .ok (.invokestatic 169, 3) := by decide +kernel
theorem dX6_shift_57 : decode cX6_shift 57 = .ok (.iaload, 1) := by decide +kernel
theorem dX6_shift_58 : decode cX6_shift 58 = .ok (.istore 11, 2) := by decide +kernel
theorem dX6_shift_60 : decode cX6_shift 60 = .ok (.iload 10, 2) := by decide +kernel
theorem dX6_shift_62 : decode cX6_shift 62 = .ok (.bipush (-3), 2) := by decide +kernel
theorem dX6_shift_64 : decode cX6_shift 64 = .ok (.if_icmp .eq 10, 3) := by decide +kernel
theorem dX6_shift_67 : decode cX6_shift 67 = .ok (.iload 11, 2) := by decide +kernel
theorem dX6_shift_69 : decode cX6_shift 69 = .ok (.bipush (-3), 2) := by decide +kernel
theorem dX6_shift_71 : decode cX6_shift 71 = .ok (.if_icmp .ne 9, 3) := by decide +kernel
theorem dX6_shift_74 : decode cX6_shift 74 = .ok (.aload_n 0, 1) := by decide +kernel
theorem dX6_shift_75 : decode cX6_shift 75 = .ok (.iconst 1, 1) := by decide +kernel
theorem dX6_shift_76 : decode cX6_shift 76 = .ok (.putfield 155, 3) := by decide +kernel
theorem dX6_shift_79 : decode cX6_shift 79 = .ok (.return_, 1) := by decide +kernel
theorem dX6_shift_80 : decode cX6_shift 80 = .ok (.lload 6, 2) := by decide +kernel
theorem dX6_shift_82 : decode cX6_shift 82 = .ok (.lconst 0, 1) := by decide +kernel
theorem dX6_shift_83 : decode cX6_shift 83 = .ok (.lcmp, 1) := by decide +kernel
theorem dX6_shift_84 : decode cX6_shift 84 = .ok (.ifCond .lt 21, 3) := by decide +kernel
theorem dX6_shift_87 : decode cX6_shift 87 = .ok (.lload 6, 2) := by decide +kernel
theorem dX6_shift_89 : decode cX6_shift 89 = .ok (.iload 10, 2) := by decide +kernel
theorem dX6_shift_91 : decode cX6_shift 91 = .ok (.i2l, 1) := by decide +kernel
theorem dX6_shift_92 : decode cX6_shift 92 = .ok (.lcmp, 1) := by decide +kernel
theorem dX6_shift_93 : decode cX6_shift 93 = .ok (.ifCond .gt 12, 3) := by decide +kernel
theorem dX6_shift_96 : decode cX6_shift 96 = .ok (.lload 6, 2) := by decide +kernel
theorem dX6_shift_98 : decode cX6_shift 98 = .ok (.iload 11, 2) := by decide +kernel
theorem dX6_shift_100 : decode cX6_shift 100 = .ok (.i2l, 1) := by decide +kernel
theorem dX6_shift_101 : decode cX6_shift 101 = .ok (.lcmp, 1) := by decide +kernel
theorem dX6_shift_102 : decode cX6_shift 102 = .ok (.ifCond .le 9, 3) := by decide +kernel
theorem dX6_shift_105 : decode cX6_shift 105 = .ok (.aload_n 0, 1) := by decide +kernel
theorem dX6_shift_106 : decode cX6_shift 106 = .ok (.iconst 3, 1) := by decide +kernel
theorem dX6_shift_107 : decode cX6_shift 107 = .ok (.putfield 155, 3) := by decide +kernel
theorem dX6_shift_110 : decode cX6_shift 110 = .ok (.return_, 1) := by decide +kernel
theorem dX6_shift_111 : decode cX6_shift 111 = .ok (.iconst 0, 1) := by decide +kernel
theorem dX6_shift_112 : decode cX6_shift 112 = .ok (.istore 12, 2) := by decide +kernel
theorem dX6_shift_114 : decode cX6_shift 114 = .ok (.iload 12, 2) := by decide +kernel
theorem dX6_shift_116 : decode cX6_shift 116 = .ok (.i2l, 1) := by decide +kernel
theorem dX6_shift_117 : decode cX6_shift 117 = .ok (.lload 6, 2) := by decide +kernel
theorem dX6_shift_119 : decode cX6_shift 119 = .ok (.lcmp, 1) := by decide +kernel
theorem dX6_shift_120 : decode cX6_shift 120 = .ok (.ifCond .ge 41, 3) := by decide +kernel
theorem dX6_shift_123 : decode cX6_shift 123 = .ok (.aload_n 0, 1) := by decide +kernel
theorem dX6_shift_124 : decode cX6_shift 124 = .ok (.getfield 21, 3) := by decide +kernel
theorem dX6_shift_127 : decode cX6_shift 127 = .ok (.bipush 8, 2) := by decide +kernel
theorem dX6_shift_129 : decode cX6_shift 129 = .ok (.iload 9, 2) := by decide +kernel
theorem dX6_shift_131 : decode cX6_shift 131 = .ok (.invokestatic 169, 3) := by decide +kernel
theorem dX6_shift_134 : decode cX6_shift 134 = .ok (.imul, 1) := by decide +kernel
theorem dX6_shift_135 : decode cX6_shift 135 = .ok (.iload 12, 2) := by decide +kernel
theorem dX6_shift_137 : decode cX6_shift 137 = .ok (.iadd, 1) := by decide +kernel
theorem dX6_shift_138 : decode cX6_shift 138 = .ok (.aload_n 0, 1) := by decide +kernel
theorem dX6_shift_139 : decode cX6_shift 139 = .ok (.getfield 21, 3) := by decide +kernel
theorem dX6_shift_142 : decode cX6_shift 142 = .ok (.bipush 8, 2) := by decide +kernel
theorem dX6_shift_144 : decode cX6_shift 144 = .ok (.iload 8, 2) := by decide +kernel
theorem dX6_shift_146 : decode cX6_shift 146 = .ok (.invokestatic 169, 3) := by decide +kernel
theorem dX6_shift_149 : decode cX6_shift 149 = .ok (.imul, 1) := by decide +kernel
theorem dX6_shift_150 : decode cX6_shift 150 = .ok (.iload 12, 2) := by decide +kernel
theorem dX6_shift_152 : decode cX6_shift 152 = .ok (.iadd, 1) := by decide +kernel
theorem dX6_shift_153 : decode cX6_shift 153 = .ok (.iaload, 1) := by decide +kernel
theorem dX6_shift_154 : decode cX6_shift 154 = .ok (.iastore, 1) := by decide +kernel
theorem dX6_shift_155 : decode cX6_shift 155 = .ok (.iinc 12 1, 3) := by decide +kernel
theorem dX6_shift_158 : decode cX6_shift 158 = .ok (.goto (-44), 3) := by decide +kernel
theorem dX6_shift_161 : decode cX6_shift 161 = .ok (.aload_n 0, 1) := by decide +kernel
theorem dX6_shift_162 : decode cX6_shift 162 = .ok (.iload 9, 2) := by decide +kernel
theorem dX6_shift_164 : decode cX6_shift 164 = .ok (.iconst 1, 1) := by decide +kernel
theorem dX6_shift_165 : decode cX6_shift 165 = .ok (.invokevirtual 166, 3) := by decide +kernel
theorem dX6_shift_168 : decode cX6_shift 168 = .ok (.return_, 1) := by decide +kernel
set_option maxRecDepth 20000 in
theorem ggX6_like_X6_load : GoodIn wsX6_like wsX6_load := goodIn_r _ [6, 7, 8, 9, 30, 31, 32, 33, 34, 35, 36, 37, 38, 39, 40, 41, 42, 43, 44, 45, 46, 47, 48, 49, 50, 51, 52, 53, 54, 55, 56, 57, 58, 59] (by decide +kernel) (by decide +kernel)
set_option maxRecDepth 20000 in
theorem gX6_like_X6_load : GoodIn wsX6_like (wsV RX6 158 RX6 yX6_load wsX6_load) := goodIn_app (goodIn_of _ (by decide +kernel)) ggX6_like_X6_load
set_option maxRecDepth 20000 in
theorem ggX6_like_X6_fieldsOf : GoodIn wsX6_like wsX6_fieldsOf := goodIn_r _ [12] (by decide +kernel) (by decide +kernel)
set_option maxRecDepth 20000 in
theorem gX6_like_X6_fieldsOf : GoodIn wsX6_like (va_wsS RX6 85 yX6_fieldsOf wsX6_fieldsOf) := goodIn_app (goodIn_of _ (by decide +kernel)) ggX6_like_X6_fieldsOf
set_option maxRecDepth 20000 in
theorem ggX6_like_X6_touch : GoodIn wsX6_like wsX6_touch := goodIn_r _ [16, 17, 18, 19, 30, 31, 32, 33, 34, 35, 36, 37, 38, 39, 40, 41, 42, 43, 44, 45, 46, 47, 48, 49, 50, 51, 52, 53, 54, 55, 56, 57, 58, 59] (by decide +kernel) (by decide +kernel)
set_option maxRecDepth 20000 in
theorem gX6_like_X6_touch : GoodIn wsX6_like (wsV RX6 166 RX6 yX6_touch wsX6_touch) := goodIn_app (goodIn_of _ (by decide +kernel)) ggX6_like_X6_touch
set_option maxRecDepth 20000 in
theorem ggX6_like_X6_at : GoodIn wsX6_like wsX6_at := goodIn_r _ [22] (by decide +kernel) (by decide +kernel)
set_option maxRecDepth 20000 in
theorem gX6_like_X6_at : GoodIn wsX6_like (va_wsS RX6 169 yX6_at wsX6_at) := goodIn_app (goodIn_of _ (by decide +kernel)) ggX6_like_X6_at
set_option maxRecDepth 20000 in
theorem ggX6_like_X6_areAlike : GoodIn wsX6_like wsX6_areAlike := goodIn_r _ [26, 27, 28, 29, 30, 31, 32, 33, 34, 35, 36, 37, 38, 39, 40, 41, 42, 43, 44, 45, 46, 47, 48, 49, 50, 51, 52, 53, 54, 55, 56, 57, 58, 59] (by decide +kernel) (by decide +kernel)
set_option maxRecDepth 20000 in
theorem gX6_like_X6_areAlike : GoodIn wsX6_like (wsV RX6 111 RX6 yX6_areAlike wsX6_areAlike) := goodIn_app (goodIn_of _ (by decide +kernel)) ggX6_like_X6_areAlike
theorem dX6_like_0 : decode cX6_like 0 = .ok (.iload_n 1, 1) := by decide +kernel
theorem dX6_like_1 : decode cX6_like 1 = .ok (.iload_n 2, 1) := by decide +kernel
theorem dX6_like_2 : decode cX6_like 2 = .ok (.if_icmp .ne 5, 3) := by decide +kernel
theorem dX6_like_5 : decode cX6_like 5 = .ok (.iconst 1, 1) := by decide +kernel
theorem dX6_like_6 : decode cX6_like 6 = .ok (.ireturn, 1) := by decide +kernel
theorem dX6_like_7 : decode cX6_like 7 = .ok (.iload_n 1, 1) := by decide +kernel
theorem dX6_like_8 : decode cX6_like 8 = .ok (.ifCond .lt 22, 3) := by decide +kernel
theorem dX6_like_11 : decode cX6_like 11 = .ok (.iload_n 2, 1) := by decide +kernel
theorem dX6_like_12 : decode cX6_like 12 = .ok (.ifCond .lt 18, 3) := by decide +kernel
theorem dX6_like_15 : decode cX6_like 15 = .ok (.aload_n 0, 1) := by decide +kernel
theorem dX6_like_16 : decode cX6_like 16 = .ok (.getfield 7, 3) := by decide +kernel
theorem dX6_like_19 : decode cX6_like 19 = .ok (.iload_n 1, 1) := by decide +kernel
theorem dX6_like_20 : decode cX6_like 20 = .ok (.iaload, 1) := by decide +kernel
theorem dX6_like_21 : decode cX6_like 21 = .ok (.aload_n 0, 1) := by decide +kernel
theorem dX6_like_22 : decode cX6_like 22 = .ok (.getfield 7, 3) := by decide +kernel
theorem dX6_like_25 : decode cX6_like 25 = .ok (.iload_n 2, 1) := by decide +kernel
theorem dX6_like_26 : decode cX6_like 26 = .ok (.iaload, 1) := by decide +kernel
theorem dX6_like_27 : decode cX6_like 27 = .ok (.if_icmp .eq 5, 3) := by decide +kernel
theorem dX6_like_30 : decode cX6_like 30 = .ok (.iconst 0, 1) := by decide +kernel
theorem dX6_like_31 : decode cX6_like 31 = .ok (.ireturn, 1) := by decide +kernel
theorem dX6_like_32 : decode cX6_like 32 = .ok (.aload_n 0, 1) := by decide +kernel
theorem dX6_like_33 : decode cX6_like 33 = .ok (.iload_n 1, 1) := by decide +kernel
theorem dX6_like_34 : decode cX6_like 34 = .ok (.invokevirtual 158, 3) := by decide +kernel
theorem dX6_like_37 : decode cX6_like 37 = .ok (.aload_n 0, 1) := by decide +kernel
theorem dX6_like_38 : decode cX6_like 38 = .ok (.iload_n 2, 1) := by decide +kernel
theorem dX6_like_39 : decode cX6_like 39 = .ok (.invokevirtual 158, 3) := by decide +kernel
theorem dX6_like_42 : decode cX6_like 42 = .ok (.iconst 1, 1) := by decide +kernel
theorem dX6_like_43 : decode cX6_like 43 = .ok (.istore_n 3, 1) := by decide +kernel
theorem dX6_like_44 : decode cX6_like 44 = .ok (.iconst 0, 1) := by decide +kernel
theorem dX6_like_45 : decode cX6_like 45 = .ok (.istore 4, 2) := by decide +kernel
theorem dX6_like_47 : decode cX6_like 47 = .ok (.iload 4, 2) := by decide +kernel
theorem dX6_like_49 : decode cX6_like 49 = .ok (.aload_n 0, 1) := by decide +kernel
theorem dX6_like_50 : decode cX6_like 50 = .ok (.getfield 7, 3) := by decide +kernel
theorem dX6_like_53 : decode cX6_like 53 = .ok (.iload_n 1, 1) := by decide +kernel
theorem dX6_like_54 : decode cX6_like 54 = .ok (.iaload, 1) := by decide +kernel
theorem dX6_like_55 : decode cX6_like 55 = .ok (.invokestatic 85, 3) := by decide +kernel
theorem dX6_like_58 : decode cX6_like 58 = .ok (.if_icmp .ge 62, 3) := by decide +kernel
theorem dX6_like_61 : decode cX6_like 61 = .ok (.iload_n 3, 1) := by decide +kernel
theorem dX6_like_62 : decode cX6_like 62 = .ok (.ifCond .eq 58, 3) := by decide +kernel
theorem dX6_like_65 : decode cX6_like 65 = .ok (.aload_n 0, 1) := by decide +kernel
theorem dX6_like_66 : decode cX6_like 66 = .ok (.bipush 8, 2) := by decide +kernel
theorem dX6_like_68 : decode cX6_like 68 = .ok (.iload_n 1, 1) := by decide +kernel
theorem dX6_like_69 : decode cX6_like 69 = .ok (.imul, 1) := by decide +kernel
theorem dX6_like_70 : decode cX6_like 70 = .ok (.iload 4, 2) := by decide +kernel
theorem dX6_like_72 : decode cX6_like 72 = .ok (.iadd, 1) := by decide +kernel
theorem dX6_like_73 : decode cX6_like 73 = .ok (.iconst 0, 1) := by decide +kernel
theorem dX6_like_74 : decode cX6_like 74 = .ok (.invokevirtual 166, 3) := by decide +kernel
theorem dX6_like_77 : decode cX6_like 77 = .ok (.aload_n 0, 1) := by decide +kernel
theorem dX6_like_78 : decode cX6_like 78 = .ok (.bipush 8, 2) := by decide +kernel
theorem dX6_like_80 : decode cX6_like 80 = .ok (.iload_n 2, 1) := by decide +kernel
theorem dX6_like_81 : decode cX6_like 81 = .ok (.imul, 1) := by decide +kernel
theorem dX6_like_82 : decode cX6_like 82 = .ok (.iload 4, 2) := by decide +kernel
theorem dX6_like_84 : decode cX6_like 84 = .ok (.iadd, 1) := by decide +kernel
theorem dX6_like_85 : decode cX6_like 85 = .ok (.iconst 0, 1) := by decide +kernel
theorem dX6_like_86 : decode cX6_like 86 = .ok (.invokevirtual 166, 3) := by decide +kernel
theorem dX6_like_89 : decode cX6_like 89 = .ok (.aload_n 0, 1) := by decide +kernel
theorem dX6_like_90 : decode cX6_like 90 = .ok (.bipush 8, 2) := by decide +kernel
theorem dX6_like_92 : decode cX6_like 92 = .ok (.iload_n 1, 1) := by decide +kernel
theorem dX6_like_93 : decode cX6_like 93 = .ok (.imul, 1) := by decide +kernel
theorem dX6_like_94 : decode cX6_like 94 = .ok (.iload 4, 2) := by decide +kernel
theorem dX6_like_96 : decode cX6_like 96 = .ok (.iadd, 1) := by decide +kernel
theorem dX6_like_97 : decode cX6_like 97 = .ok (.invokestatic 169, 3) := by decide +kernel
theorem dX6_like_100 : decode cX6_like 100 = .ok (.bipush 8, 2) := by decide +kernel
theorem dX6_like_102 : decode cX6_like 102 = .ok (.iload_n 2, 1) := by decide +kernel
theorem dX6_like_103 : decode cX6_like 103 = .ok (.imul, 1) := by decide +kernel
theorem dX6_like_104 : decode cX6_like 104 = .ok (.iload 4, 2) := by decide +kernel
theorem dX6_like_106 : decode cX6_like 106 = .ok (.iadd, 1) := by decide +kernel
theorem dX6_like_107 : decode cX6_like 107 = .ok (.invokestatic 169, 3) := by decide +kernel
theorem dX6_like_110 : decode cX6_like 110 = .ok (.invokevirtual 111, 3) := by decide +kernel
theorem dX6_like_113 : decode cX6_like 113 = .ok (.istore_n 3, 1) := by decide +kernel
theorem dX6_like_114 : decode cX6_like 114 = .ok (.iinc 4 1, 3) := by decide +kernel
theorem dX6_like_117 : decode cX6_like 117 = .ok (.goto (-70), 3) := by decide +kernel
theorem dX6_like_120 : decode cX6_like 120 = .ok (.iload_n 3, 1) := by decide +kernel
theorem dX6_like_121 : decode cX6_like 121 = .ok (.ireturn, 1) := by decide +kernel
set_option maxRecDepth 20000 in
theorem ggX6_fieldActs_X6_readLeaf : GoodIn wsX6_fieldActs wsX6_readLeaf := goodIn_r _ [12, 13, 14, 15, 11, 16, 7, 17, 18, 19, 20, 21, 22, 23, 24, 25, 26, 27, 28, 29, 30, 31, 32, 33, 34, 35, 36, 37, 38, 52, 53, 54, 55, 56, 57, 58, 59, 60, 61, 62, 63, 64, 65, 66, 67, 68, 69, 70, 71, 72, 73, 74, 75, 76, 77, 78, 79, 80, 81] (by decide +kernel) (by decide +kernel)
set_option maxRecDepth 20000 in
theorem gX6_fieldActs_X6_readLeaf : GoodIn wsX6_fieldActs (wsV RX6 172 RX6 yX6_readLeaf wsX6_readLeaf) := goodIn_app (goodIn_of _ (by decide +kernel)) ggX6_fieldActs_X6_readLeaf
set_option maxRecDepth 20000 in
theorem ggX6_fieldActs_X6_at : GoodIn wsX6_fieldActs wsX6_at := goodIn_r _ [41] (by decide +kernel) (by decide +kernel)
set_option maxRecDepth 20000 in
theorem gX6_fieldActs_X6_at : GoodIn wsX6_fieldActs (va_wsS RX6 169 yX6_at wsX6_at) := goodIn_app (goodIn_of _ (by decide +kernel)) ggX6_fieldActs_X6_at
set_option maxRecDepth 20000 in
theorem ggX6_fieldActs_X6_leafOf : GoodIn wsX6_fieldActs wsX6_leafOf := goodIn_r _ [16, 7, 17, 18, 19, 20, 21, 11, 22, 23, 24, 25, 26, 27, 28, 29, 30, 31, 52, 53, 54, 55, 56, 57, 58, 59, 60, 61, 62, 63, 64, 65, 66, 67, 68, 69, 70, 71, 72, 73, 74, 75, 76, 77, 78, 79, 80, 81] (by decide +kernel) (by decide +kernel)
set_option maxRecDepth 20000 in
theorem gX6_fieldActs_X6_leafOf : GoodIn wsX6_fieldActs (wsV RX6 162 RX6 yX6_leafOf wsX6_leafOf) := goodIn_app (goodIn_of _ (by decide +kernel)) ggX6_fieldActs_X6_leafOf
set_option maxRecDepth 20000 in
theorem ggX6_fieldActs_X6_touch : GoodIn wsX6_fieldActs wsX6_touch := goodIn_r _ [35, 36, 37, 38, 52, 53, 54, 55, 56, 57, 58, 59, 60, 61, 62, 63, 64, 65, 66, 67, 68, 69, 70, 71, 72, 73, 74, 75, 76, 77, 78, 79, 80, 81] (by decide +kernel) (by decide +kernel)
set_option maxRecDepth 20000 in
theorem gX6_fieldActs_X6_touch : GoodIn wsX6_fieldActs (wsV RX6 166 RX6 yX6_touch wsX6_touch) := goodIn_app (goodIn_of _ (by decide +kernel)) ggX6_fieldActs_X6_touch
set_option maxRecDepth 20000 in
theorem ggX6_fieldActs_X6_like : GoodIn wsX6_fieldActs wsX6_like := goodIn_r _ [45, 18, 19, 20, 21, 11, 22, 23, 24, 25, 26, 27, 28, 32, 33, 34, 35, 36, 37, 38, 39, 40, 41, 46, 47, 48, 49, 6, 50, 51, 52, 53, 54, 55, 56, 57, 58, 59, 60, 61, 62, 63, 64, 65, 66, 67, 68, 69, 70, 71, 72, 73, 74, 75, 76, 77, 78, 79, 80, 81] (by decide +kernel) (by decide +kernel)
set_option maxRecDepth 20000 in
theorem gX6_fieldActs_X6_like : GoodIn wsX6_fieldActs (wsV RX6 183 RX6 yX6_like wsX6_like) := goodIn_app (goodIn_of _ (by decide +kernel)) ggX6_fieldActs_X6_like
theorem dX6_fieldActs_0 : decode cX6_fieldActs 0 = .ok (.aload_n 0, 1) := by decide +kernel
theorem dX6_fieldActs_1 : decode cX6_fieldActs 1 = .ok (.getfield 37, 3) := by decide +kernel
theorem dX6_fieldActs_4 : decode cX6_fieldActs 4 = .ok (.iload_n 1, 1) := by decide +kernel
theorem dX6_fieldActs_5 : decode cX6_fieldActs 5 = .ok (.iaload, 1) := by decide +kernel
theorem dX6_fieldActs_6 : decode cX6_fieldActs 6 = .ok (.istore_n 2, 1) := by decide +kernel
theorem dX6_fieldActs_7 : decode cX6_fieldActs 7 = .ok (.aload_n 0, 1) := by decide +kernel
theorem dX6_fieldActs_8 : decode cX6_fieldActs 8 = .ok (.getfield 40, 3) := by decide +kernel
theorem dX6_fieldActs_11 : decode cX6_fieldActs 11 = .ok (.iload_n 1, 1) := by decide +kernel
theorem dX6_fieldActs_12 : decode cX6_fieldActs 12 = .ok (.laload, 1) := by decide +kernel
theorem dX6_fieldActs_13 : decode cX6_fieldActs 13 = .ok (.lstore_n 3, 1) := by decide +kernel
theorem dX6_fieldActs_14 : decode cX6_fieldActs 14 = .ok (.aload_n 0, 1) := by decide +kernel
theorem dX6_fieldActs_15 : decode cX6_fieldActs 15 = .ok (.getfield 43, 3) := by decide +kernel
theorem dX6_fieldActs_18 : decode cX6_fieldActs 18 = .ok (.iload_n 1, 1) := by decide +kernel
theorem dX6_fieldActs_19 : decode cX6_fieldActs 19 = .ok (.iaload, 1) := by decide +kernel
theorem dX6_fieldActs_20 : decode cX6_fieldActs 20 = .ok (.istore 5, 2) := by decide +kernel
theorem dX6_fieldActs_22 : decode cX6_fieldActs 22 = .ok (.aload_n 0, 1) := by decide +kernel
theorem dX6_fieldActs_23 : decode cX6_fieldActs 23 = .ok (.getfield 34, 3) := by decide +kernel
theorem dX6_fieldActs_26 : decode cX6_fieldActs 26 = .ok (.iload_n 1, 1) := by decide +kernel
theorem dX6_fieldActs_27 : decode cX6_fieldActs 27 = .ok (.iaload, 1) := by decide +kernel
theorem dX6_fieldActs_28 : decode cX6_fieldActs 28 = .ok (.tableswitch 257 4 12 #[52, 97, 138, 184, 257, 257, 257, 257, 226], 52) := by decide +kernel
theorem dX6_fieldActs_80 : decode cX6_fieldActs 80 = .ok (.aload_n 0, 1) := by decide +kernel
theorem dX6_fieldActs_81 : decode cX6_fieldActs 81 = .ok (.lload_n 3, 1) := by decide +kernel
theorem dX6_fieldActs_82 : decode cX6_fieldActs 82 = .ok (.l2i, 1) := by decide +kernel
theorem dX6_fieldActs_83 : decode cX6_fieldActs 83 = .ok (.iload 5, 2) := by decide +kernel
theorem dX6_fieldActs_85 : decode cX6_fieldActs 85 = .ok (.i2l, 1) := by decide +kernel
theorem dX6_fieldActs_86 : decode cX6_fieldActs 86 = .ok (.iconst 0, 1) := by decide +kernel
theorem dX6_fieldActs_87 : decode cX6_fieldActs 87 = .ok (.invokevirtual 172, 3) := by decide +kernel
theorem dX6_fieldActs_90 : decode cX6_fieldActs 90 = .ok (.istore 6, 2) := by decide +kernel
theorem dX6_fieldActs_92 : decode cX6_fieldActs 92 = .ok (.aload_n 0, 1) := by decide +kernel
theorem dX6_fieldActs_93 : decode cX6_fieldActs 93 = .ok (.getfield 71, 3) := by decide +kernel
theorem dX6_fieldActs_96 : decode cX6_fieldActs 96 = .ok (.iload_n 2, 1) := by decide +kernel
theorem dX6_fieldActs_97 : decode cX6_fieldActs 97 = .ok (.iload 6, 2) := by decide +kernel
theorem dX6_fieldActs_99 : decode cX6_fieldActs 99 = .ok (.ifCond .ge 12, 3) := by decide +kernel
theorem dX6_fieldActs_102 : decode cX6_fieldActs 102 = .ok (.aload_n 0, 1) := by decide +kernel
theorem dX6_fieldActs_103 : decode cX6_fieldActs 103 = .ok (.getfield 71, 3) := by decide +kernel
theorem dX6_fieldActs_106 : decode cX6_fieldActs 106 = .ok (.iload_n 2, 1) := by decide +kernel
theorem dX6_fieldActs_107 : decode cX6_fieldActs 107 = .ok (.laload, 1) := by decide +kernel
theorem dX6_fieldActs_108 : decode cX6_fieldActs 108 = .ok (.goto 13, 3) := by decide +kernel
theorem dX6_fieldActs_111 : decode cX6_fieldActs 111 = .ok (.aload_n 0, 1) := by decide +kernel
theorem dX6_fieldActs_112 : decode cX6_fieldActs 112 = .ok (.getfield 13, 3) := by decide +kernel
theorem dX6_fieldActs_115 : decode cX6_fieldActs 115 = .ok (.iload 6, 2) := by decide +kernel
theorem dX6_fieldActs_117 : decode cX6_fieldActs 117 = .ok (.invokestatic 169, 3) := by decide +kernel
theorem dX6_fieldActs_120 : decode cX6_fieldActs 120 = .ok (.laload, 1) := by decide +kernel
theorem dX6_fieldActs_121 : decode cX6_fieldActs 121 = .ok (.lastore, 1) := by decide +kernel
theorem dX6_fieldActs_122 : decode cX6_fieldActs 122 = .ok (.goto 195, 3) := by decide +kernel
theorem dX6_fieldActs_125 : decode cX6_fieldActs 125 = .ok (.aload_n 0, 1) := by decide +kernel
theorem dX6_fieldActs_126 : decode cX6_fieldActs 126 = .ok (.iload_n 2, 1) := by decide +kernel
theorem dX6_fieldActs_127 : decode cX6_fieldActs 127 = .ok (.lload_n 3, 1) := by decide +kernel
theorem dX6_fieldActs_128 : decode cX6_fieldActs 128 = .ok (.iconst 0, 1) := by decide +kernel
theorem dX6_fieldActs_129 : decode cX6_fieldActs 129 = .ok (.invokevirtual 162, 3) := by decide +kernel
theorem dX6_fieldActs_132 : decode cX6_fieldActs 132 = .ok (.istore 6, 2) := by decide +kernel
theorem dX6_fieldActs_134 : decode cX6_fieldActs 134 = .ok (.iload 6, 2) := by decide +kernel
theorem dX6_fieldActs_136 : decode cX6_fieldActs 136 = .ok (.ifCond .lt 181, 3) := by decide +kernel
theorem dX6_fieldActs_139 : decode cX6_fieldActs 139 = .ok (.aload_n 0, 1) := by decide +kernel
theorem dX6_fieldActs_140 : decode cX6_fieldActs 140 = .ok (.getfield 13, 3) := by decide +kernel
theorem dX6_fieldActs_143 : decode cX6_fieldActs 143 = .ok (.iload 6, 2) := by decide +kernel
theorem dX6_fieldActs_145 : decode cX6_fieldActs 145 = .ok (.invokestatic 169, 3) := by decide +kernel
theorem dX6_fieldActs_148 : decode cX6_fieldActs 148 = .ok (.aload_n 0, 1) := by decide +kernel
theorem dX6_fieldActs_149 : decode cX6_fieldActs 149 = .ok (.getfield 71, 3) := by decide +kernel
theorem dX6_fieldActs_152 : decode cX6_fieldActs 152 = .ok (.iload 5, 2) := by decide +kernel
theorem dX6_fieldActs_154 : decode cX6_fieldActs 154 = .ok (.laload, 1) := by decide +kernel
theorem dX6_fieldActs_155 : decode cX6_fieldActs 155 = .ok (.lastore, 1) := by decide +kernel
theorem dX6_fieldActs_156 : decode cX6_fieldActs 156 = .ok (.aload_n 0, 1) := by decide +kernel
theorem dX6_fieldActs_157 : decode cX6_fieldActs 157 = .ok (.iload 6, 2) := by decide +kernel
theorem dX6_fieldActs_159 : decode cX6_fieldActs 159 = .ok (.iconst 1, 1) := by decide +kernel
theorem dX6_fieldActs_160 : decode cX6_fieldActs 160 = .ok (.invokevirtual 166, 3) := by decide +kernel
theorem dX6_fieldActs_163 : decode cX6_fieldActs 163 = .ok (.goto 154, 3) := by decide +kernel
theorem dX6_fieldActs_166 : decode cX6_fieldActs 166 = .ok (.aload_n 0, 1) := by decide +kernel
theorem dX6_fieldActs_167 : decode cX6_fieldActs 167 = .ok (.lload_n 3, 1) := by decide +kernel
theorem dX6_fieldActs_168 : decode cX6_fieldActs 168 = .ok (.l2i, 1) := by decide +kernel
theorem dX6_fieldActs_169 : decode cX6_fieldActs 169 = .ok (.iload 5, 2) := by decide +kernel
theorem dX6_fieldActs_171 : decode cX6_fieldActs 171 = .ok (.i2l, 1) := by decide +kernel
theorem dX6_fieldActs_172 : decode cX6_fieldActs 172 = .ok (.iconst 1, 1) := by decide +kernel
theorem dX6_fieldActs_173 : decode cX6_fieldActs 173 = .ok (.invokevirtual 172, 3) := by decide +kernel
theorem dX6_fieldActs_176 : decode cX6_fieldActs 176 = .ok (.istore 6, 2) := by decide +kernel
theorem dX6_fieldActs_178 : decode cX6_fieldActs 178 = .ok (.aload_n 0, 1) := by decide +kernel
theorem dX6_fieldActs_179 : decode cX6_fieldActs 179 = .ok (.getfield 68, 3) := by decide +kernel
theorem dX6_fieldActs_182 : decode cX6_fieldActs 182 = .ok (.iload_n 2, 1) := by decide +kernel
theorem dX6_fieldActs_183 : decode cX6_fieldActs 183 = .ok (.iload 6, 2) := by decide +kernel
theorem dX6_fieldActs_185 : decode cX6_fieldActs 185 = .ok (.ifCond .ge 12, 3) := by decide +kernel
theorem dX6_fieldActs_188 : decode cX6_fieldActs 188 = .ok (.aload_n 0, 1) := by decide +kernel
theorem dX6_fieldActs_189 : decode cX6_fieldActs 189 = .ok (.getfield 68, 3) := by decide +kernel
theorem dX6_fieldActs_192 : decode cX6_fieldActs 192 = .ok (.iload_n 2, 1) := by decide +kernel
theorem dX6_fieldActs_193 : decode cX6_fieldActs 193 = .ok (.iaload, 1) := by decide +kernel
theorem dX6_fieldActs_194 : decode cX6_fieldActs 194 = .ok (.goto 14, 3) := by decide +kernel
theorem dX6_fieldActs_197 : decode cX6_fieldActs 197 = .ok (.aload_n 0, 1) := by decide +kernel
theorem dX6_fieldActs_198 : decode cX6_fieldActs 198 = .ok (.getfield 13, 3) := by decide +kernel
theorem dX6_fieldActs_201 : decode cX6_fieldActs 201 = .ok (.iload 6, 2) := by decide +kernel
theorem dX6_fieldActs_203 : decode cX6_fieldActs 203 = .ok (.invokestatic 169, 3) := by decide +kernel
theorem dX6_fieldActs_206 : decode cX6_fieldActs 206 = .ok (.laload, 1) := by decide +kernel
theorem dX6_fieldActs_207 : decode cX6_fieldActs 207 = .ok (.l2i, 1) := by decide +kernel
theorem dX6_fieldActs_208 : decode cX6_fieldActs 208 = .ok (.iastore, 1) := by decide +kernel
theorem dX6_fieldActs_209 : decode cX6_fieldActs 209 = .ok (.goto 108, 3) := by decide +kernel
theorem dX6_fieldActs_212 : decode cX6_fieldActs 212 = .ok (.aload_n 0, 1) := by decide +kernel
theorem dX6_fieldActs_213 : decode cX6_fieldActs 213 = .ok (.iload_n 2, 1) := by decide +kernel
theorem dX6_fieldActs_214 : decode cX6_fieldActs 214 = .ok (.lload_n 3, 1) := by decide +kernel
theorem dX6_fieldActs_215 : decode cX6_fieldActs 215 = .ok (.iconst 1, 1) := by decide +kernel
theorem dX6_fieldActs_216 : decode cX6_fieldActs 216 = .ok (.invokevirtual 162, 3) := by decide +kernel
theorem dX6_fieldActs_219 : decode cX6_fieldActs 219 = .ok (.istore 6, 2) := by decide +kernel
theorem dX6_fieldActs_221 : decode cX6_fieldActs 221 = .ok (.iload 6, 2) := by decide +kernel
theorem dX6_fieldActs_223 : decode cX6_fieldActs 223 = .ok (.ifCond .lt 94, 3) := by decide +kernel
theorem dX6_fieldActs_226 : decode cX6_fieldActs 226 = .ok (.aload_n 0, 1) := by decide +kernel
theorem dX6_fieldActs_227 : decode cX6_fieldActs 227 = .ok (.getfield 13, 3) := by decide +kernel
theorem dX6_fieldActs_230 : decode cX6_fieldActs 230 = .ok (.iload 6, 2) := by decide +kernel
theorem dX6_fieldActs_232 : decode cX6_fieldActs 232 = .ok (.invokestatic 169, 3) := by decide +kernel
theorem dX6_fieldActs_235 : decode cX6_fieldActs 235 = .ok (.aload_n 0, 1) := by decide +kernel
theorem dX6_fieldActs_236 : decode cX6_fieldActs 236 = .ok (.getfield 68, 3) := by decide +kernel
theorem dX6_fieldActs_239 : decode cX6_fieldActs 239 = .ok (.iload 5, 2) := by decide +kernel
theorem dX6_fieldActs_241 : decode cX6_fieldActs 241 = .ok (.iaload, 1) := by decide +kernel
theorem dX6_fieldActs_242 : decode cX6_fieldActs 242 = .ok (.i2l, 1) := by decide +kernel
theorem dX6_fieldActs_243 : decode cX6_fieldActs 243 = .ok (.lastore, 1) := by decide +kernel
theorem dX6_fieldActs_244 : decode cX6_fieldActs 244 = .ok (.aload_n 0, 1) := by decide +kernel
theorem dX6_fieldActs_245 : decode cX6_fieldActs 245 = .ok (.iload 6, 2) := by decide +kernel
theorem dX6_fieldActs_247 : decode cX6_fieldActs 247 = .ok (.iconst 1, 1) := by decide +kernel
theorem dX6_fieldActs_248 : decode cX6_fieldActs 248 = .ok (.invokevirtual 166, 3) := by decide +kernel
theorem dX6_fieldActs_251 : decode cX6_fieldActs 251 = .ok (.goto 66, 3) := by decide +kernel
theorem dX6_fieldActs_254 : decode cX6_fieldActs 254 = .ok (.aload_n 0, 1) := by decide +kernel
theorem dX6_fieldActs_255 : decode cX6_fieldActs 255 = .ok (.getfield 71, 3) := by decide +kernel
theorem dX6_fieldActs_258 : decode cX6_fieldActs 258 = .ok (.iload_n 2, 1) := by decide +kernel
theorem dX6_fieldActs_259 : decode cX6_fieldActs 259 = .ok (.aload_n 0, 1) := by decide +kernel
theorem dX6_fieldActs_260 : decode cX6_fieldActs 260 = .ok (.getfield 68, 3) := by decide +kernel
theorem dX6_fieldActs_263 : decode cX6_fieldActs 263 = .ok (.lload_n 3, 1) := by decide +kernel
theorem dX6_fieldActs_264 : decode cX6_fieldActs 264 = .ok (.l2i, 1) := by decide +kernel
theorem dX6_fieldActs_265 : decode cX6_fieldActs 265 = .ok (.iaload, 1) := by decide +kernel
theorem dX6_fieldActs_266 : decode cX6_fieldActs 266 = .ok (.aload_n 0, 1) := by decide +kernel
theorem dX6_fieldActs_267 : decode cX6_fieldActs 267 = .ok (.getfield 68, 3) := by decide +kernel
theorem dX6_fieldActs_270 : decode cX6_fieldActs 270 = .ok (.iload 5, 2) := by decide +kernel
theorem dX6_fieldActs_272 : decode cX6_fieldActs 272 = .ok (.iaload, 1) := by decide +kernel
theorem dX6_fieldActs_273 : decode cX6_fieldActs 273 = .ok (.if_icmp .ne 7, 3) := by decide +kernel
theorem dX6_fieldActs_276 : decode cX6_fieldActs 276 = .ok (.lconst 1, 1) := by decide +kernel
theorem dX6_fieldActs_277 : decode cX6_fieldActs 277 = .ok (.goto 4, 3) := by decide +kernel
theorem dX6_fieldActs_280 : decode cX6_fieldActs 280 = .ok (.lconst 0, 1) := by decide +kernel
theorem dX6_fieldActs_281 : decode cX6_fieldActs 281 = .ok (.lastore, 1) := by decide +kernel
theorem dX6_fieldActs_282 : decode cX6_fieldActs 282 = .ok (.goto 35, 3) := by decide +kernel
theorem dX6_fieldActs_285 : decode cX6_fieldActs 285 = .ok (.aload_n 0, 1) := by decide +kernel
theorem dX6_fieldActs_286 : decode cX6_fieldActs 286 = .ok (.getfield 71, 3) := by decide +kernel
theorem dX6_fieldActs_289 : decode cX6_fieldActs 289 = .ok (.iload_n 2, 1) := by decide +kernel
theorem dX6_fieldActs_290 : decode cX6_fieldActs 290 = .ok (.aload_n 0, 1) := by decide +kernel
theorem dX6_fieldActs_291 : decode cX6_fieldActs 291 = .ok (.aload_n 0, 1) := by decide +kernel
theorem dX6_fieldActs_292 : decode cX6_fieldActs 292 = .ok (.getfield 68, 3) := by decide +kernel
theorem dX6_fieldActs_295 : decode cX6_fieldActs 295 = .ok (.lload_n 3, 1) := by decide +kernel
theorem dX6_fieldActs_296 : decode cX6_fieldActs 296 = .ok (.l2i, 1) := by decide +kernel
theorem dX6_fieldActs_297 : decode cX6_fieldActs 297 = .ok (.iaload, 1) := by decide +kernel
theorem dX6_fieldActs_298 : decode cX6_fieldActs 298 = .ok (.aload_n 0, 1) := by decide +kernel
theorem dX6_fieldActs_299 : decode cX6_fieldActs 299 = .ok (.getfield 68, 3) := by decide +kernel
theorem dX6_fieldActs_302 : decode cX6_fieldActs 302 = .ok (.iload 5, 2) := by decide +kernel
theorem dX6_fieldActs_304 : decode cX6_fieldActs 304 = .ok (.iaload, 1) := by decide +kernel
theorem dX6_fieldActs_305 : decode cX6_fieldActs 305 = .ok (.invokevirtual 183, 3) := by decide +kernel
theorem dX6_fieldActs_308 : decode cX6_fieldActs 308 = .ok (.ifCond .eq 7, 3) := by decide +kernel
theorem dX6_fieldActs_311 : decode cX6_fieldActs 311 = .ok (.lconst 1, 1) := by decide +kernel
theorem dX6_fieldActs_312 : decode cX6_fieldActs 312 = .ok (.goto 4, 3) := by decide +kernel
theorem dX6_fieldActs_315 : decode cX6_fieldActs 315 = .ok (.lconst 0, 1) := by decide +kernel
theorem dX6_fieldActs_316 : decode cX6_fieldActs 316 = .ok (.lastore, 1) := by decide +kernel
theorem dX6_fieldActs_317 : decode cX6_fieldActs 317 = .ok (.return_, 1) := by decide +kernel
set_option maxRecDepth 20000 in
theorem ggX6_does_X6_rowActs : GoodIn wsX6_does wsX6_rowActs := goodIn_r _ [12, 1, 4, 5, 13, 2, 3, 14, 15, 6, 16, 17, 18, 19, 11, 20, 21, 22, 23, 24, 25, 26, 27, 28, 29, 30, 31, 32, 33, 34, 35, 36, 37, 38, 39, 40, 41, 42, 43, 44, 45, 46, 47, 48, 49, 50, 51, 52, 53, 54, 55, 56, 57, 58, 59, 60, 61, 62, 63, 64, 65, 79, 80, 81, 82, 83, 84, 85, 86, 87, 88, 89, 90, 91, 92, 93, 94, 95, 96, 97, 98, 99, 100, 101, 102, 103, 104, 105, 106, 107, 108] (by decide +kernel) (by decide +kernel)
set_option maxRecDepth 20000 in
theorem gX6_does_X6_rowActs : GoodIn wsX6_does (wsV RX6 190 RX6 yX6_rowActs wsX6_rowActs) := goodIn_app (goodIn_of _ (by decide +kernel)) ggX6_does_X6_rowActs
set_option maxRecDepth 20000 in
theorem ggX6_does_X6_fieldActs : GoodIn wsX6_does wsX6_fieldActs := goodIn_r _ [69, 1, 4, 5, 2, 3, 70, 25, 17, 18, 19, 11, 20, 21, 22, 23, 24, 6, 26, 27, 28, 29, 30, 31, 32, 33, 34, 35, 36, 37, 38, 39, 40, 41, 42, 43, 44, 45, 46, 52, 53, 54, 71, 72, 73, 74, 75, 76, 77, 78, 51, 14, 79, 80, 81, 82, 83, 84, 85, 86, 87, 88, 89, 90, 91, 92, 93, 94, 95, 96, 97, 98, 99, 100, 101, 102, 103, 104, 105, 106, 107, 108] (by decide +kernel) (by decide +kernel)
set_option maxRecDepth 20000 in
theorem gX6_does_X6_fieldActs : GoodIn wsX6_does (wsV RX6 193 RX6 yX6_fieldActs wsX6_fieldActs) := goodIn_app (goodIn_of _ (by decide +kernel)) ggX6_does_X6_fieldActs
theorem dX6_does_0 : decode cX6_does 0 = .ok (.aload_n 0, 1) := by decide +kernel
theorem dX6_does_1 : decode cX6_does 1 = .ok (.getfield 37, 3) := by decide +kernel
