theorem dX0_init_0 : decode cX0_init 0 = .ok (.aload_n 0, 1) := by decide +kernel
theorem dX0_init_1 : decode cX0_init 1 = .ok (.invokespecial 1, 3) := by decide +kernel
theorem dX0_init_4 : decode cX0_init 4 = .ok (.aload_n 0, 1) := by decide +kernel
theorem dX0_init_5 : decode cX0_init 5 = .ok (.iload_n 1, 1) := by decide +kernel
theorem dX0_init_6 : decode cX0_init 6 = .ok (.putfield 7, 3) := by decide +kernel
theorem dX0_init_9 : decode cX0_init 9 = .ok (.aload_n 0, 1) := by decide +kernel
theorem dX0_init_10 : decode cX0_init 10 = .ok (.iload_n 2, 1) := by decide +kernel
theorem dX0_init_11 : decode cX0_init 11 = .ok (.putfield 13, 3) := by decide +kernel
theorem dX0_init_14 : decode cX0_init 14 = .ok (.aload_n 0, 1) := by decide +kernel
theorem dX0_init_15 : decode cX0_init 15 = .ok (.lload_n 3, 1) := by decide +kernel
theorem dX0_init_16 : decode cX0_init 16 = .ok (.putfield 16, 3) := by decide +kernel
theorem dX0_init_19 : decode cX0_init 19 = .ok (.aload_n 0, 1) := by decide +kernel
theorem dX0_init_20 : decode cX0_init 20 = .ok (.iload 5, 2) := by decide +kernel
theorem dX0_init_22 : decode cX0_init 22 = .ok (.putfield 20, 3) := by decide +kernel
theorem dX0_init_25 : decode cX0_init 25 = .ok (.aload_n 0, 1) := by decide +kernel
theorem dX0_init_26 : decode cX0_init 26 = .ok (.iload 6, 2) := by decide +kernel
theorem dX0_init_28 : decode cX0_init 28 = .ok (.putfield 23, 3) := by decide +kernel
theorem dX0_init_31 : decode cX0_init 31 = .ok (.aload_n 0, 1) := by decide +kernel
theorem dX0_init_32 : decode cX0_init 32 = .ok (.iload 7, 2) := by decide +kernel
theorem dX0_init_34 : decode cX0_init 34 = .ok (.putfield 26, 3) := by decide +kernel
theorem dX0_init_37 : decode cX0_init 37 = .ok (.return_, 1) := by decide +kernel
set_option maxRecDepth 20000 in
theorem ggX0_isAsTold_X0_fits : GoodIn wsX0_isAsTold wsX0_fits := goodIn_r _ [10, 11, 12, 13, 14, 15, 16, 17, 18] (by decide +kernel) (by decide +kernel)
set_option maxRecDepth 20000 in
theorem gX0_isAsTold_X0_fits : GoodIn wsX0_isAsTold (wsV RX0 29 RX0 yX0_fits wsX0_fits) := goodIn_app (goodIn_of _ (by decide +kernel)) ggX0_isAsTold_X0_fits
theorem dX0_isAsTold_0 : decode cX0_isAsTold 0 = .ok (.aload_n 0, 1) := by decide +kernel
theorem dX0_isAsTold_1 : decode cX0_isAsTold 1 = .ok (.iconst 0, 1) := by decide +kernel
theorem dX0_isAsTold_2 : decode cX0_isAsTold 2 = .ok (.aload_n 0, 1) := by decide +kernel
theorem dX0_isAsTold_3 : decode cX0_isAsTold 3 = .ok (.getfield 13, 3) := by decide +kernel
theorem dX0_isAsTold_6 : decode cX0_isAsTold 6 = .ok (.i2l, 1) := by decide +kernel
theorem dX0_isAsTold_7 : decode cX0_isAsTold 7 = .ok (.invokevirtual 29, 3) := by decide +kernel
theorem dX0_isAsTold_10 : decode cX0_isAsTold 10 = .ok (.ifCond .eq 58, 3) := by decide +kernel
theorem dX0_isAsTold_13 : decode cX0_isAsTold 13 = .ok (.aload_n 0, 1) := by decide +kernel
theorem dX0_isAsTold_14 : decode cX0_isAsTold 14 = .ok (.iconst 1, 1) := by decide +kernel
theorem dX0_isAsTold_15 : decode cX0_isAsTold 15 = .ok (.aload_n 0, 1) := by decide +kernel
theorem dX0_isAsTold_16 : decode cX0_isAsTold 16 = .ok (.getfield 16, 3) := by decide +kernel
theorem dX0_isAsTold_19 : decode cX0_isAsTold 19 = .ok (.invokevirtual 29, 3) := by decide +kernel
theorem dX0_isAsTold_22 : decode cX0_isAsTold 22 = .ok (.ifCond .eq 46, 3) := by decide +kernel
theorem dX0_isAsTold_25 : decode cX0_isAsTold 25 = .ok (.aload_n 0, 1) := by decide +kernel
theorem dX0_isAsTold_26 : decode cX0_isAsTold 26 = .ok (.iconst 2, 1) := by decide +kernel
theorem dX0_isAsTold_27 : decode cX0_isAsTold 27 = .ok (.aload_n 0, 1) := by decide +kernel
theorem dX0_isAsTold_28 : decode cX0_isAsTold 28 = .ok (.getfield 20, 3) := by decide +kernel
theorem dX0_isAsTold_31 : decode cX0_isAsTold 31 = .ok (.i2l, 1) := by decide +kernel
theorem dX0_isAsTold_32 : decode cX0_isAsTold 32 = .ok (.invokevirtual 29, 3) := by decide +kernel
theorem dX0_isAsTold_35 : decode cX0_isAsTold 35 = .ok (.ifCond .eq 33, 3) := by decide +kernel
theorem dX0_isAsTold_38 : decode cX0_isAsTold 38 = .ok (.aload_n 0, 1) := by decide +kernel
theorem dX0_isAsTold_39 : decode cX0_isAsTold 39 = .ok (.iconst 3, 1) := by decide +kernel
theorem dX0_isAsTold_40 : decode cX0_isAsTold 40 = .ok (.aload_n 0, 1) := by decide +kernel
theorem dX0_isAsTold_41 : decode cX0_isAsTold 41 = .ok (.getfield 23, 3) := by decide +kernel
theorem dX0_isAsTold_44 : decode cX0_isAsTold 44 = .ok (.i2l, 1) := by decide +kernel
theorem dX0_isAsTold_45 : decode cX0_isAsTold 45 = .ok (.invokevirtual 29, 3) := by decide +kernel
theorem dX0_isAsTold_48 : decode cX0_isAsTold 48 = .ok (.ifCond .eq 20, 3) := by decide +kernel
theorem dX0_isAsTold_51 : decode cX0_isAsTold 51 = .ok (.aload_n 0, 1) := by decide +kernel
theorem dX0_isAsTold_52 : decode cX0_isAsTold 52 = .ok (.iconst 4, 1) := by decide +kernel
theorem dX0_isAsTold_53 : decode cX0_isAsTold 53 = .ok (.aload_n 0, 1) := by decide +kernel
theorem dX0_isAsTold_54 : decode cX0_isAsTold 54 = .ok (.getfield 26, 3) := by decide +kernel
theorem dX0_isAsTold_57 : decode cX0_isAsTold 57 = .ok (.i2l, 1) := by decide +kernel
theorem dX0_isAsTold_58 : decode cX0_isAsTold 58 = .ok (.invokevirtual 29, 3) := by decide +kernel
theorem dX0_isAsTold_61 : decode cX0_isAsTold 61 = .ok (.ifCond .eq 7, 3) := by decide +kernel
theorem dX0_isAsTold_64 : decode cX0_isAsTold 64 = .ok (.iconst 1, 1) := by decide +kernel
theorem dX0_isAsTold_65 : decode cX0_isAsTold 65 = .ok (.goto 4, 3) := by decide +kernel
theorem dX0_isAsTold_68 : decode cX0_isAsTold 68 = .ok (.iconst 0, 1) := by decide +kernel
theorem dX0_isAsTold_69 : decode cX0_isAsTold 69 = .ok (.ireturn, 1) := by decide +kernel
theorem dX0_fits_0 : decode cX0_fits 0 = .ok (.getstatic 33, 3) := by decide +kernel
theorem dX0_fits_3 : decode cX0_fits 3 = .ok (.aload_n 0, 1) := by decide +kernel
theorem dX0_fits_4 : decode cX0_fits 4 = .ok (.getfield 7, 3) := by decide +kernel
theorem dX0_fits_7 : decode cX0_fits 7 = .ok (.iconst 5, 1) := by decide +kernel
theorem dX0_fits_8 : decode cX0_fits 8 = .ok (.imul, 1) := by decide +kernel
theorem dX0_fits_9 : decode cX0_fits 9 = .ok (.iload_n 1, 1) := by decide +kernel
theorem dX0_fits_10 : decode cX0_fits 10 = .ok (.iadd, 1) := by decide +kernel
theorem dX0_fits_11 : decode cX0_fits 11 = .ok (.iaload, 1) := by decide +kernel
theorem dX0_fits_12 : decode cX0_fits 12 = .ok (.istore 4, 2) := by decide +kernel
theorem dX0_fits_14 : decode cX0_fits 14 = .ok (.iload 4, 2) := by decide +kernel
theorem dX0_fits_16 : decode cX0_fits 16 = .ok (.iconst (-1), 1) := by decide +kernel
theorem dX0_fits_17 : decode cX0_fits 17 = .ok (.if_icmp .eq 17, 3) := by decide +kernel
theorem dX0_fits_20 : decode cX0_fits 20 = .ok (.lload_n 2, 1) := by decide +kernel
theorem dX0_fits_21 : decode cX0_fits 21 = .ok (.lconst 0, 1) := by decide +kernel
theorem dX0_fits_22 : decode cX0_fits 22 = .ok (.lcmp, 1) := by decide +kernel
theorem dX0_fits_23 : decode cX0_fits 23 = .ok (.ifCond .lt 15, 3) := by decide +kernel
theorem dX0_fits_26 : decode cX0_fits 26 = .ok (.lload_n 2, 1) := by decide +kernel
theorem dX0_fits_27 : decode cX0_fits 27 = .ok (.iload 4, 2) := by decide +kernel
theorem dX0_fits_29 : decode cX0_fits 29 = .ok (.i2l, 1) := by decide +kernel
theorem dX0_fits_30 : decode cX0_fits 30 = .ok (.lcmp, 1) := by decide +kernel
theorem dX0_fits_31 : decode cX0_fits 31 = .ok (.ifCond .gt 7, 3) := by decide +kernel
theorem dX0_fits_34 : decode cX0_fits 34 = .ok (.iconst 1, 1) := by decide +kernel
theorem dX0_fits_35 : decode cX0_fits 35 = .ok (.goto 4, 3) := by decide +kernel
theorem dX0_fits_38 : decode cX0_fits 38 = .ok (.iconst 0, 1) := by decide +kernel
theorem dX0_fits_39 : decode cX0_fits 39 = .ok (.ireturn, 1) := by decide +kernel
theorem dX1_init_0 : decode cX1_init 0 = .ok (.aload_n 0, 1) := by decide +kernel
theorem dX1_init_1 : decode cX1_init 1 = .ok (.invokespecial 3, 3) := by decide +kernel
theorem dX1_init_4 : decode cX1_init 4 = .ok (.aload_n 0, 1) := by decide +kernel
theorem dX1_init_5 : decode cX1_init 5 = .ok (.bipush 32, 2) := by decide +kernel
theorem dX1_init_7 : decode cX1_init 7 = .ok (.anewarray 9, 3) := by decide +kernel
theorem dX1_init_10 : decode cX1_init 10 = .ok (.putfield 11, 3) := by decide +kernel
theorem dX1_init_13 : decode cX1_init 13 = .ok (.return_, 1) := by decide +kernel
theorem dX1_append_0 : decode cX1_append 0 = .ok (.aload_n 0, 1) := by decide +kernel
theorem dX1_append_1 : decode cX1_append 1 = .ok (.getfield 17, 3) := by decide +kernel
theorem dX1_append_4 : decode cX1_append 4 = .ok (.bipush 32, 2) := by decide +kernel
theorem dX1_append_6 : decode cX1_append 6 = .ok (.if_icmp .lt 6, 3) := by decide +kernel
theorem dX1_append_9 : decode cX1_append 9 = .ok (.bipush (-2), 2) := by decide +kernel
theorem dX1_append_11 : decode cX1_append 11 = .ok (.ireturn, 1) := by decide +kernel
theorem dX1_append_12 : decode cX1_append 12 = .ok (.aload_n 0, 1) := by decide +kernel
theorem dX1_append_13 : decode cX1_append 13 = .ok (.getfield 11, 3) := by decide +kernel
theorem dX1_append_16 : decode cX1_append 16 = .ok (.aload_n 0, 1) := by decide +kernel
theorem dX1_append_17 : decode cX1_append 17 = .ok (.getfield 17, 3) := by decide +kernel
theorem dX1_append_20 : decode cX1_append 20 = .ok (.aload_n 1, 1) := by decide +kernel
theorem dX1_append_21 : decode cX1_append 21 = .ok (.aastore, 1) := by decide +kernel
theorem dX1_append_22 : decode cX1_append 22 = .ok (.aload_n 0, 1) := by decide +kernel
theorem dX1_append_23 : decode cX1_append 23 = .ok (.dup, 1) := by decide +kernel
theorem dX1_append_24 : decode cX1_append 24 = .ok (.getfield 17, 3) := by decide +kernel
theorem dX1_append_27 : decode cX1_append 27 = .ok (.iconst 1, 1) := by decide +kernel
theorem dX1_append_28 : decode cX1_append 28 = .ok (.iadd, 1) := by decide +kernel
theorem dX1_append_29 : decode cX1_append 29 = .ok (.putfield 17, 3) := by decide +kernel
theorem dX1_append_32 : decode cX1_append 32 = .ok (.aload_n 0, 1) := by decide +kernel
theorem dX1_append_33 : decode cX1_append 33 = .ok (.getfield 17, 3) := by decide +kernel
theorem dX1_append_36 : decode cX1_append 36 = .ok (.iconst 1, 1) := by decide +kernel
theorem dX1_append_37 : decode cX1_append 37 = .ok (.isub, 1) := by decide +kernel
theorem dX1_append_38 : decode cX1_append 38 = .ok (.ireturn, 1) := by decide +kernel
theorem dX1_empty_0 : decode cX1_empty 0 = .ok (.aload_n 0, 1) := by decide +kernel
theorem dX1_empty_1 : decode cX1_empty 1 = .ok (.getfield 17, 3) := by decide +kernel
theorem dX1_empty_4 : decode cX1_empty 4 = .ok (.istore_n 1, 1) := by decide +kernel
theorem dX1_empty_5 : decode cX1_empty 5 = .ok (.aload_n 0, 1) := by decide +kernel
theorem dX1_empty_6 : decode cX1_empty 6 = .ok (.iconst 0, 1) := by decide +kernel
theorem dX1_empty_7 : decode cX1_empty 7 = .ok (.putfield 17, 3) := by decide +kernel
theorem dX1_empty_10 : decode cX1_empty 10 = .ok (.iload_n 1, 1) := by decide +kernel
theorem dX1_empty_11 : decode cX1_empty 11 = .ok (.ireturn, 1) := by decide +kernel
theorem dX1_actAt_0 : decode cX1_actAt 0 = .ok (.iload_n 1, 1) := by decide +kernel
theorem dX1_actAt_1 : decode cX1_actAt 1 = .ok (.ifCond .lt 20, 3) := by decide +kernel
theorem dX1_actAt_4 : decode cX1_actAt 4 = .ok (.iload_n 1, 1) := by decide +kernel
theorem dX1_actAt_5 : decode cX1_actAt 5 = .ok (.aload_n 0, 1) := by decide +kernel
theorem dX1_actAt_6 : decode cX1_actAt 6 = .ok (.getfield 17, 3) := by decide +kernel
theorem dX1_actAt_9 : decode cX1_actAt 9 = .ok (.if_icmp .ge 12, 3) := by decide +kernel
theorem dX1_actAt_12 : decode cX1_actAt 12 = .ok (.aload_n 0, 1) := by decide +kernel
theorem dX1_actAt_13 : decode cX1_actAt 13 = .ok (.getfield 11, 3) := by decide +kernel
theorem dX1_actAt_16 : decode cX1_actAt 16 = .ok (.iload_n 1, 1) := by decide +kernel
theorem dX1_actAt_17 : decode cX1_actAt 17 = .ok (.aaload, 1) := by decide +kernel
theorem dX1_actAt_18 : decode cX1_actAt 18 = .ok (.goto 4, 3) := by decide +kernel
theorem dX1_actAt_21 : decode cX1_actAt 21 = .ok (.aconst_null, 1) := by decide +kernel
theorem dX1_actAt_22 : decode cX1_actAt 22 = .ok (.areturn, 1) := by decide +kernel
theorem dX2_init_0 : decode cX2_init 0 = .ok (.aload_n 0, 1) := by decide +kernel
theorem dX2_init_1 : decode cX2_init 1 = .ok (.invokespecial 3, 3) := by decide +kernel
theorem dX2_init_4 : decode cX2_init 4 = .ok (.aload_n 0, 1) := by decide +kernel
theorem dX2_init_5 : decode cX2_init 5 = .ok (.bipush 8, 2) := by decide +kernel
theorem dX2_init_7 : decode cX2_init 7 = .ok (.newarray .long, 2) := by decide +kernel
theorem dX2_init_9 : decode cX2_init 9 = .ok (.putfield 9, 3) := by decide +kernel
theorem dX2_init_12 : decode cX2_init 12 = .ok (.aload_n 0, 1) := by decide +kernel
theorem dX2_init_13 : decode cX2_init 13 = .ok (.bipush 16, 2) := by decide +kernel
theorem dX2_init_15 : decode cX2_init 15 = .ok (.newarray .int, 2) := by decide +kernel
theorem dX2_init_17 : decode cX2_init 17 = .ok (.putfield 15, 3) := by decide +kernel
theorem dX2_init_20 : decode cX2_init 20 = .ok (.aload_n 0, 1) := by decide +kernel
theorem dX2_init_21 : decode cX2_init 21 = .ok (.iload_n 1, 1) := by decide +kernel
theorem dX2_init_22 : decode cX2_init 22 = .ok (.putfield 19, 3) := by decide +kernel
theorem dX2_init_25 : decode cX2_init 25 = .ok (.iconst 0, 1) := by decide +kernel
theorem dX2_init_26 : decode cX2_init 26 = .ok (.istore_n 2, 1) := by decide +kernel
theorem dX2_init_27 : decode cX2_init 27 = .ok (.iload_n 2, 1) := by decide +kernel
theorem dX2_init_28 : decode cX2_init 28 = .ok (.bipush 8, 2) := by decide +kernel
theorem dX2_init_30 : decode cX2_init 30 = .ok (.if_icmp .ge 43, 3) := by decide +kernel
theorem dX2_init_33 : decode cX2_init 33 = .ok (.getstatic 23, 3) := by decide +kernel
theorem dX2_init_36 : decode cX2_init 36 = .ok (.iload_n 1, 1) := by decide +kernel
theorem dX2_init_37 : decode cX2_init 37 = .ok (.bipush 8, 2) := by decide +kernel
theorem dX2_init_39 : decode cX2_init 39 = .ok (.imul, 1) := by decide +kernel
theorem dX2_init_40 : decode cX2_init 40 = .ok (.iload_n 2, 1) := by decide +kernel
theorem dX2_init_41 : decode cX2_init 41 = .ok (.iadd, 1) := by decide +kernel
theorem dX2_init_42 : decode cX2_init 42 = .ok (.iaload, 1) := by decide +kernel
theorem dX2_init_43 : decode cX2_init 43 = .ok (.istore_n 3, 1) := by decide +kernel
theorem dX2_init_44 : decode cX2_init 44 = .ok (.aload_n 0, 1) := by decide +kernel
theorem dX2_init_45 : decode cX2_init 45 = .ok (.getfield 9, 3) := by decide +kernel
theorem dX2_init_48 : decode cX2_init 48 = .ok (.iload_n 2, 1) := by decide +kernel
theorem dX2_init_49 : decode cX2_init 49 = .ok (.iload_n 3, 1) := by decide +kernel
theorem dX2_init_50 : decode cX2_init 50 = .ok (.iconst 2, 1) := by decide +kernel
theorem dX2_init_51 : decode cX2_init 51 = .ok (.if_icmp .eq 8, 3) := by decide +kernel
theorem dX2_init_54 : decode cX2_init 54 = .ok (.iload_n 3, 1) := by decide +kernel
theorem dX2_init_55 : decode cX2_init 55 = .ok (.iconst 3, 1) := by decide +kernel
theorem dX2_init_56 : decode cX2_init 56 = .ok (.if_icmp .ne 9, 3) := by decide +kernel
theorem dX2_init_59 : decode cX2_init 59 = .ok (.ldc2_w 26, 3) := by decide +kernel
theorem dX2_init_62 : decode cX2_init 62 = .ok (.goto 4, 3) := by decide +kernel
theorem dX2_init_65 : decode cX2_init 65 = .ok (.lconst 0, 1) := by decide +kernel
theorem dX2_init_66 : decode cX2_init 66 = .ok (.lastore, 1) := by decide +kernel
theorem dX2_init_67 : decode cX2_init 67 = .ok (.iinc 2 1, 3) := by decide +kernel
theorem dX2_init_70 : decode cX2_init 70 = .ok (.goto (-43), 3) := by decide +kernel
theorem dX2_init_73 : decode cX2_init 73 = .ok (.return_, 1) := by decide +kernel
theorem dX2_itemPlace_0 : decode cX2_itemPlace 0 = .ok (.iload_n 0, 1) := by decide +kernel
theorem dX2_itemPlace_1 : decode cX2_itemPlace 1 = .ok (.iconst 2, 1) := by decide +kernel
theorem dX2_itemPlace_2 : decode cX2_itemPlace 2 = .ok (.if_icmp .ne 8, 3) := by decide +kernel
theorem dX2_itemPlace_5 : decode cX2_itemPlace 5 = .ok (.bipush 8, 2) := by decide +kernel
theorem dX2_itemPlace_7 : decode cX2_itemPlace 7 = .ok (.goto 4, 3) := by decide +kernel
theorem dX2_itemPlace_10 : decode cX2_itemPlace 10 = .ok (.iconst 0, 1) := by decide +kernel
theorem dX2_itemPlace_11 : decode cX2_itemPlace 11 = .ok (.iload_n 1, 1) := by decide +kernel
theorem dX2_itemPlace_12 : decode cX2_itemPlace 12 = .ok (.iadd, 1) := by decide +kernel
theorem dX2_itemPlace_13 : decode cX2_itemPlace 13 = .ok (.ireturn, 1) := by decide +kernel
theorem dX2_sortOf_0 : decode cX2_sortOf 0 = .ok (.iload_n 1, 1) := by decide +kernel
theorem dX2_sortOf_1 : decode cX2_sortOf 1 = .ok (.ifCond .lt 25, 3) := by decide +kernel
theorem dX2_sortOf_4 : decode cX2_sortOf 4 = .ok (.iload_n 1, 1) := by decide +kernel
theorem dX2_sortOf_5 : decode cX2_sortOf 5 = .ok (.bipush 8, 2) := by decide +kernel
theorem dX2_sortOf_7 : decode cX2_sortOf 7 = .ok (.if_icmp .ge 19, 3) := by decide +kernel
theorem dX2_sortOf_10 : decode cX2_sortOf 10 = .ok (.getstatic 23, 3) := by decide +kernel
theorem dX2_sortOf_13 : decode cX2_sortOf 13 = .ok (.aload_n 0, 1) := by decide +kernel
theorem dX2_sortOf_14 : decode cX2_sortOf 14 = .ok (.getfield 19, 3) := by decide +kernel
theorem dX2_sortOf_17 : decode cX2_sortOf 17 = .ok (.bipush 8, 2) := by decide +kernel
theorem dX2_sortOf_19 : decode cX2_sortOf 19 = .ok (.imul, 1) := by decide +kernel
theorem dX2_sortOf_20 : decode cX2_sortOf 20 = .ok (.iload_n 1, 1) := by decide +kernel
theorem dX2_sortOf_21 : decode cX2_sortOf 21 = .ok (.iadd, 1) := by decide +kernel
theorem dX2_sortOf_22 : decode cX2_sortOf 22 = .ok (.iaload, 1) := by decide +kernel
theorem dX2_sortOf_23 : decode cX2_sortOf 23 = .ok (.goto 4, 3) := by decide +kernel
theorem dX2_sortOf_26 : decode cX2_sortOf 26 = .ok (.iconst 0, 1) := by decide +kernel
theorem dX2_sortOf_27 : decode cX2_sortOf 27 = .ok (.ireturn, 1) := by decide +kernel
theorem dX2_hasItem_0 : decode cX2_hasItem 0 = .ok (.lload_n 2, 1) := by decide +kernel
theorem dX2_hasItem_1 : decode cX2_hasItem 1 = .ok (.lconst 0, 1) := by decide +kernel
theorem dX2_hasItem_2 : decode cX2_hasItem 2 = .ok (.lcmp, 1) := by decide +kernel
theorem dX2_hasItem_3 : decode cX2_hasItem 3 = .ok (.ifCond .lt 18, 3) := by decide +kernel
theorem dX2_hasItem_6 : decode cX2_hasItem 6 = .ok (.lload_n 2, 1) := by decide +kernel
theorem dX2_hasItem_7 : decode cX2_hasItem 7 = .ok (.aload_n 0, 1) := by decide +kernel
theorem dX2_hasItem_8 : decode cX2_hasItem 8 = .ok (.getfield 9, 3) := by decide +kernel
theorem dX2_hasItem_11 : decode cX2_hasItem 11 = .ok (.iload_n 1, 1) := by decide +kernel
theorem dX2_hasItem_12 : decode cX2_hasItem 12 = .ok (.laload, 1) := by decide +kernel
theorem dX2_hasItem_13 : decode cX2_hasItem 13 = .ok (.lcmp, 1) := by decide +kernel
theorem dX2_hasItem_14 : decode cX2_hasItem 14 = .ok (.ifCond .ge 7, 3) := by decide +kernel
theorem dX2_hasItem_17 : decode cX2_hasItem 17 = .ok (.iconst 1, 1) := by decide +kernel
theorem dX2_hasItem_18 : decode cX2_hasItem 18 = .ok (.goto 4, 3) := by decide +kernel
theorem dX2_hasItem_21 : decode cX2_hasItem 21 = .ok (.iconst 0, 1) := by decide +kernel
theorem dX2_hasItem_22 : decode cX2_hasItem 22 = .ok (.ireturn, 1) := by decide +kernel
set_option maxRecDepth 20000 in
theorem ggX2_hasBlankRow_X2_itemPlace : GoodIn wsX2_hasBlankRow wsX2_itemPlace := goodIn_r _ [6] (by decide +kernel) (by decide +kernel)
set_option maxRecDepth 20000 in
theorem gX2_hasBlankRow_X2_itemPlace : GoodIn wsX2_hasBlankRow (va_wsS RX2 28 yX2_itemPlace wsX2_itemPlace) := goodIn_app (goodIn_of _ (by decide +kernel)) ggX2_hasBlankRow_X2_itemPlace
theorem dX2_hasBlankRow_0 : decode cX2_hasBlankRow 0 = .ok (.aload_n 0, 1) := by decide +kernel
theorem dX2_hasBlankRow_1 : decode cX2_hasBlankRow 1 = .ok (.getfield 9, 3) := by decide +kernel
theorem dX2_hasBlankRow_4 : decode cX2_hasBlankRow 4 = .ok (.iload_n 1, 1) := by decide +kernel
theorem dX2_hasBlankRow_5 : decode cX2_hasBlankRow 5 = .ok (.laload, 1) := by decide +kernel
theorem dX2_hasBlankRow_6 : decode cX2_hasBlankRow 6 = .ok (.iload_n 2, 1) := by decide +kernel
theorem dX2_hasBlankRow_7 : decode cX2_hasBlankRow 7 = .ok (.i2l, 1) := by decide +kernel
theorem dX2_hasBlankRow_8 : decode cX2_hasBlankRow 8 = .ok (.lcmp, 1) := by decide +kernel
theorem dX2_hasBlankRow_9 : decode cX2_hasBlankRow 9 = .ok (.ifCond .eq 5, 3) := by decide +kernel
theorem dX2_hasBlankRow_12 : decode cX2_hasBlankRow 12 = .ok (.iconst 0, 1) := by decide +kernel
theorem dX2_hasBlankRow_13 : decode cX2_hasBlankRow 13 = .ok (.ireturn, 1) := by decide +kernel
theorem dX2_hasBlankRow_14 : decode cX2_hasBlankRow 14 = .ok (.iconst 0, 1) := by decide +kernel
theorem dX2_hasBlankRow_15 : decode cX2_hasBlankRow 15 = .ok (.istore_n 3, 1) := by decide +kernel
theorem dX2_hasBlankRow_16 : decode cX2_hasBlankRow 16 = .ok (.iload_n 3, 1) := by decide +kernel
theorem dX2_hasBlankRow_17 : decode cX2_hasBlankRow 17 = .ok (.bipush 8, 2) := by decide +kernel
theorem dX2_hasBlankRow_19 : decode cX2_hasBlankRow 19 = .ok (.if_icmp .ge 24, 3) := by decide +kernel
theorem dX2_hasBlankRow_22 : decode cX2_hasBlankRow 22 = .ok (.aload_n 0, 1) := by decide +kernel
theorem dX2_hasBlankRow_23 : decode cX2_hasBlankRow 23 = .ok (.getfield 15, 3) := by decide +kernel
theorem dX2_hasBlankRow_26 : decode cX2_hasBlankRow 26 = .ok (.iload_n 1, 1) := by decide +kernel
theorem dX2_hasBlankRow_27 : decode cX2_hasBlankRow 27 = .ok (.iload_n 3, 1) := by decide +kernel
theorem dX2_hasBlankRow_28 : decode cX2_hasBlankRow 28 = .ok (.invokestatic 28, 3) := by decide +kernel
theorem dX2_hasBlankRow_31 : decode cX2_hasBlankRow 31 = .ok (.iaload, 1) := by decide +kernel
theorem dX2_hasBlankRow_32 : decode cX2_hasBlankRow 32 = .ok (.ifCond .eq 5, 3) := by decide +kernel
theorem dX2_hasBlankRow_35 : decode cX2_hasBlankRow 35 = .ok (.iconst 0, 1) := by decide +kernel
theorem dX2_hasBlankRow_36 : decode cX2_hasBlankRow 36 = .ok (.ireturn, 1) := by decide +kernel
theorem dX2_hasBlankRow_37 : decode cX2_hasBlankRow 37 = .ok (.iinc 3 1, 3) := by decide +kernel
theorem dX2_hasBlankRow_40 : decode cX2_hasBlankRow 40 = .ok (.goto (-24), 3) := by decide +kernel
theorem dX2_hasBlankRow_43 : decode cX2_hasBlankRow 43 = .ok (.iconst 1, 1) := by decide +kernel
theorem dX2_hasBlankRow_44 : decode cX2_hasBlankRow 44 = .ok (.ireturn, 1) := by decide +kernel
set_option maxRecDepth 20000 in
theorem ggX2_renewRow_X2_itemPlace : GoodIn wsX2_renewRow wsX2_itemPlace := goodIn_r _ [6] (by decide +kernel) (by decide +kernel)
set_option maxRecDepth 20000 in
theorem gX2_renewRow_X2_itemPlace : GoodIn wsX2_renewRow (va_wsS RX2 28 yX2_itemPlace wsX2_itemPlace) := goodIn_app (goodIn_of _ (by decide +kernel)) ggX2_renewRow_X2_itemPlace
theorem dX2_renewRow_0 : decode cX2_renewRow 0 = .ok (.aload_n 0, 1) := by decide +kernel
theorem dX2_renewRow_1 : decode cX2_renewRow 1 = .ok (.getfield 9, 3) := by decide +kernel
theorem dX2_renewRow_4 : decode cX2_renewRow 4 = .ok (.iload_n 1, 1) := by decide +kernel
theorem dX2_renewRow_5 : decode cX2_renewRow 5 = .ok (.iload_n 2, 1) := by decide +kernel
theorem dX2_renewRow_6 : decode cX2_renewRow 6 = .ok (.i2l, 1) := by decide +kernel
theorem dX2_renewRow_7 : decode cX2_renewRow 7 = .ok (.lastore, 1) := by decide +kernel
theorem dX2_renewRow_8 : decode cX2_renewRow 8 = .ok (.iconst 0, 1) := by decide +kernel
theorem dX2_renewRow_9 : decode cX2_renewRow 9 = .ok (.istore_n 3, 1) := by decide +kernel
theorem dX2_renewRow_10 : decode cX2_renewRow 10 = .ok (.iload_n 3, 1) := by decide +kernel
theorem dX2_renewRow_11 : decode cX2_renewRow 11 = .ok (.bipush 8, 2) := by decide +kernel
theorem dX2_renewRow_13 : decode cX2_renewRow 13 = .ok (.if_icmp .ge 20, 3) := by decide +kernel
theorem dX2_renewRow_16 : decode cX2_renewRow 16 = .ok (.aload_n 0, 1) := by decide +kernel
theorem dX2_renewRow_17 : decode cX2_renewRow 17 = .ok (.getfield 15, 3) := by decide +kernel
theorem dX2_renewRow_20 : decode cX2_renewRow 20 = .ok (.iload_n 1, 1) := by decide +kernel
theorem dX2_renewRow_21 : decode cX2_renewRow 21 = .ok (.iload_n 3, 1) := by decide +kernel
theorem dX2_renewRow_22 : decode cX2_renewRow 22 = .ok (.invokestatic 28, 3) := by decide +kernel
theorem dX2_renewRow_25 : decode cX2_renewRow 25 = .ok (.iconst 0, 1) := by decide +kernel
theorem dX2_renewRow_26 : decode cX2_renewRow 26 = .ok (.iastore, 1) := by decide +kernel
theorem dX2_renewRow_27 : decode cX2_renewRow 27 = .ok (.iinc 3 1, 3) := by decide +kernel
theorem dX2_renewRow_30 : decode cX2_renewRow 30 = .ok (.goto (-20), 3) := by decide +kernel
theorem dX2_renewRow_33 : decode cX2_renewRow 33 = .ok (.return_, 1) := by decide +kernel
set_option maxRecDepth 20000 in
theorem ggX2_hasSameField_X2_sortOf : GoodIn wsX2_hasSameField wsX2_sortOf := goodIn_r _ [6, 7, 8, 17, 18, 19, 20, 21] (by decide +kernel) (by decide +kernel)
set_option maxRecDepth 20000 in
theorem gX2_hasSameField_X2_sortOf : GoodIn wsX2_hasSameField (wsV RX2 32 RX2 yX2_sortOf wsX2_sortOf) := goodIn_app (goodIn_of _ (by decide +kernel)) ggX2_hasSameField_X2_sortOf
set_option maxRecDepth 20000 in
theorem ggX2_hasSameField_X2_hasSameItems : GoodIn wsX2_hasSameField wsX2_hasSameItems := goodIn_r _ [12, 13, 14, 15, 5, 16, 17, 18, 19, 20, 21] (by decide +kernel) (by decide +kernel)
set_option maxRecDepth 20000 in
theorem gX2_hasSameField_X2_hasSameItems : GoodIn wsX2_hasSameField (wsV RX2 36 RX2 yX2_hasSameItems wsX2_hasSameItems) := goodIn_app (goodIn_of _ (by decide +kernel)) ggX2_hasSameField_X2_hasSameItems
theorem dX2_hasSameField_0 : decode cX2_hasSameField 0 = .ok (.aload_n 0, 1) := by decide +kernel
theorem dX2_hasSameField_1 : decode cX2_hasSameField 1 = .ok (.getfield 9, 3) := by decide +kernel
theorem dX2_hasSameField_4 : decode cX2_hasSameField 4 = .ok (.iload_n 2, 1) := by decide +kernel
theorem dX2_hasSameField_5 : decode cX2_hasSameField 5 = .ok (.laload, 1) := by decide +kernel
theorem dX2_hasSameField_6 : decode cX2_hasSameField 6 = .ok (.aload_n 1, 1) := by decide +kernel
theorem dX2_hasSameField_7 : decode cX2_hasSameField 7 = .ok (.getfield 9, 3) := by decide +kernel
theorem dX2_hasSameField_10 : decode cX2_hasSameField 10 = .ok (.iload_n 2, 1) := by decide +kernel
theorem dX2_hasSameField_11 : decode cX2_hasSameField 11 = .ok (.laload, 1) := by decide +kernel
theorem dX2_hasSameField_12 : decode cX2_hasSameField 12 = .ok (.lcmp, 1) := by decide +kernel
theorem dX2_hasSameField_13 : decode cX2_hasSameField 13 = .ok (.ifCond .eq 5, 3) := by decide +kernel
theorem dX2_hasSameField_16 : decode cX2_hasSameField 16 = .ok (.iconst 0, 1) := by decide +kernel
theorem dX2_hasSameField_17 : decode cX2_hasSameField 17 = .ok (.ireturn, 1) := by decide +kernel
theorem dX2_hasSameField_18 : decode cX2_hasSameField 18 = .ok (.aload_n 0, 1) := by decide +kernel
theorem dX2_hasSameField_19 : decode cX2_hasSameField 19 = .ok (.iload_n 2, 1) := by decide +kernel
theorem dX2_hasSameField_20 : decode cX2_hasSameField 20 = .ok (.invokevirtual 32, 3) := by decide +kernel
theorem dX2_hasSameField_23 : decode cX2_hasSameField 23 = .ok (.iconst 3, 1) := by decide +kernel
theorem dX2_hasSameField_24 : decode cX2_hasSameField 24 = .ok (.if_icmp .ne 12, 3) := by decide +kernel
theorem dX2_hasSameField_27 : decode cX2_hasSameField 27 = .ok (.aload_n 0, 1) := by decide +kernel
theorem dX2_hasSameField_28 : decode cX2_hasSameField 28 = .ok (.aload_n 1, 1) := by decide +kernel
theorem dX2_hasSameField_29 : decode cX2_hasSameField 29 = .ok (.iload_n 2, 1) := by decide +kernel
theorem dX2_hasSameField_30 : decode cX2_hasSameField 30 = .ok (.invokevirtual 36, 3) := by decide +kernel
theorem dX2_hasSameField_33 : decode cX2_hasSameField 33 = .ok (.ifCond .eq 7, 3) := by decide +kernel
theorem dX2_hasSameField_36 : decode cX2_hasSameField 36 = .ok (.iconst 1, 1) := by decide +kernel
theorem dX2_hasSameField_37 : decode cX2_hasSameField 37 = .ok (.goto 4, 3) := by decide +kernel
theorem dX2_hasSameField_40 : decode cX2_hasSameField 40 = .ok (.iconst 0, 1) := by decide +kernel
theorem dX2_hasSameField_41 : decode cX2_hasSameField 41 = .ok (.ireturn, 1) := by decide +kernel
set_option maxRecDepth 20000 in
theorem ggX2_hasSameItems_X2_itemPlace : GoodIn wsX2_hasSameItems wsX2_itemPlace := goodIn_r _ [5] (by decide +kernel) (by decide +kernel)
set_option maxRecDepth 20000 in
theorem gX2_hasSameItems_X2_itemPlace : GoodIn wsX2_hasSameItems (va_wsS RX2 28 yX2_itemPlace wsX2_itemPlace) := goodIn_app (goodIn_of _ (by decide +kernel)) ggX2_hasSameItems_X2_itemPlace
theorem dX2_hasSameItems_0 : decode cX2_hasSameItems 0 = .ok (.iconst 0, 1) := by decide +kernel
theorem dX2_hasSameItems_1 : decode cX2_hasSameItems 1 = .ok (.istore_n 3, 1) := by decide +kernel
theorem dX2_hasSameItems_2 : decode cX2_hasSameItems 2 = .ok (.iload_n 3, 1) := by decide +kernel
theorem dX2_hasSameItems_3 : decode cX2_hasSameItems 3 = .ok (.bipush 8, 2) := by decide +kernel
theorem dX2_hasSameItems_5 : decode cX2_hasSameItems 5 = .ok (.if_icmp .ge 34, 3) := by decide +kernel
theorem dX2_hasSameItems_8 : decode cX2_hasSameItems 8 = .ok (.aload_n 0, 1) := by decide +kernel
theorem dX2_hasSameItems_9 : decode cX2_hasSameItems 9 = .ok (.getfield 15, 3) := by decide +kernel
theorem dX2_hasSameItems_12 : decode cX2_hasSameItems 12 = .ok (.iload_n 2, 1) := by decide +kernel
theorem dX2_hasSameItems_13 : decode cX2_hasSameItems 13 = .ok (.iload_n 3, 1) := by decide +kernel
theorem dX2_hasSameItems_14 : decode cX2_hasSameItems 14 = .ok (.invokestatic 28, 3) := by decide +kernel
theorem dX2_hasSameItems_17 : decode cX2_hasSameItems 17 = .ok (.iaload, 1) := by decide +kernel
theorem dX2_hasSameItems_18 : decode cX2_hasSameItems 18 = .ok (.aload_n 1, 1) := by decide +kernel
theorem dX2_hasSameItems_19 : decode cX2_hasSameItems 19 = .ok (.getfield 15, 3) := by decide +kernel
theorem dX2_hasSameItems_22 : decode cX2_hasSameItems 22 = .ok (.iload_n 2, 1) := by decide +kernel
theorem dX2_hasSameItems_23 : decode cX2_hasSameItems 23 = .ok (.iload_n 3, 1) := by decide +kernel
theorem dX2_hasSameItems_24 : decode cX2_hasSameItems 24 = .ok (.invokestatic 28, 3) := by decide +kernel
theorem dX2_hasSameItems_27 : decode cX2_hasSameItems 27 = .ok (.iaload, 1) := by decide +kernel
theorem dX2_hasSameItems_28 : decode cX2_hasSameItems 28 = .ok (.if_icmp .eq 5, 3) := by decide +kernel
theorem dX2_hasSameItems_31 : decode cX2_hasSameItems 31 = .ok (.iconst 0, 1) := by decide +kernel
theorem dX2_hasSameItems_32 : decode cX2_hasSameItems 32 = .ok (.ireturn, 1) := by decide +kernel
theorem dX2_hasSameItems_33 : decode cX2_hasSameItems 33 = .ok (.iinc 3 1, 3) := by decide +kernel
theorem dX2_hasSameItems_36 : decode cX2_hasSameItems 36 = .ok (.goto (-34), 3) := by decide +kernel
theorem dX2_hasSameItems_39 : decode cX2_hasSameItems 39 = .ok (.iconst 1, 1) := by decide +kernel
theorem dX2_hasSameItems_40 : decode cX2_hasSameItems 40 = .ok (.ireturn, 1) := by decide +kernel
theorem dX2_copyFrom_0 : decode cX2_copyFrom 0 = .ok (.aload_n 1, 1) := by decide +kernel
theorem dX2_copyFrom_1 : decode cX2_copyFrom 1 = .ok (.getfield 9, 3) := by decide +kernel
theorem dX2_copyFrom_4 : decode cX2_copyFrom 4 = .ok (.iconst 0, 1) := by decide +kernel
theorem dX2_copyFrom_5 : decode cX2_copyFrom 5 = .ok (.aload_n 0, 1) := by decide +kernel
theorem dX2_copyFrom_6 : decode cX2_copyFrom 6 = .ok (.getfield 9, 3) := by decide +kernel
theorem dX2_copyFrom_9 : decode cX2_copyFrom 9 = .ok (.iconst 0, 1) := by decide +kernel
theorem dX2_copyFrom_10 : decode cX2_copyFrom 10 = .ok (.bipush 8, 2) := by decide +kernel
theorem dX2_copyFrom_12 : decode cX2_copyFrom 12 = .ok (.invokestatic 40, 3) := by decide +kernel
theorem dX2_copyFrom_15 : decode cX2_copyFrom 15 = .ok (.aload_n 1, 1) := by decide +kernel
theorem dX2_copyFrom_16 : decode cX2_copyFrom 16 = .ok (.getfield 15, 3) := by decide +kernel
theorem dX2_copyFrom_19 : decode cX2_copyFrom 19 = .ok (.iconst 0, 1) := by decide +kernel
theorem dX2_copyFrom_20 : decode cX2_copyFrom 20 = .ok (.aload_n 0, 1) := by decide +kernel
theorem dX2_copyFrom_21 : decode cX2_copyFrom 21 = .ok (.getfield 15, 3) := by decide +kernel
theorem dX2_copyFrom_24 : decode cX2_copyFrom 24 = .ok (.iconst 0, 1) := by decide +kernel
theorem dX2_copyFrom_25 : decode cX2_copyFrom 25 = .ok (.bipush 16, 2) := by decide +kernel
theorem dX2_copyFrom_27 : decode cX2_copyFrom 27 = .ok (.invokestatic 40, 3) := by decide +kernel
theorem dX2_copyFrom_30 : decode cX2_copyFrom 30 = .ok (.return_, 1) := by decide +kernel
theorem dX2_asOf_0 : decode cX2_asOf 0 = .ok (.aload_n 0, 1) := by decide +kernel
theorem dX2_asOf_1 : decode cX2_asOf 1 = .ok (.astore_n 2, 1) := by decide +kernel
theorem dX2_asOf_2 : decode cX2_asOf 2 = .ok (.aload_n 2, 1) := by decide +kernel
theorem dX2_asOf_3 : decode cX2_asOf 3 = .ok (.getfield 46, 3) := by decide +kernel
theorem dX2_asOf_6 : decode cX2_asOf 6 = .ok (.ifnull 19, 3) := by decide +kernel
theorem dX2_asOf_9 : decode cX2_asOf 9 = .ok (.aload_n 2, 1) := by decide +kernel
theorem dX2_asOf_10 : decode cX2_asOf 10 = .ok (.getfield 50, 3) := by decide +kernel
theorem dX2_asOf_13 : decode cX2_asOf 13 = .ok (.iload_n 1, 1) := by decide +kernel
theorem dX2_asOf_14 : decode cX2_asOf 14 = .ok (.if_icmp .le 11, 3) := by decide +kernel
theorem dX2_asOf_17 : decode cX2_asOf 17 = .ok (.aload_n 2, 1) := by decide +kernel
theorem dX2_asOf_18 : decode cX2_asOf 18 = .ok (.getfield 46, 3) := by decide +kernel
theorem dX2_asOf_21 : decode cX2_asOf 21 = .ok (.astore_n 2, 1) := by decide +kernel
theorem dX2_asOf_22 : decode cX2_asOf 22 = .ok (.goto (-20), 3) := by decide +kernel
theorem dX2_asOf_25 : decode cX2_asOf 25 = .ok (.aload_n 2, 1) := by decide +kernel
theorem dX2_asOf_26 : decode cX2_asOf 26 = .ok (.areturn, 1) := by decide +kernel
set_option maxRecDepth 20000 in
theorem ggX3_init_X4_init : GoodIn wsX3_init wsX4_init := goodIn_r _ [16, 17, 2, 3, 11, 18, 19, 20, 21, 22, 23, 24, 25] (by decide +kernel) (by decide +kernel)
set_option maxRecDepth 20000 in
theorem gX3_init_X4_init_n11 : GoodIn wsX3_init (wsX4_init) := ggX3_init_X4_init
theorem dX3_init_0 : decode cX3_init 0 = .ok (.aload_n 0, 1) := by decide +kernel
theorem dX3_init_1 : decode cX3_init 1 = .ok (.invokespecial 3, 3) := by decide +kernel
theorem dX3_init_4 : decode cX3_init 4 = .ok (.aload_n 0, 1) := by decide +kernel
theorem dX3_init_5 : decode cX3_init 5 = .ok (.new 9, 3) := by decide +kernel
theorem dX3_init_8 : decode cX3_init 8 = .ok (.dup, 1) := by decide +kernel
theorem dX3_init_9 : decode cX3_init 9 = .ok (.invokespecial 11, 3) := by decide +kernel
theorem dX3_init_12 : decode cX3_init 12 = .ok (.putfield 12, 3) := by decide +kernel
theorem dX3_init_15 : decode cX3_init 15 = .ok (.aload_n 0, 1) := by decide +kernel
theorem dX3_init_16 : decode cX3_init 16 = .ok (.bipush (-3), 2) := by decide +kernel
theorem dX3_init_18 : decode cX3_init 18 = .ok (.putfield 18, 3) := by decide +kernel
theorem dX3_init_21 : decode cX3_init 21 = .ok (.aload_n 0, 1) := by decide +kernel
theorem dX3_init_22 : decode cX3_init 22 = .ok (.bipush 24, 2) := by decide +kernel
theorem dX3_init_24 : decode cX3_init 24 = .ok (.anewarray 22, 3) := by decide +kernel
theorem dX3_init_27 : decode cX3_init 27 = .ok (.putfield 24, 3) := by decide +kernel
theorem dX3_init_30 : decode cX3_init 30 = .ok (.aload_n 0, 1) := by decide +kernel
theorem dX3_init_31 : decode cX3_init 31 = .ok (.iconst 4, 1) := by decide +kernel
theorem dX3_init_32 : decode cX3_init 32 = .ok (.newarray .int, 2) := by decide +kernel
theorem dX3_init_34 : decode cX3_init 34 = .ok (.putfield 28, 3) := by decide +kernel
theorem dX3_init_37 : decode cX3_init 37 = .ok (.aload_n 0, 1) := by decide +kernel
theorem dX3_init_38 : decode cX3_init 38 = .ok (.iconst 4, 1) := by decide +kernel
theorem dX3_init_39 : decode cX3_init 39 = .ok (.newarray .long, 2) := by decide +kernel
theorem dX3_init_41 : decode cX3_init 41 = .ok (.putfield 32, 3) := by decide +kernel
theorem dX3_init_44 : decode cX3_init 44 = .ok (.return_, 1) := by decide +kernel
set_option maxRecDepth 20000 in
theorem ggX3_start_X4_restart : GoodIn wsX3_start wsX4_restart := goodIn_r _ [14, 15, 16, 17, 18, 19, 20, 21, 22, 38, 39, 40, 41, 42] (by decide +kernel) (by decide +kernel)
set_option maxRecDepth 20000 in
theorem gX3_start_X4_restart : GoodIn wsX3_start (wsV RX3 39 RX4 yX4_restart wsX4_restart) := goodIn_app (goodIn_of _ (by decide +kernel)) ggX3_start_X4_restart
set_option maxRecDepth 20000 in
theorem ggX3_start_J7_fill_53178 : GoodIn wsX3_start wsJ7_fill_53178 := goodIn_r _ [22] (by decide +kernel) (by decide +kernel)
set_option maxRecDepth 20000 in
theorem gX3_start_J7_fill_53178 : GoodIn wsX3_start (va_wsS RX3 55 yJ7_fill_53178 wsJ7_fill_53178) := goodIn_app (goodIn_of _ (by decide +kernel)) ggX3_start_J7_fill_53178
set_option maxRecDepth 20000 in
theorem ggX3_start_J7_fill_d0a16 : GoodIn wsX3_start wsJ7_fill_d0a16 := goodIn_r _ [26] (by decide +kernel) (by decide +kernel)
set_option maxRecDepth 20000 in
theorem gX3_start_J7_fill_d0a16 : GoodIn wsX3_start (va_wsS RX3 61 yJ7_fill_d0a16 wsJ7_fill_d0a16) := goodIn_app (goodIn_of _ (by decide +kernel)) ggX3_start_J7_fill_d0a16
theorem dX3_start_0 : decode cX3_start 0 = .ok (.aload_n 0, 1) := by decide +kernel
theorem dX3_start_1 : decode cX3_start 1 = .ok (.aload_n 1, 1) := by decide +kernel
theorem dX3_start_2 : decode cX3_start 2 = .ok (.putfield 36, 3) := by decide +kernel
theorem dX3_start_5 : decode cX3_start 5 = .ok (.aload_n 0, 1) := by decide +kernel
theorem dX3_start_6 : decode cX3_start 6 = .ok (.getfield 12, 3) := by decide +kernel
theorem dX3_start_9 : decode cX3_start 9 = .ok (.invokevirtual 39, 3) := by decide +kernel
theorem dX3_start_12 : decode cX3_start 12 = .ok (.aload_n 0, 1) := by decide +kernel
theorem dX3_start_13 : decode cX3_start 13 = .ok (.iconst 0, 1) := by decide +kernel
theorem dX3_start_14 : decode cX3_start 14 = .ok (.putfield 42, 3) := by decide +kernel
theorem dX3_start_17 : decode cX3_start 17 = .ok (.aload_n 0, 1) := by decide +kernel
theorem dX3_start_18 : decode cX3_start 18 = .ok (.iconst 0, 1) := by decide +kernel
theorem dX3_start_19 : decode cX3_start 19 = .ok (.putfield 45, 3) := by decide +kernel
theorem dX3_start_22 : decode cX3_start 22 = .ok (.aload_n 0, 1) := by decide +kernel
theorem dX3_start_23 : decode cX3_start 23 = .ok (.lconst 0, 1) := by decide +kernel
theorem dX3_start_24 : decode cX3_start 24 = .ok (.putfield 48, 3) := by decide +kernel
theorem dX3_start_27 : decode cX3_start 27 = .ok (.aload_n 0, 1) := by decide +kernel
theorem dX3_start_28 : decode cX3_start 28 = .ok (.iconst 0, 1) := by decide +kernel
theorem dX3_start_29 : decode cX3_start 29 = .ok (.putfield 52, 3) := by decide +kernel
theorem dX3_start_32 : decode cX3_start 32 = .ok (.aload_n 0, 1) := by decide +kernel
theorem dX3_start_33 : decode cX3_start 33 = .ok (.bipush (-3), 2) := by decide +kernel
theorem dX3_start_35 : decode cX3_start 35 = .ok (.putfield 18, 3) := by decide +kernel
theorem dX3_start_38 : decode cX3_start 38 = .ok (.aload_n 0, 1) := by decide +kernel
theorem dX3_start_39 : decode cX3_start 39 = .ok (.getfield 28, 3) := by decide +kernel
theorem dX3_start_42 : decode cX3_start 42 = .ok (.bipush (-3), 2) := by decide +kernel
theorem dX3_start_44 : decode cX3_start 44 = .ok (.invokestatic 55, 3) := by decide +kernel
theorem dX3_start_47 : decode cX3_start 47 = .ok (.aload_n 0, 1) := by decide +kernel
theorem dX3_start_48 : decode cX3_start 48 = .ok (.getfield 28, 3) := by decide +kernel
theorem dX3_start_51 : decode cX3_start 51 = .ok (.iconst 0, 1) := by decide +kernel
theorem dX3_start_52 : decode cX3_start 52 = .ok (.iload_n 2, 1) := by decide +kernel
theorem dX3_start_53 : decode cX3_start 53 = .ok (.iastore, 1) := by decide +kernel
theorem dX3_start_54 : decode cX3_start 54 = .ok (.aload_n 0, 1) := by decide +kernel
theorem dX3_start_55 : decode cX3_start 55 = .ok (.getfield 32, 3) := by decide +kernel
theorem dX3_start_58 : decode cX3_start 58 = .ok (.lconst 0, 1) := by decide +kernel
theorem dX3_start_59 : decode cX3_start 59 = .ok (.invokestatic 61, 3) := by decide +kernel
theorem dX3_start_62 : decode cX3_start 62 = .ok (.aload_n 0, 1) := by decide +kernel
theorem dX3_start_63 : decode cX3_start 63 = .ok (.getfield 32, 3) := by decide +kernel
theorem dX3_start_66 : decode cX3_start 66 = .ok (.iconst 0, 1) := by decide +kernel
theorem dX3_start_67 : decode cX3_start 67 = .ok (.lload_n 3, 1) := by decide +kernel
theorem dX3_start_68 : decode cX3_start 68 = .ok (.lastore, 1) := by decide +kernel
theorem dX3_start_69 : decode cX3_start 69 = .ok (.return_, 1) := by decide +kernel
set_option maxRecDepth 20000 in
theorem ggX3_loadAhead_X3_load : GoodIn wsX3_loadAhead wsX3_load := goodIn_r _ [5, 6, 7, 8, 9, 10, 11, 12, 13, 14, 15, 16, 17, 18, 19, 20, 21, 22, 23, 24, 25, 26, 27, 28, 29, 30, 31, 32, 33, 34, 35, 36, 37, 38, 39, 40, 41, 42, 43, 44, 45, 46, 47, 48, 49, 50, 51, 52] (by decide +kernel) (by decide +kernel)
set_option maxRecDepth 20000 in
theorem gX3_loadAhead_X3_load : GoodIn wsX3_loadAhead (wsV RX3 64 RX3 yX3_load wsX3_load) := goodIn_app (goodIn_of _ (by decide +kernel)) ggX3_loadAhead_X3_load
theorem dX3_loadAhead_0 : decode cX3_loadAhead 0 = .ok (.iconst 0, 1) := by decide +kernel
theorem dX3_loadAhead_1 : decode cX3_loadAhead 1 = .ok (.istore_n 2, 1) := by decide +kernel
theorem dX3_loadAhead_2 : decode cX3_loadAhead 2 = .ok (.iload_n 2, 1) := by decide +kernel
theorem dX3_loadAhead_3 : decode cX3_loadAhead 3 = .ok (.iload_n 1, 1) := by decide +kernel
theorem dX3_loadAhead_4 : decode cX3_loadAhead 4 = .ok (.if_icmp .ge 14, 3) := by decide +kernel
theorem dX3_loadAhead_7 : decode cX3_loadAhead 7 = .ok (.aload_n 0, 1) := by decide +kernel
theorem dX3_loadAhead_8 : decode cX3_loadAhead 8 = .ok (.iload_n 2, 1) := by decide +kernel
theorem dX3_loadAhead_9 : decode cX3_loadAhead 9 = .ok (.invokevirtual 64, 3) := by decide +kernel
theorem dX3_loadAhead_12 : decode cX3_loadAhead 12 = .ok (.iinc 2 1, 3) := by decide +kernel
theorem dX3_loadAhead_15 : decode cX3_loadAhead 15 = .ok (.goto (-13), 3) := by decide +kernel
theorem dX3_loadAhead_18 : decode cX3_loadAhead 18 = .ok (.return_, 1) := by decide +kernel
set_option maxRecDepth 20000 in
theorem ggX3_work_X1_actAt : GoodIn wsX3_work wsX1_actAt := goodIn_r _ [7, 8, 9, 180, 181] (by decide +kernel) (by decide +kernel)
set_option maxRecDepth 20000 in
theorem gX3_work_X1_actAt : GoodIn wsX3_work (wsV RX3 68 RX1 yX1_actAt wsX1_actAt) := goodIn_app (goodIn_of _ (by decide +kernel)) ggX3_work_X1_actAt
set_option maxRecDepth 20000 in
theorem ggX3_work_X3_fail : GoodIn wsX3_work wsX3_fail := goodIn_r _ [14, 15, 16, 169, 170, 171, 172, 173, 174, 175, 176, 177, 178, 179] (by decide +kernel) (by decide +kernel)
set_option maxRecDepth 20000 in
theorem gX3_work_X3_fail : GoodIn wsX3_work (wsV RX3 74 RX3 yX3_fail wsX3_fail) := goodIn_app (goodIn_of _ (by decide +kernel)) ggX3_work_X3_fail
set_option maxRecDepth 20000 in
theorem ggX3_work_X3_perform : GoodIn wsX3_work wsX3_perform := goodIn_r _ [20, 21, 22, 23, 24, 25, 26, 27, 28, 29, 30, 13, 31, 32, 33, 34, 35, 36, 37, 38, 39, 40, 41, 42, 43, 44, 45, 46, 47, 48, 49, 50, 51, 52, 53, 54, 55, 56, 57, 58, 59, 60, 61, 62, 63, 64, 65, 66, 67, 68, 69, 70, 71, 72, 73, 74, 75, 76, 77, 78, 79, 80, 81, 82, 83, 84, 85, 86, 87, 88, 89, 90, 91, 92, 93, 94, 95, 96, 97, 98, 99, 100, 101, 102, 103, 104, 105, 106, 107, 108, 109, 110, 111, 112, 113, 114, 115, 116, 117, 118, 119, 120, 121, 122, 123, 124, 125, 126, 127, 128, 129, 130, 131, 132, 133, 134, 135, 136, 137, 138, 139, 140, 141, 142, 143, 144, 145, 146, 147, 148, 149, 150, 151, 152, 153, 154, 155, 156, 157, 158, 159, 160, 161, 162, 163, 2, 164, 165, 166, 167, 168, 182, 183, 184, 185, 186, 187, 169, 170, 171, 172, 173, 174, 175, 176, 177, 178, 179, 188, 189, 190, 191, 192, 193, 194, 195, 196, 197] (by decide +kernel) (by decide +kernel)
set_option maxRecDepth 20000 in
theorem gX3_work_X3_perform : GoodIn wsX3_work (wsV RX3 81 RX3 yX3_perform wsX3_perform) := goodIn_app (goodIn_of _ (by decide +kernel)) ggX3_work_X3_perform
theorem dX3_work_0 : decode cX3_work 0 = .ok (.iconst 0, 1) := by decide +kernel
theorem dX3_work_1 : decode cX3_work 1 = .ok (.istore_n 2, 1) := by decide +kernel
theorem dX3_work_2 : decode cX3_work 2 = .ok (.iconst 0, 1) := by decide +kernel
theorem dX3_work_3 : decode cX3_work 3 = .ok (.istore_n 3, 1) := by decide +kernel
theorem dX3_work_4 : decode cX3_work 4 = .ok (.iload_n 3, 1) := by decide +kernel
theorem dX3_work_5 : decode cX3_work 5 = .ok (.sipush 200, 3) := by decide +kernel
theorem dX3_work_8 : decode cX3_work 8 = .ok (.if_icmp .gt 77, 3) := by decide +kernel
theorem dX3_work_11 : decode cX3_work 11 = .ok (.aload_n 1, 1) := by decide +kernel
theorem dX3_work_12 : decode cX3_work 12 = .ok (.iload_n 2, 1) := by decide +kernel
theorem dX3_work_13 : decode cX3_work 13 = .ok (.invokevirtual 68, 3) := by decide +kernel
theorem dX3_work_16 : decode cX3_work 16 = .ok (.astore 4, 2) := by decide +kernel
theorem dX3_work_18 : decode cX3_work 18 = .ok (.aload 4, 2) := by decide +kernel
theorem dX3_work_20 : decode cX3_work 20 = .ok (.ifnonnull 4, 3) := by decide +kernel
theorem dX3_work_23 : decode cX3_work 23 = .ok (.return_, 1) := by decide +kernel
theorem dX3_work_24 : decode cX3_work 24 = .ok (.iload_n 3, 1) := by decide +kernel
theorem dX3_work_25 : decode cX3_work 25 = .ok (.sipush 200, 3) := by decide +kernel
theorem dX3_work_28 : decode cX3_work 28 = .ok (.if_icmp .ne 11, 3) := by decide +kernel
theorem dX3_work_31 : decode cX3_work 31 = .ok (.aload_n 0, 1) := by decide +kernel
theorem dX3_work_32 : decode cX3_work 32 = .ok (.bipush 7, 2) := by decide +kernel
theorem dX3_work_34 : decode cX3_work 34 = .ok (.iload_n 2, 1) := by decide +kernel
theorem dX3_work_35 : decode cX3_work 35 = .ok (.invokevirtual 74, 3) := by decide +kernel
theorem dX3_work_38 : decode cX3_work 38 = .ok (.return_, 1) := by decide +kernel
theorem dX3_work_39 : decode cX3_work 39 = .ok (.aload_n 0, 1) := by decide +kernel
theorem dX3_work_40 : decode cX3_work 40 = .ok (.iload_n 3, 1) := by decide +kernel
theorem dX3_work_41 : decode cX3_work 41 = .ok (.iconst 1, 1) := by decide +kernel
theorem dX3_work_42 : decode cX3_work 42 = .ok (.iadd, 1) := by decide +kernel
theorem dX3_work_43 : decode cX3_work 43 = .ok (.putfield 45, 3) := by decide +kernel
theorem dX3_work_46 : decode cX3_work 46 = .ok (.aload_n 0, 1) := by decide +kernel
theorem dX3_work_47 : decode cX3_work 47 = .ok (.iload_n 2, 1) := by decide +kernel
theorem dX3_work_48 : decode cX3_work 48 = .ok (.iconst 1, 1) := by decide +kernel
theorem dX3_work_49 : decode cX3_work 49 = .ok (.iadd, 1) := by decide +kernel
theorem dX3_work_50 : decode cX3_work 50 = .ok (.putfield 78, 3) := by decide +kernel
theorem dX3_work_53 : decode cX3_work 53 = .ok (.aload_n 0, 1) := by decide +kernel
theorem dX3_work_54 : decode cX3_work 54 = .ok (.aload 4, 2) := by decide +kernel
theorem dX3_work_56 : decode cX3_work 56 = .ok (.invokevirtual 81, 3) := by decide +kernel
theorem dX3_work_59 : decode cX3_work 59 = .ok (.istore 5, 2) := by decide +kernel
theorem dX3_work_61 : decode cX3_work 61 = .ok (.iload 5, 2) := by decide +kernel
theorem dX3_work_63 : decode cX3_work 63 = .ok (.ifCond .eq 11, 3) := by decide +kernel
theorem dX3_work_66 : decode cX3_work 66 = .ok (.aload_n 0, 1) := by decide +kernel
theorem dX3_work_67 : decode cX3_work 67 = .ok (.iload 5, 2) := by decide +kernel
theorem dX3_work_69 : decode cX3_work 69 = .ok (.iload_n 2, 1) := by decide +kernel
theorem dX3_work_70 : decode cX3_work 70 = .ok (.invokevirtual 74, 3) := by decide +kernel
theorem dX3_work_73 : decode cX3_work 73 = .ok (.return_, 1) := by decide +kernel
theorem dX3_work_74 : decode cX3_work 74 = .ok (.aload_n 0, 1) := by decide +kernel
theorem dX3_work_75 : decode cX3_work 75 = .ok (.getfield 78, 3) := by decide +kernel
theorem dX3_work_78 : decode cX3_work 78 = .ok (.istore_n 2, 1) := by decide +kernel
theorem dX3_work_79 : decode cX3_work 79 = .ok (.iinc 3 1, 3) := by decide +kernel
theorem dX3_work_82 : decode cX3_work 82 = .ok (.goto (-78), 3) := by decide +kernel
theorem dX3_work_85 : decode cX3_work 85 = .ok (.return_, 1) := by decide +kernel
theorem dX3_fail_0 : decode cX3_fail 0 = .ok (.aload_n 0, 1) := by decide +kernel
theorem dX3_fail_1 : decode cX3_fail 1 = .ok (.iload_n 1, 1) := by decide +kernel
theorem dX3_fail_2 : decode cX3_fail 2 = .ok (.putfield 52, 3) := by decide +kernel
theorem dX3_fail_5 : decode cX3_fail 5 = .ok (.aload_n 0, 1) := by decide +kernel
theorem dX3_fail_6 : decode cX3_fail 6 = .ok (.iload_n 2, 1) := by decide +kernel
theorem dX3_fail_7 : decode cX3_fail 7 = .ok (.putfield 18, 3) := by decide +kernel
theorem dX3_fail_10 : decode cX3_fail 10 = .ok (.return_, 1) := by decide +kernel
set_option maxRecDepth 20000 in
theorem ggX3_endsLike_X4_isSameAs : GoodIn wsX3_endsLike wsX4_isSameAs := goodIn_r _ [9, 10, 11, 23, 24, 25, 26, 27] (by decide +kernel) (by decide +kernel)
set_option maxRecDepth 20000 in
theorem gX3_endsLike_X4_isSameAs : GoodIn wsX3_endsLike (wsV RX3 85 RX4 yX4_isSameAs wsX4_isSameAs) := goodIn_app (goodIn_of _ (by decide +kernel)) ggX3_endsLike_X4_isSameAs
theorem dX3_endsLike_0 : decode cX3_endsLike 0 = .ok (.aload_n 0, 1) := by decide +kernel
theorem dX3_endsLike_1 : decode cX3_endsLike 1 = .ok (.getfield 52, 3) := by decide +kernel
theorem dX3_endsLike_4 : decode cX3_endsLike 4 = .ok (.aload_n 1, 1) := by decide +kernel
theorem dX3_endsLike_5 : decode cX3_endsLike 5 = .ok (.getfield 52, 3) := by decide +kernel
theorem dX3_endsLike_8 : decode cX3_endsLike 8 = .ok (.if_icmp .ne 44, 3) := by decide +kernel
theorem dX3_endsLike_11 : decode cX3_endsLike 11 = .ok (.aload_n 0, 1) := by decide +kernel
theorem dX3_endsLike_12 : decode cX3_endsLike 12 = .ok (.getfield 18, 3) := by decide +kernel
theorem dX3_endsLike_15 : decode cX3_endsLike 15 = .ok (.aload_n 1, 1) := by decide +kernel
theorem dX3_endsLike_16 : decode cX3_endsLike 16 = .ok (.getfield 18, 3) := by decide +kernel
theorem dX3_endsLike_19 : decode cX3_endsLike 19 = .ok (.if_icmp .ne 33, 3) := by decide +kernel
theorem dX3_endsLike_22 : decode cX3_endsLike 22 = .ok (.aload_n 0, 1) := by decide +kernel
theorem dX3_endsLike_23 : decode cX3_endsLike 23 = .ok (.getfield 48, 3) := by decide +kernel
theorem dX3_endsLike_26 : decode cX3_endsLike 26 = .ok (.aload_n 1, 1) := by decide +kernel
theorem dX3_endsLike_27 : decode cX3_endsLike 27 = .ok (.getfield 48, 3) := by decide +kernel
theorem dX3_endsLike_30 : decode cX3_endsLike 30 = .ok (.lcmp, 1) := by decide +kernel
theorem dX3_endsLike_31 : decode cX3_endsLike 31 = .ok (.ifCond .ne 21, 3) := by decide +kernel
theorem dX3_endsLike_34 : decode cX3_endsLike 34 = .ok (.aload_n 0, 1) := by decide +kernel
theorem dX3_endsLike_35 : decode cX3_endsLike 35 = .ok (.getfield 12, 3) := by decide +kernel
theorem dX3_endsLike_38 : decode cX3_endsLike 38 = .ok (.aload_n 1, 1) := by decide +kernel
theorem dX3_endsLike_39 : decode cX3_endsLike 39 = .ok (.getfield 12, 3) := by decide +kernel
theorem dX3_endsLike_42 : decode cX3_endsLike 42 = .ok (.invokevirtual 85, 3) := by decide +kernel
theorem dX3_endsLike_45 : decode cX3_endsLike 45 = .ok (.ifCond .eq 7, 3) := by decide +kernel
theorem dX3_endsLike_48 : decode cX3_endsLike 48 = .ok (.iconst 1, 1) := by decide +kernel
theorem dX3_endsLike_49 : decode cX3_endsLike 49 = .ok (.goto 4, 3) := by decide +kernel
theorem dX3_endsLike_52 : decode cX3_endsLike 52 = .ok (.iconst 0, 1) := by decide +kernel
theorem dX3_endsLike_53 : decode cX3_endsLike 53 = .ok (.ireturn, 1) := by decide +kernel
set_option maxRecDepth 20000 in
theorem ggX3_changesLike_X3_bodyOf : GoodIn wsX3_changesLike wsX3_bodyOf := goodIn_r _ [6, 7, 8, 9, 10, 11, 12, 33, 34, 35, 36, 37, 38, 39, 40, 41, 42, 43] (by decide +kernel) (by decide +kernel)
set_option maxRecDepth 20000 in
theorem gX3_changesLike_X3_bodyOf : GoodIn wsX3_changesLike (wsV RX3 89 RX3 yX3_bodyOf wsX3_bodyOf) := goodIn_app (goodIn_of _ (by decide +kernel)) ggX3_changesLike_X3_bodyOf
set_option maxRecDepth 20000 in
theorem ggX3_changesLike_X2_hasSameField : GoodIn wsX3_changesLike wsX2_hasSameField := goodIn_r _ [17, 18, 19, 20, 21, 16, 22, 23, 24, 25, 26, 27, 28, 29, 30, 31, 32, 44, 45, 46, 47, 48] (by decide +kernel) (by decide +kernel)
set_option maxRecDepth 20000 in
theorem gX3_changesLike_X2_hasSameField : GoodIn wsX3_changesLike (wsV RX3 93 RX2 yX2_hasSameField wsX2_hasSameField) := goodIn_app (goodIn_of _ (by decide +kernel)) ggX3_changesLike_X2_hasSameField
theorem dX3_changesLike_0 : decode cX3_changesLike 0 = .ok (.aload_n 0, 1) := by decide +kernel
theorem dX3_changesLike_1 : decode cX3_changesLike 1 = .ok (.getfield 52, 3) := by decide +kernel
theorem dX3_changesLike_4 : decode cX3_changesLike 4 = .ok (.ifCond .eq 5, 3) := by decide +kernel
theorem dX3_changesLike_7 : decode cX3_changesLike 7 = .ok (.iconst 1, 1) := by decide +kernel
theorem dX3_changesLike_8 : decode cX3_changesLike 8 = .ok (.ireturn, 1) := by decide +kernel
theorem dX3_changesLike_9 : decode cX3_changesLike 9 = .ok (.iconst 0, 1) := by decide +kernel
theorem dX3_changesLike_10 : decode cX3_changesLike 10 = .ok (.istore_n 3, 1) := by decide +kernel
theorem dX3_changesLike_11 : decode cX3_changesLike 11 = .ok (.iload_n 3, 1) := by decide +kernel
theorem dX3_changesLike_12 : decode cX3_changesLike 12 = .ok (.iload_n 2, 1) := by decide +kernel
theorem dX3_changesLike_13 : decode cX3_changesLike 13 = .ok (.if_icmp .ge 45, 3) := by decide +kernel
theorem dX3_changesLike_16 : decode cX3_changesLike 16 = .ok (.iconst 0, 1) := by decide +kernel
theorem dX3_changesLike_17 : decode cX3_changesLike 17 = .ok (.istore 4, 2) := by decide +kernel
theorem dX3_changesLike_19 : decode cX3_changesLike 19 = .ok (.iload 4, 2) := by decide +kernel
theorem dX3_changesLike_21 : decode cX3_changesLike 21 = .ok (.bipush 8, 2) := by decide +kernel
theorem dX3_changesLike_23 : decode cX3_changesLike 23 = .ok (.if_icmp .ge 29, 3) := by decide +kernel
theorem dX3_changesLike_26 : decode cX3_changesLike 26 = .ok (.aload_n 0, 1) := by decide +kernel
theorem dX3_changesLike_27 : decode cX3_changesLike 27 = .ok (.iload_n 3, 1) := by decide +kernel
theorem dX3_changesLike_28 : decode cX3_changesLike 28 = .ok (.invokevirtual 89, 3) := by decide +kernel
theorem dX3_changesLike_31 : decode cX3_changesLike 31 = .ok (.aload_n 1, 1) := by decide +kernel
theorem dX3_changesLike_32 : decode cX3_changesLike 32 = .ok (.iload_n 3, 1) := by decide +kernel
theorem dX3_changesLike_33 : decode cX3_changesLike 33 = .ok (.invokevirtual 89, 3) := by decide +kernel
theorem dX3_changesLike_36 : decode cX3_changesLike 36 = .ok (.iload 4, 2) := by decide +kernel
theorem dX3_changesLike_38 : decode cX3_changesLike 38 = .ok (.invokevirtual 93, 3) := by decide +kernel
theorem dX3_changesLike_41 : decode cX3_changesLike 41 = .ok (.ifCond .ne 5, 3) := by decide +kernel
theorem dX3_changesLike_44 : decode cX3_changesLike 44 = .ok (.iconst 0, 1) := by decide +kernel
theorem dX3_changesLike_45 : decode cX3_changesLike 45 = .ok (.ireturn, 1) := by decide +kernel
theorem dX3_changesLike_46 : decode cX3_changesLike 46 = .ok (.iinc 4 1, 3) := by decide +kernel
theorem dX3_changesLike_49 : decode cX3_changesLike 49 = .ok (.goto (-30), 3) := by decide +kernel
theorem dX3_changesLike_52 : decode cX3_changesLike 52 = .ok (.iinc 3 1, 3) := by decide +kernel
theorem dX3_changesLike_55 : decode cX3_changesLike 55 = .ok (.goto (-44), 3) := by decide +kernel
theorem dX3_changesLike_58 : decode cX3_changesLike 58 = .ok (.iconst 1, 1) := by decide +kernel
theorem dX3_changesLike_59 : decode cX3_changesLike 59 = .ok (.ireturn, 1) := by decide +kernel
set_option maxRecDepth 20000 in
theorem ggX3_bodyOf_X5_bitOf : GoodIn wsX3_bodyOf wsX5_bitOf := goodIn_r _ [6] (by decide +kernel) (by decide +kernel)
set_option maxRecDepth 20000 in
theorem gX3_bodyOf_X5_bitOf_n97 : GoodIn wsX3_bodyOf (wsX5_bitOf) := ggX3_bodyOf_X5_bitOf
theorem dX3_bodyOf_0 : decode cX3_bodyOf 0 = .ok (.aload_n 0, 1) := by decide +kernel
theorem dX3_bodyOf_1 : decode cX3_bodyOf 1 = .ok (.getfield 42, 3) := by decide +kernel
theorem dX3_bodyOf_4 : decode cX3_bodyOf 4 = .ok (.iload_n 1, 1) := by decide +kernel
theorem dX3_bodyOf_5 : decode cX3_bodyOf 5 = .ok (.invokestatic 97, 3) := by decide +kernel
theorem dX3_bodyOf_8 : decode cX3_bodyOf 8 = .ok (.iconst 1, 1) := by decide +kernel
theorem dX3_bodyOf_9 : decode cX3_bodyOf 9 = .ok (.if_icmp .ne 12, 3) := by decide +kernel
theorem dX3_bodyOf_12 : decode cX3_bodyOf 12 = .ok (.aload_n 0, 1) := by decide +kernel
theorem dX3_bodyOf_13 : decode cX3_bodyOf 13 = .ok (.getfield 24, 3) := by decide +kernel
theorem dX3_bodyOf_16 : decode cX3_bodyOf 16 = .ok (.iload_n 1, 1) := by decide +kernel
theorem dX3_bodyOf_17 : decode cX3_bodyOf 17 = .ok (.aaload, 1) := by decide +kernel
theorem dX3_bodyOf_18 : decode cX3_bodyOf 18 = .ok (.goto 9, 3) := by decide +kernel
theorem dX3_bodyOf_21 : decode cX3_bodyOf 21 = .ok (.aload_n 0, 1) := by decide +kernel
theorem dX3_bodyOf_22 : decode cX3_bodyOf 22 = .ok (.getfield 36, 3) := by decide +kernel
theorem dX3_bodyOf_25 : decode cX3_bodyOf 25 = .ok (.iload_n 1, 1) := by decide +kernel
theorem dX3_bodyOf_26 : decode cX3_bodyOf 26 = .ok (.aaload, 1) := by decide +kernel
theorem dX3_bodyOf_27 : decode cX3_bodyOf 27 = .ok (.areturn, 1) := by decide +kernel
set_option maxRecDepth 20000 in
theorem ggX3_load_X5_bitOf : GoodIn wsX3_load wsX5_bitOf := goodIn_r _ [10] (by decide +kernel) (by decide +kernel)
set_option maxRecDepth 20000 in
theorem gX3_load_X5_bitOf_n97 : GoodIn wsX3_load (wsX5_bitOf) := ggX3_load_X5_bitOf
set_option maxRecDepth 20000 in
theorem ggX3_load_X2_init : GoodIn wsX3_load wsX2_init := goodIn_r _ [13, 14, 15, 16, 17, 18, 19, 20, 21, 22, 23, 43, 44, 45, 46, 47] (by decide +kernel) (by decide +kernel)
set_option maxRecDepth 20000 in
theorem gX3_load_X2_init : GoodIn wsX3_load (wsX2_init) := ggX3_load_X2_init
set_option maxRecDepth 20000 in
theorem ggX3_load_X2_copyFrom : GoodIn wsX3_load wsX2_copyFrom := goodIn_r _ [27, 18, 28, 29, 30, 31, 20, 43, 44, 45, 46, 47] (by decide +kernel) (by decide +kernel)
set_option maxRecDepth 20000 in
theorem gX3_load_X2_copyFrom : GoodIn wsX3_load (wsV RX3 106 RX2 yX2_copyFrom wsX2_copyFrom) := goodIn_app (goodIn_of _ (by decide +kernel)) ggX3_load_X2_copyFrom
theorem dX3_load_0 : decode cX3_load 0 = .ok (.aload_n 0, 1) := by decide +kernel
theorem dX3_load_1 : decode cX3_load 1 = .ok (.getfield 42, 3) := by decide +kernel
theorem dX3_load_4 : decode cX3_load 4 = .ok (.iload_n 1, 1) := by decide +kernel
theorem dX3_load_5 : decode cX3_load 5 = .ok (.invokestatic 97, 3) := by decide +kernel
theorem dX3_load_8 : decode cX3_load 8 = .ok (.iconst 1, 1) := by decide +kernel
theorem dX3_load_9 : decode cX3_load 9 = .ok (.if_icmp .ne 4, 3) := by decide +kernel
theorem dX3_load_12 : decode cX3_load 12 = .ok (.return_, 1) := by decide +kernel
theorem dX3_load_13 : decode cX3_load 13 = .ok (.aload_n 0, 1) := by decide +kernel
theorem dX3_load_14 : decode cX3_load 14 = .ok (.getfield 24, 3) := by decide +kernel
theorem dX3_load_17 : decode cX3_load 17 = .ok (.iload_n 1, 1) := by decide +kernel
theorem dX3_load_18 : decode cX3_load 18 = .ok (.aaload, 1) := by decide +kernel
theorem dX3_load_19 : decode cX3_load 19 = .ok (.ifnonnull 25, 3) := by decide +kernel
theorem dX3_load_22 : decode cX3_load 22 = .ok (.aload_n 0, 1) := by decide +kernel
theorem dX3_load_23 : decode cX3_load 23 = .ok (.getfield 24, 3) := by decide +kernel
theorem dX3_load_26 : decode cX3_load 26 = .ok (.iload_n 1, 1) := by decide +kernel
theorem dX3_load_27 : decode cX3_load 27 = .ok (.new 22, 3) := by decide +kernel
theorem dX3_load_30 : decode cX3_load 30 = .ok (.dup, 1) := by decide +kernel
theorem dX3_load_31 : decode cX3_load 31 = .ok (.aload_n 0, 1) := by decide +kernel
theorem dX3_load_32 : decode cX3_load 32 = .ok (.getfield 36, 3) := by decide +kernel
theorem dX3_load_35 : decode cX3_load 35 = .ok (.iload_n 1, 1) := by decide +kernel
theorem dX3_load_36 : decode cX3_load 36 = .ok (.aaload, 1) := by decide +kernel
theorem dX3_load_37 : decode cX3_load 37 = .ok (.getfield 101, 3) := by decide +kernel
theorem dX3_load_40 : decode cX3_load 40 = .ok (.invokespecial 104, 3) := by decide +kernel
theorem dX3_load_43 : decode cX3_load 43 = .ok (.aastore, 1) := by decide +kernel
theorem dX3_load_44 : decode cX3_load 44 = .ok (.aload_n 0, 1) := by decide +kernel
theorem dX3_load_45 : decode cX3_load 45 = .ok (.getfield 24, 3) := by decide +kernel
theorem dX3_load_48 : decode cX3_load 48 = .ok (.iload_n 1, 1) := by decide +kernel
theorem dX3_load_49 : decode cX3_load 49 = .ok (.aaload, 1) := by decide +kernel
theorem dX3_load_50 : decode cX3_load 50 = .ok (.aload_n 0, 1) := by decide +kernel
theorem dX3_load_51 : decode cX3_load 51 = .ok (.getfield 36, 3) := by decide +kernel
theorem dX3_load_54 : decode cX3_load 54 = .ok (.iload_n 1, 1) := by decide +kernel
theorem dX3_load_55 : decode cX3_load 55 = .ok (.aaload, 1) := by decide +kernel
theorem dX3_load_56 : decode cX3_load 56 = .ok (.invokevirtual 106, 3) := by decide +kernel
theorem dX3_load_59 : decode cX3_load 59 = .ok (.aload_n 0, 1) := by decide +kernel
theorem dX3_load_60 : decode cX3_load 60 = .ok (.dup, 1) := by decide +kernel
theorem dX3_load_61 : decode cX3_load 61 = .ok (.getfield 42, 3) := by decide +kernel
theorem dX3_load_64 : decode cX3_load 64 = .ok (.iconst 1, 1) := by decide +kernel
theorem dX3_load_65 : decode cX3_load 65 = .ok (.iload_n 1, 1) := by decide +kernel
theorem dX3_load_66 : decode cX3_load 66 = .ok (.ishl, 1) := by decide +kernel
theorem dX3_load_67 : decode cX3_load 67 = .ok (.ior, 1) := by decide +kernel
theorem dX3_load_68 : decode cX3_load 68 = .ok (.putfield 42, 3) := by decide +kernel
theorem dX3_load_71 : decode cX3_load 71 = .ok (.return_, 1) := by decide +kernel
set_option maxRecDepth 20000 in
theorem ggX3_perform_X3_setValue : GoodIn wsX3_perform wsX3_setValue := goodIn_r _ [12, 5, 157, 158, 159, 160, 161, 162, 163, 164, 165, 166, 167] (by decide +kernel) (by decide +kernel)
set_option maxRecDepth 20000 in
theorem gX3_perform_X3_setValue : GoodIn wsX3_perform (wsV RX3 124 RX3 yX3_setValue wsX3_setValue) := goodIn_app (goodIn_of _ (by decide +kernel)) ggX3_perform_X3_setValue
set_option maxRecDepth 20000 in
theorem ggX3_perform_X3_get : GoodIn wsX3_perform wsX3_get := goodIn_r _ [16, 17, 18, 19, 20, 11, 21, 6, 22, 23, 24, 25, 26, 27, 28, 29, 30, 31, 32, 33, 34, 35, 36, 37, 38, 39, 40, 41, 42, 43, 44, 45, 46, 47, 48, 49, 50, 51, 52, 53, 54, 55, 56, 57, 58, 59, 60, 61, 62, 63, 64, 65, 66, 67, 68, 69, 70, 71, 72, 73, 8, 9, 10, 12, 5, 168, 169, 170, 171, 172, 157, 158, 159, 160, 161, 162, 163, 164, 165, 166, 167, 173, 174, 175, 176, 177] (by decide +kernel) (by decide +kernel)
set_option maxRecDepth 20000 in
theorem gX3_perform_X3_get : GoodIn wsX3_perform (wsV RX3 128 RX3 yX3_get wsX3_get) := goodIn_app (goodIn_of _ (by decide +kernel)) ggX3_perform_X3_get
set_option maxRecDepth 20000 in
theorem ggX3_perform_X3_put : GoodIn wsX3_perform wsX3_put := goodIn_r _ [77, 17, 18, 19, 20, 11, 21, 6, 22, 23, 24, 25, 26, 27, 28, 29, 30, 31, 32, 33, 34, 35, 36, 37, 38, 39, 40, 41, 42, 43, 44, 45, 46, 47, 48, 49, 50, 51, 52, 53, 54, 55, 56, 57, 58, 59, 60, 78, 79, 80, 81, 65, 82, 83, 84, 69, 85, 86, 72, 73, 87, 168, 169, 170, 171, 172, 157, 158, 159, 160, 161, 162, 163, 164, 165, 166, 167, 173, 174, 175, 176, 177] (by decide +kernel) (by decide +kernel)
set_option maxRecDepth 20000 in
theorem gX3_perform_X3_put : GoodIn wsX3_perform (wsV RX3 132 RX3 yX3_put wsX3_put) := goodIn_app (goodIn_of _ (by decide +kernel)) ggX3_perform_X3_put
set_option maxRecDepth 20000 in
theorem ggX3_perform_X3_follow : GoodIn wsX3_perform wsX3_follow := goodIn_r _ [91, 6, 17, 18, 19, 20, 11, 21, 22, 23, 24, 25, 26, 27, 28, 29, 30, 31, 32, 33, 34, 35, 36, 37, 38, 39, 40, 41, 42, 43, 44, 45, 46, 47, 48, 49, 50, 51, 52, 53, 54, 55, 56, 57, 58, 59, 60, 61, 62, 63, 64, 65, 66, 67, 68, 69, 70, 71, 72, 73, 157, 158, 159, 160, 161, 162, 163, 164, 165, 166, 167, 168, 169, 170, 171, 172, 173, 174, 175, 176, 177] (by decide +kernel) (by decide +kernel)
set_option maxRecDepth 20000 in
theorem gX3_perform_X3_follow : GoodIn wsX3_perform (wsV RX3 136 RX3 yX3_follow wsX3_follow) := goodIn_app (goodIn_of _ (by decide +kernel)) ggX3_perform_X3_follow
set_option maxRecDepth 20000 in
theorem ggX3_perform_X3_getItem : GoodIn wsX3_perform wsX3_getItem := goodIn_r _ [95, 5, 96, 18, 19, 20, 11, 21, 6, 22, 23, 24, 25, 26, 27, 28, 29, 30, 31, 32, 33, 34, 35, 36, 37, 38, 39, 40, 41, 42, 43, 44, 45, 46, 47, 48, 49, 50, 51, 52, 53, 54, 55, 56, 57, 58, 59, 60, 61, 62, 63, 64, 65, 66, 67, 68, 69, 70, 71, 72, 73, 97, 98, 99, 17, 100, 101, 102, 103, 104, 105, 106, 107, 8, 9, 10, 12, 157, 158, 159, 160, 161, 162, 163, 164, 165, 166, 167, 168, 169, 170, 171, 172, 173, 174, 175, 176, 177] (by decide +kernel) (by decide +kernel)
set_option maxRecDepth 20000 in
theorem gX3_perform_X3_getItem : GoodIn wsX3_perform (wsV RX3 142 RX3 yX3_getItem wsX3_getItem) := goodIn_app (goodIn_of _ (by decide +kernel)) ggX3_perform_X3_getItem
set_option maxRecDepth 20000 in
theorem ggX3_perform_X3_lay : GoodIn wsX3_perform wsX3_lay := goodIn_r _ [111, 5, 96, 18, 19, 20, 11, 21, 6, 22, 23, 24, 25, 26, 27, 28, 29, 30, 31, 32, 33, 34, 35, 36, 37, 38, 39, 40, 41, 42, 43, 44, 45, 46, 47, 48, 49, 50, 51, 52, 53, 54, 55, 56, 57, 58, 59, 60, 61, 62, 63, 64, 65, 66, 67, 68, 69, 70, 71, 72, 73, 97, 98, 99, 17, 100, 101, 102, 103, 104, 78, 79, 80, 81, 82, 83, 84, 85, 86, 87, 105, 106, 107, 157, 158, 159, 160, 161, 162, 163, 164, 165, 166, 167, 168, 169, 170, 171, 172, 173, 174, 175, 176, 177] (by decide +kernel) (by decide +kernel)
set_option maxRecDepth 20000 in
theorem gX3_perform_X3_lay : GoodIn wsX3_perform (wsV RX3 146 RX3 yX3_lay wsX3_lay) := goodIn_app (goodIn_of _ (by decide +kernel)) ggX3_perform_X3_lay
set_option maxRecDepth 20000 in
theorem ggX3_perform_X3_renew : GoodIn wsX3_perform wsX3_renew := goodIn_r _ [115, 116, 18, 19, 20, 11, 21, 6, 22, 23, 24, 25, 26, 27, 28, 29, 30, 31, 32, 33, 34, 35, 36, 37, 38, 39, 40, 41, 42, 43, 44, 45, 46, 47, 48, 49, 50, 51, 52, 53, 54, 55, 56, 57, 58, 59, 60, 78, 79, 80, 81, 65, 82, 83, 84, 69, 85, 86, 72, 73, 87, 117, 118, 119, 120, 121, 106, 107, 157, 158, 159, 160, 161, 162, 163, 164, 165, 166, 167, 168, 169, 170, 171, 172, 173, 174, 175, 176, 177] (by decide +kernel) (by decide +kernel)
set_option maxRecDepth 20000 in
theorem gX3_perform_X3_renew : GoodIn wsX3_perform (wsV RX3 149 RX3 yX3_renew wsX3_renew) := goodIn_app (goodIn_of _ (by decide +kernel)) ggX3_perform_X3_renew
set_option maxRecDepth 20000 in
theorem ggX3_perform_X3_shift : GoodIn wsX3_perform wsX3_shift := goodIn_r _ [125, 2, 1, 7, 3, 17, 100, 5, 126, 96, 127, 54, 55, 56, 18, 19, 20, 11, 21, 6, 22, 23, 24, 25, 26, 27, 28, 29, 30, 31, 32, 33, 34, 35, 36, 37, 38, 39, 40, 41, 42, 43, 44, 45, 46, 47, 48, 49, 50, 51, 52, 53, 57, 58, 59, 60, 61, 62, 63, 64, 65, 66, 67, 68, 69, 70, 71, 72, 73, 78, 79, 80, 81, 82, 83, 84, 85, 86, 87, 105, 106, 107, 151, 152, 153, 154, 155, 156, 168, 169, 170, 171, 172, 157, 158, 159, 160, 161, 162, 163, 164, 165, 166, 167, 173, 174, 175, 176, 177] (by decide +kernel) (by decide +kernel)
set_option maxRecDepth 20000 in
theorem gX3_perform_X3_shift : GoodIn wsX3_perform (wsV RX3 153 RX3 yX3_shift wsX3_shift) := goodIn_app (goodIn_of _ (by decide +kernel)) ggX3_perform_X3_shift
set_option maxRecDepth 20000 in
theorem ggX3_perform_X3_areAlike : GoodIn wsX3_perform wsX3_areAlike := goodIn_r _ [131, 31, 32, 22, 65, 23, 24, 25, 11, 26, 27, 28, 29, 30, 33, 34, 35, 36, 37, 38, 39, 40, 41, 42, 43, 44, 45, 46, 47, 48, 49, 50, 51, 52, 53, 54, 55, 56, 57, 58, 59, 60, 66, 67, 68, 69, 70, 71, 72, 73, 132, 133, 134, 135, 136, 137, 138, 139, 140, 121, 106, 107, 157, 158, 159, 160, 161, 162, 163, 164, 165, 166, 167, 168, 169, 170, 171, 172, 173, 174, 175, 176, 177] (by decide +kernel) (by decide +kernel)
set_option maxRecDepth 20000 in
theorem gX3_perform_X3_areAlike : GoodIn wsX3_perform (wsV RX3 156 RX3 yX3_areAlike wsX3_areAlike) := goodIn_app (goodIn_of _ (by decide +kernel)) ggX3_perform_X3_areAlike
set_option maxRecDepth 20000 in
theorem ggX3_perform_X3_goOnAt : GoodIn wsX3_perform wsX3_goOnAt := goodIn_r _ [144, 145, 157, 158, 159, 160, 161, 162, 163, 164, 165, 166, 167] (by decide +kernel) (by decide +kernel)
set_option maxRecDepth 20000 in
theorem gX3_perform_X3_goOnAt : GoodIn wsX3_perform (wsV RX3 160 RX3 yX3_goOnAt wsX3_goOnAt) := goodIn_app (goodIn_of _ (by decide +kernel)) ggX3_perform_X3_goOnAt
set_option maxRecDepth 20000 in
theorem ggX3_perform_X3_end : GoodIn wsX3_perform wsX3_end := goodIn_r _ [149, 150, 141, 142, 143, 11, 144, 145, 157, 158, 159, 160, 161, 162, 163, 164, 165, 166, 167] (by decide +kernel) (by decide +kernel)
set_option maxRecDepth 20000 in
theorem gX3_perform_X3_end : GoodIn wsX3_perform (wsV RX3 164 RX3 yX3_end wsX3_end) := goodIn_app (goodIn_of _ (by decide +kernel)) ggX3_perform_X3_end
theorem dX3_perform_0 : decode cX3_perform 0 = .ok (.aload_n 1, 1) := by decide +kernel
theorem dX3_perform_1 : decode cX3_perform 1 = .ok (.getfield 110, 3) := by decide +kernel
theorem dX3_perform_4 : decode cX3_perform 4 = .ok (.istore_n 2, 1) := by decide +kernel
theorem dX3_perform_5 : decode cX3_perform 5 = .ok (.aload_n 1, 1) := by decide +kernel
theorem dX3_perform_6 : decode cX3_perform 6 = .ok (.getfield 115, 3) := by decide +kernel
theorem dX3_perform_9 : decode cX3_perform 9 = .ok (.l2i, 1) := by decide +kernel
theorem dX3_perform_10 : decode cX3_perform 10 = .ok (.istore_n 3, 1) := by decide +kernel
theorem dX3_perform_11 : decode cX3_perform 11 = .ok (.aload_n 1, 1) := by decide +kernel
theorem dX3_perform_12 : decode cX3_perform 12 = .ok (.getfield 118, 3) := by decide +kernel
theorem dX3_perform_15 : decode cX3_perform 15 = .ok (.istore 4, 2) := by decide +kernel
theorem dX3_perform_17 : decode cX3_perform 17 = .ok (.aload_n 1, 1) := by decide +kernel
theorem dX3_perform_18 : decode cX3_perform 18 = .ok (.getfield 121, 3) := by decide +kernel
theorem dX3_perform_21 : decode cX3_perform 21 = .ok (.tableswitch 364 0 17 #[87, 97, 117, 137, 173, 182, 197, 206, 222, 235, 248, 262, 268, 295, 326, 332, 353, 364], 87) := by decide +kernel
theorem dX3_perform_108 : decode cX3_perform 108 = .ok (.aload_n 0, 1) := by decide +kernel
theorem dX3_perform_109 : decode cX3_perform 109 = .ok (.iload_n 2, 1) := by decide +kernel
theorem dX3_perform_110 : decode cX3_perform 110 = .ok (.aload_n 1, 1) := by decide +kernel
theorem dX3_perform_111 : decode cX3_perform 111 = .ok (.getfield 115, 3) := by decide +kernel
theorem dX3_perform_114 : decode cX3_perform 114 = .ok (.invokevirtual 124, 3) := by decide +kernel
theorem dX3_perform_117 : decode cX3_perform 117 = .ok (.ireturn, 1) := by decide +kernel
theorem dX3_perform_118 : decode cX3_perform 118 = .ok (.aload_n 0, 1) := by decide +kernel
theorem dX3_perform_119 : decode cX3_perform 119 = .ok (.iload_n 2, 1) := by decide +kernel
theorem dX3_perform_120 : decode cX3_perform 120 = .ok (.aload_n 0, 1) := by decide +kernel
theorem dX3_perform_121 : decode cX3_perform 121 = .ok (.getfield 32, 3) := by decide +kernel
theorem dX3_perform_124 : decode cX3_perform 124 = .ok (.iload_n 3, 1) := by decide +kernel
theorem dX3_perform_125 : decode cX3_perform 125 = .ok (.laload, 1) := by decide +kernel
theorem dX3_perform_126 : decode cX3_perform 126 = .ok (.aload_n 0, 1) := by decide +kernel
theorem dX3_perform_127 : decode cX3_perform 127 = .ok (.getfield 32, 3) := by decide +kernel
theorem dX3_perform_130 : decode cX3_perform 130 = .ok (.iload 4, 2) := by decide +kernel
theorem dX3_perform_132 : decode cX3_perform 132 = .ok (.laload, 1) := by decide +kernel
theorem dX3_perform_133 : decode cX3_perform 133 = .ok (.ladd, 1) := by decide +kernel
theorem dX3_perform_134 : decode cX3_perform 134 = .ok (.invokevirtual 124, 3) := by decide +kernel
theorem dX3_perform_137 : decode cX3_perform 137 = .ok (.ireturn, 1) := by decide +kernel
theorem dX3_perform_138 : decode cX3_perform 138 = .ok (.aload_n 0, 1) := by decide +kernel
theorem dX3_perform_139 : decode cX3_perform 139 = .ok (.iload_n 2, 1) := by decide +kernel
theorem dX3_perform_140 : decode cX3_perform 140 = .ok (.aload_n 0, 1) := by decide +kernel
theorem dX3_perform_141 : decode cX3_perform 141 = .ok (.getfield 32, 3) := by decide +kernel
theorem dX3_perform_144 : decode cX3_perform 144 = .ok (.iload_n 3, 1) := by decide +kernel
theorem dX3_perform_145 : decode cX3_perform 145 = .ok (.laload, 1) := by decide +kernel
theorem dX3_perform_146 : decode cX3_perform 146 = .ok (.aload_n 0, 1) := by decide +kernel
theorem dX3_perform_147 : decode cX3_perform 147 = .ok (.getfield 32, 3) := by decide +kernel
theorem dX3_perform_150 : decode cX3_perform 150 = .ok (.iload 4, 2) := by decide +kernel
theorem dX3_perform_152 : decode cX3_perform 152 = .ok (.laload, 1) := by decide +kernel
theorem dX3_perform_153 : decode cX3_perform 153 = .ok (.lsub, 1) := by decide +kernel
theorem dX3_perform_154 : decode cX3_perform 154 = .ok (.invokevirtual 124, 3) := by decide +kernel
theorem dX3_perform_157 : decode cX3_perform 157 = .ok (.ireturn, 1) := by decide +kernel
theorem dX3_perform_158 : decode cX3_perform 158 = .ok (.aload_n 0, 1) := by decide +kernel
theorem dX3_perform_159 : decode cX3_perform 159 = .ok (.getfield 32, 3) := by decide +kernel
theorem dX3_perform_162 : decode cX3_perform 162 = .ok (.iload 4, 2) := by decide +kernel
theorem dX3_perform_164 : decode cX3_perform 164 = .ok (.laload, 1) := by decide +kernel
theorem dX3_perform_165 : decode cX3_perform 165 = .ok (.lconst 0, 1) := by decide +kernel
theorem dX3_perform_166 : decode cX3_perform 166 = .ok (.lcmp, 1) := by decide +kernel
theorem dX3_perform_167 : decode cX3_perform 167 = .ok (.ifCond .ne 7, 3) := by decide +kernel
theorem dX3_perform_170 : decode cX3_perform 170 = .ok (.iconst 5, 1) := by decide +kernel
theorem dX3_perform_171 : decode cX3_perform 171 = .ok (.goto 22, 3) := by decide +kernel
theorem dX3_perform_174 : decode cX3_perform 174 = .ok (.aload_n 0, 1) := by decide +kernel
theorem dX3_perform_175 : decode cX3_perform 175 = .ok (.iload_n 2, 1) := by decide +kernel
theorem dX3_perform_176 : decode cX3_perform 176 = .ok (.aload_n 0, 1) := by decide +kernel
theorem dX3_perform_177 : decode cX3_perform 177 = .ok (.getfield 32, 3) := by decide +kernel
theorem dX3_perform_180 : decode cX3_perform 180 = .ok (.iload_n 3, 1) := by decide +kernel
theorem dX3_perform_181 : decode cX3_perform 181 = .ok (.laload, 1) := by decide +kernel
theorem dX3_perform_182 : decode cX3_perform 182 = .ok (.aload_n 0, 1) := by decide +kernel
theorem dX3_perform_183 : decode cX3_perform 183 = .ok (.getfield 32, 3) := by decide +kernel
theorem dX3_perform_186 : decode cX3_perform 186 = .ok (.iload 4, 2) := by decide +kernel
theorem dX3_perform_188 : decode cX3_perform 188 = .ok (.laload, 1) := by decide +kernel
theorem dX3_perform_189 : decode cX3_perform 189 = .ok (.ldiv, 1) := by decide +kernel
theorem dX3_perform_190 : decode cX3_perform 190 = .ok (.invokevirtual 124, 3) := by decide +kernel
theorem dX3_perform_193 : decode cX3_perform 193 = .ok (.ireturn, 1) := by decide +kernel
theorem dX3_perform_194 : decode cX3_perform 194 = .ok (.aload_n 0, 1) := by decide +kernel
theorem dX3_perform_195 : decode cX3_perform 195 = .ok (.iload_n 2, 1) := by decide +kernel
theorem dX3_perform_196 : decode cX3_perform 196 = .ok (.iload_n 3, 1) := by decide +kernel
theorem dX3_perform_197 : decode cX3_perform 197 = .ok (.iload 4, 2) := by decide +kernel
theorem dX3_perform_199 : decode cX3_perform 199 = .ok (.invokevirtual 128, 3) := by decide +kernel
theorem dX3_perform_202 : decode cX3_perform 202 = .ok (.ireturn, 1) := by decide +kernel
theorem dX3_perform_203 : decode cX3_perform 203 = .ok (.aload_n 0, 1) := by decide +kernel
theorem dX3_perform_204 : decode cX3_perform 204 = .ok (.iload_n 2, 1) := by decide +kernel
theorem dX3_perform_205 : decode cX3_perform 205 = .ok (.iload_n 3, 1) := by decide +kernel
theorem dX3_perform_206 : decode cX3_perform 206 = .ok (.iconst 1, 1) := by decide +kernel
theorem dX3_perform_207 : decode cX3_perform 207 = .ok (.aload_n 0, 1) := by decide +kernel
theorem dX3_perform_208 : decode cX3_perform 208 = .ok (.getfield 32, 3) := by decide +kernel
theorem dX3_perform_211 : decode cX3_perform 211 = .ok (.iload 4, 2) := by decide +kernel
theorem dX3_perform_213 : decode cX3_perform 213 = .ok (.laload, 1) := by decide +kernel
theorem dX3_perform_214 : decode cX3_perform 214 = .ok (.invokevirtual 132, 3) := by decide +kernel
theorem dX3_perform_217 : decode cX3_perform 217 = .ok (.ireturn, 1) := by decide +kernel
theorem dX3_perform_218 : decode cX3_perform 218 = .ok (.aload_n 0, 1) := by decide +kernel
theorem dX3_perform_219 : decode cX3_perform 219 = .ok (.iload_n 2, 1) := by decide +kernel
theorem dX3_perform_220 : decode cX3_perform 220 = .ok (.iload_n 3, 1) := by decide +kernel
theorem dX3_perform_221 : decode cX3_perform 221 = .ok (.iload 4, 2) := by decide +kernel
theorem dX3_perform_223 : decode cX3_perform 223 = .ok (.invokevirtual 136, 3) := by decide +kernel
theorem dX3_perform_226 : decode cX3_perform 226 = .ok (.ireturn, 1) := by decide +kernel
theorem dX3_perform_227 : decode cX3_perform 227 = .ok (.aload_n 0, 1) := by decide +kernel
theorem dX3_perform_228 : decode cX3_perform 228 = .ok (.iload_n 2, 1) := by decide +kernel
theorem dX3_perform_229 : decode cX3_perform 229 = .ok (.iload_n 3, 1) := by decide +kernel
theorem dX3_perform_230 : decode cX3_perform 230 = .ok (.iconst 2, 1) := by decide +kernel
theorem dX3_perform_231 : decode cX3_perform 231 = .ok (.aload_n 0, 1) := by decide +kernel
theorem dX3_perform_232 : decode cX3_perform 232 = .ok (.getfield 28, 3) := by decide +kernel
theorem dX3_perform_235 : decode cX3_perform 235 = .ok (.iload 4, 2) := by decide +kernel
theorem dX3_perform_237 : decode cX3_perform 237 = .ok (.iaload, 1) := by decide +kernel
theorem dX3_perform_238 : decode cX3_perform 238 = .ok (.i2l, 1) := by decide +kernel
theorem dX3_perform_239 : decode cX3_perform 239 = .ok (.invokevirtual 132, 3) := by decide +kernel
theorem dX3_perform_242 : decode cX3_perform 242 = .ok (.ireturn, 1) := by decide +kernel
theorem dX3_perform_243 : decode cX3_perform 243 = .ok (.aload_n 0, 1) := by decide +kernel
theorem dX3_perform_244 : decode cX3_perform 244 = .ok (.iload_n 2, 1) := by decide +kernel
theorem dX3_perform_245 : decode cX3_perform 245 = .ok (.iload_n 3, 1) := by decide +kernel
theorem dX3_perform_246 : decode cX3_perform 246 = .ok (.iload 4, 2) := by decide +kernel
theorem dX3_perform_248 : decode cX3_perform 248 = .ok (.aload_n 1, 1) := by decide +kernel
theorem dX3_perform_249 : decode cX3_perform 249 = .ok (.getfield 139, 3) := by decide +kernel
theorem dX3_perform_252 : decode cX3_perform 252 = .ok (.invokevirtual 142, 3) := by decide +kernel
theorem dX3_perform_255 : decode cX3_perform 255 = .ok (.ireturn, 1) := by decide +kernel
theorem dX3_perform_256 : decode cX3_perform 256 = .ok (.aload_n 0, 1) := by decide +kernel
theorem dX3_perform_257 : decode cX3_perform 257 = .ok (.iload_n 2, 1) := by decide +kernel
theorem dX3_perform_258 : decode cX3_perform 258 = .ok (.iload_n 3, 1) := by decide +kernel
theorem dX3_perform_259 : decode cX3_perform 259 = .ok (.iload 4, 2) := by decide +kernel
theorem dX3_perform_261 : decode cX3_perform 261 = .ok (.aload_n 1, 1) := by decide +kernel
theorem dX3_perform_262 : decode cX3_perform 262 = .ok (.getfield 139, 3) := by decide +kernel
theorem dX3_perform_265 : decode cX3_perform 265 = .ok (.invokevirtual 146, 3) := by decide +kernel
theorem dX3_perform_268 : decode cX3_perform 268 = .ok (.ireturn, 1) := by decide +kernel
theorem dX3_perform_269 : decode cX3_perform 269 = .ok (.aload_n 0, 1) := by decide +kernel
theorem dX3_perform_270 : decode cX3_perform 270 = .ok (.iload_n 2, 1) := by decide +kernel
theorem dX3_perform_271 : decode cX3_perform 271 = .ok (.iload_n 3, 1) := by decide +kernel
theorem dX3_perform_272 : decode cX3_perform 272 = .ok (.aload_n 0, 1) := by decide +kernel
theorem dX3_perform_273 : decode cX3_perform 273 = .ok (.getfield 32, 3) := by decide +kernel
theorem dX3_perform_276 : decode cX3_perform 276 = .ok (.iload 4, 2) := by decide +kernel
theorem dX3_perform_278 : decode cX3_perform 278 = .ok (.laload, 1) := by decide +kernel
theorem dX3_perform_279 : decode cX3_perform 279 = .ok (.invokevirtual 149, 3) := by decide +kernel
theorem dX3_perform_282 : decode cX3_perform 282 = .ok (.ireturn, 1) := by decide +kernel
theorem dX3_perform_283 : decode cX3_perform 283 = .ok (.aload_n 0, 1) := by decide +kernel
theorem dX3_perform_284 : decode cX3_perform 284 = .ok (.aload_n 1, 1) := by decide +kernel
theorem dX3_perform_285 : decode cX3_perform 285 = .ok (.invokevirtual 153, 3) := by decide +kernel
theorem dX3_perform_288 : decode cX3_perform 288 = .ok (.ireturn, 1) := by decide +kernel
theorem dX3_perform_289 : decode cX3_perform 289 = .ok (.aload_n 0, 1) := by decide +kernel
theorem dX3_perform_290 : decode cX3_perform 290 = .ok (.iload_n 2, 1) := by decide +kernel
theorem dX3_perform_291 : decode cX3_perform 291 = .ok (.aload_n 0, 1) := by decide +kernel
theorem dX3_perform_292 : decode cX3_perform 292 = .ok (.getfield 28, 3) := by decide +kernel
theorem dX3_perform_295 : decode cX3_perform 295 = .ok (.iload_n 3, 1) := by decide +kernel
theorem dX3_perform_296 : decode cX3_perform 296 = .ok (.iaload, 1) := by decide +kernel
theorem dX3_perform_297 : decode cX3_perform 297 = .ok (.aload_n 0, 1) := by decide +kernel
theorem dX3_perform_298 : decode cX3_perform 298 = .ok (.getfield 28, 3) := by decide +kernel
theorem dX3_perform_301 : decode cX3_perform 301 = .ok (.iload 4, 2) := by decide +kernel
theorem dX3_perform_303 : decode cX3_perform 303 = .ok (.iaload, 1) := by decide +kernel
theorem dX3_perform_304 : decode cX3_perform 304 = .ok (.if_icmp .ne 7, 3) := by decide +kernel
theorem dX3_perform_307 : decode cX3_perform 307 = .ok (.lconst 1, 1) := by decide +kernel
theorem dX3_perform_308 : decode cX3_perform 308 = .ok (.goto 4, 3) := by decide +kernel
